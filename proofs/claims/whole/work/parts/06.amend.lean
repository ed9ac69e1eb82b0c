section
variable {L p : Nat} {st : Int32} {R M O A B C : Nat → Int32}
/-- amend: both sides answer alike and end in related states -/
def tr_Am (L p : Nat) (st : Int32) (R M O A B C : Nat → Int32) (i w : Int32) : Prop :=
  ∃ (r : Int32) (u : SX) (v : SY), tr_Rel u v ∧
    (∀ post : Int32 → SX → Prop, post r u → wpX_amend post (nI L, nI p, st, R, M, O, A, B, C) i w) ∧
    (∀ post : Int32 → SY → Prop, post r v → wpY_amend post (nI L, nI p, st, O, A, B, C, R, M) i w)
theorem tr_a0 (ok : tr_ok L p O A B C) {i w : Int32} (h0 : ¬ i < 0) (hL : ¬ nI L ≤ i) (hq : i.toNatClampNeg < L) (hi : vp_in i 24) (e : O i.toNatClampNeg = 0) : tr_Am L p st R M O A B C i w := by
  refine ⟨-1, _, _, tr_rel (st := st) (R := R) (M := M) (ok), fun post h => ?_, fun post h => ?_⟩
  · unfold wpX_amend wpX_isInstruction
    exact br_f h0 (br_f hL (br_f tr_10 ⟨hi, nm_r e (br_t (by decide) h)⟩))
  · unfold wpY_amend
    exact br_f h0 (br_f hL ⟨hi, br_t (by rw [e]; decide) h⟩)
theorem tr_a1 (ok : tr_ok L p O A B C) {i w : Int32} (h0 : ¬ i < 0) (hL : ¬ nI L ≤ i) (hq : i.toNatClampNeg < L) (hi : vp_in i 24) (e : O i.toNatClampNeg = 1) : tr_Am L p st R M O A B C i w := by
  refine ⟨-1, _, _, tr_rel (st := st) (R := R) (M := M) (ok), fun post h => ?_, fun post h => ?_⟩
  · unfold wpX_amend wpX_isInstruction
    exact br_f h0 (br_f hL (br_f tr_10 ⟨hi, nm_r e (br_t (by decide) h)⟩))
  · unfold wpY_amend
    exact br_f h0 (br_f hL ⟨hi, br_t (by rw [e]; decide) h⟩)
theorem tr_a2 (ok : tr_ok L p O A B C) {i w : Int32} (h0 : ¬ i < 0) (hL : ¬ nI L ≤ i) (hq : i.toNatClampNeg < L) (hi : vp_in i 24) (e : O i.toNatClampNeg = 2) : tr_Am L p st R M O A B C i w := by
  refine ⟨-1, _, _, tr_rel (st := st) (R := R) (M := M) (ok), fun post h => ?_, fun post h => ?_⟩
  · unfold wpX_amend wpX_isInstruction
    exact br_f h0 (br_f hL (br_f tr_10 ⟨hi, nm_r e (br_t (by decide) h)⟩))
  · unfold wpY_amend
    exact br_f h0 (br_f hL ⟨hi, br_t (by rw [e]; decide) h⟩)
theorem tr_a3 (ok : tr_ok L p O A B C) {i w : Int32} (h0 : ¬ i < 0) (hL : ¬ nI L ≤ i) (hq : i.toNatClampNeg < L) (hi : vp_in i 24) (e : O i.toNatClampNeg = 3) : tr_Am L p st R M O A B C i w := by
  refine ⟨-1, _, _, tr_rel (st := st) (R := R) (M := M) (ok), fun post h => ?_, fun post h => ?_⟩
  · unfold wpX_amend wpX_isInstruction
    exact br_f h0 (br_f hL (br_f tr_10 ⟨hi, nm_r e (br_t (by decide) h)⟩))
  · unfold wpY_amend
    exact br_f h0 (br_f hL ⟨hi, br_t (by rw [e]; decide) h⟩)
theorem tr_a4 (ok : tr_ok L p O A B C) {i w : Int32} (h0 : ¬ i < 0) (hL : ¬ nI L ≤ i) (hq : i.toNatClampNeg < L) (hi : vp_in i 24) (e : O i.toNatClampNeg = 4) : tr_Am L p st R M O A B C i w := by
  have T := ok.2.2 i.toNatClampNeg hq
  refine ⟨i, _, _, tr_rel (st := st) (R := R) (M := M) (tr_okZ (v := w) ok (by rw [e] at T ⊢; exact tr_i4.mpr (tr_i4.mp T))), fun post h => ?_, fun post h => ?_⟩
  · unfold wpX_amend wpX_isInstruction
    exact br_f h0 (br_f hL (br_f tr_10 ⟨hi, nm_r e (br_f (by decide) (br_f (by decide) (br_t rfl ⟨hi, nm_e h⟩)))⟩))
  · unfold wpY_amend
    exact br_f h0 (br_f hL ⟨hi, br_f (by rw [e]; decide) ⟨hi, br_f (by rw [e]; decide) ⟨hi, br_t (by rw [e]; decide) ⟨hi, br_f (by rw [e]; decide) ⟨hi, br_t (by rw [e]; decide) ⟨hi, nm_e h⟩⟩⟩⟩⟩⟩)
theorem tr_a5 (ok : tr_ok L p O A B C) {i w : Int32} (h0 : ¬ i < 0) (hL : ¬ nI L ≤ i) (hq : i.toNatClampNeg < L) (hi : vp_in i 24) (e : O i.toNatClampNeg = 5) : tr_Am L p st R M O A B C i w := by
  have T := ok.2.2 i.toNatClampNeg hq
  refine ⟨i, _, _, tr_rel (st := st) (R := R) (M := M) (tr_okZ (v := w) ok (by rw [e] at T ⊢; exact tr_i5.mpr (tr_i5.mp T))), fun post h => ?_, fun post h => ?_⟩
  · unfold wpX_amend wpX_isInstruction
    exact br_f h0 (br_f hL (br_f tr_10 ⟨hi, nm_r e (br_f (by decide) (br_f (by decide) (br_f (by decide) (br_t rfl ⟨hi, nm_e h⟩))))⟩))
  · unfold wpY_amend
    exact br_f h0 (br_f hL ⟨hi, br_f (by rw [e]; decide) ⟨hi, br_f (by rw [e]; decide) ⟨hi, br_t (by rw [e]; decide) ⟨hi, br_f (by rw [e]; decide) ⟨hi, br_t (by rw [e]; decide) ⟨hi, nm_e h⟩⟩⟩⟩⟩⟩)
theorem tr_a6 (ok : tr_ok L p O A B C) {i w : Int32} (h0 : ¬ i < 0) (hL : ¬ nI L ≤ i) (hq : i.toNatClampNeg < L) (hi : vp_in i 24) (e : O i.toNatClampNeg = 6) : tr_Am L p st R M O A B C i w := by
  have T := ok.2.2 i.toNatClampNeg hq
  refine ⟨i, _, _, tr_rel (st := st) (R := R) (M := M) (tr_okZ (v := w) ok (by rw [e] at T ⊢; exact tr_i6.mpr (tr_i6.mp T))), fun post h => ?_, fun post h => ?_⟩
  · unfold wpX_amend wpX_isInstruction
    exact br_f h0 (br_f hL (br_f tr_10 ⟨hi, nm_r e (br_f (by decide) (br_f (by decide) (br_f (by decide) (br_f (by decide) (br_t rfl ⟨hi, nm_e h⟩)))))⟩))
  · unfold wpY_amend
    exact br_f h0 (br_f hL ⟨hi, br_f (by rw [e]; decide) ⟨hi, br_f (by rw [e]; decide) ⟨hi, br_t (by rw [e]; decide) ⟨hi, br_f (by rw [e]; decide) ⟨hi, br_t (by rw [e]; decide) ⟨hi, nm_e h⟩⟩⟩⟩⟩⟩)
theorem tr_a7 (ok : tr_ok L p O A B C) {i w : Int32} (h0 : ¬ i < 0) (hL : ¬ nI L ≤ i) (hq : i.toNatClampNeg < L) (hi : vp_in i 24) (e : O i.toNatClampNeg = 7) : tr_Am L p st R M O A B C i w := by
  have T := ok.2.2 i.toNatClampNeg hq
  by_cases g : vp_in w 24
  · refine ⟨i, _, _, tr_rel (st := st) (R := R) (M := M) (tr_okY (v := w) ok (by rw [e] at T ⊢; exact tr_i7.mpr ⟨(tr_i7.mp T).1, g⟩)), fun post h => ?_, fun post h => ?_⟩
    · unfold wpX_amend wpX_isInstruction
      exact br_f h0 (br_f hL (br_f tr_10 ⟨hi, nm_r e (br_f (by decide) (br_f (by decide) (br_f (by decide) (br_f (by decide) (br_f (by decide) (br_t rfl (tr_xTgt (fun _ => br_f tr_10 ⟨hi, nm_e h⟩) (fun n => absurd g n))))))))⟩))
    · unfold wpY_amend
      exact br_f h0 (br_f hL ⟨hi, br_f (by rw [e]; decide) ⟨hi, br_f (by rw [e]; decide) ⟨hi, br_f (by rw [e]; decide) (tr_yTgt (fun _ => br_f tr_10 ⟨hi, br_f (by rw [e]; decide) ⟨hi, br_f (by rw [e]; decide) ⟨hi, nm_e h⟩⟩⟩) (fun n => absurd g n))⟩⟩⟩)
  · refine ⟨-1, _, _, tr_rel (st := st) (R := R) (M := M) (ok), fun post h => ?_, fun post h => ?_⟩
    · unfold wpX_amend wpX_isInstruction
      exact br_f h0 (br_f hL (br_f tr_10 ⟨hi, nm_r e (br_f (by decide) (br_f (by decide) (br_f (by decide) (br_f (by decide) (br_f (by decide) (br_t rfl (tr_xTgt (fun n => absurd n g) (fun _ => br_t rfl h))))))))⟩))
    · unfold wpY_amend
      exact br_f h0 (br_f hL ⟨hi, br_f (by rw [e]; decide) ⟨hi, br_f (by rw [e]; decide) ⟨hi, br_f (by rw [e]; decide) (tr_yTgt (fun n => absurd n g) (fun _ => br_t rfl h))⟩⟩⟩)
theorem tr_a8 (ok : tr_ok L p O A B C) {i w : Int32} (h0 : ¬ i < 0) (hL : ¬ nI L ≤ i) (hq : i.toNatClampNeg < L) (hi : vp_in i 24) (e : O i.toNatClampNeg = 8) : tr_Am L p st R M O A B C i w := by
  have T := ok.2.2 i.toNatClampNeg hq
  by_cases g : vp_in w 24
  · refine ⟨i, _, _, tr_rel (st := st) (R := R) (M := M) (tr_okY (v := w) ok (by rw [e] at T ⊢; exact tr_i8.mpr ⟨(tr_i8.mp T).1, g⟩)), fun post h => ?_, fun post h => ?_⟩
    · unfold wpX_amend wpX_isInstruction
      exact br_f h0 (br_f hL (br_f tr_10 ⟨hi, nm_r e (br_f (by decide) (br_f (by decide) (br_f (by decide) (br_f (by decide) (br_f (by decide) (br_f (by decide) (br_t rfl (tr_xTgt (fun _ => br_f tr_10 ⟨hi, nm_e h⟩) (fun n => absurd g n)))))))))⟩))
    · unfold wpY_amend
      exact br_f h0 (br_f hL ⟨hi, br_f (by rw [e]; decide) ⟨hi, br_f (by rw [e]; decide) ⟨hi, br_f (by rw [e]; decide) (tr_yTgt (fun _ => br_f tr_10 ⟨hi, br_f (by rw [e]; decide) ⟨hi, br_f (by rw [e]; decide) ⟨hi, nm_e h⟩⟩⟩) (fun n => absurd g n))⟩⟩⟩)
  · refine ⟨-1, _, _, tr_rel (st := st) (R := R) (M := M) (ok), fun post h => ?_, fun post h => ?_⟩
    · unfold wpX_amend wpX_isInstruction
      exact br_f h0 (br_f hL (br_f tr_10 ⟨hi, nm_r e (br_f (by decide) (br_f (by decide) (br_f (by decide) (br_f (by decide) (br_f (by decide) (br_f (by decide) (br_t rfl (tr_xTgt (fun n => absurd n g) (fun _ => br_t rfl h)))))))))⟩))
    · unfold wpY_amend
      exact br_f h0 (br_f hL ⟨hi, br_f (by rw [e]; decide) ⟨hi, br_f (by rw [e]; decide) ⟨hi, br_f (by rw [e]; decide) (tr_yTgt (fun n => absurd n g) (fun _ => br_t rfl h))⟩⟩⟩)
theorem tr_a9 (ok : tr_ok L p O A B C) {i w : Int32} (h0 : ¬ i < 0) (hL : ¬ nI L ≤ i) (hq : i.toNatClampNeg < L) (hi : vp_in i 24) (e : O i.toNatClampNeg = 9) : tr_Am L p st R M O A B C i w := by
  have T := ok.2.2 i.toNatClampNeg hq
  by_cases g : vp_in w 24
  · refine ⟨i, _, _, tr_rel (st := st) (R := R) (M := M) (tr_okX (v := w) ok (by rw [e]; exact tr_i9.mpr g)), fun post h => ?_, fun post h => ?_⟩
    · unfold wpX_amend wpX_isInstruction
      exact br_f h0 (br_f hL (br_f tr_10 ⟨hi, nm_r e (br_f (by decide) (br_f (by decide) (br_f (by decide) (br_f (by decide) (br_f (by decide) (br_f (by decide) (br_f (by decide) (br_t rfl (tr_xTgt (fun _ => br_f tr_10 ⟨hi, nm_e h⟩) (fun n => absurd g n))))))))))⟩))
    · unfold wpY_amend
      exact br_f h0 (br_f hL ⟨hi, br_f (by rw [e]; decide) ⟨hi, br_f (by rw [e]; decide) ⟨hi, br_f (by rw [e]; decide) (tr_yTgt (fun _ => br_f tr_10 ⟨hi, br_t e ⟨hi, nm_e h⟩⟩) (fun n => absurd g n))⟩⟩⟩)
  · refine ⟨-1, _, _, tr_rel (st := st) (R := R) (M := M) (ok), fun post h => ?_, fun post h => ?_⟩
    · unfold wpX_amend wpX_isInstruction
      exact br_f h0 (br_f hL (br_f tr_10 ⟨hi, nm_r e (br_f (by decide) (br_f (by decide) (br_f (by decide) (br_f (by decide) (br_f (by decide) (br_f (by decide) (br_f (by decide) (br_t rfl (tr_xTgt (fun n => absurd n g) (fun _ => br_t rfl h))))))))))⟩))
    · unfold wpY_amend
      exact br_f h0 (br_f hL ⟨hi, br_f (by rw [e]; decide) ⟨hi, br_f (by rw [e]; decide) ⟨hi, br_f (by rw [e]; decide) (tr_yTgt (fun n => absurd n g) (fun _ => br_t rfl h))⟩⟩⟩)
theorem tr_a10 (ok : tr_ok L p O A B C) {i w : Int32} (h0 : ¬ i < 0) (hL : ¬ nI L ≤ i) (hq : i.toNatClampNeg < L) (hi : vp_in i 24) (e : O i.toNatClampNeg = 10) : tr_Am L p st R M O A B C i w := by
  refine ⟨-1, _, _, tr_rel (st := st) (R := R) (M := M) (ok), fun post h => ?_, fun post h => ?_⟩
  · unfold wpX_amend wpX_isInstruction
    exact br_f h0 (br_f hL (br_f tr_10 ⟨hi, nm_r e (br_f (by decide) (br_t (by decide) h))⟩))
  · unfold wpY_amend
    exact br_f h0 (br_f hL ⟨hi, br_f (by rw [e]; decide) ⟨hi, br_t e h⟩⟩)
theorem tr_am (ok : tr_ok L p O A B C) (i w : Int32) : tr_Am L p st R M O A B C i w := by
  rcases tr_ix i ok.1 with h0 | ⟨h0, hL⟩ | ⟨h0, hL, hq, hi⟩
  · refine ⟨-1, _, _, tr_rel (st := st) (R := R) (M := M) ok, fun post h => ?_, fun post h => ?_⟩
    · unfold wpX_amend wpX_isInstruction
      exact br_t h0 (br_t rfl h)
    · unfold wpY_amend
      exact br_t h0 h
  · refine ⟨-1, _, _, tr_rel (st := st) (R := R) (M := M) ok, fun post h => ?_, fun post h => ?_⟩
    · unfold wpX_amend wpX_isInstruction
      exact br_f h0 (br_t hL (br_t rfl h))
    · unfold wpY_amend
      exact br_f h0 (br_t hL h)
  · rcases ok.2.2 i.toNatClampNeg hq with ⟨e | e | e | e, _⟩ | ⟨e | e | e, _⟩ | ⟨e | e, _⟩ | ⟨e, _⟩ | e
    · exact tr_a0 ok h0 hL hq hi e
    · exact tr_a1 ok h0 hL hq hi e
    · exact tr_a2 ok h0 hL hq hi e
    · exact tr_a3 ok h0 hL hq hi e
    · exact tr_a4 ok h0 hL hq hi e
    · exact tr_a5 ok h0 hL hq hi e
    · exact tr_a6 ok h0 hL hq hi e
    · exact tr_a7 ok h0 hL hq hi e
    · exact tr_a8 ok h0 hL hq hi e
    · exact tr_a9 ok h0 hL hq hi e
    · exact tr_a10 ok h0 hL hq hi e
end
