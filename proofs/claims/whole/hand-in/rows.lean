section
theorem pk_us {f : Nat → Int32} {k : Nat} {x : Int32} : upd f k x k = x := if_pos rfl
theorem pk_un {f : Nat → Int32} {k j : Nat} {x : Int32} (h : j ≠ k) : upd f k x j = f j := if_neg h
theorem pk_and (x : Int32) {m : Int32} (k : Nat) (hm : m.toBitVec.toNat = 2 ^ k - 1) : x &&& m = nI (x.toBitVec.toNat % 2 ^ k) := by
  apply Int32.toBitVec_inj.mp
  apply BitVec.eq_of_toNat_eq
  rw [Int32.toBitVec_and, BitVec.toNat_and, hm, Nat.and_two_pow_sub_one_eq_mod]
  show _ = (BitVec.ofNat 32 _).toNat
  rw [BitVec.toNat_ofNat]
  exact (Nat.mod_eq_of_lt (Nat.lt_of_le_of_lt (Nat.mod_le _ _) x.toBitVec.isLt)).symm
theorem pk_andE (x : Int32) {m : Int32} (k : Nat) (hm : m.toBitVec.toNat = 2 ^ k - 1) : ∃ j : Nat, j < 2 ^ k ∧ x &&& m = nI j := ⟨_, Nat.mod_lt _ (Nat.two_pow_pos k), pk_and x k hm⟩
theorem pk_andIn (x : Int32) {m : Int32} (k : Nat) (hm : m.toBitVec.toNat = 2 ^ k - 1) (hk : k ≤ 30) : vp_in (x &&& m) (2 ^ k) := by
  obtain ⟨j, hj, e⟩ := pk_andE x k hm
  rw [e]
  exact vp_in_nI hj (Nat.lt_of_le_of_lt (Nat.pow_le_pow_right (by decide) hk) (by decide))
/-- what a stored instruction is: an op with the operands it has within their ranges -/
def tr_ins (o x y z : Int32) : Prop :=
  ((o = 0 ∨ o = 1 ∨ o = 2 ∨ o = 3) ∧ vp_in x 8 ∧ vp_in y 8 ∧ vp_in z 8) ∨
  ((o = 4 ∨ o = 5 ∨ o = 6) ∧ vp_in x 8 ∧ vp_in y 8) ∨
  ((o = 7 ∨ o = 8) ∧ vp_in x 8 ∧ vp_in y 24) ∨
  (o = 9 ∧ vp_in x 24) ∨ o = 10
/-- the program's length, the place, and every instruction below the length -/
def tr_ok (L p : Nat) (O A B C : Nat → Int32) : Prop := L ≤ 24 ∧ p ≤ 24 ∧ ∀ i, i < L → tr_ins (O i) (A i) (B i) (C i)
theorem tr_0 : (0 : Int32).toInt = 0 := by decide
theorem tr_7 : (7 : Int32).toInt = 7 := by decide
theorem tr_8 : (8 : Int32).toInt = 8 := by decide
theorem tr_15 : (15 : Int32).toInt = 15 := by decide
theorem tr_16 : (16 : Int32).toInt = 16 := by decide
theorem tr_23 : (23 : Int32).toInt = 23 := by decide
theorem tr_24 : (24 : Int32).toInt = 24 := by decide
theorem tr_m15 (x : Int32) : vp_in (x &&& 15) 16 := pk_andIn x 4 (by decide) (by decide)
theorem tr_okE {L p : Nat} {O A B C : Nat → Int32} (h : tr_ok L p O A B C) (hL : L < 24) {o x y z : Int32} (hi : tr_ins o x y z) : tr_ok (L + 1) p (upd O L o) (upd A L x) (upd B L y) (upd C L z) := by
  refine ⟨by omega, h.2.1, fun i hi' => ?_⟩
  by_cases e : i = L
  · subst e
    rw [pk_us, pk_us, pk_us, pk_us]
    exact hi
  · rw [pk_un e, pk_un e, pk_un e, pk_un e]
    exact h.2.2 i (by omega)
theorem tr_okZ {L p : Nat} {O A B C : Nat → Int32} (h : tr_ok L p O A B C) {i : Nat} {v : Int32} (hi : tr_ins (O i) (A i) (B i) v) : tr_ok L p O A B (upd C i v) := by
  refine ⟨h.1, h.2.1, fun j hj => ?_⟩
  by_cases e : j = i
  · subst e
    rw [pk_us]
    exact hi
  · rw [pk_un e]
    exact h.2.2 j hj
theorem tr_okY {L p : Nat} {O A B C : Nat → Int32} (h : tr_ok L p O A B C) {i : Nat} {v : Int32} (hi : tr_ins (O i) (A i) v (C i)) : tr_ok L p O A (upd B i v) C := by
  refine ⟨h.1, h.2.1, fun j hj => ?_⟩
  by_cases e : j = i
  · subst e
    rw [pk_us]
    exact hi
  · rw [pk_un e]
    exact h.2.2 j hj
theorem tr_okX {L p : Nat} {O A B C : Nat → Int32} (h : tr_ok L p O A B C) {i : Nat} {v : Int32} (hi : tr_ins (O i) v (B i) (C i)) : tr_ok L p O (upd A i v) B C := by
  refine ⟨h.1, h.2.1, fun j hj => ?_⟩
  by_cases e : j = i
  · subst e
    rw [pk_us]
    exact hi
  · rw [pk_un e]
    exact h.2.2 j hj
/-- an array with its first n cells made 0, as a loop from 0 makes it -/
def tr_z (f : Nat → Int32) : Nat → (Nat → Int32)
  | 0 => f
  | n + 1 => upd (tr_z f n) n 0
/-- the two states side by side: one length, one place, one status, the same arrays -/
def tr_Rel (u : SX) (v : SY) : Prop := ∃ (L p : Nat) (st : Int32) (R M O A B C : Nat → Int32), u = (nI L, nI p, st, R, M, O, A, B, C) ∧ v = (nI L, nI p, st, O, A, B, C, R, M) ∧ tr_ok L p O A B C
theorem tr_rel {L p : Nat} {st : Int32} {R M O A B C : Nat → Int32} (h : tr_ok L p O A B C) : tr_Rel (nI L, nI p, st, R, M, O, A, B, C) (nI L, nI p, st, O, A, B, C, R, M) := ⟨L, p, st, R, M, O, A, B, C, rfl, rfl, h⟩
theorem tr_10 : ¬ (1 : Int32) = 0 := by decide
theorem tr_n0 : narrow .boolean (.int 0) = .int 0 := by decide
theorem tr_n1 : narrow .boolean (.int 1) = .int 1 := by decide
/-- the three forms in which a range is tested -/
theorem tr_rA {P Q : Prop} {r c : Int32} {n : Nat} (hc : c.toInt = n) (h1 : vp_in r n → Q) (h0 : ¬ vp_in r n → P) : (r < 0 → P) ∧ (¬ r < 0 → ((c ≤ r → P) ∧ (¬ c ≤ r → Q))) := by
  rw [vp_in_iff] at h1 h0
  rw [Int32.lt_iff_toInt_lt, Int32.le_iff_toInt_le, hc, tr_0]
  exact ⟨fun a => h0 (by omega), fun a => ⟨fun b => h0 (by omega), fun b => h1 (by omega)⟩⟩
theorem tr_rB {P Q : Prop} {r c : Int32} {n : Nat} (hc : c.toInt + 1 = n) (h1 : vp_in r n → Q) (h0 : ¬ vp_in r n → P) : (r < 0 → P) ∧ (¬ r < 0 → ((c < r → P) ∧ (¬ c < r → Q))) := by
  rw [vp_in_iff] at h1 h0
  rw [Int32.lt_iff_toInt_lt, Int32.lt_iff_toInt_lt, tr_0]
  exact ⟨fun a => h0 (by omega), fun a => ⟨fun b => h0 (by omega), fun b => h1 (by omega)⟩⟩
theorem tr_rC {P Q : Prop} {r c : Int32} {n : Nat} (hc : c.toInt + 1 = n) (h1 : vp_in r n → Q) (h0 : ¬ vp_in r n → P) : (r < 0 → P) ∧ (¬ r < 0 → ((r ≤ c → Q) ∧ (¬ r ≤ c → P))) := by
  rw [vp_in_iff] at h1 h0
  rw [Int32.lt_iff_toInt_lt, Int32.le_iff_toInt_le, tr_0]
  exact ⟨fun a => h0 (by omega), fun a => ⟨fun b => h1 (by omega), fun b => h0 (by omega)⟩⟩
theorem tr_in24 {x : Int32} {L : Nat} (h : vp_in x L) (hL : L ≤ 24) : vp_in x 24 := by
  rw [vp_in_iff] at h ⊢
  omega
/-- a number is below 0, at or past L, or an index below L -/
theorem tr_ix (x : Int32) {L : Nat} (hL : L ≤ 24) : x < 0 ∨ (¬ x < 0 ∧ nI L ≤ x) ∨ (¬ x < 0 ∧ ¬ nI L ≤ x ∧ x.toNatClampNeg < L ∧ vp_in x 24) := by
  by_cases h : x < 0
  · exact Or.inl h
  · obtain ⟨j, hj, rfl⟩ := nI_of h
    by_cases h2 : j < L
    · refine Or.inr (Or.inr ⟨h, nI_ge h2 (by omega), ?_, vp_in_nI (by omega) (by omega)⟩)
      rw [nI_clamp hj]
      exact h2
    · exact Or.inr (Or.inl ⟨h, nI_le (by omega) hj⟩)
theorem tr_op {o : Int32} (h0 : ¬ o < 0) (h1 : ¬ 10 < o) : o = 0 ∨ o = 1 ∨ o = 2 ∨ o = 3 ∨ o = 4 ∨ o = 5 ∨ o = 6 ∨ o = 7 ∨ o = 8 ∨ o = 9 ∨ o = 10 := by
  obtain ⟨j, hj, rfl⟩ := nI_of2 (M := 10) (n := 10) (by decide) h0 (Int32.not_lt.mp h1)
  have : j = 0 ∨ j = 1 ∨ j = 2 ∨ j = 3 ∨ j = 4 ∨ j = 5 ∨ j = 6 ∨ j = 7 ∨ j = 8 ∨ j = 9 ∨ j = 10 := by omega
  rcases this with rfl | rfl | rfl | rfl | rfl | rfl | rfl | rfl | rfl | rfl | rfl <;> decide
theorem tr_i0 {x y z : Int32} : tr_ins 0 x y z ↔ (vp_in x 8 ∧ vp_in y 8 ∧ vp_in z 8) := by simp (decide := true) [tr_ins]
theorem tr_i1 {x y z : Int32} : tr_ins 1 x y z ↔ (vp_in x 8 ∧ vp_in y 8 ∧ vp_in z 8) := by simp (decide := true) [tr_ins]
theorem tr_i2 {x y z : Int32} : tr_ins 2 x y z ↔ (vp_in x 8 ∧ vp_in y 8 ∧ vp_in z 8) := by simp (decide := true) [tr_ins]
theorem tr_i3 {x y z : Int32} : tr_ins 3 x y z ↔ (vp_in x 8 ∧ vp_in y 8 ∧ vp_in z 8) := by simp (decide := true) [tr_ins]
theorem tr_i4 {x y z : Int32} : tr_ins 4 x y z ↔ (vp_in x 8 ∧ vp_in y 8) := by simp (decide := true) [tr_ins]
theorem tr_i5 {x y z : Int32} : tr_ins 5 x y z ↔ (vp_in x 8 ∧ vp_in y 8) := by simp (decide := true) [tr_ins]
theorem tr_i6 {x y z : Int32} : tr_ins 6 x y z ↔ (vp_in x 8 ∧ vp_in y 8) := by simp (decide := true) [tr_ins]
theorem tr_i7 {x y z : Int32} : tr_ins 7 x y z ↔ (vp_in x 8 ∧ vp_in y 24) := by simp (decide := true) [tr_ins]
theorem tr_i8 {x y z : Int32} : tr_ins 8 x y z ↔ (vp_in x 8 ∧ vp_in y 24) := by simp (decide := true) [tr_ins]
theorem tr_i9 {x y z : Int32} : tr_ins 9 x y z ↔ vp_in x 24 := by simp (decide := true) [tr_ins]
theorem tr_i10 {x y z : Int32} : tr_ins 10 x y z := by simp (decide := true) [tr_ins]
theorem tr_insR {o x y z : Int32} (h : tr_ins o x y z) : ¬ o < 0 ∧ ¬ 10 < o := by
  unfold tr_ins at h
  rcases h with ⟨rfl | rfl | rfl | rfl, _⟩ | ⟨rfl | rfl | rfl, _⟩ | ⟨rfl | rfl, _⟩ | ⟨rfl, _⟩ | rfl <;> decide
end
section
theorem tr_xReg {post : Int32 → Prop} {r : Int32} (h1 : vp_in r 8 → post 1) (h0 : ¬ vp_in r 8 → post 0) : wpX_isRegister post r := tr_rA tr_8 h1 h0
theorem tr_xTgt {post : Int32 → Prop} {r : Int32} (h1 : vp_in r 24 → post 1) (h0 : ¬ vp_in r 24 → post 0) : wpX_isTarget post r := tr_rA tr_24 h1 h0
theorem tr_xCel {post : Int32 → Prop} {r : Int32} (h1 : vp_in r 16 → post 1) (h0 : ¬ vp_in r 16 → post 0) : wpX_isCell post r := tr_rA tr_16 h1 h0
section
variable {n pc st : Int32} {O A B C R M : Nat → Int32}
theorem tr_yReg {post : Int32 → Prop} {r : Int32} (h1 : vp_in r 8 → post 1) (h0 : ¬ vp_in r 8 → post 0) : wpY_isRegister post (n, pc, st, O, A, B, C, R, M) r := tr_rB (c := 7) (n := 8) (by decide) h1 h0
theorem tr_yTgt {post : Int32 → Prop} {r : Int32} (h1 : vp_in r 24 → post 1) (h0 : ¬ vp_in r 24 → post 0) : wpY_isPlace post (n, pc, st, O, A, B, C, R, M) r := tr_rB (c := 23) (n := 24) (by decide) h1 h0
end
theorem tr_x60 {post : Int32 → Prop} {x y z : Int32} (h1 : (vp_in x 8 ∧ vp_in y 8 ∧ vp_in z 8) → post 1) (h0 : ¬ (vp_in x 8 ∧ vp_in y 8 ∧ vp_in z 8) → post 0) : wX_isWellFormed_60 post x y z := by
  unfold wX_isWellFormed_60
  refine tr_xReg (fun a => br_f tr_10 ?_) (fun a => br_t rfl (h0 fun t => a t.1))
  refine tr_xReg (fun b => br_f tr_10 ?_) (fun b => br_t rfl (h0 fun t => b t.2.1))
  exact tr_xReg (fun c => br_f tr_10 (h1 ⟨a, b, c⟩)) (fun c => br_t rfl (h0 fun t => c t.2.2))
theorem tr_x87 {post : Int32 → Prop} {x y : Int32} (h1 : (vp_in x 8 ∧ vp_in y 8) → post 1) (h0 : ¬ (vp_in x 8 ∧ vp_in y 8) → post 0) : wX_isWellFormed_87 post x y := by
  unfold wX_isWellFormed_87
  refine tr_xReg (fun a => br_f tr_10 ?_) (fun a => br_t rfl (h0 fun t => a t.1))
  exact tr_xReg (fun b => br_f tr_10 (h1 ⟨a, b⟩)) (fun b => br_t rfl (h0 fun t => b t.2))
theorem tr_x107 {post : Int32 → Prop} {x y : Int32} (h1 : (vp_in x 8 ∧ vp_in y 24) → post 1) (h0 : ¬ (vp_in x 8 ∧ vp_in y 24) → post 0) : wX_isWellFormed_107 post x y := by
  unfold wX_isWellFormed_107
  refine tr_xReg (fun a => br_f tr_10 ?_) (fun a => br_t rfl (h0 fun t => a t.1))
  exact tr_xTgt (fun b => br_f tr_10 (h1 ⟨a, b⟩)) (fun b => br_t rfl (h0 fun t => b t.2))
/-- the component's test of an instruction -/
theorem tr_xFit {post : Int32 → Prop} {o x y z : Int32} (h1 : tr_ins o x y z → post 1) (h0 : ¬ tr_ins o x y z → post 0) : wpX_isWellFormed post o x y z := by
  unfold wpX_isWellFormed
  refine br_c (fun a => h0 fun t => (tr_insR t).1 a) (fun a => br_c (fun b => h0 fun t => (tr_insR t).2 b) (fun b => ?_))
  rcases tr_op a b with rfl | rfl | rfl | rfl | rfl | rfl | rfl | rfl | rfl | rfl | rfl
  · exact br_t rfl (tr_x60 (fun t => h1 (tr_i0.mpr t)) (fun t => h0 fun q => t (tr_i0.mp q)))
  · exact br_f (by decide) (br_t rfl (tr_x60 (fun t => h1 (tr_i1.mpr t)) (fun t => h0 fun q => t (tr_i1.mp q))))
  · exact br_f (by decide) (br_f (by decide) (br_t rfl (tr_x60 (fun t => h1 (tr_i2.mpr t)) (fun t => h0 fun q => t (tr_i2.mp q)))))
  · exact br_f (by decide) (br_f (by decide) (br_f (by decide) (br_t rfl (tr_x60 (fun t => h1 (tr_i3.mpr t)) (fun t => h0 fun q => t (tr_i3.mp q))))))
  · exact br_f (by decide) (br_f (by decide) (br_f (by decide) (br_f (by decide) (br_t rfl (tr_x87 (fun t => h1 (tr_i4.mpr t)) (fun t => h0 fun q => t (tr_i4.mp q)))))))
  · exact br_f (by decide) (br_f (by decide) (br_f (by decide) (br_f (by decide) (br_f (by decide) (br_t rfl (tr_x87 (fun t => h1 (tr_i5.mpr t)) (fun t => h0 fun q => t (tr_i5.mp q))))))))
  · exact br_f (by decide) (br_f (by decide) (br_f (by decide) (br_f (by decide) (br_f (by decide) (br_f (by decide) (br_t rfl (tr_x87 (fun t => h1 (tr_i6.mpr t)) (fun t => h0 fun q => t (tr_i6.mp q)))))))))
  · exact br_f (by decide) (br_f (by decide) (br_f (by decide) (br_f (by decide) (br_f (by decide) (br_f (by decide) (br_f (by decide) (br_t rfl (tr_x107 (fun t => h1 (tr_i7.mpr t)) (fun t => h0 fun q => t (tr_i7.mp q))))))))))
  · exact br_f (by decide) (br_f (by decide) (br_f (by decide) (br_f (by decide) (br_f (by decide) (br_f (by decide) (br_f (by decide) (br_f (by decide) (br_t rfl (tr_x107 (fun t => h1 (tr_i8.mpr t)) (fun t => h0 fun q => t (tr_i8.mp q)))))))))))
  · exact br_f (by decide) (br_f (by decide) (br_f (by decide) (br_f (by decide) (br_f (by decide) (br_f (by decide) (br_f (by decide) (br_f (by decide) (br_f (by decide) (br_t rfl (tr_xTgt (fun t => ⟨tr_n1, h1 (tr_i9.mpr t)⟩) (fun t => ⟨tr_n0, h0 fun q => t (tr_i9.mp q)⟩)))))))))))
  · exact br_f (by decide) (br_f (by decide) (br_f (by decide) (br_f (by decide) (br_f (by decide) (br_f (by decide) (br_f (by decide) (br_f (by decide) (br_f (by decide) (br_f (by decide) (br_t rfl (h1 tr_i10)))))))))))
section
variable {n pc st : Int32} {O A B C R M : Nat → Int32}
/-- the reference's test of an instruction -/
theorem tr_yFit {post : Int32 → Prop} {o x y z : Int32} (h1 : tr_ins o x y z → post 1) (h0 : ¬ tr_ins o x y z → post 0) : wpY_fits post (n, pc, st, O, A, B, C, R, M) o x y z := by
  unfold wpY_fits
  dsimp only
  refine br_c (fun a => h0 fun t => (tr_insR t).1 a) (fun a => br_c (fun b => ?_) (fun b => h0 fun t => b (Int32.not_lt.mp (tr_insR t).2)))
  rcases tr_op a (Int32.not_lt.mpr b) with rfl | rfl | rfl | rfl | rfl | rfl | rfl | rfl | rfl | rfl | rfl
  · refine br_f (by decide) (br_f (by decide) (tr_yReg (fun c => br_f tr_10 ?_) (fun c => br_t rfl (h0 fun q => c (tr_i0.mp q).1))))
    refine br_f (by decide) (br_f (by decide) (tr_yReg (fun d => br_f tr_10 ?_) (fun d => br_t rfl (h0 fun q => d (tr_i0.mp q).2.1))))
    exact br_f (by decide) (tr_yReg (fun e => br_f tr_10 (h1 (tr_i0.mpr ⟨c, d, e⟩))) (fun e => br_t rfl (h0 fun q => e (tr_i0.mp q).2.2)))
  · refine br_f (by decide) (br_f (by decide) (tr_yReg (fun c => br_f tr_10 ?_) (fun c => br_t rfl (h0 fun q => c (tr_i1.mp q).1))))
    refine br_f (by decide) (br_f (by decide) (tr_yReg (fun d => br_f tr_10 ?_) (fun d => br_t rfl (h0 fun q => d (tr_i1.mp q).2.1))))
    exact br_f (by decide) (tr_yReg (fun e => br_f tr_10 (h1 (tr_i1.mpr ⟨c, d, e⟩))) (fun e => br_t rfl (h0 fun q => e (tr_i1.mp q).2.2)))
  · refine br_f (by decide) (br_f (by decide) (tr_yReg (fun c => br_f tr_10 ?_) (fun c => br_t rfl (h0 fun q => c (tr_i2.mp q).1))))
    refine br_f (by decide) (br_f (by decide) (tr_yReg (fun d => br_f tr_10 ?_) (fun d => br_t rfl (h0 fun q => d (tr_i2.mp q).2.1))))
    exact br_f (by decide) (tr_yReg (fun e => br_f tr_10 (h1 (tr_i2.mpr ⟨c, d, e⟩))) (fun e => br_t rfl (h0 fun q => e (tr_i2.mp q).2.2)))
  · refine br_f (by decide) (br_f (by decide) (tr_yReg (fun c => br_f tr_10 ?_) (fun c => br_t rfl (h0 fun q => c (tr_i3.mp q).1))))
    refine br_f (by decide) (br_f (by decide) (tr_yReg (fun d => br_f tr_10 ?_) (fun d => br_t rfl (h0 fun q => d (tr_i3.mp q).2.1))))
    exact br_f (by decide) (tr_yReg (fun e => br_f tr_10 (h1 (tr_i3.mpr ⟨c, d, e⟩))) (fun e => br_t rfl (h0 fun q => e (tr_i3.mp q).2.2)))
  · refine br_f (by decide) (br_f (by decide) (tr_yReg (fun c => br_f tr_10 ?_) (fun c => br_t rfl (h0 fun q => c (tr_i4.mp q).1))))
    refine br_f (by decide) (br_f (by decide) (tr_yReg (fun d => br_f tr_10 ?_) (fun d => br_t rfl (h0 fun q => d (tr_i4.mp q).2))))
    exact br_t (by decide) (h1 (tr_i4.mpr ⟨c, d⟩))
  · refine br_f (by decide) (br_f (by decide) (tr_yReg (fun c => br_f tr_10 ?_) (fun c => br_t rfl (h0 fun q => c (tr_i5.mp q).1))))
    refine br_f (by decide) (br_f (by decide) (tr_yReg (fun d => br_f tr_10 ?_) (fun d => br_t rfl (h0 fun q => d (tr_i5.mp q).2))))
    exact br_t (by decide) (h1 (tr_i5.mpr ⟨c, d⟩))
  · refine br_f (by decide) (br_f (by decide) (tr_yReg (fun c => br_f tr_10 ?_) (fun c => br_t rfl (h0 fun q => c (tr_i6.mp q).1))))
    refine br_f (by decide) (br_f (by decide) (tr_yReg (fun d => br_f tr_10 ?_) (fun d => br_t rfl (h0 fun q => d (tr_i6.mp q).2))))
    exact br_t (by decide) (h1 (tr_i6.mpr ⟨c, d⟩))
  · refine br_f (by decide) (br_f (by decide) (tr_yReg (fun c => br_f tr_10 ?_) (fun c => br_t rfl (h0 fun q => c (tr_i7.mp q).1))))
    refine br_t rfl ?_
    unfold wY_fits_54
    exact tr_yTgt (fun t => ⟨tr_n1, h1 (tr_i7.mpr ⟨c, t⟩)⟩) (fun t => ⟨tr_n0, h0 fun q => t (tr_i7.mp q).2⟩)
  · refine br_f (by decide) (br_f (by decide) (tr_yReg (fun c => br_f tr_10 ?_) (fun c => br_t rfl (h0 fun q => c (tr_i8.mp q).1))))
    refine br_f (by decide) (br_t rfl ?_)
    unfold wY_fits_54
    exact tr_yTgt (fun t => ⟨tr_n1, h1 (tr_i8.mpr ⟨c, t⟩)⟩) (fun t => ⟨tr_n0, h0 fun q => t (tr_i8.mp q).2⟩)
  · exact br_f (by decide) (br_t rfl (tr_yTgt (fun t => ⟨tr_n1, h1 (tr_i9.mpr t)⟩) (fun t => ⟨tr_n0, h0 fun q => t (tr_i9.mp q)⟩)))
  · exact br_t rfl (h1 tr_i10)
end
end
section
section
variable {L p : Nat} {st : Int32} {R M O A B C : Nat → Int32}
/-- the reference's last branches, where the instruction is neither a jump nor a halt -/
theorem tr_y319 {post : SY → Prop} {n pc i x : Int32} (hi : vp_in i 24) (h9 : ¬ O i.toNatClampNeg = 9) (h10 : ¬ O i.toNatClampNeg = 10) (h : post (n, pc, st, O, A, B, C, R, M)) : wY_execute_319 post i x n pc st O A B C R M := by
  unfold wY_execute_319
  exact ⟨hi, br_f h9 ⟨hi, br_f h10 h⟩⟩
/-- one instruction: both sides end alike -/
def tr_Ex (L p : Nat) (st : Int32) (R M O A B C : Nat → Int32) : Prop :=
  ∃ (p' : Nat) (st' : Int32) (R' M' : Nat → Int32), p' ≤ 24 ∧
    (∀ post : SX → Prop, post (nI L, nI p', st', R', M', O, A, B, C) → wpX_execute post (nI L, nI p, st, R, M, O, A, B, C) (nI p)) ∧
    (∀ post : SY → Prop, post (nI L, nI p', st', O, A, B, C, R', M') → wpY_execute post (nI L, nI p, st, O, A, B, C, R, M) (nI p))
theorem tr_e0 (hp : p < 24) (hi : vp_in (nI p) 24) (e : O (nI p).toNatClampNeg = 0) (hx : vp_in (A (nI p).toNatClampNeg) 8) (hy : vp_in (B (nI p).toNatClampNeg) 8) (hz : vp_in (C (nI p).toNatClampNeg) 8) : tr_Ex L p st R M O A B C := by
  refine ⟨p + 1, st, upd R (A (nI p).toNatClampNeg).toNatClampNeg (R (B (nI p).toNatClampNeg).toNatClampNeg + R (C (nI p).toNatClampNeg).toNatClampNeg), M, by omega, fun post h => ?_, fun post h => ?_⟩
  · exact ⟨hi, nm_e ⟨hi, nm_e ⟨hi, nm_e (nm_r (nI_1 p) ⟨hi, nm_r e (br_f (by decide) (br_f (by decide) (br_t rfl ⟨hy, hz, hx, nm_e h⟩)))⟩)⟩⟩⟩
  · exact ⟨hi, nm_e ⟨hi, nm_e ⟨hi, nm_e (nm_r (nI_1 p) ⟨hi, br_t e ⟨hy, hz, hx, nm_e h⟩⟩)⟩⟩⟩
theorem tr_e1 (hp : p < 24) (hi : vp_in (nI p) 24) (e : O (nI p).toNatClampNeg = 1) (hx : vp_in (A (nI p).toNatClampNeg) 8) (hy : vp_in (B (nI p).toNatClampNeg) 8) (hz : vp_in (C (nI p).toNatClampNeg) 8) : tr_Ex L p st R M O A B C := by
  refine ⟨p + 1, st, upd R (A (nI p).toNatClampNeg).toNatClampNeg (R (B (nI p).toNatClampNeg).toNatClampNeg - R (C (nI p).toNatClampNeg).toNatClampNeg), M, by omega, fun post h => ?_, fun post h => ?_⟩
  · exact ⟨hi, nm_e ⟨hi, nm_e ⟨hi, nm_e (nm_r (nI_1 p) ⟨hi, nm_r e (br_f (by decide) (br_f (by decide) (br_f (by decide) (br_t rfl ⟨hy, hz, hx, nm_e h⟩))))⟩)⟩⟩⟩
  · exact ⟨hi, nm_e ⟨hi, nm_e ⟨hi, nm_e (nm_r (nI_1 p) ⟨hi, br_f (by rw [e]; decide) ⟨hi, br_t e ⟨hy, hz, hx, nm_e h⟩⟩⟩)⟩⟩⟩
theorem tr_e2 (hp : p < 24) (hi : vp_in (nI p) 24) (e : O (nI p).toNatClampNeg = 2) (hx : vp_in (A (nI p).toNatClampNeg) 8) (hy : vp_in (B (nI p).toNatClampNeg) 8) (hz : vp_in (C (nI p).toNatClampNeg) 8) : tr_Ex L p st R M O A B C := by
  refine ⟨p + 1, st, upd R (A (nI p).toNatClampNeg).toNatClampNeg (R (B (nI p).toNatClampNeg).toNatClampNeg ^^^ R (C (nI p).toNatClampNeg).toNatClampNeg), M, by omega, fun post h => ?_, fun post h => ?_⟩
  · exact ⟨hi, nm_e ⟨hi, nm_e ⟨hi, nm_e (nm_r (nI_1 p) ⟨hi, nm_r e (br_f (by decide) (br_f (by decide) (br_f (by decide) (br_f (by decide) (br_t rfl ⟨hy, hz, hx, nm_e h⟩)))))⟩)⟩⟩⟩
  · exact ⟨hi, nm_e ⟨hi, nm_e ⟨hi, nm_e (nm_r (nI_1 p) ⟨hi, br_f (by rw [e]; decide) ⟨hi, br_f (by rw [e]; decide) ⟨hi, br_t e ⟨hy, hz, hx, nm_e h⟩⟩⟩⟩)⟩⟩⟩
theorem tr_e3 (hp : p < 24) (hi : vp_in (nI p) 24) (e : O (nI p).toNatClampNeg = 3) (hx : vp_in (A (nI p).toNatClampNeg) 8) (hy : vp_in (B (nI p).toNatClampNeg) 8) (hz : vp_in (C (nI p).toNatClampNeg) 8) : tr_Ex L p st R M O A B C := by
  by_cases g : R (C (nI p).toNatClampNeg).toNatClampNeg ≤ R (B (nI p).toNatClampNeg).toNatClampNeg
  · refine ⟨p + 1, st, upd R (A (nI p).toNatClampNeg).toNatClampNeg 0, M, by omega, fun post h => ?_, fun post h => ?_⟩
    · exact ⟨hi, nm_e ⟨hi, nm_e ⟨hi, nm_e (nm_r (nI_1 p) ⟨hi, nm_r e (br_f (by decide) (br_f (by decide) (br_f (by decide) (br_f (by decide) (br_f (by decide) (br_t rfl ⟨hy, hz, br_t g ⟨hx, nm_e h⟩⟩))))))⟩)⟩⟩⟩
    · exact ⟨hi, nm_e ⟨hi, nm_e ⟨hi, nm_e (nm_r (nI_1 p) ⟨hi, br_f (by rw [e]; decide) ⟨hi, br_f (by rw [e]; decide) ⟨hi, br_f (by rw [e]; decide) ⟨hi, br_t e ⟨hy, hz, br_t g ⟨hx, nm_e h⟩⟩⟩⟩⟩⟩)⟩⟩⟩
  · refine ⟨p + 1, st, upd R (A (nI p).toNatClampNeg).toNatClampNeg 1, M, by omega, fun post h => ?_, fun post h => ?_⟩
    · exact ⟨hi, nm_e ⟨hi, nm_e ⟨hi, nm_e (nm_r (nI_1 p) ⟨hi, nm_r e (br_f (by decide) (br_f (by decide) (br_f (by decide) (br_f (by decide) (br_f (by decide) (br_t rfl ⟨hy, hz, br_f g ⟨hx, nm_e h⟩⟩))))))⟩)⟩⟩⟩
    · exact ⟨hi, nm_e ⟨hi, nm_e ⟨hi, nm_e (nm_r (nI_1 p) ⟨hi, br_f (by rw [e]; decide) ⟨hi, br_f (by rw [e]; decide) ⟨hi, br_f (by rw [e]; decide) ⟨hi, br_t e ⟨hy, hz, br_f g ⟨hx, nm_e h⟩⟩⟩⟩⟩⟩)⟩⟩⟩
theorem tr_e4 (hp : p < 24) (hi : vp_in (nI p) 24) (e : O (nI p).toNatClampNeg = 4) (hx : vp_in (A (nI p).toNatClampNeg) 8) (hy : vp_in (B (nI p).toNatClampNeg) 8) : tr_Ex L p st R M O A B C := by
  refine ⟨p + 1, st, upd R (A (nI p).toNatClampNeg).toNatClampNeg (R (B (nI p).toNatClampNeg).toNatClampNeg + C (nI p).toNatClampNeg), M, by omega, fun post h => ?_, fun post h => ?_⟩
  · exact ⟨hi, nm_e ⟨hi, nm_e ⟨hi, nm_e (nm_r (nI_1 p) ⟨hi, nm_r e (br_f (by decide) (br_f (by decide) (br_f (by decide) (br_f (by decide) (br_f (by decide) (br_f (by decide) (br_t rfl ⟨hy, hx, nm_e h⟩)))))))⟩)⟩⟩⟩
  · exact ⟨hi, nm_e ⟨hi, nm_e ⟨hi, nm_e (nm_r (nI_1 p) ⟨hi, br_f (by rw [e]; decide) ⟨hi, br_f (by rw [e]; decide) ⟨hi, br_f (by rw [e]; decide) ⟨hi, br_f (by rw [e]; decide) ⟨hi, br_t e ⟨hy, hx, nm_e h⟩⟩⟩⟩⟩⟩)⟩⟩⟩
theorem tr_e5 (hp : p < 24) (hi : vp_in (nI p) 24) (e : O (nI p).toNatClampNeg = 5) (hx : vp_in (A (nI p).toNatClampNeg) 8) (hy : vp_in (B (nI p).toNatClampNeg) 8) : tr_Ex L p st R M O A B C := by
  refine ⟨p + 1, st, upd R (A (nI p).toNatClampNeg).toNatClampNeg (M ((R (B (nI p).toNatClampNeg).toNatClampNeg + C (nI p).toNatClampNeg) &&& 15).toNatClampNeg), M, by omega, fun post h => ?_, fun post h => ?_⟩
  · exact ⟨hi, nm_e ⟨hi, nm_e ⟨hi, nm_e (nm_r (nI_1 p) ⟨hi, nm_r e (br_f (by decide) (br_f (by decide) (br_f (by decide) (br_f (by decide) (br_f (by decide) (br_f (by decide) (br_f (by decide) (br_t rfl ⟨hy, tr_m15 _, hx, nm_e h⟩))))))))⟩)⟩⟩⟩
  · exact ⟨hi, nm_e ⟨hi, nm_e ⟨hi, nm_e (nm_r (nI_1 p) ⟨hi, br_f (by rw [e]; decide) ⟨hi, br_f (by rw [e]; decide) ⟨hi, br_f (by rw [e]; decide) ⟨hi, br_f (by rw [e]; decide) ⟨hi, br_f (by rw [e]; decide) ⟨hi, br_t e ⟨hy, tr_m15 _, hx, nm_e h⟩⟩⟩⟩⟩⟩⟩)⟩⟩⟩
theorem tr_e6 (hp : p < 24) (hi : vp_in (nI p) 24) (e : O (nI p).toNatClampNeg = 6) (hx : vp_in (A (nI p).toNatClampNeg) 8) (hy : vp_in (B (nI p).toNatClampNeg) 8) : tr_Ex L p st R M O A B C := by
  refine ⟨p + 1, st, R, upd M ((R (B (nI p).toNatClampNeg).toNatClampNeg + C (nI p).toNatClampNeg) &&& 15).toNatClampNeg (R (A (nI p).toNatClampNeg).toNatClampNeg), by omega, fun post h => ?_, fun post h => ?_⟩
  · exact ⟨hi, nm_e ⟨hi, nm_e ⟨hi, nm_e (nm_r (nI_1 p) ⟨hi, nm_r e (br_f (by decide) (br_f (by decide) (br_f (by decide) (br_f (by decide) (br_f (by decide) (br_f (by decide) (br_f (by decide) (br_f (by decide) (br_t rfl ⟨hy, hx, tr_m15 _, nm_e h⟩)))))))))⟩)⟩⟩⟩
  · exact ⟨hi, nm_e ⟨hi, nm_e ⟨hi, nm_e (nm_r (nI_1 p) ⟨hi, br_f (by rw [e]; decide) ⟨hi, br_f (by rw [e]; decide) ⟨hi, br_f (by rw [e]; decide) ⟨hi, br_f (by rw [e]; decide) ⟨hi, br_f (by rw [e]; decide) ⟨hi, br_f (by rw [e]; decide) ⟨hi, br_t e ⟨hy, hx, tr_m15 _, nm_e h⟩⟩⟩⟩⟩⟩⟩⟩)⟩⟩⟩
theorem tr_e7 (hp : p < 24) (hi : vp_in (nI p) 24) (e : O (nI p).toNatClampNeg = 7) (hx : vp_in (A (nI p).toNatClampNeg) 8) (hy : vp_in (B (nI p).toNatClampNeg) 24) : tr_Ex L p st R M O A B C := by
  obtain ⟨t, ht, et⟩ := vp_in_of hy (by decide)
  by_cases g : R (A (nI p).toNatClampNeg).toNatClampNeg = 0
  · refine ⟨t, st, R, M, by omega, fun post h => ?_, fun post h => ?_⟩
    · exact ⟨hi, nm_e ⟨hi, nm_r et ⟨hi, nm_e (nm_r (nI_1 p) ⟨hi, nm_r e (br_f (by decide) (br_f (by decide) (br_f (by decide) (br_f (by decide) (br_f (by decide) (br_f (by decide) (br_f (by decide) (br_f (by decide) (br_f (by decide) (br_t rfl ⟨hx, br_t g h⟩))))))))))⟩)⟩⟩⟩
    · exact ⟨hi, nm_e ⟨hi, nm_r et ⟨hi, nm_e (nm_r (nI_1 p) ⟨hi, br_f (by rw [e]; decide) ⟨hi, br_f (by rw [e]; decide) ⟨hi, br_f (by rw [e]; decide) ⟨hi, br_f (by rw [e]; decide) ⟨hi, br_f (by rw [e]; decide) ⟨hi, br_f (by rw [e]; decide) ⟨hi, br_f (by rw [e]; decide) ⟨hi, br_t e ⟨hx, br_t g h⟩⟩⟩⟩⟩⟩⟩⟩⟩)⟩⟩⟩
  · refine ⟨p + 1, st, R, M, by omega, fun post h => ?_, fun post h => ?_⟩
    · exact ⟨hi, nm_e ⟨hi, nm_e ⟨hi, nm_e (nm_r (nI_1 p) ⟨hi, nm_r e (br_f (by decide) (br_f (by decide) (br_f (by decide) (br_f (by decide) (br_f (by decide) (br_f (by decide) (br_f (by decide) (br_f (by decide) (br_f (by decide) (br_t rfl ⟨hx, br_f g h⟩))))))))))⟩)⟩⟩⟩
    · exact ⟨hi, nm_e ⟨hi, nm_e ⟨hi, nm_e (nm_r (nI_1 p) ⟨hi, br_f (by rw [e]; decide) ⟨hi, br_f (by rw [e]; decide) ⟨hi, br_f (by rw [e]; decide) ⟨hi, br_f (by rw [e]; decide) ⟨hi, br_f (by rw [e]; decide) ⟨hi, br_f (by rw [e]; decide) ⟨hi, br_f (by rw [e]; decide) ⟨hi, br_t e ⟨hx, br_f g ⟨hi, br_f (by rw [e]; decide) (tr_y319 hi (by rw [e]; decide) (by rw [e]; decide) h)⟩⟩⟩⟩⟩⟩⟩⟩⟩⟩)⟩⟩⟩
theorem tr_e8 (hp : p < 24) (hi : vp_in (nI p) 24) (e : O (nI p).toNatClampNeg = 8) (hx : vp_in (A (nI p).toNatClampNeg) 8) (hy : vp_in (B (nI p).toNatClampNeg) 24) : tr_Ex L p st R M O A B C := by
  obtain ⟨t, ht, et⟩ := vp_in_of hy (by decide)
  by_cases g : 0 ≤ R (A (nI p).toNatClampNeg).toNatClampNeg
  · refine ⟨p + 1, st, R, M, by omega, fun post h => ?_, fun post h => ?_⟩
    · exact ⟨hi, nm_e ⟨hi, nm_e ⟨hi, nm_e (nm_r (nI_1 p) ⟨hi, nm_r e (br_f (by decide) (br_f (by decide) (br_f (by decide) (br_f (by decide) (br_f (by decide) (br_f (by decide) (br_f (by decide) (br_f (by decide) (br_f (by decide) (br_f (by decide) (br_t rfl ⟨hx, br_t g h⟩)))))))))))⟩)⟩⟩⟩
    · exact ⟨hi, nm_e ⟨hi, nm_e ⟨hi, nm_e (nm_r (nI_1 p) ⟨hi, br_f (by rw [e]; decide) ⟨hi, br_f (by rw [e]; decide) ⟨hi, br_f (by rw [e]; decide) ⟨hi, br_f (by rw [e]; decide) ⟨hi, br_f (by rw [e]; decide) ⟨hi, br_f (by rw [e]; decide) ⟨hi, br_f (by rw [e]; decide) ⟨hi, br_f (by rw [e]; decide) (⟨hi, br_t e ⟨hx, br_t g (tr_y319 hi (by rw [e]; decide) (by rw [e]; decide) h)⟩⟩)⟩⟩⟩⟩⟩⟩⟩⟩)⟩⟩⟩
  · refine ⟨t, st, R, M, by omega, fun post h => ?_, fun post h => ?_⟩
    · exact ⟨hi, nm_e ⟨hi, nm_r et ⟨hi, nm_e (nm_r (nI_1 p) ⟨hi, nm_r e (br_f (by decide) (br_f (by decide) (br_f (by decide) (br_f (by decide) (br_f (by decide) (br_f (by decide) (br_f (by decide) (br_f (by decide) (br_f (by decide) (br_f (by decide) (br_t rfl ⟨hx, br_f g h⟩)))))))))))⟩)⟩⟩⟩
    · exact ⟨hi, nm_e ⟨hi, nm_r et ⟨hi, nm_e (nm_r (nI_1 p) ⟨hi, br_f (by rw [e]; decide) ⟨hi, br_f (by rw [e]; decide) ⟨hi, br_f (by rw [e]; decide) ⟨hi, br_f (by rw [e]; decide) ⟨hi, br_f (by rw [e]; decide) ⟨hi, br_f (by rw [e]; decide) ⟨hi, br_f (by rw [e]; decide) ⟨hi, br_f (by rw [e]; decide) (⟨hi, br_t e ⟨hx, br_f g h⟩⟩)⟩⟩⟩⟩⟩⟩⟩⟩)⟩⟩⟩
theorem tr_e9 (hp : p < 24) (hi : vp_in (nI p) 24) (e : O (nI p).toNatClampNeg = 9) (hx : vp_in (A (nI p).toNatClampNeg) 24) : tr_Ex L p st R M O A B C := by
  obtain ⟨t, ht, et⟩ := vp_in_of hx (by decide)
  refine ⟨t, st, R, M, by omega, fun post h => ?_, fun post h => ?_⟩
  · exact ⟨hi, nm_r et ⟨hi, nm_e ⟨hi, nm_e (nm_r (nI_1 p) ⟨hi, nm_r e (br_f (by decide) (br_f (by decide) (br_f (by decide) (br_f (by decide) (br_f (by decide) (br_f (by decide) (br_f (by decide) (br_f (by decide) (br_f (by decide) (br_f (by decide) (br_f (by decide) (br_t rfl h))))))))))))⟩)⟩⟩⟩
  · exact ⟨hi, nm_r et ⟨hi, nm_e ⟨hi, nm_e (nm_r (nI_1 p) ⟨hi, br_f (by rw [e]; decide) ⟨hi, br_f (by rw [e]; decide) ⟨hi, br_f (by rw [e]; decide) ⟨hi, br_f (by rw [e]; decide) ⟨hi, br_f (by rw [e]; decide) ⟨hi, br_f (by rw [e]; decide) ⟨hi, br_f (by rw [e]; decide) ⟨hi, br_f (by rw [e]; decide) (⟨hi, br_f (by rw [e]; decide) ⟨hi, br_t e h⟩⟩)⟩⟩⟩⟩⟩⟩⟩⟩)⟩⟩⟩
theorem tr_e10 (hp : p < 24) (hi : vp_in (nI p) 24) (e : O (nI p).toNatClampNeg = 10)  : tr_Ex L p st R M O A B C := by
  refine ⟨p, 1, R, M, by omega, fun post h => ?_, fun post h => ?_⟩
  · exact ⟨hi, nm_e ⟨hi, nm_e ⟨hi, nm_e (nm_r (nI_1 p) ⟨hi, nm_r e (br_f (by decide) (br_t (by decide) h))⟩)⟩⟩⟩
  · exact ⟨hi, nm_e ⟨hi, nm_e ⟨hi, nm_e (nm_r (nI_1 p) ⟨hi, br_f (by rw [e]; decide) ⟨hi, br_f (by rw [e]; decide) ⟨hi, br_f (by rw [e]; decide) ⟨hi, br_f (by rw [e]; decide) ⟨hi, br_f (by rw [e]; decide) ⟨hi, br_f (by rw [e]; decide) ⟨hi, br_f (by rw [e]; decide) ⟨hi, br_f (by rw [e]; decide) (⟨hi, br_f (by rw [e]; decide) ⟨hi, br_f (by rw [e]; decide) ⟨hi, br_t e h⟩⟩⟩)⟩⟩⟩⟩⟩⟩⟩⟩)⟩⟩⟩
theorem tr_exec (ok : tr_ok L p O A B C) (hp : p < L) : tr_Ex L p st R M O A B C := by
  have h24 : p < 24 := Nat.lt_of_lt_of_le hp ok.1
  have hi : vp_in (nI p) 24 := vp_in_nI h24 (by decide)
  have T := ok.2.2 (nI p).toNatClampNeg (by rw [nI_clamp (by omega)]; exact hp)
  rcases T with ⟨e | e | e | e, hx, hy, hz⟩ | ⟨e | e | e, hx, hy⟩ | ⟨e | e, hx, hy⟩ | ⟨e, hx⟩ | e
  · exact tr_e0 h24 hi e hx hy hz
  · exact tr_e1 h24 hi e hx hy hz
  · exact tr_e2 h24 hi e hx hy hz
  · exact tr_e3 h24 hi e hx hy hz
  · exact tr_e4 h24 hi e hx hy
  · exact tr_e5 h24 hi e hx hy
  · exact tr_e6 h24 hi e hx hy
  · exact tr_e7 h24 hi e hx hy
  · exact tr_e8 h24 hi e hx hy
  · exact tr_e9 h24 hi e hx
  · exact tr_e10 h24 hi e
end
end
section
theorem tr_xIns {post : Int32 → Prop} {L p : Nat} {pc st : Int32} {R M O A B C : Nat → Int32} (hL : L ≤ 24) (hp : p ≤ 24) (h1 : p < L → post 1) (h0 : ¬ p < L → post 0) : wpX_isInstruction post (nI L, pc, st, R, M, O, A, B, C) (nI p) := by
  unfold wpX_isInstruction
  dsimp only
  refine br_f (nI_pos (by omega)) ?_
  by_cases h : p < L
  · exact br_f (nI_ge h (by omega)) (h1 h)
  · exact br_t (nI_le (by omega) (by omega)) (h0 h)
/-- the loop of run from turn t on, d turns left: both sides end, with one count, in related states -/
theorem tr_loop (m : Nat) (hm : m ≤ 150) : ∀ (d t : Nat), t + d = m → ∀ (L p : Nat) (st : Int32) (R M O A B C : Nat → Int32) (x : Int32), tr_ok L p O A B C →
    ∃ (r : Int32) (u : SX) (v : SY), tr_Rel u v ∧
      (∀ post : Int32 → SX → Prop, post r u → wX_run_20 post (nI m) (d + 1) x (nI t) (nI L) (nI p) st R M O A B C) ∧
      (∀ post : Int32 → SY → Prop, post r v → wY_run_28 post (nI m) (d + 1) x (nI t) (nI L) (nI p) st O A B C R M) := by
  intro d
  induction d with
  | zero =>
    intro t ht L p st R M O A B C x ok
    have h : nI m ≤ nI t := nI_le (by omega) (by omega)
    exact ⟨x, _, _, tr_rel ok, fun post q => br_t h q, fun post q => br_t h q⟩
  | succ d ih =>
    intro t ht L p st R M O A B C x ok
    have h : ¬ nI m ≤ nI t := nI_ge (by omega) (by omega)
    by_cases hs : st = 0
    · by_cases hp : p < L
      · obtain ⟨p', st', R', M', hp', eX, eY⟩ := tr_exec (st := st) (R := R) (M := M) ok hp
        obtain ⟨r, u, v, rel, hX, hY⟩ := ih (t + 1) (by omega) L p' st' R' M' O A B C (x + 1) ⟨ok.1, hp', ok.2.2⟩
        refine ⟨r, u, v, rel, fun post q => ?_, fun post q => ?_⟩
        · refine br_f h (br_t hs (tr_xIns ok.1 ok.2.1 (fun _ => br_f tr_10 (eX _ ?_)) (fun n => absurd hp n)))
          exact nm_e (nm_r (nI_1 t) (hX post q))
        · refine br_f h (br_t hs (br_t (nI_lt hp (by have := ok.1; omega)) (eY _ ?_)))
          exact nm_e (nm_r (nI_1 t) (hY post q))
      · obtain ⟨r, u, v, rel, hX, hY⟩ := ih (t + 1) (by omega) L p 2 R M O A B C x ok
        refine ⟨r, u, v, rel, fun post q => ?_, fun post q => ?_⟩
        · exact br_f h (br_t hs (tr_xIns ok.1 ok.2.1 (fun n => absurd n hp) (fun _ => br_t rfl (nm_r (nI_1 t) (hX post q)))))
        · exact br_f h (br_t hs (br_f (nI_nlt (by omega) (by have := ok.2.1; omega)) (nm_r (nI_1 t) (hY post q))))
    · exact ⟨x, _, _, tr_rel ok, fun post q => br_f h (br_f hs q), fun post q => br_f h (br_f hs q)⟩
end
section
theorem tr_zs (f : Nat → Int32) {t : Nat} (ht : t < 24) : upd (tr_z f t) (nI t).toNatClampNeg 0 = tr_z f (t + 1) := by
  rw [nI_clamp (by omega)]
  rfl
section
variable {l pc st : Int32} {R M O A B C : Nat → Int32}
theorem tr_xc23 {post : SX → Prop} (h : post (0, 0, 0, R, tr_z M 16, O, A, B, C)) : ∀ d t : Nat, t + d = 16 → wX_clear_23 post l pc st (d + 1) (nI t) R (tr_z M t) O A B C := by
  intro d
  induction d with
  | zero =>
    intro t ht
    obtain rfl : t = 16 := by omega
    exact br_t (nI_le (a := 16) (by omega) (by decide)) h
  | succ d ih =>
    intro t ht
    exact br_f (nI_ge (b := 16) (by omega) (by decide)) ⟨vp_in_nI (by omega) (by decide), nm_r (tr_zs M (by omega)) (nm_r (nI_1 t) (ih (t + 1) (by omega)))⟩
theorem tr_xc2 {post : SX → Prop} (h : post (0, 0, 0, tr_z R 8, tr_z M 16, O, A, B, C)) : ∀ d t : Nat, t + d = 8 → wX_clear_2 post l pc st (d + 1) (nI t) (tr_z R t) M O A B C := by
  intro d
  induction d with
  | zero =>
    intro t ht
    obtain rfl : t = 8 := by omega
    exact br_t (nI_le (a := 8) (by omega) (by decide)) ⟨17, tr_xc23 h 16 0 rfl⟩
  | succ d ih =>
    intro t ht
    exact br_f (nI_ge (b := 8) (by omega) (by decide)) ⟨vp_in_nI (by omega) (by decide), nm_r (tr_zs R (by omega)) (nm_r (nI_1 t) (ih (t + 1) (by omega)))⟩
theorem tr_yc32 {post : SY → Prop} (h : post (l, pc, st, O, A, B, C, R, tr_z M 16)) : ∀ d t : Nat, t + d = 16 → wY_clear_32 post l pc st (d + 1) (nI t) O A B C R (tr_z M t) := by
  intro d
  induction d with
  | zero =>
    intro t ht
    obtain rfl : t = 16 := by omega
    exact br_t (nI_le (a := 16) (by omega) (by decide)) h
  | succ d ih =>
    intro t ht
    exact br_f (nI_ge (b := 16) (by omega) (by decide)) ⟨vp_in_nI (by omega) (by decide), nm_r (tr_zs M (by omega)) (nm_r (nI_1 t) (ih (t + 1) (by omega)))⟩
theorem tr_yc11 {post : SY → Prop} (h : post (l, pc, st, O, A, B, C, tr_z R 8, tr_z M 16)) : ∀ d t : Nat, t + d = 8 → wY_clear_11 post l pc st (d + 1) (nI t) O A B C (tr_z R t) M := by
  intro d
  induction d with
  | zero =>
    intro t ht
    obtain rfl : t = 8 := by omega
    exact br_t (nI_le (a := 8) (by omega) (by decide)) ⟨17, tr_yc32 h 16 0 rfl⟩
  | succ d ih =>
    intro t ht
    exact br_f (nI_ge (b := 8) (by omega) (by decide)) ⟨vp_in_nI (by omega) (by decide), nm_r (tr_zs R (by omega)) (nm_r (nI_1 t) (ih (t + 1) (by omega)))⟩
end
end
section
section
variable {L p : Nat} {st : Int32} {R M O A B C : Nat → Int32}
/-- amend: both sides answer alike and end in related states -/
def tr_Am (L p : Nat) (st : Int32) (R M O A B C : Nat → Int32) (i w : Int32) : Prop :=
  ∃ (r : Int32) (u : SX) (v : SY), tr_Rel u v ∧
    (∀ post : Int32 → SX → Prop, post r u → wpX_amend post (nI L, nI p, st, R, M, O, A, B, C) i w) ∧
    (∀ post : Int32 → SY → Prop, post r v → wpY_amend post (nI L, nI p, st, O, A, B, C, R, M) i w)
theorem tr_a0 (ok : tr_ok L p O A B C) {i w : Int32} (h0 : ¬ i < 0) (hL : ¬ nI L ≤ i) (hq : i.toNatClampNeg < L) (hi : vp_in i 24) (e : O i.toNatClampNeg = 0) : tr_Am L p st R M O A B C i w := by
  refine ⟨-1, _, _, tr_rel (st := st) (R := R) (M := M) (ok), fun post h => ?_, fun post h => ?_⟩
  · unfold wpX_amend wpX_isInstruction
    exact br_f h0 (br_f hL (br_f tr_10 ⟨hi, nm_r e (br_t (by decide) h)⟩))
  · unfold wpY_amend
    exact br_f h0 (br_f hL ⟨hi, br_t (by rw [e]; decide) h⟩)
theorem tr_a1 (ok : tr_ok L p O A B C) {i w : Int32} (h0 : ¬ i < 0) (hL : ¬ nI L ≤ i) (hq : i.toNatClampNeg < L) (hi : vp_in i 24) (e : O i.toNatClampNeg = 1) : tr_Am L p st R M O A B C i w := by
  refine ⟨-1, _, _, tr_rel (st := st) (R := R) (M := M) (ok), fun post h => ?_, fun post h => ?_⟩
  · unfold wpX_amend wpX_isInstruction
    exact br_f h0 (br_f hL (br_f tr_10 ⟨hi, nm_r e (br_t (by decide) h)⟩))
  · unfold wpY_amend
    exact br_f h0 (br_f hL ⟨hi, br_t (by rw [e]; decide) h⟩)
theorem tr_a2 (ok : tr_ok L p O A B C) {i w : Int32} (h0 : ¬ i < 0) (hL : ¬ nI L ≤ i) (hq : i.toNatClampNeg < L) (hi : vp_in i 24) (e : O i.toNatClampNeg = 2) : tr_Am L p st R M O A B C i w := by
  refine ⟨-1, _, _, tr_rel (st := st) (R := R) (M := M) (ok), fun post h => ?_, fun post h => ?_⟩
  · unfold wpX_amend wpX_isInstruction
    exact br_f h0 (br_f hL (br_f tr_10 ⟨hi, nm_r e (br_t (by decide) h)⟩))
  · unfold wpY_amend
    exact br_f h0 (br_f hL ⟨hi, br_t (by rw [e]; decide) h⟩)
theorem tr_a3 (ok : tr_ok L p O A B C) {i w : Int32} (h0 : ¬ i < 0) (hL : ¬ nI L ≤ i) (hq : i.toNatClampNeg < L) (hi : vp_in i 24) (e : O i.toNatClampNeg = 3) : tr_Am L p st R M O A B C i w := by
  refine ⟨-1, _, _, tr_rel (st := st) (R := R) (M := M) (ok), fun post h => ?_, fun post h => ?_⟩
  · unfold wpX_amend wpX_isInstruction
    exact br_f h0 (br_f hL (br_f tr_10 ⟨hi, nm_r e (br_t (by decide) h)⟩))
  · unfold wpY_amend
    exact br_f h0 (br_f hL ⟨hi, br_t (by rw [e]; decide) h⟩)
theorem tr_a4 (ok : tr_ok L p O A B C) {i w : Int32} (h0 : ¬ i < 0) (hL : ¬ nI L ≤ i) (hq : i.toNatClampNeg < L) (hi : vp_in i 24) (e : O i.toNatClampNeg = 4) : tr_Am L p st R M O A B C i w := by
  have T := ok.2.2 i.toNatClampNeg hq
  refine ⟨i, _, _, tr_rel (st := st) (R := R) (M := M) (tr_okZ (v := w) ok (by rw [e] at T ⊢; exact tr_i4.mpr (tr_i4.mp T))), fun post h => ?_, fun post h => ?_⟩
  · unfold wpX_amend wpX_isInstruction
    exact br_f h0 (br_f hL (br_f tr_10 ⟨hi, nm_r e (br_f (by decide) (br_f (by decide) (br_t rfl ⟨hi, nm_e h⟩)))⟩))
  · unfold wpY_amend
    exact br_f h0 (br_f hL ⟨hi, br_f (by rw [e]; decide) ⟨hi, br_f (by rw [e]; decide) ⟨hi, br_t (by rw [e]; decide) ⟨hi, br_f (by rw [e]; decide) ⟨hi, br_t (by rw [e]; decide) ⟨hi, nm_e h⟩⟩⟩⟩⟩⟩)
theorem tr_a5 (ok : tr_ok L p O A B C) {i w : Int32} (h0 : ¬ i < 0) (hL : ¬ nI L ≤ i) (hq : i.toNatClampNeg < L) (hi : vp_in i 24) (e : O i.toNatClampNeg = 5) : tr_Am L p st R M O A B C i w := by
  have T := ok.2.2 i.toNatClampNeg hq
  refine ⟨i, _, _, tr_rel (st := st) (R := R) (M := M) (tr_okZ (v := w) ok (by rw [e] at T ⊢; exact tr_i5.mpr (tr_i5.mp T))), fun post h => ?_, fun post h => ?_⟩
  · unfold wpX_amend wpX_isInstruction
    exact br_f h0 (br_f hL (br_f tr_10 ⟨hi, nm_r e (br_f (by decide) (br_f (by decide) (br_f (by decide) (br_t rfl ⟨hi, nm_e h⟩))))⟩))
  · unfold wpY_amend
    exact br_f h0 (br_f hL ⟨hi, br_f (by rw [e]; decide) ⟨hi, br_f (by rw [e]; decide) ⟨hi, br_t (by rw [e]; decide) ⟨hi, br_f (by rw [e]; decide) ⟨hi, br_t (by rw [e]; decide) ⟨hi, nm_e h⟩⟩⟩⟩⟩⟩)
theorem tr_a6 (ok : tr_ok L p O A B C) {i w : Int32} (h0 : ¬ i < 0) (hL : ¬ nI L ≤ i) (hq : i.toNatClampNeg < L) (hi : vp_in i 24) (e : O i.toNatClampNeg = 6) : tr_Am L p st R M O A B C i w := by
  have T := ok.2.2 i.toNatClampNeg hq
  refine ⟨i, _, _, tr_rel (st := st) (R := R) (M := M) (tr_okZ (v := w) ok (by rw [e] at T ⊢; exact tr_i6.mpr (tr_i6.mp T))), fun post h => ?_, fun post h => ?_⟩
  · unfold wpX_amend wpX_isInstruction
    exact br_f h0 (br_f hL (br_f tr_10 ⟨hi, nm_r e (br_f (by decide) (br_f (by decide) (br_f (by decide) (br_f (by decide) (br_t rfl ⟨hi, nm_e h⟩)))))⟩))
  · unfold wpY_amend
    exact br_f h0 (br_f hL ⟨hi, br_f (by rw [e]; decide) ⟨hi, br_f (by rw [e]; decide) ⟨hi, br_t (by rw [e]; decide) ⟨hi, br_f (by rw [e]; decide) ⟨hi, br_t (by rw [e]; decide) ⟨hi, nm_e h⟩⟩⟩⟩⟩⟩)
theorem tr_a7 (ok : tr_ok L p O A B C) {i w : Int32} (h0 : ¬ i < 0) (hL : ¬ nI L ≤ i) (hq : i.toNatClampNeg < L) (hi : vp_in i 24) (e : O i.toNatClampNeg = 7) : tr_Am L p st R M O A B C i w := by
  have T := ok.2.2 i.toNatClampNeg hq
  by_cases g : vp_in w 24
  · refine ⟨i, _, _, tr_rel (st := st) (R := R) (M := M) (tr_okY (v := w) ok (by rw [e] at T ⊢; exact tr_i7.mpr ⟨(tr_i7.mp T).1, g⟩)), fun post h => ?_, fun post h => ?_⟩
    · unfold wpX_amend wpX_isInstruction
      exact br_f h0 (br_f hL (br_f tr_10 ⟨hi, nm_r e (br_f (by decide) (br_f (by decide) (br_f (by decide) (br_f (by decide) (br_f (by decide) (br_t rfl (tr_xTgt (fun _ => br_f tr_10 ⟨hi, nm_e h⟩) (fun n => absurd g n))))))))⟩))
    · unfold wpY_amend
      exact br_f h0 (br_f hL ⟨hi, br_f (by rw [e]; decide) ⟨hi, br_f (by rw [e]; decide) ⟨hi, br_f (by rw [e]; decide) (tr_yTgt (fun _ => br_f tr_10 ⟨hi, br_f (by rw [e]; decide) ⟨hi, br_f (by rw [e]; decide) ⟨hi, nm_e h⟩⟩⟩) (fun n => absurd g n))⟩⟩⟩)
  · refine ⟨-1, _, _, tr_rel (st := st) (R := R) (M := M) (ok), fun post h => ?_, fun post h => ?_⟩
    · unfold wpX_amend wpX_isInstruction
      exact br_f h0 (br_f hL (br_f tr_10 ⟨hi, nm_r e (br_f (by decide) (br_f (by decide) (br_f (by decide) (br_f (by decide) (br_f (by decide) (br_t rfl (tr_xTgt (fun n => absurd n g) (fun _ => br_t rfl h))))))))⟩))
    · unfold wpY_amend
      exact br_f h0 (br_f hL ⟨hi, br_f (by rw [e]; decide) ⟨hi, br_f (by rw [e]; decide) ⟨hi, br_f (by rw [e]; decide) (tr_yTgt (fun n => absurd n g) (fun _ => br_t rfl h))⟩⟩⟩)
theorem tr_a8 (ok : tr_ok L p O A B C) {i w : Int32} (h0 : ¬ i < 0) (hL : ¬ nI L ≤ i) (hq : i.toNatClampNeg < L) (hi : vp_in i 24) (e : O i.toNatClampNeg = 8) : tr_Am L p st R M O A B C i w := by
  have T := ok.2.2 i.toNatClampNeg hq
  by_cases g : vp_in w 24
  · refine ⟨i, _, _, tr_rel (st := st) (R := R) (M := M) (tr_okY (v := w) ok (by rw [e] at T ⊢; exact tr_i8.mpr ⟨(tr_i8.mp T).1, g⟩)), fun post h => ?_, fun post h => ?_⟩
    · unfold wpX_amend wpX_isInstruction
      exact br_f h0 (br_f hL (br_f tr_10 ⟨hi, nm_r e (br_f (by decide) (br_f (by decide) (br_f (by decide) (br_f (by decide) (br_f (by decide) (br_f (by decide) (br_t rfl (tr_xTgt (fun _ => br_f tr_10 ⟨hi, nm_e h⟩) (fun n => absurd g n)))))))))⟩))
    · unfold wpY_amend
      exact br_f h0 (br_f hL ⟨hi, br_f (by rw [e]; decide) ⟨hi, br_f (by rw [e]; decide) ⟨hi, br_f (by rw [e]; decide) (tr_yTgt (fun _ => br_f tr_10 ⟨hi, br_f (by rw [e]; decide) ⟨hi, br_f (by rw [e]; decide) ⟨hi, nm_e h⟩⟩⟩) (fun n => absurd g n))⟩⟩⟩)
  · refine ⟨-1, _, _, tr_rel (st := st) (R := R) (M := M) (ok), fun post h => ?_, fun post h => ?_⟩
    · unfold wpX_amend wpX_isInstruction
      exact br_f h0 (br_f hL (br_f tr_10 ⟨hi, nm_r e (br_f (by decide) (br_f (by decide) (br_f (by decide) (br_f (by decide) (br_f (by decide) (br_f (by decide) (br_t rfl (tr_xTgt (fun n => absurd n g) (fun _ => br_t rfl h)))))))))⟩))
    · unfold wpY_amend
      exact br_f h0 (br_f hL ⟨hi, br_f (by rw [e]; decide) ⟨hi, br_f (by rw [e]; decide) ⟨hi, br_f (by rw [e]; decide) (tr_yTgt (fun n => absurd n g) (fun _ => br_t rfl h))⟩⟩⟩)
theorem tr_a9 (ok : tr_ok L p O A B C) {i w : Int32} (h0 : ¬ i < 0) (hL : ¬ nI L ≤ i) (hq : i.toNatClampNeg < L) (hi : vp_in i 24) (e : O i.toNatClampNeg = 9) : tr_Am L p st R M O A B C i w := by
  have T := ok.2.2 i.toNatClampNeg hq
  by_cases g : vp_in w 24
  · refine ⟨i, _, _, tr_rel (st := st) (R := R) (M := M) (tr_okX (v := w) ok (by rw [e]; exact tr_i9.mpr g)), fun post h => ?_, fun post h => ?_⟩
    · unfold wpX_amend wpX_isInstruction
      exact br_f h0 (br_f hL (br_f tr_10 ⟨hi, nm_r e (br_f (by decide) (br_f (by decide) (br_f (by decide) (br_f (by decide) (br_f (by decide) (br_f (by decide) (br_f (by decide) (br_t rfl (tr_xTgt (fun _ => br_f tr_10 ⟨hi, nm_e h⟩) (fun n => absurd g n))))))))))⟩))
    · unfold wpY_amend
      exact br_f h0 (br_f hL ⟨hi, br_f (by rw [e]; decide) ⟨hi, br_f (by rw [e]; decide) ⟨hi, br_f (by rw [e]; decide) (tr_yTgt (fun _ => br_f tr_10 ⟨hi, br_t e ⟨hi, nm_e h⟩⟩) (fun n => absurd g n))⟩⟩⟩)
  · refine ⟨-1, _, _, tr_rel (st := st) (R := R) (M := M) (ok), fun post h => ?_, fun post h => ?_⟩
    · unfold wpX_amend wpX_isInstruction
      exact br_f h0 (br_f hL (br_f tr_10 ⟨hi, nm_r e (br_f (by decide) (br_f (by decide) (br_f (by decide) (br_f (by decide) (br_f (by decide) (br_f (by decide) (br_f (by decide) (br_t rfl (tr_xTgt (fun n => absurd n g) (fun _ => br_t rfl h))))))))))⟩))
    · unfold wpY_amend
      exact br_f h0 (br_f hL ⟨hi, br_f (by rw [e]; decide) ⟨hi, br_f (by rw [e]; decide) ⟨hi, br_f (by rw [e]; decide) (tr_yTgt (fun n => absurd n g) (fun _ => br_t rfl h))⟩⟩⟩)
theorem tr_a10 (ok : tr_ok L p O A B C) {i w : Int32} (h0 : ¬ i < 0) (hL : ¬ nI L ≤ i) (hq : i.toNatClampNeg < L) (hi : vp_in i 24) (e : O i.toNatClampNeg = 10) : tr_Am L p st R M O A B C i w := by
  refine ⟨-1, _, _, tr_rel (st := st) (R := R) (M := M) (ok), fun post h => ?_, fun post h => ?_⟩
  · unfold wpX_amend wpX_isInstruction
    exact br_f h0 (br_f hL (br_f tr_10 ⟨hi, nm_r e (br_f (by decide) (br_t (by decide) h))⟩))
  · unfold wpY_amend
    exact br_f h0 (br_f hL ⟨hi, br_f (by rw [e]; decide) ⟨hi, br_t e h⟩⟩)
theorem tr_am (ok : tr_ok L p O A B C) (i w : Int32) : tr_Am L p st R M O A B C i w := by
  rcases tr_ix i ok.1 with h0 | ⟨h0, hL⟩ | ⟨h0, hL, hq, hi⟩
  · refine ⟨-1, _, _, tr_rel (st := st) (R := R) (M := M) ok, fun post h => ?_, fun post h => ?_⟩
    · unfold wpX_amend wpX_isInstruction
      exact br_t h0 (br_t rfl h)
    · unfold wpY_amend
      exact br_t h0 h
  · refine ⟨-1, _, _, tr_rel (st := st) (R := R) (M := M) ok, fun post h => ?_, fun post h => ?_⟩
    · unfold wpX_amend wpX_isInstruction
      exact br_f h0 (br_t hL (br_t rfl h))
    · unfold wpY_amend
      exact br_f h0 (br_t hL h)
  · rcases ok.2.2 i.toNatClampNeg hq with ⟨e | e | e | e, _⟩ | ⟨e | e | e, _⟩ | ⟨e | e, _⟩ | ⟨e, _⟩ | e
    · exact tr_a0 ok h0 hL hq hi e
    · exact tr_a1 ok h0 hL hq hi e
    · exact tr_a2 ok h0 hL hq hi e
    · exact tr_a3 ok h0 hL hq hi e
    · exact tr_a4 ok h0 hL hq hi e
    · exact tr_a5 ok h0 hL hq hi e
    · exact tr_a6 ok h0 hL hq hi e
    · exact tr_a7 ok h0 hL hq hi e
    · exact tr_a8 ok h0 hL hq hi e
    · exact tr_a9 ok h0 hL hq hi e
    · exact tr_a10 ok h0 hL hq hi e
end
end
section
def i_Rel (k : Nat) (u : SX) (v : SY) : Prop := tr_Rel u v
theorem i_up {k : Nat} {u : SX} {v : SY} (h : i_Rel k u v) : i_Rel (k + 5) u v := h
theorem i_vc0 : wpX_init (fun u => wpY_init (fun v => i_Rel 0 u v)) := ⟨0, 0, 0, fun _ => 0, fun _ => 0, fun _ => 0, fun _ => 0, fun _ => 0, fun _ => 0, rfl, rfl, by decide, by decide, fun i hi => absurd hi (Nat.not_lt_zero i)⟩
theorem i_vc_emit {k : Nat} {u : SX} {v : SY} (I : i_Rel k u v) (hk : k + 5 ≤ 2560) (v1 : Int32) (v2 : Int32) (v3 : Int32) (v4 : Int32) : wpX_emit (fun r u' => wpY_emit (fun r' v' => r' = r ∧ i_Rel (k + 5) u' v') v v1 v2 v3 v4) u v1 v2 v3 v4 := by
  obtain ⟨L, p, st, R, M, O, A, B, C, rfl, rfl, ok⟩ := I
  unfold wpX_emit wpY_emit
  dsimp only
  by_cases hL : L < 24
  · have e24 : ¬ nI L = 24 := fun z => by
      have := (nI_eq (a := L) (b := 24) (by omega) (by decide)).mp z
      omega
    have hi : vp_in (nI L) 24 := vp_in_nI hL (by decide)
    have hc : (nI L).toNatClampNeg = L := nI_clamp (by omega)
    refine br_t (nI_lt (b := 24) hL (by decide)) (tr_xFit (fun t => br_f tr_10 ?_) (fun t => br_t rfl ?_))
    · refine ⟨hi, nm_r (by rw [hc]) ⟨hi, nm_r (by rw [hc]) ⟨hi, nm_r (by rw [hc]) ⟨hi, nm_r (by rw [hc]) (nm_r (nI_1 L) ?_)⟩⟩⟩⟩
      refine br_f e24 (tr_yFit (fun _ => br_f tr_10 ?_) (fun n => absurd t n))
      exact ⟨hi, nm_r (by rw [hc]) ⟨hi, nm_r (by rw [hc]) ⟨hi, nm_r (by rw [hc]) ⟨hi, nm_r (by rw [hc]) (nm_r (nI_1 L) ⟨rfl, tr_rel (tr_okE ok hL t)⟩)⟩⟩⟩⟩
    · exact br_f e24 (tr_yFit (fun n => absurd n t) (fun _ => br_t rfl ⟨rfl, tr_rel ok⟩))
  · have e : L = 24 := by have := ok.1; omega
    subst e
    exact br_f (nI_nlt (b := 24) (Nat.le_refl 24) (by decide)) (br_t rfl ⟨rfl, tr_rel ok⟩)
theorem i_vc_amend {k : Nat} {u : SX} {v : SY} (I : i_Rel k u v) (hk : k + 5 ≤ 2560) (v1 : Int32) (v2 : Int32) : wpX_amend (fun r u' => wpY_amend (fun r' v' => r' = r ∧ i_Rel (k + 5) u' v') v v1 v2) u v1 v2 := by
  obtain ⟨L, p, st, R, M, O, A, B, C, rfl, rfl, ok⟩ := I
  obtain ⟨r, u, v, rel, hX, hY⟩ := tr_am (st := st) (R := R) (M := M) ok v1 v2
  exact hX _ (hY _ ⟨rfl, rel⟩)
theorem i_vc_restart {k : Nat} {u : SX} {v : SY} (I : i_Rel k u v) (hk : k + 5 ≤ 2560) : wpX_restart (fun u' => wpY_restart (fun v' => i_Rel (k + 5) u' v') v) u := by
  obtain ⟨L, p, st, R, M, O, A, B, C, rfl, rfl, ok⟩ := I
  exact tr_rel (p := 0) ⟨ok.1, Nat.zero_le _, ok.2.2⟩
theorem i_vc_run {k : Nat} {u : SX} {v : SY} (I : i_Rel k u v) (hk : k + 5 ≤ 2560) (v1 : Int32) : wpX_run (fun r u' => wpY_run (fun r' v' => r' = r ∧ i_Rel (k + 5) u' v') v v1) u v1 := by
  obtain ⟨L, p, st, R, M, O, A, B, C, rfl, rfl, ok⟩ := I
  unfold wpX_run wpY_run
  dsimp only
  by_cases h0 : 0 ≤ v1
  · by_cases h1 : v1 ≤ 150
    · obtain ⟨m, hm, rfl⟩ := nI_of2 (M := 150) (n := 150) (by decide) (Int32.not_lt.mpr h0) h1
      obtain ⟨r, u, v, rel, hX, hY⟩ := tr_loop m hm m 0 (by omega) L p st R M O A B C 0 ok
      exact br_t h1 ⟨m + 1, hX _ (br_t h0 (br_t h1 ⟨m + 1, hY _ ⟨rfl, rel⟩⟩))⟩
    · obtain ⟨r, u, v, rel, hX, hY⟩ := tr_loop 150 (Nat.le_refl _) 150 0 (by omega) L p st R M O A B C 0 ok
      exact br_f h1 ⟨150 + 1, hX _ (br_t h0 (br_f h1 ⟨150 + 1, hY _ ⟨rfl, rel⟩⟩))⟩
  · have hn : v1 ≤ 0 := Int32.le_of_lt (Int32.not_le.mp h0)
    have h1 : v1 ≤ 150 := Int32.le_trans hn (by decide)
    exact br_t h1 ⟨0 + 1, br_t hn (br_f h0 ⟨0 + 1, br_t (by decide) ⟨rfl, tr_rel ok⟩⟩)⟩
theorem i_vc_register {k : Nat} {u : SX} {v : SY} (I : i_Rel k u v) (hk : k + 5 ≤ 2560) (v1 : Int32) : wpX_register (fun r => wpY_register (fun r' => r' = r ∧ i_Rel (k + 5) u v) v v1) u v1 := by
  obtain ⟨L, p, st, R, M, O, A, B, C, rfl, rfl, ok⟩ := I
  unfold wpX_register wpY_register
  dsimp only
  refine tr_xReg (fun a => br_f tr_10 ⟨a, ?_⟩) (fun a => br_t rfl ?_)
  · exact tr_yReg (fun _ => br_f tr_10 ⟨a, rfl, tr_rel ok⟩) (fun n => absurd a n)
  · exact tr_yReg (fun n => absurd n a) (fun _ => br_t rfl ⟨rfl, tr_rel ok⟩)
theorem i_vc_setRegister {k : Nat} {u : SX} {v : SY} (I : i_Rel k u v) (hk : k + 5 ≤ 2560) (v1 : Int32) (v2 : Int32) : wpX_setRegister (fun r u' => wpY_setRegister (fun r' v' => r' = r ∧ i_Rel (k + 5) u' v') v v1 v2) u v1 v2 := by
  obtain ⟨L, p, st, R, M, O, A, B, C, rfl, rfl, ok⟩ := I
  unfold wpX_setRegister wpY_setRegister
  dsimp only
  refine tr_xReg (fun a => br_f tr_10 ⟨a, nm_e ?_⟩) (fun a => br_t rfl ?_)
  · exact tr_yReg (fun _ => br_f tr_10 ⟨a, nm_e ⟨rfl, tr_rel ok⟩⟩) (fun n => absurd a n)
  · exact tr_yReg (fun n => absurd n a) (fun _ => br_t rfl ⟨rfl, tr_rel ok⟩)
theorem i_vc_memory {k : Nat} {u : SX} {v : SY} (I : i_Rel k u v) (hk : k + 5 ≤ 2560) (v1 : Int32) : wpX_memory (fun r => wpY_memory (fun r' => r' = r ∧ i_Rel (k + 5) u v) v v1) u v1 := by
  obtain ⟨L, p, st, R, M, O, A, B, C, rfl, rfl, ok⟩ := I
  unfold wpX_memory wpY_memory
  dsimp only
  refine tr_xCel (fun a => br_f tr_10 ⟨a, ?_⟩) (fun a => br_t rfl ?_)
  · exact tr_rB (c := 15) (n := 16) (by decide) (fun _ => ⟨a, rfl, tr_rel ok⟩) (fun n => absurd a n)
  · exact tr_rB (c := 15) (n := 16) (by decide) (fun n => absurd n a) (fun _ => ⟨rfl, tr_rel ok⟩)
theorem i_vc_setMemory {k : Nat} {u : SX} {v : SY} (I : i_Rel k u v) (hk : k + 5 ≤ 2560) (v1 : Int32) (v2 : Int32) : wpX_setMemory (fun r u' => wpY_setMemory (fun r' v' => r' = r ∧ i_Rel (k + 5) u' v') v v1 v2) u v1 v2 := by
  obtain ⟨L, p, st, R, M, O, A, B, C, rfl, rfl, ok⟩ := I
  unfold wpX_setMemory wpY_setMemory
  dsimp only
  refine tr_xCel (fun a => br_f tr_10 ⟨a, nm_e ?_⟩) (fun a => br_t rfl ?_)
  · exact tr_rC (c := 15) (n := 16) (by decide) (fun _ => ⟨a, nm_e ⟨rfl, tr_rel ok⟩⟩) (fun n => absurd a n)
  · exact tr_rC (c := 15) (n := 16) (by decide) (fun n => absurd n a) (fun _ => ⟨rfl, tr_rel ok⟩)
theorem i_vc_place {k : Nat} {u : SX} {v : SY} (I : i_Rel k u v) (hk : k + 5 ≤ 2560) : wpX_place (fun r => wpY_place (fun r' => r' = r ∧ i_Rel (k + 5) u v) v) u := by
  obtain ⟨L, p, st, R, M, O, A, B, C, rfl, rfl, ok⟩ := I
  exact ⟨rfl, tr_rel ok⟩
theorem i_vc_status {k : Nat} {u : SX} {v : SY} (I : i_Rel k u v) (hk : k + 5 ≤ 2560) : wpX_status (fun r => wpY_status (fun r' => r' = r ∧ i_Rel (k + 5) u v) v) u := by
  obtain ⟨L, p, st, R, M, O, A, B, C, rfl, rfl, ok⟩ := I
  exact ⟨rfl, tr_rel ok⟩
theorem i_vc_clear {k : Nat} {u : SX} {v : SY} (I : i_Rel k u v) (hk : k + 5 ≤ 2560) : wpX_clear (fun u' => wpY_clear (fun v' => i_Rel (k + 5) u' v') v) u := by
  obtain ⟨L, p, st, R, M, O, A, B, C, rfl, rfl, ok⟩ := I
  unfold wpX_clear wpY_clear wpY_restart
  dsimp only
  refine ⟨8 + 1, tr_xc2 ?_ 8 0 rfl⟩
  refine ⟨8 + 1, tr_yc11 ?_ 8 0 rfl⟩
  exact tr_rel (L := 0) (p := 0) ⟨by decide, by decide, fun i hi => absurd hi (Nat.not_lt_zero i)⟩
end
