section
variable {L p : Nat} {st : Int32} {R M O A B C : Nat → Int32}
/-- the reference's last branches, where the instruction is neither a jump nor a halt -/
theorem tr_y319 {post : SY → Prop} {n pc i x : Int32} (hi : vp_in i 24) (h9 : ¬ O i.toNatClampNeg = 9) (h10 : ¬ O i.toNatClampNeg = 10) (h : post (n, pc, st, O, A, B, C, R, M)) : wY_execute_319 post i x n pc st O A B C R M := by
  unfold wY_execute_319
  exact ⟨hi, br_f h9 ⟨hi, br_f h10 h⟩⟩
/-- one instruction: both sides end alike -/
def tr_Ex (L p : Nat) (st : Int32) (R M O A B C : Nat → Int32) : Prop :=
  ∃ (p' : Nat) (st' : Int32) (R' M' : Nat → Int32), p' ≤ 24 ∧
    (∀ post : SX → Prop, post (nI L, nI p', st', R', M', O, A, B, C) → wpX_execute post (nI L, nI p, st, R, M, O, A, B, C) (nI p)) ∧
    (∀ post : SY → Prop, post (nI L, nI p', st', O, A, B, C, R', M') → wpY_execute post (nI L, nI p, st, O, A, B, C, R, M) (nI p))
theorem tr_e0 (hp : p < 24) (hi : vp_in (nI p) 24) (e : O (nI p).toNatClampNeg = 0) (hx : vp_in (A (nI p).toNatClampNeg) 8) (hy : vp_in (B (nI p).toNatClampNeg) 8) (hz : vp_in (C (nI p).toNatClampNeg) 8) : tr_Ex L p st R M O A B C := by
  refine ⟨p + 1, st, upd R (A (nI p).toNatClampNeg).toNatClampNeg (R (B (nI p).toNatClampNeg).toNatClampNeg + R (C (nI p).toNatClampNeg).toNatClampNeg), M, by omega, fun post h => ?_, fun post h => ?_⟩
  · exact ⟨hi, nm_e ⟨hi, nm_e ⟨hi, nm_e (nm_r (nI_1 p) ⟨hi, nm_r e (br_f (by decide) (br_f (by decide) (br_t rfl ⟨hy, hz, hx, nm_e h⟩)))⟩)⟩⟩⟩
  · exact ⟨hi, nm_e ⟨hi, nm_e ⟨hi, nm_e (nm_r (nI_1 p) ⟨hi, br_t e ⟨hy, hz, hx, nm_e h⟩⟩)⟩⟩⟩
theorem tr_e1 (hp : p < 24) (hi : vp_in (nI p) 24) (e : O (nI p).toNatClampNeg = 1) (hx : vp_in (A (nI p).toNatClampNeg) 8) (hy : vp_in (B (nI p).toNatClampNeg) 8) (hz : vp_in (C (nI p).toNatClampNeg) 8) : tr_Ex L p st R M O A B C := by
  refine ⟨p + 1, st, upd R (A (nI p).toNatClampNeg).toNatClampNeg (R (B (nI p).toNatClampNeg).toNatClampNeg - R (C (nI p).toNatClampNeg).toNatClampNeg), M, by omega, fun post h => ?_, fun post h => ?_⟩
  · exact ⟨hi, nm_e ⟨hi, nm_e ⟨hi, nm_e (nm_r (nI_1 p) ⟨hi, nm_r e (br_f (by decide) (br_f (by decide) (br_f (by decide) (br_t rfl ⟨hy, hz, hx, nm_e h⟩))))⟩)⟩⟩⟩
  · exact ⟨hi, nm_e ⟨hi, nm_e ⟨hi, nm_e (nm_r (nI_1 p) ⟨hi, br_f (by rw [e]; decide) ⟨hi, br_t e ⟨hy, hz, hx, nm_e h⟩⟩⟩)⟩⟩⟩
theorem tr_e2 (hp : p < 24) (hi : vp_in (nI p) 24) (e : O (nI p).toNatClampNeg = 2) (hx : vp_in (A (nI p).toNatClampNeg) 8) (hy : vp_in (B (nI p).toNatClampNeg) 8) (hz : vp_in (C (nI p).toNatClampNeg) 8) : tr_Ex L p st R M O A B C := by
  refine ⟨p + 1, st, upd R (A (nI p).toNatClampNeg).toNatClampNeg (R (B (nI p).toNatClampNeg).toNatClampNeg ^^^ R (C (nI p).toNatClampNeg).toNatClampNeg), M, by omega, fun post h => ?_, fun post h => ?_⟩
  · exact ⟨hi, nm_e ⟨hi, nm_e ⟨hi, nm_e (nm_r (nI_1 p) ⟨hi, nm_r e (br_f (by decide) (br_f (by decide) (br_f (by decide) (br_f (by decide) (br_t rfl ⟨hy, hz, hx, nm_e h⟩)))))⟩)⟩⟩⟩
  · exact ⟨hi, nm_e ⟨hi, nm_e ⟨hi, nm_e (nm_r (nI_1 p) ⟨hi, br_f (by rw [e]; decide) ⟨hi, br_f (by rw [e]; decide) ⟨hi, br_t e ⟨hy, hz, hx, nm_e h⟩⟩⟩⟩)⟩⟩⟩
theorem tr_e3 (hp : p < 24) (hi : vp_in (nI p) 24) (e : O (nI p).toNatClampNeg = 3) (hx : vp_in (A (nI p).toNatClampNeg) 8) (hy : vp_in (B (nI p).toNatClampNeg) 8) (hz : vp_in (C (nI p).toNatClampNeg) 8) : tr_Ex L p st R M O A B C := by
  by_cases g : R (C (nI p).toNatClampNeg).toNatClampNeg ≤ R (B (nI p).toNatClampNeg).toNatClampNeg
  · refine ⟨p + 1, st, upd R (A (nI p).toNatClampNeg).toNatClampNeg 0, M, by omega, fun post h => ?_, fun post h => ?_⟩
    · exact ⟨hi, nm_e ⟨hi, nm_e ⟨hi, nm_e (nm_r (nI_1 p) ⟨hi, nm_r e (br_f (by decide) (br_f (by decide) (br_f (by decide) (br_f (by decide) (br_f (by decide) (br_t rfl ⟨hy, hz, br_t g ⟨hx, nm_e h⟩⟩))))))⟩)⟩⟩⟩
    · exact ⟨hi, nm_e ⟨hi, nm_e ⟨hi, nm_e (nm_r (nI_1 p) ⟨hi, br_f (by rw [e]; decide) ⟨hi, br_f (by rw [e]; decide) ⟨hi, br_f (by rw [e]; decide) ⟨hi, br_t e ⟨hy, hz, br_t g ⟨hx, nm_e h⟩⟩⟩⟩⟩⟩)⟩⟩⟩
  · refine ⟨p + 1, st, upd R (A (nI p).toNatClampNeg).toNatClampNeg 1, M, by omega, fun post h => ?_, fun post h => ?_⟩
    · exact ⟨hi, nm_e ⟨hi, nm_e ⟨hi, nm_e (nm_r (nI_1 p) ⟨hi, nm_r e (br_f (by decide) (br_f (by decide) (br_f (by decide) (br_f (by decide) (br_f (by decide) (br_t rfl ⟨hy, hz, br_f g ⟨hx, nm_e h⟩⟩))))))⟩)⟩⟩⟩
    · exact ⟨hi, nm_e ⟨hi, nm_e ⟨hi, nm_e (nm_r (nI_1 p) ⟨hi, br_f (by rw [e]; decide) ⟨hi, br_f (by rw [e]; decide) ⟨hi, br_f (by rw [e]; decide) ⟨hi, br_t e ⟨hy, hz, br_f g ⟨hx, nm_e h⟩⟩⟩⟩⟩⟩)⟩⟩⟩
theorem tr_e4 (hp : p < 24) (hi : vp_in (nI p) 24) (e : O (nI p).toNatClampNeg = 4) (hx : vp_in (A (nI p).toNatClampNeg) 8) (hy : vp_in (B (nI p).toNatClampNeg) 8) : tr_Ex L p st R M O A B C := by
  refine ⟨p + 1, st, upd R (A (nI p).toNatClampNeg).toNatClampNeg (R (B (nI p).toNatClampNeg).toNatClampNeg + C (nI p).toNatClampNeg), M, by omega, fun post h => ?_, fun post h => ?_⟩
  · exact ⟨hi, nm_e ⟨hi, nm_e ⟨hi, nm_e (nm_r (nI_1 p) ⟨hi, nm_r e (br_f (by decide) (br_f (by decide) (br_f (by decide) (br_f (by decide) (br_f (by decide) (br_f (by decide) (br_t rfl ⟨hy, hx, nm_e h⟩)))))))⟩)⟩⟩⟩
  · exact ⟨hi, nm_e ⟨hi, nm_e ⟨hi, nm_e (nm_r (nI_1 p) ⟨hi, br_f (by rw [e]; decide) ⟨hi, br_f (by rw [e]; decide) ⟨hi, br_f (by rw [e]; decide) ⟨hi, br_f (by rw [e]; decide) ⟨hi, br_t e ⟨hy, hx, nm_e h⟩⟩⟩⟩⟩⟩)⟩⟩⟩
theorem tr_e5 (hp : p < 24) (hi : vp_in (nI p) 24) (e : O (nI p).toNatClampNeg = 5) (hx : vp_in (A (nI p).toNatClampNeg) 8) (hy : vp_in (B (nI p).toNatClampNeg) 8) : tr_Ex L p st R M O A B C := by
  refine ⟨p + 1, st, upd R (A (nI p).toNatClampNeg).toNatClampNeg (M ((R (B (nI p).toNatClampNeg).toNatClampNeg + C (nI p).toNatClampNeg) &&& 15).toNatClampNeg), M, by omega, fun post h => ?_, fun post h => ?_⟩
  · exact ⟨hi, nm_e ⟨hi, nm_e ⟨hi, nm_e (nm_r (nI_1 p) ⟨hi, nm_r e (br_f (by decide) (br_f (by decide) (br_f (by decide) (br_f (by decide) (br_f (by decide) (br_f (by decide) (br_f (by decide) (br_t rfl ⟨hy, tr_m15 _, hx, nm_e h⟩))))))))⟩)⟩⟩⟩
  · exact ⟨hi, nm_e ⟨hi, nm_e ⟨hi, nm_e (nm_r (nI_1 p) ⟨hi, br_f (by rw [e]; decide) ⟨hi, br_f (by rw [e]; decide) ⟨hi, br_f (by rw [e]; decide) ⟨hi, br_f (by rw [e]; decide) ⟨hi, br_f (by rw [e]; decide) ⟨hi, br_t e ⟨hy, tr_m15 _, hx, nm_e h⟩⟩⟩⟩⟩⟩⟩)⟩⟩⟩
theorem tr_e6 (hp : p < 24) (hi : vp_in (nI p) 24) (e : O (nI p).toNatClampNeg = 6) (hx : vp_in (A (nI p).toNatClampNeg) 8) (hy : vp_in (B (nI p).toNatClampNeg) 8) : tr_Ex L p st R M O A B C := by
  refine ⟨p + 1, st, R, upd M ((R (B (nI p).toNatClampNeg).toNatClampNeg + C (nI p).toNatClampNeg) &&& 15).toNatClampNeg (R (A (nI p).toNatClampNeg).toNatClampNeg), by omega, fun post h => ?_, fun post h => ?_⟩
  · exact ⟨hi, nm_e ⟨hi, nm_e ⟨hi, nm_e (nm_r (nI_1 p) ⟨hi, nm_r e (br_f (by decide) (br_f (by decide) (br_f (by decide) (br_f (by decide) (br_f (by decide) (br_f (by decide) (br_f (by decide) (br_f (by decide) (br_t rfl ⟨hy, hx, tr_m15 _, nm_e h⟩)))))))))⟩)⟩⟩⟩
  · exact ⟨hi, nm_e ⟨hi, nm_e ⟨hi, nm_e (nm_r (nI_1 p) ⟨hi, br_f (by rw [e]; decide) ⟨hi, br_f (by rw [e]; decide) ⟨hi, br_f (by rw [e]; decide) ⟨hi, br_f (by rw [e]; decide) ⟨hi, br_f (by rw [e]; decide) ⟨hi, br_f (by rw [e]; decide) ⟨hi, br_t e ⟨hy, hx, tr_m15 _, nm_e h⟩⟩⟩⟩⟩⟩⟩⟩)⟩⟩⟩
theorem tr_e7 (hp : p < 24) (hi : vp_in (nI p) 24) (e : O (nI p).toNatClampNeg = 7) (hx : vp_in (A (nI p).toNatClampNeg) 8) (hy : vp_in (B (nI p).toNatClampNeg) 24) : tr_Ex L p st R M O A B C := by
  obtain ⟨t, ht, et⟩ := vp_in_of hy (by decide)
  by_cases g : R (A (nI p).toNatClampNeg).toNatClampNeg = 0
  · refine ⟨t, st, R, M, by omega, fun post h => ?_, fun post h => ?_⟩
    · exact ⟨hi, nm_e ⟨hi, nm_r et ⟨hi, nm_e (nm_r (nI_1 p) ⟨hi, nm_r e (br_f (by decide) (br_f (by decide) (br_f (by decide) (br_f (by decide) (br_f (by decide) (br_f (by decide) (br_f (by decide) (br_f (by decide) (br_f (by decide) (br_t rfl ⟨hx, br_t g h⟩))))))))))⟩)⟩⟩⟩
    · exact ⟨hi, nm_e ⟨hi, nm_r et ⟨hi, nm_e (nm_r (nI_1 p) ⟨hi, br_f (by rw [e]; decide) ⟨hi, br_f (by rw [e]; decide) ⟨hi, br_f (by rw [e]; decide) ⟨hi, br_f (by rw [e]; decide) ⟨hi, br_f (by rw [e]; decide) ⟨hi, br_f (by rw [e]; decide) ⟨hi, br_f (by rw [e]; decide) ⟨hi, br_t e ⟨hx, br_t g h⟩⟩⟩⟩⟩⟩⟩⟩⟩)⟩⟩⟩
  · refine ⟨p + 1, st, R, M, by omega, fun post h => ?_, fun post h => ?_⟩
    · exact ⟨hi, nm_e ⟨hi, nm_e ⟨hi, nm_e (nm_r (nI_1 p) ⟨hi, nm_r e (br_f (by decide) (br_f (by decide) (br_f (by decide) (br_f (by decide) (br_f (by decide) (br_f (by decide) (br_f (by decide) (br_f (by decide) (br_f (by decide) (br_t rfl ⟨hx, br_f g h⟩))))))))))⟩)⟩⟩⟩
    · exact ⟨hi, nm_e ⟨hi, nm_e ⟨hi, nm_e (nm_r (nI_1 p) ⟨hi, br_f (by rw [e]; decide) ⟨hi, br_f (by rw [e]; decide) ⟨hi, br_f (by rw [e]; decide) ⟨hi, br_f (by rw [e]; decide) ⟨hi, br_f (by rw [e]; decide) ⟨hi, br_f (by rw [e]; decide) ⟨hi, br_f (by rw [e]; decide) ⟨hi, br_t e ⟨hx, br_f g ⟨hi, br_f (by rw [e]; decide) (tr_y319 hi (by rw [e]; decide) (by rw [e]; decide) h)⟩⟩⟩⟩⟩⟩⟩⟩⟩⟩)⟩⟩⟩
theorem tr_e8 (hp : p < 24) (hi : vp_in (nI p) 24) (e : O (nI p).toNatClampNeg = 8) (hx : vp_in (A (nI p).toNatClampNeg) 8) (hy : vp_in (B (nI p).toNatClampNeg) 24) : tr_Ex L p st R M O A B C := by
  obtain ⟨t, ht, et⟩ := vp_in_of hy (by decide)
  by_cases g : 0 ≤ R (A (nI p).toNatClampNeg).toNatClampNeg
  · refine ⟨p + 1, st, R, M, by omega, fun post h => ?_, fun post h => ?_⟩
    · exact ⟨hi, nm_e ⟨hi, nm_e ⟨hi, nm_e (nm_r (nI_1 p) ⟨hi, nm_r e (br_f (by decide) (br_f (by decide) (br_f (by decide) (br_f (by decide) (br_f (by decide) (br_f (by decide) (br_f (by decide) (br_f (by decide) (br_f (by decide) (br_f (by decide) (br_t rfl ⟨hx, br_t g h⟩)))))))))))⟩)⟩⟩⟩
    · exact ⟨hi, nm_e ⟨hi, nm_e ⟨hi, nm_e (nm_r (nI_1 p) ⟨hi, br_f (by rw [e]; decide) ⟨hi, br_f (by rw [e]; decide) ⟨hi, br_f (by rw [e]; decide) ⟨hi, br_f (by rw [e]; decide) ⟨hi, br_f (by rw [e]; decide) ⟨hi, br_f (by rw [e]; decide) ⟨hi, br_f (by rw [e]; decide) ⟨hi, br_f (by rw [e]; decide) (⟨hi, br_t e ⟨hx, br_t g (tr_y319 hi (by rw [e]; decide) (by rw [e]; decide) h)⟩⟩)⟩⟩⟩⟩⟩⟩⟩⟩)⟩⟩⟩
  · refine ⟨t, st, R, M, by omega, fun post h => ?_, fun post h => ?_⟩
    · exact ⟨hi, nm_e ⟨hi, nm_r et ⟨hi, nm_e (nm_r (nI_1 p) ⟨hi, nm_r e (br_f (by decide) (br_f (by decide) (br_f (by decide) (br_f (by decide) (br_f (by decide) (br_f (by decide) (br_f (by decide) (br_f (by decide) (br_f (by decide) (br_f (by decide) (br_t rfl ⟨hx, br_f g h⟩)))))))))))⟩)⟩⟩⟩
    · exact ⟨hi, nm_e ⟨hi, nm_r et ⟨hi, nm_e (nm_r (nI_1 p) ⟨hi, br_f (by rw [e]; decide) ⟨hi, br_f (by rw [e]; decide) ⟨hi, br_f (by rw [e]; decide) ⟨hi, br_f (by rw [e]; decide) ⟨hi, br_f (by rw [e]; decide) ⟨hi, br_f (by rw [e]; decide) ⟨hi, br_f (by rw [e]; decide) ⟨hi, br_f (by rw [e]; decide) (⟨hi, br_t e ⟨hx, br_f g h⟩⟩)⟩⟩⟩⟩⟩⟩⟩⟩)⟩⟩⟩
theorem tr_e9 (hp : p < 24) (hi : vp_in (nI p) 24) (e : O (nI p).toNatClampNeg = 9) (hx : vp_in (A (nI p).toNatClampNeg) 24) : tr_Ex L p st R M O A B C := by
  obtain ⟨t, ht, et⟩ := vp_in_of hx (by decide)
  refine ⟨t, st, R, M, by omega, fun post h => ?_, fun post h => ?_⟩
  · exact ⟨hi, nm_r et ⟨hi, nm_e ⟨hi, nm_e (nm_r (nI_1 p) ⟨hi, nm_r e (br_f (by decide) (br_f (by decide) (br_f (by decide) (br_f (by decide) (br_f (by decide) (br_f (by decide) (br_f (by decide) (br_f (by decide) (br_f (by decide) (br_f (by decide) (br_f (by decide) (br_t rfl h))))))))))))⟩)⟩⟩⟩
  · exact ⟨hi, nm_r et ⟨hi, nm_e ⟨hi, nm_e (nm_r (nI_1 p) ⟨hi, br_f (by rw [e]; decide) ⟨hi, br_f (by rw [e]; decide) ⟨hi, br_f (by rw [e]; decide) ⟨hi, br_f (by rw [e]; decide) ⟨hi, br_f (by rw [e]; decide) ⟨hi, br_f (by rw [e]; decide) ⟨hi, br_f (by rw [e]; decide) ⟨hi, br_f (by rw [e]; decide) (⟨hi, br_f (by rw [e]; decide) ⟨hi, br_t e h⟩⟩)⟩⟩⟩⟩⟩⟩⟩⟩)⟩⟩⟩
theorem tr_e10 (hp : p < 24) (hi : vp_in (nI p) 24) (e : O (nI p).toNatClampNeg = 10)  : tr_Ex L p st R M O A B C := by
  refine ⟨p, 1, R, M, by omega, fun post h => ?_, fun post h => ?_⟩
  · exact ⟨hi, nm_e ⟨hi, nm_e ⟨hi, nm_e (nm_r (nI_1 p) ⟨hi, nm_r e (br_f (by decide) (br_t (by decide) h))⟩)⟩⟩⟩
  · exact ⟨hi, nm_e ⟨hi, nm_e ⟨hi, nm_e (nm_r (nI_1 p) ⟨hi, br_f (by rw [e]; decide) ⟨hi, br_f (by rw [e]; decide) ⟨hi, br_f (by rw [e]; decide) ⟨hi, br_f (by rw [e]; decide) ⟨hi, br_f (by rw [e]; decide) ⟨hi, br_f (by rw [e]; decide) ⟨hi, br_f (by rw [e]; decide) ⟨hi, br_f (by rw [e]; decide) (⟨hi, br_f (by rw [e]; decide) ⟨hi, br_f (by rw [e]; decide) ⟨hi, br_t e h⟩⟩⟩)⟩⟩⟩⟩⟩⟩⟩⟩)⟩⟩⟩
theorem tr_exec (ok : tr_ok L p O A B C) (hp : p < L) : tr_Ex L p st R M O A B C := by
  have h24 : p < 24 := Nat.lt_of_lt_of_le hp ok.1
  have hi : vp_in (nI p) 24 := vp_in_nI h24 (by decide)
  have T := ok.2.2 (nI p).toNatClampNeg (by rw [nI_clamp (by omega)]; exact hp)
  rcases T with ⟨e | e | e | e, hx, hy, hz⟩ | ⟨e | e | e, hx, hy⟩ | ⟨e | e, hx, hy⟩ | ⟨e, hx⟩ | e
  · exact tr_e0 h24 hi e hx hy hz
  · exact tr_e1 h24 hi e hx hy hz
  · exact tr_e2 h24 hi e hx hy hz
  · exact tr_e3 h24 hi e hx hy hz
  · exact tr_e4 h24 hi e hx hy
  · exact tr_e5 h24 hi e hx hy
  · exact tr_e6 h24 hi e hx hy
  · exact tr_e7 h24 hi e hx hy
  · exact tr_e8 h24 hi e hx hy
  · exact tr_e9 h24 hi e hx
  · exact tr_e10 h24 hi e
end
