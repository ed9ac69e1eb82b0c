theorem pk_us {f : Nat → Int32} {k : Nat} {x : Int32} : upd f k x k = x := if_pos rfl
theorem pk_un {f : Nat → Int32} {k j : Nat} {x : Int32} (h : j ≠ k) : upd f k x j = f j := if_neg h
theorem pk_and (x : Int32) {m : Int32} (k : Nat) (hm : m.toBitVec.toNat = 2 ^ k - 1) : x &&& m = nI (x.toBitVec.toNat % 2 ^ k) := by
  apply Int32.toBitVec_inj.mp
  apply BitVec.eq_of_toNat_eq
  rw [Int32.toBitVec_and, BitVec.toNat_and, hm, Nat.and_two_pow_sub_one_eq_mod]
  show _ = (BitVec.ofNat 32 _).toNat
  rw [BitVec.toNat_ofNat]
  exact (Nat.mod_eq_of_lt (Nat.lt_of_le_of_lt (Nat.mod_le _ _) x.toBitVec.isLt)).symm
theorem pk_andE (x : Int32) {m : Int32} (k : Nat) (hm : m.toBitVec.toNat = 2 ^ k - 1) : ∃ j : Nat, j < 2 ^ k ∧ x &&& m = nI j := ⟨_, Nat.mod_lt _ (Nat.two_pow_pos k), pk_and x k hm⟩
theorem pk_andIn (x : Int32) {m : Int32} (k : Nat) (hm : m.toBitVec.toNat = 2 ^ k - 1) (hk : k ≤ 30) : vp_in (x &&& m) (2 ^ k) := by
  obtain ⟨j, hj, e⟩ := pk_andE x k hm
  rw [e]
  exact vp_in_nI hj (Nat.lt_of_le_of_lt (Nat.pow_le_pow_right (by decide) hk) (by decide))
/-- what a stored instruction is: an op with the operands it has within their ranges -/
def tr_ins (o x y z : Int32) : Prop :=
  ((o = 0 ∨ o = 1 ∨ o = 2 ∨ o = 3) ∧ vp_in x 8 ∧ vp_in y 8 ∧ vp_in z 8) ∨
  ((o = 4 ∨ o = 5 ∨ o = 6) ∧ vp_in x 8 ∧ vp_in y 8) ∨
  ((o = 7 ∨ o = 8) ∧ vp_in x 8 ∧ vp_in y 24) ∨
  (o = 9 ∧ vp_in x 24) ∨ o = 10
/-- the program's length, the place, and every instruction below the length -/
def tr_ok (L p : Nat) (O A B C : Nat → Int32) : Prop := L ≤ 24 ∧ p ≤ 24 ∧ ∀ i, i < L → tr_ins (O i) (A i) (B i) (C i)
theorem tr_0 : (0 : Int32).toInt = 0 := by decide
theorem tr_7 : (7 : Int32).toInt = 7 := by decide
theorem tr_8 : (8 : Int32).toInt = 8 := by decide
theorem tr_15 : (15 : Int32).toInt = 15 := by decide
theorem tr_16 : (16 : Int32).toInt = 16 := by decide
theorem tr_23 : (23 : Int32).toInt = 23 := by decide
theorem tr_24 : (24 : Int32).toInt = 24 := by decide
theorem tr_m15 (x : Int32) : vp_in (x &&& 15) 16 := pk_andIn x 4 (by decide) (by decide)
theorem tr_okE {L p : Nat} {O A B C : Nat → Int32} (h : tr_ok L p O A B C) (hL : L < 24) {o x y z : Int32} (hi : tr_ins o x y z) : tr_ok (L + 1) p (upd O L o) (upd A L x) (upd B L y) (upd C L z) := by
  refine ⟨by omega, h.2.1, fun i hi' => ?_⟩
  by_cases e : i = L
  · subst e
    rw [pk_us, pk_us, pk_us, pk_us]
    exact hi
  · rw [pk_un e, pk_un e, pk_un e, pk_un e]
    exact h.2.2 i (by omega)
theorem tr_okZ {L p : Nat} {O A B C : Nat → Int32} (h : tr_ok L p O A B C) {i : Nat} {v : Int32} (hi : tr_ins (O i) (A i) (B i) v) : tr_ok L p O A B (upd C i v) := by
  refine ⟨h.1, h.2.1, fun j hj => ?_⟩
  by_cases e : j = i
  · subst e
    rw [pk_us]
    exact hi
  · rw [pk_un e]
    exact h.2.2 j hj
theorem tr_okY {L p : Nat} {O A B C : Nat → Int32} (h : tr_ok L p O A B C) {i : Nat} {v : Int32} (hi : tr_ins (O i) (A i) v (C i)) : tr_ok L p O A (upd B i v) C := by
  refine ⟨h.1, h.2.1, fun j hj => ?_⟩
  by_cases e : j = i
  · subst e
    rw [pk_us]
    exact hi
  · rw [pk_un e]
    exact h.2.2 j hj
theorem tr_okX {L p : Nat} {O A B C : Nat → Int32} (h : tr_ok L p O A B C) {i : Nat} {v : Int32} (hi : tr_ins (O i) v (B i) (C i)) : tr_ok L p O (upd A i v) B C := by
  refine ⟨h.1, h.2.1, fun j hj => ?_⟩
  by_cases e : j = i
  · subst e
    rw [pk_us]
    exact hi
  · rw [pk_un e]
    exact h.2.2 j hj
/-- an array with its first n cells made 0, as a loop from 0 makes it -/
def tr_z (f : Nat → Int32) : Nat → (Nat → Int32)
  | 0 => f
  | n + 1 => upd (tr_z f n) n 0
