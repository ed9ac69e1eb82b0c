theorem tr_zs (f : Nat → Int32) {t : Nat} (ht : t < 24) : upd (tr_z f t) (nI t).toNatClampNeg 0 = tr_z f (t + 1) := by
  rw [nI_clamp (by omega)]
  rfl
section
variable {l pc st : Int32} {R M O A B C : Nat → Int32}
theorem tr_xc23 {post : SX → Prop} (h : post (0, 0, 0, R, tr_z M 16, O, A, B, C)) : ∀ d t : Nat, t + d = 16 → wX_clear_23 post l pc st (d + 1) (nI t) R (tr_z M t) O A B C := by
  intro d
  induction d with
  | zero =>
    intro t ht
    obtain rfl : t = 16 := by omega
    exact br_t (nI_le (a := 16) (by omega) (by decide)) h
  | succ d ih =>
    intro t ht
    exact br_f (nI_ge (b := 16) (by omega) (by decide)) ⟨vp_in_nI (by omega) (by decide), nm_r (tr_zs M (by omega)) (nm_r (nI_1 t) (ih (t + 1) (by omega)))⟩
theorem tr_xc2 {post : SX → Prop} (h : post (0, 0, 0, tr_z R 8, tr_z M 16, O, A, B, C)) : ∀ d t : Nat, t + d = 8 → wX_clear_2 post l pc st (d + 1) (nI t) (tr_z R t) M O A B C := by
  intro d
  induction d with
  | zero =>
    intro t ht
    obtain rfl : t = 8 := by omega
    exact br_t (nI_le (a := 8) (by omega) (by decide)) ⟨17, tr_xc23 h 16 0 rfl⟩
  | succ d ih =>
    intro t ht
    exact br_f (nI_ge (b := 8) (by omega) (by decide)) ⟨vp_in_nI (by omega) (by decide), nm_r (tr_zs R (by omega)) (nm_r (nI_1 t) (ih (t + 1) (by omega)))⟩
theorem tr_yc32 {post : SY → Prop} (h : post (l, pc, st, O, A, B, C, R, tr_z M 16)) : ∀ d t : Nat, t + d = 16 → wY_clear_32 post l pc st (d + 1) (nI t) O A B C R (tr_z M t) := by
  intro d
  induction d with
  | zero =>
    intro t ht
    obtain rfl : t = 16 := by omega
    exact br_t (nI_le (a := 16) (by omega) (by decide)) h
  | succ d ih =>
    intro t ht
    exact br_f (nI_ge (b := 16) (by omega) (by decide)) ⟨vp_in_nI (by omega) (by decide), nm_r (tr_zs M (by omega)) (nm_r (nI_1 t) (ih (t + 1) (by omega)))⟩
theorem tr_yc11 {post : SY → Prop} (h : post (l, pc, st, O, A, B, C, tr_z R 8, tr_z M 16)) : ∀ d t : Nat, t + d = 8 → wY_clear_11 post l pc st (d + 1) (nI t) O A B C (tr_z R t) M := by
  intro d
  induction d with
  | zero =>
    intro t ht
    obtain rfl : t = 8 := by omega
    exact br_t (nI_le (a := 8) (by omega) (by decide)) ⟨17, tr_yc32 h 16 0 rfl⟩
  | succ d ih =>
    intro t ht
    exact br_f (nI_ge (b := 8) (by omega) (by decide)) ⟨vp_in_nI (by omega) (by decide), nm_r (tr_zs R (by omega)) (nm_r (nI_1 t) (ih (t + 1) (by omega)))⟩
end
