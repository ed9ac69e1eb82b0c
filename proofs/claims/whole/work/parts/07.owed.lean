def i_Rel (k : Nat) (u : SX) (v : SY) : Prop := tr_Rel u v
theorem i_up {k : Nat} {u : SX} {v : SY} (h : i_Rel k u v) : i_Rel (k + 5) u v := h
theorem i_vc0 : wpX_init (fun u => wpY_init (fun v => i_Rel 0 u v)) := ⟨0, 0, 0, fun _ => 0, fun _ => 0, fun _ => 0, fun _ => 0, fun _ => 0, fun _ => 0, rfl, rfl, by decide, by decide, fun i hi => absurd hi (Nat.not_lt_zero i)⟩
theorem i_vc_emit {k : Nat} {u : SX} {v : SY} (I : i_Rel k u v) (hk : k + 5 ≤ 2560) (v1 : Int32) (v2 : Int32) (v3 : Int32) (v4 : Int32) : wpX_emit (fun r u' => wpY_emit (fun r' v' => r' = r ∧ i_Rel (k + 5) u' v') v v1 v2 v3 v4) u v1 v2 v3 v4 := by
  obtain ⟨L, p, st, R, M, O, A, B, C, rfl, rfl, ok⟩ := I
  unfold wpX_emit wpY_emit
  dsimp only
  by_cases hL : L < 24
  · have e24 : ¬ nI L = 24 := fun z => by
      have := (nI_eq (a := L) (b := 24) (by omega) (by decide)).mp z
      omega
    have hi : vp_in (nI L) 24 := vp_in_nI hL (by decide)
    have hc : (nI L).toNatClampNeg = L := nI_clamp (by omega)
    refine br_t (nI_lt (b := 24) hL (by decide)) (tr_xFit (fun t => br_f tr_10 ?_) (fun t => br_t rfl ?_))
    · refine ⟨hi, nm_r (by rw [hc]) ⟨hi, nm_r (by rw [hc]) ⟨hi, nm_r (by rw [hc]) ⟨hi, nm_r (by rw [hc]) (nm_r (nI_1 L) ?_)⟩⟩⟩⟩
      refine br_f e24 (tr_yFit (fun _ => br_f tr_10 ?_) (fun n => absurd t n))
      exact ⟨hi, nm_r (by rw [hc]) ⟨hi, nm_r (by rw [hc]) ⟨hi, nm_r (by rw [hc]) ⟨hi, nm_r (by rw [hc]) (nm_r (nI_1 L) ⟨rfl, tr_rel (tr_okE ok hL t)⟩)⟩⟩⟩⟩
    · exact br_f e24 (tr_yFit (fun n => absurd n t) (fun _ => br_t rfl ⟨rfl, tr_rel ok⟩))
  · have e : L = 24 := by have := ok.1; omega
    subst e
    exact br_f (nI_nlt (b := 24) (Nat.le_refl 24) (by decide)) (br_t rfl ⟨rfl, tr_rel ok⟩)
theorem i_vc_amend {k : Nat} {u : SX} {v : SY} (I : i_Rel k u v) (hk : k + 5 ≤ 2560) (v1 : Int32) (v2 : Int32) : wpX_amend (fun r u' => wpY_amend (fun r' v' => r' = r ∧ i_Rel (k + 5) u' v') v v1 v2) u v1 v2 := by
  obtain ⟨L, p, st, R, M, O, A, B, C, rfl, rfl, ok⟩ := I
  obtain ⟨r, u, v, rel, hX, hY⟩ := tr_am (st := st) (R := R) (M := M) ok v1 v2
  exact hX _ (hY _ ⟨rfl, rel⟩)
theorem i_vc_restart {k : Nat} {u : SX} {v : SY} (I : i_Rel k u v) (hk : k + 5 ≤ 2560) : wpX_restart (fun u' => wpY_restart (fun v' => i_Rel (k + 5) u' v') v) u := by
  obtain ⟨L, p, st, R, M, O, A, B, C, rfl, rfl, ok⟩ := I
  exact tr_rel (p := 0) ⟨ok.1, Nat.zero_le _, ok.2.2⟩
theorem i_vc_run {k : Nat} {u : SX} {v : SY} (I : i_Rel k u v) (hk : k + 5 ≤ 2560) (v1 : Int32) : wpX_run (fun r u' => wpY_run (fun r' v' => r' = r ∧ i_Rel (k + 5) u' v') v v1) u v1 := by
  obtain ⟨L, p, st, R, M, O, A, B, C, rfl, rfl, ok⟩ := I
  unfold wpX_run wpY_run
  dsimp only
  by_cases h0 : 0 ≤ v1
  · by_cases h1 : v1 ≤ 150
    · obtain ⟨m, hm, rfl⟩ := nI_of2 (M := 150) (n := 150) (by decide) (Int32.not_lt.mpr h0) h1
      obtain ⟨r, u, v, rel, hX, hY⟩ := tr_loop m hm m 0 (by omega) L p st R M O A B C 0 ok
      exact br_t h1 ⟨m + 1, hX _ (br_t h0 (br_t h1 ⟨m + 1, hY _ ⟨rfl, rel⟩⟩))⟩
    · obtain ⟨r, u, v, rel, hX, hY⟩ := tr_loop 150 (Nat.le_refl _) 150 0 (by omega) L p st R M O A B C 0 ok
      exact br_f h1 ⟨150 + 1, hX _ (br_t h0 (br_f h1 ⟨150 + 1, hY _ ⟨rfl, rel⟩⟩))⟩
  · have hn : v1 ≤ 0 := Int32.le_of_lt (Int32.not_le.mp h0)
    have h1 : v1 ≤ 150 := Int32.le_trans hn (by decide)
    exact br_t h1 ⟨0 + 1, br_t hn (br_f h0 ⟨0 + 1, br_t (by decide) ⟨rfl, tr_rel ok⟩⟩)⟩
theorem i_vc_register {k : Nat} {u : SX} {v : SY} (I : i_Rel k u v) (hk : k + 5 ≤ 2560) (v1 : Int32) : wpX_register (fun r => wpY_register (fun r' => r' = r ∧ i_Rel (k + 5) u v) v v1) u v1 := by
  obtain ⟨L, p, st, R, M, O, A, B, C, rfl, rfl, ok⟩ := I
  unfold wpX_register wpY_register
  dsimp only
  refine tr_xReg (fun a => br_f tr_10 ⟨a, ?_⟩) (fun a => br_t rfl ?_)
  · exact tr_yReg (fun _ => br_f tr_10 ⟨a, rfl, tr_rel ok⟩) (fun n => absurd a n)
  · exact tr_yReg (fun n => absurd n a) (fun _ => br_t rfl ⟨rfl, tr_rel ok⟩)
theorem i_vc_setRegister {k : Nat} {u : SX} {v : SY} (I : i_Rel k u v) (hk : k + 5 ≤ 2560) (v1 : Int32) (v2 : Int32) : wpX_setRegister (fun r u' => wpY_setRegister (fun r' v' => r' = r ∧ i_Rel (k + 5) u' v') v v1 v2) u v1 v2 := by
  obtain ⟨L, p, st, R, M, O, A, B, C, rfl, rfl, ok⟩ := I
  unfold wpX_setRegister wpY_setRegister
  dsimp only
  refine tr_xReg (fun a => br_f tr_10 ⟨a, nm_e ?_⟩) (fun a => br_t rfl ?_)
  · exact tr_yReg (fun _ => br_f tr_10 ⟨a, nm_e ⟨rfl, tr_rel ok⟩⟩) (fun n => absurd a n)
  · exact tr_yReg (fun n => absurd n a) (fun _ => br_t rfl ⟨rfl, tr_rel ok⟩)
theorem i_vc_memory {k : Nat} {u : SX} {v : SY} (I : i_Rel k u v) (hk : k + 5 ≤ 2560) (v1 : Int32) : wpX_memory (fun r => wpY_memory (fun r' => r' = r ∧ i_Rel (k + 5) u v) v v1) u v1 := by
  obtain ⟨L, p, st, R, M, O, A, B, C, rfl, rfl, ok⟩ := I
  unfold wpX_memory wpY_memory
  dsimp only
  refine tr_xCel (fun a => br_f tr_10 ⟨a, ?_⟩) (fun a => br_t rfl ?_)
  · exact tr_rB (c := 15) (n := 16) (by decide) (fun _ => ⟨a, rfl, tr_rel ok⟩) (fun n => absurd a n)
  · exact tr_rB (c := 15) (n := 16) (by decide) (fun n => absurd n a) (fun _ => ⟨rfl, tr_rel ok⟩)
theorem i_vc_setMemory {k : Nat} {u : SX} {v : SY} (I : i_Rel k u v) (hk : k + 5 ≤ 2560) (v1 : Int32) (v2 : Int32) : wpX_setMemory (fun r u' => wpY_setMemory (fun r' v' => r' = r ∧ i_Rel (k + 5) u' v') v v1 v2) u v1 v2 := by
  obtain ⟨L, p, st, R, M, O, A, B, C, rfl, rfl, ok⟩ := I
  unfold wpX_setMemory wpY_setMemory
  dsimp only
  refine tr_xCel (fun a => br_f tr_10 ⟨a, nm_e ?_⟩) (fun a => br_t rfl ?_)
  · exact tr_rC (c := 15) (n := 16) (by decide) (fun _ => ⟨a, nm_e ⟨rfl, tr_rel ok⟩⟩) (fun n => absurd a n)
  · exact tr_rC (c := 15) (n := 16) (by decide) (fun n => absurd n a) (fun _ => ⟨rfl, tr_rel ok⟩)
theorem i_vc_place {k : Nat} {u : SX} {v : SY} (I : i_Rel k u v) (hk : k + 5 ≤ 2560) : wpX_place (fun r => wpY_place (fun r' => r' = r ∧ i_Rel (k + 5) u v) v) u := by
  obtain ⟨L, p, st, R, M, O, A, B, C, rfl, rfl, ok⟩ := I
  exact ⟨rfl, tr_rel ok⟩
theorem i_vc_status {k : Nat} {u : SX} {v : SY} (I : i_Rel k u v) (hk : k + 5 ≤ 2560) : wpX_status (fun r => wpY_status (fun r' => r' = r ∧ i_Rel (k + 5) u v) v) u := by
  obtain ⟨L, p, st, R, M, O, A, B, C, rfl, rfl, ok⟩ := I
  exact ⟨rfl, tr_rel ok⟩
theorem i_vc_clear {k : Nat} {u : SX} {v : SY} (I : i_Rel k u v) (hk : k + 5 ≤ 2560) : wpX_clear (fun u' => wpY_clear (fun v' => i_Rel (k + 5) u' v') v) u := by
  obtain ⟨L, p, st, R, M, O, A, B, C, rfl, rfl, ok⟩ := I
  unfold wpX_clear wpY_clear wpY_restart
  dsimp only
  refine ⟨8 + 1, tr_xc2 ?_ 8 0 rfl⟩
  refine ⟨8 + 1, tr_yc11 ?_ 8 0 rfl⟩
  exact tr_rel (L := 0) (p := 0) ⟨by decide, by decide, fun i hi => absurd hi (Nat.not_lt_zero i)⟩
