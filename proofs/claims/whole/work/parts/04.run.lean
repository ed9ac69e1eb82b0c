theorem tr_xIns {post : Int32 → Prop} {L p : Nat} {pc st : Int32} {R M O A B C : Nat → Int32} (hL : L ≤ 24) (hp : p ≤ 24) (h1 : p < L → post 1) (h0 : ¬ p < L → post 0) : wpX_isInstruction post (nI L, pc, st, R, M, O, A, B, C) (nI p) := by
  unfold wpX_isInstruction
  dsimp only
  refine br_f (nI_pos (by omega)) ?_
  by_cases h : p < L
  · exact br_f (nI_ge h (by omega)) (h1 h)
  · exact br_t (nI_le (by omega) (by omega)) (h0 h)
/-- the loop of run from turn t on, d turns left: both sides end, with one count, in related states -/
theorem tr_loop (m : Nat) (hm : m ≤ 150) : ∀ (d t : Nat), t + d = m → ∀ (L p : Nat) (st : Int32) (R M O A B C : Nat → Int32) (x : Int32), tr_ok L p O A B C →
    ∃ (r : Int32) (u : SX) (v : SY), tr_Rel u v ∧
      (∀ post : Int32 → SX → Prop, post r u → wX_run_20 post (nI m) (d + 1) x (nI t) (nI L) (nI p) st R M O A B C) ∧
      (∀ post : Int32 → SY → Prop, post r v → wY_run_28 post (nI m) (d + 1) x (nI t) (nI L) (nI p) st O A B C R M) := by
  intro d
  induction d with
  | zero =>
    intro t ht L p st R M O A B C x ok
    have h : nI m ≤ nI t := nI_le (by omega) (by omega)
    exact ⟨x, _, _, tr_rel ok, fun post q => br_t h q, fun post q => br_t h q⟩
  | succ d ih =>
    intro t ht L p st R M O A B C x ok
    have h : ¬ nI m ≤ nI t := nI_ge (by omega) (by omega)
    by_cases hs : st = 0
    · by_cases hp : p < L
      · obtain ⟨p', st', R', M', hp', eX, eY⟩ := tr_exec (st := st) (R := R) (M := M) ok hp
        obtain ⟨r, u, v, rel, hX, hY⟩ := ih (t + 1) (by omega) L p' st' R' M' O A B C (x + 1) ⟨ok.1, hp', ok.2.2⟩
        refine ⟨r, u, v, rel, fun post q => ?_, fun post q => ?_⟩
        · refine br_f h (br_t hs (tr_xIns ok.1 ok.2.1 (fun _ => br_f tr_10 (eX _ ?_)) (fun n => absurd hp n)))
          exact nm_e (nm_r (nI_1 t) (hX post q))
        · refine br_f h (br_t hs (br_t (nI_lt hp (by have := ok.1; omega)) (eY _ ?_)))
          exact nm_e (nm_r (nI_1 t) (hY post q))
      · obtain ⟨r, u, v, rel, hX, hY⟩ := ih (t + 1) (by omega) L p 2 R M O A B C x ok
        refine ⟨r, u, v, rel, fun post q => ?_, fun post q => ?_⟩
        · exact br_f h (br_t hs (tr_xIns ok.1 ok.2.1 (fun n => absurd n hp) (fun _ => br_t rfl (nm_r (nI_1 t) (hX post q)))))
        · exact br_f h (br_t hs (br_f (nI_nlt (by omega) (by have := ok.2.1; omega)) (nm_r (nI_1 t) (hY post q))))
    · exact ⟨x, _, _, tr_rel ok, fun post q => br_f h (br_f hs q), fun post q => br_f h (br_f hs q)⟩
