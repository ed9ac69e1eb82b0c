theorem tr_xReg {post : Int32 → Prop} {r : Int32} (h1 : vp_in r 8 → post 1) (h0 : ¬ vp_in r 8 → post 0) : wpX_isRegister post r := tr_rA tr_8 h1 h0
theorem tr_xTgt {post : Int32 → Prop} {r : Int32} (h1 : vp_in r 24 → post 1) (h0 : ¬ vp_in r 24 → post 0) : wpX_isTarget post r := tr_rA tr_24 h1 h0
theorem tr_xCel {post : Int32 → Prop} {r : Int32} (h1 : vp_in r 16 → post 1) (h0 : ¬ vp_in r 16 → post 0) : wpX_isCell post r := tr_rA tr_16 h1 h0
section
variable {n pc st : Int32} {O A B C R M : Nat → Int32}
theorem tr_yReg {post : Int32 → Prop} {r : Int32} (h1 : vp_in r 8 → post 1) (h0 : ¬ vp_in r 8 → post 0) : wpY_isRegister post (n, pc, st, O, A, B, C, R, M) r := tr_rB (c := 7) (n := 8) (by decide) h1 h0
theorem tr_yTgt {post : Int32 → Prop} {r : Int32} (h1 : vp_in r 24 → post 1) (h0 : ¬ vp_in r 24 → post 0) : wpY_isPlace post (n, pc, st, O, A, B, C, R, M) r := tr_rB (c := 23) (n := 24) (by decide) h1 h0
end
theorem tr_x60 {post : Int32 → Prop} {x y z : Int32} (h1 : (vp_in x 8 ∧ vp_in y 8 ∧ vp_in z 8) → post 1) (h0 : ¬ (vp_in x 8 ∧ vp_in y 8 ∧ vp_in z 8) → post 0) : wX_isWellFormed_60 post x y z := by
  unfold wX_isWellFormed_60
  refine tr_xReg (fun a => br_f tr_10 ?_) (fun a => br_t rfl (h0 fun t => a t.1))
  refine tr_xReg (fun b => br_f tr_10 ?_) (fun b => br_t rfl (h0 fun t => b t.2.1))
  exact tr_xReg (fun c => br_f tr_10 (h1 ⟨a, b, c⟩)) (fun c => br_t rfl (h0 fun t => c t.2.2))
theorem tr_x87 {post : Int32 → Prop} {x y : Int32} (h1 : (vp_in x 8 ∧ vp_in y 8) → post 1) (h0 : ¬ (vp_in x 8 ∧ vp_in y 8) → post 0) : wX_isWellFormed_87 post x y := by
  unfold wX_isWellFormed_87
  refine tr_xReg (fun a => br_f tr_10 ?_) (fun a => br_t rfl (h0 fun t => a t.1))
  exact tr_xReg (fun b => br_f tr_10 (h1 ⟨a, b⟩)) (fun b => br_t rfl (h0 fun t => b t.2))
theorem tr_x107 {post : Int32 → Prop} {x y : Int32} (h1 : (vp_in x 8 ∧ vp_in y 24) → post 1) (h0 : ¬ (vp_in x 8 ∧ vp_in y 24) → post 0) : wX_isWellFormed_107 post x y := by
  unfold wX_isWellFormed_107
  refine tr_xReg (fun a => br_f tr_10 ?_) (fun a => br_t rfl (h0 fun t => a t.1))
  exact tr_xTgt (fun b => br_f tr_10 (h1 ⟨a, b⟩)) (fun b => br_t rfl (h0 fun t => b t.2))
/-- the component's test of an instruction -/
theorem tr_xFit {post : Int32 → Prop} {o x y z : Int32} (h1 : tr_ins o x y z → post 1) (h0 : ¬ tr_ins o x y z → post 0) : wpX_isWellFormed post o x y z := by
  unfold wpX_isWellFormed
  refine br_c (fun a => h0 fun t => (tr_insR t).1 a) (fun a => br_c (fun b => h0 fun t => (tr_insR t).2 b) (fun b => ?_))
  rcases tr_op a b with rfl | rfl | rfl | rfl | rfl | rfl | rfl | rfl | rfl | rfl | rfl
  · exact br_t rfl (tr_x60 (fun t => h1 (tr_i0.mpr t)) (fun t => h0 fun q => t (tr_i0.mp q)))
  · exact br_f (by decide) (br_t rfl (tr_x60 (fun t => h1 (tr_i1.mpr t)) (fun t => h0 fun q => t (tr_i1.mp q))))
  · exact br_f (by decide) (br_f (by decide) (br_t rfl (tr_x60 (fun t => h1 (tr_i2.mpr t)) (fun t => h0 fun q => t (tr_i2.mp q)))))
  · exact br_f (by decide) (br_f (by decide) (br_f (by decide) (br_t rfl (tr_x60 (fun t => h1 (tr_i3.mpr t)) (fun t => h0 fun q => t (tr_i3.mp q))))))
  · exact br_f (by decide) (br_f (by decide) (br_f (by decide) (br_f (by decide) (br_t rfl (tr_x87 (fun t => h1 (tr_i4.mpr t)) (fun t => h0 fun q => t (tr_i4.mp q)))))))
  · exact br_f (by decide) (br_f (by decide) (br_f (by decide) (br_f (by decide) (br_f (by decide) (br_t rfl (tr_x87 (fun t => h1 (tr_i5.mpr t)) (fun t => h0 fun q => t (tr_i5.mp q))))))))
  · exact br_f (by decide) (br_f (by decide) (br_f (by decide) (br_f (by decide) (br_f (by decide) (br_f (by decide) (br_t rfl (tr_x87 (fun t => h1 (tr_i6.mpr t)) (fun t => h0 fun q => t (tr_i6.mp q)))))))))
  · exact br_f (by decide) (br_f (by decide) (br_f (by decide) (br_f (by decide) (br_f (by decide) (br_f (by decide) (br_f (by decide) (br_t rfl (tr_x107 (fun t => h1 (tr_i7.mpr t)) (fun t => h0 fun q => t (tr_i7.mp q))))))))))
  · exact br_f (by decide) (br_f (by decide) (br_f (by decide) (br_f (by decide) (br_f (by decide) (br_f (by decide) (br_f (by decide) (br_f (by decide) (br_t rfl (tr_x107 (fun t => h1 (tr_i8.mpr t)) (fun t => h0 fun q => t (tr_i8.mp q)))))))))))
  · exact br_f (by decide) (br_f (by decide) (br_f (by decide) (br_f (by decide) (br_f (by decide) (br_f (by decide) (br_f (by decide) (br_f (by decide) (br_f (by decide) (br_t rfl (tr_xTgt (fun t => ⟨tr_n1, h1 (tr_i9.mpr t)⟩) (fun t => ⟨tr_n0, h0 fun q => t (tr_i9.mp q)⟩)))))))))))
  · exact br_f (by decide) (br_f (by decide) (br_f (by decide) (br_f (by decide) (br_f (by decide) (br_f (by decide) (br_f (by decide) (br_f (by decide) (br_f (by decide) (br_f (by decide) (br_t rfl (h1 tr_i10)))))))))))
section
variable {n pc st : Int32} {O A B C R M : Nat → Int32}
/-- the reference's test of an instruction -/
theorem tr_yFit {post : Int32 → Prop} {o x y z : Int32} (h1 : tr_ins o x y z → post 1) (h0 : ¬ tr_ins o x y z → post 0) : wpY_fits post (n, pc, st, O, A, B, C, R, M) o x y z := by
  unfold wpY_fits
  dsimp only
  refine br_c (fun a => h0 fun t => (tr_insR t).1 a) (fun a => br_c (fun b => ?_) (fun b => h0 fun t => b (Int32.not_lt.mp (tr_insR t).2)))
  rcases tr_op a (Int32.not_lt.mpr b) with rfl | rfl | rfl | rfl | rfl | rfl | rfl | rfl | rfl | rfl | rfl
  · refine br_f (by decide) (br_f (by decide) (tr_yReg (fun c => br_f tr_10 ?_) (fun c => br_t rfl (h0 fun q => c (tr_i0.mp q).1))))
    refine br_f (by decide) (br_f (by decide) (tr_yReg (fun d => br_f tr_10 ?_) (fun d => br_t rfl (h0 fun q => d (tr_i0.mp q).2.1))))
    exact br_f (by decide) (tr_yReg (fun e => br_f tr_10 (h1 (tr_i0.mpr ⟨c, d, e⟩))) (fun e => br_t rfl (h0 fun q => e (tr_i0.mp q).2.2)))
  · refine br_f (by decide) (br_f (by decide) (tr_yReg (fun c => br_f tr_10 ?_) (fun c => br_t rfl (h0 fun q => c (tr_i1.mp q).1))))
    refine br_f (by decide) (br_f (by decide) (tr_yReg (fun d => br_f tr_10 ?_) (fun d => br_t rfl (h0 fun q => d (tr_i1.mp q).2.1))))
    exact br_f (by decide) (tr_yReg (fun e => br_f tr_10 (h1 (tr_i1.mpr ⟨c, d, e⟩))) (fun e => br_t rfl (h0 fun q => e (tr_i1.mp q).2.2)))
  · refine br_f (by decide) (br_f (by decide) (tr_yReg (fun c => br_f tr_10 ?_) (fun c => br_t rfl (h0 fun q => c (tr_i2.mp q).1))))
    refine br_f (by decide) (br_f (by decide) (tr_yReg (fun d => br_f tr_10 ?_) (fun d => br_t rfl (h0 fun q => d (tr_i2.mp q).2.1))))
    exact br_f (by decide) (tr_yReg (fun e => br_f tr_10 (h1 (tr_i2.mpr ⟨c, d, e⟩))) (fun e => br_t rfl (h0 fun q => e (tr_i2.mp q).2.2)))
  · refine br_f (by decide) (br_f (by decide) (tr_yReg (fun c => br_f tr_10 ?_) (fun c => br_t rfl (h0 fun q => c (tr_i3.mp q).1))))
    refine br_f (by decide) (br_f (by decide) (tr_yReg (fun d => br_f tr_10 ?_) (fun d => br_t rfl (h0 fun q => d (tr_i3.mp q).2.1))))
    exact br_f (by decide) (tr_yReg (fun e => br_f tr_10 (h1 (tr_i3.mpr ⟨c, d, e⟩))) (fun e => br_t rfl (h0 fun q => e (tr_i3.mp q).2.2)))
  · refine br_f (by decide) (br_f (by decide) (tr_yReg (fun c => br_f tr_10 ?_) (fun c => br_t rfl (h0 fun q => c (tr_i4.mp q).1))))
    refine br_f (by decide) (br_f (by decide) (tr_yReg (fun d => br_f tr_10 ?_) (fun d => br_t rfl (h0 fun q => d (tr_i4.mp q).2))))
    exact br_t (by decide) (h1 (tr_i4.mpr ⟨c, d⟩))
  · refine br_f (by decide) (br_f (by decide) (tr_yReg (fun c => br_f tr_10 ?_) (fun c => br_t rfl (h0 fun q => c (tr_i5.mp q).1))))
    refine br_f (by decide) (br_f (by decide) (tr_yReg (fun d => br_f tr_10 ?_) (fun d => br_t rfl (h0 fun q => d (tr_i5.mp q).2))))
    exact br_t (by decide) (h1 (tr_i5.mpr ⟨c, d⟩))
  · refine br_f (by decide) (br_f (by decide) (tr_yReg (fun c => br_f tr_10 ?_) (fun c => br_t rfl (h0 fun q => c (tr_i6.mp q).1))))
    refine br_f (by decide) (br_f (by decide) (tr_yReg (fun d => br_f tr_10 ?_) (fun d => br_t rfl (h0 fun q => d (tr_i6.mp q).2))))
    exact br_t (by decide) (h1 (tr_i6.mpr ⟨c, d⟩))
  · refine br_f (by decide) (br_f (by decide) (tr_yReg (fun c => br_f tr_10 ?_) (fun c => br_t rfl (h0 fun q => c (tr_i7.mp q).1))))
    refine br_t rfl ?_
    unfold wY_fits_54
    exact tr_yTgt (fun t => ⟨tr_n1, h1 (tr_i7.mpr ⟨c, t⟩)⟩) (fun t => ⟨tr_n0, h0 fun q => t (tr_i7.mp q).2⟩)
  · refine br_f (by decide) (br_f (by decide) (tr_yReg (fun c => br_f tr_10 ?_) (fun c => br_t rfl (h0 fun q => c (tr_i8.mp q).1))))
    refine br_f (by decide) (br_t rfl ?_)
    unfold wY_fits_54
    exact tr_yTgt (fun t => ⟨tr_n1, h1 (tr_i8.mpr ⟨c, t⟩)⟩) (fun t => ⟨tr_n0, h0 fun q => t (tr_i8.mp q).2⟩)
  · exact br_f (by decide) (br_t rfl (tr_yTgt (fun t => ⟨tr_n1, h1 (tr_i9.mpr t)⟩) (fun t => ⟨tr_n0, h0 fun q => t (tr_i9.mp q)⟩)))
  · exact br_t rfl (h1 tr_i10)
end
