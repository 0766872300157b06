/-- a reset doesn't look at the outer watch's time -/
theorem fDs_J1 (S : cS) (i j : Nat) (t : Int64) : fDs (S.sJ 1 0 0 t) i j = (fDs S i j).sJ 1 0 0 t := by
  induction j with
  | zero => rfl
  | succ j ih => show ((fDs (S.sJ 1 0 0 t) i j).sI 23 i j 0) = _; rw [ih]; rfl
theorem rsL_J1 (S : cS) (j : Nat) (t : Int64) : rsL (S.sJ 1 0 0 t) j = (rsL S j).sJ 1 0 0 t := by
  induction j with
  | zero => rfl
  | succ j ih =>
    show bA (rsL (S.sJ 1 0 0 t) j) j = _
    rw [ih]
    show ((fDs (((((rsL S j).sI 15 j 0 0).sI 17 j 0 0).sI 16 j 0 0).sJ 1 0 0 t) j ((rsL S j).C 1 j)).sI 13 j 0 0).sI 14 j 0 0 = _
    rw [fDs_J1]
    rfl
theorem rS_J1 (S : cS) (t : Int64) (why : Int32) : rS (S.sJ 1 0 0 t) why = rS S why := by
  unfold rS
  show rs2 (rsL (((S.sI 5 0 0 why).sI 4 0 0 (S.I 4 0 0 + 1)).sJ 1 0 0 t) (S.C 0 0)) = _
  rw [rsL_J1]
  generalize rsL ((S.sI 5 0 0 why).sI 4 0 0 (S.I 4 0 0 + 1)) (S.C 0 0) = T
  show (T.1, _, up3 (up3 (up3 T.2.2.1 1 0 0 t) 2 0 0 _) 1 0 0 _, _) = (T.1, _, up3 (up3 T.2.2.1 2 0 0 _) 1 0 0 _, _)
  have : ∀ v w : Int64, up3 (up3 (up3 T.2.2.1 1 0 0 t) 2 0 0 v) 1 0 0 w = up3 (up3 T.2.2.1 2 0 0 v) 1 0 0 w := by
    intro v w
    funext a b c
    unfold up3
    repeat' split
    all_goals first | rfl | omega
  rw [this]
  rfl
section PU6
variable {B : Int} {S : cS} {M : mS} {i : Nat}
theorem h3 {n : Int32} : (0 ≤ n.toInt64 ∧ n.toInt64 ≤ 3) ↔ 0 ≤ n ∧ n ≤ 3 := by
  rw [show (0 : Int64) = (0 : Int32).toInt64 from rfl, show (3 : Int64) = (3 : Int32).toInt64 from rfl, le64, le64]
theorem r_mode (h : RR B S M) (x : Int32) : (md S x).1 = (mmode M x (S.C 0 0)).1 ∧ RR B (md S x).2 (mmode M x (S.C 0 0)).2 := by
  have h0 := RR_0 h 0
  have b3 := h.1.2.2.1
  unfold md mmode
  by_cases hx : 0 ≤ x ∧ x ≤ 3
  · rw [if_pos (h3.mpr hx), if_neg (le_nltI.mp hx.1), if_pos hx.2, b3]
    have s1 : SR (S.sI 0 0 0 x) ((M.sI 0 0 0).sI 19 0 x) := by
      obtain ⟨b1, b2, b3, b4, b5, b6, b7, b8, b9, b10, b11, b12, b13, b14, b15, b16, b17⟩ := h.1
      unfold SR
      simp [I_sI, J_sI, C_sI, mI_sI, mJ_sI]
      exact ⟨b1, b2, b4, b5, b6, b7, b8, b9, b10, b11, b12, b13, b14, hx.1, hx.2, b17⟩
    by_cases he : x = S.I 0 0 0
    · rw [if_pos he, if_pos he.symm]
      refine ⟨rfl, ?_⟩
      have e2 : S.sI 0 0 0 x = S := by
        show (S.1, up3 S.2.1 0 0 0 x, S.2.2.1, S.2.2.2) = S
        have : up3 S.2.1 0 0 0 x = S.2.1 := by
          funext a b c
          unfold up3
          split
          · next hh => rw [hh.1, hh.2.1, hh.2.2]; exact he
          · rfl
        rw [this]
      rw [e2] at s1
      exact RR_sc h scS.rf ((scM.rf.sI _ (by omega)).sI _ (by omega)) s1 rfl
    · rw [if_neg he, if_neg (fun z => he z.symm)]
      refine ⟨rfl, ?_⟩
      have q1 : ∀ i, i < S.C 0 0 → QR (S.I 0 0 0) B (S.sI 0 0 0 x) ((M.sI 0 0 0).sI 19 0 x) i := fun i hi => QR_sc (h.2.1 i hi) (scS.rf.sI _ (by decide)) ((scM.rf.sI _ (by omega)).sI _ (by omega))
      have f1 : FR (S.sI 0 0 0 x) ((M.sI 0 0 0).sI 19 0 x) := FR_sc h.2.2 rfl ((scM.rf.sI _ (by omega)).sI _ (by omega))
      obtain ⟨g1, g2, g3, -, g5, g6⟩ := loopR (mo := S.I 0 0 0) (mo' := x) (Int.le_refl B) (fun T _ => T.I 0 0 0 = x) (fun _ _ _ _ _ o _ k => (o.2.1 0 0 0 (by omega)).trans k) fC (fun M i => clr M (i + 1)) (fun S M i _ q => fC_step x q) (mdL (S.sI 0 0 0 x)) (mmL ((M.sI 0 0 0).sI 19 0 x)) (fun _ => rfl) (fun _ => rfl) s1 q1 f1 rfl (S.C 0 0) (Nat.le_refl _)
      refine ⟨g1, fun i hi => ?_, g5⟩
      have hi' : i < S.C 0 0 := by rw [g2] at hi; exact hi
      rw [g6]
      exact g3 i hi'
  · rw [if_neg (fun z => hx (h3.mp z))]
    split
    · exact ⟨rfl, h0⟩
    · next g1 =>
      split
      · next g2 => exact absurd ⟨le_nltI.mpr g1, g2⟩ hx
      · exact ⟨rfl, h0⟩
theorem r_outer (h : RR B S M) (hB : 0 ≤ B) (t : Int64) : (ou S t).1 = (mou M t (S.C 0 0)).1 ∧ RR B (ou S t).2 (mou M t (S.C 0 0)).2 := by
  have h0 := RR_0 h 0
  have hT := r_isT h t
  have b14 := h.1.2.2.2.2.2.2.2.2.2.2.2.2.2.1
  unfold ou mou
  rw [b14]
  by_cases ht : isT S t
  · rw [if_pos ht, if_pos (hT.mp ht)]
    have h1 := r_now h (r_tpos h ht)
    have k1 : RR B ((S.sJ 0 0 0 t).sJ 1 0 0 t) (((M.sI 0 0 0).sJ 21 0 t).sJ 30 0 t) := by
      refine RR_sc h1 (scS.rf.sJ _ (by decide)) (scM.rf.sJ _ (by omega)) ?_ rfl
      obtain ⟨b1, b2, b3, b4, b5, b6, b7, b8, b9, b10, b11, b12, b13, b14, b15⟩ := h1.1
      unfold SR
      simp [J_sJ, I_sJ, C_sJ, mI_sI, mJ_sI, mJ_sJ, mI_sJ] at b1 b2 b3 b4 b5 b6 b7 b8 b9 b10 b11 b12 b13 b15 ⊢
      exact ⟨b1, b2, b3, b4, b6, b7, b8, b9, b10, b11, b12, b13, b15⟩
    by_cases hl : t - S.J 1 0 0 ≤ 100
    · rw [if_pos hl, if_pos hl]
      exact ⟨rfl, k1⟩
    · rw [if_neg hl, if_neg hl]
      refine ⟨rfl, ?_⟩
      have e := r_rS k1 hB 3
      have ec : rS ((S.sJ 0 0 0 t).sJ 1 0 0 t) 3 = rS (S.sJ 0 0 0 t) 3 := rS_J1 _ _ _
      rw [ec] at e
      exact e
  · rw [if_neg ht, if_neg (fun z => ht (hT.mpr z))]
    exact ⟨rfl, h0⟩
theorem r_reset (h : RR B S M) (hB : 0 ≤ B) (x : Int32) : (rst S x).1 = (mrst M x (S.C 0 0)).1 ∧ RR B (rst S x).2 (mrst M x (S.C 0 0)).2 := by
  have h0 := RR_0 h 0
  obtain ⟨b1, b2, b3, b4, b5, b6, b7, b8, b9, b10, b11, b12, b13, b14, b15⟩ := h.1
  have k := r_rS h0 hB 4
  have e8 := k.1.2.2.2.2.2.2.2.1
  unfold rst mrst
  by_cases x0 : x = 0
  · subst x0
    simp
    exact ⟨e8.symm, k⟩
  · by_cases x1 : x = 1
    · subst x1
      simp
      exact ⟨b8.symm, h0⟩
    · by_cases x2 : x = 2
      · subst x2
        simp
        exact ⟨b9.symm, h0⟩
      · by_cases x3 : x = 3
        · subst x3
          simp
          exact ⟨b10.symm, h0⟩
        · by_cases x4 : x = 4
          · subst x4
            simp
            exact ⟨b12.symm, h0⟩
          · by_cases x5 : x = 5
            · subst x5
              simp
              exact ⟨b4.symm, h0⟩
            · rw [if_neg x0, if_neg x1, if_neg x2, if_neg x3, if_neg x4, if_neg x5]
              split
              · exact ⟨rfl, h0⟩
              · next g1 =>
                split
                · next g2 =>
                  exfalso
                  obtain ⟨j, hj, rfl⟩ := nI_of2 (M := 5) (n := 5) rfl g1 g2
                  rcases (show j = 0 ∨ j = 1 ∨ j = 2 ∨ j = 3 ∨ j = 4 ∨ j = 5 by omega) with rfl | rfl | rfl | rfl | rfl | rfl
                  · exact x0 rfl
                  · exact x1 rfl
                  · exact x2 rfl
                  · exact x3 rfl
                  · exact x4 rfl
                  · exact x5 rfl
                · exact ⟨rfl, h0⟩
end PU6
