section PU9
variable {B : Int} {S : cS} {M : mS} {i : Nat}
theorem wst_off {S' : cS} {j : Nat} (h : offS j S' S) (k : Nat) (hk : k ≤ j) : wst S' k = wst S k := by
  induction k with
  | zero => rfl
  | succ k ih =>
    show (if wst S' k < S'.I 13 k 0 then S'.I 13 k 0 else wst S' k) = if wst S k < S.I 13 k 0 then S.I 13 k 0 else wst S k
    rw [ih (by omega), h.2.1 13 k 0 (by omega)]
theorem r_cycle (h : RR B S M) (hB : 0 ≤ B) (hB9 : B ≤ 900) (t : Int64) : (cy S t).1 = (mcyc M t (fun n => S.C 1 (n - 1)) (S.C 0 0)).1 ∧ RR (B + 1) (cy S t).2 (mcyc M t (fun n => S.C 1 (n - 1)) (S.C 0 0)).2 := by
  have h0 := RR_mono (RR_0 h 0) (show B ≤ B + 1 by omega)
  have hT := r_isT h t
  have b4 := h.1.2.2.2.1
  unfold cy mcyc
  by_cases ht : isT S t
  · rw [if_pos ht, if_pos (hT.mp ht)]
    have h1 := r_now h (r_tpos h ht)
    have h2 : RR B ((S.sJ 0 0 0 t).sI 1 0 0 (S.I 1 0 0 + 1)) (((M.sI 0 0 0).sJ 21 0 t).sI 20 0 (M.I 20 0 + 1)) := by
      refine RR_sc h1 (scS.rf.sI _ (by decide)) (scM.rf.sI _ (by omega)) ?_ rfl
      obtain ⟨b1, b2, b3, b4', b5, b6, b7, b8, b9, b10, b11, b12, b13, b14, b15⟩ := h1.1
      unfold SR
      simp [I_sI, J_sI, C_sI, J_sJ, I_sJ, C_sJ, mI_sI, mJ_sI, mJ_sJ, mI_sJ] at b1 b2 b3 b4' b5 b6 b7 b8 b9 b10 b11 b12 b13 b14 b15 ⊢
      exact ⟨b1, b2, b3, by rw [b4'], b6, b7, b8, b9, b10, b11, b12, b13, b14, b15⟩
    have hC : ((S.sJ 0 0 0 t).sI 1 0 0 (S.I 1 0 0 + 1)).C = S.C := rfl
    have hA : (((M.sI 0 0 0).sJ 21 0 t).sI 20 0 (M.I 20 0 + 1)).J 21 0 = t := rfl
    revert h2 hC hA
    generalize (S.sJ 0 0 0 t).sI 1 0 0 (S.I 1 0 0 + 1) = S1
    generalize ((M.sI 0 0 0).sJ 21 0 t).sI 20 0 (M.I 20 0 + 1) = M1
    intro h2 hC hA
    have key := loopR (mo := S1.I 0 0 0) (mo' := S1.I 0 0 0) (show B ≤ B + 1 by omega) (fun T T' => T.C = S.C ∧ T'.J 21 0 = t ∧ T'.I 20 0 = T.I 1 0 0 ∧ T.I 0 0 0 = S1.I 0 0 0) (fun j T T2 T' T2' o o' k => ⟨o.1.trans k.1, (o'.2.2.2.1 21 (by decide) 0).trans k.2.1, (o'.2.1 20 0 (by omega) (by omega)).trans (k.2.2.1.trans (o.2.1 1 0 0 (by omega)).symm), (o.2.1 0 0 0 (by omega)).trans k.2.2.2⟩)
      (fun T i => pC T i (T.I 1 0 0) t) (fun T i => cyT1 T (i + 1) (fun n => S.C 1 (n - 1))) (fun T T' i k q => pC_step q hB9 k.2.2.1 k.2.1 (by show S.C 1 (i + 1 - 1) = _; rw [k.1]; rfl)) (cyL S1 t) (cyT M1 (fun n => S.C 1 (n - 1))) (fun _ => rfl) (fun _ => rfl) h2.1 h2.2.1 h2.2.2 ⟨hC, hA, h2.1.2.2.2.1, rfl⟩
    have g : ∀ j, j ≤ S1.C 0 0 → wst (cyL S1 t j) j = cyG M1 (fun n => S.C 1 (n - 1)) j := by
      intro j
      induction j with
      | zero => intro _; rfl
      | succ j ih =>
        intro hj
        obtain ⟨-, e2, -, e4, -, e6⟩ := key j (show j ≤ S1.C 0 0 by omega)
        obtain ⟨-, -, q3, -, -, -⟩ := key (j + 1) hj
        have o := (pC_step (e4 j (Nat.le_refl _) (by show j < S1.C 0 0; omega)) hB9 (ag := (cyL S1 t j).I 1 0 0) e6.2.2.1 e6.2.1 (cn := fun n => S.C 1 (n - 1)) (by show S.C 1 (j + 1 - 1) = _; rw [e6.1]; rfl)).2.1
        have w : wst (cyL S1 t (j + 1)) j = wst (cyL S1 t j) j := wst_off o j (Nat.le_refl _)
        have a5 := (q3 j (by omega)).1.2.2.2.2.1
        show (if wst (cyL S1 t (j + 1)) j < (cyL S1 t (j + 1)).I 13 j 0 then (cyL S1 t (j + 1)).I 13 j 0 else wst (cyL S1 t (j + 1)) j) = (if (cyT M1 (fun n => S.C 1 (n - 1)) (j + 1)).I 5 (j + 1) ≤ cyG M1 (fun n => S.C 1 (n - 1)) j then cyG M1 (fun n => S.C 1 (n - 1)) j else (cyT M1 (fun n => S.C 1 (n - 1)) (j + 1)).I 5 (j + 1))
        rw [w, ih (by omega), a5]
        by_cases hl : cyG M1 (fun n => S.C 1 (n - 1)) j < (cyL S1 t (j + 1)).I 13 j 0
        · rw [if_pos hl, if_neg (fun z => le_nltI.mp z hl)]
        · rw [if_neg hl, if_pos (le_nltI.mpr hl)]
    have hc : S.C 0 0 = S1.C 0 0 := by rw [hC]
    rw [hc, g _ (Nat.le_refl _)]
    obtain ⟨f1, f2, f3, -, f5, f6⟩ := key (S1.C 0 0) (Nat.le_refl _)
    have f2' : (cyL S1 t (S1.C 0 0)).C = S1.C := f2
    have R1 : RR (B + 1) (cyL S1 t (S1.C 0 0)) (cyT M1 (fun n => S.C 1 (n - 1)) (S1.C 0 0)) := by
      refine ⟨f1, fun i hi => ?_, f5⟩
      have hi' : i < S1.C 0 0 := by rw [f2'] at hi; exact hi
      rw [f6.2.2.2]
      exact f3 i hi'
    revert f2' R1
    generalize cyL S1 t (S1.C 0 0) = T
    generalize cyT M1 (fun n => S.C 1 (n - 1)) (S1.C 0 0) = T'
    generalize cyG M1 (fun n => S.C 1 (n - 1)) (S1.C 0 0) = gg
    intro f2' R1
    have R2 : ∀ v : Int32, RR (B + 1) (T.sI 3 0 0 v) (T'.sI 22 0 v) := fun v => by
      refine RR_sc R1 (scS.rf.sI _ (by decide)) (scM.rf.sI _ (by omega)) ?_ rfl
      obtain ⟨b1, b2, b3, b4', b5, b6, b7⟩ := R1.1
      unfold SR
      simp [I_sI, J_sI, C_sI, mI_sI, mJ_sI]
      exact ⟨b1, b2, b3, b4', b5, b7⟩
    have hT0 : T.C 0 0 = S1.C 0 0 := by rw [f2']
    have b6 := R1.1.2.2.2.2.2.1
    have b7 := R1.1.2.2.2.2.2.2.1
    unfold cy2 mcy2
    rw [b6, b7]
    have rr : ∀ v : Int32, RR (B + 1) (rS (T.sI 3 0 0 v) 1) (r0 (T'.sI 22 0 v) 1 (S1.C 0 0)) := fun v => by
      have := r_rS (R2 v) (by omega) 1
      rw [show (T.sI 3 0 0 v).C 0 0 = S1.C 0 0 from hT0] at this
      exact this
    by_cases hg : gg = 2
    · rw [if_pos hg, if_pos hg]
      by_cases hl : T.I 3 0 0 + 1 ≤ T.I 2 0 0
      · rw [if_pos hl, if_neg (le_nltI.mp hl)]
        exact ⟨rfl, R2 _⟩
      · rw [if_neg hl, if_pos (Classical.byContradiction (fun z => hl (le_nltI.mpr z)))]
        exact ⟨rfl, rr _⟩
    · rw [if_neg hg, if_neg hg]
      by_cases hl : 0 ≤ T.I 2 0 0
      · rw [if_pos hl, if_neg (le_nltI.mp hl)]
        exact ⟨rfl, R2 _⟩
      · rw [if_neg hl, if_pos (Classical.byContradiction (fun z => hl (le_nltI.mpr z)))]
        exact ⟨rfl, rr _⟩
  · rw [if_neg ht, if_neg (fun z => ht (hT.mpr z))]
    exact ⟨rfl, h0⟩
end PU9
