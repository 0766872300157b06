/-! THE LOOPS OVER A PART'S DEADLINES; A PART'S CYCLE, ITS POINT, ITS FORGETTING -/
section PU2
variable {mo : Int32} {B : Int} {S : cS} {M : mS} {i : Nat}
theorem n64 {x : Int64} (h : 0 ≤ x) : ¬ x < 0 := by
  have a := Int64.le_iff_toInt_le.mp h
  intro b
  have c := Int64.lt_iff_toInt_lt.mp b
  omega
theorem le_nlt {x y : Int64} : x ≤ y ↔ ¬ y < x := by rw [Int64.le_iff_toInt_le, Int64.lt_iff_toInt_lt]; omega
theorem le_nltI {x y : Int32} : x ≤ y ↔ ¬ y < x := by rw [Int32.le_iff_toInt_le, Int32.lt_iff_toInt_lt]; omega
theorem sD_step (h : QR mo B S M i) {j : Nat} (hj : j < S.C 1 i) {t : Int64} (ht : M.J 21 0 = t) : QR mo B (sD1 S i t j) (jL1 M (i + 1) j) i ∧ offS i (sD1 S i t j) S ∧ offM i (jL1 M (i + 1) j) M := by
  have hj10 : j < 10 := by have := h.1.2.2.2.2.2.2.2.2.2.2.2.1; omega
  obtain ⟨d1, d2, d3, d4, d5, d6, d7⟩ := h.2.2 j hj
  unfold sD1 jL1
  by_cases hr : S.I 23 i j = 0
  · rw [if_pos hr] at d6 ⊢
    rw [d6, if_pos (by decide)]
    exact ⟨h, offS.rf, offM.rf⟩
  · have hb := (d7.resolve_left hr).1
    rw [if_neg hr] at d6 ⊢
    rw [d6, if_neg (n64 hb), d5, ht]
    by_cases hl : t - S.J 22 i j ≤ S.J 21 i j
    · rw [if_pos hl, if_neg (le_nlt.mp hl)]
      exact ⟨h, offS.rf, offM.rf⟩
    · rw [if_neg hl, if_pos (Classical.byContradiction (fun z => hl (le_nlt.mpr z)))]
      exact ⟨QR_stop (S := S.sI 17 i 0 1) (M := M.sI 9 (i + 1) 1) (QR_9 h 1 (Or.inr rfl)) hj, (offS.rf.sI 1 (by decide)).sI 0 (by decide), (offM.rf.sI 1 (by omega)).sJ _ (by omega) hj10⟩
theorem sD_loop (h : QR mo B S M i) {t : Int64} (ht : M.J 21 0 = t) (j : Nat) (hj : j ≤ S.C 1 i) : QR mo B (sD S i t j) (jL M (i + 1) j) i ∧ offS i (sD S i t j) S ∧ offM i (jL M (i + 1) j) M := by
  induction j with
  | zero => exact ⟨h, offS.rf, offM.rf⟩
  | succ j ih =>
    obtain ⟨g1, g2, g3⟩ := ih (by omega)
    obtain ⟨f1, f2, f3⟩ := sD_step g1 (j := j) (by rw [g2.1]; omega) (t := t) ((g3.2.2.2.1 21 (by decide) 0).trans ht)
    exact ⟨f1, f2.tr g2, f3.tr g3⟩
theorem eD_step (h : QR mo B S M i) {j : Nat} (hj : j < S.C 1 i) {p : Int32} {t : Int64} (hm : M.I 19 0 = mo) : QR mo B (eD1 S i p t j) (pE1 M (i + 1) p t j) i ∧ offS i (eD1 S i p t j) S ∧ offM i (pE1 M (i + 1) p t j) M := by
  have hj10 : j < 10 := by have := h.1.2.2.2.2.2.2.2.2.2.2.2.1; omega
  have hf := h.1.2.2.2.2.2.2.2.2.2.2.2.2.2.2.2.2.1
  obtain ⟨d1, d2, d3, d4, d5, d6, d7⟩ := h.2.2 j hj
  have n0 : ¬ (0 : Int64) ≤ -1 := by decide
  have stop : ∀ {S' : cS} {M' : mS}, QR mo B S' M' i → S'.C = S.C → QR mo B (S'.sI 23 i j 0) (M'.sJ 18 (10 * (i + 1) + j) (-1)) i := fun q e => QR_stop q (by rw [e]; exact hj)
  have oS : ∀ v : Int32, offS i ((S.sI 17 i 0 v).sI 23 i j 0) S := fun v => (offS.rf.sI v (by decide)).sI 0 (by decide)
  have o1 : offM i ((M.sI 9 (i + 1) 1).sJ 18 (10 * (i + 1) + j) (-1)) M := (offM.rf.sI 1 (by omega)).sJ _ (by omega) hj10
  have o0 : offM i (M.sJ 18 (10 * (i + 1) + j) (-1)) M := offM.rf.sJ _ (by omega) hj10
  have keep : ∀ {v : Int32}, S.I 17 i 0 = v → QR mo B (S.sI 17 i 0 v) M i := fun {v} e => by
    have e2 : S.sI 17 i 0 v = S := by
      show (S.1, up3 S.2.1 17 i 0 v, S.2.2.1, S.2.2.2) = S
      have : up3 S.2.1 17 i 0 v = S.2.1 := by
        funext a b c
        unfold up3
        split
        · next hh => rw [hh.1, hh.2.1, hh.2.2]; exact e.symm
        · rfl
      rw [this]
    rw [e2]; exact h
  unfold eD1 pE1
  by_cases hr : S.I 23 i j = 0
  · rw [if_pos hr] at d6 ⊢
    rw [d6]
    simp only [n0, if_false]
    repeat' split
    all_goals exact ⟨h, offS.rf, offM.rf⟩
  · obtain ⟨hb, hmo⟩ := d7.resolve_left hr
    rw [if_neg hr] at d6 ⊢
    rw [d6, d1, d3, d4, d5, hm, if_pos hmo]
    by_cases hp : S.I 22 i j = p
    · rw [if_pos hp, if_pos hp, if_pos hb]
      have bad : ¬ (S.J 20 i j ≤ t - S.J 22 i j ∧ t - S.J 22 i j ≤ S.J 21 i j) → (if S.I 17 i 0 = 0 then (if S.J 20 i j ≤ t - S.J 22 i j ∧ t - S.J 22 i j ≤ S.J 21 i j then (S.sI 17 i 0 0).sI 23 i j 0 else (S.sI 17 i 0 1).sI 23 i j 0) else (S.sI 17 i 0 1).sI 23 i j 0) = (S.sI 17 i 0 1).sI 23 i j 0 := fun hn => by
        rw [if_neg hn]
        split <;> rfl
      by_cases hl : S.J 20 i j ≤ t - S.J 22 i j
      · rw [if_neg (le_nlt.mp hl)]
        by_cases hu : t - S.J 22 i j ≤ S.J 21 i j
        · rw [if_pos hu]
          have hlu : S.J 20 i j ≤ t - S.J 22 i j ∧ t - S.J 22 i j ≤ S.J 21 i j := ⟨hl, hu⟩
          rw [if_pos hlu]
          by_cases hz : S.I 17 i 0 = 0
          · rw [if_pos hz]
            exact ⟨stop (keep hz) rfl, oS 0, o0⟩
          · rw [if_neg hz]
            exact ⟨stop (keep (hf.resolve_left hz)) rfl, oS 1, o0⟩
        · rw [if_neg hu, bad (fun z => hu z.2)]
          exact ⟨stop (QR_9 h 1 (Or.inr rfl)) rfl, oS 1, o1⟩
      · rw [if_pos (Classical.byContradiction (fun z => hl (le_nlt.mpr z))), bad (fun z => hl z.1)]
        exact ⟨stop (QR_9 h 1 (Or.inr rfl)) rfl, oS 1, o1⟩
    · rw [if_neg hp, if_neg hp]
      exact ⟨h, offS.rf, offM.rf⟩
theorem eD_loop (h : QR mo B S M i) {p : Int32} {t : Int64} (hm : M.I 19 0 = mo) (j : Nat) (hj : j ≤ S.C 1 i) : QR mo B (eD S i p t j) (pE M (i + 1) p t j) i ∧ offS i (eD S i p t j) S ∧ offM i (pE M (i + 1) p t j) M := by
  induction j with
  | zero => exact ⟨h, offS.rf, offM.rf⟩
  | succ j ih =>
    obtain ⟨g1, g2, g3⟩ := ih (by omega)
    obtain ⟨f1, f2, f3⟩ := eD_step g1 (j := j) (by rw [g2.1]; omega) (p := p) (t := t) ((g3.2.1 19 0 (by omega) (by omega)).trans hm)
    exact ⟨f1, f2.tr g2, f3.tr g3⟩
theorem bD_step (h : QR mo B S M i) {j : Nat} (hj : j < S.C 1 i) {p : Int32} {t : Int64} (ht : 0 ≤ t) (hm : M.I 19 0 = mo) : QR mo B (bD1 S i mo p t j) (pB1 M (i + 1) p t j) i ∧ offS i (bD1 S i mo p t j) S ∧ offM i (pB1 M (i + 1) p t j) M := by
  have hj10 : j < 10 := by have := h.1.2.2.2.2.2.2.2.2.2.2.2.1; omega
  obtain ⟨d1, d2, d3, d4, d5, d6, d7⟩ := h.2.2 j hj
  unfold bD1 pB1
  rw [d1, d2, hm]
  by_cases h1 : S.I 20 i j = mo
  · rw [if_pos h1, if_pos h1]
    by_cases h2 : S.I 21 i j = p
    · rw [if_pos h2, if_pos h2]
      exact ⟨QR_start h t ht h1, (offS.rf.sI 1 (by decide)).sJ t (by decide), offM.rf.sJ _ (by omega) hj10⟩
    · rw [if_neg h2, if_neg h2]
      exact ⟨h, offS.rf, offM.rf⟩
  · rw [if_neg h1, if_neg h1]
    exact ⟨h, offS.rf, offM.rf⟩
theorem bD_loop (h : QR mo B S M i) {p : Int32} {t : Int64} (ht : 0 ≤ t) (hm : M.I 19 0 = mo) (j : Nat) (hj : j ≤ S.C 1 i) : QR mo B (bD S i mo p t j) (pB M (i + 1) p t j) i ∧ offS i (bD S i mo p t j) S ∧ offM i (pB M (i + 1) p t j) M := by
  induction j with
  | zero => exact ⟨h, offS.rf, offM.rf⟩
  | succ j ih =>
    obtain ⟨g1, g2, g3⟩ := ih (by omega)
    obtain ⟨f1, f2, f3⟩ := bD_step g1 (j := j) (by rw [g2.1]; omega) (p := p) (t := t) ht ((g3.2.1 19 0 (by omega) (by omega)).trans hm)
    exact ⟨f1, f2.tr g2, f3.tr g3⟩
theorem QR_beyond (h : QR mo B S M i) {j0 : Nat} (hj0 : S.C 1 i ≤ j0) (v : Int64) : QR mo B S (M.sJ 18 (10 * (i + 1) + j0) v) i := by
  refine ⟨h.1, h.2.1, fun j hj => ?_⟩
  obtain ⟨d1, d2, d3, d4, d5, d6, d7⟩ := h.2.2 j hj
  refine ⟨d1, d2, d3, ?_, ?_, ?_, d7⟩
  · rw [mJ_sJ, if_neg (by omega)]; exact d4
  · rw [mJ_sJ, if_neg (by omega)]; exact d5
  · rw [mJ_sJ, if_neg (by omega)]; exact d6
theorem fD_loop (h : QR mo B S M i) (j : Nat) (hj : j ≤ S.C 1 i) : QR mo B (fDs S i j) (clL M (i + 1) j) i ∧ offS i (fDs S i j) S ∧ offM i (clL M (i + 1) j) M ∧ ∀ j', j' < j → (fDs S i j).I 23 i j' = 0 := by
  have h10 := h.1.2.2.2.2.2.2.2.2.2.2.2.1
  induction j with
  | zero => exact ⟨h, offS.rf, offM.rf, fun _ z => absurd z (Nat.not_lt_zero _)⟩
  | succ j ih =>
    obtain ⟨g1, g2, g3, g4⟩ := ih (by omega)
    refine ⟨QR_stop g1 (by rw [g2.1]; omega), g2.sI 0 (by decide), g3.sJ _ (by omega) (by omega), fun j' hj' => ?_⟩
    show ((fDs S i j).sI 23 i j 0).I 23 i j' = 0
    rw [I_sI]
    by_cases e : j' = j
    · rw [if_pos ⟨rfl, rfl, e⟩]
    · rw [if_neg (fun z => e z.2.2)]
      exact g4 j' (by omega)
theorem clL_tail {S' : cS} (h : QR mo B S' (clL M (i + 1) (S'.C 1 i)) i) (ho : offM i (clL M (i + 1) (S'.C 1 i)) M) : QR mo B S' (clL M (i + 1) 10) i ∧ offM i (clL M (i + 1) 10) M := by
  have h10 := h.1.2.2.2.2.2.2.2.2.2.2.2.1
  have key : ∀ k, S'.C 1 i + k ≤ 10 → QR mo B S' (clL M (i + 1) (S'.C 1 i + k)) i ∧ offM i (clL M (i + 1) (S'.C 1 i + k)) M := by
    intro k
    induction k with
    | zero => intro _; exact ⟨h, ho⟩
    | succ k ih =>
      intro hk
      obtain ⟨g1, g2⟩ := ih (by omega)
      exact ⟨QR_beyond g1 (j0 := S'.C 1 i + k) (by omega) (-1), g2.sJ (j := S'.C 1 i + k) (-1) (by omega) (by omega)⟩
  have := key (10 - S'.C 1 i) (by omega)
  rw [show S'.C 1 i + (10 - S'.C 1 i) = 10 by omega] at this
  exact this
theorem QR_mode {mo' : Int32} (h : QR mo B S M i) (h0 : ∀ j, j < S.C 1 i → S.I 23 i j = 0) : QR mo' B S M i := by
  refine ⟨h.1, h.2.1, fun j hj => ?_⟩
  obtain ⟨d1, d2, d3, d4, d5, d6, d7⟩ := h.2.2 j hj
  exact ⟨d1, d2, d3, d4, d5, d6, Or.inl (h0 j hj)⟩
theorem fC_step (mo' : Int32) (h : QR mo B S M i) : QR mo' B (fC S i) (clr M (i + 1)) i ∧ offS i (fC S i) S ∧ offM i (clr M (i + 1)) M := by
  have q1 : QR mo B (((S.sI 15 i 0 0).sI 17 i 0 0).sI 16 i 0 0) (cl0 M (i + 1)) i := QR_10 (QR_9 (QR_8 h 0) 0 (Or.inl rfl)) 0 (by decide) (by decide)
  have o1 : offS i (((S.sI 15 i 0 0).sI 17 i 0 0).sI 16 i 0 0) S := ((offS.rf.sI 0 (by decide)).sI 0 (by decide)).sI 0 (by decide)
  have m1 : offM i (cl0 M (i + 1)) M := ((offM.rf.sI 0 (by omega)).sI 0 (by omega)).sI 0 (by omega)
  obtain ⟨g1, g2, g3, g4⟩ := fD_loop q1 (S.C 1 i) (Nat.le_refl _)
  have hC : (fC S i).C = S.C := g2.1
  have g1' : QR mo B (fC S i) (clL (cl0 M (i + 1)) (i + 1) ((fC S i).C 1 i)) i := by rw [hC]; exact g1
  have g3' : offM i (clL (cl0 M (i + 1)) (i + 1) ((fC S i).C 1 i)) (cl0 M (i + 1)) := by rw [hC]; exact g3
  obtain ⟨f1, f2⟩ := clL_tail g1' g3'
  exact ⟨QR_mode f1 (fun j hj => g4 j (by rw [hC] at hj; exact hj)), g2.tr o1, f2.tr m1⟩
theorem bA_step (mo' : Int32) {B' : Int} (hB : 0 ≤ B') (h : QR mo B S M i) : QR mo' B' (bA S i) (r01 M (i + 1)) i ∧ offS i (bA S i) S ∧ offM i (r01 M (i + 1)) M := by
  obtain ⟨g1, g2, g3⟩ := fC_step mo' h
  exact ⟨QR_65 g1 0 0 (Or.inl rfl) (fun z => absurd z (by decide)) (by decide) hB, (g2.sI 0 (by decide)).sI 0 (by decide), (g3.sI 0 (by omega)).sI 0 (by omega)⟩
end PU2
