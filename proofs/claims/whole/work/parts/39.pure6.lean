/-! EVERY METHOD: the same answer, and side by side again -/
section PU5
variable {B : Int} {S : cS} {M : mS} {i : Nat}
theorem one_le {x : Int32} : 1 ≤ x ↔ ¬ x < 1 := le_nltI
theorem r_isN (h : RR B S M) (x : Int32) : isN S x ↔ mP M x := by
  have b1 := h.1.1
  have b2 := h.1.2.1
  refine ⟨?_, ?_⟩
  · rintro ⟨i, hi, rfl⟩
    refine ⟨?_, ?_⟩
    · rw [show (1 : Int32) = nI 1 from rfl]; exact nI_le (by omega) (by omega)
    · rw [b1]; exact nI_le (by omega) (by omega)
  · rintro ⟨h1, h2⟩
    rw [b1] at h2
    have hn : ¬ x < 0 := by
      have a := Int32.le_iff_toInt_le.mp h1
      have c : (1 : Int32).toInt = 1 := rfl
      intro z
      have d := Int32.lt_iff_toInt_lt.mp z
      have e : (0 : Int32).toInt = 0 := rfl
      omega
    obtain ⟨j, hj, rfl⟩ := nI_of2 (n := S.C 0 0) (nI_toInt (by omega)) hn h2
    rw [show (1 : Int32) = nI 1 from rfl, nI_leI (by omega) (by omega)] at h1
    exact ⟨j - 1, by omega, by rw [show j - 1 + 1 = j by omega]⟩
theorem isPt_iff {x : Int32} : isPt x ↔ 1 ≤ x ∧ x ≤ 30 := by
  unfold isPt
  rw [show (1 : Int64) = (1 : Int32).toInt64 from rfl, show (30 : Int64) = (30 : Int32).toInt64 from rfl, le64, le64]
theorem z_le {a b c : Int32} (h : a ≤ b) (g : b ≤ c) : a ≤ c := Int32.le_iff_toInt_le.mpr (Int.le_trans (Int32.le_iff_toInt_le.mp h) (Int32.le_iff_toInt_le.mp g))
theorem r_edge (h : RR B S M) (hi : i < S.C 0 0) (fr to : Int32) : (ed S i fr to).1 = (medge M (i + 1) fr to).1 ∧ RR B (ed S i fr to).2 (medge M (i + 1) fr to).2 := by
  have h0 := RR_0 h 0
  obtain ⟨b1, b2, b3, b4, b5, b6, b7, b8, b9, b10, b11, b12, b13, b14, b15, b16, b17, b18, b19⟩ := h.1
  unfold medge
  by_cases hv : (0 ≤ fr ∧ fr ≤ 30) ∧ (1 ≤ to ∧ to ≤ 30)
  · obtain ⟨⟨f0, f30⟩, t1, t30⟩ := hv
    have t0 : (0 : Int32) ≤ to := z_le (by decide) t1
    have hed : ed S i fr to = if (aE S i (S.I 0 0 0 * 31 + fr) to).1 = 0 then (0, (aE S i (S.I 0 0 0 * 31 + fr) to).2) else (1, (aE S i (S.I 0 0 0 * 31 + fr) to).2) := by
      unfold ed
      have pt := isPt_iff.mpr ⟨t1, t30⟩
      by_cases hf : fr = 0
      · rw [if_pos hf, if_pos pt]
      · have pf : isPt fr := isPt_iff.mpr ⟨by
          have a := Int32.le_iff_toInt_le.mp f0
          have c : (1 : Int32).toInt = 1 := rfl
          have e : (0 : Int32).toInt = 0 := rfl
          have d : fr.toInt ≠ 0 := fun z => hf (Int32.toInt_inj.mp (z.trans e.symm))
          exact Int32.le_iff_toInt_le.mpr (by omega), f30⟩
        rw [if_neg hf, if_pos pf, if_pos pt]
    rw [hed, if_neg (le_nltI.mp f0), if_neg (le_nltI.mp f30), if_neg (le_nltI.mp t1), if_pos t30]
    have q := h0.2.1 i hi
    have he := edge_iff (mo := S.I 0 0 0) (h.2.1 i hi).2.1 b3 b15 b16 f0 f30 t0 t30
    obtain ⟨r, b, hr, hb, e0, e1, e2, e3⟩ := edge_ix (i := i) b3 b15 b16 f0 f30 t0 t30
    unfold aE
    by_cases hz : M.I 11 (eix M (i + 1) fr to) = 0
    · rw [if_neg (fun z => he.mp z hz), if_pos e2, if_pos hz, if_neg (show ¬ (1 : Int32) = 0 by decide), e1, e3, e0]
      exact ⟨rfl, RR_part h0 hi (offS.rf.sI _ (by decide)) (offM.rf.sE 1 hr hb) (Int.le_refl _) (QR_E1 q hr hb)⟩
    · rw [if_pos (he.mpr hz), if_neg hz, if_pos rfl, e3]
      rw [e3] at hz
      exact ⟨rfl, RR_part h0 hi offS.rf (offM.rf.sE 1 hr hb) (Int.le_refl _) (QR_E0 q hr hb (by rw [mI_sI, if_neg (by omega)]; exact hz))⟩
  · have hed : ed S i fr to = (-2, S) := by
      unfold ed
      by_cases pt : isPt to
      · have hnf : ¬ isPt fr := fun z => hv ⟨⟨z_le (by decide) (isPt_iff.mp z).1, (isPt_iff.mp z).2⟩, isPt_iff.mp pt⟩
        have hf0 : ¬ fr = 0 := fun z => hv ⟨⟨by rw [z]; decide, by rw [z]; decide⟩, isPt_iff.mp pt⟩
        rw [if_neg hf0, if_neg hnf]
      · simp only [pt, if_false]
        repeat' split
        all_goals rfl
    rw [hed]
    have e : (if fr < 0 then ((-2 : Int32), M.sI 0 0 0) else if 30 < fr then (-2, M.sI 0 0 0) else if to < 1 then (-2, M.sI 0 0 0) else if to ≤ 30 then (if M.I 11 (eix M (i + 1) fr to) = 0 then (1, (M.sI 0 0 0).sI 11 (eix M (i + 1) fr to) 1) else (0, (M.sI 0 0 0).sI 11 (eix M (i + 1) fr to) 1)) else (-2, M.sI 0 0 0)) = (-2, M.sI 0 0 0) := by
      split
      · rfl
      · next g1 =>
        split
        · rfl
        · next g2 =>
          split
          · rfl
          · next g3 =>
            split
            · next g4 => exact absurd ⟨⟨le_nltI.mpr g1, le_nltI.mpr g2⟩, le_nltI.mpr g3, g4⟩ hv
            · rfl
    rw [e]
    exact ⟨rfl, h0⟩
theorem r_now (h : RR B S M) {t : Int64} (ht : 0 ≤ t) : RR B (S.sJ 0 0 0 t) ((M.sI 0 0 0).sJ 21 0 t) := by
  refine RR_sc h (scS.rf.sJ _ (by decide)) ((scM.rf.sI _ (by omega)).sJ _ (by omega)) ?_ rfl
  obtain ⟨b1, b2, b3, b4, b5, b6, b7, b8, b9, b10, b11, b12, b13, b14, b15, b16, b17, b18, b19⟩ := h.1
  unfold SR
  simp [J_sJ, I_sJ, C_sJ, mI_sI, mJ_sI, mJ_sJ, mI_sJ]
  exact ⟨b1, b2, b3, b4, b6, b7, b8, b9, b10, b11, b12, b13, b14, b15, b16, ht, b18, b19⟩
theorem r_isT (h : RR B S M) (t : Int64) : isT S t ↔ mT (M.sI 0 0 0) t := by
  have b5 := h.1.2.2.2.2.1
  unfold isT mT
  rw [← b5]
  exact Iff.rfl
theorem r_tpos (h : RR B S M) {t : Int64} (ht : isT S t) : 0 ≤ t := Int64.le_iff_toInt_le.mpr (Int.le_trans (Int64.le_iff_toInt_le.mp h.1.2.2.2.2.2.2.2.2.2.2.2.2.2.2.2.2.1) (Int64.le_iff_toInt_le.mp ht.1))
theorem r_point (h : RR B S M) (hi : i < S.C 0 0) (p : Int32) (t : Int64) : (po S i p t).1 = (mpoint M (i + 1) (S.C 1 i) p t).1 ∧ RR B (po S i p t).2 (mpoint M (i + 1) (S.C 1 i) p t).2 := by
  have h0 := RR_0 h 0
  have hT := r_isT h t
  unfold po mpoint
  by_cases hp : 1 ≤ p ∧ p ≤ 30
  · rw [if_pos (isPt_iff.mpr hp), if_neg (le_nltI.mp hp.1), if_neg (le_nltI.mp hp.2)]
    by_cases ht : isT S t
    · rw [if_pos ht, if_pos (hT.mp ht)]
      have h1 := r_now h (r_tpos h ht)
      have b3 := h1.1.2.2.1
      have b15 := h.1.2.2.2.2.2.2.2.2.2.2.2.2.2.2.1
      have b16 := h.1.2.2.2.2.2.2.2.2.2.2.2.2.2.2.2.1
      obtain ⟨g1, g2, g3, g4⟩ := pP_step (h1.2.1 i hi) b3 b15 b16 (p := p) (z_le (by decide) hp.1) hp.2 (r_tpos h ht)
      exact ⟨g4, RR_part h1 hi g2 g3 (Int.le_refl _) g1⟩
    · rw [if_neg ht, if_neg (fun z => ht (hT.mpr z))]
      exact ⟨rfl, h0⟩
  · rw [if_neg (fun z => hp (isPt_iff.mp z))]
    split
    · exact ⟨rfl, h0⟩
    · next g1 =>
      split
      · exact ⟨rfl, h0⟩
      · next g2 => exact absurd ⟨le_nltI.mpr g1, le_nltI.mpr g2⟩ hp
theorem h100 {n : Int32} : (0 ≤ n.toInt64 ∧ n.toInt64 ≤ 100) ↔ 0 ≤ n ∧ n ≤ 100 := by
  rw [show (0 : Int64) = (0 : Int32).toInt64 from rfl, show (100 : Int64) = (100 : Int32).toInt64 from rfl, le64, le64]
theorem r_tolY (h : RR B S M) (hi : i < S.C 0 0) (n : Int32) : (toY S i n).1 = (mtolY M (i + 1) n).1 ∧ RR B (toY S i n).2 (mtolY M (i + 1) n).2 := by
  have h0 := RR_0 h 0
  unfold toY mtolY
  by_cases hn : 0 ≤ n ∧ n ≤ 100
  · rw [if_pos (h100.mpr hn), if_neg (le_nltI.mp hn.1), if_pos hn.2]
    exact ⟨rfl, RR_part h0 hi (offS.rf.sI n (by decide)) (offM.rf.sI n (by omega)) (Int.le_refl _) (QR_7 (h0.2.1 i hi) n)⟩
  · rw [if_neg (fun z => hn (h100.mp z))]
    split
    · exact ⟨rfl, h0⟩
    · next g1 =>
      split
      · next g2 => exact absurd ⟨le_nltI.mpr g1, g2⟩ hn
      · exact ⟨rfl, h0⟩
theorem r_tolN (h : RR B S M) (x n : Int32) : (toN S x n).1 = (mtolN M x n).1 ∧ RR B (toN S x n).2 (mtolN M x n).2 := by
  have h0 := RR_0 h 0
  unfold toN mtolN
  by_cases hx : x = 0
  · rw [if_pos hx, if_pos hx]
    by_cases hn : 0 ≤ n ∧ n ≤ 100
    · rw [if_pos (h100.mpr hn), if_neg (le_nltI.mp hn.1), if_pos hn.2]
      refine ⟨rfl, RR_sc h0 (scS.rf.sI _ (by decide)) (scM.rf.sI _ (by omega)) ?_ rfl⟩
      obtain ⟨b1, b2, b3, b4, b5, b6, b7, b8⟩ := h0.1
      unfold SR
      simp [I_sI, J_sI, C_sI, mI_sI, mJ_sI]
      simp [mI_sI, mJ_sI] at b1 b3 b4 b5 b6 b8
      exact ⟨b1, b2, b3, b4, b5, b6, b8⟩
    · rw [if_neg (fun z => hn (h100.mp z))]
      split
      · exact ⟨rfl, h0⟩
      · next g1 =>
        split
        · next g2 => exact absurd ⟨le_nltI.mpr g1, g2⟩ hn
        · exact ⟨rfl, h0⟩
  · rw [if_neg hx, if_neg hx]
    exact ⟨rfl, h0⟩
end PU5
