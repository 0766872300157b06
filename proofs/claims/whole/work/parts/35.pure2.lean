section PU1
variable {mo : Int32} {B B2 : Int} {S : cS} {M : mS} {i : Nat}
theorem QR_8 (h : QR mo B S M i) (v : Int32) : QR mo B (S.sI 15 i 0 v) (M.sI 8 (i + 1) v) i := by
  obtain ⟨h1, h2, h3⟩ := h
  refine ⟨?_, fun r b hr hb => ?_, fun j hj => ?_⟩
  · unfold PR at h1 ⊢
    simp [I_sI, J_sI, C_sI, J_sJ, I_sJ, C_sJ, mI_sI, mJ_sI, mJ_sJ, mI_sJ]
    obtain ⟨a1, a2, a3, a4, a5, a6, a7, a8, a9, a10, a11, a12, a13, a14, a15, a16, a17, a18, a19⟩ := h1
    exact ⟨a1, a2, a3, a4, a5, a6, a7, a9, a10, a11, a12, a13, a14, a15, a16, a17, a18, a19⟩
  · have e1 := h2 r b hr hb
    simp [I_sI, J_sI, C_sI, J_sJ, I_sJ, C_sJ, mI_sI, mJ_sI, mJ_sJ, mI_sJ]
    first | exact e1 | exact h2 r b hr hb
  · have e1 := h3 j hj
    unfold DR at e1 ⊢
    simp [I_sI, J_sI, C_sI, J_sJ, I_sJ, C_sJ, mI_sI, mJ_sI, mJ_sJ, mI_sJ]
    exact e1
theorem QR_9 (h : QR mo B S M i) (v : Int32) (hv : v = 0 ∨ v = 1) : QR mo B (S.sI 17 i 0 v) (M.sI 9 (i + 1) v) i := by
  obtain ⟨h1, h2, h3⟩ := h
  refine ⟨?_, fun r b hr hb => ?_, fun j hj => ?_⟩
  · unfold PR at h1 ⊢
    simp [I_sI, J_sI, C_sI, J_sJ, I_sJ, C_sJ, mI_sI, mJ_sI, mJ_sJ, mI_sJ]
    obtain ⟨a1, a2, a3, a4, a5, a6, a7, a8, a9, a10, a11, a12, a13, a14, a15, a16, a17, a18, a19⟩ := h1
    exact ⟨a1, a2, a3, a4, a5, a6, a7, a8, a10, a11, a12, a13, a14, a15, a16, hv, a18, a19⟩
  · have e1 := h2 r b hr hb
    simp [I_sI, J_sI, C_sI, J_sJ, I_sJ, C_sJ, mI_sI, mJ_sI, mJ_sJ, mI_sJ]
    first | exact e1 | exact h2 r b hr hb
  · have e1 := h3 j hj
    unfold DR at e1 ⊢
    simp [I_sI, J_sI, C_sI, J_sJ, I_sJ, C_sJ, mI_sI, mJ_sI, mJ_sJ, mI_sJ]
    exact e1
theorem QR_10 (h : QR mo B S M i) (v : Int32) (h0 : 0 ≤ v) (hv : v ≤ 30) : QR mo B (S.sI 16 i 0 v) (M.sI 10 (i + 1) v) i := by
  obtain ⟨h1, h2, h3⟩ := h
  refine ⟨?_, fun r b hr hb => ?_, fun j hj => ?_⟩
  · unfold PR at h1 ⊢
    simp [I_sI, J_sI, C_sI, J_sJ, I_sJ, C_sJ, mI_sI, mJ_sI, mJ_sJ, mI_sJ]
    obtain ⟨a1, a2, a3, a4, a5, a6, a7, a8, a9, a10, a11, a12, a13, a14, a15, a16, a17, a18, a19⟩ := h1
    exact ⟨a1, a2, a3, a4, a5, a6, a7, a8, a9, a11, a12, a13, a14, a15, a16, a17, h0, hv⟩
  · have e1 := h2 r b hr hb
    simp [I_sI, J_sI, C_sI, J_sJ, I_sJ, C_sJ, mI_sI, mJ_sI, mJ_sJ, mI_sJ]
    first | exact e1 | exact h2 r b hr hb
  · have e1 := h3 j hj
    unfold DR at e1 ⊢
    simp [I_sI, J_sI, C_sI, J_sJ, I_sJ, C_sJ, mI_sI, mJ_sI, mJ_sJ, mI_sJ]
    exact e1
theorem QR_7 (h : QR mo B S M i) (v : Int32) : QR mo B (S.sI 12 i 0 v) (M.sI 7 (i + 1) v) i := by
  obtain ⟨h1, h2, h3⟩ := h
  refine ⟨?_, fun r b hr hb => ?_, fun j hj => ?_⟩
  · unfold PR at h1 ⊢
    simp [I_sI, J_sI, C_sI, J_sJ, I_sJ, C_sJ, mI_sI, mJ_sI, mJ_sJ, mI_sJ]
    obtain ⟨a1, a2, a3, a4, a5, a6, a7, a8, a9, a10, a11, a12, a13, a14, a15, a16, a17, a18, a19⟩ := h1
    exact ⟨a1, a2, a3, a4, a5, a6, a8, a9, a10, a11, a12, a13, a14, a15, a16, a17, a18, a19⟩
  · have e1 := h2 r b hr hb
    simp [I_sI, J_sI, C_sI, J_sJ, I_sJ, C_sJ, mI_sI, mJ_sI, mJ_sJ, mI_sJ]
    first | exact e1 | exact h2 r b hr hb
  · have e1 := h3 j hj
    unfold DR at e1 ⊢
    simp [I_sI, J_sI, C_sI, J_sJ, I_sJ, C_sJ, mI_sI, mJ_sI, mJ_sJ, mI_sJ]
    exact e1
theorem QR_56 (h : QR mo B S M i) (f c : Int32) (hc : c = 0 ∨ c = 1 ∨ c = 2) (h1f : c = 1 → 1 ≤ f) (h0 : 0 ≤ f) (hB : f.toInt ≤ B2) : QR mo B2 ((S.sI 14 i 0 f).sI 13 i 0 c) ((M.sI 6 (i + 1) f).sI 5 (i + 1) c) i := by
  obtain ⟨h1, h2, h3⟩ := h
  refine ⟨?_, fun r b hr hb => ?_, fun j hj => ?_⟩
  · unfold PR at h1 ⊢
    simp [I_sI, J_sI, C_sI, J_sJ, I_sJ, C_sJ, mI_sI, mJ_sI, mJ_sJ, mI_sJ]
    obtain ⟨a1, a2, a3, a4, a5, a6, a7, a8, a9, a10, a11, a12, a13, a14, a15, a16, a17, a18, a19⟩ := h1
    exact ⟨a1, a2, a3, a4, a7, a8, a9, a10, a11, a12, hc, h1f, h0, hB, a17, a18, a19⟩
  · have e1 := h2 r b hr hb
    simp [I_sI, J_sI, C_sI, J_sJ, I_sJ, C_sJ, mI_sI, mJ_sI, mJ_sJ, mI_sJ]
    first | exact e1 | exact h2 r b hr hb
  · have e1 := h3 j hj
    unfold DR at e1 ⊢
    simp [I_sI, J_sI, C_sI, J_sJ, I_sJ, C_sJ, mI_sI, mJ_sI, mJ_sJ, mI_sJ]
    exact e1
theorem QR_65 (h : QR mo B S M i) (f c : Int32) (hc : c = 0 ∨ c = 1 ∨ c = 2) (h1f : c = 1 → 1 ≤ f) (h0 : 0 ≤ f) (hB : f.toInt ≤ B2) : QR mo B2 ((S.sI 13 i 0 c).sI 14 i 0 f) ((M.sI 5 (i + 1) c).sI 6 (i + 1) f) i := by
  obtain ⟨h1, h2, h3⟩ := h
  refine ⟨?_, fun r b hr hb => ?_, fun j hj => ?_⟩
  · unfold PR at h1 ⊢
    simp [I_sI, J_sI, C_sI, J_sJ, I_sJ, C_sJ, mI_sI, mJ_sI, mJ_sJ, mI_sJ]
    obtain ⟨a1, a2, a3, a4, a5, a6, a7, a8, a9, a10, a11, a12, a13, a14, a15, a16, a17, a18, a19⟩ := h1
    exact ⟨a1, a2, a3, a4, a7, a8, a9, a10, a11, a12, hc, h1f, h0, hB, a17, a18, a19⟩
  · have e1 := h2 r b hr hb
    simp [I_sI, J_sI, C_sI, J_sJ, I_sJ, C_sJ, mI_sI, mJ_sI, mJ_sJ, mI_sJ]
    first | exact e1 | exact h2 r b hr hb
  · have e1 := h3 j hj
    unfold DR at e1 ⊢
    simp [I_sI, J_sI, C_sI, J_sJ, I_sJ, C_sJ, mI_sI, mJ_sI, mJ_sJ, mI_sJ]
    exact e1
theorem QR_5 (h : QR mo B S M i) (hb2 : B ≤ B2) : QR mo B2 (S.sI 13 i 0 2) (M.sI 5 (i + 1) 2) i := by
  obtain ⟨h1, h2, h3⟩ := h
  refine ⟨?_, fun r b hr hb => ?_, fun j hj => ?_⟩
  · unfold PR at h1 ⊢
    simp [I_sI, J_sI, C_sI, J_sJ, I_sJ, C_sJ, mI_sI, mJ_sI, mJ_sJ, mI_sJ]
    obtain ⟨a1, a2, a3, a4, a5, a6, a7, a8, a9, a10, a11, a12, a13, a14, a15, a16, a17, a18, a19⟩ := h1
    exact ⟨a1, a2, a3, a4, a6, a7, a8, a9, a10, a11, a12, a15, Int.le_trans a16 hb2, a17, a18, a19⟩
  · have e1 := h2 r b hr hb
    simp [I_sI, J_sI, C_sI, J_sJ, I_sJ, C_sJ, mI_sI, mJ_sI, mJ_sJ, mI_sJ]
    first | exact e1 | exact h2 r b hr hb
  · have e1 := h3 j hj
    unfold DR at e1 ⊢
    simp [I_sI, J_sI, C_sI, J_sJ, I_sJ, C_sJ, mI_sI, mJ_sI, mJ_sJ, mI_sJ]
    exact e1
theorem QR_stop (h : QR mo B S M i) {j0 : Nat} (hj0 : j0 < S.C 1 i) : QR mo B (S.sI 23 i j0 0) (M.sJ 18 (10 * (i + 1) + j0) (-1)) i := by
  obtain ⟨h1, h2, h3⟩ := h
  refine ⟨?_, fun r b hr hb => ?_, fun j hj => ?_⟩
  · unfold PR at h1 ⊢
    simp [I_sI, J_sI, C_sI, J_sJ, I_sJ, C_sJ, mI_sI, mJ_sI, mJ_sJ, mI_sJ]
    exact h1
  · have e1 := h2 r b hr hb
    simp [I_sI, J_sI, C_sI, J_sJ, I_sJ, C_sJ, mI_sI, mJ_sI, mJ_sJ, mI_sJ]
    first | exact e1 | exact h2 r b hr hb
  · have e1 := h3 j hj
    unfold DR at e1 ⊢
    simp [I_sI, J_sI, C_sI, J_sJ, I_sJ, C_sJ, mI_sI, mJ_sI, mJ_sJ, mI_sJ]
    by_cases hjj : j = j0
    · subst hjj
      simp
      exact ⟨e1.1, e1.2.1, e1.2.2.1, e1.2.2.2.1, e1.2.2.2.2.1⟩
    · simp [hjj]
      exact e1
theorem QR_start (h : QR mo B S M i) {j0 : Nat} (t : Int64) (ht : 0 ≤ t) (hm : S.I 20 i j0 = mo) : QR mo B ((S.sI 23 i j0 1).sJ 22 i j0 t) (M.sJ 18 (10 * (i + 1) + j0) t) i := by
  obtain ⟨h1, h2, h3⟩ := h
  refine ⟨?_, fun r b hr hb => ?_, fun j hj => ?_⟩
  · unfold PR at h1 ⊢
    simp [I_sI, J_sI, C_sI, J_sJ, I_sJ, C_sJ, mI_sI, mJ_sI, mJ_sJ, mI_sJ]
    exact h1
  · have e1 := h2 r b hr hb
    simp [I_sI, J_sI, C_sI, J_sJ, I_sJ, C_sJ, mI_sI, mJ_sI, mJ_sJ, mI_sJ]
    first | exact e1 | exact h2 r b hr hb
  · have e1 := h3 j hj
    unfold DR at e1 ⊢
    simp [I_sI, J_sI, C_sI, J_sJ, I_sJ, C_sJ, mI_sI, mJ_sI, mJ_sJ, mI_sJ]
    by_cases hjj : j = j0
    · subst hjj
      simp
      exact ⟨e1.1, e1.2.1, e1.2.2.1, e1.2.2.2.1, e1.2.2.2.2.1, ht, hm⟩
    · simp [hjj]
      exact e1
end PU1
