/-! THE LOOPS OVER ALL PARTS; SCALARS -/
section PU4
theorem loopR {mo mo' : Int32} {B B' : Int} (hB : B ≤ B') (K : cS → mS → Prop) (hK : ∀ i S S' M M', offS i S' S → offM i M' M → K S M → K S' M') (f : cS → Nat → cS) (g : mS → Nat → mS)
    (hstep : ∀ S M i, K S M → QR mo B S M i → QR mo' B' (f S i) (g M i) i ∧ offS i (f S i) S ∧ offM i (g M i) M) (F : Nat → cS) (G : Nat → mS) (hF : ∀ j, F (j + 1) = f (F j) j) (hG : ∀ j, G (j + 1) = g (G j) j)
    (h0 : SR (F 0) (G 0)) (hQ : ∀ i, i < (F 0).C 0 0 → QR mo B (F 0) (G 0) i) (hR : FR (F 0) (G 0)) (hK0 : K (F 0) (G 0)) :
    ∀ j, j ≤ (F 0).C 0 0 → SR (F j) (G j) ∧ (F j).C = (F 0).C ∧ (∀ i, i < j → QR mo' B' (F j) (G j) i) ∧ (∀ i, j ≤ i → i < (F 0).C 0 0 → QR mo B (F j) (G j) i) ∧ FR (F j) (G j) ∧ K (F j) (G j) := by
  intro j
  induction j with
  | zero => intro _; exact ⟨h0, rfl, fun _ z => absurd z (Nat.not_lt_zero _), fun i _ z => hQ i z, hR, hK0⟩
  | succ j ih =>
    intro hj
    obtain ⟨g1, g2, g3, g4, g5, g6⟩ := ih (by omega)
    obtain ⟨e1, e2, e3⟩ := hstep (F j) (G j) j g6 (g4 j (Nat.le_refl _) (by omega))
    rw [hF j, hG j]
    refine ⟨SR_off g1 e2 e3, e2.1.trans g2, fun i hi => ?_, fun i h1 h2 => QR_off (g4 i (by omega) h2) (by omega) e2 e3 (Int.le_refl _), FR_off g5 (by rw [g2]; omega) e2 e3, hK j _ _ _ _ e2 e3 g6⟩
    by_cases e : i = j
    · rw [e]; exact e1
    · exact QR_off (g3 i (by omega)) e e2 e3 (Int.le_refl _)
def scS (S' S : cS) : Prop := S'.C = S.C ∧ ∀ k a b, 10 ≤ k → S'.I k a b = S.I k a b ∧ S'.J k a b = S.J k a b
def scM (M' M : mS) : Prop := ∀ k x, 2 ≤ k → k ≤ 18 → M'.I k x = M.I k x ∧ M'.J k x = M.J k x
theorem scS.rf {S : cS} : scS S S := ⟨rfl, fun _ _ _ _ => ⟨rfl, rfl⟩⟩
theorem scS.sI {S' S : cS} (h : scS S' S) {k i j : Nat} (v : Int32) (hk : k < 10) : scS (S'.sI k i j v) S := by
  refine ⟨h.1, fun a b c z => ⟨?_, (h.2 a b c z).2⟩⟩
  rw [I_sI, if_neg (by omega)]
  exact (h.2 a b c z).1
theorem scS.sJ {S' S : cS} (h : scS S' S) {k i j : Nat} (v : Int64) (hk : k < 10) : scS (S'.sJ k i j v) S := by
  refine ⟨h.1, fun a b c z => ⟨(h.2 a b c z).1, ?_⟩⟩
  rw [J_sJ, if_neg (by omega)]
  exact (h.2 a b c z).2
theorem scM.rf {M : mS} : scM M M := fun _ _ _ _ => ⟨rfl, rfl⟩
theorem scM.sI {M' M : mS} (h : scM M' M) {k j : Nat} (v : Int32) (hk : k < 2 ∨ 18 < k) : scM (M'.sI k j v) M := by
  intro a x y z
  refine ⟨?_, (h a x y z).2⟩
  rw [mI_sI, if_neg (by omega)]
  exact (h a x y z).1
theorem scM.sJ {M' M : mS} (h : scM M' M) {k j : Nat} (v : Int64) (hk : k < 2 ∨ 18 < k) : scM (M'.sJ k j v) M := by
  intro a x y z
  refine ⟨(h a x y z).1, ?_⟩
  rw [mJ_sJ, if_neg (by omega)]
  exact (h a x y z).2
theorem QR_sc {mo : Int32} {B : Int} {S S' : cS} {M M' : mS} {i : Nat} (h : QR mo B S M i) (hS : scS S' S) (hM : scM M' M) : QR mo B S' M' i := by
  obtain ⟨h1, h2, h3⟩ := h
  have eI : ∀ k a b, 10 ≤ k → S'.I k a b = S.I k a b := fun k a b z => (hS.2 k a b z).1
  have eJ : ∀ k a b, 10 ≤ k → S'.J k a b = S.J k a b := fun k a b z => (hS.2 k a b z).2
  have mI : ∀ k x, 2 ≤ k → k ≤ 18 → M'.I k x = M.I k x := fun k x y z => (hM k x y z).1
  have mJ : ∀ k x, 2 ≤ k → k ≤ 18 → M'.J k x = M.J k x := fun k x y z => (hM k x y z).2
  refine ⟨?_, fun r b hr hb => ?_, fun j hj => ?_⟩
  · unfold PR at h1 ⊢
    rw [hS.1, mI 2 _ (by decide) (by decide), mI 3 _ (by decide) (by decide), mI 4 _ (by decide) (by decide), mI 5 _ (by decide) (by decide), mI 6 _ (by decide) (by decide), mI 7 _ (by decide) (by decide), mI 8 _ (by decide) (by decide), mI 9 _ (by decide) (by decide), mI 10 _ (by decide) (by decide), mI 12 _ (by decide) (by decide),
      eI 10 _ _ (by decide), eI 11 _ _ (by decide), eI 12 _ _ (by decide), eI 13 _ _ (by decide), eI 14 _ _ (by decide), eI 15 _ _ (by decide), eI 16 _ _ (by decide), eI 17 _ _ (by decide), eJ 10 _ _ (by decide)]
    exact h1
  · rw [mI 11 _ (by decide) (by decide), eI 18 _ _ (by decide)]
    exact h2 r b hr hb
  · rw [hS.1] at hj
    have d := h3 j hj
    unfold DR at d ⊢
    rw [mI 13 _ (by decide) (by decide), mI 14 _ (by decide) (by decide), mI 15 _ (by decide) (by decide), mJ 16 _ (by decide) (by decide), mJ 17 _ (by decide) (by decide), mJ 18 _ (by decide) (by decide), eI 20 _ _ (by decide), eI 21 _ _ (by decide), eI 22 _ _ (by decide), eI 23 _ _ (by decide), eJ 20 _ _ (by decide), eJ 21 _ _ (by decide), eJ 22 _ _ (by decide)]
    exact d
theorem FR_sc {S S' : cS} {M M' : mS} (h : FR S M) (hC : S'.C = S.C) (hM : scM M' M) : FR S' M' := by
  intro a h1 h2
  rw [hC] at h1
  obtain ⟨g1, g2⟩ := h a h1 h2
  have mI : ∀ k x, 2 ≤ k → k ≤ 18 → M'.I k x = M.I k x := fun k x y z => (hM k x y z).1
  refine ⟨?_, fun r b hr hb => ?_⟩
  · rw [mI 5 _ (by decide) (by decide), mI 6 _ (by decide) (by decide), mI 7 _ (by decide) (by decide), mI 8 _ (by decide) (by decide), mI 9 _ (by decide) (by decide), mI 10 _ (by decide) (by decide), mI 12 _ (by decide) (by decide)]
    exact g1
  · rw [mI 11 _ (by decide) (by decide)]
    exact g2 r b hr hb
theorem RR_sc {B : Int} {S S' : cS} {M M' : mS} (h : RR B S M) (hS : scS S' S) (hM : scM M' M) (hs : SR S' M') (h0 : S'.I 0 0 0 = S.I 0 0 0) : RR B S' M' := by
  refine ⟨hs, fun i hi => ?_, FR_sc h.2.2 hS.1 hM⟩
  rw [hS.1] at hi
  rw [h0]
  exact QR_sc (h.2.1 i hi) hS hM
theorem RR_0 {B : Int} {S : cS} {M : mS} (h : RR B S M) (v : Int32) : RR B S (M.sI 0 0 v) := by
  refine RR_sc h scS.rf (scM.rf.sI v (by omega)) ?_ rfl
  have hs := h.1
  unfold SR at hs ⊢
  simp [mI_sI, mJ_sI]
  exact hs
theorem RR_mono {B B' : Int} {S : cS} {M : mS} (h : RR B S M) (hB : B ≤ B') : RR B' S M := ⟨h.1, fun i hi => QR_mono (h.2.1 i hi) hB, h.2.2⟩
/-- a reset -/
theorem r_rS {B : Int} {S : cS} {M : mS} (h : RR B S M) (hB : 0 ≤ B) (why : Int32) : RR B (rS S why) (r0 M why (S.C 0 0)) := by
  have hs := h.1
  have s1 : SR ((S.sI 5 0 0 why).sI 4 0 0 (S.I 4 0 0 + 1)) ((M.sI 25 0 why).sI 24 0 (M.I 24 0 + 1)) := by
    obtain ⟨b1, b2, b3, b4, b5, b6, b7, b8, b9, b10, b11, b12, b13, b14, b15⟩ := hs
    unfold SR
    simp [I_sI, J_sI, C_sI, mI_sI, mJ_sI]
    exact ⟨b1, b2, b3, b4, b5, b6, b7, by rw [b8], b10, b11, b12, b13, b14, b15⟩
  have q1 : ∀ i, i < S.C 0 0 → QR (S.I 0 0 0) B ((S.sI 5 0 0 why).sI 4 0 0 (S.I 4 0 0 + 1)) ((M.sI 25 0 why).sI 24 0 (M.I 24 0 + 1)) i := fun i hi => QR_sc (h.2.1 i hi) ((scS.rf.sI _ (by decide)).sI _ (by decide)) ((scM.rf.sI _ (by omega)).sI _ (by omega))
  have f1 : FR ((S.sI 5 0 0 why).sI 4 0 0 (S.I 4 0 0 + 1)) ((M.sI 25 0 why).sI 24 0 (M.I 24 0 + 1)) := FR_sc h.2.2 rfl ((scM.rf.sI _ (by omega)).sI _ (by omega))
  obtain ⟨g1, g2, g3, -, g5, -⟩ := loopR (mo := S.I 0 0 0) (mo' := 0) (Int.le_refl B) (fun _ _ => True) (fun _ _ _ _ _ _ _ _ => trivial) bA (fun M i => r01 M (i + 1)) (fun S M i _ q => bA_step 0 hB q) (rsL ((S.sI 5 0 0 why).sI 4 0 0 (S.I 4 0 0 + 1))) (r0L ((M.sI 25 0 why).sI 24 0 (M.I 24 0 + 1))) (fun _ => rfl) (fun _ => rfl) s1 q1 f1 trivial (S.C 0 0) (Nat.le_refl _)
  unfold rS r0
  have g2' : (rsL ((S.sI 5 0 0 why).sI 4 0 0 (S.I 4 0 0 + 1)) (S.C 0 0)).C = S.C := g2
  revert g1 g3 g5 g2'
  generalize rsL ((S.sI 5 0 0 why).sI 4 0 0 (S.I 4 0 0 + 1)) (S.C 0 0) = T
  generalize r0L ((M.sI 25 0 why).sI 24 0 (M.I 24 0 + 1)) (S.C 0 0) = T'
  intro g1 g3 g5 g2'
  have oS : scS (rs2 T) T := (((((((scS.rf.sI _ (by decide)).sI _ (by decide)).sI _ (by decide)).sI _ (by decide)).sI _ (by decide)).sI _ (by decide)).sJ _ (by decide)).sJ _ (by decide)
  have oM : scM (r02 T') T' := (((((((scM.rf.sI _ (by omega)).sI _ (by omega)).sI _ (by omega)).sI _ (by omega)).sI _ (by omega)).sI _ (by omega)).sJ _ (by omega)).sJ _ (by omega)
  refine ⟨?_, fun i hi => ?_, FR_sc g5 oS.1 oM⟩
  · obtain ⟨b1, b2, b3, b4, b5, b6, b7, b8, b9, b10, b11, b12, b13, b14, b15, b16, b17, b18, b19⟩ := g1
    unfold SR rs2 r02
    simp [I_sI, J_sI, C_sI, J_sJ, I_sJ, C_sJ, mI_sI, mJ_sI, mJ_sJ, mI_sJ]
    repeat' (first | exact b1 | exact b2 | exact b5 | exact b7 | exact b8 | exact b9 | exact b17 | refine And.intro ?_ ?_)
  · rw [oS.1, g2'] at hi
    exact QR_sc (g3 i hi) oS oM
end PU4
