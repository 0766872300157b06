/-! A PART'S CYCLE, POINT AND EDGE, BOTH SIDES -/
section PU3
variable {mo : Int32} {B : Int} {S : cS} {M : mS} {i : Nat}
theorem QR_mono {B' : Int} (h : QR mo B S M i) (hB : B ≤ B') : QR mo B' S M i := by
  obtain ⟨⟨a1, a2, a3, a4, a5, a6, a7, a8, a9, a10, a11, a12, a13, a14, a15, a16, a17⟩, h2, h3⟩ := h
  exact ⟨⟨a1, a2, a3, a4, a5, a6, a7, a8, a9, a10, a11, a12, a13, a14, a15, Int.le_trans a16 hB, a17⟩, h2, h3⟩
theorem jA_step (h : QR mo B S M i) {ag : Int32} (hA : M.I 20 0 = ag) : QR mo B (pc1 S i ag) (jA M (i + 1)) i ∧ offS i (pc1 S i ag) S ∧ offM i (jA M (i + 1)) M := by
  have hh := h
  obtain ⟨⟨a1, a2, a3, a4, a5, a6, a7, a8, -⟩, -, -⟩ := hh
  have hpos : ¬ S.J 10 i 0 ≤ 0 := by
    rw [← a3, show (0 : Int64) = (0 : Int32).toInt64 from rfl, le64]
    intro z
    exact absurd a4 (le_nltI.mp z)
  unfold pc1 jA
  rw [if_neg hpos, hA, ← a3]
  by_cases hr : ag - ag / M.I 4 (i + 1) * M.I 4 (i + 1) = 0
  · rw [if_pos hr, if_pos (rem64.mpr hr)]
    unfold cA
    by_cases h2 : ag ≤ 2
    · rw [if_pos h2, if_pos h2]
      exact ⟨QR_8 h 0, offS.rf.sI 0 (by decide), offM.rf.sI 0 (by omega)⟩
    · rw [if_neg h2, if_neg h2, a8, a1, a2]
      by_cases hl : S.I 10 i 0 ≤ S.I 15 i 0
      · rw [if_neg (le_nltI.mp hl)]
        by_cases hu : S.I 15 i 0 ≤ S.I 11 i 0
        · rw [if_pos hu, if_pos ⟨le64.mpr hl, le64.mpr hu⟩]
          exact ⟨QR_8 h 0, offS.rf.sI 0 (by decide), offM.rf.sI 0 (by omega)⟩
        · rw [if_neg hu, if_neg (fun z => hu (le64.mp z.2))]
          exact ⟨QR_8 (QR_9 h 1 (Or.inr rfl)) 0, (offS.rf.sI 1 (by decide)).sI 0 (by decide), (offM.rf.sI 1 (by omega)).sI 0 (by omega)⟩
      · rw [if_pos (Classical.byContradiction (fun z => hl (le_nltI.mpr z))), if_neg (fun z => hl (le64.mp z.1))]
        exact ⟨QR_8 (QR_9 h 1 (Or.inr rfl)) 0, (offS.rf.sI 1 (by decide)).sI 0 (by decide), (offM.rf.sI 1 (by omega)).sI 0 (by omega)⟩
  · rw [if_neg hr, if_neg (fun z => hr (rem64.mp z))]
    exact ⟨h, offS.rf, offM.rf⟩
theorem jB_step (h : QR mo B S M i) (hB : B ≤ 900) : QR mo (B + 1) ((jU S i).sI 17 i 0 0) (jB M (i + 1)) i ∧ offS i ((jU S i).sI 17 i 0 0) S ∧ offM i (jB M (i + 1)) M := by
  have hh := h
  obtain ⟨⟨a1, a2, a3, a4, a5, a6, a7, a8, a9, a10, a11, a12, a13, a14, a15, a16, a17, -⟩, -, -⟩ := hh
  have z0 : (0 : Int32).toInt = 0 := rfl
  have z1 : (1 : Int32).toInt = 1 := rfl
  have zk : (1000 : Int32).toInt = 1000 := rfl
  have p0 := Int32.le_iff_toInt_le.mp a15
  have h1000 : S.I 14 i 0 ≤ 1000 := Int32.le_iff_toInt_le.mpr (by omega)
  have pa := add1 a15 h1000
  have pb := sub1 a15
  have h' := QR_mono h (show B ≤ B + 1 by omega)
  have o9 : ∀ {M' : mS}, offM i M' M → offM i (M'.sI 9 (i + 1) 0) M := fun o => o.sI 0 (by omega)
  unfold jU jB
  rw [a9, a5, a6, a7]
  by_cases hf : S.I 17 i 0 = 0
  · rw [if_pos hf, if_pos hf]
    by_cases hc : S.I 13 i 0 = 1
    · have g1 := Int32.le_iff_toInt_le.mp (a14 hc)
      rw [if_pos hc, if_pos hc]
      by_cases hz : S.I 14 i 0 - 1 = 0
      · rw [if_pos hz, if_pos (by rw [hz]; decide)]
        exact ⟨QR_9 (QR_56 h _ 0 (Or.inl rfl) (fun z => absurd z (by decide)) (by rw [hz]; decide) (by omega)) 0 (Or.inl rfl), ((offS.rf.sI _ (by decide)).sI 0 (by decide)).sI 0 (by decide), o9 ((offM.rf.sI _ (by omega)).sI 0 (by omega))⟩
      · have hnz : (S.I 14 i 0 - 1).toInt ≠ 0 := fun z => hz (Int32.toInt_inj.mp (by rw [z]; rfl))
        have hpos : ¬ S.I 14 i 0 - 1 ≤ 0 := fun z => by
          have := Int32.le_iff_toInt_le.mp z
          omega
        rw [if_neg hz, if_neg hpos]
        exact ⟨QR_9 (QR_56 h _ 1 (Or.inr (Or.inl rfl)) (fun _ => Int32.le_iff_toInt_le.mpr (by omega)) (Int32.le_iff_toInt_le.mpr (by omega)) (by omega)) 0 (Or.inl rfl), ((offS.rf.sI _ (by decide)).sI 1 (by decide)).sI 0 (by decide), o9 ((offM.rf.sI _ (by omega)).sI 1 (by omega))⟩
    · rw [if_neg hc, if_neg hc]
      exact ⟨QR_9 h' 0 (Or.inl rfl), offS.rf.sI 0 (by decide), o9 offM.rf⟩
  · rw [if_neg hf, if_neg hf]
    by_cases ht : S.I 14 i 0 + 1 ≤ S.I 12 i 0
    · rw [if_pos ht, if_pos ht]
      exact ⟨QR_9 (QR_56 h _ 1 (Or.inr (Or.inl rfl)) (fun _ => Int32.le_iff_toInt_le.mpr (by omega)) (Int32.le_iff_toInt_le.mpr (by omega)) (by omega)) 0 (Or.inl rfl), ((offS.rf.sI _ (by decide)).sI 1 (by decide)).sI 0 (by decide), o9 ((offM.rf.sI _ (by omega)).sI 1 (by omega))⟩
    · rw [if_neg ht, if_neg ht]
      exact ⟨QR_9 (QR_56 h _ 2 (Or.inr (Or.inr rfl)) (fun z => absurd z (by decide)) (Int32.le_iff_toInt_le.mpr (by omega)) (by omega)) 0 (Or.inl rfl), ((offS.rf.sI _ (by decide)).sI 2 (by decide)).sI 0 (by decide), o9 ((offM.rf.sI _ (by omega)).sI 2 (by omega))⟩
theorem pC_step (h : QR mo B S M i) (hB : B ≤ 900) {ag : Int32} {t : Int64} (hA : M.I 20 0 = ag) (hT : M.J 21 0 = t) {cn : Nat → Nat} (hcn : cn (i + 1) = S.C 1 i) : QR mo (B + 1) (pC S i ag t) (cyT1 M (i + 1) cn) i ∧ offS i (pC S i ag t) S ∧ offM i (cyT1 M (i + 1) cn) M := by
  have a5 := h.1.2.2.2.2.1
  have a13 := h.1.2.2.2.2.2.2.2.2.2.2.2.2.1
  unfold pC cyT1
  rw [a5]
  by_cases hc : S.I 13 i 0 = 2
  · rw [if_pos hc, if_pos (by rw [hc]; decide)]
    exact ⟨QR_mono h (by omega), offS.rf, offM.rf⟩
  · have hn : ¬ (2 : Int32) ≤ S.I 13 i 0 := by
      rcases a13 with z | z | z
      · rw [z]; decide
      · rw [z]; decide
      · exact absurd z hc
    rw [if_neg hc, if_neg hn, hcn]
    obtain ⟨g1, g2, g3⟩ := sD_loop h hT (S.C 1 i) (Nat.le_refl _)
    obtain ⟨f1, f2, f3⟩ := jA_step g1 (ag := ag) ((g3.2.1 20 0 (by omega) (by omega)).trans hA)
    obtain ⟨e1, e2, e3⟩ := jB_step f1 hB
    exact ⟨e1, e2.tr (f2.tr g2), e3.tr (f3.tr g3)⟩
theorem edge_ix {fr to : Int32} (hm : M.I 19 0 = mo) (hm0 : 0 ≤ mo) (hm3 : mo ≤ 3) (hf0 : 0 ≤ fr) (hf30 : fr ≤ 30) (ht0 : 0 ≤ to) (ht30 : to ≤ 30) : ∃ r b : Nat, r < 124 ∧ b < 31 ∧ to = nI b ∧ (mo * 31 + fr).toNatClampNeg = r ∧ inR (mo * 31 + fr) ∧ eix M (i + 1) fr to = (124 * (i + 1) + r) * 31 + b := by
  obtain ⟨a, ha, rfl⟩ := nI_of2 (M := 3) (n := 3) rfl (le_nltI.mp hm0) hm3
  obtain ⟨b, hb, rfl⟩ := nI_of2 (M := 30) (n := 30) rfl (le_nltI.mp hf0) hf30
  obtain ⟨c, hc, rfl⟩ := nI_of2 (M := 30) (n := 30) rfl (le_nltI.mp ht0) ht30
  have e : nI a * 31 + nI b = nI (a * 31 + b) := by rw [show (31 : Int32) = nI 31 from rfl, pk_mul, nI_add]
  refine ⟨a * 31 + b, c, by omega, by omega, rfl, by rw [e, nI_clamp (by omega)], ?_, ?_⟩
  · rw [e]
    refine ⟨?_, ?_⟩
    · rw [show (0 : Int64) = (0 : Int32).toInt64 from rfl, le64]
      exact nI_pos' (by omega)
    · rw [le64, show ((124 : Int32) - 1) = nI 123 from rfl]
      exact nI_le (by omega) (by omega)
  · unfold eix
    rw [hm, nI_clamp (by omega), nI_clamp (by omega), nI_clamp (by omega)]
    omega
theorem edge_iff (h : ER S M i) {fr to : Int32} (hm : M.I 19 0 = mo) (hm0 : 0 ≤ mo) (hm3 : mo ≤ 3) (hf0 : 0 ≤ fr) (hf30 : fr ≤ 30) (ht0 : 0 ≤ to) (ht30 : to ≤ 30) : hE S i (mo * 31 + fr) to ↔ ¬ M.I 11 (eix M (i + 1) fr to) = 0 := by
  obtain ⟨r, b, hr, hb, rfl, e1, e2, e3⟩ := edge_ix (i := i) hm hm0 hm3 hf0 hf30 ht0 ht30
  rw [e3, h r b hr hb]
  refine ⟨fun z y => z.2 ?_, fun z => ⟨e2, fun y => z ?_⟩⟩
  · rw [e1]
    exact (bit0 _ (by omega)).mpr y
  · rw [e1] at y
    exact (bit0 _ (by omega)).mp y
def mpp (M : mS) (n cn : Nat) (wh : Int32) (t : Int64) : Int32 × mS :=
  if M.I 5 n = 2 then (2, M.sI 10 n wh) else if M.I 11 (eix M n (M.I 10 n) wh) = 0 then (2, (M.sI 10 n wh).sI 5 n 2) else mpo2 (pE (M.sI 10 n wh) n wh t cn) n wh t cn
theorem pP_step (h : QR mo B S M i) (hm : M.I 19 0 = mo) (hm0 : 0 ≤ mo) (hm3 : mo ≤ 3) {p : Int32} (hp0 : 0 ≤ p) (hp30 : p ≤ 30) {t : Int64} (ht : 0 ≤ t) : QR mo B (pP S i mo p t) (mpp M (i + 1) (S.C 1 i) p t).2 i ∧ offS i (pP S i mo p t) S ∧ offM i (mpp M (i + 1) (S.C 1 i) p t).2 M ∧ (pP S i mo p t).I 13 i 0 = (mpp M (i + 1) (S.C 1 i) p t).1 := by
  have a5 := h.1.2.2.2.2.1
  have a10 := h.1.2.2.2.2.2.2.2.2.2.1
  have a18 := h.1.2.2.2.2.2.2.2.2.2.2.2.2.2.2.2.2.2.1
  have a19 := h.1.2.2.2.2.2.2.2.2.2.2.2.2.2.2.2.2.2.2
  have he := edge_iff h.2.1 hm hm0 hm3 a18 a19 hp0 hp30
  have q1 : QR mo B (S.sI 16 i 0 p) (M.sI 10 (i + 1) p) i := QR_10 h p hp0 hp30
  have oS : offS i (S.sI 16 i 0 p) S := offS.rf.sI p (by decide)
  have oM : offM i (M.sI 10 (i + 1) p) M := offM.rf.sI p (by omega)
  unfold pP mpp
  rw [a5, a10]
  by_cases hc : S.I 13 i 0 = 2
  · rw [if_pos hc, if_pos hc]
    exact ⟨q1, oS, oM, by rw [I_sI, if_neg (by omega)]; exact hc⟩
  · rw [if_neg hc, if_neg hc]
    by_cases hz : M.I 11 (eix M (i + 1) (S.I 16 i 0) p) = 0
    · rw [if_pos hz, if_neg (fun z => he.mp z hz)]
      exact ⟨QR_5 q1 (Int.le_refl _), oS.sI 2 (by decide), oM.sI 2 (by omega), by rw [I_sI, if_pos ⟨rfl, rfl, rfl⟩]⟩
    · rw [if_neg hz, if_pos (he.mpr hz)]
      obtain ⟨g1, g2, g3⟩ := eD_loop q1 (p := p) (t := t) hm (S.C 1 i) (Nat.le_refl _)
      have hC1 : (eD (S.sI 16 i 0 p) i p t (S.C 1 i)).C = S.C := g2.1
      obtain ⟨f1, f2, f3⟩ := bD_loop g1 (p := p) (t := t) ht ((g3.2.1 19 0 (by omega) (by omega)).trans hm) (S.C 1 i) (by rw [hC1]; exact Nat.le_refl _)
      rw [show (S.sI 16 i 0 p).C 1 i = S.C 1 i from rfl, hC1]
      unfold mpo2 mpo3
      have e8 := f1.1.2.2.2.2.2.2.2.1
      have e5 := f1.1.2.2.2.2.1
      by_cases h1 : p = 1
      · rw [if_pos h1, if_pos h1, e8]
        exact ⟨QR_8 f1 _, (f2.tr (g2.tr oS)).sI _ (by decide), (f3.tr (g3.tr oM)).sI _ (by omega), by rw [I_sI, if_neg (by omega)]; exact e5.symm⟩
      · rw [if_neg h1, if_neg h1]
        exact ⟨f1, f2.tr (g2.tr oS), f3.tr (g3.tr oM), e5.symm⟩
theorem QR_E1 (h : QR mo B S M i) {r c : Nat} (hr : r < 124) (hc : c < 31) : QR mo B (S.sI 18 i r (S.I 18 i r ||| ((1 : Int32) <<< (nI c &&& 31)))) (M.sI 11 ((124 * (i + 1) + r) * 31 + c) 1) i := by
  obtain ⟨h1, h2, h3⟩ := h
  refine ⟨?_, fun q b hq hb => ?_, fun j hj => ?_⟩
  · unfold PR at h1 ⊢
    simp [I_sI, J_sI, C_sI, mI_sI]
    exact h1
  · rw [mI_sI, I_sI]
    by_cases e : q = r
    · subst e
      rw [if_pos (show 18 = 18 ∧ i = i ∧ q = q from ⟨rfl, rfl, rfl⟩), bitO _ (by omega) (by omega)]
      by_cases ec : b = c
      · subst ec
        rw [if_pos ⟨rfl, rfl⟩]
        simp
      · rw [if_neg (by omega), h2 q b hq hb]
        have : ¬ c = b := fun z => ec z.symm
        simp [this]
    · rw [if_neg (by omega), if_neg (fun z => e z.2.2)]
      exact h2 q b hq hb
  · have e1 := h3 j hj
    unfold DR at e1 ⊢
    simp [I_sI, J_sI, C_sI, mI_sI, mJ_sI]
    exact e1
theorem QR_E0 (h : QR mo B S M i) {r c : Nat} (hr : r < 124) (hc : c < 31) (hset : ¬ M.I 11 ((124 * (i + 1) + r) * 31 + c) = 0) : QR mo B S (M.sI 11 ((124 * (i + 1) + r) * 31 + c) 1) i := by
  obtain ⟨h1, h2, h3⟩ := h
  refine ⟨?_, fun q b hq hb => ?_, fun j hj => ?_⟩
  · unfold PR at h1 ⊢
    simp [mI_sI]
    exact h1
  · rw [mI_sI]
    by_cases e : (124 * (i + 1) + q) * 31 + b = (124 * (i + 1) + r) * 31 + c
    · rw [if_pos ⟨rfl, e⟩, ← h2 q b hq hb, e]
      exact ⟨fun z => absurd z (by decide), fun z => absurd z hset⟩
    · rw [if_neg (fun z => e z.2)]
      exact h2 q b hq hb
  · have e1 := h3 j hj
    unfold DR at e1 ⊢
    simp [mI_sI, mJ_sI]
    exact e1
end PU3
