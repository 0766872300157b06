section PU10
variable {B : Int} {S : cS} {M : mS} {i : Nat}
theorem QR_eq {mo : Int32} {S' : cS} {M' : mS} {a : Nat} (h : QR mo B S M a) (eI : ∀ k b, 10 ≤ k → k ≠ 19 → S'.I k a b = S.I k a b) (eJ : ∀ k b, 10 ≤ k → S'.J k a b = S.J k a b) (eC : S'.C 1 a = S.C 1 a)
    (mI : ∀ k, 2 ≤ k ∧ k ≤ 10 ∨ k = 12 → M'.I k (a + 1) = M.I k (a + 1)) (mE : ∀ r b : Nat, r < 124 → b < 31 → M'.I 11 ((124 * (a + 1) + r) * 31 + b) = M.I 11 ((124 * (a + 1) + r) * 31 + b))
    (mD : ∀ k j, j < 10 → 13 ≤ k → k < 19 → M'.I k (10 * (a + 1) + j) = M.I k (10 * (a + 1) + j) ∧ M'.J k (10 * (a + 1) + j) = M.J k (10 * (a + 1) + j)) : QR mo B S' M' a := by
  obtain ⟨h1, h2, h3⟩ := h
  refine ⟨?_, fun r b hr hb => ?_, fun j hj => ?_⟩
  · unfold PR at h1 ⊢
    rw [eC, mI 2 (by decide), mI 3 (by decide), mI 4 (by decide), mI 5 (by decide), mI 6 (by decide), mI 7 (by decide), mI 8 (by decide), mI 9 (by decide), mI 10 (by decide), mI 12 (by decide),
      eI 10 _ (by decide) (by decide), eI 11 _ (by decide) (by decide), eI 12 _ (by decide) (by decide), eI 13 _ (by decide) (by decide), eI 14 _ (by decide) (by decide), eI 15 _ (by decide) (by decide), eI 16 _ (by decide) (by decide), eI 17 _ (by decide) (by decide), eJ 10 _ (by decide)]
    exact h1
  · rw [mE r b hr hb, eI 18 _ (by decide) (by decide)]
    exact h2 r b hr hb
  · rw [eC] at hj
    have hj10 : j < 10 := by have := h1.2.2.2.2.2.2.2.2.2.2.2.1; omega
    have d := h3 j hj
    unfold DR at d ⊢
    rw [(mD 13 j hj10 (by decide) (by decide)).1, (mD 14 j hj10 (by decide) (by decide)).1, (mD 15 j hj10 (by decide) (by decide)).1, (mD 16 j hj10 (by decide) (by decide)).2, (mD 17 j hj10 (by decide) (by decide)).2, (mD 18 j hj10 (by decide) (by decide)).2, eI 20 _ (by decide) (by decide), eI 21 _ (by decide) (by decide), eI 22 _ (by decide) (by decide), eI 23 _ (by decide) (by decide), eJ 20 _ (by decide), eJ 21 _ (by decide), eJ 22 _ (by decide)]
    exact d
/-- the model's new deadline -/
abbrev mnD (M : mS) (n cn : Nat) (fr to : Int32) (a b : Int64) : mS := (((((((M.sI 0 0 0).sI 13 (10 * n + cn) (M.I 19 0)).sI 14 (10 * n + cn) fr).sI 15 (10 * n + cn) to).sJ 16 (10 * n + cn) a).sJ 17 (10 * n + cn) b).sJ 18 (10 * n + cn) (-1)).sI 12 n (M.I 12 n + 1)
theorem nm_I {n cn : Nat} {fr to : Int32} {a b : Int64} {k x : Nat} : (mnD M n cn fr to a b).I k x = if k = 12 ∧ x = n then M.I 12 n + 1 else if k = 15 ∧ x = 10 * n + cn then to else if k = 14 ∧ x = 10 * n + cn then fr else if k = 13 ∧ x = 10 * n + cn then M.I 19 0 else if k = 0 ∧ x = 0 then 0 else M.I k x := rfl
theorem nm_J {n cn : Nat} {fr to : Int32} {a b : Int64} {k x : Nat} : (mnD M n cn fr to a b).J k x = if k = 18 ∧ x = 10 * n + cn then -1 else if k = 17 ∧ x = 10 * n + cn then b else if k = 16 ∧ x = 10 * n + cn then a else M.J k x := rfl
theorem mdead_bad {n cn : Nat} {fr to : Int32} {a b : Int64} (h : ¬ okD fr to a b) : mdead M n cn fr to a b = (-2, M.sI 0 0 0) := by
  unfold mdead
  by_cases g1 : fr < 1
  · rw [if_pos g1]
  by_cases g2 : 30 < fr
  · rw [if_neg g1, if_pos g2]
  by_cases g3 : to < 1
  · rw [if_neg g1, if_neg g2, if_pos g3]
  by_cases g4 : 30 < to
  · rw [if_neg g1, if_neg g2, if_neg g3, if_pos g4]
  by_cases g5 : a < 0
  · rw [if_neg g1, if_neg g2, if_neg g3, if_neg g4, if_pos g5]
  by_cases g6 : 100000 < a
  · rw [if_neg g1, if_neg g2, if_neg g3, if_neg g4, if_neg g5, if_pos g6]
  by_cases g7 : b < a
  · rw [if_neg g1, if_neg g2, if_neg g3, if_neg g4, if_neg g5, if_neg g6, if_pos g7]
  by_cases g8 : b ≤ 100000
  · exact absurd ⟨isPt_iff.mpr ⟨le_nltI.mpr g1, le_nltI.mpr g2⟩, isPt_iff.mpr ⟨le_nltI.mpr g3, le_nltI.mpr g4⟩, ⟨le_nlt.mpr g5, le_nlt.mpr g6⟩, le_nlt.mpr g7, g8⟩ h
  · rw [if_neg g1, if_neg g2, if_neg g3, if_neg g4, if_neg g5, if_neg g6, if_neg g7, if_neg g8]
theorem mdead_ok {n cn : Nat} {fr to : Int32} {a b : Int64} (h : okD fr to a b) : mdead M n cn fr to a b = if M.I 12 n = 10 then (-4, M.sI 0 0 0) else (M.I 12 n + 1, mnD M n cn fr to a b) := by
  obtain ⟨h1, h2, h3, h4⟩ := h
  have p1 := isPt_iff.mp h1
  have p2 := isPt_iff.mp h2
  unfold mdead
  rw [if_neg (le_nltI.mp p1.1), if_neg (le_nltI.mp p1.2), if_neg (le_nltI.mp p2.1), if_neg (le_nltI.mp p2.2), if_neg (le_nlt.mp h3.1), if_neg (le_nlt.mp h3.2), if_neg (le_nlt.mp h4.1), if_pos h4.2]
theorem nD_I {q b : Nat} {mo fr to : Int32} {lo hi : Int64} {k x y : Nat} : (newD S i q b mo fr to lo hi).I k x y = if k = 19 ∧ x = i ∧ y = 0 then S.I 19 i 0 + 1 else if k = 23 ∧ x = i ∧ y = S.C 1 i then 0 else if k = 22 ∧ x = i ∧ y = S.C 1 i then to else if k = 21 ∧ x = i ∧ y = S.C 1 i then fr else if k = 20 ∧ x = i ∧ y = S.C 1 i then mo else S.I k x y := rfl
theorem nD_J {q b : Nat} {mo fr to : Int32} {lo hi : Int64} {k x y : Nat} : (newD S i q b mo fr to lo hi).J k x y = if k = 22 ∧ x = i ∧ y = S.C 1 i then 0 else if k = 21 ∧ x = i ∧ y = S.C 1 i then hi else if k = 20 ∧ x = i ∧ y = S.C 1 i then lo else S.J k x y := rfl
theorem nD_C {q b : Nat} {mo fr to : Int32} {lo hi : Int64} {x y : Nat} : (newD S i q b mo fr to lo hi).C x y = if x = 1 ∧ y = i then S.C 1 i + 1 else S.C x y := rfl
theorem r_newD (h : RR B S M) (hi : i < S.C 0 0) (hc : S.C 1 i < 10) (q b : Nat) (fr to : Int32) (lo hi2 : Int64) : RR B (newD S i q b (S.I 0 0 0) fr to lo hi2) (mnD M (i + 1) (S.C 1 i) fr to lo hi2) := by
  obtain ⟨b1, b2, b3, b4, b5, b6, b7, b8, b9, b10, b11, b12, b13, b14, b15⟩ := h.1
  have hC0 : (newD S i q b (S.I 0 0 0) fr to lo hi2).C 0 0 = S.C 0 0 := by rw [nD_C, if_neg (by omega)]
  have sI : ∀ k x y, k < 19 → (newD S i q b (S.I 0 0 0) fr to lo hi2).I k x y = S.I k x y := fun k x y z => by
    rw [nD_I, if_neg (by omega), if_neg (by omega), if_neg (by omega), if_neg (by omega), if_neg (by omega)]
  have sJ : ∀ k x y, k < 20 → (newD S i q b (S.I 0 0 0) fr to lo hi2).J k x y = S.J k x y := fun k x y z => by
    rw [nD_J, if_neg (by omega), if_neg (by omega), if_neg (by omega)]
  have mIs : ∀ k x, k ≠ 0 → k ≠ 12 → (k < 13 ∨ 16 ≤ k) → (mnD M (i + 1) (S.C 1 i) fr to lo hi2).I k x = M.I k x := fun k x z0 z1 z2 => by
    rw [nm_I, if_neg (by omega), if_neg (by omega), if_neg (by omega), if_neg (by omega), if_neg (by omega)]
  have mJs : ∀ k x, 19 ≤ k → (mnD M (i + 1) (S.C 1 i) fr to lo hi2).J k x = M.J k x := fun k x z => by
    rw [nm_J, if_neg (by omega), if_neg (by omega), if_neg (by omega)]
  have m12 : ∀ x, x ≠ i + 1 → (mnD M (i + 1) (S.C 1 i) fr to lo hi2).I 12 x = M.I 12 x := fun x z => by
    rw [nm_I, if_neg (by omega), if_neg (by omega), if_neg (by omega), if_neg (by omega), if_neg (by omega)]
  have mD : ∀ k x, x ≠ 10 * (i + 1) + S.C 1 i → 13 ≤ k → k < 19 → (mnD M (i + 1) (S.C 1 i) fr to lo hi2).I k x = M.I k x ∧ (mnD M (i + 1) (S.C 1 i) fr to lo hi2).J k x = M.J k x := fun k x z y w => by
    refine ⟨?_, ?_⟩
    · rw [nm_I, if_neg (by omega), if_neg (by omega), if_neg (by omega), if_neg (by omega), if_neg (by omega)]
    · rw [nm_J, if_neg (by omega), if_neg (by omega), if_neg (by omega)]
  refine ⟨?_, fun a ha => ?_, fun a h1 h2 => ?_⟩
  · unfold SR
    rw [hC0, mIs 1 _ (by decide) (by decide) (by decide), mIs 19 _ (by decide) (by decide) (by decide), mIs 20 _ (by decide) (by decide) (by decide), mIs 22 _ (by decide) (by decide) (by decide), mIs 23 _ (by decide) (by decide) (by decide), mIs 24 _ (by decide) (by decide) (by decide), mIs 25 _ (by decide) (by decide) (by decide), mIs 26 _ (by decide) (by decide) (by decide), mIs 27 _ (by decide) (by decide) (by decide), mIs 28 _ (by decide) (by decide) (by decide), mJs 21 _ (by decide), mJs 29 _ (by decide), mJs 30 _ (by decide),
      sI 0 _ _ (by decide), sI 1 _ _ (by decide), sI 2 _ _ (by decide), sI 3 _ _ (by decide), sI 4 _ _ (by decide), sI 5 _ _ (by decide), sI 7 _ _ (by decide), sI 8 _ _ (by decide), sI 9 _ _ (by decide), sJ 0 _ _ (by decide), sJ 1 _ _ (by decide), sJ 2 _ _ (by decide)]
    exact h.1
  · rw [hC0] at ha
    rw [sI 0 _ _ (by decide)]
    have hq := h.2.1 a ha
    by_cases e : a = i
    · subst e
      obtain ⟨g1, g2, g3⟩ := hq
      have c1 : (newD S a q b (S.I 0 0 0) fr to lo hi2).C 1 a = S.C 1 a + 1 := by rw [nD_C, if_pos ⟨rfl, rfl⟩]
      refine ⟨?_, fun r c hr hc => ?_, fun j hj => ?_⟩
      · obtain ⟨a1, a2, a3, a4, a5, a6, a7, a8, a9, a10, a11, a12, a13⟩ := g1
        unfold PR
        rw [c1, mIs 2 _ (by decide) (by decide) (by decide), mIs 3 _ (by decide) (by decide) (by decide), mIs 4 _ (by decide) (by decide) (by decide), mIs 5 _ (by decide) (by decide) (by decide), mIs 6 _ (by decide) (by decide) (by decide), mIs 7 _ (by decide) (by decide) (by decide), mIs 8 _ (by decide) (by decide) (by decide), mIs 9 _ (by decide) (by decide) (by decide), mIs 10 _ (by decide) (by decide) (by decide),
          sI 10 _ _ (by decide), sI 11 _ _ (by decide), sI 12 _ _ (by decide), sI 13 _ _ (by decide), sI 14 _ _ (by decide), sI 15 _ _ (by decide), sI 16 _ _ (by decide), sI 17 _ _ (by decide), sJ 10 _ _ (by decide)]
        refine ⟨a1, a2, a3, a4, a5, a6, a7, a8, a9, a10, ?_, by omega, a13⟩
        rw [nm_I, if_pos ⟨rfl, rfl⟩, a11, nI_1]
      · rw [mIs 11 _ (by decide) (by decide) (by decide), sI 18 _ _ (by decide)]
        exact g2 r c hr hc
      · rw [c1] at hj
        by_cases ej : j = S.C 1 a
        · subst ej
          refine ⟨?_, ?_, ?_, ?_, ?_, ?_, Or.inl ?_⟩
          · rw [nm_I, if_neg (by omega), if_neg (by omega), if_neg (by omega), if_pos ⟨rfl, rfl⟩, nD_I, if_neg (by omega), if_neg (by omega), if_neg (by omega), if_neg (by omega), if_pos ⟨rfl, rfl, rfl⟩]
            exact b3
          · rw [nm_I, if_neg (by omega), if_neg (by omega), if_pos ⟨rfl, rfl⟩, nD_I, if_neg (by omega), if_neg (by omega), if_neg (by omega), if_pos ⟨rfl, rfl, rfl⟩]
          · rw [nm_I, if_neg (by omega), if_pos ⟨rfl, rfl⟩, nD_I, if_neg (by omega), if_neg (by omega), if_pos ⟨rfl, rfl, rfl⟩]
          · rw [nm_J, if_neg (by omega), if_neg (by omega), if_pos ⟨rfl, rfl⟩, nD_J, if_neg (by omega), if_neg (by omega), if_pos ⟨rfl, rfl, rfl⟩]
          · rw [nm_J, if_neg (by omega), if_pos ⟨rfl, rfl⟩, nD_J, if_neg (by omega), if_pos ⟨rfl, rfl, rfl⟩]
          · have z23 : (newD S a q b (S.I 0 0 0) fr to lo hi2).I 23 a (S.C 1 a) = 0 := by rw [nD_I, if_neg (by omega), if_pos ⟨rfl, rfl, rfl⟩]
            rw [nm_J, if_pos ⟨rfl, rfl⟩, if_pos z23]
          · rw [nD_I, if_neg (by omega), if_pos ⟨rfl, rfl, rfl⟩]
        · obtain ⟨d1, d2, d3, d4, d5, d6, d7⟩ := g3 j (by omega)
          have hx : 10 * (a + 1) + j ≠ 10 * (a + 1) + S.C 1 a := by omega
          have eI : ∀ k, 20 ≤ k → (newD S a q b (S.I 0 0 0) fr to lo hi2).I k a j = S.I k a j := fun k z => by
            rw [nD_I, if_neg (by omega), if_neg (by omega), if_neg (by omega), if_neg (by omega), if_neg (by omega)]
          have eJ : ∀ k, 20 ≤ k → (newD S a q b (S.I 0 0 0) fr to lo hi2).J k a j = S.J k a j := fun k z => by
            rw [nD_J, if_neg (by omega), if_neg (by omega), if_neg (by omega)]
          unfold DR
          rw [(mD 13 _ hx (by decide) (by decide)).1, (mD 14 _ hx (by decide) (by decide)).1, (mD 15 _ hx (by decide) (by decide)).1, (mD 16 _ hx (by decide) (by decide)).2, (mD 17 _ hx (by decide) (by decide)).2, (mD 18 _ hx (by decide) (by decide)).2, eI 20 (by decide), eI 21 (by decide), eI 22 (by decide), eI 23 (by decide), eJ 20 (by decide), eJ 21 (by decide), eJ 22 (by decide)]
          exact ⟨d1, d2, d3, d4, d5, d6, d7⟩
    · refine QR_eq hq (fun k c z y => ?_) (fun k c z => ?_) ?_ (fun k z => ?_) (fun r c hr hc => mIs 11 _ (by decide) (by decide) (by decide)) (fun k j hj y z => mD k _ (by omega) y z)
      · rw [nD_I, if_neg (by omega), if_neg (by omega), if_neg (by omega), if_neg (by omega), if_neg (by omega)]
      · rw [nD_J, if_neg (by omega), if_neg (by omega), if_neg (by omega)]
      · rw [nD_C, if_neg (by omega)]
      · by_cases e12 : k = 12
        · subst e12
          exact m12 _ (by omega)
        · exact mIs k _ (by omega) e12 (by omega)
  · rw [hC0] at h1
    obtain ⟨g1, g2⟩ := h.2.2 a h1 h2
    refine ⟨?_, fun r c hr hc => ?_⟩
    · rw [mIs 5 _ (by decide) (by decide) (by decide), mIs 6 _ (by decide) (by decide) (by decide), mIs 7 _ (by decide) (by decide) (by decide), mIs 8 _ (by decide) (by decide) (by decide), mIs 9 _ (by decide) (by decide) (by decide), mIs 10 _ (by decide) (by decide) (by decide), m12 _ (by omega)]
      exact g1
    · rw [mIs 11 _ (by decide) (by decide) (by decide)]
      exact g2 r c hr hc
end PU10
section PU11
variable {B : Int} {S : cS} {M : mS}
/-- the model's new part -/
abbrev mnP (M : mS) (c0 : Nat) (a b : Int32) (sp : Int64) : mS := (((((M.sI 0 0 0).sI 0 0 0).sI 1 0 (nI (c0 + 1))).sI 2 (c0 + 1) a).sI 3 (c0 + 1) b).sI 4 (c0 + 1) sp.toInt32
theorem np_I {c0 : Nat} {a b : Int32} {sp : Int64} {k x : Nat} : (mnP M c0 a b sp).I k x = if k = 4 ∧ x = c0 + 1 then sp.toInt32 else if k = 3 ∧ x = c0 + 1 then b else if k = 2 ∧ x = c0 + 1 then a else if k = 1 ∧ x = 0 then nI (c0 + 1) else if k = 0 ∧ x = 0 then 0 else if k = 0 ∧ x = 0 then 0 else M.I k x := rfl
theorem np_J {c0 : Nat} {a b : Int32} {sp : Int64} : (mnP M c0 a b sp).J = M.J := rfl
theorem h1000 {le mx : Int32} {sp : Int64} : okP le mx sp ↔ (0 ≤ le ∧ le ≤ 1000) ∧ (le ≤ mx ∧ mx ≤ 1000) ∧ (0 ≤ sp ∧ sp ≤ 100) := by
  unfold okP
  rw [show (0 : Int64) = (0 : Int32).toInt64 from rfl, show (1000 : Int64) = (1000 : Int32).toInt64 from rfl, le64, le64, le64, le64]
theorem mpart_bad {c0 : Nat} {a b : Int32} {sp : Int64} (h : ¬ okP a b sp) : mpart M a b sp c0 = (-2, M.sI 0 0 0) := by
  unfold mpart
  by_cases g1 : a < 0
  · rw [if_pos g1]
  by_cases g2 : 1000 < a
  · rw [if_neg g1, if_pos g2]
  by_cases g3 : b < a
  · rw [if_neg g1, if_neg g2, if_pos g3]
  by_cases g4 : 1000 < b
  · rw [if_neg g1, if_neg g2, if_neg g3, if_pos g4]
  by_cases g5 : sp < 0
  · rw [if_neg g1, if_neg g2, if_neg g3, if_neg g4, if_pos g5]
  by_cases g6 : sp ≤ 100
  · exact absurd (h1000.mpr ⟨⟨le_nltI.mpr g1, le_nltI.mpr g2⟩, ⟨le_nltI.mpr g3, le_nltI.mpr g4⟩, le_nlt.mpr g5, g6⟩) h
  · rw [if_neg g1, if_neg g2, if_neg g3, if_neg g4, if_neg g5, if_neg g6]
theorem mpart_ok {c0 : Nat} {a b : Int32} {sp : Int64} (h : okP a b sp) : mpart M a b sp c0 = if M.I 1 0 = 20 then (-4, M.sI 0 0 0) else if sp = 0 then (0, (M.sI 0 0 0).sI 0 0 1) else (nI (c0 + 1), mnP M c0 a b sp) := by
  obtain ⟨⟨h1, h2⟩, ⟨h3, h4⟩, h5, h6⟩ := h1000.mp h
  unfold mpart
  rw [if_neg (le_nltI.mp h1), if_neg (le_nltI.mp h2), if_neg (le_nltI.mp h3), if_neg (le_nltI.mp h4), if_neg (le_nlt.mp h5), if_pos h6]
theorem r_newP (h : RR B S M) (hB : 0 ≤ B) (hc : S.C 0 0 < 20) (a ae al b : Nat) (le mx : Int32) (sp : Int64) (hsp : 0 ≤ sp) (hsp2 : sp ≤ 100) (hs0 : ¬ sp = 0) : RR B (newP S a ae al b le mx sp) (mnP M (S.C 0 0) le mx sp) := by
  obtain ⟨b1, b2, b3, b4, b5, b6, b7, b8, b9, b10, b11, b12, b13, b14, b15⟩ := h.1
  have hC0 := nP_C0 (S := S) (a := a) (ae := ae) (al := al) (b := b) (le := le) (mx := mx) (sp := sp)
  have sI : ∀ k x y, k < 10 → k ≠ 6 → (newP S a ae al b le mx sp).I k x y = S.I k x y := fun k x y z w => nP_Iw z w
  have sJ : ∀ k x y, k ≠ 10 → (newP S a ae al b le mx sp).J k x y = S.J k x y := fun k x y z => nP_J (Or.inl z)
  have mI : ∀ k x, 4 < k → (mnP M (S.C 0 0) le mx sp).I k x = M.I k x := fun k x z => by
    rw [np_I, if_neg (by omega), if_neg (by omega), if_neg (by omega), if_neg (by omega), if_neg (by omega), if_neg (by omega)]
  have mN : ∀ k x, 2 ≤ k → x ≠ S.C 0 0 + 1 → (mnP M (S.C 0 0) le mx sp).I k x = M.I k x := fun k x z y => by
    rw [np_I, if_neg (by omega), if_neg (by omega), if_neg (by omega), if_neg (by omega), if_neg (by omega), if_neg (by omega)]
  refine ⟨?_, fun c hcc => ?_, fun c h1 h2 => ?_⟩
  · unfold SR
    rw [hC0, np_J, mI 19 _ (by decide), mI 20 _ (by decide), mI 22 _ (by decide), mI 23 _ (by decide), mI 24 _ (by decide), mI 25 _ (by decide), mI 26 _ (by decide), mI 27 _ (by decide), mI 28 _ (by decide),
      sI 0 _ _ (by decide) (by decide), sI 1 _ _ (by decide) (by decide), sI 2 _ _ (by decide) (by decide), sI 3 _ _ (by decide) (by decide), sI 4 _ _ (by decide) (by decide), sI 5 _ _ (by decide) (by decide), sI 7 _ _ (by decide) (by decide), sI 8 _ _ (by decide) (by decide), sI 9 _ _ (by decide) (by decide), sJ 0 _ _ (by decide), sJ 1 _ _ (by decide), sJ 2 _ _ (by decide)]
    refine ⟨?_, by omega, b3, b4, b5, b6, b7, b8, b9, b10, b11, b12, b13, b14, b15⟩
    rw [np_I, if_neg (by omega), if_neg (by omega), if_neg (by omega), if_pos ⟨rfl, rfl⟩]
  · rw [hC0] at hcc
    rw [sI 0 _ _ (by decide) (by decide)]
    by_cases e : c = S.C 0 0
    · subst e
      obtain ⟨⟨z5, z6, z7, z8, z9, z10, z12⟩, zE⟩ := h.2.2 (S.C 0 0) (Nat.le_refl _) hc
      have hC1 := nP_C1 (S := S) (a := a) (ae := ae) (al := al) (b := b) (le := le) (mx := mx) (sp := sp)
      have zI : ∀ k y, 12 ≤ k → k ≤ 19 → (newP S a ae al b le mx sp).I k (S.C 0 0) y = 0 := fun k y z w => by
        show (if k = 6 ∧ _ ∧ y = 0 then _ else if k = 11 ∧ _ ∧ y = 0 then _ else if k = 10 ∧ _ ∧ y = 0 then _ else if 10 ≤ k ∧ k ≤ 19 ∧ S.C 0 0 = S.C 0 0 then (0 : Int32) else S.I k (S.C 0 0) y) = 0
        rw [if_neg (by omega), if_neg (by omega), if_neg (by omega), if_pos (by omega)]
      have spT : sp.toInt32.toInt64 = sp := by
        apply Int64.toInt_inj.mp
        have p := Int64.le_iff_toInt_le.mp hsp
        have p2 := Int64.le_iff_toInt_le.mp hsp2
        have q : (0 : Int64).toInt = 0 := rfl
        have q2 : (100 : Int64).toInt = 100 := rfl
        rw [Jvm.Kit.i64_of_i32, Jvm.Kit.i32_of_i64 (by omega) (by omega)]
      refine ⟨?_, fun r x hr hx => ?_, fun j hj => ?_⟩
      · unfold PR
        rw [hC1, mI 5 _ (by decide), mI 6 _ (by decide), mI 7 _ (by decide), mI 8 _ (by decide), mI 9 _ (by decide), mI 10 _ (by decide), mI 12 _ (by decide), z5, z6, z7, z8, z9, z10, z12, zI 12 _ (by decide) (by decide), zI 13 _ (by decide) (by decide), zI 14 _ (by decide) (by decide), zI 15 _ (by decide) (by decide), zI 16 _ (by decide) (by decide), zI 17 _ (by decide) (by decide)]
        refine ⟨?_, ?_, ?_, ?_, rfl, rfl, rfl, rfl, rfl, rfl, rfl, by omega, Or.inl rfl, fun z => absurd z (by decide), by decide, hB, Or.inl rfl, by decide, by decide⟩
        · rw [np_I, if_neg (by omega), if_neg (by omega), if_pos ⟨rfl, rfl⟩]
          show le = up3 (up3 (up3 (fun k i j => if 10 ≤ k ∧ k ≤ 19 ∧ i = S.C 0 0 then 0 else S.I k i j) 10 (S.C 0 0) 0 le) 11 (S.C 0 0) 0 mx) 6 0 0 (S.I 6 0 0 + 1) 10 (S.C 0 0) 0
          rw [up3_k _ _ (by decide), up3_k _ _ (by decide), up3_s]
        · rw [np_I, if_neg (by omega), if_pos ⟨rfl, rfl⟩]
          show mx = up3 (up3 (up3 (fun k i j => if 10 ≤ k ∧ k ≤ 19 ∧ i = S.C 0 0 then 0 else S.I k i j) 10 (S.C 0 0) 0 le) 11 (S.C 0 0) 0 mx) 6 0 0 (S.I 6 0 0 + 1) 11 (S.C 0 0) 0
          rw [up3_k _ _ (by decide), up3_s]
        · rw [np_I, if_pos ⟨rfl, rfl⟩, spT]
          show sp = (if 10 = 10 ∧ S.C 0 0 = S.C 0 0 ∧ 0 = 0 then sp else _)
          rw [if_pos ⟨rfl, rfl, rfl⟩]
        · rw [np_I, if_pos ⟨rfl, rfl⟩]
          apply Int32.lt_iff_toInt_lt.mpr
          have e1 : sp.toInt32.toInt = sp.toInt := by rw [← Jvm.Kit.i64_of_i32, spT]
          have p := Int64.le_iff_toInt_le.mp hsp
          have q : (0 : Int64).toInt = 0 := rfl
          have q2 : (0 : Int32).toInt = 0 := rfl
          have n0 : sp.toInt ≠ 0 := fun z => hs0 (Int64.toInt_inj.mp (z.trans q.symm))
          omega
      · rw [mI 11 _ (by decide), zE r x hr hx, zI 18 _ (by decide) (by decide)]
        simp
      · rw [hC1] at hj
        omega
    · refine QR_eq (h.2.1 c (by omega)) (fun k y z w => nP_I e (by omega)) (fun k y z => nP_J (Or.inr e)) (nP_Ci e) (fun k z => mN k _ (by omega) (by omega)) (fun r x hr hx => mI 11 _ (by decide)) (fun k j hj y z => ⟨mI k _ (by omega), rfl⟩)
  · rw [hC0] at h1
    obtain ⟨g1, g2⟩ := h.2.2 c (by omega) h2
    refine ⟨?_, fun r x hr hx => ?_⟩
    · rw [mI 5 _ (by decide), mI 6 _ (by decide), mI 7 _ (by decide), mI 8 _ (by decide), mI 9 _ (by decide), mI 10 _ (by decide), mI 12 _ (by decide)]
      exact g1
    · rw [mI 11 _ (by decide)]
      exact g2 r x hr hx
end PU11
