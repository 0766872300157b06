/-! A NEW PART -/
def newP (S : cS) (a ae al b : Nat) (le mx : Int32) (sp : Int64) : cS :=
  (up3 (up3 (up3 (up3 S.ad 4 (S.C 0 0) 0 a) 5 (S.C 0 0) 0 ae) 6 (S.C 0 0) 0 al) 2 0 0 b,
   up3 (up3 (up3 (fun k i j => if 10 ≤ k ∧ k ≤ 19 ∧ i = S.C 0 0 then 0 else S.I k i j) 10 (S.C 0 0) 0 le) 11 (S.C 0 0) 0 mx) 6 0 0 (S.I 6 0 0 + 1),
   up3 S.J 10 (S.C 0 0) 0 sp, up2 (up2 S.C 1 (S.C 0 0) 0) 0 0 (S.C 0 0 + 1))
section NP
variable {G : Nat → Nat} {S : cS} {ω : hm_T} {a ae al b : Nat} {le mx : Int32} {sp : Int64}
theorem nP_C0 : (newP S a ae al b le mx sp).C 0 0 = S.C 0 0 + 1 := by
  show up2 (up2 S.C 1 (S.C 0 0) 0) 0 0 (S.C 0 0 + 1) 0 0 = S.C 0 0 + 1
  exact up2_s _ _ _ _
theorem nP_C1 : (newP S a ae al b le mx sp).C 1 (S.C 0 0) = 0 := by
  show up2 (up2 S.C 1 (S.C 0 0) 0) 0 0 (S.C 0 0 + 1) 1 (S.C 0 0) = 0
  simp [up2]
theorem nP_Ci {i : Nat} (h : i ≠ S.C 0 0) : (newP S a ae al b le mx sp).C 1 i = S.C 1 i := by
  show up2 (up2 S.C 1 (S.C 0 0) 0) 0 0 (S.C 0 0 + 1) 1 i = S.C 1 i
  simp [up2, h]
theorem nP_I {k i j : Nat} (h : i ≠ S.C 0 0) (h6 : k ≠ 6) : (newP S a ae al b le mx sp).I k i j = S.I k i j := by
  show up3 (up3 (up3 (fun k i j => if 10 ≤ k ∧ k ≤ 19 ∧ i = S.C 0 0 then 0 else S.I k i j) 10 (S.C 0 0) 0 le) 11 (S.C 0 0) 0 mx) 6 0 0 (S.I 6 0 0 + 1) k i j = S.I k i j
  simp [up3, h, h6]
theorem nP_Iw {k i j : Nat} (h : k < 10) (h6 : k ≠ 6) : (newP S a ae al b le mx sp).I k i j = S.I k i j := by
  show up3 (up3 (up3 (fun k i j => if 10 ≤ k ∧ k ≤ 19 ∧ i = S.C 0 0 then 0 else S.I k i j) 10 (S.C 0 0) 0 le) 11 (S.C 0 0) 0 mx) 6 0 0 (S.I 6 0 0 + 1) k i j = S.I k i j
  have h1 : ¬ 10 ≤ k := by omega
  have h2 : k ≠ 10 := by omega
  have h3 : k ≠ 11 := by omega
  simp [up3, h1, h2, h3, h6]
theorem nP_J {k i j : Nat} (h : k ≠ 10 ∨ i ≠ S.C 0 0) : (newP S a ae al b le mx sp).J k i j = S.J k i j := by
  show up3 S.J 10 (S.C 0 0) 0 sp k i j = S.J k i j
  rcases h with h | h
  · exact up3_k _ _ h
  · exact up3_i _ _ h
theorem nP_A {k i j : Nat} (h2 : k ≠ 2) (h : k < 4 ∨ 6 < k ∨ i ≠ S.C 0 0) : (newP S a ae al b le mx sp).ad k i j = S.ad k i j := by
  show up3 (up3 (up3 (up3 S.ad 4 (S.C 0 0) 0 a) 5 (S.C 0 0) 0 ae) 6 (S.C 0 0) 0 al) 2 0 0 b k i j = S.ad k i j
  rcases h with h | h | h
  · rw [up3_k _ _ h2, up3_k _ _ (by omega), up3_k _ _ (by omega), up3_k _ _ (by omega)]
  · rw [up3_k _ _ h2, up3_k _ _ (by omega), up3_k _ _ (by omega), up3_k _ _ (by omega)]
  · rw [up3_k _ _ h2, up3_i _ _ h, up3_i _ _ h, up3_i _ _ h]
theorem nP_dom {x y z : Nat} (h2 : (x, y, z) ≠ (2, 0, 0)) (h4 : (x, y, z) ≠ (4, S.C 0 0, 0)) (h5 : (x, y, z) ≠ (5, S.C 0 0, 0)) (h6 : (x, y, z) ≠ (6, S.C 0 0, 0)) : domS (newP S a ae al b le mx sp).C (x, y, z) ↔ domS S.C (x, y, z) := by
  unfold domS
  simp only [nP_C0]
  constructor
  · rintro (⟨h, h0⟩ | ⟨h, h0⟩)
    · refine Or.inl ⟨h, ?_⟩
      rcases h0 with h0 | h0 | h0 | ⟨h0, -⟩
      · exact Or.inl h0
      · exact Or.inr (Or.inl h0)
      · exact Or.inr (Or.inr (Or.inl h0))
      · exact absurd (by rw [h0, h]) h2
    · by_cases hy : y = S.C 0 0
      · exfalso
        rcases h0 with ⟨hz, h0 | h0 | h0 | ⟨h0, h1⟩⟩ | ⟨-, h1⟩
        · exact h4 (by rw [h0, hy, hz])
        · exact h5 (by rw [h0, hy, hz])
        · exact h6 (by rw [h0, hy, hz])
        · rw [hy] at h1
          exact h1 nP_C1
        · have h1 : z < (newP S a ae al b le mx sp).C 1 y := h1
          rw [hy, nP_C1] at h1
          omega
      · rw [nP_Ci hy] at h0
        exact Or.inr ⟨by omega, h0⟩
  · rintro (⟨h, h0⟩ | ⟨h, h0⟩)
    · refine Or.inl ⟨h, ?_⟩
      rcases h0 with h0 | h0 | h0 | ⟨h0, -⟩
      · exact Or.inl h0
      · exact Or.inr (Or.inl h0)
      · exact Or.inr (Or.inr (Or.inl h0))
      · exact absurd (by rw [h0, h]) h2
    · have hy : y ≠ S.C 0 0 := by omega
      rw [nP_Ci hy]
      exact Or.inr ⟨by omega, h0⟩
theorem wP_eq {f : Nat → Option Nat} (hf : f = rfs (S.C 0 0 + 1) (fun j => if j = S.C 0 0 then a else S.ad 4 j 0)) :
    hm_up (hm_up (hm_up (hm_up (hm_up (wS G S ω) (5, S.C 0 0, 0) (ae, .inl (G 1, 124, .inl (fun _ => 0)))) (6, S.C 0 0, 0) (al, .inr (4, [.ref (G 0), .int 0, .int 0]))) (4, S.C 0 0, 0) (a, .inr (1, [.int le, .int mx, .long sp, .ref ae, .ref al, .int 0, .int 0, .int 0, .int 0, .int 0, .int 0])))
      (2, 0, 0) (b, .inl (G 4, cap (S.C 0 0 + 1), .inr (.inr (.inr (.inr f)))))) (1, 0, 0) (S.ad 1 0 0, .inr (4, [.ref b, .int (nI (S.C 0 0 + 1)), .int (S.I 6 0 0 + 1)])) = wS G (newP S a ae al b le mx sp) ω := by
  funext n
  by_cases h1 : n = (1, 0, 0)
  · subst h1
    rw [hm_up_s, w1, nP_C0]
    simp [fA, newP, cS.ad, cS.I, up3]
  rw [hm_up_n _ _ h1]
  by_cases h2 : n = (2, 0, 0)
  · subst h2
    rw [hm_up_s, w2 (by rw [nP_C0]; omega), nP_C0, hf]
    have e1 : (newP S a ae al b le mx sp).ad 2 0 0 = b := by simp [newP, cS.ad, up3]
    have e2 : (fun j => (newP S a ae al b le mx sp).ad 4 j 0) = fun j => if j = S.C 0 0 then a else S.ad 4 j 0 := by
      funext j
      show up3 (up3 (up3 (up3 S.ad 4 (S.C 0 0) 0 a) 5 (S.C 0 0) 0 ae) 6 (S.C 0 0) 0 al) 2 0 0 b 4 j 0 = _
      simp [up3]
    rw [e1, e2]
  rw [hm_up_n _ _ h2]
  by_cases h4 : n = (4, S.C 0 0, 0)
  · subst h4
    rw [hm_up_s, w4 (by rw [nP_C0]; omega)]
    simp [fP, newP, cS.ad, cS.I, cS.J, up3]
  rw [hm_up_n _ _ h4]
  by_cases h6 : n = (6, S.C 0 0, 0)
  · subst h6
    rw [hm_up_s, w6 (by rw [nP_C0]; omega), nP_C1]
    simp [fA, newP, cS.ad, cS.I, up3, nI_0]
  rw [hm_up_n _ _ h6]
  by_cases h5 : n = (5, S.C 0 0, 0)
  · subst h5
    rw [hm_up_s, w5 (by rw [nP_C0]; omega)]
    have e1 : (newP S a ae al b le mx sp).ad 5 (S.C 0 0) 0 = ae := by simp [newP, cS.ad, up3]
    have e2 : (newP S a ae al b le mx sp).I 18 (S.C 0 0) = fun _ => 0 := by
      funext j
      simp [newP, cS.I, up3]
    rw [e1, e2]
  rw [hm_up_n _ _ h5]
  obtain ⟨x, y, z⟩ := n
  symm
  by_cases hx : 9 ≤ x
  · rw [wS_big (by exact hx), wS_big (by exact hx)]
  have hyN : domS S.C (x, y, z) → x = 4 ∨ x = 5 ∨ x = 6 ∨ x = 7 ∨ x = 8 → y ≠ S.C 0 0 := by
    intro hd hx'
    rcases hd with ⟨-, h⟩ | ⟨h, -⟩
    · simp only at h
      omega
    · have h : y < S.C 0 0 := h
      omega
  refine wS_ext (nP_dom h2 h4 h5 h6) (fun hd => ?_) (fun hd => ?_)
  · match x, hx, h2, hd, hyN with
    | 0, _, _, _, _ => exact nP_A (by omega) (Or.inl (by omega))
    | 1, _, _, _, _ => exact nP_A (by omega) (Or.inl (by omega))
    | 2, _, h2, hd, _ => exact absurd (by obtain ⟨q1, q2⟩ := dom1 hd (by omega); rw [q1, q2]) h2
    | 3, _, _, _, _ => exact nP_A (by omega) (Or.inl (by omega))
    | 4, _, _, hd, hyN => exact nP_A (by omega) (Or.inr (Or.inr (hyN hd (by omega))))
    | 5, _, _, hd, hyN => exact nP_A (by omega) (Or.inr (Or.inr (hyN hd (by omega))))
    | 6, _, _, hd, hyN => exact nP_A (by omega) (Or.inr (Or.inr (hyN hd (by omega))))
    | 7, _, _, hd, hyN => exact nP_A (by omega) (Or.inr (Or.inr (hyN hd (by omega))))
    | 8, _, _, hd, hyN => exact nP_A (by omega) (Or.inr (Or.inr (hyN hd (by omega))))
    | x + 9, hx, _, _, _ => omega
  · match x, hx, h1, h2, hd, hyN with
    | 0, _, _, _, _, _ =>
      show Sum.inr (0, fW (newP S a ae al b le mx sp)) = Sum.inr (0, fW S)
      unfold fW
      rw [nP_A (by omega) (Or.inl (by omega)), nP_A (by omega) (Or.inl (by omega)), nP_Iw (by omega) (by omega), nP_Iw (by omega) (by omega), nP_Iw (by omega) (by omega), nP_Iw (by omega) (by omega), nP_Iw (by omega) (by omega), nP_Iw (by omega) (by omega), nP_J (Or.inl (by omega)), nP_J (Or.inl (by omega))]
    | 1, _, h1, _, hd, _ => exact absurd (by obtain ⟨q1, q2⟩ := dom1 hd (by omega); rw [q1, q2]) h1
    | 2, _, _, h2, hd, _ => exact absurd (by obtain ⟨q1, q2⟩ := dom1 hd (by omega); rw [q1, q2]) h2
    | 3, _, _, _, _, _ =>
      show Sum.inr (3, fQ (newP S a ae al b le mx sp)) = Sum.inr (3, fQ S)
      unfold fQ
      rw [nP_Iw (by omega) (by omega), nP_Iw (by omega) (by omega), nP_Iw (by omega) (by omega), nP_J (Or.inl (by omega))]
    | 4, _, _, _, hd, hyN =>
      have hy := hyN hd (by omega)
      show Sum.inr (1, fP (newP S a ae al b le mx sp) y) = Sum.inr (1, fP S y)
      unfold fP
      rw [nP_I hy (by omega), nP_I hy (by omega), nP_I hy (by omega), nP_I hy (by omega), nP_I hy (by omega), nP_I hy (by omega), nP_I hy (by omega), nP_I hy (by omega), nP_J (Or.inr hy), nP_A (by omega) (Or.inr (Or.inr hy)), nP_A (by omega) (Or.inr (Or.inr hy))]
    | 5, _, _, _, hd, hyN =>
      have hy := hyN hd (by omega)
      show Sum.inl (G 1, 124, Sum.inl ((newP S a ae al b le mx sp).I 18 y)) = Sum.inl (G 1, 124, Sum.inl (S.I 18 y))
      rw [show (newP S a ae al b le mx sp).I 18 y = S.I 18 y from funext (fun j => nP_I hy (by omega))]
    | 6, _, _, _, hd, hyN =>
      have hy := hyN hd (by omega)
      show Sum.inr (4, fA G ((newP S a ae al b le mx sp).C 1 y) ((newP S a ae al b le mx sp).ad 7 y 0) ((newP S a ae al b le mx sp).I 19 y 0)) = Sum.inr (4, fA G (S.C 1 y) (S.ad 7 y 0) (S.I 19 y 0))
      rw [nP_Ci hy, nP_A (by omega) (Or.inr (Or.inr hy)), nP_I hy (by omega)]
    | 7, _, _, _, hd, hyN =>
      have hy := hyN hd (by omega)
      show Sum.inl (G 4, 10, Sum.inr (Sum.inr (Sum.inr (Sum.inr (rfs ((newP S a ae al b le mx sp).C 1 y) ((newP S a ae al b le mx sp).ad 8 y)))))) = _
      rw [nP_Ci hy, show (newP S a ae al b le mx sp).ad 8 y = S.ad 8 y from funext (fun k => nP_A (by omega) (Or.inr (Or.inr hy)))]
      rfl
    | 8, _, _, _, hd, hyN =>
      have hy := hyN hd (by omega)
      show Sum.inr (2, fD (newP S a ae al b le mx sp) y z) = Sum.inr (2, fD S y z)
      unfold fD
      rw [nP_I hy (by omega), nP_I hy (by omega), nP_I hy (by omega), nP_I hy (by omega), nP_J (Or.inr hy), nP_J (Or.inr hy), nP_J (Or.inr hy)]
    | x + 9, hx, _, _, _, _ => omega
end NP
