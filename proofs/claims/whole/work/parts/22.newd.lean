/-! A NEW DEADLINE -/
def newD (S : cS) (i q b : Nat) (mo fr to : Int32) (lo hi : Int64) : cS :=
  ((((((((((S.sA 8 i (S.C 1 i) q).sA 7 i 0 b).sI 20 i (S.C 1 i) mo).sI 21 i (S.C 1 i) fr).sI 22 i (S.C 1 i) to).sJ 20 i (S.C 1 i) lo).sJ 21 i (S.C 1 i) hi).sI 23 i (S.C 1 i) 0).sJ 22 i (S.C 1 i) 0).sI 19 i 0 (S.I 19 i 0 + 1)).sC 1 i (S.C 1 i + 1)
theorem up2_s {α : Type} (f : Nat → Nat → α) (k i : Nat) (v : α) : up2 f k i v k i = v := if_pos ⟨rfl, rfl⟩
theorem up2_i {α : Type} (f : Nat → Nat → α) {k i a b : Nat} (v : α) (h : b ≠ i) : up2 f k i v a b = f a b := if_neg (fun z => h z.2)
theorem wS_ext {G : Nat → Nat} {S S' : cS} {ω : hm_T} {n : hm_N} (hd : domS S'.C n ↔ domS S.C n) (ha : domS S.C n → S'.ad n.1 n.2.1 n.2.2 = S.ad n.1 n.2.1 n.2.2) (hc : domS S.C n → cellS G S' n = cellS G S n) : wS G S' ω n = wS G S ω n := by
  by_cases h : domS S.C n
  · rw [wS_in h, wS_in (hd.mpr h), ha h, hc h]
  · rw [wS_out h, wS_out (fun z => h (hd.mp z))]
theorem wS_big {G : Nat → Nat} {S : cS} {ω : hm_T} {n : hm_N} (h : 9 ≤ n.1) : wS G S ω n = ω n := by
  rw [wS_out (fun z => by have := domS_le z; omega), if_neg (by omega)]
theorem wD_eq {G : Nat → Nat} {S : cS} {ω : hm_T} {i q b : Nat} {mo fr to : Int32} {lo hi : Int64} {f : Nat → Option Nat} (hi0 : i < S.C 0 0) (hf : f = rfs (S.C 1 i + 1) (up3 S.ad 8 i (S.C 1 i) q 8 i)) :
    hm_up (hm_up (hm_up (wS G S ω) (8, i, S.C 1 i) (q, .inr (2, [.int mo, .int fr, .int to, .long lo, .long hi, .int 0, .long 0]))) (7, i, 0) (b, .inl (G 4, 10, .inr (.inr (.inr (.inr f)))))) (6, i, 0) (S.ad 6 i 0, .inr (4, [.ref b, .int (nI (S.C 1 i + 1)), .int (S.I 19 i 0 + 1)])) = wS G (newD S i q b mo fr to lo hi) ω := by
  have hC : (newD S i q b mo fr to lo hi).C = up2 S.C 1 i (S.C 1 i + 1) := rfl
  have hC0 : (newD S i q b mo fr to lo hi).C 0 0 = S.C 0 0 := rfl
  have hC1 : (newD S i q b mo fr to lo hi).C 1 i = S.C 1 i + 1 := up2_s _ _ _ _
  have hA7 : (newD S i q b mo fr to lo hi).ad 7 i 0 = b := up3_s _ _ _ _ _
  have hA8 : (newD S i q b mo fr to lo hi).ad 8 i = up3 S.ad 8 i (S.C 1 i) q 8 i := rfl
  have h19 : (newD S i q b mo fr to lo hi).I 19 i 0 = S.I 19 i 0 + 1 := up3_s _ _ _ _ _
  generalize hS' : newD S i q b mo fr to lo hi = S' at hC hC0 hC1 hA7 hA8 h19 ⊢
  funext n
  by_cases h6 : n = (6, i, 0)
  · subst h6
    rw [hm_up_s, w6 (S := S') (by rw [hC0]; exact hi0), hC1, hA7, h19, ← hS']
    simp [fA]
    rfl
  rw [hm_up_n _ _ h6]
  by_cases h7 : n = (7, i, 0)
  · subst h7
    rw [hm_up_s, w7 (S := S') (by rw [hC0]; exact hi0) (by rw [hC1]; omega), hC1, hA7, hA8, hf]
  rw [hm_up_n _ _ h7]
  by_cases h8 : n = (8, i, S.C 1 i)
  · subst h8
    rw [hm_up_s, w8 (S := S') (by rw [hC0]; exact hi0) (by rw [hC1]; omega), ← hS']
    simp [fD, newD, cS.sI, cS.sJ, cS.sA, cS.sC, cS.I, cS.J, cS.ad, up3]
  rw [hm_up_n _ _ h8]
  obtain ⟨x, y, z⟩ := n
  symm
  by_cases hx : 9 ≤ x
  · rw [wS_big (by exact hx), wS_big (by exact hx)]
  by_cases hy : y = i
  · subst hy
    refine wS_ext ?_ ?_ ?_
    · unfold domS
      simp only [hC0]
      constructor
      · rintro (h | ⟨h1, ⟨h2, h3 | h3 | h3 | ⟨h3, h4⟩⟩ | ⟨h2, h3⟩⟩)
        · refine Or.inl ⟨h.1, ?_⟩
          rcases h.2 with h | h | h | ⟨h, h'⟩
          · exact Or.inl h
          · exact Or.inr (Or.inl h)
          · exact Or.inr (Or.inr (Or.inl h))
          · exact Or.inr (Or.inr (Or.inr ⟨h, by first | exact h' | (rw [← hC0]; exact h')⟩))
        · exact Or.inr ⟨h1, Or.inl ⟨h2, Or.inl h3⟩⟩
        · exact Or.inr ⟨h1, Or.inl ⟨h2, Or.inr (Or.inl h3)⟩⟩
        · exact Or.inr ⟨h1, Or.inl ⟨h2, Or.inr (Or.inr (Or.inl h3))⟩⟩
        · exact absurd (by rw [h3, h2]) h7
        · refine Or.inr ⟨h1, Or.inr ⟨h2, ?_⟩⟩
          have h3 : z < S'.C 1 y := h3
          rw [hC1] at h3
          have hz : z ≠ S.C 1 y := fun e => h8 (by rw [e]; exact congrArg (fun t => (t, y, S.C 1 y)) h2)
          show z < S.C 1 y
          omega
      · rintro (h | ⟨h1, ⟨h2, h3 | h3 | h3 | ⟨h3, h4⟩⟩ | ⟨h2, h3⟩⟩)
        · refine Or.inl ⟨h.1, ?_⟩
          rcases h.2 with h | h | h | ⟨h, h'⟩
          · exact Or.inl h
          · exact Or.inr (Or.inl h)
          · exact Or.inr (Or.inr (Or.inl h))
          · exact Or.inr (Or.inr (Or.inr ⟨h, by first | exact h' | (rw [hC0]; exact h')⟩))
        · exact Or.inr ⟨h1, Or.inl ⟨h2, Or.inl h3⟩⟩
        · exact Or.inr ⟨h1, Or.inl ⟨h2, Or.inr (Or.inl h3)⟩⟩
        · exact Or.inr ⟨h1, Or.inl ⟨h2, Or.inr (Or.inr (Or.inl h3))⟩⟩
        · exact absurd (by rw [h3, h2]) h7
        · refine Or.inr ⟨h1, Or.inr ⟨h2, ?_⟩⟩
          have h3 : z < S.C 1 y := h3
          show z < S'.C 1 y
          rw [hC1]
          omega
    · intro hd
      rw [← hS']
      match x, hx, h6, h7, h8, hd with
      | 0, _, _, _, _, _ => rfl
      | 1, _, _, _, _, _ => rfl
      | 2, _, _, _, _, _ => rfl
      | 3, _, _, _, _, _ => rfl
      | 4, _, _, _, _, _ => rfl
      | 5, _, _, _, _, _ => rfl
      | 6, _, _, _, _, _ => rfl
      | 7, _, _, h7, _, hd => exact absurd (by rw [dom4 hd (by omega) (by omega)]) h7
      | 8, _, _, _, h8, _ =>
        have hz : z ≠ S.C 1 y := fun e => h8 (by rw [e])
        exact up3_j _ q hz
      | x + 9, hx, _, _, _, _ => omega
    · intro hd
      rw [← hS']
      match x, hx, h6, h7, h8, hd with
      | 0, _, _, _, _, _ => rfl
      | 1, _, _, _, _, _ => rfl
      | 2, _, _, _, _, _ => rfl
      | 3, _, _, _, _, _ => rfl
      | 4, _, _, _, _, _ => rfl
      | 5, _, _, _, _, _ => rfl
      | 6, _, h6, _, _, hd => exact absurd (by rw [dom4 hd (by omega) (by omega)]) h6
      | 7, _, _, h7, _, hd => exact absurd (by rw [dom4 hd (by omega) (by omega)]) h7
      | 8, _, _, _, h8, _ =>
        have hz : z ≠ S.C 1 y := fun e => h8 (by rw [e])
        show Sum.inr (2, fD (newD S y q b mo fr to lo hi) y z) = Sum.inr (2, fD S y z)
        simp [fD, newD, cS.sI, cS.sJ, cS.sA, cS.sC, cS.I, cS.J, cS.ad, up3, hz]
      | x + 9, hx, _, _, _, _ => omega
  · have hCy : S'.C 1 y = S.C 1 y := by rw [hC]; exact up2_i _ _ hy
    have hAd : ∀ x z, (newD S i q b mo fr to lo hi).ad x y z = S.ad x y z := fun x z => by
      show up3 (up3 S.ad 8 i (S.C 1 i) q) 7 i 0 b x y z = S.ad x y z
      rw [up3_i _ b hy, up3_i _ q hy]
    refine wS_ext ?_ ?_ ?_
    · unfold domS
      simp only [hC0, hCy]
    · intro _
      rw [← hS']
      exact hAd _ _
    · intro hd
      rw [← hS'] at hCy ⊢
      match x, hx, hd with
      | 0, _, _ => rfl
      | 1, _, _ => rfl
      | 2, _, _ => rfl
      | 3, _, _ => rfl
      | 4, _, _ => rfl
      | 5, _, _ => rfl
      | 6, _, _ =>
        show Sum.inr (4, fA G ((newD S i q b mo fr to lo hi).C 1 y) ((newD S i q b mo fr to lo hi).ad 7 y 0) ((newD S i q b mo fr to lo hi).I 19 y 0)) = Sum.inr (4, fA G (S.C 1 y) (S.ad 7 y 0) (S.I 19 y 0))
        rw [hCy, hAd 7 0, show (newD S i q b mo fr to lo hi).I 19 y 0 = S.I 19 y 0 from up3_i _ _ hy]
      | 7, _, _ =>
        show Sum.inl (G 4, 10, Sum.inr (Sum.inr (Sum.inr (Sum.inr (rfs ((newD S i q b mo fr to lo hi).C 1 y) ((newD S i q b mo fr to lo hi).ad 8 y)))))) = _
        rw [hCy, show (newD S i q b mo fr to lo hi).ad 8 y = S.ad 8 y from funext (fun k => hAd 8 k)]
        rfl
      | 8, _, _ =>
        show Sum.inr (2, fD (newD S i q b mo fr to lo hi) y z) = Sum.inr (2, fD S y z)
        simp [fD, newD, cS.sI, cS.sJ, cS.sA, cS.sC, cS.I, cS.J, cS.ad, up3, hy]
      | x + 9, hx, _ => omega
