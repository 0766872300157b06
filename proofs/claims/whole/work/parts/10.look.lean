section ST1
variable {G : Nat → Nat} {S S' : cS} {ω : hm_T}
theorem wS_in {n : hm_N} (h : domS S.C n) : wS G S ω n = some (S.ad n.1 n.2.1 n.2.2, cellS G S n) := if_pos h
theorem wS_out {n : hm_N} (h : ¬ domS S.C n) : wS G S ω n = if n.1 ≤ 8 then none else ω n := if_neg h
theorem domS_le {C : Nat → Nat → Nat} {n : hm_N} (h : domS C n) : n.1 ≤ 8 := by
  rcases h with ⟨-, h | h | h | ⟨h, -⟩⟩ | ⟨-, ⟨-, h | h | h | ⟨h, -⟩⟩ | ⟨h, -⟩⟩ <;> omega
theorem wS_put {n0 : hm_N} {e : va_E} (hd : domS S.C n0) (hC : S'.C = S.C) (hA : S'.ad = S.ad) (hc : ∀ n, n ≠ n0 → domS S.C n → cellS G S' n = cellS G S n) (he : cellS G S' n0 = e) : hm_up (wS G S ω) n0 (S.ad n0.1 n0.2.1 n0.2.2, e) = wS G S' ω := by
  funext n
  by_cases h : n = n0
  · subst h
    rw [hm_up_s, wS_in (S := S') (by rw [hC]; exact hd), hA, he]
  · rw [hm_up_n _ _ h]
    by_cases hn : domS S.C n
    · rw [wS_in hn, wS_in (S := S') (by rw [hC]; exact hn), hA, hc n h hn]
    · rw [wS_out hn, wS_out (S := S') (by rw [hC]; exact hn)]
theorem w0 : wS G S ω (0, 0, 0) = some (S.ad 0 0 0, .inr (0, fW S)) := wS_in (Or.inl ⟨rfl, Or.inl rfl⟩)
theorem w1 : wS G S ω (1, 0, 0) = some (S.ad 1 0 0, .inr (4, fA G (S.C 0 0) (S.ad 2 0 0) (S.I 6 0 0))) := wS_in (Or.inl ⟨rfl, Or.inr (Or.inl rfl)⟩)
theorem w2 (h : S.C 0 0 ≠ 0) : wS G S ω (2, 0, 0) = some (S.ad 2 0 0, .inl (G 4, cap (S.C 0 0), .inr (.inr (.inr (.inr (rfs (S.C 0 0) (fun j => S.ad 4 j 0))))))) := wS_in (Or.inl ⟨rfl, Or.inr (Or.inr (Or.inr ⟨rfl, h⟩))⟩)
theorem w3 : wS G S ω (3, 0, 0) = some (S.ad 3 0 0, .inr (3, fQ S)) := wS_in (Or.inl ⟨rfl, Or.inr (Or.inr (Or.inl rfl))⟩)
theorem w4 {i : Nat} (h : i < S.C 0 0) : wS G S ω (4, i, 0) = some (S.ad 4 i 0, .inr (1, fP S i)) := wS_in (Or.inr ⟨h, Or.inl ⟨rfl, Or.inl rfl⟩⟩)
theorem w5 {i : Nat} (h : i < S.C 0 0) : wS G S ω (5, i, 0) = some (S.ad 5 i 0, .inl (G 1, 124, .inl (S.I 18 i))) := wS_in (Or.inr ⟨h, Or.inl ⟨rfl, Or.inr (Or.inl rfl)⟩⟩)
theorem w6 {i : Nat} (h : i < S.C 0 0) : wS G S ω (6, i, 0) = some (S.ad 6 i 0, .inr (4, fA G (S.C 1 i) (S.ad 7 i 0) (S.I 19 i 0))) := wS_in (Or.inr ⟨h, Or.inl ⟨rfl, Or.inr (Or.inr (Or.inl rfl))⟩⟩)
theorem w7 {i : Nat} (h : i < S.C 0 0) (h1 : S.C 1 i ≠ 0) : wS G S ω (7, i, 0) = some (S.ad 7 i 0, .inl (G 4, 10, .inr (.inr (.inr (.inr (rfs (S.C 1 i) (S.ad 8 i))))))) := wS_in (Or.inr ⟨h, Or.inl ⟨rfl, Or.inr (Or.inr (Or.inr ⟨rfl, h1⟩))⟩⟩)
theorem w8 {i j : Nat} (h : i < S.C 0 0) (h1 : j < S.C 1 i) : wS G S ω (8, i, j) = some (S.ad 8 i j, .inr (2, fD S i j)) := wS_in (Or.inr ⟨h, Or.inr ⟨rfl, h1⟩⟩)
theorem dom1 {C : Nat → Nat → Nat} {a b c : Nat} (h : domS C (a, b, c)) (ha : a ≤ 3) : b = 0 ∧ c = 0 := by
  rcases h with ⟨h, -⟩ | ⟨-, ⟨-, h | h | h | ⟨h, -⟩⟩ | ⟨h, -⟩⟩
  · cases h
    exact ⟨rfl, rfl⟩
  all_goals (exfalso; simp only at h; omega)
theorem dom4 {C : Nat → Nat → Nat} {a b c : Nat} (h : domS C (a, b, c)) (h4 : 4 ≤ a) (h7 : a ≤ 7) : c = 0 := by
  rcases h with ⟨-, h | h | h | ⟨h, -⟩⟩ | ⟨-, ⟨h, -⟩ | ⟨h, -⟩⟩ <;> simp only at h <;> omega

theorem fo_W_2 {v : Int32} : hm_up (wS G S ω) (0, 0, 0) (S.ad 0 0 0, .inr (0, (fW S).set 2 (.int v))) = wS G (S.sI 0 0 0 v) ω := by
  refine wS_put (S' := S.sI 0 0 0 v) (Or.inl ⟨rfl, Or.inl rfl⟩) rfl rfl ?_ rfl
  rintro ⟨a, b, c⟩ hn hd
  have h8 := domS_le hd
  match a, hn, hd, h8 with
  | 0, hn, hd, _ => exact absurd (by obtain ⟨h1, h2⟩ := dom1 hd (by omega); rw [h1, h2]) hn
  | 1, _, _, _ => rfl
  | 2, _, _, _ => rfl
  | 3, _, _, _ => rfl
  | 4, _, _, _ => rfl
  | 5, _, _, _ => rfl
  | 6, _, _, _ => rfl
  | 7, _, _, _ => rfl
  | 8, _, _, _ => rfl
  | a + 9, _, _, h8 => simp only at h8; omega
theorem fo_W_3 {v : Int32} : hm_up (wS G S ω) (0, 0, 0) (S.ad 0 0 0, .inr (0, (fW S).set 3 (.int v))) = wS G (S.sI 1 0 0 v) ω := by
  refine wS_put (S' := S.sI 1 0 0 v) (Or.inl ⟨rfl, Or.inl rfl⟩) rfl rfl ?_ rfl
  rintro ⟨a, b, c⟩ hn hd
  have h8 := domS_le hd
  match a, hn, hd, h8 with
  | 0, hn, hd, _ => exact absurd (by obtain ⟨h1, h2⟩ := dom1 hd (by omega); rw [h1, h2]) hn
  | 1, _, _, _ => rfl
  | 2, _, _, _ => rfl
  | 3, _, _, _ => rfl
  | 4, _, _, _ => rfl
  | 5, _, _, _ => rfl
  | 6, _, _, _ => rfl
  | 7, _, _, _ => rfl
  | 8, _, _, _ => rfl
  | a + 9, _, _, h8 => simp only at h8; omega
theorem fo_W_4 {v : Int64} : hm_up (wS G S ω) (0, 0, 0) (S.ad 0 0 0, .inr (0, (fW S).set 4 (.long v))) = wS G (S.sJ 0 0 0 v) ω := by
  refine wS_put (S' := S.sJ 0 0 0 v) (Or.inl ⟨rfl, Or.inl rfl⟩) rfl rfl ?_ rfl
  rintro ⟨a, b, c⟩ hn hd
  have h8 := domS_le hd
  match a, hn, hd, h8 with
  | 0, hn, hd, _ => exact absurd (by obtain ⟨h1, h2⟩ := dom1 hd (by omega); rw [h1, h2]) hn
  | 1, _, _, _ => rfl
  | 2, _, _, _ => rfl
  | 3, _, _, _ => rfl
  | 4, _, _, _ => rfl
  | 5, _, _, _ => rfl
  | 6, _, _, _ => rfl
  | 7, _, _, _ => rfl
  | 8, _, _, _ => rfl
  | a + 9, _, _, h8 => simp only at h8; omega
theorem fo_W_5 {v : Int64} : hm_up (wS G S ω) (0, 0, 0) (S.ad 0 0 0, .inr (0, (fW S).set 5 (.long v))) = wS G (S.sJ 1 0 0 v) ω := by
  refine wS_put (S' := S.sJ 1 0 0 v) (Or.inl ⟨rfl, Or.inl rfl⟩) rfl rfl ?_ rfl
  rintro ⟨a, b, c⟩ hn hd
  have h8 := domS_le hd
  match a, hn, hd, h8 with
  | 0, hn, hd, _ => exact absurd (by obtain ⟨h1, h2⟩ := dom1 hd (by omega); rw [h1, h2]) hn
  | 1, _, _, _ => rfl
  | 2, _, _, _ => rfl
  | 3, _, _, _ => rfl
  | 4, _, _, _ => rfl
  | 5, _, _, _ => rfl
  | 6, _, _, _ => rfl
  | 7, _, _, _ => rfl
  | 8, _, _, _ => rfl
  | a + 9, _, _, h8 => simp only at h8; omega
theorem fo_W_6 {v : Int32} : hm_up (wS G S ω) (0, 0, 0) (S.ad 0 0 0, .inr (0, (fW S).set 6 (.int v))) = wS G (S.sI 2 0 0 v) ω := by
  refine wS_put (S' := S.sI 2 0 0 v) (Or.inl ⟨rfl, Or.inl rfl⟩) rfl rfl ?_ rfl
  rintro ⟨a, b, c⟩ hn hd
  have h8 := domS_le hd
  match a, hn, hd, h8 with
  | 0, hn, hd, _ => exact absurd (by obtain ⟨h1, h2⟩ := dom1 hd (by omega); rw [h1, h2]) hn
  | 1, _, _, _ => rfl
  | 2, _, _, _ => rfl
  | 3, _, _, _ => rfl
  | 4, _, _, _ => rfl
  | 5, _, _, _ => rfl
  | 6, _, _, _ => rfl
  | 7, _, _, _ => rfl
  | 8, _, _, _ => rfl
  | a + 9, _, _, h8 => simp only at h8; omega
theorem fo_W_7 {v : Int32} : hm_up (wS G S ω) (0, 0, 0) (S.ad 0 0 0, .inr (0, (fW S).set 7 (.int v))) = wS G (S.sI 3 0 0 v) ω := by
  refine wS_put (S' := S.sI 3 0 0 v) (Or.inl ⟨rfl, Or.inl rfl⟩) rfl rfl ?_ rfl
  rintro ⟨a, b, c⟩ hn hd
  have h8 := domS_le hd
  match a, hn, hd, h8 with
  | 0, hn, hd, _ => exact absurd (by obtain ⟨h1, h2⟩ := dom1 hd (by omega); rw [h1, h2]) hn
  | 1, _, _, _ => rfl
  | 2, _, _, _ => rfl
  | 3, _, _, _ => rfl
  | 4, _, _, _ => rfl
  | 5, _, _, _ => rfl
  | 6, _, _, _ => rfl
  | 7, _, _, _ => rfl
  | 8, _, _, _ => rfl
  | a + 9, _, _, h8 => simp only at h8; omega
theorem fo_W_8 {v : Int32} : hm_up (wS G S ω) (0, 0, 0) (S.ad 0 0 0, .inr (0, (fW S).set 8 (.int v))) = wS G (S.sI 4 0 0 v) ω := by
  refine wS_put (S' := S.sI 4 0 0 v) (Or.inl ⟨rfl, Or.inl rfl⟩) rfl rfl ?_ rfl
  rintro ⟨a, b, c⟩ hn hd
  have h8 := domS_le hd
  match a, hn, hd, h8 with
  | 0, hn, hd, _ => exact absurd (by obtain ⟨h1, h2⟩ := dom1 hd (by omega); rw [h1, h2]) hn
  | 1, _, _, _ => rfl
  | 2, _, _, _ => rfl
  | 3, _, _, _ => rfl
  | 4, _, _, _ => rfl
  | 5, _, _, _ => rfl
  | 6, _, _, _ => rfl
  | 7, _, _, _ => rfl
  | 8, _, _, _ => rfl
  | a + 9, _, _, h8 => simp only at h8; omega
theorem fo_W_9 {v : Int32} : hm_up (wS G S ω) (0, 0, 0) (S.ad 0 0 0, .inr (0, (fW S).set 9 (.int v))) = wS G (S.sI 5 0 0 v) ω := by
  refine wS_put (S' := S.sI 5 0 0 v) (Or.inl ⟨rfl, Or.inl rfl⟩) rfl rfl ?_ rfl
  rintro ⟨a, b, c⟩ hn hd
  have h8 := domS_le hd
  match a, hn, hd, h8 with
  | 0, hn, hd, _ => exact absurd (by obtain ⟨h1, h2⟩ := dom1 hd (by omega); rw [h1, h2]) hn
  | 1, _, _, _ => rfl
  | 2, _, _, _ => rfl
  | 3, _, _, _ => rfl
  | 4, _, _, _ => rfl
  | 5, _, _, _ => rfl
  | 6, _, _, _ => rfl
  | 7, _, _, _ => rfl
  | 8, _, _, _ => rfl
  | a + 9, _, _, h8 => simp only at h8; omega
theorem fo_Q_0 {v : Int32} : hm_up (wS G S ω) (3, 0, 0) (S.ad 3 0 0, .inr (3, (fQ S).set 0 (.int v))) = wS G (S.sI 7 0 0 v) ω := by
  refine wS_put (S' := S.sI 7 0 0 v) (Or.inl ⟨rfl, Or.inr (Or.inr (Or.inl rfl))⟩) rfl rfl ?_ rfl
  rintro ⟨a, b, c⟩ hn hd
  have h8 := domS_le hd
  match a, hn, hd, h8 with
  | 0, _, _, _ => rfl
  | 1, _, _, _ => rfl
  | 2, _, _, _ => rfl
  | 3, hn, hd, _ => exact absurd (by obtain ⟨h1, h2⟩ := dom1 hd (by omega); rw [h1, h2]) hn
  | 4, _, _, _ => rfl
  | 5, _, _, _ => rfl
  | 6, _, _, _ => rfl
  | 7, _, _, _ => rfl
  | 8, _, _, _ => rfl
  | a + 9, _, _, h8 => simp only at h8; omega
theorem fo_Q_1 {v : Int32} : hm_up (wS G S ω) (3, 0, 0) (S.ad 3 0 0, .inr (3, (fQ S).set 1 (.int v))) = wS G (S.sI 8 0 0 v) ω := by
  refine wS_put (S' := S.sI 8 0 0 v) (Or.inl ⟨rfl, Or.inr (Or.inr (Or.inl rfl))⟩) rfl rfl ?_ rfl
  rintro ⟨a, b, c⟩ hn hd
  have h8 := domS_le hd
  match a, hn, hd, h8 with
  | 0, _, _, _ => rfl
  | 1, _, _, _ => rfl
  | 2, _, _, _ => rfl
  | 3, hn, hd, _ => exact absurd (by obtain ⟨h1, h2⟩ := dom1 hd (by omega); rw [h1, h2]) hn
  | 4, _, _, _ => rfl
  | 5, _, _, _ => rfl
  | 6, _, _, _ => rfl
  | 7, _, _, _ => rfl
  | 8, _, _, _ => rfl
  | a + 9, _, _, h8 => simp only at h8; omega
theorem fo_Q_2 {v : Int32} : hm_up (wS G S ω) (3, 0, 0) (S.ad 3 0 0, .inr (3, (fQ S).set 2 (.int v))) = wS G (S.sI 9 0 0 v) ω := by
  refine wS_put (S' := S.sI 9 0 0 v) (Or.inl ⟨rfl, Or.inr (Or.inr (Or.inl rfl))⟩) rfl rfl ?_ rfl
  rintro ⟨a, b, c⟩ hn hd
  have h8 := domS_le hd
  match a, hn, hd, h8 with
  | 0, _, _, _ => rfl
  | 1, _, _, _ => rfl
  | 2, _, _, _ => rfl
  | 3, hn, hd, _ => exact absurd (by obtain ⟨h1, h2⟩ := dom1 hd (by omega); rw [h1, h2]) hn
  | 4, _, _, _ => rfl
  | 5, _, _, _ => rfl
  | 6, _, _, _ => rfl
  | 7, _, _, _ => rfl
  | 8, _, _, _ => rfl
  | a + 9, _, _, h8 => simp only at h8; omega
theorem fo_Q_3 {v : Int64} : hm_up (wS G S ω) (3, 0, 0) (S.ad 3 0 0, .inr (3, (fQ S).set 3 (.long v))) = wS G (S.sJ 2 0 0 v) ω := by
  refine wS_put (S' := S.sJ 2 0 0 v) (Or.inl ⟨rfl, Or.inr (Or.inr (Or.inl rfl))⟩) rfl rfl ?_ rfl
  rintro ⟨a, b, c⟩ hn hd
  have h8 := domS_le hd
  match a, hn, hd, h8 with
  | 0, _, _, _ => rfl
  | 1, _, _, _ => rfl
  | 2, _, _, _ => rfl
  | 3, hn, hd, _ => exact absurd (by obtain ⟨h1, h2⟩ := dom1 hd (by omega); rw [h1, h2]) hn
  | 4, _, _, _ => rfl
  | 5, _, _, _ => rfl
  | 6, _, _, _ => rfl
  | 7, _, _, _ => rfl
  | 8, _, _, _ => rfl
  | a + 9, _, _, h8 => simp only at h8; omega
theorem fo_P_5 {i : Nat} {v : Int32} (hi : i < S.C 0 0) : hm_up (wS G S ω) (4, i, 0) (S.ad 4 i 0, .inr (1, (fP S i).set 5 (.int v))) = wS G (S.sI 12 i 0 v) ω := by
  refine wS_put (S' := S.sI 12 i 0 v) (Or.inr ⟨hi, Or.inl ⟨rfl, Or.inl rfl⟩⟩) rfl rfl ?_ ?_
  · rintro ⟨a, b, c⟩ hn hd
    have h8 := domS_le hd
    match a, hn, hd, h8 with
    | 0, _, _, _ => rfl
    | 1, _, _, _ => rfl
    | 2, _, _, _ => rfl
    | 3, _, _, _ => rfl
    | 4, hn, hd, _ =>
      have hb : b ≠ i := fun z => hn (by rw [z, dom4 hd (by omega) (by omega)])
      show Sum.inr (1, fP (S.sI 12 i 0 v) b) = Sum.inr (1, fP S b)
      simp [fP, cS.sI, cS.I, cS.J, cS.ad, up3, hb]
    | 5, _, _, _ => rfl
    | 6, _, _, _ => rfl
    | 7, _, _, _ => rfl
    | 8, _, _, _ => rfl
    | a + 9, _, _, h8 => simp only at h8; omega
  · show Sum.inr (1, fP (S.sI 12 i 0 v) i) = _
    simp [fP, cS.sI, cS.I, cS.J, cS.ad, up3]
theorem fo_P_6 {i : Nat} {v : Int32} (hi : i < S.C 0 0) : hm_up (wS G S ω) (4, i, 0) (S.ad 4 i 0, .inr (1, (fP S i).set 6 (.int v))) = wS G (S.sI 13 i 0 v) ω := by
  refine wS_put (S' := S.sI 13 i 0 v) (Or.inr ⟨hi, Or.inl ⟨rfl, Or.inl rfl⟩⟩) rfl rfl ?_ ?_
  · rintro ⟨a, b, c⟩ hn hd
    have h8 := domS_le hd
    match a, hn, hd, h8 with
    | 0, _, _, _ => rfl
    | 1, _, _, _ => rfl
    | 2, _, _, _ => rfl
    | 3, _, _, _ => rfl
    | 4, hn, hd, _ =>
      have hb : b ≠ i := fun z => hn (by rw [z, dom4 hd (by omega) (by omega)])
      show Sum.inr (1, fP (S.sI 13 i 0 v) b) = Sum.inr (1, fP S b)
      simp [fP, cS.sI, cS.I, cS.J, cS.ad, up3, hb]
    | 5, _, _, _ => rfl
    | 6, _, _, _ => rfl
    | 7, _, _, _ => rfl
    | 8, _, _, _ => rfl
    | a + 9, _, _, h8 => simp only at h8; omega
  · show Sum.inr (1, fP (S.sI 13 i 0 v) i) = _
    simp [fP, cS.sI, cS.I, cS.J, cS.ad, up3]
theorem fo_P_7 {i : Nat} {v : Int32} (hi : i < S.C 0 0) : hm_up (wS G S ω) (4, i, 0) (S.ad 4 i 0, .inr (1, (fP S i).set 7 (.int v))) = wS G (S.sI 14 i 0 v) ω := by
  refine wS_put (S' := S.sI 14 i 0 v) (Or.inr ⟨hi, Or.inl ⟨rfl, Or.inl rfl⟩⟩) rfl rfl ?_ ?_
  · rintro ⟨a, b, c⟩ hn hd
    have h8 := domS_le hd
    match a, hn, hd, h8 with
    | 0, _, _, _ => rfl
    | 1, _, _, _ => rfl
    | 2, _, _, _ => rfl
    | 3, _, _, _ => rfl
    | 4, hn, hd, _ =>
      have hb : b ≠ i := fun z => hn (by rw [z, dom4 hd (by omega) (by omega)])
      show Sum.inr (1, fP (S.sI 14 i 0 v) b) = Sum.inr (1, fP S b)
      simp [fP, cS.sI, cS.I, cS.J, cS.ad, up3, hb]
    | 5, _, _, _ => rfl
    | 6, _, _, _ => rfl
    | 7, _, _, _ => rfl
    | 8, _, _, _ => rfl
    | a + 9, _, _, h8 => simp only at h8; omega
  · show Sum.inr (1, fP (S.sI 14 i 0 v) i) = _
    simp [fP, cS.sI, cS.I, cS.J, cS.ad, up3]
theorem fo_P_8 {i : Nat} {v : Int32} (hi : i < S.C 0 0) : hm_up (wS G S ω) (4, i, 0) (S.ad 4 i 0, .inr (1, (fP S i).set 8 (.int v))) = wS G (S.sI 15 i 0 v) ω := by
  refine wS_put (S' := S.sI 15 i 0 v) (Or.inr ⟨hi, Or.inl ⟨rfl, Or.inl rfl⟩⟩) rfl rfl ?_ ?_
  · rintro ⟨a, b, c⟩ hn hd
    have h8 := domS_le hd
    match a, hn, hd, h8 with
    | 0, _, _, _ => rfl
    | 1, _, _, _ => rfl
    | 2, _, _, _ => rfl
    | 3, _, _, _ => rfl
    | 4, hn, hd, _ =>
      have hb : b ≠ i := fun z => hn (by rw [z, dom4 hd (by omega) (by omega)])
      show Sum.inr (1, fP (S.sI 15 i 0 v) b) = Sum.inr (1, fP S b)
      simp [fP, cS.sI, cS.I, cS.J, cS.ad, up3, hb]
    | 5, _, _, _ => rfl
    | 6, _, _, _ => rfl
    | 7, _, _, _ => rfl
    | 8, _, _, _ => rfl
    | a + 9, _, _, h8 => simp only at h8; omega
  · show Sum.inr (1, fP (S.sI 15 i 0 v) i) = _
    simp [fP, cS.sI, cS.I, cS.J, cS.ad, up3]
theorem fo_P_9 {i : Nat} {v : Int32} (hi : i < S.C 0 0) : hm_up (wS G S ω) (4, i, 0) (S.ad 4 i 0, .inr (1, (fP S i).set 9 (.int v))) = wS G (S.sI 16 i 0 v) ω := by
  refine wS_put (S' := S.sI 16 i 0 v) (Or.inr ⟨hi, Or.inl ⟨rfl, Or.inl rfl⟩⟩) rfl rfl ?_ ?_
  · rintro ⟨a, b, c⟩ hn hd
    have h8 := domS_le hd
    match a, hn, hd, h8 with
    | 0, _, _, _ => rfl
    | 1, _, _, _ => rfl
    | 2, _, _, _ => rfl
    | 3, _, _, _ => rfl
    | 4, hn, hd, _ =>
      have hb : b ≠ i := fun z => hn (by rw [z, dom4 hd (by omega) (by omega)])
      show Sum.inr (1, fP (S.sI 16 i 0 v) b) = Sum.inr (1, fP S b)
      simp [fP, cS.sI, cS.I, cS.J, cS.ad, up3, hb]
    | 5, _, _, _ => rfl
    | 6, _, _, _ => rfl
    | 7, _, _, _ => rfl
    | 8, _, _, _ => rfl
    | a + 9, _, _, h8 => simp only at h8; omega
  · show Sum.inr (1, fP (S.sI 16 i 0 v) i) = _
    simp [fP, cS.sI, cS.I, cS.J, cS.ad, up3]
theorem fo_P_10 {i : Nat} {v : Int32} (hi : i < S.C 0 0) : hm_up (wS G S ω) (4, i, 0) (S.ad 4 i 0, .inr (1, (fP S i).set 10 (.int v))) = wS G (S.sI 17 i 0 v) ω := by
  refine wS_put (S' := S.sI 17 i 0 v) (Or.inr ⟨hi, Or.inl ⟨rfl, Or.inl rfl⟩⟩) rfl rfl ?_ ?_
  · rintro ⟨a, b, c⟩ hn hd
    have h8 := domS_le hd
    match a, hn, hd, h8 with
    | 0, _, _, _ => rfl
    | 1, _, _, _ => rfl
    | 2, _, _, _ => rfl
    | 3, _, _, _ => rfl
    | 4, hn, hd, _ =>
      have hb : b ≠ i := fun z => hn (by rw [z, dom4 hd (by omega) (by omega)])
      show Sum.inr (1, fP (S.sI 17 i 0 v) b) = Sum.inr (1, fP S b)
      simp [fP, cS.sI, cS.I, cS.J, cS.ad, up3, hb]
    | 5, _, _, _ => rfl
    | 6, _, _, _ => rfl
    | 7, _, _, _ => rfl
    | 8, _, _, _ => rfl
    | a + 9, _, _, h8 => simp only at h8; omega
  · show Sum.inr (1, fP (S.sI 17 i 0 v) i) = _
    simp [fP, cS.sI, cS.I, cS.J, cS.ad, up3]
theorem fo_D_5 {i j : Nat} {v : Int32} (hi : i < S.C 0 0) (hj : j < S.C 1 i) : hm_up (wS G S ω) (8, i, j) (S.ad 8 i j, .inr (2, (fD S i j).set 5 (.int v))) = wS G (S.sI 23 i j v) ω := by
  refine wS_put (S' := S.sI 23 i j v) (Or.inr ⟨hi, Or.inr ⟨rfl, hj⟩⟩) rfl rfl ?_ ?_
  · rintro ⟨a, b, c⟩ hn hd
    have h8 := domS_le hd
    match a, hn, hd, h8 with
    | 0, _, _, _ => rfl
    | 1, _, _, _ => rfl
    | 2, _, _, _ => rfl
    | 3, _, _, _ => rfl
    | 4, _, _, _ => rfl
    | 5, _, _, _ => rfl
    | 6, _, _, _ => rfl
    | 7, _, _, _ => rfl
    | 8, hn, hd, _ =>
      have hb : ¬ (b = i ∧ c = j) := fun z => hn (by rw [z.1, z.2])
      show Sum.inr (2, fD (S.sI 23 i j v) b c) = Sum.inr (2, fD S b c)
      simp [fD, cS.sI, cS.I, cS.J, cS.ad, up3, hb]
    | a + 9, _, _, h8 => simp only at h8; omega
  · show Sum.inr (2, fD (S.sI 23 i j v) i j) = _
    simp [fD, cS.sI, cS.I, cS.J, cS.ad, up3]
theorem fo_D_6 {i j : Nat} {v : Int64} (hi : i < S.C 0 0) (hj : j < S.C 1 i) : hm_up (wS G S ω) (8, i, j) (S.ad 8 i j, .inr (2, (fD S i j).set 6 (.long v))) = wS G (S.sJ 22 i j v) ω := by
  refine wS_put (S' := S.sJ 22 i j v) (Or.inr ⟨hi, Or.inr ⟨rfl, hj⟩⟩) rfl rfl ?_ ?_
  · rintro ⟨a, b, c⟩ hn hd
    have h8 := domS_le hd
    match a, hn, hd, h8 with
    | 0, _, _, _ => rfl
    | 1, _, _, _ => rfl
    | 2, _, _, _ => rfl
    | 3, _, _, _ => rfl
    | 4, _, _, _ => rfl
    | 5, _, _, _ => rfl
    | 6, _, _, _ => rfl
    | 7, _, _, _ => rfl
    | 8, hn, hd, _ =>
      have hb : ¬ (b = i ∧ c = j) := fun z => hn (by rw [z.1, z.2])
      show Sum.inr (2, fD (S.sJ 22 i j v) b c) = Sum.inr (2, fD S b c)
      simp [fD, cS.sJ, cS.I, cS.J, cS.ad, up3, hb]
    | a + 9, _, _, h8 => simp only at h8; omega
  · show Sum.inr (2, fD (S.sJ 22 i j v) i j) = _
    simp [fD, cS.sJ, cS.I, cS.J, cS.ad, up3]
theorem fo_E {i k : Nat} {v : Int32} (hi : i < S.C 0 0) : hm_up (wS G S ω) (5, i, 0) (S.ad 5 i 0, .inl (G 1, 124, .inl (upd (S.I 18 i) k v))) = wS G (S.sI 18 i k v) ω := by
  refine wS_put (S' := S.sI 18 i k v) (Or.inr ⟨hi, Or.inl ⟨rfl, Or.inr (Or.inl rfl)⟩⟩) rfl rfl ?_ ?_
  · rintro ⟨a, b, c⟩ hn hd
    have h8 := domS_le hd
    match a, hn, hd, h8 with
    | 0, _, _, _ => rfl
    | 1, _, _, _ => rfl
    | 2, _, _, _ => rfl
    | 3, _, _, _ => rfl
    | 4, _, _, _ => rfl
    | 5, hn, hd, _ =>
      have hb : b ≠ i := fun z => hn (by rw [z, dom4 hd (by omega) (by omega)])
      show Sum.inl (G 1, 124, Sum.inl ((S.sI 18 i k v).I 18 b)) = Sum.inl (G 1, 124, Sum.inl (S.I 18 b))
      rw [show (S.sI 18 i k v).I 18 b = S.I 18 b from funext (fun z => up3_i _ v hb)]
    | 6, _, _, _ => rfl
    | 7, _, _, _ => rfl
    | 8, _, _, _ => rfl
    | a + 9, _, _, h8 => simp only at h8; omega
  · show Sum.inl (G 1, 124, Sum.inl ((S.sI 18 i k v).I 18 i)) = _
    rw [show (S.sI 18 i k v).I 18 i = upd (S.I 18 i) k v from funext (fun z => by by_cases hz : z = k <;> simp [cS.sI, cS.I, up3, upd, hz])]
end ST1
