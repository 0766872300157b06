/-! THE MODEL'S STATE -/
abbrev mS : Type := (Nat → Nat) × (Nat → Nat → Int32) × (Nat → Nat → Int64)
abbrev mS.ad (M : mS) : Nat → Nat := M.1
abbrev mS.I (M : mS) : Nat → Nat → Int32 := M.2.1
abbrev mS.J (M : mS) : Nat → Nat → Int64 := M.2.2
def mS.sI (M : mS) (k j : Nat) (v : Int32) : mS := (M.1, up2 M.2.1 k j v, M.2.2)
def mS.sJ (M : mS) (k j : Nat) (v : Int64) : mS := (M.1, M.2.1, up2 M.2.2 k j v)
def fM (M : mS) : List Value := [.int (M.I 0 0), .int (M.I 1 0), .ref (M.ad 2), .ref (M.ad 3), .ref (M.ad 4), .ref (M.ad 5), .ref (M.ad 6), .ref (M.ad 7), .ref (M.ad 8), .ref (M.ad 9), .ref (M.ad 10), .ref (M.ad 11), .ref (M.ad 12), .ref (M.ad 13), .ref (M.ad 14), .ref (M.ad 15), .ref (M.ad 16), .ref (M.ad 17), .ref (M.ad 18), .int (M.I 19 0), .int (M.I 20 0), .long (M.J 21 0), .int (M.I 22 0), .int (M.I 23 0), .int (M.I 24 0), .int (M.I 25 0), .int (M.I 26 0), .int (M.I 27 0), .int (M.I 28 0), .long (M.J 29 0), .long (M.J 30 0)]
def mlen (k : Nat) : Nat := if k = 11 then 80724 else if k ≤ 12 then 21 else 210
def mcell (G : Nat → Nat) (M : mS) (k : Nat) : va_E := if k = 0 then .inr (5, fM M) else if k = 9 ∨ k = 11 then .inl (G 2, mlen k, .inl (M.I k)) else if 16 ≤ k then .inl (G 3, 210, .inr (.inl (M.J k))) else .inl (G 1, mlen k, .inl (M.I k))
def wM (G : Nat → Nat) (M : mS) (ω : hm_T) : hm_T := fun n => if n.1 = 30 then (if (n.2.1 = 0 ∨ (2 ≤ n.2.1 ∧ n.2.1 ≤ 18)) ∧ n.2.2 = 0 then some (M.ad n.2.1, mcell G M n.2.1) else none) else ω n
section MS1
variable {G : Nat → Nat} {M M' : mS} {ω : hm_T}
theorem up2_k {α : Type} (f : Nat → Nat → α) {k i a b : Nat} (v : α) (h : a ≠ k) : up2 f k i v a b = f a b := if_neg (fun z => h z.1)
theorem v_0 : wM G M ω (30, 0, 0) = some (M.ad 0, .inr (5, fM M)) := rfl
theorem v_2 : wM G M ω (30, 2, 0) = some (M.ad 2, .inl (G 1, 21, .inl (M.I 2))) := rfl
theorem v_3 : wM G M ω (30, 3, 0) = some (M.ad 3, .inl (G 1, 21, .inl (M.I 3))) := rfl
theorem v_4 : wM G M ω (30, 4, 0) = some (M.ad 4, .inl (G 1, 21, .inl (M.I 4))) := rfl
theorem v_5 : wM G M ω (30, 5, 0) = some (M.ad 5, .inl (G 1, 21, .inl (M.I 5))) := rfl
theorem v_6 : wM G M ω (30, 6, 0) = some (M.ad 6, .inl (G 1, 21, .inl (M.I 6))) := rfl
theorem v_7 : wM G M ω (30, 7, 0) = some (M.ad 7, .inl (G 1, 21, .inl (M.I 7))) := rfl
theorem v_8 : wM G M ω (30, 8, 0) = some (M.ad 8, .inl (G 1, 21, .inl (M.I 8))) := rfl
theorem v_9 : wM G M ω (30, 9, 0) = some (M.ad 9, .inl (G 2, 21, .inl (M.I 9))) := rfl
theorem v_10 : wM G M ω (30, 10, 0) = some (M.ad 10, .inl (G 1, 21, .inl (M.I 10))) := rfl
theorem v_11 : wM G M ω (30, 11, 0) = some (M.ad 11, .inl (G 2, 80724, .inl (M.I 11))) := rfl
theorem v_12 : wM G M ω (30, 12, 0) = some (M.ad 12, .inl (G 1, 21, .inl (M.I 12))) := rfl
theorem v_13 : wM G M ω (30, 13, 0) = some (M.ad 13, .inl (G 1, 210, .inl (M.I 13))) := rfl
theorem v_14 : wM G M ω (30, 14, 0) = some (M.ad 14, .inl (G 1, 210, .inl (M.I 14))) := rfl
theorem v_15 : wM G M ω (30, 15, 0) = some (M.ad 15, .inl (G 1, 210, .inl (M.I 15))) := rfl
theorem v_16 : wM G M ω (30, 16, 0) = some (M.ad 16, .inl (G 3, 210, .inr (.inl (M.J 16)))) := rfl
theorem v_17 : wM G M ω (30, 17, 0) = some (M.ad 17, .inl (G 3, 210, .inr (.inl (M.J 17)))) := rfl
theorem v_18 : wM G M ω (30, 18, 0) = some (M.ad 18, .inl (G 3, 210, .inr (.inl (M.J 18)))) := rfl
theorem wM_put {k : Nat} {e : va_E} (hk : k = 0 ∨ (2 ≤ k ∧ k ≤ 18)) (hA : M'.ad = M.ad) (he : mcell G M' k = e) (hc : ∀ y, y ≠ k → (y = 0 ∨ (2 ≤ y ∧ y ≤ 18)) → mcell G M' y = mcell G M y) : hm_up (wM G M ω) (30, k, 0) (M.ad k, e) = wM G M' ω := by
  funext n
  by_cases h : n = (30, k, 0)
  · subst h
    rw [hm_up_s]
    simp [wM, hk, hA, he]
  · rw [hm_up_n _ _ h]
    obtain ⟨x, y, z⟩ := n
    by_cases hx : x = 30
    · subst hx
      by_cases hd : (y = 0 ∨ (2 ≤ y ∧ y ≤ 18)) ∧ z = 0
      · have hy : y ≠ k := fun e => h (by rw [e, hd.2])
        simp only [wM, hd, and_self, if_true, hA, hc y hy hd.1]
      · simp only [wM, hd, if_false]
    · simp only [wM, hx, if_false]
theorem fm_0 {v : Int32} : hm_up (wM G M ω) (30, 0, 0) (M.ad 0, .inr (5, (fM M).set 0 (.int v))) = wM G (M.sI 0 0 v) ω := by
  refine wM_put (M' := M.sI 0 0 v) (Or.inl rfl) rfl rfl ?_
  intro y hy hd
  have hk : y ≠ 0 := by omega
  unfold mcell
  rw [if_neg hy, if_neg hy, show (M.sI 0 0 v).I y = M.I y from funext (fun j => up2_k _ v hk)]
  rfl
theorem fm_1 {v : Int32} : hm_up (wM G M ω) (30, 0, 0) (M.ad 0, .inr (5, (fM M).set 1 (.int v))) = wM G (M.sI 1 0 v) ω := by
  refine wM_put (M' := M.sI 1 0 v) (Or.inl rfl) rfl rfl ?_
  intro y hy hd
  have hk : y ≠ 1 := by omega
  unfold mcell
  rw [if_neg hy, if_neg hy, show (M.sI 1 0 v).I y = M.I y from funext (fun j => up2_k _ v hk)]
  rfl
theorem fm_19 {v : Int32} : hm_up (wM G M ω) (30, 0, 0) (M.ad 0, .inr (5, (fM M).set 19 (.int v))) = wM G (M.sI 19 0 v) ω := by
  refine wM_put (M' := M.sI 19 0 v) (Or.inl rfl) rfl rfl ?_
  intro y hy hd
  have hk : y ≠ 19 := by omega
  unfold mcell
  rw [if_neg hy, if_neg hy, show (M.sI 19 0 v).I y = M.I y from funext (fun j => up2_k _ v hk)]
  rfl
theorem fm_20 {v : Int32} : hm_up (wM G M ω) (30, 0, 0) (M.ad 0, .inr (5, (fM M).set 20 (.int v))) = wM G (M.sI 20 0 v) ω := by
  refine wM_put (M' := M.sI 20 0 v) (Or.inl rfl) rfl rfl ?_
  intro y hy hd
  have hk : y ≠ 20 := by omega
  unfold mcell
  rw [if_neg hy, if_neg hy, show (M.sI 20 0 v).I y = M.I y from funext (fun j => up2_k _ v hk)]
  rfl
theorem fm_21 {v : Int64} : hm_up (wM G M ω) (30, 0, 0) (M.ad 0, .inr (5, (fM M).set 21 (.long v))) = wM G (M.sJ 21 0 v) ω := by
  refine wM_put (M' := M.sJ 21 0 v) (Or.inl rfl) rfl rfl ?_
  intro y hy hd
  have hk : y ≠ 21 := by omega
  unfold mcell
  rw [if_neg hy, if_neg hy, show (M.sJ 21 0 v).J y = M.J y from funext (fun j => up2_k _ v hk)]
  rfl
theorem fm_22 {v : Int32} : hm_up (wM G M ω) (30, 0, 0) (M.ad 0, .inr (5, (fM M).set 22 (.int v))) = wM G (M.sI 22 0 v) ω := by
  refine wM_put (M' := M.sI 22 0 v) (Or.inl rfl) rfl rfl ?_
  intro y hy hd
  have hk : y ≠ 22 := by omega
  unfold mcell
  rw [if_neg hy, if_neg hy, show (M.sI 22 0 v).I y = M.I y from funext (fun j => up2_k _ v hk)]
  rfl
theorem fm_23 {v : Int32} : hm_up (wM G M ω) (30, 0, 0) (M.ad 0, .inr (5, (fM M).set 23 (.int v))) = wM G (M.sI 23 0 v) ω := by
  refine wM_put (M' := M.sI 23 0 v) (Or.inl rfl) rfl rfl ?_
  intro y hy hd
  have hk : y ≠ 23 := by omega
  unfold mcell
  rw [if_neg hy, if_neg hy, show (M.sI 23 0 v).I y = M.I y from funext (fun j => up2_k _ v hk)]
  rfl
theorem fm_24 {v : Int32} : hm_up (wM G M ω) (30, 0, 0) (M.ad 0, .inr (5, (fM M).set 24 (.int v))) = wM G (M.sI 24 0 v) ω := by
  refine wM_put (M' := M.sI 24 0 v) (Or.inl rfl) rfl rfl ?_
  intro y hy hd
  have hk : y ≠ 24 := by omega
  unfold mcell
  rw [if_neg hy, if_neg hy, show (M.sI 24 0 v).I y = M.I y from funext (fun j => up2_k _ v hk)]
  rfl
theorem fm_25 {v : Int32} : hm_up (wM G M ω) (30, 0, 0) (M.ad 0, .inr (5, (fM M).set 25 (.int v))) = wM G (M.sI 25 0 v) ω := by
  refine wM_put (M' := M.sI 25 0 v) (Or.inl rfl) rfl rfl ?_
  intro y hy hd
  have hk : y ≠ 25 := by omega
  unfold mcell
  rw [if_neg hy, if_neg hy, show (M.sI 25 0 v).I y = M.I y from funext (fun j => up2_k _ v hk)]
  rfl
theorem fm_26 {v : Int32} : hm_up (wM G M ω) (30, 0, 0) (M.ad 0, .inr (5, (fM M).set 26 (.int v))) = wM G (M.sI 26 0 v) ω := by
  refine wM_put (M' := M.sI 26 0 v) (Or.inl rfl) rfl rfl ?_
  intro y hy hd
  have hk : y ≠ 26 := by omega
  unfold mcell
  rw [if_neg hy, if_neg hy, show (M.sI 26 0 v).I y = M.I y from funext (fun j => up2_k _ v hk)]
  rfl
theorem fm_27 {v : Int32} : hm_up (wM G M ω) (30, 0, 0) (M.ad 0, .inr (5, (fM M).set 27 (.int v))) = wM G (M.sI 27 0 v) ω := by
  refine wM_put (M' := M.sI 27 0 v) (Or.inl rfl) rfl rfl ?_
  intro y hy hd
  have hk : y ≠ 27 := by omega
  unfold mcell
  rw [if_neg hy, if_neg hy, show (M.sI 27 0 v).I y = M.I y from funext (fun j => up2_k _ v hk)]
  rfl
theorem fm_28 {v : Int32} : hm_up (wM G M ω) (30, 0, 0) (M.ad 0, .inr (5, (fM M).set 28 (.int v))) = wM G (M.sI 28 0 v) ω := by
  refine wM_put (M' := M.sI 28 0 v) (Or.inl rfl) rfl rfl ?_
  intro y hy hd
  have hk : y ≠ 28 := by omega
  unfold mcell
  rw [if_neg hy, if_neg hy, show (M.sI 28 0 v).I y = M.I y from funext (fun j => up2_k _ v hk)]
  rfl
theorem fm_29 {v : Int64} : hm_up (wM G M ω) (30, 0, 0) (M.ad 0, .inr (5, (fM M).set 29 (.long v))) = wM G (M.sJ 29 0 v) ω := by
  refine wM_put (M' := M.sJ 29 0 v) (Or.inl rfl) rfl rfl ?_
  intro y hy hd
  have hk : y ≠ 29 := by omega
  unfold mcell
  rw [if_neg hy, if_neg hy, show (M.sJ 29 0 v).J y = M.J y from funext (fun j => up2_k _ v hk)]
  rfl
theorem fm_30 {v : Int64} : hm_up (wM G M ω) (30, 0, 0) (M.ad 0, .inr (5, (fM M).set 30 (.long v))) = wM G (M.sJ 30 0 v) ω := by
  refine wM_put (M' := M.sJ 30 0 v) (Or.inl rfl) rfl rfl ?_
  intro y hy hd
  have hk : y ≠ 30 := by omega
  unfold mcell
  rw [if_neg hy, if_neg hy, show (M.sJ 30 0 v).J y = M.J y from funext (fun j => up2_k _ v hk)]
  rfl
theorem fa_2 {j : Nat} {v : Int32} : hm_up (wM G M ω) (30, 2, 0) (M.ad 2, .inl (G 1, 21, .inl (upd (M.I 2) j v))) = wM G (M.sI 2 j v) ω := by
  have e0 : (M.sI 2 j v).I 2 = upd (M.I 2) j v := by funext i; by_cases h : i = j <;> simp [mS.sI, mS.I, up2, upd, h]
  refine wM_put (M' := M.sI 2 j v) (Or.inr ⟨by decide, by decide⟩) rfl ?_ ?_
  · show Sum.inl (_, _, _) = _
    rw [← e0]
    all_goals rfl
  · intro y hy hd
    rcases hd with rfl | hd
    · rfl
    · have h0 : y ≠ 0 := by omega
      unfold mcell
      rw [if_neg h0, if_neg h0, show (M.sI 2 j v).I y = M.I y from funext (fun i => up2_k _ v hy)]
      rfl
theorem fa_3 {j : Nat} {v : Int32} : hm_up (wM G M ω) (30, 3, 0) (M.ad 3, .inl (G 1, 21, .inl (upd (M.I 3) j v))) = wM G (M.sI 3 j v) ω := by
  have e0 : (M.sI 3 j v).I 3 = upd (M.I 3) j v := by funext i; by_cases h : i = j <;> simp [mS.sI, mS.I, up2, upd, h]
  refine wM_put (M' := M.sI 3 j v) (Or.inr ⟨by decide, by decide⟩) rfl ?_ ?_
  · show Sum.inl (_, _, _) = _
    rw [← e0]
    all_goals rfl
  · intro y hy hd
    rcases hd with rfl | hd
    · rfl
    · have h0 : y ≠ 0 := by omega
      unfold mcell
      rw [if_neg h0, if_neg h0, show (M.sI 3 j v).I y = M.I y from funext (fun i => up2_k _ v hy)]
      rfl
theorem fa_4 {j : Nat} {v : Int32} : hm_up (wM G M ω) (30, 4, 0) (M.ad 4, .inl (G 1, 21, .inl (upd (M.I 4) j v))) = wM G (M.sI 4 j v) ω := by
  have e0 : (M.sI 4 j v).I 4 = upd (M.I 4) j v := by funext i; by_cases h : i = j <;> simp [mS.sI, mS.I, up2, upd, h]
  refine wM_put (M' := M.sI 4 j v) (Or.inr ⟨by decide, by decide⟩) rfl ?_ ?_
  · show Sum.inl (_, _, _) = _
    rw [← e0]
    all_goals rfl
  · intro y hy hd
    rcases hd with rfl | hd
    · rfl
    · have h0 : y ≠ 0 := by omega
      unfold mcell
      rw [if_neg h0, if_neg h0, show (M.sI 4 j v).I y = M.I y from funext (fun i => up2_k _ v hy)]
      rfl
theorem fa_5 {j : Nat} {v : Int32} : hm_up (wM G M ω) (30, 5, 0) (M.ad 5, .inl (G 1, 21, .inl (upd (M.I 5) j v))) = wM G (M.sI 5 j v) ω := by
  have e0 : (M.sI 5 j v).I 5 = upd (M.I 5) j v := by funext i; by_cases h : i = j <;> simp [mS.sI, mS.I, up2, upd, h]
  refine wM_put (M' := M.sI 5 j v) (Or.inr ⟨by decide, by decide⟩) rfl ?_ ?_
  · show Sum.inl (_, _, _) = _
    rw [← e0]
    all_goals rfl
  · intro y hy hd
    rcases hd with rfl | hd
    · rfl
    · have h0 : y ≠ 0 := by omega
      unfold mcell
      rw [if_neg h0, if_neg h0, show (M.sI 5 j v).I y = M.I y from funext (fun i => up2_k _ v hy)]
      rfl
theorem fa_6 {j : Nat} {v : Int32} : hm_up (wM G M ω) (30, 6, 0) (M.ad 6, .inl (G 1, 21, .inl (upd (M.I 6) j v))) = wM G (M.sI 6 j v) ω := by
  have e0 : (M.sI 6 j v).I 6 = upd (M.I 6) j v := by funext i; by_cases h : i = j <;> simp [mS.sI, mS.I, up2, upd, h]
  refine wM_put (M' := M.sI 6 j v) (Or.inr ⟨by decide, by decide⟩) rfl ?_ ?_
  · show Sum.inl (_, _, _) = _
    rw [← e0]
    all_goals rfl
  · intro y hy hd
    rcases hd with rfl | hd
    · rfl
    · have h0 : y ≠ 0 := by omega
      unfold mcell
      rw [if_neg h0, if_neg h0, show (M.sI 6 j v).I y = M.I y from funext (fun i => up2_k _ v hy)]
      rfl
theorem fa_7 {j : Nat} {v : Int32} : hm_up (wM G M ω) (30, 7, 0) (M.ad 7, .inl (G 1, 21, .inl (upd (M.I 7) j v))) = wM G (M.sI 7 j v) ω := by
  have e0 : (M.sI 7 j v).I 7 = upd (M.I 7) j v := by funext i; by_cases h : i = j <;> simp [mS.sI, mS.I, up2, upd, h]
  refine wM_put (M' := M.sI 7 j v) (Or.inr ⟨by decide, by decide⟩) rfl ?_ ?_
  · show Sum.inl (_, _, _) = _
    rw [← e0]
    all_goals rfl
  · intro y hy hd
    rcases hd with rfl | hd
    · rfl
    · have h0 : y ≠ 0 := by omega
      unfold mcell
      rw [if_neg h0, if_neg h0, show (M.sI 7 j v).I y = M.I y from funext (fun i => up2_k _ v hy)]
      rfl
theorem fa_8 {j : Nat} {v : Int32} : hm_up (wM G M ω) (30, 8, 0) (M.ad 8, .inl (G 1, 21, .inl (upd (M.I 8) j v))) = wM G (M.sI 8 j v) ω := by
  have e0 : (M.sI 8 j v).I 8 = upd (M.I 8) j v := by funext i; by_cases h : i = j <;> simp [mS.sI, mS.I, up2, upd, h]
  refine wM_put (M' := M.sI 8 j v) (Or.inr ⟨by decide, by decide⟩) rfl ?_ ?_
  · show Sum.inl (_, _, _) = _
    rw [← e0]
    all_goals rfl
  · intro y hy hd
    rcases hd with rfl | hd
    · rfl
    · have h0 : y ≠ 0 := by omega
      unfold mcell
      rw [if_neg h0, if_neg h0, show (M.sI 8 j v).I y = M.I y from funext (fun i => up2_k _ v hy)]
      rfl
theorem fa_9 {j : Nat} {v : Int32} : hm_up (wM G M ω) (30, 9, 0) (M.ad 9, .inl (G 2, 21, .inl (upd (M.I 9) j v))) = wM G (M.sI 9 j v) ω := by
  have e0 : (M.sI 9 j v).I 9 = upd (M.I 9) j v := by funext i; by_cases h : i = j <;> simp [mS.sI, mS.I, up2, upd, h]
  refine wM_put (M' := M.sI 9 j v) (Or.inr ⟨by decide, by decide⟩) rfl ?_ ?_
  · show Sum.inl (_, _, _) = _
    rw [← e0]
    all_goals rfl
  · intro y hy hd
    rcases hd with rfl | hd
    · rfl
    · have h0 : y ≠ 0 := by omega
      unfold mcell
      rw [if_neg h0, if_neg h0, show (M.sI 9 j v).I y = M.I y from funext (fun i => up2_k _ v hy)]
      rfl
theorem fa_10 {j : Nat} {v : Int32} : hm_up (wM G M ω) (30, 10, 0) (M.ad 10, .inl (G 1, 21, .inl (upd (M.I 10) j v))) = wM G (M.sI 10 j v) ω := by
  have e0 : (M.sI 10 j v).I 10 = upd (M.I 10) j v := by funext i; by_cases h : i = j <;> simp [mS.sI, mS.I, up2, upd, h]
  refine wM_put (M' := M.sI 10 j v) (Or.inr ⟨by decide, by decide⟩) rfl ?_ ?_
  · show Sum.inl (_, _, _) = _
    rw [← e0]
    all_goals rfl
  · intro y hy hd
    rcases hd with rfl | hd
    · rfl
    · have h0 : y ≠ 0 := by omega
      unfold mcell
      rw [if_neg h0, if_neg h0, show (M.sI 10 j v).I y = M.I y from funext (fun i => up2_k _ v hy)]
      rfl
theorem fa_11 {j : Nat} {v : Int32} : hm_up (wM G M ω) (30, 11, 0) (M.ad 11, .inl (G 2, 80724, .inl (upd (M.I 11) j v))) = wM G (M.sI 11 j v) ω := by
  have e0 : (M.sI 11 j v).I 11 = upd (M.I 11) j v := by funext i; by_cases h : i = j <;> simp [mS.sI, mS.I, up2, upd, h]
  refine wM_put (M' := M.sI 11 j v) (Or.inr ⟨by decide, by decide⟩) rfl ?_ ?_
  · show Sum.inl (_, _, _) = _
    rw [← e0]
    all_goals rfl
  · intro y hy hd
    rcases hd with rfl | hd
    · rfl
    · have h0 : y ≠ 0 := by omega
      unfold mcell
      rw [if_neg h0, if_neg h0, show (M.sI 11 j v).I y = M.I y from funext (fun i => up2_k _ v hy)]
      rfl
theorem fa_12 {j : Nat} {v : Int32} : hm_up (wM G M ω) (30, 12, 0) (M.ad 12, .inl (G 1, 21, .inl (upd (M.I 12) j v))) = wM G (M.sI 12 j v) ω := by
  have e0 : (M.sI 12 j v).I 12 = upd (M.I 12) j v := by funext i; by_cases h : i = j <;> simp [mS.sI, mS.I, up2, upd, h]
  refine wM_put (M' := M.sI 12 j v) (Or.inr ⟨by decide, by decide⟩) rfl ?_ ?_
  · show Sum.inl (_, _, _) = _
    rw [← e0]
    all_goals rfl
  · intro y hy hd
    rcases hd with rfl | hd
    · rfl
    · have h0 : y ≠ 0 := by omega
      unfold mcell
      rw [if_neg h0, if_neg h0, show (M.sI 12 j v).I y = M.I y from funext (fun i => up2_k _ v hy)]
      rfl
theorem fa_13 {j : Nat} {v : Int32} : hm_up (wM G M ω) (30, 13, 0) (M.ad 13, .inl (G 1, 210, .inl (upd (M.I 13) j v))) = wM G (M.sI 13 j v) ω := by
  have e0 : (M.sI 13 j v).I 13 = upd (M.I 13) j v := by funext i; by_cases h : i = j <;> simp [mS.sI, mS.I, up2, upd, h]
  refine wM_put (M' := M.sI 13 j v) (Or.inr ⟨by decide, by decide⟩) rfl ?_ ?_
  · show Sum.inl (_, _, _) = _
    rw [← e0]
    all_goals rfl
  · intro y hy hd
    rcases hd with rfl | hd
    · rfl
    · have h0 : y ≠ 0 := by omega
      unfold mcell
      rw [if_neg h0, if_neg h0, show (M.sI 13 j v).I y = M.I y from funext (fun i => up2_k _ v hy)]
      rfl
theorem fa_14 {j : Nat} {v : Int32} : hm_up (wM G M ω) (30, 14, 0) (M.ad 14, .inl (G 1, 210, .inl (upd (M.I 14) j v))) = wM G (M.sI 14 j v) ω := by
  have e0 : (M.sI 14 j v).I 14 = upd (M.I 14) j v := by funext i; by_cases h : i = j <;> simp [mS.sI, mS.I, up2, upd, h]
  refine wM_put (M' := M.sI 14 j v) (Or.inr ⟨by decide, by decide⟩) rfl ?_ ?_
  · show Sum.inl (_, _, _) = _
    rw [← e0]
    all_goals rfl
  · intro y hy hd
    rcases hd with rfl | hd
    · rfl
    · have h0 : y ≠ 0 := by omega
      unfold mcell
      rw [if_neg h0, if_neg h0, show (M.sI 14 j v).I y = M.I y from funext (fun i => up2_k _ v hy)]
      rfl
theorem fa_15 {j : Nat} {v : Int32} : hm_up (wM G M ω) (30, 15, 0) (M.ad 15, .inl (G 1, 210, .inl (upd (M.I 15) j v))) = wM G (M.sI 15 j v) ω := by
  have e0 : (M.sI 15 j v).I 15 = upd (M.I 15) j v := by funext i; by_cases h : i = j <;> simp [mS.sI, mS.I, up2, upd, h]
  refine wM_put (M' := M.sI 15 j v) (Or.inr ⟨by decide, by decide⟩) rfl ?_ ?_
  · show Sum.inl (_, _, _) = _
    rw [← e0]
    all_goals rfl
  · intro y hy hd
    rcases hd with rfl | hd
    · rfl
    · have h0 : y ≠ 0 := by omega
      unfold mcell
      rw [if_neg h0, if_neg h0, show (M.sI 15 j v).I y = M.I y from funext (fun i => up2_k _ v hy)]
      rfl
theorem fa_16 {j : Nat} {v : Int64} : hm_up (wM G M ω) (30, 16, 0) (M.ad 16, .inl (G 3, 210, .inr (.inl (vp_updL (M.J 16) j v)))) = wM G (M.sJ 16 j v) ω := by
  have e0 : (M.sJ 16 j v).J 16 = vp_updL (M.J 16) j v := by funext i; by_cases h : i = j <;> simp [mS.sJ, mS.J, up2, vp_updL, h]
  refine wM_put (M' := M.sJ 16 j v) (Or.inr ⟨by decide, by decide⟩) rfl ?_ ?_
  · show Sum.inl (_, _, _) = _
    rw [← e0]
    all_goals rfl
  · intro y hy hd
    rcases hd with rfl | hd
    · rfl
    · have h0 : y ≠ 0 := by omega
      unfold mcell
      rw [if_neg h0, if_neg h0, show (M.sJ 16 j v).J y = M.J y from funext (fun i => up2_k _ v hy)]
      rfl
theorem fa_17 {j : Nat} {v : Int64} : hm_up (wM G M ω) (30, 17, 0) (M.ad 17, .inl (G 3, 210, .inr (.inl (vp_updL (M.J 17) j v)))) = wM G (M.sJ 17 j v) ω := by
  have e0 : (M.sJ 17 j v).J 17 = vp_updL (M.J 17) j v := by funext i; by_cases h : i = j <;> simp [mS.sJ, mS.J, up2, vp_updL, h]
  refine wM_put (M' := M.sJ 17 j v) (Or.inr ⟨by decide, by decide⟩) rfl ?_ ?_
  · show Sum.inl (_, _, _) = _
    rw [← e0]
    all_goals rfl
  · intro y hy hd
    rcases hd with rfl | hd
    · rfl
    · have h0 : y ≠ 0 := by omega
      unfold mcell
      rw [if_neg h0, if_neg h0, show (M.sJ 17 j v).J y = M.J y from funext (fun i => up2_k _ v hy)]
      rfl
theorem fa_18 {j : Nat} {v : Int64} : hm_up (wM G M ω) (30, 18, 0) (M.ad 18, .inl (G 3, 210, .inr (.inl (vp_updL (M.J 18) j v)))) = wM G (M.sJ 18 j v) ω := by
  have e0 : (M.sJ 18 j v).J 18 = vp_updL (M.J 18) j v := by funext i; by_cases h : i = j <;> simp [mS.sJ, mS.J, up2, vp_updL, h]
  refine wM_put (M' := M.sJ 18 j v) (Or.inr ⟨by decide, by decide⟩) rfl ?_ ?_
  · show Sum.inl (_, _, _) = _
    rw [← e0]
    all_goals rfl
  · intro y hy hd
    rcases hd with rfl | hd
    · rfl
    · have h0 : y ≠ 0 := by omega
      unfold mcell
      rw [if_neg h0, if_neg h0, show (M.sJ 18 j v).J y = M.J y from funext (fun i => up2_k _ v hy)]
      rfl
end MS1
section MS2
variable {p : Program} {l : Launch} {e : Env} {R : Room} {s : State} {m : MethodId} {args : Array Value} {below : List Frame} {meth : Method} {c : Code} {H : Heap} {locs : List Loc} {cells slots : Nat} {Q : State → Prop}
variable {cc : ByteArray} {nL pc : Nat} {ls : Array Slot} {rest : List Value} {D : va_G} {cl : List vw_C} {A : Nat → Prop} {a : Nat} {tys : List (ClassId × FieldType)} {H0 : Heap} {Ts : List Cond} {own : String} {w : hm_T} {n : hm_N} {cA : ClassId} {N x : Nat} {i : Int32}
theorem mi_ald (X : hm_X p m c cc nL s args Ts own D cl tys) (hY : hm_Y D cl A H0 w H locs) {f : Nat → Int32} {v : Int32} (hn : w n = some (a, .inl (cA, N, .inl f))) (t0 : Nat) (ht : tys[t0]? = some (cA, .int)) (hi : i = nI x) (hx : x < N) (hN : N < 2 ^ 31) (hv : f x = v) (hdg : decode cc pc = .ok (.iaload, 1))
    (kk : W p l e R s m args below meth c H locs cells slots Q (F0 m (pc + 1) ls (.int v :: rest))) : W p l e R s m args below meth c H locs cells slots Q (F0 m pc ls (.int i :: .ref a :: rest)) := by
  subst hi hv
  refine hm_iald X hY hn t0 ht (vp_in_nI hx hN) hdg ?_
  rw [nI_clamp (by omega)]
  exact kk
theorem ml_ald (X : hm_X p m c cc nL s args Ts own D cl tys) (hY : hm_Y D cl A H0 w H locs) {f : Nat → Int64} {v : Int64} (hn : w n = some (a, .inl (cA, N, .inr (.inl f)))) (t0 : Nat) (ht : tys[t0]? = some (cA, .long)) (hi : i = nI x) (hx : x < N) (hN : N < 2 ^ 31) (hv : f x = v) (hdg : decode cc pc = .ok (.laload, 1))
    (kk : W p l e R s m args below meth c H locs cells slots Q (F0 m (pc + 1) ls (.long v :: rest))) : W p l e R s m args below meth c H locs cells slots Q (F0 m pc ls (.int i :: .ref a :: rest)) := by
  subst hi hv
  refine hm_lald X hY hn t0 ht (vp_in_nI hx hN) hdg ?_
  rw [nI_clamp (by omega)]
  exact kk
theorem mz_ald (X : hm_X p m c cc nL s args Ts own D cl tys) (hY : hm_Y D cl A H0 w H locs) {f : Nat → Int32} {v : Int32} (hn : w n = some (a, .inl (cA, N, .inl f))) (t0 : Nat) (ht : tys[t0]? = some (cA, .boolean)) (hi : i = nI x) (hx : x < N) (hN : N < 2 ^ 31) (hv : f x = v) (hdg : decode cc pc = .ok (.baload, 1))
    (kk : W p l e R s m args below meth c H locs cells slots Q (F0 m (pc + 1) ls (.int v :: rest))) : W p l e R s m args below meth c H locs cells slots Q (F0 m pc ls (.int i :: .ref a :: rest)) := by
  subst hi hv
  refine va_zald X.1.1 X.1.2.1 X.2 (hY.one hn) 0 t0 rfl ht (vp_in_nI hx hN) hdg ?_
  rw [nI_clamp (by omega)]
  exact kk
theorem mi_ast (X : hm_X p m c cc nL s args Ts own D cl tys) (hY : hm_Y D cl A H0 w H locs) {f : Nat → Int32} {v : Int32} (hn : w n = some (a, .inl (cA, N, .inl f))) (t0 : Nat) (ht : tys[t0]? = some (cA, .int)) (hi : i = nI x) (hx : x < N) (hN : N < 2 ^ 31) (hdg : decode cc pc = .ok (.iastore, 1))
    (kk : ∀ (H1 : Heap) (locs1 : List Loc), hm_Y D cl A H0 (hm_up w n (a, .inl (cA, N, .inl (upd f x v)))) H1 locs1 → W p l e R s m args below meth c H1 locs1 cells slots Q (F0 m (pc + 1) ls rest)) : W p l e R s m args below meth c H locs cells slots Q (F0 m pc ls (.int v :: .int i :: .ref a :: rest)) := by
  subst hi
  refine hm_iast X hY hn t0 ht (vp_in_nI hx hN) hdg ?_
  rw [nI_clamp (by omega)]
  exact kk
theorem ml_ast (X : hm_X p m c cc nL s args Ts own D cl tys) (hY : hm_Y D cl A H0 w H locs) {f : Nat → Int64} {v : Int64} (hn : w n = some (a, .inl (cA, N, .inr (.inl f)))) (t0 : Nat) (ht : tys[t0]? = some (cA, .long)) (hi : i = nI x) (hx : x < N) (hN : N < 2 ^ 31) (hdg : decode cc pc = .ok (.lastore, 1))
    (kk : ∀ (H1 : Heap) (locs1 : List Loc), hm_Y D cl A H0 (hm_up w n (a, .inl (cA, N, .inr (.inl (vp_updL f x v))))) H1 locs1 → W p l e R s m args below meth c H1 locs1 cells slots Q (F0 m (pc + 1) ls rest)) : W p l e R s m args below meth c H locs cells slots Q (F0 m pc ls (.long v :: .int i :: .ref a :: rest)) := by
  subst hi
  refine hm_last X hY hn t0 ht (vp_in_nI hx hN) hdg ?_
  rw [nI_clamp (by omega)]
  exact kk
theorem mz_ast (X : hm_X p m c cc nL s args Ts own D cl tys) (hY : hm_Y D cl A H0 w H locs) {f : Nat → Int32} {v : Int32} (hn : w n = some (a, .inl (cA, N, .inl f))) (t0 : Nat) (ht : tys[t0]? = some (cA, .boolean)) (hi : i = nI x) (hx : x < N) (hN : N < 2 ^ 31) (hv : vp_nar .boolean v = v) (hdg : decode cc pc = .ok (.bastore, 1))
    (kk : ∀ (H1 : Heap) (locs1 : List Loc), hm_Y D cl A H0 (hm_up w n (a, .inl (cA, N, .inl (upd f x v)))) H1 locs1 → W p l e R s m args below meth c H1 locs1 cells slots Q (F0 m (pc + 1) ls rest)) : W p l e R s m args below meth c H locs cells slots Q (F0 m pc ls (.int v :: .int i :: .ref a :: rest)) := by
  subst hi
  have hin := vp_in_nI hx hN
  refine W.zast X.1.1 X.1.2.1 (hY.1 n _ hn) ((X.2.2 t0 _ ht).1 N (fun j => .int (f j))) (fun q => by cases q) (by show ¬ (nI x < 0 ∨ (arrV _ _ _).slots.size ≤ _); rw [arrV_size]; exact hin) rfl rfl hdg fun H1 e z oq => ?_
  refine kk H1 _ (hY.set hn ?_ z oq _)
  show H1[a]? = some (vp_cell _ _)
  have hv' : narrow .boolean (.int v) = .int v := congrArg Value.int hv
  rw [e, vp_cell_i, vp_cell_i, arrV_store, nI_clamp (by omega)]
  congr 2
  funext q
  by_cases hq : q = x
  · subst hq
    simp [updV, upd]
    try exact hv'
  · simp [updV, upd, hq]
end MS2
