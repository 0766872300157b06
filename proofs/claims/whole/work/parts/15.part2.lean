def pP (S : cS) (i : Nat) (mo p : Int32) (t : Int64) : cS :=
  if S.I 13 i 0 = 2 then S.sI 16 i 0 p
  else if hE S i (mo * 31 + S.I 16 i 0) p then
    (if p = 1 then (bD (eD (S.sI 16 i 0 p) i p t ((S.sI 16 i 0 p).C 1 i)) i mo p t ((eD (S.sI 16 i 0 p) i p t ((S.sI 16 i 0 p).C 1 i)).C 1 i)).sI 15 i 0 ((bD (eD (S.sI 16 i 0 p) i p t ((S.sI 16 i 0 p).C 1 i)) i mo p t ((eD (S.sI 16 i 0 p) i p t ((S.sI 16 i 0 p).C 1 i)).C 1 i)).I 15 i 0 + 1)
     else bD (eD (S.sI 16 i 0 p) i p t ((S.sI 16 i 0 p).C 1 i)) i mo p t ((eD (S.sI 16 i 0 p) i p t ((S.sI 16 i 0 p).C 1 i)).C 1 i))
  else (S.sI 16 i 0 p).sI 13 i 0 2
theorem pP_k (S : cS) (i : Nat) (mo p : Int32) (t : Int64) : (pP S i mo p t).C = S.C ∧ (pP S i mo p t).ad = S.ad := by
  have h1 := eD_k (S.sI 16 i 0 p) i p t ((S.sI 16 i 0 p).C 1 i)
  have h2 := bD_k (eD (S.sI 16 i 0 p) i p t ((S.sI 16 i 0 p).C 1 i)) i mo p t ((eD (S.sI 16 i 0 p) i p t ((S.sI 16 i 0 p).C 1 i)).C 1 i)
  unfold pP
  split
  · exact ⟨rfl, rfl⟩
  · split
    · split
      · exact ⟨h2.1.trans h1.1, h2.2.trans h1.2⟩
      · exact ⟨h2.1.trans h1.1, h2.2.trans h1.2⟩
    · exact ⟨rfl, rfl⟩
/-- passCycle: behind the deadlines -/
def pc1 (S : cS) (i : Nat) (ag : Int32) : cS :=
  if S.J 10 i 0 ≤ 0 then S else if ag.toInt64 - ag.toInt64 / S.J 10 i 0 * S.J 10 i 0 = 0 then cA S i ag else S
def pC (S : cS) (i : Nat) (ag : Int32) (t : Int64) : cS := if S.I 13 i 0 = 2 then S else (jU (pc1 (sD S i t (S.C 1 i)) i ag) i).sI 17 i 0 0
theorem cA_k (S : cS) (i : Nat) (ag : Int32) : (cA S i ag).C = S.C ∧ (cA S i ag).ad = S.ad := by
  unfold cA
  repeat' split
  all_goals exact ⟨rfl, rfl⟩
theorem jU_k (S : cS) (i : Nat) : (jU S i).C = S.C ∧ (jU S i).ad = S.ad := by
  unfold jU
  repeat' split
  all_goals exact ⟨rfl, rfl⟩
theorem pc1_k (S : cS) (i : Nat) (ag : Int32) : (pc1 S i ag).C = S.C ∧ (pc1 S i ag).ad = S.ad := by
  unfold pc1
  repeat' split
  · exact ⟨rfl, rfl⟩
  · exact cA_k S i ag
  · exact ⟨rfl, rfl⟩
theorem pC_k (S : cS) (i : Nat) (ag : Int32) (t : Int64) : (pC S i ag t).C = S.C ∧ (pC S i ag t).ad = S.ad := by
  have h1 := sD_k S i t (S.C 1 i)
  have h2 := pc1_k (sD S i t (S.C 1 i)) i ag
  have h3 := jU_k (pc1 (sD S i t (S.C 1 i)) i ag) i
  unfold pC
  split
  · exact ⟨rfl, rfl⟩
  · exact ⟨h3.1.trans (h2.1.trans h1.1), h3.2.trans (h2.2.trans h1.2)⟩
theorem fC_k (S : cS) (i : Nat) : (fC S i).C = S.C ∧ (fC S i).ad = S.ad := fDs_k (((S.sI 15 i 0 0).sI 17 i 0 0).sI 16 i 0 0) i (S.C 1 i)
theorem bA_k (S : cS) (i : Nat) : (bA S i).C = S.C ∧ (bA S i).ad = S.ad := fC_k S i

set_option maxHeartbeats 4000000 in
set_option maxRecDepth 100000 in
theorem k_P_checkAliveCount (l : Launch) (D : va_G) (A : Nat → Prop) (G : Nat → Nat) (S : cS) (ω : hm_T) (i : Nat) (hi : i < S.C 0 0) (ag : Int32) : Met l y_P_checkAliveCount (.code y_P_checkAliveCount c_P_checkAliveCount 2 (none : Option FieldType) :: wsA) { frames := 1, cells := 0, slots := 0, locals := 25 } (va_Pc [.ref (S.ad 4 i 0), .int ag] (ctU D A G (wS G S ω))) (hm_Q D cls A (fun v w => v = none ∧ w = wS G (cA S i ag) ω)) 0 0 A := by
  refine ct_met (by decide) (Nat.le_of_ble_eq_true rfl) ?_
  rintro p e s m below meth c ls X hr hlocks hnm hl ⟨hB, hK⟩
  have hl : lv_has ls 2 [(0, .ref (S.ad 4 i 0)), (1, .int ag)] := hl
  have hY : hm_Y D cls A s.heap (wS G S ω) s.heap [] := hm_Y.start hB hK.2.2.2
  refine lv_iload_n X.1 X.2.1 d_P_checkAliveCount_0 rfl (lv_at hl 1 rfl) ?_
  refine lv_iconst (v := 2) X.1 X.2.1 d_P_checkAliveCount_1 (by decide) ?_
  refine lv_icmp_le (tgt := 31) X.1 X.2.1 d_P_checkAliveCount_2 (by decide) (fun c1 => ?_) (fun c1 => ?_)
  · refine lv_aload_n X.1 X.2.1 d_P_checkAliveCount_31 rfl (lv_at hl 0 rfl) ?_
    refine lv_iconst (v := 0) X.1 X.2.1 d_P_checkAliveCount_32 (by decide) ?_
    refine hm_put ⟨X, hK.1⟩ hY (w4 hi) 8 rfl (Nat.le_of_ble_eq_true rfl) (Nat.le_of_ble_eq_true rfl) hu_P ty_P ty_P_ok nm_P m_454 (fun _ h => h) rfl rfl rfl d_P_checkAliveCount_33 (fun H locs hY => ?_)
    have hY : hm_Y D cls A s.heap (wS G (S.sI 15 i 0 0) ω) H locs := by rw [← fo_P_8 (S := S) (v := 0) hi]; exact hY
    exact en_vW X hY hr hlocks d_P_checkAliveCount_36 (⟨rfl, by rw [cA, if_pos c1]⟩)
  · refine lv_aload_n X.1 X.2.1 d_P_checkAliveCount_5 rfl (lv_at hl 0 rfl) ?_
    refine hm_get ⟨X, hK.1⟩ hY (w4 hi) 8 (v := .int (S.I 15 i 0)) rfl rfl (Nat.le_of_ble_eq_true rfl) hu_P m_454 (fun _ h => h) d_P_checkAliveCount_6 ?_
    refine lv_i2l (v := (S.I 15 i 0).toInt64) X.1 X.2.1 d_P_checkAliveCount_9 rfl ?_
    refine lv_aload_n X.1 X.2.1 d_P_checkAliveCount_10 rfl (lv_at hl 0 rfl) ?_
    refine hm_get ⟨X, hK.1⟩ hY (w4 hi) 0 (v := .int (S.I 10 i 0)) rfl rfl (Nat.le_of_ble_eq_true rfl) hu_P m_443 (fun _ h => h) d_P_checkAliveCount_11 ?_
    refine lv_i2l (v := (S.I 10 i 0).toInt64) X.1 X.2.1 d_P_checkAliveCount_14 rfl ?_
    refine lv_aload_n X.1 X.2.1 d_P_checkAliveCount_15 rfl (lv_at hl 0 rfl) ?_
    refine hm_get ⟨X, hK.1⟩ hY (w4 hi) 1 (v := .int (S.I 11 i 0)) rfl rfl (Nat.le_of_ble_eq_true rfl) hu_P m_444 (fun _ h => h) d_P_checkAliveCount_16 ?_
    refine lv_i2l (v := (S.I 11 i 0).toInt64) X.1 X.2.1 d_P_checkAliveCount_19 rfl ?_
    refine hm_callR (ct_runN (n := 3) X hK hY (k_W_isWithin l D A G (wS G S ω) (S.I 15 i 0).toInt64 (S.I 10 i 0).toInt64 (S.I 11 i 0).toInt64) m_119 hK.2.1.1 m_118 m_1 (by decide +kernel) ⟨Nat.le_of_ble_eq_true rfl, Nat.le_of_ble_eq_true rfl⟩ ⟨rfl, rfl⟩ rfl hl.1 rfl (Nat.le_of_ble_eq_true rfl) d_P_checkAliveCount_20 ⟨Nat.le_of_ble_eq_true rfl, Nat.le_of_ble_eq_true rfl⟩) (fun v hv => ?_)
    subst hv
    refine W.eq (g2 := F0 m 23 ls [.int (b2 ((S.I 10 i 0).toInt64 ≤ (S.I 15 i 0).toInt64 ∧ (S.I 15 i 0).toInt64 ≤ (S.I 11 i 0).toInt64))]) rfl ?_
    refine lv_if_ne (tgt := 31) X.1 X.2.1 d_P_checkAliveCount_23 (by decide) (fun c2 => ?_) (fun c2 => ?_)
    · have c2 : ((S.I 10 i 0).toInt64 ≤ (S.I 15 i 0).toInt64 ∧ (S.I 15 i 0).toInt64 ≤ (S.I 11 i 0).toInt64) := Classical.byContradiction (fun z => c2 (b2_0.mpr z))
      refine lv_aload_n X.1 X.2.1 d_P_checkAliveCount_31 rfl (lv_at hl 0 rfl) ?_
      refine lv_iconst (v := 0) X.1 X.2.1 d_P_checkAliveCount_32 (by decide) ?_
      refine hm_put ⟨X, hK.1⟩ hY (w4 hi) 8 rfl (Nat.le_of_ble_eq_true rfl) (Nat.le_of_ble_eq_true rfl) hu_P ty_P ty_P_ok nm_P m_454 (fun _ h => h) rfl rfl rfl d_P_checkAliveCount_33 (fun H locs hY => ?_)
      have hY : hm_Y D cls A s.heap (wS G (S.sI 15 i 0 0) ω) H locs := by rw [← fo_P_8 (S := S) (v := 0) hi]; exact hY
      exact en_vW X hY hr hlocks d_P_checkAliveCount_36 (⟨rfl, by rw [cA, if_neg c1, if_pos c2]⟩)
    · have c2 : ¬ ((S.I 10 i 0).toInt64 ≤ (S.I 15 i 0).toInt64 ∧ (S.I 15 i 0).toInt64 ≤ (S.I 11 i 0).toInt64) := b2_0.mp c2
      refine lv_aload_n X.1 X.2.1 d_P_checkAliveCount_26 rfl (lv_at hl 0 rfl) ?_
      refine lv_iconst (v := 1) X.1 X.2.1 d_P_checkAliveCount_27 (by decide) ?_
      refine hm_put ⟨X, hK.1⟩ hY (w4 hi) 10 rfl (Nat.le_of_ble_eq_true rfl) (Nat.le_of_ble_eq_true rfl) hu_P ty_P ty_P_ok nm_P m_456 (fun _ h => h) rfl rfl rfl d_P_checkAliveCount_28 (fun H locs hY => ?_)
      have hY : hm_Y D cls A s.heap (wS G (S.sI 17 i 0 1) ω) H locs := by rw [← fo_P_10 (S := S) (v := 1) hi]; exact hY
      refine lv_aload_n X.1 X.2.1 d_P_checkAliveCount_31 rfl (lv_at hl 0 rfl) ?_
      refine lv_iconst (v := 0) X.1 X.2.1 d_P_checkAliveCount_32 (by decide) ?_
      refine hm_put ⟨X, hK.1⟩ hY (w4 hi) 8 rfl (Nat.le_of_ble_eq_true rfl) (Nat.le_of_ble_eq_true rfl) hu_P ty_P ty_P_ok nm_P m_454 (fun _ h => h) rfl rfl rfl d_P_checkAliveCount_33 (fun H locs hY => ?_)
      have hY : hm_Y D cls A s.heap (wS G ((S.sI 17 i 0 1).sI 15 i 0 0) ω) H locs := by rw [← fo_P_8 (S := (S.sI 17 i 0 1)) (v := 0) hi]; exact hY
      exact en_vW X hY hr hlocks d_P_checkAliveCount_36 (⟨rfl, by rw [cA, if_neg c1, if_neg c2]⟩)

set_option maxHeartbeats 4000000 in
set_option maxRecDepth 100000 in
theorem k_P_judge (l : Launch) (D : va_G) (A : Nat → Prop) (G : Nat → Nat) (S : cS) (ω : hm_T) (i : Nat) (hi : i < S.C 0 0) : Met l y_P_judge (.code y_P_judge c_P_judge 1 (none : Option FieldType) :: wsA) { frames := 0, cells := 0, slots := 0, locals := 0 } (va_Pc [.ref (S.ad 4 i 0)] (ctU D A G (wS G S ω))) (hm_Q D cls A (fun v w => v = none ∧ w = wS G (jU S i) ω)) 0 0 A := by
  refine ct_met (by decide) (Nat.le_of_ble_eq_true rfl) ?_
  rintro p e s m below meth c ls X hr hlocks hnm hl ⟨hB, hK⟩
  have hl : lv_has ls 1 [(0, .ref (S.ad 4 i 0))] := hl
  have hY : hm_Y D cls A s.heap (wS G S ω) s.heap [] := hm_Y.start hB hK.2.2.2
  refine lv_aload_n X.1 X.2.1 d_P_judge_0 rfl (lv_at hl 0 rfl) ?_
  refine hm_get ⟨X, hK.1⟩ hY (w4 hi) 10 (v := .int (S.I 17 i 0)) rfl rfl (Nat.le_of_ble_eq_true rfl) hu_P m_456 (fun _ h => h) d_P_judge_1 ?_
  refine lv_if_eq (tgt := 40) X.1 X.2.1 d_P_judge_4 (by decide) (fun c1 => ?_) (fun c1 => ?_)
  · refine lv_aload_n X.1 X.2.1 d_P_judge_40 rfl (lv_at hl 0 rfl) ?_
    refine hm_get ⟨X, hK.1⟩ hY (w4 hi) 6 (v := .int (S.I 13 i 0)) rfl rfl (Nat.le_of_ble_eq_true rfl) hu_P m_451 (fun _ h => h) d_P_judge_41 ?_
    refine lv_iconst (v := 1) X.1 X.2.1 d_P_judge_44 (by decide) ?_
    refine lv_icmp_ne (tgt := 74) X.1 X.2.1 d_P_judge_45 (by decide) (fun c2 => ?_) (fun c2 => ?_)
    · exact en_vW X hY hr hlocks d_P_judge_74 (⟨rfl, by rw [jU, if_pos c1, if_neg c2]⟩)
    · refine lv_aload_n X.1 X.2.1 d_P_judge_48 rfl (lv_at hl 0 rfl) ?_
      refine lv_dup X.1 X.2.1 d_P_judge_49 rfl ?_
      refine hm_get ⟨X, hK.1⟩ hY (w4 hi) 7 (v := .int (S.I 14 i 0)) rfl rfl (Nat.le_of_ble_eq_true rfl) hu_P m_453 (fun _ h => h) d_P_judge_50 ?_
      refine lv_iconst (v := 1) X.1 X.2.1 d_P_judge_53 (by decide) ?_
      refine lv_isub X.1 X.2.1 d_P_judge_54 ?_
      refine hm_put ⟨X, hK.1⟩ hY (w4 hi) 7 rfl (Nat.le_of_ble_eq_true rfl) (Nat.le_of_ble_eq_true rfl) hu_P ty_P ty_P_ok nm_P m_453 (fun _ h => h) rfl rfl rfl d_P_judge_55 (fun H locs hY => ?_)
      have hY : hm_Y D cls A s.heap (wS G (S.sI 14 i 0 ((S.I 14 i 0) - 1)) ω) H locs := by rw [← fo_P_7 (S := S) (v := (S.I 14 i 0) - 1) hi]; exact hY
      refine lv_aload_n X.1 X.2.1 d_P_judge_58 rfl (lv_at hl 0 rfl) ?_
      refine lv_aload_n X.1 X.2.1 d_P_judge_59 rfl (lv_at hl 0 rfl) ?_
      refine hm_get ⟨X, hK.1⟩ hY (w4 hi) 7 (v := .int ((S.I 14 i 0) - 1)) (by simp [fW, fQ, fP, fD, cS.sI, cS.sJ, cS.sA, cS.sC, cS.I, cS.J, cS.ad, cS.C, up3]) rfl (Nat.le_of_ble_eq_true rfl) hu_P m_453 (fun _ h => h) d_P_judge_60 ?_
      refine lv_if_le (tgt := 70) X.1 X.2.1 d_P_judge_63 (by decide) (fun c3 => ?_) (fun c3 => ?_)
      · refine lv_iconst (v := 0) X.1 X.2.1 d_P_judge_70 (by decide) ?_
        refine hm_put ⟨X, hK.1⟩ hY (w4 hi) 6 rfl (Nat.le_of_ble_eq_true rfl) (Nat.le_of_ble_eq_true rfl) hu_P ty_P ty_P_ok nm_P m_451 (fun _ h => h) rfl rfl rfl d_P_judge_71 (fun H locs hY => ?_)
        have hY : hm_Y D cls A s.heap (wS G ((S.sI 14 i 0 ((S.I 14 i 0) - 1)).sI 13 i 0 0) ω) H locs := by rw [← fo_P_6 (S := (S.sI 14 i 0 ((S.I 14 i 0) - 1))) (v := 0) hi]; exact hY
        exact en_vW X hY hr hlocks d_P_judge_74 (⟨rfl, by rw [jU, if_pos c1, if_pos c2, if_pos c3]⟩)
      · refine lv_iconst (v := 1) X.1 X.2.1 d_P_judge_66 (by decide) ?_
        refine lv_goto (tgt := 71) X.1 X.2.1 d_P_judge_67 (by decide) ?_
        refine hm_put ⟨X, hK.1⟩ hY (w4 hi) 6 rfl (Nat.le_of_ble_eq_true rfl) (Nat.le_of_ble_eq_true rfl) hu_P ty_P ty_P_ok nm_P m_451 (fun _ h => h) rfl rfl rfl d_P_judge_71 (fun H locs hY => ?_)
        have hY : hm_Y D cls A s.heap (wS G ((S.sI 14 i 0 ((S.I 14 i 0) - 1)).sI 13 i 0 1) ω) H locs := by rw [← fo_P_6 (S := (S.sI 14 i 0 ((S.I 14 i 0) - 1))) (v := 1) hi]; exact hY
        exact en_vW X hY hr hlocks d_P_judge_74 (⟨rfl, by rw [jU, if_pos c1, if_pos c2, if_neg c3]⟩)
  · refine lv_aload_n X.1 X.2.1 d_P_judge_7 rfl (lv_at hl 0 rfl) ?_
    refine lv_dup X.1 X.2.1 d_P_judge_8 rfl ?_
    refine hm_get ⟨X, hK.1⟩ hY (w4 hi) 7 (v := .int (S.I 14 i 0)) rfl rfl (Nat.le_of_ble_eq_true rfl) hu_P m_453 (fun _ h => h) d_P_judge_9 ?_
    refine lv_iconst (v := 1) X.1 X.2.1 d_P_judge_12 (by decide) ?_
    refine lv_iadd X.1 X.2.1 d_P_judge_13 ?_
    refine hm_put ⟨X, hK.1⟩ hY (w4 hi) 7 rfl (Nat.le_of_ble_eq_true rfl) (Nat.le_of_ble_eq_true rfl) hu_P ty_P ty_P_ok nm_P m_453 (fun _ h => h) rfl rfl rfl d_P_judge_14 (fun H locs hY => ?_)
    have hY : hm_Y D cls A s.heap (wS G (S.sI 14 i 0 ((S.I 14 i 0) + 1)) ω) H locs := by rw [← fo_P_7 (S := S) (v := (S.I 14 i 0) + 1) hi]; exact hY
    refine lv_aload_n X.1 X.2.1 d_P_judge_17 rfl (lv_at hl 0 rfl) ?_
    refine lv_aload_n X.1 X.2.1 d_P_judge_18 rfl (lv_at hl 0 rfl) ?_
    refine hm_get ⟨X, hK.1⟩ hY (w4 hi) 7 (v := .int ((S.I 14 i 0) + 1)) (by simp [fW, fQ, fP, fD, cS.sI, cS.sJ, cS.sA, cS.sC, cS.I, cS.J, cS.ad, cS.C, up3]) rfl (Nat.le_of_ble_eq_true rfl) hu_P m_453 (fun _ h => h) d_P_judge_19 ?_
    refine lv_aload_n X.1 X.2.1 d_P_judge_22 rfl (lv_at hl 0 rfl) ?_
    refine hm_get ⟨X, hK.1⟩ hY (w4 hi) 5 (v := .int (S.I 12 i 0)) rfl rfl (Nat.le_of_ble_eq_true rfl) hu_P m_449 (fun _ h => h) d_P_judge_23 ?_
    refine lv_icmp_le (tgt := 33) X.1 X.2.1 d_P_judge_26 (by decide) (fun c4 => ?_) (fun c4 => ?_)
    · refine lv_iconst (v := 1) X.1 X.2.1 d_P_judge_33 (by decide) ?_
      refine hm_put ⟨X, hK.1⟩ hY (w4 hi) 6 rfl (Nat.le_of_ble_eq_true rfl) (Nat.le_of_ble_eq_true rfl) hu_P ty_P ty_P_ok nm_P m_451 (fun _ h => h) rfl rfl rfl d_P_judge_34 (fun H locs hY => ?_)
      have hY : hm_Y D cls A s.heap (wS G ((S.sI 14 i 0 ((S.I 14 i 0) + 1)).sI 13 i 0 1) ω) H locs := by rw [← fo_P_6 (S := (S.sI 14 i 0 ((S.I 14 i 0) + 1))) (v := 1) hi]; exact hY
      refine lv_goto (tgt := 74) X.1 X.2.1 d_P_judge_37 (by decide) ?_
      exact en_vW X hY hr hlocks d_P_judge_74 (⟨rfl, by rw [jU, if_neg c1, if_pos c4]⟩)
    · refine lv_iconst (v := 2) X.1 X.2.1 d_P_judge_29 (by decide) ?_
      refine lv_goto (tgt := 34) X.1 X.2.1 d_P_judge_30 (by decide) ?_
      refine hm_put ⟨X, hK.1⟩ hY (w4 hi) 6 rfl (Nat.le_of_ble_eq_true rfl) (Nat.le_of_ble_eq_true rfl) hu_P ty_P ty_P_ok nm_P m_451 (fun _ h => h) rfl rfl rfl d_P_judge_34 (fun H locs hY => ?_)
      have hY : hm_Y D cls A s.heap (wS G ((S.sI 14 i 0 ((S.I 14 i 0) + 1)).sI 13 i 0 2) ω) H locs := by rw [← fo_P_6 (S := (S.sI 14 i 0 ((S.I 14 i 0) + 1))) (v := 2) hi]; exact hY
      refine lv_goto (tgt := 74) X.1 X.2.1 d_P_judge_37 (by decide) ?_
      exact en_vW X hY hr hlocks d_P_judge_74 (⟨rfl, by rw [jU, if_neg c1, if_neg c4]⟩)

set_option maxHeartbeats 4000000 in
set_option maxRecDepth 100000 in
theorem k_P_forgetCourse (l : Launch) (D : va_G) (A : Nat → Prop) (G : Nat → Nat) (S : cS) (ω : hm_T) (i : Nat) (hi : i < S.C 0 0) (h10 : S.C 1 i ≤ 10) : Met l y_P_forgetCourse (.code y_P_forgetCourse c_P_forgetCourse 2 (none : Option FieldType) :: wsA) { frames := 3, cells := 0, slots := 0, locals := 64 } (va_Pc [.ref (S.ad 4 i 0)] (ctU D A G (wS G S ω))) (hm_Q D cls A (fun v w => v = none ∧ w = wS G (fC S i) ω)) 0 0 A := by
  refine ct_met (by decide) (Nat.le_of_ble_eq_true rfl) ?_
  rintro p e s m below meth c ls X hr hlocks hnm hl ⟨hB, hK⟩
  have hl : lv_has ls 2 [(0, .ref (S.ad 4 i 0))] := hl
  have hY : hm_Y D cls A s.heap (wS G S ω) s.heap [] := hm_Y.start hB hK.2.2.2
  refine lv_aload_n X.1 X.2.1 d_P_forgetCourse_0 rfl (lv_at hl 0 rfl) ?_
  refine lv_iconst (v := 0) X.1 X.2.1 d_P_forgetCourse_1 (by decide) ?_
  refine hm_put ⟨X, hK.1⟩ hY (w4 hi) 8 rfl (Nat.le_of_ble_eq_true rfl) (Nat.le_of_ble_eq_true rfl) hu_P ty_P ty_P_ok nm_P m_454 (fun _ h => h) rfl rfl rfl d_P_forgetCourse_2 (fun H locs hY => ?_)
  have hY : hm_Y D cls A s.heap (wS G (S.sI 15 i 0 0) ω) H locs := by rw [← fo_P_8 (S := S) (v := 0) hi]; exact hY
  refine lv_aload_n X.1 X.2.1 d_P_forgetCourse_5 rfl (lv_at hl 0 rfl) ?_
  refine lv_iconst (v := 0) X.1 X.2.1 d_P_forgetCourse_6 (by decide) ?_
  refine hm_put ⟨X, hK.1⟩ hY (w4 hi) 10 rfl (Nat.le_of_ble_eq_true rfl) (Nat.le_of_ble_eq_true rfl) hu_P ty_P ty_P_ok nm_P m_456 (fun _ h => h) rfl rfl rfl d_P_forgetCourse_7 (fun H locs hY => ?_)
  have hY : hm_Y D cls A s.heap (wS G ((S.sI 15 i 0 0).sI 17 i 0 0) ω) H locs := by rw [← fo_P_10 (S := (S.sI 15 i 0 0)) (v := 0) hi]; exact hY
  refine lv_aload_n X.1 X.2.1 d_P_forgetCourse_10 rfl (lv_at hl 0 rfl) ?_
  refine lv_iconst (v := 0) X.1 X.2.1 d_P_forgetCourse_11 (by decide) ?_
  refine hm_put ⟨X, hK.1⟩ hY (w4 hi) 9 rfl (Nat.le_of_ble_eq_true rfl) (Nat.le_of_ble_eq_true rfl) hu_P ty_P ty_P_ok nm_P m_455 (fun _ h => h) rfl rfl rfl d_P_forgetCourse_12 (fun H locs hY => ?_)
  have hY : hm_Y D cls A s.heap (wS G (((S.sI 15 i 0 0).sI 17 i 0 0).sI 16 i 0 0) ω) H locs := by rw [← fo_P_9 (S := ((S.sI 15 i 0 0).sI 17 i 0 0)) (v := 0) hi]; exact hY
  refine lv_iconst (v := 0) X.1 X.2.1 d_P_forgetCourse_15 (by decide) ?_
  refine lv_istore_n (lv' := [(1, .int 0), (0, .ref (S.ad 4 i 0))]) X.1 X.2.1 d_P_forgetCourse_16 rfl hl (by decide) rfl (fun ls hl => ?_)
  have loop : ∀ (k j : Nat) (T : cS) (ls : Array Slot) (H : Heap) (locs : List Loc), j ≤ S.C 1 i → S.C 1 i < j + k → T = fDs (((S.sI 15 i 0 0).sI 17 i 0 0).sI 16 i 0 0) i j → T.C = S.C → hm_Y D cls A s.heap (wS G T ω) H locs → lv_has ls 2 [(1, .int (nI j)), (0, .ref (T.ad 4 i 0))] → W p l e { frames := 3, cells := 0, slots := 0, locals := 64 } s m (([.ref (S.ad 4 i 0)] : List Value).toArray) below meth c H locs 0 0 (MQ below (hm_Q D cls A (fun v w => v = none ∧ w = wS G (fC S i) ω)) (([.ref (S.ad 4 i 0)] : List Value).toArray) s 0 0 A) (F0 m 17 ls []) := by
    intro k
    induction k with
    | zero => intro j T ls H locs hle hlt; omega
    | succ k ih =>
      intro j T ls H locs hle hlt hT hC hY hl
      have hiT : i < T.C 0 0 := by rw [hC]; exact hi
      refine lv_iload_n X.1 X.2.1 d_P_forgetCourse_17 rfl (lv_at hl 0 rfl) ?_
      refine lv_aload_n X.1 X.2.1 d_P_forgetCourse_18 rfl (lv_at hl 1 rfl) ?_
      refine hm_get ⟨X, hK.1⟩ hY (w4 hiT) 4 (v := .ref (T.ad 6 i 0)) rfl rfl (Nat.le_of_ble_eq_true rfl) hu_P m_447 (fun _ h => h) d_P_forgetCourse_19 ?_
      refine hm_callR (ct_runV (n := 0) X hK hY (k_size6 l D A G T ω i hiT) m_116 m_263 m_114 m_115 m_4 (by decide +kernel) ⟨Nat.le_of_ble_eq_true rfl, Nat.le_of_ble_eq_true rfl⟩ ⟨rfl, rfl⟩ (hm_recv ⟨X, hK.1⟩ hY (w6 hiT) rfl) rfl hl.1 rfl (Nat.le_of_ble_eq_true rfl) d_P_forgetCourse_22 ⟨Nat.le_of_ble_eq_true rfl, Nat.le_of_ble_eq_true rfl⟩) (fun v hv => ?_)
      subst hv
      refine W.eq (g2 := F0 m 25 ls [.int (nI (T.C 1 i)), .int (nI j)]) rfl ?_
      have hn : T.C 1 i = S.C 1 i := by rw [hC]
      refine lv_icmp_ge (tgt := 49) X.1 X.2.1 d_P_forgetCourse_25 (by decide) (fun c0 => ?_) (fun c0 => ?_)
      · have hj : j = T.C 1 i := by rcases Nat.lt_or_ge j (T.C 1 i) with q | q; exact absurd c0 (nI_ge q (by omega)); omega
        exact en_vW X hY hr hlocks d_P_forgetCourse_49 (⟨rfl, by rw [hT, hj, hn]; rfl⟩)
      · have hj : j < T.C 1 i := by rcases Nat.lt_or_ge j (T.C 1 i) with q | q; exact q; exact absurd (nI_le q (by omega)) c0
        refine lv_aload_n X.1 X.2.1 d_P_forgetCourse_28 rfl (lv_at hl 1 rfl) ?_
        refine hm_get ⟨X, hK.1⟩ hY (w4 hiT) 4 (v := .ref (T.ad 6 i 0)) rfl rfl (Nat.le_of_ble_eq_true rfl) hu_P m_447 (fun _ h => h) d_P_forgetCourse_29 ?_
        refine lv_iload_n X.1 X.2.1 d_P_forgetCourse_32 rfl (lv_at hl 0 rfl) ?_
        refine hm_callR (ct_runV (n := 1) X hK hY (k_get6 l D A G T ω i j hiT hj (by rw [hC]; exact h10)) m_123 m_264 m_121 m_122 m_4 (by decide +kernel) ⟨Nat.le_of_ble_eq_true rfl, Nat.le_of_ble_eq_true rfl⟩ ⟨rfl, rfl⟩ (hm_recv ⟨X, hK.1⟩ hY (w6 hiT) rfl) rfl hl.1 rfl (Nat.le_of_ble_eq_true rfl) d_P_forgetCourse_33 ⟨Nat.le_of_ble_eq_true rfl, Nat.le_of_ble_eq_true rfl⟩) (fun v hv => ?_)
        subst hv
        refine W.eq (g2 := F0 m 36 ls [.ref (T.ad 8 i j)]) rfl ?_
        refine va_castY X.1 X.2.1 X.2.2.2.1 (X.2.2.2.2 _ m_265) hK.2.1.2.2.2.1 (hm_recv ⟨X, hK.1⟩ hY (w8 hiT hj) rfl) d_P_forgetCourse_36 ?_
        refine lv_iconst (v := 0) X.1 X.2.1 d_P_forgetCourse_39 (by decide) ?_
        refine hm_put ⟨X, hK.1⟩ hY (w8 hiT hj) 5 rfl (Nat.le_of_ble_eq_true rfl) (Nat.le_of_ble_eq_true rfl) hu_D ty_D ty_D_ok nm_D m_173 (fun _ h => h) rfl rfl rfl d_P_forgetCourse_40 (fun H locs hY => ?_)
        have hY : hm_Y D cls A s.heap (wS G (T.sI 23 i j 0) ω) H locs := by rw [← fo_D_5 (S := T) (v := 0) hiT hj]; exact hY
        refine lv_iinc (v := nI (j + 1)) (lv' := [(1, .int (nI (j + 1))), (0, .ref (T.ad 4 i 0))]) X.1 X.2.1 d_P_forgetCourse_43 hl (k := 0) rfl (nI_1 j) (by decide) rfl (fun ls hl => ?_)
        refine lv_goto (tgt := 17) X.1 X.2.1 d_P_forgetCourse_46 (by decide) ?_
        exact ih (j + 1) (T.sI 23 i j 0) _ _ _ (by omega) (by omega) (by rw [show fDs (((S.sI 15 i 0 0).sI 17 i 0 0).sI 16 i 0 0) i (j + 1) = fD1 (fDs (((S.sI 15 i 0 0).sI 17 i 0 0).sI 16 i 0 0) i j) i j from rfl, ← hT, fD1]) hC hY (lv_sub hl [0, 1] rfl)
  exact loop (S.C 1 i + 1) 0 (((S.sI 15 i 0 0).sI 17 i 0 0).sI 16 i 0 0) ls _ _ (Nat.zero_le _) (by omega) rfl rfl hY (lv_sub hl [0, 1] rfl)

set_option maxHeartbeats 4000000 in
set_option maxRecDepth 100000 in
theorem k_P_passPoint (l : Launch) (D : va_G) (A : Nat → Prop) (G : Nat → Nat) (S : cS) (ω : hm_T) (i : Nat) (hi : i < S.C 0 0) (h10 : S.C 1 i ≤ 10) (mo p0 : Int32) (t : Int64) : Met l y_P_passPoint (.code y_P_passPoint c_P_passPoint 6 (none : Option FieldType) :: wsA) { frames := 4, cells := 0, slots := 0, locals := 90 } (va_Pc [.ref (S.ad 4 i 0), .int mo, .int p0, .long t] (ctU D A G (wS G S ω))) (hm_Q D cls A (fun v w => v = none ∧ w = wS G (pP S i mo p0 t) ω)) 0 0 A := by
  refine ct_met (by decide) (Nat.le_of_ble_eq_true rfl) ?_
  rintro p e s m below meth c ls X hr hlocks hnm hl ⟨hB, hK⟩
  have hl : lv_has ls 6 [(0, .ref (S.ad 4 i 0)), (1, .int mo), (2, .int p0), (3, .long t)] := hl
  have hY : hm_Y D cls A s.heap (wS G S ω) s.heap [] := hm_Y.start hB hK.2.2.2
  refine lv_aload_n X.1 X.2.1 d_P_passPoint_0 rfl (lv_at hl 0 rfl) ?_
  refine lv_iload_n X.1 X.2.1 d_P_passPoint_1 rfl (lv_at hl 1 rfl) ?_
  refine lv_aload_n X.1 X.2.1 d_P_passPoint_2 rfl (lv_at hl 0 rfl) ?_
  refine hm_get ⟨X, hK.1⟩ hY (w4 hi) 9 (v := .int (S.I 16 i 0)) rfl rfl (Nat.le_of_ble_eq_true rfl) hu_P m_455 (fun _ h => h) d_P_passPoint_3 ?_
  refine lv_iload_n X.1 X.2.1 d_P_passPoint_6 rfl (lv_at hl 2 rfl) ?_
  refine hm_callR (ct_runV (n := 3) X hK hY (k_P_hasEdge l D A G S ω i hi mo (S.I 16 i 0) p0) m_149 m_146 m_147 m_148 m_11 (by decide +kernel) ⟨Nat.le_of_ble_eq_true rfl, Nat.le_of_ble_eq_true rfl⟩ ⟨rfl, rfl⟩ (hm_recv ⟨X, hK.1⟩ hY (w4 hi) rfl) rfl hl.1 rfl (Nat.le_of_ble_eq_true rfl) d_P_passPoint_7 ⟨Nat.le_of_ble_eq_true rfl, Nat.le_of_ble_eq_true rfl⟩) (fun v hv => ?_)
  subst hv
  refine W.eq (g2 := F0 m 10 ls [.int (b2 (hE S i (mo * 31 + S.I 16 i 0) p0))]) rfl ?_
  refine lv_istore (lv' := [(5, .int (b2 (hE S i (mo * 31 + S.I 16 i 0) p0))), (0, .ref (S.ad 4 i 0)), (1, .int mo), (2, .int p0), (3, .long t)]) X.1 X.2.1 d_P_passPoint_10 hl (by decide) rfl (fun ls hl => ?_)
  refine lv_aload_n X.1 X.2.1 d_P_passPoint_12 rfl (lv_at hl 1 rfl) ?_
  refine lv_iload_n X.1 X.2.1 d_P_passPoint_13 rfl (lv_at hl 3 rfl) ?_
  refine hm_put ⟨X, hK.1⟩ hY (w4 hi) 9 rfl (Nat.le_of_ble_eq_true rfl) (Nat.le_of_ble_eq_true rfl) hu_P ty_P ty_P_ok nm_P m_455 (fun _ h => h) rfl rfl rfl d_P_passPoint_14 (fun H locs hY => ?_)
  have hY : hm_Y D cls A s.heap (wS G (S.sI 16 i 0 p0) ω) H locs := by rw [← fo_P_9 (S := S) (v := p0) hi]; exact hY
  refine lv_aload_n X.1 X.2.1 d_P_passPoint_17 rfl (lv_at hl 1 rfl) ?_
  refine hm_get ⟨X, hK.1⟩ hY (w4 hi) 6 (v := .int (S.I 13 i 0)) rfl rfl (Nat.le_of_ble_eq_true rfl) hu_P m_451 (fun _ h => h) d_P_passPoint_18 ?_
  refine lv_iconst (v := 2) X.1 X.2.1 d_P_passPoint_21 (by decide) ?_
  refine lv_icmp_ne (tgt := 26) X.1 X.2.1 d_P_passPoint_22 (by decide) (fun c1 => ?_) (fun c1 => ?_)
  · refine lv_iload X.1 X.2.1 d_P_passPoint_26 (lv_at hl 0 rfl) ?_
    refine lv_if_ne (tgt := 37) X.1 X.2.1 d_P_passPoint_28 (by decide) (fun c2 => ?_) (fun c2 => ?_)
    · have c2 : (hE S i (mo * 31 + S.I 16 i 0) p0) := Classical.byContradiction (fun z => c2 (b2_0.mpr z))
      refine lv_aload_n X.1 X.2.1 d_P_passPoint_37 rfl (lv_at hl 1 rfl) ?_
      refine lv_iload_n X.1 X.2.1 d_P_passPoint_38 rfl (lv_at hl 3 rfl) ?_
      refine lv_lload_n X.1 X.2.1 d_P_passPoint_39 rfl (lv_at hl 4 rfl) ?_
      refine hm_call (ct_runV (n := 2) X hK hY (k_P_endDeadlines l D A G (S.sI 16 i 0 p0) ω i hi h10 p0 t) m_262 m_258 m_260 ms_P_endDeadlines m_11 (by decide +kernel) ⟨Nat.le_of_ble_eq_true rfl, Nat.le_of_ble_eq_true rfl⟩ ⟨rfl, rfl⟩ (hm_recv ⟨X, hK.1⟩ hY (w4 hi) rfl) rfl hl.1 rfl (Nat.le_of_ble_eq_true rfl) d_P_passPoint_40 ⟨Nat.le_of_ble_eq_true rfl, Nat.le_of_ble_eq_true rfl⟩) hY (fun v w1 H locs hp hY => ?_)
      obtain ⟨rfl, rfl⟩ := hp
      refine W.eq (g2 := F0 m 43 ls []) rfl ?_
      obtain ⟨E3, hE3⟩ : ∃ z, z = eD (S.sI 16 i 0 p0) i p0 t ((S.sI 16 i 0 p0).C 1 i) := ⟨_, rfl⟩
      rw [← hE3] at hY
      have hAE3 : E3.ad = S.ad := by rw [hE3]; exact (eD_k (S.sI 16 i 0 p0) i p0 t ((S.sI 16 i 0 p0).C 1 i)).2
      have hCE3 : E3.C = S.C := by rw [hE3]; exact (eD_k (S.sI 16 i 0 p0) i p0 t ((S.sI 16 i 0 p0).C 1 i)).1
      have hiE3 : i < E3.C 0 0 := by rw [hCE3]; exact hi
      have htE3 : E3.C 1 i ≤ 10 := by rw [hCE3]; exact h10
      have hl : lv_has ls 6 [(5, .int (b2 (hE S i (mo * 31 + S.I 16 i 0) p0))), (0, .ref (E3.ad 4 i 0)), (1, .int mo), (2, .int p0), (3, .long t)] := by rw [hAE3]; exact hl
      refine lv_aload_n X.1 X.2.1 d_P_passPoint_43 rfl (lv_at hl 1 rfl) ?_
      refine lv_iload_n X.1 X.2.1 d_P_passPoint_44 rfl (lv_at hl 2 rfl) ?_
      refine lv_iload_n X.1 X.2.1 d_P_passPoint_45 rfl (lv_at hl 3 rfl) ?_
      refine lv_lload_n X.1 X.2.1 d_P_passPoint_46 rfl (lv_at hl 4 rfl) ?_
      refine hm_call (ct_runV (n := 3) X hK hY (k_P_beginDeadlines l D A G E3 ω i hiE3 htE3 mo p0 t) m_269 m_266 m_268 ms_P_beginDeadlines m_11 (by decide +kernel) ⟨Nat.le_of_ble_eq_true rfl, Nat.le_of_ble_eq_true rfl⟩ ⟨rfl, rfl⟩ (hm_recv ⟨X, hK.1⟩ hY (w4 hiE3) rfl) rfl hl.1 rfl (Nat.le_of_ble_eq_true rfl) d_P_passPoint_47 ⟨Nat.le_of_ble_eq_true rfl, Nat.le_of_ble_eq_true rfl⟩) hY (fun v w1 H locs hp hY => ?_)
      obtain ⟨rfl, rfl⟩ := hp
      refine W.eq (g2 := F0 m 50 ls []) rfl ?_
      obtain ⟨E4, hE4⟩ : ∃ z, z = bD E3 i mo p0 t (E3.C 1 i) := ⟨_, rfl⟩
      rw [← hE4] at hY
      have hAE4 : E4.ad = E3.ad := by rw [hE4]; exact (bD_k E3 i mo p0 t (E3.C 1 i)).2
      have hCE4 : E4.C = E3.C := by rw [hE4]; exact (bD_k E3 i mo p0 t (E3.C 1 i)).1
      have hiE4 : i < E4.C 0 0 := by rw [hCE4]; exact hiE3
      have htE4 : E4.C 1 i ≤ 10 := by rw [hCE4]; exact htE3
      have hl : lv_has ls 6 [(5, .int (b2 (hE S i (mo * 31 + S.I 16 i 0) p0))), (0, .ref (E4.ad 4 i 0)), (1, .int mo), (2, .int p0), (3, .long t)] := by rw [hAE4]; exact hl
      refine lv_iload_n X.1 X.2.1 d_P_passPoint_50 rfl (lv_at hl 3 rfl) ?_
      refine lv_iconst (v := 1) X.1 X.2.1 d_P_passPoint_51 (by decide) ?_
      refine lv_icmp_ne (tgt := 65) X.1 X.2.1 d_P_passPoint_52 (by decide) (fun c5 => ?_) (fun c5 => ?_)
      · exact en_vW X hY hr hlocks d_P_passPoint_65 (⟨rfl, by rw [hE4, hE3]; rw [pP, if_neg c1, if_pos c2, if_neg c5]⟩)
      · refine lv_aload_n X.1 X.2.1 d_P_passPoint_55 rfl (lv_at hl 1 rfl) ?_
        refine lv_dup X.1 X.2.1 d_P_passPoint_56 rfl ?_
        refine hm_get ⟨X, hK.1⟩ hY (w4 hiE4) 8 (v := .int (E4.I 15 i 0)) rfl rfl (Nat.le_of_ble_eq_true rfl) hu_P m_454 (fun _ h => h) d_P_passPoint_57 ?_
        refine lv_iconst (v := 1) X.1 X.2.1 d_P_passPoint_60 (by decide) ?_
        refine lv_iadd X.1 X.2.1 d_P_passPoint_61 ?_
        refine hm_put ⟨X, hK.1⟩ hY (w4 hiE4) 8 rfl (Nat.le_of_ble_eq_true rfl) (Nat.le_of_ble_eq_true rfl) hu_P ty_P ty_P_ok nm_P m_454 (fun _ h => h) rfl rfl rfl d_P_passPoint_62 (fun H locs hY => ?_)
        have hY : hm_Y D cls A s.heap (wS G (E4.sI 15 i 0 ((E4.I 15 i 0) + 1)) ω) H locs := by rw [← fo_P_8 (S := E4) (v := (E4.I 15 i 0) + 1) hiE4]; exact hY
        exact en_vW X hY hr hlocks d_P_passPoint_65 (⟨rfl, by rw [hE4, hE3]; rw [pP, if_neg c1, if_pos c2, if_pos c5]⟩)
    · have c2 : ¬ (hE S i (mo * 31 + S.I 16 i 0) p0) := b2_0.mp c2
      refine lv_aload_n X.1 X.2.1 d_P_passPoint_31 rfl (lv_at hl 1 rfl) ?_
      refine lv_iconst (v := 2) X.1 X.2.1 d_P_passPoint_32 (by decide) ?_
      refine hm_put ⟨X, hK.1⟩ hY (w4 hi) 6 rfl (Nat.le_of_ble_eq_true rfl) (Nat.le_of_ble_eq_true rfl) hu_P ty_P ty_P_ok nm_P m_451 (fun _ h => h) rfl rfl rfl d_P_passPoint_33 (fun H locs hY => ?_)
      have hY : hm_Y D cls A s.heap (wS G ((S.sI 16 i 0 p0).sI 13 i 0 2) ω) H locs := by rw [← fo_P_6 (S := (S.sI 16 i 0 p0)) (v := 2) hi]; exact hY
      exact en_vW X hY hr hlocks d_P_passPoint_36 (⟨rfl, by rw [pP, if_neg c1, if_neg c2]⟩)
  · exact en_vW X hY hr hlocks d_P_passPoint_25 (⟨rfl, by rw [pP, if_pos c1]⟩)

set_option maxHeartbeats 4000000 in
set_option maxRecDepth 100000 in
theorem k_P_passCycle (l : Launch) (D : va_G) (A : Nat → Prop) (G : Nat → Nat) (S : cS) (ω : hm_T) (i : Nat) (hi : i < S.C 0 0) (h10 : S.C 1 i ≤ 10) (ag : Int32) (t : Int64) : Met l y_P_passCycle (.code y_P_passCycle c_P_passCycle 4 (none : Option FieldType) :: wsA) { frames := 4, cells := 0, slots := 0, locals := 88 } (va_Pc [.ref (S.ad 4 i 0), .int ag, .long t] (ctU D A G (wS G S ω))) (hm_Q D cls A (fun v w => v = none ∧ w = wS G (pC S i ag t) ω)) 0 0 A := by
  refine ct_met (by decide) (Nat.le_of_ble_eq_true rfl) ?_
  rintro p e s m below meth c ls X hr hlocks hnm hl ⟨hB, hK⟩
  have hl : lv_has ls 4 [(0, .ref (S.ad 4 i 0)), (1, .int ag), (2, .long t)] := hl
  have hY : hm_Y D cls A s.heap (wS G S ω) s.heap [] := hm_Y.start hB hK.2.2.2
  refine lv_aload_n X.1 X.2.1 d_P_passCycle_0 rfl (lv_at hl 0 rfl) ?_
  refine hm_get ⟨X, hK.1⟩ hY (w4 hi) 6 (v := .int (S.I 13 i 0)) rfl rfl (Nat.le_of_ble_eq_true rfl) hu_P m_451 (fun _ h => h) d_P_passCycle_1 ?_
  refine lv_iconst (v := 2) X.1 X.2.1 d_P_passCycle_4 (by decide) ?_
  refine lv_icmp_ne (tgt := 9) X.1 X.2.1 d_P_passCycle_5 (by decide) (fun c1 => ?_) (fun c1 => ?_)
  · refine lv_aload_n X.1 X.2.1 d_P_passCycle_9 rfl (lv_at hl 0 rfl) ?_
    refine lv_lload_n X.1 X.2.1 d_P_passCycle_10 rfl (lv_at hl 2 rfl) ?_
    refine hm_call (ct_runV (n := 1) X hK hY (k_P_stopLateDeadlines l D A G S ω i hi h10 t) m_281 m_278 m_280 ms_P_stopLateDeadlines m_11 (by decide +kernel) ⟨Nat.le_of_ble_eq_true rfl, Nat.le_of_ble_eq_true rfl⟩ ⟨rfl, rfl⟩ (hm_recv ⟨X, hK.1⟩ hY (w4 hi) rfl) rfl hl.1 rfl (Nat.le_of_ble_eq_true rfl) d_P_passCycle_11 ⟨Nat.le_of_ble_eq_true rfl, Nat.le_of_ble_eq_true rfl⟩) hY (fun v w1 H locs hp hY => ?_)
    obtain ⟨rfl, rfl⟩ := hp
    refine W.eq (g2 := F0 m 14 ls []) rfl ?_
    obtain ⟨E2, hE2⟩ : ∃ z, z = sD S i t (S.C 1 i) := ⟨_, rfl⟩
    rw [← hE2] at hY
    have hAE2 : E2.ad = S.ad := by rw [hE2]; exact (sD_k S i t (S.C 1 i)).2
    have hCE2 : E2.C = S.C := by rw [hE2]; exact (sD_k S i t (S.C 1 i)).1
    have hiE2 : i < E2.C 0 0 := by rw [hCE2]; exact hi
    have htE2 : E2.C 1 i ≤ 10 := by rw [hCE2]; exact h10
    have hl : lv_has ls 4 [(0, .ref (E2.ad 4 i 0)), (1, .int ag), (2, .long t)] := by rw [hAE2]; exact hl
    refine lv_aload_n X.1 X.2.1 d_P_passCycle_14 rfl (lv_at hl 0 rfl) ?_
    refine hm_get ⟨X, hK.1⟩ hY (w4 hiE2) 2 (v := .long (E2.J 10 i 0)) rfl rfl (Nat.le_of_ble_eq_true rfl) hu_P m_445 (fun _ h => h) d_P_passCycle_15 ?_
    refine lv_lconst (v := 0) X.1 X.2.1 d_P_passCycle_18 (by decide) ?_
    refine lc_le (tgt := 40) X d_P_passCycle_19 d_P_passCycle_20 (by decide) (fun c3 => ?_) (fun c3 => ?_)
    · refine lv_aload_n X.1 X.2.1 d_P_passCycle_40 rfl (lv_at hl 0 rfl) ?_
      refine hm_call (ct_runV (n := 0) X hK hY (k_P_judge l D A G E2 ω i hiE2) m_289 m_286 m_288 ms_P_judge m_11 (by decide +kernel) ⟨Nat.le_of_ble_eq_true rfl, Nat.le_of_ble_eq_true rfl⟩ ⟨rfl, rfl⟩ (hm_recv ⟨X, hK.1⟩ hY (w4 hiE2) rfl) rfl hl.1 rfl (Nat.le_of_ble_eq_true rfl) d_P_passCycle_41 ⟨Nat.le_of_ble_eq_true rfl, Nat.le_of_ble_eq_true rfl⟩) hY (fun v w1 H locs hp hY => ?_)
      obtain ⟨rfl, rfl⟩ := hp
      refine W.eq (g2 := F0 m 44 ls []) rfl ?_
      obtain ⟨E4, hE4⟩ : ∃ z, z = jU E2 i := ⟨_, rfl⟩
      rw [← hE4] at hY
      have hAE4 : E4.ad = E2.ad := by rw [hE4]; exact (jU_k E2 i).2
      have hCE4 : E4.C = E2.C := by rw [hE4]; exact (jU_k E2 i).1
      have hiE4 : i < E4.C 0 0 := by rw [hCE4]; exact hiE2
      have htE4 : E4.C 1 i ≤ 10 := by rw [hCE4]; exact htE2
      have hl : lv_has ls 4 [(0, .ref (E4.ad 4 i 0)), (1, .int ag), (2, .long t)] := by rw [hAE4]; exact hl
      refine lv_aload_n X.1 X.2.1 d_P_passCycle_44 rfl (lv_at hl 0 rfl) ?_
      refine lv_iconst (v := 0) X.1 X.2.1 d_P_passCycle_45 (by decide) ?_
      refine hm_put ⟨X, hK.1⟩ hY (w4 hiE4) 10 rfl (Nat.le_of_ble_eq_true rfl) (Nat.le_of_ble_eq_true rfl) hu_P ty_P ty_P_ok nm_P m_456 (fun _ h => h) rfl rfl rfl d_P_passCycle_46 (fun H locs hY => ?_)
      have hY : hm_Y D cls A s.heap (wS G (E4.sI 17 i 0 0) ω) H locs := by rw [← fo_P_10 (S := E4) (v := 0) hiE4]; exact hY
      exact en_vW X hY hr hlocks d_P_passCycle_49 (⟨rfl, by rw [hE4, pC, if_neg c1, pc1, ← hE2, if_pos c3]⟩)
    · refine lv_iload_n X.1 X.2.1 d_P_passCycle_23 rfl (lv_at hl 1 rfl) ?_
      refine lv_i2l (v := ag.toInt64) X.1 X.2.1 d_P_passCycle_24 rfl ?_
      refine lv_aload_n X.1 X.2.1 d_P_passCycle_25 rfl (lv_at hl 0 rfl) ?_
      refine hm_get ⟨X, hK.1⟩ hY (w4 hiE2) 2 (v := .long (E2.J 10 i 0)) rfl rfl (Nat.le_of_ble_eq_true rfl) hu_P m_445 (fun _ h => h) d_P_passCycle_26 ?_
      refine lv_lrem X.1 X.2.1 d_P_passCycle_29 (fun z => c3 (by rw [z]; decide)) ?_
      refine lv_lconst (v := 0) X.1 X.2.1 d_P_passCycle_30 (by decide) ?_
      refine lc_ne (tgt := 40) X d_P_passCycle_31 d_P_passCycle_32 (by decide) (fun c5 => ?_) (fun c5 => ?_)
      · refine lv_aload_n X.1 X.2.1 d_P_passCycle_40 rfl (lv_at hl 0 rfl) ?_
        refine hm_call (ct_runV (n := 0) X hK hY (k_P_judge l D A G E2 ω i hiE2) m_289 m_286 m_288 ms_P_judge m_11 (by decide +kernel) ⟨Nat.le_of_ble_eq_true rfl, Nat.le_of_ble_eq_true rfl⟩ ⟨rfl, rfl⟩ (hm_recv ⟨X, hK.1⟩ hY (w4 hiE2) rfl) rfl hl.1 rfl (Nat.le_of_ble_eq_true rfl) d_P_passCycle_41 ⟨Nat.le_of_ble_eq_true rfl, Nat.le_of_ble_eq_true rfl⟩) hY (fun v w1 H locs hp hY => ?_)
        obtain ⟨rfl, rfl⟩ := hp
        refine W.eq (g2 := F0 m 44 ls []) rfl ?_
        obtain ⟨E6, hE6⟩ : ∃ z, z = jU E2 i := ⟨_, rfl⟩
        rw [← hE6] at hY
        have hAE6 : E6.ad = E2.ad := by rw [hE6]; exact (jU_k E2 i).2
        have hCE6 : E6.C = E2.C := by rw [hE6]; exact (jU_k E2 i).1
        have hiE6 : i < E6.C 0 0 := by rw [hCE6]; exact hiE2
        have htE6 : E6.C 1 i ≤ 10 := by rw [hCE6]; exact htE2
        have hl : lv_has ls 4 [(0, .ref (E6.ad 4 i 0)), (1, .int ag), (2, .long t)] := by rw [hAE6]; exact hl
        refine lv_aload_n X.1 X.2.1 d_P_passCycle_44 rfl (lv_at hl 0 rfl) ?_
        refine lv_iconst (v := 0) X.1 X.2.1 d_P_passCycle_45 (by decide) ?_
        refine hm_put ⟨X, hK.1⟩ hY (w4 hiE6) 10 rfl (Nat.le_of_ble_eq_true rfl) (Nat.le_of_ble_eq_true rfl) hu_P ty_P ty_P_ok nm_P m_456 (fun _ h => h) rfl rfl rfl d_P_passCycle_46 (fun H locs hY => ?_)
        have hY : hm_Y D cls A s.heap (wS G (E6.sI 17 i 0 0) ω) H locs := by rw [← fo_P_10 (S := E6) (v := 0) hiE6]; exact hY
        exact en_vW X hY hr hlocks d_P_passCycle_49 (⟨rfl, by rw [hE6, pC, if_neg c1, pc1, ← hE2, if_neg c3, if_neg c5]⟩)
      · refine lv_aload_n X.1 X.2.1 d_P_passCycle_35 rfl (lv_at hl 0 rfl) ?_
        refine lv_iload_n X.1 X.2.1 d_P_passCycle_36 rfl (lv_at hl 1 rfl) ?_
        refine hm_call (ct_runV (n := 1) X hK hY (k_P_checkAliveCount l D A G E2 ω i hiE2 ag) m_285 m_282 m_284 ms_P_checkAliveCount m_11 (by decide +kernel) ⟨Nat.le_of_ble_eq_true rfl, Nat.le_of_ble_eq_true rfl⟩ ⟨rfl, rfl⟩ (hm_recv ⟨X, hK.1⟩ hY (w4 hiE2) rfl) rfl hl.1 rfl (Nat.le_of_ble_eq_true rfl) d_P_passCycle_37 ⟨Nat.le_of_ble_eq_true rfl, Nat.le_of_ble_eq_true rfl⟩) hY (fun v w1 H locs hp hY => ?_)
        obtain ⟨rfl, rfl⟩ := hp
        refine W.eq (g2 := F0 m 40 ls []) rfl ?_
        obtain ⟨E7, hE7⟩ : ∃ z, z = cA E2 i ag := ⟨_, rfl⟩
        rw [← hE7] at hY
        have hAE7 : E7.ad = E2.ad := by rw [hE7]; exact (cA_k E2 i ag).2
        have hCE7 : E7.C = E2.C := by rw [hE7]; exact (cA_k E2 i ag).1
        have hiE7 : i < E7.C 0 0 := by rw [hCE7]; exact hiE2
        have htE7 : E7.C 1 i ≤ 10 := by rw [hCE7]; exact htE2
        have hl : lv_has ls 4 [(0, .ref (E7.ad 4 i 0)), (1, .int ag), (2, .long t)] := by rw [hAE7]; exact hl
        refine lv_aload_n X.1 X.2.1 d_P_passCycle_40 rfl (lv_at hl 0 rfl) ?_
        refine hm_call (ct_runV (n := 0) X hK hY (k_P_judge l D A G E7 ω i hiE7) m_289 m_286 m_288 ms_P_judge m_11 (by decide +kernel) ⟨Nat.le_of_ble_eq_true rfl, Nat.le_of_ble_eq_true rfl⟩ ⟨rfl, rfl⟩ (hm_recv ⟨X, hK.1⟩ hY (w4 hiE7) rfl) rfl hl.1 rfl (Nat.le_of_ble_eq_true rfl) d_P_passCycle_41 ⟨Nat.le_of_ble_eq_true rfl, Nat.le_of_ble_eq_true rfl⟩) hY (fun v w1 H locs hp hY => ?_)
        obtain ⟨rfl, rfl⟩ := hp
        refine W.eq (g2 := F0 m 44 ls []) rfl ?_
        obtain ⟨E8, hE8⟩ : ∃ z, z = jU E7 i := ⟨_, rfl⟩
        rw [← hE8] at hY
        have hAE8 : E8.ad = E7.ad := by rw [hE8]; exact (jU_k E7 i).2
        have hCE8 : E8.C = E7.C := by rw [hE8]; exact (jU_k E7 i).1
        have hiE8 : i < E8.C 0 0 := by rw [hCE8]; exact hiE7
        have htE8 : E8.C 1 i ≤ 10 := by rw [hCE8]; exact htE7
        have hl : lv_has ls 4 [(0, .ref (E8.ad 4 i 0)), (1, .int ag), (2, .long t)] := by rw [hAE8]; exact hl
        refine lv_aload_n X.1 X.2.1 d_P_passCycle_44 rfl (lv_at hl 0 rfl) ?_
        refine lv_iconst (v := 0) X.1 X.2.1 d_P_passCycle_45 (by decide) ?_
        refine hm_put ⟨X, hK.1⟩ hY (w4 hiE8) 10 rfl (Nat.le_of_ble_eq_true rfl) (Nat.le_of_ble_eq_true rfl) hu_P ty_P ty_P_ok nm_P m_456 (fun _ h => h) rfl rfl rfl d_P_passCycle_46 (fun H locs hY => ?_)
        have hY : hm_Y D cls A s.heap (wS G (E8.sI 17 i 0 0) ω) H locs := by rw [← fo_P_10 (S := E8) (v := 0) hiE8]; exact hY
        exact en_vW X hY hr hlocks d_P_passCycle_49 (⟨rfl, by rw [hE8, hE7, pC, if_neg c1, pc1, ← hE2, if_neg c3, if_pos c5]⟩)
  · exact en_vW X hY hr hlocks d_P_passCycle_8 (⟨rfl, by rw [pC, if_pos c1]⟩)

set_option maxHeartbeats 4000000 in
set_option maxRecDepth 100000 in
theorem k_P_beginAnew (l : Launch) (D : va_G) (A : Nat → Prop) (G : Nat → Nat) (S : cS) (ω : hm_T) (i : Nat) (hi : i < S.C 0 0) (h10 : S.C 1 i ≤ 10) : Met l y_P_beginAnew (.code y_P_beginAnew c_P_beginAnew 1 (none : Option FieldType) :: wsA) { frames := 4, cells := 0, slots := 0, locals := 85 } (va_Pc [.ref (S.ad 4 i 0)] (ctU D A G (wS G S ω))) (hm_Q D cls A (fun v w => v = none ∧ w = wS G (bA S i) ω)) 0 0 A := by
  refine ct_met (by decide) (Nat.le_of_ble_eq_true rfl) ?_
  rintro p e s m below meth c ls X hr hlocks hnm hl ⟨hB, hK⟩
  have hl : lv_has ls 1 [(0, .ref (S.ad 4 i 0))] := hl
  have hY : hm_Y D cls A s.heap (wS G S ω) s.heap [] := hm_Y.start hB hK.2.2.2
  refine lv_aload_n X.1 X.2.1 d_P_beginAnew_0 rfl (lv_at hl 0 rfl) ?_
  refine hm_call (ct_runV (n := 0) X hK hY (k_P_forgetCourse l D A G S ω i hi h10) m_306 m_303 m_304 m_305 m_11 (by decide +kernel) ⟨Nat.le_of_ble_eq_true rfl, Nat.le_of_ble_eq_true rfl⟩ ⟨rfl, rfl⟩ (hm_recv ⟨X, hK.1⟩ hY (w4 hi) rfl) rfl hl.1 rfl (Nat.le_of_ble_eq_true rfl) d_P_beginAnew_1 ⟨Nat.le_of_ble_eq_true rfl, Nat.le_of_ble_eq_true rfl⟩) hY (fun v w1 H locs hp hY => ?_)
  obtain ⟨rfl, rfl⟩ := hp
  refine W.eq (g2 := F0 m 4 ls []) rfl ?_
  obtain ⟨E1, hE1⟩ : ∃ z, z = fC S i := ⟨_, rfl⟩
  rw [← hE1] at hY
  have hAE1 : E1.ad = S.ad := by rw [hE1]; exact (fC_k S i).2
  have hCE1 : E1.C = S.C := by rw [hE1]; exact (fC_k S i).1
  have hiE1 : i < E1.C 0 0 := by rw [hCE1]; exact hi
  have htE1 : E1.C 1 i ≤ 10 := by rw [hCE1]; exact h10
  have hl : lv_has ls 1 [(0, .ref (E1.ad 4 i 0))] := by rw [hAE1]; exact hl
  refine lv_aload_n X.1 X.2.1 d_P_beginAnew_4 rfl (lv_at hl 0 rfl) ?_
  refine lv_iconst (v := 0) X.1 X.2.1 d_P_beginAnew_5 (by decide) ?_
  refine hm_put ⟨X, hK.1⟩ hY (w4 hiE1) 6 rfl (Nat.le_of_ble_eq_true rfl) (Nat.le_of_ble_eq_true rfl) hu_P ty_P ty_P_ok nm_P m_451 (fun _ h => h) rfl rfl rfl d_P_beginAnew_6 (fun H locs hY => ?_)
  have hY : hm_Y D cls A s.heap (wS G (E1.sI 13 i 0 0) ω) H locs := by rw [← fo_P_6 (S := E1) (v := 0) hiE1]; exact hY
  refine lv_aload_n X.1 X.2.1 d_P_beginAnew_9 rfl (lv_at hl 0 rfl) ?_
  refine lv_iconst (v := 0) X.1 X.2.1 d_P_beginAnew_10 (by decide) ?_
  refine hm_put ⟨X, hK.1⟩ hY (w4 hiE1) 7 rfl (Nat.le_of_ble_eq_true rfl) (Nat.le_of_ble_eq_true rfl) hu_P ty_P ty_P_ok nm_P m_453 (fun _ h => h) rfl rfl rfl d_P_beginAnew_11 (fun H locs hY => ?_)
  have hY : hm_Y D cls A s.heap (wS G ((E1.sI 13 i 0 0).sI 14 i 0 0) ω) H locs := by rw [← fo_P_7 (S := (E1.sI 13 i 0 0)) (v := 0) hiE1]; exact hY
  exact en_vW X hY hr hlocks d_P_beginAnew_14 (⟨rfl, by rw [hE1]; rw [bA]⟩)
