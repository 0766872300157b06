set_option maxHeartbeats 4000000 in
set_option maxRecDepth 100000 in
/-- isWithin: lo ≤ x ≤ hi -/
theorem k_W_isWithin (l : Launch) (D : va_G) (A : Nat → Prop) (G : Nat → Nat) (w : hm_T) (x lo hi : Int64) : Met l y_W_isWithin (.code y_W_isWithin c_W_isWithin 6 (some .boolean) :: wsA) { frames := 0, cells := 0, slots := 0, locals := 0 } (va_Pc [.long x, .long lo, .long hi] (ctU D A G w)) (hm_R (fun v => v = some (.int (b2 (lo ≤ x ∧ x ≤ hi))))) 0 0 (fun _ => False) := by
  refine ct_met (by decide) (Nat.le_of_ble_eq_true rfl) ?_
  rintro p e s m below meth c ls X hr hlocks hnm hl ⟨hB, hK⟩
  have hl : lv_has ls 6 [(0, .long x), (2, .long lo), (4, .long hi)] := hl
  have hY : hm_Y D cls A s.heap w s.heap [] := hm_Y.start hB hK.2.2.2
  refine lv_lload_n X.1 X.2.1 d_W_isWithin_0 rfl (lv_at hl 0 rfl) ?_
  refine lv_lload_n X.1 X.2.1 d_W_isWithin_1 rfl (lv_at hl 1 rfl) ?_
  refine lc_lt (tgt := 17) X d_W_isWithin_2 d_W_isWithin_3 (by decide) (fun c1 => ?_) (fun c1 => ?_)
  · refine lv_iconst (v := 0) X.1 X.2.1 d_W_isWithin_17 (by decide) ?_
    exact en_zR X hr hlocks d_W_isWithin_18 rfl (by rw [b2_f (fun z => absurd z.1 (Int64.not_le.mpr c1))])
  · refine lv_lload_n X.1 X.2.1 d_W_isWithin_6 rfl (lv_at hl 0 rfl) ?_
    refine lv_lload X.1 X.2.1 d_W_isWithin_7 (lv_at hl 2 rfl) ?_
    refine lc_gt (tgt := 17) X d_W_isWithin_9 d_W_isWithin_10 (by decide) (fun c2 => ?_) (fun c2 => ?_)
    · refine lv_iconst (v := 0) X.1 X.2.1 d_W_isWithin_17 (by decide) ?_
      exact en_zR X hr hlocks d_W_isWithin_18 rfl (by rw [b2_f (fun z => absurd z.2 (Int64.not_le.mpr c2))])
    · refine lv_iconst (v := 1) X.1 X.2.1 d_W_isWithin_13 (by decide) ?_
      refine lv_goto (tgt := 18) X.1 X.2.1 d_W_isWithin_14 (by decide) ?_
      exact en_zR X hr hlocks d_W_isWithin_18 rfl (by rw [b2_t ⟨Int64.not_lt.mp c1, Int64.not_lt.mp c2⟩])

set_option maxHeartbeats 4000000 in
set_option maxRecDepth 100000 in
/-- checkIndex: the index is in its range -/
theorem k_PC_checkIndex (l : Launch) (D : va_G) (A : Nat → Prop) (G : Nat → Nat) (w : hm_T) (i n : Int32) (h0 : ¬ i < 0) (h1 : i < n) : Met l y_PC_checkIndex (.code y_PC_checkIndex c_PC_checkIndex 3 (some .int) :: wsA) { frames := 0, cells := 0, slots := 0, locals := 0 } (va_Pc [.int i, .int n, .null] (ctU D A G w)) (hm_R (fun v => v = some (.int i))) 0 0 (fun _ => False) := by
  refine ct_met (by decide) (Nat.le_of_ble_eq_true rfl) ?_
  rintro p e s m below meth c ls X hr hlocks hnm hl ⟨hB, hK⟩
  have hl : lv_has ls 3 [(0, .int i), (1, .int n), (2, .null)] := hl
  have hY : hm_Y D cls A s.heap w s.heap [] := hm_Y.start hB hK.2.2.2
  refine lv_iload_n X.1 X.2.1 d_PC_checkIndex_0 rfl (lv_at hl 0 rfl) ?_
  refine lv_if_lt (tgt := 9) X.1 X.2.1 d_PC_checkIndex_1 (by decide) (fun c1 => ?_) (fun c1 => ?_)
  · exact absurd c1 h0
  · refine lv_iload_n X.1 X.2.1 d_PC_checkIndex_4 rfl (lv_at hl 0 rfl) ?_
    refine lv_iload_n X.1 X.2.1 d_PC_checkIndex_5 rfl (lv_at hl 1 rfl) ?_
    refine lv_icmp_lt (tgt := 16) X.1 X.2.1 d_PC_checkIndex_6 (by decide) (fun c2 => ?_) (fun c2 => ?_)
    · refine lv_iload_n X.1 X.2.1 d_PC_checkIndex_16 rfl (lv_at hl 0 rfl) ?_
      exact en_iR X hr hlocks d_PC_checkIndex_17 (rfl)
    · exact absurd h1 c2

set_option maxHeartbeats 4000000 in
set_option maxRecDepth 100000 in
theorem k_OB_checkIndex (l : Launch) (D : va_G) (A : Nat → Prop) (G : Nat → Nat) (w : hm_T) (i n : Int32) (h0 : ¬ i < 0) (h1 : i < n) : Met l y_OB_checkIndex (.code y_OB_checkIndex c_OB_checkIndex 2 (some .int) :: wsA) { frames := 1, cells := 0, slots := 0, locals := 22 } (va_Pc [.int i, .int n] (ctU D A G w)) (hm_R (fun v => v = some (.int i))) 0 0 (fun _ => False) := by
  refine ct_met (by decide) (Nat.le_of_ble_eq_true rfl) ?_
  rintro p e s m below meth c ls X hr hlocks hnm hl ⟨hB, hK⟩
  have hl : lv_has ls 2 [(0, .int i), (1, .int n)] := hl
  have hY : hm_Y D cls A s.heap w s.heap [] := hm_Y.start hB hK.2.2.2
  refine lv_iload_n X.1 X.2.1 d_OB_checkIndex_0 rfl (lv_at hl 0 rfl) ?_
  refine lv_iload_n X.1 X.2.1 d_OB_checkIndex_1 rfl (lv_at hl 1 rfl) ?_
  refine lv_null X.1 X.2.1 d_OB_checkIndex_2 ?_
  refine hm_callR (ct_runS (n := 3) X hK hY (k_PC_checkIndex l D A G w i n h0 h1) m_129 m_127 m_128 m_17 (by decide +kernel) ⟨Nat.le_of_ble_eq_true rfl, Nat.le_of_ble_eq_true rfl⟩ ⟨rfl, rfl⟩ rfl hl.1 rfl (Nat.le_of_ble_eq_true rfl) d_OB_checkIndex_3 ⟨Nat.le_of_ble_eq_true rfl, Nat.le_of_ble_eq_true rfl⟩) (fun v hv => ?_)
  subst hv
  refine W.eq (g2 := F0 m 6 ls [.int i]) rfl ?_
  exact en_iR X hr hlocks d_OB_checkIndex_6 (rfl)

set_option maxHeartbeats 4000000 in
set_option maxRecDepth 100000 in
theorem k_A_size (l : Launch) (D : va_G) (A : Nat → Prop) (G : Nat → Nat) (w : hm_T) (n : hm_N) (a : Nat) (er : Value) (cnt mo : Int32) (hn : w n = some (a, .inr (4, [er, .int cnt, .int mo]))) : Met l y_A_size (.code y_A_size c_A_size 1 (some .int) :: wsA) { frames := 0, cells := 0, slots := 0, locals := 0 } (va_Pc [.ref a] (ctU D A G w)) (hm_R (fun v => v = some (.int cnt))) 0 0 (fun _ => False) := by
  refine ct_met (by decide) (Nat.le_of_ble_eq_true rfl) ?_
  rintro p e s m below meth c ls X hr hlocks hnm hl ⟨hB, hK⟩
  have hl : lv_has ls 1 [(0, .ref a)] := hl
  have hY : hm_Y D cls A s.heap w s.heap [] := hm_Y.start hB hK.2.2.2
  refine lv_aload_n X.1 X.2.1 d_A_size_0 rfl (lv_at hl 0 rfl) ?_
  refine hm_get ⟨X, hK.1⟩ hY hn 1 (v := .int cnt) rfl rfl (Nat.le_of_ble_eq_true rfl) hu_A m_42 (fun _ h => h) d_A_size_1 ?_
  exact en_iR X hr hlocks d_A_size_4 (rfl)

set_option maxHeartbeats 4000000 in
set_option maxRecDepth 100000 in
theorem k_A_elementData (l : Launch) (D : va_G) (A : Nat → Prop) (G : Nat → Nat) (w : hm_T) (n nb : hm_N) (a b : Nat) (cnt mo : Int32) (N : Nat) (f : Nat → Option Nat) (hn : w n = some (a, .inr (4, [.ref b, .int cnt, .int mo]))) (hb : w nb = some (b, .inl (G 4, N, .inr (.inr (.inr (.inr f)))))) (i : Int32) (hin : vp_in i N) : Met l y_A_elementData (.code y_A_elementData c_A_elementData 2 (some (.object "java/lang/Object")) :: wsA) { frames := 0, cells := 0, slots := 0, locals := 0 } (va_Pc [.ref a, .int i] (ctU D A G w)) (hm_R (fun v => v = some (va_rf (f i.toNatClampNeg)))) 0 0 (fun _ => False) := by
  refine ct_met (by decide) (Nat.le_of_ble_eq_true rfl) ?_
  rintro p e s m below meth c ls X hr hlocks hnm hl ⟨hB, hK⟩
  have hl : lv_has ls 2 [(0, .ref a), (1, .int i)] := hl
  have hY : hm_Y D cls A s.heap w s.heap [] := hm_Y.start hB hK.2.2.2
  refine lv_aload_n X.1 X.2.1 d_A_elementData_0 rfl (lv_at hl 0 rfl) ?_
  refine hm_get ⟨X, hK.1⟩ hY hn 0 (v := .ref b) rfl rfl (Nat.le_of_ble_eq_true rfl) hu_A m_41 (fun _ h => h) d_A_elementData_1 ?_
  refine lv_iload_n X.1 X.2.1 d_A_elementData_4 rfl (lv_at hl 1 rfl) ?_
  refine hm_aald ⟨X, hK.1⟩ hY hb 3 rfl hin d_A_elementData_5 ?_
  exact en_aR X hr (by first | exact Or.inl ⟨_, rfl⟩ | exact Or.inr ⟨_, rfl⟩) hlocks d_A_elementData_6 (va_rf_or _) (rfl)

set_option maxHeartbeats 4000000 in
set_option maxRecDepth 100000 in
theorem k_A_get (l : Launch) (D : va_G) (A : Nat → Prop) (G : Nat → Nat) (w : hm_T) (n nb : hm_N) (a b : Nat) (cnt mo : Int32) (N : Nat) (f : Nat → Option Nat) (hn : w n = some (a, .inr (4, [.ref b, .int cnt, .int mo]))) (hb : w nb = some (b, .inl (G 4, N, .inr (.inr (.inr (.inr f)))))) (i : Int32) (hin : vp_in i N) (h0 : ¬ i < 0) (h1 : i < cnt) : Met l y_A_get (.code y_A_get c_A_get 2 (some (.object "java/lang/Object")) :: wsA) { frames := 2, cells := 0, slots := 0, locals := 43 } (va_Pc [.ref a, .int i] (ctU D A G w)) (hm_R (fun v => v = some (va_rf (f i.toNatClampNeg)))) 0 0 (fun _ => False) := by
  refine ct_met (by decide) (Nat.le_of_ble_eq_true rfl) ?_
  rintro p e s m below meth c ls X hr hlocks hnm hl ⟨hB, hK⟩
  have hl : lv_has ls 2 [(0, .ref a), (1, .int i)] := hl
  have hY : hm_Y D cls A s.heap w s.heap [] := hm_Y.start hB hK.2.2.2
  refine lv_iload_n X.1 X.2.1 d_A_get_0 rfl (lv_at hl 1 rfl) ?_
  refine lv_aload_n X.1 X.2.1 d_A_get_1 rfl (lv_at hl 0 rfl) ?_
  refine hm_get ⟨X, hK.1⟩ hY hn 1 (v := .int cnt) rfl rfl (Nat.le_of_ble_eq_true rfl) hu_A m_42 (fun _ h => h) d_A_get_2 ?_
  refine hm_callR (ct_runS (n := 2) X hK hY (k_OB_checkIndex l D A G w i cnt h0 h1) m_126 m_124 m_125 m_16 (by decide +kernel) ⟨Nat.le_of_ble_eq_true rfl, Nat.le_of_ble_eq_true rfl⟩ ⟨rfl, rfl⟩ rfl hl.1 rfl (Nat.le_of_ble_eq_true rfl) d_A_get_5 ⟨Nat.le_of_ble_eq_true rfl, Nat.le_of_ble_eq_true rfl⟩) (fun v hv => ?_)
  subst hv
  refine W.eq (g2 := F0 m 8 ls [.int i]) rfl ?_
  refine lv_pop X.1 X.2.1 d_A_get_8 rfl ?_
  refine lv_aload_n X.1 X.2.1 d_A_get_9 rfl (lv_at hl 0 rfl) ?_
  refine lv_iload_n X.1 X.2.1 d_A_get_10 rfl (lv_at hl 1 rfl) ?_
  refine hm_callR (ct_runV (n := 1) X hK hY (k_A_elementData l D A G w n nb a b cnt mo N f hn hb i hin) m_133 m_130 m_131 m_132 m_4 (by decide +kernel) ⟨Nat.le_of_ble_eq_true rfl, Nat.le_of_ble_eq_true rfl⟩ ⟨rfl, rfl⟩ (hm_recv ⟨X, hK.1⟩ hY hn rfl) rfl hl.1 rfl (Nat.le_of_ble_eq_true rfl) d_A_get_11 ⟨Nat.le_of_ble_eq_true rfl, Nat.le_of_ble_eq_true rfl⟩) (fun v hv => ?_)
  subst hv
  refine W.eq (g2 := F0 m 14 ls [va_rf (f i.toNatClampNeg)]) rfl ?_
  exact en_aR X hr (by first | exact Or.inl ⟨_, rfl⟩ | exact Or.inr ⟨_, rfl⟩) hlocks d_A_get_14 (va_rf_or _) (rfl)


theorem rfs_at {n i : Nat} {f : Nat → Nat} (h : i < n) (hn : n < 2 ^ 31) : va_rf (rfs n f (nI i).toNatClampNeg) = .ref (f i) := by
  rw [nI_clamp (by omega)]
  simp [rfs, h, va_rf]
theorem fA_p {G : Nat → Nat} {n a : Nat} {v : Int32} (h : n ≠ 0) : fA G n a v = [.ref a, .int (nI n), .int v] := by simp [fA, h]
theorem cap_le {n : Nat} (h : n ≤ 20) : n ≤ cap n ∧ cap n ≤ 22 := by
  unfold cap
  split
  · omega
  · split <;> omega
/-- parts.get(i) -/
theorem k_get1 (l : Launch) (D : va_G) (A : Nat → Prop) (G : Nat → Nat) (S : cS) (ω : hm_T) (i : Nat) (hi : i < S.C 0 0) (h20 : S.C 0 0 ≤ 20) : Met l y_A_get (.code y_A_get c_A_get 2 (some (.object "java/lang/Object")) :: wsA) { frames := 2, cells := 0, slots := 0, locals := 43 } (va_Pc [.ref (S.ad 1 0 0), .int (nI i)] (ctU D A G (wS G S ω))) (hm_R (fun v => v = some (.ref (S.ad 4 i 0)))) 0 0 (fun _ => False) := by
  have hc := cap_le h20
  have k := k_A_get l D A G (wS G S ω) (1, 0, 0) (2, 0, 0) (S.ad 1 0 0) (S.ad 2 0 0) (nI (S.C 0 0)) (S.I 6 0 0) (cap (S.C 0 0)) _ (by rw [w1, fA_p (by omega)]) (w2 (by omega)) (nI i) (vp_in_nI (by omega) (by omega)) (nI_pos (by omega)) (nI_lt hi (by omega))
  rw [rfs_at hi (by omega)] at k
  exact k
/-- deadlines.get(j) of the part i -/
theorem k_get6 (l : Launch) (D : va_G) (A : Nat → Prop) (G : Nat → Nat) (S : cS) (ω : hm_T) (i j : Nat) (hi : i < S.C 0 0) (hj : j < S.C 1 i) (h10 : S.C 1 i ≤ 10) : Met l y_A_get (.code y_A_get c_A_get 2 (some (.object "java/lang/Object")) :: wsA) { frames := 2, cells := 0, slots := 0, locals := 43 } (va_Pc [.ref (S.ad 6 i 0), .int (nI j)] (ctU D A G (wS G S ω))) (hm_R (fun v => v = some (.ref (S.ad 8 i j)))) 0 0 (fun _ => False) := by
  have k := k_A_get l D A G (wS G S ω) (6, i, 0) (7, i, 0) (S.ad 6 i 0) (S.ad 7 i 0) (nI (S.C 1 i)) (S.I 19 i 0) 10 _ (by rw [w6 hi, fA_p (by omega)]) (w7 hi (by omega)) (nI j) (vp_in_nI (by omega) (by omega)) (nI_pos (by omega)) (nI_lt hj (by omega))
  rw [rfs_at hj (by omega)] at k
  exact k
theorem k_size1 (l : Launch) (D : va_G) (A : Nat → Prop) (G : Nat → Nat) (S : cS) (ω : hm_T) : Met l y_A_size (.code y_A_size c_A_size 1 (some .int) :: wsA) { frames := 0, cells := 0, slots := 0, locals := 0 } (va_Pc [.ref (S.ad 1 0 0)] (ctU D A G (wS G S ω))) (hm_R (fun v => v = some (.int (nI (S.C 0 0))))) 0 0 (fun _ => False) :=
  k_A_size l D A G (wS G S ω) (1, 0, 0) (S.ad 1 0 0) _ _ _ w1
theorem k_size6 (l : Launch) (D : va_G) (A : Nat → Prop) (G : Nat → Nat) (S : cS) (ω : hm_T) (i : Nat) (hi : i < S.C 0 0) : Met l y_A_size (.code y_A_size c_A_size 1 (some .int) :: wsA) { frames := 0, cells := 0, slots := 0, locals := 0 } (va_Pc [.ref (S.ad 6 i 0)] (ctU D A G (wS G S ω))) (hm_R (fun v => v = some (.int (nI (S.C 1 i))))) 0 0 (fun _ => False) :=
  k_A_size l D A G (wS G S ω) (6, i, 0) (S.ad 6 i 0) _ _ _ (w6 hi)

set_option maxHeartbeats 4000000 in
set_option maxRecDepth 100000 in
theorem k_W_isPoint (l : Launch) (D : va_G) (A : Nat → Prop) (G : Nat → Nat) (w : hm_T) (x : Int32) : Met l y_W_isPoint (.code y_W_isPoint c_W_isPoint 1 (some .boolean) :: wsA) { frames := 1, cells := 0, slots := 0, locals := 25 } (va_Pc [.int x] (ctU D A G w)) (hm_R (fun v => v = some (.int (b2 (1 ≤ x.toInt64 ∧ x.toInt64 ≤ 30))))) 0 0 (fun _ => False) := by
  refine ct_met (by decide) (Nat.le_of_ble_eq_true rfl) ?_
  rintro p e s m below meth c ls X hr hlocks hnm hl ⟨hB, hK⟩
  have hl : lv_has ls 1 [(0, .int x)] := hl
  have hY : hm_Y D cls A s.heap w s.heap [] := hm_Y.start hB hK.2.2.2
  refine lv_iload_n X.1 X.2.1 d_W_isPoint_0 rfl (lv_at hl 0 rfl) ?_
  refine lv_i2l (v := x.toInt64) X.1 X.2.1 d_W_isPoint_1 rfl ?_
  refine lv_lconst (v := 1) X.1 X.2.1 d_W_isPoint_2 (by decide) ?_
  refine lv_ldc2 X.1 X.2.1 X.2.2.2.1 (X.2.2.2.2 _ m_138) d_W_isPoint_3 ?_
  refine hm_callR (ct_runS (n := 3) X hK hY (k_W_isWithin l D A G w x.toInt64 1 30) m_119 m_117 m_118 m_1 (by decide +kernel) ⟨Nat.le_of_ble_eq_true rfl, Nat.le_of_ble_eq_true rfl⟩ ⟨rfl, rfl⟩ rfl hl.1 rfl (Nat.le_of_ble_eq_true rfl) d_W_isPoint_6 ⟨Nat.le_of_ble_eq_true rfl, Nat.le_of_ble_eq_true rfl⟩) (fun v hv => ?_)
  subst hv
  refine W.eq (g2 := F0 m 9 ls [.int (b2 (1 ≤ x.toInt64 ∧ x.toInt64 ≤ 30))]) rfl ?_
  exact en_zR X hr hlocks d_W_isPoint_9 b2_n (rfl)

set_option maxHeartbeats 4000000 in
set_option maxRecDepth 100000 in
theorem k_W_isTime (l : Launch) (D : va_G) (A : Nat → Prop) (G : Nat → Nat) (S : cS) (ω : hm_T) (t : Int64) : Met l y_W_isTime (.code y_W_isTime c_W_isTime 3 (some .boolean) :: wsA) { frames := 1, cells := 0, slots := 0, locals := 25 } (va_Pc [.ref (S.ad 0 0 0), .long t] (ctU D A G (wS G S ω))) (hm_R (fun v => v = some (.int (b2 (S.J 0 0 0 ≤ t ∧ t ≤ 1152921504606846976))))) 0 0 (fun _ => False) := by
  refine ct_met (by decide) (Nat.le_of_ble_eq_true rfl) ?_
  rintro p e s m below meth c ls X hr hlocks hnm hl ⟨hB, hK⟩
  have hl : lv_has ls 3 [(0, .ref (S.ad 0 0 0)), (1, .long t)] := hl
  have hY : hm_Y D cls A s.heap (wS G S ω) s.heap [] := hm_Y.start hB hK.2.2.2
  refine lv_lload_n X.1 X.2.1 d_W_isTime_0 rfl (lv_at hl 1 rfl) ?_
  refine lv_aload_n X.1 X.2.1 d_W_isTime_1 rfl (lv_at hl 0 rfl) ?_
  refine hm_get ⟨X, hK.1⟩ hY w0 4 (v := .long (S.J 0 0 0)) rfl rfl (Nat.le_of_ble_eq_true rfl) hu_W m_78 (fun _ h => h) d_W_isTime_2 ?_
  refine lv_ldc2 X.1 X.2.1 X.2.2.2.1 (X.2.2.2.2 _ m_253) d_W_isTime_5 ?_
  refine hm_callR (ct_runS (n := 3) X hK hY (k_W_isWithin l D A G (wS G S ω) t (S.J 0 0 0) 1152921504606846976) m_119 m_117 m_118 m_1 (by decide +kernel) ⟨Nat.le_of_ble_eq_true rfl, Nat.le_of_ble_eq_true rfl⟩ ⟨rfl, rfl⟩ rfl hl.1 rfl (Nat.le_of_ble_eq_true rfl) d_W_isTime_8 ⟨Nat.le_of_ble_eq_true rfl, Nat.le_of_ble_eq_true rfl⟩) (fun v hv => ?_)
  subst hv
  refine W.eq (g2 := F0 m 11 ls [.int (b2 (S.J 0 0 0 ≤ t ∧ t ≤ 1152921504606846976))]) rfl ?_
  exact en_zR X hr hlocks d_W_isTime_11 b2_n (rfl)
