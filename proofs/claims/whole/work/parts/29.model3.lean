def mans (M : mS) (st : Int32) (v t : Int64) (c0 : Nat) : Int32 × mS :=
  if st < 0 then (-2, M.sI 0 0 0) else if 3 < st then (-2, M.sI 0 0 0) else if mT (M.sI 0 0 0) t then
    (if st = M.I 27 0 then (if v = (rvI (M.I 26 0) st).toInt64 then (if st = 3 then (if t - M.J 29 0 < 10 then (if M.I 28 0 + 1 = 8 then (0, r0 (((((M.sI 0 0 0).sJ 21 0 t).sI 28 0 (M.I 28 0 + 1)).sI 27 0 0).sJ 29 0 t) 2 c0) else (0, (((((M.sI 0 0 0).sJ 21 0 t).sI 28 0 (M.I 28 0 + 1)).sI 27 0 0).sJ 29 0 t))) else if 50 < t - M.J 29 0 then (if M.I 28 0 + 1 = 8 then (0, r0 (((((M.sI 0 0 0).sJ 21 0 t).sI 28 0 (M.I 28 0 + 1)).sI 27 0 0).sJ 29 0 t) 2 c0) else (0, (((((M.sI 0 0 0).sJ 21 0 t).sI 28 0 (M.I 28 0 + 1)).sI 27 0 0).sJ 29 0 t))) else (if 4 ≤ M.I 27 0 + 1 then (if M.I 28 0 ≤ 0 then (1, ((((((M.sI 0 0 0).sJ 21 0 t).sI 27 0 (M.I 27 0 + 1)).sI 27 0 0).sJ 29 0 t).sI 28 0 0).sI 26 0 (nq (M.I 26 0))) else (1, ((((((M.sI 0 0 0).sJ 21 0 t).sI 27 0 (M.I 27 0 + 1)).sI 27 0 0).sJ 29 0 t).sI 28 0 (M.I 28 0 - 1)).sI 26 0 (nq (M.I 26 0)))) else (1, (((M.sI 0 0 0).sJ 21 0 t).sI 27 0 (M.I 27 0 + 1))))) else (if 4 ≤ M.I 27 0 + 1 then (if M.I 28 0 ≤ 0 then (1, ((((((M.sI 0 0 0).sJ 21 0 t).sI 27 0 (M.I 27 0 + 1)).sI 27 0 0).sJ 29 0 t).sI 28 0 0).sI 26 0 (nq (M.I 26 0))) else (1, ((((((M.sI 0 0 0).sJ 21 0 t).sI 27 0 (M.I 27 0 + 1)).sI 27 0 0).sJ 29 0 t).sI 28 0 (M.I 28 0 - 1)).sI 26 0 (nq (M.I 26 0)))) else (1, (((M.sI 0 0 0).sJ 21 0 t).sI 27 0 (M.I 27 0 + 1))))) else (if st = 3 then (if M.I 28 0 + 1 = 8 then (0, r0 (((((M.sI 0 0 0).sJ 21 0 t).sI 28 0 (M.I 28 0 + 1)).sI 27 0 0).sJ 29 0 t) 2 c0) else (0, (((((M.sI 0 0 0).sJ 21 0 t).sI 28 0 (M.I 28 0 + 1)).sI 27 0 0).sJ 29 0 t))) else (if M.I 28 0 + 1 = 8 then (0, r0 (((((M.sI 0 0 0).sJ 21 0 t).sI 28 0 (M.I 28 0 + 1)).sI 27 0 0).sJ 29 0 t) 2 c0) else (0, (((((M.sI 0 0 0).sJ 21 0 t).sI 28 0 (M.I 28 0 + 1)).sI 27 0 0).sJ 29 0 t))))) else (if st = 3 then (if M.I 28 0 + 1 = 8 then (0, r0 (((((M.sI 0 0 0).sJ 21 0 t).sI 28 0 (M.I 28 0 + 1)).sI 27 0 0).sJ 29 0 t) 2 c0) else (0, (((((M.sI 0 0 0).sJ 21 0 t).sI 28 0 (M.I 28 0 + 1)).sI 27 0 0).sJ 29 0 t))) else (if M.I 28 0 + 1 = 8 then (0, r0 (((((M.sI 0 0 0).sJ 21 0 t).sI 28 0 (M.I 28 0 + 1)).sI 27 0 0).sJ 29 0 t) 2 c0) else (0, (((((M.sI 0 0 0).sJ 21 0 t).sI 28 0 (M.I 28 0 + 1)).sI 27 0 0).sJ 29 0 t))))) else (-2, M.sI 0 0 0)
def cyT1 (T : mS) (n : Nat) (cn : Nat → Nat) : mS := if 2 ≤ T.I 5 n then T else jd T n (cn n)
def cyT (M : mS) (cn : Nat → Nat) : Nat → mS
  | 0 => M
  | j + 1 => cyT1 (cyT M cn j) (j + 1) cn
def cyG (M : mS) (cn : Nat → Nat) : Nat → Int32
  | 0 => 0
  | j + 1 => if (cyT M cn (j + 1)).I 5 (j + 1) ≤ cyG M cn j then cyG M cn j else (cyT M cn (j + 1)).I 5 (j + 1)
def mcy2 (T : mS) (g : Int32) (c0 : Nat) : Int32 × mS :=
  if g = 2 then (if T.I 23 0 < T.I 22 0 + 1 then (3, r0 (T.sI 22 0 (T.I 22 0 + 1)) 1 c0) else (g, T.sI 22 0 (T.I 22 0 + 1)))
  else (if T.I 23 0 < 0 then (3, r0 (T.sI 22 0 0) 1 c0) else (g, T.sI 22 0 0))
def mcyc (M : mS) (t : Int64) (cn : Nat → Nat) (c0 : Nat) : Int32 × mS :=
  if mT (M.sI 0 0 0) t then mcy2 (cyT (((M.sI 0 0 0).sJ 21 0 t).sI 20 0 (M.I 20 0 + 1)) cn c0) (cyG (((M.sI 0 0 0).sJ 21 0 t).sI 20 0 (M.I 20 0 + 1)) cn c0) c0 else (-2, M.sI 0 0 0)
def pE1 (T : mS) (n : Nat) (wh : Int32) (t : Int64) (j : Nat) : mS :=
  if T.I 13 (10 * n + j) = T.I 19 0 then (if T.I 15 (10 * n + j) = wh then (if 0 ≤ T.J 18 (10 * n + j) then (if t - T.J 18 (10 * n + j) < T.J 16 (10 * n + j) then (T.sI 9 n 1).sJ 18 (10 * n + j) (-1) else if t - T.J 18 (10 * n + j) ≤ T.J 17 (10 * n + j) then T.sJ 18 (10 * n + j) (-1) else (T.sI 9 n 1).sJ 18 (10 * n + j) (-1)) else T) else T) else T
def pE (M : mS) (n : Nat) (wh : Int32) (t : Int64) : Nat → mS
  | 0 => M
  | j + 1 => pE1 (pE M n wh t j) n wh t j
def pB1 (T : mS) (n : Nat) (wh : Int32) (t : Int64) (j : Nat) : mS := if T.I 13 (10 * n + j) = T.I 19 0 then (if T.I 14 (10 * n + j) = wh then T.sJ 18 (10 * n + j) t else T) else T
def pB (M : mS) (n : Nat) (wh : Int32) (t : Int64) : Nat → mS
  | 0 => M
  | j + 1 => pB1 (pB M n wh t j) n wh t j
def mpo3 (V : mS) (n : Nat) (wh : Int32) : Int32 × mS := if wh = 1 then (V.I 5 n, V.sI 8 n (V.I 8 n + 1)) else (V.I 5 n, V)
def mpo2 (U : mS) (n : Nat) (wh : Int32) (t : Int64) (cn : Nat) : Int32 × mS := mpo3 (pB U n wh t cn) n wh
def mpoint (M : mS) (n cn : Nat) (wh : Int32) (t : Int64) : Int32 × mS :=
  if wh < 1 then (-2, M.sI 0 0 0) else if 30 < wh then (-2, M.sI 0 0 0) else if mT (M.sI 0 0 0) t then
    (if M.I 5 n = 2 then (2, ((M.sI 0 0 0).sJ 21 0 t).sI 10 n wh) else if M.I 11 (eix M n (M.I 10 n) wh) = 0 then (2, (((M.sI 0 0 0).sJ 21 0 t).sI 10 n wh).sI 5 n 2) else mpo2 (pE (((M.sI 0 0 0).sJ 21 0 t).sI 10 n wh) n wh t cn) n wh t cn) else (-2, M.sI 0 0 0)

set_option maxHeartbeats 4000000 in
set_option maxRecDepth 100000 in
theorem k_M_answer (l : Launch) (D : va_G) (A : Nat → Prop) (G : Nat → Nat) (M : mS) (ω : hm_T) (c0 : Nat) (hc0 : M.I 1 0 = nI c0) (h20 : c0 ≤ 20) (st : Int32) (v0 t : Int64) : Met l y_M_answer (.code y_M_answer c_M_answer 8 (some .int) :: wsA) { frames := 2, cells := 0, slots := 0, locals := 44 } (va_Pc [.ref (M.ad 0), .int st, .long v0, .long t] (ctU D A G (wM G M ω))) (hm_Q D cls A (fun v w => v = some (.int (mans M st v0 t c0).1) ∧ w = wM G (mans M st v0 t c0).2 ω)) 0 0 A := by
  refine ct_met (by decide) (Nat.le_of_ble_eq_true rfl) ?_
  rintro p e s m below meth c ls X hr hlocks hnm hl ⟨hB, hK⟩
  have hl : lv_has ls 8 [(0, .ref (M.ad 0)), (1, .int st), (2, .long v0), (4, .long t)] := hl
  have hY : hm_Y D cls A s.heap (wM G M ω) s.heap [] := hm_Y.start hB hK.2.2.2
  refine lv_aload_n X.1 X.2.1 d_M_answer_0 rfl (lv_at hl 0 rfl) ?_
  refine lv_iconst (v := 0) X.1 X.2.1 d_M_answer_1 (by decide) ?_
  refine hm_put ⟨X, hK.1⟩ hY v_0 0 rfl (Nat.le_of_ble_eq_true rfl) (Nat.le_of_ble_eq_true rfl) hu_M ty_M ty_M_ok nm_M m_489 (fun _ h => h) rfl rfl rfl d_M_answer_2 (fun H locs hY => ?_)
  have hY : hm_Y D cls A s.heap (wM G (M.sI 0 0 0) ω) H locs := by rw [← fm_0 (M := M) (v := 0)]; exact hY
  refine lv_iload_n X.1 X.2.1 d_M_answer_5 rfl (lv_at hl 1 rfl) ?_
  refine lv_if_lt (tgt := 23) X.1 X.2.1 d_M_answer_6 (by decide) (fun c1 => ?_) (fun c1 => ?_)
  · refine lv_bipush (v := (-2)) X.1 X.2.1 d_M_answer_23 (by decide) ?_
    exact en_iW X hY hr hlocks d_M_answer_25 (⟨by rw [mans, if_pos c1], by rw [mans, if_pos c1]⟩)
  · refine lv_iload_n X.1 X.2.1 d_M_answer_9 rfl (lv_at hl 1 rfl) ?_
    refine lv_iconst (v := 3) X.1 X.2.1 d_M_answer_10 (by decide) ?_
    refine lv_icmp_gt (tgt := 23) X.1 X.2.1 d_M_answer_11 (by decide) (fun c2 => ?_) (fun c2 => ?_)
    · refine lv_bipush (v := (-2)) X.1 X.2.1 d_M_answer_23 (by decide) ?_
      exact en_iW X hY hr hlocks d_M_answer_25 (⟨by rw [mans, if_neg c1, if_pos c2], by rw [mans, if_neg c1, if_pos c2]⟩)
    · refine lv_aload_n X.1 X.2.1 d_M_answer_14 rfl (lv_at hl 0 rfl) ?_
      refine lv_lload X.1 X.2.1 d_M_answer_15 (lv_at hl 3 rfl) ?_
      refine hm_callR (ct_runV (n := 1) X hK hY (k_M_isTime l D A G (M.sI 0 0 0) ω t) m_618 m_615 m_617 ms_M_isTime m_6 (by decide +kernel) ⟨Nat.le_of_ble_eq_true rfl, Nat.le_of_ble_eq_true rfl⟩ ⟨rfl, rfl⟩ (hm_recv ⟨X, hK.1⟩ hY v_0 rfl) rfl hl.1 rfl (Nat.le_of_ble_eq_true rfl) d_M_answer_17 ⟨Nat.le_of_ble_eq_true rfl, Nat.le_of_ble_eq_true rfl⟩) (fun v hv => ?_)
      subst hv
      refine W.eq (g2 := F0 m 20 ls [.int (b2 (mT (M.sI 0 0 0) t))]) rfl ?_
      refine lv_if_ne (tgt := 26) X.1 X.2.1 d_M_answer_20 (by decide) (fun c3 => ?_) (fun c3 => ?_)
      · have c3 : (mT (M.sI 0 0 0) t) := Classical.byContradiction (fun z => c3 (b2_0.mpr z))
        refine lv_aload_n X.1 X.2.1 d_M_answer_26 rfl (lv_at hl 0 rfl) ?_
        refine lv_lload X.1 X.2.1 d_M_answer_27 (lv_at hl 3 rfl) ?_
        refine hm_put ⟨X, hK.1⟩ hY v_0 21 rfl (Nat.le_of_ble_eq_true rfl) (Nat.le_of_ble_eq_true rfl) hu_M ty_M ty_M_ok nm_M m_510 (fun _ h => h) rfl rfl rfl d_M_answer_29 (fun H locs hY => ?_)
        have hY : hm_Y D cls A s.heap (wM G ((M.sI 0 0 0).sJ 21 0 t) ω) H locs := by rw [← fm_21 (M := (M.sI 0 0 0)) (v := t)]; exact hY
        refine lv_iconst (v := 5) X.1 X.2.1 d_M_answer_32 (by decide) ?_
        refine lv_aload_n X.1 X.2.1 d_M_answer_33 rfl (lv_at hl 0 rfl) ?_
        refine hm_get ⟨X, hK.1⟩ hY v_0 26 (v := .int (M.I 26 0)) rfl rfl (Nat.le_of_ble_eq_true rfl) hu_M m_515 (fun _ h => h) d_M_answer_34 ?_
        refine lv_imul X.1 X.2.1 d_M_answer_37 ?_
        refine lv_iconst (v := 3) X.1 X.2.1 d_M_answer_38 (by decide) ?_
        refine lv_iload_n X.1 X.2.1 d_M_answer_39 rfl (lv_at hl 1 rfl) ?_
        refine lv_imul X.1 X.2.1 d_M_answer_40 ?_
        refine lv_iadd X.1 X.2.1 d_M_answer_41 ?_
        refine lv_bipush (v := 10) X.1 X.2.1 d_M_answer_42 (by decide) ?_
        refine lv_ixor X.1 X.2.1 d_M_answer_44 ?_
        refine lv_bipush (v := 16) X.1 X.2.1 d_M_answer_45 (by decide) ?_
        refine lv_irem X.1 X.2.1 d_M_answer_47 (by decide) ?_
        refine W.eq (g2 := F0 m 48 ls [.int (rvI (M.I 26 0) st)]) rfl ?_
        refine lv_istore (lv' := [(6, .int (rvI (M.I 26 0) st)), (0, .ref (M.ad 0)), (1, .int st), (2, .long v0), (4, .long t)]) X.1 X.2.1 d_M_answer_48 hl (by decide) rfl (fun ls hl => ?_)
        refine lv_iload_n X.1 X.2.1 d_M_answer_50 rfl (lv_at hl 2 rfl) ?_
        refine lv_aload_n X.1 X.2.1 d_M_answer_51 rfl (lv_at hl 1 rfl) ?_
        refine hm_get ⟨X, hK.1⟩ hY v_0 27 (v := .int (M.I 27 0)) rfl rfl (Nat.le_of_ble_eq_true rfl) hu_M m_516 (fun _ h => h) d_M_answer_52 ?_
        refine lv_icmp_ne (tgt := 70) X.1 X.2.1 d_M_answer_55 (by decide) (fun c4 => ?_) (fun c4 => ?_)
        · refine lv_iconst (v := 0) X.1 X.2.1 d_M_answer_70 (by decide) ?_
          refine lv_istore (lv' := [(7, .int 0), (6, .int (rvI (M.I 26 0) st)), (0, .ref (M.ad 0)), (1, .int st), (2, .long v0), (4, .long t)]) X.1 X.2.1 d_M_answer_71 hl (by decide) rfl (fun ls hl => ?_)
          refine lv_iload_n X.1 X.2.1 d_M_answer_73 rfl (lv_at hl 3 rfl) ?_
          refine lv_iconst (v := 3) X.1 X.2.1 d_M_answer_74 (by decide) ?_
          refine lv_icmp_ne (tgt := 118) X.1 X.2.1 d_M_answer_75 (by decide) (fun c5 => ?_) (fun c5 => ?_)
          · refine lv_iload X.1 X.2.1 d_M_answer_118 (lv_at hl 0 rfl) ?_
            refine lv_if_ne (tgt := 160) X.1 X.2.1 d_M_answer_120 (by decide) (fun c6 => ?_) (fun c6 => ?_)
            · exact absurd c6 (by decide)
            · refine lv_aload_n X.1 X.2.1 d_M_answer_123 rfl (lv_at hl 2 rfl) ?_
              refine lv_dup X.1 X.2.1 d_M_answer_124 rfl ?_
              refine hm_get ⟨X, hK.1⟩ hY v_0 28 (v := .int (M.I 28 0)) rfl rfl (Nat.le_of_ble_eq_true rfl) hu_M m_517 (fun _ h => h) d_M_answer_125 ?_
              refine lv_iconst (v := 1) X.1 X.2.1 d_M_answer_128 (by decide) ?_
              refine lv_iadd X.1 X.2.1 d_M_answer_129 ?_
              refine hm_put ⟨X, hK.1⟩ hY v_0 28 rfl (Nat.le_of_ble_eq_true rfl) (Nat.le_of_ble_eq_true rfl) hu_M ty_M ty_M_ok nm_M m_517 (fun _ h => h) rfl rfl rfl d_M_answer_130 (fun H locs hY => ?_)
              have hY : hm_Y D cls A s.heap (wM G (((M.sI 0 0 0).sJ 21 0 t).sI 28 0 ((M.I 28 0) + 1)) ω) H locs := by rw [← fm_28 (M := ((M.sI 0 0 0).sJ 21 0 t)) (v := (M.I 28 0) + 1)]; exact hY
              refine lv_aload_n X.1 X.2.1 d_M_answer_133 rfl (lv_at hl 2 rfl) ?_
              refine lv_iconst (v := 0) X.1 X.2.1 d_M_answer_134 (by decide) ?_
              refine hm_put ⟨X, hK.1⟩ hY v_0 27 rfl (Nat.le_of_ble_eq_true rfl) (Nat.le_of_ble_eq_true rfl) hu_M ty_M ty_M_ok nm_M m_516 (fun _ h => h) rfl rfl rfl d_M_answer_135 (fun H locs hY => ?_)
              have hY : hm_Y D cls A s.heap (wM G ((((M.sI 0 0 0).sJ 21 0 t).sI 28 0 ((M.I 28 0) + 1)).sI 27 0 0) ω) H locs := by rw [← fm_27 (M := (((M.sI 0 0 0).sJ 21 0 t).sI 28 0 ((M.I 28 0) + 1))) (v := 0)]; exact hY
              refine lv_aload_n X.1 X.2.1 d_M_answer_138 rfl (lv_at hl 2 rfl) ?_
              refine lv_lload X.1 X.2.1 d_M_answer_139 (lv_at hl 5 rfl) ?_
              refine hm_put ⟨X, hK.1⟩ hY v_0 29 rfl (Nat.le_of_ble_eq_true rfl) (Nat.le_of_ble_eq_true rfl) hu_M ty_M ty_M_ok nm_M m_518 (fun _ h => h) rfl rfl rfl d_M_answer_141 (fun H locs hY => ?_)
              have hY : hm_Y D cls A s.heap (wM G (((((M.sI 0 0 0).sJ 21 0 t).sI 28 0 ((M.I 28 0) + 1)).sI 27 0 0).sJ 29 0 t) ω) H locs := by rw [← fm_29 (M := ((((M.sI 0 0 0).sJ 21 0 t).sI 28 0 ((M.I 28 0) + 1)).sI 27 0 0)) (v := t)]; exact hY
              refine lv_aload_n X.1 X.2.1 d_M_answer_144 rfl (lv_at hl 2 rfl) ?_
              refine hm_get ⟨X, hK.1⟩ hY v_0 28 (v := .int ((M.I 28 0) + 1)) rfl rfl (Nat.le_of_ble_eq_true rfl) hu_M m_517 (fun _ h => h) d_M_answer_145 ?_
              refine lv_bipush (v := 8) X.1 X.2.1 d_M_answer_148 (by decide) ?_
              refine lv_icmp_ne (tgt := 158) X.1 X.2.1 d_M_answer_150 (by decide) (fun c7 => ?_) (fun c7 => ?_)
              · refine lv_iconst (v := 0) X.1 X.2.1 d_M_answer_158 (by decide) ?_
                exact en_iW X hY hr hlocks d_M_answer_159 (⟨by rw [mans, if_neg c1, if_neg c2, if_pos c3, if_neg c4, if_neg c5, if_neg c7], by rw [mans, if_neg c1, if_neg c2, if_pos c3, if_neg c4, if_neg c5, if_neg c7]⟩)
              · refine lv_aload_n X.1 X.2.1 d_M_answer_153 rfl (lv_at hl 2 rfl) ?_
                refine lv_iconst (v := 2) X.1 X.2.1 d_M_answer_154 (by decide) ?_
                refine hm_call (ct_runV (n := 1) X hK hY (k_M_reset0 l D A G (((((M.sI 0 0 0).sJ 21 0 t).sI 28 0 ((M.I 28 0) + 1)).sI 27 0 0).sJ 29 0 t) ω c0 hc0 h20 2) m_631 m_628 m_630 ms_M_reset0 m_6 (by decide +kernel) ⟨Nat.le_of_ble_eq_true rfl, Nat.le_of_ble_eq_true rfl⟩ ⟨rfl, rfl⟩ (hm_recv ⟨X, hK.1⟩ hY v_0 rfl) rfl hl.1 rfl (Nat.le_of_ble_eq_true rfl) d_M_answer_155 ⟨Nat.le_of_ble_eq_true rfl, Nat.le_of_ble_eq_true rfl⟩) hY (fun v w1 H locs hp hY => ?_)
                obtain ⟨rfl, rfl⟩ := hp
                refine W.eq (g2 := F0 m 158 ls []) rfl ?_
                obtain ⟨E8, hE8⟩ : ∃ z, z = r0 (((((M.sI 0 0 0).sJ 21 0 t).sI 28 0 ((M.I 28 0) + 1)).sI 27 0 0).sJ 29 0 t) 2 c0 := ⟨_, rfl⟩
                rw [← hE8] at hY
                have hkE8 : E8.ad = M.ad ∧ E8.I 1 = M.I 1 ∧ E8.I 4 = M.I 4 ∧ E8.I 12 = M.I 12 := by rw [hE8]; exact r0_k (((((M.sI 0 0 0).sJ 21 0 t).sI 28 0 ((M.I 28 0) + 1)).sI 27 0 0).sJ 29 0 t) 2 c0
                have hl : lv_has ls 8 [(7, .int 0), (6, .int (rvI (M.I 26 0) st)), (0, .ref (E8.ad 0)), (1, .int st), (2, .long v0), (4, .long t)] := by rw [hkE8.1]; exact hl
                refine lv_iconst (v := 0) X.1 X.2.1 d_M_answer_158 (by decide) ?_
                exact en_iW X hY hr hlocks d_M_answer_159 (⟨by first | (rw [hE8]; rw [mans, if_neg c1, if_neg c2, if_pos c3, if_neg c4, if_neg c5, if_pos c7]) | rw [mans, if_neg c1, if_neg c2, if_pos c3, if_neg c4, if_neg c5, if_pos c7], by first | (rw [hE8]; rw [mans, if_neg c1, if_neg c2, if_pos c3, if_neg c4, if_neg c5, if_pos c7]) | rw [mans, if_neg c1, if_neg c2, if_pos c3, if_neg c4, if_neg c5, if_pos c7]⟩)
          · refine lv_iload X.1 X.2.1 d_M_answer_78 (lv_at hl 0 rfl) ?_
            refine lv_if_eq (tgt := 115) X.1 X.2.1 d_M_answer_80 (by decide) (fun c9 => ?_) (fun c9 => ?_)
            · refine lv_iconst (v := 0) X.1 X.2.1 d_M_answer_115 (by decide) ?_
              refine lv_istore (lv' := [(7, .int 0), (6, .int (rvI (M.I 26 0) st)), (0, .ref (M.ad 0)), (1, .int st), (2, .long v0), (4, .long t)]) X.1 X.2.1 d_M_answer_116 hl (by decide) rfl (fun ls hl => ?_)
              refine lv_iload X.1 X.2.1 d_M_answer_118 (lv_at hl 0 rfl) ?_
              refine lv_if_ne (tgt := 160) X.1 X.2.1 d_M_answer_120 (by decide) (fun c10 => ?_) (fun c10 => ?_)
              · exact absurd c10 (by decide)
              · refine lv_aload_n X.1 X.2.1 d_M_answer_123 rfl (lv_at hl 2 rfl) ?_
                refine lv_dup X.1 X.2.1 d_M_answer_124 rfl ?_
                refine hm_get ⟨X, hK.1⟩ hY v_0 28 (v := .int (M.I 28 0)) rfl rfl (Nat.le_of_ble_eq_true rfl) hu_M m_517 (fun _ h => h) d_M_answer_125 ?_
                refine lv_iconst (v := 1) X.1 X.2.1 d_M_answer_128 (by decide) ?_
                refine lv_iadd X.1 X.2.1 d_M_answer_129 ?_
                refine hm_put ⟨X, hK.1⟩ hY v_0 28 rfl (Nat.le_of_ble_eq_true rfl) (Nat.le_of_ble_eq_true rfl) hu_M ty_M ty_M_ok nm_M m_517 (fun _ h => h) rfl rfl rfl d_M_answer_130 (fun H locs hY => ?_)
                have hY : hm_Y D cls A s.heap (wM G (((M.sI 0 0 0).sJ 21 0 t).sI 28 0 ((M.I 28 0) + 1)) ω) H locs := by rw [← fm_28 (M := ((M.sI 0 0 0).sJ 21 0 t)) (v := (M.I 28 0) + 1)]; exact hY
                refine lv_aload_n X.1 X.2.1 d_M_answer_133 rfl (lv_at hl 2 rfl) ?_
                refine lv_iconst (v := 0) X.1 X.2.1 d_M_answer_134 (by decide) ?_
                refine hm_put ⟨X, hK.1⟩ hY v_0 27 rfl (Nat.le_of_ble_eq_true rfl) (Nat.le_of_ble_eq_true rfl) hu_M ty_M ty_M_ok nm_M m_516 (fun _ h => h) rfl rfl rfl d_M_answer_135 (fun H locs hY => ?_)
                have hY : hm_Y D cls A s.heap (wM G ((((M.sI 0 0 0).sJ 21 0 t).sI 28 0 ((M.I 28 0) + 1)).sI 27 0 0) ω) H locs := by rw [← fm_27 (M := (((M.sI 0 0 0).sJ 21 0 t).sI 28 0 ((M.I 28 0) + 1))) (v := 0)]; exact hY
                refine lv_aload_n X.1 X.2.1 d_M_answer_138 rfl (lv_at hl 2 rfl) ?_
                refine lv_lload X.1 X.2.1 d_M_answer_139 (lv_at hl 5 rfl) ?_
                refine hm_put ⟨X, hK.1⟩ hY v_0 29 rfl (Nat.le_of_ble_eq_true rfl) (Nat.le_of_ble_eq_true rfl) hu_M ty_M ty_M_ok nm_M m_518 (fun _ h => h) rfl rfl rfl d_M_answer_141 (fun H locs hY => ?_)
                have hY : hm_Y D cls A s.heap (wM G (((((M.sI 0 0 0).sJ 21 0 t).sI 28 0 ((M.I 28 0) + 1)).sI 27 0 0).sJ 29 0 t) ω) H locs := by rw [← fm_29 (M := ((((M.sI 0 0 0).sJ 21 0 t).sI 28 0 ((M.I 28 0) + 1)).sI 27 0 0)) (v := t)]; exact hY
                refine lv_aload_n X.1 X.2.1 d_M_answer_144 rfl (lv_at hl 2 rfl) ?_
                refine hm_get ⟨X, hK.1⟩ hY v_0 28 (v := .int ((M.I 28 0) + 1)) rfl rfl (Nat.le_of_ble_eq_true rfl) hu_M m_517 (fun _ h => h) d_M_answer_145 ?_
                refine lv_bipush (v := 8) X.1 X.2.1 d_M_answer_148 (by decide) ?_
                refine lv_icmp_ne (tgt := 158) X.1 X.2.1 d_M_answer_150 (by decide) (fun c11 => ?_) (fun c11 => ?_)
                · refine lv_iconst (v := 0) X.1 X.2.1 d_M_answer_158 (by decide) ?_
                  exact en_iW X hY hr hlocks d_M_answer_159 (⟨by rw [mans, if_neg c1, if_neg c2, if_pos c3, if_neg c4, if_pos c5, if_neg c11], by rw [mans, if_neg c1, if_neg c2, if_pos c3, if_neg c4, if_pos c5, if_neg c11]⟩)
                · refine lv_aload_n X.1 X.2.1 d_M_answer_153 rfl (lv_at hl 2 rfl) ?_
                  refine lv_iconst (v := 2) X.1 X.2.1 d_M_answer_154 (by decide) ?_
                  refine hm_call (ct_runV (n := 1) X hK hY (k_M_reset0 l D A G (((((M.sI 0 0 0).sJ 21 0 t).sI 28 0 ((M.I 28 0) + 1)).sI 27 0 0).sJ 29 0 t) ω c0 hc0 h20 2) m_631 m_628 m_630 ms_M_reset0 m_6 (by decide +kernel) ⟨Nat.le_of_ble_eq_true rfl, Nat.le_of_ble_eq_true rfl⟩ ⟨rfl, rfl⟩ (hm_recv ⟨X, hK.1⟩ hY v_0 rfl) rfl hl.1 rfl (Nat.le_of_ble_eq_true rfl) d_M_answer_155 ⟨Nat.le_of_ble_eq_true rfl, Nat.le_of_ble_eq_true rfl⟩) hY (fun v w1 H locs hp hY => ?_)
                  obtain ⟨rfl, rfl⟩ := hp
                  refine W.eq (g2 := F0 m 158 ls []) rfl ?_
                  obtain ⟨E12, hE12⟩ : ∃ z, z = r0 (((((M.sI 0 0 0).sJ 21 0 t).sI 28 0 ((M.I 28 0) + 1)).sI 27 0 0).sJ 29 0 t) 2 c0 := ⟨_, rfl⟩
                  rw [← hE12] at hY
                  have hkE12 : E12.ad = M.ad ∧ E12.I 1 = M.I 1 ∧ E12.I 4 = M.I 4 ∧ E12.I 12 = M.I 12 := by rw [hE12]; exact r0_k (((((M.sI 0 0 0).sJ 21 0 t).sI 28 0 ((M.I 28 0) + 1)).sI 27 0 0).sJ 29 0 t) 2 c0
                  have hl : lv_has ls 8 [(7, .int 0), (6, .int (rvI (M.I 26 0) st)), (0, .ref (E12.ad 0)), (1, .int st), (2, .long v0), (4, .long t)] := by rw [hkE12.1]; exact hl
                  refine lv_iconst (v := 0) X.1 X.2.1 d_M_answer_158 (by decide) ?_
                  exact en_iW X hY hr hlocks d_M_answer_159 (⟨by first | (rw [hE12]; rw [mans, if_neg c1, if_neg c2, if_pos c3, if_neg c4, if_pos c5, if_pos c11]) | rw [mans, if_neg c1, if_neg c2, if_pos c3, if_neg c4, if_pos c5, if_pos c11], by first | (rw [hE12]; rw [mans, if_neg c1, if_neg c2, if_pos c3, if_neg c4, if_pos c5, if_pos c11]) | rw [mans, if_neg c1, if_neg c2, if_pos c3, if_neg c4, if_pos c5, if_pos c11]⟩)
            · exact absurd c9 (by decide)
        · refine lv_lload_n X.1 X.2.1 d_M_answer_58 rfl (lv_at hl 3 rfl) ?_
          refine lv_iload X.1 X.2.1 d_M_answer_59 (lv_at hl 0 rfl) ?_
          refine lv_i2l (v := (rvI (M.I 26 0) st).toInt64) X.1 X.2.1 d_M_answer_61 rfl ?_
          refine lc_ne (tgt := 70) X d_M_answer_62 d_M_answer_63 (by decide) (fun c13 => ?_) (fun c13 => ?_)
          · refine lv_iconst (v := 0) X.1 X.2.1 d_M_answer_70 (by decide) ?_
            refine lv_istore (lv' := [(7, .int 0), (6, .int (rvI (M.I 26 0) st)), (0, .ref (M.ad 0)), (1, .int st), (2, .long v0), (4, .long t)]) X.1 X.2.1 d_M_answer_71 hl (by decide) rfl (fun ls hl => ?_)
            refine lv_iload_n X.1 X.2.1 d_M_answer_73 rfl (lv_at hl 3 rfl) ?_
            refine lv_iconst (v := 3) X.1 X.2.1 d_M_answer_74 (by decide) ?_
            refine lv_icmp_ne (tgt := 118) X.1 X.2.1 d_M_answer_75 (by decide) (fun c14 => ?_) (fun c14 => ?_)
            · refine lv_iload X.1 X.2.1 d_M_answer_118 (lv_at hl 0 rfl) ?_
              refine lv_if_ne (tgt := 160) X.1 X.2.1 d_M_answer_120 (by decide) (fun c15 => ?_) (fun c15 => ?_)
              · exact absurd c15 (by decide)
              · refine lv_aload_n X.1 X.2.1 d_M_answer_123 rfl (lv_at hl 2 rfl) ?_
                refine lv_dup X.1 X.2.1 d_M_answer_124 rfl ?_
                refine hm_get ⟨X, hK.1⟩ hY v_0 28 (v := .int (M.I 28 0)) rfl rfl (Nat.le_of_ble_eq_true rfl) hu_M m_517 (fun _ h => h) d_M_answer_125 ?_
                refine lv_iconst (v := 1) X.1 X.2.1 d_M_answer_128 (by decide) ?_
                refine lv_iadd X.1 X.2.1 d_M_answer_129 ?_
                refine hm_put ⟨X, hK.1⟩ hY v_0 28 rfl (Nat.le_of_ble_eq_true rfl) (Nat.le_of_ble_eq_true rfl) hu_M ty_M ty_M_ok nm_M m_517 (fun _ h => h) rfl rfl rfl d_M_answer_130 (fun H locs hY => ?_)
                have hY : hm_Y D cls A s.heap (wM G (((M.sI 0 0 0).sJ 21 0 t).sI 28 0 ((M.I 28 0) + 1)) ω) H locs := by rw [← fm_28 (M := ((M.sI 0 0 0).sJ 21 0 t)) (v := (M.I 28 0) + 1)]; exact hY
                refine lv_aload_n X.1 X.2.1 d_M_answer_133 rfl (lv_at hl 2 rfl) ?_
                refine lv_iconst (v := 0) X.1 X.2.1 d_M_answer_134 (by decide) ?_
                refine hm_put ⟨X, hK.1⟩ hY v_0 27 rfl (Nat.le_of_ble_eq_true rfl) (Nat.le_of_ble_eq_true rfl) hu_M ty_M ty_M_ok nm_M m_516 (fun _ h => h) rfl rfl rfl d_M_answer_135 (fun H locs hY => ?_)
                have hY : hm_Y D cls A s.heap (wM G ((((M.sI 0 0 0).sJ 21 0 t).sI 28 0 ((M.I 28 0) + 1)).sI 27 0 0) ω) H locs := by rw [← fm_27 (M := (((M.sI 0 0 0).sJ 21 0 t).sI 28 0 ((M.I 28 0) + 1))) (v := 0)]; exact hY
                refine lv_aload_n X.1 X.2.1 d_M_answer_138 rfl (lv_at hl 2 rfl) ?_
                refine lv_lload X.1 X.2.1 d_M_answer_139 (lv_at hl 5 rfl) ?_
                refine hm_put ⟨X, hK.1⟩ hY v_0 29 rfl (Nat.le_of_ble_eq_true rfl) (Nat.le_of_ble_eq_true rfl) hu_M ty_M ty_M_ok nm_M m_518 (fun _ h => h) rfl rfl rfl d_M_answer_141 (fun H locs hY => ?_)
                have hY : hm_Y D cls A s.heap (wM G (((((M.sI 0 0 0).sJ 21 0 t).sI 28 0 ((M.I 28 0) + 1)).sI 27 0 0).sJ 29 0 t) ω) H locs := by rw [← fm_29 (M := ((((M.sI 0 0 0).sJ 21 0 t).sI 28 0 ((M.I 28 0) + 1)).sI 27 0 0)) (v := t)]; exact hY
                refine lv_aload_n X.1 X.2.1 d_M_answer_144 rfl (lv_at hl 2 rfl) ?_
                refine hm_get ⟨X, hK.1⟩ hY v_0 28 (v := .int ((M.I 28 0) + 1)) rfl rfl (Nat.le_of_ble_eq_true rfl) hu_M m_517 (fun _ h => h) d_M_answer_145 ?_
                refine lv_bipush (v := 8) X.1 X.2.1 d_M_answer_148 (by decide) ?_
                refine lv_icmp_ne (tgt := 158) X.1 X.2.1 d_M_answer_150 (by decide) (fun c16 => ?_) (fun c16 => ?_)
                · refine lv_iconst (v := 0) X.1 X.2.1 d_M_answer_158 (by decide) ?_
                  exact en_iW X hY hr hlocks d_M_answer_159 (⟨by rw [mans, if_neg c1, if_neg c2, if_pos c3, if_pos c4, if_neg c13, if_neg c14, if_neg c16], by rw [mans, if_neg c1, if_neg c2, if_pos c3, if_pos c4, if_neg c13, if_neg c14, if_neg c16]⟩)
                · refine lv_aload_n X.1 X.2.1 d_M_answer_153 rfl (lv_at hl 2 rfl) ?_
                  refine lv_iconst (v := 2) X.1 X.2.1 d_M_answer_154 (by decide) ?_
                  refine hm_call (ct_runV (n := 1) X hK hY (k_M_reset0 l D A G (((((M.sI 0 0 0).sJ 21 0 t).sI 28 0 ((M.I 28 0) + 1)).sI 27 0 0).sJ 29 0 t) ω c0 hc0 h20 2) m_631 m_628 m_630 ms_M_reset0 m_6 (by decide +kernel) ⟨Nat.le_of_ble_eq_true rfl, Nat.le_of_ble_eq_true rfl⟩ ⟨rfl, rfl⟩ (hm_recv ⟨X, hK.1⟩ hY v_0 rfl) rfl hl.1 rfl (Nat.le_of_ble_eq_true rfl) d_M_answer_155 ⟨Nat.le_of_ble_eq_true rfl, Nat.le_of_ble_eq_true rfl⟩) hY (fun v w1 H locs hp hY => ?_)
                  obtain ⟨rfl, rfl⟩ := hp
                  refine W.eq (g2 := F0 m 158 ls []) rfl ?_
                  obtain ⟨E17, hE17⟩ : ∃ z, z = r0 (((((M.sI 0 0 0).sJ 21 0 t).sI 28 0 ((M.I 28 0) + 1)).sI 27 0 0).sJ 29 0 t) 2 c0 := ⟨_, rfl⟩
                  rw [← hE17] at hY
                  have hkE17 : E17.ad = M.ad ∧ E17.I 1 = M.I 1 ∧ E17.I 4 = M.I 4 ∧ E17.I 12 = M.I 12 := by rw [hE17]; exact r0_k (((((M.sI 0 0 0).sJ 21 0 t).sI 28 0 ((M.I 28 0) + 1)).sI 27 0 0).sJ 29 0 t) 2 c0
                  have hl : lv_has ls 8 [(7, .int 0), (6, .int (rvI (M.I 26 0) st)), (0, .ref (E17.ad 0)), (1, .int st), (2, .long v0), (4, .long t)] := by rw [hkE17.1]; exact hl
                  refine lv_iconst (v := 0) X.1 X.2.1 d_M_answer_158 (by decide) ?_
                  exact en_iW X hY hr hlocks d_M_answer_159 (⟨by first | (rw [hE17]; rw [mans, if_neg c1, if_neg c2, if_pos c3, if_pos c4, if_neg c13, if_neg c14, if_pos c16]) | rw [mans, if_neg c1, if_neg c2, if_pos c3, if_pos c4, if_neg c13, if_neg c14, if_pos c16], by first | (rw [hE17]; rw [mans, if_neg c1, if_neg c2, if_pos c3, if_pos c4, if_neg c13, if_neg c14, if_pos c16]) | rw [mans, if_neg c1, if_neg c2, if_pos c3, if_pos c4, if_neg c13, if_neg c14, if_pos c16]⟩)
            · refine lv_iload X.1 X.2.1 d_M_answer_78 (lv_at hl 0 rfl) ?_
              refine lv_if_eq (tgt := 115) X.1 X.2.1 d_M_answer_80 (by decide) (fun c18 => ?_) (fun c18 => ?_)
              · refine lv_iconst (v := 0) X.1 X.2.1 d_M_answer_115 (by decide) ?_
                refine lv_istore (lv' := [(7, .int 0), (6, .int (rvI (M.I 26 0) st)), (0, .ref (M.ad 0)), (1, .int st), (2, .long v0), (4, .long t)]) X.1 X.2.1 d_M_answer_116 hl (by decide) rfl (fun ls hl => ?_)
                refine lv_iload X.1 X.2.1 d_M_answer_118 (lv_at hl 0 rfl) ?_
                refine lv_if_ne (tgt := 160) X.1 X.2.1 d_M_answer_120 (by decide) (fun c19 => ?_) (fun c19 => ?_)
                · exact absurd c19 (by decide)
                · refine lv_aload_n X.1 X.2.1 d_M_answer_123 rfl (lv_at hl 2 rfl) ?_
                  refine lv_dup X.1 X.2.1 d_M_answer_124 rfl ?_
                  refine hm_get ⟨X, hK.1⟩ hY v_0 28 (v := .int (M.I 28 0)) rfl rfl (Nat.le_of_ble_eq_true rfl) hu_M m_517 (fun _ h => h) d_M_answer_125 ?_
                  refine lv_iconst (v := 1) X.1 X.2.1 d_M_answer_128 (by decide) ?_
                  refine lv_iadd X.1 X.2.1 d_M_answer_129 ?_
                  refine hm_put ⟨X, hK.1⟩ hY v_0 28 rfl (Nat.le_of_ble_eq_true rfl) (Nat.le_of_ble_eq_true rfl) hu_M ty_M ty_M_ok nm_M m_517 (fun _ h => h) rfl rfl rfl d_M_answer_130 (fun H locs hY => ?_)
                  have hY : hm_Y D cls A s.heap (wM G (((M.sI 0 0 0).sJ 21 0 t).sI 28 0 ((M.I 28 0) + 1)) ω) H locs := by rw [← fm_28 (M := ((M.sI 0 0 0).sJ 21 0 t)) (v := (M.I 28 0) + 1)]; exact hY
                  refine lv_aload_n X.1 X.2.1 d_M_answer_133 rfl (lv_at hl 2 rfl) ?_
                  refine lv_iconst (v := 0) X.1 X.2.1 d_M_answer_134 (by decide) ?_
                  refine hm_put ⟨X, hK.1⟩ hY v_0 27 rfl (Nat.le_of_ble_eq_true rfl) (Nat.le_of_ble_eq_true rfl) hu_M ty_M ty_M_ok nm_M m_516 (fun _ h => h) rfl rfl rfl d_M_answer_135 (fun H locs hY => ?_)
                  have hY : hm_Y D cls A s.heap (wM G ((((M.sI 0 0 0).sJ 21 0 t).sI 28 0 ((M.I 28 0) + 1)).sI 27 0 0) ω) H locs := by rw [← fm_27 (M := (((M.sI 0 0 0).sJ 21 0 t).sI 28 0 ((M.I 28 0) + 1))) (v := 0)]; exact hY
                  refine lv_aload_n X.1 X.2.1 d_M_answer_138 rfl (lv_at hl 2 rfl) ?_
                  refine lv_lload X.1 X.2.1 d_M_answer_139 (lv_at hl 5 rfl) ?_
                  refine hm_put ⟨X, hK.1⟩ hY v_0 29 rfl (Nat.le_of_ble_eq_true rfl) (Nat.le_of_ble_eq_true rfl) hu_M ty_M ty_M_ok nm_M m_518 (fun _ h => h) rfl rfl rfl d_M_answer_141 (fun H locs hY => ?_)
                  have hY : hm_Y D cls A s.heap (wM G (((((M.sI 0 0 0).sJ 21 0 t).sI 28 0 ((M.I 28 0) + 1)).sI 27 0 0).sJ 29 0 t) ω) H locs := by rw [← fm_29 (M := ((((M.sI 0 0 0).sJ 21 0 t).sI 28 0 ((M.I 28 0) + 1)).sI 27 0 0)) (v := t)]; exact hY
                  refine lv_aload_n X.1 X.2.1 d_M_answer_144 rfl (lv_at hl 2 rfl) ?_
                  refine hm_get ⟨X, hK.1⟩ hY v_0 28 (v := .int ((M.I 28 0) + 1)) rfl rfl (Nat.le_of_ble_eq_true rfl) hu_M m_517 (fun _ h => h) d_M_answer_145 ?_
                  refine lv_bipush (v := 8) X.1 X.2.1 d_M_answer_148 (by decide) ?_
                  refine lv_icmp_ne (tgt := 158) X.1 X.2.1 d_M_answer_150 (by decide) (fun c20 => ?_) (fun c20 => ?_)
                  · refine lv_iconst (v := 0) X.1 X.2.1 d_M_answer_158 (by decide) ?_
                    exact en_iW X hY hr hlocks d_M_answer_159 (⟨by rw [mans, if_neg c1, if_neg c2, if_pos c3, if_pos c4, if_neg c13, if_pos c14, if_neg c20], by rw [mans, if_neg c1, if_neg c2, if_pos c3, if_pos c4, if_neg c13, if_pos c14, if_neg c20]⟩)
                  · refine lv_aload_n X.1 X.2.1 d_M_answer_153 rfl (lv_at hl 2 rfl) ?_
                    refine lv_iconst (v := 2) X.1 X.2.1 d_M_answer_154 (by decide) ?_
                    refine hm_call (ct_runV (n := 1) X hK hY (k_M_reset0 l D A G (((((M.sI 0 0 0).sJ 21 0 t).sI 28 0 ((M.I 28 0) + 1)).sI 27 0 0).sJ 29 0 t) ω c0 hc0 h20 2) m_631 m_628 m_630 ms_M_reset0 m_6 (by decide +kernel) ⟨Nat.le_of_ble_eq_true rfl, Nat.le_of_ble_eq_true rfl⟩ ⟨rfl, rfl⟩ (hm_recv ⟨X, hK.1⟩ hY v_0 rfl) rfl hl.1 rfl (Nat.le_of_ble_eq_true rfl) d_M_answer_155 ⟨Nat.le_of_ble_eq_true rfl, Nat.le_of_ble_eq_true rfl⟩) hY (fun v w1 H locs hp hY => ?_)
                    obtain ⟨rfl, rfl⟩ := hp
                    refine W.eq (g2 := F0 m 158 ls []) rfl ?_
                    obtain ⟨E21, hE21⟩ : ∃ z, z = r0 (((((M.sI 0 0 0).sJ 21 0 t).sI 28 0 ((M.I 28 0) + 1)).sI 27 0 0).sJ 29 0 t) 2 c0 := ⟨_, rfl⟩
                    rw [← hE21] at hY
                    have hkE21 : E21.ad = M.ad ∧ E21.I 1 = M.I 1 ∧ E21.I 4 = M.I 4 ∧ E21.I 12 = M.I 12 := by rw [hE21]; exact r0_k (((((M.sI 0 0 0).sJ 21 0 t).sI 28 0 ((M.I 28 0) + 1)).sI 27 0 0).sJ 29 0 t) 2 c0
                    have hl : lv_has ls 8 [(7, .int 0), (6, .int (rvI (M.I 26 0) st)), (0, .ref (E21.ad 0)), (1, .int st), (2, .long v0), (4, .long t)] := by rw [hkE21.1]; exact hl
                    refine lv_iconst (v := 0) X.1 X.2.1 d_M_answer_158 (by decide) ?_
                    exact en_iW X hY hr hlocks d_M_answer_159 (⟨by first | (rw [hE21]; rw [mans, if_neg c1, if_neg c2, if_pos c3, if_pos c4, if_neg c13, if_pos c14, if_pos c20]) | rw [mans, if_neg c1, if_neg c2, if_pos c3, if_pos c4, if_neg c13, if_pos c14, if_pos c20], by first | (rw [hE21]; rw [mans, if_neg c1, if_neg c2, if_pos c3, if_pos c4, if_neg c13, if_pos c14, if_pos c20]) | rw [mans, if_neg c1, if_neg c2, if_pos c3, if_pos c4, if_neg c13, if_pos c14, if_pos c20]⟩)
              · exact absurd c18 (by decide)
          · refine lv_iconst (v := 1) X.1 X.2.1 d_M_answer_66 (by decide) ?_
            refine lv_goto (tgt := 71) X.1 X.2.1 d_M_answer_67 (by decide) ?_
            refine lv_istore (lv' := [(7, .int 1), (6, .int (rvI (M.I 26 0) st)), (0, .ref (M.ad 0)), (1, .int st), (2, .long v0), (4, .long t)]) X.1 X.2.1 d_M_answer_71 hl (by decide) rfl (fun ls hl => ?_)
            refine lv_iload_n X.1 X.2.1 d_M_answer_73 rfl (lv_at hl 3 rfl) ?_
            refine lv_iconst (v := 3) X.1 X.2.1 d_M_answer_74 (by decide) ?_
            refine lv_icmp_ne (tgt := 118) X.1 X.2.1 d_M_answer_75 (by decide) (fun c22 => ?_) (fun c22 => ?_)
            · refine lv_iload X.1 X.2.1 d_M_answer_118 (lv_at hl 0 rfl) ?_
              refine lv_if_ne (tgt := 160) X.1 X.2.1 d_M_answer_120 (by decide) (fun c23 => ?_) (fun c23 => ?_)
              · refine lv_aload_n X.1 X.2.1 d_M_answer_160 rfl (lv_at hl 2 rfl) ?_
                refine lv_dup X.1 X.2.1 d_M_answer_161 rfl ?_
                refine hm_get ⟨X, hK.1⟩ hY v_0 27 (v := .int (M.I 27 0)) rfl rfl (Nat.le_of_ble_eq_true rfl) hu_M m_516 (fun _ h => h) d_M_answer_162 ?_
                refine lv_iconst (v := 1) X.1 X.2.1 d_M_answer_165 (by decide) ?_
                refine lv_iadd X.1 X.2.1 d_M_answer_166 ?_
                refine hm_put ⟨X, hK.1⟩ hY v_0 27 rfl (Nat.le_of_ble_eq_true rfl) (Nat.le_of_ble_eq_true rfl) hu_M ty_M ty_M_ok nm_M m_516 (fun _ h => h) rfl rfl rfl d_M_answer_167 (fun H locs hY => ?_)
                have hY : hm_Y D cls A s.heap (wM G (((M.sI 0 0 0).sJ 21 0 t).sI 27 0 ((M.I 27 0) + 1)) ω) H locs := by rw [← fm_27 (M := ((M.sI 0 0 0).sJ 21 0 t)) (v := (M.I 27 0) + 1)]; exact hY
                refine lv_aload_n X.1 X.2.1 d_M_answer_170 rfl (lv_at hl 2 rfl) ?_
                refine hm_get ⟨X, hK.1⟩ hY v_0 27 (v := .int ((M.I 27 0) + 1)) rfl rfl (Nat.le_of_ble_eq_true rfl) hu_M m_516 (fun _ h => h) d_M_answer_171 ?_
                refine lv_iconst (v := 4) X.1 X.2.1 d_M_answer_174 (by decide) ?_
                refine lv_icmp_ge (tgt := 180) X.1 X.2.1 d_M_answer_175 (by decide) (fun c24 => ?_) (fun c24 => ?_)
                · refine lv_aload_n X.1 X.2.1 d_M_answer_180 rfl (lv_at hl 2 rfl) ?_
                  refine lv_iconst (v := 0) X.1 X.2.1 d_M_answer_181 (by decide) ?_
                  refine hm_put ⟨X, hK.1⟩ hY v_0 27 rfl (Nat.le_of_ble_eq_true rfl) (Nat.le_of_ble_eq_true rfl) hu_M ty_M ty_M_ok nm_M m_516 (fun _ h => h) rfl rfl rfl d_M_answer_182 (fun H locs hY => ?_)
                  have hY : hm_Y D cls A s.heap (wM G ((((M.sI 0 0 0).sJ 21 0 t).sI 27 0 ((M.I 27 0) + 1)).sI 27 0 0) ω) H locs := by rw [← fm_27 (M := (((M.sI 0 0 0).sJ 21 0 t).sI 27 0 ((M.I 27 0) + 1))) (v := 0)]; exact hY
                  refine lv_aload_n X.1 X.2.1 d_M_answer_185 rfl (lv_at hl 2 rfl) ?_
                  refine lv_lload X.1 X.2.1 d_M_answer_186 (lv_at hl 5 rfl) ?_
                  refine hm_put ⟨X, hK.1⟩ hY v_0 29 rfl (Nat.le_of_ble_eq_true rfl) (Nat.le_of_ble_eq_true rfl) hu_M ty_M ty_M_ok nm_M m_518 (fun _ h => h) rfl rfl rfl d_M_answer_188 (fun H locs hY => ?_)
                  have hY : hm_Y D cls A s.heap (wM G (((((M.sI 0 0 0).sJ 21 0 t).sI 27 0 ((M.I 27 0) + 1)).sI 27 0 0).sJ 29 0 t) ω) H locs := by rw [← fm_29 (M := ((((M.sI 0 0 0).sJ 21 0 t).sI 27 0 ((M.I 27 0) + 1)).sI 27 0 0)) (v := t)]; exact hY
                  refine lv_aload_n X.1 X.2.1 d_M_answer_191 rfl (lv_at hl 2 rfl) ?_
                  refine lv_aload_n X.1 X.2.1 d_M_answer_192 rfl (lv_at hl 2 rfl) ?_
                  refine hm_get ⟨X, hK.1⟩ hY v_0 28 (v := .int (M.I 28 0)) rfl rfl (Nat.le_of_ble_eq_true rfl) hu_M m_517 (fun _ h => h) d_M_answer_193 ?_
                  refine lv_if_le (tgt := 208) X.1 X.2.1 d_M_answer_196 (by decide) (fun c25 => ?_) (fun c25 => ?_)
                  · refine lv_iconst (v := 0) X.1 X.2.1 d_M_answer_208 (by decide) ?_
                    refine hm_put ⟨X, hK.1⟩ hY v_0 28 rfl (Nat.le_of_ble_eq_true rfl) (Nat.le_of_ble_eq_true rfl) hu_M ty_M ty_M_ok nm_M m_517 (fun _ h => h) rfl rfl rfl d_M_answer_209 (fun H locs hY => ?_)
                    have hY : hm_Y D cls A s.heap (wM G ((((((M.sI 0 0 0).sJ 21 0 t).sI 27 0 ((M.I 27 0) + 1)).sI 27 0 0).sJ 29 0 t).sI 28 0 0) ω) H locs := by rw [← fm_28 (M := (((((M.sI 0 0 0).sJ 21 0 t).sI 27 0 ((M.I 27 0) + 1)).sI 27 0 0).sJ 29 0 t)) (v := 0)]; exact hY
                    refine lv_aload_n X.1 X.2.1 d_M_answer_212 rfl (lv_at hl 2 rfl) ?_
                    refine lv_bipush (v := 7) X.1 X.2.1 d_M_answer_213 (by decide) ?_
                    refine lv_aload_n X.1 X.2.1 d_M_answer_215 rfl (lv_at hl 2 rfl) ?_
                    refine hm_get ⟨X, hK.1⟩ hY v_0 26 (v := .int (M.I 26 0)) rfl rfl (Nat.le_of_ble_eq_true rfl) hu_M m_515 (fun _ h => h) d_M_answer_216 ?_
                    refine lv_imul X.1 X.2.1 d_M_answer_219 ?_
                    refine lv_iconst (v := 3) X.1 X.2.1 d_M_answer_220 (by decide) ?_
                    refine lv_iadd X.1 X.2.1 d_M_answer_221 ?_
                    refine lv_bipush (v := 16) X.1 X.2.1 d_M_answer_222 (by decide) ?_
                    refine lv_irem X.1 X.2.1 d_M_answer_224 (by decide) ?_
                    refine W.eq (g2 := F0 m 225 ls [.int (nq (M.I 26 0)), .ref (M.ad 0)]) rfl ?_
                    refine hm_put ⟨X, hK.1⟩ hY v_0 26 rfl (Nat.le_of_ble_eq_true rfl) (Nat.le_of_ble_eq_true rfl) hu_M ty_M ty_M_ok nm_M m_515 (fun _ h => h) rfl rfl rfl d_M_answer_225 (fun H locs hY => ?_)
                    have hY : hm_Y D cls A s.heap (wM G (((((((M.sI 0 0 0).sJ 21 0 t).sI 27 0 ((M.I 27 0) + 1)).sI 27 0 0).sJ 29 0 t).sI 28 0 0).sI 26 0 (nq (M.I 26 0))) ω) H locs := by rw [← fm_26 (M := ((((((M.sI 0 0 0).sJ 21 0 t).sI 27 0 ((M.I 27 0) + 1)).sI 27 0 0).sJ 29 0 t).sI 28 0 0)) (v := nq (M.I 26 0))]; exact hY
                    refine lv_iconst (v := 1) X.1 X.2.1 d_M_answer_228 (by decide) ?_
                    exact en_iW X hY hr hlocks d_M_answer_229 (⟨by rw [mans, if_neg c1, if_neg c2, if_pos c3, if_pos c4, if_pos c13, if_neg c22, if_pos c24, if_pos c25], by rw [mans, if_neg c1, if_neg c2, if_pos c3, if_pos c4, if_pos c13, if_neg c22, if_pos c24, if_pos c25]⟩)
                  · refine lv_aload_n X.1 X.2.1 d_M_answer_199 rfl (lv_at hl 2 rfl) ?_
                    refine hm_get ⟨X, hK.1⟩ hY v_0 28 (v := .int (M.I 28 0)) rfl rfl (Nat.le_of_ble_eq_true rfl) hu_M m_517 (fun _ h => h) d_M_answer_200 ?_
                    refine lv_iconst (v := 1) X.1 X.2.1 d_M_answer_203 (by decide) ?_
                    refine lv_isub X.1 X.2.1 d_M_answer_204 ?_
                    refine lv_goto (tgt := 209) X.1 X.2.1 d_M_answer_205 (by decide) ?_
                    refine hm_put ⟨X, hK.1⟩ hY v_0 28 rfl (Nat.le_of_ble_eq_true rfl) (Nat.le_of_ble_eq_true rfl) hu_M ty_M ty_M_ok nm_M m_517 (fun _ h => h) rfl rfl rfl d_M_answer_209 (fun H locs hY => ?_)
                    have hY : hm_Y D cls A s.heap (wM G ((((((M.sI 0 0 0).sJ 21 0 t).sI 27 0 ((M.I 27 0) + 1)).sI 27 0 0).sJ 29 0 t).sI 28 0 ((M.I 28 0) - 1)) ω) H locs := by rw [← fm_28 (M := (((((M.sI 0 0 0).sJ 21 0 t).sI 27 0 ((M.I 27 0) + 1)).sI 27 0 0).sJ 29 0 t)) (v := (M.I 28 0) - 1)]; exact hY
                    refine lv_aload_n X.1 X.2.1 d_M_answer_212 rfl (lv_at hl 2 rfl) ?_
                    refine lv_bipush (v := 7) X.1 X.2.1 d_M_answer_213 (by decide) ?_
                    refine lv_aload_n X.1 X.2.1 d_M_answer_215 rfl (lv_at hl 2 rfl) ?_
                    refine hm_get ⟨X, hK.1⟩ hY v_0 26 (v := .int (M.I 26 0)) rfl rfl (Nat.le_of_ble_eq_true rfl) hu_M m_515 (fun _ h => h) d_M_answer_216 ?_
                    refine lv_imul X.1 X.2.1 d_M_answer_219 ?_
                    refine lv_iconst (v := 3) X.1 X.2.1 d_M_answer_220 (by decide) ?_
                    refine lv_iadd X.1 X.2.1 d_M_answer_221 ?_
                    refine lv_bipush (v := 16) X.1 X.2.1 d_M_answer_222 (by decide) ?_
                    refine lv_irem X.1 X.2.1 d_M_answer_224 (by decide) ?_
                    refine W.eq (g2 := F0 m 225 ls [.int (nq (M.I 26 0)), .ref (M.ad 0)]) rfl ?_
                    refine hm_put ⟨X, hK.1⟩ hY v_0 26 rfl (Nat.le_of_ble_eq_true rfl) (Nat.le_of_ble_eq_true rfl) hu_M ty_M ty_M_ok nm_M m_515 (fun _ h => h) rfl rfl rfl d_M_answer_225 (fun H locs hY => ?_)
                    have hY : hm_Y D cls A s.heap (wM G (((((((M.sI 0 0 0).sJ 21 0 t).sI 27 0 ((M.I 27 0) + 1)).sI 27 0 0).sJ 29 0 t).sI 28 0 ((M.I 28 0) - 1)).sI 26 0 (nq (M.I 26 0))) ω) H locs := by rw [← fm_26 (M := ((((((M.sI 0 0 0).sJ 21 0 t).sI 27 0 ((M.I 27 0) + 1)).sI 27 0 0).sJ 29 0 t).sI 28 0 ((M.I 28 0) - 1))) (v := nq (M.I 26 0))]; exact hY
                    refine lv_iconst (v := 1) X.1 X.2.1 d_M_answer_228 (by decide) ?_
                    exact en_iW X hY hr hlocks d_M_answer_229 (⟨by rw [mans, if_neg c1, if_neg c2, if_pos c3, if_pos c4, if_pos c13, if_neg c22, if_pos c24, if_neg c25], by rw [mans, if_neg c1, if_neg c2, if_pos c3, if_pos c4, if_pos c13, if_neg c22, if_pos c24, if_neg c25]⟩)
                · refine lv_iconst (v := 1) X.1 X.2.1 d_M_answer_178 (by decide) ?_
                  exact en_iW X hY hr hlocks d_M_answer_179 (⟨by rw [mans, if_neg c1, if_neg c2, if_pos c3, if_pos c4, if_pos c13, if_neg c22, if_neg c24], by rw [mans, if_neg c1, if_neg c2, if_pos c3, if_pos c4, if_pos c13, if_neg c22, if_neg c24]⟩)
              · exact absurd c23 (by decide)
            · refine lv_iload X.1 X.2.1 d_M_answer_78 (lv_at hl 0 rfl) ?_
              refine lv_if_eq (tgt := 115) X.1 X.2.1 d_M_answer_80 (by decide) (fun c26 => ?_) (fun c26 => ?_)
              · exact absurd c26 (by decide)
              · refine lv_lload X.1 X.2.1 d_M_answer_83 (lv_at hl 5 rfl) ?_
                refine lv_aload_n X.1 X.2.1 d_M_answer_85 rfl (lv_at hl 2 rfl) ?_
                refine hm_get ⟨X, hK.1⟩ hY v_0 29 (v := .long (M.J 29 0)) rfl rfl (Nat.le_of_ble_eq_true rfl) hu_M m_518 (fun _ h => h) d_M_answer_86 ?_
                refine lv_lsub X.1 X.2.1 d_M_answer_89 ?_
                refine lv_ldc2 X.1 X.2.1 X.2.2.2.1 (X.2.2.2.2 _ m_644) d_M_answer_90 ?_
                refine lc_lt (tgt := 115) X d_M_answer_93 d_M_answer_94 (by decide) (fun c27 => ?_) (fun c27 => ?_)
                · refine lv_iconst (v := 0) X.1 X.2.1 d_M_answer_115 (by decide) ?_
                  refine lv_istore (lv' := [(7, .int 0), (6, .int (rvI (M.I 26 0) st)), (0, .ref (M.ad 0)), (1, .int st), (2, .long v0), (4, .long t)]) X.1 X.2.1 d_M_answer_116 hl (by decide) rfl (fun ls hl => ?_)
                  refine lv_iload X.1 X.2.1 d_M_answer_118 (lv_at hl 0 rfl) ?_
                  refine lv_if_ne (tgt := 160) X.1 X.2.1 d_M_answer_120 (by decide) (fun c28 => ?_) (fun c28 => ?_)
                  · exact absurd c28 (by decide)
                  · refine lv_aload_n X.1 X.2.1 d_M_answer_123 rfl (lv_at hl 2 rfl) ?_
                    refine lv_dup X.1 X.2.1 d_M_answer_124 rfl ?_
                    refine hm_get ⟨X, hK.1⟩ hY v_0 28 (v := .int (M.I 28 0)) rfl rfl (Nat.le_of_ble_eq_true rfl) hu_M m_517 (fun _ h => h) d_M_answer_125 ?_
                    refine lv_iconst (v := 1) X.1 X.2.1 d_M_answer_128 (by decide) ?_
                    refine lv_iadd X.1 X.2.1 d_M_answer_129 ?_
                    refine hm_put ⟨X, hK.1⟩ hY v_0 28 rfl (Nat.le_of_ble_eq_true rfl) (Nat.le_of_ble_eq_true rfl) hu_M ty_M ty_M_ok nm_M m_517 (fun _ h => h) rfl rfl rfl d_M_answer_130 (fun H locs hY => ?_)
                    have hY : hm_Y D cls A s.heap (wM G (((M.sI 0 0 0).sJ 21 0 t).sI 28 0 ((M.I 28 0) + 1)) ω) H locs := by rw [← fm_28 (M := ((M.sI 0 0 0).sJ 21 0 t)) (v := (M.I 28 0) + 1)]; exact hY
                    refine lv_aload_n X.1 X.2.1 d_M_answer_133 rfl (lv_at hl 2 rfl) ?_
                    refine lv_iconst (v := 0) X.1 X.2.1 d_M_answer_134 (by decide) ?_
                    refine hm_put ⟨X, hK.1⟩ hY v_0 27 rfl (Nat.le_of_ble_eq_true rfl) (Nat.le_of_ble_eq_true rfl) hu_M ty_M ty_M_ok nm_M m_516 (fun _ h => h) rfl rfl rfl d_M_answer_135 (fun H locs hY => ?_)
                    have hY : hm_Y D cls A s.heap (wM G ((((M.sI 0 0 0).sJ 21 0 t).sI 28 0 ((M.I 28 0) + 1)).sI 27 0 0) ω) H locs := by rw [← fm_27 (M := (((M.sI 0 0 0).sJ 21 0 t).sI 28 0 ((M.I 28 0) + 1))) (v := 0)]; exact hY
                    refine lv_aload_n X.1 X.2.1 d_M_answer_138 rfl (lv_at hl 2 rfl) ?_
                    refine lv_lload X.1 X.2.1 d_M_answer_139 (lv_at hl 5 rfl) ?_
                    refine hm_put ⟨X, hK.1⟩ hY v_0 29 rfl (Nat.le_of_ble_eq_true rfl) (Nat.le_of_ble_eq_true rfl) hu_M ty_M ty_M_ok nm_M m_518 (fun _ h => h) rfl rfl rfl d_M_answer_141 (fun H locs hY => ?_)
                    have hY : hm_Y D cls A s.heap (wM G (((((M.sI 0 0 0).sJ 21 0 t).sI 28 0 ((M.I 28 0) + 1)).sI 27 0 0).sJ 29 0 t) ω) H locs := by rw [← fm_29 (M := ((((M.sI 0 0 0).sJ 21 0 t).sI 28 0 ((M.I 28 0) + 1)).sI 27 0 0)) (v := t)]; exact hY
                    refine lv_aload_n X.1 X.2.1 d_M_answer_144 rfl (lv_at hl 2 rfl) ?_
                    refine hm_get ⟨X, hK.1⟩ hY v_0 28 (v := .int ((M.I 28 0) + 1)) rfl rfl (Nat.le_of_ble_eq_true rfl) hu_M m_517 (fun _ h => h) d_M_answer_145 ?_
                    refine lv_bipush (v := 8) X.1 X.2.1 d_M_answer_148 (by decide) ?_
                    refine lv_icmp_ne (tgt := 158) X.1 X.2.1 d_M_answer_150 (by decide) (fun c29 => ?_) (fun c29 => ?_)
                    · refine lv_iconst (v := 0) X.1 X.2.1 d_M_answer_158 (by decide) ?_
                      exact en_iW X hY hr hlocks d_M_answer_159 (⟨by rw [mans, if_neg c1, if_neg c2, if_pos c3, if_pos c4, if_pos c13, if_pos c22, if_pos c27, if_neg c29], by rw [mans, if_neg c1, if_neg c2, if_pos c3, if_pos c4, if_pos c13, if_pos c22, if_pos c27, if_neg c29]⟩)
                    · refine lv_aload_n X.1 X.2.1 d_M_answer_153 rfl (lv_at hl 2 rfl) ?_
                      refine lv_iconst (v := 2) X.1 X.2.1 d_M_answer_154 (by decide) ?_
                      refine hm_call (ct_runV (n := 1) X hK hY (k_M_reset0 l D A G (((((M.sI 0 0 0).sJ 21 0 t).sI 28 0 ((M.I 28 0) + 1)).sI 27 0 0).sJ 29 0 t) ω c0 hc0 h20 2) m_631 m_628 m_630 ms_M_reset0 m_6 (by decide +kernel) ⟨Nat.le_of_ble_eq_true rfl, Nat.le_of_ble_eq_true rfl⟩ ⟨rfl, rfl⟩ (hm_recv ⟨X, hK.1⟩ hY v_0 rfl) rfl hl.1 rfl (Nat.le_of_ble_eq_true rfl) d_M_answer_155 ⟨Nat.le_of_ble_eq_true rfl, Nat.le_of_ble_eq_true rfl⟩) hY (fun v w1 H locs hp hY => ?_)
                      obtain ⟨rfl, rfl⟩ := hp
                      refine W.eq (g2 := F0 m 158 ls []) rfl ?_
                      obtain ⟨E30, hE30⟩ : ∃ z, z = r0 (((((M.sI 0 0 0).sJ 21 0 t).sI 28 0 ((M.I 28 0) + 1)).sI 27 0 0).sJ 29 0 t) 2 c0 := ⟨_, rfl⟩
                      rw [← hE30] at hY
                      have hkE30 : E30.ad = M.ad ∧ E30.I 1 = M.I 1 ∧ E30.I 4 = M.I 4 ∧ E30.I 12 = M.I 12 := by rw [hE30]; exact r0_k (((((M.sI 0 0 0).sJ 21 0 t).sI 28 0 ((M.I 28 0) + 1)).sI 27 0 0).sJ 29 0 t) 2 c0
                      have hl : lv_has ls 8 [(7, .int 0), (6, .int (rvI (M.I 26 0) st)), (0, .ref (E30.ad 0)), (1, .int st), (2, .long v0), (4, .long t)] := by rw [hkE30.1]; exact hl
                      refine lv_iconst (v := 0) X.1 X.2.1 d_M_answer_158 (by decide) ?_
                      exact en_iW X hY hr hlocks d_M_answer_159 (⟨by first | (rw [hE30]; rw [mans, if_neg c1, if_neg c2, if_pos c3, if_pos c4, if_pos c13, if_pos c22, if_pos c27, if_pos c29]) | rw [mans, if_neg c1, if_neg c2, if_pos c3, if_pos c4, if_pos c13, if_pos c22, if_pos c27, if_pos c29], by first | (rw [hE30]; rw [mans, if_neg c1, if_neg c2, if_pos c3, if_pos c4, if_pos c13, if_pos c22, if_pos c27, if_pos c29]) | rw [mans, if_neg c1, if_neg c2, if_pos c3, if_pos c4, if_pos c13, if_pos c22, if_pos c27, if_pos c29]⟩)
                · refine lv_lload X.1 X.2.1 d_M_answer_97 (lv_at hl 5 rfl) ?_
                  refine lv_aload_n X.1 X.2.1 d_M_answer_99 rfl (lv_at hl 2 rfl) ?_
                  refine hm_get ⟨X, hK.1⟩ hY v_0 29 (v := .long (M.J 29 0)) rfl rfl (Nat.le_of_ble_eq_true rfl) hu_M m_518 (fun _ h => h) d_M_answer_100 ?_
                  refine lv_lsub X.1 X.2.1 d_M_answer_103 ?_
                  refine lv_ldc2 X.1 X.2.1 X.2.2.2.1 (X.2.2.2.2 _ m_645) d_M_answer_104 ?_
                  refine lc_gt (tgt := 115) X d_M_answer_107 d_M_answer_108 (by decide) (fun c31 => ?_) (fun c31 => ?_)
                  · refine lv_iconst (v := 0) X.1 X.2.1 d_M_answer_115 (by decide) ?_
                    refine lv_istore (lv' := [(7, .int 0), (6, .int (rvI (M.I 26 0) st)), (0, .ref (M.ad 0)), (1, .int st), (2, .long v0), (4, .long t)]) X.1 X.2.1 d_M_answer_116 hl (by decide) rfl (fun ls hl => ?_)
                    refine lv_iload X.1 X.2.1 d_M_answer_118 (lv_at hl 0 rfl) ?_
                    refine lv_if_ne (tgt := 160) X.1 X.2.1 d_M_answer_120 (by decide) (fun c32 => ?_) (fun c32 => ?_)
                    · exact absurd c32 (by decide)
                    · refine lv_aload_n X.1 X.2.1 d_M_answer_123 rfl (lv_at hl 2 rfl) ?_
                      refine lv_dup X.1 X.2.1 d_M_answer_124 rfl ?_
                      refine hm_get ⟨X, hK.1⟩ hY v_0 28 (v := .int (M.I 28 0)) rfl rfl (Nat.le_of_ble_eq_true rfl) hu_M m_517 (fun _ h => h) d_M_answer_125 ?_
                      refine lv_iconst (v := 1) X.1 X.2.1 d_M_answer_128 (by decide) ?_
                      refine lv_iadd X.1 X.2.1 d_M_answer_129 ?_
                      refine hm_put ⟨X, hK.1⟩ hY v_0 28 rfl (Nat.le_of_ble_eq_true rfl) (Nat.le_of_ble_eq_true rfl) hu_M ty_M ty_M_ok nm_M m_517 (fun _ h => h) rfl rfl rfl d_M_answer_130 (fun H locs hY => ?_)
                      have hY : hm_Y D cls A s.heap (wM G (((M.sI 0 0 0).sJ 21 0 t).sI 28 0 ((M.I 28 0) + 1)) ω) H locs := by rw [← fm_28 (M := ((M.sI 0 0 0).sJ 21 0 t)) (v := (M.I 28 0) + 1)]; exact hY
                      refine lv_aload_n X.1 X.2.1 d_M_answer_133 rfl (lv_at hl 2 rfl) ?_
                      refine lv_iconst (v := 0) X.1 X.2.1 d_M_answer_134 (by decide) ?_
                      refine hm_put ⟨X, hK.1⟩ hY v_0 27 rfl (Nat.le_of_ble_eq_true rfl) (Nat.le_of_ble_eq_true rfl) hu_M ty_M ty_M_ok nm_M m_516 (fun _ h => h) rfl rfl rfl d_M_answer_135 (fun H locs hY => ?_)
                      have hY : hm_Y D cls A s.heap (wM G ((((M.sI 0 0 0).sJ 21 0 t).sI 28 0 ((M.I 28 0) + 1)).sI 27 0 0) ω) H locs := by rw [← fm_27 (M := (((M.sI 0 0 0).sJ 21 0 t).sI 28 0 ((M.I 28 0) + 1))) (v := 0)]; exact hY
                      refine lv_aload_n X.1 X.2.1 d_M_answer_138 rfl (lv_at hl 2 rfl) ?_
                      refine lv_lload X.1 X.2.1 d_M_answer_139 (lv_at hl 5 rfl) ?_
                      refine hm_put ⟨X, hK.1⟩ hY v_0 29 rfl (Nat.le_of_ble_eq_true rfl) (Nat.le_of_ble_eq_true rfl) hu_M ty_M ty_M_ok nm_M m_518 (fun _ h => h) rfl rfl rfl d_M_answer_141 (fun H locs hY => ?_)
                      have hY : hm_Y D cls A s.heap (wM G (((((M.sI 0 0 0).sJ 21 0 t).sI 28 0 ((M.I 28 0) + 1)).sI 27 0 0).sJ 29 0 t) ω) H locs := by rw [← fm_29 (M := ((((M.sI 0 0 0).sJ 21 0 t).sI 28 0 ((M.I 28 0) + 1)).sI 27 0 0)) (v := t)]; exact hY
                      refine lv_aload_n X.1 X.2.1 d_M_answer_144 rfl (lv_at hl 2 rfl) ?_
                      refine hm_get ⟨X, hK.1⟩ hY v_0 28 (v := .int ((M.I 28 0) + 1)) rfl rfl (Nat.le_of_ble_eq_true rfl) hu_M m_517 (fun _ h => h) d_M_answer_145 ?_
                      refine lv_bipush (v := 8) X.1 X.2.1 d_M_answer_148 (by decide) ?_
                      refine lv_icmp_ne (tgt := 158) X.1 X.2.1 d_M_answer_150 (by decide) (fun c33 => ?_) (fun c33 => ?_)
                      · refine lv_iconst (v := 0) X.1 X.2.1 d_M_answer_158 (by decide) ?_
                        exact en_iW X hY hr hlocks d_M_answer_159 (⟨by rw [mans, if_neg c1, if_neg c2, if_pos c3, if_pos c4, if_pos c13, if_pos c22, if_neg c27, if_pos c31, if_neg c33], by rw [mans, if_neg c1, if_neg c2, if_pos c3, if_pos c4, if_pos c13, if_pos c22, if_neg c27, if_pos c31, if_neg c33]⟩)
                      · refine lv_aload_n X.1 X.2.1 d_M_answer_153 rfl (lv_at hl 2 rfl) ?_
                        refine lv_iconst (v := 2) X.1 X.2.1 d_M_answer_154 (by decide) ?_
                        refine hm_call (ct_runV (n := 1) X hK hY (k_M_reset0 l D A G (((((M.sI 0 0 0).sJ 21 0 t).sI 28 0 ((M.I 28 0) + 1)).sI 27 0 0).sJ 29 0 t) ω c0 hc0 h20 2) m_631 m_628 m_630 ms_M_reset0 m_6 (by decide +kernel) ⟨Nat.le_of_ble_eq_true rfl, Nat.le_of_ble_eq_true rfl⟩ ⟨rfl, rfl⟩ (hm_recv ⟨X, hK.1⟩ hY v_0 rfl) rfl hl.1 rfl (Nat.le_of_ble_eq_true rfl) d_M_answer_155 ⟨Nat.le_of_ble_eq_true rfl, Nat.le_of_ble_eq_true rfl⟩) hY (fun v w1 H locs hp hY => ?_)
                        obtain ⟨rfl, rfl⟩ := hp
                        refine W.eq (g2 := F0 m 158 ls []) rfl ?_
                        obtain ⟨E34, hE34⟩ : ∃ z, z = r0 (((((M.sI 0 0 0).sJ 21 0 t).sI 28 0 ((M.I 28 0) + 1)).sI 27 0 0).sJ 29 0 t) 2 c0 := ⟨_, rfl⟩
                        rw [← hE34] at hY
                        have hkE34 : E34.ad = M.ad ∧ E34.I 1 = M.I 1 ∧ E34.I 4 = M.I 4 ∧ E34.I 12 = M.I 12 := by rw [hE34]; exact r0_k (((((M.sI 0 0 0).sJ 21 0 t).sI 28 0 ((M.I 28 0) + 1)).sI 27 0 0).sJ 29 0 t) 2 c0
                        have hl : lv_has ls 8 [(7, .int 0), (6, .int (rvI (M.I 26 0) st)), (0, .ref (E34.ad 0)), (1, .int st), (2, .long v0), (4, .long t)] := by rw [hkE34.1]; exact hl
                        refine lv_iconst (v := 0) X.1 X.2.1 d_M_answer_158 (by decide) ?_
                        exact en_iW X hY hr hlocks d_M_answer_159 (⟨by first | (rw [hE34]; rw [mans, if_neg c1, if_neg c2, if_pos c3, if_pos c4, if_pos c13, if_pos c22, if_neg c27, if_pos c31, if_pos c33]) | rw [mans, if_neg c1, if_neg c2, if_pos c3, if_pos c4, if_pos c13, if_pos c22, if_neg c27, if_pos c31, if_pos c33], by first | (rw [hE34]; rw [mans, if_neg c1, if_neg c2, if_pos c3, if_pos c4, if_pos c13, if_pos c22, if_neg c27, if_pos c31, if_pos c33]) | rw [mans, if_neg c1, if_neg c2, if_pos c3, if_pos c4, if_pos c13, if_pos c22, if_neg c27, if_pos c31, if_pos c33]⟩)
                  · refine lv_iconst (v := 1) X.1 X.2.1 d_M_answer_111 (by decide) ?_
                    refine lv_goto (tgt := 116) X.1 X.2.1 d_M_answer_112 (by decide) ?_
                    refine lv_istore (lv' := [(7, .int 1), (6, .int (rvI (M.I 26 0) st)), (0, .ref (M.ad 0)), (1, .int st), (2, .long v0), (4, .long t)]) X.1 X.2.1 d_M_answer_116 hl (by decide) rfl (fun ls hl => ?_)
                    refine lv_iload X.1 X.2.1 d_M_answer_118 (lv_at hl 0 rfl) ?_
                    refine lv_if_ne (tgt := 160) X.1 X.2.1 d_M_answer_120 (by decide) (fun c35 => ?_) (fun c35 => ?_)
                    · refine lv_aload_n X.1 X.2.1 d_M_answer_160 rfl (lv_at hl 2 rfl) ?_
                      refine lv_dup X.1 X.2.1 d_M_answer_161 rfl ?_
                      refine hm_get ⟨X, hK.1⟩ hY v_0 27 (v := .int (M.I 27 0)) rfl rfl (Nat.le_of_ble_eq_true rfl) hu_M m_516 (fun _ h => h) d_M_answer_162 ?_
                      refine lv_iconst (v := 1) X.1 X.2.1 d_M_answer_165 (by decide) ?_
                      refine lv_iadd X.1 X.2.1 d_M_answer_166 ?_
                      refine hm_put ⟨X, hK.1⟩ hY v_0 27 rfl (Nat.le_of_ble_eq_true rfl) (Nat.le_of_ble_eq_true rfl) hu_M ty_M ty_M_ok nm_M m_516 (fun _ h => h) rfl rfl rfl d_M_answer_167 (fun H locs hY => ?_)
                      have hY : hm_Y D cls A s.heap (wM G (((M.sI 0 0 0).sJ 21 0 t).sI 27 0 ((M.I 27 0) + 1)) ω) H locs := by rw [← fm_27 (M := ((M.sI 0 0 0).sJ 21 0 t)) (v := (M.I 27 0) + 1)]; exact hY
                      refine lv_aload_n X.1 X.2.1 d_M_answer_170 rfl (lv_at hl 2 rfl) ?_
                      refine hm_get ⟨X, hK.1⟩ hY v_0 27 (v := .int ((M.I 27 0) + 1)) rfl rfl (Nat.le_of_ble_eq_true rfl) hu_M m_516 (fun _ h => h) d_M_answer_171 ?_
                      refine lv_iconst (v := 4) X.1 X.2.1 d_M_answer_174 (by decide) ?_
                      refine lv_icmp_ge (tgt := 180) X.1 X.2.1 d_M_answer_175 (by decide) (fun c36 => ?_) (fun c36 => ?_)
                      · refine lv_aload_n X.1 X.2.1 d_M_answer_180 rfl (lv_at hl 2 rfl) ?_
                        refine lv_iconst (v := 0) X.1 X.2.1 d_M_answer_181 (by decide) ?_
                        refine hm_put ⟨X, hK.1⟩ hY v_0 27 rfl (Nat.le_of_ble_eq_true rfl) (Nat.le_of_ble_eq_true rfl) hu_M ty_M ty_M_ok nm_M m_516 (fun _ h => h) rfl rfl rfl d_M_answer_182 (fun H locs hY => ?_)
                        have hY : hm_Y D cls A s.heap (wM G ((((M.sI 0 0 0).sJ 21 0 t).sI 27 0 ((M.I 27 0) + 1)).sI 27 0 0) ω) H locs := by rw [← fm_27 (M := (((M.sI 0 0 0).sJ 21 0 t).sI 27 0 ((M.I 27 0) + 1))) (v := 0)]; exact hY
                        refine lv_aload_n X.1 X.2.1 d_M_answer_185 rfl (lv_at hl 2 rfl) ?_
                        refine lv_lload X.1 X.2.1 d_M_answer_186 (lv_at hl 5 rfl) ?_
                        refine hm_put ⟨X, hK.1⟩ hY v_0 29 rfl (Nat.le_of_ble_eq_true rfl) (Nat.le_of_ble_eq_true rfl) hu_M ty_M ty_M_ok nm_M m_518 (fun _ h => h) rfl rfl rfl d_M_answer_188 (fun H locs hY => ?_)
                        have hY : hm_Y D cls A s.heap (wM G (((((M.sI 0 0 0).sJ 21 0 t).sI 27 0 ((M.I 27 0) + 1)).sI 27 0 0).sJ 29 0 t) ω) H locs := by rw [← fm_29 (M := ((((M.sI 0 0 0).sJ 21 0 t).sI 27 0 ((M.I 27 0) + 1)).sI 27 0 0)) (v := t)]; exact hY
                        refine lv_aload_n X.1 X.2.1 d_M_answer_191 rfl (lv_at hl 2 rfl) ?_
                        refine lv_aload_n X.1 X.2.1 d_M_answer_192 rfl (lv_at hl 2 rfl) ?_
                        refine hm_get ⟨X, hK.1⟩ hY v_0 28 (v := .int (M.I 28 0)) rfl rfl (Nat.le_of_ble_eq_true rfl) hu_M m_517 (fun _ h => h) d_M_answer_193 ?_
                        refine lv_if_le (tgt := 208) X.1 X.2.1 d_M_answer_196 (by decide) (fun c37 => ?_) (fun c37 => ?_)
                        · refine lv_iconst (v := 0) X.1 X.2.1 d_M_answer_208 (by decide) ?_
                          refine hm_put ⟨X, hK.1⟩ hY v_0 28 rfl (Nat.le_of_ble_eq_true rfl) (Nat.le_of_ble_eq_true rfl) hu_M ty_M ty_M_ok nm_M m_517 (fun _ h => h) rfl rfl rfl d_M_answer_209 (fun H locs hY => ?_)
                          have hY : hm_Y D cls A s.heap (wM G ((((((M.sI 0 0 0).sJ 21 0 t).sI 27 0 ((M.I 27 0) + 1)).sI 27 0 0).sJ 29 0 t).sI 28 0 0) ω) H locs := by rw [← fm_28 (M := (((((M.sI 0 0 0).sJ 21 0 t).sI 27 0 ((M.I 27 0) + 1)).sI 27 0 0).sJ 29 0 t)) (v := 0)]; exact hY
                          refine lv_aload_n X.1 X.2.1 d_M_answer_212 rfl (lv_at hl 2 rfl) ?_
                          refine lv_bipush (v := 7) X.1 X.2.1 d_M_answer_213 (by decide) ?_
                          refine lv_aload_n X.1 X.2.1 d_M_answer_215 rfl (lv_at hl 2 rfl) ?_
                          refine hm_get ⟨X, hK.1⟩ hY v_0 26 (v := .int (M.I 26 0)) rfl rfl (Nat.le_of_ble_eq_true rfl) hu_M m_515 (fun _ h => h) d_M_answer_216 ?_
                          refine lv_imul X.1 X.2.1 d_M_answer_219 ?_
                          refine lv_iconst (v := 3) X.1 X.2.1 d_M_answer_220 (by decide) ?_
                          refine lv_iadd X.1 X.2.1 d_M_answer_221 ?_
                          refine lv_bipush (v := 16) X.1 X.2.1 d_M_answer_222 (by decide) ?_
                          refine lv_irem X.1 X.2.1 d_M_answer_224 (by decide) ?_
                          refine W.eq (g2 := F0 m 225 ls [.int (nq (M.I 26 0)), .ref (M.ad 0)]) rfl ?_
                          refine hm_put ⟨X, hK.1⟩ hY v_0 26 rfl (Nat.le_of_ble_eq_true rfl) (Nat.le_of_ble_eq_true rfl) hu_M ty_M ty_M_ok nm_M m_515 (fun _ h => h) rfl rfl rfl d_M_answer_225 (fun H locs hY => ?_)
                          have hY : hm_Y D cls A s.heap (wM G (((((((M.sI 0 0 0).sJ 21 0 t).sI 27 0 ((M.I 27 0) + 1)).sI 27 0 0).sJ 29 0 t).sI 28 0 0).sI 26 0 (nq (M.I 26 0))) ω) H locs := by rw [← fm_26 (M := ((((((M.sI 0 0 0).sJ 21 0 t).sI 27 0 ((M.I 27 0) + 1)).sI 27 0 0).sJ 29 0 t).sI 28 0 0)) (v := nq (M.I 26 0))]; exact hY
                          refine lv_iconst (v := 1) X.1 X.2.1 d_M_answer_228 (by decide) ?_
                          exact en_iW X hY hr hlocks d_M_answer_229 (⟨by rw [mans, if_neg c1, if_neg c2, if_pos c3, if_pos c4, if_pos c13, if_pos c22, if_neg c27, if_neg c31, if_pos c36, if_pos c37], by rw [mans, if_neg c1, if_neg c2, if_pos c3, if_pos c4, if_pos c13, if_pos c22, if_neg c27, if_neg c31, if_pos c36, if_pos c37]⟩)
                        · refine lv_aload_n X.1 X.2.1 d_M_answer_199 rfl (lv_at hl 2 rfl) ?_
                          refine hm_get ⟨X, hK.1⟩ hY v_0 28 (v := .int (M.I 28 0)) rfl rfl (Nat.le_of_ble_eq_true rfl) hu_M m_517 (fun _ h => h) d_M_answer_200 ?_
                          refine lv_iconst (v := 1) X.1 X.2.1 d_M_answer_203 (by decide) ?_
                          refine lv_isub X.1 X.2.1 d_M_answer_204 ?_
                          refine lv_goto (tgt := 209) X.1 X.2.1 d_M_answer_205 (by decide) ?_
                          refine hm_put ⟨X, hK.1⟩ hY v_0 28 rfl (Nat.le_of_ble_eq_true rfl) (Nat.le_of_ble_eq_true rfl) hu_M ty_M ty_M_ok nm_M m_517 (fun _ h => h) rfl rfl rfl d_M_answer_209 (fun H locs hY => ?_)
                          have hY : hm_Y D cls A s.heap (wM G ((((((M.sI 0 0 0).sJ 21 0 t).sI 27 0 ((M.I 27 0) + 1)).sI 27 0 0).sJ 29 0 t).sI 28 0 ((M.I 28 0) - 1)) ω) H locs := by rw [← fm_28 (M := (((((M.sI 0 0 0).sJ 21 0 t).sI 27 0 ((M.I 27 0) + 1)).sI 27 0 0).sJ 29 0 t)) (v := (M.I 28 0) - 1)]; exact hY
                          refine lv_aload_n X.1 X.2.1 d_M_answer_212 rfl (lv_at hl 2 rfl) ?_
                          refine lv_bipush (v := 7) X.1 X.2.1 d_M_answer_213 (by decide) ?_
                          refine lv_aload_n X.1 X.2.1 d_M_answer_215 rfl (lv_at hl 2 rfl) ?_
                          refine hm_get ⟨X, hK.1⟩ hY v_0 26 (v := .int (M.I 26 0)) rfl rfl (Nat.le_of_ble_eq_true rfl) hu_M m_515 (fun _ h => h) d_M_answer_216 ?_
                          refine lv_imul X.1 X.2.1 d_M_answer_219 ?_
                          refine lv_iconst (v := 3) X.1 X.2.1 d_M_answer_220 (by decide) ?_
                          refine lv_iadd X.1 X.2.1 d_M_answer_221 ?_
                          refine lv_bipush (v := 16) X.1 X.2.1 d_M_answer_222 (by decide) ?_
                          refine lv_irem X.1 X.2.1 d_M_answer_224 (by decide) ?_
                          refine W.eq (g2 := F0 m 225 ls [.int (nq (M.I 26 0)), .ref (M.ad 0)]) rfl ?_
                          refine hm_put ⟨X, hK.1⟩ hY v_0 26 rfl (Nat.le_of_ble_eq_true rfl) (Nat.le_of_ble_eq_true rfl) hu_M ty_M ty_M_ok nm_M m_515 (fun _ h => h) rfl rfl rfl d_M_answer_225 (fun H locs hY => ?_)
                          have hY : hm_Y D cls A s.heap (wM G (((((((M.sI 0 0 0).sJ 21 0 t).sI 27 0 ((M.I 27 0) + 1)).sI 27 0 0).sJ 29 0 t).sI 28 0 ((M.I 28 0) - 1)).sI 26 0 (nq (M.I 26 0))) ω) H locs := by rw [← fm_26 (M := ((((((M.sI 0 0 0).sJ 21 0 t).sI 27 0 ((M.I 27 0) + 1)).sI 27 0 0).sJ 29 0 t).sI 28 0 ((M.I 28 0) - 1))) (v := nq (M.I 26 0))]; exact hY
                          refine lv_iconst (v := 1) X.1 X.2.1 d_M_answer_228 (by decide) ?_
                          exact en_iW X hY hr hlocks d_M_answer_229 (⟨by rw [mans, if_neg c1, if_neg c2, if_pos c3, if_pos c4, if_pos c13, if_pos c22, if_neg c27, if_neg c31, if_pos c36, if_neg c37], by rw [mans, if_neg c1, if_neg c2, if_pos c3, if_pos c4, if_pos c13, if_pos c22, if_neg c27, if_neg c31, if_pos c36, if_neg c37]⟩)
                      · refine lv_iconst (v := 1) X.1 X.2.1 d_M_answer_178 (by decide) ?_
                        exact en_iW X hY hr hlocks d_M_answer_179 (⟨by rw [mans, if_neg c1, if_neg c2, if_pos c3, if_pos c4, if_pos c13, if_pos c22, if_neg c27, if_neg c31, if_neg c36], by rw [mans, if_neg c1, if_neg c2, if_pos c3, if_pos c4, if_pos c13, if_pos c22, if_neg c27, if_neg c31, if_neg c36]⟩)
                    · exact absurd c35 (by decide)
      · have c3 : ¬ (mT (M.sI 0 0 0) t) := b2_0.mp c3
        refine lv_bipush (v := (-2)) X.1 X.2.1 d_M_answer_23 (by decide) ?_
        exact en_iW X hY hr hlocks d_M_answer_25 (⟨by rw [mans, if_neg c1, if_neg c2, if_neg c3], by rw [mans, if_neg c1, if_neg c2, if_neg c3]⟩)

set_option maxHeartbeats 4000000 in
set_option maxRecDepth 100000 in
theorem k_M_cycle (l : Launch) (D : va_G) (A : Nat → Prop) (G : Nat → Nat) (M : mS) (ω : hm_T) (c0 : Nat) (hc0 : M.I 1 0 = nI c0) (h20 : c0 ≤ 20) (cn : Nat → Nat) (hcn : ∀ n, 1 ≤ n → n ≤ c0 → M.I 12 n = nI (cn n) ∧ cn n ≤ 10 ∧ ¬ M.I 4 n = 0) (t : Int64) : Met l y_M_cycle (.code y_M_cycle c_M_cycle 5 (some .int) :: wsA) { frames := 2, cells := 0, slots := 0, locals := 44 } (va_Pc [.ref (M.ad 0), .long t] (ctU D A G (wM G M ω))) (hm_Q D cls A (fun v w => v = some (.int (mcyc M t cn c0).1) ∧ w = wM G (mcyc M t cn c0).2 ω)) 0 0 A := by
  refine ct_met (by decide) (Nat.le_of_ble_eq_true rfl) ?_
  rintro p e s m below meth c ls X hr hlocks hnm hl ⟨hB, hK⟩
  have hl : lv_has ls 5 [(0, .ref (M.ad 0)), (1, .long t)] := hl
  have hY : hm_Y D cls A s.heap (wM G M ω) s.heap [] := hm_Y.start hB hK.2.2.2
  refine lv_aload_n X.1 X.2.1 d_M_cycle_0 rfl (lv_at hl 0 rfl) ?_
  refine lv_iconst (v := 0) X.1 X.2.1 d_M_cycle_1 (by decide) ?_
  refine hm_put ⟨X, hK.1⟩ hY v_0 0 rfl (Nat.le_of_ble_eq_true rfl) (Nat.le_of_ble_eq_true rfl) hu_M ty_M ty_M_ok nm_M m_489 (fun _ h => h) rfl rfl rfl d_M_cycle_2 (fun H locs hY => ?_)
  have hY : hm_Y D cls A s.heap (wM G (M.sI 0 0 0) ω) H locs := by rw [← fm_0 (M := M) (v := 0)]; exact hY
  refine lv_aload_n X.1 X.2.1 d_M_cycle_5 rfl (lv_at hl 0 rfl) ?_
  refine lv_lload_n X.1 X.2.1 d_M_cycle_6 rfl (lv_at hl 1 rfl) ?_
  refine hm_callR (ct_runV (n := 1) X hK hY (k_M_isTime l D A G (M.sI 0 0 0) ω t) m_618 m_615 m_617 ms_M_isTime m_6 (by decide +kernel) ⟨Nat.le_of_ble_eq_true rfl, Nat.le_of_ble_eq_true rfl⟩ ⟨rfl, rfl⟩ (hm_recv ⟨X, hK.1⟩ hY v_0 rfl) rfl hl.1 rfl (Nat.le_of_ble_eq_true rfl) d_M_cycle_7 ⟨Nat.le_of_ble_eq_true rfl, Nat.le_of_ble_eq_true rfl⟩) (fun v hv => ?_)
  subst hv
  refine W.eq (g2 := F0 m 10 ls [.int (b2 (mT (M.sI 0 0 0) t))]) rfl ?_
  refine lv_if_ne (tgt := 16) X.1 X.2.1 d_M_cycle_10 (by decide) (fun c1 => ?_) (fun c1 => ?_)
  · have c1 : (mT (M.sI 0 0 0) t) := Classical.byContradiction (fun z => c1 (b2_0.mpr z))
    refine lv_aload_n X.1 X.2.1 d_M_cycle_16 rfl (lv_at hl 0 rfl) ?_
    refine lv_lload_n X.1 X.2.1 d_M_cycle_17 rfl (lv_at hl 1 rfl) ?_
    refine hm_put ⟨X, hK.1⟩ hY v_0 21 rfl (Nat.le_of_ble_eq_true rfl) (Nat.le_of_ble_eq_true rfl) hu_M ty_M ty_M_ok nm_M m_510 (fun _ h => h) rfl rfl rfl d_M_cycle_18 (fun H locs hY => ?_)
    have hY : hm_Y D cls A s.heap (wM G ((M.sI 0 0 0).sJ 21 0 t) ω) H locs := by rw [← fm_21 (M := (M.sI 0 0 0)) (v := t)]; exact hY
    refine lv_aload_n X.1 X.2.1 d_M_cycle_21 rfl (lv_at hl 0 rfl) ?_
    refine lv_dup X.1 X.2.1 d_M_cycle_22 rfl ?_
    refine hm_get ⟨X, hK.1⟩ hY v_0 20 (v := .int (M.I 20 0)) rfl rfl (Nat.le_of_ble_eq_true rfl) hu_M m_509 (fun _ h => h) d_M_cycle_23 ?_
    refine lv_iconst (v := 1) X.1 X.2.1 d_M_cycle_26 (by decide) ?_
    refine lv_iadd X.1 X.2.1 d_M_cycle_27 ?_
    refine hm_put ⟨X, hK.1⟩ hY v_0 20 rfl (Nat.le_of_ble_eq_true rfl) (Nat.le_of_ble_eq_true rfl) hu_M ty_M ty_M_ok nm_M m_509 (fun _ h => h) rfl rfl rfl d_M_cycle_28 (fun H locs hY => ?_)
    have hY : hm_Y D cls A s.heap (wM G (((M.sI 0 0 0).sJ 21 0 t).sI 20 0 ((M.I 20 0) + 1)) ω) H locs := by rw [← fm_20 (M := ((M.sI 0 0 0).sJ 21 0 t)) (v := (M.I 20 0) + 1)]; exact hY
    refine lv_iconst (v := 0) X.1 X.2.1 d_M_cycle_31 (by decide) ?_
    refine lv_istore_n (lv' := [(3, .int 0), (0, .ref (M.ad 0)), (1, .long t)]) X.1 X.2.1 d_M_cycle_32 rfl hl (by decide) rfl (fun ls hl => ?_)
    refine lv_iconst (v := 1) X.1 X.2.1 d_M_cycle_33 (by decide) ?_
    refine lv_istore (lv' := [(4, .int 1), (3, .int 0), (0, .ref (M.ad 0)), (1, .long t)]) X.1 X.2.1 d_M_cycle_34 hl (by decide) rfl (fun ls hl => ?_)
    have loop : ∀ (k j : Nat) (T : mS) (ls : Array Slot) (H : Heap) (locs : List Loc), j ≤ c0 → c0 < j + k → T = cyT (((M.sI 0 0 0).sJ 21 0 t).sI 20 0 (M.I 20 0 + 1)) cn j → T.I 1 = M.I 1 → T.I 4 = M.I 4 → T.I 12 = M.I 12 → hm_Y D cls A s.heap (wM G T ω) H locs → lv_has ls 5 [(4, .int (nI (j + 1))), (0, .ref (T.ad 0)), (1, .long t), (3, .int (cyG (((M.sI 0 0 0).sJ 21 0 t).sI 20 0 (M.I 20 0 + 1)) cn j))] → W p l e { frames := 2, cells := 0, slots := 0, locals := 44 } s m (([.ref (M.ad 0), .long t] : List Value).toArray) below meth c H locs 0 0 (MQ below (hm_Q D cls A (fun v w => v = some (.int (mcyc M t cn c0).1) ∧ w = wM G (mcyc M t cn c0).2 ω)) (([.ref (M.ad 0), .long t] : List Value).toArray) s 0 0 A) (F0 m 36 ls []) := by
      intro k
      induction k with
      | zero => intro j T ls H locs hle hlt; omega
      | succ k ih =>
        intro j T ls H locs hle hlt hT h1 h4 h12 hY hl
        refine lv_iload X.1 X.2.1 d_M_cycle_36 (lv_at hl 0 rfl) ?_
        refine lv_aload_n X.1 X.2.1 d_M_cycle_38 rfl (lv_at hl 1 rfl) ?_
        refine hm_get ⟨X, hK.1⟩ hY v_0 1 (v := .int (T.I 1 0)) rfl rfl (Nat.le_of_ble_eq_true rfl) hu_M m_490 (fun _ h => h) d_M_cycle_39 ?_
        have hb1 : T.I 1 0 = nI c0 := by rw [h1]; exact hc0
        rw [hb1]
        refine lv_icmp_gt (tgt := 91) X.1 X.2.1 d_M_cycle_42 (by decide) (fun c9 => ?_) (fun c9 => ?_)
        · have hj : j = c0 := by rcases Nat.lt_or_ge j c0 with q | q; exact absurd c9 (nI_nlt (by omega) (by omega)); omega
          refine lv_aload_n X.1 X.2.1 d_M_cycle_91 rfl (lv_at hl 1 rfl) ?_
          refine lv_iload_n X.1 X.2.1 d_M_cycle_92 rfl (lv_at hl 3 rfl) ?_
          refine lv_iconst (v := 2) X.1 X.2.1 d_M_cycle_93 (by decide) ?_
          refine lv_icmp_ne (tgt := 106) X.1 X.2.1 d_M_cycle_94 (by decide) (fun c2 => ?_) (fun c2 => ?_)
          · refine lv_iconst (v := 0) X.1 X.2.1 d_M_cycle_106 (by decide) ?_
            refine hm_put ⟨X, hK.1⟩ hY v_0 22 rfl (Nat.le_of_ble_eq_true rfl) (Nat.le_of_ble_eq_true rfl) hu_M ty_M ty_M_ok nm_M m_511 (fun _ h => h) rfl rfl rfl d_M_cycle_107 (fun H locs hY => ?_)
            have hY : hm_Y D cls A s.heap (wM G (T.sI 22 0 0) ω) H locs := by rw [← fm_22 (M := T) (v := 0)]; exact hY
            refine lv_aload_n X.1 X.2.1 d_M_cycle_110 rfl (lv_at hl 1 rfl) ?_
            refine hm_get ⟨X, hK.1⟩ hY v_0 22 (v := .int 0) rfl rfl (Nat.le_of_ble_eq_true rfl) hu_M m_511 (fun _ h => h) d_M_cycle_111 ?_
            refine lv_aload_n X.1 X.2.1 d_M_cycle_114 rfl (lv_at hl 1 rfl) ?_
            refine hm_get ⟨X, hK.1⟩ hY v_0 23 (v := .int (T.I 23 0)) rfl rfl (Nat.le_of_ble_eq_true rfl) hu_M m_512 (fun _ h => h) d_M_cycle_115 ?_
            refine lv_icmp_gt (tgt := 123) X.1 X.2.1 d_M_cycle_118 (by decide) (fun c3 => ?_) (fun c3 => ?_)
            · refine lv_aload_n X.1 X.2.1 d_M_cycle_123 rfl (lv_at hl 1 rfl) ?_
              refine lv_iconst (v := 1) X.1 X.2.1 d_M_cycle_124 (by decide) ?_
              refine hm_call (ct_runV (n := 1) X hK hY (k_M_reset0 l D A G (T.sI 22 0 0) ω c0 (show T.I 1 0 = nI c0 by rw [h1]; exact hc0) h20 1) m_631 m_628 m_630 ms_M_reset0 m_6 (by decide +kernel) ⟨Nat.le_of_ble_eq_true rfl, Nat.le_of_ble_eq_true rfl⟩ ⟨rfl, rfl⟩ (hm_recv ⟨X, hK.1⟩ hY v_0 rfl) rfl hl.1 rfl (Nat.le_of_ble_eq_true rfl) d_M_cycle_125 ⟨Nat.le_of_ble_eq_true rfl, Nat.le_of_ble_eq_true rfl⟩) hY (fun v w1 H locs hp hY => ?_)
              obtain ⟨rfl, rfl⟩ := hp
              refine W.eq (g2 := F0 m 128 ls []) rfl ?_
              obtain ⟨E4, hE4⟩ : ∃ z, z = r0 (T.sI 22 0 0) 1 c0 := ⟨_, rfl⟩
              rw [← hE4] at hY
              have hkE4 : E4.ad = T.ad ∧ E4.I 1 = T.I 1 ∧ E4.I 4 = T.I 4 ∧ E4.I 12 = T.I 12 := by rw [hE4]; exact r0_k (T.sI 22 0 0) 1 c0
              have hl : lv_has ls 5 [(4, .int (nI (j + 1))), (0, .ref (E4.ad 0)), (1, .long t), (3, .int (cyG (((M.sI 0 0 0).sJ 21 0 t).sI 20 0 (M.I 20 0 + 1)) cn j))] := by rw [hkE4.1]; exact hl
              refine lv_iconst (v := 3) X.1 X.2.1 d_M_cycle_128 (by decide) ?_
              exact en_iW X hY hr hlocks d_M_cycle_129 (⟨by rw [mcyc, if_pos c1, ← hj, ← hT, mcy2, if_neg c2, if_pos c3], by rw [hE4]; rw [mcyc, if_pos c1, ← hj, ← hT, mcy2, if_neg c2, if_pos c3]⟩)
            · refine lv_iload_n X.1 X.2.1 d_M_cycle_121 rfl (lv_at hl 3 rfl) ?_
              exact en_iW X hY hr hlocks d_M_cycle_122 (⟨by rw [mcyc, if_pos c1, ← hj, ← hT, mcy2, if_neg c2, if_neg c3], by rw [mcyc, if_pos c1, ← hj, ← hT, mcy2, if_neg c2, if_neg c3]⟩)
          · refine lv_aload_n X.1 X.2.1 d_M_cycle_97 rfl (lv_at hl 1 rfl) ?_
            refine hm_get ⟨X, hK.1⟩ hY v_0 22 (v := .int (T.I 22 0)) rfl rfl (Nat.le_of_ble_eq_true rfl) hu_M m_511 (fun _ h => h) d_M_cycle_98 ?_
            refine lv_iconst (v := 1) X.1 X.2.1 d_M_cycle_101 (by decide) ?_
            refine lv_iadd X.1 X.2.1 d_M_cycle_102 ?_
            refine lv_goto (tgt := 107) X.1 X.2.1 d_M_cycle_103 (by decide) ?_
            refine hm_put ⟨X, hK.1⟩ hY v_0 22 rfl (Nat.le_of_ble_eq_true rfl) (Nat.le_of_ble_eq_true rfl) hu_M ty_M ty_M_ok nm_M m_511 (fun _ h => h) rfl rfl rfl d_M_cycle_107 (fun H locs hY => ?_)
            have hY : hm_Y D cls A s.heap (wM G (T.sI 22 0 ((T.I 22 0) + 1)) ω) H locs := by rw [← fm_22 (M := T) (v := (T.I 22 0) + 1)]; exact hY
            refine lv_aload_n X.1 X.2.1 d_M_cycle_110 rfl (lv_at hl 1 rfl) ?_
            refine hm_get ⟨X, hK.1⟩ hY v_0 22 (v := .int ((T.I 22 0) + 1)) rfl rfl (Nat.le_of_ble_eq_true rfl) hu_M m_511 (fun _ h => h) d_M_cycle_111 ?_
            refine lv_aload_n X.1 X.2.1 d_M_cycle_114 rfl (lv_at hl 1 rfl) ?_
            refine hm_get ⟨X, hK.1⟩ hY v_0 23 (v := .int (T.I 23 0)) rfl rfl (Nat.le_of_ble_eq_true rfl) hu_M m_512 (fun _ h => h) d_M_cycle_115 ?_
            refine lv_icmp_gt (tgt := 123) X.1 X.2.1 d_M_cycle_118 (by decide) (fun c5 => ?_) (fun c5 => ?_)
            · refine lv_aload_n X.1 X.2.1 d_M_cycle_123 rfl (lv_at hl 1 rfl) ?_
              refine lv_iconst (v := 1) X.1 X.2.1 d_M_cycle_124 (by decide) ?_
              refine hm_call (ct_runV (n := 1) X hK hY (k_M_reset0 l D A G (T.sI 22 0 ((T.I 22 0) + 1)) ω c0 (show T.I 1 0 = nI c0 by rw [h1]; exact hc0) h20 1) m_631 m_628 m_630 ms_M_reset0 m_6 (by decide +kernel) ⟨Nat.le_of_ble_eq_true rfl, Nat.le_of_ble_eq_true rfl⟩ ⟨rfl, rfl⟩ (hm_recv ⟨X, hK.1⟩ hY v_0 rfl) rfl hl.1 rfl (Nat.le_of_ble_eq_true rfl) d_M_cycle_125 ⟨Nat.le_of_ble_eq_true rfl, Nat.le_of_ble_eq_true rfl⟩) hY (fun v w1 H locs hp hY => ?_)
              obtain ⟨rfl, rfl⟩ := hp
              refine W.eq (g2 := F0 m 128 ls []) rfl ?_
              obtain ⟨E6, hE6⟩ : ∃ z, z = r0 (T.sI 22 0 ((T.I 22 0) + 1)) 1 c0 := ⟨_, rfl⟩
              rw [← hE6] at hY
              have hkE6 : E6.ad = T.ad ∧ E6.I 1 = T.I 1 ∧ E6.I 4 = T.I 4 ∧ E6.I 12 = T.I 12 := by rw [hE6]; exact r0_k (T.sI 22 0 ((T.I 22 0) + 1)) 1 c0
              have hl : lv_has ls 5 [(4, .int (nI (j + 1))), (0, .ref (E6.ad 0)), (1, .long t), (3, .int (cyG (((M.sI 0 0 0).sJ 21 0 t).sI 20 0 (M.I 20 0 + 1)) cn j))] := by rw [hkE6.1]; exact hl
              refine lv_iconst (v := 3) X.1 X.2.1 d_M_cycle_128 (by decide) ?_
              exact en_iW X hY hr hlocks d_M_cycle_129 (⟨by rw [mcyc, if_pos c1, ← hj, ← hT, mcy2, if_pos c2, if_pos c5], by rw [hE6]; rw [mcyc, if_pos c1, ← hj, ← hT, mcy2, if_pos c2, if_pos c5]⟩)
            · refine lv_iload_n X.1 X.2.1 d_M_cycle_121 rfl (lv_at hl 3 rfl) ?_
              exact en_iW X hY hr hlocks d_M_cycle_122 (⟨by rw [mcyc, if_pos c1, ← hj, ← hT, mcy2, if_pos c2, if_neg c5], by rw [mcyc, if_pos c1, ← hj, ← hT, mcy2, if_pos c2, if_neg c5]⟩)
        · have hj : j < c0 := by rcases Nat.lt_or_ge j c0 with q | q; exact q; exact absurd (nI_lt (by omega) (by omega)) c9
          refine lv_aload_n X.1 X.2.1 d_M_cycle_45 rfl (lv_at hl 1 rfl) ?_
          refine hm_get ⟨X, hK.1⟩ hY v_0 5 (v := .ref (T.ad 5)) rfl rfl (Nat.le_of_ble_eq_true rfl) hu_M m_494 (fun _ h => h) d_M_cycle_46 ?_
          refine lv_iload X.1 X.2.1 d_M_cycle_49 (lv_at hl 0 rfl) ?_
          refine mi_ald ⟨X, hK.1⟩ hY v_5 0 rfl (x := j + 1) (v := T.I 5 (j + 1)) rfl (by omega) (by decide) rfl d_M_cycle_51 ?_
          refine lv_iconst (v := 2) X.1 X.2.1 d_M_cycle_52 (by decide) ?_
          refine lv_icmp_ge (tgt := 62) X.1 X.2.1 d_M_cycle_53 (by decide) (fun c7 => ?_) (fun c7 => ?_)
          · refine lv_aload_n X.1 X.2.1 d_M_cycle_62 rfl (lv_at hl 1 rfl) ?_
            refine hm_get ⟨X, hK.1⟩ hY v_0 5 (v := .ref (T.ad 5)) rfl rfl (Nat.le_of_ble_eq_true rfl) hu_M m_494 (fun _ h => h) d_M_cycle_63 ?_
            refine lv_iload X.1 X.2.1 d_M_cycle_66 (lv_at hl 0 rfl) ?_
            refine mi_ald ⟨X, hK.1⟩ hY v_5 0 rfl (x := j + 1) (v := T.I 5 (j + 1)) rfl (by omega) (by decide) rfl d_M_cycle_68 ?_
            refine lv_iload_n X.1 X.2.1 d_M_cycle_69 rfl (lv_at hl 3 rfl) ?_
            refine lv_icmp_le (tgt := 83) X.1 X.2.1 d_M_cycle_70 (by decide) (fun c8 => ?_) (fun c8 => ?_)
            · refine lv_iload_n X.1 X.2.1 d_M_cycle_83 rfl (lv_at hl 3 rfl) ?_
              refine lv_istore_n (lv' := [(3, .int (cyG (((M.sI 0 0 0).sJ 21 0 t).sI 20 0 (M.I 20 0 + 1)) cn j)), (4, .int (nI (j + 1))), (0, .ref (T.ad 0)), (1, .long t)]) X.1 X.2.1 d_M_cycle_84 rfl hl (by decide) rfl (fun ls hl => ?_)
              refine lv_iinc (v := nI (j + 1 + 1)) (lv' := [(4, .int (nI (j + 1 + 1))), (3, .int (cyG (((M.sI 0 0 0).sJ 21 0 t).sI 20 0 (M.I 20 0 + 1)) cn j)), (0, .ref (T.ad 0)), (1, .long t)]) X.1 X.2.1 d_M_cycle_85 hl (k := 1) rfl (nI_1 (j + 1)) (by decide) rfl (fun ls hl => ?_)
              have eT : T = cyT (((M.sI 0 0 0).sJ 21 0 t).sI 20 0 (M.I 20 0 + 1)) cn (j + 1) := by rw [show cyT (((M.sI 0 0 0).sJ 21 0 t).sI 20 0 (M.I 20 0 + 1)) cn (j + 1) = cyT1 (cyT (((M.sI 0 0 0).sJ 21 0 t).sI 20 0 (M.I 20 0 + 1)) cn j) (j + 1) cn from rfl, ← hT, cyT1, if_pos c7]
              have eg : cyG (((M.sI 0 0 0).sJ 21 0 t).sI 20 0 (M.I 20 0 + 1)) cn j = cyG (((M.sI 0 0 0).sJ 21 0 t).sI 20 0 (M.I 20 0 + 1)) cn (j + 1) := by rw [show cyG (((M.sI 0 0 0).sJ 21 0 t).sI 20 0 (M.I 20 0 + 1)) cn (j + 1) = if (cyT (((M.sI 0 0 0).sJ 21 0 t).sI 20 0 (M.I 20 0 + 1)) cn (j + 1)).I 5 (j + 1) ≤ cyG (((M.sI 0 0 0).sJ 21 0 t).sI 20 0 (M.I 20 0 + 1)) cn j then cyG (((M.sI 0 0 0).sJ 21 0 t).sI 20 0 (M.I 20 0 + 1)) cn j else (cyT (((M.sI 0 0 0).sJ 21 0 t).sI 20 0 (M.I 20 0 + 1)) cn (j + 1)).I 5 (j + 1) from rfl, ← eT, if_pos c8]
              have hl : lv_has ls 5 [(4, .int (nI (j + 1 + 1))), (3, .int (cyG (((M.sI 0 0 0).sJ 21 0 t).sI 20 0 (M.I 20 0 + 1)) cn (j + 1))), (0, .ref (T.ad 0)), (1, .long t)] := by rw [← eg]; exact hl
              refine lv_goto (tgt := 36) X.1 X.2.1 d_M_cycle_88 (by decide) ?_
              exact ih (j + 1) T _ _ _ (by omega) (by omega) (eT) h1 h4 h12 hY (lv_sub hl [0, 2, 3, 1] rfl)
            · refine lv_aload_n X.1 X.2.1 d_M_cycle_73 rfl (lv_at hl 1 rfl) ?_
              refine hm_get ⟨X, hK.1⟩ hY v_0 5 (v := .ref (T.ad 5)) rfl rfl (Nat.le_of_ble_eq_true rfl) hu_M m_494 (fun _ h => h) d_M_cycle_74 ?_
              refine lv_iload X.1 X.2.1 d_M_cycle_77 (lv_at hl 0 rfl) ?_
              refine mi_ald ⟨X, hK.1⟩ hY v_5 0 rfl (x := j + 1) (v := T.I 5 (j + 1)) rfl (by omega) (by decide) rfl d_M_cycle_79 ?_
              refine lv_goto (tgt := 84) X.1 X.2.1 d_M_cycle_80 (by decide) ?_
              refine lv_istore_n (lv' := [(3, .int (T.I 5 (j + 1))), (4, .int (nI (j + 1))), (0, .ref (T.ad 0)), (1, .long t)]) X.1 X.2.1 d_M_cycle_84 rfl hl (by decide) rfl (fun ls hl => ?_)
              refine lv_iinc (v := nI (j + 1 + 1)) (lv' := [(4, .int (nI (j + 1 + 1))), (3, .int (T.I 5 (j + 1))), (0, .ref (T.ad 0)), (1, .long t)]) X.1 X.2.1 d_M_cycle_85 hl (k := 1) rfl (nI_1 (j + 1)) (by decide) rfl (fun ls hl => ?_)
              have eT : T = cyT (((M.sI 0 0 0).sJ 21 0 t).sI 20 0 (M.I 20 0 + 1)) cn (j + 1) := by rw [show cyT (((M.sI 0 0 0).sJ 21 0 t).sI 20 0 (M.I 20 0 + 1)) cn (j + 1) = cyT1 (cyT (((M.sI 0 0 0).sJ 21 0 t).sI 20 0 (M.I 20 0 + 1)) cn j) (j + 1) cn from rfl, ← hT, cyT1, if_pos c7]
              have eg : T.I 5 (j + 1) = cyG (((M.sI 0 0 0).sJ 21 0 t).sI 20 0 (M.I 20 0 + 1)) cn (j + 1) := by rw [show cyG (((M.sI 0 0 0).sJ 21 0 t).sI 20 0 (M.I 20 0 + 1)) cn (j + 1) = if (cyT (((M.sI 0 0 0).sJ 21 0 t).sI 20 0 (M.I 20 0 + 1)) cn (j + 1)).I 5 (j + 1) ≤ cyG (((M.sI 0 0 0).sJ 21 0 t).sI 20 0 (M.I 20 0 + 1)) cn j then cyG (((M.sI 0 0 0).sJ 21 0 t).sI 20 0 (M.I 20 0 + 1)) cn j else (cyT (((M.sI 0 0 0).sJ 21 0 t).sI 20 0 (M.I 20 0 + 1)) cn (j + 1)).I 5 (j + 1) from rfl, ← eT, if_neg c8]
              have hl : lv_has ls 5 [(4, .int (nI (j + 1 + 1))), (3, .int (cyG (((M.sI 0 0 0).sJ 21 0 t).sI 20 0 (M.I 20 0 + 1)) cn (j + 1))), (0, .ref (T.ad 0)), (1, .long t)] := by rw [← eg]; exact hl
              refine lv_goto (tgt := 36) X.1 X.2.1 d_M_cycle_88 (by decide) ?_
              exact ih (j + 1) T _ _ _ (by omega) (by omega) (eT) h1 h4 h12 hY (lv_sub hl [0, 2, 3, 1] rfl)
          · refine lv_aload_n X.1 X.2.1 d_M_cycle_56 rfl (lv_at hl 1 rfl) ?_
            refine lv_iload X.1 X.2.1 d_M_cycle_57 (lv_at hl 0 rfl) ?_
            refine hm_call (ct_runV (n := 1) X hK hY (k_M_judge l D A G T ω (j + 1) (by omega) (by omega) (cn (j + 1)) (by rw [h12]; exact (hcn (j + 1) (by omega) (by omega)).1) (hcn (j + 1) (by omega) (by omega)).2.1 (by rw [h4]; exact (hcn (j + 1) (by omega) (by omega)).2.2)) m_627 m_624 m_626 ms_M_judge m_6 (by decide +kernel) ⟨Nat.le_of_ble_eq_true rfl, Nat.le_of_ble_eq_true rfl⟩ ⟨rfl, rfl⟩ (hm_recv ⟨X, hK.1⟩ hY v_0 rfl) rfl hl.1 rfl (Nat.le_of_ble_eq_true rfl) d_M_cycle_59 ⟨Nat.le_of_ble_eq_true rfl, Nat.le_of_ble_eq_true rfl⟩) hY (fun v w1 H locs hp hY => ?_)
            obtain ⟨rfl, rfl⟩ := hp
            refine W.eq (g2 := F0 m 62 ls []) rfl ?_
            obtain ⟨E9, hE9⟩ : ∃ z, z = jd T (j + 1) (cn (j + 1)) := ⟨_, rfl⟩
            rw [← hE9] at hY
            have hkE9 : E9.ad = T.ad ∧ E9.I 1 = T.I 1 ∧ E9.I 4 = T.I 4 ∧ E9.I 12 = T.I 12 := by rw [hE9]; exact jd_k T (j + 1) (cn (j + 1))
            have hl : lv_has ls 5 [(4, .int (nI (j + 1))), (0, .ref (E9.ad 0)), (1, .long t), (3, .int (cyG (((M.sI 0 0 0).sJ 21 0 t).sI 20 0 (M.I 20 0 + 1)) cn j))] := by rw [hkE9.1]; exact hl
            refine lv_aload_n X.1 X.2.1 d_M_cycle_62 rfl (lv_at hl 1 rfl) ?_
            refine hm_get ⟨X, hK.1⟩ hY v_0 5 (v := .ref (E9.ad 5)) rfl rfl (Nat.le_of_ble_eq_true rfl) hu_M m_494 (fun _ h => h) d_M_cycle_63 ?_
            refine lv_iload X.1 X.2.1 d_M_cycle_66 (lv_at hl 0 rfl) ?_
            refine mi_ald ⟨X, hK.1⟩ hY v_5 0 rfl (x := j + 1) (v := E9.I 5 (j + 1)) rfl (by omega) (by decide) rfl d_M_cycle_68 ?_
            refine lv_iload_n X.1 X.2.1 d_M_cycle_69 rfl (lv_at hl 3 rfl) ?_
            refine lv_icmp_le (tgt := 83) X.1 X.2.1 d_M_cycle_70 (by decide) (fun c10 => ?_) (fun c10 => ?_)
            · refine lv_iload_n X.1 X.2.1 d_M_cycle_83 rfl (lv_at hl 3 rfl) ?_
              refine lv_istore_n (lv' := [(3, .int (cyG (((M.sI 0 0 0).sJ 21 0 t).sI 20 0 (M.I 20 0 + 1)) cn j)), (4, .int (nI (j + 1))), (0, .ref (E9.ad 0)), (1, .long t)]) X.1 X.2.1 d_M_cycle_84 rfl hl (by decide) rfl (fun ls hl => ?_)
              refine lv_iinc (v := nI (j + 1 + 1)) (lv' := [(4, .int (nI (j + 1 + 1))), (3, .int (cyG (((M.sI 0 0 0).sJ 21 0 t).sI 20 0 (M.I 20 0 + 1)) cn j)), (0, .ref (E9.ad 0)), (1, .long t)]) X.1 X.2.1 d_M_cycle_85 hl (k := 1) rfl (nI_1 (j + 1)) (by decide) rfl (fun ls hl => ?_)
              have eT : E9 = cyT (((M.sI 0 0 0).sJ 21 0 t).sI 20 0 (M.I 20 0 + 1)) cn (j + 1) := by rw [hE9, show cyT (((M.sI 0 0 0).sJ 21 0 t).sI 20 0 (M.I 20 0 + 1)) cn (j + 1) = cyT1 (cyT (((M.sI 0 0 0).sJ 21 0 t).sI 20 0 (M.I 20 0 + 1)) cn j) (j + 1) cn from rfl, ← hT, cyT1, if_neg c7]
              have eg : cyG (((M.sI 0 0 0).sJ 21 0 t).sI 20 0 (M.I 20 0 + 1)) cn j = cyG (((M.sI 0 0 0).sJ 21 0 t).sI 20 0 (M.I 20 0 + 1)) cn (j + 1) := by rw [show cyG (((M.sI 0 0 0).sJ 21 0 t).sI 20 0 (M.I 20 0 + 1)) cn (j + 1) = if (cyT (((M.sI 0 0 0).sJ 21 0 t).sI 20 0 (M.I 20 0 + 1)) cn (j + 1)).I 5 (j + 1) ≤ cyG (((M.sI 0 0 0).sJ 21 0 t).sI 20 0 (M.I 20 0 + 1)) cn j then cyG (((M.sI 0 0 0).sJ 21 0 t).sI 20 0 (M.I 20 0 + 1)) cn j else (cyT (((M.sI 0 0 0).sJ 21 0 t).sI 20 0 (M.I 20 0 + 1)) cn (j + 1)).I 5 (j + 1) from rfl, ← eT, if_pos c10]
              have hl : lv_has ls 5 [(4, .int (nI (j + 1 + 1))), (3, .int (cyG (((M.sI 0 0 0).sJ 21 0 t).sI 20 0 (M.I 20 0 + 1)) cn (j + 1))), (0, .ref (E9.ad 0)), (1, .long t)] := by rw [← eg]; exact hl
              refine lv_goto (tgt := 36) X.1 X.2.1 d_M_cycle_88 (by decide) ?_
              exact ih (j + 1) E9 _ _ _ (by omega) (by omega) (eT) (hkE9.2.1.trans h1) (hkE9.2.2.1.trans h4) (hkE9.2.2.2.trans h12) hY (lv_sub hl [0, 2, 3, 1] rfl)
            · refine lv_aload_n X.1 X.2.1 d_M_cycle_73 rfl (lv_at hl 1 rfl) ?_
              refine hm_get ⟨X, hK.1⟩ hY v_0 5 (v := .ref (E9.ad 5)) rfl rfl (Nat.le_of_ble_eq_true rfl) hu_M m_494 (fun _ h => h) d_M_cycle_74 ?_
              refine lv_iload X.1 X.2.1 d_M_cycle_77 (lv_at hl 0 rfl) ?_
              refine mi_ald ⟨X, hK.1⟩ hY v_5 0 rfl (x := j + 1) (v := E9.I 5 (j + 1)) rfl (by omega) (by decide) rfl d_M_cycle_79 ?_
              refine lv_goto (tgt := 84) X.1 X.2.1 d_M_cycle_80 (by decide) ?_
              refine lv_istore_n (lv' := [(3, .int (E9.I 5 (j + 1))), (4, .int (nI (j + 1))), (0, .ref (E9.ad 0)), (1, .long t)]) X.1 X.2.1 d_M_cycle_84 rfl hl (by decide) rfl (fun ls hl => ?_)
              refine lv_iinc (v := nI (j + 1 + 1)) (lv' := [(4, .int (nI (j + 1 + 1))), (3, .int (E9.I 5 (j + 1))), (0, .ref (E9.ad 0)), (1, .long t)]) X.1 X.2.1 d_M_cycle_85 hl (k := 1) rfl (nI_1 (j + 1)) (by decide) rfl (fun ls hl => ?_)
              have eT : E9 = cyT (((M.sI 0 0 0).sJ 21 0 t).sI 20 0 (M.I 20 0 + 1)) cn (j + 1) := by rw [hE9, show cyT (((M.sI 0 0 0).sJ 21 0 t).sI 20 0 (M.I 20 0 + 1)) cn (j + 1) = cyT1 (cyT (((M.sI 0 0 0).sJ 21 0 t).sI 20 0 (M.I 20 0 + 1)) cn j) (j + 1) cn from rfl, ← hT, cyT1, if_neg c7]
              have eg : E9.I 5 (j + 1) = cyG (((M.sI 0 0 0).sJ 21 0 t).sI 20 0 (M.I 20 0 + 1)) cn (j + 1) := by rw [show cyG (((M.sI 0 0 0).sJ 21 0 t).sI 20 0 (M.I 20 0 + 1)) cn (j + 1) = if (cyT (((M.sI 0 0 0).sJ 21 0 t).sI 20 0 (M.I 20 0 + 1)) cn (j + 1)).I 5 (j + 1) ≤ cyG (((M.sI 0 0 0).sJ 21 0 t).sI 20 0 (M.I 20 0 + 1)) cn j then cyG (((M.sI 0 0 0).sJ 21 0 t).sI 20 0 (M.I 20 0 + 1)) cn j else (cyT (((M.sI 0 0 0).sJ 21 0 t).sI 20 0 (M.I 20 0 + 1)) cn (j + 1)).I 5 (j + 1) from rfl, ← eT, if_neg c10]
              have hl : lv_has ls 5 [(4, .int (nI (j + 1 + 1))), (3, .int (cyG (((M.sI 0 0 0).sJ 21 0 t).sI 20 0 (M.I 20 0 + 1)) cn (j + 1))), (0, .ref (E9.ad 0)), (1, .long t)] := by rw [← eg]; exact hl
              refine lv_goto (tgt := 36) X.1 X.2.1 d_M_cycle_88 (by decide) ?_
              exact ih (j + 1) E9 _ _ _ (by omega) (by omega) (eT) (hkE9.2.1.trans h1) (hkE9.2.2.1.trans h4) (hkE9.2.2.2.trans h12) hY (lv_sub hl [0, 2, 3, 1] rfl)
    exact loop (c0 + 1) 0 (((M.sI 0 0 0).sJ 21 0 t).sI 20 0 ((M.I 20 0) + 1)) ls _ _ (Nat.zero_le _) (by omega) rfl rfl rfl rfl hY (lv_sub hl [0, 2, 3, 1] rfl)
  · have c1 : ¬ (mT (M.sI 0 0 0) t) := b2_0.mp c1
    refine lv_bipush (v := (-2)) X.1 X.2.1 d_M_cycle_13 (by decide) ?_
    exact en_iW X hY hr hlocks d_M_cycle_15 (⟨by rw [mcyc, if_neg c1], by rw [mcyc, if_neg c1]⟩)

set_option maxHeartbeats 4000000 in
set_option maxRecDepth 100000 in
theorem k_M_point_y (l : Launch) (D : va_G) (A : Nat → Prop) (G : Nat → Nat) (M : mS) (ω : hm_T) (n : Nat) (hp : mP M (nI n)) (h0 : 1 ≤ n) (h20 : n ≤ 20) (cn : Nat) (hcn : M.I 12 n = nI cn) (h10 : cn ≤ 10) (hmo : moOk M) (hbf : 0 ≤ M.I 10 n ∧ M.I 10 n ≤ 30) (wh : Int32) (t : Int64) : Met l y_M_point (.code y_M_point c_M_point 9 (some .int) :: wsA) { frames := 1, cells := 0, slots := 0, locals := 23 } (va_Pc [.ref (M.ad 0), .int (nI n), .int wh, .long t] (ctU D A G (wM G M ω))) (hm_Q D cls A (fun v w => v = some (.int (mpoint M n cn wh t).1) ∧ w = wM G (mpoint M n cn wh t).2 ω)) 0 0 A := by
  refine ct_met (by decide) (Nat.le_of_ble_eq_true rfl) ?_
  rintro p e s m below meth c ls X hr hlocks hnm hl ⟨hB, hK⟩
  have hl : lv_has ls 9 [(0, .ref (M.ad 0)), (1, .int (nI n)), (2, .int wh), (3, .long t)] := hl
  have hY : hm_Y D cls A s.heap (wM G M ω) s.heap [] := hm_Y.start hB hK.2.2.2
  have mid : ∀ (U : mS) (ls : Array Slot) (H : Heap) (locs : List Loc), mpoint M n cn wh t = mpo2 U n wh t cn → U.I 12 = M.I 12 → hm_Y D cls A s.heap (wM G U ω) H locs → lv_has ls 9 [(0, .ref (U.ad 0)), (1, .int (nI n)), (2, .int wh), (3, .long t)] → W p l e { frames := 1, cells := 0, slots := 0, locals := 23 } s m (([.ref (M.ad 0), .int (nI n), .int wh, .long t] : List Value).toArray) below meth c H locs 0 0 (MQ below (hm_Q D cls A (fun v w => v = some (.int (mpoint M n cn wh t).1) ∧ w = wM G (mpoint M n cn wh t).2 ω)) (([.ref (M.ad 0), .int (nI n), .int wh, .long t] : List Value).toArray) s 0 0 A) (F0 m 216 ls []) := by
    intro U ls H locs hU hU12 hY hl
    refine lv_bipush (v := 10) X.1 X.2.1 d_M_point_216 (by decide) ?_
    refine lv_iload_n X.1 X.2.1 d_M_point_218 rfl (lv_at hl 1 rfl) ?_
    refine lv_imul X.1 X.2.1 d_M_point_219 ?_
    rw [show (10 : Int32) * nI n = nI (10 * n) from pk_mul 10 n]
    refine lv_istore (lv' := [(6, .int (nI (10 * n))), (0, .ref (U.ad 0)), (1, .int (nI n)), (2, .int wh), (3, .long t)]) X.1 X.2.1 d_M_point_220 hl (by decide) rfl (fun ls hl => ?_)
    have loop : ∀ (k j : Nat) (T : mS) (ls : Array Slot) (H : Heap) (locs : List Loc), j ≤ cn → cn < j + k → T = pB U n wh t j → T.I 1 = U.I 1 → T.I 4 = U.I 4 → T.I 12 = U.I 12 → hm_Y D cls A s.heap (wM G T ω) H locs → lv_has ls 9 [(6, .int (nI (10 * n + j))), (0, .ref (T.ad 0)), (1, .int (nI n)), (2, .int wh), (3, .long t)] → W p l e { frames := 1, cells := 0, slots := 0, locals := 23 } s m (([.ref (M.ad 0), .int (nI n), .int wh, .long t] : List Value).toArray) below meth c H locs 0 0 (MQ below (hm_Q D cls A (fun v w => v = some (.int (mpoint M n cn wh t).1) ∧ w = wM G (mpoint M n cn wh t).2 ω)) (([.ref (M.ad 0), .int (nI n), .int wh, .long t] : List Value).toArray) s 0 0 A) (F0 m 222 ls []) := by
      intro k
      induction k with
      | zero => intro j T ls H locs hle hlt; omega
      | succ k ih =>
        intro j T ls H locs hle hlt hT h1 h4 h12 hY hl
        refine lv_iload X.1 X.2.1 d_M_point_222 (lv_at hl 0 rfl) ?_
        refine lv_bipush (v := 10) X.1 X.2.1 d_M_point_224 (by decide) ?_
        refine lv_iload_n X.1 X.2.1 d_M_point_226 rfl (lv_at hl 2 rfl) ?_
        refine lv_imul X.1 X.2.1 d_M_point_227 ?_
        rw [show (10 : Int32) * nI n = nI (10 * n) from pk_mul 10 n]
        refine lv_aload_n X.1 X.2.1 d_M_point_228 rfl (lv_at hl 1 rfl) ?_
        refine hm_get ⟨X, hK.1⟩ hY v_0 12 (v := .ref (T.ad 12)) rfl rfl (Nat.le_of_ble_eq_true rfl) hu_M m_501 (fun _ h => h) d_M_point_229 ?_
        refine lv_iload_n X.1 X.2.1 d_M_point_232 rfl (lv_at hl 2 rfl) ?_
        refine mi_ald ⟨X, hK.1⟩ hY v_12 0 rfl (x := n) (v := T.I 12 n) rfl (by omega) (by decide) rfl d_M_point_233 ?_
        refine lv_iadd X.1 X.2.1 d_M_point_234 ?_
        rw [h12, hU12, hcn, nI_add]
        refine lv_icmp_ge (tgt := 277) X.1 X.2.1 d_M_point_235 (by decide) (fun c0 => ?_) (fun c0 => ?_)
        · have hj : j = cn := by rcases Nat.lt_or_ge j (cn) with q | q; exact absurd c0 (nI_ge (by omega) (by omega)); omega
          refine lv_iload_n X.1 X.2.1 d_M_point_277 rfl (lv_at hl 3 rfl) ?_
          refine lv_iconst (v := 1) X.1 X.2.1 d_M_point_278 (by decide) ?_
          refine lv_icmp_ne (tgt := 292) X.1 X.2.1 d_M_point_279 (by decide) (fun c1 => ?_) (fun c1 => ?_)
          · refine lv_aload_n X.1 X.2.1 d_M_point_292 rfl (lv_at hl 1 rfl) ?_
            refine hm_get ⟨X, hK.1⟩ hY v_0 5 (v := .ref (T.ad 5)) rfl rfl (Nat.le_of_ble_eq_true rfl) hu_M m_494 (fun _ h => h) d_M_point_293 ?_
            refine lv_iload_n X.1 X.2.1 d_M_point_296 rfl (lv_at hl 2 rfl) ?_
            refine mi_ald ⟨X, hK.1⟩ hY v_5 0 rfl (x := n) (v := T.I 5 n) rfl (by omega) (by decide) rfl d_M_point_297 ?_
            exact en_iW X hY hr hlocks d_M_point_298 (⟨by rw [hU, mpo2, ← hj, ← hT, mpo3, if_neg c1], by rw [hU, mpo2, ← hj, ← hT, mpo3, if_neg c1]⟩)
          · refine lv_aload_n X.1 X.2.1 d_M_point_282 rfl (lv_at hl 1 rfl) ?_
            refine hm_get ⟨X, hK.1⟩ hY v_0 8 (v := .ref (T.ad 8)) rfl rfl (Nat.le_of_ble_eq_true rfl) hu_M m_497 (fun _ h => h) d_M_point_283 ?_
            refine lv_iload_n X.1 X.2.1 d_M_point_286 rfl (lv_at hl 2 rfl) ?_
            refine lv_dup2_11 X.1 X.2.1 d_M_point_287 rfl rfl ?_
            refine mi_ald ⟨X, hK.1⟩ hY v_8 0 rfl (x := n) (v := T.I 8 n) rfl (by omega) (by decide) rfl d_M_point_288 ?_
            refine lv_iconst (v := 1) X.1 X.2.1 d_M_point_289 (by decide) ?_
            refine lv_iadd X.1 X.2.1 d_M_point_290 ?_
            refine mi_ast ⟨X, hK.1⟩ hY v_8 0 rfl (x := n) rfl (by omega) (by decide) d_M_point_291 (fun H locs hY => ?_)
            have hY : hm_Y D cls A s.heap (wM G (T.sI 8 n ((T.I 8 n) + 1)) ω) H locs := by rw [← fa_8 (M := T) (j := n) (v := (T.I 8 n) + 1)]; exact hY
            refine lv_aload_n X.1 X.2.1 d_M_point_292 rfl (lv_at hl 1 rfl) ?_
            refine hm_get ⟨X, hK.1⟩ hY v_0 5 (v := .ref (T.ad 5)) rfl rfl (Nat.le_of_ble_eq_true rfl) hu_M m_494 (fun _ h => h) d_M_point_293 ?_
            refine lv_iload_n X.1 X.2.1 d_M_point_296 rfl (lv_at hl 2 rfl) ?_
            refine mi_ald ⟨X, hK.1⟩ hY v_5 0 rfl (x := n) (v := T.I 5 n) rfl (by omega) (by decide) rfl d_M_point_297 ?_
            exact en_iW X hY hr hlocks d_M_point_298 (⟨by rw [hU, mpo2, ← hj, ← hT, mpo3, if_pos c1], by rw [hU, mpo2, ← hj, ← hT, mpo3, if_pos c1]⟩)
        · have hj : j < cn := by rcases Nat.lt_or_ge j (cn) with q | q; exact q; exact absurd (nI_le (by omega) (by omega)) c0
          refine lv_aload_n X.1 X.2.1 d_M_point_238 rfl (lv_at hl 1 rfl) ?_
          refine hm_get ⟨X, hK.1⟩ hY v_0 13 (v := .ref (T.ad 13)) rfl rfl (Nat.le_of_ble_eq_true rfl) hu_M m_502 (fun _ h => h) d_M_point_239 ?_
          refine lv_iload X.1 X.2.1 d_M_point_242 (lv_at hl 0 rfl) ?_
          refine mi_ald ⟨X, hK.1⟩ hY v_13 0 rfl (x := 10 * n + j) (v := T.I 13 (10 * n + j)) rfl (by omega) (by decide) rfl d_M_point_244 ?_
          refine lv_aload_n X.1 X.2.1 d_M_point_245 rfl (lv_at hl 1 rfl) ?_
          refine hm_get ⟨X, hK.1⟩ hY v_0 19 (v := .int (T.I 19 0)) rfl rfl (Nat.le_of_ble_eq_true rfl) hu_M m_508 (fun _ h => h) d_M_point_246 ?_
          refine lv_icmp_ne (tgt := 271) X.1 X.2.1 d_M_point_249 (by decide) (fun c2 => ?_) (fun c2 => ?_)
          · refine lv_iinc (v := nI (10 * n + (j + 1))) (lv' := [(6, .int (nI (10 * n + (j + 1)))), (0, .ref (T.ad 0)), (1, .int (nI n)), (2, .int wh), (3, .long t)]) X.1 X.2.1 d_M_point_271 hl (k := 0) rfl (nI_1 (10 * n + j)) (by decide) rfl (fun ls hl => ?_)
            refine lv_goto (tgt := 222) X.1 X.2.1 d_M_point_274 (by decide) ?_
            exact ih (j + 1) T _ _ _ (by omega) (by omega) (by rw [show pB U n wh t (j + 1) = pB1 (pB U n wh t j) n wh t j from rfl, ← hT, pB1, if_neg c2]) h1 h4 h12 hY (lv_sub hl [0, 1, 2, 3, 4] rfl)
          · refine lv_aload_n X.1 X.2.1 d_M_point_252 rfl (lv_at hl 1 rfl) ?_
            refine hm_get ⟨X, hK.1⟩ hY v_0 14 (v := .ref (T.ad 14)) rfl rfl (Nat.le_of_ble_eq_true rfl) hu_M m_503 (fun _ h => h) d_M_point_253 ?_
            refine lv_iload X.1 X.2.1 d_M_point_256 (lv_at hl 0 rfl) ?_
            refine mi_ald ⟨X, hK.1⟩ hY v_14 0 rfl (x := 10 * n + j) (v := T.I 14 (10 * n + j)) rfl (by omega) (by decide) rfl d_M_point_258 ?_
            refine lv_iload_n X.1 X.2.1 d_M_point_259 rfl (lv_at hl 3 rfl) ?_
            refine lv_icmp_ne (tgt := 271) X.1 X.2.1 d_M_point_260 (by decide) (fun c3 => ?_) (fun c3 => ?_)
            · refine lv_iinc (v := nI (10 * n + (j + 1))) (lv' := [(6, .int (nI (10 * n + (j + 1)))), (0, .ref (T.ad 0)), (1, .int (nI n)), (2, .int wh), (3, .long t)]) X.1 X.2.1 d_M_point_271 hl (k := 0) rfl (nI_1 (10 * n + j)) (by decide) rfl (fun ls hl => ?_)
              refine lv_goto (tgt := 222) X.1 X.2.1 d_M_point_274 (by decide) ?_
              exact ih (j + 1) T _ _ _ (by omega) (by omega) (by rw [show pB U n wh t (j + 1) = pB1 (pB U n wh t j) n wh t j from rfl, ← hT, pB1, if_pos c2, if_neg c3]) h1 h4 h12 hY (lv_sub hl [0, 1, 2, 3, 4] rfl)
            · refine lv_aload_n X.1 X.2.1 d_M_point_263 rfl (lv_at hl 1 rfl) ?_
              refine hm_get ⟨X, hK.1⟩ hY v_0 18 (v := .ref (T.ad 18)) rfl rfl (Nat.le_of_ble_eq_true rfl) hu_M m_507 (fun _ h => h) d_M_point_264 ?_
              refine lv_iload X.1 X.2.1 d_M_point_267 (lv_at hl 0 rfl) ?_
              refine lv_lload_n X.1 X.2.1 d_M_point_269 rfl (lv_at hl 4 rfl) ?_
              refine ml_ast ⟨X, hK.1⟩ hY v_18 2 rfl (x := 10 * n + j) rfl (by omega) (by decide) d_M_point_270 (fun H locs hY => ?_)
              have hY : hm_Y D cls A s.heap (wM G (T.sJ 18 (10 * n + j) t) ω) H locs := by rw [← fa_18 (M := T) (j := 10 * n + j) (v := t)]; exact hY
              refine lv_iinc (v := nI (10 * n + (j + 1))) (lv' := [(6, .int (nI (10 * n + (j + 1)))), (0, .ref (T.ad 0)), (1, .int (nI n)), (2, .int wh), (3, .long t)]) X.1 X.2.1 d_M_point_271 hl (k := 0) rfl (nI_1 (10 * n + j)) (by decide) rfl (fun ls hl => ?_)
              refine lv_goto (tgt := 222) X.1 X.2.1 d_M_point_274 (by decide) ?_
              exact ih (j + 1) (T.sJ 18 (10 * n + j) t) _ _ _ (by omega) (by omega) (by rw [show pB U n wh t (j + 1) = pB1 (pB U n wh t j) n wh t j from rfl, ← hT, pB1, if_pos c2, if_pos c3]) h1 h4 h12 hY (lv_sub hl [0, 1, 2, 3, 4] rfl)
    exact loop (cn + 1) 0 U ls _ _ (Nat.zero_le _) (by omega) rfl rfl rfl rfl hY (lv_sub hl [0, 1, 2, 3, 4] rfl)
  refine lv_aload_n X.1 X.2.1 d_M_point_0 rfl (lv_at hl 0 rfl) ?_
  refine lv_iconst (v := 0) X.1 X.2.1 d_M_point_1 (by decide) ?_
  refine hm_put ⟨X, hK.1⟩ hY v_0 0 rfl (Nat.le_of_ble_eq_true rfl) (Nat.le_of_ble_eq_true rfl) hu_M ty_M ty_M_ok nm_M m_489 (fun _ h => h) rfl rfl rfl d_M_point_2 (fun H locs hY => ?_)
  have hY : hm_Y D cls A s.heap (wM G (M.sI 0 0 0) ω) H locs := by rw [← fm_0 (M := M) (v := 0)]; exact hY
  refine lv_aload_n X.1 X.2.1 d_M_point_5 rfl (lv_at hl 0 rfl) ?_
  refine lv_iload_n X.1 X.2.1 d_M_point_6 rfl (lv_at hl 1 rfl) ?_
  refine hm_callR (ct_runV (n := 1) X hK hY (k_M_isPart l D A G (M.sI 0 0 0) ω (nI n)) m_601 m_598 m_600 ms_M_isPart m_6 (by decide +kernel) ⟨Nat.le_of_ble_eq_true rfl, Nat.le_of_ble_eq_true rfl⟩ ⟨rfl, rfl⟩ (hm_recv ⟨X, hK.1⟩ hY v_0 rfl) rfl hl.1 rfl (Nat.le_of_ble_eq_true rfl) d_M_point_7 ⟨Nat.le_of_ble_eq_true rfl, Nat.le_of_ble_eq_true rfl⟩) (fun v hv => ?_)
  subst hv
  refine W.eq (g2 := F0 m 10 ls [.int (b2 (mP (M.sI 0 0 0) (nI n)))]) rfl ?_
  refine lv_if_ne (tgt := 15) X.1 X.2.1 d_M_point_10 (by decide) (fun c4 => ?_) (fun c4 => ?_)
  · have c4 : (mP (M.sI 0 0 0) (nI n)) := Classical.byContradiction (fun z => c4 (b2_0.mpr z))
    refine lv_iload_n X.1 X.2.1 d_M_point_15 rfl (lv_at hl 2 rfl) ?_
    refine lv_iconst (v := 1) X.1 X.2.1 d_M_point_16 (by decide) ?_
    refine lv_icmp_lt (tgt := 34) X.1 X.2.1 d_M_point_17 (by decide) (fun c5 => ?_) (fun c5 => ?_)
    · refine lv_bipush (v := (-2)) X.1 X.2.1 d_M_point_34 (by decide) ?_
      exact en_iW X hY hr hlocks d_M_point_36 (⟨by rw [mpoint, if_pos c5], by rw [mpoint, if_pos c5]⟩)
    · refine lv_iload_n X.1 X.2.1 d_M_point_20 rfl (lv_at hl 2 rfl) ?_
      refine lv_bipush (v := 30) X.1 X.2.1 d_M_point_21 (by decide) ?_
      refine lv_icmp_gt (tgt := 34) X.1 X.2.1 d_M_point_23 (by decide) (fun c6 => ?_) (fun c6 => ?_)
      · refine lv_bipush (v := (-2)) X.1 X.2.1 d_M_point_34 (by decide) ?_
        exact en_iW X hY hr hlocks d_M_point_36 (⟨by rw [mpoint, if_neg c5, if_pos c6], by rw [mpoint, if_neg c5, if_pos c6]⟩)
      · refine lv_aload_n X.1 X.2.1 d_M_point_26 rfl (lv_at hl 0 rfl) ?_
        refine lv_lload_n X.1 X.2.1 d_M_point_27 rfl (lv_at hl 3 rfl) ?_
        refine hm_callR (ct_runV (n := 1) X hK hY (k_M_isTime l D A G (M.sI 0 0 0) ω t) m_618 m_615 m_617 ms_M_isTime m_6 (by decide +kernel) ⟨Nat.le_of_ble_eq_true rfl, Nat.le_of_ble_eq_true rfl⟩ ⟨rfl, rfl⟩ (hm_recv ⟨X, hK.1⟩ hY v_0 rfl) rfl hl.1 rfl (Nat.le_of_ble_eq_true rfl) d_M_point_28 ⟨Nat.le_of_ble_eq_true rfl, Nat.le_of_ble_eq_true rfl⟩) (fun v hv => ?_)
        subst hv
        refine W.eq (g2 := F0 m 31 ls [.int (b2 (mT (M.sI 0 0 0) t))]) rfl ?_
        refine lv_if_ne (tgt := 37) X.1 X.2.1 d_M_point_31 (by decide) (fun c7 => ?_) (fun c7 => ?_)
        · have c7 : (mT (M.sI 0 0 0) t) := Classical.byContradiction (fun z => c7 (b2_0.mpr z))
          refine lv_aload_n X.1 X.2.1 d_M_point_37 rfl (lv_at hl 0 rfl) ?_
          refine lv_lload_n X.1 X.2.1 d_M_point_38 rfl (lv_at hl 3 rfl) ?_
          refine hm_put ⟨X, hK.1⟩ hY v_0 21 rfl (Nat.le_of_ble_eq_true rfl) (Nat.le_of_ble_eq_true rfl) hu_M ty_M ty_M_ok nm_M m_510 (fun _ h => h) rfl rfl rfl d_M_point_39 (fun H locs hY => ?_)
          have hY : hm_Y D cls A s.heap (wM G ((M.sI 0 0 0).sJ 21 0 t) ω) H locs := by rw [← fm_21 (M := (M.sI 0 0 0)) (v := t)]; exact hY
          refine lv_aload_n X.1 X.2.1 d_M_point_42 rfl (lv_at hl 0 rfl) ?_
          refine hm_get ⟨X, hK.1⟩ hY v_0 11 (v := .ref (M.ad 11)) rfl rfl (Nat.le_of_ble_eq_true rfl) hu_M m_500 (fun _ h => h) d_M_point_43 ?_
          refine lv_aload_n X.1 X.2.1 d_M_point_46 rfl (lv_at hl 0 rfl) ?_
          refine lv_iload_n X.1 X.2.1 d_M_point_47 rfl (lv_at hl 1 rfl) ?_
          refine lv_aload_n X.1 X.2.1 d_M_point_48 rfl (lv_at hl 0 rfl) ?_
          refine hm_get ⟨X, hK.1⟩ hY v_0 10 (v := .ref (M.ad 10)) rfl rfl (Nat.le_of_ble_eq_true rfl) hu_M m_499 (fun _ h => h) d_M_point_49 ?_
          refine lv_iload_n X.1 X.2.1 d_M_point_52 rfl (lv_at hl 1 rfl) ?_
          refine mi_ald ⟨X, hK.1⟩ hY v_10 0 rfl (x := n) (v := M.I 10 n) rfl (by omega) (by decide) rfl d_M_point_53 ?_
          refine lv_iload_n X.1 X.2.1 d_M_point_54 rfl (lv_at hl 2 rfl) ?_
          refine hm_callR (ct_runV (n := 3) X hK hY (k_M_edgeAt l D A G ((M.sI 0 0 0).sJ 21 0 t) ω (nI n) (M.I 10 n) wh) m_605 m_602 m_604 ms_M_edgeAt m_6 (by decide +kernel) ⟨Nat.le_of_ble_eq_true rfl, Nat.le_of_ble_eq_true rfl⟩ ⟨rfl, rfl⟩ (hm_recv ⟨X, hK.1⟩ hY v_0 rfl) rfl hl.1 rfl (Nat.le_of_ble_eq_true rfl) d_M_point_55 ⟨Nat.le_of_ble_eq_true rfl, Nat.le_of_ble_eq_true rfl⟩) (fun v hv => ?_)
          subst hv
          refine W.eq (g2 := F0 m 58 ls [.int (((4 * nI n + M.I 19 0) * 31 + M.I 10 n) * 31 + wh), .ref (M.ad 11)]) rfl ?_
          have hex := eix_ok (to := wh) h20 hmo hbf.1 hbf.2 (Int32.not_lt.mp c5) (Int32.not_lt.mp c6)
          rw [hex.1]
          refine mz_ald ⟨X, hK.1⟩ hY v_11 1 rfl (x := eix M n (M.I 10 n) wh) (v := M.I 11 (eix M n (M.I 10 n) wh)) rfl hex.2 (by decide) rfl d_M_point_58 ?_
          refine lv_istore (lv' := [(5, .int (M.I 11 (eix M n (M.I 10 n) wh))), (0, .ref (M.ad 0)), (1, .int (nI n)), (2, .int wh), (3, .long t)]) X.1 X.2.1 d_M_point_59 hl (by decide) rfl (fun ls hl => ?_)
          refine lv_aload_n X.1 X.2.1 d_M_point_61 rfl (lv_at hl 1 rfl) ?_
          refine hm_get ⟨X, hK.1⟩ hY v_0 10 (v := .ref (M.ad 10)) rfl rfl (Nat.le_of_ble_eq_true rfl) hu_M m_499 (fun _ h => h) d_M_point_62 ?_
          refine lv_iload_n X.1 X.2.1 d_M_point_65 rfl (lv_at hl 2 rfl) ?_
          refine lv_iload_n X.1 X.2.1 d_M_point_66 rfl (lv_at hl 3 rfl) ?_
          refine mi_ast ⟨X, hK.1⟩ hY v_10 0 rfl (x := n) rfl (by omega) (by decide) d_M_point_67 (fun H locs hY => ?_)
          have hY : hm_Y D cls A s.heap (wM G (((M.sI 0 0 0).sJ 21 0 t).sI 10 n wh) ω) H locs := by rw [← fa_10 (M := ((M.sI 0 0 0).sJ 21 0 t)) (j := n) (v := wh)]; exact hY
          refine lv_aload_n X.1 X.2.1 d_M_point_68 rfl (lv_at hl 1 rfl) ?_
          refine hm_get ⟨X, hK.1⟩ hY v_0 5 (v := .ref (M.ad 5)) rfl rfl (Nat.le_of_ble_eq_true rfl) hu_M m_494 (fun _ h => h) d_M_point_69 ?_
          refine lv_iload_n X.1 X.2.1 d_M_point_72 rfl (lv_at hl 2 rfl) ?_
          refine mi_ald ⟨X, hK.1⟩ hY v_5 0 rfl (x := n) (v := M.I 5 n) rfl (by omega) (by decide) rfl d_M_point_73 ?_
          refine lv_iconst (v := 2) X.1 X.2.1 d_M_point_74 (by decide) ?_
          refine lv_icmp_ne (tgt := 80) X.1 X.2.1 d_M_point_75 (by decide) (fun c8 => ?_) (fun c8 => ?_)
          · refine lv_iload X.1 X.2.1 d_M_point_80 (lv_at hl 0 rfl) ?_
            refine lv_if_ne (tgt := 94) X.1 X.2.1 d_M_point_82 (by decide) (fun c9 => ?_) (fun c9 => ?_)
            · refine lv_bipush (v := 10) X.1 X.2.1 d_M_point_94 (by decide) ?_
              refine lv_iload_n X.1 X.2.1 d_M_point_96 rfl (lv_at hl 2 rfl) ?_
              refine lv_imul X.1 X.2.1 d_M_point_97 ?_
              rw [show (10 : Int32) * nI n = nI (10 * n) from pk_mul 10 n]
              refine lv_istore (lv' := [(6, .int (nI (10 * n))), (5, .int (M.I 11 (eix M n (M.I 10 n) wh))), (0, .ref (M.ad 0)), (1, .int (nI n)), (2, .int wh), (3, .long t)]) X.1 X.2.1 d_M_point_98 hl (by decide) rfl (fun ls hl => ?_)
              have loop : ∀ (k j : Nat) (T : mS) (ls : Array Slot) (H : Heap) (locs : List Loc), j ≤ cn → cn < j + k → T = pE (((M.sI 0 0 0).sJ 21 0 t).sI 10 n wh) n wh t j → T.I 1 = M.I 1 → T.I 4 = M.I 4 → T.I 12 = M.I 12 → hm_Y D cls A s.heap (wM G T ω) H locs → lv_has ls 9 [(6, .int (nI (10 * n + j))), (0, .ref (T.ad 0)), (1, .int (nI n)), (2, .int wh), (3, .long t)] → W p l e { frames := 1, cells := 0, slots := 0, locals := 23 } s m (([.ref (M.ad 0), .int (nI n), .int wh, .long t] : List Value).toArray) below meth c H locs 0 0 (MQ below (hm_Q D cls A (fun v w => v = some (.int (mpoint M n cn wh t).1) ∧ w = wM G (mpoint M n cn wh t).2 ω)) (([.ref (M.ad 0), .int (nI n), .int wh, .long t] : List Value).toArray) s 0 0 A) (F0 m 100 ls []) := by
                intro k
                induction k with
                | zero => intro j T ls H locs hle hlt; omega
                | succ k ih =>
                  intro j T ls H locs hle hlt hT h1 h4 h12 hY hl
                  refine lv_iload X.1 X.2.1 d_M_point_100 (lv_at hl 0 rfl) ?_
                  refine lv_bipush (v := 10) X.1 X.2.1 d_M_point_102 (by decide) ?_
                  refine lv_iload_n X.1 X.2.1 d_M_point_104 rfl (lv_at hl 2 rfl) ?_
                  refine lv_imul X.1 X.2.1 d_M_point_105 ?_
                  rw [show (10 : Int32) * nI n = nI (10 * n) from pk_mul 10 n]
                  refine lv_aload_n X.1 X.2.1 d_M_point_106 rfl (lv_at hl 1 rfl) ?_
                  refine hm_get ⟨X, hK.1⟩ hY v_0 12 (v := .ref (T.ad 12)) rfl rfl (Nat.le_of_ble_eq_true rfl) hu_M m_501 (fun _ h => h) d_M_point_107 ?_
                  refine lv_iload_n X.1 X.2.1 d_M_point_110 rfl (lv_at hl 2 rfl) ?_
                  refine mi_ald ⟨X, hK.1⟩ hY v_12 0 rfl (x := n) (v := T.I 12 n) rfl (by omega) (by decide) rfl d_M_point_111 ?_
                  refine lv_iadd X.1 X.2.1 d_M_point_112 ?_
                  rw [h12, hcn, nI_add]
                  refine lv_icmp_ge (tgt := 216) X.1 X.2.1 d_M_point_113 (by decide) (fun c0 => ?_) (fun c0 => ?_)
                  · have hj : j = cn := by rcases Nat.lt_or_ge j (cn) with q | q; exact absurd c0 (nI_ge (by omega) (by omega)); omega
                    exact mid T _ _ _ (by rw [mpoint, if_neg c5, if_neg c6, if_pos c7, if_neg c8, if_neg c9, ← hj, ← hT]) h12 hY (lv_sub hl [1, 2, 3, 4] rfl)
                  · have hj : j < cn := by rcases Nat.lt_or_ge j (cn) with q | q; exact q; exact absurd (nI_le (by omega) (by omega)) c0
                    refine lv_aload_n X.1 X.2.1 d_M_point_116 rfl (lv_at hl 1 rfl) ?_
                    refine hm_get ⟨X, hK.1⟩ hY v_0 13 (v := .ref (T.ad 13)) rfl rfl (Nat.le_of_ble_eq_true rfl) hu_M m_502 (fun _ h => h) d_M_point_117 ?_
                    refine lv_iload X.1 X.2.1 d_M_point_120 (lv_at hl 0 rfl) ?_
                    refine mi_ald ⟨X, hK.1⟩ hY v_13 0 rfl (x := 10 * n + j) (v := T.I 13 (10 * n + j)) rfl (by omega) (by decide) rfl d_M_point_122 ?_
                    refine lv_aload_n X.1 X.2.1 d_M_point_123 rfl (lv_at hl 1 rfl) ?_
                    refine hm_get ⟨X, hK.1⟩ hY v_0 19 (v := .int (T.I 19 0)) rfl rfl (Nat.le_of_ble_eq_true rfl) hu_M m_508 (fun _ h => h) d_M_point_124 ?_
                    refine lv_icmp_ne (tgt := 210) X.1 X.2.1 d_M_point_127 (by decide) (fun c10 => ?_) (fun c10 => ?_)
                    · refine lv_iinc (v := nI (10 * n + (j + 1))) (lv' := [(6, .int (nI (10 * n + (j + 1)))), (0, .ref (T.ad 0)), (1, .int (nI n)), (2, .int wh), (3, .long t)]) X.1 X.2.1 d_M_point_210 hl (k := 0) rfl (nI_1 (10 * n + j)) (by decide) rfl (fun ls hl => ?_)
                      refine lv_goto (tgt := 100) X.1 X.2.1 d_M_point_213 (by decide) ?_
                      exact ih (j + 1) T _ _ _ (by omega) (by omega) (by rw [show pE (((M.sI 0 0 0).sJ 21 0 t).sI 10 n wh) n wh t (j + 1) = pE1 (pE (((M.sI 0 0 0).sJ 21 0 t).sI 10 n wh) n wh t j) n wh t j from rfl, ← hT, pE1, if_neg c10]) h1 h4 h12 hY (lv_sub hl [0, 1, 2, 3, 4] rfl)
                    · refine lv_aload_n X.1 X.2.1 d_M_point_130 rfl (lv_at hl 1 rfl) ?_
                      refine hm_get ⟨X, hK.1⟩ hY v_0 15 (v := .ref (T.ad 15)) rfl rfl (Nat.le_of_ble_eq_true rfl) hu_M m_504 (fun _ h => h) d_M_point_131 ?_
                      refine lv_iload X.1 X.2.1 d_M_point_134 (lv_at hl 0 rfl) ?_
                      refine mi_ald ⟨X, hK.1⟩ hY v_15 0 rfl (x := 10 * n + j) (v := T.I 15 (10 * n + j)) rfl (by omega) (by decide) rfl d_M_point_136 ?_
                      refine lv_iload_n X.1 X.2.1 d_M_point_137 rfl (lv_at hl 3 rfl) ?_
                      refine lv_icmp_ne (tgt := 210) X.1 X.2.1 d_M_point_138 (by decide) (fun c11 => ?_) (fun c11 => ?_)
                      · refine lv_iinc (v := nI (10 * n + (j + 1))) (lv' := [(6, .int (nI (10 * n + (j + 1)))), (0, .ref (T.ad 0)), (1, .int (nI n)), (2, .int wh), (3, .long t)]) X.1 X.2.1 d_M_point_210 hl (k := 0) rfl (nI_1 (10 * n + j)) (by decide) rfl (fun ls hl => ?_)
                        refine lv_goto (tgt := 100) X.1 X.2.1 d_M_point_213 (by decide) ?_
                        exact ih (j + 1) T _ _ _ (by omega) (by omega) (by rw [show pE (((M.sI 0 0 0).sJ 21 0 t).sI 10 n wh) n wh t (j + 1) = pE1 (pE (((M.sI 0 0 0).sJ 21 0 t).sI 10 n wh) n wh t j) n wh t j from rfl, ← hT, pE1, if_pos c10, if_neg c11]) h1 h4 h12 hY (lv_sub hl [0, 1, 2, 3, 4] rfl)
                      · refine lv_aload_n X.1 X.2.1 d_M_point_141 rfl (lv_at hl 1 rfl) ?_
                        refine hm_get ⟨X, hK.1⟩ hY v_0 18 (v := .ref (T.ad 18)) rfl rfl (Nat.le_of_ble_eq_true rfl) hu_M m_507 (fun _ h => h) d_M_point_142 ?_
                        refine lv_iload X.1 X.2.1 d_M_point_145 (lv_at hl 0 rfl) ?_
                        refine ml_ald ⟨X, hK.1⟩ hY v_18 2 rfl (x := 10 * n + j) (v := T.J 18 (10 * n + j)) rfl (by omega) (by decide) rfl d_M_point_147 ?_
                        refine lv_lconst (v := 0) X.1 X.2.1 d_M_point_148 (by decide) ?_
                        refine lc_ge (tgt := 156) X d_M_point_149 d_M_point_150 (by decide) (fun c12 => ?_) (fun c12 => ?_)
                        · refine lv_lload_n X.1 X.2.1 d_M_point_156 rfl (lv_at hl 4 rfl) ?_
                          refine lv_aload_n X.1 X.2.1 d_M_point_157 rfl (lv_at hl 1 rfl) ?_
                          refine hm_get ⟨X, hK.1⟩ hY v_0 18 (v := .ref (T.ad 18)) rfl rfl (Nat.le_of_ble_eq_true rfl) hu_M m_507 (fun _ h => h) d_M_point_158 ?_
                          refine lv_iload X.1 X.2.1 d_M_point_161 (lv_at hl 0 rfl) ?_
                          refine ml_ald ⟨X, hK.1⟩ hY v_18 2 rfl (x := 10 * n + j) (v := T.J 18 (10 * n + j)) rfl (by omega) (by decide) rfl d_M_point_163 ?_
                          refine lv_lsub X.1 X.2.1 d_M_point_164 ?_
                          refine lv_lstore (lv' := [(7, .long (t - (T.J 18 (10 * n + j)))), (6, .int (nI (10 * n + j))), (0, .ref (T.ad 0)), (1, .int (nI n)), (2, .int wh), (3, .long t)]) X.1 X.2.1 d_M_point_165 hl (by decide) rfl (fun ls hl => ?_)
                          refine lv_lload X.1 X.2.1 d_M_point_167 (lv_at hl 0 rfl) ?_
                          refine lv_aload_n X.1 X.2.1 d_M_point_169 rfl (lv_at hl 2 rfl) ?_
                          refine hm_get ⟨X, hK.1⟩ hY v_0 16 (v := .ref (T.ad 16)) rfl rfl (Nat.le_of_ble_eq_true rfl) hu_M m_505 (fun _ h => h) d_M_point_170 ?_
                          refine lv_iload X.1 X.2.1 d_M_point_173 (lv_at hl 1 rfl) ?_
                          refine ml_ald ⟨X, hK.1⟩ hY v_16 2 rfl (x := 10 * n + j) (v := T.J 16 (10 * n + j)) rfl (by omega) (by decide) rfl d_M_point_175 ?_
                          refine lc_lt (tgt := 193) X d_M_point_176 d_M_point_177 (by decide) (fun c13 => ?_) (fun c13 => ?_)
                          · refine lv_aload_n X.1 X.2.1 d_M_point_193 rfl (lv_at hl 2 rfl) ?_
                            refine hm_get ⟨X, hK.1⟩ hY v_0 9 (v := .ref (T.ad 9)) rfl rfl (Nat.le_of_ble_eq_true rfl) hu_M m_498 (fun _ h => h) d_M_point_194 ?_
                            refine lv_iload_n X.1 X.2.1 d_M_point_197 rfl (lv_at hl 3 rfl) ?_
                            refine lv_iconst (v := 1) X.1 X.2.1 d_M_point_198 (by decide) ?_
                            refine mz_ast ⟨X, hK.1⟩ hY v_9 1 rfl (x := n) rfl (by omega) (by decide) rfl d_M_point_199 (fun H locs hY => ?_)
                            have hY : hm_Y D cls A s.heap (wM G (T.sI 9 n 1) ω) H locs := by rw [← fa_9 (M := T) (j := n) (v := 1)]; exact hY
                            refine lv_aload_n X.1 X.2.1 d_M_point_200 rfl (lv_at hl 2 rfl) ?_
                            refine hm_get ⟨X, hK.1⟩ hY v_0 18 (v := .ref (T.ad 18)) rfl rfl (Nat.le_of_ble_eq_true rfl) hu_M m_507 (fun _ h => h) d_M_point_201 ?_
                            refine lv_iload X.1 X.2.1 d_M_point_204 (lv_at hl 1 rfl) ?_
                            refine lv_ldc2 X.1 X.2.1 X.2.2.2.1 (X.2.2.2.2 _ m_488) d_M_point_206 ?_
                            refine ml_ast ⟨X, hK.1⟩ hY v_18 2 rfl (x := 10 * n + j) rfl (by omega) (by decide) d_M_point_209 (fun H locs hY => ?_)
                            have hY : hm_Y D cls A s.heap (wM G ((T.sI 9 n 1).sJ 18 (10 * n + j) (-1)) ω) H locs := by rw [← fa_18 (M := (T.sI 9 n 1)) (j := 10 * n + j) (v := (-1))]; exact hY
                            refine lv_iinc (v := nI (10 * n + (j + 1))) (lv' := [(6, .int (nI (10 * n + (j + 1)))), (7, .long (t - (T.J 18 (10 * n + j)))), (0, .ref (T.ad 0)), (1, .int (nI n)), (2, .int wh), (3, .long t)]) X.1 X.2.1 d_M_point_210 hl (k := 1) rfl (nI_1 (10 * n + j)) (by decide) rfl (fun ls hl => ?_)
                            refine lv_goto (tgt := 100) X.1 X.2.1 d_M_point_213 (by decide) ?_
                            exact ih (j + 1) ((T.sI 9 n 1).sJ 18 (10 * n + j) (-1)) _ _ _ (by omega) (by omega) (by rw [show pE (((M.sI 0 0 0).sJ 21 0 t).sI 10 n wh) n wh t (j + 1) = pE1 (pE (((M.sI 0 0 0).sJ 21 0 t).sI 10 n wh) n wh t j) n wh t j from rfl, ← hT, pE1, if_pos c10, if_pos c11, if_pos c12, if_pos c13]) h1 h4 h12 hY (lv_sub hl [0, 2, 3, 4, 5] rfl)
                          · refine lv_lload X.1 X.2.1 d_M_point_180 (lv_at hl 0 rfl) ?_
                            refine lv_aload_n X.1 X.2.1 d_M_point_182 rfl (lv_at hl 2 rfl) ?_
                            refine hm_get ⟨X, hK.1⟩ hY v_0 17 (v := .ref (T.ad 17)) rfl rfl (Nat.le_of_ble_eq_true rfl) hu_M m_506 (fun _ h => h) d_M_point_183 ?_
                            refine lv_iload X.1 X.2.1 d_M_point_186 (lv_at hl 1 rfl) ?_
                            refine ml_ald ⟨X, hK.1⟩ hY v_17 2 rfl (x := 10 * n + j) (v := T.J 17 (10 * n + j)) rfl (by omega) (by decide) rfl d_M_point_188 ?_
                            refine lc_le (tgt := 200) X d_M_point_189 d_M_point_190 (by decide) (fun c14 => ?_) (fun c14 => ?_)
                            · refine lv_aload_n X.1 X.2.1 d_M_point_200 rfl (lv_at hl 2 rfl) ?_
                              refine hm_get ⟨X, hK.1⟩ hY v_0 18 (v := .ref (T.ad 18)) rfl rfl (Nat.le_of_ble_eq_true rfl) hu_M m_507 (fun _ h => h) d_M_point_201 ?_
                              refine lv_iload X.1 X.2.1 d_M_point_204 (lv_at hl 1 rfl) ?_
                              refine lv_ldc2 X.1 X.2.1 X.2.2.2.1 (X.2.2.2.2 _ m_488) d_M_point_206 ?_
                              refine ml_ast ⟨X, hK.1⟩ hY v_18 2 rfl (x := 10 * n + j) rfl (by omega) (by decide) d_M_point_209 (fun H locs hY => ?_)
                              have hY : hm_Y D cls A s.heap (wM G (T.sJ 18 (10 * n + j) (-1)) ω) H locs := by rw [← fa_18 (M := T) (j := 10 * n + j) (v := (-1))]; exact hY
                              refine lv_iinc (v := nI (10 * n + (j + 1))) (lv' := [(6, .int (nI (10 * n + (j + 1)))), (7, .long (t - (T.J 18 (10 * n + j)))), (0, .ref (T.ad 0)), (1, .int (nI n)), (2, .int wh), (3, .long t)]) X.1 X.2.1 d_M_point_210 hl (k := 1) rfl (nI_1 (10 * n + j)) (by decide) rfl (fun ls hl => ?_)
                              refine lv_goto (tgt := 100) X.1 X.2.1 d_M_point_213 (by decide) ?_
                              exact ih (j + 1) (T.sJ 18 (10 * n + j) (-1)) _ _ _ (by omega) (by omega) (by rw [show pE (((M.sI 0 0 0).sJ 21 0 t).sI 10 n wh) n wh t (j + 1) = pE1 (pE (((M.sI 0 0 0).sJ 21 0 t).sI 10 n wh) n wh t j) n wh t j from rfl, ← hT, pE1, if_pos c10, if_pos c11, if_pos c12, if_neg c13, if_pos c14]) h1 h4 h12 hY (lv_sub hl [0, 2, 3, 4, 5] rfl)
                            · refine lv_aload_n X.1 X.2.1 d_M_point_193 rfl (lv_at hl 2 rfl) ?_
                              refine hm_get ⟨X, hK.1⟩ hY v_0 9 (v := .ref (T.ad 9)) rfl rfl (Nat.le_of_ble_eq_true rfl) hu_M m_498 (fun _ h => h) d_M_point_194 ?_
                              refine lv_iload_n X.1 X.2.1 d_M_point_197 rfl (lv_at hl 3 rfl) ?_
                              refine lv_iconst (v := 1) X.1 X.2.1 d_M_point_198 (by decide) ?_
                              refine mz_ast ⟨X, hK.1⟩ hY v_9 1 rfl (x := n) rfl (by omega) (by decide) rfl d_M_point_199 (fun H locs hY => ?_)
                              have hY : hm_Y D cls A s.heap (wM G (T.sI 9 n 1) ω) H locs := by rw [← fa_9 (M := T) (j := n) (v := 1)]; exact hY
                              refine lv_aload_n X.1 X.2.1 d_M_point_200 rfl (lv_at hl 2 rfl) ?_
                              refine hm_get ⟨X, hK.1⟩ hY v_0 18 (v := .ref (T.ad 18)) rfl rfl (Nat.le_of_ble_eq_true rfl) hu_M m_507 (fun _ h => h) d_M_point_201 ?_
                              refine lv_iload X.1 X.2.1 d_M_point_204 (lv_at hl 1 rfl) ?_
                              refine lv_ldc2 X.1 X.2.1 X.2.2.2.1 (X.2.2.2.2 _ m_488) d_M_point_206 ?_
                              refine ml_ast ⟨X, hK.1⟩ hY v_18 2 rfl (x := 10 * n + j) rfl (by omega) (by decide) d_M_point_209 (fun H locs hY => ?_)
                              have hY : hm_Y D cls A s.heap (wM G ((T.sI 9 n 1).sJ 18 (10 * n + j) (-1)) ω) H locs := by rw [← fa_18 (M := (T.sI 9 n 1)) (j := 10 * n + j) (v := (-1))]; exact hY
                              refine lv_iinc (v := nI (10 * n + (j + 1))) (lv' := [(6, .int (nI (10 * n + (j + 1)))), (7, .long (t - (T.J 18 (10 * n + j)))), (0, .ref (T.ad 0)), (1, .int (nI n)), (2, .int wh), (3, .long t)]) X.1 X.2.1 d_M_point_210 hl (k := 1) rfl (nI_1 (10 * n + j)) (by decide) rfl (fun ls hl => ?_)
                              refine lv_goto (tgt := 100) X.1 X.2.1 d_M_point_213 (by decide) ?_
                              exact ih (j + 1) ((T.sI 9 n 1).sJ 18 (10 * n + j) (-1)) _ _ _ (by omega) (by omega) (by rw [show pE (((M.sI 0 0 0).sJ 21 0 t).sI 10 n wh) n wh t (j + 1) = pE1 (pE (((M.sI 0 0 0).sJ 21 0 t).sI 10 n wh) n wh t j) n wh t j from rfl, ← hT, pE1, if_pos c10, if_pos c11, if_pos c12, if_neg c13, if_neg c14]) h1 h4 h12 hY (lv_sub hl [0, 2, 3, 4, 5] rfl)
                        · refine lv_goto (tgt := 210) X.1 X.2.1 d_M_point_153 (by decide) ?_
                          refine lv_iinc (v := nI (10 * n + (j + 1))) (lv' := [(6, .int (nI (10 * n + (j + 1)))), (0, .ref (T.ad 0)), (1, .int (nI n)), (2, .int wh), (3, .long t)]) X.1 X.2.1 d_M_point_210 hl (k := 0) rfl (nI_1 (10 * n + j)) (by decide) rfl (fun ls hl => ?_)
                          refine lv_goto (tgt := 100) X.1 X.2.1 d_M_point_213 (by decide) ?_
                          exact ih (j + 1) T _ _ _ (by omega) (by omega) (by rw [show pE (((M.sI 0 0 0).sJ 21 0 t).sI 10 n wh) n wh t (j + 1) = pE1 (pE (((M.sI 0 0 0).sJ 21 0 t).sI 10 n wh) n wh t j) n wh t j from rfl, ← hT, pE1, if_pos c10, if_pos c11, if_neg c12]) h1 h4 h12 hY (lv_sub hl [0, 1, 2, 3, 4] rfl)
              exact loop (cn + 1) 0 (((M.sI 0 0 0).sJ 21 0 t).sI 10 n wh) ls _ _ (Nat.zero_le _) (by omega) rfl rfl rfl rfl hY (lv_sub hl [0, 2, 3, 4, 5] rfl)
            · refine lv_aload_n X.1 X.2.1 d_M_point_85 rfl (lv_at hl 1 rfl) ?_
              refine hm_get ⟨X, hK.1⟩ hY v_0 5 (v := .ref (M.ad 5)) rfl rfl (Nat.le_of_ble_eq_true rfl) hu_M m_494 (fun _ h => h) d_M_point_86 ?_
              refine lv_iload_n X.1 X.2.1 d_M_point_89 rfl (lv_at hl 2 rfl) ?_
              refine lv_iconst (v := 2) X.1 X.2.1 d_M_point_90 (by decide) ?_
              refine mi_ast ⟨X, hK.1⟩ hY v_5 0 rfl (x := n) rfl (by omega) (by decide) d_M_point_91 (fun H locs hY => ?_)
              have hY : hm_Y D cls A s.heap (wM G ((((M.sI 0 0 0).sJ 21 0 t).sI 10 n wh).sI 5 n 2) ω) H locs := by rw [← fa_5 (M := (((M.sI 0 0 0).sJ 21 0 t).sI 10 n wh)) (j := n) (v := 2)]; exact hY
              refine lv_iconst (v := 2) X.1 X.2.1 d_M_point_92 (by decide) ?_
              exact en_iW X hY hr hlocks d_M_point_93 (⟨by rw [mpoint, if_neg c5, if_neg c6, if_pos c7, if_neg c8, if_pos c9], by rw [mpoint, if_neg c5, if_neg c6, if_pos c7, if_neg c8, if_pos c9]⟩)
          · refine lv_iconst (v := 2) X.1 X.2.1 d_M_point_78 (by decide) ?_
            exact en_iW X hY hr hlocks d_M_point_79 (⟨by rw [mpoint, if_neg c5, if_neg c6, if_pos c7, if_pos c8], by rw [mpoint, if_neg c5, if_neg c6, if_pos c7, if_pos c8]⟩)
        · have c7 : ¬ (mT (M.sI 0 0 0) t) := b2_0.mp c7
          refine lv_bipush (v := (-2)) X.1 X.2.1 d_M_point_34 (by decide) ?_
          exact en_iW X hY hr hlocks d_M_point_36 (⟨by rw [mpoint, if_neg c5, if_neg c6, if_neg c7], by rw [mpoint, if_neg c5, if_neg c6, if_neg c7]⟩)
  · have c4 : ¬ (mP (M.sI 0 0 0) (nI n)) := b2_0.mp c4
    exact absurd hp c4

set_option maxHeartbeats 4000000 in
set_option maxRecDepth 100000 in
theorem k_M_point_no (l : Launch) (D : va_G) (A : Nat → Prop) (G : Nat → Nat) (M : mS) (ω : hm_T) (x : Int32) (hp : ¬ mP M x) (wh : Int32) (t : Int64) : Met l y_M_point (.code y_M_point c_M_point 9 (some .int) :: wsA) { frames := 1, cells := 0, slots := 0, locals := 23 } (va_Pc [.ref (M.ad 0), .int x, .int wh, .long t] (ctU D A G (wM G M ω))) (hm_Q D cls A (fun v w => v = some (.int (((-1 : Int32), M.sI 0 0 0)).1) ∧ w = wM G (((-1 : Int32), M.sI 0 0 0)).2 ω)) 0 0 A := by
  refine ct_met (by decide) (Nat.le_of_ble_eq_true rfl) ?_
  rintro p e s m below meth c ls X hr hlocks hnm hl ⟨hB, hK⟩
  have hl : lv_has ls 9 [(0, .ref (M.ad 0)), (1, .int x), (2, .int wh), (3, .long t)] := hl
  have hY : hm_Y D cls A s.heap (wM G M ω) s.heap [] := hm_Y.start hB hK.2.2.2
  refine lv_aload_n X.1 X.2.1 d_M_point_0 rfl (lv_at hl 0 rfl) ?_
  refine lv_iconst (v := 0) X.1 X.2.1 d_M_point_1 (by decide) ?_
  refine hm_put ⟨X, hK.1⟩ hY v_0 0 rfl (Nat.le_of_ble_eq_true rfl) (Nat.le_of_ble_eq_true rfl) hu_M ty_M ty_M_ok nm_M m_489 (fun _ h => h) rfl rfl rfl d_M_point_2 (fun H locs hY => ?_)
  have hY : hm_Y D cls A s.heap (wM G (M.sI 0 0 0) ω) H locs := by rw [← fm_0 (M := M) (v := 0)]; exact hY
  refine lv_aload_n X.1 X.2.1 d_M_point_5 rfl (lv_at hl 0 rfl) ?_
  refine lv_iload_n X.1 X.2.1 d_M_point_6 rfl (lv_at hl 1 rfl) ?_
  refine hm_callR (ct_runV (n := 1) X hK hY (k_M_isPart l D A G (M.sI 0 0 0) ω x) m_601 m_598 m_600 ms_M_isPart m_6 (by decide +kernel) ⟨Nat.le_of_ble_eq_true rfl, Nat.le_of_ble_eq_true rfl⟩ ⟨rfl, rfl⟩ (hm_recv ⟨X, hK.1⟩ hY v_0 rfl) rfl hl.1 rfl (Nat.le_of_ble_eq_true rfl) d_M_point_7 ⟨Nat.le_of_ble_eq_true rfl, Nat.le_of_ble_eq_true rfl⟩) (fun v hv => ?_)
  subst hv
  refine W.eq (g2 := F0 m 10 ls [.int (b2 (mP (M.sI 0 0 0) x))]) rfl ?_
  refine lv_if_ne (tgt := 15) X.1 X.2.1 d_M_point_10 (by decide) (fun c1 => ?_) (fun c1 => ?_)
  · have c1 : (mP (M.sI 0 0 0) x) := Classical.byContradiction (fun z => c1 (b2_0.mpr z))
    exact absurd c1 hp
  · have c1 : ¬ (mP (M.sI 0 0 0) x) := b2_0.mp c1
    refine lv_iconst (v := (-1)) X.1 X.2.1 d_M_point_13 (by decide) ?_
    exact en_iW X hY hr hlocks d_M_point_14 (⟨rfl, rfl⟩)
