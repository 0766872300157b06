abbrev isPt (x : Int32) : Prop := 1 ≤ x.toInt64 ∧ x.toInt64 ≤ 30
abbrev isT (S : cS) (t : Int64) : Prop := S.J 0 0 0 ≤ t ∧ t ≤ 1152921504606846976
abbrev isN (S : cS) (x : Int32) : Prop := ∃ i, i < S.C 0 0 ∧ x = nI (i + 1)
def pix (x : Int32) : Nat := x.toNatClampNeg - 1
theorem pix_n {i : Nat} (h : i < 20) : pix (nI (i + 1)) = i := by
  unfold pix
  rw [nI_clamp (by omega)]
  omega
theorem aE_k (S : cS) (i : Nat) (r to : Int32) : (aE S i r to).2.C = S.C ∧ (aE S i r to).2.ad = S.ad := by
  unfold aE
  repeat' split
  all_goals exact ⟨rfl, rfl⟩
def ed1 (S : cS) (i : Nat) (fr to : Int32) : Int32 × cS := if (aE S i (S.I 0 0 0 * 31 + fr) to).1 = 0 then (0, (aE S i (S.I 0 0 0 * 31 + fr) to).2) else (1, (aE S i (S.I 0 0 0 * 31 + fr) to).2)
def ed (S : cS) (i : Nat) (fr to : Int32) : Int32 × cS :=
  if fr = 0 then (if isPt to then (if (aE S i (S.I 0 0 0 * 31 + fr) to).1 = 0 then (0, (aE S i (S.I 0 0 0 * 31 + fr) to).2) else (1, (aE S i (S.I 0 0 0 * 31 + fr) to).2)) else (-2, S))
  else if isPt fr then (if isPt to then (if (aE S i (S.I 0 0 0 * 31 + fr) to).1 = 0 then (0, (aE S i (S.I 0 0 0 * 31 + fr) to).2) else (1, (aE S i (S.I 0 0 0 * 31 + fr) to).2)) else (-2, S)) else (-2, S)
def po (S : cS) (i : Nat) (p : Int32) (t : Int64) : Int32 × cS :=
  if isPt p then (if isT S t then ((pP (S.sJ 0 0 0 t) i (S.I 0 0 0) p t).I 13 i 0, pP (S.sJ 0 0 0 t) i (S.I 0 0 0) p t) else (-2, S)) else (-2, S)
def toY (S : cS) (i : Nat) (n : Int32) : Int32 × cS := if 0 ≤ n.toInt64 ∧ n.toInt64 ≤ 100 then (1, S.sI 12 i 0 n) else (-2, S)
def toN (S : cS) (x n : Int32) : Int32 × cS := if x = 0 then (if 0 ≤ n.toInt64 ∧ n.toInt64 ≤ 100 then (1, S.sI 2 0 0 n) else (-2, S)) else (-1, S)
def an2 (S : cS) : Int32 × cS := if S.I 9 0 0 < 8 then (0, S) else (0, rS S 2)
def an (S : cS) (st : Int32) (v t : Int64) : Int32 × cS :=
  if 0 ≤ st.toInt64 ∧ st.toInt64 ≤ 3 then (if isT S t then (if rt (S.sJ 0 0 0 t) st v t then (1, tR (S.sJ 0 0 0 t) st t) else
    (if S.I 9 0 0 + 1 < 8 then (0, (((S.sJ 0 0 0 t).sI 9 0 0 (S.I 9 0 0 + 1)).sI 8 0 0 0).sJ 2 0 0 t) else (0, rS ((((S.sJ 0 0 0 t).sI 9 0 0 (S.I 9 0 0 + 1)).sI 8 0 0 0).sJ 2 0 0 t) 2))) else (-2, S)) else (-2, S)
def mdL (S : cS) : Nat → cS
  | 0 => S
  | j + 1 => fC (mdL S j) j
theorem mdL_k (S : cS) (j : Nat) : (mdL S j).C = S.C ∧ (mdL S j).ad = S.ad := by
  induction j with
  | zero => exact ⟨rfl, rfl⟩
  | succ j ih => exact ⟨(fC_k (mdL S j) j).1.trans ih.1, (fC_k (mdL S j) j).2.trans ih.2⟩
def md (S : cS) (x : Int32) : Int32 × cS := if 0 ≤ x.toInt64 ∧ x.toInt64 ≤ 3 then (if x = S.I 0 0 0 then (S.I 0 0 0, S) else (S.I 0 0 0, mdL (S.sI 0 0 0 x) (S.C 0 0))) else (-2, S)
def rst (S : cS) (x : Int32) : Int32 × cS := if x = 0 then ((rS S 4).I 4 0 0, rS S 4) else if x = 1 then (S.I 4 0 0, S) else if x = 2 then (S.I 5 0 0, S) else if x = 3 then (S.I 7 0 0, S) else if x = 4 then (S.I 9 0 0, S) else if x = 5 then (S.I 1 0 0, S) else (-2, S)
def ou (S : cS) (t : Int64) : Int32 × cS := if isT S t then (if t - S.J 1 0 0 ≤ 100 then (1, (S.sJ 0 0 0 t).sJ 1 0 0 t) else (0, rS (S.sJ 0 0 0 t) 3)) else (-2, S)
def cyL (S : cS) (t : Int64) : Nat → cS
  | 0 => S
  | j + 1 => pC (cyL S t j) j ((cyL S t j).I 1 0 0) t
theorem cyL_k (S : cS) (t : Int64) (j : Nat) : (cyL S t j).C = S.C ∧ (cyL S t j).ad = S.ad := by
  induction j with
  | zero => exact ⟨rfl, rfl⟩
  | succ j ih => exact ⟨(pC_k (cyL S t j) j _ t).1.trans ih.1, (pC_k (cyL S t j) j _ t).2.trans ih.2⟩
def cy2 (T : cS) (g : Int32) : Int32 × cS :=
  if g = 2 then (if T.I 3 0 0 + 1 ≤ T.I 2 0 0 then (g, T.sI 3 0 0 (T.I 3 0 0 + 1)) else (3, rS (T.sI 3 0 0 (T.I 3 0 0 + 1)) 1))
  else (if 0 ≤ T.I 2 0 0 then (g, T.sI 3 0 0 0) else (3, rS (T.sI 3 0 0 0) 1))
def cy (S : cS) (t : Int64) : Int32 × cS :=
  if isT S t then cy2 (cyL ((S.sJ 0 0 0 t).sI 1 0 0 (S.I 1 0 0 + 1)) t (S.C 0 0)) (wst (cyL ((S.sJ 0 0 0 t).sI 1 0 0 (S.I 1 0 0 + 1)) t (S.C 0 0)) (S.C 0 0)) else (-2, S)

set_option maxHeartbeats 4000000 in
set_option maxRecDepth 100000 in
theorem k_W_edge_y (l : Launch) (D : va_G) (A : Nat → Prop) (G : Nat → Nat) (S : cS) (ω : hm_T) (h20 : S.C 0 0 ≤ 20) (hall : ∀ i, i < S.C 0 0 → S.C 1 i ≤ 10) (i : Nat) (hi : i < S.C 0 0) (fr to : Int32) : Met l y_W_edge (.code y_W_edge c_W_edge 5 (some .int) :: wsA) { frames := 4, cells := 0, slots := 0, locals := 85 } (va_Pc [.ref (S.ad 0 0 0), .int (nI (i + 1)), .int fr, .int to] (ctU D A G (wS G S ω))) (hm_Q D cls A (fun v w => v = some (.int (ed S i fr to).1) ∧ w = wS G (ed S i fr to).2 ω)) 0 0 A := by
  refine ct_met (by decide) (Nat.le_of_ble_eq_true rfl) ?_
  rintro p e s m below meth c ls X hr hlocks hnm hl ⟨hB, hK⟩
  have hl : lv_has ls 5 [(0, .ref (S.ad 0 0 0)), (1, .int (nI (i + 1))), (2, .int fr), (3, .int to)] := hl
  have hY : hm_Y D cls A s.heap (wS G S ω) s.heap [] := hm_Y.start hB hK.2.2.2
  refine lv_aload_n X.1 X.2.1 d_W_edge_0 rfl (lv_at hl 0 rfl) ?_
  refine lv_iload_n X.1 X.2.1 d_W_edge_1 rfl (lv_at hl 1 rfl) ?_
  refine hm_callR (ct_runV (n := 1) X hK hY (k_findPart l D A G S ω i hi h20) m_112 m_109 m_111 ms_W_findPart m_1 (by decide +kernel) ⟨Nat.le_of_ble_eq_true rfl, Nat.le_of_ble_eq_true rfl⟩ ⟨rfl, rfl⟩ (hm_recv ⟨X, hK.1⟩ hY w0 rfl) rfl hl.1 rfl (Nat.le_of_ble_eq_true rfl) d_W_edge_2 ⟨Nat.le_of_ble_eq_true rfl, Nat.le_of_ble_eq_true rfl⟩) (fun v hv => ?_)
  subst hv
  refine W.eq (g2 := F0 m 5 ls [.ref (S.ad 4 i 0)]) rfl ?_
  refine lv_astore (lv' := [(4, .ref (S.ad 4 i 0)), (0, .ref (S.ad 0 0 0)), (1, .int (nI (i + 1))), (2, .int fr), (3, .int to)]) X.1 X.2.1 d_W_edge_5 hl (by decide) rfl (fun ls hl => ?_)
  refine lv_aload X.1 X.2.1 d_W_edge_7 (lv_at hl 0 rfl) ?_
  refine lv_ifnonnull (tgt := 14) X.1 X.2.1 d_W_edge_9 (by decide) ?_
  refine lv_iload_n X.1 X.2.1 d_W_edge_14 rfl (lv_at hl 3 rfl) ?_
  refine lv_if_eq (tgt := 25) X.1 X.2.1 d_W_edge_15 (by decide) (fun c1 => ?_) (fun c1 => ?_)
  · refine lv_iload_n X.1 X.2.1 d_W_edge_25 rfl (lv_at hl 4 rfl) ?_
    refine hm_callR (ct_runS (n := 1) X hK hY (k_W_isPoint l D A G (wS G S ω) to) m_137 m_135 m_136 m_1 (by decide +kernel) ⟨Nat.le_of_ble_eq_true rfl, Nat.le_of_ble_eq_true rfl⟩ ⟨rfl, rfl⟩ rfl hl.1 rfl (Nat.le_of_ble_eq_true rfl) d_W_edge_26 ⟨Nat.le_of_ble_eq_true rfl, Nat.le_of_ble_eq_true rfl⟩) (fun v hv => ?_)
    subst hv
    refine W.eq (g2 := F0 m 29 ls [.int (b2 (isPt to))]) rfl ?_
    refine lv_if_ne (tgt := 35) X.1 X.2.1 d_W_edge_29 (by decide) (fun c2 => ?_) (fun c2 => ?_)
    · have c2 : (isPt to) := Classical.byContradiction (fun z => c2 (b2_0.mpr z))
      refine lv_aload X.1 X.2.1 d_W_edge_35 (lv_at hl 0 rfl) ?_
      refine lv_aload_n X.1 X.2.1 d_W_edge_37 rfl (lv_at hl 1 rfl) ?_
      refine hm_get ⟨X, hK.1⟩ hY w0 2 (v := .int (S.I 0 0 0)) rfl rfl (Nat.le_of_ble_eq_true rfl) hu_W m_76 (fun _ h => h) d_W_edge_38 ?_
      refine lv_iload_n X.1 X.2.1 d_W_edge_41 rfl (lv_at hl 3 rfl) ?_
      refine lv_iload_n X.1 X.2.1 d_W_edge_42 rfl (lv_at hl 4 rfl) ?_
      refine hm_call (ct_runV (n := 3) X hK hY (k_P_addEdge l D A G S ω i hi (S.I 0 0 0) fr to) m_142 m_139 m_140 m_141 m_11 (by decide +kernel) ⟨Nat.le_of_ble_eq_true rfl, Nat.le_of_ble_eq_true rfl⟩ ⟨rfl, rfl⟩ (hm_recv ⟨X, hK.1⟩ hY (w4 hi) rfl) rfl hl.1 rfl (Nat.le_of_ble_eq_true rfl) d_W_edge_43 ⟨Nat.le_of_ble_eq_true rfl, Nat.le_of_ble_eq_true rfl⟩) hY (fun v w1 H locs hp hY => ?_)
      obtain ⟨rfl, rfl⟩ := hp
      refine W.eq (g2 := F0 m 46 ls [.int ((aE S i (S.I 0 0 0 * 31 + fr) to).1)]) rfl ?_
      obtain ⟨E3, hE3⟩ : ∃ z, z = (aE S i (S.I 0 0 0 * 31 + fr) to).2 := ⟨_, rfl⟩
      rw [← hE3] at hY
      have hAE3 : E3.ad = S.ad := by rw [hE3]; exact (aE_k S i (S.I 0 0 0 * 31 + fr) to).2
      have hCE3 : E3.C = S.C := by rw [hE3]; exact (aE_k S i (S.I 0 0 0 * 31 + fr) to).1
      have hiE3 : i < E3.C 0 0 := by rw [hCE3]; exact hi
      have hl : lv_has ls 5 [(4, .ref (E3.ad 4 i 0)), (0, .ref (E3.ad 0 0 0)), (1, .int (nI (i + 1))), (2, .int fr), (3, .int to)] := by rw [hAE3]; exact hl
      refine lv_if_eq (tgt := 53) X.1 X.2.1 d_W_edge_46 (by decide) (fun c4 => ?_) (fun c4 => ?_)
      · refine lv_iconst (v := 0) X.1 X.2.1 d_W_edge_53 (by decide) ?_
        exact en_iW X hY hr hlocks d_W_edge_54 (⟨by first | (rw [hE3]; rw [ed, if_pos c1, if_pos c2, if_pos c4]) | rw [ed, if_pos c1, if_pos c2, if_pos c4], by first | (rw [hE3]; rw [ed, if_pos c1, if_pos c2, if_pos c4]) | rw [ed, if_pos c1, if_pos c2, if_pos c4]⟩)
      · refine lv_iconst (v := 1) X.1 X.2.1 d_W_edge_49 (by decide) ?_
        refine lv_goto (tgt := 54) X.1 X.2.1 d_W_edge_50 (by decide) ?_
        exact en_iW X hY hr hlocks d_W_edge_54 (⟨by first | (rw [hE3]; rw [ed, if_pos c1, if_pos c2, if_neg c4]) | rw [ed, if_pos c1, if_pos c2, if_neg c4], by first | (rw [hE3]; rw [ed, if_pos c1, if_pos c2, if_neg c4]) | rw [ed, if_pos c1, if_pos c2, if_neg c4]⟩)
    · have c2 : ¬ (isPt to) := b2_0.mp c2
      refine lv_bipush (v := (-2)) X.1 X.2.1 d_W_edge_32 (by decide) ?_
      exact en_iW X hY hr hlocks d_W_edge_34 (⟨by rw [ed, if_pos c1, if_neg c2], by rw [ed, if_pos c1, if_neg c2]⟩)
  · refine lv_iload_n X.1 X.2.1 d_W_edge_18 rfl (lv_at hl 3 rfl) ?_
    refine hm_callR (ct_runS (n := 1) X hK hY (k_W_isPoint l D A G (wS G S ω) fr) m_137 m_135 m_136 m_1 (by decide +kernel) ⟨Nat.le_of_ble_eq_true rfl, Nat.le_of_ble_eq_true rfl⟩ ⟨rfl, rfl⟩ rfl hl.1 rfl (Nat.le_of_ble_eq_true rfl) d_W_edge_19 ⟨Nat.le_of_ble_eq_true rfl, Nat.le_of_ble_eq_true rfl⟩) (fun v hv => ?_)
    subst hv
    refine W.eq (g2 := F0 m 22 ls [.int (b2 (isPt fr))]) rfl ?_
    refine lv_if_eq (tgt := 32) X.1 X.2.1 d_W_edge_22 (by decide) (fun c5 => ?_) (fun c5 => ?_)
    · have c5 : ¬ (isPt fr) := b2_0.mp c5
      refine lv_bipush (v := (-2)) X.1 X.2.1 d_W_edge_32 (by decide) ?_
      exact en_iW X hY hr hlocks d_W_edge_34 (⟨by rw [ed, if_neg c1, if_neg c5], by rw [ed, if_neg c1, if_neg c5]⟩)
    · have c5 : (isPt fr) := Classical.byContradiction (fun z => c5 (b2_0.mpr z))
      refine lv_iload_n X.1 X.2.1 d_W_edge_25 rfl (lv_at hl 4 rfl) ?_
      refine hm_callR (ct_runS (n := 1) X hK hY (k_W_isPoint l D A G (wS G S ω) to) m_137 m_135 m_136 m_1 (by decide +kernel) ⟨Nat.le_of_ble_eq_true rfl, Nat.le_of_ble_eq_true rfl⟩ ⟨rfl, rfl⟩ rfl hl.1 rfl (Nat.le_of_ble_eq_true rfl) d_W_edge_26 ⟨Nat.le_of_ble_eq_true rfl, Nat.le_of_ble_eq_true rfl⟩) (fun v hv => ?_)
      subst hv
      refine W.eq (g2 := F0 m 29 ls [.int (b2 (isPt to))]) rfl ?_
      refine lv_if_ne (tgt := 35) X.1 X.2.1 d_W_edge_29 (by decide) (fun c6 => ?_) (fun c6 => ?_)
      · have c6 : (isPt to) := Classical.byContradiction (fun z => c6 (b2_0.mpr z))
        refine lv_aload X.1 X.2.1 d_W_edge_35 (lv_at hl 0 rfl) ?_
        refine lv_aload_n X.1 X.2.1 d_W_edge_37 rfl (lv_at hl 1 rfl) ?_
        refine hm_get ⟨X, hK.1⟩ hY w0 2 (v := .int (S.I 0 0 0)) rfl rfl (Nat.le_of_ble_eq_true rfl) hu_W m_76 (fun _ h => h) d_W_edge_38 ?_
        refine lv_iload_n X.1 X.2.1 d_W_edge_41 rfl (lv_at hl 3 rfl) ?_
        refine lv_iload_n X.1 X.2.1 d_W_edge_42 rfl (lv_at hl 4 rfl) ?_
        refine hm_call (ct_runV (n := 3) X hK hY (k_P_addEdge l D A G S ω i hi (S.I 0 0 0) fr to) m_142 m_139 m_140 m_141 m_11 (by decide +kernel) ⟨Nat.le_of_ble_eq_true rfl, Nat.le_of_ble_eq_true rfl⟩ ⟨rfl, rfl⟩ (hm_recv ⟨X, hK.1⟩ hY (w4 hi) rfl) rfl hl.1 rfl (Nat.le_of_ble_eq_true rfl) d_W_edge_43 ⟨Nat.le_of_ble_eq_true rfl, Nat.le_of_ble_eq_true rfl⟩) hY (fun v w1 H locs hp hY => ?_)
        obtain ⟨rfl, rfl⟩ := hp
        refine W.eq (g2 := F0 m 46 ls [.int ((aE S i (S.I 0 0 0 * 31 + fr) to).1)]) rfl ?_
        obtain ⟨E7, hE7⟩ : ∃ z, z = (aE S i (S.I 0 0 0 * 31 + fr) to).2 := ⟨_, rfl⟩
        rw [← hE7] at hY
        have hAE7 : E7.ad = S.ad := by rw [hE7]; exact (aE_k S i (S.I 0 0 0 * 31 + fr) to).2
        have hCE7 : E7.C = S.C := by rw [hE7]; exact (aE_k S i (S.I 0 0 0 * 31 + fr) to).1
        have hiE7 : i < E7.C 0 0 := by rw [hCE7]; exact hi
        have hl : lv_has ls 5 [(4, .ref (E7.ad 4 i 0)), (0, .ref (E7.ad 0 0 0)), (1, .int (nI (i + 1))), (2, .int fr), (3, .int to)] := by rw [hAE7]; exact hl
        refine lv_if_eq (tgt := 53) X.1 X.2.1 d_W_edge_46 (by decide) (fun c8 => ?_) (fun c8 => ?_)
        · refine lv_iconst (v := 0) X.1 X.2.1 d_W_edge_53 (by decide) ?_
          exact en_iW X hY hr hlocks d_W_edge_54 (⟨by first | (rw [hE7]; rw [ed, if_neg c1, if_pos c5, if_pos c6, if_pos c8]) | rw [ed, if_neg c1, if_pos c5, if_pos c6, if_pos c8], by first | (rw [hE7]; rw [ed, if_neg c1, if_pos c5, if_pos c6, if_pos c8]) | rw [ed, if_neg c1, if_pos c5, if_pos c6, if_pos c8]⟩)
        · refine lv_iconst (v := 1) X.1 X.2.1 d_W_edge_49 (by decide) ?_
          refine lv_goto (tgt := 54) X.1 X.2.1 d_W_edge_50 (by decide) ?_
          exact en_iW X hY hr hlocks d_W_edge_54 (⟨by first | (rw [hE7]; rw [ed, if_neg c1, if_pos c5, if_pos c6, if_neg c8]) | rw [ed, if_neg c1, if_pos c5, if_pos c6, if_neg c8], by first | (rw [hE7]; rw [ed, if_neg c1, if_pos c5, if_pos c6, if_neg c8]) | rw [ed, if_neg c1, if_pos c5, if_pos c6, if_neg c8]⟩)
      · have c6 : ¬ (isPt to) := b2_0.mp c6
        refine lv_bipush (v := (-2)) X.1 X.2.1 d_W_edge_32 (by decide) ?_
        exact en_iW X hY hr hlocks d_W_edge_34 (⟨by rw [ed, if_neg c1, if_pos c5, if_neg c6], by rw [ed, if_neg c1, if_pos c5, if_neg c6]⟩)

set_option maxHeartbeats 4000000 in
set_option maxRecDepth 100000 in
theorem k_W_edge_no (l : Launch) (D : va_G) (A : Nat → Prop) (G : Nat → Nat) (S : cS) (ω : hm_T) (h20 : S.C 0 0 ≤ 20) (hall : ∀ i, i < S.C 0 0 → S.C 1 i ≤ 10) (x : Int32) (hx : ¬ isN S x) (fr to : Int32) : Met l y_W_edge (.code y_W_edge c_W_edge 5 (some .int) :: wsA) { frames := 4, cells := 0, slots := 0, locals := 85 } (va_Pc [.ref (S.ad 0 0 0), .int x, .int fr, .int to] (ctU D A G (wS G S ω))) (hm_Q D cls A (fun v w => v = some (.int (((-1 : Int32), S)).1) ∧ w = wS G (((-1 : Int32), S)).2 ω)) 0 0 A := by
  refine ct_met (by decide) (Nat.le_of_ble_eq_true rfl) ?_
  rintro p e s m below meth c ls X hr hlocks hnm hl ⟨hB, hK⟩
  have hl : lv_has ls 5 [(0, .ref (S.ad 0 0 0)), (1, .int x), (2, .int fr), (3, .int to)] := hl
  have hY : hm_Y D cls A s.heap (wS G S ω) s.heap [] := hm_Y.start hB hK.2.2.2
  refine lv_aload_n X.1 X.2.1 d_W_edge_0 rfl (lv_at hl 0 rfl) ?_
  refine lv_iload_n X.1 X.2.1 d_W_edge_1 rfl (lv_at hl 1 rfl) ?_
  refine hm_callR (ct_runV (n := 1) X hK hY (k_findPart_no l D A G S ω x hx h20) m_112 m_109 m_111 ms_W_findPart m_1 (by decide +kernel) ⟨Nat.le_of_ble_eq_true rfl, Nat.le_of_ble_eq_true rfl⟩ ⟨rfl, rfl⟩ (hm_recv ⟨X, hK.1⟩ hY w0 rfl) rfl hl.1 rfl (Nat.le_of_ble_eq_true rfl) d_W_edge_2 ⟨Nat.le_of_ble_eq_true rfl, Nat.le_of_ble_eq_true rfl⟩) (fun v hv => ?_)
  subst hv
  refine W.eq (g2 := F0 m 5 ls [.null]) rfl ?_
  refine lv_astoreN (lv' := [(4, .null), (0, .ref (S.ad 0 0 0)), (1, .int x), (2, .int fr), (3, .int to)]) X.1 X.2.1 d_W_edge_5 hl (by decide) rfl (fun ls hl => ?_)
  refine lv_aloadN X.1 X.2.1 d_W_edge_7 (lv_at hl 0 rfl) ?_
  refine lv_ifnonnullN X.1 X.2.1 d_W_edge_9 ?_
  refine lv_iconst (v := (-1)) X.1 X.2.1 d_W_edge_12 (by decide) ?_
  exact en_iW X hY hr hlocks d_W_edge_13 (⟨rfl, rfl⟩)

set_option maxHeartbeats 4000000 in
set_option maxRecDepth 100000 in
theorem k_W_point_y (l : Launch) (D : va_G) (A : Nat → Prop) (G : Nat → Nat) (S : cS) (ω : hm_T) (h20 : S.C 0 0 ≤ 20) (hall : ∀ i, i < S.C 0 0 → S.C 1 i ≤ 10) (i : Nat) (hi : i < S.C 0 0) (p0 : Int32) (t : Int64) : Met l y_W_point (.code y_W_point c_W_point 6 (some .int) :: wsA) { frames := 5, cells := 0, slots := 0, locals := 115 } (va_Pc [.ref (S.ad 0 0 0), .int (nI (i + 1)), .int p0, .long t] (ctU D A G (wS G S ω))) (hm_Q D cls A (fun v w => v = some (.int (po S i p0 t).1) ∧ w = wS G (po S i p0 t).2 ω)) 0 0 A := by
  refine ct_met (by decide) (Nat.le_of_ble_eq_true rfl) ?_
  rintro p e s m below meth c ls X hr hlocks hnm hl ⟨hB, hK⟩
  have hl : lv_has ls 6 [(0, .ref (S.ad 0 0 0)), (1, .int (nI (i + 1))), (2, .int p0), (3, .long t)] := hl
  have hY : hm_Y D cls A s.heap (wS G S ω) s.heap [] := hm_Y.start hB hK.2.2.2
  refine lv_aload_n X.1 X.2.1 d_W_point_0 rfl (lv_at hl 0 rfl) ?_
  refine lv_iload_n X.1 X.2.1 d_W_point_1 rfl (lv_at hl 1 rfl) ?_
  refine hm_callR (ct_runV (n := 1) X hK hY (k_findPart l D A G S ω i hi h20) m_112 m_109 m_111 ms_W_findPart m_1 (by decide +kernel) ⟨Nat.le_of_ble_eq_true rfl, Nat.le_of_ble_eq_true rfl⟩ ⟨rfl, rfl⟩ (hm_recv ⟨X, hK.1⟩ hY w0 rfl) rfl hl.1 rfl (Nat.le_of_ble_eq_true rfl) d_W_point_2 ⟨Nat.le_of_ble_eq_true rfl, Nat.le_of_ble_eq_true rfl⟩) (fun v hv => ?_)
  subst hv
  refine W.eq (g2 := F0 m 5 ls [.ref (S.ad 4 i 0)]) rfl ?_
  refine lv_astore (lv' := [(5, .ref (S.ad 4 i 0)), (0, .ref (S.ad 0 0 0)), (1, .int (nI (i + 1))), (2, .int p0), (3, .long t)]) X.1 X.2.1 d_W_point_5 hl (by decide) rfl (fun ls hl => ?_)
  refine lv_aload X.1 X.2.1 d_W_point_7 (lv_at hl 0 rfl) ?_
  refine lv_ifnonnull (tgt := 14) X.1 X.2.1 d_W_point_9 (by decide) ?_
  refine lv_iload_n X.1 X.2.1 d_W_point_14 rfl (lv_at hl 3 rfl) ?_
  refine hm_callR (ct_runS (n := 1) X hK hY (k_W_isPoint l D A G (wS G S ω) p0) m_137 m_135 m_136 m_1 (by decide +kernel) ⟨Nat.le_of_ble_eq_true rfl, Nat.le_of_ble_eq_true rfl⟩ ⟨rfl, rfl⟩ rfl hl.1 rfl (Nat.le_of_ble_eq_true rfl) d_W_point_15 ⟨Nat.le_of_ble_eq_true rfl, Nat.le_of_ble_eq_true rfl⟩) (fun v hv => ?_)
  subst hv
  refine W.eq (g2 := F0 m 18 ls [.int (b2 (isPt p0))]) rfl ?_
  refine lv_if_eq (tgt := 29) X.1 X.2.1 d_W_point_18 (by decide) (fun c1 => ?_) (fun c1 => ?_)
  · have c1 : ¬ (isPt p0) := b2_0.mp c1
    refine lv_bipush (v := (-2)) X.1 X.2.1 d_W_point_29 (by decide) ?_
    exact en_iW X hY hr hlocks d_W_point_31 (⟨by rw [po, if_neg c1], by rw [po, if_neg c1]⟩)
  · have c1 : (isPt p0) := Classical.byContradiction (fun z => c1 (b2_0.mpr z))
    refine lv_aload_n X.1 X.2.1 d_W_point_21 rfl (lv_at hl 1 rfl) ?_
    refine lv_lload_n X.1 X.2.1 d_W_point_22 rfl (lv_at hl 4 rfl) ?_
    refine hm_callR (ct_runV (n := 1) X hK hY (k_W_isTime l D A G S ω t) m_252 m_249 m_251 ms_W_isTime m_1 (by decide +kernel) ⟨Nat.le_of_ble_eq_true rfl, Nat.le_of_ble_eq_true rfl⟩ ⟨rfl, rfl⟩ (hm_recv ⟨X, hK.1⟩ hY w0 rfl) rfl hl.1 rfl (Nat.le_of_ble_eq_true rfl) d_W_point_23 ⟨Nat.le_of_ble_eq_true rfl, Nat.le_of_ble_eq_true rfl⟩) (fun v hv => ?_)
    subst hv
    refine W.eq (g2 := F0 m 26 ls [.int (b2 (isT S t))]) rfl ?_
    refine lv_if_ne (tgt := 32) X.1 X.2.1 d_W_point_26 (by decide) (fun c2 => ?_) (fun c2 => ?_)
    · have c2 : (isT S t) := Classical.byContradiction (fun z => c2 (b2_0.mpr z))
      refine lv_aload_n X.1 X.2.1 d_W_point_32 rfl (lv_at hl 1 rfl) ?_
      refine lv_lload_n X.1 X.2.1 d_W_point_33 rfl (lv_at hl 4 rfl) ?_
      refine hm_put ⟨X, hK.1⟩ hY w0 4 rfl (Nat.le_of_ble_eq_true rfl) (Nat.le_of_ble_eq_true rfl) hu_W ty_W ty_W_ok nm_W m_78 (fun _ h => h) rfl rfl rfl d_W_point_34 (fun H locs hY => ?_)
      have hY : hm_Y D cls A s.heap (wS G (S.sJ 0 0 0 t) ω) H locs := by rw [← fo_W_4 (S := S) (v := t)]; exact hY
      refine lv_aload X.1 X.2.1 d_W_point_37 (lv_at hl 0 rfl) ?_
      refine lv_aload_n X.1 X.2.1 d_W_point_39 rfl (lv_at hl 1 rfl) ?_
      refine hm_get ⟨X, hK.1⟩ hY w0 2 (v := .int (S.I 0 0 0)) rfl rfl (Nat.le_of_ble_eq_true rfl) hu_W m_76 (fun _ h => h) d_W_point_40 ?_
      refine lv_iload_n X.1 X.2.1 d_W_point_43 rfl (lv_at hl 3 rfl) ?_
      refine lv_lload_n X.1 X.2.1 d_W_point_44 rfl (lv_at hl 4 rfl) ?_
      refine hm_call (ct_runV (n := 3) X hK hY (k_P_passPoint l D A G (S.sJ 0 0 0 t) ω i hi (hall i hi) (S.I 0 0 0) p0 t) m_257 m_254 m_255 m_256 m_11 (by decide +kernel) ⟨Nat.le_of_ble_eq_true rfl, Nat.le_of_ble_eq_true rfl⟩ ⟨rfl, rfl⟩ (hm_recv ⟨X, hK.1⟩ hY (w4 hi) rfl) rfl hl.1 rfl (Nat.le_of_ble_eq_true rfl) d_W_point_45 ⟨Nat.le_of_ble_eq_true rfl, Nat.le_of_ble_eq_true rfl⟩) hY (fun v w1 H locs hp hY => ?_)
      obtain ⟨rfl, rfl⟩ := hp
      refine W.eq (g2 := F0 m 48 ls []) rfl ?_
      obtain ⟨E3, hE3⟩ : ∃ z, z = pP (S.sJ 0 0 0 t) i (S.I 0 0 0) p0 t := ⟨_, rfl⟩
      rw [← hE3] at hY
      have hAE3 : E3.ad = S.ad := by rw [hE3]; exact (pP_k (S.sJ 0 0 0 t) i (S.I 0 0 0) p0 t).2
      have hCE3 : E3.C = S.C := by rw [hE3]; exact (pP_k (S.sJ 0 0 0 t) i (S.I 0 0 0) p0 t).1
      have hiE3 : i < E3.C 0 0 := by rw [hCE3]; exact hi
      have hl : lv_has ls 6 [(5, .ref (E3.ad 4 i 0)), (0, .ref (E3.ad 0 0 0)), (1, .int (nI (i + 1))), (2, .int p0), (3, .long t)] := by rw [hAE3]; exact hl
      refine lv_aload X.1 X.2.1 d_W_point_48 (lv_at hl 0 rfl) ?_
      refine hm_get ⟨X, hK.1⟩ hY (w4 hiE3) 6 (v := .int (E3.I 13 i 0)) rfl rfl (Nat.le_of_ble_eq_true rfl) hu_P m_452 (fun _ h => h) d_W_point_50 ?_
      exact en_iW X hY hr hlocks d_W_point_53 (⟨by first | (rw [hE3]; rw [po, if_pos c1, if_pos c2]) | rw [po, if_pos c1, if_pos c2], by first | (rw [hE3]; rw [po, if_pos c1, if_pos c2]) | rw [po, if_pos c1, if_pos c2]⟩)
    · have c2 : ¬ (isT S t) := b2_0.mp c2
      refine lv_bipush (v := (-2)) X.1 X.2.1 d_W_point_29 (by decide) ?_
      exact en_iW X hY hr hlocks d_W_point_31 (⟨by rw [po, if_pos c1, if_neg c2], by rw [po, if_pos c1, if_neg c2]⟩)

set_option maxHeartbeats 4000000 in
set_option maxRecDepth 100000 in
theorem k_W_point_no (l : Launch) (D : va_G) (A : Nat → Prop) (G : Nat → Nat) (S : cS) (ω : hm_T) (h20 : S.C 0 0 ≤ 20) (hall : ∀ i, i < S.C 0 0 → S.C 1 i ≤ 10) (x : Int32) (hx : ¬ isN S x) (p0 : Int32) (t : Int64) : Met l y_W_point (.code y_W_point c_W_point 6 (some .int) :: wsA) { frames := 5, cells := 0, slots := 0, locals := 115 } (va_Pc [.ref (S.ad 0 0 0), .int x, .int p0, .long t] (ctU D A G (wS G S ω))) (hm_Q D cls A (fun v w => v = some (.int (((-1 : Int32), S)).1) ∧ w = wS G (((-1 : Int32), S)).2 ω)) 0 0 A := by
  refine ct_met (by decide) (Nat.le_of_ble_eq_true rfl) ?_
  rintro p e s m below meth c ls X hr hlocks hnm hl ⟨hB, hK⟩
  have hl : lv_has ls 6 [(0, .ref (S.ad 0 0 0)), (1, .int x), (2, .int p0), (3, .long t)] := hl
  have hY : hm_Y D cls A s.heap (wS G S ω) s.heap [] := hm_Y.start hB hK.2.2.2
  refine lv_aload_n X.1 X.2.1 d_W_point_0 rfl (lv_at hl 0 rfl) ?_
  refine lv_iload_n X.1 X.2.1 d_W_point_1 rfl (lv_at hl 1 rfl) ?_
  refine hm_callR (ct_runV (n := 1) X hK hY (k_findPart_no l D A G S ω x hx h20) m_112 m_109 m_111 ms_W_findPart m_1 (by decide +kernel) ⟨Nat.le_of_ble_eq_true rfl, Nat.le_of_ble_eq_true rfl⟩ ⟨rfl, rfl⟩ (hm_recv ⟨X, hK.1⟩ hY w0 rfl) rfl hl.1 rfl (Nat.le_of_ble_eq_true rfl) d_W_point_2 ⟨Nat.le_of_ble_eq_true rfl, Nat.le_of_ble_eq_true rfl⟩) (fun v hv => ?_)
  subst hv
  refine W.eq (g2 := F0 m 5 ls [.null]) rfl ?_
  refine lv_astoreN (lv' := [(5, .null), (0, .ref (S.ad 0 0 0)), (1, .int x), (2, .int p0), (3, .long t)]) X.1 X.2.1 d_W_point_5 hl (by decide) rfl (fun ls hl => ?_)
  refine lv_aloadN X.1 X.2.1 d_W_point_7 (lv_at hl 0 rfl) ?_
  refine lv_ifnonnullN X.1 X.2.1 d_W_point_9 ?_
  refine lv_iconst (v := (-1)) X.1 X.2.1 d_W_point_12 (by decide) ?_
  exact en_iW X hY hr hlocks d_W_point_13 (⟨rfl, rfl⟩)

set_option maxHeartbeats 4000000 in
set_option maxRecDepth 100000 in
theorem k_W_state_y (l : Launch) (D : va_G) (A : Nat → Prop) (G : Nat → Nat) (S : cS) (ω : hm_T) (h20 : S.C 0 0 ≤ 20) (hall : ∀ i, i < S.C 0 0 → S.C 1 i ≤ 10) (i : Nat) (hi : i < S.C 0 0) : Met l y_W_state (.code y_W_state c_W_state 3 (some .int) :: wsA) { frames := 4, cells := 0, slots := 0, locals := 85 } (va_Pc [.ref (S.ad 0 0 0), .int (nI (i + 1))] (ctU D A G (wS G S ω))) (hm_Q D cls A (fun v w => v = some (.int ((S.I 13 i 0, S)).1) ∧ w = wS G ((S.I 13 i 0, S)).2 ω)) 0 0 A := by
  refine ct_met (by decide) (Nat.le_of_ble_eq_true rfl) ?_
  rintro p e s m below meth c ls X hr hlocks hnm hl ⟨hB, hK⟩
  have hl : lv_has ls 3 [(0, .ref (S.ad 0 0 0)), (1, .int (nI (i + 1)))] := hl
  have hY : hm_Y D cls A s.heap (wS G S ω) s.heap [] := hm_Y.start hB hK.2.2.2
  refine lv_aload_n X.1 X.2.1 d_W_state_0 rfl (lv_at hl 0 rfl) ?_
  refine lv_iload_n X.1 X.2.1 d_W_state_1 rfl (lv_at hl 1 rfl) ?_
  refine hm_callR (ct_runV (n := 1) X hK hY (k_findPart l D A G S ω i hi h20) m_112 m_109 m_111 ms_W_findPart m_1 (by decide +kernel) ⟨Nat.le_of_ble_eq_true rfl, Nat.le_of_ble_eq_true rfl⟩ ⟨rfl, rfl⟩ (hm_recv ⟨X, hK.1⟩ hY w0 rfl) rfl hl.1 rfl (Nat.le_of_ble_eq_true rfl) d_W_state_2 ⟨Nat.le_of_ble_eq_true rfl, Nat.le_of_ble_eq_true rfl⟩) (fun v hv => ?_)
  subst hv
  refine W.eq (g2 := F0 m 5 ls [.ref (S.ad 4 i 0)]) rfl ?_
  refine lv_astore_n (lv' := [(2, .ref (S.ad 4 i 0)), (0, .ref (S.ad 0 0 0)), (1, .int (nI (i + 1)))]) X.1 X.2.1 d_W_state_5 rfl hl (by decide) rfl (fun ls hl => ?_)
  refine lv_aload_n X.1 X.2.1 d_W_state_6 rfl (lv_at hl 0 rfl) ?_
  refine lv_ifnonnull (tgt := 14) X.1 X.2.1 d_W_state_7 (by decide) ?_
  refine lv_aload_n X.1 X.2.1 d_W_state_14 rfl (lv_at hl 0 rfl) ?_
  refine hm_get ⟨X, hK.1⟩ hY (w4 hi) 6 (v := .int (S.I 13 i 0)) rfl rfl (Nat.le_of_ble_eq_true rfl) hu_P m_452 (fun _ h => h) d_W_state_15 ?_
  exact en_iW X hY hr hlocks d_W_state_18 (⟨rfl, rfl⟩)

set_option maxHeartbeats 4000000 in
set_option maxRecDepth 100000 in
theorem k_W_state_no (l : Launch) (D : va_G) (A : Nat → Prop) (G : Nat → Nat) (S : cS) (ω : hm_T) (h20 : S.C 0 0 ≤ 20) (hall : ∀ i, i < S.C 0 0 → S.C 1 i ≤ 10) (x : Int32) (hx : ¬ isN S x) : Met l y_W_state (.code y_W_state c_W_state 3 (some .int) :: wsA) { frames := 4, cells := 0, slots := 0, locals := 85 } (va_Pc [.ref (S.ad 0 0 0), .int x] (ctU D A G (wS G S ω))) (hm_Q D cls A (fun v w => v = some (.int (((-1 : Int32), S)).1) ∧ w = wS G (((-1 : Int32), S)).2 ω)) 0 0 A := by
  refine ct_met (by decide) (Nat.le_of_ble_eq_true rfl) ?_
  rintro p e s m below meth c ls X hr hlocks hnm hl ⟨hB, hK⟩
  have hl : lv_has ls 3 [(0, .ref (S.ad 0 0 0)), (1, .int x)] := hl
  have hY : hm_Y D cls A s.heap (wS G S ω) s.heap [] := hm_Y.start hB hK.2.2.2
  refine lv_aload_n X.1 X.2.1 d_W_state_0 rfl (lv_at hl 0 rfl) ?_
  refine lv_iload_n X.1 X.2.1 d_W_state_1 rfl (lv_at hl 1 rfl) ?_
  refine hm_callR (ct_runV (n := 1) X hK hY (k_findPart_no l D A G S ω x hx h20) m_112 m_109 m_111 ms_W_findPart m_1 (by decide +kernel) ⟨Nat.le_of_ble_eq_true rfl, Nat.le_of_ble_eq_true rfl⟩ ⟨rfl, rfl⟩ (hm_recv ⟨X, hK.1⟩ hY w0 rfl) rfl hl.1 rfl (Nat.le_of_ble_eq_true rfl) d_W_state_2 ⟨Nat.le_of_ble_eq_true rfl, Nat.le_of_ble_eq_true rfl⟩) (fun v hv => ?_)
  subst hv
  refine W.eq (g2 := F0 m 5 ls [.null]) rfl ?_
  refine lv_astore_nN (lv' := [(2, .null), (0, .ref (S.ad 0 0 0)), (1, .int x)]) X.1 X.2.1 d_W_state_5 rfl hl (by decide) rfl (fun ls hl => ?_)
  refine lv_aload_nN X.1 X.2.1 d_W_state_6 rfl (lv_at hl 0 rfl) ?_
  refine lv_ifnonnullN X.1 X.2.1 d_W_state_7 ?_
  refine lv_iconst (v := (-1)) X.1 X.2.1 d_W_state_10 (by decide) ?_
  refine lv_goto (tgt := 18) X.1 X.2.1 d_W_state_11 (by decide) ?_
  exact en_iW X hY hr hlocks d_W_state_18 (⟨rfl, rfl⟩)

set_option maxHeartbeats 4000000 in
set_option maxRecDepth 100000 in
theorem k_W_tolerance_y (l : Launch) (D : va_G) (A : Nat → Prop) (G : Nat → Nat) (S : cS) (ω : hm_T) (h20 : S.C 0 0 ≤ 20) (hall : ∀ i, i < S.C 0 0 → S.C 1 i ≤ 10) (i : Nat) (hi : i < S.C 0 0) (n : Int32) : Met l y_W_tolerance (.code y_W_tolerance c_W_tolerance 4 (some .int) :: wsA) { frames := 4, cells := 0, slots := 0, locals := 85 } (va_Pc [.ref (S.ad 0 0 0), .int (nI (i + 1)), .int n] (ctU D A G (wS G S ω))) (hm_Q D cls A (fun v w => v = some (.int (toY S i n).1) ∧ w = wS G (toY S i n).2 ω)) 0 0 A := by
  refine ct_met (by decide) (Nat.le_of_ble_eq_true rfl) ?_
  rintro p e s m below meth c ls X hr hlocks hnm hl ⟨hB, hK⟩
  have hl : lv_has ls 4 [(0, .ref (S.ad 0 0 0)), (1, .int (nI (i + 1))), (2, .int n)] := hl
  have hY : hm_Y D cls A s.heap (wS G S ω) s.heap [] := hm_Y.start hB hK.2.2.2
  refine lv_aload_n X.1 X.2.1 d_W_tolerance_0 rfl (lv_at hl 0 rfl) ?_
  refine lv_iload_n X.1 X.2.1 d_W_tolerance_1 rfl (lv_at hl 1 rfl) ?_
  refine hm_callR (ct_runV (n := 1) X hK hY (k_findPart l D A G S ω i hi h20) m_112 m_109 m_111 ms_W_findPart m_1 (by decide +kernel) ⟨Nat.le_of_ble_eq_true rfl, Nat.le_of_ble_eq_true rfl⟩ ⟨rfl, rfl⟩ (hm_recv ⟨X, hK.1⟩ hY w0 rfl) rfl hl.1 rfl (Nat.le_of_ble_eq_true rfl) d_W_tolerance_2 ⟨Nat.le_of_ble_eq_true rfl, Nat.le_of_ble_eq_true rfl⟩) (fun v hv => ?_)
  subst hv
  refine W.eq (g2 := F0 m 5 ls [.ref (S.ad 4 i 0)]) rfl ?_
  refine lv_astore_n (lv' := [(3, .ref (S.ad 4 i 0)), (0, .ref (S.ad 0 0 0)), (1, .int (nI (i + 1))), (2, .int n)]) X.1 X.2.1 d_W_tolerance_5 rfl hl (by decide) rfl (fun ls hl => ?_)
  refine lv_aload_n X.1 X.2.1 d_W_tolerance_6 rfl (lv_at hl 0 rfl) ?_
  refine lv_ifnonnull (tgt := 16) X.1 X.2.1 d_W_tolerance_7 (by decide) ?_
  refine lv_iload_n X.1 X.2.1 d_W_tolerance_16 rfl (lv_at hl 3 rfl) ?_
  refine lv_i2l (v := n.toInt64) X.1 X.2.1 d_W_tolerance_17 rfl ?_
  refine lv_lconst (v := 0) X.1 X.2.1 d_W_tolerance_18 (by decide) ?_
  refine lv_ldc2 X.1 X.2.1 X.2.2.2.1 (X.2.2.2.2 _ m_315) d_W_tolerance_19 ?_
  refine hm_callR (ct_runS (n := 3) X hK hY (k_W_isWithin l D A G (wS G S ω) n.toInt64 0 100) m_119 m_117 m_118 m_1 (by decide +kernel) ⟨Nat.le_of_ble_eq_true rfl, Nat.le_of_ble_eq_true rfl⟩ ⟨rfl, rfl⟩ rfl hl.1 rfl (Nat.le_of_ble_eq_true rfl) d_W_tolerance_22 ⟨Nat.le_of_ble_eq_true rfl, Nat.le_of_ble_eq_true rfl⟩) (fun v hv => ?_)
  subst hv
  refine W.eq (g2 := F0 m 25 ls [.int (b2 (0 ≤ n.toInt64 ∧ n.toInt64 ≤ 100))]) rfl ?_
  refine lv_if_ne (tgt := 31) X.1 X.2.1 d_W_tolerance_25 (by decide) (fun c1 => ?_) (fun c1 => ?_)
  · have c1 : (0 ≤ n.toInt64 ∧ n.toInt64 ≤ 100) := Classical.byContradiction (fun z => c1 (b2_0.mpr z))
    refine lv_aload_n X.1 X.2.1 d_W_tolerance_31 rfl (lv_at hl 0 rfl) ?_
    refine lv_ifnonnull (tgt := 43) X.1 X.2.1 d_W_tolerance_32 (by decide) ?_
    refine lv_aload_n X.1 X.2.1 d_W_tolerance_43 rfl (lv_at hl 0 rfl) ?_
    refine lv_iload_n X.1 X.2.1 d_W_tolerance_44 rfl (lv_at hl 3 rfl) ?_
    refine hm_put ⟨X, hK.1⟩ hY (w4 hi) 5 rfl (Nat.le_of_ble_eq_true rfl) (Nat.le_of_ble_eq_true rfl) hu_P ty_P ty_P_ok nm_P m_450 (fun _ h => h) rfl rfl rfl d_W_tolerance_45 (fun H locs hY => ?_)
    have hY : hm_Y D cls A s.heap (wS G (S.sI 12 i 0 n) ω) H locs := by rw [← fo_P_5 (S := S) (v := n) hi]; exact hY
    refine lv_iconst (v := 1) X.1 X.2.1 d_W_tolerance_48 (by decide) ?_
    exact en_iW X hY hr hlocks d_W_tolerance_49 (⟨by rw [toY, if_pos c1], by rw [toY, if_pos c1]⟩)
  · have c1 : ¬ (0 ≤ n.toInt64 ∧ n.toInt64 ≤ 100) := b2_0.mp c1
    refine lv_bipush (v := (-2)) X.1 X.2.1 d_W_tolerance_28 (by decide) ?_
    exact en_iW X hY hr hlocks d_W_tolerance_30 (⟨by rw [toY, if_neg c1], by rw [toY, if_neg c1]⟩)

set_option maxHeartbeats 4000000 in
set_option maxRecDepth 100000 in
theorem k_W_tolerance_no (l : Launch) (D : va_G) (A : Nat → Prop) (G : Nat → Nat) (S : cS) (ω : hm_T) (h20 : S.C 0 0 ≤ 20) (hall : ∀ i, i < S.C 0 0 → S.C 1 i ≤ 10) (x : Int32) (hx : ¬ isN S x) (n : Int32) : Met l y_W_tolerance (.code y_W_tolerance c_W_tolerance 4 (some .int) :: wsA) { frames := 4, cells := 0, slots := 0, locals := 85 } (va_Pc [.ref (S.ad 0 0 0), .int x, .int n] (ctU D A G (wS G S ω))) (hm_Q D cls A (fun v w => v = some (.int (toN S x n).1) ∧ w = wS G (toN S x n).2 ω)) 0 0 A := by
  refine ct_met (by decide) (Nat.le_of_ble_eq_true rfl) ?_
  rintro p e s m below meth c ls X hr hlocks hnm hl ⟨hB, hK⟩
  have hl : lv_has ls 4 [(0, .ref (S.ad 0 0 0)), (1, .int x), (2, .int n)] := hl
  have hY : hm_Y D cls A s.heap (wS G S ω) s.heap [] := hm_Y.start hB hK.2.2.2
  refine lv_aload_n X.1 X.2.1 d_W_tolerance_0 rfl (lv_at hl 0 rfl) ?_
  refine lv_iload_n X.1 X.2.1 d_W_tolerance_1 rfl (lv_at hl 1 rfl) ?_
  refine hm_callR (ct_runV (n := 1) X hK hY (k_findPart_no l D A G S ω x hx h20) m_112 m_109 m_111 ms_W_findPart m_1 (by decide +kernel) ⟨Nat.le_of_ble_eq_true rfl, Nat.le_of_ble_eq_true rfl⟩ ⟨rfl, rfl⟩ (hm_recv ⟨X, hK.1⟩ hY w0 rfl) rfl hl.1 rfl (Nat.le_of_ble_eq_true rfl) d_W_tolerance_2 ⟨Nat.le_of_ble_eq_true rfl, Nat.le_of_ble_eq_true rfl⟩) (fun v hv => ?_)
  subst hv
  refine W.eq (g2 := F0 m 5 ls [.null]) rfl ?_
  refine lv_astore_nN (lv' := [(3, .null), (0, .ref (S.ad 0 0 0)), (1, .int x), (2, .int n)]) X.1 X.2.1 d_W_tolerance_5 rfl hl (by decide) rfl (fun ls hl => ?_)
  refine lv_aload_nN X.1 X.2.1 d_W_tolerance_6 rfl (lv_at hl 0 rfl) ?_
  refine lv_ifnonnullN X.1 X.2.1 d_W_tolerance_7 ?_
  refine lv_iload_n X.1 X.2.1 d_W_tolerance_10 rfl (lv_at hl 2 rfl) ?_
  refine lv_if_eq (tgt := 16) X.1 X.2.1 d_W_tolerance_11 (by decide) (fun c1 => ?_) (fun c1 => ?_)
  · refine lv_iload_n X.1 X.2.1 d_W_tolerance_16 rfl (lv_at hl 3 rfl) ?_
    refine lv_i2l (v := n.toInt64) X.1 X.2.1 d_W_tolerance_17 rfl ?_
    refine lv_lconst (v := 0) X.1 X.2.1 d_W_tolerance_18 (by decide) ?_
    refine lv_ldc2 X.1 X.2.1 X.2.2.2.1 (X.2.2.2.2 _ m_315) d_W_tolerance_19 ?_
    refine hm_callR (ct_runS (n := 3) X hK hY (k_W_isWithin l D A G (wS G S ω) n.toInt64 0 100) m_119 m_117 m_118 m_1 (by decide +kernel) ⟨Nat.le_of_ble_eq_true rfl, Nat.le_of_ble_eq_true rfl⟩ ⟨rfl, rfl⟩ rfl hl.1 rfl (Nat.le_of_ble_eq_true rfl) d_W_tolerance_22 ⟨Nat.le_of_ble_eq_true rfl, Nat.le_of_ble_eq_true rfl⟩) (fun v hv => ?_)
    subst hv
    refine W.eq (g2 := F0 m 25 ls [.int (b2 (0 ≤ n.toInt64 ∧ n.toInt64 ≤ 100))]) rfl ?_
    refine lv_if_ne (tgt := 31) X.1 X.2.1 d_W_tolerance_25 (by decide) (fun c2 => ?_) (fun c2 => ?_)
    · have c2 : (0 ≤ n.toInt64 ∧ n.toInt64 ≤ 100) := Classical.byContradiction (fun z => c2 (b2_0.mpr z))
      refine lv_aload_nN X.1 X.2.1 d_W_tolerance_31 rfl (lv_at hl 0 rfl) ?_
      refine lv_ifnonnullN X.1 X.2.1 d_W_tolerance_32 ?_
      refine lv_aload_n X.1 X.2.1 d_W_tolerance_35 rfl (lv_at hl 1 rfl) ?_
      refine lv_iload_n X.1 X.2.1 d_W_tolerance_36 rfl (lv_at hl 3 rfl) ?_
      refine hm_put ⟨X, hK.1⟩ hY w0 6 rfl (Nat.le_of_ble_eq_true rfl) (Nat.le_of_ble_eq_true rfl) hu_W ty_W ty_W_ok nm_W m_80 (fun _ h => h) rfl rfl rfl d_W_tolerance_37 (fun H locs hY => ?_)
      have hY : hm_Y D cls A s.heap (wS G (S.sI 2 0 0 n) ω) H locs := by rw [← fo_W_6 (S := S) (v := n)]; exact hY
      refine lv_goto (tgt := 48) X.1 X.2.1 d_W_tolerance_40 (by decide) ?_
      refine lv_iconst (v := 1) X.1 X.2.1 d_W_tolerance_48 (by decide) ?_
      exact en_iW X hY hr hlocks d_W_tolerance_49 (⟨by rw [toN, if_pos c1, if_pos c2], by rw [toN, if_pos c1, if_pos c2]⟩)
    · have c2 : ¬ (0 ≤ n.toInt64 ∧ n.toInt64 ≤ 100) := b2_0.mp c2
      refine lv_bipush (v := (-2)) X.1 X.2.1 d_W_tolerance_28 (by decide) ?_
      exact en_iW X hY hr hlocks d_W_tolerance_30 (⟨by rw [toN, if_pos c1, if_neg c2], by rw [toN, if_pos c1, if_neg c2]⟩)
  · refine lv_iconst (v := (-1)) X.1 X.2.1 d_W_tolerance_14 (by decide) ?_
    exact en_iW X hY hr hlocks d_W_tolerance_15 (⟨by rw [toN, if_neg c1], by rw [toN, if_neg c1]⟩)

set_option maxHeartbeats 4000000 in
set_option maxRecDepth 100000 in
theorem k_W_answer (l : Launch) (D : va_G) (A : Nat → Prop) (G : Nat → Nat) (S : cS) (ω : hm_T) (h20 : S.C 0 0 ≤ 20) (hall : ∀ i, i < S.C 0 0 → S.C 1 i ≤ 10) (st : Int32) (v0 t : Int64) : Met l y_W_answer (.code y_W_answer c_W_answer 6 (some .int) :: wsA) { frames := 6, cells := 0, slots := 0, locals := 127 } (va_Pc [.ref (S.ad 0 0 0), .int st, .long v0, .long t] (ctU D A G (wS G S ω))) (hm_Q D cls A (fun v w => v = some (.int (an S st v0 t).1) ∧ w = wS G (an S st v0 t).2 ω)) 0 0 A := by
  refine ct_met (by decide) (Nat.le_of_ble_eq_true rfl) ?_
  rintro p e s m below meth c ls X hr hlocks hnm hl ⟨hB, hK⟩
  have hl : lv_has ls 6 [(0, .ref (S.ad 0 0 0)), (1, .int st), (2, .long v0), (4, .long t)] := hl
  have hY : hm_Y D cls A s.heap (wS G S ω) s.heap [] := hm_Y.start hB hK.2.2.2
  refine lv_iload_n X.1 X.2.1 d_W_answer_0 rfl (lv_at hl 1 rfl) ?_
  refine lv_i2l (v := st.toInt64) X.1 X.2.1 d_W_answer_1 rfl ?_
  refine lv_lconst (v := 0) X.1 X.2.1 d_W_answer_2 (by decide) ?_
  refine lv_ldc2 X.1 X.2.1 X.2.2.2.1 (X.2.2.2.2 _ m_320) d_W_answer_3 ?_
  refine hm_callR (ct_runS (n := 3) X hK hY (k_W_isWithin l D A G (wS G S ω) st.toInt64 0 3) m_119 m_117 m_118 m_1 (by decide +kernel) ⟨Nat.le_of_ble_eq_true rfl, Nat.le_of_ble_eq_true rfl⟩ ⟨rfl, rfl⟩ rfl hl.1 rfl (Nat.le_of_ble_eq_true rfl) d_W_answer_6 ⟨Nat.le_of_ble_eq_true rfl, Nat.le_of_ble_eq_true rfl⟩) (fun v hv => ?_)
  subst hv
  refine W.eq (g2 := F0 m 9 ls [.int (b2 (0 ≤ st.toInt64 ∧ st.toInt64 ≤ 3))]) rfl ?_
  refine lv_if_eq (tgt := 21) X.1 X.2.1 d_W_answer_9 (by decide) (fun c1 => ?_) (fun c1 => ?_)
  · have c1 : ¬ (0 ≤ st.toInt64 ∧ st.toInt64 ≤ 3) := b2_0.mp c1
    refine lv_bipush (v := (-2)) X.1 X.2.1 d_W_answer_21 (by decide) ?_
    exact en_iW X hY hr hlocks d_W_answer_23 (⟨by rw [an, if_neg c1], by rw [an, if_neg c1]⟩)
  · have c1 : (0 ≤ st.toInt64 ∧ st.toInt64 ≤ 3) := Classical.byContradiction (fun z => c1 (b2_0.mpr z))
    refine lv_aload_n X.1 X.2.1 d_W_answer_12 rfl (lv_at hl 0 rfl) ?_
    refine lv_lload X.1 X.2.1 d_W_answer_13 (lv_at hl 3 rfl) ?_
    refine hm_callR (ct_runV (n := 1) X hK hY (k_W_isTime l D A G S ω t) m_252 m_249 m_251 ms_W_isTime m_1 (by decide +kernel) ⟨Nat.le_of_ble_eq_true rfl, Nat.le_of_ble_eq_true rfl⟩ ⟨rfl, rfl⟩ (hm_recv ⟨X, hK.1⟩ hY w0 rfl) rfl hl.1 rfl (Nat.le_of_ble_eq_true rfl) d_W_answer_15 ⟨Nat.le_of_ble_eq_true rfl, Nat.le_of_ble_eq_true rfl⟩) (fun v hv => ?_)
    subst hv
    refine W.eq (g2 := F0 m 18 ls [.int (b2 (isT S t))]) rfl ?_
    refine lv_if_ne (tgt := 24) X.1 X.2.1 d_W_answer_18 (by decide) (fun c2 => ?_) (fun c2 => ?_)
    · have c2 : (isT S t) := Classical.byContradiction (fun z => c2 (b2_0.mpr z))
      refine lv_aload_n X.1 X.2.1 d_W_answer_24 rfl (lv_at hl 0 rfl) ?_
      refine lv_lload X.1 X.2.1 d_W_answer_25 (lv_at hl 3 rfl) ?_
      refine hm_put ⟨X, hK.1⟩ hY w0 4 rfl (Nat.le_of_ble_eq_true rfl) (Nat.le_of_ble_eq_true rfl) hu_W ty_W ty_W_ok nm_W m_78 (fun _ h => h) rfl rfl rfl d_W_answer_27 (fun H locs hY => ?_)
      have hY : hm_Y D cls A s.heap (wS G (S.sJ 0 0 0 t) ω) H locs := by rw [← fo_W_4 (S := S) (v := t)]; exact hY
      refine lv_aload_n X.1 X.2.1 d_W_answer_30 rfl (lv_at hl 0 rfl) ?_
      refine hm_get ⟨X, hK.1⟩ hY w0 1 (v := .ref (S.ad 3 0 0)) rfl rfl (Nat.le_of_ble_eq_true rfl) hu_W m_75 (fun _ h => h) d_W_answer_31 ?_
      refine lv_iload_n X.1 X.2.1 d_W_answer_34 rfl (lv_at hl 1 rfl) ?_
      refine lv_lload_n X.1 X.2.1 d_W_answer_35 rfl (lv_at hl 2 rfl) ?_
      refine lv_lload X.1 X.2.1 d_W_answer_36 (lv_at hl 3 rfl) ?_
      refine hm_callR (ct_runV (n := 3) X hK hY (k_Q_isRight l D A G (S.sJ 0 0 0 t) ω st v0 t) m_324 m_321 m_322 m_323 m_5 (by decide +kernel) ⟨Nat.le_of_ble_eq_true rfl, Nat.le_of_ble_eq_true rfl⟩ ⟨rfl, rfl⟩ (hm_recv ⟨X, hK.1⟩ hY w3 rfl) rfl hl.1 rfl (Nat.le_of_ble_eq_true rfl) d_W_answer_38 ⟨Nat.le_of_ble_eq_true rfl, Nat.le_of_ble_eq_true rfl⟩) (fun v hv => ?_)
      subst hv
      refine W.eq (g2 := F0 m 41 ls [.int (b2 (rt (S.sJ 0 0 0 t) st v0 t))]) rfl ?_
      refine lv_if_eq (tgt := 56) X.1 X.2.1 d_W_answer_41 (by decide) (fun c3 => ?_) (fun c3 => ?_)
      · have c3 : ¬ (rt (S.sJ 0 0 0 t) st v0 t) := b2_0.mp c3
        refine lv_aload_n X.1 X.2.1 d_W_answer_56 rfl (lv_at hl 0 rfl) ?_
        refine hm_get ⟨X, hK.1⟩ hY w0 1 (v := .ref (S.ad 3 0 0)) rfl rfl (Nat.le_of_ble_eq_true rfl) hu_W m_75 (fun _ h => h) d_W_answer_57 ?_
        refine lv_lload X.1 X.2.1 d_W_answer_60 (lv_at hl 3 rfl) ?_
        refine hm_call (ct_runV (n := 1) X hK hY (k_Q_takeWrong l D A G (S.sJ 0 0 0 t) ω t) m_344 m_341 m_342 m_343 m_5 (by decide +kernel) ⟨Nat.le_of_ble_eq_true rfl, Nat.le_of_ble_eq_true rfl⟩ ⟨rfl, rfl⟩ (hm_recv ⟨X, hK.1⟩ hY w3 rfl) rfl hl.1 rfl (Nat.le_of_ble_eq_true rfl) d_W_answer_62 ⟨Nat.le_of_ble_eq_true rfl, Nat.le_of_ble_eq_true rfl⟩) hY (fun v w1 H locs hp hY => ?_)
        obtain ⟨rfl, rfl⟩ := hp
        have hY : hm_Y D cls A s.heap (wS G ((((S.sJ 0 0 0 t).sI 9 0 0 (S.I 9 0 0 + 1)).sI 8 0 0 0).sJ 2 0 0 t) ω) H locs := hY
        refine W.eq (g2 := F0 m 65 ls []) rfl ?_
        refine lv_aload_n X.1 X.2.1 d_W_answer_65 rfl (lv_at hl 0 rfl) ?_
        refine hm_get ⟨X, hK.1⟩ hY w0 1 (v := .ref (S.ad 3 0 0)) rfl rfl (Nat.le_of_ble_eq_true rfl) hu_W m_75 (fun _ h => h) d_W_answer_66 ?_
        refine hm_get ⟨X, hK.1⟩ hY w3 2 (v := .int (S.I 9 0 0 + 1)) rfl rfl (Nat.le_of_ble_eq_true rfl) hu_Q m_63 (fun _ h => h) d_W_answer_69 ?_
        refine lv_bipush (v := 8) X.1 X.2.1 d_W_answer_72 (by decide) ?_
        refine lv_icmp_lt (tgt := 82) X.1 X.2.1 d_W_answer_74 (by decide) (fun c4 => ?_) (fun c4 => ?_)
        · refine lv_iconst (v := 0) X.1 X.2.1 d_W_answer_82 (by decide) ?_
          exact en_iW X hY hr hlocks d_W_answer_83 (⟨by rw [an, if_pos c1, if_pos c2, if_neg c3, if_pos c4], by rw [an, if_pos c1, if_pos c2, if_neg c3, if_pos c4]⟩)
        · refine lv_aload_n X.1 X.2.1 d_W_answer_77 rfl (lv_at hl 0 rfl) ?_
          refine lv_iconst (v := 2) X.1 X.2.1 d_W_answer_78 (by decide) ?_
          refine hm_call (ct_runV (n := 1) X hK hY (k_W_restart l D A G ((((S.sJ 0 0 0 t).sI 9 0 0 (S.I 9 0 0 + 1)).sI 8 0 0 0).sJ 2 0 0 t) ω h20 hall 2) m_298 m_295 m_297 ms_W_restart m_1 (by decide +kernel) ⟨Nat.le_of_ble_eq_true rfl, Nat.le_of_ble_eq_true rfl⟩ ⟨rfl, rfl⟩ (hm_recv ⟨X, hK.1⟩ hY w0 rfl) rfl hl.1 rfl (Nat.le_of_ble_eq_true rfl) d_W_answer_79 ⟨Nat.le_of_ble_eq_true rfl, Nat.le_of_ble_eq_true rfl⟩) hY (fun v w1 H locs hp hY => ?_)
          obtain ⟨rfl, rfl⟩ := hp
          refine W.eq (g2 := F0 m 82 ls []) rfl ?_
          obtain ⟨E5, hE5⟩ : ∃ z, z = rS ((((S.sJ 0 0 0 t).sI 9 0 0 (S.I 9 0 0 + 1)).sI 8 0 0 0).sJ 2 0 0 t) 2 := ⟨_, rfl⟩
          rw [← hE5] at hY
          have hAE5 : E5.ad = S.ad := by rw [hE5]; exact (rS_k ((((S.sJ 0 0 0 t).sI 9 0 0 (S.I 9 0 0 + 1)).sI 8 0 0 0).sJ 2 0 0 t) 2).2
          have hCE5 : E5.C = S.C := by rw [hE5]; exact (rS_k ((((S.sJ 0 0 0 t).sI 9 0 0 (S.I 9 0 0 + 1)).sI 8 0 0 0).sJ 2 0 0 t) 2).1
          have hl : lv_has ls 6 [(0, .ref (E5.ad 0 0 0)), (1, .int st), (2, .long v0), (4, .long t)] := by rw [hAE5]; exact hl
          refine lv_iconst (v := 0) X.1 X.2.1 d_W_answer_82 (by decide) ?_
          exact en_iW X hY hr hlocks d_W_answer_83 (⟨by first | (rw [hE5]; rw [an, if_pos c1, if_pos c2, if_neg c3, if_neg c4]) | rw [an, if_pos c1, if_pos c2, if_neg c3, if_neg c4], by first | (rw [hE5]; rw [an, if_pos c1, if_pos c2, if_neg c3, if_neg c4]) | rw [an, if_pos c1, if_pos c2, if_neg c3, if_neg c4]⟩)
      · have c3 : (rt (S.sJ 0 0 0 t) st v0 t) := Classical.byContradiction (fun z => c3 (b2_0.mpr z))
        refine lv_aload_n X.1 X.2.1 d_W_answer_44 rfl (lv_at hl 0 rfl) ?_
        refine hm_get ⟨X, hK.1⟩ hY w0 1 (v := .ref (S.ad 3 0 0)) rfl rfl (Nat.le_of_ble_eq_true rfl) hu_W m_75 (fun _ h => h) d_W_answer_45 ?_
        refine lv_iload_n X.1 X.2.1 d_W_answer_48 rfl (lv_at hl 1 rfl) ?_
        refine lv_lload X.1 X.2.1 d_W_answer_49 (lv_at hl 3 rfl) ?_
        refine hm_call (ct_runV (n := 2) X hK hY (k_Q_takeRight l D A G (S.sJ 0 0 0 t) ω st t) m_339 m_336 m_337 m_338 m_5 (by decide +kernel) ⟨Nat.le_of_ble_eq_true rfl, Nat.le_of_ble_eq_true rfl⟩ ⟨rfl, rfl⟩ (hm_recv ⟨X, hK.1⟩ hY w3 rfl) rfl hl.1 rfl (Nat.le_of_ble_eq_true rfl) d_W_answer_51 ⟨Nat.le_of_ble_eq_true rfl, Nat.le_of_ble_eq_true rfl⟩) hY (fun v w1 H locs hp hY => ?_)
        obtain ⟨rfl, rfl⟩ := hp
        refine W.eq (g2 := F0 m 54 ls []) rfl ?_
        obtain ⟨E6, hE6⟩ : ∃ z, z = tR (S.sJ 0 0 0 t) st t := ⟨_, rfl⟩
        rw [← hE6] at hY
        have hAE6 : E6.ad = S.ad := by rw [hE6]; exact (tR_k (S.sJ 0 0 0 t) st t).2
        have hCE6 : E6.C = S.C := by rw [hE6]; exact (tR_k (S.sJ 0 0 0 t) st t).1
        have hl : lv_has ls 6 [(0, .ref (E6.ad 0 0 0)), (1, .int st), (2, .long v0), (4, .long t)] := by rw [hAE6]; exact hl
        refine lv_iconst (v := 1) X.1 X.2.1 d_W_answer_54 (by decide) ?_
        exact en_iW X hY hr hlocks d_W_answer_55 (⟨by first | (rw [hE6]; rw [an, if_pos c1, if_pos c2, if_pos c3]) | rw [an, if_pos c1, if_pos c2, if_pos c3], by first | (rw [hE6]; rw [an, if_pos c1, if_pos c2, if_pos c3]) | rw [an, if_pos c1, if_pos c2, if_pos c3]⟩)
    · have c2 : ¬ (isT S t) := b2_0.mp c2
      refine lv_bipush (v := (-2)) X.1 X.2.1 d_W_answer_21 (by decide) ?_
      exact en_iW X hY hr hlocks d_W_answer_23 (⟨by rw [an, if_pos c1, if_neg c2], by rw [an, if_pos c1, if_neg c2]⟩)

set_option maxHeartbeats 4000000 in
set_option maxRecDepth 100000 in
theorem k_W_mode (l : Launch) (D : va_G) (A : Nat → Prop) (G : Nat → Nat) (S : cS) (ω : hm_T) (h20 : S.C 0 0 ≤ 20) (hall : ∀ i, i < S.C 0 0 → S.C 1 i ≤ 10) (x : Int32) : Met l y_W_mode (.code y_W_mode c_W_mode 4 (some .int) :: wsA) { frames := 4, cells := 0, slots := 0, locals := 85 } (va_Pc [.ref (S.ad 0 0 0), .int x] (ctU D A G (wS G S ω))) (hm_Q D cls A (fun v w => v = some (.int (md S x).1) ∧ w = wS G (md S x).2 ω)) 0 0 A := by
  refine ct_met (by decide) (Nat.le_of_ble_eq_true rfl) ?_
  rintro p e s m below meth c ls X hr hlocks hnm hl ⟨hB, hK⟩
  have hl : lv_has ls 4 [(0, .ref (S.ad 0 0 0)), (1, .int x)] := hl
  have hY : hm_Y D cls A s.heap (wS G S ω) s.heap [] := hm_Y.start hB hK.2.2.2
  refine lv_iload_n X.1 X.2.1 d_W_mode_0 rfl (lv_at hl 1 rfl) ?_
  refine lv_i2l (v := x.toInt64) X.1 X.2.1 d_W_mode_1 rfl ?_
  refine lv_lconst (v := 0) X.1 X.2.1 d_W_mode_2 (by decide) ?_
  refine lv_ldc2 X.1 X.2.1 X.2.2.2.1 (X.2.2.2.2 _ m_320) d_W_mode_3 ?_
  refine hm_callR (ct_runS (n := 3) X hK hY (k_W_isWithin l D A G (wS G S ω) x.toInt64 0 3) m_119 m_117 m_118 m_1 (by decide +kernel) ⟨Nat.le_of_ble_eq_true rfl, Nat.le_of_ble_eq_true rfl⟩ ⟨rfl, rfl⟩ rfl hl.1 rfl (Nat.le_of_ble_eq_true rfl) d_W_mode_6 ⟨Nat.le_of_ble_eq_true rfl, Nat.le_of_ble_eq_true rfl⟩) (fun v hv => ?_)
  subst hv
  refine W.eq (g2 := F0 m 9 ls [.int (b2 (0 ≤ x.toInt64 ∧ x.toInt64 ≤ 3))]) rfl ?_
  refine lv_if_ne (tgt := 15) X.1 X.2.1 d_W_mode_9 (by decide) (fun c1 => ?_) (fun c1 => ?_)
  · have c1 : (0 ≤ x.toInt64 ∧ x.toInt64 ≤ 3) := Classical.byContradiction (fun z => c1 (b2_0.mpr z))
    refine lv_aload_n X.1 X.2.1 d_W_mode_15 rfl (lv_at hl 0 rfl) ?_
    refine hm_get ⟨X, hK.1⟩ hY w0 2 (v := .int (S.I 0 0 0)) rfl rfl (Nat.le_of_ble_eq_true rfl) hu_W m_76 (fun _ h => h) d_W_mode_16 ?_
    refine lv_istore_n (lv' := [(2, .int (S.I 0 0 0)), (0, .ref (S.ad 0 0 0)), (1, .int x)]) X.1 X.2.1 d_W_mode_19 rfl hl (by decide) rfl (fun ls hl => ?_)
    refine lv_iload_n X.1 X.2.1 d_W_mode_20 rfl (lv_at hl 2 rfl) ?_
    refine lv_iload_n X.1 X.2.1 d_W_mode_21 rfl (lv_at hl 0 rfl) ?_
    refine lv_icmp_eq (tgt := 63) X.1 X.2.1 d_W_mode_22 (by decide) (fun c2 => ?_) (fun c2 => ?_)
    · refine lv_iload_n X.1 X.2.1 d_W_mode_63 rfl (lv_at hl 0 rfl) ?_
      exact en_iW X hY hr hlocks d_W_mode_64 (⟨by rw [md, if_pos c1, if_pos c2], by rw [md, if_pos c1, if_pos c2]⟩)
    · refine lv_aload_n X.1 X.2.1 d_W_mode_25 rfl (lv_at hl 1 rfl) ?_
      refine lv_iload_n X.1 X.2.1 d_W_mode_26 rfl (lv_at hl 2 rfl) ?_
      refine hm_put ⟨X, hK.1⟩ hY w0 2 rfl (Nat.le_of_ble_eq_true rfl) (Nat.le_of_ble_eq_true rfl) hu_W ty_W ty_W_ok nm_W m_76 (fun _ h => h) rfl rfl rfl d_W_mode_27 (fun H locs hY => ?_)
      have hY : hm_Y D cls A s.heap (wS G (S.sI 0 0 0 x) ω) H locs := by rw [← fo_W_2 (S := S) (v := x)]; exact hY
      refine lv_iconst (v := 0) X.1 X.2.1 d_W_mode_30 (by decide) ?_
      refine lv_istore_n (lv' := [(3, .int 0), (2, .int (S.I 0 0 0)), (0, .ref (S.ad 0 0 0)), (1, .int x)]) X.1 X.2.1 d_W_mode_31 rfl hl (by decide) rfl (fun ls hl => ?_)
      have loop : ∀ (k j : Nat) (T : cS) (ls : Array Slot) (H : Heap) (locs : List Loc), j ≤ S.C 0 0 → S.C 0 0 < j + k → T = mdL (S.sI 0 0 0 x) j → T.C = S.C → hm_Y D cls A s.heap (wS G T ω) H locs → lv_has ls 4 [(3, .int (nI j)), (0, .ref (T.ad 0 0 0)), (1, .int x), (2, .int (S.I 0 0 0))] → W p l e { frames := 4, cells := 0, slots := 0, locals := 85 } s m (([.ref (S.ad 0 0 0), .int x] : List Value).toArray) below meth c H locs 0 0 (MQ below (hm_Q D cls A (fun v w => v = some (.int (md S x).1) ∧ w = wS G (md S x).2 ω)) (([.ref (S.ad 0 0 0), .int x] : List Value).toArray) s 0 0 A) (F0 m 32 ls []) := by
        intro k
        induction k with
        | zero => intro j T ls H locs hle hlt; omega
        | succ k ih =>
          intro j T ls H locs hle hlt hT hC hY hl
          refine lv_iload_n X.1 X.2.1 d_W_mode_32 rfl (lv_at hl 0 rfl) ?_
          refine lv_aload_n X.1 X.2.1 d_W_mode_33 rfl (lv_at hl 1 rfl) ?_
          refine hm_get ⟨X, hK.1⟩ hY w0 0 (v := .ref (T.ad 1 0 0)) rfl rfl (Nat.le_of_ble_eq_true rfl) hu_W m_74 (fun _ h => h) d_W_mode_34 ?_
          refine hm_callR (ct_runV (n := 0) X hK hY (k_size1 l D A G T ω) m_116 m_113 m_114 m_115 m_4 (by decide +kernel) ⟨Nat.le_of_ble_eq_true rfl, Nat.le_of_ble_eq_true rfl⟩ ⟨rfl, rfl⟩ (hm_recv ⟨X, hK.1⟩ hY w1 rfl) rfl hl.1 rfl (Nat.le_of_ble_eq_true rfl) d_W_mode_37 ⟨Nat.le_of_ble_eq_true rfl, Nat.le_of_ble_eq_true rfl⟩) (fun v hv => ?_)
          subst hv
          refine W.eq (g2 := F0 m 40 ls [.int (nI (T.C 0 0)), .int (nI j)]) rfl ?_
          have hn : T.C 0 0 = S.C 0 0 := by rw [hC]
          refine lv_icmp_ge (tgt := 63) X.1 X.2.1 d_W_mode_40 (by decide) (fun c0 => ?_) (fun c0 => ?_)
          · have hj : j = T.C 0 0 := by rcases Nat.lt_or_ge j (T.C 0 0) with q | q; exact absurd c0 (nI_ge q (by omega)); omega
            refine lv_iload_n X.1 X.2.1 d_W_mode_63 rfl (lv_at hl 3 rfl) ?_
            exact en_iW X hY hr hlocks d_W_mode_64 (⟨by rw [md, if_pos c1, if_neg c2], by rw [md, if_pos c1, if_neg c2, ← hn, ← hj, ← hT]⟩)
          · have hj : j < T.C 0 0 := by rcases Nat.lt_or_ge j (T.C 0 0) with q | q; exact q; exact absurd (nI_le q (by omega)) c0
            refine lv_aload_n X.1 X.2.1 d_W_mode_43 rfl (lv_at hl 1 rfl) ?_
            refine hm_get ⟨X, hK.1⟩ hY w0 0 (v := .ref (T.ad 1 0 0)) rfl rfl (Nat.le_of_ble_eq_true rfl) hu_W m_74 (fun _ h => h) d_W_mode_44 ?_
            refine lv_iload_n X.1 X.2.1 d_W_mode_47 rfl (lv_at hl 0 rfl) ?_
            refine hm_callR (ct_runV (n := 1) X hK hY (k_get1 l D A G T ω j hj (by rw [hC]; exact h20)) m_123 m_120 m_121 m_122 m_4 (by decide +kernel) ⟨Nat.le_of_ble_eq_true rfl, Nat.le_of_ble_eq_true rfl⟩ ⟨rfl, rfl⟩ (hm_recv ⟨X, hK.1⟩ hY w1 rfl) rfl hl.1 rfl (Nat.le_of_ble_eq_true rfl) d_W_mode_48 ⟨Nat.le_of_ble_eq_true rfl, Nat.le_of_ble_eq_true rfl⟩) (fun v hv => ?_)
            subst hv
            refine W.eq (g2 := F0 m 51 ls [.ref (T.ad 4 j 0)]) rfl ?_
            refine va_castY X.1 X.2.1 X.2.2.2.1 (X.2.2.2.2 _ m_134) hK.2.1.2.2.1 (hm_recv ⟨X, hK.1⟩ hY (w4 hj) rfl) d_W_mode_51 ?_
            refine hm_call (ct_runV (n := 0) X hK hY (k_P_forgetCourse l D A G T ω j hj (by rw [hC]; exact hall j (by omega))) m_306 m_349 m_304 m_305 m_11 (by decide +kernel) ⟨Nat.le_of_ble_eq_true rfl, Nat.le_of_ble_eq_true rfl⟩ ⟨rfl, rfl⟩ (hm_recv ⟨X, hK.1⟩ hY (w4 hj) rfl) rfl hl.1 rfl (Nat.le_of_ble_eq_true rfl) d_W_mode_54 ⟨Nat.le_of_ble_eq_true rfl, Nat.le_of_ble_eq_true rfl⟩) hY (fun v w1 H locs hp hY => ?_)
            obtain ⟨rfl, rfl⟩ := hp
            refine W.eq (g2 := F0 m 57 ls []) rfl ?_
            obtain ⟨E3, hE3⟩ : ∃ z, z = fC T j := ⟨_, rfl⟩
            rw [← hE3] at hY
            have hAE3 : E3.ad = T.ad := by rw [hE3]; exact (fC_k T j).2
            have hCE3 : E3.C = T.C := by rw [hE3]; exact (fC_k T j).1
            have hiE3 : j < E3.C 0 0 := by rw [hCE3]; exact hj
            have hl : lv_has ls 4 [(3, .int (nI j)), (0, .ref (E3.ad 0 0 0)), (1, .int x), (2, .int (S.I 0 0 0))] := by rw [hAE3]; exact hl
            refine lv_iinc (v := nI (j + 1)) (lv' := [(3, .int (nI (j + 1))), (0, .ref (E3.ad 0 0 0)), (1, .int x), (2, .int (S.I 0 0 0))]) X.1 X.2.1 d_W_mode_57 hl (k := 0) rfl (nI_1 j) (by decide) rfl (fun ls hl => ?_)
            refine lv_goto (tgt := 32) X.1 X.2.1 d_W_mode_60 (by decide) ?_
            exact ih (j + 1) E3 _ _ _ (by omega) (by omega) (by rw [hE3, show mdL (S.sI 0 0 0 x) (j + 1) = fC (mdL (S.sI 0 0 0 x) j) j from rfl, ← hT]) (hCE3.trans hC) hY (lv_sub hl [0, 1, 2, 3] rfl)
      exact loop (S.C 0 0 + 1) 0 (S.sI 0 0 0 x) ls _ _ (Nat.zero_le _) (by omega) rfl rfl hY (lv_sub hl [0, 2, 3, 1] rfl)
  · have c1 : ¬ (0 ≤ x.toInt64 ∧ x.toInt64 ≤ 3) := b2_0.mp c1
    refine lv_bipush (v := (-2)) X.1 X.2.1 d_W_mode_12 (by decide) ?_
    exact en_iW X hY hr hlocks d_W_mode_14 (⟨by rw [md, if_neg c1], by rw [md, if_neg c1]⟩)

set_option maxHeartbeats 4000000 in
set_option maxRecDepth 100000 in
theorem k_W_reset (l : Launch) (D : va_G) (A : Nat → Prop) (G : Nat → Nat) (S : cS) (ω : hm_T) (h20 : S.C 0 0 ≤ 20) (hall : ∀ i, i < S.C 0 0 → S.C 1 i ≤ 10) (x : Int32) : Met l y_W_reset (.code y_W_reset c_W_reset 2 (some .int) :: wsA) { frames := 6, cells := 0, slots := 0, locals := 127 } (va_Pc [.ref (S.ad 0 0 0), .int x] (ctU D A G (wS G S ω))) (hm_Q D cls A (fun v w => v = some (.int (rst S x).1) ∧ w = wS G (rst S x).2 ω)) 0 0 A := by
  refine ct_met (by decide) (Nat.le_of_ble_eq_true rfl) ?_
  rintro p e s m below meth c ls X hr hlocks hnm hl ⟨hB, hK⟩
  have hl : lv_has ls 2 [(0, .ref (S.ad 0 0 0)), (1, .int x)] := hl
  have hY : hm_Y D cls A s.heap (wS G S ω) s.heap [] := hm_Y.start hB hK.2.2.2
  refine lv_iload_n X.1 X.2.1 d_W_reset_0 rfl (lv_at hl 1 rfl) ?_
  by_cases c0 : x = 0
  · refine lv_tableIn (tgt := 40) X.1 X.2.1 d_W_reset_1 (by rw [c0]; decide) (by rw [c0]; decide) (off := 39) (by rw [c0]; rfl) (by decide) ?_
    refine lv_aload_n X.1 X.2.1 d_W_reset_40 rfl (lv_at hl 0 rfl) ?_
    refine lv_iconst (v := 4) X.1 X.2.1 d_W_reset_41 (by decide) ?_
    refine hm_call (ct_runV (n := 1) X hK hY (k_W_restart l D A G S ω h20 hall 4) m_298 m_295 m_297 ms_W_restart m_1 (by decide +kernel) ⟨Nat.le_of_ble_eq_true rfl, Nat.le_of_ble_eq_true rfl⟩ ⟨rfl, rfl⟩ (hm_recv ⟨X, hK.1⟩ hY w0 rfl) rfl hl.1 rfl (Nat.le_of_ble_eq_true rfl) d_W_reset_42 ⟨Nat.le_of_ble_eq_true rfl, Nat.le_of_ble_eq_true rfl⟩) hY (fun v w1 H locs hp hY => ?_)
    obtain ⟨rfl, rfl⟩ := hp
    refine W.eq (g2 := F0 m 45 ls []) rfl ?_
    obtain ⟨E1, hE1⟩ : ∃ z, z = rS S 4 := ⟨_, rfl⟩
    rw [← hE1] at hY
    have hAE1 : E1.ad = S.ad := by rw [hE1]; exact (rS_k S 4).2
    have hCE1 : E1.C = S.C := by rw [hE1]; exact (rS_k S 4).1
    have hl : lv_has ls 2 [(0, .ref (E1.ad 0 0 0)), (1, .int x)] := by rw [hAE1]; exact hl
    refine lv_aload_n X.1 X.2.1 d_W_reset_45 rfl (lv_at hl 0 rfl) ?_
    refine hm_get ⟨X, hK.1⟩ hY w0 8 (v := .int (E1.I 4 0 0)) rfl rfl (Nat.le_of_ble_eq_true rfl) hu_W m_82 (fun _ h => h) d_W_reset_46 ?_
    exact en_iW X hY hr hlocks d_W_reset_49 (⟨by first | (rw [hE1]; rw [rst, if_pos c0]) | rw [rst, if_pos c0], by first | (rw [hE1]; rw [rst, if_pos c0]) | rw [rst, if_pos c0]⟩)
  by_cases c1 : x = 1
  · refine lv_tableIn (tgt := 50) X.1 X.2.1 d_W_reset_1 (by rw [c1]; decide) (by rw [c1]; decide) (off := 49) (by rw [c1]; rfl) (by decide) ?_
    refine lv_aload_n X.1 X.2.1 d_W_reset_50 rfl (lv_at hl 0 rfl) ?_
    refine hm_get ⟨X, hK.1⟩ hY w0 8 (v := .int (S.I 4 0 0)) rfl rfl (Nat.le_of_ble_eq_true rfl) hu_W m_82 (fun _ h => h) d_W_reset_51 ?_
    exact en_iW X hY hr hlocks d_W_reset_54 (⟨by rw [rst, if_neg c0, if_pos c1], by rw [rst, if_neg c0, if_pos c1]⟩)
  by_cases c2 : x = 2
  · refine lv_tableIn (tgt := 55) X.1 X.2.1 d_W_reset_1 (by rw [c2]; decide) (by rw [c2]; decide) (off := 54) (by rw [c2]; rfl) (by decide) ?_
    refine lv_aload_n X.1 X.2.1 d_W_reset_55 rfl (lv_at hl 0 rfl) ?_
    refine hm_get ⟨X, hK.1⟩ hY w0 9 (v := .int (S.I 5 0 0)) rfl rfl (Nat.le_of_ble_eq_true rfl) hu_W m_83 (fun _ h => h) d_W_reset_56 ?_
    exact en_iW X hY hr hlocks d_W_reset_59 (⟨by rw [rst, if_neg c0, if_neg c1, if_pos c2], by rw [rst, if_neg c0, if_neg c1, if_pos c2]⟩)
  by_cases c3 : x = 3
  · refine lv_tableIn (tgt := 60) X.1 X.2.1 d_W_reset_1 (by rw [c3]; decide) (by rw [c3]; decide) (off := 59) (by rw [c3]; rfl) (by decide) ?_
    refine lv_aload_n X.1 X.2.1 d_W_reset_60 rfl (lv_at hl 0 rfl) ?_
    refine hm_get ⟨X, hK.1⟩ hY w0 1 (v := .ref (S.ad 3 0 0)) rfl rfl (Nat.le_of_ble_eq_true rfl) hu_W m_75 (fun _ h => h) d_W_reset_61 ?_
    refine hm_get ⟨X, hK.1⟩ hY w3 0 (v := .int (S.I 7 0 0)) rfl rfl (Nat.le_of_ble_eq_true rfl) hu_Q m_60 (fun _ h => h) d_W_reset_64 ?_
    exact en_iW X hY hr hlocks d_W_reset_67 (⟨by rw [rst, if_neg c0, if_neg c1, if_neg c2, if_pos c3], by rw [rst, if_neg c0, if_neg c1, if_neg c2, if_pos c3]⟩)
  by_cases c4 : x = 4
  · refine lv_tableIn (tgt := 68) X.1 X.2.1 d_W_reset_1 (by rw [c4]; decide) (by rw [c4]; decide) (off := 67) (by rw [c4]; rfl) (by decide) ?_
    refine lv_aload_n X.1 X.2.1 d_W_reset_68 rfl (lv_at hl 0 rfl) ?_
    refine hm_get ⟨X, hK.1⟩ hY w0 1 (v := .ref (S.ad 3 0 0)) rfl rfl (Nat.le_of_ble_eq_true rfl) hu_W m_75 (fun _ h => h) d_W_reset_69 ?_
    refine hm_get ⟨X, hK.1⟩ hY w3 2 (v := .int (S.I 9 0 0)) rfl rfl (Nat.le_of_ble_eq_true rfl) hu_Q m_63 (fun _ h => h) d_W_reset_72 ?_
    exact en_iW X hY hr hlocks d_W_reset_75 (⟨by rw [rst, if_neg c0, if_neg c1, if_neg c2, if_neg c3, if_pos c4], by rw [rst, if_neg c0, if_neg c1, if_neg c2, if_neg c3, if_pos c4]⟩)
  by_cases c5 : x = 5
  · refine lv_tableIn (tgt := 76) X.1 X.2.1 d_W_reset_1 (by rw [c5]; decide) (by rw [c5]; decide) (off := 75) (by rw [c5]; rfl) (by decide) ?_
    refine lv_aload_n X.1 X.2.1 d_W_reset_76 rfl (lv_at hl 0 rfl) ?_
    refine hm_get ⟨X, hK.1⟩ hY w0 3 (v := .int (S.I 1 0 0)) rfl rfl (Nat.le_of_ble_eq_true rfl) hu_W m_77 (fun _ h => h) d_W_reset_77 ?_
    exact en_iW X hY hr hlocks d_W_reset_80 (⟨by rw [rst, if_neg c0, if_neg c1, if_neg c2, if_neg c3, if_neg c4, if_pos c5], by rw [rst, if_neg c0, if_neg c1, if_neg c2, if_neg c3, if_neg c4, if_pos c5]⟩)
  have e0 := lv_neT (a := 0) c0 rfl
  have e1 := lv_neT (a := 1) c1 rfl
  have e2 := lv_neT (a := 2) c2 rfl
  have e3 := lv_neT (a := 3) c3 rfl
  have e4 := lv_neT (a := 4) c4 rfl
  have e5 := lv_neT (a := 5) c5 rfl
  refine lv_tableOut (tgt := 81) X.1 X.2.1 d_W_reset_1 (by omega) (by decide) ?_
  refine lv_bipush (v := (-2)) X.1 X.2.1 d_W_reset_81 (by decide) ?_
  exact en_iW X hY hr hlocks d_W_reset_83 (⟨by rw [rst, if_neg c0, if_neg c1, if_neg c2, if_neg c3, if_neg c4, if_neg c5], by rw [rst, if_neg c0, if_neg c1, if_neg c2, if_neg c3, if_neg c4, if_neg c5]⟩)

set_option maxHeartbeats 4000000 in
set_option maxRecDepth 100000 in
theorem k_W_outer (l : Launch) (D : va_G) (A : Nat → Prop) (G : Nat → Nat) (S : cS) (ω : hm_T) (h20 : S.C 0 0 ≤ 20) (hall : ∀ i, i < S.C 0 0 → S.C 1 i ≤ 10) (t : Int64) : Met l y_W_outer (.code y_W_outer c_W_outer 3 (some .int) :: wsA) { frames := 6, cells := 0, slots := 0, locals := 127 } (va_Pc [.ref (S.ad 0 0 0), .long t] (ctU D A G (wS G S ω))) (hm_Q D cls A (fun v w => v = some (.int (ou S t).1) ∧ w = wS G (ou S t).2 ω)) 0 0 A := by
  refine ct_met (by decide) (Nat.le_of_ble_eq_true rfl) ?_
  rintro p e s m below meth c ls X hr hlocks hnm hl ⟨hB, hK⟩
  have hl : lv_has ls 3 [(0, .ref (S.ad 0 0 0)), (1, .long t)] := hl
  have hY : hm_Y D cls A s.heap (wS G S ω) s.heap [] := hm_Y.start hB hK.2.2.2
  refine lv_aload_n X.1 X.2.1 d_W_outer_0 rfl (lv_at hl 0 rfl) ?_
  refine lv_lload_n X.1 X.2.1 d_W_outer_1 rfl (lv_at hl 1 rfl) ?_
  refine hm_callR (ct_runV (n := 1) X hK hY (k_W_isTime l D A G S ω t) m_252 m_249 m_251 ms_W_isTime m_1 (by decide +kernel) ⟨Nat.le_of_ble_eq_true rfl, Nat.le_of_ble_eq_true rfl⟩ ⟨rfl, rfl⟩ (hm_recv ⟨X, hK.1⟩ hY w0 rfl) rfl hl.1 rfl (Nat.le_of_ble_eq_true rfl) d_W_outer_2 ⟨Nat.le_of_ble_eq_true rfl, Nat.le_of_ble_eq_true rfl⟩) (fun v hv => ?_)
  subst hv
  refine W.eq (g2 := F0 m 5 ls [.int (b2 (isT S t))]) rfl ?_
  refine lv_if_ne (tgt := 11) X.1 X.2.1 d_W_outer_5 (by decide) (fun c1 => ?_) (fun c1 => ?_)
  · have c1 : (isT S t) := Classical.byContradiction (fun z => c1 (b2_0.mpr z))
    refine lv_aload_n X.1 X.2.1 d_W_outer_11 rfl (lv_at hl 0 rfl) ?_
    refine lv_lload_n X.1 X.2.1 d_W_outer_12 rfl (lv_at hl 1 rfl) ?_
    refine hm_put ⟨X, hK.1⟩ hY w0 4 rfl (Nat.le_of_ble_eq_true rfl) (Nat.le_of_ble_eq_true rfl) hu_W ty_W ty_W_ok nm_W m_78 (fun _ h => h) rfl rfl rfl d_W_outer_13 (fun H locs hY => ?_)
    have hY : hm_Y D cls A s.heap (wS G (S.sJ 0 0 0 t) ω) H locs := by rw [← fo_W_4 (S := S) (v := t)]; exact hY
    refine lv_lload_n X.1 X.2.1 d_W_outer_16 rfl (lv_at hl 1 rfl) ?_
    refine lv_aload_n X.1 X.2.1 d_W_outer_17 rfl (lv_at hl 0 rfl) ?_
    refine hm_get ⟨X, hK.1⟩ hY w0 5 (v := .long (S.J 1 0 0)) rfl rfl (Nat.le_of_ble_eq_true rfl) hu_W m_79 (fun _ h => h) d_W_outer_18 ?_
    refine lv_lsub X.1 X.2.1 d_W_outer_21 ?_
    refine lv_ldc2 X.1 X.2.1 X.2.2.2.1 (X.2.2.2.2 _ m_315) d_W_outer_22 ?_
    refine lc_le (tgt := 36) X d_W_outer_25 d_W_outer_26 (by decide) (fun c2 => ?_) (fun c2 => ?_)
    · refine lv_aload_n X.1 X.2.1 d_W_outer_36 rfl (lv_at hl 0 rfl) ?_
      refine lv_lload_n X.1 X.2.1 d_W_outer_37 rfl (lv_at hl 1 rfl) ?_
      refine hm_put ⟨X, hK.1⟩ hY w0 5 rfl (Nat.le_of_ble_eq_true rfl) (Nat.le_of_ble_eq_true rfl) hu_W ty_W ty_W_ok nm_W m_79 (fun _ h => h) rfl rfl rfl d_W_outer_38 (fun H locs hY => ?_)
      have hY : hm_Y D cls A s.heap (wS G ((S.sJ 0 0 0 t).sJ 1 0 0 t) ω) H locs := by rw [← fo_W_5 (S := (S.sJ 0 0 0 t)) (v := t)]; exact hY
      refine lv_iconst (v := 1) X.1 X.2.1 d_W_outer_41 (by decide) ?_
      exact en_iW X hY hr hlocks d_W_outer_42 (⟨by rw [ou, if_pos c1, if_pos c2], by rw [ou, if_pos c1, if_pos c2]⟩)
    · refine lv_aload_n X.1 X.2.1 d_W_outer_29 rfl (lv_at hl 0 rfl) ?_
      refine lv_iconst (v := 3) X.1 X.2.1 d_W_outer_30 (by decide) ?_
      refine hm_call (ct_runV (n := 1) X hK hY (k_W_restart l D A G (S.sJ 0 0 0 t) ω h20 hall 3) m_298 m_295 m_297 ms_W_restart m_1 (by decide +kernel) ⟨Nat.le_of_ble_eq_true rfl, Nat.le_of_ble_eq_true rfl⟩ ⟨rfl, rfl⟩ (hm_recv ⟨X, hK.1⟩ hY w0 rfl) rfl hl.1 rfl (Nat.le_of_ble_eq_true rfl) d_W_outer_31 ⟨Nat.le_of_ble_eq_true rfl, Nat.le_of_ble_eq_true rfl⟩) hY (fun v w1 H locs hp hY => ?_)
      obtain ⟨rfl, rfl⟩ := hp
      refine W.eq (g2 := F0 m 34 ls []) rfl ?_
      obtain ⟨E3, hE3⟩ : ∃ z, z = rS (S.sJ 0 0 0 t) 3 := ⟨_, rfl⟩
      rw [← hE3] at hY
      have hAE3 : E3.ad = S.ad := by rw [hE3]; exact (rS_k (S.sJ 0 0 0 t) 3).2
      have hCE3 : E3.C = S.C := by rw [hE3]; exact (rS_k (S.sJ 0 0 0 t) 3).1
      have hl : lv_has ls 3 [(0, .ref (E3.ad 0 0 0)), (1, .long t)] := by rw [hAE3]; exact hl
      refine lv_iconst (v := 0) X.1 X.2.1 d_W_outer_34 (by decide) ?_
      exact en_iW X hY hr hlocks d_W_outer_35 (⟨by first | (rw [hE3]; rw [ou, if_pos c1, if_neg c2]) | rw [ou, if_pos c1, if_neg c2], by first | (rw [hE3]; rw [ou, if_pos c1, if_neg c2]) | rw [ou, if_pos c1, if_neg c2]⟩)
  · have c1 : ¬ (isT S t) := b2_0.mp c1
    refine lv_bipush (v := (-2)) X.1 X.2.1 d_W_outer_8 (by decide) ?_
    exact en_iW X hY hr hlocks d_W_outer_10 (⟨by rw [ou, if_neg c1], by rw [ou, if_neg c1]⟩)

set_option maxHeartbeats 4000000 in
set_option maxRecDepth 100000 in
theorem k_W_cycle (l : Launch) (D : va_G) (A : Nat → Prop) (G : Nat → Nat) (S : cS) (ω : hm_T) (h20 : S.C 0 0 ≤ 20) (hall : ∀ i, i < S.C 0 0 → S.C 1 i ≤ 10) (t : Int64) : Met l y_W_cycle (.code y_W_cycle c_W_cycle 4 (some .int) :: wsA) { frames := 6, cells := 0, slots := 0, locals := 127 } (va_Pc [.ref (S.ad 0 0 0), .long t] (ctU D A G (wS G S ω))) (hm_Q D cls A (fun v w => v = some (.int (cy S t).1) ∧ w = wS G (cy S t).2 ω)) 0 0 A := by
  refine ct_met (by decide) (Nat.le_of_ble_eq_true rfl) ?_
  rintro p e s m below meth c ls X hr hlocks hnm hl ⟨hB, hK⟩
  have hl : lv_has ls 4 [(0, .ref (S.ad 0 0 0)), (1, .long t)] := hl
  have hY : hm_Y D cls A s.heap (wS G S ω) s.heap [] := hm_Y.start hB hK.2.2.2
  refine lv_aload_n X.1 X.2.1 d_W_cycle_0 rfl (lv_at hl 0 rfl) ?_
  refine lv_lload_n X.1 X.2.1 d_W_cycle_1 rfl (lv_at hl 1 rfl) ?_
  refine hm_callR (ct_runV (n := 1) X hK hY (k_W_isTime l D A G S ω t) m_252 m_249 m_251 ms_W_isTime m_1 (by decide +kernel) ⟨Nat.le_of_ble_eq_true rfl, Nat.le_of_ble_eq_true rfl⟩ ⟨rfl, rfl⟩ (hm_recv ⟨X, hK.1⟩ hY w0 rfl) rfl hl.1 rfl (Nat.le_of_ble_eq_true rfl) d_W_cycle_2 ⟨Nat.le_of_ble_eq_true rfl, Nat.le_of_ble_eq_true rfl⟩) (fun v hv => ?_)
  subst hv
  refine W.eq (g2 := F0 m 5 ls [.int (b2 (isT S t))]) rfl ?_
  refine lv_if_ne (tgt := 11) X.1 X.2.1 d_W_cycle_5 (by decide) (fun c1 => ?_) (fun c1 => ?_)
  · have c1 : (isT S t) := Classical.byContradiction (fun z => c1 (b2_0.mpr z))
    refine lv_aload_n X.1 X.2.1 d_W_cycle_11 rfl (lv_at hl 0 rfl) ?_
    refine lv_lload_n X.1 X.2.1 d_W_cycle_12 rfl (lv_at hl 1 rfl) ?_
    refine hm_put ⟨X, hK.1⟩ hY w0 4 rfl (Nat.le_of_ble_eq_true rfl) (Nat.le_of_ble_eq_true rfl) hu_W ty_W ty_W_ok nm_W m_78 (fun _ h => h) rfl rfl rfl d_W_cycle_13 (fun H locs hY => ?_)
    have hY : hm_Y D cls A s.heap (wS G (S.sJ 0 0 0 t) ω) H locs := by rw [← fo_W_4 (S := S) (v := t)]; exact hY
    refine lv_aload_n X.1 X.2.1 d_W_cycle_16 rfl (lv_at hl 0 rfl) ?_
    refine lv_dup X.1 X.2.1 d_W_cycle_17 rfl ?_
    refine hm_get ⟨X, hK.1⟩ hY w0 3 (v := .int (S.I 1 0 0)) rfl rfl (Nat.le_of_ble_eq_true rfl) hu_W m_77 (fun _ h => h) d_W_cycle_18 ?_
    refine lv_iconst (v := 1) X.1 X.2.1 d_W_cycle_21 (by decide) ?_
    refine lv_iadd X.1 X.2.1 d_W_cycle_22 ?_
    refine hm_put ⟨X, hK.1⟩ hY w0 3 rfl (Nat.le_of_ble_eq_true rfl) (Nat.le_of_ble_eq_true rfl) hu_W ty_W ty_W_ok nm_W m_77 (fun _ h => h) rfl rfl rfl d_W_cycle_23 (fun H locs hY => ?_)
    have hY : hm_Y D cls A s.heap (wS G ((S.sJ 0 0 0 t).sI 1 0 0 ((S.I 1 0 0) + 1)) ω) H locs := by rw [← fo_W_3 (S := (S.sJ 0 0 0 t)) (v := (S.I 1 0 0) + 1)]; exact hY
    refine lv_iconst (v := 0) X.1 X.2.1 d_W_cycle_26 (by decide) ?_
    refine lv_istore_n (lv' := [(3, .int 0), (0, .ref (S.ad 0 0 0)), (1, .long t)]) X.1 X.2.1 d_W_cycle_27 rfl hl (by decide) rfl (fun ls hl => ?_)
    have loop : ∀ (k j : Nat) (T : cS) (ls : Array Slot) (H : Heap) (locs : List Loc), j ≤ S.C 0 0 → S.C 0 0 < j + k → T = cyL ((S.sJ 0 0 0 t).sI 1 0 0 (S.I 1 0 0 + 1)) t j → T.C = S.C → hm_Y D cls A s.heap (wS G T ω) H locs → lv_has ls 4 [(3, .int (nI j)), (0, .ref (T.ad 0 0 0)), (1, .long t)] → W p l e { frames := 6, cells := 0, slots := 0, locals := 127 } s m (([.ref (S.ad 0 0 0), .long t] : List Value).toArray) below meth c H locs 0 0 (MQ below (hm_Q D cls A (fun v w => v = some (.int (cy S t).1) ∧ w = wS G (cy S t).2 ω)) (([.ref (S.ad 0 0 0), .long t] : List Value).toArray) s 0 0 A) (F0 m 28 ls []) := by
      intro k
      induction k with
      | zero => intro j T ls H locs hle hlt; omega
      | succ k ih =>
        intro j T ls H locs hle hlt hT hC hY hl
        refine lv_iload_n X.1 X.2.1 d_W_cycle_28 rfl (lv_at hl 0 rfl) ?_
        refine lv_aload_n X.1 X.2.1 d_W_cycle_29 rfl (lv_at hl 1 rfl) ?_
        refine hm_get ⟨X, hK.1⟩ hY w0 0 (v := .ref (T.ad 1 0 0)) rfl rfl (Nat.le_of_ble_eq_true rfl) hu_W m_74 (fun _ h => h) d_W_cycle_30 ?_
        refine hm_callR (ct_runV (n := 0) X hK hY (k_size1 l D A G T ω) m_116 m_113 m_114 m_115 m_4 (by decide +kernel) ⟨Nat.le_of_ble_eq_true rfl, Nat.le_of_ble_eq_true rfl⟩ ⟨rfl, rfl⟩ (hm_recv ⟨X, hK.1⟩ hY w1 rfl) rfl hl.1 rfl (Nat.le_of_ble_eq_true rfl) d_W_cycle_33 ⟨Nat.le_of_ble_eq_true rfl, Nat.le_of_ble_eq_true rfl⟩) (fun v hv => ?_)
        subst hv
        refine W.eq (g2 := F0 m 36 ls [.int (nI (T.C 0 0)), .int (nI j)]) rfl ?_
        have hn : T.C 0 0 = S.C 0 0 := by rw [hC]
        refine lv_icmp_ge (tgt := 64) X.1 X.2.1 d_W_cycle_36 (by decide) (fun c0 => ?_) (fun c0 => ?_)
        · have hj : j = T.C 0 0 := by rcases Nat.lt_or_ge j (T.C 0 0) with q | q; exact absurd c0 (nI_ge q (by omega)); omega
          refine lv_aload_n X.1 X.2.1 d_W_cycle_64 rfl (lv_at hl 1 rfl) ?_
          refine hm_callR (ct_runV (n := 0) X hK hY (k_W_worstCondition l D A G T ω (by rw [hC]; exact h20)) m_293 m_290 m_292 ms_W_worstCondition m_1 (by decide +kernel) ⟨Nat.le_of_ble_eq_true rfl, Nat.le_of_ble_eq_true rfl⟩ ⟨rfl, rfl⟩ (hm_recv ⟨X, hK.1⟩ hY w0 rfl) rfl hl.1 rfl (Nat.le_of_ble_eq_true rfl) d_W_cycle_65 ⟨Nat.le_of_ble_eq_true rfl, Nat.le_of_ble_eq_true rfl⟩) (fun v hv => ?_)
          subst hv
          refine W.eq (g2 := F0 m 68 ls [.int (wst T (T.C 0 0))]) rfl ?_
          refine lv_istore_n (lv' := [(3, .int (wst T (T.C 0 0))), (0, .ref (T.ad 0 0 0)), (1, .long t)]) X.1 X.2.1 d_W_cycle_68 rfl hl (by decide) rfl (fun ls hl => ?_)
          refine lv_aload_n X.1 X.2.1 d_W_cycle_69 rfl (lv_at hl 1 rfl) ?_
          refine lv_iload_n X.1 X.2.1 d_W_cycle_70 rfl (lv_at hl 0 rfl) ?_
          refine lv_iconst (v := 2) X.1 X.2.1 d_W_cycle_71 (by decide) ?_
          refine lv_icmp_ne (tgt := 84) X.1 X.2.1 d_W_cycle_72 (by decide) (fun c2 => ?_) (fun c2 => ?_)
          · refine lv_iconst (v := 0) X.1 X.2.1 d_W_cycle_84 (by decide) ?_
            refine hm_put ⟨X, hK.1⟩ hY w0 7 rfl (Nat.le_of_ble_eq_true rfl) (Nat.le_of_ble_eq_true rfl) hu_W ty_W ty_W_ok nm_W m_81 (fun _ h => h) rfl rfl rfl d_W_cycle_85 (fun H locs hY => ?_)
            have hY : hm_Y D cls A s.heap (wS G (T.sI 3 0 0 0) ω) H locs := by rw [← fo_W_7 (S := T) (v := 0)]; exact hY
            refine lv_aload_n X.1 X.2.1 d_W_cycle_88 rfl (lv_at hl 1 rfl) ?_
            refine hm_get ⟨X, hK.1⟩ hY w0 7 (v := .int 0) rfl rfl (Nat.le_of_ble_eq_true rfl) hu_W m_81 (fun _ h => h) d_W_cycle_89 ?_
            refine lv_aload_n X.1 X.2.1 d_W_cycle_92 rfl (lv_at hl 1 rfl) ?_
            refine hm_get ⟨X, hK.1⟩ hY w0 6 (v := .int (T.I 2 0 0)) rfl rfl (Nat.le_of_ble_eq_true rfl) hu_W m_80 (fun _ h => h) d_W_cycle_93 ?_
            refine lv_icmp_le (tgt := 106) X.1 X.2.1 d_W_cycle_96 (by decide) (fun c3 => ?_) (fun c3 => ?_)
            · refine lv_iload_n X.1 X.2.1 d_W_cycle_106 rfl (lv_at hl 0 rfl) ?_
              exact en_iW X hY hr hlocks d_W_cycle_107 (⟨by rw [cy, if_pos c1, ← hn, ← hj, ← hT, hj, cy2, if_neg c2, if_pos c3], by rw [cy, if_pos c1, ← hn, ← hj, ← hT, hj, cy2, if_neg c2, if_pos c3]⟩)
            · refine lv_aload_n X.1 X.2.1 d_W_cycle_99 rfl (lv_at hl 1 rfl) ?_
              refine lv_iconst (v := 1) X.1 X.2.1 d_W_cycle_100 (by decide) ?_
              refine hm_call (ct_runV (n := 1) X hK hY (k_W_restart l D A G (T.sI 3 0 0 0) ω (show T.C 0 0 ≤ 20 by rw [hC]; exact h20) (show ∀ i, i < T.C 0 0 → T.C 1 i ≤ 10 by rw [hC]; exact hall) 1) m_298 m_295 m_297 ms_W_restart m_1 (by decide +kernel) ⟨Nat.le_of_ble_eq_true rfl, Nat.le_of_ble_eq_true rfl⟩ ⟨rfl, rfl⟩ (hm_recv ⟨X, hK.1⟩ hY w0 rfl) rfl hl.1 rfl (Nat.le_of_ble_eq_true rfl) d_W_cycle_101 ⟨Nat.le_of_ble_eq_true rfl, Nat.le_of_ble_eq_true rfl⟩) hY (fun v w1 H locs hp hY => ?_)
              obtain ⟨rfl, rfl⟩ := hp
              refine W.eq (g2 := F0 m 104 ls []) rfl ?_
              obtain ⟨E4, hE4⟩ : ∃ z, z = rS (T.sI 3 0 0 0) 1 := ⟨_, rfl⟩
              rw [← hE4] at hY
              have hAE4 : E4.ad = T.ad := by rw [hE4]; exact (rS_k (T.sI 3 0 0 0) 1).2
              have hCE4 : E4.C = T.C := by rw [hE4]; exact (rS_k (T.sI 3 0 0 0) 1).1
              have hwE4 : E4.C 0 0 ≤ 20 := by rw [hCE4]; exact (show T.C 0 0 ≤ 20 by rw [hC]; exact h20)
              have haE4 : ∀ i, i < E4.C 0 0 → E4.C 1 i ≤ 10 := by rw [hCE4]; exact (show ∀ i, i < T.C 0 0 → T.C 1 i ≤ 10 by rw [hC]; exact hall)
              have hl : lv_has ls 4 [(3, .int (wst T (T.C 0 0))), (0, .ref (E4.ad 0 0 0)), (1, .long t)] := by rw [hAE4]; exact hl
              refine lv_iconst (v := 3) X.1 X.2.1 d_W_cycle_104 (by decide) ?_
              exact en_iW X hY hr hlocks d_W_cycle_105 (⟨by rw [cy, if_pos c1, ← hn, ← hj, ← hT, hj, cy2, if_neg c2, if_neg c3], by rw [hE4]; rw [cy, if_pos c1, ← hn, ← hj, ← hT, hj, cy2, if_neg c2, if_neg c3]⟩)
          · refine lv_aload_n X.1 X.2.1 d_W_cycle_75 rfl (lv_at hl 1 rfl) ?_
            refine hm_get ⟨X, hK.1⟩ hY w0 7 (v := .int (T.I 3 0 0)) rfl rfl (Nat.le_of_ble_eq_true rfl) hu_W m_81 (fun _ h => h) d_W_cycle_76 ?_
            refine lv_iconst (v := 1) X.1 X.2.1 d_W_cycle_79 (by decide) ?_
            refine lv_iadd X.1 X.2.1 d_W_cycle_80 ?_
            refine lv_goto (tgt := 85) X.1 X.2.1 d_W_cycle_81 (by decide) ?_
            refine hm_put ⟨X, hK.1⟩ hY w0 7 rfl (Nat.le_of_ble_eq_true rfl) (Nat.le_of_ble_eq_true rfl) hu_W ty_W ty_W_ok nm_W m_81 (fun _ h => h) rfl rfl rfl d_W_cycle_85 (fun H locs hY => ?_)
            have hY : hm_Y D cls A s.heap (wS G (T.sI 3 0 0 ((T.I 3 0 0) + 1)) ω) H locs := by rw [← fo_W_7 (S := T) (v := (T.I 3 0 0) + 1)]; exact hY
            refine lv_aload_n X.1 X.2.1 d_W_cycle_88 rfl (lv_at hl 1 rfl) ?_
            refine hm_get ⟨X, hK.1⟩ hY w0 7 (v := .int ((T.I 3 0 0) + 1)) rfl rfl (Nat.le_of_ble_eq_true rfl) hu_W m_81 (fun _ h => h) d_W_cycle_89 ?_
            refine lv_aload_n X.1 X.2.1 d_W_cycle_92 rfl (lv_at hl 1 rfl) ?_
            refine hm_get ⟨X, hK.1⟩ hY w0 6 (v := .int (T.I 2 0 0)) rfl rfl (Nat.le_of_ble_eq_true rfl) hu_W m_80 (fun _ h => h) d_W_cycle_93 ?_
            refine lv_icmp_le (tgt := 106) X.1 X.2.1 d_W_cycle_96 (by decide) (fun c5 => ?_) (fun c5 => ?_)
            · refine lv_iload_n X.1 X.2.1 d_W_cycle_106 rfl (lv_at hl 0 rfl) ?_
              exact en_iW X hY hr hlocks d_W_cycle_107 (⟨by rw [cy, if_pos c1, ← hn, ← hj, ← hT, hj, cy2, if_pos c2, if_pos c5], by rw [cy, if_pos c1, ← hn, ← hj, ← hT, hj, cy2, if_pos c2, if_pos c5]⟩)
            · refine lv_aload_n X.1 X.2.1 d_W_cycle_99 rfl (lv_at hl 1 rfl) ?_
              refine lv_iconst (v := 1) X.1 X.2.1 d_W_cycle_100 (by decide) ?_
              refine hm_call (ct_runV (n := 1) X hK hY (k_W_restart l D A G (T.sI 3 0 0 ((T.I 3 0 0) + 1)) ω (show T.C 0 0 ≤ 20 by rw [hC]; exact h20) (show ∀ i, i < T.C 0 0 → T.C 1 i ≤ 10 by rw [hC]; exact hall) 1) m_298 m_295 m_297 ms_W_restart m_1 (by decide +kernel) ⟨Nat.le_of_ble_eq_true rfl, Nat.le_of_ble_eq_true rfl⟩ ⟨rfl, rfl⟩ (hm_recv ⟨X, hK.1⟩ hY w0 rfl) rfl hl.1 rfl (Nat.le_of_ble_eq_true rfl) d_W_cycle_101 ⟨Nat.le_of_ble_eq_true rfl, Nat.le_of_ble_eq_true rfl⟩) hY (fun v w1 H locs hp hY => ?_)
              obtain ⟨rfl, rfl⟩ := hp
              refine W.eq (g2 := F0 m 104 ls []) rfl ?_
              obtain ⟨E6, hE6⟩ : ∃ z, z = rS (T.sI 3 0 0 ((T.I 3 0 0) + 1)) 1 := ⟨_, rfl⟩
              rw [← hE6] at hY
              have hAE6 : E6.ad = T.ad := by rw [hE6]; exact (rS_k (T.sI 3 0 0 ((T.I 3 0 0) + 1)) 1).2
              have hCE6 : E6.C = T.C := by rw [hE6]; exact (rS_k (T.sI 3 0 0 ((T.I 3 0 0) + 1)) 1).1
              have hwE6 : E6.C 0 0 ≤ 20 := by rw [hCE6]; exact (show T.C 0 0 ≤ 20 by rw [hC]; exact h20)
              have haE6 : ∀ i, i < E6.C 0 0 → E6.C 1 i ≤ 10 := by rw [hCE6]; exact (show ∀ i, i < T.C 0 0 → T.C 1 i ≤ 10 by rw [hC]; exact hall)
              have hl : lv_has ls 4 [(3, .int (wst T (T.C 0 0))), (0, .ref (E6.ad 0 0 0)), (1, .long t)] := by rw [hAE6]; exact hl
              refine lv_iconst (v := 3) X.1 X.2.1 d_W_cycle_104 (by decide) ?_
              exact en_iW X hY hr hlocks d_W_cycle_105 (⟨by rw [cy, if_pos c1, ← hn, ← hj, ← hT, hj, cy2, if_pos c2, if_neg c5], by rw [hE6]; rw [cy, if_pos c1, ← hn, ← hj, ← hT, hj, cy2, if_pos c2, if_neg c5]⟩)
        · have hj : j < T.C 0 0 := by rcases Nat.lt_or_ge j (T.C 0 0) with q | q; exact q; exact absurd (nI_le q (by omega)) c0
          refine lv_aload_n X.1 X.2.1 d_W_cycle_39 rfl (lv_at hl 1 rfl) ?_
          refine hm_get ⟨X, hK.1⟩ hY w0 0 (v := .ref (T.ad 1 0 0)) rfl rfl (Nat.le_of_ble_eq_true rfl) hu_W m_74 (fun _ h => h) d_W_cycle_40 ?_
          refine lv_iload_n X.1 X.2.1 d_W_cycle_43 rfl (lv_at hl 0 rfl) ?_
          refine hm_callR (ct_runV (n := 1) X hK hY (k_get1 l D A G T ω j hj (by rw [hC]; exact h20)) m_123 m_120 m_121 m_122 m_4 (by decide +kernel) ⟨Nat.le_of_ble_eq_true rfl, Nat.le_of_ble_eq_true rfl⟩ ⟨rfl, rfl⟩ (hm_recv ⟨X, hK.1⟩ hY w1 rfl) rfl hl.1 rfl (Nat.le_of_ble_eq_true rfl) d_W_cycle_44 ⟨Nat.le_of_ble_eq_true rfl, Nat.le_of_ble_eq_true rfl⟩) (fun v hv => ?_)
          subst hv
          refine W.eq (g2 := F0 m 47 ls [.ref (T.ad 4 j 0)]) rfl ?_
          refine va_castY X.1 X.2.1 X.2.2.2.1 (X.2.2.2.2 _ m_134) hK.2.1.2.2.1 (hm_recv ⟨X, hK.1⟩ hY (w4 hj) rfl) d_W_cycle_47 ?_
          refine lv_aload_n X.1 X.2.1 d_W_cycle_50 rfl (lv_at hl 1 rfl) ?_
          refine hm_get ⟨X, hK.1⟩ hY w0 3 (v := .int (T.I 1 0 0)) rfl rfl (Nat.le_of_ble_eq_true rfl) hu_W m_77 (fun _ h => h) d_W_cycle_51 ?_
          refine lv_lload_n X.1 X.2.1 d_W_cycle_54 rfl (lv_at hl 2 rfl) ?_
          refine hm_call (ct_runV (n := 2) X hK hY (k_P_passCycle l D A G T ω j hj (by rw [hC]; exact hall j (by omega)) (T.I 1 0 0) t) m_277 m_274 m_275 m_276 m_11 (by decide +kernel) ⟨Nat.le_of_ble_eq_true rfl, Nat.le_of_ble_eq_true rfl⟩ ⟨rfl, rfl⟩ (hm_recv ⟨X, hK.1⟩ hY (w4 hj) rfl) rfl hl.1 rfl (Nat.le_of_ble_eq_true rfl) d_W_cycle_55 ⟨Nat.le_of_ble_eq_true rfl, Nat.le_of_ble_eq_true rfl⟩) hY (fun v w1 H locs hp hY => ?_)
          obtain ⟨rfl, rfl⟩ := hp
          refine W.eq (g2 := F0 m 58 ls []) rfl ?_
          obtain ⟨E7, hE7⟩ : ∃ z, z = pC T j (T.I 1 0 0) t := ⟨_, rfl⟩
          rw [← hE7] at hY
          have hAE7 : E7.ad = T.ad := by rw [hE7]; exact (pC_k T j (T.I 1 0 0) t).2
          have hCE7 : E7.C = T.C := by rw [hE7]; exact (pC_k T j (T.I 1 0 0) t).1
          have hiE7 : j < E7.C 0 0 := by rw [hCE7]; exact hj
          have hl : lv_has ls 4 [(3, .int (nI j)), (0, .ref (E7.ad 0 0 0)), (1, .long t)] := by rw [hAE7]; exact hl
          refine lv_iinc (v := nI (j + 1)) (lv' := [(3, .int (nI (j + 1))), (0, .ref (E7.ad 0 0 0)), (1, .long t)]) X.1 X.2.1 d_W_cycle_58 hl (k := 0) rfl (nI_1 j) (by decide) rfl (fun ls hl => ?_)
          refine lv_goto (tgt := 28) X.1 X.2.1 d_W_cycle_61 (by decide) ?_
          exact ih (j + 1) E7 _ _ _ (by omega) (by omega) (by rw [hE7, show cyL ((S.sJ 0 0 0 t).sI 1 0 0 (S.I 1 0 0 + 1)) t (j + 1) = pC (cyL ((S.sJ 0 0 0 t).sI 1 0 0 (S.I 1 0 0 + 1)) t j) j ((cyL ((S.sJ 0 0 0 t).sI 1 0 0 (S.I 1 0 0 + 1)) t j).I 1 0 0) t from rfl, ← hT]) (hCE7.trans hC) hY (lv_sub hl [0, 1, 2] rfl)
    exact loop (S.C 0 0 + 1) 0 ((S.sJ 0 0 0 t).sI 1 0 0 ((S.I 1 0 0) + 1)) ls _ _ (Nat.zero_le _) (by omega) rfl rfl hY (lv_sub hl [0, 1, 2] rfl)
  · have c1 : ¬ (isT S t) := b2_0.mp c1
    refine lv_bipush (v := (-2)) X.1 X.2.1 d_W_cycle_8 (by decide) ?_
    exact en_iW X hY hr hlocks d_W_cycle_10 (⟨by rw [cy, if_neg c1], by rw [cy, if_neg c1]⟩)
