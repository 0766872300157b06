abbrev inR (r : Int32) : Prop := 0 ≤ r.toInt64 ∧ r.toInt64 ≤ ((124 : Int32) - 1).toInt64
abbrev hE (S : cS) (i : Nat) (r to : Int32) : Prop := inR r ∧ ¬ (S.I 18 i r.toNatClampNeg &&& ((1 : Int32) <<< (to &&& 31))) = 0
theorem inR_in {r : Int32} (h : inR r) : vp_in r 124 := by
  obtain ⟨h1, h2⟩ := h
  have h1 := Int64.le_iff_toInt_le.mp h1
  have h2 := Int64.le_iff_toInt_le.mp h2
  rw [Int32.toInt_toInt64] at h1 h2
  rw [show ((124 : Int32) - 1).toInt64.toInt = 123 by decide] at h2
  rw [show (0 : Int64).toInt = 0 by decide] at h1
  exact vp_in_iff.mpr ⟨h1, by omega⟩
def aE (S : cS) (i : Nat) (r to : Int32) : Int32 × cS := if hE S i r to then (0, S) else if inR r then (1, S.sI 18 i r.toNatClampNeg (S.I 18 i r.toNatClampNeg ||| ((1 : Int32) <<< (to &&& 31)))) else (0, S)
/-- endDeadlines at the deadline j -/
def eD1 (S : cS) (i : Nat) (p : Int32) (t : Int64) (j : Nat) : cS :=
  if S.I 23 i j = 0 then S else if S.I 22 i j = p then (if S.I 17 i 0 = 0 then (if S.J 20 i j ≤ t - S.J 22 i j ∧ t - S.J 22 i j ≤ S.J 21 i j then (S.sI 17 i 0 0).sI 23 i j 0 else (S.sI 17 i 0 1).sI 23 i j 0) else (S.sI 17 i 0 1).sI 23 i j 0) else S
def eD (S : cS) (i : Nat) (p : Int32) (t : Int64) : Nat → cS
  | 0 => S
  | j + 1 => eD1 (eD S i p t j) i p t j
/-- beginDeadlines at the deadline j -/
def bD1 (S : cS) (i : Nat) (mo p : Int32) (t : Int64) (j : Nat) : cS := if S.I 20 i j = mo then (if S.I 21 i j = p then (S.sI 23 i j 1).sJ 22 i j t else S) else S
def bD (S : cS) (i : Nat) (mo p : Int32) (t : Int64) : Nat → cS
  | 0 => S
  | j + 1 => bD1 (bD S i mo p t j) i mo p t j
/-- stopLateDeadlines at the deadline j -/
def sD1 (S : cS) (i : Nat) (t : Int64) (j : Nat) : cS := if S.I 23 i j = 0 then S else if t - S.J 22 i j ≤ S.J 21 i j then S else (S.sI 17 i 0 1).sI 23 i j 0
def sD (S : cS) (i : Nat) (t : Int64) : Nat → cS
  | 0 => S
  | j + 1 => sD1 (sD S i t j) i t j
def fD1 (S : cS) (i : Nat) (j : Nat) : cS := S.sI 23 i j 0
def fDs (S : cS) (i : Nat) : Nat → cS
  | 0 => S
  | j + 1 => fD1 (fDs S i j) i j
def cA (S : cS) (i : Nat) (ag : Int32) : cS :=
  if ag ≤ 2 then S.sI 15 i 0 0 else if (S.I 10 i 0).toInt64 ≤ (S.I 15 i 0).toInt64 ∧ (S.I 15 i 0).toInt64 ≤ (S.I 11 i 0).toInt64 then S.sI 15 i 0 0 else (S.sI 17 i 0 1).sI 15 i 0 0
def jU (S : cS) (i : Nat) : cS :=
  if S.I 17 i 0 = 0 then (if S.I 13 i 0 = 1 then (if S.I 14 i 0 - 1 ≤ 0 then (S.sI 14 i 0 (S.I 14 i 0 - 1)).sI 13 i 0 0 else (S.sI 14 i 0 (S.I 14 i 0 - 1)).sI 13 i 0 1) else S)
  else if S.I 14 i 0 + 1 ≤ S.I 12 i 0 then (S.sI 14 i 0 (S.I 14 i 0 + 1)).sI 13 i 0 1 else (S.sI 14 i 0 (S.I 14 i 0 + 1)).sI 13 i 0 2
def fC (S : cS) (i : Nat) : cS := fDs (((S.sI 15 i 0 0).sI 17 i 0 0).sI 16 i 0 0) i (S.C 1 i)
def bA (S : cS) (i : Nat) : cS := ((fC S i).sI 13 i 0 0).sI 14 i 0 0
theorem eD_k (S : cS) (i : Nat) (p : Int32) (t : Int64) (j : Nat) : (eD S i p t j).C = S.C ∧ (eD S i p t j).ad = S.ad := by
  induction j with
  | zero => exact ⟨rfl, rfl⟩
  | succ j ih =>
    show (eD1 _ i p t j).C = S.C ∧ (eD1 _ i p t j).ad = S.ad
    unfold eD1
    repeat' split
    all_goals exact ih
theorem bD_k (S : cS) (i : Nat) (mo p : Int32) (t : Int64) (j : Nat) : (bD S i mo p t j).C = S.C ∧ (bD S i mo p t j).ad = S.ad := by
  induction j with
  | zero => exact ⟨rfl, rfl⟩
  | succ j ih =>
    show (bD1 _ i mo p t j).C = S.C ∧ (bD1 _ i mo p t j).ad = S.ad
    unfold bD1
    repeat' split
    all_goals exact ih
theorem sD_k (S : cS) (i : Nat) (t : Int64) (j : Nat) : (sD S i t j).C = S.C ∧ (sD S i t j).ad = S.ad := by
  induction j with
  | zero => exact ⟨rfl, rfl⟩
  | succ j ih =>
    show (sD1 _ i t j).C = S.C ∧ (sD1 _ i t j).ad = S.ad
    unfold sD1
    repeat' split
    all_goals exact ih
theorem fDs_k (S : cS) (i : Nat) (j : Nat) : (fDs S i j).C = S.C ∧ (fDs S i j).ad = S.ad := by
  induction j with
  | zero => exact ⟨rfl, rfl⟩
  | succ j ih => exact ih

set_option maxHeartbeats 4000000 in
set_option maxRecDepth 100000 in
theorem k_P_rowOf (l : Launch) (D : va_G) (A : Nat → Prop) (G : Nat → Nat) (w : hm_T) (mo fr : Int32) : Met l y_P_rowOf (.code y_P_rowOf c_P_rowOf 2 (some .int) :: wsA) { frames := 0, cells := 0, slots := 0, locals := 0 } (va_Pc [.int mo, .int fr] (ctU D A G w)) (hm_R (fun v => v = some (.int (mo * 31 + fr)))) 0 0 (fun _ => False) := by
  refine ct_met (by decide) (Nat.le_of_ble_eq_true rfl) ?_
  rintro p e s m below meth c ls X hr hlocks hnm hl ⟨hB, hK⟩
  have hl : lv_has ls 2 [(0, .int mo), (1, .int fr)] := hl
  have hY : hm_Y D cls A s.heap w s.heap [] := hm_Y.start hB hK.2.2.2
  refine lv_iload_n X.1 X.2.1 d_P_rowOf_0 rfl (lv_at hl 0 rfl) ?_
  refine lv_bipush (v := 31) X.1 X.2.1 d_P_rowOf_1 (by decide) ?_
  refine lv_imul X.1 X.2.1 d_P_rowOf_3 ?_
  refine lv_iload_n X.1 X.2.1 d_P_rowOf_4 rfl (lv_at hl 1 rfl) ?_
  refine lv_iadd X.1 X.2.1 d_P_rowOf_5 ?_
  exact en_iR X hr hlocks d_P_rowOf_6 (rfl)

set_option maxHeartbeats 4000000 in
set_option maxRecDepth 100000 in
theorem k_P_hasEdge (l : Launch) (D : va_G) (A : Nat → Prop) (G : Nat → Nat) (S : cS) (ω : hm_T) (i : Nat) (hi : i < S.C 0 0) (mo fr to : Int32) : Met l y_P_hasEdge (.code y_P_hasEdge c_P_hasEdge 5 (some .boolean) :: wsA) { frames := 1, cells := 0, slots := 0, locals := 25 } (va_Pc [.ref (S.ad 4 i 0), .int mo, .int fr, .int to] (ctU D A G (wS G S ω))) (hm_R (fun v => v = some (.int (b2 (hE S i (mo * 31 + fr) to))))) 0 0 (fun _ => False) := by
  refine ct_met (by decide) (Nat.le_of_ble_eq_true rfl) ?_
  rintro p e s m below meth c ls X hr hlocks hnm hl ⟨hB, hK⟩
  have hl : lv_has ls 5 [(0, .ref (S.ad 4 i 0)), (1, .int mo), (2, .int fr), (3, .int to)] := hl
  have hY : hm_Y D cls A s.heap (wS G S ω) s.heap [] := hm_Y.start hB hK.2.2.2
  refine lv_iload_n X.1 X.2.1 d_P_hasEdge_0 rfl (lv_at hl 1 rfl) ?_
  refine lv_iload_n X.1 X.2.1 d_P_hasEdge_1 rfl (lv_at hl 2 rfl) ?_
  refine hm_callR (ct_runS (n := 2) X hK hY (k_P_rowOf l D A G (wS G S ω) mo fr) m_145 m_143 m_144 m_11 (by decide +kernel) ⟨Nat.le_of_ble_eq_true rfl, Nat.le_of_ble_eq_true rfl⟩ ⟨rfl, rfl⟩ rfl hl.1 rfl (Nat.le_of_ble_eq_true rfl) d_P_hasEdge_2 ⟨Nat.le_of_ble_eq_true rfl, Nat.le_of_ble_eq_true rfl⟩) (fun v hv => ?_)
  subst hv
  refine W.eq (g2 := F0 m 5 ls [.int (mo * 31 + fr)]) rfl ?_
  refine lv_istore (lv' := [(4, .int (mo * 31 + fr)), (0, .ref (S.ad 4 i 0)), (1, .int mo), (2, .int fr), (3, .int to)]) X.1 X.2.1 d_P_hasEdge_5 hl (by decide) rfl (fun ls hl => ?_)
  refine lv_iload X.1 X.2.1 d_P_hasEdge_7 (lv_at hl 0 rfl) ?_
  refine lv_i2l (v := (mo * 31 + fr).toInt64) X.1 X.2.1 d_P_hasEdge_9 rfl ?_
  refine lv_lconst (v := 0) X.1 X.2.1 d_P_hasEdge_10 (by decide) ?_
  refine lv_aload_n X.1 X.2.1 d_P_hasEdge_11 rfl (lv_at hl 1 rfl) ?_
  refine hm_get ⟨X, hK.1⟩ hY (w4 hi) 3 (v := .ref (S.ad 5 i 0)) rfl rfl (Nat.le_of_ble_eq_true rfl) hu_P m_446 (fun _ h => h) d_P_hasEdge_12 ?_
  refine hm_alen ⟨X, hK.1⟩ hY (w5 hi) 0 rfl (v := 124) rfl d_P_hasEdge_15 ?_
  refine lv_iconst (v := 1) X.1 X.2.1 d_P_hasEdge_16 (by decide) ?_
  refine lv_isub X.1 X.2.1 d_P_hasEdge_17 ?_
  refine lv_i2l (v := (124 - 1).toInt64) X.1 X.2.1 d_P_hasEdge_18 rfl ?_
  refine hm_callR (ct_runN (n := 3) X hK hY (k_W_isWithin l D A G (wS G S ω) (mo * 31 + fr).toInt64 0 ((124 : Int32) - 1).toInt64) m_119 hK.2.1.1 m_118 m_1 (by decide +kernel) ⟨Nat.le_of_ble_eq_true rfl, Nat.le_of_ble_eq_true rfl⟩ ⟨rfl, rfl⟩ rfl hl.1 rfl (Nat.le_of_ble_eq_true rfl) d_P_hasEdge_19 ⟨Nat.le_of_ble_eq_true rfl, Nat.le_of_ble_eq_true rfl⟩) (fun v hv => ?_)
  subst hv
  refine W.eq (g2 := F0 m 22 ls [.int (b2 (inR (mo * 31 + fr)))]) rfl ?_
  refine lv_if_eq (tgt := 43) X.1 X.2.1 d_P_hasEdge_22 (by decide) (fun c1 => ?_) (fun c1 => ?_)
  · have c1 : ¬ (inR (mo * 31 + fr)) := b2_0.mp c1
    refine lv_iconst (v := 0) X.1 X.2.1 d_P_hasEdge_43 (by decide) ?_
    exact en_zR X hr hlocks d_P_hasEdge_44 rfl (by rw [b2_f (fun z => c1 z.1)])
  · have c1 : (inR (mo * 31 + fr)) := Classical.byContradiction (fun z => c1 (b2_0.mpr z))
    refine lv_aload_n X.1 X.2.1 d_P_hasEdge_25 rfl (lv_at hl 1 rfl) ?_
    refine hm_get ⟨X, hK.1⟩ hY (w4 hi) 3 (v := .ref (S.ad 5 i 0)) rfl rfl (Nat.le_of_ble_eq_true rfl) hu_P m_446 (fun _ h => h) d_P_hasEdge_26 ?_
    refine lv_iload X.1 X.2.1 d_P_hasEdge_29 (lv_at hl 0 rfl) ?_
    refine hm_iald ⟨X, hK.1⟩ hY (w5 hi) 0 rfl (inR_in c1) d_P_hasEdge_31 ?_
    refine lv_iconst (v := 1) X.1 X.2.1 d_P_hasEdge_32 (by decide) ?_
    refine lv_iload_n X.1 X.2.1 d_P_hasEdge_33 rfl (lv_at hl 4 rfl) ?_
    refine lv_ishl X.1 X.2.1 d_P_hasEdge_34 ?_
    refine lv_iand X.1 X.2.1 d_P_hasEdge_35 ?_
    refine lv_if_eq (tgt := 43) X.1 X.2.1 d_P_hasEdge_36 (by decide) (fun c2 => ?_) (fun c2 => ?_)
    · refine lv_iconst (v := 0) X.1 X.2.1 d_P_hasEdge_43 (by decide) ?_
      exact en_zR X hr hlocks d_P_hasEdge_44 rfl (by rw [b2_f (fun z => z.2 c2)])
    · refine lv_iconst (v := 1) X.1 X.2.1 d_P_hasEdge_39 (by decide) ?_
      refine lv_goto (tgt := 44) X.1 X.2.1 d_P_hasEdge_40 (by decide) ?_
      exact en_zR X hr hlocks d_P_hasEdge_44 rfl (by rw [b2_t ⟨c1, c2⟩])

set_option maxHeartbeats 4000000 in
set_option maxRecDepth 100000 in
theorem k_P_addEdge (l : Launch) (D : va_G) (A : Nat → Prop) (G : Nat → Nat) (S : cS) (ω : hm_T) (i : Nat) (hi : i < S.C 0 0) (mo fr to : Int32) : Met l y_P_addEdge (.code y_P_addEdge c_P_addEdge 5 (some .boolean) :: wsA) { frames := 2, cells := 0, slots := 0, locals := 49 } (va_Pc [.ref (S.ad 4 i 0), .int mo, .int fr, .int to] (ctU D A G (wS G S ω))) (hm_Q D cls A (fun v w => v = some (.int (aE S i (mo * 31 + fr) to).1) ∧ w = wS G (aE S i (mo * 31 + fr) to).2 ω)) 0 0 A := by
  refine ct_met (by decide) (Nat.le_of_ble_eq_true rfl) ?_
  rintro p e s m below meth c ls X hr hlocks hnm hl ⟨hB, hK⟩
  have hl : lv_has ls 5 [(0, .ref (S.ad 4 i 0)), (1, .int mo), (2, .int fr), (3, .int to)] := hl
  have hY : hm_Y D cls A s.heap (wS G S ω) s.heap [] := hm_Y.start hB hK.2.2.2
  refine lv_iload_n X.1 X.2.1 d_P_addEdge_0 rfl (lv_at hl 1 rfl) ?_
  refine lv_iload_n X.1 X.2.1 d_P_addEdge_1 rfl (lv_at hl 2 rfl) ?_
  refine hm_callR (ct_runS (n := 2) X hK hY (k_P_rowOf l D A G (wS G S ω) mo fr) m_145 m_143 m_144 m_11 (by decide +kernel) ⟨Nat.le_of_ble_eq_true rfl, Nat.le_of_ble_eq_true rfl⟩ ⟨rfl, rfl⟩ rfl hl.1 rfl (Nat.le_of_ble_eq_true rfl) d_P_addEdge_2 ⟨Nat.le_of_ble_eq_true rfl, Nat.le_of_ble_eq_true rfl⟩) (fun v hv => ?_)
  subst hv
  refine W.eq (g2 := F0 m 5 ls [.int (mo * 31 + fr)]) rfl ?_
  refine lv_istore (lv' := [(4, .int (mo * 31 + fr)), (0, .ref (S.ad 4 i 0)), (1, .int mo), (2, .int fr), (3, .int to)]) X.1 X.2.1 d_P_addEdge_5 hl (by decide) rfl (fun ls hl => ?_)
  refine lv_aload_n X.1 X.2.1 d_P_addEdge_7 rfl (lv_at hl 1 rfl) ?_
  refine lv_iload_n X.1 X.2.1 d_P_addEdge_8 rfl (lv_at hl 2 rfl) ?_
  refine lv_iload_n X.1 X.2.1 d_P_addEdge_9 rfl (lv_at hl 3 rfl) ?_
  refine lv_iload_n X.1 X.2.1 d_P_addEdge_10 rfl (lv_at hl 4 rfl) ?_
  refine hm_callR (ct_runV (n := 3) X hK hY (k_P_hasEdge l D A G S ω i hi mo fr to) m_149 m_146 m_147 m_148 m_11 (by decide +kernel) ⟨Nat.le_of_ble_eq_true rfl, Nat.le_of_ble_eq_true rfl⟩ ⟨rfl, rfl⟩ (hm_recv ⟨X, hK.1⟩ hY (w4 hi) rfl) rfl hl.1 rfl (Nat.le_of_ble_eq_true rfl) d_P_addEdge_11 ⟨Nat.le_of_ble_eq_true rfl, Nat.le_of_ble_eq_true rfl⟩) (fun v hv => ?_)
  subst hv
  refine W.eq (g2 := F0 m 14 ls [.int (b2 (hE S i (mo * 31 + fr) to))]) rfl ?_
  refine lv_if_ne (tgt := 35) X.1 X.2.1 d_P_addEdge_14 (by decide) (fun c1 => ?_) (fun c1 => ?_)
  · have c1 : (hE S i (mo * 31 + fr) to) := Classical.byContradiction (fun z => c1 (b2_0.mpr z))
    refine lv_iconst (v := 0) X.1 X.2.1 d_P_addEdge_35 (by decide) ?_
    exact en_zW X hY hr hlocks d_P_addEdge_36 rfl (⟨by rw [aE, if_pos c1], by rw [aE, if_pos c1]⟩)
  · have c1 : ¬ (hE S i (mo * 31 + fr) to) := b2_0.mp c1
    refine lv_iload X.1 X.2.1 d_P_addEdge_17 (lv_at hl 0 rfl) ?_
    refine lv_i2l (v := (mo * 31 + fr).toInt64) X.1 X.2.1 d_P_addEdge_19 rfl ?_
    refine lv_lconst (v := 0) X.1 X.2.1 d_P_addEdge_20 (by decide) ?_
    refine lv_aload_n X.1 X.2.1 d_P_addEdge_21 rfl (lv_at hl 1 rfl) ?_
    refine hm_get ⟨X, hK.1⟩ hY (w4 hi) 3 (v := .ref (S.ad 5 i 0)) rfl rfl (Nat.le_of_ble_eq_true rfl) hu_P m_446 (fun _ h => h) d_P_addEdge_22 ?_
    refine hm_alen ⟨X, hK.1⟩ hY (w5 hi) 0 rfl (v := 124) rfl d_P_addEdge_25 ?_
    refine lv_iconst (v := 1) X.1 X.2.1 d_P_addEdge_26 (by decide) ?_
    refine lv_isub X.1 X.2.1 d_P_addEdge_27 ?_
    refine lv_i2l (v := (124 - 1).toInt64) X.1 X.2.1 d_P_addEdge_28 rfl ?_
    refine hm_callR (ct_runN (n := 3) X hK hY (k_W_isWithin l D A G (wS G S ω) (mo * 31 + fr).toInt64 0 ((124 : Int32) - 1).toInt64) m_119 hK.2.1.1 m_118 m_1 (by decide +kernel) ⟨Nat.le_of_ble_eq_true rfl, Nat.le_of_ble_eq_true rfl⟩ ⟨rfl, rfl⟩ rfl hl.1 rfl (Nat.le_of_ble_eq_true rfl) d_P_addEdge_29 ⟨Nat.le_of_ble_eq_true rfl, Nat.le_of_ble_eq_true rfl⟩) (fun v hv => ?_)
    subst hv
    refine W.eq (g2 := F0 m 32 ls [.int (b2 (inR (mo * 31 + fr)))]) rfl ?_
    refine lv_if_ne (tgt := 37) X.1 X.2.1 d_P_addEdge_32 (by decide) (fun c2 => ?_) (fun c2 => ?_)
    · have c2 : (inR (mo * 31 + fr)) := Classical.byContradiction (fun z => c2 (b2_0.mpr z))
      refine lv_aload_n X.1 X.2.1 d_P_addEdge_37 rfl (lv_at hl 1 rfl) ?_
      refine hm_get ⟨X, hK.1⟩ hY (w4 hi) 3 (v := .ref (S.ad 5 i 0)) rfl rfl (Nat.le_of_ble_eq_true rfl) hu_P m_446 (fun _ h => h) d_P_addEdge_38 ?_
      refine lv_iload X.1 X.2.1 d_P_addEdge_41 (lv_at hl 0 rfl) ?_
      refine lv_dup2_11 X.1 X.2.1 d_P_addEdge_43 rfl rfl ?_
      refine hm_iald ⟨X, hK.1⟩ hY (w5 hi) 0 rfl (inR_in c2) d_P_addEdge_44 ?_
      refine lv_iconst (v := 1) X.1 X.2.1 d_P_addEdge_45 (by decide) ?_
      refine lv_iload_n X.1 X.2.1 d_P_addEdge_46 rfl (lv_at hl 4 rfl) ?_
      refine lv_ishl X.1 X.2.1 d_P_addEdge_47 ?_
      refine lv_ior X.1 X.2.1 d_P_addEdge_48 ?_
      refine hm_iast ⟨X, hK.1⟩ hY (w5 hi) 0 rfl (inR_in c2) d_P_addEdge_49 (fun H locs hY => ?_)
      rw [fo_E hi] at hY
      refine lv_iconst (v := 1) X.1 X.2.1 d_P_addEdge_50 (by decide) ?_
      exact en_zW X hY hr hlocks d_P_addEdge_51 rfl (⟨by rw [aE, if_neg c1, if_pos c2], by rw [aE, if_neg c1, if_pos c2]⟩)
    · have c2 : ¬ (inR (mo * 31 + fr)) := b2_0.mp c2
      refine lv_iconst (v := 0) X.1 X.2.1 d_P_addEdge_35 (by decide) ?_
      exact en_zW X hY hr hlocks d_P_addEdge_36 rfl (⟨by rw [aE, if_neg c1, if_neg c2], by rw [aE, if_neg c1, if_neg c2]⟩)

set_option maxHeartbeats 4000000 in
set_option maxRecDepth 100000 in
theorem k_P_endDeadlines (l : Launch) (D : va_G) (A : Nat → Prop) (G : Nat → Nat) (S : cS) (ω : hm_T) (i : Nat) (hi : i < S.C 0 0) (h10 : S.C 1 i ≤ 10) (p0 : Int32) (t : Int64) : Met l y_P_endDeadlines (.code y_P_endDeadlines c_P_endDeadlines 6 (none : Option FieldType) :: wsA) { frames := 3, cells := 0, slots := 0, locals := 64 } (va_Pc [.ref (S.ad 4 i 0), .int p0, .long t] (ctU D A G (wS G S ω))) (hm_Q D cls A (fun v w => v = none ∧ w = wS G (eD S i p0 t (S.C 1 i)) ω)) 0 0 A := by
  refine ct_met (by decide) (Nat.le_of_ble_eq_true rfl) ?_
  rintro p e s m below meth c ls X hr hlocks hnm hl ⟨hB, hK⟩
  have hl : lv_has ls 6 [(0, .ref (S.ad 4 i 0)), (1, .int p0), (2, .long t)] := hl
  have hY : hm_Y D cls A s.heap (wS G S ω) s.heap [] := hm_Y.start hB hK.2.2.2
  refine lv_iconst (v := 0) X.1 X.2.1 d_P_endDeadlines_0 (by decide) ?_
  refine lv_istore (lv' := [(4, .int 0), (0, .ref (S.ad 4 i 0)), (1, .int p0), (2, .long t)]) X.1 X.2.1 d_P_endDeadlines_1 hl (by decide) rfl (fun ls hl => ?_)
  have loop : ∀ (k j : Nat) (T : cS) (ls : Array Slot) (H : Heap) (locs : List Loc), j ≤ S.C 1 i → S.C 1 i < j + k → T = eD S i p0 t j → T.C = S.C → hm_Y D cls A s.heap (wS G T ω) H locs → lv_has ls 6 [(4, .int (nI j)), (0, .ref (T.ad 4 i 0)), (1, .int p0), (2, .long t)] → W p l e { frames := 3, cells := 0, slots := 0, locals := 64 } s m (([.ref (S.ad 4 i 0), .int p0, .long t] : List Value).toArray) below meth c H locs 0 0 (MQ below (hm_Q D cls A (fun v w => v = none ∧ w = wS G (eD S i p0 t (S.C 1 i)) ω)) (([.ref (S.ad 4 i 0), .int p0, .long t] : List Value).toArray) s 0 0 A) (F0 m 3 ls []) := by
    intro k
    induction k with
    | zero => intro j T ls H locs hle hlt; omega
    | succ k ih =>
      intro j T ls H locs hle hlt hT hC hY hl
      have hiT : i < T.C 0 0 := by rw [hC]; exact hi
      refine lv_iload X.1 X.2.1 d_P_endDeadlines_3 (lv_at hl 0 rfl) ?_
      refine lv_aload_n X.1 X.2.1 d_P_endDeadlines_5 rfl (lv_at hl 1 rfl) ?_
      refine hm_get ⟨X, hK.1⟩ hY (w4 hiT) 4 (v := .ref (T.ad 6 i 0)) rfl rfl (Nat.le_of_ble_eq_true rfl) hu_P m_447 (fun _ h => h) d_P_endDeadlines_6 ?_
      refine hm_callR (ct_runV (n := 0) X hK hY (k_size6 l D A G T ω i hiT) m_116 m_263 m_114 m_115 m_4 (by decide +kernel) ⟨Nat.le_of_ble_eq_true rfl, Nat.le_of_ble_eq_true rfl⟩ ⟨rfl, rfl⟩ (hm_recv ⟨X, hK.1⟩ hY (w6 hiT) rfl) rfl hl.1 rfl (Nat.le_of_ble_eq_true rfl) d_P_endDeadlines_9 ⟨Nat.le_of_ble_eq_true rfl, Nat.le_of_ble_eq_true rfl⟩) (fun v hv => ?_)
      subst hv
      refine W.eq (g2 := F0 m 12 ls [.int (nI (T.C 1 i)), .int (nI j)]) rfl ?_
      have hn : T.C 1 i = S.C 1 i := by rw [hC]
      refine lv_icmp_ge (tgt := 97) X.1 X.2.1 d_P_endDeadlines_12 (by decide) (fun c0 => ?_) (fun c0 => ?_)
      · have hj : j = T.C 1 i := by rcases Nat.lt_or_ge j (T.C 1 i) with q | q; exact absurd c0 (nI_ge q (by omega)); omega
        exact en_vW X hY hr hlocks d_P_endDeadlines_97 (⟨rfl, by rw [hT, hj, hn]⟩)
      · have hj : j < T.C 1 i := by rcases Nat.lt_or_ge j (T.C 1 i) with q | q; exact q; exact absurd (nI_le q (by omega)) c0
        refine lv_aload_n X.1 X.2.1 d_P_endDeadlines_15 rfl (lv_at hl 1 rfl) ?_
        refine hm_get ⟨X, hK.1⟩ hY (w4 hiT) 4 (v := .ref (T.ad 6 i 0)) rfl rfl (Nat.le_of_ble_eq_true rfl) hu_P m_447 (fun _ h => h) d_P_endDeadlines_16 ?_
        refine lv_iload X.1 X.2.1 d_P_endDeadlines_19 (lv_at hl 0 rfl) ?_
        refine hm_callR (ct_runV (n := 1) X hK hY (k_get6 l D A G T ω i j hiT hj (by rw [hC]; exact h10)) m_123 m_264 m_121 m_122 m_4 (by decide +kernel) ⟨Nat.le_of_ble_eq_true rfl, Nat.le_of_ble_eq_true rfl⟩ ⟨rfl, rfl⟩ (hm_recv ⟨X, hK.1⟩ hY (w6 hiT) rfl) rfl hl.1 rfl (Nat.le_of_ble_eq_true rfl) d_P_endDeadlines_21 ⟨Nat.le_of_ble_eq_true rfl, Nat.le_of_ble_eq_true rfl⟩) (fun v hv => ?_)
        subst hv
        refine W.eq (g2 := F0 m 24 ls [.ref (T.ad 8 i j)]) rfl ?_
        refine va_castY X.1 X.2.1 X.2.2.2.1 (X.2.2.2.2 _ m_265) hK.2.1.2.2.2.1 (hm_recv ⟨X, hK.1⟩ hY (w8 hiT hj) rfl) d_P_endDeadlines_24 ?_
        refine lv_astore (lv' := [(5, .ref (T.ad 8 i j)), (4, .int (nI j)), (0, .ref (T.ad 4 i 0)), (1, .int p0), (2, .long t)]) X.1 X.2.1 d_P_endDeadlines_27 hl (by decide) rfl (fun ls hl => ?_)
        refine lv_aload X.1 X.2.1 d_P_endDeadlines_29 (lv_at hl 0 rfl) ?_
        refine hm_get ⟨X, hK.1⟩ hY (w8 hiT hj) 5 (v := .int (T.I 23 i j)) rfl rfl (Nat.le_of_ble_eq_true rfl) hu_D m_173 (fun _ h => h) d_P_endDeadlines_31 ?_
        refine lv_if_eq (tgt := 91) X.1 X.2.1 d_P_endDeadlines_34 (by decide) (fun c1 => ?_) (fun c1 => ?_)
        · refine lv_iinc (v := nI (j + 1)) (lv' := [(4, .int (nI (j + 1))), (5, .ref (T.ad 8 i j)), (0, .ref (T.ad 4 i 0)), (1, .int p0), (2, .long t)]) X.1 X.2.1 d_P_endDeadlines_91 hl (k := 1) rfl (nI_1 j) (by decide) rfl (fun ls hl => ?_)
          refine lv_goto (tgt := 3) X.1 X.2.1 d_P_endDeadlines_94 (by decide) ?_
          exact ih (j + 1) T _ _ _ (by omega) (by omega) (by rw [show eD S i p0 t (j + 1) = eD1 (eD S i p0 t j) i p0 t j from rfl, ← hT, eD1, if_pos c1]) hC hY (lv_sub hl [0, 2, 3, 4] rfl)
        · refine lv_aload X.1 X.2.1 d_P_endDeadlines_37 (lv_at hl 0 rfl) ?_
          refine hm_get ⟨X, hK.1⟩ hY (w8 hiT hj) 2 (v := .int (T.I 22 i j)) rfl rfl (Nat.le_of_ble_eq_true rfl) hu_D m_167 (fun _ h => h) d_P_endDeadlines_39 ?_
          refine lv_iload_n X.1 X.2.1 d_P_endDeadlines_42 rfl (lv_at hl 3 rfl) ?_
          refine lv_icmp_ne (tgt := 91) X.1 X.2.1 d_P_endDeadlines_43 (by decide) (fun c2 => ?_) (fun c2 => ?_)
          · refine lv_iinc (v := nI (j + 1)) (lv' := [(4, .int (nI (j + 1))), (5, .ref (T.ad 8 i j)), (0, .ref (T.ad 4 i 0)), (1, .int p0), (2, .long t)]) X.1 X.2.1 d_P_endDeadlines_91 hl (k := 1) rfl (nI_1 j) (by decide) rfl (fun ls hl => ?_)
            refine lv_goto (tgt := 3) X.1 X.2.1 d_P_endDeadlines_94 (by decide) ?_
            exact ih (j + 1) T _ _ _ (by omega) (by omega) (by rw [show eD S i p0 t (j + 1) = eD1 (eD S i p0 t j) i p0 t j from rfl, ← hT, eD1, if_neg c1, if_neg c2]) hC hY (lv_sub hl [0, 2, 3, 4] rfl)
          · refine lv_aload_n X.1 X.2.1 d_P_endDeadlines_46 rfl (lv_at hl 2 rfl) ?_
            refine lv_aload_n X.1 X.2.1 d_P_endDeadlines_47 rfl (lv_at hl 2 rfl) ?_
            refine hm_get ⟨X, hK.1⟩ hY (w4 hiT) 10 (v := .int (T.I 17 i 0)) rfl rfl (Nat.le_of_ble_eq_true rfl) hu_P m_456 (fun _ h => h) d_P_endDeadlines_48 ?_
            refine lv_if_ne (tgt := 77) X.1 X.2.1 d_P_endDeadlines_51 (by decide) (fun c3 => ?_) (fun c3 => ?_)
            · refine lv_iconst (v := 1) X.1 X.2.1 d_P_endDeadlines_77 (by decide) ?_
              refine lv_goto (tgt := 82) X.1 X.2.1 d_P_endDeadlines_78 (by decide) ?_
              refine hm_put ⟨X, hK.1⟩ hY (w4 hiT) 10 rfl (Nat.le_of_ble_eq_true rfl) (Nat.le_of_ble_eq_true rfl) hu_P ty_P ty_P_ok nm_P m_456 (fun _ h => h) rfl rfl rfl d_P_endDeadlines_82 (fun H locs hY => ?_)
              have hY : hm_Y D cls A s.heap (wS G (T.sI 17 i 0 1) ω) H locs := by rw [← fo_P_10 (S := T) (v := 1) hiT]; exact hY
              refine lv_aload X.1 X.2.1 d_P_endDeadlines_85 (lv_at hl 0 rfl) ?_
              refine lv_iconst (v := 0) X.1 X.2.1 d_P_endDeadlines_87 (by decide) ?_
              refine hm_put ⟨X, hK.1⟩ hY (w8 hiT hj) 5 rfl (Nat.le_of_ble_eq_true rfl) (Nat.le_of_ble_eq_true rfl) hu_D ty_D ty_D_ok nm_D m_173 (fun _ h => h) rfl rfl rfl d_P_endDeadlines_88 (fun H locs hY => ?_)
              have hY : hm_Y D cls A s.heap (wS G ((T.sI 17 i 0 1).sI 23 i j 0) ω) H locs := by rw [← fo_D_5 (S := (T.sI 17 i 0 1)) (v := 0) hiT hj]; exact hY
              refine lv_iinc (v := nI (j + 1)) (lv' := [(4, .int (nI (j + 1))), (5, .ref (T.ad 8 i j)), (0, .ref (T.ad 4 i 0)), (1, .int p0), (2, .long t)]) X.1 X.2.1 d_P_endDeadlines_91 hl (k := 1) rfl (nI_1 j) (by decide) rfl (fun ls hl => ?_)
              refine lv_goto (tgt := 3) X.1 X.2.1 d_P_endDeadlines_94 (by decide) ?_
              exact ih (j + 1) ((T.sI 17 i 0 1).sI 23 i j 0) _ _ _ (by omega) (by omega) (by rw [show eD S i p0 t (j + 1) = eD1 (eD S i p0 t j) i p0 t j from rfl, ← hT, eD1, if_neg c1, if_pos c2, if_neg c3]) hC hY (lv_sub hl [0, 2, 3, 4] rfl)
            · refine lv_lload_n X.1 X.2.1 d_P_endDeadlines_54 rfl (lv_at hl 4 rfl) ?_
              refine lv_aload X.1 X.2.1 d_P_endDeadlines_55 (lv_at hl 0 rfl) ?_
              refine hm_get ⟨X, hK.1⟩ hY (w8 hiT hj) 6 (v := .long (T.J 22 i j)) rfl rfl (Nat.le_of_ble_eq_true rfl) hu_D m_175 (fun _ h => h) d_P_endDeadlines_57 ?_
              refine lv_lsub X.1 X.2.1 d_P_endDeadlines_60 ?_
              refine lv_aload X.1 X.2.1 d_P_endDeadlines_61 (lv_at hl 0 rfl) ?_
              refine hm_get ⟨X, hK.1⟩ hY (w8 hiT hj) 3 (v := .long (T.J 20 i j)) rfl rfl (Nat.le_of_ble_eq_true rfl) hu_D m_169 (fun _ h => h) d_P_endDeadlines_63 ?_
              refine lv_aload X.1 X.2.1 d_P_endDeadlines_66 (lv_at hl 0 rfl) ?_
              refine hm_get ⟨X, hK.1⟩ hY (w8 hiT hj) 4 (v := .long (T.J 21 i j)) rfl rfl (Nat.le_of_ble_eq_true rfl) hu_D m_171 (fun _ h => h) d_P_endDeadlines_68 ?_
              refine hm_callR (ct_runN (n := 3) X hK hY (k_W_isWithin l D A G (wS G T ω) (t - T.J 22 i j) (T.J 20 i j) (T.J 21 i j)) m_119 hK.2.1.1 m_118 m_1 (by decide +kernel) ⟨Nat.le_of_ble_eq_true rfl, Nat.le_of_ble_eq_true rfl⟩ ⟨rfl, rfl⟩ rfl hl.1 rfl (Nat.le_of_ble_eq_true rfl) d_P_endDeadlines_71 ⟨Nat.le_of_ble_eq_true rfl, Nat.le_of_ble_eq_true rfl⟩) (fun v hv => ?_)
              subst hv
              refine W.eq (g2 := F0 m 74 ls [.int (b2 (T.J 20 i j ≤ t - T.J 22 i j ∧ t - T.J 22 i j ≤ T.J 21 i j)), .ref (T.ad 4 i 0)]) rfl ?_
              refine lv_if_ne (tgt := 81) X.1 X.2.1 d_P_endDeadlines_74 (by decide) (fun c4 => ?_) (fun c4 => ?_)
              · have c4 : (T.J 20 i j ≤ t - T.J 22 i j ∧ t - T.J 22 i j ≤ T.J 21 i j) := Classical.byContradiction (fun z => c4 (b2_0.mpr z))
                refine lv_iconst (v := 0) X.1 X.2.1 d_P_endDeadlines_81 (by decide) ?_
                refine hm_put ⟨X, hK.1⟩ hY (w4 hiT) 10 rfl (Nat.le_of_ble_eq_true rfl) (Nat.le_of_ble_eq_true rfl) hu_P ty_P ty_P_ok nm_P m_456 (fun _ h => h) rfl rfl rfl d_P_endDeadlines_82 (fun H locs hY => ?_)
                have hY : hm_Y D cls A s.heap (wS G (T.sI 17 i 0 0) ω) H locs := by rw [← fo_P_10 (S := T) (v := 0) hiT]; exact hY
                refine lv_aload X.1 X.2.1 d_P_endDeadlines_85 (lv_at hl 0 rfl) ?_
                refine lv_iconst (v := 0) X.1 X.2.1 d_P_endDeadlines_87 (by decide) ?_
                refine hm_put ⟨X, hK.1⟩ hY (w8 hiT hj) 5 rfl (Nat.le_of_ble_eq_true rfl) (Nat.le_of_ble_eq_true rfl) hu_D ty_D ty_D_ok nm_D m_173 (fun _ h => h) rfl rfl rfl d_P_endDeadlines_88 (fun H locs hY => ?_)
                have hY : hm_Y D cls A s.heap (wS G ((T.sI 17 i 0 0).sI 23 i j 0) ω) H locs := by rw [← fo_D_5 (S := (T.sI 17 i 0 0)) (v := 0) hiT hj]; exact hY
                refine lv_iinc (v := nI (j + 1)) (lv' := [(4, .int (nI (j + 1))), (5, .ref (T.ad 8 i j)), (0, .ref (T.ad 4 i 0)), (1, .int p0), (2, .long t)]) X.1 X.2.1 d_P_endDeadlines_91 hl (k := 1) rfl (nI_1 j) (by decide) rfl (fun ls hl => ?_)
                refine lv_goto (tgt := 3) X.1 X.2.1 d_P_endDeadlines_94 (by decide) ?_
                exact ih (j + 1) ((T.sI 17 i 0 0).sI 23 i j 0) _ _ _ (by omega) (by omega) (by rw [show eD S i p0 t (j + 1) = eD1 (eD S i p0 t j) i p0 t j from rfl, ← hT, eD1, if_neg c1, if_pos c2, if_pos c3, if_pos c4]) hC hY (lv_sub hl [0, 2, 3, 4] rfl)
              · have c4 : ¬ (T.J 20 i j ≤ t - T.J 22 i j ∧ t - T.J 22 i j ≤ T.J 21 i j) := b2_0.mp c4
                refine lv_iconst (v := 1) X.1 X.2.1 d_P_endDeadlines_77 (by decide) ?_
                refine lv_goto (tgt := 82) X.1 X.2.1 d_P_endDeadlines_78 (by decide) ?_
                refine hm_put ⟨X, hK.1⟩ hY (w4 hiT) 10 rfl (Nat.le_of_ble_eq_true rfl) (Nat.le_of_ble_eq_true rfl) hu_P ty_P ty_P_ok nm_P m_456 (fun _ h => h) rfl rfl rfl d_P_endDeadlines_82 (fun H locs hY => ?_)
                have hY : hm_Y D cls A s.heap (wS G (T.sI 17 i 0 1) ω) H locs := by rw [← fo_P_10 (S := T) (v := 1) hiT]; exact hY
                refine lv_aload X.1 X.2.1 d_P_endDeadlines_85 (lv_at hl 0 rfl) ?_
                refine lv_iconst (v := 0) X.1 X.2.1 d_P_endDeadlines_87 (by decide) ?_
                refine hm_put ⟨X, hK.1⟩ hY (w8 hiT hj) 5 rfl (Nat.le_of_ble_eq_true rfl) (Nat.le_of_ble_eq_true rfl) hu_D ty_D ty_D_ok nm_D m_173 (fun _ h => h) rfl rfl rfl d_P_endDeadlines_88 (fun H locs hY => ?_)
                have hY : hm_Y D cls A s.heap (wS G ((T.sI 17 i 0 1).sI 23 i j 0) ω) H locs := by rw [← fo_D_5 (S := (T.sI 17 i 0 1)) (v := 0) hiT hj]; exact hY
                refine lv_iinc (v := nI (j + 1)) (lv' := [(4, .int (nI (j + 1))), (5, .ref (T.ad 8 i j)), (0, .ref (T.ad 4 i 0)), (1, .int p0), (2, .long t)]) X.1 X.2.1 d_P_endDeadlines_91 hl (k := 1) rfl (nI_1 j) (by decide) rfl (fun ls hl => ?_)
                refine lv_goto (tgt := 3) X.1 X.2.1 d_P_endDeadlines_94 (by decide) ?_
                exact ih (j + 1) ((T.sI 17 i 0 1).sI 23 i j 0) _ _ _ (by omega) (by omega) (by rw [show eD S i p0 t (j + 1) = eD1 (eD S i p0 t j) i p0 t j from rfl, ← hT, eD1, if_neg c1, if_pos c2, if_pos c3, if_neg c4]) hC hY (lv_sub hl [0, 2, 3, 4] rfl)
  exact loop (S.C 1 i + 1) 0 S ls _ _ (Nat.zero_le _) (by omega) rfl rfl hY (lv_sub hl [0, 1, 2, 3] rfl)

set_option maxHeartbeats 4000000 in
set_option maxRecDepth 100000 in
theorem k_P_beginDeadlines (l : Launch) (D : va_G) (A : Nat → Prop) (G : Nat → Nat) (S : cS) (ω : hm_T) (i : Nat) (hi : i < S.C 0 0) (h10 : S.C 1 i ≤ 10) (mo p0 : Int32) (t : Int64) : Met l y_P_beginDeadlines (.code y_P_beginDeadlines c_P_beginDeadlines 7 (none : Option FieldType) :: wsA) { frames := 3, cells := 0, slots := 0, locals := 64 } (va_Pc [.ref (S.ad 4 i 0), .int mo, .int p0, .long t] (ctU D A G (wS G S ω))) (hm_Q D cls A (fun v w => v = none ∧ w = wS G (bD S i mo p0 t (S.C 1 i)) ω)) 0 0 A := by
  refine ct_met (by decide) (Nat.le_of_ble_eq_true rfl) ?_
  rintro p e s m below meth c ls X hr hlocks hnm hl ⟨hB, hK⟩
  have hl : lv_has ls 7 [(0, .ref (S.ad 4 i 0)), (1, .int mo), (2, .int p0), (3, .long t)] := hl
  have hY : hm_Y D cls A s.heap (wS G S ω) s.heap [] := hm_Y.start hB hK.2.2.2
  refine lv_iconst (v := 0) X.1 X.2.1 d_P_beginDeadlines_0 (by decide) ?_
  refine lv_istore (lv' := [(5, .int 0), (0, .ref (S.ad 4 i 0)), (1, .int mo), (2, .int p0), (3, .long t)]) X.1 X.2.1 d_P_beginDeadlines_1 hl (by decide) rfl (fun ls hl => ?_)
  have loop : ∀ (k j : Nat) (T : cS) (ls : Array Slot) (H : Heap) (locs : List Loc), j ≤ S.C 1 i → S.C 1 i < j + k → T = bD S i mo p0 t j → T.C = S.C → hm_Y D cls A s.heap (wS G T ω) H locs → lv_has ls 7 [(5, .int (nI j)), (0, .ref (T.ad 4 i 0)), (1, .int mo), (2, .int p0), (3, .long t)] → W p l e { frames := 3, cells := 0, slots := 0, locals := 64 } s m (([.ref (S.ad 4 i 0), .int mo, .int p0, .long t] : List Value).toArray) below meth c H locs 0 0 (MQ below (hm_Q D cls A (fun v w => v = none ∧ w = wS G (bD S i mo p0 t (S.C 1 i)) ω)) (([.ref (S.ad 4 i 0), .int mo, .int p0, .long t] : List Value).toArray) s 0 0 A) (F0 m 3 ls []) := by
    intro k
    induction k with
    | zero => intro j T ls H locs hle hlt; omega
    | succ k ih =>
      intro j T ls H locs hle hlt hT hC hY hl
      have hiT : i < T.C 0 0 := by rw [hC]; exact hi
      refine lv_iload X.1 X.2.1 d_P_beginDeadlines_3 (lv_at hl 0 rfl) ?_
      refine lv_aload_n X.1 X.2.1 d_P_beginDeadlines_5 rfl (lv_at hl 1 rfl) ?_
      refine hm_get ⟨X, hK.1⟩ hY (w4 hiT) 4 (v := .ref (T.ad 6 i 0)) rfl rfl (Nat.le_of_ble_eq_true rfl) hu_P m_447 (fun _ h => h) d_P_beginDeadlines_6 ?_
      refine hm_callR (ct_runV (n := 0) X hK hY (k_size6 l D A G T ω i hiT) m_116 m_263 m_114 m_115 m_4 (by decide +kernel) ⟨Nat.le_of_ble_eq_true rfl, Nat.le_of_ble_eq_true rfl⟩ ⟨rfl, rfl⟩ (hm_recv ⟨X, hK.1⟩ hY (w6 hiT) rfl) rfl hl.1 rfl (Nat.le_of_ble_eq_true rfl) d_P_beginDeadlines_9 ⟨Nat.le_of_ble_eq_true rfl, Nat.le_of_ble_eq_true rfl⟩) (fun v hv => ?_)
      subst hv
      refine W.eq (g2 := F0 m 12 ls [.int (nI (T.C 1 i)), .int (nI j)]) rfl ?_
      have hn : T.C 1 i = S.C 1 i := by rw [hC]
      refine lv_icmp_ge (tgt := 65) X.1 X.2.1 d_P_beginDeadlines_12 (by decide) (fun c0 => ?_) (fun c0 => ?_)
      · have hj : j = T.C 1 i := by rcases Nat.lt_or_ge j (T.C 1 i) with q | q; exact absurd c0 (nI_ge q (by omega)); omega
        exact en_vW X hY hr hlocks d_P_beginDeadlines_65 (⟨rfl, by rw [hT, hj, hn]⟩)
      · have hj : j < T.C 1 i := by rcases Nat.lt_or_ge j (T.C 1 i) with q | q; exact q; exact absurd (nI_le q (by omega)) c0
        refine lv_aload_n X.1 X.2.1 d_P_beginDeadlines_15 rfl (lv_at hl 1 rfl) ?_
        refine hm_get ⟨X, hK.1⟩ hY (w4 hiT) 4 (v := .ref (T.ad 6 i 0)) rfl rfl (Nat.le_of_ble_eq_true rfl) hu_P m_447 (fun _ h => h) d_P_beginDeadlines_16 ?_
        refine lv_iload X.1 X.2.1 d_P_beginDeadlines_19 (lv_at hl 0 rfl) ?_
        refine hm_callR (ct_runV (n := 1) X hK hY (k_get6 l D A G T ω i j hiT hj (by rw [hC]; exact h10)) m_123 m_264 m_121 m_122 m_4 (by decide +kernel) ⟨Nat.le_of_ble_eq_true rfl, Nat.le_of_ble_eq_true rfl⟩ ⟨rfl, rfl⟩ (hm_recv ⟨X, hK.1⟩ hY (w6 hiT) rfl) rfl hl.1 rfl (Nat.le_of_ble_eq_true rfl) d_P_beginDeadlines_21 ⟨Nat.le_of_ble_eq_true rfl, Nat.le_of_ble_eq_true rfl⟩) (fun v hv => ?_)
        subst hv
        refine W.eq (g2 := F0 m 24 ls [.ref (T.ad 8 i j)]) rfl ?_
        refine va_castY X.1 X.2.1 X.2.2.2.1 (X.2.2.2.2 _ m_265) hK.2.1.2.2.2.1 (hm_recv ⟨X, hK.1⟩ hY (w8 hiT hj) rfl) d_P_beginDeadlines_24 ?_
        refine lv_astore (lv' := [(6, .ref (T.ad 8 i j)), (5, .int (nI j)), (0, .ref (T.ad 4 i 0)), (1, .int mo), (2, .int p0), (3, .long t)]) X.1 X.2.1 d_P_beginDeadlines_27 hl (by decide) rfl (fun ls hl => ?_)
        refine lv_aload X.1 X.2.1 d_P_beginDeadlines_29 (lv_at hl 0 rfl) ?_
        refine hm_get ⟨X, hK.1⟩ hY (w8 hiT hj) 0 (v := .int (T.I 20 i j)) rfl rfl (Nat.le_of_ble_eq_true rfl) hu_D m_163 (fun _ h => h) d_P_beginDeadlines_31 ?_
        refine lv_iload_n X.1 X.2.1 d_P_beginDeadlines_34 rfl (lv_at hl 3 rfl) ?_
        refine lv_icmp_ne (tgt := 59) X.1 X.2.1 d_P_beginDeadlines_35 (by decide) (fun c1 => ?_) (fun c1 => ?_)
        · refine lv_iinc (v := nI (j + 1)) (lv' := [(5, .int (nI (j + 1))), (6, .ref (T.ad 8 i j)), (0, .ref (T.ad 4 i 0)), (1, .int mo), (2, .int p0), (3, .long t)]) X.1 X.2.1 d_P_beginDeadlines_59 hl (k := 1) rfl (nI_1 j) (by decide) rfl (fun ls hl => ?_)
          refine lv_goto (tgt := 3) X.1 X.2.1 d_P_beginDeadlines_62 (by decide) ?_
          exact ih (j + 1) T _ _ _ (by omega) (by omega) (by rw [show bD S i mo p0 t (j + 1) = bD1 (bD S i mo p0 t j) i mo p0 t j from rfl, ← hT, bD1, if_neg c1]) hC hY (lv_sub hl [0, 2, 3, 4, 5] rfl)
        · refine lv_aload X.1 X.2.1 d_P_beginDeadlines_38 (lv_at hl 0 rfl) ?_
          refine hm_get ⟨X, hK.1⟩ hY (w8 hiT hj) 1 (v := .int (T.I 21 i j)) rfl rfl (Nat.le_of_ble_eq_true rfl) hu_D m_165 (fun _ h => h) d_P_beginDeadlines_40 ?_
          refine lv_iload_n X.1 X.2.1 d_P_beginDeadlines_43 rfl (lv_at hl 4 rfl) ?_
          refine lv_icmp_ne (tgt := 59) X.1 X.2.1 d_P_beginDeadlines_44 (by decide) (fun c2 => ?_) (fun c2 => ?_)
          · refine lv_iinc (v := nI (j + 1)) (lv' := [(5, .int (nI (j + 1))), (6, .ref (T.ad 8 i j)), (0, .ref (T.ad 4 i 0)), (1, .int mo), (2, .int p0), (3, .long t)]) X.1 X.2.1 d_P_beginDeadlines_59 hl (k := 1) rfl (nI_1 j) (by decide) rfl (fun ls hl => ?_)
            refine lv_goto (tgt := 3) X.1 X.2.1 d_P_beginDeadlines_62 (by decide) ?_
            exact ih (j + 1) T _ _ _ (by omega) (by omega) (by rw [show bD S i mo p0 t (j + 1) = bD1 (bD S i mo p0 t j) i mo p0 t j from rfl, ← hT, bD1, if_pos c1, if_neg c2]) hC hY (lv_sub hl [0, 2, 3, 4, 5] rfl)
          · refine lv_aload X.1 X.2.1 d_P_beginDeadlines_47 (lv_at hl 0 rfl) ?_
            refine lv_iconst (v := 1) X.1 X.2.1 d_P_beginDeadlines_49 (by decide) ?_
            refine hm_put ⟨X, hK.1⟩ hY (w8 hiT hj) 5 rfl (Nat.le_of_ble_eq_true rfl) (Nat.le_of_ble_eq_true rfl) hu_D ty_D ty_D_ok nm_D m_173 (fun _ h => h) rfl rfl rfl d_P_beginDeadlines_50 (fun H locs hY => ?_)
            have hY : hm_Y D cls A s.heap (wS G (T.sI 23 i j 1) ω) H locs := by rw [← fo_D_5 (S := T) (v := 1) hiT hj]; exact hY
            refine lv_aload X.1 X.2.1 d_P_beginDeadlines_53 (lv_at hl 0 rfl) ?_
            refine lv_lload_n X.1 X.2.1 d_P_beginDeadlines_55 rfl (lv_at hl 5 rfl) ?_
            refine hm_put ⟨X, hK.1⟩ hY (w8 hiT hj) 6 rfl (Nat.le_of_ble_eq_true rfl) (Nat.le_of_ble_eq_true rfl) hu_D ty_D ty_D_ok nm_D m_175 (fun _ h => h) rfl rfl rfl d_P_beginDeadlines_56 (fun H locs hY => ?_)
            have hY : hm_Y D cls A s.heap (wS G ((T.sI 23 i j 1).sJ 22 i j t) ω) H locs := by rw [← fo_D_6 (S := (T.sI 23 i j 1)) (v := t) hiT hj]; exact hY
            refine lv_iinc (v := nI (j + 1)) (lv' := [(5, .int (nI (j + 1))), (6, .ref (T.ad 8 i j)), (0, .ref (T.ad 4 i 0)), (1, .int mo), (2, .int p0), (3, .long t)]) X.1 X.2.1 d_P_beginDeadlines_59 hl (k := 1) rfl (nI_1 j) (by decide) rfl (fun ls hl => ?_)
            refine lv_goto (tgt := 3) X.1 X.2.1 d_P_beginDeadlines_62 (by decide) ?_
            exact ih (j + 1) ((T.sI 23 i j 1).sJ 22 i j t) _ _ _ (by omega) (by omega) (by rw [show bD S i mo p0 t (j + 1) = bD1 (bD S i mo p0 t j) i mo p0 t j from rfl, ← hT, bD1, if_pos c1, if_pos c2]) hC hY (lv_sub hl [0, 2, 3, 4, 5] rfl)
  exact loop (S.C 1 i + 1) 0 S ls _ _ (Nat.zero_le _) (by omega) rfl rfl hY (lv_sub hl [0, 1, 2, 3, 4] rfl)

set_option maxHeartbeats 4000000 in
set_option maxRecDepth 100000 in
theorem k_P_stopLateDeadlines (l : Launch) (D : va_G) (A : Nat → Prop) (G : Nat → Nat) (S : cS) (ω : hm_T) (i : Nat) (hi : i < S.C 0 0) (h10 : S.C 1 i ≤ 10) (t : Int64) : Met l y_P_stopLateDeadlines (.code y_P_stopLateDeadlines c_P_stopLateDeadlines 5 (none : Option FieldType) :: wsA) { frames := 3, cells := 0, slots := 0, locals := 64 } (va_Pc [.ref (S.ad 4 i 0), .long t] (ctU D A G (wS G S ω))) (hm_Q D cls A (fun v w => v = none ∧ w = wS G (sD S i t (S.C 1 i)) ω)) 0 0 A := by
  refine ct_met (by decide) (Nat.le_of_ble_eq_true rfl) ?_
  rintro p e s m below meth c ls X hr hlocks hnm hl ⟨hB, hK⟩
  have hl : lv_has ls 5 [(0, .ref (S.ad 4 i 0)), (1, .long t)] := hl
  have hY : hm_Y D cls A s.heap (wS G S ω) s.heap [] := hm_Y.start hB hK.2.2.2
  refine lv_iconst (v := 0) X.1 X.2.1 d_P_stopLateDeadlines_0 (by decide) ?_
  refine lv_istore_n (lv' := [(3, .int 0), (0, .ref (S.ad 4 i 0)), (1, .long t)]) X.1 X.2.1 d_P_stopLateDeadlines_1 rfl hl (by decide) rfl (fun ls hl => ?_)
  have loop : ∀ (k j : Nat) (T : cS) (ls : Array Slot) (H : Heap) (locs : List Loc), j ≤ S.C 1 i → S.C 1 i < j + k → T = sD S i t j → T.C = S.C → hm_Y D cls A s.heap (wS G T ω) H locs → lv_has ls 5 [(3, .int (nI j)), (0, .ref (T.ad 4 i 0)), (1, .long t)] → W p l e { frames := 3, cells := 0, slots := 0, locals := 64 } s m (([.ref (S.ad 4 i 0), .long t] : List Value).toArray) below meth c H locs 0 0 (MQ below (hm_Q D cls A (fun v w => v = none ∧ w = wS G (sD S i t (S.C 1 i)) ω)) (([.ref (S.ad 4 i 0), .long t] : List Value).toArray) s 0 0 A) (F0 m 2 ls []) := by
    intro k
    induction k with
    | zero => intro j T ls H locs hle hlt; omega
    | succ k ih =>
      intro j T ls H locs hle hlt hT hC hY hl
      have hiT : i < T.C 0 0 := by rw [hC]; exact hi
      refine lv_iload_n X.1 X.2.1 d_P_stopLateDeadlines_2 rfl (lv_at hl 0 rfl) ?_
      refine lv_aload_n X.1 X.2.1 d_P_stopLateDeadlines_3 rfl (lv_at hl 1 rfl) ?_
      refine hm_get ⟨X, hK.1⟩ hY (w4 hiT) 4 (v := .ref (T.ad 6 i 0)) rfl rfl (Nat.le_of_ble_eq_true rfl) hu_P m_447 (fun _ h => h) d_P_stopLateDeadlines_4 ?_
      refine hm_callR (ct_runV (n := 0) X hK hY (k_size6 l D A G T ω i hiT) m_116 m_263 m_114 m_115 m_4 (by decide +kernel) ⟨Nat.le_of_ble_eq_true rfl, Nat.le_of_ble_eq_true rfl⟩ ⟨rfl, rfl⟩ (hm_recv ⟨X, hK.1⟩ hY (w6 hiT) rfl) rfl hl.1 rfl (Nat.le_of_ble_eq_true rfl) d_P_stopLateDeadlines_7 ⟨Nat.le_of_ble_eq_true rfl, Nat.le_of_ble_eq_true rfl⟩) (fun v hv => ?_)
      subst hv
      refine W.eq (g2 := F0 m 10 ls [.int (nI (T.C 1 i)), .int (nI j)]) rfl ?_
      have hn : T.C 1 i = S.C 1 i := by rw [hC]
      refine lv_icmp_ge (tgt := 67) X.1 X.2.1 d_P_stopLateDeadlines_10 (by decide) (fun c0 => ?_) (fun c0 => ?_)
      · have hj : j = T.C 1 i := by rcases Nat.lt_or_ge j (T.C 1 i) with q | q; exact absurd c0 (nI_ge q (by omega)); omega
        exact en_vW X hY hr hlocks d_P_stopLateDeadlines_67 (⟨rfl, by rw [hT, hj, hn]⟩)
      · have hj : j < T.C 1 i := by rcases Nat.lt_or_ge j (T.C 1 i) with q | q; exact q; exact absurd (nI_le q (by omega)) c0
        refine lv_aload_n X.1 X.2.1 d_P_stopLateDeadlines_13 rfl (lv_at hl 1 rfl) ?_
        refine hm_get ⟨X, hK.1⟩ hY (w4 hiT) 4 (v := .ref (T.ad 6 i 0)) rfl rfl (Nat.le_of_ble_eq_true rfl) hu_P m_447 (fun _ h => h) d_P_stopLateDeadlines_14 ?_
        refine lv_iload_n X.1 X.2.1 d_P_stopLateDeadlines_17 rfl (lv_at hl 0 rfl) ?_
        refine hm_callR (ct_runV (n := 1) X hK hY (k_get6 l D A G T ω i j hiT hj (by rw [hC]; exact h10)) m_123 m_264 m_121 m_122 m_4 (by decide +kernel) ⟨Nat.le_of_ble_eq_true rfl, Nat.le_of_ble_eq_true rfl⟩ ⟨rfl, rfl⟩ (hm_recv ⟨X, hK.1⟩ hY (w6 hiT) rfl) rfl hl.1 rfl (Nat.le_of_ble_eq_true rfl) d_P_stopLateDeadlines_18 ⟨Nat.le_of_ble_eq_true rfl, Nat.le_of_ble_eq_true rfl⟩) (fun v hv => ?_)
        subst hv
        refine W.eq (g2 := F0 m 21 ls [.ref (T.ad 8 i j)]) rfl ?_
        refine va_castY X.1 X.2.1 X.2.2.2.1 (X.2.2.2.2 _ m_265) hK.2.1.2.2.2.1 (hm_recv ⟨X, hK.1⟩ hY (w8 hiT hj) rfl) d_P_stopLateDeadlines_21 ?_
        refine lv_astore (lv' := [(4, .ref (T.ad 8 i j)), (3, .int (nI j)), (0, .ref (T.ad 4 i 0)), (1, .long t)]) X.1 X.2.1 d_P_stopLateDeadlines_24 hl (by decide) rfl (fun ls hl => ?_)
        refine lv_aload X.1 X.2.1 d_P_stopLateDeadlines_26 (lv_at hl 0 rfl) ?_
        refine hm_get ⟨X, hK.1⟩ hY (w8 hiT hj) 5 (v := .int (T.I 23 i j)) rfl rfl (Nat.le_of_ble_eq_true rfl) hu_D m_173 (fun _ h => h) d_P_stopLateDeadlines_28 ?_
        refine lv_if_eq (tgt := 61) X.1 X.2.1 d_P_stopLateDeadlines_31 (by decide) (fun c1 => ?_) (fun c1 => ?_)
        · refine lv_iinc (v := nI (j + 1)) (lv' := [(3, .int (nI (j + 1))), (4, .ref (T.ad 8 i j)), (0, .ref (T.ad 4 i 0)), (1, .long t)]) X.1 X.2.1 d_P_stopLateDeadlines_61 hl (k := 1) rfl (nI_1 j) (by decide) rfl (fun ls hl => ?_)
          refine lv_goto (tgt := 2) X.1 X.2.1 d_P_stopLateDeadlines_64 (by decide) ?_
          exact ih (j + 1) T _ _ _ (by omega) (by omega) (by rw [show sD S i t (j + 1) = sD1 (sD S i t j) i t j from rfl, ← hT, sD1, if_pos c1]) hC hY (lv_sub hl [0, 2, 3] rfl)
        · refine lv_lload_n X.1 X.2.1 d_P_stopLateDeadlines_34 rfl (lv_at hl 3 rfl) ?_
          refine lv_aload X.1 X.2.1 d_P_stopLateDeadlines_35 (lv_at hl 0 rfl) ?_
          refine hm_get ⟨X, hK.1⟩ hY (w8 hiT hj) 6 (v := .long (T.J 22 i j)) rfl rfl (Nat.le_of_ble_eq_true rfl) hu_D m_175 (fun _ h => h) d_P_stopLateDeadlines_37 ?_
          refine lv_lsub X.1 X.2.1 d_P_stopLateDeadlines_40 ?_
          refine lv_aload X.1 X.2.1 d_P_stopLateDeadlines_41 (lv_at hl 0 rfl) ?_
          refine hm_get ⟨X, hK.1⟩ hY (w8 hiT hj) 4 (v := .long (T.J 21 i j)) rfl rfl (Nat.le_of_ble_eq_true rfl) hu_D m_171 (fun _ h => h) d_P_stopLateDeadlines_43 ?_
          refine lc_le (tgt := 61) X d_P_stopLateDeadlines_46 d_P_stopLateDeadlines_47 (by decide) (fun c2 => ?_) (fun c2 => ?_)
          · refine lv_iinc (v := nI (j + 1)) (lv' := [(3, .int (nI (j + 1))), (4, .ref (T.ad 8 i j)), (0, .ref (T.ad 4 i 0)), (1, .long t)]) X.1 X.2.1 d_P_stopLateDeadlines_61 hl (k := 1) rfl (nI_1 j) (by decide) rfl (fun ls hl => ?_)
            refine lv_goto (tgt := 2) X.1 X.2.1 d_P_stopLateDeadlines_64 (by decide) ?_
            exact ih (j + 1) T _ _ _ (by omega) (by omega) (by rw [show sD S i t (j + 1) = sD1 (sD S i t j) i t j from rfl, ← hT, sD1, if_neg c1, if_pos c2]) hC hY (lv_sub hl [0, 2, 3] rfl)
          · refine lv_aload_n X.1 X.2.1 d_P_stopLateDeadlines_50 rfl (lv_at hl 2 rfl) ?_
            refine lv_iconst (v := 1) X.1 X.2.1 d_P_stopLateDeadlines_51 (by decide) ?_
            refine hm_put ⟨X, hK.1⟩ hY (w4 hiT) 10 rfl (Nat.le_of_ble_eq_true rfl) (Nat.le_of_ble_eq_true rfl) hu_P ty_P ty_P_ok nm_P m_456 (fun _ h => h) rfl rfl rfl d_P_stopLateDeadlines_52 (fun H locs hY => ?_)
            have hY : hm_Y D cls A s.heap (wS G (T.sI 17 i 0 1) ω) H locs := by rw [← fo_P_10 (S := T) (v := 1) hiT]; exact hY
            refine lv_aload X.1 X.2.1 d_P_stopLateDeadlines_55 (lv_at hl 0 rfl) ?_
            refine lv_iconst (v := 0) X.1 X.2.1 d_P_stopLateDeadlines_57 (by decide) ?_
            refine hm_put ⟨X, hK.1⟩ hY (w8 hiT hj) 5 rfl (Nat.le_of_ble_eq_true rfl) (Nat.le_of_ble_eq_true rfl) hu_D ty_D ty_D_ok nm_D m_173 (fun _ h => h) rfl rfl rfl d_P_stopLateDeadlines_58 (fun H locs hY => ?_)
            have hY : hm_Y D cls A s.heap (wS G ((T.sI 17 i 0 1).sI 23 i j 0) ω) H locs := by rw [← fo_D_5 (S := (T.sI 17 i 0 1)) (v := 0) hiT hj]; exact hY
            refine lv_iinc (v := nI (j + 1)) (lv' := [(3, .int (nI (j + 1))), (4, .ref (T.ad 8 i j)), (0, .ref (T.ad 4 i 0)), (1, .long t)]) X.1 X.2.1 d_P_stopLateDeadlines_61 hl (k := 1) rfl (nI_1 j) (by decide) rfl (fun ls hl => ?_)
            refine lv_goto (tgt := 2) X.1 X.2.1 d_P_stopLateDeadlines_64 (by decide) ?_
            exact ih (j + 1) ((T.sI 17 i 0 1).sI 23 i j 0) _ _ _ (by omega) (by omega) (by rw [show sD S i t (j + 1) = sD1 (sD S i t j) i t j from rfl, ← hT, sD1, if_neg c1, if_neg c2]) hC hY (lv_sub hl [0, 2, 3] rfl)
  exact loop (S.C 1 i + 1) 0 S ls _ _ (Nat.zero_le _) (by omega) rfl rfl hY (lv_sub hl [0, 1, 2] rfl)
