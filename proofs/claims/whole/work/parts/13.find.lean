theorem i64_1 : (1 : Int64).toInt = 1 := by decide
/-- a part's number -/
theorem pn_iff {x : Int32} {n : Nat} (hn : n < 2 ^ 31) : (1 ≤ x.toInt64 ∧ x.toInt64 ≤ (nI n).toInt64) ↔ ∃ i, i < n ∧ x = nI (i + 1) := by
  constructor
  · intro ⟨h1, h2⟩
    have h1 := Int64.le_iff_toInt_le.mp h1
    have h2 := Int64.le_iff_toInt_le.mp h2
    rw [Int32.toInt_toInt64] at h1 h2
    rw [i64_1] at h1
    rw [Int32.toInt_toInt64, nI_toInt hn] at h2
    refine ⟨x.toInt.toNat - 1, by omega, ?_⟩
    apply Int32.toInt_inj.mp
    rw [nI_toInt (by omega)]
    omega
  · rintro ⟨i, hi, rfl⟩
    constructor
    · apply Int64.le_iff_toInt_le.mpr
      rw [Int32.toInt_toInt64, nI_toInt (by omega), i64_1]
      omega
    · apply Int64.le_iff_toInt_le.mpr
      rw [Int32.toInt_toInt64, Int32.toInt_toInt64, nI_toInt (by omega), nI_toInt hn]
      omega
theorem nI_sub1 (i : Nat) : nI (i + 1) - 1 = nI i := nI_pred i
def wst (S : cS) : Nat → Int32
  | 0 => 0
  | i + 1 => if wst S i < S.I 13 i 0 then S.I 13 i 0 else wst S i

set_option maxHeartbeats 4000000 in
set_option maxRecDepth 100000 in
theorem k_findPart (l : Launch) (D : va_G) (A : Nat → Prop) (G : Nat → Nat) (S : cS) (ω : hm_T) (i : Nat) (hi : i < S.C 0 0) (h20 : S.C 0 0 ≤ 20) : Met l y_W_findPart (.code y_W_findPart c_W_findPart 2 (some (.object "WatchRows2$Part")) :: wsA) { frames := 3, cells := 0, slots := 0, locals := 64 } (va_Pc [.ref (S.ad 0 0 0), .int (nI (i + 1))] (ctU D A G (wS G S ω))) (hm_R (fun v => v = some (.ref (S.ad 4 i 0)))) 0 0 (fun _ => False) := by
  refine ct_met (by decide) (Nat.le_of_ble_eq_true rfl) ?_
  rintro p e s m below meth c ls X hr hlocks hnm hl ⟨hB, hK⟩
  have hl : lv_has ls 2 [(0, .ref (S.ad 0 0 0)), (1, .int (nI (i + 1)))] := hl
  have hY : hm_Y D cls A s.heap (wS G S ω) s.heap [] := hm_Y.start hB hK.2.2.2
  refine lv_iload_n X.1 X.2.1 d_W_findPart_0 rfl (lv_at hl 1 rfl) ?_
  refine lv_i2l (v := (nI (i + 1)).toInt64) X.1 X.2.1 d_W_findPart_1 rfl ?_
  refine lv_lconst (v := 1) X.1 X.2.1 d_W_findPart_2 (by decide) ?_
  refine lv_aload_n X.1 X.2.1 d_W_findPart_3 rfl (lv_at hl 0 rfl) ?_
  refine hm_get ⟨X, hK.1⟩ hY w0 0 (v := .ref (S.ad 1 0 0)) rfl rfl (Nat.le_of_ble_eq_true rfl) hu_W m_74 (fun _ h => h) d_W_findPart_4 ?_
  refine hm_callR (ct_runV (n := 0) X hK hY (k_size1 l D A G S ω) m_116 m_113 m_114 m_115 m_4 (by decide +kernel) ⟨Nat.le_of_ble_eq_true rfl, Nat.le_of_ble_eq_true rfl⟩ ⟨rfl, rfl⟩ (hm_recv ⟨X, hK.1⟩ hY w1 rfl) rfl hl.1 rfl (Nat.le_of_ble_eq_true rfl) d_W_findPart_7 ⟨Nat.le_of_ble_eq_true rfl, Nat.le_of_ble_eq_true rfl⟩) (fun v hv => ?_)
  subst hv
  refine W.eq (g2 := F0 m 10 ls [.int (nI (S.C 0 0)), .long 1, .long ((nI (i + 1)).toInt64)]) rfl ?_
  refine lv_i2l (v := (nI (S.C 0 0)).toInt64) X.1 X.2.1 d_W_findPart_10 rfl ?_
  refine hm_callR (ct_runS (n := 3) X hK hY (k_W_isWithin l D A G (wS G S ω) (nI (i + 1)).toInt64 1 (nI (S.C 0 0)).toInt64) m_119 m_117 m_118 m_1 (by decide +kernel) ⟨Nat.le_of_ble_eq_true rfl, Nat.le_of_ble_eq_true rfl⟩ ⟨rfl, rfl⟩ rfl hl.1 rfl (Nat.le_of_ble_eq_true rfl) d_W_findPart_11 ⟨Nat.le_of_ble_eq_true rfl, Nat.le_of_ble_eq_true rfl⟩) (fun v hv => ?_)
  subst hv
  refine W.eq (g2 := F0 m 14 ls [.int (b2 (1 ≤ (nI (i + 1)).toInt64 ∧ (nI (i + 1)).toInt64 ≤ (nI (S.C 0 0)).toInt64))]) rfl ?_
  refine lv_if_eq (tgt := 33) X.1 X.2.1 d_W_findPart_14 (by decide) (fun c1 => ?_) (fun c1 => ?_)
  · have c1 : ¬ (1 ≤ (nI (i + 1)).toInt64 ∧ (nI (i + 1)).toInt64 ≤ (nI (S.C 0 0)).toInt64) := b2_0.mp c1
    exact absurd ((pn_iff (by omega)).mpr ⟨i, hi, rfl⟩) c1
  · have c1 : (1 ≤ (nI (i + 1)).toInt64 ∧ (nI (i + 1)).toInt64 ≤ (nI (S.C 0 0)).toInt64) := Classical.byContradiction (fun z => c1 (b2_0.mpr z))
    refine lv_aload_n X.1 X.2.1 d_W_findPart_17 rfl (lv_at hl 0 rfl) ?_
    refine hm_get ⟨X, hK.1⟩ hY w0 0 (v := .ref (S.ad 1 0 0)) rfl rfl (Nat.le_of_ble_eq_true rfl) hu_W m_74 (fun _ h => h) d_W_findPart_18 ?_
    refine lv_iload_n X.1 X.2.1 d_W_findPart_21 rfl (lv_at hl 1 rfl) ?_
    refine lv_iconst (v := 1) X.1 X.2.1 d_W_findPart_22 (by decide) ?_
    refine lv_isub X.1 X.2.1 d_W_findPart_23 ?_
    rw [nI_sub1]
    refine hm_callR (ct_runV (n := 1) X hK hY (k_get1 l D A G S ω i hi h20) m_123 m_120 m_121 m_122 m_4 (by decide +kernel) ⟨Nat.le_of_ble_eq_true rfl, Nat.le_of_ble_eq_true rfl⟩ ⟨rfl, rfl⟩ (hm_recv ⟨X, hK.1⟩ hY w1 rfl) rfl hl.1 rfl (Nat.le_of_ble_eq_true rfl) d_W_findPart_24 ⟨Nat.le_of_ble_eq_true rfl, Nat.le_of_ble_eq_true rfl⟩) (fun v hv => ?_)
    subst hv
    refine W.eq (g2 := F0 m 27 ls [.ref (S.ad 4 i 0)]) rfl ?_
    refine va_castY X.1 X.2.1 X.2.2.2.1 (X.2.2.2.2 _ m_134) hK.2.1.2.2.1 (hm_recv ⟨X, hK.1⟩ hY (w4 hi) rfl) d_W_findPart_27 ?_
    refine lv_goto (tgt := 34) X.1 X.2.1 d_W_findPart_30 (by decide) ?_
    exact en_aR X hr (by first | exact Or.inl ⟨_, rfl⟩ | exact Or.inr ⟨_, rfl⟩) hlocks d_W_findPart_34 (Or.inr ⟨_, rfl⟩) (rfl)

set_option maxHeartbeats 4000000 in
set_option maxRecDepth 100000 in
theorem k_findPart_no (l : Launch) (D : va_G) (A : Nat → Prop) (G : Nat → Nat) (S : cS) (ω : hm_T) (x : Int32) (hx : ¬ ∃ i, i < S.C 0 0 ∧ x = nI (i + 1)) (h20 : S.C 0 0 ≤ 20) : Met l y_W_findPart (.code y_W_findPart c_W_findPart 2 (some (.object "WatchRows2$Part")) :: wsA) { frames := 3, cells := 0, slots := 0, locals := 64 } (va_Pc [.ref (S.ad 0 0 0), .int x] (ctU D A G (wS G S ω))) (hm_R (fun v => v = some .null)) 0 0 (fun _ => False) := by
  refine ct_met (by decide) (Nat.le_of_ble_eq_true rfl) ?_
  rintro p e s m below meth c ls X hr hlocks hnm hl ⟨hB, hK⟩
  have hl : lv_has ls 2 [(0, .ref (S.ad 0 0 0)), (1, .int x)] := hl
  have hY : hm_Y D cls A s.heap (wS G S ω) s.heap [] := hm_Y.start hB hK.2.2.2
  refine lv_iload_n X.1 X.2.1 d_W_findPart_0 rfl (lv_at hl 1 rfl) ?_
  refine lv_i2l (v := x.toInt64) X.1 X.2.1 d_W_findPart_1 rfl ?_
  refine lv_lconst (v := 1) X.1 X.2.1 d_W_findPart_2 (by decide) ?_
  refine lv_aload_n X.1 X.2.1 d_W_findPart_3 rfl (lv_at hl 0 rfl) ?_
  refine hm_get ⟨X, hK.1⟩ hY w0 0 (v := .ref (S.ad 1 0 0)) rfl rfl (Nat.le_of_ble_eq_true rfl) hu_W m_74 (fun _ h => h) d_W_findPart_4 ?_
  refine hm_callR (ct_runV (n := 0) X hK hY (k_size1 l D A G S ω) m_116 m_113 m_114 m_115 m_4 (by decide +kernel) ⟨Nat.le_of_ble_eq_true rfl, Nat.le_of_ble_eq_true rfl⟩ ⟨rfl, rfl⟩ (hm_recv ⟨X, hK.1⟩ hY w1 rfl) rfl hl.1 rfl (Nat.le_of_ble_eq_true rfl) d_W_findPart_7 ⟨Nat.le_of_ble_eq_true rfl, Nat.le_of_ble_eq_true rfl⟩) (fun v hv => ?_)
  subst hv
  refine W.eq (g2 := F0 m 10 ls [.int (nI (S.C 0 0)), .long 1, .long x.toInt64]) rfl ?_
  refine lv_i2l (v := (nI (S.C 0 0)).toInt64) X.1 X.2.1 d_W_findPart_10 rfl ?_
  refine hm_callR (ct_runS (n := 3) X hK hY (k_W_isWithin l D A G (wS G S ω) x.toInt64 1 (nI (S.C 0 0)).toInt64) m_119 m_117 m_118 m_1 (by decide +kernel) ⟨Nat.le_of_ble_eq_true rfl, Nat.le_of_ble_eq_true rfl⟩ ⟨rfl, rfl⟩ rfl hl.1 rfl (Nat.le_of_ble_eq_true rfl) d_W_findPart_11 ⟨Nat.le_of_ble_eq_true rfl, Nat.le_of_ble_eq_true rfl⟩) (fun v hv => ?_)
  subst hv
  refine W.eq (g2 := F0 m 14 ls [.int (b2 (1 ≤ x.toInt64 ∧ x.toInt64 ≤ (nI (S.C 0 0)).toInt64))]) rfl ?_
  refine lv_if_eq (tgt := 33) X.1 X.2.1 d_W_findPart_14 (by decide) (fun c1 => ?_) (fun c1 => ?_)
  · have c1 : ¬ (1 ≤ x.toInt64 ∧ x.toInt64 ≤ (nI (S.C 0 0)).toInt64) := b2_0.mp c1
    refine lv_null X.1 X.2.1 d_W_findPart_33 ?_
    exact en_aR X hr (by first | exact Or.inl ⟨_, rfl⟩ | exact Or.inr ⟨_, rfl⟩) hlocks d_W_findPart_34 (Or.inl rfl) (rfl)
  · have c1 : (1 ≤ x.toInt64 ∧ x.toInt64 ≤ (nI (S.C 0 0)).toInt64) := Classical.byContradiction (fun z => c1 (b2_0.mpr z))
    exact absurd ((pn_iff (by omega)).mp c1) hx

set_option maxHeartbeats 4000000 in
set_option maxRecDepth 100000 in
/-- the worst of the states -/
theorem k_W_worstCondition (l : Launch) (D : va_G) (A : Nat → Prop) (G : Nat → Nat) (S : cS) (ω : hm_T) (h20 : S.C 0 0 ≤ 20) : Met l y_W_worstCondition (.code y_W_worstCondition c_W_worstCondition 3 (some .int) :: wsA) { frames := 3, cells := 0, slots := 0, locals := 64 } (va_Pc [.ref (S.ad 0 0 0)] (ctU D A G (wS G S ω))) (hm_R (fun v => v = some (.int (wst S (S.C 0 0))))) 0 0 (fun _ => False) := by
  refine ct_met (by decide) (Nat.le_of_ble_eq_true rfl) ?_
  rintro p e s m below meth c ls X hr hlocks hnm hl ⟨hB, hK⟩
  have hl : lv_has ls 3 [(0, .ref (S.ad 0 0 0))] := hl
  have hY : hm_Y D cls A s.heap (wS G S ω) s.heap [] := hm_Y.start hB hK.2.2.2
  refine lv_iconst (v := 0) X.1 X.2.1 d_W_worstCondition_0 (by decide) ?_
  refine lv_istore_n (lv' := [(1, .int 0), (0, .ref (S.ad 0 0 0))]) X.1 X.2.1 d_W_worstCondition_1 rfl hl (by decide) rfl (fun ls hl => ?_)
  refine lv_iconst (v := 0) X.1 X.2.1 d_W_worstCondition_2 (by decide) ?_
  refine lv_istore_n (lv' := [(2, .int 0), (1, .int 0), (0, .ref (S.ad 0 0 0))]) X.1 X.2.1 d_W_worstCondition_3 rfl hl (by decide) rfl (fun ls hl => ?_)
  have loop : ∀ (k i : Nat) (ls : Array Slot) , i ≤ S.C 0 0 → S.C 0 0 < i + k → lv_has ls 3 [(2, .int (nI i)), (1, .int (wst S i)), (0, .ref (S.ad 0 0 0))] → W p l e { frames := 3, cells := 0, slots := 0, locals := 64 } s m (([.ref (S.ad 0 0 0)] : List Value).toArray) below meth c s.heap [] 0 0 (MQ below (hm_R (fun v => v = some (.int (wst S (S.C 0 0))))) (([.ref (S.ad 0 0 0)] : List Value).toArray) s 0 0 (fun _ => False)) (F0 m 4 ls []) := by
    intro k
    induction k with
    | zero => intro i ls hle hlt; omega
    | succ k ih =>
      intro i ls hle hlt hl
      refine lv_iload_n X.1 X.2.1 d_W_worstCondition_4 rfl (lv_at hl 0 rfl) ?_
      refine lv_aload_n X.1 X.2.1 d_W_worstCondition_5 rfl (lv_at hl 2 rfl) ?_
      refine hm_get ⟨X, hK.1⟩ hY w0 0 (v := .ref (S.ad 1 0 0)) rfl rfl (Nat.le_of_ble_eq_true rfl) hu_W m_74 (fun _ h => h) d_W_worstCondition_6 ?_
      refine hm_callR (ct_runV (n := 0) X hK hY (k_size1 l D A G S ω) m_116 m_113 m_114 m_115 m_4 (by decide +kernel) ⟨Nat.le_of_ble_eq_true rfl, Nat.le_of_ble_eq_true rfl⟩ ⟨rfl, rfl⟩ (hm_recv ⟨X, hK.1⟩ hY w1 rfl) rfl hl.1 rfl (Nat.le_of_ble_eq_true rfl) d_W_worstCondition_9 ⟨Nat.le_of_ble_eq_true rfl, Nat.le_of_ble_eq_true rfl⟩) (fun v hv => ?_)
      subst hv
      refine W.eq (g2 := F0 m 12 ls [.int (nI (S.C 0 0)), .int (nI i)]) rfl ?_
      refine lv_icmp_ge (tgt := 40) X.1 X.2.1 d_W_worstCondition_12 (by decide) (fun c1 => ?_) (fun c1 => ?_)
      · have hi : i = S.C 0 0 := by rcases Nat.lt_or_ge i (S.C 0 0) with q | q; exact absurd c1 (nI_ge q (by omega)); omega
        subst hi
        refine lv_iload_n X.1 X.2.1 d_W_worstCondition_40 rfl (lv_at hl 1 rfl) ?_
        exact en_iR X hr hlocks d_W_worstCondition_41 (rfl)
      · have hi : i < S.C 0 0 := by rcases Nat.lt_or_ge i (S.C 0 0) with q | q; exact q; exact absurd (nI_le q (by omega)) c1
        refine lv_iload_n X.1 X.2.1 d_W_worstCondition_15 rfl (lv_at hl 1 rfl) ?_
        refine lv_aload_n X.1 X.2.1 d_W_worstCondition_16 rfl (lv_at hl 2 rfl) ?_
        refine hm_get ⟨X, hK.1⟩ hY w0 0 (v := .ref (S.ad 1 0 0)) rfl rfl (Nat.le_of_ble_eq_true rfl) hu_W m_74 (fun _ h => h) d_W_worstCondition_17 ?_
        refine lv_iload_n X.1 X.2.1 d_W_worstCondition_20 rfl (lv_at hl 0 rfl) ?_
        refine hm_callR (ct_runV (n := 1) X hK hY (k_get1 l D A G S ω i hi h20) m_123 m_120 m_121 m_122 m_4 (by decide +kernel) ⟨Nat.le_of_ble_eq_true rfl, Nat.le_of_ble_eq_true rfl⟩ ⟨rfl, rfl⟩ (hm_recv ⟨X, hK.1⟩ hY w1 rfl) rfl hl.1 rfl (Nat.le_of_ble_eq_true rfl) d_W_worstCondition_21 ⟨Nat.le_of_ble_eq_true rfl, Nat.le_of_ble_eq_true rfl⟩) (fun v hv => ?_)
        subst hv
        refine W.eq (g2 := F0 m 24 ls [.ref (S.ad 4 i 0), .int (wst S i)]) rfl ?_
        refine va_castY X.1 X.2.1 X.2.2.2.1 (X.2.2.2.2 _ m_134) hK.2.1.2.2.1 (hm_recv ⟨X, hK.1⟩ hY (w4 hi) rfl) d_W_worstCondition_24 ?_
        refine hm_get ⟨X, hK.1⟩ hY (w4 hi) 6 (v := .int (S.I 13 i 0)) rfl rfl (Nat.le_of_ble_eq_true rfl) hu_P m_452 (fun _ h => h) d_W_worstCondition_27 ?_
        refine va_mmax X.1 X.2.1 (X.2.2.1.trans hl.1.symm) X.2.2.2.1 (X.2.2.2.2 _ m_294) (X.2.2.2.2 _ m_211) (X.2.2.2.2 _ m_13) (X.2.2.2.2 _ m_212) (Nat.le_of_ble_eq_true rfl) (Nat.le_of_ble_eq_true rfl) (Nat.zero_le _) (Nat.zero_le _) d_W_worstCondition_30 ?_
        refine W.eq (g2 := F0 m 33 ls [.int (wst S (i + 1))]) rfl ?_
        refine lv_istore_n (lv' := [(1, .int (wst S (i + 1))), (2, .int (nI i)), (0, .ref (S.ad 0 0 0))]) X.1 X.2.1 d_W_worstCondition_33 rfl hl (by decide) rfl (fun ls hl => ?_)
        refine lv_iinc (v := nI (i + 1)) (lv' := [(2, .int (nI (i + 1))), (1, .int (wst S (i + 1))), (0, .ref (S.ad 0 0 0))]) X.1 X.2.1 d_W_worstCondition_34 hl (k := 1) rfl (nI_1 i) (by decide) rfl (fun ls hl => ?_)
        refine lv_goto (tgt := 4) X.1 X.2.1 d_W_worstCondition_37 (by decide) ?_
        exact ih (i + 1) _ (by omega) (by omega) (lv_sub hl [0, 1, 2] rfl)
  exact loop (S.C 0 0 + 1) 0 ls (Nat.zero_le _) (by omega) (lv_sub hl [0, 1, 2] rfl)
