abbrev rvX (q st : Int32) : Int32 := (5 * q + 3 * st) ^^^ 10
abbrev rvI (q st : Int32) : Int32 := rvX q st - rvX q st / 16 * 16
abbrev rt (S : cS) (st : Int32) (v t : Int64) : Prop := st = S.I 8 0 0 ∧ v = (rvI (S.I 7 0 0) st).toInt64 ∧ (¬ st = 3 ∨ (10 ≤ t - S.J 2 0 0 ∧ t - S.J 2 0 0 ≤ 50))
abbrev nq (q : Int32) : Int32 := (7 * q + 3) - (7 * q + 3) / 16 * 16
def tR (S : cS) (st : Int32) (t : Int64) : cS :=
  if st = 3 then (((S.sI 8 0 0 0).sJ 2 0 0 t).sI 9 0 0 (if S.I 9 0 0 - 1 < 0 then 0 else S.I 9 0 0 - 1)).sI 7 0 0 (nq (S.I 7 0 0)) else S.sI 8 0 0 (st + 1)
theorem tR_k (S : cS) (st : Int32) (t : Int64) : (tR S st t).C = S.C ∧ (tR S st t).ad = S.ad := by
  unfold tR
  split <;> exact ⟨rfl, rfl⟩
/-- restart over the parts -/
def rsL (S : cS) : Nat → cS
  | 0 => S
  | j + 1 => bA (rsL S j) j
theorem rsL_k (S : cS) (j : Nat) : (rsL S j).C = S.C ∧ (rsL S j).ad = S.ad := by
  induction j with
  | zero => exact ⟨rfl, rfl⟩
  | succ j ih => exact ⟨(bA_k (rsL S j) j).1.trans ih.1, (bA_k (rsL S j) j).2.trans ih.2⟩
def rs2 (T : cS) : cS := (((((((T.sI 0 0 0 0).sI 1 0 0 0).sI 3 0 0 0).sI 7 0 0 0).sI 8 0 0 0).sI 9 0 0 0).sJ 2 0 0 (T.J 0 0 0)).sJ 1 0 0 (T.J 0 0 0)
def rS (S : cS) (why : Int32) : cS := rs2 (rsL ((S.sI 5 0 0 why).sI 4 0 0 (S.I 4 0 0 + 1)) (S.C 0 0))
theorem rS_k (S : cS) (why : Int32) : (rS S why).C = S.C ∧ (rS S why).ad = S.ad := rsL_k ((S.sI 5 0 0 why).sI 4 0 0 (S.I 4 0 0 + 1)) (S.C 0 0)

set_option maxHeartbeats 4000000 in
set_option maxRecDepth 100000 in
theorem k_Q_rightValue (l : Launch) (D : va_G) (A : Nat → Prop) (G : Nat → Nat) (S : cS) (ω : hm_T) (st : Int32) : Met l y_Q_rightValue (.code y_Q_rightValue c_Q_rightValue 2 (some .long) :: wsA) { frames := 0, cells := 0, slots := 0, locals := 0 } (va_Pc [.ref (S.ad 3 0 0), .int st] (ctU D A G (wS G S ω))) (hm_R (fun v => v = some (.long (rvI (S.I 7 0 0) st).toInt64))) 0 0 (fun _ => False) := by
  refine ct_met (by decide) (Nat.le_of_ble_eq_true rfl) ?_
  rintro p e s m below meth c ls X hr hlocks hnm hl ⟨hB, hK⟩
  have hl : lv_has ls 2 [(0, .ref (S.ad 3 0 0)), (1, .int st)] := hl
  have hY : hm_Y D cls A s.heap (wS G S ω) s.heap [] := hm_Y.start hB hK.2.2.2
  refine lv_iconst (v := 5) X.1 X.2.1 d_Q_rightValue_0 (by decide) ?_
  refine lv_aload_n X.1 X.2.1 d_Q_rightValue_1 rfl (lv_at hl 0 rfl) ?_
  refine hm_get ⟨X, hK.1⟩ hY w3 0 (v := .int (S.I 7 0 0)) rfl rfl (Nat.le_of_ble_eq_true rfl) hu_Q m_59 (fun _ h => h) d_Q_rightValue_2 ?_
  refine lv_imul X.1 X.2.1 d_Q_rightValue_5 ?_
  refine lv_iconst (v := 3) X.1 X.2.1 d_Q_rightValue_6 (by decide) ?_
  refine lv_iload_n X.1 X.2.1 d_Q_rightValue_7 rfl (lv_at hl 1 rfl) ?_
  refine lv_imul X.1 X.2.1 d_Q_rightValue_8 ?_
  refine lv_iadd X.1 X.2.1 d_Q_rightValue_9 ?_
  refine lv_bipush (v := 10) X.1 X.2.1 d_Q_rightValue_10 (by decide) ?_
  refine lv_ixor X.1 X.2.1 d_Q_rightValue_12 ?_
  refine lv_bipush (v := 16) X.1 X.2.1 d_Q_rightValue_13 (by decide) ?_
  refine lv_irem X.1 X.2.1 d_Q_rightValue_15 (by decide) ?_
  refine lv_i2l (v := ((((5 * (S.I 7 0 0)) + (3 * st)) ^^^ 10) - (((5 * (S.I 7 0 0)) + (3 * st)) ^^^ 10) / 16 * 16).toInt64) X.1 X.2.1 d_Q_rightValue_16 rfl ?_
  exact en_lR X hr hlocks d_Q_rightValue_17 (rfl)

set_option maxHeartbeats 4000000 in
set_option maxRecDepth 100000 in
theorem k_Q_isInTime (l : Launch) (D : va_G) (A : Nat → Prop) (G : Nat → Nat) (S : cS) (ω : hm_T) (t : Int64) : Met l y_Q_isInTime (.code y_Q_isInTime c_Q_isInTime 3 (some .boolean) :: wsA) { frames := 1, cells := 0, slots := 0, locals := 25 } (va_Pc [.ref (S.ad 3 0 0), .long t] (ctU D A G (wS G S ω))) (hm_R (fun v => v = some (.int (b2 (10 ≤ t - S.J 2 0 0 ∧ t - S.J 2 0 0 ≤ 50))))) 0 0 (fun _ => False) := by
  refine ct_met (by decide) (Nat.le_of_ble_eq_true rfl) ?_
  rintro p e s m below meth c ls X hr hlocks hnm hl ⟨hB, hK⟩
  have hl : lv_has ls 3 [(0, .ref (S.ad 3 0 0)), (1, .long t)] := hl
  have hY : hm_Y D cls A s.heap (wS G S ω) s.heap [] := hm_Y.start hB hK.2.2.2
  refine lv_lload_n X.1 X.2.1 d_Q_isInTime_0 rfl (lv_at hl 1 rfl) ?_
  refine lv_aload_n X.1 X.2.1 d_Q_isInTime_1 rfl (lv_at hl 0 rfl) ?_
  refine hm_get ⟨X, hK.1⟩ hY w3 3 (v := .long (S.J 2 0 0)) rfl rfl (Nat.le_of_ble_eq_true rfl) hu_Q m_64 (fun _ h => h) d_Q_isInTime_2 ?_
  refine lv_lsub X.1 X.2.1 d_Q_isInTime_5 ?_
  refine lv_ldc2 X.1 X.2.1 X.2.2.2.1 (X.2.2.2.2 _ m_333) d_Q_isInTime_6 ?_
  refine lv_ldc2 X.1 X.2.1 X.2.2.2.1 (X.2.2.2.2 _ m_334) d_Q_isInTime_9 ?_
  refine hm_callR (ct_runN (n := 3) X hK hY (k_W_isWithin l D A G (wS G S ω) (t - S.J 2 0 0) 10 50) m_119 hK.2.1.2.1 m_118 m_1 (by decide +kernel) ⟨Nat.le_of_ble_eq_true rfl, Nat.le_of_ble_eq_true rfl⟩ ⟨rfl, rfl⟩ rfl hl.1 rfl (Nat.le_of_ble_eq_true rfl) d_Q_isInTime_12 ⟨Nat.le_of_ble_eq_true rfl, Nat.le_of_ble_eq_true rfl⟩) (fun v hv => ?_)
  subst hv
  refine W.eq (g2 := F0 m 15 ls [.int (b2 (10 ≤ t - S.J 2 0 0 ∧ t - S.J 2 0 0 ≤ 50))]) rfl ?_
  exact en_zR X hr hlocks d_Q_isInTime_15 b2_n (rfl)

set_option maxHeartbeats 4000000 in
set_option maxRecDepth 100000 in
theorem k_Q_isRight (l : Launch) (D : va_G) (A : Nat → Prop) (G : Nat → Nat) (S : cS) (ω : hm_T) (st : Int32) (v0 t : Int64) : Met l y_Q_isRight (.code y_Q_isRight c_Q_isRight 6 (some .boolean) :: wsA) { frames := 2, cells := 0, slots := 0, locals := 47 } (va_Pc [.ref (S.ad 3 0 0), .int st, .long v0, .long t] (ctU D A G (wS G S ω))) (hm_R (fun v => v = some (.int (b2 (rt S st v0 t))))) 0 0 (fun _ => False) := by
  refine ct_met (by decide) (Nat.le_of_ble_eq_true rfl) ?_
  rintro p e s m below meth c ls X hr hlocks hnm hl ⟨hB, hK⟩
  have hl : lv_has ls 6 [(0, .ref (S.ad 3 0 0)), (1, .int st), (2, .long v0), (4, .long t)] := hl
  have hY : hm_Y D cls A s.heap (wS G S ω) s.heap [] := hm_Y.start hB hK.2.2.2
  refine lv_iload_n X.1 X.2.1 d_Q_isRight_0 rfl (lv_at hl 1 rfl) ?_
  refine lv_aload_n X.1 X.2.1 d_Q_isRight_1 rfl (lv_at hl 0 rfl) ?_
  refine hm_get ⟨X, hK.1⟩ hY w3 1 (v := .int (S.I 8 0 0)) rfl rfl (Nat.le_of_ble_eq_true rfl) hu_Q m_61 (fun _ h => h) d_Q_isRight_2 ?_
  refine lv_icmp_ne (tgt := 36) X.1 X.2.1 d_Q_isRight_5 (by decide) (fun c1 => ?_) (fun c1 => ?_)
  · refine lv_iconst (v := 0) X.1 X.2.1 d_Q_isRight_36 (by decide) ?_
    exact en_zR X hr hlocks d_Q_isRight_37 rfl (by rw [b2_f (fun z => c1 z.1)])
  · refine lv_lload_n X.1 X.2.1 d_Q_isRight_8 rfl (lv_at hl 2 rfl) ?_
    refine lv_aload_n X.1 X.2.1 d_Q_isRight_9 rfl (lv_at hl 0 rfl) ?_
    refine lv_iload_n X.1 X.2.1 d_Q_isRight_10 rfl (lv_at hl 1 rfl) ?_
    refine hm_callR (ct_runV (n := 1) X hK hY (k_Q_rightValue l D A G S ω st) m_328 m_325 m_327 ms_Q_rightValue m_5 (by decide +kernel) ⟨Nat.le_of_ble_eq_true rfl, Nat.le_of_ble_eq_true rfl⟩ ⟨rfl, rfl⟩ (hm_recv ⟨X, hK.1⟩ hY w3 rfl) rfl hl.1 rfl (Nat.le_of_ble_eq_true rfl) d_Q_isRight_11 ⟨Nat.le_of_ble_eq_true rfl, Nat.le_of_ble_eq_true rfl⟩) (fun v hv => ?_)
    subst hv
    refine W.eq (g2 := F0 m 14 ls [.long ((rvI (S.I 7 0 0) st).toInt64), .long v0]) rfl ?_
    refine lc_ne (tgt := 36) X d_Q_isRight_14 d_Q_isRight_15 (by decide) (fun c2 => ?_) (fun c2 => ?_)
    · refine lv_iconst (v := 0) X.1 X.2.1 d_Q_isRight_36 (by decide) ?_
      exact en_zR X hr hlocks d_Q_isRight_37 rfl (by rw [b2_f (fun z => c2 z.2.1)])
    · refine lv_iload_n X.1 X.2.1 d_Q_isRight_18 rfl (lv_at hl 1 rfl) ?_
      refine lv_iconst (v := 3) X.1 X.2.1 d_Q_isRight_19 (by decide) ?_
      refine lv_icmp_ne (tgt := 32) X.1 X.2.1 d_Q_isRight_20 (by decide) (fun c3 => ?_) (fun c3 => ?_)
      · refine lv_iconst (v := 1) X.1 X.2.1 d_Q_isRight_32 (by decide) ?_
        refine lv_goto (tgt := 37) X.1 X.2.1 d_Q_isRight_33 (by decide) ?_
        exact en_zR X hr hlocks d_Q_isRight_37 rfl (by rw [b2_t ⟨c1, c2, Or.inl c3⟩])
      · refine lv_aload_n X.1 X.2.1 d_Q_isRight_23 rfl (lv_at hl 0 rfl) ?_
        refine lv_lload X.1 X.2.1 d_Q_isRight_24 (lv_at hl 3 rfl) ?_
        refine hm_callR (ct_runV (n := 1) X hK hY (k_Q_isInTime l D A G S ω t) m_332 m_329 m_331 ms_Q_isInTime m_5 (by decide +kernel) ⟨Nat.le_of_ble_eq_true rfl, Nat.le_of_ble_eq_true rfl⟩ ⟨rfl, rfl⟩ (hm_recv ⟨X, hK.1⟩ hY w3 rfl) rfl hl.1 rfl (Nat.le_of_ble_eq_true rfl) d_Q_isRight_26 ⟨Nat.le_of_ble_eq_true rfl, Nat.le_of_ble_eq_true rfl⟩) (fun v hv => ?_)
        subst hv
        refine W.eq (g2 := F0 m 29 ls [.int (b2 (10 ≤ t - S.J 2 0 0 ∧ t - S.J 2 0 0 ≤ 50))]) rfl ?_
        refine lv_if_eq (tgt := 36) X.1 X.2.1 d_Q_isRight_29 (by decide) (fun c4 => ?_) (fun c4 => ?_)
        · have c4 : ¬ (10 ≤ t - S.J 2 0 0 ∧ t - S.J 2 0 0 ≤ 50) := b2_0.mp c4
          refine lv_iconst (v := 0) X.1 X.2.1 d_Q_isRight_36 (by decide) ?_
          exact en_zR X hr hlocks d_Q_isRight_37 rfl (by rw [b2_f (fun z => z.2.2.elim (fun q => q c3) c4)])
        · have c4 : (10 ≤ t - S.J 2 0 0 ∧ t - S.J 2 0 0 ≤ 50) := Classical.byContradiction (fun z => c4 (b2_0.mpr z))
          refine lv_iconst (v := 1) X.1 X.2.1 d_Q_isRight_32 (by decide) ?_
          refine lv_goto (tgt := 37) X.1 X.2.1 d_Q_isRight_33 (by decide) ?_
          exact en_zR X hr hlocks d_Q_isRight_37 rfl (by rw [b2_t ⟨c1, c2, Or.inr c4⟩])

set_option maxHeartbeats 4000000 in
set_option maxRecDepth 100000 in
theorem k_Q_takeRight (l : Launch) (D : va_G) (A : Nat → Prop) (G : Nat → Nat) (S : cS) (ω : hm_T) (st : Int32) (t : Int64) : Met l y_Q_takeRight (.code y_Q_takeRight c_Q_takeRight 4 (none : Option FieldType) :: wsA) { frames := 1, cells := 0, slots := 0, locals := 21 } (va_Pc [.ref (S.ad 3 0 0), .int st, .long t] (ctU D A G (wS G S ω))) (hm_Q D cls A (fun v w => v = none ∧ w = wS G (tR S st t) ω)) 0 0 A := by
  refine ct_met (by decide) (Nat.le_of_ble_eq_true rfl) ?_
  rintro p e s m below meth c ls X hr hlocks hnm hl ⟨hB, hK⟩
  have hl : lv_has ls 4 [(0, .ref (S.ad 3 0 0)), (1, .int st), (2, .long t)] := hl
  have hY : hm_Y D cls A s.heap (wS G S ω) s.heap [] := hm_Y.start hB hK.2.2.2
  refine lv_iload_n X.1 X.2.1 d_Q_takeRight_0 rfl (lv_at hl 1 rfl) ?_
  refine lv_iconst (v := 3) X.1 X.2.1 d_Q_takeRight_1 (by decide) ?_
  refine lv_icmp_eq (tgt := 13) X.1 X.2.1 d_Q_takeRight_2 (by decide) (fun c1 => ?_) (fun c1 => ?_)
  · refine lv_aload_n X.1 X.2.1 d_Q_takeRight_13 rfl (lv_at hl 0 rfl) ?_
    refine lv_iconst (v := 0) X.1 X.2.1 d_Q_takeRight_14 (by decide) ?_
    refine hm_put ⟨X, hK.1⟩ hY w3 1 rfl (Nat.le_of_ble_eq_true rfl) (Nat.le_of_ble_eq_true rfl) hu_Q ty_Q ty_Q_ok nm_Q m_61 (fun _ h => h) rfl rfl rfl d_Q_takeRight_15 (fun H locs hY => ?_)
    have hY : hm_Y D cls A s.heap (wS G (S.sI 8 0 0 0) ω) H locs := by rw [← fo_Q_1 (S := S) (v := 0)]; exact hY
    refine lv_aload_n X.1 X.2.1 d_Q_takeRight_18 rfl (lv_at hl 0 rfl) ?_
    refine lv_lload_n X.1 X.2.1 d_Q_takeRight_19 rfl (lv_at hl 2 rfl) ?_
    refine hm_put ⟨X, hK.1⟩ hY w3 3 rfl (Nat.le_of_ble_eq_true rfl) (Nat.le_of_ble_eq_true rfl) hu_Q ty_Q ty_Q_ok nm_Q m_64 (fun _ h => h) rfl rfl rfl d_Q_takeRight_20 (fun H locs hY => ?_)
    have hY : hm_Y D cls A s.heap (wS G ((S.sI 8 0 0 0).sJ 2 0 0 t) ω) H locs := by rw [← fo_Q_3 (S := (S.sI 8 0 0 0)) (v := t)]; exact hY
    refine lv_aload_n X.1 X.2.1 d_Q_takeRight_23 rfl (lv_at hl 0 rfl) ?_
    refine lv_aload_n X.1 X.2.1 d_Q_takeRight_24 rfl (lv_at hl 0 rfl) ?_
    refine hm_get ⟨X, hK.1⟩ hY w3 2 (v := .int (S.I 9 0 0)) rfl rfl (Nat.le_of_ble_eq_true rfl) hu_Q m_62 (fun _ h => h) d_Q_takeRight_25 ?_
    refine lv_iconst (v := 1) X.1 X.2.1 d_Q_takeRight_28 (by decide) ?_
    refine lv_isub X.1 X.2.1 d_Q_takeRight_29 ?_
    refine lv_iconst (v := 0) X.1 X.2.1 d_Q_takeRight_30 (by decide) ?_
    refine va_mmax X.1 X.2.1 (X.2.2.1.trans hl.1.symm) X.2.2.2.1 (X.2.2.2.2 _ m_340) (X.2.2.2.2 _ m_211) (X.2.2.2.2 _ m_13) (X.2.2.2.2 _ m_212) (Nat.le_of_ble_eq_true rfl) (Nat.le_of_ble_eq_true rfl) (Nat.zero_le _) (Nat.zero_le _) d_Q_takeRight_31 ?_
    refine hm_put ⟨X, hK.1⟩ hY w3 2 rfl (Nat.le_of_ble_eq_true rfl) (Nat.le_of_ble_eq_true rfl) hu_Q ty_Q ty_Q_ok nm_Q m_62 (fun _ h => h) rfl rfl rfl d_Q_takeRight_34 (fun H locs hY => ?_)
    have hY : hm_Y D cls A s.heap (wS G (((S.sI 8 0 0 0).sJ 2 0 0 t).sI 9 0 0 (if (S.I 9 0 0) - 1 < 0 then 0 else (S.I 9 0 0) - 1)) ω) H locs := by rw [← fo_Q_2 (S := ((S.sI 8 0 0 0).sJ 2 0 0 t)) (v := if (S.I 9 0 0) - 1 < 0 then 0 else (S.I 9 0 0) - 1)]; exact hY
    refine lv_aload_n X.1 X.2.1 d_Q_takeRight_37 rfl (lv_at hl 0 rfl) ?_
    refine lv_bipush (v := 7) X.1 X.2.1 d_Q_takeRight_38 (by decide) ?_
    refine lv_aload_n X.1 X.2.1 d_Q_takeRight_40 rfl (lv_at hl 0 rfl) ?_
    refine hm_get ⟨X, hK.1⟩ hY w3 0 (v := .int (S.I 7 0 0)) rfl rfl (Nat.le_of_ble_eq_true rfl) hu_Q m_59 (fun _ h => h) d_Q_takeRight_41 ?_
    refine lv_imul X.1 X.2.1 d_Q_takeRight_44 ?_
    refine lv_iconst (v := 3) X.1 X.2.1 d_Q_takeRight_45 (by decide) ?_
    refine lv_iadd X.1 X.2.1 d_Q_takeRight_46 ?_
    refine lv_bipush (v := 16) X.1 X.2.1 d_Q_takeRight_47 (by decide) ?_
    refine lv_irem X.1 X.2.1 d_Q_takeRight_49 (by decide) ?_
    refine hm_put ⟨X, hK.1⟩ hY w3 0 rfl (Nat.le_of_ble_eq_true rfl) (Nat.le_of_ble_eq_true rfl) hu_Q ty_Q ty_Q_ok nm_Q m_59 (fun _ h => h) rfl rfl rfl d_Q_takeRight_50 (fun H locs hY => ?_)
    have hY : hm_Y D cls A s.heap (wS G ((((S.sI 8 0 0 0).sJ 2 0 0 t).sI 9 0 0 (if (S.I 9 0 0) - 1 < 0 then 0 else (S.I 9 0 0) - 1)).sI 7 0 0 (((7 * (S.I 7 0 0)) + 3) - ((7 * (S.I 7 0 0)) + 3) / 16 * 16)) ω) H locs := by rw [← fo_Q_0 (S := (((S.sI 8 0 0 0).sJ 2 0 0 t).sI 9 0 0 (if (S.I 9 0 0) - 1 < 0 then 0 else (S.I 9 0 0) - 1))) (v := ((7 * (S.I 7 0 0)) + 3) - ((7 * (S.I 7 0 0)) + 3) / 16 * 16)]; exact hY
    exact en_vW X hY hr hlocks d_Q_takeRight_53 (⟨rfl, by rw [tR, if_pos c1]⟩)
  · refine lv_aload_n X.1 X.2.1 d_Q_takeRight_5 rfl (lv_at hl 0 rfl) ?_
    refine lv_iload_n X.1 X.2.1 d_Q_takeRight_6 rfl (lv_at hl 1 rfl) ?_
    refine lv_iconst (v := 1) X.1 X.2.1 d_Q_takeRight_7 (by decide) ?_
    refine lv_iadd X.1 X.2.1 d_Q_takeRight_8 ?_
    refine hm_put ⟨X, hK.1⟩ hY w3 1 rfl (Nat.le_of_ble_eq_true rfl) (Nat.le_of_ble_eq_true rfl) hu_Q ty_Q ty_Q_ok nm_Q m_61 (fun _ h => h) rfl rfl rfl d_Q_takeRight_9 (fun H locs hY => ?_)
    have hY : hm_Y D cls A s.heap (wS G (S.sI 8 0 0 (st + 1)) ω) H locs := by rw [← fo_Q_1 (S := S) (v := st + 1)]; exact hY
    exact en_vW X hY hr hlocks d_Q_takeRight_12 (⟨rfl, by rw [tR, if_neg c1]⟩)

set_option maxHeartbeats 4000000 in
set_option maxRecDepth 100000 in
theorem k_Q_takeWrong (l : Launch) (D : va_G) (A : Nat → Prop) (G : Nat → Nat) (S : cS) (ω : hm_T) (t : Int64) : Met l y_Q_takeWrong (.code y_Q_takeWrong c_Q_takeWrong 3 (none : Option FieldType) :: wsA) { frames := 0, cells := 0, slots := 0, locals := 0 } (va_Pc [.ref (S.ad 3 0 0), .long t] (ctU D A G (wS G S ω))) (hm_Q D cls A (fun v w => v = none ∧ w = wS G (((S.sI 9 0 0 (S.I 9 0 0 + 1)).sI 8 0 0 0).sJ 2 0 0 t) ω)) 0 0 A := by
  refine ct_met (by decide) (Nat.le_of_ble_eq_true rfl) ?_
  rintro p e s m below meth c ls X hr hlocks hnm hl ⟨hB, hK⟩
  have hl : lv_has ls 3 [(0, .ref (S.ad 3 0 0)), (1, .long t)] := hl
  have hY : hm_Y D cls A s.heap (wS G S ω) s.heap [] := hm_Y.start hB hK.2.2.2
  refine lv_aload_n X.1 X.2.1 d_Q_takeWrong_0 rfl (lv_at hl 0 rfl) ?_
  refine lv_dup X.1 X.2.1 d_Q_takeWrong_1 rfl ?_
  refine hm_get ⟨X, hK.1⟩ hY w3 2 (v := .int (S.I 9 0 0)) rfl rfl (Nat.le_of_ble_eq_true rfl) hu_Q m_62 (fun _ h => h) d_Q_takeWrong_2 ?_
  refine lv_iconst (v := 1) X.1 X.2.1 d_Q_takeWrong_5 (by decide) ?_
  refine lv_iadd X.1 X.2.1 d_Q_takeWrong_6 ?_
  refine hm_put ⟨X, hK.1⟩ hY w3 2 rfl (Nat.le_of_ble_eq_true rfl) (Nat.le_of_ble_eq_true rfl) hu_Q ty_Q ty_Q_ok nm_Q m_62 (fun _ h => h) rfl rfl rfl d_Q_takeWrong_7 (fun H locs hY => ?_)
  have hY : hm_Y D cls A s.heap (wS G (S.sI 9 0 0 ((S.I 9 0 0) + 1)) ω) H locs := by rw [← fo_Q_2 (S := S) (v := (S.I 9 0 0) + 1)]; exact hY
  refine lv_aload_n X.1 X.2.1 d_Q_takeWrong_10 rfl (lv_at hl 0 rfl) ?_
  refine lv_iconst (v := 0) X.1 X.2.1 d_Q_takeWrong_11 (by decide) ?_
  refine hm_put ⟨X, hK.1⟩ hY w3 1 rfl (Nat.le_of_ble_eq_true rfl) (Nat.le_of_ble_eq_true rfl) hu_Q ty_Q ty_Q_ok nm_Q m_61 (fun _ h => h) rfl rfl rfl d_Q_takeWrong_12 (fun H locs hY => ?_)
  have hY : hm_Y D cls A s.heap (wS G ((S.sI 9 0 0 ((S.I 9 0 0) + 1)).sI 8 0 0 0) ω) H locs := by rw [← fo_Q_1 (S := (S.sI 9 0 0 ((S.I 9 0 0) + 1))) (v := 0)]; exact hY
  refine lv_aload_n X.1 X.2.1 d_Q_takeWrong_15 rfl (lv_at hl 0 rfl) ?_
  refine lv_lload_n X.1 X.2.1 d_Q_takeWrong_16 rfl (lv_at hl 1 rfl) ?_
  refine hm_put ⟨X, hK.1⟩ hY w3 3 rfl (Nat.le_of_ble_eq_true rfl) (Nat.le_of_ble_eq_true rfl) hu_Q ty_Q ty_Q_ok nm_Q m_64 (fun _ h => h) rfl rfl rfl d_Q_takeWrong_17 (fun H locs hY => ?_)
  have hY : hm_Y D cls A s.heap (wS G (((S.sI 9 0 0 ((S.I 9 0 0) + 1)).sI 8 0 0 0).sJ 2 0 0 t) ω) H locs := by rw [← fo_Q_3 (S := ((S.sI 9 0 0 ((S.I 9 0 0) + 1)).sI 8 0 0 0)) (v := t)]; exact hY
  exact en_vW X hY hr hlocks d_Q_takeWrong_20 (⟨rfl, rfl⟩)

set_option maxHeartbeats 4000000 in
set_option maxRecDepth 100000 in
theorem k_Q_beginAnew (l : Launch) (D : va_G) (A : Nat → Prop) (G : Nat → Nat) (S : cS) (ω : hm_T) (t : Int64) : Met l y_Q_beginAnew (.code y_Q_beginAnew c_Q_beginAnew 3 (none : Option FieldType) :: wsA) { frames := 0, cells := 0, slots := 0, locals := 0 } (va_Pc [.ref (S.ad 3 0 0), .long t] (ctU D A G (wS G S ω))) (hm_Q D cls A (fun v w => v = none ∧ w = wS G ((((S.sI 7 0 0 0).sI 8 0 0 0).sI 9 0 0 0).sJ 2 0 0 t) ω)) 0 0 A := by
  refine ct_met (by decide) (Nat.le_of_ble_eq_true rfl) ?_
  rintro p e s m below meth c ls X hr hlocks hnm hl ⟨hB, hK⟩
  have hl : lv_has ls 3 [(0, .ref (S.ad 3 0 0)), (1, .long t)] := hl
  have hY : hm_Y D cls A s.heap (wS G S ω) s.heap [] := hm_Y.start hB hK.2.2.2
  refine lv_aload_n X.1 X.2.1 d_Q_beginAnew_0 rfl (lv_at hl 0 rfl) ?_
  refine lv_iconst (v := 0) X.1 X.2.1 d_Q_beginAnew_1 (by decide) ?_
  refine hm_put ⟨X, hK.1⟩ hY w3 0 rfl (Nat.le_of_ble_eq_true rfl) (Nat.le_of_ble_eq_true rfl) hu_Q ty_Q ty_Q_ok nm_Q m_59 (fun _ h => h) rfl rfl rfl d_Q_beginAnew_2 (fun H locs hY => ?_)
  have hY : hm_Y D cls A s.heap (wS G (S.sI 7 0 0 0) ω) H locs := by rw [← fo_Q_0 (S := S) (v := 0)]; exact hY
  refine lv_aload_n X.1 X.2.1 d_Q_beginAnew_5 rfl (lv_at hl 0 rfl) ?_
  refine lv_iconst (v := 0) X.1 X.2.1 d_Q_beginAnew_6 (by decide) ?_
  refine hm_put ⟨X, hK.1⟩ hY w3 1 rfl (Nat.le_of_ble_eq_true rfl) (Nat.le_of_ble_eq_true rfl) hu_Q ty_Q ty_Q_ok nm_Q m_61 (fun _ h => h) rfl rfl rfl d_Q_beginAnew_7 (fun H locs hY => ?_)
  have hY : hm_Y D cls A s.heap (wS G ((S.sI 7 0 0 0).sI 8 0 0 0) ω) H locs := by rw [← fo_Q_1 (S := (S.sI 7 0 0 0)) (v := 0)]; exact hY
  refine lv_aload_n X.1 X.2.1 d_Q_beginAnew_10 rfl (lv_at hl 0 rfl) ?_
  refine lv_iconst (v := 0) X.1 X.2.1 d_Q_beginAnew_11 (by decide) ?_
  refine hm_put ⟨X, hK.1⟩ hY w3 2 rfl (Nat.le_of_ble_eq_true rfl) (Nat.le_of_ble_eq_true rfl) hu_Q ty_Q ty_Q_ok nm_Q m_62 (fun _ h => h) rfl rfl rfl d_Q_beginAnew_12 (fun H locs hY => ?_)
  have hY : hm_Y D cls A s.heap (wS G (((S.sI 7 0 0 0).sI 8 0 0 0).sI 9 0 0 0) ω) H locs := by rw [← fo_Q_2 (S := ((S.sI 7 0 0 0).sI 8 0 0 0)) (v := 0)]; exact hY
  refine lv_aload_n X.1 X.2.1 d_Q_beginAnew_15 rfl (lv_at hl 0 rfl) ?_
  refine lv_lload_n X.1 X.2.1 d_Q_beginAnew_16 rfl (lv_at hl 1 rfl) ?_
  refine hm_put ⟨X, hK.1⟩ hY w3 3 rfl (Nat.le_of_ble_eq_true rfl) (Nat.le_of_ble_eq_true rfl) hu_Q ty_Q ty_Q_ok nm_Q m_64 (fun _ h => h) rfl rfl rfl d_Q_beginAnew_17 (fun H locs hY => ?_)
  have hY : hm_Y D cls A s.heap (wS G ((((S.sI 7 0 0 0).sI 8 0 0 0).sI 9 0 0 0).sJ 2 0 0 t) ω) H locs := by rw [← fo_Q_3 (S := (((S.sI 7 0 0 0).sI 8 0 0 0).sI 9 0 0 0)) (v := t)]; exact hY
  exact en_vW X hY hr hlocks d_Q_beginAnew_20 (⟨rfl, rfl⟩)

set_option maxHeartbeats 4000000 in
set_option maxRecDepth 100000 in
theorem k_W_restart (l : Launch) (D : va_G) (A : Nat → Prop) (G : Nat → Nat) (S : cS) (ω : hm_T) (h20 : S.C 0 0 ≤ 20) (hall : ∀ i, i < S.C 0 0 → S.C 1 i ≤ 10) (why : Int32) : Met l y_W_restart (.code y_W_restart c_W_restart 3 (none : Option FieldType) :: wsA) { frames := 5, cells := 0, slots := 0, locals := 105 } (va_Pc [.ref (S.ad 0 0 0), .int why] (ctU D A G (wS G S ω))) (hm_Q D cls A (fun v w => v = none ∧ w = wS G (rS S why) ω)) 0 0 A := by
  refine ct_met (by decide) (Nat.le_of_ble_eq_true rfl) ?_
  rintro p e s m below meth c ls X hr hlocks hnm hl ⟨hB, hK⟩
  have hl : lv_has ls 3 [(0, .ref (S.ad 0 0 0)), (1, .int why)] := hl
  have hY : hm_Y D cls A s.heap (wS G S ω) s.heap [] := hm_Y.start hB hK.2.2.2
  refine lv_aload_n X.1 X.2.1 d_W_restart_0 rfl (lv_at hl 0 rfl) ?_
  refine lv_iload_n X.1 X.2.1 d_W_restart_1 rfl (lv_at hl 1 rfl) ?_
  refine hm_put ⟨X, hK.1⟩ hY w0 9 rfl (Nat.le_of_ble_eq_true rfl) (Nat.le_of_ble_eq_true rfl) hu_W ty_W ty_W_ok nm_W m_83 (fun _ h => h) rfl rfl rfl d_W_restart_2 (fun H locs hY => ?_)
  have hY : hm_Y D cls A s.heap (wS G (S.sI 5 0 0 why) ω) H locs := by rw [← fo_W_9 (S := S) (v := why)]; exact hY
  refine lv_aload_n X.1 X.2.1 d_W_restart_5 rfl (lv_at hl 0 rfl) ?_
  refine lv_dup X.1 X.2.1 d_W_restart_6 rfl ?_
  refine hm_get ⟨X, hK.1⟩ hY w0 8 (v := .int (S.I 4 0 0)) rfl rfl (Nat.le_of_ble_eq_true rfl) hu_W m_82 (fun _ h => h) d_W_restart_7 ?_
  refine lv_iconst (v := 1) X.1 X.2.1 d_W_restart_10 (by decide) ?_
  refine lv_iadd X.1 X.2.1 d_W_restart_11 ?_
  refine hm_put ⟨X, hK.1⟩ hY w0 8 rfl (Nat.le_of_ble_eq_true rfl) (Nat.le_of_ble_eq_true rfl) hu_W ty_W ty_W_ok nm_W m_82 (fun _ h => h) rfl rfl rfl d_W_restart_12 (fun H locs hY => ?_)
  have hY : hm_Y D cls A s.heap (wS G ((S.sI 5 0 0 why).sI 4 0 0 ((S.I 4 0 0) + 1)) ω) H locs := by rw [← fo_W_8 (S := (S.sI 5 0 0 why)) (v := (S.I 4 0 0) + 1)]; exact hY
  refine lv_iconst (v := 0) X.1 X.2.1 d_W_restart_15 (by decide) ?_
  refine lv_istore_n (lv' := [(2, .int 0), (0, .ref (S.ad 0 0 0)), (1, .int why)]) X.1 X.2.1 d_W_restart_16 rfl hl (by decide) rfl (fun ls hl => ?_)
  have loop : ∀ (k j : Nat) (T : cS) (ls : Array Slot) (H : Heap) (locs : List Loc), j ≤ S.C 0 0 → S.C 0 0 < j + k → T = rsL ((S.sI 5 0 0 why).sI 4 0 0 (S.I 4 0 0 + 1)) j → T.C = S.C → hm_Y D cls A s.heap (wS G T ω) H locs → lv_has ls 3 [(2, .int (nI j)), (0, .ref (T.ad 0 0 0)), (1, .int why)] → W p l e { frames := 5, cells := 0, slots := 0, locals := 105 } s m (([.ref (S.ad 0 0 0), .int why] : List Value).toArray) below meth c H locs 0 0 (MQ below (hm_Q D cls A (fun v w => v = none ∧ w = wS G (rS S why) ω)) (([.ref (S.ad 0 0 0), .int why] : List Value).toArray) s 0 0 A) (F0 m 17 ls []) := by
    intro k
    induction k with
    | zero => intro j T ls H locs hle hlt; omega
    | succ k ih =>
      intro j T ls H locs hle hlt hT hC hY hl
      refine lv_iload_n X.1 X.2.1 d_W_restart_17 rfl (lv_at hl 0 rfl) ?_
      refine lv_aload_n X.1 X.2.1 d_W_restart_18 rfl (lv_at hl 1 rfl) ?_
      refine hm_get ⟨X, hK.1⟩ hY w0 0 (v := .ref (T.ad 1 0 0)) rfl rfl (Nat.le_of_ble_eq_true rfl) hu_W m_74 (fun _ h => h) d_W_restart_19 ?_
      refine hm_callR (ct_runV (n := 0) X hK hY (k_size1 l D A G T ω) m_116 m_113 m_114 m_115 m_4 (by decide +kernel) ⟨Nat.le_of_ble_eq_true rfl, Nat.le_of_ble_eq_true rfl⟩ ⟨rfl, rfl⟩ (hm_recv ⟨X, hK.1⟩ hY w1 rfl) rfl hl.1 rfl (Nat.le_of_ble_eq_true rfl) d_W_restart_22 ⟨Nat.le_of_ble_eq_true rfl, Nat.le_of_ble_eq_true rfl⟩) (fun v hv => ?_)
      subst hv
      refine W.eq (g2 := F0 m 25 ls [.int (nI (T.C 0 0)), .int (nI j)]) rfl ?_
      have hn : T.C 0 0 = S.C 0 0 := by rw [hC]
      refine lv_icmp_ge (tgt := 48) X.1 X.2.1 d_W_restart_25 (by decide) (fun c0 => ?_) (fun c0 => ?_)
      · have hj : j = T.C 0 0 := by rcases Nat.lt_or_ge j (T.C 0 0) with q | q; exact absurd c0 (nI_ge q (by omega)); omega
        refine lv_aload_n X.1 X.2.1 d_W_restart_48 rfl (lv_at hl 1 rfl) ?_
        refine lv_iconst (v := 0) X.1 X.2.1 d_W_restart_49 (by decide) ?_
        refine hm_put ⟨X, hK.1⟩ hY w0 2 rfl (Nat.le_of_ble_eq_true rfl) (Nat.le_of_ble_eq_true rfl) hu_W ty_W ty_W_ok nm_W m_76 (fun _ h => h) rfl rfl rfl d_W_restart_50 (fun H locs hY => ?_)
        have hY : hm_Y D cls A s.heap (wS G (T.sI 0 0 0 0) ω) H locs := by rw [← fo_W_2 (S := T) (v := 0)]; exact hY
        refine lv_aload_n X.1 X.2.1 d_W_restart_53 rfl (lv_at hl 1 rfl) ?_
        refine lv_iconst (v := 0) X.1 X.2.1 d_W_restart_54 (by decide) ?_
        refine hm_put ⟨X, hK.1⟩ hY w0 3 rfl (Nat.le_of_ble_eq_true rfl) (Nat.le_of_ble_eq_true rfl) hu_W ty_W ty_W_ok nm_W m_77 (fun _ h => h) rfl rfl rfl d_W_restart_55 (fun H locs hY => ?_)
        have hY : hm_Y D cls A s.heap (wS G ((T.sI 0 0 0 0).sI 1 0 0 0) ω) H locs := by rw [← fo_W_3 (S := (T.sI 0 0 0 0)) (v := 0)]; exact hY
        refine lv_aload_n X.1 X.2.1 d_W_restart_58 rfl (lv_at hl 1 rfl) ?_
        refine lv_iconst (v := 0) X.1 X.2.1 d_W_restart_59 (by decide) ?_
        refine hm_put ⟨X, hK.1⟩ hY w0 7 rfl (Nat.le_of_ble_eq_true rfl) (Nat.le_of_ble_eq_true rfl) hu_W ty_W ty_W_ok nm_W m_81 (fun _ h => h) rfl rfl rfl d_W_restart_60 (fun H locs hY => ?_)
        have hY : hm_Y D cls A s.heap (wS G (((T.sI 0 0 0 0).sI 1 0 0 0).sI 3 0 0 0) ω) H locs := by rw [← fo_W_7 (S := ((T.sI 0 0 0 0).sI 1 0 0 0)) (v := 0)]; exact hY
        refine lv_aload_n X.1 X.2.1 d_W_restart_63 rfl (lv_at hl 1 rfl) ?_
        refine hm_get ⟨X, hK.1⟩ hY w0 1 (v := .ref (T.ad 3 0 0)) rfl rfl (Nat.le_of_ble_eq_true rfl) hu_W m_75 (fun _ h => h) d_W_restart_64 ?_
        refine lv_aload_n X.1 X.2.1 d_W_restart_67 rfl (lv_at hl 1 rfl) ?_
        refine hm_get ⟨X, hK.1⟩ hY w0 4 (v := .long (T.J 0 0 0)) rfl rfl (Nat.le_of_ble_eq_true rfl) hu_W m_78 (fun _ h => h) d_W_restart_68 ?_
        refine hm_call (ct_runV (n := 1) X hK hY (k_Q_beginAnew l D A G (((T.sI 0 0 0 0).sI 1 0 0 0).sI 3 0 0 0) ω (T.J 0 0 0)) m_310 m_307 m_308 m_309 m_5 (by decide +kernel) ⟨Nat.le_of_ble_eq_true rfl, Nat.le_of_ble_eq_true rfl⟩ ⟨rfl, rfl⟩ (hm_recv ⟨X, hK.1⟩ hY w3 rfl) rfl hl.1 rfl (Nat.le_of_ble_eq_true rfl) d_W_restart_71 ⟨Nat.le_of_ble_eq_true rfl, Nat.le_of_ble_eq_true rfl⟩) hY (fun v w1 H locs hp hY => ?_)
        obtain ⟨rfl, rfl⟩ := hp
        have hY : hm_Y D cls A s.heap (wS G (((((((T.sI 0 0 0 0).sI 1 0 0 0).sI 3 0 0 0).sI 7 0 0 0).sI 8 0 0 0).sI 9 0 0 0).sJ 2 0 0 (T.J 0 0 0)) ω) H locs := hY
        refine W.eq (g2 := F0 m 74 ls []) rfl ?_
        refine lv_aload_n X.1 X.2.1 d_W_restart_74 rfl (lv_at hl 1 rfl) ?_
        refine lv_aload_n X.1 X.2.1 d_W_restart_75 rfl (lv_at hl 1 rfl) ?_
        refine hm_get ⟨X, hK.1⟩ hY w0 4 (v := .long (T.J 0 0 0)) rfl rfl (Nat.le_of_ble_eq_true rfl) hu_W m_78 (fun _ h => h) d_W_restart_76 ?_
        refine hm_put ⟨X, hK.1⟩ hY w0 5 rfl (Nat.le_of_ble_eq_true rfl) (Nat.le_of_ble_eq_true rfl) hu_W ty_W ty_W_ok nm_W m_79 (fun _ h => h) rfl rfl rfl d_W_restart_79 (fun H locs hY => ?_)
        have hY : hm_Y D cls A s.heap (wS G ((((((((T.sI 0 0 0 0).sI 1 0 0 0).sI 3 0 0 0).sI 7 0 0 0).sI 8 0 0 0).sI 9 0 0 0).sJ 2 0 0 (T.J 0 0 0)).sJ 1 0 0 (T.J 0 0 0)) ω) H locs := by rw [← fo_W_5 (S := (((((((T.sI 0 0 0 0).sI 1 0 0 0).sI 3 0 0 0).sI 7 0 0 0).sI 8 0 0 0).sI 9 0 0 0).sJ 2 0 0 (T.J 0 0 0))) (v := T.J 0 0 0)]; exact hY
        exact en_vW X hY hr hlocks d_W_restart_82 (⟨rfl, by rw [rS, ← hn, ← hj, ← hT]; rfl⟩)
      · have hj : j < T.C 0 0 := by rcases Nat.lt_or_ge j (T.C 0 0) with q | q; exact q; exact absurd (nI_le q (by omega)) c0
        refine lv_aload_n X.1 X.2.1 d_W_restart_28 rfl (lv_at hl 1 rfl) ?_
        refine hm_get ⟨X, hK.1⟩ hY w0 0 (v := .ref (T.ad 1 0 0)) rfl rfl (Nat.le_of_ble_eq_true rfl) hu_W m_74 (fun _ h => h) d_W_restart_29 ?_
        refine lv_iload_n X.1 X.2.1 d_W_restart_32 rfl (lv_at hl 0 rfl) ?_
        refine hm_callR (ct_runV (n := 1) X hK hY (k_get1 l D A G T ω j hj (by rw [hC]; exact h20)) m_123 m_120 m_121 m_122 m_4 (by decide +kernel) ⟨Nat.le_of_ble_eq_true rfl, Nat.le_of_ble_eq_true rfl⟩ ⟨rfl, rfl⟩ (hm_recv ⟨X, hK.1⟩ hY w1 rfl) rfl hl.1 rfl (Nat.le_of_ble_eq_true rfl) d_W_restart_33 ⟨Nat.le_of_ble_eq_true rfl, Nat.le_of_ble_eq_true rfl⟩) (fun v hv => ?_)
        subst hv
        refine W.eq (g2 := F0 m 36 ls [.ref (T.ad 4 j 0)]) rfl ?_
        refine va_castY X.1 X.2.1 X.2.2.2.1 (X.2.2.2.2 _ m_134) hK.2.1.2.2.1 (hm_recv ⟨X, hK.1⟩ hY (w4 hj) rfl) d_W_restart_36 ?_
        refine hm_call (ct_runV (n := 0) X hK hY (k_P_beginAnew l D A G T ω j hj (by rw [hC]; exact hall j (by omega))) m_302 m_299 m_300 m_301 m_11 (by decide +kernel) ⟨Nat.le_of_ble_eq_true rfl, Nat.le_of_ble_eq_true rfl⟩ ⟨rfl, rfl⟩ (hm_recv ⟨X, hK.1⟩ hY (w4 hj) rfl) rfl hl.1 rfl (Nat.le_of_ble_eq_true rfl) d_W_restart_39 ⟨Nat.le_of_ble_eq_true rfl, Nat.le_of_ble_eq_true rfl⟩) hY (fun v w1 H locs hp hY => ?_)
        obtain ⟨rfl, rfl⟩ := hp
        refine W.eq (g2 := F0 m 42 ls []) rfl ?_
        obtain ⟨E1, hE1⟩ : ∃ z, z = bA T j := ⟨_, rfl⟩
        rw [← hE1] at hY
        have hAE1 : E1.ad = T.ad := by rw [hE1]; exact (bA_k T j).2
        have hCE1 : E1.C = T.C := by rw [hE1]; exact (bA_k T j).1
        have hiE1 : j < E1.C 0 0 := by rw [hCE1]; exact hj
        have hl : lv_has ls 3 [(2, .int (nI j)), (0, .ref (E1.ad 0 0 0)), (1, .int why)] := by rw [hAE1]; exact hl
        refine lv_iinc (v := nI (j + 1)) (lv' := [(2, .int (nI (j + 1))), (0, .ref (E1.ad 0 0 0)), (1, .int why)]) X.1 X.2.1 d_W_restart_42 hl (k := 0) rfl (nI_1 j) (by decide) rfl (fun ls hl => ?_)
        refine lv_goto (tgt := 17) X.1 X.2.1 d_W_restart_45 (by decide) ?_
        exact ih (j + 1) E1 _ _ _ (by omega) (by omega) (by rw [hE1, show rsL ((S.sI 5 0 0 why).sI 4 0 0 (S.I 4 0 0 + 1)) (j + 1) = bA (rsL ((S.sI 5 0 0 why).sI 4 0 0 (S.I 4 0 0 + 1)) j) j from rfl, ← hT]) (hCE1.trans hC) hY (lv_sub hl [0, 1, 2] rfl)
  exact loop (S.C 0 0 + 1) 0 ((S.sI 5 0 0 why).sI 4 0 0 ((S.I 4 0 0) + 1)) ls _ _ (Nat.zero_le _) (by omega) rfl rfl hY (lv_sub hl [0, 1, 2] rfl)
