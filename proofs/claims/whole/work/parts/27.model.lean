abbrev mP (M : mS) (x : Int32) : Prop := 1 ≤ x ∧ x ≤ M.I 1 0
abbrev mT (M : mS) (t : Int64) : Prop := M.J 21 0 ≤ t ∧ t ≤ 1152921504606846976
def cl0 (M : mS) (n : Nat) : mS := ((M.sI 8 n 0).sI 9 n 0).sI 10 n 0
def clL1 (M : mS) (n j : Nat) : mS := M.sJ 18 (10 * n + j) (-1)
def clL (M : mS) (n : Nat) : Nat → mS
  | 0 => M
  | j + 1 => clL1 (clL M n j) n j
def clr (M : mS) (n : Nat) : mS := clL (cl0 M n) n 10
abbrev kept (E M : mS) : Prop := E.ad = M.ad ∧ E.I 1 = M.I 1 ∧ E.I 4 = M.I 4 ∧ E.I 12 = M.I 12
theorem clL_k (M : mS) (n j : Nat) : kept (clL M n j) M := by
  induction j with
  | zero => exact ⟨rfl, rfl, rfl, rfl⟩
  | succ j ih => exact ih
theorem clr_k (M : mS) (n : Nat) : kept (clr M n) M := clL_k (cl0 M n) n 10
def r01 (M : mS) (n : Nat) : mS := ((clr M n).sI 5 n 0).sI 6 n 0
def r0L (M : mS) : Nat → mS
  | 0 => M
  | j + 1 => r01 (r0L M j) (j + 1)
theorem r0L_k (M : mS) (j : Nat) : kept (r0L M j) M := by
  induction j with
  | zero => exact ⟨rfl, rfl, rfl, rfl⟩
  | succ j ih =>
    have h := clr_k (r0L M j) (j + 1)
    exact ⟨h.1.trans ih.1, h.2.1.trans ih.2.1, h.2.2.1.trans ih.2.2.1, h.2.2.2.trans ih.2.2.2⟩
def r02 (T : mS) : mS := (((((((T.sI 19 0 0).sI 20 0 0).sI 22 0 0).sI 26 0 0).sI 27 0 0).sI 28 0 0).sJ 29 0 (T.J 21 0)).sJ 30 0 (T.J 21 0)
def r0 (M : mS) (why : Int32) (c : Nat) : mS := r02 (r0L ((M.sI 25 0 why).sI 24 0 (M.I 24 0 + 1)) c)
theorem r0_k (M : mS) (why : Int32) (c : Nat) : kept (r0 M why c) M := r0L_k ((M.sI 25 0 why).sI 24 0 (M.I 24 0 + 1)) c
def jL1 (M : mS) (n j : Nat) : mS := if M.J 18 (10 * n + j) < 0 then M else if M.J 17 (10 * n + j) < M.J 21 0 - M.J 18 (10 * n + j) then (M.sI 9 n 1).sJ 18 (10 * n + j) (-1) else M
def jL (M : mS) (n : Nat) : Nat → mS
  | 0 => M
  | j + 1 => jL1 (jL M n j) n j
theorem jL_k (M : mS) (n j : Nat) : kept (jL M n j) M := by
  induction j with
  | zero => exact ⟨rfl, rfl, rfl, rfl⟩
  | succ j ih =>
    show kept (jL1 _ n j) M
    unfold jL1
    repeat' split
    all_goals exact ih
def jA (M : mS) (n : Nat) : mS :=
  if M.I 20 0 - M.I 20 0 / M.I 4 n * M.I 4 n = 0 then (if M.I 20 0 ≤ 2 then M.sI 8 n 0 else if M.I 8 n < M.I 2 n then (M.sI 9 n 1).sI 8 n 0 else if M.I 8 n ≤ M.I 3 n then M.sI 8 n 0 else (M.sI 9 n 1).sI 8 n 0) else M
theorem jA_k (M : mS) (n : Nat) : kept (jA M n) M := by
  unfold jA
  repeat' split
  all_goals exact ⟨rfl, rfl, rfl, rfl⟩
def jB (M : mS) (n : Nat) : mS :=
  if M.I 9 n = 0 then (if M.I 5 n = 1 then (if M.I 6 n - 1 = 0 then ((M.sI 6 n (M.I 6 n - 1)).sI 5 n 0).sI 9 n 0 else ((M.sI 6 n (M.I 6 n - 1)).sI 5 n 1).sI 9 n 0) else M.sI 9 n 0)
  else if M.I 6 n + 1 ≤ M.I 7 n then ((M.sI 6 n (M.I 6 n + 1)).sI 5 n 1).sI 9 n 0 else ((M.sI 6 n (M.I 6 n + 1)).sI 5 n 2).sI 9 n 0
theorem jB_k (M : mS) (n : Nat) : kept (jB M n) M := by
  unfold jB
  repeat' split
  all_goals exact ⟨rfl, rfl, rfl, rfl⟩
def jd (M : mS) (n c : Nat) : mS := jB (jA (jL M n c) n) n
theorem kept.trans {A B C : mS} (h : kept A B) (g : kept B C) : kept A C := ⟨h.1.trans g.1, h.2.1.trans g.2.1, h.2.2.1.trans g.2.2.1, h.2.2.2.trans g.2.2.2⟩
theorem jd_k (M : mS) (n c : Nat) : kept (jd M n c) M := (jB_k _ n).trans ((jA_k _ n).trans (jL_k M n c))

set_option maxHeartbeats 4000000 in
set_option maxRecDepth 100000 in
theorem k_M_thrown (l : Launch) (D : va_G) (A : Nat → Prop) (G : Nat → Nat) (M : mS) (ω : hm_T) : Met l y_M_thrown (.code y_M_thrown c_M_thrown 1 (some .int) :: wsA) { frames := 0, cells := 0, slots := 0, locals := 0 } (va_Pc [.ref (M.ad 0)] (ctU D A G (wM G M ω))) (hm_R (fun v => v = some (.int (M.I 0 0)))) 0 0 (fun _ => False) := by
  refine ct_met (by decide) (Nat.le_of_ble_eq_true rfl) ?_
  rintro p e s m below meth c ls X hr hlocks hnm hl ⟨hB, hK⟩
  have hl : lv_has ls 1 [(0, .ref (M.ad 0))] := hl
  have hY : hm_Y D cls A s.heap (wM G M ω) s.heap [] := hm_Y.start hB hK.2.2.2
  refine lv_aload_n X.1 X.2.1 d_M_thrown_0 rfl (lv_at hl 0 rfl) ?_
  refine hm_get ⟨X, hK.1⟩ hY v_0 0 (v := .int (M.I 0 0)) rfl rfl (Nat.le_of_ble_eq_true rfl) hu_M m_489 (fun _ h => h) d_M_thrown_1 ?_
  exact en_iR X hr hlocks d_M_thrown_4 (rfl)

set_option maxHeartbeats 4000000 in
set_option maxRecDepth 100000 in
theorem k_M_isPart (l : Launch) (D : va_G) (A : Nat → Prop) (G : Nat → Nat) (M : mS) (ω : hm_T) (x : Int32) : Met l y_M_isPart (.code y_M_isPart c_M_isPart 2 (some .boolean) :: wsA) { frames := 0, cells := 0, slots := 0, locals := 0 } (va_Pc [.ref (M.ad 0), .int x] (ctU D A G (wM G M ω))) (hm_R (fun v => v = some (.int (b2 (mP M x))))) 0 0 (fun _ => False) := by
  refine ct_met (by decide) (Nat.le_of_ble_eq_true rfl) ?_
  rintro p e s m below meth c ls X hr hlocks hnm hl ⟨hB, hK⟩
  have hl : lv_has ls 2 [(0, .ref (M.ad 0)), (1, .int x)] := hl
  have hY : hm_Y D cls A s.heap (wM G M ω) s.heap [] := hm_Y.start hB hK.2.2.2
  refine lv_iload_n X.1 X.2.1 d_M_isPart_0 rfl (lv_at hl 1 rfl) ?_
  refine lv_iconst (v := 1) X.1 X.2.1 d_M_isPart_1 (by decide) ?_
  refine lv_icmp_lt (tgt := 17) X.1 X.2.1 d_M_isPart_2 (by decide) (fun c1 => ?_) (fun c1 => ?_)
  · refine lv_iconst (v := 0) X.1 X.2.1 d_M_isPart_17 (by decide) ?_
    exact en_zR X hr hlocks d_M_isPart_18 rfl (by rw [b2_f (fun z => absurd z.1 (Int32.not_le.mpr c1))])
  · refine lv_iload_n X.1 X.2.1 d_M_isPart_5 rfl (lv_at hl 1 rfl) ?_
    refine lv_aload_n X.1 X.2.1 d_M_isPart_6 rfl (lv_at hl 0 rfl) ?_
    refine hm_get ⟨X, hK.1⟩ hY v_0 1 (v := .int (M.I 1 0)) rfl rfl (Nat.le_of_ble_eq_true rfl) hu_M m_490 (fun _ h => h) d_M_isPart_7 ?_
    refine lv_icmp_gt (tgt := 17) X.1 X.2.1 d_M_isPart_10 (by decide) (fun c2 => ?_) (fun c2 => ?_)
    · refine lv_iconst (v := 0) X.1 X.2.1 d_M_isPart_17 (by decide) ?_
      exact en_zR X hr hlocks d_M_isPart_18 rfl (by rw [b2_f (fun z => absurd z.2 (Int32.not_le.mpr c2))])
    · refine lv_iconst (v := 1) X.1 X.2.1 d_M_isPart_13 (by decide) ?_
      refine lv_goto (tgt := 18) X.1 X.2.1 d_M_isPart_14 (by decide) ?_
      exact en_zR X hr hlocks d_M_isPart_18 rfl (by rw [b2_t ⟨Int32.not_lt.mp c1, Int32.not_lt.mp c2⟩])

set_option maxHeartbeats 4000000 in
set_option maxRecDepth 100000 in
theorem k_M_isTime (l : Launch) (D : va_G) (A : Nat → Prop) (G : Nat → Nat) (M : mS) (ω : hm_T) (t : Int64) : Met l y_M_isTime (.code y_M_isTime c_M_isTime 3 (some .boolean) :: wsA) { frames := 0, cells := 0, slots := 0, locals := 0 } (va_Pc [.ref (M.ad 0), .long t] (ctU D A G (wM G M ω))) (hm_R (fun v => v = some (.int (b2 (mT M t))))) 0 0 (fun _ => False) := by
  refine ct_met (by decide) (Nat.le_of_ble_eq_true rfl) ?_
  rintro p e s m below meth c ls X hr hlocks hnm hl ⟨hB, hK⟩
  have hl : lv_has ls 3 [(0, .ref (M.ad 0)), (1, .long t)] := hl
  have hY : hm_Y D cls A s.heap (wM G M ω) s.heap [] := hm_Y.start hB hK.2.2.2
  refine lv_lload_n X.1 X.2.1 d_M_isTime_0 rfl (lv_at hl 1 rfl) ?_
  refine lv_aload_n X.1 X.2.1 d_M_isTime_1 rfl (lv_at hl 0 rfl) ?_
  refine hm_get ⟨X, hK.1⟩ hY v_0 21 (v := .long (M.J 21 0)) rfl rfl (Nat.le_of_ble_eq_true rfl) hu_M m_510 (fun _ h => h) d_M_isTime_2 ?_
  refine lc_lt (tgt := 21) X d_M_isTime_5 d_M_isTime_6 (by decide) (fun c1 => ?_) (fun c1 => ?_)
  · refine lv_iconst (v := 0) X.1 X.2.1 d_M_isTime_21 (by decide) ?_
    exact en_zR X hr hlocks d_M_isTime_22 rfl (by rw [b2_f (fun z => absurd z.1 (Int64.not_le.mpr c1))])
  · refine lv_lload_n X.1 X.2.1 d_M_isTime_9 rfl (lv_at hl 1 rfl) ?_
    refine lv_ldc2 X.1 X.2.1 X.2.2.2.1 (X.2.2.2.2 _ m_619) d_M_isTime_10 ?_
    refine lc_gt (tgt := 21) X d_M_isTime_13 d_M_isTime_14 (by decide) (fun c2 => ?_) (fun c2 => ?_)
    · refine lv_iconst (v := 0) X.1 X.2.1 d_M_isTime_21 (by decide) ?_
      exact en_zR X hr hlocks d_M_isTime_22 rfl (by rw [b2_f (fun z => absurd z.2 (Int64.not_le.mpr c2))])
    · refine lv_iconst (v := 1) X.1 X.2.1 d_M_isTime_17 (by decide) ?_
      refine lv_goto (tgt := 22) X.1 X.2.1 d_M_isTime_18 (by decide) ?_
      exact en_zR X hr hlocks d_M_isTime_22 rfl (by rw [b2_t ⟨Int64.not_lt.mp c1, Int64.not_lt.mp c2⟩])

set_option maxHeartbeats 4000000 in
set_option maxRecDepth 100000 in
theorem k_M_edgeAt (l : Launch) (D : va_G) (A : Nat → Prop) (G : Nat → Nat) (M : mS) (ω : hm_T) (x fr to : Int32) : Met l y_M_edgeAt (.code y_M_edgeAt c_M_edgeAt 4 (some .int) :: wsA) { frames := 0, cells := 0, slots := 0, locals := 0 } (va_Pc [.ref (M.ad 0), .int x, .int fr, .int to] (ctU D A G (wM G M ω))) (hm_R (fun v => v = some (.int (((4 * x + M.I 19 0) * 31 + fr) * 31 + to)))) 0 0 (fun _ => False) := by
  refine ct_met (by decide) (Nat.le_of_ble_eq_true rfl) ?_
  rintro p e s m below meth c ls X hr hlocks hnm hl ⟨hB, hK⟩
  have hl : lv_has ls 4 [(0, .ref (M.ad 0)), (1, .int x), (2, .int fr), (3, .int to)] := hl
  have hY : hm_Y D cls A s.heap (wM G M ω) s.heap [] := hm_Y.start hB hK.2.2.2
  refine lv_iconst (v := 4) X.1 X.2.1 d_M_edgeAt_0 (by decide) ?_
  refine lv_iload_n X.1 X.2.1 d_M_edgeAt_1 rfl (lv_at hl 1 rfl) ?_
  refine lv_imul X.1 X.2.1 d_M_edgeAt_2 ?_
  refine lv_aload_n X.1 X.2.1 d_M_edgeAt_3 rfl (lv_at hl 0 rfl) ?_
  refine hm_get ⟨X, hK.1⟩ hY v_0 19 (v := .int (M.I 19 0)) rfl rfl (Nat.le_of_ble_eq_true rfl) hu_M m_508 (fun _ h => h) d_M_edgeAt_4 ?_
  refine lv_iadd X.1 X.2.1 d_M_edgeAt_7 ?_
  refine lv_bipush (v := 31) X.1 X.2.1 d_M_edgeAt_8 (by decide) ?_
  refine lv_imul X.1 X.2.1 d_M_edgeAt_10 ?_
  refine lv_iload_n X.1 X.2.1 d_M_edgeAt_11 rfl (lv_at hl 2 rfl) ?_
  refine lv_iadd X.1 X.2.1 d_M_edgeAt_12 ?_
  refine lv_bipush (v := 31) X.1 X.2.1 d_M_edgeAt_13 (by decide) ?_
  refine lv_imul X.1 X.2.1 d_M_edgeAt_15 ?_
  refine lv_iload_n X.1 X.2.1 d_M_edgeAt_16 rfl (lv_at hl 3 rfl) ?_
  refine lv_iadd X.1 X.2.1 d_M_edgeAt_17 ?_
  exact en_iR X hr hlocks d_M_edgeAt_18 (rfl)

set_option maxHeartbeats 4000000 in
set_option maxRecDepth 100000 in
theorem k_M_clear (l : Launch) (D : va_G) (A : Nat → Prop) (G : Nat → Nat) (M : mS) (ω : hm_T) (n : Nat) (h0 : 1 ≤ n) (h20 : n ≤ 20) : Met l y_M_clear (.code y_M_clear c_M_clear 3 (none : Option FieldType) :: wsA) { frames := 0, cells := 0, slots := 0, locals := 0 } (va_Pc [.ref (M.ad 0), .int (nI n)] (ctU D A G (wM G M ω))) (hm_Q D cls A (fun v w => v = none ∧ w = wM G (clr M n) ω)) 0 0 A := by
  refine ct_met (by decide) (Nat.le_of_ble_eq_true rfl) ?_
  rintro p e s m below meth c ls X hr hlocks hnm hl ⟨hB, hK⟩
  have hl : lv_has ls 3 [(0, .ref (M.ad 0)), (1, .int (nI n))] := hl
  have hY : hm_Y D cls A s.heap (wM G M ω) s.heap [] := hm_Y.start hB hK.2.2.2
  refine lv_aload_n X.1 X.2.1 d_M_clear_0 rfl (lv_at hl 0 rfl) ?_
  refine hm_get ⟨X, hK.1⟩ hY v_0 8 (v := .ref (M.ad 8)) rfl rfl (Nat.le_of_ble_eq_true rfl) hu_M m_497 (fun _ h => h) d_M_clear_1 ?_
  refine lv_iload_n X.1 X.2.1 d_M_clear_4 rfl (lv_at hl 1 rfl) ?_
  refine lv_iconst (v := 0) X.1 X.2.1 d_M_clear_5 (by decide) ?_
  refine mi_ast ⟨X, hK.1⟩ hY v_8 0 rfl (x := n) rfl (by omega) (by decide) d_M_clear_6 (fun H locs hY => ?_)
  have hY : hm_Y D cls A s.heap (wM G (M.sI 8 n 0) ω) H locs := by rw [← fa_8 (M := M) (j := n) (v := 0)]; exact hY
  refine lv_aload_n X.1 X.2.1 d_M_clear_7 rfl (lv_at hl 0 rfl) ?_
  refine hm_get ⟨X, hK.1⟩ hY v_0 9 (v := .ref (M.ad 9)) rfl rfl (Nat.le_of_ble_eq_true rfl) hu_M m_498 (fun _ h => h) d_M_clear_8 ?_
  refine lv_iload_n X.1 X.2.1 d_M_clear_11 rfl (lv_at hl 1 rfl) ?_
  refine lv_iconst (v := 0) X.1 X.2.1 d_M_clear_12 (by decide) ?_
  refine mz_ast ⟨X, hK.1⟩ hY v_9 1 rfl (x := n) rfl (by omega) (by decide) rfl d_M_clear_13 (fun H locs hY => ?_)
  have hY : hm_Y D cls A s.heap (wM G ((M.sI 8 n 0).sI 9 n 0) ω) H locs := by rw [← fa_9 (M := (M.sI 8 n 0)) (j := n) (v := 0)]; exact hY
  refine lv_aload_n X.1 X.2.1 d_M_clear_14 rfl (lv_at hl 0 rfl) ?_
  refine hm_get ⟨X, hK.1⟩ hY v_0 10 (v := .ref (M.ad 10)) rfl rfl (Nat.le_of_ble_eq_true rfl) hu_M m_499 (fun _ h => h) d_M_clear_15 ?_
  refine lv_iload_n X.1 X.2.1 d_M_clear_18 rfl (lv_at hl 1 rfl) ?_
  refine lv_iconst (v := 0) X.1 X.2.1 d_M_clear_19 (by decide) ?_
  refine mi_ast ⟨X, hK.1⟩ hY v_10 0 rfl (x := n) rfl (by omega) (by decide) d_M_clear_20 (fun H locs hY => ?_)
  have hY : hm_Y D cls A s.heap (wM G (((M.sI 8 n 0).sI 9 n 0).sI 10 n 0) ω) H locs := by rw [← fa_10 (M := ((M.sI 8 n 0).sI 9 n 0)) (j := n) (v := 0)]; exact hY
  refine lv_bipush (v := 10) X.1 X.2.1 d_M_clear_21 (by decide) ?_
  refine lv_iload_n X.1 X.2.1 d_M_clear_23 rfl (lv_at hl 1 rfl) ?_
  refine lv_imul X.1 X.2.1 d_M_clear_24 ?_
  rw [show (10 : Int32) * nI n = nI (10 * n) from pk_mul 10 n]
  refine lv_istore_n (lv' := [(2, .int (nI (10 * n))), (0, .ref (M.ad 0)), (1, .int (nI n))]) X.1 X.2.1 d_M_clear_25 rfl hl (by decide) rfl (fun ls hl => ?_)
  have loop : ∀ (k j : Nat) (T : mS) (ls : Array Slot) (H : Heap) (locs : List Loc), j ≤ 10 → 10 < j + k → T = clL (cl0 M n) n j → T.I 1 = M.I 1 → T.I 4 = M.I 4 → T.I 12 = M.I 12 → hm_Y D cls A s.heap (wM G T ω) H locs → lv_has ls 3 [(2, .int (nI (10 * n + j))), (0, .ref (T.ad 0)), (1, .int (nI n))] → W p l e { frames := 0, cells := 0, slots := 0, locals := 0 } s m (([.ref (M.ad 0), .int (nI n)] : List Value).toArray) below meth c H locs 0 0 (MQ below (hm_Q D cls A (fun v w => v = none ∧ w = wM G (clr M n) ω)) (([.ref (M.ad 0), .int (nI n)] : List Value).toArray) s 0 0 A) (F0 m 26 ls []) := by
    intro k
    induction k with
    | zero => intro j T ls H locs hle hlt; omega
    | succ k ih =>
      intro j T ls H locs hle hlt hT h1 h4 h12 hY hl
      refine lv_iload_n X.1 X.2.1 d_M_clear_26 rfl (lv_at hl 0 rfl) ?_
      refine lv_bipush (v := 10) X.1 X.2.1 d_M_clear_27 (by decide) ?_
      refine lv_iload_n X.1 X.2.1 d_M_clear_29 rfl (lv_at hl 2 rfl) ?_
      refine lv_imul X.1 X.2.1 d_M_clear_30 ?_
      rw [show (10 : Int32) * nI n = nI (10 * n) from pk_mul 10 n]
      refine lv_bipush (v := 10) X.1 X.2.1 d_M_clear_31 (by decide) ?_
      refine lv_iadd X.1 X.2.1 d_M_clear_33 ?_
      rw [show nI (10 * n) + 10 = nI (10 * n + 10) from nI_add (10 * n) 10]
      refine lv_icmp_ge (tgt := 52) X.1 X.2.1 d_M_clear_34 (by decide) (fun c0 => ?_) (fun c0 => ?_)
      · have hj : j = 10 := by rcases Nat.lt_or_ge j (10) with q | q; exact absurd c0 (nI_ge (by omega) (by omega)); omega
        exact en_vW X hY hr hlocks d_M_clear_52 (⟨rfl, by rw [hT, hj]; rfl⟩)
      · have hj : j < 10 := by rcases Nat.lt_or_ge j (10) with q | q; exact q; exact absurd (nI_le (by omega) (by omega)) c0
        refine lv_aload_n X.1 X.2.1 d_M_clear_37 rfl (lv_at hl 1 rfl) ?_
        refine hm_get ⟨X, hK.1⟩ hY v_0 18 (v := .ref (T.ad 18)) rfl rfl (Nat.le_of_ble_eq_true rfl) hu_M m_507 (fun _ h => h) d_M_clear_38 ?_
        refine lv_iload_n X.1 X.2.1 d_M_clear_41 rfl (lv_at hl 0 rfl) ?_
        refine lv_ldc2 X.1 X.2.1 X.2.2.2.1 (X.2.2.2.2 _ m_488) d_M_clear_42 ?_
        refine ml_ast ⟨X, hK.1⟩ hY v_18 2 rfl (x := 10 * n + j) rfl (by omega) (by decide) d_M_clear_45 (fun H locs hY => ?_)
        have hY : hm_Y D cls A s.heap (wM G (T.sJ 18 (10 * n + j) (-1)) ω) H locs := by rw [← fa_18 (M := T) (j := 10 * n + j) (v := (-1))]; exact hY
        refine lv_iinc (v := nI (10 * n + (j + 1))) (lv' := [(2, .int (nI (10 * n + (j + 1)))), (0, .ref (T.ad 0)), (1, .int (nI n))]) X.1 X.2.1 d_M_clear_46 hl (k := 0) rfl (nI_1 (10 * n + j)) (by decide) rfl (fun ls hl => ?_)
        refine lv_goto (tgt := 26) X.1 X.2.1 d_M_clear_49 (by decide) ?_
        exact ih (j + 1) (T.sJ 18 (10 * n + j) (-1)) _ _ _ (by omega) (by omega) (by rw [show clL (cl0 M n) n (j + 1) = clL1 (clL (cl0 M n) n j) n j from rfl, ← hT, clL1]) h1 h4 h12 hY (lv_sub hl [0, 1, 2] rfl)
  exact loop (10 + 1) 0 (((M.sI 8 n 0).sI 9 n 0).sI 10 n 0) ls _ _ (Nat.zero_le _) (by omega) rfl rfl rfl rfl hY (lv_sub hl [0, 1, 2] rfl)

set_option maxHeartbeats 4000000 in
set_option maxRecDepth 100000 in
theorem k_M_reset0 (l : Launch) (D : va_G) (A : Nat → Prop) (G : Nat → Nat) (M : mS) (ω : hm_T) (c0 : Nat) (hc0 : M.I 1 0 = nI c0) (h20 : c0 ≤ 20) (why : Int32) : Met l y_M_reset0 (.code y_M_reset0 c_M_reset0 3 (none : Option FieldType) :: wsA) { frames := 1, cells := 0, slots := 0, locals := 22 } (va_Pc [.ref (M.ad 0), .int why] (ctU D A G (wM G M ω))) (hm_Q D cls A (fun v w => v = none ∧ w = wM G (r0 M why c0) ω)) 0 0 A := by
  refine ct_met (by decide) (Nat.le_of_ble_eq_true rfl) ?_
  rintro p e s m below meth c ls X hr hlocks hnm hl ⟨hB, hK⟩
  have hl : lv_has ls 3 [(0, .ref (M.ad 0)), (1, .int why)] := hl
  have hY : hm_Y D cls A s.heap (wM G M ω) s.heap [] := hm_Y.start hB hK.2.2.2
  refine lv_aload_n X.1 X.2.1 d_M_reset0_0 rfl (lv_at hl 0 rfl) ?_
  refine lv_iload_n X.1 X.2.1 d_M_reset0_1 rfl (lv_at hl 1 rfl) ?_
  refine hm_put ⟨X, hK.1⟩ hY v_0 25 rfl (Nat.le_of_ble_eq_true rfl) (Nat.le_of_ble_eq_true rfl) hu_M ty_M ty_M_ok nm_M m_514 (fun _ h => h) rfl rfl rfl d_M_reset0_2 (fun H locs hY => ?_)
  have hY : hm_Y D cls A s.heap (wM G (M.sI 25 0 why) ω) H locs := by rw [← fm_25 (M := M) (v := why)]; exact hY
  refine lv_aload_n X.1 X.2.1 d_M_reset0_5 rfl (lv_at hl 0 rfl) ?_
  refine lv_dup X.1 X.2.1 d_M_reset0_6 rfl ?_
  refine hm_get ⟨X, hK.1⟩ hY v_0 24 (v := .int (M.I 24 0)) rfl rfl (Nat.le_of_ble_eq_true rfl) hu_M m_513 (fun _ h => h) d_M_reset0_7 ?_
  refine lv_iconst (v := 1) X.1 X.2.1 d_M_reset0_10 (by decide) ?_
  refine lv_iadd X.1 X.2.1 d_M_reset0_11 ?_
  refine hm_put ⟨X, hK.1⟩ hY v_0 24 rfl (Nat.le_of_ble_eq_true rfl) (Nat.le_of_ble_eq_true rfl) hu_M ty_M ty_M_ok nm_M m_513 (fun _ h => h) rfl rfl rfl d_M_reset0_12 (fun H locs hY => ?_)
  have hY : hm_Y D cls A s.heap (wM G ((M.sI 25 0 why).sI 24 0 ((M.I 24 0) + 1)) ω) H locs := by rw [← fm_24 (M := (M.sI 25 0 why)) (v := (M.I 24 0) + 1)]; exact hY
  refine lv_iconst (v := 1) X.1 X.2.1 d_M_reset0_15 (by decide) ?_
  refine lv_istore_n (lv' := [(2, .int 1), (0, .ref (M.ad 0)), (1, .int why)]) X.1 X.2.1 d_M_reset0_16 rfl hl (by decide) rfl (fun ls hl => ?_)
  have loop : ∀ (k j : Nat) (T : mS) (ls : Array Slot) (H : Heap) (locs : List Loc), j ≤ c0 → c0 < j + k → T = r0L ((M.sI 25 0 why).sI 24 0 (M.I 24 0 + 1)) j → T.I 1 = M.I 1 → T.I 4 = M.I 4 → T.I 12 = M.I 12 → hm_Y D cls A s.heap (wM G T ω) H locs → lv_has ls 3 [(2, .int (nI (j + 1))), (0, .ref (T.ad 0)), (1, .int why)] → W p l e { frames := 1, cells := 0, slots := 0, locals := 22 } s m (([.ref (M.ad 0), .int why] : List Value).toArray) below meth c H locs 0 0 (MQ below (hm_Q D cls A (fun v w => v = none ∧ w = wM G (r0 M why c0) ω)) (([.ref (M.ad 0), .int why] : List Value).toArray) s 0 0 A) (F0 m 17 ls []) := by
    intro k
    induction k with
    | zero => intro j T ls H locs hle hlt; omega
    | succ k ih =>
      intro j T ls H locs hle hlt hT h1 h4 h12 hY hl
      refine lv_iload_n X.1 X.2.1 d_M_reset0_17 rfl (lv_at hl 0 rfl) ?_
      refine lv_aload_n X.1 X.2.1 d_M_reset0_18 rfl (lv_at hl 1 rfl) ?_
      refine hm_get ⟨X, hK.1⟩ hY v_0 1 (v := .int (T.I 1 0)) rfl rfl (Nat.le_of_ble_eq_true rfl) hu_M m_490 (fun _ h => h) d_M_reset0_19 ?_
      have hb1 : T.I 1 0 = nI c0 := by rw [h1]; exact hc0
      rw [hb1]
      refine lv_icmp_gt (tgt := 50) X.1 X.2.1 d_M_reset0_22 (by decide) (fun c9 => ?_) (fun c9 => ?_)
      · have hj : j = c0 := by rcases Nat.lt_or_ge j c0 with q | q; exact absurd c9 (nI_nlt (by omega) (by omega)); omega
        refine lv_aload_n X.1 X.2.1 d_M_reset0_50 rfl (lv_at hl 1 rfl) ?_
        refine lv_iconst (v := 0) X.1 X.2.1 d_M_reset0_51 (by decide) ?_
        refine hm_put ⟨X, hK.1⟩ hY v_0 19 rfl (Nat.le_of_ble_eq_true rfl) (Nat.le_of_ble_eq_true rfl) hu_M ty_M ty_M_ok nm_M m_508 (fun _ h => h) rfl rfl rfl d_M_reset0_52 (fun H locs hY => ?_)
        have hY : hm_Y D cls A s.heap (wM G (T.sI 19 0 0) ω) H locs := by rw [← fm_19 (M := T) (v := 0)]; exact hY
        refine lv_aload_n X.1 X.2.1 d_M_reset0_55 rfl (lv_at hl 1 rfl) ?_
        refine lv_iconst (v := 0) X.1 X.2.1 d_M_reset0_56 (by decide) ?_
        refine hm_put ⟨X, hK.1⟩ hY v_0 20 rfl (Nat.le_of_ble_eq_true rfl) (Nat.le_of_ble_eq_true rfl) hu_M ty_M ty_M_ok nm_M m_509 (fun _ h => h) rfl rfl rfl d_M_reset0_57 (fun H locs hY => ?_)
        have hY : hm_Y D cls A s.heap (wM G ((T.sI 19 0 0).sI 20 0 0) ω) H locs := by rw [← fm_20 (M := (T.sI 19 0 0)) (v := 0)]; exact hY
        refine lv_aload_n X.1 X.2.1 d_M_reset0_60 rfl (lv_at hl 1 rfl) ?_
        refine lv_iconst (v := 0) X.1 X.2.1 d_M_reset0_61 (by decide) ?_
        refine hm_put ⟨X, hK.1⟩ hY v_0 22 rfl (Nat.le_of_ble_eq_true rfl) (Nat.le_of_ble_eq_true rfl) hu_M ty_M ty_M_ok nm_M m_511 (fun _ h => h) rfl rfl rfl d_M_reset0_62 (fun H locs hY => ?_)
        have hY : hm_Y D cls A s.heap (wM G (((T.sI 19 0 0).sI 20 0 0).sI 22 0 0) ω) H locs := by rw [← fm_22 (M := ((T.sI 19 0 0).sI 20 0 0)) (v := 0)]; exact hY
        refine lv_aload_n X.1 X.2.1 d_M_reset0_65 rfl (lv_at hl 1 rfl) ?_
        refine lv_iconst (v := 0) X.1 X.2.1 d_M_reset0_66 (by decide) ?_
        refine hm_put ⟨X, hK.1⟩ hY v_0 26 rfl (Nat.le_of_ble_eq_true rfl) (Nat.le_of_ble_eq_true rfl) hu_M ty_M ty_M_ok nm_M m_515 (fun _ h => h) rfl rfl rfl d_M_reset0_67 (fun H locs hY => ?_)
        have hY : hm_Y D cls A s.heap (wM G ((((T.sI 19 0 0).sI 20 0 0).sI 22 0 0).sI 26 0 0) ω) H locs := by rw [← fm_26 (M := (((T.sI 19 0 0).sI 20 0 0).sI 22 0 0)) (v := 0)]; exact hY
        refine lv_aload_n X.1 X.2.1 d_M_reset0_70 rfl (lv_at hl 1 rfl) ?_
        refine lv_iconst (v := 0) X.1 X.2.1 d_M_reset0_71 (by decide) ?_
        refine hm_put ⟨X, hK.1⟩ hY v_0 27 rfl (Nat.le_of_ble_eq_true rfl) (Nat.le_of_ble_eq_true rfl) hu_M ty_M ty_M_ok nm_M m_516 (fun _ h => h) rfl rfl rfl d_M_reset0_72 (fun H locs hY => ?_)
        have hY : hm_Y D cls A s.heap (wM G (((((T.sI 19 0 0).sI 20 0 0).sI 22 0 0).sI 26 0 0).sI 27 0 0) ω) H locs := by rw [← fm_27 (M := ((((T.sI 19 0 0).sI 20 0 0).sI 22 0 0).sI 26 0 0)) (v := 0)]; exact hY
        refine lv_aload_n X.1 X.2.1 d_M_reset0_75 rfl (lv_at hl 1 rfl) ?_
        refine lv_iconst (v := 0) X.1 X.2.1 d_M_reset0_76 (by decide) ?_
        refine hm_put ⟨X, hK.1⟩ hY v_0 28 rfl (Nat.le_of_ble_eq_true rfl) (Nat.le_of_ble_eq_true rfl) hu_M ty_M ty_M_ok nm_M m_517 (fun _ h => h) rfl rfl rfl d_M_reset0_77 (fun H locs hY => ?_)
        have hY : hm_Y D cls A s.heap (wM G ((((((T.sI 19 0 0).sI 20 0 0).sI 22 0 0).sI 26 0 0).sI 27 0 0).sI 28 0 0) ω) H locs := by rw [← fm_28 (M := (((((T.sI 19 0 0).sI 20 0 0).sI 22 0 0).sI 26 0 0).sI 27 0 0)) (v := 0)]; exact hY
        refine lv_aload_n X.1 X.2.1 d_M_reset0_80 rfl (lv_at hl 1 rfl) ?_
        refine lv_aload_n X.1 X.2.1 d_M_reset0_81 rfl (lv_at hl 1 rfl) ?_
        refine hm_get ⟨X, hK.1⟩ hY v_0 21 (v := .long (T.J 21 0)) rfl rfl (Nat.le_of_ble_eq_true rfl) hu_M m_510 (fun _ h => h) d_M_reset0_82 ?_
        refine hm_put ⟨X, hK.1⟩ hY v_0 29 rfl (Nat.le_of_ble_eq_true rfl) (Nat.le_of_ble_eq_true rfl) hu_M ty_M ty_M_ok nm_M m_518 (fun _ h => h) rfl rfl rfl d_M_reset0_85 (fun H locs hY => ?_)
        have hY : hm_Y D cls A s.heap (wM G (((((((T.sI 19 0 0).sI 20 0 0).sI 22 0 0).sI 26 0 0).sI 27 0 0).sI 28 0 0).sJ 29 0 (T.J 21 0)) ω) H locs := by rw [← fm_29 (M := ((((((T.sI 19 0 0).sI 20 0 0).sI 22 0 0).sI 26 0 0).sI 27 0 0).sI 28 0 0)) (v := T.J 21 0)]; exact hY
        refine lv_aload_n X.1 X.2.1 d_M_reset0_88 rfl (lv_at hl 1 rfl) ?_
        refine lv_aload_n X.1 X.2.1 d_M_reset0_89 rfl (lv_at hl 1 rfl) ?_
        refine hm_get ⟨X, hK.1⟩ hY v_0 21 (v := .long (T.J 21 0)) rfl rfl (Nat.le_of_ble_eq_true rfl) hu_M m_510 (fun _ h => h) d_M_reset0_90 ?_
        refine hm_put ⟨X, hK.1⟩ hY v_0 30 rfl (Nat.le_of_ble_eq_true rfl) (Nat.le_of_ble_eq_true rfl) hu_M ty_M ty_M_ok nm_M m_519 (fun _ h => h) rfl rfl rfl d_M_reset0_93 (fun H locs hY => ?_)
        have hY : hm_Y D cls A s.heap (wM G ((((((((T.sI 19 0 0).sI 20 0 0).sI 22 0 0).sI 26 0 0).sI 27 0 0).sI 28 0 0).sJ 29 0 (T.J 21 0)).sJ 30 0 (T.J 21 0)) ω) H locs := by rw [← fm_30 (M := (((((((T.sI 19 0 0).sI 20 0 0).sI 22 0 0).sI 26 0 0).sI 27 0 0).sI 28 0 0).sJ 29 0 (T.J 21 0))) (v := T.J 21 0)]; exact hY
        exact en_vW X hY hr hlocks d_M_reset0_96 (⟨rfl, by rw [r0, ← hj, ← hT]; rfl⟩)
      · have hj : j < c0 := by rcases Nat.lt_or_ge j c0 with q | q; exact q; exact absurd (nI_lt (by omega) (by omega)) c9
        refine lv_aload_n X.1 X.2.1 d_M_reset0_25 rfl (lv_at hl 1 rfl) ?_
        refine lv_iload_n X.1 X.2.1 d_M_reset0_26 rfl (lv_at hl 0 rfl) ?_
        refine hm_call (ct_runV (n := 1) X hK hY (k_M_clear l D A G T ω (j + 1) (by omega) (by omega)) m_635 m_632 m_634 ms_M_clear m_6 (by decide +kernel) ⟨Nat.le_of_ble_eq_true rfl, Nat.le_of_ble_eq_true rfl⟩ ⟨rfl, rfl⟩ (hm_recv ⟨X, hK.1⟩ hY v_0 rfl) rfl hl.1 rfl (Nat.le_of_ble_eq_true rfl) d_M_reset0_27 ⟨Nat.le_of_ble_eq_true rfl, Nat.le_of_ble_eq_true rfl⟩) hY (fun v w1 H locs hp hY => ?_)
        obtain ⟨rfl, rfl⟩ := hp
        refine W.eq (g2 := F0 m 30 ls []) rfl ?_
        obtain ⟨E1, hE1⟩ : ∃ z, z = clr T (j + 1) := ⟨_, rfl⟩
        rw [← hE1] at hY
        have hkE1 : E1.ad = T.ad ∧ E1.I 1 = T.I 1 ∧ E1.I 4 = T.I 4 ∧ E1.I 12 = T.I 12 := by rw [hE1]; exact clr_k T (j + 1)
        have hl : lv_has ls 3 [(2, .int (nI (j + 1))), (0, .ref (E1.ad 0)), (1, .int why)] := by rw [hkE1.1]; exact hl
        refine lv_aload_n X.1 X.2.1 d_M_reset0_30 rfl (lv_at hl 1 rfl) ?_
        refine hm_get ⟨X, hK.1⟩ hY v_0 5 (v := .ref (E1.ad 5)) rfl rfl (Nat.le_of_ble_eq_true rfl) hu_M m_494 (fun _ h => h) d_M_reset0_31 ?_
        refine lv_iload_n X.1 X.2.1 d_M_reset0_34 rfl (lv_at hl 0 rfl) ?_
        refine lv_iconst (v := 0) X.1 X.2.1 d_M_reset0_35 (by decide) ?_
        refine mi_ast ⟨X, hK.1⟩ hY v_5 0 rfl (x := j + 1) rfl (by omega) (by decide) d_M_reset0_36 (fun H locs hY => ?_)
        have hY : hm_Y D cls A s.heap (wM G (E1.sI 5 (j + 1) 0) ω) H locs := by rw [← fa_5 (M := E1) (j := j + 1) (v := 0)]; exact hY
        refine lv_aload_n X.1 X.2.1 d_M_reset0_37 rfl (lv_at hl 1 rfl) ?_
        refine hm_get ⟨X, hK.1⟩ hY v_0 6 (v := .ref (E1.ad 6)) rfl rfl (Nat.le_of_ble_eq_true rfl) hu_M m_495 (fun _ h => h) d_M_reset0_38 ?_
        refine lv_iload_n X.1 X.2.1 d_M_reset0_41 rfl (lv_at hl 0 rfl) ?_
        refine lv_iconst (v := 0) X.1 X.2.1 d_M_reset0_42 (by decide) ?_
        refine mi_ast ⟨X, hK.1⟩ hY v_6 0 rfl (x := j + 1) rfl (by omega) (by decide) d_M_reset0_43 (fun H locs hY => ?_)
        have hY : hm_Y D cls A s.heap (wM G ((E1.sI 5 (j + 1) 0).sI 6 (j + 1) 0) ω) H locs := by rw [← fa_6 (M := (E1.sI 5 (j + 1) 0)) (j := j + 1) (v := 0)]; exact hY
        refine lv_iinc (v := nI (j + 1 + 1)) (lv' := [(2, .int (nI (j + 1 + 1))), (0, .ref (E1.ad 0)), (1, .int why)]) X.1 X.2.1 d_M_reset0_44 hl (k := 0) rfl (nI_1 (j + 1)) (by decide) rfl (fun ls hl => ?_)
        refine lv_goto (tgt := 17) X.1 X.2.1 d_M_reset0_47 (by decide) ?_
        exact ih (j + 1) ((E1.sI 5 (j + 1) 0).sI 6 (j + 1) 0) _ _ _ (by omega) (by omega) (by rw [hE1, show r0L ((M.sI 25 0 why).sI 24 0 (M.I 24 0 + 1)) (j + 1) = r01 (r0L ((M.sI 25 0 why).sI 24 0 (M.I 24 0 + 1)) j) (j + 1) from rfl, ← hT, r01]) (hkE1.2.1.trans h1) (hkE1.2.2.1.trans h4) (hkE1.2.2.2.trans h12) hY (lv_sub hl [0, 1, 2] rfl)
  exact loop (c0 + 1) 0 ((M.sI 25 0 why).sI 24 0 ((M.I 24 0) + 1)) ls _ _ (Nat.zero_le _) (by omega) rfl rfl rfl rfl hY (lv_sub hl [0, 1, 2] rfl)

set_option maxHeartbeats 4000000 in
set_option maxRecDepth 100000 in
theorem k_M_judge (l : Launch) (D : va_G) (A : Nat → Prop) (G : Nat → Nat) (M : mS) (ω : hm_T) (n : Nat) (h0 : 1 ≤ n) (h20 : n ≤ 20) (cn : Nat) (hcn : M.I 12 n = nI cn) (h10 : cn ≤ 10) (hsp : ¬ M.I 4 n = 0) : Met l y_M_judge (.code y_M_judge c_M_judge 3 (none : Option FieldType) :: wsA) { frames := 0, cells := 0, slots := 0, locals := 0 } (va_Pc [.ref (M.ad 0), .int (nI n)] (ctU D A G (wM G M ω))) (hm_Q D cls A (fun v w => v = none ∧ w = wM G (jd M n cn) ω)) 0 0 A := by
  refine ct_met (by decide) (Nat.le_of_ble_eq_true rfl) ?_
  rintro p e s m below meth c ls X hr hlocks hnm hl ⟨hB, hK⟩
  have hl : lv_has ls 3 [(0, .ref (M.ad 0)), (1, .int (nI n))] := hl
  have hY : hm_Y D cls A s.heap (wM G M ω) s.heap [] := hm_Y.start hB hK.2.2.2
  have mid : ∀ (T : mS) (ls : Array Slot) (H : Heap) (locs : List Loc), T = jA (jL M n cn) n → hm_Y D cls A s.heap (wM G T ω) H locs → lv_has ls 3 [(0, .ref (T.ad 0)), (1, .int (nI n))] → W p l e { frames := 0, cells := 0, slots := 0, locals := 0 } s m (([.ref (M.ad 0), .int (nI n)] : List Value).toArray) below meth c H locs 0 0 (MQ below (hm_Q D cls A (fun v w => v = none ∧ w = wM G (jd M n cn) ω)) (([.ref (M.ad 0), .int (nI n)] : List Value).toArray) s 0 0 A) (F0 m 143 ls []) := by
    intro T ls H locs hT hY hl
    refine lv_aload_n X.1 X.2.1 d_M_judge_143 rfl (lv_at hl 0 rfl) ?_
    refine hm_get ⟨X, hK.1⟩ hY v_0 9 (v := .ref (T.ad 9)) rfl rfl (Nat.le_of_ble_eq_true rfl) hu_M m_498 (fun _ h => h) d_M_judge_144 ?_
    refine lv_iload_n X.1 X.2.1 d_M_judge_147 rfl (lv_at hl 1 rfl) ?_
    refine mz_ald ⟨X, hK.1⟩ hY v_9 1 rfl (x := n) (v := T.I 9 n) rfl (by omega) (by decide) rfl d_M_judge_148 ?_
    refine lv_if_eq (tgt := 191) X.1 X.2.1 d_M_judge_149 (by decide) (fun c1 => ?_) (fun c1 => ?_)
    · refine lv_aload_n X.1 X.2.1 d_M_judge_191 rfl (lv_at hl 0 rfl) ?_
      refine hm_get ⟨X, hK.1⟩ hY v_0 5 (v := .ref (T.ad 5)) rfl rfl (Nat.le_of_ble_eq_true rfl) hu_M m_494 (fun _ h => h) d_M_judge_192 ?_
      refine lv_iload_n X.1 X.2.1 d_M_judge_195 rfl (lv_at hl 1 rfl) ?_
      refine mi_ald ⟨X, hK.1⟩ hY v_5 0 rfl (x := n) (v := T.I 5 n) rfl (by omega) (by decide) rfl d_M_judge_196 ?_
      refine lv_iconst (v := 1) X.1 X.2.1 d_M_judge_197 (by decide) ?_
      refine lv_icmp_ne (tgt := 231) X.1 X.2.1 d_M_judge_198 (by decide) (fun c2 => ?_) (fun c2 => ?_)
      · refine lv_aload_n X.1 X.2.1 d_M_judge_231 rfl (lv_at hl 0 rfl) ?_
        refine hm_get ⟨X, hK.1⟩ hY v_0 9 (v := .ref (T.ad 9)) rfl rfl (Nat.le_of_ble_eq_true rfl) hu_M m_498 (fun _ h => h) d_M_judge_232 ?_
        refine lv_iload_n X.1 X.2.1 d_M_judge_235 rfl (lv_at hl 1 rfl) ?_
        refine lv_iconst (v := 0) X.1 X.2.1 d_M_judge_236 (by decide) ?_
        refine mz_ast ⟨X, hK.1⟩ hY v_9 1 rfl (x := n) rfl (by omega) (by decide) rfl d_M_judge_237 (fun H locs hY => ?_)
        have hY : hm_Y D cls A s.heap (wM G (T.sI 9 n 0) ω) H locs := by rw [← fa_9 (M := T) (j := n) (v := 0)]; exact hY
        exact en_vW X hY hr hlocks d_M_judge_238 (⟨rfl, by rw [jd, ← hT, jB, if_pos c1, if_neg c2]⟩)
      · refine lv_aload_n X.1 X.2.1 d_M_judge_201 rfl (lv_at hl 0 rfl) ?_
        refine hm_get ⟨X, hK.1⟩ hY v_0 6 (v := .ref (T.ad 6)) rfl rfl (Nat.le_of_ble_eq_true rfl) hu_M m_495 (fun _ h => h) d_M_judge_202 ?_
        refine lv_iload_n X.1 X.2.1 d_M_judge_205 rfl (lv_at hl 1 rfl) ?_
        refine lv_dup2_11 X.1 X.2.1 d_M_judge_206 rfl rfl ?_
        refine mi_ald ⟨X, hK.1⟩ hY v_6 0 rfl (x := n) (v := T.I 6 n) rfl (by omega) (by decide) rfl d_M_judge_207 ?_
        refine lv_iconst (v := 1) X.1 X.2.1 d_M_judge_208 (by decide) ?_
        refine lv_isub X.1 X.2.1 d_M_judge_209 ?_
        refine mi_ast ⟨X, hK.1⟩ hY v_6 0 rfl (x := n) rfl (by omega) (by decide) d_M_judge_210 (fun H locs hY => ?_)
        have hY : hm_Y D cls A s.heap (wM G (T.sI 6 n ((T.I 6 n) - 1)) ω) H locs := by rw [← fa_6 (M := T) (j := n) (v := (T.I 6 n) - 1)]; exact hY
        refine lv_aload_n X.1 X.2.1 d_M_judge_211 rfl (lv_at hl 0 rfl) ?_
        refine hm_get ⟨X, hK.1⟩ hY v_0 5 (v := .ref (T.ad 5)) rfl rfl (Nat.le_of_ble_eq_true rfl) hu_M m_494 (fun _ h => h) d_M_judge_212 ?_
        refine lv_iload_n X.1 X.2.1 d_M_judge_215 rfl (lv_at hl 1 rfl) ?_
        refine lv_aload_n X.1 X.2.1 d_M_judge_216 rfl (lv_at hl 0 rfl) ?_
        refine hm_get ⟨X, hK.1⟩ hY v_0 6 (v := .ref (T.ad 6)) rfl rfl (Nat.le_of_ble_eq_true rfl) hu_M m_495 (fun _ h => h) d_M_judge_217 ?_
        refine lv_iload_n X.1 X.2.1 d_M_judge_220 rfl (lv_at hl 1 rfl) ?_
        refine mi_ald ⟨X, hK.1⟩ hY v_6 0 rfl (x := n) (v := (T.I 6 n) - 1) rfl (by omega) (by decide) (by simp [mS.sI, mS.sJ, mS.I, mS.J, up2]) d_M_judge_221 ?_
        refine lv_if_ne (tgt := 229) X.1 X.2.1 d_M_judge_222 (by decide) (fun c3 => ?_) (fun c3 => ?_)
        · refine lv_iconst (v := 1) X.1 X.2.1 d_M_judge_229 (by decide) ?_
          refine mi_ast ⟨X, hK.1⟩ hY v_5 0 rfl (x := n) rfl (by omega) (by decide) d_M_judge_230 (fun H locs hY => ?_)
          have hY : hm_Y D cls A s.heap (wM G ((T.sI 6 n ((T.I 6 n) - 1)).sI 5 n 1) ω) H locs := by rw [← fa_5 (M := (T.sI 6 n ((T.I 6 n) - 1))) (j := n) (v := 1)]; exact hY
          refine lv_aload_n X.1 X.2.1 d_M_judge_231 rfl (lv_at hl 0 rfl) ?_
          refine hm_get ⟨X, hK.1⟩ hY v_0 9 (v := .ref (T.ad 9)) rfl rfl (Nat.le_of_ble_eq_true rfl) hu_M m_498 (fun _ h => h) d_M_judge_232 ?_
          refine lv_iload_n X.1 X.2.1 d_M_judge_235 rfl (lv_at hl 1 rfl) ?_
          refine lv_iconst (v := 0) X.1 X.2.1 d_M_judge_236 (by decide) ?_
          refine mz_ast ⟨X, hK.1⟩ hY v_9 1 rfl (x := n) rfl (by omega) (by decide) rfl d_M_judge_237 (fun H locs hY => ?_)
          have hY : hm_Y D cls A s.heap (wM G (((T.sI 6 n ((T.I 6 n) - 1)).sI 5 n 1).sI 9 n 0) ω) H locs := by rw [← fa_9 (M := ((T.sI 6 n ((T.I 6 n) - 1)).sI 5 n 1)) (j := n) (v := 0)]; exact hY
          exact en_vW X hY hr hlocks d_M_judge_238 (⟨rfl, by rw [jd, ← hT, jB, if_pos c1, if_pos c2, if_neg c3]⟩)
        · refine lv_iconst (v := 0) X.1 X.2.1 d_M_judge_225 (by decide) ?_
          refine lv_goto (tgt := 230) X.1 X.2.1 d_M_judge_226 (by decide) ?_
          refine mi_ast ⟨X, hK.1⟩ hY v_5 0 rfl (x := n) rfl (by omega) (by decide) d_M_judge_230 (fun H locs hY => ?_)
          have hY : hm_Y D cls A s.heap (wM G ((T.sI 6 n ((T.I 6 n) - 1)).sI 5 n 0) ω) H locs := by rw [← fa_5 (M := (T.sI 6 n ((T.I 6 n) - 1))) (j := n) (v := 0)]; exact hY
          refine lv_aload_n X.1 X.2.1 d_M_judge_231 rfl (lv_at hl 0 rfl) ?_
          refine hm_get ⟨X, hK.1⟩ hY v_0 9 (v := .ref (T.ad 9)) rfl rfl (Nat.le_of_ble_eq_true rfl) hu_M m_498 (fun _ h => h) d_M_judge_232 ?_
          refine lv_iload_n X.1 X.2.1 d_M_judge_235 rfl (lv_at hl 1 rfl) ?_
          refine lv_iconst (v := 0) X.1 X.2.1 d_M_judge_236 (by decide) ?_
          refine mz_ast ⟨X, hK.1⟩ hY v_9 1 rfl (x := n) rfl (by omega) (by decide) rfl d_M_judge_237 (fun H locs hY => ?_)
          have hY : hm_Y D cls A s.heap (wM G (((T.sI 6 n ((T.I 6 n) - 1)).sI 5 n 0).sI 9 n 0) ω) H locs := by rw [← fa_9 (M := ((T.sI 6 n ((T.I 6 n) - 1)).sI 5 n 0)) (j := n) (v := 0)]; exact hY
          exact en_vW X hY hr hlocks d_M_judge_238 (⟨rfl, by rw [jd, ← hT, jB, if_pos c1, if_pos c2, if_pos c3]⟩)
    · refine lv_aload_n X.1 X.2.1 d_M_judge_152 rfl (lv_at hl 0 rfl) ?_
      refine hm_get ⟨X, hK.1⟩ hY v_0 6 (v := .ref (T.ad 6)) rfl rfl (Nat.le_of_ble_eq_true rfl) hu_M m_495 (fun _ h => h) d_M_judge_153 ?_
      refine lv_iload_n X.1 X.2.1 d_M_judge_156 rfl (lv_at hl 1 rfl) ?_
      refine lv_dup2_11 X.1 X.2.1 d_M_judge_157 rfl rfl ?_
      refine mi_ald ⟨X, hK.1⟩ hY v_6 0 rfl (x := n) (v := T.I 6 n) rfl (by omega) (by decide) rfl d_M_judge_158 ?_
      refine lv_iconst (v := 1) X.1 X.2.1 d_M_judge_159 (by decide) ?_
      refine lv_iadd X.1 X.2.1 d_M_judge_160 ?_
      refine mi_ast ⟨X, hK.1⟩ hY v_6 0 rfl (x := n) rfl (by omega) (by decide) d_M_judge_161 (fun H locs hY => ?_)
      have hY : hm_Y D cls A s.heap (wM G (T.sI 6 n ((T.I 6 n) + 1)) ω) H locs := by rw [← fa_6 (M := T) (j := n) (v := (T.I 6 n) + 1)]; exact hY
      refine lv_aload_n X.1 X.2.1 d_M_judge_162 rfl (lv_at hl 0 rfl) ?_
      refine hm_get ⟨X, hK.1⟩ hY v_0 5 (v := .ref (T.ad 5)) rfl rfl (Nat.le_of_ble_eq_true rfl) hu_M m_494 (fun _ h => h) d_M_judge_163 ?_
      refine lv_iload_n X.1 X.2.1 d_M_judge_166 rfl (lv_at hl 1 rfl) ?_
      refine lv_aload_n X.1 X.2.1 d_M_judge_167 rfl (lv_at hl 0 rfl) ?_
      refine hm_get ⟨X, hK.1⟩ hY v_0 6 (v := .ref (T.ad 6)) rfl rfl (Nat.le_of_ble_eq_true rfl) hu_M m_495 (fun _ h => h) d_M_judge_168 ?_
      refine lv_iload_n X.1 X.2.1 d_M_judge_171 rfl (lv_at hl 1 rfl) ?_
      refine mi_ald ⟨X, hK.1⟩ hY v_6 0 rfl (x := n) (v := (T.I 6 n) + 1) rfl (by omega) (by decide) (by simp [mS.sI, mS.sJ, mS.I, mS.J, up2]) d_M_judge_172 ?_
      refine lv_aload_n X.1 X.2.1 d_M_judge_173 rfl (lv_at hl 0 rfl) ?_
      refine hm_get ⟨X, hK.1⟩ hY v_0 7 (v := .ref (T.ad 7)) rfl rfl (Nat.le_of_ble_eq_true rfl) hu_M m_496 (fun _ h => h) d_M_judge_174 ?_
      refine lv_iload_n X.1 X.2.1 d_M_judge_177 rfl (lv_at hl 1 rfl) ?_
      refine mi_ald ⟨X, hK.1⟩ hY v_7 0 rfl (x := n) (v := T.I 7 n) rfl (by omega) (by decide) rfl d_M_judge_178 ?_
      refine lv_icmp_le (tgt := 186) X.1 X.2.1 d_M_judge_179 (by decide) (fun c4 => ?_) (fun c4 => ?_)
      · refine lv_iconst (v := 1) X.1 X.2.1 d_M_judge_186 (by decide) ?_
        refine mi_ast ⟨X, hK.1⟩ hY v_5 0 rfl (x := n) rfl (by omega) (by decide) d_M_judge_187 (fun H locs hY => ?_)
        have hY : hm_Y D cls A s.heap (wM G ((T.sI 6 n ((T.I 6 n) + 1)).sI 5 n 1) ω) H locs := by rw [← fa_5 (M := (T.sI 6 n ((T.I 6 n) + 1))) (j := n) (v := 1)]; exact hY
        refine lv_goto (tgt := 231) X.1 X.2.1 d_M_judge_188 (by decide) ?_
        refine lv_aload_n X.1 X.2.1 d_M_judge_231 rfl (lv_at hl 0 rfl) ?_
        refine hm_get ⟨X, hK.1⟩ hY v_0 9 (v := .ref (T.ad 9)) rfl rfl (Nat.le_of_ble_eq_true rfl) hu_M m_498 (fun _ h => h) d_M_judge_232 ?_
        refine lv_iload_n X.1 X.2.1 d_M_judge_235 rfl (lv_at hl 1 rfl) ?_
        refine lv_iconst (v := 0) X.1 X.2.1 d_M_judge_236 (by decide) ?_
        refine mz_ast ⟨X, hK.1⟩ hY v_9 1 rfl (x := n) rfl (by omega) (by decide) rfl d_M_judge_237 (fun H locs hY => ?_)
        have hY : hm_Y D cls A s.heap (wM G (((T.sI 6 n ((T.I 6 n) + 1)).sI 5 n 1).sI 9 n 0) ω) H locs := by rw [← fa_9 (M := ((T.sI 6 n ((T.I 6 n) + 1)).sI 5 n 1)) (j := n) (v := 0)]; exact hY
        exact en_vW X hY hr hlocks d_M_judge_238 (⟨rfl, by rw [jd, ← hT, jB, if_neg c1, if_pos c4]⟩)
      · refine lv_iconst (v := 2) X.1 X.2.1 d_M_judge_182 (by decide) ?_
        refine lv_goto (tgt := 187) X.1 X.2.1 d_M_judge_183 (by decide) ?_
        refine mi_ast ⟨X, hK.1⟩ hY v_5 0 rfl (x := n) rfl (by omega) (by decide) d_M_judge_187 (fun H locs hY => ?_)
        have hY : hm_Y D cls A s.heap (wM G ((T.sI 6 n ((T.I 6 n) + 1)).sI 5 n 2) ω) H locs := by rw [← fa_5 (M := (T.sI 6 n ((T.I 6 n) + 1))) (j := n) (v := 2)]; exact hY
        refine lv_goto (tgt := 231) X.1 X.2.1 d_M_judge_188 (by decide) ?_
        refine lv_aload_n X.1 X.2.1 d_M_judge_231 rfl (lv_at hl 0 rfl) ?_
        refine hm_get ⟨X, hK.1⟩ hY v_0 9 (v := .ref (T.ad 9)) rfl rfl (Nat.le_of_ble_eq_true rfl) hu_M m_498 (fun _ h => h) d_M_judge_232 ?_
        refine lv_iload_n X.1 X.2.1 d_M_judge_235 rfl (lv_at hl 1 rfl) ?_
        refine lv_iconst (v := 0) X.1 X.2.1 d_M_judge_236 (by decide) ?_
        refine mz_ast ⟨X, hK.1⟩ hY v_9 1 rfl (x := n) rfl (by omega) (by decide) rfl d_M_judge_237 (fun H locs hY => ?_)
        have hY : hm_Y D cls A s.heap (wM G (((T.sI 6 n ((T.I 6 n) + 1)).sI 5 n 2).sI 9 n 0) ω) H locs := by rw [← fa_9 (M := ((T.sI 6 n ((T.I 6 n) + 1)).sI 5 n 2)) (j := n) (v := 0)]; exact hY
        exact en_vW X hY hr hlocks d_M_judge_238 (⟨rfl, by rw [jd, ← hT, jB, if_neg c1, if_neg c4]⟩)
  refine lv_bipush (v := 10) X.1 X.2.1 d_M_judge_0 (by decide) ?_
  refine lv_iload_n X.1 X.2.1 d_M_judge_2 rfl (lv_at hl 1 rfl) ?_
  refine lv_imul X.1 X.2.1 d_M_judge_3 ?_
  rw [show (10 : Int32) * nI n = nI (10 * n) from pk_mul 10 n]
  refine lv_istore_n (lv' := [(2, .int (nI (10 * n))), (0, .ref (M.ad 0)), (1, .int (nI n))]) X.1 X.2.1 d_M_judge_4 rfl hl (by decide) rfl (fun ls hl => ?_)
  have loop : ∀ (k j : Nat) (T : mS) (ls : Array Slot) (H : Heap) (locs : List Loc), j ≤ cn → cn < j + k → T = jL M n j → T.I 1 = M.I 1 → T.I 4 = M.I 4 → T.I 12 = M.I 12 → hm_Y D cls A s.heap (wM G T ω) H locs → lv_has ls 3 [(2, .int (nI (10 * n + j))), (0, .ref (T.ad 0)), (1, .int (nI n))] → W p l e { frames := 0, cells := 0, slots := 0, locals := 0 } s m (([.ref (M.ad 0), .int (nI n)] : List Value).toArray) below meth c H locs 0 0 (MQ below (hm_Q D cls A (fun v w => v = none ∧ w = wM G (jd M n cn) ω)) (([.ref (M.ad 0), .int (nI n)] : List Value).toArray) s 0 0 A) (F0 m 5 ls []) := by
    intro k
    induction k with
    | zero => intro j T ls H locs hle hlt; omega
    | succ k ih =>
      intro j T ls H locs hle hlt hT h1 h4 h12 hY hl
      refine lv_iload_n X.1 X.2.1 d_M_judge_5 rfl (lv_at hl 0 rfl) ?_
      refine lv_bipush (v := 10) X.1 X.2.1 d_M_judge_6 (by decide) ?_
      refine lv_iload_n X.1 X.2.1 d_M_judge_8 rfl (lv_at hl 2 rfl) ?_
      refine lv_imul X.1 X.2.1 d_M_judge_9 ?_
      rw [show (10 : Int32) * nI n = nI (10 * n) from pk_mul 10 n]
      refine lv_aload_n X.1 X.2.1 d_M_judge_10 rfl (lv_at hl 1 rfl) ?_
      refine hm_get ⟨X, hK.1⟩ hY v_0 12 (v := .ref (T.ad 12)) rfl rfl (Nat.le_of_ble_eq_true rfl) hu_M m_501 (fun _ h => h) d_M_judge_11 ?_
      refine lv_iload_n X.1 X.2.1 d_M_judge_14 rfl (lv_at hl 2 rfl) ?_
      refine mi_ald ⟨X, hK.1⟩ hY v_12 0 rfl (x := n) (v := T.I 12 n) rfl (by omega) (by decide) rfl d_M_judge_15 ?_
      refine lv_iadd X.1 X.2.1 d_M_judge_16 ?_
      rw [h12, hcn, nI_add]
      refine lv_icmp_ge (tgt := 77) X.1 X.2.1 d_M_judge_17 (by decide) (fun c0 => ?_) (fun c0 => ?_)
      · have hj : j = cn := by rcases Nat.lt_or_ge j (cn) with q | q; exact absurd c0 (nI_ge (by omega) (by omega)); omega
        refine lv_aload_n X.1 X.2.1 d_M_judge_77 rfl (lv_at hl 1 rfl) ?_
        refine hm_get ⟨X, hK.1⟩ hY v_0 20 (v := .int (T.I 20 0)) rfl rfl (Nat.le_of_ble_eq_true rfl) hu_M m_509 (fun _ h => h) d_M_judge_78 ?_
        refine lv_aload_n X.1 X.2.1 d_M_judge_81 rfl (lv_at hl 1 rfl) ?_
        refine hm_get ⟨X, hK.1⟩ hY v_0 4 (v := .ref (T.ad 4)) rfl rfl (Nat.le_of_ble_eq_true rfl) hu_M m_493 (fun _ h => h) d_M_judge_82 ?_
        refine lv_iload_n X.1 X.2.1 d_M_judge_85 rfl (lv_at hl 2 rfl) ?_
        refine mi_ald ⟨X, hK.1⟩ hY v_4 0 rfl (x := n) (v := T.I 4 n) rfl (by omega) (by decide) rfl d_M_judge_86 ?_
        refine lv_irem X.1 X.2.1 d_M_judge_87 (by rw [h4]; exact hsp) ?_
        refine lv_if_ne (tgt := 143) X.1 X.2.1 d_M_judge_88 (by decide) (fun c5 => ?_) (fun c5 => ?_)
        · exact mid T _ _ _ (by rw [← hj, ← hT, jA, if_neg c5]) hY (lv_sub hl [1, 2] rfl)
        · refine lv_aload_n X.1 X.2.1 d_M_judge_91 rfl (lv_at hl 1 rfl) ?_
          refine hm_get ⟨X, hK.1⟩ hY v_0 20 (v := .int (T.I 20 0)) rfl rfl (Nat.le_of_ble_eq_true rfl) hu_M m_509 (fun _ h => h) d_M_judge_92 ?_
          refine lv_iconst (v := 2) X.1 X.2.1 d_M_judge_95 (by decide) ?_
          refine lv_icmp_le (tgt := 136) X.1 X.2.1 d_M_judge_96 (by decide) (fun c6 => ?_) (fun c6 => ?_)
          · refine lv_aload_n X.1 X.2.1 d_M_judge_136 rfl (lv_at hl 1 rfl) ?_
            refine hm_get ⟨X, hK.1⟩ hY v_0 8 (v := .ref (T.ad 8)) rfl rfl (Nat.le_of_ble_eq_true rfl) hu_M m_497 (fun _ h => h) d_M_judge_137 ?_
            refine lv_iload_n X.1 X.2.1 d_M_judge_140 rfl (lv_at hl 2 rfl) ?_
            refine lv_iconst (v := 0) X.1 X.2.1 d_M_judge_141 (by decide) ?_
            refine mi_ast ⟨X, hK.1⟩ hY v_8 0 rfl (x := n) rfl (by omega) (by decide) d_M_judge_142 (fun H locs hY => ?_)
            have hY : hm_Y D cls A s.heap (wM G (T.sI 8 n 0) ω) H locs := by rw [← fa_8 (M := T) (j := n) (v := 0)]; exact hY
            exact mid (T.sI 8 n 0) _ _ _ (by rw [← hj, ← hT, jA, if_pos c5, if_pos c6]) hY (lv_sub hl [1, 2] rfl)
          · refine lv_aload_n X.1 X.2.1 d_M_judge_99 rfl (lv_at hl 1 rfl) ?_
            refine hm_get ⟨X, hK.1⟩ hY v_0 8 (v := .ref (T.ad 8)) rfl rfl (Nat.le_of_ble_eq_true rfl) hu_M m_497 (fun _ h => h) d_M_judge_100 ?_
            refine lv_iload_n X.1 X.2.1 d_M_judge_103 rfl (lv_at hl 2 rfl) ?_
            refine mi_ald ⟨X, hK.1⟩ hY v_8 0 rfl (x := n) (v := T.I 8 n) rfl (by omega) (by decide) rfl d_M_judge_104 ?_
            refine lv_aload_n X.1 X.2.1 d_M_judge_105 rfl (lv_at hl 1 rfl) ?_
            refine hm_get ⟨X, hK.1⟩ hY v_0 2 (v := .ref (T.ad 2)) rfl rfl (Nat.le_of_ble_eq_true rfl) hu_M m_491 (fun _ h => h) d_M_judge_106 ?_
            refine lv_iload_n X.1 X.2.1 d_M_judge_109 rfl (lv_at hl 2 rfl) ?_
            refine mi_ald ⟨X, hK.1⟩ hY v_2 0 rfl (x := n) (v := T.I 2 n) rfl (by omega) (by decide) rfl d_M_judge_110 ?_
            refine lv_icmp_lt (tgt := 129) X.1 X.2.1 d_M_judge_111 (by decide) (fun c7 => ?_) (fun c7 => ?_)
            · refine lv_aload_n X.1 X.2.1 d_M_judge_129 rfl (lv_at hl 1 rfl) ?_
              refine hm_get ⟨X, hK.1⟩ hY v_0 9 (v := .ref (T.ad 9)) rfl rfl (Nat.le_of_ble_eq_true rfl) hu_M m_498 (fun _ h => h) d_M_judge_130 ?_
              refine lv_iload_n X.1 X.2.1 d_M_judge_133 rfl (lv_at hl 2 rfl) ?_
              refine lv_iconst (v := 1) X.1 X.2.1 d_M_judge_134 (by decide) ?_
              refine mz_ast ⟨X, hK.1⟩ hY v_9 1 rfl (x := n) rfl (by omega) (by decide) rfl d_M_judge_135 (fun H locs hY => ?_)
              have hY : hm_Y D cls A s.heap (wM G (T.sI 9 n 1) ω) H locs := by rw [← fa_9 (M := T) (j := n) (v := 1)]; exact hY
              refine lv_aload_n X.1 X.2.1 d_M_judge_136 rfl (lv_at hl 1 rfl) ?_
              refine hm_get ⟨X, hK.1⟩ hY v_0 8 (v := .ref (T.ad 8)) rfl rfl (Nat.le_of_ble_eq_true rfl) hu_M m_497 (fun _ h => h) d_M_judge_137 ?_
              refine lv_iload_n X.1 X.2.1 d_M_judge_140 rfl (lv_at hl 2 rfl) ?_
              refine lv_iconst (v := 0) X.1 X.2.1 d_M_judge_141 (by decide) ?_
              refine mi_ast ⟨X, hK.1⟩ hY v_8 0 rfl (x := n) rfl (by omega) (by decide) d_M_judge_142 (fun H locs hY => ?_)
              have hY : hm_Y D cls A s.heap (wM G ((T.sI 9 n 1).sI 8 n 0) ω) H locs := by rw [← fa_8 (M := (T.sI 9 n 1)) (j := n) (v := 0)]; exact hY
              exact mid ((T.sI 9 n 1).sI 8 n 0) _ _ _ (by rw [← hj, ← hT, jA, if_pos c5, if_neg c6, if_pos c7]) hY (lv_sub hl [1, 2] rfl)
            · refine lv_aload_n X.1 X.2.1 d_M_judge_114 rfl (lv_at hl 1 rfl) ?_
              refine hm_get ⟨X, hK.1⟩ hY v_0 8 (v := .ref (T.ad 8)) rfl rfl (Nat.le_of_ble_eq_true rfl) hu_M m_497 (fun _ h => h) d_M_judge_115 ?_
              refine lv_iload_n X.1 X.2.1 d_M_judge_118 rfl (lv_at hl 2 rfl) ?_
              refine mi_ald ⟨X, hK.1⟩ hY v_8 0 rfl (x := n) (v := T.I 8 n) rfl (by omega) (by decide) rfl d_M_judge_119 ?_
              refine lv_aload_n X.1 X.2.1 d_M_judge_120 rfl (lv_at hl 1 rfl) ?_
              refine hm_get ⟨X, hK.1⟩ hY v_0 3 (v := .ref (T.ad 3)) rfl rfl (Nat.le_of_ble_eq_true rfl) hu_M m_492 (fun _ h => h) d_M_judge_121 ?_
              refine lv_iload_n X.1 X.2.1 d_M_judge_124 rfl (lv_at hl 2 rfl) ?_
              refine mi_ald ⟨X, hK.1⟩ hY v_3 0 rfl (x := n) (v := T.I 3 n) rfl (by omega) (by decide) rfl d_M_judge_125 ?_
              refine lv_icmp_le (tgt := 136) X.1 X.2.1 d_M_judge_126 (by decide) (fun c8 => ?_) (fun c8 => ?_)
              · refine lv_aload_n X.1 X.2.1 d_M_judge_136 rfl (lv_at hl 1 rfl) ?_
                refine hm_get ⟨X, hK.1⟩ hY v_0 8 (v := .ref (T.ad 8)) rfl rfl (Nat.le_of_ble_eq_true rfl) hu_M m_497 (fun _ h => h) d_M_judge_137 ?_
                refine lv_iload_n X.1 X.2.1 d_M_judge_140 rfl (lv_at hl 2 rfl) ?_
                refine lv_iconst (v := 0) X.1 X.2.1 d_M_judge_141 (by decide) ?_
                refine mi_ast ⟨X, hK.1⟩ hY v_8 0 rfl (x := n) rfl (by omega) (by decide) d_M_judge_142 (fun H locs hY => ?_)
                have hY : hm_Y D cls A s.heap (wM G (T.sI 8 n 0) ω) H locs := by rw [← fa_8 (M := T) (j := n) (v := 0)]; exact hY
                exact mid (T.sI 8 n 0) _ _ _ (by rw [← hj, ← hT, jA, if_pos c5, if_neg c6, if_neg c7, if_pos c8]) hY (lv_sub hl [1, 2] rfl)
              · refine lv_aload_n X.1 X.2.1 d_M_judge_129 rfl (lv_at hl 1 rfl) ?_
                refine hm_get ⟨X, hK.1⟩ hY v_0 9 (v := .ref (T.ad 9)) rfl rfl (Nat.le_of_ble_eq_true rfl) hu_M m_498 (fun _ h => h) d_M_judge_130 ?_
                refine lv_iload_n X.1 X.2.1 d_M_judge_133 rfl (lv_at hl 2 rfl) ?_
                refine lv_iconst (v := 1) X.1 X.2.1 d_M_judge_134 (by decide) ?_
                refine mz_ast ⟨X, hK.1⟩ hY v_9 1 rfl (x := n) rfl (by omega) (by decide) rfl d_M_judge_135 (fun H locs hY => ?_)
                have hY : hm_Y D cls A s.heap (wM G (T.sI 9 n 1) ω) H locs := by rw [← fa_9 (M := T) (j := n) (v := 1)]; exact hY
                refine lv_aload_n X.1 X.2.1 d_M_judge_136 rfl (lv_at hl 1 rfl) ?_
                refine hm_get ⟨X, hK.1⟩ hY v_0 8 (v := .ref (T.ad 8)) rfl rfl (Nat.le_of_ble_eq_true rfl) hu_M m_497 (fun _ h => h) d_M_judge_137 ?_
                refine lv_iload_n X.1 X.2.1 d_M_judge_140 rfl (lv_at hl 2 rfl) ?_
                refine lv_iconst (v := 0) X.1 X.2.1 d_M_judge_141 (by decide) ?_
                refine mi_ast ⟨X, hK.1⟩ hY v_8 0 rfl (x := n) rfl (by omega) (by decide) d_M_judge_142 (fun H locs hY => ?_)
                have hY : hm_Y D cls A s.heap (wM G ((T.sI 9 n 1).sI 8 n 0) ω) H locs := by rw [← fa_8 (M := (T.sI 9 n 1)) (j := n) (v := 0)]; exact hY
                exact mid ((T.sI 9 n 1).sI 8 n 0) _ _ _ (by rw [← hj, ← hT, jA, if_pos c5, if_neg c6, if_neg c7, if_neg c8]) hY (lv_sub hl [1, 2] rfl)
      · have hj : j < cn := by rcases Nat.lt_or_ge j (cn) with q | q; exact q; exact absurd (nI_le (by omega) (by omega)) c0
        refine lv_aload_n X.1 X.2.1 d_M_judge_20 rfl (lv_at hl 1 rfl) ?_
        refine hm_get ⟨X, hK.1⟩ hY v_0 18 (v := .ref (T.ad 18)) rfl rfl (Nat.le_of_ble_eq_true rfl) hu_M m_507 (fun _ h => h) d_M_judge_21 ?_
        refine lv_iload_n X.1 X.2.1 d_M_judge_24 rfl (lv_at hl 0 rfl) ?_
        refine ml_ald ⟨X, hK.1⟩ hY v_18 2 rfl (x := 10 * n + j) (v := T.J 18 (10 * n + j)) rfl (by omega) (by decide) rfl d_M_judge_25 ?_
        refine lv_lconst (v := 0) X.1 X.2.1 d_M_judge_26 (by decide) ?_
        refine lc_lt (tgt := 71) X d_M_judge_27 d_M_judge_28 (by decide) (fun c9 => ?_) (fun c9 => ?_)
        · refine lv_iinc (v := nI (10 * n + (j + 1))) (lv' := [(2, .int (nI (10 * n + (j + 1)))), (0, .ref (T.ad 0)), (1, .int (nI n))]) X.1 X.2.1 d_M_judge_71 hl (k := 0) rfl (nI_1 (10 * n + j)) (by decide) rfl (fun ls hl => ?_)
          refine lv_goto (tgt := 5) X.1 X.2.1 d_M_judge_74 (by decide) ?_
          exact ih (j + 1) T _ _ _ (by omega) (by omega) (by rw [show jL M n (j + 1) = jL1 (jL M n j) n j from rfl, ← hT, jL1, if_pos c9]) h1 h4 h12 hY (lv_sub hl [0, 1, 2] rfl)
        · refine lv_aload_n X.1 X.2.1 d_M_judge_31 rfl (lv_at hl 1 rfl) ?_
          refine hm_get ⟨X, hK.1⟩ hY v_0 21 (v := .long (T.J 21 0)) rfl rfl (Nat.le_of_ble_eq_true rfl) hu_M m_510 (fun _ h => h) d_M_judge_32 ?_
          refine lv_aload_n X.1 X.2.1 d_M_judge_35 rfl (lv_at hl 1 rfl) ?_
          refine hm_get ⟨X, hK.1⟩ hY v_0 18 (v := .ref (T.ad 18)) rfl rfl (Nat.le_of_ble_eq_true rfl) hu_M m_507 (fun _ h => h) d_M_judge_36 ?_
          refine lv_iload_n X.1 X.2.1 d_M_judge_39 rfl (lv_at hl 0 rfl) ?_
          refine ml_ald ⟨X, hK.1⟩ hY v_18 2 rfl (x := 10 * n + j) (v := T.J 18 (10 * n + j)) rfl (by omega) (by decide) rfl d_M_judge_40 ?_
          refine lv_lsub X.1 X.2.1 d_M_judge_41 ?_
          refine lv_aload_n X.1 X.2.1 d_M_judge_42 rfl (lv_at hl 1 rfl) ?_
          refine hm_get ⟨X, hK.1⟩ hY v_0 17 (v := .ref (T.ad 17)) rfl rfl (Nat.le_of_ble_eq_true rfl) hu_M m_506 (fun _ h => h) d_M_judge_43 ?_
          refine lv_iload_n X.1 X.2.1 d_M_judge_46 rfl (lv_at hl 0 rfl) ?_
          refine ml_ald ⟨X, hK.1⟩ hY v_17 2 rfl (x := 10 * n + j) (v := T.J 17 (10 * n + j)) rfl (by omega) (by decide) rfl d_M_judge_47 ?_
          refine lc_gt (tgt := 55) X d_M_judge_48 d_M_judge_49 (by decide) (fun c10 => ?_) (fun c10 => ?_)
          · refine lv_aload_n X.1 X.2.1 d_M_judge_55 rfl (lv_at hl 1 rfl) ?_
            refine hm_get ⟨X, hK.1⟩ hY v_0 9 (v := .ref (T.ad 9)) rfl rfl (Nat.le_of_ble_eq_true rfl) hu_M m_498 (fun _ h => h) d_M_judge_56 ?_
            refine lv_iload_n X.1 X.2.1 d_M_judge_59 rfl (lv_at hl 2 rfl) ?_
            refine lv_iconst (v := 1) X.1 X.2.1 d_M_judge_60 (by decide) ?_
            refine mz_ast ⟨X, hK.1⟩ hY v_9 1 rfl (x := n) rfl (by omega) (by decide) rfl d_M_judge_61 (fun H locs hY => ?_)
            have hY : hm_Y D cls A s.heap (wM G (T.sI 9 n 1) ω) H locs := by rw [← fa_9 (M := T) (j := n) (v := 1)]; exact hY
            refine lv_aload_n X.1 X.2.1 d_M_judge_62 rfl (lv_at hl 1 rfl) ?_
            refine hm_get ⟨X, hK.1⟩ hY v_0 18 (v := .ref (T.ad 18)) rfl rfl (Nat.le_of_ble_eq_true rfl) hu_M m_507 (fun _ h => h) d_M_judge_63 ?_
            refine lv_iload_n X.1 X.2.1 d_M_judge_66 rfl (lv_at hl 0 rfl) ?_
            refine lv_ldc2 X.1 X.2.1 X.2.2.2.1 (X.2.2.2.2 _ m_488) d_M_judge_67 ?_
            refine ml_ast ⟨X, hK.1⟩ hY v_18 2 rfl (x := 10 * n + j) rfl (by omega) (by decide) d_M_judge_70 (fun H locs hY => ?_)
            have hY : hm_Y D cls A s.heap (wM G ((T.sI 9 n 1).sJ 18 (10 * n + j) (-1)) ω) H locs := by rw [← fa_18 (M := (T.sI 9 n 1)) (j := 10 * n + j) (v := (-1))]; exact hY
            refine lv_iinc (v := nI (10 * n + (j + 1))) (lv' := [(2, .int (nI (10 * n + (j + 1)))), (0, .ref (T.ad 0)), (1, .int (nI n))]) X.1 X.2.1 d_M_judge_71 hl (k := 0) rfl (nI_1 (10 * n + j)) (by decide) rfl (fun ls hl => ?_)
            refine lv_goto (tgt := 5) X.1 X.2.1 d_M_judge_74 (by decide) ?_
            exact ih (j + 1) ((T.sI 9 n 1).sJ 18 (10 * n + j) (-1)) _ _ _ (by omega) (by omega) (by rw [show jL M n (j + 1) = jL1 (jL M n j) n j from rfl, ← hT, jL1, if_neg c9, if_pos c10]) h1 h4 h12 hY (lv_sub hl [0, 1, 2] rfl)
          · refine lv_goto (tgt := 71) X.1 X.2.1 d_M_judge_52 (by decide) ?_
            refine lv_iinc (v := nI (10 * n + (j + 1))) (lv' := [(2, .int (nI (10 * n + (j + 1)))), (0, .ref (T.ad 0)), (1, .int (nI n))]) X.1 X.2.1 d_M_judge_71 hl (k := 0) rfl (nI_1 (10 * n + j)) (by decide) rfl (fun ls hl => ?_)
            refine lv_goto (tgt := 5) X.1 X.2.1 d_M_judge_74 (by decide) ?_
            exact ih (j + 1) T _ _ _ (by omega) (by omega) (by rw [show jL M n (j + 1) = jL1 (jL M n j) n j from rfl, ← hT, jL1, if_neg c9, if_neg c10]) h1 h4 h12 hY (lv_sub hl [0, 1, 2] rfl)
  exact loop (cn + 1) 0 M ls _ _ (Nat.zero_le _) (by omega) rfl rfl rfl rfl hY (lv_sub hl [0, 1, 2] rfl)
