set_option maxHeartbeats 4000000 in
set_option maxRecDepth 100000 in
theorem k_AC_init (l : Launch) (D : va_G) (A : Nat → Prop) (G : Nat → Nat) (w : hm_T) (n : hm_N) (a : Nat) (er cn mo : Value) (hn : w n = some (a, .inr (4, [er, cn, mo]))) : Met l y_AC_init (.code y_AC_init c_AC_init 1 (none : Option FieldType) :: wsA) { frames := 1, cells := 0, slots := 0, locals := 20 } (va_Pc [.ref a] (ctU D A G w)) (hm_R (fun v => v = none)) 0 0 (fun _ => False) := by
  refine ct_met (by decide) (Nat.le_of_ble_eq_true rfl) ?_
  rintro p e s m below meth c ls X hr hlocks hnm hl ⟨hB, hK⟩
  have hl : lv_has ls 1 [(0, .ref a)] := hl
  have hY : hm_Y D cls A s.heap w s.heap [] := hm_Y.start hB hK.2.2.2
  refine lv_aload_n X.1 X.2.1 d_AC_init_0 rfl (lv_at hl 0 rfl) ?_
  refine W.objInit X.1 X.2.1 X.2.2.2.1 (X.2.2.2.2 _ m_38) (X.2.2.2.2 _ m_25) (X.2.2.2.2 _ m_26) rfl (hl.1.trans X.2.2.1.symm) rfl d_AC_init_1 (Nat.le_of_ble_eq_true rfl) (Nat.le_of_ble_eq_true rfl) ?_
  refine W.eq (g2 := F0 m 4 ls []) rfl ?_
  exact W.vret X.1 X.2.1 hr (fun t ht hW => ⟨_, rfl, rfl, ht⟩) (fun q h => by cases h) d_AC_init_4

set_option maxHeartbeats 4000000 in
set_option maxRecDepth 100000 in
theorem k_AL_init (l : Launch) (D : va_G) (A : Nat → Prop) (G : Nat → Nat) (w : hm_T) (n : hm_N) (a : Nat) (er cn mo : Value) (hn : w n = some (a, .inr (4, [er, cn, mo]))) : Met l y_AL_init (.code y_AL_init c_AL_init 1 (none : Option FieldType) :: wsA) { frames := 2, cells := 0, slots := 0, locals := 40 } (va_Pc [.ref a] (ctU D A G w)) (hm_Q D cls A (fun v w1 => v = none ∧ w1 = hm_up w n (a, .inr (4, [er, cn, .int 0])))) 0 0 A := by
  refine ct_met (by decide) (Nat.le_of_ble_eq_true rfl) ?_
  rintro p e s m below meth c ls X hr hlocks hnm hl ⟨hB, hK⟩
  have hl : lv_has ls 1 [(0, .ref a)] := hl
  have hY : hm_Y D cls A s.heap w s.heap [] := hm_Y.start hB hK.2.2.2
  refine lv_aload_n X.1 X.2.1 d_AL_init_0 rfl (lv_at hl 0 rfl) ?_
  refine hm_callR (ct_runI (n := 0) X hK hY (k_AC_init l D A G w n a er cn mo hn) m_37 m_35 m_36 m_2 rfl (by decide +kernel) ⟨Nat.le_of_ble_eq_true rfl, Nat.le_of_ble_eq_true rfl⟩ ⟨rfl, rfl⟩ rfl hl.1 rfl (Nat.le_of_ble_eq_true rfl) d_AL_init_1 ⟨Nat.le_of_ble_eq_true rfl, Nat.le_of_ble_eq_true rfl⟩) (fun v hv => ?_)
  subst hv
  refine W.eq (g2 := F0 m 4 ls []) rfl ?_
  refine lv_aload_n X.1 X.2.1 d_AL_init_4 rfl (lv_at hl 0 rfl) ?_
  refine lv_iconst (v := 0) X.1 X.2.1 d_AL_init_5 (by decide) ?_
  refine hm_put ⟨X, hK.1⟩ hY hn 2 rfl (Nat.le_of_ble_eq_true rfl) (Nat.le_of_ble_eq_true rfl) hu_A ty_A ty_A_ok nm_A m_43 (fun _ h => h) rfl rfl rfl d_AL_init_6 (fun H locs hY => ?_)
  have hY : hm_Y D cls A s.heap (hm_up w n (a, .inr (4, [er, cn, .int 0]))) H locs := by exact hY
  exact en_vW X hY hr hlocks d_AL_init_9 (⟨rfl, rfl⟩)

set_option maxHeartbeats 4000000 in
set_option maxRecDepth 100000 in
theorem k_A_init (l : Launch) (D : va_G) (A : Nat → Prop) (G : Nat → Nat) (w : hm_T) (n : hm_N) (a : Nat) (er cn mo : Value) (hn : w n = some (a, .inr (4, [er, cn, mo]))) : Met l y_A_init (.code y_A_init c_A_init 1 (none : Option FieldType) :: wsA) { frames := 3, cells := 0, slots := 0, locals := 60 } (va_Pc [.ref a] (ctU D A G w)) (hm_Q D cls A (fun v w1 => v = none ∧ w1 = hm_up w n (a, .inr (4, [.ref (G 0), cn, .int 0])))) 0 0 A := by
  refine ct_met (by decide) (Nat.le_of_ble_eq_true rfl) ?_
  rintro p e s m below meth c ls X hr hlocks hnm hl ⟨hB, hK⟩
  have hl : lv_has ls 1 [(0, .ref a)] := hl
  have hY : hm_Y D cls A s.heap w s.heap [] := hm_Y.start hB hK.2.2.2
  refine lv_aload_n X.1 X.2.1 d_A_init_0 rfl (lv_at hl 0 rfl) ?_
  refine hm_call (ct_runI (n := 0) X hK hY (k_AL_init l D A G w n a er cn mo hn) m_34 m_32 m_33 m_3 rfl (by decide +kernel) ⟨Nat.le_of_ble_eq_true rfl, Nat.le_of_ble_eq_true rfl⟩ ⟨rfl, rfl⟩ rfl hl.1 rfl (Nat.le_of_ble_eq_true rfl) d_A_init_1 ⟨Nat.le_of_ble_eq_true rfl, Nat.le_of_ble_eq_true rfl⟩) hY (fun v w1 H locs hp hY => ?_)
  obtain ⟨rfl, rfl⟩ := hp
  refine W.eq (g2 := F0 m 4 ls []) rfl ?_
  refine lv_aload_n X.1 X.2.1 d_A_init_4 rfl (lv_at hl 0 rfl) ?_
  refine va_gets X.1 X.2.1 hK.2.2.1.1 hY.2.2.1 X.2.2.2.1 (X.2.2.2.2 _ m_39) (fun _ h => h) d_A_init_5 ?_
  refine hm_put ⟨X, hK.1⟩ hY (hm_up_s _ _ _) 0 rfl (Nat.le_of_ble_eq_true rfl) (Nat.le_of_ble_eq_true rfl) hu_A ty_A ty_A_ok nm_A m_41 (fun _ h => h) rfl rfl rfl d_A_init_8 (fun H locs hY => ?_)
  have hY : hm_Y D cls A s.heap (hm_up w n (a, .inr (4, [.ref (G 0), cn, .int 0]))) H locs := by rw [← hm_uu w n (a, .inr (4, [er, cn, .int 0]))]; exact hY
  exact en_vW X hY hr hlocks d_A_init_11 (⟨rfl, rfl⟩)

set_option maxHeartbeats 4000000 in
set_option maxRecDepth 100000 in
theorem k_AS_newLength (l : Launch) (D : va_G) (A : Nat → Prop) (G : Nat → Nat) (w : hm_T) (o mi pr r : Int32) (hr0 : o + (if mi < pr then pr else mi) = r) (h1 : ¬ r ≤ 0) (h2 : ¬ 2147483639 < r) : Met l y_AS_newLength (.code y_AS_newLength c_AS_newLength 4 (some .int) :: wsA) { frames := 1, cells := 0, slots := 0, locals := 21 } (va_Pc [.int o, .int mi, .int pr] (ctU D A G w)) (hm_R (fun v => v = some (.int r))) 0 0 (fun _ => False) := by
  refine ct_met (by decide) (Nat.le_of_ble_eq_true rfl) ?_
  rintro p e s m below meth c ls X hr hlocks hnm hl ⟨hB, hK⟩
  have hl : lv_has ls 4 [(0, .int o), (1, .int mi), (2, .int pr)] := hl
  have hY : hm_Y D cls A s.heap w s.heap [] := hm_Y.start hB hK.2.2.2
  refine lv_iload_n X.1 X.2.1 d_AS_newLength_0 rfl (lv_at hl 0 rfl) ?_
  refine lv_iload_n X.1 X.2.1 d_AS_newLength_1 rfl (lv_at hl 1 rfl) ?_
  refine lv_iload_n X.1 X.2.1 d_AS_newLength_2 rfl (lv_at hl 2 rfl) ?_
  refine va_mmax X.1 X.2.1 (X.2.2.1.trans hl.1.symm) X.2.2.2.1 (X.2.2.2.2 _ m_210) (X.2.2.2.2 _ m_211) (X.2.2.2.2 _ m_13) (X.2.2.2.2 _ m_212) (Nat.le_of_ble_eq_true rfl) (Nat.le_of_ble_eq_true rfl) (Nat.zero_le _) (Nat.zero_le _) d_AS_newLength_3 ?_
  refine lv_iadd X.1 X.2.1 d_AS_newLength_6 ?_
  rw [hr0]
  refine lv_istore_n (lv' := [(3, .int r), (0, .int o), (1, .int mi), (2, .int pr)]) X.1 X.2.1 d_AS_newLength_7 rfl hl (by decide) rfl (fun ls hl => ?_)
  refine lv_iconst (v := 0) X.1 X.2.1 d_AS_newLength_8 (by decide) ?_
  refine lv_iload_n X.1 X.2.1 d_AS_newLength_9 rfl (lv_at hl 0 rfl) ?_
  refine lv_icmp_ge (tgt := 21) X.1 X.2.1 d_AS_newLength_10 (by decide) (fun c1 => ?_) (fun c1 => ?_)
  · exact absurd c1 h1
  · refine lv_iload_n X.1 X.2.1 d_AS_newLength_13 rfl (lv_at hl 0 rfl) ?_
    refine lv_ldc X.1 X.2.1 X.2.2.2.1 (X.2.2.2.2 _ m_213) d_AS_newLength_14 ?_
    refine lv_icmp_gt (tgt := 21) X.1 X.2.1 d_AS_newLength_16 (by decide) (fun c2 => ?_) (fun c2 => ?_)
    · exact absurd c2 h2
    · refine lv_iload_n X.1 X.2.1 d_AS_newLength_19 rfl (lv_at hl 0 rfl) ?_
      exact en_iR X hr hlocks d_AS_newLength_20 (rfl)

theorem ct_el {D : va_G} {A : Nat → Prop} {G : Nat → Nat} {s : State} {H0 H : Heap} {w : hm_T} {locs : List Loc} {y : Nat} (hK : ctK D A G s) (hY : hm_Y D cls A H0 w H locs) (h : ∃ (nm : hm_N) (fs : List Value), w nm = some (y, .inr (1, fs))) : ∃ cellV : Cell, H[y]? = some cellV ∧ cellV.vm.isStatics = false ∧ s.vm.findClass R_P = some cellV.cls := by
  obtain ⟨nm, fs, h⟩ := h
  exact va_recv hK.1 (hY.one h) (ci := 1) (q0 := 0) rfl rfl

set_option maxHeartbeats 4000000 in
set_option maxRecDepth 100000 in
theorem k_AR_copyOf1_15 (l : Launch) (D : va_G) (A : Nat → Prop) (G : Nat → Nat) (w : hm_T) (nb : hm_N) (b N : Nat) (f : Nat → Option Nat) (hb : w nb = some (b, .inl (G 4, N, .inr (.inr (.inr (.inr f)))))) (hnt : w (99, 0, 0) = none) (hel : ∀ j y, f j = some y → ∃ (nm : hm_N) (fs : List Value), w nm = some (y, .inr (1, fs))) (hN : N < 2 ^ 31) (hM : N = 10) : Met l y_AR_copyOf1 (.code y_AR_copyOf1 c_AR_copyOf1 4 (some (.array (.object "java/lang/Object"))) :: wsA) { frames := 1, cells := 1, slots := 15, locals := 40 } (va_Pc [.ref b, .int 15, .ref (G 5)] (ctU D A G w)) (hm_Q D cls A (fun v w1 => ∃ q, v = some (.ref q) ∧ w1 = hm_up w (99, 0, 0) (q, .inl (G 4, 15, .inr (.inr (.inr (.inr (va_cpy f (fun _ => none) 0 0 10)))))))) 1 15 A := by
  refine ct_met (by decide) (Nat.le_of_ble_eq_true rfl) ?_
  rintro p e s m below meth c ls X hr hlocks hnm hl ⟨hB, hK⟩
  have hl : lv_has ls 4 [(0, .ref b), (1, .int 15), (2, .ref (G 5))] := hl
  have hY : hm_Y D cls A s.heap w s.heap [] := hm_Y.start hB hK.2.2.2
  refine lv_aload_n X.1 X.2.1 d_AR_copyOf1_0 rfl (lv_at hl 2 rfl) ?_
  refine va_ldcM X.1 X.2.1 X.2.2.2.1 (X.2.2.2.2 _ m_234) hK.2.1.2.2.2.2.2.2.2.1 d_AR_copyOf1_1 ?_
  refine lv_acmp_ne (rx := some (G 5)) (ry := some (G 5)) (tgt := 13) X.1 X.2.1 d_AR_copyOf1_3 (by decide) (fun c1 => absurd rfl c1) (fun c1 => ?_)
  refine lv_iload_n X.1 X.2.1 d_AR_copyOf1_6 rfl (lv_at hl 1 rfl) ?_
  refine hm_newq ⟨X, hK.1⟩ hY (99, 0, 0) m_236 (va_AO.use hK.2.1.2.2.2.2.2.2.1) (ct_cO hK) (N := 15) (by decide) (by decide) (by decide) (Nat.le_of_ble_eq_true rfl) (Nat.le_of_ble_eq_true rfl) d_AR_copyOf1_7 (fun q H hY => ?_)
  refine lv_goto (tgt := 24) X.1 X.2.1 d_AR_copyOf1_10 (by decide) ?_
  refine lv_astore_n (lv' := [(3, .ref q), (0, .ref b), (1, .int 15), (2, .ref (G 5))]) X.1 X.2.1 d_AR_copyOf1_24 rfl hl (by decide) rfl (fun ls hl => ?_)
  refine lv_aload_n X.1 X.2.1 d_AR_copyOf1_25 rfl (lv_at hl 1 rfl) ?_
  refine lv_iconst (v := 0) X.1 X.2.1 d_AR_copyOf1_26 (by decide) ?_
  refine lv_aload_n X.1 X.2.1 d_AR_copyOf1_27 rfl (lv_at hl 0 rfl) ?_
  refine lv_iconst (v := 0) X.1 X.2.1 d_AR_copyOf1_28 (by decide) ?_
  refine lv_aload_n X.1 X.2.1 d_AR_copyOf1_29 rfl (lv_at hl 1 rfl) ?_
  have hne : nb ≠ (99, 0, 0) := fun z => by rw [z, hnt] at hb; cases hb
  have hb1 : (hm_up w (99, 0, 0) (q, .inl (G 4, 15, .inr (.inr (.inr (.inr (fun _ => none))))))) nb = _ := (hm_up_n _ _ hne).trans hb
  refine hm_alen ⟨X, hK.1⟩ hY hb1 3 rfl (v := 10) (by rw [hM]; rfl) d_AR_copyOf1_30 ?_
  refine lv_iload_n X.1 X.2.1 d_AR_copyOf1_31 rfl (lv_at hl 2 rfl) ?_
  refine va_mmin X.1 X.2.1 (X.2.2.1.trans hl.1.symm) X.2.2.2.1 (X.2.2.2.2 _ m_237) (X.2.2.2.2 _ m_238) (X.2.2.2.2 _ m_13) (X.2.2.2.2 _ m_239) (Nat.le_of_ble_eq_true rfl) (Nat.le_of_ble_eq_true rfl) (Nat.le_of_ble_eq_true rfl) (Nat.le_of_ble_eq_true rfl) d_AR_copyOf1_32 ?_
  refine W.eq (g2 := F0 m 35 ls [.int 10, .int 0, .ref q, .int 0, .ref b]) rfl ?_
  refine hm_copy ⟨X, hK.1⟩ hY hl.1 m_240 m_242 m_241 m_15 hb1 (hm_up_s _ _ _) 3 3 rfl rfl (C := R_P) (by decide) (by decide) (by decide) (by rw [hM]; decide) (by decide) (fun i hi y hy => ct_el hK hY (by obtain ⟨nm, fs, h⟩ := hel _ y hy; exact ⟨nm, fs, (hm_up_n _ _ (fun z => by rw [z, hnt] at h; cases h)).trans h⟩)) (vb_asgC hK.2.1.2.2.2.2.1) (Nat.le_of_ble_eq_true rfl) ((by decide)) d_AR_copyOf1_35 (fun H locs hY => ?_)
  have hY : hm_Y D cls A s.heap (hm_up w (99, 0, 0) (q, .inl (G 4, 15, .inr (.inr (.inr (.inr (va_cpy f (fun _ => none) 0 0 10))))))) H locs := by rw [hm_uu] at hY; exact hY
  refine lv_aload_n X.1 X.2.1 d_AR_copyOf1_38 rfl (lv_at hl 0 rfl) ?_
  exact en_aW X hY hr (by first | exact Or.inl ⟨_, rfl⟩ | exact Or.inr ⟨_, rfl⟩) hlocks d_AR_copyOf1_39 (Or.inr ⟨_, rfl⟩) (⟨q, rfl, rfl⟩)

set_option maxHeartbeats 4000000 in
set_option maxRecDepth 100000 in
theorem k_AR_copyOf0_15 (l : Launch) (D : va_G) (A : Nat → Prop) (G : Nat → Nat) (w : hm_T) (nb : hm_N) (b N : Nat) (f : Nat → Option Nat) (hb : w nb = some (b, .inl (G 4, N, .inr (.inr (.inr (.inr f)))))) (hnt : w (99, 0, 0) = none) (hel : ∀ j y, f j = some y → ∃ (nm : hm_N) (fs : List Value), w nm = some (y, .inr (1, fs))) (hN : N < 2 ^ 31) (hM : N = 10) : Met l y_AR_copyOf0 (.code y_AR_copyOf0 c_AR_copyOf0 2 (some (.array (.object "java/lang/Object"))) :: wsA) { frames := 2, cells := 1, slots := 15, locals := 63 } (va_Pc [.ref b, .int 15] (ctU D A G w)) (hm_Q D cls A (fun v w1 => ∃ q, v = some (.ref q) ∧ w1 = hm_up w (99, 0, 0) (q, .inl (G 4, 15, .inr (.inr (.inr (.inr (va_cpy f (fun _ => none) 0 0 10)))))))) 1 15 A := by
  refine ct_met (by decide) (Nat.le_of_ble_eq_true rfl) ?_
  rintro p e s m below meth c ls X hr hlocks hnm hl ⟨hB, hK⟩
  have hl : lv_has ls 2 [(0, .ref b), (1, .int 15)] := hl
  have hY : hm_Y D cls A s.heap w s.heap [] := hm_Y.start hB hK.2.2.2
  refine lv_aload_n X.1 X.2.1 d_AR_copyOf0_0 rfl (lv_at hl 0 rfl) ?_
  refine lv_iload_n X.1 X.2.1 d_AR_copyOf0_1 rfl (lv_at hl 1 rfl) ?_
  refine lv_aload_n X.1 X.2.1 d_AR_copyOf0_2 rfl (lv_at hl 0 rfl) ?_
  refine va_getC X.1 X.2.1 (X.2.2.1.trans hl.1.symm) X.2.2.2.1 (X.2.2.2.2 _ m_220) (va_Dc.use hK.2.1.2.2.2.2.2.2.2.2) (X.2.2.2.2 _ m_667) (X.2.2.2.2 _ m_221) (X.2.2.2.2 _ m_230) hK.2.1.2.2.2.2.2.2.2.1 (ct_arr hK hY hb) (Nat.le_of_ble_eq_true rfl) (Nat.le_of_ble_eq_true rfl) d_AR_copyOf0_3 ?_
  refine hm_call (ct_runS (n := 3) X hK hY (k_AR_copyOf1_15 l D A G w nb b N f hb hnt hel hN hM) m_233 m_231 m_232 m_14 (by decide +kernel) ⟨Nat.le_of_ble_eq_true rfl, Nat.le_of_ble_eq_true rfl⟩ ⟨rfl, rfl⟩ rfl hl.1 rfl (Nat.le_of_ble_eq_true rfl) d_AR_copyOf0_6 ⟨Nat.le_of_ble_eq_true rfl, Nat.le_of_ble_eq_true rfl⟩) hY (fun v w1 H locs hp hY => ?_)
  obtain ⟨q, rfl, rfl⟩ := hp
  refine W.eq (g2 := F0 m 9 ls [.ref q]) rfl ?_
  exact en_aW X hY hr (by first | exact Or.inl ⟨_, rfl⟩ | exact Or.inr ⟨_, rfl⟩) hlocks d_AR_copyOf0_9 (Or.inr ⟨_, rfl⟩) (⟨q, rfl, rfl⟩)

set_option maxHeartbeats 4000000 in
set_option maxRecDepth 100000 in
theorem k_AR_copyOf1_22 (l : Launch) (D : va_G) (A : Nat → Prop) (G : Nat → Nat) (w : hm_T) (nb : hm_N) (b N : Nat) (f : Nat → Option Nat) (hb : w nb = some (b, .inl (G 4, N, .inr (.inr (.inr (.inr f)))))) (hnt : w (99, 0, 0) = none) (hel : ∀ j y, f j = some y → ∃ (nm : hm_N) (fs : List Value), w nm = some (y, .inr (1, fs))) (hN : N < 2 ^ 31) (hM : N = 15) : Met l y_AR_copyOf1 (.code y_AR_copyOf1 c_AR_copyOf1 4 (some (.array (.object "java/lang/Object"))) :: wsA) { frames := 1, cells := 1, slots := 22, locals := 40 } (va_Pc [.ref b, .int 22, .ref (G 5)] (ctU D A G w)) (hm_Q D cls A (fun v w1 => ∃ q, v = some (.ref q) ∧ w1 = hm_up w (99, 0, 0) (q, .inl (G 4, 22, .inr (.inr (.inr (.inr (va_cpy f (fun _ => none) 0 0 15)))))))) 1 22 A := by
  refine ct_met (by decide) (Nat.le_of_ble_eq_true rfl) ?_
  rintro p e s m below meth c ls X hr hlocks hnm hl ⟨hB, hK⟩
  have hl : lv_has ls 4 [(0, .ref b), (1, .int 22), (2, .ref (G 5))] := hl
  have hY : hm_Y D cls A s.heap w s.heap [] := hm_Y.start hB hK.2.2.2
  refine lv_aload_n X.1 X.2.1 d_AR_copyOf1_0 rfl (lv_at hl 2 rfl) ?_
  refine va_ldcM X.1 X.2.1 X.2.2.2.1 (X.2.2.2.2 _ m_234) hK.2.1.2.2.2.2.2.2.2.1 d_AR_copyOf1_1 ?_
  refine lv_acmp_ne (rx := some (G 5)) (ry := some (G 5)) (tgt := 13) X.1 X.2.1 d_AR_copyOf1_3 (by decide) (fun c1 => absurd rfl c1) (fun c1 => ?_)
  refine lv_iload_n X.1 X.2.1 d_AR_copyOf1_6 rfl (lv_at hl 1 rfl) ?_
  refine hm_newq ⟨X, hK.1⟩ hY (99, 0, 0) m_236 (va_AO.use hK.2.1.2.2.2.2.2.2.1) (ct_cO hK) (N := 22) (by decide) (by decide) (by decide) (Nat.le_of_ble_eq_true rfl) (Nat.le_of_ble_eq_true rfl) d_AR_copyOf1_7 (fun q H hY => ?_)
  refine lv_goto (tgt := 24) X.1 X.2.1 d_AR_copyOf1_10 (by decide) ?_
  refine lv_astore_n (lv' := [(3, .ref q), (0, .ref b), (1, .int 22), (2, .ref (G 5))]) X.1 X.2.1 d_AR_copyOf1_24 rfl hl (by decide) rfl (fun ls hl => ?_)
  refine lv_aload_n X.1 X.2.1 d_AR_copyOf1_25 rfl (lv_at hl 1 rfl) ?_
  refine lv_iconst (v := 0) X.1 X.2.1 d_AR_copyOf1_26 (by decide) ?_
  refine lv_aload_n X.1 X.2.1 d_AR_copyOf1_27 rfl (lv_at hl 0 rfl) ?_
  refine lv_iconst (v := 0) X.1 X.2.1 d_AR_copyOf1_28 (by decide) ?_
  refine lv_aload_n X.1 X.2.1 d_AR_copyOf1_29 rfl (lv_at hl 1 rfl) ?_
  have hne : nb ≠ (99, 0, 0) := fun z => by rw [z, hnt] at hb; cases hb
  have hb1 : (hm_up w (99, 0, 0) (q, .inl (G 4, 22, .inr (.inr (.inr (.inr (fun _ => none))))))) nb = _ := (hm_up_n _ _ hne).trans hb
  refine hm_alen ⟨X, hK.1⟩ hY hb1 3 rfl (v := 15) (by rw [hM]; rfl) d_AR_copyOf1_30 ?_
  refine lv_iload_n X.1 X.2.1 d_AR_copyOf1_31 rfl (lv_at hl 2 rfl) ?_
  refine va_mmin X.1 X.2.1 (X.2.2.1.trans hl.1.symm) X.2.2.2.1 (X.2.2.2.2 _ m_237) (X.2.2.2.2 _ m_238) (X.2.2.2.2 _ m_13) (X.2.2.2.2 _ m_239) (Nat.le_of_ble_eq_true rfl) (Nat.le_of_ble_eq_true rfl) (Nat.le_of_ble_eq_true rfl) (Nat.le_of_ble_eq_true rfl) d_AR_copyOf1_32 ?_
  refine W.eq (g2 := F0 m 35 ls [.int 15, .int 0, .ref q, .int 0, .ref b]) rfl ?_
  refine hm_copy ⟨X, hK.1⟩ hY hl.1 m_240 m_242 m_241 m_15 hb1 (hm_up_s _ _ _) 3 3 rfl rfl (C := R_P) (by decide) (by decide) (by decide) (by rw [hM]; decide) (by decide) (fun i hi y hy => ct_el hK hY (by obtain ⟨nm, fs, h⟩ := hel _ y hy; exact ⟨nm, fs, (hm_up_n _ _ (fun z => by rw [z, hnt] at h; cases h)).trans h⟩)) (vb_asgC hK.2.1.2.2.2.2.1) (Nat.le_of_ble_eq_true rfl) ((by decide)) d_AR_copyOf1_35 (fun H locs hY => ?_)
  have hY : hm_Y D cls A s.heap (hm_up w (99, 0, 0) (q, .inl (G 4, 22, .inr (.inr (.inr (.inr (va_cpy f (fun _ => none) 0 0 15))))))) H locs := by rw [hm_uu] at hY; exact hY
  refine lv_aload_n X.1 X.2.1 d_AR_copyOf1_38 rfl (lv_at hl 0 rfl) ?_
  exact en_aW X hY hr (by first | exact Or.inl ⟨_, rfl⟩ | exact Or.inr ⟨_, rfl⟩) hlocks d_AR_copyOf1_39 (Or.inr ⟨_, rfl⟩) (⟨q, rfl, rfl⟩)

set_option maxHeartbeats 4000000 in
set_option maxRecDepth 100000 in
theorem k_AR_copyOf0_22 (l : Launch) (D : va_G) (A : Nat → Prop) (G : Nat → Nat) (w : hm_T) (nb : hm_N) (b N : Nat) (f : Nat → Option Nat) (hb : w nb = some (b, .inl (G 4, N, .inr (.inr (.inr (.inr f)))))) (hnt : w (99, 0, 0) = none) (hel : ∀ j y, f j = some y → ∃ (nm : hm_N) (fs : List Value), w nm = some (y, .inr (1, fs))) (hN : N < 2 ^ 31) (hM : N = 15) : Met l y_AR_copyOf0 (.code y_AR_copyOf0 c_AR_copyOf0 2 (some (.array (.object "java/lang/Object"))) :: wsA) { frames := 2, cells := 1, slots := 22, locals := 63 } (va_Pc [.ref b, .int 22] (ctU D A G w)) (hm_Q D cls A (fun v w1 => ∃ q, v = some (.ref q) ∧ w1 = hm_up w (99, 0, 0) (q, .inl (G 4, 22, .inr (.inr (.inr (.inr (va_cpy f (fun _ => none) 0 0 15)))))))) 1 22 A := by
  refine ct_met (by decide) (Nat.le_of_ble_eq_true rfl) ?_
  rintro p e s m below meth c ls X hr hlocks hnm hl ⟨hB, hK⟩
  have hl : lv_has ls 2 [(0, .ref b), (1, .int 22)] := hl
  have hY : hm_Y D cls A s.heap w s.heap [] := hm_Y.start hB hK.2.2.2
  refine lv_aload_n X.1 X.2.1 d_AR_copyOf0_0 rfl (lv_at hl 0 rfl) ?_
  refine lv_iload_n X.1 X.2.1 d_AR_copyOf0_1 rfl (lv_at hl 1 rfl) ?_
  refine lv_aload_n X.1 X.2.1 d_AR_copyOf0_2 rfl (lv_at hl 0 rfl) ?_
  refine va_getC X.1 X.2.1 (X.2.2.1.trans hl.1.symm) X.2.2.2.1 (X.2.2.2.2 _ m_220) (va_Dc.use hK.2.1.2.2.2.2.2.2.2.2) (X.2.2.2.2 _ m_667) (X.2.2.2.2 _ m_221) (X.2.2.2.2 _ m_230) hK.2.1.2.2.2.2.2.2.2.1 (ct_arr hK hY hb) (Nat.le_of_ble_eq_true rfl) (Nat.le_of_ble_eq_true rfl) d_AR_copyOf0_3 ?_
  refine hm_call (ct_runS (n := 3) X hK hY (k_AR_copyOf1_22 l D A G w nb b N f hb hnt hel hN hM) m_233 m_231 m_232 m_14 (by decide +kernel) ⟨Nat.le_of_ble_eq_true rfl, Nat.le_of_ble_eq_true rfl⟩ ⟨rfl, rfl⟩ rfl hl.1 rfl (Nat.le_of_ble_eq_true rfl) d_AR_copyOf0_6 ⟨Nat.le_of_ble_eq_true rfl, Nat.le_of_ble_eq_true rfl⟩) hY (fun v w1 H locs hp hY => ?_)
  obtain ⟨q, rfl, rfl⟩ := hp
  refine W.eq (g2 := F0 m 9 ls [.ref q]) rfl ?_
  exact en_aW X hY hr (by first | exact Or.inl ⟨_, rfl⟩ | exact Or.inr ⟨_, rfl⟩) hlocks d_AR_copyOf0_9 (Or.inr ⟨_, rfl⟩) (⟨q, rfl, rfl⟩)
