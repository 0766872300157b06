set_option maxHeartbeats 4000000 in
set_option maxRecDepth 100000 in
theorem k_A_grow1_f (l : Launch) (D : va_G) (A : Nat → Prop) (G : Nat → Nat) (w : hm_T) (n nb : hm_N) (a : Nat) (mo : Int32) (hn : w n = some (a, .inr (4, [.ref (G 0), .int 0, .int mo]))) (hne : n ≠ nb) : Met l y_A_grow1 (.code y_A_grow1 c_A_grow1 4 (some (.array (.object "java/lang/Object"))) :: wsA) { frames := 4, cells := 1, slots := 10, locals := 84 } (va_Pc [.ref a, .int 1] (ctU D A G w)) (hm_Q D cls A (fun v w1 => ∃ q, v = some (.ref q) ∧ w1 = hm_up (hm_up w nb (q, .inl (G 4, 10, .inr (.inr (.inr (.inr (fun _ => none))))))) n (a, .inr (4, [.ref q, .int 0, .int mo])))) 1 10 A := by
  refine ct_met (by decide) (Nat.le_of_ble_eq_true rfl) ?_
  rintro p e s m below meth c ls X hr hlocks hnm hl ⟨hB, hK⟩
  have hl : lv_has ls 4 [(0, .ref a), (1, .int 1)] := hl
  have hY : hm_Y D cls A s.heap w s.heap [] := hm_Y.start hB hK.2.2.2
  refine lv_aload_n X.1 X.2.1 d_A_grow1_0 rfl (lv_at hl 0 rfl) ?_
  refine hm_get ⟨X, hK.1⟩ hY hn 0 (v := .ref (G 0)) rfl rfl (Nat.le_of_ble_eq_true rfl) hu_A m_41 (fun _ h => h) d_A_grow1_1 ?_
  refine va_tlen X.1 X.2.1 hK.2.2.1.2 hY.2.2.1 (v := 0) rfl d_A_grow1_4 ?_
  refine lv_istore_n (lv' := [(2, .int 0), (0, .ref a), (1, .int 1)]) X.1 X.2.1 d_A_grow1_5 rfl hl (by decide) rfl (fun ls hl => ?_)
  refine lv_iload_n X.1 X.2.1 d_A_grow1_6 rfl (lv_at hl 0 rfl) ?_
  refine lv_if_gt (tgt := 20) X.1 X.2.1 d_A_grow1_7 (by decide) (fun c1 => ?_) (fun c1 => ?_)
  · exact absurd c1 (by decide)
  · refine lv_aload_n X.1 X.2.1 d_A_grow1_10 rfl (lv_at hl 1 rfl) ?_
    refine hm_get ⟨X, hK.1⟩ hY hn 0 (v := .ref (G 0)) rfl rfl (Nat.le_of_ble_eq_true rfl) hu_A m_41 (fun _ h => h) d_A_grow1_11 ?_
    refine va_gets X.1 X.2.1 hK.2.2.1.1 hY.2.2.1 X.2.2.2.1 (X.2.2.2.2 _ m_39) (fun _ h => h) d_A_grow1_14 ?_
    refine lv_acmp_eq (rx := some (G 0)) (ry := some (G 0)) (tgt := 45) X.1 X.2.1 d_A_grow1_17 (by decide) (fun _ => ?_) (fun c9 => absurd rfl c9)
    refine lv_aload_n X.1 X.2.1 d_A_grow1_45 rfl (lv_at hl 1 rfl) ?_
    refine lv_bipush (v := 10) X.1 X.2.1 d_A_grow1_46 (by decide) ?_
    refine lv_iload_n X.1 X.2.1 d_A_grow1_48 rfl (lv_at hl 2 rfl) ?_
    refine va_mmax X.1 X.2.1 (X.2.2.1.trans hl.1.symm) X.2.2.2.1 (X.2.2.2.2 _ m_243) (X.2.2.2.2 _ m_211) (X.2.2.2.2 _ m_13) (X.2.2.2.2 _ m_212) (Nat.le_of_ble_eq_true rfl) (Nat.le_of_ble_eq_true rfl) (Nat.zero_le _) (Nat.zero_le _) d_A_grow1_49 ?_
    refine W.eq (g2 := F0 m 52 ls [.int 10, .ref a]) rfl ?_
    refine hm_newq ⟨X, hK.1⟩ hY nb m_244 (va_AO.use hK.2.1.2.2.2.2.2.2.1) (ct_cO hK) (N := 10) (by decide) (by decide) (by decide) (Nat.le_of_ble_eq_true rfl) (Nat.le_of_ble_eq_true rfl) d_A_grow1_52 (fun q H hY => ?_)
    refine lv_dup_x1 X.1 X.2.1 d_A_grow1_55 rfl rfl ?_
    refine hm_put ⟨X, hK.1⟩ hY ((hm_up_n _ _ hne).trans hn) 0 rfl (Nat.le_of_ble_eq_true rfl) (Nat.le_of_ble_eq_true rfl) hu_A ty_A ty_A_ok nm_A m_41 (fun _ h => h) rfl rfl rfl d_A_grow1_56 (fun H locs hY => ?_)
    exact en_aW X hY hr (by first | exact Or.inl ⟨_, rfl⟩ | exact Or.inr ⟨_, rfl⟩) hlocks d_A_grow1_59 (Or.inr ⟨_, rfl⟩) (⟨q, rfl, rfl⟩)

set_option maxHeartbeats 4000000 in
set_option maxRecDepth 100000 in
theorem k_A_grow0_f (l : Launch) (D : va_G) (A : Nat → Prop) (G : Nat → Nat) (w : hm_T) (n nb : hm_N) (a : Nat) (mo : Int32) (hn : w n = some (a, .inr (4, [.ref (G 0), .int 0, .int mo]))) (hne : n ≠ nb) : Met l y_A_grow0 (.code y_A_grow0 c_A_grow0 1 (some (.array (.object "java/lang/Object"))) :: wsA) { frames := 5, cells := 1, slots := 10, locals := 107 } (va_Pc [.ref a] (ctU D A G w)) (hm_Q D cls A (fun v w1 => ∃ q, v = some (.ref q) ∧ w1 = hm_up (hm_up w nb (q, .inl (G 4, 10, .inr (.inr (.inr (.inr (fun _ => none))))))) n (a, .inr (4, [.ref q, .int 0, .int mo])))) 1 10 A := by
  refine ct_met (by decide) (Nat.le_of_ble_eq_true rfl) ?_
  rintro p e s m below meth c ls X hr hlocks hnm hl ⟨hB, hK⟩
  have hl : lv_has ls 1 [(0, .ref a)] := hl
  have hY : hm_Y D cls A s.heap w s.heap [] := hm_Y.start hB hK.2.2.2
  refine lv_aload_n X.1 X.2.1 d_A_grow0_0 rfl (lv_at hl 0 rfl) ?_
  refine lv_aload_n X.1 X.2.1 d_A_grow0_1 rfl (lv_at hl 0 rfl) ?_
  refine hm_get ⟨X, hK.1⟩ hY hn 1 (v := .int 0) rfl rfl (Nat.le_of_ble_eq_true rfl) hu_A m_42 (fun _ h => h) d_A_grow0_2 ?_
  refine lv_iconst (v := 1) X.1 X.2.1 d_A_grow0_5 (by decide) ?_
  refine lv_iadd X.1 X.2.1 d_A_grow0_6 ?_
  refine W.eq (g2 := F0 m 7 ls [.int 1, .ref a]) rfl ?_
  refine hm_call (ct_runV (n := 1) X hK hY (k_A_grow1_f l D A G w n nb a mo hn hne) m_206 m_203 m_205 ms_A_grow1 m_4 (by decide +kernel) ⟨Nat.le_of_ble_eq_true rfl, Nat.le_of_ble_eq_true rfl⟩ ⟨rfl, rfl⟩ (hm_recv ⟨X, hK.1⟩ hY hn rfl) rfl hl.1 rfl (Nat.le_of_ble_eq_true rfl) d_A_grow0_7 ⟨Nat.le_of_ble_eq_true rfl, Nat.le_of_ble_eq_true rfl⟩) hY (fun v w1 H locs hp hY => ?_)
  obtain ⟨q, rfl, rfl⟩ := hp
  refine W.eq (g2 := F0 m 10 ls [.ref q]) rfl ?_
  exact en_aW X hY hr (by first | exact Or.inl ⟨_, rfl⟩ | exact Or.inr ⟨_, rfl⟩) hlocks d_A_grow0_10 (Or.inr ⟨_, rfl⟩) (⟨q, rfl, rfl⟩)

set_option maxHeartbeats 4000000 in
set_option maxRecDepth 100000 in
theorem k_A_grow1_m15 (l : Launch) (D : va_G) (A : Nat → Prop) (G : Nat → Nat) (w : hm_T) (n nb : hm_N) (a : Nat) (mo : Int32) (b : Nat) (f : Nat → Option Nat) (hn : w n = some (a, .inr (4, [.ref b, .int 10, .int mo]))) (hne : n ≠ nb) (hb : w nb = some (b, .inl (G 4, 10, .inr (.inr (.inr (.inr f)))))) (hnt : w (99, 0, 0) = none) (hel : ∀ j y, f j = some y → ∃ (nm : hm_N) (fs : List Value), w nm = some (y, .inr (1, fs))) : Met l y_A_grow1 (.code y_A_grow1 c_A_grow1 4 (some (.array (.object "java/lang/Object"))) :: wsA) { frames := 4, cells := 1, slots := 15, locals := 84 } (va_Pc [.ref a, .int 11] (ctU D A G w)) (hm_Q D cls A (fun v w1 => ∃ q, v = some (.ref q) ∧ w1 = hm_up (hm_up w nb (q, .inl (G 4, 15, .inr (.inr (.inr (.inr (va_cpy f (fun _ => none) 0 0 10))))))) n (a, .inr (4, [.ref q, .int 10, .int mo])))) 1 15 A := by
  refine ct_met (by decide) (Nat.le_of_ble_eq_true rfl) ?_
  rintro p e s m below meth c ls X hr hlocks hnm hl ⟨hB, hK⟩
  have hl : lv_has ls 4 [(0, .ref a), (1, .int 11)] := hl
  have hY : hm_Y D cls A s.heap w s.heap [] := hm_Y.start hB hK.2.2.2
  refine lv_aload_n X.1 X.2.1 d_A_grow1_0 rfl (lv_at hl 0 rfl) ?_
  refine hm_get ⟨X, hK.1⟩ hY hn 0 (v := .ref b) rfl rfl (Nat.le_of_ble_eq_true rfl) hu_A m_41 (fun _ h => h) d_A_grow1_1 ?_
  refine hm_alen ⟨X, hK.1⟩ hY hb 3 rfl (v := 10) rfl d_A_grow1_4 ?_
  refine lv_istore_n (lv' := [(2, .int 10), (0, .ref a), (1, .int 11)]) X.1 X.2.1 d_A_grow1_5 rfl hl (by decide) rfl (fun ls hl => ?_)
  refine lv_iload_n X.1 X.2.1 d_A_grow1_6 rfl (lv_at hl 0 rfl) ?_
  refine lv_if_gt (tgt := 20) X.1 X.2.1 d_A_grow1_7 (by decide) (fun c1 => ?_) (fun c1 => ?_)
  · refine lv_iload_n X.1 X.2.1 d_A_grow1_20 rfl (lv_at hl 0 rfl) ?_
    refine lv_iload_n X.1 X.2.1 d_A_grow1_21 rfl (lv_at hl 2 rfl) ?_
    refine lv_iload_n X.1 X.2.1 d_A_grow1_22 rfl (lv_at hl 0 rfl) ?_
    refine lv_isub X.1 X.2.1 d_A_grow1_23 ?_
    refine lv_iload_n X.1 X.2.1 d_A_grow1_24 rfl (lv_at hl 0 rfl) ?_
    refine lv_iconst (v := 1) X.1 X.2.1 d_A_grow1_25 (by decide) ?_
    refine lv_ishr X.1 X.2.1 d_A_grow1_26 ?_
    refine hm_callR (ct_runS (n := 3) X hK hY (k_AS_newLength l D A G w 10 (11 - 10) ((10 : Int32) >>> (1 &&& 31)) 15 (by decide) (by decide) (by decide)) m_209 m_207 m_208 m_12 (by decide +kernel) ⟨Nat.le_of_ble_eq_true rfl, Nat.le_of_ble_eq_true rfl⟩ ⟨rfl, rfl⟩ rfl hl.1 rfl (Nat.le_of_ble_eq_true rfl) d_A_grow1_27 ⟨Nat.le_of_ble_eq_true rfl, Nat.le_of_ble_eq_true rfl⟩) (fun v hv => ?_)
    subst hv
    refine W.eq (g2 := F0 m 30 ls [.int 15]) rfl ?_
    refine lv_istore_n (lv' := [(3, .int 15), (2, .int 10), (0, .ref a), (1, .int 11)]) X.1 X.2.1 d_A_grow1_30 rfl hl (by decide) rfl (fun ls hl => ?_)
    refine lv_aload_n X.1 X.2.1 d_A_grow1_31 rfl (lv_at hl 2 rfl) ?_
    refine lv_aload_n X.1 X.2.1 d_A_grow1_32 rfl (lv_at hl 2 rfl) ?_
    refine hm_get ⟨X, hK.1⟩ hY hn 0 (v := .ref b) rfl rfl (Nat.le_of_ble_eq_true rfl) hu_A m_41 (fun _ h => h) d_A_grow1_33 ?_
    refine lv_iload_n X.1 X.2.1 d_A_grow1_36 rfl (lv_at hl 0 rfl) ?_
    refine hm_call (ct_runS (n := 2) X hK hY (k_AR_copyOf0_15 l D A G w nb b 10 f hb hnt hel (by decide) rfl) m_219 m_217 m_218 m_14 (by decide +kernel) ⟨Nat.le_of_ble_eq_true rfl, Nat.le_of_ble_eq_true rfl⟩ ⟨rfl, rfl⟩ rfl hl.1 rfl (Nat.le_of_ble_eq_true rfl) d_A_grow1_37 ⟨Nat.le_of_ble_eq_true rfl, Nat.le_of_ble_eq_true rfl⟩) hY (fun v w1 H locs hp hY => ?_)
    obtain ⟨q, rfl, rfl⟩ := hp
    refine W.eq (g2 := F0 m 40 ls [.ref q, .ref a]) rfl ?_
    have hY := hY.ren (nb := nb) hnt
    refine lv_dup_x1 X.1 X.2.1 d_A_grow1_40 rfl rfl ?_
    refine hm_put ⟨X, hK.1⟩ hY ((hm_up_n _ _ hne).trans hn) 0 rfl (Nat.le_of_ble_eq_true rfl) (Nat.le_of_ble_eq_true rfl) hu_A ty_A ty_A_ok nm_A m_41 (fun _ h => h) rfl rfl rfl d_A_grow1_41 (fun H locs hY => ?_)
    exact en_aW X hY hr (by first | exact Or.inl ⟨_, rfl⟩ | exact Or.inr ⟨_, rfl⟩) hlocks d_A_grow1_44 (Or.inr ⟨_, rfl⟩) (⟨q, rfl, rfl⟩)
  · exact absurd c1 (by decide)

set_option maxHeartbeats 4000000 in
set_option maxRecDepth 100000 in
theorem k_A_grow0_m15 (l : Launch) (D : va_G) (A : Nat → Prop) (G : Nat → Nat) (w : hm_T) (n nb : hm_N) (a : Nat) (mo : Int32) (b : Nat) (f : Nat → Option Nat) (hn : w n = some (a, .inr (4, [.ref b, .int 10, .int mo]))) (hne : n ≠ nb) (hb : w nb = some (b, .inl (G 4, 10, .inr (.inr (.inr (.inr f)))))) (hnt : w (99, 0, 0) = none) (hel : ∀ j y, f j = some y → ∃ (nm : hm_N) (fs : List Value), w nm = some (y, .inr (1, fs))) : Met l y_A_grow0 (.code y_A_grow0 c_A_grow0 1 (some (.array (.object "java/lang/Object"))) :: wsA) { frames := 5, cells := 1, slots := 15, locals := 107 } (va_Pc [.ref a] (ctU D A G w)) (hm_Q D cls A (fun v w1 => ∃ q, v = some (.ref q) ∧ w1 = hm_up (hm_up w nb (q, .inl (G 4, 15, .inr (.inr (.inr (.inr (va_cpy f (fun _ => none) 0 0 10))))))) n (a, .inr (4, [.ref q, .int 10, .int mo])))) 1 15 A := by
  refine ct_met (by decide) (Nat.le_of_ble_eq_true rfl) ?_
  rintro p e s m below meth c ls X hr hlocks hnm hl ⟨hB, hK⟩
  have hl : lv_has ls 1 [(0, .ref a)] := hl
  have hY : hm_Y D cls A s.heap w s.heap [] := hm_Y.start hB hK.2.2.2
  refine lv_aload_n X.1 X.2.1 d_A_grow0_0 rfl (lv_at hl 0 rfl) ?_
  refine lv_aload_n X.1 X.2.1 d_A_grow0_1 rfl (lv_at hl 0 rfl) ?_
  refine hm_get ⟨X, hK.1⟩ hY hn 1 (v := .int 10) rfl rfl (Nat.le_of_ble_eq_true rfl) hu_A m_42 (fun _ h => h) d_A_grow0_2 ?_
  refine lv_iconst (v := 1) X.1 X.2.1 d_A_grow0_5 (by decide) ?_
  refine lv_iadd X.1 X.2.1 d_A_grow0_6 ?_
  refine W.eq (g2 := F0 m 7 ls [.int 11, .ref a]) rfl ?_
  refine hm_call (ct_runV (n := 1) X hK hY (k_A_grow1_m15 l D A G w n nb a mo b f hn hne hb hnt hel) m_206 m_203 m_205 ms_A_grow1 m_4 (by decide +kernel) ⟨Nat.le_of_ble_eq_true rfl, Nat.le_of_ble_eq_true rfl⟩ ⟨rfl, rfl⟩ (hm_recv ⟨X, hK.1⟩ hY hn rfl) rfl hl.1 rfl (Nat.le_of_ble_eq_true rfl) d_A_grow0_7 ⟨Nat.le_of_ble_eq_true rfl, Nat.le_of_ble_eq_true rfl⟩) hY (fun v w1 H locs hp hY => ?_)
  obtain ⟨q, rfl, rfl⟩ := hp
  refine W.eq (g2 := F0 m 10 ls [.ref q]) rfl ?_
  exact en_aW X hY hr (by first | exact Or.inl ⟨_, rfl⟩ | exact Or.inr ⟨_, rfl⟩) hlocks d_A_grow0_10 (Or.inr ⟨_, rfl⟩) (⟨q, rfl, rfl⟩)

set_option maxHeartbeats 4000000 in
set_option maxRecDepth 100000 in
theorem k_A_grow1_m22 (l : Launch) (D : va_G) (A : Nat → Prop) (G : Nat → Nat) (w : hm_T) (n nb : hm_N) (a : Nat) (mo : Int32) (b : Nat) (f : Nat → Option Nat) (hn : w n = some (a, .inr (4, [.ref b, .int 15, .int mo]))) (hne : n ≠ nb) (hb : w nb = some (b, .inl (G 4, 15, .inr (.inr (.inr (.inr f)))))) (hnt : w (99, 0, 0) = none) (hel : ∀ j y, f j = some y → ∃ (nm : hm_N) (fs : List Value), w nm = some (y, .inr (1, fs))) : Met l y_A_grow1 (.code y_A_grow1 c_A_grow1 4 (some (.array (.object "java/lang/Object"))) :: wsA) { frames := 4, cells := 1, slots := 22, locals := 84 } (va_Pc [.ref a, .int 16] (ctU D A G w)) (hm_Q D cls A (fun v w1 => ∃ q, v = some (.ref q) ∧ w1 = hm_up (hm_up w nb (q, .inl (G 4, 22, .inr (.inr (.inr (.inr (va_cpy f (fun _ => none) 0 0 15))))))) n (a, .inr (4, [.ref q, .int 15, .int mo])))) 1 22 A := by
  refine ct_met (by decide) (Nat.le_of_ble_eq_true rfl) ?_
  rintro p e s m below meth c ls X hr hlocks hnm hl ⟨hB, hK⟩
  have hl : lv_has ls 4 [(0, .ref a), (1, .int 16)] := hl
  have hY : hm_Y D cls A s.heap w s.heap [] := hm_Y.start hB hK.2.2.2
  refine lv_aload_n X.1 X.2.1 d_A_grow1_0 rfl (lv_at hl 0 rfl) ?_
  refine hm_get ⟨X, hK.1⟩ hY hn 0 (v := .ref b) rfl rfl (Nat.le_of_ble_eq_true rfl) hu_A m_41 (fun _ h => h) d_A_grow1_1 ?_
  refine hm_alen ⟨X, hK.1⟩ hY hb 3 rfl (v := 15) rfl d_A_grow1_4 ?_
  refine lv_istore_n (lv' := [(2, .int 15), (0, .ref a), (1, .int 16)]) X.1 X.2.1 d_A_grow1_5 rfl hl (by decide) rfl (fun ls hl => ?_)
  refine lv_iload_n X.1 X.2.1 d_A_grow1_6 rfl (lv_at hl 0 rfl) ?_
  refine lv_if_gt (tgt := 20) X.1 X.2.1 d_A_grow1_7 (by decide) (fun c1 => ?_) (fun c1 => ?_)
  · refine lv_iload_n X.1 X.2.1 d_A_grow1_20 rfl (lv_at hl 0 rfl) ?_
    refine lv_iload_n X.1 X.2.1 d_A_grow1_21 rfl (lv_at hl 2 rfl) ?_
    refine lv_iload_n X.1 X.2.1 d_A_grow1_22 rfl (lv_at hl 0 rfl) ?_
    refine lv_isub X.1 X.2.1 d_A_grow1_23 ?_
    refine lv_iload_n X.1 X.2.1 d_A_grow1_24 rfl (lv_at hl 0 rfl) ?_
    refine lv_iconst (v := 1) X.1 X.2.1 d_A_grow1_25 (by decide) ?_
    refine lv_ishr X.1 X.2.1 d_A_grow1_26 ?_
    refine hm_callR (ct_runS (n := 3) X hK hY (k_AS_newLength l D A G w 15 (16 - 15) ((15 : Int32) >>> (1 &&& 31)) 22 (by decide) (by decide) (by decide)) m_209 m_207 m_208 m_12 (by decide +kernel) ⟨Nat.le_of_ble_eq_true rfl, Nat.le_of_ble_eq_true rfl⟩ ⟨rfl, rfl⟩ rfl hl.1 rfl (Nat.le_of_ble_eq_true rfl) d_A_grow1_27 ⟨Nat.le_of_ble_eq_true rfl, Nat.le_of_ble_eq_true rfl⟩) (fun v hv => ?_)
    subst hv
    refine W.eq (g2 := F0 m 30 ls [.int 22]) rfl ?_
    refine lv_istore_n (lv' := [(3, .int 22), (2, .int 15), (0, .ref a), (1, .int 16)]) X.1 X.2.1 d_A_grow1_30 rfl hl (by decide) rfl (fun ls hl => ?_)
    refine lv_aload_n X.1 X.2.1 d_A_grow1_31 rfl (lv_at hl 2 rfl) ?_
    refine lv_aload_n X.1 X.2.1 d_A_grow1_32 rfl (lv_at hl 2 rfl) ?_
    refine hm_get ⟨X, hK.1⟩ hY hn 0 (v := .ref b) rfl rfl (Nat.le_of_ble_eq_true rfl) hu_A m_41 (fun _ h => h) d_A_grow1_33 ?_
    refine lv_iload_n X.1 X.2.1 d_A_grow1_36 rfl (lv_at hl 0 rfl) ?_
    refine hm_call (ct_runS (n := 2) X hK hY (k_AR_copyOf0_22 l D A G w nb b 15 f hb hnt hel (by decide) rfl) m_219 m_217 m_218 m_14 (by decide +kernel) ⟨Nat.le_of_ble_eq_true rfl, Nat.le_of_ble_eq_true rfl⟩ ⟨rfl, rfl⟩ rfl hl.1 rfl (Nat.le_of_ble_eq_true rfl) d_A_grow1_37 ⟨Nat.le_of_ble_eq_true rfl, Nat.le_of_ble_eq_true rfl⟩) hY (fun v w1 H locs hp hY => ?_)
    obtain ⟨q, rfl, rfl⟩ := hp
    refine W.eq (g2 := F0 m 40 ls [.ref q, .ref a]) rfl ?_
    have hY := hY.ren (nb := nb) hnt
    refine lv_dup_x1 X.1 X.2.1 d_A_grow1_40 rfl rfl ?_
    refine hm_put ⟨X, hK.1⟩ hY ((hm_up_n _ _ hne).trans hn) 0 rfl (Nat.le_of_ble_eq_true rfl) (Nat.le_of_ble_eq_true rfl) hu_A ty_A ty_A_ok nm_A m_41 (fun _ h => h) rfl rfl rfl d_A_grow1_41 (fun H locs hY => ?_)
    exact en_aW X hY hr (by first | exact Or.inl ⟨_, rfl⟩ | exact Or.inr ⟨_, rfl⟩) hlocks d_A_grow1_44 (Or.inr ⟨_, rfl⟩) (⟨q, rfl, rfl⟩)
  · exact absurd c1 (by decide)

set_option maxHeartbeats 4000000 in
set_option maxRecDepth 100000 in
theorem k_A_grow0_m22 (l : Launch) (D : va_G) (A : Nat → Prop) (G : Nat → Nat) (w : hm_T) (n nb : hm_N) (a : Nat) (mo : Int32) (b : Nat) (f : Nat → Option Nat) (hn : w n = some (a, .inr (4, [.ref b, .int 15, .int mo]))) (hne : n ≠ nb) (hb : w nb = some (b, .inl (G 4, 15, .inr (.inr (.inr (.inr f)))))) (hnt : w (99, 0, 0) = none) (hel : ∀ j y, f j = some y → ∃ (nm : hm_N) (fs : List Value), w nm = some (y, .inr (1, fs))) : Met l y_A_grow0 (.code y_A_grow0 c_A_grow0 1 (some (.array (.object "java/lang/Object"))) :: wsA) { frames := 5, cells := 1, slots := 22, locals := 107 } (va_Pc [.ref a] (ctU D A G w)) (hm_Q D cls A (fun v w1 => ∃ q, v = some (.ref q) ∧ w1 = hm_up (hm_up w nb (q, .inl (G 4, 22, .inr (.inr (.inr (.inr (va_cpy f (fun _ => none) 0 0 15))))))) n (a, .inr (4, [.ref q, .int 15, .int mo])))) 1 22 A := by
  refine ct_met (by decide) (Nat.le_of_ble_eq_true rfl) ?_
  rintro p e s m below meth c ls X hr hlocks hnm hl ⟨hB, hK⟩
  have hl : lv_has ls 1 [(0, .ref a)] := hl
  have hY : hm_Y D cls A s.heap w s.heap [] := hm_Y.start hB hK.2.2.2
  refine lv_aload_n X.1 X.2.1 d_A_grow0_0 rfl (lv_at hl 0 rfl) ?_
  refine lv_aload_n X.1 X.2.1 d_A_grow0_1 rfl (lv_at hl 0 rfl) ?_
  refine hm_get ⟨X, hK.1⟩ hY hn 1 (v := .int 15) rfl rfl (Nat.le_of_ble_eq_true rfl) hu_A m_42 (fun _ h => h) d_A_grow0_2 ?_
  refine lv_iconst (v := 1) X.1 X.2.1 d_A_grow0_5 (by decide) ?_
  refine lv_iadd X.1 X.2.1 d_A_grow0_6 ?_
  refine W.eq (g2 := F0 m 7 ls [.int 16, .ref a]) rfl ?_
  refine hm_call (ct_runV (n := 1) X hK hY (k_A_grow1_m22 l D A G w n nb a mo b f hn hne hb hnt hel) m_206 m_203 m_205 ms_A_grow1 m_4 (by decide +kernel) ⟨Nat.le_of_ble_eq_true rfl, Nat.le_of_ble_eq_true rfl⟩ ⟨rfl, rfl⟩ (hm_recv ⟨X, hK.1⟩ hY hn rfl) rfl hl.1 rfl (Nat.le_of_ble_eq_true rfl) d_A_grow0_7 ⟨Nat.le_of_ble_eq_true rfl, Nat.le_of_ble_eq_true rfl⟩) hY (fun v w1 H locs hp hY => ?_)
  obtain ⟨q, rfl, rfl⟩ := hp
  refine W.eq (g2 := F0 m 10 ls [.ref q]) rfl ?_
  exact en_aW X hY hr (by first | exact Or.inl ⟨_, rfl⟩ | exact Or.inr ⟨_, rfl⟩) hlocks d_A_grow0_10 (Or.inr ⟨_, rfl⟩) (⟨q, rfl, rfl⟩)

set_option maxHeartbeats 4000000 in
set_option maxRecDepth 100000 in
theorem k_A_add1_rP (l : Launch) (D : va_G) (A : Nat → Prop) (G : Nat → Nat) (w : hm_T) (n nb : hm_N) (a : Nat) (mo : Int32) (b N cn : Nat) (f : Nat → Option Nat) (hn : w n = some (a, .inr (4, [.ref b, .int (nI cn), .int mo]))) (hne : n ≠ nb) (hb : w nb = some (b, .inl (G 4, N, .inr (.inr (.inr (.inr f)))))) (hc : cn < N) (hN : N < 2 ^ 31) (ve : Nat) (nm : hm_N) (vs : List Value) (hv : w nm = some (ve, .inr (1, vs))) (hv1 : nm ≠ n) (hv2 : nm ≠ nb) : Met l y_A_add1 (.code y_A_add1 c_A_add1 4 (none : Option FieldType) :: wsA) { frames := 0, cells := 0, slots := 0, locals := 0 } (va_Pc [.ref a, .ref ve, .ref b, .int (nI cn)] (ctU D A G w)) (hm_Q D cls A (fun v w1 => v = none ∧ w1 = hm_up (hm_up w nb (b, .inl (G 4, N, .inr (.inr (.inr (.inr (va_up f cn (some ve)))))))) n (a, .inr (4, [.ref b, .int (nI (cn + 1)), .int mo])))) 0 0 A := by
  refine ct_met (by decide) (Nat.le_of_ble_eq_true rfl) ?_
  rintro p e s m below meth c ls X hr hlocks hnm hl ⟨hB, hK⟩
  have hl : lv_has ls 4 [(0, .ref a), (1, .ref ve), (2, .ref b), (3, .int (nI cn))] := hl
  have hY : hm_Y D cls A s.heap w s.heap [] := hm_Y.start hB hK.2.2.2
  refine lv_iload_n X.1 X.2.1 d_A_add1_0 rfl (lv_at hl 3 rfl) ?_
  refine lv_aload_n X.1 X.2.1 d_A_add1_1 rfl (lv_at hl 2 rfl) ?_
  refine hm_alen ⟨X, hK.1⟩ hY hb 3 rfl (v := nI N) rfl d_A_add1_2 ?_
  refine lv_icmp_ne (tgt := 11) X.1 X.2.1 d_A_add1_3 (by decide) (fun _ => ?_) (fun c9 => absurd ((nI_eq (by omega) hN).mp c9) (by omega))
  refine lv_aload_n X.1 X.2.1 d_A_add1_11 rfl (lv_at hl 2 rfl) ?_
  refine lv_iload_n X.1 X.2.1 d_A_add1_12 rfl (lv_at hl 3 rfl) ?_
  refine lv_aload_n X.1 X.2.1 d_A_add1_13 rfl (lv_at hl 1 rfl) ?_
  refine hm_aast ⟨X, hK.1⟩ hY hb 3 rfl (C := R_P) (hm_recv ⟨X, hK.1⟩ hY hv rfl) (vb_asgC hK.2.1.2.2.2.2.1) (vp_in_nI hc hN) d_A_add1_14 (fun H locs hY => ?_)
  rw [nI_clamp (by omega)] at hY
  refine lv_aload_n X.1 X.2.1 d_A_add1_15 rfl (lv_at hl 0 rfl) ?_
  refine lv_iload_n X.1 X.2.1 d_A_add1_16 rfl (lv_at hl 3 rfl) ?_
  refine lv_iconst (v := 1) X.1 X.2.1 d_A_add1_17 (by decide) ?_
  refine lv_iadd X.1 X.2.1 d_A_add1_18 ?_
  rw [nI_1]
  refine hm_put ⟨X, hK.1⟩ hY ((hm_up_n _ _ hne).trans hn) 1 rfl (Nat.le_of_ble_eq_true rfl) (Nat.le_of_ble_eq_true rfl) hu_A ty_A ty_A_ok nm_A m_42 (fun _ h => h) rfl rfl rfl d_A_add1_19 (fun H locs hY => ?_)
  exact en_vW X hY hr hlocks d_A_add1_22 (⟨rfl, rfl⟩)

set_option maxHeartbeats 4000000 in
set_option maxRecDepth 100000 in
theorem k_A_add_rP (l : Launch) (D : va_G) (A : Nat → Prop) (G : Nat → Nat) (w : hm_T) (n nb : hm_N) (a : Nat) (mo : Int32) (b N cn : Nat) (f : Nat → Option Nat) (hn : w n = some (a, .inr (4, [.ref b, .int (nI cn), .int mo]))) (hne : n ≠ nb) (hb : w nb = some (b, .inl (G 4, N, .inr (.inr (.inr (.inr f)))))) (hc : cn < N) (hN : N < 2 ^ 31) (ve : Nat) (nm : hm_N) (vs : List Value) (hv : w nm = some (ve, .inr (1, vs))) (hv1 : nm ≠ n) (hv2 : nm ≠ nb) : Met l y_A_add0 (.code y_A_add0 c_A_add0 2 (some .boolean) :: wsA) { frames := 1, cells := 0, slots := 0, locals := 23 } (va_Pc [.ref a, .ref ve] (ctU D A G w)) (hm_Q D cls A (fun v w1 => v = some (.int 1) ∧ w1 = hm_up (hm_up w nb (b, .inl (G 4, N, .inr (.inr (.inr (.inr (va_up f cn (some ve)))))))) n (a, .inr (4, [.ref b, .int (nI (cn + 1)), .int (mo + 1)])))) 0 0 A := by
  refine ct_met (by decide) (Nat.le_of_ble_eq_true rfl) ?_
  rintro p e s m below meth c ls X hr hlocks hnm hl ⟨hB, hK⟩
  have hl : lv_has ls 2 [(0, .ref a), (1, .ref ve)] := hl
  have hY : hm_Y D cls A s.heap w s.heap [] := hm_Y.start hB hK.2.2.2
  refine lv_aload_n X.1 X.2.1 d_A_add0_0 rfl (lv_at hl 0 rfl) ?_
  refine lv_dup X.1 X.2.1 d_A_add0_1 rfl ?_
  refine hm_get ⟨X, hK.1⟩ hY hn 2 (v := .int mo) rfl rfl (Nat.le_of_ble_eq_true rfl) hu_A m_44 (fun x h => u_same (X.2.2.2.2 _ m_45) x h) d_A_add0_2 ?_
  refine lv_iconst (v := 1) X.1 X.2.1 d_A_add0_5 (by decide) ?_
  refine lv_iadd X.1 X.2.1 d_A_add0_6 ?_
  refine hm_put ⟨X, hK.1⟩ hY hn 2 rfl (Nat.le_of_ble_eq_true rfl) (Nat.le_of_ble_eq_true rfl) hu_A ty_A ty_A_ok nm_A m_44 (fun x h => u_same (X.2.2.2.2 _ m_45) x h) rfl rfl rfl d_A_add0_7 (fun H locs hY => ?_)
  have hY : hm_Y D cls A s.heap (hm_up w n (a, .inr (4, [.ref b, .int (nI cn), .int (mo + 1)]))) H locs := by exact hY
  refine lv_aload_n X.1 X.2.1 d_A_add0_10 rfl (lv_at hl 0 rfl) ?_
  refine lv_aload_n X.1 X.2.1 d_A_add0_11 rfl (lv_at hl 1 rfl) ?_
  refine lv_aload_n X.1 X.2.1 d_A_add0_12 rfl (lv_at hl 0 rfl) ?_
  refine hm_get ⟨X, hK.1⟩ hY (hm_up_s _ _ _) 0 (v := .ref b) rfl rfl (Nat.le_of_ble_eq_true rfl) hu_A m_41 (fun _ h => h) d_A_add0_13 ?_
  refine lv_aload_n X.1 X.2.1 d_A_add0_16 rfl (lv_at hl 0 rfl) ?_
  refine hm_get ⟨X, hK.1⟩ hY (hm_up_s _ _ _) 1 (v := .int (nI cn)) rfl rfl (Nat.le_of_ble_eq_true rfl) hu_A m_42 (fun _ h => h) d_A_add0_17 ?_
  refine hm_call (ct_runV (n := 3) X hK hY (k_A_add1_rP l D A G (hm_up w n (a, .inr (4, [.ref b, .int (nI cn), .int (mo + 1)]))) n nb a (mo + 1) b N cn f (hm_up_s _ _ _) hne ((hm_up_n _ _ (Ne.symm hne)).trans hb) hc hN ve nm vs ((hm_up_n _ _ hv1).trans hv) hv1 hv2) m_198 m_195 m_197 ms_A_add1 m_4 (by decide +kernel) ⟨Nat.le_of_ble_eq_true rfl, Nat.le_of_ble_eq_true rfl⟩ ⟨rfl, rfl⟩ (hm_recv ⟨X, hK.1⟩ hY (hm_up_s _ _ _) rfl) rfl hl.1 rfl (Nat.le_of_ble_eq_true rfl) d_A_add0_20 ⟨Nat.le_of_ble_eq_true rfl, Nat.le_of_ble_eq_true rfl⟩) hY (fun v w1 H locs hp hY => ?_)
  obtain ⟨rfl, rfl⟩ := hp
  refine W.eq (g2 := F0 m 23 ls []) rfl ?_
  have hY : hm_Y D cls A s.heap (hm_up (hm_up w nb (b, .inl (G 4, N, .inr (.inr (.inr (.inr (va_up f cn (some ve)))))))) n (a, .inr (4, [.ref b, .int (nI (cn + 1)), .int (mo + 1)]))) H locs := by rw [hm_uc _ _ _ hne, hm_uu] at hY; exact hY
  refine lv_iconst (v := 1) X.1 X.2.1 d_A_add0_23 (by decide) ?_
  exact en_zW X hY hr hlocks d_A_add0_24 rfl (⟨rfl, rfl⟩)

set_option maxHeartbeats 4000000 in
set_option maxRecDepth 100000 in
theorem k_A_add1_fP (l : Launch) (D : va_G) (A : Nat → Prop) (G : Nat → Nat) (w : hm_T) (n nb : hm_N) (a : Nat) (mo : Int32) (hn : w n = some (a, .inr (4, [.ref (G 0), .int 0, .int mo]))) (hne : n ≠ nb) (ve : Nat) (nm : hm_N) (vs : List Value) (hv : w nm = some (ve, .inr (1, vs))) (hv1 : nm ≠ n) (hv2 : nm ≠ nb) : Met l y_A_add1 (.code y_A_add1 c_A_add1 4 (none : Option FieldType) :: wsA) { frames := 6, cells := 1, slots := 10, locals := 127 } (va_Pc [.ref a, .ref ve, .ref (G 0), .int 0] (ctU D A G w)) (hm_Q D cls A (fun v w1 => ∃ q, v = none ∧ w1 = hm_up (hm_up w nb (q, .inl (G 4, 10, .inr (.inr (.inr (.inr (va_up (fun _ => none) 0 (some ve)))))))) n (a, .inr (4, [.ref q, .int 1, .int mo])))) 1 10 A := by
  refine ct_met (by decide) (Nat.le_of_ble_eq_true rfl) ?_
  rintro p e s m below meth c ls X hr hlocks hnm hl ⟨hB, hK⟩
  have hl : lv_has ls 4 [(0, .ref a), (1, .ref ve), (2, .ref (G 0)), (3, .int 0)] := hl
  have hY : hm_Y D cls A s.heap w s.heap [] := hm_Y.start hB hK.2.2.2
  refine lv_iload_n X.1 X.2.1 d_A_add1_0 rfl (lv_at hl 3 rfl) ?_
  refine lv_aload_n X.1 X.2.1 d_A_add1_1 rfl (lv_at hl 2 rfl) ?_
  refine va_tlen X.1 X.2.1 hK.2.2.1.2 hY.2.2.1 (v := 0) rfl d_A_add1_2 ?_
  refine lv_icmp_ne (tgt := 11) X.1 X.2.1 d_A_add1_3 (by decide) (fun c9 => absurd rfl c9) (fun _ => ?_)
  refine lv_aload_n X.1 X.2.1 d_A_add1_6 rfl (lv_at hl 0 rfl) ?_
  refine hm_call (ct_runV (n := 0) X hK hY (k_A_grow0_f l D A G w n nb a mo hn hne) m_202 m_199 m_201 ms_A_grow0 m_4 (by decide +kernel) ⟨Nat.le_of_ble_eq_true rfl, Nat.le_of_ble_eq_true rfl⟩ ⟨rfl, rfl⟩ (hm_recv ⟨X, hK.1⟩ hY hn rfl) rfl hl.1 rfl (Nat.le_of_ble_eq_true rfl) d_A_add1_7 ⟨Nat.le_of_ble_eq_true rfl, Nat.le_of_ble_eq_true rfl⟩) hY (fun v w1 H locs hp hY => ?_)
  obtain ⟨q, rfl, rfl⟩ := hp
  refine W.eq (g2 := F0 m 10 ls [.ref q]) rfl ?_
  refine lv_astore_n (lv' := [(2, .ref q), (0, .ref a), (1, .ref ve), (3, .int 0)]) X.1 X.2.1 d_A_add1_10 rfl hl (by decide) rfl (fun ls hl => ?_)
  refine lv_aload_n X.1 X.2.1 d_A_add1_11 rfl (lv_at hl 0 rfl) ?_
  refine lv_iload_n X.1 X.2.1 d_A_add1_12 rfl (lv_at hl 3 rfl) ?_
  refine lv_aload_n X.1 X.2.1 d_A_add1_13 rfl (lv_at hl 2 rfl) ?_
  have hq := hm_up_s (hm_up w nb (q, .inl (G 4, 10, .inr (.inr (.inr (.inr (fun _ => none))))))) n (a, .inr (4, [.ref q, .int 0, .int mo]))
  have hq2 : hm_up (hm_up w nb (q, .inl (G 4, 10, .inr (.inr (.inr (.inr (fun _ => none))))))) n (a, .inr (4, [.ref q, .int 0, .int mo])) nb = _ := (hm_up_n _ _ (Ne.symm hne)).trans (hm_up_s _ _ _)
  have hq3 : hm_up (hm_up w nb (q, .inl (G 4, 10, .inr (.inr (.inr (.inr (fun _ => none))))))) n (a, .inr (4, [.ref q, .int 0, .int mo])) nm = _ := (hm_up_n _ _ hv1).trans ((hm_up_n _ _ hv2).trans hv)
  refine hm_aast ⟨X, hK.1⟩ hY hq2 3 rfl (C := R_P) (hm_recv ⟨X, hK.1⟩ hY hq3 rfl) (vb_asgC hK.2.1.2.2.2.2.1) (i := 0) (vp_in_nI (n := 0) (by decide) (by decide)) d_A_add1_14 (fun H locs hY => ?_)
  have hY : hm_Y D cls A s.heap (hm_up (hm_up w nb (q, .inl (G 4, 10, .inr (.inr (.inr (.inr (va_up (fun _ => none) 0 (some ve)))))))) n (a, .inr (4, [.ref q, .int 0, .int mo]))) H locs := by rw [hm_uc _ _ _ hne, hm_uu] at hY; exact hY
  refine lv_aload_n X.1 X.2.1 d_A_add1_15 rfl (lv_at hl 1 rfl) ?_
  refine lv_iload_n X.1 X.2.1 d_A_add1_16 rfl (lv_at hl 3 rfl) ?_
  refine lv_iconst (v := 1) X.1 X.2.1 d_A_add1_17 (by decide) ?_
  refine lv_iadd X.1 X.2.1 d_A_add1_18 ?_
  refine W.eq (g2 := F0 m 19 ls [.int 1, .ref a]) rfl ?_
  refine hm_put ⟨X, hK.1⟩ hY (hm_up_s _ _ _) 1 rfl (Nat.le_of_ble_eq_true rfl) (Nat.le_of_ble_eq_true rfl) hu_A ty_A ty_A_ok nm_A m_42 (fun _ h => h) rfl rfl rfl d_A_add1_19 (fun H locs hY => ?_)
  have hY : hm_Y D cls A s.heap (hm_up (hm_up w nb (q, .inl (G 4, 10, .inr (.inr (.inr (.inr (va_up (fun _ => none) 0 (some ve)))))))) n (a, .inr (4, [.ref q, .int 1, .int mo]))) H locs := by rw [hm_uu] at hY; exact hY
  exact en_vW X hY hr hlocks d_A_add1_22 (⟨q, rfl, rfl⟩)

set_option maxHeartbeats 4000000 in
set_option maxRecDepth 100000 in
theorem k_A_add_fP (l : Launch) (D : va_G) (A : Nat → Prop) (G : Nat → Nat) (w : hm_T) (n nb : hm_N) (a : Nat) (mo : Int32) (hn : w n = some (a, .inr (4, [.ref (G 0), .int 0, .int mo]))) (hne : n ≠ nb) (ve : Nat) (nm : hm_N) (vs : List Value) (hv : w nm = some (ve, .inr (1, vs))) (hv1 : nm ≠ n) (hv2 : nm ≠ nb) : Met l y_A_add0 (.code y_A_add0 c_A_add0 2 (some .boolean) :: wsA) { frames := 7, cells := 1, slots := 10, locals := 150 } (va_Pc [.ref a, .ref ve] (ctU D A G w)) (hm_Q D cls A (fun v w1 => ∃ q, v = some (.int 1) ∧ w1 = hm_up (hm_up w nb (q, .inl (G 4, 10, .inr (.inr (.inr (.inr (va_up (fun _ => none) 0 (some ve)))))))) n (a, .inr (4, [.ref q, .int 1, .int (mo + 1)])))) 1 10 A := by
  refine ct_met (by decide) (Nat.le_of_ble_eq_true rfl) ?_
  rintro p e s m below meth c ls X hr hlocks hnm hl ⟨hB, hK⟩
  have hl : lv_has ls 2 [(0, .ref a), (1, .ref ve)] := hl
  have hY : hm_Y D cls A s.heap w s.heap [] := hm_Y.start hB hK.2.2.2
  refine lv_aload_n X.1 X.2.1 d_A_add0_0 rfl (lv_at hl 0 rfl) ?_
  refine lv_dup X.1 X.2.1 d_A_add0_1 rfl ?_
  refine hm_get ⟨X, hK.1⟩ hY hn 2 (v := .int mo) rfl rfl (Nat.le_of_ble_eq_true rfl) hu_A m_44 (fun x h => u_same (X.2.2.2.2 _ m_45) x h) d_A_add0_2 ?_
  refine lv_iconst (v := 1) X.1 X.2.1 d_A_add0_5 (by decide) ?_
  refine lv_iadd X.1 X.2.1 d_A_add0_6 ?_
  refine hm_put ⟨X, hK.1⟩ hY hn 2 rfl (Nat.le_of_ble_eq_true rfl) (Nat.le_of_ble_eq_true rfl) hu_A ty_A ty_A_ok nm_A m_44 (fun x h => u_same (X.2.2.2.2 _ m_45) x h) rfl rfl rfl d_A_add0_7 (fun H locs hY => ?_)
  have hY : hm_Y D cls A s.heap (hm_up w n (a, .inr (4, [.ref (G 0), .int 0, .int (mo + 1)]))) H locs := by exact hY
  refine lv_aload_n X.1 X.2.1 d_A_add0_10 rfl (lv_at hl 0 rfl) ?_
  refine lv_aload_n X.1 X.2.1 d_A_add0_11 rfl (lv_at hl 1 rfl) ?_
  refine lv_aload_n X.1 X.2.1 d_A_add0_12 rfl (lv_at hl 0 rfl) ?_
  refine hm_get ⟨X, hK.1⟩ hY (hm_up_s _ _ _) 0 (v := .ref (G 0)) rfl rfl (Nat.le_of_ble_eq_true rfl) hu_A m_41 (fun _ h => h) d_A_add0_13 ?_
  refine lv_aload_n X.1 X.2.1 d_A_add0_16 rfl (lv_at hl 0 rfl) ?_
  refine hm_get ⟨X, hK.1⟩ hY (hm_up_s _ _ _) 1 (v := .int 0) rfl rfl (Nat.le_of_ble_eq_true rfl) hu_A m_42 (fun _ h => h) d_A_add0_17 ?_
  refine hm_call (ct_runV (n := 3) X hK hY (k_A_add1_fP l D A G (hm_up w n (a, .inr (4, [.ref (G 0), .int 0, .int (mo + 1)]))) n nb a (mo + 1) (hm_up_s _ _ _) hne ve nm vs ((hm_up_n _ _ hv1).trans hv) hv1 hv2) m_198 m_195 m_197 ms_A_add1 m_4 (by decide +kernel) ⟨Nat.le_of_ble_eq_true rfl, Nat.le_of_ble_eq_true rfl⟩ ⟨rfl, rfl⟩ (hm_recv ⟨X, hK.1⟩ hY (hm_up_s _ _ _) rfl) rfl hl.1 rfl (Nat.le_of_ble_eq_true rfl) d_A_add0_20 ⟨Nat.le_of_ble_eq_true rfl, Nat.le_of_ble_eq_true rfl⟩) hY (fun v w1 H locs hp hY => ?_)
  obtain ⟨q, rfl, rfl⟩ := hp
  refine W.eq (g2 := F0 m 23 ls []) rfl ?_
  have hY : hm_Y D cls A s.heap (hm_up (hm_up w nb (q, .inl (G 4, 10, .inr (.inr (.inr (.inr (va_up (fun _ => none) 0 (some ve)))))))) n (a, .inr (4, [.ref q, .int 1, .int (mo + 1)]))) H locs := by rw [hm_uc _ _ _ hne, hm_uu] at hY; exact hY
  refine lv_iconst (v := 1) X.1 X.2.1 d_A_add0_23 (by decide) ?_
  exact en_zW X hY hr hlocks d_A_add0_24 rfl (⟨q, rfl, rfl⟩)

set_option maxHeartbeats 4000000 in
set_option maxRecDepth 100000 in
theorem k_A_add1_m15P (l : Launch) (D : va_G) (A : Nat → Prop) (G : Nat → Nat) (w : hm_T) (n nb : hm_N) (a : Nat) (mo : Int32) (b : Nat) (f : Nat → Option Nat) (hn : w n = some (a, .inr (4, [.ref b, .int 10, .int mo]))) (hne : n ≠ nb) (hb : w nb = some (b, .inl (G 4, 10, .inr (.inr (.inr (.inr f)))))) (hnt : w (99, 0, 0) = none) (hel : ∀ j y, f j = some y → ∃ (nm : hm_N) (fs : List Value), w nm = some (y, .inr (1, fs))) (ve : Nat) (nm : hm_N) (vs : List Value) (hv : w nm = some (ve, .inr (1, vs))) (hv1 : nm ≠ n) (hv2 : nm ≠ nb) : Met l y_A_add1 (.code y_A_add1 c_A_add1 4 (none : Option FieldType) :: wsA) { frames := 6, cells := 1, slots := 15, locals := 127 } (va_Pc [.ref a, .ref ve, .ref b, .int 10] (ctU D A G w)) (hm_Q D cls A (fun v w1 => ∃ q, v = none ∧ w1 = hm_up (hm_up w nb (q, .inl (G 4, 15, .inr (.inr (.inr (.inr (va_up (va_cpy f (fun _ => none) 0 0 10) 10 (some ve)))))))) n (a, .inr (4, [.ref q, .int 11, .int mo])))) 1 15 A := by
  refine ct_met (by decide) (Nat.le_of_ble_eq_true rfl) ?_
  rintro p e s m below meth c ls X hr hlocks hnm hl ⟨hB, hK⟩
  have hl : lv_has ls 4 [(0, .ref a), (1, .ref ve), (2, .ref b), (3, .int 10)] := hl
  have hY : hm_Y D cls A s.heap w s.heap [] := hm_Y.start hB hK.2.2.2
  refine lv_iload_n X.1 X.2.1 d_A_add1_0 rfl (lv_at hl 3 rfl) ?_
  refine lv_aload_n X.1 X.2.1 d_A_add1_1 rfl (lv_at hl 2 rfl) ?_
  refine hm_alen ⟨X, hK.1⟩ hY hb 3 rfl (v := 10) rfl d_A_add1_2 ?_
  refine lv_icmp_ne (tgt := 11) X.1 X.2.1 d_A_add1_3 (by decide) (fun c9 => absurd rfl c9) (fun _ => ?_)
  refine lv_aload_n X.1 X.2.1 d_A_add1_6 rfl (lv_at hl 0 rfl) ?_
  refine hm_call (ct_runV (n := 0) X hK hY (k_A_grow0_m15 l D A G w n nb a mo b f hn hne hb hnt hel) m_202 m_199 m_201 ms_A_grow0 m_4 (by decide +kernel) ⟨Nat.le_of_ble_eq_true rfl, Nat.le_of_ble_eq_true rfl⟩ ⟨rfl, rfl⟩ (hm_recv ⟨X, hK.1⟩ hY hn rfl) rfl hl.1 rfl (Nat.le_of_ble_eq_true rfl) d_A_add1_7 ⟨Nat.le_of_ble_eq_true rfl, Nat.le_of_ble_eq_true rfl⟩) hY (fun v w1 H locs hp hY => ?_)
  obtain ⟨q, rfl, rfl⟩ := hp
  refine W.eq (g2 := F0 m 10 ls [.ref q]) rfl ?_
  refine lv_astore_n (lv' := [(2, .ref q), (0, .ref a), (1, .ref ve), (3, .int 10)]) X.1 X.2.1 d_A_add1_10 rfl hl (by decide) rfl (fun ls hl => ?_)
  refine lv_aload_n X.1 X.2.1 d_A_add1_11 rfl (lv_at hl 0 rfl) ?_
  refine lv_iload_n X.1 X.2.1 d_A_add1_12 rfl (lv_at hl 3 rfl) ?_
  refine lv_aload_n X.1 X.2.1 d_A_add1_13 rfl (lv_at hl 2 rfl) ?_
  have hq := hm_up_s (hm_up w nb (q, .inl (G 4, 15, .inr (.inr (.inr (.inr (va_cpy f (fun _ => none) 0 0 10))))))) n (a, .inr (4, [.ref q, .int 10, .int mo]))
  have hq2 : hm_up (hm_up w nb (q, .inl (G 4, 15, .inr (.inr (.inr (.inr (va_cpy f (fun _ => none) 0 0 10))))))) n (a, .inr (4, [.ref q, .int 10, .int mo])) nb = _ := (hm_up_n _ _ (Ne.symm hne)).trans (hm_up_s _ _ _)
  have hq3 : hm_up (hm_up w nb (q, .inl (G 4, 15, .inr (.inr (.inr (.inr (va_cpy f (fun _ => none) 0 0 10))))))) n (a, .inr (4, [.ref q, .int 10, .int mo])) nm = _ := (hm_up_n _ _ hv1).trans ((hm_up_n _ _ hv2).trans hv)
  refine hm_aast ⟨X, hK.1⟩ hY hq2 3 rfl (C := R_P) (hm_recv ⟨X, hK.1⟩ hY hq3 rfl) (vb_asgC hK.2.1.2.2.2.2.1) (i := 10) (vp_in_nI (n := 10) (by decide) (by decide)) d_A_add1_14 (fun H locs hY => ?_)
  have hY : hm_Y D cls A s.heap (hm_up (hm_up w nb (q, .inl (G 4, 15, .inr (.inr (.inr (.inr (va_up (va_cpy f (fun _ => none) 0 0 10) 10 (some ve)))))))) n (a, .inr (4, [.ref q, .int 10, .int mo]))) H locs := by rw [hm_uc _ _ _ hne, hm_uu] at hY; exact hY
  refine lv_aload_n X.1 X.2.1 d_A_add1_15 rfl (lv_at hl 1 rfl) ?_
  refine lv_iload_n X.1 X.2.1 d_A_add1_16 rfl (lv_at hl 3 rfl) ?_
  refine lv_iconst (v := 1) X.1 X.2.1 d_A_add1_17 (by decide) ?_
  refine lv_iadd X.1 X.2.1 d_A_add1_18 ?_
  refine W.eq (g2 := F0 m 19 ls [.int 11, .ref a]) rfl ?_
  refine hm_put ⟨X, hK.1⟩ hY (hm_up_s _ _ _) 1 rfl (Nat.le_of_ble_eq_true rfl) (Nat.le_of_ble_eq_true rfl) hu_A ty_A ty_A_ok nm_A m_42 (fun _ h => h) rfl rfl rfl d_A_add1_19 (fun H locs hY => ?_)
  have hY : hm_Y D cls A s.heap (hm_up (hm_up w nb (q, .inl (G 4, 15, .inr (.inr (.inr (.inr (va_up (va_cpy f (fun _ => none) 0 0 10) 10 (some ve)))))))) n (a, .inr (4, [.ref q, .int 11, .int mo]))) H locs := by rw [hm_uu] at hY; exact hY
  exact en_vW X hY hr hlocks d_A_add1_22 (⟨q, rfl, rfl⟩)

set_option maxHeartbeats 4000000 in
set_option maxRecDepth 100000 in
theorem k_A_add_m15P (l : Launch) (D : va_G) (A : Nat → Prop) (G : Nat → Nat) (w : hm_T) (n nb : hm_N) (a : Nat) (mo : Int32) (b : Nat) (f : Nat → Option Nat) (hn : w n = some (a, .inr (4, [.ref b, .int 10, .int mo]))) (hne : n ≠ nb) (hb : w nb = some (b, .inl (G 4, 10, .inr (.inr (.inr (.inr f)))))) (hnt : w (99, 0, 0) = none) (hel : ∀ j y, f j = some y → ∃ (nm : hm_N) (fs : List Value), w nm = some (y, .inr (1, fs))) (ve : Nat) (nm : hm_N) (vs : List Value) (hv : w nm = some (ve, .inr (1, vs))) (hv1 : nm ≠ n) (hv2 : nm ≠ nb) : Met l y_A_add0 (.code y_A_add0 c_A_add0 2 (some .boolean) :: wsA) { frames := 7, cells := 1, slots := 15, locals := 150 } (va_Pc [.ref a, .ref ve] (ctU D A G w)) (hm_Q D cls A (fun v w1 => ∃ q, v = some (.int 1) ∧ w1 = hm_up (hm_up w nb (q, .inl (G 4, 15, .inr (.inr (.inr (.inr (va_up (va_cpy f (fun _ => none) 0 0 10) 10 (some ve)))))))) n (a, .inr (4, [.ref q, .int 11, .int (mo + 1)])))) 1 15 A := by
  refine ct_met (by decide) (Nat.le_of_ble_eq_true rfl) ?_
  rintro p e s m below meth c ls X hr hlocks hnm hl ⟨hB, hK⟩
  have hl : lv_has ls 2 [(0, .ref a), (1, .ref ve)] := hl
  have hY : hm_Y D cls A s.heap w s.heap [] := hm_Y.start hB hK.2.2.2
  refine lv_aload_n X.1 X.2.1 d_A_add0_0 rfl (lv_at hl 0 rfl) ?_
  refine lv_dup X.1 X.2.1 d_A_add0_1 rfl ?_
  refine hm_get ⟨X, hK.1⟩ hY hn 2 (v := .int mo) rfl rfl (Nat.le_of_ble_eq_true rfl) hu_A m_44 (fun x h => u_same (X.2.2.2.2 _ m_45) x h) d_A_add0_2 ?_
  refine lv_iconst (v := 1) X.1 X.2.1 d_A_add0_5 (by decide) ?_
  refine lv_iadd X.1 X.2.1 d_A_add0_6 ?_
  refine hm_put ⟨X, hK.1⟩ hY hn 2 rfl (Nat.le_of_ble_eq_true rfl) (Nat.le_of_ble_eq_true rfl) hu_A ty_A ty_A_ok nm_A m_44 (fun x h => u_same (X.2.2.2.2 _ m_45) x h) rfl rfl rfl d_A_add0_7 (fun H locs hY => ?_)
  have hY : hm_Y D cls A s.heap (hm_up w n (a, .inr (4, [.ref b, .int 10, .int (mo + 1)]))) H locs := by exact hY
  refine lv_aload_n X.1 X.2.1 d_A_add0_10 rfl (lv_at hl 0 rfl) ?_
  refine lv_aload_n X.1 X.2.1 d_A_add0_11 rfl (lv_at hl 1 rfl) ?_
  refine lv_aload_n X.1 X.2.1 d_A_add0_12 rfl (lv_at hl 0 rfl) ?_
  refine hm_get ⟨X, hK.1⟩ hY (hm_up_s _ _ _) 0 (v := .ref b) rfl rfl (Nat.le_of_ble_eq_true rfl) hu_A m_41 (fun _ h => h) d_A_add0_13 ?_
  refine lv_aload_n X.1 X.2.1 d_A_add0_16 rfl (lv_at hl 0 rfl) ?_
  refine hm_get ⟨X, hK.1⟩ hY (hm_up_s _ _ _) 1 (v := .int 10) rfl rfl (Nat.le_of_ble_eq_true rfl) hu_A m_42 (fun _ h => h) d_A_add0_17 ?_
  refine hm_call (ct_runV (n := 3) X hK hY (k_A_add1_m15P l D A G (hm_up w n (a, .inr (4, [.ref b, .int 10, .int (mo + 1)]))) n nb a (mo + 1) b f (hm_up_s _ _ _) hne ((hm_up_n _ _ (Ne.symm hne)).trans hb) ((hm_up_n _ _ (fun z => by rw [z] at hnt; rw [hn] at hnt; cases hnt)).trans hnt) (fun j y hy => by obtain ⟨nm, fs, h⟩ := hel j y hy; exact ⟨nm, fs, (hm_up_n _ _ (fun z => by rw [z, hn] at h; cases h)).trans h⟩) ve nm vs ((hm_up_n _ _ hv1).trans hv) hv1 hv2) m_198 m_195 m_197 ms_A_add1 m_4 (by decide +kernel) ⟨Nat.le_of_ble_eq_true rfl, Nat.le_of_ble_eq_true rfl⟩ ⟨rfl, rfl⟩ (hm_recv ⟨X, hK.1⟩ hY (hm_up_s _ _ _) rfl) rfl hl.1 rfl (Nat.le_of_ble_eq_true rfl) d_A_add0_20 ⟨Nat.le_of_ble_eq_true rfl, Nat.le_of_ble_eq_true rfl⟩) hY (fun v w1 H locs hp hY => ?_)
  obtain ⟨q, rfl, rfl⟩ := hp
  refine W.eq (g2 := F0 m 23 ls []) rfl ?_
  have hY : hm_Y D cls A s.heap (hm_up (hm_up w nb (q, .inl (G 4, 15, .inr (.inr (.inr (.inr (va_up (va_cpy f (fun _ => none) 0 0 10) 10 (some ve)))))))) n (a, .inr (4, [.ref q, .int 11, .int (mo + 1)]))) H locs := by rw [hm_uc _ _ _ hne, hm_uu] at hY; exact hY
  refine lv_iconst (v := 1) X.1 X.2.1 d_A_add0_23 (by decide) ?_
  exact en_zW X hY hr hlocks d_A_add0_24 rfl (⟨q, rfl, rfl⟩)

set_option maxHeartbeats 4000000 in
set_option maxRecDepth 100000 in
theorem k_A_add1_m22P (l : Launch) (D : va_G) (A : Nat → Prop) (G : Nat → Nat) (w : hm_T) (n nb : hm_N) (a : Nat) (mo : Int32) (b : Nat) (f : Nat → Option Nat) (hn : w n = some (a, .inr (4, [.ref b, .int 15, .int mo]))) (hne : n ≠ nb) (hb : w nb = some (b, .inl (G 4, 15, .inr (.inr (.inr (.inr f)))))) (hnt : w (99, 0, 0) = none) (hel : ∀ j y, f j = some y → ∃ (nm : hm_N) (fs : List Value), w nm = some (y, .inr (1, fs))) (ve : Nat) (nm : hm_N) (vs : List Value) (hv : w nm = some (ve, .inr (1, vs))) (hv1 : nm ≠ n) (hv2 : nm ≠ nb) : Met l y_A_add1 (.code y_A_add1 c_A_add1 4 (none : Option FieldType) :: wsA) { frames := 6, cells := 1, slots := 22, locals := 127 } (va_Pc [.ref a, .ref ve, .ref b, .int 15] (ctU D A G w)) (hm_Q D cls A (fun v w1 => ∃ q, v = none ∧ w1 = hm_up (hm_up w nb (q, .inl (G 4, 22, .inr (.inr (.inr (.inr (va_up (va_cpy f (fun _ => none) 0 0 15) 15 (some ve)))))))) n (a, .inr (4, [.ref q, .int 16, .int mo])))) 1 22 A := by
  refine ct_met (by decide) (Nat.le_of_ble_eq_true rfl) ?_
  rintro p e s m below meth c ls X hr hlocks hnm hl ⟨hB, hK⟩
  have hl : lv_has ls 4 [(0, .ref a), (1, .ref ve), (2, .ref b), (3, .int 15)] := hl
  have hY : hm_Y D cls A s.heap w s.heap [] := hm_Y.start hB hK.2.2.2
  refine lv_iload_n X.1 X.2.1 d_A_add1_0 rfl (lv_at hl 3 rfl) ?_
  refine lv_aload_n X.1 X.2.1 d_A_add1_1 rfl (lv_at hl 2 rfl) ?_
  refine hm_alen ⟨X, hK.1⟩ hY hb 3 rfl (v := 15) rfl d_A_add1_2 ?_
  refine lv_icmp_ne (tgt := 11) X.1 X.2.1 d_A_add1_3 (by decide) (fun c9 => absurd rfl c9) (fun _ => ?_)
  refine lv_aload_n X.1 X.2.1 d_A_add1_6 rfl (lv_at hl 0 rfl) ?_
  refine hm_call (ct_runV (n := 0) X hK hY (k_A_grow0_m22 l D A G w n nb a mo b f hn hne hb hnt hel) m_202 m_199 m_201 ms_A_grow0 m_4 (by decide +kernel) ⟨Nat.le_of_ble_eq_true rfl, Nat.le_of_ble_eq_true rfl⟩ ⟨rfl, rfl⟩ (hm_recv ⟨X, hK.1⟩ hY hn rfl) rfl hl.1 rfl (Nat.le_of_ble_eq_true rfl) d_A_add1_7 ⟨Nat.le_of_ble_eq_true rfl, Nat.le_of_ble_eq_true rfl⟩) hY (fun v w1 H locs hp hY => ?_)
  obtain ⟨q, rfl, rfl⟩ := hp
  refine W.eq (g2 := F0 m 10 ls [.ref q]) rfl ?_
  refine lv_astore_n (lv' := [(2, .ref q), (0, .ref a), (1, .ref ve), (3, .int 15)]) X.1 X.2.1 d_A_add1_10 rfl hl (by decide) rfl (fun ls hl => ?_)
  refine lv_aload_n X.1 X.2.1 d_A_add1_11 rfl (lv_at hl 0 rfl) ?_
  refine lv_iload_n X.1 X.2.1 d_A_add1_12 rfl (lv_at hl 3 rfl) ?_
  refine lv_aload_n X.1 X.2.1 d_A_add1_13 rfl (lv_at hl 2 rfl) ?_
  have hq := hm_up_s (hm_up w nb (q, .inl (G 4, 22, .inr (.inr (.inr (.inr (va_cpy f (fun _ => none) 0 0 15))))))) n (a, .inr (4, [.ref q, .int 15, .int mo]))
  have hq2 : hm_up (hm_up w nb (q, .inl (G 4, 22, .inr (.inr (.inr (.inr (va_cpy f (fun _ => none) 0 0 15))))))) n (a, .inr (4, [.ref q, .int 15, .int mo])) nb = _ := (hm_up_n _ _ (Ne.symm hne)).trans (hm_up_s _ _ _)
  have hq3 : hm_up (hm_up w nb (q, .inl (G 4, 22, .inr (.inr (.inr (.inr (va_cpy f (fun _ => none) 0 0 15))))))) n (a, .inr (4, [.ref q, .int 15, .int mo])) nm = _ := (hm_up_n _ _ hv1).trans ((hm_up_n _ _ hv2).trans hv)
  refine hm_aast ⟨X, hK.1⟩ hY hq2 3 rfl (C := R_P) (hm_recv ⟨X, hK.1⟩ hY hq3 rfl) (vb_asgC hK.2.1.2.2.2.2.1) (i := 15) (vp_in_nI (n := 15) (by decide) (by decide)) d_A_add1_14 (fun H locs hY => ?_)
  have hY : hm_Y D cls A s.heap (hm_up (hm_up w nb (q, .inl (G 4, 22, .inr (.inr (.inr (.inr (va_up (va_cpy f (fun _ => none) 0 0 15) 15 (some ve)))))))) n (a, .inr (4, [.ref q, .int 15, .int mo]))) H locs := by rw [hm_uc _ _ _ hne, hm_uu] at hY; exact hY
  refine lv_aload_n X.1 X.2.1 d_A_add1_15 rfl (lv_at hl 1 rfl) ?_
  refine lv_iload_n X.1 X.2.1 d_A_add1_16 rfl (lv_at hl 3 rfl) ?_
  refine lv_iconst (v := 1) X.1 X.2.1 d_A_add1_17 (by decide) ?_
  refine lv_iadd X.1 X.2.1 d_A_add1_18 ?_
  refine W.eq (g2 := F0 m 19 ls [.int 16, .ref a]) rfl ?_
  refine hm_put ⟨X, hK.1⟩ hY (hm_up_s _ _ _) 1 rfl (Nat.le_of_ble_eq_true rfl) (Nat.le_of_ble_eq_true rfl) hu_A ty_A ty_A_ok nm_A m_42 (fun _ h => h) rfl rfl rfl d_A_add1_19 (fun H locs hY => ?_)
  have hY : hm_Y D cls A s.heap (hm_up (hm_up w nb (q, .inl (G 4, 22, .inr (.inr (.inr (.inr (va_up (va_cpy f (fun _ => none) 0 0 15) 15 (some ve)))))))) n (a, .inr (4, [.ref q, .int 16, .int mo]))) H locs := by rw [hm_uu] at hY; exact hY
  exact en_vW X hY hr hlocks d_A_add1_22 (⟨q, rfl, rfl⟩)

set_option maxHeartbeats 4000000 in
set_option maxRecDepth 100000 in
theorem k_A_add_m22P (l : Launch) (D : va_G) (A : Nat → Prop) (G : Nat → Nat) (w : hm_T) (n nb : hm_N) (a : Nat) (mo : Int32) (b : Nat) (f : Nat → Option Nat) (hn : w n = some (a, .inr (4, [.ref b, .int 15, .int mo]))) (hne : n ≠ nb) (hb : w nb = some (b, .inl (G 4, 15, .inr (.inr (.inr (.inr f)))))) (hnt : w (99, 0, 0) = none) (hel : ∀ j y, f j = some y → ∃ (nm : hm_N) (fs : List Value), w nm = some (y, .inr (1, fs))) (ve : Nat) (nm : hm_N) (vs : List Value) (hv : w nm = some (ve, .inr (1, vs))) (hv1 : nm ≠ n) (hv2 : nm ≠ nb) : Met l y_A_add0 (.code y_A_add0 c_A_add0 2 (some .boolean) :: wsA) { frames := 7, cells := 1, slots := 22, locals := 150 } (va_Pc [.ref a, .ref ve] (ctU D A G w)) (hm_Q D cls A (fun v w1 => ∃ q, v = some (.int 1) ∧ w1 = hm_up (hm_up w nb (q, .inl (G 4, 22, .inr (.inr (.inr (.inr (va_up (va_cpy f (fun _ => none) 0 0 15) 15 (some ve)))))))) n (a, .inr (4, [.ref q, .int 16, .int (mo + 1)])))) 1 22 A := by
  refine ct_met (by decide) (Nat.le_of_ble_eq_true rfl) ?_
  rintro p e s m below meth c ls X hr hlocks hnm hl ⟨hB, hK⟩
  have hl : lv_has ls 2 [(0, .ref a), (1, .ref ve)] := hl
  have hY : hm_Y D cls A s.heap w s.heap [] := hm_Y.start hB hK.2.2.2
  refine lv_aload_n X.1 X.2.1 d_A_add0_0 rfl (lv_at hl 0 rfl) ?_
  refine lv_dup X.1 X.2.1 d_A_add0_1 rfl ?_
  refine hm_get ⟨X, hK.1⟩ hY hn 2 (v := .int mo) rfl rfl (Nat.le_of_ble_eq_true rfl) hu_A m_44 (fun x h => u_same (X.2.2.2.2 _ m_45) x h) d_A_add0_2 ?_
  refine lv_iconst (v := 1) X.1 X.2.1 d_A_add0_5 (by decide) ?_
  refine lv_iadd X.1 X.2.1 d_A_add0_6 ?_
  refine hm_put ⟨X, hK.1⟩ hY hn 2 rfl (Nat.le_of_ble_eq_true rfl) (Nat.le_of_ble_eq_true rfl) hu_A ty_A ty_A_ok nm_A m_44 (fun x h => u_same (X.2.2.2.2 _ m_45) x h) rfl rfl rfl d_A_add0_7 (fun H locs hY => ?_)
  have hY : hm_Y D cls A s.heap (hm_up w n (a, .inr (4, [.ref b, .int 15, .int (mo + 1)]))) H locs := by exact hY
  refine lv_aload_n X.1 X.2.1 d_A_add0_10 rfl (lv_at hl 0 rfl) ?_
  refine lv_aload_n X.1 X.2.1 d_A_add0_11 rfl (lv_at hl 1 rfl) ?_
  refine lv_aload_n X.1 X.2.1 d_A_add0_12 rfl (lv_at hl 0 rfl) ?_
  refine hm_get ⟨X, hK.1⟩ hY (hm_up_s _ _ _) 0 (v := .ref b) rfl rfl (Nat.le_of_ble_eq_true rfl) hu_A m_41 (fun _ h => h) d_A_add0_13 ?_
  refine lv_aload_n X.1 X.2.1 d_A_add0_16 rfl (lv_at hl 0 rfl) ?_
  refine hm_get ⟨X, hK.1⟩ hY (hm_up_s _ _ _) 1 (v := .int 15) rfl rfl (Nat.le_of_ble_eq_true rfl) hu_A m_42 (fun _ h => h) d_A_add0_17 ?_
  refine hm_call (ct_runV (n := 3) X hK hY (k_A_add1_m22P l D A G (hm_up w n (a, .inr (4, [.ref b, .int 15, .int (mo + 1)]))) n nb a (mo + 1) b f (hm_up_s _ _ _) hne ((hm_up_n _ _ (Ne.symm hne)).trans hb) ((hm_up_n _ _ (fun z => by rw [z] at hnt; rw [hn] at hnt; cases hnt)).trans hnt) (fun j y hy => by obtain ⟨nm, fs, h⟩ := hel j y hy; exact ⟨nm, fs, (hm_up_n _ _ (fun z => by rw [z, hn] at h; cases h)).trans h⟩) ve nm vs ((hm_up_n _ _ hv1).trans hv) hv1 hv2) m_198 m_195 m_197 ms_A_add1 m_4 (by decide +kernel) ⟨Nat.le_of_ble_eq_true rfl, Nat.le_of_ble_eq_true rfl⟩ ⟨rfl, rfl⟩ (hm_recv ⟨X, hK.1⟩ hY (hm_up_s _ _ _) rfl) rfl hl.1 rfl (Nat.le_of_ble_eq_true rfl) d_A_add0_20 ⟨Nat.le_of_ble_eq_true rfl, Nat.le_of_ble_eq_true rfl⟩) hY (fun v w1 H locs hp hY => ?_)
  obtain ⟨q, rfl, rfl⟩ := hp
  refine W.eq (g2 := F0 m 23 ls []) rfl ?_
  have hY : hm_Y D cls A s.heap (hm_up (hm_up w nb (q, .inl (G 4, 22, .inr (.inr (.inr (.inr (va_up (va_cpy f (fun _ => none) 0 0 15) 15 (some ve)))))))) n (a, .inr (4, [.ref q, .int 16, .int (mo + 1)]))) H locs := by rw [hm_uc _ _ _ hne, hm_uu] at hY; exact hY
  refine lv_iconst (v := 1) X.1 X.2.1 d_A_add0_23 (by decide) ?_
  exact en_zW X hY hr hlocks d_A_add0_24 rfl (⟨q, rfl, rfl⟩)

set_option maxHeartbeats 4000000 in
set_option maxRecDepth 100000 in
theorem k_A_add1_rD (l : Launch) (D : va_G) (A : Nat → Prop) (G : Nat → Nat) (w : hm_T) (n nb : hm_N) (a : Nat) (mo : Int32) (b N cn : Nat) (f : Nat → Option Nat) (hn : w n = some (a, .inr (4, [.ref b, .int (nI cn), .int mo]))) (hne : n ≠ nb) (hb : w nb = some (b, .inl (G 4, N, .inr (.inr (.inr (.inr f)))))) (hc : cn < N) (hN : N < 2 ^ 31) (ve : Nat) (nm : hm_N) (vs : List Value) (hv : w nm = some (ve, .inr (2, vs))) (hv1 : nm ≠ n) (hv2 : nm ≠ nb) : Met l y_A_add1 (.code y_A_add1 c_A_add1 4 (none : Option FieldType) :: wsA) { frames := 0, cells := 0, slots := 0, locals := 0 } (va_Pc [.ref a, .ref ve, .ref b, .int (nI cn)] (ctU D A G w)) (hm_Q D cls A (fun v w1 => v = none ∧ w1 = hm_up (hm_up w nb (b, .inl (G 4, N, .inr (.inr (.inr (.inr (va_up f cn (some ve)))))))) n (a, .inr (4, [.ref b, .int (nI (cn + 1)), .int mo])))) 0 0 A := by
  refine ct_met (by decide) (Nat.le_of_ble_eq_true rfl) ?_
  rintro p e s m below meth c ls X hr hlocks hnm hl ⟨hB, hK⟩
  have hl : lv_has ls 4 [(0, .ref a), (1, .ref ve), (2, .ref b), (3, .int (nI cn))] := hl
  have hY : hm_Y D cls A s.heap w s.heap [] := hm_Y.start hB hK.2.2.2
  refine lv_iload_n X.1 X.2.1 d_A_add1_0 rfl (lv_at hl 3 rfl) ?_
  refine lv_aload_n X.1 X.2.1 d_A_add1_1 rfl (lv_at hl 2 rfl) ?_
  refine hm_alen ⟨X, hK.1⟩ hY hb 3 rfl (v := nI N) rfl d_A_add1_2 ?_
  refine lv_icmp_ne (tgt := 11) X.1 X.2.1 d_A_add1_3 (by decide) (fun _ => ?_) (fun c9 => absurd ((nI_eq (by omega) hN).mp c9) (by omega))
  refine lv_aload_n X.1 X.2.1 d_A_add1_11 rfl (lv_at hl 2 rfl) ?_
  refine lv_iload_n X.1 X.2.1 d_A_add1_12 rfl (lv_at hl 3 rfl) ?_
  refine lv_aload_n X.1 X.2.1 d_A_add1_13 rfl (lv_at hl 1 rfl) ?_
  refine hm_aast ⟨X, hK.1⟩ hY hb 3 rfl (C := R_D) (hm_recv ⟨X, hK.1⟩ hY hv rfl) (vb_asgC hK.2.1.2.2.2.2.2.1) (vp_in_nI hc hN) d_A_add1_14 (fun H locs hY => ?_)
  rw [nI_clamp (by omega)] at hY
  refine lv_aload_n X.1 X.2.1 d_A_add1_15 rfl (lv_at hl 0 rfl) ?_
  refine lv_iload_n X.1 X.2.1 d_A_add1_16 rfl (lv_at hl 3 rfl) ?_
  refine lv_iconst (v := 1) X.1 X.2.1 d_A_add1_17 (by decide) ?_
  refine lv_iadd X.1 X.2.1 d_A_add1_18 ?_
  rw [nI_1]
  refine hm_put ⟨X, hK.1⟩ hY ((hm_up_n _ _ hne).trans hn) 1 rfl (Nat.le_of_ble_eq_true rfl) (Nat.le_of_ble_eq_true rfl) hu_A ty_A ty_A_ok nm_A m_42 (fun _ h => h) rfl rfl rfl d_A_add1_19 (fun H locs hY => ?_)
  exact en_vW X hY hr hlocks d_A_add1_22 (⟨rfl, rfl⟩)

set_option maxHeartbeats 4000000 in
set_option maxRecDepth 100000 in
theorem k_A_add_rD (l : Launch) (D : va_G) (A : Nat → Prop) (G : Nat → Nat) (w : hm_T) (n nb : hm_N) (a : Nat) (mo : Int32) (b N cn : Nat) (f : Nat → Option Nat) (hn : w n = some (a, .inr (4, [.ref b, .int (nI cn), .int mo]))) (hne : n ≠ nb) (hb : w nb = some (b, .inl (G 4, N, .inr (.inr (.inr (.inr f)))))) (hc : cn < N) (hN : N < 2 ^ 31) (ve : Nat) (nm : hm_N) (vs : List Value) (hv : w nm = some (ve, .inr (2, vs))) (hv1 : nm ≠ n) (hv2 : nm ≠ nb) : Met l y_A_add0 (.code y_A_add0 c_A_add0 2 (some .boolean) :: wsA) { frames := 1, cells := 0, slots := 0, locals := 23 } (va_Pc [.ref a, .ref ve] (ctU D A G w)) (hm_Q D cls A (fun v w1 => v = some (.int 1) ∧ w1 = hm_up (hm_up w nb (b, .inl (G 4, N, .inr (.inr (.inr (.inr (va_up f cn (some ve)))))))) n (a, .inr (4, [.ref b, .int (nI (cn + 1)), .int (mo + 1)])))) 0 0 A := by
  refine ct_met (by decide) (Nat.le_of_ble_eq_true rfl) ?_
  rintro p e s m below meth c ls X hr hlocks hnm hl ⟨hB, hK⟩
  have hl : lv_has ls 2 [(0, .ref a), (1, .ref ve)] := hl
  have hY : hm_Y D cls A s.heap w s.heap [] := hm_Y.start hB hK.2.2.2
  refine lv_aload_n X.1 X.2.1 d_A_add0_0 rfl (lv_at hl 0 rfl) ?_
  refine lv_dup X.1 X.2.1 d_A_add0_1 rfl ?_
  refine hm_get ⟨X, hK.1⟩ hY hn 2 (v := .int mo) rfl rfl (Nat.le_of_ble_eq_true rfl) hu_A m_44 (fun x h => u_same (X.2.2.2.2 _ m_45) x h) d_A_add0_2 ?_
  refine lv_iconst (v := 1) X.1 X.2.1 d_A_add0_5 (by decide) ?_
  refine lv_iadd X.1 X.2.1 d_A_add0_6 ?_
  refine hm_put ⟨X, hK.1⟩ hY hn 2 rfl (Nat.le_of_ble_eq_true rfl) (Nat.le_of_ble_eq_true rfl) hu_A ty_A ty_A_ok nm_A m_44 (fun x h => u_same (X.2.2.2.2 _ m_45) x h) rfl rfl rfl d_A_add0_7 (fun H locs hY => ?_)
  have hY : hm_Y D cls A s.heap (hm_up w n (a, .inr (4, [.ref b, .int (nI cn), .int (mo + 1)]))) H locs := by exact hY
  refine lv_aload_n X.1 X.2.1 d_A_add0_10 rfl (lv_at hl 0 rfl) ?_
  refine lv_aload_n X.1 X.2.1 d_A_add0_11 rfl (lv_at hl 1 rfl) ?_
  refine lv_aload_n X.1 X.2.1 d_A_add0_12 rfl (lv_at hl 0 rfl) ?_
  refine hm_get ⟨X, hK.1⟩ hY (hm_up_s _ _ _) 0 (v := .ref b) rfl rfl (Nat.le_of_ble_eq_true rfl) hu_A m_41 (fun _ h => h) d_A_add0_13 ?_
  refine lv_aload_n X.1 X.2.1 d_A_add0_16 rfl (lv_at hl 0 rfl) ?_
  refine hm_get ⟨X, hK.1⟩ hY (hm_up_s _ _ _) 1 (v := .int (nI cn)) rfl rfl (Nat.le_of_ble_eq_true rfl) hu_A m_42 (fun _ h => h) d_A_add0_17 ?_
  refine hm_call (ct_runV (n := 3) X hK hY (k_A_add1_rD l D A G (hm_up w n (a, .inr (4, [.ref b, .int (nI cn), .int (mo + 1)]))) n nb a (mo + 1) b N cn f (hm_up_s _ _ _) hne ((hm_up_n _ _ (Ne.symm hne)).trans hb) hc hN ve nm vs ((hm_up_n _ _ hv1).trans hv) hv1 hv2) m_198 m_195 m_197 ms_A_add1 m_4 (by decide +kernel) ⟨Nat.le_of_ble_eq_true rfl, Nat.le_of_ble_eq_true rfl⟩ ⟨rfl, rfl⟩ (hm_recv ⟨X, hK.1⟩ hY (hm_up_s _ _ _) rfl) rfl hl.1 rfl (Nat.le_of_ble_eq_true rfl) d_A_add0_20 ⟨Nat.le_of_ble_eq_true rfl, Nat.le_of_ble_eq_true rfl⟩) hY (fun v w1 H locs hp hY => ?_)
  obtain ⟨rfl, rfl⟩ := hp
  refine W.eq (g2 := F0 m 23 ls []) rfl ?_
  have hY : hm_Y D cls A s.heap (hm_up (hm_up w nb (b, .inl (G 4, N, .inr (.inr (.inr (.inr (va_up f cn (some ve)))))))) n (a, .inr (4, [.ref b, .int (nI (cn + 1)), .int (mo + 1)]))) H locs := by rw [hm_uc _ _ _ hne, hm_uu] at hY; exact hY
  refine lv_iconst (v := 1) X.1 X.2.1 d_A_add0_23 (by decide) ?_
  exact en_zW X hY hr hlocks d_A_add0_24 rfl (⟨rfl, rfl⟩)

set_option maxHeartbeats 4000000 in
set_option maxRecDepth 100000 in
theorem k_A_add1_fD (l : Launch) (D : va_G) (A : Nat → Prop) (G : Nat → Nat) (w : hm_T) (n nb : hm_N) (a : Nat) (mo : Int32) (hn : w n = some (a, .inr (4, [.ref (G 0), .int 0, .int mo]))) (hne : n ≠ nb) (ve : Nat) (nm : hm_N) (vs : List Value) (hv : w nm = some (ve, .inr (2, vs))) (hv1 : nm ≠ n) (hv2 : nm ≠ nb) : Met l y_A_add1 (.code y_A_add1 c_A_add1 4 (none : Option FieldType) :: wsA) { frames := 6, cells := 1, slots := 10, locals := 127 } (va_Pc [.ref a, .ref ve, .ref (G 0), .int 0] (ctU D A G w)) (hm_Q D cls A (fun v w1 => ∃ q, v = none ∧ w1 = hm_up (hm_up w nb (q, .inl (G 4, 10, .inr (.inr (.inr (.inr (va_up (fun _ => none) 0 (some ve)))))))) n (a, .inr (4, [.ref q, .int 1, .int mo])))) 1 10 A := by
  refine ct_met (by decide) (Nat.le_of_ble_eq_true rfl) ?_
  rintro p e s m below meth c ls X hr hlocks hnm hl ⟨hB, hK⟩
  have hl : lv_has ls 4 [(0, .ref a), (1, .ref ve), (2, .ref (G 0)), (3, .int 0)] := hl
  have hY : hm_Y D cls A s.heap w s.heap [] := hm_Y.start hB hK.2.2.2
  refine lv_iload_n X.1 X.2.1 d_A_add1_0 rfl (lv_at hl 3 rfl) ?_
  refine lv_aload_n X.1 X.2.1 d_A_add1_1 rfl (lv_at hl 2 rfl) ?_
  refine va_tlen X.1 X.2.1 hK.2.2.1.2 hY.2.2.1 (v := 0) rfl d_A_add1_2 ?_
  refine lv_icmp_ne (tgt := 11) X.1 X.2.1 d_A_add1_3 (by decide) (fun c9 => absurd rfl c9) (fun _ => ?_)
  refine lv_aload_n X.1 X.2.1 d_A_add1_6 rfl (lv_at hl 0 rfl) ?_
  refine hm_call (ct_runV (n := 0) X hK hY (k_A_grow0_f l D A G w n nb a mo hn hne) m_202 m_199 m_201 ms_A_grow0 m_4 (by decide +kernel) ⟨Nat.le_of_ble_eq_true rfl, Nat.le_of_ble_eq_true rfl⟩ ⟨rfl, rfl⟩ (hm_recv ⟨X, hK.1⟩ hY hn rfl) rfl hl.1 rfl (Nat.le_of_ble_eq_true rfl) d_A_add1_7 ⟨Nat.le_of_ble_eq_true rfl, Nat.le_of_ble_eq_true rfl⟩) hY (fun v w1 H locs hp hY => ?_)
  obtain ⟨q, rfl, rfl⟩ := hp
  refine W.eq (g2 := F0 m 10 ls [.ref q]) rfl ?_
  refine lv_astore_n (lv' := [(2, .ref q), (0, .ref a), (1, .ref ve), (3, .int 0)]) X.1 X.2.1 d_A_add1_10 rfl hl (by decide) rfl (fun ls hl => ?_)
  refine lv_aload_n X.1 X.2.1 d_A_add1_11 rfl (lv_at hl 0 rfl) ?_
  refine lv_iload_n X.1 X.2.1 d_A_add1_12 rfl (lv_at hl 3 rfl) ?_
  refine lv_aload_n X.1 X.2.1 d_A_add1_13 rfl (lv_at hl 2 rfl) ?_
  have hq := hm_up_s (hm_up w nb (q, .inl (G 4, 10, .inr (.inr (.inr (.inr (fun _ => none))))))) n (a, .inr (4, [.ref q, .int 0, .int mo]))
  have hq2 : hm_up (hm_up w nb (q, .inl (G 4, 10, .inr (.inr (.inr (.inr (fun _ => none))))))) n (a, .inr (4, [.ref q, .int 0, .int mo])) nb = _ := (hm_up_n _ _ (Ne.symm hne)).trans (hm_up_s _ _ _)
  have hq3 : hm_up (hm_up w nb (q, .inl (G 4, 10, .inr (.inr (.inr (.inr (fun _ => none))))))) n (a, .inr (4, [.ref q, .int 0, .int mo])) nm = _ := (hm_up_n _ _ hv1).trans ((hm_up_n _ _ hv2).trans hv)
  refine hm_aast ⟨X, hK.1⟩ hY hq2 3 rfl (C := R_D) (hm_recv ⟨X, hK.1⟩ hY hq3 rfl) (vb_asgC hK.2.1.2.2.2.2.2.1) (i := 0) (vp_in_nI (n := 0) (by decide) (by decide)) d_A_add1_14 (fun H locs hY => ?_)
  have hY : hm_Y D cls A s.heap (hm_up (hm_up w nb (q, .inl (G 4, 10, .inr (.inr (.inr (.inr (va_up (fun _ => none) 0 (some ve)))))))) n (a, .inr (4, [.ref q, .int 0, .int mo]))) H locs := by rw [hm_uc _ _ _ hne, hm_uu] at hY; exact hY
  refine lv_aload_n X.1 X.2.1 d_A_add1_15 rfl (lv_at hl 1 rfl) ?_
  refine lv_iload_n X.1 X.2.1 d_A_add1_16 rfl (lv_at hl 3 rfl) ?_
  refine lv_iconst (v := 1) X.1 X.2.1 d_A_add1_17 (by decide) ?_
  refine lv_iadd X.1 X.2.1 d_A_add1_18 ?_
  refine W.eq (g2 := F0 m 19 ls [.int 1, .ref a]) rfl ?_
  refine hm_put ⟨X, hK.1⟩ hY (hm_up_s _ _ _) 1 rfl (Nat.le_of_ble_eq_true rfl) (Nat.le_of_ble_eq_true rfl) hu_A ty_A ty_A_ok nm_A m_42 (fun _ h => h) rfl rfl rfl d_A_add1_19 (fun H locs hY => ?_)
  have hY : hm_Y D cls A s.heap (hm_up (hm_up w nb (q, .inl (G 4, 10, .inr (.inr (.inr (.inr (va_up (fun _ => none) 0 (some ve)))))))) n (a, .inr (4, [.ref q, .int 1, .int mo]))) H locs := by rw [hm_uu] at hY; exact hY
  exact en_vW X hY hr hlocks d_A_add1_22 (⟨q, rfl, rfl⟩)

set_option maxHeartbeats 4000000 in
set_option maxRecDepth 100000 in
theorem k_A_add_fD (l : Launch) (D : va_G) (A : Nat → Prop) (G : Nat → Nat) (w : hm_T) (n nb : hm_N) (a : Nat) (mo : Int32) (hn : w n = some (a, .inr (4, [.ref (G 0), .int 0, .int mo]))) (hne : n ≠ nb) (ve : Nat) (nm : hm_N) (vs : List Value) (hv : w nm = some (ve, .inr (2, vs))) (hv1 : nm ≠ n) (hv2 : nm ≠ nb) : Met l y_A_add0 (.code y_A_add0 c_A_add0 2 (some .boolean) :: wsA) { frames := 7, cells := 1, slots := 10, locals := 150 } (va_Pc [.ref a, .ref ve] (ctU D A G w)) (hm_Q D cls A (fun v w1 => ∃ q, v = some (.int 1) ∧ w1 = hm_up (hm_up w nb (q, .inl (G 4, 10, .inr (.inr (.inr (.inr (va_up (fun _ => none) 0 (some ve)))))))) n (a, .inr (4, [.ref q, .int 1, .int (mo + 1)])))) 1 10 A := by
  refine ct_met (by decide) (Nat.le_of_ble_eq_true rfl) ?_
  rintro p e s m below meth c ls X hr hlocks hnm hl ⟨hB, hK⟩
  have hl : lv_has ls 2 [(0, .ref a), (1, .ref ve)] := hl
  have hY : hm_Y D cls A s.heap w s.heap [] := hm_Y.start hB hK.2.2.2
  refine lv_aload_n X.1 X.2.1 d_A_add0_0 rfl (lv_at hl 0 rfl) ?_
  refine lv_dup X.1 X.2.1 d_A_add0_1 rfl ?_
  refine hm_get ⟨X, hK.1⟩ hY hn 2 (v := .int mo) rfl rfl (Nat.le_of_ble_eq_true rfl) hu_A m_44 (fun x h => u_same (X.2.2.2.2 _ m_45) x h) d_A_add0_2 ?_
  refine lv_iconst (v := 1) X.1 X.2.1 d_A_add0_5 (by decide) ?_
  refine lv_iadd X.1 X.2.1 d_A_add0_6 ?_
  refine hm_put ⟨X, hK.1⟩ hY hn 2 rfl (Nat.le_of_ble_eq_true rfl) (Nat.le_of_ble_eq_true rfl) hu_A ty_A ty_A_ok nm_A m_44 (fun x h => u_same (X.2.2.2.2 _ m_45) x h) rfl rfl rfl d_A_add0_7 (fun H locs hY => ?_)
  have hY : hm_Y D cls A s.heap (hm_up w n (a, .inr (4, [.ref (G 0), .int 0, .int (mo + 1)]))) H locs := by exact hY
  refine lv_aload_n X.1 X.2.1 d_A_add0_10 rfl (lv_at hl 0 rfl) ?_
  refine lv_aload_n X.1 X.2.1 d_A_add0_11 rfl (lv_at hl 1 rfl) ?_
  refine lv_aload_n X.1 X.2.1 d_A_add0_12 rfl (lv_at hl 0 rfl) ?_
  refine hm_get ⟨X, hK.1⟩ hY (hm_up_s _ _ _) 0 (v := .ref (G 0)) rfl rfl (Nat.le_of_ble_eq_true rfl) hu_A m_41 (fun _ h => h) d_A_add0_13 ?_
  refine lv_aload_n X.1 X.2.1 d_A_add0_16 rfl (lv_at hl 0 rfl) ?_
  refine hm_get ⟨X, hK.1⟩ hY (hm_up_s _ _ _) 1 (v := .int 0) rfl rfl (Nat.le_of_ble_eq_true rfl) hu_A m_42 (fun _ h => h) d_A_add0_17 ?_
  refine hm_call (ct_runV (n := 3) X hK hY (k_A_add1_fD l D A G (hm_up w n (a, .inr (4, [.ref (G 0), .int 0, .int (mo + 1)]))) n nb a (mo + 1) (hm_up_s _ _ _) hne ve nm vs ((hm_up_n _ _ hv1).trans hv) hv1 hv2) m_198 m_195 m_197 ms_A_add1 m_4 (by decide +kernel) ⟨Nat.le_of_ble_eq_true rfl, Nat.le_of_ble_eq_true rfl⟩ ⟨rfl, rfl⟩ (hm_recv ⟨X, hK.1⟩ hY (hm_up_s _ _ _) rfl) rfl hl.1 rfl (Nat.le_of_ble_eq_true rfl) d_A_add0_20 ⟨Nat.le_of_ble_eq_true rfl, Nat.le_of_ble_eq_true rfl⟩) hY (fun v w1 H locs hp hY => ?_)
  obtain ⟨q, rfl, rfl⟩ := hp
  refine W.eq (g2 := F0 m 23 ls []) rfl ?_
  have hY : hm_Y D cls A s.heap (hm_up (hm_up w nb (q, .inl (G 4, 10, .inr (.inr (.inr (.inr (va_up (fun _ => none) 0 (some ve)))))))) n (a, .inr (4, [.ref q, .int 1, .int (mo + 1)]))) H locs := by rw [hm_uc _ _ _ hne, hm_uu] at hY; exact hY
  refine lv_iconst (v := 1) X.1 X.2.1 d_A_add0_23 (by decide) ?_
  exact en_zW X hY hr hlocks d_A_add0_24 rfl (⟨q, rfl, rfl⟩)
