set_option maxHeartbeats 4000000 in
set_option maxRecDepth 100000 in
theorem k_Q_init (l : Launch) (D : va_G) (A : Nat → Prop) (G : Nat → Nat) (w : hm_T) (n : hm_N) (a : Nat) (f0 f1 f2 f3 : Value) (hn : w n = some (a, .inr (3, [f0, f1, f2, f3]))) : Met l y_Q_init (.code y_Q_init c_Q_init 1 (none : Option FieldType) :: wsA) { frames := 1, cells := 0, slots := 0, locals := 20 } (va_Pc [.ref a] (ctU D A G w)) (hm_Q D cls A (fun v w1 => v = none ∧ w1 = hm_up w n (a, .inr (3, [.int 0, .int 0, .int 0, .long 0])))) 0 0 A := by
  refine ct_met (by decide) (Nat.le_of_ble_eq_true rfl) ?_
  rintro p e s m below meth c ls X hr hlocks hnm hl ⟨hB, hK⟩
  have hl : lv_has ls 1 [(0, .ref a)] := hl
  have hY : hm_Y D cls A s.heap w s.heap [] := hm_Y.start hB hK.2.2.2
  refine lv_aload_n X.1 X.2.1 d_Q_init_0 rfl (lv_at hl 0 rfl) ?_
  refine W.objInit X.1 X.2.1 X.2.2.2.1 (X.2.2.2.2 _ m_58) (X.2.2.2.2 _ m_25) (X.2.2.2.2 _ m_26) rfl (hl.1.trans X.2.2.1.symm) rfl d_Q_init_1 (Nat.le_of_ble_eq_true rfl) (Nat.le_of_ble_eq_true rfl) ?_
  refine W.eq (g2 := F0 m 4 ls []) rfl ?_
  refine lv_aload_n X.1 X.2.1 d_Q_init_4 rfl (lv_at hl 0 rfl) ?_
  refine lv_iconst (v := 0) X.1 X.2.1 d_Q_init_5 (by decide) ?_
  refine hm_put ⟨X, hK.1⟩ hY hn 0 rfl (Nat.le_of_ble_eq_true rfl) (Nat.le_of_ble_eq_true rfl) hu_Q ty_Q ty_Q_ok nm_Q m_59 (fun _ h => h) rfl rfl rfl d_Q_init_6 (fun H locs hY => ?_)
  have hY : hm_Y D cls A s.heap (hm_up w n (a, .inr (3, [.int 0, f1, f2, f3]))) H locs := by exact hY
  refine lv_aload_n X.1 X.2.1 d_Q_init_9 rfl (lv_at hl 0 rfl) ?_
  refine lv_iconst (v := 0) X.1 X.2.1 d_Q_init_10 (by decide) ?_
  refine hm_put ⟨X, hK.1⟩ hY (hm_up_s _ _ _) 1 rfl (Nat.le_of_ble_eq_true rfl) (Nat.le_of_ble_eq_true rfl) hu_Q ty_Q ty_Q_ok nm_Q m_61 (fun _ h => h) rfl rfl rfl d_Q_init_11 (fun H locs hY => ?_)
  have hY : hm_Y D cls A s.heap (hm_up w n (a, .inr (3, [.int 0, .int 0, f2, f3]))) H locs := by rw [hm_uu] at hY; exact hY
  refine lv_aload_n X.1 X.2.1 d_Q_init_14 rfl (lv_at hl 0 rfl) ?_
  refine lv_iconst (v := 0) X.1 X.2.1 d_Q_init_15 (by decide) ?_
  refine hm_put ⟨X, hK.1⟩ hY (hm_up_s _ _ _) 2 rfl (Nat.le_of_ble_eq_true rfl) (Nat.le_of_ble_eq_true rfl) hu_Q ty_Q ty_Q_ok nm_Q m_62 (fun _ h => h) rfl rfl rfl d_Q_init_16 (fun H locs hY => ?_)
  have hY : hm_Y D cls A s.heap (hm_up w n (a, .inr (3, [.int 0, .int 0, .int 0, f3]))) H locs := by rw [hm_uu] at hY; exact hY
  refine lv_aload_n X.1 X.2.1 d_Q_init_19 rfl (lv_at hl 0 rfl) ?_
  refine lv_lconst (v := 0) X.1 X.2.1 d_Q_init_20 (by decide) ?_
  refine hm_put ⟨X, hK.1⟩ hY (hm_up_s _ _ _) 3 rfl (Nat.le_of_ble_eq_true rfl) (Nat.le_of_ble_eq_true rfl) hu_Q ty_Q ty_Q_ok nm_Q m_64 (fun _ h => h) rfl rfl rfl d_Q_init_21 (fun H locs hY => ?_)
  have hY : hm_Y D cls A s.heap (hm_up w n (a, .inr (3, [.int 0, .int 0, .int 0, .long 0]))) H locs := by rw [hm_uu] at hY; exact hY
  exact en_vW X hY hr hlocks d_Q_init_24 (⟨rfl, rfl⟩)

set_option maxHeartbeats 4000000 in
set_option maxRecDepth 100000 in
theorem k_D_init (l : Launch) (D : va_G) (A : Nat → Prop) (G : Nat → Nat) (w : hm_T) (n : hm_N) (a : Nat) (f0 f1 f2 f3 f4 f5 f6 : Value) (hn : w n = some (a, .inr (2, [f0, f1, f2, f3, f4, f5, f6]))) (mo fr to : Int32) (lo hi : Int64) : Met l y_D_init (.code y_D_init c_D_init 8 (none : Option FieldType) :: wsA) { frames := 1, cells := 0, slots := 0, locals := 20 } (va_Pc [.ref a, .int mo, .int fr, .int to, .long lo, .long hi] (ctU D A G w)) (hm_Q D cls A (fun v w1 => v = none ∧ w1 = hm_up w n (a, .inr (2, [.int mo, .int fr, .int to, .long lo, .long hi, .int 0, .long 0])))) 0 0 A := by
  refine ct_met (by decide) (Nat.le_of_ble_eq_true rfl) ?_
  rintro p e s m below meth c ls X hr hlocks hnm hl ⟨hB, hK⟩
  have hl : lv_has ls 8 [(0, .ref a), (1, .int mo), (2, .int fr), (3, .int to), (4, .long lo), (6, .long hi)] := hl
  have hY : hm_Y D cls A s.heap w s.heap [] := hm_Y.start hB hK.2.2.2
  refine lv_aload_n X.1 X.2.1 d_D_init_0 rfl (lv_at hl 0 rfl) ?_
  refine W.objInit X.1 X.2.1 X.2.2.2.1 (X.2.2.2.2 _ m_161) (X.2.2.2.2 _ m_25) (X.2.2.2.2 _ m_26) rfl (hl.1.trans X.2.2.1.symm) rfl d_D_init_1 (Nat.le_of_ble_eq_true rfl) (Nat.le_of_ble_eq_true rfl) ?_
  refine W.eq (g2 := F0 m 4 ls []) rfl ?_
  refine lv_aload_n X.1 X.2.1 d_D_init_4 rfl (lv_at hl 0 rfl) ?_
  refine lv_iload_n X.1 X.2.1 d_D_init_5 rfl (lv_at hl 1 rfl) ?_
  refine hm_putF ⟨X, hK.1⟩ hY hn 0 rfl (Nat.le_of_ble_eq_true rfl) (Nat.le_of_ble_eq_true rfl) hu_D ty_D ty_D_ok nm_D m_162 (fun _ h => h) rfl hnm rfl rfl rfl d_D_init_6 (fun H locs hY => ?_)
  have hY : hm_Y D cls A s.heap (hm_up w n (a, .inr (2, [.int mo, f1, f2, f3, f4, f5, f6]))) H locs := by exact hY
  refine lv_aload_n X.1 X.2.1 d_D_init_9 rfl (lv_at hl 0 rfl) ?_
  refine lv_iload_n X.1 X.2.1 d_D_init_10 rfl (lv_at hl 2 rfl) ?_
  refine hm_putF ⟨X, hK.1⟩ hY (hm_up_s _ _ _) 1 rfl (Nat.le_of_ble_eq_true rfl) (Nat.le_of_ble_eq_true rfl) hu_D ty_D ty_D_ok nm_D m_164 (fun _ h => h) rfl hnm rfl rfl rfl d_D_init_11 (fun H locs hY => ?_)
  have hY : hm_Y D cls A s.heap (hm_up w n (a, .inr (2, [.int mo, .int fr, f2, f3, f4, f5, f6]))) H locs := by rw [hm_uu] at hY; exact hY
  refine lv_aload_n X.1 X.2.1 d_D_init_14 rfl (lv_at hl 0 rfl) ?_
  refine lv_iload_n X.1 X.2.1 d_D_init_15 rfl (lv_at hl 3 rfl) ?_
  refine hm_putF ⟨X, hK.1⟩ hY (hm_up_s _ _ _) 2 rfl (Nat.le_of_ble_eq_true rfl) (Nat.le_of_ble_eq_true rfl) hu_D ty_D ty_D_ok nm_D m_166 (fun _ h => h) rfl hnm rfl rfl rfl d_D_init_16 (fun H locs hY => ?_)
  have hY : hm_Y D cls A s.heap (hm_up w n (a, .inr (2, [.int mo, .int fr, .int to, f3, f4, f5, f6]))) H locs := by rw [hm_uu] at hY; exact hY
  refine lv_aload_n X.1 X.2.1 d_D_init_19 rfl (lv_at hl 0 rfl) ?_
  refine lv_lload X.1 X.2.1 d_D_init_20 (lv_at hl 4 rfl) ?_
  refine hm_putF ⟨X, hK.1⟩ hY (hm_up_s _ _ _) 3 rfl (Nat.le_of_ble_eq_true rfl) (Nat.le_of_ble_eq_true rfl) hu_D ty_D ty_D_ok nm_D m_168 (fun _ h => h) rfl hnm rfl rfl rfl d_D_init_22 (fun H locs hY => ?_)
  have hY : hm_Y D cls A s.heap (hm_up w n (a, .inr (2, [.int mo, .int fr, .int to, .long lo, f4, f5, f6]))) H locs := by rw [hm_uu] at hY; exact hY
  refine lv_aload_n X.1 X.2.1 d_D_init_25 rfl (lv_at hl 0 rfl) ?_
  refine lv_lload X.1 X.2.1 d_D_init_26 (lv_at hl 5 rfl) ?_
  refine hm_putF ⟨X, hK.1⟩ hY (hm_up_s _ _ _) 4 rfl (Nat.le_of_ble_eq_true rfl) (Nat.le_of_ble_eq_true rfl) hu_D ty_D ty_D_ok nm_D m_170 (fun _ h => h) rfl hnm rfl rfl rfl d_D_init_28 (fun H locs hY => ?_)
  have hY : hm_Y D cls A s.heap (hm_up w n (a, .inr (2, [.int mo, .int fr, .int to, .long lo, .long hi, f5, f6]))) H locs := by rw [hm_uu] at hY; exact hY
  refine lv_aload_n X.1 X.2.1 d_D_init_31 rfl (lv_at hl 0 rfl) ?_
  refine lv_iconst (v := 0) X.1 X.2.1 d_D_init_32 (by decide) ?_
  refine hm_put ⟨X, hK.1⟩ hY (hm_up_s _ _ _) 5 rfl (Nat.le_of_ble_eq_true rfl) (Nat.le_of_ble_eq_true rfl) hu_D ty_D ty_D_ok nm_D m_172 (fun _ h => h) rfl rfl rfl d_D_init_33 (fun H locs hY => ?_)
  have hY : hm_Y D cls A s.heap (hm_up w n (a, .inr (2, [.int mo, .int fr, .int to, .long lo, .long hi, .int 0, f6]))) H locs := by rw [hm_uu] at hY; exact hY
  refine lv_aload_n X.1 X.2.1 d_D_init_36 rfl (lv_at hl 0 rfl) ?_
  refine lv_lconst (v := 0) X.1 X.2.1 d_D_init_37 (by decide) ?_
  refine hm_put ⟨X, hK.1⟩ hY (hm_up_s _ _ _) 6 rfl (Nat.le_of_ble_eq_true rfl) (Nat.le_of_ble_eq_true rfl) hu_D ty_D ty_D_ok nm_D m_174 (fun _ h => h) rfl rfl rfl d_D_init_38 (fun H locs hY => ?_)
  have hY : hm_Y D cls A s.heap (hm_up w n (a, .inr (2, [.int mo, .int fr, .int to, .long lo, .long hi, .int 0, .long 0]))) H locs := by rw [hm_uu] at hY; exact hY
  exact en_vW X hY hr hlocks d_D_init_41 (⟨rfl, rfl⟩)

set_option maxHeartbeats 4000000 in
set_option maxRecDepth 100000 in
theorem k_P_init (l : Launch) (D : va_G) (A : Nat → Prop) (G : Nat → Nat) (w : hm_T) (n n5 n6 : hm_N) (a : Nat) (f0 f1 f2 f3 f4 f5 f6 f7 f8 f9 f10 : Value) (hn : w n = some (a, .inr (1, [f0, f1, f2, f3, f4, f5, f6, f7, f8, f9, f10]))) (h5 : n ≠ n5) (h6 : n ≠ n6) (le mx : Int32) (sp : Int64) : Met l y_P_init (.code y_P_init c_P_init 5 (none : Option FieldType) :: wsA) { frames := 4, cells := 2, slots := 127, locals := 80 } (va_Pc [.ref a, .int le, .int mx, .long sp] (ctU D A G w)) (hm_Q D cls A (fun v w1 => ∃ ae al, v = none ∧ w1 = hm_up (hm_up (hm_up w n5 (ae, .inl (G 1, 124, .inl (fun _ => 0)))) n6 (al, .inr (4, [.ref (G 0), .int 0, .int 0]))) n (a, .inr (1, [.int le, .int mx, .long sp, .ref ae, .ref al, .int 0, .int 0, .int 0, .int 0, .int 0, .int 0])))) 2 127 A := by
  refine ct_met (by decide) (Nat.le_of_ble_eq_true rfl) ?_
  rintro p e s m below meth c ls X hr hlocks hnm hl ⟨hB, hK⟩
  have hl : lv_has ls 5 [(0, .ref a), (1, .int le), (2, .int mx), (3, .long sp)] := hl
  have hY : hm_Y D cls A s.heap w s.heap [] := hm_Y.start hB hK.2.2.2
  refine lv_aload_n X.1 X.2.1 d_P_init_0 rfl (lv_at hl 0 rfl) ?_
  refine W.objInit X.1 X.2.1 X.2.2.2.1 (X.2.2.2.2 _ m_440) (X.2.2.2.2 _ m_25) (X.2.2.2.2 _ m_26) rfl (hl.1.trans X.2.2.1.symm) rfl d_P_init_1 (Nat.le_of_ble_eq_true rfl) (Nat.le_of_ble_eq_true rfl) ?_
  refine W.eq (g2 := F0 m 4 ls []) rfl ?_
  refine lv_aload_n X.1 X.2.1 d_P_init_4 rfl (lv_at hl 0 rfl) ?_
  refine lv_iload_n X.1 X.2.1 d_P_init_5 rfl (lv_at hl 1 rfl) ?_
  refine hm_putF ⟨X, hK.1⟩ hY hn 0 rfl (Nat.le_of_ble_eq_true rfl) (Nat.le_of_ble_eq_true rfl) hu_P ty_P ty_P_ok nm_P m_443 (fun _ h => h) rfl hnm rfl rfl rfl d_P_init_6 (fun H locs hY => ?_)
  have hY : hm_Y D cls A s.heap (hm_up w n (a, .inr (1, [.int le, f1, f2, f3, f4, f5, f6, f7, f8, f9, f10]))) H locs := by exact hY
  refine lv_aload_n X.1 X.2.1 d_P_init_9 rfl (lv_at hl 0 rfl) ?_
  refine lv_iload_n X.1 X.2.1 d_P_init_10 rfl (lv_at hl 2 rfl) ?_
  refine hm_putF ⟨X, hK.1⟩ hY (hm_up_s _ _ _) 1 rfl (Nat.le_of_ble_eq_true rfl) (Nat.le_of_ble_eq_true rfl) hu_P ty_P ty_P_ok nm_P m_444 (fun _ h => h) rfl hnm rfl rfl rfl d_P_init_11 (fun H locs hY => ?_)
  have hY : hm_Y D cls A s.heap (hm_up w n (a, .inr (1, [.int le, .int mx, f2, f3, f4, f5, f6, f7, f8, f9, f10]))) H locs := by rw [hm_uu] at hY; exact hY
  refine lv_aload_n X.1 X.2.1 d_P_init_14 rfl (lv_at hl 0 rfl) ?_
  refine lv_lload_n X.1 X.2.1 d_P_init_15 rfl (lv_at hl 3 rfl) ?_
  refine hm_putF ⟨X, hK.1⟩ hY (hm_up_s _ _ _) 2 rfl (Nat.le_of_ble_eq_true rfl) (Nat.le_of_ble_eq_true rfl) hu_P ty_P ty_P_ok nm_P m_445 (fun _ h => h) rfl hnm rfl rfl rfl d_P_init_16 (fun H locs hY => ?_)
  have hY : hm_Y D cls A s.heap (hm_up w n (a, .inr (1, [.int le, .int mx, .long sp, f3, f4, f5, f6, f7, f8, f9, f10]))) H locs := by rw [hm_uu] at hY; exact hY
  refine lv_aload_n X.1 X.2.1 d_P_init_19 rfl (lv_at hl 0 rfl) ?_
  refine lv_bipush (v := 124) X.1 X.2.1 d_P_init_20 (by decide) ?_
  refine hm_newa (atype := .int) ⟨X, hK.1⟩ hY n5 m_480 rfl (ct_cI hK) (N := 124) (a0 := (124, .inl (fun _ => 0))) rfl (by decide) (by decide) (by decide) (Nat.le_of_ble_eq_true rfl) (Nat.le_of_ble_eq_true rfl) d_P_init_22 (fun ae H hY => ?_)
  have hY : hm_Y D cls A s.heap (hm_up (hm_up w n5 (ae, .inl (G 1, 124, .inl (fun _ => 0)))) n (a, .inr (1, [.int le, .int mx, .long sp, f3, f4, f5, f6, f7, f8, f9, f10]))) H locs := by rw [hm_uc _ _ _ h5] at hY; exact hY
  refine hm_putF ⟨X, hK.1⟩ hY (hm_up_s _ _ _) 3 rfl (Nat.le_of_ble_eq_true rfl) (Nat.le_of_ble_eq_true rfl) hu_P ty_P ty_P_ok nm_P m_446 (fun _ h => h) rfl hnm rfl rfl rfl d_P_init_24 (fun H locs hY => ?_)
  have hY : hm_Y D cls A s.heap (hm_up (hm_up w n5 (ae, .inl (G 1, 124, .inl (fun _ => 0)))) n (a, .inr (1, [.int le, .int mx, .long sp, .ref ae, f4, f5, f6, f7, f8, f9, f10]))) H locs := by rw [hm_uu] at hY; exact hY
  refine lv_aload_n X.1 X.2.1 d_P_init_27 rfl (lv_at hl 0 rfl) ?_
  refine hm_new ⟨X, hK.1⟩ hY n6 [.null, .int 0, .int 0] (ci := 4) rfl hu_A ty_A ty_A_ok m_441 m_28 m_4 (fun j hj => by rcases (show j = 0 ∨ j = 1 ∨ j = 2 by omega) with rfl | rfl | rfl <;> rfl) (Nat.le_of_ble_eq_true rfl) (Nat.le_of_ble_eq_true rfl) d_P_init_28 (fun al H hY => ?_)
  have hY : hm_Y D cls A s.heap (hm_up (hm_up (hm_up w n5 (ae, .inl (G 1, 124, .inl (fun _ => 0)))) n6 (al, .inr (4, [.null, .int 0, .int 0]))) n (a, .inr (1, [.int le, .int mx, .long sp, .ref ae, f4, f5, f6, f7, f8, f9, f10]))) H locs := by rw [hm_uc _ _ _ h6] at hY; exact hY
  refine lv_dup X.1 X.2.1 d_P_init_31 rfl ?_
  refine hm_call (ct_runI (n := 0) X hK hY (k_A_init l D A G (hm_up (hm_up (hm_up w n5 (ae, .inl (G 1, 124, .inl (fun _ => 0)))) n6 (al, .inr (4, [.null, .int 0, .int 0]))) n (a, .inr (1, [.int le, .int mx, .long sp, .ref ae, f4, f5, f6, f7, f8, f9, f10]))) n6 al .null (.int 0) (.int 0) ((hm_up_n _ _ (Ne.symm h6)).trans (hm_up_s _ _ _))) m_31 m_442 m_30 m_4 rfl (by decide +kernel) ⟨Nat.le_of_ble_eq_true rfl, Nat.le_of_ble_eq_true rfl⟩ ⟨rfl, rfl⟩ rfl hl.1 rfl (Nat.le_of_ble_eq_true rfl) d_P_init_32 ⟨Nat.le_of_ble_eq_true rfl, Nat.le_of_ble_eq_true rfl⟩) hY (fun v w1 H locs hp hY => ?_)
  obtain ⟨rfl, rfl⟩ := hp
  have hY : hm_Y D cls A s.heap (hm_up (hm_up (hm_up w n5 (ae, .inl (G 1, 124, .inl (fun _ => 0)))) n6 (al, .inr (4, [.ref (G 0), .int 0, .int 0]))) n (a, .inr (1, [.int le, .int mx, .long sp, .ref ae, f4, f5, f6, f7, f8, f9, f10]))) H locs := by rw [hm_uc _ _ _ h6, hm_uu] at hY; exact hY
  refine W.eq (g2 := F0 m 35 ls [.ref al, .ref a]) rfl ?_
  refine hm_putF ⟨X, hK.1⟩ hY (hm_up_s _ _ _) 4 rfl (Nat.le_of_ble_eq_true rfl) (Nat.le_of_ble_eq_true rfl) hu_P ty_P ty_P_ok nm_P m_447 (fun _ h => h) rfl hnm rfl rfl rfl d_P_init_35 (fun H locs hY => ?_)
  have hY : hm_Y D cls A s.heap (hm_up (hm_up (hm_up w n5 (ae, .inl (G 1, 124, .inl (fun _ => 0)))) n6 (al, .inr (4, [.ref (G 0), .int 0, .int 0]))) n (a, .inr (1, [.int le, .int mx, .long sp, .ref ae, .ref al, f5, f6, f7, f8, f9, f10]))) H locs := by rw [hm_uu] at hY; exact hY
  refine lv_aload_n X.1 X.2.1 d_P_init_38 rfl (lv_at hl 0 rfl) ?_
  refine lv_iconst (v := 0) X.1 X.2.1 d_P_init_39 (by decide) ?_
  refine hm_put ⟨X, hK.1⟩ hY (hm_up_s _ _ _) 5 rfl (Nat.le_of_ble_eq_true rfl) (Nat.le_of_ble_eq_true rfl) hu_P ty_P ty_P_ok nm_P m_449 (fun _ h => h) rfl rfl rfl d_P_init_40 (fun H locs hY => ?_)
  have hY : hm_Y D cls A s.heap (hm_up (hm_up (hm_up w n5 (ae, .inl (G 1, 124, .inl (fun _ => 0)))) n6 (al, .inr (4, [.ref (G 0), .int 0, .int 0]))) n (a, .inr (1, [.int le, .int mx, .long sp, .ref ae, .ref al, .int 0, f6, f7, f8, f9, f10]))) H locs := by rw [hm_uu] at hY; exact hY
  refine lv_aload_n X.1 X.2.1 d_P_init_43 rfl (lv_at hl 0 rfl) ?_
  refine lv_iconst (v := 0) X.1 X.2.1 d_P_init_44 (by decide) ?_
  refine hm_put ⟨X, hK.1⟩ hY (hm_up_s _ _ _) 6 rfl (Nat.le_of_ble_eq_true rfl) (Nat.le_of_ble_eq_true rfl) hu_P ty_P ty_P_ok nm_P m_451 (fun _ h => h) rfl rfl rfl d_P_init_45 (fun H locs hY => ?_)
  have hY : hm_Y D cls A s.heap (hm_up (hm_up (hm_up w n5 (ae, .inl (G 1, 124, .inl (fun _ => 0)))) n6 (al, .inr (4, [.ref (G 0), .int 0, .int 0]))) n (a, .inr (1, [.int le, .int mx, .long sp, .ref ae, .ref al, .int 0, .int 0, f7, f8, f9, f10]))) H locs := by rw [hm_uu] at hY; exact hY
  refine lv_aload_n X.1 X.2.1 d_P_init_48 rfl (lv_at hl 0 rfl) ?_
  refine lv_iconst (v := 0) X.1 X.2.1 d_P_init_49 (by decide) ?_
  refine hm_put ⟨X, hK.1⟩ hY (hm_up_s _ _ _) 7 rfl (Nat.le_of_ble_eq_true rfl) (Nat.le_of_ble_eq_true rfl) hu_P ty_P ty_P_ok nm_P m_453 (fun _ h => h) rfl rfl rfl d_P_init_50 (fun H locs hY => ?_)
  have hY : hm_Y D cls A s.heap (hm_up (hm_up (hm_up w n5 (ae, .inl (G 1, 124, .inl (fun _ => 0)))) n6 (al, .inr (4, [.ref (G 0), .int 0, .int 0]))) n (a, .inr (1, [.int le, .int mx, .long sp, .ref ae, .ref al, .int 0, .int 0, .int 0, f8, f9, f10]))) H locs := by rw [hm_uu] at hY; exact hY
  refine lv_aload_n X.1 X.2.1 d_P_init_53 rfl (lv_at hl 0 rfl) ?_
  refine lv_iconst (v := 0) X.1 X.2.1 d_P_init_54 (by decide) ?_
  refine hm_put ⟨X, hK.1⟩ hY (hm_up_s _ _ _) 8 rfl (Nat.le_of_ble_eq_true rfl) (Nat.le_of_ble_eq_true rfl) hu_P ty_P ty_P_ok nm_P m_454 (fun _ h => h) rfl rfl rfl d_P_init_55 (fun H locs hY => ?_)
  have hY : hm_Y D cls A s.heap (hm_up (hm_up (hm_up w n5 (ae, .inl (G 1, 124, .inl (fun _ => 0)))) n6 (al, .inr (4, [.ref (G 0), .int 0, .int 0]))) n (a, .inr (1, [.int le, .int mx, .long sp, .ref ae, .ref al, .int 0, .int 0, .int 0, .int 0, f9, f10]))) H locs := by rw [hm_uu] at hY; exact hY
  refine lv_aload_n X.1 X.2.1 d_P_init_58 rfl (lv_at hl 0 rfl) ?_
  refine lv_iconst (v := 0) X.1 X.2.1 d_P_init_59 (by decide) ?_
  refine hm_put ⟨X, hK.1⟩ hY (hm_up_s _ _ _) 9 rfl (Nat.le_of_ble_eq_true rfl) (Nat.le_of_ble_eq_true rfl) hu_P ty_P ty_P_ok nm_P m_455 (fun _ h => h) rfl rfl rfl d_P_init_60 (fun H locs hY => ?_)
  have hY : hm_Y D cls A s.heap (hm_up (hm_up (hm_up w n5 (ae, .inl (G 1, 124, .inl (fun _ => 0)))) n6 (al, .inr (4, [.ref (G 0), .int 0, .int 0]))) n (a, .inr (1, [.int le, .int mx, .long sp, .ref ae, .ref al, .int 0, .int 0, .int 0, .int 0, .int 0, f10]))) H locs := by rw [hm_uu] at hY; exact hY
  refine lv_aload_n X.1 X.2.1 d_P_init_63 rfl (lv_at hl 0 rfl) ?_
  refine lv_iconst (v := 0) X.1 X.2.1 d_P_init_64 (by decide) ?_
  refine hm_put ⟨X, hK.1⟩ hY (hm_up_s _ _ _) 10 rfl (Nat.le_of_ble_eq_true rfl) (Nat.le_of_ble_eq_true rfl) hu_P ty_P ty_P_ok nm_P m_456 (fun _ h => h) rfl rfl rfl d_P_init_65 (fun H locs hY => ?_)
  have hY : hm_Y D cls A s.heap (hm_up (hm_up (hm_up w n5 (ae, .inl (G 1, 124, .inl (fun _ => 0)))) n6 (al, .inr (4, [.ref (G 0), .int 0, .int 0]))) n (a, .inr (1, [.int le, .int mx, .long sp, .ref ae, .ref al, .int 0, .int 0, .int 0, .int 0, .int 0, .int 0]))) H locs := by rw [hm_uu] at hY; exact hY
  exact en_vW X hY hr hlocks d_P_init_68 (⟨ae, al, rfl, rfl⟩)

set_option maxHeartbeats 4000000 in
set_option maxRecDepth 100000 in
theorem k_W_init (l : Launch) (D : va_G) (A : Nat → Prop) (G : Nat → Nat) (w : hm_T) (n n1 n3 : hm_N) (a : Nat) (f0 f1 f2 f3 f4 f5 f6 f7 f8 f9 : Value) (hn : w n = some (a, .inr (0, [f0, f1, f2, f3, f4, f5, f6, f7, f8, f9]))) (h1 : n ≠ n1) (h3 : n ≠ n3) : Met l y_W_init (.code y_W_init c_W_init 1 (none : Option FieldType) :: wsA) { frames := 4, cells := 2, slots := 7, locals := 80 } (va_Pc [.ref a] (ctU D A G w)) (hm_Q D cls A (fun v w1 => ∃ al aq, v = none ∧ w1 = hm_up (hm_up (hm_up w n1 (al, .inr (4, [.ref (G 0), .int 0, .int 0]))) n3 (aq, .inr (3, [.int 0, .int 0, .int 0, .long 0]))) n (a, .inr (0, [.ref al, .ref aq, .int 0, .int 0, .long 0, .long 0, .int 0, .int 0, .int 0, .int 0])))) 2 7 A := by
  refine ct_met (by decide) (Nat.le_of_ble_eq_true rfl) ?_
  rintro p e s m below meth c ls X hr hlocks hnm hl ⟨hB, hK⟩
  have hl : lv_has ls 1 [(0, .ref a)] := hl
  have hY : hm_Y D cls A s.heap w s.heap [] := hm_Y.start hB hK.2.2.2
  refine lv_aload_n X.1 X.2.1 d_W_init_0 rfl (lv_at hl 0 rfl) ?_
  refine W.objInit X.1 X.2.1 X.2.2.2.1 (X.2.2.2.2 _ m_24) (X.2.2.2.2 _ m_25) (X.2.2.2.2 _ m_26) rfl (hl.1.trans X.2.2.1.symm) rfl d_W_init_1 (Nat.le_of_ble_eq_true rfl) (Nat.le_of_ble_eq_true rfl) ?_
  refine W.eq (g2 := F0 m 4 ls []) rfl ?_
  refine lv_aload_n X.1 X.2.1 d_W_init_4 rfl (lv_at hl 0 rfl) ?_
  refine hm_new ⟨X, hK.1⟩ hY n1 [.null, .int 0, .int 0] (ci := 4) rfl hu_A ty_A ty_A_ok m_27 m_28 m_4 (fun j hj => by rcases (show j = 0 ∨ j = 1 ∨ j = 2 by omega) with rfl | rfl | rfl <;> rfl) (Nat.le_of_ble_eq_true rfl) (Nat.le_of_ble_eq_true rfl) d_W_init_5 (fun al H hY => ?_)
  refine lv_dup X.1 X.2.1 d_W_init_8 rfl ?_
  refine hm_call (ct_runI (n := 0) X hK hY (k_A_init l D A G (hm_up w n1 (al, .inr (4, [.null, .int 0, .int 0]))) n1 al .null (.int 0) (.int 0) (hm_up_s _ _ _)) m_31 m_29 m_30 m_4 rfl (by decide +kernel) ⟨Nat.le_of_ble_eq_true rfl, Nat.le_of_ble_eq_true rfl⟩ ⟨rfl, rfl⟩ rfl hl.1 rfl (Nat.le_of_ble_eq_true rfl) d_W_init_9 ⟨Nat.le_of_ble_eq_true rfl, Nat.le_of_ble_eq_true rfl⟩) hY (fun v w1 H locs hp hY => ?_)
  obtain ⟨rfl, rfl⟩ := hp
  have hY : hm_Y D cls A s.heap (hm_up w n1 (al, .inr (4, [.ref (G 0), .int 0, .int 0]))) H locs := by rw [hm_uu] at hY; exact hY
  refine W.eq (g2 := F0 m 12 ls [.ref al, .ref a]) rfl ?_
  refine hm_putF ⟨X, hK.1⟩ hY ((hm_up_n _ _ h1).trans hn) 0 rfl (Nat.le_of_ble_eq_true rfl) (Nat.le_of_ble_eq_true rfl) hu_W ty_W ty_W_ok nm_W m_74 (fun _ h => h) rfl hnm rfl rfl rfl d_W_init_12 (fun H locs hY => ?_)
  have hY : hm_Y D cls A s.heap (hm_up (hm_up w n1 (al, .inr (4, [.ref (G 0), .int 0, .int 0]))) n (a, .inr (0, [.ref al, f1, f2, f3, f4, f5, f6, f7, f8, f9]))) H locs := by exact hY
  refine lv_aload_n X.1 X.2.1 d_W_init_15 rfl (lv_at hl 0 rfl) ?_
  refine hm_new ⟨X, hK.1⟩ hY n3 [.int 0, .int 0, .int 0, .long 0] (ci := 3) rfl hu_Q ty_Q ty_Q_ok m_53 m_54 m_5 (fun j hj => by rcases (show j = 0 ∨ j = 1 ∨ j = 2 ∨ j = 3 by omega) with rfl | rfl | rfl | rfl <;> rfl) (Nat.le_of_ble_eq_true rfl) (Nat.le_of_ble_eq_true rfl) d_W_init_16 (fun aq H hY => ?_)
  have hY : hm_Y D cls A s.heap (hm_up (hm_up (hm_up w n1 (al, .inr (4, [.ref (G 0), .int 0, .int 0]))) n3 (aq, .inr (3, [.int 0, .int 0, .int 0, .long 0]))) n (a, .inr (0, [.ref al, f1, f2, f3, f4, f5, f6, f7, f8, f9]))) H locs := by rw [hm_uc _ _ _ h3] at hY; exact hY
  refine lv_dup X.1 X.2.1 d_W_init_19 rfl ?_
  refine hm_call (ct_runI (n := 0) X hK hY (k_Q_init l D A G (hm_up (hm_up (hm_up w n1 (al, .inr (4, [.ref (G 0), .int 0, .int 0]))) n3 (aq, .inr (3, [.int 0, .int 0, .int 0, .long 0]))) n (a, .inr (0, [.ref al, f1, f2, f3, f4, f5, f6, f7, f8, f9]))) n3 aq (.int 0) (.int 0) (.int 0) (.long 0) ((hm_up_n _ _ (Ne.symm h3)).trans (hm_up_s _ _ _))) m_57 m_55 m_56 m_5 rfl (by decide +kernel) ⟨Nat.le_of_ble_eq_true rfl, Nat.le_of_ble_eq_true rfl⟩ ⟨rfl, rfl⟩ rfl hl.1 rfl (Nat.le_of_ble_eq_true rfl) d_W_init_20 ⟨Nat.le_of_ble_eq_true rfl, Nat.le_of_ble_eq_true rfl⟩) hY (fun v w1 H locs hp hY => ?_)
  obtain ⟨rfl, rfl⟩ := hp
  have hY : hm_Y D cls A s.heap (hm_up (hm_up (hm_up w n1 (al, .inr (4, [.ref (G 0), .int 0, .int 0]))) n3 (aq, .inr (3, [.int 0, .int 0, .int 0, .long 0]))) n (a, .inr (0, [.ref al, f1, f2, f3, f4, f5, f6, f7, f8, f9]))) H locs := by rw [hm_uc _ _ _ h3, hm_uu] at hY; exact hY
  refine W.eq (g2 := F0 m 23 ls [.ref aq, .ref a]) rfl ?_
  refine hm_putF ⟨X, hK.1⟩ hY (hm_up_s _ _ _) 1 rfl (Nat.le_of_ble_eq_true rfl) (Nat.le_of_ble_eq_true rfl) hu_W ty_W ty_W_ok nm_W m_75 (fun _ h => h) rfl hnm rfl rfl rfl d_W_init_23 (fun H locs hY => ?_)
  have hY : hm_Y D cls A s.heap (hm_up (hm_up (hm_up w n1 (al, .inr (4, [.ref (G 0), .int 0, .int 0]))) n3 (aq, .inr (3, [.int 0, .int 0, .int 0, .long 0]))) n (a, .inr (0, [.ref al, .ref aq, f2, f3, f4, f5, f6, f7, f8, f9]))) H locs := by rw [hm_uu] at hY; exact hY
  refine lv_aload_n X.1 X.2.1 d_W_init_26 rfl (lv_at hl 0 rfl) ?_
  refine lv_iconst (v := 0) X.1 X.2.1 d_W_init_27 (by decide) ?_
  refine hm_put ⟨X, hK.1⟩ hY (hm_up_s _ _ _) 2 rfl (Nat.le_of_ble_eq_true rfl) (Nat.le_of_ble_eq_true rfl) hu_W ty_W ty_W_ok nm_W m_76 (fun _ h => h) rfl rfl rfl d_W_init_28 (fun H locs hY => ?_)
  have hY : hm_Y D cls A s.heap (hm_up (hm_up (hm_up w n1 (al, .inr (4, [.ref (G 0), .int 0, .int 0]))) n3 (aq, .inr (3, [.int 0, .int 0, .int 0, .long 0]))) n (a, .inr (0, [.ref al, .ref aq, .int 0, f3, f4, f5, f6, f7, f8, f9]))) H locs := by rw [hm_uu] at hY; exact hY
  refine lv_aload_n X.1 X.2.1 d_W_init_31 rfl (lv_at hl 0 rfl) ?_
  refine lv_iconst (v := 0) X.1 X.2.1 d_W_init_32 (by decide) ?_
  refine hm_put ⟨X, hK.1⟩ hY (hm_up_s _ _ _) 3 rfl (Nat.le_of_ble_eq_true rfl) (Nat.le_of_ble_eq_true rfl) hu_W ty_W ty_W_ok nm_W m_77 (fun _ h => h) rfl rfl rfl d_W_init_33 (fun H locs hY => ?_)
  have hY : hm_Y D cls A s.heap (hm_up (hm_up (hm_up w n1 (al, .inr (4, [.ref (G 0), .int 0, .int 0]))) n3 (aq, .inr (3, [.int 0, .int 0, .int 0, .long 0]))) n (a, .inr (0, [.ref al, .ref aq, .int 0, .int 0, f4, f5, f6, f7, f8, f9]))) H locs := by rw [hm_uu] at hY; exact hY
  refine lv_aload_n X.1 X.2.1 d_W_init_36 rfl (lv_at hl 0 rfl) ?_
  refine lv_lconst (v := 0) X.1 X.2.1 d_W_init_37 (by decide) ?_
  refine hm_put ⟨X, hK.1⟩ hY (hm_up_s _ _ _) 4 rfl (Nat.le_of_ble_eq_true rfl) (Nat.le_of_ble_eq_true rfl) hu_W ty_W ty_W_ok nm_W m_78 (fun _ h => h) rfl rfl rfl d_W_init_38 (fun H locs hY => ?_)
  have hY : hm_Y D cls A s.heap (hm_up (hm_up (hm_up w n1 (al, .inr (4, [.ref (G 0), .int 0, .int 0]))) n3 (aq, .inr (3, [.int 0, .int 0, .int 0, .long 0]))) n (a, .inr (0, [.ref al, .ref aq, .int 0, .int 0, .long 0, f5, f6, f7, f8, f9]))) H locs := by rw [hm_uu] at hY; exact hY
  refine lv_aload_n X.1 X.2.1 d_W_init_41 rfl (lv_at hl 0 rfl) ?_
  refine lv_lconst (v := 0) X.1 X.2.1 d_W_init_42 (by decide) ?_
  refine hm_put ⟨X, hK.1⟩ hY (hm_up_s _ _ _) 5 rfl (Nat.le_of_ble_eq_true rfl) (Nat.le_of_ble_eq_true rfl) hu_W ty_W ty_W_ok nm_W m_79 (fun _ h => h) rfl rfl rfl d_W_init_43 (fun H locs hY => ?_)
  have hY : hm_Y D cls A s.heap (hm_up (hm_up (hm_up w n1 (al, .inr (4, [.ref (G 0), .int 0, .int 0]))) n3 (aq, .inr (3, [.int 0, .int 0, .int 0, .long 0]))) n (a, .inr (0, [.ref al, .ref aq, .int 0, .int 0, .long 0, .long 0, f6, f7, f8, f9]))) H locs := by rw [hm_uu] at hY; exact hY
  refine lv_aload_n X.1 X.2.1 d_W_init_46 rfl (lv_at hl 0 rfl) ?_
  refine lv_iconst (v := 0) X.1 X.2.1 d_W_init_47 (by decide) ?_
  refine hm_put ⟨X, hK.1⟩ hY (hm_up_s _ _ _) 6 rfl (Nat.le_of_ble_eq_true rfl) (Nat.le_of_ble_eq_true rfl) hu_W ty_W ty_W_ok nm_W m_80 (fun _ h => h) rfl rfl rfl d_W_init_48 (fun H locs hY => ?_)
  have hY : hm_Y D cls A s.heap (hm_up (hm_up (hm_up w n1 (al, .inr (4, [.ref (G 0), .int 0, .int 0]))) n3 (aq, .inr (3, [.int 0, .int 0, .int 0, .long 0]))) n (a, .inr (0, [.ref al, .ref aq, .int 0, .int 0, .long 0, .long 0, .int 0, f7, f8, f9]))) H locs := by rw [hm_uu] at hY; exact hY
  refine lv_aload_n X.1 X.2.1 d_W_init_51 rfl (lv_at hl 0 rfl) ?_
  refine lv_iconst (v := 0) X.1 X.2.1 d_W_init_52 (by decide) ?_
  refine hm_put ⟨X, hK.1⟩ hY (hm_up_s _ _ _) 7 rfl (Nat.le_of_ble_eq_true rfl) (Nat.le_of_ble_eq_true rfl) hu_W ty_W ty_W_ok nm_W m_81 (fun _ h => h) rfl rfl rfl d_W_init_53 (fun H locs hY => ?_)
  have hY : hm_Y D cls A s.heap (hm_up (hm_up (hm_up w n1 (al, .inr (4, [.ref (G 0), .int 0, .int 0]))) n3 (aq, .inr (3, [.int 0, .int 0, .int 0, .long 0]))) n (a, .inr (0, [.ref al, .ref aq, .int 0, .int 0, .long 0, .long 0, .int 0, .int 0, f8, f9]))) H locs := by rw [hm_uu] at hY; exact hY
  refine lv_aload_n X.1 X.2.1 d_W_init_56 rfl (lv_at hl 0 rfl) ?_
  refine lv_iconst (v := 0) X.1 X.2.1 d_W_init_57 (by decide) ?_
  refine hm_put ⟨X, hK.1⟩ hY (hm_up_s _ _ _) 8 rfl (Nat.le_of_ble_eq_true rfl) (Nat.le_of_ble_eq_true rfl) hu_W ty_W ty_W_ok nm_W m_82 (fun _ h => h) rfl rfl rfl d_W_init_58 (fun H locs hY => ?_)
  have hY : hm_Y D cls A s.heap (hm_up (hm_up (hm_up w n1 (al, .inr (4, [.ref (G 0), .int 0, .int 0]))) n3 (aq, .inr (3, [.int 0, .int 0, .int 0, .long 0]))) n (a, .inr (0, [.ref al, .ref aq, .int 0, .int 0, .long 0, .long 0, .int 0, .int 0, .int 0, f9]))) H locs := by rw [hm_uu] at hY; exact hY
  refine lv_aload_n X.1 X.2.1 d_W_init_61 rfl (lv_at hl 0 rfl) ?_
  refine lv_iconst (v := 0) X.1 X.2.1 d_W_init_62 (by decide) ?_
  refine hm_put ⟨X, hK.1⟩ hY (hm_up_s _ _ _) 9 rfl (Nat.le_of_ble_eq_true rfl) (Nat.le_of_ble_eq_true rfl) hu_W ty_W ty_W_ok nm_W m_83 (fun _ h => h) rfl rfl rfl d_W_init_63 (fun H locs hY => ?_)
  have hY : hm_Y D cls A s.heap (hm_up (hm_up (hm_up w n1 (al, .inr (4, [.ref (G 0), .int 0, .int 0]))) n3 (aq, .inr (3, [.int 0, .int 0, .int 0, .long 0]))) n (a, .inr (0, [.ref al, .ref aq, .int 0, .int 0, .long 0, .long 0, .int 0, .int 0, .int 0, .int 0]))) H locs := by rw [hm_uu] at hY; exact hY
  exact en_vW X hY hr hlocks d_W_init_66 (⟨al, aq, rfl, rfl⟩)
