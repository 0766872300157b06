abbrev okP (le mx : Int32) (sp : Int64) : Prop := (0 ≤ le.toInt64 ∧ le.toInt64 ≤ 1000) ∧ (le.toInt64 ≤ mx.toInt64 ∧ mx.toInt64 ≤ 1000) ∧ (0 ≤ sp ∧ sp ≤ 100)
def paP (G : Nat → Nat) (S : cS) (ω : hm_T) (le mx : Int32) (sp : Int64) (v : Option Value) (w : hm_T) : Prop :=
  (¬ okP le mx sp ∧ v = some (.int (-2)) ∧ w = wS G S ω) ∨ (okP le mx sp ∧ ¬ S.C 0 0 < 20 ∧ v = some (.int (-4)) ∧ w = wS G S ω) ∨
  (okP le mx sp ∧ S.C 0 0 < 20 ∧ ∃ a ae al b, v = some (.int (nI (S.C 0 0 + 1))) ∧ w = wS G (newP S a ae al b le mx sp) ω)
theorem rfs_up4 (S : cS) (a : Nat) : va_up (rfs (S.C 0 0) (fun j => S.ad 4 j 0)) (S.C 0 0) (some a) = rfs (S.C 0 0 + 1) (fun j => if j = S.C 0 0 then a else S.ad 4 j 0) := by
  funext j
  by_cases h : j = S.C 0 0
  · subst h
    simp [va_up, rfs]
  · by_cases h2 : j < S.C 0 0
    · simp [va_up, rfs, h, h2, Nat.lt_succ_of_lt h2]
    · have : ¬ j < S.C 0 0 + 1 := by omega
      simp [va_up, rfs, h, h2, this]
theorem rfs_up40 (S : cS) (a : Nat) (h0 : S.C 0 0 = 0) : va_up (fun _ => none) 0 (some a) = rfs (S.C 0 0 + 1) (fun j => if j = S.C 0 0 then a else S.ad 4 j 0) := by
  rw [← rfs_up4, h0]
  funext j
  by_cases h : j = 0 <;> simp [va_up, rfs, h]
theorem rfs_up4g (S : cS) (a : Nat) {N : Nat} (h0 : S.C 0 0 = N) : va_up (va_cpy (rfs N (fun j => S.ad 4 j 0)) (fun _ => none) 0 0 N) N (some a) = rfs (S.C 0 0 + 1) (fun j => if j = S.C 0 0 then a else S.ad 4 j 0) := by
  rw [← rfs_up4, h0]
  funext j
  by_cases h : j = N
  · simp [va_up, h]
  · by_cases h2 : j < N
    · simp [va_up, h, va_cpy, h2]
    · simp [va_up, h, va_cpy, h2, rfs]

set_option maxHeartbeats 4000000 in
set_option maxRecDepth 100000 in
theorem k_W_part (l : Launch) (D : va_G) (A : Nat → Prop) (G : Nat → Nat) (S : cS) (ω : hm_T) (h20 : S.C 0 0 ≤ 20) (hall : ∀ i, i < S.C 0 0 → S.C 1 i ≤ 10) (hω : ω (99, 0, 0) = none) (le mx : Int32) (sp : Int64) (hth : ¬ (okP le mx sp ∧ S.C 0 0 < 20 ∧ sp = 0)) : Met l y_W_part (.code y_W_part c_W_part 5 (some .int) :: wsA) { frames := 8, cells := 4, slots := 160, locals := 171 } (va_Pc [.ref (S.ad 0 0 0), .int le, .int mx, .long sp] (ctU D A G (wS G S ω))) (hm_Q D cls A (paP G S ω le mx sp)) 4 160 A := by
  refine ct_met (by decide) (Nat.le_of_ble_eq_true rfl) ?_
  rintro p e s m below meth c ls X hr hlocks hnm hl ⟨hB, hK⟩
  have hl : lv_has ls 5 [(0, .ref (S.ad 0 0 0)), (1, .int le), (2, .int mx), (3, .long sp)] := hl
  have hY : hm_Y D cls A s.heap (wS G S ω) s.heap [] := hm_Y.start hB hK.2.2.2
  refine lv_iload_n X.1 X.2.1 d_W_part_0 rfl (lv_at hl 1 rfl) ?_
  refine lv_i2l (v := le.toInt64) X.1 X.2.1 d_W_part_1 rfl ?_
  refine lv_lconst (v := 0) X.1 X.2.1 d_W_part_2 (by decide) ?_
  refine lv_ldc2 X.1 X.2.1 X.2.2.2.1 (X.2.2.2.2 _ m_370) d_W_part_3 ?_
  refine hm_callR (ct_runS (n := 3) X hK hY (k_W_isWithin l D A G (wS G S ω) le.toInt64 0 1000) m_119 m_117 m_118 m_1 (by decide +kernel) ⟨Nat.le_of_ble_eq_true rfl, Nat.le_of_ble_eq_true rfl⟩ ⟨rfl, rfl⟩ rfl hl.1 rfl (Nat.le_of_ble_eq_true rfl) d_W_part_6 ⟨Nat.le_of_ble_eq_true rfl, Nat.le_of_ble_eq_true rfl⟩) (fun v hv => ?_)
  subst hv
  refine W.eq (g2 := F0 m 9 ls [.int (b2 (0 ≤ le.toInt64 ∧ le.toInt64 ≤ 1000))]) rfl ?_
  refine lv_if_eq (tgt := 36) X.1 X.2.1 d_W_part_9 (by decide) (fun c1 => ?_) (fun c1 => ?_)
  · have c1 : ¬ (0 ≤ le.toInt64 ∧ le.toInt64 ≤ 1000) := b2_0.mp c1
    refine lv_bipush (v := (-2)) X.1 X.2.1 d_W_part_36 (by decide) ?_
    refine W.widen (k := 4) (n := 160) (Nat.le_of_ble_eq_true rfl) (Nat.le_of_ble_eq_true rfl) ?_
    exact en_iW X hY hr hlocks d_W_part_38 (Or.inl ⟨fun z => c1 z.1, rfl, rfl⟩)
  · have c1 : (0 ≤ le.toInt64 ∧ le.toInt64 ≤ 1000) := Classical.byContradiction (fun z => c1 (b2_0.mpr z))
    refine lv_iload_n X.1 X.2.1 d_W_part_12 rfl (lv_at hl 2 rfl) ?_
    refine lv_i2l (v := mx.toInt64) X.1 X.2.1 d_W_part_13 rfl ?_
    refine lv_iload_n X.1 X.2.1 d_W_part_14 rfl (lv_at hl 1 rfl) ?_
    refine lv_i2l (v := le.toInt64) X.1 X.2.1 d_W_part_15 rfl ?_
    refine lv_ldc2 X.1 X.2.1 X.2.2.2.1 (X.2.2.2.2 _ m_370) d_W_part_16 ?_
    refine hm_callR (ct_runS (n := 3) X hK hY (k_W_isWithin l D A G (wS G S ω) mx.toInt64 le.toInt64 1000) m_119 m_117 m_118 m_1 (by decide +kernel) ⟨Nat.le_of_ble_eq_true rfl, Nat.le_of_ble_eq_true rfl⟩ ⟨rfl, rfl⟩ rfl hl.1 rfl (Nat.le_of_ble_eq_true rfl) d_W_part_19 ⟨Nat.le_of_ble_eq_true rfl, Nat.le_of_ble_eq_true rfl⟩) (fun v hv => ?_)
    subst hv
    refine W.eq (g2 := F0 m 22 ls [.int (b2 (le.toInt64 ≤ mx.toInt64 ∧ mx.toInt64 ≤ 1000))]) rfl ?_
    refine lv_if_eq (tgt := 36) X.1 X.2.1 d_W_part_22 (by decide) (fun c2 => ?_) (fun c2 => ?_)
    · have c2 : ¬ (le.toInt64 ≤ mx.toInt64 ∧ mx.toInt64 ≤ 1000) := b2_0.mp c2
      refine lv_bipush (v := (-2)) X.1 X.2.1 d_W_part_36 (by decide) ?_
      refine W.widen (k := 4) (n := 160) (Nat.le_of_ble_eq_true rfl) (Nat.le_of_ble_eq_true rfl) ?_
      exact en_iW X hY hr hlocks d_W_part_38 (Or.inl ⟨fun z => c2 z.2.1, rfl, rfl⟩)
    · have c2 : (le.toInt64 ≤ mx.toInt64 ∧ mx.toInt64 ≤ 1000) := Classical.byContradiction (fun z => c2 (b2_0.mpr z))
      refine lv_lload_n X.1 X.2.1 d_W_part_25 rfl (lv_at hl 3 rfl) ?_
      refine lv_lconst (v := 0) X.1 X.2.1 d_W_part_26 (by decide) ?_
      refine lv_ldc2 X.1 X.2.1 X.2.2.2.1 (X.2.2.2.2 _ m_315) d_W_part_27 ?_
      refine hm_callR (ct_runS (n := 3) X hK hY (k_W_isWithin l D A G (wS G S ω) sp 0 100) m_119 m_117 m_118 m_1 (by decide +kernel) ⟨Nat.le_of_ble_eq_true rfl, Nat.le_of_ble_eq_true rfl⟩ ⟨rfl, rfl⟩ rfl hl.1 rfl (Nat.le_of_ble_eq_true rfl) d_W_part_30 ⟨Nat.le_of_ble_eq_true rfl, Nat.le_of_ble_eq_true rfl⟩) (fun v hv => ?_)
      subst hv
      refine W.eq (g2 := F0 m 33 ls [.int (b2 (0 ≤ sp ∧ sp ≤ 100))]) rfl ?_
      refine lv_if_ne (tgt := 39) X.1 X.2.1 d_W_part_33 (by decide) (fun c3 => ?_) (fun c3 => ?_)
      · have c3 : (0 ≤ sp ∧ sp ≤ 100) := Classical.byContradiction (fun z => c3 (b2_0.mpr z))
        refine lv_aload_n X.1 X.2.1 d_W_part_39 rfl (lv_at hl 0 rfl) ?_
        refine hm_get ⟨X, hK.1⟩ hY w0 0 (v := .ref (S.ad 1 0 0)) rfl rfl (Nat.le_of_ble_eq_true rfl) hu_W m_74 (fun _ h => h) d_W_part_40 ?_
        refine hm_callR (ct_runV (n := 0) X hK hY (k_size1 l D A G S ω) m_116 m_113 m_114 m_115 m_4 (by decide +kernel) ⟨Nat.le_of_ble_eq_true rfl, Nat.le_of_ble_eq_true rfl⟩ ⟨rfl, rfl⟩ (hm_recv ⟨X, hK.1⟩ hY w1 rfl) rfl hl.1 rfl (Nat.le_of_ble_eq_true rfl) d_W_part_43 ⟨Nat.le_of_ble_eq_true rfl, Nat.le_of_ble_eq_true rfl⟩) (fun v hv => ?_)
        subst hv
        refine W.eq (g2 := F0 m 46 ls [.int (nI (S.C 0 0))]) rfl ?_
        refine lv_bipush (v := 20) X.1 X.2.1 d_W_part_46 (by decide) ?_
        have hok : okP le mx sp := ⟨c1, c2, c3⟩
        refine lv_icmp_lt (tgt := 54) X.1 X.2.1 d_W_part_48 (by decide) (fun c5 => ?_) (fun c5 => ?_)
        · have c5 : S.C 0 0 < 20 := by rcases Nat.lt_or_ge (S.C 0 0) 20 with q | q; exact q; exact absurd c5 (nI_nlt (b := 20) q (by omega))
          refine lv_lload_n X.1 X.2.1 d_W_part_54 rfl (lv_at hl 3 rfl) ?_
          refine lv_lconst (v := 0) X.1 X.2.1 d_W_part_55 (by decide) ?_
          refine lc_ne (tgt := 70) X d_W_part_56 d_W_part_57 (by decide) (fun c4 => ?_) (fun c4 => ?_)
          · refine lv_aload_n X.1 X.2.1 d_W_part_70 rfl (lv_at hl 0 rfl) ?_
            refine hm_get ⟨X, hK.1⟩ hY w0 0 (v := .ref (S.ad 1 0 0)) rfl rfl (Nat.le_of_ble_eq_true rfl) hu_W m_74 (fun _ h => h) d_W_part_71 ?_
            refine hm_new ⟨X, hK.1⟩ hY (4, S.C 0 0, 0) [.int 0, .int 0, .long 0, .null, .null, .int 0, .int 0, .int 0, .int 0, .int 0, .int 0] (ci := 1) rfl hu_P ty_P ty_P_ok m_134 m_261 m_11 (fun j hj => by rcases (show j = 0 ∨ j = 1 ∨ j = 2 ∨ j = 3 ∨ j = 4 ∨ j = 5 ∨ j = 6 ∨ j = 7 ∨ j = 8 ∨ j = 9 ∨ j = 10 by omega) with rfl | rfl | rfl | rfl | rfl | rfl | rfl | rfl | rfl | rfl | rfl <;> rfl) (Nat.le_of_ble_eq_true rfl) (Nat.le_of_ble_eq_true rfl) d_W_part_74 (fun a H hY => ?_)
            refine lv_dup X.1 X.2.1 d_W_part_77 rfl ?_
            refine lv_iload_n X.1 X.2.1 d_W_part_78 rfl (lv_at hl 1 rfl) ?_
            refine lv_iload_n X.1 X.2.1 d_W_part_79 rfl (lv_at hl 2 rfl) ?_
            refine lv_lload_n X.1 X.2.1 d_W_part_80 rfl (lv_at hl 3 rfl) ?_
            refine hm_call (ct_runI (n := 3) X hK hY (k_P_init l D A G (hm_up (wS G S ω) (4, S.C 0 0, 0) (a, .inr (1, [.int 0, .int 0, .long 0, .null, .null, .int 0, .int 0, .int 0, .int 0, .int 0, .int 0]))) (4, S.C 0 0, 0) (5, S.C 0 0, 0) (6, S.C 0 0, 0) a (.int 0) (.int 0) (.long 0) (.null) (.null) (.int 0) (.int 0) (.int 0) (.int 0) (.int 0) (.int 0) (hm_up_s _ _ _) (by simp) (by simp) le mx sp) m_439 m_437 m_438 m_11 rfl (by decide +kernel) ⟨Nat.le_of_ble_eq_true rfl, Nat.le_of_ble_eq_true rfl⟩ ⟨rfl, rfl⟩ rfl hl.1 rfl (Nat.le_of_ble_eq_true rfl) d_W_part_81 ⟨Nat.le_of_ble_eq_true rfl, Nat.le_of_ble_eq_true rfl⟩) hY (fun v w1 H locs hp hY => ?_)
            obtain ⟨ae, al, rfl, rfl⟩ := hp
            have hY : hm_Y D cls A s.heap (hm_up (hm_up (hm_up (wS G S ω) (5, S.C 0 0, 0) (ae, .inl (G 1, 124, .inl (fun _ => 0)))) (6, S.C 0 0, 0) (al, .inr (4, [.ref (G 0), .int 0, .int 0]))) (4, S.C 0 0, 0) (a, .inr (1, [.int le, .int mx, .long sp, .ref ae, .ref al, .int 0, .int 0, .int 0, .int 0, .int 0, .int 0]))) H locs := by rw [hm_uc (wS G S ω) _ _ (show (4, S.C 0 0, 0) ≠ (5, S.C 0 0, 0) by simp), hm_uc _ _ _ (show (4, S.C 0 0, 0) ≠ (6, S.C 0 0, 0) by simp), hm_uu] at hY; exact hY
            refine W.eq (g2 := F0 m 84 ls [.ref a, .ref (S.ad 1 0 0)]) rfl ?_
            have hcase : S.C 0 0 = 0 ∨ S.C 0 0 = 10 ∨ S.C 0 0 = 15 ∨ (0 < S.C 0 0 ∧ S.C 0 0 < cap (S.C 0 0) ∧ cap (S.C 0 0 + 1) = cap (S.C 0 0)) := by
              unfold cap
              repeat' split
              all_goals omega
            rcases hcase with h0 | h0 | h0 | ⟨h0, hcp, hce⟩
            · have hn : (hm_up (hm_up (hm_up (wS G S ω) (5, S.C 0 0, 0) (ae, .inl (G 1, 124, .inl (fun _ => 0)))) (6, S.C 0 0, 0) (al, .inr (4, [.ref (G 0), .int 0, .int 0]))) (4, S.C 0 0, 0) (a, .inr (1, [.int le, .int mx, .long sp, .ref ae, .ref al, .int 0, .int 0, .int 0, .int 0, .int 0, .int 0]))) (1, 0, 0) = some (S.ad 1 0 0, .inr (4, [.ref (G 0), .int 0, .int (S.I 6 0 0)])) := by rw [hm_up_n _ _ (show (1, 0, 0) ≠ (4, S.C 0 0, 0) by simp), hm_up_n _ _ (show (1, 0, 0) ≠ (6, S.C 0 0, 0) by simp), hm_up_n _ _ (show (1, 0, 0) ≠ (5, S.C 0 0, 0) by simp), w1, h0]; rfl
              refine hm_call (ct_runV (n := 1) X hK hY (k_A_add_fP l D A G (hm_up (hm_up (hm_up (wS G S ω) (5, S.C 0 0, 0) (ae, .inl (G 1, 124, .inl (fun _ => 0)))) (6, S.C 0 0, 0) (al, .inr (4, [.ref (G 0), .int 0, .int 0]))) (4, S.C 0 0, 0) (a, .inr (1, [.int le, .int mx, .long sp, .ref ae, .ref al, .int 0, .int 0, .int 0, .int 0, .int 0, .int 0]))) (1, 0, 0) (2, 0, 0) (S.ad 1 0 0) (S.I 6 0 0) hn (by simp) a (4, S.C 0 0, 0) [.int le, .int mx, .long sp, .ref ae, .ref al, .int 0, .int 0, .int 0, .int 0, .int 0, .int 0] (hm_up_s _ _ _) (by simp) (by simp)) m_194 m_191 m_192 m_193 m_4 (by decide +kernel) ⟨Nat.le_of_ble_eq_true rfl, Nat.le_of_ble_eq_true rfl⟩ ⟨rfl, rfl⟩ (hm_recv ⟨X, hK.1⟩ hY hn rfl) rfl hl.1 rfl (Nat.le_of_ble_eq_true rfl) d_W_part_84 ⟨Nat.le_of_ble_eq_true rfl, Nat.le_of_ble_eq_true rfl⟩) hY (fun v w1 H locs hp hY => ?_)
              obtain ⟨b, rfl, rfl⟩ := hp
              refine W.eq (g2 := F0 m 87 ls [.int 1]) rfl ?_
              have hY : hm_Y D cls A s.heap (wS G (newP S a ae al b le mx sp) ω) H locs := by rw [← wP_eq (rfs_up40 S a h0), show nI (S.C 0 0 + 1) = 1 by rw [h0]; rfl, show cap (S.C 0 0 + 1) = 10 by rw [h0]; rfl]; exact hY
              refine W.widen (k := 4) (n := 160) (Nat.le_of_ble_eq_true rfl) (Nat.le_of_ble_eq_true rfl) ?_
              have hA0 : (newP S a ae al b le mx sp).ad 0 0 0 = S.ad 0 0 0 := nP_A (by decide) (Or.inl (by decide))
              have hl : lv_has ls 5 [(0, .ref ((newP S a ae al b le mx sp).ad 0 0 0)), (1, .int le), (2, .int mx), (3, .long sp)] := by rw [hA0]; exact hl
              refine lv_pop X.1 X.2.1 d_W_part_87 rfl ?_
              refine lv_aload_n X.1 X.2.1 d_W_part_88 rfl (lv_at hl 0 rfl) ?_
              refine hm_get ⟨X, hK.1⟩ hY w0 0 (v := .ref ((newP S a ae al b le mx sp).ad 1 0 0)) rfl rfl (Nat.le_of_ble_eq_true rfl) hu_W m_74 (fun _ h => h) d_W_part_89 ?_
              refine hm_callR (ct_runV (n := 0) X hK hY (k_size1 l D A G (newP S a ae al b le mx sp) ω) m_116 m_113 m_114 m_115 m_4 (by decide +kernel) ⟨Nat.le_of_ble_eq_true rfl, Nat.le_of_ble_eq_true rfl⟩ ⟨rfl, rfl⟩ (hm_recv ⟨X, hK.1⟩ hY w1 rfl) rfl hl.1 rfl (Nat.le_of_ble_eq_true rfl) d_W_part_92 ⟨Nat.le_of_ble_eq_true rfl, Nat.le_of_ble_eq_true rfl⟩) (fun v hv => ?_)
              subst hv
              refine W.eq (g2 := F0 m 95 ls [.int (nI ((newP S a ae al b le mx sp).C 0 0))]) rfl ?_
              exact en_iW X hY hr hlocks d_W_part_95 (Or.inr (Or.inr ⟨hok, c5, a, ae, al, b, by rw [nP_C0], rfl⟩))
            · have hn : (hm_up (hm_up (hm_up (wS G S ω) (5, S.C 0 0, 0) (ae, .inl (G 1, 124, .inl (fun _ => 0)))) (6, S.C 0 0, 0) (al, .inr (4, [.ref (G 0), .int 0, .int 0]))) (4, S.C 0 0, 0) (a, .inr (1, [.int le, .int mx, .long sp, .ref ae, .ref al, .int 0, .int 0, .int 0, .int 0, .int 0, .int 0]))) (1, 0, 0) = some (S.ad 1 0 0, .inr (4, [.ref (S.ad 2 0 0), .int 10, .int (S.I 6 0 0)])) := by rw [hm_up_n _ _ (show (1, 0, 0) ≠ (4, S.C 0 0, 0) by simp), hm_up_n _ _ (show (1, 0, 0) ≠ (6, S.C 0 0, 0) by simp), hm_up_n _ _ (show (1, 0, 0) ≠ (5, S.C 0 0, 0) by simp), w1, fA_p (by omega), h0]; rfl
              have hb : (hm_up (hm_up (hm_up (wS G S ω) (5, S.C 0 0, 0) (ae, .inl (G 1, 124, .inl (fun _ => 0)))) (6, S.C 0 0, 0) (al, .inr (4, [.ref (G 0), .int 0, .int 0]))) (4, S.C 0 0, 0) (a, .inr (1, [.int le, .int mx, .long sp, .ref ae, .ref al, .int 0, .int 0, .int 0, .int 0, .int 0, .int 0]))) (2, 0, 0) = some (S.ad 2 0 0, .inl (G 4, 10, .inr (.inr (.inr (.inr (rfs 10 (fun j => S.ad 4 j 0))))))) := by rw [hm_up_n _ _ (show (2, 0, 0) ≠ (4, S.C 0 0, 0) by simp), hm_up_n _ _ (show (2, 0, 0) ≠ (6, S.C 0 0, 0) by simp), hm_up_n _ _ (show (2, 0, 0) ≠ (5, S.C 0 0, 0) by simp), w2 (by omega), h0]; rfl
              have hnt : (hm_up (hm_up (hm_up (wS G S ω) (5, S.C 0 0, 0) (ae, .inl (G 1, 124, .inl (fun _ => 0)))) (6, S.C 0 0, 0) (al, .inr (4, [.ref (G 0), .int 0, .int 0]))) (4, S.C 0 0, 0) (a, .inr (1, [.int le, .int mx, .long sp, .ref ae, .ref al, .int 0, .int 0, .int 0, .int 0, .int 0, .int 0]))) (99, 0, 0) = none := by rw [hm_up_n _ _ (show (99, 0, 0) ≠ (4, S.C 0 0, 0) by simp), hm_up_n _ _ (show (99, 0, 0) ≠ (6, S.C 0 0, 0) by simp), hm_up_n _ _ (show (99, 0, 0) ≠ (5, S.C 0 0, 0) by simp), wS_big (by decide)]; exact hω
              have hel : ∀ j y, rfs 10 (fun j => S.ad 4 j 0) j = some y → ∃ (nm : hm_N) (fs : List Value), (hm_up (hm_up (hm_up (wS G S ω) (5, S.C 0 0, 0) (ae, .inl (G 1, 124, .inl (fun _ => 0)))) (6, S.C 0 0, 0) (al, .inr (4, [.ref (G 0), .int 0, .int 0]))) (4, S.C 0 0, 0) (a, .inr (1, [.int le, .int mx, .long sp, .ref ae, .ref al, .int 0, .int 0, .int 0, .int 0, .int 0, .int 0]))) nm = some (y, .inr (1, fs)) := by
                intro j y hy
                have hj : j < 10 := by rcases Nat.lt_or_ge j 10 with q | q; exact q; simp [rfs, Nat.not_lt.mpr q] at hy
                have hy2 : y = S.ad 4 j 0 := by simp [rfs, hj] at hy; exact hy.symm
                have hne : j ≠ S.C 0 0 := by omega
                exact ⟨(4, j, 0), fP S j, by rw [hm_up_n _ _ (by simp [hne]), hm_up_n _ _ (by simp), hm_up_n _ _ (by simp), w4 (by omega), hy2]⟩
              refine hm_call (ct_runV (n := 1) X hK hY (k_A_add_m15P l D A G (hm_up (hm_up (hm_up (wS G S ω) (5, S.C 0 0, 0) (ae, .inl (G 1, 124, .inl (fun _ => 0)))) (6, S.C 0 0, 0) (al, .inr (4, [.ref (G 0), .int 0, .int 0]))) (4, S.C 0 0, 0) (a, .inr (1, [.int le, .int mx, .long sp, .ref ae, .ref al, .int 0, .int 0, .int 0, .int 0, .int 0, .int 0]))) (1, 0, 0) (2, 0, 0) (S.ad 1 0 0) (S.I 6 0 0) (S.ad 2 0 0) _ hn (by simp) hb hnt hel a (4, S.C 0 0, 0) [.int le, .int mx, .long sp, .ref ae, .ref al, .int 0, .int 0, .int 0, .int 0, .int 0, .int 0] (hm_up_s _ _ _) (by simp) (by simp)) m_194 m_191 m_192 m_193 m_4 (by decide +kernel) ⟨Nat.le_of_ble_eq_true rfl, Nat.le_of_ble_eq_true rfl⟩ ⟨rfl, rfl⟩ (hm_recv ⟨X, hK.1⟩ hY hn rfl) rfl hl.1 rfl (Nat.le_of_ble_eq_true rfl) d_W_part_84 ⟨Nat.le_of_ble_eq_true rfl, Nat.le_of_ble_eq_true rfl⟩) hY (fun v w1 H locs hp hY => ?_)
              obtain ⟨b, rfl, rfl⟩ := hp
              refine W.eq (g2 := F0 m 87 ls [.int 1]) rfl ?_
              have hY : hm_Y D cls A s.heap (wS G (newP S a ae al b le mx sp) ω) H locs := by rw [← wP_eq (rfs_up4g S a h0), show nI (S.C 0 0 + 1) = 11 by rw [h0]; rfl, show cap (S.C 0 0 + 1) = 15 by rw [h0]; rfl]; exact hY
              refine W.widen (k := 4) (n := 160) (Nat.le_of_ble_eq_true rfl) (Nat.le_of_ble_eq_true rfl) ?_
              have hA0 : (newP S a ae al b le mx sp).ad 0 0 0 = S.ad 0 0 0 := nP_A (by decide) (Or.inl (by decide))
              have hl : lv_has ls 5 [(0, .ref ((newP S a ae al b le mx sp).ad 0 0 0)), (1, .int le), (2, .int mx), (3, .long sp)] := by rw [hA0]; exact hl
              refine lv_pop X.1 X.2.1 d_W_part_87 rfl ?_
              refine lv_aload_n X.1 X.2.1 d_W_part_88 rfl (lv_at hl 0 rfl) ?_
              refine hm_get ⟨X, hK.1⟩ hY w0 0 (v := .ref ((newP S a ae al b le mx sp).ad 1 0 0)) rfl rfl (Nat.le_of_ble_eq_true rfl) hu_W m_74 (fun _ h => h) d_W_part_89 ?_
              refine hm_callR (ct_runV (n := 0) X hK hY (k_size1 l D A G (newP S a ae al b le mx sp) ω) m_116 m_113 m_114 m_115 m_4 (by decide +kernel) ⟨Nat.le_of_ble_eq_true rfl, Nat.le_of_ble_eq_true rfl⟩ ⟨rfl, rfl⟩ (hm_recv ⟨X, hK.1⟩ hY w1 rfl) rfl hl.1 rfl (Nat.le_of_ble_eq_true rfl) d_W_part_92 ⟨Nat.le_of_ble_eq_true rfl, Nat.le_of_ble_eq_true rfl⟩) (fun v hv => ?_)
              subst hv
              refine W.eq (g2 := F0 m 95 ls [.int (nI ((newP S a ae al b le mx sp).C 0 0))]) rfl ?_
              exact en_iW X hY hr hlocks d_W_part_95 (Or.inr (Or.inr ⟨hok, c5, a, ae, al, b, by rw [nP_C0], rfl⟩))
            · have hn : (hm_up (hm_up (hm_up (wS G S ω) (5, S.C 0 0, 0) (ae, .inl (G 1, 124, .inl (fun _ => 0)))) (6, S.C 0 0, 0) (al, .inr (4, [.ref (G 0), .int 0, .int 0]))) (4, S.C 0 0, 0) (a, .inr (1, [.int le, .int mx, .long sp, .ref ae, .ref al, .int 0, .int 0, .int 0, .int 0, .int 0, .int 0]))) (1, 0, 0) = some (S.ad 1 0 0, .inr (4, [.ref (S.ad 2 0 0), .int 15, .int (S.I 6 0 0)])) := by rw [hm_up_n _ _ (show (1, 0, 0) ≠ (4, S.C 0 0, 0) by simp), hm_up_n _ _ (show (1, 0, 0) ≠ (6, S.C 0 0, 0) by simp), hm_up_n _ _ (show (1, 0, 0) ≠ (5, S.C 0 0, 0) by simp), w1, fA_p (by omega), h0]; rfl
              have hb : (hm_up (hm_up (hm_up (wS G S ω) (5, S.C 0 0, 0) (ae, .inl (G 1, 124, .inl (fun _ => 0)))) (6, S.C 0 0, 0) (al, .inr (4, [.ref (G 0), .int 0, .int 0]))) (4, S.C 0 0, 0) (a, .inr (1, [.int le, .int mx, .long sp, .ref ae, .ref al, .int 0, .int 0, .int 0, .int 0, .int 0, .int 0]))) (2, 0, 0) = some (S.ad 2 0 0, .inl (G 4, 15, .inr (.inr (.inr (.inr (rfs 15 (fun j => S.ad 4 j 0))))))) := by rw [hm_up_n _ _ (show (2, 0, 0) ≠ (4, S.C 0 0, 0) by simp), hm_up_n _ _ (show (2, 0, 0) ≠ (6, S.C 0 0, 0) by simp), hm_up_n _ _ (show (2, 0, 0) ≠ (5, S.C 0 0, 0) by simp), w2 (by omega), h0]; rfl
              have hnt : (hm_up (hm_up (hm_up (wS G S ω) (5, S.C 0 0, 0) (ae, .inl (G 1, 124, .inl (fun _ => 0)))) (6, S.C 0 0, 0) (al, .inr (4, [.ref (G 0), .int 0, .int 0]))) (4, S.C 0 0, 0) (a, .inr (1, [.int le, .int mx, .long sp, .ref ae, .ref al, .int 0, .int 0, .int 0, .int 0, .int 0, .int 0]))) (99, 0, 0) = none := by rw [hm_up_n _ _ (show (99, 0, 0) ≠ (4, S.C 0 0, 0) by simp), hm_up_n _ _ (show (99, 0, 0) ≠ (6, S.C 0 0, 0) by simp), hm_up_n _ _ (show (99, 0, 0) ≠ (5, S.C 0 0, 0) by simp), wS_big (by decide)]; exact hω
              have hel : ∀ j y, rfs 15 (fun j => S.ad 4 j 0) j = some y → ∃ (nm : hm_N) (fs : List Value), (hm_up (hm_up (hm_up (wS G S ω) (5, S.C 0 0, 0) (ae, .inl (G 1, 124, .inl (fun _ => 0)))) (6, S.C 0 0, 0) (al, .inr (4, [.ref (G 0), .int 0, .int 0]))) (4, S.C 0 0, 0) (a, .inr (1, [.int le, .int mx, .long sp, .ref ae, .ref al, .int 0, .int 0, .int 0, .int 0, .int 0, .int 0]))) nm = some (y, .inr (1, fs)) := by
                intro j y hy
                have hj : j < 15 := by rcases Nat.lt_or_ge j 15 with q | q; exact q; simp [rfs, Nat.not_lt.mpr q] at hy
                have hy2 : y = S.ad 4 j 0 := by simp [rfs, hj] at hy; exact hy.symm
                have hne : j ≠ S.C 0 0 := by omega
                exact ⟨(4, j, 0), fP S j, by rw [hm_up_n _ _ (by simp [hne]), hm_up_n _ _ (by simp), hm_up_n _ _ (by simp), w4 (by omega), hy2]⟩
              refine hm_call (ct_runV (n := 1) X hK hY (k_A_add_m22P l D A G (hm_up (hm_up (hm_up (wS G S ω) (5, S.C 0 0, 0) (ae, .inl (G 1, 124, .inl (fun _ => 0)))) (6, S.C 0 0, 0) (al, .inr (4, [.ref (G 0), .int 0, .int 0]))) (4, S.C 0 0, 0) (a, .inr (1, [.int le, .int mx, .long sp, .ref ae, .ref al, .int 0, .int 0, .int 0, .int 0, .int 0, .int 0]))) (1, 0, 0) (2, 0, 0) (S.ad 1 0 0) (S.I 6 0 0) (S.ad 2 0 0) _ hn (by simp) hb hnt hel a (4, S.C 0 0, 0) [.int le, .int mx, .long sp, .ref ae, .ref al, .int 0, .int 0, .int 0, .int 0, .int 0, .int 0] (hm_up_s _ _ _) (by simp) (by simp)) m_194 m_191 m_192 m_193 m_4 (by decide +kernel) ⟨Nat.le_of_ble_eq_true rfl, Nat.le_of_ble_eq_true rfl⟩ ⟨rfl, rfl⟩ (hm_recv ⟨X, hK.1⟩ hY hn rfl) rfl hl.1 rfl (Nat.le_of_ble_eq_true rfl) d_W_part_84 ⟨Nat.le_of_ble_eq_true rfl, Nat.le_of_ble_eq_true rfl⟩) hY (fun v w1 H locs hp hY => ?_)
              obtain ⟨b, rfl, rfl⟩ := hp
              refine W.eq (g2 := F0 m 87 ls [.int 1]) rfl ?_
              have hY : hm_Y D cls A s.heap (wS G (newP S a ae al b le mx sp) ω) H locs := by rw [← wP_eq (rfs_up4g S a h0), show nI (S.C 0 0 + 1) = 16 by rw [h0]; rfl, show cap (S.C 0 0 + 1) = 22 by rw [h0]; rfl]; exact hY
              refine W.widen (k := 4) (n := 160) (Nat.le_of_ble_eq_true rfl) (Nat.le_of_ble_eq_true rfl) ?_
              have hA0 : (newP S a ae al b le mx sp).ad 0 0 0 = S.ad 0 0 0 := nP_A (by decide) (Or.inl (by decide))
              have hl : lv_has ls 5 [(0, .ref ((newP S a ae al b le mx sp).ad 0 0 0)), (1, .int le), (2, .int mx), (3, .long sp)] := by rw [hA0]; exact hl
              refine lv_pop X.1 X.2.1 d_W_part_87 rfl ?_
              refine lv_aload_n X.1 X.2.1 d_W_part_88 rfl (lv_at hl 0 rfl) ?_
              refine hm_get ⟨X, hK.1⟩ hY w0 0 (v := .ref ((newP S a ae al b le mx sp).ad 1 0 0)) rfl rfl (Nat.le_of_ble_eq_true rfl) hu_W m_74 (fun _ h => h) d_W_part_89 ?_
              refine hm_callR (ct_runV (n := 0) X hK hY (k_size1 l D A G (newP S a ae al b le mx sp) ω) m_116 m_113 m_114 m_115 m_4 (by decide +kernel) ⟨Nat.le_of_ble_eq_true rfl, Nat.le_of_ble_eq_true rfl⟩ ⟨rfl, rfl⟩ (hm_recv ⟨X, hK.1⟩ hY w1 rfl) rfl hl.1 rfl (Nat.le_of_ble_eq_true rfl) d_W_part_92 ⟨Nat.le_of_ble_eq_true rfl, Nat.le_of_ble_eq_true rfl⟩) (fun v hv => ?_)
              subst hv
              refine W.eq (g2 := F0 m 95 ls [.int (nI ((newP S a ae al b le mx sp).C 0 0))]) rfl ?_
              exact en_iW X hY hr hlocks d_W_part_95 (Or.inr (Or.inr ⟨hok, c5, a, ae, al, b, by rw [nP_C0], rfl⟩))
            · have hn : (hm_up (hm_up (hm_up (wS G S ω) (5, S.C 0 0, 0) (ae, .inl (G 1, 124, .inl (fun _ => 0)))) (6, S.C 0 0, 0) (al, .inr (4, [.ref (G 0), .int 0, .int 0]))) (4, S.C 0 0, 0) (a, .inr (1, [.int le, .int mx, .long sp, .ref ae, .ref al, .int 0, .int 0, .int 0, .int 0, .int 0, .int 0]))) (1, 0, 0) = some (S.ad 1 0 0, .inr (4, [.ref (S.ad 2 0 0), .int (nI (S.C 0 0)), .int (S.I 6 0 0)])) := by rw [hm_up_n _ _ (show (1, 0, 0) ≠ (4, S.C 0 0, 0) by simp), hm_up_n _ _ (show (1, 0, 0) ≠ (6, S.C 0 0, 0) by simp), hm_up_n _ _ (show (1, 0, 0) ≠ (5, S.C 0 0, 0) by simp), w1, fA_p (by omega)]
              have hb : (hm_up (hm_up (hm_up (wS G S ω) (5, S.C 0 0, 0) (ae, .inl (G 1, 124, .inl (fun _ => 0)))) (6, S.C 0 0, 0) (al, .inr (4, [.ref (G 0), .int 0, .int 0]))) (4, S.C 0 0, 0) (a, .inr (1, [.int le, .int mx, .long sp, .ref ae, .ref al, .int 0, .int 0, .int 0, .int 0, .int 0, .int 0]))) (2, 0, 0) = some (S.ad 2 0 0, .inl (G 4, cap (S.C 0 0), .inr (.inr (.inr (.inr (rfs (S.C 0 0) (fun j => S.ad 4 j 0))))))) := by rw [hm_up_n _ _ (show (2, 0, 0) ≠ (4, S.C 0 0, 0) by simp), hm_up_n _ _ (show (2, 0, 0) ≠ (6, S.C 0 0, 0) by simp), hm_up_n _ _ (show (2, 0, 0) ≠ (5, S.C 0 0, 0) by simp), w2 (by omega)]
              refine hm_call (ct_runV (n := 1) X hK hY (k_A_add_rP l D A G (hm_up (hm_up (hm_up (wS G S ω) (5, S.C 0 0, 0) (ae, .inl (G 1, 124, .inl (fun _ => 0)))) (6, S.C 0 0, 0) (al, .inr (4, [.ref (G 0), .int 0, .int 0]))) (4, S.C 0 0, 0) (a, .inr (1, [.int le, .int mx, .long sp, .ref ae, .ref al, .int 0, .int 0, .int 0, .int 0, .int 0, .int 0]))) (1, 0, 0) (2, 0, 0) (S.ad 1 0 0) (S.I 6 0 0) (S.ad 2 0 0) (cap (S.C 0 0)) (S.C 0 0) _ hn (by simp) hb hcp (by have := cap_le h20; omega) a (4, S.C 0 0, 0) [.int le, .int mx, .long sp, .ref ae, .ref al, .int 0, .int 0, .int 0, .int 0, .int 0, .int 0] (hm_up_s _ _ _) (by simp) (by simp)) m_194 m_191 m_192 m_193 m_4 (by decide +kernel) ⟨Nat.le_of_ble_eq_true rfl, Nat.le_of_ble_eq_true rfl⟩ ⟨rfl, rfl⟩ (hm_recv ⟨X, hK.1⟩ hY hn rfl) rfl hl.1 rfl (Nat.le_of_ble_eq_true rfl) d_W_part_84 ⟨Nat.le_of_ble_eq_true rfl, Nat.le_of_ble_eq_true rfl⟩) hY (fun v w1 H locs hp hY => ?_)
              obtain ⟨rfl, rfl⟩ := hp
              refine W.eq (g2 := F0 m 87 ls [.int 1]) rfl ?_
              have hY : hm_Y D cls A s.heap (wS G (newP S a ae al (S.ad 2 0 0) le mx sp) ω) H locs := by rw [← wP_eq (rfs_up4 S a), hce]; exact hY
              refine W.widen (k := 4) (n := 160) (Nat.le_of_ble_eq_true rfl) (Nat.le_of_ble_eq_true rfl) ?_
              have hA0 : (newP S a ae al (S.ad 2 0 0) le mx sp).ad 0 0 0 = S.ad 0 0 0 := nP_A (by decide) (Or.inl (by decide))
              have hl : lv_has ls 5 [(0, .ref ((newP S a ae al (S.ad 2 0 0) le mx sp).ad 0 0 0)), (1, .int le), (2, .int mx), (3, .long sp)] := by rw [hA0]; exact hl
              refine lv_pop X.1 X.2.1 d_W_part_87 rfl ?_
              refine lv_aload_n X.1 X.2.1 d_W_part_88 rfl (lv_at hl 0 rfl) ?_
              refine hm_get ⟨X, hK.1⟩ hY w0 0 (v := .ref ((newP S a ae al (S.ad 2 0 0) le mx sp).ad 1 0 0)) rfl rfl (Nat.le_of_ble_eq_true rfl) hu_W m_74 (fun _ h => h) d_W_part_89 ?_
              refine hm_callR (ct_runV (n := 0) X hK hY (k_size1 l D A G (newP S a ae al (S.ad 2 0 0) le mx sp) ω) m_116 m_113 m_114 m_115 m_4 (by decide +kernel) ⟨Nat.le_of_ble_eq_true rfl, Nat.le_of_ble_eq_true rfl⟩ ⟨rfl, rfl⟩ (hm_recv ⟨X, hK.1⟩ hY w1 rfl) rfl hl.1 rfl (Nat.le_of_ble_eq_true rfl) d_W_part_92 ⟨Nat.le_of_ble_eq_true rfl, Nat.le_of_ble_eq_true rfl⟩) (fun v hv => ?_)
              subst hv
              refine W.eq (g2 := F0 m 95 ls [.int (nI ((newP S a ae al (S.ad 2 0 0) le mx sp).C 0 0))]) rfl ?_
              exact en_iW X hY hr hlocks d_W_part_95 (Or.inr (Or.inr ⟨hok, c5, a, ae, al, (S.ad 2 0 0), by rw [nP_C0], rfl⟩))
          · exact absurd ⟨hok, c5, c4⟩ hth
        · have c5 : ¬ S.C 0 0 < 20 := fun q => c5 (nI_lt (b := 20) q (by omega))
          refine lv_bipush (v := (-4)) X.1 X.2.1 d_W_part_51 (by decide) ?_
          refine W.widen (k := 4) (n := 160) (Nat.le_of_ble_eq_true rfl) (Nat.le_of_ble_eq_true rfl) ?_
          exact en_iW X hY hr hlocks d_W_part_53 (Or.inr (Or.inl ⟨hok, c5, rfl, rfl⟩))
      · have c3 : ¬ (0 ≤ sp ∧ sp ≤ 100) := b2_0.mp c3
        refine lv_bipush (v := (-2)) X.1 X.2.1 d_W_part_36 (by decide) ?_
        refine W.widen (k := 4) (n := 160) (Nat.le_of_ble_eq_true rfl) (Nat.le_of_ble_eq_true rfl) ?_
        exact en_iW X hY hr hlocks d_W_part_38 (Or.inl ⟨fun z => c3 z.2.2, rfl, rfl⟩)
