theorem newD_C1 (S : cS) (i q b : Nat) (mo fr to : Int32) (lo hi : Int64) : (newD S i q b mo fr to lo hi).C 1 i = S.C 1 i + 1 := up2_s _ _ _ _
theorem rfs_up8 (S : cS) (i q : Nat) : va_up (rfs (S.C 1 i) (S.ad 8 i)) (S.C 1 i) (some q) = rfs (S.C 1 i + 1) (up3 S.ad 8 i (S.C 1 i) q 8 i) := by
  funext j
  by_cases h : j = S.C 1 i
  · subst h
    simp [va_up, rfs, up3]
  · by_cases h2 : j < S.C 1 i
    · simp [va_up, rfs, up3, h, h2, Nat.lt_succ_of_lt h2]
    · have : ¬ j < S.C 1 i + 1 := by omega
      simp [va_up, rfs, h, h2, this]
theorem rfs_up80 (S : cS) (i q : Nat) (h0 : S.C 1 i = 0) : va_up (fun _ => none) 0 (some q) = rfs (S.C 1 i + 1) (up3 S.ad 8 i (S.C 1 i) q 8 i) := by
  rw [← rfs_up8, h0]
  funext j
  by_cases h : j = 0 <;> simp [va_up, rfs, h]
abbrev okD (fr to : Int32) (lo hi : Int64) : Prop := isPt fr ∧ isPt to ∧ (0 ≤ lo ∧ lo ≤ 100000) ∧ (lo ≤ hi ∧ hi ≤ 100000)
def dlP (G : Nat → Nat) (S : cS) (ω : hm_T) (i : Nat) (fr to : Int32) (lo hi : Int64) (v : Option Value) (w : hm_T) : Prop :=
  (¬ okD fr to lo hi ∧ v = some (.int (-2)) ∧ w = wS G S ω) ∨ (okD fr to lo hi ∧ ¬ S.C 1 i < 10 ∧ v = some (.int (-4)) ∧ w = wS G S ω) ∨
  (okD fr to lo hi ∧ S.C 1 i < 10 ∧ ∃ q b, v = some (.int (nI (S.C 1 i + 1))) ∧ w = wS G (newD S i q b (S.I 0 0 0) fr to lo hi) ω)

set_option maxHeartbeats 4000000 in
set_option maxRecDepth 100000 in
theorem k_W_deadline_y (l : Launch) (D : va_G) (A : Nat → Prop) (G : Nat → Nat) (S : cS) (ω : hm_T) (h20 : S.C 0 0 ≤ 20) (hall : ∀ i, i < S.C 0 0 → S.C 1 i ≤ 10) (i : Nat) (hi : i < S.C 0 0) (fr to : Int32) (lo hi2 : Int64) : Met l y_W_deadline (.code y_W_deadline c_W_deadline 9 (some .int) :: wsA) { frames := 8, cells := 2, slots := 17, locals := 171 } (va_Pc [.ref (S.ad 0 0 0), .int (nI (i + 1)), .int fr, .int to, .long lo, .long hi2] (ctU D A G (wS G S ω))) (hm_Q D cls A (dlP G S ω i fr to lo hi2)) 2 17 A := by
  refine ct_met (by decide) (Nat.le_of_ble_eq_true rfl) ?_
  rintro p e s m below meth c ls X hr hlocks hnm hl ⟨hB, hK⟩
  have hl : lv_has ls 9 [(0, .ref (S.ad 0 0 0)), (1, .int (nI (i + 1))), (2, .int fr), (3, .int to), (4, .long lo), (6, .long hi2)] := hl
  have hY : hm_Y D cls A s.heap (wS G S ω) s.heap [] := hm_Y.start hB hK.2.2.2
  refine lv_aload_n X.1 X.2.1 d_W_deadline_0 rfl (lv_at hl 0 rfl) ?_
  refine lv_iload_n X.1 X.2.1 d_W_deadline_1 rfl (lv_at hl 1 rfl) ?_
  refine hm_callR (ct_runV (n := 1) X hK hY (k_findPart l D A G S ω i hi h20) m_112 m_109 m_111 ms_W_findPart m_1 (by decide +kernel) ⟨Nat.le_of_ble_eq_true rfl, Nat.le_of_ble_eq_true rfl⟩ ⟨rfl, rfl⟩ (hm_recv ⟨X, hK.1⟩ hY w0 rfl) rfl hl.1 rfl (Nat.le_of_ble_eq_true rfl) d_W_deadline_2 ⟨Nat.le_of_ble_eq_true rfl, Nat.le_of_ble_eq_true rfl⟩) (fun v hv => ?_)
  subst hv
  refine W.eq (g2 := F0 m 5 ls [.ref (S.ad 4 i 0)]) rfl ?_
  refine lv_astore (lv' := [(8, .ref (S.ad 4 i 0)), (0, .ref (S.ad 0 0 0)), (1, .int (nI (i + 1))), (2, .int fr), (3, .int to), (4, .long lo), (6, .long hi2)]) X.1 X.2.1 d_W_deadline_5 hl (by decide) rfl (fun ls hl => ?_)
  refine lv_aload X.1 X.2.1 d_W_deadline_7 (lv_at hl 0 rfl) ?_
  refine lv_ifnonnull (tgt := 14) X.1 X.2.1 d_W_deadline_9 (by decide) ?_
  refine lv_iload_n X.1 X.2.1 d_W_deadline_14 rfl (lv_at hl 3 rfl) ?_
  refine hm_callR (ct_runS (n := 1) X hK hY (k_W_isPoint l D A G (wS G S ω) fr) m_137 m_135 m_136 m_1 (by decide +kernel) ⟨Nat.le_of_ble_eq_true rfl, Nat.le_of_ble_eq_true rfl⟩ ⟨rfl, rfl⟩ rfl hl.1 rfl (Nat.le_of_ble_eq_true rfl) d_W_deadline_15 ⟨Nat.le_of_ble_eq_true rfl, Nat.le_of_ble_eq_true rfl⟩) (fun v hv => ?_)
  subst hv
  refine W.eq (g2 := F0 m 18 ls [.int (b2 (isPt fr))]) rfl ?_
  refine lv_if_eq (tgt := 53) X.1 X.2.1 d_W_deadline_18 (by decide) (fun c1 => ?_) (fun c1 => ?_)
  · have c1 : ¬ (isPt fr) := b2_0.mp c1
    refine lv_bipush (v := (-2)) X.1 X.2.1 d_W_deadline_53 (by decide) ?_
    refine W.widen (k := 2) (n := 17) (Nat.le_of_ble_eq_true rfl) (Nat.le_of_ble_eq_true rfl) ?_
    exact en_iW X hY hr hlocks d_W_deadline_55 (Or.inl ⟨fun z => c1 z.1, rfl, rfl⟩)
  · have c1 : (isPt fr) := Classical.byContradiction (fun z => c1 (b2_0.mpr z))
    refine lv_iload_n X.1 X.2.1 d_W_deadline_21 rfl (lv_at hl 4 rfl) ?_
    refine hm_callR (ct_runS (n := 1) X hK hY (k_W_isPoint l D A G (wS G S ω) to) m_137 m_135 m_136 m_1 (by decide +kernel) ⟨Nat.le_of_ble_eq_true rfl, Nat.le_of_ble_eq_true rfl⟩ ⟨rfl, rfl⟩ rfl hl.1 rfl (Nat.le_of_ble_eq_true rfl) d_W_deadline_22 ⟨Nat.le_of_ble_eq_true rfl, Nat.le_of_ble_eq_true rfl⟩) (fun v hv => ?_)
    subst hv
    refine W.eq (g2 := F0 m 25 ls [.int (b2 (isPt to))]) rfl ?_
    refine lv_if_eq (tgt := 53) X.1 X.2.1 d_W_deadline_25 (by decide) (fun c2 => ?_) (fun c2 => ?_)
    · have c2 : ¬ (isPt to) := b2_0.mp c2
      refine lv_bipush (v := (-2)) X.1 X.2.1 d_W_deadline_53 (by decide) ?_
      refine W.widen (k := 2) (n := 17) (Nat.le_of_ble_eq_true rfl) (Nat.le_of_ble_eq_true rfl) ?_
      exact en_iW X hY hr hlocks d_W_deadline_55 (Or.inl ⟨fun z => c2 z.2.1, rfl, rfl⟩)
    · have c2 : (isPt to) := Classical.byContradiction (fun z => c2 (b2_0.mpr z))
      refine lv_lload X.1 X.2.1 d_W_deadline_28 (lv_at hl 5 rfl) ?_
      refine lv_lconst (v := 0) X.1 X.2.1 d_W_deadline_30 (by decide) ?_
      refine lv_ldc2 X.1 X.2.1 X.2.2.2.1 (X.2.2.2.2 _ m_155) d_W_deadline_31 ?_
      refine hm_callR (ct_runS (n := 3) X hK hY (k_W_isWithin l D A G (wS G S ω) lo 0 100000) m_119 m_117 m_118 m_1 (by decide +kernel) ⟨Nat.le_of_ble_eq_true rfl, Nat.le_of_ble_eq_true rfl⟩ ⟨rfl, rfl⟩ rfl hl.1 rfl (Nat.le_of_ble_eq_true rfl) d_W_deadline_34 ⟨Nat.le_of_ble_eq_true rfl, Nat.le_of_ble_eq_true rfl⟩) (fun v hv => ?_)
      subst hv
      refine W.eq (g2 := F0 m 37 ls [.int (b2 (0 ≤ lo ∧ lo ≤ 100000))]) rfl ?_
      refine lv_if_eq (tgt := 53) X.1 X.2.1 d_W_deadline_37 (by decide) (fun c3 => ?_) (fun c3 => ?_)
      · have c3 : ¬ (0 ≤ lo ∧ lo ≤ 100000) := b2_0.mp c3
        refine lv_bipush (v := (-2)) X.1 X.2.1 d_W_deadline_53 (by decide) ?_
        refine W.widen (k := 2) (n := 17) (Nat.le_of_ble_eq_true rfl) (Nat.le_of_ble_eq_true rfl) ?_
        exact en_iW X hY hr hlocks d_W_deadline_55 (Or.inl ⟨fun z => c3 z.2.2.1, rfl, rfl⟩)
      · have c3 : (0 ≤ lo ∧ lo ≤ 100000) := Classical.byContradiction (fun z => c3 (b2_0.mpr z))
        refine lv_lload X.1 X.2.1 d_W_deadline_40 (lv_at hl 6 rfl) ?_
        refine lv_lload X.1 X.2.1 d_W_deadline_42 (lv_at hl 5 rfl) ?_
        refine lv_ldc2 X.1 X.2.1 X.2.2.2.1 (X.2.2.2.2 _ m_155) d_W_deadline_44 ?_
        refine hm_callR (ct_runS (n := 3) X hK hY (k_W_isWithin l D A G (wS G S ω) hi2 lo 100000) m_119 m_117 m_118 m_1 (by decide +kernel) ⟨Nat.le_of_ble_eq_true rfl, Nat.le_of_ble_eq_true rfl⟩ ⟨rfl, rfl⟩ rfl hl.1 rfl (Nat.le_of_ble_eq_true rfl) d_W_deadline_47 ⟨Nat.le_of_ble_eq_true rfl, Nat.le_of_ble_eq_true rfl⟩) (fun v hv => ?_)
        subst hv
        refine W.eq (g2 := F0 m 50 ls [.int (b2 (lo ≤ hi2 ∧ hi2 ≤ 100000))]) rfl ?_
        refine lv_if_ne (tgt := 56) X.1 X.2.1 d_W_deadline_50 (by decide) (fun c4 => ?_) (fun c4 => ?_)
        · have c4 : (lo ≤ hi2 ∧ hi2 ≤ 100000) := Classical.byContradiction (fun z => c4 (b2_0.mpr z))
          refine lv_aload X.1 X.2.1 d_W_deadline_56 (lv_at hl 0 rfl) ?_
          refine hm_get ⟨X, hK.1⟩ hY (w4 hi) 4 (v := .ref (S.ad 6 i 0)) rfl rfl (Nat.le_of_ble_eq_true rfl) hu_P m_448 (fun _ h => h) d_W_deadline_58 ?_
          refine hm_callR (ct_runV (n := 0) X hK hY (k_size6 l D A G S ω i hi) m_116 m_113 m_114 m_115 m_4 (by decide +kernel) ⟨Nat.le_of_ble_eq_true rfl, Nat.le_of_ble_eq_true rfl⟩ ⟨rfl, rfl⟩ (hm_recv ⟨X, hK.1⟩ hY (w6 hi) rfl) rfl hl.1 rfl (Nat.le_of_ble_eq_true rfl) d_W_deadline_61 ⟨Nat.le_of_ble_eq_true rfl, Nat.le_of_ble_eq_true rfl⟩) (fun v hv => ?_)
          subst hv
          refine W.eq (g2 := F0 m 64 ls [.int (nI (S.C 1 i))]) rfl ?_
          refine lv_bipush (v := 10) X.1 X.2.1 d_W_deadline_64 (by decide) ?_
          have hten := hall i hi
          refine lv_icmp_lt (tgt := 72) X.1 X.2.1 d_W_deadline_66 (by decide) (fun c5 => ?_) (fun c5 => ?_)
          · have c5 : S.C 1 i < 10 := by rcases Nat.lt_or_ge (S.C 1 i) 10 with q | q; exact q; exact absurd c5 (nI_nlt (b := 10) q (by omega))
            have hok : okD fr to lo hi2 := ⟨c1, c2, c3, c4⟩
            refine lv_aload X.1 X.2.1 d_W_deadline_72 (lv_at hl 0 rfl) ?_
            refine hm_get ⟨X, hK.1⟩ hY (w4 hi) 4 (v := .ref (S.ad 6 i 0)) rfl rfl (Nat.le_of_ble_eq_true rfl) hu_P m_448 (fun _ h => h) d_W_deadline_74 ?_
            refine hm_new ⟨X, hK.1⟩ hY (8, i, S.C 1 i) [.int 0, .int 0, .int 0, .long 0, .long 0, .int 0, .long 0] (ci := 2) rfl hu_D ty_D ty_D_ok m_156 m_157 m_18 (fun j hj => by rcases (show j = 0 ∨ j = 1 ∨ j = 2 ∨ j = 3 ∨ j = 4 ∨ j = 5 ∨ j = 6 by omega) with rfl | rfl | rfl | rfl | rfl | rfl | rfl <;> rfl) (Nat.le_of_ble_eq_true rfl) (Nat.le_of_ble_eq_true rfl) d_W_deadline_77 (fun q H hY => ?_)
            refine lv_dup X.1 X.2.1 d_W_deadline_80 rfl ?_
            refine lv_aload_n X.1 X.2.1 d_W_deadline_81 rfl (lv_at hl 1 rfl) ?_
            refine hm_get ⟨X, hK.1⟩ hY ((hm_up_n _ _ (by simp)).trans w0) 2 (v := .int (S.I 0 0 0)) rfl rfl (Nat.le_of_ble_eq_true rfl) hu_W m_76 (fun _ h => h) d_W_deadline_82 ?_
            refine lv_iload_n X.1 X.2.1 d_W_deadline_85 rfl (lv_at hl 3 rfl) ?_
            refine lv_iload_n X.1 X.2.1 d_W_deadline_86 rfl (lv_at hl 4 rfl) ?_
            refine lv_lload X.1 X.2.1 d_W_deadline_87 (lv_at hl 5 rfl) ?_
            refine lv_lload X.1 X.2.1 d_W_deadline_89 (lv_at hl 6 rfl) ?_
            refine hm_call (ct_runI (n := 5) X hK hY (k_D_init l D A G (hm_up (wS G S ω) (8, i, S.C 1 i) (q, .inr (2, [.int 0, .int 0, .int 0, .long 0, .long 0, .int 0, .long 0]))) (8, i, S.C 1 i) q (.int 0) (.int 0) (.int 0) (.long 0) (.long 0) (.int 0) (.long 0) (hm_up_s _ _ _) (S.I 0 0 0) fr to lo hi2) m_160 m_158 m_159 m_18 rfl (by decide +kernel) ⟨Nat.le_of_ble_eq_true rfl, Nat.le_of_ble_eq_true rfl⟩ ⟨rfl, rfl⟩ rfl hl.1 rfl (Nat.le_of_ble_eq_true rfl) d_W_deadline_91 ⟨Nat.le_of_ble_eq_true rfl, Nat.le_of_ble_eq_true rfl⟩) hY (fun v w1 H locs hp hY => ?_)
            obtain ⟨rfl, rfl⟩ := hp
            have hY : hm_Y D cls A s.heap (hm_up (wS G S ω) (8, i, S.C 1 i) (q, .inr (2, [.int (S.I 0 0 0), .int fr, .int to, .long lo, .long hi2, .int 0, .long 0]))) H locs := by rw [hm_uu] at hY; exact hY
            refine W.eq (g2 := F0 m 94 ls [.ref q, .ref (S.ad 6 i 0)]) rfl ?_
            rcases Nat.eq_zero_or_pos (S.C 1 i) with h0 | h0
            · have hn : (hm_up (wS G S ω) (8, i, S.C 1 i) (q, .inr (2, [.int (S.I 0 0 0), .int fr, .int to, .long lo, .long hi2, .int 0, .long 0]))) (6, i, 0) = some (S.ad 6 i 0, .inr (4, [.ref (G 0), .int 0, .int (S.I 19 i 0)])) := by rw [hm_up_n _ _ (by simp), w6 hi, h0]; rfl
              refine hm_call (ct_runV (n := 1) X hK hY (k_A_add_fD l D A G (hm_up (wS G S ω) (8, i, S.C 1 i) (q, .inr (2, [.int (S.I 0 0 0), .int fr, .int to, .long lo, .long hi2, .int 0, .long 0]))) (6, i, 0) (7, i, 0) (S.ad 6 i 0) (S.I 19 i 0) hn (by simp) q (8, i, S.C 1 i) [.int (S.I 0 0 0), .int fr, .int to, .long lo, .long hi2, .int 0, .long 0] (hm_up_s _ _ _) (by simp) (by simp)) m_194 m_191 m_192 m_193 m_4 (by decide +kernel) ⟨Nat.le_of_ble_eq_true rfl, Nat.le_of_ble_eq_true rfl⟩ ⟨rfl, rfl⟩ (hm_recv ⟨X, hK.1⟩ hY hn rfl) rfl hl.1 rfl (Nat.le_of_ble_eq_true rfl) d_W_deadline_94 ⟨Nat.le_of_ble_eq_true rfl, Nat.le_of_ble_eq_true rfl⟩) hY (fun v w1 H locs hp hY => ?_)
              obtain ⟨b, rfl, rfl⟩ := hp
              refine W.eq (g2 := F0 m 97 ls [.int 1]) rfl ?_
              have hY : hm_Y D cls A s.heap (wS G (newD S i q b (S.I 0 0 0) fr to lo hi2) ω) H locs := by rw [← wD_eq hi (rfs_up80 S i q h0), show nI (S.C 1 i + 1) = 1 by rw [h0]; rfl]; exact hY
              refine W.widen (k := 2) (n := 17) (Nat.le_of_ble_eq_true rfl) (Nat.le_of_ble_eq_true rfl) ?_
              have hl : lv_has ls 9 [(8, .ref ((newD S i q b (S.I 0 0 0) fr to lo hi2).ad 4 i 0)), (0, .ref ((newD S i q b (S.I 0 0 0) fr to lo hi2).ad 0 0 0)), (1, .int (nI (i + 1))), (2, .int fr), (3, .int to), (4, .long lo), (6, .long hi2)] := hl
              refine lv_pop X.1 X.2.1 d_W_deadline_97 rfl ?_
              refine lv_aload X.1 X.2.1 d_W_deadline_98 (lv_at hl 0 rfl) ?_
              refine hm_get ⟨X, hK.1⟩ hY (w4 hi) 4 (v := .ref ((newD S i q b (S.I 0 0 0) fr to lo hi2).ad 6 i 0)) rfl rfl (Nat.le_of_ble_eq_true rfl) hu_P m_448 (fun _ h => h) d_W_deadline_100 ?_
              refine hm_callR (ct_runV (n := 0) X hK hY (k_size6 l D A G (newD S i q b (S.I 0 0 0) fr to lo hi2) ω i hi) m_116 m_113 m_114 m_115 m_4 (by decide +kernel) ⟨Nat.le_of_ble_eq_true rfl, Nat.le_of_ble_eq_true rfl⟩ ⟨rfl, rfl⟩ (hm_recv ⟨X, hK.1⟩ hY (w6 hi) rfl) rfl hl.1 rfl (Nat.le_of_ble_eq_true rfl) d_W_deadline_103 ⟨Nat.le_of_ble_eq_true rfl, Nat.le_of_ble_eq_true rfl⟩) (fun v hv => ?_)
              subst hv
              refine W.eq (g2 := F0 m 106 ls [.int (nI ((newD S i q b (S.I 0 0 0) fr to lo hi2).C 1 i))]) rfl ?_
              exact en_iW X hY hr hlocks d_W_deadline_106 (Or.inr (Or.inr ⟨hok, c5, q, b, by rw [newD_C1], rfl⟩))
            · have hn : (hm_up (wS G S ω) (8, i, S.C 1 i) (q, .inr (2, [.int (S.I 0 0 0), .int fr, .int to, .long lo, .long hi2, .int 0, .long 0]))) (6, i, 0) = some (S.ad 6 i 0, .inr (4, [.ref (S.ad 7 i 0), .int (nI (S.C 1 i)), .int (S.I 19 i 0)])) := by rw [hm_up_n _ _ (by simp), w6 hi, fA_p (by omega)]
              have hb : (hm_up (wS G S ω) (8, i, S.C 1 i) (q, .inr (2, [.int (S.I 0 0 0), .int fr, .int to, .long lo, .long hi2, .int 0, .long 0]))) (7, i, 0) = some (S.ad 7 i 0, .inl (G 4, 10, .inr (.inr (.inr (.inr (rfs (S.C 1 i) (S.ad 8 i))))))) := by rw [hm_up_n _ _ (by simp), w7 hi (by omega)]
              refine hm_call (ct_runV (n := 1) X hK hY (k_A_add_rD l D A G (hm_up (wS G S ω) (8, i, S.C 1 i) (q, .inr (2, [.int (S.I 0 0 0), .int fr, .int to, .long lo, .long hi2, .int 0, .long 0]))) (6, i, 0) (7, i, 0) (S.ad 6 i 0) (S.I 19 i 0) (S.ad 7 i 0) 10 (S.C 1 i) _ hn (by simp) hb c5 (by decide) q (8, i, S.C 1 i) [.int (S.I 0 0 0), .int fr, .int to, .long lo, .long hi2, .int 0, .long 0] (hm_up_s _ _ _) (by simp) (by simp)) m_194 m_191 m_192 m_193 m_4 (by decide +kernel) ⟨Nat.le_of_ble_eq_true rfl, Nat.le_of_ble_eq_true rfl⟩ ⟨rfl, rfl⟩ (hm_recv ⟨X, hK.1⟩ hY hn rfl) rfl hl.1 rfl (Nat.le_of_ble_eq_true rfl) d_W_deadline_94 ⟨Nat.le_of_ble_eq_true rfl, Nat.le_of_ble_eq_true rfl⟩) hY (fun v w1 H locs hp hY => ?_)
              obtain ⟨rfl, rfl⟩ := hp
              refine W.eq (g2 := F0 m 97 ls [.int 1]) rfl ?_
              have hY : hm_Y D cls A s.heap (wS G (newD S i q (S.ad 7 i 0) (S.I 0 0 0) fr to lo hi2) ω) H locs := by rw [← wD_eq hi (rfs_up8 S i q)]; exact hY
              refine W.widen (k := 2) (n := 17) (Nat.le_of_ble_eq_true rfl) (Nat.le_of_ble_eq_true rfl) ?_
              have hl : lv_has ls 9 [(8, .ref ((newD S i q (S.ad 7 i 0) (S.I 0 0 0) fr to lo hi2).ad 4 i 0)), (0, .ref ((newD S i q (S.ad 7 i 0) (S.I 0 0 0) fr to lo hi2).ad 0 0 0)), (1, .int (nI (i + 1))), (2, .int fr), (3, .int to), (4, .long lo), (6, .long hi2)] := hl
              refine lv_pop X.1 X.2.1 d_W_deadline_97 rfl ?_
              refine lv_aload X.1 X.2.1 d_W_deadline_98 (lv_at hl 0 rfl) ?_
              refine hm_get ⟨X, hK.1⟩ hY (w4 hi) 4 (v := .ref ((newD S i q (S.ad 7 i 0) (S.I 0 0 0) fr to lo hi2).ad 6 i 0)) rfl rfl (Nat.le_of_ble_eq_true rfl) hu_P m_448 (fun _ h => h) d_W_deadline_100 ?_
              refine hm_callR (ct_runV (n := 0) X hK hY (k_size6 l D A G (newD S i q (S.ad 7 i 0) (S.I 0 0 0) fr to lo hi2) ω i hi) m_116 m_113 m_114 m_115 m_4 (by decide +kernel) ⟨Nat.le_of_ble_eq_true rfl, Nat.le_of_ble_eq_true rfl⟩ ⟨rfl, rfl⟩ (hm_recv ⟨X, hK.1⟩ hY (w6 hi) rfl) rfl hl.1 rfl (Nat.le_of_ble_eq_true rfl) d_W_deadline_103 ⟨Nat.le_of_ble_eq_true rfl, Nat.le_of_ble_eq_true rfl⟩) (fun v hv => ?_)
              subst hv
              refine W.eq (g2 := F0 m 106 ls [.int (nI ((newD S i q (S.ad 7 i 0) (S.I 0 0 0) fr to lo hi2).C 1 i))]) rfl ?_
              exact en_iW X hY hr hlocks d_W_deadline_106 (Or.inr (Or.inr ⟨hok, c5, q, (S.ad 7 i 0), by rw [newD_C1], rfl⟩))
          · have c5 : ¬ S.C 1 i < 10 := fun q => c5 (nI_lt (b := 10) q (by omega))
            refine lv_bipush (v := (-4)) X.1 X.2.1 d_W_deadline_69 (by decide) ?_
            refine W.widen (k := 2) (n := 17) (Nat.le_of_ble_eq_true rfl) (Nat.le_of_ble_eq_true rfl) ?_
            exact en_iW X hY hr hlocks d_W_deadline_71 (Or.inr (Or.inl ⟨⟨c1, c2, c3, c4⟩, c5, rfl, rfl⟩))
        · have c4 : ¬ (lo ≤ hi2 ∧ hi2 ≤ 100000) := b2_0.mp c4
          refine lv_bipush (v := (-2)) X.1 X.2.1 d_W_deadline_53 (by decide) ?_
          refine W.widen (k := 2) (n := 17) (Nat.le_of_ble_eq_true rfl) (Nat.le_of_ble_eq_true rfl) ?_
          exact en_iW X hY hr hlocks d_W_deadline_55 (Or.inl ⟨fun z => c4 z.2.2.2, rfl, rfl⟩)

set_option maxHeartbeats 4000000 in
set_option maxRecDepth 100000 in
theorem k_W_deadline_no (l : Launch) (D : va_G) (A : Nat → Prop) (G : Nat → Nat) (S : cS) (ω : hm_T) (h20 : S.C 0 0 ≤ 20) (hall : ∀ i, i < S.C 0 0 → S.C 1 i ≤ 10) (x : Int32) (hx : ¬ isN S x) (fr to : Int32) (lo hi2 : Int64) : Met l y_W_deadline (.code y_W_deadline c_W_deadline 9 (some .int) :: wsA) { frames := 8, cells := 2, slots := 17, locals := 171 } (va_Pc [.ref (S.ad 0 0 0), .int x, .int fr, .int to, .long lo, .long hi2] (ctU D A G (wS G S ω))) (hm_Q D cls A (fun v w => v = some (.int (((-1 : Int32), S)).1) ∧ w = wS G (((-1 : Int32), S)).2 ω)) 2 17 A := by
  refine ct_met (by decide) (Nat.le_of_ble_eq_true rfl) ?_
  rintro p e s m below meth c ls X hr hlocks hnm hl ⟨hB, hK⟩
  have hl : lv_has ls 9 [(0, .ref (S.ad 0 0 0)), (1, .int x), (2, .int fr), (3, .int to), (4, .long lo), (6, .long hi2)] := hl
  have hY : hm_Y D cls A s.heap (wS G S ω) s.heap [] := hm_Y.start hB hK.2.2.2
  refine lv_aload_n X.1 X.2.1 d_W_deadline_0 rfl (lv_at hl 0 rfl) ?_
  refine lv_iload_n X.1 X.2.1 d_W_deadline_1 rfl (lv_at hl 1 rfl) ?_
  refine hm_callR (ct_runV (n := 1) X hK hY (k_findPart_no l D A G S ω x hx h20) m_112 m_109 m_111 ms_W_findPart m_1 (by decide +kernel) ⟨Nat.le_of_ble_eq_true rfl, Nat.le_of_ble_eq_true rfl⟩ ⟨rfl, rfl⟩ (hm_recv ⟨X, hK.1⟩ hY w0 rfl) rfl hl.1 rfl (Nat.le_of_ble_eq_true rfl) d_W_deadline_2 ⟨Nat.le_of_ble_eq_true rfl, Nat.le_of_ble_eq_true rfl⟩) (fun v hv => ?_)
  subst hv
  refine W.eq (g2 := F0 m 5 ls [.null]) rfl ?_
  refine lv_astoreN (lv' := [(8, .null), (0, .ref (S.ad 0 0 0)), (1, .int x), (2, .int fr), (3, .int to), (4, .long lo), (6, .long hi2)]) X.1 X.2.1 d_W_deadline_5 hl (by decide) rfl (fun ls hl => ?_)
  refine lv_aloadN X.1 X.2.1 d_W_deadline_7 (lv_at hl 0 rfl) ?_
  refine lv_ifnonnullN X.1 X.2.1 d_W_deadline_9 ?_
  refine lv_iconst (v := (-1)) X.1 X.2.1 d_W_deadline_12 (by decide) ?_
  refine W.widen (k := 2) (n := 17) (Nat.le_of_ble_eq_true rfl) (Nat.le_of_ble_eq_true rfl) ?_
  exact en_iW X hY hr hlocks d_W_deadline_13 (⟨rfl, rfl⟩)
