abbrev M0 (M : mS) : mS := M.sI 0 0 0
def mpart (M : mS) (a b : Int32) (sp : Int64) (c0 : Nat) : Int32 × mS :=
  if a < 0 then (-2, M.sI 0 0 0) else if 1000 < a then (-2, M.sI 0 0 0) else if b < a then (-2, M.sI 0 0 0) else if 1000 < b then (-2, M.sI 0 0 0) else if sp < 0 then (-2, M.sI 0 0 0)
  else if sp ≤ 100 then (if M.I 1 0 = 20 then (-4, M.sI 0 0 0) else if sp = 0 then (0, (M.sI 0 0 0).sI 0 0 1) else (nI (c0 + 1), (((((M.sI 0 0 0).sI 0 0 0).sI 1 0 (nI (c0 + 1))).sI 2 (c0 + 1) a).sI 3 (c0 + 1) b).sI 4 (c0 + 1) sp.toInt32)) else (-2, M.sI 0 0 0)
def eix (M : mS) (n : Nat) (fr to : Int32) : Nat := ((4 * n + (M.I 19 0).toNatClampNeg) * 31 + fr.toNatClampNeg) * 31 + to.toNatClampNeg
abbrev moOk (M : mS) : Prop := 0 ≤ M.I 19 0 ∧ M.I 19 0 ≤ 3
theorem i_of {x hi : Int32} {h : Nat} (hh : hi = nI h) (h31 : h < 2 ^ 31) (h0 : 0 ≤ x) (h1 : x ≤ hi) : x = nI x.toNatClampNeg ∧ x.toNatClampNeg ≤ h := by
  obtain ⟨j, hj, rfl⟩ := nI_of2 (M := hi) (n := h) (by rw [hh]; exact nI_toInt h31) (Int32.not_lt.mpr h0) h1
  rw [nI_clamp (by omega)]
  exact ⟨rfl, hj⟩
theorem eix_ok {M : mS} {n : Nat} {fr to : Int32} (hn : n ≤ 20) (hm : moOk M) (h1 : 0 ≤ fr) (h2 : fr ≤ 30) (h3 : 1 ≤ to) (h4 : to ≤ 30) : ((4 * nI n + M.I 19 0) * 31 + fr) * 31 + to = nI (eix M n fr to) ∧ eix M n fr to < 80724 := by
  obtain ⟨a1, a2⟩ := i_of (h := 3) rfl (by decide) hm.1 hm.2
  obtain ⟨b1, b2⟩ := i_of (h := 30) rfl (by decide) h1 h2
  obtain ⟨d1, d2⟩ := i_of (h := 30) rfl (by decide) (Int32.le_trans (by decide) h3) h4
  unfold eix
  generalize (M.I 19 0).toNatClampNeg = mo at a1 a2 ⊢
  generalize fr.toNatClampNeg = f at b1 b2 ⊢
  generalize to.toNatClampNeg = t at d1 d2 ⊢
  refine ⟨?_, by omega⟩
  rw [a1, b1, d1, show (4 : Int32) * nI n = nI (4 * n) from pk_mul 4 n, nI_add, show nI (4 * n + mo) * 31 = nI ((4 * n + mo) * 31) from pk_mul _ 31, nI_add, show nI ((4 * n + mo) * 31 + f) * 31 = nI (((4 * n + mo) * 31 + f) * 31) from pk_mul _ 31, nI_add]
def medge (M : mS) (n : Nat) (fr to : Int32) : Int32 × mS :=
  if fr < 0 then (-2, M.sI 0 0 0) else if 30 < fr then (-2, M.sI 0 0 0) else if to < 1 then (-2, M.sI 0 0 0) else if to ≤ 30 then
    (if M.I 11 (eix M n fr to) = 0 then (1, (M.sI 0 0 0).sI 11 (eix M n fr to) 1) else (0, (M.sI 0 0 0).sI 11 (eix M n fr to) 1)) else (-2, M.sI 0 0 0)
def mdead (M : mS) (n cn : Nat) (fr to : Int32) (a b : Int64) : Int32 × mS :=
  if fr < 1 then (-2, M.sI 0 0 0) else if 30 < fr then (-2, M.sI 0 0 0) else if to < 1 then (-2, M.sI 0 0 0) else if 30 < to then (-2, M.sI 0 0 0) else if a < 0 then (-2, M.sI 0 0 0) else if 100000 < a then (-2, M.sI 0 0 0) else if b < a then (-2, M.sI 0 0 0)
  else if b ≤ 100000 then (if M.I 12 n = 10 then (-4, M.sI 0 0 0) else (M.I 12 n + 1, (((((((M.sI 0 0 0).sI 13 (10 * n + cn) (M.I 19 0)).sI 14 (10 * n + cn) fr).sI 15 (10 * n + cn) to).sJ 16 (10 * n + cn) a).sJ 17 (10 * n + cn) b).sJ 18 (10 * n + cn) (-1)).sI 12 n (M.I 12 n + 1))) else (-2, M.sI 0 0 0)
def mtolY (M : mS) (n : Nat) (k : Int32) : Int32 × mS := if k < 0 then (-2, M.sI 0 0 0) else if k ≤ 100 then (1, (M.sI 0 0 0).sI 7 n k) else (-2, M.sI 0 0 0)
def mtolN (M : mS) (x k : Int32) : Int32 × mS := if x = 0 then (if k < 0 then (-2, M.sI 0 0 0) else if k ≤ 100 then (1, (M.sI 0 0 0).sI 23 0 k) else (-2, M.sI 0 0 0)) else (-1, M.sI 0 0 0)
def mmL (M : mS) : Nat → mS
  | 0 => M
  | j + 1 => clr (mmL M j) (j + 1)
def mmode (M : mS) (x : Int32) (c0 : Nat) : Int32 × mS := if x < 0 then (-2, M.sI 0 0 0) else if x ≤ 3 then (M.I 19 0, if M.I 19 0 = x then (M.sI 0 0 0).sI 19 0 x else mmL ((M.sI 0 0 0).sI 19 0 x) c0) else (-2, M.sI 0 0 0)
def mou (M : mS) (t : Int64) (c0 : Nat) : Int32 × mS := if mT (M.sI 0 0 0) t then (if t - M.J 30 0 ≤ 100 then (1, ((M.sI 0 0 0).sJ 21 0 t).sJ 30 0 t) else (0, r0 (((M.sI 0 0 0).sJ 21 0 t).sJ 30 0 t) 3 c0)) else (-2, M.sI 0 0 0)
def mrst (M : mS) (x : Int32) (c0 : Nat) : Int32 × mS :=
  if x < 0 then (-2, M.sI 0 0 0) else if x ≤ 5 then (if x = 0 then ((r0 (M.sI 0 0 0) 4 c0).I 24 0, r0 (M.sI 0 0 0) 4 c0) else if 2 ≤ x then (if x = 2 then (M.I 25 0, M.sI 0 0 0) else if x = 3 then (M.I 26 0, M.sI 0 0 0) else if x = 4 then (M.I 28 0, M.sI 0 0 0) else (M.I 20 0, M.sI 0 0 0)) else (M.I 24 0, M.sI 0 0 0)) else (-2, M.sI 0 0 0)

set_option maxHeartbeats 4000000 in
set_option maxRecDepth 100000 in
theorem k_M_part (l : Launch) (D : va_G) (A : Nat → Prop) (G : Nat → Nat) (M : mS) (ω : hm_T) (c0 : Nat) (hc0 : M.I 1 0 = nI c0) (h20 : c0 ≤ 20) (a b : Int32) (sp : Int64) : Met l y_M_part (.code y_M_part c_M_part 5 (some .int) :: wsA) { frames := 0, cells := 0, slots := 0, locals := 0 } (va_Pc [.ref (M.ad 0), .int a, .int b, .long sp] (ctU D A G (wM G M ω))) (hm_Q D cls A (fun v w => v = some (.int (mpart M a b sp c0).1) ∧ w = wM G (mpart M a b sp c0).2 ω)) 0 0 A := by
  refine ct_met (by decide) (Nat.le_of_ble_eq_true rfl) ?_
  rintro p e s m below meth c ls X hr hlocks hnm hl ⟨hB, hK⟩
  have hl : lv_has ls 5 [(0, .ref (M.ad 0)), (1, .int a), (2, .int b), (3, .long sp)] := hl
  have hY : hm_Y D cls A s.heap (wM G M ω) s.heap [] := hm_Y.start hB hK.2.2.2
  refine lv_aload_n X.1 X.2.1 d_M_part_0 rfl (lv_at hl 0 rfl) ?_
  refine lv_iconst (v := 0) X.1 X.2.1 d_M_part_1 (by decide) ?_
  refine hm_put ⟨X, hK.1⟩ hY v_0 0 rfl (Nat.le_of_ble_eq_true rfl) (Nat.le_of_ble_eq_true rfl) hu_M ty_M ty_M_ok nm_M m_489 (fun _ h => h) rfl rfl rfl d_M_part_2 (fun H locs hY => ?_)
  have hY : hm_Y D cls A s.heap (wM G (M.sI 0 0 0) ω) H locs := by rw [← fm_0 (M := M) (v := 0)]; exact hY
  refine lv_iload_n X.1 X.2.1 d_M_part_5 rfl (lv_at hl 1 rfl) ?_
  refine lv_if_lt (tgt := 42) X.1 X.2.1 d_M_part_6 (by decide) (fun c1 => ?_) (fun c1 => ?_)
  · refine lv_bipush (v := (-2)) X.1 X.2.1 d_M_part_42 (by decide) ?_
    exact en_iW X hY hr hlocks d_M_part_44 (⟨by rw [mpart, if_pos c1], by rw [mpart, if_pos c1]⟩)
  · refine lv_iload_n X.1 X.2.1 d_M_part_9 rfl (lv_at hl 1 rfl) ?_
    refine lv_sipush (v := 1000) X.1 X.2.1 d_M_part_10 (by decide) ?_
    refine lv_icmp_gt (tgt := 42) X.1 X.2.1 d_M_part_13 (by decide) (fun c2 => ?_) (fun c2 => ?_)
    · refine lv_bipush (v := (-2)) X.1 X.2.1 d_M_part_42 (by decide) ?_
      exact en_iW X hY hr hlocks d_M_part_44 (⟨by rw [mpart, if_neg c1, if_pos c2], by rw [mpart, if_neg c1, if_pos c2]⟩)
    · refine lv_iload_n X.1 X.2.1 d_M_part_16 rfl (lv_at hl 2 rfl) ?_
      refine lv_iload_n X.1 X.2.1 d_M_part_17 rfl (lv_at hl 1 rfl) ?_
      refine lv_icmp_lt (tgt := 42) X.1 X.2.1 d_M_part_18 (by decide) (fun c3 => ?_) (fun c3 => ?_)
      · refine lv_bipush (v := (-2)) X.1 X.2.1 d_M_part_42 (by decide) ?_
        exact en_iW X hY hr hlocks d_M_part_44 (⟨by rw [mpart, if_neg c1, if_neg c2, if_pos c3], by rw [mpart, if_neg c1, if_neg c2, if_pos c3]⟩)
      · refine lv_iload_n X.1 X.2.1 d_M_part_21 rfl (lv_at hl 2 rfl) ?_
        refine lv_sipush (v := 1000) X.1 X.2.1 d_M_part_22 (by decide) ?_
        refine lv_icmp_gt (tgt := 42) X.1 X.2.1 d_M_part_25 (by decide) (fun c4 => ?_) (fun c4 => ?_)
        · refine lv_bipush (v := (-2)) X.1 X.2.1 d_M_part_42 (by decide) ?_
          exact en_iW X hY hr hlocks d_M_part_44 (⟨by rw [mpart, if_neg c1, if_neg c2, if_neg c3, if_pos c4], by rw [mpart, if_neg c1, if_neg c2, if_neg c3, if_pos c4]⟩)
        · refine lv_lload_n X.1 X.2.1 d_M_part_28 rfl (lv_at hl 3 rfl) ?_
          refine lv_lconst (v := 0) X.1 X.2.1 d_M_part_29 (by decide) ?_
          refine lc_lt (tgt := 42) X d_M_part_30 d_M_part_31 (by decide) (fun c5 => ?_) (fun c5 => ?_)
          · refine lv_bipush (v := (-2)) X.1 X.2.1 d_M_part_42 (by decide) ?_
            exact en_iW X hY hr hlocks d_M_part_44 (⟨by rw [mpart, if_neg c1, if_neg c2, if_neg c3, if_neg c4, if_pos c5], by rw [mpart, if_neg c1, if_neg c2, if_neg c3, if_neg c4, if_pos c5]⟩)
          · refine lv_lload_n X.1 X.2.1 d_M_part_34 rfl (lv_at hl 3 rfl) ?_
            refine lv_ldc2 X.1 X.2.1 X.2.2.2.1 (X.2.2.2.2 _ m_593) d_M_part_35 ?_
            refine lc_le (tgt := 45) X d_M_part_38 d_M_part_39 (by decide) (fun c6 => ?_) (fun c6 => ?_)
            · refine lv_aload_n X.1 X.2.1 d_M_part_45 rfl (lv_at hl 0 rfl) ?_
              refine hm_get ⟨X, hK.1⟩ hY v_0 1 (v := .int (M.I 1 0)) rfl rfl (Nat.le_of_ble_eq_true rfl) hu_M m_490 (fun _ h => h) d_M_part_46 ?_
              refine lv_bipush (v := 20) X.1 X.2.1 d_M_part_49 (by decide) ?_
              refine lv_icmp_ne (tgt := 57) X.1 X.2.1 d_M_part_51 (by decide) (fun c7 => ?_) (fun c7 => ?_)
              · refine lv_aload_n X.1 X.2.1 d_M_part_57 rfl (lv_at hl 0 rfl) ?_
                refine lv_lload_n X.1 X.2.1 d_M_part_58 rfl (lv_at hl 3 rfl) ?_
                refine lv_lconst (v := 0) X.1 X.2.1 d_M_part_59 (by decide) ?_
                refine lc_ne (tgt := 68) X d_M_part_60 d_M_part_61 (by decide) (fun c8 => ?_) (fun c8 => ?_)
                · refine lv_iconst (v := 0) X.1 X.2.1 d_M_part_68 (by decide) ?_
                  refine hm_put ⟨X, hK.1⟩ hY v_0 0 rfl (Nat.le_of_ble_eq_true rfl) (Nat.le_of_ble_eq_true rfl) hu_M ty_M ty_M_ok nm_M m_489 (fun _ h => h) rfl rfl rfl d_M_part_69 (fun H locs hY => ?_)
                  have hY : hm_Y D cls A s.heap (wM G ((M.sI 0 0 0).sI 0 0 0) ω) H locs := by rw [← fm_0 (M := (M.sI 0 0 0)) (v := 0)]; exact hY
                  refine lv_aload_n X.1 X.2.1 d_M_part_72 rfl (lv_at hl 0 rfl) ?_
                  refine hm_get ⟨X, hK.1⟩ hY v_0 0 (v := .int 0) rfl rfl (Nat.le_of_ble_eq_true rfl) hu_M m_489 (fun _ h => h) d_M_part_73 ?_
                  refine lv_if_le (tgt := 81) X.1 X.2.1 d_M_part_76 (by decide) (fun c9 => ?_) (fun c9 => ?_)
                  · refine lv_aload_n X.1 X.2.1 d_M_part_81 rfl (lv_at hl 0 rfl) ?_
                    refine lv_dup X.1 X.2.1 d_M_part_82 rfl ?_
                    refine hm_get ⟨X, hK.1⟩ hY v_0 1 (v := .int (M.I 1 0)) rfl rfl (Nat.le_of_ble_eq_true rfl) hu_M m_490 (fun _ h => h) d_M_part_83 ?_
                    refine lv_iconst (v := 1) X.1 X.2.1 d_M_part_86 (by decide) ?_
                    refine lv_iadd X.1 X.2.1 d_M_part_87 ?_
                    rw [hc0, nI_1]
                    have hlt : c0 < 20 := by rcases Nat.lt_or_ge c0 20 with q | q; exact q; exact absurd (by rw [hc0, show c0 = 20 by omega]; rfl) c7
                    refine hm_put ⟨X, hK.1⟩ hY v_0 1 rfl (Nat.le_of_ble_eq_true rfl) (Nat.le_of_ble_eq_true rfl) hu_M ty_M ty_M_ok nm_M m_490 (fun _ h => h) rfl rfl rfl d_M_part_88 (fun H locs hY => ?_)
                    have hY : hm_Y D cls A s.heap (wM G (((M.sI 0 0 0).sI 0 0 0).sI 1 0 (nI (c0 + 1))) ω) H locs := by rw [← fm_1 (M := ((M.sI 0 0 0).sI 0 0 0)) (v := nI (c0 + 1))]; exact hY
                    refine lv_aload_n X.1 X.2.1 d_M_part_91 rfl (lv_at hl 0 rfl) ?_
                    refine hm_get ⟨X, hK.1⟩ hY v_0 2 (v := .ref (M.ad 2)) rfl rfl (Nat.le_of_ble_eq_true rfl) hu_M m_491 (fun _ h => h) d_M_part_92 ?_
                    refine lv_aload_n X.1 X.2.1 d_M_part_95 rfl (lv_at hl 0 rfl) ?_
                    refine hm_get ⟨X, hK.1⟩ hY v_0 1 (v := .int (nI (c0 + 1))) rfl rfl (Nat.le_of_ble_eq_true rfl) hu_M m_490 (fun _ h => h) d_M_part_96 ?_
                    refine lv_iload_n X.1 X.2.1 d_M_part_99 rfl (lv_at hl 1 rfl) ?_
                    refine mi_ast ⟨X, hK.1⟩ hY v_2 0 rfl (x := c0 + 1) rfl (by omega) (by decide) d_M_part_100 (fun H locs hY => ?_)
                    have hY : hm_Y D cls A s.heap (wM G ((((M.sI 0 0 0).sI 0 0 0).sI 1 0 (nI (c0 + 1))).sI 2 (c0 + 1) a) ω) H locs := by rw [← fa_2 (M := (((M.sI 0 0 0).sI 0 0 0).sI 1 0 (nI (c0 + 1)))) (j := c0 + 1) (v := a)]; exact hY
                    refine lv_aload_n X.1 X.2.1 d_M_part_101 rfl (lv_at hl 0 rfl) ?_
                    refine hm_get ⟨X, hK.1⟩ hY v_0 3 (v := .ref (M.ad 3)) rfl rfl (Nat.le_of_ble_eq_true rfl) hu_M m_492 (fun _ h => h) d_M_part_102 ?_
                    refine lv_aload_n X.1 X.2.1 d_M_part_105 rfl (lv_at hl 0 rfl) ?_
                    refine hm_get ⟨X, hK.1⟩ hY v_0 1 (v := .int (nI (c0 + 1))) rfl rfl (Nat.le_of_ble_eq_true rfl) hu_M m_490 (fun _ h => h) d_M_part_106 ?_
                    refine lv_iload_n X.1 X.2.1 d_M_part_109 rfl (lv_at hl 2 rfl) ?_
                    refine mi_ast ⟨X, hK.1⟩ hY v_3 0 rfl (x := c0 + 1) rfl (by omega) (by decide) d_M_part_110 (fun H locs hY => ?_)
                    have hY : hm_Y D cls A s.heap (wM G (((((M.sI 0 0 0).sI 0 0 0).sI 1 0 (nI (c0 + 1))).sI 2 (c0 + 1) a).sI 3 (c0 + 1) b) ω) H locs := by rw [← fa_3 (M := ((((M.sI 0 0 0).sI 0 0 0).sI 1 0 (nI (c0 + 1))).sI 2 (c0 + 1) a)) (j := c0 + 1) (v := b)]; exact hY
                    refine lv_aload_n X.1 X.2.1 d_M_part_111 rfl (lv_at hl 0 rfl) ?_
                    refine hm_get ⟨X, hK.1⟩ hY v_0 4 (v := .ref (M.ad 4)) rfl rfl (Nat.le_of_ble_eq_true rfl) hu_M m_493 (fun _ h => h) d_M_part_112 ?_
                    refine lv_aload_n X.1 X.2.1 d_M_part_115 rfl (lv_at hl 0 rfl) ?_
                    refine hm_get ⟨X, hK.1⟩ hY v_0 1 (v := .int (nI (c0 + 1))) rfl rfl (Nat.le_of_ble_eq_true rfl) hu_M m_490 (fun _ h => h) d_M_part_116 ?_
                    refine lv_lload_n X.1 X.2.1 d_M_part_119 rfl (lv_at hl 3 rfl) ?_
                    refine lv_l2i (v := sp.toInt32) X.1 X.2.1 d_M_part_120 rfl ?_
                    refine mi_ast ⟨X, hK.1⟩ hY v_4 0 rfl (x := c0 + 1) rfl (by omega) (by decide) d_M_part_121 (fun H locs hY => ?_)
                    have hY : hm_Y D cls A s.heap (wM G ((((((M.sI 0 0 0).sI 0 0 0).sI 1 0 (nI (c0 + 1))).sI 2 (c0 + 1) a).sI 3 (c0 + 1) b).sI 4 (c0 + 1) sp.toInt32) ω) H locs := by rw [← fa_4 (M := (((((M.sI 0 0 0).sI 0 0 0).sI 1 0 (nI (c0 + 1))).sI 2 (c0 + 1) a).sI 3 (c0 + 1) b)) (j := c0 + 1) (v := sp.toInt32)]; exact hY
                    refine lv_aload_n X.1 X.2.1 d_M_part_122 rfl (lv_at hl 0 rfl) ?_
                    refine hm_get ⟨X, hK.1⟩ hY v_0 1 (v := .int (nI (c0 + 1))) rfl rfl (Nat.le_of_ble_eq_true rfl) hu_M m_490 (fun _ h => h) d_M_part_123 ?_
                    exact en_iW X hY hr hlocks d_M_part_126 (⟨by rw [mpart, if_neg c1, if_neg c2, if_neg c3, if_neg c4, if_neg c5, if_pos c6, if_neg c7, if_neg c8], by rw [mpart, if_neg c1, if_neg c2, if_neg c3, if_neg c4, if_neg c5, if_pos c6, if_neg c7, if_neg c8]⟩)
                  · exact absurd c9 (by decide)
                · refine lv_iconst (v := 1) X.1 X.2.1 d_M_part_64 (by decide) ?_
                  refine lv_goto (tgt := 69) X.1 X.2.1 d_M_part_65 (by decide) ?_
                  refine hm_put ⟨X, hK.1⟩ hY v_0 0 rfl (Nat.le_of_ble_eq_true rfl) (Nat.le_of_ble_eq_true rfl) hu_M ty_M ty_M_ok nm_M m_489 (fun _ h => h) rfl rfl rfl d_M_part_69 (fun H locs hY => ?_)
                  have hY : hm_Y D cls A s.heap (wM G ((M.sI 0 0 0).sI 0 0 1) ω) H locs := by rw [← fm_0 (M := (M.sI 0 0 0)) (v := 1)]; exact hY
                  refine lv_aload_n X.1 X.2.1 d_M_part_72 rfl (lv_at hl 0 rfl) ?_
                  refine hm_get ⟨X, hK.1⟩ hY v_0 0 (v := .int 1) rfl rfl (Nat.le_of_ble_eq_true rfl) hu_M m_489 (fun _ h => h) d_M_part_73 ?_
                  refine lv_if_le (tgt := 81) X.1 X.2.1 d_M_part_76 (by decide) (fun c10 => ?_) (fun c10 => ?_)
                  · exact absurd c10 (by decide)
                  · refine lv_iconst (v := 0) X.1 X.2.1 d_M_part_79 (by decide) ?_
                    exact en_iW X hY hr hlocks d_M_part_80 (⟨by rw [mpart, if_neg c1, if_neg c2, if_neg c3, if_neg c4, if_neg c5, if_pos c6, if_neg c7, if_pos c8], by rw [mpart, if_neg c1, if_neg c2, if_neg c3, if_neg c4, if_neg c5, if_pos c6, if_neg c7, if_pos c8]⟩)
              · refine lv_bipush (v := (-4)) X.1 X.2.1 d_M_part_54 (by decide) ?_
                exact en_iW X hY hr hlocks d_M_part_56 (⟨by rw [mpart, if_neg c1, if_neg c2, if_neg c3, if_neg c4, if_neg c5, if_pos c6, if_pos c7], by rw [mpart, if_neg c1, if_neg c2, if_neg c3, if_neg c4, if_neg c5, if_pos c6, if_pos c7]⟩)
            · refine lv_bipush (v := (-2)) X.1 X.2.1 d_M_part_42 (by decide) ?_
              exact en_iW X hY hr hlocks d_M_part_44 (⟨by rw [mpart, if_neg c1, if_neg c2, if_neg c3, if_neg c4, if_neg c5, if_neg c6], by rw [mpart, if_neg c1, if_neg c2, if_neg c3, if_neg c4, if_neg c5, if_neg c6]⟩)

set_option maxHeartbeats 4000000 in
set_option maxRecDepth 100000 in
theorem k_M_state_y (l : Launch) (D : va_G) (A : Nat → Prop) (G : Nat → Nat) (M : mS) (ω : hm_T) (n : Nat) (hp : mP M (nI n)) (h0 : 1 ≤ n) (h20 : n ≤ 20) : Met l y_M_state (.code y_M_state c_M_state 2 (some .int) :: wsA) { frames := 1, cells := 0, slots := 0, locals := 21 } (va_Pc [.ref (M.ad 0), .int (nI n)] (ctU D A G (wM G M ω))) (hm_Q D cls A (fun v w => v = some (.int ((M.I 5 n, M.sI 0 0 0)).1) ∧ w = wM G ((M.I 5 n, M.sI 0 0 0)).2 ω)) 0 0 A := by
  refine ct_met (by decide) (Nat.le_of_ble_eq_true rfl) ?_
  rintro p e s m below meth c ls X hr hlocks hnm hl ⟨hB, hK⟩
  have hl : lv_has ls 2 [(0, .ref (M.ad 0)), (1, .int (nI n))] := hl
  have hY : hm_Y D cls A s.heap (wM G M ω) s.heap [] := hm_Y.start hB hK.2.2.2
  refine lv_aload_n X.1 X.2.1 d_M_state_0 rfl (lv_at hl 0 rfl) ?_
  refine lv_iconst (v := 0) X.1 X.2.1 d_M_state_1 (by decide) ?_
  refine hm_put ⟨X, hK.1⟩ hY v_0 0 rfl (Nat.le_of_ble_eq_true rfl) (Nat.le_of_ble_eq_true rfl) hu_M ty_M ty_M_ok nm_M m_489 (fun _ h => h) rfl rfl rfl d_M_state_2 (fun H locs hY => ?_)
  have hY : hm_Y D cls A s.heap (wM G (M.sI 0 0 0) ω) H locs := by rw [← fm_0 (M := M) (v := 0)]; exact hY
  refine lv_aload_n X.1 X.2.1 d_M_state_5 rfl (lv_at hl 0 rfl) ?_
  refine lv_iload_n X.1 X.2.1 d_M_state_6 rfl (lv_at hl 1 rfl) ?_
  refine hm_callR (ct_runV (n := 1) X hK hY (k_M_isPart l D A G (M.sI 0 0 0) ω (nI n)) m_601 m_598 m_600 ms_M_isPart m_6 (by decide +kernel) ⟨Nat.le_of_ble_eq_true rfl, Nat.le_of_ble_eq_true rfl⟩ ⟨rfl, rfl⟩ (hm_recv ⟨X, hK.1⟩ hY v_0 rfl) rfl hl.1 rfl (Nat.le_of_ble_eq_true rfl) d_M_state_7 ⟨Nat.le_of_ble_eq_true rfl, Nat.le_of_ble_eq_true rfl⟩) (fun v hv => ?_)
  subst hv
  refine W.eq (g2 := F0 m 10 ls [.int (b2 (mP (M.sI 0 0 0) (nI n)))]) rfl ?_
  refine lv_if_eq (tgt := 22) X.1 X.2.1 d_M_state_10 (by decide) (fun c1 => ?_) (fun c1 => ?_)
  · have c1 : ¬ (mP (M.sI 0 0 0) (nI n)) := b2_0.mp c1
    exact absurd hp c1
  · have c1 : (mP (M.sI 0 0 0) (nI n)) := Classical.byContradiction (fun z => c1 (b2_0.mpr z))
    refine lv_aload_n X.1 X.2.1 d_M_state_13 rfl (lv_at hl 0 rfl) ?_
    refine hm_get ⟨X, hK.1⟩ hY v_0 5 (v := .ref (M.ad 5)) rfl rfl (Nat.le_of_ble_eq_true rfl) hu_M m_494 (fun _ h => h) d_M_state_14 ?_
    refine lv_iload_n X.1 X.2.1 d_M_state_17 rfl (lv_at hl 1 rfl) ?_
    refine mi_ald ⟨X, hK.1⟩ hY v_5 0 rfl (x := n) (v := M.I 5 n) rfl (by omega) (by decide) rfl d_M_state_18 ?_
    refine lv_goto (tgt := 23) X.1 X.2.1 d_M_state_19 (by decide) ?_
    exact en_iW X hY hr hlocks d_M_state_23 (⟨rfl, rfl⟩)

set_option maxHeartbeats 4000000 in
set_option maxRecDepth 100000 in
theorem k_M_state_no (l : Launch) (D : va_G) (A : Nat → Prop) (G : Nat → Nat) (M : mS) (ω : hm_T) (x : Int32) (hp : ¬ mP M x) : Met l y_M_state (.code y_M_state c_M_state 2 (some .int) :: wsA) { frames := 1, cells := 0, slots := 0, locals := 21 } (va_Pc [.ref (M.ad 0), .int x] (ctU D A G (wM G M ω))) (hm_Q D cls A (fun v w => v = some (.int (((-1 : Int32), M.sI 0 0 0)).1) ∧ w = wM G (((-1 : Int32), M.sI 0 0 0)).2 ω)) 0 0 A := by
  refine ct_met (by decide) (Nat.le_of_ble_eq_true rfl) ?_
  rintro p e s m below meth c ls X hr hlocks hnm hl ⟨hB, hK⟩
  have hl : lv_has ls 2 [(0, .ref (M.ad 0)), (1, .int x)] := hl
  have hY : hm_Y D cls A s.heap (wM G M ω) s.heap [] := hm_Y.start hB hK.2.2.2
  refine lv_aload_n X.1 X.2.1 d_M_state_0 rfl (lv_at hl 0 rfl) ?_
  refine lv_iconst (v := 0) X.1 X.2.1 d_M_state_1 (by decide) ?_
  refine hm_put ⟨X, hK.1⟩ hY v_0 0 rfl (Nat.le_of_ble_eq_true rfl) (Nat.le_of_ble_eq_true rfl) hu_M ty_M ty_M_ok nm_M m_489 (fun _ h => h) rfl rfl rfl d_M_state_2 (fun H locs hY => ?_)
  have hY : hm_Y D cls A s.heap (wM G (M.sI 0 0 0) ω) H locs := by rw [← fm_0 (M := M) (v := 0)]; exact hY
  refine lv_aload_n X.1 X.2.1 d_M_state_5 rfl (lv_at hl 0 rfl) ?_
  refine lv_iload_n X.1 X.2.1 d_M_state_6 rfl (lv_at hl 1 rfl) ?_
  refine hm_callR (ct_runV (n := 1) X hK hY (k_M_isPart l D A G (M.sI 0 0 0) ω x) m_601 m_598 m_600 ms_M_isPart m_6 (by decide +kernel) ⟨Nat.le_of_ble_eq_true rfl, Nat.le_of_ble_eq_true rfl⟩ ⟨rfl, rfl⟩ (hm_recv ⟨X, hK.1⟩ hY v_0 rfl) rfl hl.1 rfl (Nat.le_of_ble_eq_true rfl) d_M_state_7 ⟨Nat.le_of_ble_eq_true rfl, Nat.le_of_ble_eq_true rfl⟩) (fun v hv => ?_)
  subst hv
  refine W.eq (g2 := F0 m 10 ls [.int (b2 (mP (M.sI 0 0 0) x))]) rfl ?_
  refine lv_if_eq (tgt := 22) X.1 X.2.1 d_M_state_10 (by decide) (fun c1 => ?_) (fun c1 => ?_)
  · have c1 : ¬ (mP (M.sI 0 0 0) x) := b2_0.mp c1
    refine lv_iconst (v := (-1)) X.1 X.2.1 d_M_state_22 (by decide) ?_
    exact en_iW X hY hr hlocks d_M_state_23 (⟨rfl, rfl⟩)
  · have c1 : (mP (M.sI 0 0 0) x) := Classical.byContradiction (fun z => c1 (b2_0.mpr z))
    exact absurd c1 hp

set_option maxHeartbeats 4000000 in
set_option maxRecDepth 100000 in
theorem k_M_edge_y (l : Launch) (D : va_G) (A : Nat → Prop) (G : Nat → Nat) (M : mS) (ω : hm_T) (n : Nat) (hp : mP M (nI n)) (h0 : 1 ≤ n) (h20 : n ≤ 20) (hmo : moOk M) (fr to : Int32) : Met l y_M_edge (.code y_M_edge c_M_edge 5 (some .int) :: wsA) { frames := 1, cells := 0, slots := 0, locals := 23 } (va_Pc [.ref (M.ad 0), .int (nI n), .int fr, .int to] (ctU D A G (wM G M ω))) (hm_Q D cls A (fun v w => v = some (.int (medge M n fr to).1) ∧ w = wM G (medge M n fr to).2 ω)) 0 0 A := by
  refine ct_met (by decide) (Nat.le_of_ble_eq_true rfl) ?_
  rintro p e s m below meth c ls X hr hlocks hnm hl ⟨hB, hK⟩
  have hl : lv_has ls 5 [(0, .ref (M.ad 0)), (1, .int (nI n)), (2, .int fr), (3, .int to)] := hl
  have hY : hm_Y D cls A s.heap (wM G M ω) s.heap [] := hm_Y.start hB hK.2.2.2
  refine lv_aload_n X.1 X.2.1 d_M_edge_0 rfl (lv_at hl 0 rfl) ?_
  refine lv_iconst (v := 0) X.1 X.2.1 d_M_edge_1 (by decide) ?_
  refine hm_put ⟨X, hK.1⟩ hY v_0 0 rfl (Nat.le_of_ble_eq_true rfl) (Nat.le_of_ble_eq_true rfl) hu_M ty_M ty_M_ok nm_M m_489 (fun _ h => h) rfl rfl rfl d_M_edge_2 (fun H locs hY => ?_)
  have hY : hm_Y D cls A s.heap (wM G (M.sI 0 0 0) ω) H locs := by rw [← fm_0 (M := M) (v := 0)]; exact hY
  refine lv_aload_n X.1 X.2.1 d_M_edge_5 rfl (lv_at hl 0 rfl) ?_
  refine lv_iload_n X.1 X.2.1 d_M_edge_6 rfl (lv_at hl 1 rfl) ?_
  refine hm_callR (ct_runV (n := 1) X hK hY (k_M_isPart l D A G (M.sI 0 0 0) ω (nI n)) m_601 m_598 m_600 ms_M_isPart m_6 (by decide +kernel) ⟨Nat.le_of_ble_eq_true rfl, Nat.le_of_ble_eq_true rfl⟩ ⟨rfl, rfl⟩ (hm_recv ⟨X, hK.1⟩ hY v_0 rfl) rfl hl.1 rfl (Nat.le_of_ble_eq_true rfl) d_M_edge_7 ⟨Nat.le_of_ble_eq_true rfl, Nat.le_of_ble_eq_true rfl⟩) (fun v hv => ?_)
  subst hv
  refine W.eq (g2 := F0 m 10 ls [.int (b2 (mP (M.sI 0 0 0) (nI n)))]) rfl ?_
  refine lv_if_ne (tgt := 15) X.1 X.2.1 d_M_edge_10 (by decide) (fun c1 => ?_) (fun c1 => ?_)
  · have c1 : (mP (M.sI 0 0 0) (nI n)) := Classical.byContradiction (fun z => c1 (b2_0.mpr z))
    refine lv_iload_n X.1 X.2.1 d_M_edge_15 rfl (lv_at hl 2 rfl) ?_
    refine lv_if_lt (tgt := 36) X.1 X.2.1 d_M_edge_16 (by decide) (fun c2 => ?_) (fun c2 => ?_)
    · refine lv_bipush (v := (-2)) X.1 X.2.1 d_M_edge_36 (by decide) ?_
      exact en_iW X hY hr hlocks d_M_edge_38 (⟨by rw [medge, if_pos c2], by rw [medge, if_pos c2]⟩)
    · refine lv_iload_n X.1 X.2.1 d_M_edge_19 rfl (lv_at hl 2 rfl) ?_
      refine lv_bipush (v := 30) X.1 X.2.1 d_M_edge_20 (by decide) ?_
      refine lv_icmp_gt (tgt := 36) X.1 X.2.1 d_M_edge_22 (by decide) (fun c3 => ?_) (fun c3 => ?_)
      · refine lv_bipush (v := (-2)) X.1 X.2.1 d_M_edge_36 (by decide) ?_
        exact en_iW X hY hr hlocks d_M_edge_38 (⟨by rw [medge, if_neg c2, if_pos c3], by rw [medge, if_neg c2, if_pos c3]⟩)
      · refine lv_iload_n X.1 X.2.1 d_M_edge_25 rfl (lv_at hl 3 rfl) ?_
        refine lv_iconst (v := 1) X.1 X.2.1 d_M_edge_26 (by decide) ?_
        refine lv_icmp_lt (tgt := 36) X.1 X.2.1 d_M_edge_27 (by decide) (fun c4 => ?_) (fun c4 => ?_)
        · refine lv_bipush (v := (-2)) X.1 X.2.1 d_M_edge_36 (by decide) ?_
          exact en_iW X hY hr hlocks d_M_edge_38 (⟨by rw [medge, if_neg c2, if_neg c3, if_pos c4], by rw [medge, if_neg c2, if_neg c3, if_pos c4]⟩)
        · refine lv_iload_n X.1 X.2.1 d_M_edge_30 rfl (lv_at hl 3 rfl) ?_
          refine lv_bipush (v := 30) X.1 X.2.1 d_M_edge_31 (by decide) ?_
          refine lv_icmp_le (tgt := 39) X.1 X.2.1 d_M_edge_33 (by decide) (fun c5 => ?_) (fun c5 => ?_)
          · refine lv_aload_n X.1 X.2.1 d_M_edge_39 rfl (lv_at hl 0 rfl) ?_
            refine hm_get ⟨X, hK.1⟩ hY v_0 11 (v := .ref (M.ad 11)) rfl rfl (Nat.le_of_ble_eq_true rfl) hu_M m_500 (fun _ h => h) d_M_edge_40 ?_
            refine lv_aload_n X.1 X.2.1 d_M_edge_43 rfl (lv_at hl 0 rfl) ?_
            refine lv_iload_n X.1 X.2.1 d_M_edge_44 rfl (lv_at hl 1 rfl) ?_
            refine lv_iload_n X.1 X.2.1 d_M_edge_45 rfl (lv_at hl 2 rfl) ?_
            refine lv_iload_n X.1 X.2.1 d_M_edge_46 rfl (lv_at hl 3 rfl) ?_
            refine hm_callR (ct_runV (n := 3) X hK hY (k_M_edgeAt l D A G (M.sI 0 0 0) ω (nI n) fr to) m_605 m_602 m_604 ms_M_edgeAt m_6 (by decide +kernel) ⟨Nat.le_of_ble_eq_true rfl, Nat.le_of_ble_eq_true rfl⟩ ⟨rfl, rfl⟩ (hm_recv ⟨X, hK.1⟩ hY v_0 rfl) rfl hl.1 rfl (Nat.le_of_ble_eq_true rfl) d_M_edge_47 ⟨Nat.le_of_ble_eq_true rfl, Nat.le_of_ble_eq_true rfl⟩) (fun v hv => ?_)
            subst hv
            refine W.eq (g2 := F0 m 50 ls [.int (((4 * nI n + M.I 19 0) * 31 + fr) * 31 + to), .ref (M.ad 11)]) rfl ?_
            have hex := eix_ok h20 hmo (Int32.not_lt.mp c2) (Int32.not_lt.mp c3) (Int32.not_lt.mp c4) c5
            rw [hex.1]
            refine mz_ald ⟨X, hK.1⟩ hY v_11 1 rfl (x := eix M n fr to) (v := M.I 11 (eix M n fr to)) rfl hex.2 (by decide) rfl d_M_edge_50 ?_
            refine lv_istore (lv' := [(4, .int (M.I 11 (eix M n fr to))), (0, .ref (M.ad 0)), (1, .int (nI n)), (2, .int fr), (3, .int to)]) X.1 X.2.1 d_M_edge_51 hl (by decide) rfl (fun ls hl => ?_)
            refine lv_aload_n X.1 X.2.1 d_M_edge_53 rfl (lv_at hl 1 rfl) ?_
            refine hm_get ⟨X, hK.1⟩ hY v_0 11 (v := .ref (M.ad 11)) rfl rfl (Nat.le_of_ble_eq_true rfl) hu_M m_500 (fun _ h => h) d_M_edge_54 ?_
            refine lv_aload_n X.1 X.2.1 d_M_edge_57 rfl (lv_at hl 1 rfl) ?_
            refine lv_iload_n X.1 X.2.1 d_M_edge_58 rfl (lv_at hl 2 rfl) ?_
            refine lv_iload_n X.1 X.2.1 d_M_edge_59 rfl (lv_at hl 3 rfl) ?_
            refine lv_iload_n X.1 X.2.1 d_M_edge_60 rfl (lv_at hl 4 rfl) ?_
            refine hm_callR (ct_runV (n := 3) X hK hY (k_M_edgeAt l D A G (M.sI 0 0 0) ω (nI n) fr to) m_605 m_602 m_604 ms_M_edgeAt m_6 (by decide +kernel) ⟨Nat.le_of_ble_eq_true rfl, Nat.le_of_ble_eq_true rfl⟩ ⟨rfl, rfl⟩ (hm_recv ⟨X, hK.1⟩ hY v_0 rfl) rfl hl.1 rfl (Nat.le_of_ble_eq_true rfl) d_M_edge_61 ⟨Nat.le_of_ble_eq_true rfl, Nat.le_of_ble_eq_true rfl⟩) (fun v hv => ?_)
            subst hv
            refine W.eq (g2 := F0 m 64 ls [.int (((4 * nI n + M.I 19 0) * 31 + fr) * 31 + to), .ref (M.ad 11)]) rfl ?_
            rw [hex.1]
            refine lv_iconst (v := 1) X.1 X.2.1 d_M_edge_64 (by decide) ?_
            refine mz_ast ⟨X, hK.1⟩ hY v_11 1 rfl (x := eix M n fr to) rfl hex.2 (by decide) rfl d_M_edge_65 (fun H locs hY => ?_)
            have hY : hm_Y D cls A s.heap (wM G ((M.sI 0 0 0).sI 11 (eix M n fr to) 1) ω) H locs := by rw [← fa_11 (M := (M.sI 0 0 0)) (j := eix M n fr to) (v := 1)]; exact hY
            refine lv_iload X.1 X.2.1 d_M_edge_66 (lv_at hl 0 rfl) ?_
            refine lv_if_eq (tgt := 75) X.1 X.2.1 d_M_edge_68 (by decide) (fun c6 => ?_) (fun c6 => ?_)
            · refine lv_iconst (v := 1) X.1 X.2.1 d_M_edge_75 (by decide) ?_
              exact en_iW X hY hr hlocks d_M_edge_76 (⟨by rw [medge, if_neg c2, if_neg c3, if_neg c4, if_pos c5, if_pos c6], by rw [medge, if_neg c2, if_neg c3, if_neg c4, if_pos c5, if_pos c6]⟩)
            · refine lv_iconst (v := 0) X.1 X.2.1 d_M_edge_71 (by decide) ?_
              refine lv_goto (tgt := 76) X.1 X.2.1 d_M_edge_72 (by decide) ?_
              exact en_iW X hY hr hlocks d_M_edge_76 (⟨by rw [medge, if_neg c2, if_neg c3, if_neg c4, if_pos c5, if_neg c6], by rw [medge, if_neg c2, if_neg c3, if_neg c4, if_pos c5, if_neg c6]⟩)
          · refine lv_bipush (v := (-2)) X.1 X.2.1 d_M_edge_36 (by decide) ?_
            exact en_iW X hY hr hlocks d_M_edge_38 (⟨by rw [medge, if_neg c2, if_neg c3, if_neg c4, if_neg c5], by rw [medge, if_neg c2, if_neg c3, if_neg c4, if_neg c5]⟩)
  · have c1 : ¬ (mP (M.sI 0 0 0) (nI n)) := b2_0.mp c1
    exact absurd hp c1

set_option maxHeartbeats 4000000 in
set_option maxRecDepth 100000 in
theorem k_M_edge_no (l : Launch) (D : va_G) (A : Nat → Prop) (G : Nat → Nat) (M : mS) (ω : hm_T) (x : Int32) (hp : ¬ mP M x) (fr to : Int32) : Met l y_M_edge (.code y_M_edge c_M_edge 5 (some .int) :: wsA) { frames := 1, cells := 0, slots := 0, locals := 23 } (va_Pc [.ref (M.ad 0), .int x, .int fr, .int to] (ctU D A G (wM G M ω))) (hm_Q D cls A (fun v w => v = some (.int (((-1 : Int32), M.sI 0 0 0)).1) ∧ w = wM G (((-1 : Int32), M.sI 0 0 0)).2 ω)) 0 0 A := by
  refine ct_met (by decide) (Nat.le_of_ble_eq_true rfl) ?_
  rintro p e s m below meth c ls X hr hlocks hnm hl ⟨hB, hK⟩
  have hl : lv_has ls 5 [(0, .ref (M.ad 0)), (1, .int x), (2, .int fr), (3, .int to)] := hl
  have hY : hm_Y D cls A s.heap (wM G M ω) s.heap [] := hm_Y.start hB hK.2.2.2
  refine lv_aload_n X.1 X.2.1 d_M_edge_0 rfl (lv_at hl 0 rfl) ?_
  refine lv_iconst (v := 0) X.1 X.2.1 d_M_edge_1 (by decide) ?_
  refine hm_put ⟨X, hK.1⟩ hY v_0 0 rfl (Nat.le_of_ble_eq_true rfl) (Nat.le_of_ble_eq_true rfl) hu_M ty_M ty_M_ok nm_M m_489 (fun _ h => h) rfl rfl rfl d_M_edge_2 (fun H locs hY => ?_)
  have hY : hm_Y D cls A s.heap (wM G (M.sI 0 0 0) ω) H locs := by rw [← fm_0 (M := M) (v := 0)]; exact hY
  refine lv_aload_n X.1 X.2.1 d_M_edge_5 rfl (lv_at hl 0 rfl) ?_
  refine lv_iload_n X.1 X.2.1 d_M_edge_6 rfl (lv_at hl 1 rfl) ?_
  refine hm_callR (ct_runV (n := 1) X hK hY (k_M_isPart l D A G (M.sI 0 0 0) ω x) m_601 m_598 m_600 ms_M_isPart m_6 (by decide +kernel) ⟨Nat.le_of_ble_eq_true rfl, Nat.le_of_ble_eq_true rfl⟩ ⟨rfl, rfl⟩ (hm_recv ⟨X, hK.1⟩ hY v_0 rfl) rfl hl.1 rfl (Nat.le_of_ble_eq_true rfl) d_M_edge_7 ⟨Nat.le_of_ble_eq_true rfl, Nat.le_of_ble_eq_true rfl⟩) (fun v hv => ?_)
  subst hv
  refine W.eq (g2 := F0 m 10 ls [.int (b2 (mP (M.sI 0 0 0) x))]) rfl ?_
  refine lv_if_ne (tgt := 15) X.1 X.2.1 d_M_edge_10 (by decide) (fun c1 => ?_) (fun c1 => ?_)
  · have c1 : (mP (M.sI 0 0 0) x) := Classical.byContradiction (fun z => c1 (b2_0.mpr z))
    exact absurd c1 hp
  · have c1 : ¬ (mP (M.sI 0 0 0) x) := b2_0.mp c1
    refine lv_iconst (v := (-1)) X.1 X.2.1 d_M_edge_13 (by decide) ?_
    exact en_iW X hY hr hlocks d_M_edge_14 (⟨rfl, rfl⟩)

set_option maxHeartbeats 4000000 in
set_option maxRecDepth 100000 in
theorem k_M_deadline_y (l : Launch) (D : va_G) (A : Nat → Prop) (G : Nat → Nat) (M : mS) (ω : hm_T) (n : Nat) (hp : mP M (nI n)) (h0 : 1 ≤ n) (h20 : n ≤ 20) (cn : Nat) (hcn : M.I 12 n = nI cn) (h10 : cn ≤ 10) (fr to : Int32) (a b : Int64) : Met l y_M_deadline (.code y_M_deadline c_M_deadline 9 (some .int) :: wsA) { frames := 1, cells := 0, slots := 0, locals := 21 } (va_Pc [.ref (M.ad 0), .int (nI n), .int fr, .int to, .long a, .long b] (ctU D A G (wM G M ω))) (hm_Q D cls A (fun v w => v = some (.int (mdead M n cn fr to a b).1) ∧ w = wM G (mdead M n cn fr to a b).2 ω)) 0 0 A := by
  refine ct_met (by decide) (Nat.le_of_ble_eq_true rfl) ?_
  rintro p e s m below meth c ls X hr hlocks hnm hl ⟨hB, hK⟩
  have hl : lv_has ls 9 [(0, .ref (M.ad 0)), (1, .int (nI n)), (2, .int fr), (3, .int to), (4, .long a), (6, .long b)] := hl
  have hY : hm_Y D cls A s.heap (wM G M ω) s.heap [] := hm_Y.start hB hK.2.2.2
  refine lv_aload_n X.1 X.2.1 d_M_deadline_0 rfl (lv_at hl 0 rfl) ?_
  refine lv_iconst (v := 0) X.1 X.2.1 d_M_deadline_1 (by decide) ?_
  refine hm_put ⟨X, hK.1⟩ hY v_0 0 rfl (Nat.le_of_ble_eq_true rfl) (Nat.le_of_ble_eq_true rfl) hu_M ty_M ty_M_ok nm_M m_489 (fun _ h => h) rfl rfl rfl d_M_deadline_2 (fun H locs hY => ?_)
  have hY : hm_Y D cls A s.heap (wM G (M.sI 0 0 0) ω) H locs := by rw [← fm_0 (M := M) (v := 0)]; exact hY
  refine lv_aload_n X.1 X.2.1 d_M_deadline_5 rfl (lv_at hl 0 rfl) ?_
  refine lv_iload_n X.1 X.2.1 d_M_deadline_6 rfl (lv_at hl 1 rfl) ?_
  refine hm_callR (ct_runV (n := 1) X hK hY (k_M_isPart l D A G (M.sI 0 0 0) ω (nI n)) m_601 m_598 m_600 ms_M_isPart m_6 (by decide +kernel) ⟨Nat.le_of_ble_eq_true rfl, Nat.le_of_ble_eq_true rfl⟩ ⟨rfl, rfl⟩ (hm_recv ⟨X, hK.1⟩ hY v_0 rfl) rfl hl.1 rfl (Nat.le_of_ble_eq_true rfl) d_M_deadline_7 ⟨Nat.le_of_ble_eq_true rfl, Nat.le_of_ble_eq_true rfl⟩) (fun v hv => ?_)
  subst hv
  refine W.eq (g2 := F0 m 10 ls [.int (b2 (mP (M.sI 0 0 0) (nI n)))]) rfl ?_
  refine lv_if_ne (tgt := 15) X.1 X.2.1 d_M_deadline_10 (by decide) (fun c1 => ?_) (fun c1 => ?_)
  · have c1 : (mP (M.sI 0 0 0) (nI n)) := Classical.byContradiction (fun z => c1 (b2_0.mpr z))
    refine lv_iload_n X.1 X.2.1 d_M_deadline_15 rfl (lv_at hl 2 rfl) ?_
    refine lv_iconst (v := 1) X.1 X.2.1 d_M_deadline_16 (by decide) ?_
    refine lv_icmp_lt (tgt := 70) X.1 X.2.1 d_M_deadline_17 (by decide) (fun c2 => ?_) (fun c2 => ?_)
    · refine lv_bipush (v := (-2)) X.1 X.2.1 d_M_deadline_70 (by decide) ?_
      exact en_iW X hY hr hlocks d_M_deadline_72 (⟨by rw [mdead, if_pos c2], by rw [mdead, if_pos c2]⟩)
    · refine lv_iload_n X.1 X.2.1 d_M_deadline_20 rfl (lv_at hl 2 rfl) ?_
      refine lv_bipush (v := 30) X.1 X.2.1 d_M_deadline_21 (by decide) ?_
      refine lv_icmp_gt (tgt := 70) X.1 X.2.1 d_M_deadline_23 (by decide) (fun c3 => ?_) (fun c3 => ?_)
      · refine lv_bipush (v := (-2)) X.1 X.2.1 d_M_deadline_70 (by decide) ?_
        exact en_iW X hY hr hlocks d_M_deadline_72 (⟨by rw [mdead, if_neg c2, if_pos c3], by rw [mdead, if_neg c2, if_pos c3]⟩)
      · refine lv_iload_n X.1 X.2.1 d_M_deadline_26 rfl (lv_at hl 3 rfl) ?_
        refine lv_iconst (v := 1) X.1 X.2.1 d_M_deadline_27 (by decide) ?_
        refine lv_icmp_lt (tgt := 70) X.1 X.2.1 d_M_deadline_28 (by decide) (fun c4 => ?_) (fun c4 => ?_)
        · refine lv_bipush (v := (-2)) X.1 X.2.1 d_M_deadline_70 (by decide) ?_
          exact en_iW X hY hr hlocks d_M_deadline_72 (⟨by rw [mdead, if_neg c2, if_neg c3, if_pos c4], by rw [mdead, if_neg c2, if_neg c3, if_pos c4]⟩)
        · refine lv_iload_n X.1 X.2.1 d_M_deadline_31 rfl (lv_at hl 3 rfl) ?_
          refine lv_bipush (v := 30) X.1 X.2.1 d_M_deadline_32 (by decide) ?_
          refine lv_icmp_gt (tgt := 70) X.1 X.2.1 d_M_deadline_34 (by decide) (fun c5 => ?_) (fun c5 => ?_)
          · refine lv_bipush (v := (-2)) X.1 X.2.1 d_M_deadline_70 (by decide) ?_
            exact en_iW X hY hr hlocks d_M_deadline_72 (⟨by rw [mdead, if_neg c2, if_neg c3, if_neg c4, if_pos c5], by rw [mdead, if_neg c2, if_neg c3, if_neg c4, if_pos c5]⟩)
          · refine lv_lload X.1 X.2.1 d_M_deadline_37 (lv_at hl 4 rfl) ?_
            refine lv_lconst (v := 0) X.1 X.2.1 d_M_deadline_39 (by decide) ?_
            refine lc_lt (tgt := 70) X d_M_deadline_40 d_M_deadline_41 (by decide) (fun c6 => ?_) (fun c6 => ?_)
            · refine lv_bipush (v := (-2)) X.1 X.2.1 d_M_deadline_70 (by decide) ?_
              exact en_iW X hY hr hlocks d_M_deadline_72 (⟨by rw [mdead, if_neg c2, if_neg c3, if_neg c4, if_neg c5, if_pos c6], by rw [mdead, if_neg c2, if_neg c3, if_neg c4, if_neg c5, if_pos c6]⟩)
            · refine lv_lload X.1 X.2.1 d_M_deadline_44 (lv_at hl 4 rfl) ?_
              refine lv_ldc2 X.1 X.2.1 X.2.2.2.1 (X.2.2.2.2 _ m_610) d_M_deadline_46 ?_
              refine lc_gt (tgt := 70) X d_M_deadline_49 d_M_deadline_50 (by decide) (fun c7 => ?_) (fun c7 => ?_)
              · refine lv_bipush (v := (-2)) X.1 X.2.1 d_M_deadline_70 (by decide) ?_
                exact en_iW X hY hr hlocks d_M_deadline_72 (⟨by rw [mdead, if_neg c2, if_neg c3, if_neg c4, if_neg c5, if_neg c6, if_pos c7], by rw [mdead, if_neg c2, if_neg c3, if_neg c4, if_neg c5, if_neg c6, if_pos c7]⟩)
              · refine lv_lload X.1 X.2.1 d_M_deadline_53 (lv_at hl 5 rfl) ?_
                refine lv_lload X.1 X.2.1 d_M_deadline_55 (lv_at hl 4 rfl) ?_
                refine lc_lt (tgt := 70) X d_M_deadline_57 d_M_deadline_58 (by decide) (fun c8 => ?_) (fun c8 => ?_)
                · refine lv_bipush (v := (-2)) X.1 X.2.1 d_M_deadline_70 (by decide) ?_
                  exact en_iW X hY hr hlocks d_M_deadline_72 (⟨by rw [mdead, if_neg c2, if_neg c3, if_neg c4, if_neg c5, if_neg c6, if_neg c7, if_pos c8], by rw [mdead, if_neg c2, if_neg c3, if_neg c4, if_neg c5, if_neg c6, if_neg c7, if_pos c8]⟩)
                · refine lv_lload X.1 X.2.1 d_M_deadline_61 (lv_at hl 5 rfl) ?_
                  refine lv_ldc2 X.1 X.2.1 X.2.2.2.1 (X.2.2.2.2 _ m_610) d_M_deadline_63 ?_
                  refine lc_le (tgt := 73) X d_M_deadline_66 d_M_deadline_67 (by decide) (fun c9 => ?_) (fun c9 => ?_)
                  · refine lv_aload_n X.1 X.2.1 d_M_deadline_73 rfl (lv_at hl 0 rfl) ?_
                    refine hm_get ⟨X, hK.1⟩ hY v_0 12 (v := .ref (M.ad 12)) rfl rfl (Nat.le_of_ble_eq_true rfl) hu_M m_501 (fun _ h => h) d_M_deadline_74 ?_
                    refine lv_iload_n X.1 X.2.1 d_M_deadline_77 rfl (lv_at hl 1 rfl) ?_
                    refine mi_ald ⟨X, hK.1⟩ hY v_12 0 rfl (x := n) (v := M.I 12 n) rfl (by omega) (by decide) rfl d_M_deadline_78 ?_
                    refine lv_bipush (v := 10) X.1 X.2.1 d_M_deadline_79 (by decide) ?_
                    refine lv_icmp_ne (tgt := 87) X.1 X.2.1 d_M_deadline_81 (by decide) (fun c10 => ?_) (fun c10 => ?_)
                    · refine lv_bipush (v := 10) X.1 X.2.1 d_M_deadline_87 (by decide) ?_
                      refine lv_iload_n X.1 X.2.1 d_M_deadline_89 rfl (lv_at hl 1 rfl) ?_
                      refine lv_imul X.1 X.2.1 d_M_deadline_90 ?_
                      rw [show (10 : Int32) * nI n = nI (10 * n) from pk_mul 10 n]
                      refine lv_aload_n X.1 X.2.1 d_M_deadline_91 rfl (lv_at hl 0 rfl) ?_
                      refine hm_get ⟨X, hK.1⟩ hY v_0 12 (v := .ref (M.ad 12)) rfl rfl (Nat.le_of_ble_eq_true rfl) hu_M m_501 (fun _ h => h) d_M_deadline_92 ?_
                      refine lv_iload_n X.1 X.2.1 d_M_deadline_95 rfl (lv_at hl 1 rfl) ?_
                      refine mi_ald ⟨X, hK.1⟩ hY v_12 0 rfl (x := n) (v := M.I 12 n) rfl (by omega) (by decide) rfl d_M_deadline_96 ?_
                      refine lv_iadd X.1 X.2.1 d_M_deadline_97 ?_
                      rw [hcn, nI_add]
                      have hlt : cn < 10 := by rcases Nat.lt_or_ge cn 10 with q | q; exact q; exact absurd (by rw [hcn, show cn = 10 by omega]; rfl) c10
                      refine lv_istore (lv' := [(8, .int (nI (10 * n + cn))), (0, .ref (M.ad 0)), (1, .int (nI n)), (2, .int fr), (3, .int to), (4, .long a), (6, .long b)]) X.1 X.2.1 d_M_deadline_98 hl (by decide) rfl (fun ls hl => ?_)
                      refine lv_aload_n X.1 X.2.1 d_M_deadline_100 rfl (lv_at hl 1 rfl) ?_
                      refine hm_get ⟨X, hK.1⟩ hY v_0 13 (v := .ref (M.ad 13)) rfl rfl (Nat.le_of_ble_eq_true rfl) hu_M m_502 (fun _ h => h) d_M_deadline_101 ?_
                      refine lv_iload X.1 X.2.1 d_M_deadline_104 (lv_at hl 0 rfl) ?_
                      refine lv_aload_n X.1 X.2.1 d_M_deadline_106 rfl (lv_at hl 1 rfl) ?_
                      refine hm_get ⟨X, hK.1⟩ hY v_0 19 (v := .int (M.I 19 0)) rfl rfl (Nat.le_of_ble_eq_true rfl) hu_M m_508 (fun _ h => h) d_M_deadline_107 ?_
                      refine mi_ast ⟨X, hK.1⟩ hY v_13 0 rfl (x := 10 * n + cn) rfl (by omega) (by decide) d_M_deadline_110 (fun H locs hY => ?_)
                      have hY : hm_Y D cls A s.heap (wM G ((M.sI 0 0 0).sI 13 (10 * n + cn) (M.I 19 0)) ω) H locs := by rw [← fa_13 (M := (M.sI 0 0 0)) (j := 10 * n + cn) (v := M.I 19 0)]; exact hY
                      refine lv_aload_n X.1 X.2.1 d_M_deadline_111 rfl (lv_at hl 1 rfl) ?_
                      refine hm_get ⟨X, hK.1⟩ hY v_0 14 (v := .ref (M.ad 14)) rfl rfl (Nat.le_of_ble_eq_true rfl) hu_M m_503 (fun _ h => h) d_M_deadline_112 ?_
                      refine lv_iload X.1 X.2.1 d_M_deadline_115 (lv_at hl 0 rfl) ?_
                      refine lv_iload_n X.1 X.2.1 d_M_deadline_117 rfl (lv_at hl 3 rfl) ?_
                      refine mi_ast ⟨X, hK.1⟩ hY v_14 0 rfl (x := 10 * n + cn) rfl (by omega) (by decide) d_M_deadline_118 (fun H locs hY => ?_)
                      have hY : hm_Y D cls A s.heap (wM G (((M.sI 0 0 0).sI 13 (10 * n + cn) (M.I 19 0)).sI 14 (10 * n + cn) fr) ω) H locs := by rw [← fa_14 (M := ((M.sI 0 0 0).sI 13 (10 * n + cn) (M.I 19 0))) (j := 10 * n + cn) (v := fr)]; exact hY
                      refine lv_aload_n X.1 X.2.1 d_M_deadline_119 rfl (lv_at hl 1 rfl) ?_
                      refine hm_get ⟨X, hK.1⟩ hY v_0 15 (v := .ref (M.ad 15)) rfl rfl (Nat.le_of_ble_eq_true rfl) hu_M m_504 (fun _ h => h) d_M_deadline_120 ?_
                      refine lv_iload X.1 X.2.1 d_M_deadline_123 (lv_at hl 0 rfl) ?_
                      refine lv_iload_n X.1 X.2.1 d_M_deadline_125 rfl (lv_at hl 4 rfl) ?_
                      refine mi_ast ⟨X, hK.1⟩ hY v_15 0 rfl (x := 10 * n + cn) rfl (by omega) (by decide) d_M_deadline_126 (fun H locs hY => ?_)
                      have hY : hm_Y D cls A s.heap (wM G ((((M.sI 0 0 0).sI 13 (10 * n + cn) (M.I 19 0)).sI 14 (10 * n + cn) fr).sI 15 (10 * n + cn) to) ω) H locs := by rw [← fa_15 (M := (((M.sI 0 0 0).sI 13 (10 * n + cn) (M.I 19 0)).sI 14 (10 * n + cn) fr)) (j := 10 * n + cn) (v := to)]; exact hY
                      refine lv_aload_n X.1 X.2.1 d_M_deadline_127 rfl (lv_at hl 1 rfl) ?_
                      refine hm_get ⟨X, hK.1⟩ hY v_0 16 (v := .ref (M.ad 16)) rfl rfl (Nat.le_of_ble_eq_true rfl) hu_M m_505 (fun _ h => h) d_M_deadline_128 ?_
                      refine lv_iload X.1 X.2.1 d_M_deadline_131 (lv_at hl 0 rfl) ?_
                      refine lv_lload X.1 X.2.1 d_M_deadline_133 (lv_at hl 5 rfl) ?_
                      refine ml_ast ⟨X, hK.1⟩ hY v_16 2 rfl (x := 10 * n + cn) rfl (by omega) (by decide) d_M_deadline_135 (fun H locs hY => ?_)
                      have hY : hm_Y D cls A s.heap (wM G (((((M.sI 0 0 0).sI 13 (10 * n + cn) (M.I 19 0)).sI 14 (10 * n + cn) fr).sI 15 (10 * n + cn) to).sJ 16 (10 * n + cn) a) ω) H locs := by rw [← fa_16 (M := ((((M.sI 0 0 0).sI 13 (10 * n + cn) (M.I 19 0)).sI 14 (10 * n + cn) fr).sI 15 (10 * n + cn) to)) (j := 10 * n + cn) (v := a)]; exact hY
                      refine lv_aload_n X.1 X.2.1 d_M_deadline_136 rfl (lv_at hl 1 rfl) ?_
                      refine hm_get ⟨X, hK.1⟩ hY v_0 17 (v := .ref (M.ad 17)) rfl rfl (Nat.le_of_ble_eq_true rfl) hu_M m_506 (fun _ h => h) d_M_deadline_137 ?_
                      refine lv_iload X.1 X.2.1 d_M_deadline_140 (lv_at hl 0 rfl) ?_
                      refine lv_lload X.1 X.2.1 d_M_deadline_142 (lv_at hl 6 rfl) ?_
                      refine ml_ast ⟨X, hK.1⟩ hY v_17 2 rfl (x := 10 * n + cn) rfl (by omega) (by decide) d_M_deadline_144 (fun H locs hY => ?_)
                      have hY : hm_Y D cls A s.heap (wM G ((((((M.sI 0 0 0).sI 13 (10 * n + cn) (M.I 19 0)).sI 14 (10 * n + cn) fr).sI 15 (10 * n + cn) to).sJ 16 (10 * n + cn) a).sJ 17 (10 * n + cn) b) ω) H locs := by rw [← fa_17 (M := (((((M.sI 0 0 0).sI 13 (10 * n + cn) (M.I 19 0)).sI 14 (10 * n + cn) fr).sI 15 (10 * n + cn) to).sJ 16 (10 * n + cn) a)) (j := 10 * n + cn) (v := b)]; exact hY
                      refine lv_aload_n X.1 X.2.1 d_M_deadline_145 rfl (lv_at hl 1 rfl) ?_
                      refine hm_get ⟨X, hK.1⟩ hY v_0 18 (v := .ref (M.ad 18)) rfl rfl (Nat.le_of_ble_eq_true rfl) hu_M m_507 (fun _ h => h) d_M_deadline_146 ?_
                      refine lv_iload X.1 X.2.1 d_M_deadline_149 (lv_at hl 0 rfl) ?_
                      refine lv_ldc2 X.1 X.2.1 X.2.2.2.1 (X.2.2.2.2 _ m_488) d_M_deadline_151 ?_
                      refine ml_ast ⟨X, hK.1⟩ hY v_18 2 rfl (x := 10 * n + cn) rfl (by omega) (by decide) d_M_deadline_154 (fun H locs hY => ?_)
                      have hY : hm_Y D cls A s.heap (wM G (((((((M.sI 0 0 0).sI 13 (10 * n + cn) (M.I 19 0)).sI 14 (10 * n + cn) fr).sI 15 (10 * n + cn) to).sJ 16 (10 * n + cn) a).sJ 17 (10 * n + cn) b).sJ 18 (10 * n + cn) (-1)) ω) H locs := by rw [← fa_18 (M := ((((((M.sI 0 0 0).sI 13 (10 * n + cn) (M.I 19 0)).sI 14 (10 * n + cn) fr).sI 15 (10 * n + cn) to).sJ 16 (10 * n + cn) a).sJ 17 (10 * n + cn) b)) (j := 10 * n + cn) (v := (-1))]; exact hY
                      refine lv_aload_n X.1 X.2.1 d_M_deadline_155 rfl (lv_at hl 1 rfl) ?_
                      refine hm_get ⟨X, hK.1⟩ hY v_0 12 (v := .ref (M.ad 12)) rfl rfl (Nat.le_of_ble_eq_true rfl) hu_M m_501 (fun _ h => h) d_M_deadline_156 ?_
                      refine lv_iload_n X.1 X.2.1 d_M_deadline_159 rfl (lv_at hl 2 rfl) ?_
                      refine lv_dup2_11 X.1 X.2.1 d_M_deadline_160 rfl rfl ?_
                      refine mi_ald ⟨X, hK.1⟩ hY v_12 0 rfl (x := n) (v := M.I 12 n) rfl (by omega) (by decide) rfl d_M_deadline_161 ?_
                      refine lv_iconst (v := 1) X.1 X.2.1 d_M_deadline_162 (by decide) ?_
                      refine lv_iadd X.1 X.2.1 d_M_deadline_163 ?_
                      refine mi_ast ⟨X, hK.1⟩ hY v_12 0 rfl (x := n) rfl (by omega) (by decide) d_M_deadline_164 (fun H locs hY => ?_)
                      have hY : hm_Y D cls A s.heap (wM G ((((((((M.sI 0 0 0).sI 13 (10 * n + cn) (M.I 19 0)).sI 14 (10 * n + cn) fr).sI 15 (10 * n + cn) to).sJ 16 (10 * n + cn) a).sJ 17 (10 * n + cn) b).sJ 18 (10 * n + cn) (-1)).sI 12 n ((M.I 12 n) + 1)) ω) H locs := by rw [← fa_12 (M := (((((((M.sI 0 0 0).sI 13 (10 * n + cn) (M.I 19 0)).sI 14 (10 * n + cn) fr).sI 15 (10 * n + cn) to).sJ 16 (10 * n + cn) a).sJ 17 (10 * n + cn) b).sJ 18 (10 * n + cn) (-1))) (j := n) (v := (M.I 12 n) + 1)]; exact hY
                      refine lv_aload_n X.1 X.2.1 d_M_deadline_165 rfl (lv_at hl 1 rfl) ?_
                      refine hm_get ⟨X, hK.1⟩ hY v_0 12 (v := .ref (M.ad 12)) rfl rfl (Nat.le_of_ble_eq_true rfl) hu_M m_501 (fun _ h => h) d_M_deadline_166 ?_
                      refine lv_iload_n X.1 X.2.1 d_M_deadline_169 rfl (lv_at hl 2 rfl) ?_
                      refine mi_ald ⟨X, hK.1⟩ hY v_12 0 rfl (x := n) (v := (M.I 12 n) + 1) rfl (by omega) (by decide) (by simp [mS.sI, mS.sJ, mS.I, mS.J, up2]) d_M_deadline_170 ?_
                      exact en_iW X hY hr hlocks d_M_deadline_171 (⟨by rw [mdead, if_neg c2, if_neg c3, if_neg c4, if_neg c5, if_neg c6, if_neg c7, if_neg c8, if_pos c9, if_neg c10], by rw [mdead, if_neg c2, if_neg c3, if_neg c4, if_neg c5, if_neg c6, if_neg c7, if_neg c8, if_pos c9, if_neg c10]⟩)
                    · refine lv_bipush (v := (-4)) X.1 X.2.1 d_M_deadline_84 (by decide) ?_
                      exact en_iW X hY hr hlocks d_M_deadline_86 (⟨by rw [mdead, if_neg c2, if_neg c3, if_neg c4, if_neg c5, if_neg c6, if_neg c7, if_neg c8, if_pos c9, if_pos c10], by rw [mdead, if_neg c2, if_neg c3, if_neg c4, if_neg c5, if_neg c6, if_neg c7, if_neg c8, if_pos c9, if_pos c10]⟩)
                  · refine lv_bipush (v := (-2)) X.1 X.2.1 d_M_deadline_70 (by decide) ?_
                    exact en_iW X hY hr hlocks d_M_deadline_72 (⟨by rw [mdead, if_neg c2, if_neg c3, if_neg c4, if_neg c5, if_neg c6, if_neg c7, if_neg c8, if_neg c9], by rw [mdead, if_neg c2, if_neg c3, if_neg c4, if_neg c5, if_neg c6, if_neg c7, if_neg c8, if_neg c9]⟩)
  · have c1 : ¬ (mP (M.sI 0 0 0) (nI n)) := b2_0.mp c1
    exact absurd hp c1

set_option maxHeartbeats 4000000 in
set_option maxRecDepth 100000 in
theorem k_M_deadline_no (l : Launch) (D : va_G) (A : Nat → Prop) (G : Nat → Nat) (M : mS) (ω : hm_T) (x : Int32) (hp : ¬ mP M x) (fr to : Int32) (a b : Int64) : Met l y_M_deadline (.code y_M_deadline c_M_deadline 9 (some .int) :: wsA) { frames := 1, cells := 0, slots := 0, locals := 21 } (va_Pc [.ref (M.ad 0), .int x, .int fr, .int to, .long a, .long b] (ctU D A G (wM G M ω))) (hm_Q D cls A (fun v w => v = some (.int (((-1 : Int32), M.sI 0 0 0)).1) ∧ w = wM G (((-1 : Int32), M.sI 0 0 0)).2 ω)) 0 0 A := by
  refine ct_met (by decide) (Nat.le_of_ble_eq_true rfl) ?_
  rintro p e s m below meth c ls X hr hlocks hnm hl ⟨hB, hK⟩
  have hl : lv_has ls 9 [(0, .ref (M.ad 0)), (1, .int x), (2, .int fr), (3, .int to), (4, .long a), (6, .long b)] := hl
  have hY : hm_Y D cls A s.heap (wM G M ω) s.heap [] := hm_Y.start hB hK.2.2.2
  refine lv_aload_n X.1 X.2.1 d_M_deadline_0 rfl (lv_at hl 0 rfl) ?_
  refine lv_iconst (v := 0) X.1 X.2.1 d_M_deadline_1 (by decide) ?_
  refine hm_put ⟨X, hK.1⟩ hY v_0 0 rfl (Nat.le_of_ble_eq_true rfl) (Nat.le_of_ble_eq_true rfl) hu_M ty_M ty_M_ok nm_M m_489 (fun _ h => h) rfl rfl rfl d_M_deadline_2 (fun H locs hY => ?_)
  have hY : hm_Y D cls A s.heap (wM G (M.sI 0 0 0) ω) H locs := by rw [← fm_0 (M := M) (v := 0)]; exact hY
  refine lv_aload_n X.1 X.2.1 d_M_deadline_5 rfl (lv_at hl 0 rfl) ?_
  refine lv_iload_n X.1 X.2.1 d_M_deadline_6 rfl (lv_at hl 1 rfl) ?_
  refine hm_callR (ct_runV (n := 1) X hK hY (k_M_isPart l D A G (M.sI 0 0 0) ω x) m_601 m_598 m_600 ms_M_isPart m_6 (by decide +kernel) ⟨Nat.le_of_ble_eq_true rfl, Nat.le_of_ble_eq_true rfl⟩ ⟨rfl, rfl⟩ (hm_recv ⟨X, hK.1⟩ hY v_0 rfl) rfl hl.1 rfl (Nat.le_of_ble_eq_true rfl) d_M_deadline_7 ⟨Nat.le_of_ble_eq_true rfl, Nat.le_of_ble_eq_true rfl⟩) (fun v hv => ?_)
  subst hv
  refine W.eq (g2 := F0 m 10 ls [.int (b2 (mP (M.sI 0 0 0) x))]) rfl ?_
  refine lv_if_ne (tgt := 15) X.1 X.2.1 d_M_deadline_10 (by decide) (fun c1 => ?_) (fun c1 => ?_)
  · have c1 : (mP (M.sI 0 0 0) x) := Classical.byContradiction (fun z => c1 (b2_0.mpr z))
    exact absurd c1 hp
  · have c1 : ¬ (mP (M.sI 0 0 0) x) := b2_0.mp c1
    refine lv_iconst (v := (-1)) X.1 X.2.1 d_M_deadline_13 (by decide) ?_
    exact en_iW X hY hr hlocks d_M_deadline_14 (⟨rfl, rfl⟩)

set_option maxHeartbeats 4000000 in
set_option maxRecDepth 100000 in
theorem k_M_tolerance_y (l : Launch) (D : va_G) (A : Nat → Prop) (G : Nat → Nat) (M : mS) (ω : hm_T) (n : Nat) (hp : mP M (nI n)) (h0 : 1 ≤ n) (h20 : n ≤ 20) (k : Int32) : Met l y_M_tolerance (.code y_M_tolerance c_M_tolerance 3 (some .int) :: wsA) { frames := 1, cells := 0, slots := 0, locals := 21 } (va_Pc [.ref (M.ad 0), .int (nI n), .int k] (ctU D A G (wM G M ω))) (hm_Q D cls A (fun v w => v = some (.int (mtolY M n k).1) ∧ w = wM G (mtolY M n k).2 ω)) 0 0 A := by
  refine ct_met (by decide) (Nat.le_of_ble_eq_true rfl) ?_
  rintro p e s m below meth c ls X hr hlocks hnm hl ⟨hB, hK⟩
  have hl : lv_has ls 3 [(0, .ref (M.ad 0)), (1, .int (nI n)), (2, .int k)] := hl
  have hY : hm_Y D cls A s.heap (wM G M ω) s.heap [] := hm_Y.start hB hK.2.2.2
  refine lv_aload_n X.1 X.2.1 d_M_tolerance_0 rfl (lv_at hl 0 rfl) ?_
  refine lv_iconst (v := 0) X.1 X.2.1 d_M_tolerance_1 (by decide) ?_
  refine hm_put ⟨X, hK.1⟩ hY v_0 0 rfl (Nat.le_of_ble_eq_true rfl) (Nat.le_of_ble_eq_true rfl) hu_M ty_M ty_M_ok nm_M m_489 (fun _ h => h) rfl rfl rfl d_M_tolerance_2 (fun H locs hY => ?_)
  have hY : hm_Y D cls A s.heap (wM G (M.sI 0 0 0) ω) H locs := by rw [← fm_0 (M := M) (v := 0)]; exact hY
  refine lv_iload_n X.1 X.2.1 d_M_tolerance_5 rfl (lv_at hl 1 rfl) ?_
  refine lv_if_eq (tgt := 19) X.1 X.2.1 d_M_tolerance_6 (by decide) (fun c9 => absurd c9 (nI_ne0 (by omega) (by omega))) (fun _ => ?_)
  refine lv_aload_n X.1 X.2.1 d_M_tolerance_9 rfl (lv_at hl 0 rfl) ?_
  refine lv_iload_n X.1 X.2.1 d_M_tolerance_10 rfl (lv_at hl 1 rfl) ?_
  refine hm_callR (ct_runV (n := 1) X hK hY (k_M_isPart l D A G (M.sI 0 0 0) ω (nI n)) m_601 m_598 m_600 ms_M_isPart m_6 (by decide +kernel) ⟨Nat.le_of_ble_eq_true rfl, Nat.le_of_ble_eq_true rfl⟩ ⟨rfl, rfl⟩ (hm_recv ⟨X, hK.1⟩ hY v_0 rfl) rfl hl.1 rfl (Nat.le_of_ble_eq_true rfl) d_M_tolerance_11 ⟨Nat.le_of_ble_eq_true rfl, Nat.le_of_ble_eq_true rfl⟩) (fun v hv => ?_)
  subst hv
  refine W.eq (g2 := F0 m 14 ls [.int (b2 (mP (M.sI 0 0 0) (nI n)))]) rfl ?_
  refine lv_if_ne (tgt := 19) X.1 X.2.1 d_M_tolerance_14 (by decide) (fun c1 => ?_) (fun c1 => ?_)
  · have c1 : (mP (M.sI 0 0 0) (nI n)) := Classical.byContradiction (fun z => c1 (b2_0.mpr z))
    refine lv_iload_n X.1 X.2.1 d_M_tolerance_19 rfl (lv_at hl 2 rfl) ?_
    refine lv_if_lt (tgt := 29) X.1 X.2.1 d_M_tolerance_20 (by decide) (fun c2 => ?_) (fun c2 => ?_)
    · refine lv_bipush (v := (-2)) X.1 X.2.1 d_M_tolerance_29 (by decide) ?_
      exact en_iW X hY hr hlocks d_M_tolerance_31 (⟨by rw [mtolY, if_pos c2], by rw [mtolY, if_pos c2]⟩)
    · refine lv_iload_n X.1 X.2.1 d_M_tolerance_23 rfl (lv_at hl 2 rfl) ?_
      refine lv_bipush (v := 100) X.1 X.2.1 d_M_tolerance_24 (by decide) ?_
      refine lv_icmp_le (tgt := 32) X.1 X.2.1 d_M_tolerance_26 (by decide) (fun c3 => ?_) (fun c3 => ?_)
      · refine lv_iload_n X.1 X.2.1 d_M_tolerance_32 rfl (lv_at hl 1 rfl) ?_
        refine lv_if_ne (tgt := 44) X.1 X.2.1 d_M_tolerance_33 (by decide) (fun _ => ?_) (fun c9 => absurd c9 (nI_ne0 (by omega) (by omega)))
        refine lv_aload_n X.1 X.2.1 d_M_tolerance_44 rfl (lv_at hl 0 rfl) ?_
        refine hm_get ⟨X, hK.1⟩ hY v_0 7 (v := .ref (M.ad 7)) rfl rfl (Nat.le_of_ble_eq_true rfl) hu_M m_496 (fun _ h => h) d_M_tolerance_45 ?_
        refine lv_iload_n X.1 X.2.1 d_M_tolerance_48 rfl (lv_at hl 1 rfl) ?_
        refine lv_iload_n X.1 X.2.1 d_M_tolerance_49 rfl (lv_at hl 2 rfl) ?_
        refine mi_ast ⟨X, hK.1⟩ hY v_7 0 rfl (x := n) rfl (by omega) (by decide) d_M_tolerance_50 (fun H locs hY => ?_)
        have hY : hm_Y D cls A s.heap (wM G ((M.sI 0 0 0).sI 7 n k) ω) H locs := by rw [← fa_7 (M := (M.sI 0 0 0)) (j := n) (v := k)]; exact hY
        refine lv_iconst (v := 1) X.1 X.2.1 d_M_tolerance_51 (by decide) ?_
        exact en_iW X hY hr hlocks d_M_tolerance_52 (⟨by rw [mtolY, if_neg c2, if_pos c3], by rw [mtolY, if_neg c2, if_pos c3]⟩)
      · refine lv_bipush (v := (-2)) X.1 X.2.1 d_M_tolerance_29 (by decide) ?_
        exact en_iW X hY hr hlocks d_M_tolerance_31 (⟨by rw [mtolY, if_neg c2, if_neg c3], by rw [mtolY, if_neg c2, if_neg c3]⟩)
  · have c1 : ¬ (mP (M.sI 0 0 0) (nI n)) := b2_0.mp c1
    exact absurd hp c1

set_option maxHeartbeats 4000000 in
set_option maxRecDepth 100000 in
theorem k_M_tolerance_no (l : Launch) (D : va_G) (A : Nat → Prop) (G : Nat → Nat) (M : mS) (ω : hm_T) (x : Int32) (hp : ¬ mP M x) (k : Int32) : Met l y_M_tolerance (.code y_M_tolerance c_M_tolerance 3 (some .int) :: wsA) { frames := 1, cells := 0, slots := 0, locals := 21 } (va_Pc [.ref (M.ad 0), .int x, .int k] (ctU D A G (wM G M ω))) (hm_Q D cls A (fun v w => v = some (.int (mtolN M x k).1) ∧ w = wM G (mtolN M x k).2 ω)) 0 0 A := by
  refine ct_met (by decide) (Nat.le_of_ble_eq_true rfl) ?_
  rintro p e s m below meth c ls X hr hlocks hnm hl ⟨hB, hK⟩
  have hl : lv_has ls 3 [(0, .ref (M.ad 0)), (1, .int x), (2, .int k)] := hl
  have hY : hm_Y D cls A s.heap (wM G M ω) s.heap [] := hm_Y.start hB hK.2.2.2
  refine lv_aload_n X.1 X.2.1 d_M_tolerance_0 rfl (lv_at hl 0 rfl) ?_
  refine lv_iconst (v := 0) X.1 X.2.1 d_M_tolerance_1 (by decide) ?_
  refine hm_put ⟨X, hK.1⟩ hY v_0 0 rfl (Nat.le_of_ble_eq_true rfl) (Nat.le_of_ble_eq_true rfl) hu_M ty_M ty_M_ok nm_M m_489 (fun _ h => h) rfl rfl rfl d_M_tolerance_2 (fun H locs hY => ?_)
  have hY : hm_Y D cls A s.heap (wM G (M.sI 0 0 0) ω) H locs := by rw [← fm_0 (M := M) (v := 0)]; exact hY
  refine lv_iload_n X.1 X.2.1 d_M_tolerance_5 rfl (lv_at hl 1 rfl) ?_
  refine lv_if_eq (tgt := 19) X.1 X.2.1 d_M_tolerance_6 (by decide) (fun c1 => ?_) (fun c1 => ?_)
  · refine lv_iload_n X.1 X.2.1 d_M_tolerance_19 rfl (lv_at hl 2 rfl) ?_
    refine lv_if_lt (tgt := 29) X.1 X.2.1 d_M_tolerance_20 (by decide) (fun c2 => ?_) (fun c2 => ?_)
    · refine lv_bipush (v := (-2)) X.1 X.2.1 d_M_tolerance_29 (by decide) ?_
      exact en_iW X hY hr hlocks d_M_tolerance_31 (⟨by rw [mtolN, if_pos c1, if_pos c2], by rw [mtolN, if_pos c1, if_pos c2]⟩)
    · refine lv_iload_n X.1 X.2.1 d_M_tolerance_23 rfl (lv_at hl 2 rfl) ?_
      refine lv_bipush (v := 100) X.1 X.2.1 d_M_tolerance_24 (by decide) ?_
      refine lv_icmp_le (tgt := 32) X.1 X.2.1 d_M_tolerance_26 (by decide) (fun c3 => ?_) (fun c3 => ?_)
      · refine lv_iload_n X.1 X.2.1 d_M_tolerance_32 rfl (lv_at hl 1 rfl) ?_
        refine lv_if_ne (tgt := 44) X.1 X.2.1 d_M_tolerance_33 (by decide) (fun c9 => absurd c1 c9) (fun _ => ?_)
        refine lv_aload_n X.1 X.2.1 d_M_tolerance_36 rfl (lv_at hl 0 rfl) ?_
        refine lv_iload_n X.1 X.2.1 d_M_tolerance_37 rfl (lv_at hl 2 rfl) ?_
        refine hm_put ⟨X, hK.1⟩ hY v_0 23 rfl (Nat.le_of_ble_eq_true rfl) (Nat.le_of_ble_eq_true rfl) hu_M ty_M ty_M_ok nm_M m_512 (fun _ h => h) rfl rfl rfl d_M_tolerance_38 (fun H locs hY => ?_)
        have hY : hm_Y D cls A s.heap (wM G ((M.sI 0 0 0).sI 23 0 k) ω) H locs := by rw [← fm_23 (M := (M.sI 0 0 0)) (v := k)]; exact hY
        refine lv_goto (tgt := 51) X.1 X.2.1 d_M_tolerance_41 (by decide) ?_
        refine lv_iconst (v := 1) X.1 X.2.1 d_M_tolerance_51 (by decide) ?_
        exact en_iW X hY hr hlocks d_M_tolerance_52 (⟨by rw [mtolN, if_pos c1, if_neg c2, if_pos c3], by rw [mtolN, if_pos c1, if_neg c2, if_pos c3]⟩)
      · refine lv_bipush (v := (-2)) X.1 X.2.1 d_M_tolerance_29 (by decide) ?_
        exact en_iW X hY hr hlocks d_M_tolerance_31 (⟨by rw [mtolN, if_pos c1, if_neg c2, if_neg c3], by rw [mtolN, if_pos c1, if_neg c2, if_neg c3]⟩)
  · refine lv_aload_n X.1 X.2.1 d_M_tolerance_9 rfl (lv_at hl 0 rfl) ?_
    refine lv_iload_n X.1 X.2.1 d_M_tolerance_10 rfl (lv_at hl 1 rfl) ?_
    refine hm_callR (ct_runV (n := 1) X hK hY (k_M_isPart l D A G (M.sI 0 0 0) ω x) m_601 m_598 m_600 ms_M_isPart m_6 (by decide +kernel) ⟨Nat.le_of_ble_eq_true rfl, Nat.le_of_ble_eq_true rfl⟩ ⟨rfl, rfl⟩ (hm_recv ⟨X, hK.1⟩ hY v_0 rfl) rfl hl.1 rfl (Nat.le_of_ble_eq_true rfl) d_M_tolerance_11 ⟨Nat.le_of_ble_eq_true rfl, Nat.le_of_ble_eq_true rfl⟩) (fun v hv => ?_)
    subst hv
    refine W.eq (g2 := F0 m 14 ls [.int (b2 (mP (M.sI 0 0 0) x))]) rfl ?_
    refine lv_if_ne (tgt := 19) X.1 X.2.1 d_M_tolerance_14 (by decide) (fun c4 => ?_) (fun c4 => ?_)
    · have c4 : (mP (M.sI 0 0 0) x) := Classical.byContradiction (fun z => c4 (b2_0.mpr z))
      exact absurd c4 hp
    · have c4 : ¬ (mP (M.sI 0 0 0) x) := b2_0.mp c4
      refine lv_iconst (v := (-1)) X.1 X.2.1 d_M_tolerance_17 (by decide) ?_
      exact en_iW X hY hr hlocks d_M_tolerance_18 (⟨by rw [mtolN, if_neg c1], by rw [mtolN, if_neg c1]⟩)

set_option maxHeartbeats 4000000 in
set_option maxRecDepth 100000 in
theorem k_M_mode (l : Launch) (D : va_G) (A : Nat → Prop) (G : Nat → Nat) (M : mS) (ω : hm_T) (c0 : Nat) (hc0 : M.I 1 0 = nI c0) (h20 : c0 ≤ 20) (x : Int32) : Met l y_M_mode (.code y_M_mode c_M_mode 4 (some .int) :: wsA) { frames := 1, cells := 0, slots := 0, locals := 22 } (va_Pc [.ref (M.ad 0), .int x] (ctU D A G (wM G M ω))) (hm_Q D cls A (fun v w => v = some (.int (mmode M x c0).1) ∧ w = wM G (mmode M x c0).2 ω)) 0 0 A := by
  refine ct_met (by decide) (Nat.le_of_ble_eq_true rfl) ?_
  rintro p e s m below meth c ls X hr hlocks hnm hl ⟨hB, hK⟩
  have hl : lv_has ls 4 [(0, .ref (M.ad 0)), (1, .int x)] := hl
  have hY : hm_Y D cls A s.heap (wM G M ω) s.heap [] := hm_Y.start hB hK.2.2.2
  refine lv_aload_n X.1 X.2.1 d_M_mode_0 rfl (lv_at hl 0 rfl) ?_
  refine lv_iconst (v := 0) X.1 X.2.1 d_M_mode_1 (by decide) ?_
  refine hm_put ⟨X, hK.1⟩ hY v_0 0 rfl (Nat.le_of_ble_eq_true rfl) (Nat.le_of_ble_eq_true rfl) hu_M ty_M ty_M_ok nm_M m_489 (fun _ h => h) rfl rfl rfl d_M_mode_2 (fun H locs hY => ?_)
  have hY : hm_Y D cls A s.heap (wM G (M.sI 0 0 0) ω) H locs := by rw [← fm_0 (M := M) (v := 0)]; exact hY
  refine lv_iload_n X.1 X.2.1 d_M_mode_5 rfl (lv_at hl 1 rfl) ?_
  refine lv_if_lt (tgt := 14) X.1 X.2.1 d_M_mode_6 (by decide) (fun c1 => ?_) (fun c1 => ?_)
  · refine lv_bipush (v := (-2)) X.1 X.2.1 d_M_mode_14 (by decide) ?_
    exact en_iW X hY hr hlocks d_M_mode_16 (⟨by rw [mmode, if_pos c1], by rw [mmode, if_pos c1]⟩)
  · refine lv_iload_n X.1 X.2.1 d_M_mode_9 rfl (lv_at hl 1 rfl) ?_
    refine lv_iconst (v := 3) X.1 X.2.1 d_M_mode_10 (by decide) ?_
    refine lv_icmp_le (tgt := 17) X.1 X.2.1 d_M_mode_11 (by decide) (fun c2 => ?_) (fun c2 => ?_)
    · refine lv_aload_n X.1 X.2.1 d_M_mode_17 rfl (lv_at hl 0 rfl) ?_
      refine hm_get ⟨X, hK.1⟩ hY v_0 19 (v := .int (M.I 19 0)) rfl rfl (Nat.le_of_ble_eq_true rfl) hu_M m_508 (fun _ h => h) d_M_mode_18 ?_
      refine lv_istore_n (lv' := [(2, .int (M.I 19 0)), (0, .ref (M.ad 0)), (1, .int x)]) X.1 X.2.1 d_M_mode_21 rfl hl (by decide) rfl (fun ls hl => ?_)
      refine lv_aload_n X.1 X.2.1 d_M_mode_22 rfl (lv_at hl 1 rfl) ?_
      refine lv_iload_n X.1 X.2.1 d_M_mode_23 rfl (lv_at hl 2 rfl) ?_
      refine hm_put ⟨X, hK.1⟩ hY v_0 19 rfl (Nat.le_of_ble_eq_true rfl) (Nat.le_of_ble_eq_true rfl) hu_M ty_M ty_M_ok nm_M m_508 (fun _ h => h) rfl rfl rfl d_M_mode_24 (fun H locs hY => ?_)
      have hY : hm_Y D cls A s.heap (wM G ((M.sI 0 0 0).sI 19 0 x) ω) H locs := by rw [← fm_19 (M := (M.sI 0 0 0)) (v := x)]; exact hY
      refine lv_iconst (v := 1) X.1 X.2.1 d_M_mode_27 (by decide) ?_
      refine lv_istore_n (lv' := [(3, .int 1), (2, .int (M.I 19 0)), (0, .ref (M.ad 0)), (1, .int x)]) X.1 X.2.1 d_M_mode_28 rfl hl (by decide) rfl (fun ls hl => ?_)
      by_cases hmx : M.I 19 0 = x
      · have hb1 : ((M.sI 0 0 0).sI 19 0 x).I 1 0 = nI c0 := hc0
        refine lv_iload_n X.1 X.2.1 d_M_mode_29 rfl (lv_at hl 0 rfl) ?_
        refine lv_aload_n X.1 X.2.1 d_M_mode_30 rfl (lv_at hl 2 rfl) ?_
        refine hm_get ⟨X, hK.1⟩ hY v_0 1 (v := .int (M.I 1 0)) rfl rfl (Nat.le_of_ble_eq_true rfl) hu_M m_490 (fun _ h => h) d_M_mode_31 ?_
        refine lv_icmp_gt (tgt := 53) X.1 X.2.1 d_M_mode_34 (by decide) (fun _ => ?_) (fun _ => ?_)
        · refine lv_iload_n X.1 X.2.1 d_M_mode_53 rfl (lv_at hl 1 rfl) ?_
          exact en_iW X hY hr hlocks d_M_mode_54 (⟨by rw [mmode, if_neg c1, if_pos c2], by rw [mmode, if_neg c1, if_pos c2, if_pos hmx]⟩)
        · refine lv_iload_n X.1 X.2.1 d_M_mode_37 rfl (lv_at hl 1 rfl) ?_
          refine lv_iload_n X.1 X.2.1 d_M_mode_38 rfl (lv_at hl 3 rfl) ?_
          refine lv_icmp_eq (tgt := 53) X.1 X.2.1 d_M_mode_39 (by decide) (fun _ => ?_) (fun c9 => absurd hmx c9)
          refine lv_iload_n X.1 X.2.1 d_M_mode_53 rfl (lv_at hl 1 rfl) ?_
          exact en_iW X hY hr hlocks d_M_mode_54 (⟨by rw [mmode, if_neg c1, if_pos c2], by rw [mmode, if_neg c1, if_pos c2, if_pos hmx]⟩)
      · skip
        have loop : ∀ (k j : Nat) (T : mS) (ls : Array Slot) (H : Heap) (locs : List Loc), j ≤ c0 → c0 < j + k → T = mmL ((M.sI 0 0 0).sI 19 0 x) j → T.I 1 = M.I 1 → T.I 4 = M.I 4 → T.I 12 = M.I 12 → hm_Y D cls A s.heap (wM G T ω) H locs → lv_has ls 4 [(3, .int (nI (j + 1))), (0, .ref (T.ad 0)), (1, .int x), (2, .int (M.I 19 0))] → W p l e { frames := 1, cells := 0, slots := 0, locals := 22 } s m (([.ref (M.ad 0), .int x] : List Value).toArray) below meth c H locs 0 0 (MQ below (hm_Q D cls A (fun v w => v = some (.int (mmode M x c0).1) ∧ w = wM G (mmode M x c0).2 ω)) (([.ref (M.ad 0), .int x] : List Value).toArray) s 0 0 A) (F0 m 29 ls []) := by
          intro k
          induction k with
          | zero => intro j T ls H locs hle hlt; omega
          | succ k ih =>
            intro j T ls H locs hle hlt hT h1 h4 h12 hY hl
            refine lv_iload_n X.1 X.2.1 d_M_mode_29 rfl (lv_at hl 0 rfl) ?_
            refine lv_aload_n X.1 X.2.1 d_M_mode_30 rfl (lv_at hl 1 rfl) ?_
            refine hm_get ⟨X, hK.1⟩ hY v_0 1 (v := .int (T.I 1 0)) rfl rfl (Nat.le_of_ble_eq_true rfl) hu_M m_490 (fun _ h => h) d_M_mode_31 ?_
            have hb1 : T.I 1 0 = nI c0 := by rw [h1]; exact hc0
            rw [hb1]
            refine lv_icmp_gt (tgt := 53) X.1 X.2.1 d_M_mode_34 (by decide) (fun c9 => ?_) (fun c9 => ?_)
            · have hj : j = c0 := by rcases Nat.lt_or_ge j c0 with q | q; exact absurd c9 (nI_nlt (by omega) (by omega)); omega
              refine lv_iload_n X.1 X.2.1 d_M_mode_53 rfl (lv_at hl 3 rfl) ?_
              exact en_iW X hY hr hlocks d_M_mode_54 (⟨by rw [mmode, if_neg c1, if_pos c2], by rw [mmode, if_neg c1, if_pos c2, if_neg hmx, ← hj, ← hT]⟩)
            · have hj : j < c0 := by rcases Nat.lt_or_ge j c0 with q | q; exact q; exact absurd (nI_lt (by omega) (by omega)) c9
              refine lv_iload_n X.1 X.2.1 d_M_mode_37 rfl (lv_at hl 3 rfl) ?_
              refine lv_iload_n X.1 X.2.1 d_M_mode_38 rfl (lv_at hl 2 rfl) ?_
              refine lv_icmp_eq (tgt := 53) X.1 X.2.1 d_M_mode_39 (by decide) (fun c9 => absurd c9 hmx) (fun _ => ?_)
              refine lv_aload_n X.1 X.2.1 d_M_mode_42 rfl (lv_at hl 1 rfl) ?_
              refine lv_iload_n X.1 X.2.1 d_M_mode_43 rfl (lv_at hl 0 rfl) ?_
              refine hm_call (ct_runV (n := 1) X hK hY (k_M_clear l D A G T ω (j + 1) (by omega) (by omega)) m_635 m_632 m_634 ms_M_clear m_6 (by decide +kernel) ⟨Nat.le_of_ble_eq_true rfl, Nat.le_of_ble_eq_true rfl⟩ ⟨rfl, rfl⟩ (hm_recv ⟨X, hK.1⟩ hY v_0 rfl) rfl hl.1 rfl (Nat.le_of_ble_eq_true rfl) d_M_mode_44 ⟨Nat.le_of_ble_eq_true rfl, Nat.le_of_ble_eq_true rfl⟩) hY (fun v w1 H locs hp hY => ?_)
              obtain ⟨rfl, rfl⟩ := hp
              refine W.eq (g2 := F0 m 47 ls []) rfl ?_
              obtain ⟨E3, hE3⟩ : ∃ z, z = clr T (j + 1) := ⟨_, rfl⟩
              rw [← hE3] at hY
              have hkE3 : E3.ad = T.ad ∧ E3.I 1 = T.I 1 ∧ E3.I 4 = T.I 4 ∧ E3.I 12 = T.I 12 := by rw [hE3]; exact clr_k T (j + 1)
              have hl : lv_has ls 4 [(3, .int (nI (j + 1))), (0, .ref (E3.ad 0)), (1, .int x), (2, .int (M.I 19 0))] := by rw [hkE3.1]; exact hl
              refine lv_iinc (v := nI (j + 1 + 1)) (lv' := [(3, .int (nI (j + 1 + 1))), (0, .ref (E3.ad 0)), (1, .int x), (2, .int (M.I 19 0))]) X.1 X.2.1 d_M_mode_47 hl (k := 0) rfl (nI_1 (j + 1)) (by decide) rfl (fun ls hl => ?_)
              refine lv_goto (tgt := 29) X.1 X.2.1 d_M_mode_50 (by decide) ?_
              exact ih (j + 1) E3 _ _ _ (by omega) (by omega) (by rw [hE3, show mmL ((M.sI 0 0 0).sI 19 0 x) (j + 1) = clr (mmL ((M.sI 0 0 0).sI 19 0 x) j) (j + 1) from rfl, ← hT]) (hkE3.2.1.trans h1) (hkE3.2.2.1.trans h4) (hkE3.2.2.2.trans h12) hY (lv_sub hl [0, 1, 2, 3] rfl)
        exact loop (c0 + 1) 0 ((M.sI 0 0 0).sI 19 0 x) ls _ _ (Nat.zero_le _) (by omega) rfl rfl rfl rfl hY (lv_sub hl [0, 2, 3, 1] rfl)
    · refine lv_bipush (v := (-2)) X.1 X.2.1 d_M_mode_14 (by decide) ?_
      exact en_iW X hY hr hlocks d_M_mode_16 (⟨by rw [mmode, if_neg c1, if_neg c2], by rw [mmode, if_neg c1, if_neg c2]⟩)

set_option maxHeartbeats 4000000 in
set_option maxRecDepth 100000 in
theorem k_M_outer (l : Launch) (D : va_G) (A : Nat → Prop) (G : Nat → Nat) (M : mS) (ω : hm_T) (c0 : Nat) (hc0 : M.I 1 0 = nI c0) (h20 : c0 ≤ 20) (t : Int64) : Met l y_M_outer (.code y_M_outer c_M_outer 4 (some .int) :: wsA) { frames := 2, cells := 0, slots := 0, locals := 44 } (va_Pc [.ref (M.ad 0), .long t] (ctU D A G (wM G M ω))) (hm_Q D cls A (fun v w => v = some (.int (mou M t c0).1) ∧ w = wM G (mou M t c0).2 ω)) 0 0 A := by
  refine ct_met (by decide) (Nat.le_of_ble_eq_true rfl) ?_
  rintro p e s m below meth c ls X hr hlocks hnm hl ⟨hB, hK⟩
  have hl : lv_has ls 4 [(0, .ref (M.ad 0)), (1, .long t)] := hl
  have hY : hm_Y D cls A s.heap (wM G M ω) s.heap [] := hm_Y.start hB hK.2.2.2
  refine lv_aload_n X.1 X.2.1 d_M_outer_0 rfl (lv_at hl 0 rfl) ?_
  refine lv_iconst (v := 0) X.1 X.2.1 d_M_outer_1 (by decide) ?_
  refine hm_put ⟨X, hK.1⟩ hY v_0 0 rfl (Nat.le_of_ble_eq_true rfl) (Nat.le_of_ble_eq_true rfl) hu_M ty_M ty_M_ok nm_M m_489 (fun _ h => h) rfl rfl rfl d_M_outer_2 (fun H locs hY => ?_)
  have hY : hm_Y D cls A s.heap (wM G (M.sI 0 0 0) ω) H locs := by rw [← fm_0 (M := M) (v := 0)]; exact hY
  refine lv_aload_n X.1 X.2.1 d_M_outer_5 rfl (lv_at hl 0 rfl) ?_
  refine lv_lload_n X.1 X.2.1 d_M_outer_6 rfl (lv_at hl 1 rfl) ?_
  refine hm_callR (ct_runV (n := 1) X hK hY (k_M_isTime l D A G (M.sI 0 0 0) ω t) m_618 m_615 m_617 ms_M_isTime m_6 (by decide +kernel) ⟨Nat.le_of_ble_eq_true rfl, Nat.le_of_ble_eq_true rfl⟩ ⟨rfl, rfl⟩ (hm_recv ⟨X, hK.1⟩ hY v_0 rfl) rfl hl.1 rfl (Nat.le_of_ble_eq_true rfl) d_M_outer_7 ⟨Nat.le_of_ble_eq_true rfl, Nat.le_of_ble_eq_true rfl⟩) (fun v hv => ?_)
  subst hv
  refine W.eq (g2 := F0 m 10 ls [.int (b2 (mT (M.sI 0 0 0) t))]) rfl ?_
  refine lv_if_ne (tgt := 16) X.1 X.2.1 d_M_outer_10 (by decide) (fun c1 => ?_) (fun c1 => ?_)
  · have c1 : (mT (M.sI 0 0 0) t) := Classical.byContradiction (fun z => c1 (b2_0.mpr z))
    refine lv_aload_n X.1 X.2.1 d_M_outer_16 rfl (lv_at hl 0 rfl) ?_
    refine lv_lload_n X.1 X.2.1 d_M_outer_17 rfl (lv_at hl 1 rfl) ?_
    refine hm_put ⟨X, hK.1⟩ hY v_0 21 rfl (Nat.le_of_ble_eq_true rfl) (Nat.le_of_ble_eq_true rfl) hu_M ty_M ty_M_ok nm_M m_510 (fun _ h => h) rfl rfl rfl d_M_outer_18 (fun H locs hY => ?_)
    have hY : hm_Y D cls A s.heap (wM G ((M.sI 0 0 0).sJ 21 0 t) ω) H locs := by rw [← fm_21 (M := (M.sI 0 0 0)) (v := t)]; exact hY
    refine lv_lload_n X.1 X.2.1 d_M_outer_21 rfl (lv_at hl 1 rfl) ?_
    refine lv_aload_n X.1 X.2.1 d_M_outer_22 rfl (lv_at hl 0 rfl) ?_
    refine hm_get ⟨X, hK.1⟩ hY v_0 30 (v := .long (M.J 30 0)) rfl rfl (Nat.le_of_ble_eq_true rfl) hu_M m_519 (fun _ h => h) d_M_outer_23 ?_
    refine lv_lsub X.1 X.2.1 d_M_outer_26 ?_
    refine lv_ldc2 X.1 X.2.1 X.2.2.2.1 (X.2.2.2.2 _ m_593) d_M_outer_27 ?_
    refine lc_le (tgt := 38) X d_M_outer_30 d_M_outer_31 (by decide) (fun c2 => ?_) (fun c2 => ?_)
    · refine lv_iconst (v := 0) X.1 X.2.1 d_M_outer_38 (by decide) ?_
      refine lv_istore_n (lv' := [(3, .int 0), (0, .ref (M.ad 0)), (1, .long t)]) X.1 X.2.1 d_M_outer_39 rfl hl (by decide) rfl (fun ls hl => ?_)
      refine lv_aload_n X.1 X.2.1 d_M_outer_40 rfl (lv_at hl 1 rfl) ?_
      refine lv_lload_n X.1 X.2.1 d_M_outer_41 rfl (lv_at hl 2 rfl) ?_
      refine hm_put ⟨X, hK.1⟩ hY v_0 30 rfl (Nat.le_of_ble_eq_true rfl) (Nat.le_of_ble_eq_true rfl) hu_M ty_M ty_M_ok nm_M m_519 (fun _ h => h) rfl rfl rfl d_M_outer_42 (fun H locs hY => ?_)
      have hY : hm_Y D cls A s.heap (wM G (((M.sI 0 0 0).sJ 21 0 t).sJ 30 0 t) ω) H locs := by rw [← fm_30 (M := ((M.sI 0 0 0).sJ 21 0 t)) (v := t)]; exact hY
      refine lv_iload_n X.1 X.2.1 d_M_outer_45 rfl (lv_at hl 0 rfl) ?_
      refine lv_if_eq (tgt := 54) X.1 X.2.1 d_M_outer_46 (by decide) (fun c3 => ?_) (fun c3 => ?_)
      · refine lv_iload_n X.1 X.2.1 d_M_outer_54 rfl (lv_at hl 0 rfl) ?_
        refine lv_if_eq (tgt := 62) X.1 X.2.1 d_M_outer_55 (by decide) (fun c4 => ?_) (fun c4 => ?_)
        · refine lv_iconst (v := 1) X.1 X.2.1 d_M_outer_62 (by decide) ?_
          exact en_iW X hY hr hlocks d_M_outer_63 (⟨by rw [mou, if_pos c1, if_pos c2], by rw [mou, if_pos c1, if_pos c2]⟩)
        · exact absurd c4 (by decide)
      · exact absurd c3 (by decide)
    · refine lv_iconst (v := 1) X.1 X.2.1 d_M_outer_34 (by decide) ?_
      refine lv_goto (tgt := 39) X.1 X.2.1 d_M_outer_35 (by decide) ?_
      refine lv_istore_n (lv' := [(3, .int 1), (0, .ref (M.ad 0)), (1, .long t)]) X.1 X.2.1 d_M_outer_39 rfl hl (by decide) rfl (fun ls hl => ?_)
      refine lv_aload_n X.1 X.2.1 d_M_outer_40 rfl (lv_at hl 1 rfl) ?_
      refine lv_lload_n X.1 X.2.1 d_M_outer_41 rfl (lv_at hl 2 rfl) ?_
      refine hm_put ⟨X, hK.1⟩ hY v_0 30 rfl (Nat.le_of_ble_eq_true rfl) (Nat.le_of_ble_eq_true rfl) hu_M ty_M ty_M_ok nm_M m_519 (fun _ h => h) rfl rfl rfl d_M_outer_42 (fun H locs hY => ?_)
      have hY : hm_Y D cls A s.heap (wM G (((M.sI 0 0 0).sJ 21 0 t).sJ 30 0 t) ω) H locs := by rw [← fm_30 (M := ((M.sI 0 0 0).sJ 21 0 t)) (v := t)]; exact hY
      refine lv_iload_n X.1 X.2.1 d_M_outer_45 rfl (lv_at hl 0 rfl) ?_
      refine lv_if_eq (tgt := 54) X.1 X.2.1 d_M_outer_46 (by decide) (fun c5 => ?_) (fun c5 => ?_)
      · exact absurd c5 (by decide)
      · refine lv_aload_n X.1 X.2.1 d_M_outer_49 rfl (lv_at hl 1 rfl) ?_
        refine lv_iconst (v := 3) X.1 X.2.1 d_M_outer_50 (by decide) ?_
        refine hm_call (ct_runV (n := 1) X hK hY (k_M_reset0 l D A G (((M.sI 0 0 0).sJ 21 0 t).sJ 30 0 t) ω c0 hc0 h20 3) m_631 m_628 m_630 ms_M_reset0 m_6 (by decide +kernel) ⟨Nat.le_of_ble_eq_true rfl, Nat.le_of_ble_eq_true rfl⟩ ⟨rfl, rfl⟩ (hm_recv ⟨X, hK.1⟩ hY v_0 rfl) rfl hl.1 rfl (Nat.le_of_ble_eq_true rfl) d_M_outer_51 ⟨Nat.le_of_ble_eq_true rfl, Nat.le_of_ble_eq_true rfl⟩) hY (fun v w1 H locs hp hY => ?_)
        obtain ⟨rfl, rfl⟩ := hp
        refine W.eq (g2 := F0 m 54 ls []) rfl ?_
        obtain ⟨E6, hE6⟩ : ∃ z, z = r0 (((M.sI 0 0 0).sJ 21 0 t).sJ 30 0 t) 3 c0 := ⟨_, rfl⟩
        rw [← hE6] at hY
        have hkE6 : E6.ad = M.ad ∧ E6.I 1 = M.I 1 ∧ E6.I 4 = M.I 4 ∧ E6.I 12 = M.I 12 := by rw [hE6]; exact r0_k (((M.sI 0 0 0).sJ 21 0 t).sJ 30 0 t) 3 c0
        have hl : lv_has ls 4 [(3, .int 1), (0, .ref (E6.ad 0)), (1, .long t)] := by rw [hkE6.1]; exact hl
        refine lv_iload_n X.1 X.2.1 d_M_outer_54 rfl (lv_at hl 0 rfl) ?_
        refine lv_if_eq (tgt := 62) X.1 X.2.1 d_M_outer_55 (by decide) (fun c7 => ?_) (fun c7 => ?_)
        · exact absurd c7 (by decide)
        · refine lv_iconst (v := 0) X.1 X.2.1 d_M_outer_58 (by decide) ?_
          refine lv_goto (tgt := 63) X.1 X.2.1 d_M_outer_59 (by decide) ?_
          exact en_iW X hY hr hlocks d_M_outer_63 (⟨by first | (rw [hE6]; rw [mou, if_pos c1, if_neg c2]) | rw [mou, if_pos c1, if_neg c2], by first | (rw [hE6]; rw [mou, if_pos c1, if_neg c2]) | rw [mou, if_pos c1, if_neg c2]⟩)
  · have c1 : ¬ (mT (M.sI 0 0 0) t) := b2_0.mp c1
    refine lv_bipush (v := (-2)) X.1 X.2.1 d_M_outer_13 (by decide) ?_
    exact en_iW X hY hr hlocks d_M_outer_15 (⟨by rw [mou, if_neg c1], by rw [mou, if_neg c1]⟩)

set_option maxHeartbeats 4000000 in
set_option maxRecDepth 100000 in
theorem k_M_reset (l : Launch) (D : va_G) (A : Nat → Prop) (G : Nat → Nat) (M : mS) (ω : hm_T) (c0 : Nat) (hc0 : M.I 1 0 = nI c0) (h20 : c0 ≤ 20) (x : Int32) : Met l y_M_reset (.code y_M_reset c_M_reset 2 (some .int) :: wsA) { frames := 2, cells := 0, slots := 0, locals := 44 } (va_Pc [.ref (M.ad 0), .int x] (ctU D A G (wM G M ω))) (hm_Q D cls A (fun v w => v = some (.int (mrst M x c0).1) ∧ w = wM G (mrst M x c0).2 ω)) 0 0 A := by
  refine ct_met (by decide) (Nat.le_of_ble_eq_true rfl) ?_
  rintro p e s m below meth c ls X hr hlocks hnm hl ⟨hB, hK⟩
  have hl : lv_has ls 2 [(0, .ref (M.ad 0)), (1, .int x)] := hl
  have hY : hm_Y D cls A s.heap (wM G M ω) s.heap [] := hm_Y.start hB hK.2.2.2
  refine lv_aload_n X.1 X.2.1 d_M_reset_0 rfl (lv_at hl 0 rfl) ?_
  refine lv_iconst (v := 0) X.1 X.2.1 d_M_reset_1 (by decide) ?_
  refine hm_put ⟨X, hK.1⟩ hY v_0 0 rfl (Nat.le_of_ble_eq_true rfl) (Nat.le_of_ble_eq_true rfl) hu_M ty_M ty_M_ok nm_M m_489 (fun _ h => h) rfl rfl rfl d_M_reset_2 (fun H locs hY => ?_)
  have hY : hm_Y D cls A s.heap (wM G (M.sI 0 0 0) ω) H locs := by rw [← fm_0 (M := M) (v := 0)]; exact hY
  refine lv_iload_n X.1 X.2.1 d_M_reset_5 rfl (lv_at hl 1 rfl) ?_
  refine lv_if_lt (tgt := 14) X.1 X.2.1 d_M_reset_6 (by decide) (fun c1 => ?_) (fun c1 => ?_)
  · refine lv_bipush (v := (-2)) X.1 X.2.1 d_M_reset_14 (by decide) ?_
    exact en_iW X hY hr hlocks d_M_reset_16 (⟨by rw [mrst, if_pos c1], by rw [mrst, if_pos c1]⟩)
  · refine lv_iload_n X.1 X.2.1 d_M_reset_9 rfl (lv_at hl 1 rfl) ?_
    refine lv_iconst (v := 5) X.1 X.2.1 d_M_reset_10 (by decide) ?_
    refine lv_icmp_le (tgt := 17) X.1 X.2.1 d_M_reset_11 (by decide) (fun c2 => ?_) (fun c2 => ?_)
    · refine lv_iload_n X.1 X.2.1 d_M_reset_17 rfl (lv_at hl 1 rfl) ?_
      refine lv_if_ne (tgt := 26) X.1 X.2.1 d_M_reset_18 (by decide) (fun c3 => ?_) (fun c3 => ?_)
      · refine lv_iload_n X.1 X.2.1 d_M_reset_26 rfl (lv_at hl 1 rfl) ?_
        refine lv_iconst (v := 2) X.1 X.2.1 d_M_reset_27 (by decide) ?_
        refine lv_icmp_ge (tgt := 38) X.1 X.2.1 d_M_reset_28 (by decide) (fun c4 => ?_) (fun c4 => ?_)
        · refine lv_iload_n X.1 X.2.1 d_M_reset_38 rfl (lv_at hl 1 rfl) ?_
          refine lv_iconst (v := 2) X.1 X.2.1 d_M_reset_39 (by decide) ?_
          refine lv_icmp_ne (tgt := 50) X.1 X.2.1 d_M_reset_40 (by decide) (fun c5 => ?_) (fun c5 => ?_)
          · refine lv_iload_n X.1 X.2.1 d_M_reset_50 rfl (lv_at hl 1 rfl) ?_
            refine lv_iconst (v := 3) X.1 X.2.1 d_M_reset_51 (by decide) ?_
            refine lv_icmp_ne (tgt := 62) X.1 X.2.1 d_M_reset_52 (by decide) (fun c6 => ?_) (fun c6 => ?_)
            · refine lv_iload_n X.1 X.2.1 d_M_reset_62 rfl (lv_at hl 1 rfl) ?_
              refine lv_iconst (v := 4) X.1 X.2.1 d_M_reset_63 (by decide) ?_
              refine lv_icmp_ne (tgt := 74) X.1 X.2.1 d_M_reset_64 (by decide) (fun c7 => ?_) (fun c7 => ?_)
              · refine lv_aload_n X.1 X.2.1 d_M_reset_74 rfl (lv_at hl 0 rfl) ?_
                refine hm_get ⟨X, hK.1⟩ hY v_0 20 (v := .int (M.I 20 0)) rfl rfl (Nat.le_of_ble_eq_true rfl) hu_M m_509 (fun _ h => h) d_M_reset_75 ?_
                exact en_iW X hY hr hlocks d_M_reset_78 (⟨by rw [mrst, if_neg c1, if_pos c2, if_neg c3, if_pos c4, if_neg c5, if_neg c6, if_neg c7], by rw [mrst, if_neg c1, if_pos c2, if_neg c3, if_pos c4, if_neg c5, if_neg c6, if_neg c7]⟩)
              · refine lv_aload_n X.1 X.2.1 d_M_reset_67 rfl (lv_at hl 0 rfl) ?_
                refine hm_get ⟨X, hK.1⟩ hY v_0 28 (v := .int (M.I 28 0)) rfl rfl (Nat.le_of_ble_eq_true rfl) hu_M m_517 (fun _ h => h) d_M_reset_68 ?_
                refine lv_goto (tgt := 78) X.1 X.2.1 d_M_reset_71 (by decide) ?_
                exact en_iW X hY hr hlocks d_M_reset_78 (⟨by rw [mrst, if_neg c1, if_pos c2, if_neg c3, if_pos c4, if_neg c5, if_neg c6, if_pos c7], by rw [mrst, if_neg c1, if_pos c2, if_neg c3, if_pos c4, if_neg c5, if_neg c6, if_pos c7]⟩)
            · refine lv_aload_n X.1 X.2.1 d_M_reset_55 rfl (lv_at hl 0 rfl) ?_
              refine hm_get ⟨X, hK.1⟩ hY v_0 26 (v := .int (M.I 26 0)) rfl rfl (Nat.le_of_ble_eq_true rfl) hu_M m_515 (fun _ h => h) d_M_reset_56 ?_
              refine lv_goto (tgt := 78) X.1 X.2.1 d_M_reset_59 (by decide) ?_
              exact en_iW X hY hr hlocks d_M_reset_78 (⟨by rw [mrst, if_neg c1, if_pos c2, if_neg c3, if_pos c4, if_neg c5, if_pos c6], by rw [mrst, if_neg c1, if_pos c2, if_neg c3, if_pos c4, if_neg c5, if_pos c6]⟩)
          · refine lv_aload_n X.1 X.2.1 d_M_reset_43 rfl (lv_at hl 0 rfl) ?_
            refine hm_get ⟨X, hK.1⟩ hY v_0 25 (v := .int (M.I 25 0)) rfl rfl (Nat.le_of_ble_eq_true rfl) hu_M m_514 (fun _ h => h) d_M_reset_44 ?_
            refine lv_goto (tgt := 78) X.1 X.2.1 d_M_reset_47 (by decide) ?_
            exact en_iW X hY hr hlocks d_M_reset_78 (⟨by rw [mrst, if_neg c1, if_pos c2, if_neg c3, if_pos c4, if_pos c5], by rw [mrst, if_neg c1, if_pos c2, if_neg c3, if_pos c4, if_pos c5]⟩)
        · refine lv_aload_n X.1 X.2.1 d_M_reset_31 rfl (lv_at hl 0 rfl) ?_
          refine hm_get ⟨X, hK.1⟩ hY v_0 24 (v := .int (M.I 24 0)) rfl rfl (Nat.le_of_ble_eq_true rfl) hu_M m_513 (fun _ h => h) d_M_reset_32 ?_
          refine lv_goto (tgt := 78) X.1 X.2.1 d_M_reset_35 (by decide) ?_
          exact en_iW X hY hr hlocks d_M_reset_78 (⟨by rw [mrst, if_neg c1, if_pos c2, if_neg c3, if_neg c4], by rw [mrst, if_neg c1, if_pos c2, if_neg c3, if_neg c4]⟩)
      · refine lv_aload_n X.1 X.2.1 d_M_reset_21 rfl (lv_at hl 0 rfl) ?_
        refine lv_iconst (v := 4) X.1 X.2.1 d_M_reset_22 (by decide) ?_
        refine hm_call (ct_runV (n := 1) X hK hY (k_M_reset0 l D A G (M.sI 0 0 0) ω c0 hc0 h20 4) m_631 m_628 m_630 ms_M_reset0 m_6 (by decide +kernel) ⟨Nat.le_of_ble_eq_true rfl, Nat.le_of_ble_eq_true rfl⟩ ⟨rfl, rfl⟩ (hm_recv ⟨X, hK.1⟩ hY v_0 rfl) rfl hl.1 rfl (Nat.le_of_ble_eq_true rfl) d_M_reset_23 ⟨Nat.le_of_ble_eq_true rfl, Nat.le_of_ble_eq_true rfl⟩) hY (fun v w1 H locs hp hY => ?_)
        obtain ⟨rfl, rfl⟩ := hp
        refine W.eq (g2 := F0 m 26 ls []) rfl ?_
        obtain ⟨E8, hE8⟩ : ∃ z, z = r0 (M.sI 0 0 0) 4 c0 := ⟨_, rfl⟩
        rw [← hE8] at hY
        have hkE8 : E8.ad = M.ad ∧ E8.I 1 = M.I 1 ∧ E8.I 4 = M.I 4 ∧ E8.I 12 = M.I 12 := by rw [hE8]; exact r0_k (M.sI 0 0 0) 4 c0
        have hl : lv_has ls 2 [(0, .ref (E8.ad 0)), (1, .int x)] := by rw [hkE8.1]; exact hl
        refine lv_iload_n X.1 X.2.1 d_M_reset_26 rfl (lv_at hl 1 rfl) ?_
        refine lv_iconst (v := 2) X.1 X.2.1 d_M_reset_27 (by decide) ?_
        refine lv_icmp_ge (tgt := 38) X.1 X.2.1 d_M_reset_28 (by decide) (fun c9 => absurd c9 (by rw [c3]; decide)) (fun _ => ?_)
        refine lv_aload_n X.1 X.2.1 d_M_reset_31 rfl (lv_at hl 0 rfl) ?_
        refine hm_get ⟨X, hK.1⟩ hY v_0 24 (v := .int (E8.I 24 0)) rfl rfl (Nat.le_of_ble_eq_true rfl) hu_M m_513 (fun _ h => h) d_M_reset_32 ?_
        refine lv_goto (tgt := 78) X.1 X.2.1 d_M_reset_35 (by decide) ?_
        exact en_iW X hY hr hlocks d_M_reset_78 (⟨by first | (rw [hE8]; rw [mrst, if_neg c1, if_pos c2, if_pos c3]) | rw [mrst, if_neg c1, if_pos c2, if_pos c3], by first | (rw [hE8]; rw [mrst, if_neg c1, if_pos c2, if_pos c3]) | rw [mrst, if_neg c1, if_pos c2, if_pos c3]⟩)
    · refine lv_bipush (v := (-2)) X.1 X.2.1 d_M_reset_14 (by decide) ?_
      exact en_iW X hY hr hlocks d_M_reset_16 (⟨by rw [mrst, if_neg c1, if_neg c2], by rw [mrst, if_neg c1, if_neg c2]⟩)
