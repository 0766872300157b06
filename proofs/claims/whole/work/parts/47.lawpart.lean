section LAWP
variable {B : Int} {S : cS} {M : mS} {G : Nat → Nat} {ω w1 : hm_T} {r : Int32} {le mx : Int32} {sp : Int64}
theorem r_part (h : RR B S M) (hB : 0 ≤ B) (hn : ¬ isTh S le mx sp) (hp : paP G S ω le mx sp (some (.int r)) w1) : ∃ S' : cS, w1 = wS G S' ω ∧ (mpart M le mx sp (S.C 0 0)).1 = r ∧ RR B S' (mpart M le mx sp (S.C 0 0)).2 ∧ S'.ad 0 0 0 = S.ad 0 0 0 ∧ (mpart M le mx sp (S.C 0 0)).2.I 0 0 = 0 ∧ (mpart M le mx sp (S.C 0 0)).2.ad 0 = M.ad 0 := by
  rcases hp with ⟨h1, h2, h3⟩ | ⟨h1, h2, h3, h4⟩ | ⟨h1, h2, a, ae, al, b, h3, h4⟩
  · cases h2
    rw [mpart_bad h1]
    exact ⟨S, h3, rfl, RR_0 h 0, rfl, rfl, rfl⟩
  · cases h3
    have e : M.I 1 0 = 20 := by
      rw [h.1.1, show S.C 0 0 = 20 by have := h.1.2.1; omega]
      rfl
    rw [mpart_ok h1, if_pos e]
    exact ⟨S, h4, rfl, RR_0 h 0, rfl, rfl, rfl⟩
  · have e : ¬ M.I 1 0 = 20 := by
      rw [h.1.1]
      intro z
      have := (nI_eq (b := 20) (by omega) (by omega)).mp z
      omega
    have hs : ¬ sp = 0 := fun z => hn ⟨h1, h2, z⟩
    cases h3
    rw [mpart_ok h1, if_neg e, if_neg hs]
    exact ⟨newP S a ae al b le mx sp, h4, rfl, r_newP h hB h2 a ae al b le mx sp h1.2.2.1 h1.2.2.2 hs, nP_A (by decide) (Or.inl (by decide)), rfl, rfl⟩
theorem r_partT (h : RR B S M) (ht : isTh S le mx sp) : mpart M le mx sp (S.C 0 0) = (0, (M.sI 0 0 0).sI 0 0 1) := by
  obtain ⟨h1, h2, h3⟩ := ht
  have e : ¬ M.I 1 0 = 20 := by
    rw [h.1.1]
    intro z
    have := (nI_eq (b := 20) (by omega) (by omega)).mp z
    omega
  rw [mpart_ok h1, if_neg e, if_pos h3]
end LAWP
theorem m_364 : Cond.codeWith y_L_part c_L_part 7 (some .int) [(0, 12, 15, 13)] ∈ wsA := wsA_2 124 rfl rfl
section LAW2
variable {p : Program} {l : Launch} {e : Env} {s : State} {m : MethodId} {args : Array Value} {below : List Frame} {meth : Method} {c : Code} {H : Heap} {locs : List Loc} {cells slots : Nat} {Q : State → Prop}
variable {ls : Array Slot} {rest : List Value} {D : va_G} {A : Nat → Prop} {G : Nat → Nat} {S : cS} {M : mS} {ao b L k pc : Nat} {f : Nat → Int64} {xs : Nat → Int32} {w : hm_T} {R : Room}

set_option maxHeartbeats 4000000 in
set_option maxRecDepth 100000 in
theorem lc_part (hfl : l.flags = pinnedFlags ++ [noTraceFlag]) (hth : thX A s) (X : CallFix p m c code 7 s args wsA R_L) (hK : ctK D A G s) (hX : va_X b L xs s s.heap) (hbl : b < s.heap.size) (hbA : ¬ A b) (hL : L ≤ 4096) (hk : 8 * k + 8 ≤ L) (hB9 : k ≤ 600) (hcc : cells + 4 ≤ 601024) (hss : slots + 160 ≤ 7293034) (hR : RR (k : Int) S M) (hY : hm_Y D cls A s.heap (wS G S (wM G M (ωo G ao f))) H locs) (hl : lv_has ls 7 [(0, .ref b), (1, .ref (S.ad 0 0 0)), (2, .ref (M.ad 0)), (3, .ref ao), (4, .int (nI (8 * k)))]) (kk : ∀ (H : Heap) (locs : List Loc) (ls : Array Slot) (S' : cS) (M' : mS) (f' : Nat → Int64), RR ((k : Int) + 1) S' M' → S'.ad 0 0 0 = S.ad 0 0 0 → M'.ad 0 = M.ad 0 → hm_Y D cls A s.heap (wS G S' (wM G M' (ωo G ao f'))) H locs → lv_has ls 7 [(0, .ref b), (1, .ref (S'.ad 0 0 0)), (2, .ref (M'.ad 0)), (3, .ref ao), (4, .int (nI (8 * k)))] → W p l e room_1 s m args below meth c H locs (cells + 4) (slots + 160) Q (F0 m 822 ls [])) : W p l e room_1 s m args below meth c H locs cells slots Q (F0 m 100 ls []) := by
  obtain ⟨h20, hall⟩ := RR_h hR
  refine lv_aload_n X.1 X.2.1 d_L_law_100 rfl (lv_at hl 1 rfl) ?_
  refine lv_aload_n X.1 X.2.1 d_L_law_101 rfl (lv_at hl 0 rfl) ?_
  refine lv_iload X.1 X.2.1 d_L_law_102 (lv_at hl 4 rfl) ?_
  refine lv_iconst (v := 1) X.1 X.2.1 d_L_law_104 (by decide) ?_
  refine lv_iadd X.1 X.2.1 d_L_law_105 ?_
  rw [show nI (8 * k) + 1 = nI (8 * k + 1) from nI_add (8 * k) 1]
  refine lw_ld X hX hbl hbA hY (j := 8 * k + 1) rfl (by omega) hL d_L_law_106 ?_
  refine lv_aload_n X.1 X.2.1 d_L_law_107 rfl (lv_at hl 0 rfl) ?_
  refine lv_iload X.1 X.2.1 d_L_law_108 (lv_at hl 4 rfl) ?_
  refine lv_iconst (v := 2) X.1 X.2.1 d_L_law_110 (by decide) ?_
  refine lv_iadd X.1 X.2.1 d_L_law_111 ?_
  rw [show nI (8 * k) + 2 = nI (8 * k + 2) from nI_add (8 * k) 2]
  refine lw_ld X hX hbl hbA hY (j := 8 * k + 2) rfl (by omega) hL d_L_law_112 ?_
  refine lv_aload_n X.1 X.2.1 d_L_law_113 rfl (lv_at hl 0 rfl) ?_
  refine lv_iload X.1 X.2.1 d_L_law_114 (lv_at hl 4 rfl) ?_
  refine lv_iconst (v := 3) X.1 X.2.1 d_L_law_116 (by decide) ?_
  refine lv_iadd X.1 X.2.1 d_L_law_117 ?_
  rw [show nI (8 * k) + 3 = nI (8 * k + 3) from nI_add (8 * k) 3]
  refine lw_ld X hX hbl hbA hY (j := 8 * k + 3) rfl (by omega) hL d_L_law_118 ?_
  refine lv_i2l (v := (xs (8 * k + 3)).toInt64) X.1 X.2.1 d_L_law_119 rfl ?_
  refine lv_bipush (v := 32) X.1 X.2.1 d_L_law_120 (by decide) ?_
  refine lv_lshl (v := ((xs (8 * k + 3)).toInt64) <<< ((32 : Int32).toInt64 &&& 63)) X.1 X.2.1 d_L_law_122 rfl ?_
  refine lv_aload_n X.1 X.2.1 d_L_law_123 rfl (lv_at hl 0 rfl) ?_
  refine lv_iload X.1 X.2.1 d_L_law_124 (lv_at hl 4 rfl) ?_
  refine lv_iconst (v := 4) X.1 X.2.1 d_L_law_126 (by decide) ?_
  refine lv_iadd X.1 X.2.1 d_L_law_127 ?_
  rw [show nI (8 * k) + 4 = nI (8 * k + 4) from nI_add (8 * k) 4]
  refine lw_ld X hX hbl hbA hY (j := 8 * k + 4) rfl (by omega) hL d_L_law_128 ?_
  refine lv_i2l (v := (xs (8 * k + 4)).toInt64) X.1 X.2.1 d_L_law_129 rfl ?_
  refine lv_ldc2 X.1 X.2.1 X.2.2.2.1 (X.2.2.2.2 _ m_662) d_L_law_130 ?_
  refine lv_land X.1 X.2.1 d_L_law_133 ?_
  refine lv_lor X.1 X.2.1 d_L_law_134 ?_
  refine lv_aload_n X.1 X.2.1 d_L_law_135 rfl (lv_at hl 3 rfl) ?_
  refine hm_call (ct_runSW (n := 5) (As := [.ref (S.ad 0 0 0), .int (xs (8 * k + 1)), .int (xs (8 * k + 2)), .long (lgJ (xs (8 * k + 3)) (xs (8 * k + 4))), .ref ao]) X (k_L_part l hfl D A G S (wM G M (ωo G ao f)) h20 hall rfl ao f rfl (xs (8 * k + 1)) (xs (8 * k + 2)) (lgJ (xs (8 * k + 3)) (xs (8 * k + 4)))) th_blind (fun U hU hW => ⟨hK.call hY hU hW, hth.warm hY.2.2.1.2.1 hU hW⟩) m_364 m_362 m_363 m_0 (by decide +kernel) ⟨Nat.le_of_ble_eq_true rfl, Nat.le_of_ble_eq_true rfl⟩ ⟨rfl, rfl⟩ rfl hl.1 rfl (Nat.le_of_ble_eq_true rfl) d_L_law_136 ⟨by show _ ≤ 601024; omega, by show _ ≤ 7293034; omega⟩) hY (fun v w1 H locs hp hY => ?_)
  rcases hp with ⟨ht, rfl, rfl⟩ | ⟨hn, rfl, r, w2, hp, rfl⟩
  · have hY : hm_Y D cls A s.heap (wM G M (wS G S (ωo G ao f))) H locs := by rw [← wSM]; exact hY
    refine W.eq (g2 := F0 m 139 ls [.int 1]) rfl ?_
    refine lv_istore (lv' := [(5, .int 1), (0, .ref b), (1, .ref (S.ad 0 0 0)), (2, .ref (M.ad 0)), (3, .ref ao), (4, .int (nI (8 * k)))]) X.1 X.2.1 d_L_law_139 hl (by decide) rfl (fun ls hl => ?_)
    refine lv_aload_n X.1 X.2.1 d_L_law_141 rfl (lv_at hl 3 rfl) ?_
    refine lv_aload_n X.1 X.2.1 d_L_law_142 rfl (lv_at hl 1 rfl) ?_
    refine lv_iload X.1 X.2.1 d_L_law_143 (lv_at hl 5 rfl) ?_
    refine lv_iconst (v := 1) X.1 X.2.1 d_L_law_145 (by decide) ?_
    refine lv_iadd X.1 X.2.1 d_L_law_146 ?_
    rw [show nI (8 * k) + 1 = nI (8 * k + 1) from nI_add (8 * k) 1]
    refine lw_ld X hX hbl hbA hY (j := 8 * k + 1) rfl (by omega) hL d_L_law_147 ?_
    refine lv_aload_n X.1 X.2.1 d_L_law_148 rfl (lv_at hl 1 rfl) ?_
    refine lv_iload X.1 X.2.1 d_L_law_149 (lv_at hl 5 rfl) ?_
    refine lv_iconst (v := 2) X.1 X.2.1 d_L_law_151 (by decide) ?_
    refine lv_iadd X.1 X.2.1 d_L_law_152 ?_
    rw [show nI (8 * k) + 2 = nI (8 * k + 2) from nI_add (8 * k) 2]
    refine lw_ld X hX hbl hbA hY (j := 8 * k + 2) rfl (by omega) hL d_L_law_153 ?_
    refine lv_aload_n X.1 X.2.1 d_L_law_154 rfl (lv_at hl 1 rfl) ?_
    refine lv_iload X.1 X.2.1 d_L_law_155 (lv_at hl 5 rfl) ?_
    refine lv_iconst (v := 3) X.1 X.2.1 d_L_law_157 (by decide) ?_
    refine lv_iadd X.1 X.2.1 d_L_law_158 ?_
    rw [show nI (8 * k) + 3 = nI (8 * k + 3) from nI_add (8 * k) 3]
    refine lw_ld X hX hbl hbA hY (j := 8 * k + 3) rfl (by omega) hL d_L_law_159 ?_
    refine lv_i2l (v := (xs (8 * k + 3)).toInt64) X.1 X.2.1 d_L_law_160 rfl ?_
    refine lv_bipush (v := 32) X.1 X.2.1 d_L_law_161 (by decide) ?_
    refine lv_lshl (v := ((xs (8 * k + 3)).toInt64) <<< ((32 : Int32).toInt64 &&& 63)) X.1 X.2.1 d_L_law_163 rfl ?_
    refine lv_aload_n X.1 X.2.1 d_L_law_164 rfl (lv_at hl 1 rfl) ?_
    refine lv_iload X.1 X.2.1 d_L_law_165 (lv_at hl 5 rfl) ?_
    refine lv_iconst (v := 4) X.1 X.2.1 d_L_law_167 (by decide) ?_
    refine lv_iadd X.1 X.2.1 d_L_law_168 ?_
    rw [show nI (8 * k) + 4 = nI (8 * k + 4) from nI_add (8 * k) 4]
    refine lw_ld X hX hbl hbA hY (j := 8 * k + 4) rfl (by omega) hL d_L_law_169 ?_
    refine lv_i2l (v := (xs (8 * k + 4)).toInt64) X.1 X.2.1 d_L_law_170 rfl ?_
    refine lv_ldc2 X.1 X.2.1 X.2.2.2.1 (X.2.2.2.2 _ m_662) d_L_law_171 ?_
    refine lv_land X.1 X.2.1 d_L_law_174 ?_
    refine lv_lor X.1 X.2.1 d_L_law_175 ?_
    refine hm_call (ct_runV (n := 3) X hK hY (k_M_part l D A G M (wS G S (ωo G ao f)) (S.C 0 0) hR.1.1 h20 (xs (8 * k + 1)) (xs (8 * k + 2)) (lgJ (xs (8 * k + 3)) (xs (8 * k + 4)))) m_592 m_589 m_590 m_591 m_6 (by decide +kernel) ⟨Nat.le_of_ble_eq_true rfl, Nat.le_of_ble_eq_true rfl⟩ ⟨rfl, rfl⟩ (hm_recv ⟨X, hK.1⟩ hY v_0 rfl) rfl hl.1 rfl (Nat.le_of_ble_eq_true rfl) d_L_law_176 ⟨by show _ ≤ 601024; omega, by show _ ≤ 7293034; omega⟩) hY (fun v w1 H locs hp hY => ?_)
    obtain ⟨rfl, rfl⟩ := hp
    refine W.eq (g2 := F0 m 179 ls [.int ((mpart M (xs (8 * k + 1)) (xs (8 * k + 2)) (lgJ (xs (8 * k + 3)) (xs (8 * k + 4))) (S.C 0 0)).1)]) rfl ?_
    refine lv_istore (lv' := [(6, .int ((mpart M (xs (8 * k + 1)) (xs (8 * k + 2)) (lgJ (xs (8 * k + 3)) (xs (8 * k + 4))) (S.C 0 0)).1)), (5, .int 1), (0, .ref b), (1, .ref (S.ad 0 0 0)), (2, .ref (M.ad 0)), (3, .ref ao), (4, .int (nI (8 * k)))]) X.1 X.2.1 d_L_law_179 hl (by decide) rfl (fun ls hl => ?_)
    refine lv_aload_n X.1 X.2.1 d_L_law_181 rfl (lv_at hl 4 rfl) ?_
    have hM : (mpart M (xs (8 * k + 1)) (xs (8 * k + 2)) (lgJ (xs (8 * k + 3)) (xs (8 * k + 4))) (S.C 0 0)).2.ad 0 = M.ad 0 := by rw [r_partT hR ht]; rfl
    refine W.eq (g2 := F0 m 182 ls [.ref ((mpart M (xs (8 * k + 1)) (xs (8 * k + 2)) (lgJ (xs (8 * k + 3)) (xs (8 * k + 4))) (S.C 0 0)).2.ad 0)]) (by rw [hM]) ?_
    refine hm_callR (ct_runV (n := 0) X hK hY (k_M_thrown l D A G (mpart M (xs (8 * k + 1)) (xs (8 * k + 2)) (lgJ (xs (8 * k + 3)) (xs (8 * k + 4))) (S.C 0 0)).2 (wS G S (ωo G ao f))) m_588 m_585 m_586 m_587 m_6 (by decide +kernel) ⟨Nat.le_of_ble_eq_true rfl, Nat.le_of_ble_eq_true rfl⟩ ⟨rfl, rfl⟩ (hm_recv ⟨X, hK.1⟩ hY v_0 rfl) rfl hl.1 rfl (Nat.le_of_ble_eq_true rfl) d_L_law_182 ⟨by show _ ≤ 601024; omega, by show _ ≤ 7293034; omega⟩) (fun v hv => ?_)
    subst hv
    refine W.eq (g2 := F0 m 185 ls [.int ((mpart M (xs (8 * k + 1)) (xs (8 * k + 2)) (lgJ (xs (8 * k + 3)) (xs (8 * k + 4))) (S.C 0 0)).2.I 0 0)]) rfl ?_
    refine lv_iload X.1 X.2.1 d_L_law_185 (lv_at hl 1 rfl) ?_
    refine lv_icmp_eq (tgt := 192) X.1 X.2.1 d_L_law_187 (by decide) (fun c0 => ?_) (fun c0 => absurd (by rw [r_partT hR ht]; rfl) c0)
    refine lv_iload X.1 X.2.1 d_L_law_192 (lv_at hl 1 rfl) ?_
    refine lv_if_ne (tgt := 209) X.1 X.2.1 d_L_law_194 (by decide) (fun c1 => ?_) (fun c1 => ?_)
    · refine lv_goto (tgt := 822) X.1 X.2.1 d_L_law_209 (by decide) ?_
      have hR' : RR (k : Int) S (mpart M (xs (8 * k + 1)) (xs (8 * k + 2)) (lgJ (xs (8 * k + 3)) (xs (8 * k + 4))) (S.C 0 0)).2 := by rw [r_partT hR ht]; exact RR_0 (RR_0 hR 0) 1
      exact kk H locs ls S (mpart M (xs (8 * k + 1)) (xs (8 * k + 2)) (lgJ (xs (8 * k + 3)) (xs (8 * k + 4))) (S.C 0 0)).2 f (RR_mono hR' (by omega)) rfl hM (by rw [wSM]; exact hY) (by rw [hM]; exact lv_sub hl [2, 3, 4, 5, 6] rfl)
    · exact absurd c1 (by decide)
  · obtain ⟨S', rfl, er, hR', hS, hI, hM⟩ := r_part hR (by omega) hn hp
    have hY : hm_Y D cls A s.heap (wM G M (wS G S' (ωo G ao (vp_updL f 0 r.toInt64)))) H locs := by rw [← wSM, ← wL_out G S' M ao f]; exact hY
    refine W.eq (g2 := F0 m 139 ls [.int 0]) rfl ?_
    refine lv_istore (lv' := [(5, .int 0), (0, .ref b), (1, .ref (S.ad 0 0 0)), (2, .ref (M.ad 0)), (3, .ref ao), (4, .int (nI (8 * k)))]) X.1 X.2.1 d_L_law_139 hl (by decide) rfl (fun ls hl => ?_)
    refine lv_aload_n X.1 X.2.1 d_L_law_141 rfl (lv_at hl 3 rfl) ?_
    refine lv_aload_n X.1 X.2.1 d_L_law_142 rfl (lv_at hl 1 rfl) ?_
    refine lv_iload X.1 X.2.1 d_L_law_143 (lv_at hl 5 rfl) ?_
    refine lv_iconst (v := 1) X.1 X.2.1 d_L_law_145 (by decide) ?_
    refine lv_iadd X.1 X.2.1 d_L_law_146 ?_
    rw [show nI (8 * k) + 1 = nI (8 * k + 1) from nI_add (8 * k) 1]
    refine lw_ld X hX hbl hbA hY (j := 8 * k + 1) rfl (by omega) hL d_L_law_147 ?_
    refine lv_aload_n X.1 X.2.1 d_L_law_148 rfl (lv_at hl 1 rfl) ?_
    refine lv_iload X.1 X.2.1 d_L_law_149 (lv_at hl 5 rfl) ?_
    refine lv_iconst (v := 2) X.1 X.2.1 d_L_law_151 (by decide) ?_
    refine lv_iadd X.1 X.2.1 d_L_law_152 ?_
    rw [show nI (8 * k) + 2 = nI (8 * k + 2) from nI_add (8 * k) 2]
    refine lw_ld X hX hbl hbA hY (j := 8 * k + 2) rfl (by omega) hL d_L_law_153 ?_
    refine lv_aload_n X.1 X.2.1 d_L_law_154 rfl (lv_at hl 1 rfl) ?_
    refine lv_iload X.1 X.2.1 d_L_law_155 (lv_at hl 5 rfl) ?_
    refine lv_iconst (v := 3) X.1 X.2.1 d_L_law_157 (by decide) ?_
    refine lv_iadd X.1 X.2.1 d_L_law_158 ?_
    rw [show nI (8 * k) + 3 = nI (8 * k + 3) from nI_add (8 * k) 3]
    refine lw_ld X hX hbl hbA hY (j := 8 * k + 3) rfl (by omega) hL d_L_law_159 ?_
    refine lv_i2l (v := (xs (8 * k + 3)).toInt64) X.1 X.2.1 d_L_law_160 rfl ?_
    refine lv_bipush (v := 32) X.1 X.2.1 d_L_law_161 (by decide) ?_
    refine lv_lshl (v := ((xs (8 * k + 3)).toInt64) <<< ((32 : Int32).toInt64 &&& 63)) X.1 X.2.1 d_L_law_163 rfl ?_
    refine lv_aload_n X.1 X.2.1 d_L_law_164 rfl (lv_at hl 1 rfl) ?_
    refine lv_iload X.1 X.2.1 d_L_law_165 (lv_at hl 5 rfl) ?_
    refine lv_iconst (v := 4) X.1 X.2.1 d_L_law_167 (by decide) ?_
    refine lv_iadd X.1 X.2.1 d_L_law_168 ?_
    rw [show nI (8 * k) + 4 = nI (8 * k + 4) from nI_add (8 * k) 4]
    refine lw_ld X hX hbl hbA hY (j := 8 * k + 4) rfl (by omega) hL d_L_law_169 ?_
    refine lv_i2l (v := (xs (8 * k + 4)).toInt64) X.1 X.2.1 d_L_law_170 rfl ?_
    refine lv_ldc2 X.1 X.2.1 X.2.2.2.1 (X.2.2.2.2 _ m_662) d_L_law_171 ?_
    refine lv_land X.1 X.2.1 d_L_law_174 ?_
    refine lv_lor X.1 X.2.1 d_L_law_175 ?_
    refine hm_call (ct_runV (n := 3) X hK hY (k_M_part l D A G M (wS G S' (ωo G ao (vp_updL f 0 r.toInt64))) (S.C 0 0) hR.1.1 h20 (xs (8 * k + 1)) (xs (8 * k + 2)) (lgJ (xs (8 * k + 3)) (xs (8 * k + 4)))) m_592 m_589 m_590 m_591 m_6 (by decide +kernel) ⟨Nat.le_of_ble_eq_true rfl, Nat.le_of_ble_eq_true rfl⟩ ⟨rfl, rfl⟩ (hm_recv ⟨X, hK.1⟩ hY v_0 rfl) rfl hl.1 rfl (Nat.le_of_ble_eq_true rfl) d_L_law_176 ⟨by show _ ≤ 601024; omega, by show _ ≤ 7293034; omega⟩) hY (fun v w1 H locs hp hY => ?_)
    obtain ⟨rfl, rfl⟩ := hp
    refine W.eq (g2 := F0 m 179 ls [.int ((mpart M (xs (8 * k + 1)) (xs (8 * k + 2)) (lgJ (xs (8 * k + 3)) (xs (8 * k + 4))) (S.C 0 0)).1)]) rfl ?_
    refine lv_istore (lv' := [(6, .int ((mpart M (xs (8 * k + 1)) (xs (8 * k + 2)) (lgJ (xs (8 * k + 3)) (xs (8 * k + 4))) (S.C 0 0)).1)), (5, .int 0), (0, .ref b), (1, .ref (S.ad 0 0 0)), (2, .ref (M.ad 0)), (3, .ref ao), (4, .int (nI (8 * k)))]) X.1 X.2.1 d_L_law_179 hl (by decide) rfl (fun ls hl => ?_)
    refine lv_aload_n X.1 X.2.1 d_L_law_181 rfl (lv_at hl 4 rfl) ?_
    refine W.eq (g2 := F0 m 182 ls [.ref ((mpart M (xs (8 * k + 1)) (xs (8 * k + 2)) (lgJ (xs (8 * k + 3)) (xs (8 * k + 4))) (S.C 0 0)).2.ad 0)]) (by rw [hM]) ?_
    refine hm_callR (ct_runV (n := 0) X hK hY (k_M_thrown l D A G (mpart M (xs (8 * k + 1)) (xs (8 * k + 2)) (lgJ (xs (8 * k + 3)) (xs (8 * k + 4))) (S.C 0 0)).2 (wS G S' (ωo G ao (vp_updL f 0 r.toInt64)))) m_588 m_585 m_586 m_587 m_6 (by decide +kernel) ⟨Nat.le_of_ble_eq_true rfl, Nat.le_of_ble_eq_true rfl⟩ ⟨rfl, rfl⟩ (hm_recv ⟨X, hK.1⟩ hY v_0 rfl) rfl hl.1 rfl (Nat.le_of_ble_eq_true rfl) d_L_law_182 ⟨by show _ ≤ 601024; omega, by show _ ≤ 7293034; omega⟩) (fun v hv => ?_)
    subst hv
    refine W.eq (g2 := F0 m 185 ls [.int ((mpart M (xs (8 * k + 1)) (xs (8 * k + 2)) (lgJ (xs (8 * k + 3)) (xs (8 * k + 4))) (S.C 0 0)).2.I 0 0)]) rfl ?_
    refine lv_iload X.1 X.2.1 d_L_law_185 (lv_at hl 1 rfl) ?_
    refine lv_icmp_eq (tgt := 192) X.1 X.2.1 d_L_law_187 (by decide) (fun c0 => ?_) (fun c0 => absurd hI c0)
    refine lv_iload X.1 X.2.1 d_L_law_192 (lv_at hl 1 rfl) ?_
    refine lv_if_ne (tgt := 209) X.1 X.2.1 d_L_law_194 (by decide) (fun c2 => ?_) (fun c2 => ?_)
    · exact absurd c2 (by decide)
    · refine lv_aload_n X.1 X.2.1 d_L_law_197 rfl (lv_at hl 5 rfl) ?_
      refine lv_iconst (v := 0) X.1 X.2.1 d_L_law_198 (by decide) ?_
      refine hm_lald ⟨X, hK.1⟩ hY (n := (31, 0, 0)) (cA := G 3) (N := 1) (f := vp_updL f 0 r.toInt64) (wL_o G S' (mpart M (xs (8 * k + 1)) (xs (8 * k + 2)) (lgJ (xs (8 * k + 3)) (xs (8 * k + 4))) (S.C 0 0)).2 ao _) 2 rfl (i := 0) (show ¬ ((0 : Int32) < 0 ∨ 1 ≤ (0 : Int32).toNatClampNeg) by decide) d_L_law_199 ?_
      refine lv_iload X.1 X.2.1 d_L_law_200 (lv_at hl 0 rfl) ?_
      refine lv_i2l (v := ((mpart M (xs (8 * k + 1)) (xs (8 * k + 2)) (lgJ (xs (8 * k + 3)) (xs (8 * k + 4))) (S.C 0 0)).1).toInt64) X.1 X.2.1 d_L_law_202 rfl ?_
      refine lc_eq (tgt := 209) X d_L_law_203 d_L_law_204 (by decide) (fun c0 => ?_) (fun c0 => absurd (show vp_updL f 0 r.toInt64 (0 : Int32).toNatClampNeg = (mpart M (xs (8 * k + 1)) (xs (8 * k + 2)) (lgJ (xs (8 * k + 3)) (xs (8 * k + 4))) (S.C 0 0)).1.toInt64 by rw [er]; rfl) c0)
      refine lv_goto (tgt := 822) X.1 X.2.1 d_L_law_209 (by decide) ?_
      exact kk H locs ls S' (mpart M (xs (8 * k + 1)) (xs (8 * k + 2)) (lgJ (xs (8 * k + 3)) (xs (8 * k + 4))) (S.C 0 0)).2 (vp_updL f 0 r.toInt64) (RR_mono hR' (by omega)) hS hM (by rw [wSM]; exact hY) (by rw [hS, hM]; exact lv_sub hl [2, 3, 4, 5, 6] rfl)
end LAW2
