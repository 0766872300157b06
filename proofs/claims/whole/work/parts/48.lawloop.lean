theorem lw_sub {L : Nat} (h : L ≤ 4096) : (Int32.ofNat L - 8).toInt = (L : Int) - 8 := by
  rw [Int32.toInt_sub, show (Int32.ofNat L).toInt = (L : Int) from nI_toInt (by omega), show (8 : Int32).toInt = 8 from rfl]
  exact Int.bmod_eq_of_le (by omega) (by omega)
section LAW3
variable {p : Program} {l : Launch} {e : Env} {s : State} {m : MethodId} {args : Array Value} {below : List Frame} {meth : Method} {c : Code} {Q : State → Prop}
variable {D : va_G} {A : Nat → Prop} {G : Nat → Nat} {ao b L : Nat} {xs : Nat → Int32}
set_option maxHeartbeats 4000000 in
theorem lw_loop (hfl : l.flags = pinnedFlags ++ [noTraceFlag]) (hth : thX A s) (X : CallFix p m c code 7 s args wsA R_L) (hK : ctK D A G s) (hX : va_X b L xs s s.heap) (hbl : b < s.heap.size) (hbA : ¬ A b) (hL : L ≤ 4096) {c0 s0 : Nat} (hc0 : c0 ≤ 1000) (hs0 : s0 ≤ 100000)
    (hout : ∀ (H : Heap) (locs : List Loc) (ls : Array Slot) (w : hm_T), hm_Y D cls A s.heap w H locs → W p l e room_1 s m args below meth c H locs 601024 7293034 Q (F0 m 828 ls [])) :
    ∀ (n k : Nat) (H : Heap) (locs : List Loc) (ls : Array Slot) (S : cS) (M : mS) (f : Nat → Int64), L < 8 * k + 8 * n → 8 * k ≤ L → RR (k : Int) S M → hm_Y D cls A s.heap (wS G S (wM G M (ωo G ao f))) H locs → lv_has ls 7 [(0, .ref b), (1, .ref (S.ad 0 0 0)), (2, .ref (M.ad 0)), (3, .ref ao), (4, .int (nI (8 * k)))] → W p l e room_1 s m args below meth c H locs (c0 + 4 * k) (s0 + 160 * k) Q (F0 m 23 ls []) := by
  intro n
  induction n with
  | zero => intro k H locs ls S M f h1 h2; omega
  | succ n ih =>
    intro k H locs ls S M f h1 h2 hR hY hl
    refine lv_iload X.1 X.2.1 d_L_law_23 (lv_at hl 4 rfl) ?_
    refine lv_aload_n X.1 X.2.1 d_L_law_25 rfl (lv_at hl 0 rfl) ?_
    refine va_slen X.1 X.2.1 hX hbl hbA hY.2.2.1 d_L_law_26 ?_
    refine lv_bipush (v := 8) X.1 X.2.1 d_L_law_27 (by decide) ?_
    refine lv_isub X.1 X.2.1 d_L_law_29 ?_
    refine lv_icmp_gt (tgt := 828) X.1 X.2.1 d_L_law_30 (by decide) (fun cz => ?_) (fun cz => ?_)
    · exact W.widen (by omega) (by omega) (hout H locs ls _ hY)
    · have hk : 8 * k + 8 ≤ L := by
        rw [Int32.lt_iff_toInt_lt, lw_sub hL, nI_toInt (by omega)] at cz
        omega
      have go : ∀ (H : Heap) (locs : List Loc) (ls : Array Slot) (S' : cS) (M' : mS) (f' : Nat → Int64), RR ((k : Int) + 1) S' M' → hm_Y D cls A s.heap (wS G S' (wM G M' (ωo G ao f'))) H locs → lv_has ls 7 [(0, .ref b), (1, .ref (S'.ad 0 0 0)), (2, .ref (M'.ad 0)), (3, .ref ao), (4, .int (nI (8 * k)))] → W p l e room_1 s m args below meth c H locs (c0 + 4 * k + 4) (s0 + 160 * k + 160) Q (F0 m 822 ls []) := by
        intro H locs ls S' M' f' hR hY hl
        refine lv_iinc (v := nI (8 * (k + 1))) (lv' := [(4, .int (nI (8 * (k + 1)))), (0, .ref b), (1, .ref (S'.ad 0 0 0)), (2, .ref (M'.ad 0)), (3, .ref ao)]) X.1 X.2.1 d_L_law_822 hl (k := 4) rfl (show nI (8 * k) + nI 8 = nI (8 * k + 8) from nI_add (8 * k) 8) (by decide) rfl (fun ls hl => ?_)
        refine lv_goto (tgt := 23) X.1 X.2.1 d_L_law_825 (by decide) ?_
        refine W.widen (k := c0 + 4 * (k + 1)) (n := s0 + 160 * (k + 1)) (by omega) (by omega) ?_
        exact ih (k + 1) H locs ls S' M' f' (by omega) (by omega) (by rw [Int.natCast_add]; exact hR) hY (lv_sub hl [1, 2, 3, 4, 0] rfl)
      refine lv_aload_n X.1 X.2.1 d_L_law_33 rfl (lv_at hl 0 rfl) ?_
      refine lv_iload X.1 X.2.1 d_L_law_34 (lv_at hl 4 rfl) ?_
      refine lw_ld X hX hbl hbA hY (j := 8 * k) rfl (by omega) hL d_L_law_36 ?_
      refine lv_bipush (v := 15) X.1 X.2.1 d_L_law_37 (by decide) ?_
      refine lv_iand X.1 X.2.1 d_L_law_39 ?_
      obtain ⟨j, hj, ej⟩ := pk_andE (xs (8 * k)) (m := 15) 4 (by decide)
      rw [ej]
      have hj : j < 16 := hj
      rcases (show j = 0 ∨ j = 1 ∨ j = 2 ∨ j = 3 ∨ j = 4 ∨ j = 5 ∨ j = 6 ∨ j = 7 ∨ j = 8 ∨ j = 9 ∨ j = 10 ∨ 10 < j by omega) with rfl | rfl | rfl | rfl | rfl | rfl | rfl | rfl | rfl | rfl | rfl | h10
      · refine lv_tableIn (off := 60) (tgt := 100) X.1 X.2.1 d_L_law_40 (by decide) (by decide) (by decide +kernel) (by decide) ?_
        exact lc_part hfl hth X hK hX hbl hbA hL hk (by omega) (by omega) (by omega) hR hY hl (fun H locs ls S' M' f' g1 _ _ g2 g3 => go H locs ls S' M' f' g1 g2 g3)
      · refine lv_tableIn (off := 172) (tgt := 212) X.1 X.2.1 d_L_law_40 (by decide) (by decide) (by decide +kernel) (by decide) ?_
        exact lc_edge X hK hX hbl hbA hL hk (by omega) (by omega) (by omega) hR hY hl (fun H locs ls S' M' f' g1 _ _ g2 g3 => go H locs ls S' M' f' g1 g2 g3)
      · refine lv_tableIn (off := 221) (tgt := 261) X.1 X.2.1 d_L_law_40 (by decide) (by decide) (by decide +kernel) (by decide) ?_
        exact lc_deadline X hK hX hbl hbA hL hk (by omega) (by omega) (by omega) hR hY hl (fun H locs ls S' M' f' g1 _ _ g2 g3 => go H locs ls S' M' f' g1 g2 g3)
      · refine lv_tableIn (off := 362) (tgt := 402) X.1 X.2.1 d_L_law_40 (by decide) (by decide) (by decide +kernel) (by decide) ?_
        exact lc_point X hK hX hbl hbA hL hk (by omega) (by omega) (by omega) hR hY hl (fun H locs ls S' M' f' g1 _ _ g2 g3 => go H locs ls S' M' f' g1 g2 g3)
      · refine lv_tableIn (off := 443) (tgt := 483) X.1 X.2.1 d_L_law_40 (by decide) (by decide) (by decide +kernel) (by decide) ?_
        exact lc_cycle X hK hX hbl hbA hL hk (by omega) (by omega) (by omega) hR hY hl (fun H locs ls S' M' f' g1 _ _ g2 g3 => go H locs ls S' M' f' g1 g2 g3)
      · refine lv_tableIn (off := 500) (tgt := 540) X.1 X.2.1 d_L_law_40 (by decide) (by decide) (by decide +kernel) (by decide) ?_
        exact lc_tolerance X hK hX hbl hbA hL hk (by omega) (by omega) (by omega) hR hY hl (fun H locs ls S' M' f' g1 _ _ g2 g3 => go H locs ls S' M' f' g1 g2 g3)
      · refine lv_tableIn (off := 537) (tgt := 577) X.1 X.2.1 d_L_law_40 (by decide) (by decide) (by decide +kernel) (by decide) ?_
        exact lc_answer X hK hX hbl hbA hL hk (by omega) (by omega) (by omega) hR hY hl (fun H locs ls S' M' f' g1 _ _ g2 g3 => go H locs ls S' M' f' g1 g2 g3)
      · refine lv_tableIn (off := 650) (tgt := 690) X.1 X.2.1 d_L_law_40 (by decide) (by decide) (by decide +kernel) (by decide) ?_
        exact lc_mode X hK hX hbl hbA hL hk (by omega) (by omega) (by omega) hR hY hl (fun H locs ls S' M' f' g1 _ _ g2 g3 => go H locs ls S' M' f' g1 g2 g3)
      · refine lv_tableIn (off := 675) (tgt := 715) X.1 X.2.1 d_L_law_40 (by decide) (by decide) (by decide +kernel) (by decide) ?_
        exact lc_reset X hK hX hbl hbA hL hk (by omega) (by omega) (by omega) hR hY hl (fun H locs ls S' M' f' g1 _ _ g2 g3 => go H locs ls S' M' f' g1 g2 g3)
      · refine lv_tableIn (off := 700) (tgt := 740) X.1 X.2.1 d_L_law_40 (by decide) (by decide) (by decide +kernel) (by decide) ?_
        exact lc_outer X hK hX hbl hbA hL hk (by omega) (by omega) (by omega) hR hY hl (fun H locs ls S' M' f' g1 _ _ g2 g3 => go H locs ls S' M' f' g1 g2 g3)
      · refine lv_tableIn (off := 757) (tgt := 797) X.1 X.2.1 d_L_law_40 (by decide) (by decide) (by decide +kernel) (by decide) ?_
        exact lc_state X hK hX hbl hbA hL hk (by omega) (by omega) (by omega) hR hY hl (fun H locs ls S' M' f' g1 _ _ g2 g3 => go H locs ls S' M' f' g1 g2 g3)
      · refine lv_tableOut (tgt := 822) X.1 X.2.1 d_L_law_40 (Or.inr (by rw [nI_toInt (by omega)]; omega)) (by decide) ?_
        refine W.widen (k := c0 + 4 * k + 4) (n := s0 + 160 * k + 160) (by omega) (by omega) ?_
        exact go H locs ls S M f (RR_mono hR (by omega)) hY hl
end LAW3
