/-! THE LAW: its world, its cases -/
def ωo (G : Nat → Nat) (ao : Nat) (f : Nat → Int64) : hm_T := fun n => if n = (31, 0, 0) then some (ao, .inl (G 3, 1, .inr (.inl f))) else none
theorem wSM (G : Nat → Nat) (S : cS) (M : mS) (ω : hm_T) : wS G S (wM G M ω) = wM G M (wS G S ω) := by
  funext n
  unfold wS wM
  by_cases h : domS S.C n
  · have h8 := domS_le h
    have h30 : ¬ n.1 = 30 := by omega
    simp only [h, h30, if_true, if_false]
  · by_cases h8 : n.1 ≤ 8
    · have h30 : ¬ n.1 = 30 := by omega
      simp only [h, h8, h30, if_true, if_false]
    · simp only [h, h8, if_false]
theorem wL_out (G : Nat → Nat) (S : cS) (M : mS) (ao : Nat) (f g : Nat → Int64) : hm_up (wS G S (wM G M (ωo G ao f))) (31, 0, 0) (ao, .inl (G 3, 1, .inr (.inl g))) = wS G S (wM G M (ωo G ao g)) := by
  funext n
  by_cases h : n = (31, 0, 0)
  · subst h
    rw [hm_up_s, wS_big (by decide)]
    rfl
  · rw [hm_up_n _ _ h]
    unfold wS wM ωo
    simp only [h, if_false]
theorem wL_o (G : Nat → Nat) (S : cS) (M : mS) (ao : Nat) (f : Nat → Int64) : wM G M (wS G S (ωo G ao f)) (31, 0, 0) = some (ao, .inl (G 3, 1, .inr (.inl f))) := by
  rw [← wSM, wS_big (by decide)]
  rfl
section LAW1
variable {p : Program} {l : Launch} {e : Env} {s : State} {m : MethodId} {args : Array Value} {below : List Frame} {meth : Method} {c : Code} {H : Heap} {locs : List Loc} {cells slots : Nat} {Q : State → Prop}
variable {ls : Array Slot} {rest : List Value} {D : va_G} {A : Nat → Prop} {G : Nat → Nat} {S : cS} {M : mS} {ao b L k pc : Nat} {f : Nat → Int64} {xs : Nat → Int32} {w : hm_T} {R : Room}
theorem lw_ld (X : CallFix p m c code 7 s args wsA R_L) (hX : va_X b L xs s s.heap) (hbl : b < s.heap.size) (hbA : ¬ A b) (hY : hm_Y D cls A s.heap w H locs) {i : Int32} {j : Nat} (hi : i = nI j) (hj : j < L) (hL : L ≤ 4096) (hdg : decode code pc = .ok (.iaload, 1))
    (kk : W p l e R s m args below meth c H locs cells slots Q (F0 m (pc + 1) ls (.int (xs j) :: rest))) : W p l e R s m args below meth c H locs cells slots Q (F0 m pc ls (.int i :: .ref b :: rest)) := by
  subst hi
  refine va_sld X.1 X.2.1 hX hbl hbA hY.2.2.1 (nI_in hj (by omega)) hdg ?_
  rw [nI_clamp (by omega)]
  exact kk
abbrev lgJ (a b : Int32) : Int64 := (a.toInt64 <<< ((32 : Int32).toInt64 &&& 63)) ||| (b.toInt64 &&& 4294967295)

set_option maxHeartbeats 4000000 in
set_option maxRecDepth 100000 in
theorem lc_edge (X : CallFix p m c code 7 s args wsA R_L) (hK : ctK D A G s) (hX : va_X b L xs s s.heap) (hbl : b < s.heap.size) (hbA : ¬ A b) (hL : L ≤ 4096) (hk : 8 * k + 8 ≤ L) (hB9 : k ≤ 600) (hcc : cells + 4 ≤ 601024) (hss : slots + 160 ≤ 7293034) (hR : RR (k : Int) S M) (hY : hm_Y D cls A s.heap (wS G S (wM G M (ωo G ao f))) H locs) (hl : lv_has ls 7 [(0, .ref b), (1, .ref (S.ad 0 0 0)), (2, .ref (M.ad 0)), (3, .ref ao), (4, .int (nI (8 * k)))]) (kk : ∀ (H : Heap) (locs : List Loc) (ls : Array Slot) (S' : cS) (M' : mS) (f' : Nat → Int64), RR ((k : Int) + 1) S' M' → S'.ad 0 0 0 = S.ad 0 0 0 → M'.ad 0 = M.ad 0 → hm_Y D cls A s.heap (wS G S' (wM G M' (ωo G ao f'))) H locs → lv_has ls 7 [(0, .ref b), (1, .ref (S'.ad 0 0 0)), (2, .ref (M'.ad 0)), (3, .ref ao), (4, .int (nI (8 * k)))] → W p l e room_1 s m args below meth c H locs (cells + 4) (slots + 160) Q (F0 m 822 ls [])) : W p l e room_1 s m args below meth c H locs cells slots Q (F0 m 212 ls []) := by
  obtain ⟨K1, K2, c1, c2, rel⟩ := P_edge l D A G hR (xs (8 * k + 1)) (xs (8 * k + 2)) (xs (8 * k + 3))
  refine lv_aload_n X.1 X.2.1 d_L_law_212 rfl (lv_at hl 1 rfl) ?_
  refine lv_aload_n X.1 X.2.1 d_L_law_213 rfl (lv_at hl 0 rfl) ?_
  refine lv_iload X.1 X.2.1 d_L_law_214 (lv_at hl 4 rfl) ?_
  refine lv_iconst (v := 1) X.1 X.2.1 d_L_law_216 (by decide) ?_
  refine lv_iadd X.1 X.2.1 d_L_law_217 ?_
  rw [show nI (8 * k) + 1 = nI (8 * k + 1) from nI_add (8 * k) 1]
  refine lw_ld X hX hbl hbA hY (j := 8 * k + 1) rfl (by omega) hL d_L_law_218 ?_
  refine lv_aload_n X.1 X.2.1 d_L_law_219 rfl (lv_at hl 0 rfl) ?_
  refine lv_iload X.1 X.2.1 d_L_law_220 (lv_at hl 4 rfl) ?_
  refine lv_iconst (v := 2) X.1 X.2.1 d_L_law_222 (by decide) ?_
  refine lv_iadd X.1 X.2.1 d_L_law_223 ?_
  rw [show nI (8 * k) + 2 = nI (8 * k + 2) from nI_add (8 * k) 2]
  refine lw_ld X hX hbl hbA hY (j := 8 * k + 2) rfl (by omega) hL d_L_law_224 ?_
  refine lv_aload_n X.1 X.2.1 d_L_law_225 rfl (lv_at hl 0 rfl) ?_
  refine lv_iload X.1 X.2.1 d_L_law_226 (lv_at hl 4 rfl) ?_
  refine lv_iconst (v := 3) X.1 X.2.1 d_L_law_228 (by decide) ?_
  refine lv_iadd X.1 X.2.1 d_L_law_229 ?_
  rw [show nI (8 * k) + 3 = nI (8 * k + 3) from nI_add (8 * k) 3]
  refine lw_ld X hX hbl hbA hY (j := 8 * k + 3) rfl (by omega) hL d_L_law_230 ?_
  refine hm_call (ct_runV (n := 3) X hK hY (c1 (wM G M (ωo G ao f))) m_108 m_105 m_106 m_107 m_1 (by decide +kernel) ⟨Nat.le_of_ble_eq_true rfl, Nat.le_of_ble_eq_true rfl⟩ ⟨rfl, rfl⟩ (hm_recv ⟨X, hK.1⟩ hY w0 rfl) rfl hl.1 rfl (Nat.le_of_ble_eq_true rfl) d_L_law_231 ⟨by show _ ≤ 601024; omega, by show _ ≤ 7293034; omega⟩) hY (fun v w1 H locs hp hY => ?_)
  obtain ⟨r, S', rfl, rfl, k1⟩ := hp
  have hY : hm_Y D cls A s.heap (wM G M (wS G S' (ωo G ao f))) H locs := by rw [← wSM]; exact hY
  refine W.eq (g2 := F0 m 234 ls [.int r]) rfl ?_
  refine lv_aload_n X.1 X.2.1 d_L_law_234 rfl (lv_at hl 2 rfl) ?_
  refine lv_aload_n X.1 X.2.1 d_L_law_235 rfl (lv_at hl 0 rfl) ?_
  refine lv_iload X.1 X.2.1 d_L_law_236 (lv_at hl 4 rfl) ?_
  refine lv_iconst (v := 1) X.1 X.2.1 d_L_law_238 (by decide) ?_
  refine lv_iadd X.1 X.2.1 d_L_law_239 ?_
  rw [show nI (8 * k) + 1 = nI (8 * k + 1) from nI_add (8 * k) 1]
  refine lw_ld X hX hbl hbA hY (j := 8 * k + 1) rfl (by omega) hL d_L_law_240 ?_
  refine lv_aload_n X.1 X.2.1 d_L_law_241 rfl (lv_at hl 0 rfl) ?_
  refine lv_iload X.1 X.2.1 d_L_law_242 (lv_at hl 4 rfl) ?_
  refine lv_iconst (v := 2) X.1 X.2.1 d_L_law_244 (by decide) ?_
  refine lv_iadd X.1 X.2.1 d_L_law_245 ?_
  rw [show nI (8 * k) + 2 = nI (8 * k + 2) from nI_add (8 * k) 2]
  refine lw_ld X hX hbl hbA hY (j := 8 * k + 2) rfl (by omega) hL d_L_law_246 ?_
  refine lv_aload_n X.1 X.2.1 d_L_law_247 rfl (lv_at hl 0 rfl) ?_
  refine lv_iload X.1 X.2.1 d_L_law_248 (lv_at hl 4 rfl) ?_
  refine lv_iconst (v := 3) X.1 X.2.1 d_L_law_250 (by decide) ?_
  refine lv_iadd X.1 X.2.1 d_L_law_251 ?_
  rw [show nI (8 * k) + 3 = nI (8 * k + 3) from nI_add (8 * k) 3]
  refine lw_ld X hX hbl hbA hY (j := 8 * k + 3) rfl (by omega) hL d_L_law_252 ?_
  refine hm_call (ct_runV (n := 3) X hK hY (c2 (wS G S' (ωo G ao f))) m_597 m_594 m_595 m_596 m_6 (by decide +kernel) ⟨Nat.le_of_ble_eq_true rfl, Nat.le_of_ble_eq_true rfl⟩ ⟨rfl, rfl⟩ (hm_recv ⟨X, hK.1⟩ hY v_0 rfl) rfl hl.1 rfl (Nat.le_of_ble_eq_true rfl) d_L_law_253 ⟨by show _ ≤ 601024; omega, by show _ ≤ 7293034; omega⟩) hY (fun v w1 H locs hp hY => ?_)
  obtain ⟨r', M', rfl, rfl, k2⟩ := hp
  have hY : hm_Y D cls A s.heap (wS G S' (wM G M' (ωo G ao f))) H locs := by rw [wSM]; exact hY
  obtain ⟨er, hR', hS, hM⟩ := rel r S' r' M' k1 k2
  refine W.eq (g2 := F0 m 256 ls [.int r', .int r]) rfl ?_
  refine lv_icmp_eq (tgt := 822) X.1 X.2.1 d_L_law_256 (by decide) (fun c0 => ?_) (fun c0 => absurd er c0)
  refine W.widen (k := cells + 4) (n := slots + 160) (by omega) (by omega) ?_
  exact kk H locs ls S' M' f hR' hS hM hY (by rw [hS, hM]; exact hl)
set_option maxHeartbeats 4000000 in
set_option maxRecDepth 100000 in
theorem lc_deadline (X : CallFix p m c code 7 s args wsA R_L) (hK : ctK D A G s) (hX : va_X b L xs s s.heap) (hbl : b < s.heap.size) (hbA : ¬ A b) (hL : L ≤ 4096) (hk : 8 * k + 8 ≤ L) (hB9 : k ≤ 600) (hcc : cells + 4 ≤ 601024) (hss : slots + 160 ≤ 7293034) (hR : RR (k : Int) S M) (hY : hm_Y D cls A s.heap (wS G S (wM G M (ωo G ao f))) H locs) (hl : lv_has ls 7 [(0, .ref b), (1, .ref (S.ad 0 0 0)), (2, .ref (M.ad 0)), (3, .ref ao), (4, .int (nI (8 * k)))]) (kk : ∀ (H : Heap) (locs : List Loc) (ls : Array Slot) (S' : cS) (M' : mS) (f' : Nat → Int64), RR ((k : Int) + 1) S' M' → S'.ad 0 0 0 = S.ad 0 0 0 → M'.ad 0 = M.ad 0 → hm_Y D cls A s.heap (wS G S' (wM G M' (ωo G ao f'))) H locs → lv_has ls 7 [(0, .ref b), (1, .ref (S'.ad 0 0 0)), (2, .ref (M'.ad 0)), (3, .ref ao), (4, .int (nI (8 * k)))] → W p l e room_1 s m args below meth c H locs (cells + 4) (slots + 160) Q (F0 m 822 ls [])) : W p l e room_1 s m args below meth c H locs cells slots Q (F0 m 261 ls []) := by
  obtain ⟨K1, K2, c1, c2, rel⟩ := P_deadline l D A G hR (xs (8 * k + 1)) (xs (8 * k + 2)) (xs (8 * k + 3)) (lgJ (xs (8 * k + 4)) (xs (8 * k + 5))) (lgJ (xs (8 * k + 6)) (xs (8 * k + 7)))
  refine lv_aload_n X.1 X.2.1 d_L_law_261 rfl (lv_at hl 1 rfl) ?_
  refine lv_aload_n X.1 X.2.1 d_L_law_262 rfl (lv_at hl 0 rfl) ?_
  refine lv_iload X.1 X.2.1 d_L_law_263 (lv_at hl 4 rfl) ?_
  refine lv_iconst (v := 1) X.1 X.2.1 d_L_law_265 (by decide) ?_
  refine lv_iadd X.1 X.2.1 d_L_law_266 ?_
  rw [show nI (8 * k) + 1 = nI (8 * k + 1) from nI_add (8 * k) 1]
  refine lw_ld X hX hbl hbA hY (j := 8 * k + 1) rfl (by omega) hL d_L_law_267 ?_
  refine lv_aload_n X.1 X.2.1 d_L_law_268 rfl (lv_at hl 0 rfl) ?_
  refine lv_iload X.1 X.2.1 d_L_law_269 (lv_at hl 4 rfl) ?_
  refine lv_iconst (v := 2) X.1 X.2.1 d_L_law_271 (by decide) ?_
  refine lv_iadd X.1 X.2.1 d_L_law_272 ?_
  rw [show nI (8 * k) + 2 = nI (8 * k + 2) from nI_add (8 * k) 2]
  refine lw_ld X hX hbl hbA hY (j := 8 * k + 2) rfl (by omega) hL d_L_law_273 ?_
  refine lv_aload_n X.1 X.2.1 d_L_law_274 rfl (lv_at hl 0 rfl) ?_
  refine lv_iload X.1 X.2.1 d_L_law_275 (lv_at hl 4 rfl) ?_
  refine lv_iconst (v := 3) X.1 X.2.1 d_L_law_277 (by decide) ?_
  refine lv_iadd X.1 X.2.1 d_L_law_278 ?_
  rw [show nI (8 * k) + 3 = nI (8 * k + 3) from nI_add (8 * k) 3]
  refine lw_ld X hX hbl hbA hY (j := 8 * k + 3) rfl (by omega) hL d_L_law_279 ?_
  refine lv_aload_n X.1 X.2.1 d_L_law_280 rfl (lv_at hl 0 rfl) ?_
  refine lv_iload X.1 X.2.1 d_L_law_281 (lv_at hl 4 rfl) ?_
  refine lv_iconst (v := 4) X.1 X.2.1 d_L_law_283 (by decide) ?_
  refine lv_iadd X.1 X.2.1 d_L_law_284 ?_
  rw [show nI (8 * k) + 4 = nI (8 * k + 4) from nI_add (8 * k) 4]
  refine lw_ld X hX hbl hbA hY (j := 8 * k + 4) rfl (by omega) hL d_L_law_285 ?_
  refine lv_i2l (v := (xs (8 * k + 4)).toInt64) X.1 X.2.1 d_L_law_286 rfl ?_
  refine lv_bipush (v := 32) X.1 X.2.1 d_L_law_287 (by decide) ?_
  refine lv_lshl (v := ((xs (8 * k + 4)).toInt64) <<< ((32 : Int32).toInt64 &&& 63)) X.1 X.2.1 d_L_law_289 rfl ?_
  refine lv_aload_n X.1 X.2.1 d_L_law_290 rfl (lv_at hl 0 rfl) ?_
  refine lv_iload X.1 X.2.1 d_L_law_291 (lv_at hl 4 rfl) ?_
  refine lv_iconst (v := 5) X.1 X.2.1 d_L_law_293 (by decide) ?_
  refine lv_iadd X.1 X.2.1 d_L_law_294 ?_
  rw [show nI (8 * k) + 5 = nI (8 * k + 5) from nI_add (8 * k) 5]
  refine lw_ld X hX hbl hbA hY (j := 8 * k + 5) rfl (by omega) hL d_L_law_295 ?_
  refine lv_i2l (v := (xs (8 * k + 5)).toInt64) X.1 X.2.1 d_L_law_296 rfl ?_
  refine lv_ldc2 X.1 X.2.1 X.2.2.2.1 (X.2.2.2.2 _ m_662) d_L_law_297 ?_
  refine lv_land X.1 X.2.1 d_L_law_300 ?_
  refine lv_lor X.1 X.2.1 d_L_law_301 ?_
  refine lv_aload_n X.1 X.2.1 d_L_law_302 rfl (lv_at hl 0 rfl) ?_
  refine lv_iload X.1 X.2.1 d_L_law_303 (lv_at hl 4 rfl) ?_
  refine lv_bipush (v := 6) X.1 X.2.1 d_L_law_305 (by decide) ?_
  refine lv_iadd X.1 X.2.1 d_L_law_307 ?_
  rw [show nI (8 * k) + 6 = nI (8 * k + 6) from nI_add (8 * k) 6]
  refine lw_ld X hX hbl hbA hY (j := 8 * k + 6) rfl (by omega) hL d_L_law_308 ?_
  refine lv_i2l (v := (xs (8 * k + 6)).toInt64) X.1 X.2.1 d_L_law_309 rfl ?_
  refine lv_bipush (v := 32) X.1 X.2.1 d_L_law_310 (by decide) ?_
  refine lv_lshl (v := ((xs (8 * k + 6)).toInt64) <<< ((32 : Int32).toInt64 &&& 63)) X.1 X.2.1 d_L_law_312 rfl ?_
  refine lv_aload_n X.1 X.2.1 d_L_law_313 rfl (lv_at hl 0 rfl) ?_
  refine lv_iload X.1 X.2.1 d_L_law_314 (lv_at hl 4 rfl) ?_
  refine lv_bipush (v := 7) X.1 X.2.1 d_L_law_316 (by decide) ?_
  refine lv_iadd X.1 X.2.1 d_L_law_318 ?_
  rw [show nI (8 * k) + 7 = nI (8 * k + 7) from nI_add (8 * k) 7]
  refine lw_ld X hX hbl hbA hY (j := 8 * k + 7) rfl (by omega) hL d_L_law_319 ?_
  refine lv_i2l (v := (xs (8 * k + 7)).toInt64) X.1 X.2.1 d_L_law_320 rfl ?_
  refine lv_ldc2 X.1 X.2.1 X.2.2.2.1 (X.2.2.2.2 _ m_662) d_L_law_321 ?_
  refine lv_land X.1 X.2.1 d_L_law_324 ?_
  refine lv_lor X.1 X.2.1 d_L_law_325 ?_
  refine hm_call (ct_runV (n := 5) X hK hY (c1 (wM G M (ωo G ao f))) m_154 m_151 m_152 m_153 m_1 (by decide +kernel) ⟨Nat.le_of_ble_eq_true rfl, Nat.le_of_ble_eq_true rfl⟩ ⟨rfl, rfl⟩ (hm_recv ⟨X, hK.1⟩ hY w0 rfl) rfl hl.1 rfl (Nat.le_of_ble_eq_true rfl) d_L_law_326 ⟨by show _ ≤ 601024; omega, by show _ ≤ 7293034; omega⟩) hY (fun v w1 H locs hp hY => ?_)
  obtain ⟨r, S', rfl, rfl, k1⟩ := hp
  have hY : hm_Y D cls A s.heap (wM G M (wS G S' (ωo G ao f))) H locs := by rw [← wSM]; exact hY
  refine W.eq (g2 := F0 m 329 ls [.int r]) rfl ?_
  refine lv_aload_n X.1 X.2.1 d_L_law_329 rfl (lv_at hl 2 rfl) ?_
  refine lv_aload_n X.1 X.2.1 d_L_law_330 rfl (lv_at hl 0 rfl) ?_
  refine lv_iload X.1 X.2.1 d_L_law_331 (lv_at hl 4 rfl) ?_
  refine lv_iconst (v := 1) X.1 X.2.1 d_L_law_333 (by decide) ?_
  refine lv_iadd X.1 X.2.1 d_L_law_334 ?_
  rw [show nI (8 * k) + 1 = nI (8 * k + 1) from nI_add (8 * k) 1]
  refine lw_ld X hX hbl hbA hY (j := 8 * k + 1) rfl (by omega) hL d_L_law_335 ?_
  refine lv_aload_n X.1 X.2.1 d_L_law_336 rfl (lv_at hl 0 rfl) ?_
  refine lv_iload X.1 X.2.1 d_L_law_337 (lv_at hl 4 rfl) ?_
  refine lv_iconst (v := 2) X.1 X.2.1 d_L_law_339 (by decide) ?_
  refine lv_iadd X.1 X.2.1 d_L_law_340 ?_
  rw [show nI (8 * k) + 2 = nI (8 * k + 2) from nI_add (8 * k) 2]
  refine lw_ld X hX hbl hbA hY (j := 8 * k + 2) rfl (by omega) hL d_L_law_341 ?_
  refine lv_aload_n X.1 X.2.1 d_L_law_342 rfl (lv_at hl 0 rfl) ?_
  refine lv_iload X.1 X.2.1 d_L_law_343 (lv_at hl 4 rfl) ?_
  refine lv_iconst (v := 3) X.1 X.2.1 d_L_law_345 (by decide) ?_
  refine lv_iadd X.1 X.2.1 d_L_law_346 ?_
  rw [show nI (8 * k) + 3 = nI (8 * k + 3) from nI_add (8 * k) 3]
  refine lw_ld X hX hbl hbA hY (j := 8 * k + 3) rfl (by omega) hL d_L_law_347 ?_
  refine lv_aload_n X.1 X.2.1 d_L_law_348 rfl (lv_at hl 0 rfl) ?_
  refine lv_iload X.1 X.2.1 d_L_law_349 (lv_at hl 4 rfl) ?_
  refine lv_iconst (v := 4) X.1 X.2.1 d_L_law_351 (by decide) ?_
  refine lv_iadd X.1 X.2.1 d_L_law_352 ?_
  rw [show nI (8 * k) + 4 = nI (8 * k + 4) from nI_add (8 * k) 4]
  refine lw_ld X hX hbl hbA hY (j := 8 * k + 4) rfl (by omega) hL d_L_law_353 ?_
  refine lv_i2l (v := (xs (8 * k + 4)).toInt64) X.1 X.2.1 d_L_law_354 rfl ?_
  refine lv_bipush (v := 32) X.1 X.2.1 d_L_law_355 (by decide) ?_
  refine lv_lshl (v := ((xs (8 * k + 4)).toInt64) <<< ((32 : Int32).toInt64 &&& 63)) X.1 X.2.1 d_L_law_357 rfl ?_
  refine lv_aload_n X.1 X.2.1 d_L_law_358 rfl (lv_at hl 0 rfl) ?_
  refine lv_iload X.1 X.2.1 d_L_law_359 (lv_at hl 4 rfl) ?_
  refine lv_iconst (v := 5) X.1 X.2.1 d_L_law_361 (by decide) ?_
  refine lv_iadd X.1 X.2.1 d_L_law_362 ?_
  rw [show nI (8 * k) + 5 = nI (8 * k + 5) from nI_add (8 * k) 5]
  refine lw_ld X hX hbl hbA hY (j := 8 * k + 5) rfl (by omega) hL d_L_law_363 ?_
  refine lv_i2l (v := (xs (8 * k + 5)).toInt64) X.1 X.2.1 d_L_law_364 rfl ?_
  refine lv_ldc2 X.1 X.2.1 X.2.2.2.1 (X.2.2.2.2 _ m_662) d_L_law_365 ?_
  refine lv_land X.1 X.2.1 d_L_law_368 ?_
  refine lv_lor X.1 X.2.1 d_L_law_369 ?_
  refine lv_aload_n X.1 X.2.1 d_L_law_370 rfl (lv_at hl 0 rfl) ?_
  refine lv_iload X.1 X.2.1 d_L_law_371 (lv_at hl 4 rfl) ?_
  refine lv_bipush (v := 6) X.1 X.2.1 d_L_law_373 (by decide) ?_
  refine lv_iadd X.1 X.2.1 d_L_law_375 ?_
  rw [show nI (8 * k) + 6 = nI (8 * k + 6) from nI_add (8 * k) 6]
  refine lw_ld X hX hbl hbA hY (j := 8 * k + 6) rfl (by omega) hL d_L_law_376 ?_
  refine lv_i2l (v := (xs (8 * k + 6)).toInt64) X.1 X.2.1 d_L_law_377 rfl ?_
  refine lv_bipush (v := 32) X.1 X.2.1 d_L_law_378 (by decide) ?_
  refine lv_lshl (v := ((xs (8 * k + 6)).toInt64) <<< ((32 : Int32).toInt64 &&& 63)) X.1 X.2.1 d_L_law_380 rfl ?_
  refine lv_aload_n X.1 X.2.1 d_L_law_381 rfl (lv_at hl 0 rfl) ?_
  refine lv_iload X.1 X.2.1 d_L_law_382 (lv_at hl 4 rfl) ?_
  refine lv_bipush (v := 7) X.1 X.2.1 d_L_law_384 (by decide) ?_
  refine lv_iadd X.1 X.2.1 d_L_law_386 ?_
  rw [show nI (8 * k) + 7 = nI (8 * k + 7) from nI_add (8 * k) 7]
  refine lw_ld X hX hbl hbA hY (j := 8 * k + 7) rfl (by omega) hL d_L_law_387 ?_
  refine lv_i2l (v := (xs (8 * k + 7)).toInt64) X.1 X.2.1 d_L_law_388 rfl ?_
  refine lv_ldc2 X.1 X.2.1 X.2.2.2.1 (X.2.2.2.2 _ m_662) d_L_law_389 ?_
  refine lv_land X.1 X.2.1 d_L_law_392 ?_
  refine lv_lor X.1 X.2.1 d_L_law_393 ?_
  refine hm_call (ct_runV (n := 5) X hK hY (c2 (wS G S' (ωo G ao f))) m_609 m_606 m_607 m_608 m_6 (by decide +kernel) ⟨Nat.le_of_ble_eq_true rfl, Nat.le_of_ble_eq_true rfl⟩ ⟨rfl, rfl⟩ (hm_recv ⟨X, hK.1⟩ hY v_0 rfl) rfl hl.1 rfl (Nat.le_of_ble_eq_true rfl) d_L_law_394 ⟨by show _ ≤ 601024; omega, by show _ ≤ 7293034; omega⟩) hY (fun v w1 H locs hp hY => ?_)
  obtain ⟨r', M', rfl, rfl, k2⟩ := hp
  have hY : hm_Y D cls A s.heap (wS G S' (wM G M' (ωo G ao f))) H locs := by rw [wSM]; exact hY
  obtain ⟨er, hR', hS, hM⟩ := rel r S' r' M' k1 k2
  refine W.eq (g2 := F0 m 397 ls [.int r', .int r]) rfl ?_
  refine lv_icmp_eq (tgt := 822) X.1 X.2.1 d_L_law_397 (by decide) (fun c0 => ?_) (fun c0 => absurd er c0)
  refine W.widen (k := cells + 4) (n := slots + 160) (by omega) (by omega) ?_
  exact kk H locs ls S' M' f hR' hS hM hY (by rw [hS, hM]; exact hl)
set_option maxHeartbeats 4000000 in
set_option maxRecDepth 100000 in
theorem lc_point (X : CallFix p m c code 7 s args wsA R_L) (hK : ctK D A G s) (hX : va_X b L xs s s.heap) (hbl : b < s.heap.size) (hbA : ¬ A b) (hL : L ≤ 4096) (hk : 8 * k + 8 ≤ L) (hB9 : k ≤ 600) (hcc : cells + 4 ≤ 601024) (hss : slots + 160 ≤ 7293034) (hR : RR (k : Int) S M) (hY : hm_Y D cls A s.heap (wS G S (wM G M (ωo G ao f))) H locs) (hl : lv_has ls 7 [(0, .ref b), (1, .ref (S.ad 0 0 0)), (2, .ref (M.ad 0)), (3, .ref ao), (4, .int (nI (8 * k)))]) (kk : ∀ (H : Heap) (locs : List Loc) (ls : Array Slot) (S' : cS) (M' : mS) (f' : Nat → Int64), RR ((k : Int) + 1) S' M' → S'.ad 0 0 0 = S.ad 0 0 0 → M'.ad 0 = M.ad 0 → hm_Y D cls A s.heap (wS G S' (wM G M' (ωo G ao f'))) H locs → lv_has ls 7 [(0, .ref b), (1, .ref (S'.ad 0 0 0)), (2, .ref (M'.ad 0)), (3, .ref ao), (4, .int (nI (8 * k)))] → W p l e room_1 s m args below meth c H locs (cells + 4) (slots + 160) Q (F0 m 822 ls [])) : W p l e room_1 s m args below meth c H locs cells slots Q (F0 m 402 ls []) := by
  obtain ⟨K1, K2, c1, c2, rel⟩ := P_point l D A G hR (xs (8 * k + 1)) (xs (8 * k + 2)) (lgJ (xs (8 * k + 3)) (xs (8 * k + 4)))
  refine lv_aload_n X.1 X.2.1 d_L_law_402 rfl (lv_at hl 1 rfl) ?_
  refine lv_aload_n X.1 X.2.1 d_L_law_403 rfl (lv_at hl 0 rfl) ?_
  refine lv_iload X.1 X.2.1 d_L_law_404 (lv_at hl 4 rfl) ?_
  refine lv_iconst (v := 1) X.1 X.2.1 d_L_law_406 (by decide) ?_
  refine lv_iadd X.1 X.2.1 d_L_law_407 ?_
  rw [show nI (8 * k) + 1 = nI (8 * k + 1) from nI_add (8 * k) 1]
  refine lw_ld X hX hbl hbA hY (j := 8 * k + 1) rfl (by omega) hL d_L_law_408 ?_
  refine lv_aload_n X.1 X.2.1 d_L_law_409 rfl (lv_at hl 0 rfl) ?_
  refine lv_iload X.1 X.2.1 d_L_law_410 (lv_at hl 4 rfl) ?_
  refine lv_iconst (v := 2) X.1 X.2.1 d_L_law_412 (by decide) ?_
  refine lv_iadd X.1 X.2.1 d_L_law_413 ?_
  rw [show nI (8 * k) + 2 = nI (8 * k + 2) from nI_add (8 * k) 2]
  refine lw_ld X hX hbl hbA hY (j := 8 * k + 2) rfl (by omega) hL d_L_law_414 ?_
  refine lv_aload_n X.1 X.2.1 d_L_law_415 rfl (lv_at hl 0 rfl) ?_
  refine lv_iload X.1 X.2.1 d_L_law_416 (lv_at hl 4 rfl) ?_
  refine lv_iconst (v := 3) X.1 X.2.1 d_L_law_418 (by decide) ?_
  refine lv_iadd X.1 X.2.1 d_L_law_419 ?_
  rw [show nI (8 * k) + 3 = nI (8 * k + 3) from nI_add (8 * k) 3]
  refine lw_ld X hX hbl hbA hY (j := 8 * k + 3) rfl (by omega) hL d_L_law_420 ?_
  refine lv_i2l (v := (xs (8 * k + 3)).toInt64) X.1 X.2.1 d_L_law_421 rfl ?_
  refine lv_bipush (v := 32) X.1 X.2.1 d_L_law_422 (by decide) ?_
  refine lv_lshl (v := ((xs (8 * k + 3)).toInt64) <<< ((32 : Int32).toInt64 &&& 63)) X.1 X.2.1 d_L_law_424 rfl ?_
  refine lv_aload_n X.1 X.2.1 d_L_law_425 rfl (lv_at hl 0 rfl) ?_
  refine lv_iload X.1 X.2.1 d_L_law_426 (lv_at hl 4 rfl) ?_
  refine lv_iconst (v := 4) X.1 X.2.1 d_L_law_428 (by decide) ?_
  refine lv_iadd X.1 X.2.1 d_L_law_429 ?_
  rw [show nI (8 * k) + 4 = nI (8 * k + 4) from nI_add (8 * k) 4]
  refine lw_ld X hX hbl hbA hY (j := 8 * k + 4) rfl (by omega) hL d_L_law_430 ?_
  refine lv_i2l (v := (xs (8 * k + 4)).toInt64) X.1 X.2.1 d_L_law_431 rfl ?_
  refine lv_ldc2 X.1 X.2.1 X.2.2.2.1 (X.2.2.2.2 _ m_662) d_L_law_432 ?_
  refine lv_land X.1 X.2.1 d_L_law_435 ?_
  refine lv_lor X.1 X.2.1 d_L_law_436 ?_
  refine hm_call (ct_runV (n := 3) X hK hY (c1 (wM G M (ωo G ao f))) m_248 m_245 m_246 m_247 m_1 (by decide +kernel) ⟨Nat.le_of_ble_eq_true rfl, Nat.le_of_ble_eq_true rfl⟩ ⟨rfl, rfl⟩ (hm_recv ⟨X, hK.1⟩ hY w0 rfl) rfl hl.1 rfl (Nat.le_of_ble_eq_true rfl) d_L_law_437 ⟨by show _ ≤ 601024; omega, by show _ ≤ 7293034; omega⟩) hY (fun v w1 H locs hp hY => ?_)
  obtain ⟨r, S', rfl, rfl, k1⟩ := hp
  have hY : hm_Y D cls A s.heap (wM G M (wS G S' (ωo G ao f))) H locs := by rw [← wSM]; exact hY
  refine W.eq (g2 := F0 m 440 ls [.int r]) rfl ?_
  refine lv_aload_n X.1 X.2.1 d_L_law_440 rfl (lv_at hl 2 rfl) ?_
  refine lv_aload_n X.1 X.2.1 d_L_law_441 rfl (lv_at hl 0 rfl) ?_
  refine lv_iload X.1 X.2.1 d_L_law_442 (lv_at hl 4 rfl) ?_
  refine lv_iconst (v := 1) X.1 X.2.1 d_L_law_444 (by decide) ?_
  refine lv_iadd X.1 X.2.1 d_L_law_445 ?_
  rw [show nI (8 * k) + 1 = nI (8 * k + 1) from nI_add (8 * k) 1]
  refine lw_ld X hX hbl hbA hY (j := 8 * k + 1) rfl (by omega) hL d_L_law_446 ?_
  refine lv_aload_n X.1 X.2.1 d_L_law_447 rfl (lv_at hl 0 rfl) ?_
  refine lv_iload X.1 X.2.1 d_L_law_448 (lv_at hl 4 rfl) ?_
  refine lv_iconst (v := 2) X.1 X.2.1 d_L_law_450 (by decide) ?_
  refine lv_iadd X.1 X.2.1 d_L_law_451 ?_
  rw [show nI (8 * k) + 2 = nI (8 * k + 2) from nI_add (8 * k) 2]
  refine lw_ld X hX hbl hbA hY (j := 8 * k + 2) rfl (by omega) hL d_L_law_452 ?_
  refine lv_aload_n X.1 X.2.1 d_L_law_453 rfl (lv_at hl 0 rfl) ?_
  refine lv_iload X.1 X.2.1 d_L_law_454 (lv_at hl 4 rfl) ?_
  refine lv_iconst (v := 3) X.1 X.2.1 d_L_law_456 (by decide) ?_
  refine lv_iadd X.1 X.2.1 d_L_law_457 ?_
  rw [show nI (8 * k) + 3 = nI (8 * k + 3) from nI_add (8 * k) 3]
  refine lw_ld X hX hbl hbA hY (j := 8 * k + 3) rfl (by omega) hL d_L_law_458 ?_
  refine lv_i2l (v := (xs (8 * k + 3)).toInt64) X.1 X.2.1 d_L_law_459 rfl ?_
  refine lv_bipush (v := 32) X.1 X.2.1 d_L_law_460 (by decide) ?_
  refine lv_lshl (v := ((xs (8 * k + 3)).toInt64) <<< ((32 : Int32).toInt64 &&& 63)) X.1 X.2.1 d_L_law_462 rfl ?_
  refine lv_aload_n X.1 X.2.1 d_L_law_463 rfl (lv_at hl 0 rfl) ?_
  refine lv_iload X.1 X.2.1 d_L_law_464 (lv_at hl 4 rfl) ?_
  refine lv_iconst (v := 4) X.1 X.2.1 d_L_law_466 (by decide) ?_
  refine lv_iadd X.1 X.2.1 d_L_law_467 ?_
  rw [show nI (8 * k) + 4 = nI (8 * k + 4) from nI_add (8 * k) 4]
  refine lw_ld X hX hbl hbA hY (j := 8 * k + 4) rfl (by omega) hL d_L_law_468 ?_
  refine lv_i2l (v := (xs (8 * k + 4)).toInt64) X.1 X.2.1 d_L_law_469 rfl ?_
  refine lv_ldc2 X.1 X.2.1 X.2.2.2.1 (X.2.2.2.2 _ m_662) d_L_law_470 ?_
  refine lv_land X.1 X.2.1 d_L_law_473 ?_
  refine lv_lor X.1 X.2.1 d_L_law_474 ?_
  refine hm_call (ct_runV (n := 3) X hK hY (c2 (wS G S' (ωo G ao f))) m_614 m_611 m_612 m_613 m_6 (by decide +kernel) ⟨Nat.le_of_ble_eq_true rfl, Nat.le_of_ble_eq_true rfl⟩ ⟨rfl, rfl⟩ (hm_recv ⟨X, hK.1⟩ hY v_0 rfl) rfl hl.1 rfl (Nat.le_of_ble_eq_true rfl) d_L_law_475 ⟨by show _ ≤ 601024; omega, by show _ ≤ 7293034; omega⟩) hY (fun v w1 H locs hp hY => ?_)
  obtain ⟨r', M', rfl, rfl, k2⟩ := hp
  have hY : hm_Y D cls A s.heap (wS G S' (wM G M' (ωo G ao f))) H locs := by rw [wSM]; exact hY
  obtain ⟨er, hR', hS, hM⟩ := rel r S' r' M' k1 k2
  refine W.eq (g2 := F0 m 478 ls [.int r', .int r]) rfl ?_
  refine lv_icmp_eq (tgt := 822) X.1 X.2.1 d_L_law_478 (by decide) (fun c0 => ?_) (fun c0 => absurd er c0)
  refine W.widen (k := cells + 4) (n := slots + 160) (by omega) (by omega) ?_
  exact kk H locs ls S' M' f hR' hS hM hY (by rw [hS, hM]; exact hl)
set_option maxHeartbeats 4000000 in
set_option maxRecDepth 100000 in
theorem lc_cycle (X : CallFix p m c code 7 s args wsA R_L) (hK : ctK D A G s) (hX : va_X b L xs s s.heap) (hbl : b < s.heap.size) (hbA : ¬ A b) (hL : L ≤ 4096) (hk : 8 * k + 8 ≤ L) (hB9 : k ≤ 600) (hcc : cells + 4 ≤ 601024) (hss : slots + 160 ≤ 7293034) (hR : RR (k : Int) S M) (hY : hm_Y D cls A s.heap (wS G S (wM G M (ωo G ao f))) H locs) (hl : lv_has ls 7 [(0, .ref b), (1, .ref (S.ad 0 0 0)), (2, .ref (M.ad 0)), (3, .ref ao), (4, .int (nI (8 * k)))]) (kk : ∀ (H : Heap) (locs : List Loc) (ls : Array Slot) (S' : cS) (M' : mS) (f' : Nat → Int64), RR ((k : Int) + 1) S' M' → S'.ad 0 0 0 = S.ad 0 0 0 → M'.ad 0 = M.ad 0 → hm_Y D cls A s.heap (wS G S' (wM G M' (ωo G ao f'))) H locs → lv_has ls 7 [(0, .ref b), (1, .ref (S'.ad 0 0 0)), (2, .ref (M'.ad 0)), (3, .ref ao), (4, .int (nI (8 * k)))] → W p l e room_1 s m args below meth c H locs (cells + 4) (slots + 160) Q (F0 m 822 ls [])) : W p l e room_1 s m args below meth c H locs cells slots Q (F0 m 483 ls []) := by
  obtain ⟨K1, K2, c1, c2, rel⟩ := P_cycle l D A G hR (by omega) (by omega) (lgJ (xs (8 * k + 1)) (xs (8 * k + 2)))
  refine lv_aload_n X.1 X.2.1 d_L_law_483 rfl (lv_at hl 1 rfl) ?_
  refine lv_aload_n X.1 X.2.1 d_L_law_484 rfl (lv_at hl 0 rfl) ?_
  refine lv_iload X.1 X.2.1 d_L_law_485 (lv_at hl 4 rfl) ?_
  refine lv_iconst (v := 1) X.1 X.2.1 d_L_law_487 (by decide) ?_
  refine lv_iadd X.1 X.2.1 d_L_law_488 ?_
  rw [show nI (8 * k) + 1 = nI (8 * k + 1) from nI_add (8 * k) 1]
  refine lw_ld X hX hbl hbA hY (j := 8 * k + 1) rfl (by omega) hL d_L_law_489 ?_
  refine lv_i2l (v := (xs (8 * k + 1)).toInt64) X.1 X.2.1 d_L_law_490 rfl ?_
  refine lv_bipush (v := 32) X.1 X.2.1 d_L_law_491 (by decide) ?_
  refine lv_lshl (v := ((xs (8 * k + 1)).toInt64) <<< ((32 : Int32).toInt64 &&& 63)) X.1 X.2.1 d_L_law_493 rfl ?_
  refine lv_aload_n X.1 X.2.1 d_L_law_494 rfl (lv_at hl 0 rfl) ?_
  refine lv_iload X.1 X.2.1 d_L_law_495 (lv_at hl 4 rfl) ?_
  refine lv_iconst (v := 2) X.1 X.2.1 d_L_law_497 (by decide) ?_
  refine lv_iadd X.1 X.2.1 d_L_law_498 ?_
  rw [show nI (8 * k) + 2 = nI (8 * k + 2) from nI_add (8 * k) 2]
  refine lw_ld X hX hbl hbA hY (j := 8 * k + 2) rfl (by omega) hL d_L_law_499 ?_
  refine lv_i2l (v := (xs (8 * k + 2)).toInt64) X.1 X.2.1 d_L_law_500 rfl ?_
  refine lv_ldc2 X.1 X.2.1 X.2.2.2.1 (X.2.2.2.2 _ m_662) d_L_law_501 ?_
  refine lv_land X.1 X.2.1 d_L_law_504 ?_
  refine lv_lor X.1 X.2.1 d_L_law_505 ?_
  refine hm_call (ct_runV (n := 1) X hK hY (c1 (wM G M (ωo G ao f))) m_273 m_270 m_271 m_272 m_1 (by decide +kernel) ⟨Nat.le_of_ble_eq_true rfl, Nat.le_of_ble_eq_true rfl⟩ ⟨rfl, rfl⟩ (hm_recv ⟨X, hK.1⟩ hY w0 rfl) rfl hl.1 rfl (Nat.le_of_ble_eq_true rfl) d_L_law_506 ⟨by show _ ≤ 601024; omega, by show _ ≤ 7293034; omega⟩) hY (fun v w1 H locs hp hY => ?_)
  obtain ⟨r, S', rfl, rfl, k1⟩ := hp
  have hY : hm_Y D cls A s.heap (wM G M (wS G S' (ωo G ao f))) H locs := by rw [← wSM]; exact hY
  refine W.eq (g2 := F0 m 509 ls [.int r]) rfl ?_
  refine lv_aload_n X.1 X.2.1 d_L_law_509 rfl (lv_at hl 2 rfl) ?_
  refine lv_aload_n X.1 X.2.1 d_L_law_510 rfl (lv_at hl 0 rfl) ?_
  refine lv_iload X.1 X.2.1 d_L_law_511 (lv_at hl 4 rfl) ?_
  refine lv_iconst (v := 1) X.1 X.2.1 d_L_law_513 (by decide) ?_
  refine lv_iadd X.1 X.2.1 d_L_law_514 ?_
  rw [show nI (8 * k) + 1 = nI (8 * k + 1) from nI_add (8 * k) 1]
  refine lw_ld X hX hbl hbA hY (j := 8 * k + 1) rfl (by omega) hL d_L_law_515 ?_
  refine lv_i2l (v := (xs (8 * k + 1)).toInt64) X.1 X.2.1 d_L_law_516 rfl ?_
  refine lv_bipush (v := 32) X.1 X.2.1 d_L_law_517 (by decide) ?_
  refine lv_lshl (v := ((xs (8 * k + 1)).toInt64) <<< ((32 : Int32).toInt64 &&& 63)) X.1 X.2.1 d_L_law_519 rfl ?_
  refine lv_aload_n X.1 X.2.1 d_L_law_520 rfl (lv_at hl 0 rfl) ?_
  refine lv_iload X.1 X.2.1 d_L_law_521 (lv_at hl 4 rfl) ?_
  refine lv_iconst (v := 2) X.1 X.2.1 d_L_law_523 (by decide) ?_
  refine lv_iadd X.1 X.2.1 d_L_law_524 ?_
  rw [show nI (8 * k) + 2 = nI (8 * k + 2) from nI_add (8 * k) 2]
  refine lw_ld X hX hbl hbA hY (j := 8 * k + 2) rfl (by omega) hL d_L_law_525 ?_
  refine lv_i2l (v := (xs (8 * k + 2)).toInt64) X.1 X.2.1 d_L_law_526 rfl ?_
  refine lv_ldc2 X.1 X.2.1 X.2.2.2.1 (X.2.2.2.2 _ m_662) d_L_law_527 ?_
  refine lv_land X.1 X.2.1 d_L_law_530 ?_
  refine lv_lor X.1 X.2.1 d_L_law_531 ?_
  refine hm_call (ct_runV (n := 1) X hK hY (c2 (wS G S' (ωo G ao f))) m_623 m_620 m_621 m_622 m_6 (by decide +kernel) ⟨Nat.le_of_ble_eq_true rfl, Nat.le_of_ble_eq_true rfl⟩ ⟨rfl, rfl⟩ (hm_recv ⟨X, hK.1⟩ hY v_0 rfl) rfl hl.1 rfl (Nat.le_of_ble_eq_true rfl) d_L_law_532 ⟨by show _ ≤ 601024; omega, by show _ ≤ 7293034; omega⟩) hY (fun v w1 H locs hp hY => ?_)
  obtain ⟨r', M', rfl, rfl, k2⟩ := hp
  have hY : hm_Y D cls A s.heap (wS G S' (wM G M' (ωo G ao f))) H locs := by rw [wSM]; exact hY
  obtain ⟨er, hR', hS, hM⟩ := rel r S' r' M' k1 k2
  refine W.eq (g2 := F0 m 535 ls [.int r', .int r]) rfl ?_
  refine lv_icmp_eq (tgt := 822) X.1 X.2.1 d_L_law_535 (by decide) (fun c0 => ?_) (fun c0 => absurd er c0)
  refine W.widen (k := cells + 4) (n := slots + 160) (by omega) (by omega) ?_
  exact kk H locs ls S' M' f hR' hS hM hY (by rw [hS, hM]; exact hl)
set_option maxHeartbeats 4000000 in
set_option maxRecDepth 100000 in
theorem lc_tolerance (X : CallFix p m c code 7 s args wsA R_L) (hK : ctK D A G s) (hX : va_X b L xs s s.heap) (hbl : b < s.heap.size) (hbA : ¬ A b) (hL : L ≤ 4096) (hk : 8 * k + 8 ≤ L) (hB9 : k ≤ 600) (hcc : cells + 4 ≤ 601024) (hss : slots + 160 ≤ 7293034) (hR : RR (k : Int) S M) (hY : hm_Y D cls A s.heap (wS G S (wM G M (ωo G ao f))) H locs) (hl : lv_has ls 7 [(0, .ref b), (1, .ref (S.ad 0 0 0)), (2, .ref (M.ad 0)), (3, .ref ao), (4, .int (nI (8 * k)))]) (kk : ∀ (H : Heap) (locs : List Loc) (ls : Array Slot) (S' : cS) (M' : mS) (f' : Nat → Int64), RR ((k : Int) + 1) S' M' → S'.ad 0 0 0 = S.ad 0 0 0 → M'.ad 0 = M.ad 0 → hm_Y D cls A s.heap (wS G S' (wM G M' (ωo G ao f'))) H locs → lv_has ls 7 [(0, .ref b), (1, .ref (S'.ad 0 0 0)), (2, .ref (M'.ad 0)), (3, .ref ao), (4, .int (nI (8 * k)))] → W p l e room_1 s m args below meth c H locs (cells + 4) (slots + 160) Q (F0 m 822 ls [])) : W p l e room_1 s m args below meth c H locs cells slots Q (F0 m 540 ls []) := by
  obtain ⟨K1, K2, c1, c2, rel⟩ := P_tolerance l D A G hR (xs (8 * k + 1)) (xs (8 * k + 2))
  refine lv_aload_n X.1 X.2.1 d_L_law_540 rfl (lv_at hl 1 rfl) ?_
  refine lv_aload_n X.1 X.2.1 d_L_law_541 rfl (lv_at hl 0 rfl) ?_
  refine lv_iload X.1 X.2.1 d_L_law_542 (lv_at hl 4 rfl) ?_
  refine lv_iconst (v := 1) X.1 X.2.1 d_L_law_544 (by decide) ?_
  refine lv_iadd X.1 X.2.1 d_L_law_545 ?_
  rw [show nI (8 * k) + 1 = nI (8 * k + 1) from nI_add (8 * k) 1]
  refine lw_ld X hX hbl hbA hY (j := 8 * k + 1) rfl (by omega) hL d_L_law_546 ?_
  refine lv_aload_n X.1 X.2.1 d_L_law_547 rfl (lv_at hl 0 rfl) ?_
  refine lv_iload X.1 X.2.1 d_L_law_548 (lv_at hl 4 rfl) ?_
  refine lv_iconst (v := 2) X.1 X.2.1 d_L_law_550 (by decide) ?_
  refine lv_iadd X.1 X.2.1 d_L_law_551 ?_
  rw [show nI (8 * k) + 2 = nI (8 * k + 2) from nI_add (8 * k) 2]
  refine lw_ld X hX hbl hbA hY (j := 8 * k + 2) rfl (by omega) hL d_L_law_552 ?_
  refine hm_call (ct_runV (n := 2) X hK hY (c1 (wM G M (ωo G ao f))) m_314 m_311 m_312 m_313 m_1 (by decide +kernel) ⟨Nat.le_of_ble_eq_true rfl, Nat.le_of_ble_eq_true rfl⟩ ⟨rfl, rfl⟩ (hm_recv ⟨X, hK.1⟩ hY w0 rfl) rfl hl.1 rfl (Nat.le_of_ble_eq_true rfl) d_L_law_553 ⟨by show _ ≤ 601024; omega, by show _ ≤ 7293034; omega⟩) hY (fun v w1 H locs hp hY => ?_)
  obtain ⟨r, S', rfl, rfl, k1⟩ := hp
  have hY : hm_Y D cls A s.heap (wM G M (wS G S' (ωo G ao f))) H locs := by rw [← wSM]; exact hY
  refine W.eq (g2 := F0 m 556 ls [.int r]) rfl ?_
  refine lv_aload_n X.1 X.2.1 d_L_law_556 rfl (lv_at hl 2 rfl) ?_
  refine lv_aload_n X.1 X.2.1 d_L_law_557 rfl (lv_at hl 0 rfl) ?_
  refine lv_iload X.1 X.2.1 d_L_law_558 (lv_at hl 4 rfl) ?_
  refine lv_iconst (v := 1) X.1 X.2.1 d_L_law_560 (by decide) ?_
  refine lv_iadd X.1 X.2.1 d_L_law_561 ?_
  rw [show nI (8 * k) + 1 = nI (8 * k + 1) from nI_add (8 * k) 1]
  refine lw_ld X hX hbl hbA hY (j := 8 * k + 1) rfl (by omega) hL d_L_law_562 ?_
  refine lv_aload_n X.1 X.2.1 d_L_law_563 rfl (lv_at hl 0 rfl) ?_
  refine lv_iload X.1 X.2.1 d_L_law_564 (lv_at hl 4 rfl) ?_
  refine lv_iconst (v := 2) X.1 X.2.1 d_L_law_566 (by decide) ?_
  refine lv_iadd X.1 X.2.1 d_L_law_567 ?_
  rw [show nI (8 * k) + 2 = nI (8 * k + 2) from nI_add (8 * k) 2]
  refine lw_ld X hX hbl hbA hY (j := 8 * k + 2) rfl (by omega) hL d_L_law_568 ?_
  refine hm_call (ct_runV (n := 2) X hK hY (c2 (wS G S' (ωo G ao f))) m_639 m_636 m_637 m_638 m_6 (by decide +kernel) ⟨Nat.le_of_ble_eq_true rfl, Nat.le_of_ble_eq_true rfl⟩ ⟨rfl, rfl⟩ (hm_recv ⟨X, hK.1⟩ hY v_0 rfl) rfl hl.1 rfl (Nat.le_of_ble_eq_true rfl) d_L_law_569 ⟨by show _ ≤ 601024; omega, by show _ ≤ 7293034; omega⟩) hY (fun v w1 H locs hp hY => ?_)
  obtain ⟨r', M', rfl, rfl, k2⟩ := hp
  have hY : hm_Y D cls A s.heap (wS G S' (wM G M' (ωo G ao f))) H locs := by rw [wSM]; exact hY
  obtain ⟨er, hR', hS, hM⟩ := rel r S' r' M' k1 k2
  refine W.eq (g2 := F0 m 572 ls [.int r', .int r]) rfl ?_
  refine lv_icmp_eq (tgt := 822) X.1 X.2.1 d_L_law_572 (by decide) (fun c0 => ?_) (fun c0 => absurd er c0)
  refine W.widen (k := cells + 4) (n := slots + 160) (by omega) (by omega) ?_
  exact kk H locs ls S' M' f hR' hS hM hY (by rw [hS, hM]; exact hl)
set_option maxHeartbeats 4000000 in
set_option maxRecDepth 100000 in
theorem lc_answer (X : CallFix p m c code 7 s args wsA R_L) (hK : ctK D A G s) (hX : va_X b L xs s s.heap) (hbl : b < s.heap.size) (hbA : ¬ A b) (hL : L ≤ 4096) (hk : 8 * k + 8 ≤ L) (hB9 : k ≤ 600) (hcc : cells + 4 ≤ 601024) (hss : slots + 160 ≤ 7293034) (hR : RR (k : Int) S M) (hY : hm_Y D cls A s.heap (wS G S (wM G M (ωo G ao f))) H locs) (hl : lv_has ls 7 [(0, .ref b), (1, .ref (S.ad 0 0 0)), (2, .ref (M.ad 0)), (3, .ref ao), (4, .int (nI (8 * k)))]) (kk : ∀ (H : Heap) (locs : List Loc) (ls : Array Slot) (S' : cS) (M' : mS) (f' : Nat → Int64), RR ((k : Int) + 1) S' M' → S'.ad 0 0 0 = S.ad 0 0 0 → M'.ad 0 = M.ad 0 → hm_Y D cls A s.heap (wS G S' (wM G M' (ωo G ao f'))) H locs → lv_has ls 7 [(0, .ref b), (1, .ref (S'.ad 0 0 0)), (2, .ref (M'.ad 0)), (3, .ref ao), (4, .int (nI (8 * k)))] → W p l e room_1 s m args below meth c H locs (cells + 4) (slots + 160) Q (F0 m 822 ls [])) : W p l e room_1 s m args below meth c H locs cells slots Q (F0 m 577 ls []) := by
  obtain ⟨K1, K2, c1, c2, rel⟩ := P_answer l D A G hR (by omega) (xs (8 * k + 1)) (lgJ (xs (8 * k + 2)) (xs (8 * k + 3))) (lgJ (xs (8 * k + 4)) (xs (8 * k + 5)))
  refine lv_aload_n X.1 X.2.1 d_L_law_577 rfl (lv_at hl 1 rfl) ?_
  refine lv_aload_n X.1 X.2.1 d_L_law_578 rfl (lv_at hl 0 rfl) ?_
  refine lv_iload X.1 X.2.1 d_L_law_579 (lv_at hl 4 rfl) ?_
  refine lv_iconst (v := 1) X.1 X.2.1 d_L_law_581 (by decide) ?_
  refine lv_iadd X.1 X.2.1 d_L_law_582 ?_
  rw [show nI (8 * k) + 1 = nI (8 * k + 1) from nI_add (8 * k) 1]
  refine lw_ld X hX hbl hbA hY (j := 8 * k + 1) rfl (by omega) hL d_L_law_583 ?_
  refine lv_aload_n X.1 X.2.1 d_L_law_584 rfl (lv_at hl 0 rfl) ?_
  refine lv_iload X.1 X.2.1 d_L_law_585 (lv_at hl 4 rfl) ?_
  refine lv_iconst (v := 2) X.1 X.2.1 d_L_law_587 (by decide) ?_
  refine lv_iadd X.1 X.2.1 d_L_law_588 ?_
  rw [show nI (8 * k) + 2 = nI (8 * k + 2) from nI_add (8 * k) 2]
  refine lw_ld X hX hbl hbA hY (j := 8 * k + 2) rfl (by omega) hL d_L_law_589 ?_
  refine lv_i2l (v := (xs (8 * k + 2)).toInt64) X.1 X.2.1 d_L_law_590 rfl ?_
  refine lv_bipush (v := 32) X.1 X.2.1 d_L_law_591 (by decide) ?_
  refine lv_lshl (v := ((xs (8 * k + 2)).toInt64) <<< ((32 : Int32).toInt64 &&& 63)) X.1 X.2.1 d_L_law_593 rfl ?_
  refine lv_aload_n X.1 X.2.1 d_L_law_594 rfl (lv_at hl 0 rfl) ?_
  refine lv_iload X.1 X.2.1 d_L_law_595 (lv_at hl 4 rfl) ?_
  refine lv_iconst (v := 3) X.1 X.2.1 d_L_law_597 (by decide) ?_
  refine lv_iadd X.1 X.2.1 d_L_law_598 ?_
  rw [show nI (8 * k) + 3 = nI (8 * k + 3) from nI_add (8 * k) 3]
  refine lw_ld X hX hbl hbA hY (j := 8 * k + 3) rfl (by omega) hL d_L_law_599 ?_
  refine lv_i2l (v := (xs (8 * k + 3)).toInt64) X.1 X.2.1 d_L_law_600 rfl ?_
  refine lv_ldc2 X.1 X.2.1 X.2.2.2.1 (X.2.2.2.2 _ m_662) d_L_law_601 ?_
  refine lv_land X.1 X.2.1 d_L_law_604 ?_
  refine lv_lor X.1 X.2.1 d_L_law_605 ?_
  refine lv_aload_n X.1 X.2.1 d_L_law_606 rfl (lv_at hl 0 rfl) ?_
  refine lv_iload X.1 X.2.1 d_L_law_607 (lv_at hl 4 rfl) ?_
  refine lv_iconst (v := 4) X.1 X.2.1 d_L_law_609 (by decide) ?_
  refine lv_iadd X.1 X.2.1 d_L_law_610 ?_
  rw [show nI (8 * k) + 4 = nI (8 * k + 4) from nI_add (8 * k) 4]
  refine lw_ld X hX hbl hbA hY (j := 8 * k + 4) rfl (by omega) hL d_L_law_611 ?_
  refine lv_i2l (v := (xs (8 * k + 4)).toInt64) X.1 X.2.1 d_L_law_612 rfl ?_
  refine lv_bipush (v := 32) X.1 X.2.1 d_L_law_613 (by decide) ?_
  refine lv_lshl (v := ((xs (8 * k + 4)).toInt64) <<< ((32 : Int32).toInt64 &&& 63)) X.1 X.2.1 d_L_law_615 rfl ?_
  refine lv_aload_n X.1 X.2.1 d_L_law_616 rfl (lv_at hl 0 rfl) ?_
  refine lv_iload X.1 X.2.1 d_L_law_617 (lv_at hl 4 rfl) ?_
  refine lv_iconst (v := 5) X.1 X.2.1 d_L_law_619 (by decide) ?_
  refine lv_iadd X.1 X.2.1 d_L_law_620 ?_
  rw [show nI (8 * k) + 5 = nI (8 * k + 5) from nI_add (8 * k) 5]
  refine lw_ld X hX hbl hbA hY (j := 8 * k + 5) rfl (by omega) hL d_L_law_621 ?_
  refine lv_i2l (v := (xs (8 * k + 5)).toInt64) X.1 X.2.1 d_L_law_622 rfl ?_
  refine lv_ldc2 X.1 X.2.1 X.2.2.2.1 (X.2.2.2.2 _ m_662) d_L_law_623 ?_
  refine lv_land X.1 X.2.1 d_L_law_626 ?_
  refine lv_lor X.1 X.2.1 d_L_law_627 ?_
  refine hm_call (ct_runV (n := 3) X hK hY (c1 (wM G M (ωo G ao f))) m_319 m_316 m_317 m_318 m_1 (by decide +kernel) ⟨Nat.le_of_ble_eq_true rfl, Nat.le_of_ble_eq_true rfl⟩ ⟨rfl, rfl⟩ (hm_recv ⟨X, hK.1⟩ hY w0 rfl) rfl hl.1 rfl (Nat.le_of_ble_eq_true rfl) d_L_law_628 ⟨by show _ ≤ 601024; omega, by show _ ≤ 7293034; omega⟩) hY (fun v w1 H locs hp hY => ?_)
  obtain ⟨r, S', rfl, rfl, k1⟩ := hp
  have hY : hm_Y D cls A s.heap (wM G M (wS G S' (ωo G ao f))) H locs := by rw [← wSM]; exact hY
  refine W.eq (g2 := F0 m 631 ls [.int r]) rfl ?_
  refine lv_aload_n X.1 X.2.1 d_L_law_631 rfl (lv_at hl 2 rfl) ?_
  refine lv_aload_n X.1 X.2.1 d_L_law_632 rfl (lv_at hl 0 rfl) ?_
  refine lv_iload X.1 X.2.1 d_L_law_633 (lv_at hl 4 rfl) ?_
  refine lv_iconst (v := 1) X.1 X.2.1 d_L_law_635 (by decide) ?_
  refine lv_iadd X.1 X.2.1 d_L_law_636 ?_
  rw [show nI (8 * k) + 1 = nI (8 * k + 1) from nI_add (8 * k) 1]
  refine lw_ld X hX hbl hbA hY (j := 8 * k + 1) rfl (by omega) hL d_L_law_637 ?_
  refine lv_aload_n X.1 X.2.1 d_L_law_638 rfl (lv_at hl 0 rfl) ?_
  refine lv_iload X.1 X.2.1 d_L_law_639 (lv_at hl 4 rfl) ?_
  refine lv_iconst (v := 2) X.1 X.2.1 d_L_law_641 (by decide) ?_
  refine lv_iadd X.1 X.2.1 d_L_law_642 ?_
  rw [show nI (8 * k) + 2 = nI (8 * k + 2) from nI_add (8 * k) 2]
  refine lw_ld X hX hbl hbA hY (j := 8 * k + 2) rfl (by omega) hL d_L_law_643 ?_
  refine lv_i2l (v := (xs (8 * k + 2)).toInt64) X.1 X.2.1 d_L_law_644 rfl ?_
  refine lv_bipush (v := 32) X.1 X.2.1 d_L_law_645 (by decide) ?_
  refine lv_lshl (v := ((xs (8 * k + 2)).toInt64) <<< ((32 : Int32).toInt64 &&& 63)) X.1 X.2.1 d_L_law_647 rfl ?_
  refine lv_aload_n X.1 X.2.1 d_L_law_648 rfl (lv_at hl 0 rfl) ?_
  refine lv_iload X.1 X.2.1 d_L_law_649 (lv_at hl 4 rfl) ?_
  refine lv_iconst (v := 3) X.1 X.2.1 d_L_law_651 (by decide) ?_
  refine lv_iadd X.1 X.2.1 d_L_law_652 ?_
  rw [show nI (8 * k) + 3 = nI (8 * k + 3) from nI_add (8 * k) 3]
  refine lw_ld X hX hbl hbA hY (j := 8 * k + 3) rfl (by omega) hL d_L_law_653 ?_
  refine lv_i2l (v := (xs (8 * k + 3)).toInt64) X.1 X.2.1 d_L_law_654 rfl ?_
  refine lv_ldc2 X.1 X.2.1 X.2.2.2.1 (X.2.2.2.2 _ m_662) d_L_law_655 ?_
  refine lv_land X.1 X.2.1 d_L_law_658 ?_
  refine lv_lor X.1 X.2.1 d_L_law_659 ?_
  refine lv_aload_n X.1 X.2.1 d_L_law_660 rfl (lv_at hl 0 rfl) ?_
  refine lv_iload X.1 X.2.1 d_L_law_661 (lv_at hl 4 rfl) ?_
  refine lv_iconst (v := 4) X.1 X.2.1 d_L_law_663 (by decide) ?_
  refine lv_iadd X.1 X.2.1 d_L_law_664 ?_
  rw [show nI (8 * k) + 4 = nI (8 * k + 4) from nI_add (8 * k) 4]
  refine lw_ld X hX hbl hbA hY (j := 8 * k + 4) rfl (by omega) hL d_L_law_665 ?_
  refine lv_i2l (v := (xs (8 * k + 4)).toInt64) X.1 X.2.1 d_L_law_666 rfl ?_
  refine lv_bipush (v := 32) X.1 X.2.1 d_L_law_667 (by decide) ?_
  refine lv_lshl (v := ((xs (8 * k + 4)).toInt64) <<< ((32 : Int32).toInt64 &&& 63)) X.1 X.2.1 d_L_law_669 rfl ?_
  refine lv_aload_n X.1 X.2.1 d_L_law_670 rfl (lv_at hl 0 rfl) ?_
  refine lv_iload X.1 X.2.1 d_L_law_671 (lv_at hl 4 rfl) ?_
  refine lv_iconst (v := 5) X.1 X.2.1 d_L_law_673 (by decide) ?_
  refine lv_iadd X.1 X.2.1 d_L_law_674 ?_
  rw [show nI (8 * k) + 5 = nI (8 * k + 5) from nI_add (8 * k) 5]
  refine lw_ld X hX hbl hbA hY (j := 8 * k + 5) rfl (by omega) hL d_L_law_675 ?_
  refine lv_i2l (v := (xs (8 * k + 5)).toInt64) X.1 X.2.1 d_L_law_676 rfl ?_
  refine lv_ldc2 X.1 X.2.1 X.2.2.2.1 (X.2.2.2.2 _ m_662) d_L_law_677 ?_
  refine lv_land X.1 X.2.1 d_L_law_680 ?_
  refine lv_lor X.1 X.2.1 d_L_law_681 ?_
  refine hm_call (ct_runV (n := 3) X hK hY (c2 (wS G S' (ωo G ao f))) m_643 m_640 m_641 m_642 m_6 (by decide +kernel) ⟨Nat.le_of_ble_eq_true rfl, Nat.le_of_ble_eq_true rfl⟩ ⟨rfl, rfl⟩ (hm_recv ⟨X, hK.1⟩ hY v_0 rfl) rfl hl.1 rfl (Nat.le_of_ble_eq_true rfl) d_L_law_682 ⟨by show _ ≤ 601024; omega, by show _ ≤ 7293034; omega⟩) hY (fun v w1 H locs hp hY => ?_)
  obtain ⟨r', M', rfl, rfl, k2⟩ := hp
  have hY : hm_Y D cls A s.heap (wS G S' (wM G M' (ωo G ao f))) H locs := by rw [wSM]; exact hY
  obtain ⟨er, hR', hS, hM⟩ := rel r S' r' M' k1 k2
  refine W.eq (g2 := F0 m 685 ls [.int r', .int r]) rfl ?_
  refine lv_icmp_eq (tgt := 822) X.1 X.2.1 d_L_law_685 (by decide) (fun c0 => ?_) (fun c0 => absurd er c0)
  refine W.widen (k := cells + 4) (n := slots + 160) (by omega) (by omega) ?_
  exact kk H locs ls S' M' f hR' hS hM hY (by rw [hS, hM]; exact hl)
set_option maxHeartbeats 4000000 in
set_option maxRecDepth 100000 in
theorem lc_mode (X : CallFix p m c code 7 s args wsA R_L) (hK : ctK D A G s) (hX : va_X b L xs s s.heap) (hbl : b < s.heap.size) (hbA : ¬ A b) (hL : L ≤ 4096) (hk : 8 * k + 8 ≤ L) (hB9 : k ≤ 600) (hcc : cells + 4 ≤ 601024) (hss : slots + 160 ≤ 7293034) (hR : RR (k : Int) S M) (hY : hm_Y D cls A s.heap (wS G S (wM G M (ωo G ao f))) H locs) (hl : lv_has ls 7 [(0, .ref b), (1, .ref (S.ad 0 0 0)), (2, .ref (M.ad 0)), (3, .ref ao), (4, .int (nI (8 * k)))]) (kk : ∀ (H : Heap) (locs : List Loc) (ls : Array Slot) (S' : cS) (M' : mS) (f' : Nat → Int64), RR ((k : Int) + 1) S' M' → S'.ad 0 0 0 = S.ad 0 0 0 → M'.ad 0 = M.ad 0 → hm_Y D cls A s.heap (wS G S' (wM G M' (ωo G ao f'))) H locs → lv_has ls 7 [(0, .ref b), (1, .ref (S'.ad 0 0 0)), (2, .ref (M'.ad 0)), (3, .ref ao), (4, .int (nI (8 * k)))] → W p l e room_1 s m args below meth c H locs (cells + 4) (slots + 160) Q (F0 m 822 ls [])) : W p l e room_1 s m args below meth c H locs cells slots Q (F0 m 690 ls []) := by
  obtain ⟨K1, K2, c1, c2, rel⟩ := P_mode l D A G hR (xs (8 * k + 1))
  refine lv_aload_n X.1 X.2.1 d_L_law_690 rfl (lv_at hl 1 rfl) ?_
  refine lv_aload_n X.1 X.2.1 d_L_law_691 rfl (lv_at hl 0 rfl) ?_
  refine lv_iload X.1 X.2.1 d_L_law_692 (lv_at hl 4 rfl) ?_
  refine lv_iconst (v := 1) X.1 X.2.1 d_L_law_694 (by decide) ?_
  refine lv_iadd X.1 X.2.1 d_L_law_695 ?_
  rw [show nI (8 * k) + 1 = nI (8 * k + 1) from nI_add (8 * k) 1]
  refine lw_ld X hX hbl hbA hY (j := 8 * k + 1) rfl (by omega) hL d_L_law_696 ?_
  refine hm_call (ct_runV (n := 1) X hK hY (c1 (wM G M (ωo G ao f))) m_348 m_345 m_346 m_347 m_1 (by decide +kernel) ⟨Nat.le_of_ble_eq_true rfl, Nat.le_of_ble_eq_true rfl⟩ ⟨rfl, rfl⟩ (hm_recv ⟨X, hK.1⟩ hY w0 rfl) rfl hl.1 rfl (Nat.le_of_ble_eq_true rfl) d_L_law_697 ⟨by show _ ≤ 601024; omega, by show _ ≤ 7293034; omega⟩) hY (fun v w1 H locs hp hY => ?_)
  obtain ⟨r, S', rfl, rfl, k1⟩ := hp
  have hY : hm_Y D cls A s.heap (wM G M (wS G S' (ωo G ao f))) H locs := by rw [← wSM]; exact hY
  refine W.eq (g2 := F0 m 700 ls [.int r]) rfl ?_
  refine lv_aload_n X.1 X.2.1 d_L_law_700 rfl (lv_at hl 2 rfl) ?_
  refine lv_aload_n X.1 X.2.1 d_L_law_701 rfl (lv_at hl 0 rfl) ?_
  refine lv_iload X.1 X.2.1 d_L_law_702 (lv_at hl 4 rfl) ?_
  refine lv_iconst (v := 1) X.1 X.2.1 d_L_law_704 (by decide) ?_
  refine lv_iadd X.1 X.2.1 d_L_law_705 ?_
  rw [show nI (8 * k) + 1 = nI (8 * k + 1) from nI_add (8 * k) 1]
  refine lw_ld X hX hbl hbA hY (j := 8 * k + 1) rfl (by omega) hL d_L_law_706 ?_
  refine hm_call (ct_runV (n := 1) X hK hY (c2 (wS G S' (ωo G ao f))) m_649 m_646 m_647 m_648 m_6 (by decide +kernel) ⟨Nat.le_of_ble_eq_true rfl, Nat.le_of_ble_eq_true rfl⟩ ⟨rfl, rfl⟩ (hm_recv ⟨X, hK.1⟩ hY v_0 rfl) rfl hl.1 rfl (Nat.le_of_ble_eq_true rfl) d_L_law_707 ⟨by show _ ≤ 601024; omega, by show _ ≤ 7293034; omega⟩) hY (fun v w1 H locs hp hY => ?_)
  obtain ⟨r', M', rfl, rfl, k2⟩ := hp
  have hY : hm_Y D cls A s.heap (wS G S' (wM G M' (ωo G ao f))) H locs := by rw [wSM]; exact hY
  obtain ⟨er, hR', hS, hM⟩ := rel r S' r' M' k1 k2
  refine W.eq (g2 := F0 m 710 ls [.int r', .int r]) rfl ?_
  refine lv_icmp_eq (tgt := 822) X.1 X.2.1 d_L_law_710 (by decide) (fun c0 => ?_) (fun c0 => absurd er c0)
  refine W.widen (k := cells + 4) (n := slots + 160) (by omega) (by omega) ?_
  exact kk H locs ls S' M' f hR' hS hM hY (by rw [hS, hM]; exact hl)
set_option maxHeartbeats 4000000 in
set_option maxRecDepth 100000 in
theorem lc_reset (X : CallFix p m c code 7 s args wsA R_L) (hK : ctK D A G s) (hX : va_X b L xs s s.heap) (hbl : b < s.heap.size) (hbA : ¬ A b) (hL : L ≤ 4096) (hk : 8 * k + 8 ≤ L) (hB9 : k ≤ 600) (hcc : cells + 4 ≤ 601024) (hss : slots + 160 ≤ 7293034) (hR : RR (k : Int) S M) (hY : hm_Y D cls A s.heap (wS G S (wM G M (ωo G ao f))) H locs) (hl : lv_has ls 7 [(0, .ref b), (1, .ref (S.ad 0 0 0)), (2, .ref (M.ad 0)), (3, .ref ao), (4, .int (nI (8 * k)))]) (kk : ∀ (H : Heap) (locs : List Loc) (ls : Array Slot) (S' : cS) (M' : mS) (f' : Nat → Int64), RR ((k : Int) + 1) S' M' → S'.ad 0 0 0 = S.ad 0 0 0 → M'.ad 0 = M.ad 0 → hm_Y D cls A s.heap (wS G S' (wM G M' (ωo G ao f'))) H locs → lv_has ls 7 [(0, .ref b), (1, .ref (S'.ad 0 0 0)), (2, .ref (M'.ad 0)), (3, .ref ao), (4, .int (nI (8 * k)))] → W p l e room_1 s m args below meth c H locs (cells + 4) (slots + 160) Q (F0 m 822 ls [])) : W p l e room_1 s m args below meth c H locs cells slots Q (F0 m 715 ls []) := by
  obtain ⟨K1, K2, c1, c2, rel⟩ := P_reset l D A G hR (by omega) (xs (8 * k + 1))
  refine lv_aload_n X.1 X.2.1 d_L_law_715 rfl (lv_at hl 1 rfl) ?_
  refine lv_aload_n X.1 X.2.1 d_L_law_716 rfl (lv_at hl 0 rfl) ?_
  refine lv_iload X.1 X.2.1 d_L_law_717 (lv_at hl 4 rfl) ?_
  refine lv_iconst (v := 1) X.1 X.2.1 d_L_law_719 (by decide) ?_
  refine lv_iadd X.1 X.2.1 d_L_law_720 ?_
  rw [show nI (8 * k) + 1 = nI (8 * k + 1) from nI_add (8 * k) 1]
  refine lw_ld X hX hbl hbA hY (j := 8 * k + 1) rfl (by omega) hL d_L_law_721 ?_
  refine hm_call (ct_runV (n := 1) X hK hY (c1 (wM G M (ωo G ao f))) m_353 m_350 m_351 m_352 m_1 (by decide +kernel) ⟨Nat.le_of_ble_eq_true rfl, Nat.le_of_ble_eq_true rfl⟩ ⟨rfl, rfl⟩ (hm_recv ⟨X, hK.1⟩ hY w0 rfl) rfl hl.1 rfl (Nat.le_of_ble_eq_true rfl) d_L_law_722 ⟨by show _ ≤ 601024; omega, by show _ ≤ 7293034; omega⟩) hY (fun v w1 H locs hp hY => ?_)
  obtain ⟨r, S', rfl, rfl, k1⟩ := hp
  have hY : hm_Y D cls A s.heap (wM G M (wS G S' (ωo G ao f))) H locs := by rw [← wSM]; exact hY
  refine W.eq (g2 := F0 m 725 ls [.int r]) rfl ?_
  refine lv_aload_n X.1 X.2.1 d_L_law_725 rfl (lv_at hl 2 rfl) ?_
  refine lv_aload_n X.1 X.2.1 d_L_law_726 rfl (lv_at hl 0 rfl) ?_
  refine lv_iload X.1 X.2.1 d_L_law_727 (lv_at hl 4 rfl) ?_
  refine lv_iconst (v := 1) X.1 X.2.1 d_L_law_729 (by decide) ?_
  refine lv_iadd X.1 X.2.1 d_L_law_730 ?_
  rw [show nI (8 * k) + 1 = nI (8 * k + 1) from nI_add (8 * k) 1]
  refine lw_ld X hX hbl hbA hY (j := 8 * k + 1) rfl (by omega) hL d_L_law_731 ?_
  refine hm_call (ct_runV (n := 1) X hK hY (c2 (wS G S' (ωo G ao f))) m_653 m_650 m_651 m_652 m_6 (by decide +kernel) ⟨Nat.le_of_ble_eq_true rfl, Nat.le_of_ble_eq_true rfl⟩ ⟨rfl, rfl⟩ (hm_recv ⟨X, hK.1⟩ hY v_0 rfl) rfl hl.1 rfl (Nat.le_of_ble_eq_true rfl) d_L_law_732 ⟨by show _ ≤ 601024; omega, by show _ ≤ 7293034; omega⟩) hY (fun v w1 H locs hp hY => ?_)
  obtain ⟨r', M', rfl, rfl, k2⟩ := hp
  have hY : hm_Y D cls A s.heap (wS G S' (wM G M' (ωo G ao f))) H locs := by rw [wSM]; exact hY
  obtain ⟨er, hR', hS, hM⟩ := rel r S' r' M' k1 k2
  refine W.eq (g2 := F0 m 735 ls [.int r', .int r]) rfl ?_
  refine lv_icmp_eq (tgt := 822) X.1 X.2.1 d_L_law_735 (by decide) (fun c0 => ?_) (fun c0 => absurd er c0)
  refine W.widen (k := cells + 4) (n := slots + 160) (by omega) (by omega) ?_
  exact kk H locs ls S' M' f hR' hS hM hY (by rw [hS, hM]; exact hl)
set_option maxHeartbeats 4000000 in
set_option maxRecDepth 100000 in
theorem lc_outer (X : CallFix p m c code 7 s args wsA R_L) (hK : ctK D A G s) (hX : va_X b L xs s s.heap) (hbl : b < s.heap.size) (hbA : ¬ A b) (hL : L ≤ 4096) (hk : 8 * k + 8 ≤ L) (hB9 : k ≤ 600) (hcc : cells + 4 ≤ 601024) (hss : slots + 160 ≤ 7293034) (hR : RR (k : Int) S M) (hY : hm_Y D cls A s.heap (wS G S (wM G M (ωo G ao f))) H locs) (hl : lv_has ls 7 [(0, .ref b), (1, .ref (S.ad 0 0 0)), (2, .ref (M.ad 0)), (3, .ref ao), (4, .int (nI (8 * k)))]) (kk : ∀ (H : Heap) (locs : List Loc) (ls : Array Slot) (S' : cS) (M' : mS) (f' : Nat → Int64), RR ((k : Int) + 1) S' M' → S'.ad 0 0 0 = S.ad 0 0 0 → M'.ad 0 = M.ad 0 → hm_Y D cls A s.heap (wS G S' (wM G M' (ωo G ao f'))) H locs → lv_has ls 7 [(0, .ref b), (1, .ref (S'.ad 0 0 0)), (2, .ref (M'.ad 0)), (3, .ref ao), (4, .int (nI (8 * k)))] → W p l e room_1 s m args below meth c H locs (cells + 4) (slots + 160) Q (F0 m 822 ls [])) : W p l e room_1 s m args below meth c H locs cells slots Q (F0 m 740 ls []) := by
  obtain ⟨K1, K2, c1, c2, rel⟩ := P_outer l D A G hR (by omega) (lgJ (xs (8 * k + 1)) (xs (8 * k + 2)))
  refine lv_aload_n X.1 X.2.1 d_L_law_740 rfl (lv_at hl 1 rfl) ?_
  refine lv_aload_n X.1 X.2.1 d_L_law_741 rfl (lv_at hl 0 rfl) ?_
  refine lv_iload X.1 X.2.1 d_L_law_742 (lv_at hl 4 rfl) ?_
  refine lv_iconst (v := 1) X.1 X.2.1 d_L_law_744 (by decide) ?_
  refine lv_iadd X.1 X.2.1 d_L_law_745 ?_
  rw [show nI (8 * k) + 1 = nI (8 * k + 1) from nI_add (8 * k) 1]
  refine lw_ld X hX hbl hbA hY (j := 8 * k + 1) rfl (by omega) hL d_L_law_746 ?_
  refine lv_i2l (v := (xs (8 * k + 1)).toInt64) X.1 X.2.1 d_L_law_747 rfl ?_
  refine lv_bipush (v := 32) X.1 X.2.1 d_L_law_748 (by decide) ?_
  refine lv_lshl (v := ((xs (8 * k + 1)).toInt64) <<< ((32 : Int32).toInt64 &&& 63)) X.1 X.2.1 d_L_law_750 rfl ?_
  refine lv_aload_n X.1 X.2.1 d_L_law_751 rfl (lv_at hl 0 rfl) ?_
  refine lv_iload X.1 X.2.1 d_L_law_752 (lv_at hl 4 rfl) ?_
  refine lv_iconst (v := 2) X.1 X.2.1 d_L_law_754 (by decide) ?_
  refine lv_iadd X.1 X.2.1 d_L_law_755 ?_
  rw [show nI (8 * k) + 2 = nI (8 * k + 2) from nI_add (8 * k) 2]
  refine lw_ld X hX hbl hbA hY (j := 8 * k + 2) rfl (by omega) hL d_L_law_756 ?_
  refine lv_i2l (v := (xs (8 * k + 2)).toInt64) X.1 X.2.1 d_L_law_757 rfl ?_
  refine lv_ldc2 X.1 X.2.1 X.2.2.2.1 (X.2.2.2.2 _ m_662) d_L_law_758 ?_
  refine lv_land X.1 X.2.1 d_L_law_761 ?_
  refine lv_lor X.1 X.2.1 d_L_law_762 ?_
  refine hm_call (ct_runV (n := 1) X hK hY (c1 (wM G M (ωo G ao f))) m_357 m_354 m_355 m_356 m_1 (by decide +kernel) ⟨Nat.le_of_ble_eq_true rfl, Nat.le_of_ble_eq_true rfl⟩ ⟨rfl, rfl⟩ (hm_recv ⟨X, hK.1⟩ hY w0 rfl) rfl hl.1 rfl (Nat.le_of_ble_eq_true rfl) d_L_law_763 ⟨by show _ ≤ 601024; omega, by show _ ≤ 7293034; omega⟩) hY (fun v w1 H locs hp hY => ?_)
  obtain ⟨r, S', rfl, rfl, k1⟩ := hp
  have hY : hm_Y D cls A s.heap (wM G M (wS G S' (ωo G ao f))) H locs := by rw [← wSM]; exact hY
  refine W.eq (g2 := F0 m 766 ls [.int r]) rfl ?_
  refine lv_aload_n X.1 X.2.1 d_L_law_766 rfl (lv_at hl 2 rfl) ?_
  refine lv_aload_n X.1 X.2.1 d_L_law_767 rfl (lv_at hl 0 rfl) ?_
  refine lv_iload X.1 X.2.1 d_L_law_768 (lv_at hl 4 rfl) ?_
  refine lv_iconst (v := 1) X.1 X.2.1 d_L_law_770 (by decide) ?_
  refine lv_iadd X.1 X.2.1 d_L_law_771 ?_
  rw [show nI (8 * k) + 1 = nI (8 * k + 1) from nI_add (8 * k) 1]
  refine lw_ld X hX hbl hbA hY (j := 8 * k + 1) rfl (by omega) hL d_L_law_772 ?_
  refine lv_i2l (v := (xs (8 * k + 1)).toInt64) X.1 X.2.1 d_L_law_773 rfl ?_
  refine lv_bipush (v := 32) X.1 X.2.1 d_L_law_774 (by decide) ?_
  refine lv_lshl (v := ((xs (8 * k + 1)).toInt64) <<< ((32 : Int32).toInt64 &&& 63)) X.1 X.2.1 d_L_law_776 rfl ?_
  refine lv_aload_n X.1 X.2.1 d_L_law_777 rfl (lv_at hl 0 rfl) ?_
  refine lv_iload X.1 X.2.1 d_L_law_778 (lv_at hl 4 rfl) ?_
  refine lv_iconst (v := 2) X.1 X.2.1 d_L_law_780 (by decide) ?_
  refine lv_iadd X.1 X.2.1 d_L_law_781 ?_
  rw [show nI (8 * k) + 2 = nI (8 * k + 2) from nI_add (8 * k) 2]
  refine lw_ld X hX hbl hbA hY (j := 8 * k + 2) rfl (by omega) hL d_L_law_782 ?_
  refine lv_i2l (v := (xs (8 * k + 2)).toInt64) X.1 X.2.1 d_L_law_783 rfl ?_
  refine lv_ldc2 X.1 X.2.1 X.2.2.2.1 (X.2.2.2.2 _ m_662) d_L_law_784 ?_
  refine lv_land X.1 X.2.1 d_L_law_787 ?_
  refine lv_lor X.1 X.2.1 d_L_law_788 ?_
  refine hm_call (ct_runV (n := 1) X hK hY (c2 (wS G S' (ωo G ao f))) m_657 m_654 m_655 m_656 m_6 (by decide +kernel) ⟨Nat.le_of_ble_eq_true rfl, Nat.le_of_ble_eq_true rfl⟩ ⟨rfl, rfl⟩ (hm_recv ⟨X, hK.1⟩ hY v_0 rfl) rfl hl.1 rfl (Nat.le_of_ble_eq_true rfl) d_L_law_789 ⟨by show _ ≤ 601024; omega, by show _ ≤ 7293034; omega⟩) hY (fun v w1 H locs hp hY => ?_)
  obtain ⟨r', M', rfl, rfl, k2⟩ := hp
  have hY : hm_Y D cls A s.heap (wS G S' (wM G M' (ωo G ao f))) H locs := by rw [wSM]; exact hY
  obtain ⟨er, hR', hS, hM⟩ := rel r S' r' M' k1 k2
  refine W.eq (g2 := F0 m 792 ls [.int r', .int r]) rfl ?_
  refine lv_icmp_eq (tgt := 822) X.1 X.2.1 d_L_law_792 (by decide) (fun c0 => ?_) (fun c0 => absurd er c0)
  refine W.widen (k := cells + 4) (n := slots + 160) (by omega) (by omega) ?_
  exact kk H locs ls S' M' f hR' hS hM hY (by rw [hS, hM]; exact hl)
set_option maxHeartbeats 4000000 in
set_option maxRecDepth 100000 in
theorem lc_state (X : CallFix p m c code 7 s args wsA R_L) (hK : ctK D A G s) (hX : va_X b L xs s s.heap) (hbl : b < s.heap.size) (hbA : ¬ A b) (hL : L ≤ 4096) (hk : 8 * k + 8 ≤ L) (hB9 : k ≤ 600) (hcc : cells + 4 ≤ 601024) (hss : slots + 160 ≤ 7293034) (hR : RR (k : Int) S M) (hY : hm_Y D cls A s.heap (wS G S (wM G M (ωo G ao f))) H locs) (hl : lv_has ls 7 [(0, .ref b), (1, .ref (S.ad 0 0 0)), (2, .ref (M.ad 0)), (3, .ref ao), (4, .int (nI (8 * k)))]) (kk : ∀ (H : Heap) (locs : List Loc) (ls : Array Slot) (S' : cS) (M' : mS) (f' : Nat → Int64), RR ((k : Int) + 1) S' M' → S'.ad 0 0 0 = S.ad 0 0 0 → M'.ad 0 = M.ad 0 → hm_Y D cls A s.heap (wS G S' (wM G M' (ωo G ao f'))) H locs → lv_has ls 7 [(0, .ref b), (1, .ref (S'.ad 0 0 0)), (2, .ref (M'.ad 0)), (3, .ref ao), (4, .int (nI (8 * k)))] → W p l e room_1 s m args below meth c H locs (cells + 4) (slots + 160) Q (F0 m 822 ls [])) : W p l e room_1 s m args below meth c H locs cells slots Q (F0 m 797 ls []) := by
  obtain ⟨K1, K2, c1, c2, rel⟩ := P_state l D A G hR (xs (8 * k + 1))
  refine lv_aload_n X.1 X.2.1 d_L_law_797 rfl (lv_at hl 1 rfl) ?_
  refine lv_aload_n X.1 X.2.1 d_L_law_798 rfl (lv_at hl 0 rfl) ?_
  refine lv_iload X.1 X.2.1 d_L_law_799 (lv_at hl 4 rfl) ?_
  refine lv_iconst (v := 1) X.1 X.2.1 d_L_law_801 (by decide) ?_
  refine lv_iadd X.1 X.2.1 d_L_law_802 ?_
  rw [show nI (8 * k) + 1 = nI (8 * k + 1) from nI_add (8 * k) 1]
  refine lw_ld X hX hbl hbA hY (j := 8 * k + 1) rfl (by omega) hL d_L_law_803 ?_
  refine hm_call (ct_runV (n := 1) X hK hY (c1 (wM G M (ωo G ao f))) m_361 m_358 m_359 m_360 m_1 (by decide +kernel) ⟨Nat.le_of_ble_eq_true rfl, Nat.le_of_ble_eq_true rfl⟩ ⟨rfl, rfl⟩ (hm_recv ⟨X, hK.1⟩ hY w0 rfl) rfl hl.1 rfl (Nat.le_of_ble_eq_true rfl) d_L_law_804 ⟨by show _ ≤ 601024; omega, by show _ ≤ 7293034; omega⟩) hY (fun v w1 H locs hp hY => ?_)
  obtain ⟨r, S', rfl, rfl, k1⟩ := hp
  have hY : hm_Y D cls A s.heap (wM G M (wS G S' (ωo G ao f))) H locs := by rw [← wSM]; exact hY
  refine W.eq (g2 := F0 m 807 ls [.int r]) rfl ?_
  refine lv_aload_n X.1 X.2.1 d_L_law_807 rfl (lv_at hl 2 rfl) ?_
  refine lv_aload_n X.1 X.2.1 d_L_law_808 rfl (lv_at hl 0 rfl) ?_
  refine lv_iload X.1 X.2.1 d_L_law_809 (lv_at hl 4 rfl) ?_
  refine lv_iconst (v := 1) X.1 X.2.1 d_L_law_811 (by decide) ?_
  refine lv_iadd X.1 X.2.1 d_L_law_812 ?_
  rw [show nI (8 * k) + 1 = nI (8 * k + 1) from nI_add (8 * k) 1]
  refine lw_ld X hX hbl hbA hY (j := 8 * k + 1) rfl (by omega) hL d_L_law_813 ?_
  refine hm_call (ct_runV (n := 1) X hK hY (c2 (wS G S' (ωo G ao f))) m_661 m_658 m_659 m_660 m_6 (by decide +kernel) ⟨Nat.le_of_ble_eq_true rfl, Nat.le_of_ble_eq_true rfl⟩ ⟨rfl, rfl⟩ (hm_recv ⟨X, hK.1⟩ hY v_0 rfl) rfl hl.1 rfl (Nat.le_of_ble_eq_true rfl) d_L_law_814 ⟨by show _ ≤ 601024; omega, by show _ ≤ 7293034; omega⟩) hY (fun v w1 H locs hp hY => ?_)
  obtain ⟨r', M', rfl, rfl, k2⟩ := hp
  have hY : hm_Y D cls A s.heap (wS G S' (wM G M' (ωo G ao f))) H locs := by rw [wSM]; exact hY
  obtain ⟨er, hR', hS, hM⟩ := rel r S' r' M' k1 k2
  refine W.eq (g2 := F0 m 817 ls [.int r', .int r]) rfl ?_
  refine lv_icmp_eq (tgt := 822) X.1 X.2.1 d_L_law_817 (by decide) (fun c0 => ?_) (fun c0 => absurd er c0)
  refine W.widen (k := cells + 4) (n := slots + 160) (by omega) (by omega) ?_
  exact kk H locs ls S' M' f hR' hS hM hY (by rw [hS, hM]; exact hl)
end LAW1
