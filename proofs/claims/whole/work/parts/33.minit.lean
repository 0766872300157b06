/-! THE MODEL'S CONSTRUCTOR: the world while the arrays are made -/
def fMi (ad : Nat → Nat) (K : Nat) : List Value := [.int 0, .int 0, if 2 < K then .ref (ad 2) else .null, if 3 < K then .ref (ad 3) else .null, if 4 < K then .ref (ad 4) else .null, if 5 < K then .ref (ad 5) else .null, if 6 < K then .ref (ad 6) else .null, if 7 < K then .ref (ad 7) else .null, if 8 < K then .ref (ad 8) else .null, if 9 < K then .ref (ad 9) else .null, if 10 < K then .ref (ad 10) else .null, if 11 < K then .ref (ad 11) else .null, if 12 < K then .ref (ad 12) else .null, if 13 < K then .ref (ad 13) else .null, if 14 < K then .ref (ad 14) else .null, if 15 < K then .ref (ad 15) else .null, if 16 < K then .ref (ad 16) else .null, if 17 < K then .ref (ad 17) else .null, if 18 < K then .ref (ad 18) else .null, .int 0, .int 0, .long 0, .int 0, .int 0, .int 0, .int 0, .int 0, .int 0, .int 0, .long 0, .long 0]
def arr0 (G : Nat → Nat) (y : Nat) : va_E := if y = 9 ∨ y = 11 then .inl (G 2, mlen y, .inl (fun _ => 0)) else if 16 ≤ y then .inl (G 3, 210, .inr (.inl (fun _ => 0))) else .inl (G 1, mlen y, .inl (fun _ => 0))
def wMi (G : Nat → Nat) (a : Nat) (ad : Nat → Nat) (K : Nat) (ω : hm_T) : hm_T := fun n => if n.1 = 30 then (if n.2.2 = 0 then (if n.2.1 = 0 then some (a, .inr (5, fMi ad K)) else if 2 ≤ n.2.1 ∧ n.2.1 < K then some (ad n.2.1, arr0 G n.2.1) else none) else none) else ω n
def adU (ad : Nat → Nat) (K q : Nat) : Nat → Nat := fun k => if k = K then q else ad k
theorem wMi_0 (G : Nat → Nat) (a : Nat) (ad : Nat → Nat) (K : Nat) (ω : hm_T) : wMi G a ad K ω (30, 0, 0) = some (a, .inr (5, fMi ad K)) := rfl
theorem fMi_s {ad : Nat → Nat} {K q : Nat} (h2 : 2 ≤ K) (h18 : K ≤ 18) : (fMi ad K).set K (.ref q) = fMi (adU ad K q) (K + 1) := by
  rcases (show K = 2 ∨ K = 3 ∨ K = 4 ∨ K = 5 ∨ K = 6 ∨ K = 7 ∨ K = 8 ∨ K = 9 ∨ K = 10 ∨ K = 11 ∨ K = 12 ∨ K = 13 ∨ K = 14 ∨ K = 15 ∨ K = 16 ∨ K = 17 ∨ K = 18 by omega) with rfl | rfl | rfl | rfl | rfl | rfl | rfl | rfl | rfl | rfl | rfl | rfl | rfl | rfl | rfl | rfl | rfl <;> simp [fMi, adU]
theorem wMi_s {G : Nat → Nat} {a : Nat} {ad : Nat → Nat} {K q : Nat} {ω : hm_T} (h2 : 2 ≤ K) (h18 : K ≤ 18) : hm_up (hm_up (wMi G a ad K ω) (30, K, 0) (q, arr0 G K)) (30, 0, 0) (a, .inr (5, (fMi ad K).set K (.ref q))) = wMi G a (adU ad K q) (K + 1) ω := by
  rw [fMi_s h2 h18]
  funext n
  by_cases h0 : n = (30, 0, 0)
  · subst h0
    rw [hm_up_s]
    rfl
  · rw [hm_up_n _ _ h0]
    by_cases h1 : n = (30, K, 0)
    · subst h1
      rw [hm_up_s]
      have hk : K ≠ 0 := by omega
      simp [wMi, hk, h2, adU]
    · rw [hm_up_n _ _ h1]
      obtain ⟨x, y, z⟩ := n
      by_cases hx : x = 30
      · subst hx
        by_cases hz : z = 0
        · subst hz
          have hy0 : y ≠ 0 := fun e => h0 (by rw [e])
          have hyK : y ≠ K := fun e => h1 (by rw [e])
          by_cases hd : 2 ≤ y ∧ y < K
          · have hd2 : 2 ≤ y ∧ y < K + 1 := ⟨hd.1, by omega⟩
            simp only [wMi, if_true, hy0, if_false, hd, hd2, and_self, adU, hyK]
          · have hd2 : ¬ (2 ≤ y ∧ y < K + 1) := by omega
            simp only [wMi, if_true, hy0, if_false, hd, hd2]
        · simp only [wMi, if_true, hz, if_false]
      · simp only [wMi, hx, if_false]
def Mst (a : Nat) (ad : Nat → Nat) : mS := (fun k => if k = 0 then a else ad k, fun _ _ => 0, fun _ _ => 0)
theorem wMi_e {G : Nat → Nat} {a : Nat} {ad : Nat → Nat} {ω : hm_T} : wMi G a ad 19 ω = wM G (Mst a ad) ω := by
  funext n
  obtain ⟨x, y, z⟩ := n
  by_cases hx : x = 30
  · subst hx
    by_cases hz : z = 0
    · subst hz
      by_cases hy : y = 0
      · subst hy
        rfl
      · by_cases hd : 2 ≤ y ∧ y < 19
        · have hd2 : 2 ≤ y ∧ y ≤ 18 := by omega
          simp only [wMi, wM, if_true, hy, if_false, hd, hd2, and_self, or_true, Mst, arr0, mcell, mS.ad, mS.I, mS.J]
        · have hd2 : ¬ (2 ≤ y ∧ y ≤ 18) := by omega
          simp only [wMi, wM, if_true, hy, if_false, hd, hd2, or_self, false_and]
    · simp only [wMi, wM, if_true, hz, if_false, and_false]
  · simp only [wMi, wM, hx, if_false]
def biL1 (M : mS) (j : Nat) : mS := M.sJ 18 j (-1)
def biL (M : mS) : Nat → mS
  | 0 => M
  | j + 1 => biL1 (biL M j) j

set_option maxHeartbeats 4000000 in
set_option maxRecDepth 100000 in
theorem k_M_init (l : Launch) (D : va_G) (A : Nat → Prop) (G : Nat → Nat) (ω : hm_T) (a : Nat) : Met l y_M_init (.code y_M_init c_M_init 2 (none : Option FieldType) :: wsA) { frames := 1, cells := 17, slots := 82194, locals := 20 } (va_Pc [.ref a] (ctU D A G (wMi G a (fun _ => 0) 2 ω))) (hm_Q D cls A (fun v w1 => v = none ∧ ∃ ad, w1 = wM G (biL (Mst a ad) 210) ω)) 17 82194 A := by
  refine ct_met (by decide) (Nat.le_of_ble_eq_true rfl) ?_
  rintro p e s m below meth c ls X hr hlocks hnm hl ⟨hB, hK⟩
  have hl : lv_has ls 2 [(0, .ref a)] := hl
  have hY : hm_Y D cls A s.heap (wMi G a (fun _ => 0) 2 ω) s.heap [] := hm_Y.start hB hK.2.2.2
  refine lv_aload_n X.1 X.2.1 d_M_init_0 rfl (lv_at hl 0 rfl) ?_
  refine W.objInit X.1 X.2.1 X.2.2.2.1 (X.2.2.2.2 _ m_486) (X.2.2.2.2 _ m_25) (X.2.2.2.2 _ m_26) rfl (hl.1.trans X.2.2.1.symm) rfl d_M_init_1 (Nat.le_of_ble_eq_true rfl) (Nat.le_of_ble_eq_true rfl) ?_
  refine W.eq (g2 := F0 m 4 ls []) rfl ?_
  refine lv_aload_n X.1 X.2.1 d_M_init_4 rfl (lv_at hl 0 rfl) ?_
  refine lv_bipush (v := 21) X.1 X.2.1 d_M_init_5 (by decide) ?_
  refine hm_newa (atype := .int) ⟨X, hK.1⟩ hY (30, 2, 0) m_480 rfl (ct_cI hK) (N := 21) (a0 := (21, .inl (fun _ => 0))) rfl (by decide) (by decide) (by decide) (Nat.le_of_ble_eq_true rfl) (Nat.le_of_ble_eq_true rfl) d_M_init_7 (fun q2 H hY => ?_)
  have hY : hm_Y D cls A s.heap (hm_up (wMi G a (fun _ => 0) 2 ω) (30, 2, 0) (q2, arr0 G 2)) H [] := hY
  refine hm_putF ⟨X, hK.1⟩ hY ((hm_up_n _ _ (by decide)).trans (wMi_0 G a (fun _ => 0) 2 ω)) 2 rfl (Nat.le_of_ble_eq_true rfl) (Nat.le_of_ble_eq_true rfl) hu_M ty_M ty_M_ok nm_M m_491 (fun _ h => h) rfl hnm rfl rfl rfl d_M_init_9 (fun H locs hY => ?_)
  have hY : hm_Y D cls A s.heap (wMi G a (adU (fun _ => 0) 2 q2) 3 ω) H locs := by rw [wMi_s (K := 2) (by decide) (by decide)] at hY; exact hY
  refine lv_aload_n X.1 X.2.1 d_M_init_12 rfl (lv_at hl 0 rfl) ?_
  refine lv_bipush (v := 21) X.1 X.2.1 d_M_init_13 (by decide) ?_
  refine hm_newa (atype := .int) ⟨X, hK.1⟩ hY (30, 3, 0) m_480 rfl (ct_cI hK) (N := 21) (a0 := (21, .inl (fun _ => 0))) rfl (by decide) (by decide) (by decide) (Nat.le_of_ble_eq_true rfl) (Nat.le_of_ble_eq_true rfl) d_M_init_15 (fun q3 H hY => ?_)
  have hY : hm_Y D cls A s.heap (hm_up (wMi G a (adU (fun _ => 0) 2 q2) 3 ω) (30, 3, 0) (q3, arr0 G 3)) H locs := hY
  refine hm_putF ⟨X, hK.1⟩ hY ((hm_up_n _ _ (by decide)).trans (wMi_0 G a (adU (fun _ => 0) 2 q2) 3 ω)) 3 rfl (Nat.le_of_ble_eq_true rfl) (Nat.le_of_ble_eq_true rfl) hu_M ty_M ty_M_ok nm_M m_492 (fun _ h => h) rfl hnm rfl rfl rfl d_M_init_17 (fun H locs hY => ?_)
  have hY : hm_Y D cls A s.heap (wMi G a (adU (adU (fun _ => 0) 2 q2) 3 q3) 4 ω) H locs := by rw [wMi_s (K := 3) (by decide) (by decide)] at hY; exact hY
  refine lv_aload_n X.1 X.2.1 d_M_init_20 rfl (lv_at hl 0 rfl) ?_
  refine lv_bipush (v := 21) X.1 X.2.1 d_M_init_21 (by decide) ?_
  refine hm_newa (atype := .int) ⟨X, hK.1⟩ hY (30, 4, 0) m_480 rfl (ct_cI hK) (N := 21) (a0 := (21, .inl (fun _ => 0))) rfl (by decide) (by decide) (by decide) (Nat.le_of_ble_eq_true rfl) (Nat.le_of_ble_eq_true rfl) d_M_init_23 (fun q4 H hY => ?_)
  have hY : hm_Y D cls A s.heap (hm_up (wMi G a (adU (adU (fun _ => 0) 2 q2) 3 q3) 4 ω) (30, 4, 0) (q4, arr0 G 4)) H locs := hY
  refine hm_putF ⟨X, hK.1⟩ hY ((hm_up_n _ _ (by decide)).trans (wMi_0 G a (adU (adU (fun _ => 0) 2 q2) 3 q3) 4 ω)) 4 rfl (Nat.le_of_ble_eq_true rfl) (Nat.le_of_ble_eq_true rfl) hu_M ty_M ty_M_ok nm_M m_493 (fun _ h => h) rfl hnm rfl rfl rfl d_M_init_25 (fun H locs hY => ?_)
  have hY : hm_Y D cls A s.heap (wMi G a (adU (adU (adU (fun _ => 0) 2 q2) 3 q3) 4 q4) 5 ω) H locs := by rw [wMi_s (K := 4) (by decide) (by decide)] at hY; exact hY
  refine lv_aload_n X.1 X.2.1 d_M_init_28 rfl (lv_at hl 0 rfl) ?_
  refine lv_bipush (v := 21) X.1 X.2.1 d_M_init_29 (by decide) ?_
  refine hm_newa (atype := .int) ⟨X, hK.1⟩ hY (30, 5, 0) m_480 rfl (ct_cI hK) (N := 21) (a0 := (21, .inl (fun _ => 0))) rfl (by decide) (by decide) (by decide) (Nat.le_of_ble_eq_true rfl) (Nat.le_of_ble_eq_true rfl) d_M_init_31 (fun q5 H hY => ?_)
  have hY : hm_Y D cls A s.heap (hm_up (wMi G a (adU (adU (adU (fun _ => 0) 2 q2) 3 q3) 4 q4) 5 ω) (30, 5, 0) (q5, arr0 G 5)) H locs := hY
  refine hm_putF ⟨X, hK.1⟩ hY ((hm_up_n _ _ (by decide)).trans (wMi_0 G a (adU (adU (adU (fun _ => 0) 2 q2) 3 q3) 4 q4) 5 ω)) 5 rfl (Nat.le_of_ble_eq_true rfl) (Nat.le_of_ble_eq_true rfl) hu_M ty_M ty_M_ok nm_M m_494 (fun _ h => h) rfl hnm rfl rfl rfl d_M_init_33 (fun H locs hY => ?_)
  have hY : hm_Y D cls A s.heap (wMi G a (adU (adU (adU (adU (fun _ => 0) 2 q2) 3 q3) 4 q4) 5 q5) 6 ω) H locs := by rw [wMi_s (K := 5) (by decide) (by decide)] at hY; exact hY
  refine lv_aload_n X.1 X.2.1 d_M_init_36 rfl (lv_at hl 0 rfl) ?_
  refine lv_bipush (v := 21) X.1 X.2.1 d_M_init_37 (by decide) ?_
  refine hm_newa (atype := .int) ⟨X, hK.1⟩ hY (30, 6, 0) m_480 rfl (ct_cI hK) (N := 21) (a0 := (21, .inl (fun _ => 0))) rfl (by decide) (by decide) (by decide) (Nat.le_of_ble_eq_true rfl) (Nat.le_of_ble_eq_true rfl) d_M_init_39 (fun q6 H hY => ?_)
  have hY : hm_Y D cls A s.heap (hm_up (wMi G a (adU (adU (adU (adU (fun _ => 0) 2 q2) 3 q3) 4 q4) 5 q5) 6 ω) (30, 6, 0) (q6, arr0 G 6)) H locs := hY
  refine hm_putF ⟨X, hK.1⟩ hY ((hm_up_n _ _ (by decide)).trans (wMi_0 G a (adU (adU (adU (adU (fun _ => 0) 2 q2) 3 q3) 4 q4) 5 q5) 6 ω)) 6 rfl (Nat.le_of_ble_eq_true rfl) (Nat.le_of_ble_eq_true rfl) hu_M ty_M ty_M_ok nm_M m_495 (fun _ h => h) rfl hnm rfl rfl rfl d_M_init_41 (fun H locs hY => ?_)
  have hY : hm_Y D cls A s.heap (wMi G a (adU (adU (adU (adU (adU (fun _ => 0) 2 q2) 3 q3) 4 q4) 5 q5) 6 q6) 7 ω) H locs := by rw [wMi_s (K := 6) (by decide) (by decide)] at hY; exact hY
  refine lv_aload_n X.1 X.2.1 d_M_init_44 rfl (lv_at hl 0 rfl) ?_
  refine lv_bipush (v := 21) X.1 X.2.1 d_M_init_45 (by decide) ?_
  refine hm_newa (atype := .int) ⟨X, hK.1⟩ hY (30, 7, 0) m_480 rfl (ct_cI hK) (N := 21) (a0 := (21, .inl (fun _ => 0))) rfl (by decide) (by decide) (by decide) (Nat.le_of_ble_eq_true rfl) (Nat.le_of_ble_eq_true rfl) d_M_init_47 (fun q7 H hY => ?_)
  have hY : hm_Y D cls A s.heap (hm_up (wMi G a (adU (adU (adU (adU (adU (fun _ => 0) 2 q2) 3 q3) 4 q4) 5 q5) 6 q6) 7 ω) (30, 7, 0) (q7, arr0 G 7)) H locs := hY
  refine hm_putF ⟨X, hK.1⟩ hY ((hm_up_n _ _ (by decide)).trans (wMi_0 G a (adU (adU (adU (adU (adU (fun _ => 0) 2 q2) 3 q3) 4 q4) 5 q5) 6 q6) 7 ω)) 7 rfl (Nat.le_of_ble_eq_true rfl) (Nat.le_of_ble_eq_true rfl) hu_M ty_M ty_M_ok nm_M m_496 (fun _ h => h) rfl hnm rfl rfl rfl d_M_init_49 (fun H locs hY => ?_)
  have hY : hm_Y D cls A s.heap (wMi G a (adU (adU (adU (adU (adU (adU (fun _ => 0) 2 q2) 3 q3) 4 q4) 5 q5) 6 q6) 7 q7) 8 ω) H locs := by rw [wMi_s (K := 7) (by decide) (by decide)] at hY; exact hY
  refine lv_aload_n X.1 X.2.1 d_M_init_52 rfl (lv_at hl 0 rfl) ?_
  refine lv_bipush (v := 21) X.1 X.2.1 d_M_init_53 (by decide) ?_
  refine hm_newa (atype := .int) ⟨X, hK.1⟩ hY (30, 8, 0) m_480 rfl (ct_cI hK) (N := 21) (a0 := (21, .inl (fun _ => 0))) rfl (by decide) (by decide) (by decide) (Nat.le_of_ble_eq_true rfl) (Nat.le_of_ble_eq_true rfl) d_M_init_55 (fun q8 H hY => ?_)
  have hY : hm_Y D cls A s.heap (hm_up (wMi G a (adU (adU (adU (adU (adU (adU (fun _ => 0) 2 q2) 3 q3) 4 q4) 5 q5) 6 q6) 7 q7) 8 ω) (30, 8, 0) (q8, arr0 G 8)) H locs := hY
  refine hm_putF ⟨X, hK.1⟩ hY ((hm_up_n _ _ (by decide)).trans (wMi_0 G a (adU (adU (adU (adU (adU (adU (fun _ => 0) 2 q2) 3 q3) 4 q4) 5 q5) 6 q6) 7 q7) 8 ω)) 8 rfl (Nat.le_of_ble_eq_true rfl) (Nat.le_of_ble_eq_true rfl) hu_M ty_M ty_M_ok nm_M m_497 (fun _ h => h) rfl hnm rfl rfl rfl d_M_init_57 (fun H locs hY => ?_)
  have hY : hm_Y D cls A s.heap (wMi G a (adU (adU (adU (adU (adU (adU (adU (fun _ => 0) 2 q2) 3 q3) 4 q4) 5 q5) 6 q6) 7 q7) 8 q8) 9 ω) H locs := by rw [wMi_s (K := 8) (by decide) (by decide)] at hY; exact hY
  refine lv_aload_n X.1 X.2.1 d_M_init_60 rfl (lv_at hl 0 rfl) ?_
  refine lv_bipush (v := 21) X.1 X.2.1 d_M_init_61 (by decide) ?_
  refine hm_newa (atype := .boolean) ⟨X, hK.1⟩ hY (30, 9, 0) m_583 rfl (ct_cZ hK) (N := 21) (a0 := (21, .inl (fun _ => 0))) rfl (by decide) (by decide) (by decide) (Nat.le_of_ble_eq_true rfl) (Nat.le_of_ble_eq_true rfl) d_M_init_63 (fun q9 H hY => ?_)
  have hY : hm_Y D cls A s.heap (hm_up (wMi G a (adU (adU (adU (adU (adU (adU (adU (fun _ => 0) 2 q2) 3 q3) 4 q4) 5 q5) 6 q6) 7 q7) 8 q8) 9 ω) (30, 9, 0) (q9, arr0 G 9)) H locs := hY
  refine hm_putF ⟨X, hK.1⟩ hY ((hm_up_n _ _ (by decide)).trans (wMi_0 G a (adU (adU (adU (adU (adU (adU (adU (fun _ => 0) 2 q2) 3 q3) 4 q4) 5 q5) 6 q6) 7 q7) 8 q8) 9 ω)) 9 rfl (Nat.le_of_ble_eq_true rfl) (Nat.le_of_ble_eq_true rfl) hu_M ty_M ty_M_ok nm_M m_498 (fun _ h => h) rfl hnm rfl rfl rfl d_M_init_65 (fun H locs hY => ?_)
  have hY : hm_Y D cls A s.heap (wMi G a (adU (adU (adU (adU (adU (adU (adU (adU (fun _ => 0) 2 q2) 3 q3) 4 q4) 5 q5) 6 q6) 7 q7) 8 q8) 9 q9) 10 ω) H locs := by rw [wMi_s (K := 9) (by decide) (by decide)] at hY; exact hY
  refine lv_aload_n X.1 X.2.1 d_M_init_68 rfl (lv_at hl 0 rfl) ?_
  refine lv_bipush (v := 21) X.1 X.2.1 d_M_init_69 (by decide) ?_
  refine hm_newa (atype := .int) ⟨X, hK.1⟩ hY (30, 10, 0) m_480 rfl (ct_cI hK) (N := 21) (a0 := (21, .inl (fun _ => 0))) rfl (by decide) (by decide) (by decide) (Nat.le_of_ble_eq_true rfl) (Nat.le_of_ble_eq_true rfl) d_M_init_71 (fun q10 H hY => ?_)
  have hY : hm_Y D cls A s.heap (hm_up (wMi G a (adU (adU (adU (adU (adU (adU (adU (adU (fun _ => 0) 2 q2) 3 q3) 4 q4) 5 q5) 6 q6) 7 q7) 8 q8) 9 q9) 10 ω) (30, 10, 0) (q10, arr0 G 10)) H locs := hY
  refine hm_putF ⟨X, hK.1⟩ hY ((hm_up_n _ _ (by decide)).trans (wMi_0 G a (adU (adU (adU (adU (adU (adU (adU (adU (fun _ => 0) 2 q2) 3 q3) 4 q4) 5 q5) 6 q6) 7 q7) 8 q8) 9 q9) 10 ω)) 10 rfl (Nat.le_of_ble_eq_true rfl) (Nat.le_of_ble_eq_true rfl) hu_M ty_M ty_M_ok nm_M m_499 (fun _ h => h) rfl hnm rfl rfl rfl d_M_init_73 (fun H locs hY => ?_)
  have hY : hm_Y D cls A s.heap (wMi G a (adU (adU (adU (adU (adU (adU (adU (adU (adU (fun _ => 0) 2 q2) 3 q3) 4 q4) 5 q5) 6 q6) 7 q7) 8 q8) 9 q9) 10 q10) 11 ω) H locs := by rw [wMi_s (K := 10) (by decide) (by decide)] at hY; exact hY
  refine lv_aload_n X.1 X.2.1 d_M_init_76 rfl (lv_at hl 0 rfl) ?_
  refine lv_ldc X.1 X.2.1 X.2.2.2.1 (X.2.2.2.2 _ m_487) d_M_init_77 ?_
  refine hm_newa (atype := .boolean) ⟨X, hK.1⟩ hY (30, 11, 0) m_583 rfl (ct_cZ hK) (N := 80724) (a0 := (80724, .inl (fun _ => 0))) rfl (by decide) (by decide) (by decide) (Nat.le_of_ble_eq_true rfl) (Nat.le_of_ble_eq_true rfl) d_M_init_79 (fun q11 H hY => ?_)
  have hY : hm_Y D cls A s.heap (hm_up (wMi G a (adU (adU (adU (adU (adU (adU (adU (adU (adU (fun _ => 0) 2 q2) 3 q3) 4 q4) 5 q5) 6 q6) 7 q7) 8 q8) 9 q9) 10 q10) 11 ω) (30, 11, 0) (q11, arr0 G 11)) H locs := hY
  refine hm_putF ⟨X, hK.1⟩ hY ((hm_up_n _ _ (by decide)).trans (wMi_0 G a (adU (adU (adU (adU (adU (adU (adU (adU (adU (fun _ => 0) 2 q2) 3 q3) 4 q4) 5 q5) 6 q6) 7 q7) 8 q8) 9 q9) 10 q10) 11 ω)) 11 rfl (Nat.le_of_ble_eq_true rfl) (Nat.le_of_ble_eq_true rfl) hu_M ty_M ty_M_ok nm_M m_500 (fun _ h => h) rfl hnm rfl rfl rfl d_M_init_81 (fun H locs hY => ?_)
  have hY : hm_Y D cls A s.heap (wMi G a (adU (adU (adU (adU (adU (adU (adU (adU (adU (adU (fun _ => 0) 2 q2) 3 q3) 4 q4) 5 q5) 6 q6) 7 q7) 8 q8) 9 q9) 10 q10) 11 q11) 12 ω) H locs := by rw [wMi_s (K := 11) (by decide) (by decide)] at hY; exact hY
  refine lv_aload_n X.1 X.2.1 d_M_init_84 rfl (lv_at hl 0 rfl) ?_
  refine lv_bipush (v := 21) X.1 X.2.1 d_M_init_85 (by decide) ?_
  refine hm_newa (atype := .int) ⟨X, hK.1⟩ hY (30, 12, 0) m_480 rfl (ct_cI hK) (N := 21) (a0 := (21, .inl (fun _ => 0))) rfl (by decide) (by decide) (by decide) (Nat.le_of_ble_eq_true rfl) (Nat.le_of_ble_eq_true rfl) d_M_init_87 (fun q12 H hY => ?_)
  have hY : hm_Y D cls A s.heap (hm_up (wMi G a (adU (adU (adU (adU (adU (adU (adU (adU (adU (adU (fun _ => 0) 2 q2) 3 q3) 4 q4) 5 q5) 6 q6) 7 q7) 8 q8) 9 q9) 10 q10) 11 q11) 12 ω) (30, 12, 0) (q12, arr0 G 12)) H locs := hY
  refine hm_putF ⟨X, hK.1⟩ hY ((hm_up_n _ _ (by decide)).trans (wMi_0 G a (adU (adU (adU (adU (adU (adU (adU (adU (adU (adU (fun _ => 0) 2 q2) 3 q3) 4 q4) 5 q5) 6 q6) 7 q7) 8 q8) 9 q9) 10 q10) 11 q11) 12 ω)) 12 rfl (Nat.le_of_ble_eq_true rfl) (Nat.le_of_ble_eq_true rfl) hu_M ty_M ty_M_ok nm_M m_501 (fun _ h => h) rfl hnm rfl rfl rfl d_M_init_89 (fun H locs hY => ?_)
  have hY : hm_Y D cls A s.heap (wMi G a (adU (adU (adU (adU (adU (adU (adU (adU (adU (adU (adU (fun _ => 0) 2 q2) 3 q3) 4 q4) 5 q5) 6 q6) 7 q7) 8 q8) 9 q9) 10 q10) 11 q11) 12 q12) 13 ω) H locs := by rw [wMi_s (K := 12) (by decide) (by decide)] at hY; exact hY
  refine lv_aload_n X.1 X.2.1 d_M_init_92 rfl (lv_at hl 0 rfl) ?_
  refine lv_sipush (v := 210) X.1 X.2.1 d_M_init_93 (by decide) ?_
  refine hm_newa (atype := .int) ⟨X, hK.1⟩ hY (30, 13, 0) m_480 rfl (ct_cI hK) (N := 210) (a0 := (210, .inl (fun _ => 0))) rfl (by decide) (by decide) (by decide) (Nat.le_of_ble_eq_true rfl) (Nat.le_of_ble_eq_true rfl) d_M_init_96 (fun q13 H hY => ?_)
  have hY : hm_Y D cls A s.heap (hm_up (wMi G a (adU (adU (adU (adU (adU (adU (adU (adU (adU (adU (adU (fun _ => 0) 2 q2) 3 q3) 4 q4) 5 q5) 6 q6) 7 q7) 8 q8) 9 q9) 10 q10) 11 q11) 12 q12) 13 ω) (30, 13, 0) (q13, arr0 G 13)) H locs := hY
  refine hm_putF ⟨X, hK.1⟩ hY ((hm_up_n _ _ (by decide)).trans (wMi_0 G a (adU (adU (adU (adU (adU (adU (adU (adU (adU (adU (adU (fun _ => 0) 2 q2) 3 q3) 4 q4) 5 q5) 6 q6) 7 q7) 8 q8) 9 q9) 10 q10) 11 q11) 12 q12) 13 ω)) 13 rfl (Nat.le_of_ble_eq_true rfl) (Nat.le_of_ble_eq_true rfl) hu_M ty_M ty_M_ok nm_M m_502 (fun _ h => h) rfl hnm rfl rfl rfl d_M_init_98 (fun H locs hY => ?_)
  have hY : hm_Y D cls A s.heap (wMi G a (adU (adU (adU (adU (adU (adU (adU (adU (adU (adU (adU (adU (fun _ => 0) 2 q2) 3 q3) 4 q4) 5 q5) 6 q6) 7 q7) 8 q8) 9 q9) 10 q10) 11 q11) 12 q12) 13 q13) 14 ω) H locs := by rw [wMi_s (K := 13) (by decide) (by decide)] at hY; exact hY
  refine lv_aload_n X.1 X.2.1 d_M_init_101 rfl (lv_at hl 0 rfl) ?_
  refine lv_sipush (v := 210) X.1 X.2.1 d_M_init_102 (by decide) ?_
  refine hm_newa (atype := .int) ⟨X, hK.1⟩ hY (30, 14, 0) m_480 rfl (ct_cI hK) (N := 210) (a0 := (210, .inl (fun _ => 0))) rfl (by decide) (by decide) (by decide) (Nat.le_of_ble_eq_true rfl) (Nat.le_of_ble_eq_true rfl) d_M_init_105 (fun q14 H hY => ?_)
  have hY : hm_Y D cls A s.heap (hm_up (wMi G a (adU (adU (adU (adU (adU (adU (adU (adU (adU (adU (adU (adU (fun _ => 0) 2 q2) 3 q3) 4 q4) 5 q5) 6 q6) 7 q7) 8 q8) 9 q9) 10 q10) 11 q11) 12 q12) 13 q13) 14 ω) (30, 14, 0) (q14, arr0 G 14)) H locs := hY
  refine hm_putF ⟨X, hK.1⟩ hY ((hm_up_n _ _ (by decide)).trans (wMi_0 G a (adU (adU (adU (adU (adU (adU (adU (adU (adU (adU (adU (adU (fun _ => 0) 2 q2) 3 q3) 4 q4) 5 q5) 6 q6) 7 q7) 8 q8) 9 q9) 10 q10) 11 q11) 12 q12) 13 q13) 14 ω)) 14 rfl (Nat.le_of_ble_eq_true rfl) (Nat.le_of_ble_eq_true rfl) hu_M ty_M ty_M_ok nm_M m_503 (fun _ h => h) rfl hnm rfl rfl rfl d_M_init_107 (fun H locs hY => ?_)
  have hY : hm_Y D cls A s.heap (wMi G a (adU (adU (adU (adU (adU (adU (adU (adU (adU (adU (adU (adU (adU (fun _ => 0) 2 q2) 3 q3) 4 q4) 5 q5) 6 q6) 7 q7) 8 q8) 9 q9) 10 q10) 11 q11) 12 q12) 13 q13) 14 q14) 15 ω) H locs := by rw [wMi_s (K := 14) (by decide) (by decide)] at hY; exact hY
  refine lv_aload_n X.1 X.2.1 d_M_init_110 rfl (lv_at hl 0 rfl) ?_
  refine lv_sipush (v := 210) X.1 X.2.1 d_M_init_111 (by decide) ?_
  refine hm_newa (atype := .int) ⟨X, hK.1⟩ hY (30, 15, 0) m_480 rfl (ct_cI hK) (N := 210) (a0 := (210, .inl (fun _ => 0))) rfl (by decide) (by decide) (by decide) (Nat.le_of_ble_eq_true rfl) (Nat.le_of_ble_eq_true rfl) d_M_init_114 (fun q15 H hY => ?_)
  have hY : hm_Y D cls A s.heap (hm_up (wMi G a (adU (adU (adU (adU (adU (adU (adU (adU (adU (adU (adU (adU (adU (fun _ => 0) 2 q2) 3 q3) 4 q4) 5 q5) 6 q6) 7 q7) 8 q8) 9 q9) 10 q10) 11 q11) 12 q12) 13 q13) 14 q14) 15 ω) (30, 15, 0) (q15, arr0 G 15)) H locs := hY
  refine hm_putF ⟨X, hK.1⟩ hY ((hm_up_n _ _ (by decide)).trans (wMi_0 G a (adU (adU (adU (adU (adU (adU (adU (adU (adU (adU (adU (adU (adU (fun _ => 0) 2 q2) 3 q3) 4 q4) 5 q5) 6 q6) 7 q7) 8 q8) 9 q9) 10 q10) 11 q11) 12 q12) 13 q13) 14 q14) 15 ω)) 15 rfl (Nat.le_of_ble_eq_true rfl) (Nat.le_of_ble_eq_true rfl) hu_M ty_M ty_M_ok nm_M m_504 (fun _ h => h) rfl hnm rfl rfl rfl d_M_init_116 (fun H locs hY => ?_)
  have hY : hm_Y D cls A s.heap (wMi G a (adU (adU (adU (adU (adU (adU (adU (adU (adU (adU (adU (adU (adU (adU (fun _ => 0) 2 q2) 3 q3) 4 q4) 5 q5) 6 q6) 7 q7) 8 q8) 9 q9) 10 q10) 11 q11) 12 q12) 13 q13) 14 q14) 15 q15) 16 ω) H locs := by rw [wMi_s (K := 15) (by decide) (by decide)] at hY; exact hY
  refine lv_aload_n X.1 X.2.1 d_M_init_119 rfl (lv_at hl 0 rfl) ?_
  refine lv_sipush (v := 210) X.1 X.2.1 d_M_init_120 (by decide) ?_
  refine hm_newa (atype := .long) ⟨X, hK.1⟩ hY (30, 16, 0) m_584 rfl (ct_cJ hK) (N := 210) (a0 := (210, .inr (.inl (fun _ => 0)))) rfl (by decide) (by decide) (by decide) (Nat.le_of_ble_eq_true rfl) (Nat.le_of_ble_eq_true rfl) d_M_init_123 (fun q16 H hY => ?_)
  have hY : hm_Y D cls A s.heap (hm_up (wMi G a (adU (adU (adU (adU (adU (adU (adU (adU (adU (adU (adU (adU (adU (adU (fun _ => 0) 2 q2) 3 q3) 4 q4) 5 q5) 6 q6) 7 q7) 8 q8) 9 q9) 10 q10) 11 q11) 12 q12) 13 q13) 14 q14) 15 q15) 16 ω) (30, 16, 0) (q16, arr0 G 16)) H locs := hY
  refine hm_putF ⟨X, hK.1⟩ hY ((hm_up_n _ _ (by decide)).trans (wMi_0 G a (adU (adU (adU (adU (adU (adU (adU (adU (adU (adU (adU (adU (adU (adU (fun _ => 0) 2 q2) 3 q3) 4 q4) 5 q5) 6 q6) 7 q7) 8 q8) 9 q9) 10 q10) 11 q11) 12 q12) 13 q13) 14 q14) 15 q15) 16 ω)) 16 rfl (Nat.le_of_ble_eq_true rfl) (Nat.le_of_ble_eq_true rfl) hu_M ty_M ty_M_ok nm_M m_505 (fun _ h => h) rfl hnm rfl rfl rfl d_M_init_125 (fun H locs hY => ?_)
  have hY : hm_Y D cls A s.heap (wMi G a (adU (adU (adU (adU (adU (adU (adU (adU (adU (adU (adU (adU (adU (adU (adU (fun _ => 0) 2 q2) 3 q3) 4 q4) 5 q5) 6 q6) 7 q7) 8 q8) 9 q9) 10 q10) 11 q11) 12 q12) 13 q13) 14 q14) 15 q15) 16 q16) 17 ω) H locs := by rw [wMi_s (K := 16) (by decide) (by decide)] at hY; exact hY
  refine lv_aload_n X.1 X.2.1 d_M_init_128 rfl (lv_at hl 0 rfl) ?_
  refine lv_sipush (v := 210) X.1 X.2.1 d_M_init_129 (by decide) ?_
  refine hm_newa (atype := .long) ⟨X, hK.1⟩ hY (30, 17, 0) m_584 rfl (ct_cJ hK) (N := 210) (a0 := (210, .inr (.inl (fun _ => 0)))) rfl (by decide) (by decide) (by decide) (Nat.le_of_ble_eq_true rfl) (Nat.le_of_ble_eq_true rfl) d_M_init_132 (fun q17 H hY => ?_)
  have hY : hm_Y D cls A s.heap (hm_up (wMi G a (adU (adU (adU (adU (adU (adU (adU (adU (adU (adU (adU (adU (adU (adU (adU (fun _ => 0) 2 q2) 3 q3) 4 q4) 5 q5) 6 q6) 7 q7) 8 q8) 9 q9) 10 q10) 11 q11) 12 q12) 13 q13) 14 q14) 15 q15) 16 q16) 17 ω) (30, 17, 0) (q17, arr0 G 17)) H locs := hY
  refine hm_putF ⟨X, hK.1⟩ hY ((hm_up_n _ _ (by decide)).trans (wMi_0 G a (adU (adU (adU (adU (adU (adU (adU (adU (adU (adU (adU (adU (adU (adU (adU (fun _ => 0) 2 q2) 3 q3) 4 q4) 5 q5) 6 q6) 7 q7) 8 q8) 9 q9) 10 q10) 11 q11) 12 q12) 13 q13) 14 q14) 15 q15) 16 q16) 17 ω)) 17 rfl (Nat.le_of_ble_eq_true rfl) (Nat.le_of_ble_eq_true rfl) hu_M ty_M ty_M_ok nm_M m_506 (fun _ h => h) rfl hnm rfl rfl rfl d_M_init_134 (fun H locs hY => ?_)
  have hY : hm_Y D cls A s.heap (wMi G a (adU (adU (adU (adU (adU (adU (adU (adU (adU (adU (adU (adU (adU (adU (adU (adU (fun _ => 0) 2 q2) 3 q3) 4 q4) 5 q5) 6 q6) 7 q7) 8 q8) 9 q9) 10 q10) 11 q11) 12 q12) 13 q13) 14 q14) 15 q15) 16 q16) 17 q17) 18 ω) H locs := by rw [wMi_s (K := 17) (by decide) (by decide)] at hY; exact hY
  refine lv_aload_n X.1 X.2.1 d_M_init_137 rfl (lv_at hl 0 rfl) ?_
  refine lv_sipush (v := 210) X.1 X.2.1 d_M_init_138 (by decide) ?_
  refine hm_newa (atype := .long) ⟨X, hK.1⟩ hY (30, 18, 0) m_584 rfl (ct_cJ hK) (N := 210) (a0 := (210, .inr (.inl (fun _ => 0)))) rfl (by decide) (by decide) (by decide) (Nat.le_of_ble_eq_true rfl) (Nat.le_of_ble_eq_true rfl) d_M_init_141 (fun q18 H hY => ?_)
  have hY : hm_Y D cls A s.heap (hm_up (wMi G a (adU (adU (adU (adU (adU (adU (adU (adU (adU (adU (adU (adU (adU (adU (adU (adU (fun _ => 0) 2 q2) 3 q3) 4 q4) 5 q5) 6 q6) 7 q7) 8 q8) 9 q9) 10 q10) 11 q11) 12 q12) 13 q13) 14 q14) 15 q15) 16 q16) 17 q17) 18 ω) (30, 18, 0) (q18, arr0 G 18)) H locs := hY
  refine hm_putF ⟨X, hK.1⟩ hY ((hm_up_n _ _ (by decide)).trans (wMi_0 G a (adU (adU (adU (adU (adU (adU (adU (adU (adU (adU (adU (adU (adU (adU (adU (adU (fun _ => 0) 2 q2) 3 q3) 4 q4) 5 q5) 6 q6) 7 q7) 8 q8) 9 q9) 10 q10) 11 q11) 12 q12) 13 q13) 14 q14) 15 q15) 16 q16) 17 q17) 18 ω)) 18 rfl (Nat.le_of_ble_eq_true rfl) (Nat.le_of_ble_eq_true rfl) hu_M ty_M ty_M_ok nm_M m_507 (fun _ h => h) rfl hnm rfl rfl rfl d_M_init_143 (fun H locs hY => ?_)
  have hY : hm_Y D cls A s.heap (wMi G a (adU (adU (adU (adU (adU (adU (adU (adU (adU (adU (adU (adU (adU (adU (adU (adU (adU (fun _ => 0) 2 q2) 3 q3) 4 q4) 5 q5) 6 q6) 7 q7) 8 q8) 9 q9) 10 q10) 11 q11) 12 q12) 13 q13) 14 q14) 15 q15) 16 q16) 17 q17) 18 q18) 19 ω) H locs := by rw [wMi_s (K := 18) (by decide) (by decide)] at hY; exact hY
  obtain ⟨M0, hM0⟩ : ∃ z, z = Mst a (adU (adU (adU (adU (adU (adU (adU (adU (adU (adU (adU (adU (adU (adU (adU (adU (adU (fun _ => 0) 2 q2) 3 q3) 4 q4) 5 q5) 6 q6) 7 q7) 8 q8) 9 q9) 10 q10) 11 q11) 12 q12) 13 q13) 14 q14) 15 q15) 16 q16) 17 q17) 18 q18) := ⟨_, rfl⟩
  have hY : hm_Y D cls A s.heap (wM G M0 ω) H locs := by rw [hM0, ← wMi_e]; exact hY
  have hl : lv_has ls 2 [(0, .ref (M0.ad 0))] := by rw [hM0]; exact hl
  refine lv_iconst (v := 0) X.1 X.2.1 d_M_init_146 (by decide) ?_
  refine lv_istore_n (lv' := [(1, .int 0), (0, .ref (M0.ad 0))]) X.1 X.2.1 d_M_init_147 rfl hl (by decide) rfl (fun ls hl => ?_)
  have hl : lv_has ls 2 [(1, .int (nI 0)), (0, .ref (M0.ad 0))] := hl
  have loop : ∀ (k j : Nat) (T : mS) (ls : Array Slot) (H : Heap) (locs : List Loc), j ≤ 210 → 210 < j + k → T = biL M0 j → T.I 1 = M0.I 1 → T.I 4 = M0.I 4 → T.I 12 = M0.I 12 → hm_Y D cls A s.heap (wM G T ω) H locs → lv_has ls 2 [(1, .int (nI j)), (0, .ref (T.ad 0))] → W p l e { frames := 1, cells := 17, slots := 82194, locals := 20 } s m (([.ref a] : List Value).toArray) below meth c H locs 17 82194 (MQ below (hm_Q D cls A (fun v w1 => v = none ∧ ∃ ad, w1 = wM G (biL (Mst a ad) 210) ω)) (([.ref a] : List Value).toArray) s 17 82194 A) (F0 m 148 ls []) := by
    intro k
    induction k with
    | zero => intro j T ls H locs hle hlt; omega
    | succ k ih =>
      intro j T ls H locs hle hlt hT h1 h4 h12 hY hl
      refine lv_iload_n X.1 X.2.1 d_M_init_148 rfl (lv_at hl 0 rfl) ?_
      refine lv_sipush (v := 210) X.1 X.2.1 d_M_init_149 (by decide) ?_
      refine lv_icmp_ge (tgt := 170) X.1 X.2.1 d_M_init_152 (by decide) (fun c0 => ?_) (fun c0 => ?_)
      · have hj : j = 210 := by rcases Nat.lt_or_ge j 210 with q | q; exact absurd c0 (nI_ge (b := 210) q (by omega)); omega
        exact en_vW X hY hr hlocks d_M_init_170 (⟨rfl, (adU (adU (adU (adU (adU (adU (adU (adU (adU (adU (adU (adU (adU (adU (adU (adU (adU (fun _ => 0) 2 q2) 3 q3) 4 q4) 5 q5) 6 q6) 7 q7) 8 q8) 9 q9) 10 q10) 11 q11) 12 q12) 13 q13) 14 q14) 15 q15) 16 q16) 17 q17) 18 q18), by rw [hT, hj, hM0]⟩)
      · have hj : j < 210 := by rcases Nat.lt_or_ge j 210 with q | q; exact q; exact absurd (nI_le (a := 210) q (by omega)) c0
        refine lv_aload_n X.1 X.2.1 d_M_init_155 rfl (lv_at hl 1 rfl) ?_
        refine hm_get ⟨X, hK.1⟩ hY v_0 18 (v := .ref (T.ad 18)) rfl rfl (Nat.le_of_ble_eq_true rfl) hu_M m_507 (fun _ h => h) d_M_init_156 ?_
        refine lv_iload_n X.1 X.2.1 d_M_init_159 rfl (lv_at hl 0 rfl) ?_
        refine lv_ldc2 X.1 X.2.1 X.2.2.2.1 (X.2.2.2.2 _ m_488) d_M_init_160 ?_
        refine ml_ast ⟨X, hK.1⟩ hY v_18 2 rfl (x := j) rfl (by omega) (by decide) d_M_init_163 (fun H locs hY => ?_)
        have hY : hm_Y D cls A s.heap (wM G (T.sJ 18 j (-1)) ω) H locs := by rw [← fa_18 (M := T) (j := j) (v := (-1))]; exact hY
        refine lv_iinc (v := nI (j + 1)) (lv' := [(1, .int (nI (j + 1))), (0, .ref (T.ad 0))]) X.1 X.2.1 d_M_init_164 hl (k := 0) rfl (nI_1 j) (by decide) rfl (fun ls hl => ?_)
        refine lv_goto (tgt := 148) X.1 X.2.1 d_M_init_167 (by decide) ?_
        exact ih (j + 1) (T.sJ 18 j (-1)) _ _ _ (by omega) (by omega) (by rw [show biL M0 (j + 1) = biL1 (biL M0 j) j from rfl, ← hT, biL1]) h1 h4 h12 hY (lv_sub hl [0, 1] rfl)
  exact loop (210 + 1) 0 M0 ls _ _ (Nat.zero_le _) (by omega) rfl rfl rfl rfl hY (lv_sub hl [0, 1] rfl)
