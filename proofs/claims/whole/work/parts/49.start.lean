/-! THE START: the words, the first states, the context -/
theorem lwM_1 {w : Cond} (i : Nat) (h : tables_1_1[i]? = some w) : w ∈ lw_tbl := List.mem_append_right _ (List.mem_append_left _ (List.mem_of_getElem? h))
theorem lwM_2 {w : Cond} (i : Nat) (h : tables_1_2[i]? = some w) : w ∈ lw_tbl := List.mem_append_right _ (List.mem_append_right _ (List.mem_append_left _ (List.mem_of_getElem? h)))
theorem lwM_3 {w : Cond} (i : Nat) (h : tables_1_3[i]? = some w) : w ∈ lw_tbl := List.mem_append_right _ (List.mem_append_right _ (List.mem_append_right _ (List.mem_of_getElem? h)))
theorem biL_I (M : mS) : ∀ j, (biL M j).I = M.I
  | 0 => rfl
  | j + 1 => biL_I M j
theorem biL_ad (M : mS) : ∀ j, (biL M j).ad = M.ad
  | 0 => rfl
  | j + 1 => biL_ad M j
theorem biL_J (M : mS) {k x : Nat} (h : k ≠ 18) : ∀ j, (biL M j).J k x = M.J k x
  | 0 => rfl
  | j + 1 => (up2_k _ _ h).trans (biL_J M h j)
/-- the class's first state -/
def S0 (a al aq : Nat) : cS := (fun k _ _ => if k = 0 then a else if k = 1 then al else aq, fun _ _ _ => 0, fun _ _ _ => 0, fun _ _ => 0)
theorem RR_st (a al aq am : Nat) (ad : Nat → Nat) : RR 0 (S0 a al aq) (biL (Mst am ad) 210) := by
  have hI := biL_I (Mst am ad) 210
  have hJ : ∀ k x, k ≠ 18 → (biL (Mst am ad) 210).J k x = (Mst am ad).J k x := fun k x h => biL_J _ h 210
  generalize biL (Mst am ad) 210 = M at hI hJ ⊢
  refine ⟨?_, fun i hi => absurd hi (Nat.not_lt_zero _), fun i _ _ => ?_⟩
  · unfold SR
    rw [hI, hJ 21 0 (by decide), hJ 29 0 (by decide), hJ 30 0 (by decide)]
    exact ⟨nI_0.symm, Nat.zero_le _, rfl, rfl, rfl, rfl, rfl, rfl, rfl, rfl, rfl, rfl, rfl, rfl, show (0 : Int32) ≤ 0 by decide, show (0 : Int32) ≤ 3 by decide, show (0 : Int64) ≤ 0 by decide, show (0 : Int32) ≤ 0 by decide, show (0 : Int32) ≤ 7 by decide⟩
  · rw [hI]
    exact ⟨⟨rfl, rfl, rfl, rfl, rfl, rfl, rfl⟩, fun _ _ _ _ => rfl⟩
theorem wS_st (G : Nat → Nat) (a al aq : Nat) (v : Nat × va_E) : hm_up (hm_up (hm_up (hm_up (fun _ => none) (0, 0, 0) v) (1, 0, 0) (al, .inr (4, [.ref (G 0), .int 0, .int 0]))) (3, 0, 0) (aq, .inr (3, [.int 0, .int 0, .int 0, .long 0]))) (0, 0, 0) (a, .inr (0, [.ref al, .ref aq, .int 0, .int 0, .long 0, .long 0, .int 0, .int 0, .int 0, .int 0])) = wS G (S0 a al aq) (fun _ => none) := by
  funext n
  by_cases h0 : n = (0, 0, 0)
  · subst h0
    rw [hm_up_s, w0]
    rfl
  by_cases h3 : n = (3, 0, 0)
  · subst h3
    rw [hm_up_n _ _ h0, hm_up_s, w3]
    rfl
  by_cases h1 : n = (1, 0, 0)
  · subst h1
    rw [hm_up_n _ _ h0, hm_up_n _ _ h3, hm_up_s, w1]
    rfl
  rw [hm_up_n _ _ h0, hm_up_n _ _ h3, hm_up_n _ _ h1, hm_up_n _ _ h0]
  have hd : ¬ domS (S0 a al aq).C n := by
    rintro (⟨g1, g2⟩ | ⟨g1, -⟩)
    · obtain ⟨x, y⟩ := n
      have g1 : y = (0, 0) := g1
      subst g1
      rcases g2 with g | g | g | ⟨-, g⟩
      · exact h0 (by rw [show x = 0 from g])
      · exact h1 (by rw [show x = 1 from g])
      · exact h3 (by rw [show x = 3 from g])
      · exact g rfl
    · exact absurd g1 (Nat.not_lt_zero _)
  rw [wS_out hd]
  split <;> rfl
theorem wMi_st (G : Nat → Nat) (S : cS) (am : Nat) : hm_up (wS G S (fun _ => none)) (30, 0, 0) (am, .inr (5, fMi (fun _ => 0) 2)) = wMi G am (fun _ => 0) 2 (wS G S (fun _ => none)) := by
  funext n
  obtain ⟨x, y, z⟩ := n
  by_cases hx : x = 30
  · subst hx
    by_cases h : y = 0 ∧ z = 0
    · obtain ⟨rfl, rfl⟩ := h
      rw [hm_up_s]
      rfl
    · rw [hm_up_n _ _ (fun q => by cases q; exact h ⟨rfl, rfl⟩), wS_big (show 9 ≤ 30 by decide)]
      unfold wMi
      have h2 : ¬ (2 ≤ y ∧ y < 2) := by omega
      by_cases hz : z = 0
      · have hy : ¬ y = 0 := fun q => h ⟨q, hz⟩
        simp only [hz, hy, h2, if_true, if_false]
      · simp only [hz, if_true, if_false]
  · rw [hm_up_n _ _ (fun q => by cases q; exact hx rfl)]
    unfold wMi
    simp only [hx, if_false]
theorem wL_st (G : Nat → Nat) (S : cS) (M : mS) (ao : Nat) (f : Nat → Int64) : hm_up (wM G M (wS G S (fun _ => none))) (31, 0, 0) (ao, .inl (G 3, 1, .inr (.inl f))) = wS G S (wM G M (ωo G ao f)) := by
  rw [← wSM]
  funext n
  by_cases h : n = (31, 0, 0)
  · subst h
    rw [hm_up_s, wS_big (by decide)]
    rfl
  · rw [hm_up_n _ _ h]
    unfold wS wM ωo
    simp only [h, if_false]
theorem hm_Y.none {D : va_G} {A : Nat → Prop} {s : State} (hA : ∀ q : Nat, s.heap.size ≤ q → A q) : hm_Y D cls A s.heap (fun _ => none) s.heap [] := by
  refine hm_Y.start ⟨?_, ?_, ?_⟩ hA
  · intro n q h
    cases h
  · intro n k q r h
    cases h
  · intro n q h
    cases h
set_option maxHeartbeats 4000000 in
theorem st_ctx {s : State} {args : Array Value} (hts : ∀ w ∈ lw_tbl, w.before args s = true) (hgv : (Jvm.Cond.and given_1 narrow_1).before args s = true) {A : Nat → Prop} (hA : ∀ a : Nat, a < s.heap.size → ¬ A a) (hA2 : ∀ q : Nat, s.heap.size ≤ q → A q) : ∃ (D : va_G) (G : Nat → Nat), ctK D A G s ∧ thX A s := by
  have hw : ∀ w ∈ wsA, w.before args s = true := fun w h => hts w (wsA_in w h)
  have hs := flat_of_before _ hgv
  obtain ⟨c0, i0, k0⟩ := u_known (C := R_W) (T := T_W) (N := 10) (n := 10) hw hu_W (hw _ m_20)
  obtain ⟨c1, i1, k1⟩ := u_known (C := R_P) (T := T_P) (N := 11) (n := 11) hw hu_P (hw _ m_261)
  obtain ⟨c2, i2, k2⟩ := u_known (C := R_D) (T := T_D) (N := 7) (n := 7) hw hu_D (hw _ m_157)
  obtain ⟨c3, i3, k3⟩ := u_known (C := R_Q) (T := T_Q) (N := 4) (n := 4) hw hu_Q (hw _ m_54)
  obtain ⟨c4, i4, k4⟩ := u_known (C := R_A) (T := T_A) (N := 3) (n := 3) hw hu_A (hw _ m_28)
  obtain ⟨c5, i5, k5⟩ := u_known (C := R_M) (T := T_M) (N := 31) (n := 31) hw hu_M (hw _ m_482)
  obtain ⟨cI, kI, coI, eI1, eI2, eI3⟩ := Cond.arrayClass_spec (hw _ m_480)
  obtain ⟨cZ, kZ, coZ, eZ1, eZ2, eZ3⟩ := Cond.arrayClass_spec (hw _ m_583)
  obtain ⟨cJ, kJ, coJ, eJ1, eJ2, eJ3⟩ := Cond.arrayClass_spec (hw _ m_584)
  have hO : (Cond.arrayOver (.object R_O)).before args s = true := hts _ (lwM_1 235 rfl)
  obtain ⟨coO, cO, kO, eO0, eO1, eO2, eO3, eO4⟩ := Cond.arrayOver_spec hO
  have hlen : (Term.length (.static R_A "DEFAULTCAPACITY_EMPTY_ELEMENTDATA" "[Ljava/lang/Object;")).eval args s none [] s = some (.int (Int32.ofNat 0)) := va_eqt (hs (.eq (.length (.static "java/util/ArrayList" "DEFAULTCAPACITY_EMPTY_ELEMENTDATA" "[Ljava/lang/Object;")) (.int 0)) (by decide +kernel))
  obtain ⟨t, ht, hT⟩ := va_Tof (tm := .static R_A "DEFAULTCAPACITY_EMPTY_ELEMENTDATA" "[Ljava/lang/Object;") (ty := .object R_O) (N := 0) (f := fun _ => .null) (A := A) (by omega) (hs (.arrayOf (.static "java/util/ArrayList" "DEFAULTCAPACITY_EMPTY_ELEMENTDATA" "[Ljava/lang/Object;") (.object "java/lang/Object")) (by decide +kernel)) hlen (fun j hj => absurd hj (Nat.not_lt_zero _)) hA
  have hZ : va_Z R_A "DEFAULTCAPACITY_EMPTY_ELEMENTDATA" "[Ljava/lang/Object;" (.ref t) A s s.heap := va_Zref (hts (.laysStatic "java/util/ArrayList" "DEFAULTCAPACITY_EMPTY_ELEMENTDATA" "[Ljava/lang/Object;") (lwM_1 40 rfl)) (hw _ m_4) ht hA
  obtain ⟨mi, hmi⟩ := va_Mi.of (hs (.isRef (.mirror "[Ljava/lang/Object;")) (by decide +kernel))
  have hstr : (Cond.stringRef R_W 63 "a span of 0 has no rate").before args s = true := hts _ (lwM_2 170 rfl)
  obtain ⟨z1, z2, z3, q, -, -, -, -, -, hq⟩ := Cond.stringRef_spec (args := args) (first := s) (o := none) (idx := []) (s := s) k0.2.1 hstr
  refine ⟨(fun k => if k = 0 then c0 else if k = 1 then c1 else if k = 2 then c2 else if k = 3 then c3 else if k = 4 then c4 else c5, fun k => if k = 0 then i0 else if k = 1 then i1 else if k = 2 then i2 else if k = 3 then i3 else if k = 4 then i4 else i5),
    fun n => if n = 0 then t else if n = 1 then cI else if n = 2 then cZ else if n = 3 then cJ else if n = 4 then cO else mi, ⟨⟨?_, ?_⟩, ?_, ⟨hZ, hT⟩, hA2⟩, ⟨?_, ?_, ?_⟩⟩
  · intro k q hq
    match k, hq with
    | 0, hq => cases hq; exact k0
    | 1, hq => cases hq; exact k1
    | 2, hq => cases hq; exact k2
    | 3, hq => cases hq; exact k3
    | 4, hq => cases hq; exact k4
    | 5, hq => cases hq; exact k5
    | k + 6, hq => simp [cls] at hq
  · intro k q hq
    match k, hq with
    | 0, hq => cases hq; exact ⟨fun n z => ⟨fun k h => (by cases h), kI, eI2, coI, eI3⟩, eI1⟩
    | 1, hq => cases hq; exact ⟨fun n z => ⟨fun k h => (by cases h), kZ, eZ2, coZ, eZ3⟩, eZ1⟩
    | 2, hq => cases hq; exact ⟨fun n z => ⟨fun k h => (by cases h), kJ, eJ2, coJ, eJ3⟩, eJ1⟩
    | 3, hq => cases hq; exact ⟨fun n z => ⟨fun k h => (by cases h), kO, eO2, coO, eO3⟩, kO, coO, eO2, eO3, eO0, eO4⟩
    | k + 4, hq => simp [gT] at hq
  · exact ⟨va_Nw.of rfl (hts _ (lwM_1 150 rfl)), va_Nw.of rfl (hts _ (lwM_2 95 rfl)), va_Nw.of rfl (hts _ (lwM_3 184 rfl)), va_Nw.of rfl (hts _ (lwM_3 185 rfl)), va_Nw.of rfl (hts _ (lwM_3 192 rfl)), va_Nw.of rfl (hts _ (lwM_3 193 rfl)), va_AO.of hO, hmi, va_Dc.of (hts _ (lwM_3 188 rfl))⟩
  · exact ⟨va_Nw.of rfl (hts _ (lwM_2 133 rfl)), va_Nw.of rfl (hts _ (lwM_2 135 rfl)), va_Nw.of rfl (hts _ (lwM_2 137 rfl)), va_Nw.of rfl (hts _ (lwM_2 139 rfl)), q, vk_R.of hstr hq⟩
  · exact thZ.of (hts _ (lwM_2 158 rfl)) (hs (.isRef (.static "java/lang/Throwable" "UNASSIGNED_STACK" "[Ljava/lang/StackTraceElement;")) (by decide +kernel)) hA
  · exact thZ.of (hts _ (lwM_2 160 rfl)) (hs (.isRef (.static "java/lang/Throwable" "SUPPRESSED_SENTINEL" "Ljava/util/List;")) (by decide +kernel)) hA
