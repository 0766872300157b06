section PU8
variable {B : Int} {S : cS} {M : mS} {i : Nat}
/-- a right answer -/
theorem r_right (h : RR B S M) (st : Int32) (hst0 : 0 ≤ st) (hst3 : st ≤ 3) (he : st = M.I 27 0) (t : Int64) :
    RR B (tR S st t) (if 4 ≤ M.I 27 0 + 1 then (if M.I 28 0 ≤ 0 then ((((M.sI 27 0 (M.I 27 0 + 1)).sI 27 0 0).sJ 29 0 t).sI 28 0 0).sI 26 0 (nq (M.I 26 0)) else ((((M.sI 27 0 (M.I 27 0 + 1)).sI 27 0 0).sJ 29 0 t).sI 28 0 (M.I 28 0 - 1)).sI 26 0 (nq (M.I 26 0))) else M.sI 27 0 (M.I 27 0 + 1)) := by
  obtain ⟨b1, b2, b3, b4, b5, b6, b7, b8, b9, b10, b11, b12, b13, b14, b15, b16, b17, b18, b19⟩ := h.1
  obtain ⟨a, ha, e0⟩ := nI_of2 (x := st) (M := 3) (n := 3) rfl (le_nltI.mp hst0) hst3
  obtain ⟨e, he9, e9⟩ := nI_of2 (x := S.I 9 0 0) (M := 7) (n := 7) rfl (le_nltI.mp b18) b19
  unfold tR
  rw [← he, b10, b12]
  by_cases h3 : a = 3
  · have c1 : st = 3 := by rw [e0, h3]; rfl
    have c2 : (4 : Int32) ≤ st + 1 := by rw [c1]; decide
    rw [if_pos c1, if_pos c2]
    by_cases hz : e = 0
    · have d1 : S.I 9 0 0 ≤ 0 := by rw [e9, hz]; decide
      have d2 : S.I 9 0 0 - 1 < 0 := by rw [e9, hz]; decide
      rw [if_pos d1, if_pos d2]
      refine RR_sc h ((((scS.rf.sI _ (by decide)).sJ _ (by decide)).sI _ (by decide)).sI _ (by decide)) (((((scM.rf.sI _ (by omega)).sI _ (by omega)).sJ _ (by omega)).sI _ (by omega)).sI _ (by omega)) ?_ rfl
      unfold SR
      simp [I_sI, J_sI, C_sI, J_sJ, I_sJ, C_sJ, mI_sI, mJ_sI, mJ_sJ, mI_sJ]
      repeat' (first | exact b1 | exact b2 | exact b3 | exact b4 | exact b5 | exact b6 | exact b7 | exact b8 | exact b9 | exact b14 | exact b15 | exact b16 | exact b17 | refine And.intro ?_ ?_)
    · have d1 : ¬ S.I 9 0 0 ≤ 0 := by rw [e9]; exact nI_nle (by omega) (by omega)
      have es : S.I 9 0 0 - 1 = nI (e - 1) := by
        rw [e9, show e = (e - 1) + 1 by omega, nI_pred]
        rfl
      have d2 : ¬ S.I 9 0 0 - 1 < 0 := by rw [es]; exact nI_pos (by omega)
      rw [if_neg d1, if_neg d2]
      have d3 : 0 ≤ S.I 9 0 0 - 1 := by rw [es]; exact nI_pos' (by omega)
      have d4 : S.I 9 0 0 - 1 ≤ 7 := by rw [es, show (7 : Int32) = nI 7 from rfl]; exact nI_le (by omega) (by omega)
      refine RR_sc h ((((scS.rf.sI _ (by decide)).sJ _ (by decide)).sI _ (by decide)).sI _ (by decide)) (((((scM.rf.sI _ (by omega)).sI _ (by omega)).sJ _ (by omega)).sI _ (by omega)).sI _ (by omega)) ?_ rfl
      unfold SR
      simp only [I_sI, J_sI, C_sI, J_sJ, I_sJ, C_sJ, mI_sI, mJ_sI, mJ_sJ, mI_sJ]
      simp
      repeat' (first | exact b1 | exact b2 | exact b3 | exact b4 | exact b5 | exact b6 | exact b7 | exact b8 | exact b9 | exact b14 | exact b15 | exact b16 | exact b17 | exact d3 | exact d4 | refine And.intro ?_ ?_)
  · have c1 : ¬ st = 3 := by rw [e0, show (3 : Int32) = nI 3 from rfl, nI_eq (by omega) (by omega)]; exact h3
    have c2 : ¬ (4 : Int32) ≤ st + 1 := by rw [e0, nI_1, show (4 : Int32) = nI 4 from rfl]; exact nI_ge (by omega) (by omega)
    rw [if_neg c1, if_neg c2]
    refine RR_sc h (scS.rf.sI _ (by decide)) (scM.rf.sI _ (by omega)) ?_ rfl
    unfold SR
    simp [I_sI, J_sI, C_sI, mI_sI, mJ_sI]
    repeat' (first | exact b1 | exact b2 | exact b3 | exact b4 | exact b5 | exact b6 | exact b7 | exact b8 | exact b9 | exact b10 | exact b12 | exact b13 | exact b14 | exact b15 | exact b16 | exact b17 | exact b18 | exact b19 | refine And.intro ?_ ?_)
theorem r_answer (h : RR B S M) (hB : 0 ≤ B) (st : Int32) (v t : Int64) : (an S st v t).1 = (mans M st v t (S.C 0 0)).1 ∧ RR B (an S st v t).2 (mans M st v t (S.C 0 0)).2 := by
  have h0 := RR_0 h 0
  have hT := r_isT h t
  unfold an mans
  by_cases hs : 0 ≤ st ∧ st ≤ 3
  · rw [if_pos (h3.mpr hs), if_neg (le_nltI.mp hs.1), if_neg (le_nltI.mp hs.2)]
    by_cases ht : isT S t
    · rw [if_pos ht, if_pos (hT.mp ht)]
      have h1 := r_now h (r_tpos h ht)
      have b10 := h.1.2.2.2.2.2.2.2.2.2.1
      have b11 := h.1.2.2.2.2.2.2.2.2.2.2.1
      have b13 := h.1.2.2.2.2.2.2.2.2.2.2.2.2.1
      have W := r_wrong h1 hB t
      have wrong : ∀ x : Int32 × mS, x = (if M.I 28 0 + 1 = 8 then ((0 : Int32), r0 (((((M.sI 0 0 0).sJ 21 0 t).sI 28 0 (M.I 28 0 + 1)).sI 27 0 0).sJ 29 0 t) 2 (S.C 0 0)) else (0, (((((M.sI 0 0 0).sJ 21 0 t).sI 28 0 (M.I 28 0 + 1)).sI 27 0 0).sJ 29 0 t))) → ¬ rt (S.sJ 0 0 0 t) st v t →
          (if rt (S.sJ 0 0 0 t) st v t then ((1 : Int32), tR (S.sJ 0 0 0 t) st t) else (if S.I 9 0 0 + 1 < 8 then (0, (((S.sJ 0 0 0 t).sI 9 0 0 (S.I 9 0 0 + 1)).sI 8 0 0 0).sJ 2 0 0 t) else (0, rS ((((S.sJ 0 0 0 t).sI 9 0 0 (S.I 9 0 0 + 1)).sI 8 0 0 0).sJ 2 0 0 t) 2))).1 = x.1 ∧ RR B (if rt (S.sJ 0 0 0 t) st v t then ((1 : Int32), tR (S.sJ 0 0 0 t) st t) else (if S.I 9 0 0 + 1 < 8 then (0, (((S.sJ 0 0 0 t).sI 9 0 0 (S.I 9 0 0 + 1)).sI 8 0 0 0).sJ 2 0 0 t) else (0, rS ((((S.sJ 0 0 0 t).sI 9 0 0 (S.I 9 0 0 + 1)).sI 8 0 0 0).sJ 2 0 0 t) 2))).2 x.2 := by
        intro x hx hr
        rw [if_neg hr]
        subst hx
        have p1 : ∀ (c : Prop) [Decidable c] (X Y : cS), (if c then ((0 : Int32), X) else (0, Y)) = (0, if c then X else Y) := fun c _ X Y => by split <;> rfl
        have p2 : ∀ (c : Prop) [Decidable c] (X Y : mS), (if c then ((0 : Int32), X) else (0, Y)) = (0, if c then X else Y) := fun c _ X Y => by split <;> rfl
        rw [p1, p2]
        exact ⟨rfl, W⟩
      by_cases c1 : st = M.I 27 0
      · rw [if_pos c1]
        by_cases c2 : v = (rvI (M.I 26 0) st).toInt64
        · rw [if_pos c2]
          have R := r_right h1 st hs.1 hs.2 c1 t
          have right : ∀ x : Int32 × mS, x = (if 4 ≤ M.I 27 0 + 1 then (if M.I 28 0 ≤ 0 then ((1 : Int32), ((((((M.sI 0 0 0).sJ 21 0 t).sI 27 0 (M.I 27 0 + 1)).sI 27 0 0).sJ 29 0 t).sI 28 0 0).sI 26 0 (nq (M.I 26 0))) else (1, ((((((M.sI 0 0 0).sJ 21 0 t).sI 27 0 (M.I 27 0 + 1)).sI 27 0 0).sJ 29 0 t).sI 28 0 (M.I 28 0 - 1)).sI 26 0 (nq (M.I 26 0)))) else (1, (((M.sI 0 0 0).sJ 21 0 t).sI 27 0 (M.I 27 0 + 1)))) → rt (S.sJ 0 0 0 t) st v t →
              (if rt (S.sJ 0 0 0 t) st v t then ((1 : Int32), tR (S.sJ 0 0 0 t) st t) else (if S.I 9 0 0 + 1 < 8 then (0, (((S.sJ 0 0 0 t).sI 9 0 0 (S.I 9 0 0 + 1)).sI 8 0 0 0).sJ 2 0 0 t) else (0, rS ((((S.sJ 0 0 0 t).sI 9 0 0 (S.I 9 0 0 + 1)).sI 8 0 0 0).sJ 2 0 0 t) 2))).1 = x.1 ∧ RR B (if rt (S.sJ 0 0 0 t) st v t then ((1 : Int32), tR (S.sJ 0 0 0 t) st t) else (if S.I 9 0 0 + 1 < 8 then (0, (((S.sJ 0 0 0 t).sI 9 0 0 (S.I 9 0 0 + 1)).sI 8 0 0 0).sJ 2 0 0 t) else (0, rS ((((S.sJ 0 0 0 t).sI 9 0 0 (S.I 9 0 0 + 1)).sI 8 0 0 0).sJ 2 0 0 t) 2))).2 x.2 := by
            intro x hx hr
            rw [if_pos hr]
            subst hx
            have p2 : ∀ (c : Prop) [Decidable c] (X Y : mS), (if c then ((1 : Int32), X) else (1, Y)) = (1, if c then X else Y) := fun c _ X Y => by split <;> rfl
            rw [p2, p2]
            exact ⟨rfl, R⟩
          have hv : v = (rvI ((S.sJ 0 0 0 t).I 7 0 0) st).toInt64 := by rw [c2, b10]; rfl
          have hn : st = (S.sJ 0 0 0 t).I 8 0 0 := c1.trans b11
          by_cases c3 : st = 3
          · rw [if_pos c3]
            by_cases c4 : t - M.J 29 0 < 10
            · rw [if_pos c4]
              rw [b13] at c4
              refine wrong _ rfl (fun z => ?_)
              rcases z.2.2 with q | q
              · exact q c3
              · exact le_nlt.mp q.1 c4
            · rw [if_neg c4]
              rw [b13] at c4
              by_cases c5 : 50 < t - M.J 29 0
              · rw [if_pos c5]
                rw [b13] at c5
                refine wrong _ rfl (fun z => ?_)
                rcases z.2.2 with q | q
                · exact q c3
                · exact le_nlt.mp q.2 c5
              · rw [if_neg c5]
                rw [b13] at c5
                exact right _ rfl ⟨hn, hv, Or.inr ⟨le_nlt.mpr c4, le_nlt.mpr c5⟩⟩
          · rw [if_neg c3]
            exact right _ rfl ⟨hn, hv, Or.inl c3⟩
        · rw [if_neg c2]
          have hw : ¬ rt (S.sJ 0 0 0 t) st v t := fun z => c2 (by rw [z.2.1, b10]; rfl)
          by_cases c3 : st = 3
          · rw [if_pos c3]
            exact wrong _ rfl hw
          · rw [if_neg c3]
            exact wrong _ rfl hw
      · rw [if_neg c1]
        have hw : ¬ rt (S.sJ 0 0 0 t) st v t := fun z => c1 (z.1.trans b11.symm)
        by_cases c3 : st = 3
        · rw [if_pos c3]
          exact wrong _ rfl hw
        · rw [if_neg c3]
          exact wrong _ rfl hw
    · rw [if_neg ht, if_neg (fun z => ht (hT.mpr z))]
      exact ⟨rfl, h0⟩
  · rw [if_neg (fun z => hs (h3.mp z))]
    by_cases g1 : st < 0
    · rw [if_pos g1]
      exact ⟨rfl, h0⟩
    · rw [if_neg g1]
      by_cases g2 : 3 < st
      · rw [if_pos g2]
        exact ⟨rfl, h0⟩
      · exact absurd ⟨le_nltI.mpr g1, le_nltI.mpr g2⟩ hs
end PU8
