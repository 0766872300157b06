theorem sw3 (S : cS) {k i j l a b : Nat} {v w : Int32} (h : k ≠ l) : (S.sI k i j v).sI l a b w = (S.sI l a b w).sI k i j v := by
  have : up3 (up3 S.2.1 k i j v) l a b w = up3 (up3 S.2.1 l a b w) k i j v := by
    funext x y z
    unfold up3
    repeat' split
    all_goals first | rfl | omega
  show (S.1, up3 (up3 S.2.1 k i j v) l a b w, S.2.2.1, S.2.2.2) = _
  rw [this]
  rfl
theorem uu3 (S : cS) (k i j : Nat) (v w : Int32) : (S.sI k i j v).sI k i j w = S.sI k i j w := by
  have : up3 (up3 S.2.1 k i j v) k i j w = up3 S.2.1 k i j w := by
    funext x y z
    unfold up3
    repeat' split
    all_goals rfl
  show (S.1, up3 (up3 S.2.1 k i j v) k i j w, S.2.2.1, S.2.2.2) = _
  rw [this]
  rfl
theorem sw2 (M : mS) {k j l b : Nat} {v w : Int32} (h : k ≠ l) : (M.sI k j v).sI l b w = (M.sI l b w).sI k j v := by
  have : up2 (up2 M.2.1 k j v) l b w = up2 (up2 M.2.1 l b w) k j v := by
    funext x y
    unfold up2
    repeat' split
    all_goals first | rfl | omega
  show (M.1, up2 (up2 M.2.1 k j v) l b w, M.2.2) = _
  rw [this]
  rfl
theorem uu2 (M : mS) (k j : Nat) (v w : Int32) : (M.sI k j v).sI k j w = M.sI k j w := by
  have : up2 (up2 M.2.1 k j v) k j w = up2 M.2.1 k j w := by
    funext x y
    unfold up2
    repeat' split
    all_goals rfl
  show (M.1, up2 (up2 M.2.1 k j v) k j w, M.2.2) = _
  rw [this]
  rfl
theorem fDs_I9 (S : cS) (i j : Nat) (v : Int32) : fDs (S.sI 9 0 0 v) i j = (fDs S i j).sI 9 0 0 v := by
  induction j with
  | zero => rfl
  | succ j ih =>
    show ((fDs (S.sI 9 0 0 v) i j).sI 23 i j 0) = ((fDs S i j).sI 23 i j 0).sI 9 0 0 v
    rw [ih]
    exact sw3 _ (by decide)
theorem bA_I9 (S : cS) (j : Nat) (v : Int32) : bA (S.sI 9 0 0 v) j = (bA S j).sI 9 0 0 v := by
  show ((fDs ((((S.sI 9 0 0 v).sI 15 j 0 0).sI 17 j 0 0).sI 16 j 0 0) j (S.C 1 j)).sI 13 j 0 0).sI 14 j 0 0 = _
  rw [sw3 (k := 9) _ (by decide), sw3 (k := 9) _ (by decide), sw3 (k := 9) _ (by decide), fDs_I9, sw3 (k := 9) _ (by decide), sw3 (k := 9) _ (by decide)]
  rfl
theorem rsL_I9 (S : cS) (j : Nat) (v : Int32) : rsL (S.sI 9 0 0 v) j = (rsL S j).sI 9 0 0 v := by
  induction j with
  | zero => rfl
  | succ j ih =>
    show bA (rsL (S.sI 9 0 0 v) j) j = _
    rw [ih]
    exact bA_I9 _ j v
theorem rS_I9 (S : cS) (v why : Int32) : rS (S.sI 9 0 0 v) why = rS S why := by
  unfold rS
  have e : ((S.sI 9 0 0 v).sI 5 0 0 why).sI 4 0 0 ((S.sI 9 0 0 v).I 4 0 0 + 1) = ((S.sI 5 0 0 why).sI 4 0 0 (S.I 4 0 0 + 1)).sI 9 0 0 v := by
    rw [sw3 (k := 9) S (by decide), sw3 (k := 9) _ (by decide)]
    rfl
  rw [e, rsL_I9]
  show rs2 ((rsL ((S.sI 5 0 0 why).sI 4 0 0 (S.I 4 0 0 + 1)) (S.C 0 0)).sI 9 0 0 v) = _
  generalize rsL ((S.sI 5 0 0 why).sI 4 0 0 (S.I 4 0 0 + 1)) (S.C 0 0) = T
  unfold rs2
  rw [sw3 (k := 9) T (by decide), sw3 (k := 9) _ (by decide), sw3 (k := 9) _ (by decide), sw3 (k := 9) _ (by decide), sw3 (k := 9) _ (by decide), uu3]
  rfl
theorem clL_I28 (M : mS) (n j : Nat) (v : Int32) : clL (M.sI 28 0 v) n j = (clL M n j).sI 28 0 v := by
  induction j with
  | zero => rfl
  | succ j ih =>
    show clL1 (clL (M.sI 28 0 v) n j) n j = _
    rw [ih]
    rfl
theorem r01_I28 (M : mS) (n : Nat) (v : Int32) : r01 (M.sI 28 0 v) n = (r01 M n).sI 28 0 v := by
  unfold r01 clr cl0
  rw [sw2 (k := 28) M (by decide), sw2 (k := 28) _ (by decide), sw2 (k := 28) _ (by decide), clL_I28, sw2 (k := 28) _ (by decide), sw2 (k := 28) _ (by decide)]
theorem r0L_I28 (M : mS) (j : Nat) (v : Int32) : r0L (M.sI 28 0 v) j = (r0L M j).sI 28 0 v := by
  induction j with
  | zero => rfl
  | succ j ih =>
    show r01 (r0L (M.sI 28 0 v) j) (j + 1) = _
    rw [ih]
    exact r01_I28 _ _ v
theorem r0_I28 (M : mS) (v why : Int32) (c : Nat) : r0 (M.sI 28 0 v) why c = r0 M why c := by
  unfold r0
  have e : ((M.sI 28 0 v).sI 25 0 why).sI 24 0 ((M.sI 28 0 v).I 24 0 + 1) = ((M.sI 25 0 why).sI 24 0 (M.I 24 0 + 1)).sI 28 0 v := by
    rw [sw2 (k := 28) M (by decide), sw2 (k := 28) _ (by decide)]
    rfl
  rw [e, r0L_I28]
  generalize r0L ((M.sI 25 0 why).sI 24 0 (M.I 24 0 + 1)) c = T
  unfold r02
  rw [sw2 (k := 28) T (by decide), sw2 (k := 28) _ (by decide), sw2 (k := 28) _ (by decide), sw2 (k := 28) _ (by decide), sw2 (k := 28) _ (by decide), uu2]
  rfl
section PU7
variable {B : Int} {S : cS} {M : mS} {i : Nat}
theorem SR_ans {t : Int64} {e n q : Int32} (h : SR S M) (h0 : 0 ≤ e) (h7 : e ≤ 7) : SR (((S.sI 9 0 0 e).sI 8 0 0 n).sJ 2 0 0 t) (((M.sI 28 0 e).sI 27 0 n).sJ 29 0 t) := by
  obtain ⟨b1, b2, b3, b4, b5, b6, b7, b8, b9, b10, b11, b12, b13, b14, b15, b16, b17, b18, b19⟩ := h
  unfold SR
  simp [I_sI, J_sI, C_sI, J_sJ, I_sJ, C_sJ, mI_sI, mJ_sI, mJ_sJ, mI_sJ]
  exact ⟨b1, b2, b3, b4, b5, b6, b7, b8, b9, b10, b14, b15, b16, b17, h0, h7⟩
/-- a wrong answer -/
theorem r_wrong (h : RR B S M) (hB : 0 ≤ B) (t : Int64) :
    RR B (if S.I 9 0 0 + 1 < 8 then ((S.sI 9 0 0 (S.I 9 0 0 + 1)).sI 8 0 0 0).sJ 2 0 0 t else rS (((S.sI 9 0 0 (S.I 9 0 0 + 1)).sI 8 0 0 0).sJ 2 0 0 t) 2) (if M.I 28 0 + 1 = 8 then r0 (((M.sI 28 0 (M.I 28 0 + 1)).sI 27 0 0).sJ 29 0 t) 2 (S.C 0 0) else ((M.sI 28 0 (M.I 28 0 + 1)).sI 27 0 0).sJ 29 0 t) := by
  have b12 := h.1.2.2.2.2.2.2.2.2.2.2.2.1
  have b18 := h.1.2.2.2.2.2.2.2.2.2.2.2.2.2.2.2.2.2.1
  have b19 := h.1.2.2.2.2.2.2.2.2.2.2.2.2.2.2.2.2.2.2
  obtain ⟨e, he, e9⟩ := nI_of2 (x := S.I 9 0 0) (M := 7) (n := 7) rfl (le_nltI.mp b18) b19
  rw [b12]
  have oS : scS (((S.sI 9 0 0 (S.I 9 0 0 + 1)).sI 8 0 0 0).sJ 2 0 0 t) S := ((scS.rf.sI _ (by decide)).sI _ (by decide)).sJ _ (by decide)
  have oM : scM (((M.sI 28 0 (S.I 9 0 0 + 1)).sI 27 0 0).sJ 29 0 t) M := ((scM.rf.sI _ (by omega)).sI _ (by omega)).sJ _ (by omega)
  have e1 : S.I 9 0 0 + 1 = nI (e + 1) := by rw [e9, nI_1]
  by_cases h7 : e = 7
  · have c1 : ¬ S.I 9 0 0 + 1 < 8 := by rw [e1, h7]; decide
    have c2 : S.I 9 0 0 + 1 = 8 := by rw [e1, h7]; rfl
    rw [if_neg c1, if_pos c2]
    have k : RR B (((S.sI 9 0 0 7).sI 8 0 0 0).sJ 2 0 0 t) (((M.sI 28 0 7).sI 27 0 0).sJ 29 0 t) := RR_sc h (((scS.rf.sI _ (by decide)).sI _ (by decide)).sJ _ (by decide)) (((scM.rf.sI _ (by omega)).sI _ (by omega)).sJ _ (by omega)) (SR_ans (q := 0) h.1 (by decide) (by decide)) rfl
    have r := r_rS k hB 2
    have x1 : rS (((S.sI 9 0 0 (S.I 9 0 0 + 1)).sI 8 0 0 0).sJ 2 0 0 t) 2 = rS (((S.sI 9 0 0 7).sI 8 0 0 0).sJ 2 0 0 t) 2 := by
      have a := rS_I9 ((S.sI 8 0 0 0).sJ 2 0 0 t) (S.I 9 0 0 + 1) 2
      have b := rS_I9 ((S.sI 8 0 0 0).sJ 2 0 0 t) 7 2
      have sw : ∀ v : Int32, ((S.sI 9 0 0 v).sI 8 0 0 0).sJ 2 0 0 t = ((S.sI 8 0 0 0).sJ 2 0 0 t).sI 9 0 0 v := fun v => by
        show (S.1, up3 (up3 S.2.1 9 0 0 v) 8 0 0 0, _, _) = (S.1, up3 (up3 S.2.1 8 0 0 0) 9 0 0 v, _, _)
        have : up3 (up3 S.2.1 9 0 0 v) 8 0 0 0 = up3 (up3 S.2.1 8 0 0 0) 9 0 0 v := by
          funext a b c
          unfold up3
          repeat' split
          all_goals first | rfl | omega
        rw [this]
        rfl
      rw [sw, sw, a, b]
    have x2 : r0 (((M.sI 28 0 (S.I 9 0 0 + 1)).sI 27 0 0).sJ 29 0 t) 2 (S.C 0 0) = r0 (((M.sI 28 0 7).sI 27 0 0).sJ 29 0 t) 2 (S.C 0 0) := by
      have sw : ∀ v : Int32, ((M.sI 28 0 v).sI 27 0 0).sJ 29 0 t = ((M.sI 27 0 0).sJ 29 0 t).sI 28 0 v := fun v => by
        show (M.1, up2 (up2 M.2.1 28 0 v) 27 0 0, _) = (M.1, up2 (up2 M.2.1 27 0 0) 28 0 v, _)
        have : up2 (up2 M.2.1 28 0 v) 27 0 0 = up2 (up2 M.2.1 27 0 0) 28 0 v := by
          funext a b
          unfold up2
          repeat' split
          all_goals first | rfl | omega
        rw [this]
        rfl
      rw [sw, sw, r0_I28, r0_I28]
    rw [x1, x2]
    exact r
  · have c1 : S.I 9 0 0 + 1 < 8 := by rw [e1, show (8 : Int32) = nI 8 from rfl]; exact nI_lt (by omega) (by omega)
    have c2 : ¬ S.I 9 0 0 + 1 = 8 := by rw [e1, show (8 : Int32) = nI 8 from rfl, nI_eq (by omega) (by omega)]; omega
    rw [if_pos c1, if_neg c2]
    exact RR_sc h oS oM (SR_ans (q := 0) h.1 (by rw [e1]; exact nI_pos' (by omega)) (by rw [e1, show (7 : Int32) = nI 7 from rfl]; exact nI_le (by omega) (by omega))) rfl
end PU7
