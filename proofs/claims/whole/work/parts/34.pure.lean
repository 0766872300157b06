/-! CLASS AND MODEL SIDE BY SIDE: states as functions, numbers -/
section PU0
variable (S : cS) (M : mS)
theorem I_sI (k i j : Nat) (v : Int32) (a b c : Nat) : (S.sI k i j v).I a b c = if a = k ∧ b = i ∧ c = j then v else S.I a b c := rfl
theorem J_sI (k i j : Nat) (v : Int32) : (S.sI k i j v).J = S.J := rfl
theorem C_sI (k i j : Nat) (v : Int32) : (S.sI k i j v).C = S.C := rfl
theorem J_sJ (k i j : Nat) (v : Int64) (a b c : Nat) : (S.sJ k i j v).J a b c = if a = k ∧ b = i ∧ c = j then v else S.J a b c := rfl
theorem I_sJ (k i j : Nat) (v : Int64) : (S.sJ k i j v).I = S.I := rfl
theorem C_sJ (k i j : Nat) (v : Int64) : (S.sJ k i j v).C = S.C := rfl
theorem mI_sI (k j : Nat) (v : Int32) (a b : Nat) : (M.sI k j v).I a b = if a = k ∧ b = j then v else M.I a b := rfl
theorem mJ_sI (k j : Nat) (v : Int32) : (M.sI k j v).J = M.J := rfl
theorem mJ_sJ (k j : Nat) (v : Int64) (a b : Nat) : (M.sJ k j v).J a b = if a = k ∧ b = j then v else M.J a b := rfl
theorem mI_sJ (k j : Nat) (v : Int64) : (M.sJ k j v).I = M.I := rfl
end PU0
theorem le64 {a b : Int32} : a.toInt64 ≤ b.toInt64 ↔ a ≤ b := by rw [Int64.le_iff_toInt_le, Int32.le_iff_toInt_le, Jvm.Kit.i64_of_i32, Jvm.Kit.i64_of_i32]
theorem i32_remD (x y : Int32) : (x - (x / y) * y).toInt = x.toInt.tmod y.toInt := by
  have a := (x % y).toInt_lt; have b := (x % y).le_toInt
  rw [Int32.toInt_mod] at a b
  rw [Int32.toInt_sub, Int32.toInt_mul, Int32.toInt_div, Int.bmod_mul_bmod, Int.sub_bmod_bmod, Int.mul_comm, ← Int.tmod_def]
  exact Jvm.Kit.bmod32 b a
theorem rem64 {x y : Int32} : x.toInt64 - x.toInt64 / y.toInt64 * y.toInt64 = 0 ↔ x - x / y * y = 0 := by
  rw [← Int64.toInt_inj, ← Int32.toInt_inj, Jvm.Kit.i64_rem, i32_remD, Jvm.Kit.i64_of_i32, Jvm.Kit.i64_of_i32]
  exact Iff.rfl
theorem add1 {x : Int32} (h0 : 0 ≤ x) (h : x ≤ 1000) : (x + 1).toInt = x.toInt + 1 := by
  have a := Int32.le_iff_toInt_le.mp h0
  have b := Int32.le_iff_toInt_le.mp h
  have c : (0 : Int32).toInt = 0 := rfl
  have d : (1000 : Int32).toInt = 1000 := rfl
  have e : (1 : Int32).toInt = 1 := rfl
  exact Jvm.Kit.i32_add (by omega) (by omega)
theorem sub1 {x : Int32} (h0 : 0 ≤ x) : (x - 1).toInt = x.toInt - 1 := by
  have a := Int32.le_iff_toInt_le.mp h0
  have c : (0 : Int32).toInt = 0 := rfl
  have e : (1 : Int32).toInt = 1 := rfl
  have f := x.toInt_lt
  exact Jvm.Kit.i32_sub (by omega) (by omega)
/-- the bit 'to' of an edges' row -/
theorem bit0 (x : Int32) {b : Nat} (hb : b < 32) : (x &&& ((1 : Int32) <<< (nI b &&& 31))) = 0 ↔ x.toBitVec.getLsbD b = false := by
  have hs : ∀ l, l < 32 → ((1 : Int32) <<< (nI l &&& 31)).toBitVec = BitVec.twoPow 32 l := by decide +kernel
  have ht : ∀ l, l < 32 → BitVec.twoPow 32 l ≠ 0#32 := by decide +kernel
  rw [← Int32.toBitVec_inj, Int32.toBitVec_and, hs b hb, BitVec.and_twoPow]
  by_cases h : x.toBitVec.getLsbD b = true
  · rw [if_pos h]
    refine ⟨fun z => absurd z (ht b hb), fun z => ?_⟩
    rw [h] at z; cases z
  · rw [if_neg h]
    refine ⟨fun _ => by simpa using h, fun _ => rfl⟩
theorem bitO (x : Int32) {b c : Nat} (hb : b < 32) (hc : c < 32) : (x ||| ((1 : Int32) <<< (nI c &&& 31))).toBitVec.getLsbD b = (x.toBitVec.getLsbD b || decide (c = b)) := by
  have hs : ∀ l, l < 32 → ((1 : Int32) <<< (nI l &&& 31)).toBitVec = BitVec.twoPow 32 l := by decide +kernel
  rw [Int32.toBitVec_or, BitVec.getLsbD_or, hs c hc, BitVec.getLsbD_twoPow]
  simp [hb, hc]
/-! THE RELATION -/
def DR (mo : Int32) (S : cS) (M : mS) (i j : Nat) : Prop :=
  M.I 13 (10 * (i + 1) + j) = S.I 20 i j ∧ M.I 14 (10 * (i + 1) + j) = S.I 21 i j ∧ M.I 15 (10 * (i + 1) + j) = S.I 22 i j ∧ M.J 16 (10 * (i + 1) + j) = S.J 20 i j ∧ M.J 17 (10 * (i + 1) + j) = S.J 21 i j ∧
  M.J 18 (10 * (i + 1) + j) = (if S.I 23 i j = 0 then -1 else S.J 22 i j) ∧ (S.I 23 i j = 0 ∨ (0 ≤ S.J 22 i j ∧ S.I 20 i j = mo))
def ER (S : cS) (M : mS) (i : Nat) : Prop := ∀ r b : Nat, r < 124 → b < 31 → (M.I 11 ((124 * (i + 1) + r) * 31 + b) = 0 ↔ (S.I 18 i r).toBitVec.getLsbD b = false)
def PR (B : Int) (S : cS) (M : mS) (i : Nat) : Prop :=
  M.I 2 (i + 1) = S.I 10 i 0 ∧ M.I 3 (i + 1) = S.I 11 i 0 ∧ (M.I 4 (i + 1)).toInt64 = S.J 10 i 0 ∧ 0 < M.I 4 (i + 1) ∧ M.I 5 (i + 1) = S.I 13 i 0 ∧ M.I 6 (i + 1) = S.I 14 i 0 ∧ M.I 7 (i + 1) = S.I 12 i 0 ∧ M.I 8 (i + 1) = S.I 15 i 0 ∧ M.I 9 (i + 1) = S.I 17 i 0 ∧ M.I 10 (i + 1) = S.I 16 i 0 ∧ M.I 12 (i + 1) = nI (S.C 1 i) ∧ S.C 1 i ≤ 10 ∧
  (S.I 13 i 0 = 0 ∨ S.I 13 i 0 = 1 ∨ S.I 13 i 0 = 2) ∧ (S.I 13 i 0 = 1 → 1 ≤ S.I 14 i 0) ∧ 0 ≤ S.I 14 i 0 ∧ (S.I 14 i 0).toInt ≤ B ∧ (S.I 17 i 0 = 0 ∨ S.I 17 i 0 = 1) ∧ 0 ≤ S.I 16 i 0 ∧ S.I 16 i 0 ≤ 30
def SR (S : cS) (M : mS) : Prop :=
  M.I 1 0 = nI (S.C 0 0) ∧ S.C 0 0 ≤ 20 ∧ M.I 19 0 = S.I 0 0 0 ∧ M.I 20 0 = S.I 1 0 0 ∧ M.J 21 0 = S.J 0 0 0 ∧ M.I 22 0 = S.I 3 0 0 ∧ M.I 23 0 = S.I 2 0 0 ∧ M.I 24 0 = S.I 4 0 0 ∧ M.I 25 0 = S.I 5 0 0 ∧ M.I 26 0 = S.I 7 0 0 ∧ M.I 27 0 = S.I 8 0 0 ∧ M.I 28 0 = S.I 9 0 0 ∧ M.J 29 0 = S.J 2 0 0 ∧ M.J 30 0 = S.J 1 0 0 ∧
  0 ≤ S.I 0 0 0 ∧ S.I 0 0 0 ≤ 3 ∧ 0 ≤ S.J 0 0 0 ∧ 0 ≤ S.I 9 0 0 ∧ S.I 9 0 0 ≤ 7
def FR (S : cS) (M : mS) : Prop := ∀ i, S.C 0 0 ≤ i → i < 20 → (M.I 5 (i + 1) = 0 ∧ M.I 6 (i + 1) = 0 ∧ M.I 7 (i + 1) = 0 ∧ M.I 8 (i + 1) = 0 ∧ M.I 9 (i + 1) = 0 ∧ M.I 10 (i + 1) = 0 ∧ M.I 12 (i + 1) = 0) ∧ ∀ r b : Nat, r < 124 → b < 31 → M.I 11 ((124 * (i + 1) + r) * 31 + b) = 0
/-- a part, whole -/
def QR (mo : Int32) (B : Int) (S : cS) (M : mS) (i : Nat) : Prop := PR B S M i ∧ ER S M i ∧ ∀ j, j < S.C 1 i → DR mo S M i j
def RR (B : Int) (S : cS) (M : mS) : Prop := SR S M ∧ (∀ i, i < S.C 0 0 → QR (S.I 0 0 0) B S M i) ∧ FR S M
/-! WHAT STAYS: only part i's numbers change -/
def offS (i : Nat) (S' S : cS) : Prop := S'.C = S.C ∧ (∀ k a b, a ≠ i ∨ k < 10 → S'.I k a b = S.I k a b) ∧ ∀ k a b, a ≠ i ∨ k < 10 → S'.J k a b = S.J k a b
def offM (i : Nat) (M' M : mS) : Prop :=
  M'.ad = M.ad ∧ (∀ k x, x ≠ i + 1 ∨ k = 1 ∨ 19 ≤ k → k ≠ 0 ∧ k < 11 ∨ k = 12 ∨ 19 ≤ k → M'.I k x = M.I k x) ∧ (∀ a r b, a ≠ i → r < 124 → b < 31 → M'.I 11 ((124 * (a + 1) + r) * 31 + b) = M.I 11 ((124 * (a + 1) + r) * 31 + b)) ∧
  (∀ k, 19 ≤ k → ∀ x, M'.J k x = M.J k x) ∧ ∀ k a j, a ≠ i → j < 10 → k < 19 → 13 ≤ k → M'.I k (10 * (a + 1) + j) = M.I k (10 * (a + 1) + j) ∧ M'.J k (10 * (a + 1) + j) = M.J k (10 * (a + 1) + j)
theorem offS.rf {i : Nat} {S : cS} : offS i S S := ⟨rfl, fun _ _ _ _ => rfl, fun _ _ _ _ => rfl⟩
theorem offS.tr {i : Nat} {S S' S'' : cS} (h : offS i S'' S') (g : offS i S' S) : offS i S'' S := ⟨h.1.trans g.1, fun k a b z => (h.2.1 k a b z).trans (g.2.1 k a b z), fun k a b z => (h.2.2 k a b z).trans (g.2.2 k a b z)⟩
theorem offS.sI {i : Nat} {S' S : cS} (h : offS i S' S) {k j : Nat} (v : Int32) (hk : 10 ≤ k) : offS i (S'.sI k i j v) S := by
  refine ⟨h.1, fun a b c z => ?_, h.2.2⟩
  rw [I_sI, if_neg (by omega)]
  exact h.2.1 a b c z
theorem offS.sJ {i : Nat} {S' S : cS} (h : offS i S' S) {k j : Nat} (v : Int64) (hk : 10 ≤ k) : offS i (S'.sJ k i j v) S := by
  refine ⟨h.1, h.2.1, fun a b c z => ?_⟩
  rw [J_sJ, if_neg (by omega)]
  exact h.2.2 a b c z
theorem offM.rf {i : Nat} {M : mS} : offM i M M := ⟨rfl, fun _ _ _ _ => rfl, fun _ _ _ _ _ _ => rfl, fun _ _ _ => rfl, fun _ _ _ _ _ _ _ => ⟨rfl, rfl⟩⟩
theorem offM.tr {i : Nat} {M M' M'' : mS} (h : offM i M'' M') (g : offM i M' M) : offM i M'' M :=
  ⟨h.1.trans g.1, fun k x z y => (h.2.1 k x z y).trans (g.2.1 k x z y), fun a r b z y w => (h.2.2.1 a r b z y w).trans (g.2.2.1 a r b z y w), fun k z x => (h.2.2.2.1 k z x).trans (g.2.2.2.1 k z x), fun k a j z y w u => ⟨(h.2.2.2.2 k a j z y w u).1.trans (g.2.2.2.2 k a j z y w u).1, (h.2.2.2.2 k a j z y w u).2.trans (g.2.2.2.2 k a j z y w u).2⟩⟩
/-- a store into an array of parts -/
theorem offM.sI {i : Nat} {M' M : mS} (h : offM i M' M) {k : Nat} (v : Int32) (hk : 2 ≤ k ∧ k ≤ 10 ∨ k = 12) : offM i (M'.sI k (i + 1) v) M := by
  refine ⟨h.1, fun a x z y => ?_, fun a r b z y w => ?_, h.2.2.2.1, fun a x j z y w u => ⟨?_, (h.2.2.2.2 a x j z y w u).2⟩⟩
  · rw [mI_sI, if_neg (by omega)]
    exact h.2.1 a x z y
  · rw [mI_sI, if_neg (by omega)]
    exact h.2.2.1 a r b z y w
  · rw [mI_sI, if_neg (by omega)]
    exact (h.2.2.2.2 a x j z y w u).1
/-- a store into an array of deadlines -/
theorem offM.sD {i : Nat} {M' M : mS} (h : offM i M' M) {k j : Nat} (v : Int32) (hk : 13 ≤ k ∧ k ≤ 18) (hj : j < 10) : offM i (M'.sI k (10 * (i + 1) + j) v) M := by
  refine ⟨h.1, fun a x z y => ?_, fun a r b z y w => ?_, h.2.2.2.1, fun a x c z y w u => ⟨?_, (h.2.2.2.2 a x c z y w u).2⟩⟩
  · rw [mI_sI, if_neg (by omega)]
    exact h.2.1 a x z y
  · rw [mI_sI, if_neg (by omega)]
    exact h.2.2.1 a r b z y w
  · rw [mI_sI, if_neg (by omega)]
    exact (h.2.2.2.2 a x c z y w u).1
theorem offM.sJ {i : Nat} {M' M : mS} (h : offM i M' M) {k j : Nat} (v : Int64) (hk : 13 ≤ k ∧ k ≤ 18) (hj : j < 10) : offM i (M'.sJ k (10 * (i + 1) + j) v) M := by
  refine ⟨h.1, h.2.1, h.2.2.1, fun a z x => ?_, fun a x c z y w u => ⟨(h.2.2.2.2 a x c z y w u).1, ?_⟩⟩
  · rw [mJ_sJ, if_neg (by omega)]
    exact h.2.2.2.1 a z x
  · rw [mJ_sJ, if_neg (by omega)]
    exact (h.2.2.2.2 a x c z y w u).2
/-- an edge of the part -/
theorem offM.sE {i : Nat} {M' M : mS} (h : offM i M' M) {r b : Nat} (v : Int32) (hr : r < 124) (hb : b < 31) : offM i (M'.sI 11 ((124 * (i + 1) + r) * 31 + b) v) M := by
  refine ⟨h.1, fun a x z y => ?_, fun a q c z y w => ?_, h.2.2.2.1, fun a x j z y w u => ⟨?_, (h.2.2.2.2 a x j z y w u).2⟩⟩
  · rw [mI_sI, if_neg (by omega)]
    exact h.2.1 a x z y
  · rw [mI_sI, if_neg (by omega)]
    exact h.2.2.1 a q c z y w
  · rw [mI_sI, if_neg (by omega)]
    exact (h.2.2.2.2 a x j z y w u).1
theorem SR_off {i : Nat} {S S' : cS} {M M' : mS} (h : SR S M) (hS : offS i S' S) (hM : offM i M' M) : SR S' M' := by
  have eI : ∀ k a b, k < 10 → S'.I k a b = S.I k a b := fun k a b z => hS.2.1 k a b (Or.inr z)
  have eJ : ∀ k a b, k < 10 → S'.J k a b = S.J k a b := fun k a b z => hS.2.2 k a b (Or.inr z)
  have m1 : M'.I 1 0 = M.I 1 0 := hM.2.1 1 0 (by omega) (by omega)
  have mI : ∀ k, 19 ≤ k → M'.I k 0 = M.I k 0 := fun k z => hM.2.1 k 0 (by omega) (by omega)
  have mJ : ∀ k, 19 ≤ k → M'.J k 0 = M.J k 0 := fun k z => hM.2.2.2.1 k z 0
  unfold SR
  rw [hS.1, m1, eI 0 0 0 (by decide), eI 1 0 0 (by decide), eI 2 0 0 (by decide), eI 3 0 0 (by decide), eI 4 0 0 (by decide), eI 5 0 0 (by decide), eI 7 0 0 (by decide), eI 8 0 0 (by decide), eI 9 0 0 (by decide), eJ 0 0 0 (by decide), eJ 1 0 0 (by decide), eJ 2 0 0 (by decide),
    mI 19 (by decide), mI 20 (by decide), mI 22 (by decide), mI 23 (by decide), mI 24 (by decide), mI 25 (by decide), mI 26 (by decide), mI 27 (by decide), mI 28 (by decide), mJ 21 (by decide), mJ 29 (by decide), mJ 30 (by decide)]
  exact h
theorem QR_off {i a : Nat} {mo : Int32} {B B' : Int} {S S' : cS} {M M' : mS} (h : QR mo B S M a) (ha : a ≠ i) (hS : offS i S' S) (hM : offM i M' M) (hB : B ≤ B') : QR mo B' S' M' a := by
  obtain ⟨h1, h2, h3⟩ := h
  have eI : ∀ k b, S'.I k a b = S.I k a b := fun k b => hS.2.1 k a b (Or.inl ha)
  have eJ : ∀ k b, S'.J k a b = S.J k a b := fun k b => hS.2.2 k a b (Or.inl ha)
  have mI : ∀ k, 2 ≤ k ∧ k ≤ 10 ∨ k = 12 → M'.I k (a + 1) = M.I k (a + 1) := fun k z => hM.2.1 k (a + 1) (by omega) (by omega)
  refine ⟨?_, fun r b hr hb => ?_, fun j hj => ?_⟩
  · unfold PR at h1 ⊢
    rw [hS.1, mI 2 (by decide), mI 3 (by decide), mI 4 (by decide), mI 5 (by decide), mI 6 (by decide), mI 7 (by decide), mI 8 (by decide), mI 9 (by decide), mI 10 (by decide), mI 12 (by decide), eI, eI, eI, eI, eI, eI, eI, eI, eJ]
    obtain ⟨a1, a2, a3, a4, a5, a6, a7, a8, a9, a10, a11, a12, a13, a14, a15, a16, a17⟩ := h1
    exact ⟨a1, a2, a3, a4, a5, a6, a7, a8, a9, a10, a11, a12, a13, a14, a15, Int.le_trans a16 hB, a17⟩
  · rw [hM.2.2.1 a r b ha hr hb, eI]
    exact h2 r b hr hb
  · rw [hS.1] at hj
    have hj10 : j < 10 := by have := h1.2.2.2.2.2.2.2.2.2.2.2.1; omega
    have d := h3 j hj
    have mD : ∀ k, 13 ≤ k → k < 19 → M'.I k (10 * (a + 1) + j) = M.I k (10 * (a + 1) + j) := fun k y z => (hM.2.2.2.2 k a j ha hj10 z y).1
    have mE : ∀ k, 13 ≤ k → k < 19 → M'.J k (10 * (a + 1) + j) = M.J k (10 * (a + 1) + j) := fun k y z => (hM.2.2.2.2 k a j ha hj10 z y).2
    unfold DR at d ⊢
    rw [mD 13 (by decide) (by decide), mD 14 (by decide) (by decide), mD 15 (by decide) (by decide), mE 16 (by decide) (by decide), mE 17 (by decide) (by decide), mE 18 (by decide) (by decide), eI, eI, eI, eI, eJ, eJ, eJ]
    exact d
theorem FR_off {i : Nat} {S S' : cS} {M M' : mS} (h : FR S M) (hi : i < S.C 0 0) (hS : offS i S' S) (hM : offM i M' M) : FR S' M' := by
  intro a h1 h2
  rw [hS.1] at h1
  have ha : a ≠ i := by omega
  have mI : ∀ k, 2 ≤ k ∧ k ≤ 10 ∨ k = 12 → M'.I k (a + 1) = M.I k (a + 1) := fun k z => hM.2.1 k (a + 1) (by omega) (by omega)
  obtain ⟨g1, g2⟩ := h a h1 h2
  refine ⟨?_, fun r b hr hb => ?_⟩
  · rw [mI 5 (by decide), mI 6 (by decide), mI 7 (by decide), mI 8 (by decide), mI 9 (by decide), mI 10 (by decide), mI 12 (by decide)]
    exact g1
  · rw [hM.2.2.1 a r b ha hr hb]
    exact g2 r b hr hb
theorem RR_part {i : Nat} {B B' : Int} {S S' : cS} {M M' : mS} (h : RR B S M) (hi : i < S.C 0 0) (hS : offS i S' S) (hM : offM i M' M) (hB : B ≤ B') (hq : QR (S.I 0 0 0) B' S' M' i) : RR B' S' M' := by
  refine ⟨SR_off h.1 hS hM, fun a ha => ?_, FR_off h.2.2 hi hS hM⟩
  rw [hS.1] at ha
  rw [hS.2.1 0 0 0 (by omega)]
  by_cases e : a = i
  · rw [e]; exact hq
  · exact QR_off (h.2.1 a ha) e hS hM hB
