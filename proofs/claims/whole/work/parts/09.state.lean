/-! THE CLASS'S STATE AS NUMBERS: addresses, ints, longs by (kind, i, j); counts. And its cells. -/
def up3 {α : Type} (f : Nat → Nat → Nat → α) (k i j : Nat) (v : α) : Nat → Nat → Nat → α := fun a b c => if a = k ∧ b = i ∧ c = j then v else f a b c
def up2 {α : Type} (f : Nat → Nat → α) (k i : Nat) (v : α) : Nat → Nat → α := fun a b => if a = k ∧ b = i then v else f a b
theorem up3_s {α : Type} (f : Nat → Nat → Nat → α) (k i j : Nat) (v : α) : up3 f k i j v k i j = v := if_pos ⟨rfl, rfl, rfl⟩
theorem up3_k {α : Type} (f : Nat → Nat → Nat → α) {k i j a b c : Nat} (v : α) (h : a ≠ k) : up3 f k i j v a b c = f a b c := if_neg (fun z => h z.1)
theorem up3_i {α : Type} (f : Nat → Nat → Nat → α) {k i j a b c : Nat} (v : α) (h : b ≠ i) : up3 f k i j v a b c = f a b c := if_neg (fun z => h z.2.1)
theorem up3_j {α : Type} (f : Nat → Nat → Nat → α) {k i j a b c : Nat} (v : α) (h : c ≠ j) : up3 f k i j v a b c = f a b c := if_neg (fun z => h z.2.2)
abbrev cS : Type := (Nat → Nat → Nat → Nat) × (Nat → Nat → Nat → Int32) × (Nat → Nat → Nat → Int64) × (Nat → Nat → Nat)
abbrev cS.ad (S : cS) : Nat → Nat → Nat → Nat := S.1
abbrev cS.I (S : cS) : Nat → Nat → Nat → Int32 := S.2.1
abbrev cS.J (S : cS) : Nat → Nat → Nat → Int64 := S.2.2.1
abbrev cS.C (S : cS) : Nat → Nat → Nat := S.2.2.2
def cS.sA (S : cS) (k i j : Nat) (v : Nat) : cS := (up3 S.1 k i j v, S.2.1, S.2.2.1, S.2.2.2)
def cS.sI (S : cS) (k i j : Nat) (v : Int32) : cS := (S.1, up3 S.2.1 k i j v, S.2.2.1, S.2.2.2)
def cS.sJ (S : cS) (k i j : Nat) (v : Int64) : cS := (S.1, S.2.1, up3 S.2.2.1 k i j v, S.2.2.2)
def cS.sC (S : cS) (k i : Nat) (v : Nat) : cS := (S.1, S.2.1, S.2.2.1, up2 S.2.2.2 k i v)
def cap (n : Nat) : Nat := if n ≤ 10 then 10 else if n ≤ 15 then 15 else 22
def fW (S : cS) : List Value := [.ref (S.ad 1 0 0), .ref (S.ad 3 0 0), .int (S.I 0 0 0), .int (S.I 1 0 0), .long (S.J 0 0 0), .long (S.J 1 0 0), .int (S.I 2 0 0), .int (S.I 3 0 0), .int (S.I 4 0 0), .int (S.I 5 0 0)]
def fQ (S : cS) : List Value := [.int (S.I 7 0 0), .int (S.I 8 0 0), .int (S.I 9 0 0), .long (S.J 2 0 0)]
def fP (S : cS) (i : Nat) : List Value := [.int (S.I 10 i 0), .int (S.I 11 i 0), .long (S.J 10 i 0), .ref (S.ad 5 i 0), .ref (S.ad 6 i 0), .int (S.I 12 i 0), .int (S.I 13 i 0), .int (S.I 14 i 0), .int (S.I 15 i 0), .int (S.I 16 i 0), .int (S.I 17 i 0)]
def fD (S : cS) (i j : Nat) : List Value := [.int (S.I 20 i j), .int (S.I 21 i j), .int (S.I 22 i j), .long (S.J 20 i j), .long (S.J 21 i j), .int (S.I 23 i j), .long (S.J 22 i j)]
def fA (G : Nat → Nat) (n a : Nat) (v : Int32) : List Value := [.ref (if n = 0 then G 0 else a), .int (nI n), .int v]
def rfs (n : Nat) (f : Nat → Nat) : Nat → Option Nat := fun j => if j < n then some (f j) else none
def cellS (G : Nat → Nat) (S : cS) (n : hm_N) : va_E :=
  if n.1 = 0 then .inr (0, fW S) else if n.1 = 1 then .inr (4, fA G (S.C 0 0) (S.ad 2 0 0) (S.I 6 0 0))
  else if n.1 = 2 then .inl (G 4, cap (S.C 0 0), .inr (.inr (.inr (.inr (rfs (S.C 0 0) (fun j => S.ad 4 j 0)))))) else if n.1 = 3 then .inr (3, fQ S)
  else if n.1 = 4 then .inr (1, fP S n.2.1) else if n.1 = 5 then .inl (G 1, 124, .inl (S.I 18 n.2.1))
  else if n.1 = 6 then .inr (4, fA G (S.C 1 n.2.1) (S.ad 7 n.2.1 0) (S.I 19 n.2.1 0))
  else if n.1 = 7 then .inl (G 4, 10, .inr (.inr (.inr (.inr (rfs (S.C 1 n.2.1) (S.ad 8 n.2.1)))))) else .inr (2, fD S n.2.1 n.2.2)
def domS (C : Nat → Nat → Nat) (n : hm_N) : Prop :=
  (n.2 = (0, 0) ∧ (n.1 = 0 ∨ n.1 = 1 ∨ n.1 = 3 ∨ (n.1 = 2 ∧ C 0 0 ≠ 0))) ∨ (n.2.1 < C 0 0 ∧ ((n.2.2 = 0 ∧ (n.1 = 4 ∨ n.1 = 5 ∨ n.1 = 6 ∨ (n.1 = 7 ∧ C 1 n.2.1 ≠ 0))) ∨ (n.1 = 8 ∧ n.2.2 < C 1 n.2.1)))
section ST0
variable (G : Nat → Nat) (S : cS) (ω : hm_T)

noncomputable def wS : hm_T := fun n => haveI := Classical.propDecidable (domS S.C n); if domS S.C n then some (S.ad n.1 n.2.1 n.2.2, cellS G S n) else if n.1 ≤ 8 then none else ω n
end ST0
