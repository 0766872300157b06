/-! THE HEAP AS A MAP FROM NAMES TO CELLS. A name is three numbers; a cell has its address and its contents. -/
abbrev hm_N : Type := Nat × Nat × Nat
abbrev hm_T : Type := hm_N → Option (Nat × va_E)
def hm_up (w : hm_T) (n : hm_N) (q : Nat × va_E) : hm_T := fun k => if k = n then some q else w k
theorem hm_up_s (w : hm_T) (n : hm_N) (q : Nat × va_E) : hm_up w n q n = some q := if_pos rfl
theorem hm_up_n (w : hm_T) {n k : hm_N} (q : Nat × va_E) (h : k ≠ n) : hm_up w n q k = w k := if_neg h
def hm_P (D : va_G) (cl : List vw_C) (w : hm_T) (H : Heap) : Prop := ∀ (n : hm_N) (q : Nat × va_E), w n = some q → va_at D cl q H
def hm_D (A : Nat → Prop) (w : hm_T) : Prop := (∀ (n k : hm_N) (q r : Nat × va_E), w n = some q → w k = some r → q.1 = r.1 → n = k) ∧ ∀ (n : hm_N) (q : Nat × va_E), w n = some q → A q.1
/-- the heap at a place of a method: its cells, apart, in A; outside A nothing has changed since H0 -/
def hm_Y (D : va_G) (cl : List vw_C) (A : Nat → Prop) (H0 : Heap) (w : hm_T) (H : Heap) (locs : List Loc) : Prop :=
  hm_P D cl w H ∧ hm_D A w ∧ va_S A H0 H locs ∧ ∀ q : Nat, H0.size ≤ q → A q
/-- the heap at a method's start or end -/
def hm_B (D : va_G) (cl : List vw_C) (A : Nat → Prop) (w : hm_T) (U : State) : Prop := hm_P D cl w U.heap ∧ hm_D A w
section HM1
variable {D : va_G} {cl : List vw_C} {A : Nat → Prop} {H0 H H1 : Heap} {w : hm_T} {locs : List Loc} {n : hm_N} {q : Nat × va_E}
theorem hm_Y.one (h : hm_Y D cl A H0 w H locs) (hn : w n = some q) : va_P D cl [q] H := by
  intro k x hk
  have hz : k < 1 := (List.getElem?_eq_some_iff.mp hk).1
  rw [show k = 0 by omega] at hk
  cases hk
  exact h.1 n _ hn
theorem hm_Y.set {a : Nat} {e0 e : va_E} (h : hm_Y D cl A H0 w H locs) (hn : w n = some (a, e0)) (he : va_at D cl (a, e) H1) (z : H1.size = H.size) (oq : ∀ q : Nat, q ≠ a → H1[q]? = H[q]?) (k : Nat) : hm_Y D cl A H0 (hm_up w n (a, e)) H1 (locs ++ [⟨a, k⟩]) := by
  obtain ⟨hP, hD, hS, hA⟩ := h
  have key : ∀ (i : hm_N) (x : Nat × va_E), hm_up w n (a, e) i = some x → ∃ x0, w i = some x0 ∧ x0.1 = x.1 := by
    intro i x hx
    by_cases hi : i = n
    · subst hi
      rw [hm_up_s] at hx
      cases hx
      exact ⟨_, hn, rfl⟩
    · rw [hm_up_n _ _ hi] at hx
      exact ⟨x, hx, rfl⟩
  refine ⟨fun i x hx => ?_, ⟨fun i j x y hx hy hxy => ?_, fun i x hx => ?_⟩, hS.put z oq (hD.2 n _ hn), hA⟩
  · by_cases hi : i = n
    · subst hi
      rw [hm_up_s] at hx
      cases hx
      exact he
    · rw [hm_up_n _ _ hi] at hx
      exact (hP i x hx).kept (oq x.1 (fun z => hi (hD.1 i n x (a, e0) hx hn z)))
  · obtain ⟨x0, h1, h2⟩ := key i x hx
    obtain ⟨y0, h3, h4⟩ := key j y hy
    exact hD.1 i j x0 y0 h1 h3 (h2.trans (hxy.trans h4.symm))
  · obtain ⟨x0, h1, h2⟩ := key i x hx
    rw [← h2]
    exact hD.2 i x0 h1
theorem hm_Y.new {e : va_E} (h : hm_Y D cl A H0 w H locs) (n : hm_N) (he : va_at D cl (H.size, e) H1) (z : H1.size = H.size + 1) (oq : ∀ q : Nat, q < H.size → H1[q]? = H[q]?) : hm_Y D cl A H0 (hm_up w n (H.size, e)) H1 locs := by
  obtain ⟨hP, hD, hS, hA⟩ := h
  have key : ∀ (i : hm_N) (x : Nat × va_E), hm_up w n (H.size, e) i = some x → (i = n ∧ x = (H.size, e)) ∨ (w i = some x ∧ x.1 < H.size) := by
    intro i x hx
    by_cases hi : i = n
    · subst hi
      rw [hm_up_s] at hx
      cases hx
      exact Or.inl ⟨rfl, rfl⟩
    · rw [hm_up_n _ _ hi] at hx
      exact Or.inr ⟨hx, (hP i x hx).lt⟩
  refine ⟨fun i x hx => ?_, ⟨fun i j x y hx hy hxy => ?_, fun i x hx => ?_⟩, ⟨Nat.le_trans hS.1 (by omega), fun x h1 h2 => (oq x (Nat.lt_of_lt_of_le h1 hS.1)).trans (hS.2.1 x h1 h2), hS.2.2⟩, hA⟩
  · rcases key i x hx with ⟨-, h2⟩ | ⟨h1, h2⟩
    · rw [h2]
      exact he
    · exact (hP i x h1).kept (oq x.1 h2)
  · rcases key i x hx with ⟨h1, h2⟩ | ⟨h1, h2⟩ <;> rcases key j y hy with ⟨h3, h4⟩ | ⟨h3, h4⟩
    · rw [h1, h3]
    · rw [h2] at hxy
      have : H.size = y.1 := hxy
      omega
    · rw [h4] at hxy
      have : x.1 = H.size := hxy
      omega
    · exact hD.1 i j x y h1 h3 hxy
  · rcases key i x hx with ⟨-, h2⟩ | ⟨h1, -⟩
    · rw [h2]
      exact hA _ hS.1
    · exact hD.2 i x h1
theorem hm_Y.start {s : State} (h : hm_B D cl A w s) (hA : ∀ q : Nat, s.heap.size ≤ q → A q) : hm_Y D cl A s.heap w s.heap [] := ⟨h.1, h.2, va_S.rf, hA⟩
theorem hm_Y.end' {t : State} (h : hm_Y D cl A H0 w H locs) (ht : t.heap = H) : hm_B D cl A w t := ⟨by rw [ht]; exact h.1, h.2.1⟩
theorem hm_Y.fresh (h : hm_Y D cl A H0 w H locs) (hn : w n = some q) : q.1 < H.size := (h.1 n q hn).lt
theorem hm_Y.apart {k : hm_N} {r : Nat × va_E} (h : hm_Y D cl A H0 w H locs) (hn : w n = some q) (hk : w k = some r) (hne : n ≠ k) : q.1 ≠ r.1 := fun e => hne (h.2.1.1 n k q r hn hk e)
end HM1
/-- what a method's body stands in: the machine, its code, its words, the classes' numbers -/
def hm_X (p : Program) (m : MethodId) (c : Code) (cc : ByteArray) (nL : Nat) (s : State) (args : Array Value) (Ts : List Cond) (own : String) (D : va_G) (cl : List vw_C) (tys : List (ClassId × FieldType)) : Prop :=
  CallFix p m c cc nL s args Ts own ∧ va_K D cl tys s
section HM2
variable {p : Program} {l : Launch} {e : Env} {R : Room} {s : State} {m : MethodId} {args : Array Value} {below : List Frame} {meth : Method} {c : Code} {H : Heap} {locs : List Loc} {cells slots : Nat} {Q : State → Prop}
variable {cc : ByteArray} {nL pc : Nat} {ls : Array Slot} {rest : List Value} {D : va_G} {cl : List vw_C} {A : Nat → Prop} {a : Nat} {tys : List (ClassId × FieldType)} {H0 : Heap} {Ts : List Cond} {own : String} {w : hm_T} {n : hm_N}
theorem hm_get {ref C : String} {T : u_T} {N ci index : Nat} (X : hm_X p m c cc nL s args Ts own D cl tys) (hY : hm_Y D cl A H0 w H locs) {fs : List Value} {v : Value} (hn : w n = some (a, .inr (ci, fs))) (k : Nat) (hv : fs[k]? = some v) (hc : cl[ci]? = some (C, T, N)) (hk : k < N) (hin : ∀ w ∈ u_ws C T N, w ∈ Ts) (hlink : Cond.fieldLink own index ref (T k).2.1 (T k).2.2.1 ∈ Ts) (hsame : ∀ x, s.fieldFound? (T k).1 (T k).2.1 (T k).2.2.1 = some x → s.fieldFound? ref (T k).2.1 (T k).2.2.1 = some x) (hdg : decode cc pc = .ok (.getfield index, 3))
    (kk : W p l e R s m args below meth c H locs cells slots Q (F0 m (pc + 3) ls (v :: rest))) : W p l e R s m args below meth c H locs cells slots Q (F0 m pc ls (.ref a :: rest)) :=
  va_get X.1.1 X.1.2.1 X.1.2.2.2.2 hin X.1.2.2.2.1 X.2 (hY.one hn) 0 rfl hc k hk (X.1.2.2.2.2 _ hlink) hsame hv hdg kk
theorem hm_put {ref C : String} {T : u_T} {N ci index : Nat} (X : hm_X p m c cc nL s args Ts own D cl tys) (hY : hm_Y D cl A H0 w H locs) {fs : List Value} {v : Value} (hn : w n = some (a, .inr (ci, fs))) (k : Nat) (hc : cl[ci]? = some (C, T, N)) (hk : k < N) (hl : k < fs.length) (hin : ∀ w ∈ u_ws C T N, w ∈ Ts) (ty0 : Nat → FieldType) (hty : ∀ k, k < N → parseFieldDescriptor (T k).2.2.1 = some (ty0 k)) (hnm : ∀ a, a < N → ∀ b, b < N → a ≠ b → (T a).2.1 ≠ (T b).2.1) (hlink : Cond.fieldLink own index ref (T k).2.1 (T k).2.2.1 ∈ Ts) (hsame : ∀ x, s.fieldFound? (T k).1 (T k).2.1 (T k).2.2.1 = some x → s.fieldFound? ref (T k).2.1 (T k).2.2.1 = some x) (hfin : (T k).2.2.2 = false) (hnar : narrow (ty0 k) v = v) (hfit : fits (ty0 k) v = true) (hdg : decode cc pc = .ok (.putfield index, 3))
    (kk : ∀ (H1 : Heap) (locs1 : List Loc), hm_Y D cl A H0 (hm_up w n (a, .inr (ci, fs.set k v))) H1 locs1 → W p l e R s m args below meth c H1 locs1 cells slots Q (F0 m (pc + 3) ls rest)) : W p l e R s m args below meth c H locs cells slots Q (F0 m pc ls (v :: .ref a :: rest)) := by
  obtain ⟨⟨hx, hb, -, hown, hts⟩, hK⟩ := X
  have hap := va_apart (own := own) hts hin ty0 hty hnm hK hc
  obtain ⟨r, h1, cell, q1, q2, q3, q4⟩ := hY.1 n _ hn
  have hr : r = (C, T, N) := Option.some.inj (h1.symm.trans hc)
  subst hr
  obtain ⟨hS, hfc, kC, hkC, hkind⟩ := hK.1 ci _ hc
  obtain ⟨cf, kf, fi, f, hi, hsl⟩ := hS k hk
  have hlay := hts _ (hin _ (u_in_lay hk))
  unfold u_lay at hlay
  rw [if_neg (by rw [hfin]; decide)] at hlay
  have hst := (u_facts hfc hkC (u_lays hts hin hk) hi).1
  have h6 := u_store hfc hkC hkind hlay hi (hty k hk) hnar hfit
  refine W.putK hx hb (f := f) ⟨hown, hts _ hlink, ⟨_, _, _, hsame _ hi⟩, hst⟩ (by rw [q2]; exact h6) q1 q3 (by rw [hsl]; exact k2_hasslot (q4 k hk)) rfl rfl hdg fun H' e1 e2 e3 => ?_
  rw [hsl] at e1 ⊢
  exact kk H' _ (hY.set (e := .inr (ci, fs.set k v)) (H1 := H') hn ⟨_, hc, t_OB.to (V := updV (vp_V fs) k v) ⟨_, e1, q2, q3, t_set q4 hap hk v⟩ (fun j _ => vp_updV_set hl v j)⟩ e2 e3 _)
theorem hm_putF {ref C : String} {T : u_T} {N ci index : Nat} (X : hm_X p m c cc nL s args Ts own D cl tys) (hY : hm_Y D cl A H0 w H locs) {fs : List Value} {v : Value} (hn : w n = some (a, .inr (ci, fs))) (k : Nat) (hc : cl[ci]? = some (C, T, N)) (hk : k < N) (hl : k < fs.length) (hin : ∀ w ∈ u_ws C T N, w ∈ Ts) (ty0 : Nat → FieldType) (hty : ∀ k, k < N → parseFieldDescriptor (T k).2.2.1 = some (ty0 k)) (hnm : ∀ a, a < N → ∀ b, b < N → a ≠ b → (T a).2.1 ≠ (T b).2.1) (hlink : Cond.fieldLink own index ref (T k).2.1 (T k).2.2.1 ∈ Ts) (hsame : ∀ x, s.fieldFound? (T k).1 (T k).2.1 (T k).2.2.1 = some x → s.fieldFound? ref (T k).2.1 (T k).2.2.1 = some x) (hfin : (T k).2.2.2 = true) (hin2 : meth.name = "<init>") (hdecl : (T k).1 = own) (hnar : narrow (ty0 k) v = v) (hfit : fits (ty0 k) v = true) (hdg : decode cc pc = .ok (.putfield index, 3))
    (kk : ∀ (H1 : Heap) (locs1 : List Loc), hm_Y D cl A H0 (hm_up w n (a, .inr (ci, fs.set k v))) H1 locs1 → W p l e R s m args below meth c H1 locs1 cells slots Q (F0 m (pc + 3) ls rest)) : W p l e R s m args below meth c H locs cells slots Q (F0 m pc ls (v :: .ref a :: rest)) := by
  obtain ⟨⟨hx, hb, -, hown, hts⟩, hK⟩ := X
  have hap := va_apart (own := own) hts hin ty0 hty hnm hK hc
  obtain ⟨r, h1, cell, q1, q2, q3, q4⟩ := hY.1 n _ hn
  have hr : r = (C, T, N) := Option.some.inj (h1.symm.trans hc)
  subst hr
  obtain ⟨hS, hfc, kC, hkC, hkind⟩ := hK.1 ci _ hc
  obtain ⟨cf, kf, fi, f, hi, hsl⟩ := hS k hk
  have hlay := hts _ (hin _ (u_in_lay hk))
  unfold u_lay at hlay
  rw [if_pos hfin] at hlay
  have hst := (u_facts hfc hkC (u_lays hts hin hk) hi).1
  have hcf : m.cls = cf := by
    obtain ⟨_, _, c', _, _, _, -, -, hf', -, -, -, hown2, -⟩ := Cond.laysFinal_spec hlay
    have e1 : c' = cf := by have := hi.symm.trans hf'; simp at this; exact this.1.symm
    rw [hdecl] at hown2
    rw [← e1]; exact Option.some.inj (hown.symm.trans hown2)
  have h6 := u_fits hfc hkC hkind (Or.inr hlay) hi (hty k hk) hnar hfit
  refine W.putFinK hx hb hown (hts _ hlink) (hsame _ hi) hst hcf hin2 (by rw [q2]; exact h6) q1 q3 (by rw [hsl]; exact k2_hasslot (q4 k hk)) rfl rfl hdg fun H' e1 e2 e3 => ?_
  rw [hsl] at e1 ⊢
  exact kk H' _ (hY.set (e := .inr (ci, fs.set k v)) (H1 := H') hn ⟨_, hc, t_OB.to (V := updV (vp_V fs) k v) ⟨_, e1, q2, q3, t_set q4 hap hk v⟩ (fun j _ => vp_updV_set hl v j)⟩ e2 e3 _)
theorem hm_iald (X : hm_X p m c cc nL s args Ts own D cl tys) (hY : hm_Y D cl A H0 w H locs) {cA : ClassId} {N : Nat} {f : Nat → Int32} (hn : w n = some (a, .inl (cA, N, .inl f))) (t0 : Nat) (ht : tys[t0]? = some (cA, .int)) {i : Int32} (hin : vp_in i N) (hdg : decode cc pc = .ok (.iaload, 1))
    (kk : W p l e R s m args below meth c H locs cells slots Q (F0 m (pc + 1) ls (.int (f i.toNatClampNeg) :: rest))) : W p l e R s m args below meth c H locs cells slots Q (F0 m pc ls (.int i :: .ref a :: rest)) :=
  va_iald X.1.1 X.1.2.1 X.2 (hY.one hn) 0 t0 rfl ht hin hdg kk
theorem hm_lald (X : hm_X p m c cc nL s args Ts own D cl tys) (hY : hm_Y D cl A H0 w H locs) {cA : ClassId} {N : Nat} {f : Nat → Int64} (hn : w n = some (a, .inl (cA, N, .inr (.inl f)))) (t0 : Nat) (ht : tys[t0]? = some (cA, .long)) {i : Int32} (hin : vp_in i N) (hdg : decode cc pc = .ok (.laload, 1))
    (kk : W p l e R s m args below meth c H locs cells slots Q (F0 m (pc + 1) ls (.long (f i.toNatClampNeg) :: rest))) : W p l e R s m args below meth c H locs cells slots Q (F0 m pc ls (.int i :: .ref a :: rest)) :=
  va_lald X.1.1 X.1.2.1 X.2 (hY.one hn) 0 t0 rfl ht hin hdg kk
theorem hm_iast (X : hm_X p m c cc nL s args Ts own D cl tys) (hY : hm_Y D cl A H0 w H locs) {cA : ClassId} {N : Nat} {f : Nat → Int32} (hn : w n = some (a, .inl (cA, N, .inl f))) (t0 : Nat) (ht : tys[t0]? = some (cA, .int)) {i x : Int32} (hin : vp_in i N) (hdg : decode cc pc = .ok (.iastore, 1))
    (kk : ∀ (H1 : Heap) (locs1 : List Loc), hm_Y D cl A H0 (hm_up w n (a, .inl (cA, N, .inl (upd f i.toNatClampNeg x)))) H1 locs1 → W p l e R s m args below meth c H1 locs1 cells slots Q (F0 m (pc + 1) ls rest)) : W p l e R s m args below meth c H locs cells slots Q (F0 m pc ls (.int x :: .int i :: .ref a :: rest)) := by
  refine W.iast X.1.1 X.1.2.1 (hY.1 n _ hn) ((X.2.2 t0 _ ht).1 N (fun j => .int (f j))) (fun q => by cases q) (by show ¬ (i < 0 ∨ (arrV _ _ _).slots.size ≤ _); rw [arrV_size]; exact hin) rfl rfl hdg fun H1 e z oq => ?_
  refine kk H1 _ (hY.set hn ?_ z oq _)
  show H1[a]? = some (vp_cell _ _)
  rw [e, vp_cell_i, vp_cell_i, arrV_store]
  congr 2
  funext q
  by_cases hq : q = i.toNatClampNeg
  · subst hq
    simp [updV, upd]
  · simp [updV, upd, hq]
theorem hm_last (X : hm_X p m c cc nL s args Ts own D cl tys) (hY : hm_Y D cl A H0 w H locs) {cA : ClassId} {N : Nat} {f : Nat → Int64} (hn : w n = some (a, .inl (cA, N, .inr (.inl f)))) (t0 : Nat) (ht : tys[t0]? = some (cA, .long)) {i : Int32} {x : Int64} (hin : vp_in i N) (hdg : decode cc pc = .ok (.lastore, 1))
    (kk : ∀ (H1 : Heap) (locs1 : List Loc), hm_Y D cl A H0 (hm_up w n (a, .inl (cA, N, .inr (.inl (vp_updL f i.toNatClampNeg x))))) H1 locs1 → W p l e R s m args below meth c H1 locs1 cells slots Q (F0 m (pc + 1) ls rest)) : W p l e R s m args below meth c H locs cells slots Q (F0 m pc ls (.long x :: .int i :: .ref a :: rest)) := by
  refine W.last X.1.1 X.1.2.1 (hY.1 n _ hn) ((X.2.2 t0 _ ht).1 N (fun j => .long (f j))) (fun q => by cases q) (by show ¬ (i < 0 ∨ (arrV _ _ _).slots.size ≤ _); rw [arrV_size]; exact hin) rfl rfl hdg fun H1 e z oq => ?_
  refine kk H1 _ (hY.set hn ?_ z oq _)
  show H1[a]? = some (vp_cell _ _)
  rw [e, vp_cell_l, vp_cell_l, arrV_store]
  congr 2
  funext q
  by_cases hq : q = i.toNatClampNeg
  · subst hq
    simp [updV, vp_updL]
  · simp [updV, vp_updL, hq]
theorem hm_alen (X : hm_X p m c cc nL s args Ts own D cl tys) (hY : hm_Y D cl A H0 w H locs) {cA : ClassId} {x : vp_A} (hn : w n = some (a, .inl (cA, x))) (t0 : Nat) {ty : FieldType} (ht : tys[t0]? = some (cA, ty)) {v : Int32} (hv : Int32.ofNat x.1 = v) (hdg : decode cc pc = .ok (.arraylength, 1))
    (kk : W p l e R s m args below meth c H locs cells slots Q (F0 m (pc + 1) ls (.int v :: rest))) : W p l e R s m args below meth c H locs cells slots Q (F0 m pc ls (.ref a :: rest)) :=
  va_alen X.1.1 X.1.2.1 X.2 (hY.one hn) 0 t0 rfl ht hv hdg kk
theorem hm_aald (X : hm_X p m c cc nL s args Ts own D cl tys) (hY : hm_Y D cl A H0 w H locs) {cA : ClassId} {C : String} {N : Nat} {f : Nat → Option Nat} (hn : w n = some (a, .inl (cA, N, .inr (.inr (.inr (.inr f)))))) (t0 : Nat) (ht : tys[t0]? = some (cA, .object C)) {i : Int32} (hin : vp_in i N) (hdg : decode cc pc = .ok (.aaload, 1))
    (kk : W p l e R s m args below meth c H locs cells slots Q (F0 m (pc + 1) ls (va_rf (f i.toNatClampNeg) :: rest))) : W p l e R s m args below meth c H locs cells slots Q (F0 m pc ls (.int i :: .ref a :: rest)) :=
  va_aldq X.1.1 X.1.2.1 X.2 (hY.one hn) 0 t0 rfl ht hin hdg kk
theorem hm_new {C : String} {T : u_T} {N ci index : Nat} (X : hm_X p m c cc nL s args Ts own D cl tys) (hY : hm_Y D cl A H0 w H locs) (n : hm_N) (fs : List Value) (hc : cl[ci]? = some (C, T, N)) (hin : ∀ w ∈ u_ws C T N, w ∈ Ts) (ty : Nat → FieldType) (hty : ∀ k, k < N → parseFieldDescriptor (T k).2.2.1 = some (ty k)) (hcl : Cond.classLink own index C ∈ Ts) (hinst : Cond.instantiable C N ∈ Ts) (hini : Cond.initialized C ∈ Ts) (hfs : ∀ j, j < N → defaultValue (ty j) = vp_V fs j) (hcells : cells + 1 ≤ R.cells) (hslots : slots + N ≤ R.slots) (hdg : decode cc pc = .ok (.new index, 3))
    (kk : ∀ (q : Nat) (H1 : Heap), hm_Y D cl A H0 (hm_up w n (q, .inr (ci, fs))) H1 locs → W p l e R s m args below meth c H1 locs (cells + 1) (slots + N) Q (F0 m (pc + 3) ls (.ref q :: rest))) : W p l e R s m args below meth c H locs cells slots Q (F0 m pc ls rest) := by
  obtain ⟨⟨hx, hb, -, hown, hts⟩, hK⟩ := X
  have hKn := hK.1 ci _ hc
  refine W.newcK hx hb hown (hts _ hcl) (hts _ hinst) (hts _ hini) rfl hdg hcells hslots hKn.2.1 rfl fun H1 kC hkC e1 z1 o1 => ?_
  exact kk H.size H1 (hY.new n ⟨_, hc, (u_born ty hts hin hKn hkC e1 hty).to hfs⟩ z1 o1)
end HM2
section HM3
variable {p : Program} {l : Launch} {e : Env} {R : Room} {s : State} {m : MethodId} {args : Array Value} {below : List Frame} {meth : Method} {c : Code} {H : Heap} {locs : List Loc} {cells slots : Nat} {Q : State → Prop}
variable {cc : ByteArray} {nL pc : Nat} {ls : Array Slot} {rest : List Value} {D : va_G} {cl : List vw_C} {A : Nat → Prop} {a : Nat} {tys : List (ClassId × FieldType)} {H0 : Heap} {Ts : List Cond} {own : String} {w : hm_T} {n : hm_N}
/-- a cell of a known class, as a receiver or an element -/
theorem hm_recv {ci : Nat} {q : vw_C} {fs : List Value} (X : hm_X p m c cc nL s args Ts own D cl tys) (hY : hm_Y D cl A H0 w H locs) (hn : w n = some (a, .inr (ci, fs))) (hc : cl[ci]? = some q) : ∃ cell : Cell, H[a]? = some cell ∧ cell.vm.isStatics = false ∧ s.vm.findClass q.1 = some cell.cls :=
  va_recv X.2 (hY.one hn) hc (q0 := 0) rfl
/-- a reference into an array of references of another class -/
theorem hm_aast (X : hm_X p m c cc nL s args Ts own D cl tys) (hY : hm_Y D cl A H0 w H locs) {E C : String} {cA : ClassId} {N v : Nat} {f : Nat → Option Nat} (hn : w n = some (a, .inl (cA, N, .inr (.inr (.inr (.inr f)))))) (t0 : Nat) (ht : tys[t0]? = some (cA, .object E)) (hr : ∃ cellV : Cell, H[v]? = some cellV ∧ cellV.vm.isStatics = false ∧ s.vm.findClass C = some cellV.cls) (hasg : ∀ comp c0 : ClassId, s.vm.findClass E = some comp → s.vm.findClass C = some c0 → s.vm.assignable c0 comp = true) {i : Int32} (hin : vp_in i N) (hdg : decode cc pc = .ok (.aastore, 1))
    (kk : ∀ (H1 : Heap) (locs1 : List Loc), hm_Y D cl A H0 (hm_up w n (a, .inl (cA, N, .inr (.inr (.inr (.inr (va_up f i.toNatClampNeg (some v)))))))) H1 locs1 → W p l e R s m args below meth c H1 locs1 cells slots Q (F0 m (pc + 1) ls rest)) : W p l e R s m args below meth c H locs cells slots Q (F0 m pc ls (.ref v :: .int i :: .ref a :: rest)) := by
  have hlt : i.toNatClampNeg < N := Nat.not_le.mp fun q => hin (Or.inr q)
  have h0 : ¬ i < 0 := fun q => hin (Or.inl q)
  obtain ⟨cellV, g1, g3, g2⟩ := hr
  obtain ⟨kA, comp, k1, k2, k3, -⟩ := (X.2.2 t0 _ ht).2
  obtain ⟨kE, hkE, -⟩ := Vm.findClass_spec k3
  obtain ⟨kC, hkC, -⟩ := Vm.findClass_spec g2
  refine W.aast X.1.1 X.1.2.1 (hY.1 n _ hn) (fun q h => by cases h) (fun h => by cases h) k1 k2 rfl hkE ⟨h0, by show _ < (arrV _ _ _).slots.size; rw [arrV_size]; exact hlt⟩ g1 (fun q h => by rw [h] at g3; cases g3) hkC (hasg _ _ k3 g2) rfl rfl hdg fun H1 e z oq => ?_
  refine kk H1 _ (hY.set hn ?_ z oq _)
  show H1[a]? = some (vp_cell _ _)
  rw [e, vp_cell_q, vp_cell_q, arrV_store]
  congr 2
  funext q
  by_cases hq : q = i.toNatClampNeg
  · subst hq
    simp [updV, va_up, va_rf]
  · simp [updV, va_up, hq]
/-- a new array of numbers; its class is the one that the tables name -/
theorem hm_newa (X : hm_X p m c cc nL s args Ts own D cl tys) (hY : hm_Y D cl A H0 w H locs) (n : hm_N) {atype : ArrayType} (harr : Cond.arrayClass (newarray.typeOf atype) ∈ Ts) {ty : FieldType} (hty : newarray.typeOf atype = ty) {cA : ClassId} (hcA : s.vm.findClass ("[" ++ ty.toString) = some cA) {i : Int32} {N : Nat} {a0 : vp_A} (ha : vp_cell cA a0 = arrV cA N (fun _ => defaultValue ty)) (hi : ¬ i < 0) (hN : i.toNatClampNeg = N) (hbytes : N * componentBytes ty ≤ 536870912) (hcells : cells + 1 ≤ R.cells) (hslots : slots + N ≤ R.slots) (hdg : decode cc pc = .ok (.newarray atype, 2))
    (kk : ∀ (q : Nat) (H1 : Heap), hm_Y D cl A H0 (hm_up w n (q, .inl (cA, a0))) H1 locs → W p l e R s m args below meth c H1 locs (cells + 1) (slots + N) Q (F0 m (pc + 2) ls (.ref q :: rest))) : W p l e R s m args below meth c H locs cells slots Q (F0 m pc ls (.int i :: rest)) := by
  subst hty
  refine va_newaK X.1.1 X.1.2.1 (X.1.2.2.2.2 _ harr) rfl hdg rfl hi hN hbytes hcells hslots rfl fun H1 cB e1 z1 o1 hAr hNm => ?_
  have hc : cB = cA := Option.some.inj (hNm.symm.trans hcA)
  subst hc
  refine kk H.size H1 (hY.new n ?_ z1 o1)
  show H1[H.size]? = some (vp_cell _ _)
  rw [ha]
  exact e1
/-- a new array of references -/
theorem hm_newq (X : hm_X p m c cc nL s args Ts own D cl tys) (hY : hm_Y D cl A H0 w H locs) (n : hm_N) {C : String} {index : Nat} (hclink : Cond.classLink own index C ∈ Ts) (hover : (Cond.arrayOver (.object C)).before args s = true) {cA : ClassId} (hcA : s.vm.findClass ("[" ++ (FieldType.object C).toString) = some cA) {i : Int32} {N : Nat} (hi : ¬ i < 0) (hN : i.toNatClampNeg = N) (hbytes : N * 4 ≤ 536870912) (hcells : cells + 1 ≤ R.cells) (hslots : slots + N ≤ R.slots) (hdg : decode cc pc = .ok (.anewarray index, 3))
    (kk : ∀ (q : Nat) (H1 : Heap), hm_Y D cl A H0 (hm_up w n (q, .inl (cA, N, .inr (.inr (.inr (.inr (fun _ => none))))))) H1 locs → W p l e R s m args below meth c H1 locs (cells + 1) (slots + N) Q (F0 m (pc + 3) ls (.ref q :: rest))) : W p l e R s m args below meth c H locs cells slots Q (F0 m pc ls (.int i :: rest)) := by
  subst hN
  refine W.anew X.1.1 X.1.2.1 X.1.2.2.2.1 (X.1.2.2.2.2 _ hclink) hover rfl hdg rfl hi hbytes hcells hslots fun cB kA comp f1 f2 f3 f4 => ?_
  have hc : cB = cA := Option.some.inj (f1.symm.trans hcA)
  subst hc
  generalize hH1 : H.push ({ cls := cB, slots := Array.replicate i.toNatClampNeg .null, vm := .none } : Cell) = H1
  have z1 : H1.size = H.size + 1 := by rw [← hH1, Array.size_push]
  have e1 : H1[H.size]? = some (arrV cB i.toNatClampNeg (fun _ => .null)) := by rw [← hH1, Array.getElem?_push_size, ← arrV_new]
  have o1 : ∀ q : Nat, q < H.size → H1[q]? = H[q]? := fun q hq => by rw [← hH1, Array.getElem?_push, if_neg (Nat.ne_of_lt hq)]
  refine kk H.size H1 (hY.new n ?_ z1 o1)
  show H1[H.size]? = some (vp_cell _ _)
  rw [vp_cell_q]
  exact e1
end HM3
/-- a method's end: its answer and the cells behind it; what isn't in A stays -/
def hm_Q (D : va_G) (cl : List vw_C) (A : Nat → Prop) (post : Option Value → hm_T → Prop) : Array Value → State → Outcome → State → Prop := fun _ st oc t => (∃ (v : Option Value) (w : hm_T), oc = .returned v ∧ post v w ∧ hm_B D cl A w t) ∧ va_F A st t
/-- a method that only reads -/
def hm_R (post : Option Value → Prop) : Array Value → State → Outcome → State → Prop := fun _ st oc t => ∃ v : Option Value, oc = .returned v ∧ post v ∧ t.heap = st.heap
section HM4
variable {p : Program} {l : Launch} {e : Env} {R : Room} {s : State} {m : MethodId} {args : Array Value} {below : List Frame} {meth : Method} {c : Code} {H : Heap} {locs : List Loc} {cells slots mc ms : Nat} {Q : State → Prop}
variable {pc : Nat} {ls : Array Slot} {rest st0 : List Value} {D : va_G} {cl : List vw_C} {A : Nat → Prop} {H0 : Heap} {w : hm_T} {a : Array Value}
theorem hm_call {post : Option Value → hm_T → Prop} (hr : va_Run p l e R s m args below meth c H locs cells slots mc ms (F0 m pc ls st0) rest (hm_Q D cl A post a) A) (hY : hm_Y D cl A H0 w H locs)
    (kk : ∀ (v : Option Value) (w1 : hm_T) (H1 : Heap) (locs1 : List Loc), post v w1 → hm_Y D cl A H0 w1 H1 locs1 → W p l e R s m args below meth c H1 locs1 (cells + mc) (slots + ms) Q (F0 m (pc + 3) ls (v.toList ++ rest))) : W p l e R s m args below meth c H locs cells slots Q (F0 m pc ls st0) := by
  intro T hT X
  obtain ⟨v, st₀, t, T', L, h0, X', hL, e1, e2, ⟨⟨v', w1, hv, hp, hb⟩, hz, hk⟩, st⟩ := hr T hT X
  cases hv
  rw [h0] at hz hk
  obtain ⟨-, -, hS, hA⟩ := hY
  obtain ⟨t2, a1, b1⟩ := kk v w1 T'.heap (locs ++ L) hp ⟨by rw [e1]; exact hb.1, hb.2, ⟨Nat.le_trans hS.1 (by rw [e1]; exact hz), fun q h1 h2 => by rw [e1, hk q (Nat.lt_of_lt_of_le h1 hS.1) h2]; exact hS.2.1 q h1 h2, fun q hq => by
      rcases List.mem_append.mp hq with h | h
      · exact hS.2.2 q h
      · exact hL q h⟩, hA⟩ T' rfl X'
  exact ⟨t2, st t2 a1, b1⟩
theorem hm_callR {post : Option Value → Prop} (hr : va_Run p l e R s m args below meth c H locs cells slots 0 0 (F0 m pc ls st0) rest (hm_R post a) (fun _ => False))
    (kk : ∀ v : Option Value, post v → W p l e R s m args below meth c H locs cells slots Q (F0 m (pc + 3) ls (v.toList ++ rest))) : W p l e R s m args below meth c H locs cells slots Q (F0 m pc ls st0) := by
  intro T hT X
  obtain ⟨v, st₀, t, T', L, h0, X', hL, e1, -, ⟨v', hv, hp, hh⟩, st⟩ := hr T hT X
  cases hv
  obtain ⟨t2, a1, b1⟩ := kk v hp T' (by rw [e1, hh, h0]) (Stand.forget X' (fun q h => (hL q h).elim))
  exact ⟨t2, st t2 a1, b1⟩
end HM4
