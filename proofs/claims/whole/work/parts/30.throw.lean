/-! THE THROW: what it stands on besides the words that stay: casts, declarations, the text's constant, two statics of Throwable -/
def thZ (n d : String) (A : Nat → Prop) (U : State) (H : Heap) : Prop := ∃ (c : ClassId) (k : Class) (i : Nat) (f : Field) (a : Nat) (cell : Cell) (v : Value), U.vm.findClass R_TH = some c ∧ U.fieldFound? R_TH n d = some (c, k, i, f) ∧ f.isStatic = true ∧ k.statics = some a ∧ k.staticTypes[f.slot]? = some f.type ∧ H[a]? = some cell ∧ cell.vm.isStatics = true ∧ cell.cls = c ∧ f.slot < cell.slots.size ∧ cell.slots[f.slot]? = some v ∧ v.isRef = true ∧ ¬ A a
theorem thZ.moved {n d : String} {A : Nat → Prop} {u U : State} {H : Heap} (hvm : u.vm.Alike U.vm) (h : thZ n d A u H) : thZ n d A U H := by
  obtain ⟨c, k, i, f, a, cell, v, h0, h1, h2, h3, h4, h5⟩ := h
  obtain ⟨k', hi', he⟩ := State.fieldFound?_setVm hvm h1
  exact ⟨c, k', i, f, a, cell, v, by rw [hvm.findClass]; exact h0, hi', h2, by rw [he]; exact h3, by rw [he]; exact h4, h5⟩
theorem thZ.kept {n d : String} {A : Nat → Prop} {U : State} {H H1 : Heap} (h : thZ n d A U H) (hq : ∀ a : Nat, a < H.size → ¬ A a → H1[a]? = H[a]?) : thZ n d A U H1 := by
  obtain ⟨c, k, i, f, a, cell, v, h0, h1, h2, h3, h4, h5, h6, h7, h8, h9, h10, h11⟩ := h
  exact ⟨c, k, i, f, a, cell, v, h0, h1, h2, h3, h4, by rw [hq a (Array.getElem?_eq_some_iff.mp h5).1 h11]; exact h5, h6, h7, h8, h9, h10, h11⟩
theorem thZ.of {n d : String} {A : Nat → Prop} {s : State} {args : Array Value} (hl : (Cond.laysStatic R_TH n d).before args s = true) (hr : (Cond.isRef (.static R_TH n d)).before args s = true) (hA : ∀ a : Nat, a < s.heap.size → ¬ A a) : thZ n d A s s.heap := by
  obtain ⟨c, k, i, f, a, cell, hc, hi, hst, ha, hcell, hs, hcls, hlt, hty⟩ := Cond.laysStatic_spec hl
  obtain ⟨u, hu⟩ := Cond.staticRefV hi hst ha hcell hs hr
  exact ⟨c, k, i, f, a, cell, u.v, hc, hi, hst, ha, hty, hcell, hs, hcls, hlt, hu, u.2, hA a (Array.getElem?_eq_some_iff.mp hcell).1⟩
theorem thZ.lays {n d : String} {A : Nat → Prop} {s : State} {args : Array Value} (h : thZ n d A s s.heap) : (Cond.laysStatic R_TH n d).before args s = true := by
  obtain ⟨c, k, i, f, a, cell, v, h0, h1, h2, h3, h4, h5, h6, h7, h8, h9, h10, h11⟩ := h
  simp [Cond.before, Cond.holds, Cond.value, h0, h1, h2, h3, h4, h5, h6, h7, h8]
theorem thZ.ref {n d : String} {A : Nat → Prop} {s : State} {args : Array Value} (h : thZ n d A s s.heap) : (Cond.isRef (.static R_TH n d)).before args s = true := by
  obtain ⟨c, k, i, f, a, cell, v, h0, h1, h2, h3, h4, h5, h6, h7, h8, h9, h10, h11⟩ := h
  have he : (Term.static R_TH n d).eval args s none [] s = some v := by
    simp only [Term.eval, State.fieldNamed?, h1, h2, h3, h5, h6, Option.bind_eq_bind, Option.bind_some, Option.map_some]
    simp [h1, h2, h3, h5, h6, h9]
  simp only [Cond.before, Cond.holds, Cond.value, he]
  cases v <;> first | rfl | (simp [Value.isRef] at h10)
def thN (U : State) : Prop := va_Nw (.castable R_AE R_AE) U ∧ va_Nw (.declares (Bundle.initS R_RE)) U ∧ va_Nw (.declares (Bundle.initS R_EX)) U ∧ va_Nw (.declares (Bundle.initS R_TH)) U ∧ ∃ q, vk_R R_W 63 "a span of 0 has no rate" q U
def thX (A : Nat → Prop) (U : State) : Prop := thN U ∧ thZ "UNASSIGNED_STACK" Bundle.steD A U U.heap ∧ thZ "SUPPRESSED_SENTINEL" Bundle.listD A U U.heap
theorem thX.warm {A : Nat → Prop} {s U : State} {H : Heap} (h : thX A s) (hq : ∀ a : Nat, a < s.heap.size → ¬ A a → H[a]? = s.heap[a]?) (hU : U.heap = H) (hW : s.WarmedH U.vm) : thX A U := by
  obtain ⟨⟨h1, h2, h3, h4, q, h5⟩, h6, h7⟩ := h
  refine ⟨⟨va_Nw.warmC hW h1, va_Nw.warmD hW h2, va_Nw.warmD hW h3, va_Nw.warmD hW h4, q, vk_R.warm hW h5⟩, ?_, ?_⟩
  · rw [hU]
    exact (h6.kept hq).moved hW.alike
  · rw [hU]
    exact (h7.kept hq).moved hW.alike
theorem thX.same {A : Nat → Prop} {s U : State} (h : thX A s) (hv : s.vm = U.vm) (hh : s.heap = U.heap) : thX A U := by
  obtain ⟨⟨h1, h2, h3, h4, q, h5⟩, h6, h7⟩ := h
  have hal : s.vm.Alike U.vm := by rw [hv]; exact Vm.Alike.refl _
  refine ⟨⟨va_Nw.same rfl hv h1, va_Nw.same rfl hv h2, va_Nw.same rfl hv h3, va_Nw.same rfl hv h4, q, vk_R.same hv.symm h5⟩, ?_, ?_⟩
  · rw [← hh]
    exact h6.moved hal
  · rw [← hh]
    exact h7.moved hal
theorem th_cast {A : Nat → Prop} {s : State} {args : Array Value} (h : thX A s) : (Cond.castable R_AE R_AE).before args s = true := va_Nw.use rfl h.1.1
theorem th_r1 {A : Nat → Prop} {s : State} {args : Array Value} (h : thX A s) : (Cond.isRef (.static Bundle.tN "UNASSIGNED_STACK" Bundle.steD)).before args s = true := h.2.1.ref
theorem th_r2 {A : Nat → Prop} {s : State} {args : Array Value} (h : thX A s) : (Cond.isRef (.static Bundle.tN "SUPPRESSED_SENTINEL" Bundle.listD)).before args s = true := h.2.2.ref
theorem th_ls1 {A : Nat → Prop} {s : State} {args : Array Value} (h : thX A s) : (Cond.laysStatic Bundle.tN "UNASSIGNED_STACK" Bundle.steD).before args s = true := h.2.1.lays
theorem th_ls2 {A : Nat → Prop} {s : State} {args : Array Value} (h : thX A s) : (Cond.laysStatic Bundle.tN "SUPPRESSED_SENTINEL" Bundle.listD).before args s = true := h.2.2.lays
theorem th_dRE {A : Nat → Prop} {s : State} {args : Array Value} (h : thX A s) : (Cond.declares (Bundle.initS R_RE)).before args s = true := va_Nw.use rfl h.1.2.1
theorem th_dEX {A : Nat → Prop} {s : State} {args : Array Value} (h : thX A s) : (Cond.declares (Bundle.initS R_EX)).before args s = true := va_Nw.use rfl h.1.2.2.1
theorem th_dTH {A : Nat → Prop} {s : State} {args : Array Value} (h : thX A s) : (Cond.declares (Bundle.initS R_TH)).before args s = true := va_Nw.use rfl h.1.2.2.2.1
theorem th_1 {A : Nat → Prop} {s : State} {args : Array Value} (hts : ∀ w ∈ wsA, w.before args s = true) (h : thX A s) : ∀ a ∈ Bundle.throwableAtoms, a.before args s = true := List.forall_mem_cons.mpr ⟨hts _ (wsA_1 7 rfl rfl), List.forall_mem_cons.mpr ⟨hts _ (wsA_2 153 rfl rfl), List.forall_mem_cons.mpr ⟨hts _ (wsA_2 162 rfl rfl), List.forall_mem_cons.mpr ⟨hts _ (wsA_2 164 rfl rfl), List.forall_mem_cons.mpr ⟨hts _ (wsA_2 167 rfl rfl), List.forall_mem_cons.mpr ⟨hts _ (wsA_2 169 rfl rfl), List.forall_mem_cons.mpr ⟨hts _ (wsA_2 154 rfl rfl), List.forall_mem_cons.mpr ⟨hts _ (wsA_2 155 rfl rfl), List.forall_mem_cons.mpr ⟨hts _ (wsA_1 25 rfl rfl), List.forall_mem_cons.mpr ⟨hts _ (wsA_1 26 rfl rfl), List.forall_mem_cons.mpr ⟨hts _ (wsA_2 156 rfl rfl), List.forall_mem_cons.mpr ⟨hts _ (wsA_2 161 rfl rfl), List.forall_mem_cons.mpr ⟨hts _ (wsA_2 165 rfl rfl), List.forall_mem_cons.mpr ⟨hts _ (wsA_2 185 rfl rfl), List.forall_mem_cons.mpr ⟨hts _ (wsA_2 143 rfl rfl), List.forall_mem_cons.mpr ⟨hts _ (wsA_2 186 rfl rfl), List.forall_mem_cons.mpr ⟨hts _ (wsA_2 145 rfl rfl), List.forall_mem_cons.mpr ⟨hts _ (wsA_2 187 rfl rfl), List.forall_mem_cons.mpr ⟨hts _ (wsA_2 147 rfl rfl), List.forall_mem_cons.mpr ⟨hts _ (wsA_2 157 rfl rfl), List.forall_mem_cons.mpr ⟨th_ls1 h, List.forall_mem_cons.mpr ⟨hts _ (wsA_2 159 rfl rfl), List.forall_mem_cons.mpr ⟨th_ls2 h, List.forall_mem_cons.mpr ⟨hts _ (wsA_2 149 rfl rfl), fun _ h => absurd h List.not_mem_nil⟩⟩⟩⟩⟩⟩⟩⟩⟩⟩⟩⟩⟩⟩⟩⟩⟩⟩⟩⟩⟩⟩⟩⟩
theorem th_2 {A : Nat → Prop} {s : State} {args : Array Value} (hts : ∀ w ∈ wsA, w.before args s = true) (h : thX A s) : ∀ a ∈ Bundle.throwableSAtoms, a.before args s = true := List.forall_mem_cons.mpr ⟨hts _ (wsA_2 181 rfl rfl), List.forall_mem_cons.mpr ⟨hts _ (wsA_2 182 rfl rfl), List.forall_mem_cons.mpr ⟨hts _ (wsA_2 184 rfl rfl), List.forall_mem_cons.mpr ⟨hts _ (wsA_2 149 rfl rfl), fun _ h => absurd h List.not_mem_nil⟩⟩⟩⟩
theorem th_3 {A : Nat → Prop} {s : State} {args : Array Value} (hts : ∀ w ∈ wsA, w.before args s = true) (h : thX A s) : ∀ a ∈ Bundle.passSAtoms R_AE R_RE 7 Bundle.six, a.before args s = true := List.forall_mem_cons.mpr ⟨hts _ (wsA_2 172 rfl rfl), List.forall_mem_cons.mpr ⟨hts _ (wsA_2 173 rfl rfl), List.forall_mem_cons.mpr ⟨hts _ (wsA_2 174 rfl rfl), List.forall_mem_cons.mpr ⟨hts _ (wsA_2 175 rfl rfl), List.forall_mem_cons.mpr ⟨th_dRE h, fun _ h => absurd h List.not_mem_nil⟩⟩⟩⟩⟩
theorem th_4 {A : Nat → Prop} {s : State} {args : Array Value} (hts : ∀ w ∈ wsA, w.before args s = true) (h : thX A s) : ∀ a ∈ Bundle.passSAtoms R_RE R_EX 7 Bundle.six, a.before args s = true := List.forall_mem_cons.mpr ⟨hts _ (wsA_2 175 rfl rfl), List.forall_mem_cons.mpr ⟨hts _ (wsA_2 176 rfl rfl), List.forall_mem_cons.mpr ⟨hts _ (wsA_2 177 rfl rfl), List.forall_mem_cons.mpr ⟨hts _ (wsA_2 178 rfl rfl), List.forall_mem_cons.mpr ⟨th_dEX h, fun _ h => absurd h List.not_mem_nil⟩⟩⟩⟩⟩
theorem th_5 {A : Nat → Prop} {s : State} {args : Array Value} (hts : ∀ w ∈ wsA, w.before args s = true) (h : thX A s) : ∀ a ∈ Bundle.passSAtoms R_EX Bundle.tN 7 Bundle.six, a.before args s = true := List.forall_mem_cons.mpr ⟨hts _ (wsA_2 178 rfl rfl), List.forall_mem_cons.mpr ⟨hts _ (wsA_2 179 rfl rfl), List.forall_mem_cons.mpr ⟨hts _ (wsA_2 180 rfl rfl), List.forall_mem_cons.mpr ⟨hts _ (wsA_2 181 rfl rfl), List.forall_mem_cons.mpr ⟨th_dTH h, fun _ h => absurd h List.not_mem_nil⟩⟩⟩⟩⟩
theorem th_own {A : Nat → Prop} {s : State} {args : Array Value} (hts : ∀ w ∈ wsA, w.before args s = true) (h : thX A s) : ∀ a ∈ Bundle.ownAtoms R_W 65 R_AE [R_RE, R_EX], a.before args s = true := by
  refine List.forall_mem_append.mpr ⟨List.forall_mem_append.mpr ⟨List.forall_mem_append.mpr ⟨th_1 hts h, th_2 hts h⟩, List.forall_mem_append.mpr ⟨th_3 hts h, List.forall_mem_append.mpr ⟨th_4 hts h, th_5 hts h⟩⟩⟩, ?_⟩
  exact List.forall_mem_cons.mpr ⟨hts _ (wsA_2 171 rfl rfl), List.forall_mem_cons.mpr ⟨hts _ (wsA_2 132 rfl rfl), List.forall_mem_cons.mpr ⟨th_cast h, List.forall_mem_cons.mpr ⟨hts _ (wsA_2 140 rfl rfl), List.forall_mem_cons.mpr ⟨hts _ (wsA_2 141 rfl rfl), List.forall_mem_cons.mpr ⟨hts _ (wsA_2 142 rfl rfl), List.forall_mem_cons.mpr ⟨hts _ (wsA_2 144 rfl rfl), List.forall_mem_cons.mpr ⟨hts _ (wsA_2 146 rfl rfl), List.forall_mem_cons.mpr ⟨hts _ (wsA_2 148 rfl rfl), List.forall_mem_cons.mpr ⟨th_r1 h, List.forall_mem_cons.mpr ⟨th_r2 h, List.forall_mem_cons.mpr ⟨hts _ (wsA_2 152 rfl rfl), List.forall_mem_cons.mpr ⟨hts _ (wsA_2 151 rfl rfl), List.forall_mem_cons.mpr ⟨hts _ (wsA_2 150 rfl rfl), fun _ h => absurd h List.not_mem_nil⟩⟩⟩⟩⟩⟩⟩⟩⟩⟩⟩⟩⟩⟩
