/-! A CATCH WHOSE CLASS MAY NOT BE RESOLVED YET; A METHOD THAT THROWS, AND ITS CALL -/
theorem th_find {e : Env} {s : State} {f : JFrame} {a : Addr} {Q : Handler → Pre} {E : CtlPost} {d : Bool} {acts : List Action} {x : ExceptionTableEntry} {t : List ExceptionTableEntry} {c : ClassId} {cell : Cell} {vm' : Vm} (hx : covers x f.pc = true) (h0 : x.catchType ≠ 0) (hg : (Jvm.resolveClass f.method.cls x.catchType).Gives e.toSetting s.vm (.ok c) vm') (hsz : vm'.classes.size ≤ s.vm.classes.size) (hcell : s.heap[a]? = some cell) (hobj : ∀ k, cell.vm ≠ .statics k) (hk : ∃ k, vm'.classes[cell.cls]? = some k) (hc : ∃ k, vm'.classes[c]? = some k) (hfit : vm'.assignable cell.cls c = true) :
    wp (findHandler.go f a (x :: t)) Q E e d acts s ↔ Q (.found x.handlerPc) d acts (s.setVm vm') := by
  simp only [covers] at hx
  obtain ⟨ha, ht⟩ := hg.op (op := VmOp.resolveClass f.method.cls x.catchType) rfl
  simp [findHandler.go, hx, h0, ha, ht, hsz, hcell, hobj, hk, hc, hfit, VmOp.dirties, VmOp.acts]
theorem th_step {e : Env} {s : State} {a : Addr} {f : JFrame} {r : List Frame} {pc : Nat} {vm' : Vm} (hfind : ∀ (Q : Handler → Pre) (E : CtlPost) (d : Bool) (acts : List Action), wp (findHandler f a) Q E e d acts s ↔ Q (.found pc) d acts (s.setVm vm')) :
    (stepThrowing e s a (.java f :: r)).Is ((s.setVm vm').setFrames (.java { f with pc := pc, stack := [.ref a] } :: r)) [] := by
  simp only [stepThrowing, searchFrame, vmDo]
  generalize hr : Sem.go _ e false [] s = res
  obtain ⟨as, rfl, ha⟩ := Sem.eq_ok_of hr (a := Handler.found pc) (s' := s.setVm vm') (acts' := []) (by simp [hfind _ _ _ _])
  exact ⟨rfl, ha⟩
theorem th_caught {tb : Tables} {e : Env} {s target : State} {g : JFrame} {c : Code} {below : List Frame} {a : Addr} {vm' : Vm} (h : At s g.method c below) {pc : Nat} (hfind : ∀ (Q : Handler → Pre) (E : CtlPost) (d : Bool) (acts : List Action), wp (findHandler g a) Q E e d acts ((s.setTop g).pushFrame (.throwing a)) ↔ Q (.found pc) d acts (((s.setTop g).pushFrame (.throwing a)).setVm vm'))
    (hrest : Steps tb e below ((s.setVm vm').setTop { g with pc := pc, stack := [.ref a] }) target) :
    Steps tb e below ((s.setTop g).pushFrame (.throwing a)) target := by
  obtain ⟨hgo, hw⟩ := h.throwing a
  refine Steps.head hgo hw ?_
  rw [stepThread_throwing (frames_entered h.top _), (th_step (s := (s.setTop g).pushFrame (.throwing a)) hfind).1]
  obtain ⟨g₀, hg⟩ := Option.isSome_iff_exists.mp h.top
  obtain ⟨r, hr⟩ := State.topJava?_eq_some.mp hg
  have hr' : (s.setVm vm').frames = .java g₀ :: r := hr
  rw [State.setTop_of_frames _ hr'] at hrest
  rw [State.pushFrame, State.setTop_of_frames _ hr, State.setFrames_setFrames, hr]
  have e1 : ∀ (z : State) (v : Vm) (fs fs2 : List Frame), ((z.setFrames fs).setVm v).setFrames fs2 = (z.setVm v).setFrames fs2 := fun z v fs fs2 => by
    show ((z.setVm v).setFrames fs).setFrames fs2 = _
    exact State.setFrames_setFrames _ _ _
  rw [e1]
  exact hrest
/-- a contract of a method that throws -/
def MetT (l : Launch) (y : MethodName) (ws : List Cond) (rm : Room) (Pc : Array Value → State → Prop) (Qx : State → Addr → State → Prop) (mc ms : Nat) : Prop :=
  MetFree l y (headSpec ws rm) Pc (fun _ _ _ _ _ => True) (fun _ st o t => (∃ x, o = .threw x ∧ Qx st x t) ∧ FrameEndT st o t [] mc ms)
def TQ (below : List Frame) (s : State) (Qx : State → Addr → State → Prop) (mc ms : Nat) : State → Prop := fun t => ∃ x, t.status = .running ∧ Ended t below (.threw x) ∧ Qx s x t ∧ FrameEndT s (.threw x) t [] mc ms
def thQ (D : va_G) (A : Nat → Prop) (w : hm_T) (st : State) (x : Addr) (t : State) : Prop := (∃ ce : Cell, t.heap[x]? = some ce ∧ ce.vm = .none ∧ st.vm.findClass R_AE = some ce.cls) ∧ hm_B D cls A w t ∧ va_F A st t
theorem ct_metT {l : Launch} {y : MethodName} {b : ByteArray} {maxL : Nat} {ret : Option FieldType} {rm : Room} {av : List Value} {Pre : State → Prop} {Qx : State → Addr → State → Prop} {mc ms : Nat} (hy : plainName y.cls = true) (hargs : (lg_sl av).length ≤ maxL)
    (body : ∀ (p : Program) (e : Env) (s : State) (m : MethodId) (below : List Frame) (meth : Method) (c : Code) (ls : Array Slot), l.admits e → (∀ pc : Nat, ∀ x ∈ c.exceptionTable.toList, covers x pc = false) → CallFix p m c b maxL s av.toArray wsA y.cls → meth.sig.returnType = ret → meth.locks = false → lv_has ls maxL (lv_args 0 av) → Pre s →
      W p l e rm s m av.toArray below meth c s.heap [] 0 0 (TQ below s Qx mc ms) (F0 m 0 ls [])) : MetT l y (.code y b maxL ret :: wsA) rm (va_Pc av Pre) Qx mc ms := by
  refine MetFree.of_bodyS (code := b) (maxLocals := maxL) (ret := ret) hy ?_ ?_
  · intro args s m h hn
    obtain ⟨meth, c, h1, h2, h3, h4, h5, h6, -, -⟩ := Cond.code_spec hn (atoms_spec (ws := Cond.code y b maxL ret :: wsA) h _ List.mem_cons_self)
    exact ⟨meth, c, h1, h2, h3, h4, h5, h6⟩
  · intro p e s m args below meth c s₁ B hml hv _
    obtain ⟨rfl, hPre⟩ := hv
    have hts := atoms_spec (ws := Cond.code y b maxL ret :: wsA) B.pre
    have hl := lv_entry av (n := maxL) hargs
    have hh0 : s₁.heap = s.heap := by rw [B.state]; rfl
    have hno := B.noHandlers (hts _ List.mem_cons_self)
    have key := body p e s m below meth c _ B.admits (covers_of_empty hno) ⟨B.exec, B.bytes, hml, findClass_of_methodNamed B.named, fun w h => hts w (List.mem_cons_of_mem _ h)⟩ B.returns B.notSynchronized hl hPre
    rw [← lg_entry_eq] at key
    obtain ⟨t, a1, x, b1, b2, b3, b4⟩ := key s₁ hh0 (Stand.of_body B)
    exact ⟨t, .threw x, a1, b1, b2, ⟨x, rfl, b3⟩, b4⟩
theorem th_same {s t : State} {k n : Nat} (h : s.sameButNew ({ t with vm := s.vm } : State) [] k n) : s.heap.size ≤ t.heap.size ∧ ∀ (q : Nat) (cell : Cell), s.heap[q]? = some cell → t.heap[q]? = some cell := by
  obtain ⟨-, h1, -, -, -, h2⟩ := h
  refine ⟨h1, fun q cell hq => ?_⟩
  obtain ⟨c', g1, g2, g3, g4⟩ := h2 q cell hq
  have e : c'.slots = cell.slots := Array.ext_getElem? (fun i => g4 i (by simp))
  rw [e] at g2
  rw [show c' = cell from g2] at g1
  exact g1
theorem th_keep {D : va_G} {A : Nat → Prop} {w : hm_T} {s t : State} (hB : hm_B D cls A w s) (h : s.heap.size ≤ t.heap.size ∧ ∀ (q : Nat) (cell : Cell), s.heap[q]? = some cell → t.heap[q]? = some cell) : hm_B D cls A w t ∧ va_F A s t := by
  have hq : ∀ q : Nat, q < s.heap.size → t.heap[q]? = s.heap[q]? := fun q hq => by
    rw [h.2 q _ (Array.getElem?_eq_getElem hq), Array.getElem?_eq_getElem hq]
  exact ⟨⟨fun n q hn => (hB.1 n q hn).kept (hq q.1 (hB.1 n q hn).lt), hB.2⟩, h.1, fun q h1 _ => hq q h1⟩
/-- from the 'new' of part's exception to its leaving -/
theorem th_go {p : Program} {l : Launch} {e : Env} {R : Room} {s : State} {m : MethodId} {args : Array Value} {below : List Frame} {meth : Method} {c : Code} {ls : Array Slot} {D : va_G} {A : Nat → Prop} {w : hm_T} {mc ms : Nat} (htr : e.platform.stackTraces = false) (X : CallFix p m c c_W_part 5 s args wsA R_W) (hth : thX A s) (hB : hm_B D cls A w s) (hlocks : meth.locks = false) (hno : ∀ pc : Nat, ∀ x ∈ c.exceptionTable.toList, covers x pc = false) (hls : ls.size = 5) (hRf : 5 < R.frames) (hRl : 83 ≤ R.locals) (hRc : 1 ≤ R.cells) (hRs : 6 ≤ R.slots) (hmc : 1 ≤ mc) (hms : 6 ≤ ms) : W p l e R s m args below meth c s.heap [] 0 0 (TQ below s (thQ D A w) mc ms) (F0 m 60 ls []) := by
  intro T hT Y
  have hts := X.2.2.2.2
  have hown := th_own hts hth
  obtain ⟨q, hq⟩ := hth.1.2.2.2.2
  obtain ⟨vm₁, cX, kX, hfX, hkX, -, -, X₁, st1⟩ := Y.newCold X.1 (own := R_W) (C := R_AE) (index := 61) (n := 6) X.2.2.2.1 (hts _ m_371) (hts _ m_372) (hts _ m_10) (g := F0 m 60 ls []) rfl (by rw [X.2.1]; exact d_W_part_60) (by omega) (by omega)
  generalize hT2 : (T.setVm vm₁).pushCell { cls := cX, slots := kX.instanceTypes.map defaultValue, vm := .none } = T2 at X₁ st1
  have hcellA : T2.heap[T.heap.size]? = some (freshCell cX kX) := by rw [← hT2]; exact State.heap_pushCell_size _ _
  obtain ⟨U, hsteps, hrun, hend, hW, hsame, ce, hce, K⟩ := X₁.ctorThrowS X.1 htr (own := R_W) (cls := R_AE) (names := [R_RE, R_EX]) (ic := 65) X.2.2.2.1 (by decide +kernel) (by decide +kernel) hown (fun y hy => by cases hy) hfX hkX hcellA (by rw [hT]; exact Nat.le_refl _) (msg := .ref q) rfl
    (g := F0 m 66 ls [.ref q, .ref T.heap.size, .ref T.heap.size]) rfl (hls.trans X.2.2.1.symm) rfl rfl (rest := []) rfl (by rw [X.2.1]; exact d_W_part_66) (by rw [X.2.1]; exact d_W_part_69) (hno _) (by simpa using hRf) (by simp [Value.category]; omega) hlocks
  have hk := th_keep hB (th_same hsame)
  refine ⟨U, ?_, T.heap.size, hrun, hend, ⟨⟨ce, hce, K.vm, K.cls⟩, hk⟩, ⟨_, rfl⟩, hW, hsame.weaken (fun y hy _ => hy) (by omega) (by omega)⟩
  refine st1 _ ?_
  have hdup : decode c.code 63 = .ok (.dup, 1) := by rw [X.2.1]; exact d_W_part_63
  show Steps p.tables e below (T2.setTop (F0 m 63 ls [.ref T.heap.size])) _
  jvm_step X₁.here [X₁.here.top, X.1, hdup, Value.category]
  exact X₁.ldcString X.1 (own := R_W) (text := "a span of 0 has no rate") (index := 63) (a := q) X.2.2.2.1 hq.1 hq.2 (g := F0 m 64 ls [.ref T.heap.size, .ref T.heap.size]) rfl (by rw [X.2.1]; exact d_W_part_64) _ hsteps
