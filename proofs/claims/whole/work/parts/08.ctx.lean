/-! WHAT EVERY METHOD STANDS IN: the array classes G 1 (int), G 2 (boolean), G 3 (long), G 4 (Object), the empty static array G 0; words that move by their own rows -/
abbrev gT (G : Nat → Nat) : List (ClassId × FieldType) := [(G 1, .int), (G 2, .boolean), (G 3, .long), (G 4, .object "java/lang/Object")]
def ctN (G : Nat → Nat) (U : State) : Prop :=
  va_Nw (.methodLinkNest R_P 60 y_W_isWithin R_W) U ∧ va_Nw (.methodLinkNest R_Q 37 y_W_isWithin R_W) U ∧ va_Nw (.castable R_P R_P) U ∧ va_Nw (.castable R_D R_D) U ∧ va_Nw (.castable R_P R_O) U ∧ va_Nw (.castable R_D R_O) U ∧ va_AO R_O U ∧ va_Mi "[Ljava/lang/Object;" (G 5) U ∧ va_Dc U
def ctZ (A : Nat → Prop) (G : Nat → Nat) (U : State) (H : Heap) : Prop :=
  va_Z R_A "DEFAULTCAPACITY_EMPTY_ELEMENTDATA" "[Ljava/lang/Object;" (.ref (G 0)) A U H ∧ va_T (.object R_O) (G 0) 0 (fun _ => .null) A U H
def ctK (D : va_G) (A : Nat → Prop) (G : Nat → Nat) (U : State) : Prop :=
  va_K D cls (gT G) U ∧ ctN G U ∧ ctZ A G U U.heap ∧ ∀ q : Nat, U.heap.size ≤ q → A q
def ctU (D : va_G) (A : Nat → Prop) (G : Nat → Nat) (w : hm_T) (U : State) : Prop := hm_B D cls A w U ∧ ctK D A G U
theorem ctN.warm {G : Nat → Nat} {s U : State} (h : ctN G s) (hW : s.WarmedH U.vm) : ctN G U := by
  obtain ⟨h1, h2, h3, h4, h5, h6, h7, h8, h9⟩ := h
  exact ⟨va_Nw.warmM hW h1, va_Nw.warmM hW h2, va_Nw.warmC hW h3, va_Nw.warmC hW h4, va_Nw.warmC hW h5, va_Nw.warmC hW h6, va_AO.moved hW.alike h7, va_Mi.moved hW.alike h8, va_Dc.moved hW.alike h9⟩
theorem ctN.same {G : Nat → Nat} {s U : State} (h : ctN G s) (hv : s.vm = U.vm) : ctN G U := by
  obtain ⟨h1, h2, h3, h4, h5, h6, h7, h8, h9⟩ := h
  have hal : s.vm.Alike U.vm := by rw [hv]; exact Vm.Alike.refl _
  exact ⟨va_Nw.same rfl hv h1, va_Nw.same rfl hv h2, va_Nw.same rfl hv h3, va_Nw.same rfl hv h4, va_Nw.same rfl hv h5, va_Nw.same rfl hv h6, va_AO.moved hal h7, va_Mi.moved hal h8, va_Dc.moved hal h9⟩
theorem ctZ.moved {A : Nat → Prop} {G : Nat → Nat} {s U : State} {H : Heap} (h : ctZ A G s H) (hv : s.vm.Alike U.vm) : ctZ A G U H := ⟨h.1.moved hv, h.2.moved hv⟩
theorem ctZ.kept {A : Nat → Prop} {G : Nat → Nat} {U : State} {H H1 : Heap} (h : ctZ A G U H) (hq : ∀ a : Nat, a < H.size → ¬ A a → H1[a]? = H[a]?) : ctZ A G U H1 := ⟨h.1.kept hq, h.2.kept hq⟩
theorem ctK.call {D : va_G} {A : Nat → Prop} {G : Nat → Nat} {s U : State} {w : hm_T} {H : Heap} {locs : List Loc} (h : ctK D A G s) (hY : hm_Y D cls A s.heap w H locs) (hU : U.heap = H) (hW : s.WarmedH U.vm) : ctU D A G w U := by
  obtain ⟨h1, h2, h3, h4⟩ := h
  refine ⟨hY.end' hU, va_K.moved hW.alike h1, h2.warm hW, ?_, fun q hq => h4 q (Nat.le_trans hY.2.2.1.1 (by rw [← hU]; exact hq))⟩
  rw [hU]
  exact (h3.kept hY.2.2.1.2.1).moved hW.alike
theorem ctU.blind {D : va_G} {A : Nat → Prop} {G : Nat → Nat} {w : hm_T} {av : List Value} : FrameBlind (va_Pc av (ctU D A G w)) := by
  intro a U g mk ⟨h0, ⟨h1, h2⟩, h3, h4, h5, h6⟩
  exact ⟨h0, ⟨h1, h2⟩, va_K.moved (u := U) (U := U.calling g mk a) (Vm.Alike.refl U.vm) h3, h4.same rfl, ctZ.moved (s := U) (U := U.calling g mk a) h5 (Vm.Alike.refl U.vm), h6⟩
theorem ct_good {w : Cond} (hw : w ∈ wsA) : GoodIn wsA (w :: wsA) := fun v h => by
  rcases List.mem_cons.mp h with h | h
  · rw [h]
    exact ⟨hw, good_of_word (wsA_good _ hw)⟩
  · exact ⟨h, good_of_word (wsA_good _ h)⟩
/-- a method's contract out of the walk of its body -/
theorem ct_met {l : Launch} {y : MethodName} {b : ByteArray} {maxL : Nat} {ret : Option FieldType} {rm : Room} {av : List Value} {Pre : State → Prop} {Qc : Array Value → State → Outcome → State → Prop} {mc ms : Nat} {free : Addr → Prop} (hy : plainName y.cls = true) (hargs : (lg_sl av).length ≤ maxL)
    (body : ∀ (p : Program) (e : Env) (s : State) (m : MethodId) (below : List Frame) (meth : Method) (c : Code) (ls : Array Slot), CallFix p m c b maxL s av.toArray wsA y.cls → meth.sig.returnType = ret → meth.locks = false → meth.name = y.name → lv_has ls maxL (lv_args 0 av) → Pre s →
      W p l e rm s m av.toArray below meth c s.heap [] 0 0 (MQ below Qc av.toArray s mc ms free) (F0 m 0 ls [])) : Met l y (.code y b maxL ret :: wsA) rm (va_Pc av Pre) Qc mc ms free := by
  refine Met.ofW (cc := b) (maxL := maxL) (ret := ret) hy rfl ?_
  intro p e s m args below meth c s₁ B hml hv
  obtain ⟨rfl, hPre⟩ := hv
  have hts := atoms_spec (ws := Cond.code y b maxL ret :: wsA) B.pre
  have hl := lv_entry av (n := maxL) hargs
  rw [lg_entry_eq]
  exact body p e s m below meth c _ ⟨B.exec, B.bytes, hml, findClass_of_methodNamed B.named, fun w h => hts w (List.mem_cons_of_mem _ h)⟩ B.returns B.notSynchronized (name_of_methodNamed B.named B.method).1 hl hPre
section CT1
variable {p : Program} {l : Launch} {e : Env} {R : Room} {s : State} {m : MethodId} {args : Array Value} {below : List Frame} {meth : Method} {c : Code} {H : Heap} {locs : List Loc} {cells slots mc ms : Nat} {Q : State → Prop}
variable {cc b : ByteArray} {nL pc maxL n index : Nat} {ls : Array Slot} {rest st0 As : List Value} {D : va_G} {A : Nat → Prop} {G : Nat → Nat} {own C host : String} {w : hm_T} {y : MethodName} {ret : Option FieldType} {rm : Room} {a0 : Nat} {free : Addr → Prop} {Qc : Array Value → State → Outcome → State → Prop}
theorem ct_runV (X : CallFix p m c cc nL s args wsA own) (hK : ctK D A G s) (hY : hm_Y D cls A s.heap w H locs) (hM : Met l y (.code y b maxL ret :: wsA) rm (va_Pc (.ref a0 :: As) (ctU D A G w)) Qc mc ms free)
    (hcode : Cond.code y b maxL ret ∈ wsA) (hlink : Cond.methodLink own index y ∈ wsA) (hinst : Cond.instanceMethod y ∈ wsA) (hsel : Cond.selects C y y ∈ wsA) (hini : Cond.initialized y.cls ∈ wsA)
    (hd : y.cls ≠ "java/lang/invoke/MethodHandle" ∧ y.cls ≠ "java/lang/invoke/VarHandle" ∧ (parseMethodDescriptor y.desc).map (fun d => d.parameters.length) = some n) (hR : rm.frames + 1 ≤ R.frames ∧ 8 + (maxL + 11) + rm.locals ≤ R.locals) (hrc : rm.cells = mc ∧ rm.slots = ms)
    (hrecv : ∃ cell : Cell, H[a0]? = some cell ∧ cell.vm.isStatics = false ∧ s.vm.findClass C = some cell.cls) (hn : As.length = n) (hls : ls.size = nL) (hst : st0 = As.reverse ++ .ref a0 :: rest) (hroom : (rest.map fun v => v.category).sum ≤ 8) (hdg : decode cc pc = .ok (.invokevirtual index, 3)) (hf : cells + mc ≤ R.cells ∧ slots + ms ≤ R.slots) :
    va_Run p l e R s m args below meth c H locs cells slots mc ms (F0 m pc ls st0) rest (Qc (Value.ref a0 :: As).toArray) free :=
  va_runV X hM ⟨callB_of n X.2.2.2.2 (ct_good hcode) rfl hrc.1 hrc.2 (X.2.2.2.2 _ hini) (X.2.2.2.2 _ hlink) hd hR, X.2.2.2.2 _ hinst, X.2.2.2.2 _ hsel⟩ ⟨ctU.blind, hrecv, fun U hU hW => ⟨rfl, hK.call hY hU hW⟩⟩ rfl hn hls hst (lv_room hroom) hdg hf
theorem ct_runS (X : CallFix p m c cc nL s args wsA own) (hK : ctK D A G s) (hY : hm_Y D cls A s.heap w H locs) (hM : Met l y (.code y b maxL ret :: wsA) rm (va_Pc As (ctU D A G w)) Qc mc ms free)
    (hcode : Cond.code y b maxL ret ∈ wsA) (hlink : Cond.methodLink own index y ∈ wsA) (hstat : Cond.static y ∈ wsA) (hini : Cond.initialized y.cls ∈ wsA)
    (hd : y.cls ≠ "java/lang/invoke/MethodHandle" ∧ y.cls ≠ "java/lang/invoke/VarHandle" ∧ (parseMethodDescriptor y.desc).map (fun d => d.parameters.length) = some n) (hR : rm.frames + 1 ≤ R.frames ∧ 8 + (maxL + 11) + rm.locals ≤ R.locals) (hrc : rm.cells = mc ∧ rm.slots = ms)
    (hn : As.length = n) (hls : ls.size = nL) (hst : st0 = As.reverse ++ rest) (hroom : (rest.map fun v => v.category).sum ≤ 8) (hdg : decode cc pc = .ok (.invokestatic index, 3)) (hf : cells + mc ≤ R.cells ∧ slots + ms ≤ R.slots) :
    va_Run p l e R s m args below meth c H locs cells slots mc ms (F0 m pc ls st0) rest (Qc As.toArray) free :=
  va_runS X hM ⟨callB_of n X.2.2.2.2 (ct_good hcode) rfl hrc.1 hrc.2 (X.2.2.2.2 _ hini) (X.2.2.2.2 _ hlink) hd hR, X.2.2.2.2 _ hstat⟩ ⟨ctU.blind, fun U hU hW => ⟨rfl, hK.call hY hU hW⟩⟩ rfl hn hls hst (lv_room hroom) hdg hf
theorem ct_runI (X : CallFix p m c cc nL s args wsA own) (hK : ctK D A G s) (hY : hm_Y D cls A s.heap w H locs) (hM : Met l y (.code y b maxL none :: wsA) rm (va_Pc (.ref a0 :: As) (ctU D A G w)) Qc mc ms free)
    (hcode : Cond.code y b maxL none ∈ wsA) (hlink : Cond.methodLink own index y ∈ wsA) (hinst : Cond.instanceMethod y ∈ wsA) (hini : Cond.initialized y.cls ∈ wsA) (hy1 : y.name = "<init>")
    (hd : y.cls ≠ "java/lang/invoke/MethodHandle" ∧ y.cls ≠ "java/lang/invoke/VarHandle" ∧ (parseMethodDescriptor y.desc).map (fun d => d.parameters.length) = some n) (hR : rm.frames + 1 ≤ R.frames ∧ 8 + (maxL + 11) + rm.locals ≤ R.locals) (hrc : rm.cells = mc ∧ rm.slots = ms)
    (hn : As.length = n) (hls : ls.size = nL) (hst : st0 = As.reverse ++ .ref a0 :: rest) (hroom : (rest.map fun v => v.category).sum ≤ 8) (hdg : decode cc pc = .ok (.invokespecial index, 3)) (hf : cells + mc ≤ R.cells ∧ slots + ms ≤ R.slots) :
    va_Run p l e R s m args below meth c H locs cells slots mc ms (F0 m pc ls st0) rest (Qc (Value.ref a0 :: As).toArray) free :=
  va_runI X hM ⟨callB_of n X.2.2.2.2 (ct_good hcode) rfl hrc.1 hrc.2 (X.2.2.2.2 _ hini) (X.2.2.2.2 _ hlink) hd hR, hy1, X.2.2.2.2 _ hinst⟩ ⟨ctU.blind, fun U hU hW => ⟨rfl, hK.call hY hU hW⟩⟩ rfl hn hls hst (lv_room hroom) hdg hf
theorem ct_runN (X : CallFix p m c cc nL s args wsA own) (hK : ctK D A G s) (hY : hm_Y D cls A s.heap w H locs) (hM : Met l y (.code y b maxL ret :: wsA) rm (va_Pc As (ctU D A G w)) Qc mc ms free)
    (hcode : Cond.code y b maxL ret ∈ wsA) (hlink : va_Nw (.methodLinkNest own index y host) s) (hstat : Cond.static y ∈ wsA) (hini : Cond.initialized y.cls ∈ wsA)
    (hd : y.cls ≠ "java/lang/invoke/MethodHandle" ∧ y.cls ≠ "java/lang/invoke/VarHandle" ∧ (parseMethodDescriptor y.desc).map (fun d => d.parameters.length) = some n) (hR : rm.frames + 1 ≤ R.frames ∧ 8 + (maxL + 11) + rm.locals ≤ R.locals) (hrc : rm.cells = mc ∧ rm.slots = ms)
    (hn : As.length = n) (hls : ls.size = nL) (hst : st0 = As.reverse ++ rest) (hroom : (rest.map fun v => v.category).sum ≤ 8) (hdg : decode cc pc = .ok (.invokestatic index, 3)) (hf : cells + mc ≤ R.cells ∧ slots + ms ≤ R.slots) :
    va_Run p l e R s m args below meth c H locs cells slots mc ms (F0 m pc ls st0) rest (Qc As.toArray) free :=
  va_runSN X hM ⟨va_cnB n X.2.2.2.2 (ct_good hcode) rfl hrc.1 hrc.2 hlink (X.2.2.2.2 _ hini) hd hR, X.2.2.2.2 _ hstat, trivial⟩ ⟨ctU.blind, fun U hU hW => ⟨rfl, hK.call hY hU hW⟩⟩ rfl hn hls hst (lv_room hroom) hdg hf
end CT1
