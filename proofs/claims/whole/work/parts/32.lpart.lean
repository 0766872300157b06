set_option maxHeartbeats 4000000 in
set_option maxRecDepth 100000 in
theorem k_W_part_th (l : Launch) (hfl : l.flags = pinnedFlags ++ [noTraceFlag]) (D : va_G) (A : Nat → Prop) (G : Nat → Nat) (S : cS) (ω : hm_T) (h20 : S.C 0 0 ≤ 20) (hall : ∀ i, i < S.C 0 0 → S.C 1 i ≤ 10) (le mx : Int32) (sp : Int64) (hok : okP le mx sp) (hlt : S.C 0 0 < 20) (hs0 : sp = 0) : MetT l y_W_part (.code y_W_part c_W_part 5 (some .int) :: wsA) { frames := 8, cells := 4, slots := 160, locals := 171 } (va_Pc [.ref (S.ad 0 0 0), .int le, .int mx, .long sp] (fun U => ctU D A G (wS G S ω) U ∧ thX A U)) (thQ D A (wS G S ω)) 4 160 := by
  refine ct_metT (by decide) (Nat.le_of_ble_eq_true rfl) ?_
  rintro p e s m below meth c ls hadm hno X hr hlocks hl ⟨⟨hB, hK⟩, hth⟩
  have htr : e.platform.stackTraces = false := Launch.traces_off hfl hadm
  have hl : lv_has ls 5 [(0, .ref (S.ad 0 0 0)), (1, .int le), (2, .int mx), (3, .long sp)] := hl
  have hY : hm_Y D cls A s.heap (wS G S ω) s.heap [] := hm_Y.start hB hK.2.2.2
  refine lv_iload_n X.1 X.2.1 d_W_part_0 rfl (lv_at hl 1 rfl) ?_
  refine lv_i2l (v := le.toInt64) X.1 X.2.1 d_W_part_1 rfl ?_
  refine lv_lconst (v := 0) X.1 X.2.1 d_W_part_2 (by decide) ?_
  refine lv_ldc2 X.1 X.2.1 X.2.2.2.1 (X.2.2.2.2 _ m_370) d_W_part_3 ?_
  refine hm_callR (ct_runS (n := 3) X hK hY (k_W_isWithin l D A G (wS G S ω) le.toInt64 0 1000) m_119 m_117 m_118 m_1 (by decide +kernel) ⟨Nat.le_of_ble_eq_true rfl, Nat.le_of_ble_eq_true rfl⟩ ⟨rfl, rfl⟩ rfl hl.1 rfl (Nat.le_of_ble_eq_true rfl) d_W_part_6 ⟨Nat.le_of_ble_eq_true rfl, Nat.le_of_ble_eq_true rfl⟩) (fun v hv => ?_)
  subst hv
  refine W.eq (g2 := F0 m 9 ls [.int (b2 (0 ≤ le.toInt64 ∧ le.toInt64 ≤ 1000))]) rfl ?_
  refine lv_if_eq (tgt := 36) X.1 X.2.1 d_W_part_9 (by decide) (fun c1 => ?_) (fun c1 => ?_)
  · have c1 : ¬ (0 ≤ le.toInt64 ∧ le.toInt64 ≤ 1000) := b2_0.mp c1
    exact absurd hok.1 c1
  · have c1 : (0 ≤ le.toInt64 ∧ le.toInt64 ≤ 1000) := Classical.byContradiction (fun z => c1 (b2_0.mpr z))
    refine lv_iload_n X.1 X.2.1 d_W_part_12 rfl (lv_at hl 2 rfl) ?_
    refine lv_i2l (v := mx.toInt64) X.1 X.2.1 d_W_part_13 rfl ?_
    refine lv_iload_n X.1 X.2.1 d_W_part_14 rfl (lv_at hl 1 rfl) ?_
    refine lv_i2l (v := le.toInt64) X.1 X.2.1 d_W_part_15 rfl ?_
    refine lv_ldc2 X.1 X.2.1 X.2.2.2.1 (X.2.2.2.2 _ m_370) d_W_part_16 ?_
    refine hm_callR (ct_runS (n := 3) X hK hY (k_W_isWithin l D A G (wS G S ω) mx.toInt64 le.toInt64 1000) m_119 m_117 m_118 m_1 (by decide +kernel) ⟨Nat.le_of_ble_eq_true rfl, Nat.le_of_ble_eq_true rfl⟩ ⟨rfl, rfl⟩ rfl hl.1 rfl (Nat.le_of_ble_eq_true rfl) d_W_part_19 ⟨Nat.le_of_ble_eq_true rfl, Nat.le_of_ble_eq_true rfl⟩) (fun v hv => ?_)
    subst hv
    refine W.eq (g2 := F0 m 22 ls [.int (b2 (le.toInt64 ≤ mx.toInt64 ∧ mx.toInt64 ≤ 1000))]) rfl ?_
    refine lv_if_eq (tgt := 36) X.1 X.2.1 d_W_part_22 (by decide) (fun c2 => ?_) (fun c2 => ?_)
    · have c2 : ¬ (le.toInt64 ≤ mx.toInt64 ∧ mx.toInt64 ≤ 1000) := b2_0.mp c2
      exact absurd hok.2.1 c2
    · have c2 : (le.toInt64 ≤ mx.toInt64 ∧ mx.toInt64 ≤ 1000) := Classical.byContradiction (fun z => c2 (b2_0.mpr z))
      refine lv_lload_n X.1 X.2.1 d_W_part_25 rfl (lv_at hl 3 rfl) ?_
      refine lv_lconst (v := 0) X.1 X.2.1 d_W_part_26 (by decide) ?_
      refine lv_ldc2 X.1 X.2.1 X.2.2.2.1 (X.2.2.2.2 _ m_315) d_W_part_27 ?_
      refine hm_callR (ct_runS (n := 3) X hK hY (k_W_isWithin l D A G (wS G S ω) sp 0 100) m_119 m_117 m_118 m_1 (by decide +kernel) ⟨Nat.le_of_ble_eq_true rfl, Nat.le_of_ble_eq_true rfl⟩ ⟨rfl, rfl⟩ rfl hl.1 rfl (Nat.le_of_ble_eq_true rfl) d_W_part_30 ⟨Nat.le_of_ble_eq_true rfl, Nat.le_of_ble_eq_true rfl⟩) (fun v hv => ?_)
      subst hv
      refine W.eq (g2 := F0 m 33 ls [.int (b2 (0 ≤ sp ∧ sp ≤ 100))]) rfl ?_
      refine lv_if_ne (tgt := 39) X.1 X.2.1 d_W_part_33 (by decide) (fun c3 => ?_) (fun c3 => ?_)
      · have c3 : (0 ≤ sp ∧ sp ≤ 100) := Classical.byContradiction (fun z => c3 (b2_0.mpr z))
        refine lv_aload_n X.1 X.2.1 d_W_part_39 rfl (lv_at hl 0 rfl) ?_
        refine hm_get ⟨X, hK.1⟩ hY w0 0 (v := .ref (S.ad 1 0 0)) rfl rfl (Nat.le_of_ble_eq_true rfl) hu_W m_74 (fun _ h => h) d_W_part_40 ?_
        refine hm_callR (ct_runV (n := 0) X hK hY (k_size1 l D A G S ω) m_116 m_113 m_114 m_115 m_4 (by decide +kernel) ⟨Nat.le_of_ble_eq_true rfl, Nat.le_of_ble_eq_true rfl⟩ ⟨rfl, rfl⟩ (hm_recv ⟨X, hK.1⟩ hY w1 rfl) rfl hl.1 rfl (Nat.le_of_ble_eq_true rfl) d_W_part_43 ⟨Nat.le_of_ble_eq_true rfl, Nat.le_of_ble_eq_true rfl⟩) (fun v hv => ?_)
        subst hv
        refine W.eq (g2 := F0 m 46 ls [.int (nI (S.C 0 0))]) rfl ?_
        refine lv_bipush (v := 20) X.1 X.2.1 d_W_part_46 (by decide) ?_
        refine lv_icmp_lt (tgt := 54) X.1 X.2.1 d_W_part_48 (by decide) (fun c5 => ?_) (fun c5 => ?_)
        · refine lv_lload_n X.1 X.2.1 d_W_part_54 rfl (lv_at hl 3 rfl) ?_
          refine lv_lconst (v := 0) X.1 X.2.1 d_W_part_55 (by decide) ?_
          refine lc_ne (tgt := 70) X d_W_part_56 d_W_part_57 (by decide) (fun c4 => ?_) (fun c4 => ?_)
          · exact absurd hs0 c4
          · exact th_go htr X hth hB hlocks hno hl.1 (Nat.le_of_ble_eq_true rfl) (Nat.le_of_ble_eq_true rfl) (Nat.le_of_ble_eq_true rfl) (Nat.le_of_ble_eq_true rfl) (Nat.le_of_ble_eq_true rfl) (Nat.le_of_ble_eq_true rfl)
        · exact absurd (nI_lt (b := 20) hlt (by omega)) c5
      · have c3 : ¬ (0 ≤ sp ∧ sp ≤ 100) := b2_0.mp c3
        exact absurd hok.2.2 c3
section TH3
variable {p : Program} {l : Launch} {e : Env} {R : Room} {s : State} {m : MethodId} {args : Array Value} {below : List Frame} {meth : Method} {c : Code} {H : Heap} {locs : List Loc} {cells slots mc ms : Nat} {Q : State → Prop}
variable {cc b : ByteArray} {nL pc maxL n index : Nat} {ls : Array Slot} {rest st0 As : List Value} {D : va_G} {A : Nat → Prop} {G : Nat → Nat} {own C host : String} {w : hm_T} {y : MethodName} {ret : Option FieldType} {rm : Room} {a0 : Nat} {free : Addr → Prop} {Qc : Array Value → State → Outcome → State → Prop} {Pre : State → Prop} {Qx : State → Addr → State → Prop}
theorem ct_thrV (X : CallFix p m c cc nL s args wsA own) (hM : MetT l y (.code y b maxL ret :: wsA) rm (va_Pc (.ref a0 :: As) Pre) Qx mc ms) (hbl : FrameBlind (va_Pc (.ref a0 :: As) Pre)) (hPre : ∀ U : State, U.heap = H → s.WarmedH U.vm → Pre U)
    (hcode : Cond.code y b maxL ret ∈ wsA) (hlink : Cond.methodLink own index y ∈ wsA) (hinst : Cond.instanceMethod y ∈ wsA) (hsel : Cond.selects C y y ∈ wsA) (hini : Cond.initialized y.cls ∈ wsA)
    (hd : y.cls ≠ "java/lang/invoke/MethodHandle" ∧ y.cls ≠ "java/lang/invoke/VarHandle" ∧ (parseMethodDescriptor y.desc).map (fun d => d.parameters.length) = some n) (hR : rm.frames + 1 ≤ R.frames ∧ 8 + (maxL + 11) + rm.locals ≤ R.locals) (hrc : rm.cells = mc ∧ rm.slots = ms)
    (hrecv : ∃ cell : Cell, H[a0]? = some cell ∧ cell.vm.isStatics = false ∧ s.vm.findClass C = some cell.cls) (hn : As.length = n) (hls : ls.size = nL) (hst : st0 = As.reverse ++ .ref a0 :: rest) (hroom : (rest.map fun v => v.category).sum ≤ 8) (hdg : decode cc pc = .ok (.invokevirtual index, 3)) (hf : cells + mc ≤ R.cells ∧ slots + ms ≤ R.slots)
    (kk : ∀ (x : Addr) (st₀ t T' : State), st₀.heap = H → s.WarmedH st₀.vm → T'.heap = t.heap → Qx st₀ x t → Stand p l e R s m args below meth c T' locs (cells + mc) (slots + ms) → ∃ z, Steps p.tables e below ((T'.setTop (F0 m pc ls rest)).pushFrame (.throwing x)) z ∧ Q z) :
    W p l e R s m args below meth c H locs cells slots Q (F0 m pc ls st0) := by
  intro T hT Y
  have cb : CallB R s args own index y b maxL ret (.code y b maxL ret :: wsA) rm mc ms n := callB_of n X.2.2.2.2 (ct_good hcode) rfl hrc.1 hrc.2 (X.2.2.2.2 _ hini) (X.2.2.2.2 _ hlink) hd hR
  obtain ⟨-, -, hfr, hlo, hws, hcw, hcode', hini', hy, hlen, hl⟩ := cb
  have hB : BackT l R p e below s args y 3 8 (PreOf R mc ms (va_Pc (.ref a0 :: As) Pre)) (fun P a x B => ∃ (g : JFrame) (mk : MethodId) (t : State), B.U.heap = t.heap ∧ Qx (P.U.calling g mk a) x t ∧ B.locs = P.locs ∧ B.cells = P.cells + mc ∧ B.slots = P.slots + ms) := by
    refine BackT.of_free (S := headSpec (.code y b maxL ret :: wsA) rm) (P := va_Pc (.ref a0 :: As) Pre) (K := fun _ _ _ _ _ => True) (bytes := b) (maxL := maxL) (ret := ret) (E := fun a st o t L k n => L = [] ∧ k = mc ∧ n = ms ∧ ∃ x, o = .threw x ∧ Qx st x t) hM hfr hlo ?_ ?_ (fun _ _ _ _ _ _ _ _ _ => trivial) ?_ ?_
    · intro m meth c P a Z hp
      exact ⟨atoms_intro fun w hw => hws w hw _ _ Z.warmed, hws _ hcw _ _ Z.warmed, word_at Z.warmed (Or.inl (by first | rfl | simp [Cond.onTables, Cond.keeps, Cond.steady])) hini', by rw [show (headSpec (.code y b maxL ret :: wsA) rm).room.cells = mc from hrc.1]; exact hp.1, by rw [show (headSpec (.code y b maxL ret :: wsA) rm).room.slots = ms from hrc.2]; exact hp.2.1⟩
    · intro m meth c P a g mk Z hp
      exact hbl _ _ _ _ hp.2.2
    · intro a first o t ⟨hq, hF⟩
      exact ⟨[], mc, ms, hF, rfl, rfl, rfl, hq⟩
    · intro m meth c P a g mk v t L k n Z hp hq hF ⟨e0, e1, e2, x, hx, hQ⟩
      subst e0; subst e1; subst e2
      cases hx
      exact ⟨g, mk, t, rfl, hQ, List.append_nil _, rfl, rfl⟩
  obtain ⟨cellB, hcB, hoB, hclB⟩ := hrecv
  have hsel' := X.2.2.2.2 _ hsel
  obtain ⟨mk, methM, hnamed, hmethM, hstM, habM⟩ := Cond.instanceMethod_spec (X.2.2.2.2 _ hinst)
  obtain ⟨methM', cM, hmethM', -, -, -, -, -, -, hsigM⟩ := Cond.code_spec hnamed hcode'
  cases hmethM.symm.trans hmethM'
  obtain ⟨c2, r2, m2, q1, q2, q3, q4, kP, hkP, hkPi⟩ := Cond.selects_spec hsel'
  cases hclB.symm.trans q1
  cases (State.methodFound?_of_named hnamed hy).symm.trans q2
  cases hnamed.symm.trans q3
  have hselP : selectMethod e.platform s.vm cellB.cls mk = .method mk := by rw [Launch.admits_selectMethod Y.admits]; exact q4
  obtain ⟨vm₁, X₁, hstep₁⟩ := Y.invokevirtual X.1 X.2.2.2.1 hl hnamed hmethM hstM hkP hkPi hy (a := a0) (cell := cellB) (by rw [hT]; exact hcB)
    (fun z h => by rw [h] at hoB; cases hoB) hselP hmethM habM hkP hkPi (g := F0 m pc ls st0) rfl (argsL := As) (rest := rest) (hn.trans (hlen _ hsigM)) hst (by rw [X.2.1]; exact hdg)
  obtain ⟨x, ⟨U', l2, c2', s2⟩, X', ⟨g', mk', t, e1, hq, h1, h2, h3⟩, hsteps⟩ := hB m meth c ⟨T.setVm vm₁, locs, cells, slots⟩ (F0 m pc ls rest) (.invokevirtual index) mk (Value.ref a0 :: As).toArray X₁ rfl (hls.trans X.2.2.1.symm) (by rw [X.2.1]; exact hdg) (lv_room hroom) (X₁.named hnamed) ⟨hf.1, hf.2, rfl, hPre (T.setVm vm₁) hT X₁.warmed⟩
  dsimp only [Pt.U, Pt.locs, Pt.cells, Pt.slots] at X' e1 hq h1 h2 h3 hsteps
  subst h1; subst h2; subst h3
  obtain ⟨z, g1, g2⟩ := kk x ((T.setVm vm₁).calling g' mk' (Value.ref a0 :: As).toArray) t U' hT X₁.warmed e1 hq X'
  exact ⟨z, (hstep₁ _ fun acts => by rw [doInvoke_state]; exact hsteps.trans g1), g2⟩
theorem th_catch {T : State} {x : Addr} {ce : Cell} {g : JFrame} {pc15 : Nat} (Y : Stand p l e R s m args below meth c T locs cells slots) (hown : s.vm.findClass own = some m.cls) (hlink : (Cond.classLink own index R_AE).before args s = true) (htab : c.exceptionTable.toList.map (fun h => (h.startPc, h.endPc, h.handlerPc, h.catchType)) = [(0, 12, pc15, index)]) (hi0 : index ≠ 0) (hce : T.heap[x]? = some ce) (hvm : ce.vm = .none) (hcl : s.vm.findClass R_AE = some ce.cls) (hcast : (Cond.castable R_AE R_AE).before args s = true) (hg : g.method = m) (hpc : g.pc < 12) :
    ∃ vm', Stand p l e R s m args below meth c (T.setVm vm') locs cells slots ∧ ∀ target, Steps p.tables e below ((T.setVm vm').setTop { g with pc := pc15, stack := [.ref x] }) target → Steps p.tables e below ((T.setTop g).pushFrame (.throwing x)) target := by
  have hpl : e.platform.magicAccessors = ({} : Platform).magicAccessors := by rw [Y.admits.platform]
  obtain ⟨cT, hcT, hl⟩ := Cond.classLink_spec hown hlink e.platform hpl
  cases Option.some.inj (hcT.symm.trans hcl)
  obtain ⟨dk, _, _, kt, hd, _, _, _, _, hkt, _, hopen⟩ := hl.here
  have hl₀ := Y.warmed.classLinks hl
  have hW' : s.WarmedH (T.vm.noted m.cls index (.cls ce.cls)) := Y.warmed.noted hd hopen (State.rightAt_cls hl)
  obtain ⟨kt', hkt', -⟩ := hW'.alike.2.2 _ _ hkt
  have hgv := resolveClass_links e.toSetting hl₀
  obtain ⟨c3, c4, hc3, hc4, hasg⟩ := Cond.castable_spec hcast
  cases Option.some.inj (hc3.symm.trans hcl)
  cases Option.some.inj (hc4.symm.trans hcl)
  refine ⟨T.vm.noted m.cls index (.cls ce.cls), Y.noted hW', fun target hrest => ?_⟩
  subst hg
  refine th_caught Y.here (fun Q E d acts => ?_) hrest
  have hm' : ((T.setTop g).pushFrame (.throwing x)).vm = T.vm := throwing_vm T g x
  have hh' : ((T.setTop g).pushFrame (.throwing x)).heap = T.heap := throwing_heap T g x
  rw [Jvm.W.findHandler_eq (meth := meth) (code := c) (by rw [hm']; exact Y.method') Y.code]
  cases ht : c.exceptionTable.toList with
  | nil => rw [ht] at htab; cases htab
  | cons x0 t =>
    rw [ht] at htab
    simp only [List.map_cons, List.cons.injEq, Prod.mk.injEq, List.map_eq_nil_iff] at htab
    obtain ⟨⟨h1, h2, h3, h4⟩, h5⟩ := htab
    rw [th_find (c := ce.cls) (cell := ce) (vm' := T.vm.noted g.method.cls index (.cls ce.cls)) (by simp [covers, h1, h2, hpc]) (by rw [h4]; exact hi0) (by rw [hm', h4]; exact hgv) (by rw [hm', Vm.size_noted]; exact Nat.le_refl _) (by rw [hh']; exact hce) (fun k => by rw [hvm]; simp) ⟨kt', hkt'⟩ ⟨kt', hkt'⟩ (by rw [hW'.alike.assignable]; exact hasg), h3]
theorem callSW {T : State} (X : Stand p l e R s m args below meth c T locs cells slots) (hexec : p.tables.exec = Jvm.exec) {hh : List (Nat × Nat × Nat × Nat)}
    (hown : s.vm.findClass own = some m.cls) (hlink : (Cond.methodLink own index y).before args s = true) (hstat : (Cond.static y).before args s = true) (hinit : (Cond.initialized y.cls).before args s = true)
    (hcode : (Cond.codeWith y b maxL ret hh).before args s = true) (hy : y.cls ≠ "java/lang/invoke/MethodHandle" ∧ y.cls ≠ "java/lang/invoke/VarHandle")
    {W : Nat} {Pre : Pt → Array Value → Prop} {Post : Pt → Array Value → Option Value → Pt → Prop} (hK : Back l R p e below s args y 3 W Pre Post)
    {g : JFrame} (hg : g.method = m) (hsize : g.locals.size = c.maxLocals) {argsL rest : List Value} (hlen : ∀ sig, parseMethodDescriptor y.desc = some sig → argsL.length = sig.parameters.length)
    (hstack : g.stack = argsL.reverse ++ rest) (hW : 2 * g.monitorRoom + (rest.map fun v => v.category).sum ≤ W) (hdg : decode c.code g.pc = .ok (.invokestatic index, 3))
    (hpre : ∀ vm₁, s.WarmedH vm₁ → Pre ⟨T.setVm vm₁, locs, cells, slots⟩ argsL.toArray) :
    ∃ (v : Option Value) (vm₁ : Vm) (B : Pt), s.WarmedH vm₁ ∧ Stand p l e R s m args below meth c B.U B.locs B.cells B.slots ∧ Post ⟨T.setVm vm₁, locs, cells, slots⟩ argsL.toArray v B ∧
      ∀ target, Steps p.tables e below (B.U.setTop { g with pc := g.pc + 3, stack := v.toList ++ rest }) target → Steps p.tables e below (T.setTop g) target := by
  obtain ⟨mk, methM, cM, hnamed, hmethM, -, -, -, -, -, -, hsigM⟩ := Cond.codeWith_spec hcode
  have hstatic : methM.isStatic = true := Cond.static_spec hnamed hmethM hstat
  obtain ⟨kP, hkP, -⟩ := className_of_methodNamed hnamed
  have hinitP : kP.init = .initialized := Cond.initialized_spec (findClass_of_methodNamed hnamed) hkP hinit
  obtain ⟨vm₁, X₁, hstep₁⟩ := X.invokestatic hexec hown hlink hnamed hmethM hstatic hkP hinitP hy (g := g) hg (argsL := argsL) (rest := rest) (hlen _ hsigM) hstack hdg
  obtain ⟨v, B, X', hpost, hsteps⟩ := hK m meth c ⟨T.setVm vm₁, locs, cells, slots⟩ { g with stack := rest } (.invokestatic index) mk argsL.toArray X₁ hg hsize hdg hW (X₁.named hnamed) (hpre vm₁ X₁.warmed)
  exact ⟨v, vm₁, B, X₁.warmed, X', hpost, fun target h => hstep₁ _ fun acts => by rw [doInvoke_state]; exact hsteps.trans h⟩
theorem ct_goodW {w : Cond} (hw : w ∈ wsA) {T : List Cond} (ht : ∀ v ∈ T, v ∈ wsA) : GoodIn wsA (w :: T) := fun v h => by
  rcases List.mem_cons.mp h with h | h
  · rw [h]
    exact ⟨hw, good_of_word (wsA_good _ hw)⟩
  · exact ⟨ht v h, good_of_word (wsA_good _ (ht v h))⟩
theorem ct_runSW {hh : List (Nat × Nat × Nat × Nat)} (X : CallFix p m c cc nL s args wsA own) (hM : Met l y (.codeWith y b maxL ret hh :: wsA) rm (va_Pc As Pre) Qc mc ms free) (hbl : FrameBlind (va_Pc As Pre)) (hPre : ∀ U : State, U.heap = H → s.WarmedH U.vm → Pre U)
    (hcode : Cond.codeWith y b maxL ret hh ∈ wsA) (hlink : Cond.methodLink own index y ∈ wsA) (hstat : Cond.static y ∈ wsA) (hini : Cond.initialized y.cls ∈ wsA)
    (hd : y.cls ≠ "java/lang/invoke/MethodHandle" ∧ y.cls ≠ "java/lang/invoke/VarHandle" ∧ (parseMethodDescriptor y.desc).map (fun d => d.parameters.length) = some n) (hR : rm.frames + 1 ≤ R.frames ∧ 8 + (maxL + 11) + rm.locals ≤ R.locals) (hrc : rm.cells = mc ∧ rm.slots = ms)
    (hn : As.length = n) (hls : ls.size = nL) (hst : st0 = As.reverse ++ rest) (hroom : (rest.map fun v => v.category).sum ≤ 8) (hdg : decode cc pc = .ok (.invokestatic index, 3)) (hf : cells + mc ≤ R.cells ∧ slots + ms ≤ R.slots) :
    va_Run p l e R s m args below meth c H locs cells slots mc ms (F0 m pc ls st0) rest (Qc As.toArray) free := by
  have hts := X.2.2.2.2
  have hini' := hts _ hini
  have hK : Back l R p e below s args y 3 8 (PreOf R mc ms (va_Pc As Pre)) (PostOf Qc mc ms free) := va_backW (hh := hh) (bytes := b) (maxL := maxL) (ret := ret) hM hbl hrc.1 hrc.2 hR.1 hR.2 (pay_in hts (ct_goodW hcode (fun _ h => h))) List.mem_cons_self (fun a' U hW => word_at hW (Or.inl (by first | rfl | simp [Cond.onTables, Cond.keeps, Cond.steady])) hini')
  intro T hT Y
  obtain ⟨v, vm₁, ⟨U', l2, c2, s2⟩, hW₁, X', ⟨g', mk, t, L, e1, e2, hq, h1, hL, h2, h3⟩, st⟩ := callSW Y X.1 (hh := hh) (b := b) (maxL := maxL) (ret := ret) X.2.2.2.1 (hts _ hlink) (hts _ hstat) hini' (hts _ hcode) ⟨hd.1, hd.2.1⟩ hK (g := F0 m pc ls st0) rfl (hls.trans X.2.2.1.symm) (argsL := As) (rest := rest) (fun sig h => by have h2 := hd.2.2; rw [h] at h2; exact hn.trans (Option.some.inj h2).symm) hst (lv_room hroom) (by rw [X.2.1]; exact hdg)
    (fun vm₁ hW₁ => ⟨hf.1, hf.2, rfl, hPre (T.setVm vm₁) hT hW₁⟩)
  dsimp only [Pt.U, Pt.locs, Pt.cells, Pt.slots] at X' e1 e2 h1 h2 h3 st
  subst h1; subst h2; subst h3
  exact ⟨v, (T.setVm vm₁).calling g' mk As.toArray, t, U', L, hT, X', hL, e1, e2, hq, st⟩
end TH3
theorem th_blind {D : va_G} {A : Nat → Prop} {G : Nat → Nat} {w : hm_T} {av : List Value} : FrameBlind (va_Pc av (fun U => ctU D A G w U ∧ thX A U)) := by
  intro a U g mk ⟨h0, h1, h2⟩
  exact ⟨h0, (ctU.blind (av := av) a U g mk ⟨h0, h1⟩).2, h2.same rfl rfl⟩
abbrev isTh (S : cS) (le mx : Int32) (sp : Int64) : Prop := okP le mx sp ∧ S.C 0 0 < 20 ∧ sp = 0
def lpP (G : Nat → Nat) (S : cS) (ω : hm_T) (ao : Nat) (f : Nat → Int64) (le mx : Int32) (sp : Int64) (v : Option Value) (w : hm_T) : Prop :=
  (isTh S le mx sp ∧ v = some (.int 1) ∧ w = wS G S ω) ∨ (¬ isTh S le mx sp ∧ v = some (.int 0) ∧ ∃ (r : Int32) (w1 : hm_T), paP G S ω le mx sp (some (.int r)) w1 ∧ w = hm_up w1 (31, 0, 0) (ao, .inl (G 3, 1, .inr (.inl (vp_updL f 0 r.toInt64)))))
theorem paP_big {G : Nat → Nat} {S : cS} {ω : hm_T} {le mx : Int32} {sp : Int64} {v : Option Value} {w : hm_T} (h : paP G S ω le mx sp v w) {n : hm_N} (hn : 8 < n.1) : w n = ω n := by
  rcases h with ⟨-, -, h⟩ | ⟨-, -, -, h⟩ | ⟨-, -, a, ae, al, b, -, h⟩ <;> rw [h, wS_big hn]
theorem paP_int {G : Nat → Nat} {S : cS} {ω : hm_T} {le mx : Int32} {sp : Int64} {v : Option Value} {w : hm_T} (h : paP G S ω le mx sp v w) : ∃ r : Int32, v = some (.int r) := by
  rcases h with ⟨-, h, -⟩ | ⟨-, -, h, -⟩ | ⟨-, -, a, ae, al, b, h, -⟩ <;> exact ⟨_, h⟩
theorem ct_metW {l : Launch} {y : MethodName} {b : ByteArray} {maxL : Nat} {ret : Option FieldType} {hh : List (Nat × Nat × Nat × Nat)} {rm : Room} {av : List Value} {Pre : State → Prop} {Qc : Array Value → State → Outcome → State → Prop} {mc ms : Nat} {free : Addr → Prop} (hy : plainName y.cls = true) (hargs : (lg_sl av).length ≤ maxL)
    (body : ∀ (p : Program) (e : Env) (s : State) (m : MethodId) (below : List Frame) (meth : Method) (c : Code) (ls : Array Slot), c.exceptionTable.toList.map (fun h => (h.startPc, h.endPc, h.handlerPc, h.catchType)) = hh → CallFix p m c b maxL s av.toArray wsA y.cls → meth.sig.returnType = ret → meth.locks = false → lv_has ls maxL (lv_args 0 av) → Pre s →
      W p l e rm s m av.toArray below meth c s.heap [] 0 0 (MQ below Qc av.toArray s mc ms free) (F0 m 0 ls [])) : Met l y (.codeWith y b maxL ret hh :: wsA) rm (va_Pc av Pre) Qc mc ms free := by
  refine va_MetW (cc := b) (maxL := maxL) (ret := ret) (hh := hh) hy rfl ?_
  intro p e s m args below meth c s₁ B hml hv
  obtain ⟨rfl, hPre⟩ := hv
  have hts := atoms_spec (ws := Cond.codeWith y b maxL ret hh :: wsA) B.pre
  obtain ⟨m9, meth9, c9, hn9, hm9, hc9, -, -, htab, -⟩ := Cond.codeWith_spec (hts _ List.mem_cons_self)
  cases Option.some.inj (B.named.symm.trans hn9)
  cases Option.some.inj (B.method.symm.trans hm9)
  cases Option.some.inj ((Stand.of_body B).code.symm.trans hc9)
  have hl := lv_entry av (n := maxL) hargs
  rw [lg_entry_eq]
  exact body p e s m below meth c _ htab ⟨B.exec, B.bytes, hml, findClass_of_methodNamed B.named, fun w h => hts w (List.mem_cons_of_mem _ h)⟩ B.returns B.notSynchronized hl hPre
set_option maxHeartbeats 4000000 in
theorem k_L_part (l : Launch) (hfl : l.flags = pinnedFlags ++ [noTraceFlag]) (D : va_G) (A : Nat → Prop) (G : Nat → Nat) (S : cS) (ω : hm_T) (h20 : S.C 0 0 ≤ 20) (hall : ∀ i, i < S.C 0 0 → S.C 1 i ≤ 10) (hω : ω (99, 0, 0) = none) (ao : Nat) (f : Nat → Int64) (ho : ω (31, 0, 0) = some (ao, .inl (G 3, 1, .inr (.inl f)))) (le mx : Int32) (sp : Int64) :
    Met l y_L_part (.codeWith y_L_part c_L_part 7 (some .int) [(0, 12, 15, 13)] :: wsA) { frames := 9, cells := 4, slots := 160, locals := 195 } (va_Pc [.ref (S.ad 0 0 0), .int le, .int mx, .long sp, .ref ao] (fun U => ctU D A G (wS G S ω) U ∧ thX A U)) (hm_Q D cls A (lpP G S ω ao f le mx sp)) 4 160 A := by
  refine ct_metW (by decide) (Nat.le_of_ble_eq_true rfl) ?_
  rintro p e s m below meth c ls htab X hr hlocks hl ⟨⟨hB, hK⟩, hth⟩
  have hl : lv_has ls 7 [(0, .ref (S.ad 0 0 0)), (1, .int le), (2, .int mx), (3, .long sp), (5, .ref ao)] := hl
  have hY : hm_Y D cls A s.heap (wS G S ω) s.heap [] := hm_Y.start hB hK.2.2.2
  refine lv_aload X.1 X.2.1 d_L_part_0 (lv_at hl 4 rfl) ?_
  refine lv_iconst (v := 0) X.1 X.2.1 d_L_part_2 (by decide) ?_
  refine lv_aload_n X.1 X.2.1 d_L_part_3 rfl (lv_at hl 0 rfl) ?_
  refine lv_iload_n X.1 X.2.1 d_L_part_4 rfl (lv_at hl 1 rfl) ?_
  refine lv_iload_n X.1 X.2.1 d_L_part_5 rfl (lv_at hl 2 rfl) ?_
  refine lv_lload_n X.1 X.2.1 d_L_part_6 rfl (lv_at hl 3 rfl) ?_
  by_cases hc : isTh S le mx sp
  · obtain ⟨hok, hlt, hs0⟩ := hc
    refine ct_thrV (n := 3) (mc := 4) (ms := 160) (C := R_W) X (k_W_part_th l hfl D A G S ω h20 hall le mx sp hok hlt hs0) th_blind (fun U hU hW => ⟨hK.call hY hU hW, hth.warm (H := s.heap) (fun _ _ _ => rfl) hU hW⟩) m_369 m_366 m_367 m_368 m_1 (by decide +kernel) ⟨Nat.le_of_ble_eq_true rfl, Nat.le_of_ble_eq_true rfl⟩ ⟨rfl, rfl⟩ (hm_recv ⟨X, hK.1⟩ hY w0 rfl) rfl hl.1 rfl (Nat.le_of_ble_eq_true rfl) d_L_part_7 ⟨Nat.le_of_ble_eq_true rfl, Nat.le_of_ble_eq_true rfl⟩ (fun x st₀ t T' hs0' hW0 hT' hq Y => ?_)
    obtain ⟨⟨ce, hce, hvm, hcl⟩, hBt, hFt⟩ := hq
    obtain ⟨vm', Y', st⟩ := th_catch (ce := ce) (g := F0 m 7 ls [.int 0, .ref ao]) Y X.2.2.2.1 (X.2.2.2.2 _ m_365) htab (by decide) (by rw [hT']; exact hce) hvm (by rw [← hW0.alike.findClass]; exact hcl) (va_Nw.use rfl hth.1.1) rfl (Nat.le_of_ble_eq_true rfl)
    have hY2 : hm_Y D cls A s.heap (wS G S ω) T'.heap [] := by
      rw [hT']
      refine ⟨hBt.1, hBt.2, ⟨?_, ?_, fun q hq => by cases hq⟩, hK.2.2.2⟩
      · have := hFt.1; rw [hs0'] at this; exact this
      · intro q h1 h2
        have := hFt.2 q (by rw [hs0']; exact h1) h2
        rw [hs0'] at this; exact this
    have key : W p l e { frames := 9, cells := 4, slots := 160, locals := 195 } s m ([.ref (S.ad 0 0 0), .int le, .int mx, .long sp, .ref ao] : List Value).toArray below meth c T'.heap [] 4 160 (MQ below (hm_Q D cls A (lpP G S ω ao f le mx sp)) ([.ref (S.ad 0 0 0), .int le, .int mx, .long sp, .ref ao] : List Value).toArray s 4 160 A) (F0 m 15 ls [.ref x]) := by
      refine lv_astore (lv' := [(6, .ref x), (0, .ref (S.ad 0 0 0)), (1, .int le), (2, .int mx), (3, .long sp), (5, .ref ao)]) X.1 X.2.1 d_L_part_15 hl (by decide) rfl (fun ls hl => ?_)
      refine lv_iconst (v := 1) X.1 X.2.1 d_L_part_17 (by decide) ?_
      exact en_iW X hY2 hr hlocks d_L_part_18 (Or.inl ⟨⟨hok, hlt, hs0⟩, rfl, rfl⟩)
    obtain ⟨z, g1, g2⟩ := key (T'.setVm vm') rfl Y'
    exact ⟨z, st z g1, g2⟩
  · refine hm_call (ct_runV (n := 3) X hK hY (k_W_part l D A G S ω h20 hall hω le mx sp hc) m_369 m_366 m_367 m_368 m_1 (by decide +kernel) ⟨Nat.le_of_ble_eq_true rfl, Nat.le_of_ble_eq_true rfl⟩ ⟨rfl, rfl⟩ (hm_recv ⟨X, hK.1⟩ hY w0 rfl) rfl hl.1 rfl (Nat.le_of_ble_eq_true rfl) d_L_part_7 ⟨Nat.le_of_ble_eq_true rfl, Nat.le_of_ble_eq_true rfl⟩) hY (fun v w1 H locs hp hY => ?_)
    obtain ⟨r, rfl⟩ := paP_int hp
    refine W.eq (g2 := F0 m 10 ls [.int r, .int 0, .ref ao]) rfl ?_
    refine lv_i2l (v := r.toInt64) X.1 X.2.1 d_L_part_10 rfl ?_
    refine hm_last ⟨X, hK.1⟩ hY (n := (31, 0, 0)) (cA := G 3) (N := 1) (f := f) (by rw [paP_big hp (by decide)]; exact ho) 2 rfl (i := 0) (show ¬ ((0 : Int32) < 0 ∨ 1 ≤ (0 : Int32).toNatClampNeg) by decide) d_L_part_11 (fun H locs hY => ?_)
    refine lv_goto (tgt := 19) X.1 X.2.1 d_L_part_12 (by decide) ?_
    refine lv_iconst (v := 0) X.1 X.2.1 d_L_part_19 (by decide) ?_
    exact en_iW X hY hr hlocks d_L_part_20 (Or.inr ⟨hc, rfl, r, w1, hp, rfl⟩)
