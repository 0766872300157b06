/-! WORLDS WITH SEVERAL STORES; arraycopy of references -/
theorem hm_uu (w : hm_T) (n : hm_N) (x y : Nat × va_E) : hm_up (hm_up w n x) n y = hm_up w n y := by
  funext k
  by_cases h : k = n <;> simp [hm_up, h]
theorem hm_uc (w : hm_T) {n k : hm_N} (x y : Nat × va_E) (h : n ≠ k) : hm_up (hm_up w n x) k y = hm_up (hm_up w k y) n x := by
  funext j
  by_cases h1 : j = n
  · subst h1
    simp [hm_up, h]
  · by_cases h2 : j = k
    · subst h2
      simp [hm_up, h1]
    · simp [hm_up, h1, h2]
section WO1
variable {p : Program} {l : Launch} {e : Env} {R : Room} {s : State} {m : MethodId} {args : Array Value} {below : List Frame} {meth : Method} {c : Code} {H : Heap} {locs : List Loc} {cells slots : Nat} {Q : State → Prop}
variable {cc : ByteArray} {nL pc : Nat} {ls : Array Slot} {rest : List Value} {D : va_G} {cl : List vw_C} {A : Nat → Prop} {a : Nat} {tys : List (ClassId × FieldType)} {H0 : Heap} {Ts : List Cond} {own : String} {w : hm_T} {n nd : hm_N}
theorem hm_copy (X : hm_X p m c cc nL s args Ts own D cl tys) (hY : hm_Y D cl A H0 w H locs) (hsz : ls.size = nL) {index : Nat} (hlink : Cond.methodLink own index arraycopyName ∈ Ts) (hnat : Cond.native arraycopyName ∈ Ts) (hstat : Cond.static arraycopyName ∈ Ts) (hini : Cond.initialized "java/lang/System" ∈ Ts)
    {a0 : Nat} {c0 c1 : ClassId} {n0 n1 : Nat} {f g : Nat → Option Nat} {E0 E1 C : String} (hn0 : w n = some (a0, .inl (c0, n0, .inr (.inr (.inr (.inr f)))))) (hn1 : w nd = some (a, .inl (c1, n1, .inr (.inr (.inr (.inr g)))))) (t0 t1 : Nat) (ht0 : tys[t0]? = some (c0, .object E0)) (ht1 : tys[t1]? = some (c1, .object E1))
    {sp dp k : Int32} (h1 : ¬ sp < 0) (h2 : ¬ dp < 0) (h3 : ¬ k < 0) (h4 : sp.toNatClampNeg + k.toNatClampNeg ≤ n0) (h5 : dp.toNatClampNeg + k.toNatClampNeg ≤ n1) (hel : ∀ i : Nat, i < k.toNatClampNeg → ∀ y : Nat, f (sp.toNatClampNeg + i) = some y → ∃ cellV : Cell, H[y]? = some cellV ∧ cellV.vm.isStatics = false ∧ s.vm.findClass C = some cellV.cls) (hasg : ∀ comp c0 : ClassId, s.vm.findClass E1 = some comp → s.vm.findClass C = some c0 → s.vm.assignable c0 comp = true)
    (hframes : 1 ≤ R.frames) (hlocals : (rest.map fun v => v.category).sum + (nativeFrameWords "java/lang/System" "arraycopy" 5 + 11) ≤ R.locals) (hdg : decode cc pc = .ok (.invokestatic index, 3))
    (kk : ∀ (H1 : Heap) (locs1 : List Loc), hm_Y D cl A H0 (hm_up w nd (a, .inl (c1, n1, .inr (.inr (.inr (.inr (va_cpy f g sp.toNatClampNeg dp.toNatClampNeg k.toNatClampNeg))))))) H1 locs1 → W p l e R s m args below meth c H1 locs1 cells slots Q (F0 m (pc + 3) ls rest)) : W p l e R s m args below meth c H locs cells slots Q (F0 m pc ls (.int k :: .int dp :: .ref a :: .int sp :: .ref a0 :: rest)) := by
  obtain ⟨⟨hx, hb, hml, hown, hts⟩, hK⟩ := X
  have nn : ∀ z : Int32, ¬ z < 0 → z.toInt = (z.toNatClampNeg : Int) := by
    intro z hz
    have hz0 : (0 : Int) ≤ z.toInt := by
      have := Int32.not_lt.mp hz
      simpa using Int32.le_iff_toInt_le.mp this
    show z.toInt = ((z.toInt.toNat : Nat) : Int)
    omega
  intro T hT X
  have hc0 : H[a0]? = some (vp_cell c0 (n0, .inr (.inr (.inr (.inr f))))) := hY.1 n _ hn0
  have hc1 : H[a]? = some (vp_cell c1 (n1, .inr (.inr (.inr (.inr g))))) := hY.1 nd _ hn1
  obtain ⟨-, k0, hk0, cm0, hkk0⟩ := (hK.2 t0 _ ht0).1 n0 (fun j => va_rf (f j))
  obtain ⟨-, k1, hk1, cm1, hkk1⟩ := (hK.2 t1 _ ht1).1 n1 (fun j => va_rf (g j))
  obtain ⟨vm', X', step⟩ := X.arraycopy hx hown (hts _ hlink) (hts _ hnat) (hts _ hstat) (hts _ hini) (src := a0) (dst := a) (cs := vp_cell c0 (n0, .inr (.inr (.inr (.inr f))))) (cd := vp_cell c1 (n1, .inr (.inr (.inr (.inr g))))) (srcPos := sp) (destPos := dp) (n := k) (by rw [hT]; exact hc0) (by rw [hT]; exact hc1)
    (fun _ h => by cases h) (fun _ h => by cases h) (fun h => by cases h) (fun h => by cases h) hk0 hk1 hkk0 hkk1 rfl h1 h2 h3
    (by rw [nn sp h1, nn k h3]; show ¬ _ > ((arrV c0 n0 (fun j => va_rf (f j))).slots.size : Int); rw [arrV_size]; omega)
    (by rw [nn dp h2, nn k h3]; show ¬ _ > ((arrV c1 n1 (fun j => va_rf (g j))).slots.size : Int); rw [arrV_size]; omega)
    (fun vm₁ hal i hi => by
      have e : (vp_cell c0 (n0, .inr (.inr (.inr (.inr f))))).slots.getD (sp.toNatClampNeg + i) .null = va_rf (f (sp.toNatClampNeg + i)) := by
        show (arrV c0 n0 (fun j => va_rf (f j))).slots.getD _ _ = _
        rw [Array.getD_eq_getD_getElem?, arrV_read _ _ (by omega)]
        rfl
      rw [e]
      cases hy : f (sp.toNatClampNeg + i) with
      | none => exact ⟨rfl, trivial⟩
      | some y =>
        obtain ⟨cellV, g1, g2, g3⟩ := hel i hi y hy
        obtain ⟨kA, comp, r1, r2, r3, -⟩ := (hK.2 t1 _ ht1).2
        cases hk1.symm.trans r1
        cases hkk1.symm.trans r2
        obtain ⟨kC, hkC, -⟩ := Vm.findClass_spec g3
        obtain ⟨kE, hkE, -⟩ := Vm.findClass_spec r3
        obtain ⟨kC', hkC', -⟩ := hal.2.2 _ _ hkC
        obtain ⟨kE', hkE', -⟩ := hal.2.2 _ _ hkE
        refine ⟨rfl, cellV, (show T.heap[y]? = some cellV by rw [hT]; exact g1), (fun q h => by rw [h] at g2; cases g2), ⟨kC', hkC'⟩, ?_, ?_⟩
        · exact ⟨kE', hkE'⟩
        · show vm₁.assignable _ _ = true
          rw [hal.assignable]
          exact hasg _ _ r3 g3)
    (g := F0 m pc ls (.int k :: .int dp :: .ref a :: .int sp :: .ref a0 :: rest)) rfl (by rw [hml]; exact hsz) (rest := rest) rfl (by rw [hb]; exact hdg) hframes (by show 2 * 0 + _ + _ ≤ _; omega)
  have e1 : copied (vp_cell c0 (n0, .inr (.inr (.inr (.inr f))))) (vp_cell c1 (n1, .inr (.inr (.inr (.inr g))))) sp dp k = vp_cell c1 (n1, .inr (.inr (.inr (.inr (va_cpy f g sp.toNatClampNeg dp.toNatClampNeg k.toNatClampNeg))))) := by
    rw [vp_cell_q, vp_cell_q, vp_cell_q]
    exact va_copied (fun z => va_rf z) c0 c1 f g h4
  rw [e1] at X' step
  have hl : a < H.size := (Array.getElem?_eq_some_iff.mp hc1).1
  generalize hH1 : H.setIfInBounds a (vp_cell c1 (n1, .inr (.inr (.inr (.inr (va_cpy f g sp.toNatClampNeg dp.toNatClampNeg k.toNatClampNeg)))))) = H1
  have hheap : ((T.setVm vm').setCell a (vp_cell c1 (n1, .inr (.inr (.inr (.inr (va_cpy f g sp.toNatClampNeg dp.toNatClampNeg k.toNatClampNeg))))))).heap = H1 := by rw [← hH1, ← hT]; rfl
  have oq : ∀ q : Nat, q ≠ a → H1[q]? = H[q]? := fun q hq => by rw [← hH1]; simp [Array.getElem?_setIfInBounds, Ne.symm hq]
  have z : H1.size = H.size := by rw [← hH1]; simp
  have hat : va_at D cl (a, .inl (c1, n1, .inr (.inr (.inr (.inr (va_cpy f g sp.toNatClampNeg dp.toNatClampNeg k.toNatClampNeg)))))) H1 := by
    show H1[a]? = some _
    rw [← hH1]
    simp [Array.getElem?_setIfInBounds, hl]
  have hY1 := hY.set hn1 hat z oq 0
  obtain ⟨t, a1, b1⟩ := kk _ _ ⟨hY1.1, hY1.2.1, ⟨hY1.2.2.1.1, hY1.2.2.1.2.1, fun q hq => by
      rcases List.mem_append.mp hq with h | h
      · exact hY.2.2.1.2.2 q h
      · obtain ⟨z, -, hz⟩ := List.mem_map.mp h
        rw [← hz]
        exact hY.2.1.2 nd _ hn1⟩, hY1.2.2.2⟩ _ hheap X'
  exact ⟨t, step t a1, b1⟩
end WO1
/-- a cell gets another name; what had that name is forgotten -/
theorem hm_Y.ren {D : va_G} {cl : List vw_C} {A : Nat → Prop} {H0 H : Heap} {w : hm_T} {locs : List Loc} {nt nb : hm_N} {q : Nat × va_E} (h : hm_Y D cl A H0 (hm_up w nt q) H locs) (hnt : w nt = none) : hm_Y D cl A H0 (hm_up w nb q) H locs := by
  obtain ⟨hP, hD, hS⟩ := h
  have key : ∀ (i : hm_N) (x : Nat × va_E), hm_up w nb q i = some x → ∃ j, hm_up w nt q j = some x ∧ ((i = nb ∧ j = nt) ∨ (i ≠ nb ∧ j ≠ nt ∧ j = i)) := by
    intro i x hx
    by_cases hi : i = nb
    · subst hi
      rw [hm_up_s] at hx
      exact ⟨nt, by rw [hm_up_s]; exact hx, Or.inl ⟨rfl, rfl⟩⟩
    · rw [hm_up_n _ _ hi] at hx
      have hj : i ≠ nt := fun z => by rw [z, hnt] at hx; cases hx
      exact ⟨i, by rw [hm_up_n _ _ hj]; exact hx, Or.inr ⟨hi, hj, rfl⟩⟩
  refine ⟨fun i x hx => ?_, ⟨fun i j x y hx hy hxy => ?_, fun i x hx => ?_⟩, hS⟩
  · obtain ⟨k, hk, -⟩ := key i x hx
    exact hP k x hk
  · obtain ⟨k, hk, e1⟩ := key i x hx
    obtain ⟨k2, hk2, e2⟩ := key j y hy
    have e := hD.1 k k2 x y hk hk2 hxy
    rcases e1 with ⟨a1, a2⟩ | ⟨a1, a2, a3⟩ <;> rcases e2 with ⟨b1, b2⟩ | ⟨b1, b2, b3⟩
    · rw [a1, b1]
    · exact absurd (e.symm.trans a2) b2
    · exact absurd (e.trans b2) a2
    · rw [← a3, ← b3, e]
  · obtain ⟨k, hk, -⟩ := key i x hx
    exact hD.2 k x hk
theorem ct_cO {D : va_G} {A : Nat → Prop} {G : Nat → Nat} {s : State} (hK : ctK D A G s) : s.vm.findClass ("[" ++ (FieldType.object "java/lang/Object").toString) = some (G 4) := by
  obtain ⟨_, _, _, _, _, h⟩ := (hK.1.2 3 _ rfl).2
  exact h
theorem ct_cOn {D : va_G} {A : Nat → Prop} {G : Nat → Nat} {s : State} (hK : ctK D A G s) : s.vm.findClass "[Ljava/lang/Object;" = some (G 4) := va_nmO (hK.1.2 3 _ rfl).2 (by decide)
theorem ct_cI {D : va_G} {A : Nat → Prop} {G : Nat → Nat} {s : State} (hK : ctK D A G s) : s.vm.findClass ("[" ++ FieldType.int.toString) = some (G 1) := (hK.1.2 0 _ rfl).2
theorem ct_cZ {D : va_G} {A : Nat → Prop} {G : Nat → Nat} {s : State} (hK : ctK D A G s) : s.vm.findClass ("[" ++ FieldType.boolean.toString) = some (G 2) := (hK.1.2 1 _ rfl).2
theorem ct_cJ {D : va_G} {A : Nat → Prop} {G : Nat → Nat} {s : State} (hK : ctK D A G s) : s.vm.findClass ("[" ++ FieldType.long.toString) = some (G 3) := (hK.1.2 2 _ rfl).2
/-- the array's cell, as a receiver -/
theorem ct_arr {D : va_G} {A : Nat → Prop} {G : Nat → Nat} {s : State} {H0 H : Heap} {w : hm_T} {locs : List Loc} {n : hm_N} {a N : Nat} {f : Nat → Option Nat} (hK : ctK D A G s) (hY : hm_Y D cls A H0 w H locs) (hn : w n = some (a, .inl (G 4, N, .inr (.inr (.inr (.inr f)))))) : ∃ cell : Cell, H[a]? = some cell ∧ cell.vm.isStatics = false ∧ s.vm.findClass "[Ljava/lang/Object;" = some cell.cls :=
  ⟨_, hY.1 n _ hn, rfl, ct_cOn hK⟩
