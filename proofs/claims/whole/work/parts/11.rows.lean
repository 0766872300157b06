/-! ENDS, FIELDS, COMPARISONS OF LONGS -/
section RW1
variable {p : Program} {l : Launch} {e : Env} {R : Room} {s : State} {m : MethodId} {args : Array Value} {below : List Frame} {meth : Method} {c : Code} {H : Heap} {locs : List Loc} {cells slots : Nat} {Q : State → Prop}
variable {cc : ByteArray} {nL pc tgt : Nat} {off : Int} {ls : Array Slot} {rest : List Value} {D : va_G} {A : Nat → Prop} {G : Nat → Nat} {H0 : Heap} {own : String} {w : hm_T} {x y : Int64}
theorem lc_lt (X : CallFix p m c cc nL s args wsA own) (h1 : decode cc pc = .ok (.lcmp, 1)) (h2 : decode cc (pc + 1) = .ok (.ifCond .lt off, 3)) (ht : ((pc + 1 : Nat) : Int) + off = (tgt : Int)) (kt : x < y → W p l e R s m args below meth c H locs cells slots Q (F0 m tgt ls rest)) (kf : ¬ x < y → W p l e R s m args below meth c H locs cells slots Q (F0 m (pc + 1 + 3) ls rest)) : W p l e R s m args below meth c H locs cells slots Q (F0 m pc ls (.long y :: .long x :: rest)) :=
  W.lcmp X.1 X.2.1 h1 (lv_if_lt X.1 X.2.1 h2 ht (fun h => kt ((lg_cmp_lt x y).mp h)) (fun h => kf (fun z => h ((lg_cmp_lt x y).mpr z))))
theorem lc_ge (X : CallFix p m c cc nL s args wsA own) (h1 : decode cc pc = .ok (.lcmp, 1)) (h2 : decode cc (pc + 1) = .ok (.ifCond .ge off, 3)) (ht : ((pc + 1 : Nat) : Int) + off = (tgt : Int)) (kt : y ≤ x → W p l e R s m args below meth c H locs cells slots Q (F0 m tgt ls rest)) (kf : ¬ y ≤ x → W p l e R s m args below meth c H locs cells slots Q (F0 m (pc + 1 + 3) ls rest)) : W p l e R s m args below meth c H locs cells slots Q (F0 m pc ls (.long y :: .long x :: rest)) :=
  W.lcmp X.1 X.2.1 h1 (lv_if_ge X.1 X.2.1 h2 ht (fun h => kt ((lg_cmp_ge x y).mp h)) (fun h => kf (fun z => h ((lg_cmp_ge x y).mpr z))))
theorem lc_gt (X : CallFix p m c cc nL s args wsA own) (h1 : decode cc pc = .ok (.lcmp, 1)) (h2 : decode cc (pc + 1) = .ok (.ifCond .gt off, 3)) (ht : ((pc + 1 : Nat) : Int) + off = (tgt : Int)) (kt : y < x → W p l e R s m args below meth c H locs cells slots Q (F0 m tgt ls rest)) (kf : ¬ y < x → W p l e R s m args below meth c H locs cells slots Q (F0 m (pc + 1 + 3) ls rest)) : W p l e R s m args below meth c H locs cells slots Q (F0 m pc ls (.long y :: .long x :: rest)) :=
  W.lcmp X.1 X.2.1 h1 (lv_if_gt X.1 X.2.1 h2 ht (fun h => kt ((lg_cmp_gt x y).mp h)) (fun h => kf (fun z => h ((lg_cmp_gt x y).mpr z))))
theorem lc_le (X : CallFix p m c cc nL s args wsA own) (h1 : decode cc pc = .ok (.lcmp, 1)) (h2 : decode cc (pc + 1) = .ok (.ifCond .le off, 3)) (ht : ((pc + 1 : Nat) : Int) + off = (tgt : Int)) (kt : x ≤ y → W p l e R s m args below meth c H locs cells slots Q (F0 m tgt ls rest)) (kf : ¬ x ≤ y → W p l e R s m args below meth c H locs cells slots Q (F0 m (pc + 1 + 3) ls rest)) : W p l e R s m args below meth c H locs cells slots Q (F0 m pc ls (.long y :: .long x :: rest)) :=
  W.lcmp X.1 X.2.1 h1 (lv_if_le X.1 X.2.1 h2 ht (fun h => kt ((lg_cmp_le x y).mp h)) (fun h => kf (fun z => h ((lg_cmp_le x y).mpr z))))
theorem lc_eq (X : CallFix p m c cc nL s args wsA own) (h1 : decode cc pc = .ok (.lcmp, 1)) (h2 : decode cc (pc + 1) = .ok (.ifCond .eq off, 3)) (ht : ((pc + 1 : Nat) : Int) + off = (tgt : Int)) (kt : x = y → W p l e R s m args below meth c H locs cells slots Q (F0 m tgt ls rest)) (kf : ¬ x = y → W p l e R s m args below meth c H locs cells slots Q (F0 m (pc + 1 + 3) ls rest)) : W p l e R s m args below meth c H locs cells slots Q (F0 m pc ls (.long y :: .long x :: rest)) :=
  W.lcmp X.1 X.2.1 h1 (lv_if_eq X.1 X.2.1 h2 ht (fun h => kt ((lg_cmp_eq x y).mp h)) (fun h => kf (fun z => h ((lg_cmp_eq x y).mpr z))))
theorem lc_ne (X : CallFix p m c cc nL s args wsA own) (h1 : decode cc pc = .ok (.lcmp, 1)) (h2 : decode cc (pc + 1) = .ok (.ifCond .ne off, 3)) (ht : ((pc + 1 : Nat) : Int) + off = (tgt : Int)) (kt : ¬ x = y → W p l e R s m args below meth c H locs cells slots Q (F0 m tgt ls rest)) (kf : x = y → W p l e R s m args below meth c H locs cells slots Q (F0 m (pc + 1 + 3) ls rest)) : W p l e R s m args below meth c H locs cells slots Q (F0 m pc ls (.long y :: .long x :: rest)) :=
  W.lcmp X.1 X.2.1 h1 (lv_if_ne X.1 X.2.1 h2 ht (fun h => kt (fun z => h ((lg_cmp_eq x y).mpr z))) (fun h => kf ((lg_cmp_eq x y).mp h)))
/-- the ends of a method that only reads -/
theorem en_iR {post : Option Value → Prop} {v : Int32} (X : CallFix p m c cc nL s args wsA own) (hr : meth.sig.returnType = some .int) (hlocks : meth.locks = false) (hdg : decode cc pc = .ok (.ireturn, 1)) (hp : post (some (.int v))) : W p l e R s m args below meth c s.heap [] cells slots (MQ below (hm_R post) args s cells slots (fun _ => False)) (F0 m pc ls [.int v]) :=
  W.iret X.1 X.2.1 hr (fun t ht hW => ⟨_, rfl, hp, ht⟩) (fun q h => by cases h) hdg
theorem en_zR {post : Option Value → Prop} {v : Int32} (X : CallFix p m c cc nL s args wsA own) (hr : meth.sig.returnType = some .boolean) (hlocks : meth.locks = false) (hdg : decode cc pc = .ok (.ireturn, 1)) (hn : narrow .boolean (.int v) = .int v) (hp : post (some (.int v))) : W p l e R s m args below meth c s.heap [] cells slots (MQ below (hm_R post) args s cells slots (fun _ => False)) (F0 m pc ls [.int v]) :=
  W.zret X.1 X.2.1 hr hn (fun t ht hW => ⟨_, rfl, hp, ht⟩) (fun q h => by cases h) hdg
theorem en_lR {post : Option Value → Prop} {v : Int64} (X : CallFix p m c cc nL s args wsA own) (hr : meth.sig.returnType = some .long) (hlocks : meth.locks = false) (hdg : decode cc pc = .ok (.lreturn, 1)) (hp : post (some (.long v))) : W p l e R s m args below meth c s.heap [] cells slots (MQ below (hm_R post) args s cells slots (fun _ => False)) (F0 m pc ls [.long v]) :=
  W.lret X.1 X.2.1 hr (fun t ht hW => ⟨_, rfl, hp, ht⟩) (fun q h => by cases h) hdg
theorem en_aR {post : Option Value → Prop} {v : Value} {C : FieldType} (X : CallFix p m c cc nL s args wsA own) (hr : meth.sig.returnType = some C) (hC : (∃ n, C = .object n) ∨ ∃ t, C = .array t) (hlocks : meth.locks = false) (hdg : decode cc pc = .ok (.areturn, 1)) (hv : v = .null ∨ ∃ a, v = .ref a) (hp : post (some v)) : W p l e R s m args below meth c s.heap [] cells slots (MQ below (hm_R post) args s cells slots (fun _ => False)) (F0 m pc ls [v]) :=
  W.aret X.1 X.2.1 hr hC hv (fun t ht hW => ⟨_, rfl, hp, ht⟩) (fun q h => by cases h) hdg
/-- the ends of a method that writes -/
theorem en_iW {post : Option Value → hm_T → Prop} {v : Int32} (X : CallFix p m c cc nL s args wsA own) (hY : hm_Y D cls A s.heap w H locs) (hr : meth.sig.returnType = some .int) (hlocks : meth.locks = false) (hdg : decode cc pc = .ok (.ireturn, 1)) (hp : post (some (.int v)) w) : W p l e R s m args below meth c H locs cells slots (MQ below (hm_Q D cls A post) args s cells slots A) (F0 m pc ls [.int v]) :=
  W.iret X.1 X.2.1 hr (fun t ht hW => ⟨⟨_, w, rfl, hp, hY.end' ht⟩, hY.2.2.1.F ht⟩) hY.2.2.1.2.2 hdg
theorem en_zW {post : Option Value → hm_T → Prop} {v : Int32} (X : CallFix p m c cc nL s args wsA own) (hY : hm_Y D cls A s.heap w H locs) (hr : meth.sig.returnType = some .boolean) (hlocks : meth.locks = false) (hdg : decode cc pc = .ok (.ireturn, 1)) (hn : narrow .boolean (.int v) = .int v) (hp : post (some (.int v)) w) : W p l e R s m args below meth c H locs cells slots (MQ below (hm_Q D cls A post) args s cells slots A) (F0 m pc ls [.int v]) :=
  W.zret X.1 X.2.1 hr hn (fun t ht hW => ⟨⟨_, w, rfl, hp, hY.end' ht⟩, hY.2.2.1.F ht⟩) hY.2.2.1.2.2 hdg
theorem en_vW {post : Option Value → hm_T → Prop} (X : CallFix p m c cc nL s args wsA own) (hY : hm_Y D cls A s.heap w H locs) (hr : meth.sig.returnType = none) (hlocks : meth.locks = false) (hdg : decode cc pc = .ok (.return_, 1)) (hp : post none w) : W p l e R s m args below meth c H locs cells slots (MQ below (hm_Q D cls A post) args s cells slots A) (F0 m pc ls []) :=
  W.vret X.1 X.2.1 hr (fun t ht hW => ⟨⟨_, w, rfl, hp, hY.end' ht⟩, hY.2.2.1.F ht⟩) hY.2.2.1.2.2 hdg
theorem en_aW {post : Option Value → hm_T → Prop} {v : Value} {C : FieldType} (X : CallFix p m c cc nL s args wsA own) (hY : hm_Y D cls A s.heap w H locs) (hr : meth.sig.returnType = some C) (hC : (∃ n, C = .object n) ∨ ∃ t, C = .array t) (hlocks : meth.locks = false) (hdg : decode cc pc = .ok (.areturn, 1)) (hv : v = .null ∨ ∃ a, v = .ref a) (hp : post (some v) w) : W p l e R s m args below meth c H locs cells slots (MQ below (hm_Q D cls A post) args s cells slots A) (F0 m pc ls [v]) :=
  W.aret X.1 X.2.1 hr hC hv (fun t ht hW => ⟨⟨_, w, rfl, hp, hY.end' ht⟩, hY.2.2.1.F ht⟩) hY.2.2.1.2.2 hdg
end RW1
/-- a truth as Java's int -/
def b2 (P : Prop) [Decidable P] : Int32 := if P then 1 else 0
theorem b2_t {P : Prop} [Decidable P] (h : P) : b2 P = 1 := if_pos h
theorem b2_f {P : Prop} [Decidable P] (h : ¬ P) : b2 P = 0 := if_neg h
theorem b2_0 {P : Prop} [Decidable P] : b2 P = 0 ↔ ¬ P := by
  by_cases h : P <;> simp [b2, h]
theorem b2_n {P : Prop} [Decidable P] : narrow .boolean (.int (b2 P)) = .int (b2 P) := by
  by_cases h : P
  · rw [b2_t h]; rfl
  · rw [b2_f h]; rfl
