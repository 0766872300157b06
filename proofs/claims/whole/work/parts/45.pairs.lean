/-! FOR EACH METHOD: CLASS AND MODEL SIDE BY SIDE, AS THE LAW CALLS THEM -/
theorem Met.mono {l : Launch} {y : MethodName} {ws : List Cond} {rm : Room} {Pc : Array Value → State → Prop} {Qc Qc' : Array Value → State → Outcome → State → Prop} {mc ms : Nat} {free : Addr → Prop} (h : Met l y ws rm Pc Qc mc ms free) (hq : ∀ a s o t, Qc a s o t → Qc' a s o t) : Met l y ws rm Pc Qc' mc ms free := by
  intro p e ha hc hk s m args below hf happ hP hK
  obtain ⟨n, o, h1, h2, h3, h4, h5⟩ := h p e ha hc hk s m args below hf happ hP hK
  exact ⟨n, o, h1, h2, h3, hq _ _ _ _ h4, h5⟩
theorem hm_mono {D : va_G} {A : Nat → Prop} {P P' : Option Value → hm_T → Prop} (h : ∀ v w, P v w → P' v w) : ∀ a s o t, hm_Q D cls A P a s o t → hm_Q D cls A P' a s o t := by
  rintro a s o t ⟨⟨v, w, h1, h2, h3⟩, h4⟩
  exact ⟨⟨v, w, h1, h v w h2, h3⟩, h4⟩
def cP (G : Nat → Nat) (ω : hm_T) (K : Int32 → cS → Prop) (v : Option Value) (w : hm_T) : Prop := ∃ (r : Int32) (S' : cS), v = some (.int r) ∧ w = wS G S' ω ∧ K r S'
def mPo (G : Nat → Nat) (ω : hm_T) (K : Int32 → mS → Prop) (v : Option Value) (w : hm_T) : Prop := ∃ (r : Int32) (M' : mS), v = some (.int r) ∧ w = wM G M' ω ∧ K r M'
def fn {α : Type} (x : Int32 × α) : Int32 → α → Prop := fun r T => r = x.1 ∧ T = x.2
def relP (B : Int) (S : cS) (M : mS) (K1 : Int32 → cS → Prop) (K2 : Int32 → mS → Prop) : Prop := ∀ r S' r' M', K1 r S' → K2 r' M' → r = r' ∧ RR (B + 1) S' M' ∧ S'.ad 0 0 0 = S.ad 0 0 0 ∧ M'.ad 0 = M.ad 0
theorem cP_fn {G : Nat → Nat} {ω : hm_T} {x : Int32 × cS} (v : Option Value) (w : hm_T) (h : v = some (.int x.1) ∧ w = wS G x.2 ω) : cP G ω (fn x) v w := ⟨x.1, x.2, h.1, h.2, rfl, rfl⟩
theorem mP_fn {G : Nat → Nat} {ω : hm_T} {x : Int32 × mS} (v : Option Value) (w : hm_T) (h : v = some (.int x.1) ∧ w = wM G x.2 ω) : mPo G ω (fn x) v w := ⟨x.1, x.2, h.1, h.2, rfl, rfl⟩
theorem rel_fn {B : Int} {S : cS} {M : mS} {x : Int32 × cS} {y : Int32 × mS} (h1 : x.1 = y.1 ∧ RR (B + 1) x.2 y.2) (h2 : x.2.ad 0 0 0 = S.ad 0 0 0) (h3 : y.2.ad 0 = M.ad 0) : relP B S M (fn x) (fn y) := by
  rintro r S' r' M' ⟨rfl, rfl⟩ ⟨rfl, rfl⟩
  exact ⟨h1.1, h1.2, h2, h3⟩
theorem up_r {B : Int} {P : Prop} {S : cS} {M : mS} (h : P ∧ RR B S M) : P ∧ RR (B + 1) S M := ⟨h.1, RR_mono h.2 (by omega)⟩
theorem RR_h {B : Int} {S : cS} {M : mS} (h : RR B S M) : S.C 0 0 ≤ 20 ∧ ∀ i, i < S.C 0 0 → S.C 1 i ≤ 10 := ⟨h.1.2.1, fun i hi => (h.2.1 i hi).1.2.2.2.2.2.2.2.2.2.2.2.1⟩
theorem RR_n {B : Int} {S : cS} {M : mS} (h : RR B S M) {i : Nat} (hi : i < S.C 0 0) : mP M (nI (i + 1)) ∧ 1 ≤ i + 1 ∧ i + 1 ≤ 20 ∧ M.I 12 (i + 1) = nI (S.C 1 i) ∧ S.C 1 i ≤ 10 ∧ moOk M ∧ 0 ≤ M.I 10 (i + 1) ∧ M.I 10 (i + 1) ≤ 30 := by
  have q := (h.2.1 i hi).1
  have b2 := h.1.2.1
  refine ⟨(r_isN h _).mp ⟨i, hi, rfl⟩, by omega, by omega, q.2.2.2.2.2.2.2.2.2.2.1, q.2.2.2.2.2.2.2.2.2.2.2.1, ?_, ?_, ?_⟩
  · unfold moOk
    rw [h.1.2.2.1]
    exact ⟨h.1.2.2.2.2.2.2.2.2.2.2.2.2.2.2.1, h.1.2.2.2.2.2.2.2.2.2.2.2.2.2.2.2.1⟩
  · rw [q.2.2.2.2.2.2.2.2.2.1]; exact q.2.2.2.2.2.2.2.2.2.2.2.2.2.2.2.2.2.1
  · rw [q.2.2.2.2.2.2.2.2.2.1]; exact q.2.2.2.2.2.2.2.2.2.2.2.2.2.2.2.2.2.2
theorem mP_neg {B : Int} {S : cS} {M : mS} (h : RR B S M) {x : Int32} (hx : ¬ isN S x) : ¬ mP M x := fun z => hx ((r_isN h x).mpr z)
section PAIRS
variable (l : Launch) (D : va_G) (A : Nat → Prop) (G : Nat → Nat) {B : Int} {S : cS} {M : mS}

theorem a_edge {i : Nat} {fr to : Int32} : (ed S i fr to).2.ad 0 0 0 = S.ad 0 0 0 := by
  have := (aE_k S i (S.I 0 0 0 * 31 + fr) to).2
  unfold ed
  repeat' split
  all_goals first | rfl | (show (aE S i _ to).2.ad 0 0 0 = _; rw [this])
theorem b_edge {n : Nat} {fr to : Int32} : (medge M n fr to).2.ad 0 = M.ad 0 := by
  unfold medge
  repeat' split
  all_goals rfl
theorem a_point {i : Nat} {p : Int32} {t : Int64} : (po S i p t).2.ad 0 0 0 = S.ad 0 0 0 := by
  have := (pP_k (S.sJ 0 0 0 t) i (S.I 0 0 0) p t).2
  unfold po
  repeat' split
  all_goals first | rfl | (show (pP _ i _ p t).ad 0 0 0 = _; rw [this]; rfl)
theorem pE_ad {n : Nat} {wh : Int32} {t : Int64} (j : Nat) : (pE M n wh t j).ad = M.ad := by
  induction j with
  | zero => rfl
  | succ j ih =>
    show (pE1 _ n wh t j).ad = _
    unfold pE1
    repeat' split
    all_goals exact ih
theorem pB_ad {n : Nat} {wh : Int32} {t : Int64} (j : Nat) : (pB M n wh t j).ad = M.ad := by
  induction j with
  | zero => rfl
  | succ j ih =>
    show (pB1 _ n wh t j).ad = _
    unfold pB1
    repeat' split
    all_goals exact ih
theorem b_point {n cn : Nat} {p : Int32} {t : Int64} : (mpoint M n cn p t).2.ad 0 = M.ad 0 := by
  have e : (mpo2 (pE (((M.sI 0 0 0).sJ 21 0 t).sI 10 n p) n p t cn) n p t cn).2.ad = M.ad := by
    unfold mpo2 mpo3
    split
    · exact (pB_ad cn).trans (pE_ad cn)
    · exact (pB_ad cn).trans (pE_ad cn)
  unfold mpoint
  repeat' split
  all_goals first | rfl | rw [e]
theorem a_tolerance {i : Nat} {n : Int32} : (toY S i n).2.ad 0 0 0 = S.ad 0 0 0 := by
  unfold toY
  repeat' split
  all_goals rfl
theorem b_tolerance {n : Nat} {k : Int32} : (mtolY M n k).2.ad 0 = M.ad 0 := by
  unfold mtolY
  repeat' split
  all_goals rfl
theorem a_toN {x n : Int32} : (toN S x n).2.ad 0 0 0 = S.ad 0 0 0 := by
  unfold toN
  repeat' split
  all_goals rfl
theorem b_toN {x k : Int32} : (mtolN M x k).2.ad 0 = M.ad 0 := by
  unfold mtolN
  repeat' split
  all_goals rfl
theorem a_state {i : Nat} : ((S.I 13 i 0, S) : Int32 × cS).2.ad 0 0 0 = S.ad 0 0 0 := rfl
theorem b_state {n : Nat} : ((M.I 5 n, M.sI 0 0 0) : Int32 × mS).2.ad 0 = M.ad 0 := rfl
theorem a_mode {x : Int32} : (md S x).2.ad 0 0 0 = S.ad 0 0 0 := by
  have := (mdL_k (S.sI 0 0 0 x) (S.C 0 0)).2
  unfold md
  repeat' split
  all_goals first | rfl | (show (mdL _ _).ad 0 0 0 = _; rw [this]; rfl)
theorem mmL_ad (j : Nat) : (mmL M j).ad = M.ad := by
  induction j with
  | zero => rfl
  | succ j ih => exact (clr_k (mmL M j) (j + 1)).1.trans ih
theorem b_mode {x : Int32} {c0 : Nat} : (mmode M x c0).2.ad 0 = M.ad 0 := by
  have e : (mmL ((M.sI 0 0 0).sI 19 0 x) c0).ad = M.ad := mmL_ad c0
  unfold mmode
  by_cases h1 : x < 0
  · rw [if_pos h1]; rfl
  · by_cases h2 : x ≤ 3
    · rw [if_neg h1, if_pos h2]
      show (if M.I 19 0 = x then (M.sI 0 0 0).sI 19 0 x else mmL ((M.sI 0 0 0).sI 19 0 x) c0).ad 0 = _
      split
      · rfl
      · rw [e]
    · rw [if_neg h1, if_neg h2]; rfl
theorem a_outer {t : Int64} : (ou S t).2.ad 0 0 0 = S.ad 0 0 0 := by
  have := (rS_k (S.sJ 0 0 0 t) 3).2
  unfold ou
  repeat' split
  all_goals first | rfl | (show (rS _ _).ad 0 0 0 = _; rw [this]; rfl)
theorem b_outer {t : Int64} {c0 : Nat} : (mou M t c0).2.ad 0 = M.ad 0 := by
  have e : (r0 (((M.sI 0 0 0).sJ 21 0 t).sJ 30 0 t) 3 c0).ad = M.ad := (r0_k _ 3 c0).1
  unfold mou
  repeat' split
  all_goals first | rfl | rw [e]
theorem a_reset {x : Int32} : (rst S x).2.ad 0 0 0 = S.ad 0 0 0 := by
  have := (rS_k S 4).2
  unfold rst
  repeat' split
  all_goals first | rfl | (show (rS _ _).ad 0 0 0 = _; rw [this])
theorem b_reset {x : Int32} {c0 : Nat} : (mrst M x c0).2.ad 0 = M.ad 0 := by
  have e : (r0 (M.sI 0 0 0) 4 c0).ad = M.ad := (r0_k _ 4 c0).1
  unfold mrst
  repeat' split
  all_goals first | rfl | rw [e]
theorem a_answer {st : Int32} {v t : Int64} : (an S st v t).2.ad 0 0 0 = S.ad 0 0 0 := by
  have e1 := (tR_k (S.sJ 0 0 0 t) st t).2
  have e2 := (rS_k ((((S.sJ 0 0 0 t).sI 9 0 0 (S.I 9 0 0 + 1)).sI 8 0 0 0).sJ 2 0 0 t) 2).2
  unfold an
  repeat' split
  all_goals first | rfl | (show (tR _ _ _).ad 0 0 0 = _; rw [e1]; rfl) | (show (rS _ _).ad 0 0 0 = _; rw [e2]; rfl)
theorem b_answer {st : Int32} {v t : Int64} {c0 : Nat} : (mans M st v t c0).2.ad 0 = M.ad 0 := by
  have e : ∀ T : mS, T.ad = M.ad → (r0 T 2 c0).ad 0 = M.ad 0 := fun T hT => by rw [(r0_k T 2 c0).1, hT]
  have e2 := e (((((M.sI 0 0 0).sJ 21 0 t).sI 28 0 (M.I 28 0 + 1)).sI 27 0 0).sJ 29 0 t) rfl
  have w : ∀ (c : Prop) [Decidable c], (if c then ((0 : Int32), r0 (((((M.sI 0 0 0).sJ 21 0 t).sI 28 0 (M.I 28 0 + 1)).sI 27 0 0).sJ 29 0 t) 2 c0) else (0, (((((M.sI 0 0 0).sJ 21 0 t).sI 28 0 (M.I 28 0 + 1)).sI 27 0 0).sJ 29 0 t))).2.ad 0 = M.ad 0 := fun c _ => by
    split
    · exact e2
    · rfl
  unfold mans
  by_cases g1 : st < 0
  · rw [if_pos g1]; rfl
  by_cases g2 : 3 < st
  · rw [if_neg g1, if_pos g2]; rfl
  by_cases g3 : mT (M.sI 0 0 0) t
  · rw [if_neg g1, if_neg g2, if_pos g3]
    by_cases g4 : st = M.I 27 0
    · rw [if_pos g4]
      by_cases g5 : v = (rvI (M.I 26 0) st).toInt64
      · rw [if_pos g5]
        have rr : ∀ (c d : Prop) [Decidable c] [Decidable d], (if c then (if d then ((1 : Int32), ((((((M.sI 0 0 0).sJ 21 0 t).sI 27 0 (M.I 27 0 + 1)).sI 27 0 0).sJ 29 0 t).sI 28 0 0).sI 26 0 (nq (M.I 26 0))) else (1, ((((((M.sI 0 0 0).sJ 21 0 t).sI 27 0 (M.I 27 0 + 1)).sI 27 0 0).sJ 29 0 t).sI 28 0 (M.I 28 0 - 1)).sI 26 0 (nq (M.I 26 0)))) else (1, (((M.sI 0 0 0).sJ 21 0 t).sI 27 0 (M.I 27 0 + 1)))).2.ad 0 = M.ad 0 := fun c d _ _ => by
          split
          · split <;> rfl
          · rfl
        by_cases g6 : st = 3
        · rw [if_pos g6]
          by_cases g7 : t - M.J 29 0 < 10
          · rw [if_pos g7]; exact w _
          · rw [if_neg g7]
            by_cases g8 : 50 < t - M.J 29 0
            · rw [if_pos g8]; exact w _
            · rw [if_neg g8]; exact rr _ _
        · rw [if_neg g6]; exact rr _ _
      · rw [if_neg g5]
        by_cases g6 : st = 3
        · rw [if_pos g6]; exact w _
        · rw [if_neg g6]; exact w _
    · rw [if_neg g4]
      by_cases g6 : st = 3
      · rw [if_pos g6]; exact w _
      · rw [if_neg g6]; exact w _
  · rw [if_neg g1, if_neg g2, if_neg g3]; rfl
theorem a_cycle {t : Int64} : (cy S t).2.ad 0 0 0 = S.ad 0 0 0 := by
  have e := (cyL_k ((S.sJ 0 0 0 t).sI 1 0 0 (S.I 1 0 0 + 1)) t (S.C 0 0)).2
  unfold cy
  split
  · have e0 : (cyL ((S.sJ 0 0 0 t).sI 1 0 0 (S.I 1 0 0 + 1)) t (S.C 0 0)).ad = S.ad := e
    revert e0
    generalize cyL ((S.sJ 0 0 0 t).sI 1 0 0 (S.I 1 0 0 + 1)) t (S.C 0 0) = T
    intro e0
    have r : ∀ v, (rS (T.sI 3 0 0 v) 1).ad 0 0 0 = S.ad 0 0 0 := fun v => by rw [(rS_k (T.sI 3 0 0 v) 1).2]; show T.ad 0 0 0 = _; rw [e0]
    have q : ∀ v, (T.sI 3 0 0 v).ad 0 0 0 = S.ad 0 0 0 := fun v => by show T.ad 0 0 0 = _; rw [e0]
    unfold cy2
    repeat' split
    all_goals first | exact q _ | exact r _
  · rfl
theorem cyT_ad {cn : Nat → Nat} (j : Nat) : (cyT M cn j).ad = M.ad := by
  induction j with
  | zero => rfl
  | succ j ih =>
    show (cyT1 _ _ cn).ad = _
    unfold cyT1
    split
    · exact ih
    · exact ((jB_k _ _).1.trans ((jA_k _ _).1.trans (jL_k _ _ _).1)).trans ih
theorem b_cycle {t : Int64} {cn : Nat → Nat} {c0 : Nat} : (mcyc M t cn c0).2.ad 0 = M.ad 0 := by
  unfold mcyc
  split
  · have e0 : (cyT (((M.sI 0 0 0).sJ 21 0 t).sI 20 0 (M.I 20 0 + 1)) cn c0).ad = M.ad := cyT_ad c0
    revert e0
    generalize cyT (((M.sI 0 0 0).sJ 21 0 t).sI 20 0 (M.I 20 0 + 1)) cn c0 = T
    intro e0
    have r : ∀ v, (r0 (T.sI 22 0 v) 1 c0).ad 0 = M.ad 0 := fun v => by rw [(r0_k (T.sI 22 0 v) 1 c0).1]; show T.ad 0 = _; rw [e0]
    have q : ∀ v, (T.sI 22 0 v).ad 0 = M.ad 0 := fun v => by show T.ad 0 = _; rw [e0]
    unfold mcy2
    repeat' split
    all_goals first | exact q _ | exact r _
  · rfl

theorem P_edge (h : RR B S M) (x fr to : Int32) : ∃ (K1 : Int32 → cS → Prop) (K2 : Int32 → mS → Prop), (∀ ω, Met l y_W_edge (.code y_W_edge c_W_edge 5 (some .int) :: wsA) { frames := 4, cells := 0, slots := 0, locals := 85 } (va_Pc [.ref (S.ad 0 0 0), .int x, .int fr, .int to] (ctU D A G (wS G S ω))) (hm_Q D cls A (cP G ω K1)) 0 0 A) ∧ (∀ ω, Met l y_M_edge (.code y_M_edge c_M_edge 5 (some .int) :: wsA) { frames := 1, cells := 0, slots := 0, locals := 23 } (va_Pc [.ref (M.ad 0), .int x, .int fr, .int to] (ctU D A G (wM G M ω))) (hm_Q D cls A (mPo G ω K2)) 0 0 A) ∧ relP B S M K1 K2 := by
  have hh := RR_h h
  by_cases hx : isN S x
  · obtain ⟨i, hi, rfl⟩ := hx
    have hn := RR_n h hi
    exact ⟨fn (ed S i fr to), fn (medge M (i + 1) fr to), fun ω => (k_W_edge_y l D A G S ω hh.1 hh.2 i hi fr to).mono (hm_mono cP_fn), fun ω => (k_M_edge_y l D A G M ω (i + 1) hn.1 hn.2.1 hn.2.2.1 hn.2.2.2.2.2.1 fr to).mono (hm_mono mP_fn), rel_fn (up_r (r_edge h hi fr to)) (a_edge) (b_edge)⟩
  · exact ⟨fn (((-1 : Int32), S)), fn (((-1 : Int32), M.sI 0 0 0)), fun ω => (k_W_edge_no l D A G S ω hh.1 hh.2 x hx fr to).mono (hm_mono cP_fn), fun ω => (k_M_edge_no l D A G M ω x (mP_neg h hx) fr to).mono (hm_mono mP_fn), rel_fn (up_r (⟨rfl, RR_0 h 0⟩)) rfl rfl⟩

theorem P_point (h : RR B S M) (x p : Int32) (t : Int64) : ∃ (K1 : Int32 → cS → Prop) (K2 : Int32 → mS → Prop), (∀ ω, Met l y_W_point (.code y_W_point c_W_point 6 (some .int) :: wsA) { frames := 5, cells := 0, slots := 0, locals := 115 } (va_Pc [.ref (S.ad 0 0 0), .int x, .int p, .long t] (ctU D A G (wS G S ω))) (hm_Q D cls A (cP G ω K1)) 0 0 A) ∧ (∀ ω, Met l y_M_point (.code y_M_point c_M_point 9 (some .int) :: wsA) { frames := 1, cells := 0, slots := 0, locals := 23 } (va_Pc [.ref (M.ad 0), .int x, .int p, .long t] (ctU D A G (wM G M ω))) (hm_Q D cls A (mPo G ω K2)) 0 0 A) ∧ relP B S M K1 K2 := by
  have hh := RR_h h
  by_cases hx : isN S x
  · obtain ⟨i, hi, rfl⟩ := hx
    have hn := RR_n h hi
    exact ⟨fn (po S i p t), fn (mpoint M (i + 1) (S.C 1 i) p t), fun ω => (k_W_point_y l D A G S ω hh.1 hh.2 i hi p t).mono (hm_mono cP_fn), fun ω => (k_M_point_y l D A G M ω (i + 1) hn.1 hn.2.1 hn.2.2.1 (S.C 1 i) hn.2.2.2.1 hn.2.2.2.2.1 hn.2.2.2.2.2.1 hn.2.2.2.2.2.2 p t).mono (hm_mono mP_fn), rel_fn (up_r (r_point h hi p t)) (a_point) (b_point)⟩
  · exact ⟨fn (((-1 : Int32), S)), fn (((-1 : Int32), M.sI 0 0 0)), fun ω => (k_W_point_no l D A G S ω hh.1 hh.2 x hx p t).mono (hm_mono cP_fn), fun ω => (k_M_point_no l D A G M ω x (mP_neg h hx) p t).mono (hm_mono mP_fn), rel_fn (up_r (⟨rfl, RR_0 h 0⟩)) rfl rfl⟩

theorem P_tolerance (h : RR B S M) (x n : Int32) : ∃ (K1 : Int32 → cS → Prop) (K2 : Int32 → mS → Prop), (∀ ω, Met l y_W_tolerance (.code y_W_tolerance c_W_tolerance 4 (some .int) :: wsA) { frames := 4, cells := 0, slots := 0, locals := 85 } (va_Pc [.ref (S.ad 0 0 0), .int x, .int n] (ctU D A G (wS G S ω))) (hm_Q D cls A (cP G ω K1)) 0 0 A) ∧ (∀ ω, Met l y_M_tolerance (.code y_M_tolerance c_M_tolerance 3 (some .int) :: wsA) { frames := 1, cells := 0, slots := 0, locals := 21 } (va_Pc [.ref (M.ad 0), .int x, .int n] (ctU D A G (wM G M ω))) (hm_Q D cls A (mPo G ω K2)) 0 0 A) ∧ relP B S M K1 K2 := by
  have hh := RR_h h
  by_cases hx : isN S x
  · obtain ⟨i, hi, rfl⟩ := hx
    have hn := RR_n h hi
    exact ⟨fn (toY S i n), fn (mtolY M (i + 1) n), fun ω => (k_W_tolerance_y l D A G S ω hh.1 hh.2 i hi n).mono (hm_mono cP_fn), fun ω => (k_M_tolerance_y l D A G M ω (i + 1) hn.1 hn.2.1 hn.2.2.1 n).mono (hm_mono mP_fn), rel_fn (up_r (r_tolY h hi n)) (a_tolerance) (b_tolerance)⟩
  · exact ⟨fn (toN S x n), fn (mtolN M x n), fun ω => (k_W_tolerance_no l D A G S ω hh.1 hh.2 x hx n).mono (hm_mono cP_fn), fun ω => (k_M_tolerance_no l D A G M ω x (mP_neg h hx) n).mono (hm_mono mP_fn), rel_fn (up_r (r_tolN h x n)) a_toN b_toN⟩

theorem P_state (h : RR B S M) (x : Int32) : ∃ (K1 : Int32 → cS → Prop) (K2 : Int32 → mS → Prop), (∀ ω, Met l y_W_state (.code y_W_state c_W_state 3 (some .int) :: wsA) { frames := 4, cells := 0, slots := 0, locals := 85 } (va_Pc [.ref (S.ad 0 0 0), .int x] (ctU D A G (wS G S ω))) (hm_Q D cls A (cP G ω K1)) 0 0 A) ∧ (∀ ω, Met l y_M_state (.code y_M_state c_M_state 2 (some .int) :: wsA) { frames := 1, cells := 0, slots := 0, locals := 21 } (va_Pc [.ref (M.ad 0), .int x] (ctU D A G (wM G M ω))) (hm_Q D cls A (mPo G ω K2)) 0 0 A) ∧ relP B S M K1 K2 := by
  have hh := RR_h h
  by_cases hx : isN S x
  · obtain ⟨i, hi, rfl⟩ := hx
    have hn := RR_n h hi
    exact ⟨fn ((S.I 13 i 0, S)), fn ((M.I 5 (i + 1), M.sI 0 0 0)), fun ω => (k_W_state_y l D A G S ω hh.1 hh.2 i hi ).mono (hm_mono cP_fn), fun ω => (k_M_state_y l D A G M ω (i + 1) hn.1 hn.2.1 hn.2.2.1 ).mono (hm_mono mP_fn), rel_fn (up_r (⟨(h.2.1 i hi).1.2.2.2.2.1.symm, RR_0 h 0⟩)) (a_state) (b_state)⟩
  · exact ⟨fn (((-1 : Int32), S)), fn (((-1 : Int32), M.sI 0 0 0)), fun ω => (k_W_state_no l D A G S ω hh.1 hh.2 x hx ).mono (hm_mono cP_fn), fun ω => (k_M_state_no l D A G M ω x (mP_neg h hx) ).mono (hm_mono mP_fn), rel_fn (up_r (⟨rfl, RR_0 h 0⟩)) rfl rfl⟩

theorem P_mode (h : RR B S M) (x : Int32) : ∃ (K1 : Int32 → cS → Prop) (K2 : Int32 → mS → Prop), (∀ ω, Met l y_W_mode (.code y_W_mode c_W_mode 4 (some .int) :: wsA) { frames := 4, cells := 0, slots := 0, locals := 85 } (va_Pc [.ref (S.ad 0 0 0), .int x] (ctU D A G (wS G S ω))) (hm_Q D cls A (cP G ω K1)) 0 0 A) ∧ (∀ ω, Met l y_M_mode (.code y_M_mode c_M_mode 4 (some .int) :: wsA) { frames := 1, cells := 0, slots := 0, locals := 22 } (va_Pc [.ref (M.ad 0), .int x] (ctU D A G (wM G M ω))) (hm_Q D cls A (mPo G ω K2)) 0 0 A) ∧ relP B S M K1 K2 := by
  have hh := RR_h h
  exact ⟨fn (md S x), fn (mmode M x (S.C 0 0)), fun ω => (k_W_mode l D A G S ω hh.1 hh.2 x).mono (hm_mono cP_fn), fun ω => (k_M_mode l D A G M ω (S.C 0 0) h.1.1 h.1.2.1 x).mono (hm_mono mP_fn), rel_fn (up_r (r_mode h x)) a_mode b_mode⟩

theorem P_outer (h : RR B S M) (hB : 0 ≤ B) (t : Int64) : ∃ (K1 : Int32 → cS → Prop) (K2 : Int32 → mS → Prop), (∀ ω, Met l y_W_outer (.code y_W_outer c_W_outer 3 (some .int) :: wsA) { frames := 6, cells := 0, slots := 0, locals := 127 } (va_Pc [.ref (S.ad 0 0 0), .long t] (ctU D A G (wS G S ω))) (hm_Q D cls A (cP G ω K1)) 0 0 A) ∧ (∀ ω, Met l y_M_outer (.code y_M_outer c_M_outer 4 (some .int) :: wsA) { frames := 2, cells := 0, slots := 0, locals := 44 } (va_Pc [.ref (M.ad 0), .long t] (ctU D A G (wM G M ω))) (hm_Q D cls A (mPo G ω K2)) 0 0 A) ∧ relP B S M K1 K2 := by
  have hh := RR_h h
  exact ⟨fn (ou S t), fn (mou M t (S.C 0 0)), fun ω => (k_W_outer l D A G S ω hh.1 hh.2 t).mono (hm_mono cP_fn), fun ω => (k_M_outer l D A G M ω (S.C 0 0) h.1.1 h.1.2.1 t).mono (hm_mono mP_fn), rel_fn (up_r (r_outer h hB t)) a_outer b_outer⟩

theorem P_reset (h : RR B S M) (hB : 0 ≤ B) (x : Int32) : ∃ (K1 : Int32 → cS → Prop) (K2 : Int32 → mS → Prop), (∀ ω, Met l y_W_reset (.code y_W_reset c_W_reset 2 (some .int) :: wsA) { frames := 6, cells := 0, slots := 0, locals := 127 } (va_Pc [.ref (S.ad 0 0 0), .int x] (ctU D A G (wS G S ω))) (hm_Q D cls A (cP G ω K1)) 0 0 A) ∧ (∀ ω, Met l y_M_reset (.code y_M_reset c_M_reset 2 (some .int) :: wsA) { frames := 2, cells := 0, slots := 0, locals := 44 } (va_Pc [.ref (M.ad 0), .int x] (ctU D A G (wM G M ω))) (hm_Q D cls A (mPo G ω K2)) 0 0 A) ∧ relP B S M K1 K2 := by
  have hh := RR_h h
  exact ⟨fn (rst S x), fn (mrst M x (S.C 0 0)), fun ω => (k_W_reset l D A G S ω hh.1 hh.2 x).mono (hm_mono cP_fn), fun ω => (k_M_reset l D A G M ω (S.C 0 0) h.1.1 h.1.2.1 x).mono (hm_mono mP_fn), rel_fn (up_r (r_reset h hB x)) a_reset b_reset⟩

theorem P_answer (h : RR B S M) (hB : 0 ≤ B) (st : Int32) (v t : Int64) : ∃ (K1 : Int32 → cS → Prop) (K2 : Int32 → mS → Prop), (∀ ω, Met l y_W_answer (.code y_W_answer c_W_answer 6 (some .int) :: wsA) { frames := 6, cells := 0, slots := 0, locals := 127 } (va_Pc [.ref (S.ad 0 0 0), .int st, .long v, .long t] (ctU D A G (wS G S ω))) (hm_Q D cls A (cP G ω K1)) 0 0 A) ∧ (∀ ω, Met l y_M_answer (.code y_M_answer c_M_answer 8 (some .int) :: wsA) { frames := 2, cells := 0, slots := 0, locals := 44 } (va_Pc [.ref (M.ad 0), .int st, .long v, .long t] (ctU D A G (wM G M ω))) (hm_Q D cls A (mPo G ω K2)) 0 0 A) ∧ relP B S M K1 K2 := by
  have hh := RR_h h
  exact ⟨fn (an S st v t), fn (mans M st v t (S.C 0 0)), fun ω => (k_W_answer l D A G S ω hh.1 hh.2 st v t).mono (hm_mono cP_fn), fun ω => (k_M_answer l D A G M ω (S.C 0 0) h.1.1 h.1.2.1 st v t).mono (hm_mono mP_fn), rel_fn (up_r (r_answer h hB st v t)) a_answer b_answer⟩

theorem cn_ok {B : Int} {S : cS} {M : mS} (h : RR B S M) : ∀ n, 1 ≤ n → n ≤ S.C 0 0 → M.I 12 n = nI (S.C 1 (n - 1)) ∧ S.C 1 (n - 1) ≤ 10 ∧ ¬ M.I 4 n = 0 := by
  intro n h1 h2
  have q := (h.2.1 (n - 1) (by omega)).1
  have e : n - 1 + 1 = n := by omega
  have a4 := q.2.2.2.1
  have a11 := q.2.2.2.2.2.2.2.2.2.2.1
  rw [e] at a4 a11
  exact ⟨a11, q.2.2.2.2.2.2.2.2.2.2.2.1, fun z => by rw [z] at a4; exact absurd a4 (by decide)⟩

theorem P_cycle (h : RR B S M) (hB : 0 ≤ B) (hB9 : B ≤ 900) (t : Int64) : ∃ (K1 : Int32 → cS → Prop) (K2 : Int32 → mS → Prop), (∀ ω, Met l y_W_cycle (.code y_W_cycle c_W_cycle 4 (some .int) :: wsA) { frames := 6, cells := 0, slots := 0, locals := 127 } (va_Pc [.ref (S.ad 0 0 0), .long t] (ctU D A G (wS G S ω))) (hm_Q D cls A (cP G ω K1)) 0 0 A) ∧ (∀ ω, Met l y_M_cycle (.code y_M_cycle c_M_cycle 5 (some .int) :: wsA) { frames := 2, cells := 0, slots := 0, locals := 44 } (va_Pc [.ref (M.ad 0), .long t] (ctU D A G (wM G M ω))) (hm_Q D cls A (mPo G ω K2)) 0 0 A) ∧ relP B S M K1 K2 := by
  have hh := RR_h h
  exact ⟨fn (cy S t), fn (mcyc M t (fun n => S.C 1 (n - 1)) (S.C 0 0)), fun ω => (k_W_cycle l D A G S ω hh.1 hh.2 t).mono (hm_mono cP_fn), fun ω => (k_M_cycle l D A G M ω (S.C 0 0) h.1.1 h.1.2.1 (fun n => S.C 1 (n - 1)) (cn_ok h) t).mono (hm_mono mP_fn), rel_fn (r_cycle h hB hB9 t) a_cycle b_cycle⟩

theorem P_deadline (h : RR B S M) (x fr to : Int32) (lo hi2 : Int64) : ∃ (K1 : Int32 → cS → Prop) (K2 : Int32 → mS → Prop), (∀ ω, Met l y_W_deadline (.code y_W_deadline c_W_deadline 9 (some .int) :: wsA) { frames := 8, cells := 2, slots := 17, locals := 171 } (va_Pc [.ref (S.ad 0 0 0), .int x, .int fr, .int to, .long lo, .long hi2] (ctU D A G (wS G S ω))) (hm_Q D cls A (cP G ω K1)) 2 17 A) ∧ (∀ ω, Met l y_M_deadline (.code y_M_deadline c_M_deadline 9 (some .int) :: wsA) { frames := 1, cells := 0, slots := 0, locals := 21 } (va_Pc [.ref (M.ad 0), .int x, .int fr, .int to, .long lo, .long hi2] (ctU D A G (wM G M ω))) (hm_Q D cls A (mPo G ω K2)) 0 0 A) ∧ relP B S M K1 K2 := by
  have hh := RR_h h
  by_cases hx : isN S x
  · obtain ⟨i, hi, rfl⟩ := hx
    have hn := RR_n h hi
    refine ⟨fun r S' => (¬ okD fr to lo hi2 ∧ r = -2 ∧ S' = S) ∨ (okD fr to lo hi2 ∧ ¬ S.C 1 i < 10 ∧ r = -4 ∧ S' = S) ∨ (okD fr to lo hi2 ∧ S.C 1 i < 10 ∧ ∃ q b, r = nI (S.C 1 i + 1) ∧ S' = newD S i q b (S.I 0 0 0) fr to lo hi2), fn (mdead M (i + 1) (S.C 1 i) fr to lo hi2), fun ω => (k_W_deadline_y l D A G S ω hh.1 hh.2 i hi fr to lo hi2).mono (hm_mono (fun v w hp => ?_)), fun ω => (k_M_deadline_y l D A G M ω (i + 1) hn.1 hn.2.1 hn.2.2.1 (S.C 1 i) hn.2.2.2.1 hn.2.2.2.2.1 fr to lo hi2).mono (hm_mono mP_fn), ?_⟩
    · rcases hp with ⟨g1, g2, g3⟩ | ⟨g1, g2, g3, g4⟩ | ⟨g1, g2, q, b, g3, g4⟩
      · exact ⟨-2, S, g2, g3, Or.inl ⟨g1, rfl, rfl⟩⟩
      · exact ⟨-4, S, g3, g4, Or.inr (Or.inl ⟨g1, g2, rfl, rfl⟩)⟩
      · exact ⟨_, _, g3, g4, Or.inr (Or.inr ⟨g1, g2, q, b, rfl, rfl⟩)⟩
    · rintro r S' r' M' k1 ⟨rfl, rfl⟩
      have h0 := RR_mono (RR_0 h 0) (show B ≤ B + 1 by omega)
      rcases k1 with ⟨g1, rfl, hS⟩ | ⟨g1, g2, rfl, hS⟩ | ⟨g1, g2, q, b, rfl, rfl⟩
      · rw [mdead_bad g1, hS]
        exact ⟨rfl, h0, rfl, rfl⟩
      · have e10 : S.C 1 i = 10 := by have := hn.2.2.2.2.1; omega
        rw [mdead_ok g1, if_pos (by rw [hn.2.2.2.1, e10]; rfl), hS]
        exact ⟨rfl, h0, rfl, rfl⟩
      · have ne : ¬ M.I 12 (i + 1) = 10 := by rw [hn.2.2.2.1, show (10 : Int32) = nI 10 from rfl, nI_eq (by omega) (by omega)]; omega
        rw [mdead_ok g1, if_neg ne]
        refine ⟨by rw [hn.2.2.2.1, nI_1], RR_mono (r_newD h hi g2 q b fr to lo hi2) (by omega), ?_, rfl⟩
        show up3 (up3 S.1 8 i (S.C 1 i) q) 7 i 0 b 0 0 0 = _
        rw [up3_k _ _ (by decide), up3_k _ _ (by decide)]
  · exact ⟨fn ((-1 : Int32), S), fn ((-1 : Int32), M.sI 0 0 0), fun ω => (k_W_deadline_no l D A G S ω hh.1 hh.2 x hx fr to lo hi2).mono (hm_mono cP_fn), fun ω => (k_M_deadline_no l D A G M ω x (mP_neg h hx) fr to lo hi2).mono (hm_mono mP_fn), rel_fn (up_r ⟨rfl, RR_0 h 0⟩) rfl rfl⟩

end PAIRS
