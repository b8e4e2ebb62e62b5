/-! a term told otherwise, on paper; how coarse, how small -/
def OT (k : Nat) (v : Int32) (ν : Mm) : Mm := empM (mset (cpr ν (2, 0, 1) 0 (2, 0, 10) 0 0) (2, 0, 1) (27 + k) v)
def AG (k : Nat) (ν0 ν : Mm) : Prop := ∀ i, i < 426 → i ≠ 5 → i ≠ 27 + k → i ≠ 3 → i ≠ 11 → (i < 108 ∨ 124 ≤ i) → (i < 172 ∨ 212 ≤ i) → ν0 (2, 0, 1) i = ν (2, 0, 1) i
def RSk (ν ν2 : Mm) : Prop := (∀ i, ν2 (2, 0, 1) i = ν (2, 0, 1) i) ∧ (∀ q : Ad, q ≠ (2, 0, 0) → q ≠ (2, 0, 1) → q ≠ (2, 0, 3) → ν2 q = ν q) ∧ ∀ k, k = 4 ∨ k = 12 ∨ k = 17 ∨ k = 18 → ν2 (2, 0, 0) k = ν (2, 0, 0) k
theorem RSk.rf {ν : Mm} : RSk ν ν := ⟨fun _ => rfl, fun _ _ _ _ => rfl, fun _ _ => rfl⟩
theorem RSk.tr {μ μ1 μ2 : Mm} (h : RSk μ μ1) (h2 : RSk μ1 μ2) : RSk μ μ2 := ⟨fun i => (h2.1 i).trans (h.1 i), fun q a b c => (h2.2.1 q a b c).trans (h.2.1 q a b c), fun k a => (h2.2.2 k a).trans (h.2.2 k a)⟩
theorem RSx.k {ν ν2 : Mm} (h : RSx ν ν2) : RSk ν ν2 := ⟨h.1, h.2.1, fun k hk => h.2.2 k (by omega) (by omega)⟩
theorem RSk.v {ν ν2 : Mm} (h : RSk ν ν2) : RSv ν ν2 := ⟨h.1, ⟨fun i _ => h.1 i, fun o ho => h.2.1 _ (by simp; omega) (by simp; omega) (by simp; omega), h.2.2⟩, fun q hq => h.2.1 q (fun e => hq (by rw [e])) (fun e => hq (by rw [e])) (fun e => hq (by rw [e]))⟩
section OT
variable {L : Nat} {S : Ad → Nat → Int32} {d n q w m t s T T1 l c : Nat} {z : Int32} {i j j1 : Fin 15} {b b1 : Bool} {μ μ' μ1 μ1' μ2 : Mm} {f g : Nat → Int32} {a1 a2 a3 a4 a5 : Int32} {ν ν0 ν1 ν2 : Mm}
theorem OT_f {k : Nat} {v : Int32} {x : Nat} : OT k v ν (2, 0, 0) x = ν (2, 0, 0) x := by
  unfold OT
  rw [congrFun (empM_q (by decide)) x, mset_ne (by decide), cpr_ne (by decide)]
theorem OT_q {k : Nat} {v : Int32} {q : Ad} (h1 : q ≠ (2, 0, 1)) (h2 : q ≠ (2, 0, 10)) : OT k v ν q = ν q := by
  unfold OT
  rw [empM_q h1, mset_ne h1]
  funext x
  exact cpr_ne h2
theorem OT_10 {k : Nat} {v : Int32} {x : Nat} (hx : x < 426) : OT k v ν (2, 0, 10) x = ν (2, 0, 1) x := by
  unfold OT
  rw [congrFun (empM_q (by decide)) x, mset_ne (by decide)]
  have := cpr_in (μ := ν) (a := (2, 0, 1)) (c := (2, 0, 10)) (f := 0) (t := 0) hx
  rw [Nat.zero_add] at this
  exact this
theorem OT_o {k : Nat} {v : Int32} {x : Nat} (h : x ≠ 27 + k) (h2 : x ≠ 3 ∧ x ≠ 11 ∧ (x < 108 ∨ 124 ≤ x) ∧ (x < 172 ∨ 212 ≤ x)) : OT k v ν (2, 0, 1) x = ν (2, 0, 1) x := by
  unfold OT
  rw [empM_o h2, mset_gk h, cpr_ne (by decide)]
theorem m_other {k : Nat} (hk : k < 17) {a v : Int32} (ha : a = nI (27 + k)) : Ev (fun F => run L S F (d + 1) 212 0 [some (vR (2, 0, 0)), some (vI a), some (vI v)] ν) (0, OT k v ν) := by
  subst ha
  refine Ev.step ?_
  simp only [e212_0]
  refine Ev.bind m_cp_kept ?_
  simp only [inb_n (show 27 + k < 1278 by omega) (by decide), cond_true, nI_clamp (show 27 + k < 2 ^ 31 by omega)]
  exact Ev.bind (Ev.at 27 (fun F hF => m_empties hF)) Ev.ret
theorem m_unother : Ev (fun F => run L S F (d + 1) 213 0 [some (vR (2, 0, 0))] ν) (0, cpr ν (2, 0, 10) 0 (2, 0, 1) 0 0) := by
  refine Ev.step ?_
  simp only [e213_0]
  exact Ev.bind m_cp_unkept Ev.ret
theorem unother_v {k : Nat} (hk : k < 17) {v : Int32} (h : RSk (OT k v ν) ν2) : RSv ν (cpr ν2 (2, 0, 10) 0 (2, 0, 1) 0 0) := by
  have g : ∀ i, cpr ν2 (2, 0, 10) 0 (2, 0, 1) 0 0 (2, 0, 1) i = ν (2, 0, 1) i := fun i => by
    by_cases hi : i < 426
    · have := cpr_in (μ := ν2) (a := (2, 0, 10)) (c := (2, 0, 1)) (f := 0) (t := 0) hi
      rw [Nat.zero_add] at this
      rw [this, h.2.1 _ (by decide) (by decide) (by decide), OT_10 hi]
    · rw [cpr_out (by omega), h.1, OT_o (by omega) (by omega)]
  refine ⟨g, ⟨fun i _ => g i, fun o ho => ?_, fun k' hk' => ?_⟩, fun q hq => ?_⟩
  · funext i
    rw [cpr_ne (by simp; omega), h.2.1 _ (by simp; omega) (by simp; omega) (by simp; omega), OT_q (by simp; omega) (by simp; omega)]
  · rw [cpr_ne (by decide), h.2.2 k' hk', OT_f]
  · funext i
    rw [cpr_ne (fun e => hq (by rw [e])), h.2.1 _ (fun e => hq (by rw [e])) (fun e => hq (by rw [e])) (fun e => hq (by rw [e])), OT_q (fun e => hq (by rw [e])) (fun e => hq (by rw [e]))]
theorem AG.rf {k : Nat} : AG k ν ν := fun _ _ _ _ _ _ _ _ => rfl
theorem AG.ot {k : Nat} {v : Int32} : AG k (OT k v ν) ν := fun i _ _ a b c e f => OT_o a ⟨b, c, e, f⟩
theorem AG.tr {k : Nat} (h : AG k ν0 ν1) (h2 : AG k ν1 ν2) : AG k ν0 ν2 := fun i a b c e f g x => (h i a b c e f g x).trans (h2 i a b c e f g x)
theorem RSv.ag {k : Nat} (h : RSv ν ν1) : AG k ν ν1 := fun i _ _ _ _ _ _ _ => (h.1 i).symm
/-- a term of the paper's bank is told otherwise -/
theorem p_other (h : Ba n q t s μ ν0) {k : Nat} (hag : AG k ν0 ν) (hk : k < 17) {v : Int32} (h1 : tLo k ≤ v.toInt) (h2 : v.toInt ≤ tHi k) : ∃ μ1, Ev (fun F => run L S F (d + 2) 37 0 [some (vR (1, 1, 0)), some (vI (nI k)), some (vI v)] μ) (0, μ1) ∧ Ba n q t 0 μ1 (OT k v ν) ∧ FCo 1 μ μ1 := by
  refine ⟨empC 1 (mset μ (1, 1, 1) k v), Ev.step ?_, ?_, FCo.rf.set.empC⟩
  · simp only [e37_0, inb_n hk (show 17 < 2 ^ 31 by decide), cond_true, nI_clamp (show k < 2 ^ 31 by omega)]
    exact Ev.bind (Ev.at 19 (fun F hF => s_empty hF (by omega))) Ev.ret
  · have hx : Bx n q 0 t 0 1 false (empC 1 (mset μ (1, 1, 1) k v)) (empM (mset (mset ν0 (2, 0, 1) 5 0) (2, 0, 1) (27 + k) v)) := Bx.trmE h hk h1 h2
    refine hx.cp (fun _ _ _ => rfl) (fun i hi => ?_) (fun x => by cases x)
    unfold OT
    by_cases c5 : i = 5
    · subst c5
      rw [mset_gg, empM_o (by omega), mset_gk (by omega), mset_gg]
    · rw [mset_gk c5]
      by_cases g1 : 172 ≤ i ∧ i < 180
      · rw [empM_1 g1, empM_1 g1]
      · by_cases g0 : i = 3 ∨ i = 11 ∨ (108 ≤ i ∧ i < 124) ∨ (180 ≤ i ∧ i < 212)
        · rw [empM_0 g0, empM_0 g0]
        · rw [empM_o (by omega), empM_o (by omega)]
          by_cases e : i = 27 + k
          · subst e
            rw [mset_gg, mset_gg]
          · rw [mset_gk e, mset_gk e, mset_gk c5, cpr_ne (by decide)]
            exact (hag i hi c5 e (by omega) (by omega) (by omega) (by omega)).symm
/-- one row hammered, on both sides, told and run -/
theorem p_one (h : Ba n q t s μ ν) (ht : t + 600 < 2 ^ 27) (hm : m ≤ 99) {r : Nat} (hr : r < n) {x : Int32} (hx : x = 0 ∨ x = 1) : ∃ f μ1 μ2 ν2, Ev (fun F => run L S F 27 57 0 [some (vR (0, 0, 1)), some (vI (nI r)), some (vI (nI m)), some (vI x), none, none, none, none, none] μ) (0, μ1) ∧ Ev (fun F => run L S F 27 51 0 [some (vR (0, 0, 1)), some (vI (nI m)), none] μ1) (0, μ2) ∧ Ev (fun F => run L S F 27 55 0 [some (vR (0, 0, 1))] μ2) (f, μ2) ∧ Ev (fun F => run L S F 27 206 0 [some (vR (2, 0, 0)), some (vI (nI r)), some (vI (nI m)), some (vI x), none] ν) (f, ν2) ∧ PG μ μ2 ∧ RSx ν ν2 ∧ (0 < f ↔ ¬ f = 0) := by
  obtain ⟨a, c, ha, hc, s1, s2⟩ := p_ab (L := L) (S := S) (d := 22) h hr hx
  have h2 : Ba n q t s (lsM (hl (nI a) (nI c)) m μ) ν := h.sv lsM_g RSv.rf
  obtain ⟨f, μ2, ν2, b1, b2, b3, b4, b5, b6⟩ := p_flipsBy (L := L) (S := S) (d := 10) (m := m) h2 ht hm ha hc (fun k hk => lsM_at hk) s2
  refine ⟨f, _, μ2, ν2, s1 26 m hm, b1.dp (by omega), b2 27, b3.dp (by omega), lsM_g.tr b4.g, b5, ?_⟩
  rw [Int32.lt_iff_toInt_lt]
  have z0 : (0 : Int32).toInt = 0 := rfl
  constructor
  · intro x e
    rw [e] at x
    exact absurd x (by decide)
  · intro x
    have : f.toInt ≠ 0 := fun e => x (Int32.toInt_inj.mp (e.trans z0.symm))
    omega
theorem st_skip (h0 : ν (2, 0, 1) 0 = nI n) (hn : n ≤ 16) {M : Int32} {v : Rz} : ∀ (m r : Nat), r + m = n → Ev (fun F => run L S F 28 215 12 [some (vR (2, 0, 0)), none, none, some (vI M), some (vI 0), some (vI (nI n))] ν) v → Ev (fun F => run L S F 28 215 12 [some (vR (2, 0, 0)), none, none, some (vI M), some (vI 0), some (vI (nI r))] ν) v := by
  intro m
  induction m with
  | zero =>
    intro r hr hv
    have hr : r = n := by omega
    subst hr
    exact hv
  | succ m ih =>
    intro r hr hv
    refine Ev.step ?_
    simp only [e215_12, h0, if_pos (nI_lt (show r < n by omega) (show n < 2 ^ 31 by omega)), if_true, nI_1]
    exact ih (r + 1) (by omega) hv
theorem sh_go (ht : t + 600 < 2 ^ 27) {M : Nat} (hM : M ≤ 99) : ∀ (m r : Nat) (μ ν : Mm), r + m = n → Ba n q t s μ ν → ∃ (x : Int32) (μ2 ν2 : Mm), (x = 0 ∨ x = 1) ∧ Ev (fun F => run L S F 28 58 2 [some (vR (0, 0, 1)), some (vI (nI M)), some (vI (nI r)), none] μ) (x, μ2) ∧ (∀ v, Ev (fun F => run L S F 28 215 12 [some (vR (2, 0, 0)), none, none, some (vI (nI M)), some (vI (1 - x)), some (vI (nI n))] ν2) v → Ev (fun F => run L S F 28 215 12 [some (vR (2, 0, 0)), none, none, some (vI (nI M)), some (vI 1), some (vI (nI r))] ν) v) ∧ PG μ μ2 ∧ RSx ν ν2 := by
  intro m
  induction m with
  | zero =>
    intro r μ ν hr h
    have hr : r = n := by omega
    subst hr
    refine ⟨0, μ, ν, Or.inl rfl, Ev.step ?_, fun v hv => hv, PG.rf, RSx.rf⟩
    simp only [e58_2, h.1.hn.1, if_neg (nI_nlt (Nat.le_refl r) (show r < 2 ^ 31 by have := h.1.hn; omega)), narB0]
    exact Ev.ret
  | succ m ih =>
    intro r μ ν hr h
    have hN := h.1.hn
    have h0 : ∀ {μ ν : Mm}, Ba n q t s μ ν → ν (2, 0, 1) 0 = nI n := fun h => by
      have := h.1.hn.2.1
      rw [mset_gk (by decide)] at this
      exact this
    have enter : ∀ v, Ev (fun F => run L S F 28 58 18 [some (vR (0, 0, 1)), some (vI (nI M)), some (vI (nI r)), some (vI 0)] μ) v → Ev (fun F => run L S F 28 58 2 [some (vR (0, 0, 1)), some (vI (nI M)), some (vI (nI r)), none] μ) v := fun v hv => by
      refine Ev.step ?_
      simp only [e58_2, hN.1, if_pos (nI_lt (show r < n by omega) (show n < 2 ^ 31 by omega))]
      exact hv
    obtain ⟨f, μ1, μ2, ν2, a1, a2, a3, a4, a5, a6, a7⟩ := p_one (L := L) (S := S) (m := M) h ht hM (show r < n by omega) (Or.inl rfl)
    have refEnter : ∀ v, Ev (fun F => (run L S F 27 206 0 [some (vR (2, 0, 0)), some (vI (nI r)), some (vI (nI M)), some (vI 0), none] ν).bind fun p3 =>
        if p3.1 = 0 then
          (run L S F 27 206 0 [some (vR (2, 0, 0)), some (vI (nI r)), some (vI (nI M)), some (vI 1), none] p3.2).bind fun p4 =>
          if p4.1 = 0 then
            run L S F 28 215 12 [some (vR (2, 0, 0)), none, none, some (vI (nI M)), some (vI 1), some (vI (nI (r + 1)))] p4.2
          else
            run L S F 28 215 12 [some (vR (2, 0, 0)), none, none, some (vI (nI M)), some (vI 0), some (vI (nI (r + 1)))] p4.2
        else
          run L S F 28 215 12 [some (vR (2, 0, 0)), none, none, some (vI (nI M)), some (vI 0), some (vI (nI (r + 1)))] p3.2) v → Ev (fun F => run L S F 28 215 12 [some (vR (2, 0, 0)), none, none, some (vI (nI M)), some (vI 1), some (vI (nI r))] ν) v := fun v hv => by
      refine Ev.step ?_
      simp only [e215_12, h0 h, if_pos (nI_lt (show r < n by omega) (show n < 2 ^ 31 by omega)), i1, if_false, nI_1]
      exact hv
    by_cases c0 : f = 0
    · have nf : ¬ 0 < f := fun x => a7.mp x c0
      have hB2 : Ba n q t s μ2 ν2 := h.sv a5 a6.v
      obtain ⟨g, μ3, μ4, ν4, b1, b2, b3, b4, b5, b6, b7⟩ := p_one (L := L) (S := S) (m := M) hB2 ht hM (show r < n by omega) (Or.inr rfl)
      have cls0 : ∀ v, Ev (fun F => run L S F 28 58 18 [some (vR (0, 0, 1)), some (vI (nI M)), some (vI (nI r)), some (vI 1)] μ2) v → Ev (fun F => run L S F 28 58 18 [some (vR (0, 0, 1)), some (vI (nI M)), some (vI (nI r)), some (vI 0)] μ) v := fun v hv => by
        refine Ev.step ?_
        simp only [e58_18, show ¬ (1 : Int32) < 0 by decide, if_false]
        refine Ev.bind a1 (Ev.bind a2 (Ev.bind a3 ?_))
        simp only [if_neg nf, Int32.zero_add]
        exact hv
      by_cases c1 : g = 0
      · have ng : ¬ 0 < g := fun x => b7.mp x c1
        obtain ⟨x, μ5, ν5, d0, d1, d2, d3, d4⟩ := ih (r + 1) μ4 ν4 (by omega) (hB2.sv b5 b6.v)
        refine ⟨x, μ5, ν5, d0, enter _ (cls0 _ (Ev.step ?_)), fun v hv => refEnter v ?_, (a5.tr b5).tr d3, (a6.tr b6).tr d4⟩
        · simp only [e58_18, show ¬ (1 : Int32) < 1 by decide, if_false]
          refine Ev.bind b1 (Ev.bind b2 (Ev.bind b3 ?_))
          simp only [if_neg ng]
          refine Ev.step ?_
          simp only [e58_18, show (1 : Int32) < 1 + 1 by decide, if_true, nI_1]
          exact d1
        · refine Ev.bind a4 ?_
          simp only [if_pos c0]
          refine Ev.bind b4 ?_
          simp only [if_pos c1]
          exact d2 v hv
      · have pg : 0 < g := b7.mpr c1
        refine ⟨1, μ4, ν4, Or.inr rfl, enter _ (cls0 _ (Ev.step ?_)), fun v hv => refEnter v ?_, a5.tr b5, a6.tr b6⟩
        · simp only [e58_18, show ¬ (1 : Int32) < 1 by decide, if_false]
          refine Ev.bind b1 (Ev.bind b2 (Ev.bind b3 ?_))
          simp only [if_pos pg, narB1]
          exact Ev.ret
        · refine Ev.bind a4 ?_
          simp only [if_pos c0]
          refine Ev.bind b4 ?_
          simp only [if_neg c1]
          exact st_skip (h0 (hB2.sv b5 b6.v)) hN.2.2.2 m (r + 1) (by omega) hv
    · have pf : 0 < f := a7.mpr c0
      refine ⟨1, μ2, ν2, Or.inr rfl, enter _ (Ev.step ?_), fun v hv => refEnter v ?_, a5, a6⟩
      · simp only [e58_18, show ¬ (1 : Int32) < 0 by decide, if_false]
        refine Ev.bind a1 (Ev.bind a2 (Ev.bind a3 ?_))
        simp only [if_pos pf, narB1]
        exact Ev.ret
      · refine Ev.bind a4 ?_
        simp only [if_neg c0]
        exact st_skip (h0 (h.sv a5 a6.v)) hN.2.2.2 m (r + 1) (by omega) hv
/-- whether with a term told otherwise no hammering brings a flip -/
theorem p_stands (h : Ba n q t s μ ν0) {k : Nat} (hag : AG k ν0 ν) (hk : k < 17) {v a : Int32} (h1 : tLo k ≤ v.toInt) (h2 : v.toInt ≤ tHi k) (ha : a = nI (27 + k)) (ht : t + 600 < 2 ^ 27) {M : Nat} (hM : M ≤ 99) :
    ∃ x μ1 μ2 ν2 ν3, (x = 0 ∨ x = 1) ∧ Ev (fun F => run L S F 29 37 0 [some (vR (1, 1, 0)), some (vI (nI k)), some (vI v)] μ) (0, μ1) ∧ Ev (fun F => run L S F 29 58 0 [some (vR (0, 0, 1)), some (vI (nI M)), none, none] μ1) (x, μ2) ∧ Ev (fun F => run L S F 29 215 0 [some (vR (2, 0, 0)), some (vI a), some (vI v), some (vI (nI M)), none, none] ν) (1 - x, ν2) ∧ PW μ μ2 ∧ RSv ν ν2 ∧ Ba n q t 0 μ2 ν3 ∧ AG k ν3 ν := by
  obtain ⟨μ1, p1, p2, p3⟩ := p_other (L := L) (S := S) (d := 27) h hag hk h1 h2
  obtain ⟨x, μ2, ν2, d0, d1, d2, d3, d4⟩ := sh_go (L := L) (S := S) ht hM n 0 μ1 (OT k v ν) (by omega) p2
  have h0 : ν2 (2, 0, 1) 0 = nI n := by
    have := (p2.sv d3 d4.v).1.hn.2.1
    rw [mset_gk (by decide)] at this
    exact this
  have hn16 := h.1.hn
  refine ⟨x, μ1, μ2, cpr ν2 (2, 0, 10) 0 (2, 0, 1) 0 0, ν2, d0, p1, Ev.step ?_, Ev.step ?_, p3.w1.tr d3.w, unother_v hk d4.k, p2.sv d3 d4.v, fun i a b c e f g z => (d4.1 i).trans (AG.ot i a b c e f g z)⟩
  · simp only [e58_0]
    exact d1.dp (by omega)
  · simp only [e215_0]
    refine Ev.bind (m_other hk ha) ?_
    refine (d2 (1 - x, cpr ν2 (2, 0, 10) 0 (2, 0, 1) 0 0) (Ev.step ?_)).dp (by omega)
    simp only [e215_12, h0, if_neg (nI_nlt (Nat.le_refl n) (show n < 2 ^ 31 by omega))]
    refine Ev.bind m_unother ?_
    rcases d0 with rfl | rfl
    · simp only [show (1 : Int32) - 0 = 1 by decide, narB1]
      exact Ev.ret
    · simp only [show (1 : Int32) - 1 = 0 by decide, narB0]
      exact Ev.ret
theorem n30 (x : Int32) : (¬ ((1 : Int32).toInt ≤ x.toInt ∧ x.toInt ≤ (30 : Int32).toInt)) ∨ ∃ M, M ≤ 30 ∧ x = nI M ∧ ((1 : Int32).toInt ≤ x.toInt ∧ x.toInt ≤ (30 : Int32).toInt) := by
  by_cases c : (1 : Int32).toInt ≤ x.toInt ∧ x.toInt ≤ (30 : Int32).toInt
  · have x1 : (1 : Int32).toInt = 1 := rfl
    have x2 : (30 : Int32).toInt = 30 := rfl
    exact Or.inr ⟨x.toInt.toNat, by omega, nI_toNat (by omega), c⟩
  · exact Or.inl c
theorem coarse_go (ht : t + 600 < 2 ^ 27) {M : Nat} (hM : M ≤ 99) : ∀ (m s : Nat) (μ ν0 ν : Mm), m ≤ 99 → Ba n q t s μ ν0 → AG 4 ν0 ν → ∃ x μ2 ν2, Ev (fun F => run L S F 30 118 28 [some (vR (0, 0, 0)), some (vI (nI M)), some (vI (nI m))] μ) (x, μ2) ∧ Ev (fun F => run L S F 30 216 23 [some (vR (2, 0, 0)), some (vI (nI M)), some (vI (nI m))] ν) (x, ν2) ∧ PW μ μ2 ∧ RSv ν ν2 := by
  intro m
  induction m with
  | zero =>
    intro s μ ν0 ν _ h hag
    refine ⟨-1, μ, ν, Ev.step ?_, Ev.step ?_, PW.rf, RSv.rf⟩
    · simp only [e118_28, show nI 0 < (1 : Int32) by decide, if_true]
      exact Ev.ret
    · simp only [e216_23, show ¬ (0 : Int32) < nI 0 by decide, if_false]
      exact Ev.ret
  | succ m ih =>
    intro s μ ν0 ν hm h hag
    have e1 : (nI (m + 1)).toInt = (m + 1 : Nat) := nI_toInt (by omega)
    have b1 : tLo 4 ≤ (nI (m + 1)).toInt := by rw [e1]; show (1 : Int) ≤ _; omega
    have b2 : (nI (m + 1)).toInt ≤ tHi 4 := by rw [e1]; show _ ≤ (99 : Int); omega
    obtain ⟨x, μ1, μ2, ν2, ν3, x0, p1, p2, p3, p4, p5, p6, p7⟩ := p_stands (L := L) (S := S) (M := M) h hag (show 4 < 17 by decide) (v := nI (m + 1)) (a := 31) b1 b2 rfl ht hM
    have pr : nI (m + 1) + (-1) = nI m := by
      rw [← Int32.sub_eq_add_neg]
      exact nI_pred m
    have n1 : ¬ nI (m + 1) < (1 : Int32) := nI_nlt (b := 1) (by omega) (by omega)
    have n2 : (0 : Int32) < nI (m + 1) := nI_lt (a := 0) (by omega) (by omega)
    rcases x0 with rfl | rfl
    · refine ⟨nI (m + 1), μ2, ν2, Ev.step ?_, Ev.step ?_, p4, p5⟩
      · simp only [e118_28, if_neg n1]
        refine Ev.bind p1 (Ev.bind p2 ?_)
        simp only [if_true]
        exact Ev.ret
      · simp only [e216_23, if_pos n2]
        refine Ev.bind p3 ?_
        simp only [show ¬ ((1 : Int32) - 0 = 0) by decide, if_false]
        exact Ev.ret
    · obtain ⟨y, μ4, ν4, d1, d2, d3, d4⟩ := ih 0 μ2 ν3 ν2 (by omega) p6 (p7.tr p5.ag)
      refine ⟨y, μ4, ν4, Ev.step ?_, Ev.step ?_, p4.tr d3, p5.tr d4⟩
      · simp only [e118_28, if_neg n1]
        refine Ev.bind p1 (Ev.bind p2 ?_)
        simp only [i1, if_false, pr]
        exact d1
      · simp only [e216_23, if_pos n2]
        refine Ev.bind p3 ?_
        simp only [show ((1 : Int32) - 1 = 0) by decide, if_true, pr]
        exact d2
theorem small_go (ht : t + 600 < 2 ^ 27) {M : Nat} (hM : M ≤ 99) : ∀ (m k s : Nat) (μ ν0 ν : Mm), k + m = 9 → 1 ≤ k → Ba n q t s μ ν0 → AG 3 ν0 ν → ∃ x μ2 ν2, Ev (fun F => run L S F 30 119 27 [some (vR (0, 0, 0)), some (vI (nI M)), some (vI (nI k))] μ) (x, μ2) ∧ Ev (fun F => run L S F 30 217 22 [some (vR (2, 0, 0)), some (vI (nI M)), some (vI (nI k))] ν) (x, ν2) ∧ PW μ μ2 ∧ RSv ν ν2 := by
  intro m
  induction m with
  | zero =>
    intro k s μ ν0 ν hk hk1 h hag
    have hk : k = 9 := by omega
    subst hk
    refine ⟨-1, μ, ν, Ev.step ?_, Ev.step ?_, PW.rf, RSv.rf⟩
    · simp only [e119_27, show (8 : Int32) < nI 9 by decide, if_true]
      exact Ev.ret
    · simp only [e217_22, show (8 : Int32) < nI 9 by decide, if_true]
      exact Ev.ret
  | succ m ih =>
    intro k s μ ν0 ν hk hk1 h hag
    have e1 : (nI k).toInt = (k : Nat) := nI_toInt (by omega)
    have b1 : tLo 3 ≤ (nI k).toInt := by rw [e1]; show (1 : Int) ≤ _; omega
    have b2 : (nI k).toInt ≤ tHi 3 := by rw [e1]; show _ ≤ (8 : Int); omega
    obtain ⟨x, μ1, μ2, ν2, ν3, x0, p1, p2, p3, p4, p5, p6, p7⟩ := p_stands (L := L) (S := S) (M := M) h hag (show 3 < 17 by decide) (v := nI k) (a := 30) b1 b2 rfl ht hM
    have n8 : ¬ (8 : Int32) < nI k := nI_nlt (a := 8) (by omega) (by decide)
    rcases x0 with rfl | rfl
    · refine ⟨nI k, μ2, ν2, Ev.step ?_, Ev.step ?_, p4, p5⟩
      · simp only [e119_27, if_neg n8]
        refine Ev.bind p1 (Ev.bind p2 ?_)
        simp only [if_true]
        exact Ev.ret
      · simp only [e217_22, if_neg n8]
        refine Ev.bind p3 ?_
        simp only [show ¬ ((1 : Int32) - 0 = 0) by decide, if_false]
        exact Ev.ret
    · obtain ⟨y, μ4, ν4, d1, d2, d3, d4⟩ := ih (k + 1) 0 μ2 ν3 ν2 (by omega) (by omega) p6 (p7.tr p5.ag)
      refine ⟨y, μ4, ν4, Ev.step ?_, Ev.step ?_, p4.tr d3, p5.tr d4⟩
      · simp only [e119_27, if_neg n8]
        refine Ev.bind p1 (Ev.bind p2 ?_)
        simp only [i1, if_false, nI_1]
        exact d1
      · simp only [e217_22, if_neg n8]
        refine Ev.bind p3 ?_
        simp only [show ((1 : Int32) - 1 = 0) by decide, if_true, nI_1]
        exact d2
theorem P_coarse (h : Inv T μ μ') (hT : T + 600 < 2 ^ 27) : PubR L S T 118 216 [some (vR (0, 0, 0)), some (vI a1), none] [some (vR (2, 0, 0)), some (vI a1), none] μ μ' := by
  have hth := h.th
  obtain ⟨ν, n, q, w, t, s, e1, hB, hw, ht, hl0⟩ := q_open h
  have e2 : th0 μ' = ν := e1
  rw [e2] at hth
  rcases n30 a1 with c | ⟨M, hM, rfl, c⟩
  · refine pub_n h e1 (-3) (Ev.step ?_) (Ev.step ?_)
    · rcases wi_f c with c1 | ⟨c1, c2⟩
      · simp only [e118_0, if_pos c1]
        exact Ev.ret
      · simp only [e118_0, if_neg c1, if_pos c2]
        exact Ev.ret
    · simp only [e216_0, e1]
      refine Ev.bind ev_within ?_
      simp only [if_neg c, if_true]
      exact Ev.ret
  · obtain ⟨c1, c2⟩ := wi_t c
    obtain ⟨μ1, p1, p2, p3⟩ := p_take (L := L) (S := S) (d := 27) hB (by omega)
    obtain ⟨x, μ2, ν2, d1, d2, d3, d4⟩ := coarse_go (L := L) (S := S) (M := M) (by omega) (by omega) 99 s μ1 ν ν (by omega) p2 AG.rf
    refine pub_p hth e1 (p3.w1.tr d3) d4 (Ev.step ?_) (Ev.step ?_) (x := x)
    · simp only [e118_0, if_neg c1, if_neg c2]
      exact Ev.bind p1 d1
    · simp only [e216_0, e1]
      refine Ev.bind ev_within ?_
      simp only [if_pos c, i1, if_false]
      exact d2
theorem P_small (h : Inv T μ μ') (hT : T + 600 < 2 ^ 27) : PubR L S T 119 217 [some (vR (0, 0, 0)), some (vI a1), none] [some (vR (2, 0, 0)), some (vI a1), none] μ μ' := by
  have hth := h.th
  obtain ⟨ν, n, q, w, t, s, e1, hB, hw, ht, hl0⟩ := q_open h
  have e2 : th0 μ' = ν := e1
  rw [e2] at hth
  rcases n30 a1 with c | ⟨M, hM, rfl, c⟩
  · refine pub_n h e1 (-3) (Ev.step ?_) (Ev.step ?_)
    · rcases wi_f c with c1 | ⟨c1, c2⟩
      · simp only [e119_0, if_pos c1]
        exact Ev.ret
      · simp only [e119_0, if_neg c1, if_pos c2]
        exact Ev.ret
    · simp only [e217_0, e1]
      refine Ev.bind ev_within ?_
      simp only [if_neg c, if_true]
      exact Ev.ret
  · obtain ⟨c1, c2⟩ := wi_t c
    obtain ⟨μ1, p1, p2, p3⟩ := p_take (L := L) (S := S) (d := 27) hB (by omega)
    obtain ⟨x, μ2, ν2, d1, d2, d3, d4⟩ := small_go (L := L) (S := S) (M := M) (by omega) (by omega) 8 1 s μ1 ν ν (by omega) (by omega) p2 AG.rf
    refine pub_p hth e1 (p3.w1.tr d3) d4 (Ev.step ?_) (Ev.step ?_) (x := x)
    · simp only [e119_0, if_neg c1, if_neg c2]
      exact Ev.bind p1 d1
    · simp only [e217_0, e1]
      refine Ev.bind ev_within ?_
      simp only [if_pos c, i1, if_false]
      exact d2
end OT
