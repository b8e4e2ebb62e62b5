/-! a run on paper; rows hammered -/
def Ba (n q t s : Nat) (μ μ' : Mm) : Prop := Bx n q 0 t s 1 false μ (mset μ' (2, 0, 1) 5 0)
/-- the reference is as it was, but its paper and peak -/
def RSx (μ' μ1' : Mm) : Prop := (∀ i, μ1' (2, 0, 1) i = μ' (2, 0, 1) i) ∧ (∀ q : Ad, q ≠ (2, 0, 0) → q ≠ (2, 0, 1) → q ≠ (2, 0, 3) → μ1' q = μ' q) ∧ ∀ k, k ≠ 9 → k ≠ 10 → μ1' (2, 0, 0) k = μ' (2, 0, 0) k
theorem RSx.rf {μ : Mm} : RSx μ μ := ⟨fun _ => rfl, fun _ _ _ _ => rfl, fun _ _ _ => rfl⟩
theorem RSx.tr {μ μ1 μ2 : Mm} (h : RSx μ μ1) (h2 : RSx μ1 μ2) : RSx μ μ2 := ⟨fun i => (h2.1 i).trans (h.1 i), fun q a b c => (h2.2.1 q a b c).trans (h.2.1 q a b c), fun k a b => (h2.2.2 k a b).trans (h.2.2 k a b)⟩
theorem RSx.mk {μ μ1 : Mm} (h : RSx μ μ1) : MK μ μ1 := ⟨fun i _ => h.1 i, fun o ho => h.2.1 _ (by simp; omega) (by simp; omega) (by simp; omega), fun k hk => h.2.2 k (by omega) (by omega)⟩
theorem RSx.mf {μ μ1 : Mm} (h : RSx μ μ1) : MF μ μ1 := fun q hq => h.2.1 q (fun e => hq (by rw [e])) (fun e => hq (by rw [e])) (fun e => hq (by rw [e]))
def PG (μ μ1 : Mm) : Prop := ∀ q : Ad, ¬ (q.1 = 1 ∧ q.2.1 = 2) → q ≠ (0, 0, 1) → q ≠ (0, 0, 2) → q ≠ (0, 0, 3) → μ1 q = μ q
theorem PG.rf {μ : Mm} : PG μ μ := fun _ _ _ _ _ => rfl
theorem PG.tr {μ μ1 μ2 : Mm} (h : PG μ μ1) (h2 : PG μ1 μ2) : PG μ μ2 := fun q a b c e => (h2 q a b c e).trans (h q a b c e)
theorem PF.g {μ μ1 : Mm} (h : PF μ μ1) : PG μ μ1 := fun q a b _ _ => h q a b
def lsM (f : Nat → Int32) (m : Nat) (μ : Mm) : Mm := fun q k => if q = (0, 0, 2) ∧ k < m then f k else μ q k
theorem lsM_q {f : Nat → Int32} {m : Nat} {μ : Mm} {q : Ad} (h : q ≠ (0, 0, 2)) : lsM f m μ q = μ q := by
  funext k
  unfold lsM
  rw [if_neg (fun x => h x.1)]
theorem lsM_at {f : Nat → Int32} {m k : Nat} {μ : Mm} (h : k < m) : lsM f m μ (0, 0, 2) k = f k := by
  unfold lsM
  rw [if_pos ⟨rfl, h⟩]
theorem lsM_g {f : Nat → Int32} {m : Nat} {μ : Mm} : PG μ (lsM f m μ) := fun _ _ _ h _ => lsM_q h
theorem lsM_0 {f : Nat → Int32} {μ : Mm} : lsM f 0 μ = μ := by
  funext q k
  unfold lsM
  rw [if_neg (by omega)]
theorem lsM_k {f : Nat → Int32} {m k : Nat} {μ : Mm} : lsM f m μ (0, 0, 2) k = if k < m then f k else μ (0, 0, 2) k := by simp [lsM]
theorem lsM_s {f : Nat → Int32} {m : Nat} {μ : Mm} : mset (lsM f m μ) (0, 0, 2) m (f m) = lsM f (m + 1) μ := by
  funext q k
  by_cases c : q = (0, 0, 2)
  · subst c
    rw [lsM_k]
    by_cases c1 : k = m
    · subst c1
      rw [mset_gg, if_pos (by omega)]
    · rw [mset_gk c1, lsM_k]
      by_cases c2 : k < m
      · rw [if_pos c2, if_pos (by omega)]
      · rw [if_neg c2, if_neg (by omega)]
  · rw [mset_ne c, lsM_q c, lsM_q c]
section HA
variable {L : Nat} {S : Ad → Nat → Int32} {d n q w m t s T T1 : Nat} {z : Int32} {i j j1 : Fin 15} {b b1 : Bool} {μ μ' μ1 μ1' μ2 : Mm} {f : Nat → Int32}
theorem Ba.fr (h : Ba n q t s μ μ') (hc : ∀ o, μ1 (1, 1, o) = μ (1, 1, o)) (hm : ∀ k, k < 426 → k ≠ 5 → μ1' (2, 0, 1) k = μ' (2, 0, 1) k) : Ba n q t s μ1 μ1' :=
  h.cp (fun o k _ => by rw [hc o]) (fun k hk => by
    by_cases c : k = 5
    · subst c
      rw [mset_gg, mset_gg]
    · rw [mset_gk c, mset_gk c]
      exact hm k hk c) (fun x => by cases x)
theorem Ba.st (h : Ba n q t s μ μ') (hc : PG μ μ1) (hm : RSx μ' μ1') : Ba n q t s μ1 μ1' :=
  h.fr (fun o => hc _ (fun x => absurd x.2 (show ¬ ((1 : Fin 15) = 2) by decide)) (by simp) (by simp) (by simp)) (fun k _ _ => hm.1 k)
/-- what waits is put in, the class -/
theorem c_adds_go {ν : Mm} (hm : m ≤ 99) (v : Rz) (ht : Ev (fun F => run L S F (d + 1) 51 50 [some (vR (0, 0, 1)), none, none] (addC 2 0 (ν (0, 0, 2)) m ν)) v) : ∀ (k c : Nat), c + k = m → Ev (fun F => run L S F (d + 1) 51 10 [some (vR (0, 0, 1)), some (vI (nI m)), some (vI (nI c))] (addC 2 0 (ν (0, 0, 2)) c ν)) v := by
  intro k
  induction k with
  | zero =>
    intro c hc
    have hc : c = m := by omega
    subst hc
    refine Ev.step ?_
    simp only [e51_10]
    simp only [if_neg (nI_nlt (Nat.le_refl c) (show c < 2 ^ 31 by omega))]
    exact ht
  | succ k ih =>
    intro c hc
    refine Ev.step ?_
    simp only [e51_10]
    simp only [if_pos (nI_lt (show c < m by omega) (show m < 2 ^ 31 by omega)), if_pos (show nI c < (99 : Int32) from nI_lt (b := 99) (by omega) (by decide)), inb_n (show c < 99 by omega) (by decide), cond_true, nI_clamp (show c < 2 ^ 31 by omega), nI_1]
    have e1 : addC 2 0 (ν (0, 0, 2)) c ν (0, 0, 2) = ν (0, 0, 2) := addC_q (fun x => absurd x.1 (by decide))
    have e2 : addC 2 0 (ν (0, 0, 2)) c ν (1, 2, 0) 5 = ν (1, 2, 0) 5 := addC_o (by decide)
    rw [e1, e2]
    exact Ev.bind (c_add (j := 2) (w := 0) (f := ν (0, 0, 2)) (m := c) (μ := ν) (by omega)) (ih (c + 1) (by omega))
theorem m_closes {ν : Mm} : Ev (fun F => run L S F (d + 1) 202 0 [some (vR (2, 0, 0))] ν) (0, cpr ν (2, 0, 3) 0 (2, 0, 1) 0 0) := by
  refine Ev.step ?_
  simp only [e202_0]
  exact Ev.bind m_cp_unpaper Ev.ret
theorem closes_rs {ν : Mm} {v : Int32} (h : FMx (opM μ' v) ν) : RSx μ' (cpr ν (2, 0, 3) 0 (2, 0, 1) 0 0) := by
  refine ⟨fun i => ?_, fun q a b c => ?_, fun k a b => ?_⟩
  · by_cases hi : i < 426
    · have := cpr_in (μ := ν) (a := (2, 0, 3)) (c := (2, 0, 1)) (f := 0) (t := 0) hi
      rw [Nat.zero_add] at this
      rw [this, h.1 _ (by decide) (by decide), opM_p hi]
    · rw [cpr_out (by omega), h.2.1 i (by omega), opM_k (by omega)]
  · funext k
    rw [cpr_ne b, h.1 q b a, opM_q a b c]
  · rw [cpr_ne (by decide), h.2.2 k a b, opM_f a]
/-- a run on paper -/
theorem p_run (h : Ba n q t s μ μ') (ht : t + 600 < 2 ^ 27) (hm : m ≤ 99) (hl : ∀ k, k < m → ∃ r, r < n ∧ μ (0, 0, 2) k = nI r) :
    ∃ v tk q1 w1 t1 s1 μ1 ν1', Ev (fun F => run L S F (d + 1) 201 0 [some (vR (2, 0, 0)), none] μ') (0, opM μ' v) ∧ Ev (fun F => run L S F (d + 12) 203 0 [some (vR (2, 0, 0)), none] (askM 0 (μ (0, 0, 2)) m (opM μ' v))) (nI tk, ν1') ∧ Ev (fun F => run L S F (d + 8) 51 0 [some (vR (0, 0, 1)), some (vI (nI m)), none] μ) (0, μ1) ∧
      Bx n q1 w1 t1 s1 2 true μ1 ν1' ∧ μ1 (0, 0, 1) 4 = nI tk ∧ tk ≤ 500 ∧ PF μ μ1 ∧ FMx (opM μ' v) ν1' ∧ (μ' (2, 0, 1) 16).toInt ≤ (ν1' (2, 0, 1) 16).toInt ∧ 0 ≤ (ν1' (2, 0, 0) 9).toInt := by
  have hN := h.1.hn
  have hn0 : μ' (2, 0, 1) 0 = nI n := by
    have := hN.2.1
    rw [mset_gk (by decide)] at this
    exact this
  obtain ⟨v, a1, a2⟩ := m_opens (L := L) (S := S) (d := d) hn0 hN.2.2.2
  have hv : PkR n (mset μ' (2, 0, 1) 5 0) v := ⟨a2.1, fun i hi => by rw [mset_gk (by omega)]; exact a2.2.1 i hi, a2.2.2.imp id (fun ⟨i, x, y⟩ => ⟨i, x, by rw [mset_gk (by omega)]; exact y⟩)⟩
  obtain ⟨ν, b1, b2, b3, b4, b5⟩ := c_start (L := L) (S := S) (d := d + 5) (μ1' := opM μ' v) h (by decide) (by omega) hv (fun k hk => by
    by_cases c : k = 5
    · subst c
      rw [opM_5, mset_gg]
    · rw [opM_k c, mset_gk c]) opM_9
  have el : ν (0, 0, 2) = μ (0, 0, 2) := b5 _ (fun x => absurd x.1 (by decide)) (by decide)
  have c1 := b2.adds (m := m) (f := μ (0, 0, 2)) hl (by omega)
  rw [Nat.zero_add] at c1
  have e4 : addC 2 0 (μ (0, 0, 2)) m ν (0, 0, 1) 4 = nI 0 := (congrFun (addC_q (fun x => absurd x.1 (by decide))) 4).trans b3
  obtain ⟨tk, q1, w1, t1, s1, μ1, ν1', d1, d2, d3, d4, d5, d6, d7, d8⟩ := p_goes (L := L) (S := S) (d := d) 500 0 q m t s _ _ (by omega) c1 (by omega) e4
  refine ⟨v, tk, q1, w1, t1, s1, μ1, ν1', a1, ?_, ?_, d4, d5, d3, ?_, (FMx.asks (by omega)).tr d7, by have d9 := d8.1; rw [askM_o (by omega) (by omega), opM_k (by decide)] at d9; exact d9, by have d9 := d8.2; rw [askM_q (by decide), opM_9] at d9; exact Int.le_trans a2.1 d9⟩
  · refine Ev.step ?_
    simp only [e203_0]
    exact d2
  · refine Ev.step ?_
    simp only [e51_0]
    refine Ev.bind b1 ?_
    have := c_adds_go (L := L) (S := S) (d := d + 7) (ν := ν) hm (0, μ1) (by rw [el]; exact d1) m 0 (by omega)
    rw [addC_0 (b2.1.w5 rfl)] at this
    exact this
  · refine b5.tr (PF.tr (fun q a _ => ?_) d6)
    exact addC_q a
/-- flips, peaks of it -/
theorem run_flips {ν1' : Mm} {q1 w1 t1 s1 : Nat} {v : Int32} (h : Ba n q t s μ μ') (h1 : Bx n q1 w1 t1 s1 2 true μ1 ν1') (hp : PF μ μ1) (hf : FMx (opM μ' v) ν1') : μ1 (1, 2, 24) 3 - μ1 (1, 1, 24) 3 = ν1' (2, 0, 1) 16 - μ' (2, 0, 1) 16 ∧ μ1 (1, 2, 2) 3 = ν1' (2, 0, 0) 9 ∧ μ1 (1, 2, 24) 4 - μ1 (1, 1, 24) 4 = ν1' (2, 0, 1) 17 - μ' (2, 0, 1) 17 ∧ (μ1 (1, 2, 24) 3 - μ1 (1, 1, 24) 3).toInt = (ν1' (2, 0, 1) 16).toInt - (μ' (2, 0, 1) 16).toInt := by
  have e0 : μ1 (1, 1, 24) = μ (1, 1, 24) := hp _ (fun x => absurd x.2 (by decide)) (by simp)
  have z1 := h.1.hz
  rw [mset_gk (by decide), Int32.add_zero] at z1
  have z2 := h1.1.hz
  rw [Int32.add_zero] at z2
  have y1 := h.1.lc 24 4 17 rfl (by omega)
  rw [mset_gk (by decide)] at y1
  have y2 := h1.1.lc 24 4 17 rfl (by omega)
  have f1 := h.2.2.2.2.2
  rw [mset_gk (by decide)] at f1
  have f2 := h1.2.2.2.2.2
  have f3 := Int32.toInt_lt (μ' (2, 0, 1) 16)
  have f4 := Int32.toInt_lt (ν1' (2, 0, 1) 16)
  refine ⟨by rw [e0, z1, z2], h1.1.pk rfl, by rw [e0, y1, y2], ?_⟩
  rw [e0, ← z1, ← z2]
  exact Kit.i32_sub (by omega) (by omega)
def hl (a b : Int32) : Nat → Int32 := fun k => if k % 2 = 0 then a else b
theorem hl_r {a c : Nat} (ha : a < n) (hc : c < n) (k : Nat) : ∃ r, r < n ∧ hl (nI a) (nI c) k = nI r := by
  unfold hl
  split
  · exact ⟨a, ha, rfl⟩
  · exact ⟨c, hc, rfl⟩
theorem hl_par {k : Nat} (hk : k < 2 ^ 31) : (nI k - nI k / 2 * 2 = 0) ↔ k % 2 = 0 := by
  have : nI k - nI k / 2 * 2 = nI (k % 2) := pk_rem (d := 2) hk (by decide) (by decide)
  rw [this]
  constructor
  · intro e
    exact nI_inj (b := 0) (by omega) (by decide) e
  · intro e
    rw [e]
    rfl
theorem c_spell_go {a c : Int32} {M : Nat} (hM : M ≤ 99) : ∀ (k x : Nat), x + k = M → Ev (fun F => run L S F (d + 1) 57 110 [some (vR (0, 0, 1)), none, some (vI (nI M)), none, some (vI a), some (vI c), some (vI (nI x)), none, none] (lsM (hl a c) x μ)) (0, lsM (hl a c) M μ) := by
  intro k
  induction k with
  | zero =>
    intro x hx
    have hx : x = M := by omega
    subst hx
    refine Ev.step ?_
    simp only [e57_110]
    simp only [if_neg (nI_nlt (Nat.le_refl x) (show x < 2 ^ 31 by omega))]
    exact Ev.ret
  | succ k ih =>
    intro x hx
    refine Ev.step ?_
    simp only [e57_110]
    simp only [if_pos (nI_lt (show x < M by omega) (show M < 2 ^ 31 by omega)), if_pos (show nI x < (99 : Int32) from nI_lt (b := 99) (by omega) (by decide)), inb_n (show x < 99 by omega) (by decide), cond_true, nI_clamp (show x < 2 ^ 31 by omega), nI_1, hl_par (show x < 2 ^ 31 by omega)]
    have := ih (x + 1) (by omega)
    rw [← lsM_s] at this
    by_cases c0 : x % 2 = 0
    · rw [show hl a c x = a by unfold hl; rw [if_pos c0]] at this
      simp only [if_pos c0]
      exact this
    · rw [show hl a c x = c by unfold hl; rw [if_neg c0]] at this
      simp only [if_neg c0]
      exact this
theorem m_hasks_go {a c : Int32} {M : Nat} {ν : Mm} (hM : M ≤ 99) (v : Rz) (ht : Ev (fun F => run L S F d 203 0 [some (vR (2, 0, 0)), none] (askM 0 (hl a c) M ν)) v) : ∀ (k x : Nat), x + k = M → Ev (fun F => run L S F (d + 1) 204 79 [some (vR (2, 0, 0)), none, some (vI (nI M)), none, none, some (vI a), some (vI c), some (vI (nI x)), none] (askM 0 (hl a c) x ν)) (v.2 (2, 0, 1) 16 - ν (2, 0, 1) 16, v.2) := by
  intro k
  induction k with
  | zero =>
    intro x hx
    have hx : x = M := by omega
    subst hx
    refine Ev.step ?_
    simp only [e204_79]
    simp only [if_neg (nI_nlt (Nat.le_refl x) (show x < 2 ^ 31 by omega)), askM_o (μ' := ν) (f := hl a c) (k := 16) (w := 0) (m := x) (show (16 : Nat) ≠ 5 ∧ (16 < 228 ∨ 426 ≤ 16) by omega) (by omega)]
    exact Ev.bind ht Ev.ret
  | succ k ih =>
    intro x hx
    refine Ev.step ?_
    simp only [e204_79]
    simp only [if_pos (nI_lt (show x < M by omega) (show M < 2 ^ 31 by omega)), hl_par (show x < 2 ^ 31 by omega), nI_1]
    have go := Ev.bind (g := fun F p => run L S F (d + 1) 204 79 [some (vR (2, 0, 0)), none, some (vI (nI M)), none, none, some (vI a), some (vI c), some (vI (nI (x + 1))), none] p.2) (m_ask (L := L) (S := S) (d := d) (w := 0) (f := hl a c) (m := x) (μ' := ν) (by omega)) (ih (x + 1) (by omega))
    by_cases c0 : x % 2 = 0
    · rw [show hl a c x = a by unfold hl; rw [if_pos c0]] at go
      simp only [if_pos c0]
      exact go
    · rw [show hl a c x = c by unfold hl; rw [if_neg c0]] at go
      simp only [if_neg c0]
      exact go
end HA
