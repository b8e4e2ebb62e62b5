/-! all orders of so many requests -/
def dg (n m code k : Nat) : Nat := (code / n ^ (m - 1 - k)) % n
def dgI (n m code : Nat) : Nat → Int32 := fun k => nI (dg n m code k)
def lsR (f : Nat → Int32) (lo hi : Nat) (μ : Mm) : Mm := fun q k => if q = (0, 0, 2) ∧ lo ≤ k ∧ k < hi then f k else μ q k
section OR
variable {L : Nat} {S : Ad → Nat → Int32} {d n q w m t s T T1 l c : Nat} {z : Int32} {i j j1 : Fin 15} {b b1 : Bool} {μ μ' μ1 μ1' μ2 : Mm} {f g : Nat → Int32} {a1 a2 a3 a4 a5 : Int32} {ν ν0 ν1 ν2 : Mm}
theorem lsR_k {lo hi k : Nat} : lsR f lo hi μ (0, 0, 2) k = if lo ≤ k ∧ k < hi then f k else μ (0, 0, 2) k := by simp [lsR]
theorem lsR_q {lo hi : Nat} {q : Ad} (h : q ≠ (0, 0, 2)) : lsR f lo hi μ q = μ q := by
  funext k
  simp [lsR, h]
theorem lsR_g {lo hi : Nat} : PG μ (lsR f lo hi μ) := fun _ _ _ h _ => lsR_q h
theorem lsR_end {hi : Nat} : lsR f hi hi μ = μ := by
  funext q k
  unfold lsR
  rw [if_neg (by omega)]
theorem lsR_s {lo hi : Nat} (h : lo < hi) : mset (lsR f (lo + 1) hi μ) (0, 0, 2) lo (f lo) = lsR f lo hi μ := by
  funext q k
  by_cases c : q = (0, 0, 2)
  · subst c
    rw [lsR_k]
    by_cases e : k = lo
    · subst e
      rw [mset_gg, if_pos (by omega)]
    · rw [mset_gk e, lsR_k]
      by_cases e2 : lo + 1 ≤ k ∧ k < hi
      · rw [if_pos e2, if_pos (by omega)]
      · rw [if_neg e2, if_neg (by omega)]
  · rw [mset_ne c, lsR_q c, lsR_q c]
theorem nI_mul (a b : Nat) : nI a * nI b = nI (a * b) := (Int32.ofNat_mul a b).symm
theorem pow_le5 {n m : Nat} (hn : n ≤ 6) (hm : m ≤ 5) : n ^ m ≤ 7776 := by
  have h1 : n ^ m ≤ 6 ^ m := Nat.pow_le_pow_left hn m
  have h2 : 6 ^ m ≤ 6 ^ 5 := Nat.pow_le_pow_right (by decide) hm
  have h3 : 6 ^ 5 = 7776 := by decide
  omega
theorem c_orders_go (hn0 : μ (1, 1, 2) 0 = nI n) (hm : m ≤ 5) : ∀ (k c : Nat), c + k = m → Ev (fun F => run L S F d 59 4 [some (vR (0, 0, 1)), some (vI (nI m)), some (vI (nI (n ^ c))), some (vI (nI c))] μ) (nI (n ^ m), μ) := by
  intro k
  induction k with
  | zero =>
    intro c hc
    have hc : c = m := by omega
    subst hc
    refine Ev.step ?_
    simp only [e59_4, if_neg (nI_nlt (Nat.le_refl c) (show c < 2 ^ 31 by omega))]
    exact Ev.ret
  | succ k ih =>
    intro c hc
    refine Ev.step ?_
    simp only [e59_4, if_pos (nI_lt (show c < m by omega) (show m < 2 ^ 31 by omega)), hn0, nI_mul, nI_1]
    have := ih (c + 1) (by omega)
    rw [Nat.pow_succ] at this
    exact this
theorem c_orders (hn0 : μ (1, 1, 2) 0 = nI n) (hm : m ≤ 5) : Ev (fun F => run L S F d 59 0 [some (vR (0, 0, 1)), some (vI (nI m)), none, none] μ) (nI (n ^ m), μ) := by
  refine Ev.step ?_
  simp only [e59_0]
  exact c_orders_go hn0 hm m 0 (by omega)
theorem c_spellO_go {code : Nat} (hc : code < 2 ^ 31) (hn : 1 ≤ n) (hn6 : n ≤ 6) (hm : m ≤ 5) : ∀ (c : Nat), c ≤ m → Ev (fun F => run L S F d 60 23 [some (vR (0, 0, 1)), none, none, some (vI (nI (code / n ^ (m - c)))), some (vI (nI n)), some (vI (nI c - 1))] (lsR (dgI n m code) c m μ)) (0, lsR (dgI n m code) 0 m μ) := by
  intro c
  induction c with
  | zero =>
    intro _
    refine Ev.step ?_
    simp only [e60_23, show nI 0 - 1 < 0 by decide, if_true]
    exact Ev.ret
  | succ c ih =>
    intro hcm
    have hle : code / n ^ (m - (c + 1)) ≤ code := Nat.div_le_self _ _
    have r1 : nI (code / n ^ (m - (c + 1))) - nI (code / n ^ (m - (c + 1))) / nI n * nI n = nI (code / n ^ (m - (c + 1)) % n) := pk_rem (by omega) (by omega) (by omega)
    have r2 : nI (code / n ^ (m - (c + 1))) / nI n = nI (code / n ^ (m - (c + 1)) / n) := pk_div (by omega) (by omega) (by omega)
    have e1 : code / n ^ (m - (c + 1)) / n = code / n ^ (m - c) := by
      rw [Nat.div_div_eq_div_mul, show m - c = (m - (c + 1)) + 1 by omega, Nat.pow_succ]
    have e2 : nI (code / n ^ (m - (c + 1)) % n) = dgI n m code c := by
      unfold dgI dg
      rw [show m - (c + 1) = m - 1 - c by omega]
    have e3 : nI c + (-1) = nI c - 1 := (Int32.sub_eq_add_neg _ _).symm
    have r3 : nI (code / n ^ (m - (c + 1))) - nI (code / n ^ (m - c)) * nI n = dgI n m code c := by
      rw [← e1, ← r2]
      exact r1.trans e2
    refine Ev.step ?_
    simp only [e60_23, nI_pred, if_neg (nI_pos (show c < 2 ^ 31 by omega)), if_neg (nI_ne0 (show 0 < n by omega) (show n < 2 ^ 31 by omega)), inb_n (show c < 99 by omega) (by decide), cond_true, nI_clamp (show c < 2 ^ 31 by omega), r2, e1, r3, e3, lsR_s (show c < m by omega)]
    exact ih (by omega)
theorem c_spellO {code : Nat} (hn0 : μ (1, 1, 2) 0 = nI n) (hc : code < 2 ^ 31) (hn : 1 ≤ n) (hn6 : n ≤ 6) (hm : m ≤ 5) : Ev (fun F => run L S F d 60 0 [some (vR (0, 0, 1)), some (vI (nI code)), some (vI (nI m)), none, none, none] μ) (0, lsR (dgI n m code) 0 m μ) := by
  refine Ev.step ?_
  have := c_spellO_go (L := L) (S := S) (d := d) (μ := μ) (n := n) (m := m) hc hn hn6 hm m (Nat.le_refl m)
  rw [Nat.sub_self, Nat.pow_zero, Nat.div_one, lsR_end] at this
  simp only [e60_0, hn0, mmax1 hn (show n < 2 ^ 31 by omega)]
  exact this
/-- the reference's asks of an order -/
def byN (n m k : Nat) : Nat := if k < m then n ^ (m - 1 - k) else 0
theorem m_oasks_go {code many : Nat} {x4 : Int32} (hn : 4 ≤ n) (hn6 : n ≤ 6) (hm : m ≤ 5) (hcode : code < 2 ^ 31) (h0 : ν (2, 0, 1) 0 = nI n) {v : Rz} (hv : Ev (fun F => run L S F (d + 1) 208 64 [some (vR (2, 0, 0)), none, some (vI (nI many)), some (vI (nI code)), some (vI x4), some (vI (nI 0))] (askM 0 (dgI n m code) m ν)) v) : ∀ (k c : Nat), c + k = m → Ev (fun F => run L S F (d + 1) 208 64 [some (vR (2, 0, 0)), none, some (vI (nI many)), some (vI (nI code)), some (vI x4), some (vI (nI (byN n m c)))] (askM 0 (dgI n m code) c ν)) v := by
  intro k
  induction k with
  | zero =>
    intro c hc
    have hc : c = m := by omega
    subst hc
    unfold byN
    rw [if_neg (by omega)]
    exact hv
  | succ k ih =>
    intro c hc
    have hp : 0 < n ^ (m - 1 - c) := Nat.pow_pos (by omega)
    have hpl : n ^ (m - 1 - c) ≤ 7776 := pow_le5 hn6 (by omega)
    have eb : byN n m c = n ^ (m - 1 - c) := by unfold byN; rw [if_pos (by omega)]
    have hle : code / n ^ (m - 1 - c) ≤ code := Nat.div_le_self _ _
    have d1 : nI code / nI (n ^ (m - 1 - c)) = nI (code / n ^ (m - 1 - c)) := pk_div hcode hp (by omega)
    have d2 : nI (code / n ^ (m - 1 - c)) - nI (code / n ^ (m - 1 - c)) / nI n * nI n = dgI n m code c := pk_rem (by omega) (by omega) (by omega)
    have d3 : nI (n ^ (m - 1 - c)) / nI n = nI (byN n m (c + 1)) := by
      rw [pk_div (by omega) (by omega) (by omega)]
      unfold byN
      by_cases e : c + 1 < m
      · rw [if_pos e, show m - 1 - c = (m - 1 - (c + 1)) + 1 by omega, Nat.pow_succ, Nat.mul_div_cancel _ (show 0 < n by omega)]
      · rw [if_neg e, show m - 1 - c = 0 by omega, Nat.pow_zero, Nat.div_eq_of_lt (by omega)]
    have a0 : ∀ c, c ≤ m → askM 0 (dgI n m code) c ν (2, 0, 1) 0 = nI n := fun c hc => (askM_o (by omega) (by omega)).trans h0
    rw [eb]
    refine Ev.step ?_
    simp only [e208_64, if_pos (show (0 : Int32) < nI (n ^ (m - 1 - c)) from nI_lt (a := 0) hp (by omega)), if_neg (nI_ne0 hp (show n ^ (m - 1 - c) < 2 ^ 31 by omega)), a0 c (by omega), if_neg (nI_ne0 (show 0 < n by omega) (show n < 2 ^ 31 by omega)), d1, d2]
    refine Ev.bind (m_ask (by omega)) ?_
    simp only [a0 (c + 1) (by omega), if_neg (nI_ne0 (show 0 < n by omega) (show n < 2 ^ 31 by omega)), d3]
    exact ih (c + 1) (by omega)
theorem dg_lt {code k : Nat} (hn : 0 < n) : dg n m code k < n := Nat.mod_lt _ hn
/-- one order, on both sides -/
theorem p_code (h : Ba n q t s μ ν) (ht : t + 600 < 2 ^ 27) (hn6 : n ≤ 6) (hm1 : 1 ≤ m) (hm : m ≤ 5) {code many : Nat} (hcode : code < many) (hmany : many = n ^ m) :
    ∃ (P : Int32) (fl : Bool) (μ2 ν3 : Mm), Ev (fun F => run L S F 26 60 0 [some (vR (0, 0, 1)), some (vI (nI code)), some (vI (nI m)), none, none, none] μ) (0, lsR (dgI n m code) 0 m μ) ∧ Ev (fun F => run L S F 26 51 0 [some (vR (0, 0, 1)), some (vI (nI m)), none] (lsR (dgI n m code) 0 m μ)) (0, μ2) ∧ μ2 (1, 2, 2) 3 = P ∧ (0 < μ2 (1, 2, 24) 3 - μ2 (1, 1, 24) 3 ↔ fl = true) ∧
      (∀ v, Ev (fun F => run L S F 27 208 36 [some (vR (2, 0, 0)), none, some (vI (nI many)), some (vI (nI (code + 1))), none, none] ν3) v → Ev (fun F => run L S F 27 208 36 [some (vR (2, 0, 0)), none, some (vI (nI many)), some (vI (nI code)), none, none] ν) v) ∧
      RSk ν ν3 ∧ ν3 (2, 0, 0) 21 = (if ν (2, 0, 0) 21 < P then P else ν (2, 0, 0) 21) ∧ ν3 (2, 0, 0) 22 = (if ν (2, 0, 0) 21 < P then nI code else ν (2, 0, 0) 22) ∧ ν3 (2, 0, 0) 23 = (if fl = true then 1 else ν (2, 0, 0) 23) ∧ PG μ μ2 ∧ 0 ≤ P.toInt ∧ (∀ k, k < m → μ2 (0, 0, 2) k = dgI n m code k) ∧ μ2 (0, 0, 3) = μ (0, 0, 3) := by
  have hN := h.1.hn
  have hmany2 : many ≤ 7776 := by rw [hmany]; exact pow_le5 hn6 hm
  have h0 : ν (2, 0, 1) 0 = nI n := by
    have := hN.2.1
    rw [mset_gk (by decide)] at this
    exact this
  have h2 : Ba n q t s (lsR (dgI n m code) 0 m μ) ν := h.sv lsR_g RSv.rf
  have hcell : ∀ k, k < m → lsR (dgI n m code) 0 m μ (0, 0, 2) k = dgI n m code k := fun k hk => by rw [lsR_k, if_pos (by omega)]
  obtain ⟨v, tk, q1, w1, t1, s1, μ2, ν1', a1, a2, a3, a4, a5, a6, a7, a8, a9, a10⟩ := p_run (L := L) (S := S) (d := 10) (m := m) h2 ht (by omega) (fun k hk => ⟨dg n m code k, dg_lt (by omega), hcell k hk⟩)
  obtain ⟨f1, f2, f3, f4⟩ := run_flips h2 a4 a7 a8
  rw [askM_cg hcell] at a2
  have flEq : 0 < μ2 (1, 2, 24) 3 - μ2 (1, 1, 24) 3 ↔ decide (ν (2, 0, 1) 16 < ν1' (2, 0, 1) 16) = true := by
    rw [Int32.lt_iff_toInt_lt, f4, decide_eq_true_iff, Int32.lt_iff_toInt_lt]
    have z0 : (0 : Int32).toInt = 0 := rfl
    omega
  -- the reference's end
  have opn : ∀ v', Ev (fun F => run L S F 27 208 64 [some (vR (2, 0, 0)), none, some (vI (nI many)), some (vI (nI code)), some (vI (ν (2, 0, 1) 16)), some (vI (nI 0))] (askM 0 (dgI n m code) m (opM ν v))) v' → Ev (fun F => run L S F 27 208 36 [some (vR (2, 0, 0)), none, some (vI (nI many)), some (vI (nI code)), none, none] ν) v' := fun v' hv' => by
    have e1 : nI many / nI n = nI (byN n m 0) := by
      rw [pk_div (by omega) (by omega) (by omega), hmany]
      unfold byN
      rw [if_pos (by omega), Nat.sub_zero]
      obtain ⟨k, rfl⟩ : ∃ k, m = k + 1 := ⟨m - 1, by omega⟩
      rw [Nat.pow_succ, Nat.mul_div_cancel _ (show 0 < n by omega), Nat.add_sub_cancel]
    refine Ev.step ?_
    simp only [e208_36, if_pos (nI_lt hcode (show many < 2 ^ 31 by omega))]
    refine Ev.bind (a1.dp (by omega)) ?_
    have o0 : opM ν v (2, 0, 1) 0 = nI n := (opM_k (by decide)).trans h0
    have o16 : opM ν v (2, 0, 1) 16 = ν (2, 0, 1) 16 := opM_k (by decide)
    simp only [o0, o16, if_neg (nI_ne0 (show 0 < n by omega) (show n < 2 ^ 31 by omega)), e1]
    have := m_oasks_go (L := L) (S := S) (d := 26) (n := n) (m := m) (code := code) (many := many) (x4 := ν (2, 0, 1) 16) (ν := opM ν v) hN.2.2.1 hn6 hm (by omega) o0 hv' m 0 (by omega)
    rw [askM_0 opM_5] at this
    exact this
  have fld : ∀ k, k ≠ 9 → k ≠ 10 → ν1' (2, 0, 0) k = ν (2, 0, 0) k := fun k x y => (a8.2.2 k x y).trans (opM_f x)
  -- with and without a flip
  have fin : ∀ νc : Mm, (∀ q : Ad, q ≠ (2, 0, 0) → νc q = ν1' q) → (∀ k, k ≠ 23 → νc (2, 0, 0) k = ν1' (2, 0, 0) k) → ∃ ν3, (∀ v', Ev (fun F => run L S F 27 208 36 [some (vR (2, 0, 0)), none, some (vI (nI many)), some (vI (nI (code + 1))), none, none] ν3) v' → Ev (fun F => (run L S F 26 202 0 [some (vR (2, 0, 0))] νc).bind fun p3 =>
        if p3.2 (2, 0, 0) 21 < p3.2 (2, 0, 0) 9 then
          run L S F 27 208 36 [some (vR (2, 0, 0)), none, some (vI (nI many)), some (vI (nI (code + 1))), none, none] (mset (mset p3.2 (2, 0, 0) 21 (p3.2 (2, 0, 0) 9)) (2, 0, 0) 22 (nI code))
        else
          run L S F 27 208 36 [some (vR (2, 0, 0)), none, some (vI (nI many)), some (vI (nI (code + 1))), none, none] p3.2) v') ∧ RSk ν ν3 ∧ ν3 (2, 0, 0) 21 = (if ν (2, 0, 0) 21 < ν1' (2, 0, 0) 9 then ν1' (2, 0, 0) 9 else ν (2, 0, 0) 21) ∧ ν3 (2, 0, 0) 22 = (if ν (2, 0, 0) 21 < ν1' (2, 0, 0) 9 then nI code else ν (2, 0, 0) 22) ∧ ν3 (2, 0, 0) 23 = νc (2, 0, 0) 23 := fun νc hc1 hc2 => by
    have rs := closes_rs a8
    have cl : ∀ i, cpr νc (2, 0, 3) 0 (2, 0, 1) 0 0 (2, 0, 1) i = ν (2, 0, 1) i := fun i => by
      have e1 : cpr νc (2, 0, 3) 0 (2, 0, 1) 0 0 (2, 0, 1) i = cpr ν1' (2, 0, 3) 0 (2, 0, 1) 0 0 (2, 0, 1) i := by
        unfold cpr
        rw [hc1 (2, 0, 3) (by decide), hc1 (2, 0, 1) (by decide)]
      rw [e1]
      exact rs.1 i
    have cq : ∀ q : Ad, q ≠ (2, 0, 0) → q ≠ (2, 0, 1) → q ≠ (2, 0, 3) → cpr νc (2, 0, 3) 0 (2, 0, 1) 0 0 q = ν q := fun q x y z => by
      funext k
      rw [cpr_ne y, hc1 q x, a8.1 q y x, opM_q x y z]
    have c0 : ∀ k, k ≠ 23 → cpr νc (2, 0, 3) 0 (2, 0, 1) 0 0 (2, 0, 0) k = ν1' (2, 0, 0) k := fun k x => by rw [cpr_ne (by decide), hc2 k x]
    have c23 : cpr νc (2, 0, 3) 0 (2, 0, 1) 0 0 (2, 0, 0) 23 = νc (2, 0, 0) 23 := by rw [cpr_ne (by decide)]
    have c21 : cpr νc (2, 0, 3) 0 (2, 0, 1) 0 0 (2, 0, 0) 21 = ν (2, 0, 0) 21 := (c0 21 (by decide)).trans (fld 21 (by decide) (by decide))
    have c9 : cpr νc (2, 0, 3) 0 (2, 0, 1) 0 0 (2, 0, 0) 9 = ν1' (2, 0, 0) 9 := c0 9 (by decide)
    have c22 : cpr νc (2, 0, 3) 0 (2, 0, 1) 0 0 (2, 0, 0) 22 = ν (2, 0, 0) 22 := (c0 22 (by decide)).trans (fld 22 (by decide) (by decide))
    have hcl := m_closes (L := L) (S := S) (d := 25) (ν := νc)
    have ck : ∀ k, k = 4 ∨ k = 12 ∨ k = 17 ∨ k = 18 → cpr νc (2, 0, 3) 0 (2, 0, 1) 0 0 (2, 0, 0) k = ν (2, 0, 0) k := fun k hk => (c0 k (by omega)).trans (fld k (by omega) (by omega))
    generalize cpr νc (2, 0, 3) 0 (2, 0, 1) 0 0 = κ at cl cq c23 c21 c9 c22 hcl ck
    clear c0
    by_cases lt : ν (2, 0, 0) 21 < ν1' (2, 0, 0) 9
    · refine ⟨mset (mset κ (2, 0, 0) 21 (ν1' (2, 0, 0) 9)) (2, 0, 0) 22 (nI code), fun v' hv' => ?_, ⟨fun i => by rw [mset_ne (by decide), mset_ne (by decide)]; exact cl i, fun q x y z => by rw [mset_ne x, mset_ne x]; exact cq q x y z, fun k hk => by rw [mset_gk (by omega), mset_gk (by omega)]; exact ck k hk⟩, ?_, ?_, ?_⟩
      · refine Ev.bind hcl ?_
        simp only [c21, c9, if_pos lt]
        exact hv'
      · rw [mset_gk (by decide), mset_gg, if_pos lt]
      · rw [mset_gg, if_pos lt]
      · rw [mset_gk (by decide), mset_gk (by decide), c23]
    · refine ⟨κ, fun v' hv' => ?_, ⟨cl, cq, ck⟩, ?_, ?_, c23⟩
      · refine Ev.bind hcl ?_
        simp only [c21, c9, if_neg lt]
        exact hv'
      · rw [c21, if_neg lt]
      · rw [c22, if_neg lt]
  have base : ∀ v', (if ν (2, 0, 1) 16 < ν1' (2, 0, 1) 16 then Ev (fun F => (run L S F 26 202 0 [some (vR (2, 0, 0))] (mset ν1' (2, 0, 0) 23 1)).bind fun p3 =>
        if p3.2 (2, 0, 0) 21 < p3.2 (2, 0, 0) 9 then
          run L S F 27 208 36 [some (vR (2, 0, 0)), none, some (vI (nI many)), some (vI (nI (code + 1))), none, none] (mset (mset p3.2 (2, 0, 0) 21 (p3.2 (2, 0, 0) 9)) (2, 0, 0) 22 (nI code))
        else
          run L S F 27 208 36 [some (vR (2, 0, 0)), none, some (vI (nI many)), some (vI (nI (code + 1))), none, none] p3.2) v' else Ev (fun F => (run L S F 26 202 0 [some (vR (2, 0, 0))] ν1').bind fun p3 =>
        if p3.2 (2, 0, 0) 21 < p3.2 (2, 0, 0) 9 then
          run L S F 27 208 36 [some (vR (2, 0, 0)), none, some (vI (nI many)), some (vI (nI (code + 1))), none, none] (mset (mset p3.2 (2, 0, 0) 21 (p3.2 (2, 0, 0) 9)) (2, 0, 0) 22 (nI code))
        else
          run L S F 27 208 36 [some (vR (2, 0, 0)), none, some (vI (nI many)), some (vI (nI (code + 1))), none, none] p3.2) v') → Ev (fun F => run L S F 27 208 36 [some (vR (2, 0, 0)), none, some (vI (nI many)), some (vI (nI code)), none, none] ν) v' := fun v' hv' => by
    refine opn v' (Ev.step ?_)
    have nm : ∀ (κ : Mm) (x : Int32), mset κ (2, 0, 0) 21 x (2, 0, 0) 9 = κ (2, 0, 0) 9 := fun κ x => mset_gk (by decide)
    simp only [e208_64, show ¬ (0 : Int32) < nI 0 by decide, if_false, nI_1]
    refine Ev.bind (a2.dp (by omega)) ?_
    by_cases c16 : ν (2, 0, 1) 16 < ν1' (2, 0, 1) 16
    · rw [if_pos c16] at hv'
      simp only [if_pos c16]
      exact hv'
    · rw [if_neg c16] at hv'
      simp only [if_neg c16]
      exact hv'
  have cells2 : ∀ k, k < m → μ2 (0, 0, 2) k = dgI n m code k := fun k hk => by
    rw [a7 (0, 0, 2) (fun x => absurd x.1 (by decide)) (by decide)]
    exact hcell k hk
  have w3 : μ2 (0, 0, 3) = μ (0, 0, 3) := by rw [a7 (0, 0, 3) (fun x => absurd x.1 (by decide)) (by decide), lsR_q (by decide)]
  by_cases c16 : ν (2, 0, 1) 16 < ν1' (2, 0, 1) 16
  · obtain ⟨ν3, b1, b2, b3, b4, b5⟩ := fin (mset ν1' (2, 0, 0) 23 1) (fun q x => mset_ne x) (fun k x => mset_gk x)
    refine ⟨ν1' (2, 0, 0) 9, true, μ2, ν3, c_spellO h.1.hn.1 (by omega) (by omega) hn6 hm, a3.dp (by omega), f2, flEq.trans (by simp [c16]), fun v' hv' => base v' (by rw [if_pos c16]; exact b1 v' hv'), b2, b3, b4, by rw [b5, mset_gg, if_pos rfl], lsR_g.tr a7.g, a10, cells2, w3⟩
  · obtain ⟨ν3, b1, b2, b3, b4, b5⟩ := fin ν1' (fun q x => rfl) (fun k x => rfl)
    refine ⟨ν1' (2, 0, 0) 9, false, μ2, ν3, c_spellO h.1.hn.1 (by omega) (by omega) hn6 hm, a3.dp (by omega), f2, flEq.trans (by simp [c16]), fun v' hv' => base v' (by rw [if_neg c16]; exact b1 v' hv'), b2, b3, b4, by rw [b5, if_neg (by decide), fld 23 (by decide) (by decide)], lsR_g.tr a7.g, a10, cells2, w3⟩
end OR
