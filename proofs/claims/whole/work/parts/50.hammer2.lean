/-! what is hammered, on both sides; its flips and peak -/
section HB
variable {L : Nat} {S : Ad → Nat → Int32} {d n q w m t s T T1 : Nat} {z : Int32} {i j j1 : Fin 15} {b b1 : Bool} {μ μ' μ1 μ1' μ2 : Mm} {f g : Nat → Int32}
theorem askM_cg (h : ∀ k, k < m → f k = g k) : askM w f m μ' = askM w g m μ' := by
  funext q k
  unfold askM
  by_cases c : q = (2, 0, 1) ∧ 228 + w ≤ k ∧ k < 228 + w + m
  · rw [if_pos c, if_pos c, h _ (by omega)]
  · rw [if_neg c, if_neg c]
/-- both have a row at a place -/
theorem Ba.at (h : Ba n q t s μ μ') {p : Nat} (hp : p < n) : ∃ a, a < n ∧ μ (1, 1, 4) p = nI a ∧ ∀ ν : Mm, (∀ k, k < 426 → k ≠ 5 → ν (2, 0, 1) k = μ' (2, 0, 1) k) → Ev (fun F => run L S F d 132 0 [some (vR (2, 0, 0)), some (vI (nI p)), none] ν) (nI a, ν) := by
  have hN := h.1.hn
  obtain ⟨a, h1, h2, h3, h4⟩ := h.1.at hp
  refine ⟨a, h1, h2, fun ν hν => Ev.at 18 (fun F hF => s_rowAt (n := n) hF hN.2.2.2 h1 ?_ (fun k hk e => ?_))⟩
  · rw [hν _ (by omega) (by omega)]
    rw [mset_gk (by omega)] at h3
    exact h3
  · refine h4 k hk ?_
    rw [mset_gk (by omega), ← hν _ (by omega) (by omega)]
    exact e
def HAB (L : Nat) (S : Ad → Nat → Int32) (d r : Nat) (x : Int32) (a c : Nat) (μ' : Mm) : Prop := ∀ (ν : Mm) (m : Nat) (v : Rz), (∀ k, k < 426 → k ≠ 5 → ν (2, 0, 1) k = μ' (2, 0, 1) k) → Ev (fun F => run L S F (d + 1) 204 79 [some (vR (2, 0, 0)), none, some (vI (nI m)), none, none, some (vI (nI a)), some (vI (nI c)), some (vI 0), none] ν) v → Ev (fun F => run L S F (d + 1) 204 0 [some (vR (2, 0, 0)), some (vI (nI r)), some (vI (nI m)), some (vI x), none, none, none, none, none] ν) v
theorem HAB.st {r a c : Nat} {x : Int32} (h : HAB L S d r x a c μ') (hm : RSx μ' μ1') : HAB L S d r x a c μ1' := fun ν m v hν hv => h ν m v (fun k a b => (hν k a b).trans (hm.1 k)) hv
theorem p_ab (h : Ba n q t s μ μ') {r : Nat} (hr : r < n) {x : Int32} (hx : x = 0 ∨ x = 1) : ∃ a c : Nat, a < n ∧ c < n ∧ (∀ e M, M ≤ 99 → Ev (fun F => run L S F (e + 1) 57 0 [some (vR (0, 0, 1)), some (vI (nI r)), some (vI (nI M)), some (vI x), none, none, none, none, none] μ) (0, lsM (hl (nI a) (nI c)) M μ)) ∧ HAB L S d r x a c μ' := by
  have hN := h.1.hn
  obtain ⟨p, hp, hp1, hp2⟩ := h.1.pm.2 r hr
  have hp3 : μ' (2, 0, 1) (44 + r) = nI p := by
    have := h.1.lc 3 r (44 + r) (by simp [loc, hr]) (by omega)
    rw [mset_gk (by omega)] at this
    exact this.symm.trans hp1
  have hn0 : μ' (2, 0, 1) 0 = nI n := by
    have := hN.2.1
    rw [mset_gk (by decide)] at this
    exact this
  have has : ∀ e (k : Nat), k < 2 ^ 31 → Ev (fun F => run L S F e 4 0 [some (vR (1, 1, 2)), some (vI (nI k))] μ) (if k < n then 1 else 0, μ) := fun e k hk => Ev.at 1 (fun F hF => by
    rw [s_has hF hN.1 hN.2.2.2, nI_toInt hk]
    congr 2
    by_cases c : k < n
    · rw [if_pos c, if_pos (by omega)]
    · rw [if_neg c, if_neg (by omega)])
  have hasm : ∀ e, Ev (fun F => run L S F e 4 0 [some (vR (1, 1, 2)), some (vI (nI 0 - 1))] μ) (0, μ) := fun e => Ev.at 1 (fun F hF => by
    rw [s_has hF hN.1 hN.2.2.2, if_neg (fun x => absurd x.1 (by decide))])
  have n1 : ¬ (1 : Int32) = 0 := by decide
  rcases hx with rfl | rfl
  · refine ⟨r, r, hr, hr, fun e M hM => Ev.step ?_, fun ν m v hν hv => Ev.step ?_⟩
    · simp only [e57_0, show ¬ (0 : Int32) = 1 by decide, if_false]
      have := c_spell_go (L := L) (S := S) (d := e) (μ := μ) (a := nI r) (c := nI r) hM M 0 (by omega)
      rw [lsM_0] at this
      exact this
    · simp only [e204_0, if_true, a44, inb_n (show 44 + r < 1278 by omega) (by decide), cond_true]
      exact hv
  · have cls : ∀ e M a c, M ≤ 99 → Ev (fun F => run L S F (e + 1) 57 110 [some (vR (0, 0, 1)), none, some (vI (nI M)), none, some (vI (nI a)), some (vI (nI c)), some (vI 0), none, none] μ) (0, lsM (hl (nI a) (nI c)) M μ) := fun e M a c hM => by
      have := c_spell_go (L := L) (S := S) (d := e) (μ := μ) (a := nI a) (c := nI c) hM M 0 (by omega)
      rw [lsM_0] at this
      exact this
    rcases Nat.eq_zero_or_pos p with rfl | hp0
    · obtain ⟨a, a1, a2, a3⟩ := Ba.at (L := L) (S := S) (d := d) h (show 1 < n by omega)
      refine ⟨a, a, a1, a1, fun e M hM => Ev.step ?_, fun ν m v hν hv => Ev.step ?_⟩
      · simp only [e57_0, if_true, inb_n (show r < 16 by omega) (by decide), cond_true, nI_clamp (show r < 2 ^ 31 by omega), hp1]
        refine Ev.bind (hasm e) ?_
        simp only [if_true, nI_1, Nat.zero_add, inb_n (show 1 < 16 by decide) (by decide), cond_true, nI_clamp (show 1 < 2 ^ 31 by decide)]
        refine Ev.bind (has e 1 (by decide)) ?_
        simp only [if_pos (show 1 < n by omega), n1, if_false, inb_n (show 1 < 16 by decide) (by decide), cond_true, a2]
        exact cls e M a a hM
      · have hr3 : ν (2, 0, 1) (44 + r) = nI 0 := (hν _ (by omega) (by omega)).trans hp3
        have hr0 : ν (2, 0, 1) 0 = nI n := (hν _ (by omega) (by omega)).trans hn0
        have hne : ¬ nI 0 = nI n - 1 := fun e => by
          obtain ⟨n', rfl⟩ : ∃ k, n = k + 1 := ⟨n - 1, by omega⟩
          rw [nI_pred] at e
          have := nI_inj (a := 0) (by decide) (by omega) e
          omega
        simp only [e204_0, n1, if_false, a44, inb_n (show 44 + r < 1278 by omega) (by decide), cond_true, nI_clamp (show 44 + r < 2 ^ 31 by omega), hr3, show nI 0 = (0 : Int32) from rfl, if_true]
        refine Ev.bind (a3 ν hν) ?_
        simp only [hr0, if_neg (show ¬ (0 : Int32) = nI n - 1 from hne)]
        exact Ev.bind (a3 ν hν) hv
    · obtain ⟨p, rfl⟩ : ∃ k, p = k + 1 := ⟨p - 1, by omega⟩
      obtain ⟨a, a1, a2, a3⟩ := Ba.at (L := L) (S := S) (d := d) h (show p < n by omega)
      have n0 : ¬ nI (p + 1) = 0 := nI_ne0 (by omega) (by omega)
      by_cases hl1 : p + 1 + 1 < n
      · obtain ⟨c, c1, c2, c3⟩ := Ba.at (L := L) (S := S) (d := d) h hl1
        refine ⟨a, c, a1, c1, fun e M hM => Ev.step ?_, fun ν m v hν hv => Ev.step ?_⟩
        · simp only [e57_0, if_true, inb_n (show r < 16 by omega) (by decide), cond_true, nI_clamp (show r < 2 ^ 31 by omega), hp1, nI_pred, nI_1]
          refine Ev.bind (has e p (by omega)) ?_
          simp only [if_pos (show p < n by omega), n1, if_false, inb_n (show p < 16 by omega) (by decide), cond_true, nI_clamp (show p < 2 ^ 31 by omega)]
          refine Ev.bind (has e (p + 1 + 1) (by omega)) ?_
          simp only [if_pos hl1, n1, if_false, inb_n (show p + 1 + 1 < 16 by omega) (by decide), cond_true, nI_clamp (show p + 1 + 1 < 2 ^ 31 by omega), a2, c2]
          exact cls e M a c hM
        · have hr3 : ν (2, 0, 1) (44 + r) = nI (p + 1) := (hν _ (by omega) (by omega)).trans hp3
          have hr0 : ν (2, 0, 1) 0 = nI n := (hν _ (by omega) (by omega)).trans hn0
          have hne : ¬ nI (p + 1) = nI n - 1 := fun e => by
            obtain ⟨n', rfl⟩ : ∃ k, n = k + 1 := ⟨n - 1, by omega⟩
            rw [nI_pred] at e
            have := nI_inj (by omega) (by omega) e
            omega
          simp only [e204_0, n1, if_false, a44, inb_n (show 44 + r < 1278 by omega) (by decide), cond_true, nI_clamp (show 44 + r < 2 ^ 31 by omega), hr3, n0, nI_pred, nI_1]
          refine Ev.bind (a3 ν hν) ?_
          simp only [hr0, if_neg hne]
          exact Ev.bind (c3 ν hν) hv
      · refine ⟨a, a, a1, a1, fun e M hM => Ev.step ?_, fun ν m v hν hv => Ev.step ?_⟩
        · simp only [e57_0, if_true, inb_n (show r < 16 by omega) (by decide), cond_true, nI_clamp (show r < 2 ^ 31 by omega), hp1, nI_pred, nI_1]
          refine Ev.bind (has e p (by omega)) ?_
          simp only [if_pos (show p < n by omega), n1, if_false, inb_n (show p < 16 by omega) (by decide), cond_true, nI_clamp (show p < 2 ^ 31 by omega)]
          refine Ev.bind (has e (p + 1 + 1) (by omega)) ?_
          simp only [if_neg hl1, if_true, inb_n (show p < 16 by omega) (by decide), cond_true, nI_clamp (show p < 2 ^ 31 by omega), a2]
          exact cls e M a a hM
        · have hr3 : ν (2, 0, 1) (44 + r) = nI (p + 1) := (hν _ (by omega) (by omega)).trans hp3
          have hr0 : ν (2, 0, 1) 0 = nI n := (hν _ (by omega) (by omega)).trans hn0
          have heq : nI (p + 1) = nI n - 1 := by
            obtain ⟨n', rfl⟩ : ∃ k, n = k + 1 := ⟨n - 1, by omega⟩
            rw [nI_pred, show p + 1 = n' by omega]
          simp only [e204_0, n1, if_false, a44, inb_n (show 44 + r < 1278 by omega) (by decide), cond_true, nI_clamp (show 44 + r < 2 ^ 31 by omega), hr3, n0, nI_pred, nI_1]
          refine Ev.bind (a3 ν hν) ?_
          simp only [hr0, if_pos heq]
          exact Ev.bind (a3 ν hν) hv
/-- a row hammered m times, on both sides -/
theorem p_hrun (h : Ba n q t s μ μ') (ht : t + 600 < 2 ^ 27) (hm : m ≤ 99) {r a c : Nat} {x : Int32} (ha : a < n) (hc : c < n) (hls : ∀ k, k < m → μ (0, 0, 2) k = hl (nI a) (nI c) k) (hab : HAB L S (d + 12) r x a c μ') :
    ∃ v μ1 ν1', Ev (fun F => run L S F (d + 1) 201 0 [some (vR (2, 0, 0)), none] μ') (0, opM μ' v) ∧ Ev (fun F => run L S F (d + 13) 204 0 [some (vR (2, 0, 0)), some (vI (nI r)), some (vI (nI m)), some (vI x), none, none, none, none, none] (opM μ' v)) (μ1 (1, 2, 24) 3 - μ1 (1, 1, 24) 3, ν1') ∧ Ev (fun F => run L S F (d + 8) 51 0 [some (vR (0, 0, 1)), some (vI (nI m)), none] μ) (0, μ1) ∧
      PF μ μ1 ∧ FMx (opM μ' v) ν1' ∧ μ1 (1, 2, 2) 3 = ν1' (2, 0, 0) 9 ∧ 0 ≤ (μ1 (1, 2, 24) 3 - μ1 (1, 1, 24) 3).toInt := by
  obtain ⟨v, tk, q1, w1, t1, s1, μ1, ν1', a1, a2, a3, a4, a5, a6, a7, a8, a9, -⟩ := p_run (L := L) (S := S) (d := d) h ht hm (fun k hk => by rw [hls k hk]; exact hl_r ha hc k)
  obtain ⟨f1, f2, f3, f4⟩ := run_flips h a4 a7 a8
  rw [askM_cg hls] at a2
  have b := m_hasks_go (L := L) (S := S) (d := d + 12) (a := nI a) (c := nI c) (ν := opM μ' v) hm _ a2 m 0 (by omega)
  rw [askM_0 opM_5] at b
  have e16 : opM μ' v (2, 0, 1) 16 = μ' (2, 0, 1) 16 := opM_k (by decide)
  rw [e16] at b
  refine ⟨v, μ1, ν1', a1, ?_, a3, a7, a8, f2, by rw [f4]; omega⟩
  rw [f1]
  exact hab _ m _ (fun k hk h5 => opM_k h5) b
theorem p_flipsBy (h : Ba n q t s μ μ') (ht : t + 600 < 2 ^ 27) (hm : m ≤ 99) {r a c : Nat} {x : Int32} (ha : a < n) (hc : c < n) (hls : ∀ k, k < m → μ (0, 0, 2) k = hl (nI a) (nI c) k) (hab : HAB L S (d + 12) r x a c μ') :
    ∃ f μ1 μ1', Ev (fun F => run L S F (d + 8) 51 0 [some (vR (0, 0, 1)), some (vI (nI m)), none] μ) (0, μ1) ∧ (∀ e, Ev (fun F => run L S F e 55 0 [some (vR (0, 0, 1))] μ1) (f, μ1)) ∧ Ev (fun F => run L S F (d + 14) 206 0 [some (vR (2, 0, 0)), some (vI (nI r)), some (vI (nI m)), some (vI x), none] μ') (f, μ1') ∧ PF μ μ1 ∧ RSx μ' μ1' ∧ 0 ≤ f.toInt := by
  obtain ⟨v, μ1, ν1', a1, a2, a3, a4, a5, a6, a7⟩ := p_hrun (L := L) (S := S) (d := d) h ht hm ha hc hls hab
  refine ⟨μ1 (1, 2, 24) 3 - μ1 (1, 1, 24) 3, μ1, _, a3, fun e => Ev.step ?_, Ev.step ?_, a4, closes_rs a5, a7⟩
  · simp only [e55_0]
    exact Ev.ret
  · simp only [e206_0]
    exact Ev.bind (a1.dp (by omega)) (Ev.bind a2 (Ev.bind (m_closes) Ev.ret))
end HB
