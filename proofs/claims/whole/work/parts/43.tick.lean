/-! a tick goes by -/
def RestM (L : Nat) (S : Ad → Nat → Int32) (F d : Nat) (ν : Mm) : Option Rz := if ν (2, 0, 1) 8 = 0 then (run L S F d 160 0 [some (vR (2, 0, 0)), none, none] ν).bind (fun p => TailM p.2) else TailM ν
section TI
variable {L : Nat} {S : Ad → Nat → Int32} {F d n q w e M : Nat} {z z1 : Int32} {j j1 : Fin 15} {b : Bool} {μ μ' μ1 μ1' : Mm}
theorem e161_68t {x_2 : Int32} : run L S (F + 1) (d + 1) 161 68 [some (vR (2, 0, 0)), none, some (vI x_2)] μ = if x_2 < 16 then (bif inb (76 + x_2) 1278 then run L S F (d + 1) 161 68 [some (vR (2, 0, 0)), none, some (vI (x_2 + 1))] (mset μ (2, 0, 1) (Int32.toNatClampNeg (76 + x_2)) 0) else none) else RestM L S F d μ := e161_68
theorem e161_46t {x_1 : Int32} : run L S (F + 1) (d + 1) 161 46 [some (vR (2, 0, 0)), some (vI x_1), none] μ = if 0 < x_1 then (if μ (2, 0, 1) 32 = 0 then none else if (x_1 - x_1 / μ (2, 0, 1) 32 * μ (2, 0, 1) 32) = 0 then (run L S F d 140 0 [some (vR (2, 0, 0)), none] μ).bind fun p => run L S F (d + 1) 161 68 [some (vR (2, 0, 0)), none, some (vI 0)] p.2 else RestM L S F d μ) else RestM L S F d μ := e161_46
theorem m_68z {k : Nat} (hk : k = 16) : run L S (F + 1) (d + 1) 161 68 [some (vR (2, 0, 0)), none, some (vI (nI k))] μ = RestM L S F d μ := by
  rw [e161_68t, if_neg (by rw [hk]; decide)]
theorem m_68s {k : Nat} (hk : k < 16) : run L S (F + 1) (d + 1) 161 68 [some (vR (2, 0, 0)), none, some (vI (nI k))] μ = run L S F (d + 1) 161 68 [some (vR (2, 0, 0)), none, some (vI (nI (k + 1)))] (mset μ (2, 0, 1) (76 + k) 0) := by
  rw [e161_68t, if_pos (show nI k < 16 from nI_lt (b := 16) hk (by decide)), a76, inb_n (show 76 + k < 1278 by omega) (by decide), cond_true, nI_clamp (show 76 + k < 2 ^ 31 by omega), nI_1]
theorem m_68g (m : Nat) : ∀ (k F : Nat) (μ : Mm), k + m = 16 → run L S (m + 1 + F) (d + 1) 161 68 [some (vR (2, 0, 0)), none, some (vI (nI k))] μ = RestM L S F d (filk μ (2, 0, 1) 0 (76 + k) 92) := by
  induction m with
  | zero =>
    intro k F μ hk
    have hk : k = 16 := by omega
    rw [Nat.add_comm (0 + 1) F, m_68z hk, hk, filk_id]
  | succ m ih =>
    intro k F μ hk
    rw [show m + 1 + 1 + F = (m + 1 + F) + 1 by omega, m_68s (by omega), ih (k + 1) F _ (by omega), show 76 + (k + 1) = 76 + k + 1 by omega, filk_step (by omega)]
theorem m_68 (m k F : Nat) (μ : Mm) (hk : k + m = 16) : run L S (F + m + 1) (d + 1) 161 68 [some (vR (2, 0, 0)), none, some (vI (nI k))] μ = RestM L S F d (filk μ (2, 0, 1) 0 (76 + k) 92) := by
  rw [show F + m + 1 = m + 1 + F by omega]
  exact m_68g m k F μ hk
/-- a new window -/
def winC (j : Fin 15) (μ : Mm) : Mm := filk (empC j μ) (1, j, 6) 0 0 16
def winM (μ : Mm) : Mm := filk (empM μ) (2, 0, 1) 0 76 92
set_option maxHeartbeats 4000000 in
theorem R.win (h : R n q w z 1000 j b μ μ') : R n q w z 1000 j b (winC j μ) (winM μ') := by
  have h1 := h.emp
  have hN := h.hn
  have hL : LocR n 1000 j (winC j μ) (winM μ') := by
    intro o k i hl hie
    have h0 := h1.1.1 o k i hl hie
    unfold winC winM
    by_cases c : o = 6
    · subst c
      simp only [loc] at hl
      split at hl
      · have := Option.some.inj hl
        subst this
        rw [filk_in (by omega), filk_in (by omega)]
      · cases hl
    · have hi : i < 76 ∨ 92 ≤ i := by
        have e := loc_li hN.2.2.2 hl
        rcases Nat.lt_or_ge i 76 with x | x
        · exact Or.inl x
        · rcases Nat.lt_or_ge i 92 with y | y
          · exfalso
            have e2 : li i = (6, i - 76) := by
              unfold li
              (repeat (first | rw [if_neg (by omega)] | rw [if_pos (by omega)]))
            rw [e2] at e
            simp only [Prod.mk.injEq] at e
            exact c e.1.symm
          · exact Or.inr y
      rw [filk_ne (by simp [c]), filk_out hi]
      exact h0
  have gm : ∀ i, (i < 76 ∨ 92 ≤ i) → winM μ' (2, 0, 1) i = empM μ' (2, 0, 1) i := fun i hi => filk_out hi
  refine h1.upd hL (fun o k hs => filk_ne (by unfold spC at hs; simp; omega)) (fun i hs => gm i (by unfold spM at hs; omega)) (h1.da.keep hN.2.2.2 (fun i a c => gm i (by omega))) ?_ (fun hb => ?_)
  · rw [gm 16 (by omega), show winC j μ (1, j, 24) 3 = empC j μ (1, j, 24) 3 from filk_ne (by simp)]
    exact h1.hz
  · rw [show winC j μ (1, j, 2) 3 = empC j μ (1, j, 2) 3 from filk_ne (by simp), show winM μ' (2, 0, 0) 9 = empM μ' (2, 0, 0) 9 from congrFun (by funext i; exact filk_ne (by decide)) 9]
    exact h1.pk hb
theorem FC.win : FC j μ (winC j μ) := ⟨fun q hq => by
  funext i
  exact (filk_ne (fun x => hq (by rw [x]; exact ⟨rfl, rfl⟩))).trans (congrFun (empC_q hq) i), (filk_ne (by simp)).trans (empC_o (by omega))⟩
theorem FM.win : FM 0 μ' (winM μ') := ⟨fun q a c => by
  funext i
  exact (filk_ne a).trans (congrFun (empM_q a) i), fun i hi => (filk_out (by omega)).trans (empM_o (by omega)), fun k hk => (filk_ne (by decide)).trans (congrFun (empM_q (by decide)) k), DD.keep (fun r hr => (filk_out (by omega)).trans (empM_o (by omega))) ((filk_out (by omega)).trans (empM_o (by omega))) ((filk_ne (by decide)).trans (congrFun (empM_q (by decide)) 9))⟩
theorem min99 {k : Nat} (hk : k ≤ 99) : mmin 99 (nI k + 1) = nI (min 99 (k + 1)) := by
  rw [nI_1]
  unfold mmin
  by_cases c : k = 99
  · subst c; rfl
  · by_cases c2 : k = 98
    · subst c2; rfl
    · rw [if_pos (show nI (k + 1) < 99 from nI_lt (b := 99) (by omega) (by decide)), Nat.min_eq_right (by omega)]
/-- the rest of the coming round: a window -/
theorem p_round2 (h : R n q w z 1000 j b μ μ') {t s : Nat} (ht : μ' (2, 0, 1) 1 = nI t) (hs : μ' (2, 0, 1) 11 = nI s) (ht2 : t < 2 ^ 31) (ht0 : t ≠ 0) : ∃ (wn : Int32) (μ1 μ1' : Mm) (s1 : Nat), μ' (2, 0, 1) 32 = wn ∧ μ (1, j, 1) 5 = wn ∧ ¬ (mmax 1 wn) = 0 ∧ (∀ F d, 20 ≤ F → 2 ≤ d → (if nI t - nI t / (mmax 1 wn) * (mmax 1 wn) = 0 then (run L S F d 13 0 [some (vR (1, j, 11))] μ).bind fun p => (run L S F d 1 0 [some (vR (1, j, 6)), some (vI 0), none, none] p.2).bind fun p => some ((0 : Int32), p.2) else some (0, μ)) = some (0, μ1)) ∧
    (∀ F d, 30 ≤ F → 1 ≤ d → ∃ F', F ≤ F' + 18 ∧ run L S F d 161 46 [some (vR (2, 0, 0)), some (vI (nI t)), none] μ' = RestM L S F' (d - 1) μ1') ∧ R n q w z 1000 j b μ1 μ1' ∧ FC j μ μ1 ∧ FM 0 μ' μ1' ∧ μ1' (2, 0, 1) 1 = nI t ∧ μ1' (2, 0, 1) 11 = nI s1 ∧ s1 ≤ s ∧ μ1' (2, 0, 1) 15 = μ' (2, 0, 1) 15 := by
  obtain ⟨W, W1, W2, W3⟩ := h.tn 5 4 999 (by decide) rfl rfl
  have W3 : μ' (2, 0, 1) 32 = nI W := W3
  have cW : μ (1, j, 1) 5 = nI W := (h.term (by decide)).trans W3
  have eW : mmax 1 (nI W) = nI W := mmax1 (by omega) (by omega)
  have nW : ¬ nI W = 0 := nI_ne0 (by omega) (by omega)
  have rW : nI t - nI t / nI W * nI W = nI (t % W) := pk_rem ht2 (by omega) (by omega)
  have hp : (0 : Int32) < nI t := nI_lt (a := 0) (by omega) ht2
  by_cases c : nI (t % W) = 0
  · refine ⟨nI W, winC j μ, winM μ', 0, W3, cW, by rw [eW]; exact nW, fun F d hF hd => ?_, fun F d hF hd => ⟨F - 18, by omega, ?_⟩, h.win, FC.win, FM.win, ?_, ?_, by omega, ?_⟩
    · simp only [eW, rW, if_pos c, s_empty (show 19 ≤ F by omega) (show 1 ≤ d by omega), Option.bind_some, s_fill6 (show 18 ≤ F by omega)]
      rfl
    · obtain ⟨G, rfl, hG⟩ := fz (show 29 + 1 ≤ F by omega)
      obtain ⟨d, rfl, hd'⟩ := fz hd
      rw [e161_46t, if_pos hp]
      simp only [W3, if_neg nW, rW, if_pos c, m_empties (show 27 ≤ G by omega), Option.bind_some]
      have := m_68 (L := L) (S := S) (d := d) 16 0 (G + 1 - 18) (empM μ') (by omega)
      rw [show G + 1 - 18 + 16 + 1 = G by omega] at this
      exact this
    · exact ((filk_out (by omega)).trans (empM_o (by omega))).trans ht
    · exact (filk_out (by omega)).trans (empM_0 (by omega))
    · exact (filk_out (by omega)).trans (empM_o (by omega))
  · refine ⟨nI W, μ, μ', s, W3, cW, by rw [eW]; exact nW, fun F d hF hd => ?_, fun F d hF hd => ⟨F - 1, by omega, ?_⟩, h, FC.rf, FM.rf, ht, hs, Nat.le_refl _, rfl⟩
    · simp only [eW, rW, if_neg c]
    · obtain ⟨G, rfl, hG⟩ := fz (show 29 + 1 ≤ F by omega)
      obtain ⟨d, rfl, hd'⟩ := fz hd
      rw [e161_46t, if_pos hp]
      simp only [W3, if_neg nW, rW, if_neg c, Nat.add_sub_cancel]
theorem p_round (h : R n q w z 1000 j b μ μ') {t s : Nat} (ht : μ' (2, 0, 1) 1 = nI t) (hs : μ' (2, 0, 1) 11 = nI s) (ht2 : t < 2 ^ 31) : ∃ (μ1 μ1' : Mm) (s1 : Nat), (∀ F d, 21 ≤ F → 3 ≤ d → run L S F d 40 0 [some (vR (1, j, 0))] μ = some (0, μ1)) ∧
    (∀ F d, 31 ≤ F → 1 ≤ d → ∃ F', F ≤ F' + 19 ∧ run L S F d 161 0 [some (vR (2, 0, 0)), none, none] μ' = RestM L S F' (d - 1) μ1') ∧ R n q w z 1000 j b μ1 μ1' ∧ FC j μ μ1 ∧ FM 0 μ' μ1' ∧ μ1' (2, 0, 1) 1 = nI t ∧ μ1' (2, 0, 1) 11 = nI s1 ∧ s1 ≤ s ∧ μ1' (2, 0, 1) 15 = μ' (2, 0, 1) 15 := by
  have ctm : μ (1, j, 0) 5 = nI t := h.tm.trans ht
  by_cases t0 : t = 0
  · subst t0
    refine ⟨μ, μ', s, fun F d hF hd => ?_, fun F d hF hd => ⟨F - 2, by omega, ?_⟩, h, FC.rf, FM.rf, ht, hs, Nat.le_refl _, rfl⟩
    · obtain ⟨F, rfl, hF'⟩ := fz (show 1 ≤ F by omega)
      obtain ⟨d, rfl, hd'⟩ := fz (show 1 ≤ d by omega)
      rw [e40_0, ctm, if_pos (by decide)]
    · obtain ⟨G, rfl, hG⟩ := fz (show 30 + 1 ≤ F by omega)
      obtain ⟨d, rfl, hd'⟩ := fz hd
      obtain ⟨G, rfl, hG⟩ := fz (show 29 + 1 ≤ G by omega)
      rw [e161_0]
      simp only [ht]
      rw [if_neg (by decide), e161_46t, if_neg (by decide)]
      rfl
  · obtain ⟨E, E1, E2, E3⟩ := h.tn 7 4 99 (by decide) rfl rfl
    have E3 : μ' (2, 0, 1) 34 = nI E := E3
    have cE : μ (1, j, 1) 7 = nI E := (h.term (by decide)).trans E3
    have eE : mmax 1 (nI E) = nI E := mmax1 (by omega) (by omega)
    have nE : ¬ nI E = 0 := nI_ne0 (by omega) (by omega)
    have rE : nI t - nI t / nI E * nI E = nI (t % E) := pk_rem ht2 (by omega) (by omega)
    have hp : (0 : Int32) < nI t := nI_lt (a := 0) (by omega) ht2
    have t0' : ¬ nI t = 0 := nI_ne0 (by omega) ht2
    by_cases c : nI (t % E) = 0
    · obtain ⟨k, k1, k2⟩ := h.rg.2.2.2.2.2.2.2.1
      have c6 : μ (1, j, 0) 6 = nI k := (h.1.1 0 6 6 rfl (by omega)).trans k2
      have h1 := h.w0 (k := 6) (i := 6) (v := nI (min 99 (k + 1))) rfl (Or.inl rfl) (fun x => absurd x (by decide)) (fun _ => ⟨min 99 (k + 1), Nat.min_le_left _ _, rfl⟩)
      obtain ⟨wn, μ1, μ1', s1, a0, a1, a2, a3, a4, a5, a6, a7, a8, a9, a10, a11⟩ := p_round2 (L := L) (S := S) h1 (t := t) (s := s) (by rw [mset_gk (by decide)]; exact ht) (by rw [mset_gk (by decide)]; exact hs) ht2 t0
      rw [mset_go (by decide)] at a1
      refine ⟨μ1, μ1', s1, fun F d hF hd => ?_, fun F d hF hd => ?_, a5, (FC.rf.set).tr a6, (FM.rf.set (by omega)).tr a7, a8, a9, a10, a11.trans (mset_gk (by decide))⟩
      · obtain ⟨F, rfl, hF'⟩ := fz (show 20 + 1 ≤ F by omega)
        obtain ⟨d, rfl, hd'⟩ := fz (show 2 + 1 ≤ d by omega)
        rw [e40_0, ctm, if_neg t0']
        simp only [cE, eE, if_neg nE, rE, if_pos c, c6, min99 k1, mset_gk (show (5 : Nat) ≠ 6 by decide), ctm, mset_go (show (1 : Nat) ≠ 0 by decide), a1, if_neg a2]
        exact a3 F d (by omega) (by omega)
      · obtain ⟨G, rfl, hG⟩ := fz (show 30 + 1 ≤ F by omega)
        obtain ⟨F', f1, f2⟩ := a4 G d (by omega) hd
        obtain ⟨d, rfl, hd'⟩ := fz hd
        refine ⟨F', by omega, ?_⟩
        rw [e161_0]
        simp only [ht, if_pos hp, E3, if_neg nE, rE, if_pos c, k2, nI_1]
        by_cases c9 : k = 99
        · subst c9
          rw [if_neg (by decide)]
          rw [mset_id (μ := μ') (q := (2, 0, 1)) (k := 6) (v := nI (min 99 (99 + 1))) (by rw [k2]; rfl)] at f2
          exact f2
        · rw [if_pos (show nI k < 99 from nI_lt (b := 99) (by omega) (by decide))]
          rw [Nat.min_eq_right (by omega)] at f2
          exact f2
    · obtain ⟨wn, μ1, μ1', s1, a0, a1, a2, a3, a4, a5, a6, a7, a8, a9, a10, a11⟩ := p_round2 (L := L) (S := S) h ht hs ht2 t0
      refine ⟨μ1, μ1', s1, fun F d hF hd => ?_, fun F d hF hd => ?_, a5, a6, a7, a8, a9, a10, a11⟩
      · obtain ⟨F, rfl, hF'⟩ := fz (show 20 + 1 ≤ F by omega)
        obtain ⟨d, rfl, hd'⟩ := fz (show 2 + 1 ≤ d by omega)
        rw [e40_0, ctm, if_neg t0']
        simp only [cE, eE, if_neg nE, rE, if_neg c, a1, if_neg a2]
        exact a3 F d (by omega) (by omega)
      · obtain ⟨G, rfl, hG⟩ := fz (show 30 + 1 ≤ F by omega)
        obtain ⟨F', f1, f2⟩ := a4 G d (by omega) hd
        obtain ⟨d, rfl, hd'⟩ := fz hd
        refine ⟨F', by omega, ?_⟩
        rw [e161_0]
        simp only [ht, if_pos hp, E3, if_neg nE, rE, if_neg c]
        exact f2
theorem p_tick (h : R n q w z 1000 j b μ μ') {t s : Nat} (ht : μ' (2, 0, 1) 1 = nI t) (hs : μ' (2, 0, 1) 11 = nI s) (hst : s ≤ t) (ht2 : t + 1 < 2 ^ 31) : ∃ (q1 w1 : Nat) (μ1 μ1' : Mm) (s1 : Nat), (∀ F d, 130 ≤ F → 7 ≤ d → run L S F d 39 0 [some (vR (1, j, 0)), none] μ = some (0, μ1)) ∧ (∀ F d, 200 ≤ F → 11 ≤ d → run L S F d 161 0 [some (vR (2, 0, 0)), none, none] μ' = some (0, μ1')) ∧ R n q1 w1 z 1000 j b μ1 μ1' ∧ FCo j μ μ1 ∧ FMo 12 μ' μ1' ∧ μ1' (2, 0, 1) 1 = nI (t + 1) ∧ μ1' (2, 0, 1) 11 = nI s1 ∧ s1 ≤ t + 1 ∧ LWp j w w1 μ μ' μ1 μ1' := by
  obtain ⟨ν, ν', s1, a1, a2, a3, a4, a5, a6, a7, a8, a9⟩ := p_round (L := L) (S := S) h ht hs (by omega)
  have c8 : ν (1, j, 0) 8 = ν' (2, 0, 1) 8 := a3.lc 0 8 8 rfl (by omega)
  obtain ⟨v1, v2⟩ := a3.rg.2.2.2.2.2.1
  by_cases c : ν' (2, 0, 1) 8 = 0
  · obtain ⟨so, f, ξ, ξ', b1, b2, b3, b4, q1, w1, b5, b6, b7, b8, b9, b10⟩ := p_begins (L := L) (S := S) a3 a7 (by omega)
    obtain ⟨μ1, μ1', d1, d2, d3, d4, d5, d6, d7, d8⟩ := p_tail (L := L) (S := S) b5
    have hs2 : ∃ s2, μ1' (2, 0, 1) 11 = nI s2 ∧ s2 ≤ t + 1 := by
      rcases b8 with x | x
      · exact ⟨s1, d7.trans (x.trans a7), by omega⟩
      · exact ⟨s1 + 1, d7.trans x, by omega⟩
    obtain ⟨s2, e1, e2⟩ := hs2
    refine ⟨q1, w1, μ1, μ1', s2, fun F d hF hd => ?_, fun F d hF hd => ?_, d3, a4.o.tr (b6.tr d4.o), a5.o.tr (b7.tr d5.o), ?_, e1, e2, ?_⟩
    · obtain ⟨F, rfl, hF'⟩ := fz hF
      obtain ⟨d, rfl, hd'⟩ := fz hd
      have n0 : ¬ (0 : Int32) < 0 := by decide
      rw [e39_0]
      simp only [a1 F d (by omega) (by omega), Option.bind_some, b1 F d (by omega), c8, c, if_neg n0, b2 F d (by omega)]
      rcases b3 with ⟨rfl, x⟩ | ⟨rfl, x⟩ | ⟨rfl, x⟩ | ⟨rfl, rfl⟩
      · simp only [if_true, x F d (by omega) (by omega), Option.bind_some, d1 F (d + 1) (by omega) (by omega)]
      · simp only [show ¬ (1 : Int32) = 0 by decide, if_false, if_true, x F d (by omega) (by omega), Option.bind_some, d1 F (d + 1) (by omega) (by omega)]
      · simp only [show ¬ (2 : Int32) = 0 by decide, show ¬ (2 : Int32) = 1 by decide, if_false, if_true, x F d (by omega) (by omega), Option.bind_some, d1 F (d + 1) (by omega) (by omega)]
      · simp only [show ¬ (3 : Int32) = 0 by decide, show ¬ (3 : Int32) = 1 by decide, show ¬ (3 : Int32) = 2 by decide, if_false, d1 F (d + 1) (by omega) (by omega)]
    · obtain ⟨F', f1, f2⟩ := a2 F d (by omega) (by omega)
      rw [f2]
      unfold RestM
      rw [if_pos c, b4 F' (d - 1) (by omega) (by omega)]
      exact d2
    · rw [d6, b9, a6, nI_1]
    · rcases b10 with ⟨x1, x2, x3⟩ | ⟨x1, wt, x2, x3, x4⟩
      · exact Or.inl ⟨x1, by rw [d4.2, x2, a4.2], by rw [d8, x3, a9]⟩
      · exact Or.inr ⟨x1, wt, by rw [d4.2, x2, a4.2], by rw [d8, x3, a9], by rw [d5.2.2.1 10 (by decide), x4]⟩
  · obtain ⟨μ1, μ1', d1, d2, d3, d4, d5, d6, d7, d8⟩ := p_tail (L := L) (S := S) a3
    have p8 : (0 : Int32) < ν' (2, 0, 1) 8 := by
      refine Int32.lt_iff_toInt_lt.mpr ?_
      have z0 : (0 : Int32).toInt = 0 := rfl
      have ne : (ν' (2, 0, 1) 8).toInt ≠ 0 := fun x => c (Int32.toInt_inj.mp x)
      omega
    refine ⟨q, w, μ1, μ1', s1, fun F d hF hd => ?_, fun F d hF hd => ?_, d3, a4.o.tr d4.o, (a5.o.tr d5.o).le (by decide), by rw [d6, a6, nI_1], d7.trans a7, by omega, Or.inl ⟨rfl, by rw [d4.2, a4.2], by rw [d8, a9]⟩⟩
    · obtain ⟨F, rfl, hF'⟩ := fz hF
      obtain ⟨d, rfl, hd'⟩ := fz hd
      rw [e39_0]
      simp only [a1 F d (by omega) (by omega), Option.bind_some, s_first a3 (show 102 ≤ F by omega), c8, if_pos p8, show ¬ (3 : Int32) = 0 by decide, show ¬ (3 : Int32) = 1 by decide, show ¬ (3 : Int32) = 2 by decide, if_false, d1 F (d + 1) (by omega) (by omega)]
    · obtain ⟨F', f1, f2⟩ := a2 F d (by omega) (by omega)
      rw [f2]
      unfold RestM
      rw [if_neg c]
      exact d2
end TI
