/-! hammering, as calls -/
def KW (q : Ad) : Prop := CK q ∨ (q.1 = 1 ∧ q.2.1 = 0) ∨ 2 ≤ q.1
def PW (μ μ1 : Mm) : Prop := ∀ q, KW q → μ1 q = μ q
def RSv (ν ν2 : Mm) : Prop := (∀ i, ν2 (2, 0, 1) i = ν (2, 0, 1) i) ∧ MK ν ν2 ∧ MF ν ν2
theorem PW.rf {μ : Mm} : PW μ μ := fun _ _ => rfl
theorem PW.tr {μ μ1 μ2 : Mm} (h : PW μ μ1) (h2 : PW μ1 μ2) : PW μ μ2 := fun q hq => (h2 q hq).trans (h q hq)
theorem RSv.rf {μ : Mm} : RSv μ μ := ⟨fun _ => rfl, MK.rf, MF.rf⟩
theorem RSv.tr {μ μ1 μ2 : Mm} (h : RSv μ μ1) (h2 : RSv μ1 μ2) : RSv μ μ2 := ⟨fun i => (h2.1 i).trans (h.1 i), h.2.1.tr h2.2.1, h.2.2.tr h2.2.2⟩
theorem RSx.v {μ μ1 : Mm} (h : RSx μ μ1) : RSv μ μ1 := ⟨h.1, h.mk, h.mf⟩
theorem KW.n1 {q : Ad} (h : KW q) : ¬ (q.1 = 1 ∧ (q.2.1 = 1 ∨ q.2.1 = 2)) ∧ q ≠ (0, 0, 1) ∧ q ≠ (0, 0, 2) ∧ q ≠ (0, 0, 3) ∧ q ≠ (0, 0, 9) ∧ q ≠ (0, 0, 10) ∧ q ≠ (0, 0, 11) ∧ q ≠ (0, 0, 12) := by
  rcases h with (⟨h1, h2⟩ | rfl | rfl | rfl | rfl) | ⟨h1, h2⟩ | h1
  · refine ⟨fun x => ?_, fun e => ?_, fun e => ?_, fun e => ?_, fun e => ?_, fun e => ?_, fun e => ?_, fun e => ?_⟩
    · rcases x.2 with y | y
      · rw [y] at h2; exact absurd h2 (by decide)
      · rw [y] at h2; exact absurd h2 (by decide)
    all_goals (rw [e] at h1; exact absurd h1 (by decide))
  · exact ⟨by decide, by decide, by decide, by decide, by decide, by decide, by decide, by decide⟩
  · exact ⟨by decide, by decide, by decide, by decide, by decide, by decide, by decide, by decide⟩
  · exact ⟨by decide, by decide, by decide, by decide, by decide, by decide, by decide, by decide⟩
  · exact ⟨by decide, by decide, by decide, by decide, by decide, by decide, by decide, by decide⟩
  · refine ⟨fun x => ?_, fun e => ?_, fun e => ?_, fun e => ?_, fun e => ?_, fun e => ?_, fun e => ?_, fun e => ?_⟩
    · rw [h2] at x
      rcases x.2 with y | y
      · exact absurd y (by decide)
      · exact absurd y (by decide)
    all_goals (rw [e] at h1; exact absurd h1 (by decide))
  · refine ⟨fun x => by omega, fun e => ?_, fun e => ?_, fun e => ?_, fun e => ?_, fun e => ?_, fun e => ?_, fun e => ?_⟩
    all_goals (rw [e] at h1; exact absurd h1 (by decide))
theorem PG.w {μ μ1 : Mm} (h : PG μ μ1) : PW μ μ1 := fun q hq => h q (fun x => hq.n1.1 ⟨x.1, Or.inr x.2⟩) hq.n1.2.1 hq.n1.2.2.1 hq.n1.2.2.2.1
theorem FCo.w1 {μ μ1 : Mm} (h : FCo 1 μ μ1) : PW μ μ1 := fun q hq => h q (fun x => hq.n1.1 ⟨x.1, Or.inl x.2⟩)
section HP
variable {L : Nat} {S : Ad → Nat → Int32} {d n q w m t s T T1 l c : Nat} {z : Int32} {i j j1 : Fin 15} {b b1 : Bool} {μ μ' μ1 μ1' μ2 : Mm} {f g : Nat → Int32} {a1 a2 a3 a4 a5 : Int32} {ν ν1 ν2 : Mm}
theorem pub_p {k k' : Nat} {l l' : Lc} {x : Int32} (hT : Inv T μ ν) (e : mset μ' (2, 0, 0) 0 0 = ν) (hp : PW μ μ2) (hr : RSv ν ν2) (hc : Ev (fun F => run L S F 30 k 0 l μ) (x, μ2)) (hm : Ev (fun F => run L S F 30 k' 0 l' μ') (x, ν2)) : PubR L S T k k' l l' μ μ' :=
  ⟨x, μ2, ν2, hc, hm, hT.fr ((hT.1.fr (fun o => hp _ (Or.inr (Or.inl ⟨rfl, rfl⟩))) (fun i _ => hr.1 i)).le (by omega)) (by omega) (fun q hq => hp q (Or.inl hq)) hr.2.1, fun q hq => hp q (Or.inr (Or.inr hq)), by
    have h1 : MF μ' ν := by rw [← e]; exact MF.rf.set
    exact h1.tr hr.2.2⟩
theorem p_take (h : Bx n q w t s 0 false μ ν) (hw : w ≤ 99) : ∃ μ1, Ev (fun F => run L S F (d + 2) 49 0 [some (vR (0, 0, 1)), some (vR (1, 0, 0))] μ) (0, μ1) ∧ Ba n q t s μ1 ν ∧ FCo 1 μ μ1 := by
  have hN := h.1.hn
  have hq : q ≤ 16 := Nat.le_trans h.1.qu.2.1 hN.2.2.2
  obtain ⟨μa, a1, a2, a3⟩ := s_copy (L := L) (S := S) (d := d) (μ := μ) (i := 0) (j := 1) (w := w) (q := q) (by decide) (h.1.w5 rfl) hw ((h.1.lc 21 0 4 rfl (by omega)).trans h.1.qu.1) hq
  have hB : Bx n q w t s 1 false μa ν := h.cp a2 (fun _ _ => rfl) (fun x => by cases x)
  refine ⟨mset μa (1, 1, 18) 0 0, Ev.step ?_, hB.drop, a3.set⟩
  simp only [e49_0]
  exact Ev.bind a1 Ev.ret
theorem HAB.sv {r a c : Nat} {x : Int32} (h : HAB L S d r x a c μ') (hm : ∀ k, k < 426 → k ≠ 5 → μ1' (2, 0, 1) k = μ' (2, 0, 1) k) : HAB L S d r x a c μ1' := fun ν m v hν hv => h ν m v (fun k a b => (hν k a b).trans (hm k a b)) hv
theorem Ba.sv (h : Ba n q t s μ μ') (hc : PG μ μ1) (hm : RSv μ' μ1') : Ba n q t s μ1 μ1' :=
  h.fr (fun o => hc _ (fun x => absurd x.2 (show ¬ ((1 : Fin 15) = 2) by decide)) (by simp) (by simp) (by simp)) (fun k _ _ => hm.1 k)
theorem x01 (x : Int32) : (¬ ((0 : Int32).toInt ≤ x.toInt ∧ x.toInt ≤ (1 : Int32).toInt)) ∨ ((x = 0 ∨ x = 1) ∧ ((0 : Int32).toInt ≤ x.toInt ∧ x.toInt ≤ (1 : Int32).toInt)) := by
  rcases i_cases x with c | ⟨k, hk, rfl, c⟩
  · exact Or.inl c
  · refine Or.inr ⟨?_, c⟩
    rcases (show k = 0 ∨ k = 1 by omega) with rfl | rfl
    · exact Or.inl rfl
    · exact Or.inr rfl
theorem n99 (x : Int32) : (¬ ((1 : Int32).toInt ≤ x.toInt ∧ x.toInt ≤ (99 : Int32).toInt)) ∨ ∃ M, M ≤ 99 ∧ x = nI M ∧ ((1 : Int32).toInt ≤ x.toInt ∧ x.toInt ≤ (99 : Int32).toInt) := by
  by_cases c : (1 : Int32).toInt ≤ x.toInt ∧ x.toInt ≤ (99 : Int32).toInt
  · have x1 : (1 : Int32).toInt = 1 := rfl
    have x2 : (99 : Int32).toInt = 99 := rfl
    exact Or.inr ⟨x.toInt.toNat, by omega, nI_toNat (by omega), c⟩
  · exact Or.inl c
theorem P_hammer (h : Inv T μ μ') (hT : T + 600 < 2 ^ 27) : PubR L S T 109 205 [some (vR (0, 0, 0)), some (vI a1), some (vI a2), some (vI a3)] [some (vR (2, 0, 0)), some (vI a1), some (vI a2), some (vI a3), none] μ μ' := by
  have hth := h.th
  obtain ⟨ν, n, q, w, t, s, e1, hB, hw, ht, hl0⟩ := q_open h
  have e2 : th0 μ' = ν := e1
  rw [e2] at hth
  have hR := hB.1
  have hN := hR.hn
  rcases row_cases a1 n hN.2.2.2 with c | ⟨r, hr, rfl, c⟩
  · refine pub_n h e1 (-2) (Ev.step ?_) (Ev.step ?_)
    · simp only [e109_0]
      refine Ev.bind (ev_has hR a1) ?_
      simp only [if_neg c, if_true]
      exact Ev.ret
    · simp only [e205_0, e1]
      refine Ev.bind (ev_isRow hR a1) ?_
      simp only [if_neg c, if_true]
      exact Ev.ret
  · rcases x01 a3 with v | ⟨v, v2⟩
    · refine pub_n h e1 (-2) (Ev.step ?_) (Ev.step ?_)
      · simp only [e109_0]
        refine Ev.bind (ev_has hR (nI r)) ?_
        rcases wi_f v with y | ⟨y, y2⟩
        · simp only [if_pos c, i1, if_false, if_pos y]
          exact Ev.ret
        · simp only [if_pos c, i1, if_false, if_neg y, if_pos y2]
          exact Ev.ret
      · simp only [e205_0, e1]
        refine Ev.bind (ev_isRow hR (nI r)) ?_
        simp only [if_pos c, i1, if_false]
        refine Ev.bind ev_within ?_
        simp only [if_neg v, if_true]
        exact Ev.ret
    · obtain ⟨y1, y2⟩ := wi_t v2
      rcases n99 a2 with u | ⟨M, hM, rfl, u⟩
      · refine pub_n h e1 (-3) (Ev.step ?_) (Ev.step ?_)
        · simp only [e109_0]
          refine Ev.bind (ev_has hR (nI r)) ?_
          rcases wi_f u with z1 | ⟨z1, z2⟩
          · simp only [if_pos c, i1, if_false, if_neg y1, if_neg y2, if_pos z1]
            exact Ev.ret
          · simp only [if_pos c, i1, if_false, if_neg y1, if_neg y2, if_neg z1, if_pos z2]
            exact Ev.ret
        · simp only [e205_0, e1]
          refine Ev.bind (ev_isRow hR (nI r)) ?_
          simp only [if_pos c, i1, if_false]
          refine Ev.bind ev_within ?_
          simp only [if_pos v2, i1, if_false]
          refine Ev.bind ev_within ?_
          simp only [if_neg u, if_true]
          exact Ev.ret
      · obtain ⟨z1, z2⟩ := wi_t u
        obtain ⟨μ1, p1, p2, p3⟩ := p_take (L := L) (S := S) (d := 27) hB (by omega)
        obtain ⟨a, c', ha, hc, s1, s2⟩ := p_ab (L := L) (S := S) (d := 28) p2 hr v
        have hB2 : Ba n q t s (lsM (hl (nI a) (nI c')) M μ1) ν := p2.sv lsM_g RSv.rf
        obtain ⟨vv, μ2, ν1', b1, b2, b3, b4, b5, b6, -⟩ := p_hrun (L := L) (S := S) (d := 16) (m := M) hB2 (by omega) hM ha hc (fun k hk => lsM_at hk) s2
        refine pub_p hth e1 ((p3.w1.tr lsM_g.w).tr b4.g.w) (closes_rs b5).v (Ev.step ?_) (Ev.step ?_) (x := μ2 (1, 2, 2) 3)
        · simp only [e109_0]
          refine Ev.bind (ev_has hR (nI r)) ?_
          simp only [if_pos c, i1, if_false, if_neg y1, if_neg y2, if_neg z1, if_neg z2]
          refine Ev.bind p1 (Ev.bind (s1 28 M hM) (Ev.bind (b3.dp (by omega)) ?_))
          have h54 : Ev (fun F => run L S F 29 54 0 [some (vR (0, 0, 1))] μ2) (μ2 (1, 2, 2) 3, μ2) := Ev.step (by
            simp only [e54_0]
            exact Ev.ret)
          exact Ev.bind h54 Ev.ret
        · simp only [e205_0, e1]
          refine Ev.bind (ev_isRow hR (nI r)) ?_
          simp only [if_pos c, i1, if_false]
          refine Ev.bind ev_within ?_
          simp only [if_pos v2, i1, if_false]
          refine Ev.bind ev_within ?_
          simp only [if_pos u, i1, if_false]
          refine Ev.bind (b1.dp (by omega)) (Ev.bind b2 (Ev.bind m_closes ?_))
          simp only [cpr_ne (show ((2, 0, 0) : Ad) ≠ (2, 0, 1) by decide), ← b6]
          exact Ev.ret
theorem breaks_go {r a c : Nat} {x : Int32} (ht : t + 600 < 2 ^ 27) (ha : a < n) (hc : c < n) : ∀ (m k : Nat) (μ ν : Mm), k + m = 100 → Ba n q t s μ ν → (∀ k, k < 99 → μ (0, 0, 2) k = hl (nI a) (nI c) k) → HAB L S 27 r x a c ν →
    ∃ v μ2 ν2, Ev (fun F => run L S F 30 110 50 [some (vR (0, 0, 0)), none, none, some (vI (nI k))] μ) (v, μ2) ∧ Ev (fun F => run L S F 30 207 28 [some (vR (2, 0, 0)), some (vI (nI r)), some (vI x), some (vI (nI k))] ν) (v, ν2) ∧ PG μ μ2 ∧ RSv ν ν2 := by
  intro m
  induction m with
  | zero =>
    intro k μ ν hk h hls hab
    have hk : k = 100 := by omega
    subst hk
    refine ⟨-1, μ, ν, Ev.step ?_, Ev.step ?_, PG.rf, RSv.rf⟩
    · simp only [e110_50, if_pos (show (99 : Int32) < nI 100 by decide)]
      exact Ev.ret
    · simp only [e207_28, if_pos (show (99 : Int32) < nI 100 by decide)]
      exact Ev.ret
  | succ m ih =>
    intro k μ ν hk h hls hab
    have n99 : ¬ (99 : Int32) < nI k := nI_nlt (a := 99) (by omega) (by decide)
    obtain ⟨f, μ1, ν1, b1, b2, b3, b4, b5, -⟩ := p_flipsBy (L := L) (S := S) (d := 15) (m := k) h ht (by omega) ha hc (fun i hi => hls i (by omega)) hab
    have b3 : Ev (fun F => run L S F 29 206 0 [some (vR (2, 0, 0)), some (vI (nI r)), some (vI (nI k)), some (vI x), none] ν) (f, ν1) := b3.dp (by omega)
    by_cases c0 : 0 < f
    · refine ⟨nI k, μ1, ν1, Ev.step ?_, Ev.step ?_, b4.g, b5.v⟩
      · simp only [e110_50, if_neg n99]
        refine Ev.bind (b1.dp (by omega)) (Ev.bind (b2 29) ?_)
        simp only [if_pos c0]
        exact Ev.ret
      · simp only [e207_28, if_neg n99]
        refine Ev.bind b3 ?_
        simp only [if_pos c0]
        exact Ev.ret
    · have el : μ1 (0, 0, 2) = μ (0, 0, 2) := b4 _ (fun x => absurd x.1 (by decide)) (by decide)
      obtain ⟨v, μ2, ν2, d1, d2, d3, d4⟩ := ih (k + 1) μ1 ν1 (by omega) (h.sv b4.g b5.v) (fun i hi => by rw [el]; exact hls i hi) (hab.st b5)
      refine ⟨v, μ2, ν2, Ev.step ?_, Ev.step ?_, b4.g.tr d3, b5.v.tr d4⟩
      · simp only [e110_50, if_neg n99]
        refine Ev.bind (b1.dp (by omega)) (Ev.bind (b2 29) ?_)
        simp only [if_neg c0, nI_1]
        exact d1
      · simp only [e207_28, if_neg n99]
        refine Ev.bind b3 ?_
        simp only [if_neg c0, nI_1]
        exact d2
theorem P_breaks (h : Inv T μ μ') (hT : T + 600 < 2 ^ 27) : PubR L S T 110 207 [some (vR (0, 0, 0)), some (vI a1), some (vI a2), none] [some (vR (2, 0, 0)), some (vI a1), some (vI a2), none] μ μ' := by
  have hth := h.th
  obtain ⟨ν, n, q, w, t, s, e1, hB, hw, ht, hl0⟩ := q_open h
  have e2 : th0 μ' = ν := e1
  rw [e2] at hth
  have hR := hB.1
  have hN := hR.hn
  rcases row_cases a1 n hN.2.2.2 with c | ⟨r, hr, rfl, c⟩
  · refine pub_n h e1 (-2) (Ev.step ?_) (Ev.step ?_)
    · simp only [e110_0]
      refine Ev.bind (ev_has hR a1) ?_
      simp only [if_neg c, if_true]
      exact Ev.ret
    · simp only [e207_0, e1]
      refine Ev.bind (ev_isRow hR a1) ?_
      simp only [if_neg c, if_true]
      exact Ev.ret
  · rcases x01 a2 with v | ⟨v, v2⟩
    · refine pub_n h e1 (-2) (Ev.step ?_) (Ev.step ?_)
      · simp only [e110_0]
        refine Ev.bind (ev_has hR (nI r)) ?_
        rcases wi_f v with y | ⟨y, y2⟩
        · simp only [if_pos c, i1, if_false, if_pos y]
          exact Ev.ret
        · simp only [if_pos c, i1, if_false, if_neg y, if_pos y2]
          exact Ev.ret
      · simp only [e207_0, e1]
        refine Ev.bind (ev_isRow hR (nI r)) ?_
        simp only [if_pos c, i1, if_false]
        refine Ev.bind ev_within ?_
        simp only [if_neg v, if_true]
        exact Ev.ret
    · obtain ⟨y1, y2⟩ := wi_t v2
      obtain ⟨μ1, p1, p2, p3⟩ := p_take (L := L) (S := S) (d := 27) hB (by omega)
      obtain ⟨a, c', ha, hc, s1, s2⟩ := p_ab (L := L) (S := S) (d := 27) p2 hr v
      have hB2 : Ba n q t s (lsM (hl (nI a) (nI c')) 99 μ1) ν := p2.sv lsM_g RSv.rf
      obtain ⟨x, μ2, ν2, d1, d2, d3, d4⟩ := breaks_go (L := L) (S := S) (r := r) (by omega) ha hc 99 1 _ ν (by omega) hB2 (fun k hk => lsM_at hk) s2
      refine pub_p hth e1 ((p3.w1.tr lsM_g.w).tr d3.w) d4 (Ev.step ?_) (Ev.step ?_) (x := x)
      · simp only [e110_0]
        refine Ev.bind (ev_has hR (nI r)) ?_
        simp only [if_pos c, i1, if_false, if_neg y1, if_neg y2]
        exact Ev.bind p1 (Ev.bind (s1 28 99 (by decide)) d1)
      · simp only [e207_0, e1]
        refine Ev.bind (ev_isRow hR (nI r)) ?_
        simp only [if_pos c, i1, if_false]
        refine Ev.bind ev_within ?_
        simp only [if_pos v2, i1, if_false]
        exact d2
end HP
