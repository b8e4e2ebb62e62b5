/-! the calls that only tell, one by one -/
section PQ
variable {L : Nat} {S : Ad → Nat → Int32} {d n q w m t s T T1 : Nat} {z : Int32} {i j j1 : Fin 15} {b b1 : Bool} {μ μ' μ1 μ1' μ2 : Mm} {f g : Nat → Int32} {a1 a2 : Int32} {ν : Mm}
theorem q_open (h : Inv T μ μ') : ∃ ν n q w t s, mset μ' (2, 0, 0) 0 0 = ν ∧ Bx n q w t s 0 false μ ν ∧ w ≤ 48 ∧ t ≤ T ∧ LG 0 μ ν := by
  obtain ⟨n, q, w, t, s, h1, h2, h3, h4⟩ := h.1.th
  exact ⟨_, n, q, w, t, s, rfl, h1, h2, h3, h4⟩
theorem pub_n {k k' : Nat} {l l' : Lc} {ν : Mm} (h : Inv T μ μ') (e : mset μ' (2, 0, 0) 0 0 = ν) (x : Int32) (hc : Ev (fun F => run L S F 30 k 0 l μ) (x, μ)) (hm : Ev (fun F => run L S F 30 k' 0 l' μ') (x, ν)) : PubR L S T k k' l l' μ μ' :=
  pub_q h x hc (by
    have e2 : th0 μ' = ν := e
    rw [e2]
    exact hm)
theorem lt0 {x : Int32} : x < 0 ↔ x.toInt < 0 := by
  rw [Int32.lt_iff_toInt_lt]
  rfl
theorem lt_l {x : Int32} {k : Nat} (hk : k < 2 ^ 31) : x < nI k ↔ x.toInt < k := by
  rw [Int32.lt_iff_toInt_lt, nI_toInt hk]
theorem l_lt {x : Int32} {k : Nat} (hk : k < 2 ^ 31) : nI k < x ↔ (k : Int) < x.toInt := by
  rw [Int32.lt_iff_toInt_lt, nI_toInt hk]
theorem P_row (h : Inv T μ μ') : PubR L S T 95 185 [some (vR (0, 0, 0)), some (vI a1), some (vI a2)] [some (vR (2, 0, 0)), some (vI a1), some (vI a2)] μ μ' := by
  obtain ⟨ν, n, q, w, t, s, e1, hB, hw, ht, hl⟩ := q_open h
  have hR := hB.1
  have hN := hR.hn
  rcases row_cases a1 n hN.2.2.2 with c | ⟨r, hr, rfl, c⟩
  · refine pub_n h e1 (-2) (Ev.step ?_) (Ev.step ?_)
    · simp only [e95_0]
      refine Ev.bind (ev_has hR a1) ?_
      simp only [if_neg c, if_true]
      exact Ev.ret
    · simp only [e185_0, e1]
      refine Ev.bind (ev_isRow hR a1) ?_
      simp only [if_neg c, if_true]
      exact Ev.ret
  · by_cases c0 : a2 = 0
    · subst c0
      have gc : μ (1, 0, 3) r = ν (2, 0, 1) (44 + r) := hR.lc 3 r (44 + r) (by simp [loc, hr]) (by omega)
      refine pub_n h e1 (ν (2, 0, 1) (44 + r)) (Ev.step ?_) (Ev.step ?_)
      · simp only [e95_0]
        refine Ev.bind (ev_has hR (nI r)) ?_
        simp only [if_pos c, i1, if_false, if_true]
        simp only [inb_n (show r < 16 by omega) (by decide), cond_true, nI_clamp (show r < 2 ^ 31 by omega), gc]
        exact Ev.ret
      · simp only [e185_0, e1]
        refine Ev.bind (ev_isRow hR (nI r)) ?_
        simp only [if_pos c, i1, if_false, if_true]
        simp only [a44, inb_n (show 44 + r < 1278 by omega) (by decide), cond_true, nI_clamp (show 44 + r < 2 ^ 31 by omega)]
        exact Ev.ret
    · by_cases c1 : a2 = 1
      · subst c1
        have gc : μ (1, 0, 5) r = ν (2, 0, 1) (60 + r) := hR.lc 5 r (60 + r) (by simp [loc, hr]) (by omega)
        refine pub_n h e1 (ν (2, 0, 1) (60 + r)) (Ev.step ?_) (Ev.step ?_)
        · simp only [e95_0]
          refine Ev.bind (ev_has hR (nI r)) ?_
          simp only [if_pos c, i1, show ¬ (1 : Int32) = 0 by decide, if_false, if_true]
          simp only [inb_n (show r < 16 by omega) (by decide), cond_true, nI_clamp (show r < 2 ^ 31 by omega), gc]
          exact Ev.ret
        · simp only [e185_0, e1]
          refine Ev.bind (ev_isRow hR (nI r)) ?_
          simp only [if_pos c, i1, show ¬ (1 : Int32) = 0 by decide, if_false, if_true]
          simp only [a60, inb_n (show 60 + r < 1278 by omega) (by decide), cond_true, nI_clamp (show 60 + r < 2 ^ 31 by omega)]
          exact Ev.ret
      · by_cases c2 : a2 = 2
        · subst c2
          have gc : μ (1, 0, 6) r = ν (2, 0, 1) (76 + r) := hR.lc 6 r (76 + r) (by simp [loc, hr]) (by omega)
          refine pub_n h e1 (ν (2, 0, 1) (76 + r)) (Ev.step ?_) (Ev.step ?_)
          · simp only [e95_0]
            refine Ev.bind (ev_has hR (nI r)) ?_
            simp only [if_pos c, i1, show ¬ (2 : Int32) = 0 by decide, show ¬ (2 : Int32) = 1 by decide, if_false, if_true]
            simp only [inb_n (show r < 16 by omega) (by decide), cond_true, nI_clamp (show r < 2 ^ 31 by omega), gc]
            exact Ev.ret
          · simp only [e185_0, e1]
            refine Ev.bind (ev_isRow hR (nI r)) ?_
            simp only [if_pos c, i1, show ¬ (2 : Int32) = 0 by decide, show ¬ (2 : Int32) = 1 by decide, if_false, if_true]
            simp only [a76, inb_n (show 76 + r < 1278 by omega) (by decide), cond_true, nI_clamp (show 76 + r < 2 ^ 31 by omega)]
            exact Ev.ret
        · by_cases c3 : a2 = 3
          · subst c3
            have gc : μ (1, 0, 7) r = ν (2, 0, 1) (92 + r) := hR.lc 7 r (92 + r) (by simp [loc, hr]) (by omega)
            refine pub_n h e1 (ν (2, 0, 1) (92 + r)) (Ev.step ?_) (Ev.step ?_)
            · simp only [e95_0]
              refine Ev.bind (ev_has hR (nI r)) ?_
              simp only [if_pos c, i1, show ¬ (3 : Int32) = 0 by decide, show ¬ (3 : Int32) = 1 by decide, show ¬ (3 : Int32) = 2 by decide, if_false, if_true]
              simp only [inb_n (show r < 16 by omega) (by decide), cond_true, nI_clamp (show r < 2 ^ 31 by omega), gc]
              exact Ev.ret
            · simp only [e185_0, e1]
              refine Ev.bind (ev_isRow hR (nI r)) ?_
              simp only [if_pos c, i1, show ¬ (3 : Int32) = 0 by decide, show ¬ (3 : Int32) = 1 by decide, show ¬ (3 : Int32) = 2 by decide, if_false, if_true]
              simp only [a92, inb_n (show 92 + r < 1278 by omega) (by decide), cond_true, nI_clamp (show 92 + r < 2 ^ 31 by omega)]
              exact Ev.ret
          · by_cases c4 : a2 = 4
            · subst c4
              have gc : μ (1, 0, 2) 1 = ν (2, 0, 1) 12 := hR.lc 2 1 12 rfl (by omega)
              refine pub_n h e1 ((ν (2, 0, 1) 12 >>> (nI r &&& 31)) &&& 1) (Ev.step ?_) (Ev.step ?_)
              · simp only [e95_0]
                refine Ev.bind (ev_has hR (nI r)) ?_
                simp only [if_pos c, i1, show ¬ (4 : Int32) = 0 by decide, show ¬ (4 : Int32) = 1 by decide, show ¬ (4 : Int32) = 2 by decide, show ¬ (4 : Int32) = 3 by decide, if_false, if_true]
                simp only [gc]
                exact Ev.ret
              · simp only [e185_0, e1]
                refine Ev.bind (ev_isRow hR (nI r)) ?_
                simp only [if_pos c, i1, show ¬ (4 : Int32) = 0 by decide, show ¬ (4 : Int32) = 1 by decide, show ¬ (4 : Int32) = 2 by decide, show ¬ (4 : Int32) = 3 by decide, if_false, if_true]
                exact Ev.ret
            · by_cases c5 : a2 = 5
              · subst c5
                obtain ⟨x, x1, x2⟩ := p_count (L := L) (S := S) (d := 20) hR hr
                refine pub_n h e1 (x) (Ev.step ?_) (Ev.step ?_)
                · simp only [e95_0]
                  refine Ev.bind (ev_has hR (nI r)) ?_
                  simp only [if_pos c, i1, show ¬ (5 : Int32) = 0 by decide, show ¬ (5 : Int32) = 1 by decide, show ¬ (5 : Int32) = 2 by decide, show ¬ (5 : Int32) = 3 by decide, show ¬ (5 : Int32) = 4 by decide, if_false, if_true]
                  exact Ev.bind (x1.dp (by omega)) Ev.ret
                · simp only [e185_0, e1]
                  refine Ev.bind (ev_isRow hR (nI r)) ?_
                  simp only [if_pos c, i1, show ¬ (5 : Int32) = 0 by decide, show ¬ (5 : Int32) = 1 by decide, show ¬ (5 : Int32) = 2 by decide, show ¬ (5 : Int32) = 3 by decide, show ¬ (5 : Int32) = 4 by decide, if_false, if_true]
                  exact Ev.bind (x2.dp (by omega)) Ev.ret
              · by_cases c6 : a2 = 6
                · subst c6
                  have hq := Nat.le_trans hR.qu.2.1 hN.2.2.2
                  have x1 := Ev.at (f := fun F => run L S F 29 31 0 [some (vR (1, 0, 21)), some (vI (nI r)), none] μ) 20 (fun F hF => s_find hF ((hR.lc 21 0 4 rfl (by omega)).trans hR.qu.1) hq)
                  have x2 := Ev.at (f := fun F => run L S F 29 151 0 [some (vR (2, 0, 0)), some (vI (nI r)), none] ν) 20 (fun F hF => m_find hF hR.qu.1 hq)
                  rw [hR.find] at x1
                  refine pub_n h e1 (fnd (fun k => decide (ν (2, 0, 1) (212 + k) = nI r)) q 0) (Ev.step ?_) (Ev.step ?_)
                  · simp only [e95_0]
                    refine Ev.bind (ev_has hR (nI r)) ?_
                    simp only [if_pos c, i1, show ¬ (6 : Int32) = 0 by decide, show ¬ (6 : Int32) = 1 by decide, show ¬ (6 : Int32) = 2 by decide, show ¬ (6 : Int32) = 3 by decide, show ¬ (6 : Int32) = 4 by decide, show ¬ (6 : Int32) = 5 by decide, if_false, if_true]
                    exact Ev.bind x1 Ev.ret
                  · simp only [e185_0, e1]
                    refine Ev.bind (ev_isRow hR (nI r)) ?_
                    simp only [if_pos c, i1, show ¬ (6 : Int32) = 0 by decide, show ¬ (6 : Int32) = 1 by decide, show ¬ (6 : Int32) = 2 by decide, show ¬ (6 : Int32) = 3 by decide, show ¬ (6 : Int32) = 4 by decide, show ¬ (6 : Int32) = 5 by decide, if_false, if_true]
                    exact Ev.bind x2 Ev.ret
                · skip
                  refine pub_n h e1 (-2) (Ev.step ?_) (Ev.step ?_)
                  · simp only [e95_0]
                    refine Ev.bind (ev_has hR (nI r)) ?_
                    simp only [if_pos c, i1, if_neg c0, if_neg c1, if_neg c2, if_neg c3, if_neg c4, if_neg c5, if_neg c6, if_false]
                    exact Ev.ret
                  · simp only [e185_0, e1]
                    refine Ev.bind (ev_isRow hR (nI r)) ?_
                    simp only [if_pos c, i1, if_neg c0, if_neg c1, if_neg c2, if_neg c3, if_neg c4, if_neg c5, if_neg c6, if_false]
                    exact Ev.ret
theorem P_data (h : Inv T μ μ') : PubR L S T 97 186 [some (vR (0, 0, 0)), some (vI a1), some (vI a2)] [some (vR (2, 0, 0)), some (vI a1), some (vI a2)] μ μ' := by
  obtain ⟨ν, n, q, w, t, s, e1, hB, hw, ht, hl⟩ := q_open h
  have hR := hB.1
  have hN := hR.hn
  rcases row_cases a1 n hN.2.2.2 with c | ⟨r, hr, rfl, c⟩
  · refine pub_n h e1 (-2) (Ev.step ?_) (Ev.step ?_)
    · simp only [e97_0]
      refine Ev.bind (ev_has hR a1) ?_
      simp only [if_neg c, if_true]
      exact Ev.ret
    · simp only [e186_0, e1]
      refine Ev.bind (ev_isRow hR a1) ?_
      simp only [if_neg c, if_true]
      exact Ev.ret
  · by_cases c0 : a2 = 0
    · subst c0
      have gc : μ (1, 0, 8) r = ν (2, 0, 1) (124 + r) := hR.lc 8 r (124 + r) (by simp [loc, hr]) (by omega)
      refine pub_n h e1 (ν (2, 0, 1) (124 + r)) (Ev.step ?_) (Ev.step ?_)
      · simp only [e97_0]
        refine Ev.bind (ev_has hR (nI r)) ?_
        simp only [if_pos c, i1, if_false, if_true]
        simp only [inb_n (show r < 16 by omega) (by decide), cond_true, nI_clamp (show r < 2 ^ 31 by omega), gc]
        exact Ev.ret
      · simp only [e186_0, e1]
        refine Ev.bind (ev_isRow hR (nI r)) ?_
        simp only [if_pos c, i1, if_false, if_true]
        simp only [a124, inb_n (show 124 + r < 1278 by omega) (by decide), cond_true, nI_clamp (show 124 + r < 2 ^ 31 by omega)]
        exact Ev.ret
    · by_cases c1 : a2 = 1
      · subst c1
        have gc : μ (1, 0, 9) r = ν (2, 0, 1) (140 + r) := hR.lc 9 r (140 + r) (by simp [loc, hr]) (by omega)
        refine pub_n h e1 (ν (2, 0, 1) (140 + r)) (Ev.step ?_) (Ev.step ?_)
        · simp only [e97_0]
          refine Ev.bind (ev_has hR (nI r)) ?_
          simp only [if_pos c, i1, show ¬ (1 : Int32) = 0 by decide, if_false, if_true]
          simp only [inb_n (show r < 16 by omega) (by decide), cond_true, nI_clamp (show r < 2 ^ 31 by omega), gc]
          exact Ev.ret
        · simp only [e186_0, e1]
          refine Ev.bind (ev_isRow hR (nI r)) ?_
          simp only [if_pos c, i1, show ¬ (1 : Int32) = 0 by decide, if_false, if_true]
          simp only [a140, inb_n (show 140 + r < 1278 by omega) (by decide), cond_true, nI_clamp (show 140 + r < 2 ^ 31 by omega)]
          exact Ev.ret
      · by_cases c2 : a2 = 2
        · subst c2
          have gc : μ (1, 0, 10) r = ν (2, 0, 1) (156 + r) := hR.lc 10 r (156 + r) (by simp [loc, hr]) (by omega)
          refine pub_n h e1 (ν (2, 0, 1) (156 + r)) (Ev.step ?_) (Ev.step ?_)
          · simp only [e97_0]
            refine Ev.bind (ev_has hR (nI r)) ?_
            simp only [if_pos c, i1, show ¬ (2 : Int32) = 0 by decide, show ¬ (2 : Int32) = 1 by decide, if_false, if_true]
            simp only [inb_n (show r < 16 by omega) (by decide), cond_true, nI_clamp (show r < 2 ^ 31 by omega), gc]
            exact Ev.ret
          · simp only [e186_0, e1]
            refine Ev.bind (ev_isRow hR (nI r)) ?_
            simp only [if_pos c, i1, show ¬ (2 : Int32) = 0 by decide, show ¬ (2 : Int32) = 1 by decide, if_false, if_true]
            simp only [a156, inb_n (show 156 + r < 1278 by omega) (by decide), cond_true, nI_clamp (show 156 + r < 2 ^ 31 by omega)]
            exact Ev.ret
        · by_cases c3 : a2 = 3
          · subst c3
            obtain ⟨m, m1, m2, m3⟩ := hR.wrong hr
            refine pub_n h e1 (nI m) (Ev.step ?_) (Ev.step ?_)
            · simp only [e97_0]
              refine Ev.bind (ev_has hR (nI r)) ?_
              simp only [if_pos c, i1, show ¬ (3 : Int32) = 0 by decide, show ¬ (3 : Int32) = 1 by decide, show ¬ (3 : Int32) = 2 by decide, if_false, if_true]
              simp only [inb_n (show r < 16 by omega) (by decide), cond_true, nI_clamp (show r < 2 ^ 31 by omega)]
              refine Ev.bind (Ev.at 1 (fun F hF => s_bc hF)) ?_
              simp only [m2]
              exact Ev.ret
            · simp only [e186_0, e1]
              refine Ev.bind (ev_isRow hR (nI r)) ?_
              simp only [if_pos c, i1, show ¬ (3 : Int32) = 0 by decide, show ¬ (3 : Int32) = 1 by decide, show ¬ (3 : Int32) = 2 by decide, if_false, if_true]
              refine Ev.bind (Ev.at 11 (fun F hF => s_wrongIn hF (by omega) (show r < 16 by omega))) ?_
              simp only [m3]
              exact Ev.ret
          · by_cases c4 : a2 = 4
            · subst c4
              have gc : μ (1, 0, 2) 2 = ν (2, 0, 1) 26 := hR.lc 2 2 26 rfl (by omega)
              refine pub_n h e1 ((ν (2, 0, 1) 26 >>> (nI r &&& 31)) &&& 1) (Ev.step ?_) (Ev.step ?_)
              · simp only [e97_0]
                refine Ev.bind (ev_has hR (nI r)) ?_
                simp only [if_pos c, i1, show ¬ (4 : Int32) = 0 by decide, show ¬ (4 : Int32) = 1 by decide, show ¬ (4 : Int32) = 2 by decide, show ¬ (4 : Int32) = 3 by decide, if_false, if_true]
                simp only [gc]
                exact Ev.ret
              · simp only [e186_0, e1]
                refine Ev.bind (ev_isRow hR (nI r)) ?_
                simp only [if_pos c, i1, show ¬ (4 : Int32) = 0 by decide, show ¬ (4 : Int32) = 1 by decide, show ¬ (4 : Int32) = 2 by decide, show ¬ (4 : Int32) = 3 by decide, if_false, if_true]
                exact Ev.ret
            · skip
              refine pub_n h e1 (-2) (Ev.step ?_) (Ev.step ?_)
              · simp only [e97_0]
                refine Ev.bind (ev_has hR (nI r)) ?_
                simp only [if_pos c, i1, if_neg c0, if_neg c1, if_neg c2, if_neg c3, if_neg c4, if_false]
                exact Ev.ret
              · simp only [e186_0, e1]
                refine Ev.bind (ev_isRow hR (nI r)) ?_
                simp only [if_pos c, i1, if_neg c0, if_neg c1, if_neg c2, if_neg c3, if_neg c4, if_false]
                exact Ev.ret
theorem P_at (h : Inv T μ μ') : PubR L S T 96 187 [some (vR (0, 0, 0)), some (vI a1)] [some (vR (2, 0, 0)), some (vI a1)] μ μ' := by
  obtain ⟨ν, n, q, w, t, s, e1, hB, hw, ht, hl⟩ := q_open h
  have hR := hB.1
  have hN := hR.hn
  rcases row_cases a1 n hN.2.2.2 with c | ⟨p, hp, rfl, c⟩
  · refine pub_n h e1 (-2) (Ev.step ?_) (Ev.step ?_)
    · simp only [e96_0]
      refine Ev.bind (ev_has hR a1) ?_
      simp only [if_neg c, if_true]
      exact Ev.ret
    · simp only [e187_0, e1]
      refine Ev.bind (ev_isRow hR a1) ?_
      simp only [if_neg c, if_true]
      exact Ev.ret
  · obtain ⟨r, hr, h1, h2, hu⟩ := hR.at hp
    refine pub_n h e1 (nI r) (Ev.step ?_) (Ev.step ?_)
    · simp only [e96_0]
      refine Ev.bind (ev_has hR (nI p)) ?_
      simp only [if_pos c, i1, if_false, inb_n (show p < 16 by omega) (by decide), cond_true, nI_clamp (show p < 2 ^ 31 by omega), h1]
      exact Ev.ret
    · simp only [e187_0, e1]
      refine Ev.bind (ev_isRow hR (nI p)) ?_
      simp only [if_pos c, i1, if_false]
      exact Ev.bind (Ev.at 18 (fun F hF => s_rowAt hF hN.2.2.2 hr h2 hu)) Ev.ret
theorem P_spill (h : Inv T μ μ') : PubR L S T 99 189 [some (vR (0, 0, 0))] [some (vR (2, 0, 0))] μ μ' := by
  obtain ⟨ν, n, q, w, t, s, e1, hB, hw, ht, hl⟩ := q_open h
  have hR := hB.1
  have g2 : μ (1, 0, 1) 2 = ν (2, 0, 1) 29 := hR.term (by decide)
  have g3 : μ (1, 0, 11) 0 = ν (2, 0, 1) 3 := hR.lc 11 0 3 rfl (by omega)
  by_cases c : ν (2, 0, 1) 29 = 0
  · refine pub_n h e1 (ν (2, 0, 1) 3) (Ev.step ?_) (Ev.step ?_)
    · simp only [e99_0, g2, if_pos c, g3]
      exact Ev.ret
    · simp only [e189_0, e1, if_pos c]
      exact Ev.ret
  · refine pub_n h e1 (-1) (Ev.step ?_) (Ev.step ?_)
    · simp only [e99_0, g2, if_neg c]
      exact Ev.ret
    · simp only [e189_0, e1, if_neg c]
      exact Ev.ret
theorem nn_cases (x : Int32) : x < 0 ∨ ∃ k : Nat, k < 2 ^ 31 ∧ x = nI k := by
  by_cases c : x.toInt < 0
  · exact Or.inl (lt0.mpr c)
  · have := Int32.toInt_lt x
    exact Or.inr ⟨x.toInt.toNat, by omega, nI_toNat (by omega)⟩
theorem wi_t {x lo hi : Int32} (c : lo.toInt ≤ x.toInt ∧ x.toInt ≤ hi.toInt) : ¬ x < lo ∧ ¬ hi < x := by
  rw [Int32.lt_iff_toInt_lt, Int32.lt_iff_toInt_lt]
  omega
theorem wi_f {x lo hi : Int32} (c : ¬ (lo.toInt ≤ x.toInt ∧ x.toInt ≤ hi.toInt)) : x < lo ∨ (¬ x < lo ∧ hi < x) := by
  rw [Int32.lt_iff_toInt_lt, Int32.lt_iff_toInt_lt]
  omega
theorem P_queued (h : Inv T μ μ') : PubR L S T 100 190 [some (vR (0, 0, 0)), some (vI a1)] [some (vR (2, 0, 0)), some (vI a1)] μ μ' := by
  obtain ⟨ν, n, q, w, t, s, e1, hB, hw, ht, hl⟩ := q_open h
  have hR := hB.1
  have hN := hR.hn
  have hq := hR.qu.2.1
  have g2 : μ (1, 0, 21) 0 = nI q := (hR.lc 21 0 4 rfl (by omega)).trans hR.qu.1
  rcases nn_cases a1 with c | ⟨k, hk, rfl⟩
  · refine pub_n h e1 (-3) (Ev.step ?_) (Ev.step ?_)
    · simp only [e100_0, if_pos c]
      exact Ev.ret
    · simp only [e190_0, e1, if_pos c]
      exact Ev.ret
  · by_cases c2 : k < q
    · refine pub_n h e1 (ν (2, 0, 1) (212 + k)) (Ev.step ?_) (Ev.step ?_)
      · simp only [e100_0, if_neg (nI_pos hk), g2, if_pos (nI_lt c2 (show q < 2 ^ 31 by omega)), inb_n (show k < 16 by omega) (by decide), cond_true, nI_clamp hk, (hR.qu.2.2.1 k c2).1]
        exact Ev.ret
      · simp only [e190_0, e1, if_neg (nI_pos hk), hR.qu.1, if_pos (nI_lt c2 (show q < 2 ^ 31 by omega)), a212, inb_n (show 212 + k < 1278 by omega) (by decide), cond_true, nI_clamp (show 212 + k < 2 ^ 31 by omega)]
        exact Ev.ret
    · refine pub_n h e1 (-1) (Ev.step ?_) (Ev.step ?_)
      · simp only [e100_0, if_neg (nI_pos hk), g2, if_neg (nI_nlt (show q ≤ k by omega) hk)]
        exact Ev.ret
      · simp only [e190_0, e1, if_neg (nI_pos hk), hR.qu.1, if_neg (nI_nlt (show q ≤ k by omega) hk)]
        exact Ev.ret
theorem P_request (h : Inv T μ μ') : PubR L S T 101 191 [some (vR (0, 0, 0)), some (vI a1)] [some (vR (2, 0, 0)), some (vI a1)] μ μ' := by
  obtain ⟨ν, n, q, w, t, s, e1, hB, hw, ht, hl⟩ := q_open h
  have hR := hB.1
  rcases nn_cases a1 with c | ⟨k, hk, rfl⟩
  · refine pub_n h e1 (-3) (Ev.step ?_) (Ev.step ?_)
    · simp only [e101_0, if_pos c]
      exact Ev.ret
    · simp only [e191_0, e1, if_pos c]
      exact Ev.ret
  · by_cases c2 : k < w
    · refine pub_n h e1 (ν (2, 0, 1) (228 + k)) (Ev.step ?_) (Ev.step ?_)
      · simp only [e101_0, if_neg (nI_pos hk), hR.w5 rfl, if_pos (nI_lt c2 (show w < 2 ^ 31 by omega)), inb_n (show k < 99 by omega) (by decide), cond_true, nI_clamp hk, (hR.wt.2.2 k c2).1]
        exact Ev.ret
      · simp only [e191_0, e1, if_neg (nI_pos hk), hR.wt.1, if_pos (nI_lt c2 (show w < 2 ^ 31 by omega)), a228, inb_n (show 228 + k < 1278 by omega) (by decide), cond_true, nI_clamp (show 228 + k < 2 ^ 31 by omega)]
        exact Ev.ret
    · refine pub_n h e1 (-1) (Ev.step ?_) (Ev.step ?_)
      · simp only [e101_0, if_neg (nI_pos hk), hR.w5 rfl, if_neg (nI_nlt (show w ≤ k by omega) hk)]
        exact Ev.ret
      · simp only [e191_0, e1, if_neg (nI_pos hk), hR.wt.1, if_neg (nI_nlt (show w ≤ k by omega) hk)]
        exact Ev.ret
def oal (f : Nat → Int32) (k : Int32) : Nat → Nat → Int32 → Int32
  | 0, _, a => a
  | m + 1, r, a => oal f k m (r + 1) (if f r < k then a else a ||| ((1 : Int32) <<< (nI r &&& 31)))
theorem oal_bt (f : Nat → Int32) (k : Int32) : ∀ (m r : Nat) (a : Int32), r + m ≤ 16 → (∀ i, r ≤ i → i < 32 → bt a i = false) → ∀ i, r + m ≤ i → i < 32 → bt (oal f k m r a) i = false
  | 0, r, a, _, h, i, h1, h2 => h i h1 h2
  | m + 1, r, a, hr, h, i, h1, h2 => by
    unfold oal
    refine oal_bt f k m (r + 1) _ (by omega) (fun i' a1 a2 => ?_) i (by omega) h2
    split
    · exact h i' (by omega) a2
    · rw [b_or, h i' (by omega) a2, bt_shl1 (by omega) a2]
      simp
      omega
theorem s_oal_go (h : R n q w z 1000 j b μ ν) (x : Int32) : ∀ (m r : Nat) (a : Int32), r + m = n → Ev (fun F => run L S F d 11 4 [some (vR (1, j, 2)), some (vI x), some (vI a), some (vI (nI r))] μ) (oal (fun i => ν (2, 0, 1) (76 + i)) x m r a, μ) := by
  have hN := h.hn
  intro m
  induction m with
  | zero =>
    intro r a hr
    have hr : r = n := by omega
    subst hr
    refine Ev.step ?_
    simp only [e11_4, hN.1, if_neg (nI_nlt (Nat.le_refl r) (show r < 2 ^ 31 by omega))]
    exact Ev.ret
  | succ m ih =>
    intro r a hr
    have gc : μ (1, j, 6) r = ν (2, 0, 1) (76 + r) := h.lc 6 r (76 + r) (by simp [loc, show r < n by omega]) (by omega)
    refine Ev.step ?_
    simp only [e11_4, hN.1, if_pos (nI_lt (show r < n by omega) (show n < 2 ^ 31 by omega)), inb_n (show r < 16 by omega) (by decide), cond_true, nI_clamp (show r < 2 ^ 31 by omega), gc, nI_1]
    unfold oal
    by_cases c : ν (2, 0, 1) (76 + r) < x
    · simp only [if_pos c]
      exact ih (r + 1) a (by omega)
    · simp only [if_neg c]
      exact ih (r + 1) _ (by omega)
theorem s_oal (h : R n q w z 1000 j b μ ν) (x : Int32) : Ev (fun F => run L S F d 11 0 [some (vR (1, j, 2)), some (vI x), none, none] μ) (oal (fun i => ν (2, 0, 1) (76 + i)) x n 0 0, μ) := by
  refine Ev.step ?_
  simp only [e11_0]
  exact s_oal_go h x n 0 0 (by omega)
theorem m_oal_go (h : R n q w z 1000 j b μ ν) (x : Int32) : ∀ (m r : Nat) (a : Int32), r + m = n → Ev (fun F => run L S F d 192 4 [some (vR (2, 0, 0)), some (vI x), some (vI a), some (vI (nI r))] ν) (oal (fun i => ν (2, 0, 1) (76 + i)) x m r a, ν) := by
  have hN := h.hn
  intro m
  induction m with
  | zero =>
    intro r a hr
    have hr : r = n := by omega
    subst hr
    refine Ev.step ?_
    simp only [e192_4, hN.2.1, if_neg (nI_nlt (Nat.le_refl r) (show r < 2 ^ 31 by omega))]
    exact Ev.ret
  | succ m ih =>
    intro r a hr
    refine Ev.step ?_
    simp only [e192_4, hN.2.1, if_pos (nI_lt (show r < n by omega) (show n < 2 ^ 31 by omega)), a76, inb_n (show 76 + r < 1278 by omega) (by decide), cond_true, nI_clamp (show 76 + r < 2 ^ 31 by omega), nI_1, Int32.or_zero]
    unfold oal
    by_cases c : ν (2, 0, 1) (76 + r) < x
    · simp only [if_pos c]
      exact ih (r + 1) a (by omega)
    · simp only [if_neg c]
      exact ih (r + 1) _ (by omega)
theorem m_oal (h : R n q w z 1000 j b μ ν) (x : Int32) : Ev (fun F => run L S F d 192 0 [some (vR (2, 0, 0)), some (vI x), none, none] ν) (oal (fun i => ν (2, 0, 1) (76 + i)) x n 0 0, ν) := by
  refine Ev.step ?_
  simp only [e192_0]
  exact m_oal_go h x n 0 0 (by omega)
theorem P_often (h : Inv T μ μ') : PubR L S T 102 193 [some (vR (0, 0, 0)), some (vI a1)] [some (vR (2, 0, 0)), some (vI a1)] μ μ' := by
  obtain ⟨ν, n, q, w, t, s, e1, hB, hw, ht, hl⟩ := q_open h
  have hR := hB.1
  by_cases c : (1 : Int32).toInt ≤ a1.toInt ∧ a1.toInt ≤ (999 : Int32).toInt
  · obtain ⟨c1, c2⟩ := wi_t c
    refine pub_n h e1 (oal (fun i => ν (2, 0, 1) (76 + i)) a1 n 0 0) (Ev.step ?_) (Ev.step ?_)
    · simp only [e102_0, if_neg c1, if_neg c2]
      exact Ev.bind (s_oal hR a1) Ev.ret
    · simp only [e193_0, e1]
      refine Ev.bind ev_within ?_
      simp only [if_pos c, i1, if_false]
      exact Ev.bind (m_oal hR a1) Ev.ret
  · refine pub_n h e1 (-3) (Ev.step ?_) (Ev.step ?_)
    · rcases wi_f c with c1 | ⟨c1, c2⟩
      · simp only [e102_0, if_pos c1]
        exact Ev.ret
      · simp only [e102_0, if_neg c1, if_pos c2]
        exact Ev.ret
    · simp only [e193_0, e1]
      refine Ev.bind ev_within ?_
      simp only [if_neg c, if_true]
      exact Ev.ret
theorem P_spent (h : Inv T μ μ') : PubR L S T 105 196 [some (vR (0, 0, 0)), some (vI a1)] [some (vR (2, 0, 0)), some (vI a1)] μ μ' := by
  obtain ⟨ν, n, q, w, t, s, e1, hB, hw, ht, hl⟩ := q_open h
  have hR := hB.1
  have hwi : ∀ k, k < 2 ^ 31 → ((0 : Int32).toInt ≤ (nI k).toInt ∧ (nI k).toInt ≤ (3 : Int32).toInt ↔ k < 4) := fun k hk => by
    rw [nI_toInt hk]
    have x0 : (0 : Int32).toInt = 0 := rfl
    have x3 : (3 : Int32).toInt = 3 := rfl
    omega
  rcases nn_cases a1 with c | ⟨k, hk, rfl⟩
  · have c' : ¬ ((0 : Int32).toInt ≤ a1.toInt ∧ a1.toInt ≤ (3 : Int32).toInt) := fun x => by
      have := lt0.mp c
      have x0 : (0 : Int32).toInt = 0 := rfl
      omega
    refine pub_n h e1 (-2) (Ev.step ?_) (Ev.step ?_)
    · simp only [e105_0, if_pos c]
      exact Ev.ret
    · simp only [e196_0, e1]
      refine Ev.bind ev_within ?_
      simp only [if_neg c', if_true]
      exact Ev.ret
  · by_cases c2 : k < 4
    · have gc : μ (1, 0, 23) k = ν (2, 0, 1) (22 + k) := hR.lc 23 k (22 + k) (by simp [loc, c2]) (by omega)
      refine pub_n h e1 (ν (2, 0, 1) (22 + k)) (Ev.step ?_) (Ev.step ?_)
      · simp only [e105_0, if_neg (nI_pos hk), if_pos (show nI k < (4 : Int32) from nI_lt (b := 4) c2 (by decide)), inb_n c2 (show 4 < 2 ^ 31 by decide), cond_true, nI_clamp hk, gc]
        exact Ev.ret
      · simp only [e196_0, e1]
        refine Ev.bind ev_within ?_
        simp only [if_pos ((hwi k hk).mpr c2), i1, if_false, a22, inb_n (show 22 + k < 1278 by omega) (by decide), cond_true, nI_clamp (show 22 + k < 2 ^ 31 by omega)]
        exact Ev.ret
    · refine pub_n h e1 (-2) (Ev.step ?_) (Ev.step ?_)
      · simp only [e105_0, if_neg (nI_pos hk), if_neg (show ¬ nI k < (4 : Int32) from nI_nlt (b := 4) (by omega) hk)]
        exact Ev.ret
      · simp only [e196_0, e1]
        refine Ev.bind ev_within ?_
        simp only [if_neg (fun x => c2 ((hwi k hk).mp x)), if_true]
        exact Ev.ret
theorem a13 (r : Nat) : (13 : Int32) + nI r = nI (13 + r) := by rw [← nI_add]; rfl
theorem P_told (h : Inv T μ μ') : PubR L S T 106 197 [some (vR (0, 0, 0)), some (vI a1)] [some (vR (2, 0, 0)), some (vI a1)] μ μ' := by
  obtain ⟨ν, n, q, w, t, s, e1, hB, hw, ht, hl⟩ := q_open h
  have hR := hB.1
  have hwi : ∀ k, k < 2 ^ 31 → ((0 : Int32).toInt ≤ (nI k).toInt ∧ (nI k).toInt ≤ (8 : Int32).toInt ↔ k < 9) := fun k hk => by
    rw [nI_toInt hk]
    have x0 : (0 : Int32).toInt = 0 := rfl
    have x3 : (8 : Int32).toInt = 8 := rfl
    omega
  rcases nn_cases a1 with c | ⟨k, hk, rfl⟩
  · have c' : ¬ ((0 : Int32).toInt ≤ a1.toInt ∧ a1.toInt ≤ (8 : Int32).toInt) := fun x => by
      have := lt0.mp c
      have x0 : (0 : Int32).toInt = 0 := rfl
      omega
    refine pub_n h e1 (-2) (Ev.step ?_) (Ev.step ?_)
    · simp only [e106_0, if_pos c]
      exact Ev.ret
    · simp only [e197_0, e1]
      refine Ev.bind ev_within ?_
      simp only [if_neg c', if_true]
      exact Ev.ret
  · by_cases c2 : k < 9
    · have gc : μ (1, 0, 24) k = ν (2, 0, 1) (13 + k) := by
        by_cases k2 : k = 2
        · subst k2
          exact hl
        · by_cases k3 : k = 3
          · subst k3
            have := hR.hz
            rw [Int32.add_zero] at this
            exact this.symm
          · exact hR.1.1 24 k (13 + k) (by simp [loc, c2, k2, k3]) (by omega)
      refine pub_n h e1 (ν (2, 0, 1) (13 + k)) (Ev.step ?_) (Ev.step ?_)
      · simp only [e106_0, if_neg (nI_pos hk), if_pos (show nI k < (9 : Int32) from nI_lt (b := 9) c2 (by decide)), inb_n c2 (show 9 < 2 ^ 31 by decide), cond_true, nI_clamp hk, gc]
        exact Ev.ret
      · simp only [e197_0, e1]
        refine Ev.bind ev_within ?_
        simp only [if_pos ((hwi k hk).mpr c2), i1, if_false, a13, inb_n (show 13 + k < 1278 by omega) (by decide), cond_true, nI_clamp (show 13 + k < 2 ^ 31 by omega)]
        exact Ev.ret
    · refine pub_n h e1 (-2) (Ev.step ?_) (Ev.step ?_)
      · simp only [e106_0, if_neg (nI_pos hk), if_neg (show ¬ nI k < (9 : Int32) from nI_nlt (b := 9) (by omega) hk)]
        exact Ev.ret
      · simp only [e197_0, e1]
        refine Ev.bind ev_within ?_
        simp only [if_neg (fun x => c2 ((hwi k hk).mp x)), if_true]
        exact Ev.ret
theorem cou (h : R n q w z 1000 0 b μ ν) : ∃ x, Ev (fun F => run L S F d 107 0 [some (vR (0, 0, 0))] μ) (x, μ) ∧ Ev (fun F => run L S F d 198 0 [some (vR (2, 0, 0))] ν) (x, ν) := by
  obtain ⟨o, o1, o2, o3⟩ := h.tn 6 1 9 (by decide) rfl rfl
  have o3 : ν (2, 0, 1) 33 = nI o := o3
  have g5 : μ (1, 0, 1) 5 = ν (2, 0, 1) 32 := h.term (by decide)
  have g6 : μ (1, 0, 1) 6 = nI o := (h.term (by decide)).trans o3
  refine ⟨ν (2, 0, 1) 32 / nI o, Ev.step ?_, Ev.step ?_⟩
  · simp only [e107_0, g5, g6, mmax1 o1 (show o < 2 ^ 31 by omega), if_neg (nI_ne0 (show 0 < o by omega) (show o < 2 ^ 31 by omega))]
    exact Ev.ret
  · simp only [e198_0, o3, if_neg (nI_ne0 (show 0 < o by omega) (show o < 2 ^ 31 by omega))]
    exact Ev.ret
theorem P_could (h : Inv T μ μ') : PubR L S T 107 199 [some (vR (0, 0, 0))] [some (vR (2, 0, 0))] μ μ' := by
  obtain ⟨ν, n, q, w, t, s, e1, hB, hw, ht, hl⟩ := q_open h
  obtain ⟨x, x1, x2⟩ := cou (L := L) (S := S) (d := 29) hB.1
  refine pub_n h e1 x (x1.dp (by omega)) (Ev.step ?_)
  simp only [e199_0, e1]
  exact Ev.bind x2 Ev.ret
theorem P_least (h : Inv T μ μ') : PubR L S T 108 200 [some (vR (0, 0, 0))] [some (vR (2, 0, 0))] μ μ' := by
  obtain ⟨ν, n, q, w, t, s, e1, hB, hw, ht, hl⟩ := q_open h
  have hR := hB.1
  obtain ⟨x, x1, x2⟩ := cou (L := L) (S := S) (d := 29) hR
  obtain ⟨o, o1, o2, o3⟩ := hR.tn 4 1 99 (by decide) rfl rfl
  have o3 : ν (2, 0, 1) 31 = nI o := o3
  have g4 : μ (1, 0, 1) 4 = nI o := (hR.term (by decide)).trans o3
  refine pub_n h e1 (x / nI o) (Ev.step ?_) (Ev.step ?_)
  · simp only [e108_0]
    refine Ev.bind x1 ?_
    simp only [g4, mmax1 o1 (show o < 2 ^ 31 by omega), if_neg (nI_ne0 (show 0 < o by omega) (show o < 2 ^ 31 by omega))]
    exact Ev.ret
  · simp only [e200_0, e1]
    refine Ev.bind x2 ?_
    simp only [o3, if_neg (nI_ne0 (show 0 < o by omega) (show o < 2 ^ 31 by omega))]
    exact Ev.ret
theorem P_fault (h : Inv T μ μ') : PubR L S T 88 180 [some (vR (0, 0, 0)), some (vI a1)] [some (vR (2, 0, 0)), some (vI a1)] μ μ' := by
  obtain ⟨f1, f2⟩ := h.th.2.2.2.2.1
  obtain ⟨ν, n, q, w, t, s, e1, hB, hw, ht, hl⟩ := q_open h
  have e2 : th0 μ' = ν := e1
  rw [e2] at f1 f2
  by_cases c0 : a1 = 0
  · refine pub_n h e1 (ν (2, 0, 0) 17) (Ev.step ?_) (Ev.step ?_)
    · simp only [e88_0, if_pos c0, f1]
      exact Ev.ret
    · simp only [e180_0, e1, if_pos c0]
      exact Ev.ret
  · by_cases c1 : a1 = 1
    · refine pub_n h e1 (ν (2, 0, 0) 18) (Ev.step ?_) (Ev.step ?_)
      · simp only [e88_0, if_neg c0, if_pos c1, f2]
        exact Ev.ret
      · simp only [e180_0, e1, if_neg c0, if_pos c1]
        exact Ev.ret
    · refine pub_n h e1 (-1) (Ev.step ?_) (Ev.step ?_)
      · simp only [e88_0, if_neg c0, if_neg c1]
        exact Ev.ret
      · simp only [e180_0, e1, if_neg c0, if_neg c1]
        exact Ev.ret
theorem P_count (h : Inv T μ μ') : PubR L S T 126 226 [some (vR (0, 0, 0)), some (vI a1)] [some (vR (2, 0, 0)), some (vI a1)] μ μ' := by
  obtain ⟨hd, len, h1, h2, h4, h5, h6, h7⟩ := h.th.2.1
  obtain ⟨tl, t1, t3, t4, t5⟩ := h.th.2.2.2.1
  obtain ⟨ν, n, q, w, t, s, e1, hB, hw, ht, hl⟩ := q_open h
  have e2 : th0 μ' = ν := e1
  rw [e2] at h6 t4
  have hR := hB.1
  by_cases c : (10 : Int32).toInt ≤ a1.toInt ∧ a1.toInt ≤ (26 : Int32).toInt
  · have x10 : (10 : Int32).toInt = 10 := rfl
    have x26 : (26 : Int32).toInt = 26 := rfl
    have c' := c
    rw [x10, x26] at c'
    obtain ⟨k, hk, rfl⟩ : ∃ k, k < 17 ∧ a1 = nI (10 + k) := ⟨a1.toInt.toNat - 10, by omega, by rw [show 10 + (a1.toInt.toNat - 10) = a1.toInt.toNat by omega]; exact nI_toNat (by omega)⟩
    have d1 : nI (10 + k) - 10 = nI k := by
      rw [Nat.add_comm, ← nI_add]
      exact Int32.add_sub_cancel _ _
    have d2 : (27 + nI (10 + k)) - 10 = nI (27 + k) := by
      rw [Nat.add_comm 10 k, ← nI_add, ← Int32.add_assoc, show nI 10 = (10 : Int32) from rfl, Int32.add_sub_cancel, ← nI_add]
      rfl
    refine pub_n h e1 (ν (2, 0, 1) (27 + k)) (Ev.step ?_) (Ev.step ?_)
    · simp only [e126_0, if_neg (show ¬ nI (10 + k) < (10 : Int32) from nI_nlt (b := 10) (by omega) (by omega)), if_pos (show nI (10 + k) < (27 : Int32) from nI_lt (b := 27) (by omega) (by decide)), d1, inb_n hk (show 17 < 2 ^ 31 by decide), cond_true, nI_clamp (show k < 2 ^ 31 by omega), hR.term hk]
      exact Ev.ret
    · simp only [e226_0, e1]
      refine Ev.bind ev_within ?_
      simp only [if_pos c, i1, if_false, d2, inb_n (show 27 + k < 1278 by omega) (by decide), cond_true, nI_clamp (show 27 + k < 2 ^ 31 by omega)]
      exact Ev.ret
  · have cls : ∀ x, Ev (fun F => run L S F 30 126 25 [some (vR (0, 0, 0)), some (vI a1)] μ) (x, μ) → Ev (fun F => run L S F 30 126 0 [some (vR (0, 0, 0)), some (vI a1)] μ) (x, μ) := fun x hx => by
      refine Ev.step ?_
      by_cases y : a1 < 10
      · simp only [e126_0, if_pos y]
        exact hx
      · have y2 : ¬ a1 < 27 := fun y3 => c (by
          have x10 : (10 : Int32).toInt = 10 := rfl
          have x26 : (26 : Int32).toInt = 26 := rfl
          have z1 := Int32.le_iff_toInt_le.mp (Int32.not_lt.mp y)
          have z2 := Int32.lt_iff_toInt_lt.mp y3
          have x27 : (27 : Int32).toInt = 27 := rfl
          omega)
        simp only [e126_0, if_neg y, if_neg y2]
        exact hx
    by_cases c0 : a1 = 0
    · subst c0
      have g : μ (1, 0, 2) 0 = ν (2, 0, 1) 0 := hR.hn.1.trans hR.hn.2.1.symm
      refine pub_n h e1 (ν (2, 0, 1) 0) (cls _ (Ev.step ?_)) (Ev.step ?_)
      · simp only [e126_25, if_true, g]
        exact Ev.ret
      · simp only [e226_0, e1]
        refine Ev.bind ev_within ?_
        simp only [if_neg c, if_true]
        exact Ev.ret
    by_cases c1 : a1 = 1
    · subst c1
      have g : μ (1, 0, 0) 5 = ν (2, 0, 1) 1 := hR.tm
      refine pub_n h e1 (ν (2, 0, 1) 1) (cls _ (Ev.step ?_)) (Ev.step ?_)
      · simp only [e126_25, show ¬ (1 : Int32) = 0 by decide, if_false, if_true, g]
        exact Ev.ret
      · simp only [e226_0, e1]
        refine Ev.bind ev_within ?_
        simp only [if_neg c, show ¬ (1 : Int32) = 0 by decide, if_false, if_true]
        exact Ev.ret
    by_cases c2 : a1 = 2
    · subst c2
      have g : μ (1, 0, 18) 0 = ν (2, 0, 1) 5 := (hR.w5 rfl).trans hR.wt.1.symm
      refine pub_n h e1 (ν (2, 0, 1) 5) (cls _ (Ev.step ?_)) (Ev.step ?_)
      · simp only [e126_25, show ¬ (2 : Int32) = 0 by decide, show ¬ (2 : Int32) = 1 by decide, if_false, if_true, g]
        exact Ev.ret
      · simp only [e226_0, e1]
        refine Ev.bind ev_within ?_
        simp only [if_neg c, show ¬ (2 : Int32) = 0 by decide, show ¬ (2 : Int32) = 1 by decide, if_false, if_true]
        exact Ev.ret
    by_cases c3 : a1 = 3
    · subst c3
      have g : μ (1, 0, 21) 0 = ν (2, 0, 1) 4 := hR.lc 21 0 4 rfl (by omega)
      refine pub_n h e1 (ν (2, 0, 1) 4) (cls _ (Ev.step ?_)) (Ev.step ?_)
      · simp only [e126_25, show ¬ (3 : Int32) = 0 by decide, show ¬ (3 : Int32) = 1 by decide, show ¬ (3 : Int32) = 2 by decide, if_false, if_true, g]
        exact Ev.ret
      · simp only [e226_0, e1]
        refine Ev.bind ev_within ?_
        simp only [if_neg c, show ¬ (3 : Int32) = 0 by decide, show ¬ (3 : Int32) = 1 by decide, show ¬ (3 : Int32) = 2 by decide, if_false, if_true]
        exact Ev.ret
    by_cases c4 : a1 = 4
    · subst c4
      have g : μ (1, 0, 0) 6 = ν (2, 0, 1) 6 := hR.1.1 0 6 6 rfl (by omega)
      refine pub_n h e1 (ν (2, 0, 1) 6) (cls _ (Ev.step ?_)) (Ev.step ?_)
      · simp only [e126_25, show ¬ (4 : Int32) = 0 by decide, show ¬ (4 : Int32) = 1 by decide, show ¬ (4 : Int32) = 2 by decide, show ¬ (4 : Int32) = 3 by decide, if_false, if_true, g]
        exact Ev.ret
      · simp only [e226_0, e1]
        refine Ev.bind ev_within ?_
        simp only [if_neg c, show ¬ (4 : Int32) = 0 by decide, show ¬ (4 : Int32) = 1 by decide, show ¬ (4 : Int32) = 2 by decide, show ¬ (4 : Int32) = 3 by decide, if_false, if_true]
        exact Ev.ret
    by_cases c5 : a1 = 5
    · subst c5
      have g : μ (1, 0, 0) 8 = ν (2, 0, 1) 8 := hR.lc 0 8 8 rfl (by omega)
      refine pub_n h e1 (ν (2, 0, 1) 8) (cls _ (Ev.step ?_)) (Ev.step ?_)
      · simp only [e126_25, show ¬ (5 : Int32) = 0 by decide, show ¬ (5 : Int32) = 1 by decide, show ¬ (5 : Int32) = 2 by decide, show ¬ (5 : Int32) = 3 by decide, show ¬ (5 : Int32) = 4 by decide, if_false, if_true, g]
        exact Ev.ret
      · simp only [e226_0, e1]
        refine Ev.bind ev_within ?_
        simp only [if_neg c, show ¬ (5 : Int32) = 0 by decide, show ¬ (5 : Int32) = 1 by decide, show ¬ (5 : Int32) = 2 by decide, show ¬ (5 : Int32) = 3 by decide, show ¬ (5 : Int32) = 4 by decide, if_false, if_true]
        exact Ev.ret
    by_cases c6 : a1 = 6
    · subst c6
      have g : μ (1, 0, 0) 9 = ν (2, 0, 1) 10 := hR.lc 0 9 10 rfl (by omega)
      refine pub_n h e1 (ν (2, 0, 1) 10) (cls _ (Ev.step ?_)) (Ev.step ?_)
      · simp only [e126_25, show ¬ (6 : Int32) = 0 by decide, show ¬ (6 : Int32) = 1 by decide, show ¬ (6 : Int32) = 2 by decide, show ¬ (6 : Int32) = 3 by decide, show ¬ (6 : Int32) = 4 by decide, show ¬ (6 : Int32) = 5 by decide, if_false, if_true, g]
        exact Ev.ret
      · simp only [e226_0, e1]
        refine Ev.bind ev_within ?_
        simp only [if_neg c, show ¬ (6 : Int32) = 0 by decide, show ¬ (6 : Int32) = 1 by decide, show ¬ (6 : Int32) = 2 by decide, show ¬ (6 : Int32) = 3 by decide, show ¬ (6 : Int32) = 4 by decide, show ¬ (6 : Int32) = 5 by decide, if_false, if_true]
        exact Ev.ret
    by_cases c7 : a1 = 7
    · subst c7
      have g : μ (0, 0, 4) 3 = ν (2, 0, 0) 4 := h5.trans h6.symm
      refine pub_n h e1 (ν (2, 0, 0) 4) (cls _ (Ev.step ?_)) (Ev.step ?_)
      · simp only [e126_25, show ¬ (7 : Int32) = 0 by decide, show ¬ (7 : Int32) = 1 by decide, show ¬ (7 : Int32) = 2 by decide, show ¬ (7 : Int32) = 3 by decide, show ¬ (7 : Int32) = 4 by decide, show ¬ (7 : Int32) = 5 by decide, show ¬ (7 : Int32) = 6 by decide, if_false, if_true, g]
        exact Ev.ret
      · simp only [e226_0, e1]
        refine Ev.bind ev_within ?_
        simp only [if_neg c, show ¬ (7 : Int32) = 0 by decide, show ¬ (7 : Int32) = 1 by decide, show ¬ (7 : Int32) = 2 by decide, show ¬ (7 : Int32) = 3 by decide, show ¬ (7 : Int32) = 4 by decide, show ¬ (7 : Int32) = 5 by decide, show ¬ (7 : Int32) = 6 by decide, if_false, if_true]
        exact Ev.ret
    by_cases c8 : a1 = 8
    · subst c8
      have g : μ (1, 0, 2) 1 = ν (2, 0, 1) 12 := hR.lc 2 1 12 rfl (by omega)
      refine pub_n h e1 (ν (2, 0, 1) 12) (cls _ (Ev.step ?_)) (Ev.step ?_)
      · simp only [e126_25, show ¬ (8 : Int32) = 0 by decide, show ¬ (8 : Int32) = 1 by decide, show ¬ (8 : Int32) = 2 by decide, show ¬ (8 : Int32) = 3 by decide, show ¬ (8 : Int32) = 4 by decide, show ¬ (8 : Int32) = 5 by decide, show ¬ (8 : Int32) = 6 by decide, show ¬ (8 : Int32) = 7 by decide, if_false, if_true, g]
        exact Ev.ret
      · simp only [e226_0, e1]
        refine Ev.bind ev_within ?_
        simp only [if_neg c, show ¬ (8 : Int32) = 0 by decide, show ¬ (8 : Int32) = 1 by decide, show ¬ (8 : Int32) = 2 by decide, show ¬ (8 : Int32) = 3 by decide, show ¬ (8 : Int32) = 4 by decide, show ¬ (8 : Int32) = 5 by decide, show ¬ (8 : Int32) = 6 by decide, show ¬ (8 : Int32) = 7 by decide, if_false, if_true]
        exact Ev.ret
    by_cases c9 : a1 = 9
    · subst c9
      have g : μ (0, 0, 7) 0 = ν (2, 0, 0) 12 := t3.trans t4.symm
      refine pub_n h e1 (ν (2, 0, 0) 12) (cls _ (Ev.step ?_)) (Ev.step ?_)
      · simp only [e126_25, show ¬ (9 : Int32) = 0 by decide, show ¬ (9 : Int32) = 1 by decide, show ¬ (9 : Int32) = 2 by decide, show ¬ (9 : Int32) = 3 by decide, show ¬ (9 : Int32) = 4 by decide, show ¬ (9 : Int32) = 5 by decide, show ¬ (9 : Int32) = 6 by decide, show ¬ (9 : Int32) = 7 by decide, show ¬ (9 : Int32) = 8 by decide, if_false, if_true, g]
        exact Ev.ret
      · simp only [e226_0, e1]
        refine Ev.bind ev_within ?_
        simp only [if_neg c, show ¬ (9 : Int32) = 0 by decide, show ¬ (9 : Int32) = 1 by decide, show ¬ (9 : Int32) = 2 by decide, show ¬ (9 : Int32) = 3 by decide, show ¬ (9 : Int32) = 4 by decide, show ¬ (9 : Int32) = 5 by decide, show ¬ (9 : Int32) = 6 by decide, show ¬ (9 : Int32) = 7 by decide, show ¬ (9 : Int32) = 8 by decide, if_false, if_true]
        exact Ev.ret
    by_cases c27 : a1 = 27
    · subst c27
      have g : μ (1, 0, 2) 2 = ν (2, 0, 1) 26 := hR.lc 2 2 26 rfl (by omega)
      refine pub_n h e1 (ν (2, 0, 1) 26) (cls _ (Ev.step ?_)) (Ev.step ?_)
      · simp only [e126_25, show ¬ (27 : Int32) = 0 by decide, show ¬ (27 : Int32) = 1 by decide, show ¬ (27 : Int32) = 2 by decide, show ¬ (27 : Int32) = 3 by decide, show ¬ (27 : Int32) = 4 by decide, show ¬ (27 : Int32) = 5 by decide, show ¬ (27 : Int32) = 6 by decide, show ¬ (27 : Int32) = 7 by decide, show ¬ (27 : Int32) = 8 by decide, show ¬ (27 : Int32) = 9 by decide, show ¬ (27 : Int32) = 10 by decide, show ¬ (27 : Int32) = 11 by decide, show ¬ (27 : Int32) = 12 by decide, show ¬ (27 : Int32) = 13 by decide, show ¬ (27 : Int32) = 14 by decide, show ¬ (27 : Int32) = 15 by decide, show ¬ (27 : Int32) = 16 by decide, show ¬ (27 : Int32) = 17 by decide, show ¬ (27 : Int32) = 18 by decide, show ¬ (27 : Int32) = 19 by decide, show ¬ (27 : Int32) = 20 by decide, show ¬ (27 : Int32) = 21 by decide, show ¬ (27 : Int32) = 22 by decide, show ¬ (27 : Int32) = 23 by decide, show ¬ (27 : Int32) = 24 by decide, show ¬ (27 : Int32) = 25 by decide, show ¬ (27 : Int32) = 26 by decide, if_false, if_true, g]
        exact Ev.ret
      · simp only [e226_0, e1]
        refine Ev.bind ev_within ?_
        simp only [if_neg c, show ¬ (27 : Int32) = 0 by decide, show ¬ (27 : Int32) = 1 by decide, show ¬ (27 : Int32) = 2 by decide, show ¬ (27 : Int32) = 3 by decide, show ¬ (27 : Int32) = 4 by decide, show ¬ (27 : Int32) = 5 by decide, show ¬ (27 : Int32) = 6 by decide, show ¬ (27 : Int32) = 7 by decide, show ¬ (27 : Int32) = 8 by decide, show ¬ (27 : Int32) = 9 by decide, show ¬ (27 : Int32) = 10 by decide, show ¬ (27 : Int32) = 11 by decide, show ¬ (27 : Int32) = 12 by decide, show ¬ (27 : Int32) = 13 by decide, show ¬ (27 : Int32) = 14 by decide, show ¬ (27 : Int32) = 15 by decide, show ¬ (27 : Int32) = 16 by decide, show ¬ (27 : Int32) = 17 by decide, show ¬ (27 : Int32) = 18 by decide, show ¬ (27 : Int32) = 19 by decide, show ¬ (27 : Int32) = 20 by decide, show ¬ (27 : Int32) = 21 by decide, show ¬ (27 : Int32) = 22 by decide, show ¬ (27 : Int32) = 23 by decide, show ¬ (27 : Int32) = 24 by decide, show ¬ (27 : Int32) = 25 by decide, show ¬ (27 : Int32) = 26 by decide, if_false, if_true]
        exact Ev.ret
    refine pub_n h e1 (-1) (cls _ (Ev.step ?_)) (Ev.step ?_)
    · simp only [e126_25, if_neg c0, if_neg c1, if_neg c2, if_neg c3, if_neg c4, if_neg c5, if_neg c6, if_neg c7, if_neg c8, if_neg c9, if_neg c27, ite_self]
      exact Ev.ret
    · simp only [e226_0, e1]
      refine Ev.bind ev_within ?_
      simp only [if_neg c, if_true, if_neg c0, if_neg c1, if_neg c2, if_neg c3, if_neg c4, if_neg c5, if_neg c6, if_neg c7, if_neg c8, if_neg c9, if_neg c27, ite_self]
      exact Ev.ret
end PQ
