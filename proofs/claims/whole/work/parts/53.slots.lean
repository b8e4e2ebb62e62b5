/-! slots, rows that were missed, the most disturbed -/
section PS
variable {L : Nat} {S : Ad → Nat → Int32} {d n q w m t s T T1 : Nat} {z : Int32} {i j j1 : Fin 15} {b b1 : Bool} {μ μ' μ1 μ1' μ2 : Mm} {f g : Nat → Int32} {a1 a2 : Int32} {ν : Mm}
theorem P_slot (h : Inv T μ μ') : PubR L S T 98 188 [some (vR (0, 0, 0)), some (vI a1), some (vI a2)] [some (vR (2, 0, 0)), some (vI a1), some (vI a2), none] μ μ' := by
  obtain ⟨ν, n, q, w, t, s, e1, hB, hw, ht, hl⟩ := q_open h
  have hR := hB.1
  have hN := hR.hn
  obtain ⟨M, M1, M2, M3⟩ := hR.tn 3 1 8 (by decide) rfl rfl
  have M3 : ν (2, 0, 1) 30 = nI M := M3
  obtain ⟨gk, g1, g2, g3⟩ := hR.tn 2 0 5 (by decide) rfl rfl
  have g3 : ν (2, 0, 1) 29 = nI gk := g3
  have cM : μ (1, 0, 1) 3 = nI M := (hR.term (by decide)).trans M3
  have cg : μ (1, 0, 1) 2 = nI gk := (hR.term (by decide)).trans g3
  have eM : (nI M - 1).toInt = (M : Int) - 1 := by
    obtain ⟨M, rfl⟩ : ∃ k, M = k + 1 := ⟨M - 1, by omega⟩
    rw [nI_pred, nI_toInt (by omega)]
    omega
  have x0 : (0 : Int32).toInt = 0 := rfl
  have x1 : (1 : Int32).toInt = 1 := rfl
  by_cases c : (0 ≤ a1.toInt ∧ a1.toInt < M) ∧ (0 ≤ a2.toInt ∧ a2.toInt ≤ 1)
  · obtain ⟨k, hk, rfl⟩ : ∃ k, k < M ∧ a1 = nI k := ⟨a1.toInt.toNat, by omega, nI_toNat c.1.1⟩
    have h2 : a2 = 0 ∨ a2 = 1 := by
      have e : a2 = nI a2.toInt.toNat := nI_toNat c.2.1
      have : a2.toInt.toNat = 0 ∨ a2.toInt.toNat = 1 := by omega
      rcases this with y | y
      · exact Or.inl (e.trans (by rw [y]; rfl))
      · exact Or.inr (e.trans (by rw [y]; rfl))
    have b1 : (0 : Int32).toInt ≤ (nI k).toInt ∧ (nI k).toInt ≤ (nI M - 1).toInt := by rw [eM, x0]; omega
    have b2 : (0 : Int32).toInt ≤ a2.toInt ∧ a2.toInt ≤ (1 : Int32).toInt := by rw [x0, x1]; omega
    have n2 : ¬ a2 < 0 ∧ ¬ 1 < a2 := wi_t b2
    have r50 : ∀ x3 v, (if x3 = 0 then if a2 = 0 then some (ν (2, 0, 1) (172 + k), ν) else some (ν (2, 0, 1) (180 + k), ν) else if a2 = 0 then some (ν (2, 0, 1) (196 + k), ν) else some (ν (2, 0, 1) (204 + k), ν)) = some v → Ev (fun F => run L S F 30 188 50 [some (vR (2, 0, 0)), some (vI (nI k)), some (vI a2), some (vI x3)] ν) v := fun x3 v hv => by
      refine Ev.step ?_
      simp only [e188_50, M3]
      refine Ev.bind ev_within ?_
      simp only [if_pos b1, i1, if_false]
      refine Ev.bind ev_within ?_
      simp only [if_pos b2, i1, if_false, a172, a180, a196, a204, inb_n (show 172 + k < 1278 by omega) (by decide), inb_n (show 180 + k < 1278 by omega) (by decide), inb_n (show 196 + k < 1278 by omega) (by decide), inb_n (show 204 + k < 1278 by omega) (by decide), cond_true, nI_clamp (show 172 + k < 2 ^ 31 by omega), nI_clamp (show 180 + k < 2 ^ 31 by omega), nI_clamp (show 196 + k < 2 ^ 31 by omega), nI_clamp (show 204 + k < 2 ^ 31 by omega), hv]
      exact Ev.ret
    have c12 : μ (1, 0, 12) k = ν (2, 0, 1) (172 + k) := hR.lc 12 k (172 + k) (by simp [loc, show k < 8 by omega]) (by omega)
    have c13 : μ (1, 0, 13) k = ν (2, 0, 1) (180 + k) := hR.lc 13 k (180 + k) (by simp [loc, show k < 8 by omega]) (by omega)
    have c16 : μ (1, 0, 16) k = ν (2, 0, 1) (196 + k) := hR.lc 16 k (196 + k) (by simp [loc, show k < 8 by omega]) (by omega)
    have c17 : μ (1, 0, 17) k = ν (2, 0, 1) (204 + k) := hR.lc 17 k (204 + k) (by simp [loc, show k < 8 by omega]) (by omega)
    have cls : ∀ v, (if nI gk = 0 then (if a2 = 0 then some (ν (2, 0, 1) (172 + k), μ) else some (ν (2, 0, 1) (180 + k), μ)) else if nI gk = 1 then some (-2, μ) else if nI gk = 2 then some (-2, μ) else if nI gk = 3 then (if a2 = 0 then some (ν (2, 0, 1) (196 + k), μ) else some (ν (2, 0, 1) (204 + k), μ)) else if nI gk = 4 then (if a2 = 0 then some (ν (2, 0, 1) (172 + k), μ) else some (ν (2, 0, 1) (180 + k), μ)) else some (-2, μ)) = some v → Ev (fun F => run L S F 30 98 0 [some (vR (0, 0, 0)), some (vI (nI k)), some (vI a2)] μ) v := fun v hv => by
      refine Ev.step ?_
      simp only [e98_0, if_neg (nI_pos (show k < 2 ^ 31 by omega)), cM, if_pos (nI_lt hk (show M < 2 ^ 31 by omega)), if_pos (show nI k < (8 : Int32) from nI_lt (b := 8) (by omega) (by decide)), if_neg n2.1, if_neg n2.2, cg, inb_n (show k < 8 by omega) (by decide), cond_true, nI_clamp (show k < 2 ^ 31 by omega), c12, c13, c16, c17, hv]
      exact Ev.ret
    rcases (show gk = 0 ∨ gk = 1 ∨ gk = 2 ∨ gk = 3 ∨ gk = 4 ∨ gk = 5 by omega) with rfl | rfl | rfl | rfl | rfl | rfl
    · have g3 : ν (2, 0, 1) 29 = 0 := g3
      rcases h2 with rfl | rfl
      · refine pub_n h e1 (ν (2, 0, 1) (172 + k)) (cls _ rfl) (Ev.step ?_)
        simp only [e188_0, e1, g3, show ¬ (0 : Int32) = 3 by decide, show ¬ (0 : Int32) = 4 by decide, if_false, if_true]
        exact r50 0 _ rfl
      · refine pub_n h e1 (ν (2, 0, 1) (180 + k)) (cls _ rfl) (Ev.step ?_)
        simp only [e188_0, e1, g3, show ¬ (0 : Int32) = 3 by decide, show ¬ (0 : Int32) = 4 by decide, if_false, if_true]
        exact r50 0 _ rfl
    · have g3 : ν (2, 0, 1) 29 = 1 := g3
      refine pub_n h e1 (-2) (cls _ rfl) (Ev.step ?_)
      simp only [e188_0, e1, g3, show ¬ (1 : Int32) = 3 by decide, show ¬ (1 : Int32) = 0 by decide, show ¬ (1 : Int32) = 4 by decide, if_false]
      exact Ev.ret
    · have g3 : ν (2, 0, 1) 29 = 2 := g3
      refine pub_n h e1 (-2) (cls _ rfl) (Ev.step ?_)
      simp only [e188_0, e1, g3, show ¬ (2 : Int32) = 3 by decide, show ¬ (2 : Int32) = 0 by decide, show ¬ (2 : Int32) = 4 by decide, if_false]
      exact Ev.ret
    · have g3 : ν (2, 0, 1) 29 = 3 := g3
      rcases h2 with rfl | rfl
      · refine pub_n h e1 (ν (2, 0, 1) (196 + k)) (cls _ rfl) (Ev.step ?_)
        simp only [e188_0, e1, g3, show ¬ (3 : Int32) = 0 by decide, show ¬ (3 : Int32) = 4 by decide, if_false, if_true]
        exact r50 1 _ rfl
      · refine pub_n h e1 (ν (2, 0, 1) (204 + k)) (cls _ rfl) (Ev.step ?_)
        simp only [e188_0, e1, g3, show ¬ (3 : Int32) = 0 by decide, show ¬ (3 : Int32) = 4 by decide, if_false, if_true]
        exact r50 1 _ rfl
    · have g3 : ν (2, 0, 1) 29 = 4 := g3
      rcases h2 with rfl | rfl
      · refine pub_n h e1 (ν (2, 0, 1) (172 + k)) (cls _ rfl) (Ev.step ?_)
        simp only [e188_0, e1, g3, show ¬ (4 : Int32) = 3 by decide, show ¬ (4 : Int32) = 0 by decide, if_false, if_true]
        exact r50 0 _ rfl
      · refine pub_n h e1 (ν (2, 0, 1) (180 + k)) (cls _ rfl) (Ev.step ?_)
        simp only [e188_0, e1, g3, show ¬ (4 : Int32) = 3 by decide, show ¬ (4 : Int32) = 0 by decide, if_false, if_true]
        exact r50 0 _ rfl
    · have g3 : ν (2, 0, 1) 29 = 5 := g3
      refine pub_n h e1 (-2) (cls _ rfl) (Ev.step ?_)
      simp only [e188_0, e1, g3, show ¬ (5 : Int32) = 3 by decide, show ¬ (5 : Int32) = 0 by decide, show ¬ (5 : Int32) = 4 by decide, if_false]
      exact Ev.ret
  · have r50 : ∀ x3, Ev (fun F => run L S F 30 188 50 [some (vR (2, 0, 0)), some (vI a1), some (vI a2), some (vI x3)] ν) (-2, ν) := fun x3 => by
      refine Ev.step ?_
      simp only [e188_50, M3]
      refine Ev.bind ev_within ?_
      by_cases c1 : 0 ≤ a1.toInt ∧ a1.toInt < M
      · have b1 : (0 : Int32).toInt ≤ a1.toInt ∧ a1.toInt ≤ (nI M - 1).toInt := by rw [eM, x0]; omega
        have b2 : ¬ ((0 : Int32).toInt ≤ a2.toInt ∧ a2.toInt ≤ (1 : Int32).toInt) := by rw [x0, x1]; exact fun y => c ⟨c1, y⟩
        simp only [if_pos b1, i1, if_false]
        refine Ev.bind ev_within ?_
        simp only [if_neg b2, if_true]
        exact Ev.ret
      · have b1 : ¬ ((0 : Int32).toInt ≤ a1.toInt ∧ a1.toInt ≤ (nI M - 1).toInt) := by rw [eM, x0]; omega
        simp only [if_neg b1, if_true]
        exact Ev.ret
    have c32 : Ev (fun F => run L S F 30 98 32 [none, none, none] μ) (-2, μ) := Ev.step (by
      simp only [e98_32]
      exact Ev.ret)
    have cls : Ev (fun F => run L S F 30 98 0 [some (vR (0, 0, 0)), some (vI a1), some (vI a2)] μ) (-2, μ) := by
      refine Ev.step ?_
      by_cases y1 : a1 < 0
      · simp only [e98_0, if_pos y1]
        exact c32
      · have z1 : ¬ a1.toInt < 0 := fun x => y1 (lt0.mpr x)
        by_cases y2 : a1 < nI M
        · have z2 := (lt_l (show M < 2 ^ 31 by omega)).mp y2
          have y3 : a1 < 8 := Int32.lt_iff_toInt_lt.mpr (by
            have x8 : (8 : Int32).toInt = 8 := rfl
            omega)
          have b2 : ¬ ((0 : Int32).toInt ≤ a2.toInt ∧ a2.toInt ≤ (1 : Int32).toInt) := by rw [x0, x1]; exact fun y => c ⟨⟨by omega, z2⟩, y⟩
          rcases wi_f b2 with y4 | ⟨y4, y5⟩
          · simp only [e98_0, if_neg y1, cM, if_pos y2, if_pos y3, if_pos y4]
            exact c32
          · simp only [e98_0, if_neg y1, cM, if_pos y2, if_pos y3, if_neg y4, if_pos y5]
            exact c32
        · simp only [e98_0, if_neg y1, cM, if_neg y2]
          exact c32
    rcases (show gk = 0 ∨ gk = 1 ∨ gk = 2 ∨ gk = 3 ∨ gk = 4 ∨ gk = 5 by omega) with rfl | rfl | rfl | rfl | rfl | rfl
    · have g3 : ν (2, 0, 1) 29 = 0 := g3
      refine pub_n h e1 (-2) cls (Ev.step ?_)
      simp only [e188_0, e1, g3, show ¬ (0 : Int32) = 3 by decide, show ¬ (0 : Int32) = 4 by decide, if_false, if_true]
      exact r50 _
    · have g3 : ν (2, 0, 1) 29 = 1 := g3
      refine pub_n h e1 (-2) cls (Ev.step ?_)
      simp only [e188_0, e1, g3, show ¬ (1 : Int32) = 3 by decide, show ¬ (1 : Int32) = 0 by decide, show ¬ (1 : Int32) = 4 by decide, if_false]
      exact Ev.ret
    · have g3 : ν (2, 0, 1) 29 = 2 := g3
      refine pub_n h e1 (-2) cls (Ev.step ?_)
      simp only [e188_0, e1, g3, show ¬ (2 : Int32) = 3 by decide, show ¬ (2 : Int32) = 0 by decide, show ¬ (2 : Int32) = 4 by decide, if_false]
      exact Ev.ret
    · have g3 : ν (2, 0, 1) 29 = 3 := g3
      refine pub_n h e1 (-2) cls (Ev.step ?_)
      simp only [e188_0, e1, g3, show ¬ (3 : Int32) = 0 by decide, show ¬ (3 : Int32) = 4 by decide, if_false, if_true]
      exact r50 _
    · have g3 : ν (2, 0, 1) 29 = 4 := g3
      refine pub_n h e1 (-2) cls (Ev.step ?_)
      simp only [e188_0, e1, g3, show ¬ (4 : Int32) = 3 by decide, show ¬ (4 : Int32) = 0 by decide, if_false, if_true]
      exact r50 _
    · have g3 : ν (2, 0, 1) 29 = 5 := g3
      refine pub_n h e1 (-2) cls (Ev.step ?_)
      simp only [e188_0, e1, g3, show ¬ (5 : Int32) = 3 by decide, show ¬ (5 : Int32) = 0 by decide, show ¬ (5 : Int32) = 4 by decide, if_false]
      exact Ev.ret
theorem P_most (h : Inv T μ μ') : PubR L S T 104 195 [some (vR (0, 0, 0)), some (vI a1), none] [some (vR (2, 0, 0)), some (vI a1), none, none] μ μ' := by
  obtain ⟨ν, n, q, w, t, s, e1, hB, hw, ht, hl⟩ := q_open h
  have hR := hB.1
  have hN := hR.hn
  have c1 := s_most (L := L) (S := S) (d := 29) hN.1 (show 1 ≤ n by omega) hN.2.2.2
  have b1 := bst_lt (μ (1, 0, 5)) (n - 1) 1 0 n (by omega) (by omega)
  have gd : ∀ k, k < n → μ (1, 0, 5) k = ν (2, 0, 1) (60 + k) := fun k hk => hR.lc 5 k (60 + k) (by simp [loc, hk]) (by omega)
  have lo : ∀ (v : Rz), ∀ (m k r : Nat), k + m = n → r < n → Ev (fun F => run L S F 30 195 24 [some (vR (2, 0, 0)), some (vI a1), some (vI (nI (bst (μ (1, 0, 5)) m k r))), some (vI (nI n))] ν) v → Ev (fun F => run L S F 30 195 24 [some (vR (2, 0, 0)), some (vI a1), some (vI (nI r)), some (vI (nI k))] ν) v := by
    intro v m
    induction m with
    | zero =>
      intro k r hk hr hv
      have hk : k = n := by omega
      subst hk
      exact hv
    | succ m ih =>
      intro k r hk hr hv
      refine Ev.step ?_
      simp only [e195_24, hN.2.1, if_pos (nI_lt (show k < n by omega) (show n < 2 ^ 31 by omega)), a60, inb_n (show 60 + k < 1278 by omega) (by decide), inb_n (show 60 + r < 1278 by omega) (by decide), cond_true, nI_clamp (show 60 + k < 2 ^ 31 by omega), nI_clamp (show 60 + r < 2 ^ 31 by omega), nI_1]
      unfold bst at hv
      rw [gd r hr, gd k (by omega)] at hv
      by_cases c : ν (2, 0, 1) (60 + r) < ν (2, 0, 1) (60 + k)
      · rw [if_pos c] at hv
        simp only [if_pos c]
        exact ih (k + 1) k (by omega) (by omega) hv
      · rw [if_neg c] at hv
        simp only [if_neg c]
        exact ih (k + 1) r (by omega) hr hv
  have lo := fun v => lo v (n - 1) 1 0 (by omega) (by omega)
  generalize bst (μ (1, 0, 5)) (n - 1) 1 0 = r at c1 b1 lo
  have g0 : μ (1, 0, 1) 0 = ν (2, 0, 1) 27 := hR.term (by decide)
  have fin : ∀ v : Rz, (if a1 = 0 then some (nI r, ν) else if a1 = 1 then some (ν (2, 0, 1) (60 + r), ν) else if 0 < ν (2, 0, 1) 27 - ν (2, 0, 1) (60 + r) then some (ν (2, 0, 1) 27 - ν (2, 0, 1) (60 + r), ν) else some (0, ν)) = some v → (0 : Int32).toInt ≤ a1.toInt ∧ a1.toInt ≤ (2 : Int32).toInt → Ev (fun F => run L S F 30 195 0 [some (vR (2, 0, 0)), some (vI a1), none, none] μ') v := fun v hv hc => by
    refine Ev.step ?_
    simp only [e195_0, e1]
    refine Ev.bind ev_within ?_
    simp only [if_pos hc, i1, if_false]
    refine lo v (Ev.step ?_)
    simp only [e195_24, hN.2.1, if_neg (nI_nlt (Nat.le_refl n) (show n < 2 ^ 31 by omega)), a60, inb_n (show 60 + r < 1278 by omega) (by decide), cond_true, nI_clamp (show 60 + r < 2 ^ 31 by omega), hv]
    exact Ev.ret
  by_cases c0 : a1 = 0
  · subst c0
    refine pub_n h e1 (nI r) (Ev.step ?_) (fin _ rfl (by decide))
    simp only [e104_0]
    refine Ev.bind c1 ?_
    simp only [if_true]
    exact Ev.ret
  · by_cases c2 : a1 = 1
    · subst c2
      refine pub_n h e1 (ν (2, 0, 1) (60 + r)) (Ev.step ?_) (fin _ rfl (by decide))
      simp only [e104_0]
      refine Ev.bind c1 ?_
      simp only [i1, if_false, if_true, inb_n (show r < 16 by omega) (by decide), cond_true, nI_clamp (show r < 2 ^ 31 by omega), gd r b1]
      exact Ev.ret
    · by_cases c3 : a1 = 2
      · subst c3
        have hv : (if (2 : Int32) = 0 then some (nI r, ν) else if (2 : Int32) = 1 then some (ν (2, 0, 1) (60 + r), ν) else if 0 < ν (2, 0, 1) 27 - ν (2, 0, 1) (60 + r) then some (ν (2, 0, 1) 27 - ν (2, 0, 1) (60 + r), ν) else some (0, ν)) = some (mmax 0 (ν (2, 0, 1) 27 - ν (2, 0, 1) (60 + r)), ν) := by
          rw [if_neg (by decide), if_neg (by decide)]
          unfold mmax
          split <;> rfl
        refine pub_n h e1 (mmax 0 (ν (2, 0, 1) 27 - ν (2, 0, 1) (60 + r))) (Ev.step ?_) (fin _ hv (by decide))
        simp only [e104_0]
        refine Ev.bind c1 ?_
        simp only [show ¬ (2 : Int32) = 0 by decide, show ¬ (2 : Int32) = 1 by decide, if_false, if_true, inb_n (show r < 16 by omega) (by decide), cond_true, nI_clamp (show r < 2 ^ 31 by omega), gd r b1, g0]
        exact Ev.ret
      · have hc : ¬ ((0 : Int32).toInt ≤ a1.toInt ∧ a1.toInt ≤ (2 : Int32).toInt) := fun x => by
          have x0 : (0 : Int32).toInt = 0 := rfl
          have x2 : (2 : Int32).toInt = 2 := rfl
          have e : a1 = nI a1.toInt.toNat := nI_toNat (by omega)
          have : a1.toInt.toNat = 0 ∨ a1.toInt.toNat = 1 ∨ a1.toInt.toNat = 2 := by omega
          rcases this with y | y | y
          · exact c0 (e.trans (by rw [y]; rfl))
          · exact c2 (e.trans (by rw [y]; rfl))
          · exact c3 (e.trans (by rw [y]; rfl))
        refine pub_n h e1 (-2) (Ev.step ?_) (Ev.step ?_)
        · simp only [e104_0]
          refine Ev.bind c1 ?_
          simp only [if_neg c0, if_neg c2, if_neg c3]
          exact Ev.ret
        · simp only [e195_0, e1]
          refine Ev.bind ev_within ?_
          simp only [if_neg hc, if_true]
          exact Ev.ret
theorem bit_and1 (x : Int32) {r : Nat} (hr : r < 32) : ((x >>> (nI r &&& 31)) &&& 1) = 1 ↔ bt x r = true := bit1_bt hr
theorem P_missed (h : Inv T μ μ') : PubR L S T 103 194 [some (vR (0, 0, 0)), none, none, none, none] [some (vR (2, 0, 0)), none, none] μ μ' := by
  obtain ⟨ν, n, q, w, t, s, e1, hB, hw, ht, hl⟩ := q_open h
  have hR := hB.1
  have hN := hR.hn
  have g4 : μ (1, 0, 1) 4 = ν (2, 0, 1) 31 := hR.term (by decide)
  have c1 := s_oal (L := L) (S := S) (d := 29) hR (ν (2, 0, 1) 31)
  have m1 := m_oal (L := L) (S := S) (d := 29) hR (ν (2, 0, 1) 31)
  have ob := oal_bt (fun i => ν (2, 0, 1) (76 + i)) (ν (2, 0, 1) 31) n 0 0 (by omega) (fun i _ _ => b_0 i)
  generalize oal (fun i => ν (2, 0, 1) (76 + i)) (ν (2, 0, 1) 31) n 0 0 = o at c1 m1 ob
  have lo : ∀ (m r : Nat) (x y : Int32), r + m = n → (∀ i, i < 32 → bt x i = true → i < r) → (∀ i, i < r → bt x i = bt y i) → (∀ i, r ≤ i → i < 32 → bt y i = bt o i) → ∃ v, Ev (fun F => run L S F 30 103 24 [some (vR (0, 0, 0)), some (vI o), some (vI x), some (vI (nI r)), none] μ) (v, μ) ∧ Ev (fun F => run L S F 30 194 19 [some (vR (2, 0, 0)), some (vI y), some (vI (nI r))] ν) (v, ν) := by
    intro m
    induction m with
    | zero =>
      intro r x y hr h1 h2 h3
      have hr : r = n := by omega
      subst hr
      have exy : x = y := b_ext (fun i hi => by
        by_cases c : i < r
        · exact h2 i c
        · rw [h3 i (by omega) hi, ob i (by omega) hi]
          cases e : bt x i with
          | false => rfl
          | true => exact absurd (h1 i hi e) c)
      subst exy
      refine ⟨x, Ev.step ?_, Ev.step ?_⟩
      · simp only [e103_24, hN.1, if_neg (nI_nlt (Nat.le_refl r) (show r < 2 ^ 31 by omega))]
        exact Ev.ret
      · simp only [e194_19, hN.2.1, if_neg (nI_nlt (Nat.le_refl r) (show r < 2 ^ 31 by omega))]
        exact Ev.ret
    | succ m ih =>
      intro r x y hr h1 h2 h3
      obtain ⟨k, k1, k2⟩ := p_count (L := L) (S := S) (d := 20) hR (show r < n by omega)
      have gc : μ (1, 0, 6) r = ν (2, 0, 1) (76 + r) := hR.lc 6 r (76 + r) (by simp [loc, show r < n by omega]) (by omega)
      have ref : ∀ v y', (if k < ν (2, 0, 1) (76 + r) then y &&& (-1) else y &&& (((1 : Int32) <<< (nI r &&& 31)) ^^^ (-1))) = y' → Ev (fun F => run L S F 30 194 19 [some (vR (2, 0, 0)), some (vI y'), some (vI (nI (r + 1)))] ν) v → Ev (fun F => run L S F 30 194 19 [some (vR (2, 0, 0)), some (vI y), some (vI (nI r))] ν) v := fun v y' hy hv => by
        refine Ev.step ?_
        simp only [e194_19, hN.2.1, if_pos (nI_lt (show r < n by omega) (show n < 2 ^ 31 by omega))]
        refine Ev.bind (k2.dp (by omega)) ?_
        simp only [a76, inb_n (show 76 + r < 1278 by omega) (by decide), cond_true, nI_clamp (show 76 + r < 2 ^ 31 by omega), nI_1]
        by_cases c : k < ν (2, 0, 1) (76 + r)
        · rw [if_pos c] at hy
          simp only [if_pos c, hy]
          exact hv
        · rw [if_neg c] at hy
          simp only [if_neg c, hy]
          exact hv
      have cls : ∀ v x', (if k < ν (2, 0, 1) (76 + r) ∧ bt o r = true then x ||| ((1 : Int32) <<< (nI r &&& 31)) else x) = x' → Ev (fun F => run L S F 30 103 24 [some (vR (0, 0, 0)), some (vI o), some (vI x'), some (vI (nI (r + 1))), none] μ) v → Ev (fun F => run L S F 30 103 24 [some (vR (0, 0, 0)), some (vI o), some (vI x), some (vI (nI r)), none] μ) v := fun v x' hx hv => by
        refine Ev.step ?_
        simp only [e103_24, hN.1, if_pos (nI_lt (show r < n by omega) (show n < 2 ^ 31 by omega))]
        refine Ev.bind (k1.dp (by omega)) ?_
        simp only [inb_n (show r < 16 by omega) (by decide), cond_true, nI_clamp (show r < 2 ^ 31 by omega), gc, nI_1, bit_and1 o (show r < 32 by omega)]
        by_cases c : k < ν (2, 0, 1) (76 + r)
        · by_cases c2 : bt o r = true
          · rw [if_pos ⟨c, c2⟩] at hx
            simp only [if_pos c, if_pos c2, hx]
            exact hv
          · rw [if_neg (fun z => c2 z.2)] at hx
            simp only [if_pos c, if_neg c2, hx]
            exact hv
        · rw [if_neg (fun z => c z.1)] at hx
          by_cases c2 : bt o r = true
          · simp only [if_neg c, if_pos c2, hx]
            exact hv
          · simp only [if_neg c, if_neg c2, hx]
            exact hv
      have br : bt y r = bt o r := h3 r (by omega) (by omega)
      have bx : bt x r = false := by
        cases e : bt x r with
        | false => rfl
        | true => exact absurd (h1 r (by omega) e) (by omega)
      by_cases c : k < ν (2, 0, 1) (76 + r)
      · have ey : y &&& (-1) = y := b_ext (fun i hi => by rw [b_and, b_m1 i hi, Bool.and_true])
        by_cases c2 : bt o r = true
        · obtain ⟨v, v1, v2⟩ := ih (r + 1) (x ||| ((1 : Int32) <<< (nI r &&& 31))) y (by omega) (fun i hi e => by
            rw [b_or, bt_shl1 (by omega) hi] at e
            by_cases z : i = r
            · omega
            · have := h1 i hi (by simpa [z] using e)
              omega) (fun i hi => by
            rw [b_or, bt_shl1 (by omega) (by omega)]
            by_cases z : i = r
            · subst z
              rw [br, c2]
              simp
            · rw [h2 i (by omega)]
              simp [z]) (fun i a b => h3 i (by omega) b)
          exact ⟨v, cls _ _ (if_pos ⟨c, c2⟩) v1, ref _ _ ((if_pos c).trans ey) v2⟩
        · obtain ⟨v, v1, v2⟩ := ih (r + 1) x y (by omega) (fun i hi e => by have := h1 i hi e; omega) (fun i hi => by
            by_cases z : i = r
            · subst z
              rw [br, bx]
              simpa using c2
            · exact h2 i (by omega)) (fun i a b => h3 i (by omega) b)
          exact ⟨v, cls _ _ (if_neg (fun z => c2 z.2)) v1, ref _ _ ((if_pos c).trans ey) v2⟩
      · have ey : ∀ i, i < 32 → bt (y &&& (((1 : Int32) <<< (nI r &&& 31)) ^^^ (-1))) i = (bt y i && !decide (i = r)) := fun i hi => by
          rw [b_and, b_xor, bt_shl1 (by omega) hi, b_m1 i hi]
          simp
        obtain ⟨v, v1, v2⟩ := ih (r + 1) x (y &&& (((1 : Int32) <<< (nI r &&& 31)) ^^^ (-1))) (by omega) (fun i hi e => by have := h1 i hi e; omega) (fun i hi => by
          rw [ey i (by omega)]
          by_cases z : i = r
          · subst z
            rw [bx]
            simp
          · rw [h2 i (by omega)]
            simp [z]) (fun i a b => by
          rw [ey i b, h3 i (by omega) b]
          simp
          omega)
        exact ⟨v, cls _ _ (if_neg (fun z => c z.1)) v1, ref _ _ (if_neg c) v2⟩
  obtain ⟨v, v1, v2⟩ := lo n 0 0 o (by omega) (fun i _ e => by rw [b_0] at e; cases e) (fun i hi => absurd hi (by omega)) (fun i _ _ => rfl)
  refine pub_n h e1 v (Ev.step ?_) (Ev.step ?_)
  · simp only [e103_0, g4]
    exact Ev.bind c1 v1
  · simp only [e194_0, e1]
    exact Ev.bind m1 v2
end PS
