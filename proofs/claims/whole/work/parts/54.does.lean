/-! calls that do something to the bank that is now -/
section DO
variable {L : Nat} {S : Ad → Nat → Int32} {d n q w m t s T T1 : Nat} {z : Int32} {i j j1 : Fin 15} {b b1 : Bool} {μ μ' μ1 μ1' μ2 : Mm} {f g : Nat → Int32} {a1 a2 a3 : Int32} {ν ν1 ν2 : Mm}
theorem Bx.eq (h : Bx n q w t s j false μ ν) (hc : ∀ o, μ1 (1, j, o) = μ (1, j, o)) (hm : ν1 (2, 0, 1) = ν (2, 0, 1)) : Bx n q w t s j false μ1 ν1 :=
  h.cp (fun o k _ => by rw [hc o]) (fun k _ => by rw [hm]) (fun x => by cases x)
theorem p_keepB (h : Inv T μ ν) (hB : Bx n q w t s 0 false μ ν) (e : Nat := 29) (he : 3 ≤ e := by omega) : ∃ μ1 ν1, Ev (fun F => run L S F e 63 0 [some (vR (0, 0, 4)), some (vR (1, 0, 0))] μ) (0, μ1) ∧ Ev (fun F => run L S F e 130 0 [some (vR (2, 0, 0)), none] ν) (0, ν1) ∧ Inv T μ1 ν1 ∧ Bx n q w t s 0 false μ1 ν1 ∧ (∀ o, μ1 (1, 0, o) = μ (1, 0, o)) ∧ ν1 (2, 0, 1) = ν (2, 0, 1) ∧ CF μ μ1 ∧ MF ν ν1 ∧
    (∀ q : Ad, ¬ (q.1 = 1 ∧ 3 ≤ q.2.1.val) → q ≠ (0, 0, 4) → μ1 q = μ q) ∧ (∀ q : Ad, q ≠ (2, 0, 2) → q ≠ (2, 0, 0) → ν1 q = ν q) ∧ ∀ k, k ≠ 4 → ν1 (2, 0, 0) k = ν (2, 0, 0) k := by
  obtain ⟨μ1, ν1, a1, a2, a3, a4, a5, a6⟩ := p_keep (L := L) (S := S) (d := 1) h
  have c : ∀ o, μ1 (1, 0, o) = μ (1, 0, o) := fun o => a4 _ (fun x => by have := x.2; rw [f0v] at this; omega) (by simp)
  have m : ν1 (2, 0, 1) = ν (2, 0, 1) := a5 _ (by decide) (by decide)
  exact ⟨μ1, ν1, a1.dp (by omega), a2.dp (by omega), a3, hB.eq c m, c, m, fun q hq => a4 q (fun x => by omega) (fun e => by rw [e] at hq; exact absurd hq (by decide)), fun q hq => a5 q (fun e => hq (by rw [e])) (fun e => hq (by rw [e])), a4, a5, a6⟩
theorem LG.eq (h : LG j μ ν) (hc : ∀ o, μ1 (1, j, o) = μ (1, j, o)) (hm : ν1 (2, 0, 1) = ν (2, 0, 1)) : LG j μ1 ν1 := by
  unfold LG
  rw [hc, hm]
  exact h
theorem pub_m {k k' : Nat} {l l' : Lc} {x : Int32} {n q w t s : Nat} (e : mset μ' (2, 0, 0) 0 0 = ν) (hI : Inv T μ1 ν1) (cf : CF μ μ1) (mf : MF ν ν1) (fc : FCo 0 μ1 μ2) (fm : MK ν1 ν2) (fmf : MF ν1 ν2) (hB : Bx n q w t s 0 false μ2 ν2) (hw : w ≤ 48) (ht : t ≤ T + 200) (hl : LG 0 μ2 ν2)
    (hc : Ev (fun F => run L S F 30 k 0 l μ) (x, μ2)) (hm : Ev (fun F => run L S F 30 k' 0 l' μ') (x, ν2)) : PubR L S T k k' l l' μ μ' :=
  ⟨x, μ2, ν2, hc, hm, hI.fr ⟨n, q, w, t, s, hB, hw, ht, hl⟩ (by omega) fc.ck fm, cf.tr fc.cf, by
    have h1 : MF μ' ν := by rw [← e]; exact MF.rf.set
    exact (h1.tr mf).tr fmf⟩
/-- a single place of both -/
theorem Bx.w1 {o k i : Nat} {v : Int32} (h : Bx n q w t s j b μ μ') (hl : loc n o k = some i) (h3 : o ≠ 3) (hs : ¬ spM i) (hi : i < 60 ∨ 76 ≤ i) (hda : i < 124 ∨ 172 ≤ i ∨ ∃ m, m < 256 ∧ v = nI m) : Bx n q w t s j b (mset μ (1, j, o) k v) (mset μ' (2, 0, 1) i v) :=
  ⟨h.1.w1 hl h3 hs hda, by rw [mset_gk (by unfold spM at hs; omega)]; exact h.2.1, by rw [mset_gk (by unfold spM at hs; omega)]; exact h.2.2.1, h.2.2.2.1, fun r hr => by rw [mset_gk (by omega)]; exact h.2.2.2.2.1 r hr, by
    have h16 : i ≠ 16 := fun e => by
      subst e
      have := loc_li h.1.hn.2.2.2 hl
      have e2 : li 16 = (24, 3) := rfl
      rw [e2] at this
      cases this
      cases hl
    rw [mset_gk (by omega)]; exact h.2.2.2.2.2⟩
theorem byte_cases (x : Int32) : (¬ ((0 : Int32).toInt ≤ x.toInt ∧ x.toInt ≤ (255 : Int32).toInt)) ∨ ∃ k, k < 256 ∧ x = nI k ∧ ((0 : Int32).toInt ≤ x.toInt ∧ x.toInt ≤ (255 : Int32).toInt) := by
  by_cases c : (0 : Int32).toInt ≤ x.toInt ∧ x.toInt ≤ (255 : Int32).toInt
  · have x0 : (0 : Int32).toInt = 0 := rfl
    have x2 : (255 : Int32).toInt = 255 := rfl
    exact Or.inr ⟨x.toInt.toNat, by omega, nI_toNat (by omega), c⟩
  · exact Or.inl c
theorem P_weak (h : Inv T μ μ') : PubR L S T 85 170 [some (vR (0, 0, 0)), some (vI a1), some (vI a2), none] [some (vR (2, 0, 0)), some (vI a1), some (vI a2), none] μ μ' := by
  have hth := h.th
  obtain ⟨ν, n, q, w, t, s, e1, hB, hw, ht, hl⟩ := q_open h
  have e2 : th0 μ' = ν := e1
  rw [e2] at hth
  have hR := hB.1
  have hN := hR.hn
  rcases row_cases a1 n hN.2.2.2 with c | ⟨r, hr, rfl, c⟩
  · refine pub_n h e1 (-2) (Ev.step ?_) (Ev.step ?_)
    · simp only [e85_0]
      refine Ev.bind (ev_has hR a1) ?_
      simp only [if_neg c, if_true]
      exact Ev.ret
    · simp only [e170_0, e1]
      refine Ev.bind (ev_isRow hR a1) ?_
      simp only [if_neg c, if_true]
      exact Ev.ret
  · rcases byte_cases a2 with v | ⟨v, hv, rfl, hv2⟩
    · refine pub_n h e1 (-3) (Ev.step ?_) (Ev.step ?_)
      · simp only [e85_0]
        refine Ev.bind (ev_has hR (nI r)) ?_
        rcases wi_f v with y | ⟨y, y2⟩
        · simp only [if_pos c, i1, if_false, if_pos y]
          exact Ev.ret
        · simp only [if_pos c, i1, if_false, if_neg y, if_pos y2]
          exact Ev.ret
      · simp only [e170_0, e1]
        refine Ev.bind (ev_isRow hR (nI r)) ?_
        simp only [if_pos c, i1, if_false]
        refine Ev.bind ev_within ?_
        simp only [if_neg v, if_true]
        exact Ev.ret
    · obtain ⟨μ1, ν1, k1, k2, k3, k4, k5, k6, k7, k8, -⟩ := p_keepB (L := L) (S := S) hth hB
      have gc : μ1 (1, 0, 10) r = ν1 (2, 0, 1) (156 + r) := k4.1.lc 10 r (156 + r) (by simp [loc, hr]) (by omega)
      obtain ⟨y, y2⟩ := wi_t hv2
      refine pub_m e1 k3 k7 k8 FCo.rf.set (MK.rf.set (by omega)) MF.rf.set (k4.w1 (o := 10) (k := r) (i := 156 + r) (v := nI v) (by simp [loc, hr]) (by decide) (by unfold spM; omega) (by omega) (Or.inr (Or.inr ⟨v, hv, rfl⟩))) hw (by omega) ?_ (Ev.step ?_) (Ev.step ?_) (x := ν1 (2, 0, 1) (156 + r))
      · unfold LG
        rw [mset_go (by decide), mset_gk (by omega)]
        exact hl.eq k5 k6
      · simp only [e85_0]
        refine Ev.bind (ev_has hR (nI r)) ?_
        simp only [if_pos c, i1, if_false, if_neg y, if_neg y2]
        refine Ev.bind k1 ?_
        simp only [inb_n (show r < 16 by omega) (by decide), cond_true, nI_clamp (show r < 2 ^ 31 by omega), gc]
        exact Ev.ret
      · simp only [e170_0, e1]
        refine Ev.bind (ev_isRow hR (nI r)) ?_
        simp only [if_pos c, i1, if_false]
        refine Ev.bind ev_within ?_
        simp only [if_pos hv2, i1, if_false]
        refine Ev.bind k2 ?_
        simp only [a156, inb_n (show 156 + r < 1278 by omega) (by decide), cond_true, nI_clamp (show 156 + r < 2 ^ 31 by omega)]
        exact Ev.ret
theorem P_store (h : Inv T μ μ') : PubR L S T 84 169 [some (vR (0, 0, 0)), some (vI a1), some (vI a2)] [some (vR (2, 0, 0)), some (vI a1), some (vI a2), none] μ μ' := by
  have hth := h.th
  obtain ⟨ν, n, q, w, t, s, e1, hB, hw, ht, hl⟩ := q_open h
  have e2 : th0 μ' = ν := e1
  rw [e2] at hth
  have hR := hB.1
  have hN := hR.hn
  rcases row_cases a1 n hN.2.2.2 with c | ⟨r, hr, rfl, c⟩
  · refine pub_n h e1 (-2) (Ev.step ?_) (Ev.step ?_)
    · simp only [e84_0]
      refine Ev.bind (ev_has hR a1) ?_
      simp only [if_neg c, if_true]
      exact Ev.ret
    · simp only [e169_0, e1]
      refine Ev.bind (ev_isRow hR a1) ?_
      simp only [if_neg c, if_true]
      exact Ev.ret
  · rcases byte_cases a2 with v | ⟨v, hv, rfl, hv2⟩
    · refine pub_n h e1 (-3) (Ev.step ?_) (Ev.step ?_)
      · simp only [e84_0]
        refine Ev.bind (ev_has hR (nI r)) ?_
        rcases wi_f v with y | ⟨y, y2⟩
        · simp only [if_pos c, i1, if_false, if_pos y]
          exact Ev.ret
        · simp only [if_pos c, i1, if_false, if_neg y, if_pos y2]
          exact Ev.ret
      · simp only [e169_0, e1]
        refine Ev.bind (ev_isRow hR (nI r)) ?_
        simp only [if_pos c, i1, if_false]
        refine Ev.bind ev_within ?_
        simp only [if_neg v, if_true]
        exact Ev.ret
    · obtain ⟨μ1, ν1, k1, k2, k3, k4, k5, k6, k7, k8, -⟩ := p_keepB (L := L) (S := S) hth hB
      have gc : μ1 (1, 0, 8) r = ν1 (2, 0, 1) (124 + r) := k4.1.lc 8 r (124 + r) (by simp [loc, hr]) (by omega)
      have g2 : μ1 (1, 0, 2) 2 = ν1 (2, 0, 1) 26 := k4.1.lc 2 2 26 rfl (by omega)
      obtain ⟨y, y2⟩ := wi_t hv2
      have b1 := (k4.w1 (o := 8) (k := r) (i := 124 + r) (v := nI v) (by simp [loc, hr]) (by decide) (by unfold spM; omega) (by omega) (Or.inr (Or.inr ⟨v, hv, rfl⟩))).w1 (o := 9) (k := r) (i := 140 + r) (v := nI v) (by simp [loc, hr]) (by decide) (by unfold spM; omega) (by omega) (Or.inr (Or.inr ⟨v, hv, rfl⟩))
      have b2 := b1.w1 (o := 2) (k := 2) (i := 26) (v := ν1 (2, 0, 1) 26 &&& (((1 : Int32) <<< (nI r &&& 31)) ^^^ (-1))) rfl (by decide) (by unfold spM; omega) (by omega) (by omega)
      refine pub_m e1 k3 k7 k8 FCo.rf.set.set.set (((MK.rf.set (by omega)).set (by omega)).set (by omega)) MF.rf.set.set.set b2 hw (by omega) ?_ (Ev.step ?_) (Ev.step ?_) (x := ν1 (2, 0, 1) (124 + r))
      · unfold LG
        rw [mset_go (by decide), mset_go (by decide), mset_go (by decide), mset_gk (by omega), mset_gk (by omega), mset_gk (by omega)]
        exact hl.eq k5 k6
      · simp only [e84_0]
        refine Ev.bind (ev_has hR (nI r)) ?_
        simp only [if_pos c, i1, if_false, if_neg y, if_neg y2]
        refine Ev.bind k1 ?_
        have h6 : Ev (fun F => run L S F 29 6 0 [some (vR (1, 0, 2)), some (vI (nI r)), some (vI (nI v)), none] μ1) (ν1 (2, 0, 1) (124 + r), mset (mset (mset μ1 (1, 0, 8) r (nI v)) (1, 0, 9) r (nI v)) (1, 0, 2) 2 (ν1 (2, 0, 1) 26 &&& (((1 : Int32) <<< (nI r &&& 31)) ^^^ (-1)))) := Ev.step (by
          simp only [e6_0, inb_n (show r < 16 by omega) (by decide), cond_true, nI_clamp (show r < 2 ^ 31 by omega), gc, mset_go (show (2 : Nat) ≠ 9 by decide), mset_go (show (2 : Nat) ≠ 8 by decide), g2]
          exact Ev.ret)
        exact Ev.bind h6 Ev.ret
      · simp only [e169_0, e1]
        refine Ev.bind (ev_isRow hR (nI r)) ?_
        simp only [if_pos c, i1, if_false]
        refine Ev.bind ev_within ?_
        simp only [if_pos hv2, i1, if_false]
        refine Ev.bind k2 ?_
        simp only [a124, a140, inb_n (show 124 + r < 1278 by omega) (by decide), inb_n (show 140 + r < 1278 by omega) (by decide), cond_true, nI_clamp (show 124 + r < 2 ^ 31 by omega), nI_clamp (show 140 + r < 2 ^ 31 by omega), mset_gk (show 26 ≠ 140 + r by omega), mset_gk (show 26 ≠ 124 + r by omega)]
        exact Ev.ret
theorem P_drop (h : Inv T μ μ') : PubR L S T 92 182 [some (vR (0, 0, 0)), none] [some (vR (2, 0, 0)), none] μ μ' := by
  have hth := h.th
  obtain ⟨ν, n, q, w, t, s, e1, hB, hw, ht, hl⟩ := q_open h
  have e2 : th0 μ' = ν := e1
  rw [e2] at hth
  obtain ⟨μ1, ν1, k1, k2, k3, k4, k5, k6, k7, k8, -⟩ := p_keepB (L := L) (S := S) hth hB
  refine pub_m e1 k3 k7 k8 FCo.rf.set (MK.rf.set (by omega)) MF.rf.set k4.drop (by omega) (by omega) ?_ (Ev.step ?_) (Ev.step ?_) (x := nI w)
  · unfold LG
    rw [mset_go (by decide), mset_gk (by omega)]
    exact hl.eq k5 k6
  · simp only [e92_0]
    refine Ev.bind k1 ?_
    simp only [hB.1.w5 rfl]
    exact Ev.ret
  · simp only [e182_0, e1]
    refine Ev.bind k2 ?_
    simp only [k4.1.wt.1]
    exact Ev.ret
theorem Bx.refr0 (h : Bx n q w t s j b μ μ') {r : Nat} (hr : r < n) : Bx n q w t s j b (mset μ (1, j, 5) r 0) (mset μ' (2, 0, 1) (60 + r) 0) :=
  ⟨h.1.refr0 hr, by rw [mset_gk (by omega)]; exact h.2.1, by rw [mset_gk (by omega)]; exact h.2.2.1, h.2.2.2.1, fun r' hr' => by
    by_cases c : r' = r
    · subst c
      rw [mset_gg]
      have x0 : (0 : Int32).toInt = 0 := rfl
      omega
    · rw [mset_gk (by omega)]
      exact h.2.2.2.2.1 r' hr', by rw [mset_gk (by omega)]; exact h.2.2.2.2.2⟩
theorem P_refresh (h : Inv T μ μ') : PubR L S T 93 183 [some (vR (0, 0, 0)), some (vI a1), none] [some (vR (2, 0, 0)), some (vI a1), none] μ μ' := by
  have hth := h.th
  obtain ⟨ν, n, q, w, t, s, e1, hB, hw, ht, hl⟩ := q_open h
  have e2 : th0 μ' = ν := e1
  rw [e2] at hth
  have hR := hB.1
  have hN := hR.hn
  rcases row_cases a1 n hN.2.2.2 with c | ⟨r, hr, rfl, c⟩
  · refine pub_n h e1 (-2) (Ev.step ?_) (Ev.step ?_)
    · simp only [e93_0]
      refine Ev.bind (ev_has hR a1) ?_
      simp only [if_neg c, if_true]
      exact Ev.ret
    · simp only [e183_0, e1]
      refine Ev.bind (ev_isRow hR a1) ?_
      simp only [if_neg c, if_true]
      exact Ev.ret
  · obtain ⟨μ1, ν1, k1, k2, k3, k4, k5, k6, k7, k8, -⟩ := p_keepB (L := L) (S := S) hth hB
    have gc : μ1 (1, 0, 5) r = ν1 (2, 0, 1) (60 + r) := k4.1.lc 5 r (60 + r) (by simp [loc, hr]) (by omega)
    refine pub_m e1 k3 k7 k8 FCo.rf.set (MK.rf.set (by omega)) MF.rf.set (k4.refr0 hr) hw (by omega) ?_ (Ev.step ?_) (Ev.step ?_) (x := ν1 (2, 0, 1) (60 + r))
    · unfold LG
      rw [mset_go (by decide), mset_gk (by omega)]
      exact hl.eq k5 k6
    · simp only [e93_0]
      refine Ev.bind (ev_has hR (nI r)) ?_
      simp only [if_pos c, i1, if_false]
      refine Ev.bind k1 ?_
      simp only [inb_n (show r < 16 by omega) (by decide), cond_true, nI_clamp (show r < 2 ^ 31 by omega), gc]
      exact Ev.ret
    · simp only [e183_0, e1]
      refine Ev.bind (ev_isRow hR (nI r)) ?_
      simp only [if_pos c, i1, if_false]
      refine Ev.bind k2 ?_
      simp only [a60, inb_n (show 60 + r < 1278 by omega) (by decide), cond_true, nI_clamp (show 60 + r < 2 ^ 31 by omega)]
      exact Ev.bind (Ev.at 1 (fun F hF => m_refr0 hF (by omega) (show r < 16 by omega))) Ev.ret
theorem LWp.lg {j : Fin 15} {w w1 : Nat} (h : LWp j w w1 μ ν μ1 ν1) (hl : LG j μ ν) : LG j μ1 ν1 ∧ w1 ≤ w := by
  unfold LG at hl ⊢
  rcases h with ⟨x1, x2, x3⟩ | ⟨x1, wt, x2, x3, x4⟩
  · exact ⟨by rw [x2, x3, hl], by omega⟩
  · exact ⟨by rw [x2, x3, hl], by omega⟩
theorem ticks_go {M : Nat} (hM : M ≤ 200) : ∀ (m k n q w t s : Nat) (μ ν : Mm), k + m = M → Bx n q w t s 0 false μ ν → t + m + 2 < 2 ^ 27 → LG 0 μ ν → ∃ q1 w1 s1 μ1 ν1, Ev (fun F => run L S F 30 94 28 [some (vR (0, 0, 0)), some (vI (nI M)), some (vI (nI k))] μ) (nI w1, μ1) ∧ Ev (fun F => run L S F 30 184 26 [some (vR (2, 0, 0)), some (vI (nI M)), some (vI (nI k))] ν) (nI w1, ν1) ∧ Bx n q1 w1 (t + m) s1 0 false μ1 ν1 ∧ FCo 0 μ μ1 ∧ FMx ν ν1 ∧ LG 0 μ1 ν1 ∧ w1 ≤ w := by
  intro m
  induction m with
  | zero =>
    intro k n q w t s μ ν hk h ht hl
    have hk : k = M := by omega
    subst hk
    refine ⟨q, w, s, μ, ν, Ev.step ?_, Ev.step ?_, h, FCo.rf, FMx.rf, hl, Nat.le_refl _⟩
    · simp only [e94_28, if_neg (nI_nlt (Nat.le_refl k) (show k < 2 ^ 31 by omega)), h.1.w5 rfl]
      exact Ev.ret
    · simp only [e184_26, if_neg (nI_nlt (Nat.le_refl k) (show k < 2 ^ 31 by omega)), h.1.wt.1]
      exact Ev.ret
  | succ m ih =>
    intro k n q w t s μ ν hk h ht hl
    obtain ⟨q1, w1, s1, μ1, ν1, a1, a2, a3, a4, a5, a6, -⟩ := Bx.tick (L := L) (S := S) (d := 18) h (by omega)
    obtain ⟨l1, l2⟩ := a6.lg hl
    obtain ⟨q2, w2, s2, μ2, ν2, b1, b2, b3, b4, b5, b6, b7⟩ := ih (k + 1) n q1 w1 (t + 1) s1 μ1 ν1 (by omega) a3 (by omega) l1
    refine ⟨q2, w2, s2, μ2, ν2, Ev.step ?_, Ev.step ?_, ?_, a4.tr b4, a5.tr b5, b6, by omega⟩
    · simp only [e94_28, if_pos (nI_lt (show k < M by omega) (show M < 2 ^ 31 by omega)), nI_1]
      exact Ev.bind (a1.dp (by omega)) b1
    · simp only [e184_26, if_pos (nI_lt (show k < M by omega) (show M < 2 ^ 31 by omega)), nI_1]
      exact Ev.bind a2 b2
    · rw [show t + (m + 1) = t + 1 + m by omega]
      exact b3
theorem P_tick (h : Inv T μ μ') (hT : T + 600 < 2 ^ 27) : PubR L S T 94 184 [some (vR (0, 0, 0)), some (vI a1), none] [some (vR (2, 0, 0)), some (vI a1), none] μ μ' := by
  have hth := h.th
  obtain ⟨ν, n, q, w, t, s, e1, hB, hw, ht, hl⟩ := q_open h
  have e2 : th0 μ' = ν := e1
  rw [e2] at hth
  by_cases c : (1 : Int32).toInt ≤ a1.toInt ∧ a1.toInt ≤ (200 : Int32).toInt
  · obtain ⟨c1, c2⟩ := wi_t c
    have x1 : (1 : Int32).toInt = 1 := rfl
    have x2 : (200 : Int32).toInt = 200 := rfl
    obtain ⟨M, hM, rfl⟩ : ∃ k, k ≤ 200 ∧ a1 = nI k := ⟨a1.toInt.toNat, by omega, nI_toNat (by omega)⟩
    obtain ⟨μ1, ν1, k1, k2, k3, k4, k5, k6, k7, k8, -⟩ := p_keepB (L := L) (S := S) hth hB
    obtain ⟨q2, w2, s2, μ2, ν2, b1, b2, b3, b4, b5, b6, b7⟩ := ticks_go (L := L) (S := S) hM M 0 n q w t s μ1 ν1 (by omega) k4 (by omega) (hl.eq k5 k6)
    refine pub_m e1 k3 k7 k8 b4 b5.mk b5.mf b3 (by omega) (by omega) b6 (Ev.step ?_) (Ev.step ?_) (x := nI w2)
    · simp only [e94_0, if_neg c1, if_neg c2]
      exact Ev.bind k1 b1
    · simp only [e184_0, e1]
      refine Ev.bind ev_within ?_
      simp only [if_pos c, i1, if_false]
      exact Ev.bind k2 b2
  · refine pub_n h e1 (-3) (Ev.step ?_) (Ev.step ?_)
    · rcases wi_f c with c1 | ⟨c1, c2⟩
      · simp only [e94_0, if_pos c1]
        exact Ev.ret
      · simp only [e94_0, if_neg c1, if_pos c2]
        exact Ev.ret
    · simp only [e184_0, e1]
      refine Ev.bind ev_within ?_
      simp only [if_neg c, if_true]
      exact Ev.ret
/-- requests told by turns -/
theorem c_turns_go {a c : Int32} {M : Nat} {μ0 : Mm} (hM : w + M ≤ 48) : ∀ (m x : Nat), x + m = M → Ev (fun F => run L S F (d + 1) 91 34 [some (vR (0, 0, 0)), some (vI a), some (vI c), some (vI (nI M)), some (vI (nI x))] (addC 0 w (hl a c) x μ0)) (nI (w + M), addC 0 w (hl a c) M μ0) := by
  intro m
  induction m with
  | zero =>
    intro x hx
    have hx : x = M := by omega
    subst hx
    refine Ev.step ?_
    simp only [e91_34, if_neg (nI_nlt (Nat.le_refl x) (show x < 2 ^ 31 by omega)), addC_18]
    exact Ev.ret
  | succ m ih =>
    intro x hx
    refine Ev.step ?_
    have e2 : addC 0 w (hl a c) x μ0 (1, 0, 0) 5 = μ0 (1, 0, 0) 5 := addC_o (by decide)
    simp only [e91_34, if_pos (nI_lt (show x < M by omega) (show M < 2 ^ 31 by omega)), hl_par (show x < 2 ^ 31 by omega), nI_1, e2]
    have go := Ev.bind (g := fun F p => run L S F (d + 1) 91 34 [some (vR (0, 0, 0)), some (vI a), some (vI c), some (vI (nI M)), some (vI (nI (x + 1)))] p.2) (c_add (L := L) (S := S) (d := d) (j := 0) (w := w) (f := hl a c) (m := x) (μ := μ0) (by omega)) (ih (x + 1) (by omega))
    by_cases c0 : x % 2 = 0
    · rw [show hl a c x = a by unfold hl; rw [if_pos c0]] at go
      simp only [if_pos c0]
      exact go
    · rw [show hl a c x = c by unfold hl; rw [if_neg c0]] at go
      simp only [if_neg c0]
      exact go
theorem m_turns_go {a c : Int32} {M : Nat} {ν0 : Mm} (hM : w + M ≤ 48) : ∀ (m x : Nat), x + m = M → Ev (fun F => run L S F (d + 1) 167 62 [some (vR (2, 0, 0)), some (vI a), some (vI c), some (vI (nI M)), none, some (vI (nI x))] (askM w (hl a c) x ν0)) (nI (w + M), askM w (hl a c) M ν0) := by
  intro m
  induction m with
  | zero =>
    intro x hx
    have hx : x = M := by omega
    subst hx
    refine Ev.step ?_
    simp only [e167_62, if_neg (nI_nlt (Nat.le_refl x) (show x < 2 ^ 31 by omega)), askM_5]
    exact Ev.ret
  | succ m ih =>
    intro x hx
    refine Ev.step ?_
    simp only [e167_62, if_pos (nI_lt (show x < M by omega) (show M < 2 ^ 31 by omega)), hl_par (show x < 2 ^ 31 by omega), nI_1]
    have go := Ev.bind (g := fun F p => run L S F (d + 1) 167 62 [some (vR (2, 0, 0)), some (vI a), some (vI c), some (vI (nI M)), none, some (vI (nI (x + 1)))] p.2) (m_ask (L := L) (S := S) (d := d) (w := w) (f := hl a c) (m := x) (μ' := ν0) (by omega)) (ih (x + 1) (by omega))
    by_cases c0 : x % 2 = 0
    · rw [show hl a c x = a by unfold hl; rw [if_pos c0]] at go
      simp only [if_pos c0]
      exact go
    · rw [show hl a c x = c by unfold hl; rw [if_neg c0]] at go
      simp only [if_neg c0]
      exact go
theorem askM_mk (hw : w + m ≤ 99) : MK ν (askM w f m ν) := (FMx.asks hw).mk
theorem askM_mf : MF ν (askM w f m ν) := fun q hq => askM_q (fun e => hq (by rw [e]))
theorem addC_fco : FCo 0 μ (addC 0 w f m μ) := fun q hq => addC_q hq
/-- the whole of it, where the rows and the number are right -/
theorem p_turns (hth : Inv T μ ν) (hB : Bx n q w t s 0 false μ ν) (hl0 : LG 0 μ ν) {a c M : Nat} (ha : a < n) (hc : c < n) (hM : M ≤ 48) (hw : w + M ≤ 48) : ∃ μ1 ν1, Inv T μ1 ν1 ∧ CF μ μ1 ∧ MF ν ν1 ∧ Bx n q (w + M) t s 0 false (addC 0 w (hl (nI a) (nI c)) M μ1) (askM w (hl (nI a) (nI c)) M ν1) ∧ LG 0 (addC 0 w (hl (nI a) (nI c)) M μ1) (askM w (hl (nI a) (nI c)) M ν1) ∧
    Ev (fun F => run L S F 20 63 0 [some (vR (0, 0, 4)), some (vR (1, 0, 0))] μ) (0, μ1) ∧ Ev (fun F => run L S F 20 130 0 [some (vR (2, 0, 0)), none] ν) (0, ν1) ∧ addC 0 w (hl (nI a) (nI c)) 0 μ1 = μ1 ∧ askM w (hl (nI a) (nI c)) 0 ν1 = ν1 := by
  obtain ⟨μ1, ν1, k1, k2, k3, k4, k5, k6, k7, k8, -⟩ := p_keepB (L := L) (S := S) hth hB 20
  refine ⟨μ1, ν1, k3, k7, k8, k4.adds (fun k _ => hl_r ha hc k) (by omega), ?_, k1, k2, addC_0 (k4.1.w5 rfl), askM_0 k4.1.wt.1⟩
  unfold LG
  rw [addC_o (by decide), askM_o (by omega) (by omega)]
  exact hl0.eq k5 k6
theorem c48 {M : Nat} (hw : w ≤ 48) (hM : M ≤ 48) : ((48 : Int32) < nI w + nI M) ↔ 48 < w + M := by
  rw [nI_add]
  exact nI_ltI (a := 48) (by decide) (by omega)
theorem n48 (x : Int32) : (¬ ((1 : Int32).toInt ≤ x.toInt ∧ x.toInt ≤ (48 : Int32).toInt)) ∨ ∃ M, M ≤ 48 ∧ x = nI M ∧ ((1 : Int32).toInt ≤ x.toInt ∧ x.toInt ≤ (48 : Int32).toInt) := by
  by_cases c : (1 : Int32).toInt ≤ x.toInt ∧ x.toInt ≤ (48 : Int32).toInt
  · have x1 : (1 : Int32).toInt = 1 := rfl
    have x2 : (48 : Int32).toInt = 48 := rfl
    exact Or.inr ⟨x.toInt.toNat, by omega, nI_toNat (by omega), c⟩
  · exact Or.inl c
theorem P_ask (h : Inv T μ μ') : PubR L S T 89 166 [some (vR (0, 0, 0)), some (vI a1), some (vI a2)] [some (vR (2, 0, 0)), some (vI a1), some (vI a2)] μ μ' := by
  have hth := h.th
  obtain ⟨ν, n, q, w, t, s, e1, hB, hw, ht, hl0⟩ := q_open h
  have e2 : th0 μ' = ν := e1
  rw [e2] at hth
  have hR := hB.1
  have hN := hR.hn
  have ref : ∀ v, Ev (fun F => run L S F 29 167 0 [some (vR (2, 0, 0)), some (vI a1), some (vI a1), some (vI a2), some (vI 1), none] ν) v → Ev (fun F => run L S F 30 166 0 [some (vR (2, 0, 0)), some (vI a1), some (vI a2)] μ') v := fun v hv => by
    refine Ev.step ?_
    simp only [e166_0, e1]
    exact Ev.bind hv Ev.ret
  rcases row_cases a1 n hN.2.2.2 with c | ⟨r, hr, rfl, c⟩
  · refine pub_n h e1 (-2) (Ev.step ?_) (ref _ (Ev.step ?_))
    · simp only [e89_0]
      refine Ev.bind (ev_has hR a1) ?_
      simp only [if_neg c, if_true]
      exact Ev.ret
    · simp only [e167_0]
      refine Ev.bind (ev_isRow hR a1) ?_
      simp only [if_neg c, if_true]
      exact Ev.ret
  · rcases n48 a2 with v | ⟨M, hM, rfl, v⟩
    · refine pub_n h e1 (-3) (Ev.step ?_) (ref _ (Ev.step ?_))
      · simp only [e89_0]
        refine Ev.bind (ev_has hR (nI r)) ?_
        rcases wi_f v with y | ⟨y, y2⟩
        · simp only [if_pos c, i1, if_false, if_pos y]
          exact Ev.ret
        · simp only [if_pos c, i1, if_false, if_neg y, if_pos y2]
          exact Ev.ret
      · simp only [e167_0]
        refine Ev.bind (ev_isRow hR (nI r)) ?_
        simp only [if_pos c, i1, if_false]
        refine Ev.bind (ev_isRow hR (nI r)) ?_
        simp only [if_pos c, i1, if_false]
        refine Ev.bind ev_within ?_
        simp only [if_neg v, if_true]
        exact Ev.ret
    · obtain ⟨y, y2⟩ := wi_t v
      by_cases r48 : 48 < w + M
      · refine pub_n h e1 (-4) (Ev.step ?_) (ref _ (Ev.step ?_))
        · simp only [e89_0]
          refine Ev.bind (ev_has hR (nI r)) ?_
          simp only [if_pos c, i1, if_false, if_neg y, if_neg y2]
          have h91 : Ev (fun F => run L S F 29 91 0 [some (vR (0, 0, 0)), some (vI (nI r)), some (vI (nI r)), some (vI (nI M)), none] μ) (-4, μ) := Ev.step (by
            simp only [e91_0, hR.w5 rfl, if_pos ((c48 hw hM).mpr r48)]
            exact Ev.ret)
          exact Ev.bind h91 Ev.ret
        · simp only [e167_0]
          refine Ev.bind (ev_isRow hR (nI r)) ?_
          simp only [if_pos c, i1, if_false]
          refine Ev.bind (ev_isRow hR (nI r)) ?_
          simp only [if_pos c, i1, if_false]
          refine Ev.bind ev_within ?_
          simp only [if_pos v, i1, if_false, hR.wt.1, if_pos ((c48 hw hM).mpr r48)]
          exact Ev.ret
      · obtain ⟨μ1, ν1, p1, p2, p3, p4, p5, p6, p7, p8, p9⟩ := p_turns (L := L) (S := S) hth hB hl0 hr hr hM (by omega)
        refine pub_m e1 p1 p2 p3 addC_fco (askM_mk (by omega)) askM_mf p4 (by omega) (by omega) p5 (Ev.step ?_) (ref _ (Ev.step ?_)) (x := nI (w + M))
        · simp only [e89_0]
          refine Ev.bind (ev_has hR (nI r)) ?_
          simp only [if_pos c, i1, if_false, if_neg y, if_neg y2]
          have h91 : Ev (fun F => run L S F 29 91 0 [some (vR (0, 0, 0)), some (vI (nI r)), some (vI (nI r)), some (vI (nI M)), none] μ) (nI (w + M), addC 0 w (hl (nI r) (nI r)) M μ1) := Ev.step (by
            simp only [e91_0, hR.w5 rfl, if_neg (fun x => r48 ((c48 hw hM).mp x))]
            have := c_turns_go (L := L) (S := S) (d := 28) (w := w) (a := nI r) (c := nI r) (M := M) (μ0 := μ1) (by omega) M 0 (by omega)
            rw [p8] at this
            exact Ev.bind (p6.dp (by omega)) this)
          exact Ev.bind h91 Ev.ret
        · simp only [e167_0]
          refine Ev.bind (ev_isRow hR (nI r)) ?_
          simp only [if_pos c, i1, if_false]
          refine Ev.bind (ev_isRow hR (nI r)) ?_
          simp only [if_pos c, i1, if_false]
          refine Ev.bind ev_within ?_
          simp only [if_pos v, i1, if_false, hR.wt.1, if_neg (fun x => r48 ((c48 hw hM).mp x))]
          have := m_turns_go (L := L) (S := S) (d := 28) (w := w) (a := nI r) (c := nI r) (M := M) (ν0 := ν1) (by omega) M 0 (by omega)
          rw [p9] at this
          exact Ev.bind (p7.dp (by omega)) this
end DO
