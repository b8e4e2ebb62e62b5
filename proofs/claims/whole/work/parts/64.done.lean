/-! a choice of guards, what is done -/
section DN
variable {L : Nat} {S : Ad → Nat → Int32} {d n q w m t s T T1 l c : Nat} {z : Int32} {i j j1 : Fin 15} {b b1 : Bool} {μ μ' μ1 μ1' μ2 : Mm} {f g : Nat → Int32} {a1 a2 a3 a4 a5 : Int32} {ν ν0 ν1 ν2 κ : Mm}
theorem choice_step (hB : Bx n q w t s 0 false μ ν) (hw : w ≤ 99) (ht : t + 600 < 2 ^ 27) {seed k : Nat} (hs : seed < 7875) (hm : m ≤ 48) (hk : k < 6) : ∃ (f tk : Int32) (μ2 ν2 : Mm), PW μ μ2 ∧ RSv ν ν2 ∧
    (∀ (v : Rz) (b x4 x5 : Int32), Ev (fun F => if (k = 0 ∨ f < x4 ∨ (f = x4 ∧ tk < x5)) then run L S F 30 115 23 [some (vR (0, 0, 0)), some (vI (nI seed)), some (vI (nI m)), some (vI (nI k)), some (vI f), some (vI tk), some (vI (nI (k + 1))), none, none] μ2 else run L S F 30 115 23 [some (vR (0, 0, 0)), some (vI (nI seed)), some (vI (nI m)), some (vI b), some (vI x4), some (vI x5), some (vI (nI (k + 1))), none, none] μ2) v → Ev (fun F => run L S F 30 115 23 [some (vR (0, 0, 0)), some (vI (nI seed)), some (vI (nI m)), some (vI b), some (vI x4), some (vI x5), some (vI (nI k)), none, none] μ) v) ∧
    (∀ (v : Rz) (b x4 x5 : Int32), Ev (fun F => if (b = -1 ∨ f < x4 ∨ (f = x4 ∧ tk < x5)) then run L S F 30 222 43 [some (vR (2, 0, 0)), some (vI (nI seed)), some (vI (nI m)), some (vI (nI k)), some (vI f), some (vI tk), some (vI (nI (k + 1)))] ν2 else run L S F 30 222 43 [some (vR (2, 0, 0)), some (vI (nI seed)), some (vI (nI m)), some (vI b), some (vI x4), some (vI x5), some (vI (nI (k + 1)))] ν2) v → Ev (fun F => run L S F 30 222 43 [some (vR (2, 0, 0)), some (vI (nI seed)), some (vI (nI m)), some (vI b), some (vI x4), some (vI x5), some (vI (nI k))] ν) v) := by
  obtain ⟨μa, p1, p2, p3⟩ := p_take (L := L) (S := S) (d := 27) hB hw
  have e1 : (nI k).toInt = (k : Nat) := nI_toInt (by omega)
  have b1 : tLo 2 ≤ (nI k).toInt := by rw [e1]; show (0 : Int) ≤ _; omega
  have b2 : (nI k).toInt ≤ tHi 2 := by rw [e1]; show _ ≤ (5 : Int); omega
  obtain ⟨μb, o1, o2, o3⟩ := p_other (L := L) (S := S) (d := 27) p2 (k := 2) AG.rf (by decide) b1 b2
  obtain ⟨tk, μ2, νb, d1, d2, d3, d4, d5, d6, d7, d8, d9⟩ := p_storms (L := L) (S := S) (m := m) o2 ht hs hm
  have uv := unother_v (k := 2) (by decide) (v := nI k) d4
  have hun := m_unother (L := L) (S := S) (d := 28) (ν := νb)
  have c27 : cpr νb (2, 0, 10) 0 (2, 0, 1) 0 0 (2, 0, 0) 27 = μ2 (1, 2, 24) 3 - μ2 (1, 1, 24) 3 := by rw [cpr_ne (by decide)]; exact d9.symm
  have c25 : cpr νb (2, 0, 10) 0 (2, 0, 1) 0 0 (2, 0, 0) 25 = nI tk := by rw [cpr_ne (by decide)]; exact d6
  generalize cpr νb (2, 0, 10) 0 (2, 0, 1) 0 0 = ν2 at uv hun c27 c25
  have h55 : Ev (fun F => run L S F 29 55 0 [some (vR (0, 0, 1))] μ2) (μ2 (1, 2, 24) 3 - μ2 (1, 1, 24) 3, μ2) := Ev.step (by
    simp only [e55_0]
    exact Ev.ret)
  generalize μ2 (1, 2, 24) 3 - μ2 (1, 1, 24) 3 = f at h55 c27
  have k6 : nI k < (6 : Int32) := nI_lt (b := 6) hk (by decide)
  have k5 : ¬ (5 : Int32) < nI k := nI_nlt (a := 5) (by omega) (by decide)
  refine ⟨f, nI tk, μ2, ν2, (p3.w1.tr o3.w1).tr d3, uv, fun v b x4 x5 hv => Ev.step ?_, fun v b x4 x5 hv => Ev.step ?_⟩
  · simp only [e115_23, if_pos k6]
    refine Ev.bind p1 (Ev.bind o1 (Ev.bind d1 (Ev.bind h55 ?_)))
    simp only [d5, nI_1]
    by_cases z0 : k = 0
    · subst z0
      simp only [true_or, if_true] at hv
      by_cases z1 : f < x4
      · simp only [if_pos z1, show nI 0 = (0 : Int32) from rfl, if_true]
        exact hv
      · by_cases z2 : f = x4
        · by_cases z3 : nI tk < x5
          · simp only [if_neg z1, if_pos z2, if_pos z3, show nI 0 = (0 : Int32) from rfl, if_true]
            exact hv
          · simp only [if_neg z1, if_pos z2, if_neg z3]
            refine Ev.step ?_
            simp only [e115_102, d5, nI_1, show nI 0 = (0 : Int32) from rfl, if_true]
            exact hv
        · simp only [if_neg z1, if_neg z2]
          refine Ev.step ?_
          simp only [e115_102, d5, nI_1, show nI 0 = (0 : Int32) from rfl, if_true]
          exact hv
    · have z9 : ¬ nI k = 0 := nI_ne0 (by omega) (by omega)
      simp only [z0, false_or] at hv
      by_cases z1 : f < x4
      · simp only [z1, true_or, if_true] at hv
        simp only [if_pos z1, if_neg z9]
        exact hv
      · by_cases z2 : f = x4
        · by_cases z3 : nI tk < x5
          · simp only [z2, z3, and_self, or_true, if_true] at hv
            simp only [if_neg z1, if_pos z2, if_pos z3, if_neg z9]
            rw [z2]
            exact hv
          · simp only [z1, z3, and_false, or_self, if_false] at hv
            simp only [if_neg z1, if_pos z2, if_neg z3]
            refine Ev.step ?_
            simp only [e115_102, if_neg z9, nI_1]
            exact hv
        · simp only [z1, z2, false_and, or_self, if_false] at hv
          simp only [if_neg z1, if_neg z2]
          refine Ev.step ?_
          simp only [e115_102, if_neg z9, nI_1]
          exact hv
  · simp only [e222_43, if_neg k5]
    refine Ev.bind (m_other (k := 2) (by decide) rfl) (Ev.bind d2 (Ev.bind hun ?_))
    simp only [c27, c25, nI_1]
    by_cases z0 : b = -1
    · simp only [z0, true_or, if_true] at hv
      simp only [if_pos z0]
      exact hv
    · simp only [z0, false_or] at hv
      by_cases z1 : f < x4
      · have z4 : ¬ x4 < f := fun x => by
          rw [Int32.lt_iff_toInt_lt] at x z1
          omega
        have z5 : ¬ f = x4 := fun x => by
          rw [x, Int32.lt_iff_toInt_lt] at z1
          omega
        simp only [z1, true_or, if_true] at hv
        simp only [if_neg z0, if_neg z4, if_neg z5]
        exact hv
      · by_cases z2 : f = x4
        · have z4 : ¬ x4 < f := fun x => by
            rw [z2, Int32.lt_iff_toInt_lt] at x
            omega
          by_cases z3 : nI tk < x5
          · simp only [z2, z3, and_self, or_true, if_true] at hv
            simp only [if_neg z0, if_neg z4, if_pos z2, if_pos z3]
            rw [z2]
            exact hv
          · simp only [z1, z3, and_false, or_self, if_false] at hv
            simp only [if_neg z0, if_neg z4, if_pos z2, if_neg z3]
            exact hv
        · have z4 : x4 < f := by
            rw [Int32.lt_iff_toInt_lt] at z1 ⊢
            have : f.toInt ≠ x4.toInt := fun x => z2 (Int32.toInt_inj.mp x)
            omega
          simp only [z1, z2, false_and, or_self, if_false] at hv
          simp only [if_neg z0, if_pos z4]
          exact hv
theorem choice_go (hw : w ≤ 99) (ht : t + 600 < 2 ^ 27) {seed : Nat} (hs : seed < 7875) (hm : m ≤ 48) : ∀ (x k : Nat) (μ ν : Mm) (b x4 x5 b' y4 y5 : Int32), k + x = 6 → Bx n q w t s 0 false μ ν → (k = 0 ∧ b' = -1) ∨ (¬ k = 0 ∧ b' = b ∧ y4 = x4 ∧ y5 = x5 ∧ ¬ b = -1) → ∃ a μ2 ν2, PW μ μ2 ∧ RSv ν ν2 ∧ Ev (fun F => run L S F 30 115 23 [some (vR (0, 0, 0)), some (vI (nI seed)), some (vI (nI m)), some (vI b), some (vI x4), some (vI x5), some (vI (nI k)), none, none] μ) (a, μ2) ∧ Ev (fun F => run L S F 30 222 43 [some (vR (2, 0, 0)), some (vI (nI seed)), some (vI (nI m)), some (vI b'), some (vI y4), some (vI y5), some (vI (nI k))] ν) (a, ν2) := by
  intro x
  induction x with
  | zero =>
    intro k μ ν b x4 x5 b' y4 y5 hk h hl
    have hk : k = 6 := by omega
    subst hk
    rcases hl with ⟨x, _⟩ | ⟨_, rfl, rfl, rfl, _⟩
    · exact absurd x (by decide)
    · refine ⟨b', μ, ν, PW.rf, RSv.rf, Ev.step ?_, Ev.step ?_⟩
      · simp only [e115_23, show ¬ nI 6 < (6 : Int32) by decide, if_false]
        exact Ev.ret
      · simp only [e222_43, show (5 : Int32) < nI 6 by decide, if_true]
        exact Ev.ret
  | succ x ih =>
    intro k μ ν b x4 x5 b' y4 y5 hk h hl
    obtain ⟨f, tk, μ2, ν2, h1, h2, h3, h4⟩ := choice_step (L := L) (S := S) (m := m) (k := k) h hw ht hs hm (by omega)
    have hB2 : Bx n q w t s 0 false μ2 ν2 := h.cp (fun o y _ => by rw [h1 _ (Or.inr (Or.inl ⟨rfl, rfl⟩))]) (fun i _ => h2.1 i) (fun x => by cases x)
    have kn : ¬ nI k = (-1 : Int32) := fun e => by
      have e1 : (nI k).toInt = (k : Nat) := nI_toInt (by omega)
      rw [e] at e1
      have : (-1 : Int32).toInt = -1 := by decide
      omega
    rcases hl with ⟨rfl, rfl⟩ | ⟨k0, rfl, rfl, rfl, kb⟩
    · obtain ⟨a, μ3, ν3, g1, g2, g3, g4⟩ := ih (0 + 1) μ2 ν2 (nI 0) f tk (nI 0) f tk (by omega) hB2 (Or.inr ⟨by decide, rfl, rfl, rfl, kn⟩)
      refine ⟨a, μ3, ν3, h1.tr g1, h2.tr g2, h3 _ _ _ _ ?_, h4 _ _ _ _ ?_⟩
      · simp only [true_or, if_true]
        exact g3
      · simp only [true_or, if_true]
        exact g4
    · by_cases u : f < y4 ∨ (f = y4 ∧ tk < y5)
      · obtain ⟨a, μ3, ν3, g1, g2, g3, g4⟩ := ih (k + 1) μ2 ν2 (nI k) f tk (nI k) f tk (by omega) hB2 (Or.inr ⟨by omega, rfl, rfl, rfl, kn⟩)
        refine ⟨a, μ3, ν3, h1.tr g1, h2.tr g2, h3 _ _ _ _ ?_, h4 _ _ _ _ ?_⟩
        · simp only [if_pos (show k = 0 ∨ f < y4 ∨ (f = y4 ∧ tk < y5) from Or.inr u)]
          exact g3
        · simp only [if_pos (show b' = -1 ∨ f < y4 ∨ (f = y4 ∧ tk < y5) from Or.inr u)]
          exact g4
      · obtain ⟨a, μ3, ν3, g1, g2, g3, g4⟩ := ih (k + 1) μ2 ν2 b' y4 y5 b' y4 y5 (by omega) hB2 (Or.inr ⟨by omega, rfl, rfl, rfl, kb⟩)
        refine ⟨a, μ3, ν3, h1.tr g1, h2.tr g2, h3 _ _ _ _ ?_, h4 _ _ _ _ ?_⟩
        · simp only [if_neg (show ¬ (k = 0 ∨ f < y4 ∨ (f = y4 ∧ tk < y5)) from fun x => x.elim k0 u)]
          exact g3
        · simp only [if_neg (show ¬ (b' = -1 ∨ f < y4 ∨ (f = y4 ∧ tk < y5)) from fun x => x.elim kb u)]
          exact g4
theorem P_choice (h : Inv T μ μ') (hT : T + 600 < 2 ^ 27) : PubR L S T 115 222 [some (vR (0, 0, 0)), some (vI a1), some (vI a2), none, none, none, none, none, none] [some (vR (2, 0, 0)), some (vI a1), some (vI a2), none, none, none, none] μ μ' := by
  have hth := h.th
  obtain ⟨ν, n, q, w, t, s, e1, hB, hw, ht, hl0⟩ := q_open h
  have e2 : th0 μ' = ν := e1
  rw [e2] at hth
  rcases can_storm (L := L) (S := S) (d := 29) (μ := μ) a1 a2 with ⟨c, hc⟩ | ⟨seed, m, hs, hm, rfl, rfl, c, hc⟩
  · refine pub_n h e1 (-3) (Ev.step ?_) (Ev.step ?_)
    · simp only [e115_0]
      refine Ev.bind hc ?_
      simp only [if_true]
      exact Ev.ret
    · simp only [e222_0, e1]
      refine Ev.bind ev_within ?_
      by_cases y : (0 : Int32).toInt ≤ a1.toInt ∧ a1.toInt ≤ (7874 : Int32).toInt
      · simp only [if_pos y, i1, if_false]
        refine Ev.bind ev_within ?_
        simp only [if_neg (fun w => c ⟨y, w⟩), if_true]
        exact Ev.ret
      · simp only [if_neg y, if_true]
        exact Ev.ret
  · obtain ⟨a, μ2, ν2, g1, g2, g3, g4⟩ := choice_go (L := L) (S := S) (m := m) (by omega) (by omega) hs hm 6 0 μ ν 0 0 0 (-1) 0 0 (by omega) hB (Or.inl ⟨rfl, rfl⟩)
    refine pub_p hth e1 g1 g2 (Ev.step ?_) (Ev.step ?_) (x := a)
    · simp only [e115_0]
      refine Ev.bind hc ?_
      simp only [i1, if_false]
      exact g3
    · simp only [e222_0, e1]
      refine Ev.bind ev_within ?_
      simp only [if_pos c.1, i1, if_false]
      refine Ev.bind ev_within ?_
      simp only [if_pos c.2, i1, if_false]
      exact g4
theorem done_go : ∀ (m c q w t s : Nat) (μ μ' : Mm) (g x3 a : Int32), c + m = 500 → Bx n q w t s 2 true μ μ' → t + m + 2 < 2 ^ 27 → μ (0, 0, 1) 4 = nI c → μ (1, 2, 24) 2 = g →
    ∃ tk q1 w1 t1 s1 μ1 μ1', Ev (fun F => run L S F 29 52 10 [some (vR (0, 0, 1)), none] μ) (0, μ1) ∧ (∀ v, Ev (fun F => run L S F 30 219 118 [some (vR (2, 0, 0)), some (vI a), none, some (vI x3), some (vI (nI tk)), some (vI (μ1 (1, 2, 24) 2)), none] μ1') v → Ev (fun F => run L S F 30 219 52 [some (vR (2, 0, 0)), some (vI a), none, some (vI x3), some (vI (nI c)), some (vI g), none] μ') v) ∧ Bx n q1 w1 t1 s1 2 true μ1 μ1' ∧ μ1 (0, 0, 1) 4 = nI tk ∧ PF μ μ1 ∧ FMx μ' μ1' := by
  intro m
  induction m with
  | zero =>
    intro c q w t s μ μ' g x3 a hc h ht h4 hg
    have hc : c = 500 := by omega
    subst hc
    refine ⟨500, q, w, t, s, μ, μ', Ev.step ?_, fun v hv => Ev.step ?_, h, h4, PF.rf, FMx.rf⟩
    · simp only [e52_10]
      simp only [h4, if_neg (show ¬ nI 500 < (500 : Int32) by decide)]
      exact Ev.ret
    · simp only [e219_52]
      simp only [if_neg (show ¬ nI 500 < (500 : Int32) by decide)]
      rw [hg] at hv
      exact hv
  | succ m ih =>
    intro c q w t s μ μ' g x3 a hc h ht h4 hg
    have hw := h.1.wt.2.1
    have r5 := h.1.wt.1
    have c5 := h.1.w5 rfl
    have c500 : nI c < (500 : Int32) := nI_lt (b := 500) (by omega) (by decide)
    by_cases hb : 0 < w
    · have pw : (0 : Int32) < nI w := nI_lt (a := 0) hb (by omega)
      obtain ⟨q1, w1, s1, μ1, μ1', a1, a2, a3, a4, a5, a6, a7⟩ := Bx.tick (L := L) (S := S) (d := 18) h (by omega)
      have e4 : μ1 (0, 0, 1) 4 = nI c := (congrFun (a4 (0, 0, 1) (fun x => absurd x.1 (by decide))) 4).trans h4
      have h3 : Bx n q1 w1 (t + 1) s1 2 true (mset μ1 (0, 0, 1) 4 (nI (c + 1))) μ1' := a3.cp (fun o k _ => by rw [mset_ne (by simp)]) (fun _ _ => rfl) (fun _ => by rw [mset_ne (by simp)]; exact a3.1.pk rfl)
      have w5 := h3.1.wt.1
      have g2 : mset μ1 (0, 0, 1) 4 (nI (c + 1)) (1, 2, 24) 2 = μ1 (1, 2, 24) 2 := congrFun (mset_ne (by decide)) 2
      obtain ⟨tk, q2, w2, t2, s2, μ2, μ2', b1, b2, b3, b4, b5, b6⟩ := ih (c + 1) q1 w1 (t + 1) s1 _ μ1' _ x3 a (by omega) h3 (by omega) mset_gg g2
      refine ⟨tk, q2, w2, t2, s2, μ2, μ2', Ev.step ?_, fun v hv => Ev.step ?_, b3, b4, (a4.pf.tk).tr b5, a5.tr b6⟩
      · simp only [e52_10]
        simp only [h4, if_pos c500, c5, if_pos pw]
        refine Ev.bind (a1.dp (by omega)) ?_
        simp only [e4, nI_1]
        exact b1
      · have b2v := b2 v hv
        simp only [e219_52, if_pos c500, r5, if_pos pw]
        refine Ev.bind a2 ?_
        simp only [w5, nI_1]
        rcases a6 with ⟨rfl, x2, x3⟩ | ⟨x1, wt, x2, x3, x4⟩
        · rw [x2, hg] at b2v
          simp only [if_neg (nI_nlt (Nat.le_refl w1) (show w1 < 2 ^ 31 by omega))]
          exact b2v
        · rw [x2, hg] at b2v
          simp only [if_pos (nI_lt (show w1 < w by omega) (show w < 2 ^ 31 by omega)), x4]
          unfold mmax at b2v
          by_cases y : g < wt
          · simp only [if_pos y] at b2v ⊢
            exact b2v
          · simp only [if_neg y] at b2v ⊢
            exact b2v
    · have pw : ¬ (0 : Int32) < nI w := by
        have : w = 0 := by omega
        subst this
        decide
      refine ⟨c, q, w, t, s, μ, μ', Ev.step ?_, fun v hv => Ev.step ?_, h, h4, PF.rf, FMx.rf⟩
      · simp only [e52_10]
        simp only [h4, if_pos c500, c5, if_neg pw]
        exact Ev.ret
      · simp only [e219_52, if_pos c500, r5, if_neg pw]
        rw [hg] at hv
        exact hv
theorem P_done (h : Inv T μ μ') (hT : T + 600 < 2 ^ 27) : PubR L S T 120 219 [some (vR (0, 0, 0)), some (vI a1)] [some (vR (2, 0, 0)), some (vI a1), none, none, none, none, none] μ μ' := by
  have hth := h.th
  obtain ⟨ν, n, q, w, t, s, e1, hB, hw, ht, hl0⟩ := q_open h
  have e2 : th0 μ' = ν := e1
  rw [e2] at hth
  rcases x012 a1 with v | ⟨v, v2⟩
  · refine pub_n h e1 (-2) (Ev.step ?_) (Ev.step ?_)
    · rcases wi_f v with y | ⟨y, y2⟩
      · simp only [e120_0, if_pos y]
        exact Ev.ret
      · simp only [e120_0, if_neg y, if_pos y2]
        exact Ev.ret
    · simp only [e219_0, e1]
      refine Ev.bind ev_within ?_
      simp only [if_neg v, if_true]
      exact Ev.ret
  · obtain ⟨y1, y2⟩ := wi_t v2
    have hN := hB.1.hn
    obtain ⟨μ1, p1, p2, p3⟩ := p_take (L := L) (S := S) (d := 26) hB (by omega)
    have hB1 : Bx n q w t s 0 false μ1 ν := hB.cp (fun o y _ => by rw [p3 _ (fun x => absurd x.2 (show ¬ ((0 : Fin 15) = 1) by decide))]) (fun _ _ => rfl) (fun x => by cases x)
    obtain ⟨pk, o1, o2⟩ := m_opens (L := L) (S := S) (d := 28) hN.2.1 hN.2.2.2
    have r5 := hB.1.wt.1
    obtain ⟨μ2, b1, b2, b3, b4, b5⟩ := c_start (L := L) (S := S) (d := 26) (μ1' := mset (opM ν pk) (2, 0, 1) 5 (nI w)) hB1 (by decide) (by omega) o2 (fun k _ => by
      by_cases e : k = 5
      · subst e
        rw [mset_gg, r5]
      · rw [mset_gk e, opM_k e]) (by rw [mset_ne (by decide)]; exact opM_9)
    obtain ⟨tk, q1, w1, t1, s1, μ3, κ, c1, c2, c3, c4, c5, c6⟩ := done_go (L := L) (S := S) 500 0 q w t s μ2 _ 0 (ν (2, 0, 1) 16) a1 (by omega) b2 (by omega) b3 b4
    have x24 : μ3 (1, 1, 24) = μ1 (1, 1, 24) := by rw [c5 _ (fun x => absurd x.2 (show ¬ ((1 : Fin 15) = 2) by decide)) (by decide), b5 _ (fun x => absurd x.2 (show ¬ ((1 : Fin 15) = 2) by decide)) (by decide)]
    have z1 := p2.1.hz
    rw [mset_gk (by decide), Int32.add_zero] at z1
    have z2 := c3.1.hz
    rw [Int32.add_zero] at z2
    have w5 := c3.1.wt.1
    have cc5 := c3.1.w5 rfl
    have hw1 := c3.1.wt.2.1
    have fm : FMx (opM ν pk) κ := (FMx.rf.set (by omega)).tr c6
    have cl := m_closes (L := L) (S := S) (d := 28) (ν := κ)
    have h55 : Ev (fun F => run L S F 29 55 0 [some (vR (0, 0, 1))] μ3) (μ3 (1, 2, 24) 3 - μ3 (1, 1, 24) 3, μ3) := Ev.step (by
      simp only [e55_0]
      exact Ev.ret)
    have h52 : Ev (fun F => run L S F 29 52 0 [some (vR (0, 0, 1)), some (vR (1, 0, 0))] μ) (0, μ3) := Ev.step (by
      simp only [e52_0]
      exact Ev.bind p1 (Ev.bind b1 c1))
    have e16 : mset (opM ν pk) (2, 0, 1) 5 (nI w) (2, 0, 1) 16 = ν (2, 0, 1) 16 := by rw [mset_gk (by decide), opM_k (by decide)]
    refine pub_p hth e1 ((p3.w1.tr b5.g.w).tr c5.g.w) (closes_rs fm).k.v (x := if a1 = 0 then (if 0 < nI w1 then -1 else nI tk) else if a1 = 1 then μ3 (1, 2, 24) 3 - μ3 (1, 1, 24) 3 else μ3 (1, 2, 24) 2) (Ev.step ?_) (Ev.step ?_)
    · simp only [e120_0, if_neg y1, if_neg y2]
      refine Ev.bind h52 ?_
      by_cases k0 : a1 = 0
      · simp only [if_pos k0, cc5]
        by_cases kw : 0 < nI w1
        · simp only [if_pos kw]
          exact Ev.ret
        · simp only [if_neg kw, c4]
          exact Ev.ret
      · by_cases k1 : a1 = 1
        · simp only [if_neg k0, if_pos k1]
          exact Ev.bind h55 Ev.ret
        · simp only [if_neg k0, if_neg k1]
          exact Ev.ret
    · simp only [e219_0, e1]
      refine Ev.bind ev_within ?_
      simp only [if_pos v2, i1, if_false]
      refine Ev.bind o1 ?_
      simp only [r5, e16]
      refine c2 _ (Ev.step ?_)
      simp only [e219_118, w5]
      by_cases w0 : w1 = 0
      · subst w0
        simp only [show nI 0 = (0 : Int32) from rfl, if_true, show ¬ (0 : Int32) < 0 by decide, if_false]
        refine Ev.bind cl ?_
        by_cases k0 : a1 = 0
        · simp only [if_pos k0]
          exact Ev.ret
        · by_cases k1 : a1 = 1
          · simp only [if_neg k0, if_pos k1, x24, z1, z2]
            exact Ev.ret
          · simp only [if_neg k0, if_neg k1]
            exact Ev.ret
      · have n0 : ¬ nI w1 = 0 := nI_ne0 (by omega) (by omega)
        have pw : (0 : Int32) < nI w1 := nI_lt (a := 0) (by omega) (by omega)
        simp only [if_neg n0, if_pos pw]
        refine Ev.bind cl ?_
        by_cases k0 : a1 = 0
        · simp only [if_pos k0]
          exact Ev.ret
        · by_cases k1 : a1 = 1
          · simp only [if_neg k0, if_pos k1, x24, z1, z2]
            exact Ev.ret
          · simp only [if_neg k0, if_neg k1]
            exact Ev.ret
end DN
