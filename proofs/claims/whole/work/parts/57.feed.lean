/-! bytes come onto the tape -/
def tpC (f : Nat → Int32) (l c : Nat) (μ : Mm) : Mm := fun q i => if q = (0, 0, 8) ∧ l ≤ i ∧ i < l + c then f (i - l) else if q = (0, 0, 7) ∧ i = 0 then nI (l + c) else μ q i
def tpM (f : Nat → Int32) (l c : Nat) (μ : Mm) : Mm := fun q i => if q = (2, 0, 8) ∧ l ≤ i ∧ i < l + c then f (i - l) else if q = (2, 0, 0) ∧ i = 12 then nI (l + c) else μ q i
section FE
variable {L : Nat} {S : Ad → Nat → Int32} {d n q w m t s T T1 l c : Nat} {z : Int32} {i j j1 : Fin 15} {b b1 : Bool} {μ μ' μ1 μ1' μ2 : Mm} {f g : Nat → Int32} {a1 a2 a3 a4 a5 : Int32} {ν ν1 ν2 : Mm}
theorem tpC_8 {k : Nat} : tpC f l c μ (0, 0, 8) k = if l ≤ k ∧ k < l + c then f (k - l) else μ (0, 0, 8) k := by simp [tpC]
theorem tpC_7 : tpC f l c μ (0, 0, 7) 0 = nI (l + c) := by simp [tpC]
theorem tpC_q {q : Ad} (h1 : q ≠ (0, 0, 8)) (h2 : q ≠ (0, 0, 7)) : tpC f l c μ q = μ q := by
  funext k
  simp [tpC, h1, h2]
theorem tpC_0 (h : μ (0, 0, 7) 0 = nI l) : tpC f l 0 μ = μ := by
  funext q k
  unfold tpC
  rw [if_neg (by omega)]
  split
  · rename_i e
    rw [e.1, e.2, h]
    rfl
  · rfl
theorem tpC_s : mset (mset (tpC f l c μ) (0, 0, 8) (l + c) (f c)) (0, 0, 7) 0 (nI (l + c + 1)) = tpC f l (c + 1) μ := by
  funext q k
  by_cases e7 : q = (0, 0, 7)
  · subst e7
    by_cases ek : k = 0
    · subst ek
      rw [mset_gg, tpC_7]
      rfl
    · rw [mset_gk ek, mset_ne (by decide)]
      simp [tpC, ek]
  · rw [mset_ne e7]
    by_cases e8 : q = (0, 0, 8)
    · subst e8
      rw [tpC_8]
      by_cases ek : k = l + c
      · subst ek
        rw [mset_gg, if_pos (by omega), Nat.add_sub_cancel_left]
      · rw [mset_gk ek, tpC_8]
        by_cases c3 : l ≤ k ∧ k < l + c
        · rw [if_pos c3, if_pos (by omega)]
        · rw [if_neg c3, if_neg (by omega)]
    · rw [mset_ne e8, tpC_q e8 e7, tpC_q e8 e7]
theorem tpM_8 {k : Nat} : tpM f l c μ (2, 0, 8) k = if l ≤ k ∧ k < l + c then f (k - l) else μ (2, 0, 8) k := by simp [tpM]
theorem tpM_7 : tpM f l c μ (2, 0, 0) 12 = nI (l + c) := by simp [tpM]
theorem tpM_f {k : Nat} (h : k ≠ 12) : tpM f l c μ (2, 0, 0) k = μ (2, 0, 0) k := by simp [tpM, h]
theorem tpM_q {q : Ad} (h1 : q ≠ (2, 0, 8)) (h2 : q ≠ (2, 0, 0)) : tpM f l c μ q = μ q := by
  funext k
  simp [tpM, h1, h2]
theorem tpM_0 (h : μ (2, 0, 0) 12 = nI l) : tpM f l 0 μ = μ := by
  funext q k
  unfold tpM
  rw [if_neg (by omega)]
  split
  · rename_i e
    rw [e.1, e.2, h]
    rfl
  · rfl
theorem tpM_s : mset (mset (tpM f l c μ) (2, 0, 8) (l + c) (f c)) (2, 0, 0) 12 (nI (l + c + 1)) = tpM f l (c + 1) μ := by
  funext q k
  by_cases e7 : q = (2, 0, 0)
  · subst e7
    by_cases ek : k = 12
    · subst ek
      rw [mset_gg, tpM_7]
      rfl
    · rw [mset_gk ek, mset_ne (by decide), tpM_f ek, tpM_f ek]
  · rw [mset_ne e7]
    by_cases e8 : q = (2, 0, 8)
    · subst e8
      rw [tpM_8]
      by_cases ek : k = l + c
      · subst ek
        rw [mset_gg, if_pos (by omega), Nat.add_sub_cancel_left]
      · rw [mset_gk ek, tpM_8]
        by_cases c3 : l ≤ k ∧ k < l + c
        · rw [if_pos c3, if_pos (by omega)]
        · rw [if_neg c3, if_neg (by omega)]
    · rw [mset_ne e8, tpM_q e8 e7, tpM_q e8 e7]
/-- the int that byte k is of, and the byte on both sides -/
def ag (a1 a2 a3 a4 a5 : Int32) (k : Nat) : Int32 := if k < 4 then a1 else if k < 8 then a2 else if k < 12 then a3 else if k < 16 then a4 else a5
def byC (a : Nat → Int32) (k : Nat) : Int32 := (ushr (a k) (nI (24 - 8 * (k % 4)))) &&& 255
def byM (a : Nat → Int32) (k : Nat) : Int32 := vp_nar .byte (((a k) >>> (nI (24 - 8 * (k % 4)) &&& 31) : Int32).toInt8.toInt32)
theorem by_eq (a : Nat → Int32) (k : Nat) : ∃ v, v < 256 ∧ byC a k = nI v ∧ byM a k &&& 255 = nI v := by
  obtain ⟨v, hv, e⟩ := pk_andE (ushr (a k) (nI (24 - 8 * (k % 4)))) (m := 255) 8 (by decide)
  refine ⟨v, hv, e, ?_⟩
  unfold byM
  rw [pk_vb, bp_b, ← e]
  apply b_ext
  intro i hi
  rw [b_and, b_and, b_255]
  by_cases c : i < 8
  · rw [b_sshr _ (by omega) _ hi, if_pos (by omega)]
    have := b_ushr (24 - 8 * (k % 4)) (by omega) (a k) i
    unfold ushr
    rw [this]
  · simp [c]
theorem c_app1 {a : Int32} {s : Nat} (hs : s < 32) (hl : l + c < 60) (hf : f c = (ushr a (nI s)) &&& 255) {v : Rz} (h : Ev (fun F => run L S F d 69 3 [some (vR (0, 0, 7)), some (vI a), some (vI (nI s + (-8)))] (tpC f l (c + 1) μ)) v) : Ev (fun F => run L S F d 69 3 [some (vR (0, 0, 7)), some (vI a), some (vI (nI s))] (tpC f l c μ)) v := by
  refine Ev.step ?_
  simp only [e69_3, if_neg (nI_pos (show s < 2 ^ 31 by omega)), tpC_7, if_pos (show nI (l + c) < (60 : Int32) from nI_lt (b := 60) hl (by decide)), inb_n hl (show 60 < 2 ^ 31 by decide), cond_true, nI_clamp (show l + c < 2 ^ 31 by omega), ← hf, mset_ne (show ((0, 0, 7) : Ad) ≠ (0, 0, 8) by decide), nI_1, tpC_s]
  exact h
/-- four bytes -/
theorem c_app {a : Int32} (hl : l + c + 4 ≤ 60) (h0 : f c = (ushr a (nI 24)) &&& 255) (h1 : f (c + 1) = (ushr a (nI 16)) &&& 255) (h2 : f (c + 2) = (ushr a (nI 8)) &&& 255) (h3 : f (c + 3) = (ushr a (nI 0)) &&& 255) : Ev (fun F => run L S F d 69 0 [some (vR (0, 0, 7)), some (vI a), none] (tpC f l c μ)) (0, tpC f l (c + 4) μ) := by
  refine Ev.step ?_
  simp only [e69_0]
  refine c_app1 (s := 24) (by decide) (by omega) h0 ?_
  rw [show nI 24 + (-8) = nI 16 by decide]
  refine c_app1 (s := 16) (by decide) (by omega) h1 ?_
  rw [show nI 16 + (-8) = nI 8 by decide]
  refine c_app1 (s := 8) (by decide) (by omega) h2 ?_
  rw [show nI 8 + (-8) = nI 0 by decide]
  refine c_app1 (s := 0) (by decide) (by omega) h3 ?_
  refine Ev.step ?_
  simp only [e69_3, show nI 0 + (-8) < 0 by decide, if_true]
  exact Ev.ret
theorem m_feed_go (hl : l + 20 ≤ 60) : ∀ (m k : Nat), k + m = 20 → Ev (fun F => run L S F d 171 23 [some (vR (2, 0, 0)), some (vI a1), some (vI a2), some (vI a3), some (vI a4), some (vI a5), some (vI (nI k)), none] (tpM (byM (ag a1 a2 a3 a4 a5)) l k ν)) (nI (l + 20), tpM (byM (ag a1 a2 a3 a4 a5)) l 20 ν) := by
  intro m
  induction m with
  | zero =>
    intro k hk
    have hk : k = 20 := by omega
    subst hk
    refine Ev.step ?_
    simp only [e171_23, if_neg (show ¬ nI 20 < (20 : Int32) by decide), tpM_7]
    exact Ev.ret
  | succ m ih =>
    intro k hk
    have hi := ih (k + 1) (by omega)
    have r4 : nI k - nI k / 4 * 4 = nI (k % 4) := pk_rem (d := 4) (by omega) (by decide) (by decide)
    have s4 : ∀ j, j < 4 → (24 : Int32) - 8 * nI j = nI (24 - 8 * j) := by decide
    have go : ∀ a, ag a1 a2 a3 a4 a5 k = a → mset (mset (tpM (byM (ag a1 a2 a3 a4 a5)) l k ν) (2, 0, 8) (l + k) (vp_nar .byte ((a >>> (nI (24 - 8 * (k % 4)) &&& 31) : Int32).toInt8.toInt32))) (2, 0, 0) 12 (nI (l + k + 1)) = tpM (byM (ag a1 a2 a3 a4 a5)) l (k + 1) ν := fun a ha => by
      rw [← tpM_s]
      unfold byM
      rw [ha]
    refine Ev.step ?_
    simp only [e171_23, if_pos (show nI k < (20 : Int32) from nI_lt (b := 20) (by omega) (by decide)), tpM_7, inb_n (show l + k < 60 by omega) (by decide), cond_true, nI_clamp (show l + k < 2 ^ 31 by omega), r4, s4 (k % 4) (by omega), mset_ne (show ((2, 0, 0) : Ad) ≠ (2, 0, 8) by decide), nI_1]
    by_cases c4 : k < 4
    · simp only [if_pos (show nI k < (4 : Int32) from nI_lt (b := 4) c4 (by decide)), go a1 (by unfold ag; rw [if_pos c4])]
      exact hi
    · simp only [if_neg (show ¬ nI k < (4 : Int32) from nI_nlt (b := 4) (by omega) (by omega))]
      by_cases c8 : k < 8
      · simp only [if_pos (show nI k < (8 : Int32) from nI_lt (b := 8) c8 (by decide)), go a2 (by unfold ag; rw [if_neg c4, if_pos c8])]
        exact hi
      · simp only [if_neg (show ¬ nI k < (8 : Int32) from nI_nlt (b := 8) (by omega) (by omega))]
        by_cases c12 : k < 12
        · simp only [if_pos (show nI k < (12 : Int32) from nI_lt (b := 12) c12 (by decide)), go a3 (by unfold ag; rw [if_neg c4, if_neg c8, if_pos c12])]
          exact hi
        · simp only [if_neg (show ¬ nI k < (12 : Int32) from nI_nlt (b := 12) (by omega) (by omega))]
          by_cases c16 : k < 16
          · simp only [if_pos (show nI k < (16 : Int32) from nI_lt (b := 16) c16 (by decide)), go a4 (by unfold ag; rw [if_neg c4, if_neg c8, if_neg c12, if_pos c16])]
            exact hi
          · simp only [if_neg (show ¬ nI k < (16 : Int32) from nI_nlt (b := 16) (by omega) (by omega)), go a5 (by unfold ag; rw [if_neg c4, if_neg c8, if_neg c12, if_neg c16])]
            exact hi
theorem P_feed (h : Inv T μ μ') : PubR L S T 86 171 [some (vR (0, 0, 0)), some (vI a1), some (vI a2), some (vI a3), some (vI a4), some (vI a5)] [some (vR (2, 0, 0)), some (vI a1), some (vI a2), some (vI a3), some (vI a4), some (vI a5), none, none] μ μ' := by
  have hth := h.th
  obtain ⟨ν, n, q, w, t, s, e1, hB, hw, ht, hl0⟩ := q_open h
  have e2 : th0 μ' = ν := e1
  rw [e2] at hth
  have mfν : MF μ' ν := by rw [← e1]; exact MF.rf.set
  obtain ⟨hBk, hH, hI, ⟨l, l1, l2, l3, l4⟩, hF, hC⟩ := hth
  have n20 : nI l + 20 = nI (l + 20) := nI_add l 20
  by_cases c : l + 20 ≤ 60
  · have y : ¬ (60 : Int32) < nI (l + 20) := nI_nlt (a := 60) c (by decide)
    have cls : Ev (fun F => run L S F 30 86 0 [some (vR (0, 0, 0)), some (vI a1), some (vI a2), some (vI a3), some (vI a4), some (vI a5)] μ) (nI (l + 20), tpC (byC (ag a1 a2 a3 a4 a5)) l 20 μ) := by
      have h68 : Ev (fun F => run L S F 29 68 0 [some (vR (0, 0, 7))] μ) (1, μ) := Ev.step (by
        simp only [e68_0, l2, n20, if_neg y, narB1]
        exact Ev.ret)
      have p1 := c_app (L := L) (S := S) (d := 29) (μ := μ) (l := l) (c := 0) (f := byC (ag a1 a2 a3 a4 a5)) (a := a1) (by omega) rfl rfl rfl rfl
      rw [tpC_0 l2] at p1
      have p2 := c_app (L := L) (S := S) (d := 29) (μ := μ) (l := l) (c := 4) (f := byC (ag a1 a2 a3 a4 a5)) (a := a2) (by omega) rfl rfl rfl rfl
      have p3 := c_app (L := L) (S := S) (d := 29) (μ := μ) (l := l) (c := 8) (f := byC (ag a1 a2 a3 a4 a5)) (a := a3) (by omega) rfl rfl rfl rfl
      have p4 := c_app (L := L) (S := S) (d := 29) (μ := μ) (l := l) (c := 12) (f := byC (ag a1 a2 a3 a4 a5)) (a := a4) (by omega) rfl rfl rfl rfl
      have p5 := c_app (L := L) (S := S) (d := 29) (μ := μ) (l := l) (c := 16) (f := byC (ag a1 a2 a3 a4 a5)) (a := a5) (by omega) rfl rfl rfl rfl
      refine Ev.step ?_
      simp only [e86_0]
      refine Ev.bind h68 ?_
      simp only [i1, if_false]
      refine Ev.bind p1 (Ev.bind p2 (Ev.bind p3 (Ev.bind p4 (Ev.bind p5 ?_))))
      simp only [tpC_7]
      exact Ev.ret
    have ref : Ev (fun F => run L S F 30 171 0 [some (vR (2, 0, 0)), some (vI a1), some (vI a2), some (vI a3), some (vI a4), some (vI a5), none, none] μ') (nI (l + 20), tpM (byM (ag a1 a2 a3 a4 a5)) l 20 ν) := by
      refine Ev.step ?_
      simp only [e171_0, e1, l3, n20, if_neg y]
      have := m_feed_go (L := L) (S := S) (d := 30) (a1 := a1) (a2 := a2) (a3 := a3) (a4 := a4) (a5 := a5) (ν := ν) c 20 0 (by omega)
      rw [tpM_0 l3] at this
      exact this
    have cf : ∀ q : Ad, q ≠ (0, 0, 8) → q ≠ (0, 0, 7) → tpC (byC (ag a1 a2 a3 a4 a5)) l 20 μ q = μ q := fun q x y => tpC_q x y
    have mf : ∀ q : Ad, q ≠ (2, 0, 8) → q ≠ (2, 0, 0) → tpM (byM (ag a1 a2 a3 a4 a5)) l 20 ν q = ν q := fun q x y => tpM_q x y
    refine ⟨_, _, _, cls, ref, ⟨(hBk.fr (fun o => cf _ (by simp) (by simp)) (fun i _ => by rw [mf _ (by decide) (by decide)])).le (by omega), hH.fr2 (by omega) (fun q hq => cf q (fun e => by rw [e] at hq; exact absurd hq.1 (by decide)) (fun e => by rw [e] at hq; exact absurd hq.1 (by decide))) (by rw [cf _ (by decide) (by decide)]) (by rw [cf _ (by decide) (by decide)]) (mf _ (by decide) (by decide)) (tpM_f (by decide)), hI.fr2 (by omega) (fun q hq => cf q (fun e => by rw [e] at hq; exact absurd hq.1 (by decide)) (fun e => by rw [e] at hq; exact absurd hq.1 (by decide))) (by rw [cf _ (by decide) (by decide)]) (fun i _ => by rw [mf _ (by decide) (by decide)]) (mf _ (by decide) (by decide)), ⟨l + 20, c, tpC_7, tpM_7, fun k hk => ?_⟩, ?_, fun k hk => ?_⟩, fun q hq => cf q (fun e => by rw [e] at hq; exact absurd hq (by decide)) (fun e => by rw [e] at hq; exact absurd hq (by decide)), mfν.tr (fun q hq => mf q (fun e => hq (by rw [e])) (fun e => hq (by rw [e])))⟩
    · rw [tpC_8, tpM_8]
      by_cases y : l ≤ k
      · rw [if_pos ⟨y, hk⟩, if_pos ⟨y, hk⟩]
        exact by_eq _ _
      · rw [if_neg (fun x => y x.1), if_neg (fun x => y x.1)]
        exact l4 k (by omega)
    · unfold FlR
      rw [cf _ (by decide) (by decide), tpM_f (by decide), tpM_f (by decide)]
      exact hF
    · rw [mf _ (by decide) (by decide), mf _ (by decide) (by decide)]
      exact hC k hk
  · have y : (60 : Int32) < nI (l + 20) := nI_lt (a := 60) (by omega) (by omega)
    refine pub_n h e1 (-4) (Ev.step ?_) (Ev.step ?_)
    · have h68 : Ev (fun F => run L S F 29 68 0 [some (vR (0, 0, 7))] μ) (0, μ) := Ev.step (by
        simp only [e68_0, l2, n20, if_pos y, narB0]
        exact Ev.ret)
      simp only [e86_0]
      refine Ev.bind h68 ?_
      simp only [if_true]
      exact Ev.ret
    · simp only [e171_0, e1, l3, n20, if_pos y]
      exact Ev.ret
end FE
