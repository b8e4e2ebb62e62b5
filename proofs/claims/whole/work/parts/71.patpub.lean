/-! a pattern, as calls -/
section PU
variable {L : Nat} {S : Ad → Nat → Int32} {d e n q w m t s T T1 l c r p k sz op : Nat} {B : Nat → Nat} {z x : Int32} {μ μ' μ1 μ1' μ2 : Mm} {a1 a2 a3 a4 a5 : Int32} {ν ν0 ν1 ν2 κ : Mm} {f : Nat → Int32}
theorem c_pat_go (hw : w + m ≤ 99) (hm : m ≤ 48) (h3 : μ (0, 0, 9) 3 = nI m) (hf : ∀ k, k < m → μ (0, 0, 10) k = f k) : ∀ (k c : Nat), c + k = m → Ev (fun F => run L S F (d + 1) 87 133 [some (vR (0, 0, 0)), none, some (vI (nI c))] (addC 0 w f c μ)) (nI (w + m), addC 0 w f m μ) := by
  intro k
  have e3 : ∀ c, addC 0 w f c μ (0, 0, 9) 3 = nI m := fun c => (congrFun (addC_q (fun x => absurd x.1 (by decide))) 3).trans h3
  induction k with
  | zero =>
    intro c hc
    have hc : c = m := by omega
    subst hc
    refine Ev.step ?_
    simp only [e87_133, e3, if_neg (nI_nlt (Nat.le_refl c) (show c < 2 ^ 31 by omega)), addC_18]
    exact Ev.ret
  | succ k ih =>
    intro c hc
    have e10 : addC 0 w f c μ (0, 0, 10) c = f c := (congrFun (addC_q (fun x => absurd x.1 (by decide))) c).trans (hf c (by omega))
    have e5 : addC 0 w f c μ (1, 0, 0) 5 = μ (1, 0, 0) 5 := addC_o (by decide)
    refine Ev.step ?_
    simp only [e87_133, e3, if_pos (nI_lt (show c < m by omega) (show m < 2 ^ 31 by omega)), inb_n (show c < 48 by omega) (by decide), cond_true, nI_clamp (show c < 2 ^ 31 by omega), e10, e5, nI_1]
    exact Ev.bind (c_add (by omega)) (ih (c + 1) (by omega))
theorem m_pat_go (hw : w + m ≤ 99) (hm : m ≤ 48) (h3 : ν (2, 0, 0) 20 = nI m) (hf : ∀ k, k < m → ν (2, 0, 9) k = f k) : ∀ (k c : Nat), c + k = m → Ev (fun F => run L S F (d + 1) 179 86 [some (vR (2, 0, 0)), none, none, some (vI (nI c))] (askM w f c ν)) (nI (w + m), askM w f m ν) := by
  intro k
  have e3 : ∀ c, askM w f c ν (2, 0, 0) 20 = nI m := fun c => (congrFun (askM_q (by decide)) 20).trans h3
  induction k with
  | zero =>
    intro c hc
    have hc : c = m := by omega
    subst hc
    refine Ev.step ?_
    simp only [e179_86, e3, if_neg (nI_nlt (Nat.le_refl c) (show c < 2 ^ 31 by omega)), askM_5]
    exact Ev.ret
  | succ k ih =>
    intro c hc
    have e10 : askM w f c ν (2, 0, 9) c = f c := (congrFun (askM_q (by decide)) c).trans (hf c (by omega))
    refine Ev.step ?_
    simp only [e179_86, e3, if_pos (nI_lt (show c < m by omega) (show m < 2 ^ 31 by omega)), inb_n (show c < 48 by omega) (by decide), cond_true, nI_clamp (show c < 2 ^ 31 by omega), e10, nI_1]
    exact Ev.bind (m_ask (by omega)) (ih (c + 1) (by omega))
theorem c_att_go (hm : m ≤ 48) (h3 : μ (0, 0, 9) 3 = nI m) (hf : ∀ k, k < m → μ (0, 0, 10) k = f k) {v : Rz} (hv : Ev (fun F => (run L S F d 51 0 [some (vR (0, 0, 1)), some (vI (nI m)), none] (lsM f m μ)).bind fun p1 =>
      (run L S F d 54 0 [some (vR (0, 0, 1))] p1.2).bind fun p2 => some (p2.1, p2.2)) v) : ∀ (k c : Nat), c + k = m → Ev (fun F => run L S F (d + 1) 116 77 [some (vR (0, 0, 0)), none, some (vI (nI c))] (lsM f c μ)) v := by
  intro k
  have e3 : ∀ c, lsM f c μ (0, 0, 9) 3 = nI m := fun c => (congrFun (lsM_q (by decide)) 3).trans h3
  induction k with
  | zero =>
    intro c hc
    have hc : c = m := by omega
    subst hc
    refine Ev.step ?_
    simp only [e116_77, e3, if_neg (nI_nlt (Nat.le_refl c) (show c < 2 ^ 31 by omega))]
    exact hv
  | succ k ih =>
    intro c hc
    have e10 : lsM f c μ (0, 0, 10) c = f c := (congrFun (lsM_q (by decide)) c).trans (hf c (by omega))
    refine Ev.step ?_
    simp only [e116_77, e3, if_pos (nI_lt (show c < m by omega) (show m < 2 ^ 31 by omega)), inb_n (show c < 48 by omega) (by decide), inb_n (show c < 99 by omega) (by decide), cond_true, nI_clamp (show c < 2 ^ 31 by omega), e10, nI_1]
    have := ih (c + 1) (by omega)
    rw [← lsM_s] at this
    exact this
theorem m_att_go (hm : m ≤ 48) (h3 : ν (2, 0, 0) 20 = nI m) (hf : ∀ k, k < m → ν (2, 0, 9) k = f k) {v : Rz} (hv : Ev (fun F => (run L S F d 203 0 [some (vR (2, 0, 0)), none] (askM 0 f m ν)).bind fun p1 =>
      (run L S F d 202 0 [some (vR (2, 0, 0))] p1.2).bind fun p2 => some (p2.2 (2, 0, 0) 9, p2.2)) v) : ∀ (k c : Nat), c + k = m → Ev (fun F => run L S F (d + 1) 181 44 [some (vR (2, 0, 0)), none, some (vI (nI c))] (askM 0 f c ν)) v := by
  intro k
  have e3 : ∀ c, askM 0 f c ν (2, 0, 0) 20 = nI m := fun c => (congrFun (askM_q (by decide)) 20).trans h3
  induction k with
  | zero =>
    intro c hc
    have hc : c = m := by omega
    subst hc
    refine Ev.step ?_
    simp only [e181_44, e3, if_neg (nI_nlt (Nat.le_refl c) (show c < 2 ^ 31 by omega))]
    exact hv
  | succ k ih =>
    intro c hc
    have e10 : askM 0 f c ν (2, 0, 9) c = f c := (congrFun (askM_q (by decide)) c).trans (hf c (by omega))
    refine Ev.step ?_
    simp only [e181_44, e3, if_pos (nI_lt (show c < m by omega) (show m < 2 ^ 31 by omega)), inb_n (show c < 48 by omega) (by decide), cond_true, nI_clamp (show c < 2 ^ 31 by omega), e10, nI_1]
    exact Ev.bind (m_ask (by omega)) (ih (c + 1) (by omega))
/-- how many signs: none that is too many -/
theorem p_tape (h : TaR μ ν) (a1 : Int32) : ∃ l, μ (0, 0, 7) 0 = nI l ∧ ν (2, 0, 0) 12 = nI l ∧ l ≤ 60 ∧ ((¬ ((0 : Int32).toInt ≤ a1.toInt ∧ a1.toInt ≤ (nI l).toInt)) ∨ ∃ sz B, a1 = nI sz ∧ TB sz B μ ν ∧ ((0 : Int32).toInt ≤ a1.toInt ∧ a1.toInt ≤ (nI l).toInt)) := by
  obtain ⟨l, l1, l2, l3, l4⟩ := h
  refine ⟨l, l2, l3, l1, ?_⟩
  by_cases c : (0 : Int32).toInt ≤ a1.toInt ∧ a1.toInt ≤ (nI l).toInt
  · have el : (nI l).toInt = (l : Nat) := nI_toInt (by omega)
    have e0 : (0 : Int32).toInt = 0 := rfl
    refine Or.inr ⟨a1.toInt.toNat, fun i => (μ (0, 0, 8) i).toInt.toNat, nI_toNat (by omega), ⟨by omega, fun i hi => ?_⟩, c⟩
    obtain ⟨v, v1, v2, v3⟩ := l4 i (by omega)
    have e : (μ (0, 0, 8) i).toInt.toNat = v := by rw [v2, nI_toInt (by omega)]; exact Int.toNat_natCast v
    dsimp only
    rw [e]
    exact ⟨v2, v3, v1⟩
  · exact Or.inl c
theorem P_pattern (h : Inv T μ μ') : PubR L S T 87 179 [some (vR (0, 0, 0)), some (vI a1), none] [some (vR (2, 0, 0)), some (vI a1), none, none] μ μ' := by
  have hth := h.th
  obtain ⟨ν, n, q, w, t, s, e1, hB, hw, ht, hl0⟩ := q_open h
  have e2 : th0 μ' = ν := e1
  rw [e2] at hth
  have mfν : MF μ' ν := by rw [← e1]; exact MF.rf.set
  obtain ⟨hBk, hH, hI, hTa, hF, hC⟩ := hth
  have hN := hB.1.hn
  obtain ⟨l, l1, l2, l3, c⟩ := p_tape hTa a1
  rcases c with c | ⟨sz, B, rfl, hT8, c⟩
  · refine pub_n h e1 (-3) (Ev.step ?_) (Ev.step ?_)
    · rcases wi_f c with c1 | ⟨c1, c2⟩
      · simp only [e87_0, if_pos c1]
        exact Ev.ret
      · simp only [e87_0, if_neg c1, l1, if_pos c2]
        exact Ev.ret
    · simp only [e179_0, e1, l2]
      refine Ev.bind ev_within ?_
      simp only [if_neg c, if_true]
      exact Ev.ret
  · obtain ⟨c1, c2⟩ := wi_t c
    obtain ⟨y, μ2, ν2, p1, p2, p3, p4, p5, p6, p7, p8⟩ := p_reads (L := L) (S := S) hT8 hN.2.1 (show 1 ≤ n by omega) hN.2.2.2
    -- what both keep of it
    have k9 : ∀ q : Ad, q ≠ (0, 0, 7) → q ≠ (0, 0, 0) → mset (mset (mset μ2 (0, 0, 7) 0 0) (0, 0, 0) 5 (μ2 (0, 0, 9) 4)) (0, 0, 0) 6 (μ2 (0, 0, 9) 5) q = μ2 q := fun q a b => by rw [mset_ne b, mset_ne b, mset_ne a]
    have v9 : ∀ q : Ad, q ≠ (2, 0, 0) → mset (mset (mset ν2 (2, 0, 0) 12 0) (2, 0, 0) 17 (ν2 (2, 0, 0) 15)) (2, 0, 0) 18 (ν2 (2, 0, 0) 16) q = ν2 q := fun q a => by rw [mset_ne a, mset_ne a, mset_ne a]
    have v9k : ∀ k, k ≠ 12 → k ≠ 17 → k ≠ 18 → mset (mset (mset ν2 (2, 0, 0) 12 0) (2, 0, 0) 17 (ν2 (2, 0, 0) 15)) (2, 0, 0) 18 (ν2 (2, 0, 0) 16) (2, 0, 0) k = ν2 (2, 0, 0) k := fun k a b c => by rw [mset_gk c, mset_gk b, mset_gk a]
    have k7 : mset (mset (mset μ2 (0, 0, 7) 0 0) (0, 0, 0) 5 (μ2 (0, 0, 9) 4)) (0, 0, 0) 6 (μ2 (0, 0, 9) 5) (0, 0, 7) 0 = nI 0 := by rw [mset_ne (by decide), mset_ne (by decide), mset_gg]; rfl
    have v12 : mset (mset (mset ν2 (2, 0, 0) 12 0) (2, 0, 0) 17 (ν2 (2, 0, 0) 15)) (2, 0, 0) 18 (ν2 (2, 0, 0) 16) (2, 0, 0) 12 = nI 0 := by rw [mset_gk (by decide), mset_gk (by decide), mset_gg]; rfl
    have fl : FlR (mset (mset (mset μ2 (0, 0, 7) 0 0) (0, 0, 0) 5 (μ2 (0, 0, 9) 4)) (0, 0, 0) 6 (μ2 (0, 0, 9) 5)) (mset (mset (mset ν2 (2, 0, 0) 12 0) (2, 0, 0) 17 (ν2 (2, 0, 0) 15)) (2, 0, 0) 18 (ν2 (2, 0, 0) 16)) := by
      unfold FlR
      rw [mset_gk (show (5 : Nat) ≠ 6 by decide), mset_gg, mset_gg, mset_gk (show (17 : Nat) ≠ 18 by decide), mset_gg, mset_gg]
      exact ⟨p6, p7⟩
    have cls : ∀ v, Ev (fun F => if μ2 (0, 0, 9) 4 = 0 then
        if 48 < (mset (mset (mset μ2 (0, 0, 7) 0 0) (0, 0, 0) 5 (μ2 (0, 0, 9) 4)) (0, 0, 0) 6 (μ2 (0, 0, 9) 5) (1, 0, 18) 0 + mset (mset (mset μ2 (0, 0, 7) 0 0) (0, 0, 0) 5 (μ2 (0, 0, 9) 4)) (0, 0, 0) 6 (μ2 (0, 0, 9) 5) (0, 0, 9) 3) then
          some ((-4), mset (mset (mset μ2 (0, 0, 7) 0 0) (0, 0, 0) 5 (μ2 (0, 0, 9) 4)) (0, 0, 0) 6 (μ2 (0, 0, 9) 5))
        else
          (run L S F 29 63 0 [some (vR (0, 0, 4)), some (vR (1, 0, 0))] (mset (mset (mset μ2 (0, 0, 7) 0 0) (0, 0, 0) 5 (μ2 (0, 0, 9) 4)) (0, 0, 0) 6 (μ2 (0, 0, 9) 5))).bind fun p10 =>
          run L S F 30 87 133 [some (vR (0, 0, 0)), none, some (vI (nI 0))] p10.2
      else
        some (((-30) - μ2 (0, 0, 9) 4), mset (mset (mset μ2 (0, 0, 7) 0 0) (0, 0, 0) 5 (μ2 (0, 0, 9) 4)) (0, 0, 0) 6 (μ2 (0, 0, 9) 5))) v → Ev (fun F => run L S F 30 87 0 [some (vR (0, 0, 0)), some (vI (nI sz)), none] μ) v := fun v hv => by
      refine Ev.step ?_
      simp only [e87_0, if_neg c1, l1, if_neg c2, hN.1]
      refine Ev.bind p1 ?_
      have x4 : mset μ2 (0, 0, 7) 0 0 (0, 0, 9) 4 = μ2 (0, 0, 9) 4 := by rw [mset_ne (by decide)]
      have x5 : ∀ v, mset (mset μ2 (0, 0, 7) 0 0) (0, 0, 0) 5 v (0, 0, 9) 5 = μ2 (0, 0, 9) 5 := fun v => by rw [mset_ne (by decide), mset_ne (by decide)]
      have x44 : mset (mset (mset μ2 (0, 0, 7) 0 0) (0, 0, 0) 5 (μ2 (0, 0, 9) 4)) (0, 0, 0) 6 (μ2 (0, 0, 9) 5) (0, 0, 9) 4 = μ2 (0, 0, 9) 4 := by rw [k9 _ (by decide) (by decide)]
      simp only [x4, x5, x44]
      exact hv
    have ref : ∀ v, Ev (fun F => if y = 0 then
        some (((-30) - ν2 (2, 0, 0) 15), mset (mset (mset ν2 (2, 0, 0) 12 0) (2, 0, 0) 17 (ν2 (2, 0, 0) 15)) (2, 0, 0) 18 (ν2 (2, 0, 0) 16))
      else
        if 48 < (mset (mset (mset ν2 (2, 0, 0) 12 0) (2, 0, 0) 17 (ν2 (2, 0, 0) 15)) (2, 0, 0) 18 (ν2 (2, 0, 0) 16) (2, 0, 1) 5 + mset (mset (mset ν2 (2, 0, 0) 12 0) (2, 0, 0) 17 (ν2 (2, 0, 0) 15)) (2, 0, 0) 18 (ν2 (2, 0, 0) 16) (2, 0, 0) 20) then
          some ((-4), mset (mset (mset ν2 (2, 0, 0) 12 0) (2, 0, 0) 17 (ν2 (2, 0, 0) 15)) (2, 0, 0) 18 (ν2 (2, 0, 0) 16))
        else
          (run L S F 29 130 0 [some (vR (2, 0, 0)), none] (mset (mset (mset ν2 (2, 0, 0) 12 0) (2, 0, 0) 17 (ν2 (2, 0, 0) 15)) (2, 0, 0) 18 (ν2 (2, 0, 0) 16))).bind fun p12 =>
          run L S F 30 179 86 [some (vR (2, 0, 0)), none, none, some (vI (nI 0))] p12.2) v → Ev (fun F => run L S F 30 179 0 [some (vR (2, 0, 0)), some (vI (nI sz)), none, none] μ') v := fun v hv => by
      refine Ev.step ?_
      simp only [e179_0, e1, l2]
      refine Ev.bind ev_within ?_
      simp only [if_pos c, i1, if_false]
      refine Ev.bind p2 ?_
      have x15 : mset ν2 (2, 0, 0) 12 0 (2, 0, 0) 15 = ν2 (2, 0, 0) 15 := mset_gk (by decide)
      have x16 : ∀ v, mset (mset ν2 (2, 0, 0) 12 0) (2, 0, 0) 17 v (2, 0, 0) 16 = ν2 (2, 0, 0) 16 := fun v => by rw [mset_gk (by decide), mset_gk (by decide)]
      have x155 : mset (mset (mset ν2 (2, 0, 0) 12 0) (2, 0, 0) 17 (ν2 (2, 0, 0) 15)) (2, 0, 0) 18 (ν2 (2, 0, 0) 16) (2, 0, 0) 15 = ν2 (2, 0, 0) 15 := v9k 15 (by decide) (by decide) (by decide)
      simp only [x15, x16, x155]
      exact hv
    generalize mset (mset (mset μ2 (0, 0, 7) 0 0) (0, 0, 0) 5 (μ2 (0, 0, 9) 4)) (0, 0, 0) 6 (μ2 (0, 0, 9) 5) = μ6 at k9 k7 fl cls
    generalize mset (mset (mset ν2 (2, 0, 0) 12 0) (2, 0, 0) 17 (ν2 (2, 0, 0) 15)) (2, 0, 0) 18 (ν2 (2, 0, 0) 16) = ν9 at v9 v9k v12 fl ref
    have cf : ∀ q : Ad, q.1 ≠ 0 ∨ q = (0, 0, 4) → μ6 q = μ q := fun q hq => by
      have ne : ∀ o, o ≠ 4 → q ≠ (0, 0, o) := fun o ho e => by
        rcases hq with x | x
        · exact x (by rw [e])
        · rw [e] at x
          exact ho (by injection x with _ x; injection x)
      rw [k9 q (ne 7 (by decide)) (ne 0 (by decide))]
      exact p3 q (ne 9 (by decide)) (ne 10 (by decide)) (ne 11 (by decide)) (ne 12 (by decide))
    have mf : ∀ q : Ad, q ≠ (2, 0, 0) → q ≠ (2, 0, 9) → ν9 q = ν q := fun q a b => (v9 q a).trans (p5 q a b)
    have v4 : ν9 (2, 0, 0) 4 = ν (2, 0, 0) 4 := (v9k 4 (by decide) (by decide) (by decide)).trans (p4 4 (by decide) (by decide) (by decide) (by decide) (by decide))
    have inv : Inv T μ6 ν9 := ⟨hBk.fr (fun o => cf _ (Or.inl (by simp))) (fun i _ => by rw [mf _ (by decide) (by decide)]), hH.fr2 (Nat.le_refl _) (fun q hq => cf q (Or.inl (by omega))) (by rw [cf _ (Or.inr rfl)]) (by rw [cf _ (Or.inr rfl)]) (mf _ (by decide) (by decide)) v4, hI.fr2 (Nat.le_refl _) (fun q hq => cf q (Or.inl (by omega))) (by rw [cf _ (Or.inr rfl)]) (fun i _ => by rw [mf _ (by decide) (by decide)]) (mf _ (by decide) (by decide)), ⟨0, by omega, k7, v12, fun k hk => absurd hk (by omega)⟩, fl, fun k hk => by rw [mf _ (by decide) (by decide), mf _ (by decide) (by decide)]; exact hC k hk⟩
    have cff : CF μ μ6 := fun q hq => cf q (Or.inl (by omega))
    have mff : MF ν ν9 := fun q hq => mf q (fun e => hq (by rw [e])) (fun e => hq (by rw [e]))
    rcases p8 with ⟨rfl, q1, r, hr, hRD⟩ | ⟨rfl, q1⟩
    · have m4 : μ2 (0, 0, 9) 4 = 0 := p6.trans q1
      simp only [if_pos m4] at cls
      simp only [i1, if_false] at ref
      have hB9 : Bx n q w t s 0 false μ6 ν9 := hB.cp (fun o k _ => by rw [cf _ (Or.inl (by simp))]) (fun i _ => by rw [mf _ (by decide) (by decide)]) (fun x => by cases x)
      have hl9 : LG 0 μ6 ν9 := hl0.eq (fun o => cf _ (Or.inl (by simp))) (mf _ (by decide) (by decide))
      have x18 : μ6 (1, 0, 18) 0 = nI w := hB9.1.w5 rfl
      have x3 : μ6 (0, 0, 9) 3 = nI r := by rw [k9 _ (by decide) (by decide), hRD.2.2.1, Nat.min_eq_left hr]
      have x5 : ν9 (2, 0, 1) 5 = nI w := hB9.1.wt.1
      have x20 : ν9 (2, 0, 0) 20 = nI r := (v9k 20 (by decide) (by decide) (by decide)).trans hRD.2.1
      simp only [x18, x3] at cls
      simp only [x5, x20] at ref
      by_cases r48 : 48 < w + r
      · have y48 := (c48 hw hr).mpr r48
        refine ⟨-4, μ6, ν9, cls _ ?_, ref _ ?_, inv.le (by omega), cff, mfν.tr mff⟩
        · simp only [if_pos y48]
          exact Ev.ret
        · simp only [if_pos y48]
          exact Ev.ret
      · have y48 : ¬ (48 : Int32) < nI w + nI r := fun x => r48 ((c48 hw hr).mp x)
        obtain ⟨μ1, ν1, k1, k2, k3, k4, k5, k6, k7', k8, kq, kv, kk⟩ := p_keepB (L := L) (S := S) inv hB9
        have cells : ∀ k, k < r → μ1 (0, 0, 10) k = μ2 (0, 0, 10) k := fun k _ => by rw [kq _ (fun x => absurd x.1 (by decide)) (by decide), k9 _ (by decide) (by decide)]
        have cells2 : ∀ k, k < r → ν1 (2, 0, 9) k = μ2 (0, 0, 10) k := fun k hk => by rw [kv _ (by decide) (by decide), v9 _ (by decide)]; exact (hRD.2.2.2.2 k hk (by omega)).1.symm
        have rows : ∀ k, k < r → ∃ x, x < n ∧ μ2 (0, 0, 10) k = nI x := fun k hk => by
          obtain ⟨b1, x, b2, b3⟩ := hRD.2.2.2.2 k hk (by omega)
          exact ⟨x, b2, b1.trans b3⟩
        have z3 : μ1 (0, 0, 9) 3 = nI r := by rw [kq _ (fun x => absurd x.1 (by decide)) (by decide)]; exact x3
        have z20 : ν1 (2, 0, 0) 20 = nI r := (kk 20 (by decide)).trans x20
        have g1 := c_pat_go (L := L) (S := S) (d := 29) (w := w) (m := r) (f := fun k => μ2 (0, 0, 10) k) (by omega) hr z3 cells r 0 (by omega)
        rw [addC_0 (k4.1.w5 rfl)] at g1
        have g2 := m_pat_go (L := L) (S := S) (d := 29) (w := w) (m := r) (f := fun k => μ2 (0, 0, 10) k) (by omega) hr z20 cells2 r 0 (by omega)
        rw [askM_0 k4.1.wt.1] at g2
        refine pub_m e1 k3 (cff.tr k7') (mff.tr k8) addC_fco (askM_mk (by omega)) askM_mf (k4.adds rows (by omega)) (by omega) (by omega) ?_ (cls _ ?_) (ref _ ?_) (x := nI (w + r))
        · have := hl9.eq k5 k6
          unfold LG at this ⊢
          rw [addC_o (by decide), askM_o (by omega) (by omega)]
          exact this
        · simp only [if_neg y48]
          exact Ev.bind k1 g1
        · simp only [if_neg y48]
          exact Ev.bind k2 g2
    · have m4 : ¬ μ2 (0, 0, 9) 4 = 0 := fun x => q1 (p6.symm.trans x)
      refine ⟨-30 - ν2 (2, 0, 0) 15, μ6, ν9, cls _ ?_, ref _ ?_, inv.le (by omega), cff, mfν.tr mff⟩
      · simp only [p6, if_neg q1]
        exact Ev.ret
      · simp only [if_true]
        exact Ev.ret
theorem P_attack (h : Inv T μ μ') (hT : T + 600 < 2 ^ 27) : PubR L S T 116 181 [some (vR (0, 0, 0)), some (vI a1), none] [some (vR (2, 0, 0)), some (vI a1), none] μ μ' := by
  have hth := h.th
  obtain ⟨ν, n, q, w, t, s, e1, hB, hw, ht, hl0⟩ := q_open h
  have e2 : th0 μ' = ν := e1
  rw [e2] at hth
  have hTa := hth.2.2.2.1
  have hN := hB.1.hn
  obtain ⟨l, l1, l2, l3, c⟩ := p_tape hTa a1
  rcases c with c | ⟨sz, B, rfl, hT8, c⟩
  · refine pub_n h e1 (-3) (Ev.step ?_) (Ev.step ?_)
    · rcases wi_f c with c1 | ⟨c1, c2⟩
      · simp only [e116_0, if_pos c1]
        exact Ev.ret
      · simp only [e116_0, if_neg c1, l1, if_pos c2]
        exact Ev.ret
    · simp only [e181_0, e1, l2]
      refine Ev.bind ev_within ?_
      simp only [if_neg c, if_true]
      exact Ev.ret
  · obtain ⟨c1, c2⟩ := wi_t c
    obtain ⟨y, μ2, ν2, p1, p2, p3, p4, p5, p6, p7, p8⟩ := p_reads (L := L) (S := S) hT8 hN.2.1 (show 1 ≤ n by omega) hN.2.2.2
    have pw : PW μ μ2 := fun q hq => p3 q (fun e => by subst e; exact absurd hq (by unfold KW CK; simp)) (fun e => by subst e; exact absurd hq (by unfold KW CK; simp)) (fun e => by subst e; exact absurd hq (by unfold KW CK; simp)) (fun e => by subst e; exact absurd hq (by unfold KW CK; simp))
    have rs : RSv ν ν2 := ⟨fun i => by rw [p5 _ (by decide) (by decide)], ⟨fun i _ => by rw [p5 _ (by decide) (by decide)], fun o ho => p5 _ (by simp; omega) (by simp; omega), fun k hk => p4 k (by omega) (by omega) (by omega) (by omega) (by omega)⟩, fun q hq => p5 q (fun e => hq (by rw [e])) (fun e => hq (by rw [e]))⟩
    rcases p8 with ⟨rfl, q1, r, hr, hRD⟩ | ⟨rfl, q1⟩
    · have m4 : μ2 (0, 0, 9) 4 = 0 := p6.trans q1
      have hB2 : Bx n q w t s 0 false μ2 ν2 := hB.cp (fun o k _ => by rw [pw _ (Or.inr (Or.inl ⟨rfl, rfl⟩))]) (fun i _ => rs.1 i) (fun x => by cases x)
      obtain ⟨μ3, t1, t2, t3⟩ := p_take (L := L) (S := S) (d := 27) hB2 (by omega)
      have f3 : ∀ q : Ad, q.1 = 0 → μ3 q = μ2 q := fun q hq => t3 q (fun x => by have := x.1; omega)
      have x3 : μ3 (0, 0, 9) 3 = nI r := by rw [f3 _ rfl, hRD.2.2.1, Nat.min_eq_left hr]
      have cells : ∀ k, k < r → μ3 (0, 0, 10) k = μ2 (0, 0, 10) k := fun k _ => by rw [f3 _ rfl]
      have rows : ∀ k, k < r → ∃ x, x < n ∧ μ2 (0, 0, 10) k = nI x := fun k hk => by
        obtain ⟨b1, x, b2, b3⟩ := hRD.2.2.2.2 k hk (by omega)
        exact ⟨x, b2, b1.trans b3⟩
      have hlc : ∀ k, k < r → lsM (fun k => μ2 (0, 0, 10) k) r μ3 (0, 0, 2) k = μ2 (0, 0, 10) k := fun k hk => lsM_at hk
      have h2 : Ba n q t s (lsM (fun k => μ2 (0, 0, 10) k) r μ3) ν2 := t2.sv lsM_g RSv.rf
      obtain ⟨v, tk, q9, w9, t9, s9, μ4, ν4, b1, b2, b3, b4, b5, b6, b7, b8, b9, b10⟩ := p_run (L := L) (S := S) (d := 17) (m := r) h2 (by omega) (by omega) (fun k hk => by rw [hlc k hk]; exact rows k hk)
      obtain ⟨g1, g2, g3, g4⟩ := run_flips h2 b4 b7 b8
      rw [askM_cg hlc] at b2
      have o20 : opM ν2 v (2, 0, 0) 20 = nI r := (opM_f (by decide)).trans hRD.2.1
      have oc : ∀ k, k < r → opM ν2 v (2, 0, 9) k = μ2 (0, 0, 10) k := fun k hk => by rw [opM_q (by decide) (by decide) (by decide)]; exact (hRD.2.2.2.2 k hk (by omega)).1.symm
      have h54 : Ev (fun F => run L S F 29 54 0 [some (vR (0, 0, 1))] μ4) (μ4 (1, 2, 2) 3, μ4) := Ev.step (by
        simp only [e54_0]
        exact Ev.ret)
      have ca := c_att_go (L := L) (S := S) (d := 29) (f := fun k => μ2 (0, 0, 10) k) hr x3 cells (v := (μ4 (1, 2, 2) 3, μ4)) (Ev.bind (b3.dp (by omega)) (Ev.bind h54 Ev.ret)) r 0 (by omega)
      rw [lsM_0] at ca
      have c9 : cpr ν4 (2, 0, 3) 0 (2, 0, 1) 0 0 (2, 0, 0) 9 = μ4 (1, 2, 2) 3 := by rw [cpr_ne (by decide)]; exact g2.symm
      have ma := m_att_go (L := L) (S := S) (d := 29) (f := fun k => μ2 (0, 0, 10) k) hr o20 oc (v := (μ4 (1, 2, 2) 3, cpr ν4 (2, 0, 3) 0 (2, 0, 1) 0 0)) (Ev.bind b2 (Ev.bind m_closes (by
        dsimp only
        rw [c9]
        exact Ev.ret))) r 0 (by omega)
      rw [askM_0 opM_5] at ma
      refine pub_p hth e1 (((pw.tr t3.w1).tr lsM_g.w).tr b7.g.w) (rs.tr (closes_rs b8).k.v) (Ev.step ?_) (Ev.step ?_) (x := μ4 (1, 2, 2) 3)
      · simp only [e116_0, if_neg c1, l1, if_neg c2, hN.1]
        refine Ev.bind p1 ?_
        simp only [m4, if_true]
        exact Ev.bind t1 ca
      · simp only [e181_0, e1, l2]
        refine Ev.bind ev_within ?_
        simp only [if_pos c, i1, if_false]
        refine Ev.bind p2 ?_
        simp only [i1, if_false]
        exact Ev.bind (b1.dp (by omega)) ma
    · have m4 : ¬ μ2 (0, 0, 9) 4 = 0 := fun x => q1 (p6.symm.trans x)
      refine pub_p hth e1 pw rs (Ev.step ?_) (Ev.step ?_) (x := -30 - ν2 (2, 0, 0) 15)
      · simp only [e116_0, if_neg c1, l1, if_neg c2, hN.1]
        refine Ev.bind p1 ?_
        simp only [p6, if_neg q1]
        exact Ev.ret
      · simp only [e181_0, e1, l2]
        refine Ev.bind ev_within ?_
        simp only [if_pos c, i1, if_false]
        refine Ev.bind p2 ?_
        simp only [if_true]
        exact Ev.ret
end PU
