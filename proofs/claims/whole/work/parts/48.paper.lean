/-! on paper: it begins, ticks go by -/
def PF (μ μ1 : Mm) : Prop := ∀ q : Ad, ¬ (q.1 = 1 ∧ q.2.1 = 2) → q ≠ (0, 0, 1) → μ1 q = μ q
theorem PF.rf {μ : Mm} : PF μ μ := fun _ _ _ => rfl
theorem PF.tr {μ μ1 μ2 : Mm} (h : PF μ μ1) (h2 : PF μ1 μ2) : PF μ μ2 := fun q a c => (h2 q a c).trans (h q a c)
theorem FCo.pf {μ μ1 : Mm} (h : FCo 2 μ μ1) : PF μ μ1 := fun q a _ => h q a
theorem PF.tk {μ μ1 : Mm} {v : Int32} (h : PF μ μ1) : PF μ (mset μ1 (0, 0, 1) 4 v) := fun q a c => by
  rw [mset_ne c]
  exact h q a c
theorem PF.set {μ μ1 : Mm} {o k : Nat} {v : Int32} (h : PF μ μ1) : PF μ (mset μ1 (1, 2, o) k v) := fun q a c => by
  rw [mset_ne (fun e => a (by rw [e]; exact ⟨rfl, rfl⟩))]
  exact h q a c
def FMx (μ' μ1' : Mm) : Prop := (∀ q : Ad, q ≠ (2, 0, 1) → q ≠ (2, 0, 0) → μ1' q = μ' q) ∧ (∀ i, 426 ≤ i → μ1' (2, 0, 1) i = μ' (2, 0, 1) i) ∧ ∀ k, k ≠ 9 → k ≠ 10 → μ1' (2, 0, 0) k = μ' (2, 0, 0) k
theorem FMx.rf {μ : Mm} : FMx μ μ := ⟨fun _ _ _ => rfl, fun _ _ => rfl, fun _ _ _ => rfl⟩
theorem FMx.tr {μ μ1 μ2 : Mm} (h : FMx μ μ1) (h2 : FMx μ1 μ2) : FMx μ μ2 := ⟨fun q a b => (h2.1 q a b).trans (h.1 q a b), fun i a => (h2.2.1 i a).trans (h.2.1 i a), fun k a b => (h2.2.2 k a b).trans (h.2.2 k a b)⟩
theorem FMo.x {c : Nat} {μ μ1 : Mm} (h : FMo c μ μ1) : FMx μ μ1 := ⟨h.1, h.2.1, h.2.2.1⟩
theorem FMx.set {μ μ1 : Mm} {i : Nat} {v : Int32} (h : FMx μ μ1) (hi : i < 426) : FMx μ (mset μ1 (2, 0, 1) i v) :=
  ⟨fun q a c => by rw [mset_ne a]; exact h.1 q a c, fun k hk => by rw [mset_gk (by omega)]; exact h.2.1 k hk, fun k a c => by rw [mset_ne (by decide)]; exact h.2.2 k a c⟩
theorem FMx.mk {μ' μ1' : Mm} (h : FMx μ' μ1') : MK μ' μ1' := ⟨h.2.1, fun o ho => h.1 _ (by simp; omega) (by simp; omega), fun k hk => h.2.2 k (by omega) (by omega)⟩
theorem FMx.mf {μ' μ1' : Mm} (h : FMx μ' μ1') : MF μ' μ1' := fun q hq => h.1 q (fun e => hq (by rw [e])) (fun e => hq (by rw [e]))
def MN (μ' μ1' : Mm) : Prop := (μ' (2, 0, 1) 16).toInt ≤ (μ1' (2, 0, 1) 16).toInt ∧ (μ' (2, 0, 0) 9).toInt ≤ (μ1' (2, 0, 0) 9).toInt
theorem MN.rf {μ : Mm} : MN μ μ := ⟨Int.le_refl _, Int.le_refl _⟩
theorem MN.tr {μ μ1 μ2 : Mm} (h : MN μ μ1) (h2 : MN μ1 μ2) : MN μ μ2 := ⟨Int.le_trans h.1 h2.1, Int.le_trans h.2 h2.2⟩
def opM (μ' : Mm) (v : Int32) : Mm := mset (mset (cpr μ' (2, 0, 1) 0 (2, 0, 3) 0 0) (2, 0, 1) 5 0) (2, 0, 0) 9 v
section PA
variable {L : Nat} {S : Ad → Nat → Int32} {d n q w m t s T T1 : Nat} {z : Int32} {i j j1 : Fin 15} {b b1 : Bool} {μ μ' μ1 μ1' μ2 : Mm} {f : Nat → Int32}
theorem FMx.asks (hw : w + m ≤ 99) : FMx μ' (askM w f m μ') := ⟨fun q a _ => askM_q a, fun k hk => askM_o (by omega) hw, fun k _ _ => by rw [askM_q (by decide)]⟩
/-- of a peak: it is the greatest, or 0 -/
def PkR (n : Nat) (μ' : Mm) (v : Int32) : Prop := 0 ≤ v.toInt ∧ (∀ i, i < n → (μ' (2, 0, 1) (60 + i)).toInt ≤ v.toInt) ∧ (v = 0 ∨ ∃ i, i < n ∧ v = μ' (2, 0, 1) (60 + i))
theorem opM_k {v : Int32} {k : Nat} (h : k ≠ 5) : opM μ' v (2, 0, 1) k = μ' (2, 0, 1) k := by
  unfold opM
  rw [mset_ne (by decide), mset_gk h, cpr_ne (by decide)]
theorem opM_5 {v : Int32} : opM μ' v (2, 0, 1) 5 = 0 := by
  unfold opM
  rw [mset_ne (by decide), mset_gg]
theorem opM_9 {v : Int32} : opM μ' v (2, 0, 0) 9 = v := mset_gg
theorem opM_f {v : Int32} {k : Nat} (h : k ≠ 9) : opM μ' v (2, 0, 0) k = μ' (2, 0, 0) k := by
  unfold opM
  rw [mset_gk h, mset_ne (by decide), cpr_ne (by decide)]
theorem opM_q {v : Int32} {q : Ad} (h0 : q ≠ (2, 0, 0)) (h1 : q ≠ (2, 0, 1)) (h3 : q ≠ (2, 0, 3)) : opM μ' v q = μ' q := by
  unfold opM
  rw [mset_ne h0, mset_ne h1]
  funext k
  exact cpr_ne h3
theorem opM_p {v : Int32} {k : Nat} (h : k < 426) : opM μ' v (2, 0, 3) k = μ' (2, 0, 1) k := by
  unfold opM
  rw [mset_ne (by decide), mset_ne (by decide)]
  have := cpr_in (μ := μ') (a := (2, 0, 1)) (c := (2, 0, 3)) (f := 0) (t := 0) h
  rw [Nat.zero_add] at this
  exact this
theorem m_opens (hn : μ' (2, 0, 1) 0 = nI n) (hn2 : n ≤ 16) : ∃ v, Ev (fun F => run L S F (d + 1) 201 0 [some (vR (2, 0, 0)), none] μ') (0, opM μ' v) ∧ PkR n μ' v := by
  have g : ∀ i, mset (cpr μ' (2, 0, 1) 0 (2, 0, 3) 0 0) (2, 0, 1) 5 0 (2, 0, 1) (60 + i) = μ' (2, 0, 1) (60 + i) := fun i => by
    rw [mset_gk (by omega), cpr_ne (by decide)]
  obtain ⟨v, a1, a2, a3, a4⟩ := m_peak_go (L := L) (S := S) (d := d) (n := n) (μ' := mset (cpr μ' (2, 0, 1) 0 (2, 0, 3) 0 0) (2, 0, 1) 5 0) (by rw [mset_gk (by decide), cpr_ne (by decide)]; exact hn) hn2 n 0 0 (by omega)
  refine ⟨v, Ev.step ?_, ?_, fun i hi => ?_, ?_⟩
  · simp only [e201_0]
    exact Ev.bind m_cp_paper a1
  · have z0 : (0 : Int32).toInt = 0 := rfl
    omega
  · have := a3 i (by omega) hi
    rw [g] at this
    exact this
  · rcases a4 with x | ⟨i, hi, x⟩
    · exact Or.inl x
    · exact Or.inr ⟨i, hi, by rw [x, g]⟩
theorem c_start (h : Bx n q w t s i b μ μ') (hi : i ≠ 2) (hw : w ≤ 99) {v : Int32} (hv : PkR n μ' v) (hm : ∀ k, k < 426 → μ1' (2, 0, 1) k = μ' (2, 0, 1) k) (h9 : μ1' (2, 0, 0) 9 = v) :
    ∃ μ1, Ev (fun F => run L S F (d + 2) 50 0 [some (vR (0, 0, 1)), some (vR (1, i, 0))] μ) (0, μ1) ∧ Bx n q w t s 2 true μ1 μ1' ∧ μ1 (0, 0, 1) 4 = nI 0 ∧ μ1 (1, 2, 24) 2 = 0 ∧ PF μ μ1 := by
  have hN := h.1.hn
  have hq : q ≤ 16 := Nat.le_trans h.1.qu.2.1 hN.2.2.2
  obtain ⟨ν, a1, a2, a3⟩ := s_copy (L := L) (S := S) (d := d) (μ := μ) (w := w) (q := q) hi (h.1.w5 rfl) hw ((h.1.lc 21 0 4 rfl (by omega)).trans h.1.qu.1) hq
  have hB : Bx n q w t s 2 false ν μ1' := h.cp a2 hm (fun x => by cases x)
  have hN2 := hB.1.hn
  have a4 := s_most (L := L) (S := S) (d := d + 1) (μ := ν) (j := 2) hN2.1 (by omega) hN2.2.2.2
  have b1 := bst_lt (ν (1, 2, 5)) (n - 1) 1 0 n (by omega) (by omega)
  obtain ⟨b2, b3⟩ := bst_le (ν (1, 2, 5)) (n - 1) 1 0
  generalize bst (ν (1, 2, 5)) (n - 1) 1 0 = r at a4 b1 b2 b3
  have gd : ∀ k, k < n → ν (1, 2, 5) k = μ' (2, 0, 1) (60 + k) := fun k hk => (hB.1.lc 5 k (60 + k) (by simp [loc, hk]) (by omega)).trans (hm _ (by omega))
  have all : ∀ k, k < n → (ν (1, 2, 5) k).toInt ≤ (ν (1, 2, 5) r).toInt := fun k hk => by
    by_cases e : k = 0
    · subst e; exact b2
    · exact b3 k (by omega) (by omega)
  have hv2 : ν (1, 2, 5) r = v := by
    obtain ⟨v1, v2, v3⟩ := hv
    apply Int32.toInt_inj.mp
    have x1 := v2 r b1
    rw [← gd r b1] at x1
    have x2 := (h.2.2.2.2.1 r (by omega)).1
    rw [← gd r b1] at x2
    rcases v3 with rfl | ⟨k, hk, rfl⟩
    · have z0 : (0 : Int32).toInt = 0 := rfl
      rw [z0] at x1 ⊢
      omega
    · have := all k hk
      rw [gd k hk] at this
      omega
  refine ⟨mset (mset (mset ν (1, 2, 2) 3 v) (1, 2, 24) 2 0) (0, 0, 1) 4 0, Ev.step ?_, ?_, mset_gg, ?_, ?_⟩
  · simp only [e50_0]
    refine Ev.bind a1 (Ev.bind a4 ?_)
    simp only [inb_n (show r < 16 by omega) (by decide), cond_true, nI_clamp (show r < 2 ^ 31 by omega), hv2]
    exact Ev.ret
  · have hR := hB.1
    refine ⟨⟨⟨?_, by omega⟩, hR.wt.keep (fun o k x => ?_) (fun _ _ => rfl), hR.qu.keep hN.2.2.2 (fun o k x => ?_) (fun _ _ => rfl), hR.pm.keep (fun o k x => ?_), hR.so.keep ?_ (fun _ _ => rfl), hR.rg, hR.se, ?_, fun _ => ?_⟩, hB.2⟩
    · intro o k i' hl hi'
      rw [mset_ne (by simp), mset_g, if_neg (loc_ne hl 24 2 rfl ∘ fun x => ⟨x.1.symm, x.2.symm⟩), mset_g, if_neg (loc_ne hl 2 3 rfl ∘ fun x => ⟨x.1.symm, x.2.symm⟩)]
      exact hR.1.1 o k i' hl hi'
    · rw [mset_ne (by simp), mset_go (by omega), mset_go (by omega)]
    · rw [mset_ne (by simp), mset_go (by omega), mset_go (by omega)]
    · rw [mset_ne (by simp), mset_go (by omega), mset_go (by omega)]
    · rw [mset_ne (by simp), mset_go (by omega), mset_go (by omega)]
    · rw [mset_ne (by simp), mset_gk (by omega), mset_go (by omega)]
      exact hR.hz
    · rw [mset_ne (by simp), mset_go (by omega), mset_gg, h9]
  · rw [mset_ne (by decide), mset_gg]
  · exact (a3.pf.set.set).tk
/-- a tick, with the numbers -/
theorem Bx.tick (h : Bx n q w t s j b μ μ') (ht : t + 2 < 2 ^ 27) : ∃ q1 w1 s1 μ1 μ1', Ev (fun F => run L S F (d + 7) 39 0 [some (vR (1, j, 0)), none] μ) (0, μ1) ∧ Ev (fun F => run L S F (d + 11) 161 0 [some (vR (2, 0, 0)), none, none] μ') (0, μ1') ∧ Bx n q1 w1 (t + 1) s1 j b μ1 μ1' ∧ FCo j μ μ1 ∧ FMx μ' μ1' ∧ LWp j w w1 μ μ' μ1 μ1' ∧ MN μ' μ1' := by
  obtain ⟨hR, h1, h2, h3, h4⟩ := h
  obtain ⟨q1, w1, μ1, μ1', s1, a1, a2, a3, a4, a5, a6, a7, a8, a9⟩ := p_tick (L := L) (S := S) hR h1 h2 h3 (by omega)
  refine ⟨q1, w1, s1, μ1, μ1', Ev.at 130 (fun F hF => a1 F _ hF (by omega)), Ev.at 200 (fun F hF => a2 F _ hF (by omega)), ⟨a3, a6, a7, a8, fun r hr => ?_, ?_⟩, a4, a5.x, a9, ?_⟩
  · have := a5.2.2.2.1 r hr (12 * t) (by omega) (h4.1 r hr).1 (h4.1 r hr).2
    omega
  · obtain ⟨k, k1, k2⟩ := a5.2.2.2.2.1
    have e : (nI k).toInt = (k : Int) := nI_toInt (by omega)
    have k2 : μ1' (2, 0, 1) 16 = μ' (2, 0, 1) 16 + nI k := k2
    have h5 := h4.2
    rw [k2, Kit.i32_add (by rw [e]; omega) (by rw [e]; omega), e]
    omega
  · obtain ⟨k, k1, k2⟩ := a5.2.2.2.2.1
    have e : (nI k).toInt = (k : Int) := nI_toInt (by omega)
    have k2 : μ1' (2, 0, 1) 16 = μ' (2, 0, 1) 16 + nI k := k2
    have h5 := h4.2
    refine ⟨?_, a5.2.2.2.2.2⟩
    rw [k2, Kit.i32_add (by rw [e]; omega) (by rw [e]; omega), e]
    omega
theorem s_busy (h : R n q w z 1000 j b μ μ') : Ev (fun F => run L S F d 38 0 [some (vR (1, j, 0))] μ) (if 0 < w ∨ 0 < q ∨ (0 : Int32) < μ' (2, 0, 1) 8 then 1 else 0, μ) := by
  have hN := h.hn
  have hw := h.wt.2.1
  have hq := h.qu.2.1
  refine Ev.step ?_
  simp only [e38_0]
  simp only [h.w5 rfl, (h.lc 21 0 4 rfl (by omega)).trans h.qu.1, h.lc 0 8 8 rfl (by omega), narB0, narB1]
  by_cases c1 : 0 < w
  · simp only [if_pos (show (0 : Int32) < nI w from nI_lt (a := 0) c1 (by omega)), if_pos (Or.inl c1)]
    exact Ev.ret
  · have : w = 0 := by omega
    subst this
    simp only [if_neg (show ¬ (0 : Int32) < nI 0 by decide)]
    by_cases c2 : 0 < q
    · simp only [if_pos (show (0 : Int32) < nI q from nI_lt (a := 0) c2 (by omega)), if_pos (Or.inr (Or.inl c2))]
      exact Ev.ret
    · have : q = 0 := by omega
      subst this
      simp only [if_neg (show ¬ (0 : Int32) < nI 0 by decide)]
      by_cases c3 : (0 : Int32) < μ' (2, 0, 1) 8
      · simp only [if_pos c3, if_pos (show 0 < 0 ∨ 0 < 0 ∨ (0 : Int32) < μ' (2, 0, 1) 8 from Or.inr (Or.inr c3))]
        exact Ev.ret
      · simp only [if_neg c3, if_neg (show ¬ (0 < 0 ∨ 0 < 0 ∨ (0 : Int32) < μ' (2, 0, 1) 8) from fun x => by rcases x with x | x | x; exact absurd x (by decide); exact absurd x (by decide); exact c3 x)]
        exact Ev.ret
theorem m_goes_step (h : R n q w z 1000 j b μ μ') (hb : 0 < w ∨ 0 < q ∨ (0 : Int32) < μ' (2, 0, 1) 8) {c : Nat} (hc : c < 500) {v : Rz} {ν' : Mm} (h1 : Ev (fun F => run L S F d 161 0 [some (vR (2, 0, 0)), none, none] μ') (0, ν')) (h2 : Ev (fun F => run L S F (d + 1) 203 2 [some (vR (2, 0, 0)), some (vI (nI (c + 1)))] ν') v) : Ev (fun F => run L S F (d + 1) 203 2 [some (vR (2, 0, 0)), some (vI (nI c))] μ') v := by
  have hN := h.hn
  have hw := h.wt.2.1
  have hq := h.qu.2.1
  refine Ev.step ?_
  simp only [e203_2]
  simp only [if_pos (show nI c < (500 : Int32) from nI_lt (b := 500) hc (by decide)), h.wt.1, h.qu.1, nI_1]
  have go := Ev.bind (g := fun F p => run L S F (d + 1) 203 2 [some (vR (2, 0, 0)), some (vI (nI (c + 1)))] p.2) h1 h2
  by_cases c1 : 0 < w
  · simp only [if_pos (show (0 : Int32) < nI w from nI_lt (a := 0) c1 (by omega))]
    exact go
  · have : w = 0 := by omega
    subst this
    simp only [if_neg (show ¬ (0 : Int32) < nI 0 by decide)]
    by_cases c2 : 0 < q
    · simp only [if_pos (show (0 : Int32) < nI q from nI_lt (a := 0) c2 (by omega))]
      exact go
    · have : q = 0 := by omega
      subst this
      have c3 : (0 : Int32) < μ' (2, 0, 1) 8 := by
        rcases hb with x | x | x
        · exact absurd x (by decide)
        · exact absurd x (by decide)
        · exact x
      simp only [if_neg (show ¬ (0 : Int32) < nI 0 by decide), if_pos c3]
      exact go
theorem p_goes : ∀ (m c q w t s : Nat) (μ μ' : Mm), c + m = 500 → Bx n q w t s 2 true μ μ' → t + m + 2 < 2 ^ 27 → μ (0, 0, 1) 4 = nI c →
    ∃ tk q1 w1 t1 s1 μ1 μ1', Ev (fun F => run L S F (d + 8) 51 50 [some (vR (0, 0, 1)), none, none] μ) (0, μ1) ∧ Ev (fun F => run L S F (d + 12) 203 2 [some (vR (2, 0, 0)), some (vI (nI c))] μ') (nI tk, μ1') ∧ tk ≤ 500 ∧ Bx n q1 w1 t1 s1 2 true μ1 μ1' ∧ μ1 (0, 0, 1) 4 = nI tk ∧ PF μ μ1 ∧ FMx μ' μ1' ∧ MN μ' μ1' := by
  intro m
  induction m with
  | zero =>
    intro c q w t s μ μ' hc h ht h4
    have hc : c = 500 := by omega
    subst hc
    refine ⟨500, q, w, t, s, μ, μ', Ev.step ?_, Ev.step ?_, Nat.le_refl _, h, h4, PF.rf, FMx.rf, MN.rf⟩
    · simp only [e51_50]
      simp only [h4, if_neg (show ¬ nI 500 < (500 : Int32) by decide)]
      exact Ev.ret
    · simp only [e203_2]
      simp only [if_neg (show ¬ nI 500 < (500 : Int32) by decide)]
      exact Ev.ret
  | succ m ih =>
    intro c q w t s μ μ' hc h ht h4
    by_cases hb : 0 < w ∨ 0 < q ∨ (0 : Int32) < μ' (2, 0, 1) 8
    · obtain ⟨q1, w1, s1, μ1, μ1', a1, a2, a3, a4, a5, a6, a7⟩ := Bx.tick (L := L) (S := S) (d := d) h (by omega)
      have e4 : μ1 (0, 0, 1) 4 = nI c := (congrFun (a4 (0, 0, 1) (fun x => absurd x.1 (by decide))) 4).trans h4
      have h3 : Bx n q1 w1 (t + 1) s1 2 true (mset μ1 (0, 0, 1) 4 (nI (c + 1))) μ1' := a3.cp (fun o k _ => by rw [mset_ne (by simp)]) (fun _ _ => rfl) (fun _ => by rw [mset_ne (by simp)]; exact a3.1.pk rfl)
      obtain ⟨tk, q2, w2, t2, s2, μ2, μ2', b1, b2, b3, b4, b5, b6, b7, b8⟩ := ih (c + 1) q1 w1 (t + 1) s1 _ μ1' (by omega) h3 (by omega) mset_gg
      refine ⟨tk, q2, w2, t2, s2, μ2, μ2', Ev.step ?_, m_goes_step h.1 hb (by omega) (a2) b2, b3, b4, b5, (a4.pf.tk).tr b6, a5.tr b7, a7.tr b8⟩
      simp only [e51_50]
      simp only [h4, if_pos (show nI c < (500 : Int32) from nI_lt (b := 500) (by omega) (by decide))]
      refine Ev.bind (s_busy h.1) ?_
      simp only [if_pos hb, show ¬ (1 : Int32) = 0 by decide, if_false]
      refine Ev.bind a1 ?_
      simp only [e4, nI_1]
      exact b1
    · have hw : w = 0 := by omega
      have hq : q = 0 := by omega
      have c3 : ¬ (0 : Int32) < μ' (2, 0, 1) 8 := fun x => hb (Or.inr (Or.inr x))
      subst hw
      subst hq
      refine ⟨c, 0, 0, t, s, μ, μ', Ev.step ?_, Ev.step ?_, by omega, h, h4, PF.rf, FMx.rf, MN.rf⟩
      · simp only [e51_50]
        simp only [h4, if_pos (show nI c < (500 : Int32) from nI_lt (b := 500) (by omega) (by decide))]
        refine Ev.bind (s_busy h.1) ?_
        simp only [if_neg hb, if_true]
        exact Ev.ret
      · simp only [e203_2]
        simp only [if_pos (show nI c < (500 : Int32) from nI_lt (b := 500) (by omega) (by decide)), h.1.wt.1, h.1.qu.1, if_neg (show ¬ (0 : Int32) < nI 0 by decide), if_neg c3]
        exact Ev.ret
end PA
