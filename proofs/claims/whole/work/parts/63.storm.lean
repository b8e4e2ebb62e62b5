/-! storms, a choice of guards, what is done -/
def xs (seed : Nat) : Nat → Nat
  | 0 => seed
  | k + 1 => nx (xs seed k)
def xf (seed n : Nat) : Nat → Int32 := fun k => nI (xs seed k % n)
section ST
variable {L : Nat} {S : Ad → Nat → Int32} {d n q w m t s T T1 l c : Nat} {z : Int32} {i j j1 : Fin 15} {b b1 : Bool} {μ μ' μ1 μ1' μ2 : Mm} {f g : Nat → Int32} {a1 a2 a3 a4 a5 : Int32} {ν ν0 ν1 ν2 κ : Mm}
theorem xs_lt {seed : Nat} (h : seed < 7875) : ∀ k, xs seed k < 7875
  | 0 => h
  | _ + 1 => nx_lt
theorem p_runG {v : Int32} (h : Bx n q 0 t s 1 false μ κ) (h9 : κ (2, 0, 0) 9 = v) (hv : PkR n κ v) (ht : t + 600 < 2 ^ 27) (hm : m ≤ 99) (hl : ∀ k, k < m → ∃ r, r < n ∧ μ (0, 0, 2) k = nI r) :
    ∃ tk q1 w1 t1 s1 μ1 ν1', Ev (fun F => run L S F (d + 12) 203 0 [some (vR (2, 0, 0)), none] (askM 0 (μ (0, 0, 2)) m κ)) (nI tk, ν1') ∧ Ev (fun F => run L S F (d + 8) 51 0 [some (vR (0, 0, 1)), some (vI (nI m)), none] μ) (0, μ1) ∧
      Bx n q1 w1 t1 s1 2 true μ1 ν1' ∧ μ1 (0, 0, 1) 4 = nI tk ∧ PF μ μ1 ∧ FMx κ ν1' := by
  obtain ⟨ν, b1, b2, b3, b4, b5⟩ := c_start (L := L) (S := S) (d := d + 5) (μ1' := κ) h (by decide) (by omega) hv (fun _ _ => rfl) h9
  have el : ν (0, 0, 2) = μ (0, 0, 2) := b5 _ (fun x => absurd x.1 (by decide)) (by decide)
  have c1 := b2.adds (m := m) (f := μ (0, 0, 2)) hl (by omega)
  rw [Nat.zero_add] at c1
  have e4 : addC 2 0 (μ (0, 0, 2)) m ν (0, 0, 1) 4 = nI 0 := (congrFun (addC_q (fun x => absurd x.1 (by decide))) 4).trans b3
  obtain ⟨tk, q1, w1, t1, s1, μ1, ν1', d1, d2, d3, d4, d5, d6, d7, d8⟩ := p_goes (L := L) (S := S) (d := d) 500 0 q m t s _ _ (by omega) c1 (by omega) e4
  refine ⟨tk, q1, w1, t1, s1, μ1, ν1', ?_, ?_, d4, d5, ?_, (FMx.asks (by omega)).tr d7⟩
  · refine Ev.step ?_
    simp only [e203_0]
    exact d2
  · refine Ev.step ?_
    simp only [e51_0]
    refine Ev.bind b1 ?_
    have := c_adds_go (L := L) (S := S) (d := d + 7) (ν := ν) hm (0, μ1) (by rw [el]; exact d1) m 0 (by omega)
    rw [addC_0 (b2.1.w5 rfl)] at this
    exact this
  · exact b5.tr (PF.tr (fun q a _ => addC_q a) d6)
theorem lsM_x {x y : Int32} : mset (lsM f m (mset μ (1, 1, 11) 2 x)) (1, 1, 11) 2 y = lsM f m (mset μ (1, 1, 11) 2 y) := by
  funext q k
  by_cases c : q = (0, 0, 2)
  · subst c
    rw [mset_ne (by decide), lsM_k, lsM_k, mset_ne (by decide), mset_ne (by decide)]
  · rw [lsM_q c]
    by_cases c2 : q = (1, 1, 11)
    · subst c2
      rw [mset_g, mset_g, congrFun (lsM_q (by decide)) k, mset_g]
      split <;> rfl
    · rw [mset_ne c2, lsM_q c, mset_ne c2, mset_ne c2]
theorem askM_x {x y : Int32} (hm : m ≤ 99) : mset (askM 0 f m (mset κ (2, 0, 1) 2 x)) (2, 0, 1) 2 y = askM 0 f m (mset κ (2, 0, 1) 2 y) := by
  funext q k
  by_cases c : q = (2, 0, 1)
  · subst c
    by_cases c2 : k = 2
    · subst c2
      rw [mset_gg, askM_o (by omega) (by omega), mset_gg]
    · rw [mset_gk c2]
      unfold askM
      rw [mset_gk c2, mset_gk c2, mset_gk (show (1 : Nat) ≠ 2 by decide), mset_gk (show (1 : Nat) ≠ 2 by decide)]
  · rw [mset_ne c, askM_q c, askM_q c, mset_ne c, mset_ne c]
theorem c_storm_go {seed : Nat} (hs : seed < 7875) (hn0 : μ (1, 1, 2) 0 = nI n) (hn1 : 1 ≤ n) (hn : n ≤ 16) (hm : m ≤ 48) {v : Rz} (hv : Ev (fun F => run L S F d 51 0 [some (vR (0, 0, 1)), some (vI (nI m)), none] (lsM (xf seed n) m (mset μ (1, 1, 11) 2 (nI (xs seed m))))) v) : ∀ (k c : Nat), c + k = m → Ev (fun F => run L S F (d + 1) 53 13 [some (vR (0, 0, 1)), none, some (vI (nI m)), some (vI (nI c))] (lsM (xf seed n) c (mset μ (1, 1, 11) 2 (nI (xs seed c))))) (0, v.2) := by
  intro k
  induction k with
  | zero =>
    intro c hc
    have hc : c = m := by omega
    subst hc
    refine Ev.step ?_
    simp only [e53_13, if_neg (nI_nlt (Nat.le_refl c) (show c < 2 ^ 31 by omega))]
    exact Ev.bind hv Ev.ret
  | succ k ih =>
    intro c hc
    have e0 : lsM (xf seed n) c (mset μ (1, 1, 11) 2 (nI (xs seed c))) (1, 1, 2) 0 = nI n := by rw [lsM_q (by decide), mset_ne (by decide)]; exact hn0
    have e1 : lsM (xf seed n) c (mset μ (1, 1, 11) 2 (nI (xs seed c))) (1, 1, 11) 2 = nI (xs seed c) := by rw [lsM_q (by decide), mset_gg]
    have dr := Ev.at (f := fun F => run L S F d 15 0 [some (vR (1, 1, 11)), some (vI (nI n)), none] (lsM (xf seed n) c (mset μ (1, 1, 11) 2 (nI (xs seed c))))) 1 (fun F hF => s_draw hF hn1 (by omega) (xs_lt hs c) e1)
    rw [lsM_x] at dr
    refine Ev.step ?_
    simp only [e53_13, if_pos (nI_lt (show c < m by omega) (show m < 2 ^ 31 by omega)), if_pos (show nI c < (99 : Int32) from nI_lt (b := 99) (by omega) (by decide)), e0]
    refine Ev.bind dr ?_
    simp only [inb_n (show c < 99 by omega) (by decide), cond_true, nI_clamp (show c < 2 ^ 31 by omega), nI_1]
    have := ih (c + 1) (by omega)
    rw [← lsM_s] at this
    exact this
theorem m_storm_go {seed : Nat} (hs : seed < 7875) (hn0 : κ (2, 0, 1) 0 = nI n) (hn1 : 1 ≤ n) (hn : n ≤ 16) (hm : m ≤ 48) {v : Rz} (hv : Ev (fun F => run L S F (d + 1) 221 13 [some (vR (2, 0, 0)), none, some (vI (nI m)), some (vI (nI m))] (askM 0 (xf seed n) m (mset κ (2, 0, 1) 2 (nI (xs seed m))))) v) : ∀ (k c : Nat), c + k = m → Ev (fun F => run L S F (d + 1) 221 13 [some (vR (2, 0, 0)), none, some (vI (nI m)), some (vI (nI c))] (askM 0 (xf seed n) c (mset κ (2, 0, 1) 2 (nI (xs seed c))))) v := by
  intro k
  induction k with
  | zero =>
    intro c hc
    have hc : c = m := by omega
    subst hc
    exact hv
  | succ k ih =>
    intro c hc
    have e0 : askM 0 (xf seed n) c (mset κ (2, 0, 1) 2 (nI (xs seed c))) (2, 0, 1) 0 = nI n := by rw [askM_o (by omega) (by omega), mset_gk (by decide)]; exact hn0
    have e1 : askM 0 (xf seed n) c (mset κ (2, 0, 1) 2 (nI (xs seed c))) (2, 0, 1) 2 = nI (xs seed c) := by rw [askM_o (by omega) (by omega), mset_gg]
    have dr := Ev.at (f := fun F => run L S F d 133 0 [some (vR (2, 0, 0)), some (vI (nI n)), none] (askM 0 (xf seed n) c (mset κ (2, 0, 1) 2 (nI (xs seed c))))) 1 (fun F hF => m_draw hF hn1 (by omega) (xs_lt hs c) e1)
    rw [askM_x (by omega)] at dr
    refine Ev.step ?_
    simp only [e221_13, if_pos (nI_lt (show c < m by omega) (show m < 2 ^ 31 by omega)), e0]
    refine Ev.bind dr ?_
    have := m_ask (L := L) (S := S) (d := d) (w := 0) (f := xf seed n) (m := c) (μ' := mset κ (2, 0, 1) 2 (nI (xs seed (c + 1)))) (by omega)
    refine Ev.bind this ?_
    simp only [nI_1]
    exact ih (c + 1) (by omega)
theorem asks_fld {x y : Int32} : mset (mset (askM 0 f m κ) (2, 0, 0) 26 x) (2, 0, 0) 27 y = askM 0 f m (mset (mset κ (2, 0, 0) 26 x) (2, 0, 0) 27 y) := by
  funext q k
  by_cases c : q = (2, 0, 1)
  · subst c
    rw [mset_ne (by decide), mset_ne (by decide)]
    unfold askM
    rw [mset_ne (show ((2, 0, 1) : Ad) ≠ (2, 0, 0) by decide), mset_ne (show ((2, 0, 1) : Ad) ≠ (2, 0, 0) by decide)]
  · rw [askM_q c]
    by_cases c2 : q = (2, 0, 0)
    · subst c2
      rw [mset_g, mset_g, mset_g, mset_g, askM_q c]
    · rw [mset_ne c2, mset_ne c2, askM_q c, mset_ne c2, mset_ne c2]
theorem neg_add_sub (x y : Int32) : -x + y = y - x := by rw [Int32.add_comm, Int32.sub_eq_add_neg]
/-- a storm, on both sides -/
theorem p_storms (h : Ba n q t s μ ν) (ht : t + 600 < 2 ^ 27) {seed : Nat} (hs : seed < 7875) (hm : m ≤ 48) : ∃ tk μ2 ν2, Ev (fun F => run L S F 29 53 0 [some (vR (0, 0, 1)), some (vI (nI seed)), some (vI (nI m)), none] μ) (0, μ2) ∧ Ev (fun F => run L S F 29 221 0 [some (vR (2, 0, 0)), some (vI (nI seed)), some (vI (nI m)), none] ν) (0, ν2) ∧ PW μ μ2 ∧ RSk ν ν2 ∧ μ2 (0, 0, 1) 4 = nI tk ∧ ν2 (2, 0, 0) 25 = nI tk ∧ μ2 (1, 2, 2) 3 = ν2 (2, 0, 0) 9 ∧ μ2 (1, 2, 24) 4 - μ2 (1, 1, 24) 4 = ν2 (2, 0, 0) 26 ∧ μ2 (1, 2, 24) 3 - μ2 (1, 1, 24) 3 = ν2 (2, 0, 0) 27 := by
  have hN := h.1.hn
  obtain ⟨v, o1, o2⟩ := m_opens (L := L) (S := S) (d := 27) h.n0 hN.2.2.2
  have x7 := xs_lt hs m
  -- the reference's bank at the end of the draws
  have k0 : mset (opM ν v) (2, 0, 1) 2 (nI (xs seed m)) (2, 0, 1) 0 = nI n := by rw [mset_gk (by decide), opM_k (by decide)]; exact h.n0
  have kc : ∀ i, i < 426 → mset (mset (mset (opM ν v) (2, 0, 1) 2 (nI (xs seed m))) (2, 0, 0) 26 (-(ν (2, 0, 1) 17))) (2, 0, 0) 27 (-(ν (2, 0, 1) 16)) (2, 0, 1) i = mset (mset ν (2, 0, 1) 5 0) (2, 0, 1) 2 (nI (xs seed m)) (2, 0, 1) i := fun i hi => by
    rw [mset_ne (by decide), mset_ne (by decide)]
    by_cases e2 : i = 2
    · subst e2
      rw [mset_gg, mset_gg]
    · rw [mset_gk e2, mset_gk e2]
      by_cases e5 : i = 5
      · subst e5
        rw [mset_gg, opM_5]
      · rw [mset_gk e5, opM_k e5]
  have hB : Bx n q 0 t s 1 false (lsM (xf seed n) m (mset μ (1, 1, 11) 2 (nI (xs seed m)))) (mset (mset (mset (opM ν v) (2, 0, 1) 2 (nI (xs seed m))) (2, 0, 0) 26 (-(ν (2, 0, 1) 17))) (2, 0, 0) 27 (-(ν (2, 0, 1) 16))) := by
    have hd : Bx n q 0 t s 1 false (mset μ (1, 1, 11) 2 (nI (xs seed m))) (mset (mset ν (2, 0, 1) 5 0) (2, 0, 1) 2 (nI (xs seed m))) := ⟨h.1.drawn x7, by rw [mset_gk (by decide)]; exact h.2.1, by rw [mset_gk (by decide)]; exact h.2.2.1, h.2.2.2.1, fun r hr => by rw [mset_gk (by omega)]; exact h.2.2.2.2.1 r hr, by rw [mset_gk (by decide)]; exact h.2.2.2.2.2⟩
    exact hd.cp (fun o k _ => by rw [lsM_q (by simp)]) kc (fun x => by cases x)
  have hP : PkR n (mset (mset (mset (opM ν v) (2, 0, 1) 2 (nI (xs seed m))) (2, 0, 0) 26 (-(ν (2, 0, 1) 17))) (2, 0, 0) 27 (-(ν (2, 0, 1) 16))) v := by
    have g : ∀ i, mset (mset (mset (opM ν v) (2, 0, 1) 2 (nI (xs seed m))) (2, 0, 0) 26 (-(ν (2, 0, 1) 17))) (2, 0, 0) 27 (-(ν (2, 0, 1) 16)) (2, 0, 1) (60 + i) = ν (2, 0, 1) (60 + i) := fun i => by rw [mset_ne (by decide), mset_ne (by decide), mset_gk (by omega), opM_k (by omega)]
    exact ⟨o2.1, fun i hi => by rw [g]; exact o2.2.1 i hi, o2.2.2.imp id (fun ⟨i, x, y⟩ => ⟨i, x, by rw [g]; exact y⟩)⟩
  have h9 : mset (mset (mset (opM ν v) (2, 0, 1) 2 (nI (xs seed m))) (2, 0, 0) 26 (-(ν (2, 0, 1) 17))) (2, 0, 0) 27 (-(ν (2, 0, 1) 16)) (2, 0, 0) 9 = v := by rw [mset_gk (by decide), mset_gk (by decide), mset_ne (by decide), opM_9]
  have hcell : ∀ k, k < m → lsM (xf seed n) m (mset μ (1, 1, 11) 2 (nI (xs seed m))) (0, 0, 2) k = xf seed n k := fun k hk => lsM_at hk
  obtain ⟨tk, q1, w1, t1, s1, μ2, ν1', r1, r2, r3, r4, r5, r6⟩ := p_runG (L := L) (S := S) (d := 16) (m := m) hB h9 hP ht (by omega) (fun k hk => ⟨xs seed k % n, Nat.mod_lt _ (by omega), hcell k hk⟩)
  rw [askM_cg hcell] at r1
  -- the numbers
  have e1 : μ2 (1, 1, 24) = μ (1, 1, 24) := by rw [r5 _ (fun x => absurd x.2 (by decide)) (by decide), lsM_q (by decide), mset_ne (by decide)]
  have z1 := h.1.hz
  rw [mset_gk (by decide), Int32.add_zero] at z1
  have z2 := r3.1.hz
  rw [Int32.add_zero] at z2
  have y1 := h.1.lc 24 4 17 rfl (by omega)
  rw [mset_gk (by decide)] at y1
  have y2 := r3.1.lc 24 4 17 rfl (by omega)
  have f26 : ν1' (2, 0, 0) 26 = -(ν (2, 0, 1) 17) := by rw [r6.2.2 26 (by decide) (by decide), mset_gk (by decide), mset_gg]
  have f27 : ν1' (2, 0, 0) 27 = -(ν (2, 0, 1) 16) := by rw [r6.2.2 27 (by decide) (by decide), mset_gg]
  have fo : ∀ k, k ≠ 9 → k ≠ 10 → k ≠ 26 → k ≠ 27 → ν1' (2, 0, 0) k = ν (2, 0, 0) k := fun k a b c e => by rw [r6.2.2 k a b, mset_gk e, mset_gk c, mset_ne (by decide), opM_f a]
  have qo : ∀ q : Ad, q ≠ (2, 0, 0) → q ≠ (2, 0, 1) → q ≠ (2, 0, 3) → ν1' q = ν q := fun q a b c => by rw [r6.1 q b a, mset_ne a, mset_ne a, mset_ne b, opM_q a b c]
  have po : ∀ k, k < 426 → ν1' (2, 0, 3) k = ν (2, 0, 1) k := fun k hk => by rw [r6.1 _ (by decide) (by decide), mset_ne (by decide), mset_ne (by decide), mset_ne (by decide), opM_p hk]
  have bo : ∀ i, 426 ≤ i → ν1' (2, 0, 1) i = ν (2, 0, 1) i := fun i hi => by rw [r6.2.1 i hi, mset_ne (by decide), mset_ne (by decide), mset_gk (by omega), opM_k (by omega)]
  -- the reference's last memory
  have fin : Ev (fun F => run L S F 29 221 13 [some (vR (2, 0, 0)), none, some (vI (nI m)), some (vI (nI m))] (askM 0 (xf seed n) m (mset (opM ν v) (2, 0, 1) 2 (nI (xs seed m))))) (0, cpr (mset (mset (mset ν1' (2, 0, 0) 25 (nI tk)) (2, 0, 0) 26 (ν1' (2, 0, 1) 17 - ν (2, 0, 1) 17)) (2, 0, 0) 27 (ν1' (2, 0, 1) 16 - ν (2, 0, 1) 16)) (2, 0, 3) 0 (2, 0, 1) 0 0) := by
    have a17 : askM 0 (xf seed n) m (mset (opM ν v) (2, 0, 1) 2 (nI (xs seed m))) (2, 0, 1) 17 = ν (2, 0, 1) 17 := by rw [askM_o (by omega) (by omega), mset_gk (by decide), opM_k (by decide)]
    have a16 : askM 0 (xf seed n) m (mset (opM ν v) (2, 0, 1) 2 (nI (xs seed m))) (2, 0, 1) 16 = ν (2, 0, 1) 16 := by rw [askM_o (by omega) (by omega), mset_gk (by decide), opM_k (by decide)]
    refine Ev.step ?_
    simp only [e221_13, if_neg (nI_nlt (Nat.le_refl m) (show m < 2 ^ 31 by omega)), mset_ne (show ((2, 0, 1) : Ad) ≠ (2, 0, 0) by decide), a17, a16, asks_fld]
    refine Ev.bind r1 ?_
    simp only [mset_ne (show ((2, 0, 1) : Ad) ≠ (2, 0, 0) by decide), mset_gk (show (26 : Nat) ≠ 25 by decide), mset_gk (show (27 : Nat) ≠ 26 by decide), mset_gk (show (27 : Nat) ≠ 25 by decide), f26, f27, neg_add_sub]
    exact Ev.bind m_closes Ev.ret
  have ref : Ev (fun F => run L S F 29 221 0 [some (vR (2, 0, 0)), some (vI (nI seed)), some (vI (nI m)), none] ν) (0, cpr (mset (mset (mset ν1' (2, 0, 0) 25 (nI tk)) (2, 0, 0) 26 (ν1' (2, 0, 1) 17 - ν (2, 0, 1) 17)) (2, 0, 0) 27 (ν1' (2, 0, 1) 16 - ν (2, 0, 1) 16)) (2, 0, 3) 0 (2, 0, 1) 0 0) := Ev.step (by
    simp only [e221_0]
    refine Ev.bind (o1.dp (by omega)) ?_
    have := m_storm_go (L := L) (S := S) (d := 28) (m := m) (κ := opM ν v) hs ((opM_k (by decide)).trans h.n0) (show 1 ≤ n by omega) hN.2.2.2 hm fin m 0 (by omega)
    rw [askM_0 (by rw [mset_gk (by decide)]; exact opM_5)] at this
    exact this)
  refine ⟨tk, μ2, _, Ev.step ?_, ref, ?_, ⟨fun i => ?_, fun q a b c => ?_, fun k hk => ?_⟩, r4, ?_, ?_, ?_, ?_⟩
  rotate_left 1
  · intro q hq
    have hn := hq.n1
    rw [r5 q (fun x => hn.1 ⟨x.1, Or.inr x.2⟩) hn.2.1, lsM_q hn.2.2.1, mset_ne (fun e => hn.1 (by rw [e]; exact ⟨rfl, Or.inl rfl⟩))]
  · by_cases hi : i < 426
    · have := cpr_in (μ := mset (mset (mset ν1' (2, 0, 0) 25 (nI tk)) (2, 0, 0) 26 (ν1' (2, 0, 1) 17 - ν (2, 0, 1) 17)) (2, 0, 0) 27 (ν1' (2, 0, 1) 16 - ν (2, 0, 1) 16)) (a := (2, 0, 3)) (c := (2, 0, 1)) (f := 0) (t := 0) hi
      rw [Nat.zero_add] at this
      rw [this, mset_ne (by decide), mset_ne (by decide), mset_ne (by decide), po i hi]
    · rw [cpr_out (by omega), mset_ne (by decide), mset_ne (by decide), mset_ne (by decide), bo i (by omega)]
  · funext k
    rw [cpr_ne b, mset_ne a, mset_ne a, mset_ne a, qo q a b c]
  · rw [cpr_ne (by decide), mset_gk (by omega), mset_gk (by omega), mset_gk (by omega), fo k (by omega) (by omega) (by omega) (by omega)]
  · rw [cpr_ne (by decide), mset_gk (by decide), mset_gk (by decide), mset_gg]
  · rw [cpr_ne (by decide), mset_gk (by decide), mset_gk (by decide), mset_gk (by decide)]
    exact r3.1.pk rfl
  · rw [cpr_ne (by decide), mset_gk (by decide), mset_gg, e1, y1, y2]
  · rw [cpr_ne (by decide), mset_gg, e1, z1, z2]
  · simp only [e53_0]
    have := c_storm_go (L := L) (S := S) (d := 28) (m := m) (μ := μ) hs hN.1 (show 1 ≤ n by omega) hN.2.2.2 hm (r2.dp (by omega)) m 0 (by omega)
    rw [lsM_0] at this
    exact this
theorem can_storm (x y : Int32) : (¬ (((0 : Int32).toInt ≤ x.toInt ∧ x.toInt ≤ (7874 : Int32).toInt) ∧ ((1 : Int32).toInt ≤ y.toInt ∧ y.toInt ≤ (48 : Int32).toInt)) ∧ Ev (fun F => run L S F d 122 0 [some (vR (0, 0, 0)), some (vI x), some (vI y)] μ) (0, μ)) ∨ ∃ seed m, seed < 7875 ∧ m ≤ 48 ∧ x = nI seed ∧ y = nI m ∧ (((0 : Int32).toInt ≤ x.toInt ∧ x.toInt ≤ (7874 : Int32).toInt) ∧ ((1 : Int32).toInt ≤ y.toInt ∧ y.toInt ≤ (48 : Int32).toInt)) ∧ Ev (fun F => run L S F d 122 0 [some (vR (0, 0, 0)), some (vI x), some (vI y)] μ) (1, μ) := by
  have x0 : (0 : Int32).toInt = 0 := rfl
  have x1 : (1 : Int32).toInt = 1 := rfl
  have x4 : (48 : Int32).toInt = 48 := rfl
  have x7 : (7874 : Int32).toInt = 7874 := rfl
  have x8 : (7875 : Int32).toInt = 7875 := rfl
  by_cases c : ((0 : Int32).toInt ≤ x.toInt ∧ x.toInt ≤ (7874 : Int32).toInt) ∧ ((1 : Int32).toInt ≤ y.toInt ∧ y.toInt ≤ (48 : Int32).toInt)
  · refine Or.inr ⟨x.toInt.toNat, y.toInt.toNat, by omega, by omega, nI_toNat (by omega), nI_toNat (by omega), c, Ev.step ?_⟩
    have c1 : ¬ x < 0 := fun z => by have := lt0.mp z; omega
    have c2 : x < 7875 := Int32.lt_iff_toInt_lt.mpr (by omega)
    obtain ⟨c3, c4⟩ := wi_t c.2
    simp only [e122_0, if_neg c1, if_pos c2, if_neg c3, if_neg c4, narB1]
    exact Ev.ret
  · refine Or.inl ⟨c, Ev.step ?_⟩
    by_cases c1 : x < 0
    · simp only [e122_0, if_pos c1, narB0]
      exact Ev.ret
    · by_cases c2 : x < 7875
      · have z1 := Int32.le_iff_toInt_le.mp (Int32.not_lt.mp c1)
        have z2 := Int32.lt_iff_toInt_lt.mp c2
        have c5 : ¬ ((1 : Int32).toInt ≤ y.toInt ∧ y.toInt ≤ (48 : Int32).toInt) := fun w => c ⟨by omega, w⟩
        rcases wi_f c5 with c3 | ⟨c3, c4⟩
        · simp only [e122_0, if_neg c1, if_pos c2, if_pos c3, narB0]
          exact Ev.ret
        · simp only [e122_0, if_neg c1, if_pos c2, if_neg c3, if_pos c4, narB0]
          exact Ev.ret
      · simp only [e122_0, if_neg c1, if_neg c2, narB0]
        exact Ev.ret
theorem x012 (x : Int32) : (¬ ((0 : Int32).toInt ≤ x.toInt ∧ x.toInt ≤ (2 : Int32).toInt)) ∨ ((x = 0 ∨ x = 1 ∨ x = 2) ∧ ((0 : Int32).toInt ≤ x.toInt ∧ x.toInt ≤ (2 : Int32).toInt)) := by
  have x0 : (0 : Int32).toInt = 0 := rfl
  have x2 : (2 : Int32).toInt = 2 := rfl
  by_cases c : (0 : Int32).toInt ≤ x.toInt ∧ x.toInt ≤ (2 : Int32).toInt
  · refine Or.inr ⟨?_, c⟩
    have e : x = nI x.toInt.toNat := nI_toNat (by omega)
    have : x.toInt.toNat = 0 ∨ x.toInt.toNat = 1 ∨ x.toInt.toNat = 2 := by omega
    rcases this with y | y | y
    · exact Or.inl (e.trans (by rw [y]; rfl))
    · exact Or.inr (Or.inl (e.trans (by rw [y]; rfl)))
    · exact Or.inr (Or.inr (e.trans (by rw [y]; rfl)))
  · exact Or.inl c
theorem P_storm (h : Inv T μ μ') (hT : T + 600 < 2 ^ 27) : PubR L S T 121 220 [some (vR (0, 0, 0)), some (vI a1), some (vI a2), some (vI a3)] [some (vR (2, 0, 0)), some (vI a1), some (vI a2), some (vI a3)] μ μ' := by
  have hth := h.th
  obtain ⟨ν, n, q, w, t, s, e1, hB, hw, ht, hl0⟩ := q_open h
  have e2 : th0 μ' = ν := e1
  rw [e2] at hth
  rcases can_storm (L := L) (S := S) (d := 29) (μ := μ) a1 a2 with ⟨c, hc⟩ | ⟨seed, m, hs, hm, rfl, rfl, c, hc⟩
  · refine pub_n h e1 (-3) (Ev.step ?_) (Ev.step ?_)
    · simp only [e121_0]
      refine Ev.bind hc ?_
      simp only [if_true]
      exact Ev.ret
    · simp only [e220_0, e1]
      refine Ev.bind ev_within ?_
      by_cases y : (0 : Int32).toInt ≤ a1.toInt ∧ a1.toInt ≤ (7874 : Int32).toInt
      · simp only [if_pos y, i1, if_false]
        refine Ev.bind ev_within ?_
        simp only [if_neg (fun w => c ⟨y, w⟩), if_true]
        exact Ev.ret
      · simp only [if_neg y, if_true]
        exact Ev.ret
  · rcases x012 a3 with v | ⟨v, v2⟩
    · refine pub_n h e1 (-2) (Ev.step ?_) (Ev.step ?_)
      · simp only [e121_0]
        refine Ev.bind hc ?_
        rcases wi_f v with y | ⟨y, y2⟩
        · simp only [i1, if_false, if_pos y]
          exact Ev.ret
        · simp only [i1, if_false, if_neg y, if_pos y2]
          exact Ev.ret
      · simp only [e220_0, e1]
        refine Ev.bind ev_within ?_
        simp only [if_pos c.1, i1, if_false]
        refine Ev.bind ev_within ?_
        simp only [if_pos c.2, i1, if_false]
        refine Ev.bind ev_within ?_
        simp only [if_neg v, if_true]
        exact Ev.ret
    · obtain ⟨y1, y2⟩ := wi_t v2
      obtain ⟨μ1, p1, p2, p3⟩ := p_take (L := L) (S := S) (d := 27) hB (by omega)
      obtain ⟨tk, μ2, ν2, d1, d2, d3, d4, d5, d6, d7, d8, d9⟩ := p_storms (L := L) (S := S) (m := m) p2 (by omega) hs hm
      have cls : ∀ x, (if a3 = 0 then μ2 (1, 2, 2) 3 else if a3 = 1 then μ2 (0, 0, 1) 4 else μ2 (1, 2, 24) 4 - μ2 (1, 1, 24) 4) = x → Ev (fun F => run L S F 30 121 0 [some (vR (0, 0, 0)), some (vI (nI seed)), some (vI (nI m)), some (vI a3)] μ) (x, μ2) := fun x hx => by
        have h54 : Ev (fun F => run L S F 29 54 0 [some (vR (0, 0, 1))] μ2) (μ2 (1, 2, 2) 3, μ2) := Ev.step (by
          simp only [e54_0]
          exact Ev.ret)
        have h56 : Ev (fun F => run L S F 29 56 0 [some (vR (0, 0, 1))] μ2) (μ2 (1, 2, 24) 4 - μ2 (1, 1, 24) 4, μ2) := Ev.step (by
          simp only [e56_0]
          exact Ev.ret)
        refine Ev.step ?_
        simp only [e121_0]
        refine Ev.bind hc ?_
        simp only [i1, if_false, if_neg y1, if_neg y2]
        refine Ev.bind p1 (Ev.bind d1 ?_)
        by_cases k0 : a3 = 0
        · rw [if_pos k0] at hx
          subst hx
          simp only [if_pos k0]
          exact Ev.bind h54 Ev.ret
        · rw [if_neg k0] at hx
          by_cases k1 : a3 = 1
          · rw [if_pos k1] at hx
            subst hx
            simp only [if_neg k0, if_pos k1]
            exact Ev.ret
          · rw [if_neg k1] at hx
            subst hx
            simp only [if_neg k0, if_neg k1]
            exact Ev.bind h56 Ev.ret
      refine pub_p hth e1 (p3.w1.tr d3) d4.v (cls _ rfl) (Ev.step ?_)
      simp only [e220_0, e1]
      refine Ev.bind ev_within ?_
      simp only [if_pos c.1, i1, if_false]
      refine Ev.bind ev_within ?_
      simp only [if_pos c.2, i1, if_false]
      refine Ev.bind ev_within ?_
      simp only [if_pos v2, i1, if_false]
      refine Ev.bind d2 ?_
      by_cases k0 : a3 = 0
      · simp only [if_pos k0, d7]
        exact Ev.ret
      · by_cases k1 : a3 = 1
        · simp only [if_neg k0, if_pos k1, d5, d6]
          exact Ev.ret
        · simp only [if_neg k0, if_neg k1, d8]
          exact Ev.ret
end ST
