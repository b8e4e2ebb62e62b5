/-! a request is opened: the pair -/
def FCo (j : Fin 15) (μ μ1 : Mm) : Prop := ∀ q : Ad, ¬ (q.1 = 1 ∧ q.2.1 = j) → μ1 q = μ q
theorem FCo.rf {j : Fin 15} {μ : Mm} : FCo j μ μ := fun _ _ => rfl
theorem FCo.tr {j : Fin 15} {μ μ1 μ2 : Mm} (h : FCo j μ μ1) (h2 : FCo j μ1 μ2) : FCo j μ μ2 := fun q hq => (h2 q hq).trans (h q hq)
theorem FC.o {j : Fin 15} {μ μ1 : Mm} (h : FC j μ μ1) : FCo j μ μ1 := h.1
theorem FCo.set {j : Fin 15} {μ μ1 : Mm} {o k : Nat} {v : Int32} (h : FCo j μ μ1) : FCo j μ (mset μ1 (1, j, o) k v) := fun q hq => by
  rw [mset_ne (fun e => hq (by rw [e]; exact ⟨rfl, rfl⟩))]
  exact h q hq
theorem FCo.shl {j : Fin 15} {μ μ1 : Mm} {o k m : Nat} (h : FCo j μ μ1) : FCo j μ (shl μ1 (1, j, o) k m) := fun q hq => by
  funext i
  rw [shl_ne (fun x => hq (by rw [x]; exact ⟨rfl, rfl⟩)), h q hq]
def FMo (c : Nat) (μ' μ1' : Mm) : Prop := (∀ q : Ad, q ≠ (2, 0, 1) → q ≠ (2, 0, 0) → μ1' q = μ' q) ∧ (∀ i, 426 ≤ i → μ1' (2, 0, 1) i = μ' (2, 0, 1) i) ∧ (∀ k, k ≠ 9 → k ≠ 10 → μ1' (2, 0, 0) k = μ' (2, 0, 0) k) ∧ DD c μ' μ1'
theorem FMo.rf {μ : Mm} : FMo 0 μ μ := ⟨fun _ _ _ => rfl, fun _ _ => rfl, fun _ _ _ => rfl, DD.keep (fun _ _ => rfl) rfl rfl⟩
theorem FMo.tr {c c2 : Nat} {μ μ1 μ2 : Mm} (h : FMo c μ μ1) (h2 : FMo c2 μ1 μ2) : FMo (c + c2) μ μ2 := ⟨fun q a b => (h2.1 q a b).trans (h.1 q a b), fun i a => (h2.2.1 i a).trans (h.2.1 i a), fun k a b => (h2.2.2.1 k a b).trans (h.2.2.1 k a b), h.2.2.2.tr h2.2.2.2⟩
theorem FMo.le {c c2 : Nat} {μ μ1 : Mm} (h : FMo c μ μ1) (hc : c ≤ c2) : FMo c2 μ μ1 := ⟨h.1, h.2.1, h.2.2.1, h.2.2.2.le hc⟩
theorem FM.o {c : Nat} {μ μ1 : Mm} (h : FM c μ μ1) : FMo c μ μ1 := ⟨h.1, h.2.1, fun k a _ => h.2.2.1 k a, h.2.2.2⟩
theorem FMo.wt {c : Nat} {μ μ1 : Mm} {v : Int32} (h : FMo c μ μ1) : FMo c μ (mset μ1 (2, 0, 0) 10 v) := by
  refine ⟨fun q a b => by rw [mset_ne b]; exact h.1 q a b, fun i' a => ?_, fun k' a b => ?_, h.2.2.2.eqv (fun r hr => by rw [mset_ne (by decide)]) (by rw [mset_ne (by decide)]) (mset_gk (by decide))⟩
  · rw [mset_ne (by decide)]
    exact h.2.1 i' a
  · rw [mset_gk b]
    exact h.2.2.1 k' a b
section RQ
variable {L : Nat} {S : Ad → Nat → Int32} {F d n q w e M : Nat} {z z1 : Int32} {j j1 : Fin 15} {b : Bool} {μ μ' μ1 μ1' : Mm}
theorem mset_cq {ν : Mm} {q q' : Ad} {k k' : Nat} {v v' : Int32} (h : q ≠ q') : mset (mset ν q k v) q' k' v' = mset (mset ν q' k' v') q k v := by
  funext q2 i
  unfold mset
  by_cases c : q2 = q
  · have : q2 ≠ q' := fun x => h (c.symm.trans x)
    simp [c, h, this]
  · simp [c]
theorem R.lng {v v' v2 : Int32} (h : R n q w z 1000 j b μ μ') : R n q w z 1000 j b (mset μ (1, j, 24) 2 v) (mset (mset μ' (2, 0, 1) 15 v') (2, 0, 0) 10 v2) := by
  have hN := h.hn
  have gm : ∀ i, i ≠ 15 → mset (mset μ' (2, 0, 1) 15 v') (2, 0, 0) 10 v2 (2, 0, 1) i = μ' (2, 0, 1) i := fun i hi => by rw [mset_ne (by decide), mset_gk hi]
  have hL : LocR n 1000 j (mset μ (1, j, 24) 2 v) (mset (mset μ' (2, 0, 1) 15 v') (2, 0, 0) 10 v2) := ((h.1.1.setC rfl).setM (fun o k x => by
    have := loc_li hN.2.2.2 x
    have e2 : li 15 = (24, 2) := rfl
    rw [e2] at this
    cases this
    cases x)).setF
  refine ⟨⟨hL, by omega⟩, h.wt.keep (fun o k x => mset_go (by omega)) (fun i hi => gm i (by omega)), h.qu.keep hN.2.2.2 (fun o k x => mset_go (by omega)) (fun i hi => gm i (by omega)), h.pm.keep (fun o k x => mset_go (by omega)), h.so.keep (mset_go (by omega)) (fun i hi => gm i (by omega)), h.rg.keep (fun i hi => gm i (by omega)), h.se.keep (fun i hi => gm i (by omega)), ?_, fun hb => ?_⟩
  · rw [gm 16 (by omega), mset_gk (by omega)]; exact h.hz
  · rw [mset_go (by omega), mset_gk (by omega), mset_ne (by decide)]; exact h.pk hb
theorem s_tallyW (hF : 1 ≤ F) {x : Int32} : run L S F d 47 0 [some (vR (1, j, 0)), some (vI x)] μ = some (0, mset (mset (mset μ (1, j, 24) 0 (μ (1, j, 24) 0 + 1)) (1, j, 24) 1 (μ (1, j, 24) 1 + x)) (1, j, 24) 2 (mmax (μ (1, j, 24) 2) x)) := by
  obtain ⟨F, rfl, hF'⟩ := fz hF
  rw [e47_0]
  simp only [mset_gk (show (1 : Nat) ≠ 0 by decide), mset_gk (show (2 : Nat) ≠ 1 by decide), mset_gk (show (2 : Nat) ≠ 0 by decide)]
theorem s_rem (hF : 101 ≤ F) {i p : Nat} (hi : i ≤ p) (hp : p ≤ 98) (h18 : μ (1, j, 18) 0 = nI (p + 1)) : run L S F d 28 0 [some (vR (1, j, 18)), some (vI (nI i)), none] μ = some (0, shl (shl (mset μ (1, j, 18) 0 (nI p)) (1, j, 19) i p) (1, j, 20) i p) := by
  obtain ⟨F, rfl, hF'⟩ := fz hF
  rw [e28_0]
  simp only [h18, nI_pred]
  exact s_rem_go hp (p - i) i F _ (by omega) (by omega) mset_gg
theorem p_open (h : R n q (w + 1) z 1000 j b μ μ') {i s : Nat} (hi : i ≤ w) (hs : μ' (2, 0, 1) 11 = nI s) (hs2 : s + 1 < 2 ^ 31) : ∃ (q1 : Nat) (wt : Int32) (μ1 ν' μ1' : Mm), (∀ F d, 120 ≤ F → 6 ≤ d → run L S F d 46 0 [some (vR (1, j, 0)), some (vI (nI i)), none] μ = some (0, μ1)) ∧
    (∀ F d, 1 ≤ F → run L S F d 155 0 [some (vR (2, 0, 0)), some (vI 2), some (vI (μ' (2, 0, 1) 33))] μ' = some (0, ν')) ∧ (∀ F d, 160 ≤ F → 8 ≤ d → run L S F d 159 0 [some (vR (2, 0, 0)), some (vI (nI i)), none, none, none] ν' = some (0, μ1')) ∧ R n q1 w z 1000 j b μ1 μ1' ∧ FCo j μ μ1 ∧ FMo 12 μ' μ1' ∧ SawR s μ' μ1' ∧ μ1' (2, 0, 1) 1 = μ' (2, 0, 1) 1 ∧ μ1 (1, j, 24) 2 = mmax (μ (1, j, 24) 2) wt ∧ μ1' (2, 0, 1) 15 = mmax (μ' (2, 0, 1) 15) wt ∧ μ1' (2, 0, 0) 10 = wt := by
  have hN := h.hn
  have hw99 := h.wt.2.1
  have t6 : μ (1, j, 1) 6 = μ' (2, 0, 1) 33 := h.term (by decide)
  have tb := h.tb (k := 6) (by decide)
  have h1 := h.beg (s := 2) (v := μ' (2, 0, 1) 33) (by omega) ⟨by have := tb.1; simp [tLo] at this; omega, by have := tb.2; simp [tHi] at this; omega⟩
  rw [show nI 2 = (2 : Int32) from rfl] at h1
  have hC1 : FCo j μ (mset (mset μ (1, j, 0) 7 2) (1, j, 0) 8 (μ' (2, 0, 1) 33)) := FCo.rf.set.set
  have hM1 : FM 0 μ' (mset (mset (mset μ' (2, 0, 1) 7 2) (2, 0, 1) 9 2) (2, 0, 1) 8 (μ' (2, 0, 1) 33)) := ((FM.rf.set (by omega)).set (by omega)).set (by omega)
  have g1 : ∀ i, i ≠ 7 → i ≠ 8 → i ≠ 9 → mset (mset (mset μ' (2, 0, 1) 7 2) (2, 0, 1) 9 2) (2, 0, 1) 8 (μ' (2, 0, 1) 33) (2, 0, 1) i = μ' (2, 0, 1) i := fun i a b c => by rw [mset_gk b, mset_gk c, mset_gk a]
  have hc242 : mset (mset μ (1, j, 0) 7 2) (1, j, 0) 8 (μ' (2, 0, 1) 33) (1, j, 24) 2 = μ (1, j, 24) 2 := by rw [mset_go (by decide), mset_go (by decide)]
  have hc : ∀ F d, run L S (F + 1) (d + 1) 46 0 [some (vR (1, j, 0)), some (vI (nI i)), none] μ = _ := fun F d => e46_0
  simp only [show mset μ (1, j, 0) 7 2 (1, j, 1) 6 = μ' (2, 0, 1) 33 from by rw [mset_go (by decide)]; exact t6] at hc
  have hb : ∀ F d, 1 ≤ F → run L S F d 155 0 [some (vR (2, 0, 0)), some (vI 2), some (vI (μ' (2, 0, 1) 33))] μ' = _ := fun F d hF => m_begins hF
  generalize mset (mset μ (1, j, 0) 7 2) (1, j, 0) 8 (μ' (2, 0, 1) 33) = ν at h1 hC1 hc hc242
  generalize mset (mset (mset μ' (2, 0, 1) 7 2) (2, 0, 1) 9 2) (2, 0, 1) 8 (μ' (2, 0, 1) 33) = ν' at h1 hM1 g1 hb
  obtain ⟨x1, x2, r, hr, x3⟩ := h1.wt.2.2 i (by omega)
  have ctm := h1.tm
  have c0 : ν (1, j, 24) 0 = ν' (2, 0, 1) 13 := h1.lc 24 0 13 rfl (by omega)
  have c1 : ν (1, j, 24) 1 = ν' (2, 0, 1) 14 := h1.lc 24 1 14 rfl (by omega)
  have c18 : ν (1, j, 18) 0 = nI (w + 1) := h1.w5 rfl
  -- what it waited
  generalize hwt : ν' (2, 0, 1) 1 - ν' (2, 0, 1) (327 + i) = wt
  have h2 := ((h1.w1 (o := 24) (k := 0) (i := 13) (v := ν (1, j, 24) 0 + 1) rfl (by decide) (by unfold spM; omega) (by omega)).w1 (o := 24) (k := 1) (i := 14) (v := ν (1, j, 24) 1 + wt) rfl (by decide) (by unfold spM; omega) (by omega)).lng (v := mmax (ν (1, j, 24) 2) wt) (v' := mmax (ν' (2, 0, 1) 15) wt) (v2 := wt)
  have h3 := h2.rem hi
  have m5 : ∀ (X : Mm) (k : Nat) (v v' : Int32), k ≠ 5 → mset (mset X (2, 0, 1) k v) (2, 0, 1) 5 v' = mset (mset X (2, 0, 1) 5 v') (2, 0, 1) k v := fun X k v v' hk => mset_comm (μ := X) hk
  have f5 : ∀ (X : Mm) (v v' : Int32), mset (mset X (2, 0, 0) 10 v) (2, 0, 1) 5 v' = mset (mset X (2, 0, 1) 5 v') (2, 0, 0) 10 v := fun X v v' => mset_cq (by decide)
  have m2 : ∀ (X : Mm) (k lo hi : Nat) (v : Int32), k < lo → shl (mset X (2, 0, 1) k v) (2, 0, 1) lo hi = mset (shl X (2, 0, 1) lo hi) (2, 0, 1) k v := fun X k lo hi v hk => shl_mset (Or.inr (Or.inl hk))
  have f2 : ∀ (X : Mm) (lo hi : Nat) (v : Int32), shl (mset X (2, 0, 0) 10 v) (2, 0, 1) lo hi = mset (shl X (2, 0, 1) lo hi) (2, 0, 0) 10 v := fun X lo hi v => shl_mset (Or.inl (by decide))
  simp only [f5, m5 _ 15 _ _ (by decide), m5 _ 14 _ _ (by decide), m5 _ 13 _ _ (by decide), f2, m2 _ 13 (228 + i) _ _ (by omega), m2 _ 14 (228 + i) _ _ (by omega), m2 _ 15 (228 + i) _ _ (by omega), m2 _ 13 (327 + i) _ _ (by omega), m2 _ 14 (327 + i) _ _ (by omega), m2 _ 15 (327 + i) _ _ (by omega)] at h3
  have hcT : ∀ F d, 102 ≤ F → 1 ≤ d → run L S F d 46 0 [some (vR (1, j, 0)), some (vI (nI i)), none] μ = OpC L S (F - 1) (d - 1) j r (shl (shl (mset (mset (mset (mset ν (1, j, 24) 0 (ν (1, j, 24) 0 + 1)) (1, j, 24) 1 (ν (1, j, 24) 1 + wt)) (1, j, 24) 2 (mmax (ν (1, j, 24) 2) wt)) (1, j, 18) 0 (nI w)) (1, j, 19) i w) (1, j, 20) i w) := fun F d hF hd => by
    obtain ⟨F, rfl, hF'⟩ := fz hF
    obtain ⟨d, rfl, hd'⟩ := fz hd
    rw [hc]
    simp only [inb_n (show i < 99 by omega) (by decide), cond_true, nI_clamp (show i < 2 ^ 31 by omega), x1, x2, x3, ctm, hwt, s_tallyW (show 1 ≤ F by omega), Option.bind_some]
    rw [s_rem (show 101 ≤ F by omega) hi (by omega) (by rw [mset_go (by decide), mset_go (by decide), mset_go (by decide)]; exact c18)]
    rfl
  have hmT : ∀ F d, 101 ≤ F → 1 ≤ d → run L S F d 159 0 [some (vR (2, 0, 0)), some (vI (nI i)), none, none, none] ν' = (run L S (F - (w - i) - 2) (d - 1) 154 0 [some (vR (2, 0, 0)), some (vI (nI r)), none] (mset (mset (mset (mset (shl (shl (mset ν' (2, 0, 1) 5 (nI w)) (2, 0, 1) (228 + i) (228 + w)) (2, 0, 1) (327 + i) (327 + w)) (2, 0, 1) 13 (ν (1, j, 24) 0 + 1)) (2, 0, 1) 14 (ν (1, j, 24) 1 + wt)) (2, 0, 1) 15 (mmax (ν' (2, 0, 1) 15) wt)) (2, 0, 0) 10 wt)).bind (fun p => some ((0 : Int32), p.2)) := fun F d hF hd => by
    obtain ⟨F, rfl, hF'⟩ := fz hF
    obtain ⟨d, rfl, hd'⟩ := fz hd
    rw [e159_0]
    simp only [a228, a327, inb_n (show 228 + i < 1278 by omega) (by decide), inb_n (show 327 + i < 1278 by omega) (by decide), cond_true, nI_clamp (show 228 + i < 2 ^ 31 by omega), nI_clamp (show 327 + i < 2 ^ 31 by omega), x3, hwt, h1.wt.1, nI_pred]
    have := m_rem_go (L := L) (S := S) (d := d) (p := w) (x := nI r) (y := wt) (by omega) (w - i) i (F - (w - i)) (mset ν' (2, 0, 1) 5 (nI w)) (by omega) mset_gg
    rw [show F - (w - i) + (w - i) = F by omega] at this
    rw [this]
    obtain ⟨G, hG, hG'⟩ := fz (show 0 + 1 ≤ F - (w - i) by omega)
    have k5 : (shl (shl (mset ν' (2, 0, 1) 5 (nI w)) (2, 0, 1) (228 + i) (228 + w)) (2, 0, 1) (327 + i) (327 + w)) (2, 0, 1) 5 = nI w := by rw [shl_out (by omega), shl_out (by omega), mset_gg]
    have kk : ∀ k, 13 ≤ k → k < 16 → (shl (shl (mset ν' (2, 0, 1) 5 (nI w)) (2, 0, 1) (228 + i) (228 + w)) (2, 0, 1) (327 + i) (327 + w)) (2, 0, 1) k = ν' (2, 0, 1) k := fun k a b => by rw [shl_out (by omega), shl_out (by omega), mset_gk (by omega)]
    rw [hG, e159_42]
    simp only [k5, if_neg (nI_nlt (Nat.le_refl w) (show w < 2 ^ 31 by omega)), kk 13 (by omega) (by omega), mset_gk (show (14 : Nat) ≠ 13 by decide), kk 14 (by omega) (by omega), mset_gk (show (15 : Nat) ≠ 14 by decide), mset_gk (show (15 : Nat) ≠ 13 by decide), kk 15 (by omega) (by omega), c0, c1]
    have e1 : F + 1 - (w - i) - 2 = G := by omega
    rw [e1]
    unfold mmax
    by_cases c : ν' (2, 0, 1) 15 < wt
    · rw [if_pos c, if_pos c]; rfl
    · rw [if_neg c, if_neg c]
      rw [mset_id (μ := mset (mset (shl (shl (mset ν' (2, 0, 1) 5 (nI w)) (2, 0, 1) (228 + i) (228 + w)) (2, 0, 1) (327 + i) (327 + w)) (2, 0, 1) 13 (ν' (2, 0, 1) 13 + 1)) (2, 0, 1) 14 (ν' (2, 0, 1) 14 + wt)) (q := (2, 0, 1)) (k := 15) (v := ν' (2, 0, 1) 15) (by rw [mset_gk (by decide), mset_gk (by decide), kk 15 (by omega) (by omega)])]
      rfl
  have kz : ∀ k, k = 1 ∨ k = 11 → (mset (mset (mset (mset (shl (shl (mset ν' (2, 0, 1) 5 (nI w)) (2, 0, 1) (228 + i) (228 + w)) (2, 0, 1) (327 + i) (327 + w)) (2, 0, 1) 13 (ν (1, j, 24) 0 + 1)) (2, 0, 1) 14 (ν (1, j, 24) 1 + wt)) (2, 0, 1) 15 (mmax (ν' (2, 0, 1) 15) wt)) (2, 0, 0) 10 wt) (2, 0, 1) k = μ' (2, 0, 1) k := fun k hk => by
    rw [mset_ne (by decide), mset_gk (by omega), mset_gk (by omega), mset_gk (by omega), shl_out (by omega), shl_out (by omega), mset_gk (by omega)]
    exact g1 k (by omega) (by omega) (by omega)
  obtain ⟨q1, μ1, μ1', a1, a2, a3, a4, a5, a6, a7, a8, a9, a10⟩ := p_opens (L := L) (S := S) h3 hr (s := s) ((kz 11 (by omega)).trans hs) hs2
  have hMf : FMo 0 μ' (mset (mset (mset (mset (shl (shl (mset ν' (2, 0, 1) 5 (nI w)) (2, 0, 1) (228 + i) (228 + w)) (2, 0, 1) (327 + i) (327 + w)) (2, 0, 1) 13 (ν (1, j, 24) 0 + 1)) (2, 0, 1) 14 (ν (1, j, 24) 1 + wt)) (2, 0, 1) 15 (mmax (ν' (2, 0, 1) 15) wt)) (2, 0, 0) 10 wt) := (hM1.tr ((((((FM.rf.set (by omega)).shl (by omega)).shl (by omega)).set (by omega)).set (by omega)).set (by omega))).o.wt
  refine ⟨q1, wt, μ1, ν', μ1', fun F d hF hd => ?_, fun F d hF => hb F d hF, fun F d hF hd => ?_, a3, (hC1.tr (FCo.rf.set.set.set.set.shl.shl)).tr a4.o, hMf.tr a5.o, ?_, a7.trans (kz 1 (by omega)), ?_, ?_, ?_⟩
  · rw [hcT F d (by omega) (by omega)]
    exact a1 _ _ (by omega) (by omega)
  · rw [hmT F d (by omega) (by omega), a2 _ _ (by omega) (by omega)]
    rfl
  · rcases a6 with x | x
    · exact Or.inl (x.trans (kz 11 (by omega)))
    · exact Or.inr x
  · rw [a4.2, shl_ne (by simp), shl_ne (by simp), mset_go (by decide), mset_gg, hc242]
  · rw [a8, mset_ne (by decide), mset_gg, g1 15 (by omega) (by omega) (by omega)]
  · rw [a10, mset_gg]
end RQ
