/-! pairs, places that change, terms -/
section TE
variable {L : Nat} {S : Ad → Nat → Int32} {d n q w m t s T T1 : Nat} {z : Int32} {i j j1 : Fin 15} {b b1 : Bool} {μ μ' μ1 μ1' μ2 : Mm} {f g : Nat → Int32} {a1 a2 a3 : Int32} {ν ν1 ν2 : Mm}
theorem P_pair (h : Inv T μ μ') : PubR L S T 90 168 [some (vR (0, 0, 0)), some (vI a1), some (vI a2), some (vI a3)] [some (vR (2, 0, 0)), some (vI a1), some (vI a2), some (vI a3)] μ μ' := by
  have hth := h.th
  obtain ⟨ν, n, q, w, t, s, e1, hB, hw, ht, hl0⟩ := q_open h
  have e2 : th0 μ' = ν := e1
  rw [e2] at hth
  have hR := hB.1
  have hN := hR.hn
  have ref : ∀ v, (∀ x4, Ev (fun F => run L S F 29 167 0 [some (vR (2, 0, 0)), some (vI a1), some (vI a2), some (vI a3), some (vI x4), none] ν) v) → Ev (fun F => run L S F 30 168 0 [some (vR (2, 0, 0)), some (vI a1), some (vI a2), some (vI a3)] μ') v := fun v hv => by
    refine Ev.step ?_
    by_cases c : a1 = a2
    · simp only [e168_0, e1, if_pos c]
      rw [c] at hv ⊢
      exact Ev.bind (hv 0) Ev.ret
    · simp only [e168_0, e1, if_neg c]
      exact Ev.bind (hv 1) Ev.ret
  rcases row_cases a1 n hN.2.2.2 with c | ⟨r, hr, rfl, c⟩
  · refine pub_n h e1 (-2) (Ev.step ?_) (ref _ (fun x4 => Ev.step ?_))
    · simp only [e90_0]
      refine Ev.bind (ev_has hR a1) ?_
      simp only [if_neg c, if_true]
      exact Ev.ret
    · simp only [e167_0]
      refine Ev.bind (ev_isRow hR a1) ?_
      simp only [if_neg c, if_true]
      exact Ev.ret
  · rcases row_cases a2 n hN.2.2.2 with c' | ⟨r', hr', rfl, c'⟩
    · refine pub_n h e1 (-2) (Ev.step ?_) (ref _ (fun x4 => Ev.step ?_))
      · simp only [e90_0]
        refine Ev.bind (ev_has hR (nI r)) ?_
        simp only [if_pos c, i1, if_false]
        refine Ev.bind (ev_has hR a2) ?_
        simp only [if_neg c', if_true]
        exact Ev.ret
      · simp only [e167_0]
        refine Ev.bind (ev_isRow hR (nI r)) ?_
        simp only [if_pos c, i1, if_false]
        refine Ev.bind (ev_isRow hR a2) ?_
        simp only [if_neg c', if_true]
        exact Ev.ret
    · rcases n48 a3 with v | ⟨M, hM, rfl, v⟩
      · refine pub_n h e1 (-3) (Ev.step ?_) (ref _ (fun x4 => Ev.step ?_))
        · simp only [e90_0]
          refine Ev.bind (ev_has hR (nI r)) ?_
          simp only [if_pos c, i1, if_false]
          refine Ev.bind (ev_has hR (nI r')) ?_
          rcases wi_f v with y | ⟨y, y2⟩
          · simp only [if_pos c', i1, if_false, if_pos y]
            exact Ev.ret
          · simp only [if_pos c', i1, if_false, if_neg y, if_pos y2]
            exact Ev.ret
        · simp only [e167_0]
          refine Ev.bind (ev_isRow hR (nI r)) ?_
          simp only [if_pos c, i1, if_false]
          refine Ev.bind (ev_isRow hR (nI r')) ?_
          simp only [if_pos c', i1, if_false]
          refine Ev.bind ev_within ?_
          simp only [if_neg v, if_true]
          exact Ev.ret
      · obtain ⟨y, y2⟩ := wi_t v
        by_cases eq : nI r = nI r'
        · refine pub_n h e1 (-3) (Ev.step ?_) (Ev.step ?_)
          · simp only [e90_0]
            refine Ev.bind (ev_has hR (nI r)) ?_
            simp only [if_pos c, i1, if_false]
            refine Ev.bind (ev_has hR (nI r')) ?_
            simp only [if_pos c', i1, if_false, if_neg y, if_neg y2, if_pos eq]
            exact Ev.ret
          · simp only [e168_0, e1, if_pos eq]
            have h167 : Ev (fun F => run L S F 29 167 0 [some (vR (2, 0, 0)), some (vI (nI r)), some (vI (nI r')), some (vI (nI M)), some (vI 0), none] ν) (-3, ν) := by
              refine Ev.step ?_
              simp only [e167_0]
              refine Ev.bind (ev_isRow hR (nI r)) ?_
              simp only [if_pos c, i1, if_false]
              refine Ev.bind (ev_isRow hR (nI r')) ?_
              simp only [if_pos c', i1, if_false]
              refine Ev.bind ev_within ?_
              simp only [if_pos v, i1, if_false, if_true]
              exact Ev.ret
            exact Ev.bind h167 Ev.ret
        · have ref1 : ∀ v, Ev (fun F => run L S F 29 167 0 [some (vR (2, 0, 0)), some (vI (nI r)), some (vI (nI r')), some (vI (nI M)), some (vI 1), none] ν) v → Ev (fun F => run L S F 30 168 0 [some (vR (2, 0, 0)), some (vI (nI r)), some (vI (nI r')), some (vI (nI M))] μ') v := fun v hv => by
            refine Ev.step ?_
            simp only [e168_0, e1, if_neg eq]
            exact Ev.bind hv Ev.ret
          by_cases r48 : 48 < w + M
          · refine pub_n h e1 (-4) (Ev.step ?_) (ref1 _ (Ev.step ?_))
            · simp only [e90_0]
              refine Ev.bind (ev_has hR (nI r)) ?_
              simp only [if_pos c, i1, if_false]
              refine Ev.bind (ev_has hR (nI r')) ?_
              simp only [if_pos c', i1, if_false, if_neg y, if_neg y2, if_neg eq]
              have h91 : Ev (fun F => run L S F 29 91 0 [some (vR (0, 0, 0)), some (vI (nI r)), some (vI (nI r')), some (vI (nI M)), none] μ) (-4, μ) := Ev.step (by
                simp only [e91_0, hR.w5 rfl, if_pos ((c48 hw hM).mpr r48)]
                exact Ev.ret)
              exact Ev.bind h91 Ev.ret
            · simp only [e167_0]
              refine Ev.bind (ev_isRow hR (nI r)) ?_
              simp only [if_pos c, i1, if_false]
              refine Ev.bind (ev_isRow hR (nI r')) ?_
              simp only [if_pos c', i1, if_false]
              refine Ev.bind ev_within ?_
              simp only [if_pos v, i1, if_false, hR.wt.1, if_pos ((c48 hw hM).mpr r48)]
              exact Ev.ret
          · obtain ⟨μ1, ν1, p1, p2, p3, p4, p5, p6, p7, p8, p9⟩ := p_turns (L := L) (S := S) hth hB hl0 hr hr' hM (by omega)
            refine pub_m e1 p1 p2 p3 addC_fco (askM_mk (by omega)) askM_mf p4 (by omega) (by omega) p5 (Ev.step ?_) (ref1 _ (Ev.step ?_)) (x := nI (w + M))
            · simp only [e90_0]
              refine Ev.bind (ev_has hR (nI r)) ?_
              simp only [if_pos c, i1, if_false]
              refine Ev.bind (ev_has hR (nI r')) ?_
              simp only [if_pos c', i1, if_false, if_neg y, if_neg y2, if_neg eq]
              have h91 : Ev (fun F => run L S F 29 91 0 [some (vR (0, 0, 0)), some (vI (nI r)), some (vI (nI r')), some (vI (nI M)), none] μ) (nI (w + M), addC 0 w (hl (nI r) (nI r')) M μ1) := Ev.step (by
                simp only [e91_0, hR.w5 rfl, if_neg (fun x => r48 ((c48 hw hM).mp x))]
                have := c_turns_go (L := L) (S := S) (d := 28) (w := w) (a := nI r) (c := nI r') (M := M) (μ0 := μ1) (by omega) M 0 (by omega)
                rw [p8] at this
                exact Ev.bind (p6.dp (by omega)) this)
              exact Ev.bind h91 Ev.ret
            · simp only [e167_0]
              refine Ev.bind (ev_isRow hR (nI r)) ?_
              simp only [if_pos c, i1, if_false]
              refine Ev.bind (ev_isRow hR (nI r')) ?_
              simp only [if_pos c', i1, if_false]
              refine Ev.bind ev_within ?_
              simp only [if_pos v, i1, if_false, hR.wt.1, if_neg (fun x => r48 ((c48 hw hM).mp x))]
              have := m_turns_go (L := L) (S := S) (d := 28) (w := w) (a := nI r) (c := nI r') (M := M) (ν0 := ν1) (by omega) M 0 (by omega)
              rw [p9] at this
              exact Ev.bind (p7.dp (by omega)) this
/-- two rows change places -/
theorem R.swp (h : R n q w z 1000 j b μ μ') {a c pa pc : Nat} (ha : a < n) (hc : c < n) (hac : a ≠ c) (hpa : pa < n) (hpc : pc < n) (ha1 : μ (1, j, 3) a = nI pa) (ha2 : μ (1, j, 4) pa = nI a) (hc1 : μ (1, j, 3) c = nI pc) (hc2 : μ (1, j, 4) pc = nI c) :
    R n q w z 1000 j b (mset (mset (mset (mset μ (1, j, 3) a (nI pc)) (1, j, 3) c (nI pa)) (1, j, 4) pc (nI a)) (1, j, 4) pa (nI c)) (mset (mset μ' (2, 0, 1) (44 + a) (nI pc)) (2, 0, 1) (44 + c) (nI pa)) := by
  have hN := h.hn
  have hpp : pa ≠ pc := fun e => by
    rw [e] at ha2
    exact hac (nI_inj (by omega) (by omega) (ha2.symm.trans hc2))
  have hL : LocR n 1000 j (mset (mset (mset (mset μ (1, j, 3) a (nI pc)) (1, j, 3) c (nI pa)) (1, j, 4) pc (nI a)) (1, j, 4) pa (nI c)) (mset (mset μ' (2, 0, 1) (44 + a) (nI pc)) (2, 0, 1) (44 + c) (nI pa)) :=
    (((h.1.1.set hN.2.2.2 (o := 3) (k := a) (i := 44 + a) (by simp [loc, ha])).set hN.2.2.2 (o := 3) (k := c) (i := 44 + c) (by simp [loc, hc])).setC rfl).setC rfl
  have g3 : ∀ r, mset (mset (mset (mset μ (1, j, 3) a (nI pc)) (1, j, 3) c (nI pa)) (1, j, 4) pc (nI a)) (1, j, 4) pa (nI c) (1, j, 3) r = if r = c then nI pa else if r = a then nI pc else μ (1, j, 3) r := fun r => by
    rw [mset_go (by decide), mset_go (by decide), mset_g, mset_g]
    simp
  have g4 : ∀ p, mset (mset (mset (mset μ (1, j, 3) a (nI pc)) (1, j, 3) c (nI pa)) (1, j, 4) pc (nI a)) (1, j, 4) pa (nI c) (1, j, 4) p = if p = pa then nI c else if p = pc then nI a else μ (1, j, 4) p := fun p => by
    rw [mset_g, mset_g, mset_go (by decide), mset_go (by decide)]
    simp
  have go : ∀ o k, o ≠ 3 → o ≠ 4 → mset (mset (mset (mset μ (1, j, 3) a (nI pc)) (1, j, 3) c (nI pa)) (1, j, 4) pc (nI a)) (1, j, 4) pa (nI c) (1, j, o) k = μ (1, j, o) k := fun o k x y => by
    rw [mset_go y, mset_go y, mset_go x, mset_go x]
  have gm : ∀ i, i < 44 ∨ 60 ≤ i → mset (mset μ' (2, 0, 1) (44 + a) (nI pc)) (2, 0, 1) (44 + c) (nI pa) (2, 0, 1) i = μ' (2, 0, 1) i := fun i hi => by
    rw [mset_gk (by omega), mset_gk (by omega)]
  refine ⟨⟨hL, by omega⟩, h.wt.keep (fun o k x => go o k (by omega) (by omega)) (fun i hi => gm i (by omega)), h.qu.keep hN.2.2.2 (fun o k x => go o k (by omega) (by omega)) (fun i hi => gm i (by omega)), ⟨fun p hp => ?_, fun r hr => ?_⟩, h.so.keep (go 0 7 (by omega) (by omega)) (fun i hi => gm i (by omega)), h.rg.keep (fun i hi => gm i (by omega)), h.se.keep (fun i hi => gm i (by omega)), ?_, fun hb => ?_⟩
  · by_cases c1 : p = pa
    · exact ⟨c, hc, by rw [g4, if_pos c1], by rw [g3, if_pos rfl, c1]⟩
    · by_cases c2 : p = pc
      · exact ⟨a, ha, by rw [g4, if_neg c1, if_pos c2], by rw [g3, if_neg hac, if_pos rfl, c2]⟩
      · obtain ⟨r, r1, r2, r3⟩ := h.pm.1 p hp
        refine ⟨r, r1, by rw [g4, if_neg c1, if_neg c2]; exact r2, ?_⟩
        rw [g3, if_neg (fun e => ?_), if_neg (fun e => ?_)]
        · exact r3
        · rw [e] at r3
          exact c1 (nI_inj (by omega) (by omega) (r3.symm.trans ha1))
        · rw [e] at r3
          exact c2 (nI_inj (by omega) (by omega) (r3.symm.trans hc1))
  · by_cases c1 : r = c
    · exact ⟨pa, hpa, by rw [g3, if_pos c1], by rw [g4, if_pos rfl, c1]⟩
    · by_cases c2 : r = a
      · exact ⟨pc, hpc, by rw [g3, if_neg c1, if_pos c2], by rw [g4, if_neg (fun e => hpp e.symm), if_pos rfl, c2]⟩
      · obtain ⟨p, p1, p2, p3⟩ := h.pm.2 r hr
        refine ⟨p, p1, by rw [g3, if_neg c1, if_neg c2]; exact p2, ?_⟩
        rw [g4, if_neg (fun e => ?_), if_neg (fun e => ?_)]
        · exact p3
        · rw [e] at p3
          exact c1 (nI_inj (by omega) (by omega) (p3.symm.trans hc2))
        · rw [e] at p3
          exact c2 (nI_inj (by omega) (by omega) (p3.symm.trans ha2))
  · rw [gm 16 (by omega), go 24 3 (by omega) (by omega)]
    exact h.hz
  · rw [go 2 3 (by omega) (by omega), mset_ne (by decide), mset_ne (by decide)]
    exact h.pk hb
theorem sw_abs : ∀ a, a < 16 → ∀ b, b < 16 → mabs (nI a - nI b) = if nI b - nI a < 0 then -(nI b - nI a) else nI b - nI a := by decide +kernel
theorem P_swap (h : Inv T μ μ') : PubR L S T 83 164 [some (vR (0, 0, 0)), some (vI a1), some (vI a2)] [some (vR (2, 0, 0)), some (vI a1), some (vI a2), none, none] μ μ' := by
  have hth := h.th
  obtain ⟨ν, n, q, w, t, s, e1, hB, hw, ht, hl0⟩ := q_open h
  have e2 : th0 μ' = ν := e1
  rw [e2] at hth
  have hR := hB.1
  have hN := hR.hn
  rcases row_cases a1 n hN.2.2.2 with c | ⟨r, hr, rfl, c⟩
  · refine pub_n h e1 (-2) (Ev.step ?_) (Ev.step ?_)
    · simp only [e83_0]
      refine Ev.bind (ev_has hR a1) ?_
      simp only [if_neg c, if_true]
      exact Ev.ret
    · simp only [e164_0, e1]
      refine Ev.bind (ev_isRow hR a1) ?_
      simp only [if_neg c, if_true]
      exact Ev.ret
  · rcases row_cases a2 n hN.2.2.2 with c' | ⟨r', hr', rfl, c'⟩
    · refine pub_n h e1 (-2) (Ev.step ?_) (Ev.step ?_)
      · simp only [e83_0]
        refine Ev.bind (ev_has hR (nI r)) ?_
        simp only [if_pos c, i1, if_false]
        refine Ev.bind (ev_has hR a2) ?_
        simp only [if_neg c', if_true]
        exact Ev.ret
      · simp only [e164_0, e1]
        refine Ev.bind (ev_isRow hR (nI r)) ?_
        simp only [if_pos c, i1, if_false]
        refine Ev.bind (ev_isRow hR a2) ?_
        simp only [if_neg c', if_true]
        exact Ev.ret
    · by_cases eq : nI r = nI r'
      · refine pub_n h e1 (-3) (Ev.step ?_) (Ev.step ?_)
        · simp only [e83_0]
          refine Ev.bind (ev_has hR (nI r)) ?_
          simp only [if_pos c, i1, if_false]
          refine Ev.bind (ev_has hR (nI r')) ?_
          simp only [if_pos c', i1, if_false, if_pos eq]
          exact Ev.ret
        · simp only [e164_0, e1]
          refine Ev.bind (ev_isRow hR (nI r)) ?_
          simp only [if_pos c, i1, if_false]
          refine Ev.bind (ev_isRow hR (nI r')) ?_
          simp only [if_pos c', i1, if_false, if_pos eq]
          exact Ev.ret
      · have hne : r ≠ r' := fun e => eq (by rw [e])
        obtain ⟨μ1, ν1, k1, k2, k3, k4, k5, k6, k7, k8, -⟩ := p_keepB (L := L) (S := S) hth hB
        obtain ⟨pa, A1, A2, A3⟩ := k4.1.pm.2 r hr
        obtain ⟨pc, C1, C2, C3⟩ := k4.1.pm.2 r' hr'
        have A4 : ν1 (2, 0, 1) (44 + r) = nI pa := (k4.1.lc 3 r (44 + r) (by simp [loc, hr]) (by omega)).symm.trans A2
        have C4 : ν1 (2, 0, 1) (44 + r') = nI pc := (k4.1.lc 3 r' (44 + r') (by simp [loc, hr']) (by omega)).symm.trans C2
        have hb : Bx n q w t s 0 false (mset (mset (mset (mset μ1 (1, 0, 3) r (nI pc)) (1, 0, 3) r' (nI pa)) (1, 0, 4) pc (nI r)) (1, 0, 4) pa (nI r')) (mset (mset ν1 (2, 0, 1) (44 + r) (nI pc)) (2, 0, 1) (44 + r') (nI pa)) :=
          ⟨k4.1.swp hr hr' hne A1 C1 A2 A3 C2 C3, by rw [mset_gk (by omega), mset_gk (by omega)]; exact k4.2.1, by rw [mset_gk (by omega), mset_gk (by omega)]; exact k4.2.2.1, k4.2.2.2.1, fun x hx => by rw [mset_gk (by omega), mset_gk (by omega)]; exact k4.2.2.2.2.1 x hx, by rw [mset_gk (by omega), mset_gk (by omega)]; exact k4.2.2.2.2.2⟩
        refine pub_m e1 k3 k7 k8 FCo.rf.set.set.set.set ((MK.rf.set (by omega)).set (by omega)) MF.rf.set.set hb hw (by omega) ?_ (Ev.step ?_) (Ev.step ?_) (x := mabs (nI pa - nI pc))
        · unfold LG
          rw [mset_go (by decide), mset_go (by decide), mset_go (by decide), mset_go (by decide), mset_gk (by omega), mset_gk (by omega)]
          exact hl0.eq k5 k6
        · simp only [e83_0]
          refine Ev.bind (ev_has hR (nI r)) ?_
          simp only [if_pos c, i1, if_false]
          refine Ev.bind (ev_has hR (nI r')) ?_
          simp only [if_pos c', i1, if_false, if_neg eq]
          refine Ev.bind k1 ?_
          have h5 : Ev (fun F => run L S F 29 5 0 [some (vR (1, 0, 2)), some (vI (nI r)), some (vI (nI r')), none, none] μ1) (mabs (nI pa - nI pc), mset (mset (mset (mset μ1 (1, 0, 3) r (nI pc)) (1, 0, 3) r' (nI pa)) (1, 0, 4) pc (nI r)) (1, 0, 4) pa (nI r')) := Ev.step (by
            simp only [e5_0, inb_n (show r < 16 by omega) (by decide), inb_n (show r' < 16 by omega) (by decide), cond_true, nI_clamp (show r < 2 ^ 31 by omega), nI_clamp (show r' < 2 ^ 31 by omega), A2, C2, inb_n (show pa < 16 by omega) (by decide), inb_n (show pc < 16 by omega) (by decide), nI_clamp (show pa < 2 ^ 31 by omega), nI_clamp (show pc < 2 ^ 31 by omega)]
            exact Ev.ret)
          exact Ev.bind h5 Ev.ret
        · simp only [e164_0, e1]
          refine Ev.bind (ev_isRow hR (nI r)) ?_
          simp only [if_pos c, i1, if_false]
          refine Ev.bind (ev_isRow hR (nI r')) ?_
          simp only [if_pos c', i1, if_false, if_neg eq]
          refine Ev.bind k2 ?_
          simp only [a44, inb_n (show 44 + r < 1278 by omega) (by decide), inb_n (show 44 + r' < 1278 by omega) (by decide), cond_true, nI_clamp (show 44 + r < 2 ^ 31 by omega), nI_clamp (show 44 + r' < 2 ^ 31 by omega), A4, C4, mset_gk (show 44 + r ≠ 44 + r' by omega), mset_gg, sw_abs pa (by omega) pc (by omega)]
          by_cases y : nI pc - nI pa < 0
          · simp only [if_pos y]
            exact Ev.ret
          · simp only [if_neg y]
            exact Ev.ret
/-- a term is told -/
theorem RgR.trm {k : Nat} {v : Int32} (h : RgR n μ') (hk : k < 17) (h1 : tLo k ≤ v.toInt) (h2 : v.toInt ≤ tHi k) : RgR n (mset μ' (2, 0, 1) (27 + k) v) := by
  obtain ⟨r1, r2, r3, r4, r5, r6, r7, r8, r9⟩ := h
  have g : ∀ i, i ≠ 27 + k → mset μ' (2, 0, 1) (27 + k) v (2, 0, 1) i = μ' (2, 0, 1) i := fun i hi => mset_gk hi
  refine ⟨by rw [g 0 (by omega)]; exact r1, r2, r3, fun k' hk' => ?_, by rw [g 10 (by clear r4 r5 r6 r7 r8 r9; omega)]; exact r5, by rw [g 8 (by clear r4 r5 r6 r7 r8 r9; omega)]; exact r6, by rw [g 2 (by clear r4 r5 r6 r7 r8 r9; omega)]; exact r7, by rw [g 6 (by clear r4 r5 r6 r7 r8 r9; omega)]; exact r8, r9.keep r3 (fun i a c => g i (by clear r4 r5 r6 r7 r8 r9; omega))⟩
  by_cases c : k' = k
  · subst c
    rw [mset_gg]
    exact ⟨h1, h2⟩
  · rw [g _ (by clear r4 r5 r6 r7 r8 r9; omega)]
    exact r4 k' hk'
theorem R.trm {k : Nat} {v : Int32} (h : R n q w z 1000 j b μ μ') (hk : k < 17) (hk2 : k ≠ 2) (h1 : tLo k ≤ v.toInt) (h2 : v.toInt ≤ tHi k) : R n q w z 1000 j b (mset μ (1, j, 1) k v) (mset μ' (2, 0, 1) (27 + k) v) := by
  have hN := h.hn
  refine ⟨⟨h.1.1.set hN.2.2.2 (by simp [loc, hk]), by omega⟩, h.wt.keep (fun o k x => mset_go (by omega)) (fun i hi => mset_gk (by omega)), h.qu.keep hN.2.2.2 (fun o k x => mset_go (by omega)) (fun i hi => mset_gk (by omega)), h.pm.keep (fun o k x => mset_go (by omega)), h.so.keep (mset_go (by omega)) (fun i hi => mset_gk (by omega)), h.rg.trm hk h1 h2, h.se.keep (fun i hi => mset_gk (by omega)), ?_, fun hb => ?_⟩
  · rw [mset_gk (by omega), mset_go (by omega)]
    exact h.hz
  · rw [mset_go (by omega), mset_ne (by decide)]
    exact h.pk hb
theorem R.trmE {k : Nat} {v : Int32} (h : R n q w z 1000 j b μ μ') (hk : k < 17) (h1 : tLo k ≤ v.toInt) (h2 : v.toInt ≤ tHi k) : R n q w z 1000 j b (empC j (mset μ (1, j, 1) k v)) (empM (mset μ' (2, 0, 1) (27 + k) v)) := by
  have hN := h.hn
  have hL : LocR n 1000 j (empC j (mset μ (1, j, 1) k v)) (empM (mset μ' (2, 0, 1) (27 + k) v)) := LocR.emp hN.2.2.2 (h.1.1.set hN.2.2.2 (by simp [loc, hk]))
  have gm : ∀ i, i ≠ 3 → i ≠ 11 → (i < 108 ∨ 124 ≤ i) → (i < 172 ∨ 212 ≤ i) → empM (mset μ' (2, 0, 1) (27 + k) v) (2, 0, 1) i = mset μ' (2, 0, 1) (27 + k) v (2, 0, 1) i := fun i a c e f => empM_o ⟨a, c, e, f⟩
  have go : ∀ o k', (o < 11 ∨ 18 ≤ o) → o ≠ 1 → empC j (mset μ (1, j, 1) k v) (1, j, o) k' = μ (1, j, o) k' := fun o k' x y => (empC_o x).trans (mset_go y)
  refine ⟨⟨hL, by omega⟩, h.wt.keep (fun o k' x => go o k' (by omega) (by omega)) (fun i hi => (gm i (by omega) (by omega) (by omega) (by omega)).trans (mset_gk (by omega))), h.qu.keep hN.2.2.2 (fun o k' x => go o k' (by omega) (by omega)) (fun i hi => (gm i (by omega) (by omega) (by omega) (by omega)).trans (mset_gk (by omega))), h.pm.keep (fun o k' x => go o k' (by omega) (by omega)), h.so.keep (go 0 7 (by omega) (by omega)) (fun i hi => (gm i (by omega) (by omega) (by omega) (by omega)).trans (mset_gk (by omega))), (h.rg.trm hk h1 h2).keep (fun i hi => gm i (by omega) (by omega) (by omega) (by omega)), SeR.emp, ?_, fun hb => ?_⟩
  · rw [gm 16 (by omega) (by omega) (by omega) (by omega), mset_gk (by omega), go 24 3 (by omega) (by omega)]
    exact h.hz
  · rw [go 2 3 (by omega) (by omega), congrFun (empM_q (by decide)) 9, mset_ne (by decide)]
    exact h.pk hb
theorem Bx.trmE {k : Nat} {v : Int32} (h : Bx n q w t s j b μ μ') (hk : k < 17) (h1 : tLo k ≤ v.toInt) (h2 : v.toInt ≤ tHi k) : Bx n q w t 0 j b (empC j (mset μ (1, j, 1) k v)) (empM (mset μ' (2, 0, 1) (27 + k) v)) :=
  ⟨h.1.trmE hk h1 h2, by rw [empM_o (by omega), mset_gk (by omega)]; exact h.2.1, by rw [empM_0 (by omega)]; rfl, by omega, fun r hr => by rw [empM_o (by omega), mset_gk (by omega)]; exact h.2.2.2.2.1 r hr, by rw [empM_o (by omega), mset_gk (by omega)]; exact h.2.2.2.2.2⟩
theorem Bx.trm {k : Nat} {v : Int32} (h : Bx n q w t s j b μ μ') (hk : k < 17) (hk2 : k ≠ 2) (h1 : tLo k ≤ v.toInt) (h2 : v.toInt ≤ tHi k) : Bx n q w t s j b (mset μ (1, j, 1) k v) (mset μ' (2, 0, 1) (27 + k) v) :=
  ⟨h.1.trm hk hk2 h1 h2, by rw [mset_gk (by omega)]; exact h.2.1, by rw [mset_gk (by omega)]; exact h.2.2.1, h.2.2.2.1, fun r hr => by rw [mset_gk (by omega)]; exact h.2.2.2.2.1 r hr, by rw [mset_gk (by omega)]; exact h.2.2.2.2.2⟩
def StS (S : Ad → Nat → Int32) : Prop := ∀ k, k < 17 → (S (3, 0, 1) k).toInt = tLo k ∧ (S (3, 0, 2) k).toInt = tHi k
theorem FCo.empC (h : FCo j μ μ1) : FCo j μ (empC j μ1) := fun q hq => (empC_q hq).trans (h q hq)
theorem MK.emp (h : MK μ' μ1') : MK μ' (empM μ1') := ⟨fun i hi => (empM_o (by omega)).trans (h.1 i hi), fun o ho => (empM_q (by simp; omega)).trans (h.2.1 o ho), fun k hk => (congrFun (empM_q (by decide)) k).trans (h.2.2 k hk)⟩
theorem MF.emp (h : MF μ' μ1') : MF μ' (empM μ1') := fun q hq => (empM_q (fun e => hq (by rw [e]))).trans (h q hq)
theorem P_terms (hS : StS S) (h : Inv T μ μ') : PubR L S T 82 163 [some (vR (0, 0, 0)), some (vI a1), some (vI a2), none] [some (vR (2, 0, 0)), some (vI a1), some (vI a2), none] μ μ' := by
  have hth := h.th
  have hco := hth.2.2.2.2.2
  obtain ⟨ν, n, q, w, t, s, e1, hB, hw, ht, hl0⟩ := q_open h
  have e2 : th0 μ' = ν := e1
  rw [e2] at hth hco
  have x0 : (0 : Int32).toInt = 0 := rfl
  have x16 : (16 : Int32).toInt = 16 := rfl
  have x17 : (17 : Int32).toInt = 17 := rfl
  by_cases c : (0 : Int32).toInt ≤ a1.toInt ∧ a1.toInt ≤ (16 : Int32).toInt
  · obtain ⟨k, hk, rfl⟩ : ∃ k, k < 17 ∧ a1 = nI k := ⟨a1.toInt.toNat, by omega, nI_toNat (by omega)⟩
    obtain ⟨s1, s2⟩ := hS k hk
    obtain ⟨c1, c2⟩ := hco k hk
    by_cases v : tLo k ≤ a2.toInt ∧ a2.toInt ≤ tHi k
    · obtain ⟨μ1, ν1, k1, k2, k3, k4, k5, k6, k7, k8, -⟩ := p_keepB (L := L) (S := S) hth hB
      have y1 : ¬ a2 < S (3, 0, 1) k := fun y => by
        have := Int32.lt_iff_toInt_lt.mp y
        omega
      have y2 : ¬ S (3, 0, 2) k < a2 := fun y => by
        have := Int32.lt_iff_toInt_lt.mp y
        omega
      have v2 : (ν (2, 0, 5) k).toInt ≤ a2.toInt ∧ a2.toInt ≤ (ν (2, 0, 6) k).toInt := by rw [c1, c2]; exact v
      have gt : μ (1, 0, 1) k = ν1 (2, 0, 1) (27 + k) := by rw [k6]; exact hB.1.term hk
      have pre : ∀ x μ2, Ev (fun F => run L S F 29 36 0 [some (vR (1, 0, 0)), some (vI (nI k)), some (vI a2)] μ1) (x, μ2) → Ev (fun F => run L S F 30 82 0 [some (vR (0, 0, 0)), some (vI (nI k)), some (vI a2), none] μ) (ν1 (2, 0, 1) (27 + k), μ2) := fun x μ2 hx => by
        refine Ev.step ?_
        simp only [e82_0, if_neg (nI_pos (show k < 2 ^ 31 by omega)), if_pos (show nI k < (17 : Int32) from nI_lt (b := 17) hk (by decide)), inb_n hk (show 17 < 2 ^ 31 by decide), cond_true, nI_clamp (show k < 2 ^ 31 by omega), if_neg y1, if_neg y2, gt]
        exact Ev.bind k1 (Ev.bind hx Ev.ret)
      have a27 : ∀ r, (27 : Int32) + nI r = nI (27 + r) := fun r => by rw [← nI_add]; rfl
      have post : ∀ v, (if nI k = 2 then (some (0 : Nat)) else if nI k = 3 then some 0 else none) = none → (0, mset ν1 (2, 0, 1) (27 + k) a2) = v → Ev (fun F => run L S F 30 163 0 [some (vR (2, 0, 0)), some (vI (nI k)), some (vI a2), none] μ') (ν1 (2, 0, 1) (27 + k), v.2) := fun v hv he => by
        subst he
        have d2 : ¬ nI k = 2 := fun e => by rw [if_pos e] at hv; cases hv
        have d3 : ¬ nI k = 3 := fun e => by rw [if_neg d2, if_pos e] at hv; cases hv
        refine Ev.step ?_
        simp only [e163_0, e1]
        refine Ev.bind ev_within ?_
        simp only [if_pos c, i1, if_false, inb_n hk (show 17 < 2 ^ 31 by decide), cond_true, nI_clamp (show k < 2 ^ 31 by omega)]
        refine Ev.bind ev_within ?_
        simp only [if_pos v2, i1, if_false]
        refine Ev.bind k2 ?_
        simp only [a27, inb_n (show 27 + k < 1278 by omega) (by decide), cond_true, nI_clamp (show 27 + k < 2 ^ 31 by omega), if_neg d2, if_neg d3]
        exact Ev.ret
      have postE : (nI k = 2 ∨ nI k = 3) → Ev (fun F => run L S F 30 163 0 [some (vR (2, 0, 0)), some (vI (nI k)), some (vI a2), none] μ') (ν1 (2, 0, 1) (27 + k), empM (mset ν1 (2, 0, 1) (27 + k) a2)) := fun hv => by
        refine Ev.step ?_
        simp only [e163_0, e1]
        refine Ev.bind ev_within ?_
        simp only [if_pos c, i1, if_false, inb_n hk (show 17 < 2 ^ 31 by decide), cond_true, nI_clamp (show k < 2 ^ 31 by omega)]
        refine Ev.bind ev_within ?_
        simp only [if_pos v2, i1, if_false]
        refine Ev.bind k2 ?_
        simp only [a27, inb_n (show 27 + k < 1278 by omega) (by decide), cond_true, nI_clamp (show 27 + k < 2 ^ 31 by omega)]
        by_cases d2 : nI k = 2
        · simp only [if_pos d2]
          exact Ev.bind (Ev.at 27 (fun F hF => m_empties hF)) Ev.ret
        · have d3 : nI k = 3 := hv.resolve_left d2
          simp only [if_neg d2, if_pos d3]
          exact Ev.bind (Ev.at 27 (fun F hF => m_empties hF)) Ev.ret
      by_cases kk : k = 2 ∨ k = 3
      · have kk' : nI k = 2 ∨ nI k = 3 := kk.imp (fun e => by rw [e]; rfl) (fun e => by rw [e]; rfl)
        refine pub_m e1 k3 k7 k8 FCo.rf.set.empC (MK.rf.set (by omega)).emp MF.rf.set.emp (k4.trmE hk v.1 v.2) hw (by omega) ?_ (pre 0 _ (Ev.step ?_)) (postE kk')
        · unfold LG
          rw [empC_o (by omega), mset_go (by decide), empM_o (by omega), mset_gk (by omega)]
          exact hl0.eq k5 k6
        · simp only [e36_0, inb_n hk (show 17 < 2 ^ 31 by decide), cond_true, nI_clamp (show k < 2 ^ 31 by omega)]
          by_cases d2 : nI k = 2
          · simp only [if_pos d2]
            exact Ev.bind (Ev.at 19 (fun F hF => s_empty hF (by omega))) Ev.ret
          · have d3 : nI k = 3 := kk'.resolve_left d2
            simp only [if_neg d2, if_pos d3]
            exact Ev.bind (Ev.at 19 (fun F hF => s_empty hF (by omega))) Ev.ret
      · have d2 : ¬ nI k = 2 := fun e => kk (Or.inl (nI_inj (b := 2) (by omega) (by decide) e))
        have d3 : ¬ nI k = 3 := fun e => kk (Or.inr (nI_inj (b := 3) (by omega) (by decide) e))
        refine pub_m e1 k3 k7 k8 FCo.rf.set (MK.rf.set (by omega)) MF.rf.set (k4.trm hk (by omega) v.1 v.2) hw (by omega) ?_ (pre 0 _ (Ev.step ?_)) (post _ (by rw [if_neg d2, if_neg d3]) rfl)
        · unfold LG
          rw [mset_go (by decide), mset_gk (by omega)]
          exact hl0.eq k5 k6
        · simp only [e36_0, inb_n hk (show 17 < 2 ^ 31 by decide), cond_true, nI_clamp (show k < 2 ^ 31 by omega), if_neg d2, if_neg d3]
          exact Ev.ret
    · have v2 : ¬ ((ν (2, 0, 5) k).toInt ≤ a2.toInt ∧ a2.toInt ≤ (ν (2, 0, 6) k).toInt) := by rw [c1, c2]; exact v
      refine pub_n h e1 (-3) (Ev.step ?_) (Ev.step ?_)
      · by_cases y1 : a2 < S (3, 0, 1) k
        · simp only [e82_0, if_neg (nI_pos (show k < 2 ^ 31 by omega)), if_pos (show nI k < (17 : Int32) from nI_lt (b := 17) hk (by decide)), inb_n hk (show 17 < 2 ^ 31 by decide), cond_true, nI_clamp (show k < 2 ^ 31 by omega), if_pos y1]
          exact Ev.ret
        · have y2 : S (3, 0, 2) k < a2 := Int32.lt_iff_toInt_lt.mpr (by
            have := Int32.le_iff_toInt_le.mp (Int32.not_lt.mp y1)
            omega)
          simp only [e82_0, if_neg (nI_pos (show k < 2 ^ 31 by omega)), if_pos (show nI k < (17 : Int32) from nI_lt (b := 17) hk (by decide)), inb_n hk (show 17 < 2 ^ 31 by decide), cond_true, nI_clamp (show k < 2 ^ 31 by omega), if_neg y1, if_pos y2]
          exact Ev.ret
      · simp only [e163_0, e1]
        refine Ev.bind ev_within ?_
        simp only [if_pos c, i1, if_false, inb_n hk (show 17 < 2 ^ 31 by decide), cond_true, nI_clamp (show k < 2 ^ 31 by omega)]
        refine Ev.bind ev_within ?_
        simp only [if_neg v2, if_true]
        exact Ev.ret
  · refine pub_n h e1 (-2) (Ev.step ?_) (Ev.step ?_)
    · by_cases y1 : a1 < 0
      · simp only [e82_0, if_pos y1]
        exact Ev.ret
      · have y2 : ¬ a1 < 17 := fun y => c (by
          have z1 := Int32.le_iff_toInt_le.mp (Int32.not_lt.mp y1)
          have z2 := Int32.lt_iff_toInt_lt.mp y
          omega)
        simp only [e82_0, if_neg y1, if_neg y2]
        exact Ev.ret
    · simp only [e163_0, e1]
      refine Ev.bind ev_within ?_
      simp only [if_neg c, if_true]
      exact Ev.ret
end TE
