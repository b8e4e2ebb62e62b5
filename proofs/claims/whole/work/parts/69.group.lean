/-! a group of a pattern, on both sides; all parts -/
section PG2
variable {L : Nat} {S : Ad → Nat → Int32} {d e n q w m t s T T1 l c r p k sz op : Nat} {B : Nat → Nat} {z x : Int32} {μ μ' μ1 μ1' μ2 : Mm} {a1 a2 a3 a4 a5 : Int32} {ν ν0 ν1 ν2 κ : Mm}
theorem FOu.m14 {v : Int32} (h : FOu L S d sz n p μ ν ν1) : FOu L S d sz n p μ ν (mset ν1 (2, 0, 0) 14 v) := by
  obtain ⟨μ2, a1, a2, a3, a4, a5, a6⟩ := h
  exact ⟨μ2, a1, by rw [mset_gk (by decide)]; exact a2, by rw [mset_gk (by decide)]; exact a3, by rw [mset_gk (by decide)]; exact a4, a5, a6.f (by decide)⟩
theorem KS.le {o2 : Nat} (h : KS o2 μ μ1) (ho : op ≤ o2) : KS op μ μ1 := fun i hi => h i (by omega)
theorem c_74 (h7 : μ (0, 0, 9) 7 = 0) (h9 : μ (0, 0, 9) 9 = 0) : Ev (fun F => run L S F d 74 0 [some (vR (0, 0, 9))] μ) (0, μ) := by
  have := c_bad (L := L) (S := S) (d := d) (μ := μ) (k := 0) (w := 0) h7 h9 (by decide) (by decide)
  rw [if_neg (fun x => absurd x.1 (by decide))] at this
  exact this
/-- the piece again, when a bracket closes -/
theorem close_go {r2 : Nat} (hr : r ≤ r2) (h : RDr n r2 μ ν) (hw : ν (2, 0, 0) 15 = 0) (ht1 : 1 ≤ t) (ht : t ≤ 48) : ∃ r6 μ6 ν6, Ev (fun F => run L S F 1 79 65 [some (vR (0, 0, 9)), none, none, some (vI (nI (min r 48 + (min r2 48 - min r 48) * (t - 1)))), some (vI (nI (min r 48)))] μ) (0, μ6) ∧ Ev (fun F => run L S F 1 176 182 [some (vR (2, 0, 0)), none, some (vI (nI t)), none, some (vI (nI r)), some (vI (nI (r2 - r))), some (vI (nI 1)), none] ν) (0, ν6) ∧ RDr n r6 μ6 ν6 ∧ A9 μ μ6 ∧ A20 ν ν6 ∧ r2 ≤ r6 := by
  have hrr := h.1
  have c11 := h.2.2.2.1
  by_cases c : r2 = 49
  · subst c
    rw [if_pos rfl] at c11
    refine ⟨49, μ, ν, Ev.step ?_, rep_skip (by omega) (t - 1) 1 (by omega) hw (Or.inl h.2.1), h, A9.rf, A20.rf, Nat.le_refl _⟩
    simp only [e79_65, c11, i1, if_false, ite_self]
    exact Ev.ret
  · rw [Nat.min_eq_left (show r ≤ 48 by omega), Nat.min_eq_left (show r2 ≤ 48 by omega)]
    by_cases c2 : r2 = r
    · subst c2
      refine ⟨r2, μ, ν, Ev.step ?_, rep_skip (by omega) (t - 1) 1 (by omega) hw (Or.inr (by omega)), h, A9.rf, A20.rf, Nat.le_refl _⟩
      rw [Nat.sub_self, Nat.zero_mul, Nat.add_zero]
      simp only [e79_65, if_neg (nI_nlt (Nat.le_refl r2) (show r2 < 2 ^ 31 by omega))]
      exact Ev.ret
    · have := rep_group (L := L) (S := S) (d := 0) (x4 := r) (x5 := r2 - r) (t := t) (by omega) (by omega) (by omega) (t - 1) 0 r2 μ ν r (by omega) h hw (by omega) (Or.inr ⟨by omega, by omega, fun g hg => by rw [Nat.mod_eq_of_lt (by omega)]⟩)
      exact this
theorem pt_group (h : MDx L S d sz n B op p q r t μ ν μ1 ν1) (hop : op < 3) (hq : q < sz) (hb : B q = 40) (hL : LsS L S d sz n B (e + 1) (op + 1)) : ∃ ν2, Ev (fun F => run L S F (e + 2) 176 0 [some (vR (2, 0, 0)), some (vI (nI op)), none, none, none, none, none, none] ν) (0, ν2) ∧ (FOu L S d sz n p μ ν ν2 ∨ ∃ p2, GOu L S d sz n B op p r μ ν ν2 p2) := by
  obtain ⟨m1, m2, m3, m4, m5, m6, m7, m8, m9, m10, m11, m12, m13, m14, m15, m16, m17, m18, m19, m20, m21⟩ := h
  have hz := m1.1
  have h20 := m2.2.1
  have h3 := m2.2.2.1
  -- the class opens
  have c78 : Ev (fun F => run L S F (d + 2) 78 0 [some (vR (0, 0, 9)), some (vI (nI q))] μ1) (0, mset (mset (mset (mset (mset (mset μ1 (0, 0, 11) op (nI (min r 48))) (0, 0, 12) op (nI t)) (0, 0, 9) 6 (nI (op + 1))) (0, 0, 9) 7 0) (0, 0, 9) 9 0) (0, 0, 9) 10 0) := Ev.step (by
    have h72 : Ev (fun F => run L S F (d + 1) 72 0 [some (vR (0, 0, 9))] (mset (mset (mset μ1 (0, 0, 11) op (nI (min r 48))) (0, 0, 12) op (nI t)) (0, 0, 9) 6 (nI (op + 1)))) (0, mset (mset (mset (mset (mset μ1 (0, 0, 11) op (nI (min r 48))) (0, 0, 12) op (nI t)) (0, 0, 9) 6 (nI (op + 1))) (0, 0, 9) 7 0) (0, 0, 9) 9 0) := Ev.step (by
      simp only [e72_0]
      exact Ev.ret)
    simp only [e78_0, m9, if_pos (show nI op < (3 : Int32) from nI_lt (b := 3) hop (by decide)), inb_n hop (show 3 < 2 ^ 31 by decide), cond_true, nI_clamp (show op < 2 ^ 31 by omega), h3, mset_ne (show ((0, 0, 9) : Ad) ≠ (0, 0, 11) by decide), mset_ne (show ((0, 0, 9) : Ad) ≠ (0, 0, 12) by decide), m10, nI_1]
    exact Ev.bind h72 Ev.ret)
  have cl1 : CL L S d sz n p μ (q + 1) _ := m17.tr (c_sign m1 m8 hq m15 (c_75 (m16 _) (by omega) (by
    simp only [if_neg (show ¬ (97 ≤ B q ∧ B q ≤ 112) by omega), if_pos hb]
    exact c78)))
  have g : ∀ k, k ≠ 6 → k ≠ 7 → k ≠ 9 → k ≠ 10 → mset (mset (mset (mset (mset (mset μ1 (0, 0, 11) op (nI (min r 48))) (0, 0, 12) op (nI t)) (0, 0, 9) 6 (nI (op + 1))) (0, 0, 9) 7 0) (0, 0, 9) 9 0) (0, 0, 9) 10 0 (0, 0, 9) k = μ1 (0, 0, 9) k := fun k a b c x => by rw [mset_gk x, mset_gk c, mset_gk b, mset_gk a, mset_ne (by decide), mset_ne (by decide)]
  have g6 : mset (mset (mset (mset (mset (mset μ1 (0, 0, 11) op (nI (min r 48))) (0, 0, 12) op (nI t)) (0, 0, 9) 6 (nI (op + 1))) (0, 0, 9) 7 0) (0, 0, 9) 9 0) (0, 0, 9) 10 0 (0, 0, 9) 6 = nI (op + 1) := by rw [mset_gk (by decide), mset_gk (by decide), mset_gk (by decide), mset_gg]
  have g7 : mset (mset (mset (mset (mset (mset μ1 (0, 0, 11) op (nI (min r 48))) (0, 0, 12) op (nI t)) (0, 0, 9) 6 (nI (op + 1))) (0, 0, 9) 7 0) (0, 0, 9) 9 0) (0, 0, 9) 10 0 (0, 0, 9) 7 = 0 := by rw [mset_gk (by decide), mset_gk (by decide), mset_gg]
  have g9 : mset (mset (mset (mset (mset (mset μ1 (0, 0, 11) op (nI (min r 48))) (0, 0, 12) op (nI t)) (0, 0, 9) 6 (nI (op + 1))) (0, 0, 9) 7 0) (0, 0, 9) 9 0) (0, 0, 9) 10 0 (0, 0, 9) 9 = 0 := by rw [mset_gk (by decide), mset_gg]
  have g10 : mset (mset (mset (mset (mset (mset μ1 (0, 0, 11) op (nI (min r 48))) (0, 0, 12) op (nI t)) (0, 0, 9) 6 (nI (op + 1))) (0, 0, 9) 7 0) (0, 0, 9) 9 0) (0, 0, 9) 10 0 (0, 0, 9) 10 = 0 := mset_gg
  have gc : mset (mset (mset (mset (mset (mset μ1 (0, 0, 11) op (nI (min r 48))) (0, 0, 12) op (nI t)) (0, 0, 9) 6 (nI (op + 1))) (0, 0, 9) 7 0) (0, 0, 9) 9 0) (0, 0, 9) 10 0 (0, 0, 10) = μ1 (0, 0, 10) := by
    rw [mset_ne (by decide), mset_ne (by decide), mset_ne (by decide), mset_ne (by decide), mset_ne (by decide), mset_ne (by decide)]
  have gs : mset (mset (mset (mset (mset (mset μ1 (0, 0, 11) op (nI (min r 48))) (0, 0, 12) op (nI t)) (0, 0, 9) 6 (nI (op + 1))) (0, 0, 9) 7 0) (0, 0, 9) 9 0) (0, 0, 9) 10 0 (0, 0, 11) op = nI (min r 48) := by
    rw [mset_ne (by decide), mset_ne (by decide), mset_ne (by decide), mset_ne (by decide), mset_ne (by decide), mset_gg]
  have gt : mset (mset (mset (mset (mset (mset μ1 (0, 0, 11) op (nI (min r 48))) (0, 0, 12) op (nI t)) (0, 0, 9) 6 (nI (op + 1))) (0, 0, 9) 7 0) (0, 0, 9) 9 0) (0, 0, 9) 10 0 (0, 0, 12) op = nI t := by
    rw [mset_ne (by decide), mset_ne (by decide), mset_ne (by decide), mset_ne (by decide), mset_gg]
  have gf : FRc μ1 (mset (mset (mset (mset (mset (mset μ1 (0, 0, 11) op (nI (min r 48))) (0, 0, 12) op (nI t)) (0, 0, 9) 6 (nI (op + 1))) (0, 0, 9) 7 0) (0, 0, 9) 9 0) (0, 0, 9) 10 0) := fun q a b c x => by rw [mset_ne a, mset_ne a, mset_ne a, mset_ne a, mset_ne x, mset_ne c]
  have gk : KS op μ1 (mset (mset (mset (mset (mset (mset μ1 (0, 0, 11) op (nI (min r 48))) (0, 0, 12) op (nI t)) (0, 0, 9) 6 (nI (op + 1))) (0, 0, 9) 7 0) (0, 0, 9) 9 0) (0, 0, 9) 10 0) := fun i hi => by
    constructor
    · rw [mset_ne (by decide), mset_ne (by decide), mset_ne (by decide), mset_ne (by decide), mset_ne (by decide), mset_gk (by omega)]
    · rw [mset_ne (by decide), mset_ne (by decide), mset_ne (by decide), mset_ne (by decide), mset_gk (by omega), mset_ne (by decide)]
  generalize mset (mset (mset (mset (mset (mset μ1 (0, 0, 11) op (nI (min r 48))) (0, 0, 12) op (nI t)) (0, 0, 9) 6 (nI (op + 1))) (0, 0, 9) 7 0) (0, 0, 9) 9 0) (0, 0, 9) 10 0 = μ3 at cl1 g g6 g7 g9 g10 gc gs gt gf gk
  clear c78
  have fm3 : FRm ν1 (mset ν1 (2, 0, 0) 14 (nI (q + 1))) := FRm.rf.f (by decide)
  have sj : SJ sz n B (op + 1) (q + 1) r μ3 (mset ν1 (2, 0, 0) 14 (nI (q + 1))) := ⟨m1.fr gf fm3, m2.fr (g 3 (by decide) (by decide) (by decide) (by decide)) (g 11 (by decide) (by decide) (by decide) (by decide)) gc (mset_gk (by decide)) (mset_ne (by decide)), by rw [mset_gk (by decide)]; exact m3, mset_gg, by rw [mset_gk (by decide)]; exact m5, by rw [mset_gk (by decide), g 5 (by decide) (by decide) (by decide) (by decide)]; exact m6, by rw [mset_ne (by decide)]; exact m7, by rw [g 4 (by decide) (by decide) (by decide) (by decide)]; exact m8, g6, g7, g9⟩
  obtain ⟨ν4, l1, l2⟩ := hL (q + 1) r μ3 _ (by omega) sj g10
  -- the reference goes so far
  have start : ∀ v, Ev (fun F => if ν4 (2, 0, 0) 15 = 0 then
        (run L S F (e + 1) 172 0 [some (vR (2, 0, 0))] ν4).bind fun p21 =>
        if p21.1 = 41 then
          run L S F (e + 2) 176 182 [some (vR (2, 0, 0)), none, some (vI (nI t)), none, some (vI (nI r)), some (vI (mset p21.2 (2, 0, 0) 14 (p21.2 (2, 0, 0) 14 + 1) (2, 0, 0) 20 - nI r)), some (vI 1), none] (mset p21.2 (2, 0, 0) 14 (p21.2 (2, 0, 0) 14 + 1))
        else
          (run L S F (e + 1) 173 0 [some (vR (2, 0, 0)), some (vI 1), some (vI (p21.2 (2, 0, 0) 14))] p21.2).bind fun p26 =>
          run L S F (e + 2) 176 182 [some (vR (2, 0, 0)), none, some (vI (nI t)), none, some (vI (nI r)), some (vI (mset p26.2 (2, 0, 0) 14 (p26.2 (2, 0, 0) 14 + 1) (2, 0, 0) 20 - nI r)), some (vI 1), none] (mset p26.2 (2, 0, 0) 14 (p26.2 (2, 0, 0) 14 + 1))
      else
        run L S F (e + 2) 176 182 [some (vR (2, 0, 0)), none, some (vI (nI t)), none, some (vI (nI r)), some (vI (mset ν4 (2, 0, 0) 14 (ν4 (2, 0, 0) 14 + 1) (2, 0, 0) 20 - nI r)), some (vI 1), none] (mset ν4 (2, 0, 0) 14 (ν4 (2, 0, 0) 14 + 1))) v → Ev (fun F => run L S F (e + 2) 176 0 [some (vR (2, 0, 0)), some (vI (nI op)), none, none, none, none, none, none] ν) v := fun v hv => by
    refine Ev.step ?_
    simp only [e176_0]
    refine Ev.bind (m21 e) ?_
    simp only [m5, if_true]
    refine Ev.bind (m_ch m1 m3 m4 m14) ?_
    simp only [h20]
    refine Ev.bind ev_within ?_
    have y40 : ch sz B q = 40 := (ch_eq m1 (v := 40) (by decide)).mpr ⟨hq, hb⟩
    have nl : ¬ ((97 : Int32).toInt ≤ (ch sz B q).toInt ∧ (ch sz B q).toInt ≤ (112 : Int32).toInt) := fun x => by have := (ch_let m1).mp x; omega
    have n3 : ¬ nI op = (3 : Int32) := fun x => by
      have := nI_inj (b := 3) (by omega) (by decide) x
      omega
    simp only [if_neg nl, if_true, if_pos y40, if_neg n3]
    refine Ev.step ?_
    have x15 : mset ν1 (2, 0, 0) 14 (nI (q + 1)) (2, 0, 0) 15 = 0 := by rw [mset_gk (by decide)]; exact m5
    simp only [e176_99, m4, nI_1, x15, if_true]
    exact Ev.bind l1 hv
  rcases l2 with fo | ⟨p2, ⟨r2, μ4, w1, w2, ⟨s1, s2, s3, s4, s5, s6, s7, s8, s9, s10, s11⟩, w4, w5, w6, w7, w8, w9⟩, wE⟩
  · have fo2 := (fo.cl cl1 (m18.tr gf) (m20.tr fm3)).m14 (v := ν4 (2, 0, 0) 14 + 1)
    refine ⟨mset ν4 (2, 0, 0) 14 (ν4 (2, 0, 0) 14 + 1), start _ ?_, Or.inl fo2⟩
    obtain ⟨-, -, -, -, n15, -⟩ := fo
    simp only [if_neg n15]
    exact rep_wrong (by rw [mset_gk (by decide)]; exact n15)
  · have hch := m_ch (L := L) (S := S) (d := e + 1) s1 s3 s4 w2
    have d4 : ∀ d', Ev (fun F => run L S F d' 74 0 [some (vR (0, 0, 9))] μ4) (0, μ4) := fun d' => c_74 s10 s11
    have clA := cl1.tr w6
    have fcA := (m18.tr gf).tr w8
    have fmA := (m20.tr fm3).tr w9
    rcases wE with rfl | ⟨wq, wb⟩
    · -- the end comes first
      have k15 : mset (mset (mset ν4 (2, 0, 0) 15 1) (2, 0, 0) 16 (nI p2)) (2, 0, 0) 14 (nI p2 + 1) (2, 0, 0) 15 = 1 := by rw [mset_gk (by decide), mset_gk (by decide), mset_gg]
      refine ⟨mset (mset (mset ν4 (2, 0, 0) 15 1) (2, 0, 0) 16 (nI p2)) (2, 0, 0) 14 (nI p2 + 1), start _ ?_, Or.inl ⟨mset (mset μ4 (0, 0, 9) 4 1) (0, 0, 9) 5 (nI p2), clA _ (c_end s8 (by omega) (Ev.step ?_)), ?_, ?_, ?_, fcA.f.f, ((fmA.f (by decide)).f (by decide)).f (by decide)⟩⟩
      · simp only [s5, if_true]
        refine Ev.bind hch ?_
        have n41 : ¬ ch p2 B p2 = 41 := fun x => absurd ((ch_eq s1 (v := 41) (by decide)).mp x).1 (by omega)
        have x14 : mset (mset ν4 (2, 0, 0) 15 1) (2, 0, 0) 16 (nI p2) (2, 0, 0) 14 = nI p2 := by rw [mset_gk (by decide), mset_gk (by decide)]; exact s4
        simp only [if_neg n41, s4]
        refine Ev.bind (m_173 s5) ?_
        simp only [x14]
        exact rep_wrong (by rw [k15]; decide)
      · simp only [e76_0]
        refine Ev.bind (d4 _) ?_
        simp only [if_true, s9, if_pos (show (0 : Int32) < nI (op + 1) from nI_lt (a := 0) (by omega) (by omega))]
        exact Ev.bind c_71 Ev.ret
      · rw [k15, mset_gk (by decide), mset_gg]
      · rw [mset_gg, mset_gk (show (16 : Nat) ≠ 14 by decide), mset_gg]
      · rw [k15]; decide
    · -- it closes
      have hsub : r ≤ r2 := w4
      have s3' := s2.2.2.1
      have s20 := s2.2.1
      have k11 : μ4 (0, 0, 11) op = nI (min r 48) := (w7 op (by omega)).1.trans gs
      have k12 : μ4 (0, 0, 12) op = nI t := (w7 op (by omega)).2.trans gt
      have f6 : RDr n r2 (mset μ4 (0, 0, 9) 6 (nI op)) (mset ν4 (2, 0, 0) 14 (nI (p2 + 1))) := s2.fr (mset_gk (by decide)) (mset_gk (by decide)) (mset_ne (by decide)) (mset_gk (by decide)) (mset_ne (by decide))
      have y15 : mset ν4 (2, 0, 0) 14 (nI (p2 + 1)) (2, 0, 0) 15 = 0 := by rw [mset_gk (by decide)]; exact s5
      obtain ⟨r6, μ6, ν6, b1, b2, b3, b4, b5, b6⟩ := close_go (L := L) (S := S) (t := t) hsub f6 y15 m11 m12
      have cls : Ev (fun F => run L S F (d + 2) 79 0 [some (vR (0, 0, 9)), some (vI (nI p2)), none, none, none] μ4) (0, μ6) := Ev.step (by
        obtain ⟨t', rfl⟩ : ∃ t', t = t' + 1 := ⟨t - 1, by omega⟩
        simp only [e79_0, s9, if_neg (nI_ne0 (show 0 < op + 1 by omega) (show op + 1 < 2 ^ 31 by omega)), w5, i1, if_false, nI_pred, mset_gg, inb_n (show op < 3 by omega) (show 3 < 2 ^ 31 by decide), cond_true, nI_clamp (show op < 2 ^ 31 by omega), mset_ne (show ((0, 0, 11) : Ad) ≠ (0, 0, 9) by decide), mset_ne (show ((0, 0, 12) : Ad) ≠ (0, 0, 9) by decide), k11, k12, mset_gk (show (3 : Nat) ≠ 6 by decide), s3', nI_sub' (show min r 48 ≤ min r2 48 by omega), nI_mul, nI_add]
        exact b1.dp (by omega))
      have nd : ¬ dig sz B p2 := fun x => by have := x.2; omega
      have clB := clA.tr (c_sign s1 s8 wq nd (c_75 (d4 _) (by omega) (by
        simp only [if_neg (show ¬ (97 ≤ B p2 ∧ B p2 ≤ 112) by omega), if_neg (show ¬ B p2 = 40 by omega), if_pos wb]
        exact cls)))
      have fc : FRc μ4 μ6 := (FRc.rf.f).tr b4.fr
      have fm : FRm ν4 ν6 := (FRm.rf.f (by decide)).tr b5.fr
      have n6 : ∀ k, k ≠ 3 → k ≠ 11 → k ≠ 6 → μ6 (0, 0, 9) k = μ4 (0, 0, 9) k := fun k a b c => by rw [b4.1 k a b, mset_gk c]
      have v6 : ∀ k, k ≠ 20 → k ≠ 14 → ν6 (2, 0, 0) k = ν4 (2, 0, 0) k := fun k a b => by rw [b5.1 k a, mset_gk b]
      refine ⟨ν6, start _ ?_, Or.inr ⟨p2 + 1, r6, μ6, by omega, by omega, ⟨s1.fr fc fm, b3, (v6 13 (by decide) (by decide)).trans s3, ?_, (v6 15 (by decide) (by decide)).trans s5, ?_, ?_, ?_, ?_, ?_, ?_⟩, by omega, ?_, clB, (m19.tr gk).tr ((w7.le (by omega)).tr ((KS.rf.f).tr b4.ks)), fcA.tr fc, fmA.tr fm⟩⟩
      · simp only [s5, if_true]
        refine Ev.bind hch ?_
        have y41 : ch sz B p2 = 41 := (ch_eq s1 (v := 41) (by decide)).mpr ⟨wq, wb⟩
        have x20 : ∀ v, mset ν4 (2, 0, 0) 14 v (2, 0, 0) 20 = nI r2 := fun v => by rw [mset_gk (by decide)]; exact s20
        simp only [if_pos y41, s4, nI_1, x20, nI_sub' hsub]
        exact b2.dp (by omega)
      · rw [b5.1 14 (by decide), mset_gg]
      · rw [v6 16 (by decide) (by decide), n6 5 (by decide) (by decide) (by decide)]; exact s6
      · rw [fm.2 _ (by decide) (by decide)]; exact s7
      · rw [n6 4 (by decide) (by decide) (by decide)]; exact s8
      · rw [b4.1 6 (by decide) (by decide), mset_gg]
      · rw [n6 7 (by decide) (by decide) (by decide)]; exact s10
      · rw [n6 9 (by decide) (by decide) (by decide)]; exact s11
      · rw [n6 10 (by decide) (by decide) (by decide)]; exact w5
theorem c_num (hS : SJ sz n B op p r μ ν) (hp : p ≤ sz) (h10 : μ (0, 0, 9) 10 = 0 ∨ (p < sz ∧ B p ≠ 41)) : (∃ ν2, (∀ e, Ev (fun F => run L S F (e + 2) 176 0 [some (vR (2, 0, 0)), some (vI (nI op)), none, none, none, none, none, none] ν) (0, ν2)) ∧ FOu L S d sz n p μ ν ν2) ∨ ∃ q t μ1 ν1, MDx L S d sz n B op p q r t μ ν μ1 ν1 ∧ (μ1 (0, 0, 9) 10 = 0 ∨ (q < sz ∧ B q ≠ 41)) := by
  obtain ⟨s1, s2, s3, s4, s5, s6, s7, s8, s9, s10, s11⟩ := hS
  have hz := s1.1
  obtain ⟨k, k1, k2, k3⟩ := digs_ex (sz := sz) (B := B) (sz - p) p (by omega)
  obtain ⟨μ1, hN, hcl⟩ := c_digs (L := L) (S := S) (d := d) (n := n) (p := p) s1 s8 s10 s11 k k2
  obtain ⟨n1, n2, n3, n4, n5, n6⟩ := hN
  have hN : NumC p k (vc B p k) μ μ1 := ⟨n1, n2, n3, n4, n5, n6⟩
  have vl := vc_le (B := B) (p := p) (k := k)
  have b74 : ∀ d, Ev (fun F => run L S F d 74 0 [some (vR (0, 0, 9))] μ1) (if 0 < k ∧ (2 < k ∨ vc B p k < 1 ∨ 48 < vc B p k) then 1 else 0, μ1) := fun d => c_bad n1 n2 (by omega) (by omega)
  have num := fun e => m_num (L := L) (S := S) (d := e) s1 s3 s4 s5 k1 k2 k3
  have t1 : TB sz B μ1 ν := s1.fr hN.fr FRm.rf
  have m4 : μ1 (0, 0, 9) 4 = 0 := (n5 4 (by decide) (by decide) (by decide) (by decide)).trans s8
  by_cases c : 0 < k ∧ (2 < k ∨ vc B p k < 1 ∨ 48 < vc B p k)
  · left
    have n8 := (n3 (by omega)).1
    have k15 : mset (mset (mset ν (2, 0, 0) 14 (nI (p + k))) (2, 0, 0) 15 2) (2, 0, 0) 16 (nI p) (2, 0, 0) 15 = 2 := by rw [mset_gk (by decide), mset_gg]
    refine ⟨mset (mset (mset ν (2, 0, 0) 14 (nI (p + k))) (2, 0, 0) 15 2) (2, 0, 0) 16 (nI p), fun e => Ev.step ?_, fo_mk (K := 2) (A := nI p) hN hcl (c_fault t1 m4 k1 k3 (by decide) (fun _ => Ev.step ?_) (fun _ => Ev.step ?_)) (by decide) k15 mset_gg (((FRm.rf.f (by decide)).f (by decide)).f (by decide))⟩
    · obtain ⟨x, x1, x2⟩ := num e
      rw [if_pos c] at x1
      simp only [e176_0]
      refine Ev.bind x1 ?_
      simp only [k15, show ¬ (2 : Int32) = 0 by decide, if_false]
      exact Ev.ret
    · have h74 := b74 (d + 2)
      rw [if_pos c] at h74
      simp only [e75_0]
      refine Ev.bind h74 ?_
      simp only [i1, if_false, n8]
      exact Ev.bind c_71 Ev.ret
    · have h74 := b74 (d + 2)
      rw [if_pos c] at h74
      simp only [e76_0]
      refine Ev.bind h74 ?_
      simp only [i1, if_false, n8]
      exact Ev.bind c_71 Ev.ret
  · right
    have tm : 1 ≤ max 1 (vc B p k) := Nat.le_max_left _ _
    have tm2 : max 1 (vc B p k) ≤ 48 := by
      by_cases k0 : k = 0
      · subst k0
        show max 1 0 ≤ 48
        decide
      · have : ¬ 48 < vc B p k := fun x => c ⟨by omega, Or.inr (Or.inr x)⟩
        omega
    have m10 : mmax 1 (μ1 (0, 0, 9) 9) = nI (max 1 (vc B p k)) := by
      rw [n2]
      unfold mmax
      by_cases x : 1 < vc B p k
      · rw [if_pos (show (1 : Int32) < nI (vc B p k) from nI_lt (a := 1) x (by omega)), Nat.max_eq_right (by omega)]
      · rw [if_neg (show ¬ (1 : Int32) < nI (vc B p k) from nI_nlt (a := 1) (by omega) (by decide)), Nat.max_eq_left (by omega)]
        rfl
    have fm : FRm ν (mset ν (2, 0, 0) 14 (nI (p + k))) := FRm.rf.f (by decide)
    refine ⟨p + k, max 1 (vc B p k), μ1, mset ν (2, 0, 0) 14 (nI (p + k)), ⟨s1.fr hN.fr fm, s2.fr (n5 3 (by decide) (by decide) (by decide) (by decide)) (n5 11 (by decide) (by decide) (by decide) (by decide)) (n6 _ (by decide)) (mset_gk (by decide)) (mset_ne (by decide)), by rw [mset_gk (by decide)]; exact s3, mset_gg, by rw [mset_gk (by decide)]; exact s5, by rw [mset_gk (by decide), n5 5 (by decide) (by decide) (by decide) (by decide)]; exact s6, by rw [mset_ne (by decide)]; exact s7, m4, (n5 6 (by decide) (by decide) (by decide) (by decide)).trans s9, m10, tm, tm2, by omega, k1, k3, fun d' => ?_, hcl, hN.fr, hN.ks, fm, fun e => ?_⟩, ?_⟩
    · have := b74 d'
      rw [if_neg c] at this
      exact this
    · obtain ⟨x, x1, x2⟩ := num e
      rw [if_neg c, x2 c] at x1
      exact x1
    · by_cases k0 : k = 0
      · subst k0
        rw [n4 rfl]
        exact h10
      · exact Or.inl (n3 (by omega)).2
theorem part_ok (hn : 1 ≤ n) (hn2 : n ≤ 16) (hop : op ≤ 3) (hL : op < 3 → LsS L S d sz n B (e + 1) (op + 1)) : PtS L S d sz n B (e + 2) op := by
  intro p r μ ν hp hS h10
  rcases c_num (L := L) (S := S) (d := d) hS hp h10 with ⟨ν2, a1, a2⟩ | ⟨q, t, μ1, ν1, hM, h10'⟩
  · exact ⟨ν2, a1 e, Or.inl a2⟩
  · by_cases c1 : q < sz ∧ 97 ≤ B q ∧ B q ≤ 112
    · by_cases c2 : B q - 97 < n
      · exact pt_row hM hn hn2 c1.1 c1.2 c2
      · exact pt_norow hM hn hn2 c1.1 c1.2 c2
    · by_cases c3 : q < sz ∧ B q = 40
      · by_cases c4 : op < 3
        · exact pt_group hM c4 c3.1 c3.2 (hL c4)
        · have e3 : op = 3 := by omega
          subst e3
          exact pt_deep hM c3.1 c3.2
      · exact pt_else hM c1 c3 h10'
theorem ls_go (hP : PtS L S d sz n B e op) : ∀ (m p r : Nat) (μ ν : Mm), sz - p ≤ m → p ≤ sz → SJ sz n B op p r μ ν → μ (0, 0, 9) 10 = 1 → ∃ ν2, Ev (fun F => run L S F (e + 1) 177 5 [some (vR (2, 0, 0)), some (vI (nI op))] ν) (0, ν2) ∧ (FOu L S d sz n p μ ν ν2 ∨ ∃ p2 r2 μ2, p ≤ p2 ∧ p2 ≤ sz ∧ SJ sz n B op p2 r2 μ2 ν2 ∧ r ≤ r2 ∧ μ2 (0, 0, 9) 10 = 1 ∧ CL L S d sz n p μ p2 μ2 ∧ KS op μ μ2 ∧ FRc μ μ2 ∧ FRm ν ν2 ∧ (p2 = sz ∨ (p2 < sz ∧ B p2 = 41))) := by
  intro m
  have base : ∀ (p r : Nat) (μ ν : Mm), p ≤ sz → SJ sz n B op p r μ ν → μ (0, 0, 9) 10 = 1 → (p = sz ∨ (p < sz ∧ B p = 41)) → ∃ ν2, Ev (fun F => run L S F (e + 1) 177 5 [some (vR (2, 0, 0)), some (vI (nI op))] ν) (0, ν2) ∧ (FOu L S d sz n p μ ν ν2 ∨ ∃ p2 r2 μ2, p ≤ p2 ∧ p2 ≤ sz ∧ SJ sz n B op p2 r2 μ2 ν2 ∧ r ≤ r2 ∧ μ2 (0, 0, 9) 10 = 1 ∧ CL L S d sz n p μ p2 μ2 ∧ KS op μ μ2 ∧ FRc μ μ2 ∧ FRm ν ν2 ∧ (p2 = sz ∨ (p2 < sz ∧ B p2 = 41))) := fun p r μ ν hp hS h10 hE => by
    refine ⟨ν, Ev.step ?_, Or.inr ⟨p, r, μ, Nat.le_refl _, hp, hS, Nat.le_refl _, h10, CL.rf, KS.rf, FRc.rf, FRm.rf, hE⟩⟩
    obtain ⟨s1, s2, s3, s4, s5, s6, s7, s8, s9, s10, s11⟩ := hS
    have hch := m_ch (L := L) (S := S) (d := e) s1 s3 s4 hp
    simp only [e177_5, s5, if_true]
    refine Ev.bind hch ?_
    rcases hE with rfl | ⟨hq, hb⟩
    · have e1 : ch p B p = -1 := by unfold ch; rw [if_neg (by omega)]
      simp only [if_pos e1]
      exact Ev.ret
    · have e1 : ¬ ch sz B p = -1 := by unfold ch; rw [if_pos hq]; exact nI_m1 (by omega)
      have e2 : ch sz B p = 41 := (ch_eq s1 (v := 41) (by decide)).mpr ⟨hq, hb⟩
      simp only [if_neg e1]
      refine Ev.bind hch ?_
      simp only [if_pos e2]
      exact Ev.ret
  induction m with
  | zero => intro p r μ ν hm hp hS h10; exact base p r μ ν hp hS h10 (Or.inl (by omega))
  | succ m ih =>
    intro p r μ ν hm hp hS h10
    by_cases hE : p = sz ∨ (p < sz ∧ B p = 41)
    · exact base p r μ ν hp hS h10 hE
    · have hq : p < sz := by omega
      have hb : B p ≠ 41 := fun x => hE (Or.inr ⟨hq, x⟩)
      obtain ⟨ν2, a1, a2⟩ := hP p r μ ν hp hS (Or.inr ⟨hq, hb⟩)
      obtain ⟨s1, s2, s3, s4, s5, s6, s7, s8, s9, s10, s11⟩ := hS
      have hbb := (s1.2 p hq).2.2
      have hch := m_ch (L := L) (S := S) (d := e) s1 s3 s4 hp
      have e1 : ¬ ch sz B p = -1 := by unfold ch; rw [if_pos hq]; exact nI_m1 (by omega)
      have e2 : ¬ ch sz B p = 41 := fun x => hb ((ch_eq s1 (v := 41) (by decide)).mp x).2
      have go : ∀ v, Ev (fun F => run L S F (e + 1) 177 5 [some (vR (2, 0, 0)), some (vI (nI op))] ν2) v → Ev (fun F => run L S F (e + 1) 177 5 [some (vR (2, 0, 0)), some (vI (nI op))] ν) v := fun v hv => by
        refine Ev.step ?_
        simp only [e177_5, s5, if_true]
        refine Ev.bind hch ?_
        simp only [if_neg e1]
        refine Ev.bind hch ?_
        simp only [if_neg e2]
        exact Ev.bind a1 hv
      rcases a2 with fo | ⟨p2, r2, μ2, w1, w2, w3, w4, w5, w6, w7, w8, w9⟩
      · refine ⟨ν2, go _ (Ev.step ?_), Or.inl fo⟩
        obtain ⟨-, -, -, -, n15, -⟩ := fo
        simp only [e177_5, if_neg n15]
        exact Ev.ret
      · obtain ⟨ν3, b1, b2⟩ := ih p2 r2 μ2 ν2 (by omega) w2 w3 w5
        refine ⟨ν3, go _ b1, ?_⟩
        rcases b2 with fo | ⟨p3, r3, μ3, x1, x2, x3, x4, x5, x6, x7, x8, x9, xE⟩
        · exact Or.inl (fo.cl w6 w8 w9)
        · exact Or.inr ⟨p3, r3, μ3, by omega, x2, x3, by omega, x5, w6.tr x6, w7.tr x7, w8.tr x8, w9.tr x9, xE⟩
theorem list_ok (hP : PtS L S d sz n B e op) : LsS L S d sz n B (e + 1) op := by
  intro p r μ ν hp hS h10
  obtain ⟨ν2, a1, a2⟩ := hP p r μ ν hp hS (Or.inl h10)
  have go : ∀ v, Ev (fun F => run L S F (e + 1) 177 5 [some (vR (2, 0, 0)), some (vI (nI op))] ν2) v → Ev (fun F => run L S F (e + 1) 177 0 [some (vR (2, 0, 0)), some (vI (nI op))] ν) v := fun v hv => by
    refine Ev.step ?_
    simp only [e177_0]
    exact Ev.bind a1 hv
  rcases a2 with fo | ⟨p2, r2, μ2, w1, w2, w3, w4, w5, w6, w7, w8, w9⟩
  · refine ⟨ν2, go _ (Ev.step ?_), Or.inl fo⟩
    obtain ⟨-, -, -, -, n15, -⟩ := fo
    simp only [e177_5, if_neg n15]
    exact Ev.ret
  · obtain ⟨ν3, b1, b2⟩ := ls_go hP (sz - p2) p2 r2 μ2 ν2 (Nat.le_refl _) w2 w3 w5
    refine ⟨ν3, go _ b1, ?_⟩
    rcases b2 with fo | ⟨p3, r3, μ3, x1, x2, x3, x4, x5, x6, x7, x8, x9, xE⟩
    · exact Or.inl (fo.cl w6 w8 w9)
    · exact Or.inr ⟨p3, ⟨r3, μ3, by omega, x2, x3, by omega, x5, w6.tr x6, w7.tr x7, w8.tr x8, w9.tr x9⟩, xE⟩
theorem lists_ok (hn : 1 ≤ n) (hn2 : n ≤ 16) : ∀ (k op : Nat), op + k = 3 → LsS L S d sz n B (2 * k + 3) op := by
  intro k
  induction k with
  | zero => intro op ho; exact list_ok (part_ok (e := 0) hn hn2 (by omega) (fun x => absurd x (by omega)))
  | succ k ih => intro op ho; exact list_ok (part_ok (e := 2 * k + 2) hn hn2 (by omega) (fun _ => ih (op + 1) (by omega)))
end PG2
