/-! orders, as calls -/
section OP
variable {L : Nat} {S : Ad → Nat → Int32} {d n q w m t s T T1 l c : Nat} {z : Int32} {i j j1 : Fin 15} {b b1 : Bool} {μ μ' μ1 μ1' μ2 : Mm} {f g : Nat → Int32} {a1 a2 a3 a4 a5 : Int32} {ν ν0 ν1 ν2 : Mm}
theorem Ba.sk (h : Ba n q t s μ ν) (hc : PG μ μ1) (hm : RSk ν ν1) : Ba n q t s μ1 ν1 := h.sv hc hm.v
theorem PG.w3 (h : PG μ μ1) {v : Nat → Int32} : PG μ (fun q k => if q = (0, 0, 3) ∧ k < m then v k else μ1 q k) := fun q a b c e => by
  funext k
  show (if q = (0, 0, 3) ∧ k < m then v k else μ1 q k) = μ q k
  rw [if_neg (fun x => e x.1)]
  exact congrFun (h q a b c e) k
/-- the class's worst order is the reference's worst code -/
def WO (n m : Nat) (μ ν : Mm) : Prop := 0 ≤ (ν (2, 0, 0) 21).toInt ∧ ∃ code, code < n ^ m ∧ ν (2, 0, 0) 22 = nI code ∧ ∀ k, k < m → μ (0, 0, 3) k = dgI n m code k
theorem great_go (ht : t + 600 < 2 ^ 27) (hn6 : n ≤ 6) (hm1 : 1 ≤ m) (hm : m ≤ 5) {many : Nat} (hmany : many = n ^ m) : ∀ (k c : Nat) (μ ν : Mm), c + k = many → Ba n q t s μ ν → (c = 0 ∧ ν (2, 0, 0) 21 = -1) ∨ WO n m μ ν →
    ∃ μ2 ν2, Ev (fun F => run L S F 27 61 11 [some (vR (0, 0, 1)), some (vI (nI m)), some (vI (ν (2, 0, 0) 21)), some (vI (nI many)), some (vI (nI c))] μ) (ν2 (2, 0, 0) 21, μ2) ∧ Ev (fun F => run L S F 27 208 36 [some (vR (2, 0, 0)), none, some (vI (nI many)), some (vI (nI c)), none, none] ν) (0, ν2) ∧ PG μ μ2 ∧ RSk ν ν2 ∧ ((many = c ∧ ν2 (2, 0, 0) 21 = ν (2, 0, 0) 21) ∨ WO n m μ2 ν2) := by
  intro k
  have hmany2 : many ≤ 7776 := by rw [hmany]; exact pow_le5 hn6 hm
  induction k with
  | zero =>
    intro c μ ν hc h hw
    have hc : c = many := by omega
    subst hc
    refine ⟨μ, ν, Ev.step ?_, Ev.step ?_, PG.rf, RSk.rf, Or.inl ⟨rfl, rfl⟩⟩
    · simp only [e61_11, if_neg (nI_nlt (Nat.le_refl c) (show c < 2 ^ 31 by omega))]
      exact Ev.ret
    · simp only [e208_36, if_neg (nI_nlt (Nat.le_refl c) (show c < 2 ^ 31 by omega))]
      exact Ev.ret
  | succ k ih =>
    intro c μ ν hc h hw
    obtain ⟨P, fl, μ2, ν3, a1, a2, a3, a4, a5, a6, a7, a8, a9, a10, a11, a12, a13⟩ := p_code (L := L) (S := S) h ht hn6 hm1 hm (show c < many by omega) hmany
    have h54 : Ev (fun F => run L S F 26 54 0 [some (vR (0, 0, 1))] μ2) (P, μ2) := Ev.step (by
      simp only [e54_0, a3]
      exact Ev.ret)
    by_cases lt : ν (2, 0, 0) 21 < P
    · rw [if_pos lt] at a7 a8
      have cp : mcpy μ2 (0, 0, 2) 0 (0, 0, 3) 0 m = fun q k => if q = (0, 0, 3) ∧ k < m then μ2 (0, 0, 2) k else μ2 q k := by
        funext q k
        unfold mcpy
        by_cases e : q = (0, 0, 3) ∧ k < m
        · rw [if_pos ⟨e.1, Nat.zero_le _, by omega⟩, if_pos e, Nat.zero_add, Nat.sub_zero]
        · rw [if_neg (fun x => e ⟨x.1, by omega⟩), if_neg e]
      have hpg : PG μ (mcpy μ2 (0, 0, 2) 0 (0, 0, 3) 0 m) := by
        rw [cp]
        exact a10.w3
      have hwo : WO n m (mcpy μ2 (0, 0, 2) 0 (0, 0, 3) 0 m) ν3 := by
        refine ⟨by rw [a7]; exact a11, c, by omega, a8, fun k hk => ?_⟩
        rw [cp]
        show (if (0, 0, 3) = ((0, 0, 3) : Ad) ∧ k < m then μ2 (0, 0, 2) k else μ2 (0, 0, 3) k) = _
        rw [if_pos ⟨rfl, hk⟩]
        exact a12 k hk
      obtain ⟨μ4, ν4, b1, b2, b3, b4, b5⟩ := ih (c + 1) _ ν3 (by omega) (h.sk hpg a6) (Or.inr hwo)
      refine ⟨μ4, ν4, Ev.step ?_, a5 _ b2, hpg.tr b3, a6.tr b4, ?_⟩
      · simp only [e61_11, if_pos (nI_lt (show c < many by omega) (show many < 2 ^ 31 by omega))]
        refine Ev.bind a1 (Ev.bind a2 (Ev.bind h54 ?_))
        simp only [if_pos lt]
        refine Ev.bind h54 ?_
        have ck : cpyok 0 0 (nI m) 99 5 = true := by
          unfold cpyok
          have z0 : (0 : Int32).toInt = 0 := rfl
          rw [nI_toInt (by omega), z0]
          simp
          omega
        simp only [ck, cond_true, tc0, nI_clamp (show m < 2 ^ 31 by omega), nI_1]
        rw [a7] at b1
        exact b1
      · rcases b5 with x | x
        · refine Or.inr ⟨by rw [x.2, a7]; exact a11, ?_⟩
          have hE := b2
          have e3 : ν4 = ν3 := by
            have h3 : Ev (fun F => run L S F 27 208 36 [some (vR (2, 0, 0)), none, some (vI (nI many)), some (vI (nI (c + 1))), none, none] ν3) (0, ν3) := Ev.step (by
              simp only [e208_36, if_neg (nI_nlt (show many ≤ c + 1 by omega) (show c + 1 < 2 ^ 31 by omega))]
              exact Ev.ret)
            exact congrArg Prod.snd (hE.uq h3)
          have e4 : μ4 = mcpy μ2 (0, 0, 2) 0 (0, 0, 3) 0 m := by
            have h3 : Ev (fun F => run L S F 27 61 11 [some (vR (0, 0, 1)), some (vI (nI m)), some (vI (ν3 (2, 0, 0) 21)), some (vI (nI many)), some (vI (nI (c + 1)))] (mcpy μ2 (0, 0, 2) 0 (0, 0, 3) 0 m)) (ν3 (2, 0, 0) 21, mcpy μ2 (0, 0, 2) 0 (0, 0, 3) 0 m) := Ev.step (by
              simp only [e61_11, if_neg (nI_nlt (show many ≤ c + 1 by omega) (show c + 1 < 2 ^ 31 by omega))]
              exact Ev.ret)
            exact congrArg Prod.snd (b1.uq h3)
          rw [e3, e4]
          exact hwo.2
        · exact Or.inr x
    · rw [if_neg lt] at a7 a8
      have hwo : WO n m μ2 ν3 := by
        rcases hw with ⟨_, hw⟩ | ⟨w1, code, w2, w3, w4⟩
        · exact absurd (Int32.lt_iff_toInt_lt.mpr (by
            rw [hw]
            have : (-1 : Int32).toInt = -1 := by decide
            omega)) lt
        · exact ⟨by rw [a7]; exact w1, code, w2, a8.trans w3, fun k hk => by rw [a13]; exact w4 k hk⟩
      obtain ⟨μ4, ν4, b1, b2, b3, b4, b5⟩ := ih (c + 1) _ ν3 (by omega) (h.sk a10 a6) (Or.inr hwo)
      refine ⟨μ4, ν4, Ev.step ?_, a5 _ b2, a10.tr b3, a6.tr b4, ?_⟩
      · simp only [e61_11, if_pos (nI_lt (show c < many by omega) (show many < 2 ^ 31 by omega))]
        refine Ev.bind a1 (Ev.bind a2 (Ev.bind h54 ?_))
        simp only [if_neg lt, nI_1]
        rw [a7] at b1
        exact b1
      · rcases b5 with x | x
        · refine Or.inr ⟨by rw [x.2]; exact hwo.1, ?_⟩
          have e3 : ν4 = ν3 := by
            have h3 : Ev (fun F => run L S F 27 208 36 [some (vR (2, 0, 0)), none, some (vI (nI many)), some (vI (nI (c + 1))), none, none] ν3) (0, ν3) := Ev.step (by
              simp only [e208_36, if_neg (nI_nlt (show many ≤ c + 1 by omega) (show c + 1 < 2 ^ 31 by omega))]
              exact Ev.ret)
            exact congrArg Prod.snd (b2.uq h3)
          have e4 : μ4 = μ2 := by
            have h3 : Ev (fun F => run L S F 27 61 11 [some (vR (0, 0, 1)), some (vI (nI m)), some (vI (ν3 (2, 0, 0) 21)), some (vI (nI many)), some (vI (nI (c + 1)))] μ2) (ν3 (2, 0, 0) 21, μ2) := Ev.step (by
              simp only [e61_11, if_neg (nI_nlt (show many ≤ c + 1 by omega) (show c + 1 < 2 ^ 31 by omega))]
              exact Ev.ret)
            exact congrArg Prod.snd (b1.uq h3)
          rw [e3, e4]
          exact hwo.2
        · exact Or.inr x
/-- ahead of the codes -/
theorem m_many_go (h0 : ν (2, 0, 1) 0 = nI n) (hm : m ≤ 5) {v : Rz} (hv : Ev (fun F => run L S F 27 208 36 [some (vR (2, 0, 0)), none, some (vI (nI (n ^ m))), some (vI (nI 0)), none, none] (mset (mset ν (2, 0, 0) 21 (-1)) (2, 0, 0) 23 0)) v) : ∀ (k c : Nat), c + k = m → Ev (fun F => run L S F 27 208 4 [some (vR (2, 0, 0)), some (vI (nI m)), some (vI (nI (n ^ c))), some (vI (nI c)), none, none] ν) v := by
  intro k
  induction k with
  | zero =>
    intro c hc
    have hc : c = m := by omega
    subst hc
    refine Ev.step ?_
    simp only [e208_4, if_neg (nI_nlt (Nat.le_refl c) (show c < 2 ^ 31 by omega))]
    exact hv
  | succ k ih =>
    intro c hc
    refine Ev.step ?_
    simp only [e208_4, if_pos (nI_lt (show c < m by omega) (show m < 2 ^ 31 by omega)), h0, nI_mul, nI_1]
    have := ih (c + 1) (by omega)
    rw [Nat.pow_succ] at this
    exact this
theorem Ba.n0 (h : Ba n q t s μ ν) : ν (2, 0, 1) 0 = nI n := by
  have := h.1.hn.2.1
  rw [mset_gk (by decide)] at this
  exact this
theorem rs_start : RSk ν (mset (mset ν (2, 0, 0) 21 (-1)) (2, 0, 0) 23 0) := ⟨fun i => by rw [mset_ne (by decide), mset_ne (by decide)], fun q x y z => by rw [mset_ne x, mset_ne x], fun k hk => by rw [mset_gk (by omega), mset_gk (by omega)]⟩
theorem p_great (h : Ba n q t s μ ν) (ht : t + 600 < 2 ^ 27) (hn6 : n ≤ 6) (hm1 : 1 ≤ m) (hm : m ≤ 5) : ∃ G μ2 ν2, Ev (fun F => run L S F 27 61 0 [some (vR (0, 0, 1)), some (vI (nI m)), none, none, none] μ) (G, μ2) ∧ Ev (fun F => run L S F 27 208 0 [some (vR (2, 0, 0)), some (vI (nI m)), none, none, none, none] ν) (0, ν2) ∧ ν2 (2, 0, 0) 21 = G ∧ PG μ μ2 ∧ RSk ν ν2 ∧ WO n m μ2 ν2 := by
  have hp : 0 < n ^ m := Nat.pow_pos (by have := h.1.hn; omega)
  have e21 : mset (mset ν (2, 0, 0) 21 (-1)) (2, 0, 0) 23 0 (2, 0, 0) 21 = -1 := by rw [mset_gk (by decide), mset_gg]
  obtain ⟨μ2, ν2, b1, b2, b3, b4, b5⟩ := great_go (L := L) (S := S) ht hn6 hm1 hm (many := n ^ m) rfl (n ^ m) 0 μ (mset (mset ν (2, 0, 0) 21 (-1)) (2, 0, 0) 23 0) (by omega) (h.sk PG.rf rs_start) (Or.inl ⟨rfl, e21⟩)
  rw [e21] at b1
  refine ⟨_, μ2, ν2, Ev.step ?_, Ev.step ?_, rfl, b3, rs_start.tr b4, ?_⟩
  · simp only [e61_0]
    exact Ev.bind (c_orders h.1.hn.1 hm) b1
  · simp only [e208_0]
    exact m_many_go h.n0 hm b2 m 0 (by omega)
  · rcases b5 with x | x
    · omega
    · exact x
/-- the reference goes on, whatever the class does -/
theorem rest_go (ht : t + 600 < 2 ^ 27) (hn6 : n ≤ 6) (hm1 : 1 ≤ m) (hm : m ≤ 5) {many : Nat} (hmany : many = n ^ m) : ∀ (k c : Nat) (μ ν : Mm), c + k = many → Ba n q t s μ ν → ν (2, 0, 0) 23 = 1 →
    ∃ ν2, Ev (fun F => run L S F 27 208 36 [some (vR (2, 0, 0)), none, some (vI (nI many)), some (vI (nI c)), none, none] ν) (0, ν2) ∧ RSk ν ν2 ∧ ν2 (2, 0, 0) 23 = 1 := by
  intro k
  have hmany2 : many ≤ 7776 := by rw [hmany]; exact pow_le5 hn6 hm
  induction k with
  | zero =>
    intro c μ ν hc h h23
    have hc : c = many := by omega
    subst hc
    refine ⟨ν, Ev.step ?_, RSk.rf, h23⟩
    simp only [e208_36, if_neg (nI_nlt (Nat.le_refl c) (show c < 2 ^ 31 by omega))]
    exact Ev.ret
  | succ k ih =>
    intro c μ ν hc h h23
    obtain ⟨P, fl, μ2, ν3, a1, a2, a3, a4, a5, a6, a7, a8, a9, a10, a11, a12, a13⟩ := p_code (L := L) (S := S) h ht hn6 hm1 hm (show c < many by omega) hmany
    obtain ⟨ν2, b1, b2, b3⟩ := ih (c + 1) μ2 ν3 (by omega) (h.sk a10 a6) (by rw [a9, h23]; split <;> rfl)
    exact ⟨ν2, a5 _ b1, a6.tr b2, b3⟩
theorem some_go (ht : t + 600 < 2 ^ 27) (hn6 : n ≤ 6) (hm1 : 1 ≤ m) (hm : m ≤ 5) {many : Nat} (hmany : many = n ^ m) : ∀ (k c : Nat) (μ ν : Mm), c + k = many → Ba n q t s μ ν → ν (2, 0, 0) 23 = 0 →
    ∃ (x : Int32) (μ2 ν2 : Mm), (x = 0 ∨ x = 1) ∧ Ev (fun F => run L S F 27 62 8 [some (vR (0, 0, 1)), some (vI (nI m)), some (vI (nI many)), some (vI (nI c))] μ) (x, μ2) ∧ Ev (fun F => run L S F 27 208 36 [some (vR (2, 0, 0)), none, some (vI (nI many)), some (vI (nI c)), none, none] ν) (0, ν2) ∧ ν2 (2, 0, 0) 23 = x ∧ PG μ μ2 ∧ RSk ν ν2 := by
  intro k
  have hmany2 : many ≤ 7776 := by rw [hmany]; exact pow_le5 hn6 hm
  induction k with
  | zero =>
    intro c μ ν hc h h23
    have hc : c = many := by omega
    subst hc
    refine ⟨0, μ, ν, Or.inl rfl, Ev.step ?_, Ev.step ?_, h23, PG.rf, RSk.rf⟩
    · simp only [e62_8, if_neg (nI_nlt (Nat.le_refl c) (show c < 2 ^ 31 by omega)), narB0]
      exact Ev.ret
    · simp only [e208_36, if_neg (nI_nlt (Nat.le_refl c) (show c < 2 ^ 31 by omega))]
      exact Ev.ret
  | succ k ih =>
    intro c μ ν hc h h23
    obtain ⟨P, fl, μ2, ν3, a1, a2, a3, a4, a5, a6, a7, a8, a9, a10, a11, a12, a13⟩ := p_code (L := L) (S := S) h ht hn6 hm1 hm (show c < many by omega) hmany
    have h55 : Ev (fun F => run L S F 26 55 0 [some (vR (0, 0, 1))] μ2) (μ2 (1, 2, 24) 3 - μ2 (1, 1, 24) 3, μ2) := Ev.step (by
      simp only [e55_0]
      exact Ev.ret)
    cases fl with
    | true =>
      obtain ⟨ν2, b1, b2, b3⟩ := rest_go (L := L) (S := S) ht hn6 hm1 hm hmany k (c + 1) μ2 ν3 (by omega) (h.sk a10 a6) (by rw [a9, if_pos rfl])
      refine ⟨1, μ2, ν2, Or.inr rfl, Ev.step ?_, a5 _ b1, b3, a10, a6.tr b2⟩
      simp only [e62_8, if_pos (nI_lt (show c < many by omega) (show many < 2 ^ 31 by omega))]
      refine Ev.bind a1 (Ev.bind a2 (Ev.bind h55 ?_))
      simp only [if_pos (a4.mpr rfl), narB1]
      exact Ev.ret
    | false =>
      obtain ⟨x, μ4, ν4, b0, b1, b2, b3, b4, b5⟩ := ih (c + 1) μ2 ν3 (by omega) (h.sk a10 a6) (by rw [a9, if_neg (by decide)]; exact h23)
      refine ⟨x, μ4, ν4, b0, Ev.step ?_, a5 _ b2, b3, a10.tr b4, a6.tr b5⟩
      simp only [e62_8, if_pos (nI_lt (show c < many by omega) (show many < 2 ^ 31 by omega))]
      refine Ev.bind a1 (Ev.bind a2 (Ev.bind h55 ?_))
      simp only [if_neg (fun x => absurd (a4.mp x) (by decide)), nI_1]
      exact b1
theorem p_some (h : Ba n q t s μ ν) (ht : t + 600 < 2 ^ 27) (hn6 : n ≤ 6) (hm1 : 1 ≤ m) (hm : m ≤ 5) : ∃ (x : Int32) (μ2 ν2 : Mm), (x = 0 ∨ x = 1) ∧ Ev (fun F => run L S F 27 62 0 [some (vR (0, 0, 1)), some (vI (nI m)), none, none] μ) (x, μ2) ∧ Ev (fun F => run L S F 27 208 0 [some (vR (2, 0, 0)), some (vI (nI m)), none, none, none, none] ν) (0, ν2) ∧ ν2 (2, 0, 0) 23 = x ∧ PG μ μ2 ∧ RSk ν ν2 := by
  obtain ⟨x, μ2, ν2, b0, b1, b2, b3, b4, b5⟩ := some_go (L := L) (S := S) ht hn6 hm1 hm (many := n ^ m) rfl (n ^ m) 0 μ (mset (mset ν (2, 0, 0) 21 (-1)) (2, 0, 0) 23 0) (by omega) (h.sk PG.rf rs_start) mset_gg
  refine ⟨x, μ2, ν2, b0, Ev.step ?_, Ev.step ?_, b3, b4, rs_start.tr b5⟩
  · simp only [e62_0]
    exact Ev.bind (c_orders h.1.hn.1 hm) b1
  · simp only [e208_0]
    exact m_many_go h.n0 hm b2 m 0 (by omega)
theorem nK (K : Nat) (hK : K < 100) (x : Int32) : (¬ ((1 : Int32).toInt ≤ x.toInt ∧ x.toInt ≤ (nI K).toInt)) ∨ ∃ M, 1 ≤ M ∧ M ≤ K ∧ x = nI M ∧ ((1 : Int32).toInt ≤ x.toInt ∧ x.toInt ≤ (nI K).toInt) := by
  by_cases c : (1 : Int32).toInt ≤ x.toInt ∧ x.toInt ≤ (nI K).toInt
  · have x1 : (1 : Int32).toInt = 1 := rfl
    have x2 : (nI K).toInt = K := nI_toInt (by omega)
    exact Or.inr ⟨x.toInt.toNat, by omega, by omega, nI_toNat (by omega), c⟩
  · exact Or.inl c
theorem six {n : Nat} (hn : n ≤ 16) : (6 : Int32) < nI n ↔ 6 < n := nI_ltI (a := 6) (by decide) (by omega)
theorem P_worst (h : Inv T μ μ') (hT : T + 600 < 2 ^ 27) : PubR L S T 111 209 [some (vR (0, 0, 0)), some (vI a1)] [some (vR (2, 0, 0)), some (vI a1)] μ μ' := by
  have hth := h.th
  obtain ⟨ν, n, q, w, t, s, e1, hB, hw, ht, hl0⟩ := q_open h
  have e2 : th0 μ' = ν := e1
  rw [e2] at hth
  have hR := hB.1
  have hN := hR.hn
  rcases nK 5 (by decide) a1 with c | ⟨M, hM1, hM, rfl, c⟩
  · have c : ¬ ((1 : Int32).toInt ≤ a1.toInt ∧ a1.toInt ≤ (5 : Int32).toInt) := c
    refine pub_n h e1 (-3) (Ev.step ?_) (Ev.step ?_)
    · rcases wi_f c with c1 | ⟨c1, c2⟩
      · simp only [e111_0, if_pos c1]
        exact Ev.ret
      · simp only [e111_0, if_neg c1, if_pos c2]
        exact Ev.ret
    · simp only [e209_0, e1]
      refine Ev.bind ev_within ?_
      simp only [if_neg c, if_true]
      exact Ev.ret
  · have c : (1 : Int32).toInt ≤ (nI M).toInt ∧ (nI M).toInt ≤ (5 : Int32).toInt := c
    obtain ⟨c1, c2⟩ := wi_t c
    by_cases c6 : 6 < n
    · have c6' := (six hN.2.2.2).mpr c6
      refine pub_n h e1 (-5) (Ev.step ?_) (Ev.step ?_)
      · simp only [e111_0, if_neg c1, if_neg c2, hN.1, if_pos c6']
        exact Ev.ret
      · simp only [e209_0, e1]
        refine Ev.bind ev_within ?_
        simp only [if_pos c, i1, if_false, hN.2.1, if_pos c6']
        exact Ev.ret
    · have c6' : ¬ (6 : Int32) < nI n := fun x => c6 ((six hN.2.2.2).mp x)
      obtain ⟨μ1, p1, p2, p3⟩ := p_take (L := L) (S := S) (d := 27) hB (by omega)
      obtain ⟨G, μ2, ν2, d1, d2, d3, d4, d5, d6⟩ := p_great (L := L) (S := S) (m := M) p2 (by omega) (by omega) hM1 hM
      refine pub_p hth e1 (p3.w1.tr d4.w) d5.v (Ev.step ?_) (Ev.step ?_) (x := G)
      · simp only [e111_0, if_neg c1, if_neg c2, hN.1, if_neg c6']
        exact Ev.bind p1 (Ev.bind (d1.dp (by omega)) Ev.ret)
      · simp only [e209_0, e1]
        refine Ev.bind ev_within ?_
        simp only [if_pos c, i1, if_false, hN.2.1, if_neg c6']
        refine Ev.bind (d2.dp (by omega)) ?_
        simp only [d3]
        exact Ev.ret
theorem P_order (h : Inv T μ μ') (hT : T + 600 < 2 ^ 27) : PubR L S T 112 210 [some (vR (0, 0, 0)), some (vI a1), some (vI a2)] [some (vR (2, 0, 0)), some (vI a1), some (vI a2), none, none] μ μ' := by
  have hth := h.th
  obtain ⟨ν, n, q, w, t, s, e1, hB, hw, ht, hl0⟩ := q_open h
  have e2 : th0 μ' = ν := e1
  rw [e2] at hth
  have hR := hB.1
  have hN := hR.hn
  rcases nK 5 (by decide) a1 with c | ⟨M, hM1, hM, rfl, c⟩
  · have c : ¬ ((1 : Int32).toInt ≤ a1.toInt ∧ a1.toInt ≤ (5 : Int32).toInt) := c
    refine pub_n h e1 (-3) (Ev.step ?_) (Ev.step ?_)
    · rcases wi_f c with c1 | ⟨c1, c2⟩
      · simp only [e112_0, if_pos c1]
        exact Ev.ret
      · simp only [e112_0, if_neg c1, if_pos c2]
        exact Ev.ret
    · simp only [e210_0, e1]
      refine Ev.bind ev_within ?_
      simp only [if_neg c, if_true]
      exact Ev.ret
  · have c : (1 : Int32).toInt ≤ (nI M).toInt ∧ (nI M).toInt ≤ (5 : Int32).toInt := c
    obtain ⟨c1, c2⟩ := wi_t c
    rcases nn_cases a2 with y | ⟨k, hk, rfl⟩
    · refine pub_n h e1 (-3) (Ev.step ?_) (Ev.step ?_)
      · simp only [e112_0, if_neg c1, if_neg c2, if_pos y]
        exact Ev.ret
      · simp only [e210_0, e1]
        refine Ev.bind ev_within ?_
        simp only [if_pos c, i1, if_false, if_pos y]
        exact Ev.ret
    · have y : ¬ nI k < 0 := nI_pos hk
      by_cases c6 : 6 < n
      · have c6' := (six hN.2.2.2).mpr c6
        refine pub_n h e1 (-5) (Ev.step ?_) (Ev.step ?_)
        · simp only [e112_0, if_neg c1, if_neg c2, if_neg y, hN.1, if_pos c6']
          exact Ev.ret
        · simp only [e210_0, e1]
          refine Ev.bind ev_within ?_
          simp only [if_pos c, i1, if_false, if_neg y, hN.2.1, if_pos c6']
          exact Ev.ret
      · have c6' : ¬ (6 : Int32) < nI n := fun x => c6 ((six hN.2.2.2).mp x)
        by_cases km : k < M
        · have km' : nI k < nI M := nI_lt km (by omega)
          obtain ⟨μ1, p1, p2, p3⟩ := p_take (L := L) (S := S) (d := 27) hB (by omega)
          obtain ⟨G, μ2, ν2, d1, d2, d3, d4, d5, -, code, w1, w2, w3⟩ := p_great (L := L) (S := S) (m := M) p2 (by omega) (by omega) hM1 hM
          have hp : n ^ M ≤ 7776 := pow_le5 (by omega) hM
          have h0 : ν2 (2, 0, 1) 0 = nI n := (d5.1 0).trans hN.2.1
          have lo : ∀ (c : Nat), k + c < M → Ev (fun F => run L S F 30 210 60 [some (vR (2, 0, 0)), none, some (vI (nI k)), some (vI (nI (code / n ^ (M - 1 - (k + c))))), some (vI (nI (k + c)))] ν2) (nI (dg n M code k), ν2) := by
            intro c
            induction c with
            | zero =>
              intro hc
              have hle : code / n ^ (M - 1 - k) ≤ code := Nat.div_le_self _ _
              have r1 : nI (code / n ^ (M - 1 - k)) - nI (code / n ^ (M - 1 - k)) / nI n * nI n = nI (code / n ^ (M - 1 - k) % n) := pk_rem (by omega) (by omega) (by omega)
              refine Ev.step ?_
              simp only [Nat.add_zero, e210_60, if_neg (nI_nlt (Nat.le_refl k) hk), h0, if_neg (nI_ne0 (show 0 < n by omega) (show n < 2 ^ 31 by omega)), r1]
              exact Ev.ret
            | succ c ih =>
              intro hc
              have hle : code / n ^ (M - 1 - (k + (c + 1))) ≤ code := Nat.div_le_self _ _
              have r2 : nI (code / n ^ (M - 1 - (k + (c + 1)))) / nI n = nI (code / n ^ (M - 1 - (k + c))) := by
                rw [pk_div (by omega) (by omega) (by omega), Nat.div_div_eq_div_mul, show M - 1 - (k + c) = (M - 1 - (k + (c + 1))) + 1 by omega, Nat.pow_succ]
              have r3 : nI (k + (c + 1)) + (-1) = nI (k + c) := by
                rw [← Int32.sub_eq_add_neg]
                exact nI_pred (k + c)
              refine Ev.step ?_
              simp only [e210_60, if_pos (nI_lt (show k < k + (c + 1) by omega) (show k + (c + 1) < 2 ^ 31 by omega)), h0, if_neg (nI_ne0 (show 0 < n by omega) (show n < 2 ^ 31 by omega)), r2, r3]
              exact ih (by omega)
          have lo := lo (M - 1 - k) (by omega)
          rw [show k + (M - 1 - k) = M - 1 by omega, Nat.sub_self, Nat.pow_zero, Nat.div_one] at lo
          have m1 : nI M - 1 = nI (M - 1) := by
            obtain ⟨x, rfl⟩ : ∃ x, M = x + 1 := ⟨M - 1, by omega⟩
            rw [nI_pred, Nat.add_sub_cancel]
          refine pub_p hth e1 (p3.w1.tr d4.w) d5.v (Ev.step ?_) (Ev.step ?_) (x := nI (dg n M code k))
          · simp only [e112_0, if_neg c1, if_neg c2, if_neg y, hN.1, if_neg c6', if_pos km']
            refine Ev.bind p1 (Ev.bind (d1.dp (by omega)) ?_)
            simp only [inb_n (show k < 5 by omega) (by decide), cond_true, nI_clamp hk, w3 k km]
            exact Ev.ret
          · simp only [e210_0, e1]
            refine Ev.bind ev_within ?_
            simp only [if_pos c, i1, if_false, if_neg y, hN.2.1, if_neg c6', if_pos km']
            refine Ev.bind (d2.dp (by omega)) ?_
            simp only [w2, m1]
            exact lo
        · have km' : ¬ nI k < nI M := nI_nlt (by omega) hk
          refine pub_n h e1 (-1) (Ev.step ?_) (Ev.step ?_)
          · simp only [e112_0, if_neg c1, if_neg c2, if_neg y, hN.1, if_neg c6', if_neg km']
            exact Ev.ret
          · simp only [e210_0, e1]
            refine Ev.bind ev_within ?_
            simp only [if_pos c, i1, if_false, if_neg y, hN.2.1, if_neg c6', if_neg km']
            exact Ev.ret
theorem fewest_go (ht : t + 600 < 2 ^ 27) (hn6 : n ≤ 6) : ∀ (m k : Nat) (μ ν : Mm), k + m = 6 → 1 ≤ k → Ba n q t s μ ν → ∃ x μ2 ν2, Ev (fun F => run L S F 30 113 31 [some (vR (0, 0, 0)), some (vI (nI k))] μ) (x, μ2) ∧ Ev (fun F => run L S F 30 211 21 [some (vR (2, 0, 0)), some (vI (nI k))] ν) (x, ν2) ∧ PG μ μ2 ∧ RSk ν ν2 := by
  intro m
  induction m with
  | zero =>
    intro k μ ν hk hk1 h
    have hk : k = 6 := by omega
    subst hk
    refine ⟨-1, μ, ν, Ev.step ?_, Ev.step ?_, PG.rf, RSk.rf⟩
    · simp only [e113_31, show (5 : Int32) < nI 6 by decide, if_true]
      exact Ev.ret
    · simp only [e211_21, show (5 : Int32) < nI 6 by decide, if_true]
      exact Ev.ret
  | succ m ih =>
    intro k μ ν hk hk1 h
    have n5 : ¬ (5 : Int32) < nI k := nI_nlt (a := 5) (by omega) (by decide)
    obtain ⟨x, μ2, ν2, x0, p1, p2, p3, p4, p5⟩ := p_some (L := L) (S := S) (m := k) h ht hn6 hk1 (by omega)
    have p1 : Ev (fun F => run L S F 29 62 0 [some (vR (0, 0, 1)), some (vI (nI k)), none, none] μ) (x, μ2) := p1.dp (by omega)
    have p2 : Ev (fun F => run L S F 29 208 0 [some (vR (2, 0, 0)), some (vI (nI k)), none, none, none, none] ν) (0, ν2) := p2.dp (by omega)
    rcases x0 with rfl | rfl
    · obtain ⟨y, μ4, ν4, d1, d2, d3, d4⟩ := ih (k + 1) μ2 ν2 (by omega) (by omega) (h.sk p4 p5)
      refine ⟨y, μ4, ν4, Ev.step ?_, Ev.step ?_, p4.tr d3, p5.tr d4⟩
      · simp only [e113_31, if_neg n5]
        refine Ev.bind p1 ?_
        simp only [if_true, nI_1]
        exact d1
      · simp only [e211_21, if_neg n5]
        refine Ev.bind p2 ?_
        simp only [p3, show ¬ (0 : Int32) < 0 by decide, if_false, nI_1]
        exact d2
    · refine ⟨nI k, μ2, ν2, Ev.step ?_, Ev.step ?_, p4, p5⟩
      · simp only [e113_31, if_neg n5]
        refine Ev.bind p1 ?_
        simp only [i1, if_false]
        exact Ev.ret
      · simp only [e211_21, if_neg n5]
        refine Ev.bind p2 ?_
        simp only [p3, show (0 : Int32) < 1 by decide, if_true]
        exact Ev.ret
theorem P_fewest (h : Inv T μ μ') (hT : T + 600 < 2 ^ 27) : PubR L S T 113 211 [some (vR (0, 0, 0)), none] [some (vR (2, 0, 0)), none] μ μ' := by
  have hth := h.th
  obtain ⟨ν, n, q, w, t, s, e1, hB, hw, ht, hl0⟩ := q_open h
  have e2 : th0 μ' = ν := e1
  rw [e2] at hth
  have hN := hB.1.hn
  by_cases c6 : 6 < n
  · have c6' := (six hN.2.2.2).mpr c6
    refine pub_n h e1 (-5) (Ev.step ?_) (Ev.step ?_)
    · simp only [e113_0, hN.1, if_pos c6']
      exact Ev.ret
    · simp only [e211_0, e1, hN.2.1, if_pos c6']
      exact Ev.ret
  · have c6' : ¬ (6 : Int32) < nI n := fun x => c6 ((six hN.2.2.2).mp x)
    obtain ⟨μ1, p1, p2, p3⟩ := p_take (L := L) (S := S) (d := 27) hB (by omega)
    obtain ⟨x, μ2, ν2, d1, d2, d3, d4⟩ := fewest_go (L := L) (S := S) (by omega) (by omega) 5 1 μ1 ν (by omega) (by omega) p2
    refine pub_p hth e1 (p3.w1.tr d3.w) d4.v (Ev.step ?_) (Ev.step ?_) (x := x)
    · simp only [e113_0, hN.1, if_neg c6']
      exact Ev.bind p1 d1
    · simp only [e211_0, e1, hN.2.1, if_neg c6']
      exact d2
theorem sure_go (ht : t + 600 < 2 ^ 27) (hn6 : n ≤ 6) {M : Nat} (hM1 : 1 ≤ M) (hM : M ≤ 5) : ∀ (m k s : Nat) (μ ν0 ν : Mm), k + m = 9 → 1 ≤ k → Ba n q t s μ ν0 → AG 3 ν0 ν → ∃ x μ2 ν2, Ev (fun F => run L S F 30 114 44 [some (vR (0, 0, 0)), some (vI (nI M)), some (vI (nI k))] μ) (x, μ2) ∧ Ev (fun F => run L S F 30 218 36 [some (vR (2, 0, 0)), some (vI (nI M)), some (vI (nI k))] ν) (x, ν2) ∧ PW μ μ2 ∧ RSv ν ν2 := by
  intro m
  induction m with
  | zero =>
    intro k s μ ν0 ν hk hk1 h hag
    have hk : k = 9 := by omega
    subst hk
    refine ⟨-1, μ, ν, Ev.step ?_, Ev.step ?_, PW.rf, RSv.rf⟩
    · simp only [e114_44, show (8 : Int32) < nI 9 by decide, if_true]
      exact Ev.ret
    · simp only [e218_36, show (8 : Int32) < nI 9 by decide, if_true]
      exact Ev.ret
  | succ m ih =>
    intro k s μ ν0 ν hk hk1 h hag
    have e1 : (nI k).toInt = (k : Nat) := nI_toInt (by omega)
    have b1 : tLo 3 ≤ (nI k).toInt := by rw [e1]; show (1 : Int) ≤ _; omega
    have b2 : (nI k).toInt ≤ tHi 3 := by rw [e1]; show _ ≤ (8 : Int); omega
    obtain ⟨μ1, o1, o2, o3⟩ := p_other (L := L) (S := S) (d := 27) h hag (show 3 < 17 by decide) b1 b2
    obtain ⟨x, μ2, ν2, x0, p1, p2, p3, p4, p5⟩ := p_some (L := L) (S := S) (m := M) o2 ht hn6 hM1 hM
    have p1 : Ev (fun F => run L S F 29 62 0 [some (vR (0, 0, 1)), some (vI (nI M)), none, none] μ1) (x, μ2) := p1.dp (by omega)
    have p2 : Ev (fun F => run L S F 29 208 0 [some (vR (2, 0, 0)), some (vI (nI M)), none, none, none, none] (OT 3 (nI k) ν)) (0, ν2) := p2.dp (by omega)
    have p6 : RSv ν (cpr ν2 (2, 0, 10) 0 (2, 0, 1) 0 0) := unother_v (by decide) p5
    have p7 : AG 3 ν2 (cpr ν2 (2, 0, 10) 0 (2, 0, 1) 0 0) := fun i a b c e f g z => ((p5.1 i).trans (AG.ot i a b c e f g z)).trans (p6.1 i).symm
    have f23 : cpr ν2 (2, 0, 10) 0 (2, 0, 1) 0 0 (2, 0, 0) 23 = x := by rw [cpr_ne (by decide), p3]
    have n8 : ¬ (8 : Int32) < nI k := nI_nlt (a := 8) (by omega) (by decide)
    rcases x0 with rfl | rfl
    · refine ⟨nI k, μ2, _, Ev.step ?_, Ev.step ?_, o3.w1.tr p4.w, p6⟩
      · simp only [e114_44, if_neg n8]
        refine Ev.bind o1 (Ev.bind p1 ?_)
        simp only [if_true]
        exact Ev.ret
      · simp only [e218_36, if_neg n8]
        refine Ev.bind (m_other (k := 3) (by decide) rfl) (Ev.bind p2 (Ev.bind m_unother ?_))
        simp only [f23, if_true]
        exact Ev.ret
    · obtain ⟨y, μ4, ν4, d1, d2, d3, d4⟩ := ih (k + 1) 0 μ2 ν2 _ (by omega) (by omega) (o2.sk p4 p5) p7
      refine ⟨y, μ4, ν4, Ev.step ?_, Ev.step ?_, (o3.w1.tr p4.w).tr d3, p6.tr d4⟩
      · simp only [e114_44, if_neg n8]
        refine Ev.bind o1 (Ev.bind p1 ?_)
        simp only [i1, if_false, nI_1]
        exact d1
      · simp only [e218_36, if_neg n8]
        refine Ev.bind (m_other (k := 3) (by decide) rfl) (Ev.bind p2 (Ev.bind m_unother ?_))
        simp only [f23, i1, if_false, nI_1]
        exact d2
theorem P_sure (h : Inv T μ μ') (hT : T + 600 < 2 ^ 27) : PubR L S T 114 218 [some (vR (0, 0, 0)), some (vI a1), none] [some (vR (2, 0, 0)), some (vI a1), none] μ μ' := by
  have hth := h.th
  obtain ⟨ν, n, q, w, t, s, e1, hB, hw, ht, hl0⟩ := q_open h
  have e2 : th0 μ' = ν := e1
  rw [e2] at hth
  have hN := hB.1.hn
  have x1 : (1 : Int32).toInt = 1 := rfl
  have x4 : (4 : Int32).toInt = 4 := rfl
  have x5 : (5 : Int32).toInt = 5 := rfl
  rcases nK 4 (by decide) a1 with c | ⟨M, hM1, hM, rfl, c⟩
  · have c : ¬ ((1 : Int32).toInt ≤ a1.toInt ∧ a1.toInt ≤ (4 : Int32).toInt) := c
    refine pub_n h e1 (-3) (Ev.step ?_) (Ev.step ?_)
    · by_cases y1 : a1 < 1
      · simp only [e114_0, if_pos y1]
        exact Ev.ret
      · have y2 : ¬ a1 < 5 := fun y => c (by
          have z1 := Int32.le_iff_toInt_le.mp (Int32.not_lt.mp y1)
          have z2 := Int32.lt_iff_toInt_lt.mp y
          omega)
        simp only [e114_0, if_neg y1, if_neg y2]
        exact Ev.ret
    · simp only [e218_0, e1]
      refine Ev.bind ev_within ?_
      simp only [if_neg c, if_true]
      exact Ev.ret
  · have c : (1 : Int32).toInt ≤ (nI M).toInt ∧ (nI M).toInt ≤ (4 : Int32).toInt := c
    have c1 : ¬ nI M < (1 : Int32) := nI_nlt (b := 1) hM1 (by omega)
    have c2 : nI M < (5 : Int32) := nI_lt (b := 5) (by omega) (by decide)
    by_cases c6 : 6 < n
    · have c6' := (six hN.2.2.2).mpr c6
      refine pub_n h e1 (-5) (Ev.step ?_) (Ev.step ?_)
      · simp only [e114_0, if_neg c1, if_pos c2, hN.1, if_pos c6']
        exact Ev.ret
      · simp only [e218_0, e1]
        refine Ev.bind ev_within ?_
        simp only [if_pos c, i1, if_false, hN.2.1, if_pos c6']
        exact Ev.ret
    · have c6' : ¬ (6 : Int32) < nI n := fun x => c6 ((six hN.2.2.2).mp x)
      obtain ⟨μ1, p1, p2, p3⟩ := p_take (L := L) (S := S) (d := 27) hB (by omega)
      obtain ⟨x, μ2, ν2, d1, d2, d3, d4⟩ := sure_go (L := L) (S := S) (by omega) (by omega) hM1 (show M ≤ 5 by omega) 8 1 s μ1 ν ν (by omega) (by omega) p2 AG.rf
      refine pub_p hth e1 (p3.w1.tr d3) d4 (Ev.step ?_) (Ev.step ?_) (x := x)
      · simp only [e114_0, if_neg c1, if_pos c2, hN.1, if_neg c6']
        exact Ev.bind p1 d1
      · simp only [e218_0, e1]
        refine Ev.bind ev_within ?_
        simp only [if_pos c, i1, if_false, hN.2.1, if_neg c6']
        exact d2
theorem P_by (h : Inv T μ μ') (hT : T + 600 < 2 ^ 27) : PubR L S T 117 214 [some (vR (0, 0, 0)), some (vI a1), some (vI a2)] [some (vR (2, 0, 0)), some (vI a1), some (vI a2)] μ μ' := by
  have hth := h.th
  obtain ⟨ν, n, q, w, t, s, e1, hB, hw, ht, hl0⟩ := q_open h
  have e2 : th0 μ' = ν := e1
  rw [e2] at hth
  have hN := hB.1.hn
  have x0 : (0 : Int32).toInt = 0 := rfl
  have x5 : (5 : Int32).toInt = 5 := rfl
  have x6 : (6 : Int32).toInt = 6 := rfl
  by_cases cg : (0 : Int32).toInt ≤ a1.toInt ∧ a1.toInt ≤ (5 : Int32).toInt
  · have g1 : ¬ a1 < 0 := fun y => by have := lt0.mp y; omega
    have g2 : a1 < 6 := Int32.lt_iff_toInt_lt.mpr (by omega)
    rcases nK 5 (by decide) a2 with c | ⟨M, hM1, hM, rfl, c⟩
    · have c : ¬ ((1 : Int32).toInt ≤ a2.toInt ∧ a2.toInt ≤ (5 : Int32).toInt) := c
      refine pub_n h e1 (-3) (Ev.step ?_) (Ev.step ?_)
      · rcases wi_f c with c1 | ⟨c1, c2⟩
        · simp only [e117_0, if_neg g1, if_pos g2, if_pos c1]
          exact Ev.ret
        · simp only [e117_0, if_neg g1, if_pos g2, if_neg c1, if_pos c2]
          exact Ev.ret
      · simp only [e214_0, e1]
        refine Ev.bind ev_within ?_
        simp only [if_pos cg, i1, if_false]
        refine Ev.bind ev_within ?_
        simp only [if_neg c, if_true]
        exact Ev.ret
    · have c : (1 : Int32).toInt ≤ (nI M).toInt ∧ (nI M).toInt ≤ (5 : Int32).toInt := c
      obtain ⟨c1, c2⟩ := wi_t c
      by_cases c6 : 6 < n
      · have c6' := (six hN.2.2.2).mpr c6
        refine pub_n h e1 (-5) (Ev.step ?_) (Ev.step ?_)
        · simp only [e117_0, if_neg g1, if_pos g2, if_neg c1, if_neg c2, hN.1, if_pos c6']
          exact Ev.ret
        · simp only [e214_0, e1]
          refine Ev.bind ev_within ?_
          simp only [if_pos cg, i1, if_false]
          refine Ev.bind ev_within ?_
          simp only [if_pos c, i1, if_false, hN.2.1, if_pos c6']
          exact Ev.ret
      · have c6' : ¬ (6 : Int32) < nI n := fun x => c6 ((six hN.2.2.2).mp x)
        obtain ⟨μ1, p1, p2, p3⟩ := p_take (L := L) (S := S) (d := 27) hB (by omega)
        have b1 : tLo 2 ≤ a1.toInt := by show (0 : Int) ≤ _; omega
        have b2 : a1.toInt ≤ tHi 2 := by show _ ≤ (5 : Int); omega
        obtain ⟨μ3, o1, o2, o3⟩ := p_other (L := L) (S := S) (d := 27) p2 AG.rf (show 2 < 17 by decide) b1 b2
        obtain ⟨G, μ2, ν2, d1, d2, d3, d4, d5, d6⟩ := p_great (L := L) (S := S) (m := M) o2 (by omega) (by omega) hM1 hM
        refine pub_p hth e1 ((p3.w1.tr o3.w1).tr d4.w) (unother_v (by decide) d5) (Ev.step ?_) (Ev.step ?_) (x := G)
        · simp only [e117_0, if_neg g1, if_pos g2, if_neg c1, if_neg c2, hN.1, if_neg c6']
          exact Ev.bind p1 (Ev.bind o1 (Ev.bind (d1.dp (by omega)) Ev.ret))
        · simp only [e214_0, e1]
          refine Ev.bind ev_within ?_
          simp only [if_pos cg, i1, if_false]
          refine Ev.bind ev_within ?_
          simp only [if_pos c, i1, if_false, hN.2.1, if_neg c6']
          refine Ev.bind (m_other (k := 2) (by decide) rfl) (Ev.bind (d2.dp (by omega)) (Ev.bind m_unother ?_))
          simp only [cpr_ne (show ((2, 0, 0) : Ad) ≠ (2, 0, 1) by decide), d3]
          exact Ev.ret
  · refine pub_n h e1 (-2) (Ev.step ?_) (Ev.step ?_)
    · by_cases y1 : a1 < 0
      · simp only [e117_0, if_pos y1]
        exact Ev.ret
      · have y2 : ¬ a1 < 6 := fun y => cg (by
          have z1 := Int32.le_iff_toInt_le.mp (Int32.not_lt.mp y1)
          have z2 := Int32.lt_iff_toInt_lt.mp y
          omega)
        simp only [e117_0, if_neg y1, if_neg y2]
        exact Ev.ret
    · simp only [e214_0, e1]
      refine Ev.bind ev_within ?_
      simp only [if_neg cg, if_true]
      exact Ev.ret
end OP
