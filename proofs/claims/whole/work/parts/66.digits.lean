/-! the class reads a number; a piece again -/
def NumC (p k v : Nat) (μ μ2 : Mm) : Prop := μ2 (0, 0, 9) 7 = nI k ∧ μ2 (0, 0, 9) 9 = nI v ∧ (1 ≤ k → μ2 (0, 0, 9) 8 = nI p ∧ μ2 (0, 0, 9) 10 = 0) ∧ (k = 0 → μ2 = μ) ∧ (∀ i, i ≠ 7 → i ≠ 8 → i ≠ 9 → i ≠ 10 → μ2 (0, 0, 9) i = μ (0, 0, 9) i) ∧ ∀ q : Ad, q ≠ (0, 0, 9) → μ2 q = μ q
def CL (L : Nat) (S : Ad → Nat → Int32) (d sz n p : Nat) (μ : Mm) (p2 : Nat) (μ2 : Mm) : Prop := ∀ v, Ev (fun F => run L S F (d + 4) 70 37 [some (vR (0, 0, 9)), some (vR (0, 0, 8)), some (vI (nI sz)), some (vI (nI n)), some (vI (nI p2))] μ2) v → Ev (fun F => run L S F (d + 4) 70 37 [some (vR (0, 0, 9)), some (vR (0, 0, 8)), some (vI (nI sz)), some (vI (nI n)), some (vI (nI p))] μ) v
section RG
variable {L : Nat} {S : Ad → Nat → Int32} {d n q w m t s T T1 l c r p k sz : Nat} {B : Nat → Nat} {z x : Int32} {μ μ' μ1 μ1' μ2 : Mm} {a1 a2 a3 a4 a5 : Int32} {ν ν0 ν1 ν2 κ : Mm}
theorem CL.rf : CL L S d sz n p μ p μ := fun _ h => h
theorem CL.tr {p2 p3 : Nat} (h : CL L S d sz n p μ p2 μ1) (h2 : CL L S d sz n p2 μ1 p3 μ2) : CL L S d sz n p μ p3 μ2 := fun v hv => h v (h2 v hv)
theorem c_digit (h : TB sz B μ ν) (h4 : μ (0, 0, 9) 4 = 0) (hd : dig sz B q) (h73 : Ev (fun F => run L S F (d + 3) 73 0 [some (vR (0, 0, 9)), some (vI (nI (B q - 48))), some (vI (nI q))] μ) (0, μ2)) : CL L S d sz n q μ (q + 1) μ2 := fun v hv => by
  have hz := h.1
  obtain ⟨d1, d2, d3⟩ := hd
  have hb := (h.2 q d1)
  have e48 : nI (B q) - 48 = nI (B q - 48) := by
    obtain ⟨y, hy⟩ : ∃ y, B q = y + 48 := ⟨B q - 48, by omega⟩
    rw [hy, Nat.add_sub_cancel, ← nI_add, show (48 : Int32) = nI 48 from rfl]
    exact Int32.add_sub_cancel _ _
  refine Ev.step ?_
  simp only [e70_37, if_pos (nI_lt d1 (show sz < 2 ^ 31 by omega)), if_pos (show nI q < (60 : Int32) from nI_lt (b := 60) (by omega) (by decide)), h4, if_true, inb_n (show q < 60 by omega) (by decide), cond_true, nI_clamp (show q < 2 ^ 31 by omega), hb.1, if_neg (show ¬ nI (B q) < (48 : Int32) from nI_nlt (b := 48) d2 (by omega)), if_neg (show ¬ (57 : Int32) < nI (B q) from nI_nlt (a := 57) d3 (by decide)), e48, nI_1]
  exact Ev.bind h73 hv
/-- a sign that is no digit -/
theorem c_sign (h : TB sz B μ ν) (h4 : μ (0, 0, 9) 4 = 0) (hq : q < sz) (hd : ¬ dig sz B q) (h75 : Ev (fun F => run L S F (d + 3) 75 0 [some (vR (0, 0, 9)), some (vI (nI (B q))), some (vI (nI q)), some (vI (nI n))] μ) (0, μ2)) : CL L S d sz n q μ (q + 1) μ2 := fun v hv => by
  have hz := h.1
  have hb := (h.2 q hq)
  refine Ev.step ?_
  simp only [e70_37, if_pos (nI_lt hq (show sz < 2 ^ 31 by omega)), if_pos (show nI q < (60 : Int32) from nI_lt (b := 60) (by omega) (by decide)), h4, if_true, inb_n (show q < 60 by omega) (by decide), cond_true, nI_clamp (show q < 2 ^ 31 by omega), hb.1, nI_1]
  by_cases c : B q < 48
  · simp only [if_pos (show nI (B q) < (48 : Int32) from nI_lt (b := 48) c (by decide))]
    exact Ev.bind h75 hv
  · have c2 : 57 < B q := by
      rcases Nat.lt_or_ge 57 (B q) with y | y
      · exact y
      · exact absurd ⟨hq, by omega, by omega⟩ hd
    simp only [if_neg (show ¬ nI (B q) < (48 : Int32) from nI_nlt (b := 48) (by omega) (by omega)), if_pos (show (57 : Int32) < nI (B q) from nI_lt (a := 57) c2 (by omega))]
    exact Ev.bind h75 hv
theorem c_stop (h4 : ¬ μ (0, 0, 9) 4 = 0) : Ev (fun F => run L S F (d + 4) 70 37 [some (vR (0, 0, 9)), some (vR (0, 0, 8)), some (vI (nI sz)), some (vI (nI n)), some (vI x)] μ) (0, μ) := by
  refine Ev.step ?_
  simp only [e70_37, h4, if_false, ite_self]
  exact Ev.ret
theorem c_end (h4 : μ (0, 0, 9) 4 = 0) (hz : sz < 2 ^ 31) (h76 : Ev (fun F => run L S F (d + 3) 76 0 [some (vR (0, 0, 9)), some (vI (nI sz))] μ) (0, μ2)) : Ev (fun F => run L S F (d + 4) 70 37 [some (vR (0, 0, 9)), some (vR (0, 0, 8)), some (vI (nI sz)), some (vI (nI n)), some (vI (nI sz))] μ) (0, μ2) := by
  refine Ev.step ?_
  simp only [e70_37, h4, if_true, if_neg (nI_nlt (Nat.le_refl sz) hz)]
  exact Ev.bind h76 Ev.ret
theorem mmin_nI {a : Nat} (ha : a < 2 ^ 31) : mmin 1000 (nI a) = nI (min 1000 a) := by
  unfold mmin
  by_cases c : a < 1000
  · rw [if_pos (show nI a < (1000 : Int32) from nI_lt (b := 1000) c (by decide)), Nat.min_eq_right (by omega)]
  · rw [if_neg (show ¬ nI a < (1000 : Int32) from nI_nlt (b := 1000) (by omega) ha), Nat.min_eq_left (by omega)]
    rfl
theorem c_digs (h : TB sz B μ ν) (h4 : μ (0, 0, 9) 4 = 0) (h7 : μ (0, 0, 9) 7 = 0) (h9 : μ (0, 0, 9) 9 = 0) : ∀ k, (∀ i, i < k → dig sz B (p + i)) → ∃ μ2, NumC p k (vc B p k) μ μ2 ∧ CL L S d sz n p μ (p + k) μ2 := by
  intro k
  induction k with
  | zero => intro _; exact ⟨μ, ⟨h7, h9, fun x => absurd x (by decide), fun _ => rfl, fun _ _ _ _ _ => rfl, fun _ _ => rfl⟩, CL.rf⟩
  | succ k ih =>
    intro hd
    obtain ⟨μ2, ⟨n1, n2, n3, n4, n5, n6⟩, cl⟩ := ih (fun i hi => hd i (by omega))
    have dk := hd k (by omega)
    have hz := h.1
    have ht : TB sz B μ2 ν := ⟨h.1, fun i hi => by rw [n6 _ (by decide)]; exact h.2 i hi⟩
    have b4 : μ2 (0, 0, 9) 4 = 0 := (n5 4 (by decide) (by decide) (by decide) (by decide)).trans h4
    have vl := vc_le (B := B) (p := p) (k := k)
    have nd := dk.2
    have d1 := dk.1
    have ev : mmin 1000 (nI (vc B p k) * 10 + nI (B (p + k) - 48)) = nI (vc B p (k + 1)) := by
      rw [show (10 : Int32) = nI 10 from rfl, nI_mul, nI_add, mmin_nI (by omega)]
      rfl
    have ek : nI k + 1 = nI (k + 1) := nI_1 k
    by_cases k0 : k = 0
    · subst k0
      have z7 : μ2 (0, 0, 9) 7 = 0 := n1
      have z9 : μ2 (0, 0, 9) 9 = 0 := n2
      have ev' : mmin 1000 ((0 : Int32) * 10 + nI (B (p + 0) - 48)) = nI (vc B p (0 + 1)) := ev
      refine ⟨mset (mset (mset (mset μ2 (0, 0, 9) 8 (nI (p + 0))) (0, 0, 9) 7 (nI (0 + 1))) (0, 0, 9) 9 (nI (vc B p (0 + 1)))) (0, 0, 9) 10 0, ⟨?_, ?_, fun _ => ⟨?_, mset_gg⟩, fun x => absurd x (by decide), fun i a b c e => ?_, fun q hq => ?_⟩, cl.tr (c_digit ht b4 dk (Ev.step ?_))⟩
      · rw [mset_gk (by decide), mset_gk (by decide), mset_gg]
      · rw [mset_gk (by decide), mset_gg]
      · rw [mset_gk (by decide), mset_gk (by decide), mset_gk (by decide), mset_gg]
        rfl
      · rw [mset_gk e, mset_gk c, mset_gk a, mset_gk b]
        exact n5 i a b c e
      · rw [mset_ne hq, mset_ne hq, mset_ne hq, mset_ne hq]
        exact n6 q hq
      · have y7 : mset μ2 (0, 0, 9) 8 (nI (p + 0)) (0, 0, 9) 7 = 0 := (mset_gk (by decide)).trans z7
        have y9 : ∀ v, mset (mset μ2 (0, 0, 9) 8 (nI (p + 0))) (0, 0, 9) 7 v (0, 0, 9) 9 = 0 := fun v => by rw [mset_gk (by decide), mset_gk (by decide)]; exact z9
        simp only [e73_0, z7, if_true, y7, y9, ev']
        exact Ev.ret
    · obtain ⟨n31, n32⟩ := n3 (by omega)
      refine ⟨mset (mset (mset μ2 (0, 0, 9) 7 (nI (k + 1))) (0, 0, 9) 9 (nI (vc B p (k + 1)))) (0, 0, 9) 10 0, ⟨?_, ?_, fun _ => ⟨?_, mset_gg⟩, fun x => absurd x (by omega), fun i a b c e => ?_, fun q hq => ?_⟩, cl.tr (c_digit ht b4 dk (Ev.step ?_))⟩
      · rw [mset_gk (by decide), mset_gk (by decide), mset_gg]
      · rw [mset_gk (by decide), mset_gg]
      · rw [mset_gk (by decide), mset_gk (by decide), mset_gk (by decide)]
        exact n31
      · rw [mset_gk e, mset_gk c, mset_gk a]
        exact n5 i a b c e
      · rw [mset_ne hq, mset_ne hq, mset_ne hq]
        exact n6 q hq
      · have y9 : ∀ v, mset μ2 (0, 0, 9) 7 v (0, 0, 9) 9 = nI (vc B p k) := fun v => by rw [mset_gk (by decide)]; exact n2
        simp only [e73_0, n1, if_neg (nI_ne0 (show 0 < k by omega) (show k < 2 ^ 31 by omega)), ek, y9, ev]
        exact Ev.ret
theorem c_bad (h1 : μ (0, 0, 9) 7 = nI k) (h2 : μ (0, 0, 9) 9 = nI w) (hk : k < 2 ^ 31) (hw : w < 2 ^ 31) : Ev (fun F => run L S F d 74 0 [some (vR (0, 0, 9))] μ) (if 0 < k ∧ (2 < k ∨ w < 1 ∨ 48 < w) then 1 else 0, μ) := by
  refine Ev.step ?_
  by_cases c0 : 0 < k
  · by_cases c1 : 2 < k
    · simp only [e74_0, h1, h2, if_pos (show (0 : Int32) < nI k from nI_lt (a := 0) c0 hk), if_pos (show (2 : Int32) < nI k from nI_lt (a := 2) c1 hk), narB1, if_pos (show 0 < k ∧ (2 < k ∨ w < 1 ∨ 48 < w) from ⟨c0, Or.inl c1⟩)]
      exact Ev.ret
    · by_cases c2 : w < 1
      · simp only [e74_0, h1, h2, if_pos (show (0 : Int32) < nI k from nI_lt (a := 0) c0 hk), if_neg (show ¬ (2 : Int32) < nI k from nI_nlt (a := 2) (by omega) (by decide)), if_pos (show nI w < (1 : Int32) from nI_lt (b := 1) c2 (by decide)), narB1, if_pos (show 0 < k ∧ (2 < k ∨ w < 1 ∨ 48 < w) from ⟨c0, Or.inr (Or.inl c2)⟩)]
        exact Ev.ret
      · by_cases c3 : 48 < w
        · simp only [e74_0, h1, h2, if_pos (show (0 : Int32) < nI k from nI_lt (a := 0) c0 hk), if_neg (show ¬ (2 : Int32) < nI k from nI_nlt (a := 2) (by omega) (by decide)), if_neg (show ¬ nI w < (1 : Int32) from nI_nlt (b := 1) (by omega) hw), if_pos (show (48 : Int32) < nI w from nI_lt (a := 48) c3 hw), narB1, if_pos (show 0 < k ∧ (2 < k ∨ w < 1 ∨ 48 < w) from ⟨c0, Or.inr (Or.inr c3)⟩)]
          exact Ev.ret
        · simp only [e74_0, h1, h2, if_pos (show (0 : Int32) < nI k from nI_lt (a := 0) c0 hk), if_neg (show ¬ (2 : Int32) < nI k from nI_nlt (a := 2) (by omega) (by decide)), if_neg (show ¬ nI w < (1 : Int32) from nI_nlt (b := 1) (by omega) hw), if_neg (show ¬ (48 : Int32) < nI w from nI_nlt (a := 48) (by omega) (by decide)), narB0, if_neg (show ¬ (0 < k ∧ (2 < k ∨ w < 1 ∨ 48 < w)) from fun x => x.2.elim c1 (fun y => y.elim c2 c3))]
          exact Ev.ret
  · have k0 : k = 0 := by omega
    subst k0
    simp only [e74_0, h1, if_neg (show ¬ (0 : Int32) < nI 0 by decide), narB0, if_neg (show ¬ (0 < 0 ∧ (2 < 0 ∨ w < 1 ∨ 48 < w)) from fun x => absurd x.1 (by decide))]
    exact Ev.ret
/-- a row several times over, on both sides -/
theorem rep_row {x4 x5 t y : Nat} (ht : t < 2 ^ 31) (hy : y < n) (hx5 : x5 ≤ 1) : ∀ (m i r : Nat) (μ ν : Mm), i + m = t → RDr n r μ ν → ν (2, 0, 0) 15 = 0 → (r = 49 ∨ (x4 < r ∧ ν (2, 0, 9) x4 = nI y ∧ x5 = 1)) → ∃ r2 μ2 ν2, (∀ v, Ev (fun F => run L S F (d + 1) 77 25 [some (vR (0, 0, 9)), some (vI (nI y)), none, none, some (vI (nI t)), some (vI (nI t))] μ2) v → Ev (fun F => run L S F (d + 1) 77 25 [some (vR (0, 0, 9)), some (vI (nI y)), none, none, some (vI (nI t)), some (vI (nI i))] μ) v) ∧ Ev (fun F => run L S F (d + 1) 176 182 [some (vR (2, 0, 0)), none, some (vI (nI t)), none, some (vI (nI x4)), some (vI (nI x5)), some (vI (nI i)), none] ν) (0, ν2) ∧ RDr n r2 μ2 ν2 ∧ A9 μ μ2 ∧ A20 ν ν2 ∧ r ≤ r2 := by
  intro m
  induction m with
  | zero =>
    intro i r μ ν hi h hw hr
    have hi : i = t := by omega
    subst hi
    refine ⟨r, μ, ν, fun v hv => hv, Ev.step ?_, h, A9.rf, A20.rf, Nat.le_refl _⟩
    simp only [e176_182, if_neg (nI_nlt (Nat.le_refl i) ht)]
    exact Ev.ret
  | succ m ih =>
    intro i r μ ν hi h hw hr
    have hi2 : nI i < nI t := nI_lt (by omega) ht
    have hrr := h.1
    have h20 := h.2.1
    have pc := c_push (L := L) (S := S) (d := d) (x := nI y) h
    by_cases c : r = 49
    · subst c
      have hf := h.full (x := nI y)
      obtain ⟨r2, μ2, ν2, a1, a2, a3, a4, a5, a6⟩ := ih (i + 1) 49 _ ν (by omega) hf hw (Or.inl rfl)
      refine ⟨r2, μ2, ν2, fun v hv => Ev.step ?_, Ev.step ?_, a3, appC_a.tr a4, a5, a6⟩
      · simp only [e77_25, if_pos hi2, nI_1]
        exact Ev.bind pc (a1 v hv)
      · simp only [e176_182, if_pos hi2, hw, if_true]
        refine Ev.step ?_
        simp only [e176_198, h20, show (48 : Int32) < nI 49 by decide, if_true, nI_1, ite_self]
        exact a2
    · obtain ⟨e1, e2, e3⟩ := hr.resolve_left c
      subst e3
      have pm := m_push (L := L) (S := S) (d := d) (x := nI y) h
      have hf := h.app (x := nI y) rfl hy
      have w15 : appM r (nI y) ν (2, 0, 0) 15 = 0 := (appM_a.1 15 (by decide)).trans hw
      obtain ⟨r2, μ2, ν2, a1, a2, a3, a4, a5, a6⟩ := ih (i + 1) _ _ _ (by omega) hf w15 (by
        by_cases c2 : r = 48
        · subst c2
          exact Or.inl rfl
        · exact Or.inr ⟨by omega, by rw [appM_k e1]; exact e2, rfl⟩)
      refine ⟨r2, μ2, ν2, fun v hv => Ev.step ?_, Ev.step ?_, a3, appC_a.tr a4, appM_a.tr a5, by omega⟩
      · simp only [e77_25, if_pos hi2, nI_1]
        exact Ev.bind pc (a1 v hv)
      · simp only [e176_182, if_pos hi2, hw, if_true]
        refine Ev.step ?_
        have z : nI x4 + 0 = nI x4 := Int32.add_zero _
        simp only [e176_198, h20, show (0 : Int32) < nI 1 by decide, if_true, if_neg (show ¬ (48 : Int32) < nI r from nI_nlt (a := 48) (by omega) (by decide)), z, if_pos (show nI x4 < (48 : Int32) from nI_lt (b := 48) (by omega) (by decide)), inb_n (show x4 < 48 by omega) (by decide), cond_true, nI_clamp (show x4 < 2 ^ 31 by omega), e2]
        refine Ev.bind pm ?_
        refine Ev.step ?_
        simp only [e176_198, show ¬ (0 : Int32) + 1 < nI 1 by decide, if_false, nI_1]
        exact a2
/-- a piece several times over, on both sides -/
theorem rep_round {x4 x5 j t : Nat} (hx : 1 ≤ x5) (hj : j + 1 < t) (ht : t < 60) (hxl : x4 + x5 ≤ 49) : ∀ (m y r : Nat) (μ ν : Mm) (ic : Nat), y + m = x5 → RDr n r μ ν → (r = 49 ∨ (r = x4 + x5 + j * x5 + y ∧ ic = x4 + j * x5 + y ∧ ∀ g, g < x5 + j * x5 + y → ν (2, 0, 9) (x4 + g) = ν (2, 0, 9) (x4 + g % x5))) → ∃ r2 μ2 ν2 ic2, (∀ v, Ev (fun F => run L S F (d + 1) 79 65 [some (vR (0, 0, 9)), none, none, some (vI (nI (x4 + x5 * (t - 1)))), some (vI (nI ic2))] μ2) v → Ev (fun F => run L S F (d + 1) 79 65 [some (vR (0, 0, 9)), none, none, some (vI (nI (x4 + x5 * (t - 1)))), some (vI (nI ic))] μ) v) ∧ (∀ v, Ev (fun F => run L S F (d + 1) 176 182 [some (vR (2, 0, 0)), none, some (vI (nI t)), none, some (vI (nI x4)), some (vI (nI x5)), some (vI (nI (j + 1 + 1))), none] ν2) v → Ev (fun F => run L S F (d + 1) 176 198 [some (vR (2, 0, 0)), none, some (vI (nI t)), none, some (vI (nI x4)), some (vI (nI x5)), some (vI (nI (j + 1))), some (vI (nI y))] ν) v) ∧ RDr n r2 μ2 ν2 ∧ (r2 = 49 ∨ (r2 = x4 + x5 + j * x5 + x5 ∧ ic2 = x4 + j * x5 + x5 ∧ ∀ g, g < x5 + j * x5 + x5 → ν2 (2, 0, 9) (x4 + g) = ν2 (2, 0, 9) (x4 + g % x5))) ∧ A9 μ μ2 ∧ A20 ν ν2 ∧ r ≤ r2 := by
  intro m
  have h20 : ∀ {r μ ν}, RDr n r μ ν → ν (2, 0, 0) 20 = nI r := fun h => h.2.1
  induction m with
  | zero =>
    intro y r μ ν ic hy h hr
    have hy : y = x5 := by omega
    subst hy
    refine ⟨r, μ, ν, ic, fun v hv => hv, fun v hv => Ev.step ?_, h, hr, A9.rf, A20.rf, Nat.le_refl _⟩
    simp only [e176_198, if_neg (nI_nlt (Nat.le_refl y) (show y < 2 ^ 31 by omega)), nI_1]
    exact hv
  | succ m ih =>
    intro y r μ ν ic hy h hr
    have hrr := h.1
    by_cases c : r = 49
    · subst c
      refine ⟨49, μ, ν, ic, fun v hv => hv, fun v hv => Ev.step ?_, h, Or.inl rfl, A9.rf, A20.rf, Nat.le_refl _⟩
      simp only [e176_198, h20 h, if_pos (nI_lt (show y < x5 by omega) (show x5 < 2 ^ 31 by omega)), show (48 : Int32) < nI 49 by decide, if_true, nI_1]
      exact hv
    · obtain ⟨e1, e2, e3⟩ := hr.resolve_left c
      have hm1 : (j + 1) * x5 ≤ (t - 1) * x5 := Nat.mul_le_mul_right _ (by omega)
      have hm2 : (j + 1) * x5 = j * x5 + x5 := Nat.succ_mul j x5
      have hm3 : x5 * (t - 1) = (t - 1) * x5 := Nat.mul_comm _ _
      have hm4 : (t - 1) * x5 ≤ 59 * 49 := Nat.mul_le_mul (by omega) (by omega)
      have mod1 : (x5 + j * x5 + y) % x5 = y := by
        rw [show x5 + j * x5 + y = y + x5 * (j + 1) by rw [Nat.mul_comm x5, hm2]; omega, Nat.add_mul_mod_self_left]
        exact Nat.mod_eq_of_lt (by omega)
      have mod2 : (j * x5 + y) % x5 = y := by
        rw [show j * x5 + y = y + x5 * j by rw [Nat.mul_comm x5]; omega, Nat.add_mul_mod_self_left]
        exact Nat.mod_eq_of_lt (by omega)
      have cell := e3 (j * x5 + y) (by omega)
      rw [mod2] at cell
      obtain ⟨b1, u, hu, b2⟩ := h.2.2.2.2 ic (by omega) (by omega)
      have b3 : ν (2, 0, 9) (x4 + y) = nI u := by
        rw [← cell, ← b2]
        congr 1
        omega
      have c3 := h.2.2.1
      have c11 := h.2.2.2.1
      rw [Nat.min_eq_left (by omega)] at c3
      rw [if_neg c] at c11
      have pc := c_push (L := L) (S := S) (d := d) (x := nI u) h
      have pm := m_push (L := L) (S := S) (d := d) (x := nI u) h
      have hf := h.app (x := nI u) rfl hu
      obtain ⟨r2, μ2, ν2, ic2, a1, a2, a3, a4, a5, a6, a7⟩ := ih (y + 1) _ _ _ (ic + 1) (by omega) hf (by
        by_cases c2 : r = 48
        · subst c2
          exact Or.inl rfl
        · refine Or.inr ⟨by omega, by omega, fun g hg => ?_⟩
          by_cases eg : g = x5 + j * x5 + y
          · rw [eg, mod1, show x4 + (x5 + j * x5 + y) = r by omega, appM_r (by omega), appM_k (by omega), b3]
          · have : g % x5 ≤ g := Nat.mod_le _ _
            rw [appM_k (by omega), appM_k (by omega)]
            exact e3 g (by omega))
      refine ⟨r2, μ2, ν2, ic2, fun v hv => Ev.step ?_, fun v hv => Ev.step ?_, a3, a4, appC_a.tr a5, appM_a.tr a6, by omega⟩
      · simp only [e79_65, if_pos (nI_lt (show ic < x4 + x5 * (t - 1) by omega) (show x4 + x5 * (t - 1) < 2 ^ 31 by omega)), c3, if_pos (nI_lt (show ic < r by omega) (show r < 2 ^ 31 by omega)), c11, if_true, inb_n (show ic < 48 by omega) (by decide), cond_true, nI_clamp (show ic < 2 ^ 31 by omega), b1, b2, nI_1]
        exact Ev.bind pc (a1 v hv)
      · simp only [e176_198, h20 h, if_pos (nI_lt (show y < x5 by omega) (show x5 < 2 ^ 31 by omega)), if_neg (show ¬ (48 : Int32) < nI r from nI_nlt (a := 48) (by omega) (by decide)), nI_add, if_pos (show nI (x4 + y) < (48 : Int32) from nI_lt (b := 48) (by omega) (by decide)), inb_n (show x4 + y < 48 by omega) (by decide), cond_true, nI_clamp (show x4 + y < 2 ^ 31 by omega), b3, nI_1]
        exact Ev.bind pm (a2 v hv)
theorem rep_skip {x4 x5 t : Nat} (ht : t < 2 ^ 31) : ∀ (m i : Nat), i + m = t → ν (2, 0, 0) 15 = 0 → (ν (2, 0, 0) 20 = nI 49 ∨ x5 = 0) → Ev (fun F => run L S F (d + 1) 176 182 [some (vR (2, 0, 0)), none, some (vI (nI t)), none, some (vI (nI x4)), some (vI (nI x5)), some (vI (nI i)), none] ν) (0, ν) := by
  intro m
  induction m with
  | zero =>
    intro i hi hw hr
    have hi : i = t := by omega
    subst hi
    refine Ev.step ?_
    simp only [e176_182, if_neg (nI_nlt (Nat.le_refl i) ht)]
    exact Ev.ret
  | succ m ih =>
    intro i hi hw hr
    refine Ev.step ?_
    simp only [e176_182, if_pos (nI_lt (show i < t by omega) ht), hw, if_true]
    refine Ev.step ?_
    rcases hr with e | e
    · simp only [e176_198, e, show (48 : Int32) < nI 49 by decide, if_true, nI_1, ite_self]
      exact ih (i + 1) (by omega) hw (Or.inl e)
    · subst e
      simp only [e176_198, show ¬ (0 : Int32) < nI 0 by decide, if_false, nI_1]
      exact ih (i + 1) (by omega) hw (Or.inr rfl)
theorem rep_group {x4 x5 t : Nat} (hx : 1 ≤ x5) (ht : t < 60) (hxl : x4 + x5 ≤ 49) : ∀ (m j r : Nat) (μ ν : Mm) (ic : Nat), j + 1 + m = t → RDr n r μ ν → ν (2, 0, 0) 15 = 0 → ic < 2 ^ 31 → (r = 49 ∨ (r = x4 + x5 + j * x5 ∧ ic = x4 + j * x5 ∧ ∀ g, g < x5 + j * x5 → ν (2, 0, 9) (x4 + g) = ν (2, 0, 9) (x4 + g % x5))) → ∃ r2 μ2 ν2, Ev (fun F => run L S F (d + 1) 79 65 [some (vR (0, 0, 9)), none, none, some (vI (nI (x4 + x5 * (t - 1)))), some (vI (nI ic))] μ) (0, μ2) ∧ Ev (fun F => run L S F (d + 1) 176 182 [some (vR (2, 0, 0)), none, some (vI (nI t)), none, some (vI (nI x4)), some (vI (nI x5)), some (vI (nI (j + 1))), none] ν) (0, ν2) ∧ RDr n r2 μ2 ν2 ∧ A9 μ μ2 ∧ A20 ν ν2 ∧ r ≤ r2 := by
  intro m
  have stop : ∀ (r : Nat) (μ ν : Mm) (ic : Nat), r = 49 → RDr n r μ ν → Ev (fun F => run L S F (d + 1) 79 65 [some (vR (0, 0, 9)), none, none, some (vI (nI (x4 + x5 * (t - 1)))), some (vI (nI ic))] μ) (0, μ) := fun r μ ν ic e h => by
    have c11 := h.2.2.2.1
    rw [if_pos e] at c11
    refine Ev.step ?_
    simp only [e79_65, c11, i1, if_false, ite_self]
    exact Ev.ret
  induction m with
  | zero =>
    intro j r μ ν ic hj h hw hic hr
    have hj : t = j + 1 := by omega
    subst hj
    refine ⟨r, μ, ν, ?_, Ev.step ?_, h, A9.rf, A20.rf, Nat.le_refl _⟩
    · by_cases c : r = 49
      · exact stop r μ ν ic c h
      · obtain ⟨e1, e2, e3⟩ := hr.resolve_left c
        refine Ev.step ?_
        have e4 : x5 * (j + 1 - 1) = j * x5 := by rw [Nat.add_sub_cancel, Nat.mul_comm]
        simp only [e79_65, if_neg (nI_nlt (show x4 + x5 * (j + 1 - 1) ≤ ic by omega) hic)]
        exact Ev.ret
    · simp only [e176_182, if_neg (nI_nlt (Nat.le_refl (j + 1)) (show j + 1 < 2 ^ 31 by omega))]
      exact Ev.ret
  | succ m ih =>
    intro j r μ ν ic hj h hw hic hr
    by_cases c : r = 49
    · subst c
      exact ⟨49, μ, ν, stop 49 μ ν ic rfl h, rep_skip (by omega) (m + 1) (j + 1) (by omega) hw (Or.inl h.2.1), h, A9.rf, A20.rf, Nat.le_refl _⟩
    · have hm2 : (j + 1) * x5 = j * x5 + x5 := Nat.succ_mul j x5
      have hrr := h.1
      obtain ⟨r1, μ1, ν1, ic1, a1, a2, a3, a4, a5, a6, a7⟩ := rep_round (L := L) (S := S) (d := d) (j := j) (t := t) hx (by omega) ht hxl x5 0 r μ ν ic (by omega) h hr
      have w15 : ν1 (2, 0, 0) 15 = 0 := (a6.1 15 (by decide)).trans hw
      obtain ⟨ic2, hic2, a1'⟩ : ∃ ic2, ic2 < 2 ^ 31 ∧ (r1 = 49 ∨ (r1 = x4 + x5 + (j + 1) * x5 ∧ ic2 = x4 + (j + 1) * x5 ∧ ∀ g, g < x5 + (j + 1) * x5 → ν1 (2, 0, 9) (x4 + g) = ν1 (2, 0, 9) (x4 + g % x5))) ∧ (∀ v, Ev (fun F => run L S F (d + 1) 79 65 [some (vR (0, 0, 9)), none, none, some (vI (nI (x4 + x5 * (t - 1)))), some (vI (nI ic2))] μ1) v → Ev (fun F => run L S F (d + 1) 79 65 [some (vR (0, 0, 9)), none, none, some (vI (nI (x4 + x5 * (t - 1)))), some (vI (nI ic))] μ) v) := by
        by_cases c1 : r1 = 49
        · refine ⟨0, by decide, Or.inl c1, fun v hv => a1 v ?_⟩
          have x1 := stop r1 μ1 ν1 0 c1 a3
          have x2 := stop r1 μ1 ν1 ic1 c1 a3
          rw [hv.uq x1]
          exact x2
        · obtain ⟨e1, e2, e3⟩ := a4.resolve_left c1
          have := a3.1
          refine ⟨ic1, by omega, Or.inr ⟨by omega, by omega, fun g hg => e3 g (by omega)⟩, a1⟩
      obtain ⟨r2, μ2, ν2, b1, b2, b3, b4, b5, b6⟩ := ih (j + 1) r1 μ1 ν1 ic2 (by omega) a3 w15 hic2 a1'.1
      refine ⟨r2, μ2, ν2, a1'.2 _ b1, Ev.step ?_, b3, a5.tr b4, a6.tr b5, by omega⟩
      simp only [e176_182, if_pos (nI_lt (show j + 1 < t by omega) (show t < 2 ^ 31 by omega)), hw, if_true]
      exact a2 _ b2
end RG
