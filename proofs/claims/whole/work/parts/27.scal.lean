/-! single numbers on which bounds hang: time, next, to go, owed, x; then the places' loop -/
/-- an arrow that number tactics don't look into -/
def Im (a c : Prop) : Prop := a → c
section SC
variable {L : Nat} {S : Ad → Nat → Int32} {F d n q w e : Nat} {z z1 : Int32} {j : Fin 15} {b : Bool} {μ μ' μ1 μ1' : Mm}
theorem R.upS (h : R n q w z e j b μ μ') (hL : LocR n e j μ1 μ1') (hc : ∀ o k, (o = 19 ∨ o = 20 ∨ o = 22 ∨ o = 3 ∨ o = 4 ∨ (o = 21 ∧ k = 1)) → μ1 (1, j, o) k = μ (1, j, o) k) (hm : ∀ i, (i = 4 ∨ i = 5 ∨ 212 ≤ i) → μ1' (2, 0, 1) i = μ' (2, 0, 1) i)
    (hrg : RgR n μ1') (hso : SoR j μ1 μ1') (hse : SeR μ1') (hz : μ1' (2, 0, 1) 16 = μ1 (1, j, 24) 3 + z1) (hp : b = true → μ1 (1, j, 2) 3 = μ1' (2, 0, 0) 9) : R n q w z1 e j b μ1 μ1' := by
  obtain ⟨⟨-, he⟩, ⟨w1, w2, w3⟩, ⟨q1, q2, q3, q4, q5⟩, ⟨p1, p2⟩, -, -, -, -, -⟩ := h
  refine ⟨⟨hL, he⟩, ⟨by rw [hm 5 (by omega)]; exact w1, w2, fun k hk => ?_⟩, ⟨by rw [hm 4 (by omega)]; exact q1, q2, fun k hk => ?_, fun k k' hk hk' => ?_, fun r hr => ?_⟩, ⟨fun p hp1 => ?_, fun r hr => ?_⟩, hso, hrg, hse, hz, hp⟩
  · rw [hm (228 + k) (by omega), hm (327 + k) (by omega), hc 19 k (by omega), hc 20 k (by omega)]; exact w3 k hk
  · rw [hm (212 + k) (by omega), hc 22 k (by omega)]; exact q3 k hk
  · rw [hm (212 + k) (by omega), hm (212 + k') (by omega)]; exact q4 k k' hk hk'
  · rw [hc 21 1 (by omega)]
    refine (q5 r hr).trans ⟨fun ⟨k, a1, a2⟩ => ⟨k, a1, by rw [hm (212 + k) (by omega)]; exact a2⟩, fun ⟨k, a1, a2⟩ => ⟨k, a1, by rw [hm (212 + k) (by omega)] at a2; exact a2⟩⟩
  · obtain ⟨r, a1, a2, a3⟩ := p1 p hp1
    exact ⟨r, a1, by rw [hc 4 p (by omega)]; exact a2, by rw [hc 3 r (by omega)]; exact a3⟩
  · obtain ⟨p, a1, a2, a3⟩ := p2 r hr
    exact ⟨p, a1, by rw [hc 3 r (by omega)]; exact a2, by rw [hc 4 p (by omega)]; exact a3⟩
theorem R.so (h : R n q w z e j b μ μ') : SoR j μ μ' := h.2.2.2.2.1
theorem R.rg (h : R n q w z e j b μ μ') : RgR n μ' := h.2.2.2.2.2.1
theorem R.se (h : R n q w z e j b μ μ') : SeR μ' := h.2.2.2.2.2.2.1
theorem RgR.set {i : Nat} {v : Int32} (h : RgR n μ') (hi : (0 < i ∧ i < 27) ∨ 172 ≤ i) (h10 : Im (i = 10) (∃ k, k < n ∧ v = nI k)) (h8 : Im (i = 8) (0 ≤ v.toInt ∧ v.toInt ≤ 9)) (h2 : Im (i = 2) (∃ k, k < 7875 ∧ v = nI k)) (h6 : Im (i = 6) (∃ k, k ≤ 99 ∧ v = nI k)) : RgR n (mset μ' (2, 0, 1) i v) := by
  obtain ⟨r1, r2, r3, r4, r5, r6, r7, r8, r9⟩ := h
  have g : ∀ k, k ≠ i → mset μ' (2, 0, 1) i v (2, 0, 1) k = μ' (2, 0, 1) k := fun k hk => by
    simp only [mset_g]
    rw [if_neg (by omega)]
  have g0 : mset μ' (2, 0, 1) i v (2, 0, 1) i = v := by
    simp only [mset_g]
    rw [if_pos ⟨trivial, trivial⟩]
  refine ⟨by rw [g 0 (by omega)]; exact r1, r2, r3, fun k hk => by rw [g (27 + k) (by omega)]; exact r4 k hk, ?_, ?_, ?_, ?_, r9.keep r3 (fun i' a1 a2 => g i' (by omega))⟩
  · by_cases c : i = 10
    · subst c; rw [g0]; exact h10 rfl
    · rw [g 10 (by omega)]; exact r5
  · by_cases c : i = 8
    · subst c; rw [g0]; exact h8 rfl
    · rw [g 8 (by omega)]; exact r6
  · by_cases c : i = 2
    · subst c; rw [g0]; exact h2 rfl
    · rw [g 2 (by omega)]; exact r7
  · by_cases c : i = 6
    · subst c; rw [g0]; exact h6 rfl
    · rw [g 6 (by omega)]; exact r8
theorem SeR.set {i : Nat} {v : Int32} (h : SeR μ') (hi : i ≠ 1 ∧ i ≠ 11 ∧ i ≠ 29 ∧ ¬ (172 ≤ i ∧ i < 180) ∧ ¬ (188 ≤ i ∧ i < 196)) : SeR (mset μ' (2, 0, 1) i v) := by
  have g : ∀ k, k ≠ i → mset μ' (2, 0, 1) i v (2, 0, 1) k = μ' (2, 0, 1) k := fun k hk => by
    simp only [mset_g]
    rw [if_neg (by omega)]
  intro k hk
  rw [g (172 + k) (by omega), g (188 + k) (by omega), g 29 (by omega)]; exact h k hk
/-- a number of the bank itself, written on both sides -/
theorem R.w0 {k i : Nat} {v : Int32} (h : R n q w z e j b μ μ') (hl : loc n 0 k = some i) (hi : i = 6 ∨ i = 10) (h10 : Im (i = 10) (∃ k, k < n ∧ v = nI k)) (h6 : Im (i = 6) (∃ k, k ≤ 99 ∧ v = nI k)) : R n q w z e j b (mset μ (1, j, 0) k v) (mset μ' (2, 0, 1) i v) := by
  have hN := h.hn
  have hk7 : k ≠ 7 := fun x => by
    subst x
    cases hl
  refine h.upS (h.1.1.set hN.2.2.2 hl) (fun o' k' hs => ?_) (fun i' hs => ?_) (h.rg.set (by omega) h10 (fun x => absurd x (by omega)) (fun x => absurd x (by omega)) h6) ?_ (h.se.set (by omega)) ?_ (fun hb => ?_)
  · simp only [mset_g]
    rw [if_neg (by omega)]
  · simp only [mset_g]
    rw [if_neg (by omega)]
  · have hs := h.so
    unfold SoR at hs ⊢
    simp only [mset_g]
    rw [if_neg (by omega), if_neg (by omega), if_neg (by omega), if_neg (by omega)]
    exact hs
  · simp only [mset_g]
    rw [if_neg (by omega), if_neg (by omega)]
    exact h.hz
  · simp only [mset_g]
    rw [if_neg (by omega), if_neg (by omega)]
    exact h.pk hb
theorem mmax1 {m : Nat} (h1 : 1 ≤ m) (h2 : m < 2 ^ 31) : mmax 1 (nI m) = nI m := by
  unfold mmax
  by_cases h : m = 1
  · subst h; rfl
  · rw [if_pos (show (1 : Int32) < nI m from nI_lt (a := 1) (by omega) h2)]
theorem mmax1_ne {m : Nat} (h1 : 1 ≤ m) (h2 : m < 2 ^ 31) : ¬ nI m = 0 := nI_ne0 (by omega) h2
theorem m_refr0 (hF : 1 ≤ F) (hd : 1 ≤ d) {r : Nat} (hr : r < 16) : run L S F d 139 0 [some (vR (2, 0, 0)), some (vI (nI r)), some (vI 0)] μ' = some (0, mset μ' (2, 0, 1) (60 + r) 0) := by
  obtain ⟨F, rfl, hF'⟩ := fz hF
  obtain ⟨d, rfl, hd'⟩ := fz hd
  rw [e139_0]
  simp only [a60, inb_n (show 60 + r < 1278 by omega) (by decide), cond_true, nI_clamp (show 60 + r < 2 ^ 31 by omega), if_true]
/-- the loop over places: the class has counted OWED down already, the reference does it behind -/
theorem p_places_go (hd : 4 ≤ d) {M : Nat} : ∀ (m k F : Nat) (μ μ' : Mm), k + m = M → m + 20 ≤ F → R n q w z 6 j b μ μ' → μ' (2, 0, 1) 36 = nI M → M ≤ 8 →
    ∃ (μ1 μ1' : Mm), run L S F d 43 28 [some (vR (1, j, 0)), some (vI (nI k))] μ = some (0, μ1) ∧ run L S F d 156 2 [some (vR (2, 0, 0)), some (vI (nI k)), none] μ' = some (0, mset μ1' (2, 0, 1) 6 (μ1' (2, 0, 1) 6 - 1)) ∧ R n q w z 6 j b μ1 μ1' ∧ FC j μ μ1 ∧ FM 0 μ' μ1' ∧ μ1 (1, j, 0) 6 = μ (1, j, 0) 6 ∧ μ1' (2, 0, 1) 6 = μ' (2, 0, 1) 6 ∧ FT μ' μ1' := by
  intro m
  induction m with
  | zero =>
    intro k F μ μ' hk hF h h36 hM
    obtain ⟨F, rfl, hF'⟩ := fz (show 19 + 1 ≤ F by omega)
    obtain ⟨d, rfl, hd'⟩ := fz hd
    have hkM : k = M := by omega
    subst hkM
    have t9 : μ (1, j, 1) 9 = nI k := (h.term (by decide)).trans h36
    refine ⟨μ, μ', ?_, ?_, h, FC.rf, FM.rf, rfl, rfl, FT.rf⟩
    · rw [e43_28]
      simp only [t9]
      rw [if_neg (nI_nlt (Nat.le_refl _) (by omega))]
    · rw [e156_2]
      simp only [h36]
      rw [if_neg (nI_nlt (Nat.le_refl _) (by omega))]
  | succ m ih =>
    intro k F μ μ' hk hF h h36 hM
    obtain ⟨F, rfl, hF'⟩ := fz (show (m + 20) + 1 ≤ F by omega)
    obtain ⟨d, rfl, hd'⟩ := fz hd
    have hN := h.hn
    have t9 : μ (1, j, 1) 9 = nI M := (h.term (by decide)).trans h36
    have hlt : nI k < nI M := nI_lt (by omega) (by omega)
    obtain ⟨p, hp, hp2⟩ := h.rg.2.2.2.2.1
    have hp1 : μ (1, j, 0) 9 = nI p := (h.lc 0 9 10 rfl (by omega)).trans hp2
    obtain ⟨r, hr, h1, h2, hu⟩ := h.at hp
    obtain ⟨sc, s1, s2, s3⟩ := h.tn 16 0 2 (by decide) rfl rfl
    have s3 : μ' (2, 0, 1) 43 = nI sc := s3
    have s4 : μ (1, j, 1) 16 = nI sc := (h.term (by decide)).trans s3
    have hne : ¬ nI n = 0 := nI_ne0 (by omega) (by omega)
    have step : ∀ (ν ν' : Mm), R n q w z 6 j b ν ν' → FC j μ ν → FM 0 μ' ν' → FT μ' ν' → ν (1, j, 0) 6 = μ (1, j, 0) 6 → ν' (2, 0, 1) 6 = μ' (2, 0, 1) 6 → ν' (2, 0, 1) 36 = nI M → ν' (2, 0, 1) 10 = nI p →
        ∃ (μ1 μ1' : Mm), run L S F (d + 1) 43 28 [some (vR (1, j, 0)), some (vI (nI (k + 1)))] (mset (mset ν (1, j, 0) 9 (nI ((p + 1) % n))) (1, j, 24) 6 (ν' (2, 0, 1) 19 + 1)) = some (0, μ1) ∧ run L S F (d + 1) 156 2 [some (vR (2, 0, 0)), some (vI (nI (k + 1))), none] (mset (mset ν' (2, 0, 1) 10 (nI ((p + 1) % n))) (2, 0, 1) 19 (ν' (2, 0, 1) 19 + 1)) = some (0, mset μ1' (2, 0, 1) 6 (μ1' (2, 0, 1) 6 - 1)) ∧ R n q w z 6 j b μ1 μ1' ∧ FC j μ μ1 ∧ FM 0 μ' μ1' ∧ μ1 (1, j, 0) 6 = μ (1, j, 0) 6 ∧ μ1' (2, 0, 1) 6 = μ' (2, 0, 1) 6 ∧ FT μ' μ1' := by
      intro ν ν' hR hC hM1 hT1 a1 a2 a3 a4
      have hmod : (p + 1) % n < n := Nat.mod_lt _ (by omega)
      have hR2 : R n q w z 6 j b (mset (mset ν (1, j, 0) 9 (nI ((p + 1) % n))) (1, j, 24) 6 (ν' (2, 0, 1) 19 + 1)) (mset (mset ν' (2, 0, 1) 10 (nI ((p + 1) % n))) (2, 0, 1) 19 (ν' (2, 0, 1) 19 + 1)) :=
        (hR.w0 (k := 9) (i := 10) rfl (by omega) (fun _ => ⟨_, hmod, rfl⟩) (fun x => absurd x (by omega))).w1 (o := 24) (k := 6) (i := 19) rfl (by decide) (by unfold spM; omega) (by omega)
      obtain ⟨μ1, μ1', c1, c2, c3, c4, c5, c6, c7, c8⟩ := ih (k + 1) F _ _ (by omega) hF' hR2 (by simp only [mset_g]; rw [if_neg (by omega), if_neg (by omega)]; exact a3) hM
      refine ⟨μ1, μ1', c1, c2, c3, (hC.set.set).tr c4, ((hM1.set (by omega)).set (by omega)).tr c5, ?_, ?_, ((hT1.set (by omega) (by omega)).set (by omega) (by omega)).tr c8⟩
      · rw [c6]
        simp only [mset_g]
        rw [if_neg (by omega), if_neg (by omega)]
        exact a1
      · rw [c7]
        simp only [mset_g]
        rw [if_neg (by omega), if_neg (by omega)]
        exact a2
    rw [e43_28, e156_2]
    simp only [t9, h36, if_pos hlt, hp1, hp2, inb_n (show p < 16 by omega) (by decide), cond_true, nI_clamp (show p < 2 ^ 31 by omega), h1, s4, s_rowAt (show 18 ≤ F by omega) hN.2.2.2 hr h2 hu, Option.bind_some, s3, nI_1]
    by_cases c0 : sc = 0
    · subst c0
      rw [if_pos (show nI 0 < 1 by decide), if_neg (show ¬ 0 < nI 0 by decide)]
      simp only [c_refr0 (show 1 ≤ F by omega) (show 1 ≤ d by omega) (show r < 16 by omega), m_refr0 (show 1 ≤ F by omega) (show 1 ≤ d by omega) (show r < 16 by omega), Option.bind_some]
      have hR := h.refr0 hr
      have g10 : mset μ' (2, 0, 1) (60 + r) 0 (2, 0, 1) 10 = nI p := by
        simp only [mset_g]; rw [if_neg (by omega)]; exact hp2
      have g10c : mset μ (1, j, 5) r 0 (1, j, 0) 9 = nI p := by
        simp only [mset_g]; rw [if_neg (by omega)]; exact hp1
      have g0 : mset μ' (2, 0, 1) (60 + r) 0 (2, 0, 1) 0 = nI n := hR.hn.2.1
      have g0c : mset μ (1, j, 5) r 0 (1, j, 2) 0 = nI n := hR.hn.1
      have g6 : mset μ (1, j, 5) r 0 (1, j, 24) 6 = mset μ' (2, 0, 1) (60 + r) 0 (2, 0, 1) 19 := hR.lc 24 6 19 rfl (by omega)
      have w6 : ∀ v : Int32, mset (mset μ (1, j, 5) r 0) (1, j, 0) 9 v (1, j, 24) 6 = mset μ' (2, 0, 1) (60 + r) 0 (2, 0, 1) 19 := fun v => by
        rw [mset_g, if_neg (by omega)]; exact g6
      have w19 : ∀ v : Int32, mset (mset μ' (2, 0, 1) (60 + r) 0) (2, 0, 1) 10 v (2, 0, 1) 19 = mset μ' (2, 0, 1) (60 + r) 0 (2, 0, 1) 19 := fun v => by
        rw [mset_g, if_neg (by omega)]
      simp only [g10, g10c, g0, g0c, mmax1 (show 1 ≤ n by omega) (show n < 2 ^ 31 by omega), if_neg hne, nI_1, pk_rem (show p + 1 < 2 ^ 31 by omega) (show 0 < n by omega) (show n < 2 ^ 31 by omega), w6, w19]
      exact step _ _ hR FC.rf.set (FM.rf.set0 (by omega)) (FT.rf.set (by omega) (by omega)) (by simp only [mset_g]; rw [if_neg (by omega)]) (by simp only [mset_g]; rw [if_neg (by omega)]) (by simp only [mset_g]; rw [if_neg (by omega)]; exact h36) g10
    · rw [if_neg (show ¬ nI sc < 1 from nI_nlt (a := sc) (b := 1) (by omega) (by omega)), if_pos (show 0 < nI sc from nI_lt (a := 0) (by omega) (by omega))]
      obtain ⟨ν, ν', b1, b2, hR, hC, hM2, hS2, hO2⟩ := p_refrS (L := L) (S := S) (F := F) (d := d) (by omega) (by omega) h hr (a := 1) (by decide)
      simp only [b1, b2, m_refr0 (show 1 ≤ F by omega) (show 1 ≤ d by omega) (show r < 16 by omega), Option.bind_some]
      have sp : ∀ i, spM i → mset ν' (2, 0, 1) (60 + r) 0 (2, 0, 1) i = μ' (2, 0, 1) i := fun i hi => by
        rw [mset_g, if_neg (by unfold spM at hi; omega)]
        exact hS2 i hi
      have g10 : mset ν' (2, 0, 1) (60 + r) 0 (2, 0, 1) 10 = nI p := (sp 10 (by unfold spM; omega)).trans hp2
      have g10c : ν (1, j, 0) 9 = nI p := (hO2 0 9 (by omega)).trans hp1
      have g0 : mset ν' (2, 0, 1) (60 + r) 0 (2, 0, 1) 0 = nI n := hR.hn.2.1
      have g0c : ν (1, j, 2) 0 = nI n := hR.hn.1
      have g6 : ν (1, j, 24) 6 = mset ν' (2, 0, 1) (60 + r) 0 (2, 0, 1) 19 := hR.lc 24 6 19 rfl (by omega)
      have w6 : ∀ v : Int32, mset ν (1, j, 0) 9 v (1, j, 24) 6 = mset ν' (2, 0, 1) (60 + r) 0 (2, 0, 1) 19 := fun v => by
        rw [mset_g, if_neg (by omega)]; exact g6
      have w19 : ∀ v : Int32, mset (mset ν' (2, 0, 1) (60 + r) 0) (2, 0, 1) 10 v (2, 0, 1) 19 = mset ν' (2, 0, 1) (60 + r) 0 (2, 0, 1) 19 := fun v => by
        rw [mset_g, if_neg (by omega)]
      simp only [g10, g10c, g0, g0c, mmax1 (show 1 ≤ n by omega) (show n < 2 ^ 31 by omega), if_neg hne, nI_1, pk_rem (show p + 1 < 2 ^ 31 by omega) (show 0 < n by omega) (show n < 2 ^ 31 by omega), w6, w19]
      exact step _ _ hR hC (hM2.set0 (by omega)) ⟨sp 1 (by unfold spM; omega), sp 11 (by unfold spM; omega), sp 15 (by unfold spM; omega)⟩ (hO2 0 6 (by omega)) (sp 6 (by unfold spM; omega)) ((sp 36 (by unfold spM; omega)).trans h36) g10
end SC
