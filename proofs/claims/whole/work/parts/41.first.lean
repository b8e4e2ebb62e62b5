/-! the first request; a tick's end; what comes round */ -/
section FO
variable {L : Nat} {S : Ad → Nat → Int32} {F d n q w e M : Nat} {z z1 : Int32} {j j1 : Fin 15} {b : Bool} {μ μ' μ1 μ1' : Mm}
def isF (μ' : Mm) (k : Nat) : Bool := !decide (μ' (2, 0, 1) 29 = 5) || decide (μ' (2, 0, 1) (108 + Int32.toNatClampNeg (μ' (2, 0, 1) (228 + k))) < μ' (2, 0, 1) 31)
theorem s_first_go (h : R n q w z 1000 j b μ μ') : ∀ (m k F : Nat), k + m = w → m + 1 ≤ F → run L S F d 41 2 [some (vR (1, j, 0)), some (vI (nI k)), none] μ = some (fnd (isF μ') m k, μ) := by
  have hN := h.hn
  have hw := h.wt.2.1
  have c18 := h.w5 rfl
  have cg : μ (1, j, 1) 2 = μ' (2, 0, 1) 29 := h.term (by decide)
  have cst : μ (1, j, 1) 4 = μ' (2, 0, 1) 31 := h.term (by decide)
  intro m
  induction m with
  | zero =>
    intro k F hk hF
    obtain ⟨F, rfl, hF'⟩ := fz hF
    rw [e41_2, c18, if_neg (nI_nlt (by omega) (by omega))]
    rfl
  | succ m ih =>
    intro k F hk hF
    obtain ⟨F, rfl, hF'⟩ := fz hF
    obtain ⟨x1, x2, r, hr, x3⟩ := h.wt.2.2 k (by omega)
    have c15 : μ (1, j, 15) r = μ' (2, 0, 1) (108 + r) := h.lc 15 r (108 + r) (by simp [loc, show r < 16 by omega]) (by omega)
    rw [e41_2, c18, if_pos (nI_lt (by omega) (by omega)), fnd_s]
    simp only [cg, cst, inb_n (show k < 99 by omega) (by decide), cond_true, nI_clamp (show k < 2 ^ 31 by omega), x1, x3, inb_n (show r < 16 by omega) (by decide), nI_clamp (show r < 2 ^ 31 by omega), c15, nI_1, ih (k + 1) F (by omega) hF']
    unfold isF
    rw [x3, nI_clamp (show r < 2 ^ 31 by omega)]
    by_cases c : μ' (2, 0, 1) 29 = 5
    · by_cases c2 : μ' (2, 0, 1) (108 + r) < μ' (2, 0, 1) 31
      · simp [c, c2]
      · simp [c, c2]
    · simp [c]
theorem s_first (h : R n q w z 1000 j b μ μ') (hF : 102 ≤ F) : run L S F d 41 0 [some (vR (1, j, 0)), none, none] μ = some (fnd (isF μ') w 0, μ) := by
  have hw := h.wt.2.1
  obtain ⟨F, rfl, hF'⟩ := fz hF
  rw [e41_0]
  exact s_first_go h w 0 F (by omega) (by omega)
theorem m_first_go (h : R n q w z 1000 j b μ μ') : ∀ (m k F : Nat), k + m = w → m + 1 ≤ F → run L S F d 158 2 [some (vR (2, 0, 0)), some (vI (nI k))] μ' = some (fnd (isF μ') m k, μ') := by
  have hN := h.hn
  have hw := h.wt.2.1
  have c5 := h.wt.1
  intro m
  induction m with
  | zero =>
    intro k F hk hF
    obtain ⟨F, rfl, hF'⟩ := fz hF
    rw [e158_2]
    simp only [c5]
    rw [if_neg (nI_nlt (by omega) (by omega))]
    rfl
  | succ m ih =>
    intro k F hk hF
    obtain ⟨F, rfl, hF'⟩ := fz hF
    obtain ⟨x1, x2, r, hr, x3⟩ := h.wt.2.2 k (by omega)
    rw [e158_2]
    simp only [c5]
    rw [if_pos (nI_lt (by omega) (by omega)), fnd_s]
    simp only [a228, inb_n (show 228 + k < 1278 by omega) (by decide), cond_true, nI_clamp (show 228 + k < 2 ^ 31 by omega), x3, a108, inb_n (show 108 + r < 1278 by omega) (by decide), nI_clamp (show 108 + r < 2 ^ 31 by omega), nI_1, ih (k + 1) F (by omega) hF']
    unfold isF
    rw [x3, nI_clamp (show r < 2 ^ 31 by omega)]
    by_cases c : μ' (2, 0, 1) 29 = 5
    · by_cases c2 : μ' (2, 0, 1) (108 + r) < μ' (2, 0, 1) 31
      · simp [c, c2]
      · simp [c, c2]
    · simp [c]
theorem m_first (h : R n q w z 1000 j b μ μ') (hF : 102 ≤ F) : run L S F d 158 0 [some (vR (2, 0, 0)), none] μ' = some (fnd (isF μ') w 0, μ') := by
  have hw := h.wt.2.1
  obtain ⟨F, rfl, hF'⟩ := fz hF
  rw [e158_0]
  exact m_first_go h w 0 F (by omega) (by omega)
theorem R.w8 {v : Int32} (h : R n q w z 1000 j b μ μ') (hv : 0 ≤ v.toInt ∧ v.toInt ≤ 9) (hs : (∃ k, k < 3 ∧ μ' (2, 0, 1) 9 = nI k) ∨ v = 0) : R n q w z 1000 j b (mset μ (1, j, 0) 8 v) (mset μ' (2, 0, 1) 8 v) := by
  have hN := h.hn
  have hL := h.1.1.set (v := v) hN.2.2.2 (o := 0) (k := 8) (i := 8) rfl
  refine ⟨⟨hL, Or.inr (Or.inr rfl)⟩, h.wt.keep (fun o k x => mset_go (by clear hs; omega)) (fun i hi => mset_gk (by clear hs; omega)), h.qu.keep hN.2.2.2 (fun o k x => mset_go (by clear hs; omega)) (fun i hi => mset_gk (by clear hs; omega)), h.pm.keep (fun o k x => mset_go (by clear hs; omega)), ?_, h.rg.set (Or.inl ⟨by decide, by decide⟩) (fun x => absurd x (by decide)) (fun _ => hv) (fun x => absurd x (by decide)) (fun x => absurd x (by decide)), h.se.set (by decide), ?_, fun hb => ?_⟩
  · have hso := h.so
    unfold SoR at hso ⊢
    rw [mset_gk (by decide), mset_gk (by decide), mset_gg, mset_gk (by decide)]
    refine ⟨hso.1, ?_⟩
    rcases hso.2 with ⟨x1, x2, x3⟩ | x
    · rcases hs with ⟨k, k1, k2⟩ | y
      · rw [x1] at k2
        exact absurd k2.symm (nI_m1 (by omega))
      · exact Or.inl ⟨x1, x2, y⟩
    · exact Or.inr x
  · rw [mset_gk (by decide), mset_go (by decide)]; exact h.hz
  · rw [mset_go (by decide), mset_ne (by decide)]; exact h.pk hb
theorem R.wtm {v : Int32} (h : R n q w z 1000 j b μ μ') : R n q w z 1000 j b (mset μ (1, j, 0) 5 v) (mset μ' (2, 0, 1) 1 v) := by
  have hN := h.hn
  have hL := h.1.1.set (v := v) hN.2.2.2 (o := 0) (k := 5) (i := 1) rfl
  refine ⟨⟨hL, Or.inr (Or.inr rfl)⟩, h.wt.keep (fun o k x => mset_go (by omega)) (fun i hi => mset_gk (by omega)), h.qu.keep hN.2.2.2 (fun o k x => mset_go (by omega)) (fun i hi => mset_gk (by omega)), h.pm.keep (fun o k x => mset_go (by omega)), h.so.keep (mset_gk (by decide)) (fun i hi => mset_gk (by omega)), h.rg.keep (fun i hi => mset_gk (by omega)), h.se.keep (fun i hi => mset_gk (by omega)), ?_, fun hb => ?_⟩
  · rw [mset_gk (by decide), mset_go (by decide)]; exact h.hz
  · rw [mset_go (by decide), mset_ne (by decide)]; exact h.pk hb
/-- the end of a tick -/
def TailM (ν : Mm) : Option Rz :=
  if 0 < ν (2, 0, 1) 8 then
    bif inb (22 + ν (2, 0, 1) 7) 1278 then
      bif inb (22 + ν (2, 0, 1) 7) 1278 then
        let μ9 : Mm := mset ν (2, 0, 1) (Int32.toNatClampNeg (22 + ν (2, 0, 1) 7)) (ν (2, 0, 1) (Int32.toNatClampNeg (22 + ν (2, 0, 1) 7)) + 1)
        let μ11 : Mm := mset μ9 (2, 0, 1) 8 (μ9 (2, 0, 1) 8 - 1)
        some (0, mset μ11 (2, 0, 1) 1 (μ11 (2, 0, 1) 1 + 1))
      else none
    else none
  else
    let μ4 : Mm := mset ν (2, 0, 1) 25 (ν (2, 0, 1) 25 + 1)
    some (0, mset μ4 (2, 0, 1) 1 (μ4 (2, 0, 1) 1 + 1))
theorem a22 (r : Nat) : (22 : Int32) + nI r = nI (22 + r) := by rw [← nI_add]; rfl
theorem p_tail (h : R n q w z 1000 j b μ μ') : ∃ (μ1 μ1' : Mm), (∀ F d, 1 ≤ F → 1 ≤ d → run L S F d 39 74 [some (vR (1, j, 0)), none] μ = some (0, μ1)) ∧ TailM μ' = some (0, μ1') ∧ R n q w z 1000 j b μ1 μ1' ∧ FC j μ μ1 ∧ FM 0 μ' μ1' ∧ μ1' (2, 0, 1) 1 = μ' (2, 0, 1) 1 + 1 ∧ μ1' (2, 0, 1) 11 = μ' (2, 0, 1) 11 ∧ μ1' (2, 0, 1) 15 = μ' (2, 0, 1) 15 := by
  have hN := h.hn
  have c8 : μ (1, j, 0) 8 = μ' (2, 0, 1) 8 := h.lc 0 8 8 rfl (by omega)
  have ctm := h.tm
  by_cases c : 0 < μ' (2, 0, 1) 8
  · obtain ⟨so1, so2⟩ := h.so
    rcases so2 with ⟨_, _, x⟩ | ⟨k, k1, k2, k3⟩
    · rw [x] at c
      exact absurd c (by decide)
    · have c23 : μ (1, j, 23) k = μ' (2, 0, 1) (22 + k) := h.lc 23 k (22 + k) (by simp [loc, show k < 4 by omega]) (by omega)
      have c7 : μ' (2, 0, 1) 7 = nI k := so1.trans k2
      obtain ⟨b1, b2⟩ := h.rg.2.2.2.2.2.1
      have hv : (μ' (2, 0, 1) 8 - 1).toInt = (μ' (2, 0, 1) 8).toInt - 1 := by
        have e1 : (1 : Int32).toInt = 1 := rfl
        rw [Kit.i32_sub (by rw [e1]; omega) (by rw [e1]; omega), e1]
      have cp := Int32.lt_iff_toInt_lt.mp c
      have z0 : (0 : Int32).toInt = 0 := rfl
      have h1 := h.w1 (o := 23) (k := k) (i := 22 + k) (v := μ' (2, 0, 1) (22 + k) + 1) (by simp [loc, show k < 4 by omega]) (by decide) (by unfold spM; omega) (by omega)
      have h2 := (h1.w8 (v := μ' (2, 0, 1) 8 - 1) (by rw [hv]; omega) (Or.inl ⟨k, k1, by rw [mset_gk (by omega)]; exact k2⟩)).wtm (v := μ' (2, 0, 1) 1 + 1)
      refine ⟨_, _, fun F d hF hd => ?_, ?_, h2, FC.rf.set.set.set, ((FM.rf.set (by omega)).set (by omega)).set (by omega), mset_gg, ?_, ?_⟩
      · obtain ⟨F, rfl, hF'⟩ := fz hF
        obtain ⟨d, rfl, hd'⟩ := fz hd
        rw [e39_74]
        simp only [c8, if_pos c, k3, inb_n (show k < 4 by omega) (by decide), cond_true, nI_clamp (show k < 2 ^ 31 by omega), c23, mset_go (show (0 : Nat) ≠ 23 by decide), mset_gk (show (5 : Nat) ≠ 8 by decide), ctm]
      · unfold TailM
        simp only [if_pos c, c7, a22, inb_n (show 22 + k < 1278 by omega) (by decide), cond_true, nI_clamp (show 22 + k < 2 ^ 31 by omega), mset_gk (show 8 ≠ 22 + k by omega), mset_gk (show 1 ≠ 22 + k by omega), mset_gk (show (1 : Nat) ≠ 8 by decide)]
      · rw [mset_gk (by omega), mset_gk (by omega), mset_gk (by omega)]
      · rw [mset_gk (by omega), mset_gk (by omega), mset_gk (by omega)]
  · have c23 : μ (1, j, 23) 3 = μ' (2, 0, 1) 25 := h.lc 23 3 25 rfl (by omega)
    have h2 := (h.w1 (o := 23) (k := 3) (i := 25) (v := μ' (2, 0, 1) 25 + 1) rfl (by decide) (by unfold spM; omega) (by omega)).wtm (v := μ' (2, 0, 1) 1 + 1)
    refine ⟨_, _, fun F d hF hd => ?_, ?_, h2, FC.rf.set.set, (FM.rf.set (by omega)).set (by omega), mset_gg, ?_, ?_⟩
    · obtain ⟨F, rfl, hF'⟩ := fz hF
      obtain ⟨d, rfl, hd'⟩ := fz hd
      rw [e39_74]
      simp only [c8, if_neg c, c23, mset_go (show (0 : Nat) ≠ 23 by decide), ctm]
    · unfold TailM
      simp only [if_neg c, mset_gk (show (1 : Nat) ≠ 25 by decide)]
    · rw [mset_gk (by omega), mset_gk (by omega)]
    · rw [mset_gk (by omega), mset_gk (by omega)]
end FO
