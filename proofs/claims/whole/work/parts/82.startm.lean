/-! the reference, when nothing else is made: laid with so many rows -/
def LYM (q : Ad) : Nat × Nat := match q.1 with
  | 2 => match q.2.1.val with
    | 0 => lay2 q.2.2
    | _ => (999, 0)
  | _ => LY0 q
def WLM : List Ad := (List.range 11).map (fun o => (2, 0, o))
def runM (S : Ad → Nat → Int32) (F d k pc : Nat) (l : Lc) (μ : Mm) : Option Rz := DF CODE (LYM, S) F d k pc l μ
set_option maxHeartbeats 4000000 in
set_option maxRecDepth 100000 in
theorem e128_0M {S : Ad → Nat → Int32} {F d : Nat} {μ : Mm} {a1 : Int32} : runM S (F + 1) (d + 1) 128 0 [some (vR (2, 0, 0)), some (vI a1), none] μ =
    runM S F (d + 1) 128 2 [some (vR (2, 0, 0)), some (vI a1), some (vI 0)] μ := by
  unfold runM
  rw [DF_succ]
  rfl

set_option maxHeartbeats 4000000 in
set_option maxRecDepth 100000 in
theorem e128_2M {S : Ad → Nat → Int32} {F d : Nat} {μ : Mm} {a1 : Int32} {x_2 : Int32} : runM S (F + 1) (d + 1) 128 2 [some (vR (2, 0, 0)), some (vI a1), some (vI x_2)] μ =
    if x_2 < 426 then
      if x_2 < 27 then
        bif inb x_2 1278 then
          let μ5 : Mm := mset μ (2, 0, 1) (Int32.toNatClampNeg x_2) 0
          runM S F (d + 1) 128 2 [some (vR (2, 0, 0)), some (vI a1), some (vI (x_2 + 1))] μ5
        else none
      else
        if x_2 < 44 then
          runM S F (d + 1) 128 2 [some (vR (2, 0, 0)), some (vI a1), some (vI (x_2 + 1))] μ
        else
          bif inb x_2 1278 then
            let μ6 : Mm := mset μ (2, 0, 1) (Int32.toNatClampNeg x_2) 0
            runM S F (d + 1) 128 2 [some (vR (2, 0, 0)), some (vI a1), some (vI (x_2 + 1))] μ6
          else none
    else
      let μ1 : Mm := mset μ (2, 0, 1) 0 a1
      let μ2 : Mm := mset μ1 (2, 0, 1) 2 17
      let μ3 : Mm := mset μ2 (2, 0, 1) 7 (-1)
      let μ4 : Mm := mset μ3 (2, 0, 1) 9 (-1)
      runM S F (d + 1) 128 67 [some (vR (2, 0, 0)), some (vI a1), some (vI 0)] μ4 := by
  unfold runM
  rw [DF_succ]
  rfl

set_option maxHeartbeats 4000000 in
set_option maxRecDepth 100000 in
theorem e128_67M {S : Ad → Nat → Int32} {F d : Nat} {μ : Mm} {a1 : Int32} {x_2 : Int32} : runM S (F + 1) (d + 1) 128 67 [some (vR (2, 0, 0)), some (vI a1), some (vI x_2)] μ =
    if x_2 < a1 then
      bif inb (44 + x_2) 1278 then
        let μ2 : Mm := mset μ (2, 0, 1) (Int32.toNatClampNeg (44 + x_2)) x_2
        bif inb (156 + x_2) 1278 then
          let μ3 : Mm := mset μ2 (2, 0, 1) (Int32.toNatClampNeg (156 + x_2)) ((1 : Int32) <<< ((x_2 - x_2 / 8 * 8) &&& 31))
          runM S F (d + 1) 128 67 [some (vR (2, 0, 0)), some (vI a1), some (vI (x_2 + 1))] μ3
        else none
      else none
    else
      (runM S F d 140 0 [some (vR (2, 0, 0)), none] μ).bind fun p1 =>
      some (0, p1.2) := by
  unfold runM
  rw [DF_succ]
  rfl

set_option maxHeartbeats 4000000 in
set_option maxRecDepth 100000 in
theorem e140_0M {S : Ad → Nat → Int32} {F d : Nat} {μ : Mm} : runM S (F + 1) d 140 0 [some (vR (2, 0, 0)), none] μ =
    let μ1 : Mm := mset μ (2, 0, 1) 3 0
    let μ2 : Mm := mset μ1 (2, 0, 1) 11 0
    runM S F d 140 17 [some (vR (2, 0, 0)), some (vI 0)] μ2 := by
  unfold runM
  rw [DF_succ]
  rfl

set_option maxHeartbeats 4000000 in
set_option maxRecDepth 100000 in
theorem e140_17M {S : Ad → Nat → Int32} {F d : Nat} {μ : Mm} {x_1 : Int32} : runM S (F + 1) d 140 17 [some (vR (2, 0, 0)), some (vI x_1)] μ =
    if x_1 < 16 then
      bif inb (108 + x_1) 1278 then
        let μ1 : Mm := mset μ (2, 0, 1) (Int32.toNatClampNeg (108 + x_1)) 0
        runM S F d 140 17 [some (vR (2, 0, 0)), some (vI (x_1 + 1))] μ1
      else none
    else
      runM S F d 140 41 [some (vR (2, 0, 0)), some (vI 0)] μ := by
  unfold runM
  rw [DF_succ]
  rfl

set_option maxHeartbeats 4000000 in
set_option maxRecDepth 100000 in
theorem e140_41M {S : Ad → Nat → Int32} {F d : Nat} {μ : Mm} {x_1 : Int32} : runM S (F + 1) d 140 41 [some (vR (2, 0, 0)), some (vI x_1)] μ =
    if x_1 < 8 then
      bif inb (172 + x_1) 1278 then
        let μ1 : Mm := mset μ (2, 0, 1) (Int32.toNatClampNeg (172 + x_1)) (-1)
        bif inb (180 + x_1) 1278 then
          let μ2 : Mm := mset μ1 (2, 0, 1) (Int32.toNatClampNeg (180 + x_1)) 0
          bif inb (188 + x_1) 1278 then
            let μ3 : Mm := mset μ2 (2, 0, 1) (Int32.toNatClampNeg (188 + x_1)) 0
            bif inb (196 + x_1) 1278 then
              let μ4 : Mm := mset μ3 (2, 0, 1) (Int32.toNatClampNeg (196 + x_1)) 0
              bif inb (204 + x_1) 1278 then
                let μ5 : Mm := mset μ4 (2, 0, 1) (Int32.toNatClampNeg (204 + x_1)) 0
                runM S F d 140 41 [some (vR (2, 0, 0)), some (vI (x_1 + 1))] μ5
              else none
            else none
          else none
        else none
      else none
    else
      some (0, μ) := by
  unfold runM
  rw [DF_succ]
  rfl

section SM
variable {S : Ad → Nat → Int32} {F d n : Nat} {μ μ' : Mm}
theorem m_emp41_goM : ∀ (m k F : Nat) (μ : Mm), k + m = 8 → m + 1 ≤ F → runM S F d 140 41 [some (vR (2, 0, 0)), some (vI (nI k))] μ = some (0, fl5 μ k) := by
  intro m
  induction m with
  | zero =>
    intro k F μ hk hF
    obtain ⟨F, rfl, hF'⟩ := fz hF
    have hk : k = 8 := by omega
    subst hk
    rw [e140_41M, if_neg (by decide)]
    congr 2
    funext q i
    unfold fl5
    rw [if_neg (by omega), if_neg (by omega)]
  | succ m ih =>
    intro k F μ hk hF
    obtain ⟨F, rfl, hF'⟩ := fz hF
    rw [e140_41M, if_pos (show nI k < 8 from nI_lt (b := 8) (by omega) (by decide))]
    simp only [a172, a180, a188, a196, a204, inb_n (show 172 + k < 1278 by omega) (by decide), inb_n (show 180 + k < 1278 by omega) (by decide), inb_n (show 188 + k < 1278 by omega) (by decide), inb_n (show 196 + k < 1278 by omega) (by decide), inb_n (show 204 + k < 1278 by omega) (by decide), cond_true, nI_clamp (show 172 + k < 2 ^ 31 by omega), nI_clamp (show 180 + k < 2 ^ 31 by omega), nI_clamp (show 188 + k < 2 ^ 31 by omega), nI_clamp (show 196 + k < 2 ^ 31 by omega), nI_clamp (show 204 + k < 2 ^ 31 by omega), nI_1]
    rw [ih (k + 1) F _ (by omega) hF', fl5_step (by omega)]

theorem m_emp17_goM : ∀ (m k F : Nat) (μ : Mm), k + m = 16 → m + 10 ≤ F → runM S F d 140 17 [some (vR (2, 0, 0)), some (vI (nI k))] μ = some (0, fl5 (filk μ (2, 0, 1) 0 (108 + k) 124) 0) := by
  intro m
  induction m with
  | zero =>
    intro k F μ hk hF
    obtain ⟨F, rfl, hF'⟩ := fz (show 9 + 1 ≤ F by omega)
    have hk : k = 16 := by omega
    subst hk
    rw [e140_17M, if_neg (by decide), filk_id]
    exact m_emp41_goM 8 0 F μ (by omega) (by omega)
  | succ m ih =>
    intro k F μ hk hF
    obtain ⟨F, rfl, hF'⟩ := fz (show (m + 10) + 1 ≤ F by omega)
    rw [e140_17M, if_pos (show nI k < 16 from nI_lt (b := 16) (by omega) (by decide))]
    simp only [a108, inb_n (show 108 + k < 1278 by omega) (by decide), cond_true, nI_clamp (show 108 + k < 2 ^ 31 by omega), nI_1]
    rw [ih (k + 1) F _ (by omega) hF', show 108 + (k + 1) = 108 + k + 1 by omega, filk_step (by omega)]

theorem m_emptiesM (hF : 27 ≤ F) : runM S F d 140 0 [some (vR (2, 0, 0)), none] μ' = some (0, empM μ') := by
  obtain ⟨F, rfl, hF'⟩ := fz hF
  rw [e140_0M]
  exact m_emp17_goM 16 0 F _ (by omega) (by omega)

theorem m_w_goM (hn : n ≤ 16) : ∀ (m k : Nat) (μ : Mm), k + m = n → Ev (fun F => runM S F (d + 1) 128 67 [some (vR (2, 0, 0)), some (vI (nI n)), some (vI (nI k))] μ) (0, empM (wM k n μ)) := by
  intro m
  induction m with
  | zero =>
    intro k μ hk
    have hk : k = n := by omega
    subst hk
    refine Ev.step ?_
    simp only [e128_67M, if_neg (nI_nlt (Nat.le_refl k) (show k < 2 ^ 31 by omega)), wM_end]
    exact Ev.bind (Ev.at 27 (fun F hF => m_emptiesM hF)) Ev.ret
  | succ m ih =>
    intro k μ hk
    have r8 : nI k - nI k / 8 * 8 = nI (k % 8) := pk_rem (d := 8) (by omega) (by decide) (by decide)
    refine Ev.step ?_
    simp only [e128_67M, if_pos (nI_lt (show k < n by omega) (show n < 2 ^ 31 by omega)), a44, a156, inb_n (show 44 + k < 1278 by omega) (by decide), inb_n (show 156 + k < 1278 by omega) (by decide), cond_true, nI_clamp (show 44 + k < 2 ^ 31 by omega), nI_clamp (show 156 + k < 2 ^ 31 by omega), r8, nI_1]
    have := ih (k + 1) (mset (mset μ (2, 0, 1) (44 + k) (nI k)) (2, 0, 1) (156 + k) ((1 : Int32) <<< (nI (k % 8) &&& 31))) (by omega)
    rw [wM_s (by omega) hn] at this
    exact this

theorem m_z_goM (hn : n ≤ 16) : ∀ (m k : Nat) (μ : Mm), k + m = 426 → Ev (fun F => runM S F (d + 1) 128 2 [some (vR (2, 0, 0)), some (vI (nI n)), some (vI (nI k))] μ) (0, empM (wM 0 n (mset (mset (mset (mset (zM k μ) (2, 0, 1) 0 (nI n)) (2, 0, 1) 2 17) (2, 0, 1) 7 (-1)) (2, 0, 1) 9 (-1)))) := by
  intro m
  induction m with
  | zero =>
    intro k μ hk
    have hk : k = 426 := by omega
    subst hk
    refine Ev.step ?_
    simp only [e128_2M, if_neg (show ¬ nI 426 < (426 : Int32) by decide), zM_end]
    exact m_w_goM hn n 0 _ (by omega)
  | succ m ih =>
    intro k μ hk
    refine Ev.step ?_
    simp only [e128_2M, if_pos (show nI k < (426 : Int32) from nI_lt (b := 426) (by omega) (by decide)), inb_n (show k < 1278 by omega) (by decide), cond_true, nI_clamp (show k < 2 ^ 31 by omega), nI_1]
    by_cases c : k < 27
    · have := ih (k + 1) (mset μ (2, 0, 1) k 0) (by omega)
      rw [zM_s (by omega) (Or.inl c)] at this
      simp only [if_pos (show nI k < (27 : Int32) from nI_lt (b := 27) c (by decide))]
      exact this
    · by_cases c2 : k < 44
      · have := ih (k + 1) μ (by omega)
        rw [zM_n (by omega)] at this
        simp only [if_neg (show ¬ nI k < (27 : Int32) from nI_nlt (b := 27) (by omega) (by omega)), if_pos (show nI k < (44 : Int32) from nI_lt (b := 44) c2 (by decide))]
        exact this
      · have := ih (k + 1) (mset μ (2, 0, 1) k 0) (by omega)
        rw [zM_s (by omega) (by omega)] at this
        simp only [if_neg (show ¬ nI k < (27 : Int32) from nI_nlt (b := 27) (by omega) (by omega)), if_neg (show ¬ nI k < (44 : Int32) from nI_nlt (b := 44) (by omega) (by omega))]
        exact this

theorem m_laysM (hn : n ≤ 16) : Ev (fun F => runM S F (d + 1) 128 0 [some (vR (2, 0, 0)), some (vI (nI n)), none] μ') (0, rstM n μ') := by
  refine Ev.step ?_
  simp only [e128_0M]
  exact m_z_goM hn 426 0 μ' (by omega)

end SM
