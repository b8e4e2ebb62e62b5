/-! emptying: the guard of both sides, what was opened *lately* -/
def filk (μ : Mm) (a : Ad) (v : Int32) (k m : Nat) : Mm := fun q i => if q = a ∧ k ≤ i ∧ i < m then v else μ q i
theorem filk_id {μ : Mm} {a : Ad} {v : Int32} {k : Nat} : filk μ a v k k = μ := by
  funext q i
  unfold filk
  rw [if_neg (by omega)]
theorem filk_step {μ : Mm} {a : Ad} {v : Int32} {k m : Nat} (h : k < m) : filk (mset μ a k v) a v (k + 1) m = filk μ a v k m := by
  funext q i
  unfold filk mset
  by_cases c : q = a
  · subst c
    by_cases c1 : i = k
    · subst c1
      rw [if_neg (by omega), if_pos ⟨rfl, rfl⟩, if_pos ⟨rfl, by omega⟩]
    · by_cases c2 : k + 1 ≤ i ∧ i < m
      · rw [if_pos ⟨rfl, c2⟩, if_pos ⟨rfl, by omega⟩]
      · rw [if_neg (fun x => c2 x.2), if_neg (fun x => c1 x.2)]
        exact (if_neg (by omega)).symm
  · rw [if_neg (fun x => c x.1), if_neg (fun x => c x.1)]
    exact (if_neg (fun x => c x.1)).symm
theorem filk_ne {μ : Mm} {a q : Ad} {v : Int32} {k m i : Nat} (h : q ≠ a) : filk μ a v k m q i = μ q i := by
  unfold filk
  rw [if_neg (fun x => h x.1)]
theorem filk_out {μ : Mm} {a q : Ad} {v : Int32} {k m i : Nat} (h : i < k ∨ m ≤ i) : filk μ a v k m q i = μ q i := by
  unfold filk
  rw [if_neg (by omega)]
theorem filk_in {μ : Mm} {a : Ad} {v : Int32} {k m i : Nat} (h : k ≤ i ∧ i < m) : filk μ a v k m a i = v := by
  unfold filk
  rw [if_pos ⟨rfl, h⟩]
section FI
variable {L : Nat} {S : Ad → Nat → Int32} {F d n q w e M : Nat} {z z1 : Int32} {j j1 : Fin 15} {b : Bool} {μ μ' μ1 μ1' : Mm}
theorem s_fill5_go {v : Int32} : ∀ (m k F : Nat) (μ : Mm), k + m = 16 → m + 1 ≤ F → run L S F d 1 5 [some (vR (1, j, 5)), some (vI v), some (vI (nI k)), some (vI (Int32.ofNat 16))] μ = some (0, filk μ (1, j, 5) v k 16) := by
  intro m
  induction m with
  | zero =>
    intro k F μ hk hF
    obtain ⟨F, rfl, hF'⟩ := fz hF
    have hk : k = 16 := by omega
    subst hk
    rw [e1_5_5, if_neg (show ¬ nI 16 < Int32.ofNat 16 from nI_nlt (a := 16) (b := 16) (Nat.le_refl _) (by decide)), filk_id]
  | succ m ih =>
    intro k F μ hk hF
    obtain ⟨F, rfl, hF'⟩ := fz hF
    rw [e1_5_5, if_pos (show nI k < Int32.ofNat 16 from nI_lt (a := k) (b := 16) (by omega) (by decide))]
    simp only [inb_n (show k < 16 by omega) (by decide), cond_true, nI_clamp (show k < 2 ^ 31 by omega), nI_1]
    rw [ih (k + 1) F _ (by omega) hF', filk_step (by omega)]
theorem s_fill5 (hF : 18 ≤ F) {v : Int32} : run L S F d 1 0 [some (vR (1, j, 5)), some (vI v), none, none] μ = some (0, filk μ (1, j, 5) v 0 16) := by
  obtain ⟨F, rfl, hF'⟩ := fz hF
  rw [e1_0_5]
  exact s_fill5_go 16 0 F μ (by omega) (by omega)
theorem s_fill6_go {v : Int32} : ∀ (m k F : Nat) (μ : Mm), k + m = 16 → m + 1 ≤ F → run L S F d 1 5 [some (vR (1, j, 6)), some (vI v), some (vI (nI k)), some (vI (Int32.ofNat 16))] μ = some (0, filk μ (1, j, 6) v k 16) := by
  intro m
  induction m with
  | zero =>
    intro k F μ hk hF
    obtain ⟨F, rfl, hF'⟩ := fz hF
    have hk : k = 16 := by omega
    subst hk
    rw [e1_5_6, if_neg (show ¬ nI 16 < Int32.ofNat 16 from nI_nlt (a := 16) (b := 16) (Nat.le_refl _) (by decide)), filk_id]
  | succ m ih =>
    intro k F μ hk hF
    obtain ⟨F, rfl, hF'⟩ := fz hF
    rw [e1_5_6, if_pos (show nI k < Int32.ofNat 16 from nI_lt (a := k) (b := 16) (by omega) (by decide))]
    simp only [inb_n (show k < 16 by omega) (by decide), cond_true, nI_clamp (show k < 2 ^ 31 by omega), nI_1]
    rw [ih (k + 1) F _ (by omega) hF', filk_step (by omega)]
theorem s_fill6 (hF : 18 ≤ F) {v : Int32} : run L S F d 1 0 [some (vR (1, j, 6)), some (vI v), none, none] μ = some (0, filk μ (1, j, 6) v 0 16) := by
  obtain ⟨F, rfl, hF'⟩ := fz hF
  rw [e1_0_6]
  exact s_fill6_go 16 0 F μ (by omega) (by omega)
theorem s_fill7_go {v : Int32} : ∀ (m k F : Nat) (μ : Mm), k + m = 16 → m + 1 ≤ F → run L S F d 1 5 [some (vR (1, j, 7)), some (vI v), some (vI (nI k)), some (vI (Int32.ofNat 16))] μ = some (0, filk μ (1, j, 7) v k 16) := by
  intro m
  induction m with
  | zero =>
    intro k F μ hk hF
    obtain ⟨F, rfl, hF'⟩ := fz hF
    have hk : k = 16 := by omega
    subst hk
    rw [e1_5_7, if_neg (show ¬ nI 16 < Int32.ofNat 16 from nI_nlt (a := 16) (b := 16) (Nat.le_refl _) (by decide)), filk_id]
  | succ m ih =>
    intro k F μ hk hF
    obtain ⟨F, rfl, hF'⟩ := fz hF
    rw [e1_5_7, if_pos (show nI k < Int32.ofNat 16 from nI_lt (a := k) (b := 16) (by omega) (by decide))]
    simp only [inb_n (show k < 16 by omega) (by decide), cond_true, nI_clamp (show k < 2 ^ 31 by omega), nI_1]
    rw [ih (k + 1) F _ (by omega) hF', filk_step (by omega)]
theorem s_fill7 (hF : 18 ≤ F) {v : Int32} : run L S F d 1 0 [some (vR (1, j, 7)), some (vI v), none, none] μ = some (0, filk μ (1, j, 7) v 0 16) := by
  obtain ⟨F, rfl, hF'⟩ := fz hF
  rw [e1_0_7]
  exact s_fill7_go 16 0 F μ (by omega) (by omega)
theorem s_fill8_go {v : Int32} : ∀ (m k F : Nat) (μ : Mm), k + m = 16 → m + 1 ≤ F → run L S F d 1 5 [some (vR (1, j, 8)), some (vI v), some (vI (nI k)), some (vI (Int32.ofNat 16))] μ = some (0, filk μ (1, j, 8) v k 16) := by
  intro m
  induction m with
  | zero =>
    intro k F μ hk hF
    obtain ⟨F, rfl, hF'⟩ := fz hF
    have hk : k = 16 := by omega
    subst hk
    rw [e1_5_8, if_neg (show ¬ nI 16 < Int32.ofNat 16 from nI_nlt (a := 16) (b := 16) (Nat.le_refl _) (by decide)), filk_id]
  | succ m ih =>
    intro k F μ hk hF
    obtain ⟨F, rfl, hF'⟩ := fz hF
    rw [e1_5_8, if_pos (show nI k < Int32.ofNat 16 from nI_lt (a := k) (b := 16) (by omega) (by decide))]
    simp only [inb_n (show k < 16 by omega) (by decide), cond_true, nI_clamp (show k < 2 ^ 31 by omega), nI_1]
    rw [ih (k + 1) F _ (by omega) hF', filk_step (by omega)]
theorem s_fill8 (hF : 18 ≤ F) {v : Int32} : run L S F d 1 0 [some (vR (1, j, 8)), some (vI v), none, none] μ = some (0, filk μ (1, j, 8) v 0 16) := by
  obtain ⟨F, rfl, hF'⟩ := fz hF
  rw [e1_0_8]
  exact s_fill8_go 16 0 F μ (by omega) (by omega)
theorem s_fill9_go {v : Int32} : ∀ (m k F : Nat) (μ : Mm), k + m = 16 → m + 1 ≤ F → run L S F d 1 5 [some (vR (1, j, 9)), some (vI v), some (vI (nI k)), some (vI (Int32.ofNat 16))] μ = some (0, filk μ (1, j, 9) v k 16) := by
  intro m
  induction m with
  | zero =>
    intro k F μ hk hF
    obtain ⟨F, rfl, hF'⟩ := fz hF
    have hk : k = 16 := by omega
    subst hk
    rw [e1_5_9, if_neg (show ¬ nI 16 < Int32.ofNat 16 from nI_nlt (a := 16) (b := 16) (Nat.le_refl _) (by decide)), filk_id]
  | succ m ih =>
    intro k F μ hk hF
    obtain ⟨F, rfl, hF'⟩ := fz hF
    rw [e1_5_9, if_pos (show nI k < Int32.ofNat 16 from nI_lt (a := k) (b := 16) (by omega) (by decide))]
    simp only [inb_n (show k < 16 by omega) (by decide), cond_true, nI_clamp (show k < 2 ^ 31 by omega), nI_1]
    rw [ih (k + 1) F _ (by omega) hF', filk_step (by omega)]
theorem s_fill9 (hF : 18 ≤ F) {v : Int32} : run L S F d 1 0 [some (vR (1, j, 9)), some (vI v), none, none] μ = some (0, filk μ (1, j, 9) v 0 16) := by
  obtain ⟨F, rfl, hF'⟩ := fz hF
  rw [e1_0_9]
  exact s_fill9_go 16 0 F μ (by omega) (by omega)
theorem s_fill12_go {v : Int32} : ∀ (m k F : Nat) (μ : Mm), k + m = 8 → m + 1 ≤ F → run L S F d 1 5 [some (vR (1, j, 12)), some (vI v), some (vI (nI k)), some (vI (Int32.ofNat 8))] μ = some (0, filk μ (1, j, 12) v k 8) := by
  intro m
  induction m with
  | zero =>
    intro k F μ hk hF
    obtain ⟨F, rfl, hF'⟩ := fz hF
    have hk : k = 8 := by omega
    subst hk
    rw [e1_5_12, if_neg (show ¬ nI 8 < Int32.ofNat 8 from nI_nlt (a := 8) (b := 8) (Nat.le_refl _) (by decide)), filk_id]
  | succ m ih =>
    intro k F μ hk hF
    obtain ⟨F, rfl, hF'⟩ := fz hF
    rw [e1_5_12, if_pos (show nI k < Int32.ofNat 8 from nI_lt (a := k) (b := 8) (by omega) (by decide))]
    simp only [inb_n (show k < 8 by omega) (by decide), cond_true, nI_clamp (show k < 2 ^ 31 by omega), nI_1]
    rw [ih (k + 1) F _ (by omega) hF', filk_step (by omega)]
theorem s_fill12 (hF : 10 ≤ F) {v : Int32} : run L S F d 1 0 [some (vR (1, j, 12)), some (vI v), none, none] μ = some (0, filk μ (1, j, 12) v 0 8) := by
  obtain ⟨F, rfl, hF'⟩ := fz hF
  rw [e1_0_12]
  exact s_fill12_go 8 0 F μ (by omega) (by omega)
theorem s_fill13_go {v : Int32} : ∀ (m k F : Nat) (μ : Mm), k + m = 8 → m + 1 ≤ F → run L S F d 1 5 [some (vR (1, j, 13)), some (vI v), some (vI (nI k)), some (vI (Int32.ofNat 8))] μ = some (0, filk μ (1, j, 13) v k 8) := by
  intro m
  induction m with
  | zero =>
    intro k F μ hk hF
    obtain ⟨F, rfl, hF'⟩ := fz hF
    have hk : k = 8 := by omega
    subst hk
    rw [e1_5_13, if_neg (show ¬ nI 8 < Int32.ofNat 8 from nI_nlt (a := 8) (b := 8) (Nat.le_refl _) (by decide)), filk_id]
  | succ m ih =>
    intro k F μ hk hF
    obtain ⟨F, rfl, hF'⟩ := fz hF
    rw [e1_5_13, if_pos (show nI k < Int32.ofNat 8 from nI_lt (a := k) (b := 8) (by omega) (by decide))]
    simp only [inb_n (show k < 8 by omega) (by decide), cond_true, nI_clamp (show k < 2 ^ 31 by omega), nI_1]
    rw [ih (k + 1) F _ (by omega) hF', filk_step (by omega)]
theorem s_fill13 (hF : 10 ≤ F) {v : Int32} : run L S F d 1 0 [some (vR (1, j, 13)), some (vI v), none, none] μ = some (0, filk μ (1, j, 13) v 0 8) := by
  obtain ⟨F, rfl, hF'⟩ := fz hF
  rw [e1_0_13]
  exact s_fill13_go 8 0 F μ (by omega) (by omega)
theorem s_fill14_go {v : Int32} : ∀ (m k F : Nat) (μ : Mm), k + m = 8 → m + 1 ≤ F → run L S F d 1 5 [some (vR (1, j, 14)), some (vI v), some (vI (nI k)), some (vI (Int32.ofNat 8))] μ = some (0, filk μ (1, j, 14) v k 8) := by
  intro m
  induction m with
  | zero =>
    intro k F μ hk hF
    obtain ⟨F, rfl, hF'⟩ := fz hF
    have hk : k = 8 := by omega
    subst hk
    rw [e1_5_14, if_neg (show ¬ nI 8 < Int32.ofNat 8 from nI_nlt (a := 8) (b := 8) (Nat.le_refl _) (by decide)), filk_id]
  | succ m ih =>
    intro k F μ hk hF
    obtain ⟨F, rfl, hF'⟩ := fz hF
    rw [e1_5_14, if_pos (show nI k < Int32.ofNat 8 from nI_lt (a := k) (b := 8) (by omega) (by decide))]
    simp only [inb_n (show k < 8 by omega) (by decide), cond_true, nI_clamp (show k < 2 ^ 31 by omega), nI_1]
    rw [ih (k + 1) F _ (by omega) hF', filk_step (by omega)]
theorem s_fill14 (hF : 10 ≤ F) {v : Int32} : run L S F d 1 0 [some (vR (1, j, 14)), some (vI v), none, none] μ = some (0, filk μ (1, j, 14) v 0 8) := by
  obtain ⟨F, rfl, hF'⟩ := fz hF
  rw [e1_0_14]
  exact s_fill14_go 8 0 F μ (by omega) (by omega)
theorem s_fill15_go {v : Int32} : ∀ (m k F : Nat) (μ : Mm), k + m = 16 → m + 1 ≤ F → run L S F d 1 5 [some (vR (1, j, 15)), some (vI v), some (vI (nI k)), some (vI (Int32.ofNat 16))] μ = some (0, filk μ (1, j, 15) v k 16) := by
  intro m
  induction m with
  | zero =>
    intro k F μ hk hF
    obtain ⟨F, rfl, hF'⟩ := fz hF
    have hk : k = 16 := by omega
    subst hk
    rw [e1_5_15, if_neg (show ¬ nI 16 < Int32.ofNat 16 from nI_nlt (a := 16) (b := 16) (Nat.le_refl _) (by decide)), filk_id]
  | succ m ih =>
    intro k F μ hk hF
    obtain ⟨F, rfl, hF'⟩ := fz hF
    rw [e1_5_15, if_pos (show nI k < Int32.ofNat 16 from nI_lt (a := k) (b := 16) (by omega) (by decide))]
    simp only [inb_n (show k < 16 by omega) (by decide), cond_true, nI_clamp (show k < 2 ^ 31 by omega), nI_1]
    rw [ih (k + 1) F _ (by omega) hF', filk_step (by omega)]
theorem s_fill15 (hF : 18 ≤ F) {v : Int32} : run L S F d 1 0 [some (vR (1, j, 15)), some (vI v), none, none] μ = some (0, filk μ (1, j, 15) v 0 16) := by
  obtain ⟨F, rfl, hF'⟩ := fz hF
  rw [e1_0_15]
  exact s_fill15_go 16 0 F μ (by omega) (by omega)
theorem s_fill16_go {v : Int32} : ∀ (m k F : Nat) (μ : Mm), k + m = 8 → m + 1 ≤ F → run L S F d 1 5 [some (vR (1, j, 16)), some (vI v), some (vI (nI k)), some (vI (Int32.ofNat 8))] μ = some (0, filk μ (1, j, 16) v k 8) := by
  intro m
  induction m with
  | zero =>
    intro k F μ hk hF
    obtain ⟨F, rfl, hF'⟩ := fz hF
    have hk : k = 8 := by omega
    subst hk
    rw [e1_5_16, if_neg (show ¬ nI 8 < Int32.ofNat 8 from nI_nlt (a := 8) (b := 8) (Nat.le_refl _) (by decide)), filk_id]
  | succ m ih =>
    intro k F μ hk hF
    obtain ⟨F, rfl, hF'⟩ := fz hF
    rw [e1_5_16, if_pos (show nI k < Int32.ofNat 8 from nI_lt (a := k) (b := 8) (by omega) (by decide))]
    simp only [inb_n (show k < 8 by omega) (by decide), cond_true, nI_clamp (show k < 2 ^ 31 by omega), nI_1]
    rw [ih (k + 1) F _ (by omega) hF', filk_step (by omega)]
theorem s_fill16 (hF : 10 ≤ F) {v : Int32} : run L S F d 1 0 [some (vR (1, j, 16)), some (vI v), none, none] μ = some (0, filk μ (1, j, 16) v 0 8) := by
  obtain ⟨F, rfl, hF'⟩ := fz hF
  rw [e1_0_16]
  exact s_fill16_go 8 0 F μ (by omega) (by omega)
theorem s_fill17_go {v : Int32} : ∀ (m k F : Nat) (μ : Mm), k + m = 8 → m + 1 ≤ F → run L S F d 1 5 [some (vR (1, j, 17)), some (vI v), some (vI (nI k)), some (vI (Int32.ofNat 8))] μ = some (0, filk μ (1, j, 17) v k 8) := by
  intro m
  induction m with
  | zero =>
    intro k F μ hk hF
    obtain ⟨F, rfl, hF'⟩ := fz hF
    have hk : k = 8 := by omega
    subst hk
    rw [e1_5_17, if_neg (show ¬ nI 8 < Int32.ofNat 8 from nI_nlt (a := 8) (b := 8) (Nat.le_refl _) (by decide)), filk_id]
  | succ m ih =>
    intro k F μ hk hF
    obtain ⟨F, rfl, hF'⟩ := fz hF
    rw [e1_5_17, if_pos (show nI k < Int32.ofNat 8 from nI_lt (a := k) (b := 8) (by omega) (by decide))]
    simp only [inb_n (show k < 8 by omega) (by decide), cond_true, nI_clamp (show k < 2 ^ 31 by omega), nI_1]
    rw [ih (k + 1) F _ (by omega) hF', filk_step (by omega)]
theorem s_fill17 (hF : 10 ≤ F) {v : Int32} : run L S F d 1 0 [some (vR (1, j, 17)), some (vI v), none, none] μ = some (0, filk μ (1, j, 17) v 0 8) := by
  obtain ⟨F, rfl, hF'⟩ := fz hF
  rw [e1_0_17]
  exact s_fill17_go 8 0 F μ (by omega) (by omega)
theorem s_fill23_go {v : Int32} : ∀ (m k F : Nat) (μ : Mm), k + m = 4 → m + 1 ≤ F → run L S F d 1 5 [some (vR (1, j, 23)), some (vI v), some (vI (nI k)), some (vI (Int32.ofNat 4))] μ = some (0, filk μ (1, j, 23) v k 4) := by
  intro m
  induction m with
  | zero =>
    intro k F μ hk hF
    obtain ⟨F, rfl, hF'⟩ := fz hF
    have hk : k = 4 := by omega
    subst hk
    rw [e1_5_23, if_neg (show ¬ nI 4 < Int32.ofNat 4 from nI_nlt (a := 4) (b := 4) (Nat.le_refl _) (by decide)), filk_id]
  | succ m ih =>
    intro k F μ hk hF
    obtain ⟨F, rfl, hF'⟩ := fz hF
    rw [e1_5_23, if_pos (show nI k < Int32.ofNat 4 from nI_lt (a := k) (b := 4) (by omega) (by decide))]
    simp only [inb_n (show k < 4 by omega) (by decide), cond_true, nI_clamp (show k < 2 ^ 31 by omega), nI_1]
    rw [ih (k + 1) F _ (by omega) hF', filk_step (by omega)]
theorem s_fill23 (hF : 6 ≤ F) {v : Int32} : run L S F d 1 0 [some (vR (1, j, 23)), some (vI v), none, none] μ = some (0, filk μ (1, j, 23) v 0 4) := by
  obtain ⟨F, rfl, hF'⟩ := fz hF
  rw [e1_0_23]
  exact s_fill23_go 4 0 F μ (by omega) (by omega)
theorem s_fill24_go {v : Int32} : ∀ (m k F : Nat) (μ : Mm), k + m = 9 → m + 1 ≤ F → run L S F d 1 5 [some (vR (1, j, 24)), some (vI v), some (vI (nI k)), some (vI (Int32.ofNat 9))] μ = some (0, filk μ (1, j, 24) v k 9) := by
  intro m
  induction m with
  | zero =>
    intro k F μ hk hF
    obtain ⟨F, rfl, hF'⟩ := fz hF
    have hk : k = 9 := by omega
    subst hk
    rw [e1_5_24, if_neg (show ¬ nI 9 < Int32.ofNat 9 from nI_nlt (a := 9) (b := 9) (Nat.le_refl _) (by decide)), filk_id]
  | succ m ih =>
    intro k F μ hk hF
    obtain ⟨F, rfl, hF'⟩ := fz hF
    rw [e1_5_24, if_pos (show nI k < Int32.ofNat 9 from nI_lt (a := k) (b := 9) (by omega) (by decide))]
    simp only [inb_n (show k < 9 by omega) (by decide), cond_true, nI_clamp (show k < 2 ^ 31 by omega), nI_1]
    rw [ih (k + 1) F _ (by omega) hF', filk_step (by omega)]
theorem s_fill24 (hF : 11 ≤ F) {v : Int32} : run L S F d 1 0 [some (vR (1, j, 24)), some (vI v), none, none] μ = some (0, filk μ (1, j, 24) v 0 9) := by
  obtain ⟨F, rfl, hF'⟩ := fz hF
  rw [e1_0_24]
  exact s_fill24_go 9 0 F μ (by omega) (by omega)
/-- the class's guard emptied -/
def empC (j : Fin 15) (μ : Mm) : Mm := filk (filk (filk (filk (filk (filk (mset (mset μ (1, j, 11) 0 0) (1, j, 11) 1 0) (1, j, 12) (-1) 0 8) (1, j, 13) 0 0 8) (1, j, 14) 0 0 8) (1, j, 15) 0 0 16) (1, j, 16) 0 0 8) (1, j, 17) 0 0 8
theorem s_empty (hF : 19 ≤ F) (hd : 1 ≤ d) : run L S F d 13 0 [some (vR (1, j, 11))] μ = some (0, empC j μ) := by
  obtain ⟨F, rfl, hF'⟩ := fz hF
  obtain ⟨d, rfl, hd'⟩ := fz hd
  rw [e13_0]
  simp only [s_fill12 (show 10 ≤ F by omega), s_fill13 (show 10 ≤ F by omega), s_fill14 (show 10 ≤ F by omega), s_fill15 (show 18 ≤ F by omega), s_fill16 (show 10 ≤ F by omega), s_fill17 (show 10 ≤ F by omega), Option.bind_some]
  rfl
theorem empC_o {o k : Nat} (h : o < 11 ∨ 18 ≤ o) : empC j μ (1, j, o) k = μ (1, j, o) k := by
  unfold empC
  rw [filk_ne (by simp; omega), filk_ne (by simp; omega), filk_ne (by simp; omega), filk_ne (by simp; omega), filk_ne (by simp; omega), filk_ne (by simp; omega), mset_go (by omega), mset_go (by omega)]
theorem empC_q {q : Ad} (h : ¬ (q.1 = 1 ∧ q.2.1 = j)) : empC j μ q = μ q := by
  funext i
  have hq : ∀ o, q ≠ (1, j, o) := fun o x => h (by rw [x]; exact ⟨rfl, rfl⟩)
  unfold empC
  rw [filk_ne (hq _), filk_ne (hq _), filk_ne (hq _), filk_ne (hq _), filk_ne (hq _), filk_ne (hq _), mset_ne (hq _), mset_ne (hq _)]
theorem empC_11 {k : Nat} : empC j μ (1, j, 11) k = if k < 2 then 0 else μ (1, j, 11) k := by
  unfold empC
  rw [filk_ne (by simp), filk_ne (by simp), filk_ne (by simp), filk_ne (by simp), filk_ne (by simp), filk_ne (by simp)]
  simp only [mset_g, true_and]
  by_cases c : k = 1
  · subst c; rfl
  · by_cases c0 : k = 0
    · subst c0; rfl
    · rw [if_neg c, if_neg c0, if_neg (by omega)]
theorem empC_12 {k : Nat} (h : k < 8) : empC j μ (1, j, 12) k = -1 := by
  unfold empC
  rw [filk_ne (by simp), filk_ne (by simp), filk_ne (by simp), filk_ne (by simp), filk_ne (by simp), filk_in (by omega)]
theorem empC_13 {k : Nat} (h : k < 8) : empC j μ (1, j, 13) k = 0 := by
  unfold empC
  rw [filk_ne (by simp), filk_ne (by simp), filk_ne (by simp), filk_ne (by simp), filk_in (by omega)]
theorem empC_14 {k : Nat} (h : k < 8) : empC j μ (1, j, 14) k = 0 := by
  unfold empC
  rw [filk_ne (by simp), filk_ne (by simp), filk_ne (by simp), filk_in (by omega)]
theorem empC_15 {k : Nat} (h : k < 16) : empC j μ (1, j, 15) k = 0 := by
  unfold empC
  rw [filk_ne (by simp), filk_ne (by simp), filk_in (by omega)]
theorem empC_16 {k : Nat} (h : k < 8) : empC j μ (1, j, 16) k = 0 := by
  unfold empC
  rw [filk_ne (by simp), filk_in (by omega)]
theorem empC_17 {k : Nat} (h : k < 8) : empC j μ (1, j, 17) k = 0 := by
  unfold empC
  rw [filk_in (by omega)]
/-- the reference's -/
def fl5 (μ : Mm) (k : Nat) : Mm := fun q i => if q = (2, 0, 1) ∧ (172 + k ≤ i ∧ i < 180) then -1 else if q = (2, 0, 1) ∧ ((180 + k ≤ i ∧ i < 188) ∨ (188 + k ≤ i ∧ i < 196) ∨ (196 + k ≤ i ∧ i < 204) ∨ (204 + k ≤ i ∧ i < 212)) then 0 else μ q i
theorem fl5_step {k : Nat} (h : k < 8) : fl5 (mset (mset (mset (mset (mset μ (2, 0, 1) (172 + k) (-1)) (2, 0, 1) (180 + k) 0) (2, 0, 1) (188 + k) 0) (2, 0, 1) (196 + k) 0) (2, 0, 1) (204 + k) 0) (k + 1) = fl5 μ k := by
  funext q i
  unfold fl5
  by_cases c : q = (2, 0, 1)
  · subst c
    simp only [mset_g, true_and]
    by_cases c0 : i = 172 + k
    · rw [if_neg (by omega), if_neg (by omega), if_neg (by omega), if_neg (by omega), if_neg (by omega), if_neg (by omega), if_pos c0]
      exact (if_pos (by omega)).symm
    · by_cases c1 : 172 + (k + 1) ≤ i ∧ i < 180
      · rw [if_pos c1]
        exact (if_pos (by omega)).symm
      · rw [if_neg c1]
        by_cases c2 : (180 + k ≤ i ∧ i < 188) ∨ (188 + k ≤ i ∧ i < 196) ∨ (196 + k ≤ i ∧ i < 204) ∨ (204 + k ≤ i ∧ i < 212)
        · have e : (if 172 + k ≤ i ∧ i < 180 then (-1 : Int32) else if (180 + k ≤ i ∧ i < 188) ∨ (188 + k ≤ i ∧ i < 196) ∨ (196 + k ≤ i ∧ i < 204) ∨ (204 + k ≤ i ∧ i < 212) then 0 else μ (2, 0, 1) i) = 0 := by
            rw [if_neg (by omega), if_pos c2]
          refine Eq.trans ?_ e.symm
          by_cases d4 : i = 204 + k
          · rw [if_neg (by omega), if_pos d4]
          · by_cases d3 : i = 196 + k
            · rw [if_neg (by omega), if_neg d4, if_pos d3]
            · by_cases d2 : i = 188 + k
              · rw [if_neg (by omega), if_neg d4, if_neg d3, if_pos d2]
              · by_cases d1 : i = 180 + k
                · rw [if_neg (by omega), if_neg d4, if_neg d3, if_neg d2, if_pos d1]
                · rw [if_pos (by omega)]
        · rw [if_neg (by omega), if_neg (by omega), if_neg (by omega), if_neg (by omega), if_neg (by omega), if_neg c0]
          exact ((if_neg (by omega)).trans (if_neg c2)).symm
  · rw [if_neg (fun x => c x.1), if_neg (fun x => c x.1), mset_ne c, mset_ne c, mset_ne c, mset_ne c, mset_ne c]
    exact ((if_neg (fun x => c x.1)).trans (if_neg (fun x => c x.1))).symm
theorem m_emp41_go : ∀ (m k F : Nat) (μ : Mm), k + m = 8 → m + 1 ≤ F → run L S F d 140 41 [some (vR (2, 0, 0)), some (vI (nI k))] μ = some (0, fl5 μ k) := by
  intro m
  induction m with
  | zero =>
    intro k F μ hk hF
    obtain ⟨F, rfl, hF'⟩ := fz hF
    have hk : k = 8 := by omega
    subst hk
    rw [e140_41, if_neg (by decide)]
    congr 2
    funext q i
    unfold fl5
    rw [if_neg (by omega), if_neg (by omega)]
  | succ m ih =>
    intro k F μ hk hF
    obtain ⟨F, rfl, hF'⟩ := fz hF
    rw [e140_41, if_pos (show nI k < 8 from nI_lt (b := 8) (by omega) (by decide))]
    simp only [a172, a180, a188, a196, a204, inb_n (show 172 + k < 1278 by omega) (by decide), inb_n (show 180 + k < 1278 by omega) (by decide), inb_n (show 188 + k < 1278 by omega) (by decide), inb_n (show 196 + k < 1278 by omega) (by decide), inb_n (show 204 + k < 1278 by omega) (by decide), cond_true, nI_clamp (show 172 + k < 2 ^ 31 by omega), nI_clamp (show 180 + k < 2 ^ 31 by omega), nI_clamp (show 188 + k < 2 ^ 31 by omega), nI_clamp (show 196 + k < 2 ^ 31 by omega), nI_clamp (show 204 + k < 2 ^ 31 by omega), nI_1]
    rw [ih (k + 1) F _ (by omega) hF', fl5_step (by omega)]
theorem m_emp17_go : ∀ (m k F : Nat) (μ : Mm), k + m = 16 → m + 10 ≤ F → run L S F d 140 17 [some (vR (2, 0, 0)), some (vI (nI k))] μ = some (0, fl5 (filk μ (2, 0, 1) 0 (108 + k) 124) 0) := by
  intro m
  induction m with
  | zero =>
    intro k F μ hk hF
    obtain ⟨F, rfl, hF'⟩ := fz (show 9 + 1 ≤ F by omega)
    have hk : k = 16 := by omega
    subst hk
    rw [e140_17, if_neg (by decide), filk_id]
    exact m_emp41_go 8 0 F μ (by omega) (by omega)
  | succ m ih =>
    intro k F μ hk hF
    obtain ⟨F, rfl, hF'⟩ := fz (show (m + 10) + 1 ≤ F by omega)
    rw [e140_17, if_pos (show nI k < 16 from nI_lt (b := 16) (by omega) (by decide))]
    simp only [a108, inb_n (show 108 + k < 1278 by omega) (by decide), cond_true, nI_clamp (show 108 + k < 2 ^ 31 by omega), nI_1]
    rw [ih (k + 1) F _ (by omega) hF', show 108 + (k + 1) = 108 + k + 1 by omega, filk_step (by omega)]
def empM (μ : Mm) : Mm := fl5 (filk (mset (mset μ (2, 0, 1) 3 0) (2, 0, 1) 11 0) (2, 0, 1) 0 108 124) 0
theorem m_empties (hF : 27 ≤ F) : run L S F d 140 0 [some (vR (2, 0, 0)), none] μ' = some (0, empM μ') := by
  obtain ⟨F, rfl, hF'⟩ := fz hF
  rw [e140_0]
  exact m_emp17_go 16 0 F _ (by omega) (by omega)
theorem empM_o {i : Nat} (h : i ≠ 3 ∧ i ≠ 11 ∧ (i < 108 ∨ 124 ≤ i) ∧ (i < 172 ∨ 212 ≤ i)) : empM μ' (2, 0, 1) i = μ' (2, 0, 1) i := by
  unfold empM fl5
  rw [if_neg (by omega), if_neg (by omega), filk_out (by omega), mset_gk (by omega), mset_gk (by omega)]
theorem empM_q {q : Ad} (h : q ≠ (2, 0, 1)) : empM μ' q = μ' q := by
  funext i
  unfold empM fl5
  rw [if_neg (fun x => h x.1), if_neg (fun x => h x.1), filk_ne h, mset_ne h, mset_ne h]
theorem empM_0 {i : Nat} (h : i = 3 ∨ i = 11 ∨ (108 ≤ i ∧ i < 124) ∨ (180 ≤ i ∧ i < 212)) : empM μ' (2, 0, 1) i = 0 := by
  unfold empM fl5
  rw [if_neg (by omega)]
  by_cases c : 180 ≤ i
  · rw [if_pos ⟨rfl, by omega⟩]
  · rw [if_neg (by omega)]
    by_cases c2 : 108 ≤ i
    · rw [filk_in (by omega)]
    · rw [filk_out (by omega)]
      simp only [mset_g, true_and]
      rcases (show i = 3 ∨ i = 11 by omega) with rfl | rfl <;> rfl
theorem empM_1 {i : Nat} (h : 172 ≤ i ∧ i < 180) : empM μ' (2, 0, 1) i = -1 := by
  unfold empM fl5
  rw [if_pos ⟨rfl, by omega⟩]
set_option maxHeartbeats 4000000 in
theorem LocR.emp (hn : n ≤ 16) (h : LocR n e j μ μ') : LocR n e j (empC j μ) (empM μ') := by
  intro o k i hl hie
  have h0 := h o k i hl hie
  unfold loc at hl
  split at hl <;> (repeat' split at hl) <;> first
    | (cases hl; done)
    | (have e1 := Option.some.inj hl
       subst e1
       first
         | (rw [empC_o (by omega), empM_o (by omega)]; exact h0)
         | (rw [empM_0 (by omega)]
            first
              | (rw [empC_13 (by assumption)]; done)
              | (rw [empC_14 (by assumption)]; done)
              | (rw [empC_15 (by assumption)]; done)
              | (rw [empC_16 (by assumption)]; done)
              | (rw [empC_17 (by assumption)]; done)
              | (rw [empC_11, if_pos (by omega)]; done))
         | (rw [empM_1 (by omega), empC_12 (by assumption)]; done)
         | (rw [empC_11, if_neg (by omega), empM_o (by omega)]; exact h0))
theorem FG.emp : FG μ' (empM μ') := fun i hi => empM_o (by unfold gM at hi; omega)
theorem FC.emp (h : FC j μ μ1) : FC j μ (empC j μ1) := ⟨fun q hq => (empC_q hq).trans (h.1 q hq), (empC_o (by omega)).trans h.2⟩
theorem FM.emp {c : Nat} (h : FM c μ' μ1') : FM c μ' (empM μ1') := ⟨fun q a c => (empM_q a).trans (h.1 q a c), fun i hi => (empM_o (by omega)).trans (h.2.1 i hi), fun k hk => by rw [empM_q (by decide)]; exact h.2.2.1 k hk, h.2.2.2.eqv (fun r hr => empM_o (by omega)) (empM_o (by omega)) (congrFun (empM_q (by decide)) 9)⟩
theorem SeR.emp : SeR (empM μ') := fun k hk => Or.inl ⟨empM_1 (by omega), empM_0 (by omega)⟩
theorem R.emp (h : R n q w z 1000 j b μ μ') : R n q w z 1000 j b (empC j μ) (empM μ') := by
  have hN := h.hn
  refine h.gd (h.1.1.emp hN.2.2.2) (fun o k x => empC_o x) FG.emp ?_ (by rw [empM_q (by decide)]) SeR.emp
  rw [empM_o (by omega)]
  exact h.x
end FI
