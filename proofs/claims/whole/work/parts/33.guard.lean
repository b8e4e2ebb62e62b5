/-! the guard: searching its slots, steps, draws -/
def eld (f : Nat → Int32) : Nat → Nat → Nat → Nat
  | 0, b, _ => b
  | m + 1, b, k => if f k < f b then eld f m k (k + 1) else eld f m b (k + 1)
theorem eld_s {f : Nat → Int32} {m b k : Nat} : eld f (m + 1) b k = if f k < f b then eld f m k (k + 1) else eld f m b (k + 1) := rfl
theorem eld_cong {f g : Nat → Int32} : ∀ (m b k : Nat), b < k → (∀ i, i < k + m → f i = g i) → eld f m b k = eld g m b k
  | 0, b, k, hb, h => rfl
  | m + 1, b, k, hb, h => by
    unfold eld
    rw [h k (by omega), h b (by omega), eld_cong m k (k + 1) (by omega) (fun i hi => h i (by omega)), eld_cong m b (k + 1) (by omega) (fun i hi => h i (by omega))]
theorem eld_spec {f : Nat → Int32} : ∀ (m b k : Nat), b < k → (∀ i, i < k → (f b).toInt ≤ (f i).toInt) → (∀ i, i < b → (f b).toInt < (f i).toInt) → eld f m b k < k + m ∧ (∀ i, i < k + m → (f (eld f m b k)).toInt ≤ (f i).toInt) ∧ ∀ i, i < eld f m b k → (f (eld f m b k)).toInt < (f i).toInt
  | 0, b, k, hb, h1, h2 => ⟨hb, h1, h2⟩
  | m + 1, b, k, hb, h1, h2 => by
    unfold eld
    split
    · rename_i c
      have c := Int32.lt_iff_toInt_lt.mp c
      have := eld_spec (f := f) m k (k + 1) (by omega) (fun i hi => by
        by_cases e : i = k
        · rw [e]; omega
        · have := h1 i (by omega); omega) (fun i hi => by have := h1 i hi; omega)
      rw [show k + 1 + m = k + (m + 1) by omega] at this
      exact this
    · rename_i c
      have c : ¬ (f k).toInt < (f b).toInt := fun x => c (Int32.lt_iff_toInt_lt.mpr x)
      have := eld_spec (f := f) m b (k + 1) (by omega) (fun i hi => by
        by_cases e : i = k
        · rw [e]; omega
        · exact h1 i (by omega)) h2
      rw [show k + 1 + m = k + (m + 1) by omega] at this
      exact this
theorem mmin_if {x y : Int32} : mmin x y = if x < y then x else y := by
  unfold mmin
  by_cases h : y < x
  · rw [if_pos h, if_neg (Int32.not_lt.mpr (Int32.le_of_lt h))]
  · rw [if_neg h]
    by_cases h2 : x < y
    · rw [if_pos h2]
    · rw [if_neg h2]
      exact Int32.le_antisymm (Int32.not_lt.mp h) (Int32.not_lt.mp h2)
theorem slots_n {M : Nat} (h1 : 1 ≤ M) (h2 : M ≤ 8) : mmax 1 (mmin 8 (nI M)) = nI M := by
  have : mmin 8 (nI M) = nI M := by
    unfold mmin
    by_cases h : M = 8
    · subst h; rfl
    · rw [if_pos (show nI M < 8 from nI_lt (b := 8) (by omega) (by decide))]
  rw [this, mmax1 h1 (by omega)]
theorem mul3 {r : Nat} : (3 : Int32) * nI r + 1 = nI (3 * r + 1) := by
  rw [← nI_1]
  congr 1
  rw [show (3 : Int32) = nI 3 from rfl, pk_mul]
section GU
variable {L : Nat} {S : Ad → Nat → Int32} {F d n q w e M : Nat} {z z1 : Int32} {j j1 : Fin 15} {b : Bool} {μ μ' μ1 μ1' : Mm}
theorem s_idr_go {x : Int32} (hM : M ≤ 8) : ∀ (m k F : Nat), k + m = M → m + 1 ≤ F → run L S F d 19 3 [none, some (vR (1, j, 12)), some (vI (nI M)), some (vI x), some (vI (nI k))] μ = some (fnd (fun k => decide (μ (1, j, 12) k = x)) m k, μ) := by
  intro m
  induction m with
  | zero =>
    intro k F hk hF
    obtain ⟨F, rfl, hF'⟩ := fz hF
    rw [e19_3_r, if_neg (nI_nlt (by omega) (by omega))]
    rfl
  | succ m ih =>
    intro k F hk hF
    obtain ⟨F, rfl, hF'⟩ := fz hF
    rw [e19_3_r, if_pos (nI_lt (by omega) (by omega))]
    simp only [inb_n (show k < 8 by omega) (by decide), cond_true, nI_clamp (show k < 2 ^ 31 by omega), nI_1, ih (k + 1) F (by omega) hF']
    rw [fnd_s]
    by_cases c : μ (1, j, 12) k = x
    · simp [c]
    · simp [c]
theorem s_idr (hF : 12 ≤ F) {x : Int32} (hM : M ≤ 8) : run L S F d 19 0 [some (vR (1, j, 11)), some (vR (1, j, 12)), some (vI (nI M)), some (vI x), none] μ = some (fnd (fun k => decide (μ (1, j, 12) k = x)) M 0, μ) := by
  obtain ⟨F, rfl, hF'⟩ := fz hF
  rw [e19_0_r]
  exact s_idr_go hM M 0 F (by omega) (by omega)
theorem s_idc_go {x : Int32} (hM : M ≤ 8) : ∀ (m k F : Nat), k + m = M → m + 1 ≤ F → run L S F d 19 3 [none, some (vR (1, j, 13)), some (vI (nI M)), some (vI x), some (vI (nI k))] μ = some (fnd (fun k => decide (μ (1, j, 13) k = x)) m k, μ) := by
  intro m
  induction m with
  | zero =>
    intro k F hk hF
    obtain ⟨F, rfl, hF'⟩ := fz hF
    rw [e19_3_c, if_neg (nI_nlt (by omega) (by omega))]
    rfl
  | succ m ih =>
    intro k F hk hF
    obtain ⟨F, rfl, hF'⟩ := fz hF
    rw [e19_3_c, if_pos (nI_lt (by omega) (by omega))]
    simp only [inb_n (show k < 8 by omega) (by decide), cond_true, nI_clamp (show k < 2 ^ 31 by omega), nI_1, ih (k + 1) F (by omega) hF']
    rw [fnd_s]
    by_cases c : μ (1, j, 13) k = x
    · simp [c]
    · simp [c]
theorem s_idc (hF : 12 ≤ F) {x : Int32} (hM : M ≤ 8) : run L S F d 19 0 [some (vR (1, j, 11)), some (vR (1, j, 13)), some (vI (nI M)), some (vI x), none] μ = some (fnd (fun k => decide (μ (1, j, 13) k = x)) M 0, μ) := by
  obtain ⟨F, rfl, hF'⟩ := fz hF
  rw [e19_0_c]
  exact s_idc_go hM M 0 F (by omega) (by omega)
theorem m_slot_go {x : Int32} (hM : M ≤ 8) (h30 : μ' (2, 0, 1) 30 = nI M) : ∀ (m k F : Nat), k + m = M → m + 1 ≤ F → run L S F d 141 2 [some (vR (2, 0, 0)), some (vI x), some (vI (nI k))] μ' = some (fnd (fun k => decide (μ' (2, 0, 1) (172 + k) = x)) m k, μ') := by
  intro m
  induction m with
  | zero =>
    intro k F hk hF
    obtain ⟨F, rfl, hF'⟩ := fz hF
    rw [e141_2]
    simp only [h30]
    rw [if_neg (nI_nlt (by omega) (by omega))]
    rfl
  | succ m ih =>
    intro k F hk hF
    obtain ⟨F, rfl, hF'⟩ := fz hF
    rw [e141_2]
    simp only [h30]
    rw [if_pos (nI_lt (by omega) (by omega))]
    simp only [a172, inb_n (show 172 + k < 1278 by omega) (by decide), cond_true, nI_clamp (show 172 + k < 2 ^ 31 by omega), nI_1, ih (k + 1) F (by omega) hF']
    rw [fnd_s]
    by_cases c : μ' (2, 0, 1) (172 + k) = x
    · simp [c]
    · simp [c]
theorem m_slot (hF : 12 ≤ F) {x : Int32} (hM : M ≤ 8) (h30 : μ' (2, 0, 1) 30 = nI M) : run L S F d 141 0 [some (vR (2, 0, 0)), some (vI x), none] μ' = some (fnd (fun k => decide (μ' (2, 0, 1) (172 + k) = x)) M 0, μ') := by
  obtain ⟨F, rfl, hF'⟩ := fz hF
  rw [e141_0]
  exact m_slot_go hM h30 M 0 F (by omega) (by omega)
theorem m_slotc_go {x : Int32} (hM : M ≤ 8) (h30 : μ' (2, 0, 1) 30 = nI M) : ∀ (m k F : Nat), k + m = M → m + 1 ≤ F → run L S F d 142 2 [some (vR (2, 0, 0)), some (vI x), some (vI (nI k))] μ' = some (fnd (fun k => decide (μ' (2, 0, 1) (180 + k) = x)) m k, μ') := by
  intro m
  induction m with
  | zero =>
    intro k F hk hF
    obtain ⟨F, rfl, hF'⟩ := fz hF
    rw [e142_2]
    simp only [h30]
    rw [if_neg (nI_nlt (by omega) (by omega))]
    rfl
  | succ m ih =>
    intro k F hk hF
    obtain ⟨F, rfl, hF'⟩ := fz hF
    rw [e142_2]
    simp only [h30]
    rw [if_pos (nI_lt (by omega) (by omega))]
    simp only [a180, inb_n (show 180 + k < 1278 by omega) (by decide), cond_true, nI_clamp (show 180 + k < 2 ^ 31 by omega), nI_1, ih (k + 1) F (by omega) hF']
    rw [fnd_s]
    by_cases c : μ' (2, 0, 1) (180 + k) = x
    · simp [c]
    · simp [c]
theorem m_slotc (hF : 12 ≤ F) {x : Int32} (hM : M ≤ 8) (h30 : μ' (2, 0, 1) 30 = nI M) : run L S F d 142 0 [some (vR (2, 0, 0)), some (vI x), none] μ' = some (fnd (fun k => decide (μ' (2, 0, 1) (180 + k) = x)) M 0, μ') := by
  obtain ⟨F, rfl, hF'⟩ := fz hF
  rw [e142_0]
  exact m_slotc_go hM h30 M 0 F (by omega) (by omega)
theorem s_eld_go (hM : M ≤ 8) : ∀ (m k a F : Nat), k + m = M → a < k → m + 1 ≤ F → run L S F d 24 4 [some (vR (1, j, 11)), some (vI (nI M)), some (vI (nI a)), some (vI (nI k))] μ = some (nI (eld (fun k => μ (1, j, 14) k) m a k), μ) := by
  intro m
  induction m with
  | zero =>
    intro k a F hk ha hF
    obtain ⟨F, rfl, hF'⟩ := fz hF
    rw [e24_4, if_neg (nI_nlt (by omega) (by omega))]
    rfl
  | succ m ih =>
    intro k a F hk ha hF
    obtain ⟨F, rfl, hF'⟩ := fz hF
    rw [e24_4, if_pos (nI_lt (by omega) (by omega))]
    simp only [inb_n (show k < 8 by omega) (by decide), inb_n (show a < 8 by omega) (by decide), cond_true, nI_clamp (show k < 2 ^ 31 by omega), nI_clamp (show a < 2 ^ 31 by omega), nI_1, ih (k + 1) k F (by omega) (by omega) hF', ih (k + 1) a F (by omega) (by omega) hF']
    rw [eld_s]
    split <;> rfl
theorem s_eld (hF : 12 ≤ F) (hM1 : 1 ≤ M) (hM : M ≤ 8) : run L S F d 24 0 [some (vR (1, j, 11)), some (vI (nI M)), none, none] μ = some (nI (eld (fun k => μ (1, j, 14) k) (M - 1) 0 1), μ) := by
  obtain ⟨F, rfl, hF'⟩ := fz hF
  rw [e24_0]
  exact s_eld_go hM (M - 1) 1 0 F (by omega) (by omega) (by omega)
theorem m_eld_go (hM : M ≤ 8) (h30 : μ' (2, 0, 1) 30 = nI M) : ∀ (m k a F : Nat), k + m = M → a < k → m + 1 ≤ F → run L S F d 143 4 [some (vR (2, 0, 0)), some (vI (nI a)), some (vI (nI k))] μ' = some (nI (eld (fun k => μ' (2, 0, 1) (188 + k)) m a k), μ') := by
  intro m
  induction m with
  | zero =>
    intro k a F hk ha hF
    obtain ⟨F, rfl, hF'⟩ := fz hF
    rw [e143_4]
    simp only [h30]
    rw [if_neg (nI_nlt (by omega) (by omega))]
    rfl
  | succ m ih =>
    intro k a F hk ha hF
    obtain ⟨F, rfl, hF'⟩ := fz hF
    rw [e143_4]
    simp only [h30]
    rw [if_pos (nI_lt (by omega) (by omega))]
    simp only [a188, inb_n (show 188 + k < 1278 by omega) (by decide), inb_n (show 188 + a < 1278 by omega) (by decide), cond_true, nI_clamp (show 188 + k < 2 ^ 31 by omega), nI_clamp (show 188 + a < 2 ^ 31 by omega), nI_1, ih (k + 1) k F (by omega) (by omega) hF', ih (k + 1) a F (by omega) (by omega) hF']
    rw [eld_s]
    split <;> rfl
theorem m_eld (hF : 12 ≤ F) (hM1 : 1 ≤ M) (hM : M ≤ 8) (h30 : μ' (2, 0, 1) 30 = nI M) : run L S F d 143 0 [some (vR (2, 0, 0)), none, none] μ' = some (nI (eld (fun k => μ' (2, 0, 1) (188 + k)) (M - 1) 0 1), μ') := by
  obtain ⟨F, rfl, hF'⟩ := fz hF
  rw [e143_0]
  exact m_eld_go hM h30 (M - 1) 1 0 F (by omega) (by omega) (by omega)
def stp (c : Int32) (m : Nat) : Int32 := if 0 < c then (if c - c / nI m * nI m = 0 then 1 else 0) else 0
theorem stp01 {c : Int32} {m : Nat} : stp c m = 0 ∨ stp c m = 1 := by
  unfold stp
  split
  · split
    · exact Or.inr rfl
    · exact Or.inl rfl
  · exact Or.inl rfl
theorem narStp {c : Int32} {m : Nat} : vp_nar .boolean (stp c m) = stp c m := by
  rcases stp01 (c := c) (m := m) with h | h <;> rw [h]
  · exact narB0
  · exact narB1
theorem s_step (hF : 1 ≤ F) {c : Int32} {m : Nat} (hm : 1 ≤ m) (hm2 : m ≤ 99) (h4 : μ (1, j, 1) 4 = nI m) : run L S F d 18 0 [some (vR (1, j, 11)), some (vI c), some (vR (1, j, 1))] μ = some (stp c m, μ) := by
  obtain ⟨F, rfl, hF'⟩ := fz hF
  rw [e18_0]
  simp only [h4, mmax1 hm (show m < 2 ^ 31 by omega), if_neg (nI_ne0 (show 0 < m by omega) (show m < 2 ^ 31 by omega)), narB0, narB1]
  unfold stp
  split
  · split <;> rfl
  · rfl
theorem m_step (hF : 1 ≤ F) (hd : 1 ≤ d) {c : Int32} {m : Nat} (hm : 1 ≤ m) (hm2 : m ≤ 99) (h4 : μ' (2, 0, 1) 31 = nI m) : run L S F d 149 163 [some (vR (2, 0, 0)), none, some (vI c)] μ' = some (stp c m, μ') := by
  obtain ⟨F, rfl, hF'⟩ := fz hF
  obtain ⟨d, rfl, hd'⟩ := fz hd
  rw [e149_163]
  simp only [h4, if_neg (nI_ne0 (show 0 < m by omega) (show m < 2 ^ 31 by omega)), narB0, narB1]
  unfold stp
  split
  · split <;> rfl
  · rfl
/-- what is next of draws -/
def nx (k : Nat) : Nat := (421 * k + 1663) % 7875
theorem nx_lt {k : Nat} : nx k < 7875 := Nat.mod_lt _ (by decide)
theorem drawX {k : Nat} (hk : k < 7875) : ((421 * nI k) + 1663 : Int32) - ((421 * nI k) + 1663) / 7875 * 7875 = nI (nx k) := by
  have e : (421 * nI k : Int32) + 1663 = nI (421 * k + 1663) := by
    rw [show (421 : Int32) = nI 421 from rfl, show (1663 : Int32) = nI 1663 from rfl, pk_mul, ← nI_add]
  rw [e, show (7875 : Int32) = nI 7875 from rfl, pk_rem (by omega) (by omega) (by omega)]
  rfl
theorem s_draw (hF : 1 ≤ F) {k m : Nat} (hm : 1 ≤ m) (hm2 : m ≤ 100) (hk : k < 7875) (hx : μ (1, j, 11) 2 = nI k) : run L S F d 15 0 [some (vR (1, j, 11)), some (vI (nI m)), none] μ = some (nI (k % m), mset μ (1, j, 11) 2 (nI (nx k))) := by
  obtain ⟨F, rfl, hF'⟩ := fz hF
  rw [e15_0]
  simp only [if_pos (show 0 < nI m from nI_lt (a := 0) (by omega) (by omega)), if_neg (nI_ne0 (show 0 < m by omega) (show m < 2 ^ 31 by omega)), hx, drawX hk, pk_rem (show k < 2 ^ 31 by omega) (show 0 < m by omega) (show m < 2 ^ 31 by omega)]
theorem m_draw (hF : 1 ≤ F) {k m : Nat} (hm : 1 ≤ m) (hm2 : m ≤ 100) (hk : k < 7875) (hx : μ' (2, 0, 1) 2 = nI k) : run L S F d 133 0 [some (vR (2, 0, 0)), some (vI (nI m)), none] μ' = some (nI (k % m), mset μ' (2, 0, 1) 2 (nI (nx k))) := by
  obtain ⟨F, rfl, hF'⟩ := fz hF
  rw [e133_0]
  simp only [if_neg (nI_ne0 (show 0 < m by omega) (show m < 2 ^ 31 by omega)), hx, drawX hk, pk_rem (show k < 2 ^ 31 by omega) (show 0 < m by omega) (show m < 2 ^ 31 by omega)]
end GU
