/-! searching along; the queue: who comes in -/
def fnd (P : Nat → Bool) : Nat → Nat → Int32
  | 0, _ => -1
  | m + 1, k => bif P k then nI k else fnd P m (k + 1)
theorem fnd_s {P : Nat → Bool} {m k : Nat} : fnd P (m + 1) k = bif P k then nI k else fnd P m (k + 1) := rfl
theorem fnd_cong {P Q : Nat → Bool} : ∀ (m k : Nat), (∀ i, k ≤ i → i < k + m → P i = Q i) → fnd P m k = fnd Q m k
  | 0, k, h => rfl
  | m + 1, k, h => by
    unfold fnd
    rw [h k (by omega) (by omega), fnd_cong m (k + 1) (fun i a c => h i (by omega) (by omega))]
theorem fnd_at {P : Nat → Bool} : ∀ (m k : Nat), (fnd P m k = -1 ∧ ∀ i, k ≤ i → i < k + m → P i = false) ∨ ∃ i, k ≤ i ∧ i < k + m ∧ fnd P m k = nI i ∧ P i = true ∧ ∀ i', k ≤ i' → i' < i → P i' = false
  | 0, k => Or.inl ⟨rfl, fun i a c => by omega⟩
  | m + 1, k => by
    cases hP : P k with
    | true => exact Or.inr ⟨k, by omega, by omega, by simp [fnd, hP], hP, fun i a c => by omega⟩
    | false =>
      have e : fnd P (m + 1) k = fnd P m (k + 1) := by simp [fnd, hP]
      rcases fnd_at (P := P) m (k + 1) with ⟨a1, a2⟩ | ⟨i, a1, a2, a3, a4, a5⟩
      · refine Or.inl ⟨e.trans a1, fun i b1 b2 => ?_⟩
        by_cases c : i = k
        · rw [c]; exact hP
        · exact a2 i (by omega) (by omega)
      · refine Or.inr ⟨i, by omega, by omega, e.trans a3, a4, fun i' b1 b2 => ?_⟩
        by_cases c : i' = k
        · rw [c]; exact hP
        · exact a5 i' (by omega) b2
theorem nI_m1 {k : Nat} (h : k < 2 ^ 31) : ¬ nI k = -1 := fun x => by
  have := congrArg Int32.toInt x
  rw [nI_toInt h] at this
  have e : (-1 : Int32).toInt = -1 := by decide
  omega
/-- rows of their own -/
theorem pigeon : ∀ (n q : Nat) (f : Nat → Nat), (∀ k, k < q → f k < n) → (∀ k k', k < q → k' < q → f k = f k' → k = k') → q ≤ n
  | 0, q, f, h1, h2 => by
    rcases Nat.eq_zero_or_pos q with h | h
    · omega
    · exact absurd (h1 0 h) (by omega)
  | n + 1, q, f, h1, h2 => by
    by_cases c : ∃ k, k < q ∧ f k = n
    · obtain ⟨k0, c1, c2⟩ := c
      have := pigeon n (q - 1) (fun k => if k = k0 then f (q - 1) else f k) (fun k hk => by
        show (if k = k0 then f (q - 1) else f k) < n
        by_cases e : k = k0
        · rw [if_pos e]
          have a := h1 (q - 1) (by omega)
          have a2 : f (q - 1) ≠ n := fun x => by
            have := h2 (q - 1) k0 (by omega) c1 (x.trans c2.symm)
            omega
          omega
        · rw [if_neg e]
          have a := h1 k (by omega)
          have a2 : f k ≠ n := fun x => e (h2 k k0 (by omega) c1 (x.trans c2.symm))
          omega) (fun k k' hk hk' e => by
        have e : (if k = k0 then f (q - 1) else f k) = (if k' = k0 then f (q - 1) else f k') := e
        by_cases e1 : k = k0
        · by_cases e2 : k' = k0
          · omega
          · rw [if_pos e1, if_neg e2] at e
            have := h2 (q - 1) k' (by omega) (by omega) e
            omega
        · by_cases e2 : k' = k0
          · rw [if_neg e1, if_pos e2] at e
            have := h2 k (q - 1) (by omega) (by omega) e
            omega
          · rw [if_neg e1, if_neg e2] at e
            exact h2 k k' (by omega) (by omega) e)
      omega
    · have := pigeon n q f (fun k hk => by
        have a := h1 k hk
        have a2 : f k ≠ n := fun x => c ⟨k, hk, x⟩
        omega) h2
      omega
theorem pigeon1 {n q r : Nat} (f : Nat → Nat) (hr : r < n) (h1 : ∀ k, k < q → f k < n) (h2 : ∀ k k', k < q → k' < q → f k = f k' → k = k') (h3 : ∀ k, k < q → f k ≠ r) : q < n := by
  have := pigeon n (q + 1) (fun k => if k = q then r else f k) (fun k hk => by
    show (if k = q then r else f k) < n
    by_cases e : k = q
    · rw [if_pos e]; exact hr
    · rw [if_neg e]; exact h1 k (by omega)) (fun k k' hk hk' e => by
    have e : (if k = q then r else f k) = (if k' = q then r else f k') := e
    by_cases e1 : k = q
    · by_cases e2 : k' = q
      · omega
      · rw [if_pos e1, if_neg e2] at e
        exact absurd e.symm (h3 k' (by omega))
    · by_cases e2 : k' = q
      · rw [if_neg e1, if_pos e2] at e
        exact absurd e (h3 k (by omega))
      · rw [if_neg e1, if_neg e2] at e
        exact h2 k k' (by omega) (by omega) e)
  omega
section JO
variable {L : Nat} {S : Ad → Nat → Int32} {F d n q w e : Nat} {z z1 : Int32} {j j1 : Fin 15} {b : Bool} {μ μ' μ1 μ1' : Mm}
theorem s_find_go {x : Int32} (hq : μ (1, j, 21) 0 = nI q) (hq2 : q ≤ 16) : ∀ (m k F : Nat), k + m = q → m + 1 ≤ F → run L S F d 31 2 [some (vR (1, j, 21)), some (vI x), some (vI (nI k))] μ = some (fnd (fun k => decide (μ (1, j, 22) k = x)) m k, μ) := by
  intro m
  induction m with
  | zero =>
    intro k F hk hF
    obtain ⟨F, rfl, hF'⟩ := fz hF
    rw [e31_2, hq, if_neg (nI_nlt (by omega) (by omega))]
    rfl
  | succ m ih =>
    intro k F hk hF
    obtain ⟨F, rfl, hF'⟩ := fz hF
    rw [e31_2, hq, if_pos (nI_lt (by omega) (by omega))]
    simp only [inb_n (show k < 16 by omega) (by decide), cond_true, nI_clamp (show k < 2 ^ 31 by omega), nI_1, ih (k + 1) F (by omega) hF']
    rw [fnd_s]
    by_cases c : μ (1, j, 22) k = x
    · simp [c]
    · simp [c]
theorem s_find (hF : 20 ≤ F) {x : Int32} (hq : μ (1, j, 21) 0 = nI q) (hq2 : q ≤ 16) : run L S F d 31 0 [some (vR (1, j, 21)), some (vI x), none] μ = some (fnd (fun k => decide (μ (1, j, 22) k = x)) q 0, μ) := by
  obtain ⟨F, rfl, hF'⟩ := fz hF
  rw [e31_0]
  exact s_find_go hq hq2 q 0 F (by omega) (by omega)
theorem m_find_go {x : Int32} (hq : μ' (2, 0, 1) 4 = nI q) (hq2 : q ≤ 16) : ∀ (m k F : Nat), k + m = q → m + 1 ≤ F → run L S F d 151 2 [some (vR (2, 0, 0)), some (vI x), some (vI (nI k))] μ' = some (fnd (fun k => decide (μ' (2, 0, 1) (212 + k) = x)) m k, μ') := by
  intro m
  induction m with
  | zero =>
    intro k F hk hF
    obtain ⟨F, rfl, hF'⟩ := fz hF
    rw [e151_2]
    simp only [hq]
    rw [if_neg (nI_nlt (by omega) (by omega))]
    rfl
  | succ m ih =>
    intro k F hk hF
    obtain ⟨F, rfl, hF'⟩ := fz hF
    rw [e151_2]
    simp only [hq]
    rw [if_pos (nI_lt (by omega) (by omega))]
    simp only [a212, inb_n (show 212 + k < 1278 by omega) (by decide), cond_true, nI_clamp (show 212 + k < 2 ^ 31 by omega), nI_1, ih (k + 1) F (by omega) hF']
    rw [fnd_s]
    by_cases c : μ' (2, 0, 1) (212 + k) = x
    · simp [c]
    · simp [c]
theorem m_find (hF : 20 ≤ F) {x : Int32} (hq : μ' (2, 0, 1) 4 = nI q) (hq2 : q ≤ 16) : run L S F d 151 0 [some (vR (2, 0, 0)), some (vI x), none] μ' = some (fnd (fun k => decide (μ' (2, 0, 1) (212 + k) = x)) q 0, μ') := by
  obtain ⟨F, rfl, hF'⟩ := fz hF
  rw [e151_0]
  exact m_find_go hq hq2 q 0 F (by omega) (by omega)
theorem R.find (h : R n q w z e j b μ μ') (x : Int32) : fnd (fun k => decide (μ (1, j, 22) k = x)) q 0 = fnd (fun k => decide (μ' (2, 0, 1) (212 + k) = x)) q 0 :=
  fnd_cong q 0 (fun i a c => by rw [(h.qu.2.2.1 i (by omega)).1])
/-- what stays while rows come into the queue -/
def FQ (μ' μ1' : Mm) : Prop := ∀ i, i ≠ 4 → (i < 212 ∨ 228 ≤ i) → μ1' (2, 0, 1) i = μ' (2, 0, 1) i
theorem FQ.rf : FQ μ' μ' := fun _ _ _ => rfl
theorem FQ.tr {μ μ1 μ2 : Mm} (h : FQ μ μ1) (h2 : FQ μ1 μ2) : FQ μ μ2 := fun i a c => (h2 i a c).trans (h i a c)
theorem p_join (h : R n q w z 1000 j b μ μ') {r : Nat} (hr : r < n) : ∃ (q1 : Nat) (μ1 μ1' : Mm), (∀ F d, 1 ≤ F → run L S F d 32 0 [some (vR (1, j, 21)), some (vI (nI r)), none] μ = some (0, μ1)) ∧ (∀ F d, 21 ≤ F → 1 ≤ d → run L S F d 152 0 [some (vR (2, 0, 0)), some (vI (nI r))] μ' = some (0, μ1')) ∧ R n q1 w z 1000 j b μ1 μ1' ∧ FC j μ μ1 ∧ FM 0 μ' μ1' ∧ FQ μ' μ1' := by
  have hN := h.hn
  obtain ⟨q1, q2, q3, q4, q5⟩ := h.qu
  have hc0 : μ (1, j, 21) 0 = nI q := (h.1.1 21 0 4 rfl (by omega)).trans q1
  rcases fnd_at (P := fun k => decide (μ' (2, 0, 1) (212 + k) = nI r)) q 0 with ⟨a1, a2⟩ | ⟨i, a1, a2, a3, a4, a5⟩
  · have hno : ∀ k, k < q → ¬ μ' (2, 0, 1) (212 + k) = nI r := fun k hk => by
      have := a2 k (by omega) (by omega)
      simpa using this
    have hnb : ¬ bit1 (μ (1, j, 21) 1) r := fun x => by
      obtain ⟨k, b1, b2⟩ := (q5 r hr).mp x
      exact hno k b1 b2
    have hqn : q < n := by
      have hex : ∀ k, ∃ r, k < q → r < n ∧ μ' (2, 0, 1) (212 + k) = nI r := fun k => by
        by_cases c : k < q
        · obtain ⟨_, r, b1, b2⟩ := q3 k c
          exact ⟨r, fun _ => ⟨b1, b2⟩⟩
        · exact ⟨0, fun x => absurd x c⟩
      have f := fun k => Classical.choose (hex k)
      have hf : ∀ k, k < q → Classical.choose (hex k) < n ∧ μ' (2, 0, 1) (212 + k) = nI (Classical.choose (hex k)) := fun k => Classical.choose_spec (hex k)
      exact pigeon1 (fun k => Classical.choose (hex k)) hr (fun k hk => (hf k hk).1) (fun k k' hk hk' e => q4 k k' hk hk' (by rw [(hf k hk).2, (hf k' hk').2]; exact congrArg nI e)) (fun k hk e => hno k hk (by rw [(hf k hk).2]; exact congrArg nI e))
    refine ⟨q + 1, mset (mset (mset μ (1, j, 22) q (nI r)) (1, j, 21) 0 (nI (q + 1))) (1, j, 21) 1 (μ (1, j, 21) 1 ||| ((1 : Int32) <<< (nI r &&& 31))), mset (mset μ' (2, 0, 1) (212 + q) (nI r)) (2, 0, 1) 4 (nI (q + 1)), fun F d hF => ?_, fun F d hF hd => ?_, ?_, FC.rf.set.set.set, (FM.rf.set (by omega)).set (by omega), fun i b1 b2 => by rw [mset_g, if_neg (by omega), mset_g, if_neg (by omega)]⟩
    · obtain ⟨F, rfl, hF'⟩ := fz hF
      unfold bit1 at hnb
      rw [e32_0, if_neg hnb, hc0, if_pos (show nI q < 16 from nI_lt (b := 16) (by omega) (by decide))]
      simp [inb_n (show q < 16 by omega) (by decide), nI_clamp (show q < 2 ^ 31 by omega), mset_g, hc0, nI_1]
    · obtain ⟨F, rfl, hF'⟩ := fz hF
      obtain ⟨d, rfl, hd'⟩ := fz hd
      rw [e152_0, m_find (by omega) q1 (by omega), a1]
      simp [q1, a212, inb_n (show 212 + q < 1278 by omega) (by decide), nI_clamp (show 212 + q < 2 ^ 31 by omega), mset_g, show ¬ (4 = 212 + q) by omega, nI_1]
    · have hL : LocR n 1000 j (mset (mset (mset μ (1, j, 22) q (nI r)) (1, j, 21) 0 (nI (q + 1))) (1, j, 21) 1 (μ (1, j, 21) 1 ||| ((1 : Int32) <<< (nI r &&& 31)))) (mset (mset μ' (2, 0, 1) (212 + q) (nI r)) (2, 0, 1) 4 (nI (q + 1))) :=
        ((((h.1.1.setC (o := 22) (k := q) rfl).setM (i := 212 + q) (fun o k x => by have := loc_lt hN.2.2.2 x; omega)).set hN.2.2.2 (o := 21) (k := 0) (i := 4) rfl).setC (o := 21) (k := 1) rfl)
      have gM : ∀ i, i ≠ 212 + q → i ≠ 4 → mset (mset μ' (2, 0, 1) (212 + q) (nI r)) (2, 0, 1) 4 (nI (q + 1)) (2, 0, 1) i = μ' (2, 0, 1) i := fun i b1 b2 => by rw [mset_g, if_neg (by omega), mset_g, if_neg (by omega)]
      have gMq : mset (mset μ' (2, 0, 1) (212 + q) (nI r)) (2, 0, 1) 4 (nI (q + 1)) (2, 0, 1) (212 + q) = nI r := by rw [mset_g, if_neg (by omega), mset_g, if_pos ⟨rfl, rfl⟩]
      have gC : ∀ k, k ≠ q → mset (mset (mset μ (1, j, 22) q (nI r)) (1, j, 21) 0 (nI (q + 1))) (1, j, 21) 1 (μ (1, j, 21) 1 ||| ((1 : Int32) <<< (nI r &&& 31))) (1, j, 22) k = μ (1, j, 22) k := fun k b1 => by rw [mset_g, if_neg (by omega), mset_g, if_neg (by omega), mset_g, if_neg (by omega)]
      have gCq : mset (mset (mset μ (1, j, 22) q (nI r)) (1, j, 21) 0 (nI (q + 1))) (1, j, 21) 1 (μ (1, j, 21) 1 ||| ((1 : Int32) <<< (nI r &&& 31))) (1, j, 22) q = nI r := by rw [mset_g, if_neg (by omega), mset_g, if_neg (by omega), mset_g, if_pos ⟨rfl, rfl⟩]
      refine ⟨⟨hL, by omega⟩, h.wt.keep (fun o k x => ?_) (fun i hi => ?_), ⟨?_, by omega, fun k hk => ?_, fun k k' hk hk' he => ?_, fun s hs => ?_⟩, h.pm.keep (fun o k x => ?_), h.so.keep ?_ (fun i hi => ?_), h.rg.keep (fun i hi => ?_), h.se.keep (fun i hi => ?_), ?_, fun hb => ?_⟩
      · rw [mset_g, if_neg (by omega), mset_g, if_neg (by omega), mset_g, if_neg (by omega)]
      · exact gM i (by omega) (by omega)
      · rw [mset_g, if_pos ⟨rfl, rfl⟩]
      · by_cases c : k = q
        · rw [c, gMq, gCq]
          exact ⟨rfl, r, hr, rfl⟩
        · rw [gM (212 + k) (by omega) (by omega), gC k c]
          exact q3 k (by omega)
      · by_cases c : k = q
        · by_cases c' : k' = q
          · omega
          · rw [c, gMq, gM (212 + k') (by omega) (by omega)] at he
            exact absurd he.symm (hno k' (by omega))
        · by_cases c' : k' = q
          · rw [c', gMq, gM (212 + k) (by omega) (by omega)] at he
            exact absurd he (hno k (by omega))
          · rw [gM (212 + k') (by omega) (by omega), gM (212 + k) (by omega) (by omega)] at he
            exact q4 k k' (by omega) (by omega) he
      · rw [mset_g, if_pos ⟨rfl, rfl⟩, bit1_or (by omega) (by omega), q5 s hs]
        constructor
        · rintro (⟨k, b1, b2⟩ | x)
          · exact ⟨k, by omega, by rw [gM (212 + k) (by omega) (by omega)]; exact b2⟩
          · exact ⟨q, by omega, by rw [gMq, x]⟩
        · rintro ⟨k, b1, b2⟩
          by_cases c : k = q
          · rw [c, gMq] at b2
            exact Or.inr (nI_inj (by omega) (by omega) b2.symm)
          · rw [gM (212 + k) (by omega) (by omega)] at b2
            exact Or.inl ⟨k, by omega, b2⟩
      · rw [mset_g, if_neg (by omega), mset_g, if_neg (by omega), mset_g, if_neg (by omega)]
      · rw [mset_g, if_neg (by omega), mset_g, if_neg (by omega), mset_g, if_neg (by omega)]
      · rw [mset_g, if_neg (by omega), mset_g, if_neg (by omega)]
      · rw [mset_g, if_neg (by omega), mset_g, if_neg (by omega)]
      · rw [mset_g, if_neg (by omega), mset_g, if_neg (by omega)]
      · rw [mset_g, if_neg (by omega), mset_g, if_neg (by omega), mset_g, if_neg (by omega), mset_g, if_neg (by omega), mset_g, if_neg (by omega)]
        exact h.hz
      · rw [mset_g, if_neg (by omega), mset_g, if_neg (by omega), mset_g, if_neg (by omega), mset_ne (by decide), mset_ne (by decide)]
        exact h.pk hb
  · have hi : μ' (2, 0, 1) (212 + i) = nI r := by simpa using a4
    have hb : bit1 (μ (1, j, 21) 1) r := (q5 r hr).mpr ⟨i, by omega, hi⟩
    refine ⟨q, μ, μ', fun F d hF => ?_, fun F d hF hd => ?_, h, FC.rf, FM.rf, FQ.rf⟩
    · obtain ⟨F, rfl, hF'⟩ := fz hF
      unfold bit1 at hb
      rw [e32_0, if_pos hb]
    · obtain ⟨F, rfl, hF'⟩ := fz hF
      obtain ⟨d, rfl, hd'⟩ := fz hd
      rw [e152_0, m_find (by omega) q1 (by omega), a3]
      simp only [Option.bind_some, if_neg (nI_m1 (show i < 2 ^ 31 by omega))]
end JO
