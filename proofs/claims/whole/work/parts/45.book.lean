/-! a bank with its numbers; what is kept of it elsewhere; the reference's copies */ -/
def DI (B : Nat) (μ' : Mm) : Prop := (∀ r, r < 16 → 0 ≤ (μ' (2, 0, 1) (60 + r)).toInt ∧ (μ' (2, 0, 1) (60 + r)).toInt ≤ B) ∧ 0 ≤ (μ' (2, 0, 1) 16).toInt ∧ (μ' (2, 0, 1) 16).toInt ≤ B
/-- of a bank, at a time t, with s sights -/
def Bx (n q w t s : Nat) (j : Fin 15) (b : Bool) (μ μ' : Mm) : Prop := R n q w 0 1000 j b μ μ' ∧ μ' (2, 0, 1) 1 = nI t ∧ μ' (2, 0, 1) 11 = nI s ∧ s ≤ t ∧ DI (12 * t) μ'
def LG (j : Fin 15) (μ μ' : Mm) : Prop := μ (1, j, 24) 2 = μ' (2, 0, 1) 15
def Bk (T : Nat) (j : Fin 15) (μ μ' : Mm) : Prop := ∃ n q w t s, Bx n q w t s j false μ μ' ∧ w ≤ 48 ∧ t ≤ T ∧ LG j μ μ'
/-- another array's piece, seen as the bank -/
def vw (a : Ad) (f : Nat) (μ : Mm) : Mm := fun q k => if q = (2, 0, 1) ∧ k < 426 then μ a (f + k) else μ q k
theorem vw_at {a : Ad} {f k : Nat} {μ : Mm} (h : k < 426) : vw a f μ (2, 0, 1) k = μ a (f + k) := by
  unfold vw
  rw [if_pos ⟨rfl, h⟩]
def cpr (μ : Mm) (a : Ad) (f : Nat) (b : Ad) (t k : Nat) : Mm := fun q i => if q = b ∧ t + k ≤ i ∧ i < t + 426 then μ a (f + (i - t)) else μ q i
section BK
variable {L : Nat} {S : Ad → Nat → Int32} {d n q w t s T : Nat} {z : Int32} {i j j1 : Fin 15} {b b1 : Bool} {μ μ' μ1 μ1' μ2 : Mm}
theorem Bx.cp (h : Bx n q w t s j b μ μ') (hc : ∀ o k, CPl q w o k → μ1 (1, j1, o) k = μ (1, j, o) k) (hm : ∀ i, i < 426 → μ1' (2, 0, 1) i = μ' (2, 0, 1) i) (hp : b1 = true → μ1 (1, j1, 2) 3 = μ1' (2, 0, 0) 9) : Bx n q w t s j1 b1 μ1 μ1' :=
  ⟨h.1.cp hc hm hp, by rw [hm 1 (by omega)]; exact h.2.1, by rw [hm 11 (by omega)]; exact h.2.2.1, h.2.2.2.1, fun r hr => by rw [hm (60 + r) (by omega)]; exact h.2.2.2.2.1 r hr, by rw [hm 16 (by omega)]; exact h.2.2.2.2.2⟩
theorem Bk.cp (h : Bk T j μ μ') (hc : ∀ q w, w ≤ 48 → q ≤ 16 → ∀ o k, CPl q w o k → μ1 (1, j1, o) k = μ (1, j, o) k) (hm : ∀ i, i < 426 → μ1' (2, 0, 1) i = μ' (2, 0, 1) i) : Bk T j1 μ1 μ1' := by
  obtain ⟨n, q, w, t, s, h1, h2, h3, h4⟩ := h
  have hq : q ≤ 16 := Nat.le_trans h1.1.qu.2.1 h1.1.hn.2.2.2
  refine ⟨n, q, w, t, s, h1.cp (hc q w h2 hq) hm (fun x => by cases x), h2, h3, ?_⟩
  unfold LG at h4 ⊢
  rw [hm 15 (by omega), hc q w h2 hq 24 2 (by unfold CPl; omega)]
  exact h4
/-- what doesn't touch it -/
theorem Bk.fr (h : Bk T j μ μ') (hc : ∀ o, μ1 (1, j, o) = μ (1, j, o)) (hm : ∀ i, i < 426 → μ1' (2, 0, 1) i = μ' (2, 0, 1) i) : Bk T j μ1 μ1' :=
  h.cp (fun _ _ _ _ o k _ => by rw [hc o]) hm
theorem Bk.le {T1 : Nat} (h : Bk T j μ μ') (hT : T ≤ T1) : Bk T1 j μ μ' := by
  obtain ⟨n, q, w, t, s, h1, h2, h3, h4⟩ := h
  exact ⟨n, q, w, t, s, h1, h2, by omega, h4⟩
theorem cpr_426 {a c : Ad} {f t : Nat} : cpr μ a f c t 426 = μ := by
  funext q i
  unfold cpr
  rw [if_neg (by omega)]
theorem cpr_step {a c : Ad} {f t k : Nat} (h : k < 426) (hd : a ≠ c ∨ f + 426 ≤ t ∨ t + 426 ≤ f) : cpr (mset μ c (t + k) (μ a (f + k))) a f c t (k + 1) = cpr μ a f c t k := by
  funext q i
  unfold cpr
  by_cases c0 : q = c
  · subst c0
    by_cases c1 : t + (k + 1) ≤ i ∧ i < t + 426
    · rw [if_pos ⟨rfl, c1⟩, if_pos ⟨rfl, by omega⟩]
      rcases hd with x | x
      · rw [mset_ne x]
      · unfold mset
        rw [if_neg (by omega)]
    · rw [if_neg (fun x => c1 x.2)]
      unfold mset
      by_cases c2 : i = t + k
      · rw [if_pos ⟨rfl, c2⟩, if_pos ⟨rfl, by omega⟩, c2, Nat.add_sub_cancel_left]
      · rw [if_neg (fun x => c2 x.2), if_neg (by omega)]
  · rw [if_neg (fun x => c0 x.1), if_neg (fun x => c0 x.1), mset_ne c0]
theorem cps_go {a c : Ad} {f t na nb : Nat} (hd : a ≠ c ∨ f + 426 ≤ t ∨ t + 426 ≤ f) (hf : f + 426 ≤ na) (ht : t + 426 ≤ nb) (hna : na < 2 ^ 31) (hnb : nb < 2 ^ 31)
    (he : ∀ (F : Nat) (μ : Mm) (x : Int32), run L S (F + 1) d 129 3 [some (vR a), some (vI (nI f)), some (vR c), some (vI (nI t)), some (vI x)] μ = if x < 426 then (bif inb (nI f + x) na then (bif inb (nI t + x) nb then run L S F d 129 3 [some (vR a), some (vI (nI f)), some (vR c), some (vI (nI t)), some (vI (x + 1))] (mset μ c (Int32.toNatClampNeg (nI t + x)) (μ a (Int32.toNatClampNeg (nI f + x)))) else none) else none) else some (0, μ)) :
    ∀ (m k : Nat) (μ : Mm), k + m = 426 → Ev (fun F => run L S F d 129 3 [some (vR a), some (vI (nI f)), some (vR c), some (vI (nI t)), some (vI (nI k))] μ) (0, cpr μ a f c t k) := by
  intro m
  induction m with
  | zero =>
    intro k μ hk
    have hk : k = 426 := by omega
    subst hk
    refine Ev.step ?_
    simp only [he]
    rw [cpr_426]
    simp only [show ¬ nI 426 < (426 : Int32) by decide, if_false]
    exact Ev.ret
  | succ m ih =>
    intro k μ hk
    refine Ev.step ?_
    simp only [he, nI_add, nI_1]
    simp only [if_pos (show nI k < (426 : Int32) from nI_lt (b := 426) (by omega) (by decide)), inb_n (show f + k < na by omega) hna, inb_n (show t + k < nb by omega) hnb, cond_true, nI_clamp (show f + k < 2 ^ 31 by omega), nI_clamp (show t + k < 2 ^ 31 by omega)]
    have := ih (k + 1) (mset μ c (t + k) (μ a (f + k))) (by omega)
    rw [cpr_step (by omega) hd] at this
    exact this
/-- the reference's copies -/
theorem m_cp_paper : Ev (fun F => run L S F d 129 0 [some (vR (2, 0, 1)), some (vI 0), some (vR (2, 0, 3)), some (vI 0), none] μ) (0, cpr μ (2, 0, 1) 0 (2, 0, 3) 0 0) := by
  refine Ev.step ?_
  simp only [e129_0_all_paper]
  exact cps_go (f := 0) (t := 0) (na := 1278) (nb := 426) (Or.inl (by decide)) (by decide) (by decide) (by decide) (by decide) (fun F μ x => e129_3_all_paper) 426 0 μ rfl
theorem m_cp_unpaper : Ev (fun F => run L S F d 129 0 [some (vR (2, 0, 3)), some (vI 0), some (vR (2, 0, 1)), some (vI 0), none] μ) (0, cpr μ (2, 0, 3) 0 (2, 0, 1) 0 0) := by
  refine Ev.step ?_
  simp only [e129_0_paper_all]
  exact cps_go (f := 0) (t := 0) (na := 426) (nb := 1278) (Or.inl (by decide)) (by decide) (by decide) (by decide) (by decide) (fun F μ x => e129_3_paper_all) 426 0 μ rfl
theorem m_cp_kept : Ev (fun F => run L S F d 129 0 [some (vR (2, 0, 1)), some (vI 0), some (vR (2, 0, 10)), some (vI 0), none] μ) (0, cpr μ (2, 0, 1) 0 (2, 0, 10) 0 0) := by
  refine Ev.step ?_
  simp only [e129_0_all_kept]
  exact cps_go (f := 0) (t := 0) (na := 1278) (nb := 426) (Or.inl (by decide)) (by decide) (by decide) (by decide) (by decide) (fun F μ x => e129_3_all_kept) 426 0 μ rfl
theorem m_cp_unkept : Ev (fun F => run L S F d 129 0 [some (vR (2, 0, 10)), some (vI 0), some (vR (2, 0, 1)), some (vI 0), none] μ) (0, cpr μ (2, 0, 10) 0 (2, 0, 1) 0 0) := by
  refine Ev.step ?_
  simp only [e129_0_kept_all]
  exact cps_go (f := 0) (t := 0) (na := 426) (nb := 1278) (Or.inl (by decide)) (by decide) (by decide) (by decide) (by decide) (fun F μ x => e129_3_kept_all) 426 0 μ rfl
theorem m_cp_deeds {k : Nat} (hk : k < 10) : Ev (fun F => run L S F d 129 0 [some (vR (2, 0, 1)), some (vI 0), some (vR (2, 0, 2)), some (vI (nI (426 * k))), none] μ) (0, cpr μ (2, 0, 1) 0 (2, 0, 2) (426 * k) 0) := by
  refine Ev.step ?_
  simp only [e129_0_all_deeds]
  exact cps_go (f := 0) (t := 426 * k) (na := 1278) (nb := 4260) (Or.inl (by decide)) (by decide) (by omega) (by decide) (by decide) (fun F μ x => e129_3_all_deeds) 426 0 μ rfl
theorem m_cp_undeeds {k : Nat} (hk : k < 10) : Ev (fun F => run L S F d 129 0 [some (vR (2, 0, 2)), some (vI (nI (426 * k))), some (vR (2, 0, 1)), some (vI 0), none] μ) (0, cpr μ (2, 0, 2) (426 * k) (2, 0, 1) 0 0) := by
  refine Ev.step ?_
  simp only [e129_0_deeds_all]
  exact cps_go (f := 426 * k) (t := 0) (na := 4260) (nb := 1278) (Or.inl (by decide)) (by omega) (by decide) (by decide) (by decide) (fun F μ x => e129_3_deeds_all) 426 0 μ rfl
theorem m_cp_image {k : Nat} (hk : k < 2) : Ev (fun F => run L S F d 129 0 [some (vR (2, 0, 1)), some (vI 0), some (vR (2, 0, 1)), some (vI (nI (426 * (k + 1)))), none] μ) (0, cpr μ (2, 0, 1) 0 (2, 0, 1) (426 * (k + 1)) 0) := by
  refine Ev.step ?_
  simp only [e129_0_all_all]
  exact cps_go (f := 0) (t := 426 * (k + 1)) (na := 1278) (nb := 1278) (Or.inr (Or.inl (by omega))) (by decide) (by omega) (by decide) (by decide) (fun F μ x => e129_3_all_all) 426 0 μ rfl
theorem m_cp_unimage {k : Nat} (hk : k < 2) : Ev (fun F => run L S F d 129 0 [some (vR (2, 0, 1)), some (vI (nI (426 * (k + 1)))), some (vR (2, 0, 1)), some (vI 0), none] μ) (0, cpr μ (2, 0, 1) (426 * (k + 1)) (2, 0, 1) 0 0) := by
  refine Ev.step ?_
  simp only [e129_0_all_all]
  exact cps_go (f := 426 * (k + 1)) (t := 0) (na := 1278) (nb := 1278) (Or.inr (Or.inr (by omega))) (by omega) (by decide) (by decide) (by decide) (fun F μ x => e129_3_all_all) 426 0 μ rfl
theorem cpr_in {a c : Ad} {f t k : Nat} (h : k < 426) : cpr μ a f c t 0 c (t + k) = μ a (f + k) := by
  unfold cpr
  rw [if_pos ⟨rfl, by omega⟩, Nat.add_sub_cancel_left]
theorem cpr_ne {a c q : Ad} {f t k : Nat} (h : q ≠ c) : cpr μ a f c t 0 q k = μ q k := by
  unfold cpr
  rw [if_neg (fun x => h x.1)]
theorem cpr_out {a c q : Ad} {f t k : Nat} (h : k < t ∨ t + 426 ≤ k) : cpr μ a f c t 0 q k = μ q k := by
  unfold cpr
  rw [if_neg (by omega)]
end BK
