/-! a bank as at first -/
def rsC (j : Fin 15) (k : Nat) (μ : Mm) : Mm := fun q i => if q = (1, j, 3) ∧ k ≤ i ∧ i < 16 then nI i else if q = (1, j, 4) ∧ k ≤ i ∧ i < 16 then nI i else if q = (1, j, 10) ∧ k ≤ i ∧ i < 16 then ((1 : Int32) <<< (nI (i % 8) &&& 31)) else μ q i
def zM (k : Nat) (μ : Mm) : Mm := fun q i => if q = (2, 0, 1) ∧ k ≤ i ∧ i < 426 ∧ (i < 27 ∨ 44 ≤ i) then 0 else μ q i
def wM (k n : Nat) (μ : Mm) : Mm := fun q i => if q = (2, 0, 1) ∧ 44 + k ≤ i ∧ i < 44 + n then nI (i - 44) else if q = (2, 0, 1) ∧ 156 + k ≤ i ∧ i < 156 + n then ((1 : Int32) <<< (nI ((i - 156) % 8) &&& 31)) else μ q i
def rstC1 (j : Fin 15) (n : Nat) (μ : Mm) : Mm := rsC j 0 (filk (filk (filk (filk (filk (mset (mset (mset μ (1, j, 2) 0 (nI n)) (1, j, 2) 1 0) (1, j, 2) 2 0) (1, j, 5) 0 0 16) (1, j, 6) 0 0 16) (1, j, 7) 0 0 16) (1, j, 8) 0 0 16) (1, j, 9) 0 0 16)
def rstC2 (j : Fin 15) (μ : Mm) : Mm := filk (filk (mset (mset (mset (mset (mset (mset (mset (mset (mset μ (1, j, 11) 2 17) (1, j, 18) 0 0) (1, j, 21) 0 0) (1, j, 21) 1 0) (1, j, 0) 5 0) (1, j, 0) 6 0) (1, j, 0) 7 3) (1, j, 0) 8 0) (1, j, 0) 9 0) (1, j, 23) 0 0 4) (1, j, 24) 0 0 9
def rstC (j : Fin 15) (n : Nat) (μ : Mm) : Mm := rstC2 j (empC j (rstC1 j n μ))
def rstM (n : Nat) (μ : Mm) : Mm := empM (wM 0 n (mset (mset (mset (mset (zM 0 μ) (2, 0, 1) 0 (nI n)) (2, 0, 1) 2 17) (2, 0, 1) 7 (-1)) (2, 0, 1) 9 (-1)))
section RE
variable {L : Nat} {S : Ad → Nat → Int32} {d n q w m t s T T1 l c : Nat} {z : Int32} {i j j1 : Fin 15} {b b1 : Bool} {μ μ' μ1 μ1' μ2 : Mm} {f g : Nat → Int32} {a1 a2 a3 a4 a5 : Int32} {ν ν1 ν2 : Mm}
theorem filk_g {o o' k lo hi : Nat} {v : Int32} : filk μ (1, j, o') v lo hi (1, j, o) k = if o = o' ∧ lo ≤ k ∧ k < hi then v else μ (1, j, o) k := by
  unfold filk
  simp
theorem rsC_g {o k lo : Nat} : rsC j lo μ (1, j, o) k = if o = 3 ∧ lo ≤ k ∧ k < 16 then nI k else if o = 4 ∧ lo ≤ k ∧ k < 16 then nI k else if o = 10 ∧ lo ≤ k ∧ k < 16 then ((1 : Int32) <<< (nI (k % 8) &&& 31)) else μ (1, j, o) k := by
  unfold rsC
  simp
theorem rsC_q {lo : Nat} {q : Ad} (h : ¬ (q.1 = 1 ∧ q.2.1 = j)) : rsC j lo μ q = μ q := by
  have hq : ∀ o, q ≠ (1, j, o) := fun o x => h (by rw [x]; exact ⟨rfl, rfl⟩)
  funext k
  unfold rsC
  rw [if_neg (fun x => hq _ x.1), if_neg (fun x => hq _ x.1), if_neg (fun x => hq _ x.1)]
theorem rsC_end : rsC j 16 μ = μ := by
  funext q k
  unfold rsC
  rw [if_neg (by omega), if_neg (by omega), if_neg (by omega)]
theorem rsC_s {k : Nat} (hk : k < 16) : rsC j (k + 1) (mset (mset (mset μ (1, j, 3) k (nI k)) (1, j, 4) k (nI k)) (1, j, 10) k ((1 : Int32) <<< (nI (k % 8) &&& 31))) = rsC j k μ := by
  funext q i
  by_cases h : q.1 = 1 ∧ q.2.1 = j
  · obtain ⟨a, b, o⟩ := q
    obtain ⟨rfl, rfl⟩ := h
    rw [rsC_g, rsC_g, mset_g, mset_g, mset_g]
    by_cases c3 : o = 3
    · subst c3
      by_cases e : i = k
      · subst e
        simp [hk]
      · by_cases e2 : k + 1 ≤ i ∧ i < 16
        · rw [if_pos ⟨rfl, e2⟩, if_pos ⟨rfl, by omega⟩]
        · rw [if_neg (fun x => e2 x.2), if_neg (by omega), if_neg (by omega), if_neg (by omega), if_neg (by omega), if_neg (fun x => e x.2), if_neg (by omega), if_neg (by omega), if_neg (by omega)]
    · by_cases c4 : o = 4
      · subst c4
        by_cases e : i = k
        · subst e
          simp [hk]
        · by_cases e2 : k + 1 ≤ i ∧ i < 16
          · rw [if_neg (by omega), if_pos ⟨rfl, e2⟩, if_neg (by omega), if_pos ⟨rfl, by omega⟩]
          · rw [if_neg (by omega), if_neg (fun x => e2 x.2), if_neg (by omega), if_neg (by omega), if_neg (fun x => e x.2), if_neg (by omega), if_neg (by omega), if_neg (by omega), if_neg (by omega)]
      · by_cases c10 : o = 10
        · subst c10
          by_cases e : i = k
          · subst e
            simp [hk]
          · by_cases e2 : k + 1 ≤ i ∧ i < 16
            · rw [if_neg (by omega), if_neg (by omega), if_pos ⟨rfl, e2⟩, if_neg (by omega), if_neg (by omega), if_pos ⟨rfl, by omega⟩]
            · rw [if_neg (by omega), if_neg (by omega), if_neg (fun x => e2 x.2), if_neg (fun x => e x.2), if_neg (by omega), if_neg (by omega), if_neg (by omega), if_neg (by omega), if_neg (by omega)]
        · simp [c3, c4, c10]
  · rw [rsC_q h, rsC_q h, mset_ne (fun e => h (by rw [e]; exact ⟨rfl, rfl⟩)), mset_ne (fun e => h (by rw [e]; exact ⟨rfl, rfl⟩)), mset_ne (fun e => h (by rw [e]; exact ⟨rfl, rfl⟩))]
theorem c_rs_go : ∀ (m k : Nat) (μ : Mm), k + m = 16 → Ev (fun F => run L S F (d + 1) 2 57 [some (vR (1, j, 2)), none, some (vI (nI k))] μ) (0, rsC j k μ) := by
  intro m
  induction m with
  | zero =>
    intro k μ hk
    have hk : k = 16 := by omega
    subst hk
    refine Ev.step ?_
    simp only [e2_57, if_neg (show ¬ nI 16 < (16 : Int32) by decide), rsC_end]
    exact Ev.ret
  | succ m ih =>
    intro k μ hk
    have r8 : nI k - nI k / 8 * 8 = nI (k % 8) := pk_rem (d := 8) (by omega) (by decide) (by decide)
    refine Ev.step ?_
    simp only [e2_57, if_pos (show nI k < (16 : Int32) from nI_lt (b := 16) (by omega) (by decide)), inb_n (show k < 16 by omega) (by decide), cond_true, nI_clamp (show k < 2 ^ 31 by omega), r8, nI_1]
    have := ih (k + 1) (mset (mset (mset μ (1, j, 3) k (nI k)) (1, j, 4) k (nI k)) (1, j, 10) k ((1 : Int32) <<< (nI (k % 8) &&& 31))) (by omega)
    rw [rsC_s (by omega)] at this
    exact this
theorem c_reset : Ev (fun F => run L S F (d + 1) 2 0 [some (vR (1, j, 2)), some (vI (nI n)), none] μ) (0, rstC1 j n μ) := by
  refine Ev.step ?_
  simp only [e2_0]
  refine Ev.bind (Ev.at 18 (fun F hF => s_fill5 hF)) (Ev.bind (Ev.at 18 (fun F hF => s_fill6 hF)) (Ev.bind (Ev.at 18 (fun F hF => s_fill7 hF)) (Ev.bind (Ev.at 18 (fun F hF => s_fill8 hF)) (Ev.bind (Ev.at 18 (fun F hF => s_fill9 hF)) ?_))))
  exact c_rs_go 16 0 _ (by omega)
theorem c_startWith : Ev (fun F => run L S F (d + 2) 34 0 [some (vR (1, j, 0)), some (vI (nI n))] μ) (0, rstC j n μ) := by
  have h29 : ∀ μ : Mm, Ev (fun F => run L S F (d + 1) 29 0 [some (vR (1, j, 21))] μ) (0, mset (mset μ (1, j, 21) 0 0) (1, j, 21) 1 0) := fun μ => Ev.step (by
    simp only [e29_0]
    exact Ev.ret)
  refine Ev.step ?_
  simp only [e34_0]
  refine Ev.bind c_reset (Ev.bind (Ev.at 19 (fun F hF => s_empty hF (by omega))) (Ev.bind (h29 _) (Ev.bind (Ev.at 6 (fun F hF => s_fill23 hF)) (Ev.bind (Ev.at 11 (fun F hF => s_fill24 hF)) ?_))))
  exact Ev.ret
theorem rstC1_q {q : Ad} (h : ¬ (q.1 = 1 ∧ q.2.1 = j)) : rstC1 j n μ q = μ q := by
  have hq : ∀ o, q ≠ (1, j, o) := fun o x => h (by rw [x]; exact ⟨rfl, rfl⟩)
  unfold rstC1
  rw [rsC_q h]
  funext k
  rw [filk_ne (hq _), filk_ne (hq _), filk_ne (hq _), filk_ne (hq _), filk_ne (hq _), mset_ne (hq _), mset_ne (hq _), mset_ne (hq _)]
theorem rstC_q : FCo j μ (rstC j n μ) := fun q h => by
  have hq : ∀ o, q ≠ (1, j, o) := fun o x => h (by rw [x]; exact ⟨rfl, rfl⟩)
  unfold rstC rstC2
  funext k
  rw [filk_ne (hq _), filk_ne (hq _), mset_ne (hq _), mset_ne (hq _), mset_ne (hq _), mset_ne (hq _), mset_ne (hq _), mset_ne (hq _), mset_ne (hq _), mset_ne (hq _), mset_ne (hq _), empC_q h, rstC1_q h]
theorem rstC_a {o k : Nat} (h : o < 11) : rstC j n μ (1, j, o) k = if o = 0 ∧ 5 ≤ k ∧ k ≤ 9 then (if k = 7 then 3 else 0) else rstC1 j n μ (1, j, o) k := by
  unfold rstC rstC2
  rw [filk_g, filk_g, if_neg (by omega), if_neg (by omega), mset_g, mset_g, mset_g, mset_g, mset_g, mset_go (by omega), mset_go (by omega), mset_go (by omega), mset_go (by omega), empC_o (Or.inl h)]
  by_cases c : o = 0
  · subst c
    by_cases c5 : 5 ≤ k ∧ k ≤ 9
    · rw [if_pos (show 0 = 0 ∧ 5 ≤ k ∧ k ≤ 9 from ⟨rfl, c5⟩)]
      rcases (show k = 5 ∨ k = 6 ∨ k = 7 ∨ k = 8 ∨ k = 9 by omega) with rfl | rfl | rfl | rfl | rfl <;> rfl
    · rw [if_neg (by omega), if_neg (by omega), if_neg (by omega), if_neg (by omega), if_neg (by omega), if_neg (show ¬ (0 = 0 ∧ 5 ≤ k ∧ k ≤ 9) by omega)]
  · rw [if_neg (by omega), if_neg (by omega), if_neg (by omega), if_neg (by omega), if_neg (by omega), if_neg (show ¬ (o = 0 ∧ 5 ≤ k ∧ k ≤ 9) by omega)]
theorem rstC1_v {o k : Nat} : rstC1 j n μ (1, j, o) k = if o = 3 ∧ k < 16 then nI k else if o = 4 ∧ k < 16 then nI k else if o = 10 ∧ k < 16 then ((1 : Int32) <<< (nI (k % 8) &&& 31)) else if 5 ≤ o ∧ o ≤ 9 ∧ k < 16 then 0 else if o = 2 ∧ k = 0 then nI n else if o = 2 ∧ k < 3 then 0 else μ (1, j, o) k := by
  unfold rstC1
  rw [rsC_g, filk_g, filk_g, filk_g, filk_g, filk_g, mset_g, mset_g, mset_g]
  by_cases c3 : o = 3 ∧ k < 16
  · rw [if_pos ⟨c3.1, by omega⟩, if_pos c3]
  · by_cases c4 : o = 4 ∧ k < 16
    · rw [if_neg (by omega), if_pos ⟨c4.1, by omega⟩, if_neg c3, if_pos c4]
    · by_cases c10 : o = 10 ∧ k < 16
      · rw [if_neg (by omega), if_neg (by omega), if_pos ⟨c10.1, by omega⟩, if_neg c3, if_neg c4, if_pos c10]
      · rw [if_neg (by omega), if_neg (by omega), if_neg (by omega), if_neg c3, if_neg c4, if_neg c10]
        by_cases c5 : 5 ≤ o ∧ o ≤ 9 ∧ k < 16
        · rw [if_pos c5]
          rcases (show o = 5 ∨ o = 6 ∨ o = 7 ∨ o = 8 ∨ o = 9 by omega) with rfl | rfl | rfl | rfl | rfl
          · rw [if_neg (by omega), if_neg (by omega), if_neg (by omega), if_neg (by omega), if_pos (by omega)]
          · rw [if_neg (by omega), if_neg (by omega), if_neg (by omega), if_pos (by omega)]
          · rw [if_neg (by omega), if_neg (by omega), if_pos (by omega)]
          · rw [if_neg (by omega), if_pos (by omega)]
          · rw [if_pos (by omega)]
        · rw [if_neg (by omega), if_neg (by omega), if_neg (by omega), if_neg (by omega), if_neg (by omega), if_neg c5]
          by_cases c2 : o = 2
          · subst c2
            by_cases k0 : k = 0
            · subst k0
              rfl
            · by_cases k4 : k < 3
              · rw [if_neg (show ¬ (2 = 2 ∧ k = 0) by omega), if_pos (show 2 = 2 ∧ k < 3 from ⟨rfl, k4⟩)]
                rcases (show k = 1 ∨ k = 2 by omega) with rfl | rfl <;> rfl
              · rw [if_neg (by omega), if_neg (by omega), if_neg (by omega), if_neg (by omega), if_neg (by omega)]
          · rw [if_neg (by omega), if_neg (by omega), if_neg (by omega), if_neg (by omega), if_neg (by omega)]
theorem rstC_g {o k : Nat} (h : 12 ≤ o ∧ o ≤ 17) : rstC j n μ (1, j, o) k = empC j (rstC1 j n μ) (1, j, o) k := by
  unfold rstC rstC2
  rw [filk_g, filk_g, if_neg (by omega), if_neg (by omega), mset_go (by omega), mset_go (by omega), mset_go (by omega), mset_go (by omega), mset_go (by omega), mset_go (by omega), mset_go (by omega), mset_go (by omega), mset_go (by omega)]
theorem rstC_11 {k : Nat} (h : k < 3) : rstC j n μ (1, j, 11) k = if k = 2 then 17 else 0 := by
  unfold rstC rstC2
  rw [filk_g, filk_g, if_neg (by omega), if_neg (by omega), mset_go (by omega), mset_go (by omega), mset_go (by omega), mset_go (by omega), mset_go (by omega), mset_go (by omega), mset_go (by omega), mset_go (by omega), mset_g, empC_11]
  rcases (show k = 0 ∨ k = 1 ∨ k = 2 by omega) with rfl | rfl | rfl <;> rfl
theorem rstC_18 : rstC j n μ (1, j, 18) 0 = 0 := by
  unfold rstC rstC2
  rw [filk_g, filk_g, if_neg (by omega), if_neg (by omega), mset_go (by omega), mset_go (by omega), mset_go (by omega), mset_go (by omega), mset_go (by omega), mset_go (by omega), mset_go (by omega), mset_gg]
theorem rstC_21 {k : Nat} (h : k < 2) : rstC j n μ (1, j, 21) k = 0 := by
  unfold rstC rstC2
  rw [filk_g, filk_g, if_neg (by omega), if_neg (by omega), mset_go (by omega), mset_go (by omega), mset_go (by omega), mset_go (by omega), mset_go (by omega)]
  rcases (show k = 0 ∨ k = 1 by omega) with rfl | rfl
  · rw [mset_gk (by decide), mset_gg]
  · rw [mset_gg]
theorem rstC_23 {k : Nat} (h : k < 4) : rstC j n μ (1, j, 23) k = 0 := by
  unfold rstC rstC2
  rw [filk_g, filk_g, if_neg (by omega), if_pos (by omega)]
theorem rstC_24 {k : Nat} (h : k < 9) : rstC j n μ (1, j, 24) k = 0 := by
  unfold rstC rstC2
  rw [filk_g, if_pos (by omega)]
theorem zM_s {k : Nat} (hk : k < 426) (h : k < 27 ∨ 44 ≤ k) : zM (k + 1) (mset μ (2, 0, 1) k 0) = zM k μ := by
  funext q i
  unfold zM
  by_cases c : q = (2, 0, 1)
  · subst c
    rw [mset_g]
    by_cases e : i = k
    · subst e
      rw [if_neg (by omega), if_pos ⟨rfl, rfl⟩, if_pos ⟨rfl, by omega, by omega, h⟩]
    · by_cases e2 : k + 1 ≤ i ∧ i < 426 ∧ (i < 27 ∨ 44 ≤ i)
      · rw [if_pos ⟨rfl, e2⟩, if_pos ⟨rfl, by omega, e2.2⟩]
      · rw [if_neg (fun x => e2 x.2), if_neg (fun x => e x.2), if_neg (by omega)]
  · rw [if_neg (fun x => c x.1), if_neg (fun x => c x.1), mset_ne c]
theorem zM_n {k : Nat} (h : 27 ≤ k ∧ k < 44) : zM (k + 1) μ = zM k μ := by
  funext q i
  unfold zM
  by_cases e2 : q = (2, 0, 1) ∧ k + 1 ≤ i ∧ i < 426 ∧ (i < 27 ∨ 44 ≤ i)
  · rw [if_pos e2, if_pos ⟨e2.1, by omega, e2.2.2⟩]
  · rw [if_neg e2, if_neg (fun x => e2 ⟨x.1, by omega, x.2.2⟩)]
theorem zM_end : zM 426 μ = μ := by
  funext q i
  unfold zM
  rw [if_neg (by omega)]
theorem wM_end : wM n n μ = μ := by
  funext q i
  unfold wM
  rw [if_neg (by omega), if_neg (by omega)]
theorem wM_g {k i : Nat} : wM k n μ (2, 0, 1) i = if 44 + k ≤ i ∧ i < 44 + n then nI (i - 44) else if 156 + k ≤ i ∧ i < 156 + n then ((1 : Int32) <<< (nI ((i - 156) % 8) &&& 31)) else μ (2, 0, 1) i := by simp [wM]
theorem wM_q {k : Nat} {q : Ad} (h : q ≠ (2, 0, 1)) : wM k n μ q = μ q := by
  funext i
  simp [wM, h]
theorem wM_s {k : Nat} (hk : k < n) (hn : n ≤ 16) : wM (k + 1) n (mset (mset μ (2, 0, 1) (44 + k) (nI k)) (2, 0, 1) (156 + k) ((1 : Int32) <<< (nI (k % 8) &&& 31))) = wM k n μ := by
  funext q i
  by_cases c : q = (2, 0, 1)
  · subst c
    rw [wM_g, wM_g]
    by_cases e : i = 44 + k
    · subst e
      rw [if_neg (by omega), if_neg (by omega), mset_gk (by omega), mset_gg, if_pos (by omega), Nat.add_sub_cancel_left]
    · by_cases e2 : i = 156 + k
      · subst e2
        rw [if_neg (by omega), if_neg (by omega), mset_gg, if_neg (by omega), if_pos (by omega), Nat.add_sub_cancel_left]
      · rw [mset_gk e2, mset_gk e]
        by_cases e3 : 44 + (k + 1) ≤ i ∧ i < 44 + n
        · rw [if_pos e3, if_pos (by omega)]
        · by_cases e4 : 156 + (k + 1) ≤ i ∧ i < 156 + n
          · rw [if_neg e3, if_pos e4, if_neg (by omega), if_pos (by omega)]
          · rw [if_neg e3, if_neg e4, if_neg (by omega), if_neg (by omega)]
  · rw [wM_q c, wM_q c, mset_ne c, mset_ne c]
theorem a156' (r : Nat) : (156 : Int32) + nI r = nI (156 + r) := a156 r
theorem m_w_go (hn : n ≤ 16) : ∀ (m k : Nat) (μ : Mm), k + m = n → Ev (fun F => run L S F (d + 1) 128 67 [some (vR (2, 0, 0)), some (vI (nI n)), some (vI (nI k))] μ) (0, empM (wM k n μ)) := by
  intro m
  induction m with
  | zero =>
    intro k μ hk
    have hk : k = n := by omega
    subst hk
    refine Ev.step ?_
    simp only [e128_67, if_neg (nI_nlt (Nat.le_refl k) (show k < 2 ^ 31 by omega)), wM_end]
    exact Ev.bind (Ev.at 27 (fun F hF => m_empties hF)) Ev.ret
  | succ m ih =>
    intro k μ hk
    have r8 : nI k - nI k / 8 * 8 = nI (k % 8) := pk_rem (d := 8) (by omega) (by decide) (by decide)
    refine Ev.step ?_
    simp only [e128_67, if_pos (nI_lt (show k < n by omega) (show n < 2 ^ 31 by omega)), a44, a156, inb_n (show 44 + k < 1278 by omega) (by decide), inb_n (show 156 + k < 1278 by omega) (by decide), cond_true, nI_clamp (show 44 + k < 2 ^ 31 by omega), nI_clamp (show 156 + k < 2 ^ 31 by omega), r8, nI_1]
    have := ih (k + 1) (mset (mset μ (2, 0, 1) (44 + k) (nI k)) (2, 0, 1) (156 + k) ((1 : Int32) <<< (nI (k % 8) &&& 31))) (by omega)
    rw [wM_s (by omega) hn] at this
    exact this
theorem m_z_go (hn : n ≤ 16) : ∀ (m k : Nat) (μ : Mm), k + m = 426 → Ev (fun F => run L S F (d + 1) 128 2 [some (vR (2, 0, 0)), some (vI (nI n)), some (vI (nI k))] μ) (0, empM (wM 0 n (mset (mset (mset (mset (zM k μ) (2, 0, 1) 0 (nI n)) (2, 0, 1) 2 17) (2, 0, 1) 7 (-1)) (2, 0, 1) 9 (-1)))) := by
  intro m
  induction m with
  | zero =>
    intro k μ hk
    have hk : k = 426 := by omega
    subst hk
    refine Ev.step ?_
    simp only [e128_2, if_neg (show ¬ nI 426 < (426 : Int32) by decide), zM_end]
    exact m_w_go hn n 0 _ (by omega)
  | succ m ih =>
    intro k μ hk
    refine Ev.step ?_
    simp only [e128_2, if_pos (show nI k < (426 : Int32) from nI_lt (b := 426) (by omega) (by decide)), inb_n (show k < 1278 by omega) (by decide), cond_true, nI_clamp (show k < 2 ^ 31 by omega), nI_1]
    by_cases c : k < 27
    · have := ih (k + 1) (mset μ (2, 0, 1) k 0) (by omega)
      rw [zM_s (by omega) (Or.inl c)] at this
      simp only [if_pos (show nI k < (27 : Int32) from nI_lt (b := 27) c (by decide))]
      exact this
    · by_cases c2 : k < 44
      · have := ih (k + 1) μ (by omega)
        rw [zM_n (by omega)] at this
        simp only [if_neg (show ¬ nI k < (27 : Int32) from nI_nlt (b := 27) (by omega) (by omega)), if_pos (show nI k < (44 : Int32) from nI_lt (b := 44) c2 (by decide))]
        exact this
      · have := ih (k + 1) (mset μ (2, 0, 1) k 0) (by omega)
        rw [zM_s (by omega) (by omega)] at this
        simp only [if_neg (show ¬ nI k < (27 : Int32) from nI_nlt (b := 27) (by omega) (by omega)), if_neg (show ¬ nI k < (44 : Int32) from nI_nlt (b := 44) (by omega) (by omega))]
        exact this
theorem m_lays (hn : n ≤ 16) : Ev (fun F => run L S F (d + 1) 128 0 [some (vR (2, 0, 0)), some (vI (nI n)), none] μ') (0, rstM n μ') := by
  refine Ev.step ?_
  simp only [e128_0]
  exact m_z_go hn 426 0 μ' (by omega)
theorem rstM_q {q : Ad} (h : q ≠ (2, 0, 1)) : rstM n μ' q = μ' q := by
  funext k
  unfold rstM
  rw [empM_q h]
  unfold wM
  rw [if_neg (fun x => h x.1), if_neg (fun x => h x.1), mset_ne h, mset_ne h, mset_ne h, mset_ne h]
  unfold zM
  rw [if_neg (fun x => h x.1)]
theorem rstM_big {k : Nat} (hn : n ≤ 16) (h : 426 ≤ k) : rstM n μ' (2, 0, 1) k = μ' (2, 0, 1) k := by
  unfold rstM
  rw [empM_o (by omega)]
  unfold wM
  rw [if_neg (by omega), if_neg (by omega), mset_gk (by omega), mset_gk (by omega), mset_gk (by omega), mset_gk (by omega)]
  unfold zM
  rw [if_neg (by omega)]
theorem rstM_v {i : Nat} (hn : n ≤ 16) (h : i < 426) : rstM n μ' (2, 0, 1) i = if i = 0 then nI n else if i = 2 then 17 else if i = 7 ∨ i = 9 then -1 else if 27 ≤ i ∧ i < 44 then μ' (2, 0, 1) i else if 44 ≤ i ∧ i < 44 + n then nI (i - 44) else if 156 ≤ i ∧ i < 156 + n then ((1 : Int32) <<< (nI ((i - 156) % 8) &&& 31)) else if 172 ≤ i ∧ i < 180 then -1 else 0 := by
  unfold rstM
  by_cases c1 : 172 ≤ i ∧ i < 180
  · rw [empM_1 c1, if_neg (by omega), if_neg (by omega), if_neg (by omega), if_neg (by omega), if_neg (by omega), if_neg (by omega), if_pos c1]
  · by_cases c0 : i = 3 ∨ i = 11 ∨ (108 ≤ i ∧ i < 124) ∨ (180 ≤ i ∧ i < 212)
    · rw [empM_0 c0, if_neg (by omega), if_neg (by omega), if_neg (by omega), if_neg (by omega), if_neg (by omega), if_neg (by omega), if_neg c1]
    · rw [empM_o (by omega)]
      unfold wM
      by_cases c2 : 44 ≤ i ∧ i < 44 + n
      · rw [if_pos ⟨rfl, by omega⟩, if_neg (by omega), if_neg (by omega), if_neg (by omega), if_neg (by omega), if_pos c2]
      · by_cases c3 : 156 ≤ i ∧ i < 156 + n
        · rw [if_neg (by omega), if_pos ⟨rfl, by omega⟩, if_neg (by omega), if_neg (by omega), if_neg (by omega), if_neg (by omega), if_neg c2, if_pos c3]
        · rw [if_neg (by omega), if_neg (by omega), if_neg c2, if_neg c3, if_neg c1, mset_g, mset_g, mset_g, mset_g]
          by_cases d0 : i = 0
          · subst d0
            rfl
          · by_cases d2 : i = 2
            · subst d2
              rfl
            · by_cases d7 : i = 7 ∨ i = 9
              · rcases d7 with rfl | rfl <;> rfl
              · rw [if_neg (by omega), if_neg (by omega), if_neg (by omega), if_neg (by omega), if_neg d0, if_neg d2, if_neg d7]
                unfold zM
                by_cases d8 : 27 ≤ i ∧ i < 44
                · rw [if_neg (by omega), if_pos d8]
                · rw [if_pos ⟨rfl, by omega, h, by omega⟩, if_neg d8]
set_option maxHeartbeats 4000000 in
theorem rst_loc (hn : 4 ≤ n) (hn2 : n ≤ 16) (ht : ∀ k, k < 17 → μ (1, j, 1) k = μ' (2, 0, 1) (27 + k)) : LocR n 1000 j (rstC j n μ) (rstM n μ') := by
  intro o k i hl hie
  have hlt := loc_lt hn2 hl
  rw [rstM_v hn2 (by omega)]
  unfold loc at hl
  split at hl <;> (repeat' split at hl) <;> first
    | (cases hl; done)
    | (have e1 := Option.some.inj hl
       subst e1
       first
         | rw [rstC_24 (by omega)]
         | rw [rstC_23 (by omega)]
         | rw [rstC_21 (by omega)]
         | (rw [show k = 0 by assumption, rstC_18])
         | rw [rstC_11 (by omega)]
         | rw [rstC_g (by omega), empC_12 (by omega)]
         | rw [rstC_g (by omega), empC_13 (by omega)]
         | rw [rstC_g (by omega), empC_14 (by omega)]
         | rw [rstC_g (by omega), empC_15 (by omega)]
         | rw [rstC_g (by omega), empC_16 (by omega)]
         | rw [rstC_g (by omega), empC_17 (by omega)]
         | rw [rstC_a (by omega), rstC1_v]
       (repeat (first | rw [if_neg (by omega)] | rw [if_pos (by omega)]))
       first
         | done
         | (rw [Nat.add_sub_cancel_left]; done)
         | exact ht _ (by omega)
         | rfl)
/-- a bank as at first, in both -/
theorem R.first (hn : 4 ≤ n) (hn2 : n ≤ 16) (ht : ∀ k, k < 17 → μ (1, j, 1) k = μ' (2, 0, 1) (27 + k)) (hb : ∀ k, k < 17 → tLo k ≤ (μ' (2, 0, 1) (27 + k)).toInt ∧ (μ' (2, 0, 1) (27 + k)).toInt ≤ tHi k) : R n 0 0 0 1000 j false (rstC j n μ) (rstM n μ') := by
  have v : ∀ i, i < 426 → _ := fun i hi => rstM_v (μ' := μ') (n := n) (i := i) hn2 hi
  have h3 : ∀ r, r < 16 → rstC j n μ (1, j, 3) r = nI r := fun r hr => by rw [rstC_a (by omega), if_neg (by omega), rstC1_v, if_pos ⟨rfl, hr⟩]
  have h4 : ∀ r, r < 16 → rstC j n μ (1, j, 4) r = nI r := fun r hr => by rw [rstC_a (by omega), if_neg (by omega), rstC1_v, if_neg (by omega), if_pos ⟨rfl, hr⟩]
  have z0 : (0 : Int32).toInt = 0 := rfl
  have w8 : ∀ r, r < 8 → ∃ k, k < 256 ∧ ((1 : Int32) <<< (nI r &&& 31)) = nI k := by decide +kernel
  refine ⟨⟨rst_loc hn hn2 ht, by omega⟩, ⟨?_, by omega, fun k hk => absurd hk (by omega)⟩, ⟨?_, by omega, fun k hk => absurd hk (by omega), fun k k' hk => absurd hk (by omega), fun r hr => ⟨fun x => ?_, fun ⟨k, hk, _⟩ => absurd hk (by omega)⟩⟩, ⟨fun p hp => ⟨p, hp, h4 p (by omega), h3 p (by omega)⟩, fun r hr => ⟨r, hr, h3 r (by omega), h4 r (by omega)⟩⟩, ⟨?_, Or.inl ⟨?_, ?_, ?_⟩⟩, ⟨?_, hn, hn2, fun k hk => ?_, ⟨0, by omega, ?_⟩, ?_, ⟨17, by omega, ?_⟩, ⟨0, by omega, ?_⟩, fun r hr => ⟨⟨0, by omega, ?_⟩, ⟨0, by omega, ?_⟩, ?_⟩⟩, fun k hk => Or.inl ⟨?_, ?_⟩, ?_, fun x => by cases x⟩
  · rw [v 5 (by omega)]; rfl
  · rw [v 4 (by omega)]; rfl
  · rw [rstC_21 (by omega)] at x
    have := (bit1_bt (m := 0) (show r < 32 by omega)).mp x
    rw [b_0] at this
    cases this
  · rw [v 7 (by omega), v 9 (by omega)]; rfl
  · rw [v 9 (by omega)]; rfl
  · rw [rstC_a (by omega), if_pos (by omega)]; rfl
  · rw [v 8 (by omega)]; rfl
  · rw [v 0 (by omega)]; rfl
  · rw [v (27 + k) (by omega), if_neg (by omega), if_neg (by omega), if_neg (by omega), if_pos (by omega)]
    exact hb k hk
  · rw [v 10 (by omega)]; rfl
  · rw [v 8 (by omega), if_neg (by omega), if_neg (by omega), if_neg (by omega), if_neg (by omega), if_neg (by omega), if_neg (by omega), if_neg (by omega)]
    exact ⟨by decide, by decide⟩
  · rw [v 2 (by omega)]; rfl
  · rw [v 6 (by omega)]; rfl
  · rw [v (124 + r) (by omega), if_neg (by omega), if_neg (by omega), if_neg (by omega), if_neg (by omega), if_neg (by omega), if_neg (by omega), if_neg (by omega)]; rfl
  · rw [v (140 + r) (by omega), if_neg (by omega), if_neg (by omega), if_neg (by omega), if_neg (by omega), if_neg (by omega), if_neg (by omega), if_neg (by omega)]; rfl
  · rw [v (156 + r) (by omega), if_neg (by omega), if_neg (by omega), if_neg (by omega), if_neg (by omega), if_neg (by omega), if_pos (by omega)]
    exact w8 _ (Nat.mod_lt _ (by decide))
  · rw [v (172 + k) (by omega), if_neg (by omega), if_neg (by omega), if_neg (by omega), if_neg (by omega), if_neg (by omega), if_neg (by omega), if_pos (by omega)]
  · rw [v (188 + k) (by omega), if_neg (by omega), if_neg (by omega), if_neg (by omega), if_neg (by omega), if_neg (by omega), if_neg (by omega), if_neg (by omega)]
  · rw [v 16 (by omega), rstC_24 (by omega)]; rfl
theorem Bx.first (hn : 4 ≤ n) (hn2 : n ≤ 16) (ht : ∀ k, k < 17 → μ (1, j, 1) k = μ' (2, 0, 1) (27 + k)) (hb : ∀ k, k < 17 → tLo k ≤ (μ' (2, 0, 1) (27 + k)).toInt ∧ (μ' (2, 0, 1) (27 + k)).toInt ≤ tHi k) : Bx n 0 0 0 0 j false (rstC j n μ) (rstM n μ') := by
  refine ⟨R.first hn hn2 ht hb, ?_, ?_, Nat.le_refl _, fun r hr => ?_, ?_⟩
  · rw [rstM_v hn2 (by omega)]; rfl
  · rw [rstM_v hn2 (by omega)]; rfl
  · rw [rstM_v hn2 (by omega), if_neg (by omega), if_neg (by omega), if_neg (by omega), if_neg (by omega), if_neg (by omega), if_neg (by omega), if_neg (by omega)]
    exact ⟨by decide, by decide⟩
  · rw [rstM_v hn2 (by omega), if_neg (by omega), if_neg (by omega), if_neg (by omega), if_neg (by omega), if_neg (by omega), if_neg (by omega), if_neg (by omega)]
    exact ⟨by decide, by decide⟩
theorem LG.first (hn2 : n ≤ 16) : LG j (rstC j n μ) (rstM n μ') := by
  unfold LG
  rw [rstC_24 (by omega), rstM_v hn2 (by omega)]; rfl
theorem P_begin (h : Inv T μ μ') : PubR L S T 81 162 [some (vR (0, 0, 0)), some (vI a1)] [some (vR (2, 0, 0)), some (vI a1)] μ μ' := by
  have hth := h.th
  obtain ⟨ν, n, q, w, t, s, e1, hB, hw, ht, hl0⟩ := q_open h
  have e2 : th0 μ' = ν := e1
  rw [e2] at hth
  by_cases c : (4 : Int32).toInt ≤ a1.toInt ∧ a1.toInt ≤ (16 : Int32).toInt
  · obtain ⟨c1, c2⟩ := wi_t c
    have x1 : (4 : Int32).toInt = 4 := rfl
    have x2 : (16 : Int32).toInt = 16 := rfl
    obtain ⟨M, hM1, hM, rfl⟩ : ∃ k, 4 ≤ k ∧ k ≤ 16 ∧ a1 = nI k := ⟨a1.toInt.toNat, by omega, by omega, nI_toNat (by omega)⟩
    obtain ⟨μ1, ν1, k1, k2, k3, k4, k5, k6, k7, k8, -⟩ := p_keepB (L := L) (S := S) hth hB
    refine pub_m e1 k3 k7 k8 rstC_q (⟨fun i hi => rstM_big hM hi, fun o ho => rstM_q (by simp; omega), fun k hk => by rw [rstM_q (by decide)]⟩ : MK ν1 (rstM M ν1)) (fun q hq => rstM_q (fun e => hq (by rw [e]))) (Bx.first hM1 hM (fun k hk => k4.1.term hk) (fun k hk => k4.1.tb hk)) (by omega) (by omega) (LG.first hM) (Ev.step ?_) (Ev.step ?_) (x := nI M)
    · simp only [e81_0, if_neg c1, if_neg c2]
      exact Ev.bind k1 (Ev.bind (c_startWith.dp (d := 2) (by omega)) Ev.ret)
    · simp only [e162_0, e1]
      refine Ev.bind ev_within ?_
      simp only [if_pos c, i1, if_false]
      exact Ev.bind k2 (Ev.bind (m_lays hM) Ev.ret)
  · refine pub_n h e1 (-3) (Ev.step ?_) (Ev.step ?_)
    · rcases wi_f c with c1 | ⟨c1, c2⟩
      · simp only [e81_0, if_pos c1]
        exact Ev.ret
      · simp only [e81_0, if_neg c1, if_pos c2]
        exact Ev.ret
    · simp only [e162_0, e1]
      refine Ev.bind ev_within ?_
      simp only [if_neg c, if_true]
      exact Ev.ret
end RE
