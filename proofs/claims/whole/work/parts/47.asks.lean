/-! requests told one after another; the most disturbed -/
def addC (j : Fin 15) (w : Nat) (f : Nat → Int32) (m : Nat) (μ : Mm) : Mm := fun q i => if q = (1, j, 19) ∧ w ≤ i ∧ i < w + m then f (i - w) else if q = (1, j, 20) ∧ w ≤ i ∧ i < w + m then μ (1, j, 0) 5 else if q = (1, j, 18) ∧ i = 0 then nI (w + m) else μ q i
def askM (w : Nat) (f : Nat → Int32) (m : Nat) (μ : Mm) : Mm := fun q i => if q = (2, 0, 1) ∧ 228 + w ≤ i ∧ i < 228 + w + m then f (i - (228 + w)) else if q = (2, 0, 1) ∧ 327 + w ≤ i ∧ i < 327 + w + m then μ (2, 0, 1) 1 else if q = (2, 0, 1) ∧ i = 5 then nI (w + m) else μ q i
section AS
variable {L : Nat} {S : Ad → Nat → Int32} {d n q w m t s T T1 : Nat} {z : Int32} {i j j1 : Fin 15} {b b1 : Bool} {μ μ' μ1 μ1' μ2 : Mm} {f : Nat → Int32}
theorem addC_0 (h : μ (1, j, 18) 0 = nI w) : addC j w f 0 μ = μ := by
  funext q k
  unfold addC
  rw [if_neg (by omega), if_neg (by omega)]
  split
  · rename_i e
    rw [e.1, e.2, h]
    rfl
  · rfl
theorem addC_o {o k : Nat} (h : o ≠ 18 ∧ o ≠ 19 ∧ o ≠ 20) : addC j w f m μ (1, j, o) k = μ (1, j, o) k := by
  unfold addC
  rw [if_neg (by simp; omega), if_neg (by simp; omega), if_neg (by simp; omega)]
theorem addC_q {q : Ad} (h : ¬ (q.1 = 1 ∧ q.2.1 = j)) : addC j w f m μ q = μ q := by
  funext k
  unfold addC
  rw [if_neg (fun x => h (by rw [x.1]; exact ⟨rfl, rfl⟩)), if_neg (fun x => h (by rw [x.1]; exact ⟨rfl, rfl⟩)), if_neg (fun x => h (by rw [x.1]; exact ⟨rfl, rfl⟩))]
theorem addC_18 : addC j w f m μ (1, j, 18) 0 = nI (w + m) := by
  unfold addC
  rw [if_neg (by simp), if_neg (by simp), if_pos ⟨rfl, rfl⟩]
theorem addC_19 {k : Nat} : addC j w f m μ (1, j, 19) k = if w ≤ k ∧ k < w + m then f (k - w) else μ (1, j, 19) k := by simp [addC]
theorem addC_20 {k : Nat} : addC j w f m μ (1, j, 20) k = if w ≤ k ∧ k < w + m then μ (1, j, 0) 5 else μ (1, j, 20) k := by simp [addC]
theorem addC_18k {k : Nat} (h : k ≠ 0) : addC j w f m μ (1, j, 18) k = μ (1, j, 18) k := by simp [addC, h]
theorem addC_s : mset (mset (mset (addC j w f m μ) (1, j, 19) (w + m) (f m)) (1, j, 20) (w + m) (μ (1, j, 0) 5)) (1, j, 18) 0 (nI (w + m + 1)) = addC j w f (m + 1) μ := by
  funext q k
  by_cases c : q = (1, j, 18)
  · subst c
    by_cases ck : k = 0
    · subst ck
      rw [mset_gg, addC_18]
      rfl
    · rw [mset_gk ck, mset_go (by decide), mset_go (by decide), addC_18k ck, addC_18k ck]
  · rw [mset_ne c]
    by_cases c2 : q = (1, j, 20)
    · subst c2
      rw [addC_20]
      by_cases ck : k = w + m
      · subst ck
        rw [mset_gg, if_pos (by omega)]
      · rw [mset_gk ck, mset_go (by decide), addC_20]
        by_cases c3 : w ≤ k ∧ k < w + m
        · rw [if_pos c3, if_pos (by omega)]
        · rw [if_neg c3, if_neg (by omega)]
    · rw [mset_ne c2]
      by_cases c3 : q = (1, j, 19)
      · subst c3
        rw [addC_19]
        by_cases ck : k = w + m
        · subst ck
          rw [mset_gg, if_pos (by omega), Nat.add_sub_cancel_left]
        · rw [mset_gk ck, addC_19]
          by_cases c3 : w ≤ k ∧ k < w + m
          · rw [if_pos c3, if_pos (by omega)]
          · rw [if_neg c3, if_neg (by omega)]
      · rw [mset_ne c3]
        unfold addC
        rw [if_neg (fun x => c3 x.1), if_neg (fun x => c2 x.1), if_neg (fun x => c x.1), if_neg (fun x => c3 x.1), if_neg (fun x => c2 x.1), if_neg (fun x => c x.1)]
theorem c_add (hw : w + m < 99) : Ev (fun F => run L S F d 27 0 [some (vR (1, j, 18)), some (vI (f m)), some (vI (μ (1, j, 0) 5))] (addC j w f m μ)) (0, addC j w f (m + 1) μ) := by
  refine Ev.step ?_
  simp only [e27_0]
  simp only [addC_18, if_pos (show nI (w + m) < 99 from nI_lt (b := 99) hw (by decide)), inb_n (show w + m < 99 by omega) (by decide), cond_true, nI_clamp (show w + m < 2 ^ 31 by omega), mset_go (show (18 : Nat) ≠ 19 by decide), mset_go (show (18 : Nat) ≠ 20 by decide), nI_1, addC_s]
  exact Ev.ret
theorem askM_0 (h : μ' (2, 0, 1) 5 = nI w) : askM w f 0 μ' = μ' := by
  funext q k
  unfold askM
  rw [if_neg (by omega), if_neg (by omega)]
  split
  · rename_i e
    rw [e.1, e.2, h]
    rfl
  · rfl
theorem askM_q {q : Ad} (h : q ≠ (2, 0, 1)) : askM w f m μ' q = μ' q := by
  funext k
  unfold askM
  rw [if_neg (fun x => h x.1), if_neg (fun x => h x.1), if_neg (fun x => h x.1)]
theorem askM_o {k : Nat} (h : k ≠ 5 ∧ (k < 228 ∨ 426 ≤ k)) (hw : w + m ≤ 99) : askM w f m μ' (2, 0, 1) k = μ' (2, 0, 1) k := by
  unfold askM
  rw [if_neg (by omega), if_neg (by omega), if_neg (by omega)]
theorem askM_5 : askM w f m μ' (2, 0, 1) 5 = nI (w + m) := by
  unfold askM
  rw [if_neg (by omega), if_neg (by omega), if_pos ⟨rfl, rfl⟩]
theorem askM_s (hw : w + m < 99) : mset (mset (mset (askM w f m μ') (2, 0, 1) (228 + (w + m)) (f m)) (2, 0, 1) (327 + (w + m)) (μ' (2, 0, 1) 1)) (2, 0, 1) 5 (nI (w + m + 1)) = askM w f (m + 1) μ' := by
  funext q k
  by_cases c : q = (2, 0, 1)
  · subst c
    by_cases c5 : k = 5
    · subst c5
      rw [mset_gg, askM_5]
      rfl
    · rw [mset_gk c5]
      by_cases c7 : k = 327 + (w + m)
      · subst c7
        rw [mset_gg]
        unfold askM
        rw [if_neg (by omega), if_pos ⟨rfl, by omega, by omega⟩]
      · rw [mset_gk c7]
        by_cases c8 : k = 228 + (w + m)
        · subst c8
          rw [mset_gg]
          unfold askM
          rw [if_pos ⟨rfl, by omega, by omega⟩, show 228 + (w + m) - (228 + w) = m by omega]
        · rw [mset_gk c8]
          unfold askM
          by_cases c9 : 228 + w ≤ k ∧ k < 228 + w + m
          · rw [if_pos ⟨rfl, c9⟩, if_pos ⟨rfl, by omega⟩]
          · rw [if_neg (fun x => c9 x.2), if_neg (show ¬ ((2, 0, 1) = ((2, 0, 1) : Ad) ∧ 228 + w ≤ k ∧ k < 228 + w + (m + 1)) by omega)]
            by_cases c10 : 327 + w ≤ k ∧ k < 327 + w + m
            · rw [if_pos ⟨rfl, c10⟩, if_pos ⟨rfl, by omega⟩]
            · rw [if_neg (fun x => c10 x.2), if_neg (show ¬ ((2, 0, 1) = ((2, 0, 1) : Ad) ∧ 327 + w ≤ k ∧ k < 327 + w + (m + 1)) by omega), if_neg (fun x => c5 x.2), if_neg (fun x => c5 x.2)]
  · rw [mset_ne c, mset_ne c, mset_ne c, askM_q c, askM_q c]
theorem m_ask (hw : w + m < 99) : Ev (fun F => run L S F d 165 0 [some (vR (2, 0, 0)), some (vI (f m))] (askM w f m μ')) (0, askM w f (m + 1) μ') := by
  refine Ev.step ?_
  simp only [e165_0]
  simp only [askM_5, a228, a327, inb_n (show 228 + (w + m) < 1278 by omega) (by decide), inb_n (show 327 + (w + m) < 1278 by omega) (by decide), cond_true, nI_clamp (show 228 + (w + m) < 2 ^ 31 by omega), nI_clamp (show 327 + (w + m) < 2 ^ 31 by omega), mset_gk (show 5 ≠ 228 + (w + m) by omega), mset_gk (show 1 ≠ 228 + (w + m) by omega), mset_gk (show 5 ≠ 327 + (w + m) by omega), askM_o (μ' := μ') (f := f) (k := 1) (show (1 : Nat) ≠ 5 ∧ (1 < 228 ∨ 426 ≤ 1) by omega) (show w + m ≤ 99 by omega), nI_1, askM_s hw]
  exact Ev.ret
theorem R.adds (h : R n q w z 1000 j b μ μ') (hf : ∀ k, k < m → ∃ r, r < n ∧ f k = nI r) (hw : w + m ≤ 99) : R n q (w + m) z 1000 j b (addC j w f m μ) (askM w f m μ') := by
  refine h.ofW (fun o k a1 a2 a3 => addC_o ⟨a1, a2, a3⟩) (fun k a1 a2 => askM_o ⟨a1, Or.inl a2⟩ hw) (by rw [askM_q (by decide)]) (by rw [addC_18, askM_5]) ⟨askM_5, hw, fun k hk => ?_⟩
  obtain ⟨w1, w2, w3⟩ := h.wt
  by_cases c : k < w
  · obtain ⟨x1, x2, x3⟩ := w3 k c
    have e1 : askM w f m μ' (2, 0, 1) (228 + k) = μ' (2, 0, 1) (228 + k) := by
      unfold askM
      rw [if_neg (by omega), if_neg (by omega), if_neg (by omega)]
    have e2 : askM w f m μ' (2, 0, 1) (327 + k) = μ' (2, 0, 1) (327 + k) := by
      unfold askM
      rw [if_neg (by omega), if_neg (by omega), if_neg (by omega)]
    have e3 : addC j w f m μ (1, j, 19) k = μ (1, j, 19) k := by
      rw [addC_19, if_neg (by omega)]
    have e4 : addC j w f m μ (1, j, 20) k = μ (1, j, 20) k := by
      rw [addC_20, if_neg (by omega)]
    rw [e1, e2, e3, e4]
    exact ⟨x1, x2, x3⟩
  · obtain ⟨r, hr, hfr⟩ := hf (k - w) (by omega)
    have e1 : askM w f m μ' (2, 0, 1) (228 + k) = f (k - w) := by
      unfold askM
      rw [if_pos ⟨rfl, by omega, by omega⟩, show 228 + k - (228 + w) = k - w by omega]
    have e2 : askM w f m μ' (2, 0, 1) (327 + k) = μ' (2, 0, 1) 1 := by
      unfold askM
      rw [if_neg (by omega), if_pos ⟨rfl, by omega, by omega⟩]
    have e3 : addC j w f m μ (1, j, 19) k = f (k - w) := by
      rw [addC_19, if_pos (by omega)]
    have e4 : addC j w f m μ (1, j, 20) k = μ (1, j, 0) 5 := by
      rw [addC_20, if_pos (by omega)]
    rw [e1, e2, e3, e4]
    exact ⟨rfl, h.tm, r, hr, hfr⟩
theorem Bx.adds (h : Bx n q w t s j b μ μ') (hf : ∀ k, k < m → ∃ r, r < n ∧ f k = nI r) (hw : w + m ≤ 99) : Bx n q (w + m) t s j b (addC j w f m μ) (askM w f m μ') :=
  ⟨h.1.adds hf hw, by rw [askM_o (by omega) hw]; exact h.2.1, by rw [askM_o (by omega) hw]; exact h.2.2.1, h.2.2.2.1, fun r hr => by rw [askM_o (by omega) hw]; exact h.2.2.2.2.1 r hr, by rw [askM_o (by omega) hw]; exact h.2.2.2.2.2⟩
theorem R.drop (h : R n q w z 1000 j b μ μ') : R n q 0 z 1000 j b (mset μ (1, j, 18) 0 0) (mset μ' (2, 0, 1) 5 0) :=
  h.ofW (fun o k a1 a2 a3 => mset_go a1) (fun k a1 a2 => mset_gk a1) (by rw [mset_ne (by decide)]) (by rw [mset_gg, mset_gg]) ⟨mset_gg, by omega, fun k hk => absurd hk (by omega)⟩
theorem Bx.drop (h : Bx n q w t s j b μ μ') : Bx n q 0 t s j b (mset μ (1, j, 18) 0 0) (mset μ' (2, 0, 1) 5 0) :=
  ⟨h.1.drop, by rw [mset_gk (by decide)]; exact h.2.1, by rw [mset_gk (by decide)]; exact h.2.2.1, h.2.2.2.1, fun r hr => by rw [mset_gk (by omega)]; exact h.2.2.2.2.1 r hr, by rw [mset_gk (by omega)]; exact h.2.2.2.2.2⟩
/-- the lowest of the greatest -/
def bst (f : Nat → Int32) : Nat → Nat → Nat → Nat
  | 0, _, r => r
  | m + 1, k, r => bst f m (k + 1) (if f r < f k then k else r)
theorem bst_lt (f : Nat → Int32) : ∀ (m k r n : Nat), k + m ≤ n → r < n → bst f m k r < n
  | 0, _, _, _, _, hr => hr
  | m + 1, k, r, n, hk, hr => by
    unfold bst
    refine bst_lt f m (k + 1) _ n (by omega) ?_
    split <;> omega
theorem bst_le (f : Nat → Int32) : ∀ (m k r : Nat), (f r).toInt ≤ (f (bst f m k r)).toInt ∧ ∀ i, k ≤ i → i < k + m → (f i).toInt ≤ (f (bst f m k r)).toInt
  | 0, k, r => ⟨Int.le_refl _, fun i a b => absurd b (by omega)⟩
  | m + 1, k, r => by
    unfold bst
    obtain ⟨h1, h2⟩ := bst_le f m (k + 1) (if f r < f k then k else r)
    have h3 : (f r).toInt ≤ (f (if f r < f k then k else r)).toInt ∧ (f k).toInt ≤ (f (if f r < f k then k else r)).toInt := by
      by_cases c : f r < f k
      · rw [if_pos c]
        have := Int32.lt_iff_toInt_lt.mp c
        omega
      · rw [if_neg c]
        have := Int32.le_iff_toInt_le.mp (Int32.not_lt.mp c)
        omega
    refine ⟨Int.le_trans h3.1 h1, fun i a b => ?_⟩
    by_cases e : i = k
    · subst e
      exact Int.le_trans h3.2 h1
    · exact h2 i (by omega) (by omega)
theorem s_most_go (hn : μ (1, j, 2) 0 = nI n) (hn2 : n ≤ 16) : ∀ (m k r : Nat), k + m = n → r < n → Ev (fun F => run L S F d 12 4 [some (vR (1, j, 2)), some (vI (nI r)), some (vI (nI k))] μ) (nI (bst (μ (1, j, 5)) m k r), μ) := by
  intro m
  induction m with
  | zero =>
    intro k r hk hr
    have hk : k = n := by omega
    subst hk
    refine Ev.step ?_
    simp only [e12_4]
    simp only [hn, if_neg (nI_nlt (Nat.le_refl k) (show k < 2 ^ 31 by omega))]
    exact Ev.ret
  | succ m ih =>
    intro k r hk hr
    refine Ev.step ?_
    simp only [e12_4]
    simp only [hn, if_pos (nI_lt (show k < n by omega) (show n < 2 ^ 31 by omega)), inb_n (show k < 16 by omega) (by decide), inb_n (show r < 16 by omega) (by decide), cond_true, nI_clamp (show k < 2 ^ 31 by omega), nI_clamp (show r < 2 ^ 31 by omega), nI_1]
    by_cases c : μ (1, j, 5) r < μ (1, j, 5) k
    · simp only [if_pos c]
      have := ih (k + 1) k (by omega) (by omega)
      unfold bst
      rw [if_pos c]
      exact this
    · simp only [if_neg c]
      have := ih (k + 1) r (by omega) hr
      unfold bst
      rw [if_neg c]
      exact this
theorem s_most (hn : μ (1, j, 2) 0 = nI n) (hn1 : 1 ≤ n) (hn2 : n ≤ 16) : Ev (fun F => run L S F d 12 0 [some (vR (1, j, 2)), none, none] μ) (nI (bst (μ (1, j, 5)) (n - 1) 1 0), μ) := by
  refine Ev.step ?_
  simp only [e12_0]
  exact s_most_go hn hn2 (n - 1) 1 0 (by omega) (by omega)
/-- the reference's greatest, from 0 on -/
theorem m_peak_go (hn : μ' (2, 0, 1) 0 = nI n) (hn2 : n ≤ 16) : ∀ (m k : Nat) (v : Int32), k + m = n → ∃ v', Ev (fun F => run L S F (d + 1) 201 27 [some (vR (2, 0, 0)), some (vI (nI k))] (mset μ' (2, 0, 0) 9 v)) (0, mset μ' (2, 0, 0) 9 v') ∧ v.toInt ≤ v'.toInt ∧ (∀ i, k ≤ i → i < n → (μ' (2, 0, 1) (60 + i)).toInt ≤ v'.toInt) ∧ (v' = v ∨ ∃ i, i < n ∧ v' = μ' (2, 0, 1) (60 + i)) := by
  intro m
  induction m with
  | zero =>
    intro k v hk
    have hk : k = n := by omega
    subst hk
    refine ⟨v, Ev.step ?_, Int.le_refl _, fun i a b => absurd b (by omega), Or.inl rfl⟩
    simp only [e201_27]
    simp only [mset_ne (show ((2, 0, 1) : Ad) ≠ (2, 0, 0) by decide), hn, if_neg (nI_nlt (Nat.le_refl k) (show k < 2 ^ 31 by omega))]
    exact Ev.ret
  | succ m ih =>
    intro k v hk
    have mm : ∀ x, mset (mset μ' (2, 0, 0) 9 v) (2, 0, 0) 9 x = mset μ' (2, 0, 0) 9 x := fun x => by
      funext q i
      unfold mset
      split <;> rfl
    by_cases c : v < μ' (2, 0, 1) (60 + k)
    · obtain ⟨v', a1, a2, a3, a4⟩ := ih (k + 1) (μ' (2, 0, 1) (60 + k)) (by omega)
      have c' := Int32.lt_iff_toInt_lt.mp c
      refine ⟨v', Ev.step ?_, by omega, fun i x y => ?_, ?_⟩
      · simp only [e201_27]
        simp only [mset_ne (show ((2, 0, 1) : Ad) ≠ (2, 0, 0) by decide), hn, if_pos (nI_lt (show k < n by omega) (show n < 2 ^ 31 by omega)), a60, inb_n (show 60 + k < 1278 by omega) (by decide), cond_true, nI_clamp (show 60 + k < 2 ^ 31 by omega), mset_gg, if_pos c, nI_1, mm]
        exact a1
      · by_cases e : i = k
        · subst e; exact a2
        · exact a3 i (by omega) y
      · rcases a4 with x | x
        · exact Or.inr ⟨k, by omega, x⟩
        · exact Or.inr x
    · obtain ⟨v', a1, a2, a3, a4⟩ := ih (k + 1) v (by omega)
      have c' := Int32.le_iff_toInt_le.mp (Int32.not_lt.mp c)
      refine ⟨v', Ev.step ?_, a2, fun i x y => ?_, a4⟩
      · simp only [e201_27]
        simp only [mset_ne (show ((2, 0, 1) : Ad) ≠ (2, 0, 0) by decide), hn, if_pos (nI_lt (show k < n by omega) (show n < 2 ^ 31 by omega)), a60, inb_n (show 60 + k < 1278 by omega) (by decide), cond_true, nI_clamp (show 60 + k < 2 ^ 31 by omega), mset_gg, if_neg c, nI_1, mm]
        exact a1
      · by_cases e : i = k
        · subst e; omega
        · exact a3 i (by omega) y
end AS
