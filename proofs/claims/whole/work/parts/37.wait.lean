/-! requests: one comes, one goes -/
section WA
variable {L : Nat} {S : Ad → Nat → Int32} {F d n q w e M : Nat} {z z1 : Int32} {j j1 : Fin 15} {b : Bool} {μ μ' μ1 μ1' : Mm}
theorem R.w5 (h : R n q w z e j b μ μ') (he : e = 1000) : μ (1, j, 18) 0 = nI w := (h.1.1 18 0 5 rfl (by omega)).trans h.wt.1
theorem R.tm (h : R n q w z e j b μ μ') : μ (1, j, 0) 5 = μ' (2, 0, 1) 1 := h.lc 0 5 1 rfl (by omega)
/-- what stays while requests come and go -/
def FW (μ' μ1' : Mm) : Prop := ∀ i, i ≠ 5 → i < 228 → μ1' (2, 0, 1) i = μ' (2, 0, 1) i
theorem FW.rf : FW μ' μ' := fun _ _ _ => rfl
theorem FW.tr {μ μ1 μ2 : Mm} (h : FW μ μ1) (h2 : FW μ1 μ2) : FW μ μ2 := fun i a c => (h2 i a c).trans (h i a c)
theorem FW.ft (h : FW μ' μ1') : FT μ' μ1' := ⟨h 1 (by omega) (by omega), h 11 (by omega) (by omega), h 15 (by omega) (by omega)⟩
theorem R.ofW {w1 : Nat} (h : R n q w z 1000 j b μ μ') (hc : ∀ o k, o ≠ 18 → o ≠ 19 → o ≠ 20 → μ1 (1, j, o) k = μ (1, j, o) k) (hm : FW μ' μ1') (hf : μ1' (2, 0, 0) 9 = μ' (2, 0, 0) 9) (h18 : μ1 (1, j, 18) 0 = μ1' (2, 0, 1) 5) (hw : WtR n w1 j μ1 μ1') : R n q w1 z 1000 j b μ1 μ1' := by
  have hN := h.hn
  have hL : LocR n 1000 j μ1 μ1' := fun o k i hl hie => by
    have hi := loc_lt hN.2.2.2 hl
    by_cases e18 : o = 18
    · subst e18
      simp only [loc] at hl
      split at hl
      · rename_i e0
        subst e0
        have := Option.some.inj hl
        subst this
        exact h18
      · cases hl
    · have e19 : o ≠ 19 := fun x => by subst x; cases hl
      have e20 : o ≠ 20 := fun x => by subst x; cases hl
      have i5 : i ≠ 5 := fun x => by
        subst x
        have := loc_li hN.2.2.2 hl
        have e2 : li 5 = (18, 0) := rfl
        rw [e2] at this
        simp only [Prod.mk.injEq] at this
        exact e18 this.1.symm
      rw [hc o k e18 e19 e20, hm i i5 (by omega)]
      exact h.1.1 o k i hl hie
  refine ⟨⟨hL, by omega⟩, hw, h.qu.keep hN.2.2.2 (fun o k x => hc o k (by omega) (by omega) (by omega)) (fun i hi => hm i (by omega) (by omega)), h.pm.keep (fun o k x => hc o k (by omega) (by omega) (by omega)), h.so.keep (hc 0 7 (by omega) (by omega) (by omega)) (fun i hi => hm i (by omega) (by omega)), h.rg.keep (fun i hi => hm i (by omega) (by omega)), h.se.keep (fun i hi => hm i (by omega) (by omega)), ?_, fun hb => ?_⟩
  · rw [hm 16 (by omega) (by omega), hc 24 3 (by omega) (by omega) (by omega)]; exact h.hz
  · rw [hc 2 3 (by omega) (by omega) (by omega), hf]; exact h.pk hb
theorem p_add (h : R n q w z 1000 j b μ μ') {r : Nat} (hr : r < n) (hw : w < 99) : ∃ (μ1 μ1' : Mm), (∀ F d, 1 ≤ F → run L S F d 27 0 [some (vR (1, j, 18)), some (vI (nI r)), some (vI (μ' (2, 0, 1) 1))] μ = some (0, μ1)) ∧
    (∀ F d, 1 ≤ F → run L S F d 165 0 [some (vR (2, 0, 0)), some (vI (nI r))] μ' = some (0, μ1')) ∧ R n q (w + 1) z 1000 j b μ1 μ1' ∧ FC j μ μ1 ∧ FM 0 μ' μ1' ∧ FW μ' μ1' ∧ (∀ o k, o ≠ 18 → o ≠ 19 → o ≠ 20 → μ1 (1, j, o) k = μ (1, j, o) k) ∧ μ1' (2, 0, 0) = μ' (2, 0, 0) := by
  have c18 := h.w5 rfl
  obtain ⟨w1, w2, w3⟩ := h.wt
  have hm : FW μ' (mset (mset (mset μ' (2, 0, 1) (228 + w) (nI r)) (2, 0, 1) (327 + w) (μ' (2, 0, 1) 1)) (2, 0, 1) 5 (nI (w + 1))) := fun i a c => by rw [mset_gk a, mset_gk (by omega), mset_gk (by omega)]
  have hc : ∀ o k, o ≠ 18 → o ≠ 19 → o ≠ 20 → mset (mset (mset μ (1, j, 19) w (nI r)) (1, j, 20) w (μ' (2, 0, 1) 1)) (1, j, 18) 0 (nI (w + 1)) (1, j, o) k = μ (1, j, o) k := fun o k a c e => by rw [mset_go a, mset_go e, mset_go c]
  refine ⟨mset (mset (mset μ (1, j, 19) w (nI r)) (1, j, 20) w (μ' (2, 0, 1) 1)) (1, j, 18) 0 (nI (w + 1)), mset (mset (mset μ' (2, 0, 1) (228 + w) (nI r)) (2, 0, 1) (327 + w) (μ' (2, 0, 1) 1)) (2, 0, 1) 5 (nI (w + 1)), fun F d hF => ?_, fun F d hF => ?_, ?_, FC.rf.set.set.set, ((FM.rf.set (by omega)).set (by omega)).set (by omega), hm, hc, ?_⟩
  · obtain ⟨F, rfl, hF'⟩ := fz hF
    rw [e27_0]
    simp only [c18, if_pos (show nI w < 99 from nI_lt (b := 99) hw (by decide)), inb_n (show w < 99 by omega) (by decide), cond_true, nI_clamp (show w < 2 ^ 31 by omega), mset_go (show (18 : Nat) ≠ 19 by decide), mset_go (show (18 : Nat) ≠ 20 by decide), nI_1]
  · obtain ⟨F, rfl, hF'⟩ := fz hF
    rw [e165_0]
    simp only [w1, a228, inb_n (show 228 + w < 1278 by omega) (by decide), cond_true, nI_clamp (show 228 + w < 2 ^ 31 by omega), mset_gk (show 5 ≠ 228 + w by omega), mset_gk (show 1 ≠ 228 + w by omega), a327, inb_n (show 327 + w < 1278 by omega) (by decide), nI_clamp (show 327 + w < 2 ^ 31 by omega), mset_gk (show 5 ≠ 327 + w by omega), nI_1]
  · refine h.ofW hc hm (by rw [mset_ne (by decide), mset_ne (by decide), mset_ne (by decide)]) (by rw [mset_gg, mset_gg]) ⟨mset_gg, by omega, fun k hk => ?_⟩
    by_cases e : k = w
    · subst e
      refine ⟨?_, ?_, r, hr, ?_⟩
      · rw [mset_go (by decide), mset_go (by decide), mset_gg, mset_gk (by omega), mset_gk (by omega), mset_gg]
      · rw [mset_go (by decide), mset_gg, mset_gk (by omega), mset_gg]
      · rw [mset_gk (by omega), mset_gk (by omega), mset_gg]
    · have g1 : mset (mset (mset μ' (2, 0, 1) (228 + w) (nI r)) (2, 0, 1) (327 + w) (μ' (2, 0, 1) 1)) (2, 0, 1) 5 (nI (w + 1)) (2, 0, 1) (228 + k) = μ' (2, 0, 1) (228 + k) := by rw [mset_gk (by omega), mset_gk (by omega), mset_gk (by omega)]
      have g2 : mset (mset (mset μ' (2, 0, 1) (228 + w) (nI r)) (2, 0, 1) (327 + w) (μ' (2, 0, 1) 1)) (2, 0, 1) 5 (nI (w + 1)) (2, 0, 1) (327 + k) = μ' (2, 0, 1) (327 + k) := by rw [mset_gk (by omega), mset_gk (by omega), mset_gk (by omega)]
      rw [g1, g2, mset_go (by decide), mset_go (by decide), mset_gk e, mset_go (by decide), mset_gk e, mset_go (by decide)]
      exact w3 k (by omega)
  · funext k
    rw [mset_ne (by decide), mset_ne (by decide), mset_ne (by decide)]
theorem shl_mset {ν : Mm} {a q : Ad} {k lo hi : Nat} {v : Int32} (h : q ≠ a ∨ k < lo ∨ hi < k) : shl (mset ν q k v) a lo hi = mset (shl ν a lo hi) q k v := by
  funext q2 i
  unfold shl mset
  by_cases c : q2 = a ∧ lo ≤ i ∧ i < hi
  · rw [if_pos c]
    have e1 : ¬ (a = q ∧ i + 1 = k) := fun x => by
      rcases h with h | h
      · exact h x.1.symm
      · omega
    have e2 : ¬ (q2 = q ∧ i = k) := fun x => by
      rcases h with h | h
      · exact h (x.1.symm.trans c.1)
      · omega
    rw [if_neg e1, if_neg e2]
    exact (if_pos c).symm
  · rw [if_neg c]
    by_cases e2 : q2 = q ∧ i = k
    · rw [if_pos e2, if_pos e2]
    · rw [if_neg e2, if_neg e2]
      exact (if_neg c).symm
/-- the class's shifting -/
theorem s_rem_go {p : Nat} (hp : p ≤ 98) : ∀ (m k F : Nat) (μ : Mm), k + m = p → m + 1 ≤ F → μ (1, j, 18) 0 = nI p → run L S F d 28 12 [some (vR (1, j, 18)), none, some (vI (nI k))] μ = some (0, shl (shl μ (1, j, 19) k p) (1, j, 20) k p) := by
  intro m
  induction m with
  | zero =>
    intro k F μ hk hF h0
    obtain ⟨F, rfl, hF'⟩ := fz hF
    have hk : k = p := by omega
    subst hk
    rw [e28_12, h0, if_neg (nI_nlt (Nat.le_refl _) (by omega)), shl_id, shl_id]
  | succ m ih =>
    intro k F μ hk hF h0
    obtain ⟨F, rfl, hF'⟩ := fz hF
    rw [e28_12, h0, if_pos (nI_lt (by omega) (by omega))]
    simp only [nI_1, inb_n (show k + 1 < 99 by omega) (by decide), inb_n (show k < 99 by omega) (by decide), cond_true, nI_clamp (show k + 1 < 2 ^ 31 by omega), nI_clamp (show k < 2 ^ 31 by omega)]
    rw [ih (k + 1) F _ (by omega) hF' (by rw [mset_go (by decide), mset_go (by decide)]; exact h0), mset_go (show (20 : Nat) ≠ 19 by decide), shl_mset (Or.inl (by simp)), shl_step (by omega)]
    rw [show μ (1, j, 20) (k + 1) = shl μ (1, j, 19) k p (1, j, 20) (k + 1) from (shl_ne (by simp)).symm, shl_step (by omega)]
/-- the reference's, on the way to the rest -/
theorem m_rem_go {p : Nat} {x y : Int32} (hp : p ≤ 98) : ∀ (m k F : Nat) (μ : Mm), k + m = p → μ (2, 0, 1) 5 = nI p → run L S (F + m) (d + 1) 159 42 [some (vR (2, 0, 0)), none, some (vI x), some (vI y), some (vI (nI k))] μ = run L S F (d + 1) 159 42 [some (vR (2, 0, 0)), none, some (vI x), some (vI y), some (vI (nI p))] (shl (shl μ (2, 0, 1) (228 + k) (228 + p)) (2, 0, 1) (327 + k) (327 + p)) := by
  intro m
  induction m with
  | zero =>
    intro k F μ hk h0
    have hk : k = p := by omega
    subst hk
    rw [shl_id, shl_id]
    rfl
  | succ m ih =>
    intro k F μ hk h0
    rw [show F + (m + 1) = (F + m) + 1 by omega, e159_42]
    simp only [h0]
    rw [if_pos (nI_lt (by omega) (by omega))]
    simp only [a228, a327, nI_1, inb_n (show 228 + k + 1 < 1278 by omega) (by decide), inb_n (show 228 + k < 1278 by omega) (by decide), inb_n (show 327 + k + 1 < 1278 by omega) (by decide), inb_n (show 327 + k < 1278 by omega) (by decide), cond_true, nI_clamp (show 228 + k + 1 < 2 ^ 31 by omega), nI_clamp (show 228 + k < 2 ^ 31 by omega), nI_clamp (show 327 + k + 1 < 2 ^ 31 by omega), nI_clamp (show 327 + k < 2 ^ 31 by omega)]
    rw [ih (k + 1) F _ (by omega) (by rw [mset_gk (by omega), mset_gk (by omega)]; exact h0), mset_gk (show 327 + k + 1 ≠ 228 + k by omega), shl_mset (by omega), show 228 + (k + 1) = 228 + k + 1 by omega, shl_step (by omega), show 327 + (k + 1) = 327 + k + 1 by omega]
    rw [show μ (2, 0, 1) (327 + k + 1) = shl μ (2, 0, 1) (228 + k) (228 + p) (2, 0, 1) (327 + k + 1) from (shl_out (by omega)).symm, shl_step (by omega)]
/-- one goes -/
theorem R.rem {i : Nat} (h : R n q (w + 1) z 1000 j b μ μ') (hi : i ≤ w) : R n q w z 1000 j b (shl (shl (mset μ (1, j, 18) 0 (nI w)) (1, j, 19) i w) (1, j, 20) i w) (shl (shl (mset μ' (2, 0, 1) 5 (nI w)) (2, 0, 1) (228 + i) (228 + w)) (2, 0, 1) (327 + i) (327 + w)) := by
  obtain ⟨w1, w2, w3⟩ := h.wt
  have g228 : ∀ k, k < w → shl (shl (mset μ' (2, 0, 1) 5 (nI w)) (2, 0, 1) (228 + i) (228 + w)) (2, 0, 1) (327 + i) (327 + w) (2, 0, 1) (228 + k) = if i ≤ k then μ' (2, 0, 1) (228 + (k + 1)) else μ' (2, 0, 1) (228 + k) := fun k hk => by
    rw [shl_out (by omega)]
    by_cases c : i ≤ k
    · rw [if_pos c, shl_in (by omega), mset_gk (by omega)]; rfl
    · rw [if_neg c, shl_out (by omega), mset_gk (by omega)]
  have g327 : ∀ k, k < w → shl (shl (mset μ' (2, 0, 1) 5 (nI w)) (2, 0, 1) (228 + i) (228 + w)) (2, 0, 1) (327 + i) (327 + w) (2, 0, 1) (327 + k) = if i ≤ k then μ' (2, 0, 1) (327 + (k + 1)) else μ' (2, 0, 1) (327 + k) := fun k hk => by
    by_cases c : i ≤ k
    · rw [if_pos c, shl_in (by omega), shl_out (by omega), mset_gk (by omega)]; rfl
    · rw [if_neg c, shl_out (by omega), shl_out (by omega), mset_gk (by omega)]
  have g19 : ∀ k, k < w → shl (shl (mset μ (1, j, 18) 0 (nI w)) (1, j, 19) i w) (1, j, 20) i w (1, j, 19) k = if i ≤ k then μ (1, j, 19) (k + 1) else μ (1, j, 19) k := fun k hk => by
    rw [shl_ne (by simp)]
    by_cases c : i ≤ k
    · rw [if_pos c, shl_in (by omega), mset_go (by decide)]
    · rw [if_neg c, shl_out (by omega), mset_go (by decide)]
  have g20 : ∀ k, k < w → shl (shl (mset μ (1, j, 18) 0 (nI w)) (1, j, 19) i w) (1, j, 20) i w (1, j, 20) k = if i ≤ k then μ (1, j, 20) (k + 1) else μ (1, j, 20) k := fun k hk => by
    by_cases c : i ≤ k
    · rw [if_pos c, shl_in (by omega), shl_ne (by simp), mset_go (by decide)]
    · rw [if_neg c, shl_out (by omega), shl_ne (by simp), mset_go (by decide)]
  refine h.ofW (fun o k a c e => ?_) (fun k a c => ?_) ?_ ?_ ⟨?_, by omega, fun k hk => ?_⟩
  · rw [shl_ne (by simp [e]), shl_ne (by simp [c]), mset_go a]
  · rw [shl_out (by omega), shl_out (by omega), mset_gk a]
  · rw [shl_ne (by decide), shl_ne (by decide), mset_ne (by decide)]
  · rw [shl_ne (by simp), shl_ne (by simp), mset_gg, shl_out (by omega), shl_out (by omega), mset_gg]
  · rw [shl_out (by omega), shl_out (by omega), mset_gg]
  · rw [g228 k hk, g327 k hk, g19 k hk, g20 k hk]
    by_cases c : i ≤ k
    · rw [if_pos c, if_pos c, if_pos c, if_pos c]
      exact w3 (k + 1) (by omega)
    · rw [if_neg c, if_neg c, if_neg c, if_neg c]
      exact w3 k (by omega)
end WA
