/-! runs without counting; a bank is copied -/
def Ev (f : Nat → Option Rz) (v : Rz) : Prop := ∃ F0, ∀ F, F0 ≤ F → f F = some v
theorem Ev.step {f : Nat → Option Rz} {v : Rz} (h : Ev (fun F => f (F + 1)) v) : Ev f v := by
  obtain ⟨F0, h0⟩ := h
  refine ⟨F0 + 1, fun F hF => ?_⟩
  obtain ⟨F, rfl, hF'⟩ := fz hF
  exact h0 F hF'
theorem Ev.bind {f : Nat → Option Rz} {g : Nat → Rz → Option Rz} {p v : Rz} (h : Ev f p) (h2 : Ev (fun F => g F p) v) : Ev (fun F => (f F).bind (g F)) v := by
  obtain ⟨F0, h0⟩ := h
  obtain ⟨F1, h1⟩ := h2
  refine ⟨F0 + F1, fun F hF => ?_⟩
  show (f F).bind (g F) = some v
  rw [h0 F (by omega), Option.bind_some]
  exact h1 F (by omega)
theorem Ev.ret {v : Rz} : Ev (fun _ => some v) v := ⟨0, fun _ _ => rfl⟩
theorem Ev.at {f : Nat → Option Rz} {v : Rz} (F0 : Nat) (h : ∀ F, F0 ≤ F → f F = some v) : Ev f v := ⟨F0, h⟩
theorem Ev.uq {f : Nat → Option Rz} {v v' : Rz} (h : Ev f v) (h' : Ev f v') : v = v' := by
  obtain ⟨F0, h0⟩ := h
  obtain ⟨F1, h1⟩ := h'
  exact Option.some.inj ((h0 (F0 + F1) (by omega)).symm.trans (h1 (F0 + F1) (by omega)))
theorem Ev.dp {L : Nat} {S : Ad → Nat → Int32} {d d' k pc : Nat} {l : Lc} {μ : Mm} {v : Rz} (h : Ev (fun F => run L S F d k pc l μ) v) (hd : d ≤ d') : Ev (fun F => run L S F d' k pc l μ) v := by
  obtain ⟨F0, h0⟩ := h
  exact ⟨F0, fun F hF => run_up (h0 F hF) (Nat.le_refl _) hd⟩
theorem tc0 : Int32.toNatClampNeg 0 = 0 := by decide
theorem tc4 : Int32.toNatClampNeg 4 = 4 := by decide
theorem tc8 : Int32.toNatClampNeg 8 = 8 := by decide
theorem tc9 : Int32.toNatClampNeg 9 = 9 := by decide
theorem tc16 : Int32.toNatClampNeg 16 = 16 := by decide
theorem tc17 : Int32.toNatClampNeg 17 = 17 := by decide
section CP
variable {L : Nat} {S : Ad → Nat → Int32} {d n q w e : Nat} {z : Int32} {i j j1 : Fin 15} {b b1 : Bool} {μ μ' μ1 μ1' μ2 : Mm} {D D1 D2 : Nat → Nat → Prop}
/-- the places D of bank j have what bank i has -/
def CpR (i j : Fin 15) (D : Nat → Nat → Prop) (μ μ1 : Mm) : Prop := (∀ o k, D o k → μ1 (1, j, o) k = μ (1, i, o) k) ∧ (∀ o k, ¬ D o k → μ1 (1, j, o) k = μ (1, j, o) k) ∧ ∀ q : Ad, ¬ (q.1 = 1 ∧ q.2.1 = j) → μ1 q = μ q
theorem CpR.rf : CpR i j (fun _ _ => False) μ μ := ⟨fun _ _ h => h.elim, fun _ _ _ => rfl, fun _ _ => rfl⟩
theorem CpR.src (h : CpR i j D μ μ1) (hij : i ≠ j) (o : Nat) : μ1 (1, i, o) = μ (1, i, o) := h.2.2 _ (fun x => hij x.2)
theorem CpR.set (h : CpR i j D μ μ1) (hij : i ≠ j) {o0 k0 : Nat} : CpR i j (fun o k => D o k ∨ (o = o0 ∧ k = k0)) μ (mset μ1 (1, j, o0) k0 (μ1 (1, i, o0) k0)) := by
  refine ⟨fun o k hd => ?_, fun o k hd => ?_, fun q hq => ?_⟩
  · rw [mset_g]
    by_cases c : o = o0 ∧ k = k0
    · rw [if_pos c, c.1, c.2, h.src hij]
    · rw [if_neg c]
      exact h.1 o k (by rcases hd with x | x; exact x; exact absurd x c)
  · rw [mset_g, if_neg (fun x => hd (Or.inr x))]
    exact h.2.1 o k (fun x => hd (Or.inl x))
  · rw [mset_ne (fun e => hq (by rw [e]; exact ⟨rfl, rfl⟩))]
    exact h.2.2 q hq
theorem CpR.cpy (h : CpR i j D μ μ1) (hij : i ≠ j) {o0 m : Nat} : CpR i j (fun o k => D o k ∨ (o = o0 ∧ k < m)) μ (mcpy μ1 (1, i, o0) 0 (1, j, o0) 0 m) := by
  refine ⟨fun o k hd => ?_, fun o k hd => ?_, fun q hq => ?_⟩
  · unfold mcpy
    by_cases c : o = o0 ∧ k < m
    · rw [if_pos ⟨by rw [c.1], Nat.zero_le _, by omega⟩, c.1, h.src hij, Nat.zero_add, Nat.sub_zero]
    · rw [if_neg (fun x => c ⟨by have := x.1; simp only [Prod.mk.injEq] at this; exact this.2.2, by omega⟩)]
      exact h.1 o k (by rcases hd with x | x; exact x; exact absurd x c)
  · unfold mcpy
    rw [if_neg (fun x => hd (Or.inr ⟨by have := x.1; simp only [Prod.mk.injEq] at this; exact this.2.2, by omega⟩))]
    exact h.2.1 o k (fun x => hd (Or.inl x))
  · unfold mcpy
    funext k
    rw [if_neg (fun x => hq (by rw [x.1]; exact ⟨rfl, rfl⟩)), h.2.2 q hq]
theorem CpR.tr (h : CpR i j D1 μ μ1) (h2 : CpR i j D2 μ1 μ2) (hij : i ≠ j) : CpR i j (fun o k => D1 o k ∨ D2 o k) μ μ2 := by
  refine ⟨fun o k hd => ?_, fun o k hd => ?_, fun q hq => (h2.2.2 q hq).trans (h.2.2 q hq)⟩
  · by_cases c : D2 o k
    · rw [h2.1 o k c, h.src hij]
    · rw [h2.2.1 o k c]
      exact h.1 o k (by rcases hd with x | x; exact x; exact absurd x c)
  · rw [h2.2.1 o k (fun x => hd (Or.inr x))]
    exact h.2.1 o k (fun x => hd (Or.inl x))
theorem s_cp3 (hij : i ≠ j) : ∃ (D : Nat → Nat → Prop) (μ1 : Mm), Ev (fun F => run L S F d 3 0 [some (vR (1, j, 2)), some (vR (1, i, 2))] μ) (0, μ1) ∧ CpR i j D μ μ1 ∧ ∀ o k, (o = 2 ∧ k < 3) ∨ (3 ≤ o ∧ o ≤ 10 ∧ k < 16) → D o k := by
  have c : CpR i j _ μ _ := ((((((((((((CpR.rf (μ := μ)).set hij (o0 := 2) (k0 := 0)).set hij (o0 := 2) (k0 := 1)).set hij (o0 := 2) (k0 := 2)).cpy hij (o0 := 3) (m := 16)).cpy hij (o0 := 4) (m := 16)).cpy hij (o0 := 5) (m := 16)).cpy hij (o0 := 6) (m := 16)).cpy hij (o0 := 7) (m := 16)).cpy hij (o0 := 8) (m := 16)).cpy hij (o0 := 9) (m := 16)).cpy hij (o0 := 10) (m := 16))
  refine ⟨_, _, Ev.step ?_, c, ?_⟩
  · simp only [e3_0, show cpyok 0 0 16 16 16 = true by decide, cond_true, tc0, tc16]
    exact Ev.ret
  · intro o k h
    omega
theorem s_cp14 (hij : i ≠ j) : ∃ (D : Nat → Nat → Prop) (μ1 : Mm), Ev (fun F => run L S F d 14 0 [some (vR (1, j, 11)), some (vR (1, i, 11))] μ) (0, μ1) ∧ CpR i j D μ μ1 ∧ ∀ o k, (o = 11 ∧ k < 3) ∨ (12 ≤ o ∧ o ≤ 17 ∧ k < 8) ∨ (o = 15 ∧ k < 16) → D o k := by
  have c : CpR i j _ μ _ := ((((((((((CpR.rf (μ := μ)).set hij (o0 := 11) (k0 := 0)).set hij (o0 := 11) (k0 := 1)).set hij (o0 := 11) (k0 := 2)).cpy hij (o0 := 12) (m := 8)).cpy hij (o0 := 13) (m := 8)).cpy hij (o0 := 14) (m := 8)).cpy hij (o0 := 15) (m := 16)).cpy hij (o0 := 16) (m := 8)).cpy hij (o0 := 17) (m := 8))
  refine ⟨_, _, Ev.step ?_, c, ?_⟩
  · simp only [e14_0, show cpyok 0 0 16 16 16 = true by decide, show cpyok 0 0 8 8 8 = true by decide, cond_true, tc0, tc16, tc8]
    exact Ev.ret
  · intro o k h
    omega
theorem cpyok_n {k n : Nat} (h : k ≤ n) (hn : n < 2 ^ 31) : cpyok 0 0 (nI k) n n = true := by
  unfold cpyok
  have z0 : (0 : Int32).toInt = 0 := rfl
  rw [nI_toInt (by omega), z0]
  simp
  omega
theorem s_cp26 (hij : i ≠ j) (hw : μ (1, i, 18) 0 = nI w) (hw2 : w ≤ 99) : ∃ (D : Nat → Nat → Prop) (μ1 : Mm), Ev (fun F => run L S F d 26 0 [some (vR (1, j, 18)), some (vR (1, i, 18))] μ) (0, μ1) ∧ CpR i j D μ μ1 ∧ ∀ o k, (o = 18 ∧ k = 0) ∨ (19 ≤ o ∧ o ≤ 20 ∧ k < w) → D o k := by
  have c : CpR i j _ μ _ := ((((CpR.rf (μ := μ)).set hij (o0 := 18) (k0 := 0)).cpy hij (o0 := 19) (m := w)).cpy hij (o0 := 20) (m := w))
  refine ⟨_, _, Ev.step ?_, c, ?_⟩
  · simp only [e26_0, hw, mset_gg, cpyok_n hw2 (show 99 < 2 ^ 31 by decide), cond_true, tc0, nI_clamp (show w < 2 ^ 31 by omega)]
    have g : mcpy (mset μ (1, j, 18) 0 (nI w)) (1, i, 19) 0 (1, j, 19) 0 w (1, j, 18) 0 = nI w := by
      unfold mcpy
      rw [if_neg (by simp), mset_gg]
    simp only [g, cpyok_n hw2 (show 99 < 2 ^ 31 by decide), cond_true, nI_clamp (show w < 2 ^ 31 by omega)]
    exact Ev.ret
  · intro o k h
    omega
theorem s_cp30 (hij : i ≠ j) (hq : μ (1, i, 21) 0 = nI q) (hq2 : q ≤ 16) : ∃ (D : Nat → Nat → Prop) (μ1 : Mm), Ev (fun F => run L S F d 30 0 [some (vR (1, j, 21)), some (vR (1, i, 21))] μ) (0, μ1) ∧ CpR i j D μ μ1 ∧ ∀ o k, (o = 21 ∧ k < 2) ∨ (o = 22 ∧ k < q) → D o k := by
  have c : CpR i j _ μ _ := ((((CpR.rf (μ := μ)).set hij (o0 := 21) (k0 := 0)).set hij (o0 := 21) (k0 := 1)).cpy hij (o0 := 22) (m := q))
  refine ⟨_, _, Ev.step ?_, c, ?_⟩
  · simp only [e30_0, mset_gk (show (0 : Nat) ≠ 1 by decide), mset_gg, hq, cpyok_n hq2 (show 16 < 2 ^ 31 by decide), cond_true, tc0, nI_clamp (show q < 2 ^ 31 by omega)]
    exact Ev.ret
  · intro o k h
    omega
/-- the places of a bank that count -/
def CPl (q w o k : Nat) : Prop := (o = 0 ∧ 5 ≤ k ∧ k ≤ 9) ∨ (o = 1 ∧ k < 17) ∨ (o = 2 ∧ k < 3) ∨ (3 ≤ o ∧ o ≤ 10 ∧ k < 16) ∨ (o = 11 ∧ k < 3) ∨ (12 ≤ o ∧ o ≤ 17 ∧ k < 8) ∨ (o = 15 ∧ k < 16) ∨ (o = 18 ∧ k = 0) ∨ (19 ≤ o ∧ o ≤ 20 ∧ k < w) ∨ (o = 21 ∧ k < 2) ∨ (o = 22 ∧ k < q) ∨ (o = 23 ∧ k < 4) ∨ (o = 24 ∧ k < 9)
theorem s_copy (hij : i ≠ j) (hw : μ (1, i, 18) 0 = nI w) (hw2 : w ≤ 99) (hq : μ (1, i, 21) 0 = nI q) (hq2 : q ≤ 16) : ∃ (μ1 : Mm), Ev (fun F => run L S F (d + 1) 35 0 [some (vR (1, j, 0)), some (vR (1, i, 0))] μ) (0, μ1) ∧ (∀ o k, CPl q w o k → μ1 (1, j, o) k = μ (1, i, o) k) ∧ FCo j μ μ1 := by
  have c0 : CpR i j _ μ (mcpy μ (1, i, 1) 0 (1, j, 1) 0 17) := CpR.rf.cpy hij
  obtain ⟨D3, ν3, a3, b3, d3⟩ := s_cp3 (L := L) (S := S) (d := d) (μ := mcpy μ (1, i, 1) 0 (1, j, 1) 0 17) hij
  obtain ⟨D4, ν4, a4, b4, d4⟩ := s_cp14 (L := L) (S := S) (d := d) (μ := ν3) hij
  have c1 := (c0.tr b3 hij).tr b4 hij
  obtain ⟨D5, ν5, a5, b5, d5⟩ := s_cp26 (L := L) (S := S) (d := d) (μ := ν4) (w := w) hij (by rw [c1.src hij, hw]) hw2
  have c2 := c1.tr b5 hij
  obtain ⟨D6, ν6, a6, b6, d6⟩ := s_cp30 (L := L) (S := S) (d := d) (μ := ν5) (q := q) hij (by rw [c2.src hij, hq]) hq2
  have c3 := (((((((c2.tr b6 hij).set hij (o0 := 0) (k0 := 5)).set hij (o0 := 0) (k0 := 6)).set hij (o0 := 0) (k0 := 7)).set hij (o0 := 0) (k0 := 8)).set hij (o0 := 0) (k0 := 9)).cpy hij (o0 := 23) (m := 4)).cpy hij (o0 := 24) (m := 9)
  refine ⟨_, Ev.step ?_, fun o k h => c3.1 o k ?_, fun q hq => c3.2.2 q hq⟩
  · simp only [e35_0, show cpyok 0 0 17 17 17 = true by decide, show cpyok 0 0 4 4 4 = true by decide, show cpyok 0 0 9 9 9 = true by decide, cond_true, tc0, tc17, tc4, tc9]
    exact Ev.bind a3 (Ev.bind a4 (Ev.bind a5 (Ev.bind a6 Ev.ret)))
  · rcases h with h | h | h | h | h | h | h | h | h | h | h | h | h
    · have : k = 5 ∨ k = 6 ∨ k = 7 ∨ k = 8 ∨ k = 9 := by omega
      rcases this with rfl | rfl | rfl | rfl | rfl <;> simp [h.1]
    · simp [h.1, h.2]
    · simp [d3 o k (Or.inl h)]
    · simp [d3 o k (Or.inr h)]
    · simp [d4 o k (Or.inl h)]
    · simp [d4 o k (Or.inr (Or.inl h))]
    · simp [d4 o k (Or.inr (Or.inr h))]
    · simp [d5 o k (Or.inl h)]
    · simp [d5 o k (Or.inr h)]
    · simp [d6 o k (Or.inl h)]
    · simp [d6 o k (Or.inr h)]
    · simp [h.1, h.2]
    · simp [h.1, h.2]
/-- R of what was copied -/
theorem R.cp (h : R n q w z 1000 j b μ μ') (hc : ∀ o k, CPl q w o k → μ1 (1, j1, o) k = μ (1, j, o) k) (hm : ∀ i, i < 426 → μ1' (2, 0, 1) i = μ' (2, 0, 1) i) (hp : b1 = true → μ1 (1, j1, 2) 3 = μ1' (2, 0, 0) 9) : R n q w z 1000 j1 b1 μ1 μ1' := by
  have hN := h.hn
  refine ⟨⟨fun o k i hl hi => ?_, by omega⟩, ?_, ?_, ?_, ?_, h.rg.keep (fun i hi => hm i (by omega)), h.se.keep (fun i hi => hm i (by omega)), ?_, hp⟩
  · have h0 := h.1.1 o k i hl hi
    rw [hm i (by have := loc_lt hN.2.2.2 hl; omega), hc o k ?_, h0]
    unfold loc at hl
    unfold CPl
    split at hl <;> (repeat' split at hl) <;> first
      | (cases hl; done)
      | omega
  · obtain ⟨w1, w2, w3⟩ := h.wt
    refine ⟨by rw [hm 5 (by omega)]; exact w1, w2, fun k hk => ?_⟩
    rw [hm (228 + k) (by omega), hm (327 + k) (by omega), hc 19 k (by unfold CPl; omega), hc 20 k (by unfold CPl; omega)]; exact w3 k hk
  · obtain ⟨q1, q2, q3, q4, q5⟩ := h.qu
    refine ⟨by rw [hm 4 (by omega)]; exact q1, q2, fun k hk => ?_, fun k k' hk hk' => ?_, fun r hr => ?_⟩
    · rw [hm (212 + k) (by omega), hc 22 k (by unfold CPl; omega)]; exact q3 k hk
    · rw [hm (212 + k) (by omega), hm (212 + k') (by omega)]; exact q4 k k' hk hk'
    · rw [hc 21 1 (by unfold CPl; omega)]
      refine (q5 r hr).trans ⟨fun ⟨k, a1, a2⟩ => ⟨k, a1, by rw [hm (212 + k) (by omega)]; exact a2⟩, fun ⟨k, a1, a2⟩ => ⟨k, a1, by rw [hm (212 + k) (by omega)] at a2; exact a2⟩⟩
  · obtain ⟨p1, p2⟩ := h.pm
    refine ⟨fun p hp1 => ?_, fun r hr => ?_⟩
    · obtain ⟨r, a1, a2, a3⟩ := p1 p hp1
      exact ⟨r, a1, by rw [hc 4 p (by unfold CPl; omega)]; exact a2, by rw [hc 3 r (by unfold CPl; omega)]; exact a3⟩
    · obtain ⟨p, a1, a2, a3⟩ := p2 r hr
      exact ⟨p, a1, by rw [hc 3 r (by unfold CPl; omega)]; exact a2, by rw [hc 4 p (by unfold CPl; omega)]; exact a3⟩
  · have hs := h.so
    unfold SoR at hs ⊢
    rw [hm 7 (by omega), hm 8 (by omega), hm 9 (by omega), hc 0 7 (by unfold CPl; omega)]
    exact hs
  · rw [hm 16 (by omega), hc 24 3 (by unfold CPl; omega)]
    exact h.hz
end CP
