/-! disturbing: both sides -/
theorem mset_g {μ : Mm} {c : Nat} {j : Fin 15} {o o' k k' : Nat} {v : Int32} : mset μ (c, j, o) k v (c, j, o') k' = if o' = o ∧ k' = k then v else μ (c, j, o') k' := by
  unfold mset
  simp
section DS
variable {L : Nat} {S : Ad → Nat → Int32} {F d n q w e : Nat} {z : Int32} {j : Fin 15} {b : Bool} {μ μ' : Mm}
theorem s_inN (hF : 1 ≤ F) {x : Int32} (hn1 : 1 ≤ n) (hn2 : n ≤ 16) : run L S F d 127 0 [some (vL x.toInt64), none, some (vL (0 : Int32).toInt64), none, some (vL (nI n - 1).toInt64), none] μ = some (if 0 ≤ x.toInt ∧ x.toInt < n then 1 else 0, μ) := by
  rw [s_within hF]
  have e : (nI n - 1).toInt = (n : Int) - 1 := by
    rw [Kit.i32_sub (by rw [nI_toInt (by omega)]; simp; omega) (by rw [nI_toInt (by omega)]; simp; omega), nI_toInt (by omega)]
    rfl
  rw [e]
  have e0 : (0 : Int32).toInt = 0 := rfl
  rw [e0]
  by_cases h : 0 ≤ x.toInt ∧ x.toInt < n
  · rw [if_pos (by omega), if_pos h]
  · rw [if_neg (by omega), if_neg h]
theorem not_in {x : Int32} (hn : n ≤ 16) (h : x < 0 ∨ nI n ≤ x) : ¬ (0 ≤ x.toInt ∧ x.toInt < n) := by
  rcases h with h | h
  · have := Int32.lt_iff_toInt_lt.mp h
    simp at this
    omega
  · have := Int32.le_iff_toInt_le.mp h
    rw [nI_toInt (by omega)] at this
    omega
theorem nI_in' {p : Nat} (hp : p < n) (hn : n ≤ 16) : 0 ≤ (nI p).toInt ∧ (nI p).toInt < n := by
  rw [nI_toInt (by omega)]
  omega
/-- disturbing a place, the class -/
theorem c_dist {p r : Nat} {by' lim : Int32} (hF : 1 ≤ F) (h : R n q w z e j b μ μ') (hp : p < n) (hr : r < n) (h1 : μ (1, j, 4) p = nI r) :
    run L S F d 9 0 [some (vR (1, j, 2)), some (vI (nI p)), some (vI by'), some (vI lim), none, none] μ =
      (let μ1 := mset (mset μ (1, j, 5) r (μ' (2, 0, 1) (60 + r) + by')) (1, j, 2) 3 (mmax (μ (1, j, 2) 3) (μ' (2, 0, 1) (60 + r) + by'))
      if μ' (2, 0, 1) (60 + r) < lim then (if μ' (2, 0, 1) (60 + r) + by' < lim then some (0, μ1) else some (1, mset (mset μ1 (1, j, 2) 1 (μ' (2, 0, 1) 12 ||| ((1 : Int32) <<< (nI r &&& 31)))) (1, j, 8) r (μ' (2, 0, 1) (124 + r) ^^^ μ' (2, 0, 1) (156 + r)))) else some (0, μ1)) := by
  obtain ⟨F, rfl, hF'⟩ := fz hF
  have hN := h.hn
  have g5 : μ (1, j, 5) r = μ' (2, 0, 1) (60 + r) := h.lc 5 r (60 + r) (by simp [loc, hr]) (by omega)
  have g8 : μ (1, j, 8) r = μ' (2, 0, 1) (124 + r) := h.lc 8 r (124 + r) (by simp [loc, hr]) (by omega)
  have g10 : μ (1, j, 10) r = μ' (2, 0, 1) (156 + r) := h.lc 10 r (156 + r) (by simp [loc, hr]) (by omega)
  have g12 : μ (1, j, 2) 1 = μ' (2, 0, 1) 12 := h.lc 2 1 12 rfl (by omega)
  rw [e9_0, if_neg (nI_pos (by omega)), hN.1, if_pos (nI_lt hp (by omega)), if_pos (show nI p < 16 from nI_lt (b := 16) (by omega) (by decide))]
  simp [inb_n (show p < 16 by omega) (by decide), inb_n (show r < 16 by omega) (by decide), nI_clamp (show p < 2 ^ 31 by omega), nI_clamp (show r < 2 ^ 31 by omega), h1, g5, g8, g10, g12, mset_g]
/-- the reference -/
theorem m_dist {p r : Nat} {by' : Int32} (hF : 25 ≤ F) (hd : 1 ≤ d) (h : R n q w z e j b μ μ') (hp : p < n) (hr : r < n) (h2 : μ' (2, 0, 1) (44 + r) = nI p) (hu : ∀ k, k < n → μ' (2, 0, 1) (44 + k) = nI p → k = r) :
    run L S F d 134 0 [some (vR (2, 0, 0)), some (vI (nI p)), some (vI by'), none, none] μ' =
      (let μ1 := mset (mset μ' (2, 0, 1) (60 + r) (μ' (2, 0, 1) (60 + r) + by')) (2, 0, 0) 9 (mmax (μ' (2, 0, 0) 9) (μ' (2, 0, 1) (60 + r) + by'))
      if μ' (2, 0, 1) (60 + r) < μ' (2, 0, 1) 27 then (if μ' (2, 0, 1) (60 + r) + by' < μ' (2, 0, 1) 27 then some (0, μ1) else some (0, mset (mset (mset μ1 (2, 0, 1) 12 (μ' (2, 0, 1) 12 ||| ((1 : Int32) <<< (nI r &&& 31)))) (2, 0, 1) (124 + r) (μ' (2, 0, 1) (124 + r) ^^^ μ' (2, 0, 1) (156 + r))) (2, 0, 1) 16 (μ' (2, 0, 1) 16 + 1))) else some (0, μ1)) := by
  obtain ⟨F, rfl, hF'⟩ := fz hF
  obtain ⟨d, rfl, hd'⟩ := fz hd
  have hN := h.hn
  rw [e134_0]
  simp only [hN.2.1, s_inN (show 1 ≤ F by omega) (show 1 ≤ n by omega) hN.2.2.2, Option.bind_some, if_pos (nI_in' hp hN.2.2.2), s_rowAt (show 18 ≤ F by omega) hN.2.2.2 hr h2 hu, a60, a124, a156, inb_n (show 60 + r < 1278 by omega) (by decide), inb_n (show 124 + r < 1278 by omega) (by decide), inb_n (show 156 + r < 1278 by omega) (by decide), cond_true, nI_clamp (show 60 + r < 2 ^ 31 by omega), nI_clamp (show 124 + r < 2 ^ 31 by omega), nI_clamp (show 156 + r < 2 ^ 31 by omega), mset_g, show ¬ (27 = 60 + r) by omega, show ¬ (12 = 60 + r) by omega, show ¬ (124 + r = 60 + r) by omega, show ¬ (156 + r = 60 + r) by omega, show ¬ (16 = 60 + r) by omega, show ¬ (124 + r = 12) by omega, show ¬ (156 + r = 12) by omega, show ¬ (16 = 124 + r) by omega]
  simp [mmax]
  split <;> split <;> simp
end DS
