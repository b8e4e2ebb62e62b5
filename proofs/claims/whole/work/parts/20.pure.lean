/-! pure rows: numbers, small methods without a state of their own -/
theorem inb_t {j : Int32} {n : Nat} (h1 : 0 ≤ j.toInt) (h2 : j.toInt < n) : inb j n = true := by simp [inb, h1, h2]
theorem inb_n {k n : Nat} (h : k < n) (hn : n < 2 ^ 31) : inb (nI k) n = true := inb_t (by rw [nI_toInt (by omega)]; omega) (by rw [nI_toInt (by omega)]; omega)
theorem fz {F c : Nat} (h : c + 1 ≤ F) : ∃ F', F = F' + 1 ∧ c ≤ F' := ⟨F - 1, by omega, by omega⟩
theorem a44 (r : Nat) : (44 : Int32) + nI r = nI (44 + r) := by rw [← nI_add]; rfl
theorem a60 (r : Nat) : (60 : Int32) + nI r = nI (60 + r) := by rw [← nI_add]; rfl
theorem a76 (r : Nat) : (76 : Int32) + nI r = nI (76 + r) := by rw [← nI_add]; rfl
theorem a92 (r : Nat) : (92 : Int32) + nI r = nI (92 + r) := by rw [← nI_add]; rfl
theorem a108 (r : Nat) : (108 : Int32) + nI r = nI (108 + r) := by rw [← nI_add]; rfl
theorem a124 (r : Nat) : (124 : Int32) + nI r = nI (124 + r) := by rw [← nI_add]; rfl
theorem a140 (r : Nat) : (140 : Int32) + nI r = nI (140 + r) := by rw [← nI_add]; rfl
theorem a156 (r : Nat) : (156 : Int32) + nI r = nI (156 + r) := by rw [← nI_add]; rfl
theorem a172 (r : Nat) : (172 : Int32) + nI r = nI (172 + r) := by rw [← nI_add]; rfl
theorem a180 (r : Nat) : (180 : Int32) + nI r = nI (180 + r) := by rw [← nI_add]; rfl
theorem a188 (r : Nat) : (188 : Int32) + nI r = nI (188 + r) := by rw [← nI_add]; rfl
theorem a196 (r : Nat) : (196 : Int32) + nI r = nI (196 + r) := by rw [← nI_add]; rfl
theorem a204 (r : Nat) : (204 : Int32) + nI r = nI (204 + r) := by rw [← nI_add]; rfl
theorem a212 (r : Nat) : (212 : Int32) + nI r = nI (212 + r) := by rw [← nI_add]; rfl
theorem a228 (r : Nat) : (228 : Int32) + nI r = nI (228 + r) := by rw [← nI_add]; rfl
theorem a327 (r : Nat) : (327 : Int32) + nI r = nI (327 + r) := by rw [← nI_add]; rfl
theorem narB0 : vp_nar .boolean 0 = 0 := by decide
theorem narB1 : vp_nar .boolean 1 = 1 := by decide
theorem narBI {c : Prop} [Decidable c] : vp_nar .boolean (if c then 1 else 0) = if c then 1 else 0 := by
  split
  · exact narB1
  · exact narB0
theorem lg_neg {x y : Int64} : lg_cmp x y < 0 ↔ x.toInt < y.toInt := by
  unfold lg_cmp
  split
  · rename_i h
    have := Int64.lt_iff_toInt_lt.mp h
    constructor
    · intro q; exact absurd q (by decide)
    · intro q; omega
  · rename_i h
    have h : ¬ y.toInt < x.toInt := fun q => h (Int64.lt_iff_toInt_lt.mpr q)
    split
    · rename_i e
      subst e
      constructor
      · intro q; exact absurd q (by decide)
      · intro q; omega
    · rename_i e
      have e : x.toInt ≠ y.toInt := fun q => e (Int64.toInt_inj.mp q)
      constructor
      · intro q; omega
      · intro q; decide
theorem lg_pos {x y : Int64} : 0 < lg_cmp x y ↔ y.toInt < x.toInt := by
  unfold lg_cmp
  split
  · rename_i h
    have := Int64.lt_iff_toInt_lt.mp h
    exact ⟨fun _ => this, fun _ => by decide⟩
  · rename_i h
    have h : ¬ y.toInt < x.toInt := fun q => h (Int64.lt_iff_toInt_lt.mpr q)
    split
    · rename_i e
      subst e
      constructor
      · intro q; exact absurd q (by decide)
      · intro q; omega
    · constructor
      · intro q; exact absurd q (by decide)
      · intro q; exact absurd q h
section PU
variable {L : Nat} {S : Ad → Nat → Int32} {F d : Nat} {μ : Mm}
theorem s_within (hF : 1 ≤ F) {x lo hi : Int32} : run L S F d 127 0 [some (vL x.toInt64), none, some (vL lo.toInt64), none, some (vL hi.toInt64), none] μ = some (if lo.toInt ≤ x.toInt ∧ x.toInt ≤ hi.toInt then 1 else 0, μ) := by
  obtain ⟨F, rfl, hF'⟩ := fz hF
  rw [e127_0]
  simp only [lg_neg, lg_pos, Int32.toInt_toInt64, narB0, narB1]
  by_cases h1 : x.toInt < lo.toInt
  · rw [if_pos h1, if_neg (by omega)]
  · rw [if_neg h1]
    by_cases h2 : hi.toInt < x.toInt
    · rw [if_pos h2, if_neg (by omega)]
    · rw [if_neg h2, if_pos (by omega)]
theorem s_isRow (hF : 2 ≤ F) (hd : 1 ≤ d) {x : Int32} {n : Nat} (hn : μ (2, 0, 1) 0 = nI n) (hn1 : 1 ≤ n) (hn2 : n ≤ 16) : run L S F d 131 0 [some (vR (2, 0, 0)), some (vI x)] μ = some (if 0 ≤ x.toInt ∧ x.toInt < n then 1 else 0, μ) := by
  obtain ⟨F, rfl, hF'⟩ := fz hF
  obtain ⟨d, rfl, hd'⟩ := fz hd
  rw [e131_0]
  simp only [s_within hF', Option.bind_some, hn, narBI]
  have e : (nI n - 1).toInt = (n : Int) - 1 := by
    rw [Kit.i32_sub (by rw [nI_toInt (by omega)]; simp; omega) (by rw [nI_toInt (by omega)]; simp; omega), nI_toInt (by omega)]
    rfl
  rw [e]
  have e0 : (0 : Int32).toInt = 0 := rfl
  rw [e0]
  by_cases h : 0 ≤ x.toInt ∧ x.toInt < n
  · rw [if_pos (by omega), if_pos h]
  · rw [if_neg (by omega), if_neg h]
/-- the row at a place, by looking along -/
theorem s_rowAt_go {p r n : Nat} (hn : n ≤ 16) (hr : r < n) (hp : μ (2, 0, 1) (44 + r) = nI p) (hu : ∀ k, k < n → μ (2, 0, 1) (44 + k) = nI p → k = r) : ∀ (m k F : Nat), r = k + m → m + 1 ≤ F → run L S F d 132 2 [some (vR (2, 0, 0)), some (vI (nI p)), some (vI (nI k))] μ = some (nI r, μ) := by
  intro m
  induction m with
  | zero =>
    intro k F hk hF
    obtain ⟨F, rfl, hF'⟩ := fz hF
    have hk : r = k := by omega
    subst hk
    rw [e132_2]
    simp only [a44, inb_n (show 44 + r < 1278 by omega) (by decide), cond_true, nI_clamp (show 44 + r < 2 ^ 31 by omega), hp, if_true]
  | succ m ih =>
    intro k F hk hF
    obtain ⟨F, rfl, hF'⟩ := fz hF
    rw [e132_2]
    have hne : ¬ μ (2, 0, 1) (44 + k) = nI p := fun q => by
      have := hu k (by omega) q
      omega
    simp only [a44, inb_n (show 44 + k < 1278 by omega) (by decide), cond_true, nI_clamp (show 44 + k < 2 ^ 31 by omega), if_neg hne, nI_1]
    exact ih (k + 1) F (by omega) hF'
theorem s_rowAt {p r n : Nat} (hF : 18 ≤ F) (hn : n ≤ 16) (hr : r < n) (hp : μ (2, 0, 1) (44 + r) = nI p) (hu : ∀ k, k < n → μ (2, 0, 1) (44 + k) = nI p → k = r) : run L S F d 132 0 [some (vR (2, 0, 0)), some (vI (nI p)), none] μ = some (nI r, μ) := by
  obtain ⟨F, rfl, hF'⟩ := fz hF
  rw [e132_0]
  exact s_rowAt_go hn hr hp hu r 0 F (by omega) (by omega)
/-- the class's own test of a row -/
theorem s_has (hF : 1 ≤ F) {j : Fin 15} {x : Int32} {n : Nat} (hn : μ (1, j, 2) 0 = nI n) (hn2 : n ≤ 16) : run L S F d 4 0 [some (vR (1, j, 2)), some (vI x)] μ = some (if 0 ≤ x.toInt ∧ x.toInt < n then 1 else 0, μ) := by
  obtain ⟨F, rfl, hF'⟩ := fz hF
  rw [e4_0]
  simp only [hn, narB0, narB1, Int32.lt_iff_toInt_lt, nI_toInt (show n < 2 ^ 31 by omega)]
  have e0 : (0 : Int32).toInt = 0 := rfl
  have e16 : (16 : Int32).toInt = 16 := rfl
  rw [e0, e16]
  by_cases h1 : x.toInt < 0
  · rw [if_pos h1, if_neg (by omega)]
  · rw [if_neg h1]
    by_cases h2 : x.toInt < n
    · rw [if_pos h2, if_pos (by omega), if_pos (by omega)]
    · rw [if_neg h2, if_neg (by omega)]
end PU
/-! the relation of a bank of the class and the reference's row -/
def loc (n o k : Nat) : Option Nat := match o with
  | 0 => if k = 5 then some 1 else if k = 6 then some 6 else if k = 8 then some 8 else if k = 9 then some 10 else none
  | 1 => if k < 17 then some (27 + k) else none
  | 2 => if k = 0 then some 0 else if k = 1 then some 12 else if k = 2 then some 26 else none
  | 3 => if k < n then some (44 + k) else none
  | 5 => if k < n then some (60 + k) else none
  | 6 => if k < n then some (76 + k) else none
  | 7 => if k < n then some (92 + k) else none
  | 8 => if k < n then some (124 + k) else none
  | 9 => if k < n then some (140 + k) else none
  | 10 => if k < n then some (156 + k) else none
  | 11 => if k = 0 then some 3 else if k = 1 then some 11 else if k = 2 then some 2 else none
  | 12 => if k < 8 then some (172 + k) else none
  | 13 => if k < 8 then some (180 + k) else none
  | 14 => if k < 8 then some (188 + k) else none
  | 15 => if k < 16 then some (108 + k) else none
  | 16 => if k < 8 then some (196 + k) else none
  | 17 => if k < 8 then some (204 + k) else none
  | 18 => if k = 0 then some 5 else none
  | 21 => if k = 0 then some 4 else none
  | 23 => if k < 4 then some (22 + k) else none
  | 24 => if k = 2 then none else if k = 3 then none else if k < 9 then some (13 + k) else none
  | _ => none
def li (i : Nat) : Nat × Nat :=
  if i = 0 then (2, 0) else if i = 1 then (0, 5) else if i = 2 then (11, 2) else if i = 3 then (11, 0) else if i = 4 then (21, 0) else if i = 5 then (18, 0) else if i = 6 then (0, 6) else if i = 8 then (0, 8) else if i = 10 then (0, 9) else if i = 11 then (11, 1) else if i = 12 then (2, 1)
  else if i < 22 then (24, i - 13) else if i < 26 then (23, i - 22) else if i = 26 then (2, 2) else if i < 44 then (1, i - 27) else if i < 60 then (3, i - 44) else if i < 76 then (5, i - 60) else if i < 92 then (6, i - 76) else if i < 108 then (7, i - 92) else if i < 124 then (15, i - 108)
  else if i < 140 then (8, i - 124) else if i < 156 then (9, i - 140) else if i < 172 then (10, i - 156) else if i < 180 then (12, i - 172) else if i < 188 then (13, i - 180) else if i < 196 then (14, i - 188) else if i < 204 then (16, i - 196) else (17, i - 204)
set_option maxHeartbeats 4000000 in
theorem loc_li {n o k i : Nat} (hn : n ≤ 16) (h : loc n o k = some i) : li i = (o, k) := by
  unfold loc at h
  split at h <;> (repeat' split at h) <;> first
    | (cases h; done)
    | (have e := Option.some.inj h
       subst e
       unfold li
       (repeat (first | rw [if_neg (by omega)] | rw [if_pos (by omega)]))
       first | (rw [Nat.add_sub_cancel_left]; done) | (simp only [Prod.mk.injEq, true_and]; omega))
def LocR (n e : Nat) (j : Fin 15) (μ μ' : Mm) : Prop := ∀ o k i, loc n o k = some i → i ≠ e → μ (1, j, o) k = μ' (2, 0, 1) i
theorem LocR.set {n e o k i : Nat} {j : Fin 15} {μ μ' : Mm} {v : Int32} (hn : n ≤ 16) (h : LocR n e j μ μ') (hl : loc n o k = some i) : LocR n e j (mset μ (1, j, o) k v) (mset μ' (2, 0, 1) i v) := by
  intro o' k' i' h' hie
  by_cases e1 : o' = o ∧ k' = k
  · obtain ⟨rfl, rfl⟩ := e1
    cases hl.symm.trans h'
    simp [mset]
  · have hi : i' ≠ i := fun q => by
      subst q
      have := (loc_li hn h').symm.trans (loc_li hn hl)
      simp only [Prod.mk.injEq] at this
      exact e1 this
    have := h o' k' i' h' hie
    simp only [mset]
    rw [if_neg (by simp; omega), if_neg (by simp [hi]), this]
/-- a cell of the class of which the reference has no own -/
theorem LocR.setC {n e o k : Nat} {j : Fin 15} {μ μ' : Mm} {v : Int32} (h : LocR n e j μ μ') (hl : loc n o k = none) : LocR n e j (mset μ (1, j, o) k v) μ' := by
  intro o' k' i' h' hie
  have e1 : ¬ (o' = o ∧ k' = k) := fun q => by
    obtain ⟨rfl, rfl⟩ := q
    rw [hl] at h'
    cases h'
  have := h o' k' i' h' hie
  simp only [mset]
  rw [if_neg (by simp; omega), this]
theorem LocR.setM {n e i : Nat} {j : Fin 15} {μ μ' : Mm} {v : Int32} (h : LocR n e j μ μ') (hl : ∀ o k, loc n o k ≠ some i) : LocR n e j μ (mset μ' (2, 0, 1) i v) := by
  intro o' k' i' h' hie
  have e1 : i' ≠ i := fun q => hl o' k' (by rw [h', q])
  have := h o' k' i' h' hie
  simp only [mset]
  rw [if_neg (by simp [e1]), this]
