/-! the relation R of a bank of the class (number j, in μ) and the reference (in μ'): n rows, q in the queue, w requests, z flips not yet told by the class; b: the peaks agree -/
def bit1 (m : Int32) (r : Nat) : Prop := ((m >>> (nI r &&& 31)) &&& 1) = 1
def tLo (k : Nat) : Int := ([1, 1, 0, 1, 1, 4, 1, 4, 1, 1, 1, 1, 0, 0, 0, 0, 0] : List Int).getD k 0
def tHi (k : Nat) : Int := ([999, 2, 5, 8, 99, 999, 9, 99, 9, 8, 9, 8, 8, 100, 1, 1, 2] : List Int).getD k 0
def WtR (n w : Nat) (j : Fin 15) (μ μ' : Mm) : Prop := μ' (2, 0, 1) 5 = nI w ∧ w ≤ 99 ∧ ∀ k, k < w → μ (1, j, 19) k = μ' (2, 0, 1) (228 + k) ∧ μ (1, j, 20) k = μ' (2, 0, 1) (327 + k) ∧ ∃ r, r < n ∧ μ' (2, 0, 1) (228 + k) = nI r
def QuR (n q : Nat) (j : Fin 15) (μ μ' : Mm) : Prop := μ' (2, 0, 1) 4 = nI q ∧ q ≤ n ∧ (∀ k, k < q → μ (1, j, 22) k = μ' (2, 0, 1) (212 + k) ∧ ∃ r, r < n ∧ μ' (2, 0, 1) (212 + k) = nI r) ∧ (∀ k k', k < q → k' < q → μ' (2, 0, 1) (212 + k) = μ' (2, 0, 1) (212 + k') → k = k') ∧ ∀ r, r < n → (bit1 (μ (1, j, 21) 1) r ↔ ∃ k, k < q ∧ μ' (2, 0, 1) (212 + k) = nI r)
def PmR (n : Nat) (j : Fin 15) (μ : Mm) : Prop := (∀ p, p < n → ∃ r, r < n ∧ μ (1, j, 4) p = nI r ∧ μ (1, j, 3) r = nI p) ∧ ∀ r, r < n → ∃ p, p < n ∧ μ (1, j, 3) r = nI p ∧ μ (1, j, 4) p = nI r
def SoR (j : Fin 15) (μ μ' : Mm) : Prop := μ' (2, 0, 1) 7 = μ' (2, 0, 1) 9 ∧ ((μ' (2, 0, 1) 9 = -1 ∧ μ (1, j, 0) 7 = 3 ∧ μ' (2, 0, 1) 8 = 0) ∨ ∃ k, k < 3 ∧ μ' (2, 0, 1) 9 = nI k ∧ μ (1, j, 0) 7 = nI k)
def DaR (n : Nat) (μ' : Mm) : Prop := ∀ r, r < n → (∃ k, k < 256 ∧ μ' (2, 0, 1) (124 + r) = nI k) ∧ (∃ k, k < 256 ∧ μ' (2, 0, 1) (140 + r) = nI k) ∧ ∃ k, k < 256 ∧ μ' (2, 0, 1) (156 + r) = nI k
theorem DaR.keep {n : Nat} {μ' μ1' : Mm} (h : DaR n μ') (hn : n ≤ 16) (hm : ∀ i, 124 ≤ i → i < 172 → μ1' (2, 0, 1) i = μ' (2, 0, 1) i) : DaR n μ1' := fun r hr => by
  rw [hm (124 + r) (by omega) (by omega), hm (140 + r) (by omega) (by omega), hm (156 + r) (by omega) (by omega)]
  exact h r hr
/-- the reference's numbers within their bounds -/
def RgR (n : Nat) (μ' : Mm) : Prop := μ' (2, 0, 1) 0 = nI n ∧ 4 ≤ n ∧ n ≤ 16 ∧ (∀ k, k < 17 → tLo k ≤ (μ' (2, 0, 1) (27 + k)).toInt ∧ (μ' (2, 0, 1) (27 + k)).toInt ≤ tHi k) ∧ (∃ k, k < n ∧ μ' (2, 0, 1) 10 = nI k) ∧ (0 ≤ (μ' (2, 0, 1) 8).toInt ∧ (μ' (2, 0, 1) 8).toInt ≤ 9) ∧ (∃ k, k < 7875 ∧ μ' (2, 0, 1) 2 = nI k) ∧ (∃ k, k ≤ 99 ∧ μ' (2, 0, 1) 6 = nI k) ∧ DaR n μ'
/-- the slots of the guard that keeps the latest: one without a row was never seen, the others were; time goes on -/
def SeR (μ' : Mm) : Prop := ∀ k, k < 8 → (μ' (2, 0, 1) (172 + k) = -1 ∧ μ' (2, 0, 1) (188 + k) = 0) ∨ ((∃ r, r < 16 ∧ μ' (2, 0, 1) (172 + k) = nI r) ∧ (μ' (2, 0, 1) 29 = 4 → 0 < (μ' (2, 0, 1) (188 + k)).toInt))
def R (n q w : Nat) (z : Int32) (e : Nat) (j : Fin 15) (b : Bool) (μ μ' : Mm) : Prop :=
  (LocR n e j μ μ' ∧ (e = 6 ∨ e = 18 ∨ e = 1000)) ∧ WtR n w j μ μ' ∧ QuR n q j μ μ' ∧ PmR n j μ ∧ SoR j μ μ' ∧ RgR n μ' ∧ SeR μ' ∧ μ' (2, 0, 1) 16 = μ (1, j, 24) 3 + z ∧ (b = true → μ (1, j, 2) 3 = μ' (2, 0, 0) 9)
/-- places on which more hangs than that both sides hold the same -/
def spC (o k : Nat) : Prop := o = 19 ∨ o = 20 ∨ o = 22 ∨ o = 3 ∨ o = 4 ∨ (o = 21 ∧ k = 1) ∨ (o = 0 ∧ k = 7)
def spM (i : Nat) : Prop := i ≤ 2 ∨ (4 ≤ i ∧ i ≤ 11) ∨ i = 15 ∨ (27 ≤ i ∧ i < 44) ∨ (172 ≤ i ∧ i < 180) ∨ (188 ≤ i ∧ i < 196) ∨ 212 ≤ i
theorem R.upd {n q w e : Nat} {z z1 : Int32} {j : Fin 15} {b : Bool} {μ μ' μ1 μ1' : Mm} (h : R n q w z e j b μ μ') (hL : LocR n e j μ1 μ1') (hc : ∀ o k, spC o k → μ1 (1, j, o) k = μ (1, j, o) k) (hm : ∀ i, spM i → μ1' (2, 0, 1) i = μ' (2, 0, 1) i) (hd : DaR n μ1')
    (hz : μ1' (2, 0, 1) 16 = μ1 (1, j, 24) 3 + z1) (hp : b = true → μ1 (1, j, 2) 3 = μ1' (2, 0, 0) 9) : R n q w z1 e j b μ1 μ1' := by
  obtain ⟨⟨-, he⟩, ⟨w1, w2, w3⟩, ⟨q1, q2, q3, q4, q5⟩, ⟨p1, p2⟩, ⟨s1, s2⟩, ⟨r1, r2, r3, r4, r5, r6, r7, r8, -⟩, t1, -, -⟩ := h
  have m : ∀ i, spM i → μ1' (2, 0, 1) i = μ' (2, 0, 1) i := hm
  have c : ∀ o k, spC o k → μ1 (1, j, o) k = μ (1, j, o) k := hc
  refine ⟨⟨hL, he⟩, ⟨by rw [m 5 (by unfold spM; omega)]; exact w1, w2, fun k hk => ?_⟩, ⟨by rw [m 4 (by unfold spM; omega)]; exact q1, q2, fun k hk => ?_, fun k k' hk hk' => ?_, fun r hr => ?_⟩, ⟨fun p hp1 => ?_, fun r hr => ?_⟩, ⟨?_, ?_⟩, ⟨?_, r2, r3, fun k hk => ?_, ?_, ?_, ?_, ?_, hd⟩, fun k hk => ?_, hz, hp⟩
  · rw [m (228 + k) (by unfold spM; omega), m (327 + k) (by unfold spM; omega), c 19 k (by unfold spC; omega), c 20 k (by unfold spC; omega)]; exact w3 k hk
  · rw [m (212 + k) (by unfold spM; omega), c 22 k (by unfold spC; omega)]; exact q3 k hk
  · rw [m (212 + k) (by unfold spM; omega), m (212 + k') (by unfold spM; omega)]; exact q4 k k' hk hk'
  · rw [c 21 1 (by unfold spC; omega)]
    refine (q5 r hr).trans ⟨fun ⟨k, a1, a2⟩ => ⟨k, a1, by rw [m (212 + k) (by unfold spM; omega)]; exact a2⟩, fun ⟨k, a1, a2⟩ => ⟨k, a1, by rw [m (212 + k) (by unfold spM; omega)] at a2; exact a2⟩⟩
  · obtain ⟨r, a1, a2, a3⟩ := p1 p hp1
    exact ⟨r, a1, by rw [c 4 p (by unfold spC; omega)]; exact a2, by rw [c 3 r (by unfold spC; omega)]; exact a3⟩
  · obtain ⟨p, a1, a2, a3⟩ := p2 r hr
    exact ⟨p, a1, by rw [c 3 r (by unfold spC; omega)]; exact a2, by rw [c 4 p (by unfold spC; omega)]; exact a3⟩
  · rw [m 7 (by unfold spM; omega), m 9 (by unfold spM; omega)]; exact s1
  · rw [m 9 (by unfold spM; omega), m 8 (by unfold spM; omega), c 0 7 (by unfold spC; omega)]; exact s2
  · rw [m 0 (by unfold spM; omega)]; exact r1
  · rw [m (27 + k) (by unfold spM; omega)]; exact r4 k hk
  · rw [m 10 (by unfold spM; omega)]; exact r5
  · rw [m 8 (by unfold spM; omega)]; exact r6
  · rw [m 2 (by unfold spM; omega)]; exact r7
  · rw [m 6 (by unfold spM; omega)]; exact r8
  · rw [m (172 + k) (by unfold spM; omega), m (188 + k) (by unfold spM; omega), m 29 (by unfold spM; omega)]; exact t1 k hk
/-- what a method of a bank leaves alone -/
def FC (j : Fin 15) (μ μ1 : Mm) : Prop := (∀ q : Ad, ¬ (q.1 = 1 ∧ q.2.1 = j) → μ1 q = μ q) ∧ μ1 (1, j, 24) 2 = μ (1, j, 24) 2
def DD (c : Nat) (μ μ1 : Mm) : Prop := (∀ r, r < 16 → ∀ B : Nat, B + c < 2 ^ 31 → 0 ≤ (μ (2, 0, 1) (60 + r)).toInt → (μ (2, 0, 1) (60 + r)).toInt ≤ B → 0 ≤ (μ1 (2, 0, 1) (60 + r)).toInt ∧ (μ1 (2, 0, 1) (60 + r)).toInt ≤ B + c) ∧ (∃ k : Nat, k ≤ c ∧ μ1 (2, 0, 1) 16 = μ (2, 0, 1) 16 + Int32.ofNat k) ∧ (μ (2, 0, 0) 9).toInt ≤ (μ1 (2, 0, 0) 9).toInt
theorem DD.keep {c : Nat} {μ μ1 : Mm} (h : ∀ r, r < 16 → μ1 (2, 0, 1) (60 + r) = μ (2, 0, 1) (60 + r)) (h6 : μ1 (2, 0, 1) 16 = μ (2, 0, 1) 16) (h9 : μ1 (2, 0, 0) 9 = μ (2, 0, 0) 9) : DD c μ μ1 := ⟨fun r hr B hB h0 h1 => by
  rw [h r hr]
  omega, ⟨0, by omega, by rw [h6]; exact (Int32.add_zero _).symm⟩, by rw [h9]; exact Int.le_refl _⟩
theorem DD.tr {a c : Nat} {μ μ1 μ2 : Mm} (h : DD a μ μ1) (h2 : DD c μ1 μ2) : DD (a + c) μ μ2 := by
  refine ⟨fun r hr B hB h0 h1 => ?_, ?_, Int.le_trans h.2.2 h2.2.2⟩
  · obtain ⟨x1, x2⟩ := h.1 r hr B (by omega) h0 h1
    obtain ⟨y1, y2⟩ := h2.1 r hr (B + a) (by omega) x1 (by omega)
    exact ⟨y1, by omega⟩
  · obtain ⟨k, k1, k2⟩ := h.2.1
    obtain ⟨l, l1, l2⟩ := h2.2.1
    exact ⟨k + l, by omega, by rw [l2, k2, Int32.add_assoc, Int32.ofNat_add]⟩
theorem DD.le {a c : Nat} {μ μ1 : Mm} (h : DD a μ μ1) (hc : a ≤ c) : DD c μ μ1 := by
  refine ⟨fun r hr B hB h0 h1 => ?_, ?_, h.2.2⟩
  · obtain ⟨x1, x2⟩ := h.1 r hr B (by omega) h0 h1
    exact ⟨x1, by omega⟩
  · obtain ⟨k, k1, k2⟩ := h.2.1
    exact ⟨k, by omega, k2⟩
theorem DD.eqv {c : Nat} {μ μ1 μ2 : Mm} (h : DD c μ μ1) (h2 : ∀ r, r < 16 → μ2 (2, 0, 1) (60 + r) = μ1 (2, 0, 1) (60 + r)) (h6 : μ2 (2, 0, 1) 16 = μ1 (2, 0, 1) 16) (h9 : μ2 (2, 0, 0) 9 = μ1 (2, 0, 0) 9) : DD c μ μ2 := ⟨fun r hr B hB h0 h1 => by
  rw [h2 r hr]
  exact h.1 r hr B hB h0 h1, by rw [h6]; exact h.2.1, by rw [h9]; exact h.2.2⟩
/-- the reference's frame; rows have at most c more -/
def FM (c : Nat) (μ' μ1' : Mm) : Prop := (∀ q : Ad, q ≠ (2, 0, 1) → q ≠ (2, 0, 0) → μ1' q = μ' q) ∧ (∀ i, 426 ≤ i → μ1' (2, 0, 1) i = μ' (2, 0, 1) i) ∧ (∀ k, k ≠ 9 → μ1' (2, 0, 0) k = μ' (2, 0, 0) k) ∧ DD c μ' μ1'
/-- neither time nor sights -/
def FT (μ' μ1' : Mm) : Prop := μ1' (2, 0, 1) 1 = μ' (2, 0, 1) 1 ∧ μ1' (2, 0, 1) 11 = μ' (2, 0, 1) 11 ∧ μ1' (2, 0, 1) 15 = μ' (2, 0, 1) 15
theorem FT.rf {μ' : Mm} : FT μ' μ' := ⟨rfl, rfl, rfl⟩
theorem FT.tr {μ μ1 μ2 : Mm} (h : FT μ μ1) (h2 : FT μ1 μ2) : FT μ μ2 := ⟨h2.1.trans h.1, h2.2.1.trans h.2.1, h2.2.2.trans h.2.2⟩
theorem FT.set {μ μ1 : Mm} {i : Nat} {v : Int32} (h : FT μ μ1) (h1 : i ≠ 1) (h11 : i ≠ 11) (h15 : i ≠ 15 := by omega) : FT μ (mset μ1 (2, 0, 1) i v) := by
  refine ⟨?_, ?_, ?_⟩
  · simp only [mset]
    rw [if_neg (by simp; omega)]
    exact h.1
  · simp only [mset]
    rw [if_neg (by simp; omega)]
    exact h.2.1
  · simp only [mset]
    rw [if_neg (by simp; omega)]
    exact h.2.2
theorem FC.rf {j : Fin 15} {μ : Mm} : FC j μ μ := ⟨fun _ _ => rfl, rfl⟩
theorem FC.tr {j : Fin 15} {μ μ1 μ2 : Mm} (h : FC j μ μ1) (h2 : FC j μ1 μ2) : FC j μ μ2 := ⟨fun q hq => (h2.1 q hq).trans (h.1 q hq), h2.2.trans h.2⟩
theorem FC.set {j : Fin 15} {μ μ1 : Mm} {o k : Nat} {v : Int32} (h : FC j μ μ1) (ho : o ≠ 24 ∨ k ≠ 2 := by omega) : FC j μ (mset μ1 (1, j, o) k v) := by
  refine ⟨fun q hq => ?_, ?_⟩
  · rw [mset_ne (fun e => hq (by rw [e]; exact ⟨rfl, rfl⟩))]
    exact h.1 q hq
  · simp only [mset]
    rw [if_neg (by simp; omega)]
    exact h.2
theorem FM.rf {μ : Mm} : FM 0 μ μ := ⟨fun _ _ _ => rfl, fun _ _ => rfl, fun _ _ => rfl, DD.keep (fun _ _ => rfl) rfl rfl⟩
theorem FM.tr {c c2 : Nat} {μ μ1 μ2 : Mm} (h : FM c μ μ1) (h2 : FM c2 μ1 μ2) : FM (c + c2) μ μ2 := ⟨fun q a b => (h2.1 q a b).trans (h.1 q a b), fun i a => (h2.2.1 i a).trans (h.2.1 i a), fun k a => (h2.2.2.1 k a).trans (h.2.2.1 k a), h.2.2.2.tr h2.2.2.2⟩
theorem FM.le {c c2 : Nat} {μ μ1 : Mm} (h : FM c μ μ1) (hc : c ≤ c2) : FM c2 μ μ1 := ⟨h.1, h.2.1, h.2.2.1, h.2.2.2.le hc⟩
theorem FM.setG {c : Nat} {μ μ1 : Mm} {i : Nat} {v : Int32} (h : FM c μ μ1) (hi : i < 426) (hD : DD c μ (mset μ1 (2, 0, 1) i v)) : FM c μ (mset μ1 (2, 0, 1) i v) := by
  refine ⟨fun q a b => by rw [mset_ne a]; exact h.1 q a b, fun i' a => ?_, fun k a => ?_, hD⟩
  · simp only [mset]
    rw [if_neg (by simp; omega)]
    exact h.2.1 i' a
  · rw [mset_ne (by decide)]
    exact h.2.2.1 k a
theorem FM.set {c : Nat} {μ μ1 : Mm} {i : Nat} {v : Int32} (h : FM c μ μ1) (hi : i < 426 ∧ (i < 60 ∨ 76 ≤ i) ∧ i ≠ 16) : FM c μ (mset μ1 (2, 0, 1) i v) :=
  h.setG hi.1 (h.2.2.2.eqv (fun r hr => by
    simp only [mset]
    rw [if_neg (by simp; omega)]) (by
    simp only [mset]
    rw [if_neg (by simp; omega)]) (by rw [mset_ne (by decide)]))
/-- a row has none -/
theorem FM.set0 {c : Nat} {μ μ1 : Mm} {i : Nat} (h : FM c μ μ1) (hi : i < 426 ∧ i ≠ 16) : FM c μ (mset μ1 (2, 0, 1) i 0) :=
  h.setG hi.1 ⟨fun r hr B hB h0 h1 => by
    simp only [mset]
    split
    · have z0 : (0 : Int32).toInt = 0 := rfl
      rw [z0]
      omega
    · exact h.2.2.2.1 r hr B hB h0 h1, by
    simp only [mset]
    rw [if_neg (by simp; omega)]
    exact h.2.2.2.2.1, by rw [mset_ne (by decide)]; exact h.2.2.2.2.2⟩
/-- a flip is told -/
theorem FM.fl {c : Nat} {μ μ1 : Mm} {v : Int32} (h : FM c μ μ1) (hv : v = μ1 (2, 0, 1) 16 + 1) : FM (c + 1) μ (mset μ1 (2, 0, 1) 16 v) :=
  (h.le (Nat.le_succ c)).setG (by omega) ⟨fun r hr B hB h0 h1 => by
    simp only [mset]
    rw [if_neg (by simp; omega)]
    exact (h.2.2.2.le (Nat.le_succ c)).1 r hr B hB h0 h1, by
    obtain ⟨k, k1, k2⟩ := h.2.2.2.2.1
    refine ⟨k + 1, by omega, ?_⟩
    unfold mset
    rw [if_pos ⟨rfl, rfl⟩, hv, k2, Int32.add_assoc, Int32.ofNat_add]
    rfl, by rw [mset_ne (by decide)]; exact h.2.2.2.2.2⟩
theorem mmax_ge {x y : Int32} : x.toInt ≤ (mmax x y).toInt := by
  unfold mmax
  split
  · rename_i c
    have := Int32.lt_iff_toInt_lt.mp c
    omega
  · exact Int.le_refl _
theorem FM.fld {c : Nat} {μ μ1 : Mm} {v : Int32} (h : FM c μ μ1) (hv : (μ1 (2, 0, 0) 9).toInt ≤ v.toInt) : FM c μ (mset μ1 (2, 0, 0) 9 v) := by
  refine ⟨fun q a b => by rw [mset_ne b]; exact h.1 q a b, fun i' a => ?_, fun k' a => ?_, ⟨fun r hr B hB h0 h1 => by rw [mset_ne (by decide)]; exact h.2.2.2.1 r hr B hB h0 h1, by rw [mset_ne (by decide)]; exact h.2.2.2.2.1, ?_⟩⟩
  · rw [mset_ne (by decide)]
    exact h.2.1 i' a
  · simp only [mset]
    rw [if_neg (by simp; omega)]
    exact h.2.2.1 k' a
  · unfold mset
    rw [if_pos ⟨rfl, rfl⟩]
    exact Int.le_trans h.2.2.2.2.2 hv
theorem R.lc {n q w e : Nat} {z : Int32} {j : Fin 15} {b : Bool} {μ μ' : Mm} (h : R n q w z e j b μ μ') (o k i : Nat) (hl : loc n o k = some i) (hi : i ≠ 6 ∧ i ≠ 18 ∧ i ≠ 1000) : μ (1, j, o) k = μ' (2, 0, 1) i :=
  h.1.1 o k i hl (by have := h.1.2; omega)
theorem R.hn {n q w e : Nat} {z : Int32} {j : Fin 15} {b : Bool} {μ μ' : Mm} (h : R n q w z e j b μ μ') : μ (1, j, 2) 0 = nI n ∧ μ' (2, 0, 1) 0 = nI n ∧ 4 ≤ n ∧ n ≤ 16 :=
  ⟨(h.lc 2 0 0 rfl (by omega)).trans h.2.2.2.2.2.1.1, h.2.2.2.2.2.1.1, h.2.2.2.2.2.1.2.1, h.2.2.2.2.2.1.2.2.1⟩
theorem nI_inj {a b : Nat} (ha : a < 2 ^ 31) (hb : b < 2 ^ 31) (h : nI a = nI b) : a = b := (nI_eq ha hb).mp h
/-- the row at a place, in both -/
theorem R.at {n q w p e : Nat} {z : Int32} {j : Fin 15} {b : Bool} {μ μ' : Mm} (h : R n q w z e j b μ μ') (hp : p < n) : ∃ r, r < n ∧ μ (1, j, 4) p = nI r ∧ μ' (2, 0, 1) (44 + r) = nI p ∧ ∀ k, k < n → μ' (2, 0, 1) (44 + k) = nI p → k = r := by
  have hn := h.hn
  obtain ⟨r, h1, h2, h3⟩ := h.2.2.2.1.1 p hp
  refine ⟨r, h1, h2, ?_, fun k hk e1 => ?_⟩
  · rw [← h3]
    exact (h.lc 3 r (44 + r) (by simp [loc, h1]) (by omega)).symm
  · obtain ⟨p', a1, a2, a3⟩ := h.2.2.2.1.2 k hk
    have e2 : μ (1, j, 3) k = nI p := (h.lc 3 k (44 + k) (by simp [loc, hk]) (by omega)).trans e1
    have : p' = p := nI_inj (by omega) (by omega) (a2.symm.trans e2)
    subst this
    exact nI_inj (by omega) (by omega) (a3.symm.trans h2)
theorem R.da {n q w e : Nat} {z : Int32} {j : Fin 15} {b : Bool} {μ μ' : Mm} (h : R n q w z e j b μ μ') : DaR n μ' := h.2.2.2.2.2.1.2.2.2.2.2.2.2.2
theorem R.hz {n q w e : Nat} {z : Int32} {j : Fin 15} {b : Bool} {μ μ' : Mm} (h : R n q w z e j b μ μ') : μ' (2, 0, 1) 16 = μ (1, j, 24) 3 + z := h.2.2.2.2.2.2.2.1
theorem R.pk {n q w e : Nat} {z : Int32} {j : Fin 15} {b : Bool} {μ μ' : Mm} (h : R n q w z e j b μ μ') : b = true → μ (1, j, 2) 3 = μ' (2, 0, 0) 9 := h.2.2.2.2.2.2.2.2
theorem R.tb {n q w e : Nat} {z : Int32} {j : Fin 15} {b : Bool} {μ μ' : Mm} (h : R n q w z e j b μ μ') {k : Nat} (hk : k < 17) : tLo k ≤ (μ' (2, 0, 1) (27 + k)).toInt ∧ (μ' (2, 0, 1) (27 + k)).toInt ≤ tHi k := h.2.2.2.2.2.1.2.2.2.1 k hk
theorem nI_toNat {x : Int32} (h : 0 ≤ x.toInt) : x = nI x.toInt.toNat := by
  have h2 : x.toInt < 2 ^ 31 := Int32.toInt_lt x
  exact Int32.toInt_inj.mp (by rw [nI_toInt (by omega)]; omega)
/-- a term as a number -/
theorem R.tn {n q w e : Nat} {z : Int32} {j : Fin 15} {b : Bool} {μ μ' : Mm} (h : R n q w z e j b μ μ') (k : Nat) (lo hi : Nat) (hk : k < 17) (h1 : tLo k = lo) (h2 : tHi k = hi) : ∃ m : Nat, lo ≤ m ∧ m ≤ hi ∧ μ' (2, 0, 1) (27 + k) = nI m := by
  obtain ⟨a, c⟩ := h.tb hk
  rw [h1] at a
  rw [h2] at c
  exact ⟨(μ' (2, 0, 1) (27 + k)).toInt.toNat, by omega, by omega, nI_toNat (by omega)⟩
theorem nI_xor {a c : Nat} (ha : a < 256) (hc : c < 256) : nI a ^^^ nI c = nI (a ^^^ c) := by
  apply Int32.toBitVec_inj.mp
  rw [Int32.toBitVec_xor]
  apply BitVec.eq_of_toNat_eq
  have h3 : a ^^^ c < 2 ^ 8 := Nat.xor_lt_two_pow (n := 8) (by omega) (by omega)
  rw [BitVec.toNat_xor, pk_tn (by omega), pk_tn (by omega), pk_tn (by omega)]
