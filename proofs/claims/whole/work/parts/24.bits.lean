/-! bits (the first family is pasted out of kit/laws/BITS), scrubbing -/
/-! ===== Int32 by its bits: bt x i ===== -/
def bt (x : Int32) (i : Nat) : Bool := x.toBitVec.getLsbD i
theorem b_ext {x y : Int32} (h : ∀ i, i < 32 → bt x i = bt y i) : x = y := Int32.toBitVec_inj.mp (BitVec.eq_of_getLsbD_eq (fun i hi => h i hi))
theorem b_or (x y : Int32) (i : Nat) : bt (x ||| y) i = (bt x i || bt y i) := by unfold bt; rw [Int32.toBitVec_or, BitVec.getLsbD_or]
theorem b_and (x y : Int32) (i : Nat) : bt (x &&& y) i = (bt x i && bt y i) := by unfold bt; rw [Int32.toBitVec_and, BitVec.getLsbD_and]
theorem b_xor (x y : Int32) (i : Nat) : bt (x ^^^ y) i = (bt x i ^^ bt y i) := by unfold bt; rw [Int32.toBitVec_xor, BitVec.getLsbD_xor]
theorem b_big {x : Int32} {i : Nat} (h : 32 ≤ i) : bt x i = false := BitVec.getLsbD_of_ge _ _ h
theorem b_255 (i : Nat) : bt 255 i = decide (i < 8) := by
  rcases Nat.lt_or_ge i 32 with h | h
  · exact (by decide +kernel : ∀ i, i < 32 → bt 255 i = decide (i < 8)) i h
  · rw [b_big h, decide_eq_false (by omega)]
theorem b_65535 (i : Nat) : bt 65535 i = decide (i < 16) := by
  rcases Nat.lt_or_ge i 32 with h | h
  · exact (by decide +kernel : ∀ i, i < 32 → bt 65535 i = decide (i < 16)) i h
  · rw [b_big h, decide_eq_false (by omega)]
theorem b_m1 : ∀ i, i < 32 → bt (-1) i = true := by decide +kernel
theorem b_0 (i : Nat) : bt 0 i = false := BitVec.getLsbD_zero
theorem s_l : ∀ n, n < 32 → ((nI n &&& 31).toBitVec.smod 32).toNat = n := by decide +kernel
theorem s_u : ∀ n, n < 32 → (((nI n).toUInt32 &&& Int32.toUInt32 31).toBitVec % 32).toNat = n := by decide +kernel
theorem b_shl (n : Nat) (hn : n < 32) (x : Int32) {i : Nat} (hi : i < 32) : bt (x <<< (nI n &&& 31)) i = (decide (n ≤ i) && bt x (i - n)) := by
  unfold bt
  rw [Int32.toBitVec_shiftLeft]
  show (x.toBitVec <<< ((nI n &&& 31).toBitVec.smod 32).toNat).getLsbD i = _
  rw [s_l n hn, BitVec.getLsbD_shiftLeft]
  rcases Nat.lt_or_ge i n with h | h
  · simp [h, Nat.not_le.mpr h]
  · simp [hi, h, Nat.not_lt.mpr h]
theorem b_ushr (n : Nat) (hn : n < 32) (x : Int32) (i : Nat) : bt ((x.toUInt32 >>> ((nI n).toUInt32 &&& Int32.toUInt32 31)).toInt32) i = bt x (n + i) := by
  show (x.toUInt32 >>> ((nI n).toUInt32 &&& Int32.toUInt32 31)).toBitVec.getLsbD i = x.toUInt32.toBitVec.getLsbD (n + i)
  rw [UInt32.toBitVec_shiftRight]
  show (x.toUInt32.toBitVec >>> (((nI n).toUInt32 &&& Int32.toUInt32 31).toBitVec % 32).toNat).getLsbD i = _
  rw [s_u n hn, BitVec.getLsbD_ushiftRight]
theorem b_sshr (n : Nat) (hn : n < 32) (x : Int32) {i : Nat} (hi : i < 32) : bt (x >>> (nI n &&& 31)) i = if n + i < 32 then bt x (n + i) else bt x 31 := by
  unfold bt
  rw [Int32.toBitVec_shiftRight]
  show (x.toBitVec.sshiftRight ((nI n &&& 31).toBitVec.smod 32).toNat).getLsbD i = _
  rw [s_l n hn, BitVec.getLsbD_sshiftRight, BitVec.msb_eq_getLsbD_last]
  simp [hi]
theorem b_1 : ∀ i, i < 32 → bt 1 i = decide (i = 0) := by decide +kernel
theorem bt0 (y : Int32) : bt y 0 = decide (y.toBitVec.toNat % 2 = 1) := by
  unfold bt
  rw [BitVec.getLsbD, Nat.testBit_zero]
theorem bit_one (y : Int32) : (y &&& 1) = 1 ↔ bt y 0 = true := by
  rw [pk_and y (m := 1) 1 (by decide), bt0, decide_eq_true_eq]
  constructor
  · intro h
    exact nI_inj (by omega) (by omega) h
  · intro h
    rw [show y.toBitVec.toNat % 2 ^ 1 = 1 from h]
    rfl
theorem bit_zero (y : Int32) : (y &&& 1) = 0 ↔ bt y 0 = false := by
  rw [pk_and y (m := 1) 1 (by decide), bt0, decide_eq_false_iff_not]
  constructor
  · intro h
    have : y.toBitVec.toNat % 2 ^ 1 = 0 := nI_inj (by omega) (by omega) h
    omega
  · intro h
    rw [show y.toBitVec.toNat % 2 ^ 1 = 0 by omega]
    rfl
theorem bt_at {m : Int32} {r : Nat} (hr : r < 32) : bt (m >>> (nI r &&& 31)) 0 = bt m r := by
  rw [b_sshr r hr m (by decide), if_pos (by omega), Nat.add_zero]
theorem bit1_bt {m : Int32} {r : Nat} (hr : r < 32) : bit1 m r ↔ bt m r = true := by
  unfold bit1
  rw [bit_one, bt_at hr]
theorem bt_shl1 {r i : Nat} (hr : r < 32) (hi : i < 32) : bt ((1 : Int32) <<< (nI r &&& 31)) i = decide (i = r) := by
  rw [b_shl r hr 1 hi]
  by_cases h : r ≤ i
  · rw [b_1 (i - r) (by omega)]
    by_cases e : i = r
    · subst e; simp
    · have : ¬ i - r = 0 := by omega
      simp [this, e]
  · have e : ¬ i = r := by omega
    simp [h, e]
theorem or_same {m : Int32} {r : Nat} (hr : r < 32) (h : bt m r = true) : m ||| ((1 : Int32) <<< (nI r &&& 31)) = m := by
  apply b_ext
  intro i hi
  rw [b_or, bt_shl1 hr hi]
  by_cases e : i = r
  · subst e; simp [h]
  · simp [e]
theorem bit1_or {m : Int32} {r s : Nat} (hr : r < 32) (hs : s < 32) : bit1 (m ||| ((1 : Int32) <<< (nI r &&& 31))) s ↔ bit1 m s ∨ s = r := by
  rw [bit1_bt hs, bit1_bt hs, b_or, bt_shl1 hr hs]
  simp
theorem bit1_out {m : Int32} {r s : Nat} (hr : r < 32) (hs : s < 32) : bit1 (m &&& (((1 : Int32) <<< (nI r &&& 31)) ^^^ (-1))) s ↔ bit1 m s ∧ s ≠ r := by
  rw [bit1_bt hs, bit1_bt hs, b_and, b_xor, bt_shl1 hr hs, b_m1 s hs]
  simp
/-- how many bits: the library's way -/
def bc (a1 : Int32) : Int32 := ((((((((a1 - ((ushr a1 1) &&& 1431655765)) &&& 858993459) + ((ushr (a1 - ((ushr a1 1) &&& 1431655765)) 2) &&& 858993459)) + (ushr (((a1 - ((ushr a1 1) &&& 1431655765)) &&& 858993459) + ((ushr (a1 - ((ushr a1 1) &&& 1431655765)) 2) &&& 858993459)) 4)) &&& 252645135) + (ushr (((((a1 - ((ushr a1 1) &&& 1431655765)) &&& 858993459) + ((ushr (a1 - ((ushr a1 1) &&& 1431655765)) 2) &&& 858993459)) + (ushr (((a1 - ((ushr a1 1) &&& 1431655765)) &&& 858993459) + ((ushr (a1 - ((ushr a1 1) &&& 1431655765)) 2) &&& 858993459)) 4)) &&& 252645135) 8)) + (ushr ((((((a1 - ((ushr a1 1) &&& 1431655765)) &&& 858993459) + ((ushr (a1 - ((ushr a1 1) &&& 1431655765)) 2) &&& 858993459)) + (ushr (((a1 - ((ushr a1 1) &&& 1431655765)) &&& 858993459) + ((ushr (a1 - ((ushr a1 1) &&& 1431655765)) 2) &&& 858993459)) 4)) &&& 252645135) + (ushr (((((a1 - ((ushr a1 1) &&& 1431655765)) &&& 858993459) + ((ushr (a1 - ((ushr a1 1) &&& 1431655765)) 2) &&& 858993459)) + (ushr (((a1 - ((ushr a1 1) &&& 1431655765)) &&& 858993459) + ((ushr (a1 - ((ushr a1 1) &&& 1431655765)) 2) &&& 858993459)) 4)) &&& 252645135) 8)) 16)) &&& 63)
def bsgo (x : Int32) : Nat → Nat → Int32 → Int32
  | 0, _, acc => acc
  | m + 1, k, acc => bsgo x m (k + 1) (acc + ((x >>> (nI k &&& 31)) &&& 1))
theorem bc_eq : ∀ k, k < 256 → bc (nI k) = bsgo (nI k) 8 0 0 := by decide +kernel
theorem bc_n : ∀ k, k < 256 → ∃ m, m < 9 ∧ bc (nI k) = nI m := by decide +kernel
section SC
variable {L : Nat} {S : Ad → Nat → Int32} {F d n q w e : Nat} {z : Int32} {j : Fin 15} {b : Bool} {μ μ' : Mm}
theorem s_bc (hF : 1 ≤ F) {x : Int32} : run L S F d 0 0 [some (vI x)] μ = some (bc x, μ) := by
  obtain ⟨F, rfl, hF'⟩ := fz hF
  exact e0_0
theorem s_bits_go {x : Int32} : ∀ (m k F : Nat) (acc : Int32), k + m = 8 → m + 1 ≤ F → run L S F d 136 4 [some (vI x), some (vI acc), some (vI (nI k))] μ = some (bsgo x m k acc, μ) := by
  intro m
  induction m with
  | zero =>
    intro k F acc hk hF
    obtain ⟨F, rfl, hF'⟩ := fz hF
    rw [e136_4, if_neg (by rw [show k = 8 by omega]; decide)]
    rfl
  | succ m ih =>
    intro k F acc hk hF
    obtain ⟨F, rfl, hF'⟩ := fz hF
    rw [e136_4, if_pos (show nI k < 8 from nI_lt (b := 8) (by omega) (by decide)), nI_1]
    exact ih (k + 1) F _ (by omega) hF'
theorem s_bits (hF : 10 ≤ F) {x : Int32} : run L S F d 136 0 [some (vI x), none, none] μ = some (bsgo x 8 0 0, μ) := by
  obtain ⟨F, rfl, hF'⟩ := fz hF
  rw [e136_0]
  exact s_bits_go 8 0 F 0 (by omega) (by omega)
/-- how many bits of a row are wrong, the same in both -/
theorem R.wrong (h : R n q w z e j b μ μ') {r : Nat} (hr : r < n) : ∃ m, m < 9 ∧ bc (μ (1, j, 8) r ^^^ μ (1, j, 9) r) = nI m ∧ bsgo (μ' (2, 0, 1) (124 + r) ^^^ μ' (2, 0, 1) (140 + r)) 8 0 0 = nI m := by
  have hN := h.hn
  have g8 : μ (1, j, 8) r = μ' (2, 0, 1) (124 + r) := h.lc 8 r (124 + r) (by simp [loc, hr]) (by omega)
  have g9 : μ (1, j, 9) r = μ' (2, 0, 1) (140 + r) := h.lc 9 r (140 + r) (by simp [loc, hr]) (by omega)
  obtain ⟨⟨k1, a1, a2⟩, ⟨k2, b1, b2⟩, -⟩ := h.da r hr
  have hk : k1 ^^^ k2 < 256 := Nat.xor_lt_two_pow (n := 8) (by omega) (by omega)
  obtain ⟨m, m1, m2⟩ := bc_n _ hk
  refine ⟨m, m1, ?_, ?_⟩
  · rw [g8, g9, a2, b2, nI_xor a1 b1]; exact m2
  · rw [a2, b2, nI_xor a1 b1, ← bc_eq _ hk]; exact m2
theorem s_wrongIn (hF : 11 ≤ F) (hd : 1 ≤ d) {r : Nat} (hr : r < 16) : run L S F d 137 0 [some (vR (2, 0, 0)), some (vI (nI r))] μ' = some (bsgo (μ' (2, 0, 1) (124 + r) ^^^ μ' (2, 0, 1) (140 + r)) 8 0 0, μ') := by
  obtain ⟨F, rfl, hF'⟩ := fz hF
  obtain ⟨d, rfl, hd'⟩ := fz hd
  rw [e137_0]
  simp only [a124, a140, inb_n (show 124 + r < 1278 by omega) (by decide), inb_n (show 140 + r < 1278 by omega) (by decide), cond_true, nI_clamp (show 124 + r < 2 ^ 31 by omega), nI_clamp (show 140 + r < 2 ^ 31 by omega), s_bits (show 10 ≤ F by omega), Option.bind_some]
end SC
