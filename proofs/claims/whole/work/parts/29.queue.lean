/-! the queue: the first is taken -/
def shl (μ : Mm) (a : Ad) (k m : Nat) : Mm := fun q i => if q = a ∧ k ≤ i ∧ i < m then μ a (i + 1) else μ q i
theorem shl_id {μ : Mm} {a : Ad} {k : Nat} : shl μ a k k = μ := by
  funext q i
  unfold shl
  rw [if_neg (by omega)]
theorem shl_step {μ : Mm} {a : Ad} {k m : Nat} (h : k < m) : shl (mset μ a k (μ a (k + 1))) a (k + 1) m = shl μ a k m := by
  funext q i
  unfold shl mset
  by_cases c : q = a
  · subst c
    by_cases c1 : k + 1 ≤ i ∧ i < m
    · rw [if_pos ⟨rfl, c1⟩, if_neg (by omega), if_pos ⟨rfl, by omega⟩]
    · rw [if_neg (fun x => c1 x.2)]
      by_cases c2 : i = k
      · subst c2
        rw [if_pos ⟨rfl, rfl⟩, if_pos ⟨rfl, by omega⟩]
      · rw [if_neg (fun x => c2 x.2), if_neg (by omega)]
  · rw [if_neg (fun x => c x.1), if_neg (fun x => c x.1), if_neg (fun x => c x.1)]
theorem shl_ne {μ : Mm} {a q : Ad} {k m i : Nat} (h : q ≠ a) : shl μ a k m q i = μ q i := by
  unfold shl
  rw [if_neg (fun x => h x.1)]
theorem shl_out {μ : Mm} {a q : Ad} {k m i : Nat} (h : i < k ∨ m ≤ i) : shl μ a k m q i = μ q i := by
  unfold shl
  rw [if_neg (by omega)]
theorem shl_in {μ : Mm} {a : Ad} {k m i : Nat} (h : k ≤ i ∧ i < m) : shl μ a k m a i = μ a (i + 1) := by
  unfold shl
  rw [if_pos ⟨rfl, h⟩]
section QU
variable {L : Nat} {S : Ad → Nat → Int32} {F d n q w e : Nat} {z z1 : Int32} {j j1 : Fin 15} {b : Bool} {μ μ' μ1 μ1' : Mm}
theorem s_take_go {x : Int32} {p : Nat} (hp : p ≤ 15) : ∀ (m k F : Nat) (μ : Mm), k + m = p → m + 1 ≤ F → μ (1, j, 21) 0 = nI p → run L S F d 33 33 [some (vR (1, j, 21)), some (vI x), some (vI (nI k))] μ = some (x, shl μ (1, j, 22) k p) := by
  intro m
  induction m with
  | zero =>
    intro k F μ hk hF h0
    obtain ⟨F, rfl, hF'⟩ := fz hF
    have hk : k = p := by omega
    subst hk
    rw [e33_33, h0, if_neg (nI_nlt (Nat.le_refl _) (by omega)), shl_id]
  | succ m ih =>
    intro k F μ hk hF h0
    obtain ⟨F, rfl, hF'⟩ := fz hF
    rw [e33_33, h0, if_pos (nI_lt (by omega) (by omega))]
    simp only [nI_1, inb_n (show k + 1 < 16 by omega) (by decide), inb_n (show k < 16 by omega) (by decide), cond_true, nI_clamp (show k + 1 < 2 ^ 31 by omega), nI_clamp (show k < 2 ^ 31 by omega)]
    rw [ih (k + 1) F _ (by omega) hF' (by rw [mset_g, if_neg (by omega)]; exact h0), shl_step (by omega)]
theorem m_take_go {x : Int32} {p : Nat} (hp : p ≤ 15) : ∀ (m k F : Nat) (μ : Mm), k + m = p → μ (2, 0, 1) 4 = nI p → run L S (F + m) (d + 1) 157 21 [some (vR (2, 0, 0)), some (vI x), some (vI (nI k))] μ = run L S F (d + 1) 157 21 [some (vR (2, 0, 0)), some (vI x), some (vI (nI p))] (shl μ (2, 0, 1) (212 + k) (212 + p)) := by
  intro m
  induction m with
  | zero =>
    intro k F μ hk h0
    have hk : k = p := by omega
    subst hk
    rw [shl_id]
    rfl
  | succ m ih =>
    intro k F μ hk h0
    rw [show F + (m + 1) = (F + m) + 1 by omega, e157_21, h0, if_pos (nI_lt (by omega) (by omega))]
    simp only [a212, nI_1, inb_n (show 212 + k + 1 < 1278 by omega) (by decide), inb_n (show 212 + k < 1278 by omega) (by decide), cond_true, nI_clamp (show 212 + k + 1 < 2 ^ 31 by omega), nI_clamp (show 212 + k < 2 ^ 31 by omega)]
    rw [ih (k + 1) F _ (by omega) (by rw [mset_g, if_neg (by omega)]; exact h0), show 212 + (k + 1) = 212 + k + 1 by omega, shl_step (by omega)]
/-- the first taken, on both sides -/
theorem R.take {v : Int32} (h : R n (q + 1) w z 1000 j b μ μ') (hv : v = nI q) : ∃ r, r < n ∧ μ' (2, 0, 1) 212 = nI r ∧ μ (1, j, 22) 0 = nI r ∧
    R n q w z 1000 j b (shl (mset (mset μ (1, j, 21) 1 (μ (1, j, 21) 1 &&& (((1 : Int32) <<< (nI r &&& 31)) ^^^ (-1)))) (1, j, 21) 0 v) (1, j, 22) 0 q) (shl (mset μ' (2, 0, 1) 4 v) (2, 0, 1) 212 (212 + q)) := by
  subst hv
  have hN := h.hn
  obtain ⟨q1, q2, q3, q4, q5⟩ := h.qu
  obtain ⟨c0, r0, hr0, c1⟩ := q3 0 (by omega)
  refine ⟨r0, hr0, c1, c0.trans c1, ?_⟩
  have gC : ∀ o k, o ≠ 22 → shl (mset (mset μ (1, j, 21) 1 (μ (1, j, 21) 1 &&& (((1 : Int32) <<< (nI r0 &&& 31)) ^^^ (-1)))) (1, j, 21) 0 (nI q)) (1, j, 22) 0 q (1, j, o) k = (mset (mset μ (1, j, 21) 1 (μ (1, j, 21) 1 &&& (((1 : Int32) <<< (nI r0 &&& 31)) ^^^ (-1)))) (1, j, 21) 0 (nI q)) (1, j, o) k := fun o k ho => shl_ne (by simp [ho])
  have gC0 : ∀ o k, o ≠ 22 → o ≠ 21 → shl (mset (mset μ (1, j, 21) 1 (μ (1, j, 21) 1 &&& (((1 : Int32) <<< (nI r0 &&& 31)) ^^^ (-1)))) (1, j, 21) 0 (nI q)) (1, j, 22) 0 q (1, j, o) k = μ (1, j, o) k := fun o k ho ho2 => by
    rw [gC o k ho, mset_g, if_neg (by omega), mset_g, if_neg (by omega)]
  have gM : ∀ i, i ≠ 4 → (i < 212 ∨ 228 ≤ i) → shl (mset μ' (2, 0, 1) 4 (nI q)) (2, 0, 1) 212 (212 + q) (2, 0, 1) i = μ' (2, 0, 1) i := fun i hi hi2 => by
    rw [shl_out (by omega), mset_g, if_neg (by omega)]
  have hL : LocR n 1000 j (shl (mset (mset μ (1, j, 21) 1 (μ (1, j, 21) 1 &&& (((1 : Int32) <<< (nI r0 &&& 31)) ^^^ (-1)))) (1, j, 21) 0 (nI q)) (1, j, 22) 0 q) (shl (mset μ' (2, 0, 1) 4 (nI q)) (2, 0, 1) 212 (212 + q)) := by
    intro o k i hl hie
    have h22 : o ≠ 22 := fun x => by
      subst x
      cases hl
    have hi := loc_lt hN.2.2.2 hl
    rw [gC o k h22, shl_out (by omega)]
    exact ((h.1.1.setC (o := 21) (k := 1) rfl).set hN.2.2.2 (o := 21) (k := 0) (i := 4) rfl) o k i hl hie
  refine ⟨⟨hL, by omega⟩, h.wt.keep (fun o k x => gC0 o k (by omega) (by omega)) (fun i hi => ?_), ⟨?_, by omega, fun k hk => ?_, fun k k' hk hk' he => ?_, fun r hr => ?_⟩, h.pm.keep (fun o k x => gC0 o k (by omega) (by omega)), h.so.keep (gC0 0 7 (by omega) (by omega)) (fun i hi => gM i (by omega) (by omega)), h.rg.keep (fun i hi => gM i (by omega) (by omega)), h.se.keep (fun i hi => gM i (by omega) (by omega)), ?_, fun hb => ?_⟩
  · rcases hi with rfl | hi
    · exact gM 5 (by omega) (by omega)
    · exact gM i (by omega) (by omega)
  · rw [shl_out (by omega), mset_g, if_pos ⟨rfl, rfl⟩]
  · rw [shl_in (by omega), shl_in (by omega), mset_g, if_neg (by omega), mset_g, if_neg (by omega), mset_g, if_neg (by omega)]
    exact q3 (k + 1) (by omega)
  · rw [shl_in (by omega), shl_in (by omega), mset_g, if_neg (by omega), mset_g, if_neg (by omega)] at he
    have := q4 (k + 1) (k' + 1) (by omega) (by omega) he
    omega
  · rw [gC 21 1 (by omega), mset_g, if_neg (by omega), mset_g, if_pos ⟨rfl, rfl⟩, bit1_out (by omega) (by omega), q5 r hr]
    constructor
    · rintro ⟨⟨k, a1, a2⟩, hne⟩
      have hk0 : k ≠ 0 := fun x => by
        subst x
        exact hne (nI_inj (by omega) (by omega) (a2.symm.trans c1))
      refine ⟨k - 1, by omega, ?_⟩
      rw [shl_in (by omega), mset_g, if_neg (by omega), show 212 + (k - 1) + 1 = 212 + k by omega]
      exact a2
    · rintro ⟨k, a1, a2⟩
      rw [shl_in (by omega), mset_g, if_neg (by omega)] at a2
      refine ⟨⟨k + 1, by omega, a2⟩, fun x => ?_⟩
      subst x
      have := q4 (k + 1) 0 (by omega) (by omega) (a2.trans c1.symm)
      omega
  · rw [gM 16 (by omega) (by omega), gC0 24 3 (by omega) (by omega)]
    exact h.hz
  · rw [gC0 2 3 (by omega) (by omega), shl_ne (by decide), mset_ne (by decide)]
    exact h.pk hb
theorem FC.shl {o k m : Nat} (h : FC j μ μ1) (ho : o ≠ 24 := by omega) : FC j μ (shl μ1 (1, j, o) k m) := by
  refine ⟨fun q hq => ?_, ?_⟩
  · funext i
    rw [shl_ne (fun x => hq (by rw [x]; exact ⟨rfl, rfl⟩)), h.1 q hq]
  · rw [shl_ne (by simp; omega)]
    exact h.2
theorem FM.shl {c k m : Nat} (h : FM c μ μ1) (hm : 76 ≤ k ∧ m ≤ 426) : FM c μ (shl μ1 (2, 0, 1) k m) := by
  refine ⟨fun q a b => ?_, fun i' a => ?_, fun k a => ?_, h.2.2.2.eqv (fun r hr => shl_out (by omega)) (shl_out (by omega)) (shl_ne (by decide))⟩
  · funext i
    rw [shl_ne a, h.1 q a b]
  · rw [shl_out (by omega)]
    exact h.2.1 i' a
  · rw [shl_ne (by decide)]
    exact h.2.2.1 k a
/-- flips that the class tells behind -/
theorem R.tal {f x : Int32} (h : R n q w (z + f) e j b μ μ') (hx : x = μ (1, j, 24) 3) : R n q w z e j b (mset μ (1, j, 24) 3 (x + f)) μ' := by
  refine h.upd (h.1.1.setC rfl) (fun o k hs => ?_) (fun i hs => rfl) h.da ?_ (fun hb => ?_)
  · rw [mset_g, if_neg (by unfold spC at hs; omega)]
  · rw [mset_g, if_pos ⟨rfl, rfl⟩, h.hz, hx, Int32.add_assoc, Int32.add_comm f z]
  · rw [mset_g, if_neg (by omega)]
    exact h.pk hb
theorem FT.shl {k m : Nat} (h : FT μ μ1) (hk : 15 < k) : FT μ (shl μ1 (2, 0, 1) k m) := by
  refine ⟨?_, ?_, ?_⟩
  · rw [shl_out (by omega)]; exact h.1
  · rw [shl_out (by omega)]; exact h.2.1
  · rw [shl_out (by omega)]; exact h.2.2
theorem FS.ft (h : FS μ μ1) : FT μ μ1 := ⟨h 1 (by unfold spM; omega), h 11 (by unfold spM; omega), h 15 (by unfold spM; omega)⟩
theorem FD.ft (h : FD μ μ1) : FT μ μ1 := ⟨h 1 (by unfold dM; omega), h 11 (by unfold dM; omega), h 15 (by unfold dM; omega)⟩
end QU
