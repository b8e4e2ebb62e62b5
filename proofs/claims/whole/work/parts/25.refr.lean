/-! paired writes; refreshing a row -/
theorem mset_id {μ : Mm} {q : Ad} {k : Nat} {v : Int32} (h : v = μ q k) : mset μ q k v = μ := by
  funext q' k'
  unfold mset
  split
  · rename_i e
    rw [e.1, e.2, h]
  · rfl
theorem mset_comm {μ : Mm} {q : Ad} {k k' : Nat} {v v' : Int32} (h : k ≠ k') : mset (mset μ q k v) q k' v' = mset (mset μ q k' v') q k v := by
  funext q2 k2
  unfold mset
  by_cases e1 : q2 = q ∧ k2 = k'
  · have e2 : ¬ (q2 = q ∧ k2 = k) := fun e => h (e.2.symm.trans e1.2)
    rw [if_pos e1, if_neg e2, if_pos e1]
  · rw [if_neg e1]
    by_cases e2 : q2 = q ∧ k2 = k
    · rw [if_pos e2, if_pos e2]
    · rw [if_neg e2, if_neg e2, if_neg e1]
section RW
variable {L : Nat} {S : Ad → Nat → Int32} {F d n q w e : Nat} {z : Int32} {j : Fin 15} {b : Bool} {μ μ' : Mm}
theorem loc_ne {n o k i : Nat} (h : loc n o k = some i) (o' k' : Nat) (h2 : loc n o' k' = none) : ¬ (o' = o ∧ k' = k) := fun e => by
  rw [e.1, e.2, h] at h2
  cases h2
theorem spC_none {n o k : Nat} (h : spC o k) (h3 : o ≠ 3) : loc n o k = none := by
  unfold spC at h
  rcases h with rfl | rfl | rfl | h | rfl | ⟨rfl, rfl⟩ | ⟨rfl, rfl⟩
  · rfl
  · rfl
  · rfl
  · exact absurd h h3
  · rfl
  · rfl
  · rfl
/-- the same written at places of one another, on which nothing more hangs -/
theorem R.w1 {o k i : Nat} {v : Int32} (h : R n q w z e j b μ μ') (hl : loc n o k = some i) (h3 : o ≠ 3) (hs : ¬ spM i) (hda : i < 124 ∨ 172 ≤ i ∨ ∃ m, m < 256 ∧ v = nI m) : R n q w z e j b (mset μ (1, j, o) k v) (mset μ' (2, 0, 1) i v) := by
  have hN := h.hn
  refine h.upd (h.1.1.set hN.2.2.2 hl) (fun o' k' hs' => ?_) (fun i' hs' => ?_) ?_ ?_ (fun hb => ?_)
  · simp only [mset_g]
    rw [if_neg]
    by_cases e3 : o' = 3
    · omega
    · exact loc_ne hl o' k' (spC_none hs' e3)
  · simp only [mset_g]
    rw [if_neg (by rintro ⟨-, e⟩; exact hs (e ▸ hs'))]
  · intro r hr
    obtain ⟨a1, a2, a3⟩ := h.da r hr
    refine ⟨?_, ?_, ?_⟩
    · simp only [mset_g]
      by_cases e : 124 + r = i
      · rw [if_pos ⟨trivial, e⟩]
        rcases hda with x | x | x
        · omega
        · omega
        · exact x
      · rw [if_neg (fun x => e x.2)]; exact a1
    · simp only [mset_g]
      by_cases e : 140 + r = i
      · rw [if_pos ⟨trivial, e⟩]
        rcases hda with x | x | x
        · omega
        · omega
        · exact x
      · rw [if_neg (fun x => e x.2)]; exact a2
    · simp only [mset_g]
      by_cases e : 156 + r = i
      · rw [if_pos ⟨trivial, e⟩]
        rcases hda with x | x | x
        · omega
        · omega
        · exact x
      · rw [if_neg (fun x => e x.2)]; exact a3
  · simp only [mset_g]
    rw [if_neg, if_neg (loc_ne hl 24 3 rfl)]
    · exact h.hz
    · intro e
      have := loc_li hN.2.2.2 hl
      rw [← e.2] at this
      have e2 : li 16 = (24, 3) := rfl
      rw [e2] at this
      cases this
      cases hl
  · simp only [mset_g]
    rw [if_neg (loc_ne hl 2 3 rfl), if_neg (by omega)]
    exact h.pk hb
/-- a row refreshed without a scrub -/
theorem c_refr0 (hF : 1 ≤ F) (hd : 1 ≤ d) {r : Nat} (hr : r < 16) : run L S F d 45 0 [some (vR (1, j, 0)), some (vI (nI r)), some (vI 0), none] μ = some (0, mset μ (1, j, 5) r 0) := by
  obtain ⟨F, rfl, hF'⟩ := fz hF
  obtain ⟨d, rfl, hd'⟩ := fz hd
  rw [e45_0, if_pos rfl]
  simp only [inb_n (show r < 16 by omega) (by decide), cond_true, nI_clamp (show r < 2 ^ 31 by omega)]
theorem R.refr0 (h : R n q w z e j b μ μ') {r : Nat} (hr : r < n) : R n q w z e j b (mset μ (1, j, 5) r 0) (mset μ' (2, 0, 1) (60 + r) 0) :=
  h.w1 (by simp [loc, hr]) (by decide) (by have := h.hn; unfold spM; omega) (by have := h.hn; omega)
/-- a row scrubbed and refreshed -/
theorem p_refrS (hF : 13 ≤ F) (hd : 3 ≤ d) (h : R n q w z e j b μ μ') {r : Nat} (hr : r < n) {a : Int32} (ha : ¬ a = 0) :
    ∃ (μ1 μ1' : Mm), run L S F d 45 0 [some (vR (1, j, 0)), some (vI (nI r)), some (vI a), none] μ = some (0, μ1) ∧ run L S F d 138 0 [some (vR (2, 0, 0)), some (vI (nI r)), none] μ' = some (0, μ1') ∧ R n q w z e j b μ1 (mset μ1' (2, 0, 1) (60 + r) 0) ∧ FC j μ μ1 ∧ FM 0 μ' μ1' ∧ FS μ' μ1' ∧ FO j μ μ1 := by
  obtain ⟨F, rfl, hF'⟩ := fz hF
  obtain ⟨d, rfl, hd'⟩ := fz hd
  obtain ⟨F, rfl, hF2⟩ := fz hF'
  obtain ⟨d, rfl, hd2⟩ := fz hd'
  have hN := h.hn
  obtain ⟨m, m1, m2, m3⟩ := h.wrong hr
  have g9 : μ (1, j, 9) r = μ' (2, 0, 1) (140 + r) := h.lc 9 r (140 + r) (by simp [loc, hr]) (by omega)
  have g2 : μ (1, j, 2) 2 = μ' (2, 0, 1) 26 := h.lc 2 2 26 rfl (by omega)
  have g7 : μ (1, j, 24) 7 = μ' (2, 0, 1) 20 := h.lc 24 7 20 rfl (by omega)
  have g8 : μ (1, j, 24) 8 = μ' (2, 0, 1) 21 := h.lc 24 8 21 rfl (by omega)
  rw [e45_0, if_neg ha, e10_0, e138_0]
  simp only [inb_n (show r < 16 by omega) (by decide), cond_true, nI_clamp (show r < 2 ^ 31 by omega), s_bc (show 1 ≤ F by omega), Option.bind_some, m2, s_wrongIn (show 11 ≤ F + 1 by omega) (show 1 ≤ d + 1 by omega) (show r < 16 by omega), m3, a124, a140, inb_n (show 124 + r < 1278 by omega) (by decide), inb_n (show 140 + r < 1278 by omega) (by decide), nI_clamp (show 124 + r < 2 ^ 31 by omega), nI_clamp (show 140 + r < 2 ^ 31 by omega)]
  by_cases c1 : m = 1
  · subst c1
    refine ⟨mset (mset (mset μ (1, j, 8) r (μ' (2, 0, 1) (140 + r))) (1, j, 24) 7 (μ' (2, 0, 1) 20 + 1)) (1, j, 5) r 0, mset (mset μ' (2, 0, 1) (124 + r) (μ' (2, 0, 1) (140 + r))) (2, 0, 1) 20 (μ' (2, 0, 1) 20 + 1), ?_, ?_, ?_, FC.rf.set.set.set, (FM.rf.set (by omega)).set (by omega), (FS.rf.set (by unfold spM; omega)).set (by unfold spM; omega), ((FO.rf.set (by omega)).set (by omega)).set (by omega)⟩
    · simp [show nI 1 = 1 from rfl, show inb 7 9 = true by decide, show Int32.toNatClampNeg 7 = 7 by decide, mset_g, g9, g7]
    · simp [show nI 1 = 1 from rfl, mset_g, show ¬ (20 = 124 + r) by omega]
    · exact ((h.w1 (o := 8) (k := r) (i := 124 + r) (by simp [loc, hr]) (by decide) (by unfold spM; omega) (Or.inr (Or.inr (h.da r hr).2.1))).w1 (o := 24) (k := 7) (i := 20) rfl (by decide) (by unfold spM; omega) (by omega)).refr0 hr
  · by_cases c0 : m = 0
    · subst c0
      refine ⟨mset μ (1, j, 5) r 0, μ', ?_, ?_, h.refr0 hr, FC.rf.set, FM.rf, FS.rf, FO.rf.set (by omega)⟩
      · simp [show nI 0 = 0 from rfl]
      · simp [show nI 0 = 0 from rfl]
    · have d1 : ¬ nI m = 1 := fun e => c1 (nI_inj (by omega) (by decide) e)
      have d0 : ¬ nI m = 0 := fun e => c0 (nI_inj (by omega) (by decide) e)
      have d2 : ¬ nI m < 2 := nI_nlt (a := m) (b := 2) (by omega) (by omega)
      by_cases hb : bt (μ' (2, 0, 1) 26) r = true
      · have hb1 : (μ' (2, 0, 1) 26 >>> (nI r &&& 31)) &&& 1 = 1 := (bit1_bt (by omega)).mpr hb
        refine ⟨mset μ (1, j, 5) r 0, mset (mset μ' (2, 0, 1) 21 (μ' (2, 0, 1) 21 + 0)) (2, 0, 1) 26 (μ' (2, 0, 1) 26 ||| ((1 : Int32) <<< (nI r &&& 31))), ?_, ?_, ?_, FC.rf.set, (FM.rf.set (by omega)).set (by omega), (FS.rf.set (by unfold spM; omega)).set (by unfold spM; omega), FO.rf.set (by omega)⟩
        · simp [d1, d0, g2, hb1]
        · simp [d1, d2, hb1, mset_g]
        · rw [mset_id (v := μ' (2, 0, 1) 21 + 0) (Int32.add_zero _), mset_id (or_same (by omega) hb)]
          exact h.refr0 hr
      · have hb2 : bt (μ' (2, 0, 1) 26) r = false := by simpa using hb
        have hb1 : ¬ (μ' (2, 0, 1) 26 >>> (nI r &&& 31)) &&& 1 = 1 := fun e => hb ((bit1_bt (by omega)).mp e)
        have hb0 : (μ' (2, 0, 1) 26 >>> (nI r &&& 31)) &&& 1 = 0 := (bit_zero _).mpr (by rw [bt_at (by omega)]; exact hb2)
        refine ⟨mset (mset (mset μ (1, j, 2) 2 (μ' (2, 0, 1) 26 ||| ((1 : Int32) <<< (nI r &&& 31)))) (1, j, 24) 8 (μ' (2, 0, 1) 21 + 1)) (1, j, 5) r 0, mset (mset μ' (2, 0, 1) 21 (μ' (2, 0, 1) 21 + 1)) (2, 0, 1) 26 (μ' (2, 0, 1) 26 ||| ((1 : Int32) <<< (nI r &&& 31))), ?_, ?_, ?_, FC.rf.set.set.set, (FM.rf.set (by omega)).set (by omega), (FS.rf.set (by unfold spM; omega)).set (by unfold spM; omega), ((FO.rf.set (by omega)).set (by omega)).set (by omega)⟩
        · simp [d1, d0, g2, hb1, show inb 8 9 = true by decide, show Int32.toNatClampNeg 8 = 8 by decide, mset_g, g8]
        · simp [d1, d2, hb0, mset_g]
        · rw [mset_comm (μ := μ') (k := 21) (k' := 26) (by decide)]
          exact ((h.w1 (o := 2) (k := 2) (i := 26) rfl (by decide) (by unfold spM; omega) (by omega)).w1 (o := 24) (k := 8) (i := 21) rfl (by decide) (by unfold spM; omega) (by omega)).refr0 hr
end RW
