/-! neighbours come into the queue -/
section NB
variable {L : Nat} {S : Ad → Nat → Int32} {F d n q w e : Nat} {z z1 : Int32} {j j1 : Fin 15} {b : Bool} {μ μ' μ1 μ1' : Mm}
theorem p_beside (h : R n q w z 1000 j b μ μ') {r : Nat} (hr : r < n) {off s kn : Int32} (hkn : kn = if μ' (2, 0, 1) 41 = 1 then 1 else 0) (hs : s = (if μ' (2, 0, 1) 41 = 1 then μ' (2, 0, 1) (44 + r) else nI r) + off) :
    ∃ (q1 : Nat) (μ1 μ1' : Mm), (∀ F d (K : Mm → Option Rz), 5 ≤ F → (run L S F d 4 0 [some (vR (1, j, 2)), some (vI s)] μ).bind (fun p => if p.1 = 0 then K p.2 else if kn = 0 then (run L S F d 32 0 [some (vR (1, j, 21)), some (vI s), none] p.2).bind (fun p => K p.2) else bif inb s 16 then (run L S F d 32 0 [some (vR (1, j, 21)), some (vI (p.2 (1, j, 4) (Int32.toNatClampNeg s))), none] p.2).bind (fun p => K p.2) else none) = K μ1) ∧
      (∀ F d, 30 ≤ F → 3 ≤ d → run L S F d 153 0 [some (vR (2, 0, 0)), some (vI (nI r)), some (vI off), none] μ' = some (0, μ1')) ∧ R n q1 w z 1000 j b μ1 μ1' ∧ FC j μ μ1 ∧ FM 0 μ' μ1' ∧ FQ μ' μ1' := by
  have hN := h.hn
  have h153 : ∀ F d, 30 ≤ F → 3 ≤ d → run L S F d 153 0 [some (vR (2, 0, 0)), some (vI (nI r)), some (vI off), none] μ' = if ¬ (0 ≤ s.toInt ∧ s.toInt < n) then some (0, μ') else if μ' (2, 0, 1) 41 = 1 then (run L S (F - 1) (d - 1) 132 0 [some (vR (2, 0, 0)), some (vI s), none] μ').bind (fun p => (run L S (F - 1) (d - 1) 152 0 [some (vR (2, 0, 0)), some (vI p.1)] p.2).bind (fun p => some ((0 : Int32), p.2))) else (run L S (F - 1) (d - 1) 152 0 [some (vR (2, 0, 0)), some (vI s)] μ').bind (fun p => some ((0 : Int32), p.2)) := fun F d hF hd => by
    obtain ⟨F, rfl, hF'⟩ := fz hF
    obtain ⟨d, rfl, hd'⟩ := fz hd
    rw [e153_0, hs]
    by_cases c : μ' (2, 0, 1) 41 = 1
    · simp only [c, if_true, a44, inb_n (show 44 + r < 1278 by omega) (by decide), cond_true, nI_clamp (show 44 + r < 2 ^ 31 by omega), hN.2.1, s_inN (show 1 ≤ F by omega) (show 1 ≤ n by omega) hN.2.2.2, Option.bind_some]
      by_cases c2 : 0 ≤ (μ' (2, 0, 1) (44 + r) + off).toInt ∧ (μ' (2, 0, 1) (44 + r) + off).toInt < n
      · rw [if_pos c2]; simp only [if_neg (not_not_intro c2), show ¬ (1 : Int32) = 0 by decide, if_false, Nat.add_sub_cancel]
      · rw [if_neg c2]; simp only [if_pos c2, if_true]
    · simp only [if_neg c, hN.2.1, s_inN (show 1 ≤ F by omega) (show 1 ≤ n by omega) hN.2.2.2, Option.bind_some]
      by_cases c2 : 0 ≤ (nI r + off).toInt ∧ (nI r + off).toInt < n
      · rw [if_pos c2]; simp only [if_neg (not_not_intro c2), show ¬ (1 : Int32) = 0 by decide, if_false, Nat.add_sub_cancel]
      · rw [if_neg c2]; simp only [if_pos c2, if_true]
  by_cases c2 : 0 ≤ s.toInt ∧ s.toInt < n
  · have hsp := nI_toNat c2.1
    generalize hp : s.toInt.toNat = p at hsp
    have hpn : p < n := by omega
    clear hs
    subst hsp
    by_cases c : μ' (2, 0, 1) 41 = 1
    · obtain ⟨r', hr', h1, h2, hu⟩ := h.at hpn
      obtain ⟨q1, μ1, μ1', a1, a2, a3, a4, a5, a6⟩ := p_join (L := L) (S := S) h hr'
      refine ⟨q1, μ1, μ1', fun F d K hF => ?_, fun F d hF hd => ?_, a3, a4, a5, a6⟩
      · rw [if_pos c] at hkn
        subst hkn
        simp only [s_has (show 1 ≤ F by omega) hN.1 hN.2.2.2, if_pos c2, Option.bind_some, show ¬ (1 : Int32) = 0 by decide, if_false, inb_n (show p < 16 by omega) (by decide), cond_true, nI_clamp (show p < 2 ^ 31 by omega), h1, a1 F d (by omega)]
      · simp only [h153 F d hF hd, if_neg (not_not_intro c2), if_pos c, s_rowAt (show 18 ≤ F - 1 by omega) hN.2.2.2 hr' h2 hu, Option.bind_some, a2 (F - 1) (d - 1) (by omega) (by omega)]
    · obtain ⟨q1, μ1, μ1', a1, a2, a3, a4, a5, a6⟩ := p_join (L := L) (S := S) h hpn
      refine ⟨q1, μ1, μ1', fun F d K hF => ?_, fun F d hF hd => ?_, a3, a4, a5, a6⟩
      · rw [if_neg c] at hkn
        subst hkn
        simp only [s_has (show 1 ≤ F by omega) hN.1 hN.2.2.2, if_pos c2, Option.bind_some, show ¬ (1 : Int32) = 0 by decide, if_false, if_true, a1 F d (by omega)]
      · simp only [h153 F d hF hd, if_neg (not_not_intro c2), if_neg c, Option.bind_some, a2 (F - 1) (d - 1) (by omega) (by omega)]
  · refine ⟨q, μ, μ', fun F d K hF => ?_, fun F d hF hd => ?_, h, FC.rf, FM.rf, FQ.rf⟩
    · simp only [s_has (show 1 ≤ F by omega) hN.1 hN.2.2.2, if_neg c2, Option.bind_some, if_true]
    · rw [h153 F d hF hd, if_pos c2]
/-- both neighbours so far off -/
theorem p_pairOf (h : R n q w z 1000 j b μ μ') {r t : Nat} (hr : r < n) (ht : t < 4) {kn mid off : Int32} (hkn : kn = if μ' (2, 0, 1) 41 = 1 then 1 else 0) (hm : mid = if μ' (2, 0, 1) 41 = 1 then μ' (2, 0, 1) (44 + r) else nI r) (ht2 : t = 0 ∧ off = 1 ∨ t = 2 ∧ off = 2) (hre : ∃ m, m ≤ 2 ∧ t < 2 * m ∧ μ' (2, 0, 1) 28 = nI m) :
    ∃ (q1 : Nat) (μ1 μ1' : Mm), (∀ F d, 5 ≤ F → 1 ≤ d → run L S (F + 2) d 48 38 [some (vR (1, j, 0)), none, some (vI kn), some (vI mid), some (vI (nI t)), none, none] μ = run L S F d 48 38 [some (vR (1, j, 0)), none, some (vI kn), some (vI mid), some (vI (nI (t + 2))), none, none] μ1) ∧
      (∀ F d, 31 ≤ F → 4 ≤ d → run L S (F + 1) d 154 63 [some (vR (2, 0, 0)), some (vI (nI r)), some (vI off)] μ' = run L S F d 154 63 [some (vR (2, 0, 0)), some (vI (nI r)), some (vI (off + 1))] μ1') ∧ R n q1 w z 1000 j b μ1 μ1' ∧ FC j μ μ1 ∧ FM 0 μ' μ1' ∧ FQ μ' μ1' := by
  obtain ⟨m, m1, m2, m3⟩ := hre
  have hoff : (nI t / 2 : Int32) + 1 = off := by
    rcases ht2 with ⟨rfl, rfl⟩ | ⟨rfl, rfl⟩ <;> decide
  have hoff2 : (nI (t + 1) / 2 : Int32) + 1 = off := by
    rcases ht2 with ⟨rfl, rfl⟩ | ⟨rfl, rfl⟩ <;> decide
  have hev : (nI t - nI t / 2 * 2 : Int32) = 0 := by
    rcases ht2 with ⟨rfl, rfl⟩ | ⟨rfl, rfl⟩ <;> decide
  have hod : ¬ (nI (t + 1) - nI (t + 1) / 2 * 2 : Int32) = 0 := by
    rcases ht2 with ⟨rfl, rfl⟩ | ⟨rfl, rfl⟩ <;> decide
  have hlt : nI t < 2 * nI m ∧ nI (t + 1) < 2 * nI m := by
    have : m = 1 ∨ m = 2 := by omega
    rcases ht2 with ⟨rfl, rfl⟩ | ⟨rfl, rfl⟩
    · rcases this with rfl | rfl <;> decide
    · rcases this with rfl | rfl
      · omega
      · decide
  have hng : ¬ nI m < off := by
    have : m = 1 ∨ m = 2 := by omega
    rcases ht2 with ⟨rfl, rfl⟩ | ⟨rfl, rfl⟩
    · rcases this with rfl | rfl <;> decide
    · rcases this with rfl | rfl
      · omega
      · decide
  obtain ⟨q1, μ1, μ1', a1, a2, a3, a4, a5, a6⟩ := p_beside (L := L) (S := S) h hr (off := -off) (s := mid - off) (kn := kn) hkn (by rw [hm]; exact Int32.sub_eq_add_neg _ _)
  have f41 : μ1' (2, 0, 1) 41 = μ' (2, 0, 1) 41 := a6 41 (by omega) (by omega)
  have f28 : μ1' (2, 0, 1) 28 = μ' (2, 0, 1) 28 := a6 28 (by omega) (by omega)
  have hN := h.hn
  have f44 : μ1' (2, 0, 1) (44 + r) = μ' (2, 0, 1) (44 + r) := a6 (44 + r) (by omega) (by omega)
  obtain ⟨q2, μ2, μ2', b1, b2, b3, b4, b5, b6⟩ := p_beside (L := L) (S := S) a3 hr (off := off) (s := mid + off) (kn := kn) (by rw [f41]; exact hkn) (by rw [hm, f41, f44])
  have t1 : μ (1, j, 1) 1 = nI m := (h.term (by decide)).trans m3
  have t2 : μ1 (1, j, 1) 1 = nI m := (a3.term (by decide)).trans (f28.trans m3)
  refine ⟨q2, μ2, μ2', fun F d hF hd => ?_, fun F d hF hd => ?_, b3, a4.tr b4, a5.tr b5, a6.tr b6⟩
  · obtain ⟨d, rfl, hd'⟩ := fz hd
    rw [show F + 2 = (F + 1) + 1 by omega, e48_38]
    simp only [t1, if_pos hlt.1, if_pos hev, hoff, nI_1]
    rw [a1 (F + 1) d (fun ν => run L S (F + 1) (d + 1) 48 38 [some (vR (1, j, 0)), none, some (vI kn), some (vI mid), some (vI (nI (t + 1))), none, none] ν) (by omega), e48_38]
    simp only [t2, if_pos hlt.2, if_neg hod, hoff2, nI_1]
    exact b1 F d (fun ν => run L S F (d + 1) 48 38 [some (vR (1, j, 0)), none, some (vI kn), some (vI mid), some (vI (nI (t + 1 + 1))), none, none] ν) (by omega)
  · obtain ⟨d, rfl, hd'⟩ := fz hd
    rw [e154_63]
    simp only [m3, if_neg hng, a2 F d (by omega) (by omega), b2 F d (by omega) (by omega), Option.bind_some]
theorem p_neigh (h : R n q w z 1000 j b μ μ') {r : Nat} (hr : r < n) : ∃ (q1 : Nat) (μ1 μ1' : Mm), (∀ F d, 12 ≤ F → 1 ≤ d → run L S F d 48 0 [some (vR (1, j, 0)), some (vI (nI r)), none, none, none, none, none] μ = some (0, μ1)) ∧
      (∀ F d, 40 ≤ F → 4 ≤ d → run L S F d 154 63 [some (vR (2, 0, 0)), some (vI (nI r)), some (vI 1)] μ' = some (0, μ1')) ∧ R n q1 w z 1000 j b μ1 μ1' ∧ FC j μ μ1 ∧ FM 0 μ' μ1' ∧ FQ μ' μ1' := by
  have hN := h.hn
  obtain ⟨m, m1, m2, m3⟩ := h.tn 1 1 2 (by decide) rfl rfl
  have m3 : μ' (2, 0, 1) 28 = nI m := m3
  have t14 : μ (1, j, 1) 14 = μ' (2, 0, 1) 41 := h.term (by decide)
  have hpl : μ (1, j, 3) r = μ' (2, 0, 1) (44 + r) := h.lc 3 r (44 + r) (by simp [loc, hr]) (by omega)
  have hst : ∀ F d, 1 ≤ d → run L S (F + 1) d 48 0 [some (vR (1, j, 0)), some (vI (nI r)), none, none, none, none, none] μ = run L S F d 48 38 [some (vR (1, j, 0)), none, some (vI (if μ' (2, 0, 1) 41 = 1 then 1 else 0)), some (vI (if μ' (2, 0, 1) 41 = 1 then μ' (2, 0, 1) (44 + r) else nI r)), some (vI (nI 0)), none, none] μ := fun F d hd => by
    obtain ⟨d, rfl, hd'⟩ := fz hd
    rw [e48_0]
    by_cases c : μ' (2, 0, 1) 41 = 1
    · simp only [t14, c, if_true, inb_n (show r < 16 by omega) (by decide), cond_true, nI_clamp (show r < 2 ^ 31 by omega), hpl]
      rfl
    · simp only [t14, if_neg c]
      rfl
  obtain ⟨q1, μ1, μ1', a1, a2, a3, a4, a5, a6⟩ := p_pairOf (L := L) (S := S) (t := 0) (off := 1) h hr (by omega) rfl rfl (by simp) ⟨m, m2, by omega, m3⟩
  have f41 : μ1' (2, 0, 1) 41 = μ' (2, 0, 1) 41 := a6 41 (by omega) (by omega)
  have f28 : μ1' (2, 0, 1) 28 = μ' (2, 0, 1) 28 := a6 28 (by omega) (by omega)
  have f44 : μ1' (2, 0, 1) (44 + r) = μ' (2, 0, 1) (44 + r) := a6 (44 + r) (by omega) (by omega)
  rcases (show m = 1 ∨ m = 2 by omega) with rfl | rfl
  · refine ⟨q1, μ1, μ1', fun F d hF hd => ?_, fun F d hF hd => ?_, a3, a4, a5, a6⟩
    · rw [show F = (F - 4) + 1 + 2 + 1 by omega, hst _ _ hd, a1 _ _ (by omega) hd]
      obtain ⟨d, rfl, hd'⟩ := fz hd
      rw [e48_38]
      have t2 : μ1 (1, j, 1) 1 = nI 1 := (a3.term (by decide)).trans (f28.trans m3)
      simp only [t2]
      rw [if_neg (by decide)]
    · rw [show F = (F - 2) + 1 + 1 by omega, a2 _ _ (by omega) hd]
      obtain ⟨d, rfl, hd'⟩ := fz hd
      rw [e154_63]
      simp only [f28, m3]
      rw [if_pos (by decide)]
  · obtain ⟨q2, μ2, μ2', b1, b2, b3, b4, b5, b6⟩ := p_pairOf (L := L) (S := S) (t := 2) (off := 2) a3 hr (by omega) rfl rfl (by simp) ⟨2, by omega, by omega, f28.trans m3⟩
    rw [f41, f44] at b1
    refine ⟨q2, μ2, μ2', fun F d hF hd => ?_, fun F d hF hd => ?_, b3, a4.tr b4, a5.tr b5, a6.tr b6⟩
    · rw [show F = (F - 6) + 1 + 2 + 2 + 1 by omega, hst _ _ hd, a1 _ _ (by omega) hd, b1 _ _ (by omega) hd]
      obtain ⟨d, rfl, hd'⟩ := fz hd
      rw [e48_38]
      have t2 : μ2 (1, j, 1) 1 = nI 2 := (b3.term (by decide)).trans ((b6 28 (by omega) (by omega)).trans (f28.trans m3))
      simp only [t2]
      rw [if_neg (by decide)]
    · rw [show F = (F - 3) + 1 + 1 + 1 by omega, a2 _ _ (by omega) hd, show (1 : Int32) + 1 = 2 by decide, b2 _ _ (by omega) hd]
      obtain ⟨d, rfl, hd'⟩ := fz hd
      rw [e154_63]
      simp only [b6 28 (by omega) (by omega), f28, m3]
      rw [if_pos (by decide)]
end NB
