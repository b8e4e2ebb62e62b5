/-! a row of the queue is refreshed -/
section NE
variable {L : Nat} {S : Ad → Nat → Int32} {F d n q w e : Nat} {z z1 : Int32} {j j1 : Fin 15} {b : Bool} {μ μ' μ1 μ1' : Mm}
theorem s_take (hF : 18 ≤ F) {r : Nat} (hq : q ≤ 15) (h0 : μ (1, j, 21) 0 = nI (q + 1)) (hr : μ (1, j, 22) 0 = nI r) : run L S F d 33 0 [some (vR (1, j, 21)), none, none] μ = some (nI r, shl (mset (mset μ (1, j, 21) 1 (μ (1, j, 21) 1 &&& (((1 : Int32) <<< (nI r &&& 31)) ^^^ (-1)))) (1, j, 21) 0 (nI q)) (1, j, 22) 0 q) := by
  obtain ⟨F, rfl, hF'⟩ := fz hF
  rw [e33_0]
  simp only [hr, mset_g, h0]
  simp only [true_and, show ¬ (0 : Nat) = 1 by decide, if_false, nI_pred]
  refine s_take_go hq q 0 F _ (by omega) (by omega) ?_
  rw [mset_g, if_pos ⟨rfl, rfl⟩]
theorem m_refrT (hd : 1 ≤ d) (hF : 1 ≤ F) {r : Nat} (hr : r < 16) : run L S F d 139 0 [some (vR (2, 0, 0)), some (vI (nI r)), some (vI 1)] μ' = if μ' (2, 0, 1) 42 = 1 then (run L S (F - 1) (d - 1) 135 0 [some (vR (2, 0, 0)), some (vI (nI r)), none] (mset μ' (2, 0, 1) (60 + r) 0)).bind (fun p => some ((0 : Int32), p.2)) else some (0, mset μ' (2, 0, 1) (60 + r) 0) := by
  obtain ⟨F, rfl, hF'⟩ := fz hF
  obtain ⟨d, rfl, hd'⟩ := fz hd
  rw [e139_0]
  simp only [a60, inb_n (show 60 + r < 1278 by omega) (by decide), cond_true, nI_clamp (show 60 + r < 2 ^ 31 by omega), show ¬ (1 : Int32) = 0 by decide, if_false, mset_g, true_and, show ¬ (42 = 60 + r) by omega, if_false, Nat.add_sub_cancel]
theorem near_tail {r : Nat} (hr : r < n) (h : R n q w z 1000 j b μ μ') : ∃ (μ1 μ1' : Mm),
    (∀ F d, 26 ≤ F → 2 ≤ d → (if mset μ (1, j, 24) 5 (μ (1, j, 24) 5 + 1) (1, j, 1) 15 = 1 then (run L S F d 8 0 [some (vR (1, j, 2)), some (vI (nI r)), some (vR (1, j, 1)), none, none, none] (mset μ (1, j, 24) 5 (μ (1, j, 24) 5 + 1))).bind (fun p => some ((0 : Int32), mset p.2 (1, j, 24) 3 (mset μ (1, j, 24) 5 (μ (1, j, 24) 5 + 1) (1, j, 24) 3 + p.1))) else some (0, mset μ (1, j, 24) 5 (μ (1, j, 24) 5 + 1))) = some (0, μ1)) ∧
    (∀ F d ν', 27 ≤ F → 3 ≤ d → mset ν' (2, 0, 1) (60 + r) 0 = μ' → (run L S F d 139 0 [some (vR (2, 0, 0)), some (vI (nI r)), some (vI 1)] ν').bind (fun p => some ((0 : Int32), mset p.2 (2, 0, 1) 18 (p.2 (2, 0, 1) 18 + 1))) = some (0, μ1')) ∧ R n q w z 1000 j b μ1 μ1' ∧ FC j μ μ1 ∧ FM 12 μ' μ1' ∧ FT μ' μ1' := by
  have hN := h.hn
  have g5 : μ (1, j, 24) 5 = μ' (2, 0, 1) 18 := h.1.1 24 5 18 rfl (by omega)
  have t15 : μ (1, j, 1) 15 = μ' (2, 0, 1) 42 := h.term (by decide)
  have h1 := h.opn (o := 24) (k := 5) (e := 18) (v := μ (1, j, 24) 5 + 1) rfl (Or.inr rfl)
  rw [show mset μ (1, j, 24) 5 (μ (1, j, 24) 5 + 1) (1, j, 1) 15 = μ' (2, 0, 1) 42 from by rw [mset_g, if_neg (by omega)]; exact t15]
  by_cases c : μ' (2, 0, 1) 42 = 1
  · obtain ⟨f, μ1, μ1', a1, a2, a3, a4, a5, a6, a7⟩ := p_around (L := L) (S := S) (F := 26) (d := 2) (by omega) (by omega) h1 hr
    refine ⟨mset μ1 (1, j, 24) 3 (mset μ (1, j, 24) 5 (μ (1, j, 24) 5 + 1) (1, j, 24) 3 + f), mset μ1' (2, 0, 1) 18 (μ1' (2, 0, 1) 18 + 1), fun F d hF hd => ?_, fun F d ν' hF hd e => ?_, ?_, (FC.rf.set).tr (a4.set), a5.set (by omega), a6.ft.set (by omega) (by omega)⟩
    · rw [if_pos c, run_up a1 hF hd]; rfl
    · have c' : ν' (2, 0, 1) 42 = 1 := by rw [← c, ← e, mset_g, if_neg (by omega)]
      rw [m_refrT (by omega) (by omega) (show r < 16 by omega), if_pos c', e, run_up a2 (show 26 ≤ F - 1 by omega) (show 2 ≤ d - 1 by omega)]
      rfl
    · have a8 : μ1' (2, 0, 1) 18 = μ' (2, 0, 1) 18 := a6 18 (by unfold dM; omega)
      refine (a3.tal (a7 24 3 (by omega)).symm).cls18 ?_
      rw [mset_g, if_neg (by omega), a7 24 5 (by omega), mset_g, if_pos ⟨rfl, rfl⟩, g5, a8]
  · refine ⟨_, mset μ' (2, 0, 1) 18 (μ' (2, 0, 1) 18 + 1), fun F d hF hd => (if_neg c), fun F d ν' hF hd e => ?_, ?_, FC.rf.set, (FM.rf.set (by omega)).le (by decide), FT.rf.set (by omega) (by omega)⟩
    · have c' : ¬ ν' (2, 0, 1) 42 = 1 := by
        rw [← e, mset_g, if_neg (by omega)] at c; exact c
      rw [m_refrT (by omega) (by omega) (show r < 16 by omega), if_neg c', e]; rfl
    · refine h1.cls18 ?_
      rw [mset_g, if_pos ⟨rfl, rfl⟩, g5]
theorem p_near (hF : 60 ≤ F) (hd : 6 ≤ d) (h : R n (q + 1) w z 1000 j b μ μ') :
    ∃ (μ1 ν' μ1' : Mm), run L S F d 44 0 [some (vR (1, j, 0)), none] μ = some (0, μ1) ∧ run L S F d 155 0 [some (vR (2, 0, 0)), some (vI 1), some (vI (μ' (2, 0, 1) 37))] μ' = some (0, ν') ∧ run L S F d 157 0 [some (vR (2, 0, 0)), none, none] ν' = some (0, μ1') ∧ R n q w z 1000 j b μ1 μ1' ∧ FC j μ μ1 ∧ FM 12 μ' μ1' ∧ FT μ' μ1' := by
  obtain ⟨F, rfl, hF'⟩ := fz hF
  obtain ⟨d, rfl, hd'⟩ := fz hd
  have hN := h.hn
  have hq := h.qu.2.1
  have t10 : μ (1, j, 1) 10 = μ' (2, 0, 1) 37 := h.term (by decide)
  have tb := h.tb (k := 10) (by decide)
  have h1 := h.beg (s := 1) (v := μ' (2, 0, 1) 37) (by omega) ⟨by have := tb.1; simp [tLo] at this; omega, by have := tb.2; simp [tHi] at this; omega⟩
  rw [show nI 1 = (1 : Int32) from rfl] at h1
  have hC1 : FC j μ (mset (mset μ (1, j, 0) 7 1) (1, j, 0) 8 (μ' (2, 0, 1) 37)) := FC.rf.set.set
  have hM1 : FM 0 μ' (mset (mset (mset μ' (2, 0, 1) 7 1) (2, 0, 1) 9 1) (2, 0, 1) 8 (μ' (2, 0, 1) 37)) := ((FM.rf.set (by omega)).set (by omega)).set (by omega)
  have hc : run L S (F + 1) (d + 1) 44 0 [some (vR (1, j, 0)), none] μ = _ := e44_0
  simp only [show mset μ (1, j, 0) 7 1 (1, j, 1) 10 = μ' (2, 0, 1) 37 from by rw [mset_g, if_neg (by omega)]; exact t10] at hc
  rw [hc]
  clear hc
  generalize mset (mset μ (1, j, 0) 7 1) (1, j, 0) 8 (μ' (2, 0, 1) 37) = ν at h1 hC1 ⊢
  have hT1 : FT μ' (mset (mset (mset μ' (2, 0, 1) 7 1) (2, 0, 1) 9 1) (2, 0, 1) 8 (μ' (2, 0, 1) 37)) := ((FT.rf.set (by omega) (by omega)).set (by omega) (by omega)).set (by omega) (by omega)
  have hb := m_begins (L := L) (S := S) (F := F + 1) (d := d + 1) (μ' := μ') (s := 1) (v := μ' (2, 0, 1) 37) (by omega)
  generalize mset (mset (mset μ' (2, 0, 1) 7 1) (2, 0, 1) 9 1) (2, 0, 1) 8 (μ' (2, 0, 1) 37) = ν' at h1 hM1 hT1 hb
  obtain ⟨r, hr, c0, c1, h2⟩ := h1.take (v := nI q) rfl
  have hC2 : FC j μ (shl (mset (mset ν (1, j, 21) 1 (ν (1, j, 21) 1 &&& (((1 : Int32) <<< (nI r &&& 31)) ^^^ (-1)))) (1, j, 21) 0 (nI q)) (1, j, 22) 0 q) := hC1.tr (FC.rf.set.set).shl
  have hM2 : FM 0 μ' (shl (mset ν' (2, 0, 1) 4 (nI q)) (2, 0, 1) 212 (212 + q)) := hM1.tr ((FM.rf.set (by omega)).shl (by omega))
  have hT2 : FT μ' (shl (mset ν' (2, 0, 1) 4 (nI q)) (2, 0, 1) 212 (212 + q)) := hT1.tr ((FT.rf.set (by omega) (by omega)).shl (by omega))
  have hm : run L S (F + 1) (d + 1) 157 0 [some (vR (2, 0, 0)), none, none] ν' = run L S (F - q) (d + 1) 157 21 [some (vR (2, 0, 0)), some (vI (nI r)), some (vI (nI q))] (shl (mset ν' (2, 0, 1) 4 (nI q)) (2, 0, 1) 212 (212 + q)) := by
    rw [e157_0]
    simp only [c0, h1.qu.1, nI_pred]
    have := m_take_go (L := L) (S := S) (d := d) (x := nI r) (p := q) (by omega) q 0 (F - q) (mset ν' (2, 0, 1) 4 (nI q)) (by omega) (by rw [mset_g, if_pos ⟨rfl, rfl⟩])
    rw [show F - q + q = F by omega] at this
    exact this
  simp only [s_take (L := L) (S := S) (F := F) (d := d) (μ := ν) (j := j) (by omega) (show q ≤ 15 by omega) ((h1.lc 21 0 4 rfl (by omega)).trans h1.qu.1) c1, Option.bind_some]
  have g4 : (shl (mset ν' (2, 0, 1) 4 (nI q)) (2, 0, 1) 212 (212 + q)) (2, 0, 1) 4 = nI q := h2.qu.1
  generalize shl (mset (mset ν (1, j, 21) 1 (ν (1, j, 21) 1 &&& (((1 : Int32) <<< (nI r &&& 31)) ^^^ (-1)))) (1, j, 21) 0 (nI q)) (1, j, 22) 0 q = ν2 at h2 hC2 ⊢
  generalize shl (mset ν' (2, 0, 1) 4 (nI q)) (2, 0, 1) 212 (212 + q) = ν2' at h2 hM2 hT2 g4 hm
  obtain ⟨G, hG, hG'⟩ := fz (show 40 + 1 ≤ F - q by omega)
  obtain ⟨d, rfl, hd2⟩ := fz hd'
  have t16 : ν2 (1, j, 1) 16 = ν2' (2, 0, 1) 43 := h2.term (by decide)
  rw [hG, e157_21] at hm
  simp only [t16, g4, if_neg (nI_nlt (Nat.le_refl q) (show q < 2 ^ 31 by omega))] at hm ⊢
  by_cases cs : ν2' (2, 0, 1) 43 = 2
  · obtain ⟨μ3, μ3', b1, b2, b3, b4, b5, b6, b7⟩ := p_refrS (L := L) (S := S) (F := 13) (d := 3) (by omega) (by omega) h2 hr (a := 1) (by decide)
    obtain ⟨μ4, μ4', a1, a2, a3, a4, a5, a6⟩ := near_tail (L := L) (S := S) hr b3
    simp only [if_pos cs, run_up b1 (show 13 ≤ F by omega) (show 3 ≤ d + 1 by omega), Option.bind_some]
    rw [if_pos cs, run_up b2 (show 13 ≤ G by omega) (show 3 ≤ d + 1 by omega)] at hm
    exact ⟨μ4, ν', μ4', a1 _ _ (by omega) (by omega), hb, by rw [hm]; exact a2 _ _ _ (by omega) (by omega) rfl, a3, (hC2.tr b4).tr a4, (hM2.tr (b5.set0 (by omega))).tr a5, (hT2.tr (b6.ft.set (by omega) (by omega))).tr a6⟩
  · rw [if_neg cs] at hm
    obtain ⟨μ4, μ4', a1, a2, a3, a4, a5, a6⟩ := near_tail (L := L) (S := S) hr (h2.refr0 hr)
    simp only [if_neg cs, c_refr0 (show 1 ≤ F by omega) (show 1 ≤ d + 1 by omega) (show r < 16 by omega), Option.bind_some]
    exact ⟨μ4, ν', μ4', a1 _ _ (by omega) (by omega), hb, by rw [hm]; exact a2 _ _ _ (by omega) (by omega) rfl, a3, (hC2.tr FC.rf.set).tr a4, (hM2.tr (FM.rf.set0 (by omega))).tr a5, (hT2.tr (FT.rf.set (by omega) (by omega))).tr a6⟩
end NE
