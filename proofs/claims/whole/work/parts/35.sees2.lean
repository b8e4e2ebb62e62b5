/-! the guard sees a row: the pair -/
section SE
variable {L : Nat} {S : Ad → Nat → Int32} {F d n q w e M : Nat} {z z1 : Int32} {j j1 : Fin 15} {b : Bool} {μ μ' μ1 μ1' : Mm}
theorem s_slots (hF : 1 ≤ F) (h1 : 1 ≤ M) (h2 : M ≤ 8) (h : μ (1, j, 1) 3 = nI M) : run L S F d 17 0 [some (vR (1, j, 11)), some (vR (1, j, 1))] μ = some (nI M, μ) := by
  obtain ⟨F, rfl, hF'⟩ := fz hF
  rw [e17_0]
  simp only [h, slots_n h1 h2]
def SawR (s : Nat) (μ' μ1' : Mm) : Prop := μ1' (2, 0, 1) 11 = μ' (2, 0, 1) 11 ∨ μ1' (2, 0, 1) 11 = nI (s + 1)
def SeesP (L : Nat) (S : Ad → Nat → Int32) (n q w : Nat) (z : Int32) (j : Fin 15) (b : Bool) (r s : Nat) (μ μ' : Mm) : Prop :=
  ∃ (f : Int32) (μ1 μ1' : Mm), (∀ F d, 14 ≤ F → 2 ≤ d → run L S F d 16 0 [some (vR (1, j, 11)), some (vI (nI r)), some (vR (1, j, 1)), none, none] μ = some (f, μ1)) ∧ (∀ F d, 16 ≤ F → 4 ≤ d → run L S F d 149 0 [some (vR (2, 0, 0)), some (vI (nI r)), none] μ' = some (f, μ1')) ∧ (f = 0 ∨ f = 1) ∧ R n q w z 1000 j b μ1 μ1' ∧ FC j μ μ1 ∧ FM 0 μ' μ1' ∧ FG μ' μ1' ∧ SawR s μ' μ1'
theorem R.own (h : R n q w z 1000 j b μ μ') (x : Int32) (hM : M ≤ 8) : fnd (fun k => decide (μ (1, j, 12) k = x)) M 0 = fnd (fun k => decide (μ' (2, 0, 1) (172 + k) = x)) M 0 :=
  fnd_cong M 0 (fun i a c => by rw [h.lc 12 i (172 + i) (by simp [loc, show i < 8 by omega]) (by omega)])
theorem R.ownc (h : R n q w z 1000 j b μ μ') (x : Int32) (hM : M ≤ 8) : fnd (fun k => decide (μ (1, j, 13) k = x)) M 0 = fnd (fun k => decide (μ' (2, 0, 1) (180 + k) = x)) M 0 :=
  fnd_cong M 0 (fun i a c => by rw [h.lc 13 i (180 + i) (by simp [loc, show i < 8 by omega]) (by omega)])
/-- the table has a slot for it -/
theorem s_tabW (hF : 1 ≤ F) {k r : Nat} (hk : k < 8) : run L S F d 21 0 [some (vR (1, j, 11)), some (vI (nI r)), some (vI (nI k))] μ = some (μ (1, j, 13) k + 1, mset (mset μ (1, j, 12) k (nI r)) (1, j, 13) k (μ (1, j, 13) k + 1)) := by
  obtain ⟨F, rfl, hF'⟩ := fz hF
  rw [e21_0, if_neg (nI_pos (by omega))]
  simp [inb_n (show k < 8 by omega) (by decide), nI_clamp (show k < 2 ^ 31 by omega), mset_g]
theorem sees0 (h : R n q w z 1000 j b μ μ') {r s : Nat} (hr : r < n) (hg : μ' (2, 0, 1) 29 = 0) : SeesP L S n q w z j b r s μ μ' := by
  have hN := h.hn
  obtain ⟨M, M1, M2, M3⟩ := h.tn 3 1 8 (by decide) rfl rfl
  have M3 : μ' (2, 0, 1) 30 = nI M := M3
  obtain ⟨st, st1, st2, st3⟩ := h.tn 4 1 99 (by decide) rfl rfl
  have st3 : μ' (2, 0, 1) 31 = nI st := st3
  have cM : μ (1, j, 1) 3 = nI M := (h.term (by decide)).trans M3
  have cg : μ (1, j, 1) 2 = 0 := (h.term (by decide)).trans hg
  have cst : μ (1, j, 1) 4 = nI st := (h.term (by decide)).trans st3
  have c0 : μ (1, j, 11) 0 = μ' (2, 0, 1) 3 := h.lc 11 0 3 rfl (by omega)
  have hcnt : ∀ k, k < 8 → μ (1, j, 13) k = μ' (2, 0, 1) (180 + k) := fun k hk => h.lc 13 k (180 + k) (by simp [loc, hk]) (by omega)
  have sl : ∀ F d, 1 ≤ F → run L S F d 17 0 [some (vR (1, j, 11)), some (vR (1, j, 1))] μ = some (nI M, μ) := fun F d hF => s_slots hF M1 M2 cM
  have hown := h.own (M := M) (nI r) M2
  rcases fnd_at (P := fun k => decide (μ' (2, 0, 1) (172 + k) = nI r)) M 0 with ⟨a1, a2⟩ | ⟨k, a1, a2, a3, a4, a5⟩
  · have hoc := h.ownc (M := M) (μ' (2, 0, 1) 3) M2
    rcases fnd_at (P := fun k => decide (μ' (2, 0, 1) (180 + k) = μ' (2, 0, 1) 3)) M 0 with ⟨b1, b2⟩ | ⟨k, b1, b2, b3, b4, b5⟩
    · refine ⟨0, mset μ (1, j, 11) 0 (μ' (2, 0, 1) 3 + 1), mset μ' (2, 0, 1) 3 (μ' (2, 0, 1) 3 + 1), fun F d hF hd => ?_, fun F d hF hd => ?_, Or.inl rfl, h.w1 (o := 11) (k := 0) (i := 3) rfl (by decide) (by unfold spM; omega) (by omega), FC.rf.set, FM.rf.set (by omega), FG.rf.set (by unfold gM; omega), Or.inl (by rw [mset_gk (by omega)])⟩
      · obtain ⟨F, rfl, hF'⟩ := fz hF
        obtain ⟨d, rfl, hd'⟩ := fz hd
        have h21 : run L S F d 21 0 [some (vR (1, j, 11)), some (vI (nI r)), some (vI (-1))] μ = some (0, mset μ (1, j, 11) 0 (μ' (2, 0, 1) 3 + 1)) := by
          obtain ⟨F, rfl, hF'⟩ := fz (show 1 ≤ F by omega)
          rw [e21_0, if_pos (by decide), c0]
        have hst : stp 0 st = 0 := rfl
        rw [e16_0]
        simp only [sl F d (by omega), Option.bind_some, s_idr (show 12 ≤ F by omega) M2, hown, a1, cg, if_true, show (-1 : Int32) < 0 by decide, c0, s_idc (show 12 ≤ F by omega) M2, hoc, b1, h21, s_step (show 1 ≤ F by omega) st1 st2 (show mset μ (1, j, 11) 0 (μ' (2, 0, 1) 3 + 1) (1, j, 1) 4 = nI st by rw [mset_go (by decide)]; exact cst), narStp, hst, narB0]
      · obtain ⟨F, rfl, hF'⟩ := fz hF
        obtain ⟨d, rfl, hd'⟩ := fz hd
        have h144 : run L S F d 144 0 [some (vR (2, 0, 0)), some (vI (nI r)), none] μ' = some (0, mset μ' (2, 0, 1) 3 (μ' (2, 0, 1) 3 + 1)) := by
          obtain ⟨F, rfl, hF'⟩ := fz (show 12 + 1 ≤ F by omega)
          obtain ⟨d, rfl, hd'⟩ := fz hd'
          rw [e144_0]
          simp only [m_slot (show 12 ≤ F by omega) M2 M3, a1, Option.bind_some, if_true, m_slotc (show 12 ≤ F by omega) M2 M3, b1]
        rw [e149_0]
        simp only [hg, if_true, h144, Option.bind_some]
        exact m_step (by omega) (by omega) st1 st2 (by rw [mset_gk (by decide)]; exact st3)
    · have hk : k < 8 := by omega
      refine ⟨stp (μ (1, j, 13) k + 1) st, _, _, fun F d hF hd => ?_, fun F d hF hd => ?_, stp01, h.tab hg hk hr, FC.rf.set.set, (FM.rf.set (by omega)).set (by omega), (FG.rf.set (by unfold gM; omega)).set (by unfold gM; omega), Or.inl (by rw [mset_gk (by omega), mset_gk (by omega)])⟩
      · obtain ⟨F, rfl, hF'⟩ := fz hF
        obtain ⟨d, rfl, hd'⟩ := fz hd
        rw [e16_0]
        simp only [sl F d (by omega), Option.bind_some, s_idr (show 12 ≤ F by omega) M2, hown, a1, cg, if_true, show (-1 : Int32) < 0 by decide, c0, s_idc (show 12 ≤ F by omega) M2, hoc, b3, s_tabW (show 1 ≤ F by omega) hk]
        rw [s_step (show 1 ≤ F by omega) st1 st2 (by rw [mset_go (by decide), mset_go (by decide)]; exact cst)]
        simp only [Option.bind_some, narStp]
      · obtain ⟨F, rfl, hF'⟩ := fz hF
        obtain ⟨d, rfl, hd'⟩ := fz hd
        have h144 : run L S F d 144 0 [some (vR (2, 0, 0)), some (vI (nI r)), none] μ' = some (μ (1, j, 13) k + 1, mset (mset μ' (2, 0, 1) (172 + k) (nI r)) (2, 0, 1) (180 + k) (μ (1, j, 13) k + 1)) := by
          obtain ⟨F, rfl, hF'⟩ := fz (show 12 + 1 ≤ F by omega)
          obtain ⟨d, rfl, hd'⟩ := fz hd'
          rw [e144_0]
          simp only [m_slot (show 12 ≤ F by omega) M2 M3, a1, Option.bind_some, if_true, m_slotc (show 12 ≤ F by omega) M2 M3, b3, if_neg (nI_m1 (show k < 2 ^ 31 by omega)), a172, a180, inb_n (show 172 + k < 1278 by omega) (by decide), inb_n (show 180 + k < 1278 by omega) (by decide), cond_true, nI_clamp (show 172 + k < 2 ^ 31 by omega), nI_clamp (show 180 + k < 2 ^ 31 by omega), mset_gg, mset_gk (show 180 + k ≠ 172 + k by omega), hcnt k hk]
        rw [e149_0]
        simp only [hg, if_true, h144, Option.bind_some]
        exact m_step (by omega) (by omega) st1 st2 (by rw [mset_gk (by omega), mset_gk (by omega)]; exact st3)
  · have hk : k < 8 := by omega
    have hrow : μ' (2, 0, 1) (172 + k) = nI r := by simpa using a4
    refine ⟨stp (μ (1, j, 13) k + 1) st, _, _, fun F d hF hd => ?_, fun F d hF hd => ?_, stp01, h.tab hg hk hr, FC.rf.set.set, (FM.rf.set (by omega)).set (by omega), (FG.rf.set (by unfold gM; omega)).set (by unfold gM; omega), Or.inl (by rw [mset_gk (by omega), mset_gk (by omega)])⟩
    · obtain ⟨F, rfl, hF'⟩ := fz hF
      obtain ⟨d, rfl, hd'⟩ := fz hd
      rw [e16_0]
      simp only [sl F d (by omega), Option.bind_some, s_idr (show 12 ≤ F by omega) M2, hown, a3, cg, if_true, if_neg (nI_pos (show k < 2 ^ 31 by omega)), s_tabW (show 1 ≤ F by omega) hk]
      rw [s_step (show 1 ≤ F by omega) st1 st2 (by rw [mset_go (by decide), mset_go (by decide)]; exact cst)]
      simp only [Option.bind_some, narStp]
    · obtain ⟨F, rfl, hF'⟩ := fz hF
      obtain ⟨d, rfl, hd'⟩ := fz hd
      have h144 : run L S F d 144 0 [some (vR (2, 0, 0)), some (vI (nI r)), none] μ' = some (μ (1, j, 13) k + 1, mset (mset μ' (2, 0, 1) (172 + k) (nI r)) (2, 0, 1) (180 + k) (μ (1, j, 13) k + 1)) := by
        obtain ⟨F, rfl, hF'⟩ := fz (show 12 + 1 ≤ F by omega)
        obtain ⟨d, rfl, hd'⟩ := fz hd'
        rw [e144_0]
        simp only [m_slot (show 12 ≤ F by omega) M2 M3, a3, Option.bind_some, if_neg (nI_m1 (show k < 2 ^ 31 by omega)), a180, inb_n (show 180 + k < 1278 by omega) (by decide), cond_true, nI_clamp (show 180 + k < 2 ^ 31 by omega), mset_gg, hcnt k hk]
        rw [mset_id (μ := μ') (v := nI r) (q := (2, 0, 1)) (k := 172 + k) hrow.symm]
      rw [e149_0]
      simp only [hg, if_true, h144, Option.bind_some]
      exact m_step (by omega) (by omega) st1 st2 (by rw [mset_gk (by omega), mset_gk (by omega)]; exact st3)
theorem s_each (hF : 1 ≤ F) {r : Nat} (hr : r < 16) : run L S F d 20 0 [some (vR (1, j, 11)), some (vI (nI r))] μ = some (μ (1, j, 15) r + 1, mset μ (1, j, 15) r (μ (1, j, 15) r + 1)) := by
  obtain ⟨F, rfl, hF'⟩ := fz hF
  rw [e20_0]
  simp only [inb_n (show r < 16 by omega) (by decide), nI_clamp (show r < 2 ^ 31 by omega), cond_true, mset_gg]
theorem sees15 (h : R n q w z 1000 j b μ μ') {r s g : Nat} (hr : r < n) (hg : μ' (2, 0, 1) 29 = nI g) (hgg : g = 1 ∨ g = 5) : SeesP L S n q w z j b r s μ μ' := by
  have hN := h.hn
  obtain ⟨M, M1, M2, M3⟩ := h.tn 3 1 8 (by decide) rfl rfl
  have M3 : μ' (2, 0, 1) 30 = nI M := M3
  obtain ⟨st, st1, st2, st3⟩ := h.tn 4 1 99 (by decide) rfl rfl
  have st3 : μ' (2, 0, 1) 31 = nI st := st3
  have cM : μ (1, j, 1) 3 = nI M := (h.term (by decide)).trans M3
  have cg : μ (1, j, 1) 2 = nI g := (h.term (by decide)).trans hg
  have cst : μ (1, j, 1) 4 = nI st := (h.term (by decide)).trans st3
  have hc : μ (1, j, 15) r = μ' (2, 0, 1) (108 + r) := h.lc 15 r (108 + r) (by simp [loc, show r < 16 by omega]) (by omega)
  have sl : ∀ F d, 1 ≤ F → run L S F d 17 0 [some (vR (1, j, 11)), some (vR (1, j, 1))] μ = some (nI M, μ) := fun F d hF => s_slots hF M1 M2 cM
  have hR : R n q w z 1000 j b (mset μ (1, j, 15) r (μ (1, j, 15) r + 1)) (mset μ' (2, 0, 1) (108 + r) (μ (1, j, 15) r + 1)) := h.w1 (o := 15) (k := r) (i := 108 + r) (by simp [loc, show r < 16 by omega]) (by decide) (by unfold spM; omega) (by omega)
  rcases hgg with rfl | rfl
  · have cg : μ (1, j, 1) 2 = 1 := cg
    have hg : μ' (2, 0, 1) 29 = 1 := hg
    refine ⟨stp (μ (1, j, 15) r + 1) st, _, _, fun F d hF hd => ?_, fun F d hF hd => ?_, stp01, hR, FC.rf.set, FM.rf.set (by omega), FG.rf.set (by unfold gM; omega), Or.inl (by rw [mset_gk (by omega)])⟩
    · obtain ⟨F, rfl, hF'⟩ := fz hF
      obtain ⟨d, rfl, hd'⟩ := fz hd
      rw [e16_0]
      simp only [sl F d (by omega), Option.bind_some, s_idr (show 12 ≤ F by omega) M2, cg, show ¬ (1 : Int32) = 0 by decide, if_false, if_true, s_each (show 1 ≤ F by omega) (show r < 16 by omega)]
      rw [s_step (show 1 ≤ F by omega) st1 st2 (by rw [mset_go (by decide)]; exact cst)]
      simp only [Option.bind_some, narStp]
    · obtain ⟨F, rfl, hF'⟩ := fz hF
      obtain ⟨d, rfl, hd'⟩ := fz hd
      rw [e149_0]
      simp only [hg, show ¬ (1 : Int32) = 0 by decide, if_false, if_true, a108, inb_n (show 108 + r < 1278 by omega) (by decide), cond_true, nI_clamp (show 108 + r < 2 ^ 31 by omega), mset_gg, ← hc]
      exact m_step (by omega) (by omega) st1 st2 (by rw [mset_gk (by omega)]; exact st3)
  · have cg : μ (1, j, 1) 2 = 5 := cg
    have hg : μ' (2, 0, 1) 29 = 5 := hg
    refine ⟨0, _, _, fun F d hF hd => ?_, fun F d hF hd => ?_, Or.inl rfl, hR, FC.rf.set, FM.rf.set (by omega), FG.rf.set (by unfold gM; omega), Or.inl (by rw [mset_gk (by omega)])⟩
    · obtain ⟨F, rfl, hF'⟩ := fz hF
      obtain ⟨d, rfl, hd'⟩ := fz hd
      rw [e16_0]
      simp only [sl F d (by omega), Option.bind_some, s_idr (show 12 ≤ F by omega) M2, cg, show ¬ (5 : Int32) = 0 by decide, show ¬ (5 : Int32) = 1 by decide, show ¬ (5 : Int32) = 2 by decide, show ¬ (5 : Int32) = 3 by decide, show ¬ (5 : Int32) = 4 by decide, if_false, if_true, s_each (show 1 ≤ F by omega) (show r < 16 by omega), narB0]
    · obtain ⟨F, rfl, hF'⟩ := fz hF
      obtain ⟨d, rfl, hd'⟩ := fz hd
      rw [e149_0]
      simp only [hg, show ¬ (5 : Int32) = 0 by decide, show ¬ (5 : Int32) = 1 by decide, show ¬ (5 : Int32) = 2 by decide, show ¬ (5 : Int32) = 3 by decide, show ¬ (5 : Int32) = 4 by decide, if_false, if_true, a108, inb_n (show 108 + r < 1278 by omega) (by decide), cond_true, nI_clamp (show 108 + r < 2 ^ 31 by omega), narB0, ← hc]
theorem sees2 (h : R n q w z 1000 j b μ μ') {r s : Nat} (hr : r < n) (hg : μ' (2, 0, 1) 29 = 2) : SeesP L S n q w z j b r s μ μ' := by
  have hN := h.hn
  obtain ⟨M, M1, M2, M3⟩ := h.tn 3 1 8 (by decide) rfl rfl
  have M3 : μ' (2, 0, 1) 30 = nI M := M3
  have cM : μ (1, j, 1) 3 = nI M := (h.term (by decide)).trans M3
  have cg : μ (1, j, 1) 2 = 2 := (h.term (by decide)).trans hg
  have cch : μ (1, j, 1) 13 = μ' (2, 0, 1) 40 := h.term (by decide)
  obtain ⟨x, x1, x2⟩ := h.x
  have cx : μ (1, j, 11) 2 = nI x := (h.lc 11 2 2 rfl (by omega)).trans x2
  have sl : ∀ F d, 1 ≤ F → run L S F d 17 0 [some (vR (1, j, 11)), some (vR (1, j, 1))] μ = some (nI M, μ) := fun F d hF => s_slots hF M1 M2 cM
  refine ⟨if nI (x % 100) < μ' (2, 0, 1) 40 then 1 else 0, _, _, fun F d hF hd => ?_, fun F d hF hd => ?_, ?_, h.drawn (nx_lt (k := x)), FC.rf.set, FM.rf.set (by omega), FG.rf.set (by unfold gM; omega), Or.inl (by rw [mset_gk (by omega)])⟩
  · obtain ⟨F, rfl, hF'⟩ := fz hF
    obtain ⟨d, rfl, hd'⟩ := fz hd
    have hdr := s_draw (L := L) (S := S) (F := F) (d := d) (μ := μ) (j := j) (m := 100) (by omega) (by omega) (by omega) x1 cx
    rw [show nI 100 = (100 : Int32) from rfl] at hdr
    rw [e16_0]
    simp only [sl F d (by omega), Option.bind_some, s_idr (show 12 ≤ F by omega) M2, cg, show ¬ (2 : Int32) = 0 by decide, show ¬ (2 : Int32) = 1 by decide, if_false, if_true, hdr, mset_go (show (1 : Nat) ≠ 11 by decide), cch, narB0, narB1]
    split <;> rfl
  · obtain ⟨F, rfl, hF'⟩ := fz hF
    obtain ⟨d, rfl, hd'⟩ := fz hd
    have hdr := m_draw (L := L) (S := S) (F := F) (d := d) (μ' := μ') (m := 100) (by omega) (by omega) (by omega) x1 x2
    rw [show nI 100 = (100 : Int32) from rfl] at hdr
    rw [e149_0]
    simp only [hg, show ¬ (2 : Int32) = 0 by decide, show ¬ (2 : Int32) = 1 by decide, if_false, if_true, hdr, Option.bind_some, mset_gk (show (40 : Nat) ≠ 2 by decide), narB0, narB1]
    split <;> rfl
  · split
    · exact Or.inr rfl
    · exact Or.inl rfl
theorem sees3 (h : R n q w z 1000 j b μ μ') {r s : Nat} (hr : r < n) (hg : μ' (2, 0, 1) 29 = 3) : SeesP L S n q w z j b r s μ μ' := by
  have hN := h.hn
  obtain ⟨M, M1, M2, M3⟩ := h.tn 3 1 8 (by decide) rfl rfl
  have M3 : μ' (2, 0, 1) 30 = nI M := M3
  obtain ⟨st, st1, st2, st3⟩ := h.tn 4 1 99 (by decide) rfl rfl
  have st3 : μ' (2, 0, 1) 31 = nI st := st3
  have cM : μ (1, j, 1) 3 = nI M := (h.term (by decide)).trans M3
  have cg : μ (1, j, 1) 2 = 3 := (h.term (by decide)).trans hg
  have cst : μ (1, j, 1) 4 = nI st := (h.term (by decide)).trans st3
  have sl : ∀ F d, 1 ≤ F → run L S F d 17 0 [some (vR (1, j, 11)), some (vR (1, j, 1))] μ = some (nI M, μ) := fun F d hF => s_slots hF M1 M2 cM
  have r1 : nI r - nI r / nI M * nI M = nI (r % M) := pk_rem (by omega) (by omega) (by omega)
  have r2 : ((3 : Int32) * nI r + 1) - ((3 : Int32) * nI r + 1) / nI M * nI M = nI ((3 * r + 1) % M) := by rw [mul3]; exact pk_rem (by omega) (by omega) (by omega)
  have l1 : r % M < M := Nat.mod_lt _ (by omega)
  have l2 : (3 * r + 1) % M < M := Nat.mod_lt _ (by omega)
  generalize r % M = a at r1 l1
  generalize (3 * r + 1) % M = c at r2 l2
  have hM0 : ¬ nI M = 0 := nI_ne0 (by omega) (by omega)
  have c16 : μ (1, j, 16) a = μ' (2, 0, 1) (196 + a) := h.lc 16 a (196 + a) (by simp [loc, show a < 8 by omega]) (by omega)
  have c17 : μ (1, j, 17) c = μ' (2, 0, 1) (204 + c) := h.lc 17 c (204 + c) (by simp [loc, show c < 8 by omega]) (by omega)
  have hR : R n q w z 1000 j b (mset (mset μ (1, j, 16) a (μ' (2, 0, 1) (196 + a) + 1)) (1, j, 17) c (μ' (2, 0, 1) (204 + c) + 1)) (mset (mset μ' (2, 0, 1) (196 + a) (μ' (2, 0, 1) (196 + a) + 1)) (2, 0, 1) (204 + c) (μ' (2, 0, 1) (204 + c) + 1)) := (h.w1 (o := 16) (k := a) (i := 196 + a) (by simp [loc, show a < 8 by omega]) (by decide) (by unfold spM; omega) (by omega)).w1 (o := 17) (k := c) (i := 204 + c) (by simp [loc, show c < 8 by omega]) (by decide) (by unfold spM; omega) (by omega)
  refine ⟨stp (mmin (μ' (2, 0, 1) (196 + a) + 1) (μ' (2, 0, 1) (204 + c) + 1)) st, _, _, fun F d hF hd => ?_, fun F d hF hd => ?_, stp01, hR, FC.rf.set.set, (FM.rf.set (by omega)).set (by omega), (FG.rf.set (by unfold gM; omega)).set (by unfold gM; omega), Or.inl (by rw [mset_gk (by omega), mset_gk (by omega)])⟩
  · obtain ⟨F, rfl, hF'⟩ := fz hF
    obtain ⟨d, rfl, hd'⟩ := fz hd
    have h22 : run L S F d 22 0 [some (vR (1, j, 11)), some (vI (nI r)), some (vI (nI M)), none, none] μ = some (mmin (μ' (2, 0, 1) (196 + a) + 1) (μ' (2, 0, 1) (204 + c) + 1), mset (mset μ (1, j, 16) a (μ' (2, 0, 1) (196 + a) + 1)) (1, j, 17) c (μ' (2, 0, 1) (204 + c) + 1)) := by
      obtain ⟨F, rfl, hF'⟩ := fz (show 1 ≤ F by omega)
      rw [e22_0]
      simp only [if_neg hM0, r1, r2, inb_n (show a < 8 by omega) (by decide), inb_n (show c < 8 by omega) (by decide), cond_true, nI_clamp (show a < 2 ^ 31 by omega), nI_clamp (show c < 2 ^ 31 by omega), mset_gg, mset_go (show (17 : Nat) ≠ 16 by decide), mset_go (show (16 : Nat) ≠ 17 by decide), c16, c17]
    rw [e16_0]
    simp only [sl F d (by omega), Option.bind_some, s_idr (show 12 ≤ F by omega) M2, cg, show ¬ (3 : Int32) = 0 by decide, show ¬ (3 : Int32) = 1 by decide, show ¬ (3 : Int32) = 2 by decide, if_false, if_true, h22]
    rw [s_step (show 1 ≤ F by omega) st1 st2 (by rw [mset_go (by decide), mset_go (by decide)]; exact cst)]
    simp only [Option.bind_some, narStp]
  · obtain ⟨F, rfl, hF'⟩ := fz hF
    obtain ⟨d, rfl, hd'⟩ := fz hd
    obtain ⟨d, rfl, hd2⟩ := fz hd'
    have h146 : ∀ (F d : Nat) (ν : Mm), 1 ≤ F → ν (2, 0, 1) 30 = nI M → run L S F d 146 0 [some (vR (2, 0, 0)), some (vI (nI r))] ν = some (nI (196 + a), ν) := fun F d ν hF hν => by
      obtain ⟨F, rfl, hF'⟩ := fz hF
      rw [e146_0]
      simp only [hν, if_neg hM0, r1, a196]
    have h147 : ∀ (F d : Nat) (ν : Mm), 1 ≤ F → ν (2, 0, 1) 30 = nI M → run L S F d 147 0 [some (vR (2, 0, 0)), some (vI (nI r))] ν = some (nI (204 + c), ν) := fun F d ν hF hν => by
      obtain ⟨F, rfl, hF'⟩ := fz hF
      rw [e147_0]
      simp only [hν, if_neg hM0, r2, a204]
    obtain ⟨F1, hF1, hF2⟩ := fz (show 1 + 1 ≤ F by omega)
    rw [e149_0]
    simp only [hg, show ¬ (3 : Int32) = 0 by decide, show ¬ (3 : Int32) = 1 by decide, show ¬ (3 : Int32) = 2 by decide, if_false, if_true, h146 F (d + 1) _ (by omega) M3, Option.bind_some, inb_n (show 196 + a < 1278 by omega) (by decide), inb_n (show 204 + c < 1278 by omega) (by decide), cond_true, nI_clamp (show 196 + a < 2 ^ 31 by omega), nI_clamp (show 204 + c < 2 ^ 31 by omega)]
    rw [h147 F (d + 1) _ (by omega) (by rw [mset_gk (by omega)]; exact M3)]
    simp only [Option.bind_some, inb_n (show 204 + c < 1278 by omega) (by decide), cond_true, nI_clamp (show 204 + c < 2 ^ 31 by omega), mset_gk (show 204 + c ≠ 196 + a by omega)]
    have h30 : (mset (mset μ' (2, 0, 1) (196 + a) (μ' (2, 0, 1) (196 + a) + 1)) (2, 0, 1) (204 + c) (μ' (2, 0, 1) (204 + c) + 1)) (2, 0, 1) 30 = nI M := by rw [mset_gk (by omega), mset_gk (by omega)]; exact M3
    have h148 : run L S F (d + 1) 148 0 [some (vR (2, 0, 0)), some (vI (nI r)), none, none] (mset (mset μ' (2, 0, 1) (196 + a) (μ' (2, 0, 1) (196 + a) + 1)) (2, 0, 1) (204 + c) (μ' (2, 0, 1) (204 + c) + 1)) = some (mmin (μ' (2, 0, 1) (196 + a) + 1) (μ' (2, 0, 1) (204 + c) + 1), mset (mset μ' (2, 0, 1) (196 + a) (μ' (2, 0, 1) (196 + a) + 1)) (2, 0, 1) (204 + c) (μ' (2, 0, 1) (204 + c) + 1)) := by
      rw [hF1, e148_0]
      simp only [h146 F1 d _ (by omega) h30, h147 F1 d _ (by omega) h30, Option.bind_some, inb_n (show 196 + a < 1278 by omega) (by decide), inb_n (show 204 + c < 1278 by omega) (by decide), cond_true, nI_clamp (show 196 + a < 2 ^ 31 by omega), nI_clamp (show 204 + c < 2 ^ 31 by omega), mset_gg, mset_gk (show 196 + a ≠ 204 + c by omega)]
      rw [mmin_if]
      split <;> rfl
    rw [h148]
    simp only [Option.bind_some]
    exact m_step (by omega) (by omega) st1 st2 (by rw [mset_gk (by omega), mset_gk (by omega)]; exact st3)
end SE
