/-! a row is opened -/
section OP
variable {L : Nat} {S : Ad → Nat → Int32} {F d n q w e M : Nat} {z z1 : Int32} {j j1 : Fin 15} {b : Bool} {μ μ' μ1 μ1' : Mm}
theorem s_mark (hF : 1 ≤ F) {r : Nat} (hr : r < 16) : run L S F d 7 0 [some (vR (1, j, 2)), some (vI (nI r))] μ = some (0, mset (mset (mset μ (1, j, 5) r 0) (1, j, 6) r (μ (1, j, 6) r + 1)) (1, j, 7) r (μ (1, j, 7) r + 1)) := by
  obtain ⟨F, rfl, hF'⟩ := fz hF
  rw [e7_0]
  simp only [inb_n (show r < 16 by omega) (by decide), cond_true, nI_clamp (show r < 2 ^ 31 by omega), mset_go (show (6 : Nat) ≠ 5 by decide), mset_go (show (7 : Nat) ≠ 5 by decide), mset_go (show (7 : Nat) ≠ 6 by decide)]
/-- all of it but taking the request away -/
def OpC (L : Nat) (S : Ad → Nat → Int32) (F d : Nat) (j : Fin 15) (r : Nat) (μ : Mm) : Option Rz :=
  (run L S F d 7 0 [some (vR (1, j, 2)), some (vI (nI r))] μ).bind fun p9 =>
  (run L S F d 8 0 [some (vR (1, j, 2)), some (vI (nI r)), some (vR (1, j, 1)), none, none, none] p9.2).bind fun p11 =>
  (run L S F d 16 0 [some (vR (1, j, 11)), some (vI (nI r)), some (vR (1, j, 1)), none, none] (mset p11.2 (1, j, 24) 3 (p9.2 (1, j, 24) 3 + p11.1))).bind fun p13 =>
  if p13.1 = 0 then some (0, p13.2) else
  (run L S F d 48 0 [some (vR (1, j, 0)), some (vI (nI r)), none, none, none, none, none] (mset p13.2 (1, j, 24) 4 (p13.2 (1, j, 24) 4 + 1))).bind fun p16 =>
  some (0, p16.2)
theorem p_opens (h : R n q w z 1000 j b μ μ') {r s : Nat} (hr : r < n) (hs : μ' (2, 0, 1) 11 = nI s) (hs2 : s + 1 < 2 ^ 31) : ∃ (q1 : Nat) (μ1 μ1' : Mm), (∀ F d, 30 ≤ F → 4 ≤ d → OpC L S F d j r μ = some (0, μ1)) ∧
    (∀ F d, 50 ≤ F → 6 ≤ d → run L S F d 154 0 [some (vR (2, 0, 0)), some (vI (nI r)), none] μ' = some (0, μ1')) ∧ R n q1 w z 1000 j b μ1 μ1' ∧ FC j μ μ1 ∧ FM 12 μ' μ1' ∧ SawR s μ' μ1' ∧ μ1' (2, 0, 1) 1 = μ' (2, 0, 1) 1 ∧ μ1' (2, 0, 1) 15 = μ' (2, 0, 1) 15 ∧ μ1' (2, 0, 1) 8 = μ' (2, 0, 1) 8 ∧ μ1' (2, 0, 0) 10 = μ' (2, 0, 0) 10 := by
  have hN := h.hn
  have c6 : μ (1, j, 6) r = μ' (2, 0, 1) (76 + r) := h.lc 6 r (76 + r) (by simp [loc, hr]) (by omega)
  have c7 : μ (1, j, 7) r = μ' (2, 0, 1) (92 + r) := h.lc 7 r (92 + r) (by simp [loc, hr]) (by omega)
  have h1 : R n q w z 1000 j b (mset (mset (mset μ (1, j, 5) r 0) (1, j, 6) r (μ (1, j, 6) r + 1)) (1, j, 7) r (μ (1, j, 7) r + 1)) (mset (mset (mset μ' (2, 0, 1) (60 + r) 0) (2, 0, 1) (76 + r) (μ' (2, 0, 1) (76 + r) + 1)) (2, 0, 1) (92 + r) (μ' (2, 0, 1) (92 + r) + 1)) := by
    rw [c6, c7]
    exact ((h.refr0 hr).w1 (o := 6) (k := r) (i := 76 + r) (by simp [loc, hr]) (by decide) (by unfold spM; omega) (by omega)).w1 (o := 7) (k := r) (i := 92 + r) (by simp [loc, hr]) (by decide) (by unfold spM; omega) (by omega)
  have hC1 : FC j μ (mset (mset (mset μ (1, j, 5) r 0) (1, j, 6) r (μ (1, j, 6) r + 1)) (1, j, 7) r (μ (1, j, 7) r + 1)) := FC.rf.set.set.set
  have hM1 : FM 0 μ' (mset (mset (mset μ' (2, 0, 1) (60 + r) 0) (2, 0, 1) (76 + r) (μ' (2, 0, 1) (76 + r) + 1)) (2, 0, 1) (92 + r) (μ' (2, 0, 1) (92 + r) + 1)) := ((FM.rf.set0 (by omega)).set (by omega)).set (by omega)
  have hg : ∀ i, i < 60 → mset (mset (mset μ' (2, 0, 1) (60 + r) 0) (2, 0, 1) (76 + r) (μ' (2, 0, 1) (76 + r) + 1)) (2, 0, 1) (92 + r) (μ' (2, 0, 1) (92 + r) + 1) (2, 0, 1) i = μ' (2, 0, 1) i := fun i hi => by rw [mset_gk (by omega), mset_gk (by omega), mset_gk (by omega)]
  have hf : mset (mset (mset μ' (2, 0, 1) (60 + r) 0) (2, 0, 1) (76 + r) (μ' (2, 0, 1) (76 + r) + 1)) (2, 0, 1) (92 + r) (μ' (2, 0, 1) (92 + r) + 1) (2, 0, 0) 10 = μ' (2, 0, 0) 10 := by rw [mset_ne (by decide), mset_ne (by decide), mset_ne (by decide)]
  have hm : ∀ F d, 1 ≤ F → 1 ≤ d → run L S F d 154 0 [some (vR (2, 0, 0)), some (vI (nI r)), none] μ' = (run L S (F - 1) (d - 1) 135 0 [some (vR (2, 0, 0)), some (vI (nI r)), none] (mset (mset (mset μ' (2, 0, 1) (60 + r) 0) (2, 0, 1) (76 + r) (μ' (2, 0, 1) (76 + r) + 1)) (2, 0, 1) (92 + r) (μ' (2, 0, 1) (92 + r) + 1))).bind fun p6 =>
      (run L S (F - 1) (d - 1) 149 0 [some (vR (2, 0, 0)), some (vI (nI r)), none] p6.2).bind fun p7 => if p7.1 = 0 then some (0, p7.2) else run L S (F - 1) d 154 63 [some (vR (2, 0, 0)), some (vI (nI r)), some (vI 1)] (mset p7.2 (2, 0, 1) 17 (p7.2 (2, 0, 1) 17 + 1)) := fun F d hF hd => by
    obtain ⟨F, rfl, hF'⟩ := fz hF
    obtain ⟨d, rfl, hd'⟩ := fz hd
    rw [e154_0]
    simp only [a60, a76, a92, inb_n (show 60 + r < 1278 by omega) (by decide), inb_n (show 76 + r < 1278 by omega) (by decide), inb_n (show 92 + r < 1278 by omega) (by decide), cond_true, nI_clamp (show 60 + r < 2 ^ 31 by omega), nI_clamp (show 76 + r < 2 ^ 31 by omega), nI_clamp (show 92 + r < 2 ^ 31 by omega), mset_gk (show 76 + r ≠ 60 + r by omega), mset_gk (show 92 + r ≠ 76 + r by omega), mset_gk (show 92 + r ≠ 60 + r by omega), Nat.add_sub_cancel]
  generalize mset (mset (mset μ' (2, 0, 1) (60 + r) 0) (2, 0, 1) (76 + r) (μ' (2, 0, 1) (76 + r) + 1)) (2, 0, 1) (92 + r) (μ' (2, 0, 1) (92 + r) + 1) = ν' at h1 hM1 hg hf hm
  have hk : ∀ F d, 1 ≤ F → run L S F d 7 0 [some (vR (1, j, 2)), some (vI (nI r))] μ = some (0, mset (mset (mset μ (1, j, 5) r 0) (1, j, 6) r (μ (1, j, 6) r + 1)) (1, j, 7) r (μ (1, j, 7) r + 1)) := fun F d hF => s_mark hF (by omega)
  generalize mset (mset (mset μ (1, j, 5) r 0) (1, j, 6) r (μ (1, j, 6) r + 1)) (1, j, 7) r (μ (1, j, 7) r + 1) = ν at h1 hC1 hk
  obtain ⟨f, ν2, ν2', a1, a2, a3, a4, a5, a6, a7⟩ := p_around (L := L) (S := S) (F := 26) (d := 2) (by omega) (by omega) h1 hr
  have h2 := a3.tal (a7 24 3 (by omega)).symm
  have s2 : ν2' (2, 0, 1) 11 = nI s := (a6 11 (by unfold dM; omega)).trans ((hg 11 (by omega)).trans hs)
  obtain ⟨g, ν3, ν3', b1, b2, b3, b4, b5, b6, b7, b8⟩ := p_sees (L := L) (S := S) h2 hr s2 hs2
  have hf2 : FM 12 μ' ν3' := hM1.tr (a5.tr b6)
  have hC3 : FC j μ ν3 := (hC1.tr a4).tr (FC.tr (FC.rf.set) b5)
  have k10 : ν3' (2, 0, 0) 10 = μ' (2, 0, 0) 10 := hf2.2.2.1 10 (by decide)
  have saw : SawR s μ' ν3' := by
    rcases b8 with x | x
    · exact Or.inl (x.trans ((a6 11 (by unfold dM; omega)).trans (hg 11 (by omega))))
    · exact Or.inr x
  have kk : ∀ i, i = 1 ∨ i = 8 ∨ i = 15 → ν3' (2, 0, 1) i = μ' (2, 0, 1) i := fun i hi => (b7 i (by unfold gM; omega)).trans ((a6 i (by unfold dM; omega)).trans (hg i (by omega)))
  rcases b3 with rfl | rfl
  · refine ⟨q, ν3, ν3', fun F d hF hd => ?_, fun F d hF hd => ?_, b4, hC3, hf2, saw, kk 1 (by omega), kk 15 (by omega), kk 8 (by omega), k10⟩
    · unfold OpC
      simp only [hk F d (by omega), Option.bind_some, run_up a1 (show 26 ≤ F by omega) (show 2 ≤ d by omega), b1 F d (by omega) (by omega), if_true]
    · rw [hm F d (by omega) (by omega)]
      simp only [run_up a2 (show 26 ≤ F - 1 by omega) (show 2 ≤ d - 1 by omega), Option.bind_some, b2 (F - 1) (d - 1) (by omega) (by omega), if_true]
  · have c4 : ν3 (1, j, 24) 4 = ν3' (2, 0, 1) 17 := b4.lc 24 4 17 rfl (by omega)
    have h4 : R n q w z 1000 j b (mset ν3 (1, j, 24) 4 (ν3 (1, j, 24) 4 + 1)) (mset ν3' (2, 0, 1) 17 (ν3' (2, 0, 1) 17 + 1)) := by
      rw [c4]
      exact b4.w1 (o := 24) (k := 4) (i := 17) rfl (by decide) (by unfold spM; omega) (by omega)
    obtain ⟨q1, ν5, ν5', d1, d2, d3, d4, d5, d6⟩ := p_neigh (L := L) (S := S) h4 hr
    have k2 : ∀ i, i = 1 ∨ i = 8 ∨ i = 11 ∨ i = 15 → ν5' (2, 0, 1) i = ν3' (2, 0, 1) i := fun i hi => (d6 i (by omega) (by omega)).trans (mset_gk (by omega))
    refine ⟨q1, ν5, ν5', fun F d hF hd => ?_, fun F d hF hd => ?_, d3, hC3.tr ((FC.rf.set).tr d4), hf2.tr ((FM.rf.set (by omega)).tr d5), ?_, (k2 1 (by omega)).trans (kk 1 (by omega)), (k2 15 (by omega)).trans (kk 15 (by omega)), (k2 8 (by omega)).trans (kk 8 (by omega)), ?_⟩
    · unfold OpC
      simp only [hk F d (by omega), Option.bind_some, run_up a1 (show 26 ≤ F by omega) (show 2 ≤ d by omega), b1 F d (by omega) (by omega), show ¬ (1 : Int32) = 0 by decide, if_false, d1 F d (by omega) (by omega)]
    · rw [hm F d (by omega) (by omega)]
      simp only [run_up a2 (show 26 ≤ F - 1 by omega) (show 2 ≤ d - 1 by omega), Option.bind_some, b2 (F - 1) (d - 1) (by omega) (by omega), show ¬ (1 : Int32) = 0 by decide, if_false, d2 (F - 1) d (by omega) (by omega)]
    · rcases saw with x | x
      · exact Or.inl ((k2 11 (by omega)).trans x)
      · exact Or.inr ((k2 11 (by omega)).trans x)
    · exact (hf2.tr ((FM.rf.set (by omega)).tr d5)).2.2.1 10 (by decide)
end OP
