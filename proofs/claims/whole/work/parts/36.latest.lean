/-! the guard of the rows seen last -/
theorem mset_mset {μ : Mm} {q : Ad} {k : Nat} {v v' : Int32} : mset (mset μ q k v) q k v' = mset μ q k v' := by
  funext q2 k2
  unfold mset
  by_cases e1 : q2 = q ∧ k2 = k
  · rw [if_pos e1, if_pos e1]
  · rw [if_neg e1, if_neg e1, if_neg e1]
section LA
variable {L : Nat} {S : Ad → Nat → Int32} {F d n q w e M : Nat} {z z1 : Int32} {j j1 : Fin 15} {b : Bool} {μ μ' μ1 μ1' : Mm}
theorem s_lat (hF : 1 ≤ F) {k r s : Nat} {c : Int32} (hk : k < 8) (h1 : μ (1, j, 11) 1 = nI s) (hc : c = if μ (1, j, 12) k = nI r then μ (1, j, 13) k + 1 else 0 + 1) : run L S F d 23 0 [some (vR (1, j, 11)), some (vI (nI r)), some (vI (nI k))] μ = some (c, mset (mset (mset (mset μ (1, j, 12) k (nI r)) (1, j, 13) k c) (1, j, 11) 1 (nI (s + 1))) (1, j, 14) k (nI (s + 1))) := by
  obtain ⟨F, rfl, hF'⟩ := fz hF
  rw [e23_0]
  by_cases e : μ (1, j, 12) k = nI r
  · rw [if_pos e] at hc
    simp only [inb_n (show k < 8 by omega) (by decide), nI_clamp (show k < 2 ^ 31 by omega), cond_true, e, if_true, mset_gg, mset_go (show (11 : Nat) ≠ 13 by decide), mset_go (show (13 : Nat) ≠ 11 by decide), mset_go (show (13 : Nat) ≠ 14 by decide), h1, nI_1, ← hc]
    rw [mset_id (μ := μ) (v := nI r) (q := (1, j, 12)) (k := k) e.symm]
  · rw [if_neg e] at hc
    simp only [inb_n (show k < 8 by omega) (by decide), nI_clamp (show k < 2 ^ 31 by omega), cond_true, if_neg e, mset_gg, mset_go (show (11 : Nat) ≠ 13 by decide), mset_go (show (11 : Nat) ≠ 12 by decide), mset_go (show (13 : Nat) ≠ 11 by decide), mset_go (show (13 : Nat) ≠ 14 by decide), h1, nI_1, ← hc, mset_mset]
theorem m_lat (hF : 13 ≤ F) (hd : 1 ≤ d) {k r s : Nat} {c : Int32} (hM1 : 1 ≤ M) (hM : M ≤ 8) (h30 : μ' (2, 0, 1) 30 = nI M) (h11 : μ' (2, 0, 1) 11 = nI s) (hk : k < 8)
    (hc : (fnd (fun k => decide (μ' (2, 0, 1) (172 + k) = nI r)) M 0 = nI k ∧ c = μ' (2, 0, 1) (180 + k) + 1 ∧ μ' (2, 0, 1) (172 + k) = nI r) ∨ (fnd (fun k => decide (μ' (2, 0, 1) (172 + k) = nI r)) M 0 = -1 ∧ c = 0 + 1 ∧ (fnd (fun k => decide (μ' (2, 0, 1) (172 + k) = -1)) M 0 = nI k ∨ (fnd (fun k => decide (μ' (2, 0, 1) (172 + k) = -1)) M 0 = -1 ∧ eld (fun k => μ' (2, 0, 1) (188 + k)) (M - 1) 0 1 = k)))) :
    run L S F d 145 0 [some (vR (2, 0, 0)), some (vI (nI r)), none] μ' = some (c, mset (mset (mset (mset μ' (2, 0, 1) (172 + k) (nI r)) (2, 0, 1) (180 + k) c) (2, 0, 1) 11 (nI (s + 1))) (2, 0, 1) (188 + k) (nI (s + 1))) := by
  obtain ⟨F, rfl, hF'⟩ := fz hF
  obtain ⟨d, rfl, hd'⟩ := fz hd
  have g172 : ∀ k, mset μ' (2, 0, 1) 11 (nI (s + 1)) (2, 0, 1) (172 + k) = μ' (2, 0, 1) (172 + k) := fun k => mset_gk (by omega)
  have g188 : ∀ k, mset μ' (2, 0, 1) 11 (nI (s + 1)) (2, 0, 1) (188 + k) = μ' (2, 0, 1) (188 + k) := fun k => mset_gk (by omega)
  have g30 : mset μ' (2, 0, 1) 11 (nI (s + 1)) (2, 0, 1) 30 = nI M := (mset_gk (by omega)).trans h30
  have sl : ∀ x, run L S F d 141 0 [some (vR (2, 0, 0)), some (vI x), none] (mset μ' (2, 0, 1) 11 (nI (s + 1))) = some (fnd (fun k => decide (μ' (2, 0, 1) (172 + k) = x)) M 0, mset μ' (2, 0, 1) 11 (nI (s + 1))) := fun x => by
    rw [m_slot (show 12 ≤ F by omega) hM g30]
    simp only [g172]
  have el : run L S F d 143 0 [some (vR (2, 0, 0)), none, none] (mset μ' (2, 0, 1) 11 (nI (s + 1))) = some (nI (eld (fun k => μ' (2, 0, 1) (188 + k)) (M - 1) 0 1), mset μ' (2, 0, 1) 11 (nI (s + 1))) := by
    rw [m_eld (show 12 ≤ F by omega) hM1 hM g30]
    simp only [g188]
  rw [e145_0]
  simp only [h11, nI_1, sl, el, Option.bind_some]
  have hord : mset (mset (mset μ' (2, 0, 1) 11 (nI (s + 1))) (2, 0, 1) (172 + k) (nI r)) (2, 0, 1) (180 + k) c = mset (mset (mset μ' (2, 0, 1) (172 + k) (nI r)) (2, 0, 1) (180 + k) c) (2, 0, 1) 11 (nI (s + 1)) := by
    rw [mset_comm (μ := μ') (k := 11) (k' := 172 + k) (by omega), mset_comm (μ := mset μ' (2, 0, 1) (172 + k) (nI r)) (k := 11) (k' := 180 + k) (by omega)]
  rcases hc with ⟨c1, c2, c3⟩ | ⟨c1, c2, c3 | ⟨c3, c4⟩⟩
  · have hid : mset (mset μ' (2, 0, 1) 11 (nI (s + 1))) (2, 0, 1) (172 + k) (nI r) = mset μ' (2, 0, 1) 11 (nI (s + 1)) := mset_id (by rw [g172]; exact c3.symm)
    rw [hid] at hord
    simp only [c1, if_neg (nI_m1 (show k < 2 ^ 31 by omega)), a180, a188, inb_n (show 180 + k < 1278 by omega) (by decide), inb_n (show 188 + k < 1278 by omega) (by decide), cond_true, nI_clamp (show 180 + k < 2 ^ 31 by omega), nI_clamp (show 188 + k < 2 ^ 31 by omega), mset_gg, mset_gk (show 180 + k ≠ 11 by omega), mset_gk (show 11 ≠ 180 + k by omega), mset_gk (show 180 + k ≠ 188 + k by omega), ← c2, hord]
  · simp only [c1, c3, if_true, if_neg (nI_m1 (show k < 2 ^ 31 by omega)), a172, a180, a188, inb_n (show 172 + k < 1278 by omega) (by decide), inb_n (show 180 + k < 1278 by omega) (by decide), inb_n (show 188 + k < 1278 by omega) (by decide), cond_true, nI_clamp (show 172 + k < 2 ^ 31 by omega), nI_clamp (show 180 + k < 2 ^ 31 by omega), nI_clamp (show 188 + k < 2 ^ 31 by omega), mset_gg, mset_gk (show 11 ≠ 172 + k by omega), mset_gk (show 11 ≠ 180 + k by omega), mset_gk (show 180 + k ≠ 188 + k by omega), mset_gk (show 180 + k ≠ 11 by omega), mset_mset, ← c2, hord]
  · simp only [c1, c3, c4, if_true, a172, a180, a188, inb_n (show 172 + k < 1278 by omega) (by decide), inb_n (show 180 + k < 1278 by omega) (by decide), inb_n (show 188 + k < 1278 by omega) (by decide), cond_true, nI_clamp (show 172 + k < 2 ^ 31 by omega), nI_clamp (show 180 + k < 2 ^ 31 by omega), nI_clamp (show 188 + k < 2 ^ 31 by omega), mset_gg, mset_gk (show 11 ≠ 172 + k by omega), mset_gk (show 11 ≠ 180 + k by omega), mset_gk (show 180 + k ≠ 188 + k by omega), mset_gk (show 180 + k ≠ 11 by omega), mset_mset, ← c2, hord]
theorem sees4 (h : R n q w z 1000 j b μ μ') {r s : Nat} (hr : r < n) (hg : μ' (2, 0, 1) 29 = 4) (hs : μ' (2, 0, 1) 11 = nI s) (hs2 : s + 1 < 2 ^ 31) : SeesP L S n q w z j b r s μ μ' := by
  have hN := h.hn
  obtain ⟨M, M1, M2, M3⟩ := h.tn 3 1 8 (by decide) rfl rfl
  have M3 : μ' (2, 0, 1) 30 = nI M := M3
  obtain ⟨st, st1, st2, st3⟩ := h.tn 4 1 99 (by decide) rfl rfl
  have st3 : μ' (2, 0, 1) 31 = nI st := st3
  have cM : μ (1, j, 1) 3 = nI M := (h.term (by decide)).trans M3
  have cg : μ (1, j, 1) 2 = 4 := (h.term (by decide)).trans hg
  have cst : μ (1, j, 1) 4 = nI st := (h.term (by decide)).trans st3
  have c11 : μ (1, j, 11) 1 = nI s := (h.lc 11 1 11 rfl (by omega)).trans hs
  have sl : ∀ F d, 1 ≤ F → run L S F d 17 0 [some (vR (1, j, 11)), some (vR (1, j, 1))] μ = some (nI M, μ) := fun F d hF => s_slots hF M1 M2 cM
  have hown := h.own (M := M) (nI r) M2
  have hcnt : ∀ k, k < 8 → μ (1, j, 13) k = μ' (2, 0, 1) (180 + k) := fun k hk => h.lc 13 k (180 + k) (by simp [loc, hk]) (by omega)
  have hrow : ∀ k, k < 8 → μ (1, j, 12) k = μ' (2, 0, 1) (172 + k) := fun k hk => h.lc 12 k (172 + k) (by simp [loc, hk]) (by omega)
  have fin : ∀ (k : Nat) (c : Int32), k < 8 → c = (if μ (1, j, 12) k = nI r then μ (1, j, 13) k + 1 else 0 + 1) →
      (∀ F d, 13 ≤ F → 1 ≤ d → run L S F d 145 0 [some (vR (2, 0, 0)), some (vI (nI r)), none] μ' = some (c, mset (mset (mset (mset μ' (2, 0, 1) (172 + k) (nI r)) (2, 0, 1) (180 + k) c) (2, 0, 1) 11 (nI (s + 1))) (2, 0, 1) (188 + k) (nI (s + 1)))) →
      (∀ F d, 12 ≤ F → (if fnd (fun k => decide (μ' (2, 0, 1) (172 + k) = nI r)) M 0 < 0 then (run L S F d 24 0 [some (vR (1, j, 11)), some (vI (nI M)), none, none] μ) else some (fnd (fun k => decide (μ' (2, 0, 1) (172 + k) = nI r)) M 0, μ)) = some (nI k, μ)) → SeesP L S n q w z j b r s μ μ' := fun k c hk hc hm hx => by
    refine ⟨stp c st, _, _, fun F d hF hd => ?_, fun F d hF hd => ?_, stp01, h.lat (c := c) hk hr hs2, FC.rf.set.set.set.set, (((FM.rf.set (by omega)).set (by omega)).set (by omega)).set (by omega), (((FG.rf.set (by unfold gM; omega)).set (by unfold gM; omega)).set (by unfold gM; omega)).set (by unfold gM; omega), Or.inr (by rw [mset_gk (by omega), mset_gg])⟩
    · obtain ⟨F, rfl, hF'⟩ := fz hF
      obtain ⟨d, rfl, hd'⟩ := fz hd
      have hx := hx F d (by omega)
      have h4 : (mset (mset (mset (mset μ (1, j, 12) k (nI r)) (1, j, 13) k c) (1, j, 11) 1 (nI (s + 1))) (1, j, 14) k (nI (s + 1))) (1, j, 1) 4 = nI st := by
        rw [mset_go (by decide), mset_go (by decide), mset_go (by decide), mset_go (by decide)]; exact cst
      rw [e16_0]
      simp only [sl F d (by omega), Option.bind_some, s_idr (show 12 ≤ F by omega) M2, hown, cg, show ¬ (4 : Int32) = 0 by decide, show ¬ (4 : Int32) = 1 by decide, show ¬ (4 : Int32) = 2 by decide, show ¬ (4 : Int32) = 3 by decide, if_false, if_true]
      by_cases c0 : fnd (fun k => decide (μ' (2, 0, 1) (172 + k) = nI r)) M 0 < 0
      · rw [if_pos c0] at hx
        simp only [if_pos c0, hx, Option.bind_some, s_lat (show 1 ≤ F by omega) hk c11 hc, s_step (show 1 ≤ F by omega) st1 st2 h4, narStp]
      · rw [if_neg c0] at hx
        have hx : fnd (fun k => decide (μ' (2, 0, 1) (172 + k) = nI r)) M 0 = nI k := by injection hx with hx; injection hx
        rw [hx] at c0 ⊢
        simp only [if_neg c0, Option.bind_some, s_lat (show 1 ≤ F by omega) hk c11 hc, s_step (show 1 ≤ F by omega) st1 st2 h4, narStp]
    · obtain ⟨F, rfl, hF'⟩ := fz hF
      obtain ⟨d, rfl, hd'⟩ := fz hd
      rw [e149_0]
      simp only [hg, show ¬ (4 : Int32) = 0 by decide, show ¬ (4 : Int32) = 1 by decide, show ¬ (4 : Int32) = 2 by decide, show ¬ (4 : Int32) = 3 by decide, if_false, if_true, hm F d (by omega) (by omega), Option.bind_some]
      exact m_step (by omega) (by omega) st1 st2 (by rw [mset_gk (by omega), mset_gk (by omega), mset_gk (by omega), mset_gk (by omega)]; exact st3)
  rcases fnd_at (P := fun k => decide (μ' (2, 0, 1) (172 + k) = nI r)) M 0 with ⟨a1, a2⟩ | ⟨k, a1, a2, a3, a4, a5⟩
  · have hno : ∀ i, i < M → ¬ μ' (2, 0, 1) (172 + i) = nI r := fun i hi => by
      have := a2 i (by omega) (by omega)
      simpa using this
    have heq : eld (fun k => μ (1, j, 14) k) (M - 1) 0 1 = eld (fun k => μ' (2, 0, 1) (188 + k)) (M - 1) 0 1 := eld_cong (M - 1) 0 1 (by omega) (fun i hi => h.lc 14 i (188 + i) (by simp [loc, show i < 8 by omega]) (by omega))
    obtain ⟨s1, s2, s3⟩ := eld_spec (f := fun k => μ' (2, 0, 1) (188 + k)) (M - 1) 0 1 (by omega) (fun i hi => by rw [show i = 0 by omega]; exact Int.le_refl _) (fun i hi => by omega)
    have hk : eld (fun k => μ' (2, 0, 1) (188 + k)) (M - 1) 0 1 < 8 := by omega
    refine fin _ (0 + 1) hk ?_ (fun F d hF hd => m_lat hF hd M1 M2 M3 hs hk (Or.inr ⟨a1, rfl, ?_⟩)) (fun F d hF => ?_)
    · rw [if_neg]
      rw [hrow _ hk]
      exact hno _ (by omega)
    · rcases fnd_at (P := fun k => decide (μ' (2, 0, 1) (172 + k) = -1)) M 0 with ⟨b1, b2⟩ | ⟨i, b1, b2, b3, b4, b5⟩
      · exact Or.inr ⟨b1, rfl⟩
      · refine Or.inl (b3.trans ?_)
        congr 1
        have b4 : μ' (2, 0, 1) (172 + i) = -1 := by simpa using b4
        have z0 : (0 : Int32).toInt = 0 := rfl
        have si : (μ' (2, 0, 1) (188 + i)).toInt = 0 := by
          rcases h.se i (by omega) with ⟨_, x⟩ | ⟨⟨r', r1, r2⟩, x⟩
          · rw [x]; rfl
          · rw [b4] at r2
            exact absurd r2.symm (nI_m1 (by omega))
        have ge : ∀ k, k < 8 → 0 ≤ (μ' (2, 0, 1) (188 + k)).toInt := fun k hk => by
          rcases h.se k hk with ⟨_, x⟩ | ⟨_, x⟩
          · rw [x]; decide
          · have := x hg; omega
        have le := s2 i (by omega)
        have le : (μ' (2, 0, 1) (188 + eld (fun k => μ' (2, 0, 1) (188 + k)) (M - 1) 0 1)).toInt ≤ (μ' (2, 0, 1) (188 + i)).toInt := le
        rcases Nat.lt_trichotomy i (eld (fun k => μ' (2, 0, 1) (188 + k)) (M - 1) 0 1) with c | c | c
        · have lt := s3 i c
          have lt : (μ' (2, 0, 1) (188 + eld (fun k => μ' (2, 0, 1) (188 + k)) (M - 1) 0 1)).toInt < (μ' (2, 0, 1) (188 + i)).toInt := lt
          have := ge _ hk
          omega
        · exact c
        · have b5' := b5 (eld (fun k => μ' (2, 0, 1) (188 + k)) (M - 1) 0 1) (by omega) c
          rcases h.se (eld (fun k => μ' (2, 0, 1) (188 + k)) (M - 1) 0 1) hk with ⟨x, _⟩ | ⟨_, x⟩
          · simp only [x] at b5'
            exact absurd b5' (by decide)
          · have := x hg
            omega
    · rw [a1, if_pos (by decide), s_eld hF M1 M2, heq]
  · have hk : k < 8 := by omega
    have a4 : μ' (2, 0, 1) (172 + k) = nI r := by simpa using a4
    refine fin k (μ' (2, 0, 1) (180 + k) + 1) hk ?_ (fun F d hF hd => m_lat hF hd M1 M2 M3 hs hk (Or.inl ⟨a3, rfl, a4⟩)) (fun F d hF => ?_)
    · rw [hrow k hk, if_pos a4, hcnt k hk]
    · rw [a3, if_neg (nI_pos (by omega))]
theorem p_sees (h : R n q w z 1000 j b μ μ') {r s : Nat} (hr : r < n) (hs : μ' (2, 0, 1) 11 = nI s) (hs2 : s + 1 < 2 ^ 31) : SeesP L S n q w z j b r s μ μ' := by
  obtain ⟨g, g1, g2, g3⟩ := h.tn 2 0 5 (by decide) rfl rfl
  have g3 : μ' (2, 0, 1) 29 = nI g := g3
  rcases (show g = 0 ∨ g = 1 ∨ g = 2 ∨ g = 3 ∨ g = 4 ∨ g = 5 by omega) with rfl | rfl | rfl | rfl | rfl | rfl
  · exact sees0 h hr g3
  · exact sees15 h hr g3 (Or.inl rfl)
  · exact sees2 h hr g3
  · exact sees3 h hr g3
  · exact sees4 h hr g3 hs hs2
  · exact sees15 h hr g3 (Or.inr rfl)
end LA
