/-! a pattern read, asked for and tried on paper -/
section PP
variable {L : Nat} {S : Ad → Nat → Int32} {d e n q w m t s T T1 l c r p k sz op : Nat} {B : Nat → Nat} {z x : Int32} {μ μ' μ1 μ1' μ2 : Mm} {a1 a2 a3 a4 a5 : Int32} {ν ν0 ν1 ν2 κ : Mm}
/-- a pattern read, on both sides -/
theorem p_reads (h : TB sz B μ ν) (h0 : ν (2, 0, 1) 0 = nI n) (hn : 1 ≤ n) (hn2 : n ≤ 16) : ∃ y μ2 ν2, Ev (fun F => run L S F 29 70 0 [some (vR (0, 0, 9)), some (vR (0, 0, 8)), some (vI (nI sz)), some (vI (nI n)), none] μ) (0, μ2) ∧ Ev (fun F => run L S F 29 178 0 [some (vR (2, 0, 0)), some (vI (nI sz))] ν) (y, ν2) ∧ FRc μ μ2 ∧ (∀ k, k ≠ 13 → k ≠ 14 → k ≠ 15 → k ≠ 16 → k ≠ 20 → ν2 (2, 0, 0) k = ν (2, 0, 0) k) ∧ (∀ q : Ad, q ≠ (2, 0, 0) → q ≠ (2, 0, 9) → ν2 q = ν q) ∧ μ2 (0, 0, 9) 4 = ν2 (2, 0, 0) 15 ∧ μ2 (0, 0, 9) 5 = ν2 (2, 0, 0) 16 ∧ ((y = 1 ∧ ν2 (2, 0, 0) 15 = 0 ∧ ∃ r, r ≤ 48 ∧ RDr n r μ2 ν2) ∨ (y = 0 ∧ ¬ ν2 (2, 0, 0) 15 = 0)) := by
  have hz := h.1
  -- the class begins
  have c72 : Ev (fun F => run L S F 28 72 0 [some (vR (0, 0, 9))] (mset (mset (mset (mset μ (0, 0, 9) 3 0) (0, 0, 9) 4 0) (0, 0, 9) 5 (-1)) (0, 0, 9) 6 0)) (0, mset (mset (mset (mset (mset (mset μ (0, 0, 9) 3 0) (0, 0, 9) 4 0) (0, 0, 9) 5 (-1)) (0, 0, 9) 6 0) (0, 0, 9) 7 0) (0, 0, 9) 9 0) := Ev.step (by
    simp only [e72_0]
    exact Ev.ret)
  have cst : ∀ v, Ev (fun F => run L S F 29 70 37 [some (vR (0, 0, 9)), some (vR (0, 0, 8)), some (vI (nI sz)), some (vI (nI n)), some (vI (nI 0))] (mset (mset (mset (mset (mset (mset (mset (mset μ (0, 0, 9) 3 0) (0, 0, 9) 4 0) (0, 0, 9) 5 (-1)) (0, 0, 9) 6 0) (0, 0, 9) 7 0) (0, 0, 9) 9 0) (0, 0, 9) 10 0) (0, 0, 9) 11 0)) v → Ev (fun F => run L S F 29 70 0 [some (vR (0, 0, 9)), some (vR (0, 0, 8)), some (vI (nI sz)), some (vI (nI n)), none] μ) v := fun v hv => by
    refine Ev.step ?_
    simp only [e70_0]
    exact Ev.bind c72 hv
  have g3 : mset (mset (mset (mset (mset (mset (mset (mset μ (0, 0, 9) 3 0) (0, 0, 9) 4 0) (0, 0, 9) 5 (-1)) (0, 0, 9) 6 0) (0, 0, 9) 7 0) (0, 0, 9) 9 0) (0, 0, 9) 10 0) (0, 0, 9) 11 0 (0, 0, 9) 3 = 0 := by rw [mset_gk (by decide), mset_gk (by decide), mset_gk (by decide), mset_gk (by decide), mset_gk (by decide), mset_gk (by decide), mset_gk (by decide), mset_gg]
  have g4 : mset (mset (mset (mset (mset (mset (mset (mset μ (0, 0, 9) 3 0) (0, 0, 9) 4 0) (0, 0, 9) 5 (-1)) (0, 0, 9) 6 0) (0, 0, 9) 7 0) (0, 0, 9) 9 0) (0, 0, 9) 10 0) (0, 0, 9) 11 0 (0, 0, 9) 4 = 0 := by rw [mset_gk (by decide), mset_gk (by decide), mset_gk (by decide), mset_gk (by decide), mset_gk (by decide), mset_gk (by decide), mset_gg]
  have g5 : mset (mset (mset (mset (mset (mset (mset (mset μ (0, 0, 9) 3 0) (0, 0, 9) 4 0) (0, 0, 9) 5 (-1)) (0, 0, 9) 6 0) (0, 0, 9) 7 0) (0, 0, 9) 9 0) (0, 0, 9) 10 0) (0, 0, 9) 11 0 (0, 0, 9) 5 = -1 := by rw [mset_gk (by decide), mset_gk (by decide), mset_gk (by decide), mset_gk (by decide), mset_gk (by decide), mset_gg]
  have g6 : mset (mset (mset (mset (mset (mset (mset (mset μ (0, 0, 9) 3 0) (0, 0, 9) 4 0) (0, 0, 9) 5 (-1)) (0, 0, 9) 6 0) (0, 0, 9) 7 0) (0, 0, 9) 9 0) (0, 0, 9) 10 0) (0, 0, 9) 11 0 (0, 0, 9) 6 = 0 := by rw [mset_gk (by decide), mset_gk (by decide), mset_gk (by decide), mset_gk (by decide), mset_gg]
  have g7 : mset (mset (mset (mset (mset (mset (mset (mset μ (0, 0, 9) 3 0) (0, 0, 9) 4 0) (0, 0, 9) 5 (-1)) (0, 0, 9) 6 0) (0, 0, 9) 7 0) (0, 0, 9) 9 0) (0, 0, 9) 10 0) (0, 0, 9) 11 0 (0, 0, 9) 7 = 0 := by rw [mset_gk (by decide), mset_gk (by decide), mset_gk (by decide), mset_gg]
  have g9 : mset (mset (mset (mset (mset (mset (mset (mset μ (0, 0, 9) 3 0) (0, 0, 9) 4 0) (0, 0, 9) 5 (-1)) (0, 0, 9) 6 0) (0, 0, 9) 7 0) (0, 0, 9) 9 0) (0, 0, 9) 10 0) (0, 0, 9) 11 0 (0, 0, 9) 9 = 0 := by rw [mset_gk (by decide), mset_gk (by decide), mset_gg]
  have g10 : mset (mset (mset (mset (mset (mset (mset (mset μ (0, 0, 9) 3 0) (0, 0, 9) 4 0) (0, 0, 9) 5 (-1)) (0, 0, 9) 6 0) (0, 0, 9) 7 0) (0, 0, 9) 9 0) (0, 0, 9) 10 0) (0, 0, 9) 11 0 (0, 0, 9) 10 = 0 := by rw [mset_gk (by decide), mset_gg]
  have g11 : mset (mset (mset (mset (mset (mset (mset (mset μ (0, 0, 9) 3 0) (0, 0, 9) 4 0) (0, 0, 9) 5 (-1)) (0, 0, 9) 6 0) (0, 0, 9) 7 0) (0, 0, 9) 9 0) (0, 0, 9) 10 0) (0, 0, 9) 11 0 (0, 0, 9) 11 = 0 := mset_gg
  have gf : FRc μ (mset (mset (mset (mset (mset (mset (mset (mset μ (0, 0, 9) 3 0) (0, 0, 9) 4 0) (0, 0, 9) 5 (-1)) (0, 0, 9) 6 0) (0, 0, 9) 7 0) (0, 0, 9) 9 0) (0, 0, 9) 10 0) (0, 0, 9) 11 0) := FRc.rf.f.f.f.f.f.f.f.f
  generalize mset (mset (mset (mset (mset (mset (mset (mset μ (0, 0, 9) 3 0) (0, 0, 9) 4 0) (0, 0, 9) 5 (-1)) (0, 0, 9) 6 0) (0, 0, 9) 7 0) (0, 0, 9) 9 0) (0, 0, 9) 10 0) (0, 0, 9) 11 0 = μ0 at cst g3 g4 g5 g6 g7 g9 g10 g11 gf
  clear c72
  -- the reference begins
  have h13 : mset (mset (mset (mset (mset ν (2, 0, 0) 13 (nI sz)) (2, 0, 0) 14 0) (2, 0, 0) 15 0) (2, 0, 0) 16 (-1)) (2, 0, 0) 20 0 (2, 0, 0) 13 = nI sz := by rw [mset_gk (by decide), mset_gk (by decide), mset_gk (by decide), mset_gk (by decide), mset_gg]
  have h14 : mset (mset (mset (mset (mset ν (2, 0, 0) 13 (nI sz)) (2, 0, 0) 14 0) (2, 0, 0) 15 0) (2, 0, 0) 16 (-1)) (2, 0, 0) 20 0 (2, 0, 0) 14 = 0 := by rw [mset_gk (by decide), mset_gk (by decide), mset_gk (by decide), mset_gg]
  have h15 : mset (mset (mset (mset (mset ν (2, 0, 0) 13 (nI sz)) (2, 0, 0) 14 0) (2, 0, 0) 15 0) (2, 0, 0) 16 (-1)) (2, 0, 0) 20 0 (2, 0, 0) 15 = 0 := by rw [mset_gk (by decide), mset_gk (by decide), mset_gg]
  have h16 : mset (mset (mset (mset (mset ν (2, 0, 0) 13 (nI sz)) (2, 0, 0) 14 0) (2, 0, 0) 15 0) (2, 0, 0) 16 (-1)) (2, 0, 0) 20 0 (2, 0, 0) 16 = -1 := by rw [mset_gk (by decide), mset_gg]
  have h20 : mset (mset (mset (mset (mset ν (2, 0, 0) 13 (nI sz)) (2, 0, 0) 14 0) (2, 0, 0) 15 0) (2, 0, 0) 16 (-1)) (2, 0, 0) 20 0 (2, 0, 0) 20 = 0 := mset_gg
  have hk : ∀ k, k ≠ 13 → k ≠ 14 → k ≠ 15 → k ≠ 16 → k ≠ 20 → mset (mset (mset (mset (mset ν (2, 0, 0) 13 (nI sz)) (2, 0, 0) 14 0) (2, 0, 0) 15 0) (2, 0, 0) 16 (-1)) (2, 0, 0) 20 0 (2, 0, 0) k = ν (2, 0, 0) k := fun k a b c e f => by rw [mset_gk f, mset_gk e, mset_gk c, mset_gk b, mset_gk a]
  have hq : ∀ q : Ad, q ≠ (2, 0, 0) → mset (mset (mset (mset (mset ν (2, 0, 0) 13 (nI sz)) (2, 0, 0) 14 0) (2, 0, 0) 15 0) (2, 0, 0) 16 (-1)) (2, 0, 0) 20 0 q = ν q := fun q a => by rw [mset_ne a, mset_ne a, mset_ne a, mset_ne a, mset_ne a]
  have rst : ∀ v, Ev (fun F => (run L S F 28 177 0 [some (vR (2, 0, 0)), some (vI 0)] (mset (mset (mset (mset (mset ν (2, 0, 0) 13 (nI sz)) (2, 0, 0) 14 0) (2, 0, 0) 15 0) (2, 0, 0) 16 (-1)) (2, 0, 0) 20 0)).bind fun p6 =>
      if p6.2 (2, 0, 0) 15 = 0 then
        if p6.2 (2, 0, 0) 14 < p6.2 (2, 0, 0) 13 then
          (run L S F 28 173 0 [some (vR (2, 0, 0)), some (vI 1), some (vI (p6.2 (2, 0, 0) 14))] p6.2).bind fun p11 =>
          run L S F 29 178 57 [some (vR (2, 0, 0)), none] p11.2
        else
          run L S F 29 178 57 [some (vR (2, 0, 0)), none] p6.2
      else
        run L S F 29 178 57 [some (vR (2, 0, 0)), none] p6.2) v → Ev (fun F => run L S F 29 178 0 [some (vR (2, 0, 0)), some (vI (nI sz))] ν) v := fun v hv => by
    refine Ev.step ?_
    simp only [e178_0]
    exact hv
  generalize mset (mset (mset (mset (mset ν (2, 0, 0) 13 (nI sz)) (2, 0, 0) 14 0) (2, 0, 0) 15 0) (2, 0, 0) 16 (-1)) (2, 0, 0) 20 0 = ν0 at h13 h14 h15 h16 h20 hk hq rst
  have sj : SJ sz n B 0 0 0 μ0 ν0 := ⟨⟨h.1, fun i hi => by rw [gf _ (by decide) (by decide) (by decide) (by decide), hq _ (by decide)]; exact h.2 i hi⟩, ⟨by omega, h20, g3, g11, fun k a => absurd a (by omega)⟩, h13, h14, h15, h16.trans g5.symm, by rw [hq _ (by decide)]; exact h0, g4, g6, g7, g9⟩
  obtain ⟨ν4, l1, l2⟩ := lists_ok (L := L) (S := S) (d := 25) (sz := sz) (B := B) hn hn2 3 0 rfl 0 0 μ0 ν0 (by omega) sj g10
  have l1' : Ev (fun F => run L S F 28 177 0 [some (vR (2, 0, 0)), some (vI 0)] ν0) (0, ν4) := l1.dp (by omega)
  -- the reference's end with a fault
  have bad57 : ∀ κ : Mm, ¬ κ (2, 0, 0) 15 = 0 → Ev (fun F => run L S F 29 178 57 [some (vR (2, 0, 0)), none] κ) (0, κ) := fun κ hκ => Ev.step (by
    simp only [e178_57, if_neg hκ, narB0]
    exact Ev.ret)
  rcases l2 with fo | ⟨p2, ⟨r2, μ4, w1, w2, ⟨s1, s2, s3, s4, s5, s6, s7, s8, s9, s10, s11⟩, w4, w5, w6, w7, w8, w9⟩, wE⟩
  · obtain ⟨μ2, f1, f2, f3, f4, f5, f6⟩ := fo
    refine ⟨0, μ2, ν4, cst _ f1, rst _ (Ev.bind l1' ?_), gf.tr f5, fun k a b c e f => (f6.1 k b c e f).trans (hk k a b c e f), fun q a b => (f6.2 q a b).trans (hq q a), f2, f3, Or.inr ⟨rfl, f4⟩⟩
    simp only [if_neg f4]
    exact bad57 ν4 f4
  · have fm : ∀ k, k ≠ 13 → k ≠ 14 → k ≠ 15 → k ≠ 16 → k ≠ 20 → ν4 (2, 0, 0) k = ν (2, 0, 0) k := fun k a b c e f => (w9.1 k b c e f).trans (hk k a b c e f)
    have fq : ∀ q : Ad, q ≠ (2, 0, 0) → q ≠ (2, 0, 9) → ν4 q = ν q := fun q a b => (w9.2 q a b).trans (hq q a)
    rcases wE with rfl | ⟨wq, wb⟩
    · have e14 : ¬ ν4 (2, 0, 0) 14 < ν4 (2, 0, 0) 13 := by
        rw [s3, s4]
        exact nI_nlt (Nat.le_refl p2) (by omega)
      have c11 := s2.2.2.2.1
      have n0 : ¬ (0 : Int32) < nI 0 := by decide
      by_cases c : r2 = 49
      · subst c
        rw [if_pos rfl] at c11
        have k15 : mset (mset ν4 (2, 0, 0) 15 5) (2, 0, 0) 16 (-1) (2, 0, 0) 15 = 5 := by rw [mset_gk (by decide), mset_gg]
        refine ⟨0, mset (mset μ4 (0, 0, 9) 4 5) (0, 0, 9) 5 (-1), mset (mset ν4 (2, 0, 0) 15 5) (2, 0, 0) 16 (-1), cst _ (w6 _ (c_end s8 (by omega) (Ev.step ?_))), rst _ (Ev.bind l1' ?_), (gf.tr w8).f.f, fun k a b c e f => by rw [mset_gk e, mset_gk c]; exact fm k a b c e f, fun q a b => by rw [mset_ne a, mset_ne a]; exact fq q a b, ?_, ?_, Or.inr ⟨rfl, by rw [k15]; decide⟩⟩
        · simp only [e76_0]
          refine Ev.bind (c_74 s10 s11) ?_
          simp only [if_true, s9, if_neg n0, w5, i1, if_false, c11]
          exact Ev.bind c_71 Ev.ret
        · simp only [s5, if_true, if_neg e14]
          refine Ev.step ?_
          simp only [e178_57, s5, if_true, s2.2.1, show (48 : Int32) < nI 49 by decide]
          refine Ev.bind (m_173 s5) ?_
          simp only [k15, show ¬ (5 : Int32) = 0 by decide, if_false, narB0]
          exact Ev.ret
        · rw [k15, mset_gk (by decide), mset_gg]
        · rw [mset_gg, mset_gg]
      · rw [if_neg c] at c11
        have hr := s2.1
        refine ⟨1, μ4, ν4, cst _ (w6 _ (c_end s8 (by omega) (Ev.step ?_))), rst _ (Ev.bind l1' ?_), gf.tr w8, fm, fq, s8.trans s5.symm, s6.symm, Or.inl ⟨rfl, s5, r2, by omega, s2⟩⟩
        · simp only [e76_0]
          refine Ev.bind (c_74 s10 s11) ?_
          simp only [if_true, s9, if_neg n0, w5, i1, if_false, c11]
          exact Ev.ret
        · simp only [s5, if_true, if_neg e14]
          refine Ev.step ?_
          simp only [e178_57, s5, if_true, s2.2.1, if_neg (show ¬ (48 : Int32) < nI r2 from nI_nlt (a := 48) (by omega) (by decide)), narB1]
          exact Ev.ret
    · have e14 : ν4 (2, 0, 0) 14 < ν4 (2, 0, 0) 13 := by
        rw [s3, s4]
        exact nI_lt wq (by omega)
      have nd : ¬ dig sz B p2 := fun x => by have := x.2; omega
      have k15 : mset (mset ν4 (2, 0, 0) 15 1) (2, 0, 0) 16 (nI p2) (2, 0, 0) 15 = 1 := by rw [mset_gk (by decide), mset_gg]
      refine ⟨0, mset (mset μ4 (0, 0, 9) 4 1) (0, 0, 9) 5 (nI p2), mset (mset ν4 (2, 0, 0) 15 1) (2, 0, 0) 16 (nI p2), cst _ (w6 _ (c_fault (K := 1) (A := nI p2) s1 s8 w2 nd (by decide) (fun _ => c_75 (c_74 s10 s11) (by omega) ?_) (fun x => absurd x (by omega)))), rst _ (Ev.bind l1' ?_), (gf.tr w8).f.f, fun k a b c e f => by rw [mset_gk e, mset_gk c]; exact fm k a b c e f, fun q a b => by rw [mset_ne a, mset_ne a]; exact fq q a b, ?_, ?_, Or.inr ⟨rfl, by rw [k15]; decide⟩⟩
      · simp only [if_neg (show ¬ (97 ≤ B p2 ∧ B p2 ≤ 112) by omega), if_neg (show ¬ B p2 = 40 by omega), if_pos wb]
        refine Ev.step ?_
        simp only [e79_0, s9, show nI 0 = (0 : Int32) from rfl, if_true]
        exact Ev.bind c_71 Ev.ret
      · simp only [s5, if_true, if_pos e14]
        simp only [s4]
        refine Ev.bind (m_173 s5) ?_
        exact bad57 _ (by dsimp only; rw [k15]; decide)
      · rw [k15, mset_gk (by decide), mset_gg]
      · rw [mset_gg, mset_gg]
end PP
