/-! what begins in a tick -/
def LWp (j : Fin 15) (w w1 : Nat) (μ μ' μ1 μ1' : Mm) : Prop :=
  (w1 = w ∧ μ1 (1, j, 24) 2 = μ (1, j, 24) 2 ∧ μ1' (2, 0, 1) 15 = μ' (2, 0, 1) 15) ∨ (w = w1 + 1 ∧ ∃ wt, μ1 (1, j, 24) 2 = mmax (μ (1, j, 24) 2) wt ∧ μ1' (2, 0, 1) 15 = mmax (μ' (2, 0, 1) 15) wt ∧ μ1' (2, 0, 0) 10 = wt)
def Cls (L : Nat) (S : Ad → Nat → Int32) (j : Fin 15) (so f : Int32) (μ μ1 : Mm) : Prop :=
  (so = 0 ∧ ∀ F d, 41 ≤ F → 5 ≤ d → run L S F d 43 0 [some (vR (1, j, 0)), none] μ = some (0, μ1)) ∨ (so = 1 ∧ ∀ F d, 60 ≤ F → 6 ≤ d → run L S F d 44 0 [some (vR (1, j, 0)), none] μ = some (0, μ1)) ∨ (so = 2 ∧ ∀ F d, 120 ≤ F → 6 ≤ d → run L S F d 46 0 [some (vR (1, j, 0)), some (vI f), none] μ = some (0, μ1)) ∨ (so = 3 ∧ μ1 = μ)
def BegP (n w : Nat) (z : Int32) (j : Fin 15) (b : Bool) (s : Nat) (μ μ' μ1 μ1' : Mm) : Prop :=
  ∃ q1 w1, R n q1 w1 z 1000 j b μ1 μ1' ∧ FCo j μ μ1 ∧ FMo 12 μ' μ1' ∧ SawR s μ' μ1' ∧ μ1' (2, 0, 1) 1 = μ' (2, 0, 1) 1 ∧ LWp j w w1 μ μ' μ1 μ1'
section BE
variable {L : Nat} {S : Ad → Nat → Int32} {F d n q w e M : Nat} {z z1 : Int32} {j j1 : Fin 15} {b : Bool} {μ μ' μ1 μ1' : Mm}
theorem b_ref (h : R n q w z 1000 j b μ μ') (ho : ¬ μ' (2, 0, 1) 6 = 0) (s : Nat) (f : Int32) : ∃ (μ1 ν' μ1' : Mm), Cls L S j 0 f μ μ1 ∧ (∀ F d, 41 ≤ F → 5 ≤ d → run L S F d 155 0 [some (vR (2, 0, 0)), some (vI 0), some (vI (μ' (2, 0, 1) 35))] μ' = some (0, ν') ∧ run L S F d 156 0 [some (vR (2, 0, 0)), none, none] ν' = some (0, μ1')) ∧ BegP n w z j b s μ μ' μ1 μ1' := by
  obtain ⟨μ1, ν', μ1', a1, a2, a3, a4, a5, a6, a7⟩ := p_beginR (L := L) (S := S) (F := 41) (d := 5) (by omega) (by omega) h ho
  exact ⟨μ1, ν', μ1', Or.inl ⟨rfl, fun F d hF hd => run_up a1 hF hd⟩, fun F d hF hd => ⟨run_up a2 hF hd, run_up a3 hF hd⟩, q, w, a4, a5.o, a6.o.le (by decide), Or.inl a7.2.1, a7.1, Or.inl ⟨rfl, a5.2, a7.2.2⟩⟩
theorem b_near (h : R n q w z 1000 j b μ μ') (ho : 0 < q) (s : Nat) (f : Int32) : ∃ (μ1 ν' μ1' : Mm), Cls L S j 1 f μ μ1 ∧ (∀ F d, 60 ≤ F → 6 ≤ d → run L S F d 155 0 [some (vR (2, 0, 0)), some (vI 1), some (vI (μ' (2, 0, 1) 37))] μ' = some (0, ν') ∧ run L S F d 157 0 [some (vR (2, 0, 0)), none, none] ν' = some (0, μ1')) ∧ BegP n w z j b s μ μ' μ1 μ1' := by
  obtain ⟨q, rfl⟩ : ∃ k, q = k + 1 := ⟨q - 1, by omega⟩
  obtain ⟨μ1, ν', μ1', a1, a2, a3, a4, a5, a6, a7⟩ := p_near (L := L) (S := S) (F := 60) (d := 6) (by omega) (by omega) h
  exact ⟨μ1, ν', μ1', Or.inr (Or.inl ⟨rfl, fun F d hF hd => run_up a1 hF hd⟩), fun F d hF hd => ⟨run_up a2 hF hd, run_up a3 hF hd⟩, q, w, a4, a5.o, a6.o, Or.inl a7.2.1, a7.1, Or.inl ⟨rfl, a5.2, a7.2.2⟩⟩
theorem b_open (h : R n q w z 1000 j b μ μ') {i s : Nat} (hi : i < w) (hs : μ' (2, 0, 1) 11 = nI s) (hs2 : s + 1 < 2 ^ 31) : ∃ (μ1 ν' μ1' : Mm), Cls L S j 2 (nI i) μ μ1 ∧ (∀ F d, 160 ≤ F → 8 ≤ d → run L S F d 155 0 [some (vR (2, 0, 0)), some (vI 2), some (vI (μ' (2, 0, 1) 33))] μ' = some (0, ν') ∧ run L S F d 159 0 [some (vR (2, 0, 0)), some (vI (nI i)), none, none, none] ν' = some (0, μ1')) ∧ BegP n w z j b s μ μ' μ1 μ1' := by
  obtain ⟨w, rfl⟩ : ∃ k, w = k + 1 := ⟨w - 1, by omega⟩
  obtain ⟨q1, wt, μ1, ν', μ1', a1, a2, a3, a4, a5, a6, a7, a8, a9, a10, a11⟩ := p_open (L := L) (S := S) h (show i ≤ w by omega) hs hs2
  exact ⟨μ1, ν', μ1', Or.inr (Or.inr (Or.inl ⟨rfl, a1⟩)), fun F d hF hd => ⟨a2 F d (by omega), a3 F d hF hd⟩, q1, w, a4, a5, a6, a7, a8, Or.inr ⟨rfl, wt, a9, a10, a11⟩⟩
theorem b_none (h : R n q w z 1000 j b μ μ') (s : Nat) (f : Int32) : Cls L S j 3 f μ μ ∧ BegP n w z j b s μ μ' μ μ' :=
  ⟨Or.inr (Or.inr (Or.inr ⟨rfl, rfl⟩)), q, w, h, FCo.rf, FMo.rf.le (by decide), Or.inl rfl, rfl, Or.inl ⟨rfl, rfl, rfl⟩⟩
/-- behind the question of a refreshing -/
theorem p_after (h : R n q w z 1000 j b μ μ') {s : Nat} {f x : Int32} (hs : μ' (2, 0, 1) 11 = nI s) (hs2 : s + 1 < 2 ^ 31) (hx : (x = 1 ∧ f = -1) ∨ (x = 0 ∧ ∃ i, i < w ∧ f = nI i)) :
    ∃ (so : Int32) (μ1 μ1' : Mm), (∀ F d, 1 ≤ F → run L S F d 42 37 [some (vR (1, j, 0)), none, some (vI x)] μ = some (so, μ)) ∧ Cls L S j so f μ μ1 ∧ (∀ F d, 161 ≤ F → 9 ≤ d → run L S F d 160 66 [some (vR (2, 0, 0)), some (vI f), some (vI x)] μ' = some (0, μ1')) ∧ BegP n w z j b s μ μ' μ1 μ1' := by
  have hN := h.hn
  have cq : μ (1, j, 21) 0 = nI q := (h.lc 21 0 4 rfl (by omega)).trans h.qu.1
  have mq : μ' (2, 0, 1) 4 = nI q := h.qu.1
  have cf : μ (1, j, 1) 11 = μ' (2, 0, 1) 38 := h.term (by decide)
  have hq16 := h.qu.2.1
  have cso : (μ (1, j, 0) 7 = 1) ↔ (μ' (2, 0, 1) 9 = 1) := by
    rcases h.so.2 with ⟨a1, a2, a3⟩ | ⟨k, a1, a2, a3⟩
    · rw [a1, a2]
      exact ⟨fun x => absurd x (by decide), fun x => absurd x (by decide)⟩
    · rw [a2, a3]
  have goN : ∀ (hq0 : 0 < q), (∀ F d, 1 ≤ F → run L S F d 42 37 [some (vR (1, j, 0)), none, some (vI x)] μ = some (1, μ)) →
      (∀ F d, 1 ≤ F → 1 ≤ d → run L S F d 160 66 [some (vR (2, 0, 0)), some (vI f), some (vI x)] μ' = (run L S (F - 1) (d - 1) 155 0 [some (vR (2, 0, 0)), some (vI 1), some (vI (μ' (2, 0, 1) 37))] μ').bind fun p => (run L S (F - 1) (d - 1) 157 0 [some (vR (2, 0, 0)), none, none] p.2).bind fun p => some ((0 : Int32), p.2)) →
      ∃ (so : Int32) (μ1 μ1' : Mm), (∀ F d, 1 ≤ F → run L S F d 42 37 [some (vR (1, j, 0)), none, some (vI x)] μ = some (so, μ)) ∧ Cls L S j so f μ μ1 ∧ (∀ F d, 161 ≤ F → 9 ≤ d → run L S F d 160 66 [some (vR (2, 0, 0)), some (vI f), some (vI x)] μ' = some (0, μ1')) ∧ BegP n w z j b s μ μ' μ1 μ1' := fun hq0 hc hm => by
    obtain ⟨μ1, ν', μ1', a1, a2, a3⟩ := b_near (L := L) (S := S) h hq0 s f
    refine ⟨1, μ1, μ1', hc, a1, fun F d hF hd => ?_, a3⟩
    obtain ⟨b1, b2⟩ := a2 (F - 1) (d - 1) (by omega) (by omega)
    rw [hm F d (by omega) (by omega), b1]
    simp only [Option.bind_some, b2]
  have goE : ¬ (1 : Int32) = 0 := by decide
  have goO : ∀ i, i < w → f = nI i → (∀ F d, 1 ≤ F → run L S F d 42 37 [some (vR (1, j, 0)), none, some (vI x)] μ = some (2, μ)) →
      (∀ F d, 1 ≤ F → 1 ≤ d → run L S F d 160 66 [some (vR (2, 0, 0)), some (vI f), some (vI x)] μ' = (run L S (F - 1) (d - 1) 155 0 [some (vR (2, 0, 0)), some (vI 2), some (vI (μ' (2, 0, 1) 33))] μ').bind fun p => (run L S (F - 1) (d - 1) 159 0 [some (vR (2, 0, 0)), some (vI f), none, none, none] p.2).bind fun p => some ((0 : Int32), p.2)) →
      ∃ (so : Int32) (μ1 μ1' : Mm), (∀ F d, 1 ≤ F → run L S F d 42 37 [some (vR (1, j, 0)), none, some (vI x)] μ = some (so, μ)) ∧ Cls L S j so f μ μ1 ∧ (∀ F d, 161 ≤ F → 9 ≤ d → run L S F d 160 66 [some (vR (2, 0, 0)), some (vI f), some (vI x)] μ' = some (0, μ1')) ∧ BegP n w z j b s μ μ' μ1 μ1' := fun i hi hfi hc hm => by
    subst hfi
    obtain ⟨μ1, ν', μ1', a1, a2, a3⟩ := b_open (L := L) (S := S) h hi hs hs2
    refine ⟨2, μ1, μ1', hc, a1, fun F d hF hd => ?_, a3⟩
    obtain ⟨b1, b2⟩ := a2 (F - 1) (d - 1) (by omega) (by omega)
    rw [hm F d (by omega) (by omega), b1]
    simp only [Option.bind_some, b2]
  by_cases q0 : 0 < q
  · have hp : (0 : Int32) < nI q := nI_lt (a := 0) q0 (by omega)
    by_cases full : nI q < μ' (2, 0, 1) 38
    · rcases hx with ⟨rfl, rfl⟩ | ⟨rfl, i, hi, rfl⟩
      · refine goN q0 (fun F d hF => ?_) (fun F d hF hd => ?_)
        · obtain ⟨F, rfl, hF'⟩ := fz hF
          rw [e42_37]
          simp only [cq, if_pos hp, cf, if_pos full, if_neg goE]
        · obtain ⟨F, rfl, hF'⟩ := fz hF
          obtain ⟨d, rfl, hd'⟩ := fz hd
          rw [e160_66]
          simp only [mq, if_pos hp, if_pos full, if_neg goE, Nat.add_sub_cancel]
      · by_cases so : μ' (2, 0, 1) 9 = 1
        · refine goN q0 (fun F d hF => ?_) (fun F d hF hd => ?_)
          · obtain ⟨F, rfl, hF'⟩ := fz hF
            rw [e42_37]
            simp only [cq, if_pos hp, cf, if_pos full, if_true, if_pos (cso.mpr so)]
          · obtain ⟨F, rfl, hF'⟩ := fz hF
            obtain ⟨d, rfl, hd'⟩ := fz hd
            rw [e160_66]
            simp only [mq, if_pos hp, if_pos full, if_true, if_pos so, Nat.add_sub_cancel]
        · refine goO i hi rfl (fun F d hF => ?_) (fun F d hF hd => ?_)
          · obtain ⟨F, rfl, hF'⟩ := fz hF
            rw [e42_37]
            simp only [cq, if_pos hp, cf, if_pos full, if_true, if_neg (fun y => so (cso.mp y))]
          · obtain ⟨F, rfl, hF'⟩ := fz hF
            obtain ⟨d, rfl, hd'⟩ := fz hd
            rw [e160_66]
            simp only [mq, if_pos hp, if_pos full, if_true, if_neg so, Nat.add_sub_cancel]
    · refine goN q0 (fun F d hF => ?_) (fun F d hF hd => ?_)
      · obtain ⟨F, rfl, hF'⟩ := fz hF
        rw [e42_37]
        simp only [cq, if_pos hp, cf, if_neg full]
      · obtain ⟨F, rfl, hF'⟩ := fz hF
        obtain ⟨d, rfl, hd'⟩ := fz hd
        rw [e160_66]
        simp only [mq, if_pos hp, if_neg full, Nat.add_sub_cancel]
  · have q00 : q = 0 := by omega
    subst q00
    have hp : ¬ (0 : Int32) < nI 0 := by decide
    rcases hx with ⟨rfl, rfl⟩ | ⟨rfl, i, hi, rfl⟩
    · obtain ⟨a1, a2⟩ := b_none (L := L) (S := S) h s (-1)
      refine ⟨3, μ, μ', fun F d hF => ?_, a1, fun F d hF hd => ?_, a2⟩
      · obtain ⟨F, rfl, hF'⟩ := fz hF
        rw [e42_37]
        simp only [cq, if_neg hp, if_neg goE]
      · obtain ⟨F, rfl, hF'⟩ := fz (show 1 ≤ F by omega)
        obtain ⟨d, rfl, hd'⟩ := fz (show 1 ≤ d by omega)
        rw [e160_66]
        simp only [mq, if_neg hp, if_neg goE]
    · refine goO i hi rfl (fun F d hF => ?_) (fun F d hF hd => ?_)
      · obtain ⟨F, rfl, hF'⟩ := fz hF
        rw [e42_37]
        simp only [cq, if_neg hp, if_true]
      · obtain ⟨F, rfl, hF'⟩ := fz hF
        obtain ⟨d, rfl, hd'⟩ := fz hd
        rw [e160_66]
        simp only [mq, if_neg hp, if_true, Nat.add_sub_cancel]
/-- what begins -/
theorem p_begins (h : R n q w z 1000 j b μ μ') {s : Nat} (hs : μ' (2, 0, 1) 11 = nI s) (hs2 : s + 1 < 2 ^ 31) :
    ∃ (so f : Int32) (μ1 μ1' : Mm), (∀ F d, 102 ≤ F → run L S F d 41 0 [some (vR (1, j, 0)), none, none] μ = some (f, μ)) ∧ (∀ F d, 2 ≤ F → run L S F d 42 0 [some (vR (1, j, 0)), some (vI f), none] μ = some (so, μ)) ∧ Cls L S j so f μ μ1 ∧ (∀ F d, 170 ≤ F → 10 ≤ d → run L S F d 160 0 [some (vR (2, 0, 0)), none, none] μ' = some (0, μ1')) ∧ BegP n w z j b s μ μ' μ1 μ1' := by
  have hN := h.hn
  have c6 : μ (1, j, 0) 6 = μ' (2, 0, 1) 6 := h.1.1 0 6 6 rfl (by omega)
  have c12 : μ (1, j, 1) 12 = μ' (2, 0, 1) 39 := h.term (by decide)
  have hm0 : ∀ F d, 102 ≤ F → run L S F d 158 0 [some (vR (2, 0, 0)), none] μ' = some (fnd (isF μ') w 0, μ') := fun F d hF => m_first h hF
  have hc0 : ∀ F d, 102 ≤ F → run L S F d 41 0 [some (vR (1, j, 0)), none, none] μ = some (fnd (isF μ') w 0, μ) := fun F d hF => s_first h hF
  have hf := fnd_at (P := isF μ') w 0
  generalize fnd (isF μ') w 0 = f at hm0 hc0 hf
  have hf1 : (f = -1) ∨ ∃ i, i < w ∧ f = nI i := by
    rcases hf with ⟨a, _⟩ | ⟨i, _, a2, a3, _⟩
    · exact Or.inl a
    · exact Or.inr ⟨i, by omega, a3⟩
  clear hf
  have goR : 0 < μ' (2, 0, 1) 6 → (∀ F d, 2 ≤ F → run L S F d 42 0 [some (vR (1, j, 0)), some (vI f), none] μ = some (0, μ)) →
      (∀ F d, 103 ≤ F → 1 ≤ d → run L S F d 160 0 [some (vR (2, 0, 0)), none, none] μ' = (run L S (F - 1) (d - 1) 155 0 [some (vR (2, 0, 0)), some (vI 0), some (vI (μ' (2, 0, 1) 35))] μ').bind fun p => (run L S (F - 1) (d - 1) 156 0 [some (vR (2, 0, 0)), none, none] p.2).bind fun p => some ((0 : Int32), p.2)) →
      ∃ (so f : Int32) (μ1 μ1' : Mm), (∀ F d, 102 ≤ F → run L S F d 41 0 [some (vR (1, j, 0)), none, none] μ = some (f, μ)) ∧ (∀ F d, 2 ≤ F → run L S F d 42 0 [some (vR (1, j, 0)), some (vI f), none] μ = some (so, μ)) ∧ Cls L S j so f μ μ1 ∧ (∀ F d, 170 ≤ F → 10 ≤ d → run L S F d 160 0 [some (vR (2, 0, 0)), none, none] μ' = some (0, μ1')) ∧ BegP n w z j b s μ μ' μ1 μ1' := fun ho hc hm => by
    obtain ⟨μ1, ν', μ1', a1, a2, a3⟩ := b_ref (L := L) (S := S) h (fun x => absurd ho (by rw [x]; decide)) s f
    refine ⟨0, f, μ1, μ1', hc0, hc, a1, fun F d hF hd => ?_, a3⟩
    obtain ⟨b1, b2⟩ := a2 (F - 1) (d - 1) (by omega) (by omega)
    rw [hm F d (by omega) (by omega), b1]
    simp only [Option.bind_some, b2]
  have goA : ∀ x, ((x = 1 ∧ f = -1) ∨ (x = 0 ∧ ∃ i, i < w ∧ f = nI i)) → (∀ F d, 1 ≤ F → run L S (F + 1) d 42 0 [some (vR (1, j, 0)), some (vI f), none] μ = run L S F d 42 37 [some (vR (1, j, 0)), none, some (vI x)] μ) →
      (∀ F d, 102 ≤ F → 1 ≤ d → run L S (F + 1) d 160 0 [some (vR (2, 0, 0)), none, none] μ' = run L S F d 160 66 [some (vR (2, 0, 0)), some (vI f), some (vI x)] μ') →
      ∃ (so f : Int32) (μ1 μ1' : Mm), (∀ F d, 102 ≤ F → run L S F d 41 0 [some (vR (1, j, 0)), none, none] μ = some (f, μ)) ∧ (∀ F d, 2 ≤ F → run L S F d 42 0 [some (vR (1, j, 0)), some (vI f), none] μ = some (so, μ)) ∧ Cls L S j so f μ μ1 ∧ (∀ F d, 170 ≤ F → 10 ≤ d → run L S F d 160 0 [some (vR (2, 0, 0)), none, none] μ' = some (0, μ1')) ∧ BegP n w z j b s μ μ' μ1 μ1' := fun x hx hc hm => by
    obtain ⟨so, μ1, μ1', a1, a2, a3, a4⟩ := p_after (L := L) (S := S) h hs hs2 hx
    refine ⟨so, f, μ1, μ1', hc0, fun F d hF => ?_, a2, fun F d hF hd => ?_, a4⟩
    · rw [show F = F - 1 + 1 by omega, hc _ d (by omega)]
      exact a1 _ d (by omega)
    · rw [show F = F - 1 + 1 by omega, hm _ d (by omega) (by omega)]
      exact a3 _ d (by omega) (by omega)
  rcases hf1 with rfl | ⟨i, hi, rfl⟩
  · have n1 : (-1 : Int32) < 0 := by decide
    by_cases ho : 0 < μ' (2, 0, 1) 6
    · refine goR ho (fun F d hF => ?_) (fun F d hF hd => ?_)
      · obtain ⟨F, rfl, hF'⟩ := fz (show 1 + 1 ≤ F by omega)
        rw [e42_0, if_pos n1, c6, if_pos ho]
      · obtain ⟨F, rfl, hF'⟩ := fz hF
        obtain ⟨d, rfl, hd'⟩ := fz hd
        rw [e160_0, hm0 F d hF']
        simp only [Option.bind_some, if_true, if_pos ho, Nat.add_sub_cancel]
    · refine goA 1 (Or.inl ⟨rfl, rfl⟩) (fun F d hF => ?_) (fun F d hF hd => ?_)
      · rw [e42_0, if_pos n1, c6, if_neg ho]
      · obtain ⟨d, rfl, hd'⟩ := fz hd
        rw [e160_0, hm0 F d hF]
        simp only [Option.bind_some, if_true, if_neg ho]
  · have hw := h.wt.2.1
    have n1 : ¬ nI i < 0 := nI_pos (by omega)
    have n2 : ¬ nI i = -1 := nI_m1 (by omega)
    by_cases ho : 0 < μ' (2, 0, 1) 6
    · by_cases hl : μ' (2, 0, 1) 39 < μ' (2, 0, 1) 6
      · refine goR ho (fun F d hF => ?_) (fun F d hF hd => ?_)
        · obtain ⟨F, rfl, hF'⟩ := fz (show 1 + 1 ≤ F by omega)
          rw [e42_0, if_neg n1, c6, if_pos ho]
          simp only [c12, if_pos hl]
        · obtain ⟨F, rfl, hF'⟩ := fz hF
          obtain ⟨d, rfl, hd'⟩ := fz hd
          rw [e160_0, hm0 F d hF']
          simp only [Option.bind_some, if_neg n2, if_pos ho, if_pos hl, Nat.add_sub_cancel]
      · refine goA 0 (Or.inr ⟨rfl, i, hi, rfl⟩) (fun F d hF => ?_) (fun F d hF hd => ?_)
        · rw [e42_0, if_neg n1, c6, if_pos ho]
          simp only [c12, if_neg hl]
        · obtain ⟨d, rfl, hd'⟩ := fz hd
          rw [e160_0, hm0 F d hF]
          simp only [Option.bind_some, if_neg n2, if_pos ho, if_neg hl]
    · refine goA 0 (Or.inr ⟨rfl, i, hi, rfl⟩) (fun F d hF => ?_) (fun F d hF hd => ?_)
      · rw [e42_0, if_neg n1, c6, if_neg ho]
      · obtain ⟨d, rfl, hd'⟩ := fz hd
        rw [e160_0, hm0 F d hF]
        simp only [Option.bind_some, if_neg n2, if_neg ho]
end BE
