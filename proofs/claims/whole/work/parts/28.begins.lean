/-! the parts of R one by one; a refreshing begins -/
section BG
variable {L : Nat} {S : Ad → Nat → Int32} {F d n q w e : Nat} {z z1 : Int32} {j j1 : Fin 15} {b : Bool} {μ μ' μ1 μ1' : Mm}
theorem WtR.keep (h : WtR n w j μ μ') (hc : ∀ o k, (o = 19 ∨ o = 20) → μ1 (1, j1, o) k = μ (1, j, o) k) (hm : ∀ i, (i = 5 ∨ 228 ≤ i) → μ1' (2, 0, 1) i = μ' (2, 0, 1) i) : WtR n w j1 μ1 μ1' := by
  obtain ⟨w1, w2, w3⟩ := h
  refine ⟨by rw [hm 5 (by omega)]; exact w1, w2, fun k hk => ?_⟩
  rw [hm (228 + k) (by omega), hm (327 + k) (by omega), hc 19 k (by omega), hc 20 k (by omega)]; exact w3 k hk
theorem QuR.keep (h : QuR n q j μ μ') (hn : n ≤ 16) (hc : ∀ o k, (o = 22 ∨ (o = 21 ∧ k = 1)) → μ1 (1, j1, o) k = μ (1, j, o) k) (hm : ∀ i, (i = 4 ∨ (212 ≤ i ∧ i < 228)) → μ1' (2, 0, 1) i = μ' (2, 0, 1) i) : QuR n q j1 μ1 μ1' := by
  obtain ⟨q1, q2, q3, q4, q5⟩ := h
  refine ⟨by rw [hm 4 (by omega)]; exact q1, q2, fun k hk => ?_, fun k k' hk hk' => ?_, fun r hr => ?_⟩
  · rw [hm (212 + k) (by omega), hc 22 k (by omega)]; exact q3 k hk
  · rw [hm (212 + k) (by omega), hm (212 + k') (by omega)]; exact q4 k k' hk hk'
  · rw [hc 21 1 (by omega)]
    refine (q5 r hr).trans ⟨fun ⟨k, a1, a2⟩ => ⟨k, a1, by rw [hm (212 + k) (by omega)]; exact a2⟩, fun ⟨k, a1, a2⟩ => ⟨k, a1, by rw [hm (212 + k) (by omega)] at a2; exact a2⟩⟩
theorem PmR.keep (h : PmR n j μ) (hc : ∀ o k, (o = 3 ∨ o = 4) → μ1 (1, j1, o) k = μ (1, j, o) k) : PmR n j1 μ1 := by
  obtain ⟨p1, p2⟩ := h
  refine ⟨fun p hp1 => ?_, fun r hr => ?_⟩
  · obtain ⟨r, a1, a2, a3⟩ := p1 p hp1
    exact ⟨r, a1, by rw [hc 4 p (by omega)]; exact a2, by rw [hc 3 r (by omega)]; exact a3⟩
  · obtain ⟨p, a1, a2, a3⟩ := p2 r hr
    exact ⟨p, a1, by rw [hc 3 r (by omega)]; exact a2, by rw [hc 4 p (by omega)]; exact a3⟩
theorem SoR.keep (h : SoR j μ μ') (hc : μ1 (1, j1, 0) 7 = μ (1, j, 0) 7) (hm : ∀ i, (7 ≤ i ∧ i < 10) → μ1' (2, 0, 1) i = μ' (2, 0, 1) i) : SoR j1 μ1 μ1' := by
  unfold SoR at h ⊢
  rw [hm 7 (by omega), hm 8 (by omega), hm 9 (by omega), hc]
  exact h
theorem RgR.keep (h : RgR n μ') (hm : ∀ i, (i = 0 ∨ i = 2 ∨ i = 6 ∨ i = 8 ∨ i = 10 ∨ (27 ≤ i ∧ i < 44) ∨ (124 ≤ i ∧ i < 172)) → μ1' (2, 0, 1) i = μ' (2, 0, 1) i) : RgR n μ1' := by
  obtain ⟨r1, r2, r3, r4, r5, r6, r7, r8, r9⟩ := h
  have g : ∀ k, k < 17 → μ1' (2, 0, 1) (27 + k) = μ' (2, 0, 1) (27 + k) := fun k hk => hm (27 + k) (by clear r4 r5 r6 r7 r8 r9; omega)
  refine ⟨by rw [hm 0 (Or.inl rfl)]; exact r1, r2, r3, fun k hk => by rw [g k hk]; exact r4 k hk, by rw [hm 10 (by clear r4 r5 r6 r7 r8 r9; omega)]; exact r5, by rw [hm 8 (by clear r4 r5 r6 r7 r8 r9; omega)]; exact r6, by rw [hm 2 (by clear r4 r5 r6 r7 r8 r9; omega)]; exact r7, by rw [hm 6 (by clear r4 r5 r6 r7 r8 r9; omega)]; exact r8, r9.keep r3 (fun i a1 a2 => hm i (by clear r4 r5 r6 r7 r8 r9; omega))⟩
theorem SeR.keep (h : SeR μ') (hm : ∀ i, (i = 29 ∨ (172 ≤ i ∧ i < 180) ∨ (188 ≤ i ∧ i < 196)) → μ1' (2, 0, 1) i = μ' (2, 0, 1) i) : SeR μ1' := by
  intro k hk
  rw [hm (172 + k) (by omega), hm (188 + k) (by omega), hm 29 (by omega)]; exact h k hk
theorem R.wt (h : R n q w z e j b μ μ') : WtR n w j μ μ' := h.2.1
theorem R.qu (h : R n q w z e j b μ μ') : QuR n q j μ μ' := h.2.2.1
theorem R.pm (h : R n q w z e j b μ μ') : PmR n j μ := h.2.2.2.1
/-- the reference has written behind at the place that stood out -/
theorem LocR.cls {o k : Nat} {v : Int32} (hn : n ≤ 16) (h : LocR n e j μ μ') (hl : loc n o k = some e) (hv : μ (1, j, o) k = v) : LocR n 1000 j μ (mset μ' (2, 0, 1) e v) := by
  intro o' k' i' h' hie
  simp only [mset_g]
  by_cases c : i' = e
  · subst c
    have e1 := (loc_li hn h').symm.trans (loc_li hn hl)
    simp only [Prod.mk.injEq] at e1
    rw [if_pos ⟨trivial, rfl⟩, e1.1, e1.2, hv]
  · rw [if_neg (fun x => c x.2)]
    exact h o' k' i' h' c
theorem R.cls6 {k : Nat} (h : R n q w z 6 j b μ μ') (hv : μ (1, j, 0) 6 = nI k) (hk : k ≤ 99) : R n q w z 1000 j b μ (mset μ' (2, 0, 1) 6 (nI k)) := by
  have hN := h.hn
  have hL := h.1.1.cls hN.2.2.2 (o := 0) (k := 6) rfl hv
  refine ⟨⟨hL, by omega⟩, h.wt.keep (fun _ _ _ => rfl) (fun i hi => ?_), h.qu.keep hN.2.2.2 (fun _ _ _ => rfl) (fun i hi => ?_), h.pm, h.so.keep rfl (fun i hi => ?_), h.rg.set (by omega) (fun x => absurd x (by omega)) (fun x => absurd x (by omega)) (fun x => absurd x (by omega)) (fun _ => ⟨k, hk, rfl⟩), h.se.set (by omega), ?_, fun hb => ?_⟩
  · rw [mset_g, if_neg (by omega)]
  · rw [mset_g, if_neg (by omega)]
  · rw [mset_g, if_neg (by omega)]
  · rw [mset_g, if_neg (by omega)]; exact h.hz
  · rw [mset_g, if_neg (by omega)]; exact h.pk hb
theorem R.cls18 {v : Int32} (h : R n q w z 18 j b μ μ') (hv : μ (1, j, 24) 5 = v) : R n q w z 1000 j b μ (mset μ' (2, 0, 1) 18 v) := by
  have hN := h.hn
  have hL := h.1.1.cls hN.2.2.2 (o := 24) (k := 5) rfl hv
  refine ⟨⟨hL, by omega⟩, h.wt.keep (fun _ _ _ => rfl) (fun i hi => ?_), h.qu.keep hN.2.2.2 (fun _ _ _ => rfl) (fun i hi => ?_), h.pm, h.so.keep rfl (fun i hi => ?_), h.rg.set (by omega) (fun x => absurd x (by omega)) (fun x => absurd x (by omega)) (fun x => absurd x (by omega)) (fun x => absurd x (by omega)), h.se.set (by omega), ?_, fun hb => ?_⟩
  · rw [mset_g, if_neg (by omega)]
  · rw [mset_g, if_neg (by omega)]
  · rw [mset_g, if_neg (by omega)]
  · rw [mset_g, if_neg (by omega)]; exact h.hz
  · rw [mset_g, if_neg (by omega)]; exact h.pk hb
/-- a sort begins -/
theorem R.beg {s : Nat} {v : Int32} (h : R n q w z 1000 j b μ μ') (hs : s < 3) (hv : 0 ≤ v.toInt ∧ v.toInt ≤ 9) : R n q w z 1000 j b (mset (mset μ (1, j, 0) 7 (nI s)) (1, j, 0) 8 v) (mset (mset (mset μ' (2, 0, 1) 7 (nI s)) (2, 0, 1) 9 (nI s)) (2, 0, 1) 8 v) := by
  have hN := h.hn
  have hno : ∀ i, i = 7 ∨ i = 9 → ∀ o k, loc n o k ≠ some i := fun i hi o k x => by
    have := loc_li hN.2.2.2 x
    rcases hi with rfl | rfl
    · have e2 : li 7 = (24, 7 - 13) := rfl
      rw [e2] at this
      cases this
      cases x
    · have e2 : li 9 = (24, 9 - 13) := rfl
      rw [e2] at this
      cases this
      cases x
  have hL : LocR n 1000 j (mset (mset μ (1, j, 0) 7 (nI s)) (1, j, 0) 8 v) (mset (mset (mset μ' (2, 0, 1) 7 (nI s)) (2, 0, 1) 9 (nI s)) (2, 0, 1) 8 v) :=
    ((((h.1.1.setC (o := 0) (k := 7) (v := nI s) rfl).setM (i := 7) (v := nI s) (hno 7 (by omega))).setM (i := 9) (v := nI s) (hno 9 (by omega))).set hN.2.2.2 (o := 0) (k := 8) (i := 8) rfl)
  refine ⟨⟨hL, by omega⟩, h.wt.keep (fun o k x => ?_) (fun i hi => ?_), h.qu.keep hN.2.2.2 (fun o k x => ?_) (fun i hi => ?_), h.pm.keep (fun o k x => ?_), ?_, ((h.rg.set (by omega) (fun x => absurd x (by omega)) (fun x => absurd x (by omega)) (fun x => absurd x (by omega)) (fun x => absurd x (by omega))).set (by omega) (fun x => absurd x (by omega)) (fun x => absurd x (by omega)) (fun x => absurd x (by omega)) (fun x => absurd x (by omega))).set (by omega) (fun x => absurd x (by omega)) (fun _ => hv) (fun x => absurd x (by omega)) (fun x => absurd x (by omega)), ((h.se.set (by omega)).set (by omega)).set (by omega), ?_, fun hb => ?_⟩
  · rw [mset_g, if_neg (by omega), mset_g, if_neg (by omega)]
  · rw [mset_g, if_neg (by omega), mset_g, if_neg (by omega), mset_g, if_neg (by omega)]
  · rw [mset_g, if_neg (by omega), mset_g, if_neg (by omega)]
  · rw [mset_g, if_neg (by omega), mset_g, if_neg (by omega), mset_g, if_neg (by omega)]
  · rw [mset_g, if_neg (by omega), mset_g, if_neg (by omega)]
  · unfold SoR
    simp only [mset_g]
    exact ⟨by simp, Or.inr ⟨s, hs, by simp, by simp⟩⟩
  · rw [mset_g, if_neg (by omega), mset_g, if_neg (by omega), mset_g, if_neg (by omega), mset_g, if_neg (by omega), mset_g, if_neg (by omega)]; exact h.hz
  · rw [mset_g, if_neg (by omega), mset_g, if_neg (by omega), mset_g, if_neg (by omega), mset_g, if_neg (by omega), mset_g, if_neg (by omega)]; exact h.pk hb
theorem m_begins (hF : 1 ≤ F) {s v : Int32} : run L S F d 155 0 [some (vR (2, 0, 0)), some (vI s), some (vI v)] μ' = some (0, mset (mset (mset μ' (2, 0, 1) 7 s) (2, 0, 1) 9 s) (2, 0, 1) 8 v) := by
  obtain ⟨F, rfl, hF'⟩ := fz hF
  exact e155_0
/-- a REFRESHING begins -/
theorem p_beginR (hF : 40 ≤ F) (hd : 4 ≤ d) (h : R n q w z 1000 j b μ μ') (ho : ¬ μ' (2, 0, 1) 6 = 0) :
    ∃ (μ1 ν' μ1' : Mm), run L S F d 43 0 [some (vR (1, j, 0)), none] μ = some (0, μ1) ∧ run L S F d 155 0 [some (vR (2, 0, 0)), some (vI 0), some (vI (μ' (2, 0, 1) 35))] μ' = some (0, ν') ∧ run L S F d 156 0 [some (vR (2, 0, 0)), none, none] ν' = some (0, μ1') ∧ R n q w z 1000 j b μ1 μ1' ∧ FC j μ μ1 ∧ FM 0 μ' μ1' ∧ FT μ' μ1' := by
  obtain ⟨F, rfl, hF'⟩ := fz hF
  obtain ⟨d, rfl, hd'⟩ := fz hd
  have hN := h.hn
  obtain ⟨k6, k6a, k6b⟩ := h.rg.2.2.2.2.2.2.2.1
  have hk0 : k6 ≠ 0 := fun x => ho (by rw [k6b, x]; rfl)
  obtain ⟨k6, rfl⟩ : ∃ k, k6 = k + 1 := ⟨k6 - 1, by omega⟩
  have t8 : μ (1, j, 1) 8 = μ' (2, 0, 1) 35 := h.term (by decide)
  have tb := h.tb (k := 8) (by decide)
  have g6 : μ (1, j, 0) 6 = nI (k6 + 1) := (h.1.1 0 6 6 rfl (by omega)).trans k6b
  obtain ⟨M, M1, M2, M3⟩ := h.tn 9 1 8 (by decide) rfl rfl
  have M3 : μ' (2, 0, 1) 36 = nI M := M3
  have h1 := (h.beg (s := 0) (v := μ' (2, 0, 1) 35) (by omega) ⟨by have := tb.1; simp [tLo] at this; omega, by have := tb.2; simp [tHi] at this; omega⟩).opn (o := 0) (k := 6) (v := nI k6) rfl (Or.inl rfl)
  rw [show nI 0 = (0 : Int32) from rfl] at h1
  obtain ⟨μ1, μ1', a1, a2, a3, a4, a5, a6, a7, a8⟩ := p_places_go (L := L) (S := S) (d := d + 1) (M := M) (by omega) M 0 F _ _ (by omega) (by omega) h1 (by simp only [mset_g]; rw [if_neg (by omega), if_neg (by omega), if_neg (by omega)]; exact M3) (by omega)
  have b6 : μ1' (2, 0, 1) 6 - 1 = nI k6 := by
    rw [a7]
    simp only [mset_g]
    rw [if_neg (by omega), if_neg (by omega), if_neg (by omega), k6b]
    exact nI_pred _
  have c6 : μ1 (1, j, 0) 6 = nI k6 := by
    rw [a6]
    simp only [mset_g]
    rw [if_pos ⟨trivial, trivial⟩]
  rw [b6] at a2
  refine ⟨μ1, _, _, ?_, m_begins (by omega), ?_, a3.cls6 c6 (by omega), (FC.rf.set.set.set).tr a4, (((FM.rf.set (by omega)).set (by omega)).set (by omega)).tr (a5.set (by omega)), (((FT.rf.set (by omega) (by omega)).set (by omega) (by omega)).set (by omega) (by omega)).tr (a8.set (by omega) (by omega))⟩
  · rw [e43_0]
    simp [mset_g, t8, g6, nI_pred]
    exact a1
  · rw [e156_0]
    exact a2
end BG
