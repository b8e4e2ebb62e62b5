/-! disturbing a place and around a row: the pair -/
theorem LocR.setF {n e k : Nat} {j : Fin 15} {μ μ' : Mm} {v : Int32} (h : LocR n e j μ μ') : LocR n e j μ (mset μ' (2, 0, 0) k v) := by
  intro o' k' i' h' hie
  rw [mset_ne (by decide)]
  exact h o' k' i' h' hie
section DS
variable {L : Nat} {S : Ad → Nat → Int32} {F d n q w e : Nat} {z : Int32} {j : Fin 15} {b : Bool} {μ μ' : Mm}
/-- both have the terms -/
theorem R.term (h : R n q w z e j b μ μ') {k : Nat} (hk : k < 17) : μ (1, j, 1) k = μ' (2, 0, 1) (27 + k) := h.lc 1 k (27 + k) (by simp [loc, hk]) (by omega)
/-- a method of both: what it gives, and what it leaves alone -/
def Both (n q w : Nat) (z : Int32) (e : Nat) (j : Fin 15) (b : Bool) (μ μ' : Mm) (c m : Option Rz) (post : Int32 → Int32 → Prop) (zz : Int32 → Int32) : Prop :=
  ∃ (f : Int32) (μ1 : Mm) (f' : Int32) (μ1' : Mm), c = some (f, μ1) ∧ m = some (f', μ1') ∧ post f f' ∧ R n q w (zz f) e j b μ1 μ1' ∧ FC j μ μ1 ∧ FM 12 μ' μ1'
/-- what stays on the reference's side while rows are disturbed, refreshed or scrubbed -/
def FS (μ' μ1' : Mm) : Prop := ∀ i, spM i → μ1' (2, 0, 1) i = μ' (2, 0, 1) i
theorem FS.rf {μ' : Mm} : FS μ' μ' := fun _ _ => rfl
theorem FS.tr {μ μ1 μ2 : Mm} (h : FS μ μ1) (h2 : FS μ1 μ2) : FS μ μ2 := fun i hi => (h2 i hi).trans (h i hi)
theorem FS.set {μ μ1 : Mm} {i : Nat} {v : Int32} (h : FS μ μ1) (hi : ¬ spM i) : FS μ (mset μ1 (2, 0, 1) i v) := fun k hk => by
  have e : k ≠ i := fun e => hi (e ▸ hk)
  simp only [mset]
  rw [if_neg (by simp [e])]
  exact h k hk
theorem FS.fld {μ μ1 : Mm} {i : Nat} {v : Int32} (h : FS μ μ1) : FS μ (mset μ1 (2, 0, 0) i v) := fun k hk => by
  rw [mset_ne (by decide)]
  exact h k hk
/-- what of the bank stays on the class's side -/
def FO (j : Fin 15) (μ μ1 : Mm) : Prop := ∀ o k, (o = 0 ∨ o = 1 ∨ (11 ≤ o ∧ o ≠ 24)) → μ1 (1, j, o) k = μ (1, j, o) k
theorem FO.rf {j : Fin 15} {μ : Mm} : FO j μ μ := fun _ _ _ => rfl
theorem FO.tr {j : Fin 15} {μ μ1 μ2 : Mm} (h : FO j μ μ1) (h2 : FO j μ1 μ2) : FO j μ μ2 := fun o k a => (h2 o k a).trans (h o k a)
theorem FO.set {j : Fin 15} {μ μ1 : Mm} {o k : Nat} {v : Int32} (h : FO j μ μ1) (ho : (2 ≤ o ∧ o < 11) ∨ o = 24) : FO j μ (mset μ1 (1, j, o) k v) := fun o' k' a => by
  simp only [mset_g]
  rw [if_neg (by omega)]
  exact h o' k' a
/-- nor is a tally touched -/
def FA (j : Fin 15) (μ μ1 : Mm) : Prop := ∀ o k, (o = 0 ∨ o = 1 ∨ 11 ≤ o) → μ1 (1, j, o) k = μ (1, j, o) k
theorem FA.rf {j : Fin 15} {μ : Mm} : FA j μ μ := fun _ _ _ => rfl
theorem FA.tr {j : Fin 15} {μ μ1 μ2 : Mm} (h : FA j μ μ1) (h2 : FA j μ1 μ2) : FA j μ μ2 := fun o k a => (h2 o k a).trans (h o k a)
theorem FA.set {j : Fin 15} {μ μ1 : Mm} {o k : Nat} {v : Int32} (h : FA j μ μ1) (ho : 2 ≤ o ∧ o < 11) : FA j μ (mset μ1 (1, j, o) k v) := fun o' k' a => by
  simp only [mset_g]
  rw [if_neg (by omega)]
  exact h o' k' a
theorem FA.fo {j : Fin 15} {μ μ1 : Mm} (h : FA j μ μ1) : FO j μ μ1 := fun o k a => h o k (by omega)
/-- places that disturbing leaves alone -/
def dM (i : Nat) : Prop := i ≠ 12 ∧ i ≠ 16 ∧ (i < 60 ∨ 76 ≤ i) ∧ (i < 124 ∨ 140 ≤ i)
def FD (μ' μ1' : Mm) : Prop := ∀ i, dM i → μ1' (2, 0, 1) i = μ' (2, 0, 1) i
theorem FD.rf {μ' : Mm} : FD μ' μ' := fun _ _ => rfl
theorem FD.tr {μ μ1 μ2 : Mm} (h : FD μ μ1) (h2 : FD μ1 μ2) : FD μ μ2 := fun i hi => (h2 i hi).trans (h i hi)
theorem FD.set {μ μ1 : Mm} {i : Nat} {v : Int32} (h : FD μ μ1) (hi : ¬ dM i) : FD μ (mset μ1 (2, 0, 1) i v) := fun k hk => by
  have e : k ≠ i := fun e => hi (e ▸ hk)
  simp only [mset]
  rw [if_neg (by simp [e])]
  exact h k hk
theorem FD.fld {μ μ1 : Mm} {i : Nat} {v : Int32} (h : FD μ μ1) : FD μ (mset μ1 (2, 0, 0) i v) := fun k hk => by
  rw [mset_ne (by decide)]
  exact h k hk
theorem FD.fs {μ' μ1' : Mm} (h : FD μ' μ1') : FS μ' μ1' := fun i hi => h i (by unfold spM at hi; unfold dM; omega)
theorem p_dist (hF : 25 ≤ F) (hd : 1 ≤ d) (h : R n q w z e j b μ μ') (x by' lim : Int32) (hlim : lim = μ' (2, 0, 1) 27) (hby : by' = nI 1 ∨ by' = nI 2) :
    ∃ (f : Int32) (μ1 μ1' : Mm), run L S F d 9 0 [some (vR (1, j, 2)), some (vI x), some (vI by'), some (vI lim), none, none] μ = some (f, μ1) ∧ run L S F d 134 0 [some (vR (2, 0, 0)), some (vI x), some (vI by'), none, none] μ' = some (0, μ1') ∧ R n q w (z + f) e j b μ1 μ1' ∧ FC j μ μ1 ∧ FM 3 μ' μ1' ∧ FD μ' μ1' ∧ FA j μ μ1 := by
  have hN := h.hn
  have hz0 : z + 0 = z := Int32.add_zero z
  rcases pk_ix x (n := n) (by omega) with hx | hx | ⟨p, hp, rfl⟩
  · refine ⟨0, μ, μ', ?_, ?_, by rw [hz0]; exact h, FC.rf, FM.rf.le (by decide), FD.rf, FA.rf⟩
    · obtain ⟨F, rfl, hF'⟩ := fz hF
      rw [e9_0, if_pos hx]
    · obtain ⟨F, rfl, hF'⟩ := fz hF
      obtain ⟨d, rfl, hd'⟩ := fz hd
      rw [e134_0]
      simp only [hN.2.1, s_inN (show 1 ≤ F by omega) (show 1 ≤ n by omega) hN.2.2.2, Option.bind_some, if_neg (not_in hN.2.2.2 (Or.inl hx)), if_true]
  · refine ⟨0, μ, μ', ?_, ?_, by rw [hz0]; exact h, FC.rf, FM.rf.le (by decide), FD.rf, FA.rf⟩
    · obtain ⟨F, rfl, hF'⟩ := fz hF
      have hx2 : ¬ x < nI n := Int32.not_lt.mpr hx
      rw [e9_0, hN.1, if_neg hx2]
      split <;> rfl
    · obtain ⟨F, rfl, hF'⟩ := fz hF
      obtain ⟨d, rfl, hd'⟩ := fz hd
      rw [e134_0]
      simp only [hN.2.1, s_inN (show 1 ≤ F by omega) (show 1 ≤ n by omega) hN.2.2.2, Option.bind_some, if_neg (not_in hN.2.2.2 (Or.inr hx)), if_true]
  · obtain ⟨r, hr, h1, h2, hu⟩ := h.at hp
    rw [c_dist (by omega) h hp hr h1, m_dist hF hd h hp hr h2 hu, hlim]
    have hL1 : LocR n e j (mset (mset μ (1, j, 5) r (μ' (2, 0, 1) (60 + r) + by')) (1, j, 2) 3 (mmax (μ (1, j, 2) 3) (μ' (2, 0, 1) (60 + r) + by'))) (mset (mset μ' (2, 0, 1) (60 + r) (μ' (2, 0, 1) (60 + r) + by')) (2, 0, 0) 9 (mmax (μ' (2, 0, 0) 9) (μ' (2, 0, 1) (60 + r) + by'))) :=
      ((h.1.1.set hN.2.2.2 (by simp [loc, hr])).setC rfl).setF
    have hz : μ' (2, 0, 1) 16 = μ (1, j, 24) 3 + z := h.2.2.2.2.2.2.2.1
    have hp9 : b = true → μ (1, j, 2) 3 = μ' (2, 0, 0) 9 := h.2.2.2.2.2.2.2.2
    have hR1 : R n q w z e j b (mset (mset μ (1, j, 5) r (μ' (2, 0, 1) (60 + r) + by')) (1, j, 2) 3 (mmax (μ (1, j, 2) 3) (μ' (2, 0, 1) (60 + r) + by'))) (mset (mset μ' (2, 0, 1) (60 + r) (μ' (2, 0, 1) (60 + r) + by')) (2, 0, 0) 9 (mmax (μ' (2, 0, 0) 9) (μ' (2, 0, 1) (60 + r) + by'))) := by
      refine h.upd hL1 (fun o k hs => ?_) (fun i hs => ?_) (h.da.keep hN.2.2.2 (fun i h1 h2 => by simp only [mset_g]; rw [if_neg (by omega), if_neg (by omega)])) ?_ (fun hb => ?_)
      · simp only [mset_g]
        rw [if_neg (by unfold spC at hs; omega), if_neg (by unfold spC at hs; omega)]
      · simp only [mset_g]
        rw [if_neg (by omega), if_neg (by unfold spM at hs; omega)]
      · simp only [mset_g]
        rw [if_neg (by omega), if_neg (by omega), if_neg (by omega), if_neg (by omega)]
        exact hz
      · simp [mset_g, hp9 hb]
    have hC1 : FC j μ (mset (mset μ (1, j, 5) r (μ' (2, 0, 1) (60 + r) + by')) (1, j, 2) 3 (mmax (μ (1, j, 2) 3) (μ' (2, 0, 1) (60 + r) + by'))) := FC.rf.set.set
    have hM1 : FM 2 μ' (mset (mset μ' (2, 0, 1) (60 + r) (μ' (2, 0, 1) (60 + r) + by')) (2, 0, 0) 9 (mmax (μ' (2, 0, 0) 9) (μ' (2, 0, 1) (60 + r) + by'))) := ((FM.rf.le (c2 := 2) (by decide)).setG (by omega) ⟨fun r' hr' B hB h0 h1 => by
      simp only [mset_g]
      split
      · rename_i e
        have e : r' = r := by omega
        subst e
        have k : ∃ m : Nat, m ≤ 2 ∧ by' = nI m := by
          rcases hby with x | x
          · exact ⟨1, by decide, x⟩
          · exact ⟨2, by decide, x⟩
        obtain ⟨m, m1, m2⟩ := k
        rw [m2, Kit.i32_add (by rw [nI_toInt (by omega)]; omega) (by rw [nI_toInt (by omega)]; omega), nI_toInt (by omega)]
        omega
      · omega, ⟨0, by omega, by rw [mset_g, if_neg (by omega)]; exact (Int32.add_zero _).symm⟩, by rw [mset_ne (by decide)]; exact Int.le_refl _⟩).fld (by rw [mset_ne (by decide)]; exact mmax_ge)
    have hO1 : FA j μ (mset (mset μ (1, j, 5) r (μ' (2, 0, 1) (60 + r) + by')) (1, j, 2) 3 (mmax (μ (1, j, 2) 3) (μ' (2, 0, 1) (60 + r) + by'))) := (FA.rf.set (by omega)).set (by omega)
    have hS1 : FD μ' (mset (mset μ' (2, 0, 1) (60 + r) (μ' (2, 0, 1) (60 + r) + by')) (2, 0, 0) 9 (mmax (μ' (2, 0, 0) 9) (μ' (2, 0, 1) (60 + r) + by'))) := (FD.rf.set (by unfold dM; omega)).fld
    have hD1 : ∀ i, 124 ≤ i → i < 172 → mset (mset μ' (2, 0, 1) (60 + r) (μ' (2, 0, 1) (60 + r) + by')) (2, 0, 0) 9 (mmax (μ' (2, 0, 0) 9) (μ' (2, 0, 1) (60 + r) + by')) (2, 0, 1) i = μ' (2, 0, 1) i := fun i h1 h2 => by simp only [mset_g]; rw [if_neg (by omega), if_neg (by omega)]
    generalize mset (mset μ (1, j, 5) r (μ' (2, 0, 1) (60 + r) + by')) (1, j, 2) 3 (mmax (μ (1, j, 2) 3) (μ' (2, 0, 1) (60 + r) + by')) = ν at hL1 hR1 hC1 hO1 ⊢
    have g12 : mset (mset μ' (2, 0, 1) (60 + r) (μ' (2, 0, 1) (60 + r) + by')) (2, 0, 0) 9 (mmax (μ' (2, 0, 0) 9) (μ' (2, 0, 1) (60 + r) + by')) (2, 0, 1) 16 = μ' (2, 0, 1) 16 := by
      simp only [mset_g]
      rw [if_neg (by omega), if_neg (by omega)]
    generalize mset (mset μ' (2, 0, 1) (60 + r) (μ' (2, 0, 1) (60 + r) + by')) (2, 0, 0) 9 (mmax (μ' (2, 0, 0) 9) (μ' (2, 0, 1) (60 + r) + by')) = ν' at hL1 hR1 hM1 g12 hS1 hD1 ⊢
    by_cases t1 : μ' (2, 0, 1) (60 + r) < μ' (2, 0, 1) 27
    · by_cases t2 : μ' (2, 0, 1) (60 + r) + by' < μ' (2, 0, 1) 27
      · refine ⟨0, ν, ν', ?_, ?_, by rw [hz0]; exact hR1, hC1, hM1.le (by decide), hS1, hO1⟩
        · simp only [if_pos t1, if_pos t2]
        · simp only [if_pos t1, if_pos t2]
      · refine ⟨1, _, _, (if_pos t1).trans (if_neg t2), (if_pos t1).trans (if_neg t2), ?_, hC1.set.set, ((hM1.set (by omega)).set (by omega)).fl (by rw [mset_g, if_neg (by omega), mset_g, if_neg (by omega), g12]), ((hS1.set (by unfold dM; omega)).set (by unfold dM; omega)).set (by unfold dM; omega), (hO1.set (by omega)).set (by omega)⟩
        have hL2 := ((hL1.set (o := 2) (k := 1) (i := 12) (v := μ' (2, 0, 1) 12 ||| ((1 : Int32) <<< (nI r &&& 31))) hN.2.2.2 rfl).set (o := 8) (k := r) (i := 124 + r) (v := μ' (2, 0, 1) (124 + r) ^^^ μ' (2, 0, 1) (156 + r)) hN.2.2.2 (by simp [loc, hr])).setM (i := 16) (v := μ' (2, 0, 1) 16 + 1) (fun o k e => by
          have := loc_li hN.2.2.2 e
          have e2 : li 16 = (24, 3) := rfl
          rw [e2] at this
          cases this
          cases e)
        have hzν : ν' (2, 0, 1) 16 = ν (1, j, 24) 3 + z := hR1.2.2.2.2.2.2.2.1
        refine hR1.upd hL2 (fun o k hs => ?_) (fun i hs => ?_) (fun r' hr' => ?_) ?_ (fun hb => ?_)
        · simp only [mset_g]
          rw [if_neg (by unfold spC at hs; omega), if_neg (by unfold spC at hs; omega)]
        · simp only [mset_g]
          rw [if_neg (by unfold spM at hs; omega), if_neg (by unfold spM at hs; omega), if_neg (by unfold spM at hs; omega)]
        · obtain ⟨a1, a2, a3⟩ := hR1.da r' hr'
          refine ⟨?_, ?_, ?_⟩
          · simp only [mset_g]
            rw [if_neg (by omega)]
            by_cases e : r' = r
            · subst e
              rw [if_pos ⟨trivial, rfl⟩, ← hD1 _ (by omega) (by omega), ← hD1 (156 + r') (by omega) (by omega)]
              obtain ⟨k1, b1, b2⟩ := a1
              obtain ⟨k3, b3, b4⟩ := a3
              exact ⟨k1 ^^^ k3, Nat.xor_lt_two_pow (n := 8) (by omega) (by omega), by rw [b2, b4, nI_xor b1 b3]⟩
            · rw [if_neg (by omega), if_neg (by omega)]
              exact a1
          · simp only [mset_g]
            rw [if_neg (by omega), if_neg (by omega), if_neg (by omega)]
            exact a2
          · simp only [mset_g]
            rw [if_neg (by omega), if_neg (by omega), if_neg (by omega)]
            exact a3
        · simp only [mset_g]
          rw [if_pos ⟨trivial, trivial⟩, if_neg (by omega), if_neg (by omega), ← g12, hzν]
          exact Int32.add_assoc _ _ _
        · simp only [mset_g]
          rw [if_neg (by omega), if_neg (by omega), if_neg (by omega), if_neg (by omega), if_neg (by omega)]
          exact hR1.2.2.2.2.2.2.2.2 hb
    · refine ⟨0, ν, ν', ?_, ?_, by rw [hz0]; exact hR1, hC1, hM1.le (by decide), hS1, hO1⟩
      · simp only [if_neg t1]
      · simp only [if_neg t1]
/-- disturbing around a row -/
theorem p_around (hF : 26 ≤ F) (hd : 2 ≤ d) (h : R n q w z e j b μ μ') {r : Nat} (hr : r < n) :
    ∃ (f : Int32) (μ1 μ1' : Mm), run L S F d 8 0 [some (vR (1, j, 2)), some (vI (nI r)), some (vR (1, j, 1)), none, none, none] μ = some (f, μ1) ∧ run L S F d 135 0 [some (vR (2, 0, 0)), some (vI (nI r)), none] μ' = some (0, μ1') ∧ R n q w (z + f) e j b μ1 μ1' ∧ FC j μ μ1 ∧ FM 12 μ' μ1' ∧ FD μ' μ1' ∧ FA j μ μ1 := by
  obtain ⟨F, rfl, hF'⟩ := fz hF
  obtain ⟨d, rfl, hd'⟩ := fz hd
  have hN := h.hn
  have hpl : μ (1, j, 3) r = μ' (2, 0, 1) (44 + r) := h.lc 3 r (44 + r) (by simp [loc, hr]) (by omega)
  rw [e8_0, e135_0]
  simp only [inb_n (show r < 16 by omega) (by decide), nI_clamp (show r < 2 ^ 31 by omega), a44, inb_n (show 44 + r < 1278 by omega) (by decide), nI_clamp (show 44 + r < 2 ^ 31 by omega), cond_true, hpl, h.term (k := 0) (by decide), Nat.add_zero]
  generalize μ' (2, 0, 1) (44 + r) = P
  have l27 : dM 27 := by unfold dM; omega
  have l28 : dM 28 := by unfold dM; omega
  obtain ⟨f1, μ1, μ1', a1, b1, R1, C1, M1, S1, O1⟩ := p_dist (L := L) (S := S) (F := F) (d := d) (by omega) (by omega) h (P - 1) 2 (μ' (2, 0, 1) 27) rfl (Or.inr rfl)
  obtain ⟨f2, μ2, μ2', a2, b2, R2, C2, M2, S2, O2⟩ := p_dist (L := L) (S := S) (F := F) (d := d) (by omega) (by omega) R1 (P + 1) 2 (μ' (2, 0, 1) 27) (S1 27 l27).symm (Or.inr rfl)
  simp only [a1, b1, Option.bind_some, a2, b2]
  have t1 : μ2 (1, j, 1) 1 = μ2' (2, 0, 1) 28 := R2.term (by decide)
  obtain ⟨m, m1, m2, m3⟩ := R2.tn 1 1 2 (by decide) rfl rfl
  have m3 : μ2' (2, 0, 1) 28 = nI m := m3
  rw [t1, m3]
  rcases (show m = 1 ∨ m = 2 by omega) with rfl | rfl
  · refine ⟨f1 + f2, μ2, μ2', ?_, ?_, ?_, C1.tr C2, (M1.tr M2).le (by decide), S1.tr S2, O1.tr O2⟩
    · rw [if_neg (by decide)]
    · rw [if_pos (by decide)]
    · rw [← Int32.add_assoc]; exact R2
  · obtain ⟨f3, μ3, μ3', a3, b3, R3, C3, M3, S3, O3⟩ := p_dist (L := L) (S := S) (F := F) (d := d) (by omega) (by omega) R2 (P - 2) 1 (μ' (2, 0, 1) 27) ((S2 27 l27).trans (S1 27 l27)).symm (Or.inl rfl)
    obtain ⟨f4, μ4, μ4', a4, b4, R4, C4, M4, S4, O4⟩ := p_dist (L := L) (S := S) (F := F) (d := d) (by omega) (by omega) R3 (P + 2) 1 (μ' (2, 0, 1) 27) ((S3 27 l27).trans ((S2 27 l27).trans (S1 27 l27))).symm (Or.inl rfl)
    simp only [a3, b3, Option.bind_some, a4, b4]
    refine ⟨(f1 + f2) + (f3 + f4), μ4, μ4', ?_, ?_, ?_, C1.tr (C2.tr (C3.tr C4)), M1.tr (M2.tr (M3.tr M4)), S1.tr (S2.tr (S3.tr S4)), O1.tr (O2.tr (O3.tr O4))⟩
    · rw [if_pos (by decide)]
    · rw [if_neg (by decide)]
    · have e : z + (f1 + f2 + (f3 + f4)) = z + f1 + f2 + f3 + f4 := by simp only [Int32.add_assoc]
      rw [e]; exact R4
end DS
