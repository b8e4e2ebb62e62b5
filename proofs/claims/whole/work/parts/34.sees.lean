/-! the guard sees a row -/
theorem mset_gk {μ : Mm} {c : Nat} {j : Fin 15} {o o' k k' : Nat} {v : Int32} (h : k' ≠ k) : mset μ (c, j, o) k v (c, j, o') k' = μ (c, j, o') k' := by
  rw [mset_g, if_neg (fun x => h x.2)]
theorem mset_go {μ : Mm} {c : Nat} {j : Fin 15} {o o' k k' : Nat} {v : Int32} (h : o' ≠ o) : mset μ (c, j, o) k v (c, j, o') k' = μ (c, j, o') k' := by
  rw [mset_g, if_neg (fun x => h x.1)]
theorem mset_gg {μ : Mm} {q : Ad} {k : Nat} {v : Int32} : mset μ q k v q k = v := by
  unfold mset
  rw [if_pos ⟨rfl, rfl⟩]
/-- places that a guard may write -/
def gM (i : Nat) : Prop := i ≠ 2 ∧ i ≠ 3 ∧ i ≠ 11 ∧ (i < 108 ∨ 124 ≤ i) ∧ (i < 172 ∨ 212 ≤ i)
def FG (μ' μ1' : Mm) : Prop := ∀ i, gM i → μ1' (2, 0, 1) i = μ' (2, 0, 1) i
section SE
variable {L : Nat} {S : Ad → Nat → Int32} {F d n q w e M : Nat} {z z1 : Int32} {j j1 : Fin 15} {b : Bool} {μ μ' μ1 μ1' : Mm}
theorem FG.rf : FG μ' μ' := fun _ _ => rfl
theorem FG.set {μ μ1 : Mm} {i : Nat} {v : Int32} (h : FG μ μ1) (hi : ¬ gM i) : FG μ (mset μ1 (2, 0, 1) i v) := fun k hk => by
  have e : k ≠ i := fun e => hi (e ▸ hk)
  rw [mset_gk e]
  exact h k hk
theorem R.gd (h : R n q w z 1000 j b μ μ') (hL : LocR n 1000 j μ1 μ1') (hc : ∀ o k, (o < 11 ∨ 18 ≤ o) → μ1 (1, j, o) k = μ (1, j, o) k) (hm : FG μ' μ1') (h2 : ∃ k, k < 7875 ∧ μ1' (2, 0, 1) 2 = nI k) (hf : μ1' (2, 0, 0) 9 = μ' (2, 0, 0) 9) (hse : SeR μ1') : R n q w z 1000 j b μ1 μ1' := by
  have hN := h.hn
  obtain ⟨r1, r2, r3, r4, r5, r6, r7, r8, r9⟩ := h.rg
  refine ⟨⟨hL, by clear h2 r5 r7 r8; omega⟩, h.wt.keep (fun o k x => hc o k (by clear h2 r5 r7 r8; omega)) (fun i hi => hm i (by clear h2 r5 r7 r8; unfold gM; omega)), h.qu.keep hN.2.2.2 (fun o k x => hc o k (by clear h2 r5 r7 r8; omega)) (fun i hi => hm i (by clear h2 r5 r7 r8; unfold gM; omega)), h.pm.keep (fun o k x => hc o k (by clear h2 r5 r7 r8; omega)), h.so.keep (hc 0 7 (by clear h2 r5 r7 r8; omega)) (fun i hi => hm i (by clear h2 r5 r7 r8; unfold gM; omega)), ⟨?_, r2, r3, fun k hk => ?_, ?_, ?_, h2, ?_, ?_⟩, hse, ?_, fun hb => ?_⟩
  · rw [hm 0 (by clear h2 r5 r7 r8; unfold gM; omega)]; exact r1
  · rw [hm (27 + k) (by clear h2 r5 r7 r8; unfold gM; omega)]; exact r4 k hk
  · rw [hm 10 (by clear h2 r5 r7 r8; unfold gM; omega)]; exact r5
  · rw [hm 8 (by clear h2 r5 r7 r8; unfold gM; omega)]; exact r6
  · rw [hm 6 (by clear h2 r5 r7 r8; unfold gM; omega)]; exact r8
  · exact r9.keep r3 (fun i a1 a2 => hm i (by clear h2 r5 r7 r8; unfold gM; omega))
  · rw [hm 16 (by clear h2 r5 r7 r8; unfold gM; omega), hc 24 3 (by clear h2 r5 r7 r8; omega)]; exact h.hz
  · rw [hc 2 3 (by clear h2 r5 r7 r8; omega), hf]; exact h.pk hb
theorem R.x (h : R n q w z e j b μ μ') : ∃ k, k < 7875 ∧ μ' (2, 0, 1) 2 = nI k := h.rg.2.2.2.2.2.2.1
theorem R.drawn {k : Nat} (h : R n q w z 1000 j b μ μ') (hk : k < 7875) : R n q w z 1000 j b (mset μ (1, j, 11) 2 (nI k)) (mset μ' (2, 0, 1) 2 (nI k)) := by
  have hN := h.hn
  refine h.gd (h.1.1.set hN.2.2.2 (o := 11) (k := 2) (i := 2) rfl) (fun o k' x => by rw [mset_g, if_neg (by omega)]) (FG.rf.set (by unfold gM; omega)) ⟨k, hk, by rw [mset_g, if_pos ⟨rfl, rfl⟩]⟩ (by rw [mset_ne (by decide)]) (h.se.keep (fun i hi => by rw [mset_g, if_neg (by omega)]))
/-- a slot of the table -/
theorem R.tab {k r : Nat} (h : R n q w z 1000 j b μ μ') (hg : μ' (2, 0, 1) 29 = 0) (hk : k < 8) (hr : r < n) : R n q w z 1000 j b (mset (mset μ (1, j, 12) k (nI r)) (1, j, 13) k (μ (1, j, 13) k + 1)) (mset (mset μ' (2, 0, 1) (172 + k) (nI r)) (2, 0, 1) (180 + k) (μ (1, j, 13) k + 1)) := by
  have hN := h.hn
  have gM : ∀ i, i ≠ 172 + k → i ≠ 180 + k → mset (mset μ' (2, 0, 1) (172 + k) (nI r)) (2, 0, 1) (180 + k) (μ (1, j, 13) k + 1) (2, 0, 1) i = μ' (2, 0, 1) i := fun i a1 a2 => by rw [mset_g, if_neg (fun x => a2 x.2), mset_g, if_neg (fun x => a1 x.2)]
  refine h.gd ((h.1.1.set hN.2.2.2 (o := 12) (k := k) (i := 172 + k) (by simp [loc, hk])).set hN.2.2.2 (o := 13) (k := k) (i := 180 + k) (by simp [loc, hk])) (fun o k' x => by rw [mset_g, if_neg (by omega), mset_g, if_neg (by omega)]) (fun i hi => gM i (by have := hi; unfold Jvm.Pilot.CRowGuardLaw_law_r2150_d2d5db.gM at this; omega) (by have := hi; unfold Jvm.Pilot.CRowGuardLaw_law_r2150_d2d5db.gM at this; omega)) ?_ (by rw [mset_ne (by decide), mset_ne (by decide)]) (fun i hi => ?_)
  · rw [gM 2 (by omega) (by omega)]; exact h.x
  · rw [gM 29 (by omega) (by omega), gM (188 + i) (by omega) (by omega)]
    by_cases c : i = k
    · subst c
      refine Or.inr ⟨⟨r, by omega, ?_⟩, fun x => ?_⟩
      · rw [mset_g, if_neg (by omega), mset_g, if_pos ⟨rfl, rfl⟩]
      · rw [hg] at x; exact absurd x (by decide)
    · rw [gM (172 + i) (by omega) (by omega)]
      exact h.se i hi
/-- a slot of the latest -/
theorem R.lat {k r s : Nat} {c : Int32} (h : R n q w z 1000 j b μ μ') (hk : k < 8) (hr : r < n) (hs : s + 1 < 2 ^ 31) : R n q w z 1000 j b (mset (mset (mset (mset μ (1, j, 12) k (nI r)) (1, j, 13) k c) (1, j, 11) 1 (nI (s + 1))) (1, j, 14) k (nI (s + 1))) (mset (mset (mset (mset μ' (2, 0, 1) (172 + k) (nI r)) (2, 0, 1) (180 + k) c) (2, 0, 1) 11 (nI (s + 1))) (2, 0, 1) (188 + k) (nI (s + 1))) := by
  have hN := h.hn
  have gM : ∀ i, i ≠ 172 + k → i ≠ 180 + k → i ≠ 11 → i ≠ 188 + k → mset (mset (mset (mset μ' (2, 0, 1) (172 + k) (nI r)) (2, 0, 1) (180 + k) c) (2, 0, 1) 11 (nI (s + 1))) (2, 0, 1) (188 + k) (nI (s + 1)) (2, 0, 1) i = μ' (2, 0, 1) i := fun i a1 a2 a3 a4 => by rw [mset_g, if_neg (fun x => a4 x.2), mset_g, if_neg (fun x => a3 x.2), mset_g, if_neg (fun x => a2 x.2), mset_g, if_neg (fun x => a1 x.2)]
  refine h.gd ((((h.1.1.set hN.2.2.2 (o := 12) (k := k) (i := 172 + k) (by simp [loc, hk])).set hN.2.2.2 (o := 13) (k := k) (i := 180 + k) (by simp [loc, hk])).set hN.2.2.2 (o := 11) (k := 1) (i := 11) rfl).set hN.2.2.2 (o := 14) (k := k) (i := 188 + k) (by simp [loc, hk])) (fun o k' x => by rw [mset_g, if_neg (by omega), mset_g, if_neg (by omega), mset_g, if_neg (by omega), mset_g, if_neg (by omega)]) (fun i hi => gM i (by have := hi; unfold Jvm.Pilot.CRowGuardLaw_law_r2150_d2d5db.gM at this; omega) (by have := hi; unfold Jvm.Pilot.CRowGuardLaw_law_r2150_d2d5db.gM at this; omega) (by have := hi; unfold Jvm.Pilot.CRowGuardLaw_law_r2150_d2d5db.gM at this; omega) (by have := hi; unfold Jvm.Pilot.CRowGuardLaw_law_r2150_d2d5db.gM at this; omega)) ?_ (by rw [mset_ne (by decide), mset_ne (by decide), mset_ne (by decide), mset_ne (by decide)]) (fun i hi => ?_)
  · rw [gM 2 (by omega) (by omega) (by omega) (by omega)]; exact h.x
  · rw [gM 29 (by omega) (by omega) (by omega) (by omega)]
    by_cases e : i = k
    · subst e
      refine Or.inr ⟨⟨r, by omega, ?_⟩, fun x => ?_⟩
      · rw [mset_g, if_neg (by omega), mset_g, if_neg (by omega), mset_g, if_neg (by omega), mset_g, if_pos ⟨rfl, rfl⟩]
      · rw [mset_g, if_pos ⟨rfl, rfl⟩, nI_toInt hs]; omega
    · rw [gM (172 + i) (by omega) (by omega) (by omega) (by omega), gM (188 + i) (by omega) (by omega) (by omega) (by omega)]
      exact h.se i hi
end SE
