/-! a refreshing begins: places round and round -/
section RP
variable {L : Nat} {S : Ad → Nat → Int32} {F d n q w e : Nat} {z : Int32} {j : Fin 15} {b : Bool} {μ μ' : Mm}
theorem loc_lt {n o k i : Nat} (hn : n ≤ 16) (h : loc n o k = some i) : i < 212 := by
  unfold loc at h
  split at h <;> (repeat' split at h) <;> first
    | (cases h; done)
    | (have e1 := Option.some.inj h
       omega)
theorem R.chg {e1 : Nat} (h : R n q w z e j b μ μ') (he1 : e1 = 6 ∨ e1 = 18 ∨ e1 = 1000) (hL : LocR n e1 j μ μ') : R n q w z e1 j b μ μ' := ⟨⟨hL, he1⟩, h.2⟩
theorem LocR.setE {o k : Nat} {v : Int32} (hn : n ≤ 16) (h : LocR n e j μ μ') (hl : loc n o k = some e) : LocR n e j (mset μ (1, j, o) k v) μ' := by
  intro o' k' i' h' hie
  have e1 : ¬ (o' = o ∧ k' = k) := fun x => by
    obtain ⟨rfl, rfl⟩ := x
    exact hie (Option.some.inj (h'.symm.trans hl))
  simp only [mset_g]
  rw [if_neg e1]
  exact h o' k' i' h' hie
/-- the class has written at a place ahead of the reference -/
theorem R.opn {o k : Nat} {v : Int32} (h : R n q w z 1000 j b μ μ') (hl : loc n o k = some e) (he : e = 6 ∨ e = 18) : R n q w z e j b (mset μ (1, j, o) k v) μ' := by
  have hN := h.hn
  have hL : LocR n e j μ μ' := fun o' k' i' h' hie => h.1.1 o' k' i' h' (by have := loc_lt hN.2.2.2 h'; omega)
  have hc : ∀ o' k', loc n o' k' = none → ¬ (o' = o ∧ k' = k) := fun o' k' h2 => loc_ne hl o' k' h2
  refine (h.chg (by omega) hL).upd (hL.setE hN.2.2.2 hl) (fun o' k' hs => ?_) (fun i' _ => rfl) h.da ?_ (fun hb => ?_)
  · simp only [mset_g]
    rw [if_neg]
    by_cases e3 : o' = 3
    · subst e3
      intro x
      rw [← x.1] at hl
      simp only [loc] at hl
      split at hl
      · have := Option.some.inj hl
        omega
      · cases hl
    · exact hc o' k' (spC_none hs e3)
  · simp only [mset_g]
    rw [if_neg (hc 24 3 rfl)]
    exact h.hz
  · simp only [mset_g]
    rw [if_neg (hc 2 3 rfl)]
    exact h.pk hb
end RP
