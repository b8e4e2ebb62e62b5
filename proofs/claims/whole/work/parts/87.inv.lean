/-! the start keeps the invariant -/
theorem Inv_F {xs : Nat → Int32} : Inv 0 (muF (stS xs)) (muF (stS xs)) := by
  have z0 : (0 : Int32) = nI 0 := by decide
  have t1 : ∀ k, k < 17 → va_cpy firstF (fun _ => (0 : Int32)) 0 0 17 k = fM 17 (27 + k) := by decide +kernel
  have t2 : ∀ k, k < 17 → tLo k ≤ (fM 17 (27 + k)).toInt ∧ (fM 17 (27 + k)).toInt ≤ tHi k := by decide +kernel
  have t3 : ∀ k, k < 17 → (lowF k).toInt = tLo k ∧ (highF k).toInt = tHi k := by decide +kernel
  have hB : Bx 8 0 0 0 0 (0 : Fin 15) false (rstC (0 : Fin 15) 8 (muB (stS xs))) (rstM 8 (muM (fM 17))) := Bx.first (by decide) (by decide) t1 t2
  have hk : Bk 0 (0 : Fin 15) (rstC (0 : Fin 15) 8 (muB (stS xs))) (rstM 8 (muM (fM 17))) := ⟨8, 0, 0, 0, 0, hB, by decide, Nat.le_refl _, LG.first (by decide)⟩
  have m4 : rstM 8 (muM (fM 17)) (2, 0, 4) = muM (fM 17) (2, 0, 4) := rstM_q (by decide)
  have m0 : rstM 8 (muM (fM 17)) (2, 0, 0) = muM (fM 17) (2, 0, 0) := rstM_q (by decide)
  have m5 : rstM 8 (muM (fM 17)) (2, 0, 5) = lowF := rstM_q (by decide)
  have m6 : rstM 8 (muM (fM 17)) (2, 0, 6) = highF := rstM_q (by decide)
  have n0 : ∀ k, muF (stS xs) (2, 0, 0) k = muM (fM 17) (2, 0, 0) k := fun k => congrFun m0 k
  refine ⟨hk.fr (fun o => rfl) (fun i hi => rfl), ⟨0, 0, by decide, by decide, z0, z0, (n0 4).trans z0, fun k hk => absurd hk (Nat.not_lt_zero k)⟩, ⟨0, by decide, z0, fun i hi => ⟨?_, fun h => ?_⟩⟩, ⟨0, by decide, z0, (n0 12).trans z0, fun k hk => absurd hk (Nat.not_lt_zero k)⟩, ⟨(n0 17).symm, (n0 18).symm⟩, fun k hk => ?_⟩
  · rw [if_neg (by simp)]
    exact congrFun m4 i
  · simp at h
  · show (rstM 8 (muM (fM 17)) (2, 0, 5) k).toInt = tLo k ∧ (rstM 8 (muM (fM 17)) (2, 0, 6) k).toInt = tHi k
    rw [m5, m6]
    exact t3 k hk
