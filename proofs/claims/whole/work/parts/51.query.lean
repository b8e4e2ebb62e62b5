/-! the calls that only tell: pairs at a bank -/
def PubR (L : Nat) (S : Ad → Nat → Int32) (T k k' : Nat) (l l' : Lc) (μ μ' : Mm) : Prop := ∃ x μ1 μ1', Ev (fun F => run L S F 30 k 0 l μ) (x, μ1) ∧ Ev (fun F => run L S F 30 k' 0 l' μ') (x, μ1') ∧ Inv (T + 200) μ1 μ1' ∧ CF μ μ1 ∧ MF μ' μ1'
abbrev th0 (μ' : Mm) : Mm := mset μ' (2, 0, 0) 0 0
section QU
variable {L : Nat} {S : Ad → Nat → Int32} {d n q w m t s T T1 : Nat} {z : Int32} {i j j1 : Fin 15} {b b1 : Bool} {μ μ' μ1 μ1' μ2 ν : Mm} {f g : Nat → Int32} {a1 a2 : Int32}
theorem Bk.th (h : Bk T j μ μ') : Bk T j μ (th0 μ') := h.fr (fun _ => rfl) (fun i _ => congrFun (mset_ne (by decide)) i)
theorem Inv.th (h : Inv T μ μ') : Inv T μ (th0 μ') := h.fr h.1.th (Nat.le_refl _) (fun _ _ => rfl) (MK.rf.fld (by decide))
theorem Inv.le (h : Inv T μ μ') (hT : T ≤ T1) : Inv T1 μ μ' := h.fr (h.1.le hT) hT (fun _ _ => rfl) MK.rf
/-- a call that tells and changes nothing -/
theorem pub_q {k k' : Nat} {l l' : Lc} (h : Inv T μ μ') (x : Int32) (hc : Ev (fun F => run L S F 30 k 0 l μ) (x, μ)) (hm : Ev (fun F => run L S F 30 k' 0 l' μ') (x, th0 μ')) : PubR L S T k k' l l' μ μ' :=
  ⟨x, μ, th0 μ', hc, hm, h.th.le (by omega), CF.rf, MF.rf.set⟩
theorem row_cases (x : Int32) (n : Nat) (hn : n ≤ 16) : (¬ (0 ≤ x.toInt ∧ x.toInt < n)) ∨ ∃ r, r < n ∧ x = nI r ∧ (0 ≤ x.toInt ∧ x.toInt < n) := by
  by_cases c : 0 ≤ x.toInt ∧ x.toInt < n
  · exact Or.inr ⟨x.toInt.toNat, by omega, nI_toNat c.1, c⟩
  · exact Or.inl c
theorem ev_has (h : R n q w z 1000 j b μ μ') (x : Int32) : Ev (fun F => run L S F d 4 0 [some (vR (1, j, 2)), some (vI x)] μ) (if 0 ≤ x.toInt ∧ x.toInt < n then 1 else 0, μ) := Ev.at 1 (fun F hF => s_has hF h.hn.1 h.hn.2.2.2)
theorem ev_isRow (h : R n q w z 1000 j b μ μ') (x : Int32) : Ev (fun F => run L S F (d + 1) 131 0 [some (vR (2, 0, 0)), some (vI x)] μ') (if 0 ≤ x.toInt ∧ x.toInt < n then 1 else 0, μ') := Ev.at 2 (fun F hF => s_isRow hF (by omega) h.hn.2.1 (by have := h.hn; omega) h.hn.2.2.2)
theorem ev_within {x lo hi : Int32} : Ev (fun F => run L S F d 127 0 [some (vL x.toInt64), none, some (vL lo.toInt64), none, some (vL hi.toInt64), none] μ) (if lo.toInt ≤ x.toInt ∧ x.toInt ≤ hi.toInt then 1 else 0, μ) := Ev.at 1 (fun F hF => s_within hF)
theorem i1 : ¬ (1 : Int32) = 0 := by decide
/-- the count of a row by the guard -/
theorem p_count (h : R n q w z 1000 j b μ ν) {r : Nat} (hr : r < n) : ∃ x, Ev (fun F => run L S F (d + 1) 25 0 [some (vR (1, j, 11)), some (vI (nI r)), some (vR (1, j, 1)), none, none] μ) (x, μ) ∧ Ev (fun F => run L S F (d + 2) 150 0 [some (vR (2, 0, 0)), some (vI (nI r))] ν) (x, ν) := by
  have hN := h.hn
  obtain ⟨M, M1, M2, M3⟩ := h.tn 3 1 8 (by decide) rfl rfl
  have M3 : ν (2, 0, 1) 30 = nI M := M3
  obtain ⟨gk, g1, g2, g3⟩ := h.tn 2 0 5 (by decide) rfl rfl
  have g3 : ν (2, 0, 1) 29 = nI gk := g3
  have cM : μ (1, j, 1) 3 = nI M := (h.term (by decide)).trans M3
  have cg : μ (1, j, 1) 2 = nI gk := (h.term (by decide)).trans g3
  have sl : ∀ d, Ev (fun F => run L S F d 17 0 [some (vR (1, j, 11)), some (vR (1, j, 1))] μ) (nI M, μ) := fun d => Ev.at 1 (fun F hF => s_slots hF M1 M2 cM)
  have hM0 : ¬ nI M = 0 := nI_ne0 (by omega) (by omega)
  have own := h.own (nI r) M2
  have tab : ∀ (hc : μ (1, j, 1) 2 = 0 ∨ μ (1, j, 1) 2 = 4), ∃ x, Ev (fun F => run L S F (d + 1) 25 0 [some (vR (1, j, 11)), some (vI (nI r)), some (vR (1, j, 1)), none, none] μ) (x, μ) ∧ Ev (fun F => run L S F (d + 2) 150 0 [some (vR (2, 0, 0)), some (vI (nI r))] ν) (x, ν) := fun hc => by
    have hc' : ν (2, 0, 1) 29 = 0 ∨ ν (2, 0, 1) 29 = 4 := by rw [g3, ← cg]; exact hc
    have e1 := fun d => Ev.at (f := fun F => run L S F d 19 0 [some (vR (1, j, 11)), some (vR (1, j, 12)), some (vI (nI M)), some (vI (nI r)), none] μ) 12 (fun F hF => s_idr (L := L) (S := S) (d := d) (j := j) (μ := μ) (x := nI r) hF M2)
    have e2 := fun d => Ev.at (f := fun F => run L S F d 141 0 [some (vR (2, 0, 0)), some (vI (nI r)), none] ν) 12 (fun F hF => m_slot (L := L) (S := S) (d := d) (x := nI r) hF M2 M3)
    have hf := fnd_at (P := fun k => decide (μ (1, j, 12) k = nI r)) M 0
    rw [← own] at e2
    generalize fnd (fun k => decide (μ (1, j, 12) k = nI r)) M 0 = x at e1 e2 hf
    rcases hf with ⟨rfl, _⟩ | ⟨k, _, k2, rfl, _⟩
    · refine ⟨0, Ev.step ?_, Ev.step ?_⟩
      · simp only [e25_0]
        refine Ev.bind (sl d) ?_
        rcases hc with c | c
        · simp only [c, if_true]
          refine Ev.bind (e1 d) ?_
          simp only [show (-1 : Int32) < 0 by decide, if_true]
          exact Ev.ret
        · simp only [c, show ¬ (4 : Int32) = 0 by decide, show ¬ (4 : Int32) = 1 by decide, show ¬ (4 : Int32) = 2 by decide, show ¬ (4 : Int32) = 3 by decide, if_false, if_true]
          refine Ev.bind (e1 d) ?_
          simp only [show (-1 : Int32) < 0 by decide, if_true]
          exact Ev.ret
      · simp only [e150_0]
        rcases hc' with c | c
        · simp only [c, show ¬ (0 : Int32) = 1 by decide, show ¬ (0 : Int32) = 5 by decide, show ¬ (0 : Int32) = 3 by decide, show ¬ (0 : Int32) = 2 by decide, if_false]
          refine Ev.bind (e2 (d + 1)) ?_
          simp only [if_true]
          exact Ev.ret
        · simp only [c, show ¬ (4 : Int32) = 1 by decide, show ¬ (4 : Int32) = 5 by decide, show ¬ (4 : Int32) = 3 by decide, show ¬ (4 : Int32) = 2 by decide, if_false]
          refine Ev.bind (e2 (d + 1)) ?_
          simp only [if_true]
          exact Ev.ret
    · have c13 : μ (1, j, 13) k = ν (2, 0, 1) (180 + k) := h.lc 13 k (180 + k) (by simp [loc, show k < 8 by omega]) (by omega)
      refine ⟨ν (2, 0, 1) (180 + k), Ev.step ?_, Ev.step ?_⟩
      · simp only [e25_0]
        refine Ev.bind (sl d) ?_
        rcases hc with c | c
        · simp only [c, if_true]
          refine Ev.bind (e1 d) ?_
          simp only [if_neg (nI_pos (show k < 2 ^ 31 by omega)), inb_n (show k < 8 by omega) (by decide), cond_true, nI_clamp (show k < 2 ^ 31 by omega), c13]
          exact Ev.ret
        · simp only [c, show ¬ (4 : Int32) = 0 by decide, show ¬ (4 : Int32) = 1 by decide, show ¬ (4 : Int32) = 2 by decide, show ¬ (4 : Int32) = 3 by decide, if_false, if_true]
          refine Ev.bind (e1 d) ?_
          simp only [if_neg (nI_pos (show k < 2 ^ 31 by omega)), inb_n (show k < 8 by omega) (by decide), cond_true, nI_clamp (show k < 2 ^ 31 by omega), c13]
          exact Ev.ret
      · simp only [e150_0]
        rcases hc' with c | c
        · simp only [c, show ¬ (0 : Int32) = 1 by decide, show ¬ (0 : Int32) = 5 by decide, show ¬ (0 : Int32) = 3 by decide, show ¬ (0 : Int32) = 2 by decide, if_false]
          refine Ev.bind (e2 (d + 1)) ?_
          simp only [if_neg (nI_m1 (show k < 2 ^ 31 by omega))]
          refine Ev.bind (e2 (d + 1)) ?_
          simp only [a180, inb_n (show 180 + k < 1278 by omega) (by decide), cond_true, nI_clamp (show 180 + k < 2 ^ 31 by omega)]
          exact Ev.ret
        · simp only [c, show ¬ (4 : Int32) = 1 by decide, show ¬ (4 : Int32) = 5 by decide, show ¬ (4 : Int32) = 3 by decide, show ¬ (4 : Int32) = 2 by decide, if_false]
          refine Ev.bind (e2 (d + 1)) ?_
          simp only [if_neg (nI_m1 (show k < 2 ^ 31 by omega))]
          refine Ev.bind (e2 (d + 1)) ?_
          simp only [a180, inb_n (show 180 + k < 1278 by omega) (by decide), cond_true, nI_clamp (show 180 + k < 2 ^ 31 by omega)]
          exact Ev.ret
  have c15 : μ (1, j, 15) r = ν (2, 0, 1) (108 + r) := h.lc 15 r (108 + r) (by simp [loc, show r < 16 by omega]) (by omega)
  rcases (show gk = 0 ∨ gk = 1 ∨ gk = 2 ∨ gk = 3 ∨ gk = 4 ∨ gk = 5 by omega) with rfl | rfl | rfl | rfl | rfl | rfl
  · exact tab (Or.inl cg)
  · have cg : μ (1, j, 1) 2 = 1 := cg
    have g3 : ν (2, 0, 1) 29 = 1 := g3
    refine ⟨ν (2, 0, 1) (108 + r), Ev.step ?_, Ev.step ?_⟩
    · simp only [e25_0]
      refine Ev.bind (sl d) ?_
      simp only [cg, show ¬ (1 : Int32) = 0 by decide, if_false, if_true, inb_n (show r < 16 by omega) (by decide), cond_true, nI_clamp (show r < 2 ^ 31 by omega), c15]
      exact Ev.ret
    · simp only [e150_0]
      simp only [g3, if_true, a108, inb_n (show 108 + r < 1278 by omega) (by decide), cond_true, nI_clamp (show 108 + r < 2 ^ 31 by omega)]
      exact Ev.ret
  · have cg : μ (1, j, 1) 2 = 2 := cg
    have g3 : ν (2, 0, 1) 29 = 2 := g3
    refine ⟨0, Ev.step ?_, Ev.step ?_⟩
    · simp only [e25_0]
      refine Ev.bind (sl d) ?_
      simp only [cg, show ¬ (2 : Int32) = 0 by decide, show ¬ (2 : Int32) = 1 by decide, if_false, if_true]
      exact Ev.ret
    · simp only [e150_0]
      simp only [g3, show ¬ (2 : Int32) = 1 by decide, show ¬ (2 : Int32) = 5 by decide, show ¬ (2 : Int32) = 3 by decide, if_false, if_true]
      exact Ev.ret
  · have cg : μ (1, j, 1) 2 = 3 := cg
    have g3 : ν (2, 0, 1) 29 = 3 := g3
    have r1 : nI r - nI r / nI M * nI M = nI (r % M) := pk_rem (by omega) (by omega) (by omega)
    have r2 : ((3 : Int32) * nI r + 1) - ((3 : Int32) * nI r + 1) / nI M * nI M = nI ((3 * r + 1) % M) := by rw [mul3]; exact pk_rem (by omega) (by omega) (by omega)
    have l1 : r % M < M := Nat.mod_lt _ (by omega)
    have l2 : (3 * r + 1) % M < M := Nat.mod_lt _ (by omega)
    generalize r % M = a at r1 l1
    generalize (3 * r + 1) % M = c at r2 l2
    have c16 : μ (1, j, 16) a = ν (2, 0, 1) (196 + a) := h.lc 16 a (196 + a) (by simp [loc, show a < 8 by omega]) (by omega)
    have c17 : μ (1, j, 17) c = ν (2, 0, 1) (204 + c) := h.lc 17 c (204 + c) (by simp [loc, show c < 8 by omega]) (by omega)
    refine ⟨mmin (ν (2, 0, 1) (196 + a)) (ν (2, 0, 1) (204 + c)), Ev.step ?_, Ev.step ?_⟩
    · simp only [e25_0]
      refine Ev.bind (sl d) ?_
      simp only [cg, show ¬ (3 : Int32) = 0 by decide, show ¬ (3 : Int32) = 1 by decide, show ¬ (3 : Int32) = 2 by decide, if_false, if_true, if_neg hM0, r1, r2, inb_n (show a < 8 by omega) (by decide), inb_n (show c < 8 by omega) (by decide), cond_true, nI_clamp (show a < 2 ^ 31 by omega), nI_clamp (show c < 2 ^ 31 by omega), c16, c17]
      exact Ev.ret
    · have h146 : Ev (fun F => run L S F d 146 0 [some (vR (2, 0, 0)), some (vI (nI r))] ν) (nI (196 + a), ν) := Ev.step (by
        simp only [e146_0]
        simp only [M3, if_neg hM0, r1, a196]
        exact Ev.ret)
      have h147 : Ev (fun F => run L S F d 147 0 [some (vR (2, 0, 0)), some (vI (nI r))] ν) (nI (204 + c), ν) := Ev.step (by
        simp only [e147_0]
        simp only [M3, if_neg hM0, r2, a204]
        exact Ev.ret)
      have h148 : Ev (fun F => run L S F (d + 1) 148 0 [some (vR (2, 0, 0)), some (vI (nI r)), none, none] ν) (mmin (ν (2, 0, 1) (196 + a)) (ν (2, 0, 1) (204 + c)), ν) := Ev.step (by
        simp only [e148_0]
        refine Ev.bind h146 ?_
        simp only [inb_n (show 196 + a < 1278 by omega) (by decide), cond_true, nI_clamp (show 196 + a < 2 ^ 31 by omega)]
        refine Ev.bind h147 ?_
        simp only [inb_n (show 204 + c < 1278 by omega) (by decide), cond_true, nI_clamp (show 204 + c < 2 ^ 31 by omega), mmin_if]
        split <;> exact Ev.ret)
      simp only [e150_0]
      simp only [g3, show ¬ (3 : Int32) = 1 by decide, show ¬ (3 : Int32) = 5 by decide, if_false, if_true]
      exact Ev.bind h148 Ev.ret
  · exact tab (Or.inr cg)
  · have cg : μ (1, j, 1) 2 = 5 := cg
    have g3 : ν (2, 0, 1) 29 = 5 := g3
    refine ⟨ν (2, 0, 1) (108 + r), Ev.step ?_, Ev.step ?_⟩
    · simp only [e25_0]
      refine Ev.bind (sl d) ?_
      simp only [cg, show ¬ (5 : Int32) = 0 by decide, show ¬ (5 : Int32) = 1 by decide, show ¬ (5 : Int32) = 2 by decide, show ¬ (5 : Int32) = 3 by decide, show ¬ (5 : Int32) = 4 by decide, if_false, if_true, inb_n (show r < 16 by omega) (by decide), cond_true, nI_clamp (show r < 2 ^ 31 by omega), c15]
      exact Ev.ret
    · simp only [e150_0]
      simp only [g3, show ¬ (5 : Int32) = 1 by decide, if_false, if_true, a108, inb_n (show 108 + r < 1278 by omega) (by decide), cond_true, nI_clamp (show 108 + r < 2 ^ 31 by omega)]
      exact Ev.ret
end QU
