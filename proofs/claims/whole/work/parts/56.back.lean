/-! what is undone, images, the tape -/
theorem bp_b (x : Int32) : x.toInt8.toInt32 &&& 255 = x &&& 255 := by
  apply Int32.toBitVec_inj.mp
  rw [Int32.toBitVec_and, Int32.toBitVec_and, Int8.toBitVec_toInt32, Int32.toBitVec_toInt8]
  apply BitVec.eq_of_getLsbD_eq
  intro i hi
  rw [BitVec.getLsbD_and, BitVec.getLsbD_and]
  have hm : ∀ i < 32, 8 ≤ i → (255 : Int32).toBitVec.getLsbD i = false := by decide
  rcases Nat.lt_or_ge i 8 with z | z
  · rw [BitVec.getLsbD_signExtend, BitVec.getLsbD_signExtend, if_pos z, if_pos hi]
    simp only [z, hi, decide_true, Bool.true_and]
  · rw [hm i hi z]; simp
section BA
variable {L : Nat} {S : Ad → Nat → Int32} {d n q w m t s T T1 : Nat} {z : Int32} {i j j1 : Fin 15} {b b1 : Bool} {μ μ' μ1 μ1' μ2 : Mm} {f g : Nat → Int32} {a1 a2 a3 a4 a5 : Int32} {ν ν1 ν2 : Mm}
theorem HiR.fr2 (h : HiR T μ μ') (hT : T ≤ T1) (hc : ∀ q : Ad, (q.1 = 1 ∧ 3 ≤ q.2.1.val) → μ1 q = μ q) (h2 : μ1 (0, 0, 4) 2 = μ (0, 0, 4) 2) (h3 : μ1 (0, 0, 4) 3 = μ (0, 0, 4) 3) (hm2 : μ1' (2, 0, 2) = μ' (2, 0, 2)) (hm4 : μ1' (2, 0, 0) 4 = μ' (2, 0, 0) 4) : HiR T1 μ1 μ1' := by
  obtain ⟨hd, len, y1, y2, y3, y4, y5, y6⟩ := h
  refine ⟨hd, len, y1, y2, h2.trans y3, h3.trans y4, hm4.trans y5, fun k hk => ?_⟩
  refine ((y6 k hk).fr (fun o => hc _ ⟨rfl, ?_⟩) (fun i hi => ?_)).le hT
  · show 3 ≤ (rg _).val
    rw [rg_val (Nat.mod_lt _ (by decide))]
    omega
  · rw [vw_at hi, vw_at hi, hm2]
theorem ImR.fr2 (h : ImR T μ μ') (hT : T ≤ T1) (hc : ∀ q : Ad, (q.1 = 1 ∧ 3 ≤ q.2.1.val) → μ1 q = μ q) (h4 : μ1 (0, 0, 4) 4 = μ (0, 0, 4) 4) (hm1 : ∀ i, 426 ≤ i → μ1' (2, 0, 1) i = μ' (2, 0, 1) i) (hm4 : μ1' (2, 0, 4) = μ' (2, 0, 4)) : ImR T1 μ1 μ1' := by
  obtain ⟨m, y1, y2, y3⟩ := h
  refine ⟨m, y1, h4.trans y2, fun i hi => ⟨by rw [hm4]; exact (y3 i hi).1, fun hb => ?_⟩⟩
  refine (((y3 i hi).2 hb).fr (fun o => hc _ ⟨rfl, ?_⟩) (fun k hk => ?_)).le hT
  · show 3 ≤ (im _).val
    rw [im_val hi]
    omega
  · rw [vw_at hk, vw_at hk, hm1 _ (by omega)]
theorem f0rg {h : Nat} (hh : h < 10) : rg h ≠ (0 : Fin 15) := fun e => by
  have := congrArg Fin.val e
  rw [rg_val hh, f0v] at this
  omega
theorem f0im {h : Nat} (hh : h < 2) : im h ≠ (0 : Fin 15) := fun e => by
  have := congrArg Fin.val e
  rw [im_val hh, f0v] at this
  omega
theorem P_undo (h : Inv T μ μ') : PubR L S T 123 223 [some (vR (0, 0, 0)), some (vI a1)] [some (vR (2, 0, 0)), some (vI a1)] μ μ' := by
  have hth := h.th
  obtain ⟨ν, n, q, w, t, s, e1, hB, hw, ht, hl0⟩ := q_open h
  have e2 : th0 μ' = ν := e1
  rw [e2] at hth
  have mfν : MF μ' ν := by rw [← e1]; exact MF.rf.set
  obtain ⟨hBk, ⟨hd, len, h1, h2, h3, h4, h5, h6⟩, hI, hT, hF, hC⟩ := hth
  have x1 : (1 : Int32).toInt = 1 := rfl
  have x10 : (10 : Int32).toInt = 10 := rfl
  by_cases c : 1 ≤ a1.toInt ∧ a1.toInt ≤ (len : Int)
  · obtain ⟨u, hu1, hu2, rfl⟩ : ∃ u, 1 ≤ u ∧ u ≤ len ∧ a1 = nI u := ⟨a1.toInt.toNat, by omega, by omega, nI_toNat (by omega)⟩
    have hd' : (hd + 10 - u) % 10 < 10 := Nat.mod_lt _ (by decide)
    -- the bank that comes back
    have hk := h6 (len - u) (by omega)
    rw [show (hd + 10 - len + (len - u)) % 10 = (hd + 10 - u) % 10 by omega] at hk
    have hk2 : Bk T (rg ((hd + 10 - u) % 10)) (mset (mset μ (0, 0, 4) 2 (nI ((hd + 10 - u) % 10))) (0, 0, 4) 3 (nI (len - u))) (vw (2, 0, 2) (426 * (len - u)) ν) := hk.fr (fun o => by rw [mset_ne (by simp), mset_ne (by simp)]) (fun _ _ => rfl)
    obtain ⟨μ2, p1, p2, p3⟩ := p_copy (L := L) (S := S) (d := 27) (j := 0) hk2 (f0rg hd')
    have sub : nI len - nI u = nI (len - u) := by
      obtain ⟨k, rfl⟩ : ∃ k, len = k + u := ⟨len - u, by omega⟩
      rw [← nI_add, Int32.add_sub_cancel, Nat.add_sub_cancel]
    have sub2 : nI hd + 10 - nI u = nI (hd + 10 - u) := by
      obtain ⟨k, hk⟩ : ∃ k, hd + 10 = k + u := ⟨hd + 10 - u, by omega⟩
      rw [show nI hd + 10 = nI (hd + 10) from nI_add hd 10, hk, ← nI_add, Int32.add_sub_cancel, Nat.add_sub_cancel]
    have rem : nI (hd + 10 - u) - nI (hd + 10 - u) / 10 * 10 = nI ((hd + 10 - u) % 10) := pk_rem (d := 10) (by omega) (by decide) (by decide)
    have cf : ∀ q : Ad, ¬ (q.1 = 1 ∧ q.2.1 = 0) → q ≠ (0, 0, 4) → μ2 q = μ q := fun q hq h4 => by
      rw [p2 q hq, mset_ne h4, mset_ne h4]
    have g2 : μ2 (0, 0, 4) 2 = nI ((hd + 10 - u) % 10) := by rw [p2 _ (fun x => absurd x.1 (by decide)), mset_gk (by decide), mset_gg]
    have g3 : μ2 (0, 0, 4) 3 = nI (len - u) := by rw [p2 _ (fun x => absurd x.1 (by decide)), mset_gg]
    have g4 : μ2 (0, 0, 4) 4 = μ (0, 0, 4) 4 := by rw [p2 _ (fun x => absurd x.1 (by decide)), mset_gk (by decide), mset_gk (by decide)]
    have hi : ∀ q : Ad, (q.1 = 1 ∧ 3 ≤ q.2.1.val) → μ2 q = μ q := fun q hq => cf q (fun x => by have := hq.2; rw [x.2, f0v] at this; omega) (fun e => by rw [e] at hq; exact absurd hq.1 (by decide))
    -- the reference
    have m1 : ∀ k, k < 426 → cpr (mset ν (2, 0, 0) 4 (nI (len - u))) (2, 0, 2) (426 * (len - u)) (2, 0, 1) 0 0 (2, 0, 1) k = ν (2, 0, 2) (426 * (len - u) + k) := fun k hk => by
      have := cpr_in (μ := mset ν (2, 0, 0) 4 (nI (len - u))) (a := (2, 0, 2)) (c := (2, 0, 1)) (f := 426 * (len - u)) (t := 0) hk
      rw [Nat.zero_add] at this
      rw [this, mset_ne (by decide)]
    have m2 : ∀ q : Ad, q ≠ (2, 0, 1) → q ≠ (2, 0, 0) → cpr (mset ν (2, 0, 0) 4 (nI (len - u))) (2, 0, 2) (426 * (len - u)) (2, 0, 1) 0 0 q = ν q := fun q x y => by
      funext k
      rw [cpr_ne x, mset_ne y]
    have m3 : ∀ k, k ≠ 4 → cpr (mset ν (2, 0, 0) 4 (nI (len - u))) (2, 0, 2) (426 * (len - u)) (2, 0, 1) 0 0 (2, 0, 0) k = ν (2, 0, 0) k := fun k x => by rw [cpr_ne (by decide), mset_gk x]
    have m4 : cpr (mset ν (2, 0, 0) 4 (nI (len - u))) (2, 0, 2) (426 * (len - u)) (2, 0, 1) 0 0 (2, 0, 0) 4 = nI (len - u) := by rw [cpr_ne (by decide), mset_gg]
    have m5 : ∀ i, 426 ≤ i → cpr (mset ν (2, 0, 0) 4 (nI (len - u))) (2, 0, 2) (426 * (len - u)) (2, 0, 1) 0 0 (2, 0, 1) i = ν (2, 0, 1) i := fun i hi => by rw [cpr_out (by omega), mset_ne (by decide)]
    have ref : Ev (fun F => run L S F 30 223 0 [some (vR (2, 0, 0)), some (vI (nI u))] μ') (nI (len - u), cpr (mset ν (2, 0, 0) 4 (nI (len - u))) (2, 0, 2) (426 * (len - u)) (2, 0, 1) 0 0) := by
      refine Ev.step ?_
      simp only [e223_0, e1]
      refine Ev.bind ev_within ?_
      simp only [if_pos (show (1 : Int32).toInt ≤ (nI u).toInt ∧ (nI u).toInt ≤ (10 : Int32).toInt from by rw [x1, x10]; omega), i1, if_false, h5, if_neg (nI_nlt (show u ≤ len by omega) (show len < 2 ^ 31 by omega)), sub, mset_gg, m426 (len - u) (by omega)]
      refine Ev.bind (m_cp_undeeds (by omega)) ?_
      simp only [m4]
      exact Ev.ret
    generalize cpr (mset ν (2, 0, 0) 4 (nI (len - u))) (2, 0, 2) (426 * (len - u)) (2, 0, 1) 0 0 = ν2 at m1 m2 m3 m4 m5 ref
    refine ⟨nI (len - u), μ2, ν2, Ev.step ?_, ref, ⟨(p3 ν2 (fun k hk => by rw [m1 k hk, vw_at hk])).le (by omega), ⟨(hd + 10 - u) % 10, len - u, hd', by omega, g2, g3, m4, fun k hk => ?_⟩, hI.fr2 (by omega) hi g4 m5 (m2 _ (by decide) (by decide)), ?_, ?_, ?_⟩, fun q hq => cf q (fun x => by omega) (fun e => by rw [e] at hq; exact absurd hq (by decide)), mfν.tr (fun q hq => m2 q (fun e => hq (by rw [e])) (fun e => hq (by rw [e])))⟩
    · simp only [e123_0, h4, if_neg (show ¬ nI u < (1 : Int32) from nI_nlt (b := 1) hu1 (by omega)), if_neg (nI_nlt (show u ≤ len by omega) (show len < 2 ^ 31 by omega))]
      have h64 : Ev (fun F => run L S F 29 64 0 [some (vR (0, 0, 4)), some (vI (nI u)), some (vR (1, 0, 0))] μ) (0, μ2) := by
        refine Ev.step ?_
        simp only [e64_0, h3, sub2, rem, mset_gk (show (3 : Nat) ≠ 2 by decide), h4, sub, mset_gk (show (2 : Nat) ≠ 3 by decide), mset_gg, inb_n hd' (show 10 < 2 ^ 31 by decide), cond_true, nI_clamp (show (hd + 10 - u) % 10 < 2 ^ 31 by omega)]
        exact Ev.bind p1 Ev.ret
      refine Ev.bind h64 ?_
      simp only [g3]
      exact Ev.ret
    · have := h6 k (by omega)
      rw [show (hd + 10 - len + k) % 10 = ((hd + 10 - u) % 10 + 10 - (len - u) + k) % 10 by omega] at this
      refine (this.fr (fun o => hi _ ⟨rfl, ?_⟩) (fun i hi => ?_)).le (by omega)
      · show 3 ≤ (rg _).val
        rw [rg_val (Nat.mod_lt _ (by decide))]
        omega
      · rw [vw_at hi, vw_at hi, m2 _ (by decide) (by decide)]
    · obtain ⟨l1, l2, l3, l4, l5⟩ := hT
      refine ⟨l1, l2, by rw [cf _ (fun x => absurd x.1 (by decide)) (by decide)]; exact l3, by rw [m3 12 (by decide)]; exact l4, fun k hk => ?_⟩
      rw [cf _ (fun x => absurd x.1 (by decide)) (by decide), m2 _ (by decide) (by decide)]
      exact l5 k hk
    · unfold FlR
      rw [cf _ (fun x => absurd x.1 (by decide)) (by decide), m3 17 (by decide), m3 18 (by decide)]
      exact hF
    · intro k hk
      rw [m2 _ (by decide) (by decide), m2 _ (by decide) (by decide)]
      exact hC k hk
  · refine pub_n h e1 (-3) (Ev.step ?_) (Ev.step ?_)
    · by_cases y : a1 < 1
      · simp only [e123_0, if_pos y]
        exact Ev.ret
      · have y2 : nI len < a1 := (l_lt (by omega)).mpr (by
          have := Int32.le_iff_toInt_le.mp (Int32.not_lt.mp y)
          omega)
        simp only [e123_0, if_neg y, h4, if_pos y2]
        exact Ev.ret
    · simp only [e223_0, e1]
      refine Ev.bind ev_within ?_
      by_cases y : (1 : Int32).toInt ≤ a1.toInt ∧ a1.toInt ≤ (10 : Int32).toInt
      · have y2 : nI len < a1 := (l_lt (by omega)).mpr (by omega)
        simp only [if_pos y, i1, if_false, h5, if_pos y2]
        exact Ev.ret
      · simp only [if_neg y, if_true]
        exact Ev.ret
theorem im_or : ∀ m, m < 4 → ∀ i, i < 2 → nI m ||| ((1 : Int32) <<< (nI i &&& 31)) = nI (m ||| 2 ^ i) ∧ (m ||| 2 ^ i) < 4 ∧ ∀ k, k < 2 → (m ||| 2 ^ i).testBit k = (m.testBit k || decide (k = i)) := by decide
theorem im_get : ∀ m, m < 4 → ∀ i, i < 2 → (((nI m >>> (nI i &&& 31)) &&& 1) = 1 ↔ m.testBit i = true) := by decide
theorem i_cases (x : Int32) : (¬ ((0 : Int32).toInt ≤ x.toInt ∧ x.toInt ≤ (1 : Int32).toInt)) ∨ ∃ k, k < 2 ∧ x = nI k ∧ ((0 : Int32).toInt ≤ x.toInt ∧ x.toInt ≤ (1 : Int32).toInt) := by
  by_cases c : (0 : Int32).toInt ≤ x.toInt ∧ x.toInt ≤ (1 : Int32).toInt
  · have x0 : (0 : Int32).toInt = 0 := rfl
    have x2 : (1 : Int32).toInt = 1 := rfl
    exact Or.inr ⟨x.toInt.toNat, by omega, nI_toNat (by omega), c⟩
  · exact Or.inl c
theorem i_no {x : Int32} (c : ¬ ((0 : Int32).toInt ≤ x.toInt ∧ x.toInt ≤ (1 : Int32).toInt)) : x < 0 ∨ (¬ x < 0 ∧ ¬ x < 2) := by
  have x0 : (0 : Int32).toInt = 0 := rfl
  have x1 : (1 : Int32).toInt = 1 := rfl
  have x2 : (2 : Int32).toInt = 2 := rfl
  rw [lt0, Int32.lt_iff_toInt_lt, x2]
  omega
theorem m427 : ∀ k, k < 2 → (426 : Int32) * (nI k + 1) = nI (426 * (k + 1)) := by decide
theorem P_image (h : Inv T μ μ') : PubR L S T 124 224 [some (vR (0, 0, 0)), some (vI a1)] [some (vR (2, 0, 0)), some (vI a1)] μ μ' := by
  have hth := h.th
  obtain ⟨ν, n, q, w, t, s, e1, hB, hw, ht, hl0⟩ := q_open h
  have e2 : th0 μ' = ν := e1
  rw [e2] at hth
  have mfν : MF μ' ν := by rw [← e1]; exact MF.rf.set
  rcases i_cases a1 with c | ⟨u, hu, rfl, c⟩
  · refine pub_n h e1 (-2) (Ev.step ?_) (Ev.step ?_)
    · rcases i_no c with y | ⟨y, y2⟩
      · simp only [e124_0, if_pos y]
        exact Ev.ret
      · simp only [e124_0, if_neg y, if_neg y2]
        exact Ev.ret
    · simp only [e224_0, e1]
      refine Ev.bind ev_within ?_
      simp only [if_neg c, if_true]
      exact Ev.ret
  · obtain ⟨hBk, hH, ⟨m, m1, m2, m3⟩, hT, hF, hC⟩ := hth
    obtain ⟨o1, o2, o3⟩ := im_or m m1 u hu
    obtain ⟨μ1, p1, p2, p3⟩ := p_copy (L := L) (S := S) (d := 27) (j := im u) hBk (fun e => f0im hu e.symm)
    have cf : ∀ q : Ad, ¬ (q.1 = 1 ∧ q.2.1 = im u) → q ≠ (0, 0, 4) → mset μ1 (0, 0, 4) 4 (nI (m ||| 2 ^ u)) q = μ q := fun q x y => by rw [mset_ne y, p2 q x]
    have c4 : ∀ k, k ≠ 4 → mset μ1 (0, 0, 4) 4 (nI (m ||| 2 ^ u)) (0, 0, 4) k = μ (0, 0, 4) k := fun k x => by rw [mset_gk x, p2 _ (fun x => absurd x.1 (by decide))]
    have c44 : mset μ1 (0, 0, 4) 4 (nI (m ||| 2 ^ u)) (0, 0, 4) 4 = nI (m ||| 2 ^ u) := mset_gg
    have cls : Ev (fun F => run L S F 30 124 0 [some (vR (0, 0, 0)), some (vI (nI u))] μ) (0, mset μ1 (0, 0, 4) 4 (nI (m ||| 2 ^ u))) := by
      refine Ev.step ?_
      simp only [e124_0, if_neg (nI_pos (show u < 2 ^ 31 by omega)), if_pos (show nI u < (2 : Int32) from nI_lt (b := 2) hu (by decide))]
      have h65 : Ev (fun F => run L S F 29 65 0 [some (vR (0, 0, 4)), some (vI (nI u)), some (vR (1, 0, 0))] μ) (0, mset μ1 (0, 0, 4) 4 (nI (m ||| 2 ^ u))) := by
        refine Ev.step ?_
        simp only [e65_0, inb_n hu (show 2 < 2 ^ 31 by decide), cond_true, nI_clamp (show u < 2 ^ 31 by omega)]
        refine Ev.bind p1 ?_
        have g : μ1 (0, 0, 4) 4 = nI m := (congrFun (p2 (0, 0, 4) (fun x => absurd x.1 (by decide))) 4).trans m2
        simp only [g, o1]
        exact Ev.ret
      exact Ev.bind h65 Ev.ret
    have newB : ∀ μ1', (∀ k, k < 426 → μ1' (2, 0, 1) k = ν (2, 0, 1) k) → Bk T (im u) (mset μ1 (0, 0, 4) 4 (nI (m ||| 2 ^ u))) μ1' := fun μ1' hm => (p3 μ1' hm).fr (fun o => by rw [mset_ne (by simp)]) (fun _ _ => rfl)
    generalize mset μ1 (0, 0, 4) 4 (nI (m ||| 2 ^ u)) = μ2 at cf c4 c44 cls newB
    have g1 : ∀ k, k < 426 → mset (cpr ν (2, 0, 1) 0 (2, 0, 1) (426 * (u + 1)) 0) (2, 0, 4) u 1 (2, 0, 1) (426 * (u + 1) + k) = ν (2, 0, 1) k := fun k hk => by
      rw [mset_ne (by decide), cpr_in hk, Nat.zero_add]
    have g2 : ∀ k, k < 426 * (u + 1) ∨ 426 * (u + 1) + 426 ≤ k → mset (cpr ν (2, 0, 1) 0 (2, 0, 1) (426 * (u + 1)) 0) (2, 0, 4) u 1 (2, 0, 1) k = ν (2, 0, 1) k := fun k hk => by
      rw [mset_ne (by decide), cpr_out hk]
    have g3 : ∀ q : Ad, q ≠ (2, 0, 1) → q ≠ (2, 0, 4) → mset (cpr ν (2, 0, 1) 0 (2, 0, 1) (426 * (u + 1)) 0) (2, 0, 4) u 1 q = ν q := fun q x y => by
      rw [mset_ne y]
      funext k
      exact cpr_ne x
    have g4 : ∀ k, mset (cpr ν (2, 0, 1) 0 (2, 0, 1) (426 * (u + 1)) 0) (2, 0, 4) u 1 (2, 0, 4) k = if k = u then 1 else ν (2, 0, 4) k := fun k => by
      rw [mset_g]
      by_cases x : k = u
      · rw [if_pos ⟨rfl, x⟩, if_pos x]
      · rw [if_neg (fun y => x y.2), if_neg x, cpr_ne (by decide)]
    have ref : Ev (fun F => run L S F 30 224 0 [some (vR (2, 0, 0)), some (vI (nI u))] μ') (0, mset (cpr ν (2, 0, 1) 0 (2, 0, 1) (426 * (u + 1)) 0) (2, 0, 4) u 1) := by
      refine Ev.step ?_
      simp only [e224_0, e1]
      refine Ev.bind ev_within ?_
      simp only [if_pos c, i1, if_false, m427 u hu]
      refine Ev.bind (m_cp_image hu) ?_
      simp only [inb_n hu (show 2 < 2 ^ 31 by decide), cond_true, nI_clamp (show u < 2 ^ 31 by omega), narB1]
      exact Ev.ret
    generalize mset (cpr ν (2, 0, 1) 0 (2, 0, 1) (426 * (u + 1)) 0) (2, 0, 4) u 1 = ν2 at g1 g2 g3 g4 ref
    refine ⟨0, μ2, ν2, cls, ref, ⟨(hBk.fr (fun o => cf _ (fun x => f0im hu x.2.symm) (by simp)) (fun i hi => g2 i (by omega))).le (by omega), ?_, ⟨m ||| 2 ^ u, o2, c44, fun i hi => ?_⟩, ?_, ?_, ?_⟩, fun q hq => cf q (fun x => by omega) (fun e => by rw [e] at hq; exact absurd hq (by decide)), mfν.tr (fun q hq => g3 q (fun e => hq (by rw [e])) (fun e => hq (by rw [e])))⟩
    · obtain ⟨hd, len, y1, y2, y3, y4, y5, y6⟩ := hH
      refine ⟨hd, len, y1, y2, (c4 2 (by decide)).trans y3, (c4 3 (by decide)).trans y4, by rw [g3 _ (by decide) (by decide)]; exact y5, fun k hk => ?_⟩
      refine ((y6 k hk).fr (fun o => cf _ (fun x => ?_) (by simp)) (fun i hi => ?_)).le (by omega)
      · have := congrArg Fin.val x.2
        have e9 : (rg ((hd + 10 - len + k) % 10)).val = (im u).val := this
        rw [rg_val (Nat.mod_lt _ (by decide)), im_val hu] at e9
        omega
      · rw [vw_at hi, vw_at hi, g3 _ (by decide) (by decide)]
    · rw [g4, o3 i hi]
      by_cases x : i = u
      · subst x
        refine ⟨by simp, fun _ => ?_⟩
        exact (newB _ (fun k hk => by rw [vw_at hk]; exact g1 k hk)).le (by omega)
      · rw [if_neg x]
        refine ⟨by rw [(m3 i hi).1]; simp [x], fun hb => ?_⟩
        have hb2 : m.testBit i = true := by simpa [x] using hb
        refine (((m3 i hi).2 hb2).fr (fun o => cf _ (fun y => ?_) (by simp)) (fun k hk => ?_)).le (by omega)
        · have e9 : (im i).val = (im u).val := congrArg Fin.val y.2
          rw [im_val hi, im_val hu] at e9
          omega
        · rw [vw_at hk, vw_at hk, g2 _ (by omega)]
    · obtain ⟨l1, l2, l3, l4, l5⟩ := hT
      refine ⟨l1, l2, by rw [cf _ (fun x => absurd x.1 (by decide)) (by decide)]; exact l3, by rw [g3 _ (by decide) (by decide)]; exact l4, fun k hk => ?_⟩
      rw [cf _ (fun x => absurd x.1 (by decide)) (by decide), g3 _ (by decide) (by decide)]
      exact l5 k hk
    · unfold FlR
      rw [cf _ (fun x => absurd x.1 (by decide)) (by decide), g3 _ (by decide) (by decide)]
      exact hF
    · intro k hk
      rw [g3 _ (by decide) (by decide), g3 _ (by decide) (by decide)]
      exact hC k hk
theorem P_restore (h : Inv T μ μ') : PubR L S T 125 225 [some (vR (0, 0, 0)), some (vI a1)] [some (vR (2, 0, 0)), some (vI a1)] μ μ' := by
  have hth := h.th
  obtain ⟨ν, n, q, w, t, s, e1, hB, hw, ht, hl0⟩ := q_open h
  have e2 : th0 μ' = ν := e1
  rw [e2] at hth
  have mfν : MF μ' ν := by rw [← e1]; exact MF.rf.set
  rcases i_cases a1 with c | ⟨u, hu, rfl, c⟩
  · refine pub_n h e1 (-2) (Ev.step ?_) (Ev.step ?_)
    · rcases i_no c with y | ⟨y, y2⟩
      · simp only [e125_0, if_pos y]
        exact Ev.ret
      · simp only [e125_0, if_neg y, if_neg y2]
        exact Ev.ret
    · simp only [e225_0, e1]
      refine Ev.bind ev_within ?_
      simp only [if_neg c, if_true]
      exact Ev.ret
  · obtain ⟨hBk, hH, ⟨m, m1, m2, m3⟩, hT, hF, hC⟩ := hth
    have y1 : ¬ nI u < 0 := nI_pos (by omega)
    have y2 : nI u < (2 : Int32) := nI_lt (b := 2) hu (by decide)
    by_cases hb : m.testBit u = true
    · have c66 : Ev (fun F => run L S F 29 66 0 [some (vR (0, 0, 4)), some (vI (nI u))] μ) (1, μ) := Ev.step (by
        simp only [e66_0, m2, if_pos ((im_get m m1 u hu).mpr hb), narB1]
        exact Ev.ret)
      obtain ⟨μ1, p1, p2, p3⟩ := p_copy (L := L) (S := S) (d := 27) (j := 0) ((m3 u hu).2 hb) (f0im hu)
      have cf : ∀ q : Ad, ¬ (q.1 = 1 ∧ q.2.1 = 0) → q ≠ (0, 0, 4) → mset μ1 (0, 0, 4) 3 0 q = μ q := fun q x y => by rw [mset_ne y, p2 q x]
      have c4 : ∀ k, k ≠ 3 → mset μ1 (0, 0, 4) 3 0 (0, 0, 4) k = μ (0, 0, 4) k := fun k x => by rw [mset_gk x, p2 _ (fun x => absurd x.1 (by decide))]
      have c43 : mset μ1 (0, 0, 4) 3 0 (0, 0, 4) 3 = nI 0 := mset_gg
      have cls : Ev (fun F => run L S F 30 125 0 [some (vR (0, 0, 0)), some (vI (nI u))] μ) (0, mset μ1 (0, 0, 4) 3 0) := by
        refine Ev.step ?_
        simp only [e125_0, if_neg y1, if_pos y2]
        refine Ev.bind c66 ?_
        simp only [i1, if_false]
        have h67 : Ev (fun F => run L S F 29 67 0 [some (vR (0, 0, 4)), some (vI (nI u)), some (vR (1, 0, 0))] μ) (0, mset μ1 (0, 0, 4) 3 0) := by
          refine Ev.step ?_
          simp only [e67_0, inb_n hu (show 2 < 2 ^ 31 by decide), cond_true, nI_clamp (show u < 2 ^ 31 by omega)]
          exact Ev.bind p1 Ev.ret
        exact Ev.bind h67 Ev.ret
      have newB : ∀ μ1', (∀ k, k < 426 → μ1' (2, 0, 1) k = ν (2, 0, 1) (426 * (u + 1) + k)) → Bk T 0 (mset μ1 (0, 0, 4) 3 0) μ1' := fun μ1' hm => (p3 μ1' (fun k hk => by rw [hm k hk, vw_at hk])).fr (fun o => by rw [mset_ne (by simp)]) (fun _ _ => rfl)
      generalize mset μ1 (0, 0, 4) 3 0 = μ2 at cf c4 c43 cls newB
      have g1 : ∀ k, k < 426 → mset (cpr ν (2, 0, 1) (426 * (u + 1)) (2, 0, 1) 0 0) (2, 0, 0) 4 0 (2, 0, 1) k = ν (2, 0, 1) (426 * (u + 1) + k) := fun k hk => by
        have := cpr_in (μ := ν) (a := (2, 0, 1)) (c := (2, 0, 1)) (f := 426 * (u + 1)) (t := 0) hk
        rw [Nat.zero_add] at this
        rw [mset_ne (by decide), this]
      have g2 : ∀ k, 426 ≤ k → mset (cpr ν (2, 0, 1) (426 * (u + 1)) (2, 0, 1) 0 0) (2, 0, 0) 4 0 (2, 0, 1) k = ν (2, 0, 1) k := fun k hk => by
        rw [mset_ne (by decide), cpr_out (by omega)]
      have g3 : ∀ q : Ad, q ≠ (2, 0, 1) → q ≠ (2, 0, 0) → mset (cpr ν (2, 0, 1) (426 * (u + 1)) (2, 0, 1) 0 0) (2, 0, 0) 4 0 q = ν q := fun q x y => by
        rw [mset_ne y]
        funext k
        exact cpr_ne x
      have g4 : ∀ k, k ≠ 4 → mset (cpr ν (2, 0, 1) (426 * (u + 1)) (2, 0, 1) 0 0) (2, 0, 0) 4 0 (2, 0, 0) k = ν (2, 0, 0) k := fun k x => by
        rw [mset_gk x, cpr_ne (by decide)]
      have g44 : mset (cpr ν (2, 0, 1) (426 * (u + 1)) (2, 0, 1) 0 0) (2, 0, 0) 4 0 (2, 0, 0) 4 = nI 0 := mset_gg
      have ref : Ev (fun F => run L S F 30 225 0 [some (vR (2, 0, 0)), some (vI (nI u))] μ') (0, mset (cpr ν (2, 0, 1) (426 * (u + 1)) (2, 0, 1) 0 0) (2, 0, 0) 4 0) := by
        have e6 : ν (2, 0, 4) u = 1 := by rw [(m3 u hu).1, if_pos hb]
        refine Ev.step ?_
        simp only [e225_0, e1]
        refine Ev.bind ev_within ?_
        simp only [if_pos c, i1, if_false, inb_n hu (show 2 < 2 ^ 31 by decide), cond_true, nI_clamp (show u < 2 ^ 31 by omega), e6, m427 u hu]
        exact Ev.bind (m_cp_unimage hu) Ev.ret
      generalize mset (cpr ν (2, 0, 1) (426 * (u + 1)) (2, 0, 1) 0 0) (2, 0, 0) 4 0 = ν2 at g1 g2 g3 g4 g44 ref
      have hi : ∀ q : Ad, (q.1 = 1 ∧ 3 ≤ q.2.1.val) → μ2 q = μ q := fun q hq => cf q (fun x => by have := hq.2; rw [x.2, f0v] at this; omega) (fun e => by rw [e] at hq; exact absurd hq.1 (by decide))
      obtain ⟨hd, len, z1, z2, z3, z4, z5, z6⟩ := hH
      refine ⟨0, μ2, ν2, cls, ref, ⟨(newB ν2 g1).le (by omega), ⟨hd, 0, z1, by omega, (c4 2 (by decide)).trans z3, c43, g44, fun k hk => absurd hk (by omega)⟩, ImR.fr2 ⟨m, m1, m2, m3⟩ (by omega) hi (c4 4 (by decide)) g2 (g3 _ (by decide) (by decide)), ?_, ?_, ?_⟩, fun q hq => cf q (fun x => by omega) (fun e => by rw [e] at hq; exact absurd hq (by decide)), mfν.tr (fun q hq => g3 q (fun e => hq (by rw [e])) (fun e => hq (by rw [e])))⟩
      · obtain ⟨l1, l2, l3, l4, l5⟩ := hT
        refine ⟨l1, l2, by rw [cf _ (fun x => absurd x.1 (by decide)) (by decide)]; exact l3, by rw [g4 12 (by decide)]; exact l4, fun k hk => ?_⟩
        rw [cf _ (fun x => absurd x.1 (by decide)) (by decide), g3 _ (by decide) (by decide)]
        exact l5 k hk
      · unfold FlR
        rw [cf _ (fun x => absurd x.1 (by decide)) (by decide), g4 17 (by decide), g4 18 (by decide)]
        exact hF
      · intro k hk
        rw [g3 _ (by decide) (by decide), g3 _ (by decide) (by decide)]
        exact hC k hk
    · refine pub_n h e1 (-6) (Ev.step ?_) (Ev.step ?_)
      · have c66 : Ev (fun F => run L S F 29 66 0 [some (vR (0, 0, 4)), some (vI (nI u))] μ) (0, μ) := Ev.step (by
          simp only [e66_0, m2, if_neg (fun x => hb ((im_get m m1 u hu).mp x)), narB0]
          exact Ev.ret)
        simp only [e125_0, if_neg y1, if_pos y2]
        refine Ev.bind c66 ?_
        simp only [if_true]
        exact Ev.ret
      · have e6 : ν (2, 0, 4) u = 0 := by rw [(m3 u hu).1, if_neg hb]
        simp only [e225_0, e1]
        refine Ev.bind ev_within ?_
        simp only [if_pos c, i1, if_false, inb_n hu (show 2 < 2 ^ 31 by decide), cond_true, nI_clamp (show u < 2 ^ 31 by omega), e6, if_true]
        exact Ev.ret
end BA
