/-! all of it: what was ahead of the latest calls, the images, the tape, the fault -/
def rg (h : Nat) : Fin 15 := Fin.ofNat 15 (3 + h)
def im (i : Nat) : Fin 15 := Fin.ofNat 15 (13 + i)
theorem rg_val {h : Nat} (hh : h < 10) : (rg h).val = 3 + h := by
  show (3 + h) % 15 = 3 + h
  omega
theorem im_val {i : Nat} (hi : i < 2) : (im i).val = 13 + i := by
  show (13 + i) % 15 = 13 + i
  omega
theorem rg_ne {h h' : Nat} (hh : h < 10) (hh' : h' < 10) (hn : h ≠ h') : rg h ≠ rg h' := fun e => by
  have := congrArg Fin.val e
  rw [rg_val hh, rg_val hh'] at this
  omega
theorem f0v : ((0 : Fin 15)).val = 0 := rfl
def HiR (T : Nat) (μ μ' : Mm) : Prop := ∃ hd len, hd < 10 ∧ len ≤ 10 ∧ μ (0, 0, 4) 2 = nI hd ∧ μ (0, 0, 4) 3 = nI len ∧ μ' (2, 0, 0) 4 = nI len ∧ ∀ k, k < len → Bk T (rg ((hd + 10 - len + k) % 10)) μ (vw (2, 0, 2) (426 * k) μ')
def ImR (T : Nat) (μ μ' : Mm) : Prop := ∃ m, m < 4 ∧ μ (0, 0, 4) 4 = nI m ∧ ∀ i, i < 2 → μ' (2, 0, 4) i = (if m.testBit i = true then 1 else 0) ∧ (m.testBit i = true → Bk T (im i) μ (vw (2, 0, 1) (426 * (i + 1)) μ'))
def TaR (μ μ' : Mm) : Prop := ∃ len, len ≤ 60 ∧ μ (0, 0, 7) 0 = nI len ∧ μ' (2, 0, 0) 12 = nI len ∧ ∀ k, k < len → ∃ v, v < 256 ∧ μ (0, 0, 8) k = nI v ∧ μ' (2, 0, 8) k &&& 255 = nI v
def FlR (μ μ' : Mm) : Prop := μ (0, 0, 0) 5 = μ' (2, 0, 0) 17 ∧ μ (0, 0, 0) 6 = μ' (2, 0, 0) 18
def CoR (μ' : Mm) : Prop := ∀ k, k < 17 → (μ' (2, 0, 5) k).toInt = tLo k ∧ (μ' (2, 0, 6) k).toInt = tHi k
def Inv (T : Nat) (μ μ' : Mm) : Prop := Bk T 0 μ μ' ∧ HiR T μ μ' ∧ ImR T μ μ' ∧ TaR μ μ' ∧ FlR μ μ' ∧ CoR μ'
/-- places that hang together beyond the bank that is now -/
def CK (q : Ad) : Prop := (q.1 = 1 ∧ 3 ≤ q.2.1.val) ∨ q = (0, 0, 4) ∨ q = (0, 0, 7) ∨ q = (0, 0, 8) ∨ q = (0, 0, 0)
def MK (μ' μ1' : Mm) : Prop := (∀ i, 426 ≤ i → μ1' (2, 0, 1) i = μ' (2, 0, 1) i) ∧ (∀ o, o = 2 ∨ o = 4 ∨ o = 5 ∨ o = 6 ∨ o = 8 → μ1' (2, 0, o) = μ' (2, 0, o)) ∧ ∀ k, k = 4 ∨ k = 12 ∨ k = 17 ∨ k = 18 → μ1' (2, 0, 0) k = μ' (2, 0, 0) k
def CF (μ μ1 : Mm) : Prop := ∀ q : Ad, 2 ≤ q.1 → μ1 q = μ q
def MF (μ' μ1' : Mm) : Prop := ∀ q : Ad, q.1 ≠ 2 → μ1' q = μ' q
theorem CF.rf {μ : Mm} : CF μ μ := fun _ _ => rfl
theorem MF.rf {μ : Mm} : MF μ μ := fun _ _ => rfl
theorem CF.tr {μ μ1 μ2 : Mm} (h : CF μ μ1) (h2 : CF μ1 μ2) : CF μ μ2 := fun q hq => (h2 q hq).trans (h q hq)
theorem MF.tr {μ μ1 μ2 : Mm} (h : MF μ μ1) (h2 : MF μ1 μ2) : MF μ μ2 := fun q hq => (h2 q hq).trans (h q hq)
theorem CF.set {μ μ1 : Mm} {c o k : Nat} {j : Fin 15} {v : Int32} (h : CF μ μ1) (hc : c < 2 := by decide) : CF μ (mset μ1 (c, j, o) k v) := fun q hq => by
  rw [mset_ne (fun e => by rw [e] at hq; exact absurd hq (by simp only; omega))]
  exact h q hq
theorem MF.set {μ μ1 : Mm} {o k : Nat} {j : Fin 15} {v : Int32} (h : MF μ μ1) : MF μ (mset μ1 (2, j, o) k v) := fun q hq => by
  rw [mset_ne (fun e => hq (by rw [e]))]
  exact h q hq
theorem FCo.cf {j : Fin 15} {μ μ1 : Mm} (h : FCo j μ μ1) : CF μ μ1 := fun q hq => h q (fun x => by omega)
theorem MK.rf {μ' : Mm} : MK μ' μ' := ⟨fun _ _ => rfl, fun _ _ => rfl, fun _ _ => rfl⟩
theorem MK.tr {μ μ1 μ2 : Mm} (h : MK μ μ1) (h2 : MK μ1 μ2) : MK μ μ2 := ⟨fun i hi => (h2.1 i hi).trans (h.1 i hi), fun o ho => (h2.2.1 o ho).trans (h.2.1 o ho), fun k hk => (h2.2.2 k hk).trans (h.2.2 k hk)⟩
theorem MK.fld {μ μ1 : Mm} {k : Nat} {v : Int32} (h : MK μ μ1) (hk : k ≠ 4 ∧ k ≠ 12 ∧ k ≠ 17 ∧ k ≠ 18) : MK μ (mset μ1 (2, 0, 0) k v) :=
  ⟨fun i hi => by rw [mset_ne (by decide)]; exact h.1 i hi, fun o ho => by rw [mset_ne (by simp; omega)]; exact h.2.1 o ho, fun k' hk' => by rw [mset_gk (by omega)]; exact h.2.2 k' hk'⟩
theorem MK.set {μ μ1 : Mm} {i : Nat} {v : Int32} (h : MK μ μ1) (hi : i < 426) : MK μ (mset μ1 (2, 0, 1) i v) :=
  ⟨fun i' hi' => by rw [mset_gk (by omega)]; exact h.1 i' hi', fun o ho => by rw [mset_ne (by simp; omega)]; exact h.2.1 o ho, fun k' hk' => by rw [mset_ne (by decide)]; exact h.2.2 k' hk'⟩
theorem FMo.mk {c : Nat} {μ' μ1' : Mm} (h : FMo c μ' μ1') : MK μ' μ1' := ⟨h.2.1, fun o ho => h.1 _ (by simp; omega) (by simp; omega), fun k hk => h.2.2.1 k (by omega) (by omega)⟩
theorem FMo.mf {c : Nat} {μ' μ1' : Mm} (h : FMo c μ' μ1') : MF μ' μ1' := fun q hq => h.1 q (fun e => hq (by rw [e])) (fun e => hq (by rw [e]))
section HI
variable {L : Nat} {S : Ad → Nat → Int32} {d n q w t s T T1 : Nat} {z : Int32} {i j j1 : Fin 15} {b b1 : Bool} {μ μ' μ1 μ1' μ2 : Mm}
theorem HiR.fr (h : HiR T μ μ') (hT : T ≤ T1) (hc : ∀ q, CK q → μ1 q = μ q) (hm : MK μ' μ1') : HiR T1 μ1 μ1' := by
  obtain ⟨hd, len, h1, h2, h3, h4, h5, h6⟩ := h
  refine ⟨hd, len, h1, h2, by rw [hc _ (Or.inr (Or.inl rfl))]; exact h3, by rw [hc _ (Or.inr (Or.inl rfl))]; exact h4, by rw [hm.2.2 4 (by omega)]; exact h5, fun k hk => ?_⟩
  refine ((h6 k hk).fr (fun o => hc _ (Or.inl ⟨rfl, ?_⟩)) (fun i hi => ?_)).le hT
  · show 3 ≤ (rg _).val
    rw [rg_val (Nat.mod_lt _ (by decide))]
    omega
  · rw [vw_at hi, vw_at hi, hm.2.1 2 (by omega)]
theorem ImR.fr (h : ImR T μ μ') (hT : T ≤ T1) (hc : ∀ q, CK q → μ1 q = μ q) (hm : MK μ' μ1') : ImR T1 μ1 μ1' := by
  obtain ⟨m, h1, h2, h3⟩ := h
  refine ⟨m, h1, by rw [hc _ (Or.inr (Or.inl rfl))]; exact h2, fun i hi => ⟨by rw [hm.2.1 4 (by omega)]; exact (h3 i hi).1, fun hb => ?_⟩⟩
  refine (((h3 i hi).2 hb).fr (fun o => hc _ (Or.inl ⟨rfl, ?_⟩)) (fun k hk => ?_)).le hT
  · show 3 ≤ (im _).val
    rw [im_val hi]
    omega
  · rw [vw_at hk, vw_at hk, hm.1 _ (by omega)]
theorem TaR.fr (h : TaR μ μ') (hc : ∀ q, CK q → μ1 q = μ q) (hm : MK μ' μ1') : TaR μ1 μ1' := by
  obtain ⟨len, h1, h2, h3, h4⟩ := h
  refine ⟨len, h1, by rw [hc _ (Or.inr (Or.inr (Or.inl rfl)))]; exact h2, by rw [hm.2.2 12 (by omega)]; exact h3, fun k hk => ?_⟩
  rw [hc _ (Or.inr (Or.inr (Or.inr (Or.inl rfl)))), hm.2.1 8 (by omega)]
  exact h4 k hk
theorem FlR.fr (h : FlR μ μ') (hc : ∀ q, CK q → μ1 q = μ q) (hm : MK μ' μ1') : FlR μ1 μ1' := by
  unfold FlR
  rw [hc _ (Or.inr (Or.inr (Or.inr (Or.inr rfl)))), hm.2.2 17 (by omega), hm.2.2 18 (by omega)]
  exact h
theorem CoR.fr (h : CoR μ') (hm : MK μ' μ1') : CoR μ1' := fun k hk => by
  rw [hm.2.1 5 (by omega), hm.2.1 6 (by omega)]
  exact h k hk
theorem Inv.fr (h : Inv T μ μ') (hb : Bk T1 0 μ1 μ1') (hT : T ≤ T1) (hc : ∀ q, CK q → μ1 q = μ q) (hm : MK μ' μ1') : Inv T1 μ1 μ1' :=
  ⟨hb, h.2.1.fr hT hc hm, h.2.2.1.fr hT hc hm, h.2.2.2.1.fr hc hm, h.2.2.2.2.1.fr hc hm, h.2.2.2.2.2.fr hm⟩
theorem FCo.ck (h : FCo 0 μ μ1) : ∀ q, CK q → μ1 q = μ q := fun q hq => h q (fun x => by
  rcases hq with y | rfl | rfl | rfl | rfl
  · have := y.2
    rw [x.2, f0v] at this
    omega
  · exact absurd x.1 (by decide)
  · exact absurd x.1 (by decide)
  · exact absurd x.1 (by decide)
  · exact absurd x.1 (by decide))
/-- a bank kept elsewhere -/
theorem p_copy (h : Bk T i μ μ') (hij : i ≠ j) : ∃ μ1, Ev (fun F => run L S F (d + 1) 35 0 [some (vR (1, j, 0)), some (vR (1, i, 0))] μ) (0, μ1) ∧ FCo j μ μ1 ∧ ∀ μ1', (∀ k, k < 426 → μ1' (2, 0, 1) k = μ' (2, 0, 1) k) → Bk T j μ1 μ1' := by
  obtain ⟨n, q, w, t, s, h1, h2, h3, h4⟩ := h
  have hq : q ≤ 16 := Nat.le_trans h1.1.qu.2.1 h1.1.hn.2.2.2
  obtain ⟨μ1, a1, a2, a3⟩ := s_copy (L := L) (S := S) (d := d) (μ := μ) (w := w) (q := q) hij (h1.1.w5 rfl) (by omega) ((h1.1.lc 21 0 4 rfl (by omega)).trans h1.1.qu.1) hq
  refine ⟨μ1, a1, a3, fun μ1' hm => ⟨n, q, w, t, s, h1.cp a2 hm (fun x => by cases x), h2, h3, ?_⟩⟩
  unfold LG at h4 ⊢
  rw [hm 15 (by omega), a2 24 2 (by unfold CPl; omega)]
  exact h4
def sh5 (μ : Mm) (k : Nat) : Mm := fun q i => if q = (2, 0, 2) ∧ k ≤ i ∧ i < 3834 then μ (2, 0, 2) (426 + i) else μ q i
theorem sh5_step {k : Nat} (h : k < 3834) : sh5 (mset μ (2, 0, 2) k (μ (2, 0, 2) (426 + k))) (k + 1) = sh5 μ k := by
  funext q i
  unfold sh5
  by_cases c : q = (2, 0, 2)
  · subst c
    by_cases c1 : k + 1 ≤ i ∧ i < 3834
    · rw [if_pos ⟨rfl, c1⟩, if_pos ⟨rfl, by omega⟩, mset_gk (by omega)]
    · rw [if_neg (fun x => c1 x.2), mset_g]
      by_cases c2 : i = k
      · subst c2
        rw [if_pos ⟨rfl, rfl⟩, if_pos ⟨rfl, by omega⟩]
      · rw [if_neg (fun x => c2 x.2), if_neg (by omega)]
  · rw [if_neg (fun x => c x.1), if_neg (fun x => c x.1), mset_ne c]
theorem m426 : ∀ k, k < 11 → (426 : Int32) * nI k = nI (426 * k) := by decide
theorem m_shift : ∀ (m k : Nat) (μ : Mm) (v : Rz), k + m = 3834 → Ev (fun F => run L S F (d + 1) 130 11 [some (vR (2, 0, 0)), some (vI (nI 3834))] (sh5 μ k)) v → Ev (fun F => run L S F (d + 1) 130 11 [some (vR (2, 0, 0)), some (vI (nI k))] μ) v := by
  intro m
  induction m with
  | zero =>
    intro k μ v hk h
    have hk : k = 3834 := by omega
    subst hk
    have e : sh5 μ 3834 = μ := by
      funext q i
      unfold sh5
      rw [if_neg (by omega)]
    rwa [e] at h
  | succ m ih =>
    intro k μ v hk h
    refine Ev.step ?_
    simp only [e130_11]
    simp only [if_pos (show nI k < (3834 : Int32) from nI_lt (b := 3834) (by omega) (by decide)), show (426 : Int32) + nI k = nI (426 + k) from by (rw [← nI_add]; rfl), inb_n (show 426 + k < 4260 by omega) (by decide), inb_n (show k < 4260 by omega) (by decide), cond_true, nI_clamp (show 426 + k < 2 ^ 31 by omega), nI_clamp (show k < 2 ^ 31 by omega), nI_1]
    refine ih (k + 1) _ v (by omega) ?_
    rw [sh5_step (by omega)]
    exact h
/-- keep and notes -/
theorem p_keep (h : Inv T μ μ') : ∃ μ1 μ1', Ev (fun F => run L S F (d + 2) 63 0 [some (vR (0, 0, 4)), some (vR (1, 0, 0))] μ) (0, μ1) ∧ Ev (fun F => run L S F (d + 1) 130 0 [some (vR (2, 0, 0)), none] μ') (0, μ1') ∧ Inv T μ1 μ1' ∧
    (∀ q : Ad, ¬ (q.1 = 1 ∧ 3 ≤ q.2.1.val) → q ≠ (0, 0, 4) → μ1 q = μ q) ∧ (∀ q : Ad, q ≠ (2, 0, 2) → q ≠ (2, 0, 0) → μ1' q = μ' q) ∧ ∀ k, k ≠ 4 → μ1' (2, 0, 0) k = μ' (2, 0, 0) k := by
  obtain ⟨hB, ⟨hd, len, h1, h2, h3, h4, h5, h6⟩, hI, hT, hF, hC⟩ := h
  have v0 : (0 : Fin 15) ≠ rg hd := fun e => by
    have := congrArg Fin.val e
    rw [rg_val h1, f0v] at this
    omega
  obtain ⟨ν, a1, a2, a3⟩ := p_copy (L := L) (S := S) (d := d) hB v0
  have rv : ∀ h, (rg (h % 10)).val = 3 + h % 10 := fun h => rg_val (Nat.mod_lt _ (by decide))
  -- the class
  have k2 : ν (0, 0, 4) 2 = nI hd := (congrFun (a2 (0, 0, 4) (fun x => absurd x.1 (by decide))) 2).trans h3
  have k3 : ν (0, 0, 4) 3 = nI len := (congrFun (a2 (0, 0, 4) (fun x => absurd x.1 (by decide))) 3).trans h4
  have k4 : ν (0, 0, 4) 4 = μ (0, 0, 4) 4 := congrFun (a2 (0, 0, 4) (fun x => absurd x.1 (by decide))) 4
  have cls : Ev (fun F => run L S F (d + 2) 63 0 [some (vR (0, 0, 4)), some (vR (1, 0, 0))] μ) (0, mset (mset ν (0, 0, 4) 2 (nI ((hd + 1) % 10))) (0, 0, 4) 3 (nI (min 10 (len + 1)))) := by
    refine Ev.step ?_
    simp only [e63_0]
    simp only [h3, inb_n (show hd < 10 by omega) (by decide), cond_true, nI_clamp (show hd < 2 ^ 31 by omega)]
    refine Ev.bind a1 ?_
    have hm : mmin 10 (nI (len + 1)) = nI (min 10 (len + 1)) := by
      unfold mmin
      by_cases c : len + 1 < 10
      · rw [if_pos (show nI (len + 1) < (10 : Int32) from nI_lt (b := 10) c (by decide)), Nat.min_eq_right (by omega)]
      · rw [if_neg (show ¬ nI (len + 1) < (10 : Int32) from nI_nlt (b := 10) (by omega) (by omega)), Nat.min_eq_left (by omega)]
        rfl
    have hr : nI (hd + 1) - nI (hd + 1) / 10 * 10 = nI ((hd + 1) % 10) := pk_rem (d := 10) (by omega) (by decide) (by decide)
    simp only [k2, nI_1, hr, mset_gk (show (3 : Nat) ≠ 2 by decide), k3, hm]
    exact Ev.ret
  have frC : ∀ q : Ad, ¬ (q.1 = 1 ∧ 3 ≤ q.2.1.val) → q ≠ (0, 0, 4) → mset (mset ν (0, 0, 4) 2 (nI ((hd + 1) % 10))) (0, 0, 4) 3 (nI (min 10 (len + 1))) q = μ q := fun q hq hq4 => by
    rw [mset_ne hq4, mset_ne hq4]
    exact a2 q (fun x => hq ⟨x.1, by rw [x.2, rg_val h1]; omega⟩)
  have frB : ∀ j1 o, j1 ≠ rg hd → mset (mset ν (0, 0, 4) 2 (nI ((hd + 1) % 10))) (0, 0, 4) 3 (nI (min 10 (len + 1))) (1, j1, o) = μ (1, j1, o) := fun j1 o hj => by
    rw [mset_ne (by simp), mset_ne (by simp)]
    exact a2 _ (fun x => hj x.2)
  have newB : ∀ μ1', (∀ k, k < 426 → μ1' (2, 0, 1) k = μ' (2, 0, 1) k) → Bk T (rg hd) (mset (mset ν (0, 0, 4) 2 (nI ((hd + 1) % 10))) (0, 0, 4) 3 (nI (min 10 (len + 1)))) μ1' := fun μ1' hm =>
    (a3 μ1' hm).fr (fun o => by rw [mset_ne (by simp), mset_ne (by simp)]) (fun _ _ => rfl)
  have n2 : mset (mset ν (0, 0, 4) 2 (nI ((hd + 1) % 10))) (0, 0, 4) 3 (nI (min 10 (len + 1))) (0, 0, 4) 2 = nI ((hd + 1) % 10) := by rw [mset_gk (by decide), mset_gg]
  have n3 : mset (mset ν (0, 0, 4) 2 (nI ((hd + 1) % 10))) (0, 0, 4) 3 (nI (min 10 (len + 1))) (0, 0, 4) 3 = nI (min 10 (len + 1)) := mset_gg
  have n4 : mset (mset ν (0, 0, 4) 2 (nI ((hd + 1) % 10))) (0, 0, 4) 3 (nI (min 10 (len + 1))) (0, 0, 4) 4 = μ (0, 0, 4) 4 := by rw [mset_gk (by decide), mset_gk (by decide), k4]
  generalize mset (mset ν (0, 0, 4) 2 (nI ((hd + 1) % 10))) (0, 0, 4) 3 (nI (min 10 (len + 1))) = μ1 at cls frC frB newB n2 n3 n4
  -- the rest of it
  have rest : ∀ μ1' : Mm, (∀ q : Ad, q ≠ (2, 0, 2) → q ≠ (2, 0, 0) → μ1' q = μ' q) → (∀ k, k ≠ 4 → μ1' (2, 0, 0) k = μ' (2, 0, 0) k) → HiR T μ1 μ1' → Inv T μ1 μ1' := fun μ1' f1 f2 hH => by
    refine ⟨hB.fr (fun o => frC _ (fun x => by have := x.2; rw [f0v] at this; omega) (by simp)) (fun i _ => by rw [f1 _ (by decide) (by decide)]), hH, ?_, ?_, ?_, ?_⟩
    · obtain ⟨m, m1, m2, m3⟩ := hI
      refine ⟨m, m1, n4.trans m2, fun i hi => ⟨by rw [f1 _ (by decide) (by decide)]; exact (m3 i hi).1, fun hb => ((m3 i hi).2 hb).fr (fun o => frB _ o (fun e => ?_)) (fun k hk => ?_)⟩⟩
      · have := congrArg Fin.val e
        rw [im_val hi, rg_val h1] at this
        omega
      · rw [vw_at hk, vw_at hk, f1 _ (by decide) (by decide)]
    · obtain ⟨l1, l2, l3, l4, l5⟩ := hT
      refine ⟨l1, l2, by rw [frC _ (by decide) (by decide)]; exact l3, by rw [f2 12 (by decide)]; exact l4, fun k hk => ?_⟩
      rw [frC _ (by decide) (by decide), f1 _ (by decide) (by decide)]
      exact l5 k hk
    · unfold FlR
      rw [frC _ (by decide) (by decide), f2 17 (by decide), f2 18 (by decide)]
      exact hF
    · intro k hk
      rw [f1 _ (by decide) (by decide), f1 _ (by decide) (by decide)]
      exact hC k hk
  by_cases c : len = 10
  · subst c
    have ref : Ev (fun F => run L S F (d + 1) 130 0 [some (vR (2, 0, 0)), none] μ') (0, mset (cpr (mset (sh5 μ' 0) (2, 0, 0) 4 (nI 9)) (2, 0, 1) 0 (2, 0, 2) (426 * 9) 0) (2, 0, 0) 4 (nI 10)) := by
      refine Ev.step ?_
      simp only [e130_0]
      simp only [h5, show (nI 10 = (10 : Int32)) from rfl, if_true]
      refine m_shift 3834 0 μ' _ rfl ?_
      refine Ev.step ?_
      simp only [e130_11]
      simp only [if_neg (show ¬ nI 3834 < (3834 : Int32) by decide), show sh5 μ' 0 (2, 0, 0) 4 = nI 10 from h5, mset_gg]
      rw [show nI 10 - 1 = nI 9 by decide, m426 9 (by decide)]
      refine Ev.bind (m_cp_deeds (by decide)) ?_
      dsimp only
      rw [cpr_ne (by decide), mset_gg, show nI 9 + 1 = nI 10 by decide]
      exact Ev.ret
    have f1 : ∀ q : Ad, q ≠ (2, 0, 2) → q ≠ (2, 0, 0) → mset (cpr (mset (sh5 μ' 0) (2, 0, 0) 4 (nI 9)) (2, 0, 1) 0 (2, 0, 2) (426 * 9) 0) (2, 0, 0) 4 (nI 10) q = μ' q := fun q x y => by
      rw [mset_ne y]
      funext i
      rw [cpr_ne x, mset_ne y]
      unfold sh5
      rw [if_neg (fun e => x e.1)]
    have f2 : ∀ k, k ≠ 4 → mset (cpr (mset (sh5 μ' 0) (2, 0, 0) 4 (nI 9)) (2, 0, 1) 0 (2, 0, 2) (426 * 9) 0) (2, 0, 0) 4 (nI 10) (2, 0, 0) k = μ' (2, 0, 0) k := fun k x => by
      rw [mset_gk x, cpr_ne (by decide), mset_gk x]
      unfold sh5
      rw [if_neg (fun e => absurd e.1 (by decide))]
    have g9 : ∀ k, k < 426 → mset (cpr (mset (sh5 μ' 0) (2, 0, 0) 4 (nI 9)) (2, 0, 1) 0 (2, 0, 2) (426 * 9) 0) (2, 0, 0) 4 (nI 10) (2, 0, 2) (426 * 9 + k) = μ' (2, 0, 1) k := fun k hk => by
      rw [mset_ne (by decide), cpr_in hk, mset_ne (by decide), Nat.zero_add]
      unfold sh5
      rw [if_neg (fun e => absurd e.1 (by decide))]
    have gk : ∀ k i, k < 9 → i < 426 → mset (cpr (mset (sh5 μ' 0) (2, 0, 0) 4 (nI 9)) (2, 0, 1) 0 (2, 0, 2) (426 * 9) 0) (2, 0, 0) 4 (nI 10) (2, 0, 2) (426 * k + i) = μ' (2, 0, 2) (426 * (k + 1) + i) := fun k i hk hi => by
      rw [mset_ne (by decide), cpr_out (by omega), mset_ne (by decide)]
      unfold sh5
      rw [if_pos ⟨rfl, by omega, by omega⟩, show 426 + (426 * k + i) = 426 * (k + 1) + i by omega]
    have g4 : mset (cpr (mset (sh5 μ' 0) (2, 0, 0) 4 (nI 9)) (2, 0, 1) 0 (2, 0, 2) (426 * 9) 0) (2, 0, 0) 4 (nI 10) (2, 0, 0) 4 = nI 10 := mset_gg
    generalize mset (cpr (mset (sh5 μ' 0) (2, 0, 0) 4 (nI 9)) (2, 0, 1) 0 (2, 0, 2) (426 * 9) 0) (2, 0, 0) 4 (nI 10) = μ1' at ref f1 f2 g9 gk g4
    refine ⟨μ1, μ1', cls, ref, rest μ1' f1 f2 ⟨(hd + 1) % 10, 10, Nat.mod_lt _ (by decide), by decide, n2, n3, g4, fun k hk => ?_⟩, frC, f1, f2⟩
    by_cases c9 : k = 9
    · subst c9
      rw [show ((hd + 1) % 10 + 10 - 10 + 9) % 10 = hd by omega]
      exact newB _ (fun i hi => by rw [vw_at hi]; exact g9 i hi)
    · have := h6 (k + 1) (by omega)
      rw [show (hd + 10 - 10 + (k + 1)) % 10 = ((hd + 1) % 10 + 10 - 10 + k) % 10 by omega] at this
      refine this.fr (fun o => frB _ o (rg_ne (Nat.mod_lt _ (by decide)) h1 (by omega))) (fun i hi => ?_)
      rw [vw_at hi, vw_at hi, gk k i (by omega) hi]
  · have hl : len < 10 := by omega
    have ref : Ev (fun F => run L S F (d + 1) 130 0 [some (vR (2, 0, 0)), none] μ') (0, mset (cpr μ' (2, 0, 1) 0 (2, 0, 2) (426 * len) 0) (2, 0, 0) 4 (nI (len + 1))) := by
      refine Ev.step ?_
      simp only [e130_0]
      simp only [h5, if_neg (show ¬ nI len = (10 : Int32) from fun e => c (nI_inj (b := 10) (by omega) (by decide) e)), m426 len (by omega)]
      refine Ev.bind (m_cp_deeds hl) ?_
      dsimp only
      rw [cpr_ne (by decide), h5, nI_1]
      exact Ev.ret
    have f1 : ∀ q : Ad, q ≠ (2, 0, 2) → q ≠ (2, 0, 0) → mset (cpr μ' (2, 0, 1) 0 (2, 0, 2) (426 * len) 0) (2, 0, 0) 4 (nI (len + 1)) q = μ' q := fun q x y => by
      rw [mset_ne y]
      funext i
      exact cpr_ne x
    have f2 : ∀ k, k ≠ 4 → mset (cpr μ' (2, 0, 1) 0 (2, 0, 2) (426 * len) 0) (2, 0, 0) 4 (nI (len + 1)) (2, 0, 0) k = μ' (2, 0, 0) k := fun k x => by
      rw [mset_gk x, cpr_ne (by decide)]
    have g9 : ∀ k, k < 426 → mset (cpr μ' (2, 0, 1) 0 (2, 0, 2) (426 * len) 0) (2, 0, 0) 4 (nI (len + 1)) (2, 0, 2) (426 * len + k) = μ' (2, 0, 1) k := fun k hk => by
      rw [mset_ne (by decide), cpr_in hk, Nat.zero_add]
    have gk : ∀ i, i < 426 * len → mset (cpr μ' (2, 0, 1) 0 (2, 0, 2) (426 * len) 0) (2, 0, 0) 4 (nI (len + 1)) (2, 0, 2) i = μ' (2, 0, 2) i := fun i hi => by
      rw [mset_ne (by decide), cpr_out (by omega)]
    have g4 : mset (cpr μ' (2, 0, 1) 0 (2, 0, 2) (426 * len) 0) (2, 0, 0) 4 (nI (len + 1)) (2, 0, 0) 4 = nI (len + 1) := mset_gg
    generalize mset (cpr μ' (2, 0, 1) 0 (2, 0, 2) (426 * len) 0) (2, 0, 0) 4 (nI (len + 1)) = μ1' at ref f1 f2 g9 gk g4
    rw [Nat.min_eq_right (by omega)] at n3
    refine ⟨μ1, μ1', cls, ref, rest μ1' f1 f2 ⟨(hd + 1) % 10, len + 1, Nat.mod_lt _ (by decide), by omega, n2, n3, g4, fun k hk => ?_⟩, frC, f1, f2⟩
    by_cases c9 : k = len
    · subst c9
      rw [show ((hd + 1) % 10 + 10 - (k + 1) + k) % 10 = hd by omega]
      exact newB _ (fun i hi => by rw [vw_at hi]; exact g9 i hi)
    · have := h6 k (by omega)
      rw [show (hd + 10 - len + k) % 10 = ((hd + 1) % 10 + 10 - (len + 1) + k) % 10 by omega] at this
      refine this.fr (fun o => frB _ o (rg_ne (Nat.mod_lt _ (by decide)) h1 (by omega))) (fun i hi => ?_)
      rw [vw_at hi, vw_at hi, gk (426 * k + i) (by omega)]
end HI
