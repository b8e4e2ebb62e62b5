/-! parts of a pattern, on both sides -/
def SJ (sz n : Nat) (B : Nat → Nat) (op p r : Nat) (μ ν : Mm) : Prop := TB sz B μ ν ∧ RDr n r μ ν ∧ ν (2, 0, 0) 13 = nI sz ∧ ν (2, 0, 0) 14 = nI p ∧ ν (2, 0, 0) 15 = 0 ∧ ν (2, 0, 0) 16 = μ (0, 0, 9) 5 ∧ ν (2, 0, 1) 0 = nI n ∧ μ (0, 0, 9) 4 = 0 ∧ μ (0, 0, 9) 6 = nI op ∧ μ (0, 0, 9) 7 = 0 ∧ μ (0, 0, 9) 9 = 0
def FRc (μ μ1 : Mm) : Prop := ∀ q : Ad, q ≠ (0, 0, 9) → q ≠ (0, 0, 10) → q ≠ (0, 0, 11) → q ≠ (0, 0, 12) → μ1 q = μ q
def FRm (ν ν1 : Mm) : Prop := (∀ k, k ≠ 14 → k ≠ 15 → k ≠ 16 → k ≠ 20 → ν1 (2, 0, 0) k = ν (2, 0, 0) k) ∧ ∀ q : Ad, q ≠ (2, 0, 0) → q ≠ (2, 0, 9) → ν1 q = ν q
def KS (op : Nat) (μ μ1 : Mm) : Prop := ∀ i, i < op → μ1 (0, 0, 11) i = μ (0, 0, 11) i ∧ μ1 (0, 0, 12) i = μ (0, 0, 12) i
def FOu (L : Nat) (S : Ad → Nat → Int32) (d sz n p : Nat) (μ ν ν2 : Mm) : Prop := ∃ μ2, Ev (fun F => run L S F (d + 4) 70 37 [some (vR (0, 0, 9)), some (vR (0, 0, 8)), some (vI (nI sz)), some (vI (nI n)), some (vI (nI p))] μ) (0, μ2) ∧ μ2 (0, 0, 9) 4 = ν2 (2, 0, 0) 15 ∧ μ2 (0, 0, 9) 5 = ν2 (2, 0, 0) 16 ∧ ¬ ν2 (2, 0, 0) 15 = 0 ∧ FRc μ μ2 ∧ FRm ν ν2
def GOu (L : Nat) (S : Ad → Nat → Int32) (d sz n : Nat) (B : Nat → Nat) (op p r : Nat) (μ ν ν2 : Mm) (p2 : Nat) : Prop := ∃ r2 μ2, p < p2 ∧ p2 ≤ sz ∧ SJ sz n B op p2 r2 μ2 ν2 ∧ r ≤ r2 ∧ μ2 (0, 0, 9) 10 = 1 ∧ CL L S d sz n p μ p2 μ2 ∧ KS op μ μ2 ∧ FRc μ μ2 ∧ FRm ν ν2
def PtS (L : Nat) (S : Ad → Nat → Int32) (d sz n : Nat) (B : Nat → Nat) (e op : Nat) : Prop := ∀ (p r : Nat) (μ ν : Mm), p ≤ sz → SJ sz n B op p r μ ν → (μ (0, 0, 9) 10 = 0 ∨ (p < sz ∧ B p ≠ 41)) → ∃ ν2, Ev (fun F => run L S F e 176 0 [some (vR (2, 0, 0)), some (vI (nI op)), none, none, none, none, none, none] ν) (0, ν2) ∧ (FOu L S d sz n p μ ν ν2 ∨ ∃ p2, GOu L S d sz n B op p r μ ν ν2 p2)
def LsS (L : Nat) (S : Ad → Nat → Int32) (d sz n : Nat) (B : Nat → Nat) (e op : Nat) : Prop := ∀ (p r : Nat) (μ ν : Mm), p ≤ sz → SJ sz n B op p r μ ν → μ (0, 0, 9) 10 = 0 → ∃ ν2, Ev (fun F => run L S F e 177 0 [some (vR (2, 0, 0)), some (vI (nI op))] ν) (0, ν2) ∧ (FOu L S d sz n p μ ν ν2 ∨ ∃ p2, GOu L S d sz n B op p r μ ν ν2 p2 ∧ (p2 = sz ∨ (p2 < sz ∧ B p2 = 41)))
section PT
variable {L : Nat} {S : Ad → Nat → Int32} {d e n q w m t s T T1 l c r p k sz op : Nat} {B : Nat → Nat} {z x : Int32} {μ μ' μ1 μ1' μ2 : Mm} {a1 a2 a3 a4 a5 : Int32} {ν ν0 ν1 ν2 κ : Mm}
theorem FRc.rf : FRc μ μ := fun _ _ _ _ _ => rfl
theorem FRc.tr (h : FRc μ μ1) (h2 : FRc μ1 μ2) : FRc μ μ2 := fun q a b c e => (h2 q a b c e).trans (h q a b c e)
theorem FRm.rf : FRm ν ν := ⟨fun _ _ _ _ _ => rfl, fun _ _ _ => rfl⟩
theorem FRm.tr (h : FRm ν ν1) (h2 : FRm ν1 ν2) : FRm ν ν2 := ⟨fun k a b c e => (h2.1 k a b c e).trans (h.1 k a b c e), fun q a b => (h2.2 q a b).trans (h.2 q a b)⟩
theorem KS.rf : KS op μ μ := fun _ _ => ⟨rfl, rfl⟩
theorem KS.tr (h : KS op μ μ1) (h2 : KS op μ1 μ2) : KS op μ μ2 := fun i hi => ⟨(h2 i hi).1.trans (h i hi).1, (h2 i hi).2.trans (h i hi).2⟩
theorem FRc.f {k : Nat} {v : Int32} (h : FRc μ μ1) : FRc μ (mset μ1 (0, 0, 9) k v) := fun q a b c e => by rw [mset_ne a]; exact h q a b c e
theorem KS.f {k : Nat} {v : Int32} (h : KS op μ μ1) : KS op μ (mset μ1 (0, 0, 9) k v) := fun i hi => by rw [mset_ne (by decide), mset_ne (by decide)]; exact h i hi
theorem A9.fr (h : A9 μ μ1) : FRc μ μ1 := fun q a b _ _ => h.2 q a b
theorem A9.ks (h : A9 μ μ1) : KS op μ μ1 := fun i _ => ⟨by rw [h.2 _ (by decide) (by decide)], by rw [h.2 _ (by decide) (by decide)]⟩
theorem A20.fr (h : A20 ν ν1) : FRm ν ν1 := ⟨fun k _ _ _ a => h.1 k a, h.2⟩
theorem FRm.f {k : Nat} {v : Int32} (h : FRm ν ν1) (hk : k = 14 ∨ k = 15 ∨ k = 16 ∨ k = 20) : FRm ν (mset ν1 (2, 0, 0) k v) := ⟨fun i a b c e => by rw [mset_gk (by omega)]; exact h.1 i a b c e, fun q a b => by rw [mset_ne a]; exact h.2 q a b⟩
theorem NumC.fr {v : Nat} (h : NumC p k v μ μ2) : FRc μ μ2 := fun q a _ _ _ => h.2.2.2.2.2 q a
theorem NumC.ks {v : Nat} (h : NumC p k v μ μ2) : KS op μ μ2 := fun i _ => ⟨by rw [h.2.2.2.2.2 _ (by decide)], by rw [h.2.2.2.2.2 _ (by decide)]⟩
theorem TB.fr (h : TB sz B μ ν) (h1 : FRc μ μ1) (h2 : FRm ν ν1) : TB sz B μ1 ν1 := ⟨h.1, fun i hi => by rw [h1 _ (by decide) (by decide) (by decide) (by decide), h2.2 _ (by decide) (by decide)]; exact h.2 i hi⟩
theorem RDr.fr (h : RDr n r μ ν) (h1 : μ1 (0, 0, 9) 3 = μ (0, 0, 9) 3) (h2 : μ1 (0, 0, 9) 11 = μ (0, 0, 9) 11) (h3 : μ1 (0, 0, 10) = μ (0, 0, 10)) (h4 : ν1 (2, 0, 0) 20 = ν (2, 0, 0) 20) (h5 : ν1 (2, 0, 9) = ν (2, 0, 9)) : RDr n r μ1 ν1 := ⟨h.1, h4.trans h.2.1, h1.trans h.2.2.1, h2.trans h.2.2.2.1, fun k a b => by rw [h3, h5]; exact h.2.2.2.2 k a b⟩
theorem FOu.cl {p2 : Nat} (h : FOu L S d sz n p2 μ1 ν1 ν2) (hc : CL L S d sz n p μ p2 μ1) (h1 : FRc μ μ1) (h2 : FRm ν ν1) : FOu L S d sz n p μ ν ν2 := by
  obtain ⟨μ2, a1, a2, a3, a4, a5, a6⟩ := h
  exact ⟨μ2, hc _ a1, a2, a3, a4, h1.tr a5, h2.tr a6⟩
theorem rep_wrong {x2 x4 x5 x6 : Int32} (h : ¬ ν (2, 0, 0) 15 = 0) : Ev (fun F => run L S F (d + 1) 176 182 [some (vR (2, 0, 0)), none, some (vI x2), none, some (vI x4), some (vI x5), some (vI x6), none] ν) (0, ν) := by
  refine Ev.step ?_
  simp only [e176_182, h, if_false, ite_self]
  exact Ev.ret
/-- a fault at a sign, or at the end -/
theorem c_fault {K A : Int32} (ht : TB sz B μ ν) (h4 : μ (0, 0, 9) 4 = 0) (hq : q ≤ sz) (hd : ¬ dig sz B q) (hK : ¬ K = 0) (h1 : q < sz → Ev (fun F => run L S F (d + 3) 75 0 [some (vR (0, 0, 9)), some (vI (nI (B q))), some (vI (nI q)), some (vI (nI n))] μ) (0, mset (mset μ (0, 0, 9) 4 K) (0, 0, 9) 5 A)) (h2 : q = sz → Ev (fun F => run L S F (d + 3) 76 0 [some (vR (0, 0, 9)), some (vI (nI sz))] μ) (0, mset (mset μ (0, 0, 9) 4 K) (0, 0, 9) 5 A)) : Ev (fun F => run L S F (d + 4) 70 37 [some (vR (0, 0, 9)), some (vR (0, 0, 8)), some (vI (nI sz)), some (vI (nI n)), some (vI (nI q))] μ) (0, mset (mset μ (0, 0, 9) 4 K) (0, 0, 9) 5 A) := by
  have hz := ht.1
  by_cases c : q < sz
  · refine c_sign ht h4 c hd (h1 c) _ (c_stop ?_)
    rw [mset_gk (by decide), mset_gg]
    exact hK
  · have e : q = sz := by omega
    subst e
    exact c_end h4 (by omega) (h2 rfl)
theorem c_71 {K A : Int32} : Ev (fun F => run L S F d 71 0 [some (vR (0, 0, 9)), some (vI K), some (vI A)] μ) (0, mset (mset μ (0, 0, 9) 4 K) (0, 0, 9) 5 A) := Ev.step (by
  simp only [e71_0]
  exact Ev.ret)
theorem m_173 {K A : Int32} (h : ν (2, 0, 0) 15 = 0) : Ev (fun F => run L S F d 173 0 [some (vR (2, 0, 0)), some (vI K), some (vI A)] ν) (0, mset (mset ν (2, 0, 0) 15 K) (2, 0, 0) 16 A) := Ev.step (by
  simp only [e173_0, h, if_true]
  exact Ev.ret)
theorem fo_mk {K A : Int32} {v : Nat} (hn : NumC p k v μ μ1) (hc : CL L S d sz n p μ q μ1) (he : Ev (fun F => run L S F (d + 4) 70 37 [some (vR (0, 0, 9)), some (vR (0, 0, 8)), some (vI (nI sz)), some (vI (nI n)), some (vI (nI q))] μ1) (0, mset (mset μ1 (0, 0, 9) 4 K) (0, 0, 9) 5 A)) (hK : ¬ K = 0) (h15 : ν2 (2, 0, 0) 15 = K) (h16 : ν2 (2, 0, 0) 16 = A) (hf : FRm ν ν2) : FOu L S d sz n p μ ν ν2 :=
  ⟨_, hc _ he, by rw [mset_gk (by decide), mset_gg, h15], by rw [mset_gg, h16], by rw [h15]; exact hK, hn.fr.f.f, hf⟩
/-- the class's sign when the number is good -/
theorem c_75 (h74 : Ev (fun F => run L S F (d + 2) 74 0 [some (vR (0, 0, 9))] μ) (0, μ)) {b : Nat} (hb : b < 256) (h : Ev (fun F => if 97 ≤ b ∧ b ≤ 112 then run L S F (d + 2) 77 0 [some (vR (0, 0, 9)), some (vI (nI (b - 97))), some (vI (nI q)), some (vI (nI n)), none, none] μ else if b = 40 then run L S F (d + 2) 78 0 [some (vR (0, 0, 9)), some (vI (nI q))] μ else if b = 41 then run L S F (d + 2) 79 0 [some (vR (0, 0, 9)), some (vI (nI q)), none, none, none] μ else run L S F (d + 2) 71 0 [some (vR (0, 0, 9)), some (vI 1), some (vI (nI q))] μ) (0, μ2)) : Ev (fun F => run L S F (d + 3) 75 0 [some (vR (0, 0, 9)), some (vI (nI b)), some (vI (nI q)), some (vI (nI n))] μ) (0, μ2) := by
  have e40 : (nI b = (40 : Int32)) ↔ b = 40 := nI_eq (b := 40) (by omega) (by decide)
  have e41 : (nI b = (41 : Int32)) ↔ b = 41 := nI_eq (b := 41) (by omega) (by decide)
  refine Ev.step ?_
  simp only [e75_0]
  refine Ev.bind h74 ?_
  simp only [if_true, e40, e41]
  by_cases c1 : b < 97
  · simp only [if_pos (show nI b < (97 : Int32) from nI_lt (b := 97) c1 (by decide))]
    simp only [if_neg (show ¬ (97 ≤ b ∧ b ≤ 112) by omega)] at h
    by_cases c2 : b = 40
    · simp only [if_pos c2] at h ⊢
      exact Ev.bind h Ev.ret
    · by_cases c3 : b = 41
      · simp only [if_neg c2, if_pos c3] at h ⊢
        exact Ev.bind h Ev.ret
      · simp only [if_neg c2, if_neg c3] at h ⊢
        exact Ev.bind h Ev.ret
  · simp only [if_neg (show ¬ nI b < (97 : Int32) from nI_nlt (b := 97) (by omega) (by omega))]
    by_cases c4 : 112 < b
    · simp only [if_pos (show (112 : Int32) < nI b from nI_lt (a := 112) c4 (by omega))]
      simp only [if_neg (show ¬ (97 ≤ b ∧ b ≤ 112) by omega), if_neg (show ¬ b = 40 by omega), if_neg (show ¬ b = 41 by omega)] at h ⊢
      exact Ev.bind h Ev.ret
    · simp only [if_neg (show ¬ (112 : Int32) < nI b from nI_nlt (a := 112) (by omega) (by decide))]
      simp only [if_pos (show 97 ≤ b ∧ b ≤ 112 by omega)] at h
      have e97 : nI b - 97 = nI (b - 97) := by
        obtain ⟨y, rfl⟩ : ∃ y, b = y + 97 := ⟨b - 97, by omega⟩
        rw [Nat.add_sub_cancel, ← nI_add, show (97 : Int32) = nI 97 from rfl]
        exact Int32.add_sub_cancel _ _
      simp only [e97]
      exact Ev.bind h Ev.ret
end PT
