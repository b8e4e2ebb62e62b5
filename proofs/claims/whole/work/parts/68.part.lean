/-! one part of a pattern, on both sides -/
def MDx (L : Nat) (S : Ad → Nat → Int32) (d sz n : Nat) (B : Nat → Nat) (op p q r t : Nat) (μ ν μ1 ν1 : Mm) : Prop := TB sz B μ1 ν1 ∧ RDr n r μ1 ν1 ∧ ν1 (2, 0, 0) 13 = nI sz ∧ ν1 (2, 0, 0) 14 = nI q ∧ ν1 (2, 0, 0) 15 = 0 ∧ ν1 (2, 0, 0) 16 = μ1 (0, 0, 9) 5 ∧ ν1 (2, 0, 1) 0 = nI n ∧ μ1 (0, 0, 9) 4 = 0 ∧ μ1 (0, 0, 9) 6 = nI op ∧ mmax 1 (μ1 (0, 0, 9) 9) = nI t ∧ 1 ≤ t ∧ t ≤ 48 ∧ p ≤ q ∧ q ≤ sz ∧ ¬ dig sz B q ∧ (∀ e, Ev (fun F => run L S F e 74 0 [some (vR (0, 0, 9))] μ1) (0, μ1)) ∧ CL L S d sz n p μ q μ1 ∧ FRc μ μ1 ∧ KS op μ μ1 ∧ FRm ν ν1 ∧ ∀ e, Ev (fun F => run L S F (e + 1) 175 0 [some (vR (2, 0, 0)), none, none] ν) (nI t, ν1)
section PQ
variable {L : Nat} {S : Ad → Nat → Int32} {d e n q w m t s T T1 l c r p k sz op : Nat} {B : Nat → Nat} {z x : Int32} {μ μ' μ1 μ1' μ2 : Mm} {a1 a2 a3 a4 a5 : Int32} {ν ν0 ν1 ν2 κ : Mm}
theorem nI_sub' {a b : Nat} (h : b ≤ a) : nI a - nI b = nI (a - b) := by
  obtain ⟨y, rfl⟩ : ∃ y, a = y + b := ⟨a - b, by omega⟩
  rw [Nat.add_sub_cancel, ← nI_add]
  exact Int32.add_sub_cancel _ _
theorem fo_mk2 {K A : Int32} (h : MDx L S d sz n B op p q r t μ ν μ1 ν1) (hK : ¬ K = 0) (h1 : q < sz → Ev (fun F => run L S F (d + 3) 75 0 [some (vR (0, 0, 9)), some (vI (nI (B q))), some (vI (nI q)), some (vI (nI n))] μ1) (0, mset (mset μ1 (0, 0, 9) 4 K) (0, 0, 9) 5 A)) (h2 : q = sz → Ev (fun F => run L S F (d + 3) 76 0 [some (vR (0, 0, 9)), some (vI (nI sz))] μ1) (0, mset (mset μ1 (0, 0, 9) 4 K) (0, 0, 9) 5 A)) (h15 : ν2 (2, 0, 0) 15 = K) (h16 : ν2 (2, 0, 0) 16 = A) (hf : FRm ν ν2) : FOu L S d sz n p μ ν ν2 := by
  obtain ⟨m1, m2, m3, m4, m5, m6, m7, m8, m9, m10, m11, m12, m13, m14, m15, m16, m17, m18, m19, m20, m21⟩ := h
  exact ⟨_, m17 _ (c_fault m1 m8 m14 m15 hK h1 h2), by rw [mset_gk (by decide), mset_gg, h15], by rw [mset_gg, h16], by rw [h15]; exact hK, m18.f.f, hf⟩
/-- a letter that is a row -/
theorem pt_row (h : MDx L S d sz n B op p q r t μ ν μ1 ν1) (hn : 1 ≤ n) (hn2 : n ≤ 16) (hq : q < sz) (hb : 97 ≤ B q ∧ B q ≤ 112) (hy : B q - 97 < n) : ∃ ν2, Ev (fun F => run L S F (e + 2) 176 0 [some (vR (2, 0, 0)), some (vI (nI op)), none, none, none, none, none, none] ν) (0, ν2) ∧ (FOu L S d sz n p μ ν ν2 ∨ ∃ p2, GOu L S d sz n B op p r μ ν ν2 p2) := by
  obtain ⟨m1, m2, m3, m4, m5, m6, m7, m8, m9, m10, m11, m12, m13, m14, m15, m16, m17, m18, m19, m20, m21⟩ := h
  have hz := m1.1
  have h20 := m2.2.1
  have hrr := m2.1
  have hf := m2.app (x := nI (B q - 97)) rfl hy
  have a14 : appM r (nI (B q - 97)) ν1 (2, 0, 0) 14 = nI q := (appM_a.1 14 (by decide)).trans m4
  have hf2 : RDr n (min (r + 1) 49) (appC r (nI (B q - 97)) μ1) (mset (appM r (nI (B q - 97)) ν1) (2, 0, 0) 14 (nI (q + 1))) := hf.fr rfl rfl rfl (mset_gk (by decide)) (mset_ne (by decide))
  have w15 : mset (appM r (nI (B q - 97)) ν1) (2, 0, 0) 14 (nI (q + 1)) (2, 0, 0) 15 = 0 := by rw [mset_gk (by decide), appM_a.1 15 (by decide)]; exact m5
  obtain ⟨r2, μ3, ν2, b1, b2, b3, b4, b5, b6⟩ := rep_row (L := L) (S := S) (d := 0) (x4 := r) (x5 := min (r + 1) 49 - r) (t := t) (by omega) hy (by omega) (t - 1) 1 _ _ _ (by omega) hf2 w15 (by
    by_cases c : r < 48
    · refine Or.inr ⟨by omega, ?_, by omega⟩
      rw [mset_ne (by decide), appM_r c]
    · exact Or.inl (by omega))
  have h72 : Ev (fun F => run L S F 0 72 0 [some (vR (0, 0, 9))] μ3) (0, mset (mset μ3 (0, 0, 9) 7 0) (0, 0, 9) 9 0) := Ev.step (by
    simp only [e72_0]
    exact Ev.ret)
  have cls1 : Ev (fun F => run L S F 1 77 25 [some (vR (0, 0, 9)), some (vI (nI (B q - 97))), none, none, some (vI (nI t)), some (vI (nI 1))] (appC r (nI (B q - 97)) μ1)) (0, mset (mset (mset μ3 (0, 0, 9) 7 0) (0, 0, 9) 9 0) (0, 0, 9) 10 1) := b1 _ (Ev.step (by
    simp only [e77_25, if_neg (nI_nlt (Nat.le_refl t) (show t < 2 ^ 31 by omega))]
    exact Ev.bind h72 Ev.ret))
  have cls : Ev (fun F => run L S F (d + 2) 77 0 [some (vR (0, 0, 9)), some (vI (nI (B q - 97))), some (vI (nI q)), some (vI (nI n)), none, none] μ1) (0, mset (mset (mset μ3 (0, 0, 9) 7 0) (0, 0, 9) 9 0) (0, 0, 9) 10 1) := Ev.step (by
    simp only [e77_0, if_pos (nI_lt hy (show n < 2 ^ 31 by omega)), m10]
    refine Ev.step ?_
    simp only [e77_25, if_pos (show (0 : Int32) < nI t from nI_lt (a := 0) (by omega) (by omega))]
    refine Ev.bind (c_push m2) ?_
    exact cls1.dp (by omega))
  have hcl : CL L S d sz n p μ (q + 1) (mset (mset (mset μ3 (0, 0, 9) 7 0) (0, 0, 9) 9 0) (0, 0, 9) 10 1) := m17.tr (c_sign m1 m8 hq m15 (c_75 (m16 _) (by omega) (by
    simp only [if_pos hb]
    exact cls)))
  have fc : A9 μ1 μ3 := appC_a.tr b4
  have nf : ∀ k, k ≠ 14 → k ≠ 20 → ν2 (2, 0, 0) k = ν1 (2, 0, 0) k := fun k a b => by rw [b5.1 k b, mset_gk a, appM_a.1 k b]
  have nq : ∀ q : Ad, q ≠ (2, 0, 0) → q ≠ (2, 0, 9) → ν2 q = ν1 q := fun q a b => by rw [b5.2 q a b, mset_ne a, appM_a.2 q a b]
  have n14 : ν2 (2, 0, 0) 14 = nI (q + 1) := by rw [b5.1 14 (by decide), mset_gg]
  have fm : FRm ν1 ν2 := ⟨fun k a b c x => nf k a x, nq⟩
  refine ⟨ν2, Ev.step ?_, Or.inr ⟨q + 1, r2, _, by omega, by omega, ⟨m1.fr fc.fr.f.f.f fm, b3.fr ?_ ?_ ?_ rfl rfl, ?_, n14, ?_, ?_, ?_, ?_, ?_, ?_, ?_⟩, by omega, mset_gg, hcl, (m19.tr fc.ks).f.f.f, (m18.tr fc.fr).f.f.f, m20.tr fm⟩⟩
  · simp only [e176_0]
    refine Ev.bind (m21 e) ?_
    simp only [m5, if_true]
    refine Ev.bind (m_ch m1 m3 m4 m14) ?_
    simp only [h20]
    refine Ev.bind ev_within ?_
    have hch : ch sz B q = nI (B q) := by unfold ch; rw [if_pos hq]
    have e97 : nI (B q) - 97 = nI (B q - 97) := nI_sub' (b := 97) hb.1
    have hrow : Ev (fun F => run L S F (e + 1) 131 0 [some (vR (2, 0, 0)), some (vI (nI (B q - 97)))] ν1) (1, ν1) := by
      have := Ev.at (v := (if 0 ≤ (nI (B q - 97)).toInt ∧ (nI (B q - 97)).toInt < n then 1 else 0, ν1)) 2 (fun F hF => s_isRow (L := L) (S := S) (d := e + 1) (x := nI (B q - 97)) hF (by omega) m7 hn hn2)
      rw [if_pos (nI_in' hy hn2)] at this
      exact this
    simp only [if_pos ((ch_let m1).mpr ⟨hq, hb.1, hb.2⟩), i1, if_false]
    simp only [hch, e97]
    refine Ev.bind hrow ?_
    simp only [i1, if_false]
    refine Ev.bind (m_push m2) ?_
    have e20 := hf2.2.1
    simp only [a14, nI_1, e20, nI_sub' (show r ≤ min (r + 1) 49 by omega)]
    exact b2.dp (by omega)
  · rw [mset_gk (by decide), mset_gk (by decide), mset_gk (by decide)]
  · rw [mset_gk (by decide), mset_gk (by decide), mset_gk (by decide)]
  · rw [mset_ne (by decide), mset_ne (by decide), mset_ne (by decide)]
  · exact (nf 13 (by decide) (by decide)).trans m3
  · exact (nf 15 (by decide) (by decide)).trans m5
  · rw [nf 16 (by decide) (by decide), mset_gk (by decide), mset_gk (by decide), mset_gk (by decide), fc.1 5 (by decide) (by decide)]
    exact m6
  · rw [nq _ (by decide) (by decide)]
    exact m7
  · rw [mset_gk (by decide), mset_gk (by decide), mset_gk (by decide), fc.1 4 (by decide) (by decide)]
    exact m8
  · rw [mset_gk (by decide), mset_gk (by decide), mset_gk (by decide), fc.1 6 (by decide) (by decide)]
    exact m9
  · rw [mset_gk (by decide), mset_gk (by decide), mset_gg]
  · rw [mset_gk (by decide), mset_gg]
/-- a letter that is no row -/
theorem pt_norow (h : MDx L S d sz n B op p q r t μ ν μ1 ν1) (hn : 1 ≤ n) (hn2 : n ≤ 16) (hq : q < sz) (hb : 97 ≤ B q ∧ B q ≤ 112) (hy : ¬ B q - 97 < n) : ∃ ν2, Ev (fun F => run L S F (e + 2) 176 0 [some (vR (2, 0, 0)), some (vI (nI op)), none, none, none, none, none, none] ν) (0, ν2) ∧ (FOu L S d sz n p μ ν ν2 ∨ ∃ p2, GOu L S d sz n B op p r μ ν ν2 p2) := by
  have h' := h
  obtain ⟨m1, m2, m3, m4, m5, m6, m7, m8, m9, m10, m11, m12, m13, m14, m15, m16, m17, m18, m19, m20, m21⟩ := h
  have hz := m1.1
  have h20 := m2.2.1
  have hf2 : RDr n r μ1 (mset (mset ν1 (2, 0, 0) 15 3) (2, 0, 0) 16 (nI q)) := m2.fr rfl rfl rfl (by rw [mset_gk (by decide), mset_gk (by decide)]) (by rw [mset_ne (by decide), mset_ne (by decide)])
  have pm := m_push (L := L) (S := S) (d := e + 1) (x := nI (B q - 97)) hf2
  have am := appM_a (r := r) (x := nI (B q - 97)) (ν := mset (mset ν1 (2, 0, 0) 15 3) (2, 0, 0) 16 (nI q))
  generalize appM r (nI (B q - 97)) (mset (mset ν1 (2, 0, 0) 15 3) (2, 0, 0) 16 (nI q)) = κ at pm am
  have k15 : mset κ (2, 0, 0) 14 (κ (2, 0, 0) 14 + 1) (2, 0, 0) 15 = 3 := by rw [mset_gk (by decide), am.1 15 (by decide), mset_gk (by decide), mset_gg]
  refine ⟨mset κ (2, 0, 0) 14 (κ (2, 0, 0) 14 + 1), Ev.step ?_, Or.inl (fo_mk2 (K := 3) (A := nI q) h' (by decide) (fun _ => c_75 (m16 _) (by omega) ?_) (fun x => absurd x (by omega)) k15 ?_ ?_)⟩
  · simp only [e176_0]
    refine Ev.bind (m21 e) ?_
    simp only [m5, if_true]
    refine Ev.bind (m_ch m1 m3 m4 m14) ?_
    simp only [h20]
    refine Ev.bind ev_within ?_
    have hch : ch sz B q = nI (B q) := by unfold ch; rw [if_pos hq]
    have e97 : nI (B q) - 97 = nI (B q - 97) := nI_sub' (b := 97) hb.1
    have hrow : Ev (fun F => run L S F (e + 1) 131 0 [some (vR (2, 0, 0)), some (vI (nI (B q - 97)))] ν1) (0, ν1) := by
      have := Ev.at (v := (if 0 ≤ (nI (B q - 97)).toInt ∧ (nI (B q - 97)).toInt < n then 1 else 0, ν1)) 2 (fun F hF => s_isRow (L := L) (S := S) (d := e + 1) (x := nI (B q - 97)) hF (by omega) m7 hn hn2)
      rw [if_neg (fun x => hy (by have := x.2; rw [nI_toInt (by omega)] at this; omega))] at this
      exact this
    simp only [if_pos ((ch_let m1).mpr ⟨hq, hb.1, hb.2⟩), i1, if_false]
    simp only [hch, e97]
    refine Ev.bind hrow ?_
    simp only [if_true, m4]
    refine Ev.bind (m_173 m5) (Ev.bind pm ?_)
    exact rep_wrong (by rw [k15]; decide)
  · simp only [if_pos hb]
    refine Ev.step ?_
    simp only [e77_0, if_neg (nI_nlt (show n ≤ B q - 97 by omega) (show B q - 97 < 2 ^ 31 by omega))]
    exact Ev.bind c_71 Ev.ret
  · rw [mset_gk (by decide), am.1 16 (by decide), mset_gg]
  · have : FRm ν1 κ := ⟨fun k a b c x => by rw [am.1 k x, mset_gk c, mset_gk b], fun q a b => by rw [am.2 q a b, mset_ne a, mset_ne a]⟩
    exact (m20.tr this).f (by decide)
/-- no letter, no bracket that opens: or the end -/
theorem pt_else (h : MDx L S d sz n B op p q r t μ ν μ1 ν1) (hl : ¬ (q < sz ∧ 97 ≤ B q ∧ B q ≤ 112)) (h40 : ¬ (q < sz ∧ B q = 40)) (h10 : μ1 (0, 0, 9) 10 = 0 ∨ (q < sz ∧ B q ≠ 41)) : ∃ ν2, Ev (fun F => run L S F (e + 2) 176 0 [some (vR (2, 0, 0)), some (vI (nI op)), none, none, none, none, none, none] ν) (0, ν2) ∧ (FOu L S d sz n p μ ν ν2 ∨ ∃ p2, GOu L S d sz n B op p r μ ν ν2 p2) := by
  have h' := h
  obtain ⟨m1, m2, m3, m4, m5, m6, m7, m8, m9, m10, m11, m12, m13, m14, m15, m16, m17, m18, m19, m20, m21⟩ := h
  have hz := m1.1
  have h20 := m2.2.1
  have k15 : mset (mset ν1 (2, 0, 0) 15 1) (2, 0, 0) 16 (nI q) (2, 0, 0) 15 = 1 := by rw [mset_gk (by decide), mset_gg]
  refine ⟨mset (mset ν1 (2, 0, 0) 15 1) (2, 0, 0) 16 (nI q), Ev.step ?_, Or.inl (fo_mk2 (K := 1) (A := nI q) h' (by decide) (fun hq => c_75 (m16 _) (m1.2 q hq).2.2 ?_) (fun hq => ?_) k15 mset_gg ((m20.f (by decide)).f (by decide)))⟩
  · simp only [e176_0]
    refine Ev.bind (m21 e) ?_
    simp only [m5, if_true]
    refine Ev.bind (m_ch m1 m3 m4 m14) ?_
    simp only [h20]
    refine Ev.bind ev_within ?_
    have n40 : ¬ ch sz B q = 40 := fun x => h40 ((ch_eq m1 (v := 40) (by decide)).mp x)
    simp only [if_neg (fun x => hl ((ch_let m1).mp x)), if_true, if_neg n40, m4]
    refine Ev.bind (m_173 m5) ?_
    exact rep_wrong (show ¬ mset (mset ν1 (2, 0, 0) 15 1) (2, 0, 0) 16 (nI q) (2, 0, 0) 15 = 0 by rw [k15]; decide)
  · simp only [if_neg (fun x => hl ⟨hq, x⟩), if_neg (fun x => h40 ⟨hq, x⟩)]
    by_cases c41 : B q = 41
    · have z10 : μ1 (0, 0, 9) 10 = 0 := h10.elim id (fun x => absurd c41 x.2)
      simp only [if_pos c41]
      refine Ev.step ?_
      by_cases c0 : μ1 (0, 0, 9) 6 = 0
      · simp only [e79_0, if_pos c0]
        exact Ev.bind c_71 Ev.ret
      · simp only [e79_0, if_neg c0, z10, if_true]
        exact Ev.bind c_71 Ev.ret
    · simp only [if_neg c41]
      exact c_71
  · subst hq
    have z10 : μ1 (0, 0, 9) 10 = 0 := h10.elim id (fun x => absurd x.1 (by omega))
    refine Ev.step ?_
    simp only [e76_0]
    refine Ev.bind (m16 _) ?_
    simp only [if_true, z10]
    by_cases c0 : 0 < μ1 (0, 0, 9) 6
    · simp only [if_pos c0]
      exact Ev.bind c_71 Ev.ret
    · simp only [if_neg c0]
      exact Ev.bind c_71 Ev.ret
/-- a bracket that opens, too deep -/
theorem pt_deep (h : MDx L S d sz n B 3 p q r t μ ν μ1 ν1) (hq : q < sz) (hb : B q = 40) : ∃ ν2, Ev (fun F => run L S F (e + 2) 176 0 [some (vR (2, 0, 0)), some (vI (nI 3)), none, none, none, none, none, none] ν) (0, ν2) ∧ (FOu L S d sz n p μ ν ν2 ∨ ∃ p2, GOu L S d sz n B 3 p r μ ν ν2 p2) := by
  have h' := h
  obtain ⟨m1, m2, m3, m4, m5, m6, m7, m8, m9, m10, m11, m12, m13, m14, m15, m16, m17, m18, m19, m20, m21⟩ := h
  have hz := m1.1
  have h20 := m2.2.1
  have k15 : mset (mset (mset (mset ν1 (2, 0, 0) 15 4) (2, 0, 0) 16 (nI q)) (2, 0, 0) 14 (nI q + 1)) (2, 0, 0) 14 (nI q + 1 + 1) (2, 0, 0) 15 = 4 := by rw [mset_gk (by decide), mset_gk (by decide), mset_gk (by decide), mset_gg]
  refine ⟨mset (mset (mset (mset ν1 (2, 0, 0) 15 4) (2, 0, 0) 16 (nI q)) (2, 0, 0) 14 (nI q + 1)) (2, 0, 0) 14 (nI q + 1 + 1), Ev.step ?_, Or.inl (fo_mk2 (K := 4) (A := nI q) h' (by decide) (fun _ => c_75 (m16 _) (by omega) ?_) (fun x => absurd x (by omega)) k15 ?_ ((((m20.f (by decide)).f (by decide)).f (by decide)).f (by decide)))⟩
  · simp only [e176_0]
    refine Ev.bind (m21 e) ?_
    simp only [m5, if_true]
    refine Ev.bind (m_ch m1 m3 m4 m14) ?_
    simp only [h20]
    refine Ev.bind ev_within ?_
    have y40 : ch sz B q = 40 := (ch_eq m1 (v := 40) (by decide)).mpr ⟨hq, hb⟩
    have nl : ¬ ((97 : Int32).toInt ≤ (ch sz B q).toInt ∧ (ch sz B q).toInt ≤ (112 : Int32).toInt) := fun x => by have := (ch_let m1).mp x; omega
    simp only [if_neg nl, if_true, if_pos y40, show nI 3 = (3 : Int32) from rfl, m4]
    refine Ev.bind (m_173 m5) (Ev.step ?_)
    have x14 : mset (mset ν1 (2, 0, 0) 15 4) (2, 0, 0) 16 (nI q) (2, 0, 0) 14 = nI q := by rw [mset_gk (by decide), mset_gk (by decide)]; exact m4
    have x15 : mset (mset (mset ν1 (2, 0, 0) 15 4) (2, 0, 0) 16 (nI q)) (2, 0, 0) 14 (nI q + 1) (2, 0, 0) 15 = 4 := by rw [mset_gk (by decide), mset_gk (by decide), mset_gg]
    simp only [e176_99, x14, x15, show ¬ (4 : Int32) = 0 by decide, if_false, mset_gg]
    exact rep_wrong (by rw [k15]; decide)
  · simp only [if_neg (show ¬ (97 ≤ B q ∧ B q ≤ 112) by omega), if_pos hb]
    refine Ev.step ?_
    simp only [e78_0, m9, if_neg (show ¬ nI 3 < (3 : Int32) by decide)]
    exact Ev.bind c_71 Ev.ret
  · rw [mset_gk (by decide), mset_gk (by decide), mset_gg]
end PQ
