/-! the reader of a pattern: bytes, digits, rows that are added -/
def TB (sz : Nat) (B : Nat → Nat) (μ ν : Mm) : Prop := sz ≤ 60 ∧ ∀ i, i < sz → μ (0, 0, 8) i = nI (B i) ∧ ν (2, 0, 8) i &&& 255 = nI (B i) ∧ B i < 256
def ch (sz : Nat) (B : Nat → Nat) (p : Nat) : Int32 := if p < sz then nI (B p) else -1
def dig (sz : Nat) (B : Nat → Nat) (i : Nat) : Prop := i < sz ∧ 48 ≤ B i ∧ B i ≤ 57
def vc (B : Nat → Nat) (p : Nat) : Nat → Nat
  | 0 => 0
  | k + 1 => min 1000 (vc B p k * 10 + (B (p + k) - 48))
def vr (B : Nat → Nat) (p : Nat) : Nat → Nat
  | 0 => 0
  | k + 1 => if 48 < vr B p k then vr B p k else 10 * vr B p k + B (p + k) - 48
def badN (k v : Nat) : Prop := 0 < k ∧ (2 < k ∨ v < 1 ∨ 48 < v)
def RDr (n r : Nat) (μ ν : Mm) : Prop := r ≤ 49 ∧ ν (2, 0, 0) 20 = nI r ∧ μ (0, 0, 9) 3 = nI (min r 48) ∧ μ (0, 0, 9) 11 = (if r = 49 then 1 else 0) ∧ ∀ k, k < r → k < 48 → μ (0, 0, 10) k = ν (2, 0, 9) k ∧ ∃ x, x < n ∧ ν (2, 0, 9) k = nI x
def A9 (μ μ1 : Mm) : Prop := (∀ k, k ≠ 3 → k ≠ 11 → μ1 (0, 0, 9) k = μ (0, 0, 9) k) ∧ ∀ q : Ad, q ≠ (0, 0, 9) → q ≠ (0, 0, 10) → μ1 q = μ q
def A20 (ν ν1 : Mm) : Prop := (∀ k, k ≠ 20 → ν1 (2, 0, 0) k = ν (2, 0, 0) k) ∧ ∀ q : Ad, q ≠ (2, 0, 0) → q ≠ (2, 0, 9) → ν1 q = ν q
def appC (r : Nat) (x : Int32) (μ : Mm) : Mm := if r < 48 then mset (mset μ (0, 0, 10) r x) (0, 0, 9) 3 (nI (r + 1)) else mset μ (0, 0, 9) 11 1
def appM (r : Nat) (x : Int32) (ν : Mm) : Mm := if r < 48 then mset (mset ν (2, 0, 9) r x) (2, 0, 0) 20 (nI (r + 1)) else if r = 48 then mset ν (2, 0, 0) 20 (nI 49) else ν
section RB
variable {L : Nat} {S : Ad → Nat → Int32} {d n q w m t s T T1 l c r p k sz : Nat} {B : Nat → Nat} {z x : Int32} {μ μ' μ1 μ1' μ2 : Mm} {a1 a2 a3 a4 a5 : Int32} {ν ν0 ν1 ν2 κ : Mm}
theorem A9.rf : A9 μ μ := ⟨fun _ _ _ => rfl, fun _ _ _ => rfl⟩
theorem A9.tr (h : A9 μ μ1) (h2 : A9 μ1 μ2) : A9 μ μ2 := ⟨fun k a b => (h2.1 k a b).trans (h.1 k a b), fun q a b => (h2.2 q a b).trans (h.2 q a b)⟩
theorem A20.rf : A20 ν ν := ⟨fun _ _ => rfl, fun _ _ _ => rfl⟩
theorem A20.tr (h : A20 ν ν1) (h2 : A20 ν1 ν2) : A20 ν ν2 := ⟨fun k a => (h2.1 k a).trans (h.1 k a), fun q a b => (h2.2 q a b).trans (h.2 q a b)⟩
theorem appC_a : A9 μ (appC r x μ) := by
  unfold appC
  split
  · exact ⟨fun k a b => by rw [mset_gk a, mset_ne (by decide)], fun q a b => by rw [mset_ne a, mset_ne b]⟩
  · exact ⟨fun k a b => by rw [mset_gk b], fun q a b => by rw [mset_ne a]⟩
theorem appM_a : A20 ν (appM r x ν) := by
  unfold appM
  split
  · exact ⟨fun k a => by rw [mset_gk a, mset_ne (by decide)], fun q a b => by rw [mset_ne a, mset_ne b]⟩
  · split
    · exact ⟨fun k a => by rw [mset_gk a], fun q a b => by rw [mset_ne a]⟩
    · exact A20.rf
theorem c_push (h : RDr n r μ ν) : Ev (fun F => run L S F d 80 0 [some (vR (0, 0, 9)), some (vI x)] μ) (0, appC r x μ) := by
  obtain ⟨h1, h2, h3, h4, h5⟩ := h
  refine Ev.step ?_
  unfold appC
  by_cases c : r < 48
  · rw [Nat.min_eq_left (by omega)] at h3
    simp only [e80_0, h3, if_pos (show nI r < (48 : Int32) from nI_lt (b := 48) c (by decide)), inb_n c (show 48 < 2 ^ 31 by decide), cond_true, nI_clamp (show r < 2 ^ 31 by omega), mset_ne (show ((0, 0, 9) : Ad) ≠ (0, 0, 10) by decide), nI_1, if_pos c]
    exact Ev.ret
  · rw [Nat.min_eq_right (by omega)] at h3
    simp only [e80_0, h3, if_neg (show ¬ nI 48 < (48 : Int32) by decide), if_neg c]
    exact Ev.ret
theorem m_push (h : RDr n r μ ν) : Ev (fun F => run L S F d 174 0 [some (vR (2, 0, 0)), some (vI x)] ν) (0, appM r x ν) := by
  obtain ⟨h1, h2, h3, h4, h5⟩ := h
  refine Ev.step ?_
  unfold appM
  by_cases c : r < 48
  · simp only [e174_0, h2, if_pos (show nI r < (48 : Int32) from nI_lt (b := 48) c (by decide)), inb_n c (show 48 < 2 ^ 31 by decide), cond_true, nI_clamp (show r < 2 ^ 31 by omega), mset_ne (show ((2, 0, 0) : Ad) ≠ (2, 0, 9) by decide), if_neg (show ¬ (48 : Int32) < nI r from nI_nlt (a := 48) (by omega) (by decide)), nI_1, if_pos c]
    exact Ev.ret
  · simp only [e174_0, h2, if_neg (show ¬ nI r < (48 : Int32) from nI_nlt (b := 48) (by omega) (by omega)), if_neg c]
    by_cases c2 : r = 48
    · subst c2
      simp only [if_neg (show ¬ (48 : Int32) < nI 48 by decide), nI_1, if_true]
      exact Ev.ret
    · simp only [if_pos (show (48 : Int32) < nI r from nI_lt (a := 48) (by omega) (by omega)), if_neg c2]
      exact Ev.ret
theorem RDr.app (h : RDr n r μ ν) {y : Nat} (hx : x = nI y) (hy : y < n) : RDr n (min (r + 1) 49) (appC r x μ) (appM r x ν) := by
  obtain ⟨h1, h2, h3, h4, h5⟩ := h
  unfold appC appM
  by_cases c : r < 48
  · rw [if_pos c, if_pos c, Nat.min_eq_left (by omega)]
    refine ⟨by omega, mset_gg, ?_, ?_, fun k hk hk2 => ?_⟩
    · rw [mset_gg, Nat.min_eq_left (by omega)]
    · rw [mset_gk (by decide), mset_ne (by decide), h4, if_neg (by omega), if_neg (by omega)]
    · rw [mset_ne (show ((0, 0, 10) : Ad) ≠ (0, 0, 9) by decide), mset_ne (show ((2, 0, 9) : Ad) ≠ (2, 0, 0) by decide)]
      by_cases e : k = r
      · subst e
        rw [mset_gg, mset_gg]
        exact ⟨rfl, y, hy, hx⟩
      · rw [mset_gk e, mset_gk e]
        exact h5 k (by omega) hk2
  · rw [if_neg c, if_neg c, Nat.min_eq_right (by omega)]
    have h3' : μ (0, 0, 9) 3 = nI 48 := by rw [h3, Nat.min_eq_right (by omega)]
    by_cases c2 : r = 48
    · rw [if_pos c2]
      exact ⟨by omega, mset_gg, by rw [mset_gk (by decide), h3']; rfl, by rw [mset_gg, if_pos rfl], fun k hk hk2 => by rw [mset_ne (by decide), mset_ne (by decide)]; exact h5 k (by omega) hk2⟩
    · rw [if_neg c2]
      have e : r = 49 := by omega
      subst e
      exact ⟨by omega, h2, by rw [mset_gk (by decide), h3']; rfl, by rw [mset_gg, if_pos rfl], fun k hk hk2 => by rw [mset_ne (by decide)]; exact h5 k (by omega) hk2⟩
theorem RDr.full (h : RDr n 49 μ ν) : RDr n 49 (appC 49 x μ) ν := by
  obtain ⟨h1, h2, h3, h4, h5⟩ := h
  unfold appC
  rw [if_neg (by decide)]
  exact ⟨by omega, h2, by rw [mset_gk (by decide), h3], by rw [mset_gg, if_pos rfl], fun k hk hk2 => by rw [mset_ne (by decide)]; exact h5 k hk hk2⟩
theorem appM_k {k : Nat} (h : k < r) : appM r x ν (2, 0, 9) k = ν (2, 0, 9) k := by
  unfold appM
  split
  · rw [mset_ne (by decide), mset_gk (by omega)]
  · split
    · rw [mset_ne (by decide)]
    · rfl
theorem appM_r (h : r < 48) : appM r x ν (2, 0, 9) r = x := by
  unfold appM
  rw [if_pos h, mset_ne (by decide), mset_gg]
/-- where the digits end -/
theorem digs_ex : ∀ (m p : Nat), p + m = sz → ∃ k, p + k ≤ sz ∧ (∀ i, i < k → dig sz B (p + i)) ∧ ¬ dig sz B (p + k) := by
  intro m
  induction m with
  | zero => intro p h; exact ⟨0, by omega, fun i hi => absurd hi (by omega), fun x => by have := x.1; omega⟩
  | succ m ih =>
    intro p h
    by_cases c : dig sz B p
    · obtain ⟨k, h1, h2, h3⟩ := ih (p + 1) (by omega)
      refine ⟨k + 1, by omega, fun i hi => ?_, ?_⟩
      · rcases Nat.eq_zero_or_pos i with rfl | hp
        · exact c
        · have := h2 (i - 1) (by omega)
          rwa [show p + 1 + (i - 1) = p + i by omega] at this
      · rwa [show p + (k + 1) = p + 1 + k by omega]
    · exact ⟨0, by omega, fun i hi => absurd hi (by omega), c⟩
theorem vc_le : vc B p k ≤ 1000 := by
  cases k with
  | zero => exact Nat.zero_le _
  | succ k => exact Nat.min_le_left _ _
theorem vr_le (h : ∀ i, i < k → dig sz B (p + i)) : vr B p k ≤ 489 := by
  induction k with
  | zero => exact Nat.zero_le _
  | succ k ih =>
    have i1 := ih (fun i hi => h i (by omega))
    have d1 := (h k (by omega)).2
    unfold vr
    split
    · exact i1
    · omega
theorem vr_vc (h : ∀ i, i < k → dig sz B (p + i)) (hk : k ≤ 2) : vr B p k = vc B p k := by
  rcases (show k = 0 ∨ k = 1 ∨ k = 2 by omega) with rfl | rfl | rfl
  · rfl
  · have d0 := (h 0 (by omega)).2
    unfold vr vc vr vc
    rw [if_neg (by decide)]
    omega
  · have d0 := (h 0 (by omega)).2
    have d1 := (h 1 (by omega)).2
    unfold vr vc vr vc vr vc
    rw [if_neg (show ¬ 48 < 0 by decide), if_neg (by omega)]
    omega
theorem m_ch (h : TB sz B μ ν) (hs : ν (2, 0, 0) 13 = nI sz) (hp : ν (2, 0, 0) 14 = nI p) (hps : p ≤ sz) : Ev (fun F => run L S F d 172 0 [some (vR (2, 0, 0))] ν) (ch sz B p, ν) := by
  have hz := h.1
  unfold ch
  refine Ev.step ?_
  by_cases c : p < sz
  · simp only [e172_0, hs, hp, if_pos (nI_lt c (show sz < 2 ^ 31 by omega)), inb_n (show p < 60 by omega) (by decide), cond_true, nI_clamp (show p < 2 ^ 31 by omega), (h.2 p c).2.1, if_pos c]
    exact Ev.ret
  · simp only [e172_0, hs, hp, if_neg (nI_nlt (show sz ≤ p by omega) (show p < 2 ^ 31 by omega)), if_neg c]
    exact Ev.ret
theorem ch_in (h : TB sz B μ ν) {lo hi : Nat} (hhi : hi < 2 ^ 31) : ((nI lo).toInt ≤ (ch sz B p).toInt ∧ (ch sz B p).toInt ≤ (nI hi).toInt) ↔ (p < sz ∧ lo ≤ B p ∧ B p ≤ hi ∧ lo < 2 ^ 31) ∨ (¬ lo < 2 ^ 31 ∧ (nI lo).toInt ≤ (ch sz B p).toInt ∧ (ch sz B p).toInt ≤ (nI hi).toInt) := by
  by_cases c0 : lo < 2 ^ 31
  · rw [nI_toInt c0, nI_toInt hhi]
    unfold ch
    by_cases c : p < sz
    · have b := (h.2 p c).2.2
      rw [if_pos c, nI_toInt (by omega)]
      omega
    · rw [if_neg c]
      have : (-1 : Int32).toInt = -1 := by decide
      omega
  · constructor
    · intro x; exact Or.inr ⟨c0, x⟩
    · rintro (x | x)
      · exact absurd x.2.2.2 c0
      · exact x.2
theorem ch_dig (h : TB sz B μ ν) : ((48 : Int32).toInt ≤ (ch sz B p).toInt ∧ (ch sz B p).toInt ≤ (57 : Int32).toInt) ↔ dig sz B p := by
  have := ch_in (p := p) h (lo := 48) (hi := 57) (by decide)
  unfold dig
  refine this.trans ⟨fun x => ?_, fun x => Or.inl ⟨x.1, x.2.1, x.2.2, by decide⟩⟩
  rcases x with x | x
  · exact ⟨x.1, x.2.1, x.2.2.1⟩
  · exact absurd x.1 (by decide)
theorem ch_let (h : TB sz B μ ν) : ((97 : Int32).toInt ≤ (ch sz B p).toInt ∧ (ch sz B p).toInt ≤ (112 : Int32).toInt) ↔ (p < sz ∧ 97 ≤ B p ∧ B p ≤ 112) := by
  have := ch_in (p := p) h (lo := 97) (hi := 112) (by decide)
  refine this.trans ⟨fun x => ?_, fun x => Or.inl ⟨x.1, x.2.1, x.2.2, by decide⟩⟩
  rcases x with x | x
  · exact ⟨x.1, x.2.1, x.2.2.1⟩
  · exact absurd x.1 (by decide)
theorem ch_eq (h : TB sz B μ ν) {v : Nat} (hv : v < 256) : ch sz B p = nI v ↔ p < sz ∧ B p = v := by
  unfold ch
  by_cases c : p < sz
  · have b := (h.2 p c).2.2
    rw [if_pos c]
    exact ⟨fun e => ⟨c, nI_inj (by omega) (by omega) e⟩, fun e => by rw [e.2]⟩
  · rw [if_neg c]
    exact ⟨fun e => absurd e.symm (nI_m1 (by omega)), fun e => absurd e.1 c⟩
/-- the reference's digits -/
theorem m_digs (h : TB sz B μ ν) (hs : ν (2, 0, 0) 13 = nI sz) {K : Nat} (hK : p + K ≤ sz) (hd : ∀ i, i < K → dig sz B (p + i)) {v : Rz} (hv : Ev (fun F => run L S F (d + 1) 175 7 [some (vR (2, 0, 0)), some (vI (nI p)), some (vI (nI (vr B p K)))] (mset ν (2, 0, 0) 14 (nI (p + K)))) v) : ∀ (m k : Nat), k + m = K → Ev (fun F => run L S F (d + 1) 175 7 [some (vR (2, 0, 0)), some (vI (nI p)), some (vI (nI (vr B p k)))] (mset ν (2, 0, 0) 14 (nI (p + k)))) v := by
  intro m
  induction m with
  | zero =>
    intro k hk
    have hk : k = K := by omega
    subst hk
    exact hv
  | succ m ih =>
    intro k hk
    have dk := hd k (by omega)
    have hz := h.1
    have hb := (h.2 _ dk.1).2.2
    have ht : TB sz B μ (mset ν (2, 0, 0) 14 (nI (p + k))) := ⟨h.1, fun i hi => by rw [mset_ne (by decide)]; exact h.2 i hi⟩
    have hc := m_ch (L := L) (S := S) (d := d) (p := p + k) ht (by rw [mset_gk (by decide)]; exact hs) mset_gg (by omega)
    have hle := vr_le (B := B) (p := p) (sz := sz) (k := k) (fun i hi => hd i (by omega))
    have hn := ih (k + 1) (by omega)
    rw [show p + (k + 1) = p + k + 1 by omega] at hn
    refine Ev.step ?_
    simp only [e175_7]
    refine Ev.bind hc (Ev.bind ev_within ?_)
    simp only [if_pos ((ch_dig h).mpr dk), i1, if_false, mset_gg, nI_1, mset_mset]
    by_cases c : 48 < vr B p k
    · have e : vr B p (k + 1) = vr B p k := by
        show (if 48 < vr B p k then _ else _) = _
        rw [if_pos c]
      rw [e] at hn
      simp only [if_pos (show (48 : Int32) < nI (vr B p k) from nI_lt (a := 48) c (by omega))]
      exact hn
    · have e : vr B p (k + 1) = 10 * vr B p k + B (p + k) - 48 := by
        show (if 48 < vr B p k then _ else _) = _
        rw [if_neg c]
      have e2 : (10 : Int32) * nI (vr B p k) + nI (B (p + k)) - 48 = nI (vr B p (k + 1)) := by
        rw [e, show (10 : Int32) = nI 10 from rfl, nI_mul, nI_add]
        have d2 := dk.2.1
        obtain ⟨y, hy⟩ : ∃ y, 10 * vr B p k + B (p + k) = y + 48 := ⟨10 * vr B p k + B (p + k) - 48, by omega⟩
        rw [hy, Nat.add_sub_cancel, ← nI_add, show (48 : Int32) = nI 48 from rfl]
        exact Int32.add_sub_cancel _ _
      simp only [if_neg (show ¬ (48 : Int32) < nI (vr B p k) from nI_nlt (a := 48) (by omega) (by decide))]
      refine Ev.bind hc ?_
      have e3 : ch sz B (p + k) = nI (B (p + k)) := by
        unfold ch
        rw [if_pos dk.1]
      simp only [e3, e2, mset_gg, nI_1, mset_mset]
      exact hn
/-- the reference's number -/
theorem m_num (h : TB sz B μ ν) (hs : ν (2, 0, 0) 13 = nI sz) (hp : ν (2, 0, 0) 14 = nI p) (hw : ν (2, 0, 0) 15 = 0) (hK : p + k ≤ sz) (hd : ∀ i, i < k → dig sz B (p + i)) (hn : ¬ dig sz B (p + k)) : ∃ x, Ev (fun F => run L S F (d + 1) 175 0 [some (vR (2, 0, 0)), none, none] ν) (x, if 0 < k ∧ (2 < k ∨ vc B p k < 1 ∨ 48 < vc B p k) then mset (mset (mset ν (2, 0, 0) 14 (nI (p + k))) (2, 0, 0) 15 2) (2, 0, 0) 16 (nI p) else mset ν (2, 0, 0) 14 (nI (p + k))) ∧ (¬ (0 < k ∧ (2 < k ∨ vc B p k < 1 ∨ 48 < vc B p k)) → x = nI (max 1 (vc B p k))) := by
  have hz := h.1
  have ht : TB sz B μ (mset ν (2, 0, 0) 14 (nI (p + k))) := ⟨h.1, fun i hi => by rw [mset_ne (by decide)]; exact h.2 i hi⟩
  have hc := m_ch (L := L) (S := S) (d := d) (p := p + k) ht (by rw [mset_gk (by decide)]; exact hs) mset_gg hK
  have nd : ¬ ((48 : Int32).toInt ≤ (ch sz B (p + k)).toInt ∧ (ch sz B (p + k)).toInt ≤ (57 : Int32).toInt) := fun x => hn ((ch_dig h).mp x)
  have start : ∀ v, Ev (fun F => run L S F (d + 1) 175 7 [some (vR (2, 0, 0)), some (vI (nI p)), some (vI (nI (vr B p k)))] (mset ν (2, 0, 0) 14 (nI (p + k)))) v → Ev (fun F => run L S F (d + 1) 175 0 [some (vR (2, 0, 0)), none, none] ν) v := fun v hv => by
    refine Ev.step ?_
    simp only [e175_0, hp]
    have := m_digs h hs hK hd hv k 0 (by omega)
    have e0 : mset ν (2, 0, 0) 14 (nI (p + 0)) = ν := mset_id hp.symm
    rw [e0] at this
    exact this
  have w15 : mset ν (2, 0, 0) 14 (nI (p + k)) (2, 0, 0) 15 = 0 := (mset_gk (by decide)).trans hw
  have h173 : Ev (fun F => run L S F d 173 0 [some (vR (2, 0, 0)), some (vI 2), some (vI (nI p))] (mset ν (2, 0, 0) 14 (nI (p + k)))) (0, mset (mset (mset ν (2, 0, 0) 14 (nI (p + k))) (2, 0, 0) 15 2) (2, 0, 0) 16 (nI p)) := Ev.step (by
    simp only [e173_0, w15, if_true]
    exact Ev.ret)
  by_cases k0 : k = 0
  · subst k0
    simp only [Nat.add_zero] at nd
    refine ⟨1, start _ (Ev.step ?_), fun _ => rfl⟩
    simp only [e175_7]
    refine Ev.bind hc (Ev.bind ev_within ?_)
    simp only [if_neg nd, if_true, mset_gg, Nat.add_zero, show ¬ (0 : Nat) < 0 by decide, false_and, if_false]
    exact Ev.ret
  · have ne : ¬ nI (p + k) = nI p := fun e => by
      have := nI_inj (by omega) (by omega) e
      omega
    have e2 : (nI p + 2 : Int32) = nI (p + 2) := nI_add p 2
    refine ⟨nI (vr B p k), ?_, fun nb => ?_⟩
    · refine start _ (Ev.step ?_)
      simp only [e175_7]
      refine Ev.bind hc (Ev.bind ev_within ?_)
      simp only [if_neg nd, if_true, mset_gg, if_neg ne, e2]
      by_cases c2 : 2 < k
      · simp only [if_pos (nI_lt (show p + 2 < p + k by omega) (show p + k < 2 ^ 31 by omega)), if_pos (show 0 < k ∧ (2 < k ∨ vc B p k < 1 ∨ 48 < vc B p k) from ⟨by omega, Or.inl c2⟩)]
        exact Ev.bind h173 Ev.ret
      · simp only [if_neg (nI_nlt (show p + k ≤ p + 2 by omega) (show p + 2 < 2 ^ 31 by omega))]
        have ev : vr B p k = vc B p k := vr_vc hd (by omega)
        have vl := vc_le (B := B) (p := p) (k := k)
        have x1 : (1 : Int32).toInt = 1 := rfl
        have x4 : (48 : Int32).toInt = 48 := rfl
        have xv : (nI (vc B p k)).toInt = (vc B p k : Nat) := nI_toInt (by omega)
        rw [ev]
        refine Ev.bind ev_within ?_
        by_cases c3 : vc B p k < 1 ∨ 48 < vc B p k
        · simp only [if_neg (show ¬ ((1 : Int32).toInt ≤ (nI (vc B p k)).toInt ∧ (nI (vc B p k)).toInt ≤ (48 : Int32).toInt) by omega), if_true, if_pos (show 0 < k ∧ (2 < k ∨ vc B p k < 1 ∨ 48 < vc B p k) from ⟨by omega, Or.inr c3⟩)]
          exact Ev.bind h173 Ev.ret
        · simp only [if_pos (show ((1 : Int32).toInt ≤ (nI (vc B p k)).toInt ∧ (nI (vc B p k)).toInt ≤ (48 : Int32).toInt) by omega), i1, if_false, if_neg (show ¬ (0 < k ∧ (2 < k ∨ vc B p k < 1 ∨ 48 < vc B p k)) from fun x => x.2.elim c2 c3)]
          exact Ev.ret
    · have k2 : k ≤ 2 := by
        rcases Nat.lt_or_ge 2 k with x | x
        · exact absurd ⟨by omega, Or.inl x⟩ nb
        · exact x
      rw [vr_vc hd k2]
      have : ¬ vc B p k < 1 := fun x => nb ⟨by omega, Or.inr (Or.inl x)⟩
      rw [Nat.max_eq_right (by omega)]
end RB
