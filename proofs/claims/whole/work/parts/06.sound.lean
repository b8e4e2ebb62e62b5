/-! what the small machine says of the real one -/
def sh (ad : Ad → Nat) (v : AV) : Value := match v with
  | .inl x => .int x
  | .inr (.inl x) => .long x
  | .inr (.inr q) => .ref (ad q)
def Lr (ad : Ad → Nat) (nL : Nat) (l : Lc) (ls : Array Slot) : Prop := (ls.size = nL ∧ l.length ≤ nL) ∧ lv_wf ls ∧ ∀ (i : Nat) (v : AV), l[i]? = some (some v) → ls[i]? = some (.val (sh ad v))
def plp (ad : Ad → Nat) (l : Lc) (i : Nat) : Option (Nat × Value) := match l[i]? with
  | some (some v) => some (i, sh ad v)
  | _ => none
def pl (ad : Ad → Nat) (l : Lc) : List (Nat × Value) := (List.range l.length).filterMap (plp ad l)
theorem pl_in {ad : Ad → Nat} {l : Lc} {i : Nat} {v : AV} (h : l[i]? = some (some v)) : (i, sh ad v) ∈ pl ad l := by
  refine List.mem_filterMap.mpr ⟨i, List.mem_range.mpr (List.getElem?_eq_some_iff.mp h).1, ?_⟩
  simp [plp, h]
theorem pl_has {ad : Ad → Nat} {nL : Nat} {l : Lc} {ls : Array Slot} (h : Lr ad nL l ls) : lv_has ls nL (pl ad l) := by
  refine ⟨h.1.1, h.2.1, fun q hq => ?_⟩
  obtain ⟨i, -, hi⟩ := List.mem_filterMap.mp hq
  unfold plp at hi
  split at hi
  · rename_i v hv
    cases hi
    exact h.2.2 i v hv
  · cases hi
theorem cat_ok {ad : Ad → Nat} {v : AV} (h : okS (some v) = true) : (sh ad v).category = 1 := by
  rcases v with x | x | x
  · rfl
  · simp [okS] at h
  · rfl
theorem cat1_ok {ad : Ad → Nat} {v : AV} (h : cat1 v = true) : (sh ad v).category = 1 := by
  rcases v with x | x | x
  · rfl
  · simp [cat1] at h
  · rfl
/-- behind a store of a word of category 1 -/
theorem Lr_store {ad : Ad → Nat} {nL i : Nat} {l : Lc} {ls' : Array Slot} {x : AV} (hok : l.all okS = true) (hi : i < l.length) (hnl : l.length ≤ nL)
    (h : lv_has ls' nL ((i, sh ad x) :: (pl ad l).filter (fun q => !(q.1 == i) && !(q.1 + 1 == i && q.2.category == 2)))) : Lr ad nL (l.set i (some x)) ls' := by
  refine ⟨⟨h.1, by rw [List.length_set]; exact hnl⟩, h.2.1, fun j v hj => ?_⟩
  by_cases e : i = j
  · subst e
    rw [List.getElem?_set_self hi] at hj
    cases hj
    exact h.2.2 (i, sh ad x) List.mem_cons_self
  · rw [List.getElem?_set_ne e] at hj
    refine h.2.2 (j, sh ad v) (List.mem_cons_of_mem _ (List.mem_filter.mpr ⟨pl_in hj, ?_⟩))
    have hc : (sh ad v).category = 1 := cat_ok (List.all_eq_true.mp hok _ (List.mem_of_getElem? hj))
    have e' : ¬ j = i := fun z => e z.symm
    simp [hc, e']
theorem Lr_mask {ad : Ad → Nat} {nL : Nat} {ls : Array Slot} : ∀ {bs : List Bool} {l : Lc}, Lr ad nL l ls → Lr ad nL (mskL bs l) ls := by
  intro bs l h
  have klen : ∀ (bs : List Bool) (l : Lc), (mskL bs l).length ≤ l.length := by
    intro bs
    induction bs with
    | nil => intro l; simp [mskL]
    | cons b bs ih =>
      intro l
      cases l with
      | nil => cases b <;> simp [mskL]
      | cons o r =>
        have := ih r
        cases b <;> simp [mskL] <;> omega
  refine ⟨⟨h.1.1, Nat.le_trans (klen bs l) h.1.2⟩, h.2.1, fun i v hi => h.2.2 i v ?_⟩
  have key : ∀ (bs : List Bool) (l : Lc) (i : Nat), (mskL bs l)[i]? = some (some v) → l[i]? = some (some v) := by
    intro bs
    induction bs with
    | nil => intro l i q; simp [mskL] at q
    | cons b bs ih =>
      intro l i q
      cases l with
      | nil => cases b <;> simp [mskL] at q
      | cons o r =>
        cases b <;> cases i with
        | zero => simp [mskL] at q ⊢ <;> first | exact q | skip
        | succ i => simp only [mskL, List.getElem?_cons_succ] at q ⊢; exact ih r i q
  exact key bs l i hi
/-- the entry's locals -/
theorem lcs_args {ad : Ad → Nat} : ∀ (as : List AV) (n i : Nat) (v : AV), (lcs as)[i]? = some (some v) → (n + i, sh ad v) ∈ lv_args n (as.map (sh ad)) := by
  intro as
  induction as with
  | nil => intro n i v h; simp [lcs] at h
  | cons a r ih =>
    intro n i v h
    rcases a with x | x | x
    · cases i with
      | zero => simp only [lcs, List.getElem?_cons_zero, Option.some.injEq] at h; subst h; exact List.mem_cons_self
      | succ i =>
        simp only [lcs, List.getElem?_cons_succ] at h
        have := ih (n + 1) i v h
        refine List.mem_cons_of_mem _ ?_
        rw [show n + (i + 1) = n + 1 + i by omega]
        exact this
    · cases i with
      | zero => simp only [lcs, List.getElem?_cons_zero, Option.some.injEq] at h; subst h; exact List.mem_cons_self
      | succ i =>
        cases i with
        | zero => simp [lcs] at h
        | succ i =>
          simp only [lcs, List.getElem?_cons_succ] at h
          have := ih (n + 2) i v h
          refine List.mem_cons_of_mem _ ?_
          rw [show n + (i + 1 + 1) = n + 2 + i by omega]
          exact this
    · cases i with
      | zero => simp only [lcs, List.getElem?_cons_zero, Option.some.injEq] at h; subst h; exact List.mem_cons_self
      | succ i =>
        simp only [lcs, List.getElem?_cons_succ] at h
        have := ih (n + 1) i v h
        refine List.mem_cons_of_mem _ ?_
        rw [show n + (i + 1) = n + 1 + i by omega]
        exact this
theorem lcs_len {ad : Ad → Nat} (as : List AV) : (lg_sl (as.map (sh ad))).length = (lcs as).length := by
  induction as with
  | nil => rfl
  | cons a r ih =>
    have h : lg_sl ((a :: r).map (sh ad)) = (if (sh ad a).category = 2 then [Slot.val (sh ad a), .second] else [Slot.val (sh ad a)]) ++ lg_sl (r.map (sh ad)) := rfl
    rw [h, List.length_append, ih]
    rcases a with x | x | x
    · show 1 + _ = _
      simp only [lcs, List.length_cons]
      omega
    · show 2 + _ = _
      simp only [lcs, List.length_cons]
      omega
    · show 1 + _ = _
      simp only [lcs, List.length_cons]
      omega
theorem Lr_entry {ad : Ad → Nat} {ml : Nat} {as : List AV} {ls : Array Slot} (hle : (lcs as).length ≤ ml) (h : lv_has ls ml (lv_args 0 (as.map (sh ad)))) : Lr ad ml (padL ml (lcs as)) ls := by
  refine ⟨⟨h.1, by unfold padL; rw [List.length_append, List.length_replicate]; omega⟩, h.2.1, fun i v hi => ?_⟩
  have h1 : (lcs as)[i]? = some (some v) := by
    unfold padL at hi
    by_cases hl : i < (lcs as).length
    · rwa [List.getElem?_append_left hl] at hi
    · rw [List.getElem?_append_right (by omega)] at hi
      have := List.mem_of_getElem? hi
      simp [List.mem_replicate] at this
  have := h.2.2 _ (lcs_args (ad := ad) as 0 i v h1)
  simpa using this
/-! the world -/
def fsv (ad : Ad → Nat) (q : Ad) (μ : Mm) : List Value := (List.range (LAY q).2).map (fun k => bif Nat.beq (FK (LAY q).1 k) 2 then Value.ref (ad (RF q k)) else .int (μ q k))
def cE (ad : Ad → Nat) (cA : Nat → ClassId) (q : Ad) (μ : Mm) : va_E :=
  if (LAY q).1 < 100 then .inr ((LAY q).1, fsv ad q μ)
  else if (LAY q).1 = 103 then .inl (cA 3, (LAY q).2, .inr (.inr (.inr (.inr (fun k => some (ad (RF q k)))))))
  else .inl (cA ((LAY q).1 - 100), (LAY q).2, .inl (μ q))
def wl (ad : Ad → Nat) (cA : Nat → ClassId) (WL : List Ad) (μ : Mm) : va_W := WL.map (fun q => (ad q, cE ad cA q μ))
def tyA (cA : Nat → ClassId) : List (ClassId × FieldType) := [(cA 0, .int), (cA 1, .byte), (cA 2, .boolean), (cA 3, .object "RowGuard$Bank")]
theorem cE_obj {ad : Ad → Nat} {cA : Nat → ClassId} {q : Ad} {μ : Mm} (h : (LAY q).1 < 100) : cE ad cA q μ = .inr ((LAY q).1, fsv ad q μ) := if_pos h
theorem cE_row {ad : Ad → Nat} {cA : Nat → ClassId} {q : Ad} {μ : Mm} {t : Nat} (h : (LAY q).1 = 100 + t) (ht : t < 3) : cE ad cA q μ = .inl (cA t, (LAY q).2, .inl (μ q)) := by
  unfold cE
  rw [if_neg (by omega), if_neg (by omega), h, Nat.add_sub_cancel_left]
theorem cE_ref {ad : Ad → Nat} {cA : Nat → ClassId} {q : Ad} {μ : Mm} (h : (LAY q).1 = 103) : cE ad cA q μ = .inl (cA 3, (LAY q).2, .inr (.inr (.inr (.inr (fun k => some (ad (RF q k))))))) := by
  unfold cE
  rw [if_neg (by omega), if_pos h]
theorem cE_congr {ad : Ad → Nat} {cA : Nat → ClassId} {q : Ad} {μ μ' : Mm} (h : μ' q = μ q) : cE ad cA q μ' = cE ad cA q μ := by
  unfold cE fsv
  rw [h]
theorem mset_ne {μ : Mm} {q q' : Ad} {k : Nat} {v : Int32} (h : q' ≠ q) : mset μ q k v q' = μ q' := by
  funext k'
  simp [mset, h]
theorem mset_eq {μ : Mm} {q : Ad} {k : Nat} {v : Int32} : mset μ q k v q = upd (μ q) k v := by
  funext k'
  simp [mset, upd]
theorem mcpy_ne {μ : Mm} {a b q' : Ad} {sp dp n : Nat} (h : q' ≠ b) : mcpy μ a sp b dp n q' = μ q' := by
  funext k'
  simp [mcpy, h]
theorem mcpy_eq {μ : Mm} {a b : Ad} {sp dp n : Nat} : mcpy μ a sp b dp n b = va_cpy (μ a) (μ b) sp dp n := by
  funext k'
  simp [mcpy, va_cpy]
theorem wl_get {ad : Ad → Nat} {cA : Nat → ClassId} {WL : List Ad} {μ : Mm} {i : Nat} {q : Ad} (h : WL[i]? = some q) : (wl ad cA WL μ)[i]? = some (ad q, cE ad cA q μ) := by
  simp [wl, h]
theorem wl_set {ad : Ad → Nat} {cA : Nat → ClassId} {WL : List Ad} {μ μ' : Mm} {i : Nat} {q : Ad} {e : va_E} {A : Nat → Prop} (hD : va_D A (wl ad cA WL μ)) (h : WL[i]? = some q) (he : cE ad cA q μ' = e) (ho : ∀ q', q' ≠ q → cE ad cA q' μ' = cE ad cA q' μ) : (wl ad cA WL μ).set i (ad q, e) = wl ad cA WL μ' := by
  apply List.ext_getElem?
  intro j
  have hl : i < WL.length := (List.getElem?_eq_some_iff.mp h).1
  by_cases e1 : i = j
  · subst e1
    rw [List.getElem?_set_self (by simpa [wl] using hl), wl_get h, he]
  · rw [List.getElem?_set_ne e1]
    cases hj : WL[j]? with
    | none => simp [wl, hj]
    | some q' =>
      rw [wl_get hj, wl_get hj, ho q' (fun z => ?_)]
      subst z
      exact e1 (hD.1 i j _ _ (wl_get h) (wl_get hj) rfl)
theorem va_D_wl {ad : Ad → Nat} {cA : Nat → ClassId} {WL : List Ad} {μ μ' : Mm} {A : Nat → Prop} (hD : va_D A (wl ad cA WL μ)) : va_D A (wl ad cA WL μ') := by
  have key : ∀ (i : Nat) (x : Nat × va_E), (wl ad cA WL μ')[i]? = some x → ∃ y : Nat × va_E, (wl ad cA WL μ)[i]? = some y ∧ y.1 = x.1 := by
    intro i x hx
    simp only [wl, List.getElem?_map] at hx ⊢
    cases hq : WL[i]? with
    | none => rw [hq] at hx; cases hx
    | some q => rw [hq] at hx; cases hx; exact ⟨_, rfl, rfl⟩
  refine ⟨fun i j x y hx hy hxy => ?_, fun k x hx => ?_⟩
  · obtain ⟨x', h1, h2⟩ := key i x hx
    obtain ⟨y', h3, h4⟩ := key j y hy
    exact hD.1 i j x' y' h1 h3 (by rw [h2, h4, hxy])
  · obtain ⟨x', h1, h2⟩ := key k x hx
    rw [← h2]
    exact hD.2 k x' h1
theorem fsv_get {ad : Ad → Nat} {q : Ad} {μ : Mm} {k : Nat} (h : k < (LAY q).2) : (fsv ad q μ)[k]? = some (bif Nat.beq (FK (LAY q).1 k) 2 then Value.ref (ad (RF q k)) else .int (μ q k)) := by
  simp [fsv, h]
theorem fsv_set {ad : Ad → Nat} {q : Ad} {μ : Mm} {k : Nat} {v : Int32} (h : k < (LAY q).2) (hf : FK (LAY q).1 k ≠ 2) : fsv ad q (mset μ q k v) = (fsv ad q μ).set k (.int v) := by
  apply List.ext_getElem?
  intro j
  by_cases e1 : k = j
  · subst e1
    rw [List.getElem?_set_self (by simpa [fsv] using h), fsv_get h]
    have hb : Nat.beq (FK (LAY q).1 k) 2 = false := by
      cases hz : Nat.beq (FK (LAY q).1 k) 2 with
      | false => rfl
      | true => exact absurd (Nat.eq_of_beq_eq_true hz) hf
    rw [hb]
    simp [mset]
  · rw [List.getElem?_set_ne e1]
    by_cases hj : j < (LAY q).2
    · rw [fsv_get hj, fsv_get hj]
      have : mset μ q k v q j = μ q j := by simp [mset, Ne.symm e1]
      rw [this]
    · simp [fsv, hj]
