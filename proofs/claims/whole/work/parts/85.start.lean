/-! the start: what the Statement gives of it -/
theorem int_slots {s : State} (hf : heapFits s = true) {t : Nat} {cell : Cell} (h1 : s.heap[t]? = some cell) (h2 : s.isArrayOf cell .int) {j : Nat} (hj : j < cell.slots.size) : ∃ x : Int32, cell.slots[j]? = some (.int x) := by
  have hc : cellFits s cell = true := by
    obtain ⟨hl, he⟩ := Array.getElem?_eq_some_iff.mp h1
    have := Array.all_eq_true.mp hf t hl
    rw [he] at this
    exact this
  have hv : cell.slots[j]? = some cell.slots[j] := Array.getElem?_eq_getElem hj
  generalize cell.slots[j] = v at hv
  have h := List.all_eq_true.mp hc j (List.mem_range.mpr hj)
  rw [hv] at h
  obtain ⟨h3, k, hk, comp, hkk⟩ := h2
  have hst : s.slotType? cell.cls cell.vm j = some .int := by
    generalize cell.vm = d at h3
    unfold State.slotType?
    rw [hk]
    cases d <;> first | exact absurd rfl (h3 _) | simp [hkk]
  have h : s.fitsSlot cell.cls cell.vm j v = true := h
  unfold State.fitsSlot at h
  rw [hst] at h
  cases v with
  | int x => exact ⟨x, hv⟩
  | _ => cases h
theorem term_st {s : State} {args : Array Value} {n : String} {f : Nat → Int32} (hf : heapFits s = true) (hini : (Cond.initialized "RowGuard").before args s = true) (hl : (Cond.laysStatic "RowGuard" n "[I").before args s = true) (harr : (Cond.arrayOf (.static "RowGuard" n "[I") .int).before args s = true) (hlen : (Cond.eq (.length (.static "RowGuard" n "[I")) (.int 17)).before args s = true) (hel : ∀ j, j < 17 → (Cond.eq (.elem (.static "RowGuard" n "[I") (.int (Int32.ofNat j))) (.int (f j))).before args s = true) : ∃ t, t < s.heap.size ∧ wY t 17 f s s.heap ∧ va_Z "RowGuard" n "[I" (.ref t) (fun q => s.heap.size ≤ q) s s.heap := by
  have hA : ∀ a : Nat, a < s.heap.size → ¬ (fun q : Nat => s.heap.size ≤ q) a := fun a h => Nat.not_le.mpr h
  obtain ⟨t, ht, cell, h1, h2, h3, h4, h5, h6, h7⟩ := va_Tof (N := 17) (f := fun j => .int (f j)) (A := fun q => s.heap.size ≤ q) (by decide) harr (va_eqt hlen) (fun j hj => va_eqt (hel j hj)) hA
  refine ⟨t, (Array.getElem?_eq_some_iff.mp h1).1, ⟨cell.slots.size, fun j => (match cell.slots[j]? with | some (.int x) => x | _ => 0), h4, h5, fun j hj => ?_, cell, h1, h2, h3, rfl, fun j hj => ?_⟩, va_Zof hl hini ht hA⟩
  · simp only [h6 j hj]
  · obtain ⟨x, hx⟩ := int_slots hf h1 h2 hj
    simp only [hx]
/-- the rows that nobody writes: the script, TERM_LEAST, TERM_GREATEST, TERM_FIRST -/
def stS (xs : Nat → Int32) : Ad → Nat → Int32 := fun q => match q.2.2 with
  | 0 => xs
  | 1 => lowF
  | 2 => highF
  | _ => firstF
def adS (b a1 a2 a3 : Nat) : Ad → Nat := fun q => match q.2.2 with
  | 0 => b
  | 1 => a1
  | 2 => a2
  | _ => a3
theorem StS_st {xs : Nat → Int32} : StS (stS xs) := by
  have h : ∀ k, k < 17 → (lowF k).toInt = tLo k ∧ (highF k).toInt = tHi k := by decide +kernel
  exact h
theorem arr_prim {s : State} {args : Array Value} {ty : FieldType} (h : (Cond.arrayClass ty).before args s = true) : ∃ c, ArrOfT s c ty ∧ s.vm.findClass ("[" ++ ty.toString) = some c := by
  obtain ⟨c, k, comp, h1, h2, h3⟩ := Cond.arrayClass_spec h
  exact ⟨c, fun n z => ⟨(fun k h => by cases h), k, h2, comp, h3⟩, h1⟩
theorem arr_bank {s : State} {args : Array Value} (h : (Cond.arrayOver (.object RX0)).before args s = true) : ∃ c, ArrOfT s c (.object RX0) ∧ va_RA s c (.object RX0) := by
  obtain ⟨comp, c, k, h1, h2, h3, h4, h5⟩ := Cond.arrayOver_spec h
  exact ⟨c, fun n z => ⟨(fun k h => by cases h), k, h3, comp, h4⟩, k, comp, h3, h4, h1, h5⟩
theorem start_cls {s : State} {args : Array Value} (hts : ∀ w ∈ lw_tbl, w.before args s = true) : ∀ c : Nat, ∃ (d : ClassId) (i : Nat → Nat), ∀ q : vw_C, vwCl[c]? = some q → u_Kn s q.1 q.2.1 q.2.2 d i := by
  have hG : ∀ w ∈ GT, w.before args s = true := fun w hw => hts w (List.mem_filter.mp hw).1
  have key : ∀ (c : Nat) (C : String) (T : u_T) (N : Nat), vwCl[c]? = some (C, T, N) → (Cond.instantiable C N).before args s = true → ∃ (d : ClassId) (i : Nat → Nat), ∀ q : vw_C, vwCl[c]? = some q → u_Kn s q.1 q.2.1 q.2.2 d i := by
    intro c C T N h1 h2
    obtain ⟨d, i, h⟩ := u_known (C := C) (T := T) (N := N) (n := N) hG (mx_in h1) h2
    refine ⟨d, i, fun q hq => ?_⟩
    rw [h1] at hq
    cases hq
    exact h
  intro c
  match c with
  | 0 => exact key 0 RX0 TX0 12 rfl (hts _ (wAt_in (h := 10025) (by decide +kernel)))
  | 1 => exact key 1 RX1 TX1 9 rfl (hts _ (wAt_in (h := 10096) (by decide +kernel)))
  | 2 => exact key 2 RX2 TX2 5 rfl (hts _ (wAt_in (h := 20047) (by decide +kernel)))
  | 3 => exact key 3 RX3 TX3 5 rfl (hts _ (wAt_in (h := 20018) (by decide +kernel)))
  | 4 => exact key 4 RX4 TX4 3 rfl (hts _ (wAt_in (h := 10160) (by decide +kernel)))
  | 5 => exact key 5 RX5 TX5 12 rfl (hts _ (wAt_in (h := 20088) (by decide +kernel)))
  | 6 => exact key 6 RX6 TX6 12 rfl (hts _ (wAt_in (h := 10031) (by decide +kernel)))
  | 7 => exact key 7 RX7 TX7 2 rfl (hts _ (wAt_in (h := 20073) (by decide +kernel)))
  | 8 => exact key 8 RX8 TX8 3 rfl (hts _ (wAt_in (h := 10138) (by decide +kernel)))
  | 9 => exact key 9 RX9 TX9 7 rfl (hts _ (wAt_in (h := 10017) (by decide +kernel)))
  | 10 => exact key 10 RX10 TX10 28 rfl (hts _ (wAt_in (h := 40207) (by decide +kernel)))
  | k + 11 => exact ⟨0, fun _ => 0, fun q hq => by simp at hq⟩
theorem start_K {s : State} {args : Array Value} (hts : ∀ w ∈ lw_tbl, w.before args s = true) : ∃ (Dg : va_G) (cA : Nat → ClassId), va_K Dg vwCl (tyA cA) s ∧ va_AO RX0 s := by
  have hc := start_cls hts
  obtain ⟨c0, a0, b0⟩ := arr_prim (ty := .int) (hts _ (wAt_in (h := 10094) (by decide +kernel)))
  obtain ⟨c1, a1, b1⟩ := arr_prim (ty := .byte) (hts _ (wAt_in (h := 50066) (by decide +kernel)))
  obtain ⟨c2, a2, b2⟩ := arr_prim (ty := .boolean) (hts _ (wAt_in (h := 50065) (by decide +kernel)))
  have hov : (Cond.arrayOver (.object RX0)).before args s = true := hts _ (wAt_in (h := 20053) (by decide +kernel))
  obtain ⟨c3, a3, b3⟩ := arr_bank hov
  refine ⟨(fun c => Classical.choose (hc c), fun c => Classical.choose (Classical.choose_spec (hc c))), fun k => match k with | 0 => c0 | 1 => c1 | 2 => c2 | _ => c3, ⟨fun c q hq => Classical.choose_spec (Classical.choose_spec (hc c)) q hq, fun k q hq => ?_⟩, va_AO.of hov⟩
  match k, hq with
  | 0, hq => cases hq; exact ⟨a0, b0⟩
  | 1, hq => cases hq; exact ⟨a1, b1⟩
  | 2, hq => cases hq; exact ⟨a2, b2⟩
  | 3, hq => cases hq; exact ⟨a3, b3⟩
  | k + 4, hq => simp [tyA] at hq
theorem start_N {s : State} {args : Array Value} (hts : ∀ w ∈ lw_tbl, w.before args s = true) : ∀ w ∈ NW, va_Nw w s := fun w hw => by
  obtain ⟨h1, h2⟩ := List.mem_filter.mp hw
  refine va_Nw.of ?_ (hts w (List.mem_append_right _ h1))
  unfold isNest at h2
  split at h2
  · rfl
  · rfl
  · cases h2
/-- all that the small machine asks of the start, without the script -/
theorem start_U {s : State} {b : Nat} {xs : Nat → Int32} (hf : heapFits s = true) (hts : ∀ w ∈ lw_tbl, w.before #[Value.ref b] s = true) (hgv : (Jvm.Cond.and given_1 narrow_1).before #[Value.ref b] s = true) : ∃ (a1 a2 a3 : Nat) (Dg : va_G) (cA : Nat → ClassId), (a1 < s.heap.size ∧ a2 < s.heap.size ∧ a3 < s.heap.size) ∧ Ust (adS b a1 a2 a3) s.heap.size (LY0, stS xs) Dg cA s ∧ va_AO RX0 s := by
  have hs := flat_of_before _ hgv
  have hini : (Cond.initialized "RowGuard").before #[Value.ref b] s = true := hts _ (wAt_in (h := 10001) (by decide +kernel))
  have e1 : ∀ j, j < 17 → Cond.eq (.elem (.static "RowGuard" "TERM_LEAST" "[I") (.int (Int32.ofNat j))) (.int (lowF j)) ∈ flatC (Jvm.Cond.and given_1 narrow_1) := by decide +kernel
  have e2 : ∀ j, j < 17 → Cond.eq (.elem (.static "RowGuard" "TERM_GREATEST" "[I") (.int (Int32.ofNat j))) (.int (highF j)) ∈ flatC (Jvm.Cond.and given_1 narrow_1) := by decide +kernel
  have e3 : ∀ j, j < 17 → Cond.eq (.elem (.static "RowGuard" "TERM_FIRST" "[I") (.int (Int32.ofNat j))) (.int (firstF j)) ∈ flatC (Jvm.Cond.and given_1 narrow_1) := by decide +kernel
  obtain ⟨a1, l1, w1, z1⟩ := term_st (n := "TERM_LEAST") (f := lowF) hf hini (hts _ (wAt_in (h := 20196) (by decide +kernel))) (hs _ (by decide +kernel)) (hs _ (by decide +kernel)) (fun j hj => hs _ (e1 j hj))
  obtain ⟨a2, l2, w2, z2⟩ := term_st (n := "TERM_GREATEST") (f := highF) hf hini (hts _ (wAt_in (h := 20198) (by decide +kernel))) (hs _ (by decide +kernel)) (hs _ (by decide +kernel)) (fun j hj => hs _ (e2 j hj))
  obtain ⟨a3, l3, w3, z3⟩ := term_st (n := "TERM_FIRST") (f := firstF) hf hini (hts _ (wAt_in (h := 10179) (by decide +kernel))) (hs _ (by decide +kernel)) (hs _ (by decide +kernel)) (fun j hj => hs _ (e3 j hj))
  obtain ⟨Dg, cA, hK, hAO⟩ := start_K hts
  refine ⟨a1, a2, a3, Dg, cA, ⟨l1, l2, l3⟩, ⟨Nat.le_refl _, hK, fun q hq => ?_, fun x hx => ?_, start_N hts⟩, hAO⟩
  · obtain ⟨h1, h2⟩ := LY0_lt (q := q) (Nat.le_of_eq hq)
    have e : ((LY0, stS xs) : LT).1 q = (110, 17) := h2
    rw [e]
    rcases h1 with rfl | rfl | rfl
    · exact w1
    · exact w2
    · exact w3
  · match x, hx with
    | 0, hx => exact absurd rfl hx
    | 1, _ => exact z1
    | 2, _ => exact z2
    | n + 3, _ => exact z3
