/-! the constructor of the paper -/
theorem dX3_init_0 : decode cX3_init 0 = .ok (.aload_n 0, 1) := by decide +kernel
theorem dX3_init_1 : decode cX3_init 1 = .ok (.invokespecial 3, 3) := by decide +kernel
theorem dX3_init_4 : decode cX3_init 4 = .ok (.aload_n 0, 1) := by decide +kernel
theorem dX3_init_5 : decode cX3_init 5 = .ok (.new 9, 3) := by decide +kernel
theorem dX3_init_8 : decode cX3_init 8 = .ok (.dup, 1) := by decide +kernel
theorem dX3_init_9 : decode cX3_init 9 = .ok (.invokespecial 11, 3) := by decide +kernel
theorem dX3_init_12 : decode cX3_init 12 = .ok (.putfield 12, 3) := by decide +kernel
theorem dX3_init_15 : decode cX3_init 15 = .ok (.aload_n 0, 1) := by decide +kernel
theorem dX3_init_16 : decode cX3_init 16 = .ok (.new 9, 3) := by decide +kernel
theorem dX3_init_19 : decode cX3_init 19 = .ok (.dup, 1) := by decide +kernel
theorem dX3_init_20 : decode cX3_init 20 = .ok (.invokespecial 11, 3) := by decide +kernel
theorem dX3_init_23 : decode cX3_init 23 = .ok (.putfield 18, 3) := by decide +kernel
theorem dX3_init_26 : decode cX3_init 26 = .ok (.aload_n 0, 1) := by decide +kernel
theorem dX3_init_27 : decode cX3_init 27 = .ok (.bipush 99, 2) := by decide +kernel
theorem dX3_init_29 : decode cX3_init 29 = .ok (.newarray .int, 2) := by decide +kernel
theorem dX3_init_31 : decode cX3_init 31 = .ok (.putfield 21, 3) := by decide +kernel
theorem dX3_init_34 : decode cX3_init 34 = .ok (.aload_n 0, 1) := by decide +kernel
theorem dX3_init_35 : decode cX3_init 35 = .ok (.iconst 5, 1) := by decide +kernel
theorem dX3_init_36 : decode cX3_init 36 = .ok (.newarray .int, 2) := by decide +kernel
theorem dX3_init_38 : decode cX3_init 38 = .ok (.putfield 25, 3) := by decide +kernel
theorem dX3_init_41 : decode cX3_init 41 = .ok (.return_, 1) := by decide +kernel
/-- the cells of the paper that is new -/
abbrev ppw (S : Ad → Nat → Int32) (cA : Nat → ClassId) (h0 : Nat) (u : (Nat → Nat) × (Nat → Nat) × (Nat → Nat)) : va_W := ([(h0, (Sum.inr (3, [.ref (u.1 0), .ref (u.2.1 0), .ref (u.2.2 0), .ref (u.2.2 1), .int 0]) : va_E))] ++ bkw S cA u.1 ++ bkw S cA u.2.1 ++ [(u.2.2 0, (Sum.inl (cA 0, 99, Sum.inl (fun _ => (0 : Int32))) : va_E))] ++ [(u.2.2 1, (Sum.inl (cA 0, 5, Sum.inl (fun _ => (0 : Int32))) : va_E))])
set_option maxHeartbeats 4000000 in
set_option maxRecDepth 100000 in
theorem kX3 (l : Launch) (Dg : va_G) (cA : Nat → ClassId) {ad : Ad → Nat} {B0 : Nat} {S : Ad → Nat → Int32} (hT : Stc ad cA B0 (LY0, S) []) (had : ad (3, 0, 3) < B0) (h0 sz : Nat) (hB0 : B0 ≤ h0) : Met l yX3_init (.code yX3_init cX3_init 1 none :: GT) ({ frames := 4, cells := 52, slots := 1038, locals := 84 }) (va_Pc [.ref h0] (fun U => U.heap.size = sz ∧ va_P Dg vwCl [(h0, (Sum.inr (3, [.null, .null, .null, .null, .int 0]) : va_E))] U.heap ∧ Ust ad B0 (LY0, S) Dg cA U ∧ va_D (fun _ => True) [(h0, (Sum.inr (3, [.null, .null, .null, .null, .int 0]) : va_E))])) (va_Qv (fun _ : (Nat → Nat) × (Nat → Nat) × (Nat → Nat) => True) (fun u t => va_P Dg vwCl (ppw S cA h0 u) t.heap ∧ va_D (va_A [(h0, (Sum.inr (3, [.null, .null, .null, .null, .int 0]) : va_E))] sz) (ppw S cA h0 u)) (va_A [(h0, (Sum.inr (3, [.null, .null, .null, .null, .int 0]) : va_E))] sz)) 52 1038 (va_A [(h0, (Sum.inr (3, [.null, .null, .null, .null, .int 0]) : va_E))] sz) := by
  refine Met.ofW (cc := cX3_init) (maxL := 1) (ret := none) (by decide) rfl ?_
  intro p e s m args below meth c s₁ B hml hv
  obtain ⟨rfl, hsz, hP, hU, hD0⟩ := hv
  have hx := B.exec
  have hb := B.bytes
  have hr := B.returns
  have hts' := atoms_spec (ws := .code yX3_init cX3_init 1 none :: GT) B.pre
  have hts : ∀ w ∈ GT, w.before #[Value.ref h0] s = true := fun w hw => hts' w (List.mem_cons_of_mem _ hw)
  have hown : s.vm.findClass RX3 = some m.cls := findClass_of_methodNamed B.named
  have hlocks := B.notSynchronized
  have hin : meth.name = "<init>" := (name_of_methodNamed B.named B.method).1
  subst hsz
  have hD := hD0.self (sz := s.heap.size)
  have hAB : ∀ q, va_A [(h0, (Sum.inr (3, [.null, .null, .null, .null, .int 0]) : va_E))] s.heap.size q → B0 ≤ q := fun q h => by
    rcases h with ⟨k, e, h⟩ | h
    · cases k with
      | zero => injection h with h; injection h with h _; omega
      | succ k => cases k <;> cases h
    · exact Nat.le_trans hU.1 h
  generalize hAe : va_A [(h0, (Sum.inr (3, [.null, .null, .null, .null, .int 0]) : va_E))] s.heap.size = A at hD hAB ⊢
  have hA : ∀ q : Nat, s.heap.size ≤ q → A q := fun q h => by rw [← hAe]; exact Or.inr h
  have hS : va_S A s.heap s.heap [] := va_S.rf
  have hl := lv_entry ([.ref h0]) (n := 1) (Nat.le_of_ble_eq_true rfl)
  rw [lg_entry_eq]
  generalize (lg_sl ([.ref h0]) ++ List.replicate (1 - (lg_sl ([.ref h0])).length) Slot.unset).toArray = ls at hl ⊢
  have hl : lv_has ls 1 [(0, .ref h0)] := hl
  refine lv_aload_n hx hb dX3_init_0 rfl (lv_at hl 0 rfl) ?_
  refine W.objInit hx hb hown (hts (.methodLink RX3 3 objectInit) (wOK_in (h := 20022) (by decide +kernel))) (hts (.instanceMethod objectInit) (wOK_in (h := 10022) (by decide +kernel))) (hts (.code objectInit ⟨#[0xb1]⟩ 1 none) (wOK_in (h := 10023) (by decide +kernel))) rfl (by rw [hml]; exact hl.1) rfl dX3_init_1 (Nat.le_of_ble_eq_true rfl) (Nat.le_of_ble_eq_true rfl) ?_
  refine W.eq (g2 := F0 m 4 ls []) rfl ?_
  refine lv_aload_n hx hb dX3_init_4 rfl (lv_at hl 0 rfl) ?_
  refine mk_bank (l := l) hx hb hml hown hts hU hT had hP hD hS hA hAB (hts (.classLink RX3 9 RX0) (wOK_in (h := 20023) (by decide +kernel))) (hU.2.2.2.2 _ (wON_in (h := 20024) (by decide +kernel))) (Nat.le_of_ble_eq_true rfl) (Nat.le_of_ble_eq_true rfl) (Nat.le_of_ble_eq_true rfl) (Nat.le_of_ble_eq_true rfl) (Nat.le_of_ble_eq_true rfl) hl.1 dX3_init_5 dX3_init_8 dX3_init_9 (fun u1 H locs hP hD hS => ?_)
  have hP : va_P Dg vwCl ([(h0, (Sum.inr (3, [.null, .null, .null, .null, .int 0]) : va_E))] ++ bkw S cA u1) H := hP
  have hD : va_D A ([(h0, (Sum.inr (3, [.null, .null, .null, .null, .int 0]) : va_E))] ++ bkw S cA u1) := hD
  refine va_putF (D := Dg) (ci := 3) (v := .ref (u1 0)) (ty := .object "RowGuard$Bank") (C := RX3) (T := TX3) (N := 5) hx hb hts (mx_in (ci := 3) rfl) tyX3 tyX3_ok nmX3 hown hU.2.1 hP hD hS 0 rfl rfl 0 (by decide) (hts (.fieldLink RX3 12 "RowGuard$Paper" "base" "LRowGuard$Bank;") (wOK_in (h := 20025) (by decide +kernel))) (fun _ h9 => h9) rfl hin rfl (by decide +kernel) rfl rfl (Nat.le_of_ble_eq_true rfl) dX3_init_12 (fun H locs hP hD hS => ?_)
  have hP : va_P Dg vwCl ([(h0, (Sum.inr (3, [.ref (u1 0), .null, .null, .null, .int 0]) : va_E))] ++ bkw S cA u1) H := hP
  have hD : va_D A ([(h0, (Sum.inr (3, [.ref (u1 0), .null, .null, .null, .int 0]) : va_E))] ++ bkw S cA u1) := hD
  refine lv_aload_n hx hb dX3_init_15 rfl (lv_at hl 0 rfl) ?_
  refine mk_bank (l := l) hx hb hml hown hts hU hT had hP hD hS hA hAB (hts (.classLink RX3 9 RX0) (wOK_in (h := 20023) (by decide +kernel))) (hU.2.2.2.2 _ (wON_in (h := 20024) (by decide +kernel))) (Nat.le_of_ble_eq_true rfl) (Nat.le_of_ble_eq_true rfl) (Nat.le_of_ble_eq_true rfl) (Nat.le_of_ble_eq_true rfl) (Nat.le_of_ble_eq_true rfl) hl.1 dX3_init_16 dX3_init_19 dX3_init_20 (fun u2 H locs hP hD hS => ?_)
  have hP : va_P Dg vwCl ([(h0, (Sum.inr (3, [.ref (u1 0), .null, .null, .null, .int 0]) : va_E))] ++ bkw S cA u1 ++ bkw S cA u2) H := hP
  have hD : va_D A ([(h0, (Sum.inr (3, [.ref (u1 0), .null, .null, .null, .int 0]) : va_E))] ++ bkw S cA u1 ++ bkw S cA u2) := hD
  refine va_putF (D := Dg) (ci := 3) (v := .ref (u2 0)) (ty := .object "RowGuard$Bank") (C := RX3) (T := TX3) (N := 5) hx hb hts (mx_in (ci := 3) rfl) tyX3 tyX3_ok nmX3 hown hU.2.1 hP hD hS 0 rfl rfl 1 (by decide) (hts (.fieldLink RX3 18 "RowGuard$Paper" "work" "LRowGuard$Bank;") (wOK_in (h := 20027) (by decide +kernel))) (fun _ h9 => h9) rfl hin rfl (by decide +kernel) rfl rfl (Nat.le_of_ble_eq_true rfl) dX3_init_23 (fun H locs hP hD hS => ?_)
  have hP : va_P Dg vwCl ([(h0, (Sum.inr (3, [.ref (u1 0), .ref (u2 0), .null, .null, .int 0]) : va_E))] ++ bkw S cA u1 ++ bkw S cA u2) H := hP
  have hD : va_D A ([(h0, (Sum.inr (3, [.ref (u1 0), .ref (u2 0), .null, .null, .int 0]) : va_E))] ++ bkw S cA u1 ++ bkw S cA u2) := hD
  refine lv_aload_n hx hb dX3_init_26 rfl (lv_at hl 0 rfl) ?_
  refine lv_bipush hx hb dX3_init_27 (v := 99) (by decide) ?_
  refine va_newa (atype := .int) (n := 99) (N' := 99) (a0 := (99, Sum.inl (fun _ => (0 : Int32)))) hx hb (hts (.arrayClass .int) (wOK_in (h := 10094) (by decide +kernel))) rfl hU.2.1 hP hD hS hA (fun _ => rfl) (by decide) (by decide) (Nat.le_of_ble_eq_true rfl) (Nat.le_of_ble_eq_true rfl) (Nat.le_of_ble_eq_true rfl) dX3_init_29 (fun q1 cB H hK2 hP hD hS => ?_)
  obtain rfl : cB = cA 0 := int_cls hK2
  have hP : va_P Dg vwCl ([(h0, (Sum.inr (3, [.ref (u1 0), .ref (u2 0), .null, .null, .int 0]) : va_E))] ++ bkw S cA u1 ++ bkw S cA u2 ++ [(q1, (Sum.inl (cA 0, 99, Sum.inl (fun _ => (0 : Int32))) : va_E))]) H := hP
  have hD : va_D A ([(h0, (Sum.inr (3, [.ref (u1 0), .ref (u2 0), .null, .null, .int 0]) : va_E))] ++ bkw S cA u1 ++ bkw S cA u2 ++ [(q1, (Sum.inl (cA 0, 99, Sum.inl (fun _ => (0 : Int32))) : va_E))]) := hD
  refine va_putF (D := Dg) (ci := 3) (v := .ref (q1)) (ty := .array .int) (C := RX3) (T := TX3) (N := 5) hx hb hts (mx_in (ci := 3) rfl) tyX3 tyX3_ok nmX3 hown hU.2.1 hP hD hS 0 rfl rfl 2 (by decide) (hts (.fieldLink RX3 21 "RowGuard$Paper" "list" "[I") (wOK_in (h := 20029) (by decide +kernel))) (fun _ h9 => h9) rfl hin rfl (by decide +kernel) rfl rfl (Nat.le_of_ble_eq_true rfl) dX3_init_31 (fun H locs hP hD hS => ?_)
  have hP : va_P Dg vwCl ([(h0, (Sum.inr (3, [.ref (u1 0), .ref (u2 0), .ref (q1), .null, .int 0]) : va_E))] ++ bkw S cA u1 ++ bkw S cA u2 ++ [(q1, (Sum.inl (cA 0, 99, Sum.inl (fun _ => (0 : Int32))) : va_E))]) H := hP
  have hD : va_D A ([(h0, (Sum.inr (3, [.ref (u1 0), .ref (u2 0), .ref (q1), .null, .int 0]) : va_E))] ++ bkw S cA u1 ++ bkw S cA u2 ++ [(q1, (Sum.inl (cA 0, 99, Sum.inl (fun _ => (0 : Int32))) : va_E))]) := hD
  refine lv_aload_n hx hb dX3_init_34 rfl (lv_at hl 0 rfl) ?_
  refine lv_iconst hx hb dX3_init_35 (v := 5) (by decide) ?_
  refine va_newa (atype := .int) (n := 5) (N' := 5) (a0 := (5, Sum.inl (fun _ => (0 : Int32)))) hx hb (hts (.arrayClass .int) (wOK_in (h := 10094) (by decide +kernel))) rfl hU.2.1 hP hD hS hA (fun _ => rfl) (by decide) (by decide) (Nat.le_of_ble_eq_true rfl) (Nat.le_of_ble_eq_true rfl) (Nat.le_of_ble_eq_true rfl) dX3_init_36 (fun q2 cB H hK2 hP hD hS => ?_)
  obtain rfl : cB = cA 0 := int_cls hK2
  have hP : va_P Dg vwCl ([(h0, (Sum.inr (3, [.ref (u1 0), .ref (u2 0), .ref (q1), .null, .int 0]) : va_E))] ++ bkw S cA u1 ++ bkw S cA u2 ++ [(q1, (Sum.inl (cA 0, 99, Sum.inl (fun _ => (0 : Int32))) : va_E))] ++ [(q2, (Sum.inl (cA 0, 5, Sum.inl (fun _ => (0 : Int32))) : va_E))]) H := hP
  have hD : va_D A ([(h0, (Sum.inr (3, [.ref (u1 0), .ref (u2 0), .ref (q1), .null, .int 0]) : va_E))] ++ bkw S cA u1 ++ bkw S cA u2 ++ [(q1, (Sum.inl (cA 0, 99, Sum.inl (fun _ => (0 : Int32))) : va_E))] ++ [(q2, (Sum.inl (cA 0, 5, Sum.inl (fun _ => (0 : Int32))) : va_E))]) := hD
  refine va_putF (D := Dg) (ci := 3) (v := .ref (q2)) (ty := .array .int) (C := RX3) (T := TX3) (N := 5) hx hb hts (mx_in (ci := 3) rfl) tyX3 tyX3_ok nmX3 hown hU.2.1 hP hD hS 0 rfl rfl 3 (by decide) (hts (.fieldLink RX3 25 "RowGuard$Paper" "worstOrder" "[I") (wOK_in (h := 20031) (by decide +kernel))) (fun _ h9 => h9) rfl hin rfl (by decide +kernel) rfl rfl (Nat.le_of_ble_eq_true rfl) dX3_init_38 (fun H locs hP hD hS => ?_)
  have hP : va_P Dg vwCl ([(h0, (Sum.inr (3, [.ref (u1 0), .ref (u2 0), .ref (q1), .ref (q2), .int 0]) : va_E))] ++ bkw S cA u1 ++ bkw S cA u2 ++ [(q1, (Sum.inl (cA 0, 99, Sum.inl (fun _ => (0 : Int32))) : va_E))] ++ [(q2, (Sum.inl (cA 0, 5, Sum.inl (fun _ => (0 : Int32))) : va_E))]) H := hP
  have hD : va_D A ([(h0, (Sum.inr (3, [.ref (u1 0), .ref (u2 0), .ref (q1), .ref (q2), .int 0]) : va_E))] ++ bkw S cA u1 ++ bkw S cA u2 ++ [(q1, (Sum.inl (cA 0, 99, Sum.inl (fun _ => (0 : Int32))) : va_E))] ++ [(q2, (Sum.inl (cA 0, 5, Sum.inl (fun _ => (0 : Int32))) : va_E))]) := hD
  exact W.vret hx hb hr (fun t ht hW => ⟨⟨(u1, u2, fun i => match i with | 0 => q1 | _ => q2), rfl, trivial, by rw [ht]; exact hP, hD⟩, hS.F ht⟩) hS.2.2 dX3_init_41
