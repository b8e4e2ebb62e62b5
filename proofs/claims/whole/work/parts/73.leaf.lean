/-! constructors of the small helpers -/
theorem int_cls {Dg : va_G} {cA : Nat → ClassId} {cB : ClassId} {s : State} (h : va_K Dg vwCl (tyA cA ++ [(cB, .int)]) s) : cB = cA 0 := by
  have h1 : s.vm.findClass ("[" ++ FieldType.int.toString) = some (cA 0) := (h.2 0 (cA 0, .int) rfl).2
  have h2 : s.vm.findClass ("[" ++ FieldType.int.toString) = some cB := (h.2 4 (cB, .int) rfl).2
  exact Option.some.inj (h2.symm.trans h1)
theorem dX4_init_0 : decode cX4_init 0 = .ok (.aload_n 0, 1) := by decide +kernel
theorem dX4_init_1 : decode cX4_init 1 = .ok (.invokespecial 3, 3) := by decide +kernel
theorem dX4_init_4 : decode cX4_init 4 = .ok (.aload_n 0, 1) := by decide +kernel
theorem dX4_init_5 : decode cX4_init 5 = .ok (.bipush 16, 2) := by decide +kernel
theorem dX4_init_7 : decode cX4_init 7 = .ok (.newarray .int, 2) := by decide +kernel
theorem dX4_init_9 : decode cX4_init 9 = .ok (.putfield 9, 3) := by decide +kernel
theorem dX4_init_12 : decode cX4_init 12 = .ok (.return_, 1) := by decide +kernel
theorem dX7_init_0 : decode cX7_init 0 = .ok (.aload_n 0, 1) := by decide +kernel
theorem dX7_init_1 : decode cX7_init 1 = .ok (.invokespecial 3, 3) := by decide +kernel
theorem dX7_init_4 : decode cX7_init 4 = .ok (.aload_n 0, 1) := by decide +kernel
theorem dX7_init_5 : decode cX7_init 5 = .ok (.bipush 60, 2) := by decide +kernel
theorem dX7_init_7 : decode cX7_init 7 = .ok (.newarray .int, 2) := by decide +kernel
theorem dX7_init_9 : decode cX7_init 9 = .ok (.putfield 9, 3) := by decide +kernel
theorem dX7_init_12 : decode cX7_init 12 = .ok (.return_, 1) := by decide +kernel
theorem dX8_init_0 : decode cX8_init 0 = .ok (.aload_n 0, 1) := by decide +kernel
theorem dX8_init_1 : decode cX8_init 1 = .ok (.invokespecial 3, 3) := by decide +kernel
theorem dX8_init_4 : decode cX8_init 4 = .ok (.aload_n 0, 1) := by decide +kernel
theorem dX8_init_5 : decode cX8_init 5 = .ok (.bipush 99, 2) := by decide +kernel
theorem dX8_init_7 : decode cX8_init 7 = .ok (.newarray .int, 2) := by decide +kernel
theorem dX8_init_9 : decode cX8_init 9 = .ok (.putfield 9, 3) := by decide +kernel
theorem dX8_init_12 : decode cX8_init 12 = .ok (.aload_n 0, 1) := by decide +kernel
theorem dX8_init_13 : decode cX8_init 13 = .ok (.bipush 99, 2) := by decide +kernel
theorem dX8_init_15 : decode cX8_init 15 = .ok (.newarray .int, 2) := by decide +kernel
theorem dX8_init_17 : decode cX8_init 17 = .ok (.putfield 15, 3) := by decide +kernel
theorem dX8_init_20 : decode cX8_init 20 = .ok (.return_, 1) := by decide +kernel
theorem dX5_init_0 : decode cX5_init 0 = .ok (.aload_n 0, 1) := by decide +kernel
theorem dX5_init_1 : decode cX5_init 1 = .ok (.invokespecial 3, 3) := by decide +kernel
theorem dX5_init_4 : decode cX5_init 4 = .ok (.aload_n 0, 1) := by decide +kernel
theorem dX5_init_5 : decode cX5_init 5 = .ok (.bipush 48, 2) := by decide +kernel
theorem dX5_init_7 : decode cX5_init 7 = .ok (.newarray .int, 2) := by decide +kernel
theorem dX5_init_9 : decode cX5_init 9 = .ok (.putfield 9, 3) := by decide +kernel
theorem dX5_init_12 : decode cX5_init 12 = .ok (.aload_n 0, 1) := by decide +kernel
theorem dX5_init_13 : decode cX5_init 13 = .ok (.iconst 3, 1) := by decide +kernel
theorem dX5_init_14 : decode cX5_init 14 = .ok (.newarray .int, 2) := by decide +kernel
theorem dX5_init_16 : decode cX5_init 16 = .ok (.putfield 15, 3) := by decide +kernel
theorem dX5_init_19 : decode cX5_init 19 = .ok (.aload_n 0, 1) := by decide +kernel
theorem dX5_init_20 : decode cX5_init 20 = .ok (.iconst 3, 1) := by decide +kernel
theorem dX5_init_21 : decode cX5_init 21 = .ok (.newarray .int, 2) := by decide +kernel
theorem dX5_init_23 : decode cX5_init 23 = .ok (.putfield 18, 3) := by decide +kernel
theorem dX5_init_26 : decode cX5_init 26 = .ok (.return_, 1) := by decide +kernel
theorem dX1_init_0 : decode cX1_init 0 = .ok (.aload_n 0, 1) := by decide +kernel
theorem dX1_init_1 : decode cX1_init 1 = .ok (.invokespecial 3, 3) := by decide +kernel
theorem dX1_init_4 : decode cX1_init 4 = .ok (.aload_n 0, 1) := by decide +kernel
theorem dX1_init_5 : decode cX1_init 5 = .ok (.bipush 8, 2) := by decide +kernel
theorem dX1_init_7 : decode cX1_init 7 = .ok (.newarray .int, 2) := by decide +kernel
theorem dX1_init_9 : decode cX1_init 9 = .ok (.putfield 9, 3) := by decide +kernel
theorem dX1_init_12 : decode cX1_init 12 = .ok (.aload_n 0, 1) := by decide +kernel
theorem dX1_init_13 : decode cX1_init 13 = .ok (.bipush 8, 2) := by decide +kernel
theorem dX1_init_15 : decode cX1_init 15 = .ok (.newarray .int, 2) := by decide +kernel
theorem dX1_init_17 : decode cX1_init 17 = .ok (.putfield 15, 3) := by decide +kernel
theorem dX1_init_20 : decode cX1_init 20 = .ok (.aload_n 0, 1) := by decide +kernel
theorem dX1_init_21 : decode cX1_init 21 = .ok (.bipush 8, 2) := by decide +kernel
theorem dX1_init_23 : decode cX1_init 23 = .ok (.newarray .int, 2) := by decide +kernel
theorem dX1_init_25 : decode cX1_init 25 = .ok (.putfield 18, 3) := by decide +kernel
theorem dX1_init_28 : decode cX1_init 28 = .ok (.aload_n 0, 1) := by decide +kernel
theorem dX1_init_29 : decode cX1_init 29 = .ok (.bipush 16, 2) := by decide +kernel
theorem dX1_init_31 : decode cX1_init 31 = .ok (.newarray .int, 2) := by decide +kernel
theorem dX1_init_33 : decode cX1_init 33 = .ok (.putfield 21, 3) := by decide +kernel
theorem dX1_init_36 : decode cX1_init 36 = .ok (.aload_n 0, 1) := by decide +kernel
theorem dX1_init_37 : decode cX1_init 37 = .ok (.bipush 8, 2) := by decide +kernel
theorem dX1_init_39 : decode cX1_init 39 = .ok (.newarray .int, 2) := by decide +kernel
theorem dX1_init_41 : decode cX1_init 41 = .ok (.putfield 24, 3) := by decide +kernel
theorem dX1_init_44 : decode cX1_init 44 = .ok (.aload_n 0, 1) := by decide +kernel
theorem dX1_init_45 : decode cX1_init 45 = .ok (.bipush 8, 2) := by decide +kernel
theorem dX1_init_47 : decode cX1_init 47 = .ok (.newarray .int, 2) := by decide +kernel
theorem dX1_init_49 : decode cX1_init 49 = .ok (.putfield 27, 3) := by decide +kernel
theorem dX1_init_52 : decode cX1_init 52 = .ok (.return_, 1) := by decide +kernel
theorem dX6_init_0 : decode cX6_init 0 = .ok (.aload_n 0, 1) := by decide +kernel
theorem dX6_init_1 : decode cX6_init 1 = .ok (.invokespecial 3, 3) := by decide +kernel
theorem dX6_init_4 : decode cX6_init 4 = .ok (.aload_n 0, 1) := by decide +kernel
theorem dX6_init_5 : decode cX6_init 5 = .ok (.bipush 16, 2) := by decide +kernel
theorem dX6_init_7 : decode cX6_init 7 = .ok (.newarray .int, 2) := by decide +kernel
theorem dX6_init_9 : decode cX6_init 9 = .ok (.putfield 9, 3) := by decide +kernel
theorem dX6_init_12 : decode cX6_init 12 = .ok (.aload_n 0, 1) := by decide +kernel
theorem dX6_init_13 : decode cX6_init 13 = .ok (.bipush 16, 2) := by decide +kernel
theorem dX6_init_15 : decode cX6_init 15 = .ok (.newarray .int, 2) := by decide +kernel
theorem dX6_init_17 : decode cX6_init 17 = .ok (.putfield 15, 3) := by decide +kernel
theorem dX6_init_20 : decode cX6_init 20 = .ok (.aload_n 0, 1) := by decide +kernel
theorem dX6_init_21 : decode cX6_init 21 = .ok (.bipush 16, 2) := by decide +kernel
theorem dX6_init_23 : decode cX6_init 23 = .ok (.newarray .int, 2) := by decide +kernel
theorem dX6_init_25 : decode cX6_init 25 = .ok (.putfield 18, 3) := by decide +kernel
theorem dX6_init_28 : decode cX6_init 28 = .ok (.aload_n 0, 1) := by decide +kernel
theorem dX6_init_29 : decode cX6_init 29 = .ok (.bipush 16, 2) := by decide +kernel
theorem dX6_init_31 : decode cX6_init 31 = .ok (.newarray .int, 2) := by decide +kernel
theorem dX6_init_33 : decode cX6_init 33 = .ok (.putfield 21, 3) := by decide +kernel
theorem dX6_init_36 : decode cX6_init 36 = .ok (.aload_n 0, 1) := by decide +kernel
theorem dX6_init_37 : decode cX6_init 37 = .ok (.bipush 16, 2) := by decide +kernel
theorem dX6_init_39 : decode cX6_init 39 = .ok (.newarray .int, 2) := by decide +kernel
theorem dX6_init_41 : decode cX6_init 41 = .ok (.putfield 24, 3) := by decide +kernel
theorem dX6_init_44 : decode cX6_init 44 = .ok (.aload_n 0, 1) := by decide +kernel
theorem dX6_init_45 : decode cX6_init 45 = .ok (.bipush 16, 2) := by decide +kernel
theorem dX6_init_47 : decode cX6_init 47 = .ok (.newarray .int, 2) := by decide +kernel
theorem dX6_init_49 : decode cX6_init 49 = .ok (.putfield 27, 3) := by decide +kernel
theorem dX6_init_52 : decode cX6_init 52 = .ok (.aload_n 0, 1) := by decide +kernel
theorem dX6_init_53 : decode cX6_init 53 = .ok (.bipush 16, 2) := by decide +kernel
theorem dX6_init_55 : decode cX6_init 55 = .ok (.newarray .int, 2) := by decide +kernel
theorem dX6_init_57 : decode cX6_init 57 = .ok (.putfield 30, 3) := by decide +kernel
theorem dX6_init_60 : decode cX6_init 60 = .ok (.aload_n 0, 1) := by decide +kernel
theorem dX6_init_61 : decode cX6_init 61 = .ok (.bipush 16, 2) := by decide +kernel
theorem dX6_init_63 : decode cX6_init 63 = .ok (.newarray .int, 2) := by decide +kernel
theorem dX6_init_65 : decode cX6_init 65 = .ok (.putfield 33, 3) := by decide +kernel
theorem dX6_init_68 : decode cX6_init 68 = .ok (.return_, 1) := by decide +kernel
set_option maxHeartbeats 4000000 in
set_option maxRecDepth 100000 in
/-- Queue() : its rows are made -/
theorem kX4 (l : Launch) (Dg : va_G) (cA : Nat → ClassId) (h0 sz : Nat) : Met l yX4_init (.code yX4_init cX4_init 1 none :: GT) ({ frames := 1, cells := 1, slots := 16, locals := 12 }) (va_Pc [.ref h0] (fun U => U.heap.size = sz ∧ va_P Dg vwCl [(h0, (Sum.inr (4, [.int 0, .int 0, .null]) : va_E))] U.heap ∧ va_K Dg vwCl (tyA cA) U ∧ va_D (fun _ => True) [(h0, (Sum.inr (4, [.int 0, .int 0, .null]) : va_E))])) (va_Qv (fun _ : Nat → Nat => True) (fun u t => va_P Dg vwCl [(h0, (Sum.inr (4, [.int 0, .int 0, .ref (u 1)]) : va_E)), (u 1, (Sum.inl (cA 0, 16, Sum.inl (fun _ => (0 : Int32))) : va_E))] t.heap ∧ va_D (va_A [(h0, (Sum.inr (4, [.int 0, .int 0, .null]) : va_E))] sz) [(h0, (Sum.inr (4, [.int 0, .int 0, .ref (u 1)]) : va_E)), (u 1, (Sum.inl (cA 0, 16, Sum.inl (fun _ => (0 : Int32))) : va_E))]) (va_A [(h0, (Sum.inr (4, [.int 0, .int 0, .null]) : va_E))] sz)) 1 16 (va_A [(h0, (Sum.inr (4, [.int 0, .int 0, .null]) : va_E))] sz) := by
  refine Met.ofW (cc := cX4_init) (maxL := 1) (ret := none) (by decide) rfl ?_
  intro p e s m args below meth c s₁ B hml hv
  obtain ⟨rfl, hsz, hP, hK, hD0⟩ := hv
  have hx := B.exec
  have hb := B.bytes
  have hr := B.returns
  have hts' := atoms_spec (ws := .code yX4_init cX4_init 1 none :: GT) B.pre
  have hts : ∀ w ∈ GT, w.before #[Value.ref h0] s = true := fun w hw => hts' w (List.mem_cons_of_mem _ hw)
  have hown : s.vm.findClass RX4 = some m.cls := findClass_of_methodNamed B.named
  have hlocks := B.notSynchronized
  have hin : meth.name = "<init>" := (name_of_methodNamed B.named B.method).1
  subst hsz
  have hD := hD0.self (sz := s.heap.size)
  generalize hAe : va_A [(h0, (Sum.inr (4, [.int 0, .int 0, .null]) : va_E))] s.heap.size = A at hD ⊢
  have hA : ∀ q : Nat, s.heap.size ≤ q → A q := fun q h => by rw [← hAe]; exact Or.inr h
  have hS : va_S A s.heap s.heap [] := va_S.rf
  have hl := lv_entry ([.ref h0]) (n := 1) (Nat.le_of_ble_eq_true rfl)
  rw [lg_entry_eq]
  generalize (lg_sl ([.ref h0]) ++ List.replicate (1 - (lg_sl ([.ref h0])).length) Slot.unset).toArray = ls at hl ⊢
  have hl : lv_has ls 1 [(0, .ref h0)] := hl
  refine lv_aload_n hx hb dX4_init_0 rfl (lv_at hl 0 rfl) ?_
  refine W.objInit hx hb hown (hts (.methodLink RX4 3 objectInit) (wOK_in (h := 10164) (by decide +kernel))) (hts (.instanceMethod objectInit) (wOK_in (h := 10022) (by decide +kernel))) (hts (.code objectInit ⟨#[0xb1]⟩ 1 none) (wOK_in (h := 10023) (by decide +kernel))) rfl (by rw [hml]; exact hl.1) rfl dX4_init_1 (Nat.le_of_ble_eq_true rfl) (Nat.le_of_ble_eq_true rfl) ?_
  refine W.eq (g2 := F0 m 4 ls []) rfl ?_
  refine lv_aload_n hx hb dX4_init_4 rfl (lv_at hl 0 rfl) ?_
  refine lv_bipush hx hb dX4_init_5 (v := 16) (by decide) ?_
  refine va_newa (atype := .int) (n := 16) (N' := 16) (a0 := (16, Sum.inl (fun _ => (0 : Int32)))) hx hb (hts (.arrayClass .int) (wOK_in (h := 10094) (by decide +kernel))) rfl hK hP hD hS hA (fun _ => rfl) (by decide) (by decide) (Nat.le_of_ble_eq_true rfl) (Nat.le_of_ble_eq_true rfl) (Nat.le_of_ble_eq_true rfl) dX4_init_7 (fun q1 cB H hK2 hP hD hS => ?_)
  obtain rfl : cB = cA 0 := int_cls hK2
  have hP : va_P Dg vwCl [(h0, (Sum.inr (4, [.int 0, .int 0, .null]) : va_E)), (q1, (Sum.inl (cA 0, 16, Sum.inl (fun _ => (0 : Int32))) : va_E))] H := hP
  have hD : va_D A [(h0, (Sum.inr (4, [.int 0, .int 0, .null]) : va_E)), (q1, (Sum.inl (cA 0, 16, Sum.inl (fun _ => (0 : Int32))) : va_E))] := hD
  refine va_putF (D := Dg) (ci := 4) (v := .ref q1) (ty := .array .int) (C := RX4) (T := TX4) (N := 3) hx hb hts (mx_in (ci := 4) rfl) tyX4 tyX4_ok nmX4 hown hK hP hD hS 0 rfl rfl 2 (by decide) (hts (.fieldLink RX4 9 "RowGuard$Queue" "list" "[I") (wOK_in (h := 10169) (by decide +kernel))) (fun _ h9 => h9) rfl hin rfl (by decide +kernel) rfl rfl (Nat.le_of_ble_eq_true rfl) dX4_init_9 (fun H locs hP hD hS => ?_)
  have hP : va_P Dg vwCl [(h0, (Sum.inr (4, [.int 0, .int 0, .ref q1]) : va_E)), (q1, (Sum.inl (cA 0, 16, Sum.inl (fun _ => (0 : Int32))) : va_E))] H := hP
  have hD : va_D A [(h0, (Sum.inr (4, [.int 0, .int 0, .ref q1]) : va_E)), (q1, (Sum.inl (cA 0, 16, Sum.inl (fun _ => (0 : Int32))) : va_E))] := hD
  exact W.vret hx hb hr (fun t ht hW => ⟨⟨(fun i => match i with | _ => q1), rfl, trivial, by rw [ht]; exact hP, hD⟩, hS.F ht⟩) hS.2.2 dX4_init_12
set_option maxHeartbeats 4000000 in
set_option maxRecDepth 100000 in
/-- Tape() : its rows are made -/
theorem kX7 (l : Launch) (Dg : va_G) (cA : Nat → ClassId) (h0 sz : Nat) : Met l yX7_init (.code yX7_init cX7_init 1 none :: GT) ({ frames := 1, cells := 1, slots := 60, locals := 12 }) (va_Pc [.ref h0] (fun U => U.heap.size = sz ∧ va_P Dg vwCl [(h0, (Sum.inr (7, [.int 0, .null]) : va_E))] U.heap ∧ va_K Dg vwCl (tyA cA) U ∧ va_D (fun _ => True) [(h0, (Sum.inr (7, [.int 0, .null]) : va_E))])) (va_Qv (fun _ : Nat → Nat => True) (fun u t => va_P Dg vwCl [(h0, (Sum.inr (7, [.int 0, .ref (u 1)]) : va_E)), (u 1, (Sum.inl (cA 0, 60, Sum.inl (fun _ => (0 : Int32))) : va_E))] t.heap ∧ va_D (va_A [(h0, (Sum.inr (7, [.int 0, .null]) : va_E))] sz) [(h0, (Sum.inr (7, [.int 0, .ref (u 1)]) : va_E)), (u 1, (Sum.inl (cA 0, 60, Sum.inl (fun _ => (0 : Int32))) : va_E))]) (va_A [(h0, (Sum.inr (7, [.int 0, .null]) : va_E))] sz)) 1 60 (va_A [(h0, (Sum.inr (7, [.int 0, .null]) : va_E))] sz) := by
  refine Met.ofW (cc := cX7_init) (maxL := 1) (ret := none) (by decide) rfl ?_
  intro p e s m args below meth c s₁ B hml hv
  obtain ⟨rfl, hsz, hP, hK, hD0⟩ := hv
  have hx := B.exec
  have hb := B.bytes
  have hr := B.returns
  have hts' := atoms_spec (ws := .code yX7_init cX7_init 1 none :: GT) B.pre
  have hts : ∀ w ∈ GT, w.before #[Value.ref h0] s = true := fun w hw => hts' w (List.mem_cons_of_mem _ hw)
  have hown : s.vm.findClass RX7 = some m.cls := findClass_of_methodNamed B.named
  have hlocks := B.notSynchronized
  have hin : meth.name = "<init>" := (name_of_methodNamed B.named B.method).1
  subst hsz
  have hD := hD0.self (sz := s.heap.size)
  generalize hAe : va_A [(h0, (Sum.inr (7, [.int 0, .null]) : va_E))] s.heap.size = A at hD ⊢
  have hA : ∀ q : Nat, s.heap.size ≤ q → A q := fun q h => by rw [← hAe]; exact Or.inr h
  have hS : va_S A s.heap s.heap [] := va_S.rf
  have hl := lv_entry ([.ref h0]) (n := 1) (Nat.le_of_ble_eq_true rfl)
  rw [lg_entry_eq]
  generalize (lg_sl ([.ref h0]) ++ List.replicate (1 - (lg_sl ([.ref h0])).length) Slot.unset).toArray = ls at hl ⊢
  have hl : lv_has ls 1 [(0, .ref h0)] := hl
  refine lv_aload_n hx hb dX7_init_0 rfl (lv_at hl 0 rfl) ?_
  refine W.objInit hx hb hown (hts (.methodLink RX7 3 objectInit) (wOK_in (h := 20077) (by decide +kernel))) (hts (.instanceMethod objectInit) (wOK_in (h := 10022) (by decide +kernel))) (hts (.code objectInit ⟨#[0xb1]⟩ 1 none) (wOK_in (h := 10023) (by decide +kernel))) rfl (by rw [hml]; exact hl.1) rfl dX7_init_1 (Nat.le_of_ble_eq_true rfl) (Nat.le_of_ble_eq_true rfl) ?_
  refine W.eq (g2 := F0 m 4 ls []) rfl ?_
  refine lv_aload_n hx hb dX7_init_4 rfl (lv_at hl 0 rfl) ?_
  refine lv_bipush hx hb dX7_init_5 (v := 60) (by decide) ?_
  refine va_newa (atype := .int) (n := 60) (N' := 60) (a0 := (60, Sum.inl (fun _ => (0 : Int32)))) hx hb (hts (.arrayClass .int) (wOK_in (h := 10094) (by decide +kernel))) rfl hK hP hD hS hA (fun _ => rfl) (by decide) (by decide) (Nat.le_of_ble_eq_true rfl) (Nat.le_of_ble_eq_true rfl) (Nat.le_of_ble_eq_true rfl) dX7_init_7 (fun q1 cB H hK2 hP hD hS => ?_)
  obtain rfl : cB = cA 0 := int_cls hK2
  have hP : va_P Dg vwCl [(h0, (Sum.inr (7, [.int 0, .null]) : va_E)), (q1, (Sum.inl (cA 0, 60, Sum.inl (fun _ => (0 : Int32))) : va_E))] H := hP
  have hD : va_D A [(h0, (Sum.inr (7, [.int 0, .null]) : va_E)), (q1, (Sum.inl (cA 0, 60, Sum.inl (fun _ => (0 : Int32))) : va_E))] := hD
  refine va_putF (D := Dg) (ci := 7) (v := .ref q1) (ty := .array .int) (C := RX7) (T := TX7) (N := 2) hx hb hts (mx_in (ci := 7) rfl) tyX7 tyX7_ok nmX7 hown hK hP hD hS 0 rfl rfl 1 (by decide) (hts (.fieldLink RX7 9 "RowGuard$Tape" "bytes" "[I") (wOK_in (h := 20080) (by decide +kernel))) (fun _ h9 => h9) rfl hin rfl (by decide +kernel) rfl rfl (Nat.le_of_ble_eq_true rfl) dX7_init_9 (fun H locs hP hD hS => ?_)
  have hP : va_P Dg vwCl [(h0, (Sum.inr (7, [.int 0, .ref q1]) : va_E)), (q1, (Sum.inl (cA 0, 60, Sum.inl (fun _ => (0 : Int32))) : va_E))] H := hP
  have hD : va_D A [(h0, (Sum.inr (7, [.int 0, .ref q1]) : va_E)), (q1, (Sum.inl (cA 0, 60, Sum.inl (fun _ => (0 : Int32))) : va_E))] := hD
  exact W.vret hx hb hr (fun t ht hW => ⟨⟨(fun i => match i with | _ => q1), rfl, trivial, by rw [ht]; exact hP, hD⟩, hS.F ht⟩) hS.2.2 dX7_init_12
set_option maxHeartbeats 4000000 in
set_option maxRecDepth 100000 in
/-- Waiting() : its rows are made -/
theorem kX8 (l : Launch) (Dg : va_G) (cA : Nat → ClassId) (h0 sz : Nat) : Met l yX8_init (.code yX8_init cX8_init 1 none :: GT) ({ frames := 1, cells := 2, slots := 198, locals := 12 }) (va_Pc [.ref h0] (fun U => U.heap.size = sz ∧ va_P Dg vwCl [(h0, (Sum.inr (8, [.int 0, .null, .null]) : va_E))] U.heap ∧ va_K Dg vwCl (tyA cA) U ∧ va_D (fun _ => True) [(h0, (Sum.inr (8, [.int 0, .null, .null]) : va_E))])) (va_Qv (fun _ : Nat → Nat => True) (fun u t => va_P Dg vwCl [(h0, (Sum.inr (8, [.int 0, .ref (u 1), .ref (u 2)]) : va_E)), (u 1, (Sum.inl (cA 0, 99, Sum.inl (fun _ => (0 : Int32))) : va_E)), (u 2, (Sum.inl (cA 0, 99, Sum.inl (fun _ => (0 : Int32))) : va_E))] t.heap ∧ va_D (va_A [(h0, (Sum.inr (8, [.int 0, .null, .null]) : va_E))] sz) [(h0, (Sum.inr (8, [.int 0, .ref (u 1), .ref (u 2)]) : va_E)), (u 1, (Sum.inl (cA 0, 99, Sum.inl (fun _ => (0 : Int32))) : va_E)), (u 2, (Sum.inl (cA 0, 99, Sum.inl (fun _ => (0 : Int32))) : va_E))]) (va_A [(h0, (Sum.inr (8, [.int 0, .null, .null]) : va_E))] sz)) 2 198 (va_A [(h0, (Sum.inr (8, [.int 0, .null, .null]) : va_E))] sz) := by
  refine Met.ofW (cc := cX8_init) (maxL := 1) (ret := none) (by decide) rfl ?_
  intro p e s m args below meth c s₁ B hml hv
  obtain ⟨rfl, hsz, hP, hK, hD0⟩ := hv
  have hx := B.exec
  have hb := B.bytes
  have hr := B.returns
  have hts' := atoms_spec (ws := .code yX8_init cX8_init 1 none :: GT) B.pre
  have hts : ∀ w ∈ GT, w.before #[Value.ref h0] s = true := fun w hw => hts' w (List.mem_cons_of_mem _ hw)
  have hown : s.vm.findClass RX8 = some m.cls := findClass_of_methodNamed B.named
  have hlocks := B.notSynchronized
  have hin : meth.name = "<init>" := (name_of_methodNamed B.named B.method).1
  subst hsz
  have hD := hD0.self (sz := s.heap.size)
  generalize hAe : va_A [(h0, (Sum.inr (8, [.int 0, .null, .null]) : va_E))] s.heap.size = A at hD ⊢
  have hA : ∀ q : Nat, s.heap.size ≤ q → A q := fun q h => by rw [← hAe]; exact Or.inr h
  have hS : va_S A s.heap s.heap [] := va_S.rf
  have hl := lv_entry ([.ref h0]) (n := 1) (Nat.le_of_ble_eq_true rfl)
  rw [lg_entry_eq]
  generalize (lg_sl ([.ref h0]) ++ List.replicate (1 - (lg_sl ([.ref h0])).length) Slot.unset).toArray = ls at hl ⊢
  have hl : lv_has ls 1 [(0, .ref h0)] := hl
  refine lv_aload_n hx hb dX8_init_0 rfl (lv_at hl 0 rfl) ?_
  refine W.objInit hx hb hown (hts (.methodLink RX8 3 objectInit) (wOK_in (h := 10142) (by decide +kernel))) (hts (.instanceMethod objectInit) (wOK_in (h := 10022) (by decide +kernel))) (hts (.code objectInit ⟨#[0xb1]⟩ 1 none) (wOK_in (h := 10023) (by decide +kernel))) rfl (by rw [hml]; exact hl.1) rfl dX8_init_1 (Nat.le_of_ble_eq_true rfl) (Nat.le_of_ble_eq_true rfl) ?_
  refine W.eq (g2 := F0 m 4 ls []) rfl ?_
  refine lv_aload_n hx hb dX8_init_4 rfl (lv_at hl 0 rfl) ?_
  refine lv_bipush hx hb dX8_init_5 (v := 99) (by decide) ?_
  refine va_newa (atype := .int) (n := 99) (N' := 99) (a0 := (99, Sum.inl (fun _ => (0 : Int32)))) hx hb (hts (.arrayClass .int) (wOK_in (h := 10094) (by decide +kernel))) rfl hK hP hD hS hA (fun _ => rfl) (by decide) (by decide) (Nat.le_of_ble_eq_true rfl) (Nat.le_of_ble_eq_true rfl) (Nat.le_of_ble_eq_true rfl) dX8_init_7 (fun q1 cB H hK2 hP hD hS => ?_)
  obtain rfl : cB = cA 0 := int_cls hK2
  have hP : va_P Dg vwCl [(h0, (Sum.inr (8, [.int 0, .null, .null]) : va_E)), (q1, (Sum.inl (cA 0, 99, Sum.inl (fun _ => (0 : Int32))) : va_E))] H := hP
  have hD : va_D A [(h0, (Sum.inr (8, [.int 0, .null, .null]) : va_E)), (q1, (Sum.inl (cA 0, 99, Sum.inl (fun _ => (0 : Int32))) : va_E))] := hD
  refine va_putF (D := Dg) (ci := 8) (v := .ref q1) (ty := .array .int) (C := RX8) (T := TX8) (N := 3) hx hb hts (mx_in (ci := 8) rfl) tyX8 tyX8_ok nmX8 hown hK hP hD hS 0 rfl rfl 1 (by decide) (hts (.fieldLink RX8 9 "RowGuard$Waiting" "list" "[I") (wOK_in (h := 10147) (by decide +kernel))) (fun _ h9 => h9) rfl hin rfl (by decide +kernel) rfl rfl (Nat.le_of_ble_eq_true rfl) dX8_init_9 (fun H locs hP hD hS => ?_)
  have hP : va_P Dg vwCl [(h0, (Sum.inr (8, [.int 0, .ref q1, .null]) : va_E)), (q1, (Sum.inl (cA 0, 99, Sum.inl (fun _ => (0 : Int32))) : va_E))] H := hP
  have hD : va_D A [(h0, (Sum.inr (8, [.int 0, .ref q1, .null]) : va_E)), (q1, (Sum.inl (cA 0, 99, Sum.inl (fun _ => (0 : Int32))) : va_E))] := hD
  refine lv_aload_n hx hb dX8_init_12 rfl (lv_at hl 0 rfl) ?_
  refine lv_bipush hx hb dX8_init_13 (v := 99) (by decide) ?_
  refine va_newa (atype := .int) (n := 99) (N' := 99) (a0 := (99, Sum.inl (fun _ => (0 : Int32)))) hx hb (hts (.arrayClass .int) (wOK_in (h := 10094) (by decide +kernel))) rfl hK hP hD hS hA (fun _ => rfl) (by decide) (by decide) (Nat.le_of_ble_eq_true rfl) (Nat.le_of_ble_eq_true rfl) (Nat.le_of_ble_eq_true rfl) dX8_init_15 (fun q2 cB H hK2 hP hD hS => ?_)
  obtain rfl : cB = cA 0 := int_cls hK2
  have hP : va_P Dg vwCl [(h0, (Sum.inr (8, [.int 0, .ref q1, .null]) : va_E)), (q1, (Sum.inl (cA 0, 99, Sum.inl (fun _ => (0 : Int32))) : va_E)), (q2, (Sum.inl (cA 0, 99, Sum.inl (fun _ => (0 : Int32))) : va_E))] H := hP
  have hD : va_D A [(h0, (Sum.inr (8, [.int 0, .ref q1, .null]) : va_E)), (q1, (Sum.inl (cA 0, 99, Sum.inl (fun _ => (0 : Int32))) : va_E)), (q2, (Sum.inl (cA 0, 99, Sum.inl (fun _ => (0 : Int32))) : va_E))] := hD
  refine va_putF (D := Dg) (ci := 8) (v := .ref q2) (ty := .array .int) (C := RX8) (T := TX8) (N := 3) hx hb hts (mx_in (ci := 8) rfl) tyX8 tyX8_ok nmX8 hown hK hP hD hS 0 rfl rfl 2 (by decide) (hts (.fieldLink RX8 15 "RowGuard$Waiting" "since" "[I") (wOK_in (h := 10150) (by decide +kernel))) (fun _ h9 => h9) rfl hin rfl (by decide +kernel) rfl rfl (Nat.le_of_ble_eq_true rfl) dX8_init_17 (fun H locs hP hD hS => ?_)
  have hP : va_P Dg vwCl [(h0, (Sum.inr (8, [.int 0, .ref q1, .ref q2]) : va_E)), (q1, (Sum.inl (cA 0, 99, Sum.inl (fun _ => (0 : Int32))) : va_E)), (q2, (Sum.inl (cA 0, 99, Sum.inl (fun _ => (0 : Int32))) : va_E))] H := hP
  have hD : va_D A [(h0, (Sum.inr (8, [.int 0, .ref q1, .ref q2]) : va_E)), (q1, (Sum.inl (cA 0, 99, Sum.inl (fun _ => (0 : Int32))) : va_E)), (q2, (Sum.inl (cA 0, 99, Sum.inl (fun _ => (0 : Int32))) : va_E))] := hD
  exact W.vret hx hb hr (fun t ht hW => ⟨⟨(fun i => match i with | 1 => q1 | _ => q2), rfl, trivial, by rw [ht]; exact hP, hD⟩, hS.F ht⟩) hS.2.2 dX8_init_20
set_option maxHeartbeats 4000000 in
set_option maxRecDepth 100000 in
/-- Reader() : its rows are made -/
theorem kX5 (l : Launch) (Dg : va_G) (cA : Nat → ClassId) (h0 sz : Nat) : Met l yX5_init (.code yX5_init cX5_init 1 none :: GT) ({ frames := 1, cells := 3, slots := 54, locals := 12 }) (va_Pc [.ref h0] (fun U => U.heap.size = sz ∧ va_P Dg vwCl [(h0, (Sum.inr (5, [.null, .null, .null, .int 0, .int 0, .int 0, .int 0, .int 0, .int 0, .int 0, .int 0, .int 0]) : va_E))] U.heap ∧ va_K Dg vwCl (tyA cA) U ∧ va_D (fun _ => True) [(h0, (Sum.inr (5, [.null, .null, .null, .int 0, .int 0, .int 0, .int 0, .int 0, .int 0, .int 0, .int 0, .int 0]) : va_E))])) (va_Qv (fun _ : Nat → Nat => True) (fun u t => va_P Dg vwCl [(h0, (Sum.inr (5, [.ref (u 1), .ref (u 2), .ref (u 3), .int 0, .int 0, .int 0, .int 0, .int 0, .int 0, .int 0, .int 0, .int 0]) : va_E)), (u 1, (Sum.inl (cA 0, 48, Sum.inl (fun _ => (0 : Int32))) : va_E)), (u 2, (Sum.inl (cA 0, 3, Sum.inl (fun _ => (0 : Int32))) : va_E)), (u 3, (Sum.inl (cA 0, 3, Sum.inl (fun _ => (0 : Int32))) : va_E))] t.heap ∧ va_D (va_A [(h0, (Sum.inr (5, [.null, .null, .null, .int 0, .int 0, .int 0, .int 0, .int 0, .int 0, .int 0, .int 0, .int 0]) : va_E))] sz) [(h0, (Sum.inr (5, [.ref (u 1), .ref (u 2), .ref (u 3), .int 0, .int 0, .int 0, .int 0, .int 0, .int 0, .int 0, .int 0, .int 0]) : va_E)), (u 1, (Sum.inl (cA 0, 48, Sum.inl (fun _ => (0 : Int32))) : va_E)), (u 2, (Sum.inl (cA 0, 3, Sum.inl (fun _ => (0 : Int32))) : va_E)), (u 3, (Sum.inl (cA 0, 3, Sum.inl (fun _ => (0 : Int32))) : va_E))]) (va_A [(h0, (Sum.inr (5, [.null, .null, .null, .int 0, .int 0, .int 0, .int 0, .int 0, .int 0, .int 0, .int 0, .int 0]) : va_E))] sz)) 3 54 (va_A [(h0, (Sum.inr (5, [.null, .null, .null, .int 0, .int 0, .int 0, .int 0, .int 0, .int 0, .int 0, .int 0, .int 0]) : va_E))] sz) := by
  refine Met.ofW (cc := cX5_init) (maxL := 1) (ret := none) (by decide) rfl ?_
  intro p e s m args below meth c s₁ B hml hv
  obtain ⟨rfl, hsz, hP, hK, hD0⟩ := hv
  have hx := B.exec
  have hb := B.bytes
  have hr := B.returns
  have hts' := atoms_spec (ws := .code yX5_init cX5_init 1 none :: GT) B.pre
  have hts : ∀ w ∈ GT, w.before #[Value.ref h0] s = true := fun w hw => hts' w (List.mem_cons_of_mem _ hw)
  have hown : s.vm.findClass RX5 = some m.cls := findClass_of_methodNamed B.named
  have hlocks := B.notSynchronized
  have hin : meth.name = "<init>" := (name_of_methodNamed B.named B.method).1
  subst hsz
  have hD := hD0.self (sz := s.heap.size)
  generalize hAe : va_A [(h0, (Sum.inr (5, [.null, .null, .null, .int 0, .int 0, .int 0, .int 0, .int 0, .int 0, .int 0, .int 0, .int 0]) : va_E))] s.heap.size = A at hD ⊢
  have hA : ∀ q : Nat, s.heap.size ≤ q → A q := fun q h => by rw [← hAe]; exact Or.inr h
  have hS : va_S A s.heap s.heap [] := va_S.rf
  have hl := lv_entry ([.ref h0]) (n := 1) (Nat.le_of_ble_eq_true rfl)
  rw [lg_entry_eq]
  generalize (lg_sl ([.ref h0]) ++ List.replicate (1 - (lg_sl ([.ref h0])).length) Slot.unset).toArray = ls at hl ⊢
  have hl : lv_has ls 1 [(0, .ref h0)] := hl
  refine lv_aload_n hx hb dX5_init_0 rfl (lv_at hl 0 rfl) ?_
  refine W.objInit hx hb hown (hts (.methodLink RX5 3 objectInit) (wOK_in (h := 20092) (by decide +kernel))) (hts (.instanceMethod objectInit) (wOK_in (h := 10022) (by decide +kernel))) (hts (.code objectInit ⟨#[0xb1]⟩ 1 none) (wOK_in (h := 10023) (by decide +kernel))) rfl (by rw [hml]; exact hl.1) rfl dX5_init_1 (Nat.le_of_ble_eq_true rfl) (Nat.le_of_ble_eq_true rfl) ?_
  refine W.eq (g2 := F0 m 4 ls []) rfl ?_
  refine lv_aload_n hx hb dX5_init_4 rfl (lv_at hl 0 rfl) ?_
  refine lv_bipush hx hb dX5_init_5 (v := 48) (by decide) ?_
  refine va_newa (atype := .int) (n := 48) (N' := 48) (a0 := (48, Sum.inl (fun _ => (0 : Int32)))) hx hb (hts (.arrayClass .int) (wOK_in (h := 10094) (by decide +kernel))) rfl hK hP hD hS hA (fun _ => rfl) (by decide) (by decide) (Nat.le_of_ble_eq_true rfl) (Nat.le_of_ble_eq_true rfl) (Nat.le_of_ble_eq_true rfl) dX5_init_7 (fun q1 cB H hK2 hP hD hS => ?_)
  obtain rfl : cB = cA 0 := int_cls hK2
  have hP : va_P Dg vwCl [(h0, (Sum.inr (5, [.null, .null, .null, .int 0, .int 0, .int 0, .int 0, .int 0, .int 0, .int 0, .int 0, .int 0]) : va_E)), (q1, (Sum.inl (cA 0, 48, Sum.inl (fun _ => (0 : Int32))) : va_E))] H := hP
  have hD : va_D A [(h0, (Sum.inr (5, [.null, .null, .null, .int 0, .int 0, .int 0, .int 0, .int 0, .int 0, .int 0, .int 0, .int 0]) : va_E)), (q1, (Sum.inl (cA 0, 48, Sum.inl (fun _ => (0 : Int32))) : va_E))] := hD
  refine va_putF (D := Dg) (ci := 5) (v := .ref q1) (ty := .array .int) (C := RX5) (T := TX5) (N := 12) hx hb hts (mx_in (ci := 5) rfl) tyX5 tyX5_ok nmX5 hown hK hP hD hS 0 rfl rfl 0 (by decide) (hts (.fieldLink RX5 9 "RowGuard$Reader" "found" "[I") (wOK_in (h := 20093) (by decide +kernel))) (fun _ h9 => h9) rfl hin rfl (by decide +kernel) rfl rfl (Nat.le_of_ble_eq_true rfl) dX5_init_9 (fun H locs hP hD hS => ?_)
  have hP : va_P Dg vwCl [(h0, (Sum.inr (5, [.ref q1, .null, .null, .int 0, .int 0, .int 0, .int 0, .int 0, .int 0, .int 0, .int 0, .int 0]) : va_E)), (q1, (Sum.inl (cA 0, 48, Sum.inl (fun _ => (0 : Int32))) : va_E))] H := hP
  have hD : va_D A [(h0, (Sum.inr (5, [.ref q1, .null, .null, .int 0, .int 0, .int 0, .int 0, .int 0, .int 0, .int 0, .int 0, .int 0]) : va_E)), (q1, (Sum.inl (cA 0, 48, Sum.inl (fun _ => (0 : Int32))) : va_E))] := hD
  refine lv_aload_n hx hb dX5_init_12 rfl (lv_at hl 0 rfl) ?_
  refine lv_iconst hx hb dX5_init_13 (v := 3) (by decide) ?_
  refine va_newa (atype := .int) (n := 3) (N' := 3) (a0 := (3, Sum.inl (fun _ => (0 : Int32)))) hx hb (hts (.arrayClass .int) (wOK_in (h := 10094) (by decide +kernel))) rfl hK hP hD hS hA (fun _ => rfl) (by decide) (by decide) (Nat.le_of_ble_eq_true rfl) (Nat.le_of_ble_eq_true rfl) (Nat.le_of_ble_eq_true rfl) dX5_init_14 (fun q2 cB H hK2 hP hD hS => ?_)
  obtain rfl : cB = cA 0 := int_cls hK2
  have hP : va_P Dg vwCl [(h0, (Sum.inr (5, [.ref q1, .null, .null, .int 0, .int 0, .int 0, .int 0, .int 0, .int 0, .int 0, .int 0, .int 0]) : va_E)), (q1, (Sum.inl (cA 0, 48, Sum.inl (fun _ => (0 : Int32))) : va_E)), (q2, (Sum.inl (cA 0, 3, Sum.inl (fun _ => (0 : Int32))) : va_E))] H := hP
  have hD : va_D A [(h0, (Sum.inr (5, [.ref q1, .null, .null, .int 0, .int 0, .int 0, .int 0, .int 0, .int 0, .int 0, .int 0, .int 0]) : va_E)), (q1, (Sum.inl (cA 0, 48, Sum.inl (fun _ => (0 : Int32))) : va_E)), (q2, (Sum.inl (cA 0, 3, Sum.inl (fun _ => (0 : Int32))) : va_E))] := hD
  refine va_putF (D := Dg) (ci := 5) (v := .ref q2) (ty := .array .int) (C := RX5) (T := TX5) (N := 12) hx hb hts (mx_in (ci := 5) rfl) tyX5 tyX5_ok nmX5 hown hK hP hD hS 0 rfl rfl 1 (by decide) (hts (.fieldLink RX5 15 "RowGuard$Reader" "openStart" "[I") (wOK_in (h := 20095) (by decide +kernel))) (fun _ h9 => h9) rfl hin rfl (by decide +kernel) rfl rfl (Nat.le_of_ble_eq_true rfl) dX5_init_16 (fun H locs hP hD hS => ?_)
  have hP : va_P Dg vwCl [(h0, (Sum.inr (5, [.ref q1, .ref q2, .null, .int 0, .int 0, .int 0, .int 0, .int 0, .int 0, .int 0, .int 0, .int 0]) : va_E)), (q1, (Sum.inl (cA 0, 48, Sum.inl (fun _ => (0 : Int32))) : va_E)), (q2, (Sum.inl (cA 0, 3, Sum.inl (fun _ => (0 : Int32))) : va_E))] H := hP
  have hD : va_D A [(h0, (Sum.inr (5, [.ref q1, .ref q2, .null, .int 0, .int 0, .int 0, .int 0, .int 0, .int 0, .int 0, .int 0, .int 0]) : va_E)), (q1, (Sum.inl (cA 0, 48, Sum.inl (fun _ => (0 : Int32))) : va_E)), (q2, (Sum.inl (cA 0, 3, Sum.inl (fun _ => (0 : Int32))) : va_E))] := hD
  refine lv_aload_n hx hb dX5_init_19 rfl (lv_at hl 0 rfl) ?_
  refine lv_iconst hx hb dX5_init_20 (v := 3) (by decide) ?_
  refine va_newa (atype := .int) (n := 3) (N' := 3) (a0 := (3, Sum.inl (fun _ => (0 : Int32)))) hx hb (hts (.arrayClass .int) (wOK_in (h := 10094) (by decide +kernel))) rfl hK hP hD hS hA (fun _ => rfl) (by decide) (by decide) (Nat.le_of_ble_eq_true rfl) (Nat.le_of_ble_eq_true rfl) (Nat.le_of_ble_eq_true rfl) dX5_init_21 (fun q3 cB H hK2 hP hD hS => ?_)
  obtain rfl : cB = cA 0 := int_cls hK2
  have hP : va_P Dg vwCl [(h0, (Sum.inr (5, [.ref q1, .ref q2, .null, .int 0, .int 0, .int 0, .int 0, .int 0, .int 0, .int 0, .int 0, .int 0]) : va_E)), (q1, (Sum.inl (cA 0, 48, Sum.inl (fun _ => (0 : Int32))) : va_E)), (q2, (Sum.inl (cA 0, 3, Sum.inl (fun _ => (0 : Int32))) : va_E)), (q3, (Sum.inl (cA 0, 3, Sum.inl (fun _ => (0 : Int32))) : va_E))] H := hP
  have hD : va_D A [(h0, (Sum.inr (5, [.ref q1, .ref q2, .null, .int 0, .int 0, .int 0, .int 0, .int 0, .int 0, .int 0, .int 0, .int 0]) : va_E)), (q1, (Sum.inl (cA 0, 48, Sum.inl (fun _ => (0 : Int32))) : va_E)), (q2, (Sum.inl (cA 0, 3, Sum.inl (fun _ => (0 : Int32))) : va_E)), (q3, (Sum.inl (cA 0, 3, Sum.inl (fun _ => (0 : Int32))) : va_E))] := hD
  refine va_putF (D := Dg) (ci := 5) (v := .ref q3) (ty := .array .int) (C := RX5) (T := TX5) (N := 12) hx hb hts (mx_in (ci := 5) rfl) tyX5 tyX5_ok nmX5 hown hK hP hD hS 0 rfl rfl 2 (by decide) (hts (.fieldLink RX5 18 "RowGuard$Reader" "openTimes" "[I") (wOK_in (h := 20096) (by decide +kernel))) (fun _ h9 => h9) rfl hin rfl (by decide +kernel) rfl rfl (Nat.le_of_ble_eq_true rfl) dX5_init_23 (fun H locs hP hD hS => ?_)
  have hP : va_P Dg vwCl [(h0, (Sum.inr (5, [.ref q1, .ref q2, .ref q3, .int 0, .int 0, .int 0, .int 0, .int 0, .int 0, .int 0, .int 0, .int 0]) : va_E)), (q1, (Sum.inl (cA 0, 48, Sum.inl (fun _ => (0 : Int32))) : va_E)), (q2, (Sum.inl (cA 0, 3, Sum.inl (fun _ => (0 : Int32))) : va_E)), (q3, (Sum.inl (cA 0, 3, Sum.inl (fun _ => (0 : Int32))) : va_E))] H := hP
  have hD : va_D A [(h0, (Sum.inr (5, [.ref q1, .ref q2, .ref q3, .int 0, .int 0, .int 0, .int 0, .int 0, .int 0, .int 0, .int 0, .int 0]) : va_E)), (q1, (Sum.inl (cA 0, 48, Sum.inl (fun _ => (0 : Int32))) : va_E)), (q2, (Sum.inl (cA 0, 3, Sum.inl (fun _ => (0 : Int32))) : va_E)), (q3, (Sum.inl (cA 0, 3, Sum.inl (fun _ => (0 : Int32))) : va_E))] := hD
  exact W.vret hx hb hr (fun t ht hW => ⟨⟨(fun i => match i with | 1 => q1 | 2 => q2 | _ => q3), rfl, trivial, by rw [ht]; exact hP, hD⟩, hS.F ht⟩) hS.2.2 dX5_init_26
set_option maxHeartbeats 4000000 in
set_option maxRecDepth 100000 in
/-- Guard() : its rows are made -/
theorem kX1 (l : Launch) (Dg : va_G) (cA : Nat → ClassId) (h0 sz : Nat) : Met l yX1_init (.code yX1_init cX1_init 1 none :: GT) ({ frames := 1, cells := 6, slots := 56, locals := 12 }) (va_Pc [.ref h0] (fun U => U.heap.size = sz ∧ va_P Dg vwCl [(h0, (Sum.inr (1, [.int 0, .int 0, .int 0, .null, .null, .null, .null, .null, .null]) : va_E))] U.heap ∧ va_K Dg vwCl (tyA cA) U ∧ va_D (fun _ => True) [(h0, (Sum.inr (1, [.int 0, .int 0, .int 0, .null, .null, .null, .null, .null, .null]) : va_E))])) (va_Qv (fun _ : Nat → Nat => True) (fun u t => va_P Dg vwCl [(h0, (Sum.inr (1, [.int 0, .int 0, .int 0, .ref (u 1), .ref (u 2), .ref (u 3), .ref (u 4), .ref (u 5), .ref (u 6)]) : va_E)), (u 1, (Sum.inl (cA 0, 8, Sum.inl (fun _ => (0 : Int32))) : va_E)), (u 2, (Sum.inl (cA 0, 8, Sum.inl (fun _ => (0 : Int32))) : va_E)), (u 3, (Sum.inl (cA 0, 8, Sum.inl (fun _ => (0 : Int32))) : va_E)), (u 4, (Sum.inl (cA 0, 16, Sum.inl (fun _ => (0 : Int32))) : va_E)), (u 5, (Sum.inl (cA 0, 8, Sum.inl (fun _ => (0 : Int32))) : va_E)), (u 6, (Sum.inl (cA 0, 8, Sum.inl (fun _ => (0 : Int32))) : va_E))] t.heap ∧ va_D (va_A [(h0, (Sum.inr (1, [.int 0, .int 0, .int 0, .null, .null, .null, .null, .null, .null]) : va_E))] sz) [(h0, (Sum.inr (1, [.int 0, .int 0, .int 0, .ref (u 1), .ref (u 2), .ref (u 3), .ref (u 4), .ref (u 5), .ref (u 6)]) : va_E)), (u 1, (Sum.inl (cA 0, 8, Sum.inl (fun _ => (0 : Int32))) : va_E)), (u 2, (Sum.inl (cA 0, 8, Sum.inl (fun _ => (0 : Int32))) : va_E)), (u 3, (Sum.inl (cA 0, 8, Sum.inl (fun _ => (0 : Int32))) : va_E)), (u 4, (Sum.inl (cA 0, 16, Sum.inl (fun _ => (0 : Int32))) : va_E)), (u 5, (Sum.inl (cA 0, 8, Sum.inl (fun _ => (0 : Int32))) : va_E)), (u 6, (Sum.inl (cA 0, 8, Sum.inl (fun _ => (0 : Int32))) : va_E))]) (va_A [(h0, (Sum.inr (1, [.int 0, .int 0, .int 0, .null, .null, .null, .null, .null, .null]) : va_E))] sz)) 6 56 (va_A [(h0, (Sum.inr (1, [.int 0, .int 0, .int 0, .null, .null, .null, .null, .null, .null]) : va_E))] sz) := by
  refine Met.ofW (cc := cX1_init) (maxL := 1) (ret := none) (by decide) rfl ?_
  intro p e s m args below meth c s₁ B hml hv
  obtain ⟨rfl, hsz, hP, hK, hD0⟩ := hv
  have hx := B.exec
  have hb := B.bytes
  have hr := B.returns
  have hts' := atoms_spec (ws := .code yX1_init cX1_init 1 none :: GT) B.pre
  have hts : ∀ w ∈ GT, w.before #[Value.ref h0] s = true := fun w hw => hts' w (List.mem_cons_of_mem _ hw)
  have hown : s.vm.findClass RX1 = some m.cls := findClass_of_methodNamed B.named
  have hlocks := B.notSynchronized
  have hin : meth.name = "<init>" := (name_of_methodNamed B.named B.method).1
  subst hsz
  have hD := hD0.self (sz := s.heap.size)
  generalize hAe : va_A [(h0, (Sum.inr (1, [.int 0, .int 0, .int 0, .null, .null, .null, .null, .null, .null]) : va_E))] s.heap.size = A at hD ⊢
  have hA : ∀ q : Nat, s.heap.size ≤ q → A q := fun q h => by rw [← hAe]; exact Or.inr h
  have hS : va_S A s.heap s.heap [] := va_S.rf
  have hl := lv_entry ([.ref h0]) (n := 1) (Nat.le_of_ble_eq_true rfl)
  rw [lg_entry_eq]
  generalize (lg_sl ([.ref h0]) ++ List.replicate (1 - (lg_sl ([.ref h0])).length) Slot.unset).toArray = ls at hl ⊢
  have hl : lv_has ls 1 [(0, .ref h0)] := hl
  refine lv_aload_n hx hb dX1_init_0 rfl (lv_at hl 0 rfl) ?_
  refine W.objInit hx hb hown (hts (.methodLink RX1 3 objectInit) (wOK_in (h := 10100) (by decide +kernel))) (hts (.instanceMethod objectInit) (wOK_in (h := 10022) (by decide +kernel))) (hts (.code objectInit ⟨#[0xb1]⟩ 1 none) (wOK_in (h := 10023) (by decide +kernel))) rfl (by rw [hml]; exact hl.1) rfl dX1_init_1 (Nat.le_of_ble_eq_true rfl) (Nat.le_of_ble_eq_true rfl) ?_
  refine W.eq (g2 := F0 m 4 ls []) rfl ?_
  refine lv_aload_n hx hb dX1_init_4 rfl (lv_at hl 0 rfl) ?_
  refine lv_bipush hx hb dX1_init_5 (v := 8) (by decide) ?_
  refine va_newa (atype := .int) (n := 8) (N' := 8) (a0 := (8, Sum.inl (fun _ => (0 : Int32)))) hx hb (hts (.arrayClass .int) (wOK_in (h := 10094) (by decide +kernel))) rfl hK hP hD hS hA (fun _ => rfl) (by decide) (by decide) (Nat.le_of_ble_eq_true rfl) (Nat.le_of_ble_eq_true rfl) (Nat.le_of_ble_eq_true rfl) dX1_init_7 (fun q1 cB H hK2 hP hD hS => ?_)
  obtain rfl : cB = cA 0 := int_cls hK2
  have hP : va_P Dg vwCl [(h0, (Sum.inr (1, [.int 0, .int 0, .int 0, .null, .null, .null, .null, .null, .null]) : va_E)), (q1, (Sum.inl (cA 0, 8, Sum.inl (fun _ => (0 : Int32))) : va_E))] H := hP
  have hD : va_D A [(h0, (Sum.inr (1, [.int 0, .int 0, .int 0, .null, .null, .null, .null, .null, .null]) : va_E)), (q1, (Sum.inl (cA 0, 8, Sum.inl (fun _ => (0 : Int32))) : va_E))] := hD
  refine va_putF (D := Dg) (ci := 1) (v := .ref q1) (ty := .array .int) (C := RX1) (T := TX1) (N := 9) hx hb hts (mx_in (ci := 1) rfl) tyX1 tyX1_ok nmX1 hown hK hP hD hS 0 rfl rfl 3 (by decide) (hts (.fieldLink RX1 9 "RowGuard$Guard" "slotRow" "[I") (wOK_in (h := 10107) (by decide +kernel))) (fun _ h9 => h9) rfl hin rfl (by decide +kernel) rfl rfl (Nat.le_of_ble_eq_true rfl) dX1_init_9 (fun H locs hP hD hS => ?_)
  have hP : va_P Dg vwCl [(h0, (Sum.inr (1, [.int 0, .int 0, .int 0, .ref q1, .null, .null, .null, .null, .null]) : va_E)), (q1, (Sum.inl (cA 0, 8, Sum.inl (fun _ => (0 : Int32))) : va_E))] H := hP
  have hD : va_D A [(h0, (Sum.inr (1, [.int 0, .int 0, .int 0, .ref q1, .null, .null, .null, .null, .null]) : va_E)), (q1, (Sum.inl (cA 0, 8, Sum.inl (fun _ => (0 : Int32))) : va_E))] := hD
  refine lv_aload_n hx hb dX1_init_12 rfl (lv_at hl 0 rfl) ?_
  refine lv_bipush hx hb dX1_init_13 (v := 8) (by decide) ?_
  refine va_newa (atype := .int) (n := 8) (N' := 8) (a0 := (8, Sum.inl (fun _ => (0 : Int32)))) hx hb (hts (.arrayClass .int) (wOK_in (h := 10094) (by decide +kernel))) rfl hK hP hD hS hA (fun _ => rfl) (by decide) (by decide) (Nat.le_of_ble_eq_true rfl) (Nat.le_of_ble_eq_true rfl) (Nat.le_of_ble_eq_true rfl) dX1_init_15 (fun q2 cB H hK2 hP hD hS => ?_)
  obtain rfl : cB = cA 0 := int_cls hK2
  have hP : va_P Dg vwCl [(h0, (Sum.inr (1, [.int 0, .int 0, .int 0, .ref q1, .null, .null, .null, .null, .null]) : va_E)), (q1, (Sum.inl (cA 0, 8, Sum.inl (fun _ => (0 : Int32))) : va_E)), (q2, (Sum.inl (cA 0, 8, Sum.inl (fun _ => (0 : Int32))) : va_E))] H := hP
  have hD : va_D A [(h0, (Sum.inr (1, [.int 0, .int 0, .int 0, .ref q1, .null, .null, .null, .null, .null]) : va_E)), (q1, (Sum.inl (cA 0, 8, Sum.inl (fun _ => (0 : Int32))) : va_E)), (q2, (Sum.inl (cA 0, 8, Sum.inl (fun _ => (0 : Int32))) : va_E))] := hD
  refine va_putF (D := Dg) (ci := 1) (v := .ref q2) (ty := .array .int) (C := RX1) (T := TX1) (N := 9) hx hb hts (mx_in (ci := 1) rfl) tyX1 tyX1_ok nmX1 hown hK hP hD hS 0 rfl rfl 4 (by decide) (hts (.fieldLink RX1 15 "RowGuard$Guard" "slotCount" "[I") (wOK_in (h := 10109) (by decide +kernel))) (fun _ h9 => h9) rfl hin rfl (by decide +kernel) rfl rfl (Nat.le_of_ble_eq_true rfl) dX1_init_17 (fun H locs hP hD hS => ?_)
  have hP : va_P Dg vwCl [(h0, (Sum.inr (1, [.int 0, .int 0, .int 0, .ref q1, .ref q2, .null, .null, .null, .null]) : va_E)), (q1, (Sum.inl (cA 0, 8, Sum.inl (fun _ => (0 : Int32))) : va_E)), (q2, (Sum.inl (cA 0, 8, Sum.inl (fun _ => (0 : Int32))) : va_E))] H := hP
  have hD : va_D A [(h0, (Sum.inr (1, [.int 0, .int 0, .int 0, .ref q1, .ref q2, .null, .null, .null, .null]) : va_E)), (q1, (Sum.inl (cA 0, 8, Sum.inl (fun _ => (0 : Int32))) : va_E)), (q2, (Sum.inl (cA 0, 8, Sum.inl (fun _ => (0 : Int32))) : va_E))] := hD
  refine lv_aload_n hx hb dX1_init_20 rfl (lv_at hl 0 rfl) ?_
  refine lv_bipush hx hb dX1_init_21 (v := 8) (by decide) ?_
  refine va_newa (atype := .int) (n := 8) (N' := 8) (a0 := (8, Sum.inl (fun _ => (0 : Int32)))) hx hb (hts (.arrayClass .int) (wOK_in (h := 10094) (by decide +kernel))) rfl hK hP hD hS hA (fun _ => rfl) (by decide) (by decide) (Nat.le_of_ble_eq_true rfl) (Nat.le_of_ble_eq_true rfl) (Nat.le_of_ble_eq_true rfl) dX1_init_23 (fun q3 cB H hK2 hP hD hS => ?_)
  obtain rfl : cB = cA 0 := int_cls hK2
  have hP : va_P Dg vwCl [(h0, (Sum.inr (1, [.int 0, .int 0, .int 0, .ref q1, .ref q2, .null, .null, .null, .null]) : va_E)), (q1, (Sum.inl (cA 0, 8, Sum.inl (fun _ => (0 : Int32))) : va_E)), (q2, (Sum.inl (cA 0, 8, Sum.inl (fun _ => (0 : Int32))) : va_E)), (q3, (Sum.inl (cA 0, 8, Sum.inl (fun _ => (0 : Int32))) : va_E))] H := hP
  have hD : va_D A [(h0, (Sum.inr (1, [.int 0, .int 0, .int 0, .ref q1, .ref q2, .null, .null, .null, .null]) : va_E)), (q1, (Sum.inl (cA 0, 8, Sum.inl (fun _ => (0 : Int32))) : va_E)), (q2, (Sum.inl (cA 0, 8, Sum.inl (fun _ => (0 : Int32))) : va_E)), (q3, (Sum.inl (cA 0, 8, Sum.inl (fun _ => (0 : Int32))) : va_E))] := hD
  refine va_putF (D := Dg) (ci := 1) (v := .ref q3) (ty := .array .int) (C := RX1) (T := TX1) (N := 9) hx hb hts (mx_in (ci := 1) rfl) tyX1 tyX1_ok nmX1 hown hK hP hD hS 0 rfl rfl 5 (by decide) (hts (.fieldLink RX1 18 "RowGuard$Guard" "slotSight" "[I") (wOK_in (h := 10111) (by decide +kernel))) (fun _ h9 => h9) rfl hin rfl (by decide +kernel) rfl rfl (Nat.le_of_ble_eq_true rfl) dX1_init_25 (fun H locs hP hD hS => ?_)
  have hP : va_P Dg vwCl [(h0, (Sum.inr (1, [.int 0, .int 0, .int 0, .ref q1, .ref q2, .ref q3, .null, .null, .null]) : va_E)), (q1, (Sum.inl (cA 0, 8, Sum.inl (fun _ => (0 : Int32))) : va_E)), (q2, (Sum.inl (cA 0, 8, Sum.inl (fun _ => (0 : Int32))) : va_E)), (q3, (Sum.inl (cA 0, 8, Sum.inl (fun _ => (0 : Int32))) : va_E))] H := hP
  have hD : va_D A [(h0, (Sum.inr (1, [.int 0, .int 0, .int 0, .ref q1, .ref q2, .ref q3, .null, .null, .null]) : va_E)), (q1, (Sum.inl (cA 0, 8, Sum.inl (fun _ => (0 : Int32))) : va_E)), (q2, (Sum.inl (cA 0, 8, Sum.inl (fun _ => (0 : Int32))) : va_E)), (q3, (Sum.inl (cA 0, 8, Sum.inl (fun _ => (0 : Int32))) : va_E))] := hD
  refine lv_aload_n hx hb dX1_init_28 rfl (lv_at hl 0 rfl) ?_
  refine lv_bipush hx hb dX1_init_29 (v := 16) (by decide) ?_
  refine va_newa (atype := .int) (n := 16) (N' := 16) (a0 := (16, Sum.inl (fun _ => (0 : Int32)))) hx hb (hts (.arrayClass .int) (wOK_in (h := 10094) (by decide +kernel))) rfl hK hP hD hS hA (fun _ => rfl) (by decide) (by decide) (Nat.le_of_ble_eq_true rfl) (Nat.le_of_ble_eq_true rfl) (Nat.le_of_ble_eq_true rfl) dX1_init_31 (fun q4 cB H hK2 hP hD hS => ?_)
  obtain rfl : cB = cA 0 := int_cls hK2
  have hP : va_P Dg vwCl [(h0, (Sum.inr (1, [.int 0, .int 0, .int 0, .ref q1, .ref q2, .ref q3, .null, .null, .null]) : va_E)), (q1, (Sum.inl (cA 0, 8, Sum.inl (fun _ => (0 : Int32))) : va_E)), (q2, (Sum.inl (cA 0, 8, Sum.inl (fun _ => (0 : Int32))) : va_E)), (q3, (Sum.inl (cA 0, 8, Sum.inl (fun _ => (0 : Int32))) : va_E)), (q4, (Sum.inl (cA 0, 16, Sum.inl (fun _ => (0 : Int32))) : va_E))] H := hP
  have hD : va_D A [(h0, (Sum.inr (1, [.int 0, .int 0, .int 0, .ref q1, .ref q2, .ref q3, .null, .null, .null]) : va_E)), (q1, (Sum.inl (cA 0, 8, Sum.inl (fun _ => (0 : Int32))) : va_E)), (q2, (Sum.inl (cA 0, 8, Sum.inl (fun _ => (0 : Int32))) : va_E)), (q3, (Sum.inl (cA 0, 8, Sum.inl (fun _ => (0 : Int32))) : va_E)), (q4, (Sum.inl (cA 0, 16, Sum.inl (fun _ => (0 : Int32))) : va_E))] := hD
  refine va_putF (D := Dg) (ci := 1) (v := .ref q4) (ty := .array .int) (C := RX1) (T := TX1) (N := 9) hx hb hts (mx_in (ci := 1) rfl) tyX1 tyX1_ok nmX1 hown hK hP hD hS 0 rfl rfl 6 (by decide) (hts (.fieldLink RX1 21 "RowGuard$Guard" "rowCounts" "[I") (wOK_in (h := 10112) (by decide +kernel))) (fun _ h9 => h9) rfl hin rfl (by decide +kernel) rfl rfl (Nat.le_of_ble_eq_true rfl) dX1_init_33 (fun H locs hP hD hS => ?_)
  have hP : va_P Dg vwCl [(h0, (Sum.inr (1, [.int 0, .int 0, .int 0, .ref q1, .ref q2, .ref q3, .ref q4, .null, .null]) : va_E)), (q1, (Sum.inl (cA 0, 8, Sum.inl (fun _ => (0 : Int32))) : va_E)), (q2, (Sum.inl (cA 0, 8, Sum.inl (fun _ => (0 : Int32))) : va_E)), (q3, (Sum.inl (cA 0, 8, Sum.inl (fun _ => (0 : Int32))) : va_E)), (q4, (Sum.inl (cA 0, 16, Sum.inl (fun _ => (0 : Int32))) : va_E))] H := hP
  have hD : va_D A [(h0, (Sum.inr (1, [.int 0, .int 0, .int 0, .ref q1, .ref q2, .ref q3, .ref q4, .null, .null]) : va_E)), (q1, (Sum.inl (cA 0, 8, Sum.inl (fun _ => (0 : Int32))) : va_E)), (q2, (Sum.inl (cA 0, 8, Sum.inl (fun _ => (0 : Int32))) : va_E)), (q3, (Sum.inl (cA 0, 8, Sum.inl (fun _ => (0 : Int32))) : va_E)), (q4, (Sum.inl (cA 0, 16, Sum.inl (fun _ => (0 : Int32))) : va_E))] := hD
  refine lv_aload_n hx hb dX1_init_36 rfl (lv_at hl 0 rfl) ?_
  refine lv_bipush hx hb dX1_init_37 (v := 8) (by decide) ?_
  refine va_newa (atype := .int) (n := 8) (N' := 8) (a0 := (8, Sum.inl (fun _ => (0 : Int32)))) hx hb (hts (.arrayClass .int) (wOK_in (h := 10094) (by decide +kernel))) rfl hK hP hD hS hA (fun _ => rfl) (by decide) (by decide) (Nat.le_of_ble_eq_true rfl) (Nat.le_of_ble_eq_true rfl) (Nat.le_of_ble_eq_true rfl) dX1_init_39 (fun q5 cB H hK2 hP hD hS => ?_)
  obtain rfl : cB = cA 0 := int_cls hK2
  have hP : va_P Dg vwCl [(h0, (Sum.inr (1, [.int 0, .int 0, .int 0, .ref q1, .ref q2, .ref q3, .ref q4, .null, .null]) : va_E)), (q1, (Sum.inl (cA 0, 8, Sum.inl (fun _ => (0 : Int32))) : va_E)), (q2, (Sum.inl (cA 0, 8, Sum.inl (fun _ => (0 : Int32))) : va_E)), (q3, (Sum.inl (cA 0, 8, Sum.inl (fun _ => (0 : Int32))) : va_E)), (q4, (Sum.inl (cA 0, 16, Sum.inl (fun _ => (0 : Int32))) : va_E)), (q5, (Sum.inl (cA 0, 8, Sum.inl (fun _ => (0 : Int32))) : va_E))] H := hP
  have hD : va_D A [(h0, (Sum.inr (1, [.int 0, .int 0, .int 0, .ref q1, .ref q2, .ref q3, .ref q4, .null, .null]) : va_E)), (q1, (Sum.inl (cA 0, 8, Sum.inl (fun _ => (0 : Int32))) : va_E)), (q2, (Sum.inl (cA 0, 8, Sum.inl (fun _ => (0 : Int32))) : va_E)), (q3, (Sum.inl (cA 0, 8, Sum.inl (fun _ => (0 : Int32))) : va_E)), (q4, (Sum.inl (cA 0, 16, Sum.inl (fun _ => (0 : Int32))) : va_E)), (q5, (Sum.inl (cA 0, 8, Sum.inl (fun _ => (0 : Int32))) : va_E))] := hD
  refine va_putF (D := Dg) (ci := 1) (v := .ref q5) (ty := .array .int) (C := RX1) (T := TX1) (N := 9) hx hb hts (mx_in (ci := 1) rfl) tyX1 tyX1_ok nmX1 hown hK hP hD hS 0 rfl rfl 7 (by decide) (hts (.fieldLink RX1 24 "RowGuard$Guard" "sketchOne" "[I") (wOK_in (h := 10114) (by decide +kernel))) (fun _ h9 => h9) rfl hin rfl (by decide +kernel) rfl rfl (Nat.le_of_ble_eq_true rfl) dX1_init_41 (fun H locs hP hD hS => ?_)
  have hP : va_P Dg vwCl [(h0, (Sum.inr (1, [.int 0, .int 0, .int 0, .ref q1, .ref q2, .ref q3, .ref q4, .ref q5, .null]) : va_E)), (q1, (Sum.inl (cA 0, 8, Sum.inl (fun _ => (0 : Int32))) : va_E)), (q2, (Sum.inl (cA 0, 8, Sum.inl (fun _ => (0 : Int32))) : va_E)), (q3, (Sum.inl (cA 0, 8, Sum.inl (fun _ => (0 : Int32))) : va_E)), (q4, (Sum.inl (cA 0, 16, Sum.inl (fun _ => (0 : Int32))) : va_E)), (q5, (Sum.inl (cA 0, 8, Sum.inl (fun _ => (0 : Int32))) : va_E))] H := hP
  have hD : va_D A [(h0, (Sum.inr (1, [.int 0, .int 0, .int 0, .ref q1, .ref q2, .ref q3, .ref q4, .ref q5, .null]) : va_E)), (q1, (Sum.inl (cA 0, 8, Sum.inl (fun _ => (0 : Int32))) : va_E)), (q2, (Sum.inl (cA 0, 8, Sum.inl (fun _ => (0 : Int32))) : va_E)), (q3, (Sum.inl (cA 0, 8, Sum.inl (fun _ => (0 : Int32))) : va_E)), (q4, (Sum.inl (cA 0, 16, Sum.inl (fun _ => (0 : Int32))) : va_E)), (q5, (Sum.inl (cA 0, 8, Sum.inl (fun _ => (0 : Int32))) : va_E))] := hD
  refine lv_aload_n hx hb dX1_init_44 rfl (lv_at hl 0 rfl) ?_
  refine lv_bipush hx hb dX1_init_45 (v := 8) (by decide) ?_
  refine va_newa (atype := .int) (n := 8) (N' := 8) (a0 := (8, Sum.inl (fun _ => (0 : Int32)))) hx hb (hts (.arrayClass .int) (wOK_in (h := 10094) (by decide +kernel))) rfl hK hP hD hS hA (fun _ => rfl) (by decide) (by decide) (Nat.le_of_ble_eq_true rfl) (Nat.le_of_ble_eq_true rfl) (Nat.le_of_ble_eq_true rfl) dX1_init_47 (fun q6 cB H hK2 hP hD hS => ?_)
  obtain rfl : cB = cA 0 := int_cls hK2
  have hP : va_P Dg vwCl [(h0, (Sum.inr (1, [.int 0, .int 0, .int 0, .ref q1, .ref q2, .ref q3, .ref q4, .ref q5, .null]) : va_E)), (q1, (Sum.inl (cA 0, 8, Sum.inl (fun _ => (0 : Int32))) : va_E)), (q2, (Sum.inl (cA 0, 8, Sum.inl (fun _ => (0 : Int32))) : va_E)), (q3, (Sum.inl (cA 0, 8, Sum.inl (fun _ => (0 : Int32))) : va_E)), (q4, (Sum.inl (cA 0, 16, Sum.inl (fun _ => (0 : Int32))) : va_E)), (q5, (Sum.inl (cA 0, 8, Sum.inl (fun _ => (0 : Int32))) : va_E)), (q6, (Sum.inl (cA 0, 8, Sum.inl (fun _ => (0 : Int32))) : va_E))] H := hP
  have hD : va_D A [(h0, (Sum.inr (1, [.int 0, .int 0, .int 0, .ref q1, .ref q2, .ref q3, .ref q4, .ref q5, .null]) : va_E)), (q1, (Sum.inl (cA 0, 8, Sum.inl (fun _ => (0 : Int32))) : va_E)), (q2, (Sum.inl (cA 0, 8, Sum.inl (fun _ => (0 : Int32))) : va_E)), (q3, (Sum.inl (cA 0, 8, Sum.inl (fun _ => (0 : Int32))) : va_E)), (q4, (Sum.inl (cA 0, 16, Sum.inl (fun _ => (0 : Int32))) : va_E)), (q5, (Sum.inl (cA 0, 8, Sum.inl (fun _ => (0 : Int32))) : va_E)), (q6, (Sum.inl (cA 0, 8, Sum.inl (fun _ => (0 : Int32))) : va_E))] := hD
  refine va_putF (D := Dg) (ci := 1) (v := .ref q6) (ty := .array .int) (C := RX1) (T := TX1) (N := 9) hx hb hts (mx_in (ci := 1) rfl) tyX1 tyX1_ok nmX1 hown hK hP hD hS 0 rfl rfl 8 (by decide) (hts (.fieldLink RX1 27 "RowGuard$Guard" "sketchTwo" "[I") (wOK_in (h := 10116) (by decide +kernel))) (fun _ h9 => h9) rfl hin rfl (by decide +kernel) rfl rfl (Nat.le_of_ble_eq_true rfl) dX1_init_49 (fun H locs hP hD hS => ?_)
  have hP : va_P Dg vwCl [(h0, (Sum.inr (1, [.int 0, .int 0, .int 0, .ref q1, .ref q2, .ref q3, .ref q4, .ref q5, .ref q6]) : va_E)), (q1, (Sum.inl (cA 0, 8, Sum.inl (fun _ => (0 : Int32))) : va_E)), (q2, (Sum.inl (cA 0, 8, Sum.inl (fun _ => (0 : Int32))) : va_E)), (q3, (Sum.inl (cA 0, 8, Sum.inl (fun _ => (0 : Int32))) : va_E)), (q4, (Sum.inl (cA 0, 16, Sum.inl (fun _ => (0 : Int32))) : va_E)), (q5, (Sum.inl (cA 0, 8, Sum.inl (fun _ => (0 : Int32))) : va_E)), (q6, (Sum.inl (cA 0, 8, Sum.inl (fun _ => (0 : Int32))) : va_E))] H := hP
  have hD : va_D A [(h0, (Sum.inr (1, [.int 0, .int 0, .int 0, .ref q1, .ref q2, .ref q3, .ref q4, .ref q5, .ref q6]) : va_E)), (q1, (Sum.inl (cA 0, 8, Sum.inl (fun _ => (0 : Int32))) : va_E)), (q2, (Sum.inl (cA 0, 8, Sum.inl (fun _ => (0 : Int32))) : va_E)), (q3, (Sum.inl (cA 0, 8, Sum.inl (fun _ => (0 : Int32))) : va_E)), (q4, (Sum.inl (cA 0, 16, Sum.inl (fun _ => (0 : Int32))) : va_E)), (q5, (Sum.inl (cA 0, 8, Sum.inl (fun _ => (0 : Int32))) : va_E)), (q6, (Sum.inl (cA 0, 8, Sum.inl (fun _ => (0 : Int32))) : va_E))] := hD
  exact W.vret hx hb hr (fun t ht hW => ⟨⟨(fun i => match i with | 1 => q1 | 2 => q2 | 3 => q3 | 4 => q4 | 5 => q5 | _ => q6), rfl, trivial, by rw [ht]; exact hP, hD⟩, hS.F ht⟩) hS.2.2 dX1_init_52
set_option maxHeartbeats 4000000 in
set_option maxRecDepth 100000 in
/-- Rows() : its rows are made -/
theorem kX6 (l : Launch) (Dg : va_G) (cA : Nat → ClassId) (h0 sz : Nat) : Met l yX6_init (.code yX6_init cX6_init 1 none :: GT) ({ frames := 1, cells := 8, slots := 128, locals := 12 }) (va_Pc [.ref h0] (fun U => U.heap.size = sz ∧ va_P Dg vwCl [(h0, (Sum.inr (6, [.int 0, .int 0, .int 0, .int 0, .null, .null, .null, .null, .null, .null, .null, .null]) : va_E))] U.heap ∧ va_K Dg vwCl (tyA cA) U ∧ va_D (fun _ => True) [(h0, (Sum.inr (6, [.int 0, .int 0, .int 0, .int 0, .null, .null, .null, .null, .null, .null, .null, .null]) : va_E))])) (va_Qv (fun _ : Nat → Nat => True) (fun u t => va_P Dg vwCl [(h0, (Sum.inr (6, [.int 0, .int 0, .int 0, .int 0, .ref (u 1), .ref (u 2), .ref (u 3), .ref (u 4), .ref (u 5), .ref (u 6), .ref (u 7), .ref (u 8)]) : va_E)), (u 1, (Sum.inl (cA 0, 16, Sum.inl (fun _ => (0 : Int32))) : va_E)), (u 2, (Sum.inl (cA 0, 16, Sum.inl (fun _ => (0 : Int32))) : va_E)), (u 3, (Sum.inl (cA 0, 16, Sum.inl (fun _ => (0 : Int32))) : va_E)), (u 4, (Sum.inl (cA 0, 16, Sum.inl (fun _ => (0 : Int32))) : va_E)), (u 5, (Sum.inl (cA 0, 16, Sum.inl (fun _ => (0 : Int32))) : va_E)), (u 6, (Sum.inl (cA 0, 16, Sum.inl (fun _ => (0 : Int32))) : va_E)), (u 7, (Sum.inl (cA 0, 16, Sum.inl (fun _ => (0 : Int32))) : va_E)), (u 8, (Sum.inl (cA 0, 16, Sum.inl (fun _ => (0 : Int32))) : va_E))] t.heap ∧ va_D (va_A [(h0, (Sum.inr (6, [.int 0, .int 0, .int 0, .int 0, .null, .null, .null, .null, .null, .null, .null, .null]) : va_E))] sz) [(h0, (Sum.inr (6, [.int 0, .int 0, .int 0, .int 0, .ref (u 1), .ref (u 2), .ref (u 3), .ref (u 4), .ref (u 5), .ref (u 6), .ref (u 7), .ref (u 8)]) : va_E)), (u 1, (Sum.inl (cA 0, 16, Sum.inl (fun _ => (0 : Int32))) : va_E)), (u 2, (Sum.inl (cA 0, 16, Sum.inl (fun _ => (0 : Int32))) : va_E)), (u 3, (Sum.inl (cA 0, 16, Sum.inl (fun _ => (0 : Int32))) : va_E)), (u 4, (Sum.inl (cA 0, 16, Sum.inl (fun _ => (0 : Int32))) : va_E)), (u 5, (Sum.inl (cA 0, 16, Sum.inl (fun _ => (0 : Int32))) : va_E)), (u 6, (Sum.inl (cA 0, 16, Sum.inl (fun _ => (0 : Int32))) : va_E)), (u 7, (Sum.inl (cA 0, 16, Sum.inl (fun _ => (0 : Int32))) : va_E)), (u 8, (Sum.inl (cA 0, 16, Sum.inl (fun _ => (0 : Int32))) : va_E))]) (va_A [(h0, (Sum.inr (6, [.int 0, .int 0, .int 0, .int 0, .null, .null, .null, .null, .null, .null, .null, .null]) : va_E))] sz)) 8 128 (va_A [(h0, (Sum.inr (6, [.int 0, .int 0, .int 0, .int 0, .null, .null, .null, .null, .null, .null, .null, .null]) : va_E))] sz) := by
  refine Met.ofW (cc := cX6_init) (maxL := 1) (ret := none) (by decide) rfl ?_
  intro p e s m args below meth c s₁ B hml hv
  obtain ⟨rfl, hsz, hP, hK, hD0⟩ := hv
  have hx := B.exec
  have hb := B.bytes
  have hr := B.returns
  have hts' := atoms_spec (ws := .code yX6_init cX6_init 1 none :: GT) B.pre
  have hts : ∀ w ∈ GT, w.before #[Value.ref h0] s = true := fun w hw => hts' w (List.mem_cons_of_mem _ hw)
  have hown : s.vm.findClass RX6 = some m.cls := findClass_of_methodNamed B.named
  have hlocks := B.notSynchronized
  have hin : meth.name = "<init>" := (name_of_methodNamed B.named B.method).1
  subst hsz
  have hD := hD0.self (sz := s.heap.size)
  generalize hAe : va_A [(h0, (Sum.inr (6, [.int 0, .int 0, .int 0, .int 0, .null, .null, .null, .null, .null, .null, .null, .null]) : va_E))] s.heap.size = A at hD ⊢
  have hA : ∀ q : Nat, s.heap.size ≤ q → A q := fun q h => by rw [← hAe]; exact Or.inr h
  have hS : va_S A s.heap s.heap [] := va_S.rf
  have hl := lv_entry ([.ref h0]) (n := 1) (Nat.le_of_ble_eq_true rfl)
  rw [lg_entry_eq]
  generalize (lg_sl ([.ref h0]) ++ List.replicate (1 - (lg_sl ([.ref h0])).length) Slot.unset).toArray = ls at hl ⊢
  have hl : lv_has ls 1 [(0, .ref h0)] := hl
  refine lv_aload_n hx hb dX6_init_0 rfl (lv_at hl 0 rfl) ?_
  refine W.objInit hx hb hown (hts (.methodLink RX6 3 objectInit) (wOK_in (h := 10035) (by decide +kernel))) (hts (.instanceMethod objectInit) (wOK_in (h := 10022) (by decide +kernel))) (hts (.code objectInit ⟨#[0xb1]⟩ 1 none) (wOK_in (h := 10023) (by decide +kernel))) rfl (by rw [hml]; exact hl.1) rfl dX6_init_1 (Nat.le_of_ble_eq_true rfl) (Nat.le_of_ble_eq_true rfl) ?_
  refine W.eq (g2 := F0 m 4 ls []) rfl ?_
  refine lv_aload_n hx hb dX6_init_4 rfl (lv_at hl 0 rfl) ?_
  refine lv_bipush hx hb dX6_init_5 (v := 16) (by decide) ?_
  refine va_newa (atype := .int) (n := 16) (N' := 16) (a0 := (16, Sum.inl (fun _ => (0 : Int32)))) hx hb (hts (.arrayClass .int) (wOK_in (h := 10094) (by decide +kernel))) rfl hK hP hD hS hA (fun _ => rfl) (by decide) (by decide) (Nat.le_of_ble_eq_true rfl) (Nat.le_of_ble_eq_true rfl) (Nat.le_of_ble_eq_true rfl) dX6_init_7 (fun q1 cB H hK2 hP hD hS => ?_)
  obtain rfl : cB = cA 0 := int_cls hK2
  have hP : va_P Dg vwCl [(h0, (Sum.inr (6, [.int 0, .int 0, .int 0, .int 0, .null, .null, .null, .null, .null, .null, .null, .null]) : va_E)), (q1, (Sum.inl (cA 0, 16, Sum.inl (fun _ => (0 : Int32))) : va_E))] H := hP
  have hD : va_D A [(h0, (Sum.inr (6, [.int 0, .int 0, .int 0, .int 0, .null, .null, .null, .null, .null, .null, .null, .null]) : va_E)), (q1, (Sum.inl (cA 0, 16, Sum.inl (fun _ => (0 : Int32))) : va_E))] := hD
  refine va_putF (D := Dg) (ci := 6) (v := .ref q1) (ty := .array .int) (C := RX6) (T := TX6) (N := 12) hx hb hts (mx_in (ci := 6) rfl) tyX6 tyX6_ok nmX6 hown hK hP hD hS 0 rfl rfl 4 (by decide) (hts (.fieldLink RX6 9 "RowGuard$Rows" "placeOf" "[I") (wOK_in (h := 10046) (by decide +kernel))) (fun _ h9 => h9) rfl hin rfl (by decide +kernel) rfl rfl (Nat.le_of_ble_eq_true rfl) dX6_init_9 (fun H locs hP hD hS => ?_)
  have hP : va_P Dg vwCl [(h0, (Sum.inr (6, [.int 0, .int 0, .int 0, .int 0, .ref q1, .null, .null, .null, .null, .null, .null, .null]) : va_E)), (q1, (Sum.inl (cA 0, 16, Sum.inl (fun _ => (0 : Int32))) : va_E))] H := hP
  have hD : va_D A [(h0, (Sum.inr (6, [.int 0, .int 0, .int 0, .int 0, .ref q1, .null, .null, .null, .null, .null, .null, .null]) : va_E)), (q1, (Sum.inl (cA 0, 16, Sum.inl (fun _ => (0 : Int32))) : va_E))] := hD
  refine lv_aload_n hx hb dX6_init_12 rfl (lv_at hl 0 rfl) ?_
  refine lv_bipush hx hb dX6_init_13 (v := 16) (by decide) ?_
  refine va_newa (atype := .int) (n := 16) (N' := 16) (a0 := (16, Sum.inl (fun _ => (0 : Int32)))) hx hb (hts (.arrayClass .int) (wOK_in (h := 10094) (by decide +kernel))) rfl hK hP hD hS hA (fun _ => rfl) (by decide) (by decide) (Nat.le_of_ble_eq_true rfl) (Nat.le_of_ble_eq_true rfl) (Nat.le_of_ble_eq_true rfl) dX6_init_15 (fun q2 cB H hK2 hP hD hS => ?_)
  obtain rfl : cB = cA 0 := int_cls hK2
  have hP : va_P Dg vwCl [(h0, (Sum.inr (6, [.int 0, .int 0, .int 0, .int 0, .ref q1, .null, .null, .null, .null, .null, .null, .null]) : va_E)), (q1, (Sum.inl (cA 0, 16, Sum.inl (fun _ => (0 : Int32))) : va_E)), (q2, (Sum.inl (cA 0, 16, Sum.inl (fun _ => (0 : Int32))) : va_E))] H := hP
  have hD : va_D A [(h0, (Sum.inr (6, [.int 0, .int 0, .int 0, .int 0, .ref q1, .null, .null, .null, .null, .null, .null, .null]) : va_E)), (q1, (Sum.inl (cA 0, 16, Sum.inl (fun _ => (0 : Int32))) : va_E)), (q2, (Sum.inl (cA 0, 16, Sum.inl (fun _ => (0 : Int32))) : va_E))] := hD
  refine va_putF (D := Dg) (ci := 6) (v := .ref q2) (ty := .array .int) (C := RX6) (T := TX6) (N := 12) hx hb hts (mx_in (ci := 6) rfl) tyX6 tyX6_ok nmX6 hown hK hP hD hS 0 rfl rfl 5 (by decide) (hts (.fieldLink RX6 15 "RowGuard$Rows" "rowAt" "[I") (wOK_in (h := 10050) (by decide +kernel))) (fun _ h9 => h9) rfl hin rfl (by decide +kernel) rfl rfl (Nat.le_of_ble_eq_true rfl) dX6_init_17 (fun H locs hP hD hS => ?_)
  have hP : va_P Dg vwCl [(h0, (Sum.inr (6, [.int 0, .int 0, .int 0, .int 0, .ref q1, .ref q2, .null, .null, .null, .null, .null, .null]) : va_E)), (q1, (Sum.inl (cA 0, 16, Sum.inl (fun _ => (0 : Int32))) : va_E)), (q2, (Sum.inl (cA 0, 16, Sum.inl (fun _ => (0 : Int32))) : va_E))] H := hP
  have hD : va_D A [(h0, (Sum.inr (6, [.int 0, .int 0, .int 0, .int 0, .ref q1, .ref q2, .null, .null, .null, .null, .null, .null]) : va_E)), (q1, (Sum.inl (cA 0, 16, Sum.inl (fun _ => (0 : Int32))) : va_E)), (q2, (Sum.inl (cA 0, 16, Sum.inl (fun _ => (0 : Int32))) : va_E))] := hD
  refine lv_aload_n hx hb dX6_init_20 rfl (lv_at hl 0 rfl) ?_
  refine lv_bipush hx hb dX6_init_21 (v := 16) (by decide) ?_
  refine va_newa (atype := .int) (n := 16) (N' := 16) (a0 := (16, Sum.inl (fun _ => (0 : Int32)))) hx hb (hts (.arrayClass .int) (wOK_in (h := 10094) (by decide +kernel))) rfl hK hP hD hS hA (fun _ => rfl) (by decide) (by decide) (Nat.le_of_ble_eq_true rfl) (Nat.le_of_ble_eq_true rfl) (Nat.le_of_ble_eq_true rfl) dX6_init_23 (fun q3 cB H hK2 hP hD hS => ?_)
  obtain rfl : cB = cA 0 := int_cls hK2
  have hP : va_P Dg vwCl [(h0, (Sum.inr (6, [.int 0, .int 0, .int 0, .int 0, .ref q1, .ref q2, .null, .null, .null, .null, .null, .null]) : va_E)), (q1, (Sum.inl (cA 0, 16, Sum.inl (fun _ => (0 : Int32))) : va_E)), (q2, (Sum.inl (cA 0, 16, Sum.inl (fun _ => (0 : Int32))) : va_E)), (q3, (Sum.inl (cA 0, 16, Sum.inl (fun _ => (0 : Int32))) : va_E))] H := hP
  have hD : va_D A [(h0, (Sum.inr (6, [.int 0, .int 0, .int 0, .int 0, .ref q1, .ref q2, .null, .null, .null, .null, .null, .null]) : va_E)), (q1, (Sum.inl (cA 0, 16, Sum.inl (fun _ => (0 : Int32))) : va_E)), (q2, (Sum.inl (cA 0, 16, Sum.inl (fun _ => (0 : Int32))) : va_E)), (q3, (Sum.inl (cA 0, 16, Sum.inl (fun _ => (0 : Int32))) : va_E))] := hD
  refine va_putF (D := Dg) (ci := 6) (v := .ref q3) (ty := .array .int) (C := RX6) (T := TX6) (N := 12) hx hb hts (mx_in (ci := 6) rfl) tyX6 tyX6_ok nmX6 hown hK hP hD hS 0 rfl rfl 6 (by decide) (hts (.fieldLink RX6 18 "RowGuard$Rows" "disturbed" "[I") (wOK_in (h := 10054) (by decide +kernel))) (fun _ h9 => h9) rfl hin rfl (by decide +kernel) rfl rfl (Nat.le_of_ble_eq_true rfl) dX6_init_25 (fun H locs hP hD hS => ?_)
  have hP : va_P Dg vwCl [(h0, (Sum.inr (6, [.int 0, .int 0, .int 0, .int 0, .ref q1, .ref q2, .ref q3, .null, .null, .null, .null, .null]) : va_E)), (q1, (Sum.inl (cA 0, 16, Sum.inl (fun _ => (0 : Int32))) : va_E)), (q2, (Sum.inl (cA 0, 16, Sum.inl (fun _ => (0 : Int32))) : va_E)), (q3, (Sum.inl (cA 0, 16, Sum.inl (fun _ => (0 : Int32))) : va_E))] H := hP
  have hD : va_D A [(h0, (Sum.inr (6, [.int 0, .int 0, .int 0, .int 0, .ref q1, .ref q2, .ref q3, .null, .null, .null, .null, .null]) : va_E)), (q1, (Sum.inl (cA 0, 16, Sum.inl (fun _ => (0 : Int32))) : va_E)), (q2, (Sum.inl (cA 0, 16, Sum.inl (fun _ => (0 : Int32))) : va_E)), (q3, (Sum.inl (cA 0, 16, Sum.inl (fun _ => (0 : Int32))) : va_E))] := hD
  refine lv_aload_n hx hb dX6_init_28 rfl (lv_at hl 0 rfl) ?_
  refine lv_bipush hx hb dX6_init_29 (v := 16) (by decide) ?_
  refine va_newa (atype := .int) (n := 16) (N' := 16) (a0 := (16, Sum.inl (fun _ => (0 : Int32)))) hx hb (hts (.arrayClass .int) (wOK_in (h := 10094) (by decide +kernel))) rfl hK hP hD hS hA (fun _ => rfl) (by decide) (by decide) (Nat.le_of_ble_eq_true rfl) (Nat.le_of_ble_eq_true rfl) (Nat.le_of_ble_eq_true rfl) dX6_init_31 (fun q4 cB H hK2 hP hD hS => ?_)
  obtain rfl : cB = cA 0 := int_cls hK2
  have hP : va_P Dg vwCl [(h0, (Sum.inr (6, [.int 0, .int 0, .int 0, .int 0, .ref q1, .ref q2, .ref q3, .null, .null, .null, .null, .null]) : va_E)), (q1, (Sum.inl (cA 0, 16, Sum.inl (fun _ => (0 : Int32))) : va_E)), (q2, (Sum.inl (cA 0, 16, Sum.inl (fun _ => (0 : Int32))) : va_E)), (q3, (Sum.inl (cA 0, 16, Sum.inl (fun _ => (0 : Int32))) : va_E)), (q4, (Sum.inl (cA 0, 16, Sum.inl (fun _ => (0 : Int32))) : va_E))] H := hP
  have hD : va_D A [(h0, (Sum.inr (6, [.int 0, .int 0, .int 0, .int 0, .ref q1, .ref q2, .ref q3, .null, .null, .null, .null, .null]) : va_E)), (q1, (Sum.inl (cA 0, 16, Sum.inl (fun _ => (0 : Int32))) : va_E)), (q2, (Sum.inl (cA 0, 16, Sum.inl (fun _ => (0 : Int32))) : va_E)), (q3, (Sum.inl (cA 0, 16, Sum.inl (fun _ => (0 : Int32))) : va_E)), (q4, (Sum.inl (cA 0, 16, Sum.inl (fun _ => (0 : Int32))) : va_E))] := hD
  refine va_putF (D := Dg) (ci := 6) (v := .ref q4) (ty := .array .int) (C := RX6) (T := TX6) (N := 12) hx hb hts (mx_in (ci := 6) rfl) tyX6 tyX6_ok nmX6 hown hK hP hD hS 0 rfl rfl 7 (by decide) (hts (.fieldLink RX6 21 "RowGuard$Rows" "opened" "[I") (wOK_in (h := 10058) (by decide +kernel))) (fun _ h9 => h9) rfl hin rfl (by decide +kernel) rfl rfl (Nat.le_of_ble_eq_true rfl) dX6_init_33 (fun H locs hP hD hS => ?_)
  have hP : va_P Dg vwCl [(h0, (Sum.inr (6, [.int 0, .int 0, .int 0, .int 0, .ref q1, .ref q2, .ref q3, .ref q4, .null, .null, .null, .null]) : va_E)), (q1, (Sum.inl (cA 0, 16, Sum.inl (fun _ => (0 : Int32))) : va_E)), (q2, (Sum.inl (cA 0, 16, Sum.inl (fun _ => (0 : Int32))) : va_E)), (q3, (Sum.inl (cA 0, 16, Sum.inl (fun _ => (0 : Int32))) : va_E)), (q4, (Sum.inl (cA 0, 16, Sum.inl (fun _ => (0 : Int32))) : va_E))] H := hP
  have hD : va_D A [(h0, (Sum.inr (6, [.int 0, .int 0, .int 0, .int 0, .ref q1, .ref q2, .ref q3, .ref q4, .null, .null, .null, .null]) : va_E)), (q1, (Sum.inl (cA 0, 16, Sum.inl (fun _ => (0 : Int32))) : va_E)), (q2, (Sum.inl (cA 0, 16, Sum.inl (fun _ => (0 : Int32))) : va_E)), (q3, (Sum.inl (cA 0, 16, Sum.inl (fun _ => (0 : Int32))) : va_E)), (q4, (Sum.inl (cA 0, 16, Sum.inl (fun _ => (0 : Int32))) : va_E))] := hD
  refine lv_aload_n hx hb dX6_init_36 rfl (lv_at hl 0 rfl) ?_
  refine lv_bipush hx hb dX6_init_37 (v := 16) (by decide) ?_
  refine va_newa (atype := .int) (n := 16) (N' := 16) (a0 := (16, Sum.inl (fun _ => (0 : Int32)))) hx hb (hts (.arrayClass .int) (wOK_in (h := 10094) (by decide +kernel))) rfl hK hP hD hS hA (fun _ => rfl) (by decide) (by decide) (Nat.le_of_ble_eq_true rfl) (Nat.le_of_ble_eq_true rfl) (Nat.le_of_ble_eq_true rfl) dX6_init_39 (fun q5 cB H hK2 hP hD hS => ?_)
  obtain rfl : cB = cA 0 := int_cls hK2
  have hP : va_P Dg vwCl [(h0, (Sum.inr (6, [.int 0, .int 0, .int 0, .int 0, .ref q1, .ref q2, .ref q3, .ref q4, .null, .null, .null, .null]) : va_E)), (q1, (Sum.inl (cA 0, 16, Sum.inl (fun _ => (0 : Int32))) : va_E)), (q2, (Sum.inl (cA 0, 16, Sum.inl (fun _ => (0 : Int32))) : va_E)), (q3, (Sum.inl (cA 0, 16, Sum.inl (fun _ => (0 : Int32))) : va_E)), (q4, (Sum.inl (cA 0, 16, Sum.inl (fun _ => (0 : Int32))) : va_E)), (q5, (Sum.inl (cA 0, 16, Sum.inl (fun _ => (0 : Int32))) : va_E))] H := hP
  have hD : va_D A [(h0, (Sum.inr (6, [.int 0, .int 0, .int 0, .int 0, .ref q1, .ref q2, .ref q3, .ref q4, .null, .null, .null, .null]) : va_E)), (q1, (Sum.inl (cA 0, 16, Sum.inl (fun _ => (0 : Int32))) : va_E)), (q2, (Sum.inl (cA 0, 16, Sum.inl (fun _ => (0 : Int32))) : va_E)), (q3, (Sum.inl (cA 0, 16, Sum.inl (fun _ => (0 : Int32))) : va_E)), (q4, (Sum.inl (cA 0, 16, Sum.inl (fun _ => (0 : Int32))) : va_E)), (q5, (Sum.inl (cA 0, 16, Sum.inl (fun _ => (0 : Int32))) : va_E))] := hD
  refine va_putF (D := Dg) (ci := 6) (v := .ref q5) (ty := .array .int) (C := RX6) (T := TX6) (N := 12) hx hb hts (mx_in (ci := 6) rfl) tyX6 tyX6_ok nmX6 hown hK hP hD hS 0 rfl rfl 8 (by decide) (hts (.fieldLink RX6 24 "RowGuard$Rows" "openedEver" "[I") (wOK_in (h := 10061) (by decide +kernel))) (fun _ h9 => h9) rfl hin rfl (by decide +kernel) rfl rfl (Nat.le_of_ble_eq_true rfl) dX6_init_41 (fun H locs hP hD hS => ?_)
  have hP : va_P Dg vwCl [(h0, (Sum.inr (6, [.int 0, .int 0, .int 0, .int 0, .ref q1, .ref q2, .ref q3, .ref q4, .ref q5, .null, .null, .null]) : va_E)), (q1, (Sum.inl (cA 0, 16, Sum.inl (fun _ => (0 : Int32))) : va_E)), (q2, (Sum.inl (cA 0, 16, Sum.inl (fun _ => (0 : Int32))) : va_E)), (q3, (Sum.inl (cA 0, 16, Sum.inl (fun _ => (0 : Int32))) : va_E)), (q4, (Sum.inl (cA 0, 16, Sum.inl (fun _ => (0 : Int32))) : va_E)), (q5, (Sum.inl (cA 0, 16, Sum.inl (fun _ => (0 : Int32))) : va_E))] H := hP
  have hD : va_D A [(h0, (Sum.inr (6, [.int 0, .int 0, .int 0, .int 0, .ref q1, .ref q2, .ref q3, .ref q4, .ref q5, .null, .null, .null]) : va_E)), (q1, (Sum.inl (cA 0, 16, Sum.inl (fun _ => (0 : Int32))) : va_E)), (q2, (Sum.inl (cA 0, 16, Sum.inl (fun _ => (0 : Int32))) : va_E)), (q3, (Sum.inl (cA 0, 16, Sum.inl (fun _ => (0 : Int32))) : va_E)), (q4, (Sum.inl (cA 0, 16, Sum.inl (fun _ => (0 : Int32))) : va_E)), (q5, (Sum.inl (cA 0, 16, Sum.inl (fun _ => (0 : Int32))) : va_E))] := hD
  refine lv_aload_n hx hb dX6_init_44 rfl (lv_at hl 0 rfl) ?_
  refine lv_bipush hx hb dX6_init_45 (v := 16) (by decide) ?_
  refine va_newa (atype := .int) (n := 16) (N' := 16) (a0 := (16, Sum.inl (fun _ => (0 : Int32)))) hx hb (hts (.arrayClass .int) (wOK_in (h := 10094) (by decide +kernel))) rfl hK hP hD hS hA (fun _ => rfl) (by decide) (by decide) (Nat.le_of_ble_eq_true rfl) (Nat.le_of_ble_eq_true rfl) (Nat.le_of_ble_eq_true rfl) dX6_init_47 (fun q6 cB H hK2 hP hD hS => ?_)
  obtain rfl : cB = cA 0 := int_cls hK2
  have hP : va_P Dg vwCl [(h0, (Sum.inr (6, [.int 0, .int 0, .int 0, .int 0, .ref q1, .ref q2, .ref q3, .ref q4, .ref q5, .null, .null, .null]) : va_E)), (q1, (Sum.inl (cA 0, 16, Sum.inl (fun _ => (0 : Int32))) : va_E)), (q2, (Sum.inl (cA 0, 16, Sum.inl (fun _ => (0 : Int32))) : va_E)), (q3, (Sum.inl (cA 0, 16, Sum.inl (fun _ => (0 : Int32))) : va_E)), (q4, (Sum.inl (cA 0, 16, Sum.inl (fun _ => (0 : Int32))) : va_E)), (q5, (Sum.inl (cA 0, 16, Sum.inl (fun _ => (0 : Int32))) : va_E)), (q6, (Sum.inl (cA 0, 16, Sum.inl (fun _ => (0 : Int32))) : va_E))] H := hP
  have hD : va_D A [(h0, (Sum.inr (6, [.int 0, .int 0, .int 0, .int 0, .ref q1, .ref q2, .ref q3, .ref q4, .ref q5, .null, .null, .null]) : va_E)), (q1, (Sum.inl (cA 0, 16, Sum.inl (fun _ => (0 : Int32))) : va_E)), (q2, (Sum.inl (cA 0, 16, Sum.inl (fun _ => (0 : Int32))) : va_E)), (q3, (Sum.inl (cA 0, 16, Sum.inl (fun _ => (0 : Int32))) : va_E)), (q4, (Sum.inl (cA 0, 16, Sum.inl (fun _ => (0 : Int32))) : va_E)), (q5, (Sum.inl (cA 0, 16, Sum.inl (fun _ => (0 : Int32))) : va_E)), (q6, (Sum.inl (cA 0, 16, Sum.inl (fun _ => (0 : Int32))) : va_E))] := hD
  refine va_putF (D := Dg) (ci := 6) (v := .ref q6) (ty := .array .int) (C := RX6) (T := TX6) (N := 12) hx hb hts (mx_in (ci := 6) rfl) tyX6 tyX6_ok nmX6 hown hK hP hD hS 0 rfl rfl 9 (by decide) (hts (.fieldLink RX6 27 "RowGuard$Rows" "bits" "[I") (wOK_in (h := 10063) (by decide +kernel))) (fun _ h9 => h9) rfl hin rfl (by decide +kernel) rfl rfl (Nat.le_of_ble_eq_true rfl) dX6_init_49 (fun H locs hP hD hS => ?_)
  have hP : va_P Dg vwCl [(h0, (Sum.inr (6, [.int 0, .int 0, .int 0, .int 0, .ref q1, .ref q2, .ref q3, .ref q4, .ref q5, .ref q6, .null, .null]) : va_E)), (q1, (Sum.inl (cA 0, 16, Sum.inl (fun _ => (0 : Int32))) : va_E)), (q2, (Sum.inl (cA 0, 16, Sum.inl (fun _ => (0 : Int32))) : va_E)), (q3, (Sum.inl (cA 0, 16, Sum.inl (fun _ => (0 : Int32))) : va_E)), (q4, (Sum.inl (cA 0, 16, Sum.inl (fun _ => (0 : Int32))) : va_E)), (q5, (Sum.inl (cA 0, 16, Sum.inl (fun _ => (0 : Int32))) : va_E)), (q6, (Sum.inl (cA 0, 16, Sum.inl (fun _ => (0 : Int32))) : va_E))] H := hP
  have hD : va_D A [(h0, (Sum.inr (6, [.int 0, .int 0, .int 0, .int 0, .ref q1, .ref q2, .ref q3, .ref q4, .ref q5, .ref q6, .null, .null]) : va_E)), (q1, (Sum.inl (cA 0, 16, Sum.inl (fun _ => (0 : Int32))) : va_E)), (q2, (Sum.inl (cA 0, 16, Sum.inl (fun _ => (0 : Int32))) : va_E)), (q3, (Sum.inl (cA 0, 16, Sum.inl (fun _ => (0 : Int32))) : va_E)), (q4, (Sum.inl (cA 0, 16, Sum.inl (fun _ => (0 : Int32))) : va_E)), (q5, (Sum.inl (cA 0, 16, Sum.inl (fun _ => (0 : Int32))) : va_E)), (q6, (Sum.inl (cA 0, 16, Sum.inl (fun _ => (0 : Int32))) : va_E))] := hD
  refine lv_aload_n hx hb dX6_init_52 rfl (lv_at hl 0 rfl) ?_
  refine lv_bipush hx hb dX6_init_53 (v := 16) (by decide) ?_
  refine va_newa (atype := .int) (n := 16) (N' := 16) (a0 := (16, Sum.inl (fun _ => (0 : Int32)))) hx hb (hts (.arrayClass .int) (wOK_in (h := 10094) (by decide +kernel))) rfl hK hP hD hS hA (fun _ => rfl) (by decide) (by decide) (Nat.le_of_ble_eq_true rfl) (Nat.le_of_ble_eq_true rfl) (Nat.le_of_ble_eq_true rfl) dX6_init_55 (fun q7 cB H hK2 hP hD hS => ?_)
  obtain rfl : cB = cA 0 := int_cls hK2
  have hP : va_P Dg vwCl [(h0, (Sum.inr (6, [.int 0, .int 0, .int 0, .int 0, .ref q1, .ref q2, .ref q3, .ref q4, .ref q5, .ref q6, .null, .null]) : va_E)), (q1, (Sum.inl (cA 0, 16, Sum.inl (fun _ => (0 : Int32))) : va_E)), (q2, (Sum.inl (cA 0, 16, Sum.inl (fun _ => (0 : Int32))) : va_E)), (q3, (Sum.inl (cA 0, 16, Sum.inl (fun _ => (0 : Int32))) : va_E)), (q4, (Sum.inl (cA 0, 16, Sum.inl (fun _ => (0 : Int32))) : va_E)), (q5, (Sum.inl (cA 0, 16, Sum.inl (fun _ => (0 : Int32))) : va_E)), (q6, (Sum.inl (cA 0, 16, Sum.inl (fun _ => (0 : Int32))) : va_E)), (q7, (Sum.inl (cA 0, 16, Sum.inl (fun _ => (0 : Int32))) : va_E))] H := hP
  have hD : va_D A [(h0, (Sum.inr (6, [.int 0, .int 0, .int 0, .int 0, .ref q1, .ref q2, .ref q3, .ref q4, .ref q5, .ref q6, .null, .null]) : va_E)), (q1, (Sum.inl (cA 0, 16, Sum.inl (fun _ => (0 : Int32))) : va_E)), (q2, (Sum.inl (cA 0, 16, Sum.inl (fun _ => (0 : Int32))) : va_E)), (q3, (Sum.inl (cA 0, 16, Sum.inl (fun _ => (0 : Int32))) : va_E)), (q4, (Sum.inl (cA 0, 16, Sum.inl (fun _ => (0 : Int32))) : va_E)), (q5, (Sum.inl (cA 0, 16, Sum.inl (fun _ => (0 : Int32))) : va_E)), (q6, (Sum.inl (cA 0, 16, Sum.inl (fun _ => (0 : Int32))) : va_E)), (q7, (Sum.inl (cA 0, 16, Sum.inl (fun _ => (0 : Int32))) : va_E))] := hD
  refine va_putF (D := Dg) (ci := 6) (v := .ref q7) (ty := .array .int) (C := RX6) (T := TX6) (N := 12) hx hb hts (mx_in (ci := 6) rfl) tyX6 tyX6_ok nmX6 hown hK hP hD hS 0 rfl rfl 10 (by decide) (hts (.fieldLink RX6 30 "RowGuard$Rows" "good" "[I") (wOK_in (h := 10065) (by decide +kernel))) (fun _ h9 => h9) rfl hin rfl (by decide +kernel) rfl rfl (Nat.le_of_ble_eq_true rfl) dX6_init_57 (fun H locs hP hD hS => ?_)
  have hP : va_P Dg vwCl [(h0, (Sum.inr (6, [.int 0, .int 0, .int 0, .int 0, .ref q1, .ref q2, .ref q3, .ref q4, .ref q5, .ref q6, .ref q7, .null]) : va_E)), (q1, (Sum.inl (cA 0, 16, Sum.inl (fun _ => (0 : Int32))) : va_E)), (q2, (Sum.inl (cA 0, 16, Sum.inl (fun _ => (0 : Int32))) : va_E)), (q3, (Sum.inl (cA 0, 16, Sum.inl (fun _ => (0 : Int32))) : va_E)), (q4, (Sum.inl (cA 0, 16, Sum.inl (fun _ => (0 : Int32))) : va_E)), (q5, (Sum.inl (cA 0, 16, Sum.inl (fun _ => (0 : Int32))) : va_E)), (q6, (Sum.inl (cA 0, 16, Sum.inl (fun _ => (0 : Int32))) : va_E)), (q7, (Sum.inl (cA 0, 16, Sum.inl (fun _ => (0 : Int32))) : va_E))] H := hP
  have hD : va_D A [(h0, (Sum.inr (6, [.int 0, .int 0, .int 0, .int 0, .ref q1, .ref q2, .ref q3, .ref q4, .ref q5, .ref q6, .ref q7, .null]) : va_E)), (q1, (Sum.inl (cA 0, 16, Sum.inl (fun _ => (0 : Int32))) : va_E)), (q2, (Sum.inl (cA 0, 16, Sum.inl (fun _ => (0 : Int32))) : va_E)), (q3, (Sum.inl (cA 0, 16, Sum.inl (fun _ => (0 : Int32))) : va_E)), (q4, (Sum.inl (cA 0, 16, Sum.inl (fun _ => (0 : Int32))) : va_E)), (q5, (Sum.inl (cA 0, 16, Sum.inl (fun _ => (0 : Int32))) : va_E)), (q6, (Sum.inl (cA 0, 16, Sum.inl (fun _ => (0 : Int32))) : va_E)), (q7, (Sum.inl (cA 0, 16, Sum.inl (fun _ => (0 : Int32))) : va_E))] := hD
  refine lv_aload_n hx hb dX6_init_60 rfl (lv_at hl 0 rfl) ?_
  refine lv_bipush hx hb dX6_init_61 (v := 16) (by decide) ?_
  refine va_newa (atype := .int) (n := 16) (N' := 16) (a0 := (16, Sum.inl (fun _ => (0 : Int32)))) hx hb (hts (.arrayClass .int) (wOK_in (h := 10094) (by decide +kernel))) rfl hK hP hD hS hA (fun _ => rfl) (by decide) (by decide) (Nat.le_of_ble_eq_true rfl) (Nat.le_of_ble_eq_true rfl) (Nat.le_of_ble_eq_true rfl) dX6_init_63 (fun q8 cB H hK2 hP hD hS => ?_)
  obtain rfl : cB = cA 0 := int_cls hK2
  have hP : va_P Dg vwCl [(h0, (Sum.inr (6, [.int 0, .int 0, .int 0, .int 0, .ref q1, .ref q2, .ref q3, .ref q4, .ref q5, .ref q6, .ref q7, .null]) : va_E)), (q1, (Sum.inl (cA 0, 16, Sum.inl (fun _ => (0 : Int32))) : va_E)), (q2, (Sum.inl (cA 0, 16, Sum.inl (fun _ => (0 : Int32))) : va_E)), (q3, (Sum.inl (cA 0, 16, Sum.inl (fun _ => (0 : Int32))) : va_E)), (q4, (Sum.inl (cA 0, 16, Sum.inl (fun _ => (0 : Int32))) : va_E)), (q5, (Sum.inl (cA 0, 16, Sum.inl (fun _ => (0 : Int32))) : va_E)), (q6, (Sum.inl (cA 0, 16, Sum.inl (fun _ => (0 : Int32))) : va_E)), (q7, (Sum.inl (cA 0, 16, Sum.inl (fun _ => (0 : Int32))) : va_E)), (q8, (Sum.inl (cA 0, 16, Sum.inl (fun _ => (0 : Int32))) : va_E))] H := hP
  have hD : va_D A [(h0, (Sum.inr (6, [.int 0, .int 0, .int 0, .int 0, .ref q1, .ref q2, .ref q3, .ref q4, .ref q5, .ref q6, .ref q7, .null]) : va_E)), (q1, (Sum.inl (cA 0, 16, Sum.inl (fun _ => (0 : Int32))) : va_E)), (q2, (Sum.inl (cA 0, 16, Sum.inl (fun _ => (0 : Int32))) : va_E)), (q3, (Sum.inl (cA 0, 16, Sum.inl (fun _ => (0 : Int32))) : va_E)), (q4, (Sum.inl (cA 0, 16, Sum.inl (fun _ => (0 : Int32))) : va_E)), (q5, (Sum.inl (cA 0, 16, Sum.inl (fun _ => (0 : Int32))) : va_E)), (q6, (Sum.inl (cA 0, 16, Sum.inl (fun _ => (0 : Int32))) : va_E)), (q7, (Sum.inl (cA 0, 16, Sum.inl (fun _ => (0 : Int32))) : va_E)), (q8, (Sum.inl (cA 0, 16, Sum.inl (fun _ => (0 : Int32))) : va_E))] := hD
  refine va_putF (D := Dg) (ci := 6) (v := .ref q8) (ty := .array .int) (C := RX6) (T := TX6) (N := 12) hx hb hts (mx_in (ci := 6) rfl) tyX6 tyX6_ok nmX6 hown hK hP hD hS 0 rfl rfl 11 (by decide) (hts (.fieldLink RX6 33 "RowGuard$Rows" "weakBits" "[I") (wOK_in (h := 10067) (by decide +kernel))) (fun _ h9 => h9) rfl hin rfl (by decide +kernel) rfl rfl (Nat.le_of_ble_eq_true rfl) dX6_init_65 (fun H locs hP hD hS => ?_)
  have hP : va_P Dg vwCl [(h0, (Sum.inr (6, [.int 0, .int 0, .int 0, .int 0, .ref q1, .ref q2, .ref q3, .ref q4, .ref q5, .ref q6, .ref q7, .ref q8]) : va_E)), (q1, (Sum.inl (cA 0, 16, Sum.inl (fun _ => (0 : Int32))) : va_E)), (q2, (Sum.inl (cA 0, 16, Sum.inl (fun _ => (0 : Int32))) : va_E)), (q3, (Sum.inl (cA 0, 16, Sum.inl (fun _ => (0 : Int32))) : va_E)), (q4, (Sum.inl (cA 0, 16, Sum.inl (fun _ => (0 : Int32))) : va_E)), (q5, (Sum.inl (cA 0, 16, Sum.inl (fun _ => (0 : Int32))) : va_E)), (q6, (Sum.inl (cA 0, 16, Sum.inl (fun _ => (0 : Int32))) : va_E)), (q7, (Sum.inl (cA 0, 16, Sum.inl (fun _ => (0 : Int32))) : va_E)), (q8, (Sum.inl (cA 0, 16, Sum.inl (fun _ => (0 : Int32))) : va_E))] H := hP
  have hD : va_D A [(h0, (Sum.inr (6, [.int 0, .int 0, .int 0, .int 0, .ref q1, .ref q2, .ref q3, .ref q4, .ref q5, .ref q6, .ref q7, .ref q8]) : va_E)), (q1, (Sum.inl (cA 0, 16, Sum.inl (fun _ => (0 : Int32))) : va_E)), (q2, (Sum.inl (cA 0, 16, Sum.inl (fun _ => (0 : Int32))) : va_E)), (q3, (Sum.inl (cA 0, 16, Sum.inl (fun _ => (0 : Int32))) : va_E)), (q4, (Sum.inl (cA 0, 16, Sum.inl (fun _ => (0 : Int32))) : va_E)), (q5, (Sum.inl (cA 0, 16, Sum.inl (fun _ => (0 : Int32))) : va_E)), (q6, (Sum.inl (cA 0, 16, Sum.inl (fun _ => (0 : Int32))) : va_E)), (q7, (Sum.inl (cA 0, 16, Sum.inl (fun _ => (0 : Int32))) : va_E)), (q8, (Sum.inl (cA 0, 16, Sum.inl (fun _ => (0 : Int32))) : va_E))] := hD
  exact W.vret hx hb hr (fun t ht hW => ⟨⟨(fun i => match i with | 1 => q1 | 2 => q2 | 3 => q3 | 4 => q4 | 5 => q5 | 6 => q6 | 7 => q7 | _ => q8), rfl, trivial, by rw [ht]; exact hP, hD⟩, hS.F ht⟩) hS.2.2 dX6_init_68
