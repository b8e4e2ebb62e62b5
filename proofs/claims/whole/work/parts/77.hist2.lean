/-! the constructor of what is kept -/
theorem dX2_init_0 : decode cX2_init 0 = .ok (.aload_n 0, 1) := by decide +kernel
theorem dX2_init_1 : decode cX2_init 1 = .ok (.invokespecial 3, 3) := by decide +kernel
theorem dX2_init_4 : decode cX2_init 4 = .ok (.aload_n 0, 1) := by decide +kernel
theorem dX2_init_5 : decode cX2_init 5 = .ok (.bipush 10, 2) := by decide +kernel
theorem dX2_init_7 : decode cX2_init 7 = .ok (.anewarray 9, 3) := by decide +kernel
theorem dX2_init_10 : decode cX2_init 10 = .ok (.putfield 11, 3) := by decide +kernel
theorem dX2_init_13 : decode cX2_init 13 = .ok (.aload_n 0, 1) := by decide +kernel
theorem dX2_init_14 : decode cX2_init 14 = .ok (.iconst 2, 1) := by decide +kernel
theorem dX2_init_15 : decode cX2_init 15 = .ok (.anewarray 9, 3) := by decide +kernel
theorem dX2_init_18 : decode cX2_init 18 = .ok (.putfield 17, 3) := by decide +kernel
theorem dX2_init_21 : decode cX2_init 21 = .ok (.iconst 0, 1) := by decide +kernel
theorem dX2_init_22 : decode cX2_init 22 = .ok (.istore_n 1, 1) := by decide +kernel
theorem dX2_init_23 : decode cX2_init 23 = .ok (.iload_n 1, 1) := by decide +kernel
theorem dX2_init_24 : decode cX2_init 24 = .ok (.bipush 10, 2) := by decide +kernel
theorem dX2_init_26 : decode cX2_init 26 = .ok (.if_icmp .ge 22, 3) := by decide +kernel
theorem dX2_init_29 : decode cX2_init 29 = .ok (.aload_n 0, 1) := by decide +kernel
theorem dX2_init_30 : decode cX2_init 30 = .ok (.getfield 11, 3) := by decide +kernel
theorem dX2_init_33 : decode cX2_init 33 = .ok (.iload_n 1, 1) := by decide +kernel
theorem dX2_init_34 : decode cX2_init 34 = .ok (.new 9, 3) := by decide +kernel
theorem dX2_init_37 : decode cX2_init 37 = .ok (.dup, 1) := by decide +kernel
theorem dX2_init_38 : decode cX2_init 38 = .ok (.invokespecial 20, 3) := by decide +kernel
theorem dX2_init_41 : decode cX2_init 41 = .ok (.aastore, 1) := by decide +kernel
theorem dX2_init_42 : decode cX2_init 42 = .ok (.iinc 1 1, 3) := by decide +kernel
theorem dX2_init_45 : decode cX2_init 45 = .ok (.goto (-22), 3) := by decide +kernel
theorem dX2_init_48 : decode cX2_init 48 = .ok (.iconst 0, 1) := by decide +kernel
theorem dX2_init_49 : decode cX2_init 49 = .ok (.istore_n 1, 1) := by decide +kernel
theorem dX2_init_50 : decode cX2_init 50 = .ok (.iload_n 1, 1) := by decide +kernel
theorem dX2_init_51 : decode cX2_init 51 = .ok (.iconst 2, 1) := by decide +kernel
theorem dX2_init_52 : decode cX2_init 52 = .ok (.if_icmp .ge 22, 3) := by decide +kernel
theorem dX2_init_55 : decode cX2_init 55 = .ok (.aload_n 0, 1) := by decide +kernel
theorem dX2_init_56 : decode cX2_init 56 = .ok (.getfield 17, 3) := by decide +kernel
theorem dX2_init_59 : decode cX2_init 59 = .ok (.iload_n 1, 1) := by decide +kernel
theorem dX2_init_60 : decode cX2_init 60 = .ok (.new 9, 3) := by decide +kernel
theorem dX2_init_63 : decode cX2_init 63 = .ok (.dup, 1) := by decide +kernel
theorem dX2_init_64 : decode cX2_init 64 = .ok (.invokespecial 20, 3) := by decide +kernel
theorem dX2_init_67 : decode cX2_init 67 = .ok (.aastore, 1) := by decide +kernel
theorem dX2_init_68 : decode cX2_init 68 = .ok (.iinc 1 1, 3) := by decide +kernel
theorem dX2_init_71 : decode cX2_init 71 = .ok (.goto (-21), 3) := by decide +kernel
theorem dX2_init_74 : decode cX2_init 74 = .ok (.return_, 1) := by decide +kernel
theorem ref_cls {Dg : va_G} {cA : Nat → ClassId} {cB : ClassId} {s : State} (h : va_K Dg vwCl (tyA cA ++ [(cB, .object RX0)]) s) : cB = cA 3 := by
  obtain ⟨-, -, -, -, -, h1⟩ := (h.2 3 (cA 3, .object RX0) rfl).2
  obtain ⟨-, -, -, -, -, h2⟩ := (h.2 4 (cB, .object RX0) rfl).2
  exact Option.some.inj (h2.symm.trans h1)
abbrev rfA (cA : Nat → ClassId) (n : Nat) (f : Nat → Option Nat) : va_E := Sum.inl (cA 3, n, Sum.inr (Sum.inr (Sum.inr (Sum.inr f))))
abbrev hi3 (cA : Nat → ClassId) (h0 qr qi : Nat) (f g : Nat → Option Nat) : va_W := [(h0, (Sum.inr (2, [.ref qr, .ref qi, .int 0, .int 0, .int 0]) : va_E)), (qr, rfA cA 10 f), (qi, rfA cA 2 g)]
def flw (S : Ad → Nat → Int32) (cA : Nat → ClassId) (us : Nat → Nat → Nat) (n : Nat) : va_W := (List.range n).flatMap (fun j => bkw S cA (us j))
theorem flw_s {S : Ad → Nat → Int32} {cA : Nat → ClassId} {us : Nat → Nat → Nat} {u : Nat → Nat} {n : Nat} : flw S cA (fun j => if j = n then u else us j) (n + 1) = flw S cA us n ++ bkw S cA u := by
  unfold flw
  rw [List.range_succ, List.flatMap_append]
  congr 1
  · rw [List.flatMap_def, List.flatMap_def]
    congr 1
    refine List.map_congr_left (fun j hj => ?_)
    dsimp only
    rw [if_neg (by have := List.mem_range.mp hj; omega)]
  · simp
/-- the cells of what is kept, new -/
abbrev hiw (S : Ad → Nat → Int32) (cA : Nat → ClassId) (h0 : Nat) (u : (Nat → Nat → Nat) × (Nat → Option Nat) × (Nat → Option Nat) × Nat × Nat) : va_W := hi3 cA h0 u.2.2.2.1 u.2.2.2.2 u.2.1 u.2.2.1 ++ flw S cA u.1 12
set_option maxHeartbeats 4000000 in
set_option maxRecDepth 100000 in
theorem kX2 (l : Launch) (Dg : va_G) (cA : Nat → ClassId) {ad : Ad → Nat} {B0 : Nat} {S : Ad → Nat → Int32} (hT : Stc ad cA B0 (LY0, S) []) (had : ad (3, 0, 3) < B0) (h0 sz : Nat) (hB0 : B0 ≤ h0) : Met l yX2_init (.code yX2_init cX2_init 2 none :: GT) ({ frames := 4, cells := 302, slots := 5616, locals := 84 }) (va_Pc [.ref h0] (fun U => U.heap.size = sz ∧ va_P Dg vwCl [(h0, (Sum.inr (2, [.null, .null, .int 0, .int 0, .int 0]) : va_E))] U.heap ∧ (Ust ad B0 (LY0, S) Dg cA U ∧ va_AO RX0 U) ∧ va_D (fun _ => True) [(h0, (Sum.inr (2, [.null, .null, .int 0, .int 0, .int 0]) : va_E))])) (va_Qv (fun u : (Nat → Nat → Nat) × (Nat → Option Nat) × (Nat → Option Nat) × Nat × Nat => (∀ j, j < 10 → u.2.1 j = some (u.1 j 0)) ∧ ∀ j, j < 2 → u.2.2.1 j = some (u.1 (10 + j) 0)) (fun u t => va_P Dg vwCl (hiw S cA h0 u) t.heap ∧ va_D (va_A [(h0, (Sum.inr (2, [.null, .null, .int 0, .int 0, .int 0]) : va_E))] sz) (hiw S cA h0 u)) (va_A [(h0, (Sum.inr (2, [.null, .null, .int 0, .int 0, .int 0]) : va_E))] sz)) 302 5616 (va_A [(h0, (Sum.inr (2, [.null, .null, .int 0, .int 0, .int 0]) : va_E))] sz) := by
  refine Met.ofW (cc := cX2_init) (maxL := 2) (ret := none) (by decide) rfl ?_
  intro p e s m args below meth c s₁ B hml hv
  obtain ⟨rfl, hsz, hP, ⟨hU, hAO⟩, hD0⟩ := hv
  have hx := B.exec
  have hb := B.bytes
  have hr := B.returns
  have hts' := atoms_spec (ws := .code yX2_init cX2_init 2 none :: GT) B.pre
  have hts : ∀ w ∈ GT, w.before #[Value.ref h0] s = true := fun w hw => hts' w (List.mem_cons_of_mem _ hw)
  have hown : s.vm.findClass RX2 = some m.cls := findClass_of_methodNamed B.named
  have hlocks := B.notSynchronized
  have hin : meth.name = "<init>" := (name_of_methodNamed B.named B.method).1
  subst hsz
  have hD := hD0.self (sz := s.heap.size)
  have hAB : ∀ q, va_A [(h0, (Sum.inr (2, [.null, .null, .int 0, .int 0, .int 0]) : va_E))] s.heap.size q → B0 ≤ q := fun q h => by
    rcases h with ⟨k, e, h⟩ | h
    · cases k with
      | zero => injection h with h; injection h with h _; omega
      | succ k => cases k <;> cases h
    · exact Nat.le_trans hU.1 h
  generalize hAe : va_A [(h0, (Sum.inr (2, [.null, .null, .int 0, .int 0, .int 0]) : va_E))] s.heap.size = A at hD hAB ⊢
  have hA : ∀ q : Nat, s.heap.size ≤ q → A q := fun q h => by rw [← hAe]; exact Or.inr h
  have hS : va_S A s.heap s.heap [] := va_S.rf
  have hl := lv_entry ([.ref h0]) (n := 2) (Nat.le_of_ble_eq_true rfl)
  rw [lg_entry_eq]
  generalize (lg_sl ([.ref h0]) ++ List.replicate (2 - (lg_sl ([.ref h0])).length) Slot.unset).toArray = ls at hl ⊢
  have hl : lv_has ls 2 [(0, .ref h0)] := hl
  refine lv_aload_n hx hb dX2_init_0 rfl (lv_at hl 0 rfl) ?_
  refine W.objInit hx hb hown (hts (.methodLink RX2 3 objectInit) (wOK_in (h := 20051) (by decide +kernel))) (hts (.instanceMethod objectInit) (wOK_in (h := 10022) (by decide +kernel))) (hts (.code objectInit ⟨#[0xb1]⟩ 1 none) (wOK_in (h := 10023) (by decide +kernel))) rfl (by rw [hml]; exact hl.1) rfl dX2_init_1 (Nat.le_of_ble_eq_true rfl) (Nat.le_of_ble_eq_true rfl) ?_
  refine W.eq (g2 := F0 m 4 ls []) rfl ?_
  refine lv_aload_n hx hb dX2_init_4 rfl (lv_at hl 0 rfl) ?_
  refine lv_bipush hx hb dX2_init_5 (v := 10) (by decide) ?_
  refine va_newq (C := RX0) (N' := 10) hx hb hown (hts (.classLink RX2 9 RX0) (wOK_in (h := 20052) (by decide +kernel))) hAO hU.2.1 hP hD hS hA (by decide) (by decide) (Nat.le_of_ble_eq_true rfl) (Nat.le_of_ble_eq_true rfl) (Nat.le_of_ble_eq_true rfl) dX2_init_7 (fun qr cB H hK2 hP hD hS => ?_)
  obtain rfl : cB = cA 3 := ref_cls hK2
  refine va_putF (D := Dg) (ci := 2) (v := .ref qr) (ty := .array (.object RX0)) (C := RX2) (T := TX2) (N := 5) hx hb hts (mx_in (ci := 2) rfl) tyX2 tyX2_ok nmX2 hown hU.2.1 hP hD hS 0 rfl rfl 0 (by decide) (hts (.fieldLink RX2 11 "RowGuard$History" "ring" "[LRowGuard$Bank;") (wOK_in (h := 20055) (by decide +kernel))) (fun _ h9 => h9) rfl hin rfl (by decide +kernel) rfl rfl (Nat.le_of_ble_eq_true rfl) dX2_init_10 (fun H locs hP hD hS => ?_)
  have hP : va_P Dg vwCl [(h0, (Sum.inr (2, [.ref qr, .null, .int 0, .int 0, .int 0]) : va_E)), (qr, rfA cA 10 (fun _ => none))] H := hP
  have hD : va_D A [(h0, (Sum.inr (2, [.ref qr, .null, .int 0, .int 0, .int 0]) : va_E)), (qr, rfA cA 10 (fun _ => none))] := hD
  refine lv_aload_n hx hb dX2_init_13 rfl (lv_at hl 0 rfl) ?_
  refine lv_iconst hx hb dX2_init_14 (v := 2) (by decide) ?_
  refine va_newq (C := RX0) (N' := 2) hx hb hown (hts (.classLink RX2 9 RX0) (wOK_in (h := 20052) (by decide +kernel))) hAO hU.2.1 hP hD hS hA (by decide) (by decide) (Nat.le_of_ble_eq_true rfl) (Nat.le_of_ble_eq_true rfl) (Nat.le_of_ble_eq_true rfl) dX2_init_15 (fun qi cB H hK2 hP hD hS => ?_)
  obtain rfl : cB = cA 3 := ref_cls hK2
  refine va_putF (D := Dg) (ci := 2) (v := .ref qi) (ty := .array (.object RX0)) (C := RX2) (T := TX2) (N := 5) hx hb hts (mx_in (ci := 2) rfl) tyX2 tyX2_ok nmX2 hown hU.2.1 hP hD hS 0 rfl rfl 1 (by decide) (hts (.fieldLink RX2 17 "RowGuard$History" "images" "[LRowGuard$Bank;") (wOK_in (h := 20056) (by decide +kernel))) (fun _ h9 => h9) rfl hin rfl (by decide +kernel) rfl rfl (Nat.le_of_ble_eq_true rfl) dX2_init_18 (fun H locs hP hD hS => ?_)
  have hP : va_P Dg vwCl (hi3 cA h0 qr qi (fun _ => none) (fun _ => none) ++ flw S cA (fun _ _ => 0) 0) H := hP
  have hD : va_D A (hi3 cA h0 qr qi (fun _ => none) (fun _ => none) ++ flw S cA (fun _ _ => 0) 0) := hD
  refine lv_iconst hx hb dX2_init_21 (v := 0) (by decide) ?_
  refine lv_istore_n hx hb dX2_init_22 rfl hl (by decide) rfl (fun ls hl => ?_)
  have le_i : ∀ (a b : Nat), a < 2 ^ 31 → b < 2 ^ 31 → (nI a ≤ nI b ↔ a ≤ b) := fun a b ha hb => by
    rw [Int32.le_iff_toInt_le, nI_toInt ha, nI_toInt hb]
    omega
  have up_at : ∀ (f : Nat → Option Nat) (i j : Nat) (v : Option Nat), va_up f i v j = if j = i then v else f j := fun f i j v => rfl
  have loop2 : ∀ (mm i : Nat) (us : Nat → Nat → Nat) (f g : Nat → Option Nat) (H : Heap) (locs : List Loc) (ls : Array Slot) (cells slots : Nat), i + mm = 2 → lv_has ls 2 [(1, .int (nI i)), (0, .ref h0)] → va_P Dg vwCl (hi3 cA h0 qr qi f g ++ flw S cA us (10 + i)) H → va_D A (hi3 cA h0 qr qi f g ++ flw S cA us (10 + i)) → va_S A s.heap H locs → (∀ j, j < 10 → f j = some (us j 0)) → (∀ j, j < i → g j = some (us (10 + j) 0)) → cells = 2 + 25 * (10 + i) → slots = 12 + 467 * (10 + i) → W p l e ({ frames := 4, cells := 302, slots := 5616, locals := 84 }) s m #[.ref h0] below meth c H locs cells slots (MQ below (va_Qv (fun u : (Nat → Nat → Nat) × (Nat → Option Nat) × (Nat → Option Nat) × Nat × Nat => (∀ j, j < 10 → u.2.1 j = some (u.1 j 0)) ∧ ∀ j, j < 2 → u.2.2.1 j = some (u.1 (10 + j) 0)) (fun u t => va_P Dg vwCl (hiw S cA h0 u) t.heap ∧ va_D A (hiw S cA h0 u)) A) #[.ref h0] s 302 5616 A) (F0 m 50 ls []) := by
    intro mm
    induction mm with
    | zero =>
      intro i us f g H locs ls cells slots hi hl hP hD hS hf hg hc hs
      have hi : i = 2 := by omega
      subst hi
      subst hc
      subst hs
      refine lv_iload_n hx hb dX2_init_50 rfl (lv_at hl 0 rfl) ?_
      refine lv_iconst hx hb dX2_init_51 (v := nI 2) (by decide) ?_
      refine lv_icmp_ge hx hb dX2_init_52 (tgt := 74) (by decide) (fun _ => ?_) (fun h => absurd ((le_i 2 2 (by decide) (by decide)).mpr (Nat.le_refl _)) h)
      exact W.vret hx hb hr (fun t ht hW => ⟨⟨(us, f, g, qr, qi), rfl, ⟨hf, hg⟩, by rw [ht]; exact hP, hD⟩, hS.F ht⟩) hS.2.2 dX2_init_74
    | succ mm ih =>
      intro i us f g H locs ls cells slots hi hl hP hD hS hf hg hc hs
      refine lv_iload_n hx hb dX2_init_50 rfl (lv_at hl 0 rfl) ?_
      refine lv_iconst hx hb dX2_init_51 (v := nI 2) (by decide) ?_
      refine lv_icmp_ge hx hb dX2_init_52 (tgt := 74) (by decide) (fun h => absurd ((le_i 2 i (by decide) (by omega)).mp h) (by omega)) (fun _ => ?_)
      refine lv_aload_n hx hb dX2_init_55 rfl (lv_at hl 1 rfl) ?_
      refine va_get (D := Dg) (ci := 2) (C := RX2) (T := TX2) (N := 5) hx hb hts (mx_in (ci := 2) rfl) hown hU.2.1 hP 0 rfl rfl 1 (by decide) (hts (.fieldLink RX2 17 "RowGuard$History" "images" "[LRowGuard$Bank;") (wOK_in (h := 20056) (by decide +kernel))) (fun _ h9 => h9) rfl dX2_init_56 ?_
      refine lv_iload_n hx hb dX2_init_59 rfl (lv_at hl 0 rfl) ?_
      refine mk_bank (l := l) hx hb hml hown hts hU hT had hP hD hS hA hAB (hts (.classLink RX2 9 RX0) (wOK_in (h := 20052) (by decide +kernel))) (hU.2.2.2.2 _ (wON_in (h := 20054) (by decide +kernel))) (show cells + 25 ≤ 302 by omega) (show slots + 467 ≤ 5616 by omega) (Nat.le_of_ble_eq_true rfl) (Nat.le_of_ble_eq_true rfl) (Nat.le_of_ble_eq_true rfl) hl.1 dX2_init_60 dX2_init_63 dX2_init_64 (fun u H locs hP hD hS => ?_)
      have hv : ((hi3 cA h0 qr qi f g ++ flw S cA us (10 + i)) ++ bkw S cA u)[(hi3 cA h0 qr qi f g ++ flw S cA us (10 + i)).length]? = some (u 0, (Sum.inr (0, [.ref (u 1), .ref (u 2), .ref (u 11), .ref (u 18), .ref (u 21), .int 0, .int 0, .int 0, .int 0, .int 0, .ref (u 23), .ref (u 24)]) : va_E)) := by
        rw [List.getElem?_append_right (Nat.le_refl _), Nat.sub_self]
        rfl
      refine va_astq (cA := cA 3) (r := (RX0, TX0, 12)) (n := 2) (f := g) hx hb hU.2.1 hP hD hS 2 3 _ 0 rfl rfl hv rfl (fun z => z.elim (nI_pos (by omega)) (fun z => by rw [nI_clamp (by omega)] at z; omega)) dX2_init_67 (fun H locs hP hD hS => ?_)
      rw [nI_clamp (show i < 2 ^ 31 by omega)] at hP hD
      have hP : va_P Dg vwCl ((hi3 cA h0 qr qi f (va_up g i (some (u 0))) ++ flw S cA us (10 + i)) ++ bkw S cA u) H := hP
      have hD : va_D A ((hi3 cA h0 qr qi f (va_up g i (some (u 0))) ++ flw S cA us (10 + i)) ++ bkw S cA u) := hD
      rw [List.append_assoc, ← flw_s] at hP hD
      refine lv_iinc (k := 0) hx hb dX2_init_68 hl rfl (nI_1 i) (by decide) rfl (fun ls hl => ?_)
      refine lv_goto hx hb dX2_init_71 (tgt := 50) (by decide) ?_
      refine ih (i + 1) (fun j => if j = 10 + i then u else us j) f _ H locs ls _ _ (by omega) hl hP hD hS (fun j hj => ?_) (fun j hj => ?_) (by omega) (by omega)
      · rw [hf j hj]
        rw [if_neg (show ¬ j = 10 + i by omega)]
      · rw [up_at]
        by_cases e : j = i
        · rw [if_pos e, if_pos (show 10 + j = 10 + i by omega)]
        · rw [if_neg e, if_neg (show ¬ 10 + j = 10 + i by omega), hg j (by omega)]
  have loop1 : ∀ (mm i : Nat) (us : Nat → Nat → Nat) (f g : Nat → Option Nat) (H : Heap) (locs : List Loc) (ls : Array Slot) (cells slots : Nat), i + mm = 10 → lv_has ls 2 [(1, .int (nI i)), (0, .ref h0)] → va_P Dg vwCl (hi3 cA h0 qr qi f g ++ flw S cA us (i)) H → va_D A (hi3 cA h0 qr qi f g ++ flw S cA us (i)) → va_S A s.heap H locs → (∀ j, j < i → f j = some (us j 0)) → cells = 2 + 25 * i → slots = 12 + 467 * i → W p l e ({ frames := 4, cells := 302, slots := 5616, locals := 84 }) s m #[.ref h0] below meth c H locs cells slots (MQ below (va_Qv (fun u : (Nat → Nat → Nat) × (Nat → Option Nat) × (Nat → Option Nat) × Nat × Nat => (∀ j, j < 10 → u.2.1 j = some (u.1 j 0)) ∧ ∀ j, j < 2 → u.2.2.1 j = some (u.1 (10 + j) 0)) (fun u t => va_P Dg vwCl (hiw S cA h0 u) t.heap ∧ va_D A (hiw S cA h0 u)) A) #[.ref h0] s 302 5616 A) (F0 m 23 ls []) := by
    intro mm
    induction mm with
    | zero =>
      intro i us f g H locs ls cells slots hi hl hP hD hS hf hc hs
      have hi : i = 10 := by omega
      subst hi
      refine lv_iload_n hx hb dX2_init_23 rfl (lv_at hl 0 rfl) ?_
      refine lv_bipush hx hb dX2_init_24 (v := nI 10) (by decide) ?_
      refine lv_icmp_ge hx hb dX2_init_26 (tgt := 48) (by decide) (fun _ => ?_) (fun h => absurd ((le_i 10 10 (by decide) (by decide)).mpr (Nat.le_refl _)) h)
      refine lv_iconst hx hb dX2_init_48 (v := nI 0) (by decide) ?_
      refine lv_istore_n hx hb dX2_init_49 rfl hl (by decide) rfl (fun ls hl => ?_)
      exact loop2 2 0 us f g H locs ls cells slots (by omega) hl hP hD hS hf (fun j hj => absurd hj (by omega)) (by omega) (by omega)
    | succ mm ih =>
      intro i us f g H locs ls cells slots hi hl hP hD hS hf hc hs
      refine lv_iload_n hx hb dX2_init_23 rfl (lv_at hl 0 rfl) ?_
      refine lv_bipush hx hb dX2_init_24 (v := nI 10) (by decide) ?_
      refine lv_icmp_ge hx hb dX2_init_26 (tgt := 48) (by decide) (fun h => absurd ((le_i 10 i (by decide) (by omega)).mp h) (by omega)) (fun _ => ?_)
      refine lv_aload_n hx hb dX2_init_29 rfl (lv_at hl 1 rfl) ?_
      refine va_get (D := Dg) (ci := 2) (C := RX2) (T := TX2) (N := 5) hx hb hts (mx_in (ci := 2) rfl) hown hU.2.1 hP 0 rfl rfl 0 (by decide) (hts (.fieldLink RX2 11 "RowGuard$History" "ring" "[LRowGuard$Bank;") (wOK_in (h := 20055) (by decide +kernel))) (fun _ h9 => h9) rfl dX2_init_30 ?_
      refine lv_iload_n hx hb dX2_init_33 rfl (lv_at hl 0 rfl) ?_
      refine mk_bank (l := l) hx hb hml hown hts hU hT had hP hD hS hA hAB (hts (.classLink RX2 9 RX0) (wOK_in (h := 20052) (by decide +kernel))) (hU.2.2.2.2 _ (wON_in (h := 20054) (by decide +kernel))) (show cells + 25 ≤ 302 by omega) (show slots + 467 ≤ 5616 by omega) (Nat.le_of_ble_eq_true rfl) (Nat.le_of_ble_eq_true rfl) (Nat.le_of_ble_eq_true rfl) hl.1 dX2_init_34 dX2_init_37 dX2_init_38 (fun u H locs hP hD hS => ?_)
      have hv : ((hi3 cA h0 qr qi f g ++ flw S cA us (i)) ++ bkw S cA u)[(hi3 cA h0 qr qi f g ++ flw S cA us (i)).length]? = some (u 0, (Sum.inr (0, [.ref (u 1), .ref (u 2), .ref (u 11), .ref (u 18), .ref (u 21), .int 0, .int 0, .int 0, .int 0, .int 0, .ref (u 23), .ref (u 24)]) : va_E)) := by
        rw [List.getElem?_append_right (Nat.le_refl _), Nat.sub_self]
        rfl
      refine va_astq (cA := cA 3) (r := (RX0, TX0, 12)) (n := 10) (f := f) hx hb hU.2.1 hP hD hS 1 3 _ 0 rfl rfl hv rfl (fun z => z.elim (nI_pos (by omega)) (fun z => by rw [nI_clamp (by omega)] at z; omega)) dX2_init_41 (fun H locs hP hD hS => ?_)
      rw [nI_clamp (show i < 2 ^ 31 by omega)] at hP hD
      have hP : va_P Dg vwCl ((hi3 cA h0 qr qi (va_up f i (some (u 0))) g ++ flw S cA us (i)) ++ bkw S cA u) H := hP
      have hD : va_D A ((hi3 cA h0 qr qi (va_up f i (some (u 0))) g ++ flw S cA us (i)) ++ bkw S cA u) := hD
      rw [List.append_assoc, ← flw_s] at hP hD
      refine lv_iinc (k := 0) hx hb dX2_init_42 hl rfl (nI_1 i) (by decide) rfl (fun ls hl => ?_)
      refine lv_goto hx hb dX2_init_45 (tgt := 23) (by decide) ?_
      refine ih (i + 1) (fun j => if j = i then u else us j) _ g H locs ls _ _ (by omega) hl hP hD hS (fun j hj => ?_) (by omega) (by omega)
      rw [up_at]
      by_cases e : j = i
      · rw [if_pos e, if_pos e]
      · rw [if_neg e, if_neg e, hf j (by omega)]
  exact loop1 10 0 (fun _ _ => 0) (fun _ => none) (fun _ => none) H locs ls _ _ (by omega) hl hP hD hS (fun j hj => absurd hj (by omega)) (by omega) (by omega)
