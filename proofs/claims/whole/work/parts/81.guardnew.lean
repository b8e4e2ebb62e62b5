/-! the constructor of the guard of rows -/
theorem dX9_init_0 : decode cX9_init 0 = .ok (.aload_n 0, 1) := by decide +kernel
theorem dX9_init_1 : decode cX9_init 1 = .ok (.invokespecial 1, 3) := by decide +kernel
theorem dX9_init_4 : decode cX9_init 4 = .ok (.aload_n 0, 1) := by decide +kernel
theorem dX9_init_5 : decode cX9_init 5 = .ok (.new 7, 3) := by decide +kernel
theorem dX9_init_8 : decode cX9_init 8 = .ok (.dup, 1) := by decide +kernel
theorem dX9_init_9 : decode cX9_init 9 = .ok (.invokespecial 9, 3) := by decide +kernel
theorem dX9_init_12 : decode cX9_init 12 = .ok (.putfield 10, 3) := by decide +kernel
theorem dX9_init_15 : decode cX9_init 15 = .ok (.aload_n 0, 1) := by decide +kernel
theorem dX9_init_16 : decode cX9_init 16 = .ok (.getfield 10, 3) := by decide +kernel
theorem dX9_init_19 : decode cX9_init 19 = .ok (.bipush 8, 2) := by decide +kernel
theorem dX9_init_21 : decode cX9_init 21 = .ok (.invokevirtual 16, 3) := by decide +kernel
theorem dX9_init_24 : decode cX9_init 24 = .ok (.aload_n 0, 1) := by decide +kernel
theorem dX9_init_25 : decode cX9_init 25 = .ok (.new 20, 3) := by decide +kernel
theorem dX9_init_28 : decode cX9_init 28 = .ok (.dup, 1) := by decide +kernel
theorem dX9_init_29 : decode cX9_init 29 = .ok (.invokespecial 22, 3) := by decide +kernel
theorem dX9_init_32 : decode cX9_init 32 = .ok (.putfield 23, 3) := by decide +kernel
theorem dX9_init_35 : decode cX9_init 35 = .ok (.aload_n 0, 1) := by decide +kernel
theorem dX9_init_36 : decode cX9_init 36 = .ok (.new 27, 3) := by decide +kernel
theorem dX9_init_39 : decode cX9_init 39 = .ok (.dup, 1) := by decide +kernel
theorem dX9_init_40 : decode cX9_init 40 = .ok (.invokespecial 29, 3) := by decide +kernel
theorem dX9_init_43 : decode cX9_init 43 = .ok (.putfield 30, 3) := by decide +kernel
theorem dX9_init_46 : decode cX9_init 46 = .ok (.aload_n 0, 1) := by decide +kernel
theorem dX9_init_47 : decode cX9_init 47 = .ok (.new 34, 3) := by decide +kernel
theorem dX9_init_50 : decode cX9_init 50 = .ok (.dup, 1) := by decide +kernel
theorem dX9_init_51 : decode cX9_init 51 = .ok (.invokespecial 36, 3) := by decide +kernel
theorem dX9_init_54 : decode cX9_init 54 = .ok (.putfield 37, 3) := by decide +kernel
theorem dX9_init_57 : decode cX9_init 57 = .ok (.aload_n 0, 1) := by decide +kernel
theorem dX9_init_58 : decode cX9_init 58 = .ok (.new 41, 3) := by decide +kernel
theorem dX9_init_61 : decode cX9_init 61 = .ok (.dup, 1) := by decide +kernel
theorem dX9_init_62 : decode cX9_init 62 = .ok (.invokespecial 43, 3) := by decide +kernel
theorem dX9_init_65 : decode cX9_init 65 = .ok (.putfield 44, 3) := by decide +kernel
theorem dX9_init_68 : decode cX9_init 68 = .ok (.aload_n 0, 1) := by decide +kernel
theorem dX9_init_69 : decode cX9_init 69 = .ok (.iconst 0, 1) := by decide +kernel
theorem dX9_init_70 : decode cX9_init 70 = .ok (.putfield 48, 3) := by decide +kernel
theorem dX9_init_73 : decode cX9_init 73 = .ok (.aload_n 0, 1) := by decide +kernel
theorem dX9_init_74 : decode cX9_init 74 = .ok (.iconst (-1), 1) := by decide +kernel
theorem dX9_init_75 : decode cX9_init 75 = .ok (.putfield 52, 3) := by decide +kernel
theorem dX9_init_78 : decode cX9_init 78 = .ok (.return_, 1) := by decide +kernel
def adB (ad : Ad → Nat) (u : Nat → Nat) : Ad → Nat := fun q => match q.1 with
  | 1 => u q.2.2
  | _ => ad q
def muB (S : Ad → Nat → Int32) : Mm := fun q => match q.2.2 with
  | 1 => va_cpy (S (3, 0, 3)) (fun _ => (0 : Int32)) 0 0 17
  | _ => fun _ => 0
set_option maxRecDepth 100000 in
theorem wB {ad : Ad → Nat} {cA : Nat → ClassId} {S : Ad → Nat → Int32} {u : Nat → Nat} : wl (adB ad u) cA WLB (muB S) = bkw S cA u := rfl
theorem D_addr {A : Nat → Prop} {ws ws' : va_W} (h : va_D A ws) (e : ws'.map Prod.fst = ws.map Prod.fst) : va_D A ws' := by
  have g : ∀ {k : Nat} {q : Nat × va_E}, ws'[k]? = some q → ∃ q', ws[k]? = some q' ∧ q'.1 = q.1 := fun {k q} hq => by
    have := congrArg (fun l => l[k]?) e
    simp only [List.getElem?_map, hq, Option.map_some] at this
    cases hw : ws[k]? with
    | none => rw [hw] at this; cases this
    | some q' => rw [hw] at this; exact ⟨q', rfl, (Option.some.inj this).symm⟩
  refine ⟨fun i j p q h1 h2 e1 => ?_, fun k q h1 => ?_⟩
  · obtain ⟨p', a1, a2⟩ := g h1
    obtain ⟨q', b1, b2⟩ := g h2
    exact h.1 i j p' q' a1 b1 (by rw [a2, b2, e1])
  · obtain ⟨q', b1, b2⟩ := g h1
    rw [← b2]
    exact h.2 k q' b1
theorem tail_D {A B : Nat → Prop} {x : Nat × va_E} {ws : va_W} (hD : va_D A (x :: ws)) (h : ∀ q, A q → q = x.1 ∨ B q) : va_D B ws := by
  refine ⟨fun i j p q h1 h2 e => ?_, fun k q h1 => ?_⟩
  · have := hD.1 (i + 1) (j + 1) p q h1 h2 e
    omega
  · rcases h _ (hD.2 (k + 1) q h1) with z | z
    · have := hD.1 (k + 1) 0 q x h1 rfl z
      omega
    · exact z
theorem wl_addr {ad : Ad → Nat} {cA : Nat → ClassId} {WL : List Ad} {μ μ' : Mm} : (wl ad cA WL μ).map Prod.fst = (wl ad cA WL μ').map Prod.fst := by
  unfold wl
  rw [List.map_map, List.map_map]
  rfl
theorem lay1_lt {o : Nat} (h : (lay1 o).1 ≤ 110) : o < 25 ∧ (lay1 o).1 < 110 := by
  unfold lay1 at h ⊢
  split at h <;> first | exact ⟨by omega, by decide⟩ | exact absurd h (by decide)
theorem LY0_lt {q : Ad} (h : (LY0 q).1 ≤ 110) : (q = (3, 0, 1) ∨ q = (3, 0, 2) ∨ q = (3, 0, 3)) ∧ LY0 q = (110, 17) := by
  unfold LY0 at h ⊢
  by_cases e : q = (3, 0, 1) ∨ q = (3, 0, 2) ∨ q = (3, 0, 3)
  · rw [if_pos e]
    exact ⟨e, rfl⟩
  · rw [if_neg e] at h
    exact absurd h (by decide)
theorem LYB_lt {q : Ad} (h : (LYB q).1 ≤ 110) : (q ∈ WLB ∧ LYB q = LAY q ∧ (LYB q).1 < 110) ∨ ((q = (3, 0, 1) ∨ q = (3, 0, 2) ∨ q = (3, 0, 3)) ∧ LYB q = (110, 17)) := by
  obtain ⟨a, j, o⟩ := q
  by_cases e : a = 1
  · subst e
    by_cases e0 : j.val = 0
    · have ej : j = 0 := Fin.ext e0
      subst ej
      have h : (lay1 o).1 ≤ 110 := h
      obtain ⟨h1, h2⟩ := lay1_lt h
      exact Or.inl ⟨List.mem_map.mpr ⟨o, List.mem_range.mpr h1, rfl⟩, rfl, h2⟩
    · exfalso
      have : LYB (1, j, o) = (999, 0) := by
        obtain ⟨v, hv⟩ := j
        cases v with
        | zero => exact absurd rfl e0
        | succ v => rfl
      rw [this] at h
      exact absurd h (by decide)
  · have : LYB (a, j, o) = LY0 (a, j, o) := by
      rcases a with _ | _ | a
      · rfl
      · exact absurd rfl e
      · rfl
    rw [this] at h ⊢
    exact Or.inr (LY0_lt h)
theorem adB_st {ad : Ad → Nat} {u : Nat → Nat} {x : Nat} : adB ad u (3, 0, x) = ad (3, 0, x) := rfl
theorem LYB_st {ad : Ad → Nat} {cA : Nat → ClassId} {B1 : Nat} {S : Ad → Nat → Int32} {u : Nat → Nat} (h : ∀ x, ad (3, 0, x) < B1) (hD : va_D (fun q => B1 ≤ q) (bkw S cA u)) : Stc (adB ad u) cA B1 (LYB, S) WLB := by
  refine ⟨fun q hq => ?_, fun q hq => ?_, fun μ => D_addr hD (by rw [← wB (ad := ad) (S := S)]; exact wl_addr)⟩
  · rcases LYB_lt (q := q) (Nat.le_of_lt hq) with ⟨h1, h2, h3⟩ | ⟨h1, h2⟩
    · exact ⟨h2, h1⟩
    · have hq : (LYB q).1 < 110 := hq
      rw [h2] at hq
      exact absurd hq (by decide)
  · rcases LYB_lt (q := q) (Nat.le_of_eq hq) with ⟨h1, h2, h3⟩ | ⟨h1, h2⟩
    · have hq : (LYB q).1 = 110 := hq
      omega
    · rcases h1 with rfl | rfl | rfl <;> exact h _
theorem Ust.toB {ad : Ad → Nat} {B0 B1 : Nat} {S : Ad → Nat → Int32} {Dg : va_G} {cA : Nat → ClassId} {U : State} {u : Nat → Nat} (h : Ust ad B0 (LY0, S) Dg cA U) (hB : B0 ≤ B1) (h1 : B1 ≤ U.heap.size) : Ust (adB ad u) B1 (LYB, S) Dg cA U := by
  obtain ⟨a1, a2, a3, a4, a5⟩ := h
  refine ⟨h1, a2, fun q hq => ?_, fun x hx => (a4 x hx).narrow (fun q z => Nat.le_trans hB z), a5⟩
  rcases LYB_lt (q := q) (Nat.le_of_eq hq) with ⟨b1, b2, b3⟩ | ⟨b1, b2⟩
  · have hq : (LYB q).1 = 110 := hq
    omega
  · have e : ((LYB, S) : LT).1 q = (110, 17) := b2
    rw [e]
    rcases b1 with rfl | rfl | rfl <;> exact a3 _ rfl
abbrev tpw (cA : Nat → ClassId) (h0 : Nat) (u : Nat → Nat) : va_W := [(h0, (Sum.inr (7, [.int 0, .ref (u 1)]) : va_E)), (u 1, (Sum.inl (cA 0, 60, Sum.inl (fun _ => (0 : Int32))) : va_E))]
abbrev rdw (cA : Nat → ClassId) (h0 : Nat) (u : Nat → Nat) : va_W := [(h0, (Sum.inr (5, [.ref (u 1), .ref (u 2), .ref (u 3), .int 0, .int 0, .int 0, .int 0, .int 0, .int 0, .int 0, .int 0, .int 0]) : va_E)), (u 1, (Sum.inl (cA 0, 48, Sum.inl (fun _ => (0 : Int32))) : va_E)), (u 2, (Sum.inl (cA 0, 3, Sum.inl (fun _ => (0 : Int32))) : va_E)), (u 3, (Sum.inl (cA 0, 3, Sum.inl (fun _ => (0 : Int32))) : va_E))]
/-- the cells of the guard of rows, new -/
abbrev rgw (ad : Ad → Nat) (S : Ad → Nat → Int32) (cA : Nat → ClassId) (h0 : Nat) (u : (Nat → Nat) × (Nat × (Nat → Nat) × (Nat → Nat) × (Nat → Nat)) × (Nat × (Nat → Nat → Nat) × (Nat → Option Nat) × (Nat → Option Nat) × Nat × Nat) × (Nat × (Nat → Nat)) × Nat × (Nat → Nat)) : va_W := ([(h0, (Sum.inr (9, [.ref (u.1 0), .ref u.2.1.1, .ref u.2.2.1.1, .ref u.2.2.2.1.1, .ref u.2.2.2.2.1, .int 0, .int (-1)]) : va_E))] ++ wl (adB ad u.1) cA WLB (rstC (0 : Fin 15) 8 (muB S)) ++ ppw S cA u.2.1.1 u.2.1.2 ++ hiw S cA u.2.2.1.1 u.2.2.1.2 ++ tpw cA u.2.2.2.1.1 u.2.2.2.1.2 ++ rdw cA u.2.2.2.2.1 u.2.2.2.2.2)
set_option maxHeartbeats 8000000 in
set_option maxRecDepth 100000 in
theorem kX9 (l : Launch) (Dg : va_G) (cA : Nat → ClassId) {ad : Ad → Nat} {B0 : Nat} {S : Ad → Nat → Int32} (hT : Stc ad cA B0 (LY0, S) []) (had : ∀ x, ad (3, 0, x) < B0) (h0 sz : Nat) (hB0 : B0 ≤ h0) : Met l yX9_init (.code yX9_init cX9_init 1 none :: GT) ({ frames := 5, cells := 387, slots := 7259, locals := 277 }) (va_Pc [.ref h0] (fun U => U.heap.size = sz ∧ va_P Dg vwCl [(h0, (Sum.inr (9, [.null, .null, .null, .null, .null, .int 0, .int 0]) : va_E))] U.heap ∧ (Ust ad B0 (LY0, S) Dg cA U ∧ va_AO RX0 U) ∧ va_D (fun _ => True) [(h0, (Sum.inr (9, [.null, .null, .null, .null, .null, .int 0, .int 0]) : va_E))])) (va_Qv (fun u : (Nat → Nat) × (Nat × (Nat → Nat) × (Nat → Nat) × (Nat → Nat)) × (Nat × (Nat → Nat → Nat) × (Nat → Option Nat) × (Nat → Option Nat) × Nat × Nat) × (Nat × (Nat → Nat)) × Nat × (Nat → Nat) => (∀ j, j < 10 → u.2.2.1.2.2.1 j = some (u.2.2.1.2.1 j 0)) ∧ ∀ j, j < 2 → u.2.2.1.2.2.2.1 j = some (u.2.2.1.2.1 (10 + j) 0)) (fun u t => va_P Dg vwCl (rgw ad S cA h0 u) t.heap ∧ va_D (va_A [(h0, (Sum.inr (9, [.null, .null, .null, .null, .null, .int 0, .int 0]) : va_E))] sz) (rgw ad S cA h0 u)) (va_A [(h0, (Sum.inr (9, [.null, .null, .null, .null, .null, .int 0, .int 0]) : va_E))] sz)) 387 7259 (va_A [(h0, (Sum.inr (9, [.null, .null, .null, .null, .null, .int 0, .int 0]) : va_E))] sz) := by
  refine Met.ofW (cc := cX9_init) (maxL := 1) (ret := none) (by decide) rfl ?_
  intro p e s m args below meth c s₁ B hml hv
  obtain ⟨rfl, hsz, hP, ⟨hU, hAO⟩, hD0⟩ := hv
  have hx := B.exec
  have hb := B.bytes
  have hr := B.returns
  have hts' := atoms_spec (ws := .code yX9_init cX9_init 1 none :: GT) B.pre
  have hts : ∀ w ∈ GT, w.before #[Value.ref h0] s = true := fun w hw => hts' w (List.mem_cons_of_mem _ hw)
  have hown : s.vm.findClass RX9 = some m.cls := findClass_of_methodNamed B.named
  have hlocks := B.notSynchronized
  have hin : meth.name = "<init>" := (name_of_methodNamed B.named B.method).1
  subst hsz
  have hD := hD0.self (sz := s.heap.size)
  have hAB : ∀ q, va_A [(h0, (Sum.inr (9, [.null, .null, .null, .null, .null, .int 0, .int 0]) : va_E))] s.heap.size q → B0 ≤ q := fun q h => by
    rcases h with ⟨k, e, h⟩ | h
    · cases k with
      | zero => injection h with h; injection h with h _; omega
      | succ k => cases k <;> cases h
    · exact Nat.le_trans hU.1 h
  have h0lt : h0 < s.heap.size := (hP 0 _ rfl).lt
  have hA0 : ∀ q, va_A [(h0, (Sum.inr (9, [.null, .null, .null, .null, .null, .int 0, .int 0]) : va_E))] s.heap.size q → q = h0 ∨ s.heap.size ≤ q := fun q h => by
    rcases h with ⟨k, e, h⟩ | h
    · cases k with
      | zero => injection h with h; injection h with h _; exact Or.inl h.symm
      | succ k => cases k <;> cases h
    · exact Or.inr h
  generalize hAe : va_A [(h0, (Sum.inr (9, [.null, .null, .null, .null, .null, .int 0, .int 0]) : va_E))] s.heap.size = A at hD hAB hA0 ⊢
  have hA : ∀ q : Nat, s.heap.size ≤ q → A q := fun q h => by rw [← hAe]; exact Or.inr h
  have hS : va_S A s.heap s.heap [] := va_S.rf
  have hl := lv_entry ([.ref h0]) (n := 1) (Nat.le_of_ble_eq_true rfl)
  rw [lg_entry_eq]
  generalize (lg_sl ([.ref h0]) ++ List.replicate (1 - (lg_sl ([.ref h0])).length) Slot.unset).toArray = ls at hl ⊢
  have hl : lv_has ls 1 [(0, .ref h0)] := hl
  refine lv_aload_n hx hb dX9_init_0 rfl (lv_at hl 0 rfl) ?_
  refine W.objInit hx hb hown (hts (.methodLink RX9 1 objectInit) (wOK_in (h := 10021) (by decide +kernel))) (hts (.instanceMethod objectInit) (wOK_in (h := 10022) (by decide +kernel))) (hts (.code objectInit ⟨#[0xb1]⟩ 1 none) (wOK_in (h := 10023) (by decide +kernel))) rfl (by rw [hml]; exact hl.1) rfl dX9_init_1 (Nat.le_of_ble_eq_true rfl) (Nat.le_of_ble_eq_true rfl) ?_
  refine W.eq (g2 := F0 m 4 ls []) rfl ?_
  refine lv_aload_n hx hb dX9_init_4 rfl (lv_at hl 0 rfl) ?_
  refine mk_bank (l := l) hx hb hml hown hts hU hT (had 3) hP hD hS hA hAB (hts (.classLink RX9 7 RX0) (wOK_in (h := 10024) (by decide +kernel))) (hU.2.2.2.2 _ (wON_in (h := 10026) (by decide +kernel))) (Nat.le_of_ble_eq_true rfl) (Nat.le_of_ble_eq_true rfl) (Nat.le_of_ble_eq_true rfl) (Nat.le_of_ble_eq_true rfl) (Nat.le_of_ble_eq_true rfl) hl.1 dX9_init_5 dX9_init_8 dX9_init_9 (fun u H locs hP hD hS => ?_)
  have hP : va_P Dg vwCl ([(h0, (Sum.inr (9, [.null, .null, .null, .null, .null, .int 0, .int 0]) : va_E))] ++ bkw S cA u) H := hP
  have hD : va_D A ([(h0, (Sum.inr (9, [.null, .null, .null, .null, .null, .int 0, .int 0]) : va_E))] ++ bkw S cA u) := hD
  refine va_putF (D := Dg) (ci := 9) (v := .ref (u 0)) (ty := .object "RowGuard$Bank") (C := RX9) (T := TX9) (N := 7) hx hb hts (mx_in (ci := 9) rfl) tyX9 tyX9_ok nmX9 hown hU.2.1 hP hD hS 0 rfl rfl 0 (by decide) (hts (.fieldLink RX9 10 "RowGuard" "now" "LRowGuard$Bank;") (wOK_in (h := 20134) (by decide +kernel))) (fun _ h9 => h9) rfl hin rfl (by decide +kernel) rfl rfl (Nat.le_of_ble_eq_true rfl) dX9_init_12 (fun H locs hP hD hS => ?_)
  have hP : va_P Dg vwCl ([(h0, (Sum.inr (9, [.ref (u 0), .null, .null, .null, .null, .int 0, .int 0]) : va_E))] ++ bkw S cA u) H := hP
  have hD : va_D A ([(h0, (Sum.inr (9, [.ref (u 0), .null, .null, .null, .null, .int 0, .int 0]) : va_E))] ++ bkw S cA u) := hD
  refine lv_aload_n hx hb dX9_init_15 rfl (lv_at hl 0 rfl) ?_
  refine va_get (D := Dg) (ci := 9) (C := RX9) (T := TX9) (N := 7) hx hb hts (mx_in (ci := 9) rfl) hown hU.2.1 hP 0 rfl rfl 0 (by decide) (hts (.fieldLink RX9 10 "RowGuard" "now" "LRowGuard$Bank;") (wOK_in (h := 20134) (by decide +kernel))) (fun _ h9 => h9) rfl dX9_init_16 ?_
  refine lv_bipush hx hb dX9_init_19 (v := nI 8) (by decide) ?_
  have hDt : va_D (fun q => s.heap.size ≤ q) (bkw S cA u) := tail_D hD hA0
  have hST : Stc (adB ad u) cA s.heap.size (LYB, S) WLB := LYB_st (fun x => Nat.lt_of_lt_of_le (had x) hU.1) hDt
  have hPt : va_P Dg vwCl (wl (adB ad u) cA WLB (muB S)) H := by
    rw [wB]
    exact fun k q hq => hP (k + 1) q hq
  obtain ⟨F0, hF0⟩ := c_startWithB (S := S) (d := 0) (n := 8) (μ := muB S)
  have hrun : DF CODE (LYB, S) F0 2 34 0 (padL 2 (lcs [vR (1, 0, 0), vI (nI 8)])) (muB S) = some (0, rstC (0 : Fin 15) 8 (muB S)) := hF0 F0 (Nat.le_refl _)
  have hmt : MTab[34]? = some (yX0_startWith, cX0_startWith, 2, none, false, 0, [10239, 10002, 10238, 0]) := rfl
  have hM := (DF_met code_ok (l := l) (Dg := Dg) hST F0).1 2 34 2 [vR (1, 0, 0), vI (nI 8)] (muB S) _ (by decide) hrun _ _ _ _ _ _ hmt
  obtain ⟨f1, f2, f3, f4, f5, f6⟩ := me_facts hmt
  have hS2 : va_S (fun q => B0 ≤ q) s.heap H locs := ⟨hS.1, fun q a b => hS.2.1 q a (fun x => b (hAB q x)), fun l hl => hAB _ (hS.2.2 l hl)⟩
  have hrec := va_recv hU.2.1 hP (q0 := 1) (ci := 0) rfl rfl
  refine call_void (ad := adB ad u) (q := (1, 0, 0)) (as := [vI (nI 8)]) (rest := []) hM hx hb hml hown hts hPt (fun U hU1 hW => Ust.toB (hU.move hT hS2 hU1 hW) hU.1 (by rw [hU1]; exact hS.1)) hrec hS (fun a h => hA a h) f3 f4 f5 (wOK_in (h := 10238) (by decide +kernel)) (wOK_in (h := 0) (by decide +kernel)) (by decide +kernel) (hU.2.2.2.2 _ (wON_in (h := 10236) (by decide +kernel))) (Nat.le_of_ble_eq_true rfl) (Nat.le_of_ble_eq_true rfl) (Nat.le_of_ble_eq_true rfl) (Nat.le_of_ble_eq_true rfl) (Nat.le_of_ble_eq_true rfl) hl.1 dX9_init_21 (fun H1 locs hB hk1 hS => ?_)
  have hPh : va_P Dg vwCl [(h0, (Sum.inr (9, [.ref (u 0), .null, .null, .null, .null, .int 0, .int 0]) : va_E))] H1 := by
    have hPh : va_P Dg vwCl [(h0, (Sum.inr (9, [.ref (u 0), .null, .null, .null, .null, .int 0, .int 0]) : va_E))] H := fun k q hq => by
      cases k with
      | zero => exact hP 0 q hq
      | succ k => cases k <;> cases hq
    refine hPh.kept (fun k q hq => hk1 _ (hPh k q hq).lt ?_)
    cases k with
    | zero => injection hq with hq; subst hq; exact Nat.not_le.mpr h0lt
    | succ k => cases k <;> cases hq
  have hP := hPh.app hB
  have hD : va_D A ([(h0, (Sum.inr (9, [.ref (u 0), .null, .null, .null, .null, .int 0, .int 0]) : va_E))] ++ wl (adB ad u) cA WLB (rstC (0 : Fin 15) 8 (muB S))) := D_addr hD (by
    rw [List.map_append, List.map_append]
    congr 1)
  clear hPh hB hrec hPt hDt hM hrun hF0 hk1
  generalize H1 = H at hP hS ⊢
  have hP : va_P Dg vwCl ([(h0, (Sum.inr (9, [.ref (u 0), .null, .null, .null, .null, .int 0, .int 0]) : va_E))] ++ wl (adB ad u) cA WLB (rstC (0 : Fin 15) 8 (muB S))) H := hP
  have hD : va_D A ([(h0, (Sum.inr (9, [.ref (u 0), .null, .null, .null, .null, .int 0, .int 0]) : va_E))] ++ wl (adB ad u) cA WLB (rstC (0 : Fin 15) 8 (muB S))) := hD
  refine lv_aload_n hx hb dX9_init_24 rfl (lv_at hl 0 rfl) ?_
  refine mk_new (l := l) (K := (fun U => Ust ad B0 (LY0, S) Dg cA U)) (ci := 3) (C := RX3) (Tf := TX3) (N := 5) (y := yX3_init) (hIn := 10009) (hIt := 20018) (hCo := 20021) (hIs := 20020) (w1 := (fun q u => ppw S cA q u)) (fun q sz hq => kX3 l Dg cA hT (had 3) q sz hq) rfl (fun j hj => by rcases (show j = 0 ∨ j = 1 ∨ j = 2 ∨ j = 3 ∨ j = 4 by omega) with rfl | rfl | rfl | rfl | rfl <;> rfl) rfl rfl (by decide +kernel) (fun U g mk a z => z.blind) (fun H1 locs1 U hS hU1 hW => hU.move hT (H := H1) (locs := locs1) ⟨hS.1, fun q a b => hS.2.1 q a (fun x => b (hAB q x)), fun l hl => hAB _ (hS.2.2 l hl)⟩ hU1 hW) hx hb hml hown hts hU.2.1 hP hD hS hA hAB (hts (.classLink RX9 20 RX3) (wOK_in (h := 20017) (by decide +kernel))) (hU.2.2.2.2 _ (wON_in (h := 20019) (by decide +kernel))) (by decide +kernel) (by decide +kernel) (by decide +kernel) (by decide +kernel) (Nat.le_of_ble_eq_true rfl) (Nat.le_of_ble_eq_true rfl) (Nat.le_of_ble_eq_true rfl) (Nat.le_of_ble_eq_true rfl) (Nat.le_of_ble_eq_true rfl) hl.1 dX9_init_25 dX9_init_28 dX9_init_29 (fun qp up H locs hqqp hpostqp hP hD hS => ?_)
  have hP : va_P Dg vwCl ([(h0, (Sum.inr (9, [.ref (u 0), .null, .null, .null, .null, .int 0, .int 0]) : va_E))] ++ wl (adB ad u) cA WLB (rstC (0 : Fin 15) 8 (muB S)) ++ ppw S cA qp up) H := hP
  have hD : va_D A ([(h0, (Sum.inr (9, [.ref (u 0), .null, .null, .null, .null, .int 0, .int 0]) : va_E))] ++ wl (adB ad u) cA WLB (rstC (0 : Fin 15) 8 (muB S)) ++ ppw S cA qp up) := hD
  refine va_putF (D := Dg) (ci := 9) (v := .ref qp) (ty := .object "RowGuard$Paper") (C := RX9) (T := TX9) (N := 7) hx hb hts (mx_in (ci := 9) rfl) tyX9 tyX9_ok nmX9 hown hU.2.1 hP hD hS 0 rfl rfl 1 (by decide) (hts (.fieldLink RX9 23 "RowGuard" "paper" "LRowGuard$Paper;") (wOK_in (h := 20135) (by decide +kernel))) (fun _ h9 => h9) rfl hin rfl (by decide +kernel) rfl rfl (Nat.le_of_ble_eq_true rfl) dX9_init_32 (fun H locs hP hD hS => ?_)
  have hP : va_P Dg vwCl ([(h0, (Sum.inr (9, [.ref (u 0), .ref qp, .null, .null, .null, .int 0, .int 0]) : va_E))] ++ wl (adB ad u) cA WLB (rstC (0 : Fin 15) 8 (muB S)) ++ ppw S cA qp up) H := hP
  have hD : va_D A ([(h0, (Sum.inr (9, [.ref (u 0), .ref qp, .null, .null, .null, .int 0, .int 0]) : va_E))] ++ wl (adB ad u) cA WLB (rstC (0 : Fin 15) 8 (muB S)) ++ ppw S cA qp up) := hD
  refine lv_aload_n hx hb dX9_init_35 rfl (lv_at hl 0 rfl) ?_
  refine mk_new (l := l) (K := (fun U => Ust ad B0 (LY0, S) Dg cA U ∧ va_AO RX0 U)) (ci := 2) (C := RX2) (Tf := TX2) (N := 5) (y := yX2_init) (hIn := 10010) (hIt := 20047) (hCo := 20050) (hIs := 20049) (w1 := (fun q u => hiw S cA q u)) (fun q sz hq => kX2 l Dg cA hT (had 3) q sz hq) rfl (fun j hj => by rcases (show j = 0 ∨ j = 1 ∨ j = 2 ∨ j = 3 ∨ j = 4 by omega) with rfl | rfl | rfl | rfl | rfl <;> rfl) rfl rfl (by decide +kernel) (fun U g mk a z => ⟨z.1.blind, va_AO.moved (u := U) (U := U.calling g mk a) (Vm.Alike.refl U.vm) z.2⟩) (fun H1 locs1 U hS hU1 hW => ⟨hU.move hT (H := H1) (locs := locs1) ⟨hS.1, fun q a b => hS.2.1 q a (fun x => b (hAB q x)), fun l hl => hAB _ (hS.2.2 l hl)⟩ hU1 hW, hAO.moved hW.alike⟩) hx hb hml hown hts hU.2.1 hP hD hS hA hAB (hts (.classLink RX9 27 RX2) (wOK_in (h := 20046) (by decide +kernel))) (hU.2.2.2.2 _ (wON_in (h := 20048) (by decide +kernel))) (by decide +kernel) (by decide +kernel) (by decide +kernel) (by decide +kernel) (Nat.le_of_ble_eq_true rfl) (Nat.le_of_ble_eq_true rfl) (Nat.le_of_ble_eq_true rfl) (Nat.le_of_ble_eq_true rfl) (Nat.le_of_ble_eq_true rfl) hl.1 dX9_init_36 dX9_init_39 dX9_init_40 (fun qh uh H locs hqqh hpostqh hP hD hS => ?_)
  have hP : va_P Dg vwCl ([(h0, (Sum.inr (9, [.ref (u 0), .ref qp, .null, .null, .null, .int 0, .int 0]) : va_E))] ++ wl (adB ad u) cA WLB (rstC (0 : Fin 15) 8 (muB S)) ++ ppw S cA qp up ++ hiw S cA qh uh) H := hP
  have hD : va_D A ([(h0, (Sum.inr (9, [.ref (u 0), .ref qp, .null, .null, .null, .int 0, .int 0]) : va_E))] ++ wl (adB ad u) cA WLB (rstC (0 : Fin 15) 8 (muB S)) ++ ppw S cA qp up ++ hiw S cA qh uh) := hD
  refine va_putF (D := Dg) (ci := 9) (v := .ref qh) (ty := .object "RowGuard$History") (C := RX9) (T := TX9) (N := 7) hx hb hts (mx_in (ci := 9) rfl) tyX9 tyX9_ok nmX9 hown hU.2.1 hP hD hS 0 rfl rfl 2 (by decide) (hts (.fieldLink RX9 30 "RowGuard" "history" "LRowGuard$History;") (wOK_in (h := 20136) (by decide +kernel))) (fun _ h9 => h9) rfl hin rfl (by decide +kernel) rfl rfl (Nat.le_of_ble_eq_true rfl) dX9_init_43 (fun H locs hP hD hS => ?_)
  have hP : va_P Dg vwCl ([(h0, (Sum.inr (9, [.ref (u 0), .ref qp, .ref qh, .null, .null, .int 0, .int 0]) : va_E))] ++ wl (adB ad u) cA WLB (rstC (0 : Fin 15) 8 (muB S)) ++ ppw S cA qp up ++ hiw S cA qh uh) H := hP
  have hD : va_D A ([(h0, (Sum.inr (9, [.ref (u 0), .ref qp, .ref qh, .null, .null, .int 0, .int 0]) : va_E))] ++ wl (adB ad u) cA WLB (rstC (0 : Fin 15) 8 (muB S)) ++ ppw S cA qp up ++ hiw S cA qh uh) := hD
  refine lv_aload_n hx hb dX9_init_46 rfl (lv_at hl 0 rfl) ?_
  refine mk_new (l := l) (K := (fun U => va_K Dg vwCl (tyA cA) U)) (ci := 7) (C := RX7) (Tf := TX7) (N := 2) (y := yX7_init) (hIn := 10011) (hIt := 20073) (hCo := 20076) (hIs := 20075) (w1 := (fun q u => tpw cA q u)) (fun q sz hq => kX7 l Dg cA q sz) rfl (fun j hj => by rcases (show j = 0 ∨ j = 1 by omega) with rfl | rfl <;> rfl) rfl rfl (by decide +kernel) (fun U g mk a z => va_K.moved (u := U) (U := U.calling g mk a) (Vm.Alike.refl U.vm) z) (fun H1 locs1 U hS hU1 hW => va_K.moved hW.alike hU.2.1) hx hb hml hown hts hU.2.1 hP hD hS hA hAB (hts (.classLink RX9 34 RX7) (wOK_in (h := 20072) (by decide +kernel))) (hU.2.2.2.2 _ (wON_in (h := 20074) (by decide +kernel))) (by decide +kernel) (by decide +kernel) (by decide +kernel) (by decide +kernel) (Nat.le_of_ble_eq_true rfl) (Nat.le_of_ble_eq_true rfl) (Nat.le_of_ble_eq_true rfl) (Nat.le_of_ble_eq_true rfl) (Nat.le_of_ble_eq_true rfl) hl.1 dX9_init_47 dX9_init_50 dX9_init_51 (fun qt ut H locs hqqt hpostqt hP hD hS => ?_)
  have hP : va_P Dg vwCl ([(h0, (Sum.inr (9, [.ref (u 0), .ref qp, .ref qh, .null, .null, .int 0, .int 0]) : va_E))] ++ wl (adB ad u) cA WLB (rstC (0 : Fin 15) 8 (muB S)) ++ ppw S cA qp up ++ hiw S cA qh uh ++ tpw cA qt ut) H := hP
  have hD : va_D A ([(h0, (Sum.inr (9, [.ref (u 0), .ref qp, .ref qh, .null, .null, .int 0, .int 0]) : va_E))] ++ wl (adB ad u) cA WLB (rstC (0 : Fin 15) 8 (muB S)) ++ ppw S cA qp up ++ hiw S cA qh uh ++ tpw cA qt ut) := hD
  refine va_putF (D := Dg) (ci := 9) (v := .ref qt) (ty := .object "RowGuard$Tape") (C := RX9) (T := TX9) (N := 7) hx hb hts (mx_in (ci := 9) rfl) tyX9 tyX9_ok nmX9 hown hU.2.1 hP hD hS 0 rfl rfl 3 (by decide) (hts (.fieldLink RX9 37 "RowGuard" "tape" "LRowGuard$Tape;") (wOK_in (h := 20137) (by decide +kernel))) (fun _ h9 => h9) rfl hin rfl (by decide +kernel) rfl rfl (Nat.le_of_ble_eq_true rfl) dX9_init_54 (fun H locs hP hD hS => ?_)
  have hP : va_P Dg vwCl ([(h0, (Sum.inr (9, [.ref (u 0), .ref qp, .ref qh, .ref qt, .null, .int 0, .int 0]) : va_E))] ++ wl (adB ad u) cA WLB (rstC (0 : Fin 15) 8 (muB S)) ++ ppw S cA qp up ++ hiw S cA qh uh ++ tpw cA qt ut) H := hP
  have hD : va_D A ([(h0, (Sum.inr (9, [.ref (u 0), .ref qp, .ref qh, .ref qt, .null, .int 0, .int 0]) : va_E))] ++ wl (adB ad u) cA WLB (rstC (0 : Fin 15) 8 (muB S)) ++ ppw S cA qp up ++ hiw S cA qh uh ++ tpw cA qt ut) := hD
  refine lv_aload_n hx hb dX9_init_57 rfl (lv_at hl 0 rfl) ?_
  refine mk_new (l := l) (K := (fun U => va_K Dg vwCl (tyA cA) U)) (ci := 5) (C := RX5) (Tf := TX5) (N := 12) (y := yX5_init) (hIn := 10012) (hIt := 20088) (hCo := 20091) (hIs := 20090) (w1 := (fun q u => rdw cA q u)) (fun q sz hq => kX5 l Dg cA q sz) rfl (fun j hj => by rcases (show j = 0 ∨ j = 1 ∨ j = 2 ∨ j = 3 ∨ j = 4 ∨ j = 5 ∨ j = 6 ∨ j = 7 ∨ j = 8 ∨ j = 9 ∨ j = 10 ∨ j = 11 by omega) with rfl | rfl | rfl | rfl | rfl | rfl | rfl | rfl | rfl | rfl | rfl | rfl <;> rfl) rfl rfl (by decide +kernel) (fun U g mk a z => va_K.moved (u := U) (U := U.calling g mk a) (Vm.Alike.refl U.vm) z) (fun H1 locs1 U hS hU1 hW => va_K.moved hW.alike hU.2.1) hx hb hml hown hts hU.2.1 hP hD hS hA hAB (hts (.classLink RX9 41 RX5) (wOK_in (h := 20087) (by decide +kernel))) (hU.2.2.2.2 _ (wON_in (h := 20089) (by decide +kernel))) (by decide +kernel) (by decide +kernel) (by decide +kernel) (by decide +kernel) (Nat.le_of_ble_eq_true rfl) (Nat.le_of_ble_eq_true rfl) (Nat.le_of_ble_eq_true rfl) (Nat.le_of_ble_eq_true rfl) (Nat.le_of_ble_eq_true rfl) hl.1 dX9_init_58 dX9_init_61 dX9_init_62 (fun qr ur H locs hqqr hpostqr hP hD hS => ?_)
  have hP : va_P Dg vwCl ([(h0, (Sum.inr (9, [.ref (u 0), .ref qp, .ref qh, .ref qt, .null, .int 0, .int 0]) : va_E))] ++ wl (adB ad u) cA WLB (rstC (0 : Fin 15) 8 (muB S)) ++ ppw S cA qp up ++ hiw S cA qh uh ++ tpw cA qt ut ++ rdw cA qr ur) H := hP
  have hD : va_D A ([(h0, (Sum.inr (9, [.ref (u 0), .ref qp, .ref qh, .ref qt, .null, .int 0, .int 0]) : va_E))] ++ wl (adB ad u) cA WLB (rstC (0 : Fin 15) 8 (muB S)) ++ ppw S cA qp up ++ hiw S cA qh uh ++ tpw cA qt ut ++ rdw cA qr ur) := hD
  refine va_putF (D := Dg) (ci := 9) (v := .ref qr) (ty := .object "RowGuard$Reader") (C := RX9) (T := TX9) (N := 7) hx hb hts (mx_in (ci := 9) rfl) tyX9 tyX9_ok nmX9 hown hU.2.1 hP hD hS 0 rfl rfl 4 (by decide) (hts (.fieldLink RX9 44 "RowGuard" "reader" "LRowGuard$Reader;") (wOK_in (h := 20138) (by decide +kernel))) (fun _ h9 => h9) rfl hin rfl (by decide +kernel) rfl rfl (Nat.le_of_ble_eq_true rfl) dX9_init_65 (fun H locs hP hD hS => ?_)
  have hP : va_P Dg vwCl ([(h0, (Sum.inr (9, [.ref (u 0), .ref qp, .ref qh, .ref qt, .ref qr, .int 0, .int 0]) : va_E))] ++ wl (adB ad u) cA WLB (rstC (0 : Fin 15) 8 (muB S)) ++ ppw S cA qp up ++ hiw S cA qh uh ++ tpw cA qt ut ++ rdw cA qr ur) H := hP
  have hD : va_D A ([(h0, (Sum.inr (9, [.ref (u 0), .ref qp, .ref qh, .ref qt, .ref qr, .int 0, .int 0]) : va_E))] ++ wl (adB ad u) cA WLB (rstC (0 : Fin 15) 8 (muB S)) ++ ppw S cA qp up ++ hiw S cA qh uh ++ tpw cA qt ut ++ rdw cA qr ur) := hD
  refine lv_aload_n hx hb dX9_init_68 rfl (lv_at hl 0 rfl) ?_
  refine lv_iconst hx hb dX9_init_69 (v := 0) (by decide) ?_
  refine va_put (D := Dg) (ci := 9) (v := .int 0) (C := RX9) (T := TX9) (N := 7) hx hb hts (mx_in (ci := 9) rfl) tyX9 tyX9_ok nmX9 hown hU.2.1 hP hD hS 0 rfl rfl 5 (by decide) (hts (.fieldLink RX9 48 "RowGuard" "keptFault" "I") (wOK_in (h := 20139) (by decide +kernel))) (fun _ h9 => h9) rfl rfl rfl rfl (Nat.le_of_ble_eq_true rfl) dX9_init_70 (fun H locs hP hD hS => ?_)
  have hP : va_P Dg vwCl ([(h0, (Sum.inr (9, [.ref (u 0), .ref qp, .ref qh, .ref qt, .ref qr, .int 0, .int 0]) : va_E))] ++ wl (adB ad u) cA WLB (rstC (0 : Fin 15) 8 (muB S)) ++ ppw S cA qp up ++ hiw S cA qh uh ++ tpw cA qt ut ++ rdw cA qr ur) H := hP
  have hD : va_D A ([(h0, (Sum.inr (9, [.ref (u 0), .ref qp, .ref qh, .ref qt, .ref qr, .int 0, .int 0]) : va_E))] ++ wl (adB ad u) cA WLB (rstC (0 : Fin 15) 8 (muB S)) ++ ppw S cA qp up ++ hiw S cA qh uh ++ tpw cA qt ut ++ rdw cA qr ur) := hD
  refine lv_aload_n hx hb dX9_init_73 rfl (lv_at hl 0 rfl) ?_
  refine lv_iconst hx hb dX9_init_74 (v := -1) (by decide) ?_
  refine va_put (D := Dg) (ci := 9) (v := .int (-1)) (C := RX9) (T := TX9) (N := 7) hx hb hts (mx_in (ci := 9) rfl) tyX9 tyX9_ok nmX9 hown hU.2.1 hP hD hS 0 rfl rfl 6 (by decide) (hts (.fieldLink RX9 52 "RowGuard" "keptPlace" "I") (wOK_in (h := 20140) (by decide +kernel))) (fun _ h9 => h9) rfl rfl rfl rfl (Nat.le_of_ble_eq_true rfl) dX9_init_75 (fun H locs hP hD hS => ?_)
  have hP : va_P Dg vwCl ([(h0, (Sum.inr (9, [.ref (u 0), .ref qp, .ref qh, .ref qt, .ref qr, .int 0, .int (-1)]) : va_E))] ++ wl (adB ad u) cA WLB (rstC (0 : Fin 15) 8 (muB S)) ++ ppw S cA qp up ++ hiw S cA qh uh ++ tpw cA qt ut ++ rdw cA qr ur) H := hP
  have hD : va_D A ([(h0, (Sum.inr (9, [.ref (u 0), .ref qp, .ref qh, .ref qt, .ref qr, .int 0, .int (-1)]) : va_E))] ++ wl (adB ad u) cA WLB (rstC (0 : Fin 15) 8 (muB S)) ++ ppw S cA qp up ++ hiw S cA qh uh ++ tpw cA qt ut ++ rdw cA qr ur) := hD
  exact W.vret hx hb hr (fun t ht hW => ⟨⟨(u, (qp, up), (qh, uh), (qt, ut), qr, ur), rfl, hpostqh, by rw [ht]; exact hP, hD⟩, hS.F ht⟩) hS.2.2 dX9_init_78
