/-! the claim -/
theorem dL_0 : decode code 0 = .ok (.new 7, 3) := by decide +kernel
theorem dL_3 : decode code 3 = .ok (.dup, 1) := by decide +kernel
theorem dL_4 : decode code 4 = .ok (.invokespecial 9, 3) := by decide +kernel
theorem dL_7 : decode code 7 = .ok (.astore_n 1, 1) := by decide +kernel
theorem dL_8 : decode code 8 = .ok (.new 10, 3) := by decide +kernel
theorem dL_11 : decode code 11 = .ok (.dup, 1) := by decide +kernel
theorem dL_12 : decode code 12 = .ok (.invokespecial 12, 3) := by decide +kernel
theorem dL_15 : decode code 15 = .ok (.astore_n 2, 1) := by decide +kernel
theorem dL_16 : decode code 16 = .ok (.iconst 0, 1) := by decide +kernel
theorem dL_17 : decode code 17 = .ok (.istore_n 3, 1) := by decide +kernel
/-! THE CLAIM OUT OF ONE WALK OF THE LAW'S BODY. Your part is whole_start (and what it stands on); all else here is the same for every law, but numbers. -/
def R_law : String := "RowGuardLaw"
def lw_P (b : Addr) (xs : List Int32) (args : Array Value) (s : State) : Prop := args = #[.ref b] ∧ s.IntsAt b xs ∧ xs.length ≤ 3072 ∧ (Jvm.Cond.and given_1 narrow_1).before args s = true ∧ heapFits s = true
def lw_Q (_ : Array Value) (s : State) (o : Outcome) (t : State) : Prop := o = .returned (some (.int 1)) ∧ Framed s o t [] 600000 7302250
def lw_Z (below : List Frame) (a : Array Value) (s : State) : State → Prop := fun t => ∃ o, t.status = .running ∧ Ended t below o ∧ lw_Q a s o t
/-- the law's own end, with 1 on the stack, nothing written that was there before, its room as the claim has it -/
theorem lw_ret {p : Program} {l : Launch} {e : Env} {s : State} {m : MethodId} {below : List Frame} {meth : Method} {c : Code} {b : Nat} (hx : p.tables.exec = Jvm.exec) (hb : c.code = code) (hr : meth.sig.returnType = ret) (hlocks : meth.locks = false) {pc : Nat} {H : Heap} {ls : Array Slot} (hdg : decode code pc = .ok (.ireturn, 1)) : W p l e room_1 s m #[Value.ref b] below meth c H [] 600000 7302250 (lw_Z below #[Value.ref b] s) (F0 m pc ls [.int 1]) := by
  intro T hT X
  obtain ⟨fs, hret, hrun, hended, hW, hframe⟩ := X.leave (v := some (.int 1)) (hlocks := hlocks) (fun h => by rw [hr] at h; cases h)
  have hmeth' : T.vm.method? m = some meth := X.method'
  refine ⟨T.setFrames fs, ?_, .returned (some (.int 1)), hrun, hended, rfl, ⟨_, rfl⟩, hW, hframe⟩
  jvm_step X.here [X.here.top, hx, hb, hdg, hmeth', hr, ret, narrow_b1]
  (try refine ⟨rfl, ?_⟩); (try refine ⟨rfl, ?_⟩)
  first | (intro acts; rw [hret _ acts rfl rfl rfl]) | rw [hret _ _ rfl rfl rfl]
  exact Steps.refl _
/-- the same with any int that a boolean's return cuts to 1 -/
theorem lw_retB {p : Program} {l : Launch} {e : Env} {s : State} {m : MethodId} {below : List Frame} {meth : Method} {c : Code} {b : Nat} {x : Int32} (hx : p.tables.exec = Jvm.exec) (hb : c.code = code) (hr : meth.sig.returnType = ret) (hlocks : meth.locks = false) (hn : vp_nar .boolean x = 1) {pc : Nat} {H : Heap} {ls : Array Slot} (hdg : decode code pc = .ok (.ireturn, 1)) : W p l e room_1 s m #[Value.ref b] below meth c H [] 600000 7302250 (lw_Z below #[Value.ref b] s) (F0 m pc ls [.int x]) := by
  intro T hT X
  obtain ⟨fs, hret, hrun, hended, hW, hframe⟩ := X.leave (v := some (.int 1)) (hlocks := hlocks) (fun h => by rw [hr] at h; cases h)
  have hmeth' : T.vm.method? m = some meth := X.method'
  have hnar : narrow .boolean (.int x) = .int 1 := by
    have h : narrow .boolean (.int x) = .int (vp_nar .boolean x) := by unfold vp_nar narrow; rfl
    rw [h, hn]
  refine ⟨T.setFrames fs, ?_, .returned (some (.int 1)), hrun, hended, rfl, ⟨_, rfl⟩, hW, hframe⟩
  jvm_step X.here [X.here.top, hx, hb, hdg, hmeth', hr, ret, hnar]
  (try refine ⟨rfl, ?_⟩); (try refine ⟨rfl, ?_⟩)
  first | (intro acts; rw [hret _ acts rfl rfl rfl]) | rw [hret _ _ rfl rfl rfl]
  exact Steps.refl _
/-- what holds at the law's entry: the machine, the code, the tables' words (any of lw_tbl by 'hts w (by decide +kernel)'), the script of L ints xs at the cell b, what the Statement gives of the start (any of its parts by flat_of_before) -/
def lw_At (p : Program) (s : State) (m : MethodId) (meth : Method) (c : Code) (b L : Nat) (xs : Nat → Int32) : Prop :=
  p.tables.exec = Jvm.exec ∧ c.code = code ∧ meth.sig.returnType = ret ∧ c.maxLocals = 4 ∧ s.vm.findClass R_law = some m.cls ∧ (∀ w ∈ lw_tbl, w.before #[Value.ref b] s = true) ∧ va_X b L xs s s.heap ∧ b < s.heap.size ∧ meth.locks = false ∧ (Jvm.Cond.and given_1 narrow_1).before #[Value.ref b] s = true ∧ heapFits s = true
-- ===== YOUR PART BEGINS =====
/-- YOUR PART: from the entry, for every script of at most 3072 ints, the law comes to its end with true ('hflags': the launch's flags, for a law that throws: no stack traces) -/
theorem whole_start {p : Program} {e : Env} {s : State} {m : MethodId} {below : List Frame} {meth : Method} {c : Code} (l : Launch) (hflags : l.flags = flags0) {b L : Nat} {xs : Nat → Int32} (hL : L ≤ 3072) (C0 : lw_At p s m meth c b L xs) : W p l e room_1 s m #[Value.ref b] below meth c s.heap [] 0 0 (lw_Z below #[Value.ref b] s) (entryFrame m ([Value.ref b] : List Value).toArray 4) := by
  obtain ⟨hx, hb, hr, hml, hown, htl, hX, hbl, hlocks, hgv, hfit⟩ := id C0
  obtain ⟨a1, a2, a3, Dg, cA, ⟨l1, l2, l3⟩, hU, hAO⟩ := start_U (xs := xs) hfit htl hgv
  have hts : ∀ w ∈ GT, w.before #[Value.ref b] s = true := fun w hw => htl w (List.mem_filter.mp hw).1
  have had : ∀ x, adS b a1 a2 a3 (3, 0, x) < s.heap.size := fun x => by
    match x with
    | 0 => exact hbl
    | 1 => exact l1
    | 2 => exact l2
    | n + 3 => exact l3
  have hadb : adS b a1 a2 a3 (3, 0, 0) = b := rfl
  generalize adS b a1 a2 a3 = ad at hU had hadb
  have hT : Stc ad cA s.heap.size (LY0, stS xs) [] := LY0_st had
  have hS : va_S (fun q : Nat => s.heap.size ≤ q) s.heap s.heap [] := va_S.rf
  have hA : ∀ q : Nat, s.heap.size ≤ q → (fun q : Nat => s.heap.size ≤ q) q := fun _ h => h
  have hP : va_P Dg vwCl [] s.heap := fun k q h => by cases h
  have hD : va_D (fun q : Nat => s.heap.size ≤ q) [] := ⟨fun i j p q h => (by cases h), fun k q h => (by cases h)⟩
  have hl := lv_entry ([.ref b]) (n := 4) (Nat.le_of_ble_eq_true rfl)
  rw [lg_entry_eq]
  generalize (lg_sl ([.ref b]) ++ List.replicate (4 - (lg_sl ([.ref b])).length) Slot.unset).toArray = ls at hl ⊢
  have hl : lv_has ls 4 [(0, .ref b)] := hl
  refine va_new (ci := 9) (fs := [.null, .null, .null, .null, .null, .int 0, .int 0]) (C := RX9) (T := TX9) (N := 7) hx hb hts (mx_in (ci := 9) rfl) (mxT 9) (mx_ty (ci := 9) rfl).1 hown (hts (.classLink R_law 7 RX9) (wOK_in (h := 10016) (by decide +kernel))) (hts (.instantiable RX9 7) (wOK_in (h := 10017) (by decide +kernel))) (hts (.initialized RX9) (wOK_in (h := 10001) (by decide +kernel))) hU.2.1 hP hD hS hA rfl (fun j hj => by rcases (show j = 0 ∨ j = 1 ∨ j = 2 ∨ j = 3 ∨ j = 4 ∨ j = 5 ∨ j = 6 by omega) with rfl | rfl | rfl | rfl | rfl | rfl | rfl <;> rfl) (Nat.le_of_ble_eq_true rfl) (Nat.le_of_ble_eq_true rfl) dL_0 (fun h9 H hP hD hS => ?_)
  refine lv_dup hx hb dL_3 rfl ?_
  have hh9 : s.heap.size ≤ h9 := hD.2 0 _ rfl
  have hPc : va_P Dg vwCl [(h9, (Sum.inr (9, [.null, .null, .null, .null, .null, .int 0, .int 0]) : va_E))] H := hP
  have hFc : ∀ q, va_A [(h9, (Sum.inr (9, [.null, .null, .null, .null, .null, .int 0, .int 0]) : va_E))] H.size q → s.heap.size ≤ q := fun q h => by
    rcases h with ⟨k, e, h⟩ | h
    · cases k with
      | zero => injection h with h; injection h with h _; omega
      | succ k => cases k <;> cases h
    · exact Nat.le_trans hS.1 h
  refine va_callv (va_runI (As := []) (rest := [.ref h9]) ⟨hx, hb, hml, hown, hts⟩ (kX9 l Dg cA hT had h9 H.size hh9) (cwI 0 hts (GT_in (wOK_in (h := 10020) (by decide +kernel))) rfl rfl rfl (hts (.initialized RX9) (wOK_in (h := 10001) (by decide +kernel))) (hts (.methodLink R_law 9 yX9_init) (wOK_in (h := 10018) (by decide +kernel))) (hts (.instanceMethod yX9_init) (wOK_in (h := 10019) (by decide +kernel))) rfl (by decide +kernel) ⟨Nat.le_of_ble_eq_true rfl, Nat.le_of_ble_eq_true rfl⟩) ⟨fun a U g mk q => by obtain ⟨z0, z1, zP, ⟨zU, zA⟩, zD⟩ := q; exact ⟨z0, z1, zP, ⟨zU.blind, va_AO.moved (u := U) (U := U.calling g mk a) (Vm.Alike.refl U.vm) zA⟩, zD⟩, fun U hU1 hW => ⟨rfl, by rw [hU1], by rw [hU1]; exact hPc, ⟨hU.move hT hS hU1 hW, hAO.moved hW.alike⟩, self_D⟩⟩ rfl rfl hl.1 rfl (lv_room (Nat.le_of_ble_eq_true rfl)) dL_4 ⟨Nat.le_of_ble_eq_true rfl, Nat.le_of_ble_eq_true rfl⟩) hS (fun q _ h => hFc q h) hFc (fun u t H1 locs ht hvm h5 hB hz1 hk1 hS => ?_)
  obtain ⟨hP1, hD1⟩ := hB
  rw [ht] at hP1
  have hDw : va_D (fun q => s.heap.size ≤ q) (rgw ad (stS xs) cA h9 u) := D_weak hD1 hFc
  clear hD1 hk1 hz1 hPc hFc hP hD
  refine lv_astore_n (lv' := [(1, .ref h9), (0, .ref b)]) hx hb dL_7 rfl hl (by decide) rfl (fun ls hl => ?_)
  refine va_forget hS.2.2 ?_
  have hP0 : va_P Dg vwCl [] H1 := fun k q h => by cases h
  have hD0 : va_D (fun q : Nat => H1.size ≤ q) [] := ⟨fun i j p q h => (by cases h), fun k q h => (by cases h)⟩
  have hSr : va_S (fun q : Nat => H1.size ≤ q) H1 H1 [] := va_S.rf
  refine va_new (ci := 10) (fs := [.int 0, .null, .null, .null, .int 0, .null, .null, .null, .null, .int 0, .int 0, .null, .int 0, .int 0, .int 0, .int 0, .int 0, .int 0, .int 0, .null, .int 0, .int 0, .int 0, .int 0, .null, .int 0, .int 0, .int 0]) (C := RX10) (T := TX10) (N := 28) hx hb hts (mx_in (ci := 10) rfl) (mxT 10) (mx_ty (ci := 10) rfl).1 hown (hts (.classLink R_law 10 RX10) (wOK_in (h := 40206) (by decide +kernel))) (hts (.instantiable RX10 28) (wOK_in (h := 40207) (by decide +kernel))) (hts (.initialized RX10) (wOK_in (h := 10013) (by decide +kernel))) hU.2.1 hP0 hD0 hSr (fun _ h => h) rfl (fun j hj => by rcases (show j = 0 ∨ j = 1 ∨ j = 2 ∨ j = 3 ∨ j = 4 ∨ j = 5 ∨ j = 6 ∨ j = 7 ∨ j = 8 ∨ j = 9 ∨ j = 10 ∨ j = 11 ∨ j = 12 ∨ j = 13 ∨ j = 14 ∨ j = 15 ∨ j = 16 ∨ j = 17 ∨ j = 18 ∨ j = 19 ∨ j = 20 ∨ j = 21 ∨ j = 22 ∨ j = 23 ∨ j = 24 ∨ j = 25 ∨ j = 26 ∨ j = 27 by omega) with rfl | rfl | rfl | rfl | rfl | rfl | rfl | rfl | rfl | rfl | rfl | rfl | rfl | rfl | rfl | rfl | rfl | rfl | rfl | rfl | rfl | rfl | rfl | rfl | rfl | rfl | rfl | rfl <;> rfl) (Nat.le_of_ble_eq_true rfl) (Nat.le_of_ble_eq_true rfl) dL_8 (fun h10 H2 hP2 hD2 hS2 => ?_)
  have hh10 : H1.size ≤ h10 := hD2.2 0 _ rfl
  have hb10 : s.heap.size ≤ h10 := Nat.le_trans hS.1 hh10
  have hS3 : va_S (fun q : Nat => s.heap.size ≤ q) s.heap H2 [] := ⟨Nat.le_trans hS.1 hS2.1, fun q a nb => (hS2.2.1 q (Nat.lt_of_lt_of_le a hS.1) (Nat.not_le.mpr (Nat.lt_of_lt_of_le a hS.1))).trans (hS.2.1 q a nb), fun l hl => by cases hl⟩
  have hC2 : va_P Dg vwCl (rgw ad (stS xs) cA h9 u) H2 := hP1.kept (fun k q hq => hS2.2.1 _ (hP1 k q hq).lt (Nat.not_le.mpr (hP1 k q hq).lt))
  have hP2 : va_P Dg vwCl [(h10, (Sum.inr (10, [.int 0, .null, .null, .null, .int 0, .null, .null, .null, .null, .int 0, .int 0, .null, .int 0, .int 0, .int 0, .int 0, .int 0, .int 0, .int 0, .null, .int 0, .int 0, .int 0, .int 0, .null, .int 0, .int 0, .int 0]) : va_E))] H2 := hP2
  refine lv_dup hx hb dL_11 rfl ?_
  refine va_callv (va_runI (As := []) (rest := [.ref h10]) ⟨hx, hb, hml, hown, hts⟩ (kX10 l Dg cA hT had h10 H2.size hb10) (cwI 0 hts (GT_in (wOK_in (h := 40210) (by decide +kernel))) rfl rfl rfl (hts (.initialized RX10) (wOK_in (h := 10013) (by decide +kernel))) (hts (.methodLink R_law 12 yX10_init) (wOK_in (h := 40208) (by decide +kernel))) (hts (.instanceMethod yX10_init) (wOK_in (h := 40209) (by decide +kernel))) rfl (by decide +kernel) ⟨Nat.le_of_ble_eq_true rfl, Nat.le_of_ble_eq_true rfl⟩) ⟨fun a U g mk q => by obtain ⟨z0, z1, zP, zU, zD⟩ := q; exact ⟨z0, z1, zP, zU.blind, zD⟩, fun U hU1 hW => ⟨rfl, by rw [hU1], by rw [hU1]; exact hP2, hU.move hT hS3 hU1 hW, self_D⟩⟩ rfl rfl hl.1 rfl (lv_room (Nat.le_of_ble_eq_true rfl)) dL_12 ⟨Nat.le_of_ble_eq_true rfl, Nat.le_of_ble_eq_true rfl⟩) hS3 (fun q _ h => Nat.le_trans hb10 h) (fun q h => Nat.le_trans hb10 h) (fun w t3 H3 locs3 ht3 hvm3 h6 hB3 hz3 hk3 hS4 => ?_)
  obtain ⟨hP3, hD3⟩ := hB3
  rw [ht3] at hP3
  have hC3 : va_P Dg vwCl (rgw ad (stS xs) cA h9 u) H3 := hC2.kept (fun k q hq => hk3 _ (hC2 k q hq).lt (fun z => absurd (Nat.le_trans hh10 z) (Nat.not_le.mpr (hP1 k q hq).lt)))
  have hPx : va_P Dg vwCl (wl (adF ad h9 u h10 w) cA WLx (muF (stS xs))) H3 := by
    rw [wF_x]
    exact (P_C hC3 h5).app hP3
  have hPC1 : va_P Dg vwCl (wl (adF ad h9 u h10 w) cA WLC (muF (stS xs))) H1 := P_C hP1 h5
  have hDx : va_D (fun q : Nat => s.heap.size ≤ q) (wl (adF ad h9 u h10 w) cA WLx (muF (stS xs))) := by
    rw [wF_x]
    refine (D_C hDw).app (D_weak hD3 (fun q h => Nat.le_trans hb10 h)) (fun i j p q h1 h2 e => ?_)
    have z1 : p.1 < H1.size := (hPC1 i p h1).lt
    have z2 : h10 ≤ q.1 := hD3.2 j q h2
    omega
  clear hPC1 hC3 hC2 hP3 hD3 hk3 hP2 hD2 hS2 hP1 hDw
  refine lv_astore_n (lv' := [(2, .ref h10), (1, .ref h9), (0, .ref b)]) hx hb dL_15 rfl hl (by decide) rfl (fun ls hl => ?_)
  refine lv_iconst (v := 0) hx hb dL_16 (by decide) ?_
  refine lv_istore_n (lv' := [(3, .int 0), (2, .ref h10), (1, .ref h9), (0, .ref b)]) hx hb dL_17 rfl hl (by decide) rfl (fun ls hl => ?_)
  obtain ⟨F, μ3, hrun⟩ := law_all (S := stS xs) (L := L) StS_st hL (Inv_F (xs := xs))
  have hST : Stc (adF ad h9 u h10 w) cA s.heap.size (LAYS L, stS xs) WLx := LAYS_st (fun x => had x) hDx
  have hUL : Ust (adF ad h9 u h10 w) s.heap.size (LAYS L, stS xs) Dg cA s := hU.toL (fun x => rfl) (by rw [hadb]; exact wY.of hX)
  have hLr : Lr (adF ad h9 u h10 w) 4 [some (vR (3, 0, 0)), some (vR (0, 0, 0)), some (vR (2, 0, 0)), some (vI 0)] ls := by
    refine ⟨⟨hl.1, by decide⟩, hl.2.1, fun i v hi => ?_⟩
    match i, hi with
    | 0, hi => cases hi; show ls[0]? = some (.val (.ref (ad (3, 0, 0)))); rw [hadb]; exact hl.2.2 (0, .ref b) (by simp)
    | 1, hi => cases hi; exact hl.2.2 (1, .ref h9) (by simp)
    | 2, hi => cases hi; exact hl.2.2 (2, .ref h10) (by simp)
    | 3, hi => cases hi; exact hl.2.2 (3, .int 0) (by simp)
    | i + 4, hi => cases hi
  have hEnd : EndI p l e room_1 s m #[Value.ref b] below meth c (0 + 1 + 387 + 1 + 10) (0 + 7 + 7259 + 28 + 6551) (lw_Z below #[Value.ref b] s) code (adF ad h9 u h10 w) s.heap.size WLx Dg cA true (1, μ3) := fun x pc ls H locs hd hn _ hS => va_forget hS.2.2 (W.widen (k := 600000) (n := 7302250) (Nat.le_of_ble_eq_true rfl) (Nat.le_of_ble_eq_true rfl) (lw_retB hx hb hr hlocks hn hd))
  exact DF_law (l := l) (Dg := Dg) hST F 31 p e room_1 s m #[Value.ref b] below meth c _ _ _ (1, μ3) ⟨hx, hb, hml, hown, hts, hST, hUL⟩ ⟨Nat.le_of_ble_eq_true rfl, Nat.le_of_ble_eq_true rfl⟩ ⟨Nat.le_of_ble_eq_true rfl, Nat.le_of_ble_eq_true rfl⟩ hEnd 18 _ _ hrun ls H3 locs3 hLr hPx hS4
-- ===== YOUR PART ENDS =====
set_option maxHeartbeats 4000000 in
theorem lw_walk (l : Launch) (hflags : l.flags = flags0) (b : Addr) (xs : List Int32) : MetFree l x (headSpec (Jvm.Cond.code x code maxLocals ret :: tables_1) room_1) (lw_P b xs) (fun _ _ _ _ _ => True) lw_Q := by
  refine MetFree.of_bodyS (code := code) (maxLocals := maxLocals) (ret := ret) (by decide) ?_ ?_
  · intro args s m h hn
    obtain ⟨meth, c, h1, h2, h3, h4, h5, h6, -, -⟩ := Cond.code_spec hn (atoms_spec (ws := Jvm.Cond.code x code maxLocals ret :: tables_1) h _ List.mem_cons_self)
    exact ⟨meth, c, h1, h2, h3, h4, h5, h6⟩
  · intro p e s m args below meth c s₁ B hml0 hP _
    obtain ⟨rfl, hx, hbd, hgv, hfits⟩ := hP
    obtain ⟨scr, harrAt, hlist, hof, hsmall⟩ := hx
    obtain ⟨hcb, hkn, -, -⟩ := State.arrayAt?_spec harrAt
    have hown : s.vm.findClass R_law = some m.cls := findClass_of_methodNamed B.named
    have hts0 : ∀ c ∈ (Jvm.Cond.code x code maxLocals ret :: tables_1), c.before #[Value.ref b] s = true := atoms_spec (ws := Jvm.Cond.code x code maxLocals ret :: tables_1) B.pre
    have hts : ∀ w ∈ lw_tbl, w.before #[Value.ref b] s = true := k2_hts_sels lw_privs (fun w hw => hts0 w (List.mem_cons_of_mem _ hw)) lw_privs_ok
    have hml : c.maxLocals = 4 := B.maxLocals_eq (hts0 _ List.mem_cons_self)
    have X₀ : Stand p l e room_1 s m #[Value.ref b] below meth c s₁ [] 0 0 := Stand.of_body B
    have hh0 : s₁.heap = s.heap := by rw [B.state]; rfl
    have hsz : scr.slots.size = xs.length := by rw [← Array.length_toList, hlist, List.length_map]
    have hval : ∀ j : Nat, j < xs.length → scr.slots[j]? = some (.int (xs.getD j 0)) := fun j hj => by
      rw [← Array.getElem?_toList, hlist]
      simp [hj]
    have hbl : b < s.heap.size := (Array.getElem?_eq_some_iff.mp hcb).1
    have hX : va_X b xs.length (fun j => xs.getD j 0) s s.heap := ⟨scr, hcb, hof, hkn, hsz, hval⟩
    have K : W p l e room_1 s m #[Value.ref b] below meth c s₁.heap [] 0 0 (lw_Z below #[Value.ref b] s) (entryFrame m ([Value.ref b] : List Value).toArray 4) := by
      rw [hh0]
      exact whole_start l hflags hbd ⟨B.exec, B.bytes, B.returns, hml, hown, hts, hX, hbl, B.notSynchronized, hgv, hfits⟩
    obtain ⟨t, a1, o, b1, b2, b3⟩ := K s₁ rfl X₀
    exact ⟨t, o, a1, b1, b2, b3⟩
theorem lw_pre_spec {args : Array Value} {s : State} (h : (Jvm.Cond.and given_1 narrow_1).before args s = true) (hr : rest_1_c.before args s = true) (hh : heapFits s = true) : ∃ (b : Addr) (xs : List Int32), lw_P b xs args s := by
  have hs := flat_of_before _ h
  have hq := flat_of_before _ hr
  have hc : (Cond.count 1).before args s = true := hs _ (by decide +kernel)
  have harr : (Cond.arrayOf (.arg 0) .int).before args s = true := hs _ (by decide +kernel)
  have hle : (Cond.le (.length (.arg 0)) (.int 3072)).before args s = true := hs _ (by decide +kernel)
  have hlen : (Cond.isInt (.length (.arg 0))).before args s = true := hq _ (by decide +kernel)
  have hall : (Cond.all (.arg 0) (.isInt (.elem (.arg 0) (.index 0)))).before args s = true := hq _ (by decide +kernel)
  obtain ⟨b, xs, hb, hx⟩ := State.ints_of_pre rfl harr hlen hall
  have hsm : xs.length < 2 ^ 31 := hx.choose_spec.2.2.2
  have hev : (Term.length (.arg 0)).eval args s none [] s = some (.int xs.length.toInt32) := hx.length_eval hb
  have hv := Cond.le_ints hev (show (Term.int 3072).eval args s none [] s = some (.int 3072) from rfl)
  have hd : xs.length.toInt32 ≤ 3072 := by
    simpa [Cond.before, Cond.holds, hv] using hle
  have hN : xs.length ≤ 3072 := (Int32.ofNat_le_ofNat hsm (by decide)).mp (show Int32.ofNat xs.length ≤ Int32.ofNat 3072 from hd)
  exact ⟨b, xs, Cond.one_arg hc (show args[0]? = some (.ref b) from hb), hx, hN, h, hh⟩
theorem lw_comes (l : Launch) (hflags : l.flags = flags0) : Comes l x (Jvm.Cond.code x code maxLocals ret :: tables_1) room_1 (fun tb e args s => Calls_1 tb e args s ∧ rest_1 tb e args s ∧ Pre_1 tb e args s)
    (fun _ _ args s o t => lw_Q args s o t) := by
  intro p e ha hc hk s m args below hf hfit hheap happ hpre
  obtain ⟨b, xs, hP⟩ := lw_pre_spec hpre.2.2 hpre.2.1 hheap
  obtain ⟨k, o, h1, h2, h3, hQ⟩ := lw_walk l hflags b xs p e ha hc hk s m args below hf ((Spec.applies_iff_loose hf).mp happ).1 hP trivial
  exact ⟨k, o, h1, h2, h3, hQ⟩
theorem lw_frame {s t : State} {o : Outcome} {args : Array Value} (h : Framed s o t [] 600000 7302250) :
    Framed s o t (fieldLocs frame_1_writes args s ++ arrayLocs frame_1_arrays args s ++ staticLocs frame_1_statics s) 600000 7302250 := h
theorem lw_limb (L : Cond) (hL : ∀ (args : Array Value) (s t : State), L.after args s (.returned (some (.int 1))) t = true) :
    ArmFor flags0 classFile x code maxLocals ret World_1 tables_1 room_1 Calls_1 rest_1 Pre_1
      (fun tb e a s o t => postC L tb e a s o t ∧ Framed s o t (fieldLocs frame_1_writes a s ++ arrayLocs frame_1_arrays a s ++ staticLocs frame_1_statics s) 600000 7302250) := by
  intro l hflags _ _ p e ha hc hk s m args below hf hfit hheap happ hpre
  obtain ⟨k, o, h1, h2, h3, rfl, hF⟩ := lw_comes l hflags p e ha hc hk s m args below hf hfit hheap happ hpre
  exact ⟨k, _, h1, h2, h3, hL args s _, lw_frame hF⟩
theorem i_vc : Claimed_1_1 ∧ Claimed_1_2 := ⟨lw_limb limb_1_1 (fun args s t => by simp [limb_1_1, Cond.after, Cond.holds, Cond.value]), lw_limb limb_1_2 (fun args s t => Cond.after_iff.mpr (by
  first | (rw [show limb_1_2 = Cond.eq .result (.int 1) from rfl, Cond.eq_ints (x := 1) (y := 1) rfl rfl]; simp; done) | (simp [limb_1_2, Cond.value, Term.eval]; done)))⟩
