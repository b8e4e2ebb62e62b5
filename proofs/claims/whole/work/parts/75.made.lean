/-! a new bank, wherever it is made -/
section JE
variable {A0 : Nat → Prop} {D : va_G} {cl : List vw_C} {ws w1 : va_W} {x : Nat × va_E} {H H1 : Heap}
theorem join_end (hP : va_P D cl (ws ++ [x]) H) (hD : va_D A0 (ws ++ [x])) (hk : ∀ q : Nat, q < H.size → ¬ va_A [x] H.size q → H1[q]? = H[q]?) (hF : ∀ q, va_A [x] H.size q → A0 q) (hP1 : va_P D cl w1 H1) (hD1 : va_D (va_A [x] H.size) w1) : va_P D cl (ws ++ w1) H1 ∧ va_D A0 (ws ++ w1) := by
  have in1 : ∀ {k : Nat} {q : Nat × va_E}, ws[k]? = some q → (ws ++ [x])[k]? = some q := fun {k q} h => by
    rw [List.getElem?_append_left (List.getElem?_eq_some_iff.mp h).1]
    exact h
  have hx : (ws ++ [x])[ws.length]? = some x := by simp
  have hPw : va_P D cl ws H := fun k q h => hP k q (in1 h)
  have far : ∀ {k : Nat} {q : Nat × va_E}, ws[k]? = some q → q.1 < H.size ∧ ¬ va_A [x] H.size q.1 := fun {k q} h => by
    have hlt : q.1 < H.size := (hPw k q h).lt
    refine ⟨hlt, fun z => ?_⟩
    rcases z with ⟨i, e, z⟩ | z
    · cases i with
      | zero =>
        injection z with z
        have := hD.1 k ws.length q x (in1 h) hx (by rw [z])
        have h2 := (List.getElem?_eq_some_iff.mp h).1
        omega
      | succ i => cases i <;> cases z
    · omega
  refine ⟨(hPw.kept (fun k q h => hk _ (far h).1 (far h).2)).app hP1, fun i j p q h1 h2 e => ?_, fun k q h => ?_⟩
  · by_cases c1 : i < ws.length
    · rw [List.getElem?_append_left c1] at h1
      by_cases c2 : j < ws.length
      · rw [List.getElem?_append_left c2] at h2
        exact hD.1 i j p q (in1 h1) (in1 h2) e
      · rw [List.getElem?_append_right (by omega)] at h2
        exact absurd (by rw [e]; exact hD1.2 _ q h2) (far h1).2
    · rw [List.getElem?_append_right (by omega)] at h1
      by_cases c2 : j < ws.length
      · rw [List.getElem?_append_left c2] at h2
        exact absurd (by rw [← e]; exact hD1.2 _ p h1) (far h2).2
      · rw [List.getElem?_append_right (by omega)] at h2
        have := hD1.1 _ _ p q h1 h2 e
        omega
  · by_cases c1 : k < ws.length
    · rw [List.getElem?_append_left c1] at h
      exact hD.2 k q (in1 h)
    · rw [List.getElem?_append_right (by omega)] at h
      exact hF _ (hD1.2 _ q h)
theorem free_end {H0 : Heap} {locs : List Loc} (hD : va_D A0 (ws ++ [x])) (hS : va_S A0 H0 H locs) (hA : ∀ q, H0.size ≤ q → A0 q) : ∀ q, va_A [x] H.size q → A0 q := va_free hD hS hA [ws.length] (by simp)
end JE
set_option maxHeartbeats 4000000 in
set_option maxRecDepth 100000 in
theorem mk_bank {p : Program} {l : Launch} {e : Env} {R : Room} {s : State} {m : MethodId} {args : Array Value} {below : List Frame} {meth : Method} {c : Code} {H : Heap} {locs : List Loc} {cells slots : Nat} {Q : State → Prop} {cc : ByteArray} {nL pc i1 i2 : Nat} {own : String} {ls : Array Slot} {rest : List Value} {A : Nat → Prop} {Dg : va_G} {cA : Nat → ClassId} {ad : Ad → Nat} {B0 : Nat} {S : Ad → Nat → Int32} {ws : va_W}
    (hx : p.tables.exec = Jvm.exec) (hb : c.code = cc) (hml : c.maxLocals = nL) (hown : s.vm.findClass own = some m.cls) (hts : ∀ w ∈ GT, w.before args s = true) (hU : Ust ad B0 (LY0, S) Dg cA s) (hT : Stc ad cA B0 (LY0, S) []) (had : ad (3, 0, 3) < B0) (hP : va_P Dg vwCl ws H) (hD : va_D A ws) (hS : va_S A s.heap H locs) (hA : ∀ q : Nat, s.heap.size ≤ q → A q) (hAB : ∀ q, A q → B0 ≤ q)
    (hcl : (Cond.classLink own i1 RX0).before args s = true) (hnest : va_Nw (.methodLinkNest own i2 yX0_init "RowGuard") s) (hc : cells + 25 ≤ R.cells) (hs : slots + 467 ≤ R.slots) (hf : 4 ≤ R.frames) (hlo : 84 ≤ R.locals) (hrm : (rest.map fun v => v.category).sum ≤ 7) (hsz : ls.size = nL)
    (d1 : decode cc pc = .ok (.new i1, 3)) (d2 : decode cc (pc + 3) = .ok (.dup, 1)) (d3 : decode cc (pc + 4) = .ok (.invokespecial i2, 3))
    (kk : ∀ (u : Nat → Nat) (H1 : Heap) (locs1 : List Loc), va_P Dg vwCl (ws ++ bkw S cA u) H1 → va_D A (ws ++ bkw S cA u) → va_S A s.heap H1 locs1 → W p l e R s m args below meth c H1 locs1 (cells + 25) (slots + 467) Q (F0 m (pc + 7) ls (.ref (u 0) :: rest))) : W p l e R s m args below meth c H locs cells slots Q (F0 m pc ls rest) := by
  refine va_new (ci := 0) (fs := [.null, .null, .null, .null, .null, .int 0, .int 0, .int 0, .int 0, .int 0, .null, .null]) (C := RX0) (T := TX0) (N := 12) hx hb hts (mx_in (ci := 0) rfl) tyX0 tyX0_ok hown hcl (hts (.instantiable RX0 12) (wOK_in (h := 10025) (by decide +kernel))) (hts (.initialized RX0) (wOK_in (h := 10002) (by decide +kernel))) hU.2.1 hP hD hS hA rfl (fun j hj => by rcases (show j = 0 ∨ j = 1 ∨ j = 2 ∨ j = 3 ∨ j = 4 ∨ j = 5 ∨ j = 6 ∨ j = 7 ∨ j = 8 ∨ j = 9 ∨ j = 10 ∨ j = 11 by omega) with rfl | rfl | rfl | rfl | rfl | rfl | rfl | rfl | rfl | rfl | rfl | rfl <;> rfl) (by omega) (by omega) d1 (fun q H hP hD hS => ?_)
  refine lv_dup hx hb d2 rfl ?_
  have hFc := free_end hD hS hA
  have hq : (ws ++ [(q, (Sum.inr (0, [.null, .null, .null, .null, .null, .int 0, .int 0, .int 0, .int 0, .int 0, .null, .null]) : va_E))])[ws.length]? = some (q, (Sum.inr (0, [.null, .null, .null, .null, .null, .int 0, .int 0, .int 0, .int 0, .int 0, .null, .null]) : va_E)) := by simp
  have hqB : B0 ≤ q := hAB _ (hD.2 _ _ hq)
  have hPc : va_P Dg vwCl [(q, (Sum.inr (0, [.null, .null, .null, .null, .null, .int 0, .int 0, .int 0, .int 0, .int 0, .null, .null]) : va_E))] H := fun k x hx1 => by
    cases k with
    | zero => injection hx1 with hx1; subst hx1; exact hP _ _ hq
    | succ k => cases k <;> cases hx1
  have hDc : va_D (fun _ => True) [(q, (Sum.inr (0, [.null, .null, .null, .null, .null, .int 0, .int 0, .int 0, .int 0, .int 0, .null, .null]) : va_E))] := by
    refine ⟨fun i j a b h1 h2 _ => ?_, fun _ _ _ => trivial⟩
    cases i with
    | zero =>
      cases j with
      | zero => rfl
      | succ j => cases j <;> cases h2
    | succ i => cases i <;> cases h1
  have hS2 : va_S (fun q => B0 ≤ q) s.heap H locs := ⟨hS.1, fun q a b => hS.2.1 q a (fun x => b (hAB q x)), fun l hl => hAB _ (hS.2.2 l hl)⟩
  refine va_callv (va_runIN (As := []) (rest := .ref q :: rest) ⟨hx, hb, hml, hown, hts⟩ (kX0 l Dg cA had q H.size hqB) ⟨va_cnB (own := own) (host := "RowGuard") (index := i2) 0 hts (GT_in (wOK_in (h := 10028) (by decide +kernel))) rfl rfl rfl hnest (hts (.initialized RX0) (wOK_in (h := 10002) (by decide +kernel))) (by decide +kernel) ⟨hf, hlo⟩, rfl, hts (.instanceMethod yX0_init) (wOK_in (h := 10027) (by decide +kernel))⟩ ⟨fun a U g mk q => by obtain ⟨z0, z1, zP, zU, zD⟩ := q; exact ⟨z0, z1, zP, zU.blind, zD⟩, fun U hU1 hW => ⟨rfl, by rw [hU1], by rw [hU1]; exact hPc, hU.move hT hS2 hU1 hW, hDc⟩⟩ rfl rfl hsz rfl (lv_room (by simp only [List.map_cons, List.sum_cons]; show 1 + _ ≤ 8; omega)) d3 ⟨by omega, by omega⟩) hS (fun q _ h => hFc q h) hFc (fun u t H1 locs ht hvm h5 hB hz1 hk1 hS => ?_)
  obtain ⟨hP1, hD1⟩ := hB
  rw [ht] at hP1
  obtain ⟨hP, hD⟩ := join_end hP hD hk1 hFc hP1 hD1
  have h5 : u 0 = q := h5
  rw [← h5]
  exact kk u H1 locs hP hD hS
