/-! a void method of the small machine, called in a walk -/
set_option maxHeartbeats 4000000 in
theorem call_void {p : Program} {l : Launch} {e : Env} {R : Room} {s : State} {m : MethodId} {args : Array Value} {below : List Frame} {meth : Method} {c : Code} {H : Heap} {locs : List Loc} {cells slots d ml : Nat} {Q : State → Prop} {cc bytes : ByteArray} {nL pc ix : Nat} {own : String} {ls : Array Slot} {rest : List Value} {A : Nat → Prop} {Dg : va_G} {cA : Nat → ClassId} {ad : Ad → Nat} {B1 : Nat} {WL : List Ad} {T : LT} {μ : Mm} {v : Rz} {y : MethodName} {q : Ad} {as : List AV}
    (hM : Met l y (.code y bytes ml none :: GT) (rmD d) (mxPc ad B1 WL T Dg cA (vR q :: as) μ) (mxQ ad B1 WL Dg cA none v) 0 0 (fun a => B1 ≤ a))
    (hx : p.tables.exec = Jvm.exec) (hb : c.code = cc) (hml : c.maxLocals = nL) (hown : s.vm.findClass own = some m.cls) (hts : ∀ w ∈ GT, w.before args s = true)
    (hPt : va_P Dg vwCl (wl ad cA WL μ) H) (hUU : ∀ U : State, U.heap = H → s.WarmedH U.vm → Ust ad B1 T Dg cA U) (hrec : ∃ cell : Cell, H[ad q]? = some cell ∧ cell.vm.isStatics = false ∧ s.vm.findClass y.cls = some cell.cls)
    (hS : va_S A s.heap H locs) (hA : ∀ a : Nat, B1 ≤ a → A a) (f3 : Cond.code y bytes ml none ∈ GT) (f4 : Cond.initialized y.cls ∈ GT) (f5 : y.cls ≠ "java/lang/invoke/MethodHandle" ∧ y.cls ≠ "java/lang/invoke/VarHandle") (f6 : Cond.instanceMethod y ∈ GT) (f7 : Cond.selects y.cls y y ∈ GT) (hpd : (parseMethodDescriptor y.desc).map (fun d => d.parameters.length) = some as.length) (hnest : va_Nw (.methodLinkNest own ix y "RowGuard") s)
    (hRf : (rmD d).frames + 1 ≤ R.frames) (hRl : 8 + (ml + 11) + (rmD d).locals ≤ R.locals) (hc : cells ≤ R.cells) (hs : slots ≤ R.slots) (hrm : (rest.map fun v => v.category).sum ≤ 8) (hsz : ls.size = nL) (d1 : decode cc pc = .ok (.invokevirtual ix, 3))
    (kk : ∀ (H1 : Heap) (locs1 : List Loc), va_P Dg vwCl (wl ad cA WL v.2) H1 → (∀ a : Nat, a < H.size → ¬ B1 ≤ a → H1[a]? = H[a]?) → va_S A s.heap H1 locs1 → W p l e R s m args below meth c H1 locs1 cells slots Q (F0 m (pc + 3) ls rest)) : W p l e R s m args below meth c H locs cells slots Q (F0 m pc ls ((as.map (sh ad)).reverse ++ .ref (ad q) :: rest)) := by
  have hpre : PreV s H y.cls (ad q) (mxPc ad B1 WL T Dg cA (vR q :: as) μ) (as.map (sh ad)) := ⟨mxPc_blind, hrec, fun U hU1 hW => ⟨rfl, by rw [hU1]; exact hPt, hUU U hU1 hW⟩⟩
  have hcw := va_cnB (R := R) (mc := 0) (ms := 0) (ret := none) (rm := rmD d) (own := own) (host := "RowGuard") (index := ix) as.length hts (GT_in f3) rfl rfl rfl hnest (hts _ f4) ⟨f5.1, f5.2, hpd⟩ ⟨hRf, hRl⟩
  have hlen : (as.map (sh ad)).length = as.length := List.length_map _
  have hrun := va_runVN (C := y.cls) (e := e) (below := below) (meth := meth) (locs := locs) (cells := cells) (slots := slots) ⟨hx, hb, hml, hown, hts⟩ hM ⟨hcw, hts _ f6, hts _ f7⟩ hpre (g := F0 m pc ls ((as.map (sh ad)).reverse ++ .ref (ad q) :: rest)) (rest := rest) rfl hlen hsz rfl (lv_room hrm) d1 ⟨hc, hs⟩
  refine va_callv (a := (Value.ref (ad q) :: as.map (sh ad)).toArray) hrun hS (fun q _ h => hA q h) (fun q h => hA q h) (fun _ t H1 locs1 ht hvm h5 hB hz1 hk1 hS => ?_)
  rw [ht] at hB
  exact kk H1 locs1 hB hk1 hS
