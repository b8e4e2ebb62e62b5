/-! a new helper, wherever it is made -/
theorem self_P {Dg : va_G} {ws : va_W} {x : Nat × va_E} {H : Heap} (hP : va_P Dg vwCl (ws ++ [x]) H) : va_P Dg vwCl [x] H := fun k y hy => by
  cases k with
  | zero => injection hy with hy; subst hy; exact hP ws.length _ (by simp)
  | succ k => cases k <;> cases hy
theorem self_D {x : Nat × va_E} : va_D (fun _ => True) [x] := by
  refine ⟨fun i j a b h1 h2 _ => ?_, fun _ _ _ => trivial⟩
  cases i with
  | zero =>
    cases j with
    | zero => rfl
    | succ j => cases j <;> cases h2
  | succ i => cases i <;> cases h1
set_option maxHeartbeats 4000000 in
set_option maxRecDepth 100000 in
theorem mk_new {V : Type} {post : V → Prop} {p : Program} {l : Launch} {e : Env} {R : Room} {s : State} {m : MethodId} {args : Array Value} {below : List Frame} {meth : Method} {c : Code} {H : Heap} {locs : List Loc} {cells slots mc ms ml fr lo : Nat} {Q : State → Prop} {cc bytes : ByteArray} {nL pc i1 i2 : Nat} {own : String} {ls : Array Slot} {rest : List Value} {A : Nat → Prop} {Dg : va_G} {cA : Nat → ClassId} {B0 : Nat} {ws : va_W} {ci N : Nat} {C : String} {Tf : u_T} {fs : List Value} {y : MethodName} {w1 : Nat → V → va_W} {K : State → Prop} {hIn hIt hCo hIs : Nat}
    (hM : ∀ q sz : Nat, B0 ≤ q → Met l y (.code y bytes ml none :: GT) ({ frames := fr, cells := mc, slots := ms, locals := lo }) (va_Pc [.ref q] (fun U => U.heap.size = sz ∧ va_P Dg vwCl [(q, (Sum.inr (ci, fs) : va_E))] U.heap ∧ K U ∧ va_D (fun _ => True) [(q, (Sum.inr (ci, fs) : va_E))])) (va_Qv post (fun u t => va_P Dg vwCl (w1 q u) t.heap ∧ va_D (va_A [(q, (Sum.inr (ci, fs) : va_E))] sz) (w1 q u)) (va_A [(q, (Sum.inr (ci, fs) : va_E))] sz)) mc ms (va_A [(q, (Sum.inr (ci, fs) : va_E))] sz))
    (hci : vwCl[ci]? = some (C, Tf, N)) (hfs : ∀ j, j < N → defaultValue (mxT ci j) = vp_V fs j) (hyc : y.cls = C) (hyn : y.name = "<init>") (hy2 : y.cls ≠ "java/lang/invoke/MethodHandle" ∧ y.cls ≠ "java/lang/invoke/VarHandle" ∧ (parseMethodDescriptor y.desc).map (fun d => d.parameters.length) = some 0)
    (hKb : ∀ U g mk a, K U → K (U.calling g mk a)) (hKm : ∀ (H1 : Heap) (locs1 : List Loc) (U : State), va_S A s.heap H1 locs1 → U.heap = H1 → s.WarmedH U.vm → K U)
    (hx : p.tables.exec = Jvm.exec) (hb : c.code = cc) (hml : c.maxLocals = nL) (hown : s.vm.findClass own = some m.cls) (hts : ∀ w ∈ GT, w.before args s = true) (hKk : va_K Dg vwCl (tyA cA) s) (hP : va_P Dg vwCl ws H) (hD : va_D A ws) (hS : va_S A s.heap H locs) (hA : ∀ q : Nat, s.heap.size ≤ q → A q) (hAB : ∀ q, A q → B0 ≤ q)
    (hcl : (Cond.classLink own i1 C).before args s = true) (hnest : va_Nw (.methodLinkNest own i2 y "RowGuard") s) (kIn : wOK hIn (.initialized C) = true) (kIt : wOK hIt (.instantiable C N) = true) (kCo : wOK hCo (.code y bytes ml none) = true) (kIs : wOK hIs (.instanceMethod y) = true) (hc : cells + 1 + mc ≤ R.cells) (hs : slots + N + ms ≤ R.slots) (hf : fr + 1 ≤ R.frames) (hlo : 8 + (ml + 11) + lo ≤ R.locals) (hrm : (rest.map fun v => v.category).sum ≤ 7) (hsz : ls.size = nL)
    (d1 : decode cc pc = .ok (.new i1, 3)) (d2 : decode cc (pc + 3) = .ok (.dup, 1)) (d3 : decode cc (pc + 4) = .ok (.invokespecial i2, 3))
    (kk : ∀ (q : Nat) (u : V) (H1 : Heap) (locs1 : List Loc), B0 ≤ q → post u → va_P Dg vwCl (ws ++ w1 q u) H1 → va_D A (ws ++ w1 q u) → va_S A s.heap H1 locs1 → W p l e R s m args below meth c H1 locs1 (cells + 1 + mc) (slots + N + ms) Q (F0 m (pc + 7) ls (.ref q :: rest))) : W p l e R s m args below meth c H locs cells slots Q (F0 m pc ls rest) := by
  obtain ⟨ty1, ty2, ty3⟩ := mx_ty hci
  refine va_new (ci := ci) (fs := fs) (C := C) (T := Tf) (N := N) hx hb hts (mx_in hci) (mxT ci) ty1 hown hcl (hts _ (wOK_in kIt)) (hts _ (wOK_in kIn)) hKk hP hD hS hA hci hfs (by omega) (by omega) d1 (fun q H hP hD hS => ?_)
  refine lv_dup hx hb d2 rfl ?_
  have hFc := free_end hD hS hA
  have hq : (ws ++ [(q, (Sum.inr (ci, fs) : va_E))])[ws.length]? = some (q, (Sum.inr (ci, fs) : va_E)) := by simp
  have hqB : B0 ≤ q := hAB _ (hD.2 _ _ hq)
  have hPc := self_P hP
  subst hyc
  refine va_callv (va_runIN (As := []) (rest := .ref q :: rest) ⟨hx, hb, hml, hown, hts⟩ (hM q H.size hqB) ⟨va_cnB (own := own) (host := "RowGuard") (index := i2) 0 hts (GT_in (wOK_in kCo)) rfl rfl rfl hnest (hts _ (wOK_in kIn)) hy2 ⟨hf, hlo⟩, hyn, hts _ (wOK_in kIs)⟩ ⟨fun a U g mk q => by obtain ⟨z0, z1, zP, zU, zD⟩ := q; exact ⟨z0, z1, zP, hKb U g mk a zU, zD⟩, fun U hU1 hW => ⟨rfl, by rw [hU1], by rw [hU1]; exact hPc, hKm H locs U hS hU1 hW, self_D⟩⟩ rfl rfl hsz rfl (lv_room (by simp only [List.map_cons, List.sum_cons]; show 1 + _ ≤ 8; omega)) d3 ⟨by omega, by omega⟩) hS (fun q _ h => hFc q h) hFc (fun u t H1 locs ht hvm h5 hB hz1 hk1 hS => ?_)
  obtain ⟨hP1, hD1⟩ := hB
  rw [ht] at hP1
  obtain ⟨hP, hD⟩ := join_end hP hD hk1 hFc hP1 hD1
  exact kk q u H1 locs hqB h5 hP hD hS
