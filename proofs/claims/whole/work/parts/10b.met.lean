def rbK (rt : Option FieldType) : Nat := match rt with
  | none => 0
  | some .boolean => 2
  | some _ => 1
/-- every method's code in the small machine is its code in the real one -/
def CodeOK (CODE : Nat → Nat → Ins) : Prop := ∀ k y b ml rt stc ci hs, MTab[k]? = some (y, b, ml, rt, stc, ci, hs) → (rt = none ∨ rt = some .int ∨ rt = some .boolean) ∧ ∀ pc, chkI y.cls (rbK rt) b pc (CODE k pc) = true
theorem DF_zero {CODE : Nat → Nat → Ins} {T : LT} {d k pc : Nat} {lc : Lc} {μ : Mm} : DF CODE T 0 d k pc lc μ = none := by
  simp only [DF]
theorem DF_met {CODE : Nat → Nat → Ins} (hC : CodeOK CODE) {l : Launch} {ad : Ad → Nat} {B0 : Nat} {WL : List Ad} {T : LT} {Dg : va_G} {cA : Nat → ClassId} (hST : Stc ad cA B0 T WL) :
    ∀ (F : Nat), (∀ (d k ml : Nat) (as : List AV) (μ : Mm) (v : Rz), (lcs as).length ≤ ml → DF CODE T F d k 0 (padL ml (lcs as)) μ = some v → CallOK l ad B0 WL T Dg cA d k ml as μ v) ∧
      (∀ (d k : Nat) (y : MethodName) (b : ByteArray) (ml : Nat) (rt : Option FieldType) (stc : Bool) (ci : Nat) (hs : List Nat), MTab[k]? = some (y, b, ml, rt, stc, ci, hs) →
        ∀ (p : Program) (e : Env) (R : Room) (s : State) (m : MethodId) (args : Array Value) (below : List Frame) (meth : Method) (c : Code) (cells slots : Nat) (Q : State → Prop) (v : Rz),
        Ctx p s m args c b ml y.cls ad B0 WL T Dg cA → RD d R → (cells ≤ R.cells ∧ slots ≤ R.slots) → (rbK rt ≠ 0 → EndI p l e R s m args below meth c cells slots Q b ad B0 WL Dg cA (Nat.beq (rbK rt) 2) v) → (rbK rt = 0 → EndV p l e R s m args below meth c cells slots Q b ad B0 WL Dg cA v) →
        ∀ (pc : Nat) (lc : Lc) (μ : Mm), DF CODE T F d k pc lc μ = some v → Sim p l e R s m args below meth c cells slots Q ml ad B0 WL Dg cA pc lc [] μ) := by
  intro F
  induction F with
  | zero => exact ⟨fun d k ml as μ v _ h => by (rw [DF_zero] at h; cases h), fun d k y b ml rt stc ci hs _ p e R s m args below meth c cells slots Q v _ _ _ _ _ pc lc μ h => by (rw [DF_zero] at h; cases h)⟩
  | succ F ih =>
    have second : ∀ (d k : Nat) (y : MethodName) (b : ByteArray) (ml : Nat) (rt : Option FieldType) (stc : Bool) (ci : Nat) (hs : List Nat), MTab[k]? = some (y, b, ml, rt, stc, ci, hs) →
        ∀ (p : Program) (e : Env) (R : Room) (s : State) (m : MethodId) (args : Array Value) (below : List Frame) (meth : Method) (c : Code) (cells slots : Nat) (Q : State → Prop) (v : Rz),
        Ctx p s m args c b ml y.cls ad B0 WL T Dg cA → RD d R → (cells ≤ R.cells ∧ slots ≤ R.slots) → (rbK rt ≠ 0 → EndI p l e R s m args below meth c cells slots Q b ad B0 WL Dg cA (Nat.beq (rbK rt) 2) v) → (rbK rt = 0 → EndV p l e R s m args below meth c cells slots Q b ad B0 WL Dg cA v) →
        ∀ (pc : Nat) (lc : Lc) (μ : Mm), DF CODE T (F + 1) d k pc lc μ = some v → Sim p l e R s m args below meth c cells slots Q ml ad B0 WL Dg cA pc lc [] μ := by
      intro d k y b ml rt stc ci hs hmt p e R s m args below meth c cells slots Q v C hR hcs hI hV pc lc μ h
      rw [DF_succ] at h
      refine den_sound (rb := rbK rt) C hR hcs (fun k' ml' as' μ' v' h' => ?_) hI hV (hC k y b ml rt stc ci hs hmt).2 (fun pc' l' μ' h' => ih.2 d k y b ml rt stc ci hs hmt p e R s m args below meth c cells slots Q v C hR hcs hI hV pc' l' μ' h') _ pc lc [] μ h
      cases d with
      | zero => cases h'
      | succ d =>
        have h' : (bif Nat.ble (lcs as').length ml' then DF CODE T F d k' 0 (padL ml' (lcs as')) μ' else none) = some v' := h'
        obtain ⟨h1, h2⟩ := bif_some h'
        exact ⟨d, hR, ih.1 d k' ml' as' μ' v' (Nat.le_of_ble_eq_true h1) h2⟩
    refine ⟨fun d k ml as μ v hle h => ?_, second⟩
    intro y b rt stc ci hs hmt
    obtain ⟨f1, f2, f3, f4, f5, f6⟩ := me_facts hmt
    have hrt := (hC k y b ml rt stc ci hs hmt).1
    refine Met.ofW (cc := b) (maxL := ml) (ret := rt) f1 rfl ?_
    intro p e s m args below meth c s₁ B hml hv
    obtain ⟨rfl, hP, hU⟩ := hv
    have hx := B.exec
    have hb := B.bytes
    have hr := B.returns
    have hts := atoms_spec (ws := .code y b ml rt :: GT) B.pre
    have hown : s.vm.findClass y.cls = some m.cls := findClass_of_methodNamed B.named
    have hlocks := B.notSynchronized
    have C : Ctx p s m (as.map (sh ad)).toArray c b ml y.cls ad B0 WL T Dg cA := ⟨hx, hb, hml, hown, fun w hw => hts w (List.mem_cons_of_mem _ hw), hST, hU⟩
    · have hl := lv_entry (as.map (sh ad)) (n := ml) (by rw [lcs_len]; exact hle)
      rw [lg_entry_eq]
      generalize (lg_sl (as.map (sh ad)) ++ List.replicate (ml - (lg_sl (as.map (sh ad))).length) Slot.unset).toArray = ls at hl ⊢
      refine second d k y b ml rt stc ci hs hmt p e _ s m _ below meth c 0 0 _ v C ⟨Nat.le_refl _, Nat.le_refl _⟩ ⟨Nat.le_refl _, Nat.le_refl _⟩ (fun hne => ?_) (fun he => ?_) 0 _ μ h ls s.heap [] (Lr_entry hle hl) hP va_S.rf
      · intro x pc ls H locs hdg hres hP1 hS1
        rcases hrt with rfl | rfl | rfl
        · exact absurd rfl hne
        · have hres : x = v.1 := hres
          have hq : ∀ t : State, t.heap = H → s.WarmedH t.vm → mxQ ad B0 WL Dg cA (some .int) v (as.map (sh ad)).toArray s (.returned (some (.int x))) t := fun t ht hW => by
            unfold mxQ va_Qi
            exact ⟨⟨x, (), rfl, hres, (show va_P Dg vwCl (wl ad cA WL v.2) t.heap from by rw [ht]; exact hP1)⟩, hS1.F ht⟩
          exact W_iretB (ty := .int) (w := x) hx hb hr (by unfold narrow; rfl) hq hS1.2.2 hdg hlocks
        · have hres : vp_nar .boolean x = v.1 := hres
          have hq : ∀ t : State, t.heap = H → s.WarmedH t.vm → mxQ ad B0 WL Dg cA (some .boolean) v (as.map (sh ad)).toArray s (.returned (some (.int (vp_nar .boolean x)))) t := fun t ht hW => by
            unfold mxQ va_Qi
            exact ⟨⟨_, (), rfl, hres, (show va_P Dg vwCl (wl ad cA WL v.2) t.heap from by rw [ht]; exact hP1)⟩, hS1.F ht⟩
          exact W_iretB (ty := .boolean) (w := vp_nar .boolean x) hx hb hr (by unfold vp_nar narrow; rfl) hq hS1.2.2 hdg hlocks
      · intro pc ls H locs hdg hP1 hS1
        rcases hrt with rfl | rfl | rfl
        · have hq : ∀ t : State, t.heap = H → s.WarmedH t.vm → mxQ ad B0 WL Dg cA none v (as.map (sh ad)).toArray s (.returned none) t := fun t ht hW => by
            unfold mxQ va_Qv
            exact ⟨⟨(), rfl, trivial, (show va_P Dg vwCl (wl ad cA WL v.2) t.heap from by rw [ht]; exact hP1)⟩, hS1.F ht⟩
          exact W.vret hx hb hr hq hS1.2.2 hdg hlocks
        · cases he
        · cases he
