/-! a method's end; all instructions together; the small machine's runs are the real one's -/
section MZ
variable {p : Program} {l : Launch} {e : Env} {R : Room} {s : State} {m : MethodId} {args : Array Value} {below : List Frame} {meth : Method} {c : Code} {cells slots : Nat} {Q : State → Prop} {nL : Nat} {ad : Ad → Nat} {B0 : Nat} {WL : List Ad} {Dg : va_G} {cA : Nat → ClassId}
variable {cc : ByteArray} {own : String} {T : LT} {i : Ins} {pc : Nat} {lc : Lc} {st : List AV} {μ : Mm} {cf : CC} {K : KK} {v : Rz} {H : Heap} {locs : List Loc}
/-- an int that a method with a small result type gives back is cut to it -/
theorem W_iretB {Qc : Array Value → State → Outcome → State → Prop} {free : Addr → Prop} {x w : Int32} {ty : FieldType} (hexec : p.tables.exec = Jvm.exec) (hb : c.code = cc) (hr : meth.sig.returnType = some ty) (hn : narrow ty (.int x) = .int w)
    (hq : ∀ t : State, t.heap = H → s.WarmedH t.vm → Qc args s (.returned (some (.int w))) t) (hf : ∀ q ∈ locs, free q.base)
    {pc : Nat} {ls : Array Slot} (hdg : decode cc pc = .ok (.ireturn, 1)) (hlocks : meth.locks = false) : W p l e R s m args below meth c H locs cells slots (MQ below Qc args s cells slots free) (F0 m pc ls [.int x]) := by
  intro T hT X
  obtain ⟨fs, hret, hrun, hended, hW, hframe⟩ := X.leave (v := some (.int w)) (hlocks := hlocks) (fun h => by rw [hr] at h; cases h)
  have hmeth' : T.vm.method? m = some meth := X.method'
  refine ⟨T.setFrames fs, ?_, .returned (some (.int w)), hrun, hended, hq _ hT hW, locs, ⟨⟨_, rfl⟩, hW, hframe⟩, hf⟩
  jvm_step X.here [X.here.top, hexec, hb, hdg, hmeth', hr, hn]
  (try refine ⟨rfl, ?_⟩); (try refine ⟨rfl, ?_⟩)
  first | (intro acts; rw [hret _ acts rfl rfl rfl]) | rw [hret _ _ rfl rfl rfl]
  exact Steps.refl _
/-- what the ends of a method must give: an int, or nothing -/
def EndI (p : Program) (l : Launch) (e : Env) (R : Room) (s : State) (m : MethodId) (args : Array Value) (below : List Frame) (meth : Method) (c : Code) (cells slots : Nat) (Q : State → Prop) (cc : ByteArray) (ad : Ad → Nat) (B0 : Nat) (WL : List Ad) (Dg : va_G) (cA : Nat → ClassId) (b : Bool) (v : Rz) : Prop :=
  ∀ (x : Int32) (pc : Nat) (ls : Array Slot) (H : Heap) (locs : List Loc), decode cc pc = .ok (.ireturn, 1) → (bif b then vp_nar .boolean x else x) = v.1 → va_P Dg vwCl (wl ad cA WL v.2) H → va_S (fun q => B0 ≤ q) s.heap H locs → W p l e R s m args below meth c H locs cells slots Q (F0 m pc ls [.int x])
def EndV (p : Program) (l : Launch) (e : Env) (R : Room) (s : State) (m : MethodId) (args : Array Value) (below : List Frame) (meth : Method) (c : Code) (cells slots : Nat) (Q : State → Prop) (cc : ByteArray) (ad : Ad → Nat) (B0 : Nat) (WL : List Ad) (Dg : va_G) (cA : Nat → ClassId) (v : Rz) : Prop :=
  ∀ (pc : Nat) (ls : Array Slot) (H : Heap) (locs : List Loc), decode cc pc = .ok (.return_, 1) → va_P Dg vwCl (wl ad cA WL v.2) H → va_S (fun q => B0 ≤ q) s.heap H locs → W p l e R s m args below meth c H locs cells slots Q (F0 m pc ls [])
/-- all checks of an instruction; rb: 0 void, 1 int, 2 boolean -/
def chkI (own : String) (rb : Nat) (cc : ByteArray) (pc : Nat) (i : Ins) : Bool := match iop i with
  | 0 => k_const own cc pc i
  | 1 => k_lcon own cc pc i
  | 2 => k_iload own cc pc i
  | 3 => k_aload own cc pc i
  | 4 => k_lload own cc pc i
  | 5 => k_istore own cc pc i
  | 6 => k_astore own cc pc i
  | 7 => k_iinc own cc pc i
  | 8 => k_bin own cc pc i
  | 9 => k_ins .idiv cc pc i
  | 10 => k_ins .irem cc pc i
  | 11 => k_ins .ineg cc pc i
  | 12 => k_ins .i2l cc pc i
  | 13 => k_ins .i2b cc pc i
  | 14 => k_ins .lcmp cc pc i
  | 15 => k_ins .dup cc pc i
  | 16 => k_ins .dup2 cc pc i
  | 17 => k_ins .pop cc pc i
  | 18 => k_getf own cc pc i
  | 19 => k_putf own cc pc i
  | 20 => k_ins .iaload cc pc i
  | 21 => k_ins .baload cc pc i
  | 22 => k_ins .aaload cc pc i
  | 23 => k_ins .iastore cc pc i
  | 24 => k_ins .bastore cc pc i
  | 25 => k_ins .arraylength cc pc i
  | 26 => k_goto cc pc i
  | 27 => k_if cc pc i
  | 28 => k_icmp cc pc i
  | 29 => k_tsw cc pc i
  | 30 => k_lsw cc pc i
  | 31 => dI cc pc .ireturn 1 && decide ((rb = 1 ∧ iv i = 0) ∨ (rb = 2 ∧ iv i = 1))
  | 32 => dI cc pc .return_ 1 && decide (rb = 0)
  | 33 => k_callV own cc pc i
  | 34 => k_callS own cc pc i
  | 35 => k_gets own cc pc i
  | 36 => k_acpy own cc pc i
  | 37 => k_mmax own cc pc i
  | 38 => k_mmin own cc pc i
  | 39 => k_mabs own cc pc i
  | _ => true
theorem ex_sound (C : Ctx p s m args c cc nL own ad B0 WL T Dg cA) {d rb : Nat} (hR : RD d R) (hcs : cells ≤ R.cells ∧ slots ≤ R.slots) (hcf : ∀ k ml as μ v, cf k ml as μ = some v → ∃ d, RD (d + 1) R ∧ CallOK l ad B0 WL T Dg cA d k ml as μ v)
    (hI : rb ≠ 0 → EndI p l e R s m args below meth c cells slots Q cc ad B0 WL Dg cA (Nat.beq rb 2) v) (hV : rb = 0 → EndV p l e R s m args below meth c cells slots Q cc ad B0 WL Dg cA v)
    (hk : chkI own rb cc pc i = true) (h : exT (iop i) T i lc st μ cf K = some v) (hK : ∀ pc' l' st' μ', K pc' l' st' μ' = some v → Sim p l e R s m args below meth c cells slots Q nL ad B0 WL Dg cA pc' l' st' μ') : Sim p l e R s m args below meth c cells slots Q nL ad B0 WL Dg cA pc lc st μ := by
  unfold chkI at hk
  revert hk h
  generalize iop i = o
  intro hk h
  match o, hk, h with
  | 0, hk, h => exact s_const C hk h hK
  | 1, hk, h => exact s_lcon C hk h hK
  | 2, hk, h => exact s_iload C hk h hK
  | 3, hk, h => exact s_aload C hk h hK
  | 4, hk, h => exact s_lload C hk h hK
  | 5, hk, h => exact s_istore C hk h hK
  | 6, hk, h => exact s_astore C hk h hK
  | 7, hk, h => exact s_iinc C hk h hK
  | 8, hk, h => exact s_bin C hk h hK
  | 9, hk, h => exact s_idiv C hk h hK
  | 10, hk, h => exact s_irem C hk h hK
  | 11, hk, h => exact s_ineg C hk h hK
  | 12, hk, h => exact s_i2l C hk h hK
  | 13, hk, h => exact s_i2b C hk h hK
  | 14, hk, h => exact s_lcmp C hk h hK
  | 15, hk, h => exact s_dup C hk h hK
  | 16, hk, h => exact s_dup2 C hk h hK
  | 17, hk, h => exact s_pop C hk h hK
  | 18, hk, h => exact s_getf C hk h hK
  | 19, hk, h => exact s_putf C hk h hK
  | 20, hk, h => exact s_iald C hk h hK
  | 21, hk, h => exact s_bald C hk h hK
  | 22, hk, h => exact s_aald C hk h hK
  | 23, hk, h => exact s_iast C hk h hK
  | 24, hk, h => exact s_bast C hk h hK
  | 25, hk, h => exact s_alen C hk h hK
  | 26, hk, h => exact s_goto C hk h hK
  | 27, hk, h => exact s_if C hk h hK
  | 28, hk, h => exact s_icmp C hk h hK
  | 29, hk, h => exact s_tsw C hk h hK
  | 30, hk, h => exact s_lsw C hk h hK
  | 31, hk, h =>
    rw [Bool.and_eq_true, decide_eq_true_eq] at hk
    obtain ⟨h1, h2⟩ := hk
    simp only [dI, decide_eq_true_eq] at h1
    intro ls H locs hl hP hS
    have h : e_iret T i lc st μ cf K = some v := h
    unfold e_iret at h
    split at h
    · rename_i x
      have h := Option.some.inj h
      have e1 : (bif Nat.beq (iv i) 1 then vp_nar .boolean x else x) = v.1 := by rw [← h]
      have e2 : μ = v.2 := by rw [← h]
      subst e2
      rcases h2 with ⟨h2, h3⟩ | ⟨h2, h3⟩
      · rw [h3] at e1
        exact hI (by omega) x pc ls H locs h1 (by rw [h2]; exact e1) hP hS
      · rw [h3] at e1
        exact hI (by omega) x pc ls H locs h1 (by rw [h2]; exact e1) hP hS
    · cases h
  | 32, hk, h =>
    rw [Bool.and_eq_true, decide_eq_true_eq] at hk
    obtain ⟨h1, h2⟩ := hk
    simp only [dI, decide_eq_true_eq] at h1
    intro ls H locs hl hP hS
    have h : e_vret T i lc st μ cf K = some v := h
    unfold e_vret at h
    split at h
    · have h := Option.some.inj h
      have e2 : μ = v.2 := by rw [← h]
      subst e2
      exact hV h2 pc ls H locs h1 hP hS
    · cases h
  | 33, hk, h => exact s_callV C hcs hcf hk h hK
  | 34, hk, h => exact s_callS C hcs hcf hk h hK
  | 35, hk, h => exact s_gets C hk h hK
  | 36, hk, h => exact s_acpy C hR hk h hK
  | 37, hk, h => exact s_mmax C hR hcs hk h hK
  | 38, hk, h => exact s_mmin C hR hcs hk h hK
  | 39, hk, h => exact s_mabs C hR hcs hk h hK
  | n + 40, hk, h => cases h
theorem den_sound {CO : Nat → Ins} {j : Nat → Lc → Mm → Option Rz} (C : Ctx p s m args c cc nL own ad B0 WL T Dg cA) {d rb : Nat} (hR : RD d R) (hcs : cells ≤ R.cells ∧ slots ≤ R.slots) (hcf : ∀ k ml as μ v, cf k ml as μ = some v → ∃ d, RD (d + 1) R ∧ CallOK l ad B0 WL T Dg cA d k ml as μ v)
    (hI : rb ≠ 0 → EndI p l e R s m args below meth c cells slots Q cc ad B0 WL Dg cA (Nat.beq rb 2) v) (hV : rb = 0 → EndV p l e R s m args below meth c cells slots Q cc ad B0 WL Dg cA v)
    (hk : ∀ pc, chkI own rb cc pc (CO pc) = true) (hj : ∀ pc l' μ', j pc l' μ' = some v → Sim p l e R s m args below meth c cells slots Q nL ad B0 WL Dg cA pc l' [] μ') :
    ∀ (n pc : Nat) (lc : Lc) (st : List AV) (μ : Mm), den CO T cf j n pc lc st μ = some v → Sim p l e R s m args below meth c cells slots Q nL ad B0 WL Dg cA pc lc st μ := by
  intro n
  induction n with
  | zero => intro pc lc st μ h; cases h
  | succ n ih =>
    intro pc lc st μ h
    refine ex_sound C hR hcs hcf hI hV (hk pc) h (fun pc' l' st' μ' h2 => ?_)
    split at h2
    · exact ih pc' l' st' μ' h2
    · split at h2
      · intro ls H locs hl hP hS
        exact hj _ _ _ h2 ls H locs (Lr_mask hl) hP hS
      · cases h2
end MZ
def rbK (rt : Option FieldType) : Nat := match rt with
  | none => 0
  | some .boolean => 2
  | some _ => 1
/-- every method's code in the small machine is its code in the real one -/
def CodeOK (CODE : Nat → Nat → Ins) : Prop := ∀ k y b ml rt stc ci hs, MTab[k]? = some (y, b, ml, rt, stc, ci, hs) → (rt = none ∨ rt = some .int ∨ rt = some .boolean) ∧ ∀ pc, chkI y.cls (rbK rt) b pc (CODE k pc) = true
theorem DF_met {CODE : Nat → Nat → Ins} (hC : CodeOK CODE) {l : Launch} {ad : Ad → Nat} {B0 : Nat} {WL : List Ad} {T : LT} {Dg : va_G} {cA : Nat → ClassId} (hST : Stc ad cA B0 T WL) :
    ∀ (F : Nat), (∀ (d k ml : Nat) (as : List AV) (μ : Mm) (v : Rz), (lcs as).length ≤ ml → DF CODE T F d k 0 (padL ml (lcs as)) μ = some v → CallOK l ad B0 WL T Dg cA d k ml as μ v) ∧
      (∀ (d k : Nat) (y : MethodName) (b : ByteArray) (ml : Nat) (rt : Option FieldType) (stc : Bool) (ci : Nat) (hs : List Nat), MTab[k]? = some (y, b, ml, rt, stc, ci, hs) →
        ∀ (p : Program) (e : Env) (R : Room) (s : State) (m : MethodId) (args : Array Value) (below : List Frame) (meth : Method) (c : Code) (cells slots : Nat) (Q : State → Prop) (v : Rz),
        Ctx p s m args c b ml y.cls ad B0 WL T Dg cA → RD d R → (cells ≤ R.cells ∧ slots ≤ R.slots) → (rbK rt ≠ 0 → EndI p l e R s m args below meth c cells slots Q b ad B0 WL Dg cA (Nat.beq (rbK rt) 2) v) → (rbK rt = 0 → EndV p l e R s m args below meth c cells slots Q b ad B0 WL Dg cA v) →
        ∀ (pc : Nat) (lc : Lc) (μ : Mm), DF CODE T F d k pc lc μ = some v → Sim p l e R s m args below meth c cells slots Q ml ad B0 WL Dg cA pc lc [] μ) := by
  intro F
  induction F with
  | zero => exact ⟨fun d k ml as μ v _ h => by cases h, fun d k y b ml rt stc ci hs _ p e R s m args below meth c cells slots Q v _ _ _ _ _ pc lc μ h => by cases h⟩
  | succ F ih =>
    have second : ∀ (d k : Nat) (y : MethodName) (b : ByteArray) (ml : Nat) (rt : Option FieldType) (stc : Bool) (ci : Nat) (hs : List Nat), MTab[k]? = some (y, b, ml, rt, stc, ci, hs) →
        ∀ (p : Program) (e : Env) (R : Room) (s : State) (m : MethodId) (args : Array Value) (below : List Frame) (meth : Method) (c : Code) (cells slots : Nat) (Q : State → Prop) (v : Rz),
        Ctx p s m args c b ml y.cls ad B0 WL T Dg cA → RD d R → (cells ≤ R.cells ∧ slots ≤ R.slots) → (rbK rt ≠ 0 → EndI p l e R s m args below meth c cells slots Q b ad B0 WL Dg cA (Nat.beq (rbK rt) 2) v) → (rbK rt = 0 → EndV p l e R s m args below meth c cells slots Q b ad B0 WL Dg cA v) →
        ∀ (pc : Nat) (lc : Lc) (μ : Mm), DF CODE T (F + 1) d k pc lc μ = some v → Sim p l e R s m args below meth c cells slots Q ml ad B0 WL Dg cA pc lc [] μ := by
      intro d k y b ml rt stc ci hs hmt p e R s m args below meth c cells slots Q v C hR hcs hI hV pc lc μ h
      refine den_sound (rb := rbK rt) C hR hcs (fun k' ml' as' μ' v' h' => ?_) hI hV (hC k y b ml rt stc ci hs hmt).2 (fun pc' l' μ' h' => ih.2 d k y b ml rt stc ci hs hmt p e R s m args below meth c cells slots Q v C hR hcs hI hV pc' l' μ' h') 300 pc lc [] μ h
      cases d with
      | zero => cases h'
      | succ d =>
        obtain ⟨h1, h2⟩ := bif_some h'
        exact ⟨d, hR, ih.1 d k' ml' as' μ' v' (Nat.le_of_ble_eq_true h1) h2⟩
    refine ⟨fun d k ml as μ v hle h => ?_, second⟩
    intro y b rt stc ci hs hmt
    obtain ⟨f1, f2, f3, f4, f5, f6⟩ := me_facts hmt
    have hrt := (hC k y b ml rt stc ci hs hmt).1
    refine Met.ofW (cc := b) (maxL := ml) (ret := rt) f1 rfl ?_
    intro p e s m args below meth c s₁ B hml hv
    obtain ⟨rfl, hP, hU⟩ := hv
    have hx := B.exec
    have hb := B.bytes
    have hr := B.returns
    have hts := atoms_spec (ws := .code y b ml rt :: GT) B.pre
    have hown : s.vm.findClass y.cls = some m.cls := findClass_of_methodNamed B.named
    have hlocks := B.notSynchronized
    have C : Ctx p s m (as.map (sh ad)).toArray c b ml y.cls ad B0 WL T Dg cA := ⟨hx, hb, hml, hown, fun w hw => hts w (List.mem_cons_of_mem _ hw), hST, hU⟩
    · have hl := lv_entry (as.map (sh ad)) (n := ml) (by rw [lcs_len]; exact hle)
      rw [lg_entry_eq]
      generalize (lg_sl (as.map (sh ad)) ++ List.replicate (ml - (lg_sl (as.map (sh ad))).length) Slot.unset).toArray = ls at hl ⊢
      refine second d k y b ml rt stc ci hs hmt p e _ s m _ below meth c 0 0 _ v C ⟨Nat.le_refl _, Nat.le_refl _⟩ ⟨Nat.le_refl _, Nat.le_refl _⟩ (fun hne => ?_) (fun he => ?_) 0 _ μ h ls s.heap [] (Lr_entry hle hl) hP va_S.rf
      · intro x pc ls H locs hdg hres hP1 hS1
        rcases hrt with rfl | rfl | rfl
        · exact absurd rfl hne
        · exact W_iretB (ty := .int) (w := x) hx hb hr rfl (fun t ht hW => ⟨⟨x, (), rfl, hres, by rw [ht]; exact hP1⟩, hS1.F ht⟩) hS1.2.2 hdg hlocks
        · exact W_iretB (ty := .boolean) (w := vp_nar .boolean x) hx hb hr rfl (fun t ht hW => ⟨⟨_, (), rfl, hres, by rw [ht]; exact hP1⟩, hS1.F ht⟩) hS1.2.2 hdg hlocks
      · intro pc ls H locs hdg hP1 hS1
        rcases hrt with rfl | rfl | rfl
        · exact W.vret hx hb hr (fun t ht hW => ⟨⟨(), rfl, trivial, by rw [ht]; exact hP1⟩, hS1.F ht⟩) hS1.2.2 hdg hlocks
        · cases he
        · cases he
