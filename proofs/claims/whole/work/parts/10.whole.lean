/-! a method's end; all instructions together; the small machine's runs are the real one's -/
section MZ
variable {p : Program} {l : Launch} {e : Env} {R : Room} {s : State} {m : MethodId} {args : Array Value} {below : List Frame} {meth : Method} {c : Code} {cells slots : Nat} {Q : State → Prop} {nL : Nat} {ad : Ad → Nat} {B0 : Nat} {WL : List Ad} {Dg : va_G} {cA : Nat → ClassId}
variable {cc : ByteArray} {own : String} {T : LT} {i : Ins} {pc : Nat} {lc : Lc} {st : List AV} {μ : Mm} {cf : CC} {K : KK} {v : Rz} {H : Heap} {locs : List Loc}
/-- an int that a method with a small result type gives back is cut to it -/
theorem W_iretB {Qc : Array Value → State → Outcome → State → Prop} {free : Addr → Prop} {x w : Int32} {ty : FieldType} (hexec : p.tables.exec = Jvm.exec) (hb : c.code = cc) (hr : meth.sig.returnType = some ty) (hn : narrow ty (.int x) = .int w)
    (hq : ∀ t : State, t.heap = H → s.WarmedH t.vm → Qc args s (.returned (some (.int w))) t) (hf : ∀ q ∈ locs, free q.base)
    {pc : Nat} {ls : Array Slot} (hdg : decode cc pc = .ok (.ireturn, 1)) (hlocks : meth.locks = false) : W p l e R s m args below meth c H locs cells slots (MQ below Qc args s cells slots free) (F0 m pc ls [.int x]) := by
  intro T hT X
  obtain ⟨fs, hret, hrun, hended, hW, hframe⟩ := X.leave (v := some (.int w)) (hlocks := hlocks) (fun h => by rw [hr] at h; cases h)
  have hmeth' : T.vm.method? m = some meth := X.method'
  refine ⟨T.setFrames fs, ?_, .returned (some (.int w)), hrun, hended, hq _ hT hW, locs, ⟨⟨_, rfl⟩, hW, hframe⟩, hf⟩
  jvm_step X.here [X.here.top, hexec, hb, hdg, hmeth', hr, hn]
  (try refine ⟨rfl, ?_⟩); (try refine ⟨rfl, ?_⟩)
  first | (intro acts; rw [hret _ acts rfl rfl rfl]) | rw [hret _ _ rfl rfl rfl]
  exact Steps.refl _
/-- what the ends of a method must give: an int, or nothing -/
def EndI (p : Program) (l : Launch) (e : Env) (R : Room) (s : State) (m : MethodId) (args : Array Value) (below : List Frame) (meth : Method) (c : Code) (cells slots : Nat) (Q : State → Prop) (cc : ByteArray) (ad : Ad → Nat) (B0 : Nat) (WL : List Ad) (Dg : va_G) (cA : Nat → ClassId) (b : Bool) (v : Rz) : Prop :=
  ∀ (x : Int32) (pc : Nat) (ls : Array Slot) (H : Heap) (locs : List Loc), decode cc pc = .ok (.ireturn, 1) → (bif b then vp_nar .boolean x else x) = v.1 → va_P Dg vwCl (wl ad cA WL v.2) H → va_S (fun q => B0 ≤ q) s.heap H locs → W p l e R s m args below meth c H locs cells slots Q (F0 m pc ls [.int x])
def EndV (p : Program) (l : Launch) (e : Env) (R : Room) (s : State) (m : MethodId) (args : Array Value) (below : List Frame) (meth : Method) (c : Code) (cells slots : Nat) (Q : State → Prop) (cc : ByteArray) (ad : Ad → Nat) (B0 : Nat) (WL : List Ad) (Dg : va_G) (cA : Nat → ClassId) (v : Rz) : Prop :=
  ∀ (pc : Nat) (ls : Array Slot) (H : Heap) (locs : List Loc), decode cc pc = .ok (.return_, 1) → va_P Dg vwCl (wl ad cA WL v.2) H → va_S (fun q => B0 ≤ q) s.heap H locs → W p l e R s m args below meth c H locs cells slots Q (F0 m pc ls [])
/-- all checks of an instruction; rb: 0 void, 1 int, 2 boolean -/
def chkI (own : String) (rb : Nat) (cc : ByteArray) (pc : Nat) (i : Ins) : Bool := match iop i with
  | 0 => k_const own cc pc i
  | 1 => k_lcon own cc pc i
  | 2 => k_iload own cc pc i
  | 3 => k_aload own cc pc i
  | 4 => k_lload own cc pc i
  | 5 => k_istore own cc pc i
  | 6 => k_astore own cc pc i
  | 7 => k_iinc own cc pc i
  | 8 => k_bin own cc pc i
  | 9 => k_ins .idiv cc pc i
  | 10 => k_ins .irem cc pc i
  | 11 => k_ins .ineg cc pc i
  | 12 => k_ins .i2l cc pc i
  | 13 => k_ins .i2b cc pc i
  | 14 => k_ins .lcmp cc pc i
  | 15 => k_ins .dup cc pc i
  | 16 => k_ins .dup2 cc pc i
  | 17 => k_ins .pop cc pc i
  | 18 => k_getf own cc pc i
  | 19 => k_putf own cc pc i
  | 20 => k_ins .iaload cc pc i
  | 21 => k_ins .baload cc pc i
  | 22 => k_ins .aaload cc pc i
  | 23 => k_ins .iastore cc pc i
  | 24 => k_ins .bastore cc pc i
  | 25 => k_ins .arraylength cc pc i
  | 26 => k_goto cc pc i
  | 27 => k_if cc pc i
  | 28 => k_icmp cc pc i
  | 29 => k_tsw cc pc i
  | 30 => k_lsw cc pc i
  | 31 => dI cc pc .ireturn 1 && decide ((rb = 1 ∧ iv i = 0) ∨ (rb = 2 ∧ iv i = 1))
  | 32 => dI cc pc .return_ 1 && decide (rb = 0)
  | 33 => k_callV own cc pc i
  | 34 => k_callS own cc pc i
  | 35 => k_gets own cc pc i
  | 36 => k_acpy own cc pc i
  | 37 => k_mmax own cc pc i
  | 38 => k_mmin own cc pc i
  | 39 => k_mabs own cc pc i
  | _ => true
theorem ex_sound (C : Ctx p s m args c cc nL own ad B0 WL T Dg cA) {d rb : Nat} (hR : RD d R) (hcs : cells ≤ R.cells ∧ slots ≤ R.slots) (hcf : ∀ k ml as μ v, cf k ml as μ = some v → ∃ d, RD (d + 1) R ∧ CallOK l ad B0 WL T Dg cA d k ml as μ v)
    (hI : rb ≠ 0 → EndI p l e R s m args below meth c cells slots Q cc ad B0 WL Dg cA (Nat.beq rb 2) v) (hV : rb = 0 → EndV p l e R s m args below meth c cells slots Q cc ad B0 WL Dg cA v)
    (hk : chkI own rb cc pc i = true) (h : exT (iop i) T i lc st μ cf K = some v) (hK : ∀ pc' l' st' μ', K pc' l' st' μ' = some v → Sim p l e R s m args below meth c cells slots Q nL ad B0 WL Dg cA pc' l' st' μ') : Sim p l e R s m args below meth c cells slots Q nL ad B0 WL Dg cA pc lc st μ := by
  unfold chkI at hk
  revert hk h
  generalize iop i = o
  intro hk h
  match o, hk, h with
  | 0, hk, h => exact s_const C hk (show e_const T i lc st μ cf K = some v from h) hK
  | 1, hk, h => exact s_lcon C hk (show e_lcon T i lc st μ cf K = some v from h) hK
  | 2, hk, h => exact s_iload C hk (show e_iload T i lc st μ cf K = some v from h) hK
  | 3, hk, h => exact s_aload C hk (show e_aload T i lc st μ cf K = some v from h) hK
  | 4, hk, h => exact s_lload C hk (show e_lload T i lc st μ cf K = some v from h) hK
  | 5, hk, h => exact s_istore C hk (show e_istore T i lc st μ cf K = some v from h) hK
  | 6, hk, h => exact s_astore C hk (show e_astore T i lc st μ cf K = some v from h) hK
  | 7, hk, h => exact s_iinc C hk (show e_iinc T i lc st μ cf K = some v from h) hK
  | 8, hk, h => exact s_bin C hk (show e_bin T i lc st μ cf K = some v from h) hK
  | 9, hk, h => exact s_idiv C hk (show e_idiv T i lc st μ cf K = some v from h) hK
  | 10, hk, h => exact s_irem C hk (show e_irem T i lc st μ cf K = some v from h) hK
  | 11, hk, h => exact s_ineg C hk (show e_ineg T i lc st μ cf K = some v from h) hK
  | 12, hk, h => exact s_i2l C hk (show e_i2l T i lc st μ cf K = some v from h) hK
  | 13, hk, h => exact s_i2b C hk (show e_i2b T i lc st μ cf K = some v from h) hK
  | 14, hk, h => exact s_lcmp C hk (show e_lcmp T i lc st μ cf K = some v from h) hK
  | 15, hk, h => exact s_dup C hk (show e_dup T i lc st μ cf K = some v from h) hK
  | 16, hk, h => exact s_dup2 C hk (show e_dup2 T i lc st μ cf K = some v from h) hK
  | 17, hk, h => exact s_pop C hk (show e_pop T i lc st μ cf K = some v from h) hK
  | 18, hk, h => exact s_getf C hk (show e_getf T i lc st μ cf K = some v from h) hK
  | 19, hk, h => exact s_putf C hk (show e_putf T i lc st μ cf K = some v from h) hK
  | 20, hk, h => exact s_iald C hk (show e_iald T i lc st μ cf K = some v from h) hK
  | 21, hk, h => exact s_bald C hk (show e_bald T i lc st μ cf K = some v from h) hK
  | 22, hk, h => exact s_aald C hk (show e_aald T i lc st μ cf K = some v from h) hK
  | 23, hk, h => exact s_iast C hk (show e_iast T i lc st μ cf K = some v from h) hK
  | 24, hk, h => exact s_bast C hk (show e_bast T i lc st μ cf K = some v from h) hK
  | 25, hk, h => exact s_alen C hk (show e_alen T i lc st μ cf K = some v from h) hK
  | 26, hk, h => exact s_goto C hk (show e_goto T i lc st μ cf K = some v from h) hK
  | 27, hk, h => exact s_if C hk (show e_if T i lc st μ cf K = some v from h) hK
  | 28, hk, h => exact s_icmp C hk (show e_icmp T i lc st μ cf K = some v from h) hK
  | 29, hk, h => exact s_tsw C hk (show e_sw T i lc st μ cf K = some v from h) hK
  | 30, hk, h => exact s_lsw C hk (show e_sw T i lc st μ cf K = some v from h) hK
  | 31, hk, h =>
    have hk : (dI cc pc .ireturn 1 && decide ((rb = 1 ∧ iv i = 0) ∨ (rb = 2 ∧ iv i = 1))) = true := hk
    rw [Bool.and_eq_true, decide_eq_true_eq] at hk
    obtain ⟨h1, h2⟩ := hk
    simp only [dI, decide_eq_true_eq] at h1
    intro ls H locs hl hP hS
    have h : e_iret T i lc st μ cf K = some v := h
    unfold e_iret at h
    split at h
    · rename_i x _ _
      have h := Option.some.inj h
      have e1 : (bif Nat.beq (iv i) 1 then vp_nar .boolean x else x) = v.1 := by rw [← h]
      have e2 : μ = v.2 := by rw [← h]
      subst e2
      rcases h2 with ⟨h2, h3⟩ | ⟨h2, h3⟩
      · rw [h3] at e1
        exact hI (by omega) x pc ls H locs h1 (by rw [h2]; exact e1) hP hS
      · rw [h3] at e1
        exact hI (by omega) x pc ls H locs h1 (by rw [h2]; exact e1) hP hS
    · cases h
  | 32, hk, h =>
    have hk : (dI cc pc .return_ 1 && decide (rb = 0)) = true := hk
    rw [Bool.and_eq_true, decide_eq_true_eq] at hk
    obtain ⟨h1, h2⟩ := hk
    simp only [dI, decide_eq_true_eq] at h1
    intro ls H locs hl hP hS
    have h : e_vret T i lc st μ cf K = some v := h
    unfold e_vret at h
    split at h
    · have h := Option.some.inj h
      have e2 : μ = v.2 := by rw [← h]
      subst e2
      exact hV h2 pc ls H locs h1 hP hS
    · cases h
  | 33, hk, h => exact s_callV C hcs hcf hk (show e_callV T i lc st μ cf K = some v from h) hK
  | 34, hk, h => exact s_callS C hcs hcf hk (show e_callS T i lc st μ cf K = some v from h) hK
  | 35, hk, h => exact s_gets C hk (show e_gets T i lc st μ cf K = some v from h) hK
  | 36, hk, h => exact s_acpy C hR hk (show e_acpy T i lc st μ cf K = some v from h) hK
  | 37, hk, h => exact s_mmax C hR hcs hk (show e_mmax T i lc st μ cf K = some v from h) hK
  | 38, hk, h => exact s_mmin C hR hcs hk (show e_mmin T i lc st μ cf K = some v from h) hK
  | 39, hk, h => exact s_mabs C hR hcs hk (show e_mabs T i lc st μ cf K = some v from h) hK
  | n + 40, hk, h => cases h
theorem den_sound {CO : Nat → Ins} {j : Nat → Lc → Mm → Option Rz} (C : Ctx p s m args c cc nL own ad B0 WL T Dg cA) {d rb : Nat} (hR : RD d R) (hcs : cells ≤ R.cells ∧ slots ≤ R.slots) (hcf : ∀ k ml as μ v, cf k ml as μ = some v → ∃ d, RD (d + 1) R ∧ CallOK l ad B0 WL T Dg cA d k ml as μ v)
    (hI : rb ≠ 0 → EndI p l e R s m args below meth c cells slots Q cc ad B0 WL Dg cA (Nat.beq rb 2) v) (hV : rb = 0 → EndV p l e R s m args below meth c cells slots Q cc ad B0 WL Dg cA v)
    (hk : ∀ pc, chkI own rb cc pc (CO pc) = true) (hj : ∀ pc l' μ', j pc l' μ' = some v → Sim p l e R s m args below meth c cells slots Q nL ad B0 WL Dg cA pc l' [] μ') :
    ∀ (n pc : Nat) (lc : Lc) (st : List AV) (μ : Mm), den CO T cf j n pc lc st μ = some v → Sim p l e R s m args below meth c cells slots Q nL ad B0 WL Dg cA pc lc st μ := by
  intro n
  induction n with
  | zero => intro pc lc st μ h; cases h
  | succ n ih =>
    intro pc lc st μ h
    refine ex_sound C hR hcs hcf hI hV (hk pc) h (fun pc' l' st' μ' h2 => ?_)
    split at h2
    · exact ih pc' l' st' μ' h2
    · split at h2
      · intro ls H locs hl hP hS
        exact hj _ _ _ h2 ls H locs (Lr_mask hl) hP hS
      · cases h2
end MZ
