/-! the law's own run -/
theorem chunk {a n pc : Nat} (h : (List.range n).all (fun k => PL (a + k)) = true) (h1 : a ≤ pc) (h2 : pc < a + n) : PL pc = true := by
  have h3 := List.all_eq_true.mp h (pc - a) (List.mem_range.mpr (by omega))
  have e : a + (pc - a) = pc := by omega
  rw [e] at h3
  exact h3
theorem K227 (pc : Nat) : PL pc = true :=
  if hz : pc < 1404 then (if h702 : pc < 702 then (if h324 : pc < 324 then (if h162 : pc < 162 then (if h54 : pc < 54 then chunk KL0 (by omega) (by omega) else (if h108 : pc < 108 then chunk KL54 (by omega) (by omega) else chunk KL108 (by omega) (by omega))) else (if h216 : pc < 216 then chunk KL162 (by omega) (by omega) else (if h270 : pc < 270 then chunk KL216 (by omega) (by omega) else chunk KL270 (by omega) (by omega)))) else (if h486 : pc < 486 then (if h378 : pc < 378 then chunk KL324 (by omega) (by omega) else (if h432 : pc < 432 then chunk KL378 (by omega) (by omega) else chunk KL432 (by omega) (by omega))) else (if h594 : pc < 594 then (if h540 : pc < 540 then chunk KL486 (by omega) (by omega) else chunk KL540 (by omega) (by omega)) else (if h648 : pc < 648 then chunk KL594 (by omega) (by omega) else chunk KL648 (by omega) (by omega))))) else (if h1026 : pc < 1026 then (if h864 : pc < 864 then (if h756 : pc < 756 then chunk KL702 (by omega) (by omega) else (if h810 : pc < 810 then chunk KL756 (by omega) (by omega) else chunk KL810 (by omega) (by omega))) else (if h918 : pc < 918 then chunk KL864 (by omega) (by omega) else (if h972 : pc < 972 then chunk KL918 (by omega) (by omega) else chunk KL972 (by omega) (by omega)))) else (if h1188 : pc < 1188 then (if h1080 : pc < 1080 then chunk KL1026 (by omega) (by omega) else (if h1134 : pc < 1134 then chunk KL1080 (by omega) (by omega) else chunk KL1134 (by omega) (by omega))) else (if h1296 : pc < 1296 then (if h1242 : pc < 1242 then chunk KL1188 (by omega) (by omega) else chunk KL1242 (by omega) (by omega)) else (if h1350 : pc < 1350 then chunk KL1296 (by omega) (by omega) else chunk KL1350 (by omega) (by omega)))))) else by
    have h : C227 pc = badI := by
      unfold C227 wrapI
      rw [show Nat.ble 1404 pc = true from Nat.ble_eq_true_of_le (by omega)]
      rfl
    unfold PL
    rw [h]
    rfl
theorem DF_law {l : Launch} {ad : Ad → Nat} {B0 : Nat} {WL : List Ad} {T : LT} {Dg : va_G} {cA : Nat → ClassId} (hST : Stc ad cA B0 T WL) :
    ∀ (F d : Nat) (p : Program) (e : Env) (R : Room) (s : State) (m : MethodId) (args : Array Value) (below : List Frame) (meth : Method) (c : Code) (cells slots : Nat) (Q : State → Prop) (v : Rz),
        Ctx p s m args c code 4 "RowGuardLaw" ad B0 WL T Dg cA → RD d R → (cells ≤ R.cells ∧ slots ≤ R.slots) → EndI p l e R s m args below meth c cells slots Q code ad B0 WL Dg cA true v →
        ∀ (pc : Nat) (lc : Lc) (μ : Mm), DF CODE T F d 227 pc lc μ = some v → Sim p l e R s m args below meth c cells slots Q 4 ad B0 WL Dg cA pc lc [] μ := by
  intro F
  induction F with
  | zero => intro d p e R s m args below meth c cells slots Q v _ _ _ _ pc lc μ h; rw [DF_zero] at h; cases h
  | succ F ih =>
    intro d p e R s m args below meth c cells slots Q v C hR hcs hI pc lc μ h
    rw [DF_succ] at h
    refine den_sound (rb := 2) C hR hcs (fun k' ml' as' μ' v' h' => ?_) (fun _ => hI) (fun h => absurd h (by decide)) (show ∀ pc, chkI "RowGuardLaw" 2 code pc (CODE 227 pc) = true from K227) (fun pc' l' μ' h' => ih d p e R s m args below meth c cells slots Q v C hR hcs hI pc' l' μ' h') _ pc lc [] μ h
    cases d with
    | zero => cases h'
    | succ d =>
      have h' : (bif Nat.ble (lcs as').length ml' then DF CODE T F d k' 0 (padL ml' (lcs as')) μ' else none) = some v' := h'
      obtain ⟨h1, h2⟩ := bif_some h'
      exact ⟨d, hR, (DF_met code_ok (l := l) (Dg := Dg) hST F).1 d k' ml' as' μ' v' (Nat.le_of_ble_eq_true h1) h2⟩
theorem D_weak {A B : Nat → Prop} {ws : va_W} (h : va_D A ws) (hq : ∀ q, A q → B q) : va_D B ws := ⟨h.1, fun k q hk => hq _ (h.2 k q hk)⟩
