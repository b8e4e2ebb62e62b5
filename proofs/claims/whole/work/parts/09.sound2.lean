/-! switches, statics, copies, calls, ends; then the whole of a method -/
section MX
variable {p : Program} {l : Launch} {e : Env} {R : Room} {s : State} {m : MethodId} {args : Array Value} {below : List Frame} {meth : Method} {c : Code} {cells slots : Nat} {Q : State → Prop} {nL : Nat} {ad : Ad → Nat} {B0 : Nat} {WL : List Ad} {Dg : va_G} {cA : Nat → ClassId}
variable {cc : ByteArray} {own : String} {T : LT} {i : Ins} {pc : Nat} {lc : Lc} {st : List AV} {μ : Mm} {cf : CC} {K : KK} {v : Rz}
theorem pickK_cases {x : Int32} {k : Nat → Option Rz} {d : Nat} : ∀ {sw : List (Int32 × Nat)}, pickK x sw k d = some v → (∃ (j : Nat) (a : Int32) (t : Nat), sw[j]? = some (a, t) ∧ x = a ∧ k t = some v) ∨ ((∀ (j : Nat) (a : Int32) (t : Nat), sw[j]? = some (a, t) → x ≠ a) ∧ k d = some v) := by
  intro sw
  induction sw with
  | nil => intro h; exact Or.inr ⟨fun j a t q => by simp at q, h⟩
  | cons b r ih =>
    intro h
    obtain ⟨b1, b2⟩ := b
    have h : (if x = b1 then k b2 else pickK x r k d) = some v := h
    by_cases hx : x = b1
    · rw [if_pos hx] at h
      exact Or.inl ⟨0, b1, b2, rfl, hx, h⟩
    · rw [if_neg hx] at h
      rcases ih h with ⟨j, a, t, q1, q2, q3⟩ | ⟨q1, q2⟩
      · exact Or.inl ⟨j + 1, a, t, by simpa using q1, q2, q3⟩
      · refine Or.inr ⟨fun j a t q => ?_, q2⟩
        cases j with
        | zero => simp at q; rw [← q.1]; exact hx
        | succ j => exact q1 j a t (by simpa using q)
def k_tsw (cc : ByteArray) (pc : Nat) (i : Ins) : Bool := match decode cc pc with
  | .ok (.tableswitch dflt lo hi offs, _) => decide ((pc : Int) + dflt = (ix i : Int)) && (decide (hi = lo + ((isw i).length : Int) - 1) && (List.range (isw i).length).all (fun j => match (isw i)[j]?, offs[j]? with
    | some (a, t), some o => decide (a.toInt = lo + (j : Int)) && decide ((pc : Int) + o = (t : Int))
    | _, _ => false))
  | _ => false
theorem s_tsw (C : Ctx p s m args c cc nL own ad B0 WL T Dg cA) (hk : k_tsw cc pc i = true) (h : e_sw T i lc st μ cf K = some v) (hK : ∀ pc' l' st' μ', K pc' l' st' μ' = some v → Sim p l e R s m args below meth c cells slots Q nL ad B0 WL Dg cA pc' l' st' μ') : Sim p l e R s m args below meth c cells slots Q nL ad B0 WL Dg cA pc lc st μ := by
  obtain ⟨hx, hb, hml, hown, hts, hT, hU⟩ := C
  intro ls H locs hl hP hS
  unfold k_tsw at hk
  split at hk
  · rename_i dflt lo hi offs len hdg
    simp only [Bool.and_eq_true, decide_eq_true_eq, List.all_eq_true, List.mem_range] at hk
    obtain ⟨h1, h2, h3⟩ := hk
    have row : ∀ j, j < (isw i).length → ∃ a t o, (isw i)[j]? = some (a, t) ∧ offs[j]? = some o ∧ a.toInt = lo + (j : Int) ∧ (pc : Int) + o = (t : Int) := by
      intro j hj
      have := h3 j hj
      split at this
      · rename_i a t o q1 q2
        simp only [Bool.and_eq_true, decide_eq_true_eq] at this
        exact ⟨a, t, o, q1, q2, this.1, this.2⟩
      · cases this
    unfold e_sw at h
    split at h
    · rename_i x r
      rcases pickK_cases h with ⟨j, a, t, q1, q2, q3⟩ | ⟨q1, q2⟩
      · have hj : j < (isw i).length := (List.getElem?_eq_some_iff.mp q1).1
        obtain ⟨a', t', o, g1, g2, g3, g4⟩ := row j hj
        cases q1.symm.trans g1
        rw [← q2] at g3
        exact lv_tableIn hx hb hdg (by omega) (by omega) (by rw [show (x.toInt - lo).toNat = j by omega]; exact g2) g4 (hK _ _ _ _ q3 ls H locs hl hP hS)
      · refine lv_tableOut hx hb hdg ?_ h1 (hK _ _ _ _ q2 ls H locs hl hP hS)
        by_cases z : x.toInt < lo ∨ hi < x.toInt
        · exact z
        · exfalso
          have hj : (x.toInt - lo).toNat < (isw i).length := by omega
          obtain ⟨a, t, o, g1, g2, g3, g4⟩ := row _ hj
          exact q1 _ a t g1 (Int32.toInt_inj.mp (by omega))
    · cases h
  · cases hk
def k_lsw (cc : ByteArray) (pc : Nat) (i : Ins) : Bool := match decode cc pc with
  | .ok (.lookupswitch dflt ps, _) => (ps.toList.zip (ps.toList.drop 1)).all (fun (a, next) => a.1 < next.1) && (decide ((pc : Int) + dflt = (ix i : Int)) && decide (ps.toList.map (fun q => (q.1, (pc : Int) + q.2)) = (isw i).map (fun q => (q.1.toInt, (q.2 : Int)))))
  | _ => false
theorem lsw_go {x : Int32} {k : Nat → Option Rz} {d pc : Nat} {dflt : Int} (hd : (pc : Int) + dflt = (d : Int)) : ∀ (ps : List (Int × Int)) (sw : List (Int32 × Nat)), ps.map (fun q => (q.1, (pc : Int) + q.2)) = sw.map (fun q => (q.1.toInt, (q.2 : Int))) → pickK x sw k d = some v → ∃ t : Nat, (pc : Int) + Op.lookupswitch.offset ps dflt x.toInt = (t : Int) ∧ k t = some v := by
  intro ps
  induction ps with
  | nil =>
    intro sw he h
    cases sw with
    | nil => exact ⟨d, hd, h⟩
    | cons b r => cases he
  | cons a ps ih =>
    intro sw he h
    cases sw with
    | nil => cases he
    | cons b r =>
      obtain ⟨a1, a2⟩ := a
      obtain ⟨b1, b2⟩ := b
      simp only [List.map_cons, List.cons.injEq, Prod.mk.injEq] at he
      obtain ⟨⟨e1, e2⟩, e3⟩ := he
      have h : (if x = b1 then k b2 else pickK x r k d) = some v := h
      rw [Op.lookupswitch.offset_cons]
      by_cases hx : x = b1
      · rw [if_pos hx] at h
        rw [if_pos (by rw [e1, hx])]
        exact ⟨b2, e2, h⟩
      · rw [if_neg hx] at h
        rw [if_neg (fun z => hx (Int32.toInt_inj.mp (by rw [← z, e1])))]
        exact ih r e3 h
theorem s_lsw (C : Ctx p s m args c cc nL own ad B0 WL T Dg cA) (hk : k_lsw cc pc i = true) (h : e_sw T i lc st μ cf K = some v) (hK : ∀ pc' l' st' μ', K pc' l' st' μ' = some v → Sim p l e R s m args below meth c cells slots Q nL ad B0 WL Dg cA pc' l' st' μ') : Sim p l e R s m args below meth c cells slots Q nL ad B0 WL Dg cA pc lc st μ := by
  obtain ⟨hx, hb, hml, hown, hts, hT, hU⟩ := C
  intro ls H locs hl hP hS
  unfold k_lsw at hk
  split at hk
  · rename_i dflt ps len hdg
    rw [Bool.and_eq_true, Bool.and_eq_true, decide_eq_true_eq, decide_eq_true_eq] at hk
    obtain ⟨h1, h2, h3⟩ := hk
    unfold e_sw at h
    split at h
    · rename_i x r
      obtain ⟨t, g1, g2⟩ := lsw_go h2 _ _ h3 h
      exact lv_lookup hx hb hdg h1 rfl g1 (hK _ _ _ _ g2 ls H locs hl hP hS)
    · cases h
  · cases hk
def k_gets (own : String) (cc : ByteArray) (pc : Nat) (i : Ins) : Bool := dI cc pc (.getstatic (iw i)) 3 && (decide (inx i = pc + 3) && (decide (ix i ≠ 0) && (wOK (ih i) (.fieldLink own (iw i) "RowGuard" (nmS (ix i)) "[I") || wON (ih i) (.fieldLinkNest own (iw i) "RowGuard" (nmS (ix i)) "[I" "RowGuard"))))
theorem s_gets (C : Ctx p s m args c cc nL own ad B0 WL T Dg cA) (hk : k_gets own cc pc i = true) (h : e_gets T i lc st μ cf K = some v) (hK : ∀ pc' l' st' μ', K pc' l' st' μ' = some v → Sim p l e R s m args below meth c cells slots Q nL ad B0 WL Dg cA pc' l' st' μ') : Sim p l e R s m args below meth c cells slots Q nL ad B0 WL Dg cA pc lc st μ := by
  obtain ⟨hx, hb, hml, hown, hts, hT, hU⟩ := C
  intro ls H locs hl hP hS
  simp only [k_gets, dI, Bool.or_eq_true, Bool.and_eq_true, decide_eq_true_eq] at hk
  obtain ⟨h1, h2, h0, h3⟩ := hk
  have hn := hK _ _ _ _ h ls H locs hl hP hS
  rw [h2] at hn
  rcases h3 with h3 | h3
  · exact va_gets hx hb (hU.2.2.2.1 (ix i) h0) hS hown (hts _ (wOK_in h3)) (fun _ h9 => h9) h1 hn
  · exact va_getsN hx hb (hU.2.2.2.1 (ix i) h0) hS hown (va_Nw.use rfl (hU.2.2.2.2 _ (wON_in h3))) (fun _ h9 => h9) h1 hn
theorem catS_sum (ad : Ad → Nat) : ∀ r : List AV, ((r.map (sh ad)).map fun v => v.category).sum = catS r := by
  intro r
  induction r with
  | nil => rfl
  | cons a r ih =>
    rw [List.map_cons, List.map_cons, List.sum_cons, ih]
    rcases a with x | x | x <;> rfl
def RD (d : Nat) (R : Room) : Prop := d + 2 ≤ R.frames ∧ 64 * d + 128 ≤ R.locals
theorem acpy_words : wOK 0 (.initialized "") = wOK 0 (.initialized "") := rfl
def k_acpy (own : String) (cc : ByteArray) (pc : Nat) (i : Ins) : Bool := dI cc pc (.invokestatic (iw i)) 3 && (decide (inx i = pc + 3) && (wOK (ih i) (.methodLink own (iw i) arraycopyName) && (wOK (ix i) (.native arraycopyName) && (wOK (iy i) (.static arraycopyName) && wOK (iv i) (.initialized "java/lang/System")))))
theorem s_acpy (C : Ctx p s m args c cc nL own ad B0 WL T Dg cA) {d : Nat} (hR : RD d R) (hk : k_acpy own cc pc i = true) (h : e_acpy T i lc st μ cf K = some v) (hK : ∀ pc' l' st' μ', K pc' l' st' μ' = some v → Sim p l e R s m args below meth c cells slots Q nL ad B0 WL Dg cA pc' l' st' μ') : Sim p l e R s m args below meth c cells slots Q nL ad B0 WL Dg cA pc lc st μ := by
  obtain ⟨hx, hb, hml, hown, hts, hT, hU⟩ := C
  intro ls H locs hl hP hS
  simp only [k_acpy, dI, Bool.and_eq_true, decide_eq_true_eq] at hk
  obtain ⟨h1, h2, h3, h4, h5, h6⟩ := hk
  unfold e_acpy at h
  split at h
  · rename_i n dp b sp a r
    obtain ⟨h0, h⟩ := bif_some h
    simp only [Bool.and_eq_true] at h0
    obtain ⟨g1, g2, g3, g4⟩ := h0
    obtain ⟨hqa, na, hna, hwa⟩ := row_at (μ := μ) hT (t := 0) (nbeq g1) (by decide)
    obtain ⟨hqb, nb, hnb, hwb⟩ := row_at (μ := μ) hT (t := 0) (nbeq g2) (by decide)
    rw [hqa, hqb] at g4
    simp only [cpyok, decide_eq_true_eq] at g4
    obtain ⟨p1, p2, p3, p4, p5⟩ := g4
    have ng : ∀ z : Int32, 0 ≤ z.toInt → ¬ z < 0 := fun z hz q => by
      have := Int32.lt_iff_toInt_lt.mp q
      simp at this
      omega
    have cl : ∀ z : Int32, 0 ≤ z.toInt → (z.toNatClampNeg : Int) = z.toInt := fun z hz => by
      show ((z.toInt.toNat : Nat) : Int) = _
      omega
    have hset : (wl ad cA WL μ).set nb (ad b, .inl (cA 0, (LAY b).2, .inl (va_cpy (μ a) (μ b) sp.toNatClampNeg dp.toNatClampNeg n.toNatClampNeg))) = wl ad cA WL (mcpy μ a sp.toNatClampNeg b dp.toNatClampNeg n.toNatClampNeg) :=
      wl_set (hT.2.2 μ) hnb (by rw [cE_row (t := 0) (by rw [← hqb]; exact nbeq g2) (by decide), mcpy_eq]) (fun q' hq' => cE_congr (mcpy_ne hq'))
    have c1 := cl sp p1
    have c2 := cl dp p2
    have c3 := cl n p3
    refine va_copyi hx hb (by rw [hml]; exact hl.1.1.symm) hown (hts _ (wOK_in h3)) (hts _ (wOK_in h4)) (hts _ (wOK_in h5)) (hts _ (wOK_in h6)) hU.2.1 hP (hT.2.2 μ) hS na nb 0 0 hwa hwb rfl rfl rfl (ng sp p1) (ng dp p2) (ng n p3) (by omega) (by omega) (fun _ _ => rfl) (by have := hR.1; omega) ?_ h1 fun H1 locs1 a1 a2 a3 => ?_
    · have e1 := catS_sum ad r
      have e2 : catS r ≤ 8 := Nat.le_of_ble_eq_true g3
      have e3 : nativeFrameWords "java/lang/System" "arraycopy" 5 = 7 := by decide +kernel
      rw [e1, e3]
      have := hR.2
      omega
    · rw [hset] at a1
      have := hK _ _ _ _ h ls H1 locs1 hl a1 a3
      rwa [h2] at this
  · cases h
theorem wd_max : Cond.static Lib.Math.max.name ∈ GT ∧ Cond.initialized "java/lang/Math" ∈ GT ∧ Cond.code Lib.Math.max.name Lib.Math.max.code 2 (some .int) ∈ GT := ⟨wOK_in (h := 30036) (by decide +kernel), wOK_in (h := 10014) (by decide +kernel), wOK_in (h := 30037) (by decide +kernel)⟩
def k_mmax (own : String) (cc : ByteArray) (pc : Nat) (i : Ins) : Bool := dI cc pc (.invokestatic (iw i)) 3 && (decide (inx i = pc + 3) && wOK (ih i) (.methodLink own (iw i) Lib.Math.max.name))
theorem s_mmax (C : Ctx p s m args c cc nL own ad B0 WL T Dg cA) {d : Nat} (hR : RD d R) (hcs : cells ≤ R.cells ∧ slots ≤ R.slots) (hk : k_mmax own cc pc i = true) (h : e_mmax T i lc st μ cf K = some v) (hK : ∀ pc' l' st' μ', K pc' l' st' μ' = some v → Sim p l e R s m args below meth c cells slots Q nL ad B0 WL Dg cA pc' l' st' μ') : Sim p l e R s m args below meth c cells slots Q nL ad B0 WL Dg cA pc lc st μ := by
  obtain ⟨hx, hb, hml, hown, hts, hT, hU⟩ := C
  intro ls H locs hl hP hS
  simp only [k_mmax, dI, Bool.and_eq_true, decide_eq_true_eq] at hk
  obtain ⟨h1, h2, h3⟩ := hk
  unfold e_mmax at h
  split at h
  · rename_i y x r
    obtain ⟨h0, h⟩ := bif_some h
    have hn := hK _ _ _ _ h ls H locs hl hP hS
    rw [h2] at hn
    have e1 := catS_sum ad r
    have e2 : catS r ≤ 8 := Nat.le_of_ble_eq_true h0
    exact va_mmax hx hb (by rw [hml]; exact hl.1.1.symm) hown (hts _ (wOK_in h3)) (hts _ wd_max.1) (hts _ wd_max.2.1) (hts _ wd_max.2.2) (by have := hR.1; omega) (by rw [e1]; have := hR.2; omega) hcs.1 hcs.2 h1 hn
  · cases h
theorem wd_min : Cond.static Lib.Math.min.name ∈ GT ∧ Cond.initialized "java/lang/Math" ∈ GT ∧ Cond.code Lib.Math.min.name Lib.Math.min.code 2 (some .int) ∈ GT := ⟨wOK_in (h := 20189) (by decide +kernel), wOK_in (h := 10014) (by decide +kernel), wOK_in (h := 20190) (by decide +kernel)⟩
def k_mmin (own : String) (cc : ByteArray) (pc : Nat) (i : Ins) : Bool := dI cc pc (.invokestatic (iw i)) 3 && (decide (inx i = pc + 3) && wOK (ih i) (.methodLink own (iw i) Lib.Math.min.name))
theorem s_mmin (C : Ctx p s m args c cc nL own ad B0 WL T Dg cA) {d : Nat} (hR : RD d R) (hcs : cells ≤ R.cells ∧ slots ≤ R.slots) (hk : k_mmin own cc pc i = true) (h : e_mmin T i lc st μ cf K = some v) (hK : ∀ pc' l' st' μ', K pc' l' st' μ' = some v → Sim p l e R s m args below meth c cells slots Q nL ad B0 WL Dg cA pc' l' st' μ') : Sim p l e R s m args below meth c cells slots Q nL ad B0 WL Dg cA pc lc st μ := by
  obtain ⟨hx, hb, hml, hown, hts, hT, hU⟩ := C
  intro ls H locs hl hP hS
  simp only [k_mmin, dI, Bool.and_eq_true, decide_eq_true_eq] at hk
  obtain ⟨h1, h2, h3⟩ := hk
  unfold e_mmin at h
  split at h
  · rename_i y x r
    obtain ⟨h0, h⟩ := bif_some h
    have hn := hK _ _ _ _ h ls H locs hl hP hS
    rw [h2] at hn
    have e1 := catS_sum ad r
    have e2 : catS r ≤ 8 := Nat.le_of_ble_eq_true h0
    exact va_mmin hx hb (by rw [hml]; exact hl.1.1.symm) hown (hts _ (wOK_in h3)) (hts _ wd_min.1) (hts _ wd_min.2.1) (hts _ wd_min.2.2) (by have := hR.1; omega) (by rw [e1]; have := hR.2; omega) hcs.1 hcs.2 h1 hn
  · cases h
theorem wd_abs : Cond.static Lib.Math.abs.name ∈ GT ∧ Cond.initialized "java/lang/Math" ∈ GT ∧ Cond.code Lib.Math.abs.name Lib.Math.abs.code 1 (some .int) ∈ GT := ⟨wOK_in (h := 20216) (by decide +kernel), wOK_in (h := 10014) (by decide +kernel), wOK_in (h := 20217) (by decide +kernel)⟩
def k_mabs (own : String) (cc : ByteArray) (pc : Nat) (i : Ins) : Bool := dI cc pc (.invokestatic (iw i)) 3 && (decide (inx i = pc + 3) && wOK (ih i) (.methodLink own (iw i) Lib.Math.abs.name))
theorem s_mabs (C : Ctx p s m args c cc nL own ad B0 WL T Dg cA) {d : Nat} (hR : RD d R) (hcs : cells ≤ R.cells ∧ slots ≤ R.slots) (hk : k_mabs own cc pc i = true) (h : e_mabs T i lc st μ cf K = some v) (hK : ∀ pc' l' st' μ', K pc' l' st' μ' = some v → Sim p l e R s m args below meth c cells slots Q nL ad B0 WL Dg cA pc' l' st' μ') : Sim p l e R s m args below meth c cells slots Q nL ad B0 WL Dg cA pc lc st μ := by
  obtain ⟨hx, hb, hml, hown, hts, hT, hU⟩ := C
  intro ls H locs hl hP hS
  simp only [k_mabs, dI, Bool.and_eq_true, decide_eq_true_eq] at hk
  obtain ⟨h1, h2, h3⟩ := hk
  unfold e_mabs at h
  split at h
  · rename_i x r
    obtain ⟨h0, h⟩ := bif_some h
    have hn := hK _ _ _ _ h ls H locs hl hP hS
    rw [h2] at hn
    have e1 := catS_sum ad r
    have e2 : catS r ≤ 8 := Nat.le_of_ble_eq_true h0
    exact va_mabs hx hb (by rw [hml]; exact hl.1.1.symm) hown (hts _ (wOK_in h3)) (hts _ wd_abs.1) (hts _ wd_abs.2.1) (hts _ wd_abs.2.2) (by have := hR.1; omega) (by rw [e1]; have := hR.2; omega) hcs.1 hcs.2 h1 hn
  · cases h
/-- a method's start and end -/
def mxPc (ad : Ad → Nat) (B0 : Nat) (WL : List Ad) (T : LT) (Dg : va_G) (cA : Nat → ClassId) (as : List AV) (μ : Mm) : Array Value → State → Prop :=
  va_Pc (as.map (sh ad)) (fun U => va_P Dg vwCl (wl ad cA WL μ) U.heap ∧ Ust ad B0 T Dg cA U)
def mxQ (ad : Ad → Nat) (B0 : Nat) (WL : List Ad) (Dg : va_G) (cA : Nat → ClassId) (rt : Option FieldType) (v : Rz) : Array Value → State → Outcome → State → Prop := match rt with
  | none => va_Qv (fun _ : Unit => True) (fun _ t => va_P Dg vwCl (wl ad cA WL v.2) t.heap) (fun q => B0 ≤ q)
  | some _ => va_Qi (fun (r : Int32) (_ : Unit) => r = v.1) (fun _ t => va_P Dg vwCl (wl ad cA WL v.2) t.heap) (fun q => B0 ≤ q)
def rmD (d : Nat) : Room := { frames := d + 2, cells := 0, slots := 0, locals := 64 * d + 128 }
def CallOK (l : Launch) (ad : Ad → Nat) (B0 : Nat) (WL : List Ad) (T : LT) (Dg : va_G) (cA : Nat → ClassId) (d k : Nat) (ml : Nat) (as : List AV) (μ : Mm) (v : Rz) : Prop :=
  ∀ y b rt stc ci hs, MTab[k]? = some (y, b, ml, rt, stc, ci, hs) → Met l y (.code y b ml rt :: GT) (rmD d) (mxPc ad B0 WL T Dg cA as μ) (mxQ ad B0 WL Dg cA rt v) 0 0 (fun q => B0 ≤ q)
theorem me_facts {k : Nat} {y : MethodName} {b : ByteArray} {ml : Nat} {rt : Option FieldType} {stc : Bool} {ci : Nat} {hs : List Nat} (h : MTab[k]? = some (y, b, ml, rt, stc, ci, hs)) :
    plainName y.cls = true ∧ ml ≤ 45 ∧ Cond.code y b ml rt ∈ GT ∧ Cond.initialized y.cls ∈ GT ∧ (y.cls ≠ "java/lang/invoke/MethodHandle" ∧ y.cls ≠ "java/lang/invoke/VarHandle") ∧ (bif stc then wOK (hs.getD 2 0) (.static y) else wOK (hs.getD 2 0) (.instanceMethod y) && (wOK (hs.getD 3 0) (.selects y.cls y y) && decide ((vwCl[ci]?).map (fun q => q.1) = some y.cls))) = true := by
  have h1 := MTab_ok _ (List.mem_of_getElem? h)
  simp only [okME, Bool.and_eq_true, decide_eq_true_eq] at h1
  obtain ⟨h1, h2, h3, h4, h5, h6⟩ := h1
  exact ⟨h1, h2, wOK_in h3, wOK_in h4, h5, h6⟩
theorem GT_in {y : MethodName} {b : ByteArray} {ml : Nat} {rt : Option FieldType} (h : Cond.code y b ml rt ∈ GT) : GoodIn GT (.code y b ml rt :: GT) := fun w hw => by
  rcases List.mem_cons.mp hw with rfl | hw
  · exact ⟨h, GT_good h⟩
  · exact ⟨hw, GT_good hw⟩
theorem mxPc_blind {as : List AV} : FrameBlind (mxPc ad B0 WL T Dg cA as μ) := fun a U g mk q => ⟨q.1, q.2.1, q.2.2.blind⟩
def retOK (i : Ins) (rt : Option FieldType) : Bool := match rt with
  | none => decide (iv i = 0)
  | some _ => decide (iv i = 1)
def k_callV (own : String) (cc : ByteArray) (pc : Nat) (i : Ins) : Bool := match MTab[ix i]? with
  | some (y, b, ml, rt, stc, ci, hs) => dI cc pc (.invokevirtual (iw i)) 3 && (decide (inx i = pc + 3) && (decide (stc = false) && (decide (ims i = ml) && (decide (icl i = ci) && (retOK i rt && (decide ((parseMethodDescriptor y.desc).map (fun d => d.parameters.length) = some (iy i)) && (wOK (ih i) (.methodLink own (iw i) y) || wON (ih i) (.methodLinkNest own (iw i) y "RowGuard"))))))))
  | none => false
theorem s_back {rt : Option FieldType} {pr : Rz} {ls : Array Slot} {H : Heap} {locs : List Loc} {r : List AV} {st0 : List Value} {a : Array Value} (hl : Lr ad nL lc ls) (hS : va_S (fun q => B0 ≤ q) s.heap H locs) (hret : retOK i rt = true)
    (hrun : va_Run p l e R s m args below meth c H locs cells slots 0 0 (F0 m pc ls st0) (r.map (sh ad)) (mxQ ad B0 WL Dg cA rt pr a) (fun q => B0 ≤ q))
    (hgo : Sim p l e R s m args below meth c cells slots Q nL ad B0 WL Dg cA (pc + 3) lc (bif Nat.beq (iv i) 1 then vI pr.1 :: r else r) pr.2) : W p l e R s m args below meth c H locs cells slots Q (F0 m pc ls st0) := by
  cases rt with
  | none =>
    have hi : iv i = 0 := by simpa [retOK] using hret
    rw [hi] at hgo
    exact va_callv (a := a) hrun hS (fun _ _ h => h) (fun _ h => h) (fun u t H1 locs1 ht hvm hw hB hz hk hS1 => hgo ls H1 locs1 hl (by rw [← ht]; exact hB) hS1)
  | some ty =>
    have hi : iv i = 1 := by simpa [retOK] using hret
    rw [hi] at hgo
    exact va_calli (a := a) hrun hS (fun _ _ h => h) (fun _ h => h) (fun r1 u t H1 locs1 ht hvm hw hB hz hk hS1 => by
      subst hw
      exact hgo ls H1 locs1 hl (by rw [← ht]; exact hB) hS1)
end MX
section MY
variable {p : Program} {l : Launch} {e : Env} {R : Room} {s : State} {m : MethodId} {args : Array Value} {below : List Frame} {meth : Method} {c : Code} {cells slots : Nat} {Q : State → Prop} {nL : Nat} {ad : Ad → Nat} {B0 : Nat} {WL : List Ad} {Dg : va_G} {cA : Nat → ClassId}
variable {cc : ByteArray} {own : String} {T : LT} {i : Ins} {pc : Nat} {lc : Lc} {st : List AV} {μ : Mm} {cf : CC} {K : KK} {v : Rz}
theorem drop_split {st : List AV} {n : Nat} {a : AV} {r : List AV} (h : st.drop n = a :: r) : st = st.take n ++ a :: r ∧ (st.take n).length = n := by
  refine ⟨by rw [← h, List.take_append_drop], ?_⟩
  rw [List.length_take]
  have h1 : (st.drop n).length = r.length + 1 := by rw [h]; rfl
  rw [List.length_drop] at h1
  omega
theorem s_callV (C : Ctx p s m args c cc nL own ad B0 WL T Dg cA) (hcs : cells ≤ R.cells ∧ slots ≤ R.slots) (hcf : ∀ k ml as μ v, cf k ml as μ = some v → ∃ d, RD (d + 1) R ∧ CallOK l ad B0 WL T Dg cA d k ml as μ v) (hk : k_callV own cc pc i = true) (h : e_callV T i lc st μ cf K = some v) (hK : ∀ pc' l' st' μ', K pc' l' st' μ' = some v → Sim p l e R s m args below meth c cells slots Q nL ad B0 WL Dg cA pc' l' st' μ') : Sim p l e R s m args below meth c cells slots Q nL ad B0 WL Dg cA pc lc st μ := by
  have C0 := C
  obtain ⟨hx, hb, hml, hown, hts, hT, hU⟩ := C
  intro ls H locs hl hP hS
  unfold k_callV at hk
  split at hk
  · rename_i y b ml rt stc ci hs hmt
    simp only [dI, Bool.or_eq_true, Bool.and_eq_true, decide_eq_true_eq] at hk
    obtain ⟨h1, h2, h3, h4, h5, h6, h7, h8⟩ := hk
    obtain ⟨f1, f2, f3, f4, f5, f6⟩ := me_facts hmt
    subst h3
    simp only [cond_false, Bool.and_eq_true, decide_eq_true_eq] at f6
    obtain ⟨f6, f7, f8⟩ := f6
    unfold e_callV at h
    split at h
    · rename_i q r hd
      obtain ⟨h0, h⟩ := bif_some h
      simp only [Bool.and_eq_true] at h0
      obtain ⟨g1, g2⟩ := h0
      obtain ⟨pr, hp, hgo⟩ := Option.bind_eq_some_iff.mp h
      obtain ⟨d, hR, hM⟩ := hcf _ _ _ _ _ hp
      rw [h4] at hM
      have hM := hM _ _ _ _ _ _ hmt
      have hgo := hK _ _ _ _ hgo
      rw [h2] at hgo
      obtain ⟨e1, e2⟩ := drop_split hd
      have g1 := nbeq g1
      rw [h5] at g1
      obtain ⟨q9, hq9, hqc⟩ : ∃ q9, vwCl[ci]? = some q9 ∧ q9.1 = y.cls := by
        cases hz : vwCl[ci]? with
        | none => rw [hz] at f8; cases f8
        | some q9 => rw [hz] at f8; exact ⟨q9, rfl, Option.some.inj f8⟩
      have hci := (mx_ty (C := q9.1) (Tf := q9.2.1) (N := q9.2.2) hq9).2.2
      obtain ⟨hq1, hq2⟩ := hT.1 q (by omega)
      obtain ⟨n, hn⟩ := List.getElem?_of_mem hq2
      have hw := wl_get (ad := ad) (cA := cA) (μ := μ) hn
      rw [hq1] at g1
      rw [cE_obj (by omega), g1] at hw
      have hrec := va_recv hU.2.1 hP hq9 hw
      rw [hqc] at hrec
      have hpre : PreV s H y.cls (ad q) (mxPc ad B0 WL T Dg cA (vR q :: (st.take (iy i)).reverse) μ) ((st.take (iy i)).reverse.map (sh ad)) :=
        ⟨mxPc_blind, hrec, fun U hU1 hW => ⟨rfl, by rw [hU1]; exact hP, hU.move hT hS hU1 hW⟩⟩
      have hst : (F0 m pc ls (st.map (sh ad))).stack = ((st.take (iy i)).reverse.map (sh ad)).reverse ++ .ref (ad q) :: r.map (sh ad) := by
        show st.map (sh ad) = _
        rw [List.map_reverse, List.reverse_reverse]
        conv => lhs; rw [e1]
        rw [List.map_append]
        rfl
      have hlen : ((st.take (iy i)).reverse.map (sh ad)).length = iy i := by rw [List.length_map, List.length_reverse, e2]
      have hroom : 2 * (F0 m pc ls (st.map (sh ad))).monitorRoom + ((r.map (sh ad)).map fun v => v.category).sum ≤ 8 := lv_room (by rw [catS_sum]; exact Nat.le_of_ble_eq_true g2)
      have hRR : (rmD d).frames + 1 ≤ R.frames ∧ 8 + (ml + 11) + (rmD d).locals ≤ R.locals := by
        refine ⟨hR.1, ?_⟩
        have := hR.2
        show 8 + (ml + 11) + (64 * d + 128) ≤ R.locals
        omega
      refine s_back (i := i) (pr := pr) (rt := rt) (a := (Value.ref (ad q) :: (st.take (iy i)).reverse.map (sh ad)).toArray) hl hS h6 ?_ hgo
      rcases h8 with h8 | h8
      · have hG : GoodIn GT (wsV own (iw i) y.cls y (.code y b ml rt :: GT)) := fun w hw1 => by
          rcases List.mem_append.mp hw1 with z | z
          · simp only [List.mem_cons, List.not_mem_nil, or_false] at z
            rcases z with rfl | rfl | rfl | rfl
            · exact ⟨wOK_in h8, GT_good (wOK_in h8)⟩
            · exact ⟨wOK_in f6, GT_good (wOK_in f6)⟩
            · exact ⟨wOK_in f7, GT_good (wOK_in f7)⟩
            · exact ⟨f4, GT_good f4⟩
          · exact GT_in f3 w z
        exact va_runV (C := y.cls) ⟨hx, hb, hml, hown, hts⟩ hM (cwV (iy i) hts hG rfl rfl rfl ⟨rfl, f5.1, f5.2, h7⟩ hRR) hpre rfl hlen hl.1.1 hst hroom h1 hcs
      · have hcw := va_cnB (own := own) (host := "RowGuard") (index := iw i) (iy i) hts (GT_in f3) rfl rfl rfl (hU.2.2.2.2 _ (wON_in h8)) (hts _ f4) ⟨f5.1, f5.2, h7⟩ hRR
        exact va_runVN (C := y.cls) ⟨hx, hb, hml, hown, hts⟩ hM ⟨hcw, hts _ (wOK_in f6), hts _ (wOK_in f7)⟩ hpre rfl hlen hl.1.1 hst hroom h1 hcs
    · cases h
  · cases hk
def k_callS (own : String) (cc : ByteArray) (pc : Nat) (i : Ins) : Bool := match MTab[ix i]? with
  | some (y, b, ml, rt, stc, ci, hs) => dI cc pc (.invokestatic (iw i)) 3 && (decide (inx i = pc + 3) && (decide (stc = true) && (decide (ims i = ml) && (retOK i rt && (decide ((parseMethodDescriptor y.desc).map (fun d => d.parameters.length) = some (iy i)) && wOK (ih i) (.methodLink own (iw i) y))))))
  | none => false
theorem s_callS (C : Ctx p s m args c cc nL own ad B0 WL T Dg cA) (hcs : cells ≤ R.cells ∧ slots ≤ R.slots) (hcf : ∀ k ml as μ v, cf k ml as μ = some v → ∃ d, RD (d + 1) R ∧ CallOK l ad B0 WL T Dg cA d k ml as μ v) (hk : k_callS own cc pc i = true) (h : e_callS T i lc st μ cf K = some v) (hK : ∀ pc' l' st' μ', K pc' l' st' μ' = some v → Sim p l e R s m args below meth c cells slots Q nL ad B0 WL Dg cA pc' l' st' μ') : Sim p l e R s m args below meth c cells slots Q nL ad B0 WL Dg cA pc lc st μ := by
  obtain ⟨hx, hb, hml, hown, hts, hT, hU⟩ := C
  intro ls H locs hl hP hS
  unfold k_callS at hk
  split at hk
  · rename_i y b ml rt stc ci hs hmt
    simp only [dI, Bool.and_eq_true, decide_eq_true_eq] at hk
    obtain ⟨h1, h2, h3, h4, h6, h7, h8⟩ := hk
    obtain ⟨f1, f2, f3, f4, f5, f6⟩ := me_facts hmt
    subst h3
    have f6 : wOK (hs.getD 2 0) (.static y) = true := f6
    unfold e_callS at h
    obtain ⟨h0, h⟩ := bif_some h
    simp only [Bool.and_eq_true] at h0
    obtain ⟨g1, g2⟩ := h0
    have g1 : iy i ≤ st.length := Nat.le_of_ble_eq_true g1
    obtain ⟨pr, hp, hgo⟩ := Option.bind_eq_some_iff.mp h
    obtain ⟨d, hR, hM⟩ := hcf _ _ _ _ _ hp
    rw [h4] at hM
    have hM := hM _ _ _ _ _ _ hmt
    have hgo := hK _ _ _ _ hgo
    rw [h2] at hgo
    have hpre : PreS s H (mxPc ad B0 WL T Dg cA (st.take (iy i)).reverse μ) ((st.take (iy i)).reverse.map (sh ad)) :=
      ⟨mxPc_blind, fun U hU1 hW => ⟨rfl, by rw [hU1]; exact hP, hU.move hT hS hU1 hW⟩⟩
    have hst : (F0 m pc ls (st.map (sh ad))).stack = ((st.take (iy i)).reverse.map (sh ad)).reverse ++ (st.drop (iy i)).map (sh ad) := by
      show st.map (sh ad) = _
      rw [List.map_reverse, List.reverse_reverse, ← List.map_append, List.take_append_drop]
    have hlen : ((st.take (iy i)).reverse.map (sh ad)).length = iy i := by rw [List.length_map, List.length_reverse, List.length_take]; omega
    have hroom : 2 * (F0 m pc ls (st.map (sh ad))).monitorRoom + (((st.drop (iy i)).map (sh ad)).map fun v => v.category).sum ≤ 8 := lv_room (by rw [catS_sum]; exact Nat.le_of_ble_eq_true g2)
    have hRR : (rmD d).frames + 1 ≤ R.frames ∧ 8 + (ml + 11) + (rmD d).locals ≤ R.locals := by
      refine ⟨hR.1, ?_⟩
      have := hR.2
      show 8 + (ml + 11) + (64 * d + 128) ≤ R.locals
      omega
    refine s_back (i := i) (pr := pr) (rt := rt) (a := ((st.take (iy i)).reverse.map (sh ad)).toArray) hl hS h6 ?_ hgo
    have hG : GoodIn GT (va_wsS own (iw i) y (.code y b ml rt :: GT)) := fun w hw1 => by
      rcases List.mem_append.mp hw1 with z | z
      · simp only [List.mem_cons, List.not_mem_nil, or_false] at z
        rcases z with rfl | rfl | rfl
        · exact ⟨wOK_in h8, GT_good (wOK_in h8)⟩
        · exact ⟨wOK_in f6, GT_good (wOK_in f6)⟩
        · exact ⟨f4, GT_good f4⟩
      · exact GT_in f3 w z
    exact va_runS ⟨hx, hb, hml, hown, hts⟩ hM (va_cwS (iy i) hts hG rfl rfl rfl ⟨f5.1, f5.2, h7⟩ hRR) hpre rfl hlen hl.1.1 hst hroom h1 hcs
  · cases hk
end MY
