/-! fields, rows, branches, calls, ends -/
section MX
variable {p : Program} {l : Launch} {e : Env} {R : Room} {s : State} {m : MethodId} {args : Array Value} {below : List Frame} {meth : Method} {c : Code} {cells slots : Nat} {Q : State → Prop} {nL : Nat} {ad : Ad → Nat} {B0 : Nat} {WL : List Ad} {Dg : va_G} {cA : Nat → ClassId}
variable {cc : ByteArray} {own : String} {T : LT} {i : Ins} {pc : Nat} {lc : Lc} {st : List AV} {μ : Mm} {cf : CC} {K : KK} {v : Rz}
theorem nbeq {a b : Nat} (h : Nat.beq a b = true) : a = b := Nat.eq_of_beq_eq_true h
def k_getf (own : String) (cc : ByteArray) (pc : Nat) (i : Ins) : Bool := match vwCl[ix i]? with
  | some (C, Tf, N) => dI cc pc (.getfield (iw i)) 3 && (decide (inx i = pc + 3) && (decide (iy i < N) && (wOK (ih i) (.fieldLink own (iw i) (Tf (iy i)).1 (Tf (iy i)).2.1 (Tf (iy i)).2.2.1) || wON (ih i) (.fieldLinkNest own (iw i) (Tf (iy i)).1 (Tf (iy i)).2.1 (Tf (iy i)).2.2.1 "RowGuard"))))
  | none => false
theorem s_getf (C : Ctx p s m args c cc nL own ad B0 WL T Dg cA) (hk : k_getf own cc pc i = true) (h : e_getf T i lc st μ cf K = some v) (hK : ∀ pc' l' st' μ', K pc' l' st' μ' = some v → Sim p l e R s m args below meth c cells slots Q nL ad B0 WL Dg cA pc' l' st' μ') : Sim p l e R s m args below meth c cells slots Q nL ad B0 WL Dg cA pc lc st μ := by
  obtain ⟨hx, hb, hml, hown, hts, hT, hU⟩ := C
  intro ls H locs hl hP hS
  unfold e_getf at h
  split at h
  · rename_i q r
    obtain ⟨h0, h⟩ := bif_some h
    simp only [Bool.and_eq_true] at h0
    obtain ⟨h0a, h0b⟩ := h0
    have h0a := nbeq h0a
    have h0b : iy i < (T.1 q).2 := Nat.le_of_ble_eq_true h0b
    unfold k_getf at hk
    split at hk
    · rename_i Cn Tf N hc
      simp only [dI, Bool.or_eq_true, Bool.and_eq_true, decide_eq_true_eq] at hk
      obtain ⟨h1, h2, h3, h4⟩ := hk
      have hci := (mx_ty hc).2.2
      obtain ⟨hq1, hq2⟩ := hT.1 q (by omega)
      rw [hq1] at h0a h0b
      obtain ⟨n, hn⟩ := List.getElem?_of_mem hq2
      have hw := wl_get (ad := ad) (cA := cA) (μ := μ) hn
      rw [cE_obj (by omega), h0a] at hw
      have hf := fsv_get (ad := ad) (μ := μ) h0b
      rw [h0a] at hf
      have hgo := hK _ _ _ _ h ls H locs hl hP hS
      have hval : sh ad (bif Nat.beq (FK (ix i) (iy i)) 2 then vR (RF q (iy i)) else vI (μ q (iy i))) = (bif Nat.beq (FK (ix i) (iy i)) 2 then Value.ref (ad (RF q (iy i))) else .int (μ q (iy i))) := by
        cases Nat.beq (FK (ix i) (iy i)) 2 <;> rfl
      rw [List.map_cons, hval, h2] at hgo
      rcases h4 with h4 | h4
      · exact va_get (D := Dg) (ci := ix i) hx hb hts (mx_in hc) hown hU.2.1 hP n hw hc (iy i) h3 (hts _ (wOK_in h4)) (fun _ h9 => h9) hf h1 hgo
      · exact va_getN (D := Dg) (ci := ix i) hx hb hts (mx_in hc) hown hU.2.1 hP n hw hc (iy i) h3 (va_Nw.use rfl (hU.2.2.2.2 _ (wON_in h4))) (fun _ h9 => h9) hf h1 hgo
    · cases hk
  · cases h
def k_putf (own : String) (cc : ByteArray) (pc : Nat) (i : Ins) : Bool := match vwCl[ix i]? with
  | some (C, Tf, N) => dI cc pc (.putfield (iw i)) 3 && (decide (inx i = pc + 3) && (decide (iy i < N) && (decide ((Tf (iy i)).2.2.2 = false) && (decide (parseFieldDescriptor (Tf (iy i)).2.2.1 = some (bif Nat.beq (FK (ix i) (iy i)) 0 then .int else .boolean)) && (wOK (ih i) (.fieldLink own (iw i) (Tf (iy i)).1 (Tf (iy i)).2.1 (Tf (iy i)).2.2.1) || wON (ih i) (.fieldLinkNest own (iw i) (Tf (iy i)).1 (Tf (iy i)).2.1 (Tf (iy i)).2.2.1 "RowGuard"))))))
  | none => false
theorem pok_ty {n : Nat} {x : Int32} (h : pok n x = true) : narrow (bif Nat.beq n 0 then .int else .boolean) (.int x) = .int x ∧ fits (bif Nat.beq n 0 then .int else .boolean) (.int x) = true ∧ n ≠ 2 := by
  match n, h with
  | 0, _ => exact ⟨rfl, rfl, by decide⟩
  | 1, h =>
    simp only [pok, Bool.or_eq_true, beq_iff_eq] at h
    rcases h with rfl | rfl
    · exact ⟨by decide, by decide, by decide⟩
    · exact ⟨by decide, by decide, by decide⟩
  | n + 2, h => cases h
theorem s_putf (C : Ctx p s m args c cc nL own ad B0 WL T Dg cA) (hk : k_putf own cc pc i = true) (h : e_putf T i lc st μ cf K = some v) (hK : ∀ pc' l' st' μ', K pc' l' st' μ' = some v → Sim p l e R s m args below meth c cells slots Q nL ad B0 WL Dg cA pc' l' st' μ') : Sim p l e R s m args below meth c cells slots Q nL ad B0 WL Dg cA pc lc st μ := by
  obtain ⟨hx, hb, hml, hown, hts, hT, hU⟩ := C
  intro ls H locs hl hP hS
  unfold e_putf at h
  split at h
  · rename_i x q r
    obtain ⟨h0, h⟩ := bif_some h
    simp only [Bool.and_eq_true] at h0
    obtain ⟨h0a, h0b, h0c⟩ := h0
    have h0a := nbeq h0a
    have h0b : iy i < (T.1 q).2 := Nat.le_of_ble_eq_true h0b
    obtain ⟨g1, g2, g3⟩ := pok_ty h0c
    unfold k_putf at hk
    split at hk
    · rename_i Cn Tf N hc
      simp only [dI, Bool.or_eq_true, Bool.and_eq_true, decide_eq_true_eq] at hk
      obtain ⟨h1, h2, h3, h4, h5, h6⟩ := hk
      obtain ⟨hty, hnm, hci⟩ := mx_ty hc
      obtain ⟨hq1, hq2⟩ := hT.1 q (by omega)
      rw [hq1] at h0a h0b
      obtain ⟨n, hn⟩ := List.getElem?_of_mem hq2
      have hw := wl_get (ad := ad) (cA := cA) (μ := μ) hn
      rw [cE_obj (by omega), h0a] at hw
      have hset : (wl ad cA WL μ).set n (ad q, .inr (ix i, (fsv ad q μ).set (iy i) (.int x))) = wl ad cA WL (mset μ q (iy i) x) :=
        wl_set (hT.2.2 μ) hn (by rw [cE_obj (by omega), h0a, fsv_set h0b (by rw [h0a]; exact g3)]) (fun q' hq' => cE_congr (mset_ne hq'))
      have hlen : iy i < (fsv ad q μ).length := by simpa [fsv] using h0b
      have go : ∀ (H1 : Heap) (locs1 : List Loc), va_P Dg vwCl ((wl ad cA WL μ).set n (ad q, .inr (ix i, (fsv ad q μ).set (iy i) (.int x)))) H1 → va_D (fun q => B0 ≤ q) ((wl ad cA WL μ).set n (ad q, .inr (ix i, (fsv ad q μ).set (iy i) (.int x)))) → va_S (fun q => B0 ≤ q) s.heap H1 locs1 → W p l e R s m args below meth c H1 locs1 cells slots Q (F0 m (pc + 3) ls (r.map (sh ad))) := by
        intro H1 locs1 a1 a2 a3
        rw [hset] at a1
        have := hK _ _ _ _ h ls H1 locs1 hl a1 a3
        rwa [h2] at this
      rcases h6 with h6 | h6
      · exact va_put (D := Dg) (ci := ix i) hx hb hts (mx_in hc) (mxT (ix i)) hty hnm hown hU.2.1 hP (hT.2.2 μ) hS n hw hc (iy i) h3 (hts _ (wOK_in h6)) (fun _ h9 => h9) h4 h5 g1 g2 hlen h1 go
      · exact va_putN (D := Dg) (ci := ix i) hx hb hts (mx_in hc) (mxT (ix i)) hty hnm hown hU.2.1 hP (hT.2.2 μ) hS n hw hc (iy i) h3 (va_Nw.use rfl (hU.2.2.2.2 _ (wON_in h6))) (fun _ h9 => h9) h4 h5 g1 g2 hlen h1 go
    · cases hk
  · cases h
theorem row_at (hT : Stc ad cA B0 T WL) {q : Ad} {t : Nat} (h : (T.1 q).1 = 100 + t) (ht : t < 3) : T.1 q = LAY q ∧ ∃ n : Nat, WL[n]? = some q ∧ (wl ad cA WL μ)[n]? = some (ad q, (Sum.inl (cA t, (LAY q).2, Sum.inl (μ q)) : va_E)) := by
  obtain ⟨hq1, hq2⟩ := hT.1 q (by omega)
  obtain ⟨n, hn⟩ := List.getElem?_of_mem hq2
  have hw := wl_get (ad := ad) (cA := cA) (μ := μ) hn
  rw [cE_row (by rw [← hq1]; exact h) ht] at hw
  exact ⟨hq1, n, hn, hw⟩
theorem s_iald (C : Ctx p s m args c cc nL own ad B0 WL T Dg cA) (hk : k_ins .iaload cc pc i = true) (h : e_iald T i lc st μ cf K = some v) (hK : ∀ pc' l' st' μ', K pc' l' st' μ' = some v → Sim p l e R s m args below meth c cells slots Q nL ad B0 WL Dg cA pc' l' st' μ') : Sim p l e R s m args below meth c cells slots Q nL ad B0 WL Dg cA pc lc st μ := by
  obtain ⟨hx, hb, hml, hown, hts, hT, hU⟩ := C
  obtain ⟨h1, h2⟩ := k_ins_ok hk
  intro ls H locs hl hP hS
  unfold e_iald at h
  split at h
  · rename_i j q r
    cases ht : Nat.beq (T.1 q).1 100 with
    | true =>
      rw [ht] at h
      obtain ⟨h0, h⟩ := bif_some (show (bif inb j (T.1 q).2 then K (inx i) lc (vI (μ q j.toNatClampNeg) :: r) μ else none) = some v from h)
      have hn := hK _ _ _ _ h ls H locs hl hP hS
      rw [h2] at hn
      obtain ⟨hq1, n, hn1, hw⟩ := row_at (μ := μ) hT (t := 0) (nbeq ht) (by decide)
      rw [hq1] at h0
      exact va_iald hx hb hU.2.1 hP n 0 hw rfl (inb_vp h0) h1 hn
    | false =>
      rw [ht] at h
      obtain ⟨ht2, h⟩ := bif_some (show (bif Nat.beq (T.1 q).1 110 then (bif inb j (T.1 q).2 then K (inx i) lc (vI (T.2 q j.toNatClampNeg) :: r) μ else none) else none) = some v from h)
      obtain ⟨h0, h⟩ := bif_some h
      have hn := hK _ _ _ _ h ls H locs hl hP hS
      rw [h2] at hn
      have hbq := hT.2.1 q (nbeq ht2)
      exact wY_ld hx hb (hU.2.2.1 q (nbeq ht2)) (Nat.lt_of_lt_of_le hbq hU.1) (A := fun q => B0 ≤ q) (Nat.not_le.mpr hbq) hS (inb_vp h0) h1 hn
  · cases h
theorem s_bald (C : Ctx p s m args c cc nL own ad B0 WL T Dg cA) (hk : k_ins .baload cc pc i = true) (h : e_bald T i lc st μ cf K = some v) (hK : ∀ pc' l' st' μ', K pc' l' st' μ' = some v → Sim p l e R s m args below meth c cells slots Q nL ad B0 WL Dg cA pc' l' st' μ') : Sim p l e R s m args below meth c cells slots Q nL ad B0 WL Dg cA pc lc st μ := by
  obtain ⟨hx, hb, hml, hown, hts, hT, hU⟩ := C
  obtain ⟨h1, h2⟩ := k_ins_ok hk
  intro ls H locs hl hP hS
  unfold e_bald at h
  split at h
  · rename_i j q r
    obtain ⟨ht, h⟩ := bif_some h
    obtain ⟨h0, h⟩ := bif_some h
    have hn := hK _ _ _ _ h ls H locs hl hP hS
    rw [h2] at hn
    simp only [Bool.or_eq_true] at ht
    rcases ht with ht | ht
    · obtain ⟨hq1, n, hn1, hw⟩ := row_at (μ := μ) hT (t := 1) (nbeq ht) (by decide)
      rw [hq1] at h0
      exact va_bald hx hb hU.2.1 hP n 1 hw rfl (inb_vp h0) h1 hn
    · obtain ⟨hq1, n, hn1, hw⟩ := row_at (μ := μ) hT (t := 2) (nbeq ht) (by decide)
      rw [hq1] at h0
      exact va_zald hx hb hU.2.1 hP n 2 hw rfl (inb_vp h0) h1 hn
  · cases h
theorem s_aald (C : Ctx p s m args c cc nL own ad B0 WL T Dg cA) (hk : k_ins .aaload cc pc i = true) (h : e_aald T i lc st μ cf K = some v) (hK : ∀ pc' l' st' μ', K pc' l' st' μ' = some v → Sim p l e R s m args below meth c cells slots Q nL ad B0 WL Dg cA pc' l' st' μ') : Sim p l e R s m args below meth c cells slots Q nL ad B0 WL Dg cA pc lc st μ := by
  obtain ⟨hx, hb, hml, hown, hts, hT, hU⟩ := C
  obtain ⟨h1, h2⟩ := k_ins_ok hk
  intro ls H locs hl hP hS
  unfold e_aald at h
  split at h
  · rename_i j q r
    obtain ⟨ht, h⟩ := bif_some h
    obtain ⟨h0, h⟩ := bif_some h
    have ht := nbeq ht
    have hn := hK _ _ _ _ h ls H locs hl hP hS
    rw [h2] at hn
    obtain ⟨hq1, hq2⟩ := hT.1 q (by omega)
    obtain ⟨n, hn1⟩ := List.getElem?_of_mem hq2
    have hw := wl_get (ad := ad) (cA := cA) (μ := μ) hn1
    rw [cE_ref (by rw [← hq1]; exact ht)] at hw
    rw [hq1] at h0
    exact va_aldq hx hb hU.2.1 hP n 3 hw rfl (inb_vp h0) h1 hn
  · cases h
theorem s_iast (C : Ctx p s m args c cc nL own ad B0 WL T Dg cA) (hk : k_ins .iastore cc pc i = true) (h : e_iast T i lc st μ cf K = some v) (hK : ∀ pc' l' st' μ', K pc' l' st' μ' = some v → Sim p l e R s m args below meth c cells slots Q nL ad B0 WL Dg cA pc' l' st' μ') : Sim p l e R s m args below meth c cells slots Q nL ad B0 WL Dg cA pc lc st μ := by
  obtain ⟨hx, hb, hml, hown, hts, hT, hU⟩ := C
  obtain ⟨h1, h2⟩ := k_ins_ok hk
  intro ls H locs hl hP hS
  unfold e_iast at h
  split at h
  · rename_i x j q r
    obtain ⟨ht, h⟩ := bif_some h
    obtain ⟨h0, h⟩ := bif_some h
    obtain ⟨hq1, n, hn1, hw⟩ := row_at (μ := μ) hT (t := 0) (nbeq ht) (by decide)
    have hset : (wl ad cA WL μ).set n (ad q, .inl (cA 0, (LAY q).2, .inl (upd (μ q) j.toNatClampNeg x))) = wl ad cA WL (mset μ q j.toNatClampNeg x) :=
      wl_set (hT.2.2 μ) hn1 (by rw [cE_row (t := 0) (by rw [← hq1]; exact nbeq ht) (by decide), mset_eq]) (fun q' hq' => cE_congr (mset_ne hq'))
    rw [hq1] at h0
    refine va_iast hx hb hU.2.1 hP (hT.2.2 μ) hS n 0 hw rfl (inb_vp h0) h1 fun H1 locs1 a1 a2 a3 => ?_
    rw [hset] at a1
    have := hK _ _ _ _ h ls H1 locs1 hl a1 a3
    rwa [h2] at this
  · cases h
theorem s_bast (C : Ctx p s m args c cc nL own ad B0 WL T Dg cA) (hk : k_ins .bastore cc pc i = true) (h : e_bast T i lc st μ cf K = some v) (hK : ∀ pc' l' st' μ', K pc' l' st' μ' = some v → Sim p l e R s m args below meth c cells slots Q nL ad B0 WL Dg cA pc' l' st' μ') : Sim p l e R s m args below meth c cells slots Q nL ad B0 WL Dg cA pc lc st μ := by
  obtain ⟨hx, hb, hml, hown, hts, hT, hU⟩ := C
  obtain ⟨h1, h2⟩ := k_ins_ok hk
  intro ls H locs hl hP hS
  unfold e_bast at h
  split at h
  · rename_i x j q r
    cases ht : Nat.beq (T.1 q).1 101 with
    | true =>
      rw [ht] at h
      obtain ⟨h0, h⟩ := bif_some (show (bif inb j (T.1 q).2 then K (inx i) lc r (mset μ q j.toNatClampNeg (vp_nar .byte x)) else none) = some v from h)
      obtain ⟨hq1, n, hn1, hw⟩ := row_at (μ := μ) hT (t := 1) (nbeq ht) (by decide)
      have hset : (wl ad cA WL μ).set n (ad q, .inl (cA 1, (LAY q).2, .inl (upd (μ q) j.toNatClampNeg (vp_nar .byte x)))) = wl ad cA WL (mset μ q j.toNatClampNeg (vp_nar .byte x)) :=
        wl_set (hT.2.2 μ) hn1 (by rw [cE_row (t := 1) (by rw [← hq1]; exact nbeq ht) (by decide), mset_eq]) (fun q' hq' => cE_congr (mset_ne hq'))
      rw [hq1] at h0
      refine va_bast hx hb hU.2.1 hP (hT.2.2 μ) hS n 1 hw rfl (inb_vp h0) h1 fun H1 locs1 a1 a2 a3 => ?_
      rw [hset] at a1
      have := hK _ _ _ _ h ls H1 locs1 hl a1 a3
      rwa [h2] at this
    | false =>
      rw [ht] at h
      obtain ⟨ht2, h⟩ := bif_some (show (bif Nat.beq (T.1 q).1 102 then (bif inb j (T.1 q).2 then K (inx i) lc r (mset μ q j.toNatClampNeg (vp_nar .boolean x)) else none) else none) = some v from h)
      obtain ⟨h0, h⟩ := bif_some h
      obtain ⟨hq1, n, hn1, hw⟩ := row_at (μ := μ) hT (t := 2) (nbeq ht2) (by decide)
      have hset : (wl ad cA WL μ).set n (ad q, .inl (cA 2, (LAY q).2, .inl (upd (μ q) j.toNatClampNeg (vp_nar .boolean x)))) = wl ad cA WL (mset μ q j.toNatClampNeg (vp_nar .boolean x)) :=
        wl_set (hT.2.2 μ) hn1 (by rw [cE_row (t := 2) (by rw [← hq1]; exact nbeq ht2) (by decide), mset_eq]) (fun q' hq' => cE_congr (mset_ne hq'))
      rw [hq1] at h0
      refine va_zast hx hb hU.2.1 hP (hT.2.2 μ) hS n 2 hw rfl (inb_vp h0) h1 fun H1 locs1 a1 a2 a3 => ?_
      rw [hset] at a1
      have := hK _ _ _ _ h ls H1 locs1 hl a1 a3
      rwa [h2] at this
  · cases h
theorem s_alen (C : Ctx p s m args c cc nL own ad B0 WL T Dg cA) (hk : k_ins .arraylength cc pc i = true) (h : e_alen T i lc st μ cf K = some v) (hK : ∀ pc' l' st' μ', K pc' l' st' μ' = some v → Sim p l e R s m args below meth c cells slots Q nL ad B0 WL Dg cA pc' l' st' μ') : Sim p l e R s m args below meth c cells slots Q nL ad B0 WL Dg cA pc lc st μ := by
  obtain ⟨hx, hb, hml, hown, hts, hT, hU⟩ := C
  obtain ⟨h1, h2⟩ := k_ins_ok hk
  intro ls H locs hl hP hS
  unfold e_alen at h
  split at h
  · rename_i q r
    obtain ⟨ht, h⟩ := bif_some h
    have hn := hK _ _ _ _ h ls H locs hl hP hS
    rw [h2] at hn
    simp only [Bool.or_eq_true] at ht
    rcases ht with ht | ht
    · obtain ⟨hq1, n, hn1, hw⟩ := row_at (μ := μ) hT (t := 0) (nbeq ht) (by decide)
      rw [hq1] at hn
      exact va_alen hx hb hU.2.1 hP n 0 hw rfl rfl h1 hn
    · have hbq := hT.2.1 q (nbeq ht)
      exact wY_len hx hb (hU.2.2.1 q (nbeq ht)) (Nat.lt_of_lt_of_le hbq hU.1) (A := fun q => B0 ≤ q) (Nat.not_le.mpr hbq) hS h1 hn
  · cases h
def k_goto (cc : ByteArray) (pc : Nat) (i : Ins) : Bool := dI cc pc (.goto ((ix i : Int) - (pc : Int))) 3
theorem s_goto (C : Ctx p s m args c cc nL own ad B0 WL T Dg cA) (hk : k_goto cc pc i = true) (h : e_goto T i lc st μ cf K = some v) (hK : ∀ pc' l' st' μ', K pc' l' st' μ' = some v → Sim p l e R s m args below meth c cells slots Q nL ad B0 WL Dg cA pc' l' st' μ') : Sim p l e R s m args below meth c cells slots Q nL ad B0 WL Dg cA pc lc st μ := by
  obtain ⟨hx, hb, hml, hown, hts, hT, hU⟩ := C
  intro ls H locs hl hP hS
  simp only [k_goto, dI, decide_eq_true_eq] at hk
  exact lv_goto hx hb hk (by omega) (hK _ _ _ _ h ls H locs hl hP hS)
def cnd (o : Nat) : Jvm.ClassFile.Cond := match o with
  | 0 => .eq
  | 1 => .ne
  | 2 => .lt
  | 3 => .ge
  | 4 => .gt
  | _ => .le
def k_if (cc : ByteArray) (pc : Nat) (i : Ins) : Bool := dI cc pc (.ifCond (cnd (ix i)) ((iy i : Int) - (pc : Int))) 3 && decide (inx i = pc + 3)
def k_icmp (cc : ByteArray) (pc : Nat) (i : Ins) : Bool := dI cc pc (.if_icmp (cnd (ix i)) ((iy i : Int) - (pc : Int))) 3 && decide (inx i = pc + 3)
theorem s_if (C : Ctx p s m args c cc nL own ad B0 WL T Dg cA) (hk : k_if cc pc i = true) (h : e_if T i lc st μ cf K = some v) (hK : ∀ pc' l' st' μ', K pc' l' st' μ' = some v → Sim p l e R s m args below meth c cells slots Q nL ad B0 WL Dg cA pc' l' st' μ') : Sim p l e R s m args below meth c cells slots Q nL ad B0 WL Dg cA pc lc st μ := by
  obtain ⟨hx, hb, hml, hown, hts, hT, hU⟩ := C
  intro ls H locs hl hP hS
  simp only [k_if, dI, Bool.and_eq_true, decide_eq_true_eq] at hk
  obtain ⟨h1, h2⟩ := hk
  have ht : (pc : Int) + ((iy i : Int) - (pc : Int)) = (iy i : Int) := by omega
  unfold e_if at h
  split at h
  · rename_i x r
    have ga : K (iy i) lc r μ = some v → W p l e R s m args below meth c H locs cells slots Q (F0 m (iy i) ls (r.map (sh ad))) := fun z => hK _ _ _ _ z ls H locs hl hP hS
    have gb : K (inx i) lc r μ = some v → W p l e R s m args below meth c H locs cells slots Q (F0 m (pc + 3) ls (r.map (sh ad))) := fun z => by
      have := hK _ _ _ _ z ls H locs hl hP hS
      rwa [h2] at this
    revert h h1
    generalize ix i = o
    intro h1 h
    match o, h1, h with
    | 0, h1, h =>
      have h : (if x = 0 then K (iy i) lc r μ else K (inx i) lc r μ) = some v := h
      exact lv_if_eq hx hb h1 ht (fun z => ga (by rwa [if_pos z] at h)) (fun z => gb (by rwa [if_neg z] at h))
    | 1, h1, h =>
      have h : (if x = 0 then K (inx i) lc r μ else K (iy i) lc r μ) = some v := h
      exact lv_if_ne hx hb h1 ht (fun z => ga (by rwa [if_neg z] at h)) (fun z => gb (by rwa [if_pos z] at h))
    | 2, h1, h =>
      have h : (if x < 0 then K (iy i) lc r μ else K (inx i) lc r μ) = some v := h
      exact lv_if_lt hx hb h1 ht (fun z => ga (by rwa [if_pos z] at h)) (fun z => gb (by rwa [if_neg z] at h))
    | 3, h1, h =>
      have h : (if x < 0 then K (inx i) lc r μ else K (iy i) lc r μ) = some v := h
      exact lv_if_ge hx hb h1 ht (fun z => ga (by rwa [if_neg (Int32.not_lt.mpr z)] at h)) (fun z => gb (by rwa [if_pos (Int32.not_le.mp z)] at h))
    | 4, h1, h =>
      have h : (if 0 < x then K (iy i) lc r μ else K (inx i) lc r μ) = some v := h
      exact lv_if_gt hx hb h1 ht (fun z => ga (by rwa [if_pos z] at h)) (fun z => gb (by rwa [if_neg z] at h))
    | n + 5, h1, h =>
      have h : (if 0 < x then K (inx i) lc r μ else K (iy i) lc r μ) = some v := h
      exact lv_if_le hx hb h1 ht (fun z => ga (by rwa [if_neg (Int32.not_lt.mpr z)] at h)) (fun z => gb (by rwa [if_pos (Int32.not_le.mp z)] at h))
  · cases h
theorem s_icmp (C : Ctx p s m args c cc nL own ad B0 WL T Dg cA) (hk : k_icmp cc pc i = true) (h : e_icmp T i lc st μ cf K = some v) (hK : ∀ pc' l' st' μ', K pc' l' st' μ' = some v → Sim p l e R s m args below meth c cells slots Q nL ad B0 WL Dg cA pc' l' st' μ') : Sim p l e R s m args below meth c cells slots Q nL ad B0 WL Dg cA pc lc st μ := by
  obtain ⟨hx, hb, hml, hown, hts, hT, hU⟩ := C
  intro ls H locs hl hP hS
  simp only [k_icmp, dI, Bool.and_eq_true, decide_eq_true_eq] at hk
  obtain ⟨h1, h2⟩ := hk
  have ht : (pc : Int) + ((iy i : Int) - (pc : Int)) = (iy i : Int) := by omega
  unfold e_icmp at h
  split at h
  · rename_i y x r
    have ga : K (iy i) lc r μ = some v → W p l e R s m args below meth c H locs cells slots Q (F0 m (iy i) ls (r.map (sh ad))) := fun z => hK _ _ _ _ z ls H locs hl hP hS
    have gb : K (inx i) lc r μ = some v → W p l e R s m args below meth c H locs cells slots Q (F0 m (pc + 3) ls (r.map (sh ad))) := fun z => by
      have := hK _ _ _ _ z ls H locs hl hP hS
      rwa [h2] at this
    revert h h1
    generalize ix i = o
    intro h1 h
    match o, h1, h with
    | 0, h1, h =>
      have h : (if x = y then K (iy i) lc r μ else K (inx i) lc r μ) = some v := h
      exact lv_icmp_eq hx hb h1 ht (fun z => ga (by rwa [if_pos z] at h)) (fun z => gb (by rwa [if_neg z] at h))
    | 1, h1, h =>
      have h : (if x = y then K (inx i) lc r μ else K (iy i) lc r μ) = some v := h
      exact lv_icmp_ne hx hb h1 ht (fun z => ga (by rwa [if_neg z] at h)) (fun z => gb (by rwa [if_pos z] at h))
    | 2, h1, h =>
      have h : (if x < y then K (iy i) lc r μ else K (inx i) lc r μ) = some v := h
      exact lv_icmp_lt hx hb h1 ht (fun z => ga (by rwa [if_pos z] at h)) (fun z => gb (by rwa [if_neg z] at h))
    | 3, h1, h =>
      have h : (if x < y then K (inx i) lc r μ else K (iy i) lc r μ) = some v := h
      exact lv_icmp_ge hx hb h1 ht (fun z => ga (by rwa [if_neg (Int32.not_lt.mpr z)] at h)) (fun z => gb (by rwa [if_pos (Int32.not_le.mp z)] at h))
    | 4, h1, h =>
      have h : (if y < x then K (iy i) lc r μ else K (inx i) lc r μ) = some v := h
      exact lv_icmp_gt hx hb h1 ht (fun z => ga (by rwa [if_pos z] at h)) (fun z => gb (by rwa [if_neg z] at h))
    | n + 5, h1, h =>
      have h : (if y < x then K (inx i) lc r μ else K (iy i) lc r μ) = some v := h
      exact lv_icmp_le hx hb h1 ht (fun z => ga (by rwa [if_neg (Int32.not_lt.mpr z)] at h)) (fun z => gb (by rwa [if_pos (Int32.not_le.mp z)] at h))
  · cases h
end MX
