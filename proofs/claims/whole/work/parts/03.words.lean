/-! the tables' words -/
def isNest : Cond → Bool
  | .fieldLinkNest _ _ _ _ _ _ => true
  | .methodLinkNest _ _ _ _ => true
  | _ => false
def GT : List Cond := lw_tbl.filter goodWord
def NW : List Cond := tables_1.filter isNest
def wAt (h : Nat) : Option Cond := match h / 10000 with
  | 0 => (k2_sels lw_privs)[h % 10000]?
  | 1 => tables_1_1[h % 10000]?
  | 2 => tables_1_2[h % 10000]?
  | 3 => tables_1_3[h % 10000]?
  | 4 => tables_1_4[h % 10000]?
  | 5 => tables_1_5[h % 10000]?
  | 6 => tables_1_6[h % 10000]?
  | _ => none
theorem wAt_in {h : Nat} {w : Cond} (e : wAt h = some w) : w ∈ lw_tbl := by
  unfold wAt at e
  unfold lw_tbl tables_1
  simp only [List.mem_append]
  split at e
  · exact Or.inl (List.mem_of_getElem? e)
  · exact Or.inr (Or.inl (List.mem_of_getElem? e))
  · exact Or.inr (Or.inr (Or.inl (List.mem_of_getElem? e)))
  · exact Or.inr (Or.inr (Or.inr (Or.inl (List.mem_of_getElem? e))))
  · exact Or.inr (Or.inr (Or.inr (Or.inr (Or.inl (List.mem_of_getElem? e)))))
  · exact Or.inr (Or.inr (Or.inr (Or.inr (Or.inr (Or.inl (List.mem_of_getElem? e))))))
  · exact Or.inr (Or.inr (Or.inr (Or.inr (Or.inr (Or.inr (List.mem_of_getElem? e))))))
  · cases e
def wOK (h : Nat) (w : Cond) : Bool := decide (wAt h = some w) && goodWord w
def wON (h : Nat) (w : Cond) : Bool := decide (wAt h = some w) && (isNest w && decide (10000 ≤ h))
theorem wOK_in {h : Nat} {w : Cond} (e : wOK h w = true) : w ∈ GT := by
  simp only [wOK, Bool.and_eq_true, decide_eq_true_eq] at e
  exact List.mem_filter.mpr ⟨wAt_in e.1, e.2⟩
theorem wON_in {h : Nat} {w : Cond} (e : wON h w = true) : w ∈ NW := by
  simp only [wON, Bool.and_eq_true, decide_eq_true_eq] at e
  obtain ⟨e1, e2, e3⟩ := e
  refine List.mem_filter.mpr ⟨?_, e2⟩
  unfold wAt at e1
  unfold tables_1
  simp only [List.mem_append]
  split at e1
  · omega
  · exact Or.inl (List.mem_of_getElem? e1)
  · exact Or.inr (Or.inl (List.mem_of_getElem? e1))
  · exact Or.inr (Or.inr (Or.inl (List.mem_of_getElem? e1)))
  · exact Or.inr (Or.inr (Or.inr (Or.inl (List.mem_of_getElem? e1))))
  · exact Or.inr (Or.inr (Or.inr (Or.inr (Or.inl (List.mem_of_getElem? e1)))))
  · exact Or.inr (Or.inr (Or.inr (Or.inr (Or.inr (List.mem_of_getElem? e1)))))
  · cases e1
theorem GT_good {w : Cond} (h : w ∈ GT) : (w.onTables && w.keeps) = true ∨ ∃ ty, w = .arrayClass ty := good_of_word (List.mem_filter.mp h).2
theorem NW_warm {w : Cond} {s U : State} (hw : w ∈ NW) (hW : s.WarmedH U.vm) (h : va_Nw w s) : va_Nw w U := by
  have h2 := (List.mem_filter.mp hw).2
  unfold isNest at h2
  split at h2
  · exact h.warmF hW
  · exact h.warmM hW
  · cases h2
def mxT (c : Nat) : Nat → FieldType := match c with
  | 0 => tyX0
  | 1 => tyX1
  | 2 => tyX2
  | 3 => tyX3
  | 4 => tyX4
  | 5 => tyX5
  | 6 => tyX6
  | 7 => tyX7
  | 8 => tyX8
  | 9 => tyX9
  | _ => tyX10
theorem mx_ty {ci : Nat} {C : String} {Tf : u_T} {N : Nat} (h : vwCl[ci]? = some (C, Tf, N)) : (∀ k, k < N → parseFieldDescriptor (Tf k).2.2.1 = some (mxT ci k)) ∧ (∀ a, a < N → ∀ b, b < N → a ≠ b → (Tf a).2.1 ≠ (Tf b).2.1) ∧ ci < 11 := by
  match ci, h with
  | 0, h => cases h; exact ⟨tyX0_ok, nmX0, by decide⟩
  | 1, h => cases h; exact ⟨tyX1_ok, nmX1, by decide⟩
  | 2, h => cases h; exact ⟨tyX2_ok, nmX2, by decide⟩
  | 3, h => cases h; exact ⟨tyX3_ok, nmX3, by decide⟩
  | 4, h => cases h; exact ⟨tyX4_ok, nmX4, by decide⟩
  | 5, h => cases h; exact ⟨tyX5_ok, nmX5, by decide⟩
  | 6, h => cases h; exact ⟨tyX6_ok, nmX6, by decide⟩
  | 7, h => cases h; exact ⟨tyX7_ok, nmX7, by decide⟩
  | 8, h => cases h; exact ⟨tyX8_ok, nmX8, by decide⟩
  | 9, h => cases h; exact ⟨tyX9_ok, nmX9, by decide⟩
  | 10, h => cases h; exact ⟨tyX10_ok, nmX10, by decide⟩
  | n + 11, h => simp [vwCl] at h
theorem mx_inb : vwCl.all (fun q => (u_ws q.1 q.2.1 q.2.2).all (fun w => decide (w ∈ tables_1) && goodWord w)) = true := by decide +kernel
theorem mx_in {ci : Nat} {C : String} {Tf : u_T} {N : Nat} (h : vwCl[ci]? = some (C, Tf, N)) : ∀ w ∈ u_ws C Tf N, w ∈ GT := by
  intro w hw
  have h1 := List.all_eq_true.mp mx_inb _ (List.mem_of_getElem? h)
  have h2 := List.all_eq_true.mp h1 w hw
  simp only [Bool.and_eq_true, decide_eq_true_eq] at h2
  exact List.mem_filter.mpr ⟨List.mem_append_right _ h2.1, h2.2⟩
