/-! all cells under their names: addresses, memory, the layout -/
abbrev UT : Type := (Nat → Nat) × (Nat × (Nat → Nat) × (Nat → Nat) × (Nat → Nat)) × (Nat × (Nat → Nat → Nat) × (Nat → Option Nat) × (Nat → Option Nat) × Nat × Nat) × (Nat × (Nat → Nat)) × Nat × (Nat → Nat)
def adC (U : UT) (v o : Nat) : Nat := match v with
  | 0 => U.1 o
  | 1 => U.2.1.2.1 o
  | 2 => U.2.1.2.2.1 o
  | i + 3 => U.2.2.1.2.1 i o
def adF (ad : Ad → Nat) (h9 : Nat) (U : UT) (h10 : Nat) (w : Nat → Nat) : Ad → Nat := fun q => match q.1 with
  | 0 => match q.2.2 with
    | 0 => h9
    | 1 => U.2.1.1
    | 2 => U.2.1.2.2.2 0
    | 3 => U.2.1.2.2.2 1
    | 4 => U.2.2.1.1
    | 5 => U.2.2.1.2.2.2.2.1
    | 6 => U.2.2.1.2.2.2.2.2
    | 7 => U.2.2.2.1.1
    | 8 => U.2.2.2.1.2 1
    | 9 => U.2.2.2.2.1
    | 10 => U.2.2.2.2.2 1
    | 11 => U.2.2.2.2.2 2
    | _ => U.2.2.2.2.2 3
  | 1 => adC U q.2.1.val q.2.2
  | 2 => adM ad h10 w q
  | _ => ad q
def muF (S : Ad → Nat → Int32) : Mm := fun q => match q.1 with
  | 0 => match q.2.2 with
    | 0 => fun k => match k with
      | 6 => -1
      | _ => 0
    | _ => fun _ => 0
  | 1 => match q.2.1.val with
    | 0 => rstC (0 : Fin 15) 8 (muB S) q
    | _ => muB S q
  | _ => rstM 8 (muM (fM 17)) q
def bkL (j : Fin 15) : List Ad := (List.range 25).map (fun o => (1, j, o))
def rgj (i : Nat) : Fin 15 := Fin.ofNat 15 (3 + i)
def WLr : List Ad := (List.range 12).flatMap (fun i => bkL (rgj i))
/-- the class's cells, in the order of their making -/
def WLC : List Ad := [(0, 0, 0)] ++ WLB ++ ([(0, 0, 1)] ++ bkL 1 ++ bkL 2 ++ [(0, 0, 2)] ++ [(0, 0, 3)]) ++ ([(0, 0, 4), (0, 0, 5), (0, 0, 6)] ++ WLr) ++ [(0, 0, 7), (0, 0, 8)] ++ [(0, 0, 9), (0, 0, 10), (0, 0, 11), (0, 0, 12)]
def WLx : List Ad := WLC ++ WLM
theorem rgj_val {i : Nat} (h : i < 12) : (rgj i).val = i + 3 := by
  show (3 + i) % 15 = i + 3
  omega
theorem wl_app {ad : Ad → Nat} {cA : Nat → ClassId} {A B : List Ad} {μ : Mm} : wl ad cA (A ++ B) μ = wl ad cA A μ ++ wl ad cA B μ := List.map_append
set_option maxRecDepth 100000 in
theorem wl_bank {ad : Ad → Nat} {cA : Nat → ClassId} {j : Fin 15} {μ : Mm} {S : Ad → Nat → Int32} (h : ∀ o, μ (1, j, o) = muB S (1, j, o)) : wl ad cA (bkL j) μ = bkw S cA (fun o => ad (1, j, o)) := by
  have e : wl ad cA (bkL j) μ = wl ad cA (bkL j) (muB S) := by
    unfold wl bkL
    refine List.map_congr_left (fun q hq => ?_)
    obtain ⟨o, -, rfl⟩ := List.mem_map.mp hq
    rw [cE_congr (h o)]
  rw [e]
  rfl
theorem flat_congr {l : List Nat} {f g : Nat → va_W} (h : ∀ i ∈ l, f i = g i) : l.flatMap f = l.flatMap g := by
  induction l with
  | nil => rfl
  | cons a l ih => rw [List.flatMap_cons, List.flatMap_cons, h a List.mem_cons_self, ih (fun i hi => h i (List.mem_cons_of_mem _ hi))]
section WO
variable {ad : Ad → Nat} {cA : Nat → ClassId} {h9 h10 : Nat} {U : UT} {w : Nat → Nat} {S : Ad → Nat → Int32} {D : va_G} {H : Heap}
theorem muF_bk {j : Fin 15} (h : j.val ≠ 0) (o : Nat) : muF S (1, j, o) = muB S (1, j, o) := by
  obtain ⟨v, hv⟩ := j
  cases v with
  | zero => exact absurd rfl h
  | succ v => rfl
theorem wF_0 : wl (adF ad h9 U h10 w) cA [(0, 0, 0)] (muF S) = [(h9, (Sum.inr (9, [.ref (U.1 0), .ref U.2.1.1, .ref U.2.2.1.1, .ref U.2.2.2.1.1, .ref U.2.2.2.2.1, .int 0, .int (-1)]) : va_E))] := rfl
set_option maxRecDepth 100000 in
theorem wF_B : wl (adF ad h9 U h10 w) cA WLB (muF S) = wl (adB ad U.1) cA WLB (rstC (0 : Fin 15) 8 (muB S)) := rfl
theorem cE_ad {ad ad' : Ad → Nat} {q : Ad} {μ : Mm} (h : ∀ k, ad (RF q k) = ad' (RF q k)) : cE ad cA q μ = cE ad' cA q μ := by
  unfold cE fsv
  simp only [h]
theorem RF_2 (o k : Nat) : (RF (2, 0, o) k).1 = 2 := by
  unfold RF
  dsimp only
  split
  · rename_i h
    exact absurd h (by decide)
  · rename_i h
    exact absurd h (by decide)
  · split <;> rfl
theorem adF_2 {q : Ad} (h : q.1 = 2) : adF ad h9 U h10 w q = adM ad h10 w q := by
  obtain ⟨a, j, o⟩ := q
  have h : a = 2 := h
  subst h
  rfl
theorem muF_2 (o : Nat) : muF S (2, 0, o) = rstM 8 (muM (fM 17)) (2, 0, o) := rfl
theorem wF_M : wl (adF ad h9 U h10 w) cA WLM (muF S) = wl (adM ad h10 w) cA WLM (rstM 8 (muM (fM 17))) := by
  unfold wl WLM
  refine List.map_congr_left (fun q hq => ?_)
  obtain ⟨o, -, rfl⟩ := List.mem_map.mp hq
  rw [cE_congr (muF_2 o), adF_2 rfl, cE_ad (fun k => adF_2 (RF_2 o k))]
theorem wF_p : wl (adF ad h9 U h10 w) cA ([(0, 0, 1)] ++ bkL 1 ++ bkL 2 ++ [(0, 0, 2)] ++ [(0, 0, 3)]) (muF S) = ppw S cA U.2.1.1 U.2.1.2 := by
  rw [wl_app, wl_app, wl_app, wl_app, wl_bank (S := S) (muF_bk (by decide)), wl_bank (S := S) (muF_bk (by decide))]
  rfl
theorem wF_r : wl (adF ad h9 U h10 w) cA WLr (muF S) = flw S cA U.2.2.1.2.1 12 := by
  have e : wl (adF ad h9 U h10 w) cA WLr (muF S) = (List.range 12).flatMap (fun i => wl (adF ad h9 U h10 w) cA (bkL (rgj i)) (muF S)) := by
    unfold wl WLr
    rw [List.map_flatMap]
  rw [e]
  unfold flw
  refine flat_congr (fun i hi => ?_)
  have hi := List.mem_range.mp hi
  rw [wl_bank (S := S) (muF_bk (by rw [rgj_val hi]; omega))]
  congr 1
  funext o
  show adC U (rgj i).val o = U.2.2.1.2.1 i o
  rw [rgj_val hi]
  rfl
theorem wF_h : wl (adF ad h9 U h10 w) cA [(0, 0, 4), (0, 0, 5), (0, 0, 6)] (muF S) = hi3 cA U.2.2.1.1 U.2.2.1.2.2.2.2.1 U.2.2.1.2.2.2.2.2 (fun k => some (adF ad h9 U h10 w (RF (0, 0, 5) k))) (fun k => some (adF ad h9 U h10 w (RF (0, 0, 6) k))) := rfl
theorem wF_t : wl (adF ad h9 U h10 w) cA [(0, 0, 7), (0, 0, 8)] (muF S) = tpw cA U.2.2.2.1.1 U.2.2.2.1.2 := rfl
theorem wF_d : wl (adF ad h9 U h10 w) cA [(0, 0, 9), (0, 0, 10), (0, 0, 11), (0, 0, 12)] (muF S) = rdw cA U.2.2.2.2.1 U.2.2.2.2.2 := rfl
/-- the class's cells with their rows of references as the names have them -/
theorem wF_C : wl (adF ad h9 U h10 w) cA WLC (muF S) = [(h9, (Sum.inr (9, [.ref (U.1 0), .ref U.2.1.1, .ref U.2.2.1.1, .ref U.2.2.2.1.1, .ref U.2.2.2.2.1, .int 0, .int (-1)]) : va_E))] ++ wl (adB ad U.1) cA WLB (rstC (0 : Fin 15) 8 (muB S)) ++ ppw S cA U.2.1.1 U.2.1.2 ++ (hi3 cA U.2.2.1.1 U.2.2.1.2.2.2.2.1 U.2.2.1.2.2.2.2.2 (fun k => some (adF ad h9 U h10 w (RF (0, 0, 5) k))) (fun k => some (adF ad h9 U h10 w (RF (0, 0, 6) k))) ++ flw S cA U.2.2.1.2.1 12) ++ tpw cA U.2.2.2.1.1 U.2.2.2.1.2 ++ rdw cA U.2.2.2.2.1 U.2.2.2.2.2 := by
  unfold WLC
  rw [wl_app, wl_app, wl_app, wl_app, wl_app, wl_app (B := WLr), wF_0, wF_B, wF_p, wF_h, wF_r, wF_t, wF_d]
theorem P_l {A B : va_W} (h : va_P D vwCl (A ++ B) H) : va_P D vwCl A H := fun k q hq => h k q (by
  rw [List.getElem?_append_left (List.getElem?_eq_some_iff.mp hq).1]
  exact hq)
theorem P_r {A B : va_W} (h : va_P D vwCl (A ++ B) H) : va_P D vwCl B H := fun k q hq => h (A.length + k) q (by
  rw [List.getElem?_append_right (Nat.le_add_right _ _), Nat.add_sub_cancel_left]
  exact hq)
theorem cell_ref {c : ClassId} {n : Nat} {f g : Nat → Option Nat} (h : ∀ k, k < n → f k = g k) : vp_cell c (n, .inr (.inr (.inr (.inr f)))) = vp_cell c (n, .inr (.inr (.inr (.inr g)))) := by
  show arrV c n (fun j => va_rf (f j)) = arrV c n (fun j => va_rf (g j))
  unfold arrV
  have : (fun j : Fin n => va_rf (f j.val)) = fun j : Fin n => va_rf (g j.val) := funext fun j => by rw [h j.val j.isLt]
  rw [this]
theorem P_hi {a b c : Nat} {f g f' g' : Nat → Option Nat} (h : va_P D vwCl (hi3 cA a b c f g) H) (hf : ∀ k, k < 10 → f k = f' k) (hg : ∀ k, k < 2 → g k = g' k) : va_P D vwCl (hi3 cA a b c f' g') H := fun k q hq => by
  match k, hq with
  | 0, hq => cases hq; exact h 0 _ rfl
  | 1, hq =>
    cases hq
    show H[b]? = some (vp_cell (cA 3) (10, .inr (.inr (.inr (.inr f')))))
    rw [← cell_ref hf]
    exact h 1 _ rfl
  | 2, hq =>
    cases hq
    show H[c]? = some (vp_cell (cA 3) (2, .inr (.inr (.inr (.inr g')))))
    rw [← cell_ref hg]
    exact h 2 _ rfl
  | k + 3, hq => cases hq
theorem P_C (hP : va_P D vwCl (rgw ad S cA h9 U) H) (h5 : (∀ j, j < 10 → U.2.2.1.2.2.1 j = some (U.2.2.1.2.1 j 0)) ∧ ∀ j, j < 2 → U.2.2.1.2.2.2.1 j = some (U.2.2.1.2.1 (10 + j) 0)) : va_P D vwCl (wl (adF ad h9 U h10 w) cA WLC (muF S)) H := by
  rw [wF_C]
  have f5 : ∀ k, k < 10 → U.2.2.1.2.2.1 k = some (adF ad h9 U h10 w (RF (0, 0, 5) k)) := fun k hk => by
    rw [h5.1 k hk]
    show _ = some (adC U (Fin.ofNat 15 (3 + k)).val 0)
    rw [show (Fin.ofNat 15 (3 + k)).val = k + 3 by show (3 + k) % 15 = k + 3; omega]
    rfl
  have f6 : ∀ k, k < 2 → U.2.2.1.2.2.2.1 k = some (adF ad h9 U h10 w (RF (0, 0, 6) k)) := fun k hk => by
    rw [h5.2 k hk]
    show _ = some (adC U (Fin.ofNat 15 (13 + k)).val 0)
    rw [show (Fin.ofNat 15 (13 + k)).val = (10 + k) + 3 by show (13 + k) % 15 = 10 + k + 3; omega]
    rfl
  have p1 := P_l (P_l (P_l hP))
  have p2 := P_r (P_l (P_l hP))
  exact ((p1.app ((P_hi (P_l p2) f5 f6).app (P_r p2))).app (P_r (P_l hP))).app (P_r hP)
theorem D_C {A : Nat → Prop} (hD : va_D A (rgw ad S cA h9 U)) : va_D A (wl (adF ad h9 U h10 w) cA WLC (muF S)) := by
  refine D_addr hD ?_
  rw [wF_C]
  simp only [List.map_append]
  rfl
theorem wF_x : wl (adF ad h9 U h10 w) cA WLx (muF S) = wl (adF ad h9 U h10 w) cA WLC (muF S) ++ wl (adM ad h10 w) cA WLM (rstM 8 (muM (fM 17))) := by
  unfold WLx
  rw [wl_app, wF_M]
end WO
theorem mem0 : ∀ o, o < 13 → ((0, 0, o) : Ad) ∈ WLx := by decide +kernel
theorem mem1 : ∀ j : Fin 15, ∀ o, o < 25 → ((1, j, o) : Ad) ∈ WLx := by decide +kernel
theorem mem2 : ∀ o, o < 11 → ((2, 0, o) : Ad) ∈ WLx := by decide +kernel
theorem lay0_lt {o : Nat} (h : (lay0 o).1 ≤ 110) : o < 13 ∧ (lay0 o).1 < 110 := by
  unfold lay0 at h ⊢
  split at h <;> first | exact ⟨by omega, by decide⟩ | exact absurd h (by decide)
theorem LAYS_lt {L : Nat} {q : Ad} (h : (LAYS L q).1 ≤ 110) : (LAYS L q = LAY q ∧ q ∈ WLx ∧ (LAYS L q).1 < 110) ∨ (q = (3, 0, 0) ∧ LAYS L q = (110, L)) ∨ ((q = (3, 0, 1) ∨ q = (3, 0, 2) ∨ q = (3, 0, 3)) ∧ LAYS L q = (110, 17)) := by
  obtain ⟨a, j, o⟩ := q
  match a, h with
  | 0, h =>
    obtain ⟨v, hv⟩ := j
    match v, hv, h with
    | 0, hv, h =>
      have h : (lay0 o).1 ≤ 110 := h
      obtain ⟨h1, h2⟩ := lay0_lt h
      exact Or.inl ⟨rfl, mem0 o h1, h2⟩
    | v + 1, hv, h => exact absurd (show 999 ≤ 110 from h) (by decide)
  | 1, h =>
    have h : (lay1 o).1 ≤ 110 := h
    obtain ⟨h1, h2⟩ := lay1_lt h
    exact Or.inl ⟨rfl, mem1 j o h1, h2⟩
  | 2, h =>
    obtain ⟨v, hv⟩ := j
    match v, hv, h with
    | 0, hv, h =>
      have h : (lay2 o).1 ≤ 110 := h
      obtain ⟨h1, h2⟩ := lay2_lt h
      exact Or.inl ⟨rfl, mem2 o h1, h2⟩
    | v + 1, hv, h => exact absurd (show 999 ≤ 110 from h) (by decide)
  | 3, h =>
    obtain ⟨v, hv⟩ := j
    match v, hv, h with
    | 0, hv, h =>
      match o, h with
      | 0, h => exact Or.inr (Or.inl ⟨rfl, rfl⟩)
      | 1, h => exact Or.inr (Or.inr ⟨Or.inl rfl, rfl⟩)
      | 2, h => exact Or.inr (Or.inr ⟨Or.inr (Or.inl rfl), rfl⟩)
      | 3, h => exact Or.inr (Or.inr ⟨Or.inr (Or.inr rfl), rfl⟩)
      | o + 4, h => exact absurd (show 999 ≤ 110 from h) (by decide)
    | v + 1, hv, h => exact absurd (show 999 ≤ 110 from h) (by decide)
  | a + 4, h => exact absurd (show 999 ≤ 110 from h) (by decide)
theorem LAYS_st {ad : Ad → Nat} {cA : Nat → ClassId} {B0 L : Nat} {S : Ad → Nat → Int32} {μ : Mm} (h : ∀ x, ad (3, 0, x) < B0) (hD : va_D (fun q => B0 ≤ q) (wl ad cA WLx μ)) : Stc ad cA B0 (LAYS L, S) WLx := by
  refine ⟨fun q hq => ?_, fun q hq => ?_, fun μ' => va_D_wl hD⟩
  · rcases LAYS_lt (q := q) (Nat.le_of_lt hq) with ⟨h1, h2, h3⟩ | ⟨h1, h2⟩ | ⟨h1, h2⟩
    · exact ⟨h1, h2⟩
    · have hq : (LAYS L q).1 < 110 := hq
      rw [h2] at hq
      exact absurd (show 110 < 110 from hq) (by decide)
    · have hq : (LAYS L q).1 < 110 := hq
      rw [h2] at hq
      exact absurd (show 110 < 110 from hq) (by decide)
  · rcases LAYS_lt (q := q) (Nat.le_of_eq hq) with ⟨h1, h2, h3⟩ | ⟨h1, h2⟩ | ⟨h1, h2⟩
    · have hq : (LAYS L q).1 = 110 := hq
      omega
    · rw [h1]; exact h _
    · rcases h1 with rfl | rfl | rfl <;> exact h _
theorem Ust.toL {ad ad' : Ad → Nat} {B0 L : Nat} {S : Ad → Nat → Int32} {Dg : va_G} {cA : Nat → ClassId} {U : State} (h : Ust ad B0 (LY0, S) Dg cA U) (ha : ∀ x, ad' (3, 0, x) = ad (3, 0, x)) (hX : wY (ad (3, 0, 0)) L (S (3, 0, 0)) U U.heap) : Ust ad' B0 (LAYS L, S) Dg cA U := by
  obtain ⟨a1, a2, a3, a4, a5⟩ := h
  refine ⟨a1, a2, fun q hq => ?_, fun x hx => by rw [ha]; exact a4 x hx, a5⟩
  rcases LAYS_lt (q := q) (Nat.le_of_eq hq) with ⟨b1, b2, b3⟩ | ⟨b1, b2⟩ | ⟨b1, b2⟩
  · have hq : (LAYS L q).1 = 110 := hq
    omega
  · have e : ((LAYS L, S) : LT).1 q = (110, L) := b2
    rw [e]
    subst b1
    rw [ha]
    exact hX
  · have e : ((LAYS L, S) : LT).1 q = (110, 17) := b2
    rw [e]
    rcases b1 with rfl | rfl | rfl
    · rw [ha]; exact a3 (3, 0, 1) rfl
    · rw [ha]; exact a3 (3, 0, 2) rfl
    · rw [ha]; exact a3 (3, 0, 3) rfl
