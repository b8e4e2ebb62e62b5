/-! the law, call by call -/
section LW
variable {L : Nat} {S : Ad → Nat → Int32} {T x : Nat} {k k' : Nat} {l l' : Lc} {μ μ' : Mm}
theorem law_call (hI : Inv T μ μ) (hP : ∀ μ', Inv T μ μ' → PubR L S T k k' l l' μ μ') : ∃ x μ1 μ2, Ev (fun F => run L S F 30 k 0 l μ) (x, μ1) ∧ Ev (fun F => run L S F 30 k' 0 l' μ1) (x, μ2) ∧ Inv (T + 200) μ2 μ2 := by
  obtain ⟨x, μ1, ν1, a1, a2, a3, a4, a5⟩ := hP μ hI
  have mk : MK μ μ1 := ⟨fun i _ => by rw [a4 _ (Nat.le_refl 2)], fun o _ => a4 _ (Nat.le_refl 2), fun k _ => by rw [a4 _ (Nat.le_refl 2)]⟩
  have h1 : Inv T μ μ1 := hI.fr (hI.1.fr (fun _ => rfl) (fun i _ => by rw [a4 _ (Nat.le_refl 2)])) (Nat.le_refl _) (fun _ _ => rfl) mk
  obtain ⟨y, μa, μ2, b1, b2, b3, b4, b5⟩ := hP μ1 h1
  have e := a1.uq b1
  injection e with e1 e2
  subst e1
  subst e2
  refine ⟨x, μ1, μ2, a1, b2, b3.fr (b3.1.fr (fun o => b5 _ (by simp)) (fun _ _ => rfl)) (Nat.le_refl _) (fun q hq => b5 q (fun e => ?_)) MK.rf⟩
  rcases hq with ⟨x, _⟩ | x | x | x | x
  · omega
  · rw [x] at e; exact absurd e (by decide)
  · rw [x] at e; exact absurd e (by decide)
  · rw [x] at e; exact absurd e (by decide)
  · rw [x] at e; exact absurd e (by decide)
theorem inb_x {c : Nat} (hL : L < 2 ^ 31) (h : x + c < L) : inb (nI x + nI c) L = true := by
  rw [nI_add]
  exact inb_n h hL
theorem Ex_ite {c : Prop} [Decidable c] {f g : Nat → Option Rz} (h1 : ∃ μ3, Ev f (1, μ3)) (h2 : ∃ μ3, Ev g (1, μ3)) : ∃ μ3, Ev (fun F => if c then f F else g F) (1, μ3) := by
  by_cases h : c
  · simp only [if_pos h]
    exact h1
  · simp only [if_neg h]
    exact h2
theorem lw_begin (hS : StS S) (hI : Inv T μ μ) (hx : x + 6 ≤ L) (hL : L < 2 ^ 31) (hT : T + 600 < 2 ^ 27) (next : ∀ μ2, Inv (T + 200) μ2 μ2 → ∃ μ3, Ev (fun F => run L S F 31 227 1396 [some (vR (3, 0, 0)), some (vR (0, 0, 0)), some (vR (2, 0, 0)), some (vI (nI x))] μ2) (1, μ3)) : ∃ μ3, Ev (fun F => run L S F 31 227 224 [some (vR (3, 0, 0)), some (vR (0, 0, 0)), some (vR (2, 0, 0)), some (vI (nI x))] μ) (1, μ3) := by
  obtain ⟨y, μ1, μ2, a1, a2, a3⟩ := law_call hI (fun μ' h => P_begin (L := L) (S := S) (T := T) (a1 := S (3, 0, 0) (Int32.toNatClampNeg (nI x + 1))) h)
  obtain ⟨μ3, h3⟩ := next μ2 a3
  refine ⟨μ3, Ev.step ?_⟩
  simp only [e227_224, show inb (nI x + 1) L = true from inb_x (c := 1) hL (by omega), cond_true]
  refine Ev.bind a1 ?_
  refine Ev.bind a2 ?_
  simp only [if_true]
  exact h3
theorem lw_terms (hS : StS S) (hI : Inv T μ μ) (hx : x + 6 ≤ L) (hL : L < 2 ^ 31) (hT : T + 600 < 2 ^ 27) (next : ∀ μ2, Inv (T + 200) μ2 μ2 → ∃ μ3, Ev (fun F => run L S F 31 227 1396 [some (vR (3, 0, 0)), some (vR (0, 0, 0)), some (vR (2, 0, 0)), some (vI (nI x))] μ2) (1, μ3)) : ∃ μ3, Ev (fun F => run L S F 31 227 247 [some (vR (3, 0, 0)), some (vR (0, 0, 0)), some (vR (2, 0, 0)), some (vI (nI x))] μ) (1, μ3) := by
  obtain ⟨y, μ1, μ2, a1, a2, a3⟩ := law_call hI (fun μ' h => P_terms (L := L) (S := S) (T := T) (a1 := S (3, 0, 0) (Int32.toNatClampNeg (nI x + 1))) (a2 := S (3, 0, 0) (Int32.toNatClampNeg (nI x + 2))) hS h)
  obtain ⟨μ3, h3⟩ := next μ2 a3
  refine ⟨μ3, Ev.step ?_⟩
  simp only [e227_247, show inb (nI x + 1) L = true from inb_x (c := 1) hL (by omega), show inb (nI x + 2) L = true from inb_x (c := 2) hL (by omega), cond_true]
  refine Ev.bind a1 ?_
  refine Ev.bind a2 ?_
  simp only [if_true]
  exact h3
theorem lw_swap (hS : StS S) (hI : Inv T μ μ) (hx : x + 6 ≤ L) (hL : L < 2 ^ 31) (hT : T + 600 < 2 ^ 27) (next : ∀ μ2, Inv (T + 200) μ2 μ2 → ∃ μ3, Ev (fun F => run L S F 31 227 1396 [some (vR (3, 0, 0)), some (vR (0, 0, 0)), some (vR (2, 0, 0)), some (vI (nI x))] μ2) (1, μ3)) : ∃ μ3, Ev (fun F => run L S F 31 227 280 [some (vR (3, 0, 0)), some (vR (0, 0, 0)), some (vR (2, 0, 0)), some (vI (nI x))] μ) (1, μ3) := by
  obtain ⟨y, μ1, μ2, a1, a2, a3⟩ := law_call hI (fun μ' h => P_swap (L := L) (S := S) (T := T) (a1 := S (3, 0, 0) (Int32.toNatClampNeg (nI x + 1))) (a2 := S (3, 0, 0) (Int32.toNatClampNeg (nI x + 2))) h)
  obtain ⟨μ3, h3⟩ := next μ2 a3
  refine ⟨μ3, Ev.step ?_⟩
  simp only [e227_280, show inb (nI x + 1) L = true from inb_x (c := 1) hL (by omega), show inb (nI x + 2) L = true from inb_x (c := 2) hL (by omega), cond_true]
  refine Ev.bind a1 ?_
  refine Ev.bind a2 ?_
  simp only [if_true]
  exact h3
theorem lw_store (hS : StS S) (hI : Inv T μ μ) (hx : x + 6 ≤ L) (hL : L < 2 ^ 31) (hT : T + 600 < 2 ^ 27) (next : ∀ μ2, Inv (T + 200) μ2 μ2 → ∃ μ3, Ev (fun F => run L S F 31 227 1396 [some (vR (3, 0, 0)), some (vR (0, 0, 0)), some (vR (2, 0, 0)), some (vI (nI x))] μ2) (1, μ3)) : ∃ μ3, Ev (fun F => run L S F 31 227 313 [some (vR (3, 0, 0)), some (vR (0, 0, 0)), some (vR (2, 0, 0)), some (vI (nI x))] μ) (1, μ3) := by
  obtain ⟨y, μ1, μ2, a1, a2, a3⟩ := law_call hI (fun μ' h => P_store (L := L) (S := S) (T := T) (a1 := S (3, 0, 0) (Int32.toNatClampNeg (nI x + 1))) (a2 := S (3, 0, 0) (Int32.toNatClampNeg (nI x + 2))) h)
  obtain ⟨μ3, h3⟩ := next μ2 a3
  refine ⟨μ3, Ev.step ?_⟩
  simp only [e227_313, show inb (nI x + 1) L = true from inb_x (c := 1) hL (by omega), show inb (nI x + 2) L = true from inb_x (c := 2) hL (by omega), cond_true]
  refine Ev.bind a1 ?_
  refine Ev.bind a2 ?_
  simp only [if_true]
  exact h3
theorem lw_weak (hS : StS S) (hI : Inv T μ μ) (hx : x + 6 ≤ L) (hL : L < 2 ^ 31) (hT : T + 600 < 2 ^ 27) (next : ∀ μ2, Inv (T + 200) μ2 μ2 → ∃ μ3, Ev (fun F => run L S F 31 227 1396 [some (vR (3, 0, 0)), some (vR (0, 0, 0)), some (vR (2, 0, 0)), some (vI (nI x))] μ2) (1, μ3)) : ∃ μ3, Ev (fun F => run L S F 31 227 346 [some (vR (3, 0, 0)), some (vR (0, 0, 0)), some (vR (2, 0, 0)), some (vI (nI x))] μ) (1, μ3) := by
  obtain ⟨y, μ1, μ2, a1, a2, a3⟩ := law_call hI (fun μ' h => P_weak (L := L) (S := S) (T := T) (a1 := S (3, 0, 0) (Int32.toNatClampNeg (nI x + 1))) (a2 := S (3, 0, 0) (Int32.toNatClampNeg (nI x + 2))) h)
  obtain ⟨μ3, h3⟩ := next μ2 a3
  refine ⟨μ3, Ev.step ?_⟩
  simp only [e227_346, show inb (nI x + 1) L = true from inb_x (c := 1) hL (by omega), show inb (nI x + 2) L = true from inb_x (c := 2) hL (by omega), cond_true]
  refine Ev.bind a1 ?_
  refine Ev.bind a2 ?_
  simp only [if_true]
  exact h3
theorem lw_feed (hS : StS S) (hI : Inv T μ μ) (hx : x + 6 ≤ L) (hL : L < 2 ^ 31) (hT : T + 600 < 2 ^ 27) (next : ∀ μ2, Inv (T + 200) μ2 μ2 → ∃ μ3, Ev (fun F => run L S F 31 227 1396 [some (vR (3, 0, 0)), some (vR (0, 0, 0)), some (vR (2, 0, 0)), some (vI (nI x))] μ2) (1, μ3)) : ∃ μ3, Ev (fun F => run L S F 31 227 379 [some (vR (3, 0, 0)), some (vR (0, 0, 0)), some (vR (2, 0, 0)), some (vI (nI x))] μ) (1, μ3) := by
  obtain ⟨y, μ1, μ2, a1, a2, a3⟩ := law_call hI (fun μ' h => P_feed (L := L) (S := S) (T := T) (a1 := S (3, 0, 0) (Int32.toNatClampNeg (nI x + 1))) (a2 := S (3, 0, 0) (Int32.toNatClampNeg (nI x + 2))) (a3 := S (3, 0, 0) (Int32.toNatClampNeg (nI x + 3))) (a4 := S (3, 0, 0) (Int32.toNatClampNeg (nI x + 4))) (a5 := S (3, 0, 0) (Int32.toNatClampNeg (nI x + 5))) h)
  obtain ⟨μ3, h3⟩ := next μ2 a3
  refine ⟨μ3, Ev.step ?_⟩
  simp only [e227_379, show inb (nI x + 1) L = true from inb_x (c := 1) hL (by omega), show inb (nI x + 2) L = true from inb_x (c := 2) hL (by omega), show inb (nI x + 3) L = true from inb_x (c := 3) hL (by omega), show inb (nI x + 4) L = true from inb_x (c := 4) hL (by omega), show inb (nI x + 5) L = true from inb_x (c := 5) hL (by omega), cond_true]
  refine Ev.bind a1 ?_
  refine Ev.bind a2 ?_
  simp only [if_true]
  exact h3
theorem lw_pattern (hS : StS S) (hI : Inv T μ μ) (hx : x + 6 ≤ L) (hL : L < 2 ^ 31) (hT : T + 600 < 2 ^ 27) (next : ∀ μ2, Inv (T + 200) μ2 μ2 → ∃ μ3, Ev (fun F => run L S F 31 227 1396 [some (vR (3, 0, 0)), some (vR (0, 0, 0)), some (vR (2, 0, 0)), some (vI (nI x))] μ2) (1, μ3)) : ∃ μ3, Ev (fun F => run L S F 31 227 442 [some (vR (3, 0, 0)), some (vR (0, 0, 0)), some (vR (2, 0, 0)), some (vI (nI x))] μ) (1, μ3) := by
  obtain ⟨y, μ1, μ2, a1, a2, a3⟩ := law_call hI (fun μ' h => P_pattern (L := L) (S := S) (T := T) (a1 := S (3, 0, 0) (Int32.toNatClampNeg (nI x + 1))) h)
  obtain ⟨μ3, h3⟩ := next μ2 a3
  refine ⟨μ3, Ev.step ?_⟩
  simp only [e227_442, show inb (nI x + 1) L = true from inb_x (c := 1) hL (by omega), cond_true]
  refine Ev.bind a1 ?_
  refine Ev.bind a2 ?_
  simp only [if_true]
  exact h3
theorem lw_fault (hS : StS S) (hI : Inv T μ μ) (hx : x + 6 ≤ L) (hL : L < 2 ^ 31) (hT : T + 600 < 2 ^ 27) (next : ∀ μ2, Inv (T + 200) μ2 μ2 → ∃ μ3, Ev (fun F => run L S F 31 227 1396 [some (vR (3, 0, 0)), some (vR (0, 0, 0)), some (vR (2, 0, 0)), some (vI (nI x))] μ2) (1, μ3)) : ∃ μ3, Ev (fun F => run L S F 31 227 465 [some (vR (3, 0, 0)), some (vR (0, 0, 0)), some (vR (2, 0, 0)), some (vI (nI x))] μ) (1, μ3) := by
  obtain ⟨y, μ1, μ2, a1, a2, a3⟩ := law_call hI (fun μ' h => P_fault (L := L) (S := S) (T := T) (a1 := S (3, 0, 0) (Int32.toNatClampNeg (nI x + 1))) h)
  obtain ⟨μ3, h3⟩ := next μ2 a3
  refine ⟨μ3, Ev.step ?_⟩
  simp only [e227_465, show inb (nI x + 1) L = true from inb_x (c := 1) hL (by omega), cond_true]
  refine Ev.bind a1 ?_
  refine Ev.bind a2 ?_
  simp only [if_true]
  exact h3
theorem lw_ask (hS : StS S) (hI : Inv T μ μ) (hx : x + 6 ≤ L) (hL : L < 2 ^ 31) (hT : T + 600 < 2 ^ 27) (next : ∀ μ2, Inv (T + 200) μ2 μ2 → ∃ μ3, Ev (fun F => run L S F 31 227 1396 [some (vR (3, 0, 0)), some (vR (0, 0, 0)), some (vR (2, 0, 0)), some (vI (nI x))] μ2) (1, μ3)) : ∃ μ3, Ev (fun F => run L S F 31 227 488 [some (vR (3, 0, 0)), some (vR (0, 0, 0)), some (vR (2, 0, 0)), some (vI (nI x))] μ) (1, μ3) := by
  obtain ⟨y, μ1, μ2, a1, a2, a3⟩ := law_call hI (fun μ' h => P_ask (L := L) (S := S) (T := T) (a1 := S (3, 0, 0) (Int32.toNatClampNeg (nI x + 1))) (a2 := S (3, 0, 0) (Int32.toNatClampNeg (nI x + 2))) h)
  obtain ⟨μ3, h3⟩ := next μ2 a3
  refine ⟨μ3, Ev.step ?_⟩
  simp only [e227_488, show inb (nI x + 1) L = true from inb_x (c := 1) hL (by omega), show inb (nI x + 2) L = true from inb_x (c := 2) hL (by omega), cond_true]
  refine Ev.bind a1 ?_
  refine Ev.bind a2 ?_
  simp only [if_true]
  exact h3
theorem lw_pair (hS : StS S) (hI : Inv T μ μ) (hx : x + 6 ≤ L) (hL : L < 2 ^ 31) (hT : T + 600 < 2 ^ 27) (next : ∀ μ2, Inv (T + 200) μ2 μ2 → ∃ μ3, Ev (fun F => run L S F 31 227 1396 [some (vR (3, 0, 0)), some (vR (0, 0, 0)), some (vR (2, 0, 0)), some (vI (nI x))] μ2) (1, μ3)) : ∃ μ3, Ev (fun F => run L S F 31 227 521 [some (vR (3, 0, 0)), some (vR (0, 0, 0)), some (vR (2, 0, 0)), some (vI (nI x))] μ) (1, μ3) := by
  obtain ⟨y, μ1, μ2, a1, a2, a3⟩ := law_call hI (fun μ' h => P_pair (L := L) (S := S) (T := T) (a1 := S (3, 0, 0) (Int32.toNatClampNeg (nI x + 1))) (a2 := S (3, 0, 0) (Int32.toNatClampNeg (nI x + 2))) (a3 := S (3, 0, 0) (Int32.toNatClampNeg (nI x + 3))) h)
  obtain ⟨μ3, h3⟩ := next μ2 a3
  refine ⟨μ3, Ev.step ?_⟩
  simp only [e227_521, show inb (nI x + 1) L = true from inb_x (c := 1) hL (by omega), show inb (nI x + 2) L = true from inb_x (c := 2) hL (by omega), show inb (nI x + 3) L = true from inb_x (c := 3) hL (by omega), cond_true]
  refine Ev.bind a1 ?_
  refine Ev.bind a2 ?_
  simp only [if_true]
  exact h3
theorem lw_drop (hS : StS S) (hI : Inv T μ μ) (hx : x + 6 ≤ L) (hL : L < 2 ^ 31) (hT : T + 600 < 2 ^ 27) (next : ∀ μ2, Inv (T + 200) μ2 μ2 → ∃ μ3, Ev (fun F => run L S F 31 227 1396 [some (vR (3, 0, 0)), some (vR (0, 0, 0)), some (vR (2, 0, 0)), some (vI (nI x))] μ2) (1, μ3)) : ∃ μ3, Ev (fun F => run L S F 31 227 564 [some (vR (3, 0, 0)), some (vR (0, 0, 0)), some (vR (2, 0, 0)), some (vI (nI x))] μ) (1, μ3) := by
  obtain ⟨y, μ1, μ2, a1, a2, a3⟩ := law_call hI (fun μ' h => P_drop (L := L) (S := S) (T := T)  h)
  obtain ⟨μ3, h3⟩ := next μ2 a3
  refine ⟨μ3, Ev.step ?_⟩
  simp only [e227_564]
  refine Ev.bind a1 ?_
  refine Ev.bind a2 ?_
  simp only [if_true]
  exact h3
theorem lw_refresh (hS : StS S) (hI : Inv T μ μ) (hx : x + 6 ≤ L) (hL : L < 2 ^ 31) (hT : T + 600 < 2 ^ 27) (next : ∀ μ2, Inv (T + 200) μ2 μ2 → ∃ μ3, Ev (fun F => run L S F 31 227 1396 [some (vR (3, 0, 0)), some (vR (0, 0, 0)), some (vR (2, 0, 0)), some (vI (nI x))] μ2) (1, μ3)) : ∃ μ3, Ev (fun F => run L S F 31 227 577 [some (vR (3, 0, 0)), some (vR (0, 0, 0)), some (vR (2, 0, 0)), some (vI (nI x))] μ) (1, μ3) := by
  obtain ⟨y, μ1, μ2, a1, a2, a3⟩ := law_call hI (fun μ' h => P_refresh (L := L) (S := S) (T := T) (a1 := S (3, 0, 0) (Int32.toNatClampNeg (nI x + 1))) h)
  obtain ⟨μ3, h3⟩ := next μ2 a3
  refine ⟨μ3, Ev.step ?_⟩
  simp only [e227_577, show inb (nI x + 1) L = true from inb_x (c := 1) hL (by omega), cond_true]
  refine Ev.bind a1 ?_
  refine Ev.bind a2 ?_
  simp only [if_true]
  exact h3
theorem lw_tick (hS : StS S) (hI : Inv T μ μ) (hx : x + 6 ≤ L) (hL : L < 2 ^ 31) (hT : T + 600 < 2 ^ 27) (next : ∀ μ2, Inv (T + 200) μ2 μ2 → ∃ μ3, Ev (fun F => run L S F 31 227 1396 [some (vR (3, 0, 0)), some (vR (0, 0, 0)), some (vR (2, 0, 0)), some (vI (nI x))] μ2) (1, μ3)) : ∃ μ3, Ev (fun F => run L S F 31 227 600 [some (vR (3, 0, 0)), some (vR (0, 0, 0)), some (vR (2, 0, 0)), some (vI (nI x))] μ) (1, μ3) := by
  obtain ⟨y, μ1, μ2, a1, a2, a3⟩ := law_call hI (fun μ' h => P_tick (L := L) (S := S) (T := T) (a1 := S (3, 0, 0) (Int32.toNatClampNeg (nI x + 1))) h (by omega))
  obtain ⟨μ3, h3⟩ := next μ2 a3
  refine ⟨μ3, Ev.step ?_⟩
  simp only [e227_600, show inb (nI x + 1) L = true from inb_x (c := 1) hL (by omega), cond_true]
  refine Ev.bind a1 ?_
  refine Ev.bind a2 ?_
  simp only [if_true]
  exact h3
theorem lw_row (hS : StS S) (hI : Inv T μ μ) (hx : x + 6 ≤ L) (hL : L < 2 ^ 31) (hT : T + 600 < 2 ^ 27) (next : ∀ μ2, Inv (T + 200) μ2 μ2 → ∃ μ3, Ev (fun F => run L S F 31 227 1396 [some (vR (3, 0, 0)), some (vR (0, 0, 0)), some (vR (2, 0, 0)), some (vI (nI x))] μ2) (1, μ3)) : ∃ μ3, Ev (fun F => run L S F 31 227 623 [some (vR (3, 0, 0)), some (vR (0, 0, 0)), some (vR (2, 0, 0)), some (vI (nI x))] μ) (1, μ3) := by
  obtain ⟨y, μ1, μ2, a1, a2, a3⟩ := law_call hI (fun μ' h => P_row (L := L) (S := S) (T := T) (a1 := S (3, 0, 0) (Int32.toNatClampNeg (nI x + 1))) (a2 := S (3, 0, 0) (Int32.toNatClampNeg (nI x + 2))) h)
  obtain ⟨μ3, h3⟩ := next μ2 a3
  refine ⟨μ3, Ev.step ?_⟩
  simp only [e227_623, show inb (nI x + 1) L = true from inb_x (c := 1) hL (by omega), show inb (nI x + 2) L = true from inb_x (c := 2) hL (by omega), cond_true]
  refine Ev.bind a1 ?_
  refine Ev.bind a2 ?_
  simp only [if_true]
  exact h3
theorem lw_at (hS : StS S) (hI : Inv T μ μ) (hx : x + 6 ≤ L) (hL : L < 2 ^ 31) (hT : T + 600 < 2 ^ 27) (next : ∀ μ2, Inv (T + 200) μ2 μ2 → ∃ μ3, Ev (fun F => run L S F 31 227 1396 [some (vR (3, 0, 0)), some (vR (0, 0, 0)), some (vR (2, 0, 0)), some (vI (nI x))] μ2) (1, μ3)) : ∃ μ3, Ev (fun F => run L S F 31 227 656 [some (vR (3, 0, 0)), some (vR (0, 0, 0)), some (vR (2, 0, 0)), some (vI (nI x))] μ) (1, μ3) := by
  obtain ⟨y, μ1, μ2, a1, a2, a3⟩ := law_call hI (fun μ' h => P_at (L := L) (S := S) (T := T) (a1 := S (3, 0, 0) (Int32.toNatClampNeg (nI x + 1))) h)
  obtain ⟨μ3, h3⟩ := next μ2 a3
  refine ⟨μ3, Ev.step ?_⟩
  simp only [e227_656, show inb (nI x + 1) L = true from inb_x (c := 1) hL (by omega), cond_true]
  refine Ev.bind a1 ?_
  refine Ev.bind a2 ?_
  simp only [if_true]
  exact h3
theorem lw_data (hS : StS S) (hI : Inv T μ μ) (hx : x + 6 ≤ L) (hL : L < 2 ^ 31) (hT : T + 600 < 2 ^ 27) (next : ∀ μ2, Inv (T + 200) μ2 μ2 → ∃ μ3, Ev (fun F => run L S F 31 227 1396 [some (vR (3, 0, 0)), some (vR (0, 0, 0)), some (vR (2, 0, 0)), some (vI (nI x))] μ2) (1, μ3)) : ∃ μ3, Ev (fun F => run L S F 31 227 679 [some (vR (3, 0, 0)), some (vR (0, 0, 0)), some (vR (2, 0, 0)), some (vI (nI x))] μ) (1, μ3) := by
  obtain ⟨y, μ1, μ2, a1, a2, a3⟩ := law_call hI (fun μ' h => P_data (L := L) (S := S) (T := T) (a1 := S (3, 0, 0) (Int32.toNatClampNeg (nI x + 1))) (a2 := S (3, 0, 0) (Int32.toNatClampNeg (nI x + 2))) h)
  obtain ⟨μ3, h3⟩ := next μ2 a3
  refine ⟨μ3, Ev.step ?_⟩
  simp only [e227_679, show inb (nI x + 1) L = true from inb_x (c := 1) hL (by omega), show inb (nI x + 2) L = true from inb_x (c := 2) hL (by omega), cond_true]
  refine Ev.bind a1 ?_
  refine Ev.bind a2 ?_
  simp only [if_true]
  exact h3
theorem lw_slot (hS : StS S) (hI : Inv T μ μ) (hx : x + 6 ≤ L) (hL : L < 2 ^ 31) (hT : T + 600 < 2 ^ 27) (next : ∀ μ2, Inv (T + 200) μ2 μ2 → ∃ μ3, Ev (fun F => run L S F 31 227 1396 [some (vR (3, 0, 0)), some (vR (0, 0, 0)), some (vR (2, 0, 0)), some (vI (nI x))] μ2) (1, μ3)) : ∃ μ3, Ev (fun F => run L S F 31 227 712 [some (vR (3, 0, 0)), some (vR (0, 0, 0)), some (vR (2, 0, 0)), some (vI (nI x))] μ) (1, μ3) := by
  obtain ⟨y, μ1, μ2, a1, a2, a3⟩ := law_call hI (fun μ' h => P_slot (L := L) (S := S) (T := T) (a1 := S (3, 0, 0) (Int32.toNatClampNeg (nI x + 1))) (a2 := S (3, 0, 0) (Int32.toNatClampNeg (nI x + 2))) h)
  obtain ⟨μ3, h3⟩ := next μ2 a3
  refine ⟨μ3, Ev.step ?_⟩
  simp only [e227_712, show inb (nI x + 1) L = true from inb_x (c := 1) hL (by omega), show inb (nI x + 2) L = true from inb_x (c := 2) hL (by omega), cond_true]
  refine Ev.bind a1 ?_
  refine Ev.bind a2 ?_
  simp only [if_true]
  exact h3
theorem lw_spill (hS : StS S) (hI : Inv T μ μ) (hx : x + 6 ≤ L) (hL : L < 2 ^ 31) (hT : T + 600 < 2 ^ 27) (next : ∀ μ2, Inv (T + 200) μ2 μ2 → ∃ μ3, Ev (fun F => run L S F 31 227 1396 [some (vR (3, 0, 0)), some (vR (0, 0, 0)), some (vR (2, 0, 0)), some (vI (nI x))] μ2) (1, μ3)) : ∃ μ3, Ev (fun F => run L S F 31 227 745 [some (vR (3, 0, 0)), some (vR (0, 0, 0)), some (vR (2, 0, 0)), some (vI (nI x))] μ) (1, μ3) := by
  obtain ⟨y, μ1, μ2, a1, a2, a3⟩ := law_call hI (fun μ' h => P_spill (L := L) (S := S) (T := T)  h)
  obtain ⟨μ3, h3⟩ := next μ2 a3
  refine ⟨μ3, Ev.step ?_⟩
  simp only [e227_745]
  refine Ev.bind a1 ?_
  refine Ev.bind a2 ?_
  simp only [if_true]
  exact h3
theorem lw_queued (hS : StS S) (hI : Inv T μ μ) (hx : x + 6 ≤ L) (hL : L < 2 ^ 31) (hT : T + 600 < 2 ^ 27) (next : ∀ μ2, Inv (T + 200) μ2 μ2 → ∃ μ3, Ev (fun F => run L S F 31 227 1396 [some (vR (3, 0, 0)), some (vR (0, 0, 0)), some (vR (2, 0, 0)), some (vI (nI x))] μ2) (1, μ3)) : ∃ μ3, Ev (fun F => run L S F 31 227 758 [some (vR (3, 0, 0)), some (vR (0, 0, 0)), some (vR (2, 0, 0)), some (vI (nI x))] μ) (1, μ3) := by
  obtain ⟨y, μ1, μ2, a1, a2, a3⟩ := law_call hI (fun μ' h => P_queued (L := L) (S := S) (T := T) (a1 := S (3, 0, 0) (Int32.toNatClampNeg (nI x + 1))) h)
  obtain ⟨μ3, h3⟩ := next μ2 a3
  refine ⟨μ3, Ev.step ?_⟩
  simp only [e227_758, show inb (nI x + 1) L = true from inb_x (c := 1) hL (by omega), cond_true]
  refine Ev.bind a1 ?_
  refine Ev.bind a2 ?_
  simp only [if_true]
  exact h3
theorem lw_request (hS : StS S) (hI : Inv T μ μ) (hx : x + 6 ≤ L) (hL : L < 2 ^ 31) (hT : T + 600 < 2 ^ 27) (next : ∀ μ2, Inv (T + 200) μ2 μ2 → ∃ μ3, Ev (fun F => run L S F 31 227 1396 [some (vR (3, 0, 0)), some (vR (0, 0, 0)), some (vR (2, 0, 0)), some (vI (nI x))] μ2) (1, μ3)) : ∃ μ3, Ev (fun F => run L S F 31 227 781 [some (vR (3, 0, 0)), some (vR (0, 0, 0)), some (vR (2, 0, 0)), some (vI (nI x))] μ) (1, μ3) := by
  obtain ⟨y, μ1, μ2, a1, a2, a3⟩ := law_call hI (fun μ' h => P_request (L := L) (S := S) (T := T) (a1 := S (3, 0, 0) (Int32.toNatClampNeg (nI x + 1))) h)
  obtain ⟨μ3, h3⟩ := next μ2 a3
  refine ⟨μ3, Ev.step ?_⟩
  simp only [e227_781, show inb (nI x + 1) L = true from inb_x (c := 1) hL (by omega), cond_true]
  refine Ev.bind a1 ?_
  refine Ev.bind a2 ?_
  simp only [if_true]
  exact h3
theorem lw_often (hS : StS S) (hI : Inv T μ μ) (hx : x + 6 ≤ L) (hL : L < 2 ^ 31) (hT : T + 600 < 2 ^ 27) (next : ∀ μ2, Inv (T + 200) μ2 μ2 → ∃ μ3, Ev (fun F => run L S F 31 227 1396 [some (vR (3, 0, 0)), some (vR (0, 0, 0)), some (vR (2, 0, 0)), some (vI (nI x))] μ2) (1, μ3)) : ∃ μ3, Ev (fun F => run L S F 31 227 804 [some (vR (3, 0, 0)), some (vR (0, 0, 0)), some (vR (2, 0, 0)), some (vI (nI x))] μ) (1, μ3) := by
  obtain ⟨y, μ1, μ2, a1, a2, a3⟩ := law_call hI (fun μ' h => P_often (L := L) (S := S) (T := T) (a1 := S (3, 0, 0) (Int32.toNatClampNeg (nI x + 1))) h)
  obtain ⟨μ3, h3⟩ := next μ2 a3
  refine ⟨μ3, Ev.step ?_⟩
  simp only [e227_804, show inb (nI x + 1) L = true from inb_x (c := 1) hL (by omega), cond_true]
  refine Ev.bind a1 ?_
  refine Ev.bind a2 ?_
  simp only [if_true]
  exact h3
theorem lw_missed (hS : StS S) (hI : Inv T μ μ) (hx : x + 6 ≤ L) (hL : L < 2 ^ 31) (hT : T + 600 < 2 ^ 27) (next : ∀ μ2, Inv (T + 200) μ2 μ2 → ∃ μ3, Ev (fun F => run L S F 31 227 1396 [some (vR (3, 0, 0)), some (vR (0, 0, 0)), some (vR (2, 0, 0)), some (vI (nI x))] μ2) (1, μ3)) : ∃ μ3, Ev (fun F => run L S F 31 227 827 [some (vR (3, 0, 0)), some (vR (0, 0, 0)), some (vR (2, 0, 0)), some (vI (nI x))] μ) (1, μ3) := by
  obtain ⟨y, μ1, μ2, a1, a2, a3⟩ := law_call hI (fun μ' h => P_missed (L := L) (S := S) (T := T)  h)
  obtain ⟨μ3, h3⟩ := next μ2 a3
  refine ⟨μ3, Ev.step ?_⟩
  simp only [e227_827]
  refine Ev.bind a1 ?_
  refine Ev.bind a2 ?_
  simp only [if_true]
  exact h3
theorem lw_most (hS : StS S) (hI : Inv T μ μ) (hx : x + 6 ≤ L) (hL : L < 2 ^ 31) (hT : T + 600 < 2 ^ 27) (next : ∀ μ2, Inv (T + 200) μ2 μ2 → ∃ μ3, Ev (fun F => run L S F 31 227 1396 [some (vR (3, 0, 0)), some (vR (0, 0, 0)), some (vR (2, 0, 0)), some (vI (nI x))] μ2) (1, μ3)) : ∃ μ3, Ev (fun F => run L S F 31 227 840 [some (vR (3, 0, 0)), some (vR (0, 0, 0)), some (vR (2, 0, 0)), some (vI (nI x))] μ) (1, μ3) := by
  obtain ⟨y, μ1, μ2, a1, a2, a3⟩ := law_call hI (fun μ' h => P_most (L := L) (S := S) (T := T) (a1 := S (3, 0, 0) (Int32.toNatClampNeg (nI x + 1))) h)
  obtain ⟨μ3, h3⟩ := next μ2 a3
  refine ⟨μ3, Ev.step ?_⟩
  simp only [e227_840, show inb (nI x + 1) L = true from inb_x (c := 1) hL (by omega), cond_true]
  refine Ev.bind a1 ?_
  refine Ev.bind a2 ?_
  simp only [if_true]
  exact h3
theorem lw_spent (hS : StS S) (hI : Inv T μ μ) (hx : x + 6 ≤ L) (hL : L < 2 ^ 31) (hT : T + 600 < 2 ^ 27) (next : ∀ μ2, Inv (T + 200) μ2 μ2 → ∃ μ3, Ev (fun F => run L S F 31 227 1396 [some (vR (3, 0, 0)), some (vR (0, 0, 0)), some (vR (2, 0, 0)), some (vI (nI x))] μ2) (1, μ3)) : ∃ μ3, Ev (fun F => run L S F 31 227 863 [some (vR (3, 0, 0)), some (vR (0, 0, 0)), some (vR (2, 0, 0)), some (vI (nI x))] μ) (1, μ3) := by
  obtain ⟨y, μ1, μ2, a1, a2, a3⟩ := law_call hI (fun μ' h => P_spent (L := L) (S := S) (T := T) (a1 := S (3, 0, 0) (Int32.toNatClampNeg (nI x + 1))) h)
  obtain ⟨μ3, h3⟩ := next μ2 a3
  refine ⟨μ3, Ev.step ?_⟩
  simp only [e227_863, show inb (nI x + 1) L = true from inb_x (c := 1) hL (by omega), cond_true]
  refine Ev.bind a1 ?_
  refine Ev.bind a2 ?_
  simp only [if_true]
  exact h3
theorem lw_told (hS : StS S) (hI : Inv T μ μ) (hx : x + 6 ≤ L) (hL : L < 2 ^ 31) (hT : T + 600 < 2 ^ 27) (next : ∀ μ2, Inv (T + 200) μ2 μ2 → ∃ μ3, Ev (fun F => run L S F 31 227 1396 [some (vR (3, 0, 0)), some (vR (0, 0, 0)), some (vR (2, 0, 0)), some (vI (nI x))] μ2) (1, μ3)) : ∃ μ3, Ev (fun F => run L S F 31 227 886 [some (vR (3, 0, 0)), some (vR (0, 0, 0)), some (vR (2, 0, 0)), some (vI (nI x))] μ) (1, μ3) := by
  obtain ⟨y, μ1, μ2, a1, a2, a3⟩ := law_call hI (fun μ' h => P_told (L := L) (S := S) (T := T) (a1 := S (3, 0, 0) (Int32.toNatClampNeg (nI x + 1))) h)
  obtain ⟨μ3, h3⟩ := next μ2 a3
  refine ⟨μ3, Ev.step ?_⟩
  simp only [e227_886, show inb (nI x + 1) L = true from inb_x (c := 1) hL (by omega), cond_true]
  refine Ev.bind a1 ?_
  refine Ev.bind a2 ?_
  simp only [if_true]
  exact h3
theorem lw_could (hS : StS S) (hI : Inv T μ μ) (hx : x + 6 ≤ L) (hL : L < 2 ^ 31) (hT : T + 600 < 2 ^ 27) (next : ∀ μ2, Inv (T + 200) μ2 μ2 → ∃ μ3, Ev (fun F => run L S F 31 227 1396 [some (vR (3, 0, 0)), some (vR (0, 0, 0)), some (vR (2, 0, 0)), some (vI (nI x))] μ2) (1, μ3)) : ∃ μ3, Ev (fun F => run L S F 31 227 909 [some (vR (3, 0, 0)), some (vR (0, 0, 0)), some (vR (2, 0, 0)), some (vI (nI x))] μ) (1, μ3) := by
  obtain ⟨y, μ1, μ2, a1, a2, a3⟩ := law_call hI (fun μ' h => P_could (L := L) (S := S) (T := T)  h)
  obtain ⟨μ3, h3⟩ := next μ2 a3
  refine ⟨μ3, Ev.step ?_⟩
  simp only [e227_909]
  refine Ev.bind a1 ?_
  refine Ev.bind a2 ?_
  simp only [if_true]
  exact h3
theorem lw_least (hS : StS S) (hI : Inv T μ μ) (hx : x + 6 ≤ L) (hL : L < 2 ^ 31) (hT : T + 600 < 2 ^ 27) (next : ∀ μ2, Inv (T + 200) μ2 μ2 → ∃ μ3, Ev (fun F => run L S F 31 227 1396 [some (vR (3, 0, 0)), some (vR (0, 0, 0)), some (vR (2, 0, 0)), some (vI (nI x))] μ2) (1, μ3)) : ∃ μ3, Ev (fun F => run L S F 31 227 922 [some (vR (3, 0, 0)), some (vR (0, 0, 0)), some (vR (2, 0, 0)), some (vI (nI x))] μ) (1, μ3) := by
  obtain ⟨y, μ1, μ2, a1, a2, a3⟩ := law_call hI (fun μ' h => P_least (L := L) (S := S) (T := T)  h)
  obtain ⟨μ3, h3⟩ := next μ2 a3
  refine ⟨μ3, Ev.step ?_⟩
  simp only [e227_922]
  refine Ev.bind a1 ?_
  refine Ev.bind a2 ?_
  simp only [if_true]
  exact h3
theorem lw_hammer (hS : StS S) (hI : Inv T μ μ) (hx : x + 6 ≤ L) (hL : L < 2 ^ 31) (hT : T + 600 < 2 ^ 27) (next : ∀ μ2, Inv (T + 200) μ2 μ2 → ∃ μ3, Ev (fun F => run L S F 31 227 1396 [some (vR (3, 0, 0)), some (vR (0, 0, 0)), some (vR (2, 0, 0)), some (vI (nI x))] μ2) (1, μ3)) : ∃ μ3, Ev (fun F => run L S F 31 227 935 [some (vR (3, 0, 0)), some (vR (0, 0, 0)), some (vR (2, 0, 0)), some (vI (nI x))] μ) (1, μ3) := by
  obtain ⟨y, μ1, μ2, a1, a2, a3⟩ := law_call hI (fun μ' h => P_hammer (L := L) (S := S) (T := T) (a1 := S (3, 0, 0) (Int32.toNatClampNeg (nI x + 1))) (a2 := S (3, 0, 0) (Int32.toNatClampNeg (nI x + 2))) (a3 := S (3, 0, 0) (Int32.toNatClampNeg (nI x + 3))) h (by omega))
  obtain ⟨μ3, h3⟩ := next μ2 a3
  refine ⟨μ3, Ev.step ?_⟩
  simp only [e227_935, show inb (nI x + 1) L = true from inb_x (c := 1) hL (by omega), show inb (nI x + 2) L = true from inb_x (c := 2) hL (by omega), show inb (nI x + 3) L = true from inb_x (c := 3) hL (by omega), cond_true]
  refine Ev.bind a1 ?_
  refine Ev.bind a2 ?_
  simp only [if_true]
  exact h3
theorem lw_breaks (hS : StS S) (hI : Inv T μ μ) (hx : x + 6 ≤ L) (hL : L < 2 ^ 31) (hT : T + 600 < 2 ^ 27) (next : ∀ μ2, Inv (T + 200) μ2 μ2 → ∃ μ3, Ev (fun F => run L S F 31 227 1396 [some (vR (3, 0, 0)), some (vR (0, 0, 0)), some (vR (2, 0, 0)), some (vI (nI x))] μ2) (1, μ3)) : ∃ μ3, Ev (fun F => run L S F 31 227 978 [some (vR (3, 0, 0)), some (vR (0, 0, 0)), some (vR (2, 0, 0)), some (vI (nI x))] μ) (1, μ3) := by
  obtain ⟨y, μ1, μ2, a1, a2, a3⟩ := law_call hI (fun μ' h => P_breaks (L := L) (S := S) (T := T) (a1 := S (3, 0, 0) (Int32.toNatClampNeg (nI x + 1))) (a2 := S (3, 0, 0) (Int32.toNatClampNeg (nI x + 2))) h (by omega))
  obtain ⟨μ3, h3⟩ := next μ2 a3
  refine ⟨μ3, Ev.step ?_⟩
  simp only [e227_978, show inb (nI x + 1) L = true from inb_x (c := 1) hL (by omega), show inb (nI x + 2) L = true from inb_x (c := 2) hL (by omega), cond_true]
  refine Ev.bind a1 ?_
  refine Ev.bind a2 ?_
  simp only [if_true]
  exact h3
theorem lw_worst (hS : StS S) (hI : Inv T μ μ) (hx : x + 6 ≤ L) (hL : L < 2 ^ 31) (hT : T + 600 < 2 ^ 27) (next : ∀ μ2, Inv (T + 200) μ2 μ2 → ∃ μ3, Ev (fun F => run L S F 31 227 1396 [some (vR (3, 0, 0)), some (vR (0, 0, 0)), some (vR (2, 0, 0)), some (vI (nI x))] μ2) (1, μ3)) : ∃ μ3, Ev (fun F => run L S F 31 227 1011 [some (vR (3, 0, 0)), some (vR (0, 0, 0)), some (vR (2, 0, 0)), some (vI (nI x))] μ) (1, μ3) := by
  obtain ⟨y, μ1, μ2, a1, a2, a3⟩ := law_call hI (fun μ' h => P_worst (L := L) (S := S) (T := T) (a1 := S (3, 0, 0) (Int32.toNatClampNeg (nI x + 1))) h (by omega))
  obtain ⟨μ3, h3⟩ := next μ2 a3
  refine ⟨μ3, Ev.step ?_⟩
  simp only [e227_1011, show inb (nI x + 1) L = true from inb_x (c := 1) hL (by omega), cond_true]
  refine Ev.bind a1 ?_
  refine Ev.bind a2 ?_
  simp only [if_true]
  exact h3
theorem lw_order (hS : StS S) (hI : Inv T μ μ) (hx : x + 6 ≤ L) (hL : L < 2 ^ 31) (hT : T + 600 < 2 ^ 27) (next : ∀ μ2, Inv (T + 200) μ2 μ2 → ∃ μ3, Ev (fun F => run L S F 31 227 1396 [some (vR (3, 0, 0)), some (vR (0, 0, 0)), some (vR (2, 0, 0)), some (vI (nI x))] μ2) (1, μ3)) : ∃ μ3, Ev (fun F => run L S F 31 227 1034 [some (vR (3, 0, 0)), some (vR (0, 0, 0)), some (vR (2, 0, 0)), some (vI (nI x))] μ) (1, μ3) := by
  obtain ⟨y, μ1, μ2, a1, a2, a3⟩ := law_call hI (fun μ' h => P_order (L := L) (S := S) (T := T) (a1 := S (3, 0, 0) (Int32.toNatClampNeg (nI x + 1))) (a2 := S (3, 0, 0) (Int32.toNatClampNeg (nI x + 2))) h (by omega))
  obtain ⟨μ3, h3⟩ := next μ2 a3
  refine ⟨μ3, Ev.step ?_⟩
  simp only [e227_1034, show inb (nI x + 1) L = true from inb_x (c := 1) hL (by omega), show inb (nI x + 2) L = true from inb_x (c := 2) hL (by omega), cond_true]
  refine Ev.bind a1 ?_
  refine Ev.bind a2 ?_
  simp only [if_true]
  exact h3
theorem lw_fewest (hS : StS S) (hI : Inv T μ μ) (hx : x + 6 ≤ L) (hL : L < 2 ^ 31) (hT : T + 600 < 2 ^ 27) (next : ∀ μ2, Inv (T + 200) μ2 μ2 → ∃ μ3, Ev (fun F => run L S F 31 227 1396 [some (vR (3, 0, 0)), some (vR (0, 0, 0)), some (vR (2, 0, 0)), some (vI (nI x))] μ2) (1, μ3)) : ∃ μ3, Ev (fun F => run L S F 31 227 1067 [some (vR (3, 0, 0)), some (vR (0, 0, 0)), some (vR (2, 0, 0)), some (vI (nI x))] μ) (1, μ3) := by
  obtain ⟨y, μ1, μ2, a1, a2, a3⟩ := law_call hI (fun μ' h => P_fewest (L := L) (S := S) (T := T)  h (by omega))
  obtain ⟨μ3, h3⟩ := next μ2 a3
  refine ⟨μ3, Ev.step ?_⟩
  simp only [e227_1067]
  refine Ev.bind a1 ?_
  refine Ev.bind a2 ?_
  simp only [if_true]
  exact h3
theorem lw_sure (hS : StS S) (hI : Inv T μ μ) (hx : x + 6 ≤ L) (hL : L < 2 ^ 31) (hT : T + 600 < 2 ^ 27) (next : ∀ μ2, Inv (T + 200) μ2 μ2 → ∃ μ3, Ev (fun F => run L S F 31 227 1396 [some (vR (3, 0, 0)), some (vR (0, 0, 0)), some (vR (2, 0, 0)), some (vI (nI x))] μ2) (1, μ3)) : ∃ μ3, Ev (fun F => run L S F 31 227 1080 [some (vR (3, 0, 0)), some (vR (0, 0, 0)), some (vR (2, 0, 0)), some (vI (nI x))] μ) (1, μ3) := by
  obtain ⟨y, μ1, μ2, a1, a2, a3⟩ := law_call hI (fun μ' h => P_sure (L := L) (S := S) (T := T) (a1 := S (3, 0, 0) (Int32.toNatClampNeg (nI x + 1))) h (by omega))
  obtain ⟨μ3, h3⟩ := next μ2 a3
  refine ⟨μ3, Ev.step ?_⟩
  simp only [e227_1080, show inb (nI x + 1) L = true from inb_x (c := 1) hL (by omega), cond_true]
  refine Ev.bind a1 ?_
  refine Ev.bind a2 ?_
  simp only [if_true]
  exact h3
theorem lw_choice (hS : StS S) (hI : Inv T μ μ) (hx : x + 6 ≤ L) (hL : L < 2 ^ 31) (hT : T + 600 < 2 ^ 27) (next : ∀ μ2, Inv (T + 200) μ2 μ2 → ∃ μ3, Ev (fun F => run L S F 31 227 1396 [some (vR (3, 0, 0)), some (vR (0, 0, 0)), some (vR (2, 0, 0)), some (vI (nI x))] μ2) (1, μ3)) : ∃ μ3, Ev (fun F => run L S F 31 227 1103 [some (vR (3, 0, 0)), some (vR (0, 0, 0)), some (vR (2, 0, 0)), some (vI (nI x))] μ) (1, μ3) := by
  obtain ⟨y, μ1, μ2, a1, a2, a3⟩ := law_call hI (fun μ' h => P_choice (L := L) (S := S) (T := T) (a1 := S (3, 0, 0) (Int32.toNatClampNeg (nI x + 1))) (a2 := S (3, 0, 0) (Int32.toNatClampNeg (nI x + 2))) h (by omega))
  obtain ⟨μ3, h3⟩ := next μ2 a3
  refine ⟨μ3, Ev.step ?_⟩
  simp only [e227_1103, show inb (nI x + 1) L = true from inb_x (c := 1) hL (by omega), show inb (nI x + 2) L = true from inb_x (c := 2) hL (by omega), cond_true]
  refine Ev.bind a1 ?_
  refine Ev.bind a2 ?_
  simp only [if_true]
  exact h3
theorem lw_attack (hS : StS S) (hI : Inv T μ μ) (hx : x + 6 ≤ L) (hL : L < 2 ^ 31) (hT : T + 600 < 2 ^ 27) (next : ∀ μ2, Inv (T + 200) μ2 μ2 → ∃ μ3, Ev (fun F => run L S F 31 227 1396 [some (vR (3, 0, 0)), some (vR (0, 0, 0)), some (vR (2, 0, 0)), some (vI (nI x))] μ2) (1, μ3)) : ∃ μ3, Ev (fun F => run L S F 31 227 1136 [some (vR (3, 0, 0)), some (vR (0, 0, 0)), some (vR (2, 0, 0)), some (vI (nI x))] μ) (1, μ3) := by
  obtain ⟨y, μ1, μ2, a1, a2, a3⟩ := law_call hI (fun μ' h => P_attack (L := L) (S := S) (T := T) (a1 := S (3, 0, 0) (Int32.toNatClampNeg (nI x + 1))) h (by omega))
  obtain ⟨μ3, h3⟩ := next μ2 a3
  refine ⟨μ3, Ev.step ?_⟩
  simp only [e227_1136, show inb (nI x + 1) L = true from inb_x (c := 1) hL (by omega), cond_true]
  refine Ev.bind a1 ?_
  refine Ev.bind a2 ?_
  simp only [if_true]
  exact h3
theorem lw_by (hS : StS S) (hI : Inv T μ μ) (hx : x + 6 ≤ L) (hL : L < 2 ^ 31) (hT : T + 600 < 2 ^ 27) (next : ∀ μ2, Inv (T + 200) μ2 μ2 → ∃ μ3, Ev (fun F => run L S F 31 227 1396 [some (vR (3, 0, 0)), some (vR (0, 0, 0)), some (vR (2, 0, 0)), some (vI (nI x))] μ2) (1, μ3)) : ∃ μ3, Ev (fun F => run L S F 31 227 1159 [some (vR (3, 0, 0)), some (vR (0, 0, 0)), some (vR (2, 0, 0)), some (vI (nI x))] μ) (1, μ3) := by
  obtain ⟨y, μ1, μ2, a1, a2, a3⟩ := law_call hI (fun μ' h => P_by (L := L) (S := S) (T := T) (a1 := S (3, 0, 0) (Int32.toNatClampNeg (nI x + 1))) (a2 := S (3, 0, 0) (Int32.toNatClampNeg (nI x + 2))) h (by omega))
  obtain ⟨μ3, h3⟩ := next μ2 a3
  refine ⟨μ3, Ev.step ?_⟩
  simp only [e227_1159, show inb (nI x + 1) L = true from inb_x (c := 1) hL (by omega), show inb (nI x + 2) L = true from inb_x (c := 2) hL (by omega), cond_true]
  refine Ev.bind a1 ?_
  refine Ev.bind a2 ?_
  simp only [if_true]
  exact h3
theorem lw_coarse (hS : StS S) (hI : Inv T μ μ) (hx : x + 6 ≤ L) (hL : L < 2 ^ 31) (hT : T + 600 < 2 ^ 27) (next : ∀ μ2, Inv (T + 200) μ2 μ2 → ∃ μ3, Ev (fun F => run L S F 31 227 1396 [some (vR (3, 0, 0)), some (vR (0, 0, 0)), some (vR (2, 0, 0)), some (vI (nI x))] μ2) (1, μ3)) : ∃ μ3, Ev (fun F => run L S F 31 227 1192 [some (vR (3, 0, 0)), some (vR (0, 0, 0)), some (vR (2, 0, 0)), some (vI (nI x))] μ) (1, μ3) := by
  obtain ⟨y, μ1, μ2, a1, a2, a3⟩ := law_call hI (fun μ' h => P_coarse (L := L) (S := S) (T := T) (a1 := S (3, 0, 0) (Int32.toNatClampNeg (nI x + 1))) h (by omega))
  obtain ⟨μ3, h3⟩ := next μ2 a3
  refine ⟨μ3, Ev.step ?_⟩
  simp only [e227_1192, show inb (nI x + 1) L = true from inb_x (c := 1) hL (by omega), cond_true]
  refine Ev.bind a1 ?_
  refine Ev.bind a2 ?_
  simp only [if_true]
  exact h3
theorem lw_small (hS : StS S) (hI : Inv T μ μ) (hx : x + 6 ≤ L) (hL : L < 2 ^ 31) (hT : T + 600 < 2 ^ 27) (next : ∀ μ2, Inv (T + 200) μ2 μ2 → ∃ μ3, Ev (fun F => run L S F 31 227 1396 [some (vR (3, 0, 0)), some (vR (0, 0, 0)), some (vR (2, 0, 0)), some (vI (nI x))] μ2) (1, μ3)) : ∃ μ3, Ev (fun F => run L S F 31 227 1215 [some (vR (3, 0, 0)), some (vR (0, 0, 0)), some (vR (2, 0, 0)), some (vI (nI x))] μ) (1, μ3) := by
  obtain ⟨y, μ1, μ2, a1, a2, a3⟩ := law_call hI (fun μ' h => P_small (L := L) (S := S) (T := T) (a1 := S (3, 0, 0) (Int32.toNatClampNeg (nI x + 1))) h (by omega))
  obtain ⟨μ3, h3⟩ := next μ2 a3
  refine ⟨μ3, Ev.step ?_⟩
  simp only [e227_1215, show inb (nI x + 1) L = true from inb_x (c := 1) hL (by omega), cond_true]
  refine Ev.bind a1 ?_
  refine Ev.bind a2 ?_
  simp only [if_true]
  exact h3
theorem lw_done (hS : StS S) (hI : Inv T μ μ) (hx : x + 6 ≤ L) (hL : L < 2 ^ 31) (hT : T + 600 < 2 ^ 27) (next : ∀ μ2, Inv (T + 200) μ2 μ2 → ∃ μ3, Ev (fun F => run L S F 31 227 1396 [some (vR (3, 0, 0)), some (vR (0, 0, 0)), some (vR (2, 0, 0)), some (vI (nI x))] μ2) (1, μ3)) : ∃ μ3, Ev (fun F => run L S F 31 227 1238 [some (vR (3, 0, 0)), some (vR (0, 0, 0)), some (vR (2, 0, 0)), some (vI (nI x))] μ) (1, μ3) := by
  obtain ⟨y, μ1, μ2, a1, a2, a3⟩ := law_call hI (fun μ' h => P_done (L := L) (S := S) (T := T) (a1 := S (3, 0, 0) (Int32.toNatClampNeg (nI x + 1))) h (by omega))
  obtain ⟨μ3, h3⟩ := next μ2 a3
  refine ⟨μ3, Ev.step ?_⟩
  simp only [e227_1238, show inb (nI x + 1) L = true from inb_x (c := 1) hL (by omega), cond_true]
  refine Ev.bind a1 ?_
  refine Ev.bind a2 ?_
  simp only [if_true]
  exact h3
theorem lw_storm (hS : StS S) (hI : Inv T μ μ) (hx : x + 6 ≤ L) (hL : L < 2 ^ 31) (hT : T + 600 < 2 ^ 27) (next : ∀ μ2, Inv (T + 200) μ2 μ2 → ∃ μ3, Ev (fun F => run L S F 31 227 1396 [some (vR (3, 0, 0)), some (vR (0, 0, 0)), some (vR (2, 0, 0)), some (vI (nI x))] μ2) (1, μ3)) : ∃ μ3, Ev (fun F => run L S F 31 227 1261 [some (vR (3, 0, 0)), some (vR (0, 0, 0)), some (vR (2, 0, 0)), some (vI (nI x))] μ) (1, μ3) := by
  obtain ⟨y, μ1, μ2, a1, a2, a3⟩ := law_call hI (fun μ' h => P_storm (L := L) (S := S) (T := T) (a1 := S (3, 0, 0) (Int32.toNatClampNeg (nI x + 1))) (a2 := S (3, 0, 0) (Int32.toNatClampNeg (nI x + 2))) (a3 := S (3, 0, 0) (Int32.toNatClampNeg (nI x + 3))) h (by omega))
  obtain ⟨μ3, h3⟩ := next μ2 a3
  refine ⟨μ3, Ev.step ?_⟩
  simp only [e227_1261, show inb (nI x + 1) L = true from inb_x (c := 1) hL (by omega), show inb (nI x + 2) L = true from inb_x (c := 2) hL (by omega), show inb (nI x + 3) L = true from inb_x (c := 3) hL (by omega), cond_true]
  refine Ev.bind a1 ?_
  refine Ev.bind a2 ?_
  simp only [if_true]
  exact h3
theorem lw_undo (hS : StS S) (hI : Inv T μ μ) (hx : x + 6 ≤ L) (hL : L < 2 ^ 31) (hT : T + 600 < 2 ^ 27) (next : ∀ μ2, Inv (T + 200) μ2 μ2 → ∃ μ3, Ev (fun F => run L S F 31 227 1396 [some (vR (3, 0, 0)), some (vR (0, 0, 0)), some (vR (2, 0, 0)), some (vI (nI x))] μ2) (1, μ3)) : ∃ μ3, Ev (fun F => run L S F 31 227 1304 [some (vR (3, 0, 0)), some (vR (0, 0, 0)), some (vR (2, 0, 0)), some (vI (nI x))] μ) (1, μ3) := by
  obtain ⟨y, μ1, μ2, a1, a2, a3⟩ := law_call hI (fun μ' h => P_undo (L := L) (S := S) (T := T) (a1 := S (3, 0, 0) (Int32.toNatClampNeg (nI x + 1))) h)
  obtain ⟨μ3, h3⟩ := next μ2 a3
  refine ⟨μ3, Ev.step ?_⟩
  simp only [e227_1304, show inb (nI x + 1) L = true from inb_x (c := 1) hL (by omega), cond_true]
  refine Ev.bind a1 ?_
  refine Ev.bind a2 ?_
  simp only [if_true]
  exact h3
theorem lw_image (hS : StS S) (hI : Inv T μ μ) (hx : x + 6 ≤ L) (hL : L < 2 ^ 31) (hT : T + 600 < 2 ^ 27) (next : ∀ μ2, Inv (T + 200) μ2 μ2 → ∃ μ3, Ev (fun F => run L S F 31 227 1396 [some (vR (3, 0, 0)), some (vR (0, 0, 0)), some (vR (2, 0, 0)), some (vI (nI x))] μ2) (1, μ3)) : ∃ μ3, Ev (fun F => run L S F 31 227 1327 [some (vR (3, 0, 0)), some (vR (0, 0, 0)), some (vR (2, 0, 0)), some (vI (nI x))] μ) (1, μ3) := by
  obtain ⟨y, μ1, μ2, a1, a2, a3⟩ := law_call hI (fun μ' h => P_image (L := L) (S := S) (T := T) (a1 := S (3, 0, 0) (Int32.toNatClampNeg (nI x + 1))) h)
  obtain ⟨μ3, h3⟩ := next μ2 a3
  refine ⟨μ3, Ev.step ?_⟩
  simp only [e227_1327, show inb (nI x + 1) L = true from inb_x (c := 1) hL (by omega), cond_true]
  refine Ev.bind a1 ?_
  refine Ev.bind a2 ?_
  simp only [if_true]
  exact h3
theorem lw_restore (hS : StS S) (hI : Inv T μ μ) (hx : x + 6 ≤ L) (hL : L < 2 ^ 31) (hT : T + 600 < 2 ^ 27) (next : ∀ μ2, Inv (T + 200) μ2 μ2 → ∃ μ3, Ev (fun F => run L S F 31 227 1396 [some (vR (3, 0, 0)), some (vR (0, 0, 0)), some (vR (2, 0, 0)), some (vI (nI x))] μ2) (1, μ3)) : ∃ μ3, Ev (fun F => run L S F 31 227 1350 [some (vR (3, 0, 0)), some (vR (0, 0, 0)), some (vR (2, 0, 0)), some (vI (nI x))] μ) (1, μ3) := by
  obtain ⟨y, μ1, μ2, a1, a2, a3⟩ := law_call hI (fun μ' h => P_restore (L := L) (S := S) (T := T) (a1 := S (3, 0, 0) (Int32.toNatClampNeg (nI x + 1))) h)
  obtain ⟨μ3, h3⟩ := next μ2 a3
  refine ⟨μ3, Ev.step ?_⟩
  simp only [e227_1350, show inb (nI x + 1) L = true from inb_x (c := 1) hL (by omega), cond_true]
  refine Ev.bind a1 ?_
  refine Ev.bind a2 ?_
  simp only [if_true]
  exact h3
theorem lw_count (hS : StS S) (hI : Inv T μ μ) (hx : x + 6 ≤ L) (hL : L < 2 ^ 31) (hT : T + 600 < 2 ^ 27) (next : ∀ μ2, Inv (T + 200) μ2 μ2 → ∃ μ3, Ev (fun F => run L S F 31 227 1396 [some (vR (3, 0, 0)), some (vR (0, 0, 0)), some (vR (2, 0, 0)), some (vI (nI x))] μ2) (1, μ3)) : ∃ μ3, Ev (fun F => run L S F 31 227 1373 [some (vR (3, 0, 0)), some (vR (0, 0, 0)), some (vR (2, 0, 0)), some (vI (nI x))] μ) (1, μ3) := by
  obtain ⟨y, μ1, μ2, a1, a2, a3⟩ := law_call hI (fun μ' h => P_count (L := L) (S := S) (T := T) (a1 := S (3, 0, 0) (Int32.toNatClampNeg (nI x + 1))) h)
  obtain ⟨μ3, h3⟩ := next μ2 a3
  refine ⟨μ3, Ev.step ?_⟩
  simp only [e227_1373, show inb (nI x + 1) L = true from inb_x (c := 1) hL (by omega), cond_true]
  refine Ev.bind a1 ?_
  refine Ev.bind a2 ?_
  simp only [if_true]
  exact h3
theorem law_go (hS : StS S) (hL : L < 2 ^ 31) (h2 : 6 ≤ L) : ∀ (m x T : Nat) (μ : Mm), x ≤ L → L < x + 6 * (m + 1) → T + 200 * m + 600 < 2 ^ 27 → Inv T μ μ → ∃ μ3, Ev (fun F => run L S F 31 227 18 [some (vR (3, 0, 0)), some (vR (0, 0, 0)), some (vR (2, 0, 0)), some (vI (nI x))] μ) (1, μ3) := by
  intro m
  have e18 : Int32.ofNat L - 6 = nI (L - 6) := nI_sub' (b := 6) (by omega)
  induction m with
  | zero =>
    intro x T μ h1 h3 h4 hI
    refine ⟨μ, Ev.step ?_⟩
    simp only [e227_18, e18, if_pos (nI_lt (show L - 6 < x by omega) (show x < 2 ^ 31 by omega)), narB1]
    exact Ev.ret
  | succ m ih =>
    intro x T μ h1 h3 h4 hI
    by_cases c : x + 6 ≤ L
    · have next : ∀ μ2, Inv (T + 200) μ2 μ2 → ∃ μ3, Ev (fun F => run L S F 31 227 1396 [some (vR (3, 0, 0)), some (vR (0, 0, 0)), some (vR (2, 0, 0)), some (vI (nI x))] μ2) (1, μ3) := fun μ2 h => by
        obtain ⟨μ3, a⟩ := ih (x + 6) (T + 200) μ2 (by omega) (by omega) (by omega) h
        refine ⟨μ3, Ev.step ?_⟩
        simp only [e227_1396, show nI x + 6 = nI (x + 6) from nI_add x 6]
        exact a
      have hT : T + 600 < 2 ^ 27 := by omega
      have go : ∀ {f : Nat → Option Rz}, (∃ μ3, Ev f (1, μ3)) → (∀ F, run L S (F + 1) 31 227 18 [some (vR (3, 0, 0)), some (vR (0, 0, 0)), some (vR (2, 0, 0)), some (vI (nI x))] μ = f F) → ∃ μ3, Ev (fun F => run L S F 31 227 18 [some (vR (3, 0, 0)), some (vR (0, 0, 0)), some (vR (2, 0, 0)), some (vI (nI x))] μ) (1, μ3) := fun ⟨μ3, a⟩ e => ⟨μ3, Ev.step (by
        have : (fun F => run L S (F + 1) 31 227 18 [some (vR (3, 0, 0)), some (vR (0, 0, 0)), some (vR (2, 0, 0)), some (vI (nI x))] μ) = _ := funext e
        rw [this]
        exact a)⟩
      refine go ?_ (fun F => by
        rw [e227_18, e18, if_neg (nI_nlt (show x ≤ L - 6 by omega) (show L - 6 < 2 ^ 31 by omega)), inb_n (show x < L by omega) hL, cond_true])
      dsimp only
      refine Ex_ite (lw_begin hS hI c hL hT next) ?_
      refine Ex_ite (lw_terms hS hI c hL hT next) ?_
      refine Ex_ite (lw_swap hS hI c hL hT next) ?_
      refine Ex_ite (lw_store hS hI c hL hT next) ?_
      refine Ex_ite (lw_weak hS hI c hL hT next) ?_
      refine Ex_ite (lw_feed hS hI c hL hT next) ?_
      refine Ex_ite (lw_pattern hS hI c hL hT next) ?_
      refine Ex_ite (lw_fault hS hI c hL hT next) ?_
      refine Ex_ite (lw_ask hS hI c hL hT next) ?_
      refine Ex_ite (lw_pair hS hI c hL hT next) ?_
      refine Ex_ite (lw_drop hS hI c hL hT next) ?_
      refine Ex_ite (lw_refresh hS hI c hL hT next) ?_
      refine Ex_ite (lw_tick hS hI c hL hT next) ?_
      refine Ex_ite (lw_row hS hI c hL hT next) ?_
      refine Ex_ite (lw_at hS hI c hL hT next) ?_
      refine Ex_ite (lw_data hS hI c hL hT next) ?_
      refine Ex_ite (lw_slot hS hI c hL hT next) ?_
      refine Ex_ite (lw_spill hS hI c hL hT next) ?_
      refine Ex_ite (lw_queued hS hI c hL hT next) ?_
      refine Ex_ite (lw_request hS hI c hL hT next) ?_
      refine Ex_ite (lw_often hS hI c hL hT next) ?_
      refine Ex_ite (lw_missed hS hI c hL hT next) ?_
      refine Ex_ite (lw_most hS hI c hL hT next) ?_
      refine Ex_ite (lw_spent hS hI c hL hT next) ?_
      refine Ex_ite (lw_told hS hI c hL hT next) ?_
      refine Ex_ite (lw_could hS hI c hL hT next) ?_
      refine Ex_ite (lw_least hS hI c hL hT next) ?_
      refine Ex_ite (lw_hammer hS hI c hL hT next) ?_
      refine Ex_ite (lw_breaks hS hI c hL hT next) ?_
      refine Ex_ite (lw_worst hS hI c hL hT next) ?_
      refine Ex_ite (lw_order hS hI c hL hT next) ?_
      refine Ex_ite (lw_fewest hS hI c hL hT next) ?_
      refine Ex_ite (lw_sure hS hI c hL hT next) ?_
      refine Ex_ite (lw_choice hS hI c hL hT next) ?_
      refine Ex_ite (lw_attack hS hI c hL hT next) ?_
      refine Ex_ite (lw_by hS hI c hL hT next) ?_
      refine Ex_ite (lw_coarse hS hI c hL hT next) ?_
      refine Ex_ite (lw_small hS hI c hL hT next) ?_
      refine Ex_ite (lw_done hS hI c hL hT next) ?_
      refine Ex_ite (lw_storm hS hI c hL hT next) ?_
      refine Ex_ite (lw_undo hS hI c hL hT next) ?_
      refine Ex_ite (lw_image hS hI c hL hT next) ?_
      refine Ex_ite (lw_restore hS hI c hL hT next) ?_
      refine Ex_ite (lw_count hS hI c hL hT next) ?_
      exact next μ (hI.le (by omega))
    · refine ⟨μ, Ev.step ?_⟩
      simp only [e227_18, e18, if_pos (nI_lt (show L - 6 < x by omega) (show x < 2 ^ 31 by omega)), narB1]
      exact Ev.ret
/-- the law, once all is made -/
theorem law_all (hS : StS S) (hL : L ≤ 3072) (hI : Inv 0 μ μ) : ∃ F μ3, run L S F 31 227 18 [some (vR (3, 0, 0)), some (vR (0, 0, 0)), some (vR (2, 0, 0)), some (vI 0)] μ = some (1, μ3) := by
  have key : ∃ μ3, Ev (fun F => run L S F 31 227 18 [some (vR (3, 0, 0)), some (vR (0, 0, 0)), some (vR (2, 0, 0)), some (vI (nI 0))] μ) (1, μ3) := by
    by_cases c : 6 ≤ L
    · exact law_go hS (by omega) c 512 0 0 μ (by omega) (by omega) (by omega) hI
    · have lt : Int32.ofNat L - 6 < nI 0 := by
        rcases (show L = 0 ∨ L = 1 ∨ L = 2 ∨ L = 3 ∨ L = 4 ∨ L = 5 by omega) with rfl | rfl | rfl | rfl | rfl | rfl <;> decide
      refine ⟨μ, Ev.step ?_⟩
      simp only [e227_18, if_pos lt, narB1]
      exact Ev.ret
  obtain ⟨μ3, F0, h⟩ := key
  exact ⟨F0, μ3, h F0 (Nat.le_refl _)⟩
end LW
