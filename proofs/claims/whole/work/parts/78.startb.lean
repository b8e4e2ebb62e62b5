/-! the bank that is now, when nothing else is made: started with so many rows -/
def LYB (q : Ad) : Nat × Nat := match q.1 with
  | 1 => match q.2.1.val with
    | 0 => lay1 q.2.2
    | _ => (999, 0)
  | _ => LY0 q
def WLB : List Ad := (List.range 25).map (fun o => (1, 0, o))
def runB (S : Ad → Nat → Int32) (F d k pc : Nat) (l : Lc) (μ : Mm) : Option Rz := DF CODE (LYB, S) F d k pc l μ
set_option maxHeartbeats 4000000 in
set_option maxRecDepth 100000 in
theorem e1_0_5B {S : Ad → Nat → Int32} {F d : Nat} {μ : Mm} {a2 : Int32} : runB S (F + 1) d 1 0 [some (vR (1, (0 : Fin 15), 5)), some (vI a2), none, none] μ =
    runB S F d 1 5 [some (vR (1, (0 : Fin 15), 5)), some (vI a2), some (vI 0), some (vI (Int32.ofNat 16))] μ := by
  unfold runB
  rw [DF_succ]
  rfl

set_option maxHeartbeats 4000000 in
set_option maxRecDepth 100000 in
theorem e1_0_6B {S : Ad → Nat → Int32} {F d : Nat} {μ : Mm} {a2 : Int32} : runB S (F + 1) d 1 0 [some (vR (1, (0 : Fin 15), 6)), some (vI a2), none, none] μ =
    runB S F d 1 5 [some (vR (1, (0 : Fin 15), 6)), some (vI a2), some (vI 0), some (vI (Int32.ofNat 16))] μ := by
  unfold runB
  rw [DF_succ]
  rfl

set_option maxHeartbeats 4000000 in
set_option maxRecDepth 100000 in
theorem e1_0_7B {S : Ad → Nat → Int32} {F d : Nat} {μ : Mm} {a2 : Int32} : runB S (F + 1) d 1 0 [some (vR (1, (0 : Fin 15), 7)), some (vI a2), none, none] μ =
    runB S F d 1 5 [some (vR (1, (0 : Fin 15), 7)), some (vI a2), some (vI 0), some (vI (Int32.ofNat 16))] μ := by
  unfold runB
  rw [DF_succ]
  rfl

set_option maxHeartbeats 4000000 in
set_option maxRecDepth 100000 in
theorem e1_0_8B {S : Ad → Nat → Int32} {F d : Nat} {μ : Mm} {a2 : Int32} : runB S (F + 1) d 1 0 [some (vR (1, (0 : Fin 15), 8)), some (vI a2), none, none] μ =
    runB S F d 1 5 [some (vR (1, (0 : Fin 15), 8)), some (vI a2), some (vI 0), some (vI (Int32.ofNat 16))] μ := by
  unfold runB
  rw [DF_succ]
  rfl

set_option maxHeartbeats 4000000 in
set_option maxRecDepth 100000 in
theorem e1_0_9B {S : Ad → Nat → Int32} {F d : Nat} {μ : Mm} {a2 : Int32} : runB S (F + 1) d 1 0 [some (vR (1, (0 : Fin 15), 9)), some (vI a2), none, none] μ =
    runB S F d 1 5 [some (vR (1, (0 : Fin 15), 9)), some (vI a2), some (vI 0), some (vI (Int32.ofNat 16))] μ := by
  unfold runB
  rw [DF_succ]
  rfl

set_option maxHeartbeats 4000000 in
set_option maxRecDepth 100000 in
theorem e1_0_12B {S : Ad → Nat → Int32} {F d : Nat} {μ : Mm} {a2 : Int32} : runB S (F + 1) d 1 0 [some (vR (1, (0 : Fin 15), 12)), some (vI a2), none, none] μ =
    runB S F d 1 5 [some (vR (1, (0 : Fin 15), 12)), some (vI a2), some (vI 0), some (vI (Int32.ofNat 8))] μ := by
  unfold runB
  rw [DF_succ]
  rfl

set_option maxHeartbeats 4000000 in
set_option maxRecDepth 100000 in
theorem e1_0_13B {S : Ad → Nat → Int32} {F d : Nat} {μ : Mm} {a2 : Int32} : runB S (F + 1) d 1 0 [some (vR (1, (0 : Fin 15), 13)), some (vI a2), none, none] μ =
    runB S F d 1 5 [some (vR (1, (0 : Fin 15), 13)), some (vI a2), some (vI 0), some (vI (Int32.ofNat 8))] μ := by
  unfold runB
  rw [DF_succ]
  rfl

set_option maxHeartbeats 4000000 in
set_option maxRecDepth 100000 in
theorem e1_0_14B {S : Ad → Nat → Int32} {F d : Nat} {μ : Mm} {a2 : Int32} : runB S (F + 1) d 1 0 [some (vR (1, (0 : Fin 15), 14)), some (vI a2), none, none] μ =
    runB S F d 1 5 [some (vR (1, (0 : Fin 15), 14)), some (vI a2), some (vI 0), some (vI (Int32.ofNat 8))] μ := by
  unfold runB
  rw [DF_succ]
  rfl

set_option maxHeartbeats 4000000 in
set_option maxRecDepth 100000 in
theorem e1_0_15B {S : Ad → Nat → Int32} {F d : Nat} {μ : Mm} {a2 : Int32} : runB S (F + 1) d 1 0 [some (vR (1, (0 : Fin 15), 15)), some (vI a2), none, none] μ =
    runB S F d 1 5 [some (vR (1, (0 : Fin 15), 15)), some (vI a2), some (vI 0), some (vI (Int32.ofNat 16))] μ := by
  unfold runB
  rw [DF_succ]
  rfl

set_option maxHeartbeats 4000000 in
set_option maxRecDepth 100000 in
theorem e1_0_16B {S : Ad → Nat → Int32} {F d : Nat} {μ : Mm} {a2 : Int32} : runB S (F + 1) d 1 0 [some (vR (1, (0 : Fin 15), 16)), some (vI a2), none, none] μ =
    runB S F d 1 5 [some (vR (1, (0 : Fin 15), 16)), some (vI a2), some (vI 0), some (vI (Int32.ofNat 8))] μ := by
  unfold runB
  rw [DF_succ]
  rfl

set_option maxHeartbeats 4000000 in
set_option maxRecDepth 100000 in
theorem e1_0_17B {S : Ad → Nat → Int32} {F d : Nat} {μ : Mm} {a2 : Int32} : runB S (F + 1) d 1 0 [some (vR (1, (0 : Fin 15), 17)), some (vI a2), none, none] μ =
    runB S F d 1 5 [some (vR (1, (0 : Fin 15), 17)), some (vI a2), some (vI 0), some (vI (Int32.ofNat 8))] μ := by
  unfold runB
  rw [DF_succ]
  rfl

set_option maxHeartbeats 4000000 in
set_option maxRecDepth 100000 in
theorem e1_0_23B {S : Ad → Nat → Int32} {F d : Nat} {μ : Mm} {a2 : Int32} : runB S (F + 1) d 1 0 [some (vR (1, (0 : Fin 15), 23)), some (vI a2), none, none] μ =
    runB S F d 1 5 [some (vR (1, (0 : Fin 15), 23)), some (vI a2), some (vI 0), some (vI (Int32.ofNat 4))] μ := by
  unfold runB
  rw [DF_succ]
  rfl

set_option maxHeartbeats 4000000 in
set_option maxRecDepth 100000 in
theorem e1_0_24B {S : Ad → Nat → Int32} {F d : Nat} {μ : Mm} {a2 : Int32} : runB S (F + 1) d 1 0 [some (vR (1, (0 : Fin 15), 24)), some (vI a2), none, none] μ =
    runB S F d 1 5 [some (vR (1, (0 : Fin 15), 24)), some (vI a2), some (vI 0), some (vI (Int32.ofNat 9))] μ := by
  unfold runB
  rw [DF_succ]
  rfl

set_option maxHeartbeats 4000000 in
set_option maxRecDepth 100000 in
theorem e1_5_5B {S : Ad → Nat → Int32} {F d : Nat} {μ : Mm} {a2 : Int32} {x_2 : Int32} {x_3 : Int32} : runB S (F + 1) d 1 5 [some (vR (1, (0 : Fin 15), 5)), some (vI a2), some (vI x_2), some (vI x_3)] μ =
    if x_2 < x_3 then
      bif inb x_2 16 then
        let μ1 : Mm := mset μ (1, (0 : Fin 15), 5) (Int32.toNatClampNeg x_2) a2
        runB S F d 1 5 [some (vR (1, (0 : Fin 15), 5)), some (vI a2), some (vI (x_2 + 1)), some (vI x_3)] μ1
      else none
    else
      some (0, μ) := by
  unfold runB
  rw [DF_succ]
  rfl

set_option maxHeartbeats 4000000 in
set_option maxRecDepth 100000 in
theorem e1_5_6B {S : Ad → Nat → Int32} {F d : Nat} {μ : Mm} {a2 : Int32} {x_2 : Int32} {x_3 : Int32} : runB S (F + 1) d 1 5 [some (vR (1, (0 : Fin 15), 6)), some (vI a2), some (vI x_2), some (vI x_3)] μ =
    if x_2 < x_3 then
      bif inb x_2 16 then
        let μ1 : Mm := mset μ (1, (0 : Fin 15), 6) (Int32.toNatClampNeg x_2) a2
        runB S F d 1 5 [some (vR (1, (0 : Fin 15), 6)), some (vI a2), some (vI (x_2 + 1)), some (vI x_3)] μ1
      else none
    else
      some (0, μ) := by
  unfold runB
  rw [DF_succ]
  rfl

set_option maxHeartbeats 4000000 in
set_option maxRecDepth 100000 in
theorem e1_5_7B {S : Ad → Nat → Int32} {F d : Nat} {μ : Mm} {a2 : Int32} {x_2 : Int32} {x_3 : Int32} : runB S (F + 1) d 1 5 [some (vR (1, (0 : Fin 15), 7)), some (vI a2), some (vI x_2), some (vI x_3)] μ =
    if x_2 < x_3 then
      bif inb x_2 16 then
        let μ1 : Mm := mset μ (1, (0 : Fin 15), 7) (Int32.toNatClampNeg x_2) a2
        runB S F d 1 5 [some (vR (1, (0 : Fin 15), 7)), some (vI a2), some (vI (x_2 + 1)), some (vI x_3)] μ1
      else none
    else
      some (0, μ) := by
  unfold runB
  rw [DF_succ]
  rfl

set_option maxHeartbeats 4000000 in
set_option maxRecDepth 100000 in
theorem e1_5_8B {S : Ad → Nat → Int32} {F d : Nat} {μ : Mm} {a2 : Int32} {x_2 : Int32} {x_3 : Int32} : runB S (F + 1) d 1 5 [some (vR (1, (0 : Fin 15), 8)), some (vI a2), some (vI x_2), some (vI x_3)] μ =
    if x_2 < x_3 then
      bif inb x_2 16 then
        let μ1 : Mm := mset μ (1, (0 : Fin 15), 8) (Int32.toNatClampNeg x_2) a2
        runB S F d 1 5 [some (vR (1, (0 : Fin 15), 8)), some (vI a2), some (vI (x_2 + 1)), some (vI x_3)] μ1
      else none
    else
      some (0, μ) := by
  unfold runB
  rw [DF_succ]
  rfl

set_option maxHeartbeats 4000000 in
set_option maxRecDepth 100000 in
theorem e1_5_9B {S : Ad → Nat → Int32} {F d : Nat} {μ : Mm} {a2 : Int32} {x_2 : Int32} {x_3 : Int32} : runB S (F + 1) d 1 5 [some (vR (1, (0 : Fin 15), 9)), some (vI a2), some (vI x_2), some (vI x_3)] μ =
    if x_2 < x_3 then
      bif inb x_2 16 then
        let μ1 : Mm := mset μ (1, (0 : Fin 15), 9) (Int32.toNatClampNeg x_2) a2
        runB S F d 1 5 [some (vR (1, (0 : Fin 15), 9)), some (vI a2), some (vI (x_2 + 1)), some (vI x_3)] μ1
      else none
    else
      some (0, μ) := by
  unfold runB
  rw [DF_succ]
  rfl

set_option maxHeartbeats 4000000 in
set_option maxRecDepth 100000 in
theorem e1_5_12B {S : Ad → Nat → Int32} {F d : Nat} {μ : Mm} {a2 : Int32} {x_2 : Int32} {x_3 : Int32} : runB S (F + 1) d 1 5 [some (vR (1, (0 : Fin 15), 12)), some (vI a2), some (vI x_2), some (vI x_3)] μ =
    if x_2 < x_3 then
      bif inb x_2 8 then
        let μ1 : Mm := mset μ (1, (0 : Fin 15), 12) (Int32.toNatClampNeg x_2) a2
        runB S F d 1 5 [some (vR (1, (0 : Fin 15), 12)), some (vI a2), some (vI (x_2 + 1)), some (vI x_3)] μ1
      else none
    else
      some (0, μ) := by
  unfold runB
  rw [DF_succ]
  rfl

set_option maxHeartbeats 4000000 in
set_option maxRecDepth 100000 in
theorem e1_5_13B {S : Ad → Nat → Int32} {F d : Nat} {μ : Mm} {a2 : Int32} {x_2 : Int32} {x_3 : Int32} : runB S (F + 1) d 1 5 [some (vR (1, (0 : Fin 15), 13)), some (vI a2), some (vI x_2), some (vI x_3)] μ =
    if x_2 < x_3 then
      bif inb x_2 8 then
        let μ1 : Mm := mset μ (1, (0 : Fin 15), 13) (Int32.toNatClampNeg x_2) a2
        runB S F d 1 5 [some (vR (1, (0 : Fin 15), 13)), some (vI a2), some (vI (x_2 + 1)), some (vI x_3)] μ1
      else none
    else
      some (0, μ) := by
  unfold runB
  rw [DF_succ]
  rfl

set_option maxHeartbeats 4000000 in
set_option maxRecDepth 100000 in
theorem e1_5_14B {S : Ad → Nat → Int32} {F d : Nat} {μ : Mm} {a2 : Int32} {x_2 : Int32} {x_3 : Int32} : runB S (F + 1) d 1 5 [some (vR (1, (0 : Fin 15), 14)), some (vI a2), some (vI x_2), some (vI x_3)] μ =
    if x_2 < x_3 then
      bif inb x_2 8 then
        let μ1 : Mm := mset μ (1, (0 : Fin 15), 14) (Int32.toNatClampNeg x_2) a2
        runB S F d 1 5 [some (vR (1, (0 : Fin 15), 14)), some (vI a2), some (vI (x_2 + 1)), some (vI x_3)] μ1
      else none
    else
      some (0, μ) := by
  unfold runB
  rw [DF_succ]
  rfl

set_option maxHeartbeats 4000000 in
set_option maxRecDepth 100000 in
theorem e1_5_15B {S : Ad → Nat → Int32} {F d : Nat} {μ : Mm} {a2 : Int32} {x_2 : Int32} {x_3 : Int32} : runB S (F + 1) d 1 5 [some (vR (1, (0 : Fin 15), 15)), some (vI a2), some (vI x_2), some (vI x_3)] μ =
    if x_2 < x_3 then
      bif inb x_2 16 then
        let μ1 : Mm := mset μ (1, (0 : Fin 15), 15) (Int32.toNatClampNeg x_2) a2
        runB S F d 1 5 [some (vR (1, (0 : Fin 15), 15)), some (vI a2), some (vI (x_2 + 1)), some (vI x_3)] μ1
      else none
    else
      some (0, μ) := by
  unfold runB
  rw [DF_succ]
  rfl

set_option maxHeartbeats 4000000 in
set_option maxRecDepth 100000 in
theorem e1_5_16B {S : Ad → Nat → Int32} {F d : Nat} {μ : Mm} {a2 : Int32} {x_2 : Int32} {x_3 : Int32} : runB S (F + 1) d 1 5 [some (vR (1, (0 : Fin 15), 16)), some (vI a2), some (vI x_2), some (vI x_3)] μ =
    if x_2 < x_3 then
      bif inb x_2 8 then
        let μ1 : Mm := mset μ (1, (0 : Fin 15), 16) (Int32.toNatClampNeg x_2) a2
        runB S F d 1 5 [some (vR (1, (0 : Fin 15), 16)), some (vI a2), some (vI (x_2 + 1)), some (vI x_3)] μ1
      else none
    else
      some (0, μ) := by
  unfold runB
  rw [DF_succ]
  rfl

set_option maxHeartbeats 4000000 in
set_option maxRecDepth 100000 in
theorem e1_5_17B {S : Ad → Nat → Int32} {F d : Nat} {μ : Mm} {a2 : Int32} {x_2 : Int32} {x_3 : Int32} : runB S (F + 1) d 1 5 [some (vR (1, (0 : Fin 15), 17)), some (vI a2), some (vI x_2), some (vI x_3)] μ =
    if x_2 < x_3 then
      bif inb x_2 8 then
        let μ1 : Mm := mset μ (1, (0 : Fin 15), 17) (Int32.toNatClampNeg x_2) a2
        runB S F d 1 5 [some (vR (1, (0 : Fin 15), 17)), some (vI a2), some (vI (x_2 + 1)), some (vI x_3)] μ1
      else none
    else
      some (0, μ) := by
  unfold runB
  rw [DF_succ]
  rfl

set_option maxHeartbeats 4000000 in
set_option maxRecDepth 100000 in
theorem e1_5_23B {S : Ad → Nat → Int32} {F d : Nat} {μ : Mm} {a2 : Int32} {x_2 : Int32} {x_3 : Int32} : runB S (F + 1) d 1 5 [some (vR (1, (0 : Fin 15), 23)), some (vI a2), some (vI x_2), some (vI x_3)] μ =
    if x_2 < x_3 then
      bif inb x_2 4 then
        let μ1 : Mm := mset μ (1, (0 : Fin 15), 23) (Int32.toNatClampNeg x_2) a2
        runB S F d 1 5 [some (vR (1, (0 : Fin 15), 23)), some (vI a2), some (vI (x_2 + 1)), some (vI x_3)] μ1
      else none
    else
      some (0, μ) := by
  unfold runB
  rw [DF_succ]
  rfl

set_option maxHeartbeats 4000000 in
set_option maxRecDepth 100000 in
theorem e1_5_24B {S : Ad → Nat → Int32} {F d : Nat} {μ : Mm} {a2 : Int32} {x_2 : Int32} {x_3 : Int32} : runB S (F + 1) d 1 5 [some (vR (1, (0 : Fin 15), 24)), some (vI a2), some (vI x_2), some (vI x_3)] μ =
    if x_2 < x_3 then
      bif inb x_2 9 then
        let μ1 : Mm := mset μ (1, (0 : Fin 15), 24) (Int32.toNatClampNeg x_2) a2
        runB S F d 1 5 [some (vR (1, (0 : Fin 15), 24)), some (vI a2), some (vI (x_2 + 1)), some (vI x_3)] μ1
      else none
    else
      some (0, μ) := by
  unfold runB
  rw [DF_succ]
  rfl

set_option maxHeartbeats 4000000 in
set_option maxRecDepth 100000 in
theorem e2_0B {S : Ad → Nat → Int32} {F d : Nat} {μ : Mm} {a1 : Int32} : runB S (F + 1) (d + 1) 2 0 [some (vR (1, (0 : Fin 15), 2)), some (vI a1), none] μ =
    let μ1 : Mm := mset μ (1, (0 : Fin 15), 2) 0 a1
    let μ2 : Mm := mset μ1 (1, (0 : Fin 15), 2) 1 0
    let μ3 : Mm := mset μ2 (1, (0 : Fin 15), 2) 2 0
    (runB S F d 1 0 [some (vR (1, (0 : Fin 15), 5)), some (vI 0), none, none] μ3).bind fun p4 =>
    (runB S F d 1 0 [some (vR (1, (0 : Fin 15), 6)), some (vI 0), none, none] p4.2).bind fun p5 =>
    (runB S F d 1 0 [some (vR (1, (0 : Fin 15), 7)), some (vI 0), none, none] p5.2).bind fun p6 =>
    (runB S F d 1 0 [some (vR (1, (0 : Fin 15), 8)), some (vI 0), none, none] p6.2).bind fun p7 =>
    (runB S F d 1 0 [some (vR (1, (0 : Fin 15), 9)), some (vI 0), none, none] p7.2).bind fun p8 =>
    runB S F (d + 1) 2 57 [some (vR (1, (0 : Fin 15), 2)), none, some (vI 0)] p8.2 := by
  unfold runB
  rw [DF_succ]
  rfl

set_option maxHeartbeats 4000000 in
set_option maxRecDepth 100000 in
theorem e2_57B {S : Ad → Nat → Int32} {F d : Nat} {μ : Mm} {x_2 : Int32} : runB S (F + 1) (d + 1) 2 57 [some (vR (1, (0 : Fin 15), 2)), none, some (vI x_2)] μ =
    if x_2 < 16 then
      bif inb x_2 16 then
        let μ1 : Mm := mset μ (1, (0 : Fin 15), 3) (Int32.toNatClampNeg x_2) x_2
        bif inb x_2 16 then
          let μ2 : Mm := mset μ1 (1, (0 : Fin 15), 4) (Int32.toNatClampNeg x_2) x_2
          bif inb x_2 16 then
            let μ3 : Mm := mset μ2 (1, (0 : Fin 15), 10) (Int32.toNatClampNeg x_2) ((1 : Int32) <<< ((x_2 - x_2 / 8 * 8) &&& 31))
            runB S F (d + 1) 2 57 [some (vR (1, (0 : Fin 15), 2)), none, some (vI (x_2 + 1))] μ3
          else none
        else none
      else none
    else
      some (0, μ) := by
  unfold runB
  rw [DF_succ]
  rfl

set_option maxHeartbeats 4000000 in
set_option maxRecDepth 100000 in
theorem e13_0B {S : Ad → Nat → Int32} {F d : Nat} {μ : Mm} : runB S (F + 1) (d + 1) 13 0 [some (vR (1, (0 : Fin 15), 11))] μ =
    let μ1 : Mm := mset μ (1, (0 : Fin 15), 11) 0 0
    let μ2 : Mm := mset μ1 (1, (0 : Fin 15), 11) 1 0
    (runB S F d 1 0 [some (vR (1, (0 : Fin 15), 12)), some (vI (-1)), none, none] μ2).bind fun p3 =>
    (runB S F d 1 0 [some (vR (1, (0 : Fin 15), 13)), some (vI 0), none, none] p3.2).bind fun p4 =>
    (runB S F d 1 0 [some (vR (1, (0 : Fin 15), 14)), some (vI 0), none, none] p4.2).bind fun p5 =>
    (runB S F d 1 0 [some (vR (1, (0 : Fin 15), 15)), some (vI 0), none, none] p5.2).bind fun p6 =>
    (runB S F d 1 0 [some (vR (1, (0 : Fin 15), 16)), some (vI 0), none, none] p6.2).bind fun p7 =>
    (runB S F d 1 0 [some (vR (1, (0 : Fin 15), 17)), some (vI 0), none, none] p7.2).bind fun p8 =>
    some (0, p8.2) := by
  unfold runB
  rw [DF_succ]
  rfl

set_option maxHeartbeats 4000000 in
set_option maxRecDepth 100000 in
theorem e29_0B {S : Ad → Nat → Int32} {F d : Nat} {μ : Mm} : runB S (F + 1) d 29 0 [some (vR (1, (0 : Fin 15), 21))] μ =
    let μ1 : Mm := mset μ (1, (0 : Fin 15), 21) 0 0
    let μ2 : Mm := mset μ1 (1, (0 : Fin 15), 21) 1 0
    some (0, μ2) := by
  unfold runB
  rw [DF_succ]
  rfl

set_option maxHeartbeats 4000000 in
set_option maxRecDepth 100000 in
theorem e34_0B {S : Ad → Nat → Int32} {F d : Nat} {μ : Mm} {a1 : Int32} : runB S (F + 1) (d + 1) 34 0 [some (vR (1, (0 : Fin 15), 0)), some (vI a1)] μ =
    (runB S F d 2 0 [some (vR (1, (0 : Fin 15), 2)), some (vI a1), none] μ).bind fun p1 =>
    (runB S F d 13 0 [some (vR (1, (0 : Fin 15), 11))] p1.2).bind fun p2 =>
    let μ3 : Mm := mset p2.2 (1, (0 : Fin 15), 11) 2 17
    let μ4 : Mm := mset μ3 (1, (0 : Fin 15), 18) 0 0
    (runB S F d 29 0 [some (vR (1, (0 : Fin 15), 21))] μ4).bind fun p5 =>
    let μ6 : Mm := mset p5.2 (1, (0 : Fin 15), 0) 5 0
    let μ7 : Mm := mset μ6 (1, (0 : Fin 15), 0) 6 0
    let μ8 : Mm := mset μ7 (1, (0 : Fin 15), 0) 7 3
    let μ9 : Mm := mset μ8 (1, (0 : Fin 15), 0) 8 0
    let μ10 : Mm := mset μ9 (1, (0 : Fin 15), 0) 9 0
    (runB S F d 1 0 [some (vR (1, (0 : Fin 15), 23)), some (vI 0), none, none] μ10).bind fun p11 =>
    (runB S F d 1 0 [some (vR (1, (0 : Fin 15), 24)), some (vI 0), none, none] p11.2).bind fun p12 =>
    some (0, p12.2) := by
  unfold runB
  rw [DF_succ]
  rfl

section SB
variable {S : Ad → Nat → Int32} {F d n : Nat} {μ : Mm}
theorem s_fill5_goB {v : Int32} : ∀ (m k F : Nat) (μ : Mm), k + m = 16 → m + 1 ≤ F → runB S F d 1 5 [some (vR (1, (0 : Fin 15), 5)), some (vI v), some (vI (nI k)), some (vI (Int32.ofNat 16))] μ = some (0, filk μ (1, (0 : Fin 15), 5) v k 16) := by
  intro m
  induction m with
  | zero =>
    intro k F μ hk hF
    obtain ⟨F, rfl, hF'⟩ := fz hF
    have hk : k = 16 := by omega
    subst hk
    rw [e1_5_5B, if_neg (show ¬ nI 16 < Int32.ofNat 16 from nI_nlt (a := 16) (b := 16) (Nat.le_refl _) (by decide)), filk_id]
  | succ m ih =>
    intro k F μ hk hF
    obtain ⟨F, rfl, hF'⟩ := fz hF
    rw [e1_5_5B, if_pos (show nI k < Int32.ofNat 16 from nI_lt (a := k) (b := 16) (by omega) (by decide))]
    simp only [inb_n (show k < 16 by omega) (by decide), cond_true, nI_clamp (show k < 2 ^ 31 by omega), nI_1]
    rw [ih (k + 1) F _ (by omega) hF', filk_step (by omega)]

theorem s_fill5B (hF : 18 ≤ F) {v : Int32} : runB S F d 1 0 [some (vR (1, (0 : Fin 15), 5)), some (vI v), none, none] μ = some (0, filk μ (1, (0 : Fin 15), 5) v 0 16) := by
  obtain ⟨F, rfl, hF'⟩ := fz hF
  rw [e1_0_5B]
  exact s_fill5_goB 16 0 F μ (by omega) (by omega)

theorem s_fill6_goB {v : Int32} : ∀ (m k F : Nat) (μ : Mm), k + m = 16 → m + 1 ≤ F → runB S F d 1 5 [some (vR (1, (0 : Fin 15), 6)), some (vI v), some (vI (nI k)), some (vI (Int32.ofNat 16))] μ = some (0, filk μ (1, (0 : Fin 15), 6) v k 16) := by
  intro m
  induction m with
  | zero =>
    intro k F μ hk hF
    obtain ⟨F, rfl, hF'⟩ := fz hF
    have hk : k = 16 := by omega
    subst hk
    rw [e1_5_6B, if_neg (show ¬ nI 16 < Int32.ofNat 16 from nI_nlt (a := 16) (b := 16) (Nat.le_refl _) (by decide)), filk_id]
  | succ m ih =>
    intro k F μ hk hF
    obtain ⟨F, rfl, hF'⟩ := fz hF
    rw [e1_5_6B, if_pos (show nI k < Int32.ofNat 16 from nI_lt (a := k) (b := 16) (by omega) (by decide))]
    simp only [inb_n (show k < 16 by omega) (by decide), cond_true, nI_clamp (show k < 2 ^ 31 by omega), nI_1]
    rw [ih (k + 1) F _ (by omega) hF', filk_step (by omega)]

theorem s_fill6B (hF : 18 ≤ F) {v : Int32} : runB S F d 1 0 [some (vR (1, (0 : Fin 15), 6)), some (vI v), none, none] μ = some (0, filk μ (1, (0 : Fin 15), 6) v 0 16) := by
  obtain ⟨F, rfl, hF'⟩ := fz hF
  rw [e1_0_6B]
  exact s_fill6_goB 16 0 F μ (by omega) (by omega)

theorem s_fill7_goB {v : Int32} : ∀ (m k F : Nat) (μ : Mm), k + m = 16 → m + 1 ≤ F → runB S F d 1 5 [some (vR (1, (0 : Fin 15), 7)), some (vI v), some (vI (nI k)), some (vI (Int32.ofNat 16))] μ = some (0, filk μ (1, (0 : Fin 15), 7) v k 16) := by
  intro m
  induction m with
  | zero =>
    intro k F μ hk hF
    obtain ⟨F, rfl, hF'⟩ := fz hF
    have hk : k = 16 := by omega
    subst hk
    rw [e1_5_7B, if_neg (show ¬ nI 16 < Int32.ofNat 16 from nI_nlt (a := 16) (b := 16) (Nat.le_refl _) (by decide)), filk_id]
  | succ m ih =>
    intro k F μ hk hF
    obtain ⟨F, rfl, hF'⟩ := fz hF
    rw [e1_5_7B, if_pos (show nI k < Int32.ofNat 16 from nI_lt (a := k) (b := 16) (by omega) (by decide))]
    simp only [inb_n (show k < 16 by omega) (by decide), cond_true, nI_clamp (show k < 2 ^ 31 by omega), nI_1]
    rw [ih (k + 1) F _ (by omega) hF', filk_step (by omega)]

theorem s_fill7B (hF : 18 ≤ F) {v : Int32} : runB S F d 1 0 [some (vR (1, (0 : Fin 15), 7)), some (vI v), none, none] μ = some (0, filk μ (1, (0 : Fin 15), 7) v 0 16) := by
  obtain ⟨F, rfl, hF'⟩ := fz hF
  rw [e1_0_7B]
  exact s_fill7_goB 16 0 F μ (by omega) (by omega)

theorem s_fill8_goB {v : Int32} : ∀ (m k F : Nat) (μ : Mm), k + m = 16 → m + 1 ≤ F → runB S F d 1 5 [some (vR (1, (0 : Fin 15), 8)), some (vI v), some (vI (nI k)), some (vI (Int32.ofNat 16))] μ = some (0, filk μ (1, (0 : Fin 15), 8) v k 16) := by
  intro m
  induction m with
  | zero =>
    intro k F μ hk hF
    obtain ⟨F, rfl, hF'⟩ := fz hF
    have hk : k = 16 := by omega
    subst hk
    rw [e1_5_8B, if_neg (show ¬ nI 16 < Int32.ofNat 16 from nI_nlt (a := 16) (b := 16) (Nat.le_refl _) (by decide)), filk_id]
  | succ m ih =>
    intro k F μ hk hF
    obtain ⟨F, rfl, hF'⟩ := fz hF
    rw [e1_5_8B, if_pos (show nI k < Int32.ofNat 16 from nI_lt (a := k) (b := 16) (by omega) (by decide))]
    simp only [inb_n (show k < 16 by omega) (by decide), cond_true, nI_clamp (show k < 2 ^ 31 by omega), nI_1]
    rw [ih (k + 1) F _ (by omega) hF', filk_step (by omega)]

theorem s_fill8B (hF : 18 ≤ F) {v : Int32} : runB S F d 1 0 [some (vR (1, (0 : Fin 15), 8)), some (vI v), none, none] μ = some (0, filk μ (1, (0 : Fin 15), 8) v 0 16) := by
  obtain ⟨F, rfl, hF'⟩ := fz hF
  rw [e1_0_8B]
  exact s_fill8_goB 16 0 F μ (by omega) (by omega)

theorem s_fill9_goB {v : Int32} : ∀ (m k F : Nat) (μ : Mm), k + m = 16 → m + 1 ≤ F → runB S F d 1 5 [some (vR (1, (0 : Fin 15), 9)), some (vI v), some (vI (nI k)), some (vI (Int32.ofNat 16))] μ = some (0, filk μ (1, (0 : Fin 15), 9) v k 16) := by
  intro m
  induction m with
  | zero =>
    intro k F μ hk hF
    obtain ⟨F, rfl, hF'⟩ := fz hF
    have hk : k = 16 := by omega
    subst hk
    rw [e1_5_9B, if_neg (show ¬ nI 16 < Int32.ofNat 16 from nI_nlt (a := 16) (b := 16) (Nat.le_refl _) (by decide)), filk_id]
  | succ m ih =>
    intro k F μ hk hF
    obtain ⟨F, rfl, hF'⟩ := fz hF
    rw [e1_5_9B, if_pos (show nI k < Int32.ofNat 16 from nI_lt (a := k) (b := 16) (by omega) (by decide))]
    simp only [inb_n (show k < 16 by omega) (by decide), cond_true, nI_clamp (show k < 2 ^ 31 by omega), nI_1]
    rw [ih (k + 1) F _ (by omega) hF', filk_step (by omega)]

theorem s_fill9B (hF : 18 ≤ F) {v : Int32} : runB S F d 1 0 [some (vR (1, (0 : Fin 15), 9)), some (vI v), none, none] μ = some (0, filk μ (1, (0 : Fin 15), 9) v 0 16) := by
  obtain ⟨F, rfl, hF'⟩ := fz hF
  rw [e1_0_9B]
  exact s_fill9_goB 16 0 F μ (by omega) (by omega)

theorem s_fill12_goB {v : Int32} : ∀ (m k F : Nat) (μ : Mm), k + m = 8 → m + 1 ≤ F → runB S F d 1 5 [some (vR (1, (0 : Fin 15), 12)), some (vI v), some (vI (nI k)), some (vI (Int32.ofNat 8))] μ = some (0, filk μ (1, (0 : Fin 15), 12) v k 8) := by
  intro m
  induction m with
  | zero =>
    intro k F μ hk hF
    obtain ⟨F, rfl, hF'⟩ := fz hF
    have hk : k = 8 := by omega
    subst hk
    rw [e1_5_12B, if_neg (show ¬ nI 8 < Int32.ofNat 8 from nI_nlt (a := 8) (b := 8) (Nat.le_refl _) (by decide)), filk_id]
  | succ m ih =>
    intro k F μ hk hF
    obtain ⟨F, rfl, hF'⟩ := fz hF
    rw [e1_5_12B, if_pos (show nI k < Int32.ofNat 8 from nI_lt (a := k) (b := 8) (by omega) (by decide))]
    simp only [inb_n (show k < 8 by omega) (by decide), cond_true, nI_clamp (show k < 2 ^ 31 by omega), nI_1]
    rw [ih (k + 1) F _ (by omega) hF', filk_step (by omega)]

theorem s_fill12B (hF : 10 ≤ F) {v : Int32} : runB S F d 1 0 [some (vR (1, (0 : Fin 15), 12)), some (vI v), none, none] μ = some (0, filk μ (1, (0 : Fin 15), 12) v 0 8) := by
  obtain ⟨F, rfl, hF'⟩ := fz hF
  rw [e1_0_12B]
  exact s_fill12_goB 8 0 F μ (by omega) (by omega)

theorem s_fill13_goB {v : Int32} : ∀ (m k F : Nat) (μ : Mm), k + m = 8 → m + 1 ≤ F → runB S F d 1 5 [some (vR (1, (0 : Fin 15), 13)), some (vI v), some (vI (nI k)), some (vI (Int32.ofNat 8))] μ = some (0, filk μ (1, (0 : Fin 15), 13) v k 8) := by
  intro m
  induction m with
  | zero =>
    intro k F μ hk hF
    obtain ⟨F, rfl, hF'⟩ := fz hF
    have hk : k = 8 := by omega
    subst hk
    rw [e1_5_13B, if_neg (show ¬ nI 8 < Int32.ofNat 8 from nI_nlt (a := 8) (b := 8) (Nat.le_refl _) (by decide)), filk_id]
  | succ m ih =>
    intro k F μ hk hF
    obtain ⟨F, rfl, hF'⟩ := fz hF
    rw [e1_5_13B, if_pos (show nI k < Int32.ofNat 8 from nI_lt (a := k) (b := 8) (by omega) (by decide))]
    simp only [inb_n (show k < 8 by omega) (by decide), cond_true, nI_clamp (show k < 2 ^ 31 by omega), nI_1]
    rw [ih (k + 1) F _ (by omega) hF', filk_step (by omega)]

theorem s_fill13B (hF : 10 ≤ F) {v : Int32} : runB S F d 1 0 [some (vR (1, (0 : Fin 15), 13)), some (vI v), none, none] μ = some (0, filk μ (1, (0 : Fin 15), 13) v 0 8) := by
  obtain ⟨F, rfl, hF'⟩ := fz hF
  rw [e1_0_13B]
  exact s_fill13_goB 8 0 F μ (by omega) (by omega)

theorem s_fill14_goB {v : Int32} : ∀ (m k F : Nat) (μ : Mm), k + m = 8 → m + 1 ≤ F → runB S F d 1 5 [some (vR (1, (0 : Fin 15), 14)), some (vI v), some (vI (nI k)), some (vI (Int32.ofNat 8))] μ = some (0, filk μ (1, (0 : Fin 15), 14) v k 8) := by
  intro m
  induction m with
  | zero =>
    intro k F μ hk hF
    obtain ⟨F, rfl, hF'⟩ := fz hF
    have hk : k = 8 := by omega
    subst hk
    rw [e1_5_14B, if_neg (show ¬ nI 8 < Int32.ofNat 8 from nI_nlt (a := 8) (b := 8) (Nat.le_refl _) (by decide)), filk_id]
  | succ m ih =>
    intro k F μ hk hF
    obtain ⟨F, rfl, hF'⟩ := fz hF
    rw [e1_5_14B, if_pos (show nI k < Int32.ofNat 8 from nI_lt (a := k) (b := 8) (by omega) (by decide))]
    simp only [inb_n (show k < 8 by omega) (by decide), cond_true, nI_clamp (show k < 2 ^ 31 by omega), nI_1]
    rw [ih (k + 1) F _ (by omega) hF', filk_step (by omega)]

theorem s_fill14B (hF : 10 ≤ F) {v : Int32} : runB S F d 1 0 [some (vR (1, (0 : Fin 15), 14)), some (vI v), none, none] μ = some (0, filk μ (1, (0 : Fin 15), 14) v 0 8) := by
  obtain ⟨F, rfl, hF'⟩ := fz hF
  rw [e1_0_14B]
  exact s_fill14_goB 8 0 F μ (by omega) (by omega)

theorem s_fill15_goB {v : Int32} : ∀ (m k F : Nat) (μ : Mm), k + m = 16 → m + 1 ≤ F → runB S F d 1 5 [some (vR (1, (0 : Fin 15), 15)), some (vI v), some (vI (nI k)), some (vI (Int32.ofNat 16))] μ = some (0, filk μ (1, (0 : Fin 15), 15) v k 16) := by
  intro m
  induction m with
  | zero =>
    intro k F μ hk hF
    obtain ⟨F, rfl, hF'⟩ := fz hF
    have hk : k = 16 := by omega
    subst hk
    rw [e1_5_15B, if_neg (show ¬ nI 16 < Int32.ofNat 16 from nI_nlt (a := 16) (b := 16) (Nat.le_refl _) (by decide)), filk_id]
  | succ m ih =>
    intro k F μ hk hF
    obtain ⟨F, rfl, hF'⟩ := fz hF
    rw [e1_5_15B, if_pos (show nI k < Int32.ofNat 16 from nI_lt (a := k) (b := 16) (by omega) (by decide))]
    simp only [inb_n (show k < 16 by omega) (by decide), cond_true, nI_clamp (show k < 2 ^ 31 by omega), nI_1]
    rw [ih (k + 1) F _ (by omega) hF', filk_step (by omega)]

theorem s_fill15B (hF : 18 ≤ F) {v : Int32} : runB S F d 1 0 [some (vR (1, (0 : Fin 15), 15)), some (vI v), none, none] μ = some (0, filk μ (1, (0 : Fin 15), 15) v 0 16) := by
  obtain ⟨F, rfl, hF'⟩ := fz hF
  rw [e1_0_15B]
  exact s_fill15_goB 16 0 F μ (by omega) (by omega)

theorem s_fill16_goB {v : Int32} : ∀ (m k F : Nat) (μ : Mm), k + m = 8 → m + 1 ≤ F → runB S F d 1 5 [some (vR (1, (0 : Fin 15), 16)), some (vI v), some (vI (nI k)), some (vI (Int32.ofNat 8))] μ = some (0, filk μ (1, (0 : Fin 15), 16) v k 8) := by
  intro m
  induction m with
  | zero =>
    intro k F μ hk hF
    obtain ⟨F, rfl, hF'⟩ := fz hF
    have hk : k = 8 := by omega
    subst hk
    rw [e1_5_16B, if_neg (show ¬ nI 8 < Int32.ofNat 8 from nI_nlt (a := 8) (b := 8) (Nat.le_refl _) (by decide)), filk_id]
  | succ m ih =>
    intro k F μ hk hF
    obtain ⟨F, rfl, hF'⟩ := fz hF
    rw [e1_5_16B, if_pos (show nI k < Int32.ofNat 8 from nI_lt (a := k) (b := 8) (by omega) (by decide))]
    simp only [inb_n (show k < 8 by omega) (by decide), cond_true, nI_clamp (show k < 2 ^ 31 by omega), nI_1]
    rw [ih (k + 1) F _ (by omega) hF', filk_step (by omega)]

theorem s_fill16B (hF : 10 ≤ F) {v : Int32} : runB S F d 1 0 [some (vR (1, (0 : Fin 15), 16)), some (vI v), none, none] μ = some (0, filk μ (1, (0 : Fin 15), 16) v 0 8) := by
  obtain ⟨F, rfl, hF'⟩ := fz hF
  rw [e1_0_16B]
  exact s_fill16_goB 8 0 F μ (by omega) (by omega)

theorem s_fill17_goB {v : Int32} : ∀ (m k F : Nat) (μ : Mm), k + m = 8 → m + 1 ≤ F → runB S F d 1 5 [some (vR (1, (0 : Fin 15), 17)), some (vI v), some (vI (nI k)), some (vI (Int32.ofNat 8))] μ = some (0, filk μ (1, (0 : Fin 15), 17) v k 8) := by
  intro m
  induction m with
  | zero =>
    intro k F μ hk hF
    obtain ⟨F, rfl, hF'⟩ := fz hF
    have hk : k = 8 := by omega
    subst hk
    rw [e1_5_17B, if_neg (show ¬ nI 8 < Int32.ofNat 8 from nI_nlt (a := 8) (b := 8) (Nat.le_refl _) (by decide)), filk_id]
  | succ m ih =>
    intro k F μ hk hF
    obtain ⟨F, rfl, hF'⟩ := fz hF
    rw [e1_5_17B, if_pos (show nI k < Int32.ofNat 8 from nI_lt (a := k) (b := 8) (by omega) (by decide))]
    simp only [inb_n (show k < 8 by omega) (by decide), cond_true, nI_clamp (show k < 2 ^ 31 by omega), nI_1]
    rw [ih (k + 1) F _ (by omega) hF', filk_step (by omega)]

theorem s_fill17B (hF : 10 ≤ F) {v : Int32} : runB S F d 1 0 [some (vR (1, (0 : Fin 15), 17)), some (vI v), none, none] μ = some (0, filk μ (1, (0 : Fin 15), 17) v 0 8) := by
  obtain ⟨F, rfl, hF'⟩ := fz hF
  rw [e1_0_17B]
  exact s_fill17_goB 8 0 F μ (by omega) (by omega)

theorem s_fill23_goB {v : Int32} : ∀ (m k F : Nat) (μ : Mm), k + m = 4 → m + 1 ≤ F → runB S F d 1 5 [some (vR (1, (0 : Fin 15), 23)), some (vI v), some (vI (nI k)), some (vI (Int32.ofNat 4))] μ = some (0, filk μ (1, (0 : Fin 15), 23) v k 4) := by
  intro m
  induction m with
  | zero =>
    intro k F μ hk hF
    obtain ⟨F, rfl, hF'⟩ := fz hF
    have hk : k = 4 := by omega
    subst hk
    rw [e1_5_23B, if_neg (show ¬ nI 4 < Int32.ofNat 4 from nI_nlt (a := 4) (b := 4) (Nat.le_refl _) (by decide)), filk_id]
  | succ m ih =>
    intro k F μ hk hF
    obtain ⟨F, rfl, hF'⟩ := fz hF
    rw [e1_5_23B, if_pos (show nI k < Int32.ofNat 4 from nI_lt (a := k) (b := 4) (by omega) (by decide))]
    simp only [inb_n (show k < 4 by omega) (by decide), cond_true, nI_clamp (show k < 2 ^ 31 by omega), nI_1]
    rw [ih (k + 1) F _ (by omega) hF', filk_step (by omega)]

theorem s_fill23B (hF : 6 ≤ F) {v : Int32} : runB S F d 1 0 [some (vR (1, (0 : Fin 15), 23)), some (vI v), none, none] μ = some (0, filk μ (1, (0 : Fin 15), 23) v 0 4) := by
  obtain ⟨F, rfl, hF'⟩ := fz hF
  rw [e1_0_23B]
  exact s_fill23_goB 4 0 F μ (by omega) (by omega)

theorem s_fill24_goB {v : Int32} : ∀ (m k F : Nat) (μ : Mm), k + m = 9 → m + 1 ≤ F → runB S F d 1 5 [some (vR (1, (0 : Fin 15), 24)), some (vI v), some (vI (nI k)), some (vI (Int32.ofNat 9))] μ = some (0, filk μ (1, (0 : Fin 15), 24) v k 9) := by
  intro m
  induction m with
  | zero =>
    intro k F μ hk hF
    obtain ⟨F, rfl, hF'⟩ := fz hF
    have hk : k = 9 := by omega
    subst hk
    rw [e1_5_24B, if_neg (show ¬ nI 9 < Int32.ofNat 9 from nI_nlt (a := 9) (b := 9) (Nat.le_refl _) (by decide)), filk_id]
  | succ m ih =>
    intro k F μ hk hF
    obtain ⟨F, rfl, hF'⟩ := fz hF
    rw [e1_5_24B, if_pos (show nI k < Int32.ofNat 9 from nI_lt (a := k) (b := 9) (by omega) (by decide))]
    simp only [inb_n (show k < 9 by omega) (by decide), cond_true, nI_clamp (show k < 2 ^ 31 by omega), nI_1]
    rw [ih (k + 1) F _ (by omega) hF', filk_step (by omega)]

theorem s_fill24B (hF : 11 ≤ F) {v : Int32} : runB S F d 1 0 [some (vR (1, (0 : Fin 15), 24)), some (vI v), none, none] μ = some (0, filk μ (1, (0 : Fin 15), 24) v 0 9) := by
  obtain ⟨F, rfl, hF'⟩ := fz hF
  rw [e1_0_24B]
  exact s_fill24_goB 9 0 F μ (by omega) (by omega)

theorem s_emptyB (hF : 19 ≤ F) (hd : 1 ≤ d) : runB S F d 13 0 [some (vR (1, (0 : Fin 15), 11))] μ = some (0, empC (0 : Fin 15) μ) := by
  obtain ⟨F, rfl, hF'⟩ := fz hF
  obtain ⟨d, rfl, hd'⟩ := fz hd
  rw [e13_0B]
  simp only [s_fill12B (show 10 ≤ F by omega), s_fill13B (show 10 ≤ F by omega), s_fill14B (show 10 ≤ F by omega), s_fill15B (show 18 ≤ F by omega), s_fill16B (show 10 ≤ F by omega), s_fill17B (show 10 ≤ F by omega), Option.bind_some]
  rfl

theorem c_rs_goB : ∀ (m k : Nat) (μ : Mm), k + m = 16 → Ev (fun F => runB S F (d + 1) 2 57 [some (vR (1, (0 : Fin 15), 2)), none, some (vI (nI k))] μ) (0, rsC (0 : Fin 15) k μ) := by
  intro m
  induction m with
  | zero =>
    intro k μ hk
    have hk : k = 16 := by omega
    subst hk
    refine Ev.step ?_
    simp only [e2_57B, if_neg (show ¬ nI 16 < (16 : Int32) by decide), rsC_end]
    exact Ev.ret
  | succ m ih =>
    intro k μ hk
    have r8 : nI k - nI k / 8 * 8 = nI (k % 8) := pk_rem (d := 8) (by omega) (by decide) (by decide)
    refine Ev.step ?_
    simp only [e2_57B, if_pos (show nI k < (16 : Int32) from nI_lt (b := 16) (by omega) (by decide)), inb_n (show k < 16 by omega) (by decide), cond_true, nI_clamp (show k < 2 ^ 31 by omega), r8, nI_1]
    have := ih (k + 1) (mset (mset (mset μ (1, (0 : Fin 15), 3) k (nI k)) (1, (0 : Fin 15), 4) k (nI k)) (1, (0 : Fin 15), 10) k ((1 : Int32) <<< (nI (k % 8) &&& 31))) (by omega)
    rw [rsC_s (by omega)] at this
    exact this

theorem c_resetB : Ev (fun F => runB S F (d + 1) 2 0 [some (vR (1, (0 : Fin 15), 2)), some (vI (nI n)), none] μ) (0, rstC1 (0 : Fin 15) n μ) := by
  refine Ev.step ?_
  simp only [e2_0B]
  refine Ev.bind (Ev.at 18 (fun F hF => s_fill5B hF)) (Ev.bind (Ev.at 18 (fun F hF => s_fill6B hF)) (Ev.bind (Ev.at 18 (fun F hF => s_fill7B hF)) (Ev.bind (Ev.at 18 (fun F hF => s_fill8B hF)) (Ev.bind (Ev.at 18 (fun F hF => s_fill9B hF)) ?_))))
  exact c_rs_goB 16 0 _ (by omega)

theorem c_startWithB : Ev (fun F => runB S F (d + 2) 34 0 [some (vR (1, (0 : Fin 15), 0)), some (vI (nI n))] μ) (0, rstC (0 : Fin 15) n μ) := by
  have h29 : ∀ μ : Mm, Ev (fun F => runB S F (d + 1) 29 0 [some (vR (1, (0 : Fin 15), 21))] μ) (0, mset (mset μ (1, (0 : Fin 15), 21) 0 0) (1, (0 : Fin 15), 21) 1 0) := fun μ => Ev.step (by
    simp only [e29_0B]
    exact Ev.ret)
  refine Ev.step ?_
  simp only [e34_0B]
  refine Ev.bind c_resetB (Ev.bind (Ev.at 19 (fun F hF => s_emptyB hF (by omega))) (Ev.bind (h29 _) (Ev.bind (Ev.at 6 (fun F hF => s_fill23B hF)) (Ev.bind (Ev.at 11 (fun F hF => s_fill24B hF)) ?_))))
  exact Ev.ret

end SB
