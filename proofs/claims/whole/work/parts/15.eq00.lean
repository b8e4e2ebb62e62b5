/-! equations of the methods, out of their code -/
set_option maxHeartbeats 4000000 in
set_option maxRecDepth 100000 in
theorem e0_0 {L : Nat} {S : Ad → Nat → Int32} {F d : Nat} {μ : Mm} {a1 : Int32} : run L S (F + 1) d 0 0 [some (vI a1)] μ =
    some (((((((((a1 - ((ushr a1 1) &&& 1431655765)) &&& 858993459) + ((ushr (a1 - ((ushr a1 1) &&& 1431655765)) 2) &&& 858993459)) + (ushr (((a1 - ((ushr a1 1) &&& 1431655765)) &&& 858993459) + ((ushr (a1 - ((ushr a1 1) &&& 1431655765)) 2) &&& 858993459)) 4)) &&& 252645135) + (ushr (((((a1 - ((ushr a1 1) &&& 1431655765)) &&& 858993459) + ((ushr (a1 - ((ushr a1 1) &&& 1431655765)) 2) &&& 858993459)) + (ushr (((a1 - ((ushr a1 1) &&& 1431655765)) &&& 858993459) + ((ushr (a1 - ((ushr a1 1) &&& 1431655765)) 2) &&& 858993459)) 4)) &&& 252645135) 8)) + (ushr ((((((a1 - ((ushr a1 1) &&& 1431655765)) &&& 858993459) + ((ushr (a1 - ((ushr a1 1) &&& 1431655765)) 2) &&& 858993459)) + (ushr (((a1 - ((ushr a1 1) &&& 1431655765)) &&& 858993459) + ((ushr (a1 - ((ushr a1 1) &&& 1431655765)) 2) &&& 858993459)) 4)) &&& 252645135) + (ushr (((((a1 - ((ushr a1 1) &&& 1431655765)) &&& 858993459) + ((ushr (a1 - ((ushr a1 1) &&& 1431655765)) 2) &&& 858993459)) + (ushr (((a1 - ((ushr a1 1) &&& 1431655765)) &&& 858993459) + ((ushr (a1 - ((ushr a1 1) &&& 1431655765)) 2) &&& 858993459)) 4)) &&& 252645135) 8)) 16)) &&& 63), μ) := by
  unfold run
  rw [DF_succ]
  rfl
set_option maxHeartbeats 4000000 in
set_option maxRecDepth 100000 in
theorem e1_0_5 {L : Nat} {S : Ad → Nat → Int32} {F d : Nat} {μ : Mm} {j : Fin 15} {a2 : Int32} : run L S (F + 1) d 1 0 [some (vR (1, j, 5)), some (vI a2), none, none] μ =
    run L S F d 1 5 [some (vR (1, j, 5)), some (vI a2), some (vI 0), some (vI (Int32.ofNat 16))] μ := by
  unfold run
  rw [DF_succ]
  rfl
set_option maxHeartbeats 4000000 in
set_option maxRecDepth 100000 in
theorem e1_5_5 {L : Nat} {S : Ad → Nat → Int32} {F d : Nat} {μ : Mm} {j : Fin 15} {a2 : Int32} {x_2 : Int32} {x_3 : Int32} : run L S (F + 1) d 1 5 [some (vR (1, j, 5)), some (vI a2), some (vI x_2), some (vI x_3)] μ =
    if x_2 < x_3 then
      bif inb x_2 16 then
        let μ1 : Mm := mset μ (1, j, 5) (Int32.toNatClampNeg x_2) a2
        run L S F d 1 5 [some (vR (1, j, 5)), some (vI a2), some (vI (x_2 + 1)), some (vI x_3)] μ1
      else none
    else
      some (0, μ) := by
  unfold run
  rw [DF_succ]
  rfl
set_option maxHeartbeats 4000000 in
set_option maxRecDepth 100000 in
theorem e1_0_6 {L : Nat} {S : Ad → Nat → Int32} {F d : Nat} {μ : Mm} {j : Fin 15} {a2 : Int32} : run L S (F + 1) d 1 0 [some (vR (1, j, 6)), some (vI a2), none, none] μ =
    run L S F d 1 5 [some (vR (1, j, 6)), some (vI a2), some (vI 0), some (vI (Int32.ofNat 16))] μ := by
  unfold run
  rw [DF_succ]
  rfl
set_option maxHeartbeats 4000000 in
set_option maxRecDepth 100000 in
theorem e1_5_6 {L : Nat} {S : Ad → Nat → Int32} {F d : Nat} {μ : Mm} {j : Fin 15} {a2 : Int32} {x_2 : Int32} {x_3 : Int32} : run L S (F + 1) d 1 5 [some (vR (1, j, 6)), some (vI a2), some (vI x_2), some (vI x_3)] μ =
    if x_2 < x_3 then
      bif inb x_2 16 then
        let μ1 : Mm := mset μ (1, j, 6) (Int32.toNatClampNeg x_2) a2
        run L S F d 1 5 [some (vR (1, j, 6)), some (vI a2), some (vI (x_2 + 1)), some (vI x_3)] μ1
      else none
    else
      some (0, μ) := by
  unfold run
  rw [DF_succ]
  rfl
set_option maxHeartbeats 4000000 in
set_option maxRecDepth 100000 in
theorem e1_0_7 {L : Nat} {S : Ad → Nat → Int32} {F d : Nat} {μ : Mm} {j : Fin 15} {a2 : Int32} : run L S (F + 1) d 1 0 [some (vR (1, j, 7)), some (vI a2), none, none] μ =
    run L S F d 1 5 [some (vR (1, j, 7)), some (vI a2), some (vI 0), some (vI (Int32.ofNat 16))] μ := by
  unfold run
  rw [DF_succ]
  rfl
set_option maxHeartbeats 4000000 in
set_option maxRecDepth 100000 in
theorem e1_5_7 {L : Nat} {S : Ad → Nat → Int32} {F d : Nat} {μ : Mm} {j : Fin 15} {a2 : Int32} {x_2 : Int32} {x_3 : Int32} : run L S (F + 1) d 1 5 [some (vR (1, j, 7)), some (vI a2), some (vI x_2), some (vI x_3)] μ =
    if x_2 < x_3 then
      bif inb x_2 16 then
        let μ1 : Mm := mset μ (1, j, 7) (Int32.toNatClampNeg x_2) a2
        run L S F d 1 5 [some (vR (1, j, 7)), some (vI a2), some (vI (x_2 + 1)), some (vI x_3)] μ1
      else none
    else
      some (0, μ) := by
  unfold run
  rw [DF_succ]
  rfl
set_option maxHeartbeats 4000000 in
set_option maxRecDepth 100000 in
theorem e1_0_8 {L : Nat} {S : Ad → Nat → Int32} {F d : Nat} {μ : Mm} {j : Fin 15} {a2 : Int32} : run L S (F + 1) d 1 0 [some (vR (1, j, 8)), some (vI a2), none, none] μ =
    run L S F d 1 5 [some (vR (1, j, 8)), some (vI a2), some (vI 0), some (vI (Int32.ofNat 16))] μ := by
  unfold run
  rw [DF_succ]
  rfl
set_option maxHeartbeats 4000000 in
set_option maxRecDepth 100000 in
theorem e1_5_8 {L : Nat} {S : Ad → Nat → Int32} {F d : Nat} {μ : Mm} {j : Fin 15} {a2 : Int32} {x_2 : Int32} {x_3 : Int32} : run L S (F + 1) d 1 5 [some (vR (1, j, 8)), some (vI a2), some (vI x_2), some (vI x_3)] μ =
    if x_2 < x_3 then
      bif inb x_2 16 then
        let μ1 : Mm := mset μ (1, j, 8) (Int32.toNatClampNeg x_2) a2
        run L S F d 1 5 [some (vR (1, j, 8)), some (vI a2), some (vI (x_2 + 1)), some (vI x_3)] μ1
      else none
    else
      some (0, μ) := by
  unfold run
  rw [DF_succ]
  rfl
set_option maxHeartbeats 4000000 in
set_option maxRecDepth 100000 in
theorem e1_0_9 {L : Nat} {S : Ad → Nat → Int32} {F d : Nat} {μ : Mm} {j : Fin 15} {a2 : Int32} : run L S (F + 1) d 1 0 [some (vR (1, j, 9)), some (vI a2), none, none] μ =
    run L S F d 1 5 [some (vR (1, j, 9)), some (vI a2), some (vI 0), some (vI (Int32.ofNat 16))] μ := by
  unfold run
  rw [DF_succ]
  rfl
set_option maxHeartbeats 4000000 in
set_option maxRecDepth 100000 in
theorem e1_5_9 {L : Nat} {S : Ad → Nat → Int32} {F d : Nat} {μ : Mm} {j : Fin 15} {a2 : Int32} {x_2 : Int32} {x_3 : Int32} : run L S (F + 1) d 1 5 [some (vR (1, j, 9)), some (vI a2), some (vI x_2), some (vI x_3)] μ =
    if x_2 < x_3 then
      bif inb x_2 16 then
        let μ1 : Mm := mset μ (1, j, 9) (Int32.toNatClampNeg x_2) a2
        run L S F d 1 5 [some (vR (1, j, 9)), some (vI a2), some (vI (x_2 + 1)), some (vI x_3)] μ1
      else none
    else
      some (0, μ) := by
  unfold run
  rw [DF_succ]
  rfl
set_option maxHeartbeats 4000000 in
set_option maxRecDepth 100000 in
theorem e1_0_12 {L : Nat} {S : Ad → Nat → Int32} {F d : Nat} {μ : Mm} {j : Fin 15} {a2 : Int32} : run L S (F + 1) d 1 0 [some (vR (1, j, 12)), some (vI a2), none, none] μ =
    run L S F d 1 5 [some (vR (1, j, 12)), some (vI a2), some (vI 0), some (vI (Int32.ofNat 8))] μ := by
  unfold run
  rw [DF_succ]
  rfl
set_option maxHeartbeats 4000000 in
set_option maxRecDepth 100000 in
theorem e1_5_12 {L : Nat} {S : Ad → Nat → Int32} {F d : Nat} {μ : Mm} {j : Fin 15} {a2 : Int32} {x_2 : Int32} {x_3 : Int32} : run L S (F + 1) d 1 5 [some (vR (1, j, 12)), some (vI a2), some (vI x_2), some (vI x_3)] μ =
    if x_2 < x_3 then
      bif inb x_2 8 then
        let μ1 : Mm := mset μ (1, j, 12) (Int32.toNatClampNeg x_2) a2
        run L S F d 1 5 [some (vR (1, j, 12)), some (vI a2), some (vI (x_2 + 1)), some (vI x_3)] μ1
      else none
    else
      some (0, μ) := by
  unfold run
  rw [DF_succ]
  rfl
set_option maxHeartbeats 4000000 in
set_option maxRecDepth 100000 in
theorem e1_0_13 {L : Nat} {S : Ad → Nat → Int32} {F d : Nat} {μ : Mm} {j : Fin 15} {a2 : Int32} : run L S (F + 1) d 1 0 [some (vR (1, j, 13)), some (vI a2), none, none] μ =
    run L S F d 1 5 [some (vR (1, j, 13)), some (vI a2), some (vI 0), some (vI (Int32.ofNat 8))] μ := by
  unfold run
  rw [DF_succ]
  rfl
set_option maxHeartbeats 4000000 in
set_option maxRecDepth 100000 in
theorem e1_5_13 {L : Nat} {S : Ad → Nat → Int32} {F d : Nat} {μ : Mm} {j : Fin 15} {a2 : Int32} {x_2 : Int32} {x_3 : Int32} : run L S (F + 1) d 1 5 [some (vR (1, j, 13)), some (vI a2), some (vI x_2), some (vI x_3)] μ =
    if x_2 < x_3 then
      bif inb x_2 8 then
        let μ1 : Mm := mset μ (1, j, 13) (Int32.toNatClampNeg x_2) a2
        run L S F d 1 5 [some (vR (1, j, 13)), some (vI a2), some (vI (x_2 + 1)), some (vI x_3)] μ1
      else none
    else
      some (0, μ) := by
  unfold run
  rw [DF_succ]
  rfl
set_option maxHeartbeats 4000000 in
set_option maxRecDepth 100000 in
theorem e1_0_14 {L : Nat} {S : Ad → Nat → Int32} {F d : Nat} {μ : Mm} {j : Fin 15} {a2 : Int32} : run L S (F + 1) d 1 0 [some (vR (1, j, 14)), some (vI a2), none, none] μ =
    run L S F d 1 5 [some (vR (1, j, 14)), some (vI a2), some (vI 0), some (vI (Int32.ofNat 8))] μ := by
  unfold run
  rw [DF_succ]
  rfl
set_option maxHeartbeats 4000000 in
set_option maxRecDepth 100000 in
theorem e1_5_14 {L : Nat} {S : Ad → Nat → Int32} {F d : Nat} {μ : Mm} {j : Fin 15} {a2 : Int32} {x_2 : Int32} {x_3 : Int32} : run L S (F + 1) d 1 5 [some (vR (1, j, 14)), some (vI a2), some (vI x_2), some (vI x_3)] μ =
    if x_2 < x_3 then
      bif inb x_2 8 then
        let μ1 : Mm := mset μ (1, j, 14) (Int32.toNatClampNeg x_2) a2
        run L S F d 1 5 [some (vR (1, j, 14)), some (vI a2), some (vI (x_2 + 1)), some (vI x_3)] μ1
      else none
    else
      some (0, μ) := by
  unfold run
  rw [DF_succ]
  rfl
set_option maxHeartbeats 4000000 in
set_option maxRecDepth 100000 in
theorem e1_0_15 {L : Nat} {S : Ad → Nat → Int32} {F d : Nat} {μ : Mm} {j : Fin 15} {a2 : Int32} : run L S (F + 1) d 1 0 [some (vR (1, j, 15)), some (vI a2), none, none] μ =
    run L S F d 1 5 [some (vR (1, j, 15)), some (vI a2), some (vI 0), some (vI (Int32.ofNat 16))] μ := by
  unfold run
  rw [DF_succ]
  rfl
set_option maxHeartbeats 4000000 in
set_option maxRecDepth 100000 in
theorem e1_5_15 {L : Nat} {S : Ad → Nat → Int32} {F d : Nat} {μ : Mm} {j : Fin 15} {a2 : Int32} {x_2 : Int32} {x_3 : Int32} : run L S (F + 1) d 1 5 [some (vR (1, j, 15)), some (vI a2), some (vI x_2), some (vI x_3)] μ =
    if x_2 < x_3 then
      bif inb x_2 16 then
        let μ1 : Mm := mset μ (1, j, 15) (Int32.toNatClampNeg x_2) a2
        run L S F d 1 5 [some (vR (1, j, 15)), some (vI a2), some (vI (x_2 + 1)), some (vI x_3)] μ1
      else none
    else
      some (0, μ) := by
  unfold run
  rw [DF_succ]
  rfl
set_option maxHeartbeats 4000000 in
set_option maxRecDepth 100000 in
theorem e1_0_16 {L : Nat} {S : Ad → Nat → Int32} {F d : Nat} {μ : Mm} {j : Fin 15} {a2 : Int32} : run L S (F + 1) d 1 0 [some (vR (1, j, 16)), some (vI a2), none, none] μ =
    run L S F d 1 5 [some (vR (1, j, 16)), some (vI a2), some (vI 0), some (vI (Int32.ofNat 8))] μ := by
  unfold run
  rw [DF_succ]
  rfl
set_option maxHeartbeats 4000000 in
set_option maxRecDepth 100000 in
theorem e1_5_16 {L : Nat} {S : Ad → Nat → Int32} {F d : Nat} {μ : Mm} {j : Fin 15} {a2 : Int32} {x_2 : Int32} {x_3 : Int32} : run L S (F + 1) d 1 5 [some (vR (1, j, 16)), some (vI a2), some (vI x_2), some (vI x_3)] μ =
    if x_2 < x_3 then
      bif inb x_2 8 then
        let μ1 : Mm := mset μ (1, j, 16) (Int32.toNatClampNeg x_2) a2
        run L S F d 1 5 [some (vR (1, j, 16)), some (vI a2), some (vI (x_2 + 1)), some (vI x_3)] μ1
      else none
    else
      some (0, μ) := by
  unfold run
  rw [DF_succ]
  rfl
set_option maxHeartbeats 4000000 in
set_option maxRecDepth 100000 in
theorem e1_0_17 {L : Nat} {S : Ad → Nat → Int32} {F d : Nat} {μ : Mm} {j : Fin 15} {a2 : Int32} : run L S (F + 1) d 1 0 [some (vR (1, j, 17)), some (vI a2), none, none] μ =
    run L S F d 1 5 [some (vR (1, j, 17)), some (vI a2), some (vI 0), some (vI (Int32.ofNat 8))] μ := by
  unfold run
  rw [DF_succ]
  rfl
set_option maxHeartbeats 4000000 in
set_option maxRecDepth 100000 in
theorem e1_5_17 {L : Nat} {S : Ad → Nat → Int32} {F d : Nat} {μ : Mm} {j : Fin 15} {a2 : Int32} {x_2 : Int32} {x_3 : Int32} : run L S (F + 1) d 1 5 [some (vR (1, j, 17)), some (vI a2), some (vI x_2), some (vI x_3)] μ =
    if x_2 < x_3 then
      bif inb x_2 8 then
        let μ1 : Mm := mset μ (1, j, 17) (Int32.toNatClampNeg x_2) a2
        run L S F d 1 5 [some (vR (1, j, 17)), some (vI a2), some (vI (x_2 + 1)), some (vI x_3)] μ1
      else none
    else
      some (0, μ) := by
  unfold run
  rw [DF_succ]
  rfl
set_option maxHeartbeats 4000000 in
set_option maxRecDepth 100000 in
theorem e1_0_23 {L : Nat} {S : Ad → Nat → Int32} {F d : Nat} {μ : Mm} {j : Fin 15} {a2 : Int32} : run L S (F + 1) d 1 0 [some (vR (1, j, 23)), some (vI a2), none, none] μ =
    run L S F d 1 5 [some (vR (1, j, 23)), some (vI a2), some (vI 0), some (vI (Int32.ofNat 4))] μ := by
  unfold run
  rw [DF_succ]
  rfl
set_option maxHeartbeats 4000000 in
set_option maxRecDepth 100000 in
theorem e1_5_23 {L : Nat} {S : Ad → Nat → Int32} {F d : Nat} {μ : Mm} {j : Fin 15} {a2 : Int32} {x_2 : Int32} {x_3 : Int32} : run L S (F + 1) d 1 5 [some (vR (1, j, 23)), some (vI a2), some (vI x_2), some (vI x_3)] μ =
    if x_2 < x_3 then
      bif inb x_2 4 then
        let μ1 : Mm := mset μ (1, j, 23) (Int32.toNatClampNeg x_2) a2
        run L S F d 1 5 [some (vR (1, j, 23)), some (vI a2), some (vI (x_2 + 1)), some (vI x_3)] μ1
      else none
    else
      some (0, μ) := by
  unfold run
  rw [DF_succ]
  rfl
set_option maxHeartbeats 4000000 in
set_option maxRecDepth 100000 in
theorem e1_0_24 {L : Nat} {S : Ad → Nat → Int32} {F d : Nat} {μ : Mm} {j : Fin 15} {a2 : Int32} : run L S (F + 1) d 1 0 [some (vR (1, j, 24)), some (vI a2), none, none] μ =
    run L S F d 1 5 [some (vR (1, j, 24)), some (vI a2), some (vI 0), some (vI (Int32.ofNat 9))] μ := by
  unfold run
  rw [DF_succ]
  rfl
set_option maxHeartbeats 4000000 in
set_option maxRecDepth 100000 in
theorem e1_5_24 {L : Nat} {S : Ad → Nat → Int32} {F d : Nat} {μ : Mm} {j : Fin 15} {a2 : Int32} {x_2 : Int32} {x_3 : Int32} : run L S (F + 1) d 1 5 [some (vR (1, j, 24)), some (vI a2), some (vI x_2), some (vI x_3)] μ =
    if x_2 < x_3 then
      bif inb x_2 9 then
        let μ1 : Mm := mset μ (1, j, 24) (Int32.toNatClampNeg x_2) a2
        run L S F d 1 5 [some (vR (1, j, 24)), some (vI a2), some (vI (x_2 + 1)), some (vI x_3)] μ1
      else none
    else
      some (0, μ) := by
  unfold run
  rw [DF_succ]
  rfl
set_option maxHeartbeats 4000000 in
set_option maxRecDepth 100000 in
theorem e2_0 {L : Nat} {S : Ad → Nat → Int32} {F d : Nat} {μ : Mm} {j : Fin 15} {a1 : Int32} : run L S (F + 1) (d + 1) 2 0 [some (vR (1, j, 2)), some (vI a1), none] μ =
    let μ1 : Mm := mset μ (1, j, 2) 0 a1
    let μ2 : Mm := mset μ1 (1, j, 2) 1 0
    let μ3 : Mm := mset μ2 (1, j, 2) 2 0
    (run L S F d 1 0 [some (vR (1, j, 5)), some (vI 0), none, none] μ3).bind fun p4 =>
    (run L S F d 1 0 [some (vR (1, j, 6)), some (vI 0), none, none] p4.2).bind fun p5 =>
    (run L S F d 1 0 [some (vR (1, j, 7)), some (vI 0), none, none] p5.2).bind fun p6 =>
    (run L S F d 1 0 [some (vR (1, j, 8)), some (vI 0), none, none] p6.2).bind fun p7 =>
    (run L S F d 1 0 [some (vR (1, j, 9)), some (vI 0), none, none] p7.2).bind fun p8 =>
    run L S F (d + 1) 2 57 [some (vR (1, j, 2)), none, some (vI 0)] p8.2 := by
  unfold run
  rw [DF_succ]
  rfl
set_option maxHeartbeats 4000000 in
set_option maxRecDepth 100000 in
theorem e2_57 {L : Nat} {S : Ad → Nat → Int32} {F d : Nat} {μ : Mm} {j : Fin 15} {x_2 : Int32} : run L S (F + 1) (d + 1) 2 57 [some (vR (1, j, 2)), none, some (vI x_2)] μ =
    if x_2 < 16 then
      bif inb x_2 16 then
        let μ1 : Mm := mset μ (1, j, 3) (Int32.toNatClampNeg x_2) x_2
        bif inb x_2 16 then
          let μ2 : Mm := mset μ1 (1, j, 4) (Int32.toNatClampNeg x_2) x_2
          bif inb x_2 16 then
            let μ3 : Mm := mset μ2 (1, j, 10) (Int32.toNatClampNeg x_2) ((1 : Int32) <<< ((x_2 - x_2 / 8 * 8) &&& 31))
            run L S F (d + 1) 2 57 [some (vR (1, j, 2)), none, some (vI (x_2 + 1))] μ3
          else none
        else none
      else none
    else
      some (0, μ) := by
  unfold run
  rw [DF_succ]
  rfl
set_option maxHeartbeats 4000000 in
set_option maxRecDepth 100000 in
theorem e3_0 {L : Nat} {S : Ad → Nat → Int32} {F d : Nat} {μ : Mm} {j : Fin 15} {i : Fin 15} : run L S (F + 1) d 3 0 [some (vR (1, j, 2)), some (vR (1, i, 2))] μ =
    let μ1 : Mm := mset μ (1, j, 2) 0 (μ (1, i, 2) 0)
    let x2 : Int32 := μ1 (1, i, 2) 1
    let μ3 : Mm := mset μ1 (1, j, 2) 1 x2
    let x4 : Int32 := μ3 (1, i, 2) 2
    let μ5 : Mm := mset μ3 (1, j, 2) 2 x4
    bif cpyok 0 0 16 16 16 then
      let μ6 : Mm := mcpy μ5 (1, i, 3) (Int32.toNatClampNeg 0) (1, j, 3) (Int32.toNatClampNeg 0) (Int32.toNatClampNeg 16)
      bif cpyok 0 0 16 16 16 then
        let μ7 : Mm := mcpy μ6 (1, i, 4) (Int32.toNatClampNeg 0) (1, j, 4) (Int32.toNatClampNeg 0) (Int32.toNatClampNeg 16)
        bif cpyok 0 0 16 16 16 then
          let μ8 : Mm := mcpy μ7 (1, i, 5) (Int32.toNatClampNeg 0) (1, j, 5) (Int32.toNatClampNeg 0) (Int32.toNatClampNeg 16)
          bif cpyok 0 0 16 16 16 then
            let μ9 : Mm := mcpy μ8 (1, i, 6) (Int32.toNatClampNeg 0) (1, j, 6) (Int32.toNatClampNeg 0) (Int32.toNatClampNeg 16)
            bif cpyok 0 0 16 16 16 then
              let μ10 : Mm := mcpy μ9 (1, i, 7) (Int32.toNatClampNeg 0) (1, j, 7) (Int32.toNatClampNeg 0) (Int32.toNatClampNeg 16)
              bif cpyok 0 0 16 16 16 then
                let μ11 : Mm := mcpy μ10 (1, i, 8) (Int32.toNatClampNeg 0) (1, j, 8) (Int32.toNatClampNeg 0) (Int32.toNatClampNeg 16)
                bif cpyok 0 0 16 16 16 then
                  let μ12 : Mm := mcpy μ11 (1, i, 9) (Int32.toNatClampNeg 0) (1, j, 9) (Int32.toNatClampNeg 0) (Int32.toNatClampNeg 16)
                  bif cpyok 0 0 16 16 16 then
                    let μ13 : Mm := mcpy μ12 (1, i, 10) (Int32.toNatClampNeg 0) (1, j, 10) (Int32.toNatClampNeg 0) (Int32.toNatClampNeg 16)
                    some (0, μ13)
                  else none
                else none
              else none
            else none
          else none
        else none
      else none
    else none := by
  unfold run
  rw [DF_succ]
  rfl
set_option maxHeartbeats 4000000 in
set_option maxRecDepth 100000 in
theorem e4_0 {L : Nat} {S : Ad → Nat → Int32} {F d : Nat} {μ : Mm} {j : Fin 15} {a1 : Int32} : run L S (F + 1) d 4 0 [some (vR (1, j, 2)), some (vI a1)] μ =
    if a1 < 0 then
      some (vp_nar .boolean 0, μ)
    else
      if a1 < (μ (1, j, 2) 0) then
        if a1 < 16 then
          some (vp_nar .boolean 1, μ)
        else
          some (vp_nar .boolean 0, μ)
      else
        some (vp_nar .boolean 0, μ) := by
  unfold run
  rw [DF_succ]
  rfl
set_option maxHeartbeats 4000000 in
set_option maxRecDepth 100000 in
theorem e5_0 {L : Nat} {S : Ad → Nat → Int32} {F d : Nat} {μ : Mm} {j : Fin 15} {a1 : Int32} {a2 : Int32} : run L S (F + 1) d 5 0 [some (vR (1, j, 2)), some (vI a1), some (vI a2), none, none] μ =
    bif inb a1 16 then
      let x1 : Int32 := μ (1, j, 3) (Int32.toNatClampNeg a1)
      bif inb a2 16 then
        let x2 : Int32 := μ (1, j, 3) (Int32.toNatClampNeg a2)
        bif inb a1 16 then
          let μ3 : Mm := mset μ (1, j, 3) (Int32.toNatClampNeg a1) x2
          bif inb a2 16 then
            let μ4 : Mm := mset μ3 (1, j, 3) (Int32.toNatClampNeg a2) x1
            bif inb x2 16 then
              let μ5 : Mm := mset μ4 (1, j, 4) (Int32.toNatClampNeg x2) a1
              bif inb x1 16 then
                let μ6 : Mm := mset μ5 (1, j, 4) (Int32.toNatClampNeg x1) a2
                some ((mabs (x1 - x2)), μ6)
              else none
            else none
          else none
        else none
      else none
    else none := by
  unfold run
  rw [DF_succ]
  rfl
set_option maxHeartbeats 4000000 in
set_option maxRecDepth 100000 in
theorem e6_0 {L : Nat} {S : Ad → Nat → Int32} {F d : Nat} {μ : Mm} {j : Fin 15} {a1 : Int32} {a2 : Int32} : run L S (F + 1) d 6 0 [some (vR (1, j, 2)), some (vI a1), some (vI a2), none] μ =
    bif inb a1 16 then
      let x1 : Int32 := μ (1, j, 8) (Int32.toNatClampNeg a1)
      bif inb a1 16 then
        let μ2 : Mm := mset μ (1, j, 8) (Int32.toNatClampNeg a1) a2
        bif inb a1 16 then
          let μ3 : Mm := mset μ2 (1, j, 9) (Int32.toNatClampNeg a1) a2
          let x4 : Int32 := μ3 (1, j, 2) 2
          let μ5 : Mm := mset μ3 (1, j, 2) 2 (x4 &&& (((1 : Int32) <<< (a1 &&& 31)) ^^^ (-1)))
          some (x1, μ5)
        else none
      else none
    else none := by
  unfold run
  rw [DF_succ]
  rfl
set_option maxHeartbeats 4000000 in
set_option maxRecDepth 100000 in
theorem e7_0 {L : Nat} {S : Ad → Nat → Int32} {F d : Nat} {μ : Mm} {j : Fin 15} {a1 : Int32} : run L S (F + 1) d 7 0 [some (vR (1, j, 2)), some (vI a1)] μ =
    bif inb a1 16 then
      let μ1 : Mm := mset μ (1, j, 5) (Int32.toNatClampNeg a1) 0
      bif inb a1 16 then
        let x2 : Int32 := μ1 (1, j, 6) (Int32.toNatClampNeg a1)
        bif inb a1 16 then
          let μ3 : Mm := mset μ1 (1, j, 6) (Int32.toNatClampNeg a1) (x2 + 1)
          bif inb a1 16 then
            let x4 : Int32 := μ3 (1, j, 7) (Int32.toNatClampNeg a1)
            bif inb a1 16 then
              let μ5 : Mm := mset μ3 (1, j, 7) (Int32.toNatClampNeg a1) (x4 + 1)
              some (0, μ5)
            else none
          else none
        else none
      else none
    else none := by
  unfold run
  rw [DF_succ]
  rfl
set_option maxHeartbeats 4000000 in
set_option maxRecDepth 100000 in
theorem e8_0 {L : Nat} {S : Ad → Nat → Int32} {F d : Nat} {μ : Mm} {j : Fin 15} {a1 : Int32} : run L S (F + 1) (d + 1) 8 0 [some (vR (1, j, 2)), some (vI a1), some (vR (1, j, 1)), none, none, none] μ =
    bif inb a1 16 then
      let x1 : Int32 := μ (1, j, 3) (Int32.toNatClampNeg a1)
      let x2 : Int32 := μ (1, j, 1) 0
      (run L S F d 9 0 [some (vR (1, j, 2)), some (vI (x1 - 1)), some (vI 2), some (vI x2), none, none] μ).bind fun p3 =>
      (run L S F d 9 0 [some (vR (1, j, 2)), some (vI (x1 + 1)), some (vI 2), some (vI x2), none, none] p3.2).bind fun p4 =>
      let x5 : Int32 := p4.2 (1, j, 1) 1
      if x5 = 2 then
        (run L S F d 9 0 [some (vR (1, j, 2)), some (vI (x1 - 2)), some (vI 1), some (vI x2), none, none] p4.2).bind fun p6 =>
        (run L S F d 9 0 [some (vR (1, j, 2)), some (vI (x1 + 2)), some (vI 1), some (vI x2), none, none] p6.2).bind fun p7 =>
        some (((p3.1 + p4.1) + (p6.1 + p7.1)), p7.2)
      else
        some ((p3.1 + p4.1), p4.2)
    else none := by
  unfold run
  rw [DF_succ]
  rfl
set_option maxHeartbeats 4000000 in
set_option maxRecDepth 100000 in
theorem e9_0 {L : Nat} {S : Ad → Nat → Int32} {F d : Nat} {μ : Mm} {j : Fin 15} {a1 : Int32} {a2 : Int32} {a3 : Int32} : run L S (F + 1) d 9 0 [some (vR (1, j, 2)), some (vI a1), some (vI a2), some (vI a3), none, none] μ =
    if a1 < 0 then
      some (0, μ)
    else
      if a1 < (μ (1, j, 2) 0) then
        if a1 < 16 then
          bif inb a1 16 then
            let x1 : Int32 := μ (1, j, 4) (Int32.toNatClampNeg a1)
            bif inb x1 16 then
              let x2 : Int32 := μ (1, j, 5) (Int32.toNatClampNeg x1)
              bif inb x1 16 then
                let μ3 : Mm := mset μ (1, j, 5) (Int32.toNatClampNeg x1) (x2 + a2)
                let x4 : Int32 := μ3 (1, j, 2) 3
                bif inb x1 16 then
                  let x5 : Int32 := μ3 (1, j, 5) (Int32.toNatClampNeg x1)
                  let μ6 : Mm := mset μ3 (1, j, 2) 3 (mmax x4 x5)
                  if x2 < a3 then
                    bif inb x1 16 then
                      let x7 : Int32 := μ6 (1, j, 5) (Int32.toNatClampNeg x1)
                      if x7 < a3 then
                        some (0, μ6)
                      else
                        let x8 : Int32 := μ6 (1, j, 2) 1
                        let μ9 : Mm := mset μ6 (1, j, 2) 1 (x8 ||| ((1 : Int32) <<< (x1 &&& 31)))
                        bif inb x1 16 then
                          let x10 : Int32 := μ9 (1, j, 8) (Int32.toNatClampNeg x1)
                          bif inb x1 16 then
                            let x11 : Int32 := μ9 (1, j, 10) (Int32.toNatClampNeg x1)
                            bif inb x1 16 then
                              let μ12 : Mm := mset μ9 (1, j, 8) (Int32.toNatClampNeg x1) (x10 ^^^ x11)
                              some (1, μ12)
                            else none
                          else none
                        else none
                    else none
                  else
                    some (0, μ6)
                else none
              else none
            else none
          else none
        else
          some (0, μ)
      else
        some (0, μ) := by
  unfold run
  rw [DF_succ]
  rfl
set_option maxHeartbeats 4000000 in
set_option maxRecDepth 100000 in
theorem e10_0 {L : Nat} {S : Ad → Nat → Int32} {F d : Nat} {μ : Mm} {j : Fin 15} {a1 : Int32} : run L S (F + 1) (d + 1) 10 0 [some (vR (1, j, 2)), some (vI a1), none] μ =
    bif inb a1 16 then
      let x1 : Int32 := μ (1, j, 8) (Int32.toNatClampNeg a1)
      bif inb a1 16 then
        let x2 : Int32 := μ (1, j, 9) (Int32.toNatClampNeg a1)
        (run L S F d 0 0 [some (vI (x1 ^^^ x2))] μ).bind fun p3 =>
        if p3.1 = 1 then
          bif inb a1 16 then
            let x7 : Int32 := p3.2 (1, j, 9) (Int32.toNatClampNeg a1)
            bif inb a1 16 then
              let μ8 : Mm := mset p3.2 (1, j, 8) (Int32.toNatClampNeg a1) x7
              some (7, μ8)
            else none
          else none
        else
          if p3.1 = 0 then
            some ((-1), p3.2)
          else
            let x4 : Int32 := p3.2 (1, j, 2) 2
            if ((x4 >>> (a1 &&& 31)) &&& 1) = 1 then
              some ((-1), p3.2)
            else
              let x5 : Int32 := p3.2 (1, j, 2) 2
              let μ6 : Mm := mset p3.2 (1, j, 2) 2 (x5 ||| ((1 : Int32) <<< (a1 &&& 31)))
              some (8, μ6)
      else none
    else none := by
  unfold run
  rw [DF_succ]
  rfl
set_option maxHeartbeats 4000000 in
set_option maxRecDepth 100000 in
theorem e11_0 {L : Nat} {S : Ad → Nat → Int32} {F d : Nat} {μ : Mm} {j : Fin 15} {a1 : Int32} : run L S (F + 1) d 11 0 [some (vR (1, j, 2)), some (vI a1), none, none] μ =
    run L S F d 11 4 [some (vR (1, j, 2)), some (vI a1), some (vI 0), some (vI 0)] μ := by
  unfold run
  rw [DF_succ]
  rfl
set_option maxHeartbeats 4000000 in
set_option maxRecDepth 100000 in
theorem e11_4 {L : Nat} {S : Ad → Nat → Int32} {F d : Nat} {μ : Mm} {j : Fin 15} {a1 : Int32} {x_2 : Int32} {x_3 : Int32} : run L S (F + 1) d 11 4 [some (vR (1, j, 2)), some (vI a1), some (vI x_2), some (vI x_3)] μ =
    if x_3 < (μ (1, j, 2) 0) then
      bif inb x_3 16 then
        let x1 : Int32 := μ (1, j, 6) (Int32.toNatClampNeg x_3)
        if x1 < a1 then
          run L S F d 11 4 [some (vR (1, j, 2)), some (vI a1), some (vI x_2), some (vI (x_3 + 1))] μ
        else
          run L S F d 11 4 [some (vR (1, j, 2)), some (vI a1), some (vI (x_2 ||| ((1 : Int32) <<< (x_3 &&& 31)))), some (vI (x_3 + 1))] μ
      else none
    else
      some (x_2, μ) := by
  unfold run
  rw [DF_succ]
  rfl
set_option maxHeartbeats 4000000 in
set_option maxRecDepth 100000 in
theorem e12_0 {L : Nat} {S : Ad → Nat → Int32} {F d : Nat} {μ : Mm} {j : Fin 15} : run L S (F + 1) d 12 0 [some (vR (1, j, 2)), none, none] μ =
    run L S F d 12 4 [some (vR (1, j, 2)), some (vI 0), some (vI 1)] μ := by
  unfold run
  rw [DF_succ]
  rfl
set_option maxHeartbeats 4000000 in
set_option maxRecDepth 100000 in
theorem e12_4 {L : Nat} {S : Ad → Nat → Int32} {F d : Nat} {μ : Mm} {j : Fin 15} {x_1 : Int32} {x_2 : Int32} : run L S (F + 1) d 12 4 [some (vR (1, j, 2)), some (vI x_1), some (vI x_2)] μ =
    if x_2 < (μ (1, j, 2) 0) then
      bif inb x_2 16 then
        let x1 : Int32 := μ (1, j, 5) (Int32.toNatClampNeg x_2)
        bif inb x_1 16 then
          let x2 : Int32 := μ (1, j, 5) (Int32.toNatClampNeg x_1)
          if x2 < x1 then
            run L S F d 12 4 [some (vR (1, j, 2)), some (vI x_2), some (vI (x_2 + 1))] μ
          else
            run L S F d 12 4 [some (vR (1, j, 2)), some (vI x_1), some (vI (x_2 + 1))] μ
        else none
      else none
    else
      some (x_1, μ) := by
  unfold run
  rw [DF_succ]
  rfl
set_option maxHeartbeats 4000000 in
set_option maxRecDepth 100000 in
theorem e13_0 {L : Nat} {S : Ad → Nat → Int32} {F d : Nat} {μ : Mm} {j : Fin 15} : run L S (F + 1) (d + 1) 13 0 [some (vR (1, j, 11))] μ =
    let μ1 : Mm := mset μ (1, j, 11) 0 0
    let μ2 : Mm := mset μ1 (1, j, 11) 1 0
    (run L S F d 1 0 [some (vR (1, j, 12)), some (vI (-1)), none, none] μ2).bind fun p3 =>
    (run L S F d 1 0 [some (vR (1, j, 13)), some (vI 0), none, none] p3.2).bind fun p4 =>
    (run L S F d 1 0 [some (vR (1, j, 14)), some (vI 0), none, none] p4.2).bind fun p5 =>
    (run L S F d 1 0 [some (vR (1, j, 15)), some (vI 0), none, none] p5.2).bind fun p6 =>
    (run L S F d 1 0 [some (vR (1, j, 16)), some (vI 0), none, none] p6.2).bind fun p7 =>
    (run L S F d 1 0 [some (vR (1, j, 17)), some (vI 0), none, none] p7.2).bind fun p8 =>
    some (0, p8.2) := by
  unfold run
  rw [DF_succ]
  rfl
set_option maxHeartbeats 4000000 in
set_option maxRecDepth 100000 in
theorem e14_0 {L : Nat} {S : Ad → Nat → Int32} {F d : Nat} {μ : Mm} {j : Fin 15} {i : Fin 15} : run L S (F + 1) d 14 0 [some (vR (1, j, 11)), some (vR (1, i, 11))] μ =
    let μ1 : Mm := mset μ (1, j, 11) 0 (μ (1, i, 11) 0)
    let x2 : Int32 := μ1 (1, i, 11) 1
    let μ3 : Mm := mset μ1 (1, j, 11) 1 x2
    let x4 : Int32 := μ3 (1, i, 11) 2
    let μ5 : Mm := mset μ3 (1, j, 11) 2 x4
    bif cpyok 0 0 8 8 8 then
      let μ6 : Mm := mcpy μ5 (1, i, 12) (Int32.toNatClampNeg 0) (1, j, 12) (Int32.toNatClampNeg 0) (Int32.toNatClampNeg 8)
      bif cpyok 0 0 8 8 8 then
        let μ7 : Mm := mcpy μ6 (1, i, 13) (Int32.toNatClampNeg 0) (1, j, 13) (Int32.toNatClampNeg 0) (Int32.toNatClampNeg 8)
        bif cpyok 0 0 8 8 8 then
          let μ8 : Mm := mcpy μ7 (1, i, 14) (Int32.toNatClampNeg 0) (1, j, 14) (Int32.toNatClampNeg 0) (Int32.toNatClampNeg 8)
          bif cpyok 0 0 16 16 16 then
            let μ9 : Mm := mcpy μ8 (1, i, 15) (Int32.toNatClampNeg 0) (1, j, 15) (Int32.toNatClampNeg 0) (Int32.toNatClampNeg 16)
            bif cpyok 0 0 8 8 8 then
              let μ10 : Mm := mcpy μ9 (1, i, 16) (Int32.toNatClampNeg 0) (1, j, 16) (Int32.toNatClampNeg 0) (Int32.toNatClampNeg 8)
              bif cpyok 0 0 8 8 8 then
                let μ11 : Mm := mcpy μ10 (1, i, 17) (Int32.toNatClampNeg 0) (1, j, 17) (Int32.toNatClampNeg 0) (Int32.toNatClampNeg 8)
                some (0, μ11)
              else none
            else none
          else none
        else none
      else none
    else none := by
  unfold run
  rw [DF_succ]
  rfl
set_option maxHeartbeats 4000000 in
set_option maxRecDepth 100000 in
theorem e15_0 {L : Nat} {S : Ad → Nat → Int32} {F d : Nat} {μ : Mm} {j : Fin 15} {a1 : Int32} : run L S (F + 1) d 15 0 [some (vR (1, j, 11)), some (vI a1), none] μ =
    if 0 < a1 then
      if a1 = 0 then none else
      let μ2 : Mm := mset μ (1, j, 11) 2 (((421 * (μ (1, j, 11) 2)) + 1663) - ((421 * (μ (1, j, 11) 2)) + 1663) / 7875 * 7875)
      some (((μ (1, j, 11) 2) - (μ (1, j, 11) 2) / a1 * a1), μ2)
    else
      let μ1 : Mm := mset μ (1, j, 11) 2 (((421 * (μ (1, j, 11) 2)) + 1663) - ((421 * (μ (1, j, 11) 2)) + 1663) / 7875 * 7875)
      some (0, μ1) := by
  unfold run
  rw [DF_succ]
  rfl
set_option maxHeartbeats 4000000 in
set_option maxRecDepth 100000 in
theorem e16_0 {L : Nat} {S : Ad → Nat → Int32} {F d : Nat} {μ : Mm} {j : Fin 15} {a1 : Int32} : run L S (F + 1) (d + 1) 16 0 [some (vR (1, j, 11)), some (vI a1), some (vR (1, j, 1)), none, none] μ =
    (run L S F d 17 0 [some (vR (1, j, 11)), some (vR (1, j, 1))] μ).bind fun p1 =>
    (run L S F d 19 0 [some (vR (1, j, 11)), some (vR (1, j, 12)), some (vI p1.1), some (vI a1), none] p1.2).bind fun p2 =>
    let x3 : Int32 := p2.2 (1, j, 1) 2
    if x3 = 0 then
      if p2.1 < 0 then
        let x6 : Int32 := p2.2 (1, j, 11) 0
        (run L S F d 19 0 [some (vR (1, j, 11)), some (vR (1, j, 13)), some (vI p1.1), some (vI x6), none] p2.2).bind fun p7 =>
        (run L S F d 21 0 [some (vR (1, j, 11)), some (vI a1), some (vI p7.1)] p7.2).bind fun p8 =>
        (run L S F d 18 0 [some (vR (1, j, 11)), some (vI p8.1), some (vR (1, j, 1))] p8.2).bind fun p9 =>
        some (vp_nar .boolean p9.1, p9.2)
      else
        (run L S F d 21 0 [some (vR (1, j, 11)), some (vI a1), some (vI p2.1)] p2.2).bind fun p4 =>
        (run L S F d 18 0 [some (vR (1, j, 11)), some (vI p4.1), some (vR (1, j, 1))] p4.2).bind fun p5 =>
        some (vp_nar .boolean p5.1, p5.2)
    else if x3 = 1 then
      (run L S F d 20 0 [some (vR (1, j, 11)), some (vI a1)] p2.2).bind fun p10 =>
      (run L S F d 18 0 [some (vR (1, j, 11)), some (vI p10.1), some (vR (1, j, 1))] p10.2).bind fun p11 =>
      some (vp_nar .boolean p11.1, p11.2)
    else if x3 = 2 then
      (run L S F d 15 0 [some (vR (1, j, 11)), some (vI 100), none] p2.2).bind fun p12 =>
      let x13 : Int32 := p12.2 (1, j, 1) 13
      if p12.1 < x13 then
        some (vp_nar .boolean 1, p12.2)
      else
        some (vp_nar .boolean 0, p12.2)
    else if x3 = 3 then
      (run L S F d 22 0 [some (vR (1, j, 11)), some (vI a1), some (vI p1.1), none, none] p2.2).bind fun p14 =>
      (run L S F d 18 0 [some (vR (1, j, 11)), some (vI p14.1), some (vR (1, j, 1))] p14.2).bind fun p15 =>
      some (vp_nar .boolean p15.1, p15.2)
    else if x3 = 4 then
      if p2.1 < 0 then
        (run L S F d 24 0 [some (vR (1, j, 11)), some (vI p1.1), none, none] p2.2).bind fun p18 =>
        (run L S F d 23 0 [some (vR (1, j, 11)), some (vI a1), some (vI p18.1)] p18.2).bind fun p19 =>
        (run L S F d 18 0 [some (vR (1, j, 11)), some (vI p19.1), some (vR (1, j, 1))] p19.2).bind fun p20 =>
        some (vp_nar .boolean p20.1, p20.2)
      else
        (run L S F d 23 0 [some (vR (1, j, 11)), some (vI a1), some (vI p2.1)] p2.2).bind fun p16 =>
        (run L S F d 18 0 [some (vR (1, j, 11)), some (vI p16.1), some (vR (1, j, 1))] p16.2).bind fun p17 =>
        some (vp_nar .boolean p17.1, p17.2)
    else (run L S F d 20 0 [some (vR (1, j, 11)), some (vI a1)] p2.2).bind fun p21 =>
    some (vp_nar .boolean 0, p21.2) := by
  unfold run
  rw [DF_succ]
  rfl
set_option maxHeartbeats 4000000 in
set_option maxRecDepth 100000 in
theorem e17_0 {L : Nat} {S : Ad → Nat → Int32} {F d : Nat} {μ : Mm} {j : Fin 15} : run L S (F + 1) d 17 0 [some (vR (1, j, 11)), some (vR (1, j, 1))] μ =
    let x1 : Int32 := μ (1, j, 1) 3
    some ((mmax 1 (mmin 8 x1)), μ) := by
  unfold run
  rw [DF_succ]
  rfl
set_option maxHeartbeats 4000000 in
set_option maxRecDepth 100000 in
theorem e18_0 {L : Nat} {S : Ad → Nat → Int32} {F d : Nat} {μ : Mm} {j : Fin 15} {a1 : Int32} : run L S (F + 1) d 18 0 [some (vR (1, j, 11)), some (vI a1), some (vR (1, j, 1))] μ =
    if 0 < a1 then
      let x1 : Int32 := μ (1, j, 1) 4
      if (mmax 1 x1) = 0 then none else
      if (a1 - a1 / (mmax 1 x1) * (mmax 1 x1)) = 0 then
        some (vp_nar .boolean 1, μ)
      else
        some (vp_nar .boolean 0, μ)
    else
      some (vp_nar .boolean 0, μ) := by
  unfold run
  rw [DF_succ]
  rfl
set_option maxHeartbeats 4000000 in
set_option maxRecDepth 100000 in
theorem e19_0_r {L : Nat} {S : Ad → Nat → Int32} {F d : Nat} {μ : Mm} {j : Fin 15} {a2 : Int32} {a3 : Int32} : run L S (F + 1) d 19 0 [some (vR (1, j, 11)), some (vR (1, j, 12)), some (vI a2), some (vI a3), none] μ =
    run L S F d 19 3 [none, some (vR (1, j, 12)), some (vI a2), some (vI a3), some (vI 0)] μ := by
  unfold run
  rw [DF_succ]
  rfl
set_option maxHeartbeats 4000000 in
set_option maxRecDepth 100000 in
theorem e19_3_r {L : Nat} {S : Ad → Nat → Int32} {F d : Nat} {μ : Mm} {j : Fin 15} {a2 : Int32} {a3 : Int32} {x_4 : Int32} : run L S (F + 1) d 19 3 [none, some (vR (1, j, 12)), some (vI a2), some (vI a3), some (vI x_4)] μ =
    if x_4 < a2 then
      bif inb x_4 8 then
        let x1 : Int32 := μ (1, j, 12) (Int32.toNatClampNeg x_4)
        if x1 = a3 then
          some (x_4, μ)
        else
          run L S F d 19 3 [none, some (vR (1, j, 12)), some (vI a2), some (vI a3), some (vI (x_4 + 1))] μ
      else none
    else
      some ((-1), μ) := by
  unfold run
  rw [DF_succ]
  rfl
set_option maxHeartbeats 4000000 in
set_option maxRecDepth 100000 in
theorem e19_0_c {L : Nat} {S : Ad → Nat → Int32} {F d : Nat} {μ : Mm} {j : Fin 15} {a2 : Int32} {a3 : Int32} : run L S (F + 1) d 19 0 [some (vR (1, j, 11)), some (vR (1, j, 13)), some (vI a2), some (vI a3), none] μ =
    run L S F d 19 3 [none, some (vR (1, j, 13)), some (vI a2), some (vI a3), some (vI 0)] μ := by
  unfold run
  rw [DF_succ]
  rfl
set_option maxHeartbeats 4000000 in
set_option maxRecDepth 100000 in
theorem e19_3_c {L : Nat} {S : Ad → Nat → Int32} {F d : Nat} {μ : Mm} {j : Fin 15} {a2 : Int32} {a3 : Int32} {x_4 : Int32} : run L S (F + 1) d 19 3 [none, some (vR (1, j, 13)), some (vI a2), some (vI a3), some (vI x_4)] μ =
    if x_4 < a2 then
      bif inb x_4 8 then
        let x1 : Int32 := μ (1, j, 13) (Int32.toNatClampNeg x_4)
        if x1 = a3 then
          some (x_4, μ)
        else
          run L S F d 19 3 [none, some (vR (1, j, 13)), some (vI a2), some (vI a3), some (vI (x_4 + 1))] μ
      else none
    else
      some ((-1), μ) := by
  unfold run
  rw [DF_succ]
  rfl
set_option maxHeartbeats 4000000 in
set_option maxRecDepth 100000 in
theorem e20_0 {L : Nat} {S : Ad → Nat → Int32} {F d : Nat} {μ : Mm} {j : Fin 15} {a1 : Int32} : run L S (F + 1) d 20 0 [some (vR (1, j, 11)), some (vI a1)] μ =
    bif inb a1 16 then
      let x1 : Int32 := μ (1, j, 15) (Int32.toNatClampNeg a1)
      bif inb a1 16 then
        let μ2 : Mm := mset μ (1, j, 15) (Int32.toNatClampNeg a1) (x1 + 1)
        bif inb a1 16 then
          let x3 : Int32 := μ2 (1, j, 15) (Int32.toNatClampNeg a1)
          some (x3, μ2)
        else none
      else none
    else none := by
  unfold run
  rw [DF_succ]
  rfl
set_option maxHeartbeats 4000000 in
set_option maxRecDepth 100000 in
theorem e21_0 {L : Nat} {S : Ad → Nat → Int32} {F d : Nat} {μ : Mm} {j : Fin 15} {a1 : Int32} {a2 : Int32} : run L S (F + 1) d 21 0 [some (vR (1, j, 11)), some (vI a1), some (vI a2)] μ =
    if a2 < 0 then
      let μ5 : Mm := mset μ (1, j, 11) 0 ((μ (1, j, 11) 0) + 1)
      some (0, μ5)
    else
      bif inb a2 8 then
        let μ1 : Mm := mset μ (1, j, 12) (Int32.toNatClampNeg a2) a1
        bif inb a2 8 then
          let x2 : Int32 := μ1 (1, j, 13) (Int32.toNatClampNeg a2)
          bif inb a2 8 then
            let μ3 : Mm := mset μ1 (1, j, 13) (Int32.toNatClampNeg a2) (x2 + 1)
            bif inb a2 8 then
              let x4 : Int32 := μ3 (1, j, 13) (Int32.toNatClampNeg a2)
              some (x4, μ3)
            else none
          else none
        else none
      else none := by
  unfold run
  rw [DF_succ]
  rfl
