/-! equations of the methods, out of their code -/
set_option maxHeartbeats 4000000 in
set_option maxRecDepth 100000 in
theorem e51_50 {L : Nat} {S : Ad → Nat → Int32} {F d : Nat} {μ : Mm} : run L S (F + 1) (d + 1) 51 50 [some (vR (0, 0, 1)), none, none] μ =
    if (μ (0, 0, 1) 4) < 500 then
      (run L S F d 38 0 [some (vR (1, 2, 0))] μ).bind fun p1 =>
      if p1.1 = 0 then
        some (0, p1.2)
      else
        (run L S F d 39 0 [some (vR (1, 2, 0)), none] p1.2).bind fun p2 =>
        let x3 : Int32 := p2.2 (0, 0, 1) 4
        let μ4 : Mm := mset p2.2 (0, 0, 1) 4 (x3 + 1)
        run L S F (d + 1) 51 50 [some (vR (0, 0, 1)), none, none] μ4
    else
      some (0, μ) := by
  unfold run
  rw [DF_succ]
  rfl
set_option maxHeartbeats 4000000 in
set_option maxRecDepth 100000 in
theorem e52_0 {L : Nat} {S : Ad → Nat → Int32} {F d : Nat} {μ : Mm} {i : Fin 15} : run L S (F + 1) (d + 1) 52 0 [some (vR (0, 0, 1)), some (vR (1, i, 0))] μ =
    (run L S F d 49 0 [some (vR (0, 0, 1)), some (vR (1, i, 0))] μ).bind fun p1 =>
    (run L S F d 50 0 [some (vR (0, 0, 1)), some (vR (1, i, 0))] p1.2).bind fun p2 =>
    run L S F (d + 1) 52 10 [some (vR (0, 0, 1)), none] p2.2 := by
  unfold run
  rw [DF_succ]
  rfl
set_option maxHeartbeats 4000000 in
set_option maxRecDepth 100000 in
theorem e52_10 {L : Nat} {S : Ad → Nat → Int32} {F d : Nat} {μ : Mm} : run L S (F + 1) (d + 1) 52 10 [some (vR (0, 0, 1)), none] μ =
    if (μ (0, 0, 1) 4) < 500 then
      if 0 < (μ (1, 2, 18) 0) then
        (run L S F d 39 0 [some (vR (1, 2, 0)), none] μ).bind fun p1 =>
        let x2 : Int32 := p1.2 (0, 0, 1) 4
        let μ3 : Mm := mset p1.2 (0, 0, 1) 4 (x2 + 1)
        run L S F (d + 1) 52 10 [some (vR (0, 0, 1)), none] μ3
      else
        some (0, μ)
    else
      some (0, μ) := by
  unfold run
  rw [DF_succ]
  rfl
set_option maxHeartbeats 4000000 in
set_option maxRecDepth 100000 in
theorem e53_0 {L : Nat} {S : Ad → Nat → Int32} {F d : Nat} {μ : Mm} {a1 : Int32} {a2 : Int32} : run L S (F + 1) (d + 1) 53 0 [some (vR (0, 0, 1)), some (vI a1), some (vI a2), none] μ =
    let μ1 : Mm := mset μ (1, 1, 11) 2 a1
    run L S F (d + 1) 53 13 [some (vR (0, 0, 1)), none, some (vI a2), some (vI 0)] μ1 := by
  unfold run
  rw [DF_succ]
  rfl
set_option maxHeartbeats 4000000 in
set_option maxRecDepth 100000 in
theorem e53_13 {L : Nat} {S : Ad → Nat → Int32} {F d : Nat} {μ : Mm} {a2 : Int32} {x_3 : Int32} : run L S (F + 1) (d + 1) 53 13 [some (vR (0, 0, 1)), none, some (vI a2), some (vI x_3)] μ =
    if x_3 < a2 then
      if x_3 < 99 then
        (run L S F d 15 0 [some (vR (1, 1, 11)), some (vI (μ (1, 1, 2) 0)), none] μ).bind fun p3 =>
        bif inb x_3 99 then
          let μ4 : Mm := mset p3.2 (0, 0, 2) (Int32.toNatClampNeg x_3) p3.1
          run L S F (d + 1) 53 13 [some (vR (0, 0, 1)), none, some (vI a2), some (vI (x_3 + 1))] μ4
        else none
      else
        (run L S F d 51 0 [some (vR (0, 0, 1)), some (vI a2), none] μ).bind fun p2 =>
        some (0, p2.2)
    else
      (run L S F d 51 0 [some (vR (0, 0, 1)), some (vI a2), none] μ).bind fun p1 =>
      some (0, p1.2) := by
  unfold run
  rw [DF_succ]
  rfl
set_option maxHeartbeats 4000000 in
set_option maxRecDepth 100000 in
theorem e54_0 {L : Nat} {S : Ad → Nat → Int32} {F d : Nat} {μ : Mm} : run L S (F + 1) d 54 0 [some (vR (0, 0, 1))] μ =
    some ((μ (1, 2, 2) 3), μ) := by
  unfold run
  rw [DF_succ]
  rfl
set_option maxHeartbeats 4000000 in
set_option maxRecDepth 100000 in
theorem e55_0 {L : Nat} {S : Ad → Nat → Int32} {F d : Nat} {μ : Mm} : run L S (F + 1) d 55 0 [some (vR (0, 0, 1))] μ =
    let x1 : Int32 := μ (1, 2, 24) 3
    let x2 : Int32 := μ (1, 1, 24) 3
    some ((x1 - x2), μ) := by
  unfold run
  rw [DF_succ]
  rfl
set_option maxHeartbeats 4000000 in
set_option maxRecDepth 100000 in
theorem e56_0 {L : Nat} {S : Ad → Nat → Int32} {F d : Nat} {μ : Mm} : run L S (F + 1) d 56 0 [some (vR (0, 0, 1))] μ =
    let x1 : Int32 := μ (1, 2, 24) 4
    let x2 : Int32 := μ (1, 1, 24) 4
    some ((x1 - x2), μ) := by
  unfold run
  rw [DF_succ]
  rfl
set_option maxHeartbeats 4000000 in
set_option maxRecDepth 100000 in
theorem e57_0 {L : Nat} {S : Ad → Nat → Int32} {F d : Nat} {μ : Mm} {a1 : Int32} {a2 : Int32} {a3 : Int32} : run L S (F + 1) (d + 1) 57 0 [some (vR (0, 0, 1)), some (vI a1), some (vI a2), some (vI a3), none, none, none, none, none] μ =
    if a3 = 1 then
      bif inb a1 16 then
        let x1 : Int32 := μ (1, 1, 3) (Int32.toNatClampNeg a1)
        (run L S F d 4 0 [some (vR (1, 1, 2)), some (vI (x1 - 1))] μ).bind fun p2 =>
        if p2.1 = 0 then
          bif inb (x1 + 1) 16 then
            let x3 : Int32 := p2.2 (1, 1, 4) (Int32.toNatClampNeg (x1 + 1))
            (run L S F d 4 0 [some (vR (1, 1, 2)), some (vI (x1 + 1))] p2.2).bind fun p4 =>
            if p4.1 = 0 then
              bif inb (x1 - 1) 16 then
                let x5 : Int32 := p4.2 (1, 1, 4) (Int32.toNatClampNeg (x1 - 1))
                run L S F (d + 1) 57 110 [some (vR (0, 0, 1)), none, some (vI a2), none, some (vI x3), some (vI x5), some (vI 0), none, none] p4.2
              else none
            else
              bif inb (x1 + 1) 16 then
                let x6 : Int32 := p4.2 (1, 1, 4) (Int32.toNatClampNeg (x1 + 1))
                run L S F (d + 1) 57 110 [some (vR (0, 0, 1)), none, some (vI a2), none, some (vI x3), some (vI x6), some (vI 0), none, none] p4.2
              else none
          else none
        else
          bif inb (x1 - 1) 16 then
            let x7 : Int32 := p2.2 (1, 1, 4) (Int32.toNatClampNeg (x1 - 1))
            (run L S F d 4 0 [some (vR (1, 1, 2)), some (vI (x1 + 1))] p2.2).bind fun p8 =>
            if p8.1 = 0 then
              bif inb (x1 - 1) 16 then
                let x9 : Int32 := p8.2 (1, 1, 4) (Int32.toNatClampNeg (x1 - 1))
                run L S F (d + 1) 57 110 [some (vR (0, 0, 1)), none, some (vI a2), none, some (vI x7), some (vI x9), some (vI 0), none, none] p8.2
              else none
            else
              bif inb (x1 + 1) 16 then
                let x10 : Int32 := p8.2 (1, 1, 4) (Int32.toNatClampNeg (x1 + 1))
                run L S F (d + 1) 57 110 [some (vR (0, 0, 1)), none, some (vI a2), none, some (vI x7), some (vI x10), some (vI 0), none, none] p8.2
              else none
          else none
      else none
    else
      run L S F (d + 1) 57 110 [some (vR (0, 0, 1)), none, some (vI a2), none, some (vI a1), some (vI a1), some (vI 0), none, none] μ := by
  unfold run
  rw [DF_succ]
  rfl
set_option maxHeartbeats 4000000 in
set_option maxRecDepth 100000 in
theorem e57_110 {L : Nat} {S : Ad → Nat → Int32} {F d : Nat} {μ : Mm} {a2 : Int32} {x_4 : Int32} {x_5 : Int32} {x_6 : Int32} : run L S (F + 1) (d + 1) 57 110 [some (vR (0, 0, 1)), none, some (vI a2), none, some (vI x_4), some (vI x_5), some (vI x_6), none, none] μ =
    if x_6 < a2 then
      if x_6 < 99 then
        if (x_6 - x_6 / 2 * 2) = 0 then
          bif inb x_6 99 then
            let μ2 : Mm := mset μ (0, 0, 2) (Int32.toNatClampNeg x_6) x_4
            run L S F (d + 1) 57 110 [some (vR (0, 0, 1)), none, some (vI a2), none, some (vI x_4), some (vI x_5), some (vI (x_6 + 1)), none, none] μ2
          else none
        else
          bif inb x_6 99 then
            let μ1 : Mm := mset μ (0, 0, 2) (Int32.toNatClampNeg x_6) x_5
            run L S F (d + 1) 57 110 [some (vR (0, 0, 1)), none, some (vI a2), none, some (vI x_4), some (vI x_5), some (vI (x_6 + 1)), none, none] μ1
          else none
      else
        some (0, μ)
    else
      some (0, μ) := by
  unfold run
  rw [DF_succ]
  rfl
set_option maxHeartbeats 4000000 in
set_option maxRecDepth 100000 in
theorem e58_0 {L : Nat} {S : Ad → Nat → Int32} {F d : Nat} {μ : Mm} {a1 : Int32} : run L S (F + 1) (d + 1) 58 0 [some (vR (0, 0, 1)), some (vI a1), none, none] μ =
    run L S F (d + 1) 58 2 [some (vR (0, 0, 1)), some (vI a1), some (vI 0), none] μ := by
  unfold run
  rw [DF_succ]
  rfl
set_option maxHeartbeats 4000000 in
set_option maxRecDepth 100000 in
theorem e58_2 {L : Nat} {S : Ad → Nat → Int32} {F d : Nat} {μ : Mm} {a1 : Int32} {x_2 : Int32} : run L S (F + 1) (d + 1) 58 2 [some (vR (0, 0, 1)), some (vI a1), some (vI x_2), none] μ =
    if x_2 < (μ (1, 1, 2) 0) then
      run L S F (d + 1) 58 18 [some (vR (0, 0, 1)), some (vI a1), some (vI x_2), some (vI 0)] μ
    else
      some (vp_nar .boolean 0, μ) := by
  unfold run
  rw [DF_succ]
  rfl
set_option maxHeartbeats 4000000 in
set_option maxRecDepth 100000 in
theorem e58_18 {L : Nat} {S : Ad → Nat → Int32} {F d : Nat} {μ : Mm} {a1 : Int32} {x_2 : Int32} {x_3 : Int32} : run L S (F + 1) (d + 1) 58 18 [some (vR (0, 0, 1)), some (vI a1), some (vI x_2), some (vI x_3)] μ =
    if 1 < x_3 then
      run L S F (d + 1) 58 2 [some (vR (0, 0, 1)), some (vI a1), some (vI (x_2 + 1)), none] μ
    else
      (run L S F d 57 0 [some (vR (0, 0, 1)), some (vI x_2), some (vI a1), some (vI x_3), none, none, none, none, none] μ).bind fun p1 =>
      (run L S F d 51 0 [some (vR (0, 0, 1)), some (vI a1), none] p1.2).bind fun p2 =>
      (run L S F d 55 0 [some (vR (0, 0, 1))] p2.2).bind fun p3 =>
      if 0 < p3.1 then
        some (vp_nar .boolean 1, p3.2)
      else
        run L S F (d + 1) 58 18 [some (vR (0, 0, 1)), some (vI a1), some (vI x_2), some (vI (x_3 + 1))] p3.2 := by
  unfold run
  rw [DF_succ]
  rfl
set_option maxHeartbeats 4000000 in
set_option maxRecDepth 100000 in
theorem e59_0 {L : Nat} {S : Ad → Nat → Int32} {F d : Nat} {μ : Mm} {a1 : Int32} : run L S (F + 1) d 59 0 [some (vR (0, 0, 1)), some (vI a1), none, none] μ =
    run L S F d 59 4 [some (vR (0, 0, 1)), some (vI a1), some (vI 1), some (vI 0)] μ := by
  unfold run
  rw [DF_succ]
  rfl
set_option maxHeartbeats 4000000 in
set_option maxRecDepth 100000 in
theorem e59_4 {L : Nat} {S : Ad → Nat → Int32} {F d : Nat} {μ : Mm} {a1 : Int32} {x_2 : Int32} {x_3 : Int32} : run L S (F + 1) d 59 4 [some (vR (0, 0, 1)), some (vI a1), some (vI x_2), some (vI x_3)] μ =
    if x_3 < a1 then
      run L S F d 59 4 [some (vR (0, 0, 1)), some (vI a1), some (vI (x_2 * (μ (1, 1, 2) 0))), some (vI (x_3 + 1))] μ
    else
      some (x_2, μ) := by
  unfold run
  rw [DF_succ]
  rfl
set_option maxHeartbeats 4000000 in
set_option maxRecDepth 100000 in
theorem e60_0 {L : Nat} {S : Ad → Nat → Int32} {F d : Nat} {μ : Mm} {a1 : Int32} {a2 : Int32} : run L S (F + 1) d 60 0 [some (vR (0, 0, 1)), some (vI a1), some (vI a2), none, none, none] μ =
    run L S F d 60 23 [some (vR (0, 0, 1)), none, none, some (vI a1), some (vI (mmax 1 (μ (1, 1, 2) 0))), some (vI (a2 - 1))] μ := by
  unfold run
  rw [DF_succ]
  rfl
set_option maxHeartbeats 4000000 in
set_option maxRecDepth 100000 in
theorem e60_23 {L : Nat} {S : Ad → Nat → Int32} {F d : Nat} {μ : Mm} {x_3 : Int32} {x_4 : Int32} {x_5 : Int32} : run L S (F + 1) d 60 23 [some (vR (0, 0, 1)), none, none, some (vI x_3), some (vI x_4), some (vI x_5)] μ =
    if x_5 < 0 then
      some (0, μ)
    else
      if x_4 = 0 then none else
      bif inb x_5 99 then
        let μ1 : Mm := mset μ (0, 0, 2) (Int32.toNatClampNeg x_5) (x_3 - x_3 / x_4 * x_4)
        if x_4 = 0 then none else
        run L S F d 60 23 [some (vR (0, 0, 1)), none, none, some (vI (x_3 / x_4)), some (vI x_4), some (vI (x_5 + (-1)))] μ1
      else none := by
  unfold run
  rw [DF_succ]
  rfl
set_option maxHeartbeats 4000000 in
set_option maxRecDepth 100000 in
theorem e61_0 {L : Nat} {S : Ad → Nat → Int32} {F d : Nat} {μ : Mm} {a1 : Int32} : run L S (F + 1) (d + 1) 61 0 [some (vR (0, 0, 1)), some (vI a1), none, none, none] μ =
    (run L S F d 59 0 [some (vR (0, 0, 1)), some (vI a1), none, none] μ).bind fun p1 =>
    run L S F (d + 1) 61 11 [some (vR (0, 0, 1)), some (vI a1), some (vI (-1)), some (vI p1.1), some (vI 0)] p1.2 := by
  unfold run
  rw [DF_succ]
  rfl
set_option maxHeartbeats 4000000 in
set_option maxRecDepth 100000 in
theorem e61_11 {L : Nat} {S : Ad → Nat → Int32} {F d : Nat} {μ : Mm} {a1 : Int32} {x_2 : Int32} {x_3 : Int32} {x_4 : Int32} : run L S (F + 1) (d + 1) 61 11 [some (vR (0, 0, 1)), some (vI a1), some (vI x_2), some (vI x_3), some (vI x_4)] μ =
    if x_4 < x_3 then
      (run L S F d 60 0 [some (vR (0, 0, 1)), some (vI x_4), some (vI a1), none, none, none] μ).bind fun p1 =>
      (run L S F d 51 0 [some (vR (0, 0, 1)), some (vI a1), none] p1.2).bind fun p2 =>
      (run L S F d 54 0 [some (vR (0, 0, 1))] p2.2).bind fun p3 =>
      if x_2 < p3.1 then
        (run L S F d 54 0 [some (vR (0, 0, 1))] p3.2).bind fun p4 =>
        bif cpyok 0 0 a1 99 5 then
          let μ5 : Mm := mcpy p4.2 (0, 0, 2) (Int32.toNatClampNeg 0) (0, 0, 3) (Int32.toNatClampNeg 0) (Int32.toNatClampNeg a1)
          run L S F (d + 1) 61 11 [some (vR (0, 0, 1)), some (vI a1), some (vI p4.1), some (vI x_3), some (vI (x_4 + 1))] μ5
        else none
      else
        run L S F (d + 1) 61 11 [some (vR (0, 0, 1)), some (vI a1), some (vI x_2), some (vI x_3), some (vI (x_4 + 1))] p3.2
    else
      some (x_2, μ) := by
  unfold run
  rw [DF_succ]
  rfl
set_option maxHeartbeats 4000000 in
set_option maxRecDepth 100000 in
theorem e62_0 {L : Nat} {S : Ad → Nat → Int32} {F d : Nat} {μ : Mm} {a1 : Int32} : run L S (F + 1) (d + 1) 62 0 [some (vR (0, 0, 1)), some (vI a1), none, none] μ =
    (run L S F d 59 0 [some (vR (0, 0, 1)), some (vI a1), none, none] μ).bind fun p1 =>
    run L S F (d + 1) 62 8 [some (vR (0, 0, 1)), some (vI a1), some (vI p1.1), some (vI 0)] p1.2 := by
  unfold run
  rw [DF_succ]
  rfl
set_option maxHeartbeats 4000000 in
set_option maxRecDepth 100000 in
theorem e62_8 {L : Nat} {S : Ad → Nat → Int32} {F d : Nat} {μ : Mm} {a1 : Int32} {x_2 : Int32} {x_3 : Int32} : run L S (F + 1) (d + 1) 62 8 [some (vR (0, 0, 1)), some (vI a1), some (vI x_2), some (vI x_3)] μ =
    if x_3 < x_2 then
      (run L S F d 60 0 [some (vR (0, 0, 1)), some (vI x_3), some (vI a1), none, none, none] μ).bind fun p1 =>
      (run L S F d 51 0 [some (vR (0, 0, 1)), some (vI a1), none] p1.2).bind fun p2 =>
      (run L S F d 55 0 [some (vR (0, 0, 1))] p2.2).bind fun p3 =>
      if 0 < p3.1 then
        some (vp_nar .boolean 1, p3.2)
      else
        run L S F (d + 1) 62 8 [some (vR (0, 0, 1)), some (vI a1), some (vI x_2), some (vI (x_3 + 1))] p3.2
    else
      some (vp_nar .boolean 0, μ) := by
  unfold run
  rw [DF_succ]
  rfl
set_option maxHeartbeats 4000000 in
set_option maxRecDepth 100000 in
theorem e63_0 {L : Nat} {S : Ad → Nat → Int32} {F d : Nat} {μ : Mm} {i : Fin 15} : run L S (F + 1) (d + 1) 63 0 [some (vR (0, 0, 4)), some (vR (1, i, 0))] μ =
    bif inb (μ (0, 0, 4) 2) 10 then
      (run L S F d 35 0 [some (vR (1, (Fin.ofNat 15 (3 + Int32.toNatClampNeg (μ (0, 0, 4) 2))), 0)), some (vR (1, i, 0))] μ).bind fun p1 =>
      let x2 : Int32 := p1.2 (0, 0, 4) 2
      let μ3 : Mm := mset p1.2 (0, 0, 4) 2 ((x2 + 1) - (x2 + 1) / 10 * 10)
      let x4 : Int32 := μ3 (0, 0, 4) 3
      let μ5 : Mm := mset μ3 (0, 0, 4) 3 (mmin 10 (x4 + 1))
      some (0, μ5)
    else none := by
  unfold run
  rw [DF_succ]
  rfl
set_option maxHeartbeats 4000000 in
set_option maxRecDepth 100000 in
theorem e64_0 {L : Nat} {S : Ad → Nat → Int32} {F d : Nat} {μ : Mm} {i : Fin 15} {a1 : Int32} : run L S (F + 1) (d + 1) 64 0 [some (vR (0, 0, 4)), some (vI a1), some (vR (1, i, 0))] μ =
    let μ1 : Mm := mset μ (0, 0, 4) 2 ((((μ (0, 0, 4) 2) + 10) - a1) - (((μ (0, 0, 4) 2) + 10) - a1) / 10 * 10)
    let x2 : Int32 := μ1 (0, 0, 4) 3
    let μ3 : Mm := mset μ1 (0, 0, 4) 3 (x2 - a1)
    let x4 : Int32 := μ3 (0, 0, 4) 2
    bif inb x4 10 then
      (run L S F d 35 0 [some (vR (1, i, 0)), some (vR (1, (Fin.ofNat 15 (3 + Int32.toNatClampNeg x4)), 0))] μ3).bind fun p5 =>
      some (0, p5.2)
    else none := by
  unfold run
  rw [DF_succ]
  rfl
set_option maxHeartbeats 4000000 in
set_option maxRecDepth 100000 in
theorem e65_0 {L : Nat} {S : Ad → Nat → Int32} {F d : Nat} {μ : Mm} {i : Fin 15} {a1 : Int32} : run L S (F + 1) (d + 1) 65 0 [some (vR (0, 0, 4)), some (vI a1), some (vR (1, i, 0))] μ =
    bif inb a1 2 then
      (run L S F d 35 0 [some (vR (1, (Fin.ofNat 15 (13 + Int32.toNatClampNeg a1)), 0)), some (vR (1, i, 0))] μ).bind fun p1 =>
      let x2 : Int32 := p1.2 (0, 0, 4) 4
      let μ3 : Mm := mset p1.2 (0, 0, 4) 4 (x2 ||| ((1 : Int32) <<< (a1 &&& 31)))
      some (0, μ3)
    else none := by
  unfold run
  rw [DF_succ]
  rfl
set_option maxHeartbeats 4000000 in
set_option maxRecDepth 100000 in
theorem e66_0 {L : Nat} {S : Ad → Nat → Int32} {F d : Nat} {μ : Mm} {a1 : Int32} : run L S (F + 1) d 66 0 [some (vR (0, 0, 4)), some (vI a1)] μ =
    if (((μ (0, 0, 4) 4) >>> (a1 &&& 31)) &&& 1) = 1 then
      some (vp_nar .boolean 1, μ)
    else
      some (vp_nar .boolean 0, μ) := by
  unfold run
  rw [DF_succ]
  rfl
set_option maxHeartbeats 4000000 in
set_option maxRecDepth 100000 in
theorem e67_0 {L : Nat} {S : Ad → Nat → Int32} {F d : Nat} {μ : Mm} {i : Fin 15} {a1 : Int32} : run L S (F + 1) (d + 1) 67 0 [some (vR (0, 0, 4)), some (vI a1), some (vR (1, i, 0))] μ =
    bif inb a1 2 then
      (run L S F d 35 0 [some (vR (1, i, 0)), some (vR (1, (Fin.ofNat 15 (13 + Int32.toNatClampNeg a1)), 0))] μ).bind fun p1 =>
      let μ2 : Mm := mset p1.2 (0, 0, 4) 3 0
      some (0, μ2)
    else none := by
  unfold run
  rw [DF_succ]
  rfl
set_option maxHeartbeats 4000000 in
set_option maxRecDepth 100000 in
theorem e68_0 {L : Nat} {S : Ad → Nat → Int32} {F d : Nat} {μ : Mm} : run L S (F + 1) d 68 0 [some (vR (0, 0, 7))] μ =
    if 60 < ((μ (0, 0, 7) 0) + 20) then
      some (vp_nar .boolean 0, μ)
    else
      some (vp_nar .boolean 1, μ) := by
  unfold run
  rw [DF_succ]
  rfl
set_option maxHeartbeats 4000000 in
set_option maxRecDepth 100000 in
theorem e69_0 {L : Nat} {S : Ad → Nat → Int32} {F d : Nat} {μ : Mm} {a1 : Int32} : run L S (F + 1) d 69 0 [some (vR (0, 0, 7)), some (vI a1), none] μ =
    run L S F d 69 3 [some (vR (0, 0, 7)), some (vI a1), some (vI 24)] μ := by
  unfold run
  rw [DF_succ]
  rfl
set_option maxHeartbeats 4000000 in
set_option maxRecDepth 100000 in
theorem e69_3 {L : Nat} {S : Ad → Nat → Int32} {F d : Nat} {μ : Mm} {a1 : Int32} {x_2 : Int32} : run L S (F + 1) d 69 3 [some (vR (0, 0, 7)), some (vI a1), some (vI x_2)] μ =
    if x_2 < 0 then
      some (0, μ)
    else
      if (μ (0, 0, 7) 0) < 60 then
        bif inb (μ (0, 0, 7) 0) 60 then
          let μ1 : Mm := mset μ (0, 0, 8) (Int32.toNatClampNeg (μ (0, 0, 7) 0)) ((ushr a1 x_2) &&& 255)
          let x2 : Int32 := μ1 (0, 0, 7) 0
          let μ3 : Mm := mset μ1 (0, 0, 7) 0 (x2 + 1)
          run L S F d 69 3 [some (vR (0, 0, 7)), some (vI a1), some (vI (x_2 + (-8)))] μ3
        else none
      else
        some (0, μ) := by
  unfold run
  rw [DF_succ]
  rfl
set_option maxHeartbeats 4000000 in
set_option maxRecDepth 100000 in
theorem e70_0 {L : Nat} {S : Ad → Nat → Int32} {F d : Nat} {μ : Mm} {a2 : Int32} {a3 : Int32} : run L S (F + 1) (d + 1) 70 0 [some (vR (0, 0, 9)), some (vR (0, 0, 8)), some (vI a2), some (vI a3), none] μ =
    let μ1 : Mm := mset μ (0, 0, 9) 3 0
    let μ2 : Mm := mset μ1 (0, 0, 9) 4 0
    let μ3 : Mm := mset μ2 (0, 0, 9) 5 (-1)
    let μ4 : Mm := mset μ3 (0, 0, 9) 6 0
    (run L S F d 72 0 [some (vR (0, 0, 9))] μ4).bind fun p5 =>
    let μ6 : Mm := mset p5.2 (0, 0, 9) 10 0
    let μ7 : Mm := mset μ6 (0, 0, 9) 11 0
    run L S F (d + 1) 70 37 [some (vR (0, 0, 9)), some (vR (0, 0, 8)), some (vI a2), some (vI a3), some (vI 0)] μ7 := by
  unfold run
  rw [DF_succ]
  rfl
set_option maxHeartbeats 4000000 in
set_option maxRecDepth 100000 in
theorem e70_37 {L : Nat} {S : Ad → Nat → Int32} {F d : Nat} {μ : Mm} {a2 : Int32} {a3 : Int32} {x_4 : Int32} : run L S (F + 1) (d + 1) 70 37 [some (vR (0, 0, 9)), some (vR (0, 0, 8)), some (vI a2), some (vI a3), some (vI x_4)] μ =
    if x_4 < a2 then
      if x_4 < 60 then
        if (μ (0, 0, 9) 4) = 0 then
          bif inb x_4 60 then
            let x4 : Int32 := μ (0, 0, 8) (Int32.toNatClampNeg x_4)
            if x4 < 48 then
              bif inb x_4 60 then
                let x5 : Int32 := μ (0, 0, 8) (Int32.toNatClampNeg x_4)
                (run L S F d 75 0 [some (vR (0, 0, 9)), some (vI x5), some (vI x_4), some (vI a3)] μ).bind fun p6 =>
                run L S F (d + 1) 70 37 [some (vR (0, 0, 9)), some (vR (0, 0, 8)), some (vI a2), some (vI a3), some (vI (x_4 + 1))] p6.2
              else none
            else
              bif inb x_4 60 then
                let x7 : Int32 := μ (0, 0, 8) (Int32.toNatClampNeg x_4)
                if 57 < x7 then
                  bif inb x_4 60 then
                    let x8 : Int32 := μ (0, 0, 8) (Int32.toNatClampNeg x_4)
                    (run L S F d 75 0 [some (vR (0, 0, 9)), some (vI x8), some (vI x_4), some (vI a3)] μ).bind fun p9 =>
                    run L S F (d + 1) 70 37 [some (vR (0, 0, 9)), some (vR (0, 0, 8)), some (vI a2), some (vI a3), some (vI (x_4 + 1))] p9.2
                  else none
                else
                  bif inb x_4 60 then
                    let x10 : Int32 := μ (0, 0, 8) (Int32.toNatClampNeg x_4)
                    (run L S F d 73 0 [some (vR (0, 0, 9)), some (vI (x10 - 48)), some (vI x_4)] μ).bind fun p11 =>
                    run L S F (d + 1) 70 37 [some (vR (0, 0, 9)), some (vR (0, 0, 8)), some (vI a2), some (vI a3), some (vI (x_4 + 1))] p11.2
                  else none
              else none
          else none
        else
          if (μ (0, 0, 9) 4) = 0 then
            (run L S F d 76 0 [some (vR (0, 0, 9)), some (vI a2)] μ).bind fun p3 =>
            some (0, p3.2)
          else
            some (0, μ)
      else
        if (μ (0, 0, 9) 4) = 0 then
          (run L S F d 76 0 [some (vR (0, 0, 9)), some (vI a2)] μ).bind fun p2 =>
          some (0, p2.2)
        else
          some (0, μ)
    else
      if (μ (0, 0, 9) 4) = 0 then
        (run L S F d 76 0 [some (vR (0, 0, 9)), some (vI a2)] μ).bind fun p1 =>
        some (0, p1.2)
      else
        some (0, μ) := by
  unfold run
  rw [DF_succ]
  rfl
set_option maxHeartbeats 4000000 in
set_option maxRecDepth 100000 in
theorem e71_0 {L : Nat} {S : Ad → Nat → Int32} {F d : Nat} {μ : Mm} {a1 : Int32} {a2 : Int32} : run L S (F + 1) d 71 0 [some (vR (0, 0, 9)), some (vI a1), some (vI a2)] μ =
    let μ1 : Mm := mset μ (0, 0, 9) 4 a1
    let μ2 : Mm := mset μ1 (0, 0, 9) 5 a2
    some (0, μ2) := by
  unfold run
  rw [DF_succ]
  rfl
set_option maxHeartbeats 4000000 in
set_option maxRecDepth 100000 in
theorem e72_0 {L : Nat} {S : Ad → Nat → Int32} {F d : Nat} {μ : Mm} : run L S (F + 1) d 72 0 [some (vR (0, 0, 9))] μ =
    let μ1 : Mm := mset μ (0, 0, 9) 7 0
    let μ2 : Mm := mset μ1 (0, 0, 9) 9 0
    some (0, μ2) := by
  unfold run
  rw [DF_succ]
  rfl
set_option maxHeartbeats 4000000 in
set_option maxRecDepth 100000 in
theorem e73_0 {L : Nat} {S : Ad → Nat → Int32} {F d : Nat} {μ : Mm} {a1 : Int32} {a2 : Int32} : run L S (F + 1) d 73 0 [some (vR (0, 0, 9)), some (vI a1), some (vI a2)] μ =
    if (μ (0, 0, 9) 7) = 0 then
      let μ5 : Mm := mset μ (0, 0, 9) 8 a2
      let x6 : Int32 := μ5 (0, 0, 9) 7
      let μ7 : Mm := mset μ5 (0, 0, 9) 7 (x6 + 1)
      let x8 : Int32 := μ7 (0, 0, 9) 9
      let μ9 : Mm := mset μ7 (0, 0, 9) 9 (mmin 1000 ((x8 * 10) + a1))
      let μ10 : Mm := mset μ9 (0, 0, 9) 10 0
      some (0, μ10)
    else
      let μ1 : Mm := mset μ (0, 0, 9) 7 ((μ (0, 0, 9) 7) + 1)
      let x2 : Int32 := μ1 (0, 0, 9) 9
      let μ3 : Mm := mset μ1 (0, 0, 9) 9 (mmin 1000 ((x2 * 10) + a1))
      let μ4 : Mm := mset μ3 (0, 0, 9) 10 0
      some (0, μ4) := by
  unfold run
  rw [DF_succ]
  rfl
set_option maxHeartbeats 4000000 in
set_option maxRecDepth 100000 in
theorem e74_0 {L : Nat} {S : Ad → Nat → Int32} {F d : Nat} {μ : Mm} : run L S (F + 1) d 74 0 [some (vR (0, 0, 9))] μ =
    if 0 < (μ (0, 0, 9) 7) then
      if 2 < (μ (0, 0, 9) 7) then
        some (vp_nar .boolean 1, μ)
      else
        if (μ (0, 0, 9) 9) < 1 then
          some (vp_nar .boolean 1, μ)
        else
          if 48 < (μ (0, 0, 9) 9) then
            some (vp_nar .boolean 1, μ)
          else
            some (vp_nar .boolean 0, μ)
    else
      some (vp_nar .boolean 0, μ) := by
  unfold run
  rw [DF_succ]
  rfl
set_option maxHeartbeats 4000000 in
set_option maxRecDepth 100000 in
theorem e75_0 {L : Nat} {S : Ad → Nat → Int32} {F d : Nat} {μ : Mm} {a1 : Int32} {a2 : Int32} {a3 : Int32} : run L S (F + 1) (d + 1) 75 0 [some (vR (0, 0, 9)), some (vI a1), some (vI a2), some (vI a3)] μ =
    (run L S F d 74 0 [some (vR (0, 0, 9))] μ).bind fun p1 =>
    if p1.1 = 0 then
      if a1 < 97 then
        if a1 = 40 then
          (run L S F d 78 0 [some (vR (0, 0, 9)), some (vI a2)] p1.2).bind fun p4 =>
          some (0, p4.2)
        else
          if a1 = 41 then
            (run L S F d 79 0 [some (vR (0, 0, 9)), some (vI a2), none, none, none] p1.2).bind fun p3 =>
            some (0, p3.2)
          else
            (run L S F d 71 0 [some (vR (0, 0, 9)), some (vI 1), some (vI a2)] p1.2).bind fun p2 =>
            some (0, p2.2)
      else
        if 112 < a1 then
          if a1 = 40 then
            (run L S F d 78 0 [some (vR (0, 0, 9)), some (vI a2)] p1.2).bind fun p7 =>
            some (0, p7.2)
          else
            if a1 = 41 then
              (run L S F d 79 0 [some (vR (0, 0, 9)), some (vI a2), none, none, none] p1.2).bind fun p6 =>
              some (0, p6.2)
            else
              (run L S F d 71 0 [some (vR (0, 0, 9)), some (vI 1), some (vI a2)] p1.2).bind fun p5 =>
              some (0, p5.2)
        else
          (run L S F d 77 0 [some (vR (0, 0, 9)), some (vI (a1 - 97)), some (vI a2), some (vI a3), none, none] p1.2).bind fun p8 =>
          some (0, p8.2)
    else
      let x9 : Int32 := p1.2 (0, 0, 9) 8
      (run L S F d 71 0 [some (vR (0, 0, 9)), some (vI 2), some (vI x9)] p1.2).bind fun p10 =>
      some (0, p10.2) := by
  unfold run
  rw [DF_succ]
  rfl
set_option maxHeartbeats 4000000 in
set_option maxRecDepth 100000 in
theorem e76_0 {L : Nat} {S : Ad → Nat → Int32} {F d : Nat} {μ : Mm} {a1 : Int32} : run L S (F + 1) (d + 1) 76 0 [some (vR (0, 0, 9)), some (vI a1)] μ =
    (run L S F d 74 0 [some (vR (0, 0, 9))] μ).bind fun p1 =>
    if p1.1 = 0 then
      let x2 : Int32 := p1.2 (0, 0, 9) 6
      if 0 < x2 then
        (run L S F d 71 0 [some (vR (0, 0, 9)), some (vI 1), some (vI a1)] p1.2).bind fun p3 =>
        some (0, p3.2)
      else
        let x4 : Int32 := p1.2 (0, 0, 9) 10
        if x4 = 0 then
          (run L S F d 71 0 [some (vR (0, 0, 9)), some (vI 1), some (vI a1)] p1.2).bind fun p7 =>
          some (0, p7.2)
        else
          let x5 : Int32 := p1.2 (0, 0, 9) 11
          if x5 = 0 then
            some (0, p1.2)
          else
            (run L S F d 71 0 [some (vR (0, 0, 9)), some (vI 5), some (vI (-1))] p1.2).bind fun p6 =>
            some (0, p6.2)
    else
      let x8 : Int32 := p1.2 (0, 0, 9) 8
      (run L S F d 71 0 [some (vR (0, 0, 9)), some (vI 2), some (vI x8)] p1.2).bind fun p9 =>
      some (0, p9.2) := by
  unfold run
  rw [DF_succ]
  rfl
set_option maxHeartbeats 4000000 in
set_option maxRecDepth 100000 in
theorem e77_0 {L : Nat} {S : Ad → Nat → Int32} {F d : Nat} {μ : Mm} {a1 : Int32} {a2 : Int32} {a3 : Int32} : run L S (F + 1) (d + 1) 77 0 [some (vR (0, 0, 9)), some (vI a1), some (vI a2), some (vI a3), none, none] μ =
    if a1 < a3 then
      run L S F (d + 1) 77 25 [some (vR (0, 0, 9)), some (vI a1), none, none, some (vI (mmax 1 (μ (0, 0, 9) 9))), some (vI 0)] μ
    else
      (run L S F d 71 0 [some (vR (0, 0, 9)), some (vI 3), some (vI a2)] μ).bind fun p1 =>
      some (0, p1.2) := by
  unfold run
  rw [DF_succ]
  rfl
set_option maxHeartbeats 4000000 in
set_option maxRecDepth 100000 in
theorem e77_25 {L : Nat} {S : Ad → Nat → Int32} {F d : Nat} {μ : Mm} {a1 : Int32} {x_4 : Int32} {x_5 : Int32} : run L S (F + 1) (d + 1) 77 25 [some (vR (0, 0, 9)), some (vI a1), none, none, some (vI x_4), some (vI x_5)] μ =
    if x_5 < x_4 then
      (run L S F d 80 0 [some (vR (0, 0, 9)), some (vI a1)] μ).bind fun p3 =>
      run L S F (d + 1) 77 25 [some (vR (0, 0, 9)), some (vI a1), none, none, some (vI x_4), some (vI (x_5 + 1))] p3.2
    else
      (run L S F d 72 0 [some (vR (0, 0, 9))] μ).bind fun p1 =>
      let μ2 : Mm := mset p1.2 (0, 0, 9) 10 1
      some (0, μ2) := by
  unfold run
  rw [DF_succ]
  rfl
set_option maxHeartbeats 4000000 in
set_option maxRecDepth 100000 in
theorem e78_0 {L : Nat} {S : Ad → Nat → Int32} {F d : Nat} {μ : Mm} {a1 : Int32} : run L S (F + 1) (d + 1) 78 0 [some (vR (0, 0, 9)), some (vI a1)] μ =
    if (μ (0, 0, 9) 6) < 3 then
      bif inb (μ (0, 0, 9) 6) 3 then
        let μ1 : Mm := mset μ (0, 0, 11) (Int32.toNatClampNeg (μ (0, 0, 9) 6)) (μ (0, 0, 9) 3)
        let x2 : Int32 := μ1 (0, 0, 9) 6
        let x3 : Int32 := μ1 (0, 0, 9) 9
        bif inb x2 3 then
          let μ4 : Mm := mset μ1 (0, 0, 12) (Int32.toNatClampNeg x2) (mmax 1 x3)
          let x5 : Int32 := μ4 (0, 0, 9) 6
          let μ6 : Mm := mset μ4 (0, 0, 9) 6 (x5 + 1)
          (run L S F d 72 0 [some (vR (0, 0, 9))] μ6).bind fun p7 =>
          let μ8 : Mm := mset p7.2 (0, 0, 9) 10 0
          some (0, μ8)
        else none
      else none
    else
      (run L S F d 71 0 [some (vR (0, 0, 9)), some (vI 4), some (vI a1)] μ).bind fun p9 =>
      some (0, p9.2) := by
  unfold run
  rw [DF_succ]
  rfl
set_option maxHeartbeats 4000000 in
set_option maxRecDepth 100000 in
theorem e79_0 {L : Nat} {S : Ad → Nat → Int32} {F d : Nat} {μ : Mm} {a1 : Int32} : run L S (F + 1) (d + 1) 79 0 [some (vR (0, 0, 9)), some (vI a1), none, none, none] μ =
    if (μ (0, 0, 9) 6) = 0 then
      (run L S F d 71 0 [some (vR (0, 0, 9)), some (vI 1), some (vI a1)] μ).bind fun p1 =>
      some (0, p1.2)
    else
      if (μ (0, 0, 9) 10) = 0 then
        (run L S F d 71 0 [some (vR (0, 0, 9)), some (vI 1), some (vI a1)] μ).bind fun p8 =>
        some (0, p8.2)
      else
        let μ2 : Mm := mset μ (0, 0, 9) 6 ((μ (0, 0, 9) 6) - 1)
        let x3 : Int32 := μ2 (0, 0, 9) 6
        bif inb x3 3 then
          let x4 : Int32 := μ2 (0, 0, 11) (Int32.toNatClampNeg x3)
          let x5 : Int32 := μ2 (0, 0, 9) 3
          let x6 : Int32 := μ2 (0, 0, 9) 6
          bif inb x6 3 then
            let x7 : Int32 := μ2 (0, 0, 12) (Int32.toNatClampNeg x6)
            run L S F (d + 1) 79 65 [some (vR (0, 0, 9)), none, none, some (vI (x4 + ((x5 - x4) * (x7 - 1)))), some (vI x4)] μ2
          else none
        else none := by
  unfold run
  rw [DF_succ]
  rfl
set_option maxHeartbeats 4000000 in
set_option maxRecDepth 100000 in
theorem e79_65 {L : Nat} {S : Ad → Nat → Int32} {F d : Nat} {μ : Mm} {x_3 : Int32} {x_4 : Int32} : run L S (F + 1) (d + 1) 79 65 [some (vR (0, 0, 9)), none, none, some (vI x_3), some (vI x_4)] μ =
    if x_4 < x_3 then
      if x_4 < (μ (0, 0, 9) 3) then
        if (μ (0, 0, 9) 11) = 0 then
          bif inb x_4 48 then
            let x1 : Int32 := μ (0, 0, 10) (Int32.toNatClampNeg x_4)
            (run L S F d 80 0 [some (vR (0, 0, 9)), some (vI x1)] μ).bind fun p2 =>
            run L S F (d + 1) 79 65 [some (vR (0, 0, 9)), none, none, some (vI x_3), some (vI (x_4 + 1))] p2.2
          else none
        else
          some (0, μ)
      else
        some (0, μ)
    else
      some (0, μ) := by
  unfold run
  rw [DF_succ]
  rfl
set_option maxHeartbeats 4000000 in
set_option maxRecDepth 100000 in
theorem e80_0 {L : Nat} {S : Ad → Nat → Int32} {F d : Nat} {μ : Mm} {a1 : Int32} : run L S (F + 1) d 80 0 [some (vR (0, 0, 9)), some (vI a1)] μ =
    if (μ (0, 0, 9) 3) < 48 then
      bif inb (μ (0, 0, 9) 3) 48 then
        let μ2 : Mm := mset μ (0, 0, 10) (Int32.toNatClampNeg (μ (0, 0, 9) 3)) a1
        let x3 : Int32 := μ2 (0, 0, 9) 3
        let μ4 : Mm := mset μ2 (0, 0, 9) 3 (x3 + 1)
        some (0, μ4)
      else none
    else
      let μ1 : Mm := mset μ (0, 0, 9) 11 1
      some (0, μ1) := by
  unfold run
  rw [DF_succ]
  rfl
set_option maxHeartbeats 4000000 in
set_option maxRecDepth 100000 in
theorem e81_0 {L : Nat} {S : Ad → Nat → Int32} {F d : Nat} {μ : Mm} {a1 : Int32} : run L S (F + 1) (d + 1) 81 0 [some (vR (0, 0, 0)), some (vI a1)] μ =
    if a1 < 4 then
      some ((-3), μ)
    else
      if 16 < a1 then
        some ((-3), μ)
      else
        (run L S F d 63 0 [some (vR (0, 0, 4)), some (vR (1, 0, 0))] μ).bind fun p1 =>
        (run L S F d 34 0 [some (vR (1, 0, 0)), some (vI a1)] p1.2).bind fun p2 =>
        some (a1, p2.2) := by
  unfold run
  rw [DF_succ]
  rfl
set_option maxHeartbeats 4000000 in
set_option maxRecDepth 100000 in
theorem e82_0 {L : Nat} {S : Ad → Nat → Int32} {F d : Nat} {μ : Mm} {a1 : Int32} {a2 : Int32} : run L S (F + 1) (d + 1) 82 0 [some (vR (0, 0, 0)), some (vI a1), some (vI a2), none] μ =
    if a1 < 0 then
      some ((-2), μ)
    else
      if a1 < 17 then
        bif inb a1 17 then
          let x1 : Int32 := S (3, 0, 1) (Int32.toNatClampNeg a1)
          if a2 < x1 then
            some ((-3), μ)
          else
            bif inb a1 17 then
              let x2 : Int32 := S (3, 0, 2) (Int32.toNatClampNeg a1)
              if x2 < a2 then
                some ((-3), μ)
              else
                bif inb a1 17 then
                  let x3 : Int32 := μ (1, 0, 1) (Int32.toNatClampNeg a1)
                  (run L S F d 63 0 [some (vR (0, 0, 4)), some (vR (1, 0, 0))] μ).bind fun p4 =>
                  (run L S F d 36 0 [some (vR (1, 0, 0)), some (vI a1), some (vI a2)] p4.2).bind fun p5 =>
                  some (x3, p5.2)
                else none
            else none
        else none
      else
        some ((-2), μ) := by
  unfold run
  rw [DF_succ]
  rfl
set_option maxHeartbeats 4000000 in
set_option maxRecDepth 100000 in
theorem e83_0 {L : Nat} {S : Ad → Nat → Int32} {F d : Nat} {μ : Mm} {a1 : Int32} {a2 : Int32} : run L S (F + 1) (d + 1) 83 0 [some (vR (0, 0, 0)), some (vI a1), some (vI a2)] μ =
    (run L S F d 4 0 [some (vR (1, 0, 2)), some (vI a1)] μ).bind fun p1 =>
    if p1.1 = 0 then
      some ((-2), p1.2)
    else
      (run L S F d 4 0 [some (vR (1, 0, 2)), some (vI a2)] p1.2).bind fun p2 =>
      if p2.1 = 0 then
        some ((-2), p2.2)
      else
        if a1 = a2 then
          some ((-3), p2.2)
        else
          (run L S F d 63 0 [some (vR (0, 0, 4)), some (vR (1, 0, 0))] p2.2).bind fun p3 =>
          (run L S F d 5 0 [some (vR (1, 0, 2)), some (vI a1), some (vI a2), none, none] p3.2).bind fun p4 =>
          some (p4.1, p4.2) := by
  unfold run
  rw [DF_succ]
  rfl
set_option maxHeartbeats 4000000 in
set_option maxRecDepth 100000 in
theorem e84_0 {L : Nat} {S : Ad → Nat → Int32} {F d : Nat} {μ : Mm} {a1 : Int32} {a2 : Int32} : run L S (F + 1) (d + 1) 84 0 [some (vR (0, 0, 0)), some (vI a1), some (vI a2)] μ =
    (run L S F d 4 0 [some (vR (1, 0, 2)), some (vI a1)] μ).bind fun p1 =>
    if p1.1 = 0 then
      some ((-2), p1.2)
    else
      if a2 < 0 then
        some ((-3), p1.2)
      else
        if 255 < a2 then
          some ((-3), p1.2)
        else
          (run L S F d 63 0 [some (vR (0, 0, 4)), some (vR (1, 0, 0))] p1.2).bind fun p2 =>
          (run L S F d 6 0 [some (vR (1, 0, 2)), some (vI a1), some (vI a2), none] p2.2).bind fun p3 =>
          some (p3.1, p3.2) := by
  unfold run
  rw [DF_succ]
  rfl
set_option maxHeartbeats 4000000 in
set_option maxRecDepth 100000 in
theorem e85_0 {L : Nat} {S : Ad → Nat → Int32} {F d : Nat} {μ : Mm} {a1 : Int32} {a2 : Int32} : run L S (F + 1) (d + 1) 85 0 [some (vR (0, 0, 0)), some (vI a1), some (vI a2), none] μ =
    (run L S F d 4 0 [some (vR (1, 0, 2)), some (vI a1)] μ).bind fun p1 =>
    if p1.1 = 0 then
      some ((-2), p1.2)
    else
      if a2 < 0 then
        some ((-3), p1.2)
      else
        if 255 < a2 then
          some ((-3), p1.2)
        else
          (run L S F d 63 0 [some (vR (0, 0, 4)), some (vR (1, 0, 0))] p1.2).bind fun p2 =>
          bif inb a1 16 then
            let x3 : Int32 := p2.2 (1, 0, 10) (Int32.toNatClampNeg a1)
            bif inb a1 16 then
              let μ4 : Mm := mset p2.2 (1, 0, 10) (Int32.toNatClampNeg a1) a2
              some (x3, μ4)
            else none
          else none := by
  unfold run
  rw [DF_succ]
  rfl
set_option maxHeartbeats 4000000 in
set_option maxRecDepth 100000 in
theorem e86_0 {L : Nat} {S : Ad → Nat → Int32} {F d : Nat} {μ : Mm} {a1 : Int32} {a2 : Int32} {a3 : Int32} {a4 : Int32} {a5 : Int32} : run L S (F + 1) (d + 1) 86 0 [some (vR (0, 0, 0)), some (vI a1), some (vI a2), some (vI a3), some (vI a4), some (vI a5)] μ =
    (run L S F d 68 0 [some (vR (0, 0, 7))] μ).bind fun p1 =>
    if p1.1 = 0 then
      some ((-4), p1.2)
    else
      (run L S F d 69 0 [some (vR (0, 0, 7)), some (vI a1), none] p1.2).bind fun p2 =>
      (run L S F d 69 0 [some (vR (0, 0, 7)), some (vI a2), none] p2.2).bind fun p3 =>
      (run L S F d 69 0 [some (vR (0, 0, 7)), some (vI a3), none] p3.2).bind fun p4 =>
      (run L S F d 69 0 [some (vR (0, 0, 7)), some (vI a4), none] p4.2).bind fun p5 =>
      (run L S F d 69 0 [some (vR (0, 0, 7)), some (vI a5), none] p5.2).bind fun p6 =>
      let x7 : Int32 := p6.2 (0, 0, 7) 0
      some (x7, p6.2) := by
  unfold run
  rw [DF_succ]
  rfl
set_option maxHeartbeats 4000000 in
set_option maxRecDepth 100000 in
theorem e87_0 {L : Nat} {S : Ad → Nat → Int32} {F d : Nat} {μ : Mm} {a1 : Int32} : run L S (F + 1) (d + 1) 87 0 [some (vR (0, 0, 0)), some (vI a1), none] μ =
    if a1 < 0 then
      some ((-3), μ)
    else
      if (μ (0, 0, 7) 0) < a1 then
        some ((-3), μ)
      else
        (run L S F d 70 0 [some (vR (0, 0, 9)), some (vR (0, 0, 8)), some (vI a1), some (vI (μ (1, 0, 2) 0)), none] μ).bind fun p1 =>
        let μ2 : Mm := mset p1.2 (0, 0, 7) 0 0
        let x3 : Int32 := μ2 (0, 0, 9) 4
        let μ4 : Mm := mset μ2 (0, 0, 0) 5 x3
        let x5 : Int32 := μ4 (0, 0, 9) 5
        let μ6 : Mm := mset μ4 (0, 0, 0) 6 x5
        let x7 : Int32 := μ6 (0, 0, 9) 4
        if x7 = 0 then
          let x8 : Int32 := μ6 (1, 0, 18) 0
          let x9 : Int32 := μ6 (0, 0, 9) 3
          if 48 < (x8 + x9) then
            some ((-4), μ6)
          else
            (run L S F d 63 0 [some (vR (0, 0, 4)), some (vR (1, 0, 0))] μ6).bind fun p10 =>
            run L S F (d + 1) 87 133 [some (vR (0, 0, 0)), none, some (vI 0)] p10.2
        else
          let x11 : Int32 := μ6 (0, 0, 9) 4
          some (((-30) - x11), μ6) := by
  unfold run
  rw [DF_succ]
  rfl
