/-! equations of the methods, out of their code -/
set_option maxHeartbeats 4000000 in
set_option maxRecDepth 100000 in
theorem e22_0 {L : Nat} {S : Ad → Nat → Int32} {F d : Nat} {μ : Mm} {j : Fin 15} {a1 : Int32} {a2 : Int32} : run L S (F + 1) d 22 0 [some (vR (1, j, 11)), some (vI a1), some (vI a2), none, none] μ =
    if a2 = 0 then none else
    if a2 = 0 then none else
    bif inb (a1 - a1 / a2 * a2) 8 then
      let x1 : Int32 := μ (1, j, 16) (Int32.toNatClampNeg (a1 - a1 / a2 * a2))
      bif inb (a1 - a1 / a2 * a2) 8 then
        let μ2 : Mm := mset μ (1, j, 16) (Int32.toNatClampNeg (a1 - a1 / a2 * a2)) (x1 + 1)
        bif inb (((3 * a1) + 1) - ((3 * a1) + 1) / a2 * a2) 8 then
          let x3 : Int32 := μ2 (1, j, 17) (Int32.toNatClampNeg (((3 * a1) + 1) - ((3 * a1) + 1) / a2 * a2))
          bif inb (((3 * a1) + 1) - ((3 * a1) + 1) / a2 * a2) 8 then
            let μ4 : Mm := mset μ2 (1, j, 17) (Int32.toNatClampNeg (((3 * a1) + 1) - ((3 * a1) + 1) / a2 * a2)) (x3 + 1)
            bif inb (a1 - a1 / a2 * a2) 8 then
              let x5 : Int32 := μ4 (1, j, 16) (Int32.toNatClampNeg (a1 - a1 / a2 * a2))
              bif inb (((3 * a1) + 1) - ((3 * a1) + 1) / a2 * a2) 8 then
                let x6 : Int32 := μ4 (1, j, 17) (Int32.toNatClampNeg (((3 * a1) + 1) - ((3 * a1) + 1) / a2 * a2))
                some ((mmin x5 x6), μ4)
              else none
            else none
          else none
        else none
      else none
    else none := by
  unfold run
  rw [DF_succ]
  rfl
set_option maxHeartbeats 4000000 in
set_option maxRecDepth 100000 in
theorem e23_0 {L : Nat} {S : Ad → Nat → Int32} {F d : Nat} {μ : Mm} {j : Fin 15} {a1 : Int32} {a2 : Int32} : run L S (F + 1) d 23 0 [some (vR (1, j, 11)), some (vI a1), some (vI a2)] μ =
    bif inb a2 8 then
      let x1 : Int32 := μ (1, j, 12) (Int32.toNatClampNeg a2)
      if x1 = a1 then
        bif inb a2 8 then
          let x2 : Int32 := μ (1, j, 13) (Int32.toNatClampNeg a2)
          bif inb a2 8 then
            let μ3 : Mm := mset μ (1, j, 13) (Int32.toNatClampNeg a2) (x2 + 1)
            let x4 : Int32 := μ3 (1, j, 11) 1
            let μ5 : Mm := mset μ3 (1, j, 11) 1 (x4 + 1)
            let x6 : Int32 := μ5 (1, j, 11) 1
            bif inb a2 8 then
              let μ7 : Mm := mset μ5 (1, j, 14) (Int32.toNatClampNeg a2) x6
              bif inb a2 8 then
                let x8 : Int32 := μ7 (1, j, 13) (Int32.toNatClampNeg a2)
                some (x8, μ7)
              else none
            else none
          else none
        else none
      else
        bif inb a2 8 then
          let μ9 : Mm := mset μ (1, j, 12) (Int32.toNatClampNeg a2) a1
          bif inb a2 8 then
            let μ10 : Mm := mset μ9 (1, j, 13) (Int32.toNatClampNeg a2) 0
            bif inb a2 8 then
              let x11 : Int32 := μ10 (1, j, 13) (Int32.toNatClampNeg a2)
              bif inb a2 8 then
                let μ12 : Mm := mset μ10 (1, j, 13) (Int32.toNatClampNeg a2) (x11 + 1)
                let x13 : Int32 := μ12 (1, j, 11) 1
                let μ14 : Mm := mset μ12 (1, j, 11) 1 (x13 + 1)
                let x15 : Int32 := μ14 (1, j, 11) 1
                bif inb a2 8 then
                  let μ16 : Mm := mset μ14 (1, j, 14) (Int32.toNatClampNeg a2) x15
                  bif inb a2 8 then
                    let x17 : Int32 := μ16 (1, j, 13) (Int32.toNatClampNeg a2)
                    some (x17, μ16)
                  else none
                else none
              else none
            else none
          else none
        else none
    else none := by
  unfold run
  rw [DF_succ]
  rfl
set_option maxHeartbeats 4000000 in
set_option maxRecDepth 100000 in
theorem e24_0 {L : Nat} {S : Ad → Nat → Int32} {F d : Nat} {μ : Mm} {j : Fin 15} {a1 : Int32} : run L S (F + 1) d 24 0 [some (vR (1, j, 11)), some (vI a1), none, none] μ =
    run L S F d 24 4 [some (vR (1, j, 11)), some (vI a1), some (vI 0), some (vI 1)] μ := by
  unfold run
  rw [DF_succ]
  rfl
set_option maxHeartbeats 4000000 in
set_option maxRecDepth 100000 in
theorem e24_4 {L : Nat} {S : Ad → Nat → Int32} {F d : Nat} {μ : Mm} {j : Fin 15} {a1 : Int32} {x_2 : Int32} {x_3 : Int32} : run L S (F + 1) d 24 4 [some (vR (1, j, 11)), some (vI a1), some (vI x_2), some (vI x_3)] μ =
    if x_3 < a1 then
      bif inb x_3 8 then
        let x1 : Int32 := μ (1, j, 14) (Int32.toNatClampNeg x_3)
        bif inb x_2 8 then
          let x2 : Int32 := μ (1, j, 14) (Int32.toNatClampNeg x_2)
          if x1 < x2 then
            run L S F d 24 4 [some (vR (1, j, 11)), some (vI a1), some (vI x_3), some (vI (x_3 + 1))] μ
          else
            run L S F d 24 4 [some (vR (1, j, 11)), some (vI a1), some (vI x_2), some (vI (x_3 + 1))] μ
        else none
      else none
    else
      some (x_2, μ) := by
  unfold run
  rw [DF_succ]
  rfl
set_option maxHeartbeats 4000000 in
set_option maxRecDepth 100000 in
theorem e25_0 {L : Nat} {S : Ad → Nat → Int32} {F d : Nat} {μ : Mm} {j : Fin 15} {a1 : Int32} : run L S (F + 1) (d + 1) 25 0 [some (vR (1, j, 11)), some (vI a1), some (vR (1, j, 1)), none, none] μ =
    (run L S F d 17 0 [some (vR (1, j, 11)), some (vR (1, j, 1))] μ).bind fun p1 =>
    let x2 : Int32 := p1.2 (1, j, 1) 2
    if x2 = 0 then
      (run L S F d 19 0 [some (vR (1, j, 11)), some (vR (1, j, 12)), some (vI p1.1), some (vI a1), none] p1.2).bind fun p3 =>
      if p3.1 < 0 then
        some (0, p3.2)
      else
        bif inb p3.1 8 then
          let x4 : Int32 := p3.2 (1, j, 13) (Int32.toNatClampNeg p3.1)
          some (x4, p3.2)
        else none
    else if x2 = 1 then
      bif inb a1 16 then
        let x5 : Int32 := p1.2 (1, j, 15) (Int32.toNatClampNeg a1)
        some (x5, p1.2)
      else none
    else if x2 = 2 then
      some (0, p1.2)
    else if x2 = 3 then
      if p1.1 = 0 then none else
      bif inb (a1 - a1 / p1.1 * p1.1) 8 then
        let x6 : Int32 := p1.2 (1, j, 16) (Int32.toNatClampNeg (a1 - a1 / p1.1 * p1.1))
        if p1.1 = 0 then none else
        bif inb (((3 * a1) + 1) - ((3 * a1) + 1) / p1.1 * p1.1) 8 then
          let x7 : Int32 := p1.2 (1, j, 17) (Int32.toNatClampNeg (((3 * a1) + 1) - ((3 * a1) + 1) / p1.1 * p1.1))
          some ((mmin x6 x7), p1.2)
        else none
      else none
    else if x2 = 4 then
      (run L S F d 19 0 [some (vR (1, j, 11)), some (vR (1, j, 12)), some (vI p1.1), some (vI a1), none] p1.2).bind fun p8 =>
      if p8.1 < 0 then
        some (0, p8.2)
      else
        bif inb p8.1 8 then
          let x9 : Int32 := p8.2 (1, j, 13) (Int32.toNatClampNeg p8.1)
          some (x9, p8.2)
        else none
    else if x2 = 5 then
      bif inb a1 16 then
        let x10 : Int32 := p1.2 (1, j, 15) (Int32.toNatClampNeg a1)
        some (x10, p1.2)
      else none
    else some (0, p1.2) := by
  unfold run
  rw [DF_succ]
  rfl
set_option maxHeartbeats 4000000 in
set_option maxRecDepth 100000 in
theorem e26_0 {L : Nat} {S : Ad → Nat → Int32} {F d : Nat} {μ : Mm} {j : Fin 15} {i : Fin 15} : run L S (F + 1) d 26 0 [some (vR (1, j, 18)), some (vR (1, i, 18))] μ =
    let μ1 : Mm := mset μ (1, j, 18) 0 (μ (1, i, 18) 0)
    let x2 : Int32 := μ1 (1, j, 18) 0
    bif cpyok 0 0 x2 99 99 then
      let μ3 : Mm := mcpy μ1 (1, i, 19) (Int32.toNatClampNeg 0) (1, j, 19) (Int32.toNatClampNeg 0) (Int32.toNatClampNeg x2)
      let x4 : Int32 := μ3 (1, j, 18) 0
      bif cpyok 0 0 x4 99 99 then
        let μ5 : Mm := mcpy μ3 (1, i, 20) (Int32.toNatClampNeg 0) (1, j, 20) (Int32.toNatClampNeg 0) (Int32.toNatClampNeg x4)
        some (0, μ5)
      else none
    else none := by
  unfold run
  rw [DF_succ]
  rfl
set_option maxHeartbeats 4000000 in
set_option maxRecDepth 100000 in
theorem e27_0 {L : Nat} {S : Ad → Nat → Int32} {F d : Nat} {μ : Mm} {j : Fin 15} {a1 : Int32} {a2 : Int32} : run L S (F + 1) d 27 0 [some (vR (1, j, 18)), some (vI a1), some (vI a2)] μ =
    if (μ (1, j, 18) 0) < 99 then
      bif inb (μ (1, j, 18) 0) 99 then
        let μ1 : Mm := mset μ (1, j, 19) (Int32.toNatClampNeg (μ (1, j, 18) 0)) a1
        let x2 : Int32 := μ1 (1, j, 18) 0
        bif inb x2 99 then
          let μ3 : Mm := mset μ1 (1, j, 20) (Int32.toNatClampNeg x2) a2
          let x4 : Int32 := μ3 (1, j, 18) 0
          let μ5 : Mm := mset μ3 (1, j, 18) 0 (x4 + 1)
          some (0, μ5)
        else none
      else none
    else
      some (0, μ) := by
  unfold run
  rw [DF_succ]
  rfl
set_option maxHeartbeats 4000000 in
set_option maxRecDepth 100000 in
theorem e28_0 {L : Nat} {S : Ad → Nat → Int32} {F d : Nat} {μ : Mm} {j : Fin 15} {a1 : Int32} : run L S (F + 1) d 28 0 [some (vR (1, j, 18)), some (vI a1), none] μ =
    let μ1 : Mm := mset μ (1, j, 18) 0 ((μ (1, j, 18) 0) - 1)
    run L S F d 28 12 [some (vR (1, j, 18)), none, some (vI a1)] μ1 := by
  unfold run
  rw [DF_succ]
  rfl
set_option maxHeartbeats 4000000 in
set_option maxRecDepth 100000 in
theorem e28_12 {L : Nat} {S : Ad → Nat → Int32} {F d : Nat} {μ : Mm} {j : Fin 15} {x_2 : Int32} : run L S (F + 1) d 28 12 [some (vR (1, j, 18)), none, some (vI x_2)] μ =
    if x_2 < (μ (1, j, 18) 0) then
      bif inb (x_2 + 1) 99 then
        let x1 : Int32 := μ (1, j, 19) (Int32.toNatClampNeg (x_2 + 1))
        bif inb x_2 99 then
          let μ2 : Mm := mset μ (1, j, 19) (Int32.toNatClampNeg x_2) x1
          bif inb (x_2 + 1) 99 then
            let x3 : Int32 := μ2 (1, j, 20) (Int32.toNatClampNeg (x_2 + 1))
            bif inb x_2 99 then
              let μ4 : Mm := mset μ2 (1, j, 20) (Int32.toNatClampNeg x_2) x3
              run L S F d 28 12 [some (vR (1, j, 18)), none, some (vI (x_2 + 1))] μ4
            else none
          else none
        else none
      else none
    else
      some (0, μ) := by
  unfold run
  rw [DF_succ]
  rfl
set_option maxHeartbeats 4000000 in
set_option maxRecDepth 100000 in
theorem e29_0 {L : Nat} {S : Ad → Nat → Int32} {F d : Nat} {μ : Mm} {j : Fin 15} : run L S (F + 1) d 29 0 [some (vR (1, j, 21))] μ =
    let μ1 : Mm := mset μ (1, j, 21) 0 0
    let μ2 : Mm := mset μ1 (1, j, 21) 1 0
    some (0, μ2) := by
  unfold run
  rw [DF_succ]
  rfl
set_option maxHeartbeats 4000000 in
set_option maxRecDepth 100000 in
theorem e30_0 {L : Nat} {S : Ad → Nat → Int32} {F d : Nat} {μ : Mm} {j : Fin 15} {i : Fin 15} : run L S (F + 1) d 30 0 [some (vR (1, j, 21)), some (vR (1, i, 21))] μ =
    let μ1 : Mm := mset μ (1, j, 21) 0 (μ (1, i, 21) 0)
    let x2 : Int32 := μ1 (1, i, 21) 1
    let μ3 : Mm := mset μ1 (1, j, 21) 1 x2
    let x4 : Int32 := μ3 (1, j, 21) 0
    bif cpyok 0 0 x4 16 16 then
      let μ5 : Mm := mcpy μ3 (1, i, 22) (Int32.toNatClampNeg 0) (1, j, 22) (Int32.toNatClampNeg 0) (Int32.toNatClampNeg x4)
      some (0, μ5)
    else none := by
  unfold run
  rw [DF_succ]
  rfl
set_option maxHeartbeats 4000000 in
set_option maxRecDepth 100000 in
theorem e31_0 {L : Nat} {S : Ad → Nat → Int32} {F d : Nat} {μ : Mm} {j : Fin 15} {a1 : Int32} : run L S (F + 1) d 31 0 [some (vR (1, j, 21)), some (vI a1), none] μ =
    run L S F d 31 2 [some (vR (1, j, 21)), some (vI a1), some (vI 0)] μ := by
  unfold run
  rw [DF_succ]
  rfl
set_option maxHeartbeats 4000000 in
set_option maxRecDepth 100000 in
theorem e31_2 {L : Nat} {S : Ad → Nat → Int32} {F d : Nat} {μ : Mm} {j : Fin 15} {a1 : Int32} {x_2 : Int32} : run L S (F + 1) d 31 2 [some (vR (1, j, 21)), some (vI a1), some (vI x_2)] μ =
    if x_2 < (μ (1, j, 21) 0) then
      bif inb x_2 16 then
        let x1 : Int32 := μ (1, j, 22) (Int32.toNatClampNeg x_2)
        if x1 = a1 then
          some (x_2, μ)
        else
          run L S F d 31 2 [some (vR (1, j, 21)), some (vI a1), some (vI (x_2 + 1))] μ
      else none
    else
      some ((-1), μ) := by
  unfold run
  rw [DF_succ]
  rfl
set_option maxHeartbeats 4000000 in
set_option maxRecDepth 100000 in
theorem e32_0 {L : Nat} {S : Ad → Nat → Int32} {F d : Nat} {μ : Mm} {j : Fin 15} {a1 : Int32} : run L S (F + 1) d 32 0 [some (vR (1, j, 21)), some (vI a1), none] μ =
    if (((μ (1, j, 21) 1) >>> (a1 &&& 31)) &&& 1) = 1 then
      some (0, μ)
    else
      if (μ (1, j, 21) 0) < 16 then
        bif inb (μ (1, j, 21) 0) 16 then
          let μ1 : Mm := mset μ (1, j, 22) (Int32.toNatClampNeg (μ (1, j, 21) 0)) a1
          let x2 : Int32 := μ1 (1, j, 21) 0
          let μ3 : Mm := mset μ1 (1, j, 21) 0 (x2 + 1)
          let x4 : Int32 := μ3 (1, j, 21) 1
          let μ5 : Mm := mset μ3 (1, j, 21) 1 (x4 ||| ((1 : Int32) <<< (a1 &&& 31)))
          some (0, μ5)
        else none
      else
        some (0, μ) := by
  unfold run
  rw [DF_succ]
  rfl
set_option maxHeartbeats 4000000 in
set_option maxRecDepth 100000 in
theorem e33_0 {L : Nat} {S : Ad → Nat → Int32} {F d : Nat} {μ : Mm} {j : Fin 15} : run L S (F + 1) d 33 0 [some (vR (1, j, 21)), none, none] μ =
    let x1 : Int32 := μ (1, j, 22) 0
    let μ2 : Mm := mset μ (1, j, 21) 1 ((μ (1, j, 21) 1) &&& (((1 : Int32) <<< (x1 &&& 31)) ^^^ (-1)))
    let x3 : Int32 := μ2 (1, j, 21) 0
    let μ4 : Mm := mset μ2 (1, j, 21) 0 (x3 - 1)
    run L S F d 33 33 [some (vR (1, j, 21)), some (vI x1), some (vI 0)] μ4 := by
  unfold run
  rw [DF_succ]
  rfl
set_option maxHeartbeats 4000000 in
set_option maxRecDepth 100000 in
theorem e33_33 {L : Nat} {S : Ad → Nat → Int32} {F d : Nat} {μ : Mm} {j : Fin 15} {x_1 : Int32} {x_2 : Int32} : run L S (F + 1) d 33 33 [some (vR (1, j, 21)), some (vI x_1), some (vI x_2)] μ =
    if x_2 < (μ (1, j, 21) 0) then
      bif inb (x_2 + 1) 16 then
        let x1 : Int32 := μ (1, j, 22) (Int32.toNatClampNeg (x_2 + 1))
        bif inb x_2 16 then
          let μ2 : Mm := mset μ (1, j, 22) (Int32.toNatClampNeg x_2) x1
          run L S F d 33 33 [some (vR (1, j, 21)), some (vI x_1), some (vI (x_2 + 1))] μ2
        else none
      else none
    else
      some (x_1, μ) := by
  unfold run
  rw [DF_succ]
  rfl
set_option maxHeartbeats 4000000 in
set_option maxRecDepth 100000 in
theorem e34_0 {L : Nat} {S : Ad → Nat → Int32} {F d : Nat} {μ : Mm} {j : Fin 15} {a1 : Int32} : run L S (F + 1) (d + 1) 34 0 [some (vR (1, j, 0)), some (vI a1)] μ =
    (run L S F d 2 0 [some (vR (1, j, 2)), some (vI a1), none] μ).bind fun p1 =>
    (run L S F d 13 0 [some (vR (1, j, 11))] p1.2).bind fun p2 =>
    let μ3 : Mm := mset p2.2 (1, j, 11) 2 17
    let μ4 : Mm := mset μ3 (1, j, 18) 0 0
    (run L S F d 29 0 [some (vR (1, j, 21))] μ4).bind fun p5 =>
    let μ6 : Mm := mset p5.2 (1, j, 0) 5 0
    let μ7 : Mm := mset μ6 (1, j, 0) 6 0
    let μ8 : Mm := mset μ7 (1, j, 0) 7 3
    let μ9 : Mm := mset μ8 (1, j, 0) 8 0
    let μ10 : Mm := mset μ9 (1, j, 0) 9 0
    (run L S F d 1 0 [some (vR (1, j, 23)), some (vI 0), none, none] μ10).bind fun p11 =>
    (run L S F d 1 0 [some (vR (1, j, 24)), some (vI 0), none, none] p11.2).bind fun p12 =>
    some (0, p12.2) := by
  unfold run
  rw [DF_succ]
  rfl
set_option maxHeartbeats 4000000 in
set_option maxRecDepth 100000 in
theorem e35_0 {L : Nat} {S : Ad → Nat → Int32} {F d : Nat} {μ : Mm} {j : Fin 15} {i : Fin 15} : run L S (F + 1) (d + 1) 35 0 [some (vR (1, j, 0)), some (vR (1, i, 0))] μ =
    bif cpyok 0 0 17 17 17 then
      let μ1 : Mm := mcpy μ (1, i, 1) (Int32.toNatClampNeg 0) (1, j, 1) (Int32.toNatClampNeg 0) (Int32.toNatClampNeg 17)
      (run L S F d 3 0 [some (vR (1, j, 2)), some (vR (1, i, 2))] μ1).bind fun p2 =>
      (run L S F d 14 0 [some (vR (1, j, 11)), some (vR (1, i, 11))] p2.2).bind fun p3 =>
      (run L S F d 26 0 [some (vR (1, j, 18)), some (vR (1, i, 18))] p3.2).bind fun p4 =>
      (run L S F d 30 0 [some (vR (1, j, 21)), some (vR (1, i, 21))] p4.2).bind fun p5 =>
      let x6 : Int32 := p5.2 (1, i, 0) 5
      let μ7 : Mm := mset p5.2 (1, j, 0) 5 x6
      let x8 : Int32 := μ7 (1, i, 0) 6
      let μ9 : Mm := mset μ7 (1, j, 0) 6 x8
      let x10 : Int32 := μ9 (1, i, 0) 7
      let μ11 : Mm := mset μ9 (1, j, 0) 7 x10
      let x12 : Int32 := μ11 (1, i, 0) 8
      let μ13 : Mm := mset μ11 (1, j, 0) 8 x12
      let x14 : Int32 := μ13 (1, i, 0) 9
      let μ15 : Mm := mset μ13 (1, j, 0) 9 x14
      bif cpyok 0 0 4 4 4 then
        let μ16 : Mm := mcpy μ15 (1, i, 23) (Int32.toNatClampNeg 0) (1, j, 23) (Int32.toNatClampNeg 0) (Int32.toNatClampNeg 4)
        bif cpyok 0 0 9 9 9 then
          let μ17 : Mm := mcpy μ16 (1, i, 24) (Int32.toNatClampNeg 0) (1, j, 24) (Int32.toNatClampNeg 0) (Int32.toNatClampNeg 9)
          some (0, μ17)
        else none
      else none
    else none := by
  unfold run
  rw [DF_succ]
  rfl
set_option maxHeartbeats 4000000 in
set_option maxRecDepth 100000 in
theorem e36_0 {L : Nat} {S : Ad → Nat → Int32} {F d : Nat} {μ : Mm} {j : Fin 15} {a1 : Int32} {a2 : Int32} : run L S (F + 1) (d + 1) 36 0 [some (vR (1, j, 0)), some (vI a1), some (vI a2)] μ =
    bif inb a1 17 then
      let μ1 : Mm := mset μ (1, j, 1) (Int32.toNatClampNeg a1) a2
      if a1 = 2 then
        (run L S F d 13 0 [some (vR (1, j, 11))] μ1).bind fun p2 =>
        some (0, p2.2)
      else
        if a1 = 3 then
          (run L S F d 13 0 [some (vR (1, j, 11))] μ1).bind fun p3 =>
          some (0, p3.2)
        else
          some (0, μ1)
    else none := by
  unfold run
  rw [DF_succ]
  rfl
set_option maxHeartbeats 4000000 in
set_option maxRecDepth 100000 in
theorem e37_0 {L : Nat} {S : Ad → Nat → Int32} {F d : Nat} {μ : Mm} {j : Fin 15} {a1 : Int32} {a2 : Int32} : run L S (F + 1) (d + 1) 37 0 [some (vR (1, j, 0)), some (vI a1), some (vI a2)] μ =
    bif inb a1 17 then
      let μ1 : Mm := mset μ (1, j, 1) (Int32.toNatClampNeg a1) a2
      (run L S F d 13 0 [some (vR (1, j, 11))] μ1).bind fun p2 =>
      some (0, p2.2)
    else none := by
  unfold run
  rw [DF_succ]
  rfl
set_option maxHeartbeats 4000000 in
set_option maxRecDepth 100000 in
theorem e38_0 {L : Nat} {S : Ad → Nat → Int32} {F d : Nat} {μ : Mm} {j : Fin 15} : run L S (F + 1) d 38 0 [some (vR (1, j, 0))] μ =
    if 0 < (μ (1, j, 18) 0) then
      some (vp_nar .boolean 1, μ)
    else
      if 0 < (μ (1, j, 21) 0) then
        some (vp_nar .boolean 1, μ)
      else
        if 0 < (μ (1, j, 0) 8) then
          some (vp_nar .boolean 1, μ)
        else
          some (vp_nar .boolean 0, μ) := by
  unfold run
  rw [DF_succ]
  rfl
set_option maxHeartbeats 4000000 in
set_option maxRecDepth 100000 in
theorem e39_0 {L : Nat} {S : Ad → Nat → Int32} {F d : Nat} {μ : Mm} {j : Fin 15} : run L S (F + 1) (d + 1) 39 0 [some (vR (1, j, 0)), none] μ =
    (run L S F d 40 0 [some (vR (1, j, 0))] μ).bind fun p1 =>
    (run L S F d 41 0 [some (vR (1, j, 0)), none, none] p1.2).bind fun p2 =>
    let x3 : Int32 := p2.2 (1, j, 0) 8
    if 0 < x3 then
      if (3 : Int32) = 0 then
        (run L S F d 43 0 [some (vR (1, j, 0)), none] p2.2).bind fun p8 =>
        run L S F (d + 1) 39 74 [some (vR (1, j, 0)), none] p8.2
      else if (3 : Int32) = 1 then
        (run L S F d 44 0 [some (vR (1, j, 0)), none] p2.2).bind fun p9 =>
        run L S F (d + 1) 39 74 [some (vR (1, j, 0)), none] p9.2
      else if (3 : Int32) = 2 then
        (run L S F d 46 0 [some (vR (1, j, 0)), some (vI p2.1), none] p2.2).bind fun p10 =>
        run L S F (d + 1) 39 74 [some (vR (1, j, 0)), none] p10.2
      else run L S F (d + 1) 39 74 [some (vR (1, j, 0)), none] p2.2
    else
      (run L S F d 42 0 [some (vR (1, j, 0)), some (vI p2.1), none] p2.2).bind fun p4 =>
      if p4.1 = 0 then
        (run L S F d 43 0 [some (vR (1, j, 0)), none] p4.2).bind fun p5 =>
        run L S F (d + 1) 39 74 [some (vR (1, j, 0)), none] p5.2
      else if p4.1 = 1 then
        (run L S F d 44 0 [some (vR (1, j, 0)), none] p4.2).bind fun p6 =>
        run L S F (d + 1) 39 74 [some (vR (1, j, 0)), none] p6.2
      else if p4.1 = 2 then
        (run L S F d 46 0 [some (vR (1, j, 0)), some (vI p2.1), none] p4.2).bind fun p7 =>
        run L S F (d + 1) 39 74 [some (vR (1, j, 0)), none] p7.2
      else run L S F (d + 1) 39 74 [some (vR (1, j, 0)), none] p4.2 := by
  unfold run
  rw [DF_succ]
  rfl
set_option maxHeartbeats 4000000 in
set_option maxRecDepth 100000 in
theorem e39_74 {L : Nat} {S : Ad → Nat → Int32} {F d : Nat} {μ : Mm} {j : Fin 15} : run L S (F + 1) (d + 1) 39 74 [some (vR (1, j, 0)), none] μ =
    if 0 < (μ (1, j, 0) 8) then
      bif inb (μ (1, j, 0) 7) 4 then
        let x5 : Int32 := μ (1, j, 23) (Int32.toNatClampNeg (μ (1, j, 0) 7))
        bif inb (μ (1, j, 0) 7) 4 then
          let μ6 : Mm := mset μ (1, j, 23) (Int32.toNatClampNeg (μ (1, j, 0) 7)) (x5 + 1)
          let x7 : Int32 := μ6 (1, j, 0) 8
          let μ8 : Mm := mset μ6 (1, j, 0) 8 (x7 - 1)
          let x9 : Int32 := μ8 (1, j, 0) 5
          let μ10 : Mm := mset μ8 (1, j, 0) 5 (x9 + 1)
          some (0, μ10)
        else none
      else none
    else
      let x1 : Int32 := μ (1, j, 23) 3
      let μ2 : Mm := mset μ (1, j, 23) 3 (x1 + 1)
      let x3 : Int32 := μ2 (1, j, 0) 5
      let μ4 : Mm := mset μ2 (1, j, 0) 5 (x3 + 1)
      some (0, μ4) := by
  unfold run
  rw [DF_succ]
  rfl
set_option maxHeartbeats 4000000 in
set_option maxRecDepth 100000 in
theorem e40_0 {L : Nat} {S : Ad → Nat → Int32} {F d : Nat} {μ : Mm} {j : Fin 15} : run L S (F + 1) (d + 1) 40 0 [some (vR (1, j, 0))] μ =
    if (μ (1, j, 0) 5) = 0 then
      some (0, μ)
    else
      let x1 : Int32 := μ (1, j, 1) 7
      if (mmax 1 x1) = 0 then none else
      if ((μ (1, j, 0) 5) - (μ (1, j, 0) 5) / (mmax 1 x1) * (mmax 1 x1)) = 0 then
        let μ5 : Mm := mset μ (1, j, 0) 6 (mmin 99 ((μ (1, j, 0) 6) + 1))
        let x6 : Int32 := μ5 (1, j, 0) 5
        let x7 : Int32 := μ5 (1, j, 1) 5
        if (mmax 1 x7) = 0 then none else
        if (x6 - x6 / (mmax 1 x7) * (mmax 1 x7)) = 0 then
          (run L S F d 13 0 [some (vR (1, j, 11))] μ5).bind fun p8 =>
          (run L S F d 1 0 [some (vR (1, j, 6)), some (vI 0), none, none] p8.2).bind fun p9 =>
          some (0, p9.2)
        else
          some (0, μ5)
      else
        let x2 : Int32 := μ (1, j, 1) 5
        if (mmax 1 x2) = 0 then none else
        if ((μ (1, j, 0) 5) - (μ (1, j, 0) 5) / (mmax 1 x2) * (mmax 1 x2)) = 0 then
          (run L S F d 13 0 [some (vR (1, j, 11))] μ).bind fun p3 =>
          (run L S F d 1 0 [some (vR (1, j, 6)), some (vI 0), none, none] p3.2).bind fun p4 =>
          some (0, p4.2)
        else
          some (0, μ) := by
  unfold run
  rw [DF_succ]
  rfl
set_option maxHeartbeats 4000000 in
set_option maxRecDepth 100000 in
theorem e41_0 {L : Nat} {S : Ad → Nat → Int32} {F d : Nat} {μ : Mm} {j : Fin 15} : run L S (F + 1) d 41 0 [some (vR (1, j, 0)), none, none] μ =
    run L S F d 41 2 [some (vR (1, j, 0)), some (vI 0), none] μ := by
  unfold run
  rw [DF_succ]
  rfl
set_option maxHeartbeats 4000000 in
set_option maxRecDepth 100000 in
theorem e41_2 {L : Nat} {S : Ad → Nat → Int32} {F d : Nat} {μ : Mm} {j : Fin 15} {x_1 : Int32} : run L S (F + 1) d 41 2 [some (vR (1, j, 0)), some (vI x_1), none] μ =
    if x_1 < (μ (1, j, 18) 0) then
      let x1 : Int32 := μ (1, j, 1) 2
      if x1 = 5 then
        bif inb x_1 99 then
          let x2 : Int32 := μ (1, j, 19) (Int32.toNatClampNeg x_1)
          bif inb x2 16 then
            let x3 : Int32 := μ (1, j, 15) (Int32.toNatClampNeg x2)
            let x4 : Int32 := μ (1, j, 1) 4
            if x3 < x4 then
              some (x_1, μ)
            else
              run L S F d 41 2 [some (vR (1, j, 0)), some (vI (x_1 + 1)), none] μ
          else none
        else none
      else
        some (x_1, μ)
    else
      some ((-1), μ) := by
  unfold run
  rw [DF_succ]
  rfl
set_option maxHeartbeats 4000000 in
set_option maxRecDepth 100000 in
theorem e42_0 {L : Nat} {S : Ad → Nat → Int32} {F d : Nat} {μ : Mm} {j : Fin 15} {a1 : Int32} : run L S (F + 1) d 42 0 [some (vR (1, j, 0)), some (vI a1), none] μ =
    if a1 < 0 then
      if 0 < (μ (1, j, 0) 6) then
        some (0, μ)
      else
        run L S F d 42 37 [some (vR (1, j, 0)), none, some (vI 1)] μ
    else
      if 0 < (μ (1, j, 0) 6) then
        let x1 : Int32 := μ (1, j, 1) 12
        if x1 < (μ (1, j, 0) 6) then
          some (0, μ)
        else
          run L S F d 42 37 [some (vR (1, j, 0)), none, some (vI 0)] μ
      else
        run L S F d 42 37 [some (vR (1, j, 0)), none, some (vI 0)] μ := by
  unfold run
  rw [DF_succ]
  rfl
set_option maxHeartbeats 4000000 in
set_option maxRecDepth 100000 in
theorem e42_37 {L : Nat} {S : Ad → Nat → Int32} {F d : Nat} {μ : Mm} {j : Fin 15} {x_2 : Int32} : run L S (F + 1) d 42 37 [some (vR (1, j, 0)), none, some (vI x_2)] μ =
    if 0 < (μ (1, j, 21) 0) then
      let x1 : Int32 := μ (1, j, 1) 11
      if (μ (1, j, 21) 0) < x1 then
        if x_2 = 0 then
          if (μ (1, j, 0) 7) = 1 then
            some (1, μ)
          else
            if x_2 = 0 then
              some (2, μ)
            else
              some (3, μ)
        else
          some (1, μ)
      else
        some (1, μ)
    else
      if x_2 = 0 then
        some (2, μ)
      else
        some (3, μ) := by
  unfold run
  rw [DF_succ]
  rfl
set_option maxHeartbeats 4000000 in
set_option maxRecDepth 100000 in
theorem e43_0 {L : Nat} {S : Ad → Nat → Int32} {F d : Nat} {μ : Mm} {j : Fin 15} : run L S (F + 1) (d + 1) 43 0 [some (vR (1, j, 0)), none] μ =
    let μ1 : Mm := mset μ (1, j, 0) 7 0
    let x2 : Int32 := μ1 (1, j, 1) 8
    let μ3 : Mm := mset μ1 (1, j, 0) 8 x2
    let x4 : Int32 := μ3 (1, j, 0) 6
    let μ5 : Mm := mset μ3 (1, j, 0) 6 (x4 - 1)
    run L S F (d + 1) 43 28 [some (vR (1, j, 0)), some (vI 0)] μ5 := by
  unfold run
  rw [DF_succ]
  rfl
set_option maxHeartbeats 4000000 in
set_option maxRecDepth 100000 in
theorem e43_28 {L : Nat} {S : Ad → Nat → Int32} {F d : Nat} {μ : Mm} {j : Fin 15} {x_1 : Int32} : run L S (F + 1) (d + 1) 43 28 [some (vR (1, j, 0)), some (vI x_1)] μ =
    let x1 : Int32 := μ (1, j, 1) 9
    if x_1 < x1 then
      bif inb (μ (1, j, 0) 9) 16 then
        let x2 : Int32 := μ (1, j, 4) (Int32.toNatClampNeg (μ (1, j, 0) 9))
        let x3 : Int32 := μ (1, j, 1) 16
        if x3 < 1 then
          (run L S F d 45 0 [some (vR (1, j, 0)), some (vI x2), some (vI 0), none] μ).bind fun p4 =>
          let x5 : Int32 := p4.2 (1, j, 0) 9
          let x6 : Int32 := p4.2 (1, j, 2) 0
          if (mmax 1 x6) = 0 then none else
          let μ7 : Mm := mset p4.2 (1, j, 0) 9 ((x5 + 1) - (x5 + 1) / (mmax 1 x6) * (mmax 1 x6))
          let x8 : Int32 := μ7 (1, j, 24) 6
          let μ9 : Mm := mset μ7 (1, j, 24) 6 (x8 + 1)
          run L S F (d + 1) 43 28 [some (vR (1, j, 0)), some (vI (x_1 + 1))] μ9
        else
          (run L S F d 45 0 [some (vR (1, j, 0)), some (vI x2), some (vI 1), none] μ).bind fun p10 =>
          let x11 : Int32 := p10.2 (1, j, 0) 9
          let x12 : Int32 := p10.2 (1, j, 2) 0
          if (mmax 1 x12) = 0 then none else
          let μ13 : Mm := mset p10.2 (1, j, 0) 9 ((x11 + 1) - (x11 + 1) / (mmax 1 x12) * (mmax 1 x12))
          let x14 : Int32 := μ13 (1, j, 24) 6
          let μ15 : Mm := mset μ13 (1, j, 24) 6 (x14 + 1)
          run L S F (d + 1) 43 28 [some (vR (1, j, 0)), some (vI (x_1 + 1))] μ15
      else none
    else
      some (0, μ) := by
  unfold run
  rw [DF_succ]
  rfl
set_option maxHeartbeats 4000000 in
set_option maxRecDepth 100000 in
theorem e44_0 {L : Nat} {S : Ad → Nat → Int32} {F d : Nat} {μ : Mm} {j : Fin 15} : run L S (F + 1) (d + 1) 44 0 [some (vR (1, j, 0)), none] μ =
    let μ1 : Mm := mset μ (1, j, 0) 7 1
    let x2 : Int32 := μ1 (1, j, 1) 10
    let μ3 : Mm := mset μ1 (1, j, 0) 8 x2
    (run L S F d 33 0 [some (vR (1, j, 21)), none, none] μ3).bind fun p4 =>
    let x5 : Int32 := p4.2 (1, j, 1) 16
    if x5 = 2 then
      (run L S F d 45 0 [some (vR (1, j, 0)), some (vI p4.1), some (vI 1), none] p4.2).bind fun p13 =>
      let x14 : Int32 := p13.2 (1, j, 24) 5
      let μ15 : Mm := mset p13.2 (1, j, 24) 5 (x14 + 1)
      let x16 : Int32 := μ15 (1, j, 1) 15
      if x16 = 1 then
        let x17 : Int32 := μ15 (1, j, 24) 3
        (run L S F d 8 0 [some (vR (1, j, 2)), some (vI p4.1), some (vR (1, j, 1)), none, none, none] μ15).bind fun p18 =>
        let μ19 : Mm := mset p18.2 (1, j, 24) 3 (x17 + p18.1)
        some (0, μ19)
      else
        some (0, μ15)
    else
      (run L S F d 45 0 [some (vR (1, j, 0)), some (vI p4.1), some (vI 0), none] p4.2).bind fun p6 =>
      let x7 : Int32 := p6.2 (1, j, 24) 5
      let μ8 : Mm := mset p6.2 (1, j, 24) 5 (x7 + 1)
      let x9 : Int32 := μ8 (1, j, 1) 15
      if x9 = 1 then
        let x10 : Int32 := μ8 (1, j, 24) 3
        (run L S F d 8 0 [some (vR (1, j, 2)), some (vI p4.1), some (vR (1, j, 1)), none, none, none] μ8).bind fun p11 =>
        let μ12 : Mm := mset p11.2 (1, j, 24) 3 (x10 + p11.1)
        some (0, μ12)
      else
        some (0, μ8) := by
  unfold run
  rw [DF_succ]
  rfl
set_option maxHeartbeats 4000000 in
set_option maxRecDepth 100000 in
theorem e45_0 {L : Nat} {S : Ad → Nat → Int32} {F d : Nat} {μ : Mm} {j : Fin 15} {a1 : Int32} {a2 : Int32} : run L S (F + 1) (d + 1) 45 0 [some (vR (1, j, 0)), some (vI a1), some (vI a2), none] μ =
    if a2 = 0 then
      bif inb a1 16 then
        let μ1 : Mm := mset μ (1, j, 5) (Int32.toNatClampNeg a1) 0
        some (0, μ1)
      else none
    else
      (run L S F d 10 0 [some (vR (1, j, 2)), some (vI a1), none] μ).bind fun p2 =>
      if p2.1 < 0 then
        bif inb a1 16 then
          let μ3 : Mm := mset p2.2 (1, j, 5) (Int32.toNatClampNeg a1) 0
          some (0, μ3)
        else none
      else
        bif inb p2.1 9 then
          let x4 : Int32 := p2.2 (1, j, 24) (Int32.toNatClampNeg p2.1)
          bif inb p2.1 9 then
            let μ5 : Mm := mset p2.2 (1, j, 24) (Int32.toNatClampNeg p2.1) (x4 + 1)
            bif inb a1 16 then
              let μ6 : Mm := mset μ5 (1, j, 5) (Int32.toNatClampNeg a1) 0
              some (0, μ6)
            else none
          else none
        else none := by
  unfold run
  rw [DF_succ]
  rfl
set_option maxHeartbeats 4000000 in
set_option maxRecDepth 100000 in
theorem e46_0 {L : Nat} {S : Ad → Nat → Int32} {F d : Nat} {μ : Mm} {j : Fin 15} {a1 : Int32} : run L S (F + 1) (d + 1) 46 0 [some (vR (1, j, 0)), some (vI a1), none] μ =
    let μ1 : Mm := mset μ (1, j, 0) 7 2
    let x2 : Int32 := μ1 (1, j, 1) 6
    let μ3 : Mm := mset μ1 (1, j, 0) 8 x2
    bif inb a1 99 then
      let x4 : Int32 := μ3 (1, j, 19) (Int32.toNatClampNeg a1)
      let x5 : Int32 := μ3 (1, j, 0) 5
      bif inb a1 99 then
        let x6 : Int32 := μ3 (1, j, 20) (Int32.toNatClampNeg a1)
        (run L S F d 47 0 [some (vR (1, j, 0)), some (vI (x5 - x6))] μ3).bind fun p7 =>
        (run L S F d 28 0 [some (vR (1, j, 18)), some (vI a1), none] p7.2).bind fun p8 =>
        (run L S F d 7 0 [some (vR (1, j, 2)), some (vI x4)] p8.2).bind fun p9 =>
        let x10 : Int32 := p9.2 (1, j, 24) 3
        (run L S F d 8 0 [some (vR (1, j, 2)), some (vI x4), some (vR (1, j, 1)), none, none, none] p9.2).bind fun p11 =>
        let μ12 : Mm := mset p11.2 (1, j, 24) 3 (x10 + p11.1)
        (run L S F d 16 0 [some (vR (1, j, 11)), some (vI x4), some (vR (1, j, 1)), none, none] μ12).bind fun p13 =>
        if p13.1 = 0 then
          some (0, p13.2)
        else
          let x14 : Int32 := p13.2 (1, j, 24) 4
          let μ15 : Mm := mset p13.2 (1, j, 24) 4 (x14 + 1)
          (run L S F d 48 0 [some (vR (1, j, 0)), some (vI x4), none, none, none, none, none] μ15).bind fun p16 =>
          some (0, p16.2)
      else none
    else none := by
  unfold run
  rw [DF_succ]
  rfl
set_option maxHeartbeats 4000000 in
set_option maxRecDepth 100000 in
theorem e47_0 {L : Nat} {S : Ad → Nat → Int32} {F d : Nat} {μ : Mm} {j : Fin 15} {a1 : Int32} : run L S (F + 1) d 47 0 [some (vR (1, j, 0)), some (vI a1)] μ =
    let x1 : Int32 := μ (1, j, 24) 0
    let μ2 : Mm := mset μ (1, j, 24) 0 (x1 + 1)
    let x3 : Int32 := μ2 (1, j, 24) 1
    let μ4 : Mm := mset μ2 (1, j, 24) 1 (x3 + a1)
    let x5 : Int32 := μ4 (1, j, 24) 2
    let μ6 : Mm := mset μ4 (1, j, 24) 2 (mmax x5 a1)
    some (0, μ6) := by
  unfold run
  rw [DF_succ]
  rfl
set_option maxHeartbeats 4000000 in
set_option maxRecDepth 100000 in
theorem e48_0 {L : Nat} {S : Ad → Nat → Int32} {F d : Nat} {μ : Mm} {j : Fin 15} {a1 : Int32} : run L S (F + 1) (d + 1) 48 0 [some (vR (1, j, 0)), some (vI a1), none, none, none, none, none] μ =
    let x1 : Int32 := μ (1, j, 1) 14
    if x1 = 1 then
      bif inb a1 16 then
        let x2 : Int32 := μ (1, j, 3) (Int32.toNatClampNeg a1)
        run L S F (d + 1) 48 38 [some (vR (1, j, 0)), none, some (vI 1), some (vI x2), some (vI 0), none, none] μ
      else none
    else
      run L S F (d + 1) 48 38 [some (vR (1, j, 0)), none, some (vI 0), some (vI a1), some (vI 0), none, none] μ := by
  unfold run
  rw [DF_succ]
  rfl
set_option maxHeartbeats 4000000 in
set_option maxRecDepth 100000 in
theorem e48_38 {L : Nat} {S : Ad → Nat → Int32} {F d : Nat} {μ : Mm} {j : Fin 15} {x_2 : Int32} {x_3 : Int32} {x_4 : Int32} : run L S (F + 1) (d + 1) 48 38 [some (vR (1, j, 0)), none, some (vI x_2), some (vI x_3), some (vI x_4), none, none] μ =
    let x1 : Int32 := μ (1, j, 1) 1
    if x_4 < (2 * x1) then
      if (x_4 - x_4 / 2 * 2) = 0 then
        (run L S F d 4 0 [some (vR (1, j, 2)), some (vI (x_3 - ((x_4 / 2) + 1)))] μ).bind fun p6 =>
        if p6.1 = 0 then
          run L S F (d + 1) 48 38 [some (vR (1, j, 0)), none, some (vI x_2), some (vI x_3), some (vI (x_4 + 1)), none, none] p6.2
        else
          if x_2 = 0 then
            (run L S F d 32 0 [some (vR (1, j, 21)), some (vI (x_3 - ((x_4 / 2) + 1))), none] p6.2).bind fun p7 =>
            run L S F (d + 1) 48 38 [some (vR (1, j, 0)), none, some (vI x_2), some (vI x_3), some (vI (x_4 + 1)), none, none] p7.2
          else
            bif inb (x_3 - ((x_4 / 2) + 1)) 16 then
              let x8 : Int32 := p6.2 (1, j, 4) (Int32.toNatClampNeg (x_3 - ((x_4 / 2) + 1)))
              (run L S F d 32 0 [some (vR (1, j, 21)), some (vI x8), none] p6.2).bind fun p9 =>
              run L S F (d + 1) 48 38 [some (vR (1, j, 0)), none, some (vI x_2), some (vI x_3), some (vI (x_4 + 1)), none, none] p9.2
            else none
      else
        (run L S F d 4 0 [some (vR (1, j, 2)), some (vI (x_3 + ((x_4 / 2) + 1)))] μ).bind fun p2 =>
        if p2.1 = 0 then
          run L S F (d + 1) 48 38 [some (vR (1, j, 0)), none, some (vI x_2), some (vI x_3), some (vI (x_4 + 1)), none, none] p2.2
        else
          if x_2 = 0 then
            (run L S F d 32 0 [some (vR (1, j, 21)), some (vI (x_3 + ((x_4 / 2) + 1))), none] p2.2).bind fun p3 =>
            run L S F (d + 1) 48 38 [some (vR (1, j, 0)), none, some (vI x_2), some (vI x_3), some (vI (x_4 + 1)), none, none] p3.2
          else
            bif inb (x_3 + ((x_4 / 2) + 1)) 16 then
              let x4 : Int32 := p2.2 (1, j, 4) (Int32.toNatClampNeg (x_3 + ((x_4 / 2) + 1)))
              (run L S F d 32 0 [some (vR (1, j, 21)), some (vI x4), none] p2.2).bind fun p5 =>
              run L S F (d + 1) 48 38 [some (vR (1, j, 0)), none, some (vI x_2), some (vI x_3), some (vI (x_4 + 1)), none, none] p5.2
            else none
    else
      some (0, μ) := by
  unfold run
  rw [DF_succ]
  rfl
set_option maxHeartbeats 4000000 in
set_option maxRecDepth 100000 in
theorem e49_0 {L : Nat} {S : Ad → Nat → Int32} {F d : Nat} {μ : Mm} {i : Fin 15} : run L S (F + 1) (d + 1) 49 0 [some (vR (0, 0, 1)), some (vR (1, i, 0))] μ =
    (run L S F d 35 0 [some (vR (1, 1, 0)), some (vR (1, i, 0))] μ).bind fun p1 =>
    let μ2 : Mm := mset p1.2 (1, 1, 18) 0 0
    some (0, μ2) := by
  unfold run
  rw [DF_succ]
  rfl
set_option maxHeartbeats 4000000 in
set_option maxRecDepth 100000 in
theorem e50_0 {L : Nat} {S : Ad → Nat → Int32} {F d : Nat} {μ : Mm} {i : Fin 15} : run L S (F + 1) (d + 1) 50 0 [some (vR (0, 0, 1)), some (vR (1, i, 0))] μ =
    (run L S F d 35 0 [some (vR (1, 2, 0)), some (vR (1, i, 0))] μ).bind fun p1 =>
    (run L S F d 12 0 [some (vR (1, 2, 2)), none, none] p1.2).bind fun p2 =>
    bif inb p2.1 16 then
      let x3 : Int32 := p2.2 (1, 2, 5) (Int32.toNatClampNeg p2.1)
      let μ4 : Mm := mset p2.2 (1, 2, 2) 3 x3
      let μ5 : Mm := mset μ4 (1, 2, 24) 2 0
      let μ6 : Mm := mset μ5 (0, 0, 1) 4 0
      some (0, μ6)
    else none := by
  unfold run
  rw [DF_succ]
  rfl
set_option maxHeartbeats 4000000 in
set_option maxRecDepth 100000 in
theorem e51_0 {L : Nat} {S : Ad → Nat → Int32} {F d : Nat} {μ : Mm} {a1 : Int32} : run L S (F + 1) (d + 1) 51 0 [some (vR (0, 0, 1)), some (vI a1), none] μ =
    (run L S F d 50 0 [some (vR (0, 0, 1)), some (vR (1, 1, 0))] μ).bind fun p1 =>
    run L S F (d + 1) 51 10 [some (vR (0, 0, 1)), some (vI a1), some (vI 0)] p1.2 := by
  unfold run
  rw [DF_succ]
  rfl
set_option maxHeartbeats 4000000 in
set_option maxRecDepth 100000 in
theorem e51_10 {L : Nat} {S : Ad → Nat → Int32} {F d : Nat} {μ : Mm} {a1 : Int32} {x_2 : Int32} : run L S (F + 1) (d + 1) 51 10 [some (vR (0, 0, 1)), some (vI a1), some (vI x_2)] μ =
    if x_2 < a1 then
      if x_2 < 99 then
        bif inb x_2 99 then
          let x1 : Int32 := μ (0, 0, 2) (Int32.toNatClampNeg x_2)
          (run L S F d 27 0 [some (vR (1, 2, 18)), some (vI x1), some (vI (μ (1, 2, 0) 5))] μ).bind fun p2 =>
          run L S F (d + 1) 51 10 [some (vR (0, 0, 1)), some (vI a1), some (vI (x_2 + 1))] p2.2
        else none
      else
        run L S F (d + 1) 51 50 [some (vR (0, 0, 1)), none, none] μ
    else
      run L S F (d + 1) 51 50 [some (vR (0, 0, 1)), none, none] μ := by
  unfold run
  rw [DF_succ]
  rfl
