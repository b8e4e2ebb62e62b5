/-! equations of the methods, out of their code -/
set_option maxHeartbeats 4000000 in
set_option maxRecDepth 100000 in
theorem e219_118 {L : Nat} {S : Ad → Nat → Int32} {F d : Nat} {μ : Mm} {a1 : Int32} {x_3 : Int32} {x_4 : Int32} {x_5 : Int32} : run L S (F + 1) (d + 1) 219 118 [some (vR (2, 0, 0)), some (vI a1), none, some (vI x_3), some (vI x_4), some (vI x_5), none] μ =
    let x1 : Int32 := μ (2, 0, 1) 5
    if x1 = 0 then
      let x4 : Int32 := μ (2, 0, 1) 16
      (run L S F d 202 0 [some (vR (2, 0, 0))] μ).bind fun p5 =>
      if a1 = 0 then
        some (x_4, p5.2)
      else
        if a1 = 1 then
          some ((x4 - x_3), p5.2)
        else
          some (x_5, p5.2)
    else
      let x2 : Int32 := μ (2, 0, 1) 16
      (run L S F d 202 0 [some (vR (2, 0, 0))] μ).bind fun p3 =>
      if a1 = 0 then
        some ((-1), p3.2)
      else
        if a1 = 1 then
          some ((x2 - x_3), p3.2)
        else
          some (x_5, p3.2) := by
  unfold run
  rw [DF_succ]
  rfl
set_option maxHeartbeats 4000000 in
set_option maxRecDepth 100000 in
theorem e220_0 {L : Nat} {S : Ad → Nat → Int32} {F d : Nat} {μ : Mm} {a1 : Int32} {a2 : Int32} {a3 : Int32} : run L S (F + 1) (d + 1) 220 0 [some (vR (2, 0, 0)), some (vI a1), some (vI a2), some (vI a3)] μ =
    let μ1 : Mm := mset μ (2, 0, 0) 0 0
    (run L S F d 127 0 [some (vL ((a1 : Int32).toInt64)), none, some (vL ((0 : Int32).toInt64)), none, some (vL ((7874 : Int32).toInt64)), none] μ1).bind fun p2 =>
    if p2.1 = 0 then
      some ((-3), p2.2)
    else
      (run L S F d 127 0 [some (vL ((a2 : Int32).toInt64)), none, some (vL ((1 : Int32).toInt64)), none, some (vL ((48 : Int32).toInt64)), none] p2.2).bind fun p3 =>
      if p3.1 = 0 then
        some ((-3), p3.2)
      else
        (run L S F d 127 0 [some (vL ((a3 : Int32).toInt64)), none, some (vL ((0 : Int32).toInt64)), none, some (vL ((2 : Int32).toInt64)), none] p3.2).bind fun p4 =>
        if p4.1 = 0 then
          some ((-2), p4.2)
        else
          (run L S F d 221 0 [some (vR (2, 0, 0)), some (vI a1), some (vI a2), none] p4.2).bind fun p5 =>
          if a3 = 0 then
            let x8 : Int32 := p5.2 (2, 0, 0) 9
            some (x8, p5.2)
          else
            if a3 = 1 then
              let x7 : Int32 := p5.2 (2, 0, 0) 25
              some (x7, p5.2)
            else
              let x6 : Int32 := p5.2 (2, 0, 0) 26
              some (x6, p5.2) := by
  unfold run
  rw [DF_succ]
  rfl
set_option maxHeartbeats 4000000 in
set_option maxRecDepth 100000 in
theorem e221_0 {L : Nat} {S : Ad → Nat → Int32} {F d : Nat} {μ : Mm} {a1 : Int32} {a2 : Int32} : run L S (F + 1) (d + 1) 221 0 [some (vR (2, 0, 0)), some (vI a1), some (vI a2), none] μ =
    (run L S F d 201 0 [some (vR (2, 0, 0)), none] μ).bind fun p1 =>
    let μ2 : Mm := mset p1.2 (2, 0, 1) 2 a1
    run L S F (d + 1) 221 13 [some (vR (2, 0, 0)), none, some (vI a2), some (vI 0)] μ2 := by
  unfold run
  rw [DF_succ]
  rfl
set_option maxHeartbeats 4000000 in
set_option maxRecDepth 100000 in
theorem e221_13 {L : Nat} {S : Ad → Nat → Int32} {F d : Nat} {μ : Mm} {a2 : Int32} {x_3 : Int32} : run L S (F + 1) (d + 1) 221 13 [some (vR (2, 0, 0)), none, some (vI a2), some (vI x_3)] μ =
    if x_3 < a2 then
      let x14 : Int32 := μ (2, 0, 1) 0
      (run L S F d 133 0 [some (vR (2, 0, 0)), some (vI x14), none] μ).bind fun p15 =>
      (run L S F d 165 0 [some (vR (2, 0, 0)), some (vI p15.1)] p15.2).bind fun p16 =>
      run L S F (d + 1) 221 13 [some (vR (2, 0, 0)), none, some (vI a2), some (vI (x_3 + 1))] p16.2
    else
      let x1 : Int32 := μ (2, 0, 1) 17
      let μ2 : Mm := mset μ (2, 0, 0) 26 (-x1)
      let x3 : Int32 := μ2 (2, 0, 1) 16
      let μ4 : Mm := mset μ2 (2, 0, 0) 27 (-x3)
      (run L S F d 203 0 [some (vR (2, 0, 0)), none] μ4).bind fun p5 =>
      let μ6 : Mm := mset p5.2 (2, 0, 0) 25 p5.1
      let x7 : Int32 := μ6 (2, 0, 0) 26
      let x8 : Int32 := μ6 (2, 0, 1) 17
      let μ9 : Mm := mset μ6 (2, 0, 0) 26 (x7 + x8)
      let x10 : Int32 := μ9 (2, 0, 0) 27
      let x11 : Int32 := μ9 (2, 0, 1) 16
      let μ12 : Mm := mset μ9 (2, 0, 0) 27 (x10 + x11)
      (run L S F d 202 0 [some (vR (2, 0, 0))] μ12).bind fun p13 =>
      some (0, p13.2) := by
  unfold run
  rw [DF_succ]
  rfl
set_option maxHeartbeats 4000000 in
set_option maxRecDepth 100000 in
theorem e222_0 {L : Nat} {S : Ad → Nat → Int32} {F d : Nat} {μ : Mm} {a1 : Int32} {a2 : Int32} : run L S (F + 1) (d + 1) 222 0 [some (vR (2, 0, 0)), some (vI a1), some (vI a2), none, none, none, none] μ =
    let μ1 : Mm := mset μ (2, 0, 0) 0 0
    (run L S F d 127 0 [some (vL ((a1 : Int32).toInt64)), none, some (vL ((0 : Int32).toInt64)), none, some (vL ((7874 : Int32).toInt64)), none] μ1).bind fun p2 =>
    if p2.1 = 0 then
      some ((-3), p2.2)
    else
      (run L S F d 127 0 [some (vL ((a2 : Int32).toInt64)), none, some (vL ((1 : Int32).toInt64)), none, some (vL ((48 : Int32).toInt64)), none] p2.2).bind fun p3 =>
      if p3.1 = 0 then
        some ((-3), p3.2)
      else
        run L S F (d + 1) 222 43 [some (vR (2, 0, 0)), some (vI a1), some (vI a2), some (vI (-1)), some (vI 0), some (vI 0), some (vI 0)] p3.2 := by
  unfold run
  rw [DF_succ]
  rfl
set_option maxHeartbeats 4000000 in
set_option maxRecDepth 100000 in
theorem e222_43 {L : Nat} {S : Ad → Nat → Int32} {F d : Nat} {μ : Mm} {a1 : Int32} {a2 : Int32} {x_3 : Int32} {x_4 : Int32} {x_5 : Int32} {x_6 : Int32} : run L S (F + 1) (d + 1) 222 43 [some (vR (2, 0, 0)), some (vI a1), some (vI a2), some (vI x_3), some (vI x_4), some (vI x_5), some (vI x_6)] μ =
    if 5 < x_6 then
      some (x_3, μ)
    else
      (run L S F d 212 0 [some (vR (2, 0, 0)), some (vI 29), some (vI x_6)] μ).bind fun p1 =>
      (run L S F d 221 0 [some (vR (2, 0, 0)), some (vI a1), some (vI a2), none] p1.2).bind fun p2 =>
      (run L S F d 213 0 [some (vR (2, 0, 0))] p2.2).bind fun p3 =>
      if x_3 = (-1) then
        let x4 : Int32 := p3.2 (2, 0, 0) 27
        let x5 : Int32 := p3.2 (2, 0, 0) 25
        run L S F (d + 1) 222 43 [some (vR (2, 0, 0)), some (vI a1), some (vI a2), some (vI x_6), some (vI x4), some (vI x5), some (vI (x_6 + 1))] p3.2
      else
        let x6 : Int32 := p3.2 (2, 0, 0) 27
        if x_4 < x6 then
          run L S F (d + 1) 222 43 [some (vR (2, 0, 0)), some (vI a1), some (vI a2), some (vI x_3), some (vI x_4), some (vI x_5), some (vI (x_6 + 1))] p3.2
        else
          let x7 : Int32 := p3.2 (2, 0, 0) 27
          if x7 = x_4 then
            let x10 : Int32 := p3.2 (2, 0, 0) 25
            if x10 < x_5 then
              let x11 : Int32 := p3.2 (2, 0, 0) 27
              let x12 : Int32 := p3.2 (2, 0, 0) 25
              run L S F (d + 1) 222 43 [some (vR (2, 0, 0)), some (vI a1), some (vI a2), some (vI x_6), some (vI x11), some (vI x12), some (vI (x_6 + 1))] p3.2
            else
              run L S F (d + 1) 222 43 [some (vR (2, 0, 0)), some (vI a1), some (vI a2), some (vI x_3), some (vI x_4), some (vI x_5), some (vI (x_6 + 1))] p3.2
          else
            let x8 : Int32 := p3.2 (2, 0, 0) 27
            let x9 : Int32 := p3.2 (2, 0, 0) 25
            run L S F (d + 1) 222 43 [some (vR (2, 0, 0)), some (vI a1), some (vI a2), some (vI x_6), some (vI x8), some (vI x9), some (vI (x_6 + 1))] p3.2 := by
  unfold run
  rw [DF_succ]
  rfl
set_option maxHeartbeats 4000000 in
set_option maxRecDepth 100000 in
theorem e223_0 {L : Nat} {S : Ad → Nat → Int32} {F d : Nat} {μ : Mm} {a1 : Int32} : run L S (F + 1) (d + 1) 223 0 [some (vR (2, 0, 0)), some (vI a1)] μ =
    let μ1 : Mm := mset μ (2, 0, 0) 0 0
    (run L S F d 127 0 [some (vL ((a1 : Int32).toInt64)), none, some (vL ((1 : Int32).toInt64)), none, some (vL ((10 : Int32).toInt64)), none] μ1).bind fun p2 =>
    if p2.1 = 0 then
      some ((-3), p2.2)
    else
      let x3 : Int32 := p2.2 (2, 0, 0) 4
      if x3 < a1 then
        some ((-3), p2.2)
      else
        let x4 : Int32 := p2.2 (2, 0, 0) 4
        let μ5 : Mm := mset p2.2 (2, 0, 0) 4 (x4 - a1)
        let x6 : Int32 := μ5 (2, 0, 0) 4
        (run L S F d 129 0 [some (vR (2, 0, 2)), some (vI (426 * x6)), some (vR (2, 0, 1)), some (vI 0), none] μ5).bind fun p7 =>
        let x8 : Int32 := p7.2 (2, 0, 0) 4
        some (x8, p7.2) := by
  unfold run
  rw [DF_succ]
  rfl
set_option maxHeartbeats 4000000 in
set_option maxRecDepth 100000 in
theorem e224_0 {L : Nat} {S : Ad → Nat → Int32} {F d : Nat} {μ : Mm} {a1 : Int32} : run L S (F + 1) (d + 1) 224 0 [some (vR (2, 0, 0)), some (vI a1)] μ =
    let μ1 : Mm := mset μ (2, 0, 0) 0 0
    (run L S F d 127 0 [some (vL ((a1 : Int32).toInt64)), none, some (vL ((0 : Int32).toInt64)), none, some (vL ((1 : Int32).toInt64)), none] μ1).bind fun p2 =>
    if p2.1 = 0 then
      some ((-2), p2.2)
    else
      (run L S F d 129 0 [some (vR (2, 0, 1)), some (vI 0), some (vR (2, 0, 1)), some (vI (426 * (a1 + 1))), none] p2.2).bind fun p3 =>
      bif inb a1 2 then
        let μ4 : Mm := mset p3.2 (2, 0, 4) (Int32.toNatClampNeg a1) (vp_nar .boolean 1)
        some (0, μ4)
      else none := by
  unfold run
  rw [DF_succ]
  rfl
set_option maxHeartbeats 4000000 in
set_option maxRecDepth 100000 in
theorem e225_0 {L : Nat} {S : Ad → Nat → Int32} {F d : Nat} {μ : Mm} {a1 : Int32} : run L S (F + 1) (d + 1) 225 0 [some (vR (2, 0, 0)), some (vI a1)] μ =
    let μ1 : Mm := mset μ (2, 0, 0) 0 0
    (run L S F d 127 0 [some (vL ((a1 : Int32).toInt64)), none, some (vL ((0 : Int32).toInt64)), none, some (vL ((1 : Int32).toInt64)), none] μ1).bind fun p2 =>
    if p2.1 = 0 then
      some ((-2), p2.2)
    else
      bif inb a1 2 then
        let x3 : Int32 := p2.2 (2, 0, 4) (Int32.toNatClampNeg a1)
        if x3 = 0 then
          some ((-6), p2.2)
        else
          (run L S F d 129 0 [some (vR (2, 0, 1)), some (vI (426 * (a1 + 1))), some (vR (2, 0, 1)), some (vI 0), none] p2.2).bind fun p4 =>
          let μ5 : Mm := mset p4.2 (2, 0, 0) 4 0
          some (0, μ5)
      else none := by
  unfold run
  rw [DF_succ]
  rfl
set_option maxHeartbeats 4000000 in
set_option maxRecDepth 100000 in
theorem e226_0 {L : Nat} {S : Ad → Nat → Int32} {F d : Nat} {μ : Mm} {a1 : Int32} : run L S (F + 1) (d + 1) 226 0 [some (vR (2, 0, 0)), some (vI a1)] μ =
    let μ1 : Mm := mset μ (2, 0, 0) 0 0
    (run L S F d 127 0 [some (vL ((a1 : Int32).toInt64)), none, some (vL ((10 : Int32).toInt64)), none, some (vL ((26 : Int32).toInt64)), none] μ1).bind fun p2 =>
    if p2.1 = 0 then
      if a1 = 0 then
        let x3 : Int32 := p2.2 (2, 0, 1) 0
        some (x3, p2.2)
      else if a1 = 1 then
        let x4 : Int32 := p2.2 (2, 0, 1) 1
        some (x4, p2.2)
      else if a1 = 2 then
        let x5 : Int32 := p2.2 (2, 0, 1) 5
        some (x5, p2.2)
      else if a1 = 3 then
        let x6 : Int32 := p2.2 (2, 0, 1) 4
        some (x6, p2.2)
      else if a1 = 4 then
        let x7 : Int32 := p2.2 (2, 0, 1) 6
        some (x7, p2.2)
      else if a1 = 5 then
        let x8 : Int32 := p2.2 (2, 0, 1) 8
        some (x8, p2.2)
      else if a1 = 6 then
        let x9 : Int32 := p2.2 (2, 0, 1) 10
        some (x9, p2.2)
      else if a1 = 7 then
        let x10 : Int32 := p2.2 (2, 0, 0) 4
        some (x10, p2.2)
      else if a1 = 8 then
        let x11 : Int32 := p2.2 (2, 0, 1) 12
        some (x11, p2.2)
      else if a1 = 9 then
        let x12 : Int32 := p2.2 (2, 0, 0) 12
        some (x12, p2.2)
      else if a1 = 10 then
        some ((-1), p2.2)
      else if a1 = 11 then
        some ((-1), p2.2)
      else if a1 = 12 then
        some ((-1), p2.2)
      else if a1 = 13 then
        some ((-1), p2.2)
      else if a1 = 14 then
        some ((-1), p2.2)
      else if a1 = 15 then
        some ((-1), p2.2)
      else if a1 = 16 then
        some ((-1), p2.2)
      else if a1 = 17 then
        some ((-1), p2.2)
      else if a1 = 18 then
        some ((-1), p2.2)
      else if a1 = 19 then
        some ((-1), p2.2)
      else if a1 = 20 then
        some ((-1), p2.2)
      else if a1 = 21 then
        some ((-1), p2.2)
      else if a1 = 22 then
        some ((-1), p2.2)
      else if a1 = 23 then
        some ((-1), p2.2)
      else if a1 = 24 then
        some ((-1), p2.2)
      else if a1 = 25 then
        some ((-1), p2.2)
      else if a1 = 26 then
        some ((-1), p2.2)
      else if a1 = 27 then
        let x13 : Int32 := p2.2 (2, 0, 1) 26
        some (x13, p2.2)
      else some ((-1), p2.2)
    else
      bif inb ((27 + a1) - 10) 1278 then
        let x14 : Int32 := p2.2 (2, 0, 1) (Int32.toNatClampNeg ((27 + a1) - 10))
        some (x14, p2.2)
      else none := by
  unfold run
  rw [DF_succ]
  rfl
set_option maxHeartbeats 4000000 in
set_option maxRecDepth 100000 in
theorem e227_18 {L : Nat} {S : Ad → Nat → Int32} {F d : Nat} {μ : Mm} {x_3 : Int32} : run L S (F + 1) (d + 1) 227 18 [some (vR (3, 0, 0)), some (vR (0, 0, 0)), some (vR (2, 0, 0)), some (vI x_3)] μ =
    if ((Int32.ofNat L) - 6) < x_3 then
      some (vp_nar .boolean 1, μ)
    else
      bif inb x_3 L then
        let x1 : Int32 := S (3, 0, 0) (Int32.toNatClampNeg x_3)
        if (x1 &&& 63) = 0 then
          run L S F (d + 1) 227 224 [some (vR (3, 0, 0)), some (vR (0, 0, 0)), some (vR (2, 0, 0)), some (vI x_3)] μ
        else if (x1 &&& 63) = 1 then
          run L S F (d + 1) 227 247 [some (vR (3, 0, 0)), some (vR (0, 0, 0)), some (vR (2, 0, 0)), some (vI x_3)] μ
        else if (x1 &&& 63) = 2 then
          run L S F (d + 1) 227 280 [some (vR (3, 0, 0)), some (vR (0, 0, 0)), some (vR (2, 0, 0)), some (vI x_3)] μ
        else if (x1 &&& 63) = 3 then
          run L S F (d + 1) 227 313 [some (vR (3, 0, 0)), some (vR (0, 0, 0)), some (vR (2, 0, 0)), some (vI x_3)] μ
        else if (x1 &&& 63) = 4 then
          run L S F (d + 1) 227 346 [some (vR (3, 0, 0)), some (vR (0, 0, 0)), some (vR (2, 0, 0)), some (vI x_3)] μ
        else if (x1 &&& 63) = 5 then
          run L S F (d + 1) 227 379 [some (vR (3, 0, 0)), some (vR (0, 0, 0)), some (vR (2, 0, 0)), some (vI x_3)] μ
        else if (x1 &&& 63) = 6 then
          run L S F (d + 1) 227 442 [some (vR (3, 0, 0)), some (vR (0, 0, 0)), some (vR (2, 0, 0)), some (vI x_3)] μ
        else if (x1 &&& 63) = 7 then
          run L S F (d + 1) 227 465 [some (vR (3, 0, 0)), some (vR (0, 0, 0)), some (vR (2, 0, 0)), some (vI x_3)] μ
        else if (x1 &&& 63) = 8 then
          run L S F (d + 1) 227 488 [some (vR (3, 0, 0)), some (vR (0, 0, 0)), some (vR (2, 0, 0)), some (vI x_3)] μ
        else if (x1 &&& 63) = 9 then
          run L S F (d + 1) 227 521 [some (vR (3, 0, 0)), some (vR (0, 0, 0)), some (vR (2, 0, 0)), some (vI x_3)] μ
        else if (x1 &&& 63) = 10 then
          run L S F (d + 1) 227 564 [some (vR (3, 0, 0)), some (vR (0, 0, 0)), some (vR (2, 0, 0)), some (vI x_3)] μ
        else if (x1 &&& 63) = 11 then
          run L S F (d + 1) 227 577 [some (vR (3, 0, 0)), some (vR (0, 0, 0)), some (vR (2, 0, 0)), some (vI x_3)] μ
        else if (x1 &&& 63) = 12 then
          run L S F (d + 1) 227 600 [some (vR (3, 0, 0)), some (vR (0, 0, 0)), some (vR (2, 0, 0)), some (vI x_3)] μ
        else if (x1 &&& 63) = 13 then
          run L S F (d + 1) 227 623 [some (vR (3, 0, 0)), some (vR (0, 0, 0)), some (vR (2, 0, 0)), some (vI x_3)] μ
        else if (x1 &&& 63) = 14 then
          run L S F (d + 1) 227 656 [some (vR (3, 0, 0)), some (vR (0, 0, 0)), some (vR (2, 0, 0)), some (vI x_3)] μ
        else if (x1 &&& 63) = 15 then
          run L S F (d + 1) 227 679 [some (vR (3, 0, 0)), some (vR (0, 0, 0)), some (vR (2, 0, 0)), some (vI x_3)] μ
        else if (x1 &&& 63) = 16 then
          run L S F (d + 1) 227 712 [some (vR (3, 0, 0)), some (vR (0, 0, 0)), some (vR (2, 0, 0)), some (vI x_3)] μ
        else if (x1 &&& 63) = 17 then
          run L S F (d + 1) 227 745 [some (vR (3, 0, 0)), some (vR (0, 0, 0)), some (vR (2, 0, 0)), some (vI x_3)] μ
        else if (x1 &&& 63) = 18 then
          run L S F (d + 1) 227 758 [some (vR (3, 0, 0)), some (vR (0, 0, 0)), some (vR (2, 0, 0)), some (vI x_3)] μ
        else if (x1 &&& 63) = 19 then
          run L S F (d + 1) 227 781 [some (vR (3, 0, 0)), some (vR (0, 0, 0)), some (vR (2, 0, 0)), some (vI x_3)] μ
        else if (x1 &&& 63) = 20 then
          run L S F (d + 1) 227 804 [some (vR (3, 0, 0)), some (vR (0, 0, 0)), some (vR (2, 0, 0)), some (vI x_3)] μ
        else if (x1 &&& 63) = 21 then
          run L S F (d + 1) 227 827 [some (vR (3, 0, 0)), some (vR (0, 0, 0)), some (vR (2, 0, 0)), some (vI x_3)] μ
        else if (x1 &&& 63) = 22 then
          run L S F (d + 1) 227 840 [some (vR (3, 0, 0)), some (vR (0, 0, 0)), some (vR (2, 0, 0)), some (vI x_3)] μ
        else if (x1 &&& 63) = 23 then
          run L S F (d + 1) 227 863 [some (vR (3, 0, 0)), some (vR (0, 0, 0)), some (vR (2, 0, 0)), some (vI x_3)] μ
        else if (x1 &&& 63) = 24 then
          run L S F (d + 1) 227 886 [some (vR (3, 0, 0)), some (vR (0, 0, 0)), some (vR (2, 0, 0)), some (vI x_3)] μ
        else if (x1 &&& 63) = 25 then
          run L S F (d + 1) 227 909 [some (vR (3, 0, 0)), some (vR (0, 0, 0)), some (vR (2, 0, 0)), some (vI x_3)] μ
        else if (x1 &&& 63) = 26 then
          run L S F (d + 1) 227 922 [some (vR (3, 0, 0)), some (vR (0, 0, 0)), some (vR (2, 0, 0)), some (vI x_3)] μ
        else if (x1 &&& 63) = 27 then
          run L S F (d + 1) 227 935 [some (vR (3, 0, 0)), some (vR (0, 0, 0)), some (vR (2, 0, 0)), some (vI x_3)] μ
        else if (x1 &&& 63) = 28 then
          run L S F (d + 1) 227 978 [some (vR (3, 0, 0)), some (vR (0, 0, 0)), some (vR (2, 0, 0)), some (vI x_3)] μ
        else if (x1 &&& 63) = 29 then
          run L S F (d + 1) 227 1011 [some (vR (3, 0, 0)), some (vR (0, 0, 0)), some (vR (2, 0, 0)), some (vI x_3)] μ
        else if (x1 &&& 63) = 30 then
          run L S F (d + 1) 227 1034 [some (vR (3, 0, 0)), some (vR (0, 0, 0)), some (vR (2, 0, 0)), some (vI x_3)] μ
        else if (x1 &&& 63) = 31 then
          run L S F (d + 1) 227 1067 [some (vR (3, 0, 0)), some (vR (0, 0, 0)), some (vR (2, 0, 0)), some (vI x_3)] μ
        else if (x1 &&& 63) = 32 then
          run L S F (d + 1) 227 1080 [some (vR (3, 0, 0)), some (vR (0, 0, 0)), some (vR (2, 0, 0)), some (vI x_3)] μ
        else if (x1 &&& 63) = 33 then
          run L S F (d + 1) 227 1103 [some (vR (3, 0, 0)), some (vR (0, 0, 0)), some (vR (2, 0, 0)), some (vI x_3)] μ
        else if (x1 &&& 63) = 34 then
          run L S F (d + 1) 227 1136 [some (vR (3, 0, 0)), some (vR (0, 0, 0)), some (vR (2, 0, 0)), some (vI x_3)] μ
        else if (x1 &&& 63) = 35 then
          run L S F (d + 1) 227 1159 [some (vR (3, 0, 0)), some (vR (0, 0, 0)), some (vR (2, 0, 0)), some (vI x_3)] μ
        else if (x1 &&& 63) = 36 then
          run L S F (d + 1) 227 1192 [some (vR (3, 0, 0)), some (vR (0, 0, 0)), some (vR (2, 0, 0)), some (vI x_3)] μ
        else if (x1 &&& 63) = 37 then
          run L S F (d + 1) 227 1215 [some (vR (3, 0, 0)), some (vR (0, 0, 0)), some (vR (2, 0, 0)), some (vI x_3)] μ
        else if (x1 &&& 63) = 38 then
          run L S F (d + 1) 227 1238 [some (vR (3, 0, 0)), some (vR (0, 0, 0)), some (vR (2, 0, 0)), some (vI x_3)] μ
        else if (x1 &&& 63) = 39 then
          run L S F (d + 1) 227 1261 [some (vR (3, 0, 0)), some (vR (0, 0, 0)), some (vR (2, 0, 0)), some (vI x_3)] μ
        else if (x1 &&& 63) = 40 then
          run L S F (d + 1) 227 1304 [some (vR (3, 0, 0)), some (vR (0, 0, 0)), some (vR (2, 0, 0)), some (vI x_3)] μ
        else if (x1 &&& 63) = 41 then
          run L S F (d + 1) 227 1327 [some (vR (3, 0, 0)), some (vR (0, 0, 0)), some (vR (2, 0, 0)), some (vI x_3)] μ
        else if (x1 &&& 63) = 42 then
          run L S F (d + 1) 227 1350 [some (vR (3, 0, 0)), some (vR (0, 0, 0)), some (vR (2, 0, 0)), some (vI x_3)] μ
        else if (x1 &&& 63) = 43 then
          run L S F (d + 1) 227 1373 [some (vR (3, 0, 0)), some (vR (0, 0, 0)), some (vR (2, 0, 0)), some (vI x_3)] μ
        else run L S F (d + 1) 227 1396 [some (vR (3, 0, 0)), some (vR (0, 0, 0)), some (vR (2, 0, 0)), some (vI x_3)] μ
      else none := by
  unfold run
  rw [DF_succ]
  rfl
set_option maxHeartbeats 4000000 in
set_option maxRecDepth 100000 in
theorem e227_224 {L : Nat} {S : Ad → Nat → Int32} {F d : Nat} {μ : Mm} {x_3 : Int32} : run L S (F + 1) (d + 1) 227 224 [some (vR (3, 0, 0)), some (vR (0, 0, 0)), some (vR (2, 0, 0)), some (vI x_3)] μ =
    bif inb (x_3 + 1) L then
      let x1 : Int32 := S (3, 0, 0) (Int32.toNatClampNeg (x_3 + 1))
      (run L S F d 81 0 [some (vR (0, 0, 0)), some (vI x1)] μ).bind fun p2 =>
      bif inb (x_3 + 1) L then
        let x3 : Int32 := S (3, 0, 0) (Int32.toNatClampNeg (x_3 + 1))
        (run L S F d 162 0 [some (vR (2, 0, 0)), some (vI x3)] p2.2).bind fun p4 =>
        if p2.1 = p4.1 then
          run L S F (d + 1) 227 1396 [some (vR (3, 0, 0)), some (vR (0, 0, 0)), some (vR (2, 0, 0)), some (vI x_3)] p4.2
        else
          some (vp_nar .boolean 0, p4.2)
      else none
    else none := by
  unfold run
  rw [DF_succ]
  rfl
set_option maxHeartbeats 4000000 in
set_option maxRecDepth 100000 in
theorem e227_247 {L : Nat} {S : Ad → Nat → Int32} {F d : Nat} {μ : Mm} {x_3 : Int32} : run L S (F + 1) (d + 1) 227 247 [some (vR (3, 0, 0)), some (vR (0, 0, 0)), some (vR (2, 0, 0)), some (vI x_3)] μ =
    bif inb (x_3 + 1) L then
      let x1 : Int32 := S (3, 0, 0) (Int32.toNatClampNeg (x_3 + 1))
      bif inb (x_3 + 2) L then
        let x2 : Int32 := S (3, 0, 0) (Int32.toNatClampNeg (x_3 + 2))
        (run L S F d 82 0 [some (vR (0, 0, 0)), some (vI x1), some (vI x2), none] μ).bind fun p3 =>
        bif inb (x_3 + 1) L then
          let x4 : Int32 := S (3, 0, 0) (Int32.toNatClampNeg (x_3 + 1))
          bif inb (x_3 + 2) L then
            let x5 : Int32 := S (3, 0, 0) (Int32.toNatClampNeg (x_3 + 2))
            (run L S F d 163 0 [some (vR (2, 0, 0)), some (vI x4), some (vI x5), none] p3.2).bind fun p6 =>
            if p3.1 = p6.1 then
              run L S F (d + 1) 227 1396 [some (vR (3, 0, 0)), some (vR (0, 0, 0)), some (vR (2, 0, 0)), some (vI x_3)] p6.2
            else
              some (vp_nar .boolean 0, p6.2)
          else none
        else none
      else none
    else none := by
  unfold run
  rw [DF_succ]
  rfl
set_option maxHeartbeats 4000000 in
set_option maxRecDepth 100000 in
theorem e227_280 {L : Nat} {S : Ad → Nat → Int32} {F d : Nat} {μ : Mm} {x_3 : Int32} : run L S (F + 1) (d + 1) 227 280 [some (vR (3, 0, 0)), some (vR (0, 0, 0)), some (vR (2, 0, 0)), some (vI x_3)] μ =
    bif inb (x_3 + 1) L then
      let x1 : Int32 := S (3, 0, 0) (Int32.toNatClampNeg (x_3 + 1))
      bif inb (x_3 + 2) L then
        let x2 : Int32 := S (3, 0, 0) (Int32.toNatClampNeg (x_3 + 2))
        (run L S F d 83 0 [some (vR (0, 0, 0)), some (vI x1), some (vI x2)] μ).bind fun p3 =>
        bif inb (x_3 + 1) L then
          let x4 : Int32 := S (3, 0, 0) (Int32.toNatClampNeg (x_3 + 1))
          bif inb (x_3 + 2) L then
            let x5 : Int32 := S (3, 0, 0) (Int32.toNatClampNeg (x_3 + 2))
            (run L S F d 164 0 [some (vR (2, 0, 0)), some (vI x4), some (vI x5), none, none] p3.2).bind fun p6 =>
            if p3.1 = p6.1 then
              run L S F (d + 1) 227 1396 [some (vR (3, 0, 0)), some (vR (0, 0, 0)), some (vR (2, 0, 0)), some (vI x_3)] p6.2
            else
              some (vp_nar .boolean 0, p6.2)
          else none
        else none
      else none
    else none := by
  unfold run
  rw [DF_succ]
  rfl
set_option maxHeartbeats 4000000 in
set_option maxRecDepth 100000 in
theorem e227_313 {L : Nat} {S : Ad → Nat → Int32} {F d : Nat} {μ : Mm} {x_3 : Int32} : run L S (F + 1) (d + 1) 227 313 [some (vR (3, 0, 0)), some (vR (0, 0, 0)), some (vR (2, 0, 0)), some (vI x_3)] μ =
    bif inb (x_3 + 1) L then
      let x1 : Int32 := S (3, 0, 0) (Int32.toNatClampNeg (x_3 + 1))
      bif inb (x_3 + 2) L then
        let x2 : Int32 := S (3, 0, 0) (Int32.toNatClampNeg (x_3 + 2))
        (run L S F d 84 0 [some (vR (0, 0, 0)), some (vI x1), some (vI x2)] μ).bind fun p3 =>
        bif inb (x_3 + 1) L then
          let x4 : Int32 := S (3, 0, 0) (Int32.toNatClampNeg (x_3 + 1))
          bif inb (x_3 + 2) L then
            let x5 : Int32 := S (3, 0, 0) (Int32.toNatClampNeg (x_3 + 2))
            (run L S F d 169 0 [some (vR (2, 0, 0)), some (vI x4), some (vI x5), none] p3.2).bind fun p6 =>
            if p3.1 = p6.1 then
              run L S F (d + 1) 227 1396 [some (vR (3, 0, 0)), some (vR (0, 0, 0)), some (vR (2, 0, 0)), some (vI x_3)] p6.2
            else
              some (vp_nar .boolean 0, p6.2)
          else none
        else none
      else none
    else none := by
  unfold run
  rw [DF_succ]
  rfl
set_option maxHeartbeats 4000000 in
set_option maxRecDepth 100000 in
theorem e227_346 {L : Nat} {S : Ad → Nat → Int32} {F d : Nat} {μ : Mm} {x_3 : Int32} : run L S (F + 1) (d + 1) 227 346 [some (vR (3, 0, 0)), some (vR (0, 0, 0)), some (vR (2, 0, 0)), some (vI x_3)] μ =
    bif inb (x_3 + 1) L then
      let x1 : Int32 := S (3, 0, 0) (Int32.toNatClampNeg (x_3 + 1))
      bif inb (x_3 + 2) L then
        let x2 : Int32 := S (3, 0, 0) (Int32.toNatClampNeg (x_3 + 2))
        (run L S F d 85 0 [some (vR (0, 0, 0)), some (vI x1), some (vI x2), none] μ).bind fun p3 =>
        bif inb (x_3 + 1) L then
          let x4 : Int32 := S (3, 0, 0) (Int32.toNatClampNeg (x_3 + 1))
          bif inb (x_3 + 2) L then
            let x5 : Int32 := S (3, 0, 0) (Int32.toNatClampNeg (x_3 + 2))
            (run L S F d 170 0 [some (vR (2, 0, 0)), some (vI x4), some (vI x5), none] p3.2).bind fun p6 =>
            if p3.1 = p6.1 then
              run L S F (d + 1) 227 1396 [some (vR (3, 0, 0)), some (vR (0, 0, 0)), some (vR (2, 0, 0)), some (vI x_3)] p6.2
            else
              some (vp_nar .boolean 0, p6.2)
          else none
        else none
      else none
    else none := by
  unfold run
  rw [DF_succ]
  rfl
set_option maxHeartbeats 4000000 in
set_option maxRecDepth 100000 in
theorem e227_379 {L : Nat} {S : Ad → Nat → Int32} {F d : Nat} {μ : Mm} {x_3 : Int32} : run L S (F + 1) (d + 1) 227 379 [some (vR (3, 0, 0)), some (vR (0, 0, 0)), some (vR (2, 0, 0)), some (vI x_3)] μ =
    bif inb (x_3 + 1) L then
      let x1 : Int32 := S (3, 0, 0) (Int32.toNatClampNeg (x_3 + 1))
      bif inb (x_3 + 2) L then
        let x2 : Int32 := S (3, 0, 0) (Int32.toNatClampNeg (x_3 + 2))
        bif inb (x_3 + 3) L then
          let x3 : Int32 := S (3, 0, 0) (Int32.toNatClampNeg (x_3 + 3))
          bif inb (x_3 + 4) L then
            let x4 : Int32 := S (3, 0, 0) (Int32.toNatClampNeg (x_3 + 4))
            bif inb (x_3 + 5) L then
              let x5 : Int32 := S (3, 0, 0) (Int32.toNatClampNeg (x_3 + 5))
              (run L S F d 86 0 [some (vR (0, 0, 0)), some (vI x1), some (vI x2), some (vI x3), some (vI x4), some (vI x5)] μ).bind fun p6 =>
              bif inb (x_3 + 1) L then
                let x7 : Int32 := S (3, 0, 0) (Int32.toNatClampNeg (x_3 + 1))
                bif inb (x_3 + 2) L then
                  let x8 : Int32 := S (3, 0, 0) (Int32.toNatClampNeg (x_3 + 2))
                  bif inb (x_3 + 3) L then
                    let x9 : Int32 := S (3, 0, 0) (Int32.toNatClampNeg (x_3 + 3))
                    bif inb (x_3 + 4) L then
                      let x10 : Int32 := S (3, 0, 0) (Int32.toNatClampNeg (x_3 + 4))
                      bif inb (x_3 + 5) L then
                        let x11 : Int32 := S (3, 0, 0) (Int32.toNatClampNeg (x_3 + 5))
                        (run L S F d 171 0 [some (vR (2, 0, 0)), some (vI x7), some (vI x8), some (vI x9), some (vI x10), some (vI x11), none, none] p6.2).bind fun p12 =>
                        if p6.1 = p12.1 then
                          run L S F (d + 1) 227 1396 [some (vR (3, 0, 0)), some (vR (0, 0, 0)), some (vR (2, 0, 0)), some (vI x_3)] p12.2
                        else
                          some (vp_nar .boolean 0, p12.2)
                      else none
                    else none
                  else none
                else none
              else none
            else none
          else none
        else none
      else none
    else none := by
  unfold run
  rw [DF_succ]
  rfl
set_option maxHeartbeats 4000000 in
set_option maxRecDepth 100000 in
theorem e227_442 {L : Nat} {S : Ad → Nat → Int32} {F d : Nat} {μ : Mm} {x_3 : Int32} : run L S (F + 1) (d + 1) 227 442 [some (vR (3, 0, 0)), some (vR (0, 0, 0)), some (vR (2, 0, 0)), some (vI x_3)] μ =
    bif inb (x_3 + 1) L then
      let x1 : Int32 := S (3, 0, 0) (Int32.toNatClampNeg (x_3 + 1))
      (run L S F d 87 0 [some (vR (0, 0, 0)), some (vI x1), none] μ).bind fun p2 =>
      bif inb (x_3 + 1) L then
        let x3 : Int32 := S (3, 0, 0) (Int32.toNatClampNeg (x_3 + 1))
        (run L S F d 179 0 [some (vR (2, 0, 0)), some (vI x3), none, none] p2.2).bind fun p4 =>
        if p2.1 = p4.1 then
          run L S F (d + 1) 227 1396 [some (vR (3, 0, 0)), some (vR (0, 0, 0)), some (vR (2, 0, 0)), some (vI x_3)] p4.2
        else
          some (vp_nar .boolean 0, p4.2)
      else none
    else none := by
  unfold run
  rw [DF_succ]
  rfl
set_option maxHeartbeats 4000000 in
set_option maxRecDepth 100000 in
theorem e227_465 {L : Nat} {S : Ad → Nat → Int32} {F d : Nat} {μ : Mm} {x_3 : Int32} : run L S (F + 1) (d + 1) 227 465 [some (vR (3, 0, 0)), some (vR (0, 0, 0)), some (vR (2, 0, 0)), some (vI x_3)] μ =
    bif inb (x_3 + 1) L then
      let x1 : Int32 := S (3, 0, 0) (Int32.toNatClampNeg (x_3 + 1))
      (run L S F d 88 0 [some (vR (0, 0, 0)), some (vI x1)] μ).bind fun p2 =>
      bif inb (x_3 + 1) L then
        let x3 : Int32 := S (3, 0, 0) (Int32.toNatClampNeg (x_3 + 1))
        (run L S F d 180 0 [some (vR (2, 0, 0)), some (vI x3)] p2.2).bind fun p4 =>
        if p2.1 = p4.1 then
          run L S F (d + 1) 227 1396 [some (vR (3, 0, 0)), some (vR (0, 0, 0)), some (vR (2, 0, 0)), some (vI x_3)] p4.2
        else
          some (vp_nar .boolean 0, p4.2)
      else none
    else none := by
  unfold run
  rw [DF_succ]
  rfl
set_option maxHeartbeats 4000000 in
set_option maxRecDepth 100000 in
theorem e227_488 {L : Nat} {S : Ad → Nat → Int32} {F d : Nat} {μ : Mm} {x_3 : Int32} : run L S (F + 1) (d + 1) 227 488 [some (vR (3, 0, 0)), some (vR (0, 0, 0)), some (vR (2, 0, 0)), some (vI x_3)] μ =
    bif inb (x_3 + 1) L then
      let x1 : Int32 := S (3, 0, 0) (Int32.toNatClampNeg (x_3 + 1))
      bif inb (x_3 + 2) L then
        let x2 : Int32 := S (3, 0, 0) (Int32.toNatClampNeg (x_3 + 2))
        (run L S F d 89 0 [some (vR (0, 0, 0)), some (vI x1), some (vI x2)] μ).bind fun p3 =>
        bif inb (x_3 + 1) L then
          let x4 : Int32 := S (3, 0, 0) (Int32.toNatClampNeg (x_3 + 1))
          bif inb (x_3 + 2) L then
            let x5 : Int32 := S (3, 0, 0) (Int32.toNatClampNeg (x_3 + 2))
            (run L S F d 166 0 [some (vR (2, 0, 0)), some (vI x4), some (vI x5)] p3.2).bind fun p6 =>
            if p3.1 = p6.1 then
              run L S F (d + 1) 227 1396 [some (vR (3, 0, 0)), some (vR (0, 0, 0)), some (vR (2, 0, 0)), some (vI x_3)] p6.2
            else
              some (vp_nar .boolean 0, p6.2)
          else none
        else none
      else none
    else none := by
  unfold run
  rw [DF_succ]
  rfl
set_option maxHeartbeats 4000000 in
set_option maxRecDepth 100000 in
theorem e227_521 {L : Nat} {S : Ad → Nat → Int32} {F d : Nat} {μ : Mm} {x_3 : Int32} : run L S (F + 1) (d + 1) 227 521 [some (vR (3, 0, 0)), some (vR (0, 0, 0)), some (vR (2, 0, 0)), some (vI x_3)] μ =
    bif inb (x_3 + 1) L then
      let x1 : Int32 := S (3, 0, 0) (Int32.toNatClampNeg (x_3 + 1))
      bif inb (x_3 + 2) L then
        let x2 : Int32 := S (3, 0, 0) (Int32.toNatClampNeg (x_3 + 2))
        bif inb (x_3 + 3) L then
          let x3 : Int32 := S (3, 0, 0) (Int32.toNatClampNeg (x_3 + 3))
          (run L S F d 90 0 [some (vR (0, 0, 0)), some (vI x1), some (vI x2), some (vI x3)] μ).bind fun p4 =>
          bif inb (x_3 + 1) L then
            let x5 : Int32 := S (3, 0, 0) (Int32.toNatClampNeg (x_3 + 1))
            bif inb (x_3 + 2) L then
              let x6 : Int32 := S (3, 0, 0) (Int32.toNatClampNeg (x_3 + 2))
              bif inb (x_3 + 3) L then
                let x7 : Int32 := S (3, 0, 0) (Int32.toNatClampNeg (x_3 + 3))
                (run L S F d 168 0 [some (vR (2, 0, 0)), some (vI x5), some (vI x6), some (vI x7)] p4.2).bind fun p8 =>
                if p4.1 = p8.1 then
                  run L S F (d + 1) 227 1396 [some (vR (3, 0, 0)), some (vR (0, 0, 0)), some (vR (2, 0, 0)), some (vI x_3)] p8.2
                else
                  some (vp_nar .boolean 0, p8.2)
              else none
            else none
          else none
        else none
      else none
    else none := by
  unfold run
  rw [DF_succ]
  rfl
set_option maxHeartbeats 4000000 in
set_option maxRecDepth 100000 in
theorem e227_564 {L : Nat} {S : Ad → Nat → Int32} {F d : Nat} {μ : Mm} {x_3 : Int32} : run L S (F + 1) (d + 1) 227 564 [some (vR (3, 0, 0)), some (vR (0, 0, 0)), some (vR (2, 0, 0)), some (vI x_3)] μ =
    (run L S F d 92 0 [some (vR (0, 0, 0)), none] μ).bind fun p1 =>
    (run L S F d 182 0 [some (vR (2, 0, 0)), none] p1.2).bind fun p2 =>
    if p1.1 = p2.1 then
      run L S F (d + 1) 227 1396 [some (vR (3, 0, 0)), some (vR (0, 0, 0)), some (vR (2, 0, 0)), some (vI x_3)] p2.2
    else
      some (vp_nar .boolean 0, p2.2) := by
  unfold run
  rw [DF_succ]
  rfl
set_option maxHeartbeats 4000000 in
set_option maxRecDepth 100000 in
theorem e227_577 {L : Nat} {S : Ad → Nat → Int32} {F d : Nat} {μ : Mm} {x_3 : Int32} : run L S (F + 1) (d + 1) 227 577 [some (vR (3, 0, 0)), some (vR (0, 0, 0)), some (vR (2, 0, 0)), some (vI x_3)] μ =
    bif inb (x_3 + 1) L then
      let x1 : Int32 := S (3, 0, 0) (Int32.toNatClampNeg (x_3 + 1))
      (run L S F d 93 0 [some (vR (0, 0, 0)), some (vI x1), none] μ).bind fun p2 =>
      bif inb (x_3 + 1) L then
        let x3 : Int32 := S (3, 0, 0) (Int32.toNatClampNeg (x_3 + 1))
        (run L S F d 183 0 [some (vR (2, 0, 0)), some (vI x3), none] p2.2).bind fun p4 =>
        if p2.1 = p4.1 then
          run L S F (d + 1) 227 1396 [some (vR (3, 0, 0)), some (vR (0, 0, 0)), some (vR (2, 0, 0)), some (vI x_3)] p4.2
        else
          some (vp_nar .boolean 0, p4.2)
      else none
    else none := by
  unfold run
  rw [DF_succ]
  rfl
set_option maxHeartbeats 4000000 in
set_option maxRecDepth 100000 in
theorem e227_600 {L : Nat} {S : Ad → Nat → Int32} {F d : Nat} {μ : Mm} {x_3 : Int32} : run L S (F + 1) (d + 1) 227 600 [some (vR (3, 0, 0)), some (vR (0, 0, 0)), some (vR (2, 0, 0)), some (vI x_3)] μ =
    bif inb (x_3 + 1) L then
      let x1 : Int32 := S (3, 0, 0) (Int32.toNatClampNeg (x_3 + 1))
      (run L S F d 94 0 [some (vR (0, 0, 0)), some (vI x1), none] μ).bind fun p2 =>
      bif inb (x_3 + 1) L then
        let x3 : Int32 := S (3, 0, 0) (Int32.toNatClampNeg (x_3 + 1))
        (run L S F d 184 0 [some (vR (2, 0, 0)), some (vI x3), none] p2.2).bind fun p4 =>
        if p2.1 = p4.1 then
          run L S F (d + 1) 227 1396 [some (vR (3, 0, 0)), some (vR (0, 0, 0)), some (vR (2, 0, 0)), some (vI x_3)] p4.2
        else
          some (vp_nar .boolean 0, p4.2)
      else none
    else none := by
  unfold run
  rw [DF_succ]
  rfl
set_option maxHeartbeats 4000000 in
set_option maxRecDepth 100000 in
theorem e227_623 {L : Nat} {S : Ad → Nat → Int32} {F d : Nat} {μ : Mm} {x_3 : Int32} : run L S (F + 1) (d + 1) 227 623 [some (vR (3, 0, 0)), some (vR (0, 0, 0)), some (vR (2, 0, 0)), some (vI x_3)] μ =
    bif inb (x_3 + 1) L then
      let x1 : Int32 := S (3, 0, 0) (Int32.toNatClampNeg (x_3 + 1))
      bif inb (x_3 + 2) L then
        let x2 : Int32 := S (3, 0, 0) (Int32.toNatClampNeg (x_3 + 2))
        (run L S F d 95 0 [some (vR (0, 0, 0)), some (vI x1), some (vI x2)] μ).bind fun p3 =>
        bif inb (x_3 + 1) L then
          let x4 : Int32 := S (3, 0, 0) (Int32.toNatClampNeg (x_3 + 1))
          bif inb (x_3 + 2) L then
            let x5 : Int32 := S (3, 0, 0) (Int32.toNatClampNeg (x_3 + 2))
            (run L S F d 185 0 [some (vR (2, 0, 0)), some (vI x4), some (vI x5)] p3.2).bind fun p6 =>
            if p3.1 = p6.1 then
              run L S F (d + 1) 227 1396 [some (vR (3, 0, 0)), some (vR (0, 0, 0)), some (vR (2, 0, 0)), some (vI x_3)] p6.2
            else
              some (vp_nar .boolean 0, p6.2)
          else none
        else none
      else none
    else none := by
  unfold run
  rw [DF_succ]
  rfl
