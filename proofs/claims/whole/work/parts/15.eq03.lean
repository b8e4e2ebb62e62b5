/-! equations of the methods, out of their code -/
set_option maxHeartbeats 4000000 in
set_option maxRecDepth 100000 in
theorem e87_133 {L : Nat} {S : Ad → Nat → Int32} {F d : Nat} {μ : Mm} {x_2 : Int32} : run L S (F + 1) (d + 1) 87 133 [some (vR (0, 0, 0)), none, some (vI x_2)] μ =
    if x_2 < (μ (0, 0, 9) 3) then
      bif inb x_2 48 then
        let x1 : Int32 := μ (0, 0, 10) (Int32.toNatClampNeg x_2)
        (run L S F d 27 0 [some (vR (1, 0, 18)), some (vI x1), some (vI (μ (1, 0, 0) 5))] μ).bind fun p2 =>
        run L S F (d + 1) 87 133 [some (vR (0, 0, 0)), none, some (vI (x_2 + 1))] p2.2
      else none
    else
      some ((μ (1, 0, 18) 0), μ) := by
  unfold run
  rw [DF_succ]
  rfl
set_option maxHeartbeats 4000000 in
set_option maxRecDepth 100000 in
theorem e88_0 {L : Nat} {S : Ad → Nat → Int32} {F d : Nat} {μ : Mm} {a1 : Int32} : run L S (F + 1) d 88 0 [some (vR (0, 0, 0)), some (vI a1)] μ =
    if a1 = 0 then
      some ((μ (0, 0, 0) 5), μ)
    else
      if a1 = 1 then
        some ((μ (0, 0, 0) 6), μ)
      else
        some ((-1), μ) := by
  unfold run
  rw [DF_succ]
  rfl
set_option maxHeartbeats 4000000 in
set_option maxRecDepth 100000 in
theorem e89_0 {L : Nat} {S : Ad → Nat → Int32} {F d : Nat} {μ : Mm} {a1 : Int32} {a2 : Int32} : run L S (F + 1) (d + 1) 89 0 [some (vR (0, 0, 0)), some (vI a1), some (vI a2)] μ =
    (run L S F d 4 0 [some (vR (1, 0, 2)), some (vI a1)] μ).bind fun p1 =>
    if p1.1 = 0 then
      some ((-2), p1.2)
    else
      if a2 < 1 then
        some ((-3), p1.2)
      else
        if 48 < a2 then
          some ((-3), p1.2)
        else
          (run L S F d 91 0 [some (vR (0, 0, 0)), some (vI a1), some (vI a1), some (vI a2), none] p1.2).bind fun p2 =>
          some (p2.1, p2.2) := by
  unfold run
  rw [DF_succ]
  rfl
set_option maxHeartbeats 4000000 in
set_option maxRecDepth 100000 in
theorem e90_0 {L : Nat} {S : Ad → Nat → Int32} {F d : Nat} {μ : Mm} {a1 : Int32} {a2 : Int32} {a3 : Int32} : run L S (F + 1) (d + 1) 90 0 [some (vR (0, 0, 0)), some (vI a1), some (vI a2), some (vI a3)] μ =
    (run L S F d 4 0 [some (vR (1, 0, 2)), some (vI a1)] μ).bind fun p1 =>
    if p1.1 = 0 then
      some ((-2), p1.2)
    else
      (run L S F d 4 0 [some (vR (1, 0, 2)), some (vI a2)] p1.2).bind fun p2 =>
      if p2.1 = 0 then
        some ((-2), p2.2)
      else
        if a3 < 1 then
          some ((-3), p2.2)
        else
          if 48 < a3 then
            some ((-3), p2.2)
          else
            if a1 = a2 then
              some ((-3), p2.2)
            else
              (run L S F d 91 0 [some (vR (0, 0, 0)), some (vI a1), some (vI a2), some (vI a3), none] p2.2).bind fun p3 =>
              some (p3.1, p3.2) := by
  unfold run
  rw [DF_succ]
  rfl
set_option maxHeartbeats 4000000 in
set_option maxRecDepth 100000 in
theorem e91_0 {L : Nat} {S : Ad → Nat → Int32} {F d : Nat} {μ : Mm} {a1 : Int32} {a2 : Int32} {a3 : Int32} : run L S (F + 1) (d + 1) 91 0 [some (vR (0, 0, 0)), some (vI a1), some (vI a2), some (vI a3), none] μ =
    if 48 < ((μ (1, 0, 18) 0) + a3) then
      some ((-4), μ)
    else
      (run L S F d 63 0 [some (vR (0, 0, 4)), some (vR (1, 0, 0))] μ).bind fun p1 =>
      run L S F (d + 1) 91 34 [some (vR (0, 0, 0)), some (vI a1), some (vI a2), some (vI a3), some (vI 0)] p1.2 := by
  unfold run
  rw [DF_succ]
  rfl
set_option maxHeartbeats 4000000 in
set_option maxRecDepth 100000 in
theorem e91_34 {L : Nat} {S : Ad → Nat → Int32} {F d : Nat} {μ : Mm} {a1 : Int32} {a2 : Int32} {a3 : Int32} {x_4 : Int32} : run L S (F + 1) (d + 1) 91 34 [some (vR (0, 0, 0)), some (vI a1), some (vI a2), some (vI a3), some (vI x_4)] μ =
    if x_4 < a3 then
      if (x_4 - x_4 / 2 * 2) = 0 then
        (run L S F d 27 0 [some (vR (1, 0, 18)), some (vI a1), some (vI (μ (1, 0, 0) 5))] μ).bind fun p2 =>
        run L S F (d + 1) 91 34 [some (vR (0, 0, 0)), some (vI a1), some (vI a2), some (vI a3), some (vI (x_4 + 1))] p2.2
      else
        (run L S F d 27 0 [some (vR (1, 0, 18)), some (vI a2), some (vI (μ (1, 0, 0) 5))] μ).bind fun p1 =>
        run L S F (d + 1) 91 34 [some (vR (0, 0, 0)), some (vI a1), some (vI a2), some (vI a3), some (vI (x_4 + 1))] p1.2
    else
      some ((μ (1, 0, 18) 0), μ) := by
  unfold run
  rw [DF_succ]
  rfl
set_option maxHeartbeats 4000000 in
set_option maxRecDepth 100000 in
theorem e92_0 {L : Nat} {S : Ad → Nat → Int32} {F d : Nat} {μ : Mm} : run L S (F + 1) (d + 1) 92 0 [some (vR (0, 0, 0)), none] μ =
    (run L S F d 63 0 [some (vR (0, 0, 4)), some (vR (1, 0, 0))] μ).bind fun p1 =>
    let μ2 : Mm := mset p1.2 (1, 0, 18) 0 0
    some ((μ (1, 0, 18) 0), μ2) := by
  unfold run
  rw [DF_succ]
  rfl
set_option maxHeartbeats 4000000 in
set_option maxRecDepth 100000 in
theorem e93_0 {L : Nat} {S : Ad → Nat → Int32} {F d : Nat} {μ : Mm} {a1 : Int32} : run L S (F + 1) (d + 1) 93 0 [some (vR (0, 0, 0)), some (vI a1), none] μ =
    (run L S F d 4 0 [some (vR (1, 0, 2)), some (vI a1)] μ).bind fun p1 =>
    if p1.1 = 0 then
      some ((-2), p1.2)
    else
      (run L S F d 63 0 [some (vR (0, 0, 4)), some (vR (1, 0, 0))] p1.2).bind fun p2 =>
      bif inb a1 16 then
        let x3 : Int32 := p2.2 (1, 0, 5) (Int32.toNatClampNeg a1)
        bif inb a1 16 then
          let μ4 : Mm := mset p2.2 (1, 0, 5) (Int32.toNatClampNeg a1) 0
          some (x3, μ4)
        else none
      else none := by
  unfold run
  rw [DF_succ]
  rfl
set_option maxHeartbeats 4000000 in
set_option maxRecDepth 100000 in
theorem e94_0 {L : Nat} {S : Ad → Nat → Int32} {F d : Nat} {μ : Mm} {a1 : Int32} : run L S (F + 1) (d + 1) 94 0 [some (vR (0, 0, 0)), some (vI a1), none] μ =
    if a1 < 1 then
      some ((-3), μ)
    else
      if 200 < a1 then
        some ((-3), μ)
      else
        (run L S F d 63 0 [some (vR (0, 0, 4)), some (vR (1, 0, 0))] μ).bind fun p1 =>
        run L S F (d + 1) 94 28 [some (vR (0, 0, 0)), some (vI a1), some (vI 0)] p1.2 := by
  unfold run
  rw [DF_succ]
  rfl
set_option maxHeartbeats 4000000 in
set_option maxRecDepth 100000 in
theorem e94_28 {L : Nat} {S : Ad → Nat → Int32} {F d : Nat} {μ : Mm} {a1 : Int32} {x_2 : Int32} : run L S (F + 1) (d + 1) 94 28 [some (vR (0, 0, 0)), some (vI a1), some (vI x_2)] μ =
    if x_2 < a1 then
      (run L S F d 39 0 [some (vR (1, 0, 0)), none] μ).bind fun p1 =>
      run L S F (d + 1) 94 28 [some (vR (0, 0, 0)), some (vI a1), some (vI (x_2 + 1))] p1.2
    else
      some ((μ (1, 0, 18) 0), μ) := by
  unfold run
  rw [DF_succ]
  rfl
set_option maxHeartbeats 4000000 in
set_option maxRecDepth 100000 in
theorem e95_0 {L : Nat} {S : Ad → Nat → Int32} {F d : Nat} {μ : Mm} {a1 : Int32} {a2 : Int32} : run L S (F + 1) (d + 1) 95 0 [some (vR (0, 0, 0)), some (vI a1), some (vI a2)] μ =
    (run L S F d 4 0 [some (vR (1, 0, 2)), some (vI a1)] μ).bind fun p1 =>
    if p1.1 = 0 then
      some ((-2), p1.2)
    else
      if a2 = 0 then
        bif inb a1 16 then
          let x2 : Int32 := p1.2 (1, 0, 3) (Int32.toNatClampNeg a1)
          some (x2, p1.2)
        else none
      else if a2 = 1 then
        bif inb a1 16 then
          let x3 : Int32 := p1.2 (1, 0, 5) (Int32.toNatClampNeg a1)
          some (x3, p1.2)
        else none
      else if a2 = 2 then
        bif inb a1 16 then
          let x4 : Int32 := p1.2 (1, 0, 6) (Int32.toNatClampNeg a1)
          some (x4, p1.2)
        else none
      else if a2 = 3 then
        bif inb a1 16 then
          let x5 : Int32 := p1.2 (1, 0, 7) (Int32.toNatClampNeg a1)
          some (x5, p1.2)
        else none
      else if a2 = 4 then
        let x6 : Int32 := p1.2 (1, 0, 2) 1
        some (((x6 >>> (a1 &&& 31)) &&& 1), p1.2)
      else if a2 = 5 then
        (run L S F d 25 0 [some (vR (1, 0, 11)), some (vI a1), some (vR (1, 0, 1)), none, none] p1.2).bind fun p7 =>
        some (p7.1, p7.2)
      else if a2 = 6 then
        (run L S F d 31 0 [some (vR (1, 0, 21)), some (vI a1), none] p1.2).bind fun p8 =>
        some (p8.1, p8.2)
      else some ((-2), p1.2) := by
  unfold run
  rw [DF_succ]
  rfl
set_option maxHeartbeats 4000000 in
set_option maxRecDepth 100000 in
theorem e96_0 {L : Nat} {S : Ad → Nat → Int32} {F d : Nat} {μ : Mm} {a1 : Int32} : run L S (F + 1) (d + 1) 96 0 [some (vR (0, 0, 0)), some (vI a1)] μ =
    (run L S F d 4 0 [some (vR (1, 0, 2)), some (vI a1)] μ).bind fun p1 =>
    if p1.1 = 0 then
      some ((-2), p1.2)
    else
      bif inb a1 16 then
        let x2 : Int32 := p1.2 (1, 0, 4) (Int32.toNatClampNeg a1)
        some (x2, p1.2)
      else none := by
  unfold run
  rw [DF_succ]
  rfl
set_option maxHeartbeats 4000000 in
set_option maxRecDepth 100000 in
theorem e97_0 {L : Nat} {S : Ad → Nat → Int32} {F d : Nat} {μ : Mm} {a1 : Int32} {a2 : Int32} : run L S (F + 1) (d + 1) 97 0 [some (vR (0, 0, 0)), some (vI a1), some (vI a2)] μ =
    (run L S F d 4 0 [some (vR (1, 0, 2)), some (vI a1)] μ).bind fun p1 =>
    if p1.1 = 0 then
      some ((-2), p1.2)
    else
      if a2 = 0 then
        bif inb a1 16 then
          let x2 : Int32 := p1.2 (1, 0, 8) (Int32.toNatClampNeg a1)
          some (x2, p1.2)
        else none
      else if a2 = 1 then
        bif inb a1 16 then
          let x3 : Int32 := p1.2 (1, 0, 9) (Int32.toNatClampNeg a1)
          some (x3, p1.2)
        else none
      else if a2 = 2 then
        bif inb a1 16 then
          let x4 : Int32 := p1.2 (1, 0, 10) (Int32.toNatClampNeg a1)
          some (x4, p1.2)
        else none
      else if a2 = 3 then
        bif inb a1 16 then
          let x5 : Int32 := p1.2 (1, 0, 8) (Int32.toNatClampNeg a1)
          bif inb a1 16 then
            let x6 : Int32 := p1.2 (1, 0, 9) (Int32.toNatClampNeg a1)
            (run L S F d 0 0 [some (vI (x5 ^^^ x6))] p1.2).bind fun p7 =>
            some (p7.1, p7.2)
          else none
        else none
      else if a2 = 4 then
        let x8 : Int32 := p1.2 (1, 0, 2) 2
        some (((x8 >>> (a1 &&& 31)) &&& 1), p1.2)
      else some ((-2), p1.2) := by
  unfold run
  rw [DF_succ]
  rfl
set_option maxHeartbeats 4000000 in
set_option maxRecDepth 100000 in
theorem e98_0 {L : Nat} {S : Ad → Nat → Int32} {F d : Nat} {μ : Mm} {a1 : Int32} {a2 : Int32} : run L S (F + 1) d 98 0 [some (vR (0, 0, 0)), some (vI a1), some (vI a2)] μ =
    if a1 < 0 then
      run L S F d 98 32 [none, none, none] μ
    else
      let x1 : Int32 := μ (1, 0, 1) 3
      if a1 < x1 then
        if a1 < 8 then
          if a2 < 0 then
            run L S F d 98 32 [none, none, none] μ
          else
            if 1 < a2 then
              run L S F d 98 32 [none, none, none] μ
            else
              let x2 : Int32 := μ (1, 0, 1) 2
              if x2 = 0 then
                if a2 = 0 then
                  bif inb a1 8 then
                    let x4 : Int32 := μ (1, 0, 12) (Int32.toNatClampNeg a1)
                    some (x4, μ)
                  else none
                else
                  bif inb a1 8 then
                    let x3 : Int32 := μ (1, 0, 13) (Int32.toNatClampNeg a1)
                    some (x3, μ)
                  else none
              else if x2 = 1 then
                some ((-2), μ)
              else if x2 = 2 then
                some ((-2), μ)
              else if x2 = 3 then
                if a2 = 0 then
                  bif inb a1 8 then
                    let x6 : Int32 := μ (1, 0, 16) (Int32.toNatClampNeg a1)
                    some (x6, μ)
                  else none
                else
                  bif inb a1 8 then
                    let x5 : Int32 := μ (1, 0, 17) (Int32.toNatClampNeg a1)
                    some (x5, μ)
                  else none
              else if x2 = 4 then
                if a2 = 0 then
                  bif inb a1 8 then
                    let x8 : Int32 := μ (1, 0, 12) (Int32.toNatClampNeg a1)
                    some (x8, μ)
                  else none
                else
                  bif inb a1 8 then
                    let x7 : Int32 := μ (1, 0, 13) (Int32.toNatClampNeg a1)
                    some (x7, μ)
                  else none
              else some ((-2), μ)
        else
          run L S F d 98 32 [none, none, none] μ
      else
        run L S F d 98 32 [none, none, none] μ := by
  unfold run
  rw [DF_succ]
  rfl
set_option maxHeartbeats 4000000 in
set_option maxRecDepth 100000 in
theorem e98_32 {L : Nat} {S : Ad → Nat → Int32} {F d : Nat} {μ : Mm} : run L S (F + 1) d 98 32 [none, none, none] μ =
    some ((-2), μ) := by
  unfold run
  rw [DF_succ]
  rfl
set_option maxHeartbeats 4000000 in
set_option maxRecDepth 100000 in
theorem e99_0 {L : Nat} {S : Ad → Nat → Int32} {F d : Nat} {μ : Mm} : run L S (F + 1) d 99 0 [some (vR (0, 0, 0))] μ =
    let x1 : Int32 := μ (1, 0, 1) 2
    if x1 = 0 then
      some ((μ (1, 0, 11) 0), μ)
    else
      some ((-1), μ) := by
  unfold run
  rw [DF_succ]
  rfl
set_option maxHeartbeats 4000000 in
set_option maxRecDepth 100000 in
theorem e100_0 {L : Nat} {S : Ad → Nat → Int32} {F d : Nat} {μ : Mm} {a1 : Int32} : run L S (F + 1) d 100 0 [some (vR (0, 0, 0)), some (vI a1)] μ =
    if a1 < 0 then
      some ((-3), μ)
    else
      if a1 < (μ (1, 0, 21) 0) then
        bif inb a1 16 then
          let x1 : Int32 := μ (1, 0, 22) (Int32.toNatClampNeg a1)
          some (x1, μ)
        else none
      else
        some ((-1), μ) := by
  unfold run
  rw [DF_succ]
  rfl
set_option maxHeartbeats 4000000 in
set_option maxRecDepth 100000 in
theorem e101_0 {L : Nat} {S : Ad → Nat → Int32} {F d : Nat} {μ : Mm} {a1 : Int32} : run L S (F + 1) d 101 0 [some (vR (0, 0, 0)), some (vI a1)] μ =
    if a1 < 0 then
      some ((-3), μ)
    else
      if a1 < (μ (1, 0, 18) 0) then
        bif inb a1 99 then
          let x1 : Int32 := μ (1, 0, 19) (Int32.toNatClampNeg a1)
          some (x1, μ)
        else none
      else
        some ((-1), μ) := by
  unfold run
  rw [DF_succ]
  rfl
set_option maxHeartbeats 4000000 in
set_option maxRecDepth 100000 in
theorem e102_0 {L : Nat} {S : Ad → Nat → Int32} {F d : Nat} {μ : Mm} {a1 : Int32} : run L S (F + 1) (d + 1) 102 0 [some (vR (0, 0, 0)), some (vI a1)] μ =
    if a1 < 1 then
      some ((-3), μ)
    else
      if 999 < a1 then
        some ((-3), μ)
      else
        (run L S F d 11 0 [some (vR (1, 0, 2)), some (vI a1), none, none] μ).bind fun p1 =>
        some (p1.1, p1.2) := by
  unfold run
  rw [DF_succ]
  rfl
set_option maxHeartbeats 4000000 in
set_option maxRecDepth 100000 in
theorem e103_0 {L : Nat} {S : Ad → Nat → Int32} {F d : Nat} {μ : Mm} : run L S (F + 1) (d + 1) 103 0 [some (vR (0, 0, 0)), none, none, none, none] μ =
    let x1 : Int32 := μ (1, 0, 1) 4
    (run L S F d 11 0 [some (vR (1, 0, 2)), some (vI x1), none, none] μ).bind fun p2 =>
    run L S F (d + 1) 103 24 [some (vR (0, 0, 0)), some (vI p2.1), some (vI 0), some (vI 0), none] p2.2 := by
  unfold run
  rw [DF_succ]
  rfl
set_option maxHeartbeats 4000000 in
set_option maxRecDepth 100000 in
theorem e103_24 {L : Nat} {S : Ad → Nat → Int32} {F d : Nat} {μ : Mm} {x_1 : Int32} {x_2 : Int32} {x_3 : Int32} : run L S (F + 1) (d + 1) 103 24 [some (vR (0, 0, 0)), some (vI x_1), some (vI x_2), some (vI x_3), none] μ =
    if x_3 < (μ (1, 0, 2) 0) then
      (run L S F d 25 0 [some (vR (1, 0, 11)), some (vI x_3), some (vR (1, 0, 1)), none, none] μ).bind fun p1 =>
      bif inb x_3 16 then
        let x2 : Int32 := p1.2 (1, 0, 6) (Int32.toNatClampNeg x_3)
        if p1.1 < x2 then
          if ((x_1 >>> (x_3 &&& 31)) &&& 1) = 1 then
            run L S F (d + 1) 103 24 [some (vR (0, 0, 0)), some (vI x_1), some (vI (x_2 ||| ((1 : Int32) <<< (x_3 &&& 31)))), some (vI (x_3 + 1)), none] p1.2
          else
            run L S F (d + 1) 103 24 [some (vR (0, 0, 0)), some (vI x_1), some (vI x_2), some (vI (x_3 + 1)), none] p1.2
        else
          if ((x_1 >>> (x_3 &&& 31)) &&& 1) = 1 then
            run L S F (d + 1) 103 24 [some (vR (0, 0, 0)), some (vI x_1), some (vI x_2), some (vI (x_3 + 1)), none] p1.2
          else
            run L S F (d + 1) 103 24 [some (vR (0, 0, 0)), some (vI x_1), some (vI x_2), some (vI (x_3 + 1)), none] p1.2
      else none
    else
      some (x_2, μ) := by
  unfold run
  rw [DF_succ]
  rfl
set_option maxHeartbeats 4000000 in
set_option maxRecDepth 100000 in
theorem e104_0 {L : Nat} {S : Ad → Nat → Int32} {F d : Nat} {μ : Mm} {a1 : Int32} : run L S (F + 1) (d + 1) 104 0 [some (vR (0, 0, 0)), some (vI a1), none] μ =
    (run L S F d 12 0 [some (vR (1, 0, 2)), none, none] μ).bind fun p1 =>
    if a1 = 0 then
      some (p1.1, p1.2)
    else if a1 = 1 then
      bif inb p1.1 16 then
        let x2 : Int32 := p1.2 (1, 0, 5) (Int32.toNatClampNeg p1.1)
        some (x2, p1.2)
      else none
    else if a1 = 2 then
      let x3 : Int32 := p1.2 (1, 0, 1) 0
      bif inb p1.1 16 then
        let x4 : Int32 := p1.2 (1, 0, 5) (Int32.toNatClampNeg p1.1)
        some ((mmax 0 (x3 - x4)), p1.2)
      else none
    else some ((-2), p1.2) := by
  unfold run
  rw [DF_succ]
  rfl
set_option maxHeartbeats 4000000 in
set_option maxRecDepth 100000 in
theorem e105_0 {L : Nat} {S : Ad → Nat → Int32} {F d : Nat} {μ : Mm} {a1 : Int32} : run L S (F + 1) d 105 0 [some (vR (0, 0, 0)), some (vI a1)] μ =
    if a1 < 0 then
      some ((-2), μ)
    else
      if a1 < 4 then
        bif inb a1 4 then
          let x1 : Int32 := μ (1, 0, 23) (Int32.toNatClampNeg a1)
          some (x1, μ)
        else none
      else
        some ((-2), μ) := by
  unfold run
  rw [DF_succ]
  rfl
set_option maxHeartbeats 4000000 in
set_option maxRecDepth 100000 in
theorem e106_0 {L : Nat} {S : Ad → Nat → Int32} {F d : Nat} {μ : Mm} {a1 : Int32} : run L S (F + 1) d 106 0 [some (vR (0, 0, 0)), some (vI a1)] μ =
    if a1 < 0 then
      some ((-2), μ)
    else
      if a1 < 9 then
        bif inb a1 9 then
          let x1 : Int32 := μ (1, 0, 24) (Int32.toNatClampNeg a1)
          some (x1, μ)
        else none
      else
        some ((-2), μ) := by
  unfold run
  rw [DF_succ]
  rfl
set_option maxHeartbeats 4000000 in
set_option maxRecDepth 100000 in
theorem e107_0 {L : Nat} {S : Ad → Nat → Int32} {F d : Nat} {μ : Mm} : run L S (F + 1) d 107 0 [some (vR (0, 0, 0))] μ =
    let x1 : Int32 := μ (1, 0, 1) 5
    let x2 : Int32 := μ (1, 0, 1) 6
    if (mmax 1 x2) = 0 then none else
    some ((x1 / (mmax 1 x2)), μ) := by
  unfold run
  rw [DF_succ]
  rfl
set_option maxHeartbeats 4000000 in
set_option maxRecDepth 100000 in
theorem e108_0 {L : Nat} {S : Ad → Nat → Int32} {F d : Nat} {μ : Mm} : run L S (F + 1) (d + 1) 108 0 [some (vR (0, 0, 0))] μ =
    (run L S F d 107 0 [some (vR (0, 0, 0))] μ).bind fun p1 =>
    let x2 : Int32 := p1.2 (1, 0, 1) 4
    if (mmax 1 x2) = 0 then none else
    some ((p1.1 / (mmax 1 x2)), p1.2) := by
  unfold run
  rw [DF_succ]
  rfl
set_option maxHeartbeats 4000000 in
set_option maxRecDepth 100000 in
theorem e109_0 {L : Nat} {S : Ad → Nat → Int32} {F d : Nat} {μ : Mm} {a1 : Int32} {a2 : Int32} {a3 : Int32} : run L S (F + 1) (d + 1) 109 0 [some (vR (0, 0, 0)), some (vI a1), some (vI a2), some (vI a3)] μ =
    (run L S F d 4 0 [some (vR (1, 0, 2)), some (vI a1)] μ).bind fun p1 =>
    if p1.1 = 0 then
      some ((-2), p1.2)
    else
      if a3 < 0 then
        some ((-2), p1.2)
      else
        if 1 < a3 then
          some ((-2), p1.2)
        else
          if a2 < 1 then
            some ((-3), p1.2)
          else
            if 99 < a2 then
              some ((-3), p1.2)
            else
              (run L S F d 49 0 [some (vR (0, 0, 1)), some (vR (1, 0, 0))] p1.2).bind fun p2 =>
              (run L S F d 57 0 [some (vR (0, 0, 1)), some (vI a1), some (vI a2), some (vI a3), none, none, none, none, none] p2.2).bind fun p3 =>
              (run L S F d 51 0 [some (vR (0, 0, 1)), some (vI a2), none] p3.2).bind fun p4 =>
              (run L S F d 54 0 [some (vR (0, 0, 1))] p4.2).bind fun p5 =>
              some (p5.1, p5.2) := by
  unfold run
  rw [DF_succ]
  rfl
set_option maxHeartbeats 4000000 in
set_option maxRecDepth 100000 in
theorem e110_0 {L : Nat} {S : Ad → Nat → Int32} {F d : Nat} {μ : Mm} {a1 : Int32} {a2 : Int32} : run L S (F + 1) (d + 1) 110 0 [some (vR (0, 0, 0)), some (vI a1), some (vI a2), none] μ =
    (run L S F d 4 0 [some (vR (1, 0, 2)), some (vI a1)] μ).bind fun p1 =>
    if p1.1 = 0 then
      some ((-2), p1.2)
    else
      if a2 < 0 then
        some ((-2), p1.2)
      else
        if 1 < a2 then
          some ((-2), p1.2)
        else
          (run L S F d 49 0 [some (vR (0, 0, 1)), some (vR (1, 0, 0))] p1.2).bind fun p2 =>
          (run L S F d 57 0 [some (vR (0, 0, 1)), some (vI a1), some (vI 99), some (vI a2), none, none, none, none, none] p2.2).bind fun p3 =>
          run L S F (d + 1) 110 50 [some (vR (0, 0, 0)), none, none, some (vI 1)] p3.2 := by
  unfold run
  rw [DF_succ]
  rfl
set_option maxHeartbeats 4000000 in
set_option maxRecDepth 100000 in
theorem e110_50 {L : Nat} {S : Ad → Nat → Int32} {F d : Nat} {μ : Mm} {x_3 : Int32} : run L S (F + 1) (d + 1) 110 50 [some (vR (0, 0, 0)), none, none, some (vI x_3)] μ =
    if 99 < x_3 then
      some ((-1), μ)
    else
      (run L S F d 51 0 [some (vR (0, 0, 1)), some (vI x_3), none] μ).bind fun p1 =>
      (run L S F d 55 0 [some (vR (0, 0, 1))] p1.2).bind fun p2 =>
      if 0 < p2.1 then
        some (x_3, p2.2)
      else
        run L S F (d + 1) 110 50 [some (vR (0, 0, 0)), none, none, some (vI (x_3 + 1))] p2.2 := by
  unfold run
  rw [DF_succ]
  rfl
set_option maxHeartbeats 4000000 in
set_option maxRecDepth 100000 in
theorem e111_0 {L : Nat} {S : Ad → Nat → Int32} {F d : Nat} {μ : Mm} {a1 : Int32} : run L S (F + 1) (d + 1) 111 0 [some (vR (0, 0, 0)), some (vI a1)] μ =
    if a1 < 1 then
      some ((-3), μ)
    else
      if 5 < a1 then
        some ((-3), μ)
      else
        if 6 < (μ (1, 0, 2) 0) then
          some ((-5), μ)
        else
          (run L S F d 49 0 [some (vR (0, 0, 1)), some (vR (1, 0, 0))] μ).bind fun p1 =>
          (run L S F d 61 0 [some (vR (0, 0, 1)), some (vI a1), none, none, none] p1.2).bind fun p2 =>
          some (p2.1, p2.2) := by
  unfold run
  rw [DF_succ]
  rfl
set_option maxHeartbeats 4000000 in
set_option maxRecDepth 100000 in
theorem e112_0 {L : Nat} {S : Ad → Nat → Int32} {F d : Nat} {μ : Mm} {a1 : Int32} {a2 : Int32} : run L S (F + 1) (d + 1) 112 0 [some (vR (0, 0, 0)), some (vI a1), some (vI a2)] μ =
    if a1 < 1 then
      some ((-3), μ)
    else
      if 5 < a1 then
        some ((-3), μ)
      else
        if a2 < 0 then
          some ((-3), μ)
        else
          if 6 < (μ (1, 0, 2) 0) then
            some ((-5), μ)
          else
            if a2 < a1 then
              (run L S F d 49 0 [some (vR (0, 0, 1)), some (vR (1, 0, 0))] μ).bind fun p1 =>
              (run L S F d 61 0 [some (vR (0, 0, 1)), some (vI a1), none, none, none] p1.2).bind fun p2 =>
              bif inb a2 5 then
                let x3 : Int32 := p2.2 (0, 0, 3) (Int32.toNatClampNeg a2)
                some (x3, p2.2)
              else none
            else
              some ((-1), μ) := by
  unfold run
  rw [DF_succ]
  rfl
set_option maxHeartbeats 4000000 in
set_option maxRecDepth 100000 in
theorem e113_0 {L : Nat} {S : Ad → Nat → Int32} {F d : Nat} {μ : Mm} : run L S (F + 1) (d + 1) 113 0 [some (vR (0, 0, 0)), none] μ =
    if 6 < (μ (1, 0, 2) 0) then
      some ((-5), μ)
    else
      (run L S F d 49 0 [some (vR (0, 0, 1)), some (vR (1, 0, 0))] μ).bind fun p1 =>
      run L S F (d + 1) 113 31 [some (vR (0, 0, 0)), some (vI 1)] p1.2 := by
  unfold run
  rw [DF_succ]
  rfl
set_option maxHeartbeats 4000000 in
set_option maxRecDepth 100000 in
theorem e113_31 {L : Nat} {S : Ad → Nat → Int32} {F d : Nat} {μ : Mm} {x_1 : Int32} : run L S (F + 1) (d + 1) 113 31 [some (vR (0, 0, 0)), some (vI x_1)] μ =
    if 5 < x_1 then
      some ((-1), μ)
    else
      (run L S F d 62 0 [some (vR (0, 0, 1)), some (vI x_1), none, none] μ).bind fun p1 =>
      if p1.1 = 0 then
        run L S F (d + 1) 113 31 [some (vR (0, 0, 0)), some (vI (x_1 + 1))] p1.2
      else
        some (x_1, p1.2) := by
  unfold run
  rw [DF_succ]
  rfl
set_option maxHeartbeats 4000000 in
set_option maxRecDepth 100000 in
theorem e114_0 {L : Nat} {S : Ad → Nat → Int32} {F d : Nat} {μ : Mm} {a1 : Int32} : run L S (F + 1) (d + 1) 114 0 [some (vR (0, 0, 0)), some (vI a1), none] μ =
    if a1 < 1 then
      some ((-3), μ)
    else
      if a1 < 5 then
        if 6 < (μ (1, 0, 2) 0) then
          some ((-5), μ)
        else
          (run L S F d 49 0 [some (vR (0, 0, 1)), some (vR (1, 0, 0))] μ).bind fun p1 =>
          run L S F (d + 1) 114 44 [some (vR (0, 0, 0)), some (vI a1), some (vI 1)] p1.2
      else
        some ((-3), μ) := by
  unfold run
  rw [DF_succ]
  rfl
set_option maxHeartbeats 4000000 in
set_option maxRecDepth 100000 in
theorem e114_44 {L : Nat} {S : Ad → Nat → Int32} {F d : Nat} {μ : Mm} {a1 : Int32} {x_2 : Int32} : run L S (F + 1) (d + 1) 114 44 [some (vR (0, 0, 0)), some (vI a1), some (vI x_2)] μ =
    if 8 < x_2 then
      some ((-1), μ)
    else
      (run L S F d 37 0 [some (vR (1, 1, 0)), some (vI 3), some (vI x_2)] μ).bind fun p1 =>
      (run L S F d 62 0 [some (vR (0, 0, 1)), some (vI a1), none, none] p1.2).bind fun p2 =>
      if p2.1 = 0 then
        some (x_2, p2.2)
      else
        run L S F (d + 1) 114 44 [some (vR (0, 0, 0)), some (vI a1), some (vI (x_2 + 1))] p2.2 := by
  unfold run
  rw [DF_succ]
  rfl
set_option maxHeartbeats 4000000 in
set_option maxRecDepth 100000 in
theorem e115_0 {L : Nat} {S : Ad → Nat → Int32} {F d : Nat} {μ : Mm} {a1 : Int32} {a2 : Int32} : run L S (F + 1) (d + 1) 115 0 [some (vR (0, 0, 0)), some (vI a1), some (vI a2), none, none, none, none, none, none] μ =
    (run L S F d 122 0 [some (vR (0, 0, 0)), some (vI a1), some (vI a2)] μ).bind fun p1 =>
    if p1.1 = 0 then
      some ((-3), p1.2)
    else
      run L S F (d + 1) 115 23 [some (vR (0, 0, 0)), some (vI a1), some (vI a2), some (vI 0), some (vI 0), some (vI 0), some (vI 0), none, none] p1.2 := by
  unfold run
  rw [DF_succ]
  rfl
set_option maxHeartbeats 4000000 in
set_option maxRecDepth 100000 in
theorem e115_23 {L : Nat} {S : Ad → Nat → Int32} {F d : Nat} {μ : Mm} {a1 : Int32} {a2 : Int32} {x_3 : Int32} {x_4 : Int32} {x_5 : Int32} {x_6 : Int32} : run L S (F + 1) (d + 1) 115 23 [some (vR (0, 0, 0)), some (vI a1), some (vI a2), some (vI x_3), some (vI x_4), some (vI x_5), some (vI x_6), none, none] μ =
    if x_6 < 6 then
      (run L S F d 49 0 [some (vR (0, 0, 1)), some (vR (1, 0, 0))] μ).bind fun p1 =>
      (run L S F d 37 0 [some (vR (1, 1, 0)), some (vI 2), some (vI x_6)] p1.2).bind fun p2 =>
      (run L S F d 53 0 [some (vR (0, 0, 1)), some (vI a1), some (vI a2), none] p2.2).bind fun p3 =>
      (run L S F d 55 0 [some (vR (0, 0, 1))] p3.2).bind fun p4 =>
      if p4.1 < x_4 then
        if x_6 = 0 then
          let x5 : Int32 := p4.2 (0, 0, 1) 4
          run L S F (d + 1) 115 23 [some (vR (0, 0, 0)), some (vI a1), some (vI a2), some (vI x_6), some (vI p4.1), some (vI x5), some (vI (x_6 + 1)), none, none] p4.2
        else
          let x6 : Int32 := p4.2 (0, 0, 1) 4
          run L S F (d + 1) 115 23 [some (vR (0, 0, 0)), some (vI a1), some (vI a2), some (vI x_6), some (vI p4.1), some (vI x6), some (vI (x_6 + 1)), none, none] p4.2
      else
        if p4.1 = x_4 then
          let x7 : Int32 := p4.2 (0, 0, 1) 4
          if x7 < x_5 then
            if x_6 = 0 then
              let x8 : Int32 := p4.2 (0, 0, 1) 4
              run L S F (d + 1) 115 23 [some (vR (0, 0, 0)), some (vI a1), some (vI a2), some (vI x_6), some (vI p4.1), some (vI x8), some (vI (x_6 + 1)), none, none] p4.2
            else
              let x9 : Int32 := p4.2 (0, 0, 1) 4
              run L S F (d + 1) 115 23 [some (vR (0, 0, 0)), some (vI a1), some (vI a2), some (vI x_6), some (vI p4.1), some (vI x9), some (vI (x_6 + 1)), none, none] p4.2
          else
            run L S F (d + 1) 115 102 [some (vR (0, 0, 0)), some (vI a1), some (vI a2), some (vI x_3), some (vI x_4), some (vI x_5), some (vI x_6), some (vI p4.1), none] p4.2
        else
          run L S F (d + 1) 115 102 [some (vR (0, 0, 0)), some (vI a1), some (vI a2), some (vI x_3), some (vI x_4), some (vI x_5), some (vI x_6), some (vI p4.1), none] p4.2
    else
      some (x_3, μ) := by
  unfold run
  rw [DF_succ]
  rfl
set_option maxHeartbeats 4000000 in
set_option maxRecDepth 100000 in
theorem e115_102 {L : Nat} {S : Ad → Nat → Int32} {F d : Nat} {μ : Mm} {a1 : Int32} {a2 : Int32} {x_3 : Int32} {x_4 : Int32} {x_5 : Int32} {x_6 : Int32} {x_7 : Int32} : run L S (F + 1) (d + 1) 115 102 [some (vR (0, 0, 0)), some (vI a1), some (vI a2), some (vI x_3), some (vI x_4), some (vI x_5), some (vI x_6), some (vI x_7), none] μ =
    if x_6 = 0 then
      run L S F (d + 1) 115 23 [some (vR (0, 0, 0)), some (vI a1), some (vI a2), some (vI x_6), some (vI x_7), some (vI (μ (0, 0, 1) 4)), some (vI (x_6 + 1)), none, none] μ
    else
      run L S F (d + 1) 115 23 [some (vR (0, 0, 0)), some (vI a1), some (vI a2), some (vI x_3), some (vI x_4), some (vI x_5), some (vI (x_6 + 1)), none, none] μ := by
  unfold run
  rw [DF_succ]
  rfl
set_option maxHeartbeats 4000000 in
set_option maxRecDepth 100000 in
theorem e116_0 {L : Nat} {S : Ad → Nat → Int32} {F d : Nat} {μ : Mm} {a1 : Int32} : run L S (F + 1) (d + 1) 116 0 [some (vR (0, 0, 0)), some (vI a1), none] μ =
    if a1 < 0 then
      some ((-3), μ)
    else
      if (μ (0, 0, 7) 0) < a1 then
        some ((-3), μ)
      else
        (run L S F d 70 0 [some (vR (0, 0, 9)), some (vR (0, 0, 8)), some (vI a1), some (vI (μ (1, 0, 2) 0)), none] μ).bind fun p1 =>
        let x2 : Int32 := p1.2 (0, 0, 9) 4
        if x2 = 0 then
          (run L S F d 49 0 [some (vR (0, 0, 1)), some (vR (1, 0, 0))] p1.2).bind fun p3 =>
          run L S F (d + 1) 116 77 [some (vR (0, 0, 0)), none, some (vI 0)] p3.2
        else
          let x4 : Int32 := p1.2 (0, 0, 9) 4
          some (((-30) - x4), p1.2) := by
  unfold run
  rw [DF_succ]
  rfl
set_option maxHeartbeats 4000000 in
set_option maxRecDepth 100000 in
theorem e116_77 {L : Nat} {S : Ad → Nat → Int32} {F d : Nat} {μ : Mm} {x_2 : Int32} : run L S (F + 1) (d + 1) 116 77 [some (vR (0, 0, 0)), none, some (vI x_2)] μ =
    if x_2 < (μ (0, 0, 9) 3) then
      bif inb x_2 48 then
        let x3 : Int32 := μ (0, 0, 10) (Int32.toNatClampNeg x_2)
        bif inb x_2 99 then
          let μ4 : Mm := mset μ (0, 0, 2) (Int32.toNatClampNeg x_2) x3
          run L S F (d + 1) 116 77 [some (vR (0, 0, 0)), none, some (vI (x_2 + 1))] μ4
        else none
      else none
    else
      (run L S F d 51 0 [some (vR (0, 0, 1)), some (vI (μ (0, 0, 9) 3)), none] μ).bind fun p1 =>
      (run L S F d 54 0 [some (vR (0, 0, 1))] p1.2).bind fun p2 =>
      some (p2.1, p2.2) := by
  unfold run
  rw [DF_succ]
  rfl
set_option maxHeartbeats 4000000 in
set_option maxRecDepth 100000 in
theorem e117_0 {L : Nat} {S : Ad → Nat → Int32} {F d : Nat} {μ : Mm} {a1 : Int32} {a2 : Int32} : run L S (F + 1) (d + 1) 117 0 [some (vR (0, 0, 0)), some (vI a1), some (vI a2)] μ =
    if a1 < 0 then
      some ((-2), μ)
    else
      if a1 < 6 then
        if a2 < 1 then
          some ((-3), μ)
        else
          if 5 < a2 then
            some ((-3), μ)
          else
            if 6 < (μ (1, 0, 2) 0) then
              some ((-5), μ)
            else
              (run L S F d 49 0 [some (vR (0, 0, 1)), some (vR (1, 0, 0))] μ).bind fun p1 =>
              (run L S F d 37 0 [some (vR (1, 1, 0)), some (vI 2), some (vI a1)] p1.2).bind fun p2 =>
              (run L S F d 61 0 [some (vR (0, 0, 1)), some (vI a2), none, none, none] p2.2).bind fun p3 =>
              some (p3.1, p3.2)
      else
        some ((-2), μ) := by
  unfold run
  rw [DF_succ]
  rfl
set_option maxHeartbeats 4000000 in
set_option maxRecDepth 100000 in
theorem e118_0 {L : Nat} {S : Ad → Nat → Int32} {F d : Nat} {μ : Mm} {a1 : Int32} : run L S (F + 1) (d + 1) 118 0 [some (vR (0, 0, 0)), some (vI a1), none] μ =
    if a1 < 1 then
      some ((-3), μ)
    else
      if 30 < a1 then
        some ((-3), μ)
      else
        (run L S F d 49 0 [some (vR (0, 0, 1)), some (vR (1, 0, 0))] μ).bind fun p1 =>
        run L S F (d + 1) 118 28 [some (vR (0, 0, 0)), some (vI a1), some (vI 99)] p1.2 := by
  unfold run
  rw [DF_succ]
  rfl
set_option maxHeartbeats 4000000 in
set_option maxRecDepth 100000 in
theorem e118_28 {L : Nat} {S : Ad → Nat → Int32} {F d : Nat} {μ : Mm} {a1 : Int32} {x_2 : Int32} : run L S (F + 1) (d + 1) 118 28 [some (vR (0, 0, 0)), some (vI a1), some (vI x_2)] μ =
    if x_2 < 1 then
      some ((-1), μ)
    else
      (run L S F d 37 0 [some (vR (1, 1, 0)), some (vI 4), some (vI x_2)] μ).bind fun p1 =>
      (run L S F d 58 0 [some (vR (0, 0, 1)), some (vI a1), none, none] p1.2).bind fun p2 =>
      if p2.1 = 0 then
        some (x_2, p2.2)
      else
        run L S F (d + 1) 118 28 [some (vR (0, 0, 0)), some (vI a1), some (vI (x_2 + (-1)))] p2.2 := by
  unfold run
  rw [DF_succ]
  rfl
set_option maxHeartbeats 4000000 in
set_option maxRecDepth 100000 in
theorem e119_0 {L : Nat} {S : Ad → Nat → Int32} {F d : Nat} {μ : Mm} {a1 : Int32} : run L S (F + 1) (d + 1) 119 0 [some (vR (0, 0, 0)), some (vI a1), none] μ =
    if a1 < 1 then
      some ((-3), μ)
    else
      if 30 < a1 then
        some ((-3), μ)
      else
        (run L S F d 49 0 [some (vR (0, 0, 1)), some (vR (1, 0, 0))] μ).bind fun p1 =>
        run L S F (d + 1) 119 27 [some (vR (0, 0, 0)), some (vI a1), some (vI 1)] p1.2 := by
  unfold run
  rw [DF_succ]
  rfl
set_option maxHeartbeats 4000000 in
set_option maxRecDepth 100000 in
theorem e119_27 {L : Nat} {S : Ad → Nat → Int32} {F d : Nat} {μ : Mm} {a1 : Int32} {x_2 : Int32} : run L S (F + 1) (d + 1) 119 27 [some (vR (0, 0, 0)), some (vI a1), some (vI x_2)] μ =
    if 8 < x_2 then
      some ((-1), μ)
    else
      (run L S F d 37 0 [some (vR (1, 1, 0)), some (vI 3), some (vI x_2)] μ).bind fun p1 =>
      (run L S F d 58 0 [some (vR (0, 0, 1)), some (vI a1), none, none] p1.2).bind fun p2 =>
      if p2.1 = 0 then
        some (x_2, p2.2)
      else
        run L S F (d + 1) 119 27 [some (vR (0, 0, 0)), some (vI a1), some (vI (x_2 + 1))] p2.2 := by
  unfold run
  rw [DF_succ]
  rfl
set_option maxHeartbeats 4000000 in
set_option maxRecDepth 100000 in
theorem e120_0 {L : Nat} {S : Ad → Nat → Int32} {F d : Nat} {μ : Mm} {a1 : Int32} : run L S (F + 1) (d + 1) 120 0 [some (vR (0, 0, 0)), some (vI a1)] μ =
    if a1 < 0 then
      some ((-2), μ)
    else
      if 2 < a1 then
        some ((-2), μ)
      else
        (run L S F d 52 0 [some (vR (0, 0, 1)), some (vR (1, 0, 0))] μ).bind fun p1 =>
        if a1 = 0 then
          let x2 : Int32 := p1.2 (1, 2, 18) 0
          if 0 < x2 then
            some ((-1), p1.2)
          else
            let x3 : Int32 := p1.2 (0, 0, 1) 4
            some (x3, p1.2)
        else if a1 = 1 then
          (run L S F d 55 0 [some (vR (0, 0, 1))] p1.2).bind fun p4 =>
          some (p4.1, p4.2)
        else let x5 : Int32 := p1.2 (1, 2, 24) 2
        some (x5, p1.2) := by
  unfold run
  rw [DF_succ]
  rfl
set_option maxHeartbeats 4000000 in
set_option maxRecDepth 100000 in
theorem e121_0 {L : Nat} {S : Ad → Nat → Int32} {F d : Nat} {μ : Mm} {a1 : Int32} {a2 : Int32} {a3 : Int32} : run L S (F + 1) (d + 1) 121 0 [some (vR (0, 0, 0)), some (vI a1), some (vI a2), some (vI a3)] μ =
    (run L S F d 122 0 [some (vR (0, 0, 0)), some (vI a1), some (vI a2)] μ).bind fun p1 =>
    if p1.1 = 0 then
      some ((-3), p1.2)
    else
      if a3 < 0 then
        some ((-2), p1.2)
      else
        if 2 < a3 then
          some ((-2), p1.2)
        else
          (run L S F d 49 0 [some (vR (0, 0, 1)), some (vR (1, 0, 0))] p1.2).bind fun p2 =>
          (run L S F d 53 0 [some (vR (0, 0, 1)), some (vI a1), some (vI a2), none] p2.2).bind fun p3 =>
          if a3 = 0 then
            (run L S F d 54 0 [some (vR (0, 0, 1))] p3.2).bind fun p4 =>
            some (p4.1, p4.2)
          else if a3 = 1 then
            let x5 : Int32 := p3.2 (0, 0, 1) 4
            some (x5, p3.2)
          else (run L S F d 56 0 [some (vR (0, 0, 1))] p3.2).bind fun p6 =>
          some (p6.1, p6.2) := by
  unfold run
  rw [DF_succ]
  rfl
set_option maxHeartbeats 4000000 in
set_option maxRecDepth 100000 in
theorem e122_0 {L : Nat} {S : Ad → Nat → Int32} {F d : Nat} {μ : Mm} {a1 : Int32} {a2 : Int32} : run L S (F + 1) d 122 0 [some (vR (0, 0, 0)), some (vI a1), some (vI a2)] μ =
    if a1 < 0 then
      some (vp_nar .boolean 0, μ)
    else
      if a1 < 7875 then
        if a2 < 1 then
          some (vp_nar .boolean 0, μ)
        else
          if 48 < a2 then
            some (vp_nar .boolean 0, μ)
          else
            some (vp_nar .boolean 1, μ)
      else
        some (vp_nar .boolean 0, μ) := by
  unfold run
  rw [DF_succ]
  rfl
set_option maxHeartbeats 4000000 in
set_option maxRecDepth 100000 in
theorem e123_0 {L : Nat} {S : Ad → Nat → Int32} {F d : Nat} {μ : Mm} {a1 : Int32} : run L S (F + 1) (d + 1) 123 0 [some (vR (0, 0, 0)), some (vI a1)] μ =
    if a1 < 1 then
      some ((-3), μ)
    else
      if (μ (0, 0, 4) 3) < a1 then
        some ((-3), μ)
      else
        (run L S F d 64 0 [some (vR (0, 0, 4)), some (vI a1), some (vR (1, 0, 0))] μ).bind fun p1 =>
        let x2 : Int32 := p1.2 (0, 0, 4) 3
        some (x2, p1.2) := by
  unfold run
  rw [DF_succ]
  rfl
set_option maxHeartbeats 4000000 in
set_option maxRecDepth 100000 in
theorem e124_0 {L : Nat} {S : Ad → Nat → Int32} {F d : Nat} {μ : Mm} {a1 : Int32} : run L S (F + 1) (d + 1) 124 0 [some (vR (0, 0, 0)), some (vI a1)] μ =
    if a1 < 0 then
      some ((-2), μ)
    else
      if a1 < 2 then
        (run L S F d 65 0 [some (vR (0, 0, 4)), some (vI a1), some (vR (1, 0, 0))] μ).bind fun p1 =>
        some (0, p1.2)
      else
        some ((-2), μ) := by
  unfold run
  rw [DF_succ]
  rfl
