/-! equations of the methods, out of their code -/
set_option maxHeartbeats 4000000 in
set_option maxRecDepth 100000 in
theorem e189_0 {L : Nat} {S : Ad → Nat → Int32} {F d : Nat} {μ : Mm} : run L S (F + 1) d 189 0 [some (vR (2, 0, 0))] μ =
    let μ1 : Mm := mset μ (2, 0, 0) 0 0
    let x2 : Int32 := μ1 (2, 0, 1) 29
    if x2 = 0 then
      let x3 : Int32 := μ1 (2, 0, 1) 3
      some (x3, μ1)
    else
      some ((-1), μ1) := by
  unfold run
  rw [DF_succ]
  rfl
set_option maxHeartbeats 4000000 in
set_option maxRecDepth 100000 in
theorem e190_0 {L : Nat} {S : Ad → Nat → Int32} {F d : Nat} {μ : Mm} {a1 : Int32} : run L S (F + 1) d 190 0 [some (vR (2, 0, 0)), some (vI a1)] μ =
    let μ1 : Mm := mset μ (2, 0, 0) 0 0
    if a1 < 0 then
      some ((-3), μ1)
    else
      let x2 : Int32 := μ1 (2, 0, 1) 4
      if a1 < x2 then
        bif inb (212 + a1) 1278 then
          let x3 : Int32 := μ1 (2, 0, 1) (Int32.toNatClampNeg (212 + a1))
          some (x3, μ1)
        else none
      else
        some ((-1), μ1) := by
  unfold run
  rw [DF_succ]
  rfl
set_option maxHeartbeats 4000000 in
set_option maxRecDepth 100000 in
theorem e191_0 {L : Nat} {S : Ad → Nat → Int32} {F d : Nat} {μ : Mm} {a1 : Int32} : run L S (F + 1) d 191 0 [some (vR (2, 0, 0)), some (vI a1)] μ =
    let μ1 : Mm := mset μ (2, 0, 0) 0 0
    if a1 < 0 then
      some ((-3), μ1)
    else
      let x2 : Int32 := μ1 (2, 0, 1) 5
      if a1 < x2 then
        bif inb (228 + a1) 1278 then
          let x3 : Int32 := μ1 (2, 0, 1) (Int32.toNatClampNeg (228 + a1))
          some (x3, μ1)
        else none
      else
        some ((-1), μ1) := by
  unfold run
  rw [DF_succ]
  rfl
set_option maxHeartbeats 4000000 in
set_option maxRecDepth 100000 in
theorem e192_0 {L : Nat} {S : Ad → Nat → Int32} {F d : Nat} {μ : Mm} {a1 : Int32} : run L S (F + 1) d 192 0 [some (vR (2, 0, 0)), some (vI a1), none, none] μ =
    run L S F d 192 4 [some (vR (2, 0, 0)), some (vI a1), some (vI 0), some (vI 0)] μ := by
  unfold run
  rw [DF_succ]
  rfl
set_option maxHeartbeats 4000000 in
set_option maxRecDepth 100000 in
theorem e192_4 {L : Nat} {S : Ad → Nat → Int32} {F d : Nat} {μ : Mm} {a1 : Int32} {x_2 : Int32} {x_3 : Int32} : run L S (F + 1) d 192 4 [some (vR (2, 0, 0)), some (vI a1), some (vI x_2), some (vI x_3)] μ =
    let x1 : Int32 := μ (2, 0, 1) 0
    if x_3 < x1 then
      bif inb (76 + x_3) 1278 then
        let x2 : Int32 := μ (2, 0, 1) (Int32.toNatClampNeg (76 + x_3))
        if x2 < a1 then
          run L S F d 192 4 [some (vR (2, 0, 0)), some (vI a1), some (vI (x_2 ||| 0)), some (vI (x_3 + 1))] μ
        else
          run L S F d 192 4 [some (vR (2, 0, 0)), some (vI a1), some (vI (x_2 ||| ((1 : Int32) <<< (x_3 &&& 31)))), some (vI (x_3 + 1))] μ
      else none
    else
      some (x_2, μ) := by
  unfold run
  rw [DF_succ]
  rfl
set_option maxHeartbeats 4000000 in
set_option maxRecDepth 100000 in
theorem e193_0 {L : Nat} {S : Ad → Nat → Int32} {F d : Nat} {μ : Mm} {a1 : Int32} : run L S (F + 1) (d + 1) 193 0 [some (vR (2, 0, 0)), some (vI a1)] μ =
    let μ1 : Mm := mset μ (2, 0, 0) 0 0
    (run L S F d 127 0 [some (vL ((a1 : Int32).toInt64)), none, some (vL ((1 : Int32).toInt64)), none, some (vL ((999 : Int32).toInt64)), none] μ1).bind fun p2 =>
    if p2.1 = 0 then
      some ((-3), p2.2)
    else
      (run L S F d 192 0 [some (vR (2, 0, 0)), some (vI a1), none, none] p2.2).bind fun p3 =>
      some (p3.1, p3.2) := by
  unfold run
  rw [DF_succ]
  rfl
set_option maxHeartbeats 4000000 in
set_option maxRecDepth 100000 in
theorem e194_0 {L : Nat} {S : Ad → Nat → Int32} {F d : Nat} {μ : Mm} : run L S (F + 1) (d + 1) 194 0 [some (vR (2, 0, 0)), none, none] μ =
    let μ1 : Mm := mset μ (2, 0, 0) 0 0
    let x2 : Int32 := μ1 (2, 0, 1) 31
    (run L S F d 192 0 [some (vR (2, 0, 0)), some (vI x2), none, none] μ1).bind fun p3 =>
    run L S F (d + 1) 194 19 [some (vR (2, 0, 0)), some (vI p3.1), some (vI 0)] p3.2 := by
  unfold run
  rw [DF_succ]
  rfl
set_option maxHeartbeats 4000000 in
set_option maxRecDepth 100000 in
theorem e194_19 {L : Nat} {S : Ad → Nat → Int32} {F d : Nat} {μ : Mm} {x_1 : Int32} {x_2 : Int32} : run L S (F + 1) (d + 1) 194 19 [some (vR (2, 0, 0)), some (vI x_1), some (vI x_2)] μ =
    let x1 : Int32 := μ (2, 0, 1) 0
    if x_2 < x1 then
      (run L S F d 150 0 [some (vR (2, 0, 0)), some (vI x_2)] μ).bind fun p2 =>
      bif inb (76 + x_2) 1278 then
        let x3 : Int32 := p2.2 (2, 0, 1) (Int32.toNatClampNeg (76 + x_2))
        if p2.1 < x3 then
          run L S F (d + 1) 194 19 [some (vR (2, 0, 0)), some (vI (x_1 &&& (-1))), some (vI (x_2 + 1))] p2.2
        else
          run L S F (d + 1) 194 19 [some (vR (2, 0, 0)), some (vI (x_1 &&& (((1 : Int32) <<< (x_2 &&& 31)) ^^^ (-1)))), some (vI (x_2 + 1))] p2.2
      else none
    else
      some (x_1, μ) := by
  unfold run
  rw [DF_succ]
  rfl
set_option maxHeartbeats 4000000 in
set_option maxRecDepth 100000 in
theorem e195_0 {L : Nat} {S : Ad → Nat → Int32} {F d : Nat} {μ : Mm} {a1 : Int32} : run L S (F + 1) (d + 1) 195 0 [some (vR (2, 0, 0)), some (vI a1), none, none] μ =
    let μ1 : Mm := mset μ (2, 0, 0) 0 0
    (run L S F d 127 0 [some (vL ((a1 : Int32).toInt64)), none, some (vL ((0 : Int32).toInt64)), none, some (vL ((2 : Int32).toInt64)), none] μ1).bind fun p2 =>
    if p2.1 = 0 then
      some ((-2), p2.2)
    else
      run L S F (d + 1) 195 24 [some (vR (2, 0, 0)), some (vI a1), some (vI 0), some (vI 1)] p2.2 := by
  unfold run
  rw [DF_succ]
  rfl
set_option maxHeartbeats 4000000 in
set_option maxRecDepth 100000 in
theorem e195_24 {L : Nat} {S : Ad → Nat → Int32} {F d : Nat} {μ : Mm} {a1 : Int32} {x_2 : Int32} {x_3 : Int32} : run L S (F + 1) (d + 1) 195 24 [some (vR (2, 0, 0)), some (vI a1), some (vI x_2), some (vI x_3)] μ =
    let x1 : Int32 := μ (2, 0, 1) 0
    if x_3 < x1 then
      bif inb (60 + x_3) 1278 then
        let x5 : Int32 := μ (2, 0, 1) (Int32.toNatClampNeg (60 + x_3))
        bif inb (60 + x_2) 1278 then
          let x6 : Int32 := μ (2, 0, 1) (Int32.toNatClampNeg (60 + x_2))
          if x6 < x5 then
            run L S F (d + 1) 195 24 [some (vR (2, 0, 0)), some (vI a1), some (vI x_3), some (vI (x_3 + 1))] μ
          else
            run L S F (d + 1) 195 24 [some (vR (2, 0, 0)), some (vI a1), some (vI x_2), some (vI (x_3 + 1))] μ
        else none
      else none
    else
      let x2 : Int32 := μ (2, 0, 1) 27
      bif inb (60 + x_2) 1278 then
        let x3 : Int32 := μ (2, 0, 1) (Int32.toNatClampNeg (60 + x_2))
        if a1 = 0 then
          some (x_2, μ)
        else
          if a1 = 1 then
            bif inb (60 + x_2) 1278 then
              let x4 : Int32 := μ (2, 0, 1) (Int32.toNatClampNeg (60 + x_2))
              some (x4, μ)
            else none
          else
            if 0 < (x2 - x3) then
              some ((x2 - x3), μ)
            else
              some (0, μ)
      else none := by
  unfold run
  rw [DF_succ]
  rfl
set_option maxHeartbeats 4000000 in
set_option maxRecDepth 100000 in
theorem e196_0 {L : Nat} {S : Ad → Nat → Int32} {F d : Nat} {μ : Mm} {a1 : Int32} : run L S (F + 1) (d + 1) 196 0 [some (vR (2, 0, 0)), some (vI a1)] μ =
    let μ1 : Mm := mset μ (2, 0, 0) 0 0
    (run L S F d 127 0 [some (vL ((a1 : Int32).toInt64)), none, some (vL ((0 : Int32).toInt64)), none, some (vL ((3 : Int32).toInt64)), none] μ1).bind fun p2 =>
    if p2.1 = 0 then
      some ((-2), p2.2)
    else
      bif inb (22 + a1) 1278 then
        let x3 : Int32 := p2.2 (2, 0, 1) (Int32.toNatClampNeg (22 + a1))
        some (x3, p2.2)
      else none := by
  unfold run
  rw [DF_succ]
  rfl
set_option maxHeartbeats 4000000 in
set_option maxRecDepth 100000 in
theorem e197_0 {L : Nat} {S : Ad → Nat → Int32} {F d : Nat} {μ : Mm} {a1 : Int32} : run L S (F + 1) (d + 1) 197 0 [some (vR (2, 0, 0)), some (vI a1)] μ =
    let μ1 : Mm := mset μ (2, 0, 0) 0 0
    (run L S F d 127 0 [some (vL ((a1 : Int32).toInt64)), none, some (vL ((0 : Int32).toInt64)), none, some (vL ((8 : Int32).toInt64)), none] μ1).bind fun p2 =>
    if p2.1 = 0 then
      some ((-2), p2.2)
    else
      bif inb (13 + a1) 1278 then
        let x3 : Int32 := p2.2 (2, 0, 1) (Int32.toNatClampNeg (13 + a1))
        some (x3, p2.2)
      else none := by
  unfold run
  rw [DF_succ]
  rfl
set_option maxHeartbeats 4000000 in
set_option maxRecDepth 100000 in
theorem e198_0 {L : Nat} {S : Ad → Nat → Int32} {F d : Nat} {μ : Mm} : run L S (F + 1) d 198 0 [some (vR (2, 0, 0))] μ =
    let x1 : Int32 := μ (2, 0, 1) 32
    let x2 : Int32 := μ (2, 0, 1) 33
    if x2 = 0 then none else
    some ((x1 / x2), μ) := by
  unfold run
  rw [DF_succ]
  rfl
set_option maxHeartbeats 4000000 in
set_option maxRecDepth 100000 in
theorem e199_0 {L : Nat} {S : Ad → Nat → Int32} {F d : Nat} {μ : Mm} : run L S (F + 1) (d + 1) 199 0 [some (vR (2, 0, 0))] μ =
    let μ1 : Mm := mset μ (2, 0, 0) 0 0
    (run L S F d 198 0 [some (vR (2, 0, 0))] μ1).bind fun p2 =>
    some (p2.1, p2.2) := by
  unfold run
  rw [DF_succ]
  rfl
set_option maxHeartbeats 4000000 in
set_option maxRecDepth 100000 in
theorem e200_0 {L : Nat} {S : Ad → Nat → Int32} {F d : Nat} {μ : Mm} : run L S (F + 1) (d + 1) 200 0 [some (vR (2, 0, 0))] μ =
    let μ1 : Mm := mset μ (2, 0, 0) 0 0
    (run L S F d 198 0 [some (vR (2, 0, 0))] μ1).bind fun p2 =>
    let x3 : Int32 := p2.2 (2, 0, 1) 31
    if x3 = 0 then none else
    some ((p2.1 / x3), p2.2) := by
  unfold run
  rw [DF_succ]
  rfl
set_option maxHeartbeats 4000000 in
set_option maxRecDepth 100000 in
theorem e201_0 {L : Nat} {S : Ad → Nat → Int32} {F d : Nat} {μ : Mm} : run L S (F + 1) (d + 1) 201 0 [some (vR (2, 0, 0)), none] μ =
    (run L S F d 129 0 [some (vR (2, 0, 1)), some (vI 0), some (vR (2, 0, 3)), some (vI 0), none] μ).bind fun p1 =>
    let μ2 : Mm := mset p1.2 (2, 0, 1) 5 0
    let μ3 : Mm := mset μ2 (2, 0, 0) 9 0
    run L S F (d + 1) 201 27 [some (vR (2, 0, 0)), some (vI 0)] μ3 := by
  unfold run
  rw [DF_succ]
  rfl
set_option maxHeartbeats 4000000 in
set_option maxRecDepth 100000 in
theorem e201_27 {L : Nat} {S : Ad → Nat → Int32} {F d : Nat} {μ : Mm} {x_1 : Int32} : run L S (F + 1) (d + 1) 201 27 [some (vR (2, 0, 0)), some (vI x_1)] μ =
    let x1 : Int32 := μ (2, 0, 1) 0
    if x_1 < x1 then
      bif inb (60 + x_1) 1278 then
        let x2 : Int32 := μ (2, 0, 1) (Int32.toNatClampNeg (60 + x_1))
        if (μ (2, 0, 0) 9) < x2 then
          bif inb (60 + x_1) 1278 then
            let x4 : Int32 := μ (2, 0, 1) (Int32.toNatClampNeg (60 + x_1))
            let μ5 : Mm := mset μ (2, 0, 0) 9 x4
            run L S F (d + 1) 201 27 [some (vR (2, 0, 0)), some (vI (x_1 + 1))] μ5
          else none
        else
          let μ3 : Mm := mset μ (2, 0, 0) 9 (μ (2, 0, 0) 9)
          run L S F (d + 1) 201 27 [some (vR (2, 0, 0)), some (vI (x_1 + 1))] μ3
      else none
    else
      some (0, μ) := by
  unfold run
  rw [DF_succ]
  rfl
set_option maxHeartbeats 4000000 in
set_option maxRecDepth 100000 in
theorem e202_0 {L : Nat} {S : Ad → Nat → Int32} {F d : Nat} {μ : Mm} : run L S (F + 1) (d + 1) 202 0 [some (vR (2, 0, 0))] μ =
    (run L S F d 129 0 [some (vR (2, 0, 3)), some (vI 0), some (vR (2, 0, 1)), some (vI 0), none] μ).bind fun p1 =>
    some (0, p1.2) := by
  unfold run
  rw [DF_succ]
  rfl
set_option maxHeartbeats 4000000 in
set_option maxRecDepth 100000 in
theorem e203_0 {L : Nat} {S : Ad → Nat → Int32} {F d : Nat} {μ : Mm} : run L S (F + 1) (d + 1) 203 0 [some (vR (2, 0, 0)), none] μ =
    run L S F (d + 1) 203 2 [some (vR (2, 0, 0)), some (vI 0)] μ := by
  unfold run
  rw [DF_succ]
  rfl
set_option maxHeartbeats 4000000 in
set_option maxRecDepth 100000 in
theorem e203_2 {L : Nat} {S : Ad → Nat → Int32} {F d : Nat} {μ : Mm} {x_1 : Int32} : run L S (F + 1) (d + 1) 203 2 [some (vR (2, 0, 0)), some (vI x_1)] μ =
    if x_1 < 500 then
      let x1 : Int32 := μ (2, 0, 1) 5
      if 0 < x1 then
        (run L S F d 161 0 [some (vR (2, 0, 0)), none, none] μ).bind fun p2 =>
        run L S F (d + 1) 203 2 [some (vR (2, 0, 0)), some (vI (x_1 + 1))] p2.2
      else
        let x3 : Int32 := μ (2, 0, 1) 4
        if 0 < x3 then
          (run L S F d 161 0 [some (vR (2, 0, 0)), none, none] μ).bind fun p4 =>
          run L S F (d + 1) 203 2 [some (vR (2, 0, 0)), some (vI (x_1 + 1))] p4.2
        else
          let x5 : Int32 := μ (2, 0, 1) 8
          if 0 < x5 then
            (run L S F d 161 0 [some (vR (2, 0, 0)), none, none] μ).bind fun p6 =>
            run L S F (d + 1) 203 2 [some (vR (2, 0, 0)), some (vI (x_1 + 1))] p6.2
          else
            some (x_1, μ)
    else
      some (x_1, μ) := by
  unfold run
  rw [DF_succ]
  rfl
set_option maxHeartbeats 4000000 in
set_option maxRecDepth 100000 in
theorem e204_0 {L : Nat} {S : Ad → Nat → Int32} {F d : Nat} {μ : Mm} {a1 : Int32} {a2 : Int32} {a3 : Int32} : run L S (F + 1) (d + 1) 204 0 [some (vR (2, 0, 0)), some (vI a1), some (vI a2), some (vI a3), none, none, none, none, none] μ =
    bif inb (44 + a1) 1278 then
      let x1 : Int32 := μ (2, 0, 1) (Int32.toNatClampNeg (44 + a1))
      if a3 = 0 then
        if a3 = 0 then
          run L S F (d + 1) 204 79 [some (vR (2, 0, 0)), none, some (vI a2), none, none, some (vI a1), some (vI a1), some (vI 0), none] μ
        else
          let x10 : Int32 := μ (2, 0, 1) 0
          if x1 = (x10 - 1) then
            (run L S F d 132 0 [some (vR (2, 0, 0)), some (vI (x1 - 1)), none] μ).bind fun p12 =>
            run L S F (d + 1) 204 79 [some (vR (2, 0, 0)), none, some (vI a2), none, none, some (vI a1), some (vI p12.1), some (vI 0), none] p12.2
          else
            (run L S F d 132 0 [some (vR (2, 0, 0)), some (vI (x1 + 1)), none] μ).bind fun p11 =>
            run L S F (d + 1) 204 79 [some (vR (2, 0, 0)), none, some (vI a2), none, none, some (vI a1), some (vI p11.1), some (vI 0), none] p11.2
      else
        if x1 = 0 then
          (run L S F d 132 0 [some (vR (2, 0, 0)), some (vI 1), none] μ).bind fun p6 =>
          if a3 = 0 then
            run L S F (d + 1) 204 79 [some (vR (2, 0, 0)), none, some (vI a2), none, none, some (vI p6.1), some (vI a1), some (vI 0), none] p6.2
          else
            let x7 : Int32 := p6.2 (2, 0, 1) 0
            if x1 = (x7 - 1) then
              (run L S F d 132 0 [some (vR (2, 0, 0)), some (vI (x1 - 1)), none] p6.2).bind fun p9 =>
              run L S F (d + 1) 204 79 [some (vR (2, 0, 0)), none, some (vI a2), none, none, some (vI p6.1), some (vI p9.1), some (vI 0), none] p9.2
            else
              (run L S F d 132 0 [some (vR (2, 0, 0)), some (vI (x1 + 1)), none] p6.2).bind fun p8 =>
              run L S F (d + 1) 204 79 [some (vR (2, 0, 0)), none, some (vI a2), none, none, some (vI p6.1), some (vI p8.1), some (vI 0), none] p8.2
        else
          (run L S F d 132 0 [some (vR (2, 0, 0)), some (vI (x1 - 1)), none] μ).bind fun p2 =>
          if a3 = 0 then
            run L S F (d + 1) 204 79 [some (vR (2, 0, 0)), none, some (vI a2), none, none, some (vI p2.1), some (vI a1), some (vI 0), none] p2.2
          else
            let x3 : Int32 := p2.2 (2, 0, 1) 0
            if x1 = (x3 - 1) then
              (run L S F d 132 0 [some (vR (2, 0, 0)), some (vI (x1 - 1)), none] p2.2).bind fun p5 =>
              run L S F (d + 1) 204 79 [some (vR (2, 0, 0)), none, some (vI a2), none, none, some (vI p2.1), some (vI p5.1), some (vI 0), none] p5.2
            else
              (run L S F d 132 0 [some (vR (2, 0, 0)), some (vI (x1 + 1)), none] p2.2).bind fun p4 =>
              run L S F (d + 1) 204 79 [some (vR (2, 0, 0)), none, some (vI a2), none, none, some (vI p2.1), some (vI p4.1), some (vI 0), none] p4.2
    else none := by
  unfold run
  rw [DF_succ]
  rfl
set_option maxHeartbeats 4000000 in
set_option maxRecDepth 100000 in
theorem e204_79 {L : Nat} {S : Ad → Nat → Int32} {F d : Nat} {μ : Mm} {a2 : Int32} {x_5 : Int32} {x_6 : Int32} {x_7 : Int32} : run L S (F + 1) (d + 1) 204 79 [some (vR (2, 0, 0)), none, some (vI a2), none, none, some (vI x_5), some (vI x_6), some (vI x_7), none] μ =
    if x_7 < a2 then
      if (x_7 - x_7 / 2 * 2) = 0 then
        (run L S F d 165 0 [some (vR (2, 0, 0)), some (vI x_5)] μ).bind fun p5 =>
        run L S F (d + 1) 204 79 [some (vR (2, 0, 0)), none, some (vI a2), none, none, some (vI x_5), some (vI x_6), some (vI (x_7 + 1)), none] p5.2
      else
        (run L S F d 165 0 [some (vR (2, 0, 0)), some (vI x_6)] μ).bind fun p4 =>
        run L S F (d + 1) 204 79 [some (vR (2, 0, 0)), none, some (vI a2), none, none, some (vI x_5), some (vI x_6), some (vI (x_7 + 1)), none] p4.2
    else
      let x1 : Int32 := μ (2, 0, 1) 16
      (run L S F d 203 0 [some (vR (2, 0, 0)), none] μ).bind fun p2 =>
      let x3 : Int32 := p2.2 (2, 0, 1) 16
      some ((x3 - x1), p2.2) := by
  unfold run
  rw [DF_succ]
  rfl
set_option maxHeartbeats 4000000 in
set_option maxRecDepth 100000 in
theorem e205_0 {L : Nat} {S : Ad → Nat → Int32} {F d : Nat} {μ : Mm} {a1 : Int32} {a2 : Int32} {a3 : Int32} : run L S (F + 1) (d + 1) 205 0 [some (vR (2, 0, 0)), some (vI a1), some (vI a2), some (vI a3), none] μ =
    let μ1 : Mm := mset μ (2, 0, 0) 0 0
    (run L S F d 131 0 [some (vR (2, 0, 0)), some (vI a1)] μ1).bind fun p2 =>
    if p2.1 = 0 then
      some ((-2), p2.2)
    else
      (run L S F d 127 0 [some (vL ((a3 : Int32).toInt64)), none, some (vL ((0 : Int32).toInt64)), none, some (vL ((1 : Int32).toInt64)), none] p2.2).bind fun p3 =>
      if p3.1 = 0 then
        some ((-2), p3.2)
      else
        (run L S F d 127 0 [some (vL ((a2 : Int32).toInt64)), none, some (vL ((1 : Int32).toInt64)), none, some (vL ((99 : Int32).toInt64)), none] p3.2).bind fun p4 =>
        if p4.1 = 0 then
          some ((-3), p4.2)
        else
          (run L S F d 201 0 [some (vR (2, 0, 0)), none] p4.2).bind fun p5 =>
          (run L S F d 204 0 [some (vR (2, 0, 0)), some (vI a1), some (vI a2), some (vI a3), none, none, none, none, none] p5.2).bind fun p6 =>
          (run L S F d 202 0 [some (vR (2, 0, 0))] p6.2).bind fun p7 =>
          let x8 : Int32 := p7.2 (2, 0, 0) 9
          some (x8, p7.2) := by
  unfold run
  rw [DF_succ]
  rfl
set_option maxHeartbeats 4000000 in
set_option maxRecDepth 100000 in
theorem e206_0 {L : Nat} {S : Ad → Nat → Int32} {F d : Nat} {μ : Mm} {a1 : Int32} {a2 : Int32} {a3 : Int32} : run L S (F + 1) (d + 1) 206 0 [some (vR (2, 0, 0)), some (vI a1), some (vI a2), some (vI a3), none] μ =
    (run L S F d 201 0 [some (vR (2, 0, 0)), none] μ).bind fun p1 =>
    (run L S F d 204 0 [some (vR (2, 0, 0)), some (vI a1), some (vI a2), some (vI a3), none, none, none, none, none] p1.2).bind fun p2 =>
    (run L S F d 202 0 [some (vR (2, 0, 0))] p2.2).bind fun p3 =>
    some (p2.1, p3.2) := by
  unfold run
  rw [DF_succ]
  rfl
set_option maxHeartbeats 4000000 in
set_option maxRecDepth 100000 in
theorem e207_0 {L : Nat} {S : Ad → Nat → Int32} {F d : Nat} {μ : Mm} {a1 : Int32} {a2 : Int32} : run L S (F + 1) (d + 1) 207 0 [some (vR (2, 0, 0)), some (vI a1), some (vI a2), none] μ =
    let μ1 : Mm := mset μ (2, 0, 0) 0 0
    (run L S F d 131 0 [some (vR (2, 0, 0)), some (vI a1)] μ1).bind fun p2 =>
    if p2.1 = 0 then
      some ((-2), p2.2)
    else
      (run L S F d 127 0 [some (vL ((a2 : Int32).toInt64)), none, some (vL ((0 : Int32).toInt64)), none, some (vL ((1 : Int32).toInt64)), none] p2.2).bind fun p3 =>
      if p3.1 = 0 then
        some ((-2), p3.2)
      else
        run L S F (d + 1) 207 28 [some (vR (2, 0, 0)), some (vI a1), some (vI a2), some (vI 1)] p3.2 := by
  unfold run
  rw [DF_succ]
  rfl
set_option maxHeartbeats 4000000 in
set_option maxRecDepth 100000 in
theorem e207_28 {L : Nat} {S : Ad → Nat → Int32} {F d : Nat} {μ : Mm} {a1 : Int32} {a2 : Int32} {x_3 : Int32} : run L S (F + 1) (d + 1) 207 28 [some (vR (2, 0, 0)), some (vI a1), some (vI a2), some (vI x_3)] μ =
    if 99 < x_3 then
      some ((-1), μ)
    else
      (run L S F d 206 0 [some (vR (2, 0, 0)), some (vI a1), some (vI x_3), some (vI a2), none] μ).bind fun p1 =>
      if 0 < p1.1 then
        some (x_3, p1.2)
      else
        run L S F (d + 1) 207 28 [some (vR (2, 0, 0)), some (vI a1), some (vI a2), some (vI (x_3 + 1))] p1.2 := by
  unfold run
  rw [DF_succ]
  rfl
set_option maxHeartbeats 4000000 in
set_option maxRecDepth 100000 in
theorem e208_0 {L : Nat} {S : Ad → Nat → Int32} {F d : Nat} {μ : Mm} {a1 : Int32} : run L S (F + 1) (d + 1) 208 0 [some (vR (2, 0, 0)), some (vI a1), none, none, none, none] μ =
    run L S F (d + 1) 208 4 [some (vR (2, 0, 0)), some (vI a1), some (vI 1), some (vI 0), none, none] μ := by
  unfold run
  rw [DF_succ]
  rfl
set_option maxHeartbeats 4000000 in
set_option maxRecDepth 100000 in
theorem e208_4 {L : Nat} {S : Ad → Nat → Int32} {F d : Nat} {μ : Mm} {a1 : Int32} {x_2 : Int32} {x_3 : Int32} : run L S (F + 1) (d + 1) 208 4 [some (vR (2, 0, 0)), some (vI a1), some (vI x_2), some (vI x_3), none, none] μ =
    if x_3 < a1 then
      let x3 : Int32 := μ (2, 0, 1) 0
      run L S F (d + 1) 208 4 [some (vR (2, 0, 0)), some (vI a1), some (vI (x_2 * x3)), some (vI (x_3 + 1)), none, none] μ
    else
      let μ1 : Mm := mset μ (2, 0, 0) 21 (-1)
      let μ2 : Mm := mset μ1 (2, 0, 0) 23 0
      run L S F (d + 1) 208 36 [some (vR (2, 0, 0)), none, some (vI x_2), some (vI 0), none, none] μ2 := by
  unfold run
  rw [DF_succ]
  rfl
set_option maxHeartbeats 4000000 in
set_option maxRecDepth 100000 in
theorem e208_36 {L : Nat} {S : Ad → Nat → Int32} {F d : Nat} {μ : Mm} {x_2 : Int32} {x_3 : Int32} : run L S (F + 1) (d + 1) 208 36 [some (vR (2, 0, 0)), none, some (vI x_2), some (vI x_3), none, none] μ =
    if x_3 < x_2 then
      (run L S F d 201 0 [some (vR (2, 0, 0)), none] μ).bind fun p1 =>
      let x2 : Int32 := p1.2 (2, 0, 1) 16
      let x3 : Int32 := p1.2 (2, 0, 1) 0
      if x3 = 0 then none else
      run L S F (d + 1) 208 64 [some (vR (2, 0, 0)), none, some (vI x_2), some (vI x_3), some (vI x2), some (vI (x_2 / x3))] p1.2
    else
      some (0, μ) := by
  unfold run
  rw [DF_succ]
  rfl
set_option maxHeartbeats 4000000 in
set_option maxRecDepth 100000 in
theorem e208_64 {L : Nat} {S : Ad → Nat → Int32} {F d : Nat} {μ : Mm} {x_2 : Int32} {x_3 : Int32} {x_4 : Int32} {x_5 : Int32} : run L S (F + 1) (d + 1) 208 64 [some (vR (2, 0, 0)), none, some (vI x_2), some (vI x_3), some (vI x_4), some (vI x_5)] μ =
    if 0 < x_5 then
      if x_5 = 0 then none else
      let x16 : Int32 := μ (2, 0, 1) 0
      if x16 = 0 then none else
      (run L S F d 165 0 [some (vR (2, 0, 0)), some (vI ((x_3 / x_5) - (x_3 / x_5) / x16 * x16))] μ).bind fun p17 =>
      let x18 : Int32 := p17.2 (2, 0, 1) 0
      if x18 = 0 then none else
      run L S F (d + 1) 208 64 [some (vR (2, 0, 0)), none, some (vI x_2), some (vI x_3), some (vI x_4), some (vI (x_5 / x18))] p17.2
    else
      (run L S F d 203 0 [some (vR (2, 0, 0)), none] μ).bind fun p1 =>
      let x2 : Int32 := p1.2 (2, 0, 1) 16
      if x_4 < x2 then
        let μ9 : Mm := mset p1.2 (2, 0, 0) 23 1
        (run L S F d 202 0 [some (vR (2, 0, 0))] μ9).bind fun p10 =>
        let x11 : Int32 := p10.2 (2, 0, 0) 9
        let x12 : Int32 := p10.2 (2, 0, 0) 21
        if x12 < x11 then
          let x13 : Int32 := p10.2 (2, 0, 0) 9
          let μ14 : Mm := mset p10.2 (2, 0, 0) 21 x13
          let μ15 : Mm := mset μ14 (2, 0, 0) 22 x_3
          run L S F (d + 1) 208 36 [some (vR (2, 0, 0)), none, some (vI x_2), some (vI (x_3 + 1)), none, none] μ15
        else
          run L S F (d + 1) 208 36 [some (vR (2, 0, 0)), none, some (vI x_2), some (vI (x_3 + 1)), none, none] p10.2
      else
        (run L S F d 202 0 [some (vR (2, 0, 0))] p1.2).bind fun p3 =>
        let x4 : Int32 := p3.2 (2, 0, 0) 9
        let x5 : Int32 := p3.2 (2, 0, 0) 21
        if x5 < x4 then
          let x6 : Int32 := p3.2 (2, 0, 0) 9
          let μ7 : Mm := mset p3.2 (2, 0, 0) 21 x6
          let μ8 : Mm := mset μ7 (2, 0, 0) 22 x_3
          run L S F (d + 1) 208 36 [some (vR (2, 0, 0)), none, some (vI x_2), some (vI (x_3 + 1)), none, none] μ8
        else
          run L S F (d + 1) 208 36 [some (vR (2, 0, 0)), none, some (vI x_2), some (vI (x_3 + 1)), none, none] p3.2 := by
  unfold run
  rw [DF_succ]
  rfl
set_option maxHeartbeats 4000000 in
set_option maxRecDepth 100000 in
theorem e209_0 {L : Nat} {S : Ad → Nat → Int32} {F d : Nat} {μ : Mm} {a1 : Int32} : run L S (F + 1) (d + 1) 209 0 [some (vR (2, 0, 0)), some (vI a1)] μ =
    let μ1 : Mm := mset μ (2, 0, 0) 0 0
    (run L S F d 127 0 [some (vL ((a1 : Int32).toInt64)), none, some (vL ((1 : Int32).toInt64)), none, some (vL ((5 : Int32).toInt64)), none] μ1).bind fun p2 =>
    if p2.1 = 0 then
      some ((-3), p2.2)
    else
      let x3 : Int32 := p2.2 (2, 0, 1) 0
      if 6 < x3 then
        some ((-5), p2.2)
      else
        (run L S F d 208 0 [some (vR (2, 0, 0)), some (vI a1), none, none, none, none] p2.2).bind fun p4 =>
        let x5 : Int32 := p4.2 (2, 0, 0) 21
        some (x5, p4.2) := by
  unfold run
  rw [DF_succ]
  rfl
set_option maxHeartbeats 4000000 in
set_option maxRecDepth 100000 in
theorem e210_0 {L : Nat} {S : Ad → Nat → Int32} {F d : Nat} {μ : Mm} {a1 : Int32} {a2 : Int32} : run L S (F + 1) (d + 1) 210 0 [some (vR (2, 0, 0)), some (vI a1), some (vI a2), none, none] μ =
    let μ1 : Mm := mset μ (2, 0, 0) 0 0
    (run L S F d 127 0 [some (vL ((a1 : Int32).toInt64)), none, some (vL ((1 : Int32).toInt64)), none, some (vL ((5 : Int32).toInt64)), none] μ1).bind fun p2 =>
    if p2.1 = 0 then
      some ((-3), p2.2)
    else
      if a2 < 0 then
        some ((-3), p2.2)
      else
        let x3 : Int32 := p2.2 (2, 0, 1) 0
        if 6 < x3 then
          some ((-5), p2.2)
        else
          if a2 < a1 then
            (run L S F d 208 0 [some (vR (2, 0, 0)), some (vI a1), none, none, none, none] p2.2).bind fun p4 =>
            let x5 : Int32 := p4.2 (2, 0, 0) 22
            run L S F (d + 1) 210 60 [some (vR (2, 0, 0)), none, some (vI a2), some (vI x5), some (vI (a1 - 1))] p4.2
          else
            some ((-1), p2.2) := by
  unfold run
  rw [DF_succ]
  rfl
set_option maxHeartbeats 4000000 in
set_option maxRecDepth 100000 in
theorem e210_60 {L : Nat} {S : Ad → Nat → Int32} {F d : Nat} {μ : Mm} {a2 : Int32} {x_3 : Int32} {x_4 : Int32} : run L S (F + 1) (d + 1) 210 60 [some (vR (2, 0, 0)), none, some (vI a2), some (vI x_3), some (vI x_4)] μ =
    if a2 < x_4 then
      let x2 : Int32 := μ (2, 0, 1) 0
      if x2 = 0 then none else
      run L S F (d + 1) 210 60 [some (vR (2, 0, 0)), none, some (vI a2), some (vI (x_3 / x2)), some (vI (x_4 + (-1)))] μ
    else
      let x1 : Int32 := μ (2, 0, 1) 0
      if x1 = 0 then none else
      some ((x_3 - x_3 / x1 * x1), μ) := by
  unfold run
  rw [DF_succ]
  rfl
set_option maxHeartbeats 4000000 in
set_option maxRecDepth 100000 in
theorem e211_0 {L : Nat} {S : Ad → Nat → Int32} {F d : Nat} {μ : Mm} : run L S (F + 1) (d + 1) 211 0 [some (vR (2, 0, 0)), none] μ =
    let μ1 : Mm := mset μ (2, 0, 0) 0 0
    let x2 : Int32 := μ1 (2, 0, 1) 0
    if 6 < x2 then
      some ((-5), μ1)
    else
      run L S F (d + 1) 211 21 [some (vR (2, 0, 0)), some (vI 1)] μ1 := by
  unfold run
  rw [DF_succ]
  rfl
set_option maxHeartbeats 4000000 in
set_option maxRecDepth 100000 in
theorem e211_21 {L : Nat} {S : Ad → Nat → Int32} {F d : Nat} {μ : Mm} {x_1 : Int32} : run L S (F + 1) (d + 1) 211 21 [some (vR (2, 0, 0)), some (vI x_1)] μ =
    if 5 < x_1 then
      some ((-1), μ)
    else
      (run L S F d 208 0 [some (vR (2, 0, 0)), some (vI x_1), none, none, none, none] μ).bind fun p1 =>
      let x2 : Int32 := p1.2 (2, 0, 0) 23
      if 0 < x2 then
        some (x_1, p1.2)
      else
        run L S F (d + 1) 211 21 [some (vR (2, 0, 0)), some (vI (x_1 + 1))] p1.2 := by
  unfold run
  rw [DF_succ]
  rfl
set_option maxHeartbeats 4000000 in
set_option maxRecDepth 100000 in
theorem e212_0 {L : Nat} {S : Ad → Nat → Int32} {F d : Nat} {μ : Mm} {a1 : Int32} {a2 : Int32} : run L S (F + 1) (d + 1) 212 0 [some (vR (2, 0, 0)), some (vI a1), some (vI a2)] μ =
    (run L S F d 129 0 [some (vR (2, 0, 1)), some (vI 0), some (vR (2, 0, 10)), some (vI 0), none] μ).bind fun p1 =>
    bif inb a1 1278 then
      let μ2 : Mm := mset p1.2 (2, 0, 1) (Int32.toNatClampNeg a1) a2
      (run L S F d 140 0 [some (vR (2, 0, 0)), none] μ2).bind fun p3 =>
      some (0, p3.2)
    else none := by
  unfold run
  rw [DF_succ]
  rfl
set_option maxHeartbeats 4000000 in
set_option maxRecDepth 100000 in
theorem e213_0 {L : Nat} {S : Ad → Nat → Int32} {F d : Nat} {μ : Mm} : run L S (F + 1) (d + 1) 213 0 [some (vR (2, 0, 0))] μ =
    (run L S F d 129 0 [some (vR (2, 0, 10)), some (vI 0), some (vR (2, 0, 1)), some (vI 0), none] μ).bind fun p1 =>
    some (0, p1.2) := by
  unfold run
  rw [DF_succ]
  rfl
set_option maxHeartbeats 4000000 in
set_option maxRecDepth 100000 in
theorem e214_0 {L : Nat} {S : Ad → Nat → Int32} {F d : Nat} {μ : Mm} {a1 : Int32} {a2 : Int32} : run L S (F + 1) (d + 1) 214 0 [some (vR (2, 0, 0)), some (vI a1), some (vI a2)] μ =
    let μ1 : Mm := mset μ (2, 0, 0) 0 0
    (run L S F d 127 0 [some (vL ((a1 : Int32).toInt64)), none, some (vL ((0 : Int32).toInt64)), none, some (vL ((5 : Int32).toInt64)), none] μ1).bind fun p2 =>
    if p2.1 = 0 then
      some ((-2), p2.2)
    else
      (run L S F d 127 0 [some (vL ((a2 : Int32).toInt64)), none, some (vL ((1 : Int32).toInt64)), none, some (vL ((5 : Int32).toInt64)), none] p2.2).bind fun p3 =>
      if p3.1 = 0 then
        some ((-3), p3.2)
      else
        let x4 : Int32 := p3.2 (2, 0, 1) 0
        if 6 < x4 then
          some ((-5), p3.2)
        else
          (run L S F d 212 0 [some (vR (2, 0, 0)), some (vI 29), some (vI a1)] p3.2).bind fun p5 =>
          (run L S F d 208 0 [some (vR (2, 0, 0)), some (vI a2), none, none, none, none] p5.2).bind fun p6 =>
          (run L S F d 213 0 [some (vR (2, 0, 0))] p6.2).bind fun p7 =>
          let x8 : Int32 := p7.2 (2, 0, 0) 21
          some (x8, p7.2) := by
  unfold run
  rw [DF_succ]
  rfl
set_option maxHeartbeats 4000000 in
set_option maxRecDepth 100000 in
theorem e215_0 {L : Nat} {S : Ad → Nat → Int32} {F d : Nat} {μ : Mm} {a1 : Int32} {a2 : Int32} {a3 : Int32} : run L S (F + 1) (d + 1) 215 0 [some (vR (2, 0, 0)), some (vI a1), some (vI a2), some (vI a3), none, none] μ =
    (run L S F d 212 0 [some (vR (2, 0, 0)), some (vI a1), some (vI a2)] μ).bind fun p1 =>
    run L S F (d + 1) 215 12 [some (vR (2, 0, 0)), none, none, some (vI a3), some (vI 1), some (vI 0)] p1.2 := by
  unfold run
  rw [DF_succ]
  rfl
set_option maxHeartbeats 4000000 in
set_option maxRecDepth 100000 in
theorem e215_12 {L : Nat} {S : Ad → Nat → Int32} {F d : Nat} {μ : Mm} {a3 : Int32} {x_4 : Int32} {x_5 : Int32} : run L S (F + 1) (d + 1) 215 12 [some (vR (2, 0, 0)), none, none, some (vI a3), some (vI x_4), some (vI x_5)] μ =
    let x1 : Int32 := μ (2, 0, 1) 0
    if x_5 < x1 then
      if x_4 = 0 then
        run L S F (d + 1) 215 12 [some (vR (2, 0, 0)), none, none, some (vI a3), some (vI 0), some (vI (x_5 + 1))] μ
      else
        (run L S F d 206 0 [some (vR (2, 0, 0)), some (vI x_5), some (vI a3), some (vI 0), none] μ).bind fun p3 =>
        if p3.1 = 0 then
          (run L S F d 206 0 [some (vR (2, 0, 0)), some (vI x_5), some (vI a3), some (vI 1), none] p3.2).bind fun p4 =>
          if p4.1 = 0 then
            run L S F (d + 1) 215 12 [some (vR (2, 0, 0)), none, none, some (vI a3), some (vI 1), some (vI (x_5 + 1))] p4.2
          else
            run L S F (d + 1) 215 12 [some (vR (2, 0, 0)), none, none, some (vI a3), some (vI 0), some (vI (x_5 + 1))] p4.2
        else
          run L S F (d + 1) 215 12 [some (vR (2, 0, 0)), none, none, some (vI a3), some (vI 0), some (vI (x_5 + 1))] p3.2
    else
      (run L S F d 213 0 [some (vR (2, 0, 0))] μ).bind fun p2 =>
      some (vp_nar .boolean x_4, p2.2) := by
  unfold run
  rw [DF_succ]
  rfl
set_option maxHeartbeats 4000000 in
set_option maxRecDepth 100000 in
theorem e216_0 {L : Nat} {S : Ad → Nat → Int32} {F d : Nat} {μ : Mm} {a1 : Int32} : run L S (F + 1) (d + 1) 216 0 [some (vR (2, 0, 0)), some (vI a1), none] μ =
    let μ1 : Mm := mset μ (2, 0, 0) 0 0
    (run L S F d 127 0 [some (vL ((a1 : Int32).toInt64)), none, some (vL ((1 : Int32).toInt64)), none, some (vL ((30 : Int32).toInt64)), none] μ1).bind fun p2 =>
    if p2.1 = 0 then
      some ((-3), p2.2)
    else
      run L S F (d + 1) 216 23 [some (vR (2, 0, 0)), some (vI a1), some (vI 99)] p2.2 := by
  unfold run
  rw [DF_succ]
  rfl
set_option maxHeartbeats 4000000 in
set_option maxRecDepth 100000 in
theorem e216_23 {L : Nat} {S : Ad → Nat → Int32} {F d : Nat} {μ : Mm} {a1 : Int32} {x_2 : Int32} : run L S (F + 1) (d + 1) 216 23 [some (vR (2, 0, 0)), some (vI a1), some (vI x_2)] μ =
    if 0 < x_2 then
      (run L S F d 215 0 [some (vR (2, 0, 0)), some (vI 31), some (vI x_2), some (vI a1), none, none] μ).bind fun p1 =>
      if p1.1 = 0 then
        run L S F (d + 1) 216 23 [some (vR (2, 0, 0)), some (vI a1), some (vI (x_2 + (-1)))] p1.2
      else
        some (x_2, p1.2)
    else
      some ((-1), μ) := by
  unfold run
  rw [DF_succ]
  rfl
set_option maxHeartbeats 4000000 in
set_option maxRecDepth 100000 in
theorem e217_0 {L : Nat} {S : Ad → Nat → Int32} {F d : Nat} {μ : Mm} {a1 : Int32} : run L S (F + 1) (d + 1) 217 0 [some (vR (2, 0, 0)), some (vI a1), none] μ =
    let μ1 : Mm := mset μ (2, 0, 0) 0 0
    (run L S F d 127 0 [some (vL ((a1 : Int32).toInt64)), none, some (vL ((1 : Int32).toInt64)), none, some (vL ((30 : Int32).toInt64)), none] μ1).bind fun p2 =>
    if p2.1 = 0 then
      some ((-3), p2.2)
    else
      run L S F (d + 1) 217 22 [some (vR (2, 0, 0)), some (vI a1), some (vI 1)] p2.2 := by
  unfold run
  rw [DF_succ]
  rfl
set_option maxHeartbeats 4000000 in
set_option maxRecDepth 100000 in
theorem e217_22 {L : Nat} {S : Ad → Nat → Int32} {F d : Nat} {μ : Mm} {a1 : Int32} {x_2 : Int32} : run L S (F + 1) (d + 1) 217 22 [some (vR (2, 0, 0)), some (vI a1), some (vI x_2)] μ =
    if 8 < x_2 then
      some ((-1), μ)
    else
      (run L S F d 215 0 [some (vR (2, 0, 0)), some (vI 30), some (vI x_2), some (vI a1), none, none] μ).bind fun p1 =>
      if p1.1 = 0 then
        run L S F (d + 1) 217 22 [some (vR (2, 0, 0)), some (vI a1), some (vI (x_2 + 1))] p1.2
      else
        some (x_2, p1.2) := by
  unfold run
  rw [DF_succ]
  rfl
set_option maxHeartbeats 4000000 in
set_option maxRecDepth 100000 in
theorem e218_0 {L : Nat} {S : Ad → Nat → Int32} {F d : Nat} {μ : Mm} {a1 : Int32} : run L S (F + 1) (d + 1) 218 0 [some (vR (2, 0, 0)), some (vI a1), none] μ =
    let μ1 : Mm := mset μ (2, 0, 0) 0 0
    (run L S F d 127 0 [some (vL ((a1 : Int32).toInt64)), none, some (vL ((1 : Int32).toInt64)), none, some (vL ((4 : Int32).toInt64)), none] μ1).bind fun p2 =>
    if p2.1 = 0 then
      some ((-3), p2.2)
    else
      let x3 : Int32 := p2.2 (2, 0, 1) 0
      if 6 < x3 then
        some ((-5), p2.2)
      else
        run L S F (d + 1) 218 36 [some (vR (2, 0, 0)), some (vI a1), some (vI 1)] p2.2 := by
  unfold run
  rw [DF_succ]
  rfl
set_option maxHeartbeats 4000000 in
set_option maxRecDepth 100000 in
theorem e218_36 {L : Nat} {S : Ad → Nat → Int32} {F d : Nat} {μ : Mm} {a1 : Int32} {x_2 : Int32} : run L S (F + 1) (d + 1) 218 36 [some (vR (2, 0, 0)), some (vI a1), some (vI x_2)] μ =
    if 8 < x_2 then
      some ((-1), μ)
    else
      (run L S F d 212 0 [some (vR (2, 0, 0)), some (vI 30), some (vI x_2)] μ).bind fun p1 =>
      (run L S F d 208 0 [some (vR (2, 0, 0)), some (vI a1), none, none, none, none] p1.2).bind fun p2 =>
      (run L S F d 213 0 [some (vR (2, 0, 0))] p2.2).bind fun p3 =>
      let x4 : Int32 := p3.2 (2, 0, 0) 23
      if x4 = 0 then
        some (x_2, p3.2)
      else
        run L S F (d + 1) 218 36 [some (vR (2, 0, 0)), some (vI a1), some (vI (x_2 + 1))] p3.2 := by
  unfold run
  rw [DF_succ]
  rfl
set_option maxHeartbeats 4000000 in
set_option maxRecDepth 100000 in
theorem e219_0 {L : Nat} {S : Ad → Nat → Int32} {F d : Nat} {μ : Mm} {a1 : Int32} : run L S (F + 1) (d + 1) 219 0 [some (vR (2, 0, 0)), some (vI a1), none, none, none, none, none] μ =
    let μ1 : Mm := mset μ (2, 0, 0) 0 0
    (run L S F d 127 0 [some (vL ((a1 : Int32).toInt64)), none, some (vL ((0 : Int32).toInt64)), none, some (vL ((2 : Int32).toInt64)), none] μ1).bind fun p2 =>
    if p2.1 = 0 then
      some ((-2), p2.2)
    else
      let x3 : Int32 := p2.2 (2, 0, 1) 5
      (run L S F d 201 0 [some (vR (2, 0, 0)), none] p2.2).bind fun p4 =>
      let μ5 : Mm := mset p4.2 (2, 0, 1) 5 x3
      let x6 : Int32 := μ5 (2, 0, 1) 16
      run L S F (d + 1) 219 52 [some (vR (2, 0, 0)), some (vI a1), none, some (vI x6), some (vI 0), some (vI 0), none] μ5 := by
  unfold run
  rw [DF_succ]
  rfl
set_option maxHeartbeats 4000000 in
set_option maxRecDepth 100000 in
theorem e219_52 {L : Nat} {S : Ad → Nat → Int32} {F d : Nat} {μ : Mm} {a1 : Int32} {x_3 : Int32} {x_4 : Int32} {x_5 : Int32} : run L S (F + 1) (d + 1) 219 52 [some (vR (2, 0, 0)), some (vI a1), none, some (vI x_3), some (vI x_4), some (vI x_5), none] μ =
    if x_4 < 500 then
      let x1 : Int32 := μ (2, 0, 1) 5
      if 0 < x1 then
        let x2 : Int32 := μ (2, 0, 1) 5
        (run L S F d 161 0 [some (vR (2, 0, 0)), none, none] μ).bind fun p3 =>
        let x4 : Int32 := p3.2 (2, 0, 1) 5
        if x4 < x2 then
          let x5 : Int32 := p3.2 (2, 0, 0) 10
          if x_5 < x5 then
            let x6 : Int32 := p3.2 (2, 0, 0) 10
            run L S F (d + 1) 219 52 [some (vR (2, 0, 0)), some (vI a1), none, some (vI x_3), some (vI (x_4 + 1)), some (vI x6), none] p3.2
          else
            run L S F (d + 1) 219 52 [some (vR (2, 0, 0)), some (vI a1), none, some (vI x_3), some (vI (x_4 + 1)), some (vI x_5), none] p3.2
        else
          run L S F (d + 1) 219 52 [some (vR (2, 0, 0)), some (vI a1), none, some (vI x_3), some (vI (x_4 + 1)), some (vI x_5), none] p3.2
      else
        run L S F (d + 1) 219 118 [some (vR (2, 0, 0)), some (vI a1), none, some (vI x_3), some (vI x_4), some (vI x_5), none] μ
    else
      run L S F (d + 1) 219 118 [some (vR (2, 0, 0)), some (vI a1), none, some (vI x_3), some (vI x_4), some (vI x_5), none] μ := by
  unfold run
  rw [DF_succ]
  rfl
