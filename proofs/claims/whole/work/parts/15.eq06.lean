/-! equations of the methods, out of their code -/
set_option maxHeartbeats 4000000 in
set_option maxRecDepth 100000 in
theorem e167_0 {L : Nat} {S : Ad → Nat → Int32} {F d : Nat} {μ : Mm} {a1 : Int32} {a2 : Int32} {a3 : Int32} {a4 : Int32} : run L S (F + 1) (d + 1) 167 0 [some (vR (2, 0, 0)), some (vI a1), some (vI a2), some (vI a3), some (vI a4), none] μ =
    (run L S F d 131 0 [some (vR (2, 0, 0)), some (vI a1)] μ).bind fun p1 =>
    if p1.1 = 0 then
      some ((-2), p1.2)
    else
      (run L S F d 131 0 [some (vR (2, 0, 0)), some (vI a2)] p1.2).bind fun p2 =>
      if p2.1 = 0 then
        some ((-2), p2.2)
      else
        (run L S F d 127 0 [some (vL ((a3 : Int32).toInt64)), none, some (vL ((1 : Int32).toInt64)), none, some (vL ((48 : Int32).toInt64)), none] p2.2).bind fun p3 =>
        if p3.1 = 0 then
          some ((-3), p3.2)
        else
          if a4 = 0 then
            some ((-3), p3.2)
          else
            let x4 : Int32 := p3.2 (2, 0, 1) 5
            if 48 < (x4 + a3) then
              some ((-4), p3.2)
            else
              (run L S F d 130 0 [some (vR (2, 0, 0)), none] p3.2).bind fun p5 =>
              run L S F (d + 1) 167 62 [some (vR (2, 0, 0)), some (vI a1), some (vI a2), some (vI a3), none, some (vI 0)] p5.2 := by
  unfold run
  rw [DF_succ]
  rfl
set_option maxHeartbeats 4000000 in
set_option maxRecDepth 100000 in
theorem e167_62 {L : Nat} {S : Ad → Nat → Int32} {F d : Nat} {μ : Mm} {a1 : Int32} {a2 : Int32} {a3 : Int32} {x_5 : Int32} : run L S (F + 1) (d + 1) 167 62 [some (vR (2, 0, 0)), some (vI a1), some (vI a2), some (vI a3), none, some (vI x_5)] μ =
    if x_5 < a3 then
      if (x_5 - x_5 / 2 * 2) = 0 then
        (run L S F d 165 0 [some (vR (2, 0, 0)), some (vI a1)] μ).bind fun p3 =>
        run L S F (d + 1) 167 62 [some (vR (2, 0, 0)), some (vI a1), some (vI a2), some (vI a3), none, some (vI (x_5 + 1))] p3.2
      else
        (run L S F d 165 0 [some (vR (2, 0, 0)), some (vI a2)] μ).bind fun p2 =>
        run L S F (d + 1) 167 62 [some (vR (2, 0, 0)), some (vI a1), some (vI a2), some (vI a3), none, some (vI (x_5 + 1))] p2.2
    else
      let x1 : Int32 := μ (2, 0, 1) 5
      some (x1, μ) := by
  unfold run
  rw [DF_succ]
  rfl
set_option maxHeartbeats 4000000 in
set_option maxRecDepth 100000 in
theorem e168_0 {L : Nat} {S : Ad → Nat → Int32} {F d : Nat} {μ : Mm} {a1 : Int32} {a2 : Int32} {a3 : Int32} : run L S (F + 1) (d + 1) 168 0 [some (vR (2, 0, 0)), some (vI a1), some (vI a2), some (vI a3)] μ =
    let μ1 : Mm := mset μ (2, 0, 0) 0 0
    if a1 = a2 then
      (run L S F d 167 0 [some (vR (2, 0, 0)), some (vI a1), some (vI a2), some (vI a3), some (vI 0), none] μ1).bind fun p2 =>
      some (p2.1, p2.2)
    else
      (run L S F d 167 0 [some (vR (2, 0, 0)), some (vI a1), some (vI a2), some (vI a3), some (vI 1), none] μ1).bind fun p3 =>
      some (p3.1, p3.2) := by
  unfold run
  rw [DF_succ]
  rfl
set_option maxHeartbeats 4000000 in
set_option maxRecDepth 100000 in
theorem e169_0 {L : Nat} {S : Ad → Nat → Int32} {F d : Nat} {μ : Mm} {a1 : Int32} {a2 : Int32} : run L S (F + 1) (d + 1) 169 0 [some (vR (2, 0, 0)), some (vI a1), some (vI a2), none] μ =
    let μ1 : Mm := mset μ (2, 0, 0) 0 0
    (run L S F d 131 0 [some (vR (2, 0, 0)), some (vI a1)] μ1).bind fun p2 =>
    if p2.1 = 0 then
      some ((-2), p2.2)
    else
      (run L S F d 127 0 [some (vL ((a2 : Int32).toInt64)), none, some (vL ((0 : Int32).toInt64)), none, some (vL ((255 : Int32).toInt64)), none] p2.2).bind fun p3 =>
      if p3.1 = 0 then
        some ((-3), p3.2)
      else
        (run L S F d 130 0 [some (vR (2, 0, 0)), none] p3.2).bind fun p4 =>
        bif inb (124 + a1) 1278 then
          let x5 : Int32 := p4.2 (2, 0, 1) (Int32.toNatClampNeg (124 + a1))
          bif inb (124 + a1) 1278 then
            let μ6 : Mm := mset p4.2 (2, 0, 1) (Int32.toNatClampNeg (124 + a1)) a2
            bif inb (140 + a1) 1278 then
              let μ7 : Mm := mset μ6 (2, 0, 1) (Int32.toNatClampNeg (140 + a1)) a2
              let x8 : Int32 := μ7 (2, 0, 1) 26
              let μ9 : Mm := mset μ7 (2, 0, 1) 26 (x8 &&& (((1 : Int32) <<< (a1 &&& 31)) ^^^ (-1)))
              some (x5, μ9)
            else none
          else none
        else none := by
  unfold run
  rw [DF_succ]
  rfl
set_option maxHeartbeats 4000000 in
set_option maxRecDepth 100000 in
theorem e170_0 {L : Nat} {S : Ad → Nat → Int32} {F d : Nat} {μ : Mm} {a1 : Int32} {a2 : Int32} : run L S (F + 1) (d + 1) 170 0 [some (vR (2, 0, 0)), some (vI a1), some (vI a2), none] μ =
    let μ1 : Mm := mset μ (2, 0, 0) 0 0
    (run L S F d 131 0 [some (vR (2, 0, 0)), some (vI a1)] μ1).bind fun p2 =>
    if p2.1 = 0 then
      some ((-2), p2.2)
    else
      (run L S F d 127 0 [some (vL ((a2 : Int32).toInt64)), none, some (vL ((0 : Int32).toInt64)), none, some (vL ((255 : Int32).toInt64)), none] p2.2).bind fun p3 =>
      if p3.1 = 0 then
        some ((-3), p3.2)
      else
        (run L S F d 130 0 [some (vR (2, 0, 0)), none] p3.2).bind fun p4 =>
        bif inb (156 + a1) 1278 then
          let x5 : Int32 := p4.2 (2, 0, 1) (Int32.toNatClampNeg (156 + a1))
          bif inb (156 + a1) 1278 then
            let μ6 : Mm := mset p4.2 (2, 0, 1) (Int32.toNatClampNeg (156 + a1)) a2
            some (x5, μ6)
          else none
        else none := by
  unfold run
  rw [DF_succ]
  rfl
set_option maxHeartbeats 4000000 in
set_option maxRecDepth 100000 in
theorem e171_0 {L : Nat} {S : Ad → Nat → Int32} {F d : Nat} {μ : Mm} {a1 : Int32} {a2 : Int32} {a3 : Int32} {a4 : Int32} {a5 : Int32} : run L S (F + 1) d 171 0 [some (vR (2, 0, 0)), some (vI a1), some (vI a2), some (vI a3), some (vI a4), some (vI a5), none, none] μ =
    let μ1 : Mm := mset μ (2, 0, 0) 0 0
    let x2 : Int32 := μ1 (2, 0, 0) 12
    if 60 < (x2 + 20) then
      some ((-4), μ1)
    else
      run L S F d 171 23 [some (vR (2, 0, 0)), some (vI a1), some (vI a2), some (vI a3), some (vI a4), some (vI a5), some (vI 0), none] μ1 := by
  unfold run
  rw [DF_succ]
  rfl
set_option maxHeartbeats 4000000 in
set_option maxRecDepth 100000 in
theorem e171_23 {L : Nat} {S : Ad → Nat → Int32} {F d : Nat} {μ : Mm} {a1 : Int32} {a2 : Int32} {a3 : Int32} {a4 : Int32} {a5 : Int32} {x_6 : Int32} : run L S (F + 1) d 171 23 [some (vR (2, 0, 0)), some (vI a1), some (vI a2), some (vI a3), some (vI a4), some (vI a5), some (vI x_6), none] μ =
    if x_6 < 20 then
      if x_6 < 4 then
        bif inb (μ (2, 0, 0) 12) 60 then
          let μ13 : Mm := mset μ (2, 0, 8) (Int32.toNatClampNeg (μ (2, 0, 0) 12)) (vp_nar .byte (((a1 >>> ((24 - (8 * (x_6 - x_6 / 4 * 4))) &&& 31)) : Int32).toInt8.toInt32))
          let x14 : Int32 := μ13 (2, 0, 0) 12
          let μ15 : Mm := mset μ13 (2, 0, 0) 12 (x14 + 1)
          run L S F d 171 23 [some (vR (2, 0, 0)), some (vI a1), some (vI a2), some (vI a3), some (vI a4), some (vI a5), some (vI (x_6 + 1)), none] μ15
        else none
      else
        if x_6 < 8 then
          bif inb (μ (2, 0, 0) 12) 60 then
            let μ10 : Mm := mset μ (2, 0, 8) (Int32.toNatClampNeg (μ (2, 0, 0) 12)) (vp_nar .byte (((a2 >>> ((24 - (8 * (x_6 - x_6 / 4 * 4))) &&& 31)) : Int32).toInt8.toInt32))
            let x11 : Int32 := μ10 (2, 0, 0) 12
            let μ12 : Mm := mset μ10 (2, 0, 0) 12 (x11 + 1)
            run L S F d 171 23 [some (vR (2, 0, 0)), some (vI a1), some (vI a2), some (vI a3), some (vI a4), some (vI a5), some (vI (x_6 + 1)), none] μ12
          else none
        else
          if x_6 < 12 then
            bif inb (μ (2, 0, 0) 12) 60 then
              let μ7 : Mm := mset μ (2, 0, 8) (Int32.toNatClampNeg (μ (2, 0, 0) 12)) (vp_nar .byte (((a3 >>> ((24 - (8 * (x_6 - x_6 / 4 * 4))) &&& 31)) : Int32).toInt8.toInt32))
              let x8 : Int32 := μ7 (2, 0, 0) 12
              let μ9 : Mm := mset μ7 (2, 0, 0) 12 (x8 + 1)
              run L S F d 171 23 [some (vR (2, 0, 0)), some (vI a1), some (vI a2), some (vI a3), some (vI a4), some (vI a5), some (vI (x_6 + 1)), none] μ9
            else none
          else
            if x_6 < 16 then
              bif inb (μ (2, 0, 0) 12) 60 then
                let μ4 : Mm := mset μ (2, 0, 8) (Int32.toNatClampNeg (μ (2, 0, 0) 12)) (vp_nar .byte (((a4 >>> ((24 - (8 * (x_6 - x_6 / 4 * 4))) &&& 31)) : Int32).toInt8.toInt32))
                let x5 : Int32 := μ4 (2, 0, 0) 12
                let μ6 : Mm := mset μ4 (2, 0, 0) 12 (x5 + 1)
                run L S F d 171 23 [some (vR (2, 0, 0)), some (vI a1), some (vI a2), some (vI a3), some (vI a4), some (vI a5), some (vI (x_6 + 1)), none] μ6
              else none
            else
              bif inb (μ (2, 0, 0) 12) 60 then
                let μ1 : Mm := mset μ (2, 0, 8) (Int32.toNatClampNeg (μ (2, 0, 0) 12)) (vp_nar .byte (((a5 >>> ((24 - (8 * (x_6 - x_6 / 4 * 4))) &&& 31)) : Int32).toInt8.toInt32))
                let x2 : Int32 := μ1 (2, 0, 0) 12
                let μ3 : Mm := mset μ1 (2, 0, 0) 12 (x2 + 1)
                run L S F d 171 23 [some (vR (2, 0, 0)), some (vI a1), some (vI a2), some (vI a3), some (vI a4), some (vI a5), some (vI (x_6 + 1)), none] μ3
              else none
    else
      some ((μ (2, 0, 0) 12), μ) := by
  unfold run
  rw [DF_succ]
  rfl
set_option maxHeartbeats 4000000 in
set_option maxRecDepth 100000 in
theorem e172_0 {L : Nat} {S : Ad → Nat → Int32} {F d : Nat} {μ : Mm} : run L S (F + 1) d 172 0 [some (vR (2, 0, 0))] μ =
    if (μ (2, 0, 0) 14) < (μ (2, 0, 0) 13) then
      bif inb (μ (2, 0, 0) 14) 60 then
        let x1 : Int32 := μ (2, 0, 8) (Int32.toNatClampNeg (μ (2, 0, 0) 14))
        some ((x1 &&& 255), μ)
      else none
    else
      some ((-1), μ) := by
  unfold run
  rw [DF_succ]
  rfl
set_option maxHeartbeats 4000000 in
set_option maxRecDepth 100000 in
theorem e173_0 {L : Nat} {S : Ad → Nat → Int32} {F d : Nat} {μ : Mm} {a1 : Int32} {a2 : Int32} : run L S (F + 1) d 173 0 [some (vR (2, 0, 0)), some (vI a1), some (vI a2)] μ =
    if (μ (2, 0, 0) 15) = 0 then
      let μ1 : Mm := mset μ (2, 0, 0) 15 a1
      let μ2 : Mm := mset μ1 (2, 0, 0) 16 a2
      some (0, μ2)
    else
      some (0, μ) := by
  unfold run
  rw [DF_succ]
  rfl
set_option maxHeartbeats 4000000 in
set_option maxRecDepth 100000 in
theorem e174_0 {L : Nat} {S : Ad → Nat → Int32} {F d : Nat} {μ : Mm} {a1 : Int32} : run L S (F + 1) d 174 0 [some (vR (2, 0, 0)), some (vI a1)] μ =
    if (μ (2, 0, 0) 20) < 48 then
      bif inb (μ (2, 0, 0) 20) 48 then
        let μ2 : Mm := mset μ (2, 0, 9) (Int32.toNatClampNeg (μ (2, 0, 0) 20)) a1
        let x3 : Int32 := μ2 (2, 0, 0) 20
        if 48 < x3 then
          some (0, μ2)
        else
          let x4 : Int32 := μ2 (2, 0, 0) 20
          let μ5 : Mm := mset μ2 (2, 0, 0) 20 (x4 + 1)
          some (0, μ5)
      else none
    else
      if 48 < (μ (2, 0, 0) 20) then
        some (0, μ)
      else
        let μ1 : Mm := mset μ (2, 0, 0) 20 ((μ (2, 0, 0) 20) + 1)
        some (0, μ1) := by
  unfold run
  rw [DF_succ]
  rfl
set_option maxHeartbeats 4000000 in
set_option maxRecDepth 100000 in
theorem e175_0 {L : Nat} {S : Ad → Nat → Int32} {F d : Nat} {μ : Mm} : run L S (F + 1) (d + 1) 175 0 [some (vR (2, 0, 0)), none, none] μ =
    run L S F (d + 1) 175 7 [some (vR (2, 0, 0)), some (vI (μ (2, 0, 0) 14)), some (vI 0)] μ := by
  unfold run
  rw [DF_succ]
  rfl
set_option maxHeartbeats 4000000 in
set_option maxRecDepth 100000 in
theorem e175_7 {L : Nat} {S : Ad → Nat → Int32} {F d : Nat} {μ : Mm} {x_1 : Int32} {x_2 : Int32} : run L S (F + 1) (d + 1) 175 7 [some (vR (2, 0, 0)), some (vI x_1), some (vI x_2)] μ =
    (run L S F d 172 0 [some (vR (2, 0, 0))] μ).bind fun p1 =>
    (run L S F d 127 0 [some (vL ((p1.1 : Int32).toInt64)), none, some (vL ((48 : Int32).toInt64)), none, some (vL ((57 : Int32).toInt64)), none] p1.2).bind fun p2 =>
    if p2.1 = 0 then
      let x3 : Int32 := p2.2 (2, 0, 0) 14
      if x3 = x_1 then
        some (1, p2.2)
      else
        let x4 : Int32 := p2.2 (2, 0, 0) 14
        if (x_1 + 2) < x4 then
          (run L S F d 173 0 [some (vR (2, 0, 0)), some (vI 2), some (vI x_1)] p2.2).bind fun p5 =>
          some (x_2, p5.2)
        else
          (run L S F d 127 0 [some (vL ((x_2 : Int32).toInt64)), none, some (vL ((1 : Int32).toInt64)), none, some (vL ((48 : Int32).toInt64)), none] p2.2).bind fun p6 =>
          if p6.1 = 0 then
            (run L S F d 173 0 [some (vR (2, 0, 0)), some (vI 2), some (vI x_1)] p6.2).bind fun p7 =>
            some (x_2, p7.2)
          else
            some (x_2, p6.2)
    else
      if 48 < x_2 then
        let x11 : Int32 := p2.2 (2, 0, 0) 14
        let μ12 : Mm := mset p2.2 (2, 0, 0) 14 (x11 + 1)
        run L S F (d + 1) 175 7 [some (vR (2, 0, 0)), some (vI x_1), some (vI x_2)] μ12
      else
        (run L S F d 172 0 [some (vR (2, 0, 0))] p2.2).bind fun p8 =>
        let x9 : Int32 := p8.2 (2, 0, 0) 14
        let μ10 : Mm := mset p8.2 (2, 0, 0) 14 (x9 + 1)
        run L S F (d + 1) 175 7 [some (vR (2, 0, 0)), some (vI x_1), some (vI (((10 * x_2) + p8.1) - 48))] μ10 := by
  unfold run
  rw [DF_succ]
  rfl
set_option maxHeartbeats 4000000 in
set_option maxRecDepth 100000 in
theorem e176_0 {L : Nat} {S : Ad → Nat → Int32} {F d : Nat} {μ : Mm} {a1 : Int32} : run L S (F + 1) (d + 1) 176 0 [some (vR (2, 0, 0)), some (vI a1), none, none, none, none, none, none] μ =
    (run L S F d 175 0 [some (vR (2, 0, 0)), none, none] μ).bind fun p1 =>
    let x2 : Int32 := p1.2 (2, 0, 0) 15
    if x2 = 0 then
      (run L S F d 172 0 [some (vR (2, 0, 0))] p1.2).bind fun p3 =>
      let x4 : Int32 := p3.2 (2, 0, 0) 20
      (run L S F d 127 0 [some (vL ((p3.1 : Int32).toInt64)), none, some (vL ((97 : Int32).toInt64)), none, some (vL ((112 : Int32).toInt64)), none] p3.2).bind fun p5 =>
      if p5.1 = 0 then
        if p3.1 = 40 then
          if a1 = 3 then
            let x9 : Int32 := p5.2 (2, 0, 0) 14
            (run L S F d 173 0 [some (vR (2, 0, 0)), some (vI 4), some (vI x9)] p5.2).bind fun p10 =>
            run L S F (d + 1) 176 99 [some (vR (2, 0, 0)), some (vI a1), some (vI p1.1), none, some (vI x4), none, none, none] p10.2
          else
            run L S F (d + 1) 176 99 [some (vR (2, 0, 0)), some (vI a1), some (vI p1.1), none, some (vI x4), none, none, none] p5.2
        else
          let x6 : Int32 := p5.2 (2, 0, 0) 14
          (run L S F d 173 0 [some (vR (2, 0, 0)), some (vI 1), some (vI x6)] p5.2).bind fun p7 =>
          let x8 : Int32 := p7.2 (2, 0, 0) 20
          run L S F (d + 1) 176 182 [some (vR (2, 0, 0)), none, some (vI p1.1), none, some (vI x4), some (vI (x8 - x4)), some (vI 1), none] p7.2
      else
        (run L S F d 131 0 [some (vR (2, 0, 0)), some (vI (p3.1 - 97))] p5.2).bind fun p11 =>
        if p11.1 = 0 then
          let x16 : Int32 := p11.2 (2, 0, 0) 14
          (run L S F d 173 0 [some (vR (2, 0, 0)), some (vI 3), some (vI x16)] p11.2).bind fun p17 =>
          (run L S F d 174 0 [some (vR (2, 0, 0)), some (vI (p3.1 - 97))] p17.2).bind fun p18 =>
          let x19 : Int32 := p18.2 (2, 0, 0) 14
          let μ20 : Mm := mset p18.2 (2, 0, 0) 14 (x19 + 1)
          let x21 : Int32 := μ20 (2, 0, 0) 20
          run L S F (d + 1) 176 182 [some (vR (2, 0, 0)), none, some (vI p1.1), none, some (vI x4), some (vI (x21 - x4)), some (vI 1), none] μ20
        else
          (run L S F d 174 0 [some (vR (2, 0, 0)), some (vI (p3.1 - 97))] p11.2).bind fun p12 =>
          let x13 : Int32 := p12.2 (2, 0, 0) 14
          let μ14 : Mm := mset p12.2 (2, 0, 0) 14 (x13 + 1)
          let x15 : Int32 := μ14 (2, 0, 0) 20
          run L S F (d + 1) 176 182 [some (vR (2, 0, 0)), none, some (vI p1.1), none, some (vI x4), some (vI (x15 - x4)), some (vI 1), none] μ14
    else
      some (0, p1.2) := by
  unfold run
  rw [DF_succ]
  rfl
set_option maxHeartbeats 4000000 in
set_option maxRecDepth 100000 in
theorem e176_99 {L : Nat} {S : Ad → Nat → Int32} {F d : Nat} {μ : Mm} {a1 : Int32} {x_2 : Int32} {x_4 : Int32} : run L S (F + 1) (d + 1) 176 99 [some (vR (2, 0, 0)), some (vI a1), some (vI x_2), none, some (vI x_4), none, none, none] μ =
    let μ1 : Mm := mset μ (2, 0, 0) 14 ((μ (2, 0, 0) 14) + 1)
    let x2 : Int32 := μ1 (2, 0, 0) 15
    if x2 = 0 then
      (run L S F d 177 0 [some (vR (2, 0, 0)), some (vI (a1 + 1))] μ1).bind fun p16 =>
      let x17 : Int32 := p16.2 (2, 0, 0) 15
      if x17 = 0 then
        (run L S F d 172 0 [some (vR (2, 0, 0))] p16.2).bind fun p21 =>
        if p21.1 = 41 then
          let x22 : Int32 := p21.2 (2, 0, 0) 14
          let μ23 : Mm := mset p21.2 (2, 0, 0) 14 (x22 + 1)
          let x24 : Int32 := μ23 (2, 0, 0) 20
          run L S F (d + 1) 176 182 [some (vR (2, 0, 0)), none, some (vI x_2), none, some (vI x_4), some (vI (x24 - x_4)), some (vI 1), none] μ23
        else
          let x25 : Int32 := p21.2 (2, 0, 0) 14
          (run L S F d 173 0 [some (vR (2, 0, 0)), some (vI 1), some (vI x25)] p21.2).bind fun p26 =>
          let x27 : Int32 := p26.2 (2, 0, 0) 14
          let μ28 : Mm := mset p26.2 (2, 0, 0) 14 (x27 + 1)
          let x29 : Int32 := μ28 (2, 0, 0) 20
          run L S F (d + 1) 176 182 [some (vR (2, 0, 0)), none, some (vI x_2), none, some (vI x_4), some (vI (x29 - x_4)), some (vI 1), none] μ28
      else
        let x18 : Int32 := p16.2 (2, 0, 0) 14
        let μ19 : Mm := mset p16.2 (2, 0, 0) 14 (x18 + 1)
        let x20 : Int32 := μ19 (2, 0, 0) 20
        run L S F (d + 1) 176 182 [some (vR (2, 0, 0)), none, some (vI x_2), none, some (vI x_4), some (vI (x20 - x_4)), some (vI 1), none] μ19
    else
      let x3 : Int32 := μ1 (2, 0, 0) 15
      if x3 = 0 then
        (run L S F d 172 0 [some (vR (2, 0, 0))] μ1).bind fun p7 =>
        if p7.1 = 41 then
          let x8 : Int32 := p7.2 (2, 0, 0) 14
          let μ9 : Mm := mset p7.2 (2, 0, 0) 14 (x8 + 1)
          let x10 : Int32 := μ9 (2, 0, 0) 20
          run L S F (d + 1) 176 182 [some (vR (2, 0, 0)), none, some (vI x_2), none, some (vI x_4), some (vI (x10 - x_4)), some (vI 1), none] μ9
        else
          let x11 : Int32 := p7.2 (2, 0, 0) 14
          (run L S F d 173 0 [some (vR (2, 0, 0)), some (vI 1), some (vI x11)] p7.2).bind fun p12 =>
          let x13 : Int32 := p12.2 (2, 0, 0) 14
          let μ14 : Mm := mset p12.2 (2, 0, 0) 14 (x13 + 1)
          let x15 : Int32 := μ14 (2, 0, 0) 20
          run L S F (d + 1) 176 182 [some (vR (2, 0, 0)), none, some (vI x_2), none, some (vI x_4), some (vI (x15 - x_4)), some (vI 1), none] μ14
      else
        let x4 : Int32 := μ1 (2, 0, 0) 14
        let μ5 : Mm := mset μ1 (2, 0, 0) 14 (x4 + 1)
        let x6 : Int32 := μ5 (2, 0, 0) 20
        run L S F (d + 1) 176 182 [some (vR (2, 0, 0)), none, some (vI x_2), none, some (vI x_4), some (vI (x6 - x_4)), some (vI 1), none] μ5 := by
  unfold run
  rw [DF_succ]
  rfl
set_option maxHeartbeats 4000000 in
set_option maxRecDepth 100000 in
theorem e176_182 {L : Nat} {S : Ad → Nat → Int32} {F d : Nat} {μ : Mm} {x_2 : Int32} {x_4 : Int32} {x_5 : Int32} {x_6 : Int32} : run L S (F + 1) (d + 1) 176 182 [some (vR (2, 0, 0)), none, some (vI x_2), none, some (vI x_4), some (vI x_5), some (vI x_6), none] μ =
    if x_6 < x_2 then
      if (μ (2, 0, 0) 15) = 0 then
        run L S F (d + 1) 176 198 [some (vR (2, 0, 0)), none, some (vI x_2), none, some (vI x_4), some (vI x_5), some (vI x_6), some (vI 0)] μ
      else
        some (0, μ)
    else
      some (0, μ) := by
  unfold run
  rw [DF_succ]
  rfl
set_option maxHeartbeats 4000000 in
set_option maxRecDepth 100000 in
theorem e176_198 {L : Nat} {S : Ad → Nat → Int32} {F d : Nat} {μ : Mm} {x_2 : Int32} {x_4 : Int32} {x_5 : Int32} {x_6 : Int32} {x_7 : Int32} : run L S (F + 1) (d + 1) 176 198 [some (vR (2, 0, 0)), none, some (vI x_2), none, some (vI x_4), some (vI x_5), some (vI x_6), some (vI x_7)] μ =
    if x_7 < x_5 then
      if 48 < (μ (2, 0, 0) 20) then
        run L S F (d + 1) 176 182 [some (vR (2, 0, 0)), none, some (vI x_2), none, some (vI x_4), some (vI x_5), some (vI (x_6 + 1)), none] μ
      else
        if (x_4 + x_7) < 48 then
          bif inb (x_4 + x_7) 48 then
            let x2 : Int32 := μ (2, 0, 9) (Int32.toNatClampNeg (x_4 + x_7))
            (run L S F d 174 0 [some (vR (2, 0, 0)), some (vI x2)] μ).bind fun p3 =>
            run L S F (d + 1) 176 198 [some (vR (2, 0, 0)), none, some (vI x_2), none, some (vI x_4), some (vI x_5), some (vI x_6), some (vI (x_7 + 1))] p3.2
          else none
        else
          (run L S F d 174 0 [some (vR (2, 0, 0)), some (vI 0)] μ).bind fun p1 =>
          run L S F (d + 1) 176 198 [some (vR (2, 0, 0)), none, some (vI x_2), none, some (vI x_4), some (vI x_5), some (vI x_6), some (vI (x_7 + 1))] p1.2
    else
      run L S F (d + 1) 176 182 [some (vR (2, 0, 0)), none, some (vI x_2), none, some (vI x_4), some (vI x_5), some (vI (x_6 + 1)), none] μ := by
  unfold run
  rw [DF_succ]
  rfl
set_option maxHeartbeats 4000000 in
set_option maxRecDepth 100000 in
theorem e177_0 {L : Nat} {S : Ad → Nat → Int32} {F d : Nat} {μ : Mm} {a1 : Int32} : run L S (F + 1) (d + 1) 177 0 [some (vR (2, 0, 0)), some (vI a1)] μ =
    (run L S F d 176 0 [some (vR (2, 0, 0)), some (vI a1), none, none, none, none, none, none] μ).bind fun p1 =>
    run L S F (d + 1) 177 5 [some (vR (2, 0, 0)), some (vI a1)] p1.2 := by
  unfold run
  rw [DF_succ]
  rfl
set_option maxHeartbeats 4000000 in
set_option maxRecDepth 100000 in
theorem e177_5 {L : Nat} {S : Ad → Nat → Int32} {F d : Nat} {μ : Mm} {a1 : Int32} : run L S (F + 1) (d + 1) 177 5 [some (vR (2, 0, 0)), some (vI a1)] μ =
    if (μ (2, 0, 0) 15) = 0 then
      (run L S F d 172 0 [some (vR (2, 0, 0))] μ).bind fun p1 =>
      if p1.1 = (-1) then
        some (0, p1.2)
      else
        (run L S F d 172 0 [some (vR (2, 0, 0))] p1.2).bind fun p2 =>
        if p2.1 = 41 then
          some (0, p2.2)
        else
          (run L S F d 176 0 [some (vR (2, 0, 0)), some (vI a1), none, none, none, none, none, none] p2.2).bind fun p3 =>
          run L S F (d + 1) 177 5 [some (vR (2, 0, 0)), some (vI a1)] p3.2
    else
      some (0, μ) := by
  unfold run
  rw [DF_succ]
  rfl
set_option maxHeartbeats 4000000 in
set_option maxRecDepth 100000 in
theorem e178_0 {L : Nat} {S : Ad → Nat → Int32} {F d : Nat} {μ : Mm} {a1 : Int32} : run L S (F + 1) (d + 1) 178 0 [some (vR (2, 0, 0)), some (vI a1)] μ =
    let μ1 : Mm := mset μ (2, 0, 0) 13 a1
    let μ2 : Mm := mset μ1 (2, 0, 0) 14 0
    let μ3 : Mm := mset μ2 (2, 0, 0) 15 0
    let μ4 : Mm := mset μ3 (2, 0, 0) 16 (-1)
    let μ5 : Mm := mset μ4 (2, 0, 0) 20 0
    (run L S F d 177 0 [some (vR (2, 0, 0)), some (vI 0)] μ5).bind fun p6 =>
    let x7 : Int32 := p6.2 (2, 0, 0) 15
    if x7 = 0 then
      let x8 : Int32 := p6.2 (2, 0, 0) 14
      let x9 : Int32 := p6.2 (2, 0, 0) 13
      if x8 < x9 then
        let x10 : Int32 := p6.2 (2, 0, 0) 14
        (run L S F d 173 0 [some (vR (2, 0, 0)), some (vI 1), some (vI x10)] p6.2).bind fun p11 =>
        run L S F (d + 1) 178 57 [some (vR (2, 0, 0)), none] p11.2
      else
        run L S F (d + 1) 178 57 [some (vR (2, 0, 0)), none] p6.2
    else
      run L S F (d + 1) 178 57 [some (vR (2, 0, 0)), none] p6.2 := by
  unfold run
  rw [DF_succ]
  rfl
set_option maxHeartbeats 4000000 in
set_option maxRecDepth 100000 in
theorem e178_57 {L : Nat} {S : Ad → Nat → Int32} {F d : Nat} {μ : Mm} : run L S (F + 1) (d + 1) 178 57 [some (vR (2, 0, 0)), none] μ =
    if (μ (2, 0, 0) 15) = 0 then
      if 48 < (μ (2, 0, 0) 20) then
        (run L S F d 173 0 [some (vR (2, 0, 0)), some (vI 5), some (vI (-1))] μ).bind fun p1 =>
        let x2 : Int32 := p1.2 (2, 0, 0) 15
        if x2 = 0 then
          some (vp_nar .boolean 1, p1.2)
        else
          some (vp_nar .boolean 0, p1.2)
      else
        if (μ (2, 0, 0) 15) = 0 then
          some (vp_nar .boolean 1, μ)
        else
          some (vp_nar .boolean 0, μ)
    else
      if (μ (2, 0, 0) 15) = 0 then
        some (vp_nar .boolean 1, μ)
      else
        some (vp_nar .boolean 0, μ) := by
  unfold run
  rw [DF_succ]
  rfl
set_option maxHeartbeats 4000000 in
set_option maxRecDepth 100000 in
theorem e179_0 {L : Nat} {S : Ad → Nat → Int32} {F d : Nat} {μ : Mm} {a1 : Int32} : run L S (F + 1) (d + 1) 179 0 [some (vR (2, 0, 0)), some (vI a1), none, none] μ =
    let μ1 : Mm := mset μ (2, 0, 0) 0 0
    let x2 : Int32 := μ1 (2, 0, 0) 12
    (run L S F d 127 0 [some (vL ((a1 : Int32).toInt64)), none, some (vL ((0 : Int32).toInt64)), none, some (vL ((x2 : Int32).toInt64)), none] μ1).bind fun p3 =>
    if p3.1 = 0 then
      some ((-3), p3.2)
    else
      (run L S F d 178 0 [some (vR (2, 0, 0)), some (vI a1)] p3.2).bind fun p4 =>
      let μ5 : Mm := mset p4.2 (2, 0, 0) 12 0
      let x6 : Int32 := μ5 (2, 0, 0) 15
      let μ7 : Mm := mset μ5 (2, 0, 0) 17 x6
      let x8 : Int32 := μ7 (2, 0, 0) 16
      let μ9 : Mm := mset μ7 (2, 0, 0) 18 x8
      if p4.1 = 0 then
        let x13 : Int32 := μ9 (2, 0, 0) 15
        some (((-30) - x13), μ9)
      else
        let x10 : Int32 := μ9 (2, 0, 1) 5
        let x11 : Int32 := μ9 (2, 0, 0) 20
        if 48 < (x10 + x11) then
          some ((-4), μ9)
        else
          (run L S F d 130 0 [some (vR (2, 0, 0)), none] μ9).bind fun p12 =>
          run L S F (d + 1) 179 86 [some (vR (2, 0, 0)), none, none, some (vI 0)] p12.2 := by
  unfold run
  rw [DF_succ]
  rfl
set_option maxHeartbeats 4000000 in
set_option maxRecDepth 100000 in
theorem e179_86 {L : Nat} {S : Ad → Nat → Int32} {F d : Nat} {μ : Mm} {x_3 : Int32} : run L S (F + 1) (d + 1) 179 86 [some (vR (2, 0, 0)), none, none, some (vI x_3)] μ =
    if x_3 < (μ (2, 0, 0) 20) then
      bif inb x_3 48 then
        let x2 : Int32 := μ (2, 0, 9) (Int32.toNatClampNeg x_3)
        (run L S F d 165 0 [some (vR (2, 0, 0)), some (vI x2)] μ).bind fun p3 =>
        run L S F (d + 1) 179 86 [some (vR (2, 0, 0)), none, none, some (vI (x_3 + 1))] p3.2
      else none
    else
      let x1 : Int32 := μ (2, 0, 1) 5
      some (x1, μ) := by
  unfold run
  rw [DF_succ]
  rfl
set_option maxHeartbeats 4000000 in
set_option maxRecDepth 100000 in
theorem e180_0 {L : Nat} {S : Ad → Nat → Int32} {F d : Nat} {μ : Mm} {a1 : Int32} : run L S (F + 1) d 180 0 [some (vR (2, 0, 0)), some (vI a1)] μ =
    let μ1 : Mm := mset μ (2, 0, 0) 0 0
    if a1 = 0 then
      let x3 : Int32 := μ1 (2, 0, 0) 17
      some (x3, μ1)
    else
      if a1 = 1 then
        let x2 : Int32 := μ1 (2, 0, 0) 18
        some (x2, μ1)
      else
        some ((-1), μ1) := by
  unfold run
  rw [DF_succ]
  rfl
set_option maxHeartbeats 4000000 in
set_option maxRecDepth 100000 in
theorem e181_0 {L : Nat} {S : Ad → Nat → Int32} {F d : Nat} {μ : Mm} {a1 : Int32} : run L S (F + 1) (d + 1) 181 0 [some (vR (2, 0, 0)), some (vI a1), none] μ =
    let μ1 : Mm := mset μ (2, 0, 0) 0 0
    let x2 : Int32 := μ1 (2, 0, 0) 12
    (run L S F d 127 0 [some (vL ((a1 : Int32).toInt64)), none, some (vL ((0 : Int32).toInt64)), none, some (vL ((x2 : Int32).toInt64)), none] μ1).bind fun p3 =>
    if p3.1 = 0 then
      some ((-3), p3.2)
    else
      (run L S F d 178 0 [some (vR (2, 0, 0)), some (vI a1)] p3.2).bind fun p4 =>
      if p4.1 = 0 then
        let x6 : Int32 := p4.2 (2, 0, 0) 15
        some (((-30) - x6), p4.2)
      else
        (run L S F d 201 0 [some (vR (2, 0, 0)), none] p4.2).bind fun p5 =>
        run L S F (d + 1) 181 44 [some (vR (2, 0, 0)), none, some (vI 0)] p5.2 := by
  unfold run
  rw [DF_succ]
  rfl
set_option maxHeartbeats 4000000 in
set_option maxRecDepth 100000 in
theorem e181_44 {L : Nat} {S : Ad → Nat → Int32} {F d : Nat} {μ : Mm} {x_2 : Int32} : run L S (F + 1) (d + 1) 181 44 [some (vR (2, 0, 0)), none, some (vI x_2)] μ =
    if x_2 < (μ (2, 0, 0) 20) then
      bif inb x_2 48 then
        let x4 : Int32 := μ (2, 0, 9) (Int32.toNatClampNeg x_2)
        (run L S F d 165 0 [some (vR (2, 0, 0)), some (vI x4)] μ).bind fun p5 =>
        run L S F (d + 1) 181 44 [some (vR (2, 0, 0)), none, some (vI (x_2 + 1))] p5.2
      else none
    else
      (run L S F d 203 0 [some (vR (2, 0, 0)), none] μ).bind fun p1 =>
      (run L S F d 202 0 [some (vR (2, 0, 0))] p1.2).bind fun p2 =>
      let x3 : Int32 := p2.2 (2, 0, 0) 9
      some (x3, p2.2) := by
  unfold run
  rw [DF_succ]
  rfl
set_option maxHeartbeats 4000000 in
set_option maxRecDepth 100000 in
theorem e182_0 {L : Nat} {S : Ad → Nat → Int32} {F d : Nat} {μ : Mm} : run L S (F + 1) (d + 1) 182 0 [some (vR (2, 0, 0)), none] μ =
    let μ1 : Mm := mset μ (2, 0, 0) 0 0
    (run L S F d 130 0 [some (vR (2, 0, 0)), none] μ1).bind fun p2 =>
    let x3 : Int32 := p2.2 (2, 0, 1) 5
    let μ4 : Mm := mset p2.2 (2, 0, 1) 5 0
    some (x3, μ4) := by
  unfold run
  rw [DF_succ]
  rfl
set_option maxHeartbeats 4000000 in
set_option maxRecDepth 100000 in
theorem e183_0 {L : Nat} {S : Ad → Nat → Int32} {F d : Nat} {μ : Mm} {a1 : Int32} : run L S (F + 1) (d + 1) 183 0 [some (vR (2, 0, 0)), some (vI a1), none] μ =
    let μ1 : Mm := mset μ (2, 0, 0) 0 0
    (run L S F d 131 0 [some (vR (2, 0, 0)), some (vI a1)] μ1).bind fun p2 =>
    if p2.1 = 0 then
      some ((-2), p2.2)
    else
      (run L S F d 130 0 [some (vR (2, 0, 0)), none] p2.2).bind fun p3 =>
      bif inb (60 + a1) 1278 then
        let x4 : Int32 := p3.2 (2, 0, 1) (Int32.toNatClampNeg (60 + a1))
        (run L S F d 139 0 [some (vR (2, 0, 0)), some (vI a1), some (vI 0)] p3.2).bind fun p5 =>
        some (x4, p5.2)
      else none := by
  unfold run
  rw [DF_succ]
  rfl
set_option maxHeartbeats 4000000 in
set_option maxRecDepth 100000 in
theorem e184_0 {L : Nat} {S : Ad → Nat → Int32} {F d : Nat} {μ : Mm} {a1 : Int32} : run L S (F + 1) (d + 1) 184 0 [some (vR (2, 0, 0)), some (vI a1), none] μ =
    let μ1 : Mm := mset μ (2, 0, 0) 0 0
    (run L S F d 127 0 [some (vL ((a1 : Int32).toInt64)), none, some (vL ((1 : Int32).toInt64)), none, some (vL ((200 : Int32).toInt64)), none] μ1).bind fun p2 =>
    if p2.1 = 0 then
      some ((-3), p2.2)
    else
      (run L S F d 130 0 [some (vR (2, 0, 0)), none] p2.2).bind fun p3 =>
      run L S F (d + 1) 184 26 [some (vR (2, 0, 0)), some (vI a1), some (vI 0)] p3.2 := by
  unfold run
  rw [DF_succ]
  rfl
set_option maxHeartbeats 4000000 in
set_option maxRecDepth 100000 in
theorem e184_26 {L : Nat} {S : Ad → Nat → Int32} {F d : Nat} {μ : Mm} {a1 : Int32} {x_2 : Int32} : run L S (F + 1) (d + 1) 184 26 [some (vR (2, 0, 0)), some (vI a1), some (vI x_2)] μ =
    if x_2 < a1 then
      (run L S F d 161 0 [some (vR (2, 0, 0)), none, none] μ).bind fun p2 =>
      run L S F (d + 1) 184 26 [some (vR (2, 0, 0)), some (vI a1), some (vI (x_2 + 1))] p2.2
    else
      let x1 : Int32 := μ (2, 0, 1) 5
      some (x1, μ) := by
  unfold run
  rw [DF_succ]
  rfl
set_option maxHeartbeats 4000000 in
set_option maxRecDepth 100000 in
theorem e185_0 {L : Nat} {S : Ad → Nat → Int32} {F d : Nat} {μ : Mm} {a1 : Int32} {a2 : Int32} : run L S (F + 1) (d + 1) 185 0 [some (vR (2, 0, 0)), some (vI a1), some (vI a2)] μ =
    let μ1 : Mm := mset μ (2, 0, 0) 0 0
    (run L S F d 131 0 [some (vR (2, 0, 0)), some (vI a1)] μ1).bind fun p2 =>
    if p2.1 = 0 then
      some ((-2), p2.2)
    else
      if a2 = 0 then
        bif inb (44 + a1) 1278 then
          let x3 : Int32 := p2.2 (2, 0, 1) (Int32.toNatClampNeg (44 + a1))
          some (x3, p2.2)
        else none
      else if a2 = 1 then
        bif inb (60 + a1) 1278 then
          let x4 : Int32 := p2.2 (2, 0, 1) (Int32.toNatClampNeg (60 + a1))
          some (x4, p2.2)
        else none
      else if a2 = 2 then
        bif inb (76 + a1) 1278 then
          let x5 : Int32 := p2.2 (2, 0, 1) (Int32.toNatClampNeg (76 + a1))
          some (x5, p2.2)
        else none
      else if a2 = 3 then
        bif inb (92 + a1) 1278 then
          let x6 : Int32 := p2.2 (2, 0, 1) (Int32.toNatClampNeg (92 + a1))
          some (x6, p2.2)
        else none
      else if a2 = 4 then
        let x7 : Int32 := p2.2 (2, 0, 1) 12
        some (((x7 >>> (a1 &&& 31)) &&& 1), p2.2)
      else if a2 = 5 then
        (run L S F d 150 0 [some (vR (2, 0, 0)), some (vI a1)] p2.2).bind fun p8 =>
        some (p8.1, p8.2)
      else if a2 = 6 then
        (run L S F d 151 0 [some (vR (2, 0, 0)), some (vI a1), none] p2.2).bind fun p9 =>
        some (p9.1, p9.2)
      else some ((-2), p2.2) := by
  unfold run
  rw [DF_succ]
  rfl
set_option maxHeartbeats 4000000 in
set_option maxRecDepth 100000 in
theorem e186_0 {L : Nat} {S : Ad → Nat → Int32} {F d : Nat} {μ : Mm} {a1 : Int32} {a2 : Int32} : run L S (F + 1) (d + 1) 186 0 [some (vR (2, 0, 0)), some (vI a1), some (vI a2)] μ =
    let μ1 : Mm := mset μ (2, 0, 0) 0 0
    (run L S F d 131 0 [some (vR (2, 0, 0)), some (vI a1)] μ1).bind fun p2 =>
    if p2.1 = 0 then
      some ((-2), p2.2)
    else
      if a2 = 0 then
        bif inb (124 + a1) 1278 then
          let x3 : Int32 := p2.2 (2, 0, 1) (Int32.toNatClampNeg (124 + a1))
          some (x3, p2.2)
        else none
      else if a2 = 1 then
        bif inb (140 + a1) 1278 then
          let x4 : Int32 := p2.2 (2, 0, 1) (Int32.toNatClampNeg (140 + a1))
          some (x4, p2.2)
        else none
      else if a2 = 2 then
        bif inb (156 + a1) 1278 then
          let x5 : Int32 := p2.2 (2, 0, 1) (Int32.toNatClampNeg (156 + a1))
          some (x5, p2.2)
        else none
      else if a2 = 3 then
        (run L S F d 137 0 [some (vR (2, 0, 0)), some (vI a1)] p2.2).bind fun p6 =>
        some (p6.1, p6.2)
      else if a2 = 4 then
        let x7 : Int32 := p2.2 (2, 0, 1) 26
        some (((x7 >>> (a1 &&& 31)) &&& 1), p2.2)
      else some ((-2), p2.2) := by
  unfold run
  rw [DF_succ]
  rfl
set_option maxHeartbeats 4000000 in
set_option maxRecDepth 100000 in
theorem e187_0 {L : Nat} {S : Ad → Nat → Int32} {F d : Nat} {μ : Mm} {a1 : Int32} : run L S (F + 1) (d + 1) 187 0 [some (vR (2, 0, 0)), some (vI a1)] μ =
    let μ1 : Mm := mset μ (2, 0, 0) 0 0
    (run L S F d 131 0 [some (vR (2, 0, 0)), some (vI a1)] μ1).bind fun p2 =>
    if p2.1 = 0 then
      some ((-2), p2.2)
    else
      (run L S F d 132 0 [some (vR (2, 0, 0)), some (vI a1), none] p2.2).bind fun p3 =>
      some (p3.1, p3.2) := by
  unfold run
  rw [DF_succ]
  rfl
set_option maxHeartbeats 4000000 in
set_option maxRecDepth 100000 in
theorem e188_0 {L : Nat} {S : Ad → Nat → Int32} {F d : Nat} {μ : Mm} {a1 : Int32} {a2 : Int32} : run L S (F + 1) (d + 1) 188 0 [some (vR (2, 0, 0)), some (vI a1), some (vI a2), none] μ =
    let μ1 : Mm := mset μ (2, 0, 0) 0 0
    let x2 : Int32 := μ1 (2, 0, 1) 29
    if x2 = 3 then
      let x5 : Int32 := μ1 (2, 0, 1) 29
      if x5 = 0 then
        run L S F (d + 1) 188 50 [some (vR (2, 0, 0)), some (vI a1), some (vI a2), some (vI 1)] μ1
      else
        let x6 : Int32 := μ1 (2, 0, 1) 29
        if x6 = 4 then
          run L S F (d + 1) 188 50 [some (vR (2, 0, 0)), some (vI a1), some (vI a2), some (vI 1)] μ1
        else
          run L S F (d + 1) 188 50 [some (vR (2, 0, 0)), some (vI a1), some (vI a2), some (vI 1)] μ1
    else
      let x3 : Int32 := μ1 (2, 0, 1) 29
      if x3 = 0 then
        run L S F (d + 1) 188 50 [some (vR (2, 0, 0)), some (vI a1), some (vI a2), some (vI 0)] μ1
      else
        let x4 : Int32 := μ1 (2, 0, 1) 29
        if x4 = 4 then
          run L S F (d + 1) 188 50 [some (vR (2, 0, 0)), some (vI a1), some (vI a2), some (vI 0)] μ1
        else
          some ((-2), μ1) := by
  unfold run
  rw [DF_succ]
  rfl
set_option maxHeartbeats 4000000 in
set_option maxRecDepth 100000 in
theorem e188_50 {L : Nat} {S : Ad → Nat → Int32} {F d : Nat} {μ : Mm} {a1 : Int32} {a2 : Int32} {x_3 : Int32} : run L S (F + 1) (d + 1) 188 50 [some (vR (2, 0, 0)), some (vI a1), some (vI a2), some (vI x_3)] μ =
    let x1 : Int32 := μ (2, 0, 1) 30
    (run L S F d 127 0 [some (vL ((a1 : Int32).toInt64)), none, some (vL ((0 : Int32).toInt64)), none, some (vL (((x1 - 1) : Int32).toInt64)), none] μ).bind fun p2 =>
    if p2.1 = 0 then
      some ((-2), p2.2)
    else
      (run L S F d 127 0 [some (vL ((a2 : Int32).toInt64)), none, some (vL ((0 : Int32).toInt64)), none, some (vL ((1 : Int32).toInt64)), none] p2.2).bind fun p3 =>
      if p3.1 = 0 then
        some ((-2), p3.2)
      else
        if x_3 = 0 then
          if a2 = 0 then
            bif inb (172 + a1) 1278 then
              let x5 : Int32 := p3.2 (2, 0, 1) (Int32.toNatClampNeg (172 + a1))
              some (x5, p3.2)
            else none
          else
            bif inb (180 + a1) 1278 then
              let x4 : Int32 := p3.2 (2, 0, 1) (Int32.toNatClampNeg (180 + a1))
              some (x4, p3.2)
            else none
        else
          if a2 = 0 then
            bif inb (196 + a1) 1278 then
              let x7 : Int32 := p3.2 (2, 0, 1) (Int32.toNatClampNeg (196 + a1))
              some (x7, p3.2)
            else none
          else
            bif inb (204 + a1) 1278 then
              let x6 : Int32 := p3.2 (2, 0, 1) (Int32.toNatClampNeg (204 + a1))
              some (x6, p3.2)
            else none := by
  unfold run
  rw [DF_succ]
  rfl
