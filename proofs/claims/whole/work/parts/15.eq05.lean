/-! equations of the methods, out of their code -/
set_option maxHeartbeats 4000000 in
set_option maxRecDepth 100000 in
theorem e146_0 {L : Nat} {S : Ad → Nat → Int32} {F d : Nat} {μ : Mm} {a1 : Int32} : run L S (F + 1) d 146 0 [some (vR (2, 0, 0)), some (vI a1)] μ =
    let x1 : Int32 := μ (2, 0, 1) 30
    if x1 = 0 then none else
    some ((196 + (a1 - a1 / x1 * x1)), μ) := by
  unfold run
  rw [DF_succ]
  rfl
set_option maxHeartbeats 4000000 in
set_option maxRecDepth 100000 in
theorem e147_0 {L : Nat} {S : Ad → Nat → Int32} {F d : Nat} {μ : Mm} {a1 : Int32} : run L S (F + 1) d 147 0 [some (vR (2, 0, 0)), some (vI a1)] μ =
    let x1 : Int32 := μ (2, 0, 1) 30
    if x1 = 0 then none else
    some ((204 + (((3 * a1) + 1) - ((3 * a1) + 1) / x1 * x1)), μ) := by
  unfold run
  rw [DF_succ]
  rfl
set_option maxHeartbeats 4000000 in
set_option maxRecDepth 100000 in
theorem e148_0 {L : Nat} {S : Ad → Nat → Int32} {F d : Nat} {μ : Mm} {a1 : Int32} : run L S (F + 1) (d + 1) 148 0 [some (vR (2, 0, 0)), some (vI a1), none, none] μ =
    (run L S F d 146 0 [some (vR (2, 0, 0)), some (vI a1)] μ).bind fun p1 =>
    bif inb p1.1 1278 then
      let x2 : Int32 := p1.2 (2, 0, 1) (Int32.toNatClampNeg p1.1)
      (run L S F d 147 0 [some (vR (2, 0, 0)), some (vI a1)] p1.2).bind fun p3 =>
      bif inb p3.1 1278 then
        let x4 : Int32 := p3.2 (2, 0, 1) (Int32.toNatClampNeg p3.1)
        if x2 < x4 then
          some (x2, p3.2)
        else
          some (x4, p3.2)
      else none
    else none := by
  unfold run
  rw [DF_succ]
  rfl
set_option maxHeartbeats 4000000 in
set_option maxRecDepth 100000 in
theorem e149_0 {L : Nat} {S : Ad → Nat → Int32} {F d : Nat} {μ : Mm} {a1 : Int32} : run L S (F + 1) (d + 1) 149 0 [some (vR (2, 0, 0)), some (vI a1), none] μ =
    let x1 : Int32 := μ (2, 0, 1) 29
    if x1 = 0 then
      (run L S F d 144 0 [some (vR (2, 0, 0)), some (vI a1), none] μ).bind fun p2 =>
      run L S F (d + 1) 149 163 [some (vR (2, 0, 0)), none, some (vI p2.1)] p2.2
    else if x1 = 1 then
      bif inb (108 + a1) 1278 then
        let x3 : Int32 := μ (2, 0, 1) (Int32.toNatClampNeg (108 + a1))
        bif inb (108 + a1) 1278 then
          let μ4 : Mm := mset μ (2, 0, 1) (Int32.toNatClampNeg (108 + a1)) (x3 + 1)
          bif inb (108 + a1) 1278 then
            let x5 : Int32 := μ4 (2, 0, 1) (Int32.toNatClampNeg (108 + a1))
            run L S F (d + 1) 149 163 [some (vR (2, 0, 0)), none, some (vI x5)] μ4
          else none
        else none
      else none
    else if x1 = 2 then
      (run L S F d 133 0 [some (vR (2, 0, 0)), some (vI 100), none] μ).bind fun p6 =>
      let x7 : Int32 := p6.2 (2, 0, 1) 40
      if p6.1 < x7 then
        some (vp_nar .boolean 1, p6.2)
      else
        some (vp_nar .boolean 0, p6.2)
    else if x1 = 3 then
      (run L S F d 146 0 [some (vR (2, 0, 0)), some (vI a1)] μ).bind fun p8 =>
      bif inb p8.1 1278 then
        let x9 : Int32 := p8.2 (2, 0, 1) (Int32.toNatClampNeg p8.1)
        bif inb p8.1 1278 then
          let μ10 : Mm := mset p8.2 (2, 0, 1) (Int32.toNatClampNeg p8.1) (x9 + 1)
          (run L S F d 147 0 [some (vR (2, 0, 0)), some (vI a1)] μ10).bind fun p11 =>
          bif inb p11.1 1278 then
            let x12 : Int32 := p11.2 (2, 0, 1) (Int32.toNatClampNeg p11.1)
            bif inb p11.1 1278 then
              let μ13 : Mm := mset p11.2 (2, 0, 1) (Int32.toNatClampNeg p11.1) (x12 + 1)
              (run L S F d 148 0 [some (vR (2, 0, 0)), some (vI a1), none, none] μ13).bind fun p14 =>
              run L S F (d + 1) 149 163 [some (vR (2, 0, 0)), none, some (vI p14.1)] p14.2
            else none
          else none
        else none
      else none
    else if x1 = 4 then
      (run L S F d 145 0 [some (vR (2, 0, 0)), some (vI a1), none] μ).bind fun p15 =>
      run L S F (d + 1) 149 163 [some (vR (2, 0, 0)), none, some (vI p15.1)] p15.2
    else if x1 = 5 then
      bif inb (108 + a1) 1278 then
        let x16 : Int32 := μ (2, 0, 1) (Int32.toNatClampNeg (108 + a1))
        bif inb (108 + a1) 1278 then
          let μ17 : Mm := mset μ (2, 0, 1) (Int32.toNatClampNeg (108 + a1)) (x16 + 1)
          some (vp_nar .boolean 0, μ17)
        else none
      else none
    else (run L S F d 145 0 [some (vR (2, 0, 0)), some (vI a1), none] μ).bind fun p18 =>
    run L S F (d + 1) 149 163 [some (vR (2, 0, 0)), none, some (vI p18.1)] p18.2 := by
  unfold run
  rw [DF_succ]
  rfl
set_option maxHeartbeats 4000000 in
set_option maxRecDepth 100000 in
theorem e149_163 {L : Nat} {S : Ad → Nat → Int32} {F d : Nat} {μ : Mm} {x_2 : Int32} : run L S (F + 1) (d + 1) 149 163 [some (vR (2, 0, 0)), none, some (vI x_2)] μ =
    if 0 < x_2 then
      let x1 : Int32 := μ (2, 0, 1) 31
      if x1 = 0 then none else
      if (x_2 - x_2 / x1 * x1) = 0 then
        some (vp_nar .boolean 1, μ)
      else
        some (vp_nar .boolean 0, μ)
    else
      some (vp_nar .boolean 0, μ) := by
  unfold run
  rw [DF_succ]
  rfl
set_option maxHeartbeats 4000000 in
set_option maxRecDepth 100000 in
theorem e150_0 {L : Nat} {S : Ad → Nat → Int32} {F d : Nat} {μ : Mm} {a1 : Int32} : run L S (F + 1) (d + 1) 150 0 [some (vR (2, 0, 0)), some (vI a1)] μ =
    let x1 : Int32 := μ (2, 0, 1) 29
    if x1 = 1 then
      bif inb (108 + a1) 1278 then
        let x2 : Int32 := μ (2, 0, 1) (Int32.toNatClampNeg (108 + a1))
        some (x2, μ)
      else none
    else
      let x3 : Int32 := μ (2, 0, 1) 29
      if x3 = 5 then
        bif inb (108 + a1) 1278 then
          let x10 : Int32 := μ (2, 0, 1) (Int32.toNatClampNeg (108 + a1))
          some (x10, μ)
        else none
      else
        let x4 : Int32 := μ (2, 0, 1) 29
        if x4 = 3 then
          (run L S F d 148 0 [some (vR (2, 0, 0)), some (vI a1), none, none] μ).bind fun p9 =>
          some (p9.1, p9.2)
        else
          let x5 : Int32 := μ (2, 0, 1) 29
          if x5 = 2 then
            some (0, μ)
          else
            (run L S F d 141 0 [some (vR (2, 0, 0)), some (vI a1), none] μ).bind fun p6 =>
            if p6.1 = (-1) then
              some (0, p6.2)
            else
              (run L S F d 141 0 [some (vR (2, 0, 0)), some (vI a1), none] p6.2).bind fun p7 =>
              bif inb (180 + p7.1) 1278 then
                let x8 : Int32 := p7.2 (2, 0, 1) (Int32.toNatClampNeg (180 + p7.1))
                some (x8, p7.2)
              else none := by
  unfold run
  rw [DF_succ]
  rfl
set_option maxHeartbeats 4000000 in
set_option maxRecDepth 100000 in
theorem e151_0 {L : Nat} {S : Ad → Nat → Int32} {F d : Nat} {μ : Mm} {a1 : Int32} : run L S (F + 1) d 151 0 [some (vR (2, 0, 0)), some (vI a1), none] μ =
    run L S F d 151 2 [some (vR (2, 0, 0)), some (vI a1), some (vI 0)] μ := by
  unfold run
  rw [DF_succ]
  rfl
set_option maxHeartbeats 4000000 in
set_option maxRecDepth 100000 in
theorem e151_2 {L : Nat} {S : Ad → Nat → Int32} {F d : Nat} {μ : Mm} {a1 : Int32} {x_2 : Int32} : run L S (F + 1) d 151 2 [some (vR (2, 0, 0)), some (vI a1), some (vI x_2)] μ =
    let x1 : Int32 := μ (2, 0, 1) 4
    if x_2 < x1 then
      bif inb (212 + x_2) 1278 then
        let x2 : Int32 := μ (2, 0, 1) (Int32.toNatClampNeg (212 + x_2))
        if x2 = a1 then
          some (x_2, μ)
        else
          run L S F d 151 2 [some (vR (2, 0, 0)), some (vI a1), some (vI (x_2 + 1))] μ
      else none
    else
      some ((-1), μ) := by
  unfold run
  rw [DF_succ]
  rfl
set_option maxHeartbeats 4000000 in
set_option maxRecDepth 100000 in
theorem e152_0 {L : Nat} {S : Ad → Nat → Int32} {F d : Nat} {μ : Mm} {a1 : Int32} : run L S (F + 1) (d + 1) 152 0 [some (vR (2, 0, 0)), some (vI a1)] μ =
    (run L S F d 151 0 [some (vR (2, 0, 0)), some (vI a1), none] μ).bind fun p1 =>
    if p1.1 = (-1) then
      let x2 : Int32 := p1.2 (2, 0, 1) 4
      bif inb (212 + x2) 1278 then
        let μ3 : Mm := mset p1.2 (2, 0, 1) (Int32.toNatClampNeg (212 + x2)) a1
        let x4 : Int32 := μ3 (2, 0, 1) 4
        let μ5 : Mm := mset μ3 (2, 0, 1) 4 (x4 + 1)
        some (0, μ5)
      else none
    else
      some (0, p1.2) := by
  unfold run
  rw [DF_succ]
  rfl
set_option maxHeartbeats 4000000 in
set_option maxRecDepth 100000 in
theorem e153_0 {L : Nat} {S : Ad → Nat → Int32} {F d : Nat} {μ : Mm} {a1 : Int32} {a2 : Int32} : run L S (F + 1) (d + 1) 153 0 [some (vR (2, 0, 0)), some (vI a1), some (vI a2), none] μ =
    let x1 : Int32 := μ (2, 0, 1) 41
    if x1 = 1 then
      bif inb (44 + a1) 1278 then
        let x8 : Int32 := μ (2, 0, 1) (Int32.toNatClampNeg (44 + a1))
        let x9 : Int32 := μ (2, 0, 1) 0
        (run L S F d 127 0 [some (vL (((x8 + a2) : Int32).toInt64)), none, some (vL ((0 : Int32).toInt64)), none, some (vL (((x9 - 1) : Int32).toInt64)), none] μ).bind fun p10 =>
        if p10.1 = 0 then
          some (0, p10.2)
        else
          let x11 : Int32 := p10.2 (2, 0, 1) 41
          if x11 = 1 then
            (run L S F d 132 0 [some (vR (2, 0, 0)), some (vI (x8 + a2)), none] p10.2).bind fun p13 =>
            (run L S F d 152 0 [some (vR (2, 0, 0)), some (vI p13.1)] p13.2).bind fun p14 =>
            some (0, p14.2)
          else
            (run L S F d 152 0 [some (vR (2, 0, 0)), some (vI (x8 + a2))] p10.2).bind fun p12 =>
            some (0, p12.2)
      else none
    else
      let x2 : Int32 := μ (2, 0, 1) 0
      (run L S F d 127 0 [some (vL (((a1 + a2) : Int32).toInt64)), none, some (vL ((0 : Int32).toInt64)), none, some (vL (((x2 - 1) : Int32).toInt64)), none] μ).bind fun p3 =>
      if p3.1 = 0 then
        some (0, p3.2)
      else
        let x4 : Int32 := p3.2 (2, 0, 1) 41
        if x4 = 1 then
          (run L S F d 132 0 [some (vR (2, 0, 0)), some (vI (a1 + a2)), none] p3.2).bind fun p6 =>
          (run L S F d 152 0 [some (vR (2, 0, 0)), some (vI p6.1)] p6.2).bind fun p7 =>
          some (0, p7.2)
        else
          (run L S F d 152 0 [some (vR (2, 0, 0)), some (vI (a1 + a2))] p3.2).bind fun p5 =>
          some (0, p5.2) := by
  unfold run
  rw [DF_succ]
  rfl
set_option maxHeartbeats 4000000 in
set_option maxRecDepth 100000 in
theorem e154_0 {L : Nat} {S : Ad → Nat → Int32} {F d : Nat} {μ : Mm} {a1 : Int32} : run L S (F + 1) (d + 1) 154 0 [some (vR (2, 0, 0)), some (vI a1), none] μ =
    bif inb (60 + a1) 1278 then
      let μ1 : Mm := mset μ (2, 0, 1) (Int32.toNatClampNeg (60 + a1)) 0
      bif inb (76 + a1) 1278 then
        let x2 : Int32 := μ1 (2, 0, 1) (Int32.toNatClampNeg (76 + a1))
        bif inb (76 + a1) 1278 then
          let μ3 : Mm := mset μ1 (2, 0, 1) (Int32.toNatClampNeg (76 + a1)) (x2 + 1)
          bif inb (92 + a1) 1278 then
            let x4 : Int32 := μ3 (2, 0, 1) (Int32.toNatClampNeg (92 + a1))
            bif inb (92 + a1) 1278 then
              let μ5 : Mm := mset μ3 (2, 0, 1) (Int32.toNatClampNeg (92 + a1)) (x4 + 1)
              (run L S F d 135 0 [some (vR (2, 0, 0)), some (vI a1), none] μ5).bind fun p6 =>
              (run L S F d 149 0 [some (vR (2, 0, 0)), some (vI a1), none] p6.2).bind fun p7 =>
              if p7.1 = 0 then
                some (0, p7.2)
              else
                let x8 : Int32 := p7.2 (2, 0, 1) 17
                let μ9 : Mm := mset p7.2 (2, 0, 1) 17 (x8 + 1)
                run L S F (d + 1) 154 63 [some (vR (2, 0, 0)), some (vI a1), some (vI 1)] μ9
            else none
          else none
        else none
      else none
    else none := by
  unfold run
  rw [DF_succ]
  rfl
set_option maxHeartbeats 4000000 in
set_option maxRecDepth 100000 in
theorem e154_63 {L : Nat} {S : Ad → Nat → Int32} {F d : Nat} {μ : Mm} {a1 : Int32} {x_2 : Int32} : run L S (F + 1) (d + 1) 154 63 [some (vR (2, 0, 0)), some (vI a1), some (vI x_2)] μ =
    let x1 : Int32 := μ (2, 0, 1) 28
    if x1 < x_2 then
      some (0, μ)
    else
      (run L S F d 153 0 [some (vR (2, 0, 0)), some (vI a1), some (vI (-x_2)), none] μ).bind fun p2 =>
      (run L S F d 153 0 [some (vR (2, 0, 0)), some (vI a1), some (vI x_2), none] p2.2).bind fun p3 =>
      run L S F (d + 1) 154 63 [some (vR (2, 0, 0)), some (vI a1), some (vI (x_2 + 1))] p3.2 := by
  unfold run
  rw [DF_succ]
  rfl
set_option maxHeartbeats 4000000 in
set_option maxRecDepth 100000 in
theorem e155_0 {L : Nat} {S : Ad → Nat → Int32} {F d : Nat} {μ : Mm} {a1 : Int32} {a2 : Int32} : run L S (F + 1) d 155 0 [some (vR (2, 0, 0)), some (vI a1), some (vI a2)] μ =
    let μ1 : Mm := mset μ (2, 0, 1) 7 a1
    let μ2 : Mm := mset μ1 (2, 0, 1) 9 a1
    let μ3 : Mm := mset μ2 (2, 0, 1) 8 a2
    some (0, μ3) := by
  unfold run
  rw [DF_succ]
  rfl
set_option maxHeartbeats 4000000 in
set_option maxRecDepth 100000 in
theorem e156_0 {L : Nat} {S : Ad → Nat → Int32} {F d : Nat} {μ : Mm} : run L S (F + 1) (d + 1) 156 0 [some (vR (2, 0, 0)), none, none] μ =
    run L S F (d + 1) 156 2 [some (vR (2, 0, 0)), some (vI 0), none] μ := by
  unfold run
  rw [DF_succ]
  rfl
set_option maxHeartbeats 4000000 in
set_option maxRecDepth 100000 in
theorem e156_2 {L : Nat} {S : Ad → Nat → Int32} {F d : Nat} {μ : Mm} {x_1 : Int32} : run L S (F + 1) (d + 1) 156 2 [some (vR (2, 0, 0)), some (vI x_1), none] μ =
    let x1 : Int32 := μ (2, 0, 1) 36
    if x_1 < x1 then
      let x4 : Int32 := μ (2, 0, 1) 10
      (run L S F d 132 0 [some (vR (2, 0, 0)), some (vI x4), none] μ).bind fun p5 =>
      let x6 : Int32 := p5.2 (2, 0, 1) 43
      if 0 < x6 then
        (run L S F d 138 0 [some (vR (2, 0, 0)), some (vI p5.1), none] p5.2).bind fun p13 =>
        (run L S F d 139 0 [some (vR (2, 0, 0)), some (vI p5.1), some (vI 0)] p13.2).bind fun p14 =>
        let x15 : Int32 := p14.2 (2, 0, 1) 10
        let x16 : Int32 := p14.2 (2, 0, 1) 0
        if x16 = 0 then none else
        let μ17 : Mm := mset p14.2 (2, 0, 1) 10 ((x15 + 1) - (x15 + 1) / x16 * x16)
        let x18 : Int32 := μ17 (2, 0, 1) 19
        let μ19 : Mm := mset μ17 (2, 0, 1) 19 (x18 + 1)
        run L S F (d + 1) 156 2 [some (vR (2, 0, 0)), some (vI (x_1 + 1)), none] μ19
      else
        (run L S F d 139 0 [some (vR (2, 0, 0)), some (vI p5.1), some (vI 0)] p5.2).bind fun p7 =>
        let x8 : Int32 := p7.2 (2, 0, 1) 10
        let x9 : Int32 := p7.2 (2, 0, 1) 0
        if x9 = 0 then none else
        let μ10 : Mm := mset p7.2 (2, 0, 1) 10 ((x8 + 1) - (x8 + 1) / x9 * x9)
        let x11 : Int32 := μ10 (2, 0, 1) 19
        let μ12 : Mm := mset μ10 (2, 0, 1) 19 (x11 + 1)
        run L S F (d + 1) 156 2 [some (vR (2, 0, 0)), some (vI (x_1 + 1)), none] μ12
    else
      let x2 : Int32 := μ (2, 0, 1) 6
      let μ3 : Mm := mset μ (2, 0, 1) 6 (x2 - 1)
      some (0, μ3) := by
  unfold run
  rw [DF_succ]
  rfl
set_option maxHeartbeats 4000000 in
set_option maxRecDepth 100000 in
theorem e157_0 {L : Nat} {S : Ad → Nat → Int32} {F d : Nat} {μ : Mm} : run L S (F + 1) (d + 1) 157 0 [some (vR (2, 0, 0)), none, none] μ =
    let x1 : Int32 := μ (2, 0, 1) 212
    let x2 : Int32 := μ (2, 0, 1) 4
    let μ3 : Mm := mset μ (2, 0, 1) 4 (x2 - 1)
    run L S F (d + 1) 157 21 [some (vR (2, 0, 0)), some (vI x1), some (vI 0)] μ3 := by
  unfold run
  rw [DF_succ]
  rfl
set_option maxHeartbeats 4000000 in
set_option maxRecDepth 100000 in
theorem e157_21 {L : Nat} {S : Ad → Nat → Int32} {F d : Nat} {μ : Mm} {x_1 : Int32} {x_2 : Int32} : run L S (F + 1) (d + 1) 157 21 [some (vR (2, 0, 0)), some (vI x_1), some (vI x_2)] μ =
    let x1 : Int32 := μ (2, 0, 1) 4
    if x_2 < x1 then
      bif inb ((212 + x_2) + 1) 1278 then
        let x10 : Int32 := μ (2, 0, 1) (Int32.toNatClampNeg ((212 + x_2) + 1))
        bif inb (212 + x_2) 1278 then
          let μ11 : Mm := mset μ (2, 0, 1) (Int32.toNatClampNeg (212 + x_2)) x10
          run L S F (d + 1) 157 21 [some (vR (2, 0, 0)), some (vI x_1), some (vI (x_2 + 1))] μ11
        else none
      else none
    else
      let x2 : Int32 := μ (2, 0, 1) 43
      if x2 = 2 then
        (run L S F d 138 0 [some (vR (2, 0, 0)), some (vI x_1), none] μ).bind fun p6 =>
        (run L S F d 139 0 [some (vR (2, 0, 0)), some (vI x_1), some (vI 1)] p6.2).bind fun p7 =>
        let x8 : Int32 := p7.2 (2, 0, 1) 18
        let μ9 : Mm := mset p7.2 (2, 0, 1) 18 (x8 + 1)
        some (0, μ9)
      else
        (run L S F d 139 0 [some (vR (2, 0, 0)), some (vI x_1), some (vI 1)] μ).bind fun p3 =>
        let x4 : Int32 := p3.2 (2, 0, 1) 18
        let μ5 : Mm := mset p3.2 (2, 0, 1) 18 (x4 + 1)
        some (0, μ5) := by
  unfold run
  rw [DF_succ]
  rfl
set_option maxHeartbeats 4000000 in
set_option maxRecDepth 100000 in
theorem e158_0 {L : Nat} {S : Ad → Nat → Int32} {F d : Nat} {μ : Mm} : run L S (F + 1) d 158 0 [some (vR (2, 0, 0)), none] μ =
    run L S F d 158 2 [some (vR (2, 0, 0)), some (vI 0)] μ := by
  unfold run
  rw [DF_succ]
  rfl
set_option maxHeartbeats 4000000 in
set_option maxRecDepth 100000 in
theorem e158_2 {L : Nat} {S : Ad → Nat → Int32} {F d : Nat} {μ : Mm} {x_1 : Int32} : run L S (F + 1) d 158 2 [some (vR (2, 0, 0)), some (vI x_1)] μ =
    let x1 : Int32 := μ (2, 0, 1) 5
    if x_1 < x1 then
      let x2 : Int32 := μ (2, 0, 1) 29
      if x2 = 5 then
        bif inb (228 + x_1) 1278 then
          let x3 : Int32 := μ (2, 0, 1) (Int32.toNatClampNeg (228 + x_1))
          bif inb (108 + x3) 1278 then
            let x4 : Int32 := μ (2, 0, 1) (Int32.toNatClampNeg (108 + x3))
            let x5 : Int32 := μ (2, 0, 1) 31
            if x4 < x5 then
              some (x_1, μ)
            else
              run L S F d 158 2 [some (vR (2, 0, 0)), some (vI (x_1 + 1))] μ
          else none
        else none
      else
        some (x_1, μ)
    else
      some ((-1), μ) := by
  unfold run
  rw [DF_succ]
  rfl
set_option maxHeartbeats 4000000 in
set_option maxRecDepth 100000 in
theorem e159_0 {L : Nat} {S : Ad → Nat → Int32} {F d : Nat} {μ : Mm} {a1 : Int32} : run L S (F + 1) (d + 1) 159 0 [some (vR (2, 0, 0)), some (vI a1), none, none, none] μ =
    bif inb (228 + a1) 1278 then
      let x1 : Int32 := μ (2, 0, 1) (Int32.toNatClampNeg (228 + a1))
      let x2 : Int32 := μ (2, 0, 1) 1
      bif inb (327 + a1) 1278 then
        let x3 : Int32 := μ (2, 0, 1) (Int32.toNatClampNeg (327 + a1))
        let x4 : Int32 := μ (2, 0, 1) 5
        let μ5 : Mm := mset μ (2, 0, 1) 5 (x4 - 1)
        run L S F (d + 1) 159 42 [some (vR (2, 0, 0)), none, some (vI x1), some (vI (x2 - x3)), some (vI a1)] μ5
      else none
    else none := by
  unfold run
  rw [DF_succ]
  rfl
set_option maxHeartbeats 4000000 in
set_option maxRecDepth 100000 in
theorem e159_42 {L : Nat} {S : Ad → Nat → Int32} {F d : Nat} {μ : Mm} {x_2 : Int32} {x_3 : Int32} {x_4 : Int32} : run L S (F + 1) (d + 1) 159 42 [some (vR (2, 0, 0)), none, some (vI x_2), some (vI x_3), some (vI x_4)] μ =
    let x1 : Int32 := μ (2, 0, 1) 5
    if x_4 < x1 then
      bif inb ((228 + x_4) + 1) 1278 then
        let x12 : Int32 := μ (2, 0, 1) (Int32.toNatClampNeg ((228 + x_4) + 1))
        bif inb (228 + x_4) 1278 then
          let μ13 : Mm := mset μ (2, 0, 1) (Int32.toNatClampNeg (228 + x_4)) x12
          bif inb ((327 + x_4) + 1) 1278 then
            let x14 : Int32 := μ13 (2, 0, 1) (Int32.toNatClampNeg ((327 + x_4) + 1))
            bif inb (327 + x_4) 1278 then
              let μ15 : Mm := mset μ13 (2, 0, 1) (Int32.toNatClampNeg (327 + x_4)) x14
              run L S F (d + 1) 159 42 [some (vR (2, 0, 0)), none, some (vI x_2), some (vI x_3), some (vI (x_4 + 1))] μ15
            else none
          else none
        else none
      else none
    else
      let x2 : Int32 := μ (2, 0, 1) 13
      let μ3 : Mm := mset μ (2, 0, 1) 13 (x2 + 1)
      let x4 : Int32 := μ3 (2, 0, 1) 14
      let μ5 : Mm := mset μ3 (2, 0, 1) 14 (x4 + x_3)
      let x6 : Int32 := μ5 (2, 0, 1) 15
      if x6 < x_3 then
        let μ9 : Mm := mset μ5 (2, 0, 1) 15 x_3
        let μ10 : Mm := mset μ9 (2, 0, 0) 10 x_3
        (run L S F d 154 0 [some (vR (2, 0, 0)), some (vI x_2), none] μ10).bind fun p11 =>
        some (0, p11.2)
      else
        let μ7 : Mm := mset μ5 (2, 0, 0) 10 x_3
        (run L S F d 154 0 [some (vR (2, 0, 0)), some (vI x_2), none] μ7).bind fun p8 =>
        some (0, p8.2) := by
  unfold run
  rw [DF_succ]
  rfl
set_option maxHeartbeats 4000000 in
set_option maxRecDepth 100000 in
theorem e160_0 {L : Nat} {S : Ad → Nat → Int32} {F d : Nat} {μ : Mm} : run L S (F + 1) (d + 1) 160 0 [some (vR (2, 0, 0)), none, none] μ =
    (run L S F d 158 0 [some (vR (2, 0, 0)), none] μ).bind fun p1 =>
    if p1.1 = (-1) then
      let x8 : Int32 := p1.2 (2, 0, 1) 6
      if 0 < x8 then
        let x9 : Int32 := p1.2 (2, 0, 1) 35
        (run L S F d 155 0 [some (vR (2, 0, 0)), some (vI 0), some (vI x9)] p1.2).bind fun p10 =>
        (run L S F d 156 0 [some (vR (2, 0, 0)), none, none] p10.2).bind fun p11 =>
        some (0, p11.2)
      else
        run L S F (d + 1) 160 66 [some (vR (2, 0, 0)), some (vI p1.1), some (vI 1)] p1.2
    else
      let x2 : Int32 := p1.2 (2, 0, 1) 6
      if 0 < x2 then
        let x3 : Int32 := p1.2 (2, 0, 1) 6
        let x4 : Int32 := p1.2 (2, 0, 1) 39
        if x4 < x3 then
          let x5 : Int32 := p1.2 (2, 0, 1) 35
          (run L S F d 155 0 [some (vR (2, 0, 0)), some (vI 0), some (vI x5)] p1.2).bind fun p6 =>
          (run L S F d 156 0 [some (vR (2, 0, 0)), none, none] p6.2).bind fun p7 =>
          some (0, p7.2)
        else
          run L S F (d + 1) 160 66 [some (vR (2, 0, 0)), some (vI p1.1), some (vI 0)] p1.2
      else
        run L S F (d + 1) 160 66 [some (vR (2, 0, 0)), some (vI p1.1), some (vI 0)] p1.2 := by
  unfold run
  rw [DF_succ]
  rfl
set_option maxHeartbeats 4000000 in
set_option maxRecDepth 100000 in
theorem e160_66 {L : Nat} {S : Ad → Nat → Int32} {F d : Nat} {μ : Mm} {x_1 : Int32} {x_2 : Int32} : run L S (F + 1) (d + 1) 160 66 [some (vR (2, 0, 0)), some (vI x_1), some (vI x_2)] μ =
    let x1 : Int32 := μ (2, 0, 1) 4
    if 0 < x1 then
      let x5 : Int32 := μ (2, 0, 1) 4
      let x6 : Int32 := μ (2, 0, 1) 38
      if x5 < x6 then
        if x_2 = 0 then
          let x13 : Int32 := μ (2, 0, 1) 9
          if x13 = 1 then
            let x17 : Int32 := μ (2, 0, 1) 37
            (run L S F d 155 0 [some (vR (2, 0, 0)), some (vI 1), some (vI x17)] μ).bind fun p18 =>
            (run L S F d 157 0 [some (vR (2, 0, 0)), none, none] p18.2).bind fun p19 =>
            some (0, p19.2)
          else
            if x_2 = 0 then
              let x14 : Int32 := μ (2, 0, 1) 33
              (run L S F d 155 0 [some (vR (2, 0, 0)), some (vI 2), some (vI x14)] μ).bind fun p15 =>
              (run L S F d 159 0 [some (vR (2, 0, 0)), some (vI x_1), none, none, none] p15.2).bind fun p16 =>
              some (0, p16.2)
            else
              some (0, μ)
        else
          let x10 : Int32 := μ (2, 0, 1) 37
          (run L S F d 155 0 [some (vR (2, 0, 0)), some (vI 1), some (vI x10)] μ).bind fun p11 =>
          (run L S F d 157 0 [some (vR (2, 0, 0)), none, none] p11.2).bind fun p12 =>
          some (0, p12.2)
      else
        let x7 : Int32 := μ (2, 0, 1) 37
        (run L S F d 155 0 [some (vR (2, 0, 0)), some (vI 1), some (vI x7)] μ).bind fun p8 =>
        (run L S F d 157 0 [some (vR (2, 0, 0)), none, none] p8.2).bind fun p9 =>
        some (0, p9.2)
    else
      if x_2 = 0 then
        let x2 : Int32 := μ (2, 0, 1) 33
        (run L S F d 155 0 [some (vR (2, 0, 0)), some (vI 2), some (vI x2)] μ).bind fun p3 =>
        (run L S F d 159 0 [some (vR (2, 0, 0)), some (vI x_1), none, none, none] p3.2).bind fun p4 =>
        some (0, p4.2)
      else
        some (0, μ) := by
  unfold run
  rw [DF_succ]
  rfl
set_option maxHeartbeats 4000000 in
set_option maxRecDepth 100000 in
theorem e161_0 {L : Nat} {S : Ad → Nat → Int32} {F d : Nat} {μ : Mm} : run L S (F + 1) (d + 1) 161 0 [some (vR (2, 0, 0)), none, none] μ =
    let x1 : Int32 := μ (2, 0, 1) 1
    if 0 < x1 then
      let x2 : Int32 := μ (2, 0, 1) 34
      if x2 = 0 then none else
      if (x1 - x1 / x2 * x2) = 0 then
        let x3 : Int32 := μ (2, 0, 1) 6
        if x3 < 99 then
          let x4 : Int32 := μ (2, 0, 1) 6
          let μ5 : Mm := mset μ (2, 0, 1) 6 (x4 + 1)
          run L S F (d + 1) 161 46 [some (vR (2, 0, 0)), some (vI x1), none] μ5
        else
          run L S F (d + 1) 161 46 [some (vR (2, 0, 0)), some (vI x1), none] μ
      else
        run L S F (d + 1) 161 46 [some (vR (2, 0, 0)), some (vI x1), none] μ
    else
      run L S F (d + 1) 161 46 [some (vR (2, 0, 0)), some (vI x1), none] μ := by
  unfold run
  rw [DF_succ]
  rfl
set_option maxHeartbeats 4000000 in
set_option maxRecDepth 100000 in
theorem e161_46 {L : Nat} {S : Ad → Nat → Int32} {F d : Nat} {μ : Mm} {x_1 : Int32} : run L S (F + 1) (d + 1) 161 46 [some (vR (2, 0, 0)), some (vI x_1), none] μ =
    if 0 < x_1 then
      let x27 : Int32 := μ (2, 0, 1) 32
      if x27 = 0 then none else
      if (x_1 - x_1 / x27 * x27) = 0 then
        (run L S F d 140 0 [some (vR (2, 0, 0)), none] μ).bind fun p54 =>
        run L S F (d + 1) 161 68 [some (vR (2, 0, 0)), none, some (vI 0)] p54.2
      else
        let x28 : Int32 := μ (2, 0, 1) 8
        if x28 = 0 then
          (run L S F d 160 0 [some (vR (2, 0, 0)), none, none] μ).bind fun p41 =>
          let x42 : Int32 := p41.2 (2, 0, 1) 8
          if 0 < x42 then
            let x47 : Int32 := p41.2 (2, 0, 1) 7
            bif inb (22 + x47) 1278 then
              let x48 : Int32 := p41.2 (2, 0, 1) (Int32.toNatClampNeg (22 + x47))
              bif inb (22 + x47) 1278 then
                let μ49 : Mm := mset p41.2 (2, 0, 1) (Int32.toNatClampNeg (22 + x47)) (x48 + 1)
                let x50 : Int32 := μ49 (2, 0, 1) 8
                let μ51 : Mm := mset μ49 (2, 0, 1) 8 (x50 - 1)
                let x52 : Int32 := μ51 (2, 0, 1) 1
                let μ53 : Mm := mset μ51 (2, 0, 1) 1 (x52 + 1)
                some (0, μ53)
              else none
            else none
          else
            let x43 : Int32 := p41.2 (2, 0, 1) 25
            let μ44 : Mm := mset p41.2 (2, 0, 1) 25 (x43 + 1)
            let x45 : Int32 := μ44 (2, 0, 1) 1
            let μ46 : Mm := mset μ44 (2, 0, 1) 1 (x45 + 1)
            some (0, μ46)
        else
          let x29 : Int32 := μ (2, 0, 1) 8
          if 0 < x29 then
            let x34 : Int32 := μ (2, 0, 1) 7
            bif inb (22 + x34) 1278 then
              let x35 : Int32 := μ (2, 0, 1) (Int32.toNatClampNeg (22 + x34))
              bif inb (22 + x34) 1278 then
                let μ36 : Mm := mset μ (2, 0, 1) (Int32.toNatClampNeg (22 + x34)) (x35 + 1)
                let x37 : Int32 := μ36 (2, 0, 1) 8
                let μ38 : Mm := mset μ36 (2, 0, 1) 8 (x37 - 1)
                let x39 : Int32 := μ38 (2, 0, 1) 1
                let μ40 : Mm := mset μ38 (2, 0, 1) 1 (x39 + 1)
                some (0, μ40)
              else none
            else none
          else
            let x30 : Int32 := μ (2, 0, 1) 25
            let μ31 : Mm := mset μ (2, 0, 1) 25 (x30 + 1)
            let x32 : Int32 := μ31 (2, 0, 1) 1
            let μ33 : Mm := mset μ31 (2, 0, 1) 1 (x32 + 1)
            some (0, μ33)
    else
      let x1 : Int32 := μ (2, 0, 1) 8
      if x1 = 0 then
        (run L S F d 160 0 [some (vR (2, 0, 0)), none, none] μ).bind fun p14 =>
        let x15 : Int32 := p14.2 (2, 0, 1) 8
        if 0 < x15 then
          let x20 : Int32 := p14.2 (2, 0, 1) 7
          bif inb (22 + x20) 1278 then
            let x21 : Int32 := p14.2 (2, 0, 1) (Int32.toNatClampNeg (22 + x20))
            bif inb (22 + x20) 1278 then
              let μ22 : Mm := mset p14.2 (2, 0, 1) (Int32.toNatClampNeg (22 + x20)) (x21 + 1)
              let x23 : Int32 := μ22 (2, 0, 1) 8
              let μ24 : Mm := mset μ22 (2, 0, 1) 8 (x23 - 1)
              let x25 : Int32 := μ24 (2, 0, 1) 1
              let μ26 : Mm := mset μ24 (2, 0, 1) 1 (x25 + 1)
              some (0, μ26)
            else none
          else none
        else
          let x16 : Int32 := p14.2 (2, 0, 1) 25
          let μ17 : Mm := mset p14.2 (2, 0, 1) 25 (x16 + 1)
          let x18 : Int32 := μ17 (2, 0, 1) 1
          let μ19 : Mm := mset μ17 (2, 0, 1) 1 (x18 + 1)
          some (0, μ19)
      else
        let x2 : Int32 := μ (2, 0, 1) 8
        if 0 < x2 then
          let x7 : Int32 := μ (2, 0, 1) 7
          bif inb (22 + x7) 1278 then
            let x8 : Int32 := μ (2, 0, 1) (Int32.toNatClampNeg (22 + x7))
            bif inb (22 + x7) 1278 then
              let μ9 : Mm := mset μ (2, 0, 1) (Int32.toNatClampNeg (22 + x7)) (x8 + 1)
              let x10 : Int32 := μ9 (2, 0, 1) 8
              let μ11 : Mm := mset μ9 (2, 0, 1) 8 (x10 - 1)
              let x12 : Int32 := μ11 (2, 0, 1) 1
              let μ13 : Mm := mset μ11 (2, 0, 1) 1 (x12 + 1)
              some (0, μ13)
            else none
          else none
        else
          let x3 : Int32 := μ (2, 0, 1) 25
          let μ4 : Mm := mset μ (2, 0, 1) 25 (x3 + 1)
          let x5 : Int32 := μ4 (2, 0, 1) 1
          let μ6 : Mm := mset μ4 (2, 0, 1) 1 (x5 + 1)
          some (0, μ6) := by
  unfold run
  rw [DF_succ]
  rfl
set_option maxHeartbeats 4000000 in
set_option maxRecDepth 100000 in
theorem e161_68 {L : Nat} {S : Ad → Nat → Int32} {F d : Nat} {μ : Mm} {x_2 : Int32} : run L S (F + 1) (d + 1) 161 68 [some (vR (2, 0, 0)), none, some (vI x_2)] μ =
    if x_2 < 16 then
      bif inb (76 + x_2) 1278 then
        let μ27 : Mm := mset μ (2, 0, 1) (Int32.toNatClampNeg (76 + x_2)) 0
        run L S F (d + 1) 161 68 [some (vR (2, 0, 0)), none, some (vI (x_2 + 1))] μ27
      else none
    else
      let x1 : Int32 := μ (2, 0, 1) 8
      if x1 = 0 then
        (run L S F d 160 0 [some (vR (2, 0, 0)), none, none] μ).bind fun p14 =>
        let x15 : Int32 := p14.2 (2, 0, 1) 8
        if 0 < x15 then
          let x20 : Int32 := p14.2 (2, 0, 1) 7
          bif inb (22 + x20) 1278 then
            let x21 : Int32 := p14.2 (2, 0, 1) (Int32.toNatClampNeg (22 + x20))
            bif inb (22 + x20) 1278 then
              let μ22 : Mm := mset p14.2 (2, 0, 1) (Int32.toNatClampNeg (22 + x20)) (x21 + 1)
              let x23 : Int32 := μ22 (2, 0, 1) 8
              let μ24 : Mm := mset μ22 (2, 0, 1) 8 (x23 - 1)
              let x25 : Int32 := μ24 (2, 0, 1) 1
              let μ26 : Mm := mset μ24 (2, 0, 1) 1 (x25 + 1)
              some (0, μ26)
            else none
          else none
        else
          let x16 : Int32 := p14.2 (2, 0, 1) 25
          let μ17 : Mm := mset p14.2 (2, 0, 1) 25 (x16 + 1)
          let x18 : Int32 := μ17 (2, 0, 1) 1
          let μ19 : Mm := mset μ17 (2, 0, 1) 1 (x18 + 1)
          some (0, μ19)
      else
        let x2 : Int32 := μ (2, 0, 1) 8
        if 0 < x2 then
          let x7 : Int32 := μ (2, 0, 1) 7
          bif inb (22 + x7) 1278 then
            let x8 : Int32 := μ (2, 0, 1) (Int32.toNatClampNeg (22 + x7))
            bif inb (22 + x7) 1278 then
              let μ9 : Mm := mset μ (2, 0, 1) (Int32.toNatClampNeg (22 + x7)) (x8 + 1)
              let x10 : Int32 := μ9 (2, 0, 1) 8
              let μ11 : Mm := mset μ9 (2, 0, 1) 8 (x10 - 1)
              let x12 : Int32 := μ11 (2, 0, 1) 1
              let μ13 : Mm := mset μ11 (2, 0, 1) 1 (x12 + 1)
              some (0, μ13)
            else none
          else none
        else
          let x3 : Int32 := μ (2, 0, 1) 25
          let μ4 : Mm := mset μ (2, 0, 1) 25 (x3 + 1)
          let x5 : Int32 := μ4 (2, 0, 1) 1
          let μ6 : Mm := mset μ4 (2, 0, 1) 1 (x5 + 1)
          some (0, μ6) := by
  unfold run
  rw [DF_succ]
  rfl
set_option maxHeartbeats 4000000 in
set_option maxRecDepth 100000 in
theorem e162_0 {L : Nat} {S : Ad → Nat → Int32} {F d : Nat} {μ : Mm} {a1 : Int32} : run L S (F + 1) (d + 1) 162 0 [some (vR (2, 0, 0)), some (vI a1)] μ =
    let μ1 : Mm := mset μ (2, 0, 0) 0 0
    (run L S F d 127 0 [some (vL ((a1 : Int32).toInt64)), none, some (vL ((4 : Int32).toInt64)), none, some (vL ((16 : Int32).toInt64)), none] μ1).bind fun p2 =>
    if p2.1 = 0 then
      some ((-3), p2.2)
    else
      (run L S F d 130 0 [some (vR (2, 0, 0)), none] p2.2).bind fun p3 =>
      (run L S F d 128 0 [some (vR (2, 0, 0)), some (vI a1), none] p3.2).bind fun p4 =>
      some (a1, p4.2) := by
  unfold run
  rw [DF_succ]
  rfl
set_option maxHeartbeats 4000000 in
set_option maxRecDepth 100000 in
theorem e163_0 {L : Nat} {S : Ad → Nat → Int32} {F d : Nat} {μ : Mm} {a1 : Int32} {a2 : Int32} : run L S (F + 1) (d + 1) 163 0 [some (vR (2, 0, 0)), some (vI a1), some (vI a2), none] μ =
    let μ1 : Mm := mset μ (2, 0, 0) 0 0
    (run L S F d 127 0 [some (vL ((a1 : Int32).toInt64)), none, some (vL ((0 : Int32).toInt64)), none, some (vL ((16 : Int32).toInt64)), none] μ1).bind fun p2 =>
    if p2.1 = 0 then
      some ((-2), p2.2)
    else
      bif inb a1 17 then
        let x3 : Int32 := p2.2 (2, 0, 5) (Int32.toNatClampNeg a1)
        bif inb a1 17 then
          let x4 : Int32 := p2.2 (2, 0, 6) (Int32.toNatClampNeg a1)
          (run L S F d 127 0 [some (vL ((a2 : Int32).toInt64)), none, some (vL ((x3 : Int32).toInt64)), none, some (vL ((x4 : Int32).toInt64)), none] p2.2).bind fun p5 =>
          if p5.1 = 0 then
            some ((-3), p5.2)
          else
            (run L S F d 130 0 [some (vR (2, 0, 0)), none] p5.2).bind fun p6 =>
            bif inb (27 + a1) 1278 then
              let x7 : Int32 := p6.2 (2, 0, 1) (Int32.toNatClampNeg (27 + a1))
              bif inb (27 + a1) 1278 then
                let μ8 : Mm := mset p6.2 (2, 0, 1) (Int32.toNatClampNeg (27 + a1)) a2
                if a1 = 2 then
                  (run L S F d 140 0 [some (vR (2, 0, 0)), none] μ8).bind fun p9 =>
                  some (x7, p9.2)
                else
                  if a1 = 3 then
                    (run L S F d 140 0 [some (vR (2, 0, 0)), none] μ8).bind fun p10 =>
                    some (x7, p10.2)
                  else
                    some (x7, μ8)
              else none
            else none
        else none
      else none := by
  unfold run
  rw [DF_succ]
  rfl
set_option maxHeartbeats 4000000 in
set_option maxRecDepth 100000 in
theorem e164_0 {L : Nat} {S : Ad → Nat → Int32} {F d : Nat} {μ : Mm} {a1 : Int32} {a2 : Int32} : run L S (F + 1) (d + 1) 164 0 [some (vR (2, 0, 0)), some (vI a1), some (vI a2), none, none] μ =
    let μ1 : Mm := mset μ (2, 0, 0) 0 0
    (run L S F d 131 0 [some (vR (2, 0, 0)), some (vI a1)] μ1).bind fun p2 =>
    if p2.1 = 0 then
      some ((-2), p2.2)
    else
      (run L S F d 131 0 [some (vR (2, 0, 0)), some (vI a2)] p2.2).bind fun p3 =>
      if p3.1 = 0 then
        some ((-2), p3.2)
      else
        if a1 = a2 then
          some ((-3), p3.2)
        else
          (run L S F d 130 0 [some (vR (2, 0, 0)), none] p3.2).bind fun p4 =>
          bif inb (44 + a1) 1278 then
            let x5 : Int32 := p4.2 (2, 0, 1) (Int32.toNatClampNeg (44 + a1))
            bif inb (44 + a2) 1278 then
              let x6 : Int32 := p4.2 (2, 0, 1) (Int32.toNatClampNeg (44 + a2))
              bif inb (44 + a1) 1278 then
                let μ7 : Mm := mset p4.2 (2, 0, 1) (Int32.toNatClampNeg (44 + a1)) x6
                bif inb (44 + a2) 1278 then
                  let μ8 : Mm := mset μ7 (2, 0, 1) (Int32.toNatClampNeg (44 + a2)) x5
                  bif inb (44 + a1) 1278 then
                    let x9 : Int32 := μ8 (2, 0, 1) (Int32.toNatClampNeg (44 + a1))
                    if (x9 - x5) < 0 then
                      some ((-(x9 - x5)), μ8)
                    else
                      some ((x9 - x5), μ8)
                  else none
                else none
              else none
            else none
          else none := by
  unfold run
  rw [DF_succ]
  rfl
set_option maxHeartbeats 4000000 in
set_option maxRecDepth 100000 in
theorem e165_0 {L : Nat} {S : Ad → Nat → Int32} {F d : Nat} {μ : Mm} {a1 : Int32} : run L S (F + 1) d 165 0 [some (vR (2, 0, 0)), some (vI a1)] μ =
    let x1 : Int32 := μ (2, 0, 1) 5
    bif inb (228 + x1) 1278 then
      let μ2 : Mm := mset μ (2, 0, 1) (Int32.toNatClampNeg (228 + x1)) a1
      let x3 : Int32 := μ2 (2, 0, 1) 5
      let x4 : Int32 := μ2 (2, 0, 1) 1
      bif inb (327 + x3) 1278 then
        let μ5 : Mm := mset μ2 (2, 0, 1) (Int32.toNatClampNeg (327 + x3)) x4
        let x6 : Int32 := μ5 (2, 0, 1) 5
        let μ7 : Mm := mset μ5 (2, 0, 1) 5 (x6 + 1)
        some (0, μ7)
      else none
    else none := by
  unfold run
  rw [DF_succ]
  rfl
set_option maxHeartbeats 4000000 in
set_option maxRecDepth 100000 in
theorem e166_0 {L : Nat} {S : Ad → Nat → Int32} {F d : Nat} {μ : Mm} {a1 : Int32} {a2 : Int32} : run L S (F + 1) (d + 1) 166 0 [some (vR (2, 0, 0)), some (vI a1), some (vI a2)] μ =
    let μ1 : Mm := mset μ (2, 0, 0) 0 0
    (run L S F d 167 0 [some (vR (2, 0, 0)), some (vI a1), some (vI a1), some (vI a2), some (vI 1), none] μ1).bind fun p2 =>
    some (p2.1, p2.2) := by
  unfold run
  rw [DF_succ]
  rfl
