/-! equations of the methods, out of their code -/
set_option maxHeartbeats 4000000 in
set_option maxRecDepth 100000 in
theorem e135_0 {L : Nat} {S : Ad → Nat → Int32} {F d : Nat} {μ : Mm} {a1 : Int32} : run L S (F + 1) (d + 1) 135 0 [some (vR (2, 0, 0)), some (vI a1), none] μ =
    bif inb (44 + a1) 1278 then
    let x1 : Int32 := μ (2, 0, 1) (Int32.toNatClampNeg (44 + a1))
    (run L S F d 134 0 [some (vR (2, 0, 0)), some (vI (x1 - 1)), some (vI 2), none, none] μ).bind fun p2 =>
      (run L S F d 134 0 [some (vR (2, 0, 0)), some (vI (x1 + 1)), some (vI 2), none, none] p2.2).bind fun p3 =>
      bif inb 28 1278 then
      let x4 : Int32 := p3.2 (2, 0, 1) (Int32.toNatClampNeg 28)
      if x4 < 2 then
          some (0, p3.2)
        else
          (run L S F d 134 0 [some (vR (2, 0, 0)), some (vI (x1 - 2)), some (vI 1), none, none] p3.2).bind fun p5 =>
          (run L S F d 134 0 [some (vR (2, 0, 0)), some (vI (x1 + 2)), some (vI 1), none, none] p5.2).bind fun p6 =>
          some (0, p6.2)
      else none
    else none := by
  unfold run
  rw [DF_succ]
  rfl
set_option maxHeartbeats 4000000 in
set_option maxRecDepth 100000 in
theorem e136_0 {L : Nat} {S : Ad → Nat → Int32} {F d : Nat} {μ : Mm} {a1 : Int32} : run L S (F + 1) d 136 0 [some (vI a1), none, none] μ =
    run L S F d 136 4 [some (vI a1), some (vI 0), some (vI 0)] μ := by
  unfold run
  rw [DF_succ]
  rfl
set_option maxHeartbeats 4000000 in
set_option maxRecDepth 100000 in
theorem e136_4 {L : Nat} {S : Ad → Nat → Int32} {F d : Nat} {μ : Mm} {a1 : Int32} {x_1 : Int32} {x_2 : Int32} : run L S (F + 1) d 136 4 [some (vI a1), some (vI x_1), some (vI x_2)] μ =
    if x_2 < 8 then
      run L S F d 136 4 [some (vI a1), some (vI (x_1 + ((a1 >>> (x_2 &&& 31)) &&& 1))), some (vI (x_2 + 1))] μ
    else
      some (x_1, μ) := by
  unfold run
  rw [DF_succ]
  rfl
set_option maxHeartbeats 4000000 in
set_option maxRecDepth 100000 in
theorem e137_0 {L : Nat} {S : Ad → Nat → Int32} {F d : Nat} {μ : Mm} {a1 : Int32} : run L S (F + 1) (d + 1) 137 0 [some (vR (2, 0, 0)), some (vI a1)] μ =
    bif inb (124 + a1) 1278 then
    let x1 : Int32 := μ (2, 0, 1) (Int32.toNatClampNeg (124 + a1))
    bif inb (140 + a1) 1278 then
      let x2 : Int32 := μ (2, 0, 1) (Int32.toNatClampNeg (140 + a1))
      (run L S F d 136 0 [some (vI (x1 ^^^ x2)), none, none] μ).bind fun p3 =>
        some (p3.1, p3.2)
      else none
    else none := by
  unfold run
  rw [DF_succ]
  rfl
set_option maxHeartbeats 4000000 in
set_option maxRecDepth 100000 in
theorem e138_0 {L : Nat} {S : Ad → Nat → Int32} {F d : Nat} {μ : Mm} {a1 : Int32} : run L S (F + 1) (d + 1) 138 0 [some (vR (2, 0, 0)), some (vI a1), none] μ =
    (run L S F d 137 0 [some (vR (2, 0, 0)), some (vI a1)] μ).bind fun p1 =>
    if p1.1 = 1 then
      bif inb (140 + a1) 1278 then
      let x10 : Int32 := p1.2 (2, 0, 1) (Int32.toNatClampNeg (140 + a1))
      bif inb (124 + a1) 1278 then
        let μ11 : Mm := mset p1.2 (2, 0, 1) (Int32.toNatClampNeg (124 + a1)) x10
        bif inb 20 1278 then
          let x12 : Int32 := μ11 (2, 0, 1) (Int32.toNatClampNeg 20)
          bif inb 20 1278 then
            let μ13 : Mm := mset μ11 (2, 0, 1) (Int32.toNatClampNeg 20) (x12 + 1)
            if p1.1 < 2 then
                some (0, μ13)
              else
                bif inb 21 1278 then
                let x14 : Int32 := μ13 (2, 0, 1) (Int32.toNatClampNeg 21)
                bif inb 26 1278 then
                  let x15 : Int32 := μ13 (2, 0, 1) (Int32.toNatClampNeg 26)
                  if ((x15 >>> (a1 &&& 31)) &&& 1) = 0 then
                      bif inb 21 1278 then
                      let μ19 : Mm := mset μ13 (2, 0, 1) (Int32.toNatClampNeg 21) (x14 + 1)
                      bif inb 26 1278 then
                        let x20 : Int32 := μ19 (2, 0, 1) (Int32.toNatClampNeg 26)
                        bif inb 26 1278 then
                          let μ21 : Mm := mset μ19 (2, 0, 1) (Int32.toNatClampNeg 26) (x20 ||| ((1 : Int32) <<< (a1 &&& 31)))
                          some (0, μ21)
                          else none
                        else none
                      else none
                    else
                      bif inb 21 1278 then
                      let μ16 : Mm := mset μ13 (2, 0, 1) (Int32.toNatClampNeg 21) (x14 + 0)
                      bif inb 26 1278 then
                        let x17 : Int32 := μ16 (2, 0, 1) (Int32.toNatClampNeg 26)
                        bif inb 26 1278 then
                          let μ18 : Mm := mset μ16 (2, 0, 1) (Int32.toNatClampNeg 26) (x17 ||| ((1 : Int32) <<< (a1 &&& 31)))
                          some (0, μ18)
                          else none
                        else none
                      else none
                  else none
                else none
            else none
          else none
        else none
      else none
    else
      if p1.1 < 2 then
        some (0, p1.2)
      else
        bif inb 21 1278 then
        let x2 : Int32 := p1.2 (2, 0, 1) (Int32.toNatClampNeg 21)
        bif inb 26 1278 then
          let x3 : Int32 := p1.2 (2, 0, 1) (Int32.toNatClampNeg 26)
          if ((x3 >>> (a1 &&& 31)) &&& 1) = 0 then
              bif inb 21 1278 then
              let μ7 : Mm := mset p1.2 (2, 0, 1) (Int32.toNatClampNeg 21) (x2 + 1)
              bif inb 26 1278 then
                let x8 : Int32 := μ7 (2, 0, 1) (Int32.toNatClampNeg 26)
                bif inb 26 1278 then
                  let μ9 : Mm := mset μ7 (2, 0, 1) (Int32.toNatClampNeg 26) (x8 ||| ((1 : Int32) <<< (a1 &&& 31)))
                  some (0, μ9)
                  else none
                else none
              else none
            else
              bif inb 21 1278 then
              let μ4 : Mm := mset p1.2 (2, 0, 1) (Int32.toNatClampNeg 21) (x2 + 0)
              bif inb 26 1278 then
                let x5 : Int32 := μ4 (2, 0, 1) (Int32.toNatClampNeg 26)
                bif inb 26 1278 then
                  let μ6 : Mm := mset μ4 (2, 0, 1) (Int32.toNatClampNeg 26) (x5 ||| ((1 : Int32) <<< (a1 &&& 31)))
                  some (0, μ6)
                  else none
                else none
              else none
          else none
        else none := by
  unfold run
  rw [DF_succ]
  rfl
set_option maxHeartbeats 4000000 in
set_option maxRecDepth 100000 in
theorem e139_0 {L : Nat} {S : Ad → Nat → Int32} {F d : Nat} {μ : Mm} {a1 : Int32} {a2 : Int32} : run L S (F + 1) (d + 1) 139 0 [some (vR (2, 0, 0)), some (vI a1), some (vI a2)] μ =
    bif inb (60 + a1) 1278 then
    let μ1 : Mm := mset μ (2, 0, 1) (Int32.toNatClampNeg (60 + a1)) 0
    if a2 = 0 then
        some (0, μ1)
      else
        bif inb 42 1278 then
        let x2 : Int32 := μ1 (2, 0, 1) (Int32.toNatClampNeg 42)
        if x2 = 1 then
            (run L S F d 135 0 [some (vR (2, 0, 0)), some (vI a1), none] μ1).bind fun p3 =>
            some (0, p3.2)
          else
            some (0, μ1)
        else none
    else none := by
  unfold run
  rw [DF_succ]
  rfl
set_option maxHeartbeats 4000000 in
set_option maxRecDepth 100000 in
theorem e140_0 {L : Nat} {S : Ad → Nat → Int32} {F d : Nat} {μ : Mm} : run L S (F + 1) d 140 0 [some (vR (2, 0, 0)), none] μ =
    bif inb 3 1278 then
    let μ1 : Mm := mset μ (2, 0, 1) (Int32.toNatClampNeg 3) 0
    bif inb 11 1278 then
      let μ2 : Mm := mset μ1 (2, 0, 1) (Int32.toNatClampNeg 11) 0
      run L S F d 140 17 [some (vR (2, 0, 0)), some (vI 0)] μ2
      else none
    else none := by
  unfold run
  rw [DF_succ]
  rfl
set_option maxHeartbeats 4000000 in
set_option maxRecDepth 100000 in
theorem e140_17 {L : Nat} {S : Ad → Nat → Int32} {F d : Nat} {μ : Mm} {x_1 : Int32} : run L S (F + 1) d 140 17 [some (vR (2, 0, 0)), some (vI x_1)] μ =
    if x_1 < 16 then
      bif inb (108 + x_1) 1278 then
      let μ1 : Mm := mset μ (2, 0, 1) (Int32.toNatClampNeg (108 + x_1)) 0
      run L S F d 140 17 [some (vR (2, 0, 0)), some (vI (x_1 + 1))] μ1
      else none
    else
      run L S F d 140 41 [some (vR (2, 0, 0)), some (vI 0)] μ := by
  unfold run
  rw [DF_succ]
  rfl
set_option maxHeartbeats 4000000 in
set_option maxRecDepth 100000 in
theorem e140_41 {L : Nat} {S : Ad → Nat → Int32} {F d : Nat} {μ : Mm} {x_1 : Int32} : run L S (F + 1) d 140 41 [some (vR (2, 0, 0)), some (vI x_1)] μ =
    if x_1 < 8 then
      bif inb (172 + x_1) 1278 then
      let μ1 : Mm := mset μ (2, 0, 1) (Int32.toNatClampNeg (172 + x_1)) (-1)
      bif inb (180 + x_1) 1278 then
        let μ2 : Mm := mset μ1 (2, 0, 1) (Int32.toNatClampNeg (180 + x_1)) 0
        bif inb (188 + x_1) 1278 then
          let μ3 : Mm := mset μ2 (2, 0, 1) (Int32.toNatClampNeg (188 + x_1)) 0
          bif inb (196 + x_1) 1278 then
            let μ4 : Mm := mset μ3 (2, 0, 1) (Int32.toNatClampNeg (196 + x_1)) 0
            bif inb (204 + x_1) 1278 then
              let μ5 : Mm := mset μ4 (2, 0, 1) (Int32.toNatClampNeg (204 + x_1)) 0
              run L S F d 140 41 [some (vR (2, 0, 0)), some (vI (x_1 + 1))] μ5
              else none
            else none
          else none
        else none
      else none
    else
      some (0, μ) := by
  unfold run
  rw [DF_succ]
  rfl
set_option maxHeartbeats 4000000 in
set_option maxRecDepth 100000 in
theorem e141_0 {L : Nat} {S : Ad → Nat → Int32} {F d : Nat} {μ : Mm} {a1 : Int32} : run L S (F + 1) d 141 0 [some (vR (2, 0, 0)), some (vI a1), none] μ =
    run L S F d 141 2 [some (vR (2, 0, 0)), some (vI a1), some (vI 0)] μ := by
  unfold run
  rw [DF_succ]
  rfl
set_option maxHeartbeats 4000000 in
set_option maxRecDepth 100000 in
theorem e141_2 {L : Nat} {S : Ad → Nat → Int32} {F d : Nat} {μ : Mm} {a1 : Int32} {x_2 : Int32} : run L S (F + 1) d 141 2 [some (vR (2, 0, 0)), some (vI a1), some (vI x_2)] μ =
    bif inb 30 1278 then
    let x1 : Int32 := μ (2, 0, 1) (Int32.toNatClampNeg 30)
    if x_2 < x1 then
        bif inb (172 + x_2) 1278 then
        let x2 : Int32 := μ (2, 0, 1) (Int32.toNatClampNeg (172 + x_2))
        if x2 = a1 then
            some (x_2, μ)
          else
            run L S F d 141 2 [some (vR (2, 0, 0)), some (vI a1), some (vI (x_2 + 1))] μ
        else none
      else
        some ((-1), μ)
    else none := by
  unfold run
  rw [DF_succ]
  rfl
set_option maxHeartbeats 4000000 in
set_option maxRecDepth 100000 in
theorem e142_0 {L : Nat} {S : Ad → Nat → Int32} {F d : Nat} {μ : Mm} {a1 : Int32} : run L S (F + 1) d 142 0 [some (vR (2, 0, 0)), some (vI a1), none] μ =
    run L S F d 142 2 [some (vR (2, 0, 0)), some (vI a1), some (vI 0)] μ := by
  unfold run
  rw [DF_succ]
  rfl
set_option maxHeartbeats 4000000 in
set_option maxRecDepth 100000 in
theorem e142_2 {L : Nat} {S : Ad → Nat → Int32} {F d : Nat} {μ : Mm} {a1 : Int32} {x_2 : Int32} : run L S (F + 1) d 142 2 [some (vR (2, 0, 0)), some (vI a1), some (vI x_2)] μ =
    bif inb 30 1278 then
    let x1 : Int32 := μ (2, 0, 1) (Int32.toNatClampNeg 30)
    if x_2 < x1 then
        bif inb (180 + x_2) 1278 then
        let x2 : Int32 := μ (2, 0, 1) (Int32.toNatClampNeg (180 + x_2))
        if x2 = a1 then
            some (x_2, μ)
          else
            run L S F d 142 2 [some (vR (2, 0, 0)), some (vI a1), some (vI (x_2 + 1))] μ
        else none
      else
        some ((-1), μ)
    else none := by
  unfold run
  rw [DF_succ]
  rfl
set_option maxHeartbeats 4000000 in
set_option maxRecDepth 100000 in
theorem e143_0 {L : Nat} {S : Ad → Nat → Int32} {F d : Nat} {μ : Mm} : run L S (F + 1) d 143 0 [some (vR (2, 0, 0)), none, none] μ =
    run L S F d 143 4 [some (vR (2, 0, 0)), some (vI 0), some (vI 1)] μ := by
  unfold run
  rw [DF_succ]
  rfl
set_option maxHeartbeats 4000000 in
set_option maxRecDepth 100000 in
theorem e143_4 {L : Nat} {S : Ad → Nat → Int32} {F d : Nat} {μ : Mm} {x_1 : Int32} {x_2 : Int32} : run L S (F + 1) d 143 4 [some (vR (2, 0, 0)), some (vI x_1), some (vI x_2)] μ =
    bif inb 30 1278 then
    let x1 : Int32 := μ (2, 0, 1) (Int32.toNatClampNeg 30)
    if x_2 < x1 then
        bif inb (188 + x_2) 1278 then
        let x2 : Int32 := μ (2, 0, 1) (Int32.toNatClampNeg (188 + x_2))
        bif inb (188 + x_1) 1278 then
          let x3 : Int32 := μ (2, 0, 1) (Int32.toNatClampNeg (188 + x_1))
          if x2 < x3 then
              run L S F d 143 4 [some (vR (2, 0, 0)), some (vI x_2), some (vI (x_2 + 1))] μ
            else
              run L S F d 143 4 [some (vR (2, 0, 0)), some (vI x_1), some (vI (x_2 + 1))] μ
          else none
        else none
      else
        some (x_1, μ)
    else none := by
  unfold run
  rw [DF_succ]
  rfl
set_option maxHeartbeats 4000000 in
set_option maxRecDepth 100000 in
theorem e144_0 {L : Nat} {S : Ad → Nat → Int32} {F d : Nat} {μ : Mm} {a1 : Int32} : run L S (F + 1) (d + 1) 144 0 [some (vR (2, 0, 0)), some (vI a1), none] μ =
    (run L S F d 141 0 [some (vR (2, 0, 0)), some (vI a1), none] μ).bind fun p1 =>
    if p1.1 = (-1) then
      bif inb 3 1278 then
      let x5 : Int32 := p1.2 (2, 0, 1) (Int32.toNatClampNeg 3)
      (run L S F d 142 0 [some (vR (2, 0, 0)), some (vI x5), none] p1.2).bind fun p6 =>
        if p6.1 = (-1) then
          bif inb 3 1278 then
          let x11 : Int32 := p6.2 (2, 0, 1) (Int32.toNatClampNeg 3)
          bif inb 3 1278 then
            let μ12 : Mm := mset p6.2 (2, 0, 1) (Int32.toNatClampNeg 3) (x11 + 1)
            some (0, μ12)
            else none
          else none
        else
          bif inb (172 + p6.1) 1278 then
          let μ7 : Mm := mset p6.2 (2, 0, 1) (Int32.toNatClampNeg (172 + p6.1)) a1
          bif inb (180 + p6.1) 1278 then
            let x8 : Int32 := μ7 (2, 0, 1) (Int32.toNatClampNeg (180 + p6.1))
            bif inb (180 + p6.1) 1278 then
              let μ9 : Mm := mset μ7 (2, 0, 1) (Int32.toNatClampNeg (180 + p6.1)) (x8 + 1)
              bif inb (180 + p6.1) 1278 then
                let x10 : Int32 := μ9 (2, 0, 1) (Int32.toNatClampNeg (180 + p6.1))
                some (x10, μ9)
                else none
              else none
            else none
          else none
      else none
    else
      bif inb (180 + p1.1) 1278 then
      let x2 : Int32 := p1.2 (2, 0, 1) (Int32.toNatClampNeg (180 + p1.1))
      bif inb (180 + p1.1) 1278 then
        let μ3 : Mm := mset p1.2 (2, 0, 1) (Int32.toNatClampNeg (180 + p1.1)) (x2 + 1)
        bif inb (180 + p1.1) 1278 then
          let x4 : Int32 := μ3 (2, 0, 1) (Int32.toNatClampNeg (180 + p1.1))
          some (x4, μ3)
          else none
        else none
      else none := by
  unfold run
  rw [DF_succ]
  rfl
set_option maxHeartbeats 4000000 in
set_option maxRecDepth 100000 in
theorem e145_0 {L : Nat} {S : Ad → Nat → Int32} {F d : Nat} {μ : Mm} {a1 : Int32} : run L S (F + 1) (d + 1) 145 0 [some (vR (2, 0, 0)), some (vI a1), none] μ =
    bif inb 11 1278 then
    let x1 : Int32 := μ (2, 0, 1) (Int32.toNatClampNeg 11)
    bif inb 11 1278 then
      let μ2 : Mm := mset μ (2, 0, 1) (Int32.toNatClampNeg 11) (x1 + 1)
      (run L S F d 141 0 [some (vR (2, 0, 0)), some (vI a1), none] μ2).bind fun p3 =>
        if p3.1 = (-1) then
          (run L S F d 141 0 [some (vR (2, 0, 0)), some (vI (-1)), none] p3.2).bind fun p9 =>
          if p9.1 = (-1) then
            (run L S F d 143 0 [some (vR (2, 0, 0)), none, none] p9.2).bind fun p17 =>
            bif inb (172 + p17.1) 1278 then
            let μ18 : Mm := mset p17.2 (2, 0, 1) (Int32.toNatClampNeg (172 + p17.1)) a1
            bif inb (180 + p17.1) 1278 then
              let μ19 : Mm := mset μ18 (2, 0, 1) (Int32.toNatClampNeg (180 + p17.1)) 0
              bif inb (180 + p17.1) 1278 then
                let x20 : Int32 := μ19 (2, 0, 1) (Int32.toNatClampNeg (180 + p17.1))
                bif inb (180 + p17.1) 1278 then
                  let μ21 : Mm := mset μ19 (2, 0, 1) (Int32.toNatClampNeg (180 + p17.1)) (x20 + 1)
                  bif inb 11 1278 then
                    let x22 : Int32 := μ21 (2, 0, 1) (Int32.toNatClampNeg 11)
                    bif inb (188 + p17.1) 1278 then
                      let μ23 : Mm := mset μ21 (2, 0, 1) (Int32.toNatClampNeg (188 + p17.1)) x22
                      bif inb (180 + p17.1) 1278 then
                        let x24 : Int32 := μ23 (2, 0, 1) (Int32.toNatClampNeg (180 + p17.1))
                        some (x24, μ23)
                        else none
                      else none
                    else none
                  else none
                else none
              else none
            else none
          else
            bif inb (172 + p9.1) 1278 then
            let μ10 : Mm := mset p9.2 (2, 0, 1) (Int32.toNatClampNeg (172 + p9.1)) a1
            bif inb (180 + p9.1) 1278 then
              let μ11 : Mm := mset μ10 (2, 0, 1) (Int32.toNatClampNeg (180 + p9.1)) 0
              bif inb (180 + p9.1) 1278 then
                let x12 : Int32 := μ11 (2, 0, 1) (Int32.toNatClampNeg (180 + p9.1))
                bif inb (180 + p9.1) 1278 then
                  let μ13 : Mm := mset μ11 (2, 0, 1) (Int32.toNatClampNeg (180 + p9.1)) (x12 + 1)
                  bif inb 11 1278 then
                    let x14 : Int32 := μ13 (2, 0, 1) (Int32.toNatClampNeg 11)
                    bif inb (188 + p9.1) 1278 then
                      let μ15 : Mm := mset μ13 (2, 0, 1) (Int32.toNatClampNeg (188 + p9.1)) x14
                      bif inb (180 + p9.1) 1278 then
                        let x16 : Int32 := μ15 (2, 0, 1) (Int32.toNatClampNeg (180 + p9.1))
                        some (x16, μ15)
                        else none
                      else none
                    else none
                  else none
                else none
              else none
            else none
        else
          bif inb (180 + p3.1) 1278 then
          let x4 : Int32 := p3.2 (2, 0, 1) (Int32.toNatClampNeg (180 + p3.1))
          bif inb (180 + p3.1) 1278 then
            let μ5 : Mm := mset p3.2 (2, 0, 1) (Int32.toNatClampNeg (180 + p3.1)) (x4 + 1)
            bif inb 11 1278 then
              let x6 : Int32 := μ5 (2, 0, 1) (Int32.toNatClampNeg 11)
              bif inb (188 + p3.1) 1278 then
                let μ7 : Mm := mset μ5 (2, 0, 1) (Int32.toNatClampNeg (188 + p3.1)) x6
                bif inb (180 + p3.1) 1278 then
                  let x8 : Int32 := μ7 (2, 0, 1) (Int32.toNatClampNeg (180 + p3.1))
                  some (x8, μ7)
                  else none
                else none
              else none
            else none
          else none
      else none
    else none := by
  unfold run
  rw [DF_succ]
  rfl
set_option maxHeartbeats 4000000 in
set_option maxRecDepth 100000 in
theorem e146_0 {L : Nat} {S : Ad → Nat → Int32} {F d : Nat} {μ : Mm} {a1 : Int32} : run L S (F + 1) d 146 0 [some (vR (2, 0, 0)), some (vI a1)] μ =
    bif inb 30 1278 then
    let x1 : Int32 := μ (2, 0, 1) (Int32.toNatClampNeg 30)
    if x1 = 0 then none else
      some ((196 + (a1 - a1 / x1 * x1)), μ)
    else none := by
  unfold run
  rw [DF_succ]
  rfl
set_option maxHeartbeats 4000000 in
set_option maxRecDepth 100000 in
theorem e147_0 {L : Nat} {S : Ad → Nat → Int32} {F d : Nat} {μ : Mm} {a1 : Int32} : run L S (F + 1) d 147 0 [some (vR (2, 0, 0)), some (vI a1)] μ =
    bif inb 30 1278 then
    let x1 : Int32 := μ (2, 0, 1) (Int32.toNatClampNeg 30)
    if x1 = 0 then none else
      some ((204 + (((3 * a1) + 1) - ((3 * a1) + 1) / x1 * x1)), μ)
    else none := by
  unfold run
  rw [DF_succ]
  rfl
set_option maxHeartbeats 4000000 in
set_option maxRecDepth 100000 in
theorem e148_0 {L : Nat} {S : Ad → Nat → Int32} {F d : Nat} {μ : Mm} {a1 : Int32} : run L S (F + 1) (d + 1) 148 0 [some (vR (2, 0, 0)), some (vI a1), none, none] μ =
    (run L S F d 146 0 [some (vR (2, 0, 0)), some (vI a1)] μ).bind fun p1 =>
    bif inb p1.1 1278 then
    let x2 : Int32 := p1.2 (2, 0, 1) (Int32.toNatClampNeg p1.1)
    (run L S F d 147 0 [some (vR (2, 0, 0)), some (vI a1)] p1.2).bind fun p3 =>
      bif inb p3.1 1278 then
      let x4 : Int32 := p3.2 (2, 0, 1) (Int32.toNatClampNeg p3.1)
      if x2 < x4 then
          some (x2, p3.2)
        else
          some (x4, p3.2)
      else none
    else none := by
  unfold run
  rw [DF_succ]
  rfl
set_option maxHeartbeats 4000000 in
set_option maxRecDepth 100000 in
theorem e149_0 {L : Nat} {S : Ad → Nat → Int32} {F d : Nat} {μ : Mm} {a1 : Int32} : run L S (F + 1) (d + 1) 149 0 [some (vR (2, 0, 0)), some (vI a1), none] μ =
    bif inb 29 1278 then
    let x1 : Int32 := μ (2, 0, 1) (Int32.toNatClampNeg 29)
    if x1 = 0 then
        (run L S F d 144 0 [some (vR (2, 0, 0)), some (vI a1), none] μ).bind fun p2 =>
        run L S F (d + 1) 149 163 [some (vR (2, 0, 0)), none, some (vI p2.1)] p2.2
      else if x1 = 1 then
        bif inb (108 + a1) 1278 then
        let x3 : Int32 := μ (2, 0, 1) (Int32.toNatClampNeg (108 + a1))
        bif inb (108 + a1) 1278 then
          let μ4 : Mm := mset μ (2, 0, 1) (Int32.toNatClampNeg (108 + a1)) (x3 + 1)
          bif inb (108 + a1) 1278 then
            let x5 : Int32 := μ4 (2, 0, 1) (Int32.toNatClampNeg (108 + a1))
            run L S F (d + 1) 149 163 [some (vR (2, 0, 0)), none, some (vI x5)] μ4
            else none
          else none
        else none
      else if x1 = 2 then
        (run L S F d 133 0 [some (vR (2, 0, 0)), some (vI 100), none] μ).bind fun p6 =>
        bif inb 40 1278 then
        let x7 : Int32 := p6.2 (2, 0, 1) (Int32.toNatClampNeg 40)
        if p6.1 < x7 then
            some (vp_nar .boolean 1, p6.2)
          else
            some (vp_nar .boolean 0, p6.2)
        else none
      else if x1 = 3 then
        (run L S F d 146 0 [some (vR (2, 0, 0)), some (vI a1)] μ).bind fun p8 =>
        bif inb p8.1 1278 then
        let x9 : Int32 := p8.2 (2, 0, 1) (Int32.toNatClampNeg p8.1)
        bif inb p8.1 1278 then
          let μ10 : Mm := mset p8.2 (2, 0, 1) (Int32.toNatClampNeg p8.1) (x9 + 1)
          (run L S F d 147 0 [some (vR (2, 0, 0)), some (vI a1)] μ10).bind fun p11 =>
            bif inb p11.1 1278 then
            let x12 : Int32 := p11.2 (2, 0, 1) (Int32.toNatClampNeg p11.1)
            bif inb p11.1 1278 then
              let μ13 : Mm := mset p11.2 (2, 0, 1) (Int32.toNatClampNeg p11.1) (x12 + 1)
              (run L S F d 148 0 [some (vR (2, 0, 0)), some (vI a1), none, none] μ13).bind fun p14 =>
                run L S F (d + 1) 149 163 [some (vR (2, 0, 0)), none, some (vI p14.1)] p14.2
              else none
            else none
          else none
        else none
      else if x1 = 4 then
        (run L S F d 145 0 [some (vR (2, 0, 0)), some (vI a1), none] μ).bind fun p15 =>
        run L S F (d + 1) 149 163 [some (vR (2, 0, 0)), none, some (vI p15.1)] p15.2
      else if x1 = 5 then
        bif inb (108 + a1) 1278 then
        let x16 : Int32 := μ (2, 0, 1) (Int32.toNatClampNeg (108 + a1))
        bif inb (108 + a1) 1278 then
          let μ17 : Mm := mset μ (2, 0, 1) (Int32.toNatClampNeg (108 + a1)) (x16 + 1)
          some (vp_nar .boolean 0, μ17)
          else none
        else none
      else (run L S F d 145 0 [some (vR (2, 0, 0)), some (vI a1), none] μ).bind fun p18 =>
      run L S F (d + 1) 149 163 [some (vR (2, 0, 0)), none, some (vI p18.1)] p18.2
    else none := by
  unfold run
  rw [DF_succ]
  rfl
set_option maxHeartbeats 4000000 in
set_option maxRecDepth 100000 in
theorem e149_163 {L : Nat} {S : Ad → Nat → Int32} {F d : Nat} {μ : Mm} {x_2 : Int32} : run L S (F + 1) (d + 1) 149 163 [some (vR (2, 0, 0)), none, some (vI x_2)] μ =
    if 0 < x_2 then
      bif inb 31 1278 then
      let x1 : Int32 := μ (2, 0, 1) (Int32.toNatClampNeg 31)
      if x1 = 0 then none else
        if (x_2 - x_2 / x1 * x1) = 0 then
          some (vp_nar .boolean 1, μ)
        else
          some (vp_nar .boolean 0, μ)
      else none
    else
      some (vp_nar .boolean 0, μ) := by
  unfold run
  rw [DF_succ]
  rfl
set_option maxHeartbeats 4000000 in
set_option maxRecDepth 100000 in
theorem e150_0 {L : Nat} {S : Ad → Nat → Int32} {F d : Nat} {μ : Mm} {a1 : Int32} : run L S (F + 1) (d + 1) 150 0 [some (vR (2, 0, 0)), some (vI a1)] μ =
    bif inb 29 1278 then
    let x1 : Int32 := μ (2, 0, 1) (Int32.toNatClampNeg 29)
    if x1 = 1 then
        bif inb (108 + a1) 1278 then
        let x2 : Int32 := μ (2, 0, 1) (Int32.toNatClampNeg (108 + a1))
        some (x2, μ)
        else none
      else
        bif inb 29 1278 then
        let x3 : Int32 := μ (2, 0, 1) (Int32.toNatClampNeg 29)
        if x3 = 5 then
            bif inb (108 + a1) 1278 then
            let x10 : Int32 := μ (2, 0, 1) (Int32.toNatClampNeg (108 + a1))
            some (x10, μ)
            else none
          else
            bif inb 29 1278 then
            let x4 : Int32 := μ (2, 0, 1) (Int32.toNatClampNeg 29)
            if x4 = 3 then
                (run L S F d 148 0 [some (vR (2, 0, 0)), some (vI a1), none, none] μ).bind fun p9 =>
                some (p9.1, p9.2)
              else
                bif inb 29 1278 then
                let x5 : Int32 := μ (2, 0, 1) (Int32.toNatClampNeg 29)
                if x5 = 2 then
                    some (0, μ)
                  else
                    (run L S F d 141 0 [some (vR (2, 0, 0)), some (vI a1), none] μ).bind fun p6 =>
                    if p6.1 = (-1) then
                      some (0, p6.2)
                    else
                      (run L S F d 141 0 [some (vR (2, 0, 0)), some (vI a1), none] p6.2).bind fun p7 =>
                      bif inb (180 + p7.1) 1278 then
                      let x8 : Int32 := p7.2 (2, 0, 1) (Int32.toNatClampNeg (180 + p7.1))
                      some (x8, p7.2)
                      else none
                else none
            else none
        else none
    else none := by
  unfold run
  rw [DF_succ]
  rfl
set_option maxHeartbeats 4000000 in
set_option maxRecDepth 100000 in
theorem e151_0 {L : Nat} {S : Ad → Nat → Int32} {F d : Nat} {μ : Mm} {a1 : Int32} : run L S (F + 1) d 151 0 [some (vR (2, 0, 0)), some (vI a1), none] μ =
    run L S F d 151 2 [some (vR (2, 0, 0)), some (vI a1), some (vI 0)] μ := by
  unfold run
  rw [DF_succ]
  rfl
set_option maxHeartbeats 4000000 in
set_option maxRecDepth 100000 in
theorem e151_2 {L : Nat} {S : Ad → Nat → Int32} {F d : Nat} {μ : Mm} {a1 : Int32} {x_2 : Int32} : run L S (F + 1) d 151 2 [some (vR (2, 0, 0)), some (vI a1), some (vI x_2)] μ =
    bif inb 4 1278 then
    let x1 : Int32 := μ (2, 0, 1) (Int32.toNatClampNeg 4)
    if x_2 < x1 then
        bif inb (212 + x_2) 1278 then
        let x2 : Int32 := μ (2, 0, 1) (Int32.toNatClampNeg (212 + x_2))
        if x2 = a1 then
            some (x_2, μ)
          else
            run L S F d 151 2 [some (vR (2, 0, 0)), some (vI a1), some (vI (x_2 + 1))] μ
        else none
      else
        some ((-1), μ)
    else none := by
  unfold run
  rw [DF_succ]
  rfl
set_option maxHeartbeats 4000000 in
set_option maxRecDepth 100000 in
theorem e152_0 {L : Nat} {S : Ad → Nat → Int32} {F d : Nat} {μ : Mm} {a1 : Int32} : run L S (F + 1) (d + 1) 152 0 [some (vR (2, 0, 0)), some (vI a1)] μ =
    (run L S F d 151 0 [some (vR (2, 0, 0)), some (vI a1), none] μ).bind fun p1 =>
    if p1.1 = (-1) then
      bif inb 4 1278 then
      let x2 : Int32 := p1.2 (2, 0, 1) (Int32.toNatClampNeg 4)
      bif inb (212 + x2) 1278 then
        let μ3 : Mm := mset p1.2 (2, 0, 1) (Int32.toNatClampNeg (212 + x2)) a1
        bif inb 4 1278 then
          let x4 : Int32 := μ3 (2, 0, 1) (Int32.toNatClampNeg 4)
          bif inb 4 1278 then
            let μ5 : Mm := mset μ3 (2, 0, 1) (Int32.toNatClampNeg 4) (x4 + 1)
            some (0, μ5)
            else none
          else none
        else none
      else none
    else
      some (0, p1.2) := by
  unfold run
  rw [DF_succ]
  rfl
set_option maxHeartbeats 4000000 in
set_option maxRecDepth 100000 in
theorem e153_0 {L : Nat} {S : Ad → Nat → Int32} {F d : Nat} {μ : Mm} {a1 : Int32} {a2 : Int32} : run L S (F + 1) (d + 1) 153 0 [some (vR (2, 0, 0)), some (vI a1), some (vI a2), none] μ =
    bif inb 41 1278 then
    let x1 : Int32 := μ (2, 0, 1) (Int32.toNatClampNeg 41)
    if x1 = 1 then
        bif inb (44 + a1) 1278 then
        let x8 : Int32 := μ (2, 0, 1) (Int32.toNatClampNeg (44 + a1))
        bif inb 0 1278 then
          let x9 : Int32 := μ (2, 0, 1) (Int32.toNatClampNeg 0)
          (run L S F d 127 0 [some (vL (((x8 + a2) : Int32).toInt64)), none, some (vL ((0 : Int32).toInt64)), none, some (vL (((x9 - 1) : Int32).toInt64)), none] μ).bind fun p10 =>
            if p10.1 = 0 then
              some (0, p10.2)
            else
              bif inb 41 1278 then
              let x11 : Int32 := p10.2 (2, 0, 1) (Int32.toNatClampNeg 41)
              if x11 = 1 then
                  (run L S F d 132 0 [some (vR (2, 0, 0)), some (vI (x8 + a2)), none] p10.2).bind fun p13 =>
                  (run L S F d 152 0 [some (vR (2, 0, 0)), some (vI p13.1)] p13.2).bind fun p14 =>
                  some (0, p14.2)
                else
                  (run L S F d 152 0 [some (vR (2, 0, 0)), some (vI (x8 + a2))] p10.2).bind fun p12 =>
                  some (0, p12.2)
              else none
          else none
        else none
      else
        bif inb 0 1278 then
        let x2 : Int32 := μ (2, 0, 1) (Int32.toNatClampNeg 0)
        (run L S F d 127 0 [some (vL (((a1 + a2) : Int32).toInt64)), none, some (vL ((0 : Int32).toInt64)), none, some (vL (((x2 - 1) : Int32).toInt64)), none] μ).bind fun p3 =>
          if p3.1 = 0 then
            some (0, p3.2)
          else
            bif inb 41 1278 then
            let x4 : Int32 := p3.2 (2, 0, 1) (Int32.toNatClampNeg 41)
            if x4 = 1 then
                (run L S F d 132 0 [some (vR (2, 0, 0)), some (vI (a1 + a2)), none] p3.2).bind fun p6 =>
                (run L S F d 152 0 [some (vR (2, 0, 0)), some (vI p6.1)] p6.2).bind fun p7 =>
                some (0, p7.2)
              else
                (run L S F d 152 0 [some (vR (2, 0, 0)), some (vI (a1 + a2))] p3.2).bind fun p5 =>
                some (0, p5.2)
            else none
        else none
    else none := by
  unfold run
  rw [DF_succ]
  rfl
set_option maxHeartbeats 4000000 in
set_option maxRecDepth 100000 in
theorem e154_0 {L : Nat} {S : Ad → Nat → Int32} {F d : Nat} {μ : Mm} {a1 : Int32} : run L S (F + 1) (d + 1) 154 0 [some (vR (2, 0, 0)), some (vI a1), none] μ =
    bif inb (60 + a1) 1278 then
    let μ1 : Mm := mset μ (2, 0, 1) (Int32.toNatClampNeg (60 + a1)) 0
    bif inb (76 + a1) 1278 then
      let x2 : Int32 := μ1 (2, 0, 1) (Int32.toNatClampNeg (76 + a1))
      bif inb (76 + a1) 1278 then
        let μ3 : Mm := mset μ1 (2, 0, 1) (Int32.toNatClampNeg (76 + a1)) (x2 + 1)
        bif inb (92 + a1) 1278 then
          let x4 : Int32 := μ3 (2, 0, 1) (Int32.toNatClampNeg (92 + a1))
          bif inb (92 + a1) 1278 then
            let μ5 : Mm := mset μ3 (2, 0, 1) (Int32.toNatClampNeg (92 + a1)) (x4 + 1)
            (run L S F d 135 0 [some (vR (2, 0, 0)), some (vI a1), none] μ5).bind fun p6 =>
              (run L S F d 149 0 [some (vR (2, 0, 0)), some (vI a1), none] p6.2).bind fun p7 =>
              if p7.1 = 0 then
                some (0, p7.2)
              else
                bif inb 17 1278 then
                let x8 : Int32 := p7.2 (2, 0, 1) (Int32.toNatClampNeg 17)
                bif inb 17 1278 then
                  let μ9 : Mm := mset p7.2 (2, 0, 1) (Int32.toNatClampNeg 17) (x8 + 1)
                  run L S F (d + 1) 154 63 [some (vR (2, 0, 0)), some (vI a1), some (vI 1)] μ9
                  else none
                else none
            else none
          else none
        else none
      else none
    else none := by
  unfold run
  rw [DF_succ]
  rfl
set_option maxHeartbeats 4000000 in
set_option maxRecDepth 100000 in
theorem e154_63 {L : Nat} {S : Ad → Nat → Int32} {F d : Nat} {μ : Mm} {a1 : Int32} {x_2 : Int32} : run L S (F + 1) (d + 1) 154 63 [some (vR (2, 0, 0)), some (vI a1), some (vI x_2)] μ =
    bif inb 28 1278 then
    let x1 : Int32 := μ (2, 0, 1) (Int32.toNatClampNeg 28)
    if x1 < x_2 then
        some (0, μ)
      else
        (run L S F d 153 0 [some (vR (2, 0, 0)), some (vI a1), some (vI (-x_2)), none] μ).bind fun p2 =>
        (run L S F d 153 0 [some (vR (2, 0, 0)), some (vI a1), some (vI x_2), none] p2.2).bind fun p3 =>
        run L S F (d + 1) 154 63 [some (vR (2, 0, 0)), some (vI a1), some (vI (x_2 + 1))] p3.2
    else none := by
  unfold run
  rw [DF_succ]
  rfl
set_option maxHeartbeats 4000000 in
set_option maxRecDepth 100000 in
theorem e155_0 {L : Nat} {S : Ad → Nat → Int32} {F d : Nat} {μ : Mm} {a1 : Int32} {a2 : Int32} : run L S (F + 1) d 155 0 [some (vR (2, 0, 0)), some (vI a1), some (vI a2)] μ =
    bif inb 7 1278 then
    let μ1 : Mm := mset μ (2, 0, 1) (Int32.toNatClampNeg 7) a1
    bif inb 9 1278 then
      let μ2 : Mm := mset μ1 (2, 0, 1) (Int32.toNatClampNeg 9) a1
      bif inb 8 1278 then
        let μ3 : Mm := mset μ2 (2, 0, 1) (Int32.toNatClampNeg 8) a2
        some (0, μ3)
        else none
      else none
    else none := by
  unfold run
  rw [DF_succ]
  rfl
set_option maxHeartbeats 4000000 in
set_option maxRecDepth 100000 in
theorem e156_0 {L : Nat} {S : Ad → Nat → Int32} {F d : Nat} {μ : Mm} : run L S (F + 1) (d + 1) 156 0 [some (vR (2, 0, 0)), none, none] μ =
    run L S F (d + 1) 156 2 [some (vR (2, 0, 0)), some (vI 0), none] μ := by
  unfold run
  rw [DF_succ]
  rfl
set_option maxHeartbeats 4000000 in
set_option maxRecDepth 100000 in
theorem e156_2 {L : Nat} {S : Ad → Nat → Int32} {F d : Nat} {μ : Mm} {x_1 : Int32} : run L S (F + 1) (d + 1) 156 2 [some (vR (2, 0, 0)), some (vI x_1), none] μ =
    bif inb 36 1278 then
    let x1 : Int32 := μ (2, 0, 1) (Int32.toNatClampNeg 36)
    if x_1 < x1 then
        bif inb 10 1278 then
        let x4 : Int32 := μ (2, 0, 1) (Int32.toNatClampNeg 10)
        (run L S F d 132 0 [some (vR (2, 0, 0)), some (vI x4), none] μ).bind fun p5 =>
          bif inb 43 1278 then
          let x6 : Int32 := p5.2 (2, 0, 1) (Int32.toNatClampNeg 43)
          if 0 < x6 then
              (run L S F d 138 0 [some (vR (2, 0, 0)), some (vI p5.1), none] p5.2).bind fun p13 =>
              (run L S F d 139 0 [some (vR (2, 0, 0)), some (vI p5.1), some (vI 0)] p13.2).bind fun p14 =>
              bif inb 10 1278 then
              let x15 : Int32 := p14.2 (2, 0, 1) (Int32.toNatClampNeg 10)
              bif inb 0 1278 then
                let x16 : Int32 := p14.2 (2, 0, 1) (Int32.toNatClampNeg 0)
                if x16 = 0 then none else
                  bif inb 10 1278 then
                  let μ17 : Mm := mset p14.2 (2, 0, 1) (Int32.toNatClampNeg 10) ((x15 + 1) - (x15 + 1) / x16 * x16)
                  bif inb 19 1278 then
                    let x18 : Int32 := μ17 (2, 0, 1) (Int32.toNatClampNeg 19)
                    bif inb 19 1278 then
                      let μ19 : Mm := mset μ17 (2, 0, 1) (Int32.toNatClampNeg 19) (x18 + 1)
                      run L S F (d + 1) 156 2 [some (vR (2, 0, 0)), some (vI (x_1 + 1)), none] μ19
                      else none
                    else none
                  else none
                else none
              else none
            else
              (run L S F d 139 0 [some (vR (2, 0, 0)), some (vI p5.1), some (vI 0)] p5.2).bind fun p7 =>
              bif inb 10 1278 then
              let x8 : Int32 := p7.2 (2, 0, 1) (Int32.toNatClampNeg 10)
              bif inb 0 1278 then
                let x9 : Int32 := p7.2 (2, 0, 1) (Int32.toNatClampNeg 0)
                if x9 = 0 then none else
                  bif inb 10 1278 then
                  let μ10 : Mm := mset p7.2 (2, 0, 1) (Int32.toNatClampNeg 10) ((x8 + 1) - (x8 + 1) / x9 * x9)
                  bif inb 19 1278 then
                    let x11 : Int32 := μ10 (2, 0, 1) (Int32.toNatClampNeg 19)
                    bif inb 19 1278 then
                      let μ12 : Mm := mset μ10 (2, 0, 1) (Int32.toNatClampNeg 19) (x11 + 1)
                      run L S F (d + 1) 156 2 [some (vR (2, 0, 0)), some (vI (x_1 + 1)), none] μ12
                      else none
                    else none
                  else none
                else none
              else none
          else none
        else none
      else
        bif inb 6 1278 then
        let x2 : Int32 := μ (2, 0, 1) (Int32.toNatClampNeg 6)
        bif inb 6 1278 then
          let μ3 : Mm := mset μ (2, 0, 1) (Int32.toNatClampNeg 6) (x2 - 1)
          some (0, μ3)
          else none
        else none
    else none := by
  unfold run
  rw [DF_succ]
  rfl
set_option maxHeartbeats 4000000 in
set_option maxRecDepth 100000 in
theorem e157_0 {L : Nat} {S : Ad → Nat → Int32} {F d : Nat} {μ : Mm} : run L S (F + 1) (d + 1) 157 0 [some (vR (2, 0, 0)), none, none] μ =
    bif inb 212 1278 then
    let x1 : Int32 := μ (2, 0, 1) (Int32.toNatClampNeg 212)
    bif inb 4 1278 then
      let x2 : Int32 := μ (2, 0, 1) (Int32.toNatClampNeg 4)
      bif inb 4 1278 then
        let μ3 : Mm := mset μ (2, 0, 1) (Int32.toNatClampNeg 4) (x2 - 1)
        run L S F (d + 1) 157 21 [some (vR (2, 0, 0)), some (vI x1), some (vI 0)] μ3
        else none
      else none
    else none := by
  unfold run
  rw [DF_succ]
  rfl
