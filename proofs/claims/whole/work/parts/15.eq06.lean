/-! equations of the methods, out of their code -/
set_option maxHeartbeats 4000000 in
set_option maxRecDepth 100000 in
theorem e157_21 {L : Nat} {S : Ad → Nat → Int32} {F d : Nat} {μ : Mm} {x_1 : Int32} {x_2 : Int32} : run L S (F + 1) (d + 1) 157 21 [some (vR (2, 0, 0)), some (vI x_1), some (vI x_2)] μ =
    bif inb 4 1278 then
    let x1 : Int32 := μ (2, 0, 1) (Int32.toNatClampNeg 4)
    if x_2 < x1 then
        bif inb ((212 + x_2) + 1) 1278 then
        let x10 : Int32 := μ (2, 0, 1) (Int32.toNatClampNeg ((212 + x_2) + 1))
        bif inb (212 + x_2) 1278 then
          let μ11 : Mm := mset μ (2, 0, 1) (Int32.toNatClampNeg (212 + x_2)) x10
          run L S F (d + 1) 157 21 [some (vR (2, 0, 0)), some (vI x_1), some (vI (x_2 + 1))] μ11
          else none
        else none
      else
        bif inb 43 1278 then
        let x2 : Int32 := μ (2, 0, 1) (Int32.toNatClampNeg 43)
        if x2 = 2 then
            (run L S F d 138 0 [some (vR (2, 0, 0)), some (vI x_1), none] μ).bind fun p6 =>
            (run L S F d 139 0 [some (vR (2, 0, 0)), some (vI x_1), some (vI 1)] p6.2).bind fun p7 =>
            bif inb 18 1278 then
            let x8 : Int32 := p7.2 (2, 0, 1) (Int32.toNatClampNeg 18)
            bif inb 18 1278 then
              let μ9 : Mm := mset p7.2 (2, 0, 1) (Int32.toNatClampNeg 18) (x8 + 1)
              some (0, μ9)
              else none
            else none
          else
            (run L S F d 139 0 [some (vR (2, 0, 0)), some (vI x_1), some (vI 1)] μ).bind fun p3 =>
            bif inb 18 1278 then
            let x4 : Int32 := p3.2 (2, 0, 1) (Int32.toNatClampNeg 18)
            bif inb 18 1278 then
              let μ5 : Mm := mset p3.2 (2, 0, 1) (Int32.toNatClampNeg 18) (x4 + 1)
              some (0, μ5)
              else none
            else none
        else none
    else none := by
  unfold run
  rw [DF_succ]
  rfl
set_option maxHeartbeats 4000000 in
set_option maxRecDepth 100000 in
theorem e158_0 {L : Nat} {S : Ad → Nat → Int32} {F d : Nat} {μ : Mm} : run L S (F + 1) d 158 0 [some (vR (2, 0, 0)), none] μ =
    run L S F d 158 2 [some (vR (2, 0, 0)), some (vI 0)] μ := by
  unfold run
  rw [DF_succ]
  rfl
set_option maxHeartbeats 4000000 in
set_option maxRecDepth 100000 in
theorem e158_2 {L : Nat} {S : Ad → Nat → Int32} {F d : Nat} {μ : Mm} {x_1 : Int32} : run L S (F + 1) d 158 2 [some (vR (2, 0, 0)), some (vI x_1)] μ =
    bif inb 5 1278 then
    let x1 : Int32 := μ (2, 0, 1) (Int32.toNatClampNeg 5)
    if x_1 < x1 then
        bif inb 29 1278 then
        let x2 : Int32 := μ (2, 0, 1) (Int32.toNatClampNeg 29)
        if x2 = 5 then
            bif inb (228 + x_1) 1278 then
            let x3 : Int32 := μ (2, 0, 1) (Int32.toNatClampNeg (228 + x_1))
            bif inb (108 + x3) 1278 then
              let x4 : Int32 := μ (2, 0, 1) (Int32.toNatClampNeg (108 + x3))
              bif inb 31 1278 then
                let x5 : Int32 := μ (2, 0, 1) (Int32.toNatClampNeg 31)
                if x4 < x5 then
                    some (x_1, μ)
                  else
                    run L S F d 158 2 [some (vR (2, 0, 0)), some (vI (x_1 + 1))] μ
                else none
              else none
            else none
          else
            some (x_1, μ)
        else none
      else
        some ((-1), μ)
    else none := by
  unfold run
  rw [DF_succ]
  rfl
set_option maxHeartbeats 4000000 in
set_option maxRecDepth 100000 in
theorem e159_0 {L : Nat} {S : Ad → Nat → Int32} {F d : Nat} {μ : Mm} {a1 : Int32} : run L S (F + 1) (d + 1) 159 0 [some (vR (2, 0, 0)), some (vI a1), none, none, none] μ =
    bif inb (228 + a1) 1278 then
    let x1 : Int32 := μ (2, 0, 1) (Int32.toNatClampNeg (228 + a1))
    bif inb 1 1278 then
      let x2 : Int32 := μ (2, 0, 1) (Int32.toNatClampNeg 1)
      bif inb (327 + a1) 1278 then
        let x3 : Int32 := μ (2, 0, 1) (Int32.toNatClampNeg (327 + a1))
        bif inb 5 1278 then
          let x4 : Int32 := μ (2, 0, 1) (Int32.toNatClampNeg 5)
          bif inb 5 1278 then
            let μ5 : Mm := mset μ (2, 0, 1) (Int32.toNatClampNeg 5) (x4 - 1)
            run L S F (d + 1) 159 42 [some (vR (2, 0, 0)), none, some (vI x1), some (vI (x2 - x3)), some (vI a1)] μ5
            else none
          else none
        else none
      else none
    else none := by
  unfold run
  rw [DF_succ]
  rfl
set_option maxHeartbeats 4000000 in
set_option maxRecDepth 100000 in
theorem e159_42 {L : Nat} {S : Ad → Nat → Int32} {F d : Nat} {μ : Mm} {x_2 : Int32} {x_3 : Int32} {x_4 : Int32} : run L S (F + 1) (d + 1) 159 42 [some (vR (2, 0, 0)), none, some (vI x_2), some (vI x_3), some (vI x_4)] μ =
    bif inb 5 1278 then
    let x1 : Int32 := μ (2, 0, 1) (Int32.toNatClampNeg 5)
    if x_4 < x1 then
        bif inb ((228 + x_4) + 1) 1278 then
        let x12 : Int32 := μ (2, 0, 1) (Int32.toNatClampNeg ((228 + x_4) + 1))
        bif inb (228 + x_4) 1278 then
          let μ13 : Mm := mset μ (2, 0, 1) (Int32.toNatClampNeg (228 + x_4)) x12
          bif inb ((327 + x_4) + 1) 1278 then
            let x14 : Int32 := μ13 (2, 0, 1) (Int32.toNatClampNeg ((327 + x_4) + 1))
            bif inb (327 + x_4) 1278 then
              let μ15 : Mm := mset μ13 (2, 0, 1) (Int32.toNatClampNeg (327 + x_4)) x14
              run L S F (d + 1) 159 42 [some (vR (2, 0, 0)), none, some (vI x_2), some (vI x_3), some (vI (x_4 + 1))] μ15
              else none
            else none
          else none
        else none
      else
        bif inb 13 1278 then
        let x2 : Int32 := μ (2, 0, 1) (Int32.toNatClampNeg 13)
        bif inb 13 1278 then
          let μ3 : Mm := mset μ (2, 0, 1) (Int32.toNatClampNeg 13) (x2 + 1)
          bif inb 14 1278 then
            let x4 : Int32 := μ3 (2, 0, 1) (Int32.toNatClampNeg 14)
            bif inb 14 1278 then
              let μ5 : Mm := mset μ3 (2, 0, 1) (Int32.toNatClampNeg 14) (x4 + x_3)
              bif inb 15 1278 then
                let x6 : Int32 := μ5 (2, 0, 1) (Int32.toNatClampNeg 15)
                if x6 < x_3 then
                    bif inb 15 1278 then
                    let μ9 : Mm := mset μ5 (2, 0, 1) (Int32.toNatClampNeg 15) x_3
                    let μ10 : Mm := mset μ9 (2, 0, 0) 10 x_3
                      (run L S F d 154 0 [some (vR (2, 0, 0)), some (vI x_2), none] μ10).bind fun p11 =>
                      some (0, p11.2)
                    else none
                  else
                    let μ7 : Mm := mset μ5 (2, 0, 0) 10 x_3
                    (run L S F d 154 0 [some (vR (2, 0, 0)), some (vI x_2), none] μ7).bind fun p8 =>
                    some (0, p8.2)
                else none
              else none
            else none
          else none
        else none
    else none := by
  unfold run
  rw [DF_succ]
  rfl
set_option maxHeartbeats 4000000 in
set_option maxRecDepth 100000 in
theorem e160_0 {L : Nat} {S : Ad → Nat → Int32} {F d : Nat} {μ : Mm} : run L S (F + 1) (d + 1) 160 0 [some (vR (2, 0, 0)), none, none] μ =
    (run L S F d 158 0 [some (vR (2, 0, 0)), none] μ).bind fun p1 =>
    if p1.1 = (-1) then
      bif inb 6 1278 then
      let x11 : Int32 := p1.2 (2, 0, 1) (Int32.toNatClampNeg 6)
      if 0 < x11 then
          if (1 : Int32) = 0 then
            bif inb 6 1278 then
            let x15 : Int32 := p1.2 (2, 0, 1) (Int32.toNatClampNeg 6)
            bif inb 39 1278 then
              let x16 : Int32 := p1.2 (2, 0, 1) (Int32.toNatClampNeg 39)
              if x16 < x15 then
                  bif inb 35 1278 then
                  let x17 : Int32 := p1.2 (2, 0, 1) (Int32.toNatClampNeg 35)
                  (run L S F d 155 0 [some (vR (2, 0, 0)), some (vI 0), some (vI x17)] p1.2).bind fun p18 =>
                    (run L S F d 156 0 [some (vR (2, 0, 0)), none, none] p18.2).bind fun p19 =>
                    some (0, p19.2)
                  else none
                else
                  run L S F (d + 1) 160 66 [some (vR (2, 0, 0)), some (vI p1.1), some (vI 1)] p1.2
              else none
            else none
          else
            bif inb 35 1278 then
            let x12 : Int32 := p1.2 (2, 0, 1) (Int32.toNatClampNeg 35)
            (run L S F d 155 0 [some (vR (2, 0, 0)), some (vI 0), some (vI x12)] p1.2).bind fun p13 =>
              (run L S F d 156 0 [some (vR (2, 0, 0)), none, none] p13.2).bind fun p14 =>
              some (0, p14.2)
            else none
        else
          run L S F (d + 1) 160 66 [some (vR (2, 0, 0)), some (vI p1.1), some (vI 1)] p1.2
      else none
    else
      bif inb 6 1278 then
      let x2 : Int32 := p1.2 (2, 0, 1) (Int32.toNatClampNeg 6)
      if 0 < x2 then
          if (0 : Int32) = 0 then
            bif inb 6 1278 then
            let x6 : Int32 := p1.2 (2, 0, 1) (Int32.toNatClampNeg 6)
            bif inb 39 1278 then
              let x7 : Int32 := p1.2 (2, 0, 1) (Int32.toNatClampNeg 39)
              if x7 < x6 then
                  bif inb 35 1278 then
                  let x8 : Int32 := p1.2 (2, 0, 1) (Int32.toNatClampNeg 35)
                  (run L S F d 155 0 [some (vR (2, 0, 0)), some (vI 0), some (vI x8)] p1.2).bind fun p9 =>
                    (run L S F d 156 0 [some (vR (2, 0, 0)), none, none] p9.2).bind fun p10 =>
                    some (0, p10.2)
                  else none
                else
                  run L S F (d + 1) 160 66 [some (vR (2, 0, 0)), some (vI p1.1), some (vI 0)] p1.2
              else none
            else none
          else
            bif inb 35 1278 then
            let x3 : Int32 := p1.2 (2, 0, 1) (Int32.toNatClampNeg 35)
            (run L S F d 155 0 [some (vR (2, 0, 0)), some (vI 0), some (vI x3)] p1.2).bind fun p4 =>
              (run L S F d 156 0 [some (vR (2, 0, 0)), none, none] p4.2).bind fun p5 =>
              some (0, p5.2)
            else none
        else
          run L S F (d + 1) 160 66 [some (vR (2, 0, 0)), some (vI p1.1), some (vI 0)] p1.2
      else none := by
  unfold run
  rw [DF_succ]
  rfl
set_option maxHeartbeats 4000000 in
set_option maxRecDepth 100000 in
theorem e160_66 {L : Nat} {S : Ad → Nat → Int32} {F d : Nat} {μ : Mm} {x_1 : Int32} {x_2 : Int32} : run L S (F + 1) (d + 1) 160 66 [some (vR (2, 0, 0)), some (vI x_1), some (vI x_2)] μ =
    bif inb 4 1278 then
    let x1 : Int32 := μ (2, 0, 1) (Int32.toNatClampNeg 4)
    if 0 < x1 then
        bif inb 4 1278 then
        let x5 : Int32 := μ (2, 0, 1) (Int32.toNatClampNeg 4)
        bif inb 38 1278 then
          let x6 : Int32 := μ (2, 0, 1) (Int32.toNatClampNeg 38)
          if x5 < x6 then
              if x_2 = 0 then
                bif inb 9 1278 then
                let x13 : Int32 := μ (2, 0, 1) (Int32.toNatClampNeg 9)
                if x13 = 1 then
                    bif inb 37 1278 then
                    let x17 : Int32 := μ (2, 0, 1) (Int32.toNatClampNeg 37)
                    (run L S F d 155 0 [some (vR (2, 0, 0)), some (vI 1), some (vI x17)] μ).bind fun p18 =>
                      (run L S F d 157 0 [some (vR (2, 0, 0)), none, none] p18.2).bind fun p19 =>
                      some (0, p19.2)
                    else none
                  else
                    if x_2 = 0 then
                      bif inb 33 1278 then
                      let x14 : Int32 := μ (2, 0, 1) (Int32.toNatClampNeg 33)
                      (run L S F d 155 0 [some (vR (2, 0, 0)), some (vI 2), some (vI x14)] μ).bind fun p15 =>
                        (run L S F d 159 0 [some (vR (2, 0, 0)), some (vI x_1), none, none, none] p15.2).bind fun p16 =>
                        some (0, p16.2)
                      else none
                    else
                      some (0, μ)
                else none
              else
                bif inb 37 1278 then
                let x10 : Int32 := μ (2, 0, 1) (Int32.toNatClampNeg 37)
                (run L S F d 155 0 [some (vR (2, 0, 0)), some (vI 1), some (vI x10)] μ).bind fun p11 =>
                  (run L S F d 157 0 [some (vR (2, 0, 0)), none, none] p11.2).bind fun p12 =>
                  some (0, p12.2)
                else none
            else
              bif inb 37 1278 then
              let x7 : Int32 := μ (2, 0, 1) (Int32.toNatClampNeg 37)
              (run L S F d 155 0 [some (vR (2, 0, 0)), some (vI 1), some (vI x7)] μ).bind fun p8 =>
                (run L S F d 157 0 [some (vR (2, 0, 0)), none, none] p8.2).bind fun p9 =>
                some (0, p9.2)
              else none
          else none
        else none
      else
        if x_2 = 0 then
          bif inb 33 1278 then
          let x2 : Int32 := μ (2, 0, 1) (Int32.toNatClampNeg 33)
          (run L S F d 155 0 [some (vR (2, 0, 0)), some (vI 2), some (vI x2)] μ).bind fun p3 =>
            (run L S F d 159 0 [some (vR (2, 0, 0)), some (vI x_1), none, none, none] p3.2).bind fun p4 =>
            some (0, p4.2)
          else none
        else
          some (0, μ)
    else none := by
  unfold run
  rw [DF_succ]
  rfl
set_option maxHeartbeats 4000000 in
set_option maxRecDepth 100000 in
theorem e161_0 {L : Nat} {S : Ad → Nat → Int32} {F d : Nat} {μ : Mm} : run L S (F + 1) (d + 1) 161 0 [some (vR (2, 0, 0)), none, none] μ =
    bif inb 1 1278 then
    let x1 : Int32 := μ (2, 0, 1) (Int32.toNatClampNeg 1)
    if 0 < x1 then
        bif inb 34 1278 then
        let x2 : Int32 := μ (2, 0, 1) (Int32.toNatClampNeg 34)
        if x2 = 0 then none else
          if (x1 - x1 / x2 * x2) = 0 then
            bif inb 6 1278 then
            let x3 : Int32 := μ (2, 0, 1) (Int32.toNatClampNeg 6)
            if x3 < 99 then
                bif inb 6 1278 then
                let x4 : Int32 := μ (2, 0, 1) (Int32.toNatClampNeg 6)
                bif inb 6 1278 then
                  let μ5 : Mm := mset μ (2, 0, 1) (Int32.toNatClampNeg 6) (x4 + 1)
                  run L S F (d + 1) 161 46 [some (vR (2, 0, 0)), some (vI x1), none] μ5
                  else none
                else none
              else
                run L S F (d + 1) 161 46 [some (vR (2, 0, 0)), some (vI x1), none] μ
            else none
          else
            run L S F (d + 1) 161 46 [some (vR (2, 0, 0)), some (vI x1), none] μ
        else none
      else
        run L S F (d + 1) 161 46 [some (vR (2, 0, 0)), some (vI x1), none] μ
    else none := by
  unfold run
  rw [DF_succ]
  rfl
set_option maxHeartbeats 4000000 in
set_option maxRecDepth 100000 in
theorem e161_46 {L : Nat} {S : Ad → Nat → Int32} {F d : Nat} {μ : Mm} {x_1 : Int32} : run L S (F + 1) (d + 1) 161 46 [some (vR (2, 0, 0)), some (vI x_1), none] μ =
    if 0 < x_1 then
      bif inb 32 1278 then
      let x27 : Int32 := μ (2, 0, 1) (Int32.toNatClampNeg 32)
      if x27 = 0 then none else
        if (x_1 - x_1 / x27 * x27) = 0 then
          (run L S F d 140 0 [some (vR (2, 0, 0)), none] μ).bind fun p54 =>
          run L S F (d + 1) 161 68 [some (vR (2, 0, 0)), none, some (vI 0)] p54.2
        else
          bif inb 8 1278 then
          let x28 : Int32 := μ (2, 0, 1) (Int32.toNatClampNeg 8)
          if x28 = 0 then
              (run L S F d 160 0 [some (vR (2, 0, 0)), none, none] μ).bind fun p41 =>
              bif inb 8 1278 then
              let x42 : Int32 := p41.2 (2, 0, 1) (Int32.toNatClampNeg 8)
              if 0 < x42 then
                  bif inb 7 1278 then
                  let x47 : Int32 := p41.2 (2, 0, 1) (Int32.toNatClampNeg 7)
                  bif inb (22 + x47) 1278 then
                    let x48 : Int32 := p41.2 (2, 0, 1) (Int32.toNatClampNeg (22 + x47))
                    bif inb (22 + x47) 1278 then
                      let μ49 : Mm := mset p41.2 (2, 0, 1) (Int32.toNatClampNeg (22 + x47)) (x48 + 1)
                      bif inb 8 1278 then
                        let x50 : Int32 := μ49 (2, 0, 1) (Int32.toNatClampNeg 8)
                        bif inb 8 1278 then
                          let μ51 : Mm := mset μ49 (2, 0, 1) (Int32.toNatClampNeg 8) (x50 - 1)
                          bif inb 1 1278 then
                            let x52 : Int32 := μ51 (2, 0, 1) (Int32.toNatClampNeg 1)
                            bif inb 1 1278 then
                              let μ53 : Mm := mset μ51 (2, 0, 1) (Int32.toNatClampNeg 1) (x52 + 1)
                              some (0, μ53)
                              else none
                            else none
                          else none
                        else none
                      else none
                    else none
                  else none
                else
                  bif inb 25 1278 then
                  let x43 : Int32 := p41.2 (2, 0, 1) (Int32.toNatClampNeg 25)
                  bif inb 25 1278 then
                    let μ44 : Mm := mset p41.2 (2, 0, 1) (Int32.toNatClampNeg 25) (x43 + 1)
                    bif inb 1 1278 then
                      let x45 : Int32 := μ44 (2, 0, 1) (Int32.toNatClampNeg 1)
                      bif inb 1 1278 then
                        let μ46 : Mm := mset μ44 (2, 0, 1) (Int32.toNatClampNeg 1) (x45 + 1)
                        some (0, μ46)
                        else none
                      else none
                    else none
                  else none
              else none
            else
              bif inb 8 1278 then
              let x29 : Int32 := μ (2, 0, 1) (Int32.toNatClampNeg 8)
              if 0 < x29 then
                  bif inb 7 1278 then
                  let x34 : Int32 := μ (2, 0, 1) (Int32.toNatClampNeg 7)
                  bif inb (22 + x34) 1278 then
                    let x35 : Int32 := μ (2, 0, 1) (Int32.toNatClampNeg (22 + x34))
                    bif inb (22 + x34) 1278 then
                      let μ36 : Mm := mset μ (2, 0, 1) (Int32.toNatClampNeg (22 + x34)) (x35 + 1)
                      bif inb 8 1278 then
                        let x37 : Int32 := μ36 (2, 0, 1) (Int32.toNatClampNeg 8)
                        bif inb 8 1278 then
                          let μ38 : Mm := mset μ36 (2, 0, 1) (Int32.toNatClampNeg 8) (x37 - 1)
                          bif inb 1 1278 then
                            let x39 : Int32 := μ38 (2, 0, 1) (Int32.toNatClampNeg 1)
                            bif inb 1 1278 then
                              let μ40 : Mm := mset μ38 (2, 0, 1) (Int32.toNatClampNeg 1) (x39 + 1)
                              some (0, μ40)
                              else none
                            else none
                          else none
                        else none
                      else none
                    else none
                  else none
                else
                  bif inb 25 1278 then
                  let x30 : Int32 := μ (2, 0, 1) (Int32.toNatClampNeg 25)
                  bif inb 25 1278 then
                    let μ31 : Mm := mset μ (2, 0, 1) (Int32.toNatClampNeg 25) (x30 + 1)
                    bif inb 1 1278 then
                      let x32 : Int32 := μ31 (2, 0, 1) (Int32.toNatClampNeg 1)
                      bif inb 1 1278 then
                        let μ33 : Mm := mset μ31 (2, 0, 1) (Int32.toNatClampNeg 1) (x32 + 1)
                        some (0, μ33)
                        else none
                      else none
                    else none
                  else none
              else none
          else none
      else none
    else
      bif inb 8 1278 then
      let x1 : Int32 := μ (2, 0, 1) (Int32.toNatClampNeg 8)
      if x1 = 0 then
          (run L S F d 160 0 [some (vR (2, 0, 0)), none, none] μ).bind fun p14 =>
          bif inb 8 1278 then
          let x15 : Int32 := p14.2 (2, 0, 1) (Int32.toNatClampNeg 8)
          if 0 < x15 then
              bif inb 7 1278 then
              let x20 : Int32 := p14.2 (2, 0, 1) (Int32.toNatClampNeg 7)
              bif inb (22 + x20) 1278 then
                let x21 : Int32 := p14.2 (2, 0, 1) (Int32.toNatClampNeg (22 + x20))
                bif inb (22 + x20) 1278 then
                  let μ22 : Mm := mset p14.2 (2, 0, 1) (Int32.toNatClampNeg (22 + x20)) (x21 + 1)
                  bif inb 8 1278 then
                    let x23 : Int32 := μ22 (2, 0, 1) (Int32.toNatClampNeg 8)
                    bif inb 8 1278 then
                      let μ24 : Mm := mset μ22 (2, 0, 1) (Int32.toNatClampNeg 8) (x23 - 1)
                      bif inb 1 1278 then
                        let x25 : Int32 := μ24 (2, 0, 1) (Int32.toNatClampNeg 1)
                        bif inb 1 1278 then
                          let μ26 : Mm := mset μ24 (2, 0, 1) (Int32.toNatClampNeg 1) (x25 + 1)
                          some (0, μ26)
                          else none
                        else none
                      else none
                    else none
                  else none
                else none
              else none
            else
              bif inb 25 1278 then
              let x16 : Int32 := p14.2 (2, 0, 1) (Int32.toNatClampNeg 25)
              bif inb 25 1278 then
                let μ17 : Mm := mset p14.2 (2, 0, 1) (Int32.toNatClampNeg 25) (x16 + 1)
                bif inb 1 1278 then
                  let x18 : Int32 := μ17 (2, 0, 1) (Int32.toNatClampNeg 1)
                  bif inb 1 1278 then
                    let μ19 : Mm := mset μ17 (2, 0, 1) (Int32.toNatClampNeg 1) (x18 + 1)
                    some (0, μ19)
                    else none
                  else none
                else none
              else none
          else none
        else
          bif inb 8 1278 then
          let x2 : Int32 := μ (2, 0, 1) (Int32.toNatClampNeg 8)
          if 0 < x2 then
              bif inb 7 1278 then
              let x7 : Int32 := μ (2, 0, 1) (Int32.toNatClampNeg 7)
              bif inb (22 + x7) 1278 then
                let x8 : Int32 := μ (2, 0, 1) (Int32.toNatClampNeg (22 + x7))
                bif inb (22 + x7) 1278 then
                  let μ9 : Mm := mset μ (2, 0, 1) (Int32.toNatClampNeg (22 + x7)) (x8 + 1)
                  bif inb 8 1278 then
                    let x10 : Int32 := μ9 (2, 0, 1) (Int32.toNatClampNeg 8)
                    bif inb 8 1278 then
                      let μ11 : Mm := mset μ9 (2, 0, 1) (Int32.toNatClampNeg 8) (x10 - 1)
                      bif inb 1 1278 then
                        let x12 : Int32 := μ11 (2, 0, 1) (Int32.toNatClampNeg 1)
                        bif inb 1 1278 then
                          let μ13 : Mm := mset μ11 (2, 0, 1) (Int32.toNatClampNeg 1) (x12 + 1)
                          some (0, μ13)
                          else none
                        else none
                      else none
                    else none
                  else none
                else none
              else none
            else
              bif inb 25 1278 then
              let x3 : Int32 := μ (2, 0, 1) (Int32.toNatClampNeg 25)
              bif inb 25 1278 then
                let μ4 : Mm := mset μ (2, 0, 1) (Int32.toNatClampNeg 25) (x3 + 1)
                bif inb 1 1278 then
                  let x5 : Int32 := μ4 (2, 0, 1) (Int32.toNatClampNeg 1)
                  bif inb 1 1278 then
                    let μ6 : Mm := mset μ4 (2, 0, 1) (Int32.toNatClampNeg 1) (x5 + 1)
                    some (0, μ6)
                    else none
                  else none
                else none
              else none
          else none
      else none := by
  unfold run
  rw [DF_succ]
  rfl
set_option maxHeartbeats 4000000 in
set_option maxRecDepth 100000 in
theorem e161_68 {L : Nat} {S : Ad → Nat → Int32} {F d : Nat} {μ : Mm} {x_2 : Int32} : run L S (F + 1) (d + 1) 161 68 [some (vR (2, 0, 0)), none, some (vI x_2)] μ =
    if x_2 < 16 then
      bif inb (76 + x_2) 1278 then
      let μ27 : Mm := mset μ (2, 0, 1) (Int32.toNatClampNeg (76 + x_2)) 0
      run L S F (d + 1) 161 68 [some (vR (2, 0, 0)), none, some (vI (x_2 + 1))] μ27
      else none
    else
      bif inb 8 1278 then
      let x1 : Int32 := μ (2, 0, 1) (Int32.toNatClampNeg 8)
      if x1 = 0 then
          (run L S F d 160 0 [some (vR (2, 0, 0)), none, none] μ).bind fun p14 =>
          bif inb 8 1278 then
          let x15 : Int32 := p14.2 (2, 0, 1) (Int32.toNatClampNeg 8)
          if 0 < x15 then
              bif inb 7 1278 then
              let x20 : Int32 := p14.2 (2, 0, 1) (Int32.toNatClampNeg 7)
              bif inb (22 + x20) 1278 then
                let x21 : Int32 := p14.2 (2, 0, 1) (Int32.toNatClampNeg (22 + x20))
                bif inb (22 + x20) 1278 then
                  let μ22 : Mm := mset p14.2 (2, 0, 1) (Int32.toNatClampNeg (22 + x20)) (x21 + 1)
                  bif inb 8 1278 then
                    let x23 : Int32 := μ22 (2, 0, 1) (Int32.toNatClampNeg 8)
                    bif inb 8 1278 then
                      let μ24 : Mm := mset μ22 (2, 0, 1) (Int32.toNatClampNeg 8) (x23 - 1)
                      bif inb 1 1278 then
                        let x25 : Int32 := μ24 (2, 0, 1) (Int32.toNatClampNeg 1)
                        bif inb 1 1278 then
                          let μ26 : Mm := mset μ24 (2, 0, 1) (Int32.toNatClampNeg 1) (x25 + 1)
                          some (0, μ26)
                          else none
                        else none
                      else none
                    else none
                  else none
                else none
              else none
            else
              bif inb 25 1278 then
              let x16 : Int32 := p14.2 (2, 0, 1) (Int32.toNatClampNeg 25)
              bif inb 25 1278 then
                let μ17 : Mm := mset p14.2 (2, 0, 1) (Int32.toNatClampNeg 25) (x16 + 1)
                bif inb 1 1278 then
                  let x18 : Int32 := μ17 (2, 0, 1) (Int32.toNatClampNeg 1)
                  bif inb 1 1278 then
                    let μ19 : Mm := mset μ17 (2, 0, 1) (Int32.toNatClampNeg 1) (x18 + 1)
                    some (0, μ19)
                    else none
                  else none
                else none
              else none
          else none
        else
          bif inb 8 1278 then
          let x2 : Int32 := μ (2, 0, 1) (Int32.toNatClampNeg 8)
          if 0 < x2 then
              bif inb 7 1278 then
              let x7 : Int32 := μ (2, 0, 1) (Int32.toNatClampNeg 7)
              bif inb (22 + x7) 1278 then
                let x8 : Int32 := μ (2, 0, 1) (Int32.toNatClampNeg (22 + x7))
                bif inb (22 + x7) 1278 then
                  let μ9 : Mm := mset μ (2, 0, 1) (Int32.toNatClampNeg (22 + x7)) (x8 + 1)
                  bif inb 8 1278 then
                    let x10 : Int32 := μ9 (2, 0, 1) (Int32.toNatClampNeg 8)
                    bif inb 8 1278 then
                      let μ11 : Mm := mset μ9 (2, 0, 1) (Int32.toNatClampNeg 8) (x10 - 1)
                      bif inb 1 1278 then
                        let x12 : Int32 := μ11 (2, 0, 1) (Int32.toNatClampNeg 1)
                        bif inb 1 1278 then
                          let μ13 : Mm := mset μ11 (2, 0, 1) (Int32.toNatClampNeg 1) (x12 + 1)
                          some (0, μ13)
                          else none
                        else none
                      else none
                    else none
                  else none
                else none
              else none
            else
              bif inb 25 1278 then
              let x3 : Int32 := μ (2, 0, 1) (Int32.toNatClampNeg 25)
              bif inb 25 1278 then
                let μ4 : Mm := mset μ (2, 0, 1) (Int32.toNatClampNeg 25) (x3 + 1)
                bif inb 1 1278 then
                  let x5 : Int32 := μ4 (2, 0, 1) (Int32.toNatClampNeg 1)
                  bif inb 1 1278 then
                    let μ6 : Mm := mset μ4 (2, 0, 1) (Int32.toNatClampNeg 1) (x5 + 1)
                    some (0, μ6)
                    else none
                  else none
                else none
              else none
          else none
      else none := by
  unfold run
  rw [DF_succ]
  rfl
set_option maxHeartbeats 4000000 in
set_option maxRecDepth 100000 in
theorem e162_0 {L : Nat} {S : Ad → Nat → Int32} {F d : Nat} {μ : Mm} {a1 : Int32} : run L S (F + 1) (d + 1) 162 0 [some (vR (2, 0, 0)), some (vI a1)] μ =
    let μ1 : Mm := mset μ (2, 0, 0) 0 0
    (run L S F d 127 0 [some (vL ((a1 : Int32).toInt64)), none, some (vL ((4 : Int32).toInt64)), none, some (vL ((16 : Int32).toInt64)), none] μ1).bind fun p2 =>
    if p2.1 = 0 then
      some ((-3), p2.2)
    else
      (run L S F d 130 0 [some (vR (2, 0, 0)), none] p2.2).bind fun p3 =>
      (run L S F d 128 0 [some (vR (2, 0, 0)), some (vI a1), none] p3.2).bind fun p4 =>
      some (a1, p4.2) := by
  unfold run
  rw [DF_succ]
  rfl
set_option maxHeartbeats 4000000 in
set_option maxRecDepth 100000 in
theorem e163_0 {L : Nat} {S : Ad → Nat → Int32} {F d : Nat} {μ : Mm} {a1 : Int32} {a2 : Int32} : run L S (F + 1) (d + 1) 163 0 [some (vR (2, 0, 0)), some (vI a1), some (vI a2), none] μ =
    let μ1 : Mm := mset μ (2, 0, 0) 0 0
    (run L S F d 127 0 [some (vL ((a1 : Int32).toInt64)), none, some (vL ((0 : Int32).toInt64)), none, some (vL ((16 : Int32).toInt64)), none] μ1).bind fun p2 =>
    if p2.1 = 0 then
      some ((-2), p2.2)
    else
      bif inb a1 17 then
      let x3 : Int32 := p2.2 (2, 0, 5) (Int32.toNatClampNeg a1)
      bif inb a1 17 then
        let x4 : Int32 := p2.2 (2, 0, 6) (Int32.toNatClampNeg a1)
        (run L S F d 127 0 [some (vL ((a2 : Int32).toInt64)), none, some (vL ((x3 : Int32).toInt64)), none, some (vL ((x4 : Int32).toInt64)), none] p2.2).bind fun p5 =>
          if p5.1 = 0 then
            some ((-3), p5.2)
          else
            (run L S F d 130 0 [some (vR (2, 0, 0)), none] p5.2).bind fun p6 =>
            bif inb (27 + a1) 1278 then
            let x7 : Int32 := p6.2 (2, 0, 1) (Int32.toNatClampNeg (27 + a1))
            bif inb (27 + a1) 1278 then
              let μ8 : Mm := mset p6.2 (2, 0, 1) (Int32.toNatClampNeg (27 + a1)) a2
              if a1 = 2 then
                  (run L S F d 140 0 [some (vR (2, 0, 0)), none] μ8).bind fun p9 =>
                  some (x7, p9.2)
                else
                  if a1 = 3 then
                    (run L S F d 140 0 [some (vR (2, 0, 0)), none] μ8).bind fun p10 =>
                    some (x7, p10.2)
                  else
                    some (x7, μ8)
              else none
            else none
        else none
      else none := by
  unfold run
  rw [DF_succ]
  rfl
set_option maxHeartbeats 4000000 in
set_option maxRecDepth 100000 in
theorem e164_0 {L : Nat} {S : Ad → Nat → Int32} {F d : Nat} {μ : Mm} {a1 : Int32} {a2 : Int32} : run L S (F + 1) (d + 1) 164 0 [some (vR (2, 0, 0)), some (vI a1), some (vI a2), none, none] μ =
    let μ1 : Mm := mset μ (2, 0, 0) 0 0
    (run L S F d 131 0 [some (vR (2, 0, 0)), some (vI a1)] μ1).bind fun p2 =>
    if p2.1 = 0 then
      some ((-2), p2.2)
    else
      (run L S F d 131 0 [some (vR (2, 0, 0)), some (vI a2)] p2.2).bind fun p3 =>
      if p3.1 = 0 then
        some ((-2), p3.2)
      else
        if a1 = a2 then
          some ((-3), p3.2)
        else
          (run L S F d 130 0 [some (vR (2, 0, 0)), none] p3.2).bind fun p4 =>
          bif inb (44 + a1) 1278 then
          let x5 : Int32 := p4.2 (2, 0, 1) (Int32.toNatClampNeg (44 + a1))
          bif inb (44 + a2) 1278 then
            let x6 : Int32 := p4.2 (2, 0, 1) (Int32.toNatClampNeg (44 + a2))
            bif inb (44 + a1) 1278 then
              let μ7 : Mm := mset p4.2 (2, 0, 1) (Int32.toNatClampNeg (44 + a1)) x6
              bif inb (44 + a2) 1278 then
                let μ8 : Mm := mset μ7 (2, 0, 1) (Int32.toNatClampNeg (44 + a2)) x5
                bif inb (44 + a1) 1278 then
                  let x9 : Int32 := μ8 (2, 0, 1) (Int32.toNatClampNeg (44 + a1))
                  if (x9 - x5) < 0 then
                      some ((-(x9 - x5)), μ8)
                    else
                      some ((x9 - x5), μ8)
                  else none
                else none
              else none
            else none
          else none := by
  unfold run
  rw [DF_succ]
  rfl
set_option maxHeartbeats 4000000 in
set_option maxRecDepth 100000 in
theorem e165_0 {L : Nat} {S : Ad → Nat → Int32} {F d : Nat} {μ : Mm} {a1 : Int32} : run L S (F + 1) d 165 0 [some (vR (2, 0, 0)), some (vI a1)] μ =
    bif inb 5 1278 then
    let x1 : Int32 := μ (2, 0, 1) (Int32.toNatClampNeg 5)
    bif inb (228 + x1) 1278 then
      let μ2 : Mm := mset μ (2, 0, 1) (Int32.toNatClampNeg (228 + x1)) a1
      bif inb 5 1278 then
        let x3 : Int32 := μ2 (2, 0, 1) (Int32.toNatClampNeg 5)
        bif inb 1 1278 then
          let x4 : Int32 := μ2 (2, 0, 1) (Int32.toNatClampNeg 1)
          bif inb (327 + x3) 1278 then
            let μ5 : Mm := mset μ2 (2, 0, 1) (Int32.toNatClampNeg (327 + x3)) x4
            bif inb 5 1278 then
              let x6 : Int32 := μ5 (2, 0, 1) (Int32.toNatClampNeg 5)
              bif inb 5 1278 then
                let μ7 : Mm := mset μ5 (2, 0, 1) (Int32.toNatClampNeg 5) (x6 + 1)
                some (0, μ7)
                else none
              else none
            else none
          else none
        else none
      else none
    else none := by
  unfold run
  rw [DF_succ]
  rfl
set_option maxHeartbeats 4000000 in
set_option maxRecDepth 100000 in
theorem e166_0 {L : Nat} {S : Ad → Nat → Int32} {F d : Nat} {μ : Mm} {a1 : Int32} {a2 : Int32} : run L S (F + 1) (d + 1) 166 0 [some (vR (2, 0, 0)), some (vI a1), some (vI a2)] μ =
    let μ1 : Mm := mset μ (2, 0, 0) 0 0
    (run L S F d 167 0 [some (vR (2, 0, 0)), some (vI a1), some (vI a1), some (vI a2), some (vI 1), none] μ1).bind fun p2 =>
    some (p2.1, p2.2) := by
  unfold run
  rw [DF_succ]
  rfl
set_option maxHeartbeats 4000000 in
set_option maxRecDepth 100000 in
theorem e167_0 {L : Nat} {S : Ad → Nat → Int32} {F d : Nat} {μ : Mm} {a1 : Int32} {a2 : Int32} {a3 : Int32} {a4 : Int32} : run L S (F + 1) (d + 1) 167 0 [some (vR (2, 0, 0)), some (vI a1), some (vI a2), some (vI a3), some (vI a4), none] μ =
    (run L S F d 131 0 [some (vR (2, 0, 0)), some (vI a1)] μ).bind fun p1 =>
    if p1.1 = 0 then
      some ((-2), p1.2)
    else
      (run L S F d 131 0 [some (vR (2, 0, 0)), some (vI a2)] p1.2).bind fun p2 =>
      if p2.1 = 0 then
        some ((-2), p2.2)
      else
        (run L S F d 127 0 [some (vL ((a3 : Int32).toInt64)), none, some (vL ((1 : Int32).toInt64)), none, some (vL ((48 : Int32).toInt64)), none] p2.2).bind fun p3 =>
        if p3.1 = 0 then
          some ((-3), p3.2)
        else
          if a4 = 0 then
            some ((-3), p3.2)
          else
            bif inb 5 1278 then
            let x4 : Int32 := p3.2 (2, 0, 1) (Int32.toNatClampNeg 5)
            if 48 < (x4 + a3) then
                some ((-4), p3.2)
              else
                (run L S F d 130 0 [some (vR (2, 0, 0)), none] p3.2).bind fun p5 =>
                run L S F (d + 1) 167 62 [some (vR (2, 0, 0)), some (vI a1), some (vI a2), some (vI a3), none, some (vI 0)] p5.2
            else none := by
  unfold run
  rw [DF_succ]
  rfl
set_option maxHeartbeats 4000000 in
set_option maxRecDepth 100000 in
theorem e167_62 {L : Nat} {S : Ad → Nat → Int32} {F d : Nat} {μ : Mm} {a1 : Int32} {a2 : Int32} {a3 : Int32} {x_5 : Int32} : run L S (F + 1) (d + 1) 167 62 [some (vR (2, 0, 0)), some (vI a1), some (vI a2), some (vI a3), none, some (vI x_5)] μ =
    if x_5 < a3 then
      if (x_5 - x_5 / 2 * 2) = 0 then
        (run L S F d 165 0 [some (vR (2, 0, 0)), some (vI a1)] μ).bind fun p3 =>
        run L S F (d + 1) 167 62 [some (vR (2, 0, 0)), some (vI a1), some (vI a2), some (vI a3), none, some (vI (x_5 + 1))] p3.2
      else
        (run L S F d 165 0 [some (vR (2, 0, 0)), some (vI a2)] μ).bind fun p2 =>
        run L S F (d + 1) 167 62 [some (vR (2, 0, 0)), some (vI a1), some (vI a2), some (vI a3), none, some (vI (x_5 + 1))] p2.2
    else
      bif inb 5 1278 then
      let x1 : Int32 := μ (2, 0, 1) (Int32.toNatClampNeg 5)
      some (x1, μ)
      else none := by
  unfold run
  rw [DF_succ]
  rfl
