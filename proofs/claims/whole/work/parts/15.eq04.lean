/-! equations of the methods, out of their code -/
set_option maxHeartbeats 4000000 in
set_option maxRecDepth 100000 in
theorem e125_0 {L : Nat} {S : Ad → Nat → Int32} {F d : Nat} {μ : Mm} {a1 : Int32} : run L S (F + 1) (d + 1) 125 0 [some (vR (0, 0, 0)), some (vI a1)] μ =
    if a1 < 0 then
      some ((-2), μ)
    else
      if a1 < 2 then
        (run L S F d 66 0 [some (vR (0, 0, 4)), some (vI a1)] μ).bind fun p1 =>
        if p1.1 = 0 then
          some ((-6), p1.2)
        else
          (run L S F d 67 0 [some (vR (0, 0, 4)), some (vI a1), some (vR (1, 0, 0))] p1.2).bind fun p2 =>
          some (0, p2.2)
      else
        some ((-2), μ) := by
  unfold run
  rw [DF_succ]
  rfl
set_option maxHeartbeats 4000000 in
set_option maxRecDepth 100000 in
theorem e126_0 {L : Nat} {S : Ad → Nat → Int32} {F d : Nat} {μ : Mm} {a1 : Int32} : run L S (F + 1) d 126 0 [some (vR (0, 0, 0)), some (vI a1)] μ =
    if a1 < 10 then
      run L S F d 126 25 [some (vR (0, 0, 0)), some (vI a1)] μ
    else
      if a1 < 27 then
        bif inb (a1 - 10) 17 then
          let x1 : Int32 := μ (1, 0, 1) (Int32.toNatClampNeg (a1 - 10))
          some (x1, μ)
        else none
      else
        run L S F d 126 25 [some (vR (0, 0, 0)), some (vI a1)] μ := by
  unfold run
  rw [DF_succ]
  rfl
set_option maxHeartbeats 4000000 in
set_option maxRecDepth 100000 in
theorem e126_25 {L : Nat} {S : Ad → Nat → Int32} {F d : Nat} {μ : Mm} {a1 : Int32} : run L S (F + 1) d 126 25 [some (vR (0, 0, 0)), some (vI a1)] μ =
    if a1 = 0 then
      some ((μ (1, 0, 2) 0), μ)
    else if a1 = 1 then
      some ((μ (1, 0, 0) 5), μ)
    else if a1 = 2 then
      some ((μ (1, 0, 18) 0), μ)
    else if a1 = 3 then
      some ((μ (1, 0, 21) 0), μ)
    else if a1 = 4 then
      some ((μ (1, 0, 0) 6), μ)
    else if a1 = 5 then
      some ((μ (1, 0, 0) 8), μ)
    else if a1 = 6 then
      some ((μ (1, 0, 0) 9), μ)
    else if a1 = 7 then
      some ((μ (0, 0, 4) 3), μ)
    else if a1 = 8 then
      some ((μ (1, 0, 2) 1), μ)
    else if a1 = 9 then
      some ((μ (0, 0, 7) 0), μ)
    else if a1 = 10 then
      some ((-1), μ)
    else if a1 = 11 then
      some ((-1), μ)
    else if a1 = 12 then
      some ((-1), μ)
    else if a1 = 13 then
      some ((-1), μ)
    else if a1 = 14 then
      some ((-1), μ)
    else if a1 = 15 then
      some ((-1), μ)
    else if a1 = 16 then
      some ((-1), μ)
    else if a1 = 17 then
      some ((-1), μ)
    else if a1 = 18 then
      some ((-1), μ)
    else if a1 = 19 then
      some ((-1), μ)
    else if a1 = 20 then
      some ((-1), μ)
    else if a1 = 21 then
      some ((-1), μ)
    else if a1 = 22 then
      some ((-1), μ)
    else if a1 = 23 then
      some ((-1), μ)
    else if a1 = 24 then
      some ((-1), μ)
    else if a1 = 25 then
      some ((-1), μ)
    else if a1 = 26 then
      some ((-1), μ)
    else if a1 = 27 then
      some ((μ (1, 0, 2) 2), μ)
    else some ((-1), μ) := by
  unfold run
  rw [DF_succ]
  rfl
set_option maxHeartbeats 4000000 in
set_option maxRecDepth 100000 in
theorem e127_0 {L : Nat} {S : Ad → Nat → Int32} {F d : Nat} {μ : Mm} {a1 : Int64} {a2 : Int64} {a3 : Int64} : run L S (F + 1) d 127 0 [some (vL a1), none, some (vL a2), none, some (vL a3), none] μ =
    if (lg_cmp a1 a2) < 0 then
      some (vp_nar .boolean 0, μ)
    else
      if 0 < (lg_cmp a1 a3) then
        some (vp_nar .boolean 0, μ)
      else
        some (vp_nar .boolean 1, μ) := by
  unfold run
  rw [DF_succ]
  rfl
set_option maxHeartbeats 4000000 in
set_option maxRecDepth 100000 in
theorem e128_0 {L : Nat} {S : Ad → Nat → Int32} {F d : Nat} {μ : Mm} {a1 : Int32} : run L S (F + 1) (d + 1) 128 0 [some (vR (2, 0, 0)), some (vI a1), none] μ =
    run L S F (d + 1) 128 2 [some (vR (2, 0, 0)), some (vI a1), some (vI 0)] μ := by
  unfold run
  rw [DF_succ]
  rfl
set_option maxHeartbeats 4000000 in
set_option maxRecDepth 100000 in
theorem e128_2 {L : Nat} {S : Ad → Nat → Int32} {F d : Nat} {μ : Mm} {a1 : Int32} {x_2 : Int32} : run L S (F + 1) (d + 1) 128 2 [some (vR (2, 0, 0)), some (vI a1), some (vI x_2)] μ =
    if x_2 < 426 then
      if x_2 < 27 then
        bif inb x_2 1278 then
          let μ5 : Mm := mset μ (2, 0, 1) (Int32.toNatClampNeg x_2) 0
          run L S F (d + 1) 128 2 [some (vR (2, 0, 0)), some (vI a1), some (vI (x_2 + 1))] μ5
        else none
      else
        if x_2 < 44 then
          run L S F (d + 1) 128 2 [some (vR (2, 0, 0)), some (vI a1), some (vI (x_2 + 1))] μ
        else
          bif inb x_2 1278 then
            let μ6 : Mm := mset μ (2, 0, 1) (Int32.toNatClampNeg x_2) 0
            run L S F (d + 1) 128 2 [some (vR (2, 0, 0)), some (vI a1), some (vI (x_2 + 1))] μ6
          else none
    else
      let μ1 : Mm := mset μ (2, 0, 1) 0 a1
      let μ2 : Mm := mset μ1 (2, 0, 1) 2 17
      let μ3 : Mm := mset μ2 (2, 0, 1) 7 (-1)
      let μ4 : Mm := mset μ3 (2, 0, 1) 9 (-1)
      run L S F (d + 1) 128 67 [some (vR (2, 0, 0)), some (vI a1), some (vI 0)] μ4 := by
  unfold run
  rw [DF_succ]
  rfl
set_option maxHeartbeats 4000000 in
set_option maxRecDepth 100000 in
theorem e128_67 {L : Nat} {S : Ad → Nat → Int32} {F d : Nat} {μ : Mm} {a1 : Int32} {x_2 : Int32} : run L S (F + 1) (d + 1) 128 67 [some (vR (2, 0, 0)), some (vI a1), some (vI x_2)] μ =
    if x_2 < a1 then
      bif inb (44 + x_2) 1278 then
        let μ2 : Mm := mset μ (2, 0, 1) (Int32.toNatClampNeg (44 + x_2)) x_2
        bif inb (156 + x_2) 1278 then
          let μ3 : Mm := mset μ2 (2, 0, 1) (Int32.toNatClampNeg (156 + x_2)) ((1 : Int32) <<< ((x_2 - x_2 / 8 * 8) &&& 31))
          run L S F (d + 1) 128 67 [some (vR (2, 0, 0)), some (vI a1), some (vI (x_2 + 1))] μ3
        else none
      else none
    else
      (run L S F d 140 0 [some (vR (2, 0, 0)), none] μ).bind fun p1 =>
      some (0, p1.2) := by
  unfold run
  rw [DF_succ]
  rfl
set_option maxHeartbeats 4000000 in
set_option maxRecDepth 100000 in
theorem e129_0_all_all {L : Nat} {S : Ad → Nat → Int32} {F d : Nat} {μ : Mm} {a2 : Int32} {a4 : Int32} : run L S (F + 1) d 129 0 [some (vR (2, 0, 1)), some (vI a2), some (vR (2, 0, 1)), some (vI a4), none] μ =
    run L S F d 129 3 [some (vR (2, 0, 1)), some (vI a2), some (vR (2, 0, 1)), some (vI a4), some (vI 0)] μ := by
  unfold run
  rw [DF_succ]
  rfl
set_option maxHeartbeats 4000000 in
set_option maxRecDepth 100000 in
theorem e129_3_all_all {L : Nat} {S : Ad → Nat → Int32} {F d : Nat} {μ : Mm} {a2 : Int32} {a4 : Int32} {x_4 : Int32} : run L S (F + 1) d 129 3 [some (vR (2, 0, 1)), some (vI a2), some (vR (2, 0, 1)), some (vI a4), some (vI x_4)] μ =
    if x_4 < 426 then
      bif inb (a2 + x_4) 1278 then
        let x1 : Int32 := μ (2, 0, 1) (Int32.toNatClampNeg (a2 + x_4))
        bif inb (a4 + x_4) 1278 then
          let μ2 : Mm := mset μ (2, 0, 1) (Int32.toNatClampNeg (a4 + x_4)) x1
          run L S F d 129 3 [some (vR (2, 0, 1)), some (vI a2), some (vR (2, 0, 1)), some (vI a4), some (vI (x_4 + 1))] μ2
        else none
      else none
    else
      some (0, μ) := by
  unfold run
  rw [DF_succ]
  rfl
set_option maxHeartbeats 4000000 in
set_option maxRecDepth 100000 in
theorem e129_0_all_paper {L : Nat} {S : Ad → Nat → Int32} {F d : Nat} {μ : Mm} {a2 : Int32} {a4 : Int32} : run L S (F + 1) d 129 0 [some (vR (2, 0, 1)), some (vI a2), some (vR (2, 0, 3)), some (vI a4), none] μ =
    run L S F d 129 3 [some (vR (2, 0, 1)), some (vI a2), some (vR (2, 0, 3)), some (vI a4), some (vI 0)] μ := by
  unfold run
  rw [DF_succ]
  rfl
set_option maxHeartbeats 4000000 in
set_option maxRecDepth 100000 in
theorem e129_3_all_paper {L : Nat} {S : Ad → Nat → Int32} {F d : Nat} {μ : Mm} {a2 : Int32} {a4 : Int32} {x_4 : Int32} : run L S (F + 1) d 129 3 [some (vR (2, 0, 1)), some (vI a2), some (vR (2, 0, 3)), some (vI a4), some (vI x_4)] μ =
    if x_4 < 426 then
      bif inb (a2 + x_4) 1278 then
        let x1 : Int32 := μ (2, 0, 1) (Int32.toNatClampNeg (a2 + x_4))
        bif inb (a4 + x_4) 426 then
          let μ2 : Mm := mset μ (2, 0, 3) (Int32.toNatClampNeg (a4 + x_4)) x1
          run L S F d 129 3 [some (vR (2, 0, 1)), some (vI a2), some (vR (2, 0, 3)), some (vI a4), some (vI (x_4 + 1))] μ2
        else none
      else none
    else
      some (0, μ) := by
  unfold run
  rw [DF_succ]
  rfl
set_option maxHeartbeats 4000000 in
set_option maxRecDepth 100000 in
theorem e129_0_all_deeds {L : Nat} {S : Ad → Nat → Int32} {F d : Nat} {μ : Mm} {a2 : Int32} {a4 : Int32} : run L S (F + 1) d 129 0 [some (vR (2, 0, 1)), some (vI a2), some (vR (2, 0, 2)), some (vI a4), none] μ =
    run L S F d 129 3 [some (vR (2, 0, 1)), some (vI a2), some (vR (2, 0, 2)), some (vI a4), some (vI 0)] μ := by
  unfold run
  rw [DF_succ]
  rfl
set_option maxHeartbeats 4000000 in
set_option maxRecDepth 100000 in
theorem e129_3_all_deeds {L : Nat} {S : Ad → Nat → Int32} {F d : Nat} {μ : Mm} {a2 : Int32} {a4 : Int32} {x_4 : Int32} : run L S (F + 1) d 129 3 [some (vR (2, 0, 1)), some (vI a2), some (vR (2, 0, 2)), some (vI a4), some (vI x_4)] μ =
    if x_4 < 426 then
      bif inb (a2 + x_4) 1278 then
        let x1 : Int32 := μ (2, 0, 1) (Int32.toNatClampNeg (a2 + x_4))
        bif inb (a4 + x_4) 4260 then
          let μ2 : Mm := mset μ (2, 0, 2) (Int32.toNatClampNeg (a4 + x_4)) x1
          run L S F d 129 3 [some (vR (2, 0, 1)), some (vI a2), some (vR (2, 0, 2)), some (vI a4), some (vI (x_4 + 1))] μ2
        else none
      else none
    else
      some (0, μ) := by
  unfold run
  rw [DF_succ]
  rfl
set_option maxHeartbeats 4000000 in
set_option maxRecDepth 100000 in
theorem e129_0_all_kept {L : Nat} {S : Ad → Nat → Int32} {F d : Nat} {μ : Mm} {a2 : Int32} {a4 : Int32} : run L S (F + 1) d 129 0 [some (vR (2, 0, 1)), some (vI a2), some (vR (2, 0, 10)), some (vI a4), none] μ =
    run L S F d 129 3 [some (vR (2, 0, 1)), some (vI a2), some (vR (2, 0, 10)), some (vI a4), some (vI 0)] μ := by
  unfold run
  rw [DF_succ]
  rfl
set_option maxHeartbeats 4000000 in
set_option maxRecDepth 100000 in
theorem e129_3_all_kept {L : Nat} {S : Ad → Nat → Int32} {F d : Nat} {μ : Mm} {a2 : Int32} {a4 : Int32} {x_4 : Int32} : run L S (F + 1) d 129 3 [some (vR (2, 0, 1)), some (vI a2), some (vR (2, 0, 10)), some (vI a4), some (vI x_4)] μ =
    if x_4 < 426 then
      bif inb (a2 + x_4) 1278 then
        let x1 : Int32 := μ (2, 0, 1) (Int32.toNatClampNeg (a2 + x_4))
        bif inb (a4 + x_4) 426 then
          let μ2 : Mm := mset μ (2, 0, 10) (Int32.toNatClampNeg (a4 + x_4)) x1
          run L S F d 129 3 [some (vR (2, 0, 1)), some (vI a2), some (vR (2, 0, 10)), some (vI a4), some (vI (x_4 + 1))] μ2
        else none
      else none
    else
      some (0, μ) := by
  unfold run
  rw [DF_succ]
  rfl
set_option maxHeartbeats 4000000 in
set_option maxRecDepth 100000 in
theorem e129_0_paper_all {L : Nat} {S : Ad → Nat → Int32} {F d : Nat} {μ : Mm} {a2 : Int32} {a4 : Int32} : run L S (F + 1) d 129 0 [some (vR (2, 0, 3)), some (vI a2), some (vR (2, 0, 1)), some (vI a4), none] μ =
    run L S F d 129 3 [some (vR (2, 0, 3)), some (vI a2), some (vR (2, 0, 1)), some (vI a4), some (vI 0)] μ := by
  unfold run
  rw [DF_succ]
  rfl
set_option maxHeartbeats 4000000 in
set_option maxRecDepth 100000 in
theorem e129_3_paper_all {L : Nat} {S : Ad → Nat → Int32} {F d : Nat} {μ : Mm} {a2 : Int32} {a4 : Int32} {x_4 : Int32} : run L S (F + 1) d 129 3 [some (vR (2, 0, 3)), some (vI a2), some (vR (2, 0, 1)), some (vI a4), some (vI x_4)] μ =
    if x_4 < 426 then
      bif inb (a2 + x_4) 426 then
        let x1 : Int32 := μ (2, 0, 3) (Int32.toNatClampNeg (a2 + x_4))
        bif inb (a4 + x_4) 1278 then
          let μ2 : Mm := mset μ (2, 0, 1) (Int32.toNatClampNeg (a4 + x_4)) x1
          run L S F d 129 3 [some (vR (2, 0, 3)), some (vI a2), some (vR (2, 0, 1)), some (vI a4), some (vI (x_4 + 1))] μ2
        else none
      else none
    else
      some (0, μ) := by
  unfold run
  rw [DF_succ]
  rfl
set_option maxHeartbeats 4000000 in
set_option maxRecDepth 100000 in
theorem e129_0_deeds_all {L : Nat} {S : Ad → Nat → Int32} {F d : Nat} {μ : Mm} {a2 : Int32} {a4 : Int32} : run L S (F + 1) d 129 0 [some (vR (2, 0, 2)), some (vI a2), some (vR (2, 0, 1)), some (vI a4), none] μ =
    run L S F d 129 3 [some (vR (2, 0, 2)), some (vI a2), some (vR (2, 0, 1)), some (vI a4), some (vI 0)] μ := by
  unfold run
  rw [DF_succ]
  rfl
set_option maxHeartbeats 4000000 in
set_option maxRecDepth 100000 in
theorem e129_3_deeds_all {L : Nat} {S : Ad → Nat → Int32} {F d : Nat} {μ : Mm} {a2 : Int32} {a4 : Int32} {x_4 : Int32} : run L S (F + 1) d 129 3 [some (vR (2, 0, 2)), some (vI a2), some (vR (2, 0, 1)), some (vI a4), some (vI x_4)] μ =
    if x_4 < 426 then
      bif inb (a2 + x_4) 4260 then
        let x1 : Int32 := μ (2, 0, 2) (Int32.toNatClampNeg (a2 + x_4))
        bif inb (a4 + x_4) 1278 then
          let μ2 : Mm := mset μ (2, 0, 1) (Int32.toNatClampNeg (a4 + x_4)) x1
          run L S F d 129 3 [some (vR (2, 0, 2)), some (vI a2), some (vR (2, 0, 1)), some (vI a4), some (vI (x_4 + 1))] μ2
        else none
      else none
    else
      some (0, μ) := by
  unfold run
  rw [DF_succ]
  rfl
set_option maxHeartbeats 4000000 in
set_option maxRecDepth 100000 in
theorem e129_0_kept_all {L : Nat} {S : Ad → Nat → Int32} {F d : Nat} {μ : Mm} {a2 : Int32} {a4 : Int32} : run L S (F + 1) d 129 0 [some (vR (2, 0, 10)), some (vI a2), some (vR (2, 0, 1)), some (vI a4), none] μ =
    run L S F d 129 3 [some (vR (2, 0, 10)), some (vI a2), some (vR (2, 0, 1)), some (vI a4), some (vI 0)] μ := by
  unfold run
  rw [DF_succ]
  rfl
set_option maxHeartbeats 4000000 in
set_option maxRecDepth 100000 in
theorem e129_3_kept_all {L : Nat} {S : Ad → Nat → Int32} {F d : Nat} {μ : Mm} {a2 : Int32} {a4 : Int32} {x_4 : Int32} : run L S (F + 1) d 129 3 [some (vR (2, 0, 10)), some (vI a2), some (vR (2, 0, 1)), some (vI a4), some (vI x_4)] μ =
    if x_4 < 426 then
      bif inb (a2 + x_4) 426 then
        let x1 : Int32 := μ (2, 0, 10) (Int32.toNatClampNeg (a2 + x_4))
        bif inb (a4 + x_4) 1278 then
          let μ2 : Mm := mset μ (2, 0, 1) (Int32.toNatClampNeg (a4 + x_4)) x1
          run L S F d 129 3 [some (vR (2, 0, 10)), some (vI a2), some (vR (2, 0, 1)), some (vI a4), some (vI (x_4 + 1))] μ2
        else none
      else none
    else
      some (0, μ) := by
  unfold run
  rw [DF_succ]
  rfl
set_option maxHeartbeats 4000000 in
set_option maxRecDepth 100000 in
theorem e130_0 {L : Nat} {S : Ad → Nat → Int32} {F d : Nat} {μ : Mm} : run L S (F + 1) (d + 1) 130 0 [some (vR (2, 0, 0)), none] μ =
    if (μ (2, 0, 0) 4) = 10 then
      run L S F (d + 1) 130 11 [some (vR (2, 0, 0)), some (vI 0)] μ
    else
      (run L S F d 129 0 [some (vR (2, 0, 1)), some (vI 0), some (vR (2, 0, 2)), some (vI (426 * (μ (2, 0, 0) 4))), none] μ).bind fun p1 =>
      let x2 : Int32 := p1.2 (2, 0, 0) 4
      let μ3 : Mm := mset p1.2 (2, 0, 0) 4 (x2 + 1)
      some (0, μ3) := by
  unfold run
  rw [DF_succ]
  rfl
set_option maxHeartbeats 4000000 in
set_option maxRecDepth 100000 in
theorem e130_11 {L : Nat} {S : Ad → Nat → Int32} {F d : Nat} {μ : Mm} {x_1 : Int32} : run L S (F + 1) (d + 1) 130 11 [some (vR (2, 0, 0)), some (vI x_1)] μ =
    if x_1 < 3834 then
      bif inb (426 + x_1) 4260 then
        let x6 : Int32 := μ (2, 0, 2) (Int32.toNatClampNeg (426 + x_1))
        bif inb x_1 4260 then
          let μ7 : Mm := mset μ (2, 0, 2) (Int32.toNatClampNeg x_1) x6
          run L S F (d + 1) 130 11 [some (vR (2, 0, 0)), some (vI (x_1 + 1))] μ7
        else none
      else none
    else
      let μ1 : Mm := mset μ (2, 0, 0) 4 ((μ (2, 0, 0) 4) - 1)
      let x2 : Int32 := μ1 (2, 0, 0) 4
      (run L S F d 129 0 [some (vR (2, 0, 1)), some (vI 0), some (vR (2, 0, 2)), some (vI (426 * x2)), none] μ1).bind fun p3 =>
      let x4 : Int32 := p3.2 (2, 0, 0) 4
      let μ5 : Mm := mset p3.2 (2, 0, 0) 4 (x4 + 1)
      some (0, μ5) := by
  unfold run
  rw [DF_succ]
  rfl
set_option maxHeartbeats 4000000 in
set_option maxRecDepth 100000 in
theorem e131_0 {L : Nat} {S : Ad → Nat → Int32} {F d : Nat} {μ : Mm} {a1 : Int32} : run L S (F + 1) (d + 1) 131 0 [some (vR (2, 0, 0)), some (vI a1)] μ =
    let x1 : Int32 := μ (2, 0, 1) 0
    (run L S F d 127 0 [some (vL ((a1 : Int32).toInt64)), none, some (vL ((0 : Int32).toInt64)), none, some (vL (((x1 - 1) : Int32).toInt64)), none] μ).bind fun p2 =>
    some (vp_nar .boolean p2.1, p2.2) := by
  unfold run
  rw [DF_succ]
  rfl
set_option maxHeartbeats 4000000 in
set_option maxRecDepth 100000 in
theorem e132_0 {L : Nat} {S : Ad → Nat → Int32} {F d : Nat} {μ : Mm} {a1 : Int32} : run L S (F + 1) d 132 0 [some (vR (2, 0, 0)), some (vI a1), none] μ =
    run L S F d 132 2 [some (vR (2, 0, 0)), some (vI a1), some (vI 0)] μ := by
  unfold run
  rw [DF_succ]
  rfl
set_option maxHeartbeats 4000000 in
set_option maxRecDepth 100000 in
theorem e132_2 {L : Nat} {S : Ad → Nat → Int32} {F d : Nat} {μ : Mm} {a1 : Int32} {x_2 : Int32} : run L S (F + 1) d 132 2 [some (vR (2, 0, 0)), some (vI a1), some (vI x_2)] μ =
    bif inb (44 + x_2) 1278 then
      let x1 : Int32 := μ (2, 0, 1) (Int32.toNatClampNeg (44 + x_2))
      if x1 = a1 then
        some (x_2, μ)
      else
        run L S F d 132 2 [some (vR (2, 0, 0)), some (vI a1), some (vI (x_2 + 1))] μ
    else none := by
  unfold run
  rw [DF_succ]
  rfl
set_option maxHeartbeats 4000000 in
set_option maxRecDepth 100000 in
theorem e133_0 {L : Nat} {S : Ad → Nat → Int32} {F d : Nat} {μ : Mm} {a1 : Int32} : run L S (F + 1) d 133 0 [some (vR (2, 0, 0)), some (vI a1), none] μ =
    let x1 : Int32 := μ (2, 0, 1) 2
    if a1 = 0 then none else
    let x2 : Int32 := μ (2, 0, 1) 2
    let μ3 : Mm := mset μ (2, 0, 1) 2 (((421 * x2) + 1663) - ((421 * x2) + 1663) / 7875 * 7875)
    some ((x1 - x1 / a1 * a1), μ3) := by
  unfold run
  rw [DF_succ]
  rfl
set_option maxHeartbeats 4000000 in
set_option maxRecDepth 100000 in
theorem e134_0 {L : Nat} {S : Ad → Nat → Int32} {F d : Nat} {μ : Mm} {a1 : Int32} {a2 : Int32} : run L S (F + 1) (d + 1) 134 0 [some (vR (2, 0, 0)), some (vI a1), some (vI a2), none, none] μ =
    let x1 : Int32 := μ (2, 0, 1) 0
    (run L S F d 127 0 [some (vL ((a1 : Int32).toInt64)), none, some (vL ((0 : Int32).toInt64)), none, some (vL (((x1 - 1) : Int32).toInt64)), none] μ).bind fun p2 =>
    if p2.1 = 0 then
      some (0, p2.2)
    else
      (run L S F d 132 0 [some (vR (2, 0, 0)), some (vI a1), none] p2.2).bind fun p3 =>
      bif inb (60 + p3.1) 1278 then
        let x4 : Int32 := p3.2 (2, 0, 1) (Int32.toNatClampNeg (60 + p3.1))
        let x5 : Int32 := p3.2 (2, 0, 1) 27
        if x4 < x5 then
          bif inb (60 + p3.1) 1278 then
            let x6 : Int32 := p3.2 (2, 0, 1) (Int32.toNatClampNeg (60 + p3.1))
            bif inb (60 + p3.1) 1278 then
              let μ7 : Mm := mset p3.2 (2, 0, 1) (Int32.toNatClampNeg (60 + p3.1)) (x6 + a2)
              bif inb (60 + p3.1) 1278 then
                let x8 : Int32 := μ7 (2, 0, 1) (Int32.toNatClampNeg (60 + p3.1))
                let x9 : Int32 := μ7 (2, 0, 0) 9
                if x9 < x8 then
                  bif inb (60 + p3.1) 1278 then
                    let x21 : Int32 := μ7 (2, 0, 1) (Int32.toNatClampNeg (60 + p3.1))
                    let μ22 : Mm := mset μ7 (2, 0, 0) 9 x21
                    bif inb (60 + p3.1) 1278 then
                      let x23 : Int32 := μ22 (2, 0, 1) (Int32.toNatClampNeg (60 + p3.1))
                      let x24 : Int32 := μ22 (2, 0, 1) 27
                      if x23 < x24 then
                        some (0, μ22)
                      else
                        let x25 : Int32 := μ22 (2, 0, 1) 12
                        let μ26 : Mm := mset μ22 (2, 0, 1) 12 (x25 ||| ((1 : Int32) <<< (p3.1 &&& 31)))
                        bif inb (124 + p3.1) 1278 then
                          let x27 : Int32 := μ26 (2, 0, 1) (Int32.toNatClampNeg (124 + p3.1))
                          bif inb (156 + p3.1) 1278 then
                            let x28 : Int32 := μ26 (2, 0, 1) (Int32.toNatClampNeg (156 + p3.1))
                            bif inb (124 + p3.1) 1278 then
                              let μ29 : Mm := mset μ26 (2, 0, 1) (Int32.toNatClampNeg (124 + p3.1)) (x27 ^^^ x28)
                              let x30 : Int32 := μ29 (2, 0, 1) 16
                              let μ31 : Mm := mset μ29 (2, 0, 1) 16 (x30 + 1)
                              some (0, μ31)
                            else none
                          else none
                        else none
                    else none
                  else none
                else
                  let x10 : Int32 := μ7 (2, 0, 0) 9
                  let μ11 : Mm := mset μ7 (2, 0, 0) 9 x10
                  bif inb (60 + p3.1) 1278 then
                    let x12 : Int32 := μ11 (2, 0, 1) (Int32.toNatClampNeg (60 + p3.1))
                    let x13 : Int32 := μ11 (2, 0, 1) 27
                    if x12 < x13 then
                      some (0, μ11)
                    else
                      let x14 : Int32 := μ11 (2, 0, 1) 12
                      let μ15 : Mm := mset μ11 (2, 0, 1) 12 (x14 ||| ((1 : Int32) <<< (p3.1 &&& 31)))
                      bif inb (124 + p3.1) 1278 then
                        let x16 : Int32 := μ15 (2, 0, 1) (Int32.toNatClampNeg (124 + p3.1))
                        bif inb (156 + p3.1) 1278 then
                          let x17 : Int32 := μ15 (2, 0, 1) (Int32.toNatClampNeg (156 + p3.1))
                          bif inb (124 + p3.1) 1278 then
                            let μ18 : Mm := mset μ15 (2, 0, 1) (Int32.toNatClampNeg (124 + p3.1)) (x16 ^^^ x17)
                            let x19 : Int32 := μ18 (2, 0, 1) 16
                            let μ20 : Mm := mset μ18 (2, 0, 1) 16 (x19 + 1)
                            some (0, μ20)
                          else none
                        else none
                      else none
                  else none
              else none
            else none
          else none
        else
          bif inb (60 + p3.1) 1278 then
            let x32 : Int32 := p3.2 (2, 0, 1) (Int32.toNatClampNeg (60 + p3.1))
            bif inb (60 + p3.1) 1278 then
              let μ33 : Mm := mset p3.2 (2, 0, 1) (Int32.toNatClampNeg (60 + p3.1)) (x32 + a2)
              bif inb (60 + p3.1) 1278 then
                let x34 : Int32 := μ33 (2, 0, 1) (Int32.toNatClampNeg (60 + p3.1))
                let x35 : Int32 := μ33 (2, 0, 0) 9
                if x35 < x34 then
                  bif inb (60 + p3.1) 1278 then
                    let x38 : Int32 := μ33 (2, 0, 1) (Int32.toNatClampNeg (60 + p3.1))
                    let μ39 : Mm := mset μ33 (2, 0, 0) 9 x38
                    some (0, μ39)
                  else none
                else
                  let x36 : Int32 := μ33 (2, 0, 0) 9
                  let μ37 : Mm := mset μ33 (2, 0, 0) 9 x36
                  some (0, μ37)
              else none
            else none
          else none
      else none := by
  unfold run
  rw [DF_succ]
  rfl
set_option maxHeartbeats 4000000 in
set_option maxRecDepth 100000 in
theorem e135_0 {L : Nat} {S : Ad → Nat → Int32} {F d : Nat} {μ : Mm} {a1 : Int32} : run L S (F + 1) (d + 1) 135 0 [some (vR (2, 0, 0)), some (vI a1), none] μ =
    bif inb (44 + a1) 1278 then
      let x1 : Int32 := μ (2, 0, 1) (Int32.toNatClampNeg (44 + a1))
      (run L S F d 134 0 [some (vR (2, 0, 0)), some (vI (x1 - 1)), some (vI 2), none, none] μ).bind fun p2 =>
      (run L S F d 134 0 [some (vR (2, 0, 0)), some (vI (x1 + 1)), some (vI 2), none, none] p2.2).bind fun p3 =>
      let x4 : Int32 := p3.2 (2, 0, 1) 28
      if x4 < 2 then
        some (0, p3.2)
      else
        (run L S F d 134 0 [some (vR (2, 0, 0)), some (vI (x1 - 2)), some (vI 1), none, none] p3.2).bind fun p5 =>
        (run L S F d 134 0 [some (vR (2, 0, 0)), some (vI (x1 + 2)), some (vI 1), none, none] p5.2).bind fun p6 =>
        some (0, p6.2)
    else none := by
  unfold run
  rw [DF_succ]
  rfl
set_option maxHeartbeats 4000000 in
set_option maxRecDepth 100000 in
theorem e136_0 {L : Nat} {S : Ad → Nat → Int32} {F d : Nat} {μ : Mm} {a1 : Int32} : run L S (F + 1) d 136 0 [some (vI a1), none, none] μ =
    run L S F d 136 4 [some (vI a1), some (vI 0), some (vI 0)] μ := by
  unfold run
  rw [DF_succ]
  rfl
set_option maxHeartbeats 4000000 in
set_option maxRecDepth 100000 in
theorem e136_4 {L : Nat} {S : Ad → Nat → Int32} {F d : Nat} {μ : Mm} {a1 : Int32} {x_1 : Int32} {x_2 : Int32} : run L S (F + 1) d 136 4 [some (vI a1), some (vI x_1), some (vI x_2)] μ =
    if x_2 < 8 then
      run L S F d 136 4 [some (vI a1), some (vI (x_1 + ((a1 >>> (x_2 &&& 31)) &&& 1))), some (vI (x_2 + 1))] μ
    else
      some (x_1, μ) := by
  unfold run
  rw [DF_succ]
  rfl
set_option maxHeartbeats 4000000 in
set_option maxRecDepth 100000 in
theorem e137_0 {L : Nat} {S : Ad → Nat → Int32} {F d : Nat} {μ : Mm} {a1 : Int32} : run L S (F + 1) (d + 1) 137 0 [some (vR (2, 0, 0)), some (vI a1)] μ =
    bif inb (124 + a1) 1278 then
      let x1 : Int32 := μ (2, 0, 1) (Int32.toNatClampNeg (124 + a1))
      bif inb (140 + a1) 1278 then
        let x2 : Int32 := μ (2, 0, 1) (Int32.toNatClampNeg (140 + a1))
        (run L S F d 136 0 [some (vI (x1 ^^^ x2)), none, none] μ).bind fun p3 =>
        some (p3.1, p3.2)
      else none
    else none := by
  unfold run
  rw [DF_succ]
  rfl
set_option maxHeartbeats 4000000 in
set_option maxRecDepth 100000 in
theorem e138_0 {L : Nat} {S : Ad → Nat → Int32} {F d : Nat} {μ : Mm} {a1 : Int32} : run L S (F + 1) (d + 1) 138 0 [some (vR (2, 0, 0)), some (vI a1), none] μ =
    (run L S F d 137 0 [some (vR (2, 0, 0)), some (vI a1)] μ).bind fun p1 =>
    if p1.1 = 1 then
      bif inb (140 + a1) 1278 then
        let x10 : Int32 := p1.2 (2, 0, 1) (Int32.toNatClampNeg (140 + a1))
        bif inb (124 + a1) 1278 then
          let μ11 : Mm := mset p1.2 (2, 0, 1) (Int32.toNatClampNeg (124 + a1)) x10
          let x12 : Int32 := μ11 (2, 0, 1) 20
          let μ13 : Mm := mset μ11 (2, 0, 1) 20 (x12 + 1)
          if p1.1 < 2 then
            some (0, μ13)
          else
            let x14 : Int32 := μ13 (2, 0, 1) 21
            let x15 : Int32 := μ13 (2, 0, 1) 26
            if ((x15 >>> (a1 &&& 31)) &&& 1) = 0 then
              let μ19 : Mm := mset μ13 (2, 0, 1) 21 (x14 + 1)
              let x20 : Int32 := μ19 (2, 0, 1) 26
              let μ21 : Mm := mset μ19 (2, 0, 1) 26 (x20 ||| ((1 : Int32) <<< (a1 &&& 31)))
              some (0, μ21)
            else
              let μ16 : Mm := mset μ13 (2, 0, 1) 21 (x14 + 0)
              let x17 : Int32 := μ16 (2, 0, 1) 26
              let μ18 : Mm := mset μ16 (2, 0, 1) 26 (x17 ||| ((1 : Int32) <<< (a1 &&& 31)))
              some (0, μ18)
        else none
      else none
    else
      if p1.1 < 2 then
        some (0, p1.2)
      else
        let x2 : Int32 := p1.2 (2, 0, 1) 21
        let x3 : Int32 := p1.2 (2, 0, 1) 26
        if ((x3 >>> (a1 &&& 31)) &&& 1) = 0 then
          let μ7 : Mm := mset p1.2 (2, 0, 1) 21 (x2 + 1)
          let x8 : Int32 := μ7 (2, 0, 1) 26
          let μ9 : Mm := mset μ7 (2, 0, 1) 26 (x8 ||| ((1 : Int32) <<< (a1 &&& 31)))
          some (0, μ9)
        else
          let μ4 : Mm := mset p1.2 (2, 0, 1) 21 (x2 + 0)
          let x5 : Int32 := μ4 (2, 0, 1) 26
          let μ6 : Mm := mset μ4 (2, 0, 1) 26 (x5 ||| ((1 : Int32) <<< (a1 &&& 31)))
          some (0, μ6) := by
  unfold run
  rw [DF_succ]
  rfl
set_option maxHeartbeats 4000000 in
set_option maxRecDepth 100000 in
theorem e139_0 {L : Nat} {S : Ad → Nat → Int32} {F d : Nat} {μ : Mm} {a1 : Int32} {a2 : Int32} : run L S (F + 1) (d + 1) 139 0 [some (vR (2, 0, 0)), some (vI a1), some (vI a2)] μ =
    bif inb (60 + a1) 1278 then
      let μ1 : Mm := mset μ (2, 0, 1) (Int32.toNatClampNeg (60 + a1)) 0
      if a2 = 0 then
        some (0, μ1)
      else
        let x2 : Int32 := μ1 (2, 0, 1) 42
        if x2 = 1 then
          (run L S F d 135 0 [some (vR (2, 0, 0)), some (vI a1), none] μ1).bind fun p3 =>
          some (0, p3.2)
        else
          some (0, μ1)
    else none := by
  unfold run
  rw [DF_succ]
  rfl
set_option maxHeartbeats 4000000 in
set_option maxRecDepth 100000 in
theorem e140_0 {L : Nat} {S : Ad → Nat → Int32} {F d : Nat} {μ : Mm} : run L S (F + 1) d 140 0 [some (vR (2, 0, 0)), none] μ =
    let μ1 : Mm := mset μ (2, 0, 1) 3 0
    let μ2 : Mm := mset μ1 (2, 0, 1) 11 0
    run L S F d 140 17 [some (vR (2, 0, 0)), some (vI 0)] μ2 := by
  unfold run
  rw [DF_succ]
  rfl
set_option maxHeartbeats 4000000 in
set_option maxRecDepth 100000 in
theorem e140_17 {L : Nat} {S : Ad → Nat → Int32} {F d : Nat} {μ : Mm} {x_1 : Int32} : run L S (F + 1) d 140 17 [some (vR (2, 0, 0)), some (vI x_1)] μ =
    if x_1 < 16 then
      bif inb (108 + x_1) 1278 then
        let μ1 : Mm := mset μ (2, 0, 1) (Int32.toNatClampNeg (108 + x_1)) 0
        run L S F d 140 17 [some (vR (2, 0, 0)), some (vI (x_1 + 1))] μ1
      else none
    else
      run L S F d 140 41 [some (vR (2, 0, 0)), some (vI 0)] μ := by
  unfold run
  rw [DF_succ]
  rfl
set_option maxHeartbeats 4000000 in
set_option maxRecDepth 100000 in
theorem e140_41 {L : Nat} {S : Ad → Nat → Int32} {F d : Nat} {μ : Mm} {x_1 : Int32} : run L S (F + 1) d 140 41 [some (vR (2, 0, 0)), some (vI x_1)] μ =
    if x_1 < 8 then
      bif inb (172 + x_1) 1278 then
        let μ1 : Mm := mset μ (2, 0, 1) (Int32.toNatClampNeg (172 + x_1)) (-1)
        bif inb (180 + x_1) 1278 then
          let μ2 : Mm := mset μ1 (2, 0, 1) (Int32.toNatClampNeg (180 + x_1)) 0
          bif inb (188 + x_1) 1278 then
            let μ3 : Mm := mset μ2 (2, 0, 1) (Int32.toNatClampNeg (188 + x_1)) 0
            bif inb (196 + x_1) 1278 then
              let μ4 : Mm := mset μ3 (2, 0, 1) (Int32.toNatClampNeg (196 + x_1)) 0
              bif inb (204 + x_1) 1278 then
                let μ5 : Mm := mset μ4 (2, 0, 1) (Int32.toNatClampNeg (204 + x_1)) 0
                run L S F d 140 41 [some (vR (2, 0, 0)), some (vI (x_1 + 1))] μ5
              else none
            else none
          else none
        else none
      else none
    else
      some (0, μ) := by
  unfold run
  rw [DF_succ]
  rfl
set_option maxHeartbeats 4000000 in
set_option maxRecDepth 100000 in
theorem e141_0 {L : Nat} {S : Ad → Nat → Int32} {F d : Nat} {μ : Mm} {a1 : Int32} : run L S (F + 1) d 141 0 [some (vR (2, 0, 0)), some (vI a1), none] μ =
    run L S F d 141 2 [some (vR (2, 0, 0)), some (vI a1), some (vI 0)] μ := by
  unfold run
  rw [DF_succ]
  rfl
set_option maxHeartbeats 4000000 in
set_option maxRecDepth 100000 in
theorem e141_2 {L : Nat} {S : Ad → Nat → Int32} {F d : Nat} {μ : Mm} {a1 : Int32} {x_2 : Int32} : run L S (F + 1) d 141 2 [some (vR (2, 0, 0)), some (vI a1), some (vI x_2)] μ =
    let x1 : Int32 := μ (2, 0, 1) 30
    if x_2 < x1 then
      bif inb (172 + x_2) 1278 then
        let x2 : Int32 := μ (2, 0, 1) (Int32.toNatClampNeg (172 + x_2))
        if x2 = a1 then
          some (x_2, μ)
        else
          run L S F d 141 2 [some (vR (2, 0, 0)), some (vI a1), some (vI (x_2 + 1))] μ
      else none
    else
      some ((-1), μ) := by
  unfold run
  rw [DF_succ]
  rfl
set_option maxHeartbeats 4000000 in
set_option maxRecDepth 100000 in
theorem e142_0 {L : Nat} {S : Ad → Nat → Int32} {F d : Nat} {μ : Mm} {a1 : Int32} : run L S (F + 1) d 142 0 [some (vR (2, 0, 0)), some (vI a1), none] μ =
    run L S F d 142 2 [some (vR (2, 0, 0)), some (vI a1), some (vI 0)] μ := by
  unfold run
  rw [DF_succ]
  rfl
set_option maxHeartbeats 4000000 in
set_option maxRecDepth 100000 in
theorem e142_2 {L : Nat} {S : Ad → Nat → Int32} {F d : Nat} {μ : Mm} {a1 : Int32} {x_2 : Int32} : run L S (F + 1) d 142 2 [some (vR (2, 0, 0)), some (vI a1), some (vI x_2)] μ =
    let x1 : Int32 := μ (2, 0, 1) 30
    if x_2 < x1 then
      bif inb (180 + x_2) 1278 then
        let x2 : Int32 := μ (2, 0, 1) (Int32.toNatClampNeg (180 + x_2))
        if x2 = a1 then
          some (x_2, μ)
        else
          run L S F d 142 2 [some (vR (2, 0, 0)), some (vI a1), some (vI (x_2 + 1))] μ
      else none
    else
      some ((-1), μ) := by
  unfold run
  rw [DF_succ]
  rfl
set_option maxHeartbeats 4000000 in
set_option maxRecDepth 100000 in
theorem e143_0 {L : Nat} {S : Ad → Nat → Int32} {F d : Nat} {μ : Mm} : run L S (F + 1) d 143 0 [some (vR (2, 0, 0)), none, none] μ =
    run L S F d 143 4 [some (vR (2, 0, 0)), some (vI 0), some (vI 1)] μ := by
  unfold run
  rw [DF_succ]
  rfl
set_option maxHeartbeats 4000000 in
set_option maxRecDepth 100000 in
theorem e143_4 {L : Nat} {S : Ad → Nat → Int32} {F d : Nat} {μ : Mm} {x_1 : Int32} {x_2 : Int32} : run L S (F + 1) d 143 4 [some (vR (2, 0, 0)), some (vI x_1), some (vI x_2)] μ =
    let x1 : Int32 := μ (2, 0, 1) 30
    if x_2 < x1 then
      bif inb (188 + x_2) 1278 then
        let x2 : Int32 := μ (2, 0, 1) (Int32.toNatClampNeg (188 + x_2))
        bif inb (188 + x_1) 1278 then
          let x3 : Int32 := μ (2, 0, 1) (Int32.toNatClampNeg (188 + x_1))
          if x2 < x3 then
            run L S F d 143 4 [some (vR (2, 0, 0)), some (vI x_2), some (vI (x_2 + 1))] μ
          else
            run L S F d 143 4 [some (vR (2, 0, 0)), some (vI x_1), some (vI (x_2 + 1))] μ
        else none
      else none
    else
      some (x_1, μ) := by
  unfold run
  rw [DF_succ]
  rfl
set_option maxHeartbeats 4000000 in
set_option maxRecDepth 100000 in
theorem e144_0 {L : Nat} {S : Ad → Nat → Int32} {F d : Nat} {μ : Mm} {a1 : Int32} : run L S (F + 1) (d + 1) 144 0 [some (vR (2, 0, 0)), some (vI a1), none] μ =
    (run L S F d 141 0 [some (vR (2, 0, 0)), some (vI a1), none] μ).bind fun p1 =>
    if p1.1 = (-1) then
      let x5 : Int32 := p1.2 (2, 0, 1) 3
      (run L S F d 142 0 [some (vR (2, 0, 0)), some (vI x5), none] p1.2).bind fun p6 =>
      if p6.1 = (-1) then
        let x11 : Int32 := p6.2 (2, 0, 1) 3
        let μ12 : Mm := mset p6.2 (2, 0, 1) 3 (x11 + 1)
        some (0, μ12)
      else
        bif inb (172 + p6.1) 1278 then
          let μ7 : Mm := mset p6.2 (2, 0, 1) (Int32.toNatClampNeg (172 + p6.1)) a1
          bif inb (180 + p6.1) 1278 then
            let x8 : Int32 := μ7 (2, 0, 1) (Int32.toNatClampNeg (180 + p6.1))
            bif inb (180 + p6.1) 1278 then
              let μ9 : Mm := mset μ7 (2, 0, 1) (Int32.toNatClampNeg (180 + p6.1)) (x8 + 1)
              bif inb (180 + p6.1) 1278 then
                let x10 : Int32 := μ9 (2, 0, 1) (Int32.toNatClampNeg (180 + p6.1))
                some (x10, μ9)
              else none
            else none
          else none
        else none
    else
      bif inb (180 + p1.1) 1278 then
        let x2 : Int32 := p1.2 (2, 0, 1) (Int32.toNatClampNeg (180 + p1.1))
        bif inb (180 + p1.1) 1278 then
          let μ3 : Mm := mset p1.2 (2, 0, 1) (Int32.toNatClampNeg (180 + p1.1)) (x2 + 1)
          bif inb (180 + p1.1) 1278 then
            let x4 : Int32 := μ3 (2, 0, 1) (Int32.toNatClampNeg (180 + p1.1))
            some (x4, μ3)
          else none
        else none
      else none := by
  unfold run
  rw [DF_succ]
  rfl
set_option maxHeartbeats 4000000 in
set_option maxRecDepth 100000 in
theorem e145_0 {L : Nat} {S : Ad → Nat → Int32} {F d : Nat} {μ : Mm} {a1 : Int32} : run L S (F + 1) (d + 1) 145 0 [some (vR (2, 0, 0)), some (vI a1), none] μ =
    let x1 : Int32 := μ (2, 0, 1) 11
    let μ2 : Mm := mset μ (2, 0, 1) 11 (x1 + 1)
    (run L S F d 141 0 [some (vR (2, 0, 0)), some (vI a1), none] μ2).bind fun p3 =>
    if p3.1 = (-1) then
      (run L S F d 141 0 [some (vR (2, 0, 0)), some (vI (-1)), none] p3.2).bind fun p9 =>
      if p9.1 = (-1) then
        (run L S F d 143 0 [some (vR (2, 0, 0)), none, none] p9.2).bind fun p17 =>
        bif inb (172 + p17.1) 1278 then
          let μ18 : Mm := mset p17.2 (2, 0, 1) (Int32.toNatClampNeg (172 + p17.1)) a1
          bif inb (180 + p17.1) 1278 then
            let μ19 : Mm := mset μ18 (2, 0, 1) (Int32.toNatClampNeg (180 + p17.1)) 0
            bif inb (180 + p17.1) 1278 then
              let x20 : Int32 := μ19 (2, 0, 1) (Int32.toNatClampNeg (180 + p17.1))
              bif inb (180 + p17.1) 1278 then
                let μ21 : Mm := mset μ19 (2, 0, 1) (Int32.toNatClampNeg (180 + p17.1)) (x20 + 1)
                let x22 : Int32 := μ21 (2, 0, 1) 11
                bif inb (188 + p17.1) 1278 then
                  let μ23 : Mm := mset μ21 (2, 0, 1) (Int32.toNatClampNeg (188 + p17.1)) x22
                  bif inb (180 + p17.1) 1278 then
                    let x24 : Int32 := μ23 (2, 0, 1) (Int32.toNatClampNeg (180 + p17.1))
                    some (x24, μ23)
                  else none
                else none
              else none
            else none
          else none
        else none
      else
        bif inb (172 + p9.1) 1278 then
          let μ10 : Mm := mset p9.2 (2, 0, 1) (Int32.toNatClampNeg (172 + p9.1)) a1
          bif inb (180 + p9.1) 1278 then
            let μ11 : Mm := mset μ10 (2, 0, 1) (Int32.toNatClampNeg (180 + p9.1)) 0
            bif inb (180 + p9.1) 1278 then
              let x12 : Int32 := μ11 (2, 0, 1) (Int32.toNatClampNeg (180 + p9.1))
              bif inb (180 + p9.1) 1278 then
                let μ13 : Mm := mset μ11 (2, 0, 1) (Int32.toNatClampNeg (180 + p9.1)) (x12 + 1)
                let x14 : Int32 := μ13 (2, 0, 1) 11
                bif inb (188 + p9.1) 1278 then
                  let μ15 : Mm := mset μ13 (2, 0, 1) (Int32.toNatClampNeg (188 + p9.1)) x14
                  bif inb (180 + p9.1) 1278 then
                    let x16 : Int32 := μ15 (2, 0, 1) (Int32.toNatClampNeg (180 + p9.1))
                    some (x16, μ15)
                  else none
                else none
              else none
            else none
          else none
        else none
    else
      bif inb (180 + p3.1) 1278 then
        let x4 : Int32 := p3.2 (2, 0, 1) (Int32.toNatClampNeg (180 + p3.1))
        bif inb (180 + p3.1) 1278 then
          let μ5 : Mm := mset p3.2 (2, 0, 1) (Int32.toNatClampNeg (180 + p3.1)) (x4 + 1)
          let x6 : Int32 := μ5 (2, 0, 1) 11
          bif inb (188 + p3.1) 1278 then
            let μ7 : Mm := mset μ5 (2, 0, 1) (Int32.toNatClampNeg (188 + p3.1)) x6
            bif inb (180 + p3.1) 1278 then
              let x8 : Int32 := μ7 (2, 0, 1) (Int32.toNatClampNeg (180 + p3.1))
              some (x8, μ7)
            else none
          else none
        else none
      else none := by
  unfold run
  rw [DF_succ]
  rfl
