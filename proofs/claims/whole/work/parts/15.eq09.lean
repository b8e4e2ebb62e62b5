/-! equations of the methods, out of their code -/
set_option maxHeartbeats 4000000 in
set_option maxRecDepth 100000 in
theorem e227_656 {L : Nat} {S : Ad → Nat → Int32} {F d : Nat} {μ : Mm} {x_3 : Int32} : run L S (F + 1) (d + 1) 227 656 [some (vR (3, 0, 0)), some (vR (0, 0, 0)), some (vR (2, 0, 0)), some (vI x_3)] μ =
    bif inb (x_3 + 1) L then
      let x1 : Int32 := S (3, 0, 0) (Int32.toNatClampNeg (x_3 + 1))
      (run L S F d 96 0 [some (vR (0, 0, 0)), some (vI x1)] μ).bind fun p2 =>
      bif inb (x_3 + 1) L then
        let x3 : Int32 := S (3, 0, 0) (Int32.toNatClampNeg (x_3 + 1))
        (run L S F d 187 0 [some (vR (2, 0, 0)), some (vI x3)] p2.2).bind fun p4 =>
        if p2.1 = p4.1 then
          run L S F (d + 1) 227 1396 [some (vR (3, 0, 0)), some (vR (0, 0, 0)), some (vR (2, 0, 0)), some (vI x_3)] p4.2
        else
          some (vp_nar .boolean 0, p4.2)
      else none
    else none := by
  unfold run
  rw [DF_succ]
  rfl
set_option maxHeartbeats 4000000 in
set_option maxRecDepth 100000 in
theorem e227_679 {L : Nat} {S : Ad → Nat → Int32} {F d : Nat} {μ : Mm} {x_3 : Int32} : run L S (F + 1) (d + 1) 227 679 [some (vR (3, 0, 0)), some (vR (0, 0, 0)), some (vR (2, 0, 0)), some (vI x_3)] μ =
    bif inb (x_3 + 1) L then
      let x1 : Int32 := S (3, 0, 0) (Int32.toNatClampNeg (x_3 + 1))
      bif inb (x_3 + 2) L then
        let x2 : Int32 := S (3, 0, 0) (Int32.toNatClampNeg (x_3 + 2))
        (run L S F d 97 0 [some (vR (0, 0, 0)), some (vI x1), some (vI x2)] μ).bind fun p3 =>
        bif inb (x_3 + 1) L then
          let x4 : Int32 := S (3, 0, 0) (Int32.toNatClampNeg (x_3 + 1))
          bif inb (x_3 + 2) L then
            let x5 : Int32 := S (3, 0, 0) (Int32.toNatClampNeg (x_3 + 2))
            (run L S F d 186 0 [some (vR (2, 0, 0)), some (vI x4), some (vI x5)] p3.2).bind fun p6 =>
            if p3.1 = p6.1 then
              run L S F (d + 1) 227 1396 [some (vR (3, 0, 0)), some (vR (0, 0, 0)), some (vR (2, 0, 0)), some (vI x_3)] p6.2
            else
              some (vp_nar .boolean 0, p6.2)
          else none
        else none
      else none
    else none := by
  unfold run
  rw [DF_succ]
  rfl
set_option maxHeartbeats 4000000 in
set_option maxRecDepth 100000 in
theorem e227_712 {L : Nat} {S : Ad → Nat → Int32} {F d : Nat} {μ : Mm} {x_3 : Int32} : run L S (F + 1) (d + 1) 227 712 [some (vR (3, 0, 0)), some (vR (0, 0, 0)), some (vR (2, 0, 0)), some (vI x_3)] μ =
    bif inb (x_3 + 1) L then
      let x1 : Int32 := S (3, 0, 0) (Int32.toNatClampNeg (x_3 + 1))
      bif inb (x_3 + 2) L then
        let x2 : Int32 := S (3, 0, 0) (Int32.toNatClampNeg (x_3 + 2))
        (run L S F d 98 0 [some (vR (0, 0, 0)), some (vI x1), some (vI x2)] μ).bind fun p3 =>
        bif inb (x_3 + 1) L then
          let x4 : Int32 := S (3, 0, 0) (Int32.toNatClampNeg (x_3 + 1))
          bif inb (x_3 + 2) L then
            let x5 : Int32 := S (3, 0, 0) (Int32.toNatClampNeg (x_3 + 2))
            (run L S F d 188 0 [some (vR (2, 0, 0)), some (vI x4), some (vI x5), none] p3.2).bind fun p6 =>
            if p3.1 = p6.1 then
              run L S F (d + 1) 227 1396 [some (vR (3, 0, 0)), some (vR (0, 0, 0)), some (vR (2, 0, 0)), some (vI x_3)] p6.2
            else
              some (vp_nar .boolean 0, p6.2)
          else none
        else none
      else none
    else none := by
  unfold run
  rw [DF_succ]
  rfl
set_option maxHeartbeats 4000000 in
set_option maxRecDepth 100000 in
theorem e227_745 {L : Nat} {S : Ad → Nat → Int32} {F d : Nat} {μ : Mm} {x_3 : Int32} : run L S (F + 1) (d + 1) 227 745 [some (vR (3, 0, 0)), some (vR (0, 0, 0)), some (vR (2, 0, 0)), some (vI x_3)] μ =
    (run L S F d 99 0 [some (vR (0, 0, 0))] μ).bind fun p1 =>
    (run L S F d 189 0 [some (vR (2, 0, 0))] p1.2).bind fun p2 =>
    if p1.1 = p2.1 then
      run L S F (d + 1) 227 1396 [some (vR (3, 0, 0)), some (vR (0, 0, 0)), some (vR (2, 0, 0)), some (vI x_3)] p2.2
    else
      some (vp_nar .boolean 0, p2.2) := by
  unfold run
  rw [DF_succ]
  rfl
set_option maxHeartbeats 4000000 in
set_option maxRecDepth 100000 in
theorem e227_758 {L : Nat} {S : Ad → Nat → Int32} {F d : Nat} {μ : Mm} {x_3 : Int32} : run L S (F + 1) (d + 1) 227 758 [some (vR (3, 0, 0)), some (vR (0, 0, 0)), some (vR (2, 0, 0)), some (vI x_3)] μ =
    bif inb (x_3 + 1) L then
      let x1 : Int32 := S (3, 0, 0) (Int32.toNatClampNeg (x_3 + 1))
      (run L S F d 100 0 [some (vR (0, 0, 0)), some (vI x1)] μ).bind fun p2 =>
      bif inb (x_3 + 1) L then
        let x3 : Int32 := S (3, 0, 0) (Int32.toNatClampNeg (x_3 + 1))
        (run L S F d 190 0 [some (vR (2, 0, 0)), some (vI x3)] p2.2).bind fun p4 =>
        if p2.1 = p4.1 then
          run L S F (d + 1) 227 1396 [some (vR (3, 0, 0)), some (vR (0, 0, 0)), some (vR (2, 0, 0)), some (vI x_3)] p4.2
        else
          some (vp_nar .boolean 0, p4.2)
      else none
    else none := by
  unfold run
  rw [DF_succ]
  rfl
set_option maxHeartbeats 4000000 in
set_option maxRecDepth 100000 in
theorem e227_781 {L : Nat} {S : Ad → Nat → Int32} {F d : Nat} {μ : Mm} {x_3 : Int32} : run L S (F + 1) (d + 1) 227 781 [some (vR (3, 0, 0)), some (vR (0, 0, 0)), some (vR (2, 0, 0)), some (vI x_3)] μ =
    bif inb (x_3 + 1) L then
      let x1 : Int32 := S (3, 0, 0) (Int32.toNatClampNeg (x_3 + 1))
      (run L S F d 101 0 [some (vR (0, 0, 0)), some (vI x1)] μ).bind fun p2 =>
      bif inb (x_3 + 1) L then
        let x3 : Int32 := S (3, 0, 0) (Int32.toNatClampNeg (x_3 + 1))
        (run L S F d 191 0 [some (vR (2, 0, 0)), some (vI x3)] p2.2).bind fun p4 =>
        if p2.1 = p4.1 then
          run L S F (d + 1) 227 1396 [some (vR (3, 0, 0)), some (vR (0, 0, 0)), some (vR (2, 0, 0)), some (vI x_3)] p4.2
        else
          some (vp_nar .boolean 0, p4.2)
      else none
    else none := by
  unfold run
  rw [DF_succ]
  rfl
set_option maxHeartbeats 4000000 in
set_option maxRecDepth 100000 in
theorem e227_804 {L : Nat} {S : Ad → Nat → Int32} {F d : Nat} {μ : Mm} {x_3 : Int32} : run L S (F + 1) (d + 1) 227 804 [some (vR (3, 0, 0)), some (vR (0, 0, 0)), some (vR (2, 0, 0)), some (vI x_3)] μ =
    bif inb (x_3 + 1) L then
      let x1 : Int32 := S (3, 0, 0) (Int32.toNatClampNeg (x_3 + 1))
      (run L S F d 102 0 [some (vR (0, 0, 0)), some (vI x1)] μ).bind fun p2 =>
      bif inb (x_3 + 1) L then
        let x3 : Int32 := S (3, 0, 0) (Int32.toNatClampNeg (x_3 + 1))
        (run L S F d 193 0 [some (vR (2, 0, 0)), some (vI x3)] p2.2).bind fun p4 =>
        if p2.1 = p4.1 then
          run L S F (d + 1) 227 1396 [some (vR (3, 0, 0)), some (vR (0, 0, 0)), some (vR (2, 0, 0)), some (vI x_3)] p4.2
        else
          some (vp_nar .boolean 0, p4.2)
      else none
    else none := by
  unfold run
  rw [DF_succ]
  rfl
set_option maxHeartbeats 4000000 in
set_option maxRecDepth 100000 in
theorem e227_827 {L : Nat} {S : Ad → Nat → Int32} {F d : Nat} {μ : Mm} {x_3 : Int32} : run L S (F + 1) (d + 1) 227 827 [some (vR (3, 0, 0)), some (vR (0, 0, 0)), some (vR (2, 0, 0)), some (vI x_3)] μ =
    (run L S F d 103 0 [some (vR (0, 0, 0)), none, none, none, none] μ).bind fun p1 =>
    (run L S F d 194 0 [some (vR (2, 0, 0)), none, none] p1.2).bind fun p2 =>
    if p1.1 = p2.1 then
      run L S F (d + 1) 227 1396 [some (vR (3, 0, 0)), some (vR (0, 0, 0)), some (vR (2, 0, 0)), some (vI x_3)] p2.2
    else
      some (vp_nar .boolean 0, p2.2) := by
  unfold run
  rw [DF_succ]
  rfl
set_option maxHeartbeats 4000000 in
set_option maxRecDepth 100000 in
theorem e227_840 {L : Nat} {S : Ad → Nat → Int32} {F d : Nat} {μ : Mm} {x_3 : Int32} : run L S (F + 1) (d + 1) 227 840 [some (vR (3, 0, 0)), some (vR (0, 0, 0)), some (vR (2, 0, 0)), some (vI x_3)] μ =
    bif inb (x_3 + 1) L then
      let x1 : Int32 := S (3, 0, 0) (Int32.toNatClampNeg (x_3 + 1))
      (run L S F d 104 0 [some (vR (0, 0, 0)), some (vI x1), none] μ).bind fun p2 =>
      bif inb (x_3 + 1) L then
        let x3 : Int32 := S (3, 0, 0) (Int32.toNatClampNeg (x_3 + 1))
        (run L S F d 195 0 [some (vR (2, 0, 0)), some (vI x3), none, none] p2.2).bind fun p4 =>
        if p2.1 = p4.1 then
          run L S F (d + 1) 227 1396 [some (vR (3, 0, 0)), some (vR (0, 0, 0)), some (vR (2, 0, 0)), some (vI x_3)] p4.2
        else
          some (vp_nar .boolean 0, p4.2)
      else none
    else none := by
  unfold run
  rw [DF_succ]
  rfl
set_option maxHeartbeats 4000000 in
set_option maxRecDepth 100000 in
theorem e227_863 {L : Nat} {S : Ad → Nat → Int32} {F d : Nat} {μ : Mm} {x_3 : Int32} : run L S (F + 1) (d + 1) 227 863 [some (vR (3, 0, 0)), some (vR (0, 0, 0)), some (vR (2, 0, 0)), some (vI x_3)] μ =
    bif inb (x_3 + 1) L then
      let x1 : Int32 := S (3, 0, 0) (Int32.toNatClampNeg (x_3 + 1))
      (run L S F d 105 0 [some (vR (0, 0, 0)), some (vI x1)] μ).bind fun p2 =>
      bif inb (x_3 + 1) L then
        let x3 : Int32 := S (3, 0, 0) (Int32.toNatClampNeg (x_3 + 1))
        (run L S F d 196 0 [some (vR (2, 0, 0)), some (vI x3)] p2.2).bind fun p4 =>
        if p2.1 = p4.1 then
          run L S F (d + 1) 227 1396 [some (vR (3, 0, 0)), some (vR (0, 0, 0)), some (vR (2, 0, 0)), some (vI x_3)] p4.2
        else
          some (vp_nar .boolean 0, p4.2)
      else none
    else none := by
  unfold run
  rw [DF_succ]
  rfl
set_option maxHeartbeats 4000000 in
set_option maxRecDepth 100000 in
theorem e227_886 {L : Nat} {S : Ad → Nat → Int32} {F d : Nat} {μ : Mm} {x_3 : Int32} : run L S (F + 1) (d + 1) 227 886 [some (vR (3, 0, 0)), some (vR (0, 0, 0)), some (vR (2, 0, 0)), some (vI x_3)] μ =
    bif inb (x_3 + 1) L then
      let x1 : Int32 := S (3, 0, 0) (Int32.toNatClampNeg (x_3 + 1))
      (run L S F d 106 0 [some (vR (0, 0, 0)), some (vI x1)] μ).bind fun p2 =>
      bif inb (x_3 + 1) L then
        let x3 : Int32 := S (3, 0, 0) (Int32.toNatClampNeg (x_3 + 1))
        (run L S F d 197 0 [some (vR (2, 0, 0)), some (vI x3)] p2.2).bind fun p4 =>
        if p2.1 = p4.1 then
          run L S F (d + 1) 227 1396 [some (vR (3, 0, 0)), some (vR (0, 0, 0)), some (vR (2, 0, 0)), some (vI x_3)] p4.2
        else
          some (vp_nar .boolean 0, p4.2)
      else none
    else none := by
  unfold run
  rw [DF_succ]
  rfl
set_option maxHeartbeats 4000000 in
set_option maxRecDepth 100000 in
theorem e227_909 {L : Nat} {S : Ad → Nat → Int32} {F d : Nat} {μ : Mm} {x_3 : Int32} : run L S (F + 1) (d + 1) 227 909 [some (vR (3, 0, 0)), some (vR (0, 0, 0)), some (vR (2, 0, 0)), some (vI x_3)] μ =
    (run L S F d 107 0 [some (vR (0, 0, 0))] μ).bind fun p1 =>
    (run L S F d 199 0 [some (vR (2, 0, 0))] p1.2).bind fun p2 =>
    if p1.1 = p2.1 then
      run L S F (d + 1) 227 1396 [some (vR (3, 0, 0)), some (vR (0, 0, 0)), some (vR (2, 0, 0)), some (vI x_3)] p2.2
    else
      some (vp_nar .boolean 0, p2.2) := by
  unfold run
  rw [DF_succ]
  rfl
set_option maxHeartbeats 4000000 in
set_option maxRecDepth 100000 in
theorem e227_922 {L : Nat} {S : Ad → Nat → Int32} {F d : Nat} {μ : Mm} {x_3 : Int32} : run L S (F + 1) (d + 1) 227 922 [some (vR (3, 0, 0)), some (vR (0, 0, 0)), some (vR (2, 0, 0)), some (vI x_3)] μ =
    (run L S F d 108 0 [some (vR (0, 0, 0))] μ).bind fun p1 =>
    (run L S F d 200 0 [some (vR (2, 0, 0))] p1.2).bind fun p2 =>
    if p1.1 = p2.1 then
      run L S F (d + 1) 227 1396 [some (vR (3, 0, 0)), some (vR (0, 0, 0)), some (vR (2, 0, 0)), some (vI x_3)] p2.2
    else
      some (vp_nar .boolean 0, p2.2) := by
  unfold run
  rw [DF_succ]
  rfl
set_option maxHeartbeats 4000000 in
set_option maxRecDepth 100000 in
theorem e227_935 {L : Nat} {S : Ad → Nat → Int32} {F d : Nat} {μ : Mm} {x_3 : Int32} : run L S (F + 1) (d + 1) 227 935 [some (vR (3, 0, 0)), some (vR (0, 0, 0)), some (vR (2, 0, 0)), some (vI x_3)] μ =
    bif inb (x_3 + 1) L then
      let x1 : Int32 := S (3, 0, 0) (Int32.toNatClampNeg (x_3 + 1))
      bif inb (x_3 + 2) L then
        let x2 : Int32 := S (3, 0, 0) (Int32.toNatClampNeg (x_3 + 2))
        bif inb (x_3 + 3) L then
          let x3 : Int32 := S (3, 0, 0) (Int32.toNatClampNeg (x_3 + 3))
          (run L S F d 109 0 [some (vR (0, 0, 0)), some (vI x1), some (vI x2), some (vI x3)] μ).bind fun p4 =>
          bif inb (x_3 + 1) L then
            let x5 : Int32 := S (3, 0, 0) (Int32.toNatClampNeg (x_3 + 1))
            bif inb (x_3 + 2) L then
              let x6 : Int32 := S (3, 0, 0) (Int32.toNatClampNeg (x_3 + 2))
              bif inb (x_3 + 3) L then
                let x7 : Int32 := S (3, 0, 0) (Int32.toNatClampNeg (x_3 + 3))
                (run L S F d 205 0 [some (vR (2, 0, 0)), some (vI x5), some (vI x6), some (vI x7), none] p4.2).bind fun p8 =>
                if p4.1 = p8.1 then
                  run L S F (d + 1) 227 1396 [some (vR (3, 0, 0)), some (vR (0, 0, 0)), some (vR (2, 0, 0)), some (vI x_3)] p8.2
                else
                  some (vp_nar .boolean 0, p8.2)
              else none
            else none
          else none
        else none
      else none
    else none := by
  unfold run
  rw [DF_succ]
  rfl
set_option maxHeartbeats 4000000 in
set_option maxRecDepth 100000 in
theorem e227_978 {L : Nat} {S : Ad → Nat → Int32} {F d : Nat} {μ : Mm} {x_3 : Int32} : run L S (F + 1) (d + 1) 227 978 [some (vR (3, 0, 0)), some (vR (0, 0, 0)), some (vR (2, 0, 0)), some (vI x_3)] μ =
    bif inb (x_3 + 1) L then
      let x1 : Int32 := S (3, 0, 0) (Int32.toNatClampNeg (x_3 + 1))
      bif inb (x_3 + 2) L then
        let x2 : Int32 := S (3, 0, 0) (Int32.toNatClampNeg (x_3 + 2))
        (run L S F d 110 0 [some (vR (0, 0, 0)), some (vI x1), some (vI x2), none] μ).bind fun p3 =>
        bif inb (x_3 + 1) L then
          let x4 : Int32 := S (3, 0, 0) (Int32.toNatClampNeg (x_3 + 1))
          bif inb (x_3 + 2) L then
            let x5 : Int32 := S (3, 0, 0) (Int32.toNatClampNeg (x_3 + 2))
            (run L S F d 207 0 [some (vR (2, 0, 0)), some (vI x4), some (vI x5), none] p3.2).bind fun p6 =>
            if p3.1 = p6.1 then
              run L S F (d + 1) 227 1396 [some (vR (3, 0, 0)), some (vR (0, 0, 0)), some (vR (2, 0, 0)), some (vI x_3)] p6.2
            else
              some (vp_nar .boolean 0, p6.2)
          else none
        else none
      else none
    else none := by
  unfold run
  rw [DF_succ]
  rfl
set_option maxHeartbeats 4000000 in
set_option maxRecDepth 100000 in
theorem e227_1011 {L : Nat} {S : Ad → Nat → Int32} {F d : Nat} {μ : Mm} {x_3 : Int32} : run L S (F + 1) (d + 1) 227 1011 [some (vR (3, 0, 0)), some (vR (0, 0, 0)), some (vR (2, 0, 0)), some (vI x_3)] μ =
    bif inb (x_3 + 1) L then
      let x1 : Int32 := S (3, 0, 0) (Int32.toNatClampNeg (x_3 + 1))
      (run L S F d 111 0 [some (vR (0, 0, 0)), some (vI x1)] μ).bind fun p2 =>
      bif inb (x_3 + 1) L then
        let x3 : Int32 := S (3, 0, 0) (Int32.toNatClampNeg (x_3 + 1))
        (run L S F d 209 0 [some (vR (2, 0, 0)), some (vI x3)] p2.2).bind fun p4 =>
        if p2.1 = p4.1 then
          run L S F (d + 1) 227 1396 [some (vR (3, 0, 0)), some (vR (0, 0, 0)), some (vR (2, 0, 0)), some (vI x_3)] p4.2
        else
          some (vp_nar .boolean 0, p4.2)
      else none
    else none := by
  unfold run
  rw [DF_succ]
  rfl
set_option maxHeartbeats 4000000 in
set_option maxRecDepth 100000 in
theorem e227_1034 {L : Nat} {S : Ad → Nat → Int32} {F d : Nat} {μ : Mm} {x_3 : Int32} : run L S (F + 1) (d + 1) 227 1034 [some (vR (3, 0, 0)), some (vR (0, 0, 0)), some (vR (2, 0, 0)), some (vI x_3)] μ =
    bif inb (x_3 + 1) L then
      let x1 : Int32 := S (3, 0, 0) (Int32.toNatClampNeg (x_3 + 1))
      bif inb (x_3 + 2) L then
        let x2 : Int32 := S (3, 0, 0) (Int32.toNatClampNeg (x_3 + 2))
        (run L S F d 112 0 [some (vR (0, 0, 0)), some (vI x1), some (vI x2)] μ).bind fun p3 =>
        bif inb (x_3 + 1) L then
          let x4 : Int32 := S (3, 0, 0) (Int32.toNatClampNeg (x_3 + 1))
          bif inb (x_3 + 2) L then
            let x5 : Int32 := S (3, 0, 0) (Int32.toNatClampNeg (x_3 + 2))
            (run L S F d 210 0 [some (vR (2, 0, 0)), some (vI x4), some (vI x5), none, none] p3.2).bind fun p6 =>
            if p3.1 = p6.1 then
              run L S F (d + 1) 227 1396 [some (vR (3, 0, 0)), some (vR (0, 0, 0)), some (vR (2, 0, 0)), some (vI x_3)] p6.2
            else
              some (vp_nar .boolean 0, p6.2)
          else none
        else none
      else none
    else none := by
  unfold run
  rw [DF_succ]
  rfl
set_option maxHeartbeats 4000000 in
set_option maxRecDepth 100000 in
theorem e227_1067 {L : Nat} {S : Ad → Nat → Int32} {F d : Nat} {μ : Mm} {x_3 : Int32} : run L S (F + 1) (d + 1) 227 1067 [some (vR (3, 0, 0)), some (vR (0, 0, 0)), some (vR (2, 0, 0)), some (vI x_3)] μ =
    (run L S F d 113 0 [some (vR (0, 0, 0)), none] μ).bind fun p1 =>
    (run L S F d 211 0 [some (vR (2, 0, 0)), none] p1.2).bind fun p2 =>
    if p1.1 = p2.1 then
      run L S F (d + 1) 227 1396 [some (vR (3, 0, 0)), some (vR (0, 0, 0)), some (vR (2, 0, 0)), some (vI x_3)] p2.2
    else
      some (vp_nar .boolean 0, p2.2) := by
  unfold run
  rw [DF_succ]
  rfl
set_option maxHeartbeats 4000000 in
set_option maxRecDepth 100000 in
theorem e227_1080 {L : Nat} {S : Ad → Nat → Int32} {F d : Nat} {μ : Mm} {x_3 : Int32} : run L S (F + 1) (d + 1) 227 1080 [some (vR (3, 0, 0)), some (vR (0, 0, 0)), some (vR (2, 0, 0)), some (vI x_3)] μ =
    bif inb (x_3 + 1) L then
      let x1 : Int32 := S (3, 0, 0) (Int32.toNatClampNeg (x_3 + 1))
      (run L S F d 114 0 [some (vR (0, 0, 0)), some (vI x1), none] μ).bind fun p2 =>
      bif inb (x_3 + 1) L then
        let x3 : Int32 := S (3, 0, 0) (Int32.toNatClampNeg (x_3 + 1))
        (run L S F d 218 0 [some (vR (2, 0, 0)), some (vI x3), none] p2.2).bind fun p4 =>
        if p2.1 = p4.1 then
          run L S F (d + 1) 227 1396 [some (vR (3, 0, 0)), some (vR (0, 0, 0)), some (vR (2, 0, 0)), some (vI x_3)] p4.2
        else
          some (vp_nar .boolean 0, p4.2)
      else none
    else none := by
  unfold run
  rw [DF_succ]
  rfl
set_option maxHeartbeats 4000000 in
set_option maxRecDepth 100000 in
theorem e227_1103 {L : Nat} {S : Ad → Nat → Int32} {F d : Nat} {μ : Mm} {x_3 : Int32} : run L S (F + 1) (d + 1) 227 1103 [some (vR (3, 0, 0)), some (vR (0, 0, 0)), some (vR (2, 0, 0)), some (vI x_3)] μ =
    bif inb (x_3 + 1) L then
      let x1 : Int32 := S (3, 0, 0) (Int32.toNatClampNeg (x_3 + 1))
      bif inb (x_3 + 2) L then
        let x2 : Int32 := S (3, 0, 0) (Int32.toNatClampNeg (x_3 + 2))
        (run L S F d 115 0 [some (vR (0, 0, 0)), some (vI x1), some (vI x2), none, none, none, none, none, none] μ).bind fun p3 =>
        bif inb (x_3 + 1) L then
          let x4 : Int32 := S (3, 0, 0) (Int32.toNatClampNeg (x_3 + 1))
          bif inb (x_3 + 2) L then
            let x5 : Int32 := S (3, 0, 0) (Int32.toNatClampNeg (x_3 + 2))
            (run L S F d 222 0 [some (vR (2, 0, 0)), some (vI x4), some (vI x5), none, none, none, none] p3.2).bind fun p6 =>
            if p3.1 = p6.1 then
              run L S F (d + 1) 227 1396 [some (vR (3, 0, 0)), some (vR (0, 0, 0)), some (vR (2, 0, 0)), some (vI x_3)] p6.2
            else
              some (vp_nar .boolean 0, p6.2)
          else none
        else none
      else none
    else none := by
  unfold run
  rw [DF_succ]
  rfl
set_option maxHeartbeats 4000000 in
set_option maxRecDepth 100000 in
theorem e227_1136 {L : Nat} {S : Ad → Nat → Int32} {F d : Nat} {μ : Mm} {x_3 : Int32} : run L S (F + 1) (d + 1) 227 1136 [some (vR (3, 0, 0)), some (vR (0, 0, 0)), some (vR (2, 0, 0)), some (vI x_3)] μ =
    bif inb (x_3 + 1) L then
      let x1 : Int32 := S (3, 0, 0) (Int32.toNatClampNeg (x_3 + 1))
      (run L S F d 116 0 [some (vR (0, 0, 0)), some (vI x1), none] μ).bind fun p2 =>
      bif inb (x_3 + 1) L then
        let x3 : Int32 := S (3, 0, 0) (Int32.toNatClampNeg (x_3 + 1))
        (run L S F d 181 0 [some (vR (2, 0, 0)), some (vI x3), none] p2.2).bind fun p4 =>
        if p2.1 = p4.1 then
          run L S F (d + 1) 227 1396 [some (vR (3, 0, 0)), some (vR (0, 0, 0)), some (vR (2, 0, 0)), some (vI x_3)] p4.2
        else
          some (vp_nar .boolean 0, p4.2)
      else none
    else none := by
  unfold run
  rw [DF_succ]
  rfl
set_option maxHeartbeats 4000000 in
set_option maxRecDepth 100000 in
theorem e227_1159 {L : Nat} {S : Ad → Nat → Int32} {F d : Nat} {μ : Mm} {x_3 : Int32} : run L S (F + 1) (d + 1) 227 1159 [some (vR (3, 0, 0)), some (vR (0, 0, 0)), some (vR (2, 0, 0)), some (vI x_3)] μ =
    bif inb (x_3 + 1) L then
      let x1 : Int32 := S (3, 0, 0) (Int32.toNatClampNeg (x_3 + 1))
      bif inb (x_3 + 2) L then
        let x2 : Int32 := S (3, 0, 0) (Int32.toNatClampNeg (x_3 + 2))
        (run L S F d 117 0 [some (vR (0, 0, 0)), some (vI x1), some (vI x2)] μ).bind fun p3 =>
        bif inb (x_3 + 1) L then
          let x4 : Int32 := S (3, 0, 0) (Int32.toNatClampNeg (x_3 + 1))
          bif inb (x_3 + 2) L then
            let x5 : Int32 := S (3, 0, 0) (Int32.toNatClampNeg (x_3 + 2))
            (run L S F d 214 0 [some (vR (2, 0, 0)), some (vI x4), some (vI x5)] p3.2).bind fun p6 =>
            if p3.1 = p6.1 then
              run L S F (d + 1) 227 1396 [some (vR (3, 0, 0)), some (vR (0, 0, 0)), some (vR (2, 0, 0)), some (vI x_3)] p6.2
            else
              some (vp_nar .boolean 0, p6.2)
          else none
        else none
      else none
    else none := by
  unfold run
  rw [DF_succ]
  rfl
set_option maxHeartbeats 4000000 in
set_option maxRecDepth 100000 in
theorem e227_1192 {L : Nat} {S : Ad → Nat → Int32} {F d : Nat} {μ : Mm} {x_3 : Int32} : run L S (F + 1) (d + 1) 227 1192 [some (vR (3, 0, 0)), some (vR (0, 0, 0)), some (vR (2, 0, 0)), some (vI x_3)] μ =
    bif inb (x_3 + 1) L then
      let x1 : Int32 := S (3, 0, 0) (Int32.toNatClampNeg (x_3 + 1))
      (run L S F d 118 0 [some (vR (0, 0, 0)), some (vI x1), none] μ).bind fun p2 =>
      bif inb (x_3 + 1) L then
        let x3 : Int32 := S (3, 0, 0) (Int32.toNatClampNeg (x_3 + 1))
        (run L S F d 216 0 [some (vR (2, 0, 0)), some (vI x3), none] p2.2).bind fun p4 =>
        if p2.1 = p4.1 then
          run L S F (d + 1) 227 1396 [some (vR (3, 0, 0)), some (vR (0, 0, 0)), some (vR (2, 0, 0)), some (vI x_3)] p4.2
        else
          some (vp_nar .boolean 0, p4.2)
      else none
    else none := by
  unfold run
  rw [DF_succ]
  rfl
set_option maxHeartbeats 4000000 in
set_option maxRecDepth 100000 in
theorem e227_1215 {L : Nat} {S : Ad → Nat → Int32} {F d : Nat} {μ : Mm} {x_3 : Int32} : run L S (F + 1) (d + 1) 227 1215 [some (vR (3, 0, 0)), some (vR (0, 0, 0)), some (vR (2, 0, 0)), some (vI x_3)] μ =
    bif inb (x_3 + 1) L then
      let x1 : Int32 := S (3, 0, 0) (Int32.toNatClampNeg (x_3 + 1))
      (run L S F d 119 0 [some (vR (0, 0, 0)), some (vI x1), none] μ).bind fun p2 =>
      bif inb (x_3 + 1) L then
        let x3 : Int32 := S (3, 0, 0) (Int32.toNatClampNeg (x_3 + 1))
        (run L S F d 217 0 [some (vR (2, 0, 0)), some (vI x3), none] p2.2).bind fun p4 =>
        if p2.1 = p4.1 then
          run L S F (d + 1) 227 1396 [some (vR (3, 0, 0)), some (vR (0, 0, 0)), some (vR (2, 0, 0)), some (vI x_3)] p4.2
        else
          some (vp_nar .boolean 0, p4.2)
      else none
    else none := by
  unfold run
  rw [DF_succ]
  rfl
set_option maxHeartbeats 4000000 in
set_option maxRecDepth 100000 in
theorem e227_1238 {L : Nat} {S : Ad → Nat → Int32} {F d : Nat} {μ : Mm} {x_3 : Int32} : run L S (F + 1) (d + 1) 227 1238 [some (vR (3, 0, 0)), some (vR (0, 0, 0)), some (vR (2, 0, 0)), some (vI x_3)] μ =
    bif inb (x_3 + 1) L then
      let x1 : Int32 := S (3, 0, 0) (Int32.toNatClampNeg (x_3 + 1))
      (run L S F d 120 0 [some (vR (0, 0, 0)), some (vI x1)] μ).bind fun p2 =>
      bif inb (x_3 + 1) L then
        let x3 : Int32 := S (3, 0, 0) (Int32.toNatClampNeg (x_3 + 1))
        (run L S F d 219 0 [some (vR (2, 0, 0)), some (vI x3), none, none, none, none, none] p2.2).bind fun p4 =>
        if p2.1 = p4.1 then
          run L S F (d + 1) 227 1396 [some (vR (3, 0, 0)), some (vR (0, 0, 0)), some (vR (2, 0, 0)), some (vI x_3)] p4.2
        else
          some (vp_nar .boolean 0, p4.2)
      else none
    else none := by
  unfold run
  rw [DF_succ]
  rfl
set_option maxHeartbeats 4000000 in
set_option maxRecDepth 100000 in
theorem e227_1261 {L : Nat} {S : Ad → Nat → Int32} {F d : Nat} {μ : Mm} {x_3 : Int32} : run L S (F + 1) (d + 1) 227 1261 [some (vR (3, 0, 0)), some (vR (0, 0, 0)), some (vR (2, 0, 0)), some (vI x_3)] μ =
    bif inb (x_3 + 1) L then
      let x1 : Int32 := S (3, 0, 0) (Int32.toNatClampNeg (x_3 + 1))
      bif inb (x_3 + 2) L then
        let x2 : Int32 := S (3, 0, 0) (Int32.toNatClampNeg (x_3 + 2))
        bif inb (x_3 + 3) L then
          let x3 : Int32 := S (3, 0, 0) (Int32.toNatClampNeg (x_3 + 3))
          (run L S F d 121 0 [some (vR (0, 0, 0)), some (vI x1), some (vI x2), some (vI x3)] μ).bind fun p4 =>
          bif inb (x_3 + 1) L then
            let x5 : Int32 := S (3, 0, 0) (Int32.toNatClampNeg (x_3 + 1))
            bif inb (x_3 + 2) L then
              let x6 : Int32 := S (3, 0, 0) (Int32.toNatClampNeg (x_3 + 2))
              bif inb (x_3 + 3) L then
                let x7 : Int32 := S (3, 0, 0) (Int32.toNatClampNeg (x_3 + 3))
                (run L S F d 220 0 [some (vR (2, 0, 0)), some (vI x5), some (vI x6), some (vI x7)] p4.2).bind fun p8 =>
                if p4.1 = p8.1 then
                  run L S F (d + 1) 227 1396 [some (vR (3, 0, 0)), some (vR (0, 0, 0)), some (vR (2, 0, 0)), some (vI x_3)] p8.2
                else
                  some (vp_nar .boolean 0, p8.2)
              else none
            else none
          else none
        else none
      else none
    else none := by
  unfold run
  rw [DF_succ]
  rfl
set_option maxHeartbeats 4000000 in
set_option maxRecDepth 100000 in
theorem e227_1304 {L : Nat} {S : Ad → Nat → Int32} {F d : Nat} {μ : Mm} {x_3 : Int32} : run L S (F + 1) (d + 1) 227 1304 [some (vR (3, 0, 0)), some (vR (0, 0, 0)), some (vR (2, 0, 0)), some (vI x_3)] μ =
    bif inb (x_3 + 1) L then
      let x1 : Int32 := S (3, 0, 0) (Int32.toNatClampNeg (x_3 + 1))
      (run L S F d 123 0 [some (vR (0, 0, 0)), some (vI x1)] μ).bind fun p2 =>
      bif inb (x_3 + 1) L then
        let x3 : Int32 := S (3, 0, 0) (Int32.toNatClampNeg (x_3 + 1))
        (run L S F d 223 0 [some (vR (2, 0, 0)), some (vI x3)] p2.2).bind fun p4 =>
        if p2.1 = p4.1 then
          run L S F (d + 1) 227 1396 [some (vR (3, 0, 0)), some (vR (0, 0, 0)), some (vR (2, 0, 0)), some (vI x_3)] p4.2
        else
          some (vp_nar .boolean 0, p4.2)
      else none
    else none := by
  unfold run
  rw [DF_succ]
  rfl
set_option maxHeartbeats 4000000 in
set_option maxRecDepth 100000 in
theorem e227_1327 {L : Nat} {S : Ad → Nat → Int32} {F d : Nat} {μ : Mm} {x_3 : Int32} : run L S (F + 1) (d + 1) 227 1327 [some (vR (3, 0, 0)), some (vR (0, 0, 0)), some (vR (2, 0, 0)), some (vI x_3)] μ =
    bif inb (x_3 + 1) L then
      let x1 : Int32 := S (3, 0, 0) (Int32.toNatClampNeg (x_3 + 1))
      (run L S F d 124 0 [some (vR (0, 0, 0)), some (vI x1)] μ).bind fun p2 =>
      bif inb (x_3 + 1) L then
        let x3 : Int32 := S (3, 0, 0) (Int32.toNatClampNeg (x_3 + 1))
        (run L S F d 224 0 [some (vR (2, 0, 0)), some (vI x3)] p2.2).bind fun p4 =>
        if p2.1 = p4.1 then
          run L S F (d + 1) 227 1396 [some (vR (3, 0, 0)), some (vR (0, 0, 0)), some (vR (2, 0, 0)), some (vI x_3)] p4.2
        else
          some (vp_nar .boolean 0, p4.2)
      else none
    else none := by
  unfold run
  rw [DF_succ]
  rfl
set_option maxHeartbeats 4000000 in
set_option maxRecDepth 100000 in
theorem e227_1350 {L : Nat} {S : Ad → Nat → Int32} {F d : Nat} {μ : Mm} {x_3 : Int32} : run L S (F + 1) (d + 1) 227 1350 [some (vR (3, 0, 0)), some (vR (0, 0, 0)), some (vR (2, 0, 0)), some (vI x_3)] μ =
    bif inb (x_3 + 1) L then
      let x1 : Int32 := S (3, 0, 0) (Int32.toNatClampNeg (x_3 + 1))
      (run L S F d 125 0 [some (vR (0, 0, 0)), some (vI x1)] μ).bind fun p2 =>
      bif inb (x_3 + 1) L then
        let x3 : Int32 := S (3, 0, 0) (Int32.toNatClampNeg (x_3 + 1))
        (run L S F d 225 0 [some (vR (2, 0, 0)), some (vI x3)] p2.2).bind fun p4 =>
        if p2.1 = p4.1 then
          run L S F (d + 1) 227 1396 [some (vR (3, 0, 0)), some (vR (0, 0, 0)), some (vR (2, 0, 0)), some (vI x_3)] p4.2
        else
          some (vp_nar .boolean 0, p4.2)
      else none
    else none := by
  unfold run
  rw [DF_succ]
  rfl
set_option maxHeartbeats 4000000 in
set_option maxRecDepth 100000 in
theorem e227_1373 {L : Nat} {S : Ad → Nat → Int32} {F d : Nat} {μ : Mm} {x_3 : Int32} : run L S (F + 1) (d + 1) 227 1373 [some (vR (3, 0, 0)), some (vR (0, 0, 0)), some (vR (2, 0, 0)), some (vI x_3)] μ =
    bif inb (x_3 + 1) L then
      let x1 : Int32 := S (3, 0, 0) (Int32.toNatClampNeg (x_3 + 1))
      (run L S F d 126 0 [some (vR (0, 0, 0)), some (vI x1)] μ).bind fun p2 =>
      bif inb (x_3 + 1) L then
        let x3 : Int32 := S (3, 0, 0) (Int32.toNatClampNeg (x_3 + 1))
        (run L S F d 226 0 [some (vR (2, 0, 0)), some (vI x3)] p2.2).bind fun p4 =>
        if p2.1 = p4.1 then
          run L S F (d + 1) 227 1396 [some (vR (3, 0, 0)), some (vR (0, 0, 0)), some (vR (2, 0, 0)), some (vI x_3)] p4.2
        else
          some (vp_nar .boolean 0, p4.2)
      else none
    else none := by
  unfold run
  rw [DF_succ]
  rfl
set_option maxHeartbeats 4000000 in
set_option maxRecDepth 100000 in
theorem e227_1396 {L : Nat} {S : Ad → Nat → Int32} {F d : Nat} {μ : Mm} {x_3 : Int32} : run L S (F + 1) (d + 1) 227 1396 [some (vR (3, 0, 0)), some (vR (0, 0, 0)), some (vR (2, 0, 0)), some (vI x_3)] μ =
    run L S F (d + 1) 227 18 [some (vR (3, 0, 0)), some (vR (0, 0, 0)), some (vR (2, 0, 0)), some (vI (x_3 + 6))] μ := by
  unfold run
  rw [DF_succ]
  rfl
