/-! the small machine with all cells; the script is L ints -/
def LAYS (L : Nat) (q : Ad) : Nat × Nat := match q.1 with
  | 3 => match q.2.1.val with
    | 0 => match q.2.2 with
      | 0 => (110, L)
      | 1 => (110, 17)
      | 2 => (110, 17)
      | 3 => (110, 17)
      | _ => (999, 0)
    | _ => (999, 0)
  | _ => LAY q
def run (L : Nat) (S : Ad → Nat → Int32) (F d k pc : Nat) (l : Lc) (μ : Mm) : Option Rz := DF CODE (LAYS L, S) F d k pc l μ
abbrev ushr (x y : Int32) : Int32 := (x.toUInt32 >>> (y.toUInt32 &&& Int32.toUInt32 31)).toInt32
