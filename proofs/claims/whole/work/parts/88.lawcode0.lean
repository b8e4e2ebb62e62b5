/-! the law's code rows are the class file's own, piece 0 -/
set_option maxRecDepth 100000
def PL (pc : Nat) : Bool := chkI "RowGuardLaw" 2 code pc (C227 pc)
theorem KL0 : (List.range 54).all (fun k => PL (0 + k)) = true := by decide +kernel
theorem KL54 : (List.range 54).all (fun k => PL (54 + k)) = true := by decide +kernel
theorem KL108 : (List.range 54).all (fun k => PL (108 + k)) = true := by decide +kernel
theorem KL162 : (List.range 54).all (fun k => PL (162 + k)) = true := by decide +kernel
