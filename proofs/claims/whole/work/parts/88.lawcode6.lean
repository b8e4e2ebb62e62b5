/-! the law's code rows are the class file's own, piece 6 -/
set_option maxRecDepth 100000
theorem KL1296 : (List.range 54).all (fun k => PL (1296 + k)) = true := by decide +kernel
theorem KL1350 : (List.range 54).all (fun k => PL (1350 + k)) = true := by decide +kernel
