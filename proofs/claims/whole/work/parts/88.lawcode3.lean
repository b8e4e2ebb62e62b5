/-! the law's code rows are the class file's own, piece 3 -/
set_option maxRecDepth 100000
theorem KL648 : (List.range 54).all (fun k => PL (648 + k)) = true := by decide +kernel
theorem KL702 : (List.range 54).all (fun k => PL (702 + k)) = true := by decide +kernel
theorem KL756 : (List.range 54).all (fun k => PL (756 + k)) = true := by decide +kernel
theorem KL810 : (List.range 54).all (fun k => PL (810 + k)) = true := by decide +kernel
