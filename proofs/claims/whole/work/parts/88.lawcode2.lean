/-! the law's code rows are the class file's own, piece 2 -/
set_option maxRecDepth 100000
theorem KL432 : (List.range 54).all (fun k => PL (432 + k)) = true := by decide +kernel
theorem KL486 : (List.range 54).all (fun k => PL (486 + k)) = true := by decide +kernel
theorem KL540 : (List.range 54).all (fun k => PL (540 + k)) = true := by decide +kernel
theorem KL594 : (List.range 54).all (fun k => PL (594 + k)) = true := by decide +kernel
