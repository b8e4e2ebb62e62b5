/-! the law's code rows are the class file's own, piece 1 -/
set_option maxRecDepth 100000
theorem KL216 : (List.range 54).all (fun k => PL (216 + k)) = true := by decide +kernel
theorem KL270 : (List.range 54).all (fun k => PL (270 + k)) = true := by decide +kernel
theorem KL324 : (List.range 54).all (fun k => PL (324 + k)) = true := by decide +kernel
theorem KL378 : (List.range 54).all (fun k => PL (378 + k)) = true := by decide +kernel
