/-! the law's code rows are the class file's own, piece 5 -/
set_option maxRecDepth 100000
theorem KL1080 : (List.range 54).all (fun k => PL (1080 + k)) = true := by decide +kernel
theorem KL1134 : (List.range 54).all (fun k => PL (1134 + k)) = true := by decide +kernel
theorem KL1188 : (List.range 54).all (fun k => PL (1188 + k)) = true := by decide +kernel
theorem KL1242 : (List.range 54).all (fun k => PL (1242 + k)) = true := by decide +kernel
