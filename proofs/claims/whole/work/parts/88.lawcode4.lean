/-! the law's code rows are the class file's own, piece 4 -/
set_option maxRecDepth 100000
theorem KL864 : (List.range 54).all (fun k => PL (864 + k)) = true := by decide +kernel
theorem KL918 : (List.range 54).all (fun k => PL (918 + k)) = true := by decide +kernel
theorem KL972 : (List.range 54).all (fun k => PL (972 + k)) = true := by decide +kernel
theorem KL1026 : (List.range 54).all (fun k => PL (1026 + k)) = true := by decide +kernel
