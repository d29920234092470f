/-! the kernel's runs -/
set_option maxRecDepth 100000 in
theorem am_R5_ok : am_ok0 am_R5 = true := by decide +kernel
set_option maxRecDepth 100000 in
theorem am_H5_len : am_H5.length = 88 := by decide +kernel
