set_option maxRecDepth 16384 in
theorem rf_ends : rf_chk start1.p0.tables start1.e0 3000 rf_about = true := by decide +kernel
