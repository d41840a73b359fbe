set_option maxRecDepth 16384 in
theorem rf_o5_0 : (tables_1_5.take 40).all (fun c => su_isCode c || c.before start1.args0 rf_about) = true := by decide +kernel
set_option maxRecDepth 16384 in
theorem rf_o5_1 : (tables_1_5.drop 40).all (fun c => su_isCode c || c.before start1.args0 rf_about) = true := by decide +kernel
theorem rf_o5 : tables_1_5.all (fun c => su_isCode c || c.before start1.args0 rf_about) = true := start1.su_all_split _ 40 tables_1_5 rf_o5_0 (rf_o5_1)
