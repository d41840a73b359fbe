set_option maxRecDepth 16384 in
theorem rf_o2_0 : (tables_1_2.take 40).all (fun c => su_isCode c || c.before start1.args0 rf_about) = true := by decide +kernel
set_option maxRecDepth 16384 in
theorem rf_o2_1 : ((tables_1_2.drop 40).take 40).all (fun c => su_isCode c || c.before start1.args0 rf_about) = true := by decide +kernel
set_option maxRecDepth 16384 in
theorem rf_o2_2 : (((tables_1_2.drop 40).drop 40).take 40).all (fun c => su_isCode c || c.before start1.args0 rf_about) = true := by decide +kernel
set_option maxRecDepth 16384 in
theorem rf_o2_3 : ((((tables_1_2.drop 40).drop 40).drop 40).take 40).all (fun c => su_isCode c || c.before start1.args0 rf_about) = true := by decide +kernel
set_option maxRecDepth 16384 in
theorem rf_o2_4 : (((((tables_1_2.drop 40).drop 40).drop 40).drop 40).take 40).all (fun c => su_isCode c || c.before start1.args0 rf_about) = true := by decide +kernel
set_option maxRecDepth 16384 in
theorem rf_o2_5 : (((((tables_1_2.drop 40).drop 40).drop 40).drop 40).drop 40).all (fun c => su_isCode c || c.before start1.args0 rf_about) = true := by decide +kernel
theorem rf_o2 : tables_1_2.all (fun c => su_isCode c || c.before start1.args0 rf_about) = true := start1.su_all_split _ 40 tables_1_2 rf_o2_0 (start1.su_all_split _ 40 (tables_1_2.drop 40) rf_o2_1 (start1.su_all_split _ 40 ((tables_1_2.drop 40).drop 40) rf_o2_2 (start1.su_all_split _ 40 (((tables_1_2.drop 40).drop 40).drop 40) rf_o2_3 (start1.su_all_split _ 40 ((((tables_1_2.drop 40).drop 40).drop 40).drop 40) rf_o2_4 (rf_o2_5)))))
