set_option maxRecDepth 16384 in
theorem rf_o3_0 : (tables_1_3.take 40).all (fun c => su_isCode c || c.before start1.args0 rf_about) = true := by decide +kernel
set_option maxRecDepth 16384 in
theorem rf_o3_1 : ((tables_1_3.drop 40).take 40).all (fun c => su_isCode c || c.before start1.args0 rf_about) = true := by decide +kernel
set_option maxRecDepth 16384 in
theorem rf_o3_2 : (((tables_1_3.drop 40).drop 40).take 40).all (fun c => su_isCode c || c.before start1.args0 rf_about) = true := by decide +kernel
set_option maxRecDepth 16384 in
theorem rf_o3_3 : ((((tables_1_3.drop 40).drop 40).drop 40).take 40).all (fun c => su_isCode c || c.before start1.args0 rf_about) = true := by decide +kernel
set_option maxRecDepth 16384 in
theorem rf_o3_4 : (((((tables_1_3.drop 40).drop 40).drop 40).drop 40).take 40).all (fun c => su_isCode c || c.before start1.args0 rf_about) = true := by decide +kernel
set_option maxRecDepth 16384 in
theorem rf_o3_5 : (((((tables_1_3.drop 40).drop 40).drop 40).drop 40).drop 40).all (fun c => su_isCode c || c.before start1.args0 rf_about) = true := by decide +kernel
theorem rf_o3 : tables_1_3.all (fun c => su_isCode c || c.before start1.args0 rf_about) = true := start1.su_all_split _ 40 tables_1_3 rf_o3_0 (start1.su_all_split _ 40 (tables_1_3.drop 40) rf_o3_1 (start1.su_all_split _ 40 ((tables_1_3.drop 40).drop 40) rf_o3_2 (start1.su_all_split _ 40 (((tables_1_3.drop 40).drop 40).drop 40) rf_o3_3 (start1.su_all_split _ 40 ((((tables_1_3.drop 40).drop 40).drop 40).drop 40) rf_o3_4 (rf_o3_5)))))
