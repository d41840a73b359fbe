set_option maxRecDepth 16384 in
theorem rf_o4_0 : (tables_1_4.take 40).all (fun c => su_isCode c || c.before start1.args0 rf_about) = true := by decide +kernel
set_option maxRecDepth 16384 in
theorem rf_o4_1 : ((tables_1_4.drop 40).take 40).all (fun c => su_isCode c || c.before start1.args0 rf_about) = true := by decide +kernel
set_option maxRecDepth 16384 in
theorem rf_o4_2 : (((tables_1_4.drop 40).drop 40).take 40).all (fun c => su_isCode c || c.before start1.args0 rf_about) = true := by decide +kernel
set_option maxRecDepth 16384 in
theorem rf_o4_3 : ((((tables_1_4.drop 40).drop 40).drop 40).take 40).all (fun c => su_isCode c || c.before start1.args0 rf_about) = true := by decide +kernel
set_option maxRecDepth 16384 in
theorem rf_o4_4 : (((((tables_1_4.drop 40).drop 40).drop 40).drop 40).take 40).all (fun c => su_isCode c || c.before start1.args0 rf_about) = true := by decide +kernel
set_option maxRecDepth 16384 in
theorem rf_o4_5 : (((((tables_1_4.drop 40).drop 40).drop 40).drop 40).drop 40).all (fun c => su_isCode c || c.before start1.args0 rf_about) = true := by decide +kernel
theorem rf_o4 : tables_1_4.all (fun c => su_isCode c || c.before start1.args0 rf_about) = true := start1.su_all_split _ 40 tables_1_4 rf_o4_0 (start1.su_all_split _ 40 (tables_1_4.drop 40) rf_o4_1 (start1.su_all_split _ 40 ((tables_1_4.drop 40).drop 40) rf_o4_2 (start1.su_all_split _ 40 (((tables_1_4.drop 40).drop 40).drop 40) rf_o4_3 (start1.su_all_split _ 40 ((((tables_1_4.drop 40).drop 40).drop 40).drop 40) rf_o4_4 (rf_o4_5)))))
