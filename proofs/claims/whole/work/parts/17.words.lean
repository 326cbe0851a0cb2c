set_option maxRecDepth 16384 in
theorem fall_o_4_0 : (tables_1_4.take 40).all (fun c => su_isCode c || c.before start1.args0 fall_s) = true := by decide +kernel
set_option maxRecDepth 16384 in
theorem fall_o_4_1 : ((tables_1_4.drop 40).take 40).all (fun c => su_isCode c || c.before start1.args0 fall_s) = true := by decide +kernel
set_option maxRecDepth 16384 in
theorem fall_o_4_2 : (((tables_1_4.drop 40).drop 40).take 40).all (fun c => su_isCode c || c.before start1.args0 fall_s) = true := by decide +kernel
set_option maxRecDepth 16384 in
theorem fall_o_4_3 : ((((tables_1_4.drop 40).drop 40).drop 40).take 38).all (fun c => su_isCode c || c.before start1.args0 fall_s) = true := by decide +kernel
set_option maxRecDepth 16384 in
theorem fall_o_4_4 : (((((tables_1_4.drop 40).drop 40).drop 40).drop 38).take 38).all (fun c => su_isCode c || c.before start1.args0 fall_s) = true := by decide +kernel
set_option maxRecDepth 16384 in
theorem fall_o_4_5 : ((((((tables_1_4.drop 40).drop 40).drop 40).drop 38).drop 38).take 38).all (fun c => su_isCode c || c.before start1.args0 fall_s) = true := by decide +kernel
set_option maxRecDepth 16384 in
theorem fall_o_4_6 : ((((((tables_1_4.drop 40).drop 40).drop 40).drop 38).drop 38).drop 38).all (fun c => su_isCode c || c.before start1.args0 fall_s) = true := by decide +kernel
theorem fall_o_4 : tables_1_4.all (fun c => su_isCode c || c.before start1.args0 fall_s) = true := fall_join (fun c => su_isCode c || c.before start1.args0 fall_s) 40 tables_1_4 fall_o_4_0 (fall_join (fun c => su_isCode c || c.before start1.args0 fall_s) 40 (tables_1_4.drop 40) fall_o_4_1 (fall_join (fun c => su_isCode c || c.before start1.args0 fall_s) 40 ((tables_1_4.drop 40).drop 40) fall_o_4_2 (fall_join (fun c => su_isCode c || c.before start1.args0 fall_s) 38 (((tables_1_4.drop 40).drop 40).drop 40) fall_o_4_3 (fall_join (fun c => su_isCode c || c.before start1.args0 fall_s) 38 ((((tables_1_4.drop 40).drop 40).drop 40).drop 38) fall_o_4_4 (fall_join (fun c => su_isCode c || c.before start1.args0 fall_s) 38 (((((tables_1_4.drop 40).drop 40).drop 40).drop 38).drop 38) fall_o_4_5 (fall_o_4_6))))))
set_option maxRecDepth 16384 in
theorem fall_o_5_0 : (tables_1_5.take 38).all (fun c => su_isCode c || c.before start1.args0 fall_s) = true := by decide +kernel
set_option maxRecDepth 16384 in
theorem fall_o_5_1 : ((tables_1_5.drop 38).take 38).all (fun c => su_isCode c || c.before start1.args0 fall_s) = true := by decide +kernel
set_option maxRecDepth 16384 in
theorem fall_o_5_2 : (((tables_1_5.drop 38).drop 38).take 38).all (fun c => su_isCode c || c.before start1.args0 fall_s) = true := by decide +kernel
set_option maxRecDepth 16384 in
theorem fall_o_5_3 : ((((tables_1_5.drop 38).drop 38).drop 38).take 38).all (fun c => su_isCode c || c.before start1.args0 fall_s) = true := by decide +kernel
set_option maxRecDepth 16384 in
theorem fall_o_5_4 : (((((tables_1_5.drop 38).drop 38).drop 38).drop 38).take 38).all (fun c => su_isCode c || c.before start1.args0 fall_s) = true := by decide +kernel
set_option maxRecDepth 16384 in
theorem fall_o_5_5 : ((((((tables_1_5.drop 38).drop 38).drop 38).drop 38).drop 38).take 38).all (fun c => su_isCode c || c.before start1.args0 fall_s) = true := by decide +kernel
set_option maxRecDepth 16384 in
theorem fall_o_5_6 : ((((((tables_1_5.drop 38).drop 38).drop 38).drop 38).drop 38).drop 38).all (fun c => su_isCode c || c.before start1.args0 fall_s) = true := by decide +kernel
theorem fall_o_5 : tables_1_5.all (fun c => su_isCode c || c.before start1.args0 fall_s) = true := fall_join (fun c => su_isCode c || c.before start1.args0 fall_s) 38 tables_1_5 fall_o_5_0 (fall_join (fun c => su_isCode c || c.before start1.args0 fall_s) 38 (tables_1_5.drop 38) fall_o_5_1 (fall_join (fun c => su_isCode c || c.before start1.args0 fall_s) 38 ((tables_1_5.drop 38).drop 38) fall_o_5_2 (fall_join (fun c => su_isCode c || c.before start1.args0 fall_s) 38 (((tables_1_5.drop 38).drop 38).drop 38) fall_o_5_3 (fall_join (fun c => su_isCode c || c.before start1.args0 fall_s) 38 ((((tables_1_5.drop 38).drop 38).drop 38).drop 38) fall_o_5_4 (fall_join (fun c => su_isCode c || c.before start1.args0 fall_s) 38 (((((tables_1_5.drop 38).drop 38).drop 38).drop 38).drop 38) fall_o_5_5 (fall_o_5_6))))))
set_option maxRecDepth 16384 in
theorem fall_o_6_0 : (tables_1_6.take 38).all (fun c => su_isCode c || c.before start1.args0 fall_s) = true := by decide +kernel
set_option maxRecDepth 16384 in
theorem fall_o_6_1 : ((tables_1_6.drop 38).take 38).all (fun c => su_isCode c || c.before start1.args0 fall_s) = true := by decide +kernel
set_option maxRecDepth 16384 in
theorem fall_o_6_2 : ((tables_1_6.drop 38).drop 38).all (fun c => su_isCode c || c.before start1.args0 fall_s) = true := by decide +kernel
theorem fall_o_6 : tables_1_6.all (fun c => su_isCode c || c.before start1.args0 fall_s) = true := fall_join (fun c => su_isCode c || c.before start1.args0 fall_s) 38 tables_1_6 fall_o_6_0 (fall_join (fun c => su_isCode c || c.before start1.args0 fall_s) 38 (tables_1_6.drop 38) fall_o_6_1 (fall_o_6_2))
