/-- the printed witness's start with the EMPTY script in the place of its own -/
def fall_s : State := start1.aboutOf #[]
theorem fall_join {α : Type} (p : α → Bool) (n : Nat) (l : List α) (h1 : (l.take n).all p = true) (h2 : (l.drop n).all p = true) : l.all p = true := by
  rw [← List.take_append_drop n l, List.all_append, h1, h2]; rfl
set_option maxRecDepth 16384 in
theorem fall_o_1_0 : (tables_1_1.take 40).all (fun c => su_isCode c || c.before start1.args0 fall_s) = true := by decide +kernel
set_option maxRecDepth 16384 in
theorem fall_o_1_1 : ((tables_1_1.drop 40).take 40).all (fun c => su_isCode c || c.before start1.args0 fall_s) = true := by decide +kernel
set_option maxRecDepth 16384 in
theorem fall_o_1_2 : (((tables_1_1.drop 40).drop 40).take 40).all (fun c => su_isCode c || c.before start1.args0 fall_s) = true := by decide +kernel
set_option maxRecDepth 16384 in
theorem fall_o_1_3 : ((((tables_1_1.drop 40).drop 40).drop 40).take 40).all (fun c => su_isCode c || c.before start1.args0 fall_s) = true := by decide +kernel
set_option maxRecDepth 16384 in
theorem fall_o_1_4 : (((((tables_1_1.drop 40).drop 40).drop 40).drop 40).take 40).all (fun c => su_isCode c || c.before start1.args0 fall_s) = true := by decide +kernel
set_option maxRecDepth 16384 in
theorem fall_o_1_5 : (((((tables_1_1.drop 40).drop 40).drop 40).drop 40).drop 40).all (fun c => su_isCode c || c.before start1.args0 fall_s) = true := by decide +kernel
theorem fall_o_1 : tables_1_1.all (fun c => su_isCode c || c.before start1.args0 fall_s) = true := fall_join (fun c => su_isCode c || c.before start1.args0 fall_s) 40 tables_1_1 fall_o_1_0 (fall_join (fun c => su_isCode c || c.before start1.args0 fall_s) 40 (tables_1_1.drop 40) fall_o_1_1 (fall_join (fun c => su_isCode c || c.before start1.args0 fall_s) 40 ((tables_1_1.drop 40).drop 40) fall_o_1_2 (fall_join (fun c => su_isCode c || c.before start1.args0 fall_s) 40 (((tables_1_1.drop 40).drop 40).drop 40) fall_o_1_3 (fall_join (fun c => su_isCode c || c.before start1.args0 fall_s) 40 ((((tables_1_1.drop 40).drop 40).drop 40).drop 40) fall_o_1_4 (fall_o_1_5)))))
set_option maxRecDepth 16384 in
theorem fall_o_2_0 : (tables_1_2.take 40).all (fun c => su_isCode c || c.before start1.args0 fall_s) = true := by decide +kernel
set_option maxRecDepth 16384 in
theorem fall_o_2_1 : ((tables_1_2.drop 40).take 40).all (fun c => su_isCode c || c.before start1.args0 fall_s) = true := by decide +kernel
set_option maxRecDepth 16384 in
theorem fall_o_2_2 : (((tables_1_2.drop 40).drop 40).take 27).all (fun c => su_isCode c || c.before start1.args0 fall_s) = true := by decide +kernel
set_option maxRecDepth 16384 in
theorem fall_o_2_3 : ((((tables_1_2.drop 40).drop 40).drop 27).take 13).all (fun c => su_isCode c || c.before start1.args0 fall_s) = true := by decide +kernel
set_option maxRecDepth 16384 in
theorem fall_o_2_4 : (((((tables_1_2.drop 40).drop 40).drop 27).drop 13).take 20).all (fun c => su_isCode c || c.before start1.args0 fall_s) = true := by decide +kernel
set_option maxRecDepth 16384 in
theorem fall_o_2_5 : ((((((tables_1_2.drop 40).drop 40).drop 27).drop 13).drop 20).take 40).all (fun c => su_isCode c || c.before start1.args0 fall_s) = true := by decide +kernel
set_option maxRecDepth 16384 in
theorem fall_o_2_6 : (((((((tables_1_2.drop 40).drop 40).drop 27).drop 13).drop 20).drop 40).take 40).all (fun c => su_isCode c || c.before start1.args0 fall_s) = true := by decide +kernel
set_option maxRecDepth 16384 in
theorem fall_o_2_7 : (((((((tables_1_2.drop 40).drop 40).drop 27).drop 13).drop 20).drop 40).drop 40).all (fun c => su_isCode c || c.before start1.args0 fall_s) = true := by decide +kernel
theorem fall_o_2 : tables_1_2.all (fun c => su_isCode c || c.before start1.args0 fall_s) = true := fall_join (fun c => su_isCode c || c.before start1.args0 fall_s) 40 tables_1_2 fall_o_2_0 (fall_join (fun c => su_isCode c || c.before start1.args0 fall_s) 40 (tables_1_2.drop 40) fall_o_2_1 (fall_join (fun c => su_isCode c || c.before start1.args0 fall_s) 27 ((tables_1_2.drop 40).drop 40) fall_o_2_2 (fall_join (fun c => su_isCode c || c.before start1.args0 fall_s) 13 (((tables_1_2.drop 40).drop 40).drop 27) fall_o_2_3 (fall_join (fun c => su_isCode c || c.before start1.args0 fall_s) 20 ((((tables_1_2.drop 40).drop 40).drop 27).drop 13) fall_o_2_4 (fall_join (fun c => su_isCode c || c.before start1.args0 fall_s) 40 (((((tables_1_2.drop 40).drop 40).drop 27).drop 13).drop 20) fall_o_2_5 (fall_join (fun c => su_isCode c || c.before start1.args0 fall_s) 40 ((((((tables_1_2.drop 40).drop 40).drop 27).drop 13).drop 20).drop 40) fall_o_2_6 (fall_o_2_7)))))))
set_option maxRecDepth 16384 in
theorem fall_o_3_0 : (tables_1_3.take 40).all (fun c => su_isCode c || c.before start1.args0 fall_s) = true := by decide +kernel
set_option maxRecDepth 16384 in
theorem fall_o_3_1 : ((tables_1_3.drop 40).take 40).all (fun c => su_isCode c || c.before start1.args0 fall_s) = true := by decide +kernel
set_option maxRecDepth 16384 in
theorem fall_o_3_2 : (((tables_1_3.drop 40).drop 40).take 40).all (fun c => su_isCode c || c.before start1.args0 fall_s) = true := by decide +kernel
set_option maxRecDepth 16384 in
theorem fall_o_3_3 : ((((tables_1_3.drop 40).drop 40).drop 40).take 40).all (fun c => su_isCode c || c.before start1.args0 fall_s) = true := by decide +kernel
set_option maxRecDepth 16384 in
theorem fall_o_3_4 : (((((tables_1_3.drop 40).drop 40).drop 40).drop 40).take 40).all (fun c => su_isCode c || c.before start1.args0 fall_s) = true := by decide +kernel
set_option maxRecDepth 16384 in
theorem fall_o_3_5 : (((((tables_1_3.drop 40).drop 40).drop 40).drop 40).drop 40).all (fun c => su_isCode c || c.before start1.args0 fall_s) = true := by decide +kernel
theorem fall_o_3 : tables_1_3.all (fun c => su_isCode c || c.before start1.args0 fall_s) = true := fall_join (fun c => su_isCode c || c.before start1.args0 fall_s) 40 tables_1_3 fall_o_3_0 (fall_join (fun c => su_isCode c || c.before start1.args0 fall_s) 40 (tables_1_3.drop 40) fall_o_3_1 (fall_join (fun c => su_isCode c || c.before start1.args0 fall_s) 40 ((tables_1_3.drop 40).drop 40) fall_o_3_2 (fall_join (fun c => su_isCode c || c.before start1.args0 fall_s) 40 (((tables_1_3.drop 40).drop 40).drop 40) fall_o_3_3 (fall_join (fun c => su_isCode c || c.before start1.args0 fall_s) 40 ((((tables_1_3.drop 40).drop 40).drop 40).drop 40) fall_o_3_4 (fall_o_3_5)))))
