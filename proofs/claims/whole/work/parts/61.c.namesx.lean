def wsX5_act : List Cond := .code yX5_act cX5_act 3 (some .int) :: ((wsX5_act_r1 ++ (wsX5_act_r2 ++ (wsX5_act_r3 ++ (wsX5_act_r4 ++ wsX5_act_r5)))) ++ wsX50 ++ wsX00 ++ wsX40 ++ wsX10 ++ (vx_atS RX5 57 "java/lang/IllegalArgumentException" ["java/lang/RuntimeException", "java/lang/Exception"]).filter goodWord ++ (vx_atS RX5 71 "java/lang/IllegalStateException" ["java/lang/RuntimeException", "java/lang/Exception"]).filter goodWord)
def wsX5_run : List Cond := .code yX5_run cX5_run 4 (some .int) :: ((wsX5_run_r1 ++ (wsX5_run_r2 ++ (wsX5_run_r3 ++ (wsX5_run_r4 ++ wsX5_run_r5)))) ++ wsX50 ++ wsX10 ++ wsX40 ++ wsX20 ++ wsX00 ++ (vx_atS RX5 57 "java/lang/IllegalArgumentException" ["java/lang/RuntimeException", "java/lang/Exception"]).filter goodWord)
def wsX5_value : List Cond := .code yX5_value cX5_value 4 (some .long) :: ([.classLink RX5 126 "java/lang/IndexOutOfBoundsException", .initialized "java/lang/IndexOutOfBoundsException", .fieldLink RX5 28 "TermPile" "given" "[J", .methodLink RX5 106 yX5_isSide, .static yX5_isSide, .initialized RX5, .code yX5_isSide cX5_isSide 1 (some .boolean), .methodLink RX5 102 yX5_isVariable, .static yX5_isVariable, .code yX5_isVariable cX5_isVariable 1 (some .boolean), .methodLink RX5 111 yX5_machineOf, .instanceMethod yX5_machineOf, .selects RX5 yX5_machineOf yX5_machineOf, .code yX5_machineOf cX5_machineOf 2 (some (.object "TermPile$Machine")), .fieldLink RX5 35 "TermPile" "actsMachine" "LTermPile$Machine;", .fieldLink RX5 39 "TermPile" "linesMachine" "LTermPile$Machine;"] ++ wsX20 ++ wsX50 ++ (vx_atS RX5 130 "java/lang/IndexOutOfBoundsException" ["java/lang/RuntimeException", "java/lang/Exception"]).filter goodWord)
def wsX5_left : List Cond := .code yX5_left cX5_left 4 (some .long) :: ([.classLink RX5 126 "java/lang/IndexOutOfBoundsException", .initialized "java/lang/IndexOutOfBoundsException", .methodLink RX5 106 yX5_isSide, .static yX5_isSide, .initialized RX5, .code yX5_isSide cX5_isSide 1 (some .boolean), .methodLink RX5 111 yX5_machineOf, .instanceMethod yX5_machineOf, .selects RX5 yX5_machineOf yX5_machineOf, .code yX5_machineOf cX5_machineOf 2 (some (.object "TermPile$Machine")), .fieldLink RX5 35 "TermPile" "actsMachine" "LTermPile$Machine;", .fieldLink RX5 39 "TermPile" "linesMachine" "LTermPile$Machine;"] ++ wsX20 ++ wsX50 ++ (vx_atS RX5 130 "java/lang/IndexOutOfBoundsException" ["java/lang/RuntimeException", "java/lang/Exception"]).filter goodWord)
def wsL_act : List Cond := .codeWith yL_act cL_act 5 (some .int) [(0, 10, 13, 13), (0, 10, 17, 15)] :: ((wsL_act_r1 ++ (wsL_act_r2 ++ (wsL_act_r3 ++ (wsL_act_r4 ++ (wsL_act_r5 ++ wsL_act_r6))))) ++ wsX50 ++ wsX00 ++ wsX40 ++ wsX10 ++ (vx_atS RX5 57 "java/lang/IllegalArgumentException" ["java/lang/RuntimeException", "java/lang/Exception"]).filter goodWord ++ (vx_atS RX5 71 "java/lang/IllegalStateException" ["java/lang/RuntimeException", "java/lang/Exception"]).filter goodWord)
def wsL_run : List Cond := .codeWith yL_run cL_run 4 (some .int) [(0, 9, 12, 13)] :: ((wsL_run_r1 ++ (wsL_run_r2 ++ (wsL_run_r3 ++ (wsL_run_r4 ++ wsL_run_r5)))) ++ wsX50 ++ wsX10 ++ wsX40 ++ wsX20 ++ wsX00 ++ (vx_atS RX5 57 "java/lang/IllegalArgumentException" ["java/lang/RuntimeException", "java/lang/Exception"]).filter goodWord)
def wsL_value : List Cond := .codeWith yL_value cL_value 5 (some .int) [(0, 9, 12, 25)] :: ([.classLink RL 25 "java/lang/IndexOutOfBoundsException", .methodLink RL 21 yX5_value, .instanceMethod yX5_value, .selects RX5 yX5_value yX5_value, .initialized RX5, .code yX5_value cX5_value 4 (some .long), .classLink RX5 126 "java/lang/IndexOutOfBoundsException", .initialized "java/lang/IndexOutOfBoundsException", .fieldLink RX5 28 "TermPile" "given" "[J", .methodLink RX5 106 yX5_isSide, .static yX5_isSide, .code yX5_isSide cX5_isSide 1 (some .boolean), .methodLink RX5 102 yX5_isVariable, .static yX5_isVariable, .code yX5_isVariable cX5_isVariable 1 (some .boolean), .methodLink RX5 111 yX5_machineOf, .instanceMethod yX5_machineOf, .selects RX5 yX5_machineOf yX5_machineOf, .code yX5_machineOf cX5_machineOf 2 (some (.object "TermPile$Machine")), .fieldLink RX5 35 "TermPile" "actsMachine" "LTermPile$Machine;", .fieldLink RX5 39 "TermPile" "linesMachine" "LTermPile$Machine;"] ++ wsX20 ++ wsX50 ++ (vx_atS RX5 130 "java/lang/IndexOutOfBoundsException" ["java/lang/RuntimeException", "java/lang/Exception"]).filter goodWord)
def wsL_left : List Cond := .codeWith yL_left cL_left 5 (some .int) [(0, 9, 12, 25)] :: ([.classLink RL 25 "java/lang/IndexOutOfBoundsException", .methodLink RL 27 yX5_left, .instanceMethod yX5_left, .selects RX5 yX5_left yX5_left, .initialized RX5, .code yX5_left cX5_left 4 (some .long), .classLink RX5 126 "java/lang/IndexOutOfBoundsException", .initialized "java/lang/IndexOutOfBoundsException", .methodLink RX5 106 yX5_isSide, .static yX5_isSide, .code yX5_isSide cX5_isSide 1 (some .boolean), .methodLink RX5 111 yX5_machineOf, .instanceMethod yX5_machineOf, .selects RX5 yX5_machineOf yX5_machineOf, .code yX5_machineOf cX5_machineOf 2 (some (.object "TermPile$Machine")), .fieldLink RX5 35 "TermPile" "actsMachine" "LTermPile$Machine;", .fieldLink RX5 39 "TermPile" "linesMachine" "LTermPile$Machine;"] ++ wsX20 ++ wsX50 ++ (vx_atS RX5 130 "java/lang/IndexOutOfBoundsException" ["java/lang/RuntimeException", "java/lang/Exception"]).filter goodWord)
def wsL_law : List Cond := wsL_law0 ++ (vx_atS RX5 57 "java/lang/IllegalArgumentException" ["java/lang/RuntimeException", "java/lang/Exception"]).filter goodWord ++ (vx_atS RX5 71 "java/lang/IllegalStateException" ["java/lang/RuntimeException", "java/lang/Exception"]).filter goodWord ++ (vx_atS RX5 130 "java/lang/IndexOutOfBoundsException" ["java/lang/RuntimeException", "java/lang/Exception"]).filter goodWord
theorem wsL_law_x0 : ∀ w ∈ (vx_atS RX5 57 "java/lang/IllegalArgumentException" ["java/lang/RuntimeException", "java/lang/Exception"]).filter goodWord, w ∈ lw_tbl := by decide +kernel
theorem wsL_law_x1 : ∀ w ∈ (vx_atS RX5 71 "java/lang/IllegalStateException" ["java/lang/RuntimeException", "java/lang/Exception"]).filter goodWord, w ∈ lw_tbl := by decide +kernel
theorem wsL_law_x2 : ∀ w ∈ (vx_atS RX5 130 "java/lang/IndexOutOfBoundsException" ["java/lang/RuntimeException", "java/lang/Exception"]).filter goodWord, w ∈ lw_tbl := by decide +kernel
theorem wsL_law_in : ∀ w ∈ wsL_law, w ∈ lw_tbl := fun w h => (List.mem_append.mp h).elim (fun h => (List.mem_append.mp h).elim (fun h => (List.mem_append.mp h).elim (fun h => wsL_law_in0 w h) (fun h => wsL_law_x0 w h)) (fun h => wsL_law_x1 w h)) (fun h => wsL_law_x2 w h)
theorem inlX0 : ∀ w ∈ wsX00, w ∈ wsL_law := fun _ h => List.mem_append_left _ (List.mem_append_left _ (List.mem_append_left _ (List.mem_append_left _ (List.mem_append_left _ (List.mem_append_left _ (List.mem_append_left _ (List.mem_append_left _ (List.mem_append_right _ h))))))))
theorem inX0 : ∀ w ∈ wsX00, w ∈ lw_tbl := fun w h => wsL_law_in w (inlX0 w h)
theorem inlX1 : ∀ w ∈ wsX10, w ∈ wsL_law := fun _ h => List.mem_append_left _ (List.mem_append_left _ (List.mem_append_left _ (List.mem_append_left _ (List.mem_append_right _ h))))
theorem inX1 : ∀ w ∈ wsX10, w ∈ lw_tbl := fun w h => wsL_law_in w (inlX1 w h)
theorem inlX2 : ∀ w ∈ wsX20, w ∈ wsL_law := fun _ h => List.mem_append_left _ (List.mem_append_left _ (List.mem_append_left _ (List.mem_append_left _ (List.mem_append_left _ (List.mem_append_left _ (List.mem_append_right _ h))))))
theorem inX2 : ∀ w ∈ wsX20, w ∈ lw_tbl := fun w h => wsL_law_in w (inlX2 w h)
theorem inlX3 : ∀ w ∈ wsX30, w ∈ wsL_law := fun _ h => List.mem_append_left _ (List.mem_append_left _ (List.mem_append_left _ (List.mem_append_left _ (List.mem_append_left _ (List.mem_append_right _ h)))))
theorem inX3 : ∀ w ∈ wsX30, w ∈ lw_tbl := fun w h => wsL_law_in w (inlX3 w h)
theorem inlX4 : ∀ w ∈ wsX40, w ∈ wsL_law := fun _ h => List.mem_append_left _ (List.mem_append_left _ (List.mem_append_left _ (List.mem_append_left _ (List.mem_append_left _ (List.mem_append_left _ (List.mem_append_left _ (List.mem_append_right _ h)))))))
theorem inX4 : ∀ w ∈ wsX40, w ∈ lw_tbl := fun w h => wsL_law_in w (inlX4 w h)
theorem inlX5 : ∀ w ∈ wsX50, w ∈ wsL_law := fun _ h => List.mem_append_left _ (List.mem_append_left _ (List.mem_append_left _ (List.mem_append_left _ (List.mem_append_left _ (List.mem_append_left _ (List.mem_append_left _ (List.mem_append_left _ (List.mem_append_left _ (List.mem_append_left _ (List.mem_append_right _ h))))))))))
theorem inX5 : ∀ w ∈ wsX50, w ∈ lw_tbl := fun w h => wsL_law_in w (inlX5 w h)
theorem inlX6 : ∀ w ∈ wsX60, w ∈ wsL_law := fun _ h => List.mem_append_left _ (List.mem_append_left _ (List.mem_append_left _ (List.mem_append_left _ (List.mem_append_left _ (List.mem_append_left _ (List.mem_append_left _ (List.mem_append_left _ (List.mem_append_left _ (List.mem_append_right _ h)))))))))
theorem inX6 : ∀ w ∈ wsX60, w ∈ lw_tbl := fun w h => wsL_law_in w (inlX6 w h)
set_option maxRecDepth 20000 in
theorem ggX5_act_X5_isAct : GoodIn wsX5_act wsX5_isAct := goodIn_r _ [10, 11, 12] (by decide +kernel) (by decide +kernel)
set_option maxRecDepth 20000 in
theorem gX5_act_X5_isAct : GoodIn wsX5_act (va_wsS RX5 49 yX5_isAct wsX5_isAct) := goodIn_app (goodIn_of _ (by decide +kernel)) ggX5_act_X5_isAct
set_option maxRecDepth 20000 in
theorem ggX5_act_X5_canBeDone : GoodIn wsX5_act wsX5_canBeDone := goodIn_r _ [16, 6, 17, 18, 19, 9, 20, 21, 120, 121, 122, 123, 124, 125, 126, 130, 131, 132, 133, 134] (by decide +kernel) (by decide +kernel)
set_option maxRecDepth 20000 in
theorem gX5_act_X5_canBeDone : GoodIn wsX5_act (wsV RX5 64 RX5 yX5_canBeDone wsX5_canBeDone) := goodIn_app (goodIn_of _ (by decide +kernel)) ggX5_act_X5_canBeDone
set_option maxRecDepth 20000 in
theorem ggX5_act_X0_add : GoodIn wsX5_act wsX0_add := goodIn_r _ [26, 27, 28, 29, 127, 128, 129] (by decide +kernel) (by decide +kernel)
set_option maxRecDepth 20000 in
theorem gX5_act_X0_add : GoodIn wsX5_act (wsV RX5 72 RX0 yX0_add wsX0_add) := goodIn_app (goodIn_of _ (by decide +kernel)) ggX5_act_X0_add
set_option maxRecDepth 20000 in
theorem ggX5_act_X4_tell : GoodIn wsX5_act wsX4_tell := goodIn_r _ [34, 35, 36, 19, 9, 20, 21, 37, 38, 39, 33, 40, 41, 42, 43, 44, 45, 46, 47, 23, 24, 25, 26, 27, 28, 29, 48, 49, 50, 51, 52, 53, 54, 55, 56, 57, 58, 59, 60, 61, 62, 63, 64, 65, 66, 67, 68, 69, 70, 71, 72, 73, 74, 75, 76, 77, 78, 79, 80, 81, 82, 83, 84, 85, 86, 87, 88, 89, 90, 91, 92, 93, 94, 95, 96, 97, 98, 99, 100, 101, 102, 103, 104, 105, 106, 107, 108, 109, 110, 111, 112, 113, 114, 115, 116, 117, 118, 119, 130, 131, 132, 133, 134, 127, 128, 129, 135, 136, 137] (by decide +kernel) (by decide +kernel)
set_option maxRecDepth 20000 in
theorem gX5_act_X4_tell : GoodIn wsX5_act (wsV RX5 76 RX4 yX4_tell wsX4_tell) := goodIn_app (goodIn_of _ (by decide +kernel)) ggX5_act_X4_tell
set_option maxRecDepth 20000 in
theorem ggX5_run_X5_isSide : GoodIn wsX5_run wsX5_isSide := goodIn_r _ [10] (by decide +kernel) (by decide +kernel)
set_option maxRecDepth 20000 in
theorem gX5_run_X5_isSide : GoodIn wsX5_run (va_wsS RX5 106 yX5_isSide wsX5_isSide) := goodIn_app (goodIn_of _ (by decide +kernel)) ggX5_run_X5_isSide
set_option maxRecDepth 20000 in
theorem ggX5_run_X5_machineOf : GoodIn wsX5_run wsX5_machineOf := goodIn_r _ [14, 15, 16, 99, 100, 101, 102, 103, 104, 105] (by decide +kernel) (by decide +kernel)
set_option maxRecDepth 20000 in
theorem gX5_run_X5_machineOf : GoodIn wsX5_run (wsV RX5 111 RX5 yX5_machineOf wsX5_machineOf) := goodIn_app (goodIn_of _ (by decide +kernel)) ggX5_run_X5_machineOf
set_option maxRecDepth 20000 in
theorem ggX5_run_X2_begin : GoodIn wsX5_run wsX2_begin := goodIn_r _ [21, 22, 23, 24, 25, 114, 115, 116, 117, 118, 119] (by decide +kernel) (by decide +kernel)
set_option maxRecDepth 20000 in
theorem gX5_run_X2_begin : GoodIn wsX5_run (wsV RX5 115 RX2 yX2_begin wsX2_begin) := goodIn_app (goodIn_of _ (by decide +kernel)) ggX5_run_X2_begin
set_option maxRecDepth 20000 in
theorem ggX5_run_X2_works : GoodIn wsX5_run wsX2_works := goodIn_r _ [29, 23, 30, 31, 32, 33, 34, 35, 36, 37, 38, 39, 40, 41, 42, 43, 44, 45, 46, 47, 48, 20, 49, 22, 50, 51, 52, 53, 54, 55, 56, 9, 57, 58, 59, 60, 61, 62, 63, 64, 65, 66, 67, 68, 69, 70, 71, 72, 73, 74, 75, 76, 77, 78, 79, 80, 81, 82, 83, 84, 24, 85, 86, 87, 88, 89, 90, 91, 92, 93, 94, 95, 96, 97, 98, 120, 121, 122, 114, 115, 116, 117, 118, 119] (by decide +kernel) (by decide +kernel)
set_option maxRecDepth 20000 in
theorem gX5_run_X2_works : GoodIn wsX5_run (wsV RX5 119 RX2 yX2_works wsX2_works) := goodIn_app (goodIn_of _ (by decide +kernel)) ggX5_run_X2_works
set_option maxRecDepth 20000 in
theorem ggX5_value_X5_isSide : GoodIn wsX5_value wsX5_isSide := goodIn_r _ [7] (by decide +kernel) (by decide +kernel)
set_option maxRecDepth 20000 in
theorem gX5_value_X5_isSide : GoodIn wsX5_value (va_wsS RX5 106 yX5_isSide wsX5_isSide) := goodIn_app (goodIn_of _ (by decide +kernel)) ggX5_value_X5_isSide
set_option maxRecDepth 20000 in
theorem ggX5_value_X5_isVariable : GoodIn wsX5_value wsX5_isVariable := goodIn_r _ [10] (by decide +kernel) (by decide +kernel)
set_option maxRecDepth 20000 in
theorem gX5_value_X5_isVariable : GoodIn wsX5_value (va_wsS RX5 102 yX5_isVariable wsX5_isVariable) := goodIn_app (goodIn_of _ (by decide +kernel)) ggX5_value_X5_isVariable
set_option maxRecDepth 20000 in
theorem ggX5_value_X5_machineOf : GoodIn wsX5_value wsX5_machineOf := goodIn_r _ [14, 15, 16, 23, 24, 25, 26, 27, 28, 29] (by decide +kernel) (by decide +kernel)
set_option maxRecDepth 20000 in
theorem gX5_value_X5_machineOf : GoodIn wsX5_value (wsV RX5 111 RX5 yX5_machineOf wsX5_machineOf) := goodIn_app (goodIn_of _ (by decide +kernel)) ggX5_value_X5_machineOf
set_option maxRecDepth 20000 in
theorem ggX5_left_X5_isSide : GoodIn wsX5_left wsX5_isSide := goodIn_r _ [6] (by decide +kernel) (by decide +kernel)
set_option maxRecDepth 20000 in
theorem gX5_left_X5_isSide : GoodIn wsX5_left (va_wsS RX5 106 yX5_isSide wsX5_isSide) := goodIn_app (goodIn_of _ (by decide +kernel)) ggX5_left_X5_isSide
set_option maxRecDepth 20000 in
theorem ggX5_left_X5_machineOf : GoodIn wsX5_left wsX5_machineOf := goodIn_r _ [10, 11, 12, 19, 20, 21, 22, 23, 24, 25] (by decide +kernel) (by decide +kernel)
set_option maxRecDepth 20000 in
theorem gX5_left_X5_machineOf : GoodIn wsX5_left (wsV RX5 111 RX5 yX5_machineOf wsX5_machineOf) := goodIn_app (goodIn_of _ (by decide +kernel)) ggX5_left_X5_machineOf
set_option maxRecDepth 20000 in
theorem ggL_act_X5_act : GoodIn wsL_act wsX5_act := goodIn_ca (goodIn_ca (goodIn_r _ [7, 8, 9, 10, 11, 12, 13, 14, 15, 6, 16, 17, 18, 19, 20, 21, 22, 23, 24, 25, 26, 27, 28, 29, 30, 31, 32, 33, 34, 35, 36, 37, 38, 39, 40, 41, 42, 43, 44, 45, 46, 47, 48, 49, 50, 51, 52, 53, 54, 55, 56, 57, 58, 59, 60, 61, 62, 63, 64, 65, 66, 67, 68, 69, 70, 71, 72, 73, 74, 75, 76, 77, 78, 79, 80, 81, 82, 83, 84, 85, 86, 87, 88, 89, 90, 91, 92, 93, 94, 95, 96, 97, 98, 99, 100, 101, 102, 103, 104, 105, 106, 107, 108, 109, 110, 111, 112, 113, 114, 115, 116, 117, 118, 119, 120, 121, 122, 123, 124, 125, 126, 127, 128, 129, 130, 131, 132, 133, 134, 135, 136, 137, 138, 139, 140, 141, 142, 143] (by decide +kernel) (by decide +kernel)) (goodIn_sub (fun _ h => List.mem_cons_of_mem _ (List.mem_append_left _ (List.mem_append_right _ h))) (by decide +kernel))) (goodIn_sub (fun _ h => List.mem_cons_of_mem _ (List.mem_append_right _ h)) (by decide +kernel))
set_option maxRecDepth 20000 in
theorem gL_act_X5_act : GoodIn wsL_act (wsV RL 7 RX5 yX5_act wsX5_act) := goodIn_app (goodIn_of _ (by decide +kernel)) ggL_act_X5_act
set_option maxRecDepth 20000 in
theorem ggL_run_X5_run : GoodIn wsL_run wsX5_run := goodIn_ca (goodIn_r _ [6, 7, 8, 9, 10, 11, 12, 13, 14, 5, 15, 16, 17, 18, 19, 20, 21, 22, 23, 24, 25, 26, 27, 28, 29, 30, 31, 32, 33, 34, 35, 36, 37, 38, 39, 40, 41, 42, 43, 44, 45, 46, 47, 48, 49, 50, 51, 52, 53, 54, 55, 56, 57, 58, 59, 60, 61, 62, 63, 64, 65, 66, 67, 68, 69, 70, 71, 72, 73, 74, 75, 76, 77, 78, 79, 80, 81, 82, 83, 84, 85, 86, 87, 88, 89, 90, 91, 92, 93, 94, 95, 96, 97, 98, 99, 100, 101, 102, 103, 104, 105, 106, 107, 108, 109, 110, 111, 112, 113, 114, 115, 116, 117, 118, 119, 120, 121, 122, 123, 124, 125, 126, 127] (by decide +kernel) (by decide +kernel)) (goodIn_sub (fun _ h => List.mem_cons_of_mem _ (List.mem_append_right _ h)) (by decide +kernel))
set_option maxRecDepth 20000 in
theorem gL_run_X5_run : GoodIn wsL_run (wsV RL 17 RX5 yX5_run wsX5_run) := goodIn_app (goodIn_of _ (by decide +kernel)) ggL_run_X5_run
set_option maxRecDepth 20000 in
theorem ggL_value_X5_value : GoodIn wsL_value wsX5_value := goodIn_ca (goodIn_r _ [6, 7, 8, 9, 10, 11, 5, 12, 13, 14, 15, 16, 17, 18, 19, 20, 21, 22, 23, 24, 25, 26, 27, 28, 29, 30, 31, 32, 33, 34] (by decide +kernel) (by decide +kernel)) (goodIn_sub (fun _ h => List.mem_cons_of_mem _ (List.mem_append_right _ h)) (by decide +kernel))
set_option maxRecDepth 20000 in
theorem gL_value_X5_value : GoodIn wsL_value (wsV RL 21 RX5 yX5_value wsX5_value) := goodIn_app (goodIn_of _ (by decide +kernel)) ggL_value_X5_value
set_option maxRecDepth 20000 in
theorem ggL_left_X5_left : GoodIn wsL_left wsX5_left := goodIn_ca (goodIn_r _ [6, 7, 8, 9, 10, 5, 11, 12, 13, 14, 15, 16, 17, 18, 19, 20, 21, 22, 23, 24, 25, 26, 27, 28, 29, 30] (by decide +kernel) (by decide +kernel)) (goodIn_sub (fun _ h => List.mem_cons_of_mem _ (List.mem_append_right _ h)) (by decide +kernel))
set_option maxRecDepth 20000 in
theorem gL_left_X5_left : GoodIn wsL_left (wsV RL 27 RX5 yX5_left wsX5_left) := goodIn_app (goodIn_of _ (by decide +kernel)) ggL_left_X5_left
set_option maxRecDepth 20000 in
theorem ggL_law_X5_init : GoodIn wsL_law wsX5_init := goodIn_r _ [10, 11, 12, 13, 14, 15, 16, 17, 18, 19, 20, 21, 22, 6, 23, 24, 25, 26, 27, 28, 29, 30, 31, 32, 33, 34, 35, 36, 37, 38, 39, 40, 41, 42, 43, 44, 45, 46, 47, 48, 49, 50, 51, 52, 53, 54, 55, 56, 57, 58, 59, 60, 61, 62, 63, 64, 65, 66, 67, 68, 69, 70, 71, 72, 73, 74, 75, 610, 611, 612, 569, 570, 571, 572, 573, 574, 575, 613, 614, 615, 616, 617, 618, 619, 620, 621, 622, 623, 624, 625, 626, 627, 628, 629, 630] (by decide +kernel) (by decide +kernel)
set_option maxRecDepth 20000 in
theorem gL_law_X5_init : GoodIn wsL_law (wsX5_init) := ggL_law_X5_init
set_option maxRecDepth 20000 in
theorem ggL_law_X6_init : GoodIn wsL_law wsX6_init := goodIn_r _ [78, 79, 12, 13, 36, 80, 81, 82, 83, 84, 85, 86, 87, 88, 6, 89, 90, 91, 92, 93, 94, 95, 96, 97, 98, 99, 100, 101, 102, 103, 576, 577, 578, 579, 580, 581, 582, 583, 584, 585, 586, 587, 588, 589, 590, 591, 592, 593, 594, 595, 596, 597, 598, 599, 600, 601, 602, 603, 604, 605, 606, 607, 608, 609] (by decide +kernel) (by decide +kernel)
set_option maxRecDepth 20000 in
theorem gL_law_X6_init : GoodIn wsL_law (wsX6_init) := ggL_law_X6_init
set_option maxRecDepth 20000 in
theorem ggL_law_L_act : GoodIn wsL_law wsL_act := goodIn_ca (goodIn_ca (goodIn_r _ [107, 108, 109, 110, 111, 112, 2, 113, 114, 115, 116, 117, 17, 21, 118, 119, 120, 121, 122, 123, 124, 125, 126, 127, 128, 129, 130, 131, 132, 133, 134, 16, 135, 39, 37, 38, 136, 137, 138, 20, 139, 50, 46, 140, 141, 142, 143, 49, 48, 144, 145, 146, 147, 148, 149, 150, 151, 152, 153, 154, 155, 156, 51, 157, 158, 159, 160, 161, 162, 163, 164, 165, 166, 167, 168, 169, 170, 171, 172, 173, 174, 175, 176, 177, 178, 179, 180, 181, 182, 183, 184, 45, 185, 56, 186, 187, 188, 189, 190, 191, 192, 58, 57, 193, 194, 195, 196, 197, 198, 199, 200, 201, 202, 203, 204, 205, 206, 207, 208, 209, 210, 211, 212, 213, 214, 215, 569, 570, 571, 572, 573, 574, 575, 610, 611, 612, 613, 614, 615, 616, 617, 628, 629, 630] (by decide +kernel) (by decide +kernel)) (goodIn_sub (fun _ h => List.mem_append_left _ (List.mem_append_left _ (List.mem_append_right _ h))) (by decide +kernel))) (goodIn_sub (fun _ h => List.mem_append_left _ (List.mem_append_right _ h)) (by decide +kernel))
set_option maxRecDepth 20000 in
theorem gL_law_L_act : GoodIn wsL_law (va_wsS RL 34 yL_act wsL_act) := goodIn_app (goodIn_of _ (by decide +kernel)) ggL_law_L_act
set_option maxRecDepth 20000 in
theorem ggL_law_X6_act : GoodIn wsL_law wsX6_act := goodIn_r _ [219, 220, 221, 222, 80, 81, 223, 224, 5, 225, 226, 227, 228, 229, 230, 231, 232, 233, 234, 235, 85, 236, 237, 238, 239, 82, 240, 241, 242, 243, 244, 86, 245, 87, 88, 246, 247, 248, 249, 250, 83, 84, 251, 252, 253, 254, 576, 577, 578, 579, 580, 581, 582, 583, 584, 585, 586, 587, 588, 589, 590, 591, 592, 593, 594, 595, 596, 597, 598, 599, 600, 601, 602, 603, 604, 605, 606, 607, 608, 609] (by decide +kernel) (by decide +kernel)
set_option maxRecDepth 20000 in
theorem gL_law_X6_act : GoodIn wsL_law (wsV RL 39 RX6 yX6_act wsX6_act) := goodIn_app (goodIn_of _ (by decide +kernel)) ggL_law_X6_act
set_option maxRecDepth 20000 in
theorem ggL_law_X6_thrown : GoodIn wsL_law wsX6_thrown := goodIn_r _ [258, 222, 576, 577, 578, 579, 580, 581, 582, 583, 584, 585, 586, 587, 588, 589, 590, 591, 592, 593, 594, 595, 596, 597, 598, 599, 600, 601, 602, 603, 604, 605, 606, 607, 608, 609] (by decide +kernel) (by decide +kernel)
set_option maxRecDepth 20000 in
theorem gL_law_X6_thrown : GoodIn wsL_law (wsV RL 40 RX6 yX6_thrown wsX6_thrown) := goodIn_app (goodIn_of _ (by decide +kernel)) ggL_law_X6_thrown
set_option maxRecDepth 20000 in
theorem ggL_law_X5_line : GoodIn wsL_law wsX5_line := goodIn_r _ [262, 22, 32, 263, 264, 265, 45, 266, 58, 57, 56, 267, 268, 269, 31, 270, 73, 271, 162, 163, 16, 164, 37, 165, 166, 167, 168, 39, 272, 175, 176, 177, 38, 273, 274, 275, 276, 72, 277, 278, 279, 280, 75, 74, 281, 282, 283, 284, 285, 286, 287, 288, 289, 290, 291, 292, 293, 294, 295, 296, 297, 298, 299, 300, 301, 302, 303, 304, 305, 306, 307, 308, 309, 310, 311, 312, 313, 314, 315, 316, 317, 318, 319, 320, 321, 322, 323, 324, 325, 326, 327, 328, 329, 330, 331, 332, 333, 334, 335, 336, 337, 338, 339, 340, 341, 342, 343, 344, 345, 346, 347, 348, 349, 350, 351, 352, 353, 354, 355, 356, 357, 358, 359, 360, 361, 362, 363, 364, 2, 365, 366, 367, 368, 369, 370, 371, 569, 570, 571, 572, 573, 574, 575, 628, 629, 630, 610, 611, 612, 624, 625, 626, 627] (by decide +kernel) (by decide +kernel)
set_option maxRecDepth 20000 in
theorem gL_law_X5_line : GoodIn wsL_law (wsV RL 44 RX5 yX5_line wsX5_line) := goodIn_app (goodIn_of _ (by decide +kernel)) ggL_law_X5_line
set_option maxRecDepth 20000 in
theorem ggL_law_X6_line : GoodIn wsL_law wsX6_line := goodIn_r _ [375, 222, 245, 376, 86, 87, 88, 96, 377, 378, 379, 5, 380, 381, 382, 383, 384, 385, 386, 387, 388, 389, 97, 84, 82, 83, 98, 390, 391, 392, 393, 394, 395, 396, 397, 398, 399, 400, 401, 576, 577, 578, 579, 580, 581, 582, 583, 584, 585, 586, 587, 588, 589, 590, 591, 592, 593, 594, 595, 596, 597, 598, 599, 600, 601, 602, 603, 604, 605, 606, 607, 608, 609] (by decide +kernel) (by decide +kernel)
set_option maxRecDepth 20000 in
theorem gL_law_X6_line : GoodIn wsL_law (wsV RL 47 RX6 yX6_line wsX6_line) := goodIn_app (goodIn_of _ (by decide +kernel)) ggL_law_X6_line
set_option maxRecDepth 20000 in
theorem ggL_law_X5_term : GoodIn wsL_law wsX5_term := goodIn_r _ [405, 21, 32, 406, 158, 159, 20, 160, 144, 145, 146, 147, 50, 49, 48, 407, 408, 409, 31, 410, 73, 277, 278, 279, 280, 75, 74, 281, 282, 283, 284, 273, 274, 275, 276, 72, 271, 162, 163, 16, 164, 37, 165, 166, 167, 168, 39, 272, 175, 176, 177, 38, 285, 286, 287, 288, 289, 290, 291, 292, 293, 294, 295, 296, 297, 298, 299, 300, 301, 302, 303, 304, 305, 306, 307, 308, 309, 310, 311, 312, 313, 314, 315, 316, 317, 318, 319, 320, 321, 322, 323, 324, 325, 326, 327, 328, 329, 330, 331, 332, 333, 334, 335, 336, 337, 338, 339, 340, 341, 342, 343, 344, 345, 346, 347, 348, 349, 350, 351, 352, 353, 354, 355, 356, 357, 358, 359, 368, 369, 370, 371, 569, 570, 571, 572, 573, 574, 575, 613, 614, 615, 616, 617, 610, 611, 612, 624, 625, 626, 627] (by decide +kernel) (by decide +kernel)
set_option maxRecDepth 20000 in
theorem gL_law_X5_term : GoodIn wsL_law (wsV RL 48 RX5 yX5_term wsX5_term) := goodIn_app (goodIn_of _ (by decide +kernel)) ggL_law_X5_term
set_option maxRecDepth 20000 in
theorem ggL_law_X6_term : GoodIn wsL_law wsX6_term := goodIn_r _ [414, 222, 221, 376, 85, 96, 385, 386, 387, 5, 388, 389, 97, 84, 82, 83, 98, 390, 391, 392, 393, 377, 378, 379, 380, 381, 382, 383, 384, 394, 395, 396, 397, 398, 399, 400, 401, 576, 577, 578, 579, 580, 581, 582, 583, 584, 585, 586, 587, 588, 589, 590, 591, 592, 593, 594, 595, 596, 597, 598, 599, 600, 601, 602, 603, 604, 605, 606, 607, 608, 609] (by decide +kernel) (by decide +kernel)
set_option maxRecDepth 20000 in
theorem gL_law_X6_term : GoodIn wsL_law (wsV RL 51 RX6 yX6_term wsX6_term) := goodIn_app (goodIn_of _ (by decide +kernel)) ggL_law_X6_term
set_option maxRecDepth 20000 in
theorem ggL_law_X5_give : GoodIn wsL_law wsX5_give := goodIn_r _ [418, 23, 419, 420, 2, 421, 569, 570, 571, 572, 573, 574, 575] (by decide +kernel) (by decide +kernel)
set_option maxRecDepth 20000 in
theorem gL_law_X5_give : GoodIn wsL_law (wsV RL 54 RX5 yX5_give wsX5_give) := goodIn_app (goodIn_of _ (by decide +kernel)) ggL_law_X5_give
set_option maxRecDepth 20000 in
theorem ggL_law_X6_give : GoodIn wsL_law wsX6_give := goodIn_r _ [425, 222, 89, 576, 577, 578, 579, 580, 581, 582, 583, 584, 585, 586, 587, 588, 589, 590, 591, 592, 593, 594, 595, 596, 597, 598, 599, 600, 601, 602, 603, 604, 605, 606, 607, 608, 609] (by decide +kernel) (by decide +kernel)
set_option maxRecDepth 20000 in
theorem gL_law_X6_give : GoodIn wsL_law (wsV RL 58 RX6 yX6_give wsX6_give) := goodIn_app (goodIn_of _ (by decide +kernel)) ggL_law_X6_give
set_option maxRecDepth 20000 in
theorem ggL_law_L_run : GoodIn wsL_law wsL_run := goodIn_ca (goodIn_r _ [428, 108, 429, 430, 431, 2, 432, 114, 115, 23, 17, 22, 21, 433, 434, 435, 436, 437, 438, 439, 27, 28, 440, 441, 442, 26, 443, 62, 65, 66, 67, 444, 445, 446, 447, 448, 162, 163, 16, 164, 37, 165, 166, 167, 168, 39, 449, 175, 176, 177, 38, 450, 451, 452, 453, 63, 454, 455, 456, 457, 64, 420, 421, 458, 459, 460, 461, 462, 463, 464, 465, 366, 367, 364, 365, 466, 467, 468, 469, 470, 471, 472, 473, 474, 475, 476, 477, 478, 479, 480, 481, 482, 483, 484, 485, 486, 487, 488, 489, 490, 491, 492, 493, 494, 569, 570, 571, 572, 573, 574, 575, 628, 629, 630, 613, 614, 615, 616, 617, 618, 619, 620, 621, 622, 623, 610, 611, 612] (by decide +kernel) (by decide +kernel)) (goodIn_sub (fun _ h => List.mem_append_left _ (List.mem_append_left _ (List.mem_append_right _ h))) (by decide +kernel))
set_option maxRecDepth 20000 in
theorem gL_law_L_run : GoodIn wsL_law (va_wsS RL 59 yL_run wsL_run) := goodIn_app (goodIn_of _ (by decide +kernel)) ggL_law_L_run
set_option maxRecDepth 20000 in
theorem ggL_law_X6_run : GoodIn wsL_law wsX6_run := goodIn_r _ [498, 222, 99, 89, 499, 500, 91, 95, 92, 93, 501, 94, 101, 502, 503, 504, 5, 505, 220, 81, 80, 506, 507, 508, 509, 510, 511, 512, 513, 514, 515, 516, 517, 518, 519, 520, 521, 522, 523, 524, 245, 86, 87, 88, 100, 221, 85, 525, 526, 527, 528, 102, 103, 82, 83, 84, 529, 530, 531, 532, 533, 534, 535, 576, 577, 578, 579, 580, 581, 582, 583, 584, 585, 586, 587, 588, 589, 590, 591, 592, 593, 594, 595, 596, 597, 598, 599, 600, 601, 602, 603, 604, 605, 606, 607, 608, 609] (by decide +kernel) (by decide +kernel)
set_option maxRecDepth 20000 in
theorem gL_law_X6_run : GoodIn wsL_law (wsV RL 62 RX6 yX6_run wsX6_run) := goodIn_app (goodIn_of _ (by decide +kernel)) ggL_law_X6_run
set_option maxRecDepth 20000 in
theorem ggL_law_L_value : GoodIn wsL_law wsL_value := goodIn_ca (goodIn_r _ [538, 539, 540, 541, 542, 2, 543, 544, 545, 23, 433, 434, 435, 419, 420, 421, 436, 437, 438, 439, 27, 28, 618, 619, 620, 621, 622, 623, 569, 570, 571, 572, 573, 574, 575] (by decide +kernel) (by decide +kernel)) (goodIn_sub (fun _ h => List.mem_append_right _ h) (by decide +kernel))
set_option maxRecDepth 20000 in
theorem gL_law_L_value : GoodIn wsL_law (va_wsS RL 63 yL_value wsL_value) := goodIn_app (goodIn_of _ (by decide +kernel)) ggL_law_L_value
set_option maxRecDepth 20000 in
theorem ggL_law_X6_value : GoodIn wsL_law wsX6_value := goodIn_r _ [549, 222, 91, 92, 89, 576, 577, 578, 579, 580, 581, 582, 583, 584, 585, 586, 587, 588, 589, 590, 591, 592, 593, 594, 595, 596, 597, 598, 599, 600, 601, 602, 603, 604, 605, 606, 607, 608, 609] (by decide +kernel) (by decide +kernel)
set_option maxRecDepth 20000 in
theorem gL_law_X6_value : GoodIn wsL_law (wsV RL 65 RX6 yX6_value wsX6_value) := goodIn_app (goodIn_of _ (by decide +kernel)) ggL_law_X6_value
set_option maxRecDepth 20000 in
theorem ggL_law_L_left : GoodIn wsL_law wsL_left := goodIn_ca (goodIn_r _ [552, 539, 553, 554, 555, 2, 556, 544, 545, 433, 434, 435, 436, 437, 438, 439, 27, 28, 618, 619, 620, 621, 622, 623, 569, 570, 571, 572, 573, 574, 575] (by decide +kernel) (by decide +kernel)) (goodIn_sub (fun _ h => List.mem_append_right _ h) (by decide +kernel))
set_option maxRecDepth 20000 in
theorem gL_law_L_left : GoodIn wsL_law (va_wsS RL 66 yL_left wsL_left) := goodIn_app (goodIn_of _ (by decide +kernel)) ggL_law_L_left
set_option maxRecDepth 20000 in
theorem ggL_law_X6_left : GoodIn wsL_law wsX6_left := goodIn_r _ [560, 93, 222, 94, 576, 577, 578, 579, 580, 581, 582, 583, 584, 585, 586, 587, 588, 589, 590, 591, 592, 593, 594, 595, 596, 597, 598, 599, 600, 601, 602, 603, 604, 605, 606, 607, 608, 609] (by decide +kernel) (by decide +kernel)
set_option maxRecDepth 20000 in
theorem gL_law_X6_left : GoodIn wsL_law (wsV RL 68 RX6 yX6_left wsX6_left) := goodIn_app (goodIn_of _ (by decide +kernel)) ggL_law_X6_left
set_option maxRecDepth 20000 in
theorem ggL_law_X5_count : GoodIn wsL_law wsX5_count := goodIn_r _ [564, 17, 22, 21, 27, 28, 569, 570, 571, 572, 573, 574, 575, 610, 611, 612, 628, 629, 630, 613, 614, 615, 616, 617, 618, 619, 620, 621, 622, 623] (by decide +kernel) (by decide +kernel)
set_option maxRecDepth 20000 in
theorem gL_law_X5_count : GoodIn wsL_law (wsV RL 69 RX5 yX5_count wsX5_count) := goodIn_app (goodIn_of _ (by decide +kernel)) ggL_law_X5_count
set_option maxRecDepth 20000 in
theorem ggL_law_X6_count : GoodIn wsL_law wsX6_count := goodIn_r _ [568, 222, 220, 245, 240, 221, 95, 576, 577, 578, 579, 580, 581, 582, 583, 584, 585, 586, 587, 588, 589, 590, 591, 592, 593, 594, 595, 596, 597, 598, 599, 600, 601, 602, 603, 604, 605, 606, 607, 608, 609] (by decide +kernel) (by decide +kernel)
set_option maxRecDepth 20000 in
theorem gL_law_X6_count : GoodIn wsL_law (wsV RL 72 RX6 yX6_count wsX6_count) := goodIn_app (goodIn_of _ (by decide +kernel)) ggL_law_X6_count
