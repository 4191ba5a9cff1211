set_option maxRecDepth 20000 in
theorem ggX3_init_X0_init : GoodIn wsX3_init wsX0_init := goodIn_r _ [13, 14, 2, 3, 15, 29, 30, 31, 32, 33, 34, 35, 36, 37, 38, 39, 40] (by decide +kernel) (by decide +kernel)
set_option maxRecDepth 20000 in
theorem gX3_init_X0_init_n19 : GoodIn wsX3_init (wsX0_init) := ggX3_init_X0_init
set_option maxRecDepth 20000 in
theorem ggX3_init_X1_init : GoodIn wsX3_init wsX1_init := goodIn_r _ [17, 18, 2, 3] (by decide +kernel) (by decide +kernel)
set_option maxRecDepth 20000 in
theorem gX3_init_X1_init_n24 : GoodIn wsX3_init (wsX1_init) := ggX3_init_X1_init
set_option maxRecDepth 20000 in
theorem ggX3_isOuter_X1_isOuter : GoodIn wsX3_isOuter wsX1_isOuter := goodIn_r _ [7, 8, 19, 20, 21, 22, 23, 24, 25, 26] (by decide +kernel) (by decide +kernel)
set_option maxRecDepth 20000 in
theorem gX3_isOuter_X1_isOuter : GoodIn wsX3_isOuter (wsV RX3 48 RX1 yX1_isOuter wsX1_isOuter) := goodIn_app (goodIn_of _ (by decide +kernel)) ggX3_isOuter_X1_isOuter
set_option maxRecDepth 20000 in
theorem ggX3_hasPlaceFor_X3_greatestAfter : GoodIn wsX3_hasPlaceFor wsX3_greatestAfter := goodIn_r _ [8, 9, 2, 10, 11, 12, 13, 14, 15, 16, 21, 22, 23, 24, 25, 26, 27, 28, 29, 30, 31, 32, 33, 34, 35, 36, 37, 38] (by decide +kernel) (by decide +kernel)
set_option maxRecDepth 20000 in
theorem gX3_hasPlaceFor_X3_greatestAfter : GoodIn wsX3_hasPlaceFor (wsV RX3 52 RX3 yX3_greatestAfter wsX3_greatestAfter) := goodIn_app (goodIn_of _ (by decide +kernel)) ggX3_hasPlaceFor_X3_greatestAfter
set_option maxRecDepth 20000 in
theorem ggX3_hasPlaceFor_X3_isOuter : GoodIn wsX3_hasPlaceFor wsX3_isOuter := goodIn_r _ [20, 9, 2, 11, 12, 13, 14, 15, 16, 21, 22, 23, 24, 25, 26, 27, 28, 29, 30, 31, 32, 33, 34, 35, 36, 37, 38] (by decide +kernel) (by decide +kernel)
set_option maxRecDepth 20000 in
theorem gX3_hasPlaceFor_X3_isOuter : GoodIn wsX3_hasPlaceFor (wsV RX3 56 RX3 yX3_isOuter wsX3_isOuter) := goodIn_app (goodIn_of _ (by decide +kernel)) ggX3_hasPlaceFor_X3_isOuter
set_option maxRecDepth 20000 in
theorem ggX3_greatestAfter_X1_isOuter : GoodIn wsX3_greatestAfter wsX1_isOuter := goodIn_r _ [8, 9, 20, 21, 22, 23, 24, 25, 26, 27] (by decide +kernel) (by decide +kernel)
set_option maxRecDepth 20000 in
theorem gX3_greatestAfter_X1_isOuter : GoodIn wsX3_greatestAfter (wsV RX3 48 RX1 yX1_isOuter wsX1_isOuter) := goodIn_app (goodIn_of _ (by decide +kernel)) ggX3_greatestAfter_X1_isOuter
set_option maxRecDepth 20000 in
theorem ggX3_addRequest_X1_layDown : GoodIn wsX3_addRequest wsX1_layDown := goodIn_r _ [7, 8, 9, 10, 11, 12, 23, 24, 25, 26, 27, 28, 29, 30] (by decide +kernel) (by decide +kernel)
set_option maxRecDepth 20000 in
theorem gX3_addRequest_X1_layDown : GoodIn wsX3_addRequest (wsV RX3 65 RX1 yX1_layDown wsX1_layDown) := goodIn_app (goodIn_of _ (by decide +kernel)) ggX3_addRequest_X1_layDown
set_option maxRecDepth 20000 in
theorem ggX3_longestStay_X1_isOuter : GoodIn wsX3_longestStay wsX1_isOuter := goodIn_r _ [13, 14, 25, 26, 27, 28, 29, 30, 31, 32] (by decide +kernel) (by decide +kernel)
set_option maxRecDepth 20000 in
theorem gX3_longestStay_X1_isOuter : GoodIn wsX3_longestStay (wsV RX3 48 RX1 yX1_isOuter wsX1_isOuter) := goodIn_app (goodIn_of _ (by decide +kernel)) ggX3_longestStay_X1_isOuter
set_option maxRecDepth 20000 in
theorem ggX3_startJob_X1_startJob : GoodIn wsX3_startJob wsX1_startJob := goodIn_r _ [8, 9, 10, 11, 43, 44, 45, 46, 47, 48, 49, 50] (by decide +kernel) (by decide +kernel)
set_option maxRecDepth 20000 in
theorem gX3_startJob_X1_startJob : GoodIn wsX3_startJob (wsV RX3 78 RX1 yX1_startJob wsX1_startJob) := goodIn_app (goodIn_of _ (by decide +kernel)) ggX3_startJob_X1_startJob
set_option maxRecDepth 20000 in
theorem ggX3_startJob_X3_outerFrom : GoodIn wsX3_startJob wsX3_outerFrom := goodIn_r _ [16, 1, 2, 17, 18, 19, 7, 20, 21, 33, 34, 35, 36, 37, 38, 39, 40, 41, 42, 43, 44, 45, 46, 47, 48, 49, 50] (by decide +kernel) (by decide +kernel)
set_option maxRecDepth 20000 in
theorem gX3_startJob_X3_outerFrom : GoodIn wsX3_startJob (wsV RX3 81 RX3 yX3_outerFrom wsX3_outerFrom) := goodIn_app (goodIn_of _ (by decide +kernel)) ggX3_startJob_X3_outerFrom
set_option maxRecDepth 20000 in
theorem ggX3_startJob_X0_start : GoodIn wsX3_startJob wsX0_start := goodIn_r _ [26, 27, 28, 29, 30, 31, 32, 51, 52, 53, 54, 55, 56, 57, 58, 59, 60, 61, 62] (by decide +kernel) (by decide +kernel)
set_option maxRecDepth 20000 in
theorem gX3_startJob_X0_start : GoodIn wsX3_startJob (wsV RX3 85 RX0 yX0_start wsX0_start) := goodIn_app (goodIn_of _ (by decide +kernel)) ggX3_startJob_X0_start
set_option maxRecDepth 20000 in
theorem ggX3_endJob_X0_end : GoodIn wsX3_endJob wsX0_end := goodIn_r _ [7, 8, 9, 10, 11, 12, 13, 14, 15, 16, 17, 28, 29, 30, 31, 32, 33, 34, 35, 36, 37, 38, 39] (by decide +kernel) (by decide +kernel)
set_option maxRecDepth 20000 in
theorem gX3_endJob_X0_end : GoodIn wsX3_endJob (wsV RX3 89 RX0 yX0_end wsX0_end) := goodIn_app (goodIn_of _ (by decide +kernel)) ggX3_endJob_X0_end
set_option maxRecDepth 20000 in
theorem ggX3_forgetJobs_X1_forgetJobs : GoodIn wsX3_forgetJobs wsX1_forgetJobs := goodIn_r _ [8, 9, 10, 31, 32, 33, 34, 35, 36, 37, 38] (by decide +kernel) (by decide +kernel)
set_option maxRecDepth 20000 in
theorem gX3_forgetJobs_X1_forgetJobs : GoodIn wsX3_forgetJobs (wsV RX3 92 RX1 yX1_forgetJobs wsX1_forgetJobs) := goodIn_app (goodIn_of _ (by decide +kernel)) ggX3_forgetJobs_X1_forgetJobs
set_option maxRecDepth 20000 in
theorem ggX3_forgetJobs_X0_forget : GoodIn wsX3_forgetJobs wsX0_forget := goodIn_r _ [15, 16, 17, 18, 19, 20, 39, 40, 41, 42, 43, 44, 45, 46, 47, 48, 49, 50] (by decide +kernel) (by decide +kernel)
set_option maxRecDepth 20000 in
theorem gX3_forgetJobs_X0_forget : GoodIn wsX3_forgetJobs (wsV RX3 95 RX0 yX0_forget wsX0_forget) := goodIn_app (goodIn_of _ (by decide +kernel)) ggX3_forgetJobs_X0_forget
set_option maxRecDepth 20000 in
theorem ggX3_outerFrom_X1_isOuter : GoodIn wsX3_outerFrom wsX1_isOuter := goodIn_r _ [7, 8, 19, 20, 21, 22, 23, 24, 25, 26] (by decide +kernel) (by decide +kernel)
set_option maxRecDepth 20000 in
theorem gX3_outerFrom_X1_isOuter : GoodIn wsX3_outerFrom (wsV RX3 48 RX1 yX1_isOuter wsX1_isOuter) := goodIn_app (goodIn_of _ (by decide +kernel)) ggX3_outerFrom_X1_isOuter
set_option maxRecDepth 20000 in
theorem ggX3_hasToAsk_X3_nextRequest : GoodIn wsX3_hasToAsk wsX3_nextRequest := goodIn_r _ [10, 11, 1, 2, 12, 13, 14, 15, 16, 17, 18, 19, 20, 21, 22, 23, 24, 25, 26, 27, 28, 29, 30, 31, 32, 33, 34, 35, 36, 37] (by decide +kernel) (by decide +kernel)
set_option maxRecDepth 20000 in
theorem gX3_hasToAsk_X3_nextRequest : GoodIn wsX3_hasToAsk (wsV RX3 104 RX3 yX3_nextRequest wsX3_nextRequest) := goodIn_app (goodIn_of _ (by decide +kernel)) ggX3_hasToAsk_X3_nextRequest
set_option maxRecDepth 20000 in
theorem ggX3_spinFor_X3_nextRequest : GoodIn wsX3_spinFor wsX3_nextRequest := goodIn_r _ [12, 13, 1, 14, 15, 16, 6, 17, 18, 19, 20, 21, 22, 23, 24, 25, 26, 27, 28, 29, 30, 31, 32, 33, 34, 35, 36, 37, 38, 39] (by decide +kernel) (by decide +kernel)
set_option maxRecDepth 20000 in
theorem gX3_spinFor_X3_nextRequest : GoodIn wsX3_spinFor (wsV RX3 104 RX3 yX3_nextRequest wsX3_nextRequest) := goodIn_app (goodIn_of _ (by decide +kernel)) ggX3_spinFor_X3_nextRequest
set_option maxRecDepth 20000 in
theorem ggX3_startHolding_X3_nextRequest : GoodIn wsX3_startHolding wsX3_nextRequest := goodIn_r _ [9, 10, 1, 11, 12, 13, 14, 15, 16, 17, 18, 19, 20, 21, 22, 23, 24, 25, 26, 27, 28, 29, 30, 31, 32, 33, 34, 35, 36, 37] (by decide +kernel) (by decide +kernel)
set_option maxRecDepth 20000 in
theorem gX3_startHolding_X3_nextRequest : GoodIn wsX3_startHolding (wsV RX3 104 RX3 yX3_nextRequest wsX3_nextRequest) := goodIn_app (goodIn_of _ (by decide +kernel)) ggX3_startHolding_X3_nextRequest
set_option maxRecDepth 20000 in
theorem ggX3_leaveSection_X3_outerFrom : GoodIn wsX3_leaveSection wsX3_outerFrom := goodIn_r _ [8, 9, 10, 11, 12, 13, 14, 15, 16, 17, 18, 19, 20, 21, 22, 23, 24, 25, 26, 39, 40, 41, 42, 43, 44, 45, 46] (by decide +kernel) (by decide +kernel)
set_option maxRecDepth 20000 in
theorem gX3_leaveSection_X3_outerFrom : GoodIn wsX3_leaveSection (wsV RX3 81 RX3 yX3_outerFrom wsX3_outerFrom) := goodIn_app (goodIn_of _ (by decide +kernel)) ggX3_leaveSection_X3_outerFrom
set_option maxRecDepth 20000 in
theorem ggX3_ticksToChange_X3_nextRequest : GoodIn wsX3_ticksToChange wsX3_nextRequest := goodIn_r _ [13, 14, 1, 4, 15, 16, 17, 18, 19, 20, 21, 22, 23, 24, 25, 26, 27, 28, 29, 30, 31, 32, 33, 34, 35, 36, 37, 38, 39, 40] (by decide +kernel) (by decide +kernel)
set_option maxRecDepth 20000 in
theorem gX3_ticksToChange_X3_nextRequest : GoodIn wsX3_ticksToChange (wsV RX3 104 RX3 yX3_nextRequest wsX3_nextRequest) := goodIn_app (goodIn_of _ (by decide +kernel)) ggX3_ticksToChange_X3_nextRequest
set_option maxRecDepth 20000 in
theorem ggX4_init_X3_init : GoodIn wsX4_init wsX3_init := goodIn_r _ [20, 21, 2, 3, 22, 23, 24, 25, 26, 27, 28, 29, 30, 31, 32, 33, 34, 35, 36, 53, 54, 55, 56, 57, 58, 59, 60, 61, 62, 65, 66, 67, 68, 69, 70, 71, 72, 73, 74, 75, 76, 77, 78, 79, 80, 81, 82, 83, 84] (by decide +kernel) (by decide +kernel)
set_option maxRecDepth 20000 in
theorem gX4_init_X3_init : GoodIn wsX4_init (wsX3_init) := ggX4_init_X3_init
set_option maxRecDepth 20000 in
theorem ggX4_init_X2_init : GoodIn wsX4_init wsX2_init := goodIn_r _ [38, 39, 2, 3, 8, 40, 63, 64] (by decide +kernel) (by decide +kernel)
set_option maxRecDepth 20000 in
theorem gX4_init_X2_init_n37 : GoodIn wsX4_init (wsX2_init) := ggX4_init_X2_init
set_option maxRecDepth 20000 in
theorem ggX4_init_J7_fill_53178 : GoodIn wsX4_init wsJ7_fill_53178 := goodIn_r _ [44] (by decide +kernel) (by decide +kernel)
set_option maxRecDepth 20000 in
theorem gX4_init_J7_fill_53178 : GoodIn wsX4_init (va_wsS RX4 38 yJ7_fill_53178 wsJ7_fill_53178) := goodIn_app (goodIn_of _ (by decide +kernel)) ggX4_init_J7_fill_53178
set_option maxRecDepth 20000 in
theorem ggX4_task_X4_isWithin : GoodIn wsX4_task wsX4_isWithin := goodIn_r _ [13] (by decide +kernel) (by decide +kernel)
set_option maxRecDepth 20000 in
theorem gX4_task_X4_isWithin : GoodIn wsX4_task (va_wsS RX4 44 yX4_isWithin wsX4_isWithin) := goodIn_app (goodIn_of _ (by decide +kernel)) ggX4_task_X4_isWithin
set_option maxRecDepth 20000 in
theorem ggX4_task_X4_isPriorityTaken : GoodIn wsX4_task wsX4_isPriorityTaken := goodIn_r _ [17, 8, 18, 19, 20, 21, 22, 23, 24, 25, 87, 88, 89, 90, 91, 92, 93, 94, 95, 96, 97, 98, 99, 100, 101, 102, 103, 104] (by decide +kernel) (by decide +kernel)
set_option maxRecDepth 20000 in
theorem gX4_task_X4_isPriorityTaken : GoodIn wsX4_task (wsV RX4 61 RX4 yX4_isPriorityTaken wsX4_isPriorityTaken) := goodIn_app (goodIn_of _ (by decide +kernel)) ggX4_task_X4_isPriorityTaken
set_option maxRecDepth 20000 in
theorem ggX4_task_X3_layDown : GoodIn wsX4_task wsX3_layDown := goodIn_r _ [29, 24, 25, 30, 31, 32, 33, 34, 95, 96, 97, 98, 99, 100, 101, 102, 103, 104] (by decide +kernel) (by decide +kernel)
set_option maxRecDepth 20000 in
theorem gX4_task_X3_layDown : GoodIn wsX4_task (wsV RX4 68 RX3 yX3_layDown wsX3_layDown) := goodIn_app (goodIn_of _ (by decide +kernel)) ggX4_task_X3_layDown
set_option maxRecDepth 20000 in
theorem ggX4_task_X4_measure : GoodIn wsX4_task wsX4_measure := goodIn_r _ [38, 8, 9, 39, 40, 41, 12, 42, 43, 44, 45, 46, 47, 48, 49, 50, 51, 52, 53, 54, 55, 56, 57, 58, 59, 60, 61, 62, 63, 64, 65, 66, 67, 68, 69, 70, 71, 72, 73, 74, 75, 76, 77, 78, 79, 80, 81, 82, 83, 84, 85, 86, 87, 88, 89, 90, 91, 92, 93, 94, 95, 96, 97, 98, 99, 100, 101, 102, 103, 104, 105, 106, 107, 108, 109, 110, 111, 112] (by decide +kernel) (by decide +kernel)
set_option maxRecDepth 20000 in
theorem gX4_task_X4_measure : GoodIn wsX4_task (wsV RX4 72 RX4 yX4_measure wsX4_measure) := goodIn_app (goodIn_of _ (by decide +kernel)) ggX4_task_X4_measure
set_option maxRecDepth 20000 in
theorem ggX4_request_X4_taskAt : GoodIn wsX4_request wsX4_taskAt := goodIn_ca (goodIn_r _ [11, 12, 13, 14, 15, 16, 17, 10, 18, 101, 102, 103, 104, 105, 106, 107, 108, 109, 110, 111, 112, 113, 114, 115, 116, 117, 118] (by decide +kernel) (by decide +kernel)) (goodIn_sub (fun _ h => List.mem_cons_of_mem _ (List.mem_append_right _ h)) (by decide +kernel))
set_option maxRecDepth 20000 in
theorem gX4_request_X4_taskAt : GoodIn wsX4_request (wsV RX4 75 RX4 yX4_taskAt wsX4_taskAt) := goodIn_app (goodIn_of _ (by decide +kernel)) ggX4_request_X4_taskAt
set_option maxRecDepth 20000 in
theorem ggX4_request_X4_isWithin : GoodIn wsX4_request wsX4_isWithin := goodIn_r _ [18] (by decide +kernel) (by decide +kernel)
set_option maxRecDepth 20000 in
theorem gX4_request_X4_isWithin : GoodIn wsX4_request (va_wsS RX4 44 yX4_isWithin wsX4_isWithin) := goodIn_app (goodIn_of _ (by decide +kernel)) ggX4_request_X4_isWithin
set_option maxRecDepth 20000 in
theorem ggX4_request_X3_hasPlaceFor : GoodIn wsX4_request wsX3_hasPlaceFor := goodIn_r _ [23, 24, 25, 26, 27, 28, 29, 22, 30, 31, 32, 33, 34, 35, 36, 37, 38, 39, 40, 41, 42, 109, 110, 111, 112, 113, 114, 115, 116, 117, 118, 119, 120, 121, 122, 123, 124, 125, 126] (by decide +kernel) (by decide +kernel)
set_option maxRecDepth 20000 in
theorem gX4_request_X3_hasPlaceFor : GoodIn wsX4_request (wsV RX4 83 RX3 yX3_hasPlaceFor wsX3_hasPlaceFor) := goodIn_app (goodIn_of _ (by decide +kernel)) ggX4_request_X3_hasPlaceFor
set_option maxRecDepth 20000 in
theorem ggX4_request_X3_addRequest : GoodIn wsX4_request wsX3_addRequest := goodIn_r _ [46, 31, 25, 47, 48, 49, 36, 50, 51, 52, 53, 38, 54, 109, 110, 111, 112, 113, 114, 115, 116, 117, 118, 119, 120, 121, 122, 123, 124, 125, 126] (by decide +kernel) (by decide +kernel)
set_option maxRecDepth 20000 in
theorem gX4_request_X3_addRequest : GoodIn wsX4_request (wsV RX4 86 RX3 yX3_addRequest wsX3_addRequest) := goodIn_app (goodIn_of _ (by decide +kernel)) ggX4_request_X3_addRequest
set_option maxRecDepth 20000 in
theorem ggX4_request_X4_measure : GoodIn wsX4_request wsX4_measure := goodIn_r _ [58, 14, 15, 59, 60, 61, 10, 62, 63, 6, 64, 65, 66, 67, 34, 35, 36, 37, 38, 68, 69, 70, 71, 72, 73, 74, 75, 76, 77, 78, 79, 80, 81, 82, 83, 84, 85, 86, 87, 88, 89, 90, 91, 92, 93, 94, 95, 96, 97, 98, 99, 100, 101, 102, 103, 104, 105, 106, 107, 108, 109, 110, 111, 112, 113, 114, 115, 116, 117, 118, 119, 120, 121, 122, 123, 124, 125, 126] (by decide +kernel) (by decide +kernel)
set_option maxRecDepth 20000 in
theorem gX4_request_X4_measure : GoodIn wsX4_request (wsV RX4 72 RX4 yX4_measure wsX4_measure) := goodIn_app (goodIn_of _ (by decide +kernel)) ggX4_request_X4_measure
set_option maxRecDepth 20000 in
theorem ggX4_take_X4_taskAt : GoodIn wsX4_take wsX4_taskAt := goodIn_ca (goodIn_r _ [9, 10, 11, 12, 4, 13, 14, 8, 15, 68, 69, 70, 71, 72, 73, 74, 75, 76, 77, 78, 79, 80, 81, 82, 83, 84, 85] (by decide +kernel) (by decide +kernel)) (goodIn_sub (fun _ h => List.mem_cons_of_mem _ (List.mem_append_right _ h)) (by decide +kernel))
set_option maxRecDepth 20000 in
theorem gX4_take_X4_taskAt : GoodIn wsX4_take (wsV RX4 75 RX4 yX4_taskAt wsX4_taskAt) := goodIn_app (goodIn_of _ (by decide +kernel)) ggX4_take_X4_taskAt
set_option maxRecDepth 20000 in
theorem ggX4_take_X4_measure : GoodIn wsX4_take wsX4_measure := goodIn_r _ [19, 12, 4, 20, 21, 22, 8, 23, 24, 25, 26, 27, 28, 29, 30, 31, 32, 33, 34, 35, 36, 37, 38, 39, 40, 41, 42, 43, 44, 45, 46, 47, 48, 49, 50, 51, 52, 53, 54, 55, 56, 57, 58, 59, 60, 61, 62, 63, 64, 65, 66, 67, 68, 69, 70, 71, 72, 73, 74, 75, 76, 77, 78, 79, 80, 81, 82, 83, 84, 85, 86, 87, 88, 89, 90, 91, 92, 93] (by decide +kernel) (by decide +kernel)
set_option maxRecDepth 20000 in
theorem gX4_take_X4_measure : GoodIn wsX4_take (wsV RX4 72 RX4 yX4_measure wsX4_measure) := goodIn_app (goodIn_of _ (by decide +kernel)) ggX4_take_X4_measure
set_option maxRecDepth 20000 in
theorem ggX4_group_X4_isWithin : GoodIn wsX4_group wsX4_isWithin := goodIn_r _ [7] (by decide +kernel) (by decide +kernel)
set_option maxRecDepth 20000 in
theorem gX4_group_X4_isWithin : GoodIn wsX4_group (va_wsS RX4 44 yX4_isWithin wsX4_isWithin) := goodIn_app (goodIn_of _ (by decide +kernel)) ggX4_group_X4_isWithin
set_option maxRecDepth 20000 in
theorem ggX4_spin_X4_taskAt : GoodIn wsX4_spin wsX4_taskAt := goodIn_ca (goodIn_r _ [6, 7, 8, 9, 10, 11, 12, 5, 13, 27, 28, 29, 30, 31, 32, 33, 34, 35, 36, 37, 38, 39, 40, 41, 42, 43, 44] (by decide +kernel) (by decide +kernel)) (goodIn_sub (fun _ h => List.mem_cons_of_mem _ (List.mem_append_right _ h)) (by decide +kernel))
set_option maxRecDepth 20000 in
theorem gX4_spin_X4_taskAt : GoodIn wsX4_spin (wsV RX4 75 RX4 yX4_taskAt wsX4_taskAt) := goodIn_app (goodIn_of _ (by decide +kernel)) ggX4_spin_X4_taskAt
set_option maxRecDepth 20000 in
theorem ggX4_spin_X4_requestAt : GoodIn wsX4_spin wsX4_requestAt := goodIn_ca (goodIn_r _ [16, 7, 8, 17, 18, 11, 12, 5, 13, 35, 36, 37, 38, 39, 40, 41, 42, 43, 44] (by decide +kernel) (by decide +kernel)) (goodIn_sub (fun _ h => List.mem_cons_of_mem _ (List.mem_append_right _ h)) (by decide +kernel))
set_option maxRecDepth 20000 in
theorem gX4_spin_X4_requestAt : GoodIn wsX4_spin (va_wsS RX4 90 yX4_requestAt wsX4_requestAt) := goodIn_app (goodIn_of _ (by decide +kernel)) ggX4_spin_X4_requestAt
set_option maxRecDepth 20000 in
theorem ggX4_bound_X4_taskAt : GoodIn wsX4_bound wsX4_taskAt := goodIn_ca (goodIn_r _ [8, 9, 10, 11, 12, 13, 14, 7, 15, 72, 73, 74, 75, 76, 77, 78, 79, 62, 63, 64, 65, 66, 67, 68, 69, 70, 71] (by decide +kernel) (by decide +kernel)) (goodIn_sub (fun _ h => List.mem_cons_of_mem _ (List.mem_append_right _ h)) (by decide +kernel))
set_option maxRecDepth 20000 in
theorem gX4_bound_X4_taskAt : GoodIn wsX4_bound (wsV RX4 75 RX4 yX4_taskAt wsX4_taskAt) := goodIn_app (goodIn_of _ (by decide +kernel)) ggX4_bound_X4_taskAt
set_option maxRecDepth 20000 in
theorem ggX4_bound_X4_blockingOf : GoodIn wsX4_bound wsX4_blockingOf := goodIn_r _ [19, 11, 20, 21, 22, 23, 24, 25, 26, 27, 28, 29, 30, 31, 32, 33, 34, 35, 36, 37, 38, 39, 40, 41, 42, 43, 44, 45, 46, 47, 72, 73, 74, 75, 76, 77, 78, 79, 62, 63, 64, 65, 66, 67, 68, 69, 70, 71, 80, 81, 82, 83, 84, 85, 86, 87] (by decide +kernel) (by decide +kernel)
set_option maxRecDepth 20000 in
theorem gX4_bound_X4_blockingOf : GoodIn wsX4_bound (wsV RX4 102 RX4 yX4_blockingOf wsX4_blockingOf) := goodIn_app (goodIn_of _ (by decide +kernel)) ggX4_bound_X4_blockingOf
set_option maxRecDepth 20000 in
theorem ggX4_bound_X4_responseOf : GoodIn wsX4_bound wsX4_responseOf := goodIn_r _ [51, 3, 52, 16, 17, 18, 7, 19, 11, 20, 21, 22, 23, 24, 25, 26, 27, 28, 29, 30, 31, 32, 33, 34, 35, 36, 37, 38, 39, 40, 41, 42, 43, 44, 45, 46, 47, 53, 54, 55, 56, 57, 58, 59, 60, 61, 62, 63, 64, 65, 66, 67, 68, 69, 70, 71, 72, 73, 74, 75, 76, 77, 78, 79, 80, 81, 82, 83, 84, 85, 86, 87] (by decide +kernel) (by decide +kernel)
set_option maxRecDepth 20000 in
theorem gX4_bound_X4_responseOf : GoodIn wsX4_bound (wsV RX4 106 RX4 yX4_responseOf wsX4_responseOf) := goodIn_app (goodIn_of _ (by decide +kernel)) ggX4_bound_X4_responseOf
set_option maxRecDepth 20000 in
theorem ggX4_seal_X4_responseOf : GoodIn wsX4_seal wsX4_responseOf := goodIn_r _ [10, 11, 12, 13, 14, 15, 9, 16, 4, 17, 18, 19, 20, 21, 22, 23, 24, 25, 26, 27, 28, 29, 30, 31, 32, 33, 34, 35, 36, 37, 38, 39, 40, 41, 42, 43, 44, 45, 46, 47, 48, 49, 50, 51, 52, 53, 62, 63, 64, 65, 66, 67, 68, 69, 70, 71, 54, 55, 56, 57, 58, 59, 60, 61, 72, 73, 74, 75, 76, 77, 78, 79] (by decide +kernel) (by decide +kernel)
set_option maxRecDepth 20000 in
theorem gX4_seal_X4_responseOf : GoodIn wsX4_seal (wsV RX4 106 RX4 yX4_responseOf wsX4_responseOf) := goodIn_app (goodIn_of _ (by decide +kernel)) ggX4_seal_X4_responseOf
set_option maxRecDepth 20000 in
theorem ggX4_unseal_X4_isAnyJobOpen : GoodIn wsX4_unseal wsX4_isAnyJobOpen := goodIn_r _ [12, 7, 13, 14, 44, 45, 46, 47, 48, 49, 50, 51, 52, 53, 54, 55, 56, 57, 58, 59, 60, 61, 62, 63, 64, 65, 66, 67, 68, 69, 70, 71, 72, 73] (by decide +kernel) (by decide +kernel)
set_option maxRecDepth 20000 in
theorem gX4_unseal_X4_isAnyJobOpen : GoodIn wsX4_unseal (wsV RX4 109 RX4 yX4_isAnyJobOpen wsX4_isAnyJobOpen) := goodIn_app (goodIn_of _ (by decide +kernel)) ggX4_unseal_X4_isAnyJobOpen
set_option maxRecDepth 20000 in
theorem ggX4_unseal_J7_fill_53178 : GoodIn wsX4_unseal wsJ7_fill_53178 := goodIn_r _ [18] (by decide +kernel) (by decide +kernel)
set_option maxRecDepth 20000 in
theorem gX4_unseal_J7_fill_53178 : GoodIn wsX4_unseal (va_wsS RX4 38 yJ7_fill_53178 wsJ7_fill_53178) := goodIn_app (goodIn_of _ (by decide +kernel)) ggX4_unseal_J7_fill_53178
set_option maxRecDepth 20000 in
theorem ggX4_unseal_X3_forgetJobs : GoodIn wsX4_unseal wsX3_forgetJobs := goodIn_r _ [23, 24, 25, 26, 27, 28, 29, 30, 31, 32, 33, 34, 35, 36, 37, 38, 39, 40, 41, 42, 43, 52, 53, 54, 55, 56, 57, 58, 59, 60, 61, 74, 75, 76, 77, 78, 79, 80, 81, 62, 63, 64, 65, 66, 67, 68, 69, 70, 71, 72, 73] (by decide +kernel) (by decide +kernel)
set_option maxRecDepth 20000 in
theorem gX4_unseal_X3_forgetJobs : GoodIn wsX4_unseal (wsV RX4 116 RX3 yX3_forgetJobs wsX3_forgetJobs) := goodIn_app (goodIn_of _ (by decide +kernel)) ggX4_unseal_X3_forgetJobs
set_option maxRecDepth 20000 in
theorem ggX4_arrive_X4_taskAt : GoodIn wsX4_arrive wsX4_taskAt := goodIn_ca (goodIn_r _ [13, 14, 15, 16, 17, 18, 19, 12, 20, 57, 58, 59, 60, 61, 62, 63, 64, 65, 66, 67, 68, 69, 70, 71, 72, 73, 74] (by decide +kernel) (by decide +kernel)) (goodIn_sub (fun _ h => List.mem_cons_of_mem _ (List.mem_append_right _ h)) (by decide +kernel))
set_option maxRecDepth 20000 in
theorem gX4_arrive_X4_taskAt : GoodIn wsX4_arrive (wsV RX4 75 RX4 yX4_taskAt wsX4_taskAt) := goodIn_app (goodIn_of _ (by decide +kernel)) ggX4_arrive_X4_taskAt
set_option maxRecDepth 20000 in
theorem ggX4_arrive_X3_startJob : GoodIn wsX4_arrive wsX3_startJob := goodIn_r _ [25, 26, 27, 28, 29, 30, 31, 32, 33, 34, 35, 36, 37, 38, 39, 24, 40, 41, 42, 43, 44, 45, 46, 47, 48, 49, 50, 51, 52, 53, 54, 55, 56, 65, 66, 67, 68, 69, 70, 71, 72, 73, 74, 87, 88, 89, 90, 91, 92, 93, 94, 75, 76, 77, 78, 79, 80, 81, 82, 83, 84, 85, 86] (by decide +kernel) (by decide +kernel)
set_option maxRecDepth 20000 in
theorem gX4_arrive_X3_startJob : GoodIn wsX4_arrive (wsV RX4 134 RX3 yX3_startJob wsX3_startJob) := goodIn_app (goodIn_of _ (by decide +kernel)) ggX4_arrive_X3_startJob
set_option maxRecDepth 20000 in
theorem ggX4_shorten_X4_taskAt : GoodIn wsX4_shorten wsX4_taskAt := goodIn_ca (goodIn_r _ [12, 13, 14, 15, 16, 17, 18, 11, 19, 31, 32, 33, 34, 35, 36, 37, 38, 47, 48, 49, 50, 51, 52, 53, 54, 55, 56] (by decide +kernel) (by decide +kernel)) (goodIn_sub (fun _ h => List.mem_cons_of_mem _ (List.mem_append_right _ h)) (by decide +kernel))
set_option maxRecDepth 20000 in
theorem gX4_shorten_X4_taskAt : GoodIn wsX4_shorten (wsV RX4 75 RX4 yX4_taskAt wsX4_taskAt) := goodIn_app (goodIn_of _ (by decide +kernel)) ggX4_shorten_X4_taskAt
set_option maxRecDepth 20000 in
theorem ggX4_shorten_X4_requestAt : GoodIn wsX4_shorten wsX4_requestAt := goodIn_ca (goodIn_r _ [22, 13, 14, 23, 24, 17, 18, 11, 19, 47, 48, 49, 50, 51, 52, 53, 54, 55, 56] (by decide +kernel) (by decide +kernel)) (goodIn_sub (fun _ h => List.mem_cons_of_mem _ (List.mem_append_right _ h)) (by decide +kernel))
set_option maxRecDepth 20000 in
theorem gX4_shorten_X4_requestAt : GoodIn wsX4_shorten (va_wsS RX4 90 yX4_requestAt wsX4_requestAt) := goodIn_app (goodIn_of _ (by decide +kernel)) ggX4_shorten_X4_requestAt
set_option maxRecDepth 20000 in
theorem ggX4_shorten_X1_isOuter : GoodIn wsX4_shorten wsX1_isOuter := goodIn_r _ [29, 30, 39, 40, 41, 42, 43, 44, 45, 46] (by decide +kernel) (by decide +kernel)
set_option maxRecDepth 20000 in
theorem gX4_shorten_X1_isOuter : GoodIn wsX4_shorten (wsV RX4 138 RX1 yX1_isOuter wsX1_isOuter) := goodIn_app (goodIn_of _ (by decide +kernel)) ggX4_shorten_X1_isOuter
set_option maxRecDepth 20000 in
theorem ggX4_shorten_X4_isWithin : GoodIn wsX4_shorten wsX4_isWithin := goodIn_r _ [19] (by decide +kernel) (by decide +kernel)
set_option maxRecDepth 20000 in
theorem gX4_shorten_X4_isWithin : GoodIn wsX4_shorten (va_wsS RX4 44 yX4_isWithin wsX4_isWithin) := goodIn_app (goodIn_of _ (by decide +kernel)) ggX4_shorten_X4_isWithin
set_option maxRecDepth 20000 in
theorem ggX4_tick_X4_isWithin : GoodIn wsX4_tick wsX4_isWithin := goodIn_r _ [18] (by decide +kernel) (by decide +kernel)
set_option maxRecDepth 20000 in
theorem gX4_tick_X4_isWithin : GoodIn wsX4_tick (va_wsS RX4 44 yX4_isWithin wsX4_isWithin) := goodIn_app (goodIn_of _ (by decide +kernel)) ggX4_tick_X4_isWithin
set_option maxRecDepth 20000 in
theorem ggX4_tick_X4_takeJobs : GoodIn wsX4_tick wsX4_takeJobs := goodIn_r _ [22, 23, 24, 25, 26, 17, 27, 28, 29, 30, 31, 32, 33, 34, 35, 36, 37, 38, 39, 40, 41, 42, 43, 44, 45, 46, 47, 48, 49, 50, 51, 52, 53, 54, 55, 56, 57, 58, 59, 60, 61, 62, 63, 8, 9, 10, 64, 65, 66, 67, 68, 69, 70, 71, 72, 73, 74, 75, 76, 77, 78, 79, 80, 81, 82, 83, 168, 169, 170, 171, 172, 173, 174, 175, 176, 177, 178, 179, 180, 181, 182, 183, 184, 185, 186, 187, 188, 189, 190, 191, 192, 193, 194, 195, 196, 197, 198, 199, 200, 201, 202, 203, 204, 205, 206, 207] (by decide +kernel) (by decide +kernel)
set_option maxRecDepth 20000 in
theorem gX4_tick_X4_takeJobs : GoodIn wsX4_tick (wsV RX4 148 RX4 yX4_takeJobs wsX4_takeJobs) := goodIn_app (goodIn_of _ (by decide +kernel)) ggX4_tick_X4_takeJobs
set_option maxRecDepth 20000 in
theorem ggX4_tick_X4_letFirstsHold : GoodIn wsX4_tick wsX4_letFirstsHold := goodIn_r _ [87, 75, 23, 28, 29, 30, 88, 89, 90, 80, 91, 82, 83, 92, 93, 94, 40, 95, 53, 68, 96, 97, 58, 59, 60, 61, 62, 54, 63, 8, 9, 10, 168, 169, 170, 171, 172, 173, 174, 175, 176, 177, 178, 179, 180, 181, 182, 183, 184, 185, 186, 187, 188, 189, 190, 191, 192, 193, 194, 195, 196, 197, 206, 207, 198, 199, 200, 201, 202, 203, 204, 205] (by decide +kernel) (by decide +kernel)
set_option maxRecDepth 20000 in
theorem gX4_tick_X4_letFirstsHold : GoodIn wsX4_tick (wsV RX4 151 RX4 yX4_letFirstsHold wsX4_letFirstsHold) := goodIn_app (goodIn_of _ (by decide +kernel)) ggX4_tick_X4_letFirstsHold
set_option maxRecDepth 20000 in
theorem ggX4_tick_X4_ticksAlike : GoodIn wsX4_tick wsX4_ticksAlike := goodIn_r _ [101, 6, 23, 28, 29, 30, 7, 8, 9, 10, 102, 103, 104, 40, 105, 53, 68, 97, 54, 55, 56, 106, 57, 58, 59, 60, 61, 62, 63, 168, 169, 170, 171, 172, 173, 174, 175, 176, 177, 178, 179, 180, 181, 182, 183, 184, 185, 186, 187, 188, 189, 190, 191, 192, 193, 194, 195, 196, 197, 198, 199, 200, 201, 202, 203, 204, 205] (by decide +kernel) (by decide +kernel)
set_option maxRecDepth 20000 in
theorem gX4_tick_X4_ticksAlike : GoodIn wsX4_tick (wsV RX4 154 RX4 yX4_ticksAlike wsX4_ticksAlike) := goodIn_app (goodIn_of _ (by decide +kernel)) ggX4_tick_X4_ticksAlike
set_option maxRecDepth 20000 in
theorem ggX4_tick_X4_workOn : GoodIn wsX4_tick wsX4_workOn := goodIn_r _ [110, 23, 111, 28, 29, 30, 112, 113, 114, 17, 115, 116, 14, 117, 118, 119, 40, 120, 53, 69, 121, 122, 12, 9, 13, 58, 59, 60, 61, 62, 54, 63, 8, 10, 123, 124, 125, 126, 127, 48, 70, 71, 72, 73, 74, 75, 76, 128, 129, 130, 80, 131, 82, 83, 132, 133, 134, 135, 136, 68, 137, 138, 139, 140, 55, 141, 142, 143, 144, 145, 146, 147, 148, 149, 150, 57, 106, 151, 152, 153, 154, 155, 156, 157, 158, 159, 160, 161, 162, 163, 164, 165, 166, 167, 168, 169, 170, 171, 172, 173, 174, 175, 176, 177, 178, 179, 180, 181, 182, 183, 184, 185, 186, 187, 188, 189, 190, 191, 192, 193, 194, 195, 196, 197, 198, 199, 200, 201, 202, 203, 204, 205, 206, 207] (by decide +kernel) (by decide +kernel)
set_option maxRecDepth 20000 in
theorem gX4_tick_X4_workOn : GoodIn wsX4_tick (wsV RX4 167 RX4 yX4_workOn wsX4_workOn) := goodIn_app (goodIn_of _ (by decide +kernel)) ggX4_tick_X4_workOn
set_option maxRecDepth 20000 in
theorem ggX4_core_X4_isWithin : GoodIn wsX4_core wsX4_isWithin := goodIn_r _ [10] (by decide +kernel) (by decide +kernel)
set_option maxRecDepth 20000 in
theorem gX4_core_X4_isWithin : GoodIn wsX4_core (va_wsS RX4 44 yX4_isWithin wsX4_isWithin) := goodIn_app (goodIn_of _ (by decide +kernel)) ggX4_core_X4_isWithin
set_option maxRecDepth 20000 in
theorem ggX4_row_X4_isWithin : GoodIn wsX4_row wsX4_isWithin := goodIn_r _ [6] (by decide +kernel) (by decide +kernel)
set_option maxRecDepth 20000 in
theorem gX4_row_X4_isWithin : GoodIn wsX4_row (va_wsS RX4 44 yX4_isWithin wsX4_isWithin) := goodIn_app (goodIn_of _ (by decide +kernel)) ggX4_row_X4_isWithin
set_option maxRecDepth 20000 in
theorem ggX4_row_X4_rowOf : GoodIn wsX4_row wsX4_rowOf := goodIn_r _ [10, 11, 12, 20, 21, 22, 23, 24, 25, 26, 27] (by decide +kernel) (by decide +kernel)
set_option maxRecDepth 20000 in
theorem gX4_row_X4_rowOf : GoodIn wsX4_row (wsV RX4 171 RX4 yX4_rowOf wsX4_rowOf) := goodIn_app (goodIn_of _ (by decide +kernel)) ggX4_row_X4_rowOf
set_option maxRecDepth 20000 in
theorem ggX4_row_X2_coreAt : GoodIn wsX4_row wsX2_coreAt := goodIn_r _ [17, 18, 19, 28, 29] (by decide +kernel) (by decide +kernel)
set_option maxRecDepth 20000 in
theorem gX4_row_X2_coreAt : GoodIn wsX4_row (wsV RX4 175 RX2 yX2_coreAt wsX2_coreAt) := goodIn_app (goodIn_of _ (by decide +kernel)) ggX4_row_X2_coreAt
set_option maxRecDepth 20000 in
theorem ggX4_jobs_X4_taskAt : GoodIn wsX4_jobs wsX4_taskAt := goodIn_ca (goodIn_r _ [12, 13, 14, 15, 16, 17, 18, 11, 19, 42, 43, 44, 45, 46, 47, 48, 49, 20, 21, 22, 23, 24, 25, 26, 27, 28, 29] (by decide +kernel) (by decide +kernel)) (goodIn_sub (fun _ h => List.mem_cons_of_mem _ (List.mem_append_right _ h)) (by decide +kernel))
set_option maxRecDepth 20000 in
theorem gX4_jobs_X4_taskAt : GoodIn wsX4_jobs (wsV RX4 75 RX4 yX4_taskAt wsX4_taskAt) := goodIn_app (goodIn_of _ (by decide +kernel)) ggX4_jobs_X4_taskAt
set_option maxRecDepth 20000 in
theorem ggX4_spun_X4_taskAt : GoodIn wsX4_spun wsX4_taskAt := goodIn_ca (goodIn_r _ [6, 7, 8, 9, 10, 11, 12, 5, 13, 27, 28, 29, 30, 31, 32, 33, 34, 35, 36, 37, 38, 39, 40, 41, 42, 43, 44] (by decide +kernel) (by decide +kernel)) (goodIn_sub (fun _ h => List.mem_cons_of_mem _ (List.mem_append_right _ h)) (by decide +kernel))
set_option maxRecDepth 20000 in
theorem gX4_spun_X4_taskAt : GoodIn wsX4_spun (wsV RX4 75 RX4 yX4_taskAt wsX4_taskAt) := goodIn_app (goodIn_of _ (by decide +kernel)) ggX4_spun_X4_taskAt
set_option maxRecDepth 20000 in
theorem ggX4_spun_X4_requestAt : GoodIn wsX4_spun wsX4_requestAt := goodIn_ca (goodIn_r _ [16, 7, 8, 17, 18, 11, 12, 5, 13, 35, 36, 37, 38, 39, 40, 41, 42, 43, 44] (by decide +kernel) (by decide +kernel)) (goodIn_sub (fun _ h => List.mem_cons_of_mem _ (List.mem_append_right _ h)) (by decide +kernel))
set_option maxRecDepth 20000 in
theorem gX4_spun_X4_requestAt : GoodIn wsX4_spun (va_wsS RX4 90 yX4_requestAt wsX4_requestAt) := goodIn_app (goodIn_of _ (by decide +kernel)) ggX4_spun_X4_requestAt
set_option maxRecDepth 20000 in
theorem ggX4_taskAt_X4_isWithin : GoodIn wsX4_taskAt wsX4_isWithin := goodIn_r _ [8] (by decide +kernel) (by decide +kernel)
set_option maxRecDepth 20000 in
theorem gX4_taskAt_X4_isWithin : GoodIn wsX4_taskAt (va_wsS RX4 44 yX4_isWithin wsX4_isWithin) := goodIn_app (goodIn_of _ (by decide +kernel)) ggX4_taskAt_X4_isWithin
set_option maxRecDepth 20000 in
theorem ggX4_requestAt_X4_isWithin : GoodIn wsX4_requestAt wsX4_isWithin := goodIn_r _ [8] (by decide +kernel) (by decide +kernel)
set_option maxRecDepth 20000 in
theorem gX4_requestAt_X4_isWithin : GoodIn wsX4_requestAt (va_wsS RX4 44 yX4_isWithin wsX4_isWithin) := goodIn_app (goodIn_of _ (by decide +kernel)) ggX4_requestAt_X4_isWithin
set_option maxRecDepth 20000 in
theorem ggX4_isPriorityTaken_X3_isOn : GoodIn wsX4_isPriorityTaken wsX3_isOn := goodIn_r _ [7, 8, 9, 18, 19, 20, 21, 22, 23, 24, 25, 26, 27] (by decide +kernel) (by decide +kernel)
set_option maxRecDepth 20000 in
theorem gX4_isPriorityTaken_X3_isOn : GoodIn wsX4_isPriorityTaken (wsV RX4 203 RX3 yX3_isOn wsX3_isOn) := goodIn_app (goodIn_of _ (by decide +kernel)) ggX4_isPriorityTaken_X3_isOn
set_option maxRecDepth 20000 in
theorem ggX4_measure_X4_formGroups : GoodIn wsX4_measure wsX4_formGroups := goodIn_r _ [7, 8, 1, 2, 9, 10, 11, 12, 13, 14, 15, 16, 17, 18, 19, 20, 21, 6, 22, 23, 24, 25, 26, 27, 28, 29, 52, 53, 54, 55, 56, 57, 58, 59, 60, 61, 62, 63, 64, 65, 66, 67, 68, 69, 70, 71, 72, 73, 74, 75, 76, 77] (by decide +kernel) (by decide +kernel)
set_option maxRecDepth 20000 in
theorem gX4_measure_X4_formGroups : GoodIn wsX4_measure (wsV RX4 210 RX4 yX4_formGroups wsX4_formGroups) := goodIn_app (goodIn_of _ (by decide +kernel)) ggX4_measure_X4_formGroups
set_option maxRecDepth 20000 in
theorem ggX4_measure_X4_findLongest : GoodIn wsX4_measure wsX4_findLongest := goodIn_r _ [33, 34, 1, 2, 9, 10, 8, 11, 35, 36, 27, 28, 25, 29, 37, 38, 39, 40, 13, 14, 15, 16, 17, 18, 52, 53, 54, 55, 56, 57, 58, 59, 60, 61, 62, 63, 64, 65, 66, 67, 68, 69, 70, 71, 72, 73, 74, 75, 76, 77] (by decide +kernel) (by decide +kernel)
set_option maxRecDepth 20000 in
theorem gX4_measure_X4_findLongest : GoodIn wsX4_measure (wsV RX4 213 RX4 yX4_findLongest wsX4_findLongest) := goodIn_app (goodIn_of _ (by decide +kernel)) ggX4_measure_X4_findLongest
set_option maxRecDepth 20000 in
theorem ggX4_measure_X4_inflate : GoodIn wsX4_measure wsX4_inflate := goodIn_r _ [44, 45, 46, 9, 10, 35, 8, 11, 47, 36, 13, 14, 15, 16, 17, 18, 48, 49, 50, 6, 51, 34, 60, 61, 62, 63, 64, 65, 66, 67, 68, 69, 52, 53, 54, 55, 56, 57, 58, 59, 70, 71, 72, 73, 74, 75, 76, 77] (by decide +kernel) (by decide +kernel)
set_option maxRecDepth 20000 in
theorem gX4_measure_X4_inflate : GoodIn wsX4_measure (wsV RX4 216 RX4 yX4_inflate wsX4_inflate) := goodIn_app (goodIn_of _ (by decide +kernel)) ggX4_measure_X4_inflate
set_option maxRecDepth 20000 in
theorem ggX4_formGroups_X1_isOuter : GoodIn wsX4_formGroups wsX1_isOuter := goodIn_r _ [12, 13, 44, 45, 46, 47, 48, 49, 50, 51] (by decide +kernel) (by decide +kernel)
set_option maxRecDepth 20000 in
theorem gX4_formGroups_X1_isOuter : GoodIn wsX4_formGroups (wsV RX4 138 RX1 yX1_isOuter wsX1_isOuter) := goodIn_app (goodIn_of _ (by decide +kernel)) ggX4_formGroups_X1_isOuter
set_option maxRecDepth 20000 in
theorem ggX4_formGroups_X4_joinGroups : GoodIn wsX4_formGroups wsX4_joinGroups := goodIn_r _ [18, 1, 19, 20, 21, 22, 23, 24, 25, 26, 27, 28, 29, 30, 31, 32, 33] (by decide +kernel) (by decide +kernel)
set_option maxRecDepth 20000 in
theorem gX4_formGroups_X4_joinGroups : GoodIn wsX4_formGroups (wsV RX4 226 RX4 yX4_joinGroups wsX4_joinGroups) := goodIn_app (goodIn_of _ (by decide +kernel)) ggX4_formGroups_X4_joinGroups
set_option maxRecDepth 20000 in
theorem ggX4_findLongest_J7_fill_53178 : GoodIn wsX4_findLongest wsJ7_fill_53178 := goodIn_r _ [17] (by decide +kernel) (by decide +kernel)
set_option maxRecDepth 20000 in
theorem gX4_findLongest_J7_fill_53178 : GoodIn wsX4_findLongest (va_wsS RX4 38 yJ7_fill_53178 wsJ7_fill_53178) := goodIn_app (goodIn_of _ (by decide +kernel)) ggX4_findLongest_J7_fill_53178
set_option maxRecDepth 20000 in
theorem ggX4_findLongest_X1_isOuter : GoodIn wsX4_findLongest wsX1_isOuter := goodIn_r _ [22, 23, 42, 43, 44, 45, 46, 47, 48, 49] (by decide +kernel) (by decide +kernel)
set_option maxRecDepth 20000 in
theorem gX4_findLongest_X1_isOuter : GoodIn wsX4_findLongest (wsV RX4 138 RX1 yX1_isOuter wsX1_isOuter) := goodIn_app (goodIn_of _ (by decide +kernel)) ggX4_findLongest_X1_isOuter
set_option maxRecDepth 20000 in
theorem ggX4_inflate_X1_isOuter : GoodIn wsX4_inflate wsX1_isOuter := goodIn_r _ [14, 15, 40, 41, 42, 43, 44, 45, 46, 47] (by decide +kernel) (by decide +kernel)
set_option maxRecDepth 20000 in
theorem gX4_inflate_X1_isOuter : GoodIn wsX4_inflate (wsV RX4 138 RX1 yX1_isOuter wsX1_isOuter) := goodIn_app (goodIn_of _ (by decide +kernel)) ggX4_inflate_X1_isOuter
set_option maxRecDepth 20000 in
theorem ggX4_inflate_X4_longestElsewhere : GoodIn wsX4_inflate wsX4_longestElsewhere := goodIn_r _ [20, 21, 32, 33, 34, 35, 36, 37, 38, 39] (by decide +kernel) (by decide +kernel)
set_option maxRecDepth 20000 in
theorem gX4_inflate_X4_longestElsewhere : GoodIn wsX4_inflate (wsV RX4 236 RX4 yX4_longestElsewhere wsX4_longestElsewhere) := goodIn_app (goodIn_of _ (by decide +kernel)) ggX4_inflate_X4_longestElsewhere
set_option maxRecDepth 20000 in
theorem ggX4_blockingOf_X3_isOn : GoodIn wsX4_blockingOf wsX3_isOn := goodIn_r _ [12, 13, 14, 38, 39, 40, 41, 42, 43, 44, 45, 46, 47] (by decide +kernel) (by decide +kernel)
set_option maxRecDepth 20000 in
theorem gX4_blockingOf_X3_isOn : GoodIn wsX4_blockingOf (wsV RX4 203 RX3 yX3_isOn wsX3_isOn) := goodIn_app (goodIn_of _ (by decide +kernel)) ggX4_blockingOf_X3_isOn
set_option maxRecDepth 20000 in
theorem ggX4_blockingOf_X3_longestStay : GoodIn wsX4_blockingOf wsX3_longestStay := goodIn_r _ [18, 19, 20, 21, 22, 23, 5, 6, 7, 24, 25, 26, 27, 28, 29, 38, 39, 40, 41, 42, 43, 44, 45, 46, 47, 48, 49, 50, 51, 52, 53, 54, 55] (by decide +kernel) (by decide +kernel)
set_option maxRecDepth 20000 in
theorem gX4_blockingOf_X3_longestStay : GoodIn wsX4_blockingOf (wsV RX4 239 RX3 yX3_longestStay wsX3_longestStay) := goodIn_app (goodIn_of _ (by decide +kernel)) ggX4_blockingOf_X3_longestStay
set_option maxRecDepth 20000 in
theorem ggX4_responseOf_X4_blockingOf : GoodIn wsX4_responseOf wsX4_blockingOf := goodIn_r _ [7, 8, 9, 10, 11, 12, 13, 14, 15, 16, 17, 18, 19, 20, 21, 22, 23, 24, 25, 26, 27, 28, 29, 30, 31, 32, 33, 34, 35, 36, 56, 57, 58, 59, 60, 61, 62, 63, 46, 47, 48, 49, 50, 51, 52, 53, 54, 55, 64, 65, 66, 67, 68, 69, 70, 71] (by decide +kernel) (by decide +kernel)
set_option maxRecDepth 20000 in
theorem gX4_responseOf_X4_blockingOf : GoodIn wsX4_responseOf (wsV RX4 102 RX4 yX4_blockingOf wsX4_blockingOf) := goodIn_app (goodIn_of _ (by decide +kernel)) ggX4_responseOf_X4_blockingOf
set_option maxRecDepth 20000 in
theorem ggX4_responseOf_X4_demandAbove : GoodIn wsX4_responseOf wsX4_demandAbove := goodIn_r _ [40, 8, 9, 10, 1, 15, 16, 17, 18, 19, 20, 21, 41, 42, 43, 44, 45, 56, 57, 58, 59, 60, 61, 62, 63, 46, 47, 48, 49, 50, 51, 52, 53, 54, 55] (by decide +kernel) (by decide +kernel)
set_option maxRecDepth 20000 in
theorem gX4_responseOf_X4_demandAbove : GoodIn wsX4_responseOf (wsV RX4 242 RX4 yX4_demandAbove wsX4_demandAbove) := goodIn_app (goodIn_of _ (by decide +kernel)) ggX4_responseOf_X4_demandAbove
set_option maxRecDepth 20000 in
theorem ggX4_demandAbove_X3_isOn : GoodIn wsX4_demandAbove wsX3_isOn := goodIn_r _ [9, 10, 11, 25, 26, 27, 28, 29, 30, 31, 32, 33, 34] (by decide +kernel) (by decide +kernel)
set_option maxRecDepth 20000 in
theorem gX4_demandAbove_X3_isOn : GoodIn wsX4_demandAbove (wsV RX4 203 RX3 yX3_isOn wsX3_isOn) := goodIn_app (goodIn_of _ (by decide +kernel)) ggX4_demandAbove_X3_isOn
set_option maxRecDepth 20000 in
theorem ggX4_demandAbove_X3_beginningsIn : GoodIn wsX4_demandAbove wsX3_beginningsIn := goodIn_r _ [15, 16, 25, 26, 27, 28, 29, 30, 31, 32, 33, 34] (by decide +kernel) (by decide +kernel)
set_option maxRecDepth 20000 in
theorem gX4_demandAbove_X3_beginningsIn : GoodIn wsX4_demandAbove (wsV RX4 246 RX3 yX3_beginningsIn wsX3_beginningsIn) := goodIn_app (goodIn_of _ (by decide +kernel)) ggX4_demandAbove_X3_beginningsIn
