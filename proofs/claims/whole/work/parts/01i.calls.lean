set_option maxRecDepth 20000 in
theorem ggX4_takeJobs_X4_isHeldFast : GoodIn wsX4_takeJobs wsX4_isHeldFast := goodIn_r _ [6, 1, 7, 8, 9, 66, 67, 68, 69, 70, 71, 72, 73, 74, 75, 76, 77, 78, 79, 80, 81, 82, 83, 84, 85, 86, 87, 88, 89, 90, 91, 92, 93, 94, 95] (by decide +kernel) (by decide +kernel)
set_option maxRecDepth 20000 in
theorem gX4_takeJobs_X4_isHeldFast : GoodIn wsX4_takeJobs (wsV RX4 249 RX4 yX4_isHeldFast wsX4_isHeldFast) := goodIn_app (goodIn_of _ (by decide +kernel)) ggX4_takeJobs_X4_isHeldFast
set_option maxRecDepth 20000 in
theorem ggX4_takeJobs_X4_mostUrgentOn : GoodIn wsX4_takeJobs wsX4_mostUrgentOn := goodIn_r _ [13, 7, 8, 14, 15, 16, 17, 18, 19, 20, 21, 22, 66, 67, 68, 69, 70, 71, 72, 73, 74, 75, 76, 77, 78, 79, 80, 81, 82, 83, 84, 85, 86, 87, 88, 89, 90, 91, 92, 93, 94, 95] (by decide +kernel) (by decide +kernel)
set_option maxRecDepth 20000 in
theorem gX4_takeJobs_X4_mostUrgentOn : GoodIn wsX4_takeJobs (wsV RX4 252 RX4 yX4_mostUrgentOn wsX4_mostUrgentOn) := goodIn_app (goodIn_of _ (by decide +kernel)) ggX4_takeJobs_X4_mostUrgentOn
set_option maxRecDepth 20000 in
theorem ggX4_takeJobs_X4_askIfDue : GoodIn wsX4_takeJobs wsX4_askIfDue := goodIn_r _ [26, 1, 7, 27, 28, 29, 30, 19, 31, 32, 33, 34, 35, 36, 37, 38, 39, 40, 41, 42, 43, 44, 45, 46, 47, 48, 49, 50, 51, 52, 53, 54, 55, 5, 56, 57, 58, 59, 60, 61, 62, 63, 64, 65, 66, 67, 68, 69, 70, 71, 72, 73, 96, 97, 98, 99, 100, 101, 102, 103, 74, 75, 76, 77, 78, 79, 80, 81, 82, 83, 84, 85, 86, 87, 88, 89, 90, 91, 92, 93, 94, 95, 104, 105] (by decide +kernel) (by decide +kernel)
set_option maxRecDepth 20000 in
theorem gX4_takeJobs_X4_askIfDue : GoodIn wsX4_takeJobs (wsV RX4 255 RX4 yX4_askIfDue wsX4_askIfDue) := goodIn_app (goodIn_of _ (by decide +kernel)) ggX4_takeJobs_X4_askIfDue
set_option maxRecDepth 20000 in
theorem ggX4_mostUrgentOn_X3_isOn : GoodIn wsX4_mostUrgentOn wsX3_isOn := goodIn_r _ [9, 10, 11, 20, 21, 22, 23, 24, 25, 26, 27, 28, 29] (by decide +kernel) (by decide +kernel)
set_option maxRecDepth 20000 in
theorem gX4_mostUrgentOn_X3_isOn : GoodIn wsX4_mostUrgentOn (wsV RX4 203 RX3 yX3_isOn wsX3_isOn) := goodIn_app (goodIn_of _ (by decide +kernel)) ggX4_mostUrgentOn_X3_isOn
set_option maxRecDepth 20000 in
theorem ggX4_askIfDue_X3_hasToAsk : GoodIn wsX4_askIfDue wsX3_hasToAsk := goodIn_r _ [8, 9, 10, 11, 12, 13, 14, 15, 16, 7, 17, 18, 19, 20, 21, 22, 60, 61, 62, 63, 64, 65, 66, 67, 68, 69, 70, 71, 72, 73, 74, 75, 76, 77, 78, 79, 80, 81, 52, 53, 54, 55, 56, 57, 58, 59] (by decide +kernel) (by decide +kernel)
set_option maxRecDepth 20000 in
theorem gX4_askIfDue_X3_hasToAsk : GoodIn wsX4_askIfDue (wsV RX4 261 RX3 yX3_hasToAsk wsX3_hasToAsk) := goodIn_app (goodIn_of _ (by decide +kernel)) ggX4_askIfDue_X3_hasToAsk
set_option maxRecDepth 20000 in
theorem ggX4_askIfDue_X3_startSpinning : GoodIn wsX4_askIfDue wsX3_startSpinning := goodIn_r _ [26, 9, 27, 28, 60, 61, 62, 63, 64, 65, 66, 67, 68, 69, 70, 71, 72, 73, 74, 75, 76, 77, 78, 79, 80, 81] (by decide +kernel) (by decide +kernel)
set_option maxRecDepth 20000 in
theorem gX4_askIfDue_X3_startSpinning : GoodIn wsX4_askIfDue (wsV RX4 264 RX3 yX3_startSpinning wsX3_startSpinning) := goodIn_app (goodIn_of _ (by decide +kernel)) ggX4_askIfDue_X3_startSpinning
set_option maxRecDepth 20000 in
theorem ggX4_askIfDue_X3_nextRequest : GoodIn wsX4_askIfDue wsX3_nextRequest := goodIn_r _ [17, 18, 9, 10, 19, 20, 21, 22, 60, 61, 62, 63, 64, 65, 66, 67, 68, 69, 70, 71, 72, 73, 74, 75, 76, 77, 78, 79, 80, 81] (by decide +kernel) (by decide +kernel)
set_option maxRecDepth 20000 in
theorem gX4_askIfDue_X3_nextRequest : GoodIn wsX4_askIfDue (wsV RX4 267 RX3 yX3_nextRequest wsX3_nextRequest) := goodIn_app (goodIn_of _ (by decide +kernel)) ggX4_askIfDue_X3_nextRequest
set_option maxRecDepth 20000 in
theorem ggX4_askIfDue_X4_rowOf : GoodIn wsX4_askIfDue wsX4_rowOf := goodIn_r _ [34, 35, 36, 44, 45, 46, 47, 48, 49, 50, 51] (by decide +kernel) (by decide +kernel)
set_option maxRecDepth 20000 in
theorem gX4_askIfDue_X4_rowOf : GoodIn wsX4_askIfDue (wsV RX4 171 RX4 yX4_rowOf wsX4_rowOf) := goodIn_app (goodIn_of _ (by decide +kernel)) ggX4_askIfDue_X4_rowOf
set_option maxRecDepth 20000 in
theorem ggX4_askIfDue_X2_join : GoodIn wsX4_askIfDue wsX2_join := goodIn_r _ [41, 42, 43, 82, 83] (by decide +kernel) (by decide +kernel)
set_option maxRecDepth 20000 in
theorem gX4_askIfDue_X2_join : GoodIn wsX4_askIfDue (wsV RX4 271 RX2 yX2_join wsX2_join) := goodIn_app (goodIn_of _ (by decide +kernel)) ggX4_askIfDue_X2_join
set_option maxRecDepth 20000 in
theorem ggX4_letFirstsHold_X2_coreAt : GoodIn wsX4_letFirstsHold wsX2_coreAt := goodIn_r _ [10, 11, 12, 62, 63] (by decide +kernel) (by decide +kernel)
set_option maxRecDepth 20000 in
theorem gX4_letFirstsHold_X2_coreAt : GoodIn wsX4_letFirstsHold (wsV RX4 175 RX2 yX2_coreAt wsX2_coreAt) := goodIn_app (goodIn_of _ (by decide +kernel)) ggX4_letFirstsHold_X2_coreAt
set_option maxRecDepth 20000 in
theorem ggX4_letFirstsHold_X3_startHolding : GoodIn wsX4_letFirstsHold wsX3_startHolding := goodIn_r _ [17, 18, 19, 20, 21, 22, 23, 24, 16, 25, 26, 27, 28, 29, 30, 31, 40, 41, 42, 43, 44, 45, 46, 47, 48, 49, 50, 51, 52, 53, 54, 55, 56, 57, 58, 59, 60, 61, 64, 65, 66, 67, 68, 69, 70, 71] (by decide +kernel) (by decide +kernel)
set_option maxRecDepth 20000 in
theorem gX4_letFirstsHold_X3_startHolding : GoodIn wsX4_letFirstsHold (wsV RX4 274 RX3 yX3_startHolding wsX3_startHolding) := goodIn_app (goodIn_of _ (by decide +kernel)) ggX4_letFirstsHold_X3_startHolding
set_option maxRecDepth 20000 in
theorem ggX4_ticksAlike_X3_ticksToChange : GoodIn wsX4_ticksAlike wsX3_ticksToChange := goodIn_r _ [14, 15, 16, 17, 18, 19, 20, 21, 22, 23, 24, 25, 13, 26, 27, 28, 7, 8, 9, 37, 38, 39, 40, 41, 42, 43, 44, 45, 46, 47, 48, 49, 50, 51, 52, 53, 54, 55, 56, 57, 58, 59, 60, 61, 62, 63, 64, 65, 66] (by decide +kernel) (by decide +kernel)
set_option maxRecDepth 20000 in
theorem gX4_ticksAlike_X3_ticksToChange : GoodIn wsX4_ticksAlike (wsV RX4 277 RX3 yX3_ticksToChange wsX3_ticksToChange) := goodIn_app (goodIn_of _ (by decide +kernel)) ggX4_ticksAlike_X3_ticksToChange
set_option maxRecDepth 20000 in
theorem ggX4_workOn_X4_workOnJob : GoodIn wsX4_workOn wsX4_workOnJob := goodIn_r _ [10, 4, 5, 11, 12, 13, 14, 15, 16, 17, 18, 19, 20, 21, 22, 23, 24, 25, 26, 27, 28, 29, 30, 31, 32, 33, 34, 35, 36, 9, 37, 38, 39, 40, 41, 42, 43, 44, 45, 46, 47, 48, 49, 50, 51, 52, 53, 54, 55, 56, 57, 58, 59, 60, 61, 62, 63, 64, 65, 66, 67, 68, 69, 70, 71, 72, 73, 74, 75, 76, 77, 78, 79, 80, 81, 82, 83, 84, 85, 86, 87, 88, 89, 90, 91, 92, 93, 102, 103, 104, 105, 106, 107, 108, 109, 110, 111, 112, 113, 114, 115, 116, 117, 118, 119, 120, 121, 122, 123, 94, 95, 96, 97, 98, 99, 100, 101, 124, 125, 126, 127, 128, 129, 130, 131, 132, 133] (by decide +kernel) (by decide +kernel)
set_option maxRecDepth 20000 in
theorem gX4_workOn_X4_workOnJob : GoodIn wsX4_workOn (wsV RX4 280 RX4 yX4_workOnJob wsX4_workOnJob) := goodIn_app (goodIn_of _ (by decide +kernel)) ggX4_workOn_X4_workOnJob
set_option maxRecDepth 20000 in
theorem ggX4_workOnJob_X3_spinFor : GoodIn wsX4_workOnJob wsX3_spinFor := goodIn_r _ [9, 10, 11, 12, 13, 14, 15, 16, 17, 18, 19, 8, 20, 21, 22, 23, 24, 25, 87, 88, 89, 90, 91, 92, 93, 94, 95, 96, 97, 98, 99, 100, 101, 102, 103, 104, 105, 106, 107, 108, 117, 118, 119, 120, 121, 122, 123, 124] (by decide +kernel) (by decide +kernel)
set_option maxRecDepth 20000 in
theorem gX4_workOnJob_X3_spinFor : GoodIn wsX4_workOnJob (wsV RX4 284 RX3 yX3_spinFor wsX3_spinFor) := goodIn_app (goodIn_of _ (by decide +kernel)) ggX4_workOnJob_X3_spinFor
set_option maxRecDepth 20000 in
theorem ggX4_workOnJob_X4_holdFor : GoodIn wsX4_workOnJob wsX4_holdFor := goodIn_r _ [30, 1, 31, 32, 33, 18, 19, 8, 20, 21, 10, 22, 23, 24, 15, 25, 34, 35, 36, 29, 37, 38, 39, 40, 41, 42, 43, 44, 45, 46, 47, 14, 16, 48, 49, 50, 51, 52, 53, 54, 55, 56, 57, 58, 59, 60, 61, 62, 63, 87, 88, 89, 90, 91, 92, 93, 94, 95, 96, 97, 98, 99, 100, 101, 102, 103, 104, 105, 106, 107, 108, 117, 118, 119, 120, 121, 122, 123, 124, 109, 110, 111, 112, 113, 114, 115, 116, 125, 126] (by decide +kernel) (by decide +kernel)
set_option maxRecDepth 20000 in
theorem gX4_workOnJob_X4_holdFor : GoodIn wsX4_workOnJob (wsV RX4 290 RX4 yX4_holdFor wsX4_holdFor) := goodIn_app (goodIn_of _ (by decide +kernel)) ggX4_workOnJob_X4_holdFor
set_option maxRecDepth 20000 in
theorem ggX4_workOnJob_X3_isAllDone : GoodIn wsX4_workOnJob wsX3_isAllDone := goodIn_r _ [67, 10, 52, 68, 69, 22, 57, 87, 88, 89, 90, 91, 92, 93, 94, 95, 96, 97, 98, 99, 100, 101, 102, 103, 104, 105, 106, 107, 108] (by decide +kernel) (by decide +kernel)
set_option maxRecDepth 20000 in
theorem gX4_workOnJob_X3_isAllDone : GoodIn wsX4_workOnJob (wsV RX4 294 RX3 yX3_isAllDone wsX3_isAllDone) := goodIn_app (goodIn_of _ (by decide +kernel)) ggX4_workOnJob_X3_isAllDone
set_option maxRecDepth 20000 in
theorem ggX4_workOnJob_X3_endJob : GoodIn wsX4_workOnJob wsX3_endJob := goodIn_r _ [73, 10, 74, 75, 76, 77, 78, 79, 80, 81, 82, 83, 84, 85, 14, 15, 16, 86, 87, 88, 89, 90, 91, 92, 93, 94, 95, 96, 97, 98, 99, 100, 101, 102, 103, 104, 105, 106, 107, 108] (by decide +kernel) (by decide +kernel)
set_option maxRecDepth 20000 in
theorem gX4_workOnJob_X3_endJob : GoodIn wsX4_workOnJob (wsV RX4 297 RX3 yX3_endJob wsX3_endJob) := goodIn_app (goodIn_of _ (by decide +kernel)) ggX4_workOnJob_X3_endJob
set_option maxRecDepth 20000 in
theorem ggX4_holdFor_X3_nextRequest : GoodIn wsX4_holdFor wsX3_nextRequest := goodIn_r _ [8, 9, 10, 11, 12, 13, 14, 15, 49, 50, 51, 52, 53, 54, 55, 56, 57, 58, 59, 60, 61, 62, 63, 64, 65, 66, 67, 68, 69, 70] (by decide +kernel) (by decide +kernel)
set_option maxRecDepth 20000 in
theorem gX4_holdFor_X3_nextRequest : GoodIn wsX4_holdFor (wsV RX4 267 RX3 yX3_nextRequest wsX3_nextRequest) := goodIn_app (goodIn_of _ (by decide +kernel)) ggX4_holdFor_X3_nextRequest
set_option maxRecDepth 20000 in
theorem ggX4_holdFor_X4_rowOf : GoodIn wsX4_holdFor wsX4_rowOf := goodIn_r _ [20, 21, 22, 79, 80, 81, 82, 83, 84, 85, 86] (by decide +kernel) (by decide +kernel)
set_option maxRecDepth 20000 in
theorem gX4_holdFor_X4_rowOf : GoodIn wsX4_holdFor (wsV RX4 171 RX4 yX4_rowOf wsX4_rowOf) := goodIn_app (goodIn_of _ (by decide +kernel)) ggX4_holdFor_X4_rowOf
set_option maxRecDepth 20000 in
theorem ggX4_holdFor_X2_dropFirst : GoodIn wsX4_holdFor wsX2_dropFirst := goodIn_r _ [27, 28, 29, 30, 31, 14, 32, 87, 88] (by decide +kernel) (by decide +kernel)
set_option maxRecDepth 20000 in
theorem gX4_holdFor_X2_dropFirst : GoodIn wsX4_holdFor (wsV RX4 303 RX2 yX2_dropFirst wsX2_dropFirst) := goodIn_app (goodIn_of _ (by decide +kernel)) ggX4_holdFor_X2_dropFirst
set_option maxRecDepth 20000 in
theorem ggX4_holdFor_X3_leaveSection : GoodIn wsX4_holdFor wsX3_leaveSection := goodIn_r _ [36, 10, 37, 11, 38, 39, 40, 7, 41, 42, 9, 43, 44, 45, 46, 47, 48, 49, 50, 51, 52, 53, 54, 55, 56, 57, 58, 59, 60, 61, 62, 63, 64, 65, 66, 67, 68, 69, 70, 71, 72, 73, 74, 75, 76, 77, 78] (by decide +kernel) (by decide +kernel)
set_option maxRecDepth 20000 in
theorem gX4_holdFor_X3_leaveSection : GoodIn wsX4_holdFor (wsV RX4 306 RX3 yX3_leaveSection wsX3_leaveSection) := goodIn_app (goodIn_of _ (by decide +kernel)) ggX4_holdFor_X3_leaveSection
set_option maxRecDepth 20000 in
theorem ggX5_init_X5_forget : GoodIn wsX5_init wsX5_forget := goodIn_r _ [40, 41, 42, 17, 18, 26, 27, 28, 29, 25, 13, 30, 31, 32, 33, 35, 43, 44, 45, 46, 47, 48, 49, 50, 51, 52, 53, 54, 55, 56, 57, 58, 59, 60, 61, 62, 63, 64, 65, 66, 67, 68, 69, 70, 71, 72, 73, 74, 75, 76] (by decide +kernel) (by decide +kernel)
set_option maxRecDepth 20000 in
theorem gX5_init_X5_forget : GoodIn wsX5_init (wsV RX5 101 RX5 yX5_forget wsX5_forget) := goodIn_app (goodIn_of _ (by decide +kernel)) ggX5_init_X5_forget
set_option maxRecDepth 20000 in
theorem ggX5_isRequest_X5_isTask : GoodIn wsX5_isRequest wsX5_isTask := goodIn_r _ [6, 7, 8, 9, 10, 11, 12, 13, 14, 15, 16, 17, 18, 19, 20, 21, 22, 23, 24, 25, 26, 27, 28, 29, 30, 31, 32, 33, 34, 35, 36, 37, 38, 39, 40, 41] (by decide +kernel) (by decide +kernel)
set_option maxRecDepth 20000 in
theorem gX5_isRequest_X5_isTask : GoodIn wsX5_isRequest (wsV RX5 108 RX5 yX5_isTask wsX5_isTask) := goodIn_app (goodIn_of _ (by decide +kernel)) ggX5_isRequest_X5_isTask
set_option maxRecDepth 20000 in
theorem ggX5_task_X5_within : GoodIn wsX5_task wsX5_within := goodIn_r _ [11] (by decide +kernel) (by decide +kernel)
set_option maxRecDepth 20000 in
theorem gX5_task_X5_within : GoodIn wsX5_task (va_wsS RX5 112 yX5_within wsX5_within) := goodIn_app (goodIn_of _ (by decide +kernel)) ggX5_task_X5_within
set_option maxRecDepth 20000 in
theorem ggX5_task_X5_hasPriority : GoodIn wsX5_task wsX5_hasPriority := goodIn_r _ [15, 2, 3, 21, 22, 23, 24, 25, 26, 27, 28, 29, 30, 31, 32, 33, 34, 35, 36, 37, 38, 39, 40, 41, 42, 43, 44, 45, 46, 47, 48, 49, 50, 51, 52, 53, 54] (by decide +kernel) (by decide +kernel)
set_option maxRecDepth 20000 in
theorem gX5_task_X5_hasPriority : GoodIn wsX5_task (wsV RX5 120 RX5 yX5_hasPriority wsX5_hasPriority) := goodIn_app (goodIn_of _ (by decide +kernel)) ggX5_task_X5_hasPriority
set_option maxRecDepth 20000 in
theorem ggX5_task_X5_refused : GoodIn wsX5_task wsX5_refused := goodIn_r _ [19, 20, 21, 22, 23, 24, 25, 26, 27, 28, 29, 30, 31, 32, 33, 34, 35, 36, 37, 38, 39, 40, 41, 42, 43, 44, 45, 46, 47, 48, 49, 50, 51, 52, 53, 54] (by decide +kernel) (by decide +kernel)
set_option maxRecDepth 20000 in
theorem gX5_task_X5_refused : GoodIn wsX5_task (wsV RX5 124 RX5 yX5_refused wsX5_refused) := goodIn_app (goodIn_of _ (by decide +kernel)) ggX5_task_X5_refused
set_option maxRecDepth 20000 in
theorem ggX5_mayBe_X5_within : GoodIn wsX5_mayBe wsX5_within := goodIn_r _ [8] (by decide +kernel) (by decide +kernel)
set_option maxRecDepth 20000 in
theorem gX5_mayBe_X5_within : GoodIn wsX5_mayBe (va_wsS RX5 112 yX5_within wsX5_within) := goodIn_app (goodIn_of _ (by decide +kernel)) ggX5_mayBe_X5_within
set_option maxRecDepth 20000 in
theorem ggX5_mayBe_X5_outerBefore : GoodIn wsX5_mayBe wsX5_outerBefore := goodIn_r _ [12, 13, 3, 23, 24, 25, 26, 27, 28, 29, 30, 31, 32, 33, 34, 35, 36, 37, 38, 39, 40, 41, 42, 43, 44, 45, 46, 47, 48, 49, 50, 51, 52, 53, 54, 55, 56] (by decide +kernel) (by decide +kernel)
set_option maxRecDepth 20000 in
theorem gX5_mayBe_X5_outerBefore : GoodIn wsX5_mayBe (wsV RX5 128 RX5 yX5_outerBefore wsX5_outerBefore) := goodIn_app (goodIn_of _ (by decide +kernel)) ggX5_mayBe_X5_outerBefore
set_option maxRecDepth 20000 in
theorem ggX5_mayBe_X5_isRequest : GoodIn wsX5_mayBe wsX5_isRequest := goodIn_r _ [17, 13, 18, 19, 20, 7, 21, 22, 23, 24, 25, 26, 27, 28, 29, 30, 31, 32, 33, 34, 35, 36, 37, 38, 39, 40, 41, 42, 43, 44, 45, 46, 47, 48, 49, 50, 51, 52, 53, 54, 55, 56] (by decide +kernel) (by decide +kernel)
set_option maxRecDepth 20000 in
theorem gX5_mayBe_X5_isRequest : GoodIn wsX5_mayBe (wsV RX5 132 RX5 yX5_isRequest wsX5_isRequest) := goodIn_app (goodIn_of _ (by decide +kernel)) ggX5_mayBe_X5_isRequest
set_option maxRecDepth 20000 in
theorem ggX5_request_X5_isTask : GoodIn wsX5_request wsX5_isTask := goodIn_r _ [12, 13, 35, 36, 37, 38, 39, 40, 41, 42, 43, 44, 45, 46, 47, 48, 49, 50, 51, 52, 53, 54, 55, 56, 57, 58, 59, 60, 61, 62, 63, 64, 65, 66, 67, 68] (by decide +kernel) (by decide +kernel)
set_option maxRecDepth 20000 in
theorem gX5_request_X5_isTask : GoodIn wsX5_request (wsV RX5 108 RX5 yX5_isTask wsX5_isTask) := goodIn_app (goodIn_of _ (by decide +kernel)) ggX5_request_X5_isTask
set_option maxRecDepth 20000 in
theorem ggX5_request_X5_mayBe : GoodIn wsX5_request wsX5_mayBe := goodIn_r _ [17, 18, 3, 6, 5, 19, 20, 11, 21, 22, 23, 24, 25, 2, 26, 27, 28, 29, 8, 9, 10, 12, 13, 35, 36, 37, 38, 39, 40, 41, 42, 43, 44, 45, 46, 47, 48, 49, 50, 51, 52, 53, 54, 55, 56, 57, 58, 59, 60, 61, 62, 63, 64, 65, 66, 67, 68] (by decide +kernel) (by decide +kernel)
set_option maxRecDepth 20000 in
theorem gX5_request_X5_mayBe : GoodIn wsX5_request (wsV RX5 135 RX5 yX5_mayBe wsX5_mayBe) := goodIn_app (goodIn_of _ (by decide +kernel)) ggX5_request_X5_mayBe
set_option maxRecDepth 20000 in
theorem ggX5_request_X5_refused : GoodIn wsX5_request wsX5_refused := goodIn_r _ [33, 34, 35, 36, 37, 38, 39, 40, 41, 42, 43, 44, 45, 46, 47, 48, 49, 50, 51, 52, 53, 54, 55, 56, 57, 58, 59, 60, 61, 62, 63, 64, 65, 66, 67, 68] (by decide +kernel) (by decide +kernel)
set_option maxRecDepth 20000 in
theorem gX5_request_X5_refused : GoodIn wsX5_request (wsV RX5 124 RX5 yX5_refused wsX5_refused) := goodIn_app (goodIn_of _ (by decide +kernel)) ggX5_request_X5_refused
set_option maxRecDepth 20000 in
theorem ggX5_take_X5_isTask : GoodIn wsX5_take wsX5_isTask := goodIn_r _ [8, 2, 14, 15, 16, 17, 18, 19, 20, 21, 22, 23, 24, 25, 26, 27, 28, 29, 30, 31, 32, 33, 34, 35, 36, 37, 38, 39, 40, 41, 42, 43, 44, 45, 46, 47] (by decide +kernel) (by decide +kernel)
set_option maxRecDepth 20000 in
theorem gX5_take_X5_isTask : GoodIn wsX5_take (wsV RX5 108 RX5 yX5_isTask wsX5_isTask) := goodIn_app (goodIn_of _ (by decide +kernel)) ggX5_take_X5_isTask
set_option maxRecDepth 20000 in
theorem ggX5_take_X5_refused : GoodIn wsX5_take wsX5_refused := goodIn_r _ [12, 13, 14, 15, 16, 17, 18, 19, 20, 21, 22, 23, 24, 25, 26, 27, 28, 29, 30, 31, 32, 33, 34, 35, 36, 37, 38, 39, 40, 41, 42, 43, 44, 45, 46, 47] (by decide +kernel) (by decide +kernel)
set_option maxRecDepth 20000 in
theorem gX5_take_X5_refused : GoodIn wsX5_take (wsV RX5 124 RX5 yX5_refused wsX5_refused) := goodIn_app (goodIn_of _ (by decide +kernel)) ggX5_take_X5_refused
set_option maxRecDepth 20000 in
theorem ggX5_group_X5_within : GoodIn wsX5_group wsX5_within := goodIn_r _ [5] (by decide +kernel) (by decide +kernel)
set_option maxRecDepth 20000 in
theorem gX5_group_X5_within : GoodIn wsX5_group (va_wsS RX5 112 yX5_within wsX5_within) := goodIn_app (goodIn_of _ (by decide +kernel)) ggX5_group_X5_within
set_option maxRecDepth 20000 in
theorem ggX5_group_X5_refused : GoodIn wsX5_group wsX5_refused := goodIn_r _ [9, 10, 18, 19, 20, 21, 22, 23, 24, 25, 26, 27, 28, 29, 30, 31, 32, 33, 34, 35, 36, 37, 38, 39, 40, 41, 42, 43, 44, 45, 46, 47, 48, 49, 50, 51] (by decide +kernel) (by decide +kernel)
set_option maxRecDepth 20000 in
theorem gX5_group_X5_refused : GoodIn wsX5_group (wsV RX5 124 RX5 yX5_refused wsX5_refused) := goodIn_app (goodIn_of _ (by decide +kernel)) ggX5_group_X5_refused
set_option maxRecDepth 20000 in
theorem ggX5_group_X5_findGroups : GoodIn wsX5_group wsX5_findGroups := goodIn_r _ [14, 1, 15, 16, 17, 18, 19, 20, 21, 22, 23, 24, 25, 26, 27, 28, 29, 30, 31, 32, 33, 34, 35, 36, 37, 38, 39, 40, 41, 42, 43, 44, 45, 46, 47, 48, 49, 50, 51] (by decide +kernel) (by decide +kernel)
set_option maxRecDepth 20000 in
theorem gX5_group_X5_findGroups : GoodIn wsX5_group (wsV RX5 139 RX5 yX5_findGroups wsX5_findGroups) := goodIn_app (goodIn_of _ (by decide +kernel)) ggX5_group_X5_findGroups
set_option maxRecDepth 20000 in
theorem ggX5_spinOf_X5_isOuter : GoodIn wsX5_spinOf wsX5_isOuter := goodIn_r _ [10, 11, 12, 13, 14, 15, 16, 17, 18, 19, 20, 21, 22, 23, 24, 25, 26, 27, 28, 29, 30, 31, 32, 33, 34, 35, 36, 37, 38, 39, 40, 41, 42, 43, 44, 45] (by decide +kernel) (by decide +kernel)
set_option maxRecDepth 20000 in
theorem gX5_spinOf_X5_isOuter : GoodIn wsX5_spinOf (wsV RX5 142 RX5 yX5_isOuter wsX5_isOuter) := goodIn_app (goodIn_of _ (by decide +kernel)) ggX5_spinOf_X5_isOuter
set_option maxRecDepth 20000 in
theorem ggX5_spin_X5_isRequest : GoodIn wsX5_spin wsX5_isRequest := goodIn_r _ [5, 6, 7, 8, 9, 4, 10, 11, 33, 34, 35, 36, 37, 38, 39, 40, 41, 42, 43, 44, 45, 46, 47, 48, 49, 50, 51, 52, 53, 54, 55, 56, 57, 58, 59, 60, 61, 62, 63, 64, 65, 66] (by decide +kernel) (by decide +kernel)
set_option maxRecDepth 20000 in
theorem gX5_spin_X5_isRequest : GoodIn wsX5_spin (wsV RX5 132 RX5 yX5_isRequest wsX5_isRequest) := goodIn_app (goodIn_of _ (by decide +kernel)) ggX5_spin_X5_isRequest
set_option maxRecDepth 20000 in
theorem ggX5_spin_X5_refused : GoodIn wsX5_spin wsX5_refused := goodIn_r _ [15, 16, 33, 34, 35, 36, 37, 38, 39, 40, 41, 42, 43, 44, 45, 46, 47, 48, 49, 50, 51, 52, 53, 54, 55, 56, 57, 58, 59, 60, 61, 62, 63, 64, 65, 66] (by decide +kernel) (by decide +kernel)
set_option maxRecDepth 20000 in
theorem gX5_spin_X5_refused : GoodIn wsX5_spin (wsV RX5 124 RX5 yX5_refused wsX5_refused) := goodIn_app (goodIn_of _ (by decide +kernel)) ggX5_spin_X5_refused
set_option maxRecDepth 20000 in
theorem ggX5_spin_X5_findGroups : GoodIn wsX5_spin wsX5_findGroups := goodIn_r _ [20, 21, 6, 22, 23, 33, 34, 35, 36, 37, 38, 39, 40, 41, 42, 43, 44, 45, 46, 47, 48, 49, 50, 51, 52, 53, 54, 55, 56, 57, 58, 59, 60, 61, 62, 63, 64, 65, 66] (by decide +kernel) (by decide +kernel)
set_option maxRecDepth 20000 in
theorem gX5_spin_X5_findGroups : GoodIn wsX5_spin (wsV RX5 139 RX5 yX5_findGroups wsX5_findGroups) := goodIn_app (goodIn_of _ (by decide +kernel)) ggX5_spin_X5_findGroups
set_option maxRecDepth 20000 in
theorem ggX5_spin_X5_isOuter : GoodIn wsX5_spin wsX5_isOuter := goodIn_r _ [27, 22, 33, 34, 35, 36, 37, 38, 39, 40, 41, 42, 43, 44, 45, 46, 47, 48, 49, 50, 51, 52, 53, 54, 55, 56, 57, 58, 59, 60, 61, 62, 63, 64, 65, 66] (by decide +kernel) (by decide +kernel)
set_option maxRecDepth 20000 in
theorem gX5_spin_X5_isOuter : GoodIn wsX5_spin (wsV RX5 142 RX5 yX5_isOuter wsX5_isOuter) := goodIn_app (goodIn_of _ (by decide +kernel)) ggX5_spin_X5_isOuter
set_option maxRecDepth 20000 in
theorem ggX5_spin_X5_spinOf : GoodIn wsX5_spin wsX5_spinOf := goodIn_r _ [31, 6, 11, 21, 23, 32, 24, 25, 26, 4, 27, 22, 33, 34, 35, 36, 37, 38, 39, 40, 41, 42, 43, 44, 45, 46, 47, 48, 49, 50, 51, 52, 53, 54, 55, 56, 57, 58, 59, 60, 61, 62, 63, 64, 65, 66] (by decide +kernel) (by decide +kernel)
set_option maxRecDepth 20000 in
theorem gX5_spin_X5_spinOf : GoodIn wsX5_spin (wsV RX5 145 RX5 yX5_spinOf wsX5_spinOf) := goodIn_app (goodIn_of _ (by decide +kernel)) ggX5_spin_X5_spinOf
set_option maxRecDepth 20000 in
theorem ggX5_inflated_X5_isOuter : GoodIn wsX5_inflated wsX5_isOuter := goodIn_r _ [8, 9, 17, 18, 19, 20, 21, 22, 23, 24, 25, 26, 27, 28, 29, 30, 31, 32, 33, 34, 35, 36, 37, 38, 39, 40, 41, 42, 43, 44, 45, 46, 47, 48, 49, 50] (by decide +kernel) (by decide +kernel)
set_option maxRecDepth 20000 in
theorem gX5_inflated_X5_isOuter : GoodIn wsX5_inflated (wsV RX5 142 RX5 yX5_isOuter wsX5_isOuter) := goodIn_app (goodIn_of _ (by decide +kernel)) ggX5_inflated_X5_isOuter
set_option maxRecDepth 20000 in
theorem ggX5_inflated_X5_spinOf : GoodIn wsX5_inflated wsX5_spinOf := goodIn_r _ [13, 2, 14, 15, 16, 3, 4, 5, 6, 7, 8, 9, 17, 18, 19, 20, 21, 22, 23, 24, 25, 26, 27, 28, 29, 30, 31, 32, 33, 34, 35, 36, 37, 38, 39, 40, 41, 42, 43, 44, 45, 46, 47, 48, 49, 50] (by decide +kernel) (by decide +kernel)
set_option maxRecDepth 20000 in
theorem gX5_inflated_X5_spinOf : GoodIn wsX5_inflated (wsV RX5 145 RX5 yX5_spinOf wsX5_spinOf) := goodIn_app (goodIn_of _ (by decide +kernel)) ggX5_inflated_X5_spinOf
set_option maxRecDepth 20000 in
theorem ggX5_blocking_X5_isOuter : GoodIn wsX5_blocking wsX5_isOuter := goodIn_r _ [9, 10, 17, 18, 19, 20, 21, 22, 23, 24, 25, 26, 27, 28, 29, 30, 31, 32, 33, 34, 35, 36, 37, 38, 39, 40, 41, 42, 43, 44, 45, 46, 47, 48, 49, 50] (by decide +kernel) (by decide +kernel)
set_option maxRecDepth 20000 in
theorem gX5_blocking_X5_isOuter : GoodIn wsX5_blocking (wsV RX5 142 RX5 yX5_isOuter wsX5_isOuter) := goodIn_app (goodIn_of _ (by decide +kernel)) ggX5_blocking_X5_isOuter
set_option maxRecDepth 20000 in
theorem ggX5_blocking_X5_spinOf : GoodIn wsX5_blocking wsX5_spinOf := goodIn_r _ [14, 1, 2, 15, 16, 4, 5, 6, 7, 8, 9, 10, 17, 18, 19, 20, 21, 22, 23, 24, 25, 26, 27, 28, 29, 30, 31, 32, 33, 34, 35, 36, 37, 38, 39, 40, 41, 42, 43, 44, 45, 46, 47, 48, 49, 50] (by decide +kernel) (by decide +kernel)
set_option maxRecDepth 20000 in
theorem gX5_blocking_X5_spinOf : GoodIn wsX5_blocking (wsV RX5 145 RX5 yX5_spinOf wsX5_spinOf) := goodIn_app (goodIn_of _ (by decide +kernel)) ggX5_blocking_X5_spinOf
set_option maxRecDepth 20000 in
theorem ggX5_responseOf_X5_inflated : GoodIn wsX5_responseOf wsX5_inflated := goodIn_r _ [9, 10, 11, 12, 13, 14, 15, 8, 16, 17, 18, 19, 20, 21, 2, 22, 23, 28, 29, 30, 31, 32, 33, 34, 35, 36, 37, 38, 39, 40, 41, 42, 43, 44, 45, 46, 47, 48, 49, 50, 51, 52, 53, 54, 55, 56, 57, 58, 59, 60, 61] (by decide +kernel) (by decide +kernel)
set_option maxRecDepth 20000 in
theorem gX5_responseOf_X5_inflated : GoodIn wsX5_responseOf (wsV RX5 149 RX5 yX5_inflated wsX5_inflated) := goodIn_app (goodIn_of _ (by decide +kernel)) ggX5_responseOf_X5_inflated
set_option maxRecDepth 20000 in
theorem ggX5_responseOf_X5_blocking : GoodIn wsX5_responseOf wsX5_blocking := goodIn_r _ [27, 11, 2, 3, 12, 13, 14, 15, 8, 16, 17, 18, 19, 20, 21, 22, 23, 28, 29, 30, 31, 32, 33, 34, 35, 36, 37, 38, 39, 40, 41, 42, 43, 44, 45, 46, 47, 48, 49, 50, 51, 52, 53, 54, 55, 56, 57, 58, 59, 60, 61] (by decide +kernel) (by decide +kernel)
set_option maxRecDepth 20000 in
theorem gX5_responseOf_X5_blocking : GoodIn wsX5_responseOf (wsV RX5 152 RX5 yX5_blocking wsX5_blocking) := goodIn_app (goodIn_of _ (by decide +kernel)) ggX5_responseOf_X5_blocking
set_option maxRecDepth 20000 in
theorem ggX5_bound_X5_isTask : GoodIn wsX5_bound wsX5_isTask := goodIn_r _ [5, 6, 48, 49, 50, 51, 52, 53, 54, 55, 56, 57, 58, 59, 60, 61, 62, 63, 64, 65, 66, 67, 68, 69, 70, 71, 72, 73, 74, 75, 76, 77, 78, 79, 80, 81] (by decide +kernel) (by decide +kernel)
set_option maxRecDepth 20000 in
theorem gX5_bound_X5_isTask : GoodIn wsX5_bound (wsV RX5 108 RX5 yX5_isTask wsX5_isTask) := goodIn_app (goodIn_of _ (by decide +kernel)) ggX5_bound_X5_isTask
set_option maxRecDepth 20000 in
theorem ggX5_bound_X5_within : GoodIn wsX5_bound wsX5_within := goodIn_r _ [9] (by decide +kernel) (by decide +kernel)
set_option maxRecDepth 20000 in
theorem gX5_bound_X5_within : GoodIn wsX5_bound (va_wsS RX5 112 yX5_within wsX5_within) := goodIn_app (goodIn_of _ (by decide +kernel)) ggX5_bound_X5_within
set_option maxRecDepth 20000 in
theorem ggX5_bound_X5_refused : GoodIn wsX5_bound wsX5_refused := goodIn_r _ [13, 14, 48, 49, 50, 51, 52, 53, 54, 55, 56, 57, 58, 59, 60, 61, 62, 63, 64, 65, 66, 67, 68, 69, 70, 71, 72, 73, 74, 75, 76, 77, 78, 79, 80, 81] (by decide +kernel) (by decide +kernel)
set_option maxRecDepth 20000 in
theorem gX5_bound_X5_refused : GoodIn wsX5_bound (wsV RX5 124 RX5 yX5_refused wsX5_refused) := goodIn_app (goodIn_of _ (by decide +kernel)) ggX5_bound_X5_refused
set_option maxRecDepth 20000 in
theorem ggX5_bound_X5_findGroups : GoodIn wsX5_bound wsX5_findGroups := goodIn_r _ [18, 19, 20, 21, 22, 48, 49, 50, 51, 52, 53, 54, 55, 56, 57, 58, 59, 60, 61, 62, 63, 64, 65, 66, 67, 68, 69, 70, 71, 72, 73, 74, 75, 76, 77, 78, 79, 80, 81] (by decide +kernel) (by decide +kernel)
set_option maxRecDepth 20000 in
theorem gX5_bound_X5_findGroups : GoodIn wsX5_bound (wsV RX5 139 RX5 yX5_findGroups wsX5_findGroups) := goodIn_app (goodIn_of _ (by decide +kernel)) ggX5_bound_X5_findGroups
set_option maxRecDepth 20000 in
theorem ggX5_bound_X5_inflated : GoodIn wsX5_bound wsX5_inflated := goodIn_r _ [26, 27, 20, 28, 29, 30, 31, 4, 32, 21, 33, 34, 35, 36, 6, 19, 22, 48, 49, 50, 51, 52, 53, 54, 55, 56, 57, 58, 59, 60, 61, 62, 63, 64, 65, 66, 67, 68, 69, 70, 71, 72, 73, 74, 75, 76, 77, 78, 79, 80, 81] (by decide +kernel) (by decide +kernel)
set_option maxRecDepth 20000 in
theorem gX5_bound_X5_inflated : GoodIn wsX5_bound (wsV RX5 149 RX5 yX5_inflated wsX5_inflated) := goodIn_app (goodIn_of _ (by decide +kernel)) ggX5_bound_X5_inflated
set_option maxRecDepth 20000 in
theorem ggX5_bound_X5_blocking : GoodIn wsX5_bound wsX5_blocking := goodIn_r _ [40, 20, 6, 41, 28, 29, 30, 31, 4, 32, 21, 33, 34, 35, 36, 19, 22, 48, 49, 50, 51, 52, 53, 54, 55, 56, 57, 58, 59, 60, 61, 62, 63, 64, 65, 66, 67, 68, 69, 70, 71, 72, 73, 74, 75, 76, 77, 78, 79, 80, 81] (by decide +kernel) (by decide +kernel)
set_option maxRecDepth 20000 in
theorem gX5_bound_X5_blocking : GoodIn wsX5_bound (wsV RX5 152 RX5 yX5_blocking wsX5_blocking) := goodIn_app (goodIn_of _ (by decide +kernel)) ggX5_bound_X5_blocking
set_option maxRecDepth 20000 in
theorem ggX5_bound_X5_responseOf : GoodIn wsX5_bound wsX5_responseOf := goodIn_r _ [45, 46, 6, 41, 47, 23, 24, 25, 4, 26, 27, 20, 28, 29, 30, 31, 32, 21, 33, 34, 35, 36, 19, 22, 37, 38, 39, 40, 48, 49, 50, 51, 52, 53, 54, 55, 56, 57, 58, 59, 60, 61, 62, 63, 64, 65, 66, 67, 68, 69, 70, 71, 72, 73, 74, 75, 76, 77, 78, 79, 80, 81] (by decide +kernel) (by decide +kernel)
set_option maxRecDepth 20000 in
theorem gX5_bound_X5_responseOf : GoodIn wsX5_bound (wsV RX5 155 RX5 yX5_responseOf wsX5_responseOf) := goodIn_app (goodIn_of _ (by decide +kernel)) ggX5_bound_X5_responseOf
set_option maxRecDepth 20000 in
theorem ggX5_seal_X5_refused : GoodIn wsX5_seal wsX5_refused := goodIn_r _ [7, 8, 60, 61, 62, 63, 64, 65, 66, 67, 68, 69, 70, 71, 72, 73, 74, 75, 76, 77, 78, 79, 80, 81, 82, 83, 84, 85, 86, 87, 88, 89, 90, 91, 92, 93] (by decide +kernel) (by decide +kernel)
set_option maxRecDepth 20000 in
theorem gX5_seal_X5_refused : GoodIn wsX5_seal (wsV RX5 124 RX5 yX5_refused wsX5_refused) := goodIn_app (goodIn_of _ (by decide +kernel)) ggX5_seal_X5_refused
set_option maxRecDepth 20000 in
theorem ggX5_seal_X5_findGroups : GoodIn wsX5_seal wsX5_findGroups := goodIn_r _ [12, 13, 14, 15, 16, 60, 61, 62, 63, 64, 65, 66, 67, 68, 69, 70, 71, 72, 73, 74, 75, 76, 77, 78, 79, 80, 81, 82, 83, 84, 85, 86, 87, 88, 89, 90, 91, 92, 93] (by decide +kernel) (by decide +kernel)
set_option maxRecDepth 20000 in
theorem gX5_seal_X5_findGroups : GoodIn wsX5_seal (wsV RX5 139 RX5 yX5_findGroups wsX5_findGroups) := goodIn_app (goodIn_of _ (by decide +kernel)) ggX5_seal_X5_findGroups
set_option maxRecDepth 20000 in
theorem ggX5_seal_X5_responseOf : GoodIn wsX5_seal wsX5_responseOf := goodIn_r _ [20, 21, 2, 22, 23, 24, 25, 26, 6, 27, 28, 14, 29, 30, 31, 32, 33, 15, 34, 35, 36, 37, 13, 16, 38, 39, 40, 41, 60, 61, 62, 63, 64, 65, 66, 67, 68, 69, 70, 71, 72, 73, 74, 75, 76, 77, 78, 79, 80, 81, 82, 83, 84, 85, 86, 87, 88, 89, 90, 91, 92, 93] (by decide +kernel) (by decide +kernel)
set_option maxRecDepth 20000 in
theorem gX5_seal_X5_responseOf : GoodIn wsX5_seal (wsV RX5 155 RX5 yX5_responseOf wsX5_responseOf) := goodIn_app (goodIn_of _ (by decide +kernel)) ggX5_seal_X5_responseOf
set_option maxRecDepth 20000 in
theorem ggX5_seal_X5_forget : GoodIn wsX5_seal wsX5_forget := goodIn_r _ [45, 46, 47, 48, 49, 50, 51, 52, 53, 54, 29, 55, 56, 57, 58, 59, 60, 61, 62, 63, 64, 65, 66, 67, 68, 69, 70, 71, 72, 73, 74, 75, 76, 77, 78, 79, 80, 81, 82, 83, 84, 85, 86, 87, 88, 89, 90, 91, 92, 93] (by decide +kernel) (by decide +kernel)
set_option maxRecDepth 20000 in
theorem gX5_seal_X5_forget : GoodIn wsX5_seal (wsV RX5 101 RX5 yX5_forget wsX5_forget) := goodIn_app (goodIn_of _ (by decide +kernel)) ggX5_seal_X5_forget
set_option maxRecDepth 20000 in
theorem ggX5_unseal_X5_hasOpen : GoodIn wsX5_unseal wsX5_hasOpen := goodIn_r _ [6, 7, 31, 32, 33, 34, 35, 36, 37, 38, 39, 40, 41, 42, 43, 44, 45, 46, 47, 48, 49, 50, 51, 52, 53, 54, 55, 56, 57, 58, 59, 60, 61, 62, 63, 64] (by decide +kernel) (by decide +kernel)
set_option maxRecDepth 20000 in
theorem gX5_unseal_X5_hasOpen : GoodIn wsX5_unseal (wsV RX5 164 RX5 yX5_hasOpen wsX5_hasOpen) := goodIn_app (goodIn_of _ (by decide +kernel)) ggX5_unseal_X5_hasOpen
set_option maxRecDepth 20000 in
theorem ggX5_unseal_X5_refused : GoodIn wsX5_unseal wsX5_refused := goodIn_r _ [11, 12, 31, 32, 33, 34, 35, 36, 37, 38, 39, 40, 41, 42, 43, 44, 45, 46, 47, 48, 49, 50, 51, 52, 53, 54, 55, 56, 57, 58, 59, 60, 61, 62, 63, 64] (by decide +kernel) (by decide +kernel)
set_option maxRecDepth 20000 in
theorem gX5_unseal_X5_refused : GoodIn wsX5_unseal (wsV RX5 124 RX5 yX5_refused wsX5_refused) := goodIn_app (goodIn_of _ (by decide +kernel)) ggX5_unseal_X5_refused
set_option maxRecDepth 20000 in
theorem ggX5_unseal_X5_forget : GoodIn wsX5_unseal wsX5_forget := goodIn_r _ [16, 17, 18, 7, 19, 20, 21, 22, 23, 24, 25, 26, 27, 28, 29, 30, 31, 32, 33, 34, 35, 36, 37, 38, 39, 40, 41, 42, 43, 44, 45, 46, 47, 48, 49, 50, 51, 52, 53, 54, 55, 56, 57, 58, 59, 60, 61, 62, 63, 64] (by decide +kernel) (by decide +kernel)
set_option maxRecDepth 20000 in
theorem gX5_unseal_X5_forget : GoodIn wsX5_unseal (wsV RX5 101 RX5 yX5_forget wsX5_forget) := goodIn_app (goodIn_of _ (by decide +kernel)) ggX5_unseal_X5_forget
set_option maxRecDepth 20000 in
theorem ggX5_arrive_X5_isTask : GoodIn wsX5_arrive wsX5_isTask := goodIn_r _ [17, 18, 33, 34, 35, 36, 37, 38, 39, 40, 41, 42, 43, 44, 45, 46, 47, 48, 49, 50, 51, 52, 53, 54, 55, 56, 57, 58, 59, 60, 61, 62, 63, 64, 65, 66] (by decide +kernel) (by decide +kernel)
set_option maxRecDepth 20000 in
theorem gX5_arrive_X5_isTask : GoodIn wsX5_arrive (wsV RX5 108 RX5 yX5_isTask wsX5_isTask) := goodIn_app (goodIn_of _ (by decide +kernel)) ggX5_arrive_X5_isTask
set_option maxRecDepth 20000 in
theorem ggX5_arrive_X5_refused : GoodIn wsX5_arrive wsX5_refused := goodIn_r _ [22, 23, 33, 34, 35, 36, 37, 38, 39, 40, 41, 42, 43, 44, 45, 46, 47, 48, 49, 50, 51, 52, 53, 54, 55, 56, 57, 58, 59, 60, 61, 62, 63, 64, 65, 66] (by decide +kernel) (by decide +kernel)
set_option maxRecDepth 20000 in
theorem gX5_arrive_X5_refused : GoodIn wsX5_arrive (wsV RX5 124 RX5 yX5_refused wsX5_refused) := goodIn_app (goodIn_of _ (by decide +kernel)) ggX5_arrive_X5_refused
set_option maxRecDepth 20000 in
theorem ggX5_arrive_X5_goToNext : GoodIn wsX5_arrive wsX5_goToNext := goodIn_r _ [27, 8, 9, 28, 29, 30, 16, 31, 32, 33, 34, 35, 36, 37, 38, 39, 40, 41, 42, 43, 44, 45, 46, 47, 48, 49, 50, 51, 52, 53, 54, 55, 56, 57, 58, 59, 60, 61, 62, 63, 64, 65, 66] (by decide +kernel) (by decide +kernel)
set_option maxRecDepth 20000 in
theorem gX5_arrive_X5_goToNext : GoodIn wsX5_arrive (wsV RX5 168 RX5 yX5_goToNext wsX5_goToNext) := goodIn_app (goodIn_of _ (by decide +kernel)) ggX5_arrive_X5_goToNext
set_option maxRecDepth 20000 in
theorem ggX5_goToNext_X5_isOuter : GoodIn wsX5_goToNext wsX5_isOuter := goodIn_r _ [7, 8, 9, 10, 11, 12, 13, 14, 15, 16, 17, 18, 19, 20, 21, 22, 23, 24, 25, 26, 27, 28, 29, 30, 31, 32, 33, 34, 35, 36, 37, 38, 39, 40, 41, 42] (by decide +kernel) (by decide +kernel)
set_option maxRecDepth 20000 in
theorem gX5_goToNext_X5_isOuter : GoodIn wsX5_goToNext (wsV RX5 142 RX5 yX5_isOuter wsX5_isOuter) := goodIn_app (goodIn_of _ (by decide +kernel)) ggX5_goToNext_X5_isOuter
set_option maxRecDepth 20000 in
theorem ggX5_shorten_X5_isRequest : GoodIn wsX5_shorten wsX5_isRequest := goodIn_r _ [8, 9, 10, 11, 12, 7, 13, 14, 28, 29, 30, 31, 32, 33, 34, 35, 36, 37, 38, 39, 40, 41, 42, 43, 44, 45, 46, 47, 48, 49, 50, 51, 52, 53, 54, 55, 56, 57, 58, 59, 60, 61] (by decide +kernel) (by decide +kernel)
set_option maxRecDepth 20000 in
theorem gX5_shorten_X5_isRequest : GoodIn wsX5_shorten (wsV RX5 132 RX5 yX5_isRequest wsX5_isRequest) := goodIn_app (goodIn_of _ (by decide +kernel)) ggX5_shorten_X5_isRequest
set_option maxRecDepth 20000 in
theorem ggX5_shorten_X5_isOuter : GoodIn wsX5_shorten wsX5_isOuter := goodIn_r _ [18, 19, 28, 29, 30, 31, 32, 33, 34, 35, 36, 37, 38, 39, 40, 41, 42, 43, 44, 45, 46, 47, 48, 49, 50, 51, 52, 53, 54, 55, 56, 57, 58, 59, 60, 61] (by decide +kernel) (by decide +kernel)
set_option maxRecDepth 20000 in
theorem gX5_shorten_X5_isOuter : GoodIn wsX5_shorten (wsV RX5 142 RX5 yX5_isOuter wsX5_isOuter) := goodIn_app (goodIn_of _ (by decide +kernel)) ggX5_shorten_X5_isOuter
set_option maxRecDepth 20000 in
theorem ggX5_shorten_X5_within : GoodIn wsX5_shorten wsX5_within := goodIn_r _ [22] (by decide +kernel) (by decide +kernel)
set_option maxRecDepth 20000 in
theorem gX5_shorten_X5_within : GoodIn wsX5_shorten (va_wsS RX5 112 yX5_within wsX5_within) := goodIn_app (goodIn_of _ (by decide +kernel)) ggX5_shorten_X5_within
set_option maxRecDepth 20000 in
theorem ggX5_shorten_X5_refused : GoodIn wsX5_shorten wsX5_refused := goodIn_r _ [26, 27, 28, 29, 30, 31, 32, 33, 34, 35, 36, 37, 38, 39, 40, 41, 42, 43, 44, 45, 46, 47, 48, 49, 50, 51, 52, 53, 54, 55, 56, 57, 58, 59, 60, 61] (by decide +kernel) (by decide +kernel)
set_option maxRecDepth 20000 in
theorem gX5_shorten_X5_refused : GoodIn wsX5_shorten (wsV RX5 124 RX5 yX5_refused wsX5_refused) := goodIn_app (goodIn_of _ (by decide +kernel)) ggX5_shorten_X5_refused
set_option maxRecDepth 20000 in
theorem ggX5_choose_X5_groupOf : GoodIn wsX5_choose wsX5_groupOf := goodIn_r _ [19, 20, 21, 6, 22, 23, 24, 25, 26, 27, 28, 29, 30, 31, 32, 33, 34, 35, 36, 37, 38, 39, 40, 41, 42, 43, 44, 45, 46, 47, 48, 49, 50, 51, 52, 53, 54, 55] (by decide +kernel) (by decide +kernel)
set_option maxRecDepth 20000 in
theorem gX5_choose_X5_groupOf : GoodIn wsX5_choose (wsV RX5 172 RX5 yX5_groupOf wsX5_groupOf) := goodIn_app (goodIn_of _ (by decide +kernel)) ggX5_choose_X5_groupOf
set_option maxRecDepth 20000 in
theorem ggX5_goOn_X5_groupOf : GoodIn wsX5_goOn wsX5_groupOf := goodIn_r _ [16, 17, 18, 7, 46, 47, 48, 49, 50, 51, 52, 53, 54, 55, 56, 57, 58, 59, 60, 61, 62, 63, 64, 65, 66, 67, 68, 69, 70, 71, 72, 73, 74, 75, 76, 77, 78, 79] (by decide +kernel) (by decide +kernel)
set_option maxRecDepth 20000 in
theorem gX5_goOn_X5_groupOf : GoodIn wsX5_goOn (wsV RX5 172 RX5 yX5_groupOf wsX5_groupOf) := goodIn_app (goodIn_of _ (by decide +kernel)) ggX5_goOn_X5_groupOf
set_option maxRecDepth 20000 in
theorem ggX5_goOn_X5_leave : GoodIn wsX5_goOn wsX5_leave := goodIn_r _ [22, 23, 24, 4, 46, 47, 48, 49, 50, 51, 52, 53, 54, 55, 56, 57, 58, 59, 60, 61, 62, 63, 64, 65, 66, 67, 68, 69, 70, 71, 72, 73, 74, 75, 76, 77, 78, 79] (by decide +kernel) (by decide +kernel)
set_option maxRecDepth 20000 in
theorem gX5_goOn_X5_leave : GoodIn wsX5_goOn (wsV RX5 175 RX5 yX5_leave wsX5_leave) := goodIn_app (goodIn_of _ (by decide +kernel)) ggX5_goOn_X5_leave
set_option maxRecDepth 20000 in
theorem ggX5_goOn_X5_goToNext : GoodIn wsX5_goOn wsX5_goToNext := goodIn_r _ [28, 7, 11, 29, 30, 31, 15, 32, 33, 46, 47, 48, 49, 50, 51, 52, 53, 54, 55, 56, 57, 58, 59, 60, 61, 62, 63, 64, 65, 66, 67, 68, 69, 70, 71, 72, 73, 74, 75, 76, 77, 78, 79] (by decide +kernel) (by decide +kernel)
set_option maxRecDepth 20000 in
theorem gX5_goOn_X5_goToNext : GoodIn wsX5_goOn (wsV RX5 168 RX5 yX5_goToNext wsX5_goToNext) := goodIn_app (goodIn_of _ (by decide +kernel)) ggX5_goOn_X5_goToNext
set_option maxRecDepth 20000 in
theorem ggX5_goOn_X5_end : GoodIn wsX5_goOn wsX5_end := goodIn_r _ [37, 38, 39, 40, 41, 42, 43, 44, 45, 46, 47, 48, 49, 50, 51, 52, 53, 54, 55, 56, 57, 58, 59, 60, 61, 62, 63, 64, 65, 66, 67, 68, 69, 70, 71, 72, 73, 74, 75, 76, 77, 78, 79] (by decide +kernel) (by decide +kernel)
set_option maxRecDepth 20000 in
theorem gX5_goOn_X5_end : GoodIn wsX5_goOn (wsV RX5 179 RX5 yX5_end wsX5_end) := goodIn_app (goodIn_of _ (by decide +kernel)) ggX5_goOn_X5_end
set_option maxRecDepth 20000 in
theorem ggX5_tick_X5_within : GoodIn wsX5_tick wsX5_within := goodIn_r _ [13] (by decide +kernel) (by decide +kernel)
set_option maxRecDepth 20000 in
theorem gX5_tick_X5_within : GoodIn wsX5_tick (va_wsS RX5 112 yX5_within wsX5_within) := goodIn_app (goodIn_of _ (by decide +kernel)) ggX5_tick_X5_within
set_option maxRecDepth 20000 in
theorem ggX5_tick_X5_refused : GoodIn wsX5_tick wsX5_refused := goodIn_r _ [17, 18, 72, 73, 74, 75, 76, 77, 78, 79, 80, 81, 82, 83, 84, 85, 86, 87, 88, 89, 90, 91, 92, 93, 94, 95, 96, 97, 98, 99, 100, 101, 102, 103, 104, 105] (by decide +kernel) (by decide +kernel)
set_option maxRecDepth 20000 in
theorem gX5_tick_X5_refused : GoodIn wsX5_tick (wsV RX5 124 RX5 yX5_refused wsX5_refused) := goodIn_app (goodIn_of _ (by decide +kernel)) ggX5_tick_X5_refused
set_option maxRecDepth 20000 in
theorem ggX5_tick_X5_choose : GoodIn wsX5_tick wsX5_choose := goodIn_r _ [22, 4, 9, 23, 24, 25, 26, 27, 28, 29, 5, 3, 30, 31, 32, 33, 34, 35, 12, 36, 37, 38, 72, 73, 74, 75, 76, 77, 78, 79, 80, 81, 82, 83, 84, 85, 86, 87, 88, 89, 90, 91, 92, 93, 94, 95, 96, 97, 98, 99, 100, 101, 102, 103, 104, 105] (by decide +kernel) (by decide +kernel)
set_option maxRecDepth 20000 in
theorem gX5_tick_X5_choose : GoodIn wsX5_tick (wsV RX5 183 RX5 yX5_choose wsX5_choose) := goodIn_app (goodIn_of _ (by decide +kernel)) ggX5_tick_X5_choose
set_option maxRecDepth 20000 in
theorem ggX5_tick_X5_goOn : GoodIn wsX5_tick wsX5_goOn := goodIn_r _ [42, 9, 7, 8, 4, 28, 30, 26, 43, 31, 44, 27, 33, 34, 35, 12, 36, 37, 38, 45, 46, 47, 48, 3, 5, 49, 50, 51, 52, 53, 54, 55, 56, 57, 58, 59, 60, 61, 23, 62, 63, 6, 64, 65, 66, 67, 72, 73, 74, 75, 76, 77, 78, 79, 80, 81, 82, 83, 84, 85, 86, 87, 88, 89, 90, 91, 92, 93, 94, 95, 96, 97, 98, 99, 100, 101, 102, 103, 104, 105] (by decide +kernel) (by decide +kernel)
set_option maxRecDepth 20000 in
theorem gX5_tick_X5_goOn : GoodIn wsX5_tick (wsV RX5 186 RX5 yX5_goOn wsX5_goOn) := goodIn_app (goodIn_of _ (by decide +kernel)) ggX5_tick_X5_goOn
