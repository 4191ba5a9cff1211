set_option maxRecDepth 20000 in
theorem ggX5_tick_X5_hasOpen : GoodIn wsX5_tick wsX5_hasOpen := goodIn_r _ [71, 23, 72, 73, 74, 75, 76, 77, 78, 79, 80, 81, 82, 83, 84, 85, 86, 87, 88, 89, 90, 91, 92, 93, 94, 95, 96, 97, 98, 99, 100, 101, 102, 103, 104, 105] (by decide +kernel) (by decide +kernel)
set_option maxRecDepth 20000 in
theorem gX5_tick_X5_hasOpen : GoodIn wsX5_tick (wsV RX5 164 RX5 yX5_hasOpen wsX5_hasOpen) := goodIn_app (goodIn_of _ (by decide +kernel)) ggX5_tick_X5_hasOpen
set_option maxRecDepth 20000 in
theorem ggX5_core_X5_within : GoodIn wsX5_core wsX5_within := goodIn_r _ [6] (by decide +kernel) (by decide +kernel)
set_option maxRecDepth 20000 in
theorem gX5_core_X5_within : GoodIn wsX5_core (va_wsS RX5 112 yX5_within wsX5_within) := goodIn_app (goodIn_of _ (by decide +kernel)) ggX5_core_X5_within
set_option maxRecDepth 20000 in
theorem ggX5_core_X5_refused : GoodIn wsX5_core wsX5_refused := goodIn_r _ [10, 11, 12, 13, 14, 15, 16, 17, 18, 19, 20, 21, 22, 23, 24, 25, 26, 27, 28, 29, 30, 31, 32, 33, 34, 35, 36, 37, 38, 39, 40, 41, 42, 43, 44, 45] (by decide +kernel) (by decide +kernel)
set_option maxRecDepth 20000 in
theorem gX5_core_X5_refused : GoodIn wsX5_core (wsV RX5 124 RX5 yX5_refused wsX5_refused) := goodIn_app (goodIn_of _ (by decide +kernel)) ggX5_core_X5_refused
set_option maxRecDepth 20000 in
theorem ggX5_row_X5_within : GoodIn wsX5_row wsX5_within := goodIn_r _ [7] (by decide +kernel) (by decide +kernel)
set_option maxRecDepth 20000 in
theorem gX5_row_X5_within : GoodIn wsX5_row (va_wsS RX5 112 yX5_within wsX5_within) := goodIn_app (goodIn_of _ (by decide +kernel)) ggX5_row_X5_within
set_option maxRecDepth 20000 in
theorem ggX5_row_X5_refused : GoodIn wsX5_row wsX5_refused := goodIn_r _ [11, 12, 20, 21, 22, 23, 24, 25, 26, 27, 28, 29, 30, 31, 32, 33, 34, 35, 36, 37, 38, 39, 40, 41, 42, 43, 44, 45, 46, 47, 48, 49, 50, 51, 52, 53] (by decide +kernel) (by decide +kernel)
set_option maxRecDepth 20000 in
theorem gX5_row_X5_refused : GoodIn wsX5_row (wsV RX5 124 RX5 yX5_refused wsX5_refused) := goodIn_app (goodIn_of _ (by decide +kernel)) ggX5_row_X5_refused
set_option maxRecDepth 20000 in
theorem ggX5_row_X5_findGroups : GoodIn wsX5_row wsX5_findGroups := goodIn_r _ [16, 1, 17, 18, 19, 20, 21, 22, 23, 24, 25, 26, 27, 28, 29, 30, 31, 32, 33, 34, 35, 36, 37, 38, 39, 40, 41, 42, 43, 44, 45, 46, 47, 48, 49, 50, 51, 52, 53] (by decide +kernel) (by decide +kernel)
set_option maxRecDepth 20000 in
theorem gX5_row_X5_findGroups : GoodIn wsX5_row (wsV RX5 139 RX5 yX5_findGroups wsX5_findGroups) := goodIn_app (goodIn_of _ (by decide +kernel)) ggX5_row_X5_findGroups
set_option maxRecDepth 20000 in
theorem ggX5_jobs_X5_isTask : GoodIn wsX5_jobs wsX5_isTask := goodIn_r _ [9, 10, 19, 20, 21, 22, 23, 24, 25, 26, 27, 28, 29, 30, 31, 32, 33, 34, 35, 36, 37, 38, 39, 40, 41, 42, 43, 44, 45, 46, 47, 48, 49, 50, 51, 52] (by decide +kernel) (by decide +kernel)
set_option maxRecDepth 20000 in
theorem gX5_jobs_X5_isTask : GoodIn wsX5_jobs (wsV RX5 108 RX5 yX5_isTask wsX5_isTask) := goodIn_app (goodIn_of _ (by decide +kernel)) ggX5_jobs_X5_isTask
set_option maxRecDepth 20000 in
theorem ggX5_jobs_X5_within : GoodIn wsX5_jobs wsX5_within := goodIn_r _ [13] (by decide +kernel) (by decide +kernel)
set_option maxRecDepth 20000 in
theorem gX5_jobs_X5_within : GoodIn wsX5_jobs (va_wsS RX5 112 yX5_within wsX5_within) := goodIn_app (goodIn_of _ (by decide +kernel)) ggX5_jobs_X5_within
set_option maxRecDepth 20000 in
theorem ggX5_jobs_X5_refused : GoodIn wsX5_jobs wsX5_refused := goodIn_r _ [17, 18, 19, 20, 21, 22, 23, 24, 25, 26, 27, 28, 29, 30, 31, 32, 33, 34, 35, 36, 37, 38, 39, 40, 41, 42, 43, 44, 45, 46, 47, 48, 49, 50, 51, 52] (by decide +kernel) (by decide +kernel)
set_option maxRecDepth 20000 in
theorem gX5_jobs_X5_refused : GoodIn wsX5_jobs (wsV RX5 124 RX5 yX5_refused wsX5_refused) := goodIn_app (goodIn_of _ (by decide +kernel)) ggX5_jobs_X5_refused
set_option maxRecDepth 20000 in
theorem ggX5_spun_X5_isRequest : GoodIn wsX5_spun wsX5_isRequest := goodIn_r _ [6, 7, 8, 9, 10, 5, 11, 12, 18, 19, 20, 21, 22, 23, 24, 25, 26, 27, 28, 29, 30, 31, 32, 33, 34, 35, 36, 37, 38, 39, 40, 41, 42, 43, 44, 45, 46, 47, 48, 49, 50, 51] (by decide +kernel) (by decide +kernel)
set_option maxRecDepth 20000 in
theorem gX5_spun_X5_isRequest : GoodIn wsX5_spun (wsV RX5 132 RX5 yX5_isRequest wsX5_isRequest) := goodIn_app (goodIn_of _ (by decide +kernel)) ggX5_spun_X5_isRequest
set_option maxRecDepth 20000 in
theorem ggX5_spun_X5_refused : GoodIn wsX5_spun wsX5_refused := goodIn_r _ [16, 17, 18, 19, 20, 21, 22, 23, 24, 25, 26, 27, 28, 29, 30, 31, 32, 33, 34, 35, 36, 37, 38, 39, 40, 41, 42, 43, 44, 45, 46, 47, 48, 49, 50, 51] (by decide +kernel) (by decide +kernel)
set_option maxRecDepth 20000 in
theorem gX5_spun_X5_refused : GoodIn wsX5_spun (wsV RX5 124 RX5 yX5_refused wsX5_refused) := goodIn_app (goodIn_of _ (by decide +kernel)) ggX5_spun_X5_refused
