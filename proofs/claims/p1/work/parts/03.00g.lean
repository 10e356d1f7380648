set_option maxRecDepth 20000 in
theorem ggX0_init__X0_add : GoodIn wsX0_init_ wsX0_add := goodIn_r _ [10, 11, 5, 12, 13, 14, 15, 16, 17, 18, 19, 20, 21, 4, 22, 23, 24, 25, 26, 27, 28, 29, 30, 31] (by decide +kernel) (by decide +kernel)
set_option maxRecDepth 20000 in
theorem gX0_init__X0_add : GoodIn wsX0_init_ (wsV RX0 15 RX0 yX0_add wsX0_add) := goodIn_app (goodIn_of _ (by decide +kernel)) ggX0_init__X0_add
set_option maxRecDepth 20000 in
theorem ggX0_add_J7_copyOf_59c91 : GoodIn wsX0_add wsJ7_copyOf_59c91 := goodIn_r _ [6, 7, 8, 9, 10, 11, 12, 13, 14, 15, 16, 17, 18, 19, 20, 21] (by decide +kernel) (by decide +kernel)
set_option maxRecDepth 20000 in
theorem gX0_add_J7_copyOf_59c91 : GoodIn wsX0_add (va_wsS RX0 23 yJ7_copyOf_59c91 wsJ7_copyOf_59c91) := goodIn_app (goodIn_of _ (by decide +kernel)) ggX0_add_J7_copyOf_59c91
set_option maxRecDepth 20000 in
theorem ggX3_init_X0_init : GoodIn wsX3_init wsX0_init := goodIn_r _ [15, 16, 2, 3, 17, 18, 19, 20] (by decide +kernel) (by decide +kernel)
set_option maxRecDepth 20000 in
theorem gX3_init_X0_init : GoodIn wsX3_init (wsX0_init) := ggX3_init_X0_init
set_option maxRecDepth 20000 in
theorem ggX4_startAnew_X0_cutTo : GoodIn wsX4_startAnew wsX0_cutTo := goodIn_r _ [17, 18, 63, 64] (by decide +kernel) (by decide +kernel)
set_option maxRecDepth 20000 in
theorem gX4_startAnew_X0_cutTo : GoodIn wsX4_startAnew (wsV RX4 61 RX0 yX0_cutTo wsX0_cutTo) := goodIn_app (goodIn_of _ (by decide +kernel)) ggX4_startAnew_X0_cutTo
set_option maxRecDepth 20000 in
theorem ggX4_startAnew_X4_addType : GoodIn wsX4_startAnew wsX4_addType := goodIn_r _ [23, 1, 24, 2, 3, 4, 10, 25, 26, 27, 16, 28, 18, 29, 30, 31, 32, 33, 34, 35, 36, 37, 38, 39, 40, 41, 42, 43, 44, 45, 46, 47, 48, 49, 50, 51, 52, 53, 54, 55, 56, 57, 58, 59, 60, 61, 62, 63, 64] (by decide +kernel) (by decide +kernel)
set_option maxRecDepth 20000 in
theorem gX4_startAnew_X4_addType : GoodIn wsX4_startAnew (wsV RX4 65 RX4 yX4_addType wsX4_addType) := goodIn_app (goodIn_of _ (by decide +kernel)) ggX4_startAnew_X4_addType
set_option maxRecDepth 20000 in
theorem ggX4_addType_X0_add : GoodIn wsX4_addType wsX0_add := goodIn_r _ [11, 12, 13, 14, 15, 16, 17, 18, 19, 20, 21, 22, 23, 24, 25, 26, 27, 28, 29, 30, 31, 32, 47, 48] (by decide +kernel) (by decide +kernel)
set_option maxRecDepth 20000 in
theorem gX4_addType_X0_add : GoodIn wsX4_addType (wsV RX4 73 RX0 yX0_add wsX0_add) := goodIn_app (goodIn_of _ (by decide +kernel)) ggX4_addType_X0_add
