set_option maxRecDepth 20000 in
theorem ggX0_init__X0_add : GoodIn wsX0_init_ wsX0_add := goodIn_r _ [10, 11, 5, 12, 13, 14, 15, 16, 17, 18, 19, 20, 21, 4, 22, 23, 24, 25, 26, 27, 28, 29, 30, 31] (by decide +kernel) (by decide +kernel)
set_option maxRecDepth 20000 in
theorem gX0_init__X0_add : GoodIn wsX0_init_ (wsV RX0 15 RX0 yX0_add wsX0_add) := goodIn_app (goodIn_of _ (by decide +kernel)) ggX0_init__X0_add
set_option maxRecDepth 20000 in
theorem ggX0_add_J7_copyOf_59c91 : GoodIn wsX0_add wsJ7_copyOf_59c91 := goodIn_r _ [6, 7, 8, 9, 10, 11, 12, 13, 14, 15, 16, 17, 18, 19, 20, 21] (by decide +kernel) (by decide +kernel)
set_option maxRecDepth 20000 in
theorem gX0_add_J7_copyOf_59c91 : GoodIn wsX0_add (va_wsS RX0 23 yJ7_copyOf_59c91 wsJ7_copyOf_59c91) := goodIn_app (goodIn_of _ (by decide +kernel)) ggX0_add_J7_copyOf_59c91
