theorem dX0_init__0 : decode cX0_init_ 0 = .ok (.aload_n 0, 1) := by decide +kernel
theorem dX0_init__1 : decode cX0_init_ 1 = .ok (.invokespecial 3, 3) := by decide +kernel
theorem dX0_init__4 : decode cX0_init_ 4 = .ok (.aload_n 0, 1) := by decide +kernel
theorem dX0_init__5 : decode cX0_init_ 5 = .ok (.iconst 4, 1) := by decide +kernel
theorem dX0_init__6 : decode cX0_init_ 6 = .ok (.newarray .int, 2) := by decide +kernel
theorem dX0_init__8 : decode cX0_init_ 8 = .ok (.putfield 9, 3) := by decide +kernel
theorem dX0_init__11 : decode cX0_init_ 11 = .ok (.iconst 0, 1) := by decide +kernel
theorem dX0_init__12 : decode cX0_init_ 12 = .ok (.istore_n 2, 1) := by decide +kernel
theorem dX0_init__13 : decode cX0_init_ 13 = .ok (.iload_n 2, 1) := by decide +kernel
theorem dX0_init__14 : decode cX0_init_ 14 = .ok (.iload_n 1, 1) := by decide +kernel
theorem dX0_init__15 : decode cX0_init_ 15 = .ok (.if_icmp .ge 15, 3) := by decide +kernel
theorem dX0_init__30 : decode cX0_init_ 30 = .ok (.return_, 1) := by decide +kernel
theorem dX0_init__18 : decode cX0_init_ 18 = .ok (.aload_n 0, 1) := by decide +kernel
theorem dX0_init__19 : decode cX0_init_ 19 = .ok (.bipush (-9), 2) := by decide +kernel
set_option maxRecDepth 20000 in
theorem ggX0_init__X0_add : GoodIn wsX0_init_ wsX0_add := goodIn_r _ [10, 11, 5, 12, 13, 14, 15, 16, 17, 18, 19, 20, 21, 4, 22, 23, 24, 25, 26, 27, 28, 29, 30, 31] (by decide +kernel) (by decide +kernel)
set_option maxRecDepth 20000 in
theorem gX0_init__X0_add : GoodIn wsX0_init_ (wsV RX0 15 RX0 yX0_add wsX0_add) := goodIn_app (goodIn_of _ (by decide +kernel)) ggX0_init__X0_add
theorem dX0_init__21 : decode cX0_init_ 21 = .ok (.invokevirtual 15, 3) := by decide +kernel
theorem dX0_init__24 : decode cX0_init_ 24 = .ok (.iinc 2 1, 3) := by decide +kernel
theorem dX0_init__27 : decode cX0_init_ 27 = .ok (.goto (-14), 3) := by decide +kernel
