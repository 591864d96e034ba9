set_option maxRecDepth 20000 in
theorem ggX0_giversTo_X4_bit : GoodIn wsX0_giversTo wsX4_bit := goodIn_r _ [8] (by decide +kernel) (by decide +kernel)
set_option maxRecDepth 20000 in
theorem gX0_giversTo_X4_bit_n29 : GoodIn wsX0_giversTo (wsX4_bit) := ggX0_giversTo_X4_bit
set_option maxRecDepth 20000 in
theorem ggX1_read_X1_restart : GoodIn wsX1_read wsX1_restart := goodIn_r _ [9, 1, 2, 16, 17, 18] (by decide +kernel) (by decide +kernel)
set_option maxRecDepth 20000 in
theorem gX1_read_X1_restart : GoodIn wsX1_read (wsV RX1 21 RX1 yX1_restart wsX1_restart) := goodIn_app (goodIn_of _ (by decide +kernel)) ggX1_read_X1_restart
set_option maxRecDepth 20000 in
theorem ggX1_read_X4_checkValue : GoodIn wsX1_read wsX4_checkValue := goodIn_r _ [12, 13, 14, 11, 15] (by decide +kernel) (by decide +kernel)
set_option maxRecDepth 20000 in
theorem gX1_read_X4_checkValue_n25 : GoodIn wsX1_read (wsX4_checkValue) := ggX1_read_X4_checkValue
set_option maxRecDepth 20000 in
theorem ggX2_tradersWith_X2_isOnDay : GoodIn wsX2_tradersWith wsX2_isOnDay := goodIn_r _ [9, 10, 11, 15, 16, 17, 18, 19, 20] (by decide +kernel) (by decide +kernel)
set_option maxRecDepth 20000 in
theorem gX2_tradersWith_X2_isOnDay : GoodIn wsX2_tradersWith (wsV RX2 31 RX2 yX2_isOnDay wsX2_isOnDay) := goodIn_app (goodIn_of _ (by decide +kernel)) ggX2_tradersWith_X2_isOnDay
set_option maxRecDepth 20000 in
theorem ggX2_tradersWith_X4_bit : GoodIn wsX2_tradersWith wsX4_bit := goodIn_r _ [14] (by decide +kernel) (by decide +kernel)
set_option maxRecDepth 20000 in
theorem gX2_tradersWith_X4_bit_n35 : GoodIn wsX2_tradersWith (wsX4_bit) := ggX2_tradersWith_X4_bit
set_option maxRecDepth 20000 in
theorem ggX2_actsOf_X4_holds : GoodIn wsX2_actsOf wsX4_holds := goodIn_r _ [6] (by decide +kernel) (by decide +kernel)
set_option maxRecDepth 20000 in
theorem gX2_actsOf_X4_holds_n39 : GoodIn wsX2_actsOf (wsX4_holds) := ggX2_actsOf_X4_holds
set_option maxRecDepth 20000 in
theorem ggX2_actsOf_X2_isOnDay : GoodIn wsX2_actsOf wsX2_isOnDay := goodIn_r _ [11, 12, 13, 16, 17, 18, 19, 20, 21] (by decide +kernel) (by decide +kernel)
set_option maxRecDepth 20000 in
theorem gX2_actsOf_X2_isOnDay : GoodIn wsX2_actsOf (wsV RX2 31 RX2 yX2_isOnDay wsX2_isOnDay) := goodIn_app (goodIn_of _ (by decide +kernel)) ggX2_actsOf_X2_isOnDay
set_option maxRecDepth 20000 in
theorem ggX2_actsOf_X4_bit : GoodIn wsX2_actsOf wsX4_bit := goodIn_r _ [15] (by decide +kernel) (by decide +kernel)
set_option maxRecDepth 20000 in
theorem gX2_actsOf_X4_bit_n35 : GoodIn wsX2_actsOf (wsX4_bit) := ggX2_actsOf_X4_bit
set_option maxRecDepth 20000 in
theorem ggX4_init_J7_fill_53178 : GoodIn wsX4_init wsJ7_fill_53178 := goodIn_r _ [31] (by decide +kernel) (by decide +kernel)
set_option maxRecDepth 20000 in
theorem gX4_init_J7_fill_53178 : GoodIn wsX4_init (va_wsS RX4 32 yJ7_fill_53178 wsJ7_fill_53178) := goodIn_app (goodIn_of _ (by decide +kernel)) ggX4_init_J7_fill_53178
set_option maxRecDepth 20000 in
theorem ggX4_init_X2_init : GoodIn wsX4_init wsX2_init := goodIn_r _ [33, 34, 2, 3, 35, 6, 36, 37, 38, 39, 40, 74, 75, 76, 77, 78, 79] (by decide +kernel) (by decide +kernel)
set_option maxRecDepth 20000 in
theorem gX4_init_X2_init_n40 : GoodIn wsX4_init (wsX2_init) := ggX4_init_X2_init
set_option maxRecDepth 20000 in
theorem ggX4_init_X0_init : GoodIn wsX4_init wsX0_init := goodIn_r _ [42, 43, 2, 3, 44, 6, 45, 46, 47, 48, 49, 80, 81, 82, 83, 84] (by decide +kernel) (by decide +kernel)
set_option maxRecDepth 20000 in
theorem gX4_init_X0_init_n47 : GoodIn wsX4_init (wsX0_init) := ggX4_init_X0_init
set_option maxRecDepth 20000 in
theorem ggX4_init_X3_init : GoodIn wsX4_init wsX3_init := goodIn_r _ [51, 52, 2, 3, 53, 6, 54, 55, 47, 56, 85, 86, 87, 88] (by decide +kernel) (by decide +kernel)
set_option maxRecDepth 20000 in
theorem gX4_init_X3_init_n54 : GoodIn wsX4_init (wsX3_init) := ggX4_init_X3_init
set_option maxRecDepth 20000 in
theorem ggX4_init_X1_init : GoodIn wsX4_init wsX1_init := goodIn_r _ [58, 59, 2, 3, 60, 61, 62, 89, 90, 91] (by decide +kernel) (by decide +kernel)
set_option maxRecDepth 20000 in
theorem gX4_init_X1_init_n61 : GoodIn wsX4_init (wsX1_init) := ggX4_init_X1_init
set_option maxRecDepth 20000 in
theorem ggX4_right_X4_isTrader : GoodIn wsX4_right wsX4_isTrader := goodIn_r _ [10, 11, 32, 33, 34, 35, 36, 37, 38, 39, 40, 41, 42] (by decide +kernel) (by decide +kernel)
set_option maxRecDepth 20000 in
theorem gX4_right_X4_isTrader : GoodIn wsX4_right (wsV RX4 73 RX4 yX4_isTrader wsX4_isTrader) := goodIn_app (goodIn_of _ (by decide +kernel)) ggX4_right_X4_isTrader
set_option maxRecDepth 20000 in
theorem ggX4_right_X4_isAct : GoodIn wsX4_right wsX4_isAct := goodIn_r _ [14] (by decide +kernel) (by decide +kernel)
set_option maxRecDepth 20000 in
theorem gX4_right_X4_isAct : GoodIn wsX4_right (va_wsS RX4 77 yX4_isAct wsX4_isAct) := goodIn_app (goodIn_of _ (by decide +kernel)) ggX4_right_X4_isAct
set_option maxRecDepth 20000 in
theorem ggX4_right_X4_isPlace : GoodIn wsX4_right wsX4_isPlace := goodIn_r _ [17] (by decide +kernel) (by decide +kernel)
set_option maxRecDepth 20000 in
theorem gX4_right_X4_isPlace : GoodIn wsX4_right (va_wsS RX4 80 yX4_isPlace wsX4_isPlace) := goodIn_app (goodIn_of _ (by decide +kernel)) ggX4_right_X4_isPlace
set_option maxRecDepth 20000 in
theorem ggX4_right_X4_isDay : GoodIn wsX4_right wsX4_isDay := goodIn_r _ [20, 21] (by decide +kernel) (by decide +kernel)
set_option maxRecDepth 20000 in
theorem gX4_right_X4_isDay : GoodIn wsX4_right (va_wsS RX4 88 yX4_isDay wsX4_isDay) := goodIn_app (goodIn_of _ (by decide +kernel)) ggX4_right_X4_isDay
set_option maxRecDepth 20000 in
theorem ggX4_right_X2_append : GoodIn wsX4_right wsX2_append := goodIn_r _ [25, 26, 27, 28, 29, 30, 31, 43, 44, 45, 46, 47, 48] (by decide +kernel) (by decide +kernel)
set_option maxRecDepth 20000 in
theorem gX4_right_X2_append_n98 : GoodIn wsX4_right (wsX2_append) := ggX4_right_X2_append
set_option maxRecDepth 20000 in
theorem ggX4_forbid_X4_isTrader : GoodIn wsX4_forbid wsX4_isTrader := goodIn_r _ [6, 7, 21, 22, 23, 24, 25, 26, 27, 28, 29, 30, 31] (by decide +kernel) (by decide +kernel)
set_option maxRecDepth 20000 in
theorem gX4_forbid_X4_isTrader : GoodIn wsX4_forbid (wsV RX4 73 RX4 yX4_isTrader wsX4_isTrader) := goodIn_app (goodIn_of _ (by decide +kernel)) ggX4_forbid_X4_isTrader
set_option maxRecDepth 20000 in
theorem ggX4_forbid_X4_isAct : GoodIn wsX4_forbid wsX4_isAct := goodIn_r _ [10] (by decide +kernel) (by decide +kernel)
set_option maxRecDepth 20000 in
theorem gX4_forbid_X4_isAct : GoodIn wsX4_forbid (va_wsS RX4 77 yX4_isAct wsX4_isAct) := goodIn_app (goodIn_of _ (by decide +kernel)) ggX4_forbid_X4_isAct
set_option maxRecDepth 20000 in
theorem ggX4_forbid_X4_isForbidden : GoodIn wsX4_forbid wsX4_isForbidden := goodIn_r _ [14, 1, 15, 16, 5, 17, 21, 22, 23, 24, 25, 26, 27, 28, 29, 30, 31] (by decide +kernel) (by decide +kernel)
set_option maxRecDepth 20000 in
theorem gX4_forbid_X4_isForbidden : GoodIn wsX4_forbid (wsV RX4 102 RX4 yX4_isForbidden wsX4_isForbidden) := goodIn_app (goodIn_of _ (by decide +kernel)) ggX4_forbid_X4_isForbidden
set_option maxRecDepth 20000 in
theorem ggX4_forbid_X4_bit : GoodIn wsX4_forbid wsX4_bit := goodIn_r _ [20] (by decide +kernel) (by decide +kernel)
set_option maxRecDepth 20000 in
theorem gX4_forbid_X4_bit : GoodIn wsX4_forbid (va_wsS RX4 106 yX4_bit wsX4_bit) := goodIn_app (goodIn_of _ (by decide +kernel)) ggX4_forbid_X4_bit
set_option maxRecDepth 20000 in
theorem ggX4_group_X4_areTwoTraders : GoodIn wsX4_group wsX4_areTwoTraders := goodIn_r _ [8, 9, 10, 11, 7, 12, 13, 39, 40, 41, 42, 43, 44, 45, 46, 47, 48, 49] (by decide +kernel) (by decide +kernel)
set_option maxRecDepth 20000 in
theorem gX4_group_X4_areTwoTraders : GoodIn wsX4_group (wsV RX4 110 RX4 yX4_areTwoTraders wsX4_areTwoTraders) := goodIn_app (goodIn_of _ (by decide +kernel)) ggX4_group_X4_areTwoTraders
set_option maxRecDepth 20000 in
theorem ggX4_group_X4_everyTrader : GoodIn wsX4_group wsX4_everyTrader := goodIn_r _ [17, 13, 18, 19, 7, 20, 39, 40, 41, 42, 43, 44, 45, 46, 47, 48, 49] (by decide +kernel) (by decide +kernel)
set_option maxRecDepth 20000 in
theorem gX4_group_X4_everyTrader : GoodIn wsX4_group (wsV RX4 115 RX4 yX4_everyTrader wsX4_everyTrader) := goodIn_app (goodIn_of _ (by decide +kernel)) ggX4_group_X4_everyTrader
set_option maxRecDepth 20000 in
theorem ggX4_group_X4_groupsAmong : GoodIn wsX4_group wsX4_groupsAmong := goodIn_r _ [24, 3, 13, 25, 26, 27, 7, 28, 29, 30, 31, 39, 40, 41, 42, 43, 44, 45, 46, 47, 48, 49] (by decide +kernel) (by decide +kernel)
set_option maxRecDepth 20000 in
theorem gX4_group_X4_groupsAmong : GoodIn wsX4_group (wsV RX4 119 RX4 yX4_groupsAmong wsX4_groupsAmong) := goodIn_app (goodIn_of _ (by decide +kernel)) ggX4_group_X4_groupsAmong
set_option maxRecDepth 20000 in
theorem ggX4_group_X4_holds : GoodIn wsX4_group wsX4_holds := goodIn_r _ [31] (by decide +kernel) (by decide +kernel)
set_option maxRecDepth 20000 in
theorem gX4_group_X4_holds : GoodIn wsX4_group (va_wsS RX4 123 yX4_holds wsX4_holds) := goodIn_app (goodIn_of _ (by decide +kernel)) ggX4_group_X4_holds
set_option maxRecDepth 20000 in
theorem ggX4_group_J6_bitCount_0f7a4 : GoodIn wsX4_group wsJ6_bitCount_0f7a4 := goodIn_r _ [35, 36, 37, 38] (by decide +kernel) (by decide +kernel)
set_option maxRecDepth 20000 in
theorem gX4_group_J6_bitCount_0f7a4 : GoodIn wsX4_group (va_wsS RX4 126 yJ6_bitCount_0f7a4 wsJ6_bitCount_0f7a4) := goodIn_app (goodIn_of _ (by decide +kernel)) ggX4_group_J6_bitCount_0f7a4
set_option maxRecDepth 20000 in
theorem ggX4_group_X4_bit : GoodIn wsX4_group wsX4_bit := goodIn_r _ [20] (by decide +kernel) (by decide +kernel)
set_option maxRecDepth 20000 in
theorem gX4_group_X4_bit : GoodIn wsX4_group (va_wsS RX4 106 yX4_bit wsX4_bit) := goodIn_app (goodIn_of _ (by decide +kernel)) ggX4_group_X4_bit
set_option maxRecDepth 20000 in
theorem ggX4_deputy_X4_areTwoTraders : GoodIn wsX4_deputy wsX4_areTwoTraders := goodIn_r _ [9, 10, 11, 12, 8, 13, 14, 19, 20, 21, 22, 23, 24, 25, 26, 27, 28, 29] (by decide +kernel) (by decide +kernel)
set_option maxRecDepth 20000 in
theorem gX4_deputy_X4_areTwoTraders : GoodIn wsX4_deputy (wsV RX4 110 RX4 yX4_areTwoTraders wsX4_areTwoTraders) := goodIn_app (goodIn_of _ (by decide +kernel)) ggX4_deputy_X4_areTwoTraders
set_option maxRecDepth 20000 in
theorem ggX4_deputy_X4_isInDeputyPair : GoodIn wsX4_deputy wsX4_isInDeputyPair := goodIn_r _ [18, 3, 4, 19, 20, 21, 22, 23, 24, 25, 26, 27, 28, 29] (by decide +kernel) (by decide +kernel)
set_option maxRecDepth 20000 in
theorem gX4_deputy_X4_isInDeputyPair : GoodIn wsX4_deputy (wsV RX4 131 RX4 yX4_isInDeputyPair wsX4_isInDeputyPair) := goodIn_app (goodIn_of _ (by decide +kernel)) ggX4_deputy_X4_isInDeputyPair
set_option maxRecDepth 20000 in
theorem ggX4_mandate_X4_areTwoTraders : GoodIn wsX4_mandate wsX4_areTwoTraders := goodIn_r _ [10, 11, 12, 13, 9, 14, 15, 29, 30, 31, 32, 33, 34, 35, 36, 37, 38, 39] (by decide +kernel) (by decide +kernel)
set_option maxRecDepth 20000 in
theorem gX4_mandate_X4_areTwoTraders : GoodIn wsX4_mandate (wsV RX4 110 RX4 yX4_areTwoTraders wsX4_areTwoTraders) := goodIn_app (goodIn_of _ (by decide +kernel)) ggX4_mandate_X4_areTwoTraders
set_option maxRecDepth 20000 in
theorem ggX4_mandate_X4_isDay : GoodIn wsX4_mandate wsX4_isDay := goodIn_r _ [18, 19] (by decide +kernel) (by decide +kernel)
set_option maxRecDepth 20000 in
theorem gX4_mandate_X4_isDay : GoodIn wsX4_mandate (va_wsS RX4 88 yX4_isDay wsX4_isDay) := goodIn_app (goodIn_of _ (by decide +kernel)) ggX4_mandate_X4_isDay
set_option maxRecDepth 20000 in
theorem ggX4_mandate_X0_append : GoodIn wsX4_mandate wsX0_append := goodIn_r _ [23, 24, 25, 26, 27, 28, 40, 41, 42, 43, 44] (by decide +kernel) (by decide +kernel)
set_option maxRecDepth 20000 in
theorem gX4_mandate_X0_append_n139 : GoodIn wsX4_mandate (wsX0_append) := ggX4_mandate_X0_append
set_option maxRecDepth 20000 in
theorem ggX4_suspend_X4_isTrader : GoodIn wsX4_suspend wsX4_isTrader := goodIn_r _ [10, 11, 24, 25, 26, 27, 28, 29, 30, 31, 32, 33, 34] (by decide +kernel) (by decide +kernel)
set_option maxRecDepth 20000 in
theorem gX4_suspend_X4_isTrader : GoodIn wsX4_suspend (wsV RX4 73 RX4 yX4_isTrader wsX4_isTrader) := goodIn_app (goodIn_of _ (by decide +kernel)) ggX4_suspend_X4_isTrader
set_option maxRecDepth 20000 in
theorem ggX4_suspend_X4_isDay : GoodIn wsX4_suspend wsX4_isDay := goodIn_r _ [14, 15] (by decide +kernel) (by decide +kernel)
set_option maxRecDepth 20000 in
theorem gX4_suspend_X4_isDay : GoodIn wsX4_suspend (va_wsS RX4 88 yX4_isDay wsX4_isDay) := goodIn_app (goodIn_of _ (by decide +kernel)) ggX4_suspend_X4_isDay
set_option maxRecDepth 20000 in
theorem ggX4_suspend_X3_append : GoodIn wsX4_suspend wsX3_append := goodIn_r _ [19, 20, 21, 22, 23, 35, 36, 37, 38] (by decide +kernel) (by decide +kernel)
set_option maxRecDepth 20000 in
theorem gX4_suspend_X3_append_n147 : GoodIn wsX4_suspend (wsX3_append) := ggX4_suspend_X3_append
set_option maxRecDepth 20000 in
theorem ggX4_end_X4_isTrader : GoodIn wsX4_end wsX4_isTrader := goodIn_r _ [6, 7, 12, 13, 14, 15, 16, 17, 18, 19, 20, 21, 22] (by decide +kernel) (by decide +kernel)
set_option maxRecDepth 20000 in
theorem gX4_end_X4_isTrader : GoodIn wsX4_end (wsV RX4 73 RX4 yX4_isTrader wsX4_isTrader) := goodIn_app (goodIn_of _ (by decide +kernel)) ggX4_end_X4_isTrader
set_option maxRecDepth 20000 in
theorem ggX4_end_X4_isDay : GoodIn wsX4_end wsX4_isDay := goodIn_r _ [10, 11] (by decide +kernel) (by decide +kernel)
set_option maxRecDepth 20000 in
theorem gX4_end_X4_isDay : GoodIn wsX4_end (va_wsS RX4 88 yX4_isDay wsX4_isDay) := goodIn_app (goodIn_of _ (by decide +kernel)) ggX4_end_X4_isDay
set_option maxRecDepth 20000 in
theorem ggX4_may_X4_isTrader : GoodIn wsX4_may wsX4_isTrader := goodIn_r _ [6, 7, 93, 94, 95, 96, 97, 98, 99, 100, 101, 102, 103] (by decide +kernel) (by decide +kernel)
set_option maxRecDepth 20000 in
theorem gX4_may_X4_isTrader : GoodIn wsX4_may (wsV RX4 73 RX4 yX4_isTrader wsX4_isTrader) := goodIn_app (goodIn_of _ (by decide +kernel)) ggX4_may_X4_isTrader
set_option maxRecDepth 20000 in
theorem ggX4_may_X4_isAct : GoodIn wsX4_may wsX4_isAct := goodIn_r _ [10] (by decide +kernel) (by decide +kernel)
set_option maxRecDepth 20000 in
theorem gX4_may_X4_isAct : GoodIn wsX4_may (va_wsS RX4 77 yX4_isAct wsX4_isAct) := goodIn_app (goodIn_of _ (by decide +kernel)) ggX4_may_X4_isAct
set_option maxRecDepth 20000 in
theorem ggX4_may_X4_isPlace : GoodIn wsX4_may wsX4_isPlace := goodIn_r _ [13] (by decide +kernel) (by decide +kernel)
set_option maxRecDepth 20000 in
theorem gX4_may_X4_isPlace : GoodIn wsX4_may (va_wsS RX4 80 yX4_isPlace wsX4_isPlace) := goodIn_app (goodIn_of _ (by decide +kernel)) ggX4_may_X4_isPlace
set_option maxRecDepth 20000 in
theorem ggX4_may_X4_isDay : GoodIn wsX4_may wsX4_isDay := goodIn_r _ [16, 17] (by decide +kernel) (by decide +kernel)
set_option maxRecDepth 20000 in
theorem gX4_may_X4_isDay : GoodIn wsX4_may (va_wsS RX4 88 yX4_isDay wsX4_isDay) := goodIn_app (goodIn_of _ (by decide +kernel)) ggX4_may_X4_isDay
set_option maxRecDepth 20000 in
theorem ggX4_may_X4_isEnded : GoodIn wsX4_may wsX4_isEnded := goodIn_r _ [21, 22, 93, 94, 95, 96, 97, 98, 99, 100, 101, 102, 103] (by decide +kernel) (by decide +kernel)
set_option maxRecDepth 20000 in
theorem gX4_may_X4_isEnded : GoodIn wsX4_may (wsV RX4 150 RX4 yX4_isEnded wsX4_isEnded) := goodIn_app (goodIn_of _ (by decide +kernel)) ggX4_may_X4_isEnded
set_option maxRecDepth 20000 in
theorem ggX4_may_X3_isOn : GoodIn wsX4_may wsX3_isOn := goodIn_r _ [26, 27, 28, 29, 30, 104, 105, 106, 107] (by decide +kernel) (by decide +kernel)
set_option maxRecDepth 20000 in
theorem gX4_may_X3_isOn_n153 : GoodIn wsX4_may (wsX3_isOn) := ggX4_may_X3_isOn
set_option maxRecDepth 20000 in
theorem ggX4_may_X4_answerForAlive : GoodIn wsX4_may wsX4_answerForAlive := goodIn_r _ [34, 35, 36, 37, 38, 5, 39, 7, 1, 18, 19, 20, 21, 22, 23, 24, 25, 26, 27, 28, 29, 30, 40, 41, 42, 43, 44, 45, 46, 47, 48, 49, 50, 51, 52, 53, 54, 55, 56, 57, 58, 59, 60, 61, 62, 63, 64, 65, 66, 67, 68, 69, 70, 71, 72, 73, 74, 75, 76, 77, 78, 79, 80, 81, 82, 83, 84, 85, 86, 87, 88, 89, 90, 91, 92, 93, 94, 95, 96, 97, 98, 99, 100, 101, 102, 103, 104, 105, 106, 107, 108, 109, 110, 111, 112, 113, 114, 115, 116, 117, 118] (by decide +kernel) (by decide +kernel)
set_option maxRecDepth 20000 in
theorem gX4_may_X4_answerForAlive : GoodIn wsX4_may (wsV RX4 156 RX4 yX4_answerForAlive wsX4_answerForAlive) := goodIn_app (goodIn_of _ (by decide +kernel)) ggX4_may_X4_answerForAlive
set_option maxRecDepth 20000 in
theorem ggX4_two_X4_isAct : GoodIn wsX4_two wsX4_isAct := goodIn_r _ [5] (by decide +kernel) (by decide +kernel)
set_option maxRecDepth 20000 in
theorem gX4_two_X4_isAct : GoodIn wsX4_two (va_wsS RX4 77 yX4_isAct wsX4_isAct) := goodIn_app (goodIn_of _ (by decide +kernel)) ggX4_two_X4_isAct
set_option maxRecDepth 20000 in
theorem ggX4_two_X4_needsTwo : GoodIn wsX4_two wsX4_needsTwo := goodIn_r _ [9, 1, 10, 11, 4, 12, 16, 17, 18, 19, 20, 21, 22, 23, 24, 25, 26] (by decide +kernel) (by decide +kernel)
set_option maxRecDepth 20000 in
theorem gX4_two_X4_needsTwo : GoodIn wsX4_two (wsV RX4 160 RX4 yX4_needsTwo wsX4_needsTwo) := goodIn_app (goodIn_of _ (by decide +kernel)) ggX4_two_X4_needsTwo
set_option maxRecDepth 20000 in
theorem ggX4_two_X4_bit : GoodIn wsX4_two wsX4_bit := goodIn_r _ [15] (by decide +kernel) (by decide +kernel)
set_option maxRecDepth 20000 in
theorem gX4_two_X4_bit : GoodIn wsX4_two (va_wsS RX4 106 yX4_bit wsX4_bit) := goodIn_app (goodIn_of _ (by decide +kernel)) ggX4_two_X4_bit
set_option maxRecDepth 20000 in
theorem ggX4_done_X4_may : GoodIn wsX4_done wsX4_may := goodIn_r _ [6, 7, 8, 9, 10, 5, 11, 12, 13, 14, 15, 16, 17, 18, 19, 20, 21, 22, 23, 24, 25, 26, 27, 28, 29, 30, 31, 32, 33, 34, 35, 36, 37, 38, 39, 40, 41, 42, 43, 44, 45, 46, 47, 48, 49, 50, 51, 52, 53, 54, 55, 56, 57, 58, 59, 60, 61, 62, 63, 64, 65, 66, 67, 68, 69, 70, 71, 72, 73, 74, 75, 76, 77, 78, 79, 80, 81, 82, 83, 84, 85, 86, 87, 88, 89, 90, 91, 92, 93, 94, 95, 96, 97, 103, 104, 105, 106, 107, 108, 109, 110, 111, 112, 113, 114, 115, 116, 117, 118, 119, 120, 121, 122, 123, 124, 125, 126, 127, 128] (by decide +kernel) (by decide +kernel)
set_option maxRecDepth 20000 in
theorem gX4_done_X4_may : GoodIn wsX4_done (wsV RX4 163 RX4 yX4_may wsX4_may) := goodIn_app (goodIn_of _ (by decide +kernel)) ggX4_done_X4_may
set_option maxRecDepth 20000 in
theorem ggX4_done_X4_needsTwo : GoodIn wsX4_done wsX4_needsTwo := goodIn_r _ [101, 102, 76, 77, 5, 78, 103, 104, 105, 106, 107, 108, 109, 110, 111, 112, 113] (by decide +kernel) (by decide +kernel)
set_option maxRecDepth 20000 in
theorem gX4_done_X4_needsTwo : GoodIn wsX4_done (wsV RX4 160 RX4 yX4_needsTwo wsX4_needsTwo) := goodIn_app (goodIn_of _ (by decide +kernel)) ggX4_done_X4_needsTwo
set_option maxRecDepth 20000 in
theorem ggX4_letter_X4_digit : GoodIn wsX4_letter wsX4_digit := goodIn_r _ [9] (by decide +kernel) (by decide +kernel)
set_option maxRecDepth 20000 in
theorem gX4_letter_X4_digit : GoodIn wsX4_letter (va_wsS RX4 174 yX4_digit wsX4_digit) := goodIn_app (goodIn_of _ (by decide +kernel)) ggX4_letter_X4_digit
set_option maxRecDepth 20000 in
theorem ggX4_letter_X4_checkValue : GoodIn wsX4_letter wsX4_checkValue := goodIn_r _ [12, 6, 7, 8, 9] (by decide +kernel) (by decide +kernel)
set_option maxRecDepth 20000 in
theorem gX4_letter_X4_checkValue : GoodIn wsX4_letter (va_wsS RX4 177 yX4_checkValue wsX4_checkValue) := goodIn_app (goodIn_of _ (by decide +kernel)) ggX4_letter_X4_checkValue
set_option maxRecDepth 20000 in
theorem ggX4_check_X1_read : GoodIn wsX4_check wsX1_read := goodIn_r _ [5, 6, 7, 8, 9, 10, 11, 12, 3, 13, 14, 15, 16, 17, 18, 19, 31, 32, 33] (by decide +kernel) (by decide +kernel)
set_option maxRecDepth 20000 in
theorem gX4_check_X1_read_n180 : GoodIn wsX4_check (wsX1_read) := ggX4_check_X1_read
set_option maxRecDepth 20000 in
theorem ggX4_look_X4_isTrader : GoodIn wsX4_look wsX4_isTrader := goodIn_r _ [13, 14, 84, 85, 86, 87, 88, 89, 90, 91, 92, 93, 94] (by decide +kernel) (by decide +kernel)
set_option maxRecDepth 20000 in
theorem gX4_look_X4_isTrader : GoodIn wsX4_look (wsV RX4 73 RX4 yX4_isTrader wsX4_isTrader) := goodIn_app (goodIn_of _ (by decide +kernel)) ggX4_look_X4_isTrader
set_option maxRecDepth 20000 in
theorem ggX4_look_X4_isDay : GoodIn wsX4_look wsX4_isDay := goodIn_r _ [17, 18] (by decide +kernel) (by decide +kernel)
set_option maxRecDepth 20000 in
theorem gX4_look_X4_isDay : GoodIn wsX4_look (va_wsS RX4 88 yX4_isDay wsX4_isDay) := goodIn_app (goodIn_of _ (by decide +kernel)) ggX4_look_X4_isDay
set_option maxRecDepth 20000 in
theorem ggX4_look_X4_isEnded : GoodIn wsX4_look wsX4_isEnded := goodIn_r _ [22, 23, 84, 85, 86, 87, 88, 89, 90, 91, 92, 93, 94] (by decide +kernel) (by decide +kernel)
set_option maxRecDepth 20000 in
theorem gX4_look_X4_isEnded : GoodIn wsX4_look (wsV RX4 150 RX4 yX4_isEnded wsX4_isEnded) := goodIn_app (goodIn_of _ (by decide +kernel)) ggX4_look_X4_isEnded
set_option maxRecDepth 20000 in
theorem ggX4_look_X3_isOn : GoodIn wsX4_look wsX3_isOn := goodIn_r _ [27, 28, 29, 30, 31, 95, 96, 97, 98] (by decide +kernel) (by decide +kernel)
set_option maxRecDepth 20000 in
theorem gX4_look_X3_isOn_n153 : GoodIn wsX4_look (wsX3_isOn) := ggX4_look_X3_isOn
set_option maxRecDepth 20000 in
theorem ggX4_look_X4_aliveOn : GoodIn wsX4_look wsX4_aliveOn := goodIn_r _ [35, 14, 5, 19, 20, 21, 12, 22, 23, 24, 25, 26, 27, 28, 29, 30, 31, 36, 37, 38, 84, 85, 86, 87, 88, 89, 90, 91, 92, 93, 94, 95, 96, 97, 98] (by decide +kernel) (by decide +kernel)
set_option maxRecDepth 20000 in
theorem gX4_look_X4_aliveOn : GoodIn wsX4_look (wsV RX4 188 RX4 yX4_aliveOn wsX4_aliveOn) := goodIn_app (goodIn_of _ (by decide +kernel)) ggX4_look_X4_aliveOn
set_option maxRecDepth 20000 in
theorem ggX4_look_X4_groupsAmong : GoodIn wsX4_look wsX4_groupsAmong := goodIn_r _ [42, 43, 14, 44, 45, 46, 12, 47, 48, 49, 50, 84, 85, 86, 87, 88, 89, 90, 91, 92, 93, 94] (by decide +kernel) (by decide +kernel)
set_option maxRecDepth 20000 in
theorem gX4_look_X4_groupsAmong : GoodIn wsX4_look (wsV RX4 119 RX4 yX4_groupsAmong wsX4_groupsAmong) := goodIn_app (goodIn_of _ (by decide +kernel)) ggX4_look_X4_groupsAmong
set_option maxRecDepth 20000 in
theorem ggX4_look_J6_bitCount_0f7a4 : GoodIn wsX4_look wsJ6_bitCount_0f7a4 := goodIn_r _ [54, 55, 56, 57] (by decide +kernel) (by decide +kernel)
set_option maxRecDepth 20000 in
theorem gX4_look_J6_bitCount_0f7a4 : GoodIn wsX4_look (va_wsS RX4 126 yJ6_bitCount_0f7a4 wsJ6_bitCount_0f7a4) := goodIn_app (goodIn_of _ (by decide +kernel)) ggX4_look_J6_bitCount_0f7a4
set_option maxRecDepth 20000 in
theorem ggX4_look_X4_ownActs : GoodIn wsX4_look wsX4_ownActs := goodIn_r _ [61, 62, 63, 36, 37, 12, 38, 32, 33, 34, 35, 14, 5, 19, 20, 21, 22, 23, 24, 25, 26, 27, 28, 29, 30, 31, 39, 40, 41, 42, 43, 44, 45, 46, 47, 48, 49, 50, 64, 65, 66, 67, 68, 69, 70, 71, 72, 73, 74, 75, 76, 84, 85, 86, 87, 88, 89, 90, 91, 92, 93, 94, 95, 96, 97, 98, 99, 100, 101, 102, 103, 104] (by decide +kernel) (by decide +kernel)
set_option maxRecDepth 20000 in
theorem gX4_look_X4_ownActs : GoodIn wsX4_look (wsV RX4 191 RX4 yX4_ownActs wsX4_ownActs) := goodIn_app (goodIn_of _ (by decide +kernel)) ggX4_look_X4_ownActs
set_option maxRecDepth 20000 in
theorem ggX4_look_X0_sizeOf : GoodIn wsX4_look wsX0_sizeOf := goodIn_r _ [80, 81, 82, 83, 105, 106, 107, 108, 109] (by decide +kernel) (by decide +kernel)
set_option maxRecDepth 20000 in
theorem gX4_look_X0_sizeOf_n194 : GoodIn wsX4_look (wsX0_sizeOf) := ggX4_look_X0_sizeOf
set_option maxRecDepth 20000 in
theorem ggX4_areTwoTraders_X4_isTrader : GoodIn wsX4_areTwoTraders wsX4_isTrader := goodIn_r _ [5, 6, 7, 8, 9, 10, 11, 12, 13, 14, 15, 16, 17] (by decide +kernel) (by decide +kernel)
set_option maxRecDepth 20000 in
theorem gX4_areTwoTraders_X4_isTrader : GoodIn wsX4_areTwoTraders (wsV RX4 73 RX4 yX4_isTrader wsX4_isTrader) := goodIn_app (goodIn_of _ (by decide +kernel)) ggX4_areTwoTraders_X4_isTrader
set_option maxRecDepth 20000 in
theorem ggX4_everyTrader_X4_bit : GoodIn wsX4_everyTrader wsX4_bit := goodIn_r _ [5] (by decide +kernel) (by decide +kernel)
set_option maxRecDepth 20000 in
theorem gX4_everyTrader_X4_bit : GoodIn wsX4_everyTrader (va_wsS RX4 106 yX4_bit wsX4_bit) := goodIn_app (goodIn_of _ (by decide +kernel)) ggX4_everyTrader_X4_bit
set_option maxRecDepth 20000 in
theorem ggX4_isForbidden_X4_holds : GoodIn wsX4_isForbidden wsX4_holds := goodIn_r _ [5] (by decide +kernel) (by decide +kernel)
set_option maxRecDepth 20000 in
theorem gX4_isForbidden_X4_holds : GoodIn wsX4_isForbidden (va_wsS RX4 123 yX4_holds wsX4_holds) := goodIn_app (goodIn_of _ (by decide +kernel)) ggX4_isForbidden_X4_holds
set_option maxRecDepth 20000 in
theorem ggX4_needsTwo_X4_holds : GoodIn wsX4_needsTwo wsX4_holds := goodIn_r _ [5] (by decide +kernel) (by decide +kernel)
set_option maxRecDepth 20000 in
theorem gX4_needsTwo_X4_holds : GoodIn wsX4_needsTwo (va_wsS RX4 123 yX4_holds wsX4_holds) := goodIn_app (goodIn_of _ (by decide +kernel)) ggX4_needsTwo_X4_holds
set_option maxRecDepth 20000 in
theorem ggX4_aliveOn_X4_isEnded : GoodIn wsX4_aliveOn wsX4_isEnded := goodIn_r _ [7, 8, 20, 21, 22, 23, 24, 25, 26, 27, 28, 29, 30] (by decide +kernel) (by decide +kernel)
set_option maxRecDepth 20000 in
theorem gX4_aliveOn_X4_isEnded : GoodIn wsX4_aliveOn (wsV RX4 150 RX4 yX4_isEnded wsX4_isEnded) := goodIn_app (goodIn_of _ (by decide +kernel)) ggX4_aliveOn_X4_isEnded
set_option maxRecDepth 20000 in
theorem ggX4_aliveOn_X3_isOn : GoodIn wsX4_aliveOn wsX3_isOn := goodIn_r _ [12, 13, 14, 15, 16, 31, 32, 33, 34] (by decide +kernel) (by decide +kernel)
set_option maxRecDepth 20000 in
theorem gX4_aliveOn_X3_isOn_n153 : GoodIn wsX4_aliveOn (wsX3_isOn) := ggX4_aliveOn_X3_isOn
set_option maxRecDepth 20000 in
theorem ggX4_aliveOn_X4_bit : GoodIn wsX4_aliveOn wsX4_bit := goodIn_r _ [19] (by decide +kernel) (by decide +kernel)
set_option maxRecDepth 20000 in
theorem gX4_aliveOn_X4_bit : GoodIn wsX4_aliveOn (va_wsS RX4 106 yX4_bit wsX4_bit) := goodIn_app (goodIn_of _ (by decide +kernel)) ggX4_aliveOn_X4_bit
set_option maxRecDepth 20000 in
theorem ggX4_groupsAmong_X4_groupsOfAll : GoodIn wsX4_groupsAmong wsX4_groupsOfAll := goodIn_r _ [7, 2, 1, 8, 9, 6, 10, 11, 12, 13, 14, 15, 16, 17, 18, 19, 20, 21] (by decide +kernel) (by decide +kernel)
set_option maxRecDepth 20000 in
theorem gX4_groupsAmong_X4_groupsOfAll : GoodIn wsX4_groupsAmong (wsV RX4 201 RX4 yX4_groupsOfAll wsX4_groupsOfAll) := goodIn_app (goodIn_of _ (by decide +kernel)) ggX4_groupsAmong_X4_groupsOfAll
set_option maxRecDepth 20000 in
theorem ggX4_groupsOfAll_X4_holds : GoodIn wsX4_groupsOfAll wsX4_holds := goodIn_r _ [6] (by decide +kernel) (by decide +kernel)
set_option maxRecDepth 20000 in
theorem gX4_groupsOfAll_X4_holds : GoodIn wsX4_groupsOfAll (va_wsS RX4 123 yX4_holds wsX4_holds) := goodIn_app (goodIn_of _ (by decide +kernel)) ggX4_groupsOfAll_X4_holds
set_option maxRecDepth 20000 in
theorem ggX4_ownersOf_X2_tradersWith : GoodIn wsX4_ownersOf wsX2_tradersWith := goodIn_r _ [6, 7, 8, 9, 10, 11, 12, 13, 4, 14, 15, 16, 17, 18, 19, 49, 50, 51, 52, 53, 54] (by decide +kernel) (by decide +kernel)
set_option maxRecDepth 20000 in
theorem gX4_ownersOf_X2_tradersWith_n204 : GoodIn wsX4_ownersOf (wsX2_tradersWith) := ggX4_ownersOf_X2_tradersWith
set_option maxRecDepth 20000 in
theorem ggX4_ownersOf_X4_bit : GoodIn wsX4_ownersOf wsX4_bit := goodIn_r _ [19] (by decide +kernel) (by decide +kernel)
set_option maxRecDepth 20000 in
theorem gX4_ownersOf_X4_bit : GoodIn wsX4_ownersOf (va_wsS RX4 106 yX4_bit wsX4_bit) := goodIn_app (goodIn_of _ (by decide +kernel)) ggX4_ownersOf_X4_bit
set_option maxRecDepth 20000 in
theorem ggX4_ownersOf_X4_groupsAmong : GoodIn wsX4_ownersOf wsX4_groupsAmong := goodIn_r _ [24, 25, 2, 26, 27, 28, 18, 29, 30, 31, 32, 38, 39, 40, 41, 42, 43, 44, 45, 46, 47, 48] (by decide +kernel) (by decide +kernel)
set_option maxRecDepth 20000 in
theorem gX4_ownersOf_X4_groupsAmong : GoodIn wsX4_ownersOf (wsV RX4 119 RX4 yX4_groupsAmong wsX4_groupsAmong) := goodIn_app (goodIn_of _ (by decide +kernel)) ggX4_ownersOf_X4_groupsAmong
set_option maxRecDepth 20000 in
theorem ggX4_ownersOf_X4_isForbidden : GoodIn wsX4_ownersOf wsX4_isForbidden := goodIn_r _ [36, 37, 30, 31, 18, 32, 38, 39, 40, 41, 42, 43, 44, 45, 46, 47, 48] (by decide +kernel) (by decide +kernel)
set_option maxRecDepth 20000 in
theorem gX4_ownersOf_X4_isForbidden : GoodIn wsX4_ownersOf (wsV RX4 102 RX4 yX4_isForbidden wsX4_isForbidden) := goodIn_app (goodIn_of _ (by decide +kernel)) ggX4_ownersOf_X4_isForbidden
set_option maxRecDepth 20000 in
theorem ggX4_ownActs_X4_bit : GoodIn wsX4_ownActs wsX4_bit := goodIn_r _ [6] (by decide +kernel) (by decide +kernel)
set_option maxRecDepth 20000 in
theorem gX4_ownActs_X4_bit : GoodIn wsX4_ownActs (va_wsS RX4 106 yX4_bit wsX4_bit) := goodIn_app (goodIn_of _ (by decide +kernel)) ggX4_ownActs_X4_bit
set_option maxRecDepth 20000 in
theorem ggX4_ownActs_X4_aliveOn : GoodIn wsX4_ownActs wsX4_aliveOn := goodIn_r _ [10, 11, 12, 13, 14, 15, 5, 16, 17, 18, 19, 20, 21, 22, 23, 24, 25, 3, 4, 6, 51, 52, 53, 54, 55, 56, 57, 58, 59, 60, 61, 62, 63, 64, 65] (by decide +kernel) (by decide +kernel)
set_option maxRecDepth 20000 in
theorem gX4_ownActs_X4_aliveOn : GoodIn wsX4_ownActs (wsV RX4 188 RX4 yX4_aliveOn wsX4_aliveOn) := goodIn_app (goodIn_of _ (by decide +kernel)) ggX4_ownActs_X4_aliveOn
set_option maxRecDepth 20000 in
theorem ggX4_ownActs_X4_groupsAmong : GoodIn wsX4_ownActs wsX4_groupsAmong := goodIn_r _ [29, 30, 11, 31, 32, 33, 5, 34, 35, 36, 37, 51, 52, 53, 54, 55, 56, 57, 58, 59, 60, 61] (by decide +kernel) (by decide +kernel)
set_option maxRecDepth 20000 in
theorem gX4_ownActs_X4_groupsAmong : GoodIn wsX4_ownActs (wsV RX4 119 RX4 yX4_groupsAmong wsX4_groupsAmong) := goodIn_app (goodIn_of _ (by decide +kernel)) ggX4_ownActs_X4_groupsAmong
set_option maxRecDepth 20000 in
theorem ggX4_ownActs_X2_actsOf : GoodIn wsX4_ownActs wsX2_actsOf := goodIn_r _ [41, 42, 43, 44, 36, 5, 37, 45, 46, 47, 39, 48, 49, 50, 4, 6, 66, 67, 68, 69, 70, 71] (by decide +kernel) (by decide +kernel)
set_option maxRecDepth 20000 in
theorem gX4_ownActs_X2_actsOf_n208 : GoodIn wsX4_ownActs (wsX2_actsOf) := ggX4_ownActs_X2_actsOf
set_option maxRecDepth 20000 in
theorem ggX4_answerForAlive_X4_aliveOn : GoodIn wsX4_answerForAlive wsX4_aliveOn := goodIn_r _ [6, 7, 8, 9, 10, 11, 5, 12, 13, 14, 15, 16, 17, 18, 19, 20, 21, 22, 23, 24, 75, 76, 77, 78, 79, 80, 81, 82, 83, 84, 85, 86, 87, 88, 89] (by decide +kernel) (by decide +kernel)
set_option maxRecDepth 20000 in
theorem gX4_answerForAlive_X4_aliveOn : GoodIn wsX4_answerForAlive (wsV RX4 188 RX4 yX4_aliveOn wsX4_aliveOn) := goodIn_app (goodIn_of _ (by decide +kernel)) ggX4_answerForAlive_X4_aliveOn
set_option maxRecDepth 20000 in
theorem ggX4_answerForAlive_X4_ownersOf : GoodIn wsX4_answerForAlive wsX4_ownersOf := goodIn_r _ [28, 29, 7, 30, 31, 32, 33, 34, 35, 36, 37, 38, 39, 40, 41, 42, 43, 23, 5, 24, 22, 44, 45, 46, 47, 48, 49, 50, 51, 52, 53, 54, 55, 56, 57, 58, 59, 60, 75, 76, 77, 78, 79, 80, 81, 82, 83, 84, 85, 90, 91, 92, 93, 94, 95] (by decide +kernel) (by decide +kernel)
set_option maxRecDepth 20000 in
theorem gX4_answerForAlive_X4_ownersOf : GoodIn wsX4_answerForAlive (wsV RX4 211 RX4 yX4_ownersOf wsX4_ownersOf) := goodIn_app (goodIn_of _ (by decide +kernel)) ggX4_answerForAlive_X4_ownersOf
set_option maxRecDepth 20000 in
theorem ggX4_answerForAlive_X4_holds : GoodIn wsX4_answerForAlive wsX4_holds := goodIn_r _ [55] (by decide +kernel) (by decide +kernel)
set_option maxRecDepth 20000 in
theorem gX4_answerForAlive_X4_holds : GoodIn wsX4_answerForAlive (va_wsS RX4 123 yX4_holds wsX4_holds) := goodIn_app (goodIn_of _ (by decide +kernel)) ggX4_answerForAlive_X4_holds
set_option maxRecDepth 20000 in
theorem ggX4_answerForAlive_X4_principalSet : GoodIn wsX4_answerForAlive wsX4_principalSet := goodIn_r _ [64, 65, 22, 23, 5, 24, 75, 76, 77, 78, 79, 80, 81, 82, 83, 84, 85] (by decide +kernel) (by decide +kernel)
set_option maxRecDepth 20000 in
theorem gX4_answerForAlive_X4_principalSet : GoodIn wsX4_answerForAlive (wsV RX4 214 RX4 yX4_principalSet wsX4_principalSet) := goodIn_app (goodIn_of _ (by decide +kernel)) ggX4_answerForAlive_X4_principalSet
set_option maxRecDepth 20000 in
theorem ggX4_answerForAlive_X0_giversTo : GoodIn wsX4_answerForAlive wsX0_giversTo := goodIn_r _ [69, 70, 71, 72, 73, 74, 23, 5, 24, 96, 97, 98, 99, 100] (by decide +kernel) (by decide +kernel)
set_option maxRecDepth 20000 in
theorem gX4_answerForAlive_X0_giversTo_n217 : GoodIn wsX4_answerForAlive (wsX0_giversTo) := ggX4_answerForAlive_X0_giversTo
set_option maxRecDepth 20000 in
theorem ggX4_answerForAlive_X4_isForbidden : GoodIn wsX4_answerForAlive wsX4_isForbidden := goodIn_r _ [59, 60, 53, 54, 5, 55, 75, 76, 77, 78, 79, 80, 81, 82, 83, 84, 85] (by decide +kernel) (by decide +kernel)
set_option maxRecDepth 20000 in
theorem gX4_answerForAlive_X4_isForbidden : GoodIn wsX4_answerForAlive (wsV RX4 102 RX4 yX4_isForbidden wsX4_isForbidden) := goodIn_app (goodIn_of _ (by decide +kernel)) ggX4_answerForAlive_X4_isForbidden
set_option maxRecDepth 20000 in
theorem ggX4_principalSet_X4_bit : GoodIn wsX4_principalSet wsX4_bit := goodIn_r _ [5] (by decide +kernel) (by decide +kernel)
set_option maxRecDepth 20000 in
theorem gX4_principalSet_X4_bit : GoodIn wsX4_principalSet (va_wsS RX4 106 yX4_bit wsX4_bit) := goodIn_app (goodIn_of _ (by decide +kernel)) ggX4_principalSet_X4_bit
set_option maxRecDepth 20000 in
theorem ggX4_checkValue_X4_digit : GoodIn wsX4_checkValue wsX4_digit := goodIn_r _ [4] (by decide +kernel) (by decide +kernel)
set_option maxRecDepth 20000 in
theorem gX4_checkValue_X4_digit : GoodIn wsX4_checkValue (va_wsS RX4 174 yX4_digit wsX4_digit) := goodIn_app (goodIn_of _ (by decide +kernel)) ggX4_checkValue_X4_digit
set_option maxRecDepth 20000 in
theorem ggX5_isDay_X5_in : GoodIn wsX5_isDay wsX5_in := goodIn_r _ [5] (by decide +kernel) (by decide +kernel)
set_option maxRecDepth 20000 in
theorem gX5_isDay_X5_in : GoodIn wsX5_isDay (va_wsS RX5 73 yX5_in wsX5_in) := goodIn_app (goodIn_of _ (by decide +kernel)) ggX5_isDay_X5_in
set_option maxRecDepth 20000 in
theorem ggX5_isEight_X5_in : GoodIn wsX5_isEight wsX5_in := goodIn_r _ [4] (by decide +kernel) (by decide +kernel)
set_option maxRecDepth 20000 in
theorem gX5_isEight_X5_in : GoodIn wsX5_isEight (va_wsS RX5 73 yX5_in wsX5_in) := goodIn_app (goodIn_of _ (by decide +kernel)) ggX5_isEight_X5_in
set_option maxRecDepth 20000 in
theorem ggX5_right_X5_isTrader : GoodIn wsX5_right wsX5_isTrader := goodIn_r _ [12, 13, 24, 25, 26, 27, 28, 29, 30, 31, 32, 33, 34, 35, 36, 37, 38, 39, 40, 41, 42, 43, 44, 45, 46, 47, 48] (by decide +kernel) (by decide +kernel)
set_option maxRecDepth 20000 in
theorem gX5_right_X5_isTrader : GoodIn wsX5_right (wsV RX5 77 RX5 yX5_isTrader wsX5_isTrader) := goodIn_app (goodIn_of _ (by decide +kernel)) ggX5_right_X5_isTrader
set_option maxRecDepth 20000 in
theorem ggX5_right_X5_isEight : GoodIn wsX5_right wsX5_isEight := goodIn_r _ [16, 17, 18, 11, 19] (by decide +kernel) (by decide +kernel)
set_option maxRecDepth 20000 in
theorem gX5_right_X5_isEight : GoodIn wsX5_right (va_wsS RX5 81 yX5_isEight wsX5_isEight) := goodIn_app (goodIn_of _ (by decide +kernel)) ggX5_right_X5_isEight
set_option maxRecDepth 20000 in
theorem ggX5_right_X5_isDay : GoodIn wsX5_right wsX5_isDay := goodIn_r _ [22, 23, 17, 18, 11, 19] (by decide +kernel) (by decide +kernel)
set_option maxRecDepth 20000 in
theorem gX5_right_X5_isDay : GoodIn wsX5_right (va_wsS RX5 84 yX5_isDay wsX5_isDay) := goodIn_app (goodIn_of _ (by decide +kernel)) ggX5_right_X5_isDay
set_option maxRecDepth 20000 in
theorem ggX5_forbid_X5_isTrader : GoodIn wsX5_forbid wsX5_isTrader := goodIn_r _ [7, 8, 19, 20, 21, 22, 23, 24, 25, 26, 27, 28, 29, 30, 31, 32, 33, 34, 35, 36, 37, 38, 39, 40, 41, 42, 43] (by decide +kernel) (by decide +kernel)
set_option maxRecDepth 20000 in
theorem gX5_forbid_X5_isTrader : GoodIn wsX5_forbid (wsV RX5 77 RX5 yX5_isTrader wsX5_isTrader) := goodIn_app (goodIn_of _ (by decide +kernel)) ggX5_forbid_X5_isTrader
set_option maxRecDepth 20000 in
theorem ggX5_forbid_X5_isEight : GoodIn wsX5_forbid wsX5_isEight := goodIn_r _ [11, 12, 13, 6, 14] (by decide +kernel) (by decide +kernel)
set_option maxRecDepth 20000 in
theorem gX5_forbid_X5_isEight : GoodIn wsX5_forbid (va_wsS RX5 81 yX5_isEight wsX5_isEight) := goodIn_app (goodIn_of _ (by decide +kernel)) ggX5_forbid_X5_isEight
set_option maxRecDepth 20000 in
theorem ggX5_forbid_X5_isForbidden : GoodIn wsX5_forbid wsX5_isForbidden := goodIn_r _ [18, 2, 19, 20, 21, 22, 23, 24, 25, 26, 27, 28, 29, 30, 31, 32, 33, 34, 35, 36, 37, 38, 39, 40, 41, 42, 43] (by decide +kernel) (by decide +kernel)
set_option maxRecDepth 20000 in
theorem gX5_forbid_X5_isForbidden : GoodIn wsX5_forbid (wsV RX5 90 RX5 yX5_isForbidden wsX5_isForbidden) := goodIn_app (goodIn_of _ (by decide +kernel)) ggX5_forbid_X5_isForbidden
set_option maxRecDepth 20000 in
theorem ggX5_reached_X5_isAlive : GoodIn wsX5_reached wsX5_isAlive := goodIn_r _ [7, 8, 9, 10, 6, 11, 12, 13, 14, 15, 16, 17, 18, 19, 20, 21, 22, 23, 24, 25, 26, 27, 28, 29, 30, 31, 32, 33, 34, 35, 36, 37, 38, 39, 40, 41, 42, 43, 44, 45] (by decide +kernel) (by decide +kernel)
set_option maxRecDepth 20000 in
theorem gX5_reached_X5_isAlive : GoodIn wsX5_reached (wsV RX5 94 RX5 yX5_isAlive wsX5_isAlive) := goodIn_app (goodIn_of _ (by decide +kernel)) ggX5_reached_X5_isAlive
set_option maxRecDepth 20000 in
theorem ggX5_areTwo_X5_isTrader : GoodIn wsX5_areTwo wsX5_isTrader := goodIn_r _ [5, 6, 7, 8, 9, 10, 11, 12, 13, 14, 15, 16, 17, 18, 19, 20, 21, 22, 23, 24, 25, 26, 27, 28, 29, 30, 31] (by decide +kernel) (by decide +kernel)
set_option maxRecDepth 20000 in
theorem gX5_areTwo_X5_isTrader : GoodIn wsX5_areTwo (wsV RX5 77 RX5 yX5_isTrader wsX5_isTrader) := goodIn_app (goodIn_of _ (by decide +kernel)) ggX5_areTwo_X5_isTrader
set_option maxRecDepth 20000 in
theorem ggX5_group_X5_areTwo : GoodIn wsX5_group wsX5_areTwo := goodIn_r _ [7, 8, 9, 10, 6, 11, 12, 37, 38, 39, 40, 41, 42, 43, 44, 45, 46, 47, 48, 49, 50, 51, 52, 53, 54, 55, 56, 57, 58, 59, 60, 61] (by decide +kernel) (by decide +kernel)
set_option maxRecDepth 20000 in
theorem gX5_group_X5_areTwo : GoodIn wsX5_group (wsV RX5 97 RX5 yX5_areTwo wsX5_areTwo) := goodIn_app (goodIn_of _ (by decide +kernel)) ggX5_group_X5_areTwo
set_option maxRecDepth 20000 in
theorem ggX5_group_X5_bits : GoodIn wsX5_group wsX5_bits := goodIn_r _ [15] (by decide +kernel) (by decide +kernel)
set_option maxRecDepth 20000 in
theorem gX5_group_X5_bits : GoodIn wsX5_group (va_wsS RX5 100 yX5_bits wsX5_bits) := goodIn_app (goodIn_of _ (by decide +kernel)) ggX5_group_X5_bits
set_option maxRecDepth 20000 in
theorem ggX5_group_X5_reached : GoodIn wsX5_group wsX5_reached := goodIn_r _ [19, 12, 2, 20, 21, 22, 6, 23, 24, 25, 26, 27, 28, 29, 30, 31, 32, 33, 34, 35, 36, 37, 38, 39, 40, 41, 42, 43, 44, 45, 46, 47, 48, 49, 50, 51, 52, 53, 54, 55, 56, 57, 58, 59, 60, 61] (by decide +kernel) (by decide +kernel)
set_option maxRecDepth 20000 in
theorem gX5_group_X5_reached : GoodIn wsX5_group (wsV RX5 104 RX5 yX5_reached wsX5_reached) := goodIn_app (goodIn_of _ (by decide +kernel)) ggX5_group_X5_reached
set_option maxRecDepth 20000 in
theorem ggX5_deputy_X5_areTwo : GoodIn wsX5_deputy wsX5_areTwo := goodIn_r _ [7, 8, 9, 10, 6, 11, 12, 17, 18, 19, 20, 21, 22, 23, 24, 25, 26, 27, 28, 29, 30, 31, 32, 33, 34, 35, 36, 37, 38, 39, 40, 41] (by decide +kernel) (by decide +kernel)
set_option maxRecDepth 20000 in
theorem gX5_deputy_X5_areTwo : GoodIn wsX5_deputy (wsV RX5 97 RX5 yX5_areTwo wsX5_areTwo) := goodIn_app (goodIn_of _ (by decide +kernel)) ggX5_deputy_X5_areTwo
set_option maxRecDepth 20000 in
theorem ggX5_deputy_X5_withDeputy : GoodIn wsX5_deputy wsX5_withDeputy := goodIn_r _ [16, 12, 2, 17, 18, 19, 20, 21, 22, 23, 24, 25, 26, 27, 28, 29, 30, 31, 32, 33, 34, 35, 36, 37, 38, 39, 40, 41] (by decide +kernel) (by decide +kernel)
set_option maxRecDepth 20000 in
theorem gX5_deputy_X5_withDeputy : GoodIn wsX5_deputy (wsV RX5 108 RX5 yX5_withDeputy wsX5_withDeputy) := goodIn_app (goodIn_of _ (by decide +kernel)) ggX5_deputy_X5_withDeputy
set_option maxRecDepth 20000 in
theorem ggX5_mandate_X5_areTwo : GoodIn wsX5_mandate wsX5_areTwo := goodIn_r _ [11, 12, 13, 14, 10, 15, 16, 24, 25, 26, 27, 28, 29, 30, 31, 32, 33, 34, 35, 36, 37, 38, 39, 40, 41, 42, 43, 44, 45, 46, 47, 48] (by decide +kernel) (by decide +kernel)
set_option maxRecDepth 20000 in
theorem gX5_mandate_X5_areTwo : GoodIn wsX5_mandate (wsV RX5 97 RX5 yX5_areTwo wsX5_areTwo) := goodIn_app (goodIn_of _ (by decide +kernel)) ggX5_mandate_X5_areTwo
set_option maxRecDepth 20000 in
theorem ggX5_mandate_X5_isDay : GoodIn wsX5_mandate wsX5_isDay := goodIn_r _ [19, 20, 21, 22, 10, 23] (by decide +kernel) (by decide +kernel)
set_option maxRecDepth 20000 in
theorem gX5_mandate_X5_isDay : GoodIn wsX5_mandate (va_wsS RX5 84 yX5_isDay wsX5_isDay) := goodIn_app (goodIn_of _ (by decide +kernel)) ggX5_mandate_X5_isDay
set_option maxRecDepth 20000 in
theorem ggX5_suspend_X5_isTrader : GoodIn wsX5_suspend wsX5_isTrader := goodIn_r _ [10, 11, 19, 20, 21, 22, 23, 24, 25, 26, 27, 28, 29, 30, 31, 32, 33, 34, 35, 36, 37, 38, 39, 40, 41, 42, 43] (by decide +kernel) (by decide +kernel)
set_option maxRecDepth 20000 in
theorem gX5_suspend_X5_isTrader : GoodIn wsX5_suspend (wsV RX5 77 RX5 yX5_isTrader wsX5_isTrader) := goodIn_app (goodIn_of _ (by decide +kernel)) ggX5_suspend_X5_isTrader
set_option maxRecDepth 20000 in
theorem ggX5_suspend_X5_isDay : GoodIn wsX5_suspend wsX5_isDay := goodIn_r _ [14, 15, 16, 17, 9, 18] (by decide +kernel) (by decide +kernel)
set_option maxRecDepth 20000 in
theorem gX5_suspend_X5_isDay : GoodIn wsX5_suspend (va_wsS RX5 84 yX5_isDay wsX5_isDay) := goodIn_app (goodIn_of _ (by decide +kernel)) ggX5_suspend_X5_isDay
set_option maxRecDepth 20000 in
theorem ggX5_end_X5_isTrader : GoodIn wsX5_end wsX5_isTrader := goodIn_r _ [7, 8, 16, 17, 18, 19, 20, 21, 22, 23, 24, 25, 26, 27, 28, 29, 30, 31, 32, 33, 34, 35, 36, 37, 38, 39, 40] (by decide +kernel) (by decide +kernel)
set_option maxRecDepth 20000 in
theorem gX5_end_X5_isTrader : GoodIn wsX5_end (wsV RX5 77 RX5 yX5_isTrader wsX5_isTrader) := goodIn_app (goodIn_of _ (by decide +kernel)) ggX5_end_X5_isTrader
set_option maxRecDepth 20000 in
theorem ggX5_end_X5_isDay : GoodIn wsX5_end wsX5_isDay := goodIn_r _ [11, 12, 13, 14, 6, 15] (by decide +kernel) (by decide +kernel)
set_option maxRecDepth 20000 in
theorem gX5_end_X5_isDay : GoodIn wsX5_end (va_wsS RX5 84 yX5_isDay wsX5_isDay) := goodIn_app (goodIn_of _ (by decide +kernel)) ggX5_end_X5_isDay
set_option maxRecDepth 20000 in
theorem ggX5_isAlive_X5_isEnded : GoodIn wsX5_isAlive wsX5_isEnded := goodIn_r _ [5, 6, 15, 16, 17, 18, 19, 20, 21, 22, 23, 24, 25, 26, 27, 28, 29, 30, 31, 32, 33, 34, 35, 36, 37, 38, 39] (by decide +kernel) (by decide +kernel)
set_option maxRecDepth 20000 in
theorem gX5_isAlive_X5_isEnded : GoodIn wsX5_isAlive (wsV RX5 117 RX5 yX5_isEnded wsX5_isEnded) := goodIn_app (goodIn_of _ (by decide +kernel)) ggX5_isAlive_X5_isEnded
set_option maxRecDepth 20000 in
theorem ggX5_isAlive_X5_isSuspended : GoodIn wsX5_isAlive wsX5_isSuspended := goodIn_r _ [10, 11, 12, 13, 14, 15, 16, 17, 18, 19, 20, 21, 22, 23, 24, 25, 26, 27, 28, 29, 30, 31, 32, 33, 34, 35, 36, 37, 38, 39] (by decide +kernel) (by decide +kernel)
set_option maxRecDepth 20000 in
theorem gX5_isAlive_X5_isSuspended : GoodIn wsX5_isAlive (wsV RX5 120 RX5 yX5_isSuspended wsX5_isSuspended) := goodIn_app (goodIn_of _ (by decide +kernel)) ggX5_isAlive_X5_isSuspended
set_option maxRecDepth 20000 in
theorem ggX5_has_X5_reached : GoodIn wsX5_has wsX5_reached := goodIn_r _ [11, 12, 13, 14, 15, 16, 10, 17, 18, 19, 20, 21, 22, 23, 24, 25, 26, 27, 28, 29, 30, 39, 40, 41, 42, 43, 44, 45, 46, 47, 48, 49, 50, 51, 52, 53, 54, 55, 56, 57, 58, 59, 60, 61, 62, 63] (by decide +kernel) (by decide +kernel)
set_option maxRecDepth 20000 in
theorem gX5_has_X5_reached : GoodIn wsX5_has (wsV RX5 104 RX5 yX5_reached wsX5_reached) := goodIn_app (goodIn_of _ (by decide +kernel)) ggX5_has_X5_reached
set_option maxRecDepth 20000 in
theorem ggX5_has_X5_in : GoodIn wsX5_has wsX5_in := goodIn_r _ [33] (by decide +kernel) (by decide +kernel)
set_option maxRecDepth 20000 in
theorem gX5_has_X5_in : GoodIn wsX5_has (va_wsS RX5 73 yX5_in wsX5_in) := goodIn_app (goodIn_of _ (by decide +kernel)) ggX5_has_X5_in
set_option maxRecDepth 20000 in
theorem ggX5_has_X5_isForbidden : GoodIn wsX5_has wsX5_isForbidden := goodIn_r _ [37, 38, 39, 40, 41, 42, 43, 44, 45, 46, 47, 48, 49, 50, 51, 52, 53, 54, 55, 56, 57, 58, 59, 60, 61, 62, 63] (by decide +kernel) (by decide +kernel)
set_option maxRecDepth 20000 in
theorem gX5_has_X5_isForbidden : GoodIn wsX5_has (wsV RX5 90 RX5 yX5_isForbidden wsX5_isForbidden) := goodIn_app (goodIn_of _ (by decide +kernel)) ggX5_has_X5_isForbidden
set_option maxRecDepth 20000 in
theorem ggX5_through_X5_has : GoodIn wsX5_through wsX5_has := goodIn_r _ [5, 6, 7, 8, 9, 10, 11, 12, 13, 14, 4, 15, 16, 17, 18, 19, 20, 21, 22, 23, 24, 25, 26, 27, 28, 29, 30, 31, 32, 33, 34, 35, 36, 37, 38, 39, 40, 41, 42, 43, 44, 45, 46, 47, 48, 49, 50, 51, 52, 53, 54, 55, 56, 57, 58, 59, 60, 61, 62, 63, 64, 65, 66, 67] (by decide +kernel) (by decide +kernel)
set_option maxRecDepth 20000 in
theorem gX5_through_X5_has : GoodIn wsX5_through (wsV RX5 123 RX5 yX5_has wsX5_has) := goodIn_app (goodIn_of _ (by decide +kernel)) ggX5_through_X5_has
set_option maxRecDepth 20000 in
theorem ggX5_through_X5_isAlive : GoodIn wsX5_through wsX5_isAlive := goodIn_r _ [21, 22, 23, 24, 4, 25, 26, 27, 28, 29, 30, 31, 32, 33, 34, 43, 44, 45, 46, 47, 48, 49, 50, 51, 52, 53, 54, 55, 56, 57, 58, 59, 60, 61, 62, 63, 64, 65, 66, 67] (by decide +kernel) (by decide +kernel)
set_option maxRecDepth 20000 in
theorem gX5_through_X5_isAlive : GoodIn wsX5_through (wsV RX5 94 RX5 yX5_isAlive wsX5_isAlive) := goodIn_app (goodIn_of _ (by decide +kernel)) ggX5_through_X5_isAlive
set_option maxRecDepth 20000 in
theorem ggX5_answer_X5_isTrader : GoodIn wsX5_answer wsX5_isTrader := goodIn_r _ [11, 12, 64, 65, 66, 67, 68, 69, 70, 71, 72, 73, 74, 75, 76, 77, 78, 79, 80, 81, 82, 83, 84, 85, 86, 87, 88] (by decide +kernel) (by decide +kernel)
set_option maxRecDepth 20000 in
theorem gX5_answer_X5_isTrader : GoodIn wsX5_answer (wsV RX5 77 RX5 yX5_isTrader wsX5_isTrader) := goodIn_app (goodIn_of _ (by decide +kernel)) ggX5_answer_X5_isTrader
set_option maxRecDepth 20000 in
theorem ggX5_answer_X5_isEight : GoodIn wsX5_answer wsX5_isEight := goodIn_r _ [15, 16, 17, 10, 18] (by decide +kernel) (by decide +kernel)
set_option maxRecDepth 20000 in
theorem gX5_answer_X5_isEight : GoodIn wsX5_answer (va_wsS RX5 81 yX5_isEight wsX5_isEight) := goodIn_app (goodIn_of _ (by decide +kernel)) ggX5_answer_X5_isEight
set_option maxRecDepth 20000 in
theorem ggX5_answer_X5_isDay : GoodIn wsX5_answer wsX5_isDay := goodIn_r _ [21, 22, 16, 17, 10, 18] (by decide +kernel) (by decide +kernel)
set_option maxRecDepth 20000 in
theorem gX5_answer_X5_isDay : GoodIn wsX5_answer (va_wsS RX5 84 yX5_isDay wsX5_isDay) := goodIn_app (goodIn_of _ (by decide +kernel)) ggX5_answer_X5_isDay
set_option maxRecDepth 20000 in
theorem ggX5_answer_X5_isEnded : GoodIn wsX5_answer wsX5_isEnded := goodIn_r _ [26, 27, 64, 65, 66, 67, 68, 69, 70, 71, 72, 73, 74, 75, 76, 77, 78, 79, 80, 81, 82, 83, 84, 85, 86, 87, 88] (by decide +kernel) (by decide +kernel)
set_option maxRecDepth 20000 in
theorem gX5_answer_X5_isEnded : GoodIn wsX5_answer (wsV RX5 117 RX5 yX5_isEnded wsX5_isEnded) := goodIn_app (goodIn_of _ (by decide +kernel)) ggX5_answer_X5_isEnded
set_option maxRecDepth 20000 in
theorem ggX5_answer_X5_isSuspended : GoodIn wsX5_answer wsX5_isSuspended := goodIn_r _ [31, 32, 33, 34, 35, 64, 65, 66, 67, 68, 69, 70, 71, 72, 73, 74, 75, 76, 77, 78, 79, 80, 81, 82, 83, 84, 85, 86, 87, 88] (by decide +kernel) (by decide +kernel)
set_option maxRecDepth 20000 in
theorem gX5_answer_X5_isSuspended : GoodIn wsX5_answer (wsV RX5 120 RX5 yX5_isSuspended wsX5_isSuspended) := goodIn_app (goodIn_of _ (by decide +kernel)) ggX5_answer_X5_isSuspended
set_option maxRecDepth 20000 in
theorem ggX5_answer_X5_has : GoodIn wsX5_answer wsX5_has := goodIn_r _ [39, 40, 41, 42, 43, 44, 45, 46, 47, 48, 10, 49, 12, 50, 51, 52, 53, 54, 23, 24, 25, 26, 27, 28, 29, 30, 31, 32, 33, 34, 35, 16, 17, 18, 55, 56, 57, 58, 59, 64, 65, 66, 67, 68, 69, 70, 71, 72, 73, 74, 75, 76, 77, 78, 79, 80, 81, 82, 83, 84, 85, 86, 87, 88] (by decide +kernel) (by decide +kernel)
set_option maxRecDepth 20000 in
theorem gX5_answer_X5_has : GoodIn wsX5_answer (wsV RX5 123 RX5 yX5_has wsX5_has) := goodIn_app (goodIn_of _ (by decide +kernel)) ggX5_answer_X5_has
set_option maxRecDepth 20000 in
theorem ggX5_answer_X5_through : GoodIn wsX5_answer wsX5_through := goodIn_r _ [63, 36, 37, 38, 10, 39, 40, 41, 42, 43, 44, 45, 46, 47, 48, 49, 12, 50, 51, 52, 53, 54, 23, 24, 25, 26, 27, 28, 29, 30, 31, 32, 33, 34, 35, 16, 17, 18, 55, 56, 57, 58, 59, 64, 65, 66, 67, 68, 69, 70, 71, 72, 73, 74, 75, 76, 77, 78, 79, 80, 81, 82, 83, 84, 85, 86, 87, 88] (by decide +kernel) (by decide +kernel)
set_option maxRecDepth 20000 in
theorem gX5_answer_X5_through : GoodIn wsX5_answer (wsV RX5 127 RX5 yX5_through wsX5_through) := goodIn_app (goodIn_of _ (by decide +kernel)) ggX5_answer_X5_through
set_option maxRecDepth 20000 in
theorem ggX5_answer_X5_isForbidden : GoodIn wsX5_answer wsX5_isForbidden := goodIn_r _ [58, 59, 64, 65, 66, 67, 68, 69, 70, 71, 72, 73, 74, 75, 76, 77, 78, 79, 80, 81, 82, 83, 84, 85, 86, 87, 88] (by decide +kernel) (by decide +kernel)
set_option maxRecDepth 20000 in
theorem gX5_answer_X5_isForbidden : GoodIn wsX5_answer (wsV RX5 90 RX5 yX5_isForbidden wsX5_isForbidden) := goodIn_app (goodIn_of _ (by decide +kernel)) ggX5_answer_X5_isForbidden
set_option maxRecDepth 20000 in
theorem ggX5_may_X5_answer : GoodIn wsX5_may wsX5_answer := goodIn_r _ [6, 7, 8, 9, 10, 11, 12, 13, 14, 15, 5, 16, 17, 18, 19, 20, 21, 22, 23, 24, 25, 26, 27, 28, 29, 30, 31, 32, 33, 34, 35, 36, 37, 38, 39, 40, 41, 42, 43, 44, 45, 46, 47, 48, 49, 50, 51, 52, 53, 54, 55, 56, 57, 58, 59, 60, 61, 62, 63, 64, 65, 66, 67, 68, 69, 70, 71, 72, 73, 74, 75, 76, 77, 78, 79, 80, 81, 82, 83, 84, 85, 86, 87, 88, 89, 90, 91, 92, 93] (by decide +kernel) (by decide +kernel)
set_option maxRecDepth 20000 in
theorem gX5_may_X5_answer : GoodIn wsX5_may (wsV RX5 131 RX5 yX5_answer wsX5_answer) := goodIn_app (goodIn_of _ (by decide +kernel)) ggX5_may_X5_answer
set_option maxRecDepth 20000 in
theorem ggX5_two_X5_isEight : GoodIn wsX5_two wsX5_isEight := goodIn_r _ [6, 7, 8, 5, 9] (by decide +kernel) (by decide +kernel)
set_option maxRecDepth 20000 in
theorem gX5_two_X5_isEight : GoodIn wsX5_two (va_wsS RX5 81 yX5_isEight wsX5_isEight) := goodIn_app (goodIn_of _ (by decide +kernel)) ggX5_two_X5_isEight
set_option maxRecDepth 20000 in
theorem ggX5_done_X5_answer : GoodIn wsX5_done wsX5_answer := goodIn_r _ [8, 3, 9, 10, 11, 12, 13, 14, 15, 16, 7, 17, 18, 19, 20, 21, 22, 23, 24, 25, 26, 27, 28, 29, 30, 31, 32, 33, 34, 35, 36, 37, 38, 39, 40, 41, 42, 43, 44, 45, 46, 47, 48, 49, 50, 51, 52, 53, 54, 55, 56, 57, 58, 59, 60, 61, 62, 63, 64, 65, 66, 67, 68, 69, 70, 71, 72, 73, 74, 75, 76, 77, 78, 79, 80, 81, 82, 83, 84, 85, 86, 87, 88, 89, 90, 91, 92, 93, 94] (by decide +kernel) (by decide +kernel)
set_option maxRecDepth 20000 in
theorem gX5_done_X5_answer : GoodIn wsX5_done (wsV RX5 131 RX5 yX5_answer wsX5_answer) := goodIn_app (goodIn_of _ (by decide +kernel)) ggX5_done_X5_answer
set_option maxRecDepth 20000 in
theorem ggX5_digit_X5_power : GoodIn wsX5_digit wsX5_power := goodIn_r _ [4] (by decide +kernel) (by decide +kernel)
set_option maxRecDepth 20000 in
theorem gX5_digit_X5_power : GoodIn wsX5_digit (va_wsS RX5 138 yX5_power wsX5_power) := goodIn_app (goodIn_of _ (by decide +kernel)) ggX5_digit_X5_power
set_option maxRecDepth 20000 in
theorem ggX5_letter_X5_in : GoodIn wsX5_letter wsX5_in := goodIn_r _ [6] (by decide +kernel) (by decide +kernel)
set_option maxRecDepth 20000 in
theorem gX5_letter_X5_in : GoodIn wsX5_letter (va_wsS RX5 73 yX5_in wsX5_in) := goodIn_app (goodIn_of _ (by decide +kernel)) ggX5_letter_X5_in
set_option maxRecDepth 20000 in
theorem ggX5_letter_X5_digit : GoodIn wsX5_letter wsX5_digit := goodIn_r _ [9, 10, 11, 5, 12] (by decide +kernel) (by decide +kernel)
set_option maxRecDepth 20000 in
theorem gX5_letter_X5_digit : GoodIn wsX5_letter (va_wsS RX5 142 yX5_digit wsX5_digit) := goodIn_app (goodIn_of _ (by decide +kernel)) ggX5_letter_X5_digit
set_option maxRecDepth 20000 in
theorem ggX5_check_X5_in : GoodIn wsX5_check wsX5_in := goodIn_r _ [9] (by decide +kernel) (by decide +kernel)
set_option maxRecDepth 20000 in
theorem gX5_check_X5_in : GoodIn wsX5_check (va_wsS RX5 73 yX5_in wsX5_in) := goodIn_app (goodIn_of _ (by decide +kernel)) ggX5_check_X5_in
set_option maxRecDepth 20000 in
theorem ggX5_check_X5_power : GoodIn wsX5_check wsX5_power := goodIn_r _ [12] (by decide +kernel) (by decide +kernel)
set_option maxRecDepth 20000 in
theorem gX5_check_X5_power : GoodIn wsX5_check (va_wsS RX5 138 yX5_power wsX5_power) := goodIn_app (goodIn_of _ (by decide +kernel)) ggX5_check_X5_power
set_option maxRecDepth 20000 in
theorem ggX5_acts_X5_has : GoodIn wsX5_acts wsX5_has := goodIn_r _ [5, 6, 7, 8, 9, 10, 11, 12, 13, 14, 4, 15, 16, 17, 18, 19, 20, 21, 22, 23, 24, 25, 26, 27, 28, 29, 30, 31, 32, 33, 34, 35, 36, 37, 38, 39, 40, 41, 42, 43, 44, 45, 46, 47, 48, 49, 50, 51, 52, 53, 54, 55, 56, 57, 58, 59, 60, 61, 62, 63, 64, 65, 66, 67] (by decide +kernel) (by decide +kernel)
set_option maxRecDepth 20000 in
theorem gX5_acts_X5_has : GoodIn wsX5_acts (wsV RX5 123 RX5 yX5_has wsX5_has) := goodIn_app (goodIn_of _ (by decide +kernel)) ggX5_acts_X5_has
set_option maxRecDepth 20000 in
theorem ggX5_look_X5_isTrader : GoodIn wsX5_look wsX5_isTrader := goodIn_r _ [7, 8, 71, 72, 73, 74, 75, 76, 77, 78, 79, 80, 81, 82, 83, 84, 85, 86, 87, 88, 89, 90, 91, 92, 93, 94, 95] (by decide +kernel) (by decide +kernel)
set_option maxRecDepth 20000 in
theorem gX5_look_X5_isTrader : GoodIn wsX5_look (wsV RX5 77 RX5 yX5_isTrader wsX5_isTrader) := goodIn_app (goodIn_of _ (by decide +kernel)) ggX5_look_X5_isTrader
set_option maxRecDepth 20000 in
theorem ggX5_look_X5_in : GoodIn wsX5_look wsX5_in := goodIn_r _ [11] (by decide +kernel) (by decide +kernel)
set_option maxRecDepth 20000 in
theorem gX5_look_X5_in : GoodIn wsX5_look (va_wsS RX5 73 yX5_in wsX5_in) := goodIn_app (goodIn_of _ (by decide +kernel)) ggX5_look_X5_in
set_option maxRecDepth 20000 in
theorem ggX5_look_X5_isDay : GoodIn wsX5_look wsX5_isDay := goodIn_r _ [14, 15, 9, 10, 6, 11] (by decide +kernel) (by decide +kernel)
set_option maxRecDepth 20000 in
theorem gX5_look_X5_isDay : GoodIn wsX5_look (va_wsS RX5 84 yX5_isDay wsX5_isDay) := goodIn_app (goodIn_of _ (by decide +kernel)) ggX5_look_X5_isDay
set_option maxRecDepth 20000 in
theorem ggX5_look_X5_isEnded : GoodIn wsX5_look wsX5_isEnded := goodIn_r _ [19, 20, 71, 72, 73, 74, 75, 76, 77, 78, 79, 80, 81, 82, 83, 84, 85, 86, 87, 88, 89, 90, 91, 92, 93, 94, 95] (by decide +kernel) (by decide +kernel)
set_option maxRecDepth 20000 in
theorem gX5_look_X5_isEnded : GoodIn wsX5_look (wsV RX5 117 RX5 yX5_isEnded wsX5_isEnded) := goodIn_app (goodIn_of _ (by decide +kernel)) ggX5_look_X5_isEnded
set_option maxRecDepth 20000 in
theorem ggX5_look_X5_isSuspended : GoodIn wsX5_look wsX5_isSuspended := goodIn_r _ [24, 25, 26, 27, 28, 71, 72, 73, 74, 75, 76, 77, 78, 79, 80, 81, 82, 83, 84, 85, 86, 87, 88, 89, 90, 91, 92, 93, 94, 95] (by decide +kernel) (by decide +kernel)
set_option maxRecDepth 20000 in
theorem gX5_look_X5_isSuspended : GoodIn wsX5_look (wsV RX5 120 RX5 yX5_isSuspended wsX5_isSuspended) := goodIn_app (goodIn_of _ (by decide +kernel)) ggX5_look_X5_isSuspended
set_option maxRecDepth 20000 in
theorem ggX5_look_X5_reached : GoodIn wsX5_look wsX5_reached := goodIn_r _ [32, 8, 33, 34, 35, 36, 6, 37, 16, 17, 18, 19, 20, 21, 22, 23, 24, 25, 26, 27, 28, 71, 72, 73, 74, 75, 76, 77, 78, 79, 80, 81, 82, 83, 84, 85, 86, 87, 88, 89, 90, 91, 92, 93, 94, 95] (by decide +kernel) (by decide +kernel)
set_option maxRecDepth 20000 in
theorem gX5_look_X5_reached : GoodIn wsX5_look (wsV RX5 104 RX5 yX5_reached wsX5_reached) := goodIn_app (goodIn_of _ (by decide +kernel)) ggX5_look_X5_reached
set_option maxRecDepth 20000 in
theorem ggX5_look_X5_bits : GoodIn wsX5_look wsX5_bits := goodIn_r _ [40] (by decide +kernel) (by decide +kernel)
set_option maxRecDepth 20000 in
theorem gX5_look_X5_bits : GoodIn wsX5_look (va_wsS RX5 100 yX5_bits wsX5_bits) := goodIn_app (goodIn_of _ (by decide +kernel)) ggX5_look_X5_bits
set_option maxRecDepth 20000 in
theorem ggX5_look_X5_acts : GoodIn wsX5_look wsX5_acts := goodIn_r _ [44, 45, 46, 47, 6, 48, 49, 50, 51, 52, 53, 54, 29, 30, 31, 32, 8, 33, 34, 35, 36, 37, 16, 17, 18, 19, 20, 21, 22, 23, 24, 25, 26, 27, 28, 9, 10, 11, 55, 56, 57, 58, 59, 71, 72, 73, 74, 75, 76, 77, 78, 79, 80, 81, 82, 83, 84, 85, 86, 87, 88, 89, 90, 91, 92, 93, 94, 95] (by decide +kernel) (by decide +kernel)
set_option maxRecDepth 20000 in
theorem gX5_look_X5_acts : GoodIn wsX5_look (wsV RX5 149 RX5 yX5_acts wsX5_acts) := goodIn_app (goodIn_of _ (by decide +kernel)) ggX5_look_X5_acts
set_option maxRecDepth 20000 in
theorem ggX5_look_X5_withDeputy : GoodIn wsX5_look wsX5_withDeputy := goodIn_r _ [63, 8, 2, 71, 72, 73, 74, 75, 76, 77, 78, 79, 80, 81, 82, 83, 84, 85, 86, 87, 88, 89, 90, 91, 92, 93, 94, 95] (by decide +kernel) (by decide +kernel)
set_option maxRecDepth 20000 in
theorem gX5_look_X5_withDeputy : GoodIn wsX5_look (wsV RX5 108 RX5 yX5_withDeputy wsX5_withDeputy) := goodIn_app (goodIn_of _ (by decide +kernel)) ggX5_look_X5_withDeputy
set_option maxRecDepth 20000 in
theorem ggX5_look_X5_standing : GoodIn wsX5_look wsX5_standing := goodIn_r _ [67, 68, 69, 70, 71, 72, 73, 74, 75, 76, 77, 78, 79, 80, 81, 82, 83, 84, 85, 86, 87, 88, 89, 90, 91, 92, 93, 94, 95] (by decide +kernel) (by decide +kernel)
set_option maxRecDepth 20000 in
theorem gX5_look_X5_standing : GoodIn wsX5_look (wsV RX5 152 RX5 yX5_standing wsX5_standing) := goodIn_app (goodIn_of _ (by decide +kernel)) ggX5_look_X5_standing
set_option maxRecDepth 20000 in
theorem ggL_trader_X4_trader : GoodIn wsL_trader wsX4_trader := goodIn_ca (goodIn_r _ [6, 7, 8, 9, 10, 11, 12, 13, 14, 15, 16, 17, 18, 19, 20] (by decide +kernel) (by decide +kernel)) (goodIn_sub (fun _ h => List.mem_cons_of_mem _ (List.mem_append_right _ h)) (by decide +kernel))
set_option maxRecDepth 20000 in
theorem gL_trader_X4_trader : GoodIn wsL_trader (wsV RL 7 RX4 yX4_trader wsX4_trader) := goodIn_app (goodIn_of _ (by decide +kernel)) ggL_trader_X4_trader
set_option maxRecDepth 20000 in
theorem ggL_right_X4_right : GoodIn wsL_right wsX4_right := goodIn_ca (goodIn_ca (goodIn_r _ [7, 8, 9, 10, 11, 12, 13, 14, 15, 6, 16, 17, 18, 19, 20, 21, 22, 23, 24, 25, 26, 27, 28, 29, 30, 31, 32, 33, 34, 35, 36, 37, 38, 39, 40, 41, 42, 43, 44, 45, 46, 47, 48, 49, 50, 51, 52, 53, 54] (by decide +kernel) (by decide +kernel)) (goodIn_sub (fun _ h => List.mem_cons_of_mem _ (List.mem_append_left _ (List.mem_append_right _ h))) (by decide +kernel))) (goodIn_sub (fun _ h => List.mem_cons_of_mem _ (List.mem_append_right _ h)) (by decide +kernel))
set_option maxRecDepth 20000 in
theorem gL_right_X4_right : GoodIn wsL_right (wsV RL 15 RX4 yX4_right wsX4_right) := goodIn_app (goodIn_of _ (by decide +kernel)) ggL_right_X4_right
set_option maxRecDepth 20000 in
theorem ggL_group_X4_group : GoodIn wsL_group wsX4_group := goodIn_ca (goodIn_r _ [6, 7, 8, 9, 10, 11, 12, 5, 13, 14, 15, 16, 17, 18, 19, 20, 21, 22, 23, 24, 25, 26, 27, 28, 29, 30, 31, 32, 33, 34, 35, 36, 37, 38, 39, 40, 41, 42, 43, 44, 45, 46, 47, 48, 49, 50, 51, 52, 53, 54] (by decide +kernel) (by decide +kernel)) (goodIn_sub (fun _ h => List.mem_cons_of_mem _ (List.mem_append_right _ h)) (by decide +kernel))
set_option maxRecDepth 20000 in
theorem gL_group_X4_group : GoodIn wsL_group (wsV RL 21 RX4 yX4_group wsX4_group) := goodIn_app (goodIn_of _ (by decide +kernel)) ggL_group_X4_group
set_option maxRecDepth 20000 in
theorem ggL_deputy_X4_deputy : GoodIn wsL_deputy wsX4_deputy := goodIn_ca (goodIn_r _ [6, 7, 8, 9, 10, 11, 12, 13, 5, 14, 15, 16, 17, 18, 19, 20, 21, 22, 23, 24, 25, 26, 27, 28, 29, 30, 31, 32, 33, 34] (by decide +kernel) (by decide +kernel)) (goodIn_sub (fun _ h => List.mem_cons_of_mem _ (List.mem_append_right _ h)) (by decide +kernel))
set_option maxRecDepth 20000 in
theorem gL_deputy_X4_deputy : GoodIn wsL_deputy (wsV RL 25 RX4 yX4_deputy wsX4_deputy) := goodIn_app (goodIn_of _ (by decide +kernel)) ggL_deputy_X4_deputy
set_option maxRecDepth 20000 in
theorem ggL_mandate_X4_mandate : GoodIn wsL_mandate wsX4_mandate := goodIn_ca (goodIn_ca (goodIn_r _ [7, 8, 9, 10, 11, 12, 13, 14, 15, 6, 16, 17, 18, 19, 20, 21, 22, 23, 24, 25, 26, 27, 28, 29, 30, 31, 32, 33, 34, 35, 36, 37, 38, 39, 40, 41, 42, 43, 44, 45, 46, 47, 48, 49, 50] (by decide +kernel) (by decide +kernel)) (goodIn_sub (fun _ h => List.mem_cons_of_mem _ (List.mem_append_left _ (List.mem_append_right _ h))) (by decide +kernel))) (goodIn_sub (fun _ h => List.mem_cons_of_mem _ (List.mem_append_right _ h)) (by decide +kernel))
set_option maxRecDepth 20000 in
theorem gL_mandate_X4_mandate : GoodIn wsL_mandate (wsV RL 28 RX4 yX4_mandate wsX4_mandate) := goodIn_app (goodIn_of _ (by decide +kernel)) ggL_mandate_X4_mandate
set_option maxRecDepth 20000 in
theorem ggL_suspend_X4_suspend : GoodIn wsL_suspend wsX4_suspend := goodIn_ca (goodIn_ca (goodIn_r _ [7, 8, 9, 10, 11, 12, 13, 14, 15, 6, 16, 17, 18, 19, 20, 21, 22, 23, 24, 25, 26, 27, 28, 29, 30, 31, 32, 33, 34, 35, 36, 37, 38, 39, 40, 41, 42, 43, 44] (by decide +kernel) (by decide +kernel)) (goodIn_sub (fun _ h => List.mem_cons_of_mem _ (List.mem_append_left _ (List.mem_append_right _ h))) (by decide +kernel))) (goodIn_sub (fun _ h => List.mem_cons_of_mem _ (List.mem_append_right _ h)) (by decide +kernel))
set_option maxRecDepth 20000 in
theorem gL_suspend_X4_suspend : GoodIn wsL_suspend (wsV RL 32 RX4 yX4_suspend wsX4_suspend) := goodIn_app (goodIn_of _ (by decide +kernel)) ggL_suspend_X4_suspend
set_option maxRecDepth 20000 in
theorem ggL_letter_X4_letter : GoodIn wsL_letter wsX4_letter := goodIn_ca (goodIn_ca (goodIn_r _ [7, 8, 9, 10, 11, 12, 13, 14, 6, 15, 16, 17, 18] (by decide +kernel) (by decide +kernel)) (goodIn_sub (fun _ h => List.mem_cons_of_mem _ (List.mem_append_left _ (List.mem_append_right _ h))) (by decide +kernel))) (goodIn_sub (fun _ h => List.mem_cons_of_mem _ (List.mem_append_right _ h)) (by decide +kernel))
set_option maxRecDepth 20000 in
theorem gL_letter_X4_letter : GoodIn wsL_letter (wsV RL 36 RX4 yX4_letter wsX4_letter) := goodIn_app (goodIn_of _ (by decide +kernel)) ggL_letter_X4_letter
set_option maxRecDepth 20000 in
theorem ggL_look_X4_look : GoodIn wsL_look wsX4_look := goodIn_ca (goodIn_ca (goodIn_r _ [7, 8, 9, 10, 11, 12, 13, 14, 15, 16, 17, 18, 6, 19, 20, 21, 22, 23, 24, 25, 26, 27, 28, 29, 30, 31, 32, 33, 34, 35, 36, 37, 38, 39, 40, 41, 42, 43, 44, 45, 46, 47, 48, 49, 50, 51, 52, 53, 54, 55, 56, 57, 58, 59, 60, 61, 62, 63, 64, 65, 66, 67, 68, 69, 70, 71, 72, 73, 74, 75, 76, 77, 78, 79, 80, 81, 82, 83, 84, 85, 86, 87, 88, 89, 90, 91, 92, 93, 94, 95, 96, 97, 98, 99, 100, 101, 102, 103, 104, 105, 106, 107, 108, 109, 110, 111, 112, 113, 114, 115] (by decide +kernel) (by decide +kernel)) (goodIn_sub (fun _ h => List.mem_cons_of_mem _ (List.mem_append_left _ (List.mem_append_right _ h))) (by decide +kernel))) (goodIn_sub (fun _ h => List.mem_cons_of_mem _ (List.mem_append_right _ h)) (by decide +kernel))
set_option maxRecDepth 20000 in
theorem gL_look_X4_look : GoodIn wsL_look (wsV RL 41 RX4 yX4_look wsX4_look) := goodIn_app (goodIn_of _ (by decide +kernel)) ggL_look_X4_look
