set_option maxRecDepth 20000 in
theorem g_law_P_today : GoodIn lw_tbl (wsV R_law 13 R_P y_P_today w_P_today) := goodIn_p _ [214, 218] rfl (by decide +kernel)
set_option maxRecDepth 20000 in
theorem g_law_O_today : GoodIn lw_tbl (wsV R_law 17 R_O y_O_today w_O_today) := goodIn_p _ [741, 745] rfl (by decide +kernel)
set_option maxRecDepth 20000 in
theorem g_law_P_row : GoodIn lw_tbl (wsV R_law 20 R_P y_P_row w_P_row) := goodIn_p _ [223, 227, 232] rfl (by decide +kernel)
set_option maxRecDepth 20000 in
theorem g_law_O_row : GoodIn lw_tbl (wsV R_law 24 R_O y_O_row w_O_row) := goodIn_p _ [749, 745] rfl (by decide +kernel)
set_option maxRecDepth 20000 in
theorem g_law_P_fits : GoodIn lw_tbl (wsV R_law 25 R_P y_P_fits w_P_fits) := goodIn_p _ [236, 239, 227, 243] rfl (by decide +kernel)
set_option maxRecDepth 20000 in
theorem g_law_O_fits : GoodIn lw_tbl (wsV R_law 29 R_O y_O_fits w_O_fits) := goodIn_p _ [754, 757] rfl (by decide +kernel)
set_option maxRecDepth 20000 in
theorem g_law_P_part : GoodIn lw_tbl (wsV R_law 30 R_P y_P_part w_P_part) := goodIn_p _ [247, 251, 239, 227, 257, 53, 290, 294, 298, 302, 308] rfl (by decide +kernel)
set_option maxRecDepth 20000 in
theorem g_law_O_part : GoodIn lw_tbl (wsV R_law 34 R_O y_O_part w_O_part) := goodIn_p _ [761, 757, 745] rfl (by decide +kernel)
set_option maxRecDepth 20000 in
theorem g_law_P_price : GoodIn lw_tbl (wsV R_law 35 R_P y_P_price w_P_price) := goodIn_p _ [346, 350, 251, 354, 357, 360, 364, 369] rfl (by decide +kernel)
set_option maxRecDepth 20000 in
theorem g_law_O_price : GoodIn lw_tbl (wsV R_law 39 R_O y_O_price w_O_price) := goodIn_p _ [766, 770, 774] rfl (by decide +kernel)
set_option maxRecDepth 20000 in
theorem g_law_P_state : GoodIn lw_tbl (wsV R_law 40 R_P y_P_state w_P_state) := goodIn_p _ [373, 350, 251, 354, 357, 360, 364, 377] rfl (by decide +kernel)
set_option maxRecDepth 20000 in
theorem g_law_O_state : GoodIn lw_tbl (wsV R_law 44 R_O y_O_state w_O_state) := goodIn_p _ [779, 770, 783] rfl (by decide +kernel)
set_option maxRecDepth 20000 in
theorem g_law_P_ask : GoodIn lw_tbl (wsV R_law 45 R_P y_P_ask w_P_ask) := goodIn_p _ [381, 251, 243, 227, 387, 53, 290, 294, 298, 302, 308] rfl (by decide +kernel)
set_option maxRecDepth 20000 in
theorem g_law_O_ask : GoodIn lw_tbl (wsV R_law 49 R_O y_O_ask w_O_ask) := goodIn_p _ [787, 757, 745] rfl (by decide +kernel)
set_option maxRecDepth 20000 in
theorem g_law_P_hold : GoodIn lw_tbl (wsV R_law 50 R_P y_P_hold w_P_hold) := goodIn_p _ [412, 350, 251, 354, 357, 360, 364, 416, 218, 377, 420] rfl (by decide +kernel)
set_option maxRecDepth 20000 in
theorem g_law_O_hold : GoodIn lw_tbl (wsV R_law 54 R_O y_O_hold w_O_hold) := goodIn_p _ [792, 770, 783, 796, 745] rfl (by decide +kernel)
set_option maxRecDepth 20000 in
theorem g_law_P_match : GoodIn lw_tbl (wsV R_law 55 R_P y_P_match w_P_match) := goodIn_p _ [424, 251, 428, 354, 357, 360, 364, 432, 436, 440, 444, 369, 448, 377, 453, 457, 461, 467, 471, 475, 478, 482, 486] rfl (by decide +kernel)
set_option maxRecDepth 20000 in
theorem g_law_O_match : GoodIn lw_tbl (wsV R_law 59 R_O y_O_match w_O_match) := goodIn_p _ [800, 804, 796, 808, 812, 783, 774, 816] rfl (by decide +kernel)
set_option maxRecDepth 20000 in
theorem g_law_P_of : GoodIn lw_tbl (wsV R_law 60 R_P y_P_of w_P_of) := goodIn_p _ [490, 494] rfl (by decide +kernel)
set_option maxRecDepth 20000 in
theorem g_law_O_of : GoodIn lw_tbl (wsV R_law 63 R_O y_O_of w_O_of) := goodIn_p _ [820] rfl (by decide +kernel)
set_option maxRecDepth 20000 in
theorem g_law_P_worth : GoodIn lw_tbl (wsV R_law 64 R_P y_P_worth w_P_worth) := goodIn_p _ [498] rfl (by decide +kernel)
set_option maxRecDepth 20000 in
theorem g_law_O_worth : GoodIn lw_tbl (wsV R_law 68 R_O y_O_worth w_O_worth) := goodIn_p _ [824] rfl (by decide +kernel)
set_option maxRecDepth 20000 in
theorem g_law_P_gain : GoodIn lw_tbl (wsV R_law 69 R_P y_P_gain w_P_gain) := goodIn_p _ [502, 506, 510] rfl (by decide +kernel)
set_option maxRecDepth 20000 in
theorem g_law_O_gain : GoodIn lw_tbl (wsV R_law 73 R_O y_O_gain w_O_gain) := goodIn_p _ [828] rfl (by decide +kernel)
set_option maxRecDepth 20000 in
theorem g_law_P_serve : GoodIn lw_tbl (wsV R_law 74 R_P y_P_serve w_P_serve) := goodIn_p _ [514, 416, 251, 354, 357, 360, 364, 494, 350, 517, 227, 444, 369, 448, 377, 522] rfl (by decide +kernel)
set_option maxRecDepth 20000 in
theorem g_law_O_serve : GoodIn lw_tbl (wsV R_law 78 R_O y_O_serve w_O_serve) := goodIn_p _ [832, 796, 835, 812, 783, 774] rfl (by decide +kernel)
set_option maxRecDepth 20000 in
theorem g_law_P_job : GoodIn lw_tbl (wsV R_law 79 R_P y_P_job w_P_job) := goodIn_p _ [526, 251, 531, 53, 290, 294, 298, 302, 308] rfl (by decide +kernel)
set_option maxRecDepth 20000 in
theorem g_law_O_job : GoodIn lw_tbl (wsV R_law 82 R_O y_O_job w_O_job) := goodIn_p _ [839] rfl (by decide +kernel)
set_option maxRecDepth 20000 in
theorem g_law_P_needs : GoodIn lw_tbl (wsV R_law 83 R_P y_P_needs w_P_needs) := goodIn_p _ [542, 251, 239, 227, 354, 357, 360, 364] rfl (by decide +kernel)
set_option maxRecDepth 20000 in
theorem g_law_O_needs : GoodIn lw_tbl (wsV R_law 86 R_O y_O_needs w_O_needs) := goodIn_p _ [843, 757, 745] rfl (by decide +kernel)
set_option maxRecDepth 20000 in
theorem g_law_P_plan : GoodIn lw_tbl (wsV R_law 87 R_P y_P_plan w_P_plan) := goodIn_p _ [547, 551, 251, 354, 357, 360, 364, 377, 369, 555, 559, 563, 570, 573, 576] rfl (by decide +kernel)
set_option maxRecDepth 20000 in
theorem g_law_O_plan : GoodIn lw_tbl (wsV R_law 90 R_O y_O_plan w_O_plan) := goodIn_p _ [848, 852, 856, 783, 774, 860] rfl (by decide +kernel)
set_option maxRecDepth 20000 in
theorem g_law_P_cost : GoodIn lw_tbl (wsV R_law 91 R_P y_P_cost w_P_cost) := goodIn_p _ [582] rfl (by decide +kernel)
set_option maxRecDepth 20000 in
theorem g_law_O_cost : GoodIn lw_tbl (wsV R_law 94 R_O y_O_cost w_O_cost) := goodIn_p _ [864] rfl (by decide +kernel)
set_option maxRecDepth 20000 in
theorem g_law_P_does : GoodIn lw_tbl (wsV R_law 95 R_P y_P_does w_P_does) := goodIn_p _ [586, 576] rfl (by decide +kernel)
set_option maxRecDepth 20000 in
theorem g_law_O_does : GoodIn lw_tbl (wsV R_law 98 R_O y_O_does w_O_does) := goodIn_p _ [868] rfl (by decide +kernel)
set_option maxRecDepth 20000 in
theorem g_law_P_warranty : GoodIn lw_tbl (wsV R_law 99 R_P y_P_warranty w_P_warranty) := goodIn_p _ [591, 239, 227] rfl (by decide +kernel)
set_option maxRecDepth 20000 in
theorem g_law_O_warranty : GoodIn lw_tbl (wsV R_law 103 R_O y_O_warranty w_O_warranty) := goodIn_p _ [872, 757, 745] rfl (by decide +kernel)
set_option maxRecDepth 20000 in
theorem g_law_P_returned : GoodIn lw_tbl (wsV R_law 104 R_P y_P_returned w_P_returned) := goodIn_p _ [595, 350, 251, 354, 357, 360, 364] rfl (by decide +kernel)
set_option maxRecDepth 20000 in
theorem g_law_O_returned : GoodIn lw_tbl (wsV R_law 107 R_O y_O_returned w_O_returned) := goodIn_p _ [876, 770] rfl (by decide +kernel)
set_option maxRecDepth 20000 in
theorem g_law_P_recall : GoodIn lw_tbl (wsV R_law 108 R_P y_P_recall w_P_recall) := goodIn_p _ [599, 239, 227, 251, 354, 357, 360, 364, 603] rfl (by decide +kernel)
set_option maxRecDepth 20000 in
theorem g_law_O_recall : GoodIn lw_tbl (wsV R_law 111 R_O y_O_recall w_O_recall) := goodIn_p _ [880, 757] rfl (by decide +kernel)
set_option maxRecDepth 20000 in
theorem g_law_P_recalled : GoodIn lw_tbl (wsV R_law 112 R_P y_P_recalled w_P_recalled) := goodIn_p _ [607] rfl (by decide +kernel)
set_option maxRecDepth 20000 in
theorem g_law_O_recalled : GoodIn lw_tbl (wsV R_law 115 R_O y_O_recalled w_O_recalled) := goodIn_p _ [884] rfl (by decide +kernel)
set_option maxRecDepth 20000 in
theorem g_law_P_lend : GoodIn lw_tbl (wsV R_law 116 R_P y_P_lend w_P_lend) := goodIn_p _ [611, 614, 227, 517, 218] rfl (by decide +kernel)
set_option maxRecDepth 20000 in
theorem g_law_O_lend : GoodIn lw_tbl (wsV R_law 119 R_O y_O_lend w_O_lend) := goodIn_p _ [888, 835, 745] rfl (by decide +kernel)
set_option maxRecDepth 20000 in
theorem g_law_P_back : GoodIn lw_tbl (wsV R_law 120 R_P y_P_back w_P_back) := goodIn_p _ [618, 614, 227] rfl (by decide +kernel)
set_option maxRecDepth 20000 in
theorem g_law_O_back : GoodIn lw_tbl (wsV R_law 123 R_O y_O_back w_O_back) := goodIn_p _ [892] rfl (by decide +kernel)
set_option maxRecDepth 20000 in
theorem g_law_P_late : GoodIn lw_tbl (wsV R_law 124 R_P y_P_late w_P_late) := goodIn_p _ [622] rfl (by decide +kernel)
set_option maxRecDepth 20000 in
theorem g_law_O_late : GoodIn lw_tbl (wsV R_law 127 R_O y_O_late w_O_late) := goodIn_p _ [896] rfl (by decide +kernel)
