theorem ggL_law_L_act : GoodIn wsL_law wsL_act := fun w h => (List.mem_cons.mp h).elim (fun e => aL_0 w (List.mem_singleton.mpr e)) ((goodIn_app (goodIn_app (goodIn_app (goodIn_app (goodIn_app (goodIn_app aL_1 (goodIn_app aL_2 (goodIn_app aL_3 (goodIn_app aL_4 (goodIn_app aL_5 (goodIn_app aL_6 (goodIn_app aL_7 (goodIn_app aL_8 (goodIn_app aL_9 aL_10))))))))) aLX_4) aLX_2) aLX_3) aLX_0) aLX_1) w)
set_option maxRecDepth 20000 in
theorem gL_law_L_act : GoodIn wsL_law (va_wsS RL 81 yL_act wsL_act) := goodIn_app (goodIn_of _ (by decide +kernel)) ggL_law_L_act
set_option maxRecDepth 20000 in
theorem ggL_law_X4_open : GoodIn wsL_law wsX4_open := goodIn_r _ [217, 12, 82, 83, 84, 2, 85, 13, 14, 86, 87, 88, 11, 89, 36, 90, 91, 92, 93, 38, 39, 40, 41, 42, 46, 94, 95, 96, 24, 97, 98, 99, 100, 101, 102, 103, 104, 105, 106, 107, 108, 45, 109, 51, 110, 52, 53, 54, 55, 218, 219, 220, 221, 164, 190, 175, 176, 177, 191, 192, 193, 194, 195, 196, 197, 198, 199, 200, 201, 202, 203, 204, 205, 206, 207, 208, 209, 210, 211, 212, 213, 135, 136, 137, 138, 139, 140, 141, 142, 143, 115, 116, 117, 118, 119, 120, 121, 122, 295, 296, 297, 298, 299, 300, 301, 302, 303, 304, 305, 306, 307, 308, 315, 316, 317, 318, 319, 320, 321, 322, 323, 324, 325, 326, 327] (by decide +kernel) (by decide +kernel)
set_option maxRecDepth 20000 in
theorem gL_law_X4_open : GoodIn wsL_law (wsV RL 55 RX4 yX4_open wsX4_open) := goodIn_app (goodIn_of _ (by decide +kernel)) ggL_law_X4_open
set_option maxRecDepth 20000 in
theorem ggL_law_X4_pass : GoodIn wsL_law wsX4_pass := goodIn_r _ [249, 12, 82, 83, 84, 2, 85, 13, 14, 86, 87, 88, 11, 89, 36, 90, 91, 92, 93, 38, 39, 40, 41, 42, 46, 94, 95, 96, 24, 97, 98, 99, 100, 101, 102, 103, 104, 105, 106, 107, 108, 45, 109, 51, 110, 52, 53, 54, 55, 250, 251, 252, 253, 254, 255, 256, 257, 258, 259, 260, 261, 262, 263, 264, 265, 266, 213, 201, 202, 203, 196, 197, 198, 199, 200, 135, 136, 137, 138, 139, 140, 141, 142, 143, 115, 116, 117, 118, 119, 120, 121, 122, 295, 296, 297, 298, 299, 300, 301, 302, 303, 304, 305, 306, 307, 308, 315, 316, 317, 318, 319, 320, 321, 322, 323, 324, 325, 326, 327] (by decide +kernel) (by decide +kernel)
set_option maxRecDepth 20000 in
theorem gL_law_X4_pass : GoodIn wsL_law (wsV RL 35 RX4 yX4_pass wsX4_pass) := goodIn_app (goodIn_of _ (by decide +kernel)) ggL_law_X4_pass
set_option maxRecDepth 20000 in
theorem ggL_law_X4_of : GoodIn wsL_law wsX4_of := goodIn_r _ [173, 12, 174, 175, 176, 11, 177, 39, 38, 178, 179, 180, 24, 181, 98, 99, 100, 101, 102, 103, 104, 105, 295, 296, 297, 298, 299, 300, 301, 302, 303, 304, 305, 306, 307, 308, 315, 316, 317, 318, 319, 320, 321, 322] (by decide +kernel) (by decide +kernel)
set_option maxRecDepth 20000 in
theorem gL_law_X4_of : GoodIn wsL_law (wsV RL 15 RX4 yX4_of wsX4_of) := goodIn_app (goodIn_of _ (by decide +kernel)) ggL_law_X4_of
set_option maxRecDepth 20000 in
theorem ggL_law_X4_count : GoodIn wsL_law wsX4_count := goodIn_r _ [153, 21, 154, 14, 12, 155, 156, 157, 11, 158, 40, 39, 41, 42, 46, 159, 36, 160, 161, 162, 163, 38, 164, 165, 166, 167, 168, 169, 295, 296, 297, 298, 299, 300, 301, 309, 310, 311, 312, 313, 314, 302, 303, 304, 305, 306, 307, 308, 323, 324, 325, 326, 327, 315, 316, 317, 318, 319, 320, 321, 322] (by decide +kernel) (by decide +kernel)
set_option maxRecDepth 20000 in
theorem gL_law_X4_count : GoodIn wsL_law (wsV RL 9 RX4 yX4_count wsX4_count) := goodIn_app (goodIn_of _ (by decide +kernel)) ggL_law_X4_count
