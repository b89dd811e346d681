set_option maxRecDepth 20000 in
theorem wl_wsL_law0_r55 : GoodIn lw_tbl wsL_law0_r55 := goodIn_2 lwc_in _ [(5, 219), (5, 220), (5, 221), (5, 222), (5, 223), (8, 180), (8, 181), (8, 182), (8, 183), (5, 224), (5, 225), (5, 226), (5, 227), (5, 228), (5, 229), (5, 230), (5, 231), (8, 184), (8, 185), (8, 186), (8, 187), (5, 232), (5, 233), (5, 234)] (by decide +kernel) (by decide +kernel)
set_option maxRecDepth 20000 in
theorem wl_wsL_law0_r56 : GoodIn lw_tbl wsL_law0_r56 := goodIn_2 lwc_in _ [(5, 235), (5, 236), (5, 237), (5, 238), (5, 239), (6, 0), (6, 1), (6, 2), (6, 3), (6, 5), (0, 30), (6, 6), (6, 7), (8, 188), (8, 189), (8, 190), (8, 191), (8, 192), (8, 194), (0, 90), (8, 195), (6, 8), (6, 9), (6, 10)] (by decide +kernel) (by decide +kernel)
set_option maxRecDepth 20000 in
theorem wl_wsL_law0_r57 : GoodIn lw_tbl wsL_law0_r57 := goodIn_2 lwc_in _ [(6, 11), (6, 12), (6, 13), (6, 14), (8, 196), (8, 197), (8, 198), (8, 199), (6, 15), (6, 16), (6, 17), (6, 18), (6, 19), (6, 20), (6, 21), (8, 200), (8, 201), (8, 202), (8, 203), (6, 22), (6, 23), (6, 24), (6, 25), (6, 26)] (by decide +kernel) (by decide +kernel)
set_option maxRecDepth 20000 in
theorem wl_wsL_law0_r58 : GoodIn lw_tbl wsL_law0_r58 := goodIn_2 lwc_in _ [(6, 27), (6, 28), (6, 29), (6, 30), (6, 31), (6, 32), (8, 204), (8, 205), (8, 206), (8, 207), (6, 33), (6, 34), (6, 35), (6, 36), (6, 37), (6, 38), (6, 39), (2, 28), (6, 40), (6, 41), (6, 42), (6, 43), (6, 45), (6, 46)] (by decide +kernel) (by decide +kernel)
set_option maxRecDepth 20000 in
theorem wl_wsL_law0_r59 : GoodIn lw_tbl wsL_law0_r59 := goodIn_2 lwc_in _ [(6, 47), (6, 48), (2, 27), (8, 208), (8, 209), (8, 210), (8, 211), (6, 196), (8, 212), (8, 213), (8, 214), (8, 215), (8, 217), (0, 91), (8, 218), (3, 52), (3, 53), (3, 54), (3, 55), (3, 56), (3, 57), (3, 58), (3, 59), (8, 219)] (by decide +kernel) (by decide +kernel)
set_option maxRecDepth 20000 in
theorem wl_wsL_law0_r60 : GoodIn lw_tbl wsL_law0_r60 := goodIn_2 lwc_in _ [(8, 220), (8, 221), (8, 222), (6, 49), (6, 50), (6, 51), (6, 52), (6, 53), (6, 54), (6, 55), (2, 24), (6, 56), (6, 57), (6, 58), (6, 59), (2, 34), (6, 60), (6, 62), (0, 31), (6, 63), (6, 64), (6, 66), (0, 32), (6, 67)] (by decide +kernel) (by decide +kernel)
set_option maxRecDepth 20000 in
theorem wl_wsL_law0_r61 : GoodIn lw_tbl wsL_law0_r61 := goodIn_2 lwc_in _ [(2, 35), (6, 68), (6, 69), (6, 71), (0, 33), (6, 72), (6, 73), (6, 75), (0, 34), (6, 76), (6, 78), (6, 79), (6, 80), (1, 23), (6, 81), (9, 30), (6, 82), (6, 83), (6, 84), (6, 85), (6, 86), (9, 29), (6, 88), (6, 89)] (by decide +kernel) (by decide +kernel)
set_option maxRecDepth 20000 in
theorem wl_wsL_law0_r62 : GoodIn lw_tbl wsL_law0_r62 := goodIn_2 lwc_in _ [(1, 24), (6, 90), (6, 91), (6, 92), (6, 93), (6, 94), (6, 96), (6, 97), (1, 25), (6, 98), (6, 99), (6, 100), (1, 26), (6, 101), (6, 102), (6, 103), (6, 104), (6, 105), (6, 106), (6, 107), (6, 108), (6, 109), (6, 110), (6, 111)] (by decide +kernel) (by decide +kernel)
set_option maxRecDepth 20000 in
theorem wl_wsL_law0_r63 : GoodIn lw_tbl wsL_law0_r63 := goodIn_2 lwc_in _ [(6, 112), (6, 114), (6, 116), (6, 118), (6, 120), (0, 35), (6, 121), (6, 122), (3, 123), (8, 223), (8, 224), (8, 225), (8, 226), (8, 227), (8, 229), (0, 92), (8, 230), (8, 231), (8, 232), (8, 233), (3, 60), (3, 61), (3, 62), (3, 63)] (by decide +kernel) (by decide +kernel)
set_option maxRecDepth 20000 in
theorem wl_wsL_law0_r64 : GoodIn lw_tbl wsL_law0_r64 := goodIn_2 lwc_in _ [(2, 30), (8, 234), (8, 235), (8, 236), (8, 237), (6, 125), (6, 126), (6, 127), (6, 128), (6, 129), (6, 130), (6, 131), (6, 132), (6, 133), (6, 134), (6, 135), (2, 31), (1, 47), (8, 238), (8, 239), (9, 0), (9, 1), (6, 199), (9, 2)] (by decide +kernel) (by decide +kernel)
set_option maxRecDepth 20000 in
theorem wl_wsL_law0_r65 : GoodIn lw_tbl wsL_law0_r65 := goodIn_2 lwc_in _ [(9, 3), (9, 4), (6, 136), (6, 137), (6, 138), (6, 139), (6, 140), (6, 141), (6, 142), (2, 32), (2, 26), (9, 5), (9, 6), (9, 7), (9, 8), (3, 64), (3, 65), (3, 66), (3, 67), (1, 64), (3, 68), (3, 69), (3, 70), (3, 71)] (by decide +kernel) (by decide +kernel)
set_option maxRecDepth 20000 in
theorem wl_wsL_law0_r66 : GoodIn lw_tbl wsL_law0_r66 := goodIn_2 lwc_in _ [(7, 21), (7, 22), (7, 23), (7, 24), (3, 72), (3, 73), (3, 74), (3, 75), (9, 9), (9, 10), (9, 11), (9, 12), (6, 144), (6, 145), (6, 146), (6, 147), (6, 148), (6, 149), (6, 150), (9, 13), (9, 14), (9, 15), (9, 16), (6, 151)] (by decide +kernel) (by decide +kernel)
set_option maxRecDepth 20000 in
theorem wl_wsL_law0_r67 : GoodIn lw_tbl wsL_law0_r67 := goodIn_2 lwc_in _ [(6, 152), (6, 153), (6, 154), (6, 155), (6, 156), (6, 157), (6, 158), (9, 17), (9, 18), (9, 19), (9, 20), (9, 21), (3, 80), (3, 81), (3, 82), (3, 83), (3, 84), (3, 85), (3, 86), (3, 87), (3, 88), (3, 110), (3, 111), (3, 112)] (by decide +kernel) (by decide +kernel)
set_option maxRecDepth 20000 in
theorem wl_wsL_law0_r68 : GoodIn lw_tbl wsL_law0_r68 := goodIn_2 lwc_in _ [(3, 113), (3, 114), (3, 115), (3, 118), (3, 119), (3, 120), (3, 121), (3, 128), (3, 129), (3, 130), (3, 131), (3, 132), (9, 22), (9, 23), (9, 24), (9, 25)] (by decide +kernel) (by decide +kernel)
set_option maxRecDepth 20000 in
theorem wl_wsX110 : GoodIn lw_tbl wsX110 := goodIn_2 lwc_in _ [(2, 65), (2, 67), (2, 69), (2, 71), (2, 73), (2, 75), (2, 77), (2, 79), (2, 81), (2, 83), (2, 85)] (by decide +kernel) (by decide +kernel)
set_option maxRecDepth 20000 in
theorem wl_wsX120 : GoodIn lw_tbl wsX120 := goodIn_2 lwc_in _ [(6, 200), (6, 202), (6, 204), (6, 206), (6, 208), (6, 210), (6, 212), (6, 214), (6, 216), (6, 218), (6, 220), (6, 222), (6, 224), (6, 226), (6, 228), (6, 230), (6, 232), (6, 234), (6, 236), (6, 238), (7, 0), (7, 2), (7, 4), (7, 6), (7, 8), (7, 10), (7, 12), (7, 14), (7, 16), (7, 18)] (by decide +kernel) (by decide +kernel)
set_option maxRecDepth 20000 in
theorem wl_wsX80 : GoodIn lw_tbl wsX80 := goodIn_2 lwc_in _ [(1, 49), (1, 51)] (by decide +kernel) (by decide +kernel)
set_option maxRecDepth 20000 in
theorem wl_wsX50 : GoodIn lw_tbl wsX50 := goodIn_2 lwc_in _ [(1, 65), (1, 67), (1, 69)] (by decide +kernel) (by decide +kernel)
set_option maxRecDepth 20000 in
theorem wl_wsX70 : GoodIn lw_tbl wsX70 := goodIn_2 lwc_in _ [(1, 96), (1, 98), (1, 100), (1, 102), (1, 104), (1, 106), (1, 108), (1, 110), (1, 112), (1, 114), (1, 116), (1, 118)] (by decide +kernel) (by decide +kernel)
set_option maxRecDepth 20000 in
theorem wl_wsX40 : GoodIn lw_tbl wsX40 := goodIn_2 lwc_in _ [(1, 140), (1, 142), (1, 144), (1, 146), (1, 148), (1, 150), (1, 152), (1, 154)] (by decide +kernel) (by decide +kernel)
set_option maxRecDepth 20000 in
theorem wl_wsX60 : GoodIn lw_tbl wsX60 := goodIn_2 lwc_in _ [(1, 167), (1, 169), (1, 171)] (by decide +kernel) (by decide +kernel)
set_option maxRecDepth 20000 in
theorem wl_wsX10 : GoodIn lw_tbl wsX10 := goodIn_2 lwc_in _ [(1, 182)] (by decide +kernel) (by decide +kernel)
set_option maxRecDepth 20000 in
theorem wl_wsX20 : GoodIn lw_tbl wsX20 := goodIn_2 lwc_in _ [(1, 200), (1, 202), (1, 204), (1, 206), (1, 208)] (by decide +kernel) (by decide +kernel)
set_option maxRecDepth 20000 in
theorem wl_wsX30 : GoodIn lw_tbl wsX30 := goodIn_2 lwc_in _ [(1, 219)] (by decide +kernel) (by decide +kernel)
set_option maxRecDepth 20000 in
theorem wl_wsX00 : GoodIn lw_tbl wsX00 := goodIn_2 lwc_in _ [(1, 231), (1, 233), (1, 235)] (by decide +kernel) (by decide +kernel)
set_option maxRecDepth 20000 in
theorem wl_wsX100 : GoodIn lw_tbl wsX100 := goodIn_2 lwc_in _ [(2, 9), (2, 11), (2, 13)] (by decide +kernel) (by decide +kernel)
set_option maxRecDepth 20000 in
theorem wl_wsX90 : GoodIn lw_tbl wsX90 := goodIn_2 lwc_in _ [(2, 36), (2, 38), (2, 40), (2, 42), (2, 44), (2, 46), (2, 48), (2, 50)] (by decide +kernel) (by decide +kernel)
