set_option maxRecDepth 20000 in
theorem wl_wsL_law0_r57 : GoodIn lw_tbl wsL_law0_r57 := goodIn_2 lwc_in _ [(8, 199), (8, 200), (8, 201), (8, 203), (0, 92), (8, 204), (6, 17), (6, 18), (6, 19), (6, 20), (6, 21), (6, 22), (6, 23), (8, 205), (8, 206), (8, 207), (8, 208), (6, 24), (6, 25), (6, 26), (6, 27), (6, 28), (6, 29), (6, 30)] (by decide +kernel) (by decide +kernel)
set_option maxRecDepth 20000 in
theorem wl_wsL_law0_r58 : GoodIn lw_tbl wsL_law0_r58 := goodIn_2 lwc_in _ [(8, 209), (8, 210), (8, 211), (8, 212), (6, 31), (6, 32), (6, 33), (6, 34), (6, 35), (6, 36), (6, 37), (6, 38), (6, 39), (6, 40), (6, 41), (8, 213), (8, 214), (8, 215), (8, 216), (6, 42), (6, 43), (6, 44), (6, 45), (6, 46)] (by decide +kernel) (by decide +kernel)
set_option maxRecDepth 20000 in
theorem wl_wsL_law0_r59 : GoodIn lw_tbl wsL_law0_r59 := goodIn_2 lwc_in _ [(6, 47), (6, 48), (2, 28), (6, 49), (6, 50), (6, 51), (6, 52), (6, 54), (6, 55), (6, 56), (6, 57), (2, 27), (8, 217), (8, 218), (8, 219), (8, 220), (6, 205), (8, 221), (8, 222), (8, 223), (8, 224), (8, 226), (0, 93), (8, 227)] (by decide +kernel) (by decide +kernel)
set_option maxRecDepth 20000 in
theorem wl_wsL_law0_r60 : GoodIn lw_tbl wsL_law0_r60 := goodIn_2 lwc_in _ [(3, 61), (3, 62), (3, 63), (3, 64), (3, 65), (3, 66), (3, 67), (3, 68), (8, 228), (8, 229), (8, 230), (8, 231), (6, 58), (6, 59), (6, 60), (6, 61), (6, 62), (6, 63), (6, 64), (2, 24), (6, 65), (6, 66), (6, 67), (6, 68)] (by decide +kernel) (by decide +kernel)
set_option maxRecDepth 20000 in
theorem wl_wsL_law0_r61 : GoodIn lw_tbl wsL_law0_r61 := goodIn_2 lwc_in _ [(2, 34), (6, 69), (6, 71), (0, 33), (6, 72), (6, 73), (6, 75), (0, 34), (6, 76), (2, 35), (6, 77), (6, 78), (6, 80), (0, 35), (6, 81), (6, 82), (6, 84), (0, 36), (6, 85), (6, 87), (6, 88), (6, 89), (1, 23), (6, 90)] (by decide +kernel) (by decide +kernel)
set_option maxRecDepth 20000 in
theorem wl_wsL_law0_r62 : GoodIn lw_tbl wsL_law0_r62 := goodIn_2 lwc_in _ [(9, 39), (6, 91), (6, 92), (6, 93), (6, 94), (6, 95), (9, 38), (6, 97), (6, 98), (1, 24), (6, 99), (6, 100), (6, 101), (6, 102), (6, 103), (6, 105), (6, 106), (1, 25), (6, 107), (6, 108), (6, 109), (1, 26), (6, 110), (6, 111)] (by decide +kernel) (by decide +kernel)
set_option maxRecDepth 20000 in
theorem wl_wsL_law0_r63 : GoodIn lw_tbl wsL_law0_r63 := goodIn_2 lwc_in _ [(6, 112), (6, 113), (6, 114), (6, 115), (6, 116), (6, 117), (6, 118), (6, 119), (6, 120), (6, 121), (6, 123), (6, 125), (6, 127), (6, 129), (0, 37), (6, 130), (6, 131), (3, 132), (8, 232), (8, 233), (8, 234), (8, 235), (8, 236), (8, 238)] (by decide +kernel) (by decide +kernel)
set_option maxRecDepth 20000 in
theorem wl_wsL_law0_r64 : GoodIn lw_tbl wsL_law0_r64 := goodIn_2 lwc_in _ [(0, 94), (8, 239), (9, 0), (9, 1), (9, 2), (3, 69), (3, 70), (3, 71), (3, 72), (2, 30), (9, 3), (9, 4), (9, 5), (9, 6), (6, 134), (6, 135), (6, 136), (6, 137), (6, 138), (6, 139), (6, 140), (6, 141), (6, 142), (6, 143)] (by decide +kernel) (by decide +kernel)
set_option maxRecDepth 20000 in
theorem wl_wsL_law0_r65 : GoodIn lw_tbl wsL_law0_r65 := goodIn_2 lwc_in _ [(6, 144), (2, 31), (1, 47), (9, 7), (9, 8), (9, 9), (9, 10), (6, 208), (9, 11), (9, 12), (9, 13), (6, 145), (6, 146), (6, 147), (6, 148), (6, 149), (6, 150), (6, 151), (2, 32), (2, 26), (9, 14), (9, 15), (9, 16), (9, 17)] (by decide +kernel) (by decide +kernel)
set_option maxRecDepth 20000 in
theorem wl_wsL_law0_r66 : GoodIn lw_tbl wsL_law0_r66 := goodIn_2 lwc_in _ [(3, 73), (3, 74), (3, 75), (3, 76), (1, 64), (3, 77), (3, 78), (3, 79), (3, 80), (7, 30), (7, 31), (7, 32), (7, 33), (3, 81), (3, 82), (3, 83), (3, 84), (9, 18), (9, 19), (9, 20), (9, 21), (6, 153), (6, 154), (6, 155)] (by decide +kernel) (by decide +kernel)
set_option maxRecDepth 20000 in
theorem wl_wsL_law0_r67 : GoodIn lw_tbl wsL_law0_r67 := goodIn_2 lwc_in _ [(6, 156), (6, 157), (6, 158), (6, 159), (9, 22), (9, 23), (9, 24), (9, 25), (6, 160), (6, 161), (6, 162), (6, 163), (6, 164), (6, 165), (6, 166), (6, 167), (9, 26), (9, 27), (9, 28), (9, 29), (9, 30), (3, 89), (3, 90), (3, 91)] (by decide +kernel) (by decide +kernel)
set_option maxRecDepth 20000 in
theorem wl_wsL_law0_r68 : GoodIn lw_tbl wsL_law0_r68 := goodIn_2 lwc_in _ [(3, 92), (3, 93), (3, 94), (3, 95), (3, 96), (3, 97), (3, 119), (3, 120), (3, 121), (3, 122), (3, 123), (3, 124), (3, 127), (3, 128), (3, 129), (3, 130), (3, 137), (3, 138), (3, 139), (3, 140), (3, 141), (9, 31), (9, 32), (9, 33)] (by decide +kernel) (by decide +kernel)
set_option maxRecDepth 20000 in
theorem wl_wsL_law0_r69 : GoodIn lw_tbl wsL_law0_r69 := goodIn_2 lwc_in _ [(9, 34)] (by decide +kernel) (by decide +kernel)
set_option maxRecDepth 20000 in
theorem wl_wsX110 : GoodIn lw_tbl wsX110 := goodIn_2 lwc_in _ [(2, 65), (2, 67), (2, 69), (2, 71), (2, 73), (2, 75), (2, 77), (2, 79), (2, 81), (2, 83), (2, 85)] (by decide +kernel) (by decide +kernel)
set_option maxRecDepth 20000 in
theorem wl_wsX120 : GoodIn lw_tbl wsX120 := goodIn_2 lwc_in _ [(6, 209), (6, 211), (6, 213), (6, 215), (6, 217), (6, 219), (6, 221), (6, 223), (6, 225), (6, 227), (6, 229), (6, 231), (6, 233), (6, 235), (6, 237), (6, 239), (7, 1), (7, 3), (7, 5), (7, 7), (7, 9), (7, 11), (7, 13), (7, 15), (7, 17), (7, 19), (7, 21), (7, 23), (7, 25), (7, 27)] (by decide +kernel) (by decide +kernel)
set_option maxRecDepth 20000 in
theorem wl_wsX80 : GoodIn lw_tbl wsX80 := goodIn_2 lwc_in _ [(1, 49), (1, 51)] (by decide +kernel) (by decide +kernel)
set_option maxRecDepth 20000 in
theorem wl_wsX50 : GoodIn lw_tbl wsX50 := goodIn_2 lwc_in _ [(1, 65), (1, 67), (1, 69)] (by decide +kernel) (by decide +kernel)
set_option maxRecDepth 20000 in
theorem wl_wsX70 : GoodIn lw_tbl wsX70 := goodIn_2 lwc_in _ [(1, 96), (1, 98), (1, 100), (1, 102), (1, 104), (1, 106), (1, 108), (1, 110), (1, 112), (1, 114), (1, 116), (1, 118)] (by decide +kernel) (by decide +kernel)
set_option maxRecDepth 20000 in
theorem wl_wsX40 : GoodIn lw_tbl wsX40 := goodIn_2 lwc_in _ [(1, 140), (1, 142), (1, 144), (1, 146), (1, 148), (1, 150), (1, 152), (1, 154)] (by decide +kernel) (by decide +kernel)
set_option maxRecDepth 20000 in
theorem wl_wsX60 : GoodIn lw_tbl wsX60 := goodIn_2 lwc_in _ [(1, 167), (1, 169), (1, 171)] (by decide +kernel) (by decide +kernel)
set_option maxRecDepth 20000 in
theorem wl_wsX10 : GoodIn lw_tbl wsX10 := goodIn_2 lwc_in _ [(1, 182)] (by decide +kernel) (by decide +kernel)
set_option maxRecDepth 20000 in
theorem wl_wsX20 : GoodIn lw_tbl wsX20 := goodIn_2 lwc_in _ [(1, 200), (1, 202), (1, 204), (1, 206), (1, 208)] (by decide +kernel) (by decide +kernel)
set_option maxRecDepth 20000 in
theorem wl_wsX30 : GoodIn lw_tbl wsX30 := goodIn_2 lwc_in _ [(1, 219)] (by decide +kernel) (by decide +kernel)
set_option maxRecDepth 20000 in
theorem wl_wsX00 : GoodIn lw_tbl wsX00 := goodIn_2 lwc_in _ [(1, 231), (1, 233), (1, 235)] (by decide +kernel) (by decide +kernel)
set_option maxRecDepth 20000 in
theorem wl_wsX100 : GoodIn lw_tbl wsX100 := goodIn_2 lwc_in _ [(2, 9), (2, 11), (2, 13)] (by decide +kernel) (by decide +kernel)
set_option maxRecDepth 20000 in
theorem wl_wsX90 : GoodIn lw_tbl wsX90 := goodIn_2 lwc_in _ [(2, 36), (2, 38), (2, 40), (2, 42), (2, 44), (2, 46), (2, 48), (2, 50)] (by decide +kernel) (by decide +kernel)
