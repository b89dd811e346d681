set_option maxRecDepth 20000 in
theorem wl_wsL_law0_r29 : GoodIn lw_tbl wsL_law0_r29 := goodIn_2 lwc_in _ [(5, 121), (3, 38), (5, 122), (5, 124), (0, 50), (5, 125), (5, 126), (5, 128), (0, 51), (5, 129), (5, 130), (5, 131), (5, 132), (5, 133), (5, 134), (1, 218), (5, 137), (5, 138), (5, 139), (5, 140), (3, 33), (5, 141), (5, 142), (5, 143)] (by decide +kernel) (by decide +kernel)
set_option maxRecDepth 20000 in
theorem wl_wsL_law0_r30 : GoodIn lw_tbl wsL_law0_r30 := goodIn_2 lwc_in _ [(5, 144), (2, 71), (5, 145), (5, 146), (5, 147), (5, 148), (5, 149), (5, 151), (0, 52), (5, 152), (5, 153), (5, 154), (5, 155), (5, 156), (5, 157), (5, 158), (5, 159), (5, 160), (5, 161), (5, 162), (5, 163), (5, 164), (5, 165), (5, 166)] (by decide +kernel) (by decide +kernel)
set_option maxRecDepth 20000 in
theorem wl_wsL_law0_r31 : GoodIn lw_tbl wsL_law0_r31 := goodIn_2 lwc_in _ [(5, 167), (5, 168), (2, 196), (5, 169), (1, 228), (1, 229), (1, 230), (2, 199), (2, 201), (2, 197), (1, 231), (1, 233), (0, 16), (1, 235), (2, 52), (1, 236), (2, 5), (2, 6), (2, 7), (2, 8), (2, 9), (2, 10), (2, 11), (2, 12)] (by decide +kernel) (by decide +kernel)
set_option maxRecDepth 20000 in
theorem wl_wsL_law0_r32 : GoodIn lw_tbl wsL_law0_r32 := goodIn_2 lwc_in _ [(2, 14), (0, 17), (2, 15), (2, 16), (2, 20), (2, 21), (2, 22), (2, 23), (1, 56), (1, 57), (2, 24), (2, 26), (0, 18), (2, 27), (5, 170), (5, 172), (0, 53), (5, 173), (5, 174), (5, 176), (0, 54), (5, 177), (5, 178), (5, 179)] (by decide +kernel) (by decide +kernel)
set_option maxRecDepth 20000 in
theorem wl_wsL_law0_r33 : GoodIn lw_tbl wsL_law0_r33 := goodIn_2 lwc_in _ [(5, 180), (5, 181), (5, 182), (2, 200), (2, 198), (5, 183), (5, 184), (5, 185), (5, 186), (2, 202), (5, 187), (5, 189), (0, 55), (5, 190), (5, 191), (5, 192), (5, 193), (5, 194), (2, 186), (5, 195), (1, 35), (1, 36), (1, 37), (1, 38)] (by decide +kernel) (by decide +kernel)
set_option maxRecDepth 20000 in
theorem wl_wsL_law0_r34 : GoodIn lw_tbl wsL_law0_r34 := goodIn_2 lwc_in _ [(1, 39), (1, 40), (1, 41), (1, 55), (1, 42), (1, 44), (0, 0), (1, 46), (1, 47), (1, 51), (1, 58), (1, 60), (0, 1), (1, 61), (1, 62), (1, 66), (1, 68), (0, 2), (1, 69), (1, 70), (1, 72), (0, 3), (1, 73), (1, 74)] (by decide +kernel) (by decide +kernel)
set_option maxRecDepth 20000 in
theorem wl_wsL_law0_r35 : GoodIn lw_tbl wsL_law0_r35 := goodIn_2 lwc_in _ [(1, 76), (0, 4), (1, 77), (5, 196), (5, 197), (5, 198), (5, 199), (5, 200), (5, 201), (5, 203), (0, 56), (5, 204), (5, 205), (5, 206), (5, 207), (5, 208), (5, 210), (5, 211), (5, 212), (5, 213), (5, 214), (5, 215), (5, 216), (5, 217)] (by decide +kernel) (by decide +kernel)
set_option maxRecDepth 20000 in
theorem wl_wsL_law0_r36 : GoodIn lw_tbl wsL_law0_r36 := goodIn_2 lwc_in _ [(5, 218), (1, 83), (1, 84), (1, 85), (1, 86), (1, 87), (1, 88), (1, 96), (1, 89), (1, 90), (1, 91), (1, 92), (1, 93), (1, 94), (1, 95), (5, 219), (5, 220), (5, 221), (5, 222), (2, 221), (5, 223), (5, 224), (5, 225), (5, 226)] (by decide +kernel) (by decide +kernel)
set_option maxRecDepth 20000 in
theorem wl_wsL_law0_r37 : GoodIn lw_tbl wsL_law0_r37 := goodIn_2 lwc_in _ [(5, 227), (1, 98), (1, 99), (1, 100), (1, 101), (1, 107), (1, 109), (0, 5), (1, 111), (5, 228), (5, 230), (0, 57), (5, 231), (5, 232), (6, 38), (5, 233), (5, 234), (5, 235), (5, 236), (5, 237), (5, 239), (0, 58), (6, 0), (6, 1)] (by decide +kernel) (by decide +kernel)
set_option maxRecDepth 20000 in
theorem wl_wsL_law0_r38 : GoodIn lw_tbl wsL_law0_r38 := goodIn_2 lwc_in _ [(6, 2), (6, 3), (6, 4), (6, 5), (6, 7), (0, 59), (6, 8), (6, 10), (6, 11), (6, 12), (6, 13), (6, 14), (6, 15), (6, 16), (6, 17), (6, 18), (6, 19), (6, 20), (6, 21), (1, 18), (6, 22), (6, 23), (6, 24), (6, 25)] (by decide +kernel) (by decide +kernel)
set_option maxRecDepth 20000 in
theorem wl_wsL_law0_r39 : GoodIn lw_tbl wsL_law0_r39 := goodIn_2 lwc_in _ [(6, 26), (6, 28), (6, 29), (6, 30), (6, 31), (3, 10), (6, 32), (6, 33), (6, 34), (6, 35), (6, 36), (6, 37), (6, 39), (6, 40), (6, 41), (6, 42), (6, 43), (6, 44), (6, 45), (6, 46), (6, 47), (3, 11), (6, 50), (6, 51)] (by decide +kernel) (by decide +kernel)
set_option maxRecDepth 20000 in
theorem wl_wsL_law0_r40 : GoodIn lw_tbl wsL_law0_r40 := goodIn_2 lwc_in _ [(6, 52), (6, 53), (6, 54), (6, 55), (6, 56), (6, 57), (6, 58), (6, 59), (6, 60), (6, 61), (6, 62), (6, 63), (6, 64), (6, 65), (6, 66), (6, 67), (6, 68), (6, 69), (6, 70), (3, 9), (6, 71), (6, 73), (6, 74), (6, 75)] (by decide +kernel) (by decide +kernel)
set_option maxRecDepth 20000 in
theorem wl_wsL_law0_r41 : GoodIn lw_tbl wsL_law0_r41 := goodIn_2 lwc_in _ [(6, 76), (6, 77), (6, 78), (6, 79), (6, 80), (6, 81), (6, 82), (6, 83), (6, 84), (6, 85), (6, 87), (0, 60), (6, 88), (6, 89), (6, 90), (6, 91), (6, 92), (6, 93), (6, 94), (6, 95), (6, 97), (0, 61), (6, 98), (6, 99)] (by decide +kernel) (by decide +kernel)
set_option maxRecDepth 20000 in
theorem wl_wsL_law0_r42 : GoodIn lw_tbl wsL_law0_r42 := goodIn_2 lwc_in _ [(6, 100), (6, 101), (6, 102), (6, 103), (6, 104), (6, 105), (6, 106), (6, 107), (6, 108), (6, 109), (6, 110), (6, 111), (6, 112), (6, 113), (6, 114), (6, 115), (6, 116), (6, 117), (6, 118), (1, 26), (1, 27), (1, 28), (1, 29), (1, 30)] (by decide +kernel) (by decide +kernel)
set_option maxRecDepth 20000 in
theorem wl_wsL_law0_r43 : GoodIn lw_tbl wsL_law0_r43 := goodIn_2 lwc_in _ [(1, 31), (1, 32), (1, 33), (1, 34), (1, 78), (1, 79), (1, 80), (1, 81), (1, 82), (1, 97), (1, 213), (1, 214), (1, 215), (1, 216), (1, 223), (1, 224), (1, 225), (1, 226), (1, 227)] (by decide +kernel) (by decide +kernel)
set_option maxRecDepth 20000 in
theorem wl_wsL0 : GoodIn lw_tbl wsL0 := goodIn_2 lwc_in _ [(3, 108), (3, 110), (3, 112), (3, 114), (3, 116), (3, 118), (3, 120), (3, 122), (3, 124), (3, 126), (3, 128), (3, 130), (3, 132), (3, 134), (3, 136), (3, 138), (3, 140)] (by decide +kernel) (by decide +kernel)
set_option maxRecDepth 20000 in
theorem wl_wsX110 : GoodIn lw_tbl wsX110 := goodIn_2 lwc_in _ [(3, 68), (3, 70), (3, 72), (3, 74), (3, 76), (3, 78), (3, 80), (3, 82), (3, 84), (3, 86), (3, 88)] (by decide +kernel) (by decide +kernel)
set_option maxRecDepth 20000 in
theorem wl_wsX80 : GoodIn lw_tbl wsX80 := goodIn_2 lwc_in _ [(2, 56), (2, 58)] (by decide +kernel) (by decide +kernel)
set_option maxRecDepth 20000 in
theorem wl_wsX50 : GoodIn lw_tbl wsX50 := goodIn_2 lwc_in _ [(2, 72), (2, 74), (2, 76)] (by decide +kernel) (by decide +kernel)
set_option maxRecDepth 20000 in
theorem wl_wsX70 : GoodIn lw_tbl wsX70 := goodIn_2 lwc_in _ [(2, 103), (2, 105), (2, 107), (2, 109), (2, 111), (2, 113), (2, 115), (2, 117), (2, 119), (2, 121), (2, 123), (2, 125)] (by decide +kernel) (by decide +kernel)
set_option maxRecDepth 20000 in
theorem wl_wsX40 : GoodIn lw_tbl wsX40 := goodIn_2 lwc_in _ [(2, 146), (2, 148), (2, 150), (2, 152), (2, 154), (2, 156), (2, 158), (2, 160)] (by decide +kernel) (by decide +kernel)
set_option maxRecDepth 20000 in
theorem wl_wsX60 : GoodIn lw_tbl wsX60 := goodIn_2 lwc_in _ [(2, 173), (2, 175), (2, 177)] (by decide +kernel) (by decide +kernel)
set_option maxRecDepth 20000 in
theorem wl_wsX10 : GoodIn lw_tbl wsX10 := goodIn_2 lwc_in _ [(2, 187)] (by decide +kernel) (by decide +kernel)
set_option maxRecDepth 20000 in
theorem wl_wsX20 : GoodIn lw_tbl wsX20 := goodIn_2 lwc_in _ [(2, 204), (2, 206), (2, 208), (2, 210), (2, 212)] (by decide +kernel) (by decide +kernel)
set_option maxRecDepth 20000 in
theorem wl_wsX30 : GoodIn lw_tbl wsX30 := goodIn_2 lwc_in _ [(2, 222)] (by decide +kernel) (by decide +kernel)
set_option maxRecDepth 20000 in
theorem wl_wsX00 : GoodIn lw_tbl wsX00 := goodIn_2 lwc_in _ [(2, 234), (2, 236), (2, 238)] (by decide +kernel) (by decide +kernel)
set_option maxRecDepth 20000 in
theorem wl_wsX100 : GoodIn lw_tbl wsX100 := goodIn_2 lwc_in _ [(3, 12), (3, 14), (3, 16)] (by decide +kernel) (by decide +kernel)
set_option maxRecDepth 20000 in
theorem wl_wsX90 : GoodIn lw_tbl wsX90 := goodIn_2 lwc_in _ [(3, 39), (3, 41), (3, 43), (3, 45), (3, 47), (3, 49), (3, 51), (3, 53)] (by decide +kernel) (by decide +kernel)
