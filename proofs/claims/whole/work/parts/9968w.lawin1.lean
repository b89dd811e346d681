set_option maxRecDepth 20000 in
theorem wl_wsL_law0_r29 : GoodIn lw_tbl wsL_law0_r29 := goodIn_2 lwc_in _ [(3, 157), (7, 200), (7, 201), (7, 202), (7, 203), (7, 204), (7, 206), (0, 64), (7, 207), (7, 208), (7, 210), (0, 65), (7, 211), (7, 212), (7, 214), (0, 66), (7, 215), (7, 216), (7, 218), (0, 67), (7, 219), (4, 199), (4, 200), (4, 201)] (by decide +kernel) (by decide +kernel)
set_option maxRecDepth 20000 in
theorem wl_wsL_law0_r30 : GoodIn lw_tbl wsL_law0_r30 := goodIn_2 lwc_in _ [(4, 202), (4, 203), (4, 204), (4, 205), (3, 126), (4, 206), (4, 207), (4, 208), (4, 209), (4, 210), (4, 211), (4, 212), (4, 213), (7, 220), (7, 221), (7, 222), (7, 223), (7, 224), (7, 226), (0, 68), (7, 227), (7, 228), (7, 230), (0, 69)] (by decide +kernel) (by decide +kernel)
set_option maxRecDepth 20000 in
theorem wl_wsL_law0_r31 : GoodIn lw_tbl wsL_law0_r31 := goodIn_2 lwc_in _ [(7, 231), (4, 214), (4, 215), (4, 216), (4, 217), (4, 218), (4, 219), (4, 220), (3, 125), (4, 221), (4, 222), (7, 232), (7, 233), (7, 234), (7, 235), (7, 236), (7, 238), (0, 70), (7, 239), (4, 223), (4, 224), (4, 225), (4, 226), (4, 227)] (by decide +kernel) (by decide +kernel)
set_option maxRecDepth 20000 in
theorem wl_wsL_law0_r32 : GoodIn lw_tbl wsL_law0_r32 := goodIn_2 lwc_in _ [(4, 228), (4, 229), (4, 231), (4, 232), (4, 233), (4, 234), (4, 235), (3, 150), (3, 151), (3, 152), (3, 154), (4, 236), (4, 237), (4, 238), (4, 239), (5, 0), (5, 1), (5, 2), (5, 3), (5, 4), (5, 5), (5, 6), (5, 7), (5, 8)] (by decide +kernel) (by decide +kernel)
set_option maxRecDepth 20000 in
theorem wl_wsL_law0_r33 : GoodIn lw_tbl wsL_law0_r33 := goodIn_2 lwc_in _ [(5, 9), (5, 10), (5, 11), (5, 12), (5, 13), (8, 0), (8, 1), (8, 2), (8, 3), (8, 4), (8, 6), (0, 71), (8, 7), (8, 8), (8, 10), (0, 72), (8, 11), (8, 12), (8, 14), (0, 73), (8, 15), (5, 14), (5, 15), (5, 16)] (by decide +kernel) (by decide +kernel)
set_option maxRecDepth 20000 in
theorem wl_wsL_law0_r34 : GoodIn lw_tbl wsL_law0_r34 := goodIn_2 lwc_in _ [(5, 17), (5, 18), (5, 19), (5, 20), (5, 21), (8, 16), (8, 17), (8, 18), (8, 19), (5, 22), (5, 23), (5, 24), (5, 25), (5, 26), (5, 27), (5, 28), (8, 20), (8, 21), (8, 22), (8, 23), (5, 29), (5, 30), (5, 31), (5, 32)] (by decide +kernel) (by decide +kernel)
set_option maxRecDepth 20000 in
theorem wl_wsL_law0_r35 : GoodIn lw_tbl wsL_law0_r35 := goodIn_2 lwc_in _ [(5, 33), (5, 34), (5, 35), (5, 36), (5, 37), (8, 24), (8, 25), (8, 26), (8, 27), (5, 38), (5, 39), (5, 40), (5, 41), (5, 42), (5, 43), (5, 44), (1, 164), (5, 45), (5, 46), (5, 47), (5, 48), (1, 46), (1, 166), (5, 50)] (by decide +kernel) (by decide +kernel)
set_option maxRecDepth 20000 in
theorem wl_wsL_law0_r36 : GoodIn lw_tbl wsL_law0_r36 := goodIn_2 lwc_in _ [(1, 80), (5, 49), (5, 51), (5, 53), (0, 27), (5, 54), (5, 55), (5, 56), (5, 58), (0, 28), (5, 59), (5, 60), (5, 62), (0, 29), (5, 63), (5, 64), (3, 133), (3, 134), (3, 135), (3, 136), (8, 28), (8, 29), (8, 30), (8, 31)] (by decide +kernel) (by decide +kernel)
set_option maxRecDepth 20000 in
theorem wl_wsL_law0_r37 : GoodIn lw_tbl wsL_law0_r37 := goodIn_2 lwc_in _ [(3, 0), (3, 1), (3, 2), (3, 3), (3, 4), (3, 5), (3, 6), (3, 7), (3, 14), (3, 15), (3, 16), (3, 8), (3, 10), (0, 11), (3, 11), (3, 12), (3, 13), (8, 32), (8, 33), (8, 34), (8, 35), (8, 36), (8, 38), (0, 74)] (by decide +kernel) (by decide +kernel)
set_option maxRecDepth 20000 in
theorem wl_wsL_law0_r38 : GoodIn lw_tbl wsL_law0_r38 := goodIn_2 lwc_in _ [(8, 39), (5, 65), (5, 66), (5, 67), (5, 68), (5, 69), (5, 70), (5, 71), (1, 181), (5, 72), (3, 98), (3, 99), (3, 100), (3, 101), (3, 102), (3, 104), (0, 13), (3, 105), (3, 106), (3, 107), (3, 109), (0, 14), (3, 110), (3, 111)] (by decide +kernel) (by decide +kernel)
set_option maxRecDepth 20000 in
theorem wl_wsL_law0_r39 : GoodIn lw_tbl wsL_law0_r39 := goodIn_2 lwc_in _ [(3, 113), (0, 15), (3, 114), (3, 115), (3, 117), (0, 16), (3, 118), (8, 40), (8, 41), (8, 42), (8, 43), (8, 44), (8, 46), (0, 75), (8, 47), (8, 48), (8, 50), (0, 76), (8, 51), (8, 52), (8, 54), (0, 77), (8, 55), (5, 73)] (by decide +kernel) (by decide +kernel)
set_option maxRecDepth 20000 in
theorem wl_wsL_law0_r40 : GoodIn lw_tbl wsL_law0_r40 := goodIn_2 lwc_in _ [(5, 74), (5, 75), (5, 76), (5, 77), (5, 78), (5, 79), (5, 80), (5, 81), (5, 82), (5, 83), (5, 84), (5, 85), (5, 86), (5, 87), (8, 56), (8, 57), (8, 58), (8, 59), (8, 60), (8, 62), (0, 78), (8, 63), (5, 88), (5, 89)] (by decide +kernel) (by decide +kernel)
set_option maxRecDepth 20000 in
theorem wl_wsL_law0_r41 : GoodIn lw_tbl wsL_law0_r41 := goodIn_2 lwc_in _ [(5, 90), (5, 91), (5, 92), (5, 93), (5, 94), (1, 196), (1, 194), (5, 95), (3, 142), (3, 143), (3, 144), (1, 195), (1, 197), (1, 193), (3, 145), (3, 147), (0, 17), (3, 148), (1, 45), (3, 149), (3, 158), (3, 159), (3, 160), (3, 161)] (by decide +kernel) (by decide +kernel)
set_option maxRecDepth 20000 in
theorem wl_wsL_law0_r42 : GoodIn lw_tbl wsL_law0_r42 := goodIn_2 lwc_in _ [(3, 162), (3, 163), (3, 164), (3, 165), (3, 167), (0, 18), (3, 168), (3, 169), (3, 173), (3, 174), (3, 175), (3, 176), (3, 177), (3, 179), (0, 19), (3, 180), (8, 64), (8, 65), (8, 66), (8, 67), (6, 194), (6, 195), (8, 68), (8, 70)] (by decide +kernel) (by decide +kernel)
set_option maxRecDepth 20000 in
theorem wl_wsL_law0_r43 : GoodIn lw_tbl wsL_law0_r43 := goodIn_2 lwc_in _ [(0, 79), (8, 71), (8, 72), (8, 74), (0, 80), (8, 75), (8, 76), (8, 78), (0, 81), (8, 79), (5, 96), (5, 97), (5, 98), (5, 99), (5, 100), (5, 101), (5, 102), (1, 192), (8, 80), (8, 81), (8, 82), (8, 83), (5, 103), (5, 104)] (by decide +kernel) (by decide +kernel)
set_option maxRecDepth 20000 in
theorem wl_wsL_law0_r44 : GoodIn lw_tbl wsL_law0_r44 := goodIn_2 lwc_in _ [(5, 105), (5, 106), (5, 107), (5, 108), (5, 109), (1, 198), (8, 84), (8, 85), (8, 86), (8, 87), (5, 110), (5, 111), (5, 112), (5, 113), (5, 114), (5, 115), (5, 116), (5, 118), (5, 119), (5, 120), (5, 121), (8, 88), (8, 89), (8, 90)] (by decide +kernel) (by decide +kernel)
set_option maxRecDepth 20000 in
theorem wl_wsL_law0_r45 : GoodIn lw_tbl wsL_law0_r45 := goodIn_2 lwc_in _ [(8, 91), (8, 92), (8, 94), (0, 82), (8, 95), (3, 17), (3, 18), (3, 19), (3, 20), (3, 21), (3, 22), (3, 23), (3, 24), (3, 25), (3, 26), (3, 27), (3, 35), (3, 28), (3, 29), (3, 30), (3, 31), (3, 32), (3, 33), (3, 34)] (by decide +kernel) (by decide +kernel)
set_option maxRecDepth 20000 in
theorem wl_wsL_law0_r46 : GoodIn lw_tbl wsL_law0_r46 := goodIn_2 lwc_in _ [(8, 96), (8, 97), (8, 98), (8, 99), (8, 100), (8, 102), (0, 83), (8, 103), (8, 104), (8, 106), (0, 84), (8, 107), (8, 108), (8, 110), (0, 85), (8, 111), (5, 122), (5, 123), (5, 124), (5, 125), (5, 126), (5, 127), (5, 128), (1, 218)] (by decide +kernel) (by decide +kernel)
set_option maxRecDepth 20000 in
theorem wl_wsL_law0_r47 : GoodIn lw_tbl wsL_law0_r47 := goodIn_2 lwc_in _ [(8, 112), (8, 113), (8, 114), (8, 115), (3, 36), (3, 37), (3, 38), (3, 39), (3, 40), (3, 41), (3, 42), (3, 43), (3, 44), (3, 45), (3, 47), (0, 12), (3, 48), (8, 116), (8, 117), (8, 118), (8, 119), (5, 129), (5, 130), (5, 131)] (by decide +kernel) (by decide +kernel)
set_option maxRecDepth 20000 in
theorem wl_wsL_law0_r48 : GoodIn lw_tbl wsL_law0_r48 := goodIn_2 lwc_in _ [(5, 132), (5, 133), (5, 134), (5, 135), (5, 136), (5, 137), (5, 138), (5, 139), (5, 140), (5, 141), (5, 142), (5, 143), (8, 120), (8, 121), (8, 122), (8, 123), (8, 124), (8, 126), (0, 86), (8, 127), (5, 144), (5, 145), (5, 146), (5, 147)] (by decide +kernel) (by decide +kernel)
set_option maxRecDepth 20000 in
theorem wl_wsL_law0_r49 : GoodIn lw_tbl wsL_law0_r49 := goodIn_2 lwc_in _ [(5, 148), (5, 149), (5, 150), (8, 128), (8, 129), (8, 130), (8, 131), (5, 151), (5, 152), (5, 153), (5, 154), (5, 155), (5, 156), (5, 157), (8, 132), (8, 133), (8, 134), (8, 135), (5, 158), (5, 159), (5, 160), (5, 161), (5, 162), (5, 163)] (by decide +kernel) (by decide +kernel)
set_option maxRecDepth 20000 in
theorem wl_wsL_law0_r50 : GoodIn lw_tbl wsL_law0_r50 := goodIn_2 lwc_in _ [(5, 164), (5, 165), (5, 167), (0, 30), (5, 168), (5, 169), (5, 170), (5, 171), (5, 172), (5, 173), (5, 175), (0, 31), (5, 176), (5, 178), (5, 179), (5, 180), (5, 181), (5, 182), (5, 183), (5, 184), (5, 185), (5, 186), (5, 187), (5, 188)] (by decide +kernel) (by decide +kernel)
set_option maxRecDepth 20000 in
theorem wl_wsL_law0_r51 : GoodIn lw_tbl wsL_law0_r51 := goodIn_2 lwc_in _ [(5, 189), (1, 20), (5, 190), (5, 192), (5, 193), (5, 194), (5, 195), (2, 7), (5, 196), (5, 197), (5, 198), (5, 199), (5, 200), (5, 201), (8, 136), (8, 137), (8, 138), (8, 139), (6, 201), (8, 140), (8, 142), (0, 87), (8, 143), (8, 144)] (by decide +kernel) (by decide +kernel)
set_option maxRecDepth 20000 in
theorem wl_wsL_law0_r52 : GoodIn lw_tbl wsL_law0_r52 := goodIn_2 lwc_in _ [(8, 145), (8, 146), (8, 147), (8, 148), (8, 149), (8, 150), (8, 151), (8, 152), (8, 153), (8, 154), (8, 155), (8, 156), (8, 157), (5, 202), (5, 203), (5, 204), (5, 205), (5, 206), (5, 207), (5, 208), (2, 8), (5, 211), (5, 212), (5, 213)] (by decide +kernel) (by decide +kernel)
set_option maxRecDepth 20000 in
theorem wl_wsL_law0_r53 : GoodIn lw_tbl wsL_law0_r53 := goodIn_2 lwc_in _ [(5, 214), (5, 215), (8, 158), (8, 159), (8, 160), (8, 161), (3, 49), (3, 50), (3, 51), (3, 52), (3, 53), (3, 54), (3, 55), (3, 56), (3, 57), (3, 58), (3, 59), (3, 60), (8, 162), (8, 163), (8, 164), (8, 165), (8, 166), (8, 168)] (by decide +kernel) (by decide +kernel)
set_option maxRecDepth 20000 in
theorem wl_wsL_law0_r54 : GoodIn lw_tbl wsL_law0_r54 := goodIn_2 lwc_in _ [(0, 88), (8, 169), (8, 170), (8, 172), (0, 89), (8, 173), (8, 174), (8, 176), (0, 90), (8, 177), (8, 178), (8, 180), (0, 91), (8, 181), (5, 216), (5, 217), (5, 218), (5, 219), (5, 220), (5, 221), (5, 222), (2, 6), (5, 223), (5, 224)] (by decide +kernel) (by decide +kernel)
set_option maxRecDepth 20000 in
theorem wl_wsL_law0_r55 : GoodIn lw_tbl wsL_law0_r55 := goodIn_2 lwc_in _ [(8, 182), (8, 183), (8, 184), (8, 185), (8, 186), (8, 187), (8, 188), (5, 226), (5, 227), (5, 228), (5, 229), (5, 230), (5, 231), (5, 232), (8, 189), (8, 190), (8, 191), (8, 192), (5, 233), (5, 234), (5, 235), (5, 236), (5, 237), (5, 238)] (by decide +kernel) (by decide +kernel)
set_option maxRecDepth 20000 in
theorem wl_wsL_law0_r56 : GoodIn lw_tbl wsL_law0_r56 := goodIn_2 lwc_in _ [(5, 239), (6, 0), (8, 193), (8, 194), (8, 195), (8, 196), (6, 1), (6, 2), (6, 3), (6, 4), (6, 5), (6, 6), (6, 7), (6, 8), (6, 9), (6, 10), (6, 11), (6, 12), (6, 14), (0, 32), (6, 15), (6, 16), (8, 197), (8, 198)] (by decide +kernel) (by decide +kernel)
