set_option maxRecDepth 20000 in
theorem wl_wsL_law0_r28 : GoodIn lw_tbl wsL_law0_r28 := goodIn_2 lwc_in _ [(4, 183), (4, 184), (4, 186), (0, 24), (4, 187), (4, 188), (4, 189), (3, 146), (3, 147), (3, 148), (7, 191), (7, 192), (7, 193), (7, 194), (7, 195), (7, 197), (0, 62), (7, 198), (7, 199), (7, 201), (0, 63), (7, 202), (7, 203), (7, 205)] (by decide +kernel) (by decide +kernel)
set_option maxRecDepth 20000 in
theorem wl_wsL_law0_r29 : GoodIn lw_tbl wsL_law0_r29 := goodIn_2 lwc_in _ [(0, 64), (7, 206), (7, 207), (7, 209), (0, 65), (7, 210), (4, 190), (4, 191), (4, 192), (4, 193), (4, 194), (4, 195), (4, 196), (3, 117), (4, 197), (4, 198), (4, 199), (4, 200), (4, 201), (4, 202), (4, 203), (4, 204), (7, 211), (7, 212)] (by decide +kernel) (by decide +kernel)
set_option maxRecDepth 20000 in
theorem wl_wsL_law0_r30 : GoodIn lw_tbl wsL_law0_r30 := goodIn_2 lwc_in _ [(7, 213), (7, 214), (7, 215), (7, 217), (0, 66), (7, 218), (7, 219), (7, 221), (0, 67), (7, 222), (4, 205), (4, 206), (4, 207), (4, 208), (4, 209), (4, 210), (4, 211), (3, 116), (4, 212), (4, 213), (3, 31), (1, 22), (3, 32), (3, 33)] (by decide +kernel) (by decide +kernel)
set_option maxRecDepth 20000 in
theorem wl_wsL_law0_r31 : GoodIn lw_tbl wsL_law0_r31 := goodIn_2 lwc_in _ [(3, 34), (3, 35), (7, 223), (7, 224), (7, 225), (7, 226), (7, 227), (7, 229), (0, 68), (7, 230), (4, 214), (4, 215), (4, 216), (4, 217), (4, 218), (4, 219), (4, 220), (4, 222), (4, 223), (4, 224), (4, 225), (4, 226), (3, 141), (3, 142)] (by decide +kernel) (by decide +kernel)
set_option maxRecDepth 20000 in
theorem wl_wsL_law0_r32 : GoodIn lw_tbl wsL_law0_r32 := goodIn_2 lwc_in _ [(3, 143), (3, 145), (4, 227), (4, 228), (4, 229), (4, 230), (4, 231), (4, 232), (4, 233), (4, 234), (4, 235), (4, 236), (4, 237), (4, 238), (4, 239), (5, 0), (5, 1), (5, 2), (5, 3), (5, 4), (7, 231), (7, 232), (7, 233), (7, 234)] (by decide +kernel) (by decide +kernel)
set_option maxRecDepth 20000 in
theorem wl_wsL_law0_r33 : GoodIn lw_tbl wsL_law0_r33 := goodIn_2 lwc_in _ [(7, 235), (7, 237), (0, 69), (7, 238), (7, 239), (8, 1), (0, 70), (8, 2), (8, 3), (8, 5), (0, 71), (8, 6), (5, 5), (5, 6), (5, 7), (5, 8), (5, 9), (5, 10), (5, 11), (5, 12), (8, 7), (8, 8), (8, 9), (8, 10)] (by decide +kernel) (by decide +kernel)
set_option maxRecDepth 20000 in
theorem wl_wsL_law0_r34 : GoodIn lw_tbl wsL_law0_r34 := goodIn_2 lwc_in _ [(5, 13), (5, 14), (5, 15), (5, 16), (5, 17), (5, 18), (5, 19), (8, 11), (8, 12), (8, 13), (8, 14), (5, 20), (5, 21), (5, 22), (5, 23), (5, 24), (5, 25), (5, 26), (5, 27), (5, 28), (8, 15), (8, 16), (8, 17), (8, 18)] (by decide +kernel) (by decide +kernel)
set_option maxRecDepth 20000 in
theorem wl_wsL_law0_r35 : GoodIn lw_tbl wsL_law0_r35 := goodIn_2 lwc_in _ [(5, 29), (5, 30), (5, 31), (5, 32), (5, 33), (5, 34), (5, 35), (1, 164), (5, 36), (5, 37), (5, 38), (5, 39), (1, 46), (1, 166), (5, 41), (1, 80), (5, 40), (5, 42), (5, 44), (0, 25), (5, 45), (5, 46), (5, 47), (5, 49)] (by decide +kernel) (by decide +kernel)
set_option maxRecDepth 20000 in
theorem wl_wsL_law0_r36 : GoodIn lw_tbl wsL_law0_r36 := goodIn_2 lwc_in _ [(0, 26), (5, 50), (5, 51), (5, 53), (0, 27), (5, 54), (5, 55), (3, 124), (3, 125), (3, 126), (3, 127), (8, 19), (8, 20), (8, 21), (8, 22), (2, 226), (2, 227), (2, 228), (2, 229), (2, 230), (2, 231), (2, 232), (2, 233), (3, 0)] (by decide +kernel) (by decide +kernel)
set_option maxRecDepth 20000 in
theorem wl_wsL_law0_r37 : GoodIn lw_tbl wsL_law0_r37 := goodIn_2 lwc_in _ [(3, 1), (3, 2), (2, 234), (2, 236), (0, 9), (2, 237), (2, 238), (2, 239), (8, 23), (8, 24), (8, 25), (8, 26), (8, 27), (8, 29), (0, 72), (8, 30), (5, 56), (5, 57), (5, 58), (5, 59), (5, 60), (5, 61), (5, 62), (1, 181)] (by decide +kernel) (by decide +kernel)
set_option maxRecDepth 20000 in
theorem wl_wsL_law0_r38 : GoodIn lw_tbl wsL_law0_r38 := goodIn_2 lwc_in _ [(5, 63), (3, 89), (3, 90), (3, 91), (3, 92), (3, 93), (3, 95), (0, 11), (3, 96), (3, 97), (3, 98), (3, 100), (0, 12), (3, 101), (3, 102), (3, 104), (0, 13), (3, 105), (3, 106), (3, 108), (0, 14), (3, 109), (8, 31), (8, 32)] (by decide +kernel) (by decide +kernel)
set_option maxRecDepth 20000 in
theorem wl_wsL_law0_r39 : GoodIn lw_tbl wsL_law0_r39 := goodIn_2 lwc_in _ [(8, 33), (8, 34), (8, 35), (8, 37), (0, 73), (8, 38), (8, 39), (8, 41), (0, 74), (8, 42), (8, 43), (8, 45), (0, 75), (8, 46), (5, 64), (5, 65), (5, 66), (5, 67), (5, 68), (5, 69), (5, 70), (5, 71), (5, 72), (5, 73)] (by decide +kernel) (by decide +kernel)
set_option maxRecDepth 20000 in
theorem wl_wsL_law0_r40 : GoodIn lw_tbl wsL_law0_r40 := goodIn_2 lwc_in _ [(5, 74), (5, 75), (5, 76), (5, 77), (5, 78), (8, 47), (8, 48), (8, 49), (8, 50), (8, 51), (8, 53), (0, 76), (8, 54), (5, 79), (5, 80), (5, 81), (5, 82), (5, 83), (5, 84), (5, 85), (1, 196), (1, 194), (5, 86), (3, 133)] (by decide +kernel) (by decide +kernel)
set_option maxRecDepth 20000 in
theorem wl_wsL_law0_r41 : GoodIn lw_tbl wsL_law0_r41 := goodIn_2 lwc_in _ [(3, 134), (3, 135), (1, 195), (1, 197), (1, 193), (3, 136), (3, 138), (0, 15), (3, 139), (1, 45), (3, 140), (3, 149), (3, 150), (3, 151), (3, 152), (3, 153), (3, 154), (3, 155), (3, 156), (3, 158), (0, 16), (3, 159), (3, 160), (3, 164)] (by decide +kernel) (by decide +kernel)
set_option maxRecDepth 20000 in
theorem wl_wsL_law0_r42 : GoodIn lw_tbl wsL_law0_r42 := goodIn_2 lwc_in _ [(3, 165), (3, 166), (3, 167), (3, 168), (3, 170), (0, 17), (3, 171), (8, 55), (8, 56), (8, 57), (8, 58), (6, 185), (6, 186), (8, 59), (8, 61), (0, 77), (8, 62), (8, 63), (8, 65), (0, 78), (8, 66), (8, 67), (8, 69), (0, 79)] (by decide +kernel) (by decide +kernel)
set_option maxRecDepth 20000 in
theorem wl_wsL_law0_r43 : GoodIn lw_tbl wsL_law0_r43 := goodIn_2 lwc_in _ [(8, 70), (5, 87), (5, 88), (5, 89), (5, 90), (5, 91), (5, 92), (5, 93), (1, 192), (8, 71), (8, 72), (8, 73), (8, 74), (5, 94), (5, 95), (5, 96), (5, 97), (5, 98), (5, 99), (5, 100), (1, 198), (8, 75), (8, 76), (8, 77)] (by decide +kernel) (by decide +kernel)
set_option maxRecDepth 20000 in
theorem wl_wsL_law0_r44 : GoodIn lw_tbl wsL_law0_r44 := goodIn_2 lwc_in _ [(8, 78), (5, 101), (5, 102), (5, 103), (5, 104), (5, 105), (5, 106), (5, 107), (5, 109), (5, 110), (5, 111), (5, 112), (8, 79), (8, 80), (8, 81), (8, 82), (8, 83), (8, 85), (0, 80), (8, 86), (3, 3), (3, 4), (3, 5), (3, 6)] (by decide +kernel) (by decide +kernel)
set_option maxRecDepth 20000 in
theorem wl_wsL_law0_r45 : GoodIn lw_tbl wsL_law0_r45 := goodIn_2 lwc_in _ [(3, 7), (3, 8), (3, 9), (3, 10), (3, 11), (3, 12), (3, 13), (3, 21), (3, 14), (3, 15), (3, 16), (3, 17), (3, 18), (3, 19), (3, 20), (8, 87), (8, 88), (8, 89), (8, 90), (8, 91), (8, 93), (0, 81), (8, 94), (8, 95)] (by decide +kernel) (by decide +kernel)
set_option maxRecDepth 20000 in
theorem wl_wsL_law0_r46 : GoodIn lw_tbl wsL_law0_r46 := goodIn_2 lwc_in _ [(8, 97), (0, 82), (8, 98), (8, 99), (8, 101), (0, 83), (8, 102), (5, 113), (5, 114), (5, 115), (5, 116), (5, 117), (5, 118), (5, 119), (1, 218), (8, 103), (8, 104), (8, 105), (8, 106), (3, 22), (3, 23), (3, 24), (3, 25), (3, 26)] (by decide +kernel) (by decide +kernel)
set_option maxRecDepth 20000 in
theorem wl_wsL_law0_r47 : GoodIn lw_tbl wsL_law0_r47 := goodIn_2 lwc_in _ [(3, 27), (3, 28), (3, 29), (3, 30), (3, 36), (3, 38), (0, 10), (3, 39), (8, 107), (8, 108), (8, 109), (8, 110), (5, 120), (5, 121), (5, 122), (5, 123), (5, 124), (5, 125), (5, 126), (5, 127), (5, 128), (5, 129), (5, 130), (5, 131)] (by decide +kernel) (by decide +kernel)
set_option maxRecDepth 20000 in
theorem wl_wsL_law0_r48 : GoodIn lw_tbl wsL_law0_r48 := goodIn_2 lwc_in _ [(5, 132), (5, 133), (5, 134), (8, 111), (8, 112), (8, 113), (8, 114), (8, 115), (8, 117), (0, 84), (8, 118), (5, 135), (5, 136), (5, 137), (5, 138), (5, 139), (5, 140), (5, 141), (8, 119), (8, 120), (8, 121), (8, 122), (5, 142), (5, 143)] (by decide +kernel) (by decide +kernel)
set_option maxRecDepth 20000 in
theorem wl_wsL_law0_r49 : GoodIn lw_tbl wsL_law0_r49 := goodIn_2 lwc_in _ [(5, 144), (5, 145), (5, 146), (5, 147), (5, 148), (8, 123), (8, 124), (8, 125), (8, 126), (5, 149), (5, 150), (5, 151), (5, 152), (5, 153), (5, 154), (5, 155), (5, 156), (5, 158), (0, 28), (5, 159), (5, 160), (5, 161), (5, 162), (5, 163)] (by decide +kernel) (by decide +kernel)
set_option maxRecDepth 20000 in
theorem wl_wsL_law0_r50 : GoodIn lw_tbl wsL_law0_r50 := goodIn_2 lwc_in _ [(5, 164), (5, 166), (0, 29), (5, 167), (5, 169), (5, 170), (5, 171), (5, 172), (5, 173), (5, 174), (5, 175), (5, 176), (5, 177), (5, 178), (5, 179), (5, 180), (1, 20), (5, 181), (5, 183), (5, 184), (5, 185), (5, 186), (2, 7), (5, 187)] (by decide +kernel) (by decide +kernel)
set_option maxRecDepth 20000 in
theorem wl_wsL_law0_r51 : GoodIn lw_tbl wsL_law0_r51 := goodIn_2 lwc_in _ [(5, 188), (5, 189), (5, 190), (5, 191), (5, 192), (8, 127), (8, 128), (8, 129), (8, 130), (6, 192), (8, 131), (8, 133), (0, 85), (8, 134), (8, 135), (8, 136), (8, 137), (8, 138), (8, 139), (8, 140), (8, 141), (8, 142), (8, 143), (8, 144)] (by decide +kernel) (by decide +kernel)
set_option maxRecDepth 20000 in
theorem wl_wsL_law0_r52 : GoodIn lw_tbl wsL_law0_r52 := goodIn_2 lwc_in _ [(8, 145), (8, 146), (8, 147), (8, 148), (5, 193), (5, 194), (5, 195), (5, 196), (5, 197), (5, 198), (5, 199), (2, 8), (5, 202), (5, 203), (5, 204), (5, 205), (5, 206), (8, 149), (8, 150), (8, 151), (8, 152), (3, 40), (3, 41), (3, 42)] (by decide +kernel) (by decide +kernel)
set_option maxRecDepth 20000 in
theorem wl_wsL_law0_r53 : GoodIn lw_tbl wsL_law0_r53 := goodIn_2 lwc_in _ [(3, 43), (3, 44), (3, 45), (3, 46), (3, 47), (3, 48), (3, 49), (3, 50), (3, 51), (8, 153), (8, 154), (8, 155), (8, 156), (8, 157), (8, 159), (0, 86), (8, 160), (8, 161), (8, 163), (0, 87), (8, 164), (8, 165), (8, 167), (0, 88)] (by decide +kernel) (by decide +kernel)
set_option maxRecDepth 20000 in
theorem wl_wsL_law0_r54 : GoodIn lw_tbl wsL_law0_r54 := goodIn_2 lwc_in _ [(8, 168), (8, 169), (8, 171), (0, 89), (8, 172), (5, 207), (5, 208), (5, 209), (5, 210), (5, 211), (5, 212), (5, 213), (2, 6), (5, 214), (5, 215), (8, 173), (8, 174), (8, 175), (8, 176), (8, 177), (8, 178), (8, 179), (5, 217), (5, 218)] (by decide +kernel) (by decide +kernel)
