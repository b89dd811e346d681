set_option maxRecDepth 20000 in
theorem wl_wsL_law0_r1 : GoodIn lw_tbl wsL_law0_r1 := goodIn_2 lwc_in _ [(2, 28), (2, 29), (1, 0), (3, 91), (3, 92), (2, 30), (2, 31), (2, 32), (2, 33), (2, 34), (2, 35), (2, 36), (2, 37), (1, 1), (2, 61), (3, 93), (3, 94), (3, 95), (3, 96), (3, 97), (3, 98), (3, 99), (3, 100), (3, 101)] (by decide +kernel) (by decide +kernel)
set_option maxRecDepth 20000 in
theorem wl_wsL_law0_r2 : GoodIn lw_tbl wsL_law0_r2 := goodIn_2 lwc_in _ [(3, 102), (3, 103), (3, 19), (3, 106), (3, 107), (2, 38), (2, 39), (2, 40), (2, 41), (2, 42), (2, 43), (1, 2), (3, 57), (2, 62), (2, 63), (1, 3), (3, 58), (2, 79), (2, 80), (1, 4), (3, 59), (2, 128), (1, 164), (1, 5)] (by decide +kernel) (by decide +kernel)
set_option maxRecDepth 20000 in
theorem wl_wsL_law0_r3 : GoodIn lw_tbl wsL_law0_r3 := goodIn_2 lwc_in _ [(3, 60), (2, 163), (2, 164), (1, 6), (3, 61), (2, 180), (1, 45), (1, 7), (3, 62), (2, 190), (1, 234), (1, 8), (3, 63), (2, 215), (1, 110), (1, 9), (3, 64), (2, 225), (2, 226), (1, 10), (3, 65), (3, 1), (3, 2), (1, 11)] (by decide +kernel) (by decide +kernel)
set_option maxRecDepth 20000 in
theorem wl_wsL_law0_r4 : GoodIn lw_tbl wsL_law0_r4 := goodIn_2 lwc_in _ [(3, 66), (3, 20), (3, 21), (1, 12), (3, 67), (2, 44), (2, 45), (2, 46), (2, 47), (2, 48), (2, 50), (2, 65), (2, 66), (2, 67), (2, 68), (2, 82), (2, 83), (2, 84), (2, 88), (2, 90), (2, 91), (2, 92), (2, 93), (2, 95)] (by decide +kernel) (by decide +kernel)
set_option maxRecDepth 20000 in
theorem wl_wsL_law0_r5 : GoodIn lw_tbl wsL_law0_r5 := goodIn_2 lwc_in _ [(2, 96), (2, 98), (2, 100), (2, 101), (2, 102), (2, 130), (2, 131), (2, 132), (2, 133), (2, 135), (2, 136), (2, 138), (2, 140), (2, 142), (2, 143), (2, 144), (2, 166), (2, 167), (2, 168), (2, 169), (2, 171), (2, 182), (2, 183), (2, 184)] (by decide +kernel) (by decide +kernel)
set_option maxRecDepth 20000 in
theorem wl_wsL_law0_r6 : GoodIn lw_tbl wsL_law0_r6 := goodIn_2 lwc_in _ [(2, 185), (2, 192), (2, 193), (2, 194), (2, 195), (2, 203), (2, 217), (2, 218), (2, 219), (2, 220), (2, 227), (2, 228), (2, 229), (2, 230), (2, 231), (2, 232), (2, 233), (3, 4), (3, 5), (3, 6), (3, 7), (3, 8), (3, 23), (3, 24)] (by decide +kernel) (by decide +kernel)
set_option maxRecDepth 20000 in
theorem wl_wsL_law0_r7 : GoodIn lw_tbl wsL_law0_r7 := goodIn_2 lwc_in _ [(3, 25), (3, 26), (3, 56), (3, 28), (3, 32), (3, 36), (6, 119), (6, 120), (6, 121), (6, 122), (3, 151), (3, 143), (3, 145), (0, 19), (3, 146), (3, 104), (3, 105), (3, 147), (3, 149), (0, 20), (3, 150), (3, 152), (3, 154), (0, 21)] (by decide +kernel) (by decide +kernel)
set_option maxRecDepth 20000 in
theorem wl_wsL_law0_r8 : GoodIn lw_tbl wsL_law0_r8 := goodIn_2 lwc_in _ [(3, 155), (3, 156), (3, 157), (3, 158), (3, 159), (3, 160), (3, 162), (0, 22), (3, 163), (3, 164), (3, 166), (0, 23), (3, 167), (3, 168), (1, 16), (3, 236), (3, 238), (0, 25), (3, 239), (4, 0), (4, 1), (4, 2), (4, 3), (2, 49)] (by decide +kernel) (by decide +kernel)
set_option maxRecDepth 20000 in
theorem wl_wsL_law0_r9 : GoodIn lw_tbl wsL_law0_r9 := goodIn_2 lwc_in _ [(2, 69), (4, 4), (1, 212), (1, 211), (1, 17), (2, 51), (2, 70), (4, 5), (4, 6), (1, 18), (4, 7), (4, 8), (4, 9), (4, 10), (4, 11), (4, 12), (4, 13), (4, 14), (4, 15), (4, 16), (4, 17), (4, 18), (4, 19), (4, 20)] (by decide +kernel) (by decide +kernel)
set_option maxRecDepth 20000 in
theorem wl_wsL_law0_r10 : GoodIn lw_tbl wsL_law0_r10 := goodIn_2 lwc_in _ [(4, 21), (4, 22), (4, 23), (4, 27), (1, 19), (4, 24), (2, 17), (2, 18), (2, 19), (4, 26), (1, 48), (1, 49), (1, 50), (4, 43), (4, 44), (4, 45), (4, 46), (4, 47), (4, 48), (4, 49), (4, 50), (4, 51), (4, 52), (4, 53)] (by decide +kernel) (by decide +kernel)
set_option maxRecDepth 20000 in
theorem wl_wsL_law0_r11 : GoodIn lw_tbl wsL_law0_r11 := goodIn_2 lwc_in _ [(4, 54), (4, 55), (4, 57), (0, 26), (4, 58), (4, 59), (1, 20), (4, 76), (1, 121), (1, 122), (1, 123), (4, 78), (4, 79), (4, 80), (4, 81), (4, 82), (4, 83), (4, 84), (4, 85), (4, 86), (4, 88), (0, 27), (4, 89), (4, 90)] (by decide +kernel) (by decide +kernel)
set_option maxRecDepth 20000 in
theorem wl_wsL_law0_r12 : GoodIn lw_tbl wsL_law0_r12 := goodIn_2 lwc_in _ [(4, 91), (4, 92), (4, 93), (2, 137), (1, 155), (1, 156), (1, 157), (1, 158), (2, 86), (2, 89), (1, 159), (1, 117), (1, 118), (1, 119), (1, 120), (1, 124), (1, 125), (1, 126), (1, 127), (1, 160), (1, 129), (1, 130), (1, 131), (2, 85)] (by decide +kernel) (by decide +kernel)
set_option maxRecDepth 20000 in
theorem wl_wsL_law0_r13 : GoodIn lw_tbl wsL_law0_r13 := goodIn_2 lwc_in _ [(1, 132), (1, 133), (1, 134), (1, 135), (1, 136), (1, 142), (1, 143), (1, 137), (1, 63), (1, 64), (1, 65), (1, 138), (1, 139), (1, 140), (1, 141), (1, 144), (1, 145), (1, 146), (1, 147), (1, 148), (1, 149), (1, 150), (1, 151), (1, 152)] (by decide +kernel) (by decide +kernel)
set_option maxRecDepth 20000 in
theorem wl_wsL_law0_r14 : GoodIn lw_tbl wsL_law0_r14 := goodIn_2 lwc_in _ [(1, 153), (1, 154), (1, 52), (1, 53), (1, 54), (1, 161), (1, 163), (0, 6), (1, 165), (2, 145), (1, 210), (1, 166), (1, 168), (0, 7), (1, 169), (1, 170), (1, 172), (0, 8), (1, 198), (1, 200), (0, 13), (1, 201), (2, 99), (2, 94)] (by decide +kernel) (by decide +kernel)
set_option maxRecDepth 20000 in
theorem wl_wsL_law0_r15 : GoodIn lw_tbl wsL_law0_r15 := goodIn_2 lwc_in _ [(1, 202), (1, 204), (0, 14), (1, 205), (1, 174), (1, 176), (0, 9), (1, 177), (2, 97), (1, 178), (1, 180), (0, 10), (1, 181), (1, 182), (1, 184), (0, 11), (1, 185), (1, 186), (1, 187), (1, 188), (1, 189), (1, 190), (1, 191), (1, 192)] (by decide +kernel) (by decide +kernel)
set_option maxRecDepth 20000 in
theorem wl_wsL_law0_r16 : GoodIn lw_tbl wsL_law0_r16 := goodIn_2 lwc_in _ [(1, 193), (1, 102), (1, 21), (1, 103), (1, 104), (1, 105), (1, 106), (1, 194), (1, 196), (0, 12), (1, 197), (1, 206), (1, 208), (0, 15), (1, 209), (1, 173), (4, 94), (4, 95), (4, 96), (4, 97), (4, 98), (4, 99), (4, 100), (4, 101)] (by decide +kernel) (by decide +kernel)
set_option maxRecDepth 20000 in
theorem wl_wsL_law0_r17 : GoodIn lw_tbl wsL_law0_r17 := goodIn_2 lwc_in _ [(4, 102), (4, 103), (4, 104), (4, 106), (0, 28), (4, 107), (4, 108), (4, 110), (0, 29), (4, 111), (4, 112), (4, 114), (0, 30), (4, 115), (4, 116), (4, 118), (0, 31), (4, 119), (4, 120), (4, 122), (0, 32), (4, 123), (4, 124), (4, 125)] (by decide +kernel) (by decide +kernel)
set_option maxRecDepth 20000 in
theorem wl_wsL_law0_r18 : GoodIn lw_tbl wsL_law0_r18 := goodIn_2 lwc_in _ [(4, 126), (4, 127), (2, 55), (1, 112), (1, 113), (1, 114), (1, 115), (4, 128), (4, 130), (0, 33), (4, 131), (4, 132), (4, 133), (4, 134), (4, 135), (2, 141), (4, 136), (4, 137), (4, 138), (4, 139), (2, 139), (4, 141), (4, 142), (4, 143)] (by decide +kernel) (by decide +kernel)
set_option maxRecDepth 20000 in
theorem wl_wsL_law0_r19 : GoodIn lw_tbl wsL_law0_r19 := goodIn_2 lwc_in _ [(4, 144), (4, 145), (4, 147), (0, 34), (4, 148), (4, 150), (4, 152), (0, 35), (4, 153), (4, 154), (4, 155), (4, 156), (4, 157), (4, 158), (4, 159), (4, 160), (4, 161), (4, 162), (1, 237), (1, 238), (1, 239), (1, 217), (2, 0), (2, 1)] (by decide +kernel) (by decide +kernel)
set_option maxRecDepth 20000 in
theorem wl_wsL_law0_r20 : GoodIn lw_tbl wsL_law0_r20 := goodIn_2 lwc_in _ [(2, 2), (2, 3), (2, 4), (4, 163), (4, 164), (4, 165), (4, 166), (4, 167), (4, 168), (4, 169), (4, 170), (4, 171), (4, 172), (4, 173), (4, 174), (4, 175), (4, 176), (4, 177), (4, 178), (4, 179), (4, 180), (4, 181), (4, 183), (0, 36)] (by decide +kernel) (by decide +kernel)
set_option maxRecDepth 20000 in
theorem wl_wsL_law0_r21 : GoodIn lw_tbl wsL_law0_r21 := goodIn_2 lwc_in _ [(4, 184), (4, 185), (4, 187), (0, 37), (4, 188), (4, 189), (4, 190), (4, 192), (0, 38), (4, 193), (4, 194), (4, 195), (4, 196), (4, 197), (1, 128), (4, 198), (4, 199), (4, 200), (4, 201), (4, 202), (4, 203), (4, 204), (4, 205), (4, 206)] (by decide +kernel) (by decide +kernel)
set_option maxRecDepth 20000 in
theorem wl_wsL_law0_r22 : GoodIn lw_tbl wsL_law0_r22 := goodIn_2 lwc_in _ [(4, 208), (0, 39), (4, 209), (4, 210), (4, 211), (4, 212), (4, 213), (4, 214), (4, 216), (0, 40), (4, 217), (4, 219), (4, 220), (4, 221), (4, 222), (4, 223), (4, 224), (4, 226), (0, 41), (4, 227), (4, 228), (4, 229), (4, 230), (4, 231)] (by decide +kernel) (by decide +kernel)
set_option maxRecDepth 20000 in
theorem wl_wsL_law0_r23 : GoodIn lw_tbl wsL_law0_r23 := goodIn_2 lwc_in _ [(4, 232), (4, 233), (4, 234), (4, 235), (4, 236), (4, 237), (4, 238), (4, 239), (1, 116), (5, 0), (5, 1), (5, 2), (5, 4), (0, 42), (5, 5), (5, 6), (5, 7), (5, 8), (5, 9), (2, 170), (5, 10), (5, 11), (5, 12), (5, 13)] (by decide +kernel) (by decide +kernel)
set_option maxRecDepth 20000 in
theorem wl_wsL_law0_r24 : GoodIn lw_tbl wsL_law0_r24 := goodIn_2 lwc_in _ [(2, 53), (2, 172), (5, 15), (2, 87), (5, 14), (5, 16), (5, 18), (0, 43), (5, 19), (5, 20), (5, 21), (5, 23), (0, 44), (5, 24), (5, 25), (5, 27), (0, 45), (5, 28), (5, 29), (1, 219), (1, 220), (1, 221), (1, 222), (5, 30)] (by decide +kernel) (by decide +kernel)
set_option maxRecDepth 20000 in
theorem wl_wsL_law0_r25 : GoodIn lw_tbl wsL_law0_r25 := goodIn_2 lwc_in _ [(5, 32), (0, 46), (5, 33), (5, 34), (5, 35), (5, 36), (5, 37), (5, 38), (5, 39), (5, 40), (5, 41), (3, 34), (2, 54), (5, 42), (5, 43), (5, 45), (0, 47), (5, 46), (5, 48), (5, 49), (5, 50), (1, 22), (5, 51), (6, 125)] (by decide +kernel) (by decide +kernel)
set_option maxRecDepth 20000 in
theorem wl_wsL_law0_r26 : GoodIn lw_tbl wsL_law0_r26 := goodIn_2 lwc_in _ [(5, 52), (5, 53), (5, 54), (5, 55), (5, 56), (6, 124), (5, 58), (5, 59), (1, 23), (5, 60), (5, 61), (5, 62), (5, 63), (5, 64), (5, 66), (5, 67), (1, 24), (5, 68), (5, 69), (5, 70), (1, 25), (5, 71), (5, 72), (5, 73)] (by decide +kernel) (by decide +kernel)
set_option maxRecDepth 20000 in
theorem wl_wsL_law0_r27 : GoodIn lw_tbl wsL_law0_r27 := goodIn_2 lwc_in _ [(5, 74), (5, 75), (5, 76), (5, 77), (5, 78), (5, 79), (5, 80), (5, 81), (5, 82), (5, 84), (5, 86), (5, 88), (5, 89), (5, 90), (5, 91), (3, 35), (3, 29), (5, 93), (5, 94), (5, 95), (5, 96), (3, 31), (5, 97), (5, 98)] (by decide +kernel) (by decide +kernel)
set_option maxRecDepth 20000 in
theorem wl_wsL_law0_r28 : GoodIn lw_tbl wsL_law0_r28 := goodIn_2 lwc_in _ [(5, 99), (5, 100), (5, 102), (5, 103), (5, 104), (5, 105), (3, 30), (5, 106), (5, 107), (5, 108), (5, 109), (3, 27), (5, 110), (5, 111), (5, 112), (5, 113), (3, 37), (5, 114), (5, 116), (0, 48), (5, 117), (5, 118), (5, 120), (0, 49)] (by decide +kernel) (by decide +kernel)
