set_option maxRecDepth 20000 in
theorem wl_wsL_law0_r1 : GoodIn lw_tbl wsL_law0_r1 := goodIn_2 lwc_in _ [(1, 27), (1, 28), (1, 1), (6, 172), (6, 173), (1, 13), (9, 35), (9, 36), (1, 29), (1, 30), (1, 31), (1, 32), (1, 33), (1, 34), (1, 35), (1, 36), (1, 2), (2, 54), (1, 55), (1, 56), (1, 3), (2, 55), (1, 72), (1, 73)] (by decide +kernel) (by decide +kernel)
set_option maxRecDepth 20000 in
theorem wl_wsL_law0_r2 : GoodIn lw_tbl wsL_law0_r2 := goodIn_2 lwc_in _ [(1, 4), (2, 56), (1, 121), (1, 122), (1, 5), (2, 57), (1, 157), (1, 158), (1, 6), (2, 58), (1, 174), (1, 175), (1, 7), (2, 59), (1, 185), (1, 186), (1, 8), (2, 60), (1, 211), (1, 212), (1, 9), (2, 61), (1, 222), (1, 223)] (by decide +kernel) (by decide +kernel)
set_option maxRecDepth 20000 in
theorem wl_wsL_law0_r3 : GoodIn lw_tbl wsL_law0_r3 := goodIn_2 lwc_in _ [(1, 10), (2, 62), (1, 238), (1, 239), (1, 11), (2, 63), (2, 17), (2, 18), (1, 12), (2, 64), (1, 37), (1, 38), (1, 39), (1, 40), (1, 54), (1, 41), (1, 43), (1, 58), (1, 59), (1, 60), (1, 61), (1, 75), (1, 76), (1, 77)] (by decide +kernel) (by decide +kernel)
set_option maxRecDepth 20000 in
theorem wl_wsL_law0_r4 : GoodIn lw_tbl wsL_law0_r4 := goodIn_2 lwc_in _ [(1, 81), (1, 83), (1, 84), (1, 85), (1, 86), (1, 88), (1, 89), (1, 91), (1, 93), (1, 94), (1, 95), (1, 124), (1, 125), (1, 126), (1, 127), (1, 129), (1, 130), (1, 132), (1, 134), (1, 136), (1, 137), (1, 138), (1, 160), (1, 161)] (by decide +kernel) (by decide +kernel)
set_option maxRecDepth 20000 in
theorem wl_wsL_law0_r5 : GoodIn lw_tbl wsL_law0_r5 := goodIn_2 lwc_in _ [(1, 162), (1, 163), (1, 165), (1, 177), (1, 178), (1, 179), (1, 180), (1, 188), (1, 189), (1, 190), (1, 191), (1, 199), (1, 214), (1, 215), (1, 216), (1, 217), (1, 224), (1, 225), (1, 226), (1, 227), (1, 228), (1, 229), (1, 230), (2, 1)] (by decide +kernel) (by decide +kernel)
set_option maxRecDepth 20000 in
theorem wl_wsL_law0_r6 : GoodIn lw_tbl wsL_law0_r6 := goodIn_2 lwc_in _ [(2, 2), (2, 3), (2, 16), (2, 4), (2, 5), (2, 20), (2, 21), (2, 22), (2, 23), (2, 53), (2, 25), (2, 29), (2, 33), (6, 174), (6, 175), (6, 176), (6, 177), (6, 180), (6, 181), (6, 183), (6, 184), (6, 185), (6, 186), (6, 187)] (by decide +kernel) (by decide +kernel)
set_option maxRecDepth 20000 in
theorem wl_wsL_law0_r7 : GoodIn lw_tbl wsL_law0_r7 := goodIn_2 lwc_in _ [(6, 188), (6, 189), (6, 190), (6, 191), (6, 192), (6, 193), (6, 196), (6, 197), (6, 198), (6, 199), (6, 178), (6, 200), (6, 202), (6, 203), (6, 204), (6, 206), (6, 207), (3, 181), (3, 182), (1, 0), (3, 183), (3, 184), (3, 185), (3, 186)] (by decide +kernel) (by decide +kernel)
set_option maxRecDepth 20000 in
theorem wl_wsL_law0_r8 : GoodIn lw_tbl wsL_law0_r8 := goodIn_2 lwc_in _ [(3, 187), (3, 188), (3, 189), (3, 198), (1, 17), (4, 28), (1, 18), (3, 190), (3, 192), (0, 20), (3, 193), (3, 194), (3, 196), (0, 21), (3, 197), (4, 26), (3, 170), (3, 171), (3, 172), (2, 92), (2, 93), (2, 94), (2, 95), (2, 215)] (by decide +kernel) (by decide +kernel)
set_option maxRecDepth 20000 in
theorem wl_wsL_law0_r9 : GoodIn lw_tbl wsL_law0_r9 := goodIn_2 lwc_in _ [(2, 217), (0, 10), (2, 218), (2, 219), (2, 220), (2, 221), (2, 222), (1, 42), (1, 62), (2, 223), (2, 209), (2, 208), (1, 19), (1, 44), (1, 63), (2, 224), (2, 225), (1, 20), (2, 226), (2, 227), (2, 228), (2, 229), (2, 230), (4, 44)] (by decide +kernel) (by decide +kernel)
set_option maxRecDepth 20000 in
theorem wl_wsL_law0_r10 : GoodIn lw_tbl wsL_law0_r10 := goodIn_2 lwc_in _ [(4, 45), (4, 46), (4, 47), (4, 48), (4, 49), (4, 50), (4, 51), (7, 34), (7, 35), (7, 36), (7, 37), (6, 179), (7, 38), (7, 39), (7, 40), (7, 41), (7, 43), (0, 38), (7, 44), (7, 45), (7, 47), (0, 39), (7, 48), (7, 49)] (by decide +kernel) (by decide +kernel)
set_option maxRecDepth 20000 in
theorem wl_wsL_law0_r11 : GoodIn lw_tbl wsL_law0_r11 := goodIn_2 lwc_in _ [(7, 51), (0, 40), (7, 52), (6, 182), (6, 168), (6, 169), (6, 170), (6, 171), (4, 52), (4, 53), (4, 54), (4, 55), (4, 56), (4, 57), (4, 58), (4, 59), (4, 60), (4, 62), (0, 23), (4, 63), (4, 64), (1, 21), (4, 80), (4, 81)] (by decide +kernel) (by decide +kernel)
set_option maxRecDepth 20000 in
theorem wl_wsL_law0_r12 : GoodIn lw_tbl wsL_law0_r12 := goodIn_2 lwc_in _ [(4, 82), (4, 83), (2, 235), (2, 116), (2, 101), (2, 102), (2, 103), (4, 84), (4, 85), (4, 86), (4, 87), (2, 117), (2, 118), (2, 119), (2, 120), (4, 88), (4, 89), (4, 90), (4, 91), (4, 92), (4, 93), (4, 94), (4, 95), (3, 131)] (by decide +kernel) (by decide +kernel)
set_option maxRecDepth 20000 in
theorem wl_wsL_law0_r13 : GoodIn lw_tbl wsL_law0_r13 := goodIn_2 lwc_in _ [(7, 53), (7, 54), (7, 55), (7, 56), (7, 57), (7, 59), (0, 41), (7, 60), (7, 61), (7, 63), (0, 42), (7, 64), (7, 65), (7, 67), (0, 43), (7, 68), (7, 69), (7, 71), (0, 44), (7, 72), (7, 73), (7, 75), (0, 45), (7, 76)] (by decide +kernel) (by decide +kernel)
set_option maxRecDepth 20000 in
theorem wl_wsL_law0_r14 : GoodIn lw_tbl wsL_law0_r14 := goodIn_2 lwc_in _ [(4, 96), (4, 97), (4, 98), (4, 99), (4, 100), (4, 101), (4, 102), (4, 103), (2, 131), (2, 132), (2, 133), (7, 77), (7, 78), (7, 79), (7, 80), (2, 88), (2, 89), (2, 90), (2, 91), (7, 81), (7, 82), (7, 83), (7, 84), (4, 104)] (by decide +kernel) (by decide +kernel)
set_option maxRecDepth 20000 in
theorem wl_wsL_law0_r15 : GoodIn lw_tbl wsL_law0_r15 := goodIn_2 lwc_in _ [(4, 105), (4, 106), (4, 107), (4, 108), (4, 109), (4, 110), (4, 111), (4, 112), (4, 113), (4, 114), (3, 153), (2, 151), (2, 152), (2, 153), (4, 115), (4, 117), (4, 118), (4, 119), (4, 120), (7, 85), (7, 86), (7, 87), (7, 88), (7, 89)] (by decide +kernel) (by decide +kernel)
set_option maxRecDepth 20000 in
theorem wl_wsL_law0_r16 : GoodIn lw_tbl wsL_law0_r16 := goodIn_2 lwc_in _ [(7, 91), (0, 46), (7, 92), (4, 121), (4, 122), (4, 123), (4, 124), (4, 125), (4, 126), (4, 127), (4, 128), (4, 129), (4, 130), (4, 131), (7, 93), (7, 94), (7, 95), (7, 96), (4, 132), (4, 133), (4, 134), (4, 135), (4, 136), (4, 137)] (by decide +kernel) (by decide +kernel)
set_option maxRecDepth 20000 in
theorem wl_wsL_law0_r17 : GoodIn lw_tbl wsL_law0_r17 := goodIn_2 lwc_in _ [(4, 138), (2, 100), (4, 141), (4, 142), (4, 143), (4, 144), (7, 97), (7, 98), (7, 99), (7, 100), (4, 145), (4, 146), (4, 147), (4, 148), (4, 149), (4, 150), (4, 151), (4, 152), (4, 154), (0, 24), (4, 155), (4, 157), (7, 101), (7, 102)] (by decide +kernel) (by decide +kernel)
set_option maxRecDepth 20000 in
theorem wl_wsL_law0_r18 : GoodIn lw_tbl wsL_law0_r18 := goodIn_2 lwc_in _ [(7, 103), (7, 104), (7, 105), (7, 107), (0, 47), (7, 108), (4, 158), (4, 159), (4, 160), (4, 161), (4, 162), (4, 163), (4, 164), (4, 165), (7, 109), (7, 110), (7, 111), (7, 112), (2, 96), (2, 97), (2, 98), (2, 99), (7, 113), (7, 114)] (by decide +kernel) (by decide +kernel)
set_option maxRecDepth 20000 in
theorem wl_wsL_law0_r19 : GoodIn lw_tbl wsL_law0_r19 := goodIn_2 lwc_in _ [(7, 115), (7, 116), (2, 104), (2, 105), (2, 106), (2, 107), (1, 131), (2, 108), (2, 109), (2, 110), (2, 111), (1, 79), (1, 82), (2, 112), (2, 113), (2, 114), (2, 115), (2, 121), (2, 122), (2, 123), (2, 124), (1, 78), (2, 125), (2, 126)] (by decide +kernel) (by decide +kernel)
set_option maxRecDepth 20000 in
theorem wl_wsL_law0_r20 : GoodIn lw_tbl wsL_law0_r20 := goodIn_2 lwc_in _ [(2, 127), (2, 128), (2, 129), (2, 138), (2, 139), (2, 130), (2, 134), (2, 135), (2, 136), (2, 137), (2, 140), (2, 141), (2, 142), (2, 143), (2, 144), (2, 145), (2, 146), (2, 147), (2, 148), (2, 149), (2, 150), (2, 154), (2, 156), (0, 0)] (by decide +kernel) (by decide +kernel)
set_option maxRecDepth 20000 in
theorem wl_wsL_law0_r21 : GoodIn lw_tbl wsL_law0_r21 := goodIn_2 lwc_in _ [(2, 157), (1, 139), (2, 207), (2, 158), (2, 160), (0, 1), (2, 161), (2, 162), (2, 164), (0, 2), (2, 195), (2, 197), (0, 7), (2, 198), (1, 92), (1, 87), (2, 199), (2, 201), (0, 8), (2, 202), (2, 166), (2, 168), (0, 3), (2, 169)] (by decide +kernel) (by decide +kernel)
set_option maxRecDepth 20000 in
theorem wl_wsL_law0_r22 : GoodIn lw_tbl wsL_law0_r22 := goodIn_2 lwc_in _ [(1, 90), (2, 170), (2, 172), (0, 4), (2, 173), (2, 174), (2, 176), (0, 5), (2, 177), (2, 178), (2, 179), (2, 180), (2, 181), (2, 182), (2, 183), (2, 184), (2, 185), (2, 186), (1, 22), (2, 187), (2, 188), (2, 189), (2, 190), (2, 191)] (by decide +kernel) (by decide +kernel)
set_option maxRecDepth 20000 in
theorem wl_wsL_law0_r23 : GoodIn lw_tbl wsL_law0_r23 := goodIn_2 lwc_in _ [(2, 193), (0, 6), (2, 194), (2, 203), (2, 205), (0, 9), (2, 206), (2, 165), (2, 210), (2, 211), (2, 212), (2, 213), (2, 214), (2, 231), (2, 232), (2, 233), (2, 234), (7, 117), (7, 118), (7, 119), (7, 120), (7, 121), (7, 123), (0, 48)] (by decide +kernel) (by decide +kernel)
set_option maxRecDepth 20000 in
theorem wl_wsL_law0_r24 : GoodIn lw_tbl wsL_law0_r24 := goodIn_2 lwc_in _ [(7, 124), (7, 125), (7, 127), (0, 49), (7, 128), (7, 129), (7, 131), (0, 50), (7, 132), (7, 133), (7, 135), (0, 51), (7, 136), (7, 137), (7, 139), (0, 52), (7, 140), (7, 141), (7, 143), (0, 53), (7, 144), (7, 145), (7, 147), (0, 54)] (by decide +kernel) (by decide +kernel)
set_option maxRecDepth 20000 in
theorem wl_wsL_law0_r25 : GoodIn lw_tbl wsL_law0_r25 := goodIn_2 lwc_in _ [(7, 148), (7, 149), (7, 151), (0, 55), (7, 152), (7, 153), (7, 155), (0, 56), (7, 156), (7, 157), (7, 159), (0, 57), (7, 160), (7, 161), (7, 163), (0, 58), (7, 164), (7, 165), (7, 167), (0, 59), (7, 168), (7, 169), (7, 171), (0, 60)] (by decide +kernel) (by decide +kernel)
set_option maxRecDepth 20000 in
theorem wl_wsL_law0_r26 : GoodIn lw_tbl wsL_law0_r26 := goodIn_2 lwc_in _ [(7, 172), (7, 173), (7, 175), (0, 61), (7, 176), (7, 177), (7, 178), (7, 179), (7, 180), (7, 182), (0, 62), (7, 183), (2, 236), (2, 237), (2, 238), (2, 239), (1, 135), (7, 184), (7, 185), (7, 186), (7, 187), (4, 166), (4, 167), (4, 168)] (by decide +kernel) (by decide +kernel)
set_option maxRecDepth 20000 in
theorem wl_wsL_law0_r27 : GoodIn lw_tbl wsL_law0_r27 := goodIn_2 lwc_in _ [(4, 169), (4, 170), (4, 171), (4, 172), (1, 133), (7, 188), (7, 189), (7, 190), (7, 191), (4, 174), (4, 175), (4, 176), (4, 177), (4, 178), (4, 179), (4, 180), (1, 48), (4, 181), (4, 183), (0, 25), (4, 184), (3, 85), (3, 86), (3, 87)] (by decide +kernel) (by decide +kernel)
set_option maxRecDepth 20000 in
theorem wl_wsL_law0_r28 : GoodIn lw_tbl wsL_law0_r28 := goodIn_2 lwc_in _ [(3, 88), (7, 192), (7, 193), (7, 194), (7, 195), (7, 196), (7, 198), (0, 63), (7, 199), (4, 186), (4, 187), (4, 188), (4, 189), (4, 190), (4, 191), (4, 192), (4, 193), (4, 195), (0, 26), (4, 196), (4, 197), (4, 198), (3, 155), (3, 156)] (by decide +kernel) (by decide +kernel)
