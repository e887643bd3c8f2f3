def ct_A_discard : gd_K := [(0, .aload_n 2, 0), (1, .iconst 0, 0), (2, .aload_n 0, 0), (3, .iload_n 1, 0), (4, .invokevirtual 31, 0), (7, .i2l, 0), (8, .lastore, 0), (9, .goto 9, 18), (12, .astore_n 3, 0), (13, .iconst 1, 0), (14, .ireturn, 0), (15, .astore_n 3, 0), (16, .iconst 2, 0), (17, .ireturn, 0), (18, .iconst 0, 0), (19, .ireturn, 0)]
set_option maxRecDepth 100000 in
theorem k_A_discard : gd_MK c_A_discard R_A (gd_find ct_A_discard) (gd_ff fl_A) (gd_lf lc_A) := gd_mk (by decide +kernel) fb_A lb_A
def ct_A_dispense : gd_K := [(0, .aload_n 2, 0), (1, .iconst 0, 0), (2, .aload_n 0, 0), (3, .iload_n 1, 0), (4, .invokevirtual 7, 0), (7, .i2l, 0), (8, .lastore, 0), (9, .goto 12, 21), (12, .astore_n 3, 0), (13, .iconst 1, 0), (14, .ireturn, 0), (15, .astore_n 3, 0), (16, .iconst 2, 0), (17, .ireturn, 0), (18, .astore_n 3, 0), (19, .iconst 3, 0), (20, .ireturn, 0), (21, .iconst 0, 0), (22, .ireturn, 0)]
set_option maxRecDepth 100000 in
theorem k_A_dispense : gd_MK c_A_dispense R_A (gd_find ct_A_dispense) (gd_ff fl_A) (gd_lf lc_A) := gd_mk (by decide +kernel) fb_A lb_A
def ct_A_halve : gd_K := [(0, .aload_n 3, 0), (1, .iconst 0, 0), (2, .aload_n 0, 0), (3, .iload_n 1, 0), (4, .iload_n 2, 0), (5, .invokevirtual 27, 0), (8, .i2l, 0), (9, .lastore, 0), (10, .goto 11, 21), (13, .astore 4, 0), (15, .iconst 1, 0), (16, .ireturn, 0), (17, .astore 4, 0), (19, .iconst 2, 0), (20, .ireturn, 0), (21, .iconst 0, 0), (22, .ireturn, 0)]
set_option maxRecDepth 100000 in
theorem k_A_halve : gd_MK c_A_halve R_A (gd_find ct_A_halve) (gd_ff fl_A) (gd_lf lc_A) := gd_mk (by decide +kernel) fb_A lb_A
def ct_A_join : gd_K := [(0, .aload_n 3, 0), (1, .iconst 0, 0), (2, .aload_n 0, 0), (3, .iload_n 1, 0), (4, .iload_n 2, 0), (5, .invokevirtual 23, 0), (8, .i2l, 0), (9, .lastore, 0), (10, .goto 15, 25), (13, .astore 4, 0), (15, .iconst 1, 0), (16, .ireturn, 0), (17, .astore 4, 0), (19, .iconst 2, 0), (20, .ireturn, 0), (21, .astore 4, 0), (23, .iconst 3, 0), (24, .ireturn, 0), (25, .iconst 0, 0), (26, .ireturn, 0)]
set_option maxRecDepth 100000 in
theorem k_A_join : gd_MK c_A_join R_A (gd_find ct_A_join) (gd_ff fl_A) (gd_lf lc_A) := gd_mk (by decide +kernel) fb_A lb_A
def ct_A_look : gd_K := [(0, .aload_n 3, 0), (1, .iconst 0, 0), (2, .aload_n 0, 0), (3, .iload_n 1, 0), (4, .iload_n 2, 0), (5, .invokevirtual 37, 0), (8, .i2l, 0), (9, .lastore, 0), (10, .goto 7, 17), (13, .astore 4, 0), (15, .iconst 1, 0), (16, .ireturn, 0), (17, .iconst 0, 0), (18, .ireturn, 0)]
set_option maxRecDepth 100000 in
theorem k_A_look : gd_MK c_A_look R_A (gd_find ct_A_look) (gd_ff fl_A) (gd_lf lc_A) := gd_mk (by decide +kernel) fb_A lb_A
def ct_A_reading : gd_K := [(0, .aload_n 3, 0), (1, .iconst 0, 0), (2, .aload_n 0, 0), (3, .iload_n 1, 0), (4, .iload_n 2, 0), (5, .invokevirtual 44, 0), (8, .i2l, 0), (9, .lastore, 0), (10, .goto 7, 17), (13, .astore 4, 0), (15, .iconst 1, 0), (16, .ireturn, 0), (17, .iconst 0, 0), (18, .ireturn, 0)]
set_option maxRecDepth 100000 in
theorem k_A_reading : gd_MK c_A_reading R_A (gd_find ct_A_reading) (gd_ff fl_A) (gd_lf lc_A) := gd_mk (by decide +kernel) fb_A lb_A
def ct_A_run : gd_K := [(0, .aload_n 2, 0), (1, .iconst 0, 0), (2, .aload_n 0, 0), (3, .iload_n 1, 0), (4, .invokevirtual 34, 0), (7, .i2l, 0), (8, .lastore, 0), (9, .goto 6, 15), (12, .astore_n 3, 0), (13, .iconst 1, 0), (14, .ireturn, 0), (15, .iconst 0, 0), (16, .ireturn, 0)]
set_option maxRecDepth 100000 in
theorem k_A_run : gd_MK c_A_run R_A (gd_find ct_A_run) (gd_ff fl_A) (gd_lf lc_A) := gd_mk (by decide +kernel) fb_A lb_A
def ct_A_send : gd_K := [(0, .aload 4, 0), (2, .iconst 0, 0), (3, .aload_n 0, 0), (4, .iload_n 1, 0), (5, .iload_n 2, 0), (6, .iload_n 3, 0), (7, .invokevirtual 19, 0), (10, .i2l, 0), (11, .lastore, 0), (12, .goto 15, 27), (15, .astore 5, 0), (17, .iconst 1, 0), (18, .ireturn, 0), (19, .astore 5, 0), (21, .iconst 2, 0), (22, .ireturn, 0), (23, .astore 5, 0), (25, .iconst 3, 0), (26, .ireturn, 0), (27, .iconst 0, 0), (28, .ireturn, 0)]
set_option maxRecDepth 100000 in
theorem k_A_send : gd_MK c_A_send R_A (gd_find ct_A_send) (gd_ff fl_A) (gd_lf lc_A) := gd_mk (by decide +kernel) fb_A lb_A
def ct_A_share : gd_K := [(0, .aload_n 3, 0), (1, .iconst 0, 0), (2, .aload_n 0, 0), (3, .iload_n 1, 0), (4, .iload_n 2, 0), (5, .invokevirtual 40, 0), (8, .lastore, 0), (9, .goto 7, 16), (12, .astore 4, 0), (14, .iconst 1, 0), (15, .ireturn, 0), (16, .iconst 0, 0), (17, .ireturn, 0)]
set_option maxRecDepth 100000 in
theorem k_A_share : gd_MK c_A_share R_A (gd_find ct_A_share) (gd_ff fl_A) (gd_lf lc_A) := gd_mk (by decide +kernel) fb_A lb_A
