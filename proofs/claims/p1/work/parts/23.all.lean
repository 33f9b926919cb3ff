/-! ALL BOXES. -/
def bp_0_1 : List am_I := [(-2147483648, -1), (0, 127), (128, 2147483647)]
def bp_0_2 : List am_I := [(-2147483648, 2147483647)]
def bp_0_3 : List am_I := [(-2147483648, 2147483647)]
def bp_0_4 : List am_I := [(-2147483648, 2147483647)]
theorem bf_0 : bx_A 0 bp_0_1 bp_0_2 bp_0_3 bp_0_4 := bt_0
theorem bc_0 : bx_cov (-2147483648) bp_0_1 = true ∧ bx_cov (-2147483648) bp_0_2 = true ∧ bx_cov (-2147483648) bp_0_3 = true ∧ bx_cov (-2147483648) bp_0_4 = true := by decide +kernel
def bp_1_1 : List am_I := [(-2147483648, -1), (0, 0), (1, 2147483647)]
def bp_1_2 : List am_I := [(-2147483648, 2147483647)]
def bp_1_3 : List am_I := [(-2147483648, 2147483647)]
def bp_1_4 : List am_I := [(-2147483648, 2147483647)]
theorem bf_1 : bx_A 1 bp_1_1 bp_1_2 bp_1_3 bp_1_4 := bt_1
theorem bc_1 : bx_cov (-2147483648) bp_1_1 = true ∧ bx_cov (-2147483648) bp_1_2 = true ∧ bx_cov (-2147483648) bp_1_3 = true ∧ bx_cov (-2147483648) bp_1_4 = true := by decide +kernel
def bp_2_1 : List am_I := [(-2147483648, 2147483647)]
def bp_2_2 : List am_I := [(-2147483648, 2147483647)]
def bp_2_3 : List am_I := [(-2147483648, 2147483647)]
def bp_2_4 : List am_I := [(-2147483648, 2147483647)]
theorem bf_2 : bx_A 2 bp_2_1 bp_2_2 bp_2_3 bp_2_4 := bt_2
theorem bc_2 : bx_cov (-2147483648) bp_2_1 = true ∧ bx_cov (-2147483648) bp_2_2 = true ∧ bx_cov (-2147483648) bp_2_3 = true ∧ bx_cov (-2147483648) bp_2_4 = true := by decide +kernel
def bp_3_1 : List am_I := [(-2147483648, 2147483647)]
def bp_3_2 : List am_I := [(-2147483648, 2147483647)]
def bp_3_3 : List am_I := [(-2147483648, 2147483647)]
def bp_3_4 : List am_I := [(-2147483648, 2147483647)]
theorem bf_3 : bx_A 3 bp_3_1 bp_3_2 bp_3_3 bp_3_4 := bt_3
theorem bc_3 : bx_cov (-2147483648) bp_3_1 = true ∧ bx_cov (-2147483648) bp_3_2 = true ∧ bx_cov (-2147483648) bp_3_3 = true ∧ bx_cov (-2147483648) bp_3_4 = true := by decide +kernel
def bp_4_1 : List am_I := [(-2147483648, -2147483639), (-2147483638, -1), (0, 0), (1, 1), (2, 2), (3, 3), (4, 4), (5, 5), (6, 10), (11, 11), (12, 12), (13, 13), (14, 14), (15, 2147483647)]
def bp_4_2 : List am_I := [(-2147483648, 2147483647)]
def bp_4_3 : List am_I := [(-2147483648, 2147483647)]
def bp_4_4 : List am_I := [(-2147483648, 2147483647)]
theorem bf_4 : bx_A 4 bp_4_1 bp_4_2 bp_4_3 bp_4_4 := bt_4
theorem bc_4 : bx_cov (-2147483648) bp_4_1 = true ∧ bx_cov (-2147483648) bp_4_2 = true ∧ bx_cov (-2147483648) bp_4_3 = true ∧ bx_cov (-2147483648) bp_4_4 = true := by decide +kernel
def bp_5_1 : List am_I := [(-2147483648, -1), (0, 2147483647)]
def bp_5_2 : List am_I := [(-2147483648, 2147483647)]
def bp_5_3 : List am_I := [(-2147483648, 2147483647)]
def bp_5_4 : List am_I := [(-2147483648, 2147483647)]
theorem bf_5 : bx_A 5 bp_5_1 bp_5_2 bp_5_3 bp_5_4 := bt_5
theorem bc_5 : bx_cov (-2147483648) bp_5_1 = true ∧ bx_cov (-2147483648) bp_5_2 = true ∧ bx_cov (-2147483648) bp_5_3 = true ∧ bx_cov (-2147483648) bp_5_4 = true := by decide +kernel
def bp_6_1 : List am_I := [(-2147483648, -1), (0, 8), (9, 2147483647)]
def bp_6_2 : List am_I := [(-2147483648, 2147483647)]
def bp_6_3 : List am_I := [(-2147483648, 2147483647)]
def bp_6_4 : List am_I := [(-2147483648, 2147483647)]
theorem bf_6 : bx_A 6 bp_6_1 bp_6_2 bp_6_3 bp_6_4 := bt_6
theorem bc_6 : bx_cov (-2147483648) bp_6_1 = true ∧ bx_cov (-2147483648) bp_6_2 = true ∧ bx_cov (-2147483648) bp_6_3 = true ∧ bx_cov (-2147483648) bp_6_4 = true := by decide +kernel
def bp_7_1 : List am_I := [(-2147483648, -1), (0, 2147483647)]
def bp_7_2 : List am_I := [(-2147483648, 2147483647)]
def bp_7_3 : List am_I := [(-2147483648, 2147483647)]
def bp_7_4 : List am_I := [(-2147483648, 2147483647)]
theorem bf_7 : bx_A 7 bp_7_1 bp_7_2 bp_7_3 bp_7_4 := bt_7
theorem bc_7 : bx_cov (-2147483648) bp_7_1 = true ∧ bx_cov (-2147483648) bp_7_2 = true ∧ bx_cov (-2147483648) bp_7_3 = true ∧ bx_cov (-2147483648) bp_7_4 = true := by decide +kernel
def bp_8_1 : List am_I := [(-2147483648, -1), (0, 2147483647)]
def bp_8_2 : List am_I := [(-2147483648, 2147483647)]
def bp_8_3 : List am_I := [(-2147483648, 2147483647)]
def bp_8_4 : List am_I := [(-2147483648, 2147483647)]
theorem bf_8 : bx_A 8 bp_8_1 bp_8_2 bp_8_3 bp_8_4 := bt_8
theorem bc_8 : bx_cov (-2147483648) bp_8_1 = true ∧ bx_cov (-2147483648) bp_8_2 = true ∧ bx_cov (-2147483648) bp_8_3 = true ∧ bx_cov (-2147483648) bp_8_4 = true := by decide +kernel
def bp_9_1 : List am_I := [(-2147483648, -1), (0, 2147483647)]
def bp_9_2 : List am_I := [(-2147483648, -1), (0, 0), (1, 2147483647)]
def bp_9_3 : List am_I := [(-2147483648, 2147483647)]
def bp_9_4 : List am_I := [(-2147483648, 2147483647)]
theorem bf_9 : bx_A 9 bp_9_1 bp_9_2 bp_9_3 bp_9_4 := bt_9
theorem bc_9 : bx_cov (-2147483648) bp_9_1 = true ∧ bx_cov (-2147483648) bp_9_2 = true ∧ bx_cov (-2147483648) bp_9_3 = true ∧ bx_cov (-2147483648) bp_9_4 = true := by decide +kernel
def bp_10_1 : List am_I := [(-2147483648, -1), (0, 2147483647)]
def bp_10_2 : List am_I := [(-2147483648, 2147483647)]
def bp_10_3 : List am_I := [(-2147483648, 2147483647)]
def bp_10_4 : List am_I := [(-2147483648, 2147483647)]
theorem bf_10 : bx_A 10 bp_10_1 bp_10_2 bp_10_3 bp_10_4 := bt_10
theorem bc_10 : bx_cov (-2147483648) bp_10_1 = true ∧ bx_cov (-2147483648) bp_10_2 = true ∧ bx_cov (-2147483648) bp_10_3 = true ∧ bx_cov (-2147483648) bp_10_4 = true := by decide +kernel
def bp_11_1 : List am_I := [(-2147483648, -1), (0, 0), (1, 1), (2, 2), (3, 3), (4, 4), (5, 5), (6, 6), (7, 7), (8, 8), (9, 2147483647)]
def bp_11_2 : List am_I := [(-2147483648, -1), (0, 0), (1, 2147483647)]
def bp_11_3 : List am_I := [(-2147483648, 2147483647)]
def bp_11_4 : List am_I := [(-2147483648, 2147483647)]
theorem bf_11 : bx_A 11 bp_11_1 bp_11_2 bp_11_3 bp_11_4 := bt_11
theorem bc_11 : bx_cov (-2147483648) bp_11_1 = true ∧ bx_cov (-2147483648) bp_11_2 = true ∧ bx_cov (-2147483648) bp_11_3 = true ∧ bx_cov (-2147483648) bp_11_4 = true := by decide +kernel
def bp_12_1 : List am_I := [(-2147483648, 0), (1, 1), (2, 2), (3, 3), (4, 4), (5, 2147483647)]
def bp_12_2 : List am_I := [(-2147483648, -1), (0, 9), (10, 2147483647)]
def bp_12_3 : List am_I := [(-2147483648, 2147483647)]
def bp_12_4 : List am_I := [(-2147483648, 2147483647)]
theorem bf_12 : bx_A 12 bp_12_1 bp_12_2 bp_12_3 bp_12_4 := bt_12
theorem bc_12 : bx_cov (-2147483648) bp_12_1 = true ∧ bx_cov (-2147483648) bp_12_2 = true ∧ bx_cov (-2147483648) bp_12_3 = true ∧ bx_cov (-2147483648) bp_12_4 = true := by decide +kernel
def bp_13_1 : List am_I := [(-2147483648, -1), (0, 4), (5, 2147483647)]
def bp_13_2 : List am_I := [(-2147483648, 2147483647)]
def bp_13_3 : List am_I := [(-2147483648, 2147483647)]
def bp_13_4 : List am_I := [(-2147483648, 2147483647)]
theorem bf_13 : bx_A 13 bp_13_1 bp_13_2 bp_13_3 bp_13_4 := bt_13
theorem bc_13 : bx_cov (-2147483648) bp_13_1 = true ∧ bx_cov (-2147483648) bp_13_2 = true ∧ bx_cov (-2147483648) bp_13_3 = true ∧ bx_cov (-2147483648) bp_13_4 = true := by decide +kernel
def bp_14_1 : List am_I := [(-2147483648, -1), (0, 2147483647)]
def bp_14_2 : List am_I := [(-2147483648, 2147483647)]
def bp_14_3 : List am_I := [(-2147483648, 2147483647)]
def bp_14_4 : List am_I := [(-2147483648, 2147483647)]
theorem bf_14 : bx_A 14 bp_14_1 bp_14_2 bp_14_3 bp_14_4 := bt_14
theorem bc_14 : bx_cov (-2147483648) bp_14_1 = true ∧ bx_cov (-2147483648) bp_14_2 = true ∧ bx_cov (-2147483648) bp_14_3 = true ∧ bx_cov (-2147483648) bp_14_4 = true := by decide +kernel
def bp_15_1 : List am_I := [(-2147483648, -1), (0, 2147483647)]
def bp_15_2 : List am_I := [(-2147483648, 2147483647)]
def bp_15_3 : List am_I := [(-2147483648, 2147483647)]
def bp_15_4 : List am_I := [(-2147483648, 2147483647)]
theorem bf_15 : bx_A 15 bp_15_1 bp_15_2 bp_15_3 bp_15_4 := bt_15
theorem bc_15 : bx_cov (-2147483648) bp_15_1 = true ∧ bx_cov (-2147483648) bp_15_2 = true ∧ bx_cov (-2147483648) bp_15_3 = true ∧ bx_cov (-2147483648) bp_15_4 = true := by decide +kernel
def bp_16_1 : List am_I := [(-2147483648, 2147483647)]
def bp_16_2 : List am_I := [(-2147483648, 2147483647)]
def bp_16_3 : List am_I := [(-2147483648, 2147483647)]
def bp_16_4 : List am_I := [(-2147483648, 2147483647)]
theorem bf_16 : bx_A 16 bp_16_1 bp_16_2 bp_16_3 bp_16_4 := bt_16
theorem bc_16 : bx_cov (-2147483648) bp_16_1 = true ∧ bx_cov (-2147483648) bp_16_2 = true ∧ bx_cov (-2147483648) bp_16_3 = true ∧ bx_cov (-2147483648) bp_16_4 = true := by decide +kernel
def bp_17_1 : List am_I := [(-2147483648, 2147483647)]
def bp_17_2 : List am_I := [(-2147483648, 2147483647)]
def bp_17_3 : List am_I := [(-2147483648, 2147483647)]
def bp_17_4 : List am_I := [(-2147483648, 2147483647)]
theorem bf_17 : bx_A 17 bp_17_1 bp_17_2 bp_17_3 bp_17_4 := bt_17
theorem bc_17 : bx_cov (-2147483648) bp_17_1 = true ∧ bx_cov (-2147483648) bp_17_2 = true ∧ bx_cov (-2147483648) bp_17_3 = true ∧ bx_cov (-2147483648) bp_17_4 = true := by decide +kernel
def bp_18_1 : List am_I := [(-2147483648, -1), (0, 0), (1, 1), (2, 2), (3, 3), (4, 4), (5, 5), (6, 6), (7, 7), (8, 8), (9, 9), (10, 10), (11, 11), (12, 12), (13, 13), (14, 14), (15, 15), (16, 16), (17, 17), (18, 18), (19, 19), (20, 20), (21, 21), (22, 22), (23, 23), (24, 24), (25, 25), (26, 26), (27, 27), (28, 28), (29, 29), (30, 30), (31, 31), (32, 32), (33, 33), (34, 34), (35, 35), (36, 36), (37, 37), (38, 38), (39, 39), (40, 40), (41, 41), (42, 42), (43, 43), (44, 44), (45, 45), (46, 46), (47, 47), (48, 48), (49, 49), (50, 50), (51, 51), (52, 52), (53, 53), (54, 54), (55, 55), (56, 56), (57, 57), (58, 58), (59, 59), (60, 60), (61, 2147483647)]
def bp_18_2 : List am_I := [(-2147483648, 2147483647)]
def bp_18_3 : List am_I := [(-2147483648, 2147483647)]
def bp_18_4 : List am_I := [(-2147483648, 2147483647)]
theorem bf_18 : bx_A 18 bp_18_1 bp_18_2 bp_18_3 bp_18_4 := bx_app1 bt_18_0 (bx_app1 bt_18_1 (bx_app1 bt_18_2 (bt_18_3)))
theorem bc_18 : bx_cov (-2147483648) bp_18_1 = true ∧ bx_cov (-2147483648) bp_18_2 = true ∧ bx_cov (-2147483648) bp_18_3 = true ∧ bx_cov (-2147483648) bp_18_4 = true := by decide +kernel
def bp_19_1 : List am_I := [(-2147483648, -1), (0, 2147483647)]
def bp_19_2 : List am_I := [(-2147483648, 2147483647)]
def bp_19_3 : List am_I := [(-2147483648, 2147483647)]
def bp_19_4 : List am_I := [(-2147483648, 2147483647)]
theorem bf_19 : bx_A 19 bp_19_1 bp_19_2 bp_19_3 bp_19_4 := bt_19
theorem bc_19 : bx_cov (-2147483648) bp_19_1 = true ∧ bx_cov (-2147483648) bp_19_2 = true ∧ bx_cov (-2147483648) bp_19_3 = true ∧ bx_cov (-2147483648) bp_19_4 = true := by decide +kernel
def bp_20_1 : List am_I := [(-2147483648, 2147483647)]
def bp_20_2 : List am_I := [(-2147483648, 2147483647)]
def bp_20_3 : List am_I := [(-2147483648, 2147483647)]
def bp_20_4 : List am_I := [(-2147483648, 2147483647)]
theorem bf_20 : bx_A 20 bp_20_1 bp_20_2 bp_20_3 bp_20_4 := bt_20
theorem bc_20 : bx_cov (-2147483648) bp_20_1 = true ∧ bx_cov (-2147483648) bp_20_2 = true ∧ bx_cov (-2147483648) bp_20_3 = true ∧ bx_cov (-2147483648) bp_20_4 = true := by decide +kernel
def bp_21_1 : List am_I := [(-2147483648, -1), (0, 0), (1, 1), (2, 2147483647)]
def bp_21_2 : List am_I := [(-2147483648, 2147483647)]
def bp_21_3 : List am_I := [(-2147483648, 2147483647)]
def bp_21_4 : List am_I := [(-2147483648, 2147483647)]
theorem bf_21 : bx_A 21 bp_21_1 bp_21_2 bp_21_3 bp_21_4 := bt_21
theorem bc_21 : bx_cov (-2147483648) bp_21_1 = true ∧ bx_cov (-2147483648) bp_21_2 = true ∧ bx_cov (-2147483648) bp_21_3 = true ∧ bx_cov (-2147483648) bp_21_4 = true := by decide +kernel
def bp_22_1 : List am_I := [(-2147483648, -1), (0, 0), (1, 1), (2, 2), (3, 3), (4, 4), (5, 5), (6, 6), (7, 7), (8, 8), (9, 9), (10, 10), (11, 11), (12, 12), (13, 2147483647)]
def bp_22_2 : List am_I := [(-2147483648, -2147483639), (-2147483638, -1), (0, 0), (1, 9), (10, 2147483647)]
def bp_22_3 : List am_I := [(-2147483648, 2147483647)]
def bp_22_4 : List am_I := [(-2147483648, 2147483647)]
theorem bf_22 : bx_A 22 bp_22_1 bp_22_2 bp_22_3 bp_22_4 := bx_app1 bt_22_0 (bx_app1 bt_22_1 (bx_app1 bt_22_2 (bx_app1 bt_22_3 (bx_app1 bt_22_4 (bx_app1 bt_22_5 (bx_app1 bt_22_6 (bx_app1 bt_22_7 (bx_app1 bt_22_8 (bx_app1 bt_22_9 (bx_app1 bt_22_10 (bx_app1 bt_22_11 (bx_app1 bt_22_12 (bx_app1 bt_22_13 (bt_22_14))))))))))))))
theorem bc_22 : bx_cov (-2147483648) bp_22_1 = true ∧ bx_cov (-2147483648) bp_22_2 = true ∧ bx_cov (-2147483648) bp_22_3 = true ∧ bx_cov (-2147483648) bp_22_4 = true := by decide +kernel
def bp_23_1 : List am_I := [(-2147483648, 2147483647)]
def bp_23_2 : List am_I := [(-2147483648, 2147483647)]
def bp_23_3 : List am_I := [(-2147483648, 2147483647)]
def bp_23_4 : List am_I := [(-2147483648, 2147483647)]
theorem bf_23 : bx_A 23 bp_23_1 bp_23_2 bp_23_3 bp_23_4 := bt_23
theorem bc_23 : bx_cov (-2147483648) bp_23_1 = true ∧ bx_cov (-2147483648) bp_23_2 = true ∧ bx_cov (-2147483648) bp_23_3 = true ∧ bx_cov (-2147483648) bp_23_4 = true := by decide +kernel
def bp_24_1 : List am_I := [(-2147483648, -1), (0, 2147483647)]
def bp_24_2 : List am_I := [(-2147483648, 2147483647)]
def bp_24_3 : List am_I := [(-2147483648, 2147483647)]
def bp_24_4 : List am_I := [(-2147483648, 2147483647)]
theorem bf_24 : bx_A 24 bp_24_1 bp_24_2 bp_24_3 bp_24_4 := bt_24
theorem bc_24 : bx_cov (-2147483648) bp_24_1 = true ∧ bx_cov (-2147483648) bp_24_2 = true ∧ bx_cov (-2147483648) bp_24_3 = true ∧ bx_cov (-2147483648) bp_24_4 = true := by decide +kernel
def bp_25_1 : List am_I := [(-2147483648, -1), (0, 2147483647)]
def bp_25_2 : List am_I := [(-2147483648, 2147483647)]
def bp_25_3 : List am_I := [(-2147483648, 2147483647)]
def bp_25_4 : List am_I := [(-2147483648, 2147483647)]
theorem bf_25 : bx_A 25 bp_25_1 bp_25_2 bp_25_3 bp_25_4 := bt_25
theorem bc_25 : bx_cov (-2147483648) bp_25_1 = true ∧ bx_cov (-2147483648) bp_25_2 = true ∧ bx_cov (-2147483648) bp_25_3 = true ∧ bx_cov (-2147483648) bp_25_4 = true := by decide +kernel
def bp_26_1 : List am_I := [(-2147483648, 0), (1, 3), (4, 2147483647)]
def bp_26_2 : List am_I := [(-2147483648, -1), (0, 0), (1, 1), (2, 2), (3, 3), (4, 4), (5, 5), (6, 6), (7, 7), (8, 8), (9, 9), (10, 10), (11, 11), (12, 12), (13, 2147483647)]
def bp_26_3 : List am_I := [(-2147483648, -1), (0, 0), (1, 1), (2, 2147483647)]
def bp_26_4 : List am_I := [(-2147483648, 2147483647)]
theorem bf_26 : bx_A 26 bp_26_1 bp_26_2 bp_26_3 bp_26_4 := bx_app2 bt_26_0 (bx_app2 bt_26_1 (bx_app2 bt_26_2 (bx_app2 bt_26_3 (bx_app2 bt_26_4 (bx_app2 bt_26_5 (bx_app2 bt_26_6 (bx_app2 bt_26_7 (bx_app2 bt_26_8 (bx_app2 bt_26_9 (bx_app2 bt_26_10 (bx_app2 bt_26_11 (bx_app2 bt_26_12 (bx_app2 bt_26_13 (bt_26_14))))))))))))))
theorem bc_26 : bx_cov (-2147483648) bp_26_1 = true ∧ bx_cov (-2147483648) bp_26_2 = true ∧ bx_cov (-2147483648) bp_26_3 = true ∧ bx_cov (-2147483648) bp_26_4 = true := by decide +kernel
def bp_27_1 : List am_I := [(-2147483648, -1), (0, 10), (11, 2147483647)]
def bp_27_2 : List am_I := [(-2147483648, -1), (0, 0), (1, 1), (2, 2), (3, 3), (4, 4), (5, 5), (6, 6), (7, 7), (8, 8), (9, 9), (10, 10), (11, 11), (12, 12), (13, 2147483647)]
def bp_27_3 : List am_I := [(-2147483648, -1), (0, 0), (1, 1), (2, 2147483647)]
def bp_27_4 : List am_I := [(-2147483648, 2147483647)]
theorem bf_27 : bx_A 27 bp_27_1 bp_27_2 bp_27_3 bp_27_4 := bx_app2 bt_27_0 (bx_app2 bt_27_1 (bx_app2 bt_27_2 (bx_app2 bt_27_3 (bx_app2 bt_27_4 (bx_app2 bt_27_5 (bx_app2 bt_27_6 (bx_app2 bt_27_7 (bx_app2 bt_27_8 (bx_app2 bt_27_9 (bx_app2 bt_27_10 (bx_app2 bt_27_11 (bx_app2 bt_27_12 (bx_app2 bt_27_13 (bt_27_14))))))))))))))
theorem bc_27 : bx_cov (-2147483648) bp_27_1 = true ∧ bx_cov (-2147483648) bp_27_2 = true ∧ bx_cov (-2147483648) bp_27_3 = true ∧ bx_cov (-2147483648) bp_27_4 = true := by decide +kernel
def bp_28_1 : List am_I := [(-2147483648, -1), (0, 2147483647)]
def bp_28_2 : List am_I := [(-2147483648, 2147483647)]
def bp_28_3 : List am_I := [(-2147483648, 2147483647)]
def bp_28_4 : List am_I := [(-2147483648, 2147483647)]
theorem bf_28 : bx_A 28 bp_28_1 bp_28_2 bp_28_3 bp_28_4 := bt_28
theorem bc_28 : bx_cov (-2147483648) bp_28_1 = true ∧ bx_cov (-2147483648) bp_28_2 = true ∧ bx_cov (-2147483648) bp_28_3 = true ∧ bx_cov (-2147483648) bp_28_4 = true := by decide +kernel
def bp_29_1 : List am_I := [(-2147483648, -1), (0, 0), (1, 2147483647)]
def bp_29_2 : List am_I := [(-2147483648, 2147483647)]
def bp_29_3 : List am_I := [(-2147483648, 2147483647)]
def bp_29_4 : List am_I := [(-2147483648, 2147483647)]
theorem bf_29 : bx_A 29 bp_29_1 bp_29_2 bp_29_3 bp_29_4 := bt_29
theorem bc_29 : bx_cov (-2147483648) bp_29_1 = true ∧ bx_cov (-2147483648) bp_29_2 = true ∧ bx_cov (-2147483648) bp_29_3 = true ∧ bx_cov (-2147483648) bp_29_4 = true := by decide +kernel
def bp_30_1 : List am_I := [(-2147483648, -2147483639), (-2147483638, -1), (0, 0), (1, 9), (10, 2147483647)]
def bp_30_2 : List am_I := [(-2147483648, 2147483647)]
def bp_30_3 : List am_I := [(-2147483648, 2147483647)]
def bp_30_4 : List am_I := [(-2147483648, 2147483647)]
theorem bf_30 : bx_A 30 bp_30_1 bp_30_2 bp_30_3 bp_30_4 := bt_30
theorem bc_30 : bx_cov (-2147483648) bp_30_1 = true ∧ bx_cov (-2147483648) bp_30_2 = true ∧ bx_cov (-2147483648) bp_30_3 = true ∧ bx_cov (-2147483648) bp_30_4 = true := by decide +kernel
def bp_31_1 : List am_I := [(-2147483648, 2147483647)]
def bp_31_2 : List am_I := [(-2147483648, 0), (1, 60), (61, 2147483647)]
def bp_31_3 : List am_I := [(-2147483648, 2147483647)]
def bp_31_4 : List am_I := [(-2147483648, 2147483647)]
theorem bf_31 : bx_A 31 bp_31_1 bp_31_2 bp_31_3 bp_31_4 := bt_31
theorem bc_31 : bx_cov (-2147483648) bp_31_1 = true ∧ bx_cov (-2147483648) bp_31_2 = true ∧ bx_cov (-2147483648) bp_31_3 = true ∧ bx_cov (-2147483648) bp_31_4 = true := by decide +kernel
def bp_32_1 : List am_I := [(-2147483648, -1), (0, 0), (1, 1), (2, 2147483647)]
def bp_32_2 : List am_I := [(-2147483648, 2147483647)]
def bp_32_3 : List am_I := [(-2147483648, 2147483647)]
def bp_32_4 : List am_I := [(-2147483648, 2147483647)]
theorem bf_32 : bx_A 32 bp_32_1 bp_32_2 bp_32_3 bp_32_4 := bt_32
theorem bc_32 : bx_cov (-2147483648) bp_32_1 = true ∧ bx_cov (-2147483648) bp_32_2 = true ∧ bx_cov (-2147483648) bp_32_3 = true ∧ bx_cov (-2147483648) bp_32_4 = true := by decide +kernel
def bp_33_1 : List am_I := [(-2147483648, -1), (0, 0), (1, 1), (2, 2147483647)]
def bp_33_2 : List am_I := [(-2147483648, 2147483647)]
def bp_33_3 : List am_I := [(-2147483648, 2147483647)]
def bp_33_4 : List am_I := [(-2147483648, 2147483647)]
theorem bf_33 : bx_A 33 bp_33_1 bp_33_2 bp_33_3 bp_33_4 := bt_33
theorem bc_33 : bx_cov (-2147483648) bp_33_1 = true ∧ bx_cov (-2147483648) bp_33_2 = true ∧ bx_cov (-2147483648) bp_33_3 = true ∧ bx_cov (-2147483648) bp_33_4 = true := by decide +kernel
def bp_34_1 : List am_I := [(-2147483648, -1), (0, 0), (1, 1), (2, 2), (3, 3), (4, 2147483647)]
def bp_34_2 : List am_I := [(-2147483648, -1), (0, 2), (3, 2147483647)]
def bp_34_3 : List am_I := [(-2147483648, -1), (0, 40), (41, 2147483647)]
def bp_34_4 : List am_I := [(-2147483648, 2147483647)]
theorem bf_34 : bx_A 34 bp_34_1 bp_34_2 bp_34_3 bp_34_4 := bt_34
theorem bc_34 : bx_cov (-2147483648) bp_34_1 = true ∧ bx_cov (-2147483648) bp_34_2 = true ∧ bx_cov (-2147483648) bp_34_3 = true ∧ bx_cov (-2147483648) bp_34_4 = true := by decide +kernel
def bp_35_1 : List am_I := [(-2147483648, -1), (0, 0), (1, 1), (2, 2), (3, 3), (4, 2147483647)]
def bp_35_2 : List am_I := [(-2147483648, 2147483647)]
def bp_35_3 : List am_I := [(-2147483648, 2147483647)]
def bp_35_4 : List am_I := [(-2147483648, 2147483647)]
theorem bf_35 : bx_A 35 bp_35_1 bp_35_2 bp_35_3 bp_35_4 := bt_35
theorem bc_35 : bx_cov (-2147483648) bp_35_1 = true ∧ bx_cov (-2147483648) bp_35_2 = true ∧ bx_cov (-2147483648) bp_35_3 = true ∧ bx_cov (-2147483648) bp_35_4 = true := by decide +kernel
def bp_36_1 : List am_I := [(-2147483648, -1), (0, 0), (1, 1), (2, 2), (3, 3), (4, 2147483647)]
def bp_36_2 : List am_I := [(-2147483648, -1), (0, 2), (3, 2147483647)]
def bp_36_3 : List am_I := [(-2147483648, 2147483647)]
def bp_36_4 : List am_I := [(-2147483648, -1), (0, 0), (1, 20), (21, 2147483647)]
theorem bf_36 : bx_A 36 bp_36_1 bp_36_2 bp_36_3 bp_36_4 := bt_36
theorem bc_36 : bx_cov (-2147483648) bp_36_1 = true ∧ bx_cov (-2147483648) bp_36_2 = true ∧ bx_cov (-2147483648) bp_36_3 = true ∧ bx_cov (-2147483648) bp_36_4 = true := by decide +kernel
def bp_37_1 : List am_I := [(-2147483648, 2147483647)]
def bp_37_2 : List am_I := [(-2147483648, 2147483647)]
def bp_37_3 : List am_I := [(-2147483648, 2147483647)]
def bp_37_4 : List am_I := [(-2147483648, 2147483647)]
theorem bf_37 : bx_A 37 bp_37_1 bp_37_2 bp_37_3 bp_37_4 := bt_37
theorem bc_37 : bx_cov (-2147483648) bp_37_1 = true ∧ bx_cov (-2147483648) bp_37_2 = true ∧ bx_cov (-2147483648) bp_37_3 = true ∧ bx_cov (-2147483648) bp_37_4 = true := by decide +kernel
def bp_38_1 : List am_I := [(-2147483648, -1), (0, 0), (1, 1), (2, 2), (3, 3), (4, 4), (5, 5), (6, 6), (7, 2147483647)]
def bp_38_2 : List am_I := [(-2147483648, 2147483647)]
def bp_38_3 : List am_I := [(-2147483648, 2147483647)]
def bp_38_4 : List am_I := [(-2147483648, 2147483647)]
theorem bf_38 : bx_A 38 bp_38_1 bp_38_2 bp_38_3 bp_38_4 := bt_38
theorem bc_38 : bx_cov (-2147483648) bp_38_1 = true ∧ bx_cov (-2147483648) bp_38_2 = true ∧ bx_cov (-2147483648) bp_38_3 = true ∧ bx_cov (-2147483648) bp_38_4 = true := by decide +kernel
theorem bd_all : ((List.range 25).all fun j => bx (39 + (j : Int)) am_top am_top am_top am_top) = true := by decide +kernel
theorem bx_pt {k : Int} {l1 l2 l3 l4 : List am_I} (h : bx_A k l1 l2 l3 l4) (hc : bx_cov (-2147483648) l1 = true ∧ bx_cov (-2147483648) l2 = true ∧ bx_cov (-2147483648) l3 = true ∧ bx_cov (-2147483648) l4 = true) (x1 x2 x3 x4 : Int32) : ∃ b1 b2 b3 b4, am_i b1 x1 ∧ am_i b2 x2 ∧ am_i b3 x3 ∧ am_i b4 x4 ∧ bx k b1 b2 b3 b4 = true := by
  obtain ⟨b1, m1, h1⟩ := bx_in hc.1 x1
  obtain ⟨b2, m2, h2⟩ := bx_in hc.2.1 x2
  obtain ⟨b3, m3, h3⟩ := bx_in hc.2.2.1 x3
  obtain ⟨b4, m4, h4⟩ := bx_in hc.2.2.2 x4
  exact ⟨b1, b2, b3, b4, h1, h2, h3, h4, h b1 m1 b2 m2 b3 m3 b4 m4⟩
theorem bx_every (k : Nat) (hk : k < 64) (x1 x2 x3 x4 : Int32) : ∃ b1 b2 b3 b4, am_i b1 x1 ∧ am_i b2 x2 ∧ am_i b3 x3 ∧ am_i b4 x4 ∧ bx (k : Int) b1 b2 b3 b4 = true := by
  match k, hk with
  | 0, _ => exact bx_pt bf_0 bc_0 x1 x2 x3 x4
  | 1, _ => exact bx_pt bf_1 bc_1 x1 x2 x3 x4
  | 2, _ => exact bx_pt bf_2 bc_2 x1 x2 x3 x4
  | 3, _ => exact bx_pt bf_3 bc_3 x1 x2 x3 x4
  | 4, _ => exact bx_pt bf_4 bc_4 x1 x2 x3 x4
  | 5, _ => exact bx_pt bf_5 bc_5 x1 x2 x3 x4
  | 6, _ => exact bx_pt bf_6 bc_6 x1 x2 x3 x4
  | 7, _ => exact bx_pt bf_7 bc_7 x1 x2 x3 x4
  | 8, _ => exact bx_pt bf_8 bc_8 x1 x2 x3 x4
  | 9, _ => exact bx_pt bf_9 bc_9 x1 x2 x3 x4
  | 10, _ => exact bx_pt bf_10 bc_10 x1 x2 x3 x4
  | 11, _ => exact bx_pt bf_11 bc_11 x1 x2 x3 x4
  | 12, _ => exact bx_pt bf_12 bc_12 x1 x2 x3 x4
  | 13, _ => exact bx_pt bf_13 bc_13 x1 x2 x3 x4
  | 14, _ => exact bx_pt bf_14 bc_14 x1 x2 x3 x4
  | 15, _ => exact bx_pt bf_15 bc_15 x1 x2 x3 x4
  | 16, _ => exact bx_pt bf_16 bc_16 x1 x2 x3 x4
  | 17, _ => exact bx_pt bf_17 bc_17 x1 x2 x3 x4
  | 18, _ => exact bx_pt bf_18 bc_18 x1 x2 x3 x4
  | 19, _ => exact bx_pt bf_19 bc_19 x1 x2 x3 x4
  | 20, _ => exact bx_pt bf_20 bc_20 x1 x2 x3 x4
  | 21, _ => exact bx_pt bf_21 bc_21 x1 x2 x3 x4
  | 22, _ => exact bx_pt bf_22 bc_22 x1 x2 x3 x4
  | 23, _ => exact bx_pt bf_23 bc_23 x1 x2 x3 x4
  | 24, _ => exact bx_pt bf_24 bc_24 x1 x2 x3 x4
  | 25, _ => exact bx_pt bf_25 bc_25 x1 x2 x3 x4
  | 26, _ => exact bx_pt bf_26 bc_26 x1 x2 x3 x4
  | 27, _ => exact bx_pt bf_27 bc_27 x1 x2 x3 x4
  | 28, _ => exact bx_pt bf_28 bc_28 x1 x2 x3 x4
  | 29, _ => exact bx_pt bf_29 bc_29 x1 x2 x3 x4
  | 30, _ => exact bx_pt bf_30 bc_30 x1 x2 x3 x4
  | 31, _ => exact bx_pt bf_31 bc_31 x1 x2 x3 x4
  | 32, _ => exact bx_pt bf_32 bc_32 x1 x2 x3 x4
  | 33, _ => exact bx_pt bf_33 bc_33 x1 x2 x3 x4
  | 34, _ => exact bx_pt bf_34 bc_34 x1 x2 x3 x4
  | 35, _ => exact bx_pt bf_35 bc_35 x1 x2 x3 x4
  | 36, _ => exact bx_pt bf_36 bc_36 x1 x2 x3 x4
  | 37, _ => exact bx_pt bf_37 bc_37 x1 x2 x3 x4
  | 38, _ => exact bx_pt bf_38 bc_38 x1 x2 x3 x4
  | k + 39, hk =>
    have h := List.all_eq_true.mp bd_all k (List.mem_range.mpr (by omega))
    refine ⟨am_top, am_top, am_top, am_top, am_i.top _, am_i.top _, am_i.top _, am_i.top _, ?_⟩
    have e : ((k + 39 : Nat) : Int) = 39 + (k : Int) := by omega
    rw [e]
    exact h
