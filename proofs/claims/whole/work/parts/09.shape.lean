/-! ===== the shape of the world once both objects are made ===== -/
def zK0 : List (Nat × Nat) := [(9, 11), (5, 9), (20, 6), (20, 8), (20, 8), (20, 8), (20, 4), (20, 4), (8, 5), (20, 200), (3, 3), (5, 9), (20, 6), (20, 8), (20, 8), (20, 8), (20, 4), (20, 4), (1, 9), (20, 8), (20, 8), (20, 8), (20, 4), (20, 4), (20, 4), (1, 9), (20, 8), (20, 8), (20, 8), (20, 4), (20, 4), (20, 4), (4, 3), (22, 8), (1, 9), (20, 8), (20, 8), (20, 8), (20, 4), (20, 4), (20, 4), (1, 9), (20, 8), (20, 8), (20, 8), (20, 4), (20, 4), (20, 4), (1, 9), (20, 8), (20, 8), (20, 8), (20, 4), (20, 4), (20, 4), (1, 9), (20, 8), (20, 8), (20, 8), (20, 4), (20, 4), (20, 4), (1, 9), (20, 8), (20, 8), (20, 8), (20, 4), (20, 4), (20, 4), (1, 9), (20, 8), (20, 8), (20, 8), (20, 4), (20, 4), (20, 4), (1, 9), (20, 8), (20, 8), (20, 8), (20, 4), (20, 4), (20, 4), (1, 9), (20, 8), (20, 8), (20, 8), (20, 4), (20, 4), (20, 4), (22, 2), (1, 9), (20, 8), (20, 8), (20, 8), (20, 4), (20, 4), (20, 4), (1, 9), (20, 8), (20, 8), (20, 8), (20, 4), (20, 4), (20, 4), (21, 2), (2, 4), (20, 4), (20, 4), (7, 4), (20, 6), (20, 6), (20, 6), (6, 1), (23, 4), (0, 3), (20, 10), (20, 10), (0, 3), (20, 10), (20, 10), (0, 3), (20, 10), (20, 10), (0, 3), (20, 10), (20, 10), (10, 34), (20, 910), (21, 2), (20, 200), (20, 6), (20, 6), (20, 6), (20, 4), (20, 40), (20, 40), (20, 2), (20, 4), (20, 3), (20, 4), (20, 7), (20, 4), (20, 4), (20, 8), (20, 5), (20, 4), (20, 4), (20, 10), (20, 10)]
def zR0 : List (List Nat) := [[2, 9, 11, 19, 26, 33, 91, 106, 107, 110, 114], [0, 0, 0, 3, 4, 5, 6, 7, 8], [], [], [], [], [], [], [10, 0, 0, 0, 0], [], [9, 12, 0], [0, 0, 0, 13, 14, 15, 16, 17, 18], [], [], [], [], [], [], [2, 0, 20, 21, 22, 0, 23, 24, 25], [], [], [], [], [], [], [2, 0, 27, 28, 29, 0, 30, 31, 32], [], [], [], [], [], [], [34, 0, 0], [35, 42, 49, 56, 63, 70, 77, 84], [2, 0, 36, 37, 38, 0, 39, 40, 41], [], [], [], [], [], [], [2, 0, 43, 44, 45, 0, 46, 47, 48], [], [], [], [], [], [], [2, 0, 50, 51, 52, 0, 53, 54, 55], [], [], [], [], [], [], [2, 0, 57, 58, 59, 0, 60, 61, 62], [], [], [], [], [], [], [2, 0, 64, 65, 66, 0, 67, 68, 69], [], [], [], [], [], [], [2, 0, 71, 72, 73, 0, 74, 75, 76], [], [], [], [], [], [], [2, 0, 78, 79, 80, 0, 81, 82, 83], [], [], [], [], [], [], [2, 0, 85, 86, 87, 0, 88, 89, 90], [], [], [], [], [], [], [92, 99], [2, 0, 93, 94, 95, 0, 96, 97, 98], [], [], [], [], [], [], [2, 0, 100, 101, 102, 0, 103, 104, 105], [], [], [], [], [], [], [], [108, 109, 0, 0], [], [], [111, 112, 113, 0], [], [], [], [115], [116, 119, 122, 125], [117, 118, 0], [], [], [120, 121, 0], [], [], [123, 124, 0], [], [], [126, 127, 0], [], [], [129, 0, 130, 131, 0, 0, 132, 133, 134, 135, 136, 137, 0, 0, 0, 0, 0, 0, 0, 138, 139, 140, 141, 142, 143, 144, 145, 146, 0, 0, 147, 148, 149, 150], [], [], [], [], [], [], [], [], [], [], [], [], [], [], [], [], [], [], [], [], [], []]
def S0 : zS := (150, fun k => zK0.getD k (20, 0), fun k j => (zR0.getD k []).getD j 0)
theorem k0_0 : 0 < S0.1 := by decide
theorem s0_0 : S0.2.1 0 = (9, 11) := by decide +kernel
theorem r0_0_0 : S0.2.2 0 0 = 1 + 1 := by decide +kernel
theorem r0_0_1 : S0.2.2 0 1 = 8 + 1 := by decide +kernel
theorem r0_0_2 : S0.2.2 0 2 = 10 + 1 := by decide +kernel
theorem r0_0_3 : S0.2.2 0 3 = 18 + 1 := by decide +kernel
theorem r0_0_4 : S0.2.2 0 4 = 25 + 1 := by decide +kernel
theorem r0_0_5 : S0.2.2 0 5 = 32 + 1 := by decide +kernel
theorem r0_0_6 : S0.2.2 0 6 = 90 + 1 := by decide +kernel
theorem r0_0_7 : S0.2.2 0 7 = 105 + 1 := by decide +kernel
theorem r0_0_8 : S0.2.2 0 8 = 106 + 1 := by decide +kernel
theorem r0_0_9 : S0.2.2 0 9 = 109 + 1 := by decide +kernel
theorem r0_0_10 : S0.2.2 0 10 = 113 + 1 := by decide +kernel
theorem k0_1 : 1 < S0.1 := by decide
theorem s0_1 : S0.2.1 1 = (5, 9) := by decide +kernel
theorem r0_1_3 : S0.2.2 1 3 = 2 + 1 := by decide +kernel
theorem r0_1_4 : S0.2.2 1 4 = 3 + 1 := by decide +kernel
theorem r0_1_5 : S0.2.2 1 5 = 4 + 1 := by decide +kernel
theorem r0_1_6 : S0.2.2 1 6 = 5 + 1 := by decide +kernel
theorem r0_1_7 : S0.2.2 1 7 = 6 + 1 := by decide +kernel
theorem r0_1_8 : S0.2.2 1 8 = 7 + 1 := by decide +kernel
theorem k0_2 : 2 < S0.1 := by decide
theorem s0_2 : S0.2.1 2 = (20, 6) := by decide +kernel
theorem k0_3 : 3 < S0.1 := by decide
theorem s0_3 : S0.2.1 3 = (20, 8) := by decide +kernel
theorem k0_4 : 4 < S0.1 := by decide
theorem s0_4 : S0.2.1 4 = (20, 8) := by decide +kernel
theorem k0_5 : 5 < S0.1 := by decide
theorem s0_5 : S0.2.1 5 = (20, 8) := by decide +kernel
theorem k0_6 : 6 < S0.1 := by decide
theorem s0_6 : S0.2.1 6 = (20, 4) := by decide +kernel
theorem k0_7 : 7 < S0.1 := by decide
theorem s0_7 : S0.2.1 7 = (20, 4) := by decide +kernel
theorem k0_8 : 8 < S0.1 := by decide
theorem s0_8 : S0.2.1 8 = (8, 5) := by decide +kernel
theorem r0_8_0 : S0.2.2 8 0 = 9 + 1 := by decide +kernel
theorem k0_9 : 9 < S0.1 := by decide
theorem s0_9 : S0.2.1 9 = (20, 200) := by decide +kernel
theorem k0_10 : 10 < S0.1 := by decide
theorem s0_10 : S0.2.1 10 = (3, 3) := by decide +kernel
theorem r0_10_0 : S0.2.2 10 0 = 8 + 1 := by decide +kernel
theorem r0_10_1 : S0.2.2 10 1 = 11 + 1 := by decide +kernel
theorem k0_11 : 11 < S0.1 := by decide
theorem s0_11 : S0.2.1 11 = (5, 9) := by decide +kernel
theorem r0_11_3 : S0.2.2 11 3 = 12 + 1 := by decide +kernel
theorem r0_11_4 : S0.2.2 11 4 = 13 + 1 := by decide +kernel
theorem r0_11_5 : S0.2.2 11 5 = 14 + 1 := by decide +kernel
theorem r0_11_6 : S0.2.2 11 6 = 15 + 1 := by decide +kernel
theorem r0_11_7 : S0.2.2 11 7 = 16 + 1 := by decide +kernel
theorem r0_11_8 : S0.2.2 11 8 = 17 + 1 := by decide +kernel
theorem k0_12 : 12 < S0.1 := by decide
theorem s0_12 : S0.2.1 12 = (20, 6) := by decide +kernel
theorem k0_13 : 13 < S0.1 := by decide
theorem s0_13 : S0.2.1 13 = (20, 8) := by decide +kernel
theorem k0_14 : 14 < S0.1 := by decide
theorem s0_14 : S0.2.1 14 = (20, 8) := by decide +kernel
theorem k0_15 : 15 < S0.1 := by decide
theorem s0_15 : S0.2.1 15 = (20, 8) := by decide +kernel
theorem k0_16 : 16 < S0.1 := by decide
theorem s0_16 : S0.2.1 16 = (20, 4) := by decide +kernel
theorem k0_17 : 17 < S0.1 := by decide
theorem s0_17 : S0.2.1 17 = (20, 4) := by decide +kernel
theorem k0_18 : 18 < S0.1 := by decide
theorem s0_18 : S0.2.1 18 = (1, 9) := by decide +kernel
theorem r0_18_0 : S0.2.2 18 0 = 1 + 1 := by decide +kernel
theorem r0_18_2 : S0.2.2 18 2 = 19 + 1 := by decide +kernel
theorem r0_18_3 : S0.2.2 18 3 = 20 + 1 := by decide +kernel
theorem r0_18_4 : S0.2.2 18 4 = 21 + 1 := by decide +kernel
theorem r0_18_6 : S0.2.2 18 6 = 22 + 1 := by decide +kernel
theorem r0_18_7 : S0.2.2 18 7 = 23 + 1 := by decide +kernel
theorem r0_18_8 : S0.2.2 18 8 = 24 + 1 := by decide +kernel
theorem k0_19 : 19 < S0.1 := by decide
theorem s0_19 : S0.2.1 19 = (20, 8) := by decide +kernel
theorem k0_20 : 20 < S0.1 := by decide
theorem s0_20 : S0.2.1 20 = (20, 8) := by decide +kernel
theorem k0_21 : 21 < S0.1 := by decide
theorem s0_21 : S0.2.1 21 = (20, 8) := by decide +kernel
theorem k0_22 : 22 < S0.1 := by decide
theorem s0_22 : S0.2.1 22 = (20, 4) := by decide +kernel
theorem k0_23 : 23 < S0.1 := by decide
theorem s0_23 : S0.2.1 23 = (20, 4) := by decide +kernel
theorem k0_24 : 24 < S0.1 := by decide
theorem s0_24 : S0.2.1 24 = (20, 4) := by decide +kernel
theorem k0_25 : 25 < S0.1 := by decide
theorem s0_25 : S0.2.1 25 = (1, 9) := by decide +kernel
theorem r0_25_0 : S0.2.2 25 0 = 1 + 1 := by decide +kernel
theorem r0_25_2 : S0.2.2 25 2 = 26 + 1 := by decide +kernel
theorem r0_25_3 : S0.2.2 25 3 = 27 + 1 := by decide +kernel
theorem r0_25_4 : S0.2.2 25 4 = 28 + 1 := by decide +kernel
theorem r0_25_6 : S0.2.2 25 6 = 29 + 1 := by decide +kernel
theorem r0_25_7 : S0.2.2 25 7 = 30 + 1 := by decide +kernel
theorem r0_25_8 : S0.2.2 25 8 = 31 + 1 := by decide +kernel
theorem k0_26 : 26 < S0.1 := by decide
theorem s0_26 : S0.2.1 26 = (20, 8) := by decide +kernel
theorem k0_27 : 27 < S0.1 := by decide
theorem s0_27 : S0.2.1 27 = (20, 8) := by decide +kernel
theorem k0_28 : 28 < S0.1 := by decide
theorem s0_28 : S0.2.1 28 = (20, 8) := by decide +kernel
theorem k0_29 : 29 < S0.1 := by decide
theorem s0_29 : S0.2.1 29 = (20, 4) := by decide +kernel
theorem k0_30 : 30 < S0.1 := by decide
theorem s0_30 : S0.2.1 30 = (20, 4) := by decide +kernel
theorem k0_31 : 31 < S0.1 := by decide
theorem s0_31 : S0.2.1 31 = (20, 4) := by decide +kernel
theorem k0_32 : 32 < S0.1 := by decide
theorem s0_32 : S0.2.1 32 = (4, 3) := by decide +kernel
theorem r0_32_0 : S0.2.2 32 0 = 33 + 1 := by decide +kernel
theorem k0_33 : 33 < S0.1 := by decide
theorem s0_33 : S0.2.1 33 = (22, 8) := by decide +kernel
theorem r0_33_0 : S0.2.2 33 0 = 34 + 1 := by decide +kernel
theorem r0_33_1 : S0.2.2 33 1 = 41 + 1 := by decide +kernel
theorem r0_33_2 : S0.2.2 33 2 = 48 + 1 := by decide +kernel
theorem r0_33_3 : S0.2.2 33 3 = 55 + 1 := by decide +kernel
theorem r0_33_4 : S0.2.2 33 4 = 62 + 1 := by decide +kernel
theorem r0_33_5 : S0.2.2 33 5 = 69 + 1 := by decide +kernel
theorem r0_33_6 : S0.2.2 33 6 = 76 + 1 := by decide +kernel
theorem r0_33_7 : S0.2.2 33 7 = 83 + 1 := by decide +kernel
theorem k0_34 : 34 < S0.1 := by decide
theorem s0_34 : S0.2.1 34 = (1, 9) := by decide +kernel
theorem r0_34_0 : S0.2.2 34 0 = 1 + 1 := by decide +kernel
theorem r0_34_2 : S0.2.2 34 2 = 35 + 1 := by decide +kernel
theorem r0_34_3 : S0.2.2 34 3 = 36 + 1 := by decide +kernel
theorem r0_34_4 : S0.2.2 34 4 = 37 + 1 := by decide +kernel
theorem r0_34_6 : S0.2.2 34 6 = 38 + 1 := by decide +kernel
theorem r0_34_7 : S0.2.2 34 7 = 39 + 1 := by decide +kernel
theorem r0_34_8 : S0.2.2 34 8 = 40 + 1 := by decide +kernel
theorem k0_35 : 35 < S0.1 := by decide
theorem s0_35 : S0.2.1 35 = (20, 8) := by decide +kernel
theorem k0_36 : 36 < S0.1 := by decide
theorem s0_36 : S0.2.1 36 = (20, 8) := by decide +kernel
theorem k0_37 : 37 < S0.1 := by decide
theorem s0_37 : S0.2.1 37 = (20, 8) := by decide +kernel
theorem k0_38 : 38 < S0.1 := by decide
theorem s0_38 : S0.2.1 38 = (20, 4) := by decide +kernel
theorem k0_39 : 39 < S0.1 := by decide
theorem s0_39 : S0.2.1 39 = (20, 4) := by decide +kernel
theorem k0_40 : 40 < S0.1 := by decide
theorem s0_40 : S0.2.1 40 = (20, 4) := by decide +kernel
theorem k0_41 : 41 < S0.1 := by decide
theorem s0_41 : S0.2.1 41 = (1, 9) := by decide +kernel
theorem r0_41_0 : S0.2.2 41 0 = 1 + 1 := by decide +kernel
theorem r0_41_2 : S0.2.2 41 2 = 42 + 1 := by decide +kernel
theorem r0_41_3 : S0.2.2 41 3 = 43 + 1 := by decide +kernel
theorem r0_41_4 : S0.2.2 41 4 = 44 + 1 := by decide +kernel
theorem r0_41_6 : S0.2.2 41 6 = 45 + 1 := by decide +kernel
theorem r0_41_7 : S0.2.2 41 7 = 46 + 1 := by decide +kernel
theorem r0_41_8 : S0.2.2 41 8 = 47 + 1 := by decide +kernel
theorem k0_42 : 42 < S0.1 := by decide
theorem s0_42 : S0.2.1 42 = (20, 8) := by decide +kernel
theorem k0_43 : 43 < S0.1 := by decide
theorem s0_43 : S0.2.1 43 = (20, 8) := by decide +kernel
theorem k0_44 : 44 < S0.1 := by decide
theorem s0_44 : S0.2.1 44 = (20, 8) := by decide +kernel
theorem k0_45 : 45 < S0.1 := by decide
theorem s0_45 : S0.2.1 45 = (20, 4) := by decide +kernel
theorem k0_46 : 46 < S0.1 := by decide
theorem s0_46 : S0.2.1 46 = (20, 4) := by decide +kernel
theorem k0_47 : 47 < S0.1 := by decide
theorem s0_47 : S0.2.1 47 = (20, 4) := by decide +kernel
theorem k0_48 : 48 < S0.1 := by decide
theorem s0_48 : S0.2.1 48 = (1, 9) := by decide +kernel
theorem r0_48_0 : S0.2.2 48 0 = 1 + 1 := by decide +kernel
theorem r0_48_2 : S0.2.2 48 2 = 49 + 1 := by decide +kernel
theorem r0_48_3 : S0.2.2 48 3 = 50 + 1 := by decide +kernel
theorem r0_48_4 : S0.2.2 48 4 = 51 + 1 := by decide +kernel
theorem r0_48_6 : S0.2.2 48 6 = 52 + 1 := by decide +kernel
theorem r0_48_7 : S0.2.2 48 7 = 53 + 1 := by decide +kernel
theorem r0_48_8 : S0.2.2 48 8 = 54 + 1 := by decide +kernel
theorem k0_49 : 49 < S0.1 := by decide
theorem s0_49 : S0.2.1 49 = (20, 8) := by decide +kernel
theorem k0_50 : 50 < S0.1 := by decide
theorem s0_50 : S0.2.1 50 = (20, 8) := by decide +kernel
theorem k0_51 : 51 < S0.1 := by decide
theorem s0_51 : S0.2.1 51 = (20, 8) := by decide +kernel
theorem k0_52 : 52 < S0.1 := by decide
theorem s0_52 : S0.2.1 52 = (20, 4) := by decide +kernel
theorem k0_53 : 53 < S0.1 := by decide
theorem s0_53 : S0.2.1 53 = (20, 4) := by decide +kernel
theorem k0_54 : 54 < S0.1 := by decide
theorem s0_54 : S0.2.1 54 = (20, 4) := by decide +kernel
theorem k0_55 : 55 < S0.1 := by decide
theorem s0_55 : S0.2.1 55 = (1, 9) := by decide +kernel
theorem r0_55_0 : S0.2.2 55 0 = 1 + 1 := by decide +kernel
theorem r0_55_2 : S0.2.2 55 2 = 56 + 1 := by decide +kernel
theorem r0_55_3 : S0.2.2 55 3 = 57 + 1 := by decide +kernel
theorem r0_55_4 : S0.2.2 55 4 = 58 + 1 := by decide +kernel
theorem r0_55_6 : S0.2.2 55 6 = 59 + 1 := by decide +kernel
theorem r0_55_7 : S0.2.2 55 7 = 60 + 1 := by decide +kernel
theorem r0_55_8 : S0.2.2 55 8 = 61 + 1 := by decide +kernel
theorem k0_56 : 56 < S0.1 := by decide
theorem s0_56 : S0.2.1 56 = (20, 8) := by decide +kernel
theorem k0_57 : 57 < S0.1 := by decide
theorem s0_57 : S0.2.1 57 = (20, 8) := by decide +kernel
theorem k0_58 : 58 < S0.1 := by decide
theorem s0_58 : S0.2.1 58 = (20, 8) := by decide +kernel
theorem k0_59 : 59 < S0.1 := by decide
theorem s0_59 : S0.2.1 59 = (20, 4) := by decide +kernel
theorem k0_60 : 60 < S0.1 := by decide
theorem s0_60 : S0.2.1 60 = (20, 4) := by decide +kernel
theorem k0_61 : 61 < S0.1 := by decide
theorem s0_61 : S0.2.1 61 = (20, 4) := by decide +kernel
theorem k0_62 : 62 < S0.1 := by decide
theorem s0_62 : S0.2.1 62 = (1, 9) := by decide +kernel
theorem r0_62_0 : S0.2.2 62 0 = 1 + 1 := by decide +kernel
theorem r0_62_2 : S0.2.2 62 2 = 63 + 1 := by decide +kernel
theorem r0_62_3 : S0.2.2 62 3 = 64 + 1 := by decide +kernel
theorem r0_62_4 : S0.2.2 62 4 = 65 + 1 := by decide +kernel
theorem r0_62_6 : S0.2.2 62 6 = 66 + 1 := by decide +kernel
theorem r0_62_7 : S0.2.2 62 7 = 67 + 1 := by decide +kernel
theorem r0_62_8 : S0.2.2 62 8 = 68 + 1 := by decide +kernel
theorem k0_63 : 63 < S0.1 := by decide
theorem s0_63 : S0.2.1 63 = (20, 8) := by decide +kernel
theorem k0_64 : 64 < S0.1 := by decide
theorem s0_64 : S0.2.1 64 = (20, 8) := by decide +kernel
theorem k0_65 : 65 < S0.1 := by decide
theorem s0_65 : S0.2.1 65 = (20, 8) := by decide +kernel
theorem k0_66 : 66 < S0.1 := by decide
theorem s0_66 : S0.2.1 66 = (20, 4) := by decide +kernel
theorem k0_67 : 67 < S0.1 := by decide
theorem s0_67 : S0.2.1 67 = (20, 4) := by decide +kernel
theorem k0_68 : 68 < S0.1 := by decide
theorem s0_68 : S0.2.1 68 = (20, 4) := by decide +kernel
theorem k0_69 : 69 < S0.1 := by decide
theorem s0_69 : S0.2.1 69 = (1, 9) := by decide +kernel
theorem r0_69_0 : S0.2.2 69 0 = 1 + 1 := by decide +kernel
theorem r0_69_2 : S0.2.2 69 2 = 70 + 1 := by decide +kernel
theorem r0_69_3 : S0.2.2 69 3 = 71 + 1 := by decide +kernel
theorem r0_69_4 : S0.2.2 69 4 = 72 + 1 := by decide +kernel
theorem r0_69_6 : S0.2.2 69 6 = 73 + 1 := by decide +kernel
theorem r0_69_7 : S0.2.2 69 7 = 74 + 1 := by decide +kernel
theorem r0_69_8 : S0.2.2 69 8 = 75 + 1 := by decide +kernel
theorem k0_70 : 70 < S0.1 := by decide
theorem s0_70 : S0.2.1 70 = (20, 8) := by decide +kernel
theorem k0_71 : 71 < S0.1 := by decide
theorem s0_71 : S0.2.1 71 = (20, 8) := by decide +kernel
theorem k0_72 : 72 < S0.1 := by decide
theorem s0_72 : S0.2.1 72 = (20, 8) := by decide +kernel
theorem k0_73 : 73 < S0.1 := by decide
theorem s0_73 : S0.2.1 73 = (20, 4) := by decide +kernel
theorem k0_74 : 74 < S0.1 := by decide
theorem s0_74 : S0.2.1 74 = (20, 4) := by decide +kernel
theorem k0_75 : 75 < S0.1 := by decide
theorem s0_75 : S0.2.1 75 = (20, 4) := by decide +kernel
theorem k0_76 : 76 < S0.1 := by decide
theorem s0_76 : S0.2.1 76 = (1, 9) := by decide +kernel
theorem r0_76_0 : S0.2.2 76 0 = 1 + 1 := by decide +kernel
theorem r0_76_2 : S0.2.2 76 2 = 77 + 1 := by decide +kernel
theorem r0_76_3 : S0.2.2 76 3 = 78 + 1 := by decide +kernel
theorem r0_76_4 : S0.2.2 76 4 = 79 + 1 := by decide +kernel
theorem r0_76_6 : S0.2.2 76 6 = 80 + 1 := by decide +kernel
theorem r0_76_7 : S0.2.2 76 7 = 81 + 1 := by decide +kernel
theorem r0_76_8 : S0.2.2 76 8 = 82 + 1 := by decide +kernel
theorem k0_77 : 77 < S0.1 := by decide
theorem s0_77 : S0.2.1 77 = (20, 8) := by decide +kernel
theorem k0_78 : 78 < S0.1 := by decide
theorem s0_78 : S0.2.1 78 = (20, 8) := by decide +kernel
theorem k0_79 : 79 < S0.1 := by decide
theorem s0_79 : S0.2.1 79 = (20, 8) := by decide +kernel
theorem k0_80 : 80 < S0.1 := by decide
theorem s0_80 : S0.2.1 80 = (20, 4) := by decide +kernel
theorem k0_81 : 81 < S0.1 := by decide
theorem s0_81 : S0.2.1 81 = (20, 4) := by decide +kernel
theorem k0_82 : 82 < S0.1 := by decide
theorem s0_82 : S0.2.1 82 = (20, 4) := by decide +kernel
theorem k0_83 : 83 < S0.1 := by decide
theorem s0_83 : S0.2.1 83 = (1, 9) := by decide +kernel
theorem r0_83_0 : S0.2.2 83 0 = 1 + 1 := by decide +kernel
theorem r0_83_2 : S0.2.2 83 2 = 84 + 1 := by decide +kernel
theorem r0_83_3 : S0.2.2 83 3 = 85 + 1 := by decide +kernel
theorem r0_83_4 : S0.2.2 83 4 = 86 + 1 := by decide +kernel
theorem r0_83_6 : S0.2.2 83 6 = 87 + 1 := by decide +kernel
theorem r0_83_7 : S0.2.2 83 7 = 88 + 1 := by decide +kernel
theorem r0_83_8 : S0.2.2 83 8 = 89 + 1 := by decide +kernel
theorem k0_84 : 84 < S0.1 := by decide
theorem s0_84 : S0.2.1 84 = (20, 8) := by decide +kernel
theorem k0_85 : 85 < S0.1 := by decide
theorem s0_85 : S0.2.1 85 = (20, 8) := by decide +kernel
theorem k0_86 : 86 < S0.1 := by decide
theorem s0_86 : S0.2.1 86 = (20, 8) := by decide +kernel
theorem k0_87 : 87 < S0.1 := by decide
theorem s0_87 : S0.2.1 87 = (20, 4) := by decide +kernel
theorem k0_88 : 88 < S0.1 := by decide
theorem s0_88 : S0.2.1 88 = (20, 4) := by decide +kernel
theorem k0_89 : 89 < S0.1 := by decide
theorem s0_89 : S0.2.1 89 = (20, 4) := by decide +kernel
theorem k0_90 : 90 < S0.1 := by decide
theorem s0_90 : S0.2.1 90 = (22, 2) := by decide +kernel
theorem r0_90_0 : S0.2.2 90 0 = 91 + 1 := by decide +kernel
theorem r0_90_1 : S0.2.2 90 1 = 98 + 1 := by decide +kernel
theorem k0_91 : 91 < S0.1 := by decide
theorem s0_91 : S0.2.1 91 = (1, 9) := by decide +kernel
theorem r0_91_0 : S0.2.2 91 0 = 1 + 1 := by decide +kernel
theorem r0_91_2 : S0.2.2 91 2 = 92 + 1 := by decide +kernel
theorem r0_91_3 : S0.2.2 91 3 = 93 + 1 := by decide +kernel
theorem r0_91_4 : S0.2.2 91 4 = 94 + 1 := by decide +kernel
theorem r0_91_6 : S0.2.2 91 6 = 95 + 1 := by decide +kernel
theorem r0_91_7 : S0.2.2 91 7 = 96 + 1 := by decide +kernel
theorem r0_91_8 : S0.2.2 91 8 = 97 + 1 := by decide +kernel
theorem k0_92 : 92 < S0.1 := by decide
theorem s0_92 : S0.2.1 92 = (20, 8) := by decide +kernel
theorem k0_93 : 93 < S0.1 := by decide
theorem s0_93 : S0.2.1 93 = (20, 8) := by decide +kernel
theorem k0_94 : 94 < S0.1 := by decide
theorem s0_94 : S0.2.1 94 = (20, 8) := by decide +kernel
theorem k0_95 : 95 < S0.1 := by decide
theorem s0_95 : S0.2.1 95 = (20, 4) := by decide +kernel
theorem k0_96 : 96 < S0.1 := by decide
theorem s0_96 : S0.2.1 96 = (20, 4) := by decide +kernel
theorem k0_97 : 97 < S0.1 := by decide
theorem s0_97 : S0.2.1 97 = (20, 4) := by decide +kernel
theorem k0_98 : 98 < S0.1 := by decide
theorem s0_98 : S0.2.1 98 = (1, 9) := by decide +kernel
theorem r0_98_0 : S0.2.2 98 0 = 1 + 1 := by decide +kernel
theorem r0_98_2 : S0.2.2 98 2 = 99 + 1 := by decide +kernel
theorem r0_98_3 : S0.2.2 98 3 = 100 + 1 := by decide +kernel
theorem r0_98_4 : S0.2.2 98 4 = 101 + 1 := by decide +kernel
theorem r0_98_6 : S0.2.2 98 6 = 102 + 1 := by decide +kernel
theorem r0_98_7 : S0.2.2 98 7 = 103 + 1 := by decide +kernel
theorem r0_98_8 : S0.2.2 98 8 = 104 + 1 := by decide +kernel
theorem k0_99 : 99 < S0.1 := by decide
theorem s0_99 : S0.2.1 99 = (20, 8) := by decide +kernel
theorem k0_100 : 100 < S0.1 := by decide
theorem s0_100 : S0.2.1 100 = (20, 8) := by decide +kernel
theorem k0_101 : 101 < S0.1 := by decide
theorem s0_101 : S0.2.1 101 = (20, 8) := by decide +kernel
theorem k0_102 : 102 < S0.1 := by decide
theorem s0_102 : S0.2.1 102 = (20, 4) := by decide +kernel
theorem k0_103 : 103 < S0.1 := by decide
theorem s0_103 : S0.2.1 103 = (20, 4) := by decide +kernel
theorem k0_104 : 104 < S0.1 := by decide
theorem s0_104 : S0.2.1 104 = (20, 4) := by decide +kernel
theorem k0_105 : 105 < S0.1 := by decide
theorem s0_105 : S0.2.1 105 = (21, 2) := by decide +kernel
theorem k0_106 : 106 < S0.1 := by decide
theorem s0_106 : S0.2.1 106 = (2, 4) := by decide +kernel
theorem r0_106_0 : S0.2.2 106 0 = 107 + 1 := by decide +kernel
theorem r0_106_1 : S0.2.2 106 1 = 108 + 1 := by decide +kernel
theorem k0_107 : 107 < S0.1 := by decide
theorem s0_107 : S0.2.1 107 = (20, 4) := by decide +kernel
theorem k0_108 : 108 < S0.1 := by decide
theorem s0_108 : S0.2.1 108 = (20, 4) := by decide +kernel
theorem k0_109 : 109 < S0.1 := by decide
theorem s0_109 : S0.2.1 109 = (7, 4) := by decide +kernel
theorem r0_109_0 : S0.2.2 109 0 = 110 + 1 := by decide +kernel
theorem r0_109_1 : S0.2.2 109 1 = 111 + 1 := by decide +kernel
theorem r0_109_2 : S0.2.2 109 2 = 112 + 1 := by decide +kernel
theorem k0_110 : 110 < S0.1 := by decide
theorem s0_110 : S0.2.1 110 = (20, 6) := by decide +kernel
theorem k0_111 : 111 < S0.1 := by decide
theorem s0_111 : S0.2.1 111 = (20, 6) := by decide +kernel
theorem k0_112 : 112 < S0.1 := by decide
theorem s0_112 : S0.2.1 112 = (20, 6) := by decide +kernel
theorem k0_113 : 113 < S0.1 := by decide
theorem s0_113 : S0.2.1 113 = (6, 1) := by decide +kernel
theorem r0_113_0 : S0.2.2 113 0 = 114 + 1 := by decide +kernel
theorem k0_114 : 114 < S0.1 := by decide
theorem s0_114 : S0.2.1 114 = (23, 4) := by decide +kernel
theorem r0_114_0 : S0.2.2 114 0 = 115 + 1 := by decide +kernel
theorem r0_114_1 : S0.2.2 114 1 = 118 + 1 := by decide +kernel
theorem r0_114_2 : S0.2.2 114 2 = 121 + 1 := by decide +kernel
theorem r0_114_3 : S0.2.2 114 3 = 124 + 1 := by decide +kernel
theorem k0_115 : 115 < S0.1 := by decide
theorem s0_115 : S0.2.1 115 = (0, 3) := by decide +kernel
theorem r0_115_0 : S0.2.2 115 0 = 116 + 1 := by decide +kernel
theorem r0_115_1 : S0.2.2 115 1 = 117 + 1 := by decide +kernel
theorem k0_116 : 116 < S0.1 := by decide
theorem s0_116 : S0.2.1 116 = (20, 10) := by decide +kernel
theorem k0_117 : 117 < S0.1 := by decide
theorem s0_117 : S0.2.1 117 = (20, 10) := by decide +kernel
theorem k0_118 : 118 < S0.1 := by decide
theorem s0_118 : S0.2.1 118 = (0, 3) := by decide +kernel
theorem r0_118_0 : S0.2.2 118 0 = 119 + 1 := by decide +kernel
theorem r0_118_1 : S0.2.2 118 1 = 120 + 1 := by decide +kernel
theorem k0_119 : 119 < S0.1 := by decide
theorem s0_119 : S0.2.1 119 = (20, 10) := by decide +kernel
theorem k0_120 : 120 < S0.1 := by decide
theorem s0_120 : S0.2.1 120 = (20, 10) := by decide +kernel
theorem k0_121 : 121 < S0.1 := by decide
theorem s0_121 : S0.2.1 121 = (0, 3) := by decide +kernel
theorem r0_121_0 : S0.2.2 121 0 = 122 + 1 := by decide +kernel
theorem r0_121_1 : S0.2.2 121 1 = 123 + 1 := by decide +kernel
theorem k0_122 : 122 < S0.1 := by decide
theorem s0_122 : S0.2.1 122 = (20, 10) := by decide +kernel
theorem k0_123 : 123 < S0.1 := by decide
theorem s0_123 : S0.2.1 123 = (20, 10) := by decide +kernel
theorem k0_124 : 124 < S0.1 := by decide
theorem s0_124 : S0.2.1 124 = (0, 3) := by decide +kernel
theorem r0_124_0 : S0.2.2 124 0 = 125 + 1 := by decide +kernel
theorem r0_124_1 : S0.2.2 124 1 = 126 + 1 := by decide +kernel
theorem k0_125 : 125 < S0.1 := by decide
theorem s0_125 : S0.2.1 125 = (20, 10) := by decide +kernel
theorem k0_126 : 126 < S0.1 := by decide
theorem s0_126 : S0.2.1 126 = (20, 10) := by decide +kernel
theorem k0_127 : 127 < S0.1 := by decide
theorem s0_127 : S0.2.1 127 = (10, 34) := by decide +kernel
theorem r0_127_0 : S0.2.2 127 0 = 128 + 1 := by decide +kernel
theorem r0_127_2 : S0.2.2 127 2 = 129 + 1 := by decide +kernel
theorem r0_127_3 : S0.2.2 127 3 = 130 + 1 := by decide +kernel
theorem r0_127_6 : S0.2.2 127 6 = 131 + 1 := by decide +kernel
theorem r0_127_7 : S0.2.2 127 7 = 132 + 1 := by decide +kernel
theorem r0_127_8 : S0.2.2 127 8 = 133 + 1 := by decide +kernel
theorem r0_127_9 : S0.2.2 127 9 = 134 + 1 := by decide +kernel
theorem r0_127_10 : S0.2.2 127 10 = 135 + 1 := by decide +kernel
theorem r0_127_11 : S0.2.2 127 11 = 136 + 1 := by decide +kernel
theorem r0_127_19 : S0.2.2 127 19 = 137 + 1 := by decide +kernel
theorem r0_127_20 : S0.2.2 127 20 = 138 + 1 := by decide +kernel
theorem r0_127_21 : S0.2.2 127 21 = 139 + 1 := by decide +kernel
theorem r0_127_22 : S0.2.2 127 22 = 140 + 1 := by decide +kernel
theorem r0_127_23 : S0.2.2 127 23 = 141 + 1 := by decide +kernel
theorem r0_127_24 : S0.2.2 127 24 = 142 + 1 := by decide +kernel
theorem r0_127_25 : S0.2.2 127 25 = 143 + 1 := by decide +kernel
theorem r0_127_26 : S0.2.2 127 26 = 144 + 1 := by decide +kernel
theorem r0_127_27 : S0.2.2 127 27 = 145 + 1 := by decide +kernel
theorem r0_127_30 : S0.2.2 127 30 = 146 + 1 := by decide +kernel
theorem r0_127_31 : S0.2.2 127 31 = 147 + 1 := by decide +kernel
theorem r0_127_32 : S0.2.2 127 32 = 148 + 1 := by decide +kernel
theorem r0_127_33 : S0.2.2 127 33 = 149 + 1 := by decide +kernel
theorem k0_128 : 128 < S0.1 := by decide
theorem s0_128 : S0.2.1 128 = (20, 910) := by decide +kernel
theorem k0_129 : 129 < S0.1 := by decide
theorem s0_129 : S0.2.1 129 = (21, 2) := by decide +kernel
theorem k0_130 : 130 < S0.1 := by decide
theorem s0_130 : S0.2.1 130 = (20, 200) := by decide +kernel
theorem k0_131 : 131 < S0.1 := by decide
theorem s0_131 : S0.2.1 131 = (20, 6) := by decide +kernel
theorem k0_132 : 132 < S0.1 := by decide
theorem s0_132 : S0.2.1 132 = (20, 6) := by decide +kernel
theorem k0_133 : 133 < S0.1 := by decide
theorem s0_133 : S0.2.1 133 = (20, 6) := by decide +kernel
theorem k0_134 : 134 < S0.1 := by decide
theorem s0_134 : S0.2.1 134 = (20, 4) := by decide +kernel
theorem k0_135 : 135 < S0.1 := by decide
theorem s0_135 : S0.2.1 135 = (20, 40) := by decide +kernel
theorem k0_136 : 136 < S0.1 := by decide
theorem s0_136 : S0.2.1 136 = (20, 40) := by decide +kernel
theorem k0_137 : 137 < S0.1 := by decide
theorem s0_137 : S0.2.1 137 = (20, 2) := by decide +kernel
theorem k0_138 : 138 < S0.1 := by decide
theorem s0_138 : S0.2.1 138 = (20, 4) := by decide +kernel
theorem k0_139 : 139 < S0.1 := by decide
theorem s0_139 : S0.2.1 139 = (20, 3) := by decide +kernel
theorem k0_140 : 140 < S0.1 := by decide
theorem s0_140 : S0.2.1 140 = (20, 4) := by decide +kernel
theorem k0_141 : 141 < S0.1 := by decide
theorem s0_141 : S0.2.1 141 = (20, 7) := by decide +kernel
theorem k0_142 : 142 < S0.1 := by decide
theorem s0_142 : S0.2.1 142 = (20, 4) := by decide +kernel
theorem k0_143 : 143 < S0.1 := by decide
theorem s0_143 : S0.2.1 143 = (20, 4) := by decide +kernel
theorem k0_144 : 144 < S0.1 := by decide
theorem s0_144 : S0.2.1 144 = (20, 8) := by decide +kernel
theorem k0_145 : 145 < S0.1 := by decide
theorem s0_145 : S0.2.1 145 = (20, 5) := by decide +kernel
theorem k0_146 : 146 < S0.1 := by decide
theorem s0_146 : S0.2.1 146 = (20, 4) := by decide +kernel
theorem k0_147 : 147 < S0.1 := by decide
theorem s0_147 : S0.2.1 147 = (20, 4) := by decide +kernel
theorem k0_148 : 148 < S0.1 := by decide
theorem s0_148 : S0.2.1 148 = (20, 10) := by decide +kernel
theorem k0_149 : 149 < S0.1 := by decide
theorem s0_149 : S0.2.1 149 = (20, 10) := by decide +kernel
def zDays : List Nat := [18, 25, 34, 41, 48, 55, 62, 69, 76, 83, 91, 98]
theorem zDay_k0 {d : Nat} (h : d ∈ zDays) : d < S0.1 := (by decide +kernel : ∀ d ∈ zDays, d < S0.1) d h
theorem zDay_s0 {d : Nat} (h : d ∈ zDays) : S0.2.1 d = (1, 9) := (by decide +kernel : ∀ d ∈ zDays, S0.2.1 d = (1, 9)) d h
theorem zDay_l0 {d : Nat} (h : d ∈ zDays) : d < 1000 := (by decide +kernel : ∀ d ∈ zDays, d < 1000) d h
theorem zDay_r0 {d : Nat} (h : d ∈ zDays) : S0.2.2 d 0 = 1 + 1 := (by decide +kernel : ∀ d ∈ zDays, S0.2.2 d 0 = 1 + 1) d h
theorem zDay_r2 {d : Nat} (h : d ∈ zDays) : S0.2.2 d 2 = (d + 1) + 1 := (by decide +kernel : ∀ d ∈ zDays, S0.2.2 d 2 = (d + 1) + 1) d h
theorem zDay_r3 {d : Nat} (h : d ∈ zDays) : S0.2.2 d 3 = (d + 2) + 1 := (by decide +kernel : ∀ d ∈ zDays, S0.2.2 d 3 = (d + 2) + 1) d h
theorem zDay_r4 {d : Nat} (h : d ∈ zDays) : S0.2.2 d 4 = (d + 3) + 1 := (by decide +kernel : ∀ d ∈ zDays, S0.2.2 d 4 = (d + 3) + 1) d h
theorem zDay_r6 {d : Nat} (h : d ∈ zDays) : S0.2.2 d 6 = (d + 4) + 1 := (by decide +kernel : ∀ d ∈ zDays, S0.2.2 d 6 = (d + 4) + 1) d h
theorem zDay_r7 {d : Nat} (h : d ∈ zDays) : S0.2.2 d 7 = (d + 5) + 1 := (by decide +kernel : ∀ d ∈ zDays, S0.2.2 d 7 = (d + 5) + 1) d h
theorem zDay_r8 {d : Nat} (h : d ∈ zDays) : S0.2.2 d 8 = (d + 6) + 1 := (by decide +kernel : ∀ d ∈ zDays, S0.2.2 d 8 = (d + 6) + 1) d h
theorem zDay_k1 {d : Nat} (h : d ∈ zDays) : d + 1 < S0.1 := (by decide +kernel : ∀ d ∈ zDays, d + 1 < S0.1) d h
theorem zDay_s1 {d : Nat} (h : d ∈ zDays) : S0.2.1 (d + 1) = (20, 8) := (by decide +kernel : ∀ d ∈ zDays, S0.2.1 (d + 1) = (20, 8)) d h
theorem zDay_l1 {d : Nat} (h : d ∈ zDays) : d + 1 < 1000 := (by decide +kernel : ∀ d ∈ zDays, d + 1 < 1000) d h
theorem zDay_k2 {d : Nat} (h : d ∈ zDays) : d + 2 < S0.1 := (by decide +kernel : ∀ d ∈ zDays, d + 2 < S0.1) d h
theorem zDay_s2 {d : Nat} (h : d ∈ zDays) : S0.2.1 (d + 2) = (20, 8) := (by decide +kernel : ∀ d ∈ zDays, S0.2.1 (d + 2) = (20, 8)) d h
theorem zDay_l2 {d : Nat} (h : d ∈ zDays) : d + 2 < 1000 := (by decide +kernel : ∀ d ∈ zDays, d + 2 < 1000) d h
theorem zDay_k3 {d : Nat} (h : d ∈ zDays) : d + 3 < S0.1 := (by decide +kernel : ∀ d ∈ zDays, d + 3 < S0.1) d h
theorem zDay_s3 {d : Nat} (h : d ∈ zDays) : S0.2.1 (d + 3) = (20, 8) := (by decide +kernel : ∀ d ∈ zDays, S0.2.1 (d + 3) = (20, 8)) d h
theorem zDay_l3 {d : Nat} (h : d ∈ zDays) : d + 3 < 1000 := (by decide +kernel : ∀ d ∈ zDays, d + 3 < 1000) d h
theorem zDay_k4 {d : Nat} (h : d ∈ zDays) : d + 4 < S0.1 := (by decide +kernel : ∀ d ∈ zDays, d + 4 < S0.1) d h
theorem zDay_s4 {d : Nat} (h : d ∈ zDays) : S0.2.1 (d + 4) = (20, 4) := (by decide +kernel : ∀ d ∈ zDays, S0.2.1 (d + 4) = (20, 4)) d h
theorem zDay_l4 {d : Nat} (h : d ∈ zDays) : d + 4 < 1000 := (by decide +kernel : ∀ d ∈ zDays, d + 4 < 1000) d h
theorem zDay_k5 {d : Nat} (h : d ∈ zDays) : d + 5 < S0.1 := (by decide +kernel : ∀ d ∈ zDays, d + 5 < S0.1) d h
theorem zDay_s5 {d : Nat} (h : d ∈ zDays) : S0.2.1 (d + 5) = (20, 4) := (by decide +kernel : ∀ d ∈ zDays, S0.2.1 (d + 5) = (20, 4)) d h
theorem zDay_l5 {d : Nat} (h : d ∈ zDays) : d + 5 < 1000 := (by decide +kernel : ∀ d ∈ zDays, d + 5 < 1000) d h
theorem zDay_k6 {d : Nat} (h : d ∈ zDays) : d + 6 < S0.1 := (by decide +kernel : ∀ d ∈ zDays, d + 6 < S0.1) d h
theorem zDay_s6 {d : Nat} (h : d ∈ zDays) : S0.2.1 (d + 6) = (20, 4) := (by decide +kernel : ∀ d ∈ zDays, S0.2.1 (d + 6) = (20, 4)) d h
theorem zDay_l6 {d : Nat} (h : d ∈ zDays) : d + 6 < 1000 := (by decide +kernel : ∀ d ∈ zDays, d + 6 < 1000) d h
def zRoads : List Nat := [1, 11]
theorem zRoad_k0 {d : Nat} (h : d ∈ zRoads) : d < S0.1 := (by decide +kernel : ∀ d ∈ zRoads, d < S0.1) d h
theorem zRoad_s0 {d : Nat} (h : d ∈ zRoads) : S0.2.1 d = (5, 9) := (by decide +kernel : ∀ d ∈ zRoads, S0.2.1 d = (5, 9)) d h
theorem zRoad_l0 {d : Nat} (h : d ∈ zRoads) : d < 1000 := (by decide +kernel : ∀ d ∈ zRoads, d < 1000) d h
theorem zRoad_r3 {d : Nat} (h : d ∈ zRoads) : S0.2.2 d 3 = (d + 1) + 1 := (by decide +kernel : ∀ d ∈ zRoads, S0.2.2 d 3 = (d + 1) + 1) d h
theorem zRoad_r4 {d : Nat} (h : d ∈ zRoads) : S0.2.2 d 4 = (d + 2) + 1 := (by decide +kernel : ∀ d ∈ zRoads, S0.2.2 d 4 = (d + 2) + 1) d h
theorem zRoad_r5 {d : Nat} (h : d ∈ zRoads) : S0.2.2 d 5 = (d + 3) + 1 := (by decide +kernel : ∀ d ∈ zRoads, S0.2.2 d 5 = (d + 3) + 1) d h
theorem zRoad_r6 {d : Nat} (h : d ∈ zRoads) : S0.2.2 d 6 = (d + 4) + 1 := (by decide +kernel : ∀ d ∈ zRoads, S0.2.2 d 6 = (d + 4) + 1) d h
theorem zRoad_r7 {d : Nat} (h : d ∈ zRoads) : S0.2.2 d 7 = (d + 5) + 1 := (by decide +kernel : ∀ d ∈ zRoads, S0.2.2 d 7 = (d + 5) + 1) d h
theorem zRoad_r8 {d : Nat} (h : d ∈ zRoads) : S0.2.2 d 8 = (d + 6) + 1 := (by decide +kernel : ∀ d ∈ zRoads, S0.2.2 d 8 = (d + 6) + 1) d h
theorem zRoad_k1 {d : Nat} (h : d ∈ zRoads) : d + 1 < S0.1 := (by decide +kernel : ∀ d ∈ zRoads, d + 1 < S0.1) d h
theorem zRoad_s1 {d : Nat} (h : d ∈ zRoads) : S0.2.1 (d + 1) = (20, 6) := (by decide +kernel : ∀ d ∈ zRoads, S0.2.1 (d + 1) = (20, 6)) d h
theorem zRoad_l1 {d : Nat} (h : d ∈ zRoads) : d + 1 < 1000 := (by decide +kernel : ∀ d ∈ zRoads, d + 1 < 1000) d h
theorem zRoad_k2 {d : Nat} (h : d ∈ zRoads) : d + 2 < S0.1 := (by decide +kernel : ∀ d ∈ zRoads, d + 2 < S0.1) d h
theorem zRoad_s2 {d : Nat} (h : d ∈ zRoads) : S0.2.1 (d + 2) = (20, 8) := (by decide +kernel : ∀ d ∈ zRoads, S0.2.1 (d + 2) = (20, 8)) d h
theorem zRoad_l2 {d : Nat} (h : d ∈ zRoads) : d + 2 < 1000 := (by decide +kernel : ∀ d ∈ zRoads, d + 2 < 1000) d h
theorem zRoad_k3 {d : Nat} (h : d ∈ zRoads) : d + 3 < S0.1 := (by decide +kernel : ∀ d ∈ zRoads, d + 3 < S0.1) d h
theorem zRoad_s3 {d : Nat} (h : d ∈ zRoads) : S0.2.1 (d + 3) = (20, 8) := (by decide +kernel : ∀ d ∈ zRoads, S0.2.1 (d + 3) = (20, 8)) d h
theorem zRoad_l3 {d : Nat} (h : d ∈ zRoads) : d + 3 < 1000 := (by decide +kernel : ∀ d ∈ zRoads, d + 3 < 1000) d h
theorem zRoad_k4 {d : Nat} (h : d ∈ zRoads) : d + 4 < S0.1 := (by decide +kernel : ∀ d ∈ zRoads, d + 4 < S0.1) d h
theorem zRoad_s4 {d : Nat} (h : d ∈ zRoads) : S0.2.1 (d + 4) = (20, 8) := (by decide +kernel : ∀ d ∈ zRoads, S0.2.1 (d + 4) = (20, 8)) d h
theorem zRoad_l4 {d : Nat} (h : d ∈ zRoads) : d + 4 < 1000 := (by decide +kernel : ∀ d ∈ zRoads, d + 4 < 1000) d h
theorem zRoad_k5 {d : Nat} (h : d ∈ zRoads) : d + 5 < S0.1 := (by decide +kernel : ∀ d ∈ zRoads, d + 5 < S0.1) d h
theorem zRoad_s5 {d : Nat} (h : d ∈ zRoads) : S0.2.1 (d + 5) = (20, 4) := (by decide +kernel : ∀ d ∈ zRoads, S0.2.1 (d + 5) = (20, 4)) d h
theorem zRoad_l5 {d : Nat} (h : d ∈ zRoads) : d + 5 < 1000 := (by decide +kernel : ∀ d ∈ zRoads, d + 5 < 1000) d h
theorem zRoad_k6 {d : Nat} (h : d ∈ zRoads) : d + 6 < S0.1 := (by decide +kernel : ∀ d ∈ zRoads, d + 6 < S0.1) d h
theorem zRoad_s6 {d : Nat} (h : d ∈ zRoads) : S0.2.1 (d + 6) = (20, 4) := (by decide +kernel : ∀ d ∈ zRoads, S0.2.1 (d + 6) = (20, 4)) d h
theorem zRoad_l6 {d : Nat} (h : d ∈ zRoads) : d + 6 < 1000 := (by decide +kernel : ∀ d ∈ zRoads, d + 6 < 1000) d h
def zBooks : List Nat := [115, 118, 121, 124]
theorem zBook_k0 {d : Nat} (h : d ∈ zBooks) : d < S0.1 := (by decide +kernel : ∀ d ∈ zBooks, d < S0.1) d h
theorem zBook_s0 {d : Nat} (h : d ∈ zBooks) : S0.2.1 d = (0, 3) := (by decide +kernel : ∀ d ∈ zBooks, S0.2.1 d = (0, 3)) d h
theorem zBook_l0 {d : Nat} (h : d ∈ zBooks) : d < 1000 := (by decide +kernel : ∀ d ∈ zBooks, d < 1000) d h
theorem zBook_r0 {d : Nat} (h : d ∈ zBooks) : S0.2.2 d 0 = (d + 1) + 1 := (by decide +kernel : ∀ d ∈ zBooks, S0.2.2 d 0 = (d + 1) + 1) d h
theorem zBook_r1 {d : Nat} (h : d ∈ zBooks) : S0.2.2 d 1 = (d + 2) + 1 := (by decide +kernel : ∀ d ∈ zBooks, S0.2.2 d 1 = (d + 2) + 1) d h
theorem zBook_k1 {d : Nat} (h : d ∈ zBooks) : d + 1 < S0.1 := (by decide +kernel : ∀ d ∈ zBooks, d + 1 < S0.1) d h
theorem zBook_s1 {d : Nat} (h : d ∈ zBooks) : S0.2.1 (d + 1) = (20, 10) := (by decide +kernel : ∀ d ∈ zBooks, S0.2.1 (d + 1) = (20, 10)) d h
theorem zBook_l1 {d : Nat} (h : d ∈ zBooks) : d + 1 < 1000 := (by decide +kernel : ∀ d ∈ zBooks, d + 1 < 1000) d h
theorem zBook_k2 {d : Nat} (h : d ∈ zBooks) : d + 2 < S0.1 := (by decide +kernel : ∀ d ∈ zBooks, d + 2 < S0.1) d h
theorem zBook_s2 {d : Nat} (h : d ∈ zBooks) : S0.2.1 (d + 2) = (20, 10) := (by decide +kernel : ∀ d ∈ zBooks, S0.2.1 (d + 2) = (20, 10)) d h
theorem zBook_l2 {d : Nat} (h : d ∈ zBooks) : d + 2 < 1000 := (by decide +kernel : ∀ d ∈ zBooks, d + 2 < 1000) d h
/-! ===== contracts over that shape; rows in places ===== -/
def zQi (P : Int32 → zM → Prop) : Option Value → zS → zM → Prop := fun v S' M' => S' = S0 ∧ ∃ r : Int32, v = some (.int r) ∧ P r M'
def zQv (P : zM → Prop) : Option Value → zS → zM → Prop := fun v S' M' => S' = S0 ∧ v = none ∧ P M'
def zQl (P : Int64 → zM → Prop) : Option Value → zS → zM → Prop := fun v S' M' => S' = S0 ∧ ∃ r : Int64, v = some (.long r) ∧ P r M'
theorem zle : ∀ {ks ns : Nat}, ks ≤ ks ∧ ns ≤ ns := ⟨Nat.le_refl _, Nat.le_refl _⟩
theorem vp_inN {i : Int32} {j n : Nat} (hi : i = nI j) (hj : j < n) (hn : n ≤ 1000) : vp_in i n := by rw [hi]; exact vp_in_nI hj (by omega)
section ZPLACES
variable {g : zG} {l : Launch} {y : MethodName} {cc : ByteArray} {nL : Nat} {ret : Option FieldType} {d mc ms : Nat} {P : Option Value → zS → zM → Prop} {pc ks ns : Nat} {S : zS} {M : zM} {lo st : List Value}
theorem z_ialdN {k n j : Nat} {i : Int32} (hi : i = nI j) (hj : j < n) (hdg : decode cc pc = .ok (.iaload, 1)) (hk : k < S.1) (hs : S.2.1 k = (20, n)) (kk : zA g l y cc nL ret d mc ms P (pc + 1) ks ns S M lo (.int (M k j) :: st)) (hn : n ≤ 1000 := by decide) : zA g l y cc nL ret d mc ms P pc ks ns S M lo (.int i :: .ref k :: st) := by
  refine z_iald hdg hk hs (vp_inN hi hj hn) ?_
  rw [hi, nI_clamp (by omega)]
  exact kk
theorem z_zaldN {k n j : Nat} {i : Int32} (hi : i = nI j) (hj : j < n) (hdg : decode cc pc = .ok (.baload, 1)) (hk : k < S.1) (hs : S.2.1 k = (21, n)) (kk : zA g l y cc nL ret d mc ms P (pc + 1) ks ns S M lo (.int (M k j) :: st)) (hn : n ≤ 1000 := by decide) : zA g l y cc nL ret d mc ms P pc ks ns S M lo (.int i :: .ref k :: st) := by
  refine z_zald hdg hk hs (vp_inN hi hj hn) ?_
  rw [hi, nI_clamp (by omega)]
  exact kk
theorem z_iastN {k n j : Nat} {i x : Int32} (hi : i = nI j) (hj : j < n) (hdg : decode cc pc = .ok (.iastore, 1)) (hk : k < S.1) (hs : S.2.1 k = (20, n)) (kk : zA g l y cc nL ret d mc ms P (pc + 1) ks ns S (z_up M k j x) lo st) (hn : n ≤ 1000 := by decide) : zA g l y cc nL ret d mc ms P pc ks ns S M lo (.int x :: .int i :: .ref k :: st) := by
  refine z_iast hdg hk hs (vp_inN hi hj hn) ?_
  rw [hi, nI_clamp (by omega)]
  exact kk
theorem z_zastN {k n j : Nat} {i x : Int32} (hi : i = nI j) (hj : j < n) (hx : narrow .boolean (.int x) = .int x) (hdg : decode cc pc = .ok (.bastore, 1)) (hk : k < S.1) (hs : S.2.1 k = (21, n)) (kk : zA g l y cc nL ret d mc ms P (pc + 1) ks ns S (z_up M k j x) lo st) (hn : n ≤ 1000 := by decide) : zA g l y cc nL ret d mc ms P pc ks ns S M lo (.int x :: .int i :: .ref k :: st) := by
  refine z_zast hdg hk hs (vp_inN hi hj hn) hx ?_
  rw [hi, nI_clamp (by omega)]
  exact kk
theorem z_aaldN {k n q r j : Nat} {i : Int32} (hi : i = nI j) (hj : j < n) (hdg : decode cc pc = .ok (.aaload, 1)) (hk : k < S.1) (hs : S.2.1 k = (q, n)) (hq : q = 22 ∨ q = 23) (hr : S.2.2 k j = r + 1) (hr2 : r < 1000) (kk : zA g l y cc nL ret d mc ms P (pc + 1) ks ns S M lo (.ref r :: st)) (hn : n ≤ 1000 := by decide) : zA g l y cc nL ret d mc ms P pc ks ns S M lo (.int i :: .ref k :: st) := by
  refine z_aald hdg hk hs hq (vp_inN hi hj hn) ?_ hr2 kk
  rw [hi, nI_clamp (by omega)]
  exact hr
theorem z_iret {x : Int32} {ty : FieldType} {Q : Int32 → zM → Prop} (hdg : decode cc pc = .ok (.ireturn, 1)) (hn : narrow ty (.int x) = .int x) (hm : ks ≤ mc ∧ ns ≤ ms) (h : Q x M) : zA g l y cc nL (some ty) d mc ms (zQi Q) pc ks ns S0 M lo [.int x] :=
  z_ireturn hdg rfl hn hm.1 hm.2 ⟨rfl, x, rfl, h⟩
theorem z_lret {x : Int64} {Q : Int64 → zM → Prop} (hdg : decode cc pc = .ok (.lreturn, 1)) (hm : ks ≤ mc ∧ ns ≤ ms) (h : Q x M) : zA g l y cc nL (some .long) d mc ms (zQl Q) pc ks ns S0 M lo [.long x] :=
  z_lreturn hdg rfl hm.1 hm.2 ⟨rfl, x, rfl, h⟩
theorem z_vret {Q : zM → Prop} (hdg : decode cc pc = .ok (.return_, 1)) (hm : ks ≤ mc ∧ ns ≤ ms) (h : Q M) : zA g l y cc nL none d mc ms (zQv Q) pc ks ns S0 M lo [] :=
  z_return hdg rfl hm.1 hm.2 ⟨rfl, rfl, h⟩
/-- a place where ways meet, with one more number on the stack -/
theorem z_cut (φ : Int32 → Prop) {pj : Nat} (hJ : ∀ z : Int32, φ z → zA g l y cc nL ret d mc ms P pj ks ns S M lo (.int z :: st)) (h : (∀ z : Int32, φ z → zA g l y cc nL ret d mc ms P pj ks ns S M lo (.int z :: st)) → zA g l y cc nL ret d mc ms P pc ks ns S M lo st) : zA g l y cc nL ret d mc ms P pc ks ns S M lo st := h hJ
/-- a place where ways meet, with other locals and numbers -/
theorem z_cutL {pj : Nat} (ψ : zM → List Value → Prop) (hJ : ∀ (M' : zM) (lo' : List Value), ψ M' lo' → zA g l y cc nL ret d mc ms P pj ks ns S M' lo' st) (h : (∀ (M' : zM) (lo' : List Value), ψ M' lo' → zA g l y cc nL ret d mc ms P pj ks ns S M' lo' st) → zA g l y cc nL ret d mc ms P pc ks ns S M lo st) : zA g l y cc nL ret d mc ms P pc ks ns S M lo st := h hJ
/-- a number gets a name -/
theorem z_nm {x : Int32} (k : ∀ z : Int32, z = x → zA g l y cc nL ret d mc ms P pc ks ns S M lo (.int z :: st)) : zA g l y cc nL ret d mc ms P pc ks ns S M lo (.int x :: st) := k x rfl
variable {y' : MethodName} {cc' : ByteArray} {nL' : Nat} {ret' : Option FieldType} {d' index : Nat} {ci N b : Nat} {T : u_T} {t0 : Nat → FieldType}
theorem z_iV0 {Q : Int32 → zM → Prop} (hM : zMet g l y' cc' nL' ret' d' 0 0 [.ref b] S0 M (zQi Q)) (hw : zCW y' cc' nL' ret' 0) (hl : Cond.methodLink y.cls index y' ∈ zW) (hin : Cond.instanceMethod y' ∈ zW) (hse : Cond.selects y'.cls y' y' ∈ zW) (K : zCls ci y'.cls T N t0) (hd : d' + 1 ≤ d) (hst : (st.map fun v => v.category).sum ≤ 8) (hm : ks ≤ mc ∧ ns ≤ ms) (hk : b < S0.1) (hs : S0.2.1 b = (ci, N)) (hdg : decode cc pc = .ok (.invokevirtual index, 3)) (kk : ∀ (r : Int32) (M' : zM), Q r M' → zA g l y cc nL ret d mc ms P (pc + 3) ks ns S0 M' lo (.int r :: st)) : zA g l y cc nL ret d mc ms P pc ks ns S0 M lo (.ref b :: st) :=
  z_callV [] hM hw hl hin hse K hd hst hk hs hm.1 hm.2 hdg (fun v S' M' q => by
  obtain ⟨rfl, r, rfl, h⟩ := q
  exact kk r M' h) rfl
theorem z_iS0 {Q : Int32 → zM → Prop} (hM : zMet g l y' cc' nL' ret' d' 0 0 [] S0 M (zQi Q)) (hw : zCW y' cc' nL' ret' 0) (hl : Cond.methodLink y.cls index y' ∈ zW) (hin : Cond.static y' ∈ zW) (hd : d' + 1 ≤ d) (hst : (st.map fun v => v.category).sum ≤ 8) (hm : ks ≤ mc ∧ ns ≤ ms) (hdg : decode cc pc = .ok (.invokestatic index, 3)) (kk : ∀ (r : Int32) (M' : zM), Q r M' → zA g l y cc nL ret d mc ms P (pc + 3) ks ns S0 M' lo (.int r :: st)) : zA g l y cc nL ret d mc ms P pc ks ns S0 M lo (st) :=
  z_callS [] hM hw hl hin hd hst hm.1 hm.2 hdg (fun v S' M' q => by
  obtain ⟨rfl, r, rfl, h⟩ := q
  exact kk r M' h) rfl
theorem z_iT0 {Q : Int32 → zM → Prop} (hi : b < 8) (hM : zMet g l y' cc' nL' ret' d' 0 0 [.ref (1000 + b)] S0 M (zQi Q)) (hw : zCW y' cc' nL' ret' 0) (hl : Cond.methodLink y.cls index y' ∈ zW) (hin : Cond.instanceMethod y' ∈ zW) (hse : Cond.selects y'.cls y' y' ∈ zW) (hy : y'.cls = "java/lang/String") (hd : d' + 1 ≤ d) (hst : (st.map fun v => v.category).sum ≤ 8) (hm : ks ≤ mc ∧ ns ≤ ms) (hdg : decode cc pc = .ok (.invokevirtual index, 3)) (kk : ∀ (r : Int32) (M' : zM), Q r M' → zA g l y cc nL ret d mc ms P (pc + 3) ks ns S0 M' lo (.int r :: st)) : zA g l y cc nL ret d mc ms P pc ks ns S0 M lo (.ref (1000 + b) :: st) :=
  z_callT [] hi hM hw hl hin hse hy hd hst hm.1 hm.2 hdg (fun v S' M' q => by
  obtain ⟨rfl, r, rfl, h⟩ := q
  exact kk r M' h) rfl
theorem z_iV1 {v0 : Value} {Q : Int32 → zM → Prop} (hM : zMet g l y' cc' nL' ret' d' 0 0 [.ref b, v0] S0 M (zQi Q)) (hw : zCW y' cc' nL' ret' 1) (hl : Cond.methodLink y.cls index y' ∈ zW) (hin : Cond.instanceMethod y' ∈ zW) (hse : Cond.selects y'.cls y' y' ∈ zW) (K : zCls ci y'.cls T N t0) (hd : d' + 1 ≤ d) (hst : (st.map fun v => v.category).sum ≤ 8) (hm : ks ≤ mc ∧ ns ≤ ms) (hk : b < S0.1) (hs : S0.2.1 b = (ci, N)) (hdg : decode cc pc = .ok (.invokevirtual index, 3)) (kk : ∀ (r : Int32) (M' : zM), Q r M' → zA g l y cc nL ret d mc ms P (pc + 3) ks ns S0 M' lo (.int r :: st)) : zA g l y cc nL ret d mc ms P pc ks ns S0 M lo (v0 :: .ref b :: st) :=
  z_callV [v0] hM hw hl hin hse K hd hst hk hs hm.1 hm.2 hdg (fun v S' M' q => by
  obtain ⟨rfl, r, rfl, h⟩ := q
  exact kk r M' h) rfl
theorem z_iS1 {v0 : Value} {Q : Int32 → zM → Prop} (hM : zMet g l y' cc' nL' ret' d' 0 0 [v0] S0 M (zQi Q)) (hw : zCW y' cc' nL' ret' 1) (hl : Cond.methodLink y.cls index y' ∈ zW) (hin : Cond.static y' ∈ zW) (hd : d' + 1 ≤ d) (hst : (st.map fun v => v.category).sum ≤ 8) (hm : ks ≤ mc ∧ ns ≤ ms) (hdg : decode cc pc = .ok (.invokestatic index, 3)) (kk : ∀ (r : Int32) (M' : zM), Q r M' → zA g l y cc nL ret d mc ms P (pc + 3) ks ns S0 M' lo (.int r :: st)) : zA g l y cc nL ret d mc ms P pc ks ns S0 M lo (v0 :: st) :=
  z_callS [v0] hM hw hl hin hd hst hm.1 hm.2 hdg (fun v S' M' q => by
  obtain ⟨rfl, r, rfl, h⟩ := q
  exact kk r M' h) rfl
theorem z_iT1 {v0 : Value} {Q : Int32 → zM → Prop} (hi : b < 8) (hM : zMet g l y' cc' nL' ret' d' 0 0 [.ref (1000 + b), v0] S0 M (zQi Q)) (hw : zCW y' cc' nL' ret' 1) (hl : Cond.methodLink y.cls index y' ∈ zW) (hin : Cond.instanceMethod y' ∈ zW) (hse : Cond.selects y'.cls y' y' ∈ zW) (hy : y'.cls = "java/lang/String") (hd : d' + 1 ≤ d) (hst : (st.map fun v => v.category).sum ≤ 8) (hm : ks ≤ mc ∧ ns ≤ ms) (hdg : decode cc pc = .ok (.invokevirtual index, 3)) (kk : ∀ (r : Int32) (M' : zM), Q r M' → zA g l y cc nL ret d mc ms P (pc + 3) ks ns S0 M' lo (.int r :: st)) : zA g l y cc nL ret d mc ms P pc ks ns S0 M lo (v0 :: .ref (1000 + b) :: st) :=
  z_callT [v0] hi hM hw hl hin hse hy hd hst hm.1 hm.2 hdg (fun v S' M' q => by
  obtain ⟨rfl, r, rfl, h⟩ := q
  exact kk r M' h) rfl
theorem z_iV2 {v0 v1 : Value} {Q : Int32 → zM → Prop} (hM : zMet g l y' cc' nL' ret' d' 0 0 [.ref b, v0, v1] S0 M (zQi Q)) (hw : zCW y' cc' nL' ret' 2) (hl : Cond.methodLink y.cls index y' ∈ zW) (hin : Cond.instanceMethod y' ∈ zW) (hse : Cond.selects y'.cls y' y' ∈ zW) (K : zCls ci y'.cls T N t0) (hd : d' + 1 ≤ d) (hst : (st.map fun v => v.category).sum ≤ 8) (hm : ks ≤ mc ∧ ns ≤ ms) (hk : b < S0.1) (hs : S0.2.1 b = (ci, N)) (hdg : decode cc pc = .ok (.invokevirtual index, 3)) (kk : ∀ (r : Int32) (M' : zM), Q r M' → zA g l y cc nL ret d mc ms P (pc + 3) ks ns S0 M' lo (.int r :: st)) : zA g l y cc nL ret d mc ms P pc ks ns S0 M lo (v1 :: v0 :: .ref b :: st) :=
  z_callV [v0, v1] hM hw hl hin hse K hd hst hk hs hm.1 hm.2 hdg (fun v S' M' q => by
  obtain ⟨rfl, r, rfl, h⟩ := q
  exact kk r M' h) rfl
theorem z_iS2 {v0 v1 : Value} {Q : Int32 → zM → Prop} (hM : zMet g l y' cc' nL' ret' d' 0 0 [v0, v1] S0 M (zQi Q)) (hw : zCW y' cc' nL' ret' 2) (hl : Cond.methodLink y.cls index y' ∈ zW) (hin : Cond.static y' ∈ zW) (hd : d' + 1 ≤ d) (hst : (st.map fun v => v.category).sum ≤ 8) (hm : ks ≤ mc ∧ ns ≤ ms) (hdg : decode cc pc = .ok (.invokestatic index, 3)) (kk : ∀ (r : Int32) (M' : zM), Q r M' → zA g l y cc nL ret d mc ms P (pc + 3) ks ns S0 M' lo (.int r :: st)) : zA g l y cc nL ret d mc ms P pc ks ns S0 M lo (v1 :: v0 :: st) :=
  z_callS [v0, v1] hM hw hl hin hd hst hm.1 hm.2 hdg (fun v S' M' q => by
  obtain ⟨rfl, r, rfl, h⟩ := q
  exact kk r M' h) rfl
theorem z_iV3 {v0 v1 v2 : Value} {Q : Int32 → zM → Prop} (hM : zMet g l y' cc' nL' ret' d' 0 0 [.ref b, v0, v1, v2] S0 M (zQi Q)) (hw : zCW y' cc' nL' ret' 3) (hl : Cond.methodLink y.cls index y' ∈ zW) (hin : Cond.instanceMethod y' ∈ zW) (hse : Cond.selects y'.cls y' y' ∈ zW) (K : zCls ci y'.cls T N t0) (hd : d' + 1 ≤ d) (hst : (st.map fun v => v.category).sum ≤ 8) (hm : ks ≤ mc ∧ ns ≤ ms) (hk : b < S0.1) (hs : S0.2.1 b = (ci, N)) (hdg : decode cc pc = .ok (.invokevirtual index, 3)) (kk : ∀ (r : Int32) (M' : zM), Q r M' → zA g l y cc nL ret d mc ms P (pc + 3) ks ns S0 M' lo (.int r :: st)) : zA g l y cc nL ret d mc ms P pc ks ns S0 M lo (v2 :: v1 :: v0 :: .ref b :: st) :=
  z_callV [v0, v1, v2] hM hw hl hin hse K hd hst hk hs hm.1 hm.2 hdg (fun v S' M' q => by
  obtain ⟨rfl, r, rfl, h⟩ := q
  exact kk r M' h) rfl
theorem z_iS3 {v0 v1 v2 : Value} {Q : Int32 → zM → Prop} (hM : zMet g l y' cc' nL' ret' d' 0 0 [v0, v1, v2] S0 M (zQi Q)) (hw : zCW y' cc' nL' ret' 3) (hl : Cond.methodLink y.cls index y' ∈ zW) (hin : Cond.static y' ∈ zW) (hd : d' + 1 ≤ d) (hst : (st.map fun v => v.category).sum ≤ 8) (hm : ks ≤ mc ∧ ns ≤ ms) (hdg : decode cc pc = .ok (.invokestatic index, 3)) (kk : ∀ (r : Int32) (M' : zM), Q r M' → zA g l y cc nL ret d mc ms P (pc + 3) ks ns S0 M' lo (.int r :: st)) : zA g l y cc nL ret d mc ms P pc ks ns S0 M lo (v2 :: v1 :: v0 :: st) :=
  z_callS [v0, v1, v2] hM hw hl hin hd hst hm.1 hm.2 hdg (fun v S' M' q => by
  obtain ⟨rfl, r, rfl, h⟩ := q
  exact kk r M' h) rfl
theorem z_iV4 {v0 v1 v2 v3 : Value} {Q : Int32 → zM → Prop} (hM : zMet g l y' cc' nL' ret' d' 0 0 [.ref b, v0, v1, v2, v3] S0 M (zQi Q)) (hw : zCW y' cc' nL' ret' 4) (hl : Cond.methodLink y.cls index y' ∈ zW) (hin : Cond.instanceMethod y' ∈ zW) (hse : Cond.selects y'.cls y' y' ∈ zW) (K : zCls ci y'.cls T N t0) (hd : d' + 1 ≤ d) (hst : (st.map fun v => v.category).sum ≤ 8) (hm : ks ≤ mc ∧ ns ≤ ms) (hk : b < S0.1) (hs : S0.2.1 b = (ci, N)) (hdg : decode cc pc = .ok (.invokevirtual index, 3)) (kk : ∀ (r : Int32) (M' : zM), Q r M' → zA g l y cc nL ret d mc ms P (pc + 3) ks ns S0 M' lo (.int r :: st)) : zA g l y cc nL ret d mc ms P pc ks ns S0 M lo (v3 :: v2 :: v1 :: v0 :: .ref b :: st) :=
  z_callV [v0, v1, v2, v3] hM hw hl hin hse K hd hst hk hs hm.1 hm.2 hdg (fun v S' M' q => by
  obtain ⟨rfl, r, rfl, h⟩ := q
  exact kk r M' h) rfl
theorem z_iS4 {v0 v1 v2 v3 : Value} {Q : Int32 → zM → Prop} (hM : zMet g l y' cc' nL' ret' d' 0 0 [v0, v1, v2, v3] S0 M (zQi Q)) (hw : zCW y' cc' nL' ret' 4) (hl : Cond.methodLink y.cls index y' ∈ zW) (hin : Cond.static y' ∈ zW) (hd : d' + 1 ≤ d) (hst : (st.map fun v => v.category).sum ≤ 8) (hm : ks ≤ mc ∧ ns ≤ ms) (hdg : decode cc pc = .ok (.invokestatic index, 3)) (kk : ∀ (r : Int32) (M' : zM), Q r M' → zA g l y cc nL ret d mc ms P (pc + 3) ks ns S0 M' lo (.int r :: st)) : zA g l y cc nL ret d mc ms P pc ks ns S0 M lo (v3 :: v2 :: v1 :: v0 :: st) :=
  z_callS [v0, v1, v2, v3] hM hw hl hin hd hst hm.1 hm.2 hdg (fun v S' M' q => by
  obtain ⟨rfl, r, rfl, h⟩ := q
  exact kk r M' h) rfl
theorem z_iV5 {v0 v1 v2 v3 v4 : Value} {Q : Int32 → zM → Prop} (hM : zMet g l y' cc' nL' ret' d' 0 0 [.ref b, v0, v1, v2, v3, v4] S0 M (zQi Q)) (hw : zCW y' cc' nL' ret' 5) (hl : Cond.methodLink y.cls index y' ∈ zW) (hin : Cond.instanceMethod y' ∈ zW) (hse : Cond.selects y'.cls y' y' ∈ zW) (K : zCls ci y'.cls T N t0) (hd : d' + 1 ≤ d) (hst : (st.map fun v => v.category).sum ≤ 8) (hm : ks ≤ mc ∧ ns ≤ ms) (hk : b < S0.1) (hs : S0.2.1 b = (ci, N)) (hdg : decode cc pc = .ok (.invokevirtual index, 3)) (kk : ∀ (r : Int32) (M' : zM), Q r M' → zA g l y cc nL ret d mc ms P (pc + 3) ks ns S0 M' lo (.int r :: st)) : zA g l y cc nL ret d mc ms P pc ks ns S0 M lo (v4 :: v3 :: v2 :: v1 :: v0 :: .ref b :: st) :=
  z_callV [v0, v1, v2, v3, v4] hM hw hl hin hse K hd hst hk hs hm.1 hm.2 hdg (fun v S' M' q => by
  obtain ⟨rfl, r, rfl, h⟩ := q
  exact kk r M' h) rfl
theorem z_iS5 {v0 v1 v2 v3 v4 : Value} {Q : Int32 → zM → Prop} (hM : zMet g l y' cc' nL' ret' d' 0 0 [v0, v1, v2, v3, v4] S0 M (zQi Q)) (hw : zCW y' cc' nL' ret' 5) (hl : Cond.methodLink y.cls index y' ∈ zW) (hin : Cond.static y' ∈ zW) (hd : d' + 1 ≤ d) (hst : (st.map fun v => v.category).sum ≤ 8) (hm : ks ≤ mc ∧ ns ≤ ms) (hdg : decode cc pc = .ok (.invokestatic index, 3)) (kk : ∀ (r : Int32) (M' : zM), Q r M' → zA g l y cc nL ret d mc ms P (pc + 3) ks ns S0 M' lo (.int r :: st)) : zA g l y cc nL ret d mc ms P pc ks ns S0 M lo (v4 :: v3 :: v2 :: v1 :: v0 :: st) :=
  z_callS [v0, v1, v2, v3, v4] hM hw hl hin hd hst hm.1 hm.2 hdg (fun v S' M' q => by
  obtain ⟨rfl, r, rfl, h⟩ := q
  exact kk r M' h) rfl
theorem z_iS6 {v0 v1 v2 v3 v4 v5 : Value} {Q : Int32 → zM → Prop} (hM : zMet g l y' cc' nL' ret' d' 0 0 [v0, v1, v2, v3, v4, v5] S0 M (zQi Q)) (hw : zCW y' cc' nL' ret' 6) (hl : Cond.methodLink y.cls index y' ∈ zW) (hin : Cond.static y' ∈ zW) (hd : d' + 1 ≤ d) (hst : (st.map fun v => v.category).sum ≤ 8) (hm : ks ≤ mc ∧ ns ≤ ms) (hdg : decode cc pc = .ok (.invokestatic index, 3)) (kk : ∀ (r : Int32) (M' : zM), Q r M' → zA g l y cc nL ret d mc ms P (pc + 3) ks ns S0 M' lo (.int r :: st)) : zA g l y cc nL ret d mc ms P pc ks ns S0 M lo (v5 :: v4 :: v3 :: v2 :: v1 :: v0 :: st) :=
  z_callS [v0, v1, v2, v3, v4, v5] hM hw hl hin hd hst hm.1 hm.2 hdg (fun v S' M' q => by
  obtain ⟨rfl, r, rfl, h⟩ := q
  exact kk r M' h) rfl
theorem z_iS7 {v0 v1 v2 v3 v4 v5 v6 : Value} {Q : Int32 → zM → Prop} (hM : zMet g l y' cc' nL' ret' d' 0 0 [v0, v1, v2, v3, v4, v5, v6] S0 M (zQi Q)) (hw : zCW y' cc' nL' ret' 7) (hl : Cond.methodLink y.cls index y' ∈ zW) (hin : Cond.static y' ∈ zW) (hd : d' + 1 ≤ d) (hst : (st.map fun v => v.category).sum ≤ 8) (hm : ks ≤ mc ∧ ns ≤ ms) (hdg : decode cc pc = .ok (.invokestatic index, 3)) (kk : ∀ (r : Int32) (M' : zM), Q r M' → zA g l y cc nL ret d mc ms P (pc + 3) ks ns S0 M' lo (.int r :: st)) : zA g l y cc nL ret d mc ms P pc ks ns S0 M lo (v6 :: v5 :: v4 :: v3 :: v2 :: v1 :: v0 :: st) :=
  z_callS [v0, v1, v2, v3, v4, v5, v6] hM hw hl hin hd hst hm.1 hm.2 hdg (fun v S' M' q => by
  obtain ⟨rfl, r, rfl, h⟩ := q
  exact kk r M' h) rfl
theorem z_vV0 {Q : zM → Prop} (hM : zMet g l y' cc' nL' ret' d' 0 0 [.ref b] S0 M (zQv Q)) (hw : zCW y' cc' nL' ret' 0) (hl : Cond.methodLink y.cls index y' ∈ zW) (hin : Cond.instanceMethod y' ∈ zW) (hse : Cond.selects y'.cls y' y' ∈ zW) (K : zCls ci y'.cls T N t0) (hd : d' + 1 ≤ d) (hst : (st.map fun v => v.category).sum ≤ 8) (hm : ks ≤ mc ∧ ns ≤ ms) (hk : b < S0.1) (hs : S0.2.1 b = (ci, N)) (hdg : decode cc pc = .ok (.invokevirtual index, 3)) (kk : ∀ (M' : zM), Q M' → zA g l y cc nL ret d mc ms P (pc + 3) ks ns S0 M' lo st) : zA g l y cc nL ret d mc ms P pc ks ns S0 M lo (.ref b :: st) :=
  z_callV [] hM hw hl hin hse K hd hst hk hs hm.1 hm.2 hdg (fun v S' M' q => by
  obtain ⟨rfl, rfl, h⟩ := q
  exact kk M' h) rfl
theorem z_vS0 {Q : zM → Prop} (hM : zMet g l y' cc' nL' ret' d' 0 0 [] S0 M (zQv Q)) (hw : zCW y' cc' nL' ret' 0) (hl : Cond.methodLink y.cls index y' ∈ zW) (hin : Cond.static y' ∈ zW) (hd : d' + 1 ≤ d) (hst : (st.map fun v => v.category).sum ≤ 8) (hm : ks ≤ mc ∧ ns ≤ ms) (hdg : decode cc pc = .ok (.invokestatic index, 3)) (kk : ∀ (M' : zM), Q M' → zA g l y cc nL ret d mc ms P (pc + 3) ks ns S0 M' lo st) : zA g l y cc nL ret d mc ms P pc ks ns S0 M lo (st) :=
  z_callS [] hM hw hl hin hd hst hm.1 hm.2 hdg (fun v S' M' q => by
  obtain ⟨rfl, rfl, h⟩ := q
  exact kk M' h) rfl
theorem z_vV1 {v0 : Value} {Q : zM → Prop} (hM : zMet g l y' cc' nL' ret' d' 0 0 [.ref b, v0] S0 M (zQv Q)) (hw : zCW y' cc' nL' ret' 1) (hl : Cond.methodLink y.cls index y' ∈ zW) (hin : Cond.instanceMethod y' ∈ zW) (hse : Cond.selects y'.cls y' y' ∈ zW) (K : zCls ci y'.cls T N t0) (hd : d' + 1 ≤ d) (hst : (st.map fun v => v.category).sum ≤ 8) (hm : ks ≤ mc ∧ ns ≤ ms) (hk : b < S0.1) (hs : S0.2.1 b = (ci, N)) (hdg : decode cc pc = .ok (.invokevirtual index, 3)) (kk : ∀ (M' : zM), Q M' → zA g l y cc nL ret d mc ms P (pc + 3) ks ns S0 M' lo st) : zA g l y cc nL ret d mc ms P pc ks ns S0 M lo (v0 :: .ref b :: st) :=
  z_callV [v0] hM hw hl hin hse K hd hst hk hs hm.1 hm.2 hdg (fun v S' M' q => by
  obtain ⟨rfl, rfl, h⟩ := q
  exact kk M' h) rfl
theorem z_vS1 {v0 : Value} {Q : zM → Prop} (hM : zMet g l y' cc' nL' ret' d' 0 0 [v0] S0 M (zQv Q)) (hw : zCW y' cc' nL' ret' 1) (hl : Cond.methodLink y.cls index y' ∈ zW) (hin : Cond.static y' ∈ zW) (hd : d' + 1 ≤ d) (hst : (st.map fun v => v.category).sum ≤ 8) (hm : ks ≤ mc ∧ ns ≤ ms) (hdg : decode cc pc = .ok (.invokestatic index, 3)) (kk : ∀ (M' : zM), Q M' → zA g l y cc nL ret d mc ms P (pc + 3) ks ns S0 M' lo st) : zA g l y cc nL ret d mc ms P pc ks ns S0 M lo (v0 :: st) :=
  z_callS [v0] hM hw hl hin hd hst hm.1 hm.2 hdg (fun v S' M' q => by
  obtain ⟨rfl, rfl, h⟩ := q
  exact kk M' h) rfl
theorem z_vV2 {v0 v1 : Value} {Q : zM → Prop} (hM : zMet g l y' cc' nL' ret' d' 0 0 [.ref b, v0, v1] S0 M (zQv Q)) (hw : zCW y' cc' nL' ret' 2) (hl : Cond.methodLink y.cls index y' ∈ zW) (hin : Cond.instanceMethod y' ∈ zW) (hse : Cond.selects y'.cls y' y' ∈ zW) (K : zCls ci y'.cls T N t0) (hd : d' + 1 ≤ d) (hst : (st.map fun v => v.category).sum ≤ 8) (hm : ks ≤ mc ∧ ns ≤ ms) (hk : b < S0.1) (hs : S0.2.1 b = (ci, N)) (hdg : decode cc pc = .ok (.invokevirtual index, 3)) (kk : ∀ (M' : zM), Q M' → zA g l y cc nL ret d mc ms P (pc + 3) ks ns S0 M' lo st) : zA g l y cc nL ret d mc ms P pc ks ns S0 M lo (v1 :: v0 :: .ref b :: st) :=
  z_callV [v0, v1] hM hw hl hin hse K hd hst hk hs hm.1 hm.2 hdg (fun v S' M' q => by
  obtain ⟨rfl, rfl, h⟩ := q
  exact kk M' h) rfl
theorem z_vS2 {v0 v1 : Value} {Q : zM → Prop} (hM : zMet g l y' cc' nL' ret' d' 0 0 [v0, v1] S0 M (zQv Q)) (hw : zCW y' cc' nL' ret' 2) (hl : Cond.methodLink y.cls index y' ∈ zW) (hin : Cond.static y' ∈ zW) (hd : d' + 1 ≤ d) (hst : (st.map fun v => v.category).sum ≤ 8) (hm : ks ≤ mc ∧ ns ≤ ms) (hdg : decode cc pc = .ok (.invokestatic index, 3)) (kk : ∀ (M' : zM), Q M' → zA g l y cc nL ret d mc ms P (pc + 3) ks ns S0 M' lo st) : zA g l y cc nL ret d mc ms P pc ks ns S0 M lo (v1 :: v0 :: st) :=
  z_callS [v0, v1] hM hw hl hin hd hst hm.1 hm.2 hdg (fun v S' M' q => by
  obtain ⟨rfl, rfl, h⟩ := q
  exact kk M' h) rfl
theorem z_vV3 {v0 v1 v2 : Value} {Q : zM → Prop} (hM : zMet g l y' cc' nL' ret' d' 0 0 [.ref b, v0, v1, v2] S0 M (zQv Q)) (hw : zCW y' cc' nL' ret' 3) (hl : Cond.methodLink y.cls index y' ∈ zW) (hin : Cond.instanceMethod y' ∈ zW) (hse : Cond.selects y'.cls y' y' ∈ zW) (K : zCls ci y'.cls T N t0) (hd : d' + 1 ≤ d) (hst : (st.map fun v => v.category).sum ≤ 8) (hm : ks ≤ mc ∧ ns ≤ ms) (hk : b < S0.1) (hs : S0.2.1 b = (ci, N)) (hdg : decode cc pc = .ok (.invokevirtual index, 3)) (kk : ∀ (M' : zM), Q M' → zA g l y cc nL ret d mc ms P (pc + 3) ks ns S0 M' lo st) : zA g l y cc nL ret d mc ms P pc ks ns S0 M lo (v2 :: v1 :: v0 :: .ref b :: st) :=
  z_callV [v0, v1, v2] hM hw hl hin hse K hd hst hk hs hm.1 hm.2 hdg (fun v S' M' q => by
  obtain ⟨rfl, rfl, h⟩ := q
  exact kk M' h) rfl
theorem z_vS3 {v0 v1 v2 : Value} {Q : zM → Prop} (hM : zMet g l y' cc' nL' ret' d' 0 0 [v0, v1, v2] S0 M (zQv Q)) (hw : zCW y' cc' nL' ret' 3) (hl : Cond.methodLink y.cls index y' ∈ zW) (hin : Cond.static y' ∈ zW) (hd : d' + 1 ≤ d) (hst : (st.map fun v => v.category).sum ≤ 8) (hm : ks ≤ mc ∧ ns ≤ ms) (hdg : decode cc pc = .ok (.invokestatic index, 3)) (kk : ∀ (M' : zM), Q M' → zA g l y cc nL ret d mc ms P (pc + 3) ks ns S0 M' lo st) : zA g l y cc nL ret d mc ms P pc ks ns S0 M lo (v2 :: v1 :: v0 :: st) :=
  z_callS [v0, v1, v2] hM hw hl hin hd hst hm.1 hm.2 hdg (fun v S' M' q => by
  obtain ⟨rfl, rfl, h⟩ := q
  exact kk M' h) rfl
theorem z_vV4 {v0 v1 v2 v3 : Value} {Q : zM → Prop} (hM : zMet g l y' cc' nL' ret' d' 0 0 [.ref b, v0, v1, v2, v3] S0 M (zQv Q)) (hw : zCW y' cc' nL' ret' 4) (hl : Cond.methodLink y.cls index y' ∈ zW) (hin : Cond.instanceMethod y' ∈ zW) (hse : Cond.selects y'.cls y' y' ∈ zW) (K : zCls ci y'.cls T N t0) (hd : d' + 1 ≤ d) (hst : (st.map fun v => v.category).sum ≤ 8) (hm : ks ≤ mc ∧ ns ≤ ms) (hk : b < S0.1) (hs : S0.2.1 b = (ci, N)) (hdg : decode cc pc = .ok (.invokevirtual index, 3)) (kk : ∀ (M' : zM), Q M' → zA g l y cc nL ret d mc ms P (pc + 3) ks ns S0 M' lo st) : zA g l y cc nL ret d mc ms P pc ks ns S0 M lo (v3 :: v2 :: v1 :: v0 :: .ref b :: st) :=
  z_callV [v0, v1, v2, v3] hM hw hl hin hse K hd hst hk hs hm.1 hm.2 hdg (fun v S' M' q => by
  obtain ⟨rfl, rfl, h⟩ := q
  exact kk M' h) rfl
theorem z_vS4 {v0 v1 v2 v3 : Value} {Q : zM → Prop} (hM : zMet g l y' cc' nL' ret' d' 0 0 [v0, v1, v2, v3] S0 M (zQv Q)) (hw : zCW y' cc' nL' ret' 4) (hl : Cond.methodLink y.cls index y' ∈ zW) (hin : Cond.static y' ∈ zW) (hd : d' + 1 ≤ d) (hst : (st.map fun v => v.category).sum ≤ 8) (hm : ks ≤ mc ∧ ns ≤ ms) (hdg : decode cc pc = .ok (.invokestatic index, 3)) (kk : ∀ (M' : zM), Q M' → zA g l y cc nL ret d mc ms P (pc + 3) ks ns S0 M' lo st) : zA g l y cc nL ret d mc ms P pc ks ns S0 M lo (v3 :: v2 :: v1 :: v0 :: st) :=
  z_callS [v0, v1, v2, v3] hM hw hl hin hd hst hm.1 hm.2 hdg (fun v S' M' q => by
  obtain ⟨rfl, rfl, h⟩ := q
  exact kk M' h) rfl
theorem z_vV5 {v0 v1 v2 v3 v4 : Value} {Q : zM → Prop} (hM : zMet g l y' cc' nL' ret' d' 0 0 [.ref b, v0, v1, v2, v3, v4] S0 M (zQv Q)) (hw : zCW y' cc' nL' ret' 5) (hl : Cond.methodLink y.cls index y' ∈ zW) (hin : Cond.instanceMethod y' ∈ zW) (hse : Cond.selects y'.cls y' y' ∈ zW) (K : zCls ci y'.cls T N t0) (hd : d' + 1 ≤ d) (hst : (st.map fun v => v.category).sum ≤ 8) (hm : ks ≤ mc ∧ ns ≤ ms) (hk : b < S0.1) (hs : S0.2.1 b = (ci, N)) (hdg : decode cc pc = .ok (.invokevirtual index, 3)) (kk : ∀ (M' : zM), Q M' → zA g l y cc nL ret d mc ms P (pc + 3) ks ns S0 M' lo st) : zA g l y cc nL ret d mc ms P pc ks ns S0 M lo (v4 :: v3 :: v2 :: v1 :: v0 :: .ref b :: st) :=
  z_callV [v0, v1, v2, v3, v4] hM hw hl hin hse K hd hst hk hs hm.1 hm.2 hdg (fun v S' M' q => by
  obtain ⟨rfl, rfl, h⟩ := q
  exact kk M' h) rfl
theorem z_vS5 {v0 v1 v2 v3 v4 : Value} {Q : zM → Prop} (hM : zMet g l y' cc' nL' ret' d' 0 0 [v0, v1, v2, v3, v4] S0 M (zQv Q)) (hw : zCW y' cc' nL' ret' 5) (hl : Cond.methodLink y.cls index y' ∈ zW) (hin : Cond.static y' ∈ zW) (hd : d' + 1 ≤ d) (hst : (st.map fun v => v.category).sum ≤ 8) (hm : ks ≤ mc ∧ ns ≤ ms) (hdg : decode cc pc = .ok (.invokestatic index, 3)) (kk : ∀ (M' : zM), Q M' → zA g l y cc nL ret d mc ms P (pc + 3) ks ns S0 M' lo st) : zA g l y cc nL ret d mc ms P pc ks ns S0 M lo (v4 :: v3 :: v2 :: v1 :: v0 :: st) :=
  z_callS [v0, v1, v2, v3, v4] hM hw hl hin hd hst hm.1 hm.2 hdg (fun v S' M' q => by
  obtain ⟨rfl, rfl, h⟩ := q
  exact kk M' h) rfl
theorem z_vS6 {v0 v1 v2 v3 v4 v5 : Value} {Q : zM → Prop} (hM : zMet g l y' cc' nL' ret' d' 0 0 [v0, v1, v2, v3, v4, v5] S0 M (zQv Q)) (hw : zCW y' cc' nL' ret' 6) (hl : Cond.methodLink y.cls index y' ∈ zW) (hin : Cond.static y' ∈ zW) (hd : d' + 1 ≤ d) (hst : (st.map fun v => v.category).sum ≤ 8) (hm : ks ≤ mc ∧ ns ≤ ms) (hdg : decode cc pc = .ok (.invokestatic index, 3)) (kk : ∀ (M' : zM), Q M' → zA g l y cc nL ret d mc ms P (pc + 3) ks ns S0 M' lo st) : zA g l y cc nL ret d mc ms P pc ks ns S0 M lo (v5 :: v4 :: v3 :: v2 :: v1 :: v0 :: st) :=
  z_callS [v0, v1, v2, v3, v4, v5] hM hw hl hin hd hst hm.1 hm.2 hdg (fun v S' M' q => by
  obtain ⟨rfl, rfl, h⟩ := q
  exact kk M' h) rfl
theorem z_vS7 {v0 v1 v2 v3 v4 v5 v6 : Value} {Q : zM → Prop} (hM : zMet g l y' cc' nL' ret' d' 0 0 [v0, v1, v2, v3, v4, v5, v6] S0 M (zQv Q)) (hw : zCW y' cc' nL' ret' 7) (hl : Cond.methodLink y.cls index y' ∈ zW) (hin : Cond.static y' ∈ zW) (hd : d' + 1 ≤ d) (hst : (st.map fun v => v.category).sum ≤ 8) (hm : ks ≤ mc ∧ ns ≤ ms) (hdg : decode cc pc = .ok (.invokestatic index, 3)) (kk : ∀ (M' : zM), Q M' → zA g l y cc nL ret d mc ms P (pc + 3) ks ns S0 M' lo st) : zA g l y cc nL ret d mc ms P pc ks ns S0 M lo (v6 :: v5 :: v4 :: v3 :: v2 :: v1 :: v0 :: st) :=
  z_callS [v0, v1, v2, v3, v4, v5, v6] hM hw hl hin hd hst hm.1 hm.2 hdg (fun v S' M' q => by
  obtain ⟨rfl, rfl, h⟩ := q
  exact kk M' h) rfl
theorem z_lV0 {Q : Int64 → zM → Prop} (hM : zMet g l y' cc' nL' ret' d' 0 0 [.ref b] S0 M (zQl Q)) (hw : zCW y' cc' nL' ret' 0) (hl : Cond.methodLink y.cls index y' ∈ zW) (hin : Cond.instanceMethod y' ∈ zW) (hse : Cond.selects y'.cls y' y' ∈ zW) (K : zCls ci y'.cls T N t0) (hd : d' + 1 ≤ d) (hst : (st.map fun v => v.category).sum ≤ 8) (hm : ks ≤ mc ∧ ns ≤ ms) (hk : b < S0.1) (hs : S0.2.1 b = (ci, N)) (hdg : decode cc pc = .ok (.invokevirtual index, 3)) (kk : ∀ (r : Int64) (M' : zM), Q r M' → zA g l y cc nL ret d mc ms P (pc + 3) ks ns S0 M' lo (.long r :: st)) : zA g l y cc nL ret d mc ms P pc ks ns S0 M lo (.ref b :: st) :=
  z_callV [] hM hw hl hin hse K hd hst hk hs hm.1 hm.2 hdg (fun v S' M' q => by
  obtain ⟨rfl, r, rfl, h⟩ := q
  exact kk r M' h) rfl
theorem z_lS0 {Q : Int64 → zM → Prop} (hM : zMet g l y' cc' nL' ret' d' 0 0 [] S0 M (zQl Q)) (hw : zCW y' cc' nL' ret' 0) (hl : Cond.methodLink y.cls index y' ∈ zW) (hin : Cond.static y' ∈ zW) (hd : d' + 1 ≤ d) (hst : (st.map fun v => v.category).sum ≤ 8) (hm : ks ≤ mc ∧ ns ≤ ms) (hdg : decode cc pc = .ok (.invokestatic index, 3)) (kk : ∀ (r : Int64) (M' : zM), Q r M' → zA g l y cc nL ret d mc ms P (pc + 3) ks ns S0 M' lo (.long r :: st)) : zA g l y cc nL ret d mc ms P pc ks ns S0 M lo (st) :=
  z_callS [] hM hw hl hin hd hst hm.1 hm.2 hdg (fun v S' M' q => by
  obtain ⟨rfl, r, rfl, h⟩ := q
  exact kk r M' h) rfl
theorem z_lV1 {v0 : Value} {Q : Int64 → zM → Prop} (hM : zMet g l y' cc' nL' ret' d' 0 0 [.ref b, v0] S0 M (zQl Q)) (hw : zCW y' cc' nL' ret' 1) (hl : Cond.methodLink y.cls index y' ∈ zW) (hin : Cond.instanceMethod y' ∈ zW) (hse : Cond.selects y'.cls y' y' ∈ zW) (K : zCls ci y'.cls T N t0) (hd : d' + 1 ≤ d) (hst : (st.map fun v => v.category).sum ≤ 8) (hm : ks ≤ mc ∧ ns ≤ ms) (hk : b < S0.1) (hs : S0.2.1 b = (ci, N)) (hdg : decode cc pc = .ok (.invokevirtual index, 3)) (kk : ∀ (r : Int64) (M' : zM), Q r M' → zA g l y cc nL ret d mc ms P (pc + 3) ks ns S0 M' lo (.long r :: st)) : zA g l y cc nL ret d mc ms P pc ks ns S0 M lo (v0 :: .ref b :: st) :=
  z_callV [v0] hM hw hl hin hse K hd hst hk hs hm.1 hm.2 hdg (fun v S' M' q => by
  obtain ⟨rfl, r, rfl, h⟩ := q
  exact kk r M' h) rfl
theorem z_lS1 {v0 : Value} {Q : Int64 → zM → Prop} (hM : zMet g l y' cc' nL' ret' d' 0 0 [v0] S0 M (zQl Q)) (hw : zCW y' cc' nL' ret' 1) (hl : Cond.methodLink y.cls index y' ∈ zW) (hin : Cond.static y' ∈ zW) (hd : d' + 1 ≤ d) (hst : (st.map fun v => v.category).sum ≤ 8) (hm : ks ≤ mc ∧ ns ≤ ms) (hdg : decode cc pc = .ok (.invokestatic index, 3)) (kk : ∀ (r : Int64) (M' : zM), Q r M' → zA g l y cc nL ret d mc ms P (pc + 3) ks ns S0 M' lo (.long r :: st)) : zA g l y cc nL ret d mc ms P pc ks ns S0 M lo (v0 :: st) :=
  z_callS [v0] hM hw hl hin hd hst hm.1 hm.2 hdg (fun v S' M' q => by
  obtain ⟨rfl, r, rfl, h⟩ := q
  exact kk r M' h) rfl
theorem z_lV2 {v0 v1 : Value} {Q : Int64 → zM → Prop} (hM : zMet g l y' cc' nL' ret' d' 0 0 [.ref b, v0, v1] S0 M (zQl Q)) (hw : zCW y' cc' nL' ret' 2) (hl : Cond.methodLink y.cls index y' ∈ zW) (hin : Cond.instanceMethod y' ∈ zW) (hse : Cond.selects y'.cls y' y' ∈ zW) (K : zCls ci y'.cls T N t0) (hd : d' + 1 ≤ d) (hst : (st.map fun v => v.category).sum ≤ 8) (hm : ks ≤ mc ∧ ns ≤ ms) (hk : b < S0.1) (hs : S0.2.1 b = (ci, N)) (hdg : decode cc pc = .ok (.invokevirtual index, 3)) (kk : ∀ (r : Int64) (M' : zM), Q r M' → zA g l y cc nL ret d mc ms P (pc + 3) ks ns S0 M' lo (.long r :: st)) : zA g l y cc nL ret d mc ms P pc ks ns S0 M lo (v1 :: v0 :: .ref b :: st) :=
  z_callV [v0, v1] hM hw hl hin hse K hd hst hk hs hm.1 hm.2 hdg (fun v S' M' q => by
  obtain ⟨rfl, r, rfl, h⟩ := q
  exact kk r M' h) rfl
theorem z_lS2 {v0 v1 : Value} {Q : Int64 → zM → Prop} (hM : zMet g l y' cc' nL' ret' d' 0 0 [v0, v1] S0 M (zQl Q)) (hw : zCW y' cc' nL' ret' 2) (hl : Cond.methodLink y.cls index y' ∈ zW) (hin : Cond.static y' ∈ zW) (hd : d' + 1 ≤ d) (hst : (st.map fun v => v.category).sum ≤ 8) (hm : ks ≤ mc ∧ ns ≤ ms) (hdg : decode cc pc = .ok (.invokestatic index, 3)) (kk : ∀ (r : Int64) (M' : zM), Q r M' → zA g l y cc nL ret d mc ms P (pc + 3) ks ns S0 M' lo (.long r :: st)) : zA g l y cc nL ret d mc ms P pc ks ns S0 M lo (v1 :: v0 :: st) :=
  z_callS [v0, v1] hM hw hl hin hd hst hm.1 hm.2 hdg (fun v S' M' q => by
  obtain ⟨rfl, r, rfl, h⟩ := q
  exact kk r M' h) rfl
theorem z_lV3 {v0 v1 v2 : Value} {Q : Int64 → zM → Prop} (hM : zMet g l y' cc' nL' ret' d' 0 0 [.ref b, v0, v1, v2] S0 M (zQl Q)) (hw : zCW y' cc' nL' ret' 3) (hl : Cond.methodLink y.cls index y' ∈ zW) (hin : Cond.instanceMethod y' ∈ zW) (hse : Cond.selects y'.cls y' y' ∈ zW) (K : zCls ci y'.cls T N t0) (hd : d' + 1 ≤ d) (hst : (st.map fun v => v.category).sum ≤ 8) (hm : ks ≤ mc ∧ ns ≤ ms) (hk : b < S0.1) (hs : S0.2.1 b = (ci, N)) (hdg : decode cc pc = .ok (.invokevirtual index, 3)) (kk : ∀ (r : Int64) (M' : zM), Q r M' → zA g l y cc nL ret d mc ms P (pc + 3) ks ns S0 M' lo (.long r :: st)) : zA g l y cc nL ret d mc ms P pc ks ns S0 M lo (v2 :: v1 :: v0 :: .ref b :: st) :=
  z_callV [v0, v1, v2] hM hw hl hin hse K hd hst hk hs hm.1 hm.2 hdg (fun v S' M' q => by
  obtain ⟨rfl, r, rfl, h⟩ := q
  exact kk r M' h) rfl
theorem z_lS3 {v0 v1 v2 : Value} {Q : Int64 → zM → Prop} (hM : zMet g l y' cc' nL' ret' d' 0 0 [v0, v1, v2] S0 M (zQl Q)) (hw : zCW y' cc' nL' ret' 3) (hl : Cond.methodLink y.cls index y' ∈ zW) (hin : Cond.static y' ∈ zW) (hd : d' + 1 ≤ d) (hst : (st.map fun v => v.category).sum ≤ 8) (hm : ks ≤ mc ∧ ns ≤ ms) (hdg : decode cc pc = .ok (.invokestatic index, 3)) (kk : ∀ (r : Int64) (M' : zM), Q r M' → zA g l y cc nL ret d mc ms P (pc + 3) ks ns S0 M' lo (.long r :: st)) : zA g l y cc nL ret d mc ms P pc ks ns S0 M lo (v2 :: v1 :: v0 :: st) :=
  z_callS [v0, v1, v2] hM hw hl hin hd hst hm.1 hm.2 hdg (fun v S' M' q => by
  obtain ⟨rfl, r, rfl, h⟩ := q
  exact kk r M' h) rfl
theorem z_lV4 {v0 v1 v2 v3 : Value} {Q : Int64 → zM → Prop} (hM : zMet g l y' cc' nL' ret' d' 0 0 [.ref b, v0, v1, v2, v3] S0 M (zQl Q)) (hw : zCW y' cc' nL' ret' 4) (hl : Cond.methodLink y.cls index y' ∈ zW) (hin : Cond.instanceMethod y' ∈ zW) (hse : Cond.selects y'.cls y' y' ∈ zW) (K : zCls ci y'.cls T N t0) (hd : d' + 1 ≤ d) (hst : (st.map fun v => v.category).sum ≤ 8) (hm : ks ≤ mc ∧ ns ≤ ms) (hk : b < S0.1) (hs : S0.2.1 b = (ci, N)) (hdg : decode cc pc = .ok (.invokevirtual index, 3)) (kk : ∀ (r : Int64) (M' : zM), Q r M' → zA g l y cc nL ret d mc ms P (pc + 3) ks ns S0 M' lo (.long r :: st)) : zA g l y cc nL ret d mc ms P pc ks ns S0 M lo (v3 :: v2 :: v1 :: v0 :: .ref b :: st) :=
  z_callV [v0, v1, v2, v3] hM hw hl hin hse K hd hst hk hs hm.1 hm.2 hdg (fun v S' M' q => by
  obtain ⟨rfl, r, rfl, h⟩ := q
  exact kk r M' h) rfl
theorem z_lS4 {v0 v1 v2 v3 : Value} {Q : Int64 → zM → Prop} (hM : zMet g l y' cc' nL' ret' d' 0 0 [v0, v1, v2, v3] S0 M (zQl Q)) (hw : zCW y' cc' nL' ret' 4) (hl : Cond.methodLink y.cls index y' ∈ zW) (hin : Cond.static y' ∈ zW) (hd : d' + 1 ≤ d) (hst : (st.map fun v => v.category).sum ≤ 8) (hm : ks ≤ mc ∧ ns ≤ ms) (hdg : decode cc pc = .ok (.invokestatic index, 3)) (kk : ∀ (r : Int64) (M' : zM), Q r M' → zA g l y cc nL ret d mc ms P (pc + 3) ks ns S0 M' lo (.long r :: st)) : zA g l y cc nL ret d mc ms P pc ks ns S0 M lo (v3 :: v2 :: v1 :: v0 :: st) :=
  z_callS [v0, v1, v2, v3] hM hw hl hin hd hst hm.1 hm.2 hdg (fun v S' M' q => by
  obtain ⟨rfl, r, rfl, h⟩ := q
  exact kk r M' h) rfl
theorem z_lV5 {v0 v1 v2 v3 v4 : Value} {Q : Int64 → zM → Prop} (hM : zMet g l y' cc' nL' ret' d' 0 0 [.ref b, v0, v1, v2, v3, v4] S0 M (zQl Q)) (hw : zCW y' cc' nL' ret' 5) (hl : Cond.methodLink y.cls index y' ∈ zW) (hin : Cond.instanceMethod y' ∈ zW) (hse : Cond.selects y'.cls y' y' ∈ zW) (K : zCls ci y'.cls T N t0) (hd : d' + 1 ≤ d) (hst : (st.map fun v => v.category).sum ≤ 8) (hm : ks ≤ mc ∧ ns ≤ ms) (hk : b < S0.1) (hs : S0.2.1 b = (ci, N)) (hdg : decode cc pc = .ok (.invokevirtual index, 3)) (kk : ∀ (r : Int64) (M' : zM), Q r M' → zA g l y cc nL ret d mc ms P (pc + 3) ks ns S0 M' lo (.long r :: st)) : zA g l y cc nL ret d mc ms P pc ks ns S0 M lo (v4 :: v3 :: v2 :: v1 :: v0 :: .ref b :: st) :=
  z_callV [v0, v1, v2, v3, v4] hM hw hl hin hse K hd hst hk hs hm.1 hm.2 hdg (fun v S' M' q => by
  obtain ⟨rfl, r, rfl, h⟩ := q
  exact kk r M' h) rfl
theorem z_lS5 {v0 v1 v2 v3 v4 : Value} {Q : Int64 → zM → Prop} (hM : zMet g l y' cc' nL' ret' d' 0 0 [v0, v1, v2, v3, v4] S0 M (zQl Q)) (hw : zCW y' cc' nL' ret' 5) (hl : Cond.methodLink y.cls index y' ∈ zW) (hin : Cond.static y' ∈ zW) (hd : d' + 1 ≤ d) (hst : (st.map fun v => v.category).sum ≤ 8) (hm : ks ≤ mc ∧ ns ≤ ms) (hdg : decode cc pc = .ok (.invokestatic index, 3)) (kk : ∀ (r : Int64) (M' : zM), Q r M' → zA g l y cc nL ret d mc ms P (pc + 3) ks ns S0 M' lo (.long r :: st)) : zA g l y cc nL ret d mc ms P pc ks ns S0 M lo (v4 :: v3 :: v2 :: v1 :: v0 :: st) :=
  z_callS [v0, v1, v2, v3, v4] hM hw hl hin hd hst hm.1 hm.2 hdg (fun v S' M' q => by
  obtain ⟨rfl, r, rfl, h⟩ := q
  exact kk r M' h) rfl
theorem z_lS6 {v0 v1 v2 v3 v4 v5 : Value} {Q : Int64 → zM → Prop} (hM : zMet g l y' cc' nL' ret' d' 0 0 [v0, v1, v2, v3, v4, v5] S0 M (zQl Q)) (hw : zCW y' cc' nL' ret' 6) (hl : Cond.methodLink y.cls index y' ∈ zW) (hin : Cond.static y' ∈ zW) (hd : d' + 1 ≤ d) (hst : (st.map fun v => v.category).sum ≤ 8) (hm : ks ≤ mc ∧ ns ≤ ms) (hdg : decode cc pc = .ok (.invokestatic index, 3)) (kk : ∀ (r : Int64) (M' : zM), Q r M' → zA g l y cc nL ret d mc ms P (pc + 3) ks ns S0 M' lo (.long r :: st)) : zA g l y cc nL ret d mc ms P pc ks ns S0 M lo (v5 :: v4 :: v3 :: v2 :: v1 :: v0 :: st) :=
  z_callS [v0, v1, v2, v3, v4, v5] hM hw hl hin hd hst hm.1 hm.2 hdg (fun v S' M' q => by
  obtain ⟨rfl, r, rfl, h⟩ := q
  exact kk r M' h) rfl
theorem z_lS7 {v0 v1 v2 v3 v4 v5 v6 : Value} {Q : Int64 → zM → Prop} (hM : zMet g l y' cc' nL' ret' d' 0 0 [v0, v1, v2, v3, v4, v5, v6] S0 M (zQl Q)) (hw : zCW y' cc' nL' ret' 7) (hl : Cond.methodLink y.cls index y' ∈ zW) (hin : Cond.static y' ∈ zW) (hd : d' + 1 ≤ d) (hst : (st.map fun v => v.category).sum ≤ 8) (hm : ks ≤ mc ∧ ns ≤ ms) (hdg : decode cc pc = .ok (.invokestatic index, 3)) (kk : ∀ (r : Int64) (M' : zM), Q r M' → zA g l y cc nL ret d mc ms P (pc + 3) ks ns S0 M' lo (.long r :: st)) : zA g l y cc nL ret d mc ms P pc ks ns S0 M lo (v6 :: v5 :: v4 :: v3 :: v2 :: v1 :: v0 :: st) :=
  z_callS [v0, v1, v2, v3, v4, v5, v6] hM hw hl hin hd hst hm.1 hm.2 hdg (fun v S' M' q => by
  obtain ⟨rfl, r, rfl, h⟩ := q
  exact kk r M' h) rfl
end ZPLACES
