section Prt31a
set_option maxRecDepth 100000 in
theorem ck_0 : v_C [(2, 29, ([(0, none), (1, none), (2, none), (3, some (0, 60))], 3, 0, true))] 2 rw_0 = true := by decide +kernel
set_option maxRecDepth 100000 in
theorem ck_1 : v_C [(2, 29, ([(0, none), (1, none), (2, none), (3, some (0, 60))], 3, 0, true))] 2 rw_1 = true := by decide +kernel
set_option maxRecDepth 100000 in
theorem ck_2 : v_C [(3, 7, ([(0, none), (1, none), (2, some (0, 6))], 2, 0, true)), (3, 114, ([(0, none), (1, none), (2, some (0, 6))], 2, 0, true))] 3 rw_2 = true := by decide +kernel
set_option maxRecDepth 100000 in
theorem ck_3 : v_C [(3, 7, ([(0, none), (1, none), (2, some (0, 6))], 2, 0, true)), (3, 114, ([(0, none), (1, none), (2, some (0, 6))], 2, 0, true))] 3 rw_3 = true := by decide +kernel
end Prt31a
section Prt31b
set_option maxRecDepth 100000 in
theorem ck_4 : v_C [(4, 26, ([(0, none), (1, none), (3, some (0, 12))], 3, 0, true))] 4 rw_4 = true := by decide +kernel
set_option maxRecDepth 100000 in
theorem ck_5 : v_C [(4, 26, ([(0, none), (1, none), (3, some (0, 12))], 3, 0, true))] 4 rw_5 = true := by decide +kernel
set_option maxRecDepth 100000 in
theorem ck_6 : v_C [(5, 3, ([(0, none), (1, none), (2, none), (3, none), (4, some (0, 12))], 4, 0, true))] 5 rw_6 = true := by decide +kernel
set_option maxRecDepth 100000 in
theorem ck_7 : v_C [(5, 3, ([(0, none), (1, none), (2, none), (3, none), (4, some (0, 12))], 4, 0, true))] 5 rw_7 = true := by decide +kernel
set_option maxRecDepth 100000 in
theorem ck_8 : v_C [(6, 14, ([(0, none), (1, none), (2, none), (3, none), (4, some (0, 12))], 4, 0, true))] 6 rw_8 = true := by decide +kernel
set_option maxRecDepth 100000 in
theorem ck_9 : v_C [(6, 14, ([(0, none), (1, none), (2, none), (3, none), (4, some (0, 12))], 4, 0, true))] 6 rw_9 = true := by decide +kernel
set_option maxRecDepth 100000 in
theorem ck_10 : v_C [(7, 2, ([(0, none), (1, none), (2, some (0, 12))], 2, 0, true))] 7 rw_10 = true := by decide +kernel
set_option maxRecDepth 100000 in
theorem ck_11 : v_C [(7, 2, ([(0, none), (1, none), (2, some (0, 12))], 2, 0, true))] 7 rw_11 = true := by decide +kernel
set_option maxRecDepth 100000 in
theorem ck_12 : v_C [(8, 2, ([(0, none), (1, none), (2, some (0, 12))], 2, 0, true)), (8, 12, ([(0, none), (1, none), (2, none), (3, some (1, 12))], 3, 0, true))] 8 rw_12 = true := by decide +kernel
set_option maxRecDepth 100000 in
theorem ck_13 : v_C [(8, 2, ([(0, none), (1, none), (2, some (0, 12))], 2, 0, true)), (8, 12, ([(0, none), (1, none), (2, none), (3, some (1, 12))], 3, 0, true))] 8 rw_13 = true := by decide +kernel
set_option maxRecDepth 100000 in
theorem ck_14 : v_C [(9, 2, ([(1, none), (2, some (0, 5))], 2, 0, true))] 9 rw_14 = true := by decide +kernel
set_option maxRecDepth 100000 in
theorem ck_15 : v_C [(9, 2, ([(1, none), (2, some (0, 5))], 2, 0, true))] 9 rw_15 = true := by decide +kernel
set_option maxRecDepth 100000 in
theorem ck_16 : v_C [(11, 9, ([(0, none), (1, none), (2, some ((-2), 15)), (3, some ((-2), 5)), (4, some (0, 6))], 4, 0, true))] 11 rw_16 = true := by decide +kernel
set_option maxRecDepth 100000 in
theorem ck_17 : v_C [(11, 9, ([(0, none), (1, none), (2, some ((-2), 15)), (3, some ((-2), 5)), (4, some (0, 6))], 4, 0, true))] 11 rw_17 = true := by decide +kernel
set_option maxRecDepth 100000 in
theorem ck_18 : v_C [(19, 8, ([(0, none), (2, none), (3, some (0, 32)), (4, some ((-2147483648), 2147483647)), (5, some (0, 256))], 5, 0, true))] 19 rw_18 = true := by decide +kernel
set_option maxRecDepth 100000 in
theorem ck_19 : v_C [(19, 8, ([(0, none), (2, none), (3, some (0, 32)), (4, some ((-2147483648), 2147483647)), (5, some (0, 256))], 5, 0, true))] 19 rw_19 = true := by decide +kernel
set_option maxRecDepth 100000 in
theorem ck_20 : v_C [(19, 8, ([(0, none), (2, none), (3, some (0, 32)), (4, some ((-2147483648), 2147483647)), (5, some (0, 256))], 5, 0, true))] 19 rw_20 = true := by decide +kernel
set_option maxRecDepth 100000 in
theorem ck_21 : v_C [] 20 rw_21 = true := by decide +kernel
set_option maxRecDepth 100000 in
theorem ck_22 : v_C [] 21 rw_22 = true := by decide +kernel
set_option maxRecDepth 100000 in
theorem ck_23 : v_C [(23, 12, ([(0, none), (1, none), (3, none), (4, some ((-2147483648), 2147483647)), (5, some ((-2147483648), 2147483647)), (6, some (0, 5))], 6, 0, true))] 23 rw_23 = true := by decide +kernel
set_option maxRecDepth 100000 in
theorem ck_24 : v_C [(24, 21, ([(0, none), (1, none), (2, none), (3, some ((-2147483648), 2147483647)), (4, some (0, 12))], 4, 0, true))] 24 rw_24 = true := by decide +kernel
set_option maxRecDepth 100000 in
theorem ck_25 : v_C [(25, 5, ([(0, none), (1, none), (2, none), (3, some ((-2147483648), 2147483647)), (4, some (0, 12))], 4, 0, true)), (25, 15, ([(0, none), (1, none), (2, none), (3, some ((-2147483648), 2147483647)), (4, none), (5, some (0, 5))], 5, 0, true))] 25 rw_25 = true := by decide +kernel
set_option maxRecDepth 100000 in
theorem ck_26 : v_C [(26, 4, ([(0, none), (1, none), (2, some ((-1), 4)), (3, some (0, 5))], 3, 0, true))] 26 rw_26 = true := by decide +kernel
set_option maxRecDepth 100000 in
theorem ck_27 : v_C [(27, 6, ([(0, none), (1, none), (2, none), (3, none), (4, some ((-1), 11)), (5, some (0, 12))], 5, 0, true))] 27 rw_27 = true := by decide +kernel
set_option maxRecDepth 100000 in
theorem ck_28 : v_C [] 29 rw_28 = true := by decide +kernel
set_option maxRecDepth 100000 in
theorem ck_29 : v_C [(39, 8, ([(0, none), (3, some (0, 16))], 3, 0, true))] 39 rw_29 = true := by decide +kernel
set_option maxRecDepth 100000 in
theorem ck_30 : v_C [(39, 8, ([(0, none), (3, some (0, 16))], 3, 0, true))] 39 rw_30 = true := by decide +kernel
set_option maxRecDepth 100000 in
theorem ck_31 : v_C [] 40 rw_31 = true := by decide +kernel
set_option maxRecDepth 100000 in
theorem ck_32 : v_C [] 40 rw_32 = true := by decide +kernel
set_option maxRecDepth 100000 in
theorem ck_33 : v_C [(42, 90, ([(0, none), (1, none), (3, none), (5, some (0, 12))], 5, 0, true))] 42 rw_33 = true := by decide +kernel
set_option maxRecDepth 100000 in
theorem ck_34 : v_C [(42, 90, ([(0, none), (1, none), (3, none), (5, some (0, 12))], 5, 0, true))] 42 rw_34 = true := by decide +kernel
end Prt31b
section Prt31c
set_option maxRecDepth 100000 in
theorem ck_35 : v_C [(43, 2, ([(0, none), (1, none), (2, none), (3, some (0, 16))], 3, 0, true))] 43 rw_35 = true := by decide +kernel
set_option maxRecDepth 100000 in
theorem ck_36 : v_C [(44, 2, ([(0, none), (1, none), (2, some (0, 16))], 2, 0, true))] 44 rw_36 = true := by decide +kernel
set_option maxRecDepth 100000 in
theorem ck_37 : v_C [(46, 32, ([(0, none), (4, some (0, 8))], 4, 0, true))] 46 rw_37 = true := by decide +kernel
set_option maxRecDepth 100000 in
theorem ck_38 : v_C [(47, 27, ([(0, none), (1, none), (4, some (0, 8))], 4, 0, true)), (47, 46, ([(0, none), (1, none), (4, none), (5, some (0, 8))], 5, 0, true))] 47 rw_38 = true := by decide +kernel
set_option maxRecDepth 100000 in
theorem ck_39 : v_C [(49, 29, ([(0, none), (3, none), (4, some ((-1), 255))], 4, 0, false)), (49, 37, ([(0, none), (3, none), (4, none), (5, some (0, 8))], 5, 0, true))] 49 rw_39 = true := by decide +kernel
set_option maxRecDepth 100000 in
theorem ck_40 : v_C [(51, 4, ([(0, none), (1, none), (2, some (0, 8)), (3, some (0, 12))], 3, 0, true))] 51 rw_40 = true := by decide +kernel
set_option maxRecDepth 100000 in
theorem ck_41 : v_C [(51, 4, ([(0, none), (1, none), (2, some (0, 6)), (3, some (0, 12))], 3, 0, true))] 51 rw_41 = true := by decide +kernel
set_option maxRecDepth 100000 in
theorem ck_42 : v_C [(51, 4, ([(0, none), (1, none), (2, some (0, 8)), (3, some (0, 12))], 3, 0, true))] 51 rw_42 = true := by decide +kernel
set_option maxRecDepth 100000 in
theorem ck_43 : v_C [(52, 10, ([(0, none), (1, none), (2, some (0, 8))], 2, 0, true)), (52, 28, ([(0, none), (1, none), (2, none), (3, some (1, 8))], 3, 0, true))] 52 rw_43 = true := by decide +kernel
set_option maxRecDepth 100000 in
theorem ck_44 : v_C [] 53 rw_44 = true := by decide +kernel
set_option maxRecDepth 100000 in
theorem ck_45 : v_C [(53, 31, ([(0, none), (1, none), (2, none), (3, some (0, 8))], 3, 0, true))] 53 rw_45 = true := by decide +kernel
set_option maxRecDepth 100000 in
theorem ck_46 : v_C [(53, 31, ([(0, none), (1, none), (2, none), (3, some (0, 8))], 3, 0, true))] 53 rw_46 = true := by decide +kernel
set_option maxRecDepth 100000 in
theorem ck_47 : v_C [(53, 31, ([(0, none), (1, none), (2, none), (3, some (0, 8))], 3, 0, true))] 53 rw_47 = true := by decide +kernel
set_option maxRecDepth 100000 in
theorem ck_48 : v_C [(53, 31, ([(0, none), (1, none), (2, none), (3, some (0, 8))], 3, 0, true))] 53 rw_48 = true := by decide +kernel
set_option maxRecDepth 100000 in
theorem ck_49 : v_C [(53, 31, ([(0, none), (1, none), (2, none), (3, some (0, 8))], 3, 0, true))] 53 rw_49 = true := by decide +kernel
set_option maxRecDepth 100000 in
theorem ck_50 : v_C [(53, 31, ([(0, none), (1, none), (2, none), (3, some (0, 8))], 3, 0, true))] 53 rw_50 = true := by decide +kernel
set_option maxRecDepth 100000 in
theorem ck_51 : v_C [(53, 31, ([(0, none), (1, none), (2, none), (3, some (0, 8))], 3, 0, true))] 53 rw_51 = true := by decide +kernel
set_option maxRecDepth 100000 in
theorem ck_52 : v_C [(53, 31, ([(0, none), (1, none), (2, none), (3, some (0, 8))], 3, 0, true))] 53 rw_52 = true := by decide +kernel
set_option maxRecDepth 100000 in
theorem ck_53 : v_C [] 54 rw_53 = true := by decide +kernel
set_option maxRecDepth 100000 in
theorem ck_54 : v_C [(54, 32, ([(0, none), (1, none), (2, none), (3, none), (4, some (0, 8))], 4, 0, true))] 54 rw_54 = true := by decide +kernel
set_option maxRecDepth 100000 in
theorem ck_55 : v_C [(54, 32, ([(0, none), (1, none), (2, none), (3, none), (4, some (0, 8))], 4, 0, true))] 54 rw_55 = true := by decide +kernel
set_option maxRecDepth 100000 in
theorem ck_56 : v_C [(54, 32, ([(0, none), (1, none), (2, none), (3, none), (4, some (0, 8))], 4, 0, true))] 54 rw_56 = true := by decide +kernel
set_option maxRecDepth 100000 in
theorem ck_57 : v_C [(54, 32, ([(0, none), (1, none), (2, none), (3, none), (4, some (0, 8))], 4, 0, true))] 54 rw_57 = true := by decide +kernel
set_option maxRecDepth 100000 in
theorem ck_58 : v_C [(54, 32, ([(0, none), (1, none), (2, none), (3, none), (4, some (0, 8))], 4, 0, true))] 54 rw_58 = true := by decide +kernel
set_option maxRecDepth 100000 in
theorem ck_59 : v_C [(54, 32, ([(0, none), (1, none), (2, none), (3, none), (4, some (0, 8))], 4, 0, true))] 54 rw_59 = true := by decide +kernel
set_option maxRecDepth 100000 in
theorem ck_60 : v_C [(54, 32, ([(0, none), (1, none), (2, none), (3, none), (4, some (0, 8))], 4, 0, true))] 54 rw_60 = true := by decide +kernel
set_option maxRecDepth 100000 in
theorem ck_61 : v_C [(54, 32, ([(0, none), (1, none), (2, none), (3, none), (4, some (0, 8))], 4, 0, true))] 54 rw_61 = true := by decide +kernel
set_option maxRecDepth 100000 in
theorem ck_62 : v_C [(56, 30, ([(0, none), (1, none), (2, none), (4, some ((-2147483648), 2147483647)), (5, some (1, 8))], 5, 0, true))] 56 rw_62 = true := by decide +kernel
set_option maxRecDepth 100000 in
theorem ck_63 : v_C [(57, 13, ([(0, none), (1, some (1, 255)), (2, some (0, 7)), (3, some (1, 8))], 3, 0, true))] 57 rw_63 = true := by decide +kernel
set_option maxRecDepth 100000 in
theorem ck_64 : v_C [(58, 2, ([(0, none), (1, none), (2, none), (3, some (1, 8))], 3, 0, true))] 58 rw_64 = true := by decide +kernel
set_option maxRecDepth 100000 in
theorem ck_65 : v_C [(60, 7, ([(0, none), (2, none), (3, some (0, 240))], 3, 0, true))] 60 rw_65 = true := by decide +kernel
set_option maxRecDepth 100000 in
theorem ck_67 : v_C [] 63 rw_67 = true := by decide +kernel
set_option maxRecDepth 100000 in
theorem ck_68 : v_C [] 64 rw_68 = true := by decide +kernel
set_option maxRecDepth 100000 in
theorem ck_69 : v_C [] 65 rw_69 = true := by decide +kernel
set_option maxRecDepth 100000 in
theorem ck_70 : v_C [] 67 rw_70 = true := by decide +kernel
end Prt31c
section Prt31d
set_option maxRecDepth 100000 in
theorem ck_71 : v_C [] 70 rw_71 = true := by decide +kernel
set_option maxRecDepth 100000 in
theorem ck_72 : v_C [] 70 rw_72 = true := by decide +kernel
set_option maxRecDepth 100000 in
theorem ck_73 : v_C [] 70 rw_73 = true := by decide +kernel
set_option maxRecDepth 100000 in
theorem ck_74 : v_C [] 70 rw_74 = true := by decide +kernel
set_option maxRecDepth 100000 in
theorem ck_75 : v_C [] 70 rw_75 = true := by decide +kernel
set_option maxRecDepth 100000 in
theorem ck_76 : v_C [] 70 rw_76 = true := by decide +kernel
set_option maxRecDepth 100000 in
theorem ck_77 : v_C [] 70 rw_77 = true := by decide +kernel
set_option maxRecDepth 100000 in
theorem ck_78 : v_C [(71, 7, ([(0, none), (1, none), (2, some (0, 240))], 2, 0, true))] 71 rw_78 = true := by decide +kernel
set_option maxRecDepth 100000 in
theorem ck_79 : v_C [(71, 7, ([(0, none), (1, none), (2, some (0, 240))], 2, 0, true))] 71 rw_79 = true := by decide +kernel
set_option maxRecDepth 100000 in
theorem ck_80 : v_C [(71, 7, ([(0, none), (1, none), (2, some (0, 240))], 2, 0, true))] 71 rw_80 = true := by decide +kernel
set_option maxRecDepth 100000 in
theorem ck_81 : v_C [(71, 7, ([(0, none), (1, none), (2, some (0, 240))], 2, 0, true))] 71 rw_81 = true := by decide +kernel
set_option maxRecDepth 100000 in
theorem ck_82 : v_C [(71, 7, ([(0, none), (1, none), (2, some (0, 240))], 2, 0, true))] 71 rw_82 = true := by decide +kernel
set_option maxRecDepth 100000 in
theorem ck_83 : v_C [(71, 7, ([(0, none), (1, none), (2, some (0, 240))], 2, 0, true))] 71 rw_83 = true := by decide +kernel
set_option maxRecDepth 100000 in
theorem ck_84 : v_C [(72, 7, ([(0, none), (1, none), (2, some (0, 240))], 2, 0, true))] 72 rw_84 = true := by decide +kernel
set_option maxRecDepth 100000 in
theorem ck_85 : v_C [(72, 7, ([(0, none), (1, none), (2, some (0, 240))], 2, 0, true))] 72 rw_85 = true := by decide +kernel
set_option maxRecDepth 100000 in
theorem ck_86 : v_C [(72, 7, ([(0, none), (1, none), (2, some (0, 240))], 2, 0, true))] 72 rw_86 = true := by decide +kernel
set_option maxRecDepth 100000 in
theorem ck_87 : v_C [(72, 7, ([(0, none), (1, none), (2, some (0, 240))], 2, 0, true))] 72 rw_87 = true := by decide +kernel
set_option maxRecDepth 100000 in
theorem ck_88 : v_C [(72, 7, ([(0, none), (1, none), (2, some (0, 240))], 2, 0, true))] 72 rw_88 = true := by decide +kernel
set_option maxRecDepth 100000 in
theorem ck_89 : v_C [(72, 7, ([(0, none), (1, none), (2, some (0, 240))], 2, 0, true))] 72 rw_89 = true := by decide +kernel
set_option maxRecDepth 100000 in
theorem ck_90 : v_C [] 73 rw_90 = true := by decide +kernel
set_option maxRecDepth 100000 in
theorem ck_91 : v_C [] 73 rw_91 = true := by decide +kernel
set_option maxRecDepth 100000 in
theorem ck_92 : v_C [] 73 rw_92 = true := by decide +kernel
set_option maxRecDepth 100000 in
theorem ck_93 : v_C [] 73 rw_93 = true := by decide +kernel
set_option maxRecDepth 100000 in
theorem ck_94 : v_C [] 73 rw_94 = true := by decide +kernel
end Prt31d
section Prt31e
set_option maxRecDepth 100000 in
theorem ck_95 : v_C [] 73 rw_95 = true := by decide +kernel
set_option maxRecDepth 100000 in
theorem ck_96 : v_C [(74, 7, ([(0, none), (1, none), (2, some (0, 240))], 2, 0, true))] 74 rw_96 = true := by decide +kernel
set_option maxRecDepth 100000 in
theorem ck_97 : v_C [(74, 7, ([(0, none), (1, none), (2, some (0, 240))], 2, 0, true))] 74 rw_97 = true := by decide +kernel
set_option maxRecDepth 100000 in
theorem ck_98 : v_C [(74, 7, ([(0, none), (1, none), (2, some (0, 240))], 2, 0, true))] 74 rw_98 = true := by decide +kernel
set_option maxRecDepth 100000 in
theorem ck_99 : v_C [(74, 7, ([(0, none), (1, none), (2, some (0, 240))], 2, 0, true))] 74 rw_99 = true := by decide +kernel
set_option maxRecDepth 100000 in
theorem ck_100 : v_C [(74, 7, ([(0, none), (1, none), (2, some (0, 240))], 2, 0, true))] 74 rw_100 = true := by decide +kernel
set_option maxRecDepth 100000 in
theorem ck_101 : v_C [(74, 7, ([(0, none), (1, none), (2, some (0, 240))], 2, 0, true))] 74 rw_101 = true := by decide +kernel
set_option maxRecDepth 100000 in
theorem ck_102 : v_C [(74, 7, ([(0, none), (1, none), (2, some (0, 240))], 2, 0, true))] 74 rw_102 = true := by decide +kernel
set_option maxRecDepth 100000 in
theorem ck_103 : v_C [(75, 7, ([(0, none), (1, none), (2, some (0, 240))], 2, 0, true))] 75 rw_103 = true := by decide +kernel
set_option maxRecDepth 100000 in
theorem ck_104 : v_C [(75, 7, ([(0, none), (1, none), (2, some (0, 240))], 2, 0, true))] 75 rw_104 = true := by decide +kernel
set_option maxRecDepth 100000 in
theorem ck_105 : v_C [(75, 7, ([(0, none), (1, none), (2, some (0, 240))], 2, 0, true))] 75 rw_105 = true := by decide +kernel
set_option maxRecDepth 100000 in
theorem ck_106 : v_C [(75, 7, ([(0, none), (1, none), (2, some (0, 240))], 2, 0, true))] 75 rw_106 = true := by decide +kernel
set_option maxRecDepth 100000 in
theorem ck_107 : v_C [(75, 7, ([(0, none), (1, none), (2, some (0, 240))], 2, 0, true))] 75 rw_107 = true := by decide +kernel
end Prt31e
section Prt31f
set_option maxRecDepth 100000 in
theorem ck_108 : v_C [(75, 7, ([(0, none), (1, none), (2, some (0, 240))], 2, 0, true))] 75 rw_108 = true := by decide +kernel
set_option maxRecDepth 100000 in
theorem ck_109 : v_C [(75, 7, ([(0, none), (1, none), (2, some (0, 240))], 2, 0, true))] 75 rw_109 = true := by decide +kernel
set_option maxRecDepth 100000 in
theorem ck_110 : v_C [] 76 rw_110 = true := by decide +kernel
set_option maxRecDepth 100000 in
theorem ck_111 : v_C [] 76 rw_111 = true := by decide +kernel
set_option maxRecDepth 100000 in
theorem ck_112 : v_C [] 76 rw_112 = true := by decide +kernel
set_option maxRecDepth 100000 in
theorem ck_113 : v_C [] 76 rw_113 = true := by decide +kernel
set_option maxRecDepth 100000 in
theorem ck_114 : v_C [] 76 rw_114 = true := by decide +kernel
set_option maxRecDepth 100000 in
theorem ck_115 : v_C [] 76 rw_115 = true := by decide +kernel
set_option maxRecDepth 100000 in
theorem ck_116 : v_C [] 76 rw_116 = true := by decide +kernel
set_option maxRecDepth 100000 in
theorem ck_117 : v_C [(77, 4, ([(0, none), (1, some ((-2147483648), 2147483647)), (2, some (0, 5))], 2, 0, true))] 77 rw_117 = true := by decide +kernel
set_option maxRecDepth 100000 in
theorem ck_118 : v_C [(84, 19, ([(0, none), (3, some (0, 1023)), (4, some ((-2147483648), 2147483647)), (5, none), (6, some (0, 10))], 6, 0, true))] 84 rw_118 = true := by decide +kernel
set_option maxRecDepth 100000 in
theorem ck_119 : v_C [(85, 9, ([(0, none), (1, none), (3, some (0, 1023)), (4, some (0, 10))], 4, 0, true)), (85, 19, ([(0, none), (1, none), (3, some (0, 1023)), (4, none), (5, some (0, 10))], 5, 0, true))] 85 rw_119 = true := by decide +kernel
set_option maxRecDepth 100000 in
theorem ck_120 : v_C [(86, 2, ([(0, none), (1, none), (2, none), (3, some (0, 10))], 3, 0, true))] 86 rw_120 = true := by decide +kernel
set_option maxRecDepth 100000 in
theorem ck_121 : v_C [(91, 4, ([(0, none), (1, none), (2, some (0, 4095)), (3, some (0, 12))], 3, 0, true))] 91 rw_121 = true := by decide +kernel
set_option maxRecDepth 100000 in
theorem ck_122 : v_C [(91, 4, ([(0, none), (1, none), (2, some (0, 4095)), (3, some (0, 12))], 3, 0, true))] 91 rw_122 = true := by decide +kernel
set_option maxRecDepth 100000 in
theorem ck_123 : v_C [] 93 rw_123 = true := by decide +kernel
set_option maxRecDepth 100000 in
theorem ck_124 : v_C [] 93 rw_124 = true := by decide +kernel
set_option maxRecDepth 100000 in
theorem ck_125 : v_C [] 93 rw_125 = true := by decide +kernel
set_option maxRecDepth 100000 in
theorem ck_126 : v_C [(96, 3, ([(0, none), (1, none), (2, some ((-128), 24))], 2, 0, false))] 96 rw_126 = true := by decide +kernel
set_option maxRecDepth 100000 in
theorem ck_127 : v_C [] 97 rw_127 = true := by decide +kernel
set_option maxRecDepth 100000 in
theorem ck_128 : v_C [(104, 29, ([(0, none), (1, none), (3, some ((-1), 5))], 3, 0, false))] 104 rw_128 = true := by decide +kernel
set_option maxRecDepth 100000 in
theorem ck_129 : v_C [] 106 rw_129 = true := by decide +kernel
set_option maxRecDepth 100000 in
theorem ck_130 : v_C [(106, 96, ([(0, none), (1, none), (2, none), (3, none), (4, none), (5, none), (6, none), (7, some (0, 4))], 7, 0, true))] 106 rw_130 = true := by decide +kernel
set_option maxRecDepth 100000 in
theorem ck_131 : v_C [(106, 96, ([(0, none), (1, none), (2, none), (3, none), (4, none), (5, none), (6, none), (7, some (0, 4))], 7, 0, true))] 106 rw_131 = true := by decide +kernel
set_option maxRecDepth 100000 in
theorem ck_132 : v_C [(106, 96, ([(0, none), (1, none), (2, none), (3, none), (4, none), (5, none), (6, none), (7, some (0, 4))], 7, 0, true))] 106 rw_132 = true := by decide +kernel
set_option maxRecDepth 100000 in
theorem ck_133 : v_C [(106, 96, ([(0, none), (1, none), (2, none), (3, none), (4, none), (5, none), (6, none), (7, some (0, 4))], 7, 0, true))] 106 rw_133 = true := by decide +kernel
set_option maxRecDepth 100000 in
theorem ck_134 : v_C [(106, 96, ([(0, none), (1, none), (2, none), (3, none), (4, none), (5, none), (6, none), (7, some (0, 4))], 7, 0, true))] 106 rw_134 = true := by decide +kernel
end Prt31f
section Prt31g
set_option maxRecDepth 100000 in
theorem ck_135 : v_C [(106, 96, ([(0, none), (1, none), (2, none), (3, none), (4, none), (5, none), (6, none), (7, some (0, 4))], 7, 0, true))] 106 rw_135 = true := by decide +kernel
set_option maxRecDepth 100000 in
theorem ck_136 : v_C [(108, 2, ([(0, none), (1, none), (2, none), (3, some (0, 5))], 3, 0, true))] 108 rw_136 = true := by decide +kernel
set_option maxRecDepth 100000 in
theorem ck_137 : v_C [] 109 rw_137 = true := by decide +kernel
set_option maxRecDepth 100000 in
theorem ck_138 : v_C [] 111 rw_138 = true := by decide +kernel
set_option maxRecDepth 100000 in
theorem ck_139 : v_C [] 112 rw_139 = true := by decide +kernel
set_option maxRecDepth 100000 in
theorem ck_140 : v_C [] 113 rw_140 = true := by decide +kernel
set_option maxRecDepth 100000 in
theorem ck_141 : v_C [] 114 rw_141 = true := by decide +kernel
set_option maxRecDepth 100000 in
theorem ck_142 : v_C [] 115 rw_142 = true := by decide +kernel
set_option maxRecDepth 100000 in
theorem ck_143 : v_C [] 116 rw_143 = true := by decide +kernel
set_option maxRecDepth 100000 in
theorem ck_144 : v_C [] 117 rw_144 = true := by decide +kernel
set_option maxRecDepth 100000 in
theorem ck_145 : v_C [] 118 rw_145 = true := by decide +kernel
set_option maxRecDepth 100000 in
theorem ck_146 : v_C [] 119 rw_146 = true := by decide +kernel
set_option maxRecDepth 100000 in
theorem ck_147 : v_C [] 120 rw_147 = true := by decide +kernel
set_option maxRecDepth 100000 in
theorem ck_148 : v_C [] 121 rw_148 = true := by decide +kernel
set_option maxRecDepth 100000 in
theorem ck_149 : v_C [] 122 rw_149 = true := by decide +kernel
set_option maxRecDepth 100000 in
theorem ck_150 : v_C [] 123 rw_150 = true := by decide +kernel
set_option maxRecDepth 100000 in
theorem ck_151 : v_C [] 124 rw_151 = true := by decide +kernel
set_option maxRecDepth 100000 in
theorem ck_152 : v_C [] 125 rw_152 = true := by decide +kernel
set_option maxRecDepth 100000 in
theorem ck_153 : v_C [] 126 rw_153 = true := by decide +kernel
set_option maxRecDepth 100000 in
theorem ck_154 : v_C [] 127 rw_154 = true := by decide +kernel
set_option maxRecDepth 100000 in
theorem ck_155 : v_C [] 128 rw_155 = true := by decide +kernel
set_option maxRecDepth 100000 in
theorem ck_156 : v_C [] 129 rw_156 = true := by decide +kernel
set_option maxRecDepth 100000 in
theorem ck_157 : v_C [] 130 rw_157 = true := by decide +kernel
set_option maxRecDepth 100000 in
theorem ck_158 : v_C [] 131 rw_158 = true := by decide +kernel
set_option maxRecDepth 100000 in
theorem ck_159 : v_C [] 132 rw_159 = true := by decide +kernel
set_option maxRecDepth 100000 in
theorem ck_160 : v_C [(133, 24, ([(0, none), (1, none), (2, none), (3, some ((-2147483648), 2147483647)), (4, some (0, 12))], 4, 0, true))] 133 rw_160 = true := by decide +kernel
set_option maxRecDepth 100000 in
theorem ck_161 : v_C [] 134 rw_161 = true := by decide +kernel
set_option maxRecDepth 100000 in
theorem ck_162 : v_C [] 135 rw_162 = true := by decide +kernel
set_option maxRecDepth 100000 in
theorem ck_163 : v_C [(136, 29, ([(0, none), (1, none), (2, some (0, 4095)), (3, some (0, 12))], 3, 0, true))] 136 rw_163 = true := by decide +kernel
set_option maxRecDepth 100000 in
theorem ck_164 : v_C [] 137 rw_164 = true := by decide +kernel
set_option maxRecDepth 100000 in
theorem ck_165 : v_C [] 138 rw_165 = true := by decide +kernel
set_option maxRecDepth 100000 in
theorem ck_166 : v_C [] 139 rw_166 = true := by decide +kernel
set_option maxRecDepth 100000 in
theorem ck_167 : v_C [] 140 rw_167 = true := by decide +kernel
set_option maxRecDepth 100000 in
theorem ck_168 : v_C [] 141 rw_168 = true := by decide +kernel
set_option maxRecDepth 100000 in
theorem ck_169 : v_C [] 142 rw_169 = true := by decide +kernel
set_option maxRecDepth 100000 in
theorem ck_170 : v_C [] 143 rw_170 = true := by decide +kernel
set_option maxRecDepth 100000 in
theorem ck_171 : v_C [] 144 rw_171 = true := by decide +kernel
set_option maxRecDepth 100000 in
theorem ck_172 : v_C [(145, 22, ([(0, none), (1, some (0, 6))], 1, 0, true))] 145 rw_172 = true := by decide +kernel
end Prt31g
section Prt31h
set_option maxRecDepth 100000 in
theorem ck_173 : v_C [(146, 27, ([(0, none), (1, none), (2, some ((-1), 11)), (3, some (0, 12))], 3, 0, true))] 146 rw_173 = true := by decide +kernel
set_option maxRecDepth 100000 in
theorem ck_174 : v_C [(153, 5, ([(0, none), (1, none), (2, none), (3, some (0, 1023)), (4, some (0, 10))], 4, 0, true))] 153 rw_174 = true := by decide +kernel
set_option maxRecDepth 100000 in
theorem ck_175 : v_C [(154, 15, ([(0, none), (1, none), (2, none), (3, none), (4, some ((-2147483648), 10)), (5, some ((-2), 9)), (6, some (0, 10))], 6, 0, true))] 154 rw_175 = true := by decide +kernel
set_option maxRecDepth 100000 in
theorem ck_176 : v_C [(155, 5, ([(0, none), (1, none), (2, none), (3, some ((-2147483648), 2147483647)), (4, some (0, 10))], 4, 0, true))] 155 rw_176 = true := by decide +kernel
set_option maxRecDepth 100000 in
theorem ck_177 : v_C [(156, 34, ([(0, none), (1, none), (2, none), (3, none), (4, none), (5, some (0, 2147483647)), (6, some ((-2147483648), 250)), (7, some (0, 8))], 7, 0, true))] 156 rw_177 = true := by decide +kernel
set_option maxRecDepth 100000 in
theorem ck_178 : v_C [(157, 4, ([(0, none), (1, none), (2, some ((-1), 2147483647)), (3, some (0, 8))], 3, 0, true))] 157 rw_178 = true := by decide +kernel
set_option maxRecDepth 100000 in
theorem ck_179 : v_C [(158, 2, ([(0, none), (1, none), (2, none), (3, some (0, 8))], 3, 0, true)), (158, 10, ([(0, none), (1, none), (2, none), (3, none), (4, some (0, 8))], 4, 0, true))] 158 rw_179 = true := by decide +kernel
set_option maxRecDepth 100000 in
theorem ck_180 : v_C [] 163 rw_180 = true := by decide +kernel
set_option maxRecDepth 100000 in
theorem ck_181 : v_C [] 165 rw_181 = true := by decide +kernel
set_option maxRecDepth 100000 in
theorem ck_182 : v_C [] 166 rw_182 = true := by decide +kernel
set_option maxRecDepth 100000 in
theorem ck_185 : v_C [] 195 rw_185 = true := by decide +kernel
set_option maxRecDepth 100000 in
theorem ck_186 : v_C [] 196 rw_186 = true := by decide +kernel
set_option maxRecDepth 100000 in
theorem ck_187 : v_C [] 197 rw_187 = true := by decide +kernel
set_option maxRecDepth 100000 in
theorem ck_188 : v_C [(200, 2, ([(0, none), (1, none), (2, none), (3, some (0, 16))], 3, 0, true))] 200 rw_188 = true := by decide +kernel
set_option maxRecDepth 100000 in
theorem ck_189 : v_C [(201, 2, ([(0, none), (1, none), (2, some (0, 16))], 2, 0, true))] 201 rw_189 = true := by decide +kernel
set_option maxRecDepth 100000 in
theorem ck_190 : v_C [] 203 rw_190 = true := by decide +kernel
set_option maxRecDepth 100000 in
theorem ck_191 : v_C [] 204 rw_191 = true := by decide +kernel
set_option maxRecDepth 100000 in
theorem ck_192 : v_C [] 207 rw_192 = true := by decide +kernel
set_option maxRecDepth 100000 in
theorem ck_193 : v_C [(213, 4, ([(0, none), (1, none), (2, some ((-2147483648), 2147483647)), (3, some (0, 12))], 3, 0, true))] 213 rw_193 = true := by decide +kernel
set_option maxRecDepth 100000 in
theorem ck_194 : v_C [(214, 4, ([(0, none), (1, none), (2, some ((-2147483648), 2147483647)), (3, some (0, 12))], 3, 0, true))] 214 rw_194 = true := by decide +kernel
set_option maxRecDepth 100000 in
theorem ck_195 : v_C [] 215 rw_195 = true := by decide +kernel
set_option maxRecDepth 100000 in
theorem ck_196 : v_C [] 216 rw_196 = true := by decide +kernel
set_option maxRecDepth 100000 in
theorem ck_197 : v_C [] 217 rw_197 = true := by decide +kernel
set_option maxRecDepth 100000 in
theorem ck_198 : v_C [] 218 rw_198 = true := by decide +kernel
set_option maxRecDepth 100000 in
theorem ck_199 : v_C [] 219 rw_199 = true := by decide +kernel
set_option maxRecDepth 100000 in
theorem ck_200 : v_C [] 220 rw_200 = true := by decide +kernel
set_option maxRecDepth 100000 in
theorem ck_201 : v_C [] 221 rw_201 = true := by decide +kernel
set_option maxRecDepth 100000 in
theorem ck_203 : v_C [(228, 22, ([(0, none), (2, some (0, 12))], 2, 0, true))] 228 rw_203 = true := by decide +kernel
set_option maxRecDepth 100000 in
theorem ck_204 : v_C [(230, 2, ([(0, none), (1, none), (2, some (0, 12))], 2, 0, true))] 230 rw_204 = true := by decide +kernel
set_option maxRecDepth 100000 in
theorem ck_205 : v_C [(231, 8, ([(0, none), (1, none), (2, none), (3, some (0, 12))], 3, 0, true))] 231 rw_205 = true := by decide +kernel
set_option maxRecDepth 100000 in
theorem ck_206 : v_C [(232, 2, ([(0, none), (1, some (0, 6))], 1, 0, true))] 232 rw_206 = true := by decide +kernel
set_option maxRecDepth 100000 in
theorem ck_207 : v_C [(233, 2, ([(0, none), (1, some (0, 12))], 1, 0, true))] 233 rw_207 = true := by decide +kernel
set_option maxRecDepth 100000 in
theorem ck_208 : v_C [(234, 2, ([(0, none), (1, some (0, 12))], 1, 0, true)), (234, 12, ([(0, none), (1, none), (2, some (1, 12))], 2, 0, true))] 234 rw_208 = true := by decide +kernel
set_option maxRecDepth 100000 in
theorem ck_209 : v_C [(235, 2, ([(0, none), (1, some (0, 5))], 1, 0, true)), (235, 34, ([(0, none), (1, some (0, 6))], 1, 0, true))] 235 rw_209 = true := by decide +kernel
set_option maxRecDepth 100000 in
theorem ck_210 : v_C [(236, 2, ([(0, none), (1, some (0, 12))], 1, 0, true)), (236, 12, ([(0, none), (1, none), (2, some (0, 6))], 2, 0, true))] 236 rw_210 = true := by decide +kernel
set_option maxRecDepth 100000 in
theorem ck_211 : v_C [(237, 39, ([(0, none), (1, none), (2, some (0, 60))], 2, 0, true))] 237 rw_211 = true := by decide +kernel
set_option maxRecDepth 100000 in
theorem ck_212 : v_C [] 238 rw_212 = true := by decide +kernel
set_option maxRecDepth 100000 in
theorem ck_213 : v_C [(239, 2, ([(0, none), (1, none), (2, some (0, 12))], 2, 0, true)), (239, 107, ([(0, none), (1, none), (2, some (0, 5))], 2, 0, true)), (239, 168, ([(0, none), (1, none), (2, some (0, 6))], 2, 0, true))] 239 rw_213 = true := by decide +kernel
set_option maxRecDepth 100000 in
theorem ck_214 : v_C [(240, 2, ([(0, none), (1, none), (2, some (0, 12))], 2, 0, true)), (240, 107, ([(0, none), (1, none), (2, some (0, 5))], 2, 0, true)), (240, 168, ([(0, none), (1, none), (2, some (0, 6))], 2, 0, true))] 240 rw_214 = true := by decide +kernel
set_option maxRecDepth 100000 in
theorem ck_215 : v_C [] 241 rw_215 = true := by decide +kernel
set_option maxRecDepth 100000 in
theorem ck_216 : v_C [] 243 rw_216 = true := by decide +kernel
set_option maxRecDepth 100000 in
theorem ck_217 : v_C [(244, 4, ([(0, none), (1, none), (2, some (0, 4095)), (3, some (0, 12))], 3, 0, true))] 244 rw_217 = true := by decide +kernel
set_option maxRecDepth 100000 in
theorem ck_218 : v_C [(245, 2, ([(0, none), (1, none), (2, some (0, 12))], 2, 0, true))] 245 rw_218 = true := by decide +kernel
set_option maxRecDepth 100000 in
theorem ck_219 : v_C [] 246 rw_219 = true := by decide +kernel
set_option maxRecDepth 100000 in
theorem ck_220 : v_C [] 247 rw_220 = true := by decide +kernel
set_option maxRecDepth 100000 in
theorem ck_221 : v_C [] 248 rw_221 = true := by decide +kernel
set_option maxRecDepth 100000 in
theorem ck_222 : v_C [(249, 4, ([(0, none), (1, some (0, 4095)), (2, some (0, 12))], 2, 0, true))] 249 rw_222 = true := by decide +kernel
set_option maxRecDepth 100000 in
theorem ck_223 : v_C [(253, 4, ([(0, none), (1, none), (2, some ((-2147483648), 2147483647)), (3, some (0, 6))], 3, 0, true))] 253 rw_223 = true := by decide +kernel
set_option maxRecDepth 100000 in
theorem ck_224 : v_C [(254, 8, ([(0, none), (3, none), (4, some (0, 2147483647)), (5, some ((-1), 5))], 5, 0, false))] 254 rw_224 = true := by decide +kernel
set_option maxRecDepth 100000 in
theorem ck_225 : v_C [(255, 2, ([(0, none), (1, none), (2, some (0, 6))], 2, 0, true))] 255 rw_225 = true := by decide +kernel
set_option maxRecDepth 100000 in
theorem ck_226 : v_C [(257, 2, ([(0, none), (1, none), (2, none), (3, some (0, 3))], 3, 0, true)), (257, 13, ([(0, none), (1, none), (2, none), (3, none), (4, some ((-2147483648), 2147483647)), (5, some (0, 6))], 5, 0, true))] 257 rw_226 = true := by decide +kernel
set_option maxRecDepth 100000 in
theorem ck_227 : v_C [(258, 4, ([(0, none), (1, none), (2, some ((-2147483648), 2147483647)), (3, some (0, 6))], 3, 0, true)), (258, 12, ([(0, none), (1, none), (2, some ((-2147483648), 2147483647)), (3, none), (4, some (0, 5))], 4, 0, true))] 258 rw_227 = true := by decide +kernel
set_option maxRecDepth 100000 in
theorem ck_228 : v_C [(259, 81, ([(0, none), (1, none), (3, none), (4, none), (5, none), (6, some ((-2147483648), 1000000000)), (7, some (0, 2147483647))], 7, 0, true))] 259 rw_228 = true := by decide +kernel
set_option maxRecDepth 100000 in
theorem ck_229 : v_C [] 260 rw_229 = true := by decide +kernel
set_option maxRecDepth 100000 in
theorem ck_230 : v_C [(262, 12, ([(0, none), (1, none), (2, some (0, 6))], 2, 0, true)), (262, 40, ([(0, none), (1, none), (2, none), (3, some (0, 5))], 3, 0, true)), (262, 159, ([(0, none), (1, none), (2, some (0, 4))], 2, 0, true)), (262, 169, ([(0, none), (1, none), (2, none), (3, some ((-2147483648), 2147483647)), (4, some (0, 6))], 4, 0, true))] 262 rw_230 = true := by decide +kernel
set_option maxRecDepth 100000 in
theorem ck_231 : v_C [(263, 12, ([(0, none), (1, none), (2, some (0, 2147483647))], 2, 0, true))] 263 rw_231 = true := by decide +kernel
set_option maxRecDepth 100000 in
theorem ck_232 : v_C [] 264 rw_232 = true := by decide +kernel
set_option maxRecDepth 100000 in
theorem ck_233 : v_C [(265, 29, ([(0, none), (2, none), (3, some (0, 4095)), (4, some (0, 6))], 4, 0, true))] 265 rw_233 = true := by decide +kernel
set_option maxRecDepth 100000 in
theorem ck_234 : v_C [] 266 rw_234 = true := by decide +kernel
set_option maxRecDepth 100000 in
theorem ck_235 : v_C [(267, 5, ([(0, none), (1, none), (2, none), (3, some (0, 1023)), (4, some (0, 10))], 4, 0, true))] 267 rw_235 = true := by decide +kernel
set_option maxRecDepth 100000 in
theorem ck_236 : v_C [(268, 5, ([(0, none), (1, none), (2, none), (3, some ((-2147483648), 2147483647)), (4, some (0, 10))], 4, 0, true))] 268 rw_236 = true := by decide +kernel
set_option maxRecDepth 100000 in
theorem ck_237 : v_C [(269, 56, ([(0, none), (2, none), (4, none), (5, some ((-2), 9)), (6, some ((-2147483648), 2147483647)), (7, some (0, 10))], 7, 0, true))] 269 rw_237 = true := by decide +kernel
set_option maxRecDepth 100000 in
theorem ck_239 : v_C [] 271 rw_239 = true := by decide +kernel
set_option maxRecDepth 100000 in
theorem ck_240 : v_C [] 272 rw_240 = true := by decide +kernel
set_option maxRecDepth 100000 in
theorem ck_241 : v_C [] 273 rw_241 = true := by decide +kernel
set_option maxRecDepth 100000 in
theorem ck_242 : v_C [] 274 rw_242 = true := by decide +kernel
set_option maxRecDepth 100000 in
theorem ck_243 : v_C [(275, 4, ([(0, none), (1, none), (2, some ((-1), 4)), (3, some (0, 5))], 3, 0, true))] 275 rw_243 = true := by decide +kernel
set_option maxRecDepth 100000 in
theorem ck_244 : v_C [(276, 2, ([(0, none), (1, none), (2, some (0, 5))], 2, 0, true))] 276 rw_244 = true := by decide +kernel
set_option maxRecDepth 100000 in
theorem ck_246 : v_C [(278, 44, ([(0, none), (2, none), (3, some (0, 5))], 3, 0, true))] 278 rw_246 = true := by decide +kernel
set_option maxRecDepth 100000 in
theorem ck_248 : v_C [] 280 rw_248 = true := by decide +kernel
set_option maxRecDepth 100000 in
theorem ck_249 : v_C [] 281 rw_249 = true := by decide +kernel
set_option maxRecDepth 100000 in
theorem ck_250 : v_C [] 282 rw_250 = true := by decide +kernel
set_option maxRecDepth 100000 in
theorem ck_251 : v_C [(283, 2, ([(0, none), (1, none), (2, none), (3, some (0, 8))], 3, 0, true))] 283 rw_251 = true := by decide +kernel
set_option maxRecDepth 100000 in
theorem ck_252 : v_C [(284, 4, ([(0, none), (1, none), (2, none), (3, some ((-1), 0))], 3, 0, false))] 284 rw_252 = true := by decide +kernel
set_option maxRecDepth 100000 in
theorem ck_253 : v_C [(284, 4, ([(0, none), (1, none), (2, none), (3, some ((-1), 1))], 3, 0, false))] 284 rw_253 = true := by decide +kernel
set_option maxRecDepth 100000 in
theorem ck_254 : v_C [(284, 4, ([(0, none), (1, none), (2, none), (3, some ((-1), 2))], 3, 0, false))] 284 rw_254 = true := by decide +kernel
set_option maxRecDepth 100000 in
theorem ck_255 : v_C [(284, 4, ([(0, none), (1, none), (2, none), (3, some ((-1), 3))], 3, 0, false))] 284 rw_255 = true := by decide +kernel
set_option maxRecDepth 100000 in
theorem ck_256 : v_C [(284, 4, ([(0, none), (1, none), (2, none), (3, some ((-1), 4))], 3, 0, false))] 284 rw_256 = true := by decide +kernel
set_option maxRecDepth 100000 in
theorem ck_257 : v_C [(284, 4, ([(0, none), (1, none), (2, none), (3, some ((-1), 5))], 3, 0, false))] 284 rw_257 = true := by decide +kernel
set_option maxRecDepth 100000 in
theorem ck_258 : v_C [(284, 4, ([(0, none), (1, none), (2, none), (3, some ((-1), 6))], 3, 0, false))] 284 rw_258 = true := by decide +kernel
set_option maxRecDepth 100000 in
theorem ck_259 : v_C [(284, 4, ([(0, none), (1, none), (2, none), (3, some ((-1), 7))], 3, 0, false))] 284 rw_259 = true := by decide +kernel
set_option maxRecDepth 100000 in
theorem ck_260 : v_C [(285, 69, ([(0, none), (1, none), (2, none), (3, none), (4, none), (5, some (0, 8))], 5, 0, true)), (285, 174, ([(0, none), (1, none), (2, none), (3, none), (4, none), (5, some (0, 2147483647)), (6, some ((-2147483648), 255)), (7, some (0, 8))], 7, 0, true))] 285 rw_260 = true := by decide +kernel
end Prt31h
section Prt31i
set_option maxRecDepth 100000 in
theorem ck_261 : v_C [(287, 4, ([(0, none), (1, some (0, 31)), (2, some (0, 5))], 2, 0, true))] 287 rw_261 = true := by decide +kernel
set_option maxRecDepth 100000 in
theorem ck_264 : v_C [(292, 29, ([(0, none), (1, none), (2, none), (3, some ((-2147483648), 2147483647)), (4, some (0, 12))], 4, 0, true))] 292 rw_264 = true := by decide +kernel
set_option maxRecDepth 100000 in
theorem ck_265 : v_C [] 293 rw_265 = true := by decide +kernel
set_option maxRecDepth 100000 in
theorem ck_266 : v_C [] 294 rw_266 = true := by decide +kernel
set_option maxRecDepth 100000 in
theorem ck_267 : v_C [] 295 rw_267 = true := by decide +kernel
set_option maxRecDepth 100000 in
theorem ck_268 : v_C [(296, 30, ([(0, none), (1, none), (2, some (0, 12))], 2, 0, true))] 296 rw_268 = true := by decide +kernel
set_option maxRecDepth 100000 in
theorem ck_269 : v_C [(297, 4, ([(0, none), (1, none), (2, some (0, 1023)), (3, some (0, 10))], 3, 0, true))] 297 rw_269 = true := by decide +kernel
set_option maxRecDepth 100000 in
theorem ck_270 : v_C [] 298 rw_270 = true := by decide +kernel
set_option maxRecDepth 100000 in
theorem ck_271 : v_C [(300, 5, ([(0, none), (1, none), (2, some (0, 15)), (3, none)], 2, 0, true))] 300 rw_271 = true := by decide +kernel
set_option maxRecDepth 100000 in
theorem ck_272 : v_C [(300, 5, ([(0, none), (1, none), (2, some (0, 12)), (3, none)], 2, 0, true))] 300 rw_272 = true := by decide +kernel
set_option maxRecDepth 100000 in
theorem ck_273 : v_C [(300, 5, ([(0, none), (1, none), (2, some (0, 8)), (3, none)], 2, 0, true))] 300 rw_273 = true := by decide +kernel
set_option maxRecDepth 100000 in
theorem ck_274 : v_C [(300, 5, ([(0, none), (1, none), (2, some (0, 4)), (3, none)], 2, 0, true))] 300 rw_274 = true := by decide +kernel
set_option maxRecDepth 100000 in
theorem ck_275 : v_C [(300, 5, ([(0, none), (1, none), (2, some (0, 5)), (3, none)], 2, 0, true))] 300 rw_275 = true := by decide +kernel
end Prt31i
