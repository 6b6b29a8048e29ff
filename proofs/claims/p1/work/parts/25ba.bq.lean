/-! the blocks are what s_cmp makes of the data: method by method -/
set_option maxRecDepth 100000 in
theorem bq_0 : bm_0 = s_bks 0 bc_0 := rfl
set_option maxRecDepth 100000 in
theorem bq_1 : bm_1 = s_bks 1 bc_1 := rfl
set_option maxRecDepth 100000 in
theorem bq_2 : bm_2 = s_bks 2 bc_2 := rfl
set_option maxRecDepth 100000 in
theorem bq_3 : bm_3 = s_bks 3 bc_3 := rfl
set_option maxRecDepth 100000 in
theorem bq_4 : bm_4 = s_bks 4 bc_4 := rfl
set_option maxRecDepth 100000 in
theorem bq_5 : bm_5 = s_bks 5 bc_5 := rfl
set_option maxRecDepth 100000 in
theorem bq_6 : bm_6 = s_bks 6 bc_6 := rfl
set_option maxRecDepth 100000 in
theorem bq_7 : bm_7 = s_bks 7 bc_7 := rfl
set_option maxRecDepth 100000 in
theorem bq_8 : bm_8 = s_bks 8 bc_8 := rfl
set_option maxRecDepth 100000 in
theorem bq_9 : bm_9 = s_bks 9 bc_9 := rfl
set_option maxRecDepth 100000 in
theorem bq_10 : bm_10 = s_bks 10 bc_10 := rfl
set_option maxRecDepth 100000 in
theorem bq_11 : bm_11 = s_bks 11 bc_11 := rfl
set_option maxRecDepth 100000 in
theorem bq_12 : bm_12 = s_bks 12 bc_12 := rfl
set_option maxRecDepth 100000 in
theorem bq_13 : bm_13 = s_bks 13 bc_13 := rfl
set_option maxRecDepth 100000 in
theorem bq_14 : bm_14 = s_bks 14 bc_14 := rfl
set_option maxRecDepth 100000 in
theorem bq_15 : bm_15 = s_bks 15 bc_15 := rfl
set_option maxRecDepth 100000 in
theorem bq_16 : bm_16 = s_bks 16 bc_16 := rfl
set_option maxRecDepth 100000 in
theorem bq_17 : bm_17 = s_bks 17 bc_17 := rfl
set_option maxRecDepth 100000 in
theorem bq_18 : bm_18 = s_bks 18 bc_18 := rfl
set_option maxRecDepth 100000 in
theorem bq_19 : bm_19 = s_bks 19 bc_19 := rfl
set_option maxRecDepth 100000 in
theorem bq_20 : bm_20 = s_bks 20 bc_20 := rfl
set_option maxRecDepth 100000 in
theorem bq_21 : bm_21 = s_bks 21 bc_21 := rfl
set_option maxRecDepth 100000 in
theorem bq_22 : bm_22 = s_bks 22 bc_22 := rfl
set_option maxRecDepth 100000 in
theorem bq_23 : bm_23 = s_bks 23 bc_23 := rfl
set_option maxRecDepth 100000 in
theorem bq_24 : bm_24 = s_bks 24 bc_24 := rfl
set_option maxRecDepth 100000 in
theorem bq_25 : bm_25 = s_bks 25 bc_25 := rfl
set_option maxRecDepth 100000 in
theorem bq_26 : bm_26 = s_bks 26 bc_26 := rfl
set_option maxRecDepth 100000 in
theorem bq_27 : bm_27 = s_bks 27 bc_27 := rfl
set_option maxRecDepth 100000 in
theorem bq_28 : bm_28 = s_bks 28 bc_28 := rfl
set_option maxRecDepth 100000 in
theorem bq_29 : bm_29 = s_bks 29 bc_29 := rfl
set_option maxRecDepth 100000 in
theorem bq_30 : bm_30 = s_bks 30 bc_30 := rfl
set_option maxRecDepth 100000 in
theorem bq_31 : bm_31 = s_bks 31 bc_31 := rfl
set_option maxRecDepth 100000 in
theorem bq_32 : bm_32 = s_bks 32 bc_32 := rfl
set_option maxRecDepth 100000 in
theorem bq_33 : bm_33 = s_bks 33 bc_33 := rfl
set_option maxRecDepth 100000 in
theorem bq_34 : bm_34 = s_bks 34 bc_34 := rfl
set_option maxRecDepth 100000 in
theorem bq_35 : bm_35 = s_bks 35 bc_35 := rfl
set_option maxRecDepth 100000 in
theorem bq_36 : bm_36 = s_bks 36 bc_36 := rfl
set_option maxRecDepth 100000 in
theorem bq_37 : bm_37 = s_bks 37 bc_37 := rfl
set_option maxRecDepth 100000 in
theorem bq_38 : bm_38 = s_bks 38 bc_38 := rfl
set_option maxRecDepth 100000 in
theorem bq_39 : bm_39 = s_bks 39 bc_39 := rfl
set_option maxRecDepth 100000 in
theorem bq_40 : bm_40 = s_bks 40 bc_40 := rfl
set_option maxRecDepth 100000 in
theorem bq_41 : bm_41 = s_bks 41 bc_41 := rfl
set_option maxRecDepth 100000 in
theorem bq_42 : bm_42 = s_bks 42 bc_42 := rfl
set_option maxRecDepth 100000 in
theorem bq_43 : bm_43 = s_bks 43 bc_43 := rfl
set_option maxRecDepth 100000 in
theorem bq_44 : bm_44 = s_bks 44 bc_44 := rfl
set_option maxRecDepth 100000 in
theorem bq_45 : bm_45 = s_bks 45 bc_45 := rfl
set_option maxRecDepth 100000 in
theorem bq_46 : bm_46 = s_bks 46 bc_46 := rfl
set_option maxRecDepth 100000 in
theorem bq_47 : bm_47 = s_bks 47 bc_47 := rfl
set_option maxRecDepth 100000 in
theorem bq_48 : bm_48 = s_bks 48 bc_48 := rfl
set_option maxRecDepth 100000 in
theorem bq_49 : bm_49 = s_bks 49 bc_49 := rfl
set_option maxRecDepth 100000 in
theorem bq_50 : bm_50 = s_bks 50 bc_50 := rfl
set_option maxRecDepth 100000 in
theorem bq_51 : bm_51 = s_bks 51 bc_51 := rfl
set_option maxRecDepth 100000 in
theorem bq_52 : bm_52 = s_bks 52 bc_52 := rfl
set_option maxRecDepth 100000 in
theorem bq_53 : bm_53 = s_bks 53 bc_53 := rfl
set_option maxRecDepth 100000 in
theorem bq_54 : bm_54 = s_bks 54 bc_54 := rfl
set_option maxRecDepth 100000 in
theorem bq_55 : bm_55 = s_bks 55 bc_55 := rfl
set_option maxRecDepth 100000 in
theorem bq_56 : bm_56 = s_bks 56 bc_56 := rfl
set_option maxRecDepth 100000 in
theorem bq_57 : bm_57 = s_bks 57 bc_57 := rfl
set_option maxRecDepth 100000 in
theorem bq_58 : bm_58 = s_bks 58 bc_58 := rfl
set_option maxRecDepth 100000 in
theorem bq_59 : bm_59 = s_bks 59 bc_59 := rfl
set_option maxRecDepth 100000 in
theorem bq_60 : bm_60 = s_bks 60 bc_60 := rfl
set_option maxRecDepth 100000 in
theorem bq_61 : bm_61 = s_bks 61 bc_61 := rfl
set_option maxRecDepth 100000 in
theorem bq_62 : bm_62 = s_bks 62 bc_62 := rfl
set_option maxRecDepth 100000 in
theorem bq_63 : bm_63 = s_bks 63 bc_63 := rfl
set_option maxRecDepth 100000 in
theorem bq_64 : bm_64 = s_bks 64 bc_64 := rfl
set_option maxRecDepth 100000 in
theorem bq_65 : bm_65 = s_bks 65 bc_65 := rfl
set_option maxRecDepth 100000 in
theorem bq_66 : bm_66 = s_bks 66 bc_66 := rfl
set_option maxRecDepth 100000 in
theorem bq_67 : bm_67 = s_bks 67 bc_67 := rfl
set_option maxRecDepth 100000 in
theorem bq_68 : bm_68 = s_bks 68 bc_68 := rfl
set_option maxRecDepth 100000 in
theorem bq_69 : bm_69 = s_bks 69 bc_69 := rfl
set_option maxRecDepth 100000 in
theorem bq_70 : bm_70 = s_bks 70 bc_70 := rfl
set_option maxRecDepth 100000 in
theorem bq_71 : bm_71 = s_bks 71 bc_71 := rfl
set_option maxRecDepth 100000 in
theorem bq_72 : bm_72 = s_bks 72 bc_72 := rfl
set_option maxRecDepth 100000 in
theorem bq_73 : bm_73 = s_bks 73 bc_73 := rfl
set_option maxRecDepth 100000 in
theorem bq_74 : bm_74 = s_bks 74 bc_74 := rfl
set_option maxRecDepth 100000 in
theorem bq_75 : bm_75 = s_bks 75 bc_75 := rfl
set_option maxRecDepth 100000 in
theorem bq_76 : bm_76 = s_bks 76 bc_76 := rfl
set_option maxRecDepth 100000 in
theorem bq_77 : bm_77 = s_bks 77 bc_77 := rfl
set_option maxRecDepth 100000 in
theorem bq_78 : bm_78 = s_bks 78 bc_78 := rfl
set_option maxRecDepth 100000 in
theorem bq_79 : bm_79 = s_bks 79 bc_79 := rfl
set_option maxRecDepth 100000 in
theorem bq_80 : bm_80 = s_bks 80 bc_80 := rfl
set_option maxRecDepth 100000 in
theorem bq_81 : bm_81 = s_bks 81 bc_81 := rfl
set_option maxRecDepth 100000 in
theorem bq_82 : bm_82 = s_bks 82 bc_82 := rfl
set_option maxRecDepth 100000 in
theorem bq_83 : bm_83 = s_bks 83 bc_83 := rfl
set_option maxRecDepth 100000 in
theorem bq_84 : bm_84 = s_bks 84 bc_84 := rfl
set_option maxRecDepth 100000 in
theorem bq_85 : bm_85 = s_bks 85 bc_85 := rfl
set_option maxRecDepth 100000 in
theorem bq_86 : bm_86 = s_bks 86 bc_86 := rfl
set_option maxRecDepth 100000 in
theorem bq_87 : bm_87 = s_bks 87 bc_87 := rfl
set_option maxRecDepth 100000 in
theorem bq_88 : bm_88 = s_bks 88 bc_88 := rfl
set_option maxRecDepth 100000 in
theorem bq_89 : bm_89 = s_bks 89 bc_89 := rfl
set_option maxRecDepth 100000 in
theorem bq_90 : bm_90 = s_bks 90 bc_90 := rfl
set_option maxRecDepth 100000 in
theorem bq_91 : bm_91 = s_bks 91 bc_91 := rfl
set_option maxRecDepth 100000 in
theorem bq_92 : bm_92 = s_bks 92 bc_92 := rfl
set_option maxRecDepth 100000 in
theorem bq_93 : bm_93 = s_bks 93 bc_93 := rfl
set_option maxRecDepth 100000 in
theorem bq_94 : bm_94 = s_bks 94 bc_94 := rfl
set_option maxRecDepth 100000 in
theorem bq_95 : bm_95 = s_bks 95 bc_95 := rfl
set_option maxRecDepth 100000 in
theorem bq_96 : bm_96 = s_bks 96 bc_96 := rfl
set_option maxRecDepth 100000 in
theorem bq_97 : bm_97 = s_bks 97 bc_97 := rfl
set_option maxRecDepth 100000 in
theorem bq_98 : bm_98 = s_bks 98 bc_98 := rfl
set_option maxRecDepth 100000 in
theorem bq_99 : bm_99 = s_bks 99 bc_99 := rfl
set_option maxRecDepth 100000 in
theorem bq_100 : bm_100 = s_bks 100 bc_100 := rfl
set_option maxRecDepth 100000 in
theorem bq_101 : bm_101 = s_bks 101 bc_101 := rfl
set_option maxRecDepth 100000 in
theorem bq_102 : bm_102 = s_bks 102 bc_102 := rfl
set_option maxRecDepth 100000 in
theorem bq_103 : bm_103 = s_bks 103 bc_103 := rfl
set_option maxRecDepth 100000 in
theorem bq_104 : bm_104 = s_bks 104 bc_104 := rfl
set_option maxRecDepth 100000 in
theorem bq_105 : bm_105 = s_bks 105 bc_105 := rfl
set_option maxRecDepth 100000 in
theorem bq_106 : bm_106 = s_bks 106 bc_106 := rfl
set_option maxRecDepth 100000 in
theorem bq_107 : bm_107 = s_bks 107 bc_107 := rfl
set_option maxRecDepth 100000 in
theorem bq_108 : bm_108 = s_bks 108 bc_108 := rfl
set_option maxRecDepth 100000 in
theorem bq_109 : bm_109 = s_bks 109 bc_109 := rfl
