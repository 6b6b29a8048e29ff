set_option maxRecDepth 100000 in
theorem m_okm_0 : m_okM 0 = true := by decide +kernel
set_option maxRecDepth 100000 in
theorem m_okm_1 : m_okM 1 = true := by decide +kernel
set_option maxRecDepth 100000 in
theorem m_okm_2 : m_okM 2 = true := by decide +kernel
set_option maxRecDepth 100000 in
theorem m_okm_3 : m_okM 3 = true := by decide +kernel
set_option maxRecDepth 100000 in
theorem m_okm_4 : m_okM 4 = true := by decide +kernel
set_option maxRecDepth 100000 in
theorem m_okm_5 : m_okM 5 = true := by decide +kernel
set_option maxRecDepth 100000 in
theorem m_okm_6 : m_okM 6 = true := by decide +kernel
set_option maxRecDepth 100000 in
theorem m_okm_7 : m_okM 7 = true := by decide +kernel
set_option maxRecDepth 100000 in
theorem m_okm_8 : m_okM 8 = true := by decide +kernel
set_option maxRecDepth 100000 in
theorem m_okm_9 : m_okM 9 = true := by decide +kernel
set_option maxRecDepth 100000 in
theorem m_okm_10 : m_okM 10 = true := by decide +kernel
set_option maxRecDepth 100000 in
theorem m_okm_11 : m_okM 11 = true := by decide +kernel
set_option maxRecDepth 100000 in
theorem m_okm_12 : m_okM 12 = true := by decide +kernel
set_option maxRecDepth 100000 in
theorem m_okm_13 : m_okM 13 = true := by decide +kernel
set_option maxRecDepth 100000 in
theorem m_okm_14 : m_okM 14 = true := by decide +kernel
set_option maxRecDepth 100000 in
theorem m_okm_15 : m_okM 15 = true := by decide +kernel
set_option maxRecDepth 100000 in
theorem m_okm_16 : m_okM 16 = true := by decide +kernel
set_option maxRecDepth 100000 in
theorem m_okm_17 : m_okM 17 = true := by decide +kernel
set_option maxRecDepth 100000 in
theorem m_okm_18 : m_okM 18 = true := by decide +kernel
set_option maxRecDepth 100000 in
theorem m_okm_19 : m_okM 19 = true := by decide +kernel
set_option maxRecDepth 100000 in
theorem m_okm_20 : m_okM 20 = true := by decide +kernel
set_option maxRecDepth 100000 in
theorem m_okm_21 : m_okM 21 = true := by decide +kernel
set_option maxRecDepth 100000 in
theorem m_okm_22 : m_okM 22 = true := by decide +kernel
set_option maxRecDepth 100000 in
theorem m_okm_23 : m_okM 23 = true := by decide +kernel
set_option maxRecDepth 100000 in
theorem m_okm_24 : m_okM 24 = true := by decide +kernel
set_option maxRecDepth 100000 in
theorem m_okm_25 : m_okM 25 = true := by decide +kernel
set_option maxRecDepth 100000 in
theorem m_okm_26 : m_okM 26 = true := by decide +kernel
set_option maxRecDepth 100000 in
theorem m_okm_27 : m_okM 27 = true := by decide +kernel
set_option maxRecDepth 100000 in
theorem m_okm_28 : m_okM 28 = true := by decide +kernel
set_option maxRecDepth 100000 in
theorem m_okm_29 : m_okM 29 = true := by decide +kernel
set_option maxRecDepth 100000 in
theorem m_okm_30 : m_okM 30 = true := by decide +kernel
set_option maxRecDepth 100000 in
theorem m_okm_31 : m_okM 31 = true := by decide +kernel
set_option maxRecDepth 100000 in
theorem m_okm_32 : m_okM 32 = true := by decide +kernel
set_option maxRecDepth 100000 in
theorem m_okm_33 : m_okM 33 = true := by decide +kernel
set_option maxRecDepth 100000 in
theorem m_okm_34 : m_okM 34 = true := by decide +kernel
set_option maxRecDepth 100000 in
theorem m_okm_35 : m_okM 35 = true := by decide +kernel
set_option maxRecDepth 100000 in
theorem m_okm_36 : m_okM 36 = true := by decide +kernel
set_option maxRecDepth 100000 in
theorem m_okm_37 : m_okM 37 = true := by decide +kernel
set_option maxRecDepth 100000 in
theorem m_okm_38 : m_okM 38 = true := by decide +kernel
set_option maxRecDepth 100000 in
theorem m_okm_39 : m_okM 39 = true := by decide +kernel
set_option maxRecDepth 100000 in
theorem m_okm_40 : m_okM 40 = true := by decide +kernel
set_option maxRecDepth 100000 in
theorem m_okm_41 : m_okM 41 = true := by decide +kernel
set_option maxRecDepth 100000 in
theorem m_okm_42 : m_okM 42 = true := by decide +kernel
set_option maxRecDepth 100000 in
theorem m_okm_43 : m_okM 43 = true := by decide +kernel
set_option maxRecDepth 100000 in
theorem m_okm_44 : m_okM 44 = true := by decide +kernel
set_option maxRecDepth 100000 in
theorem m_okm_45 : m_okM 45 = true := by decide +kernel
set_option maxRecDepth 100000 in
theorem m_okm_46 : m_okM 46 = true := by decide +kernel
set_option maxRecDepth 100000 in
theorem m_okm_47 : m_okM 47 = true := by decide +kernel
set_option maxRecDepth 100000 in
theorem m_okm_48 : m_okM 48 = true := by decide +kernel
set_option maxRecDepth 100000 in
theorem m_okm_49 : m_okM 49 = true := by decide +kernel
set_option maxRecDepth 100000 in
theorem m_okm_50 : m_okM 50 = true := by decide +kernel
set_option maxRecDepth 100000 in
theorem m_okm_51 : m_okM 51 = true := by decide +kernel
set_option maxRecDepth 100000 in
theorem m_okm_52 : m_okM 52 = true := by decide +kernel
set_option maxRecDepth 100000 in
theorem m_okm_53 : m_okM 53 = true := by decide +kernel
set_option maxRecDepth 100000 in
theorem m_okm_54 : m_okM 54 = true := by decide +kernel
set_option maxRecDepth 100000 in
theorem m_okm_55 : m_okM 55 = true := by decide +kernel
set_option maxRecDepth 100000 in
theorem m_okm_56 : m_okM 56 = true := by decide +kernel
set_option maxRecDepth 100000 in
theorem m_okm_57 : m_okM 57 = true := by decide +kernel
set_option maxRecDepth 100000 in
theorem m_okm_58 : m_okM 58 = true := by decide +kernel
set_option maxRecDepth 100000 in
theorem m_okm_59 : m_okM 59 = true := by decide +kernel
set_option maxRecDepth 100000 in
theorem m_okm_60 : m_okM 60 = true := by decide +kernel
set_option maxRecDepth 100000 in
theorem m_okm_61 : m_okM 61 = true := by decide +kernel
set_option maxRecDepth 100000 in
theorem m_okm_62 : m_okM 62 = true := by decide +kernel
set_option maxRecDepth 100000 in
theorem m_okm_63 : m_okM 63 = true := by decide +kernel
set_option maxRecDepth 100000 in
theorem m_okm_64 : m_okM 64 = true := by decide +kernel
set_option maxRecDepth 100000 in
theorem m_okm_65 : m_okM 65 = true := by decide +kernel
set_option maxRecDepth 100000 in
theorem m_okm_66 : m_okM 66 = true := by decide +kernel
set_option maxRecDepth 100000 in
theorem m_okm_67 : m_okM 67 = true := by decide +kernel
set_option maxRecDepth 100000 in
theorem m_okm_68 : m_okM 68 = true := by decide +kernel
set_option maxRecDepth 100000 in
theorem m_okm_69 : m_okM 69 = true := by decide +kernel
set_option maxRecDepth 100000 in
theorem m_okm_70 : m_okM 70 = true := by decide +kernel
set_option maxRecDepth 100000 in
theorem m_okm_71 : m_okM 71 = true := by decide +kernel
set_option maxRecDepth 100000 in
theorem m_okm_72 : m_okM 72 = true := by decide +kernel
set_option maxRecDepth 100000 in
theorem m_okm_73 : m_okM 73 = true := by decide +kernel
set_option maxRecDepth 100000 in
theorem m_okm_74 : m_okM 74 = true := by decide +kernel
set_option maxRecDepth 100000 in
theorem m_okm_75 : m_okM 75 = true := by decide +kernel
set_option maxRecDepth 100000 in
theorem m_okm_76 : m_okM 76 = true := by decide +kernel
set_option maxRecDepth 100000 in
theorem m_okm_77 : m_okM 77 = true := by decide +kernel
set_option maxRecDepth 100000 in
theorem m_okm_78 : m_okM 78 = true := by decide +kernel
set_option maxRecDepth 100000 in
theorem m_okm_79 : m_okM 79 = true := by decide +kernel
set_option maxRecDepth 100000 in
theorem m_okm_80 : m_okM 80 = true := by decide +kernel
set_option maxRecDepth 100000 in
theorem m_okm_81 : m_okM 81 = true := by decide +kernel
set_option maxRecDepth 100000 in
theorem m_okm_82 : m_okM 82 = true := by decide +kernel
set_option maxRecDepth 100000 in
theorem m_okm_83 : m_okM 83 = true := by decide +kernel
set_option maxRecDepth 100000 in
theorem m_okm_84 : m_okM 84 = true := by decide +kernel
set_option maxRecDepth 100000 in
theorem m_okm_85 : m_okM 85 = true := by decide +kernel
set_option maxRecDepth 100000 in
theorem m_okm_86 : m_okM 86 = true := by decide +kernel
set_option maxRecDepth 100000 in
theorem m_okm_87 : m_okM 87 = true := by decide +kernel
set_option maxRecDepth 100000 in
theorem m_okm_88 : m_okM 88 = true := by decide +kernel
set_option maxRecDepth 100000 in
theorem m_okm_89 : m_okM 89 = true := by decide +kernel
set_option maxRecDepth 100000 in
theorem m_okm_90 : m_okM 90 = true := by decide +kernel
set_option maxRecDepth 100000 in
theorem m_okm_91 : m_okM 91 = true := by decide +kernel
set_option maxRecDepth 100000 in
theorem m_okm_92 : m_okM 92 = true := by decide +kernel
set_option maxRecDepth 100000 in
theorem m_okm_93 : m_okM 93 = true := by decide +kernel
set_option maxRecDepth 100000 in
theorem m_okm_94 : m_okM 94 = true := by decide +kernel
set_option maxRecDepth 100000 in
theorem m_okm_95 : m_okM 95 = true := by decide +kernel
set_option maxRecDepth 100000 in
theorem m_okm_96 : m_okM 96 = true := by decide +kernel
set_option maxRecDepth 100000 in
theorem m_okm_97 : m_okM 97 = true := by decide +kernel
set_option maxRecDepth 100000 in
theorem m_okm_98 : m_okM 98 = true := by decide +kernel
set_option maxRecDepth 100000 in
theorem m_okm_99 : m_okM 99 = true := by decide +kernel
set_option maxRecDepth 100000 in
theorem m_okm_100 : m_okM 100 = true := by decide +kernel
set_option maxRecDepth 100000 in
theorem m_okm_101 : m_okM 101 = true := by decide +kernel
