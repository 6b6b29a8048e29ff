/-! the data are the program: every row decodes so, and its links stand in the tables -/
set_option maxRecDepth 100000 in
theorem m_ok_56 : m_p_56.all (m_okE 56) = true := by decide +kernel
set_option maxRecDepth 100000 in
theorem m_okm_56 : m_okM 56 = true := by decide +kernel
set_option maxRecDepth 100000 in
theorem m_ok_57 : m_p_57.all (m_okE 57) = true := by decide +kernel
set_option maxRecDepth 100000 in
theorem m_okm_57 : m_okM 57 = true := by decide +kernel
set_option maxRecDepth 100000 in
theorem m_ok_58 : m_p_58.all (m_okE 58) = true := by decide +kernel
set_option maxRecDepth 100000 in
theorem m_okm_58 : m_okM 58 = true := by decide +kernel
set_option maxRecDepth 100000 in
theorem m_ok_59 : m_p_59.all (m_okE 59) = true := by decide +kernel
set_option maxRecDepth 100000 in
theorem m_okm_59 : m_okM 59 = true := by decide +kernel
set_option maxRecDepth 100000 in
theorem m_ok_60 : m_p_60.all (m_okE 60) = true := by decide +kernel
set_option maxRecDepth 100000 in
theorem m_okm_60 : m_okM 60 = true := by decide +kernel
set_option maxRecDepth 100000 in
theorem m_ok_61 : m_p_61.all (m_okE 61) = true := by decide +kernel
set_option maxRecDepth 100000 in
theorem m_okm_61 : m_okM 61 = true := by decide +kernel
set_option maxRecDepth 100000 in
theorem m_ok_62 : m_p_62.all (m_okE 62) = true := by decide +kernel
set_option maxRecDepth 100000 in
theorem m_okm_62 : m_okM 62 = true := by decide +kernel
set_option maxRecDepth 100000 in
theorem m_ok_63 : m_p_63.all (m_okE 63) = true := by decide +kernel
set_option maxRecDepth 100000 in
theorem m_okm_63 : m_okM 63 = true := by decide +kernel
set_option maxRecDepth 100000 in
theorem m_ok_64 : m_p_64.all (m_okE 64) = true := by decide +kernel
set_option maxRecDepth 100000 in
theorem m_okm_64 : m_okM 64 = true := by decide +kernel
set_option maxRecDepth 100000 in
theorem m_ok_65 : m_p_65.all (m_okE 65) = true := by decide +kernel
set_option maxRecDepth 100000 in
theorem m_okm_65 : m_okM 65 = true := by decide +kernel
set_option maxRecDepth 100000 in
theorem m_ok_66 : m_p_66.all (m_okE 66) = true := by decide +kernel
set_option maxRecDepth 100000 in
theorem m_okm_66 : m_okM 66 = true := by decide +kernel
set_option maxRecDepth 100000 in
theorem m_ok_67 : m_p_67.all (m_okE 67) = true := by decide +kernel
set_option maxRecDepth 100000 in
theorem m_okm_67 : m_okM 67 = true := by decide +kernel
set_option maxRecDepth 100000 in
theorem m_ok_68 : m_p_68.all (m_okE 68) = true := by decide +kernel
set_option maxRecDepth 100000 in
theorem m_okm_68 : m_okM 68 = true := by decide +kernel
set_option maxRecDepth 100000 in
theorem m_ok_69 : m_p_69.all (m_okE 69) = true := by decide +kernel
set_option maxRecDepth 100000 in
theorem m_okm_69 : m_okM 69 = true := by decide +kernel
set_option maxRecDepth 100000 in
theorem m_ok_70 : m_p_70.all (m_okE 70) = true := by decide +kernel
set_option maxRecDepth 100000 in
theorem m_okm_70 : m_okM 70 = true := by decide +kernel
set_option maxRecDepth 100000 in
theorem m_ok_71 : m_p_71.all (m_okE 71) = true := by decide +kernel
set_option maxRecDepth 100000 in
theorem m_okm_71 : m_okM 71 = true := by decide +kernel
set_option maxRecDepth 100000 in
theorem m_ok_72 : m_p_72.all (m_okE 72) = true := by decide +kernel
set_option maxRecDepth 100000 in
theorem m_okm_72 : m_okM 72 = true := by decide +kernel
set_option maxRecDepth 100000 in
theorem m_ok_73 : m_p_73.all (m_okE 73) = true := by decide +kernel
set_option maxRecDepth 100000 in
theorem m_okm_73 : m_okM 73 = true := by decide +kernel
set_option maxRecDepth 100000 in
theorem m_ok_74 : m_p_74.all (m_okE 74) = true := by decide +kernel
set_option maxRecDepth 100000 in
theorem m_okm_74 : m_okM 74 = true := by decide +kernel
set_option maxRecDepth 100000 in
theorem m_ok_75 : m_p_75.all (m_okE 75) = true := by decide +kernel
set_option maxRecDepth 100000 in
theorem m_okm_75 : m_okM 75 = true := by decide +kernel
set_option maxRecDepth 100000 in
theorem m_ok_76 : m_p_76.all (m_okE 76) = true := by decide +kernel
set_option maxRecDepth 100000 in
theorem m_okm_76 : m_okM 76 = true := by decide +kernel
set_option maxRecDepth 100000 in
theorem m_ok_77 : m_p_77.all (m_okE 77) = true := by decide +kernel
set_option maxRecDepth 100000 in
theorem m_okm_77 : m_okM 77 = true := by decide +kernel
set_option maxRecDepth 100000 in
theorem m_ok_78 : m_p_78.all (m_okE 78) = true := by decide +kernel
set_option maxRecDepth 100000 in
theorem m_okm_78 : m_okM 78 = true := by decide +kernel
set_option maxRecDepth 100000 in
theorem m_ok_79 : m_p_79.all (m_okE 79) = true := by decide +kernel
set_option maxRecDepth 100000 in
theorem m_okm_79 : m_okM 79 = true := by decide +kernel
set_option maxRecDepth 100000 in
theorem m_ok_80 : m_p_80.all (m_okE 80) = true := by decide +kernel
set_option maxRecDepth 100000 in
theorem m_okm_80 : m_okM 80 = true := by decide +kernel
set_option maxRecDepth 100000 in
theorem m_ok_81 : m_p_81.all (m_okE 81) = true := by decide +kernel
set_option maxRecDepth 100000 in
theorem m_okm_81 : m_okM 81 = true := by decide +kernel
set_option maxRecDepth 100000 in
theorem m_ok_82 : m_p_82.all (m_okE 82) = true := by decide +kernel
set_option maxRecDepth 100000 in
theorem m_okm_82 : m_okM 82 = true := by decide +kernel
set_option maxRecDepth 100000 in
theorem m_ok_83 : m_p_83.all (m_okE 83) = true := by decide +kernel
set_option maxRecDepth 100000 in
theorem m_okm_83 : m_okM 83 = true := by decide +kernel
set_option maxRecDepth 100000 in
theorem m_ok_84 : m_p_84.all (m_okE 84) = true := by decide +kernel
set_option maxRecDepth 100000 in
theorem m_okm_84 : m_okM 84 = true := by decide +kernel
set_option maxRecDepth 100000 in
theorem m_ok_85 : m_p_85.all (m_okE 85) = true := by decide +kernel
set_option maxRecDepth 100000 in
theorem m_okm_85 : m_okM 85 = true := by decide +kernel
set_option maxRecDepth 100000 in
theorem m_ok_86 : m_p_86.all (m_okE 86) = true := by decide +kernel
set_option maxRecDepth 100000 in
theorem m_okm_86 : m_okM 86 = true := by decide +kernel
set_option maxRecDepth 100000 in
theorem m_ok_87 : m_p_87.all (m_okE 87) = true := by decide +kernel
set_option maxRecDepth 100000 in
theorem m_okm_87 : m_okM 87 = true := by decide +kernel
set_option maxRecDepth 100000 in
theorem m_ok_88 : m_p_88.all (m_okE 88) = true := by decide +kernel
set_option maxRecDepth 100000 in
theorem m_okm_88 : m_okM 88 = true := by decide +kernel
set_option maxRecDepth 100000 in
theorem m_ok_89 : m_p_89.all (m_okE 89) = true := by decide +kernel
set_option maxRecDepth 100000 in
theorem m_okm_89 : m_okM 89 = true := by decide +kernel
set_option maxRecDepth 100000 in
theorem m_ok_90 : m_p_90.all (m_okE 90) = true := by decide +kernel
set_option maxRecDepth 100000 in
theorem m_okm_90 : m_okM 90 = true := by decide +kernel
set_option maxRecDepth 100000 in
theorem m_ok_91 : m_p_91.all (m_okE 91) = true := by decide +kernel
set_option maxRecDepth 100000 in
theorem m_okm_91 : m_okM 91 = true := by decide +kernel
set_option maxRecDepth 100000 in
theorem m_ok_92 : m_p_92.all (m_okE 92) = true := by decide +kernel
set_option maxRecDepth 100000 in
theorem m_okm_92 : m_okM 92 = true := by decide +kernel
set_option maxRecDepth 100000 in
theorem m_ok_93 : m_p_93.all (m_okE 93) = true := by decide +kernel
set_option maxRecDepth 100000 in
theorem m_okm_93 : m_okM 93 = true := by decide +kernel
set_option maxRecDepth 100000 in
theorem m_ok_94 : m_p_94.all (m_okE 94) = true := by decide +kernel
set_option maxRecDepth 100000 in
theorem m_okm_94 : m_okM 94 = true := by decide +kernel
set_option maxRecDepth 100000 in
theorem m_ok_95 : m_p_95.all (m_okE 95) = true := by decide +kernel
set_option maxRecDepth 100000 in
theorem m_okm_95 : m_okM 95 = true := by decide +kernel
set_option maxRecDepth 100000 in
theorem m_ok_96 : m_p_96.all (m_okE 96) = true := by decide +kernel
set_option maxRecDepth 100000 in
theorem m_okm_96 : m_okM 96 = true := by decide +kernel
set_option maxRecDepth 100000 in
theorem m_ok_97 : m_p_97.all (m_okE 97) = true := by decide +kernel
set_option maxRecDepth 100000 in
theorem m_okm_97 : m_okM 97 = true := by decide +kernel
set_option maxRecDepth 100000 in
theorem m_ok_98 : m_p_98.all (m_okE 98) = true := by decide +kernel
set_option maxRecDepth 100000 in
theorem m_okm_98 : m_okM 98 = true := by decide +kernel
set_option maxRecDepth 100000 in
theorem m_ok_99 : m_p_99.all (m_okE 99) = true := by decide +kernel
set_option maxRecDepth 100000 in
theorem m_okm_99 : m_okM 99 = true := by decide +kernel
set_option maxRecDepth 100000 in
theorem m_ok_100 : m_p_100.all (m_okE 100) = true := by decide +kernel
set_option maxRecDepth 100000 in
theorem m_okm_100 : m_okM 100 = true := by decide +kernel
set_option maxRecDepth 100000 in
theorem m_ok_101 : m_p_101.all (m_okE 101) = true := by decide +kernel
set_option maxRecDepth 100000 in
theorem m_okm_101 : m_okM 101 = true := by decide +kernel
set_option maxRecDepth 100000 in
theorem m_ok_102 : m_p_102.all (m_okE 102) = true := by decide +kernel
set_option maxRecDepth 100000 in
theorem m_okm_102 : m_okM 102 = true := by decide +kernel
set_option maxRecDepth 100000 in
theorem m_ok_103 : m_p_103.all (m_okE 103) = true := by decide +kernel
set_option maxRecDepth 100000 in
theorem m_okm_103 : m_okM 103 = true := by decide +kernel
