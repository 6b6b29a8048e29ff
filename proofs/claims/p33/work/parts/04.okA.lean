/-! the data are the program: every row decodes so, and its links stand in the tables -/
set_option maxRecDepth 100000 in
theorem m_ok_0 : (m_p_0).all (m_okE 0) = true := by decide +kernel
set_option maxRecDepth 100000 in
theorem m_ok_1 : (m_p_1).all (m_okE 1) = true := by decide +kernel
set_option maxRecDepth 100000 in
theorem m_ok_2 : (m_p_2).all (m_okE 2) = true := by decide +kernel
set_option maxRecDepth 100000 in
theorem m_ok_3 : (m_p_3).all (m_okE 3) = true := by decide +kernel
set_option maxRecDepth 100000 in
theorem m_ok_4 : (m_p_4).all (m_okE 4) = true := by decide +kernel
set_option maxRecDepth 100000 in
theorem m_ok_5 : (m_p_5).all (m_okE 5) = true := by decide +kernel
set_option maxRecDepth 100000 in
theorem m_ok_6 : (m_p_6).all (m_okE 6) = true := by decide +kernel
set_option maxRecDepth 100000 in
theorem m_ok_7 : (m_p_7).all (m_okE 7) = true := by decide +kernel
set_option maxRecDepth 100000 in
theorem m_ok_8 : (m_p_8).all (m_okE 8) = true := by decide +kernel
set_option maxRecDepth 100000 in
theorem m_ok_9 : (m_p_9).all (m_okE 9) = true := by decide +kernel
set_option maxRecDepth 100000 in
theorem m_ok_10 : (m_p_10).all (m_okE 10) = true := by decide +kernel
set_option maxRecDepth 100000 in
theorem m_ok_11 : (m_p_11).all (m_okE 11) = true := by decide +kernel
set_option maxRecDepth 100000 in
theorem m_ok_12 : (m_p_12).all (m_okE 12) = true := by decide +kernel
set_option maxRecDepth 100000 in
theorem m_ok_13 : (m_p_13).all (m_okE 13) = true := by decide +kernel
set_option maxRecDepth 100000 in
theorem m_ok_14 : (m_p_14).all (m_okE 14) = true := by decide +kernel
set_option maxRecDepth 100000 in
theorem m_ok_15 : (m_p_15).all (m_okE 15) = true := by decide +kernel
set_option maxRecDepth 100000 in
theorem m_ok_16 : (m_p_16).all (m_okE 16) = true := by decide +kernel
set_option maxRecDepth 100000 in
theorem m_ok_17 : (m_p_17).all (m_okE 17) = true := by decide +kernel
set_option maxRecDepth 100000 in
theorem m_ok_18 : (m_p_18).all (m_okE 18) = true := by decide +kernel
set_option maxRecDepth 100000 in
theorem m_ok_19 : (m_p_19).all (m_okE 19) = true := by decide +kernel
set_option maxRecDepth 100000 in
theorem m_ok_20 : (m_p_20).all (m_okE 20) = true := by decide +kernel
set_option maxRecDepth 100000 in
theorem m_ok_21 : (m_p_21).all (m_okE 21) = true := by decide +kernel
set_option maxRecDepth 100000 in
theorem m_ok_22 : (m_p_22).all (m_okE 22) = true := by decide +kernel
set_option maxRecDepth 100000 in
theorem m_ok_23 : (m_p_23).all (m_okE 23) = true := by decide +kernel
set_option maxRecDepth 100000 in
theorem m_ok_24 : (m_p_24).all (m_okE 24) = true := by decide +kernel
set_option maxRecDepth 100000 in
theorem m_ok_25 : (m_p_25).all (m_okE 25) = true := by decide +kernel
set_option maxRecDepth 100000 in
theorem m_ok_26 : (m_p_26).all (m_okE 26) = true := by decide +kernel
set_option maxRecDepth 100000 in
theorem m_ok_27 : (m_p_27).all (m_okE 27) = true := by decide +kernel
set_option maxRecDepth 100000 in
theorem m_ok_28 : (m_p_28).all (m_okE 28) = true := by decide +kernel
set_option maxRecDepth 100000 in
theorem m_ok_29 : (m_p_29).all (m_okE 29) = true := by decide +kernel
set_option maxRecDepth 100000 in
theorem m_ok_30 : (m_p_30).all (m_okE 30) = true := by decide +kernel
set_option maxRecDepth 100000 in
theorem m_ok_31 : (m_p_31).all (m_okE 31) = true := by decide +kernel
set_option maxRecDepth 100000 in
theorem m_ok_32 : (m_p_32).all (m_okE 32) = true := by decide +kernel
set_option maxRecDepth 100000 in
theorem m_ok_33 : (m_p_33).all (m_okE 33) = true := by decide +kernel
set_option maxRecDepth 100000 in
theorem m_ok_34 : (m_p_34).all (m_okE 34) = true := by decide +kernel
set_option maxRecDepth 100000 in
theorem m_ok_35 : (m_p_35).all (m_okE 35) = true := by decide +kernel
set_option maxRecDepth 100000 in
theorem m_ok_36 : (m_p_36).all (m_okE 36) = true := by decide +kernel
set_option maxRecDepth 100000 in
theorem m_ok_37 : (m_p_37).all (m_okE 37) = true := by decide +kernel
set_option maxRecDepth 100000 in
theorem m_ok_38 : (m_p_38).all (m_okE 38) = true := by decide +kernel
set_option maxRecDepth 100000 in
theorem m_ok_39 : (m_p_39).all (m_okE 39) = true := by decide +kernel
set_option maxRecDepth 100000 in
theorem m_ok_40 : (m_p_40).all (m_okE 40) = true := by decide +kernel
set_option maxRecDepth 100000 in
theorem m_ok_41 : (m_p_41).all (m_okE 41) = true := by decide +kernel
set_option maxRecDepth 100000 in
theorem m_ok_42 : (m_p_42).all (m_okE 42) = true := by decide +kernel
set_option maxRecDepth 100000 in
theorem m_ok_43 : (m_p_43).all (m_okE 43) = true := by decide +kernel
set_option maxRecDepth 100000 in
theorem m_ok_44 : (m_p_44).all (m_okE 44) = true := by decide +kernel
set_option maxRecDepth 100000 in
theorem m_ok_45 : (m_p_45).all (m_okE 45) = true := by decide +kernel
set_option maxRecDepth 100000 in
theorem m_ok_46 : (m_p_46).all (m_okE 46) = true := by decide +kernel
set_option maxRecDepth 100000 in
theorem m_ok_47 : (m_p_47).all (m_okE 47) = true := by decide +kernel
set_option maxRecDepth 100000 in
theorem m_ok_48 : (m_p_48).all (m_okE 48) = true := by decide +kernel
set_option maxRecDepth 100000 in
theorem m_ok_49 : (m_p_49).all (m_okE 49) = true := by decide +kernel
set_option maxRecDepth 100000 in
theorem m_ok_50 : (m_p_50).all (m_okE 50) = true := by decide +kernel
set_option maxRecDepth 100000 in
theorem m_ok_51 : (m_p_51).all (m_okE 51) = true := by decide +kernel
set_option maxRecDepth 100000 in
theorem m_ok_52 : (m_p_52).all (m_okE 52) = true := by decide +kernel
set_option maxRecDepth 100000 in
theorem m_ok_53 : (m_p_53).all (m_okE 53) = true := by decide +kernel
set_option maxRecDepth 100000 in
theorem m_ok_54 : (m_p_54).all (m_okE 54) = true := by decide +kernel
set_option maxRecDepth 100000 in
theorem m_ok_55 : (m_p_55).all (m_okE 55) = true := by decide +kernel
set_option maxRecDepth 100000 in
theorem m_ok_56 : (m_p_56).all (m_okE 56) = true := by decide +kernel
set_option maxRecDepth 100000 in
theorem m_ok_57 : (m_p_57).all (m_okE 57) = true := by decide +kernel
set_option maxRecDepth 100000 in
theorem m_ok_58 : (m_p_58).all (m_okE 58) = true := by decide +kernel
set_option maxRecDepth 100000 in
theorem m_ok_59 : (m_p_59).all (m_okE 59) = true := by decide +kernel
set_option maxRecDepth 100000 in
theorem m_ok_60 : (m_p_60).all (m_okE 60) = true := by decide +kernel
set_option maxRecDepth 100000 in
theorem m_ok_61 : (m_p_61).all (m_okE 61) = true := by decide +kernel
set_option maxRecDepth 100000 in
theorem m_ok_62 : (m_p_62).all (m_okE 62) = true := by decide +kernel
set_option maxRecDepth 100000 in
theorem m_ok_63 : (m_p_63).all (m_okE 63) = true := by decide +kernel
set_option maxRecDepth 100000 in
theorem m_ok_64 : (m_p_64).all (m_okE 64) = true := by decide +kernel
set_option maxRecDepth 100000 in
theorem m_ok_65 : (m_p_65).all (m_okE 65) = true := by decide +kernel
set_option maxRecDepth 100000 in
theorem m_ok_66 : (m_p_66).all (m_okE 66) = true := by decide +kernel
set_option maxRecDepth 100000 in
theorem m_ok_67 : (m_p_67).all (m_okE 67) = true := by decide +kernel
set_option maxRecDepth 100000 in
theorem m_ok_68 : (m_p_68).all (m_okE 68) = true := by decide +kernel
set_option maxRecDepth 100000 in
theorem m_ok_69 : (m_p_69).all (m_okE 69) = true := by decide +kernel
set_option maxRecDepth 100000 in
theorem m_ok_70 : (m_p_70).all (m_okE 70) = true := by decide +kernel
set_option maxRecDepth 100000 in
theorem m_ok_71 : (m_p_71).all (m_okE 71) = true := by decide +kernel
set_option maxRecDepth 100000 in
theorem m_ok_72 : (m_p_72).all (m_okE 72) = true := by decide +kernel
set_option maxRecDepth 100000 in
theorem m_ok_73 : (m_p_73).all (m_okE 73) = true := by decide +kernel
set_option maxRecDepth 100000 in
theorem m_ok_74 : (m_p_74).all (m_okE 74) = true := by decide +kernel
set_option maxRecDepth 100000 in
theorem m_ok_75 : (m_p_75).all (m_okE 75) = true := by decide +kernel
set_option maxRecDepth 100000 in
theorem m_ok_76 : (m_p_76).all (m_okE 76) = true := by decide +kernel
set_option maxRecDepth 100000 in
theorem m_ok_77 : (m_p_77).all (m_okE 77) = true := by decide +kernel
set_option maxRecDepth 100000 in
theorem m_ok_78 : (m_p_78).all (m_okE 78) = true := by decide +kernel
set_option maxRecDepth 100000 in
theorem m_ok_79 : (m_p_79).all (m_okE 79) = true := by decide +kernel
set_option maxRecDepth 100000 in
theorem m_ok_80 : (m_p_80).all (m_okE 80) = true := by decide +kernel
set_option maxRecDepth 100000 in
theorem m_ok_81 : (m_p_81).all (m_okE 81) = true := by decide +kernel
set_option maxRecDepth 100000 in
theorem m_ok_82 : (m_p_82).all (m_okE 82) = true := by decide +kernel
set_option maxRecDepth 100000 in
theorem m_ok_83 : (m_p_83).all (m_okE 83) = true := by decide +kernel
set_option maxRecDepth 100000 in
theorem m_ok_84 : (m_p_84).all (m_okE 84) = true := by decide +kernel
set_option maxRecDepth 100000 in
theorem m_ok_85 : (m_p_85).all (m_okE 85) = true := by decide +kernel
set_option maxRecDepth 100000 in
theorem m_ok_86 : (m_p_86).all (m_okE 86) = true := by decide +kernel
set_option maxRecDepth 100000 in
theorem m_ok_87 : (m_p_87).all (m_okE 87) = true := by decide +kernel
set_option maxRecDepth 100000 in
theorem m_ok_88 : (m_p_88).all (m_okE 88) = true := by decide +kernel
set_option maxRecDepth 100000 in
theorem m_ok_89 : (m_p_89).all (m_okE 89) = true := by decide +kernel
set_option maxRecDepth 100000 in
theorem m_ok_90 : (m_p_90).all (m_okE 90) = true := by decide +kernel
set_option maxRecDepth 100000 in
theorem m_ok_91 : (m_p_91).all (m_okE 91) = true := by decide +kernel
set_option maxRecDepth 100000 in
theorem m_ok_92 : (m_p_92).all (m_okE 92) = true := by decide +kernel
set_option maxRecDepth 100000 in
theorem m_ok_93 : (m_p_93).all (m_okE 93) = true := by decide +kernel
set_option maxRecDepth 100000 in
theorem m_ok_94 : (m_p_94).all (m_okE 94) = true := by decide +kernel
set_option maxRecDepth 100000 in
theorem m_ok_95 : (m_p_95).all (m_okE 95) = true := by decide +kernel
set_option maxRecDepth 100000 in
theorem m_ok_96 : (m_p_96).all (m_okE 96) = true := by decide +kernel
set_option maxRecDepth 100000 in
theorem m_ok_97 : (m_p_97).all (m_okE 97) = true := by decide +kernel
set_option maxRecDepth 100000 in
theorem m_ok_98 : (m_p_98).all (m_okE 98) = true := by decide +kernel
set_option maxRecDepth 100000 in
theorem m_ok_99 : (m_p_99).all (m_okE 99) = true := by decide +kernel
set_option maxRecDepth 100000 in
theorem m_ok_100 : (m_p_100).all (m_okE 100) = true := by decide +kernel
set_option maxRecDepth 100000 in
theorem m_ok_101 : (m_p_101).all (m_okE 101) = true := by decide +kernel
