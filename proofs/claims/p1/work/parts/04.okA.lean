/-! the data are the program: every row decodes so, and its links stand in the tables -/
set_option maxRecDepth 100000 in
theorem m_ok_0 : m_p_0.all (m_okE 0) = true := by decide +kernel
set_option maxRecDepth 100000 in
theorem m_okm_0 : m_okM 0 = true := by decide +kernel
set_option maxRecDepth 100000 in
theorem m_ok_1 : m_p_1.all (m_okE 1) = true := by decide +kernel
set_option maxRecDepth 100000 in
theorem m_okm_1 : m_okM 1 = true := by decide +kernel
set_option maxRecDepth 100000 in
theorem m_ok_2 : m_p_2.all (m_okE 2) = true := by decide +kernel
set_option maxRecDepth 100000 in
theorem m_okm_2 : m_okM 2 = true := by decide +kernel
set_option maxRecDepth 100000 in
theorem m_ok_3 : m_p_3.all (m_okE 3) = true := by decide +kernel
set_option maxRecDepth 100000 in
theorem m_okm_3 : m_okM 3 = true := by decide +kernel
set_option maxRecDepth 100000 in
theorem m_ok_4 : m_p_4.all (m_okE 4) = true := by decide +kernel
set_option maxRecDepth 100000 in
theorem m_okm_4 : m_okM 4 = true := by decide +kernel
set_option maxRecDepth 100000 in
theorem m_ok_5 : m_p_5.all (m_okE 5) = true := by decide +kernel
set_option maxRecDepth 100000 in
theorem m_okm_5 : m_okM 5 = true := by decide +kernel
set_option maxRecDepth 100000 in
theorem m_ok_6 : m_p_6.all (m_okE 6) = true := by decide +kernel
set_option maxRecDepth 100000 in
theorem m_okm_6 : m_okM 6 = true := by decide +kernel
set_option maxRecDepth 100000 in
theorem m_ok_7 : m_p_7.all (m_okE 7) = true := by decide +kernel
set_option maxRecDepth 100000 in
theorem m_okm_7 : m_okM 7 = true := by decide +kernel
set_option maxRecDepth 100000 in
theorem m_ok_8 : m_p_8.all (m_okE 8) = true := by decide +kernel
set_option maxRecDepth 100000 in
theorem m_okm_8 : m_okM 8 = true := by decide +kernel
set_option maxRecDepth 100000 in
theorem m_ok_9 : m_p_9.all (m_okE 9) = true := by decide +kernel
set_option maxRecDepth 100000 in
theorem m_okm_9 : m_okM 9 = true := by decide +kernel
set_option maxRecDepth 100000 in
theorem m_ok_10 : m_p_10.all (m_okE 10) = true := by decide +kernel
set_option maxRecDepth 100000 in
theorem m_okm_10 : m_okM 10 = true := by decide +kernel
set_option maxRecDepth 100000 in
theorem m_ok_11 : m_p_11.all (m_okE 11) = true := by decide +kernel
set_option maxRecDepth 100000 in
theorem m_okm_11 : m_okM 11 = true := by decide +kernel
set_option maxRecDepth 100000 in
theorem m_ok_12 : m_p_12.all (m_okE 12) = true := by decide +kernel
set_option maxRecDepth 100000 in
theorem m_okm_12 : m_okM 12 = true := by decide +kernel
set_option maxRecDepth 100000 in
theorem m_ok_13 : m_p_13.all (m_okE 13) = true := by decide +kernel
set_option maxRecDepth 100000 in
theorem m_okm_13 : m_okM 13 = true := by decide +kernel
set_option maxRecDepth 100000 in
theorem m_ok_14 : m_p_14.all (m_okE 14) = true := by decide +kernel
set_option maxRecDepth 100000 in
theorem m_okm_14 : m_okM 14 = true := by decide +kernel
set_option maxRecDepth 100000 in
theorem m_ok_15 : m_p_15.all (m_okE 15) = true := by decide +kernel
set_option maxRecDepth 100000 in
theorem m_okm_15 : m_okM 15 = true := by decide +kernel
set_option maxRecDepth 100000 in
theorem m_ok_16 : m_p_16.all (m_okE 16) = true := by decide +kernel
set_option maxRecDepth 100000 in
theorem m_okm_16 : m_okM 16 = true := by decide +kernel
set_option maxRecDepth 100000 in
theorem m_ok_17 : m_p_17.all (m_okE 17) = true := by decide +kernel
set_option maxRecDepth 100000 in
theorem m_okm_17 : m_okM 17 = true := by decide +kernel
set_option maxRecDepth 100000 in
theorem m_ok_18 : m_p_18.all (m_okE 18) = true := by decide +kernel
set_option maxRecDepth 100000 in
theorem m_okm_18 : m_okM 18 = true := by decide +kernel
set_option maxRecDepth 100000 in
theorem m_ok_19 : m_p_19.all (m_okE 19) = true := by decide +kernel
set_option maxRecDepth 100000 in
theorem m_okm_19 : m_okM 19 = true := by decide +kernel
set_option maxRecDepth 100000 in
theorem m_ok_20 : m_p_20.all (m_okE 20) = true := by decide +kernel
set_option maxRecDepth 100000 in
theorem m_okm_20 : m_okM 20 = true := by decide +kernel
set_option maxRecDepth 100000 in
theorem m_ok_21 : m_p_21.all (m_okE 21) = true := by decide +kernel
set_option maxRecDepth 100000 in
theorem m_okm_21 : m_okM 21 = true := by decide +kernel
set_option maxRecDepth 100000 in
theorem m_ok_22 : m_p_22.all (m_okE 22) = true := by decide +kernel
set_option maxRecDepth 100000 in
theorem m_okm_22 : m_okM 22 = true := by decide +kernel
set_option maxRecDepth 100000 in
theorem m_ok_23 : m_p_23.all (m_okE 23) = true := by decide +kernel
set_option maxRecDepth 100000 in
theorem m_okm_23 : m_okM 23 = true := by decide +kernel
set_option maxRecDepth 100000 in
theorem m_ok_24 : m_p_24.all (m_okE 24) = true := by decide +kernel
set_option maxRecDepth 100000 in
theorem m_okm_24 : m_okM 24 = true := by decide +kernel
set_option maxRecDepth 100000 in
theorem m_ok_25 : m_p_25.all (m_okE 25) = true := by decide +kernel
set_option maxRecDepth 100000 in
theorem m_okm_25 : m_okM 25 = true := by decide +kernel
set_option maxRecDepth 100000 in
theorem m_ok_26 : m_p_26.all (m_okE 26) = true := by decide +kernel
set_option maxRecDepth 100000 in
theorem m_okm_26 : m_okM 26 = true := by decide +kernel
set_option maxRecDepth 100000 in
theorem m_ok_27 : m_p_27.all (m_okE 27) = true := by decide +kernel
set_option maxRecDepth 100000 in
theorem m_okm_27 : m_okM 27 = true := by decide +kernel
set_option maxRecDepth 100000 in
theorem m_ok_28 : m_p_28.all (m_okE 28) = true := by decide +kernel
set_option maxRecDepth 100000 in
theorem m_okm_28 : m_okM 28 = true := by decide +kernel
set_option maxRecDepth 100000 in
theorem m_ok_29 : m_p_29.all (m_okE 29) = true := by decide +kernel
set_option maxRecDepth 100000 in
theorem m_okm_29 : m_okM 29 = true := by decide +kernel
set_option maxRecDepth 100000 in
theorem m_ok_30 : m_p_30.all (m_okE 30) = true := by decide +kernel
set_option maxRecDepth 100000 in
theorem m_okm_30 : m_okM 30 = true := by decide +kernel
set_option maxRecDepth 100000 in
theorem m_ok_31 : m_p_31.all (m_okE 31) = true := by decide +kernel
set_option maxRecDepth 100000 in
theorem m_okm_31 : m_okM 31 = true := by decide +kernel
set_option maxRecDepth 100000 in
theorem m_ok_32 : m_p_32.all (m_okE 32) = true := by decide +kernel
set_option maxRecDepth 100000 in
theorem m_okm_32 : m_okM 32 = true := by decide +kernel
set_option maxRecDepth 100000 in
theorem m_ok_33 : m_p_33.all (m_okE 33) = true := by decide +kernel
set_option maxRecDepth 100000 in
theorem m_okm_33 : m_okM 33 = true := by decide +kernel
set_option maxRecDepth 100000 in
theorem m_ok_34 : m_p_34.all (m_okE 34) = true := by decide +kernel
set_option maxRecDepth 100000 in
theorem m_okm_34 : m_okM 34 = true := by decide +kernel
set_option maxRecDepth 100000 in
theorem m_ok_35 : m_p_35.all (m_okE 35) = true := by decide +kernel
set_option maxRecDepth 100000 in
theorem m_okm_35 : m_okM 35 = true := by decide +kernel
set_option maxRecDepth 100000 in
theorem m_ok_36 : m_p_36.all (m_okE 36) = true := by decide +kernel
set_option maxRecDepth 100000 in
theorem m_okm_36 : m_okM 36 = true := by decide +kernel
set_option maxRecDepth 100000 in
theorem m_ok_37 : m_p_37.all (m_okE 37) = true := by decide +kernel
set_option maxRecDepth 100000 in
theorem m_okm_37 : m_okM 37 = true := by decide +kernel
set_option maxRecDepth 100000 in
theorem m_ok_38 : m_p_38.all (m_okE 38) = true := by decide +kernel
set_option maxRecDepth 100000 in
theorem m_okm_38 : m_okM 38 = true := by decide +kernel
set_option maxRecDepth 100000 in
theorem m_ok_39 : m_p_39.all (m_okE 39) = true := by decide +kernel
set_option maxRecDepth 100000 in
theorem m_okm_39 : m_okM 39 = true := by decide +kernel
set_option maxRecDepth 100000 in
theorem m_ok_40 : m_p_40.all (m_okE 40) = true := by decide +kernel
set_option maxRecDepth 100000 in
theorem m_okm_40 : m_okM 40 = true := by decide +kernel
set_option maxRecDepth 100000 in
theorem m_ok_41 : m_p_41.all (m_okE 41) = true := by decide +kernel
set_option maxRecDepth 100000 in
theorem m_okm_41 : m_okM 41 = true := by decide +kernel
set_option maxRecDepth 100000 in
theorem m_ok_42 : m_p_42.all (m_okE 42) = true := by decide +kernel
set_option maxRecDepth 100000 in
theorem m_okm_42 : m_okM 42 = true := by decide +kernel
set_option maxRecDepth 100000 in
theorem m_ok_43 : m_p_43.all (m_okE 43) = true := by decide +kernel
set_option maxRecDepth 100000 in
theorem m_okm_43 : m_okM 43 = true := by decide +kernel
set_option maxRecDepth 100000 in
theorem m_ok_44 : m_p_44.all (m_okE 44) = true := by decide +kernel
set_option maxRecDepth 100000 in
theorem m_okm_44 : m_okM 44 = true := by decide +kernel
set_option maxRecDepth 100000 in
theorem m_ok_45 : m_p_45.all (m_okE 45) = true := by decide +kernel
set_option maxRecDepth 100000 in
theorem m_okm_45 : m_okM 45 = true := by decide +kernel
set_option maxRecDepth 100000 in
theorem m_ok_46 : m_p_46.all (m_okE 46) = true := by decide +kernel
set_option maxRecDepth 100000 in
theorem m_okm_46 : m_okM 46 = true := by decide +kernel
set_option maxRecDepth 100000 in
theorem m_ok_47 : m_p_47.all (m_okE 47) = true := by decide +kernel
set_option maxRecDepth 100000 in
theorem m_okm_47 : m_okM 47 = true := by decide +kernel
set_option maxRecDepth 100000 in
theorem m_ok_48 : m_p_48.all (m_okE 48) = true := by decide +kernel
set_option maxRecDepth 100000 in
theorem m_okm_48 : m_okM 48 = true := by decide +kernel
set_option maxRecDepth 100000 in
theorem m_ok_49 : m_p_49.all (m_okE 49) = true := by decide +kernel
set_option maxRecDepth 100000 in
theorem m_okm_49 : m_okM 49 = true := by decide +kernel
set_option maxRecDepth 100000 in
theorem m_ok_50 : m_p_50.all (m_okE 50) = true := by decide +kernel
set_option maxRecDepth 100000 in
theorem m_okm_50 : m_okM 50 = true := by decide +kernel
set_option maxRecDepth 100000 in
theorem m_ok_51 : m_p_51.all (m_okE 51) = true := by decide +kernel
set_option maxRecDepth 100000 in
theorem m_okm_51 : m_okM 51 = true := by decide +kernel
set_option maxRecDepth 100000 in
theorem m_ok_52 : m_p_52.all (m_okE 52) = true := by decide +kernel
set_option maxRecDepth 100000 in
theorem m_okm_52 : m_okM 52 = true := by decide +kernel
set_option maxRecDepth 100000 in
theorem m_ok_53 : m_p_53.all (m_okE 53) = true := by decide +kernel
set_option maxRecDepth 100000 in
theorem m_okm_53 : m_okM 53 = true := by decide +kernel
set_option maxRecDepth 100000 in
theorem m_ok_54 : m_p_54.all (m_okE 54) = true := by decide +kernel
set_option maxRecDepth 100000 in
theorem m_okm_54 : m_okM 54 = true := by decide +kernel
set_option maxRecDepth 100000 in
theorem m_ok_55 : m_p_55.all (m_okE 55) = true := by decide +kernel
set_option maxRecDepth 100000 in
theorem m_okm_55 : m_okM 55 = true := by decide +kernel
