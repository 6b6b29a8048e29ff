set_option maxRecDepth 100000 in
theorem m_okl_0 : ((m_p_102.drop 0).take 24).all (m_okE 102) = true := by decide +kernel
set_option maxRecDepth 100000 in
theorem m_okl_24 : ((m_p_102.drop 24).take 24).all (m_okE 102) = true := by decide +kernel
set_option maxRecDepth 100000 in
theorem m_okl_48 : ((m_p_102.drop 48).take 24).all (m_okE 102) = true := by decide +kernel
set_option maxRecDepth 100000 in
theorem m_okl_72 : ((m_p_102.drop 72).take 24).all (m_okE 102) = true := by decide +kernel
set_option maxRecDepth 100000 in
theorem m_okl_96 : ((m_p_102.drop 96).take 24).all (m_okE 102) = true := by decide +kernel
set_option maxRecDepth 100000 in
theorem m_okl_120 : ((m_p_102.drop 120).take 24).all (m_okE 102) = true := by decide +kernel
set_option maxRecDepth 100000 in
theorem m_okl_144 : ((m_p_102.drop 144).take 24).all (m_okE 102) = true := by decide +kernel
set_option maxRecDepth 100000 in
theorem m_okl_168 : ((m_p_102.drop 168).take 24).all (m_okE 102) = true := by decide +kernel
set_option maxRecDepth 100000 in
theorem m_okl_192 : ((m_p_102.drop 192).take 24).all (m_okE 102) = true := by decide +kernel
set_option maxRecDepth 100000 in
theorem m_okl_216 : ((m_p_102.drop 216).take 24).all (m_okE 102) = true := by decide +kernel
set_option maxRecDepth 100000 in
theorem m_okl_240 : ((m_p_102.drop 240).take 24).all (m_okE 102) = true := by decide +kernel
set_option maxRecDepth 100000 in
theorem m_okl_264 : ((m_p_102.drop 264).take 24).all (m_okE 102) = true := by decide +kernel
set_option maxRecDepth 100000 in
theorem m_okl_288 : ((m_p_102.drop 288).take 24).all (m_okE 102) = true := by decide +kernel
set_option maxRecDepth 100000 in
theorem m_okl_312 : ((m_p_102.drop 312).take 24).all (m_okE 102) = true := by decide +kernel
set_option maxRecDepth 100000 in
theorem m_okl_336 : ((m_p_102.drop 336).take 24).all (m_okE 102) = true := by decide +kernel
set_option maxRecDepth 100000 in
theorem m_okl_360 : ((m_p_102.drop 360).take 24).all (m_okE 102) = true := by decide +kernel
set_option maxRecDepth 100000 in
theorem m_okl_384 : ((m_p_102.drop 384).take 24).all (m_okE 102) = true := by decide +kernel
set_option maxRecDepth 100000 in
theorem m_okl_408 : ((m_p_102.drop 408).take 24).all (m_okE 102) = true := by decide +kernel
set_option maxRecDepth 100000 in
theorem m_okl_432 : ((m_p_102.drop 432).take 24).all (m_okE 102) = true := by decide +kernel
set_option maxRecDepth 100000 in
theorem m_okl_456 : ((m_p_102.drop 456).take 24).all (m_okE 102) = true := by decide +kernel
set_option maxRecDepth 100000 in
theorem m_okl_480 : ((m_p_102.drop 480).take 24).all (m_okE 102) = true := by decide +kernel
set_option maxRecDepth 100000 in
theorem m_okl_504 : ((m_p_102.drop 504).take 24).all (m_okE 102) = true := by decide +kernel
set_option maxRecDepth 100000 in
theorem m_okl_528 : ((m_p_102.drop 528).take 24).all (m_okE 102) = true := by decide +kernel
set_option maxRecDepth 100000 in
theorem m_okl_552 : ((m_p_102.drop 552).take 24).all (m_okE 102) = true := by decide +kernel
set_option maxRecDepth 100000 in
theorem m_okl_576 : ((m_p_102.drop 576).take 24).all (m_okE 102) = true := by decide +kernel
set_option maxRecDepth 100000 in
theorem m_okl_600 : ((m_p_102.drop 600).take 24).all (m_okE 102) = true := by decide +kernel
set_option maxRecDepth 100000 in
theorem m_okl_624 : ((m_p_102.drop 624).take 24).all (m_okE 102) = true := by decide +kernel
set_option maxRecDepth 100000 in
theorem m_okl_648 : ((m_p_102.drop 648).take 24).all (m_okE 102) = true := by decide +kernel
set_option maxRecDepth 100000 in
theorem m_okl_672 : ((m_p_102.drop 672).take 24).all (m_okE 102) = true := by decide +kernel
set_option maxRecDepth 100000 in
theorem m_okl_696 : ((m_p_102.drop 696).take 24).all (m_okE 102) = true := by decide +kernel
set_option maxRecDepth 100000 in
theorem m_okl_720 : ((m_p_102.drop 720).take 24).all (m_okE 102) = true := by decide +kernel
set_option maxRecDepth 100000 in
theorem m_okl_744 : ((m_p_102.drop 744).take 24).all (m_okE 102) = true := by decide +kernel
set_option maxRecDepth 100000 in
theorem m_okl_768 : ((m_p_102.drop 768).take 24).all (m_okE 102) = true := by decide +kernel
set_option maxRecDepth 100000 in
theorem m_okl_792 : ((m_p_102.drop 792).take 24).all (m_okE 102) = true := by decide +kernel
/-! joined -/
theorem m_allcut {α : Type} (p : α → Bool) (n : Nat) (L : List α) (h1 : (L.take n).all p = true) (h2 : (L.drop n).all p = true) : L.all p = true := by
  have h : (L.take n ++ L.drop n).all p = true := by rw [List.all_append, h1, h2]; rfl
  rwa [List.take_append_drop] at h
set_option maxRecDepth 100000 in
theorem m_oklz : ((m_p_102.drop 816)).all (m_okE 102) = true := by decide +kernel
theorem m_okd_792 : (m_p_102.drop 792).all (m_okE 102) = true := m_allcut _ 24 _ m_okl_792 (by rw [List.drop_drop]; exact m_oklz)
theorem m_okd_768 : (m_p_102.drop 768).all (m_okE 102) = true := m_allcut _ 24 _ m_okl_768 (by rw [List.drop_drop]; exact m_okd_792)
theorem m_okd_744 : (m_p_102.drop 744).all (m_okE 102) = true := m_allcut _ 24 _ m_okl_744 (by rw [List.drop_drop]; exact m_okd_768)
theorem m_okd_720 : (m_p_102.drop 720).all (m_okE 102) = true := m_allcut _ 24 _ m_okl_720 (by rw [List.drop_drop]; exact m_okd_744)
theorem m_okd_696 : (m_p_102.drop 696).all (m_okE 102) = true := m_allcut _ 24 _ m_okl_696 (by rw [List.drop_drop]; exact m_okd_720)
theorem m_okd_672 : (m_p_102.drop 672).all (m_okE 102) = true := m_allcut _ 24 _ m_okl_672 (by rw [List.drop_drop]; exact m_okd_696)
theorem m_okd_648 : (m_p_102.drop 648).all (m_okE 102) = true := m_allcut _ 24 _ m_okl_648 (by rw [List.drop_drop]; exact m_okd_672)
theorem m_okd_624 : (m_p_102.drop 624).all (m_okE 102) = true := m_allcut _ 24 _ m_okl_624 (by rw [List.drop_drop]; exact m_okd_648)
theorem m_okd_600 : (m_p_102.drop 600).all (m_okE 102) = true := m_allcut _ 24 _ m_okl_600 (by rw [List.drop_drop]; exact m_okd_624)
theorem m_okd_576 : (m_p_102.drop 576).all (m_okE 102) = true := m_allcut _ 24 _ m_okl_576 (by rw [List.drop_drop]; exact m_okd_600)
theorem m_okd_552 : (m_p_102.drop 552).all (m_okE 102) = true := m_allcut _ 24 _ m_okl_552 (by rw [List.drop_drop]; exact m_okd_576)
theorem m_okd_528 : (m_p_102.drop 528).all (m_okE 102) = true := m_allcut _ 24 _ m_okl_528 (by rw [List.drop_drop]; exact m_okd_552)
theorem m_okd_504 : (m_p_102.drop 504).all (m_okE 102) = true := m_allcut _ 24 _ m_okl_504 (by rw [List.drop_drop]; exact m_okd_528)
theorem m_okd_480 : (m_p_102.drop 480).all (m_okE 102) = true := m_allcut _ 24 _ m_okl_480 (by rw [List.drop_drop]; exact m_okd_504)
theorem m_okd_456 : (m_p_102.drop 456).all (m_okE 102) = true := m_allcut _ 24 _ m_okl_456 (by rw [List.drop_drop]; exact m_okd_480)
theorem m_okd_432 : (m_p_102.drop 432).all (m_okE 102) = true := m_allcut _ 24 _ m_okl_432 (by rw [List.drop_drop]; exact m_okd_456)
theorem m_okd_408 : (m_p_102.drop 408).all (m_okE 102) = true := m_allcut _ 24 _ m_okl_408 (by rw [List.drop_drop]; exact m_okd_432)
theorem m_okd_384 : (m_p_102.drop 384).all (m_okE 102) = true := m_allcut _ 24 _ m_okl_384 (by rw [List.drop_drop]; exact m_okd_408)
theorem m_okd_360 : (m_p_102.drop 360).all (m_okE 102) = true := m_allcut _ 24 _ m_okl_360 (by rw [List.drop_drop]; exact m_okd_384)
theorem m_okd_336 : (m_p_102.drop 336).all (m_okE 102) = true := m_allcut _ 24 _ m_okl_336 (by rw [List.drop_drop]; exact m_okd_360)
theorem m_okd_312 : (m_p_102.drop 312).all (m_okE 102) = true := m_allcut _ 24 _ m_okl_312 (by rw [List.drop_drop]; exact m_okd_336)
theorem m_okd_288 : (m_p_102.drop 288).all (m_okE 102) = true := m_allcut _ 24 _ m_okl_288 (by rw [List.drop_drop]; exact m_okd_312)
theorem m_okd_264 : (m_p_102.drop 264).all (m_okE 102) = true := m_allcut _ 24 _ m_okl_264 (by rw [List.drop_drop]; exact m_okd_288)
theorem m_okd_240 : (m_p_102.drop 240).all (m_okE 102) = true := m_allcut _ 24 _ m_okl_240 (by rw [List.drop_drop]; exact m_okd_264)
theorem m_okd_216 : (m_p_102.drop 216).all (m_okE 102) = true := m_allcut _ 24 _ m_okl_216 (by rw [List.drop_drop]; exact m_okd_240)
theorem m_okd_192 : (m_p_102.drop 192).all (m_okE 102) = true := m_allcut _ 24 _ m_okl_192 (by rw [List.drop_drop]; exact m_okd_216)
theorem m_okd_168 : (m_p_102.drop 168).all (m_okE 102) = true := m_allcut _ 24 _ m_okl_168 (by rw [List.drop_drop]; exact m_okd_192)
theorem m_okd_144 : (m_p_102.drop 144).all (m_okE 102) = true := m_allcut _ 24 _ m_okl_144 (by rw [List.drop_drop]; exact m_okd_168)
theorem m_okd_120 : (m_p_102.drop 120).all (m_okE 102) = true := m_allcut _ 24 _ m_okl_120 (by rw [List.drop_drop]; exact m_okd_144)
theorem m_okd_96 : (m_p_102.drop 96).all (m_okE 102) = true := m_allcut _ 24 _ m_okl_96 (by rw [List.drop_drop]; exact m_okd_120)
theorem m_okd_72 : (m_p_102.drop 72).all (m_okE 102) = true := m_allcut _ 24 _ m_okl_72 (by rw [List.drop_drop]; exact m_okd_96)
theorem m_okd_48 : (m_p_102.drop 48).all (m_okE 102) = true := m_allcut _ 24 _ m_okl_48 (by rw [List.drop_drop]; exact m_okd_72)
theorem m_okd_24 : (m_p_102.drop 24).all (m_okE 102) = true := m_allcut _ 24 _ m_okl_24 (by rw [List.drop_drop]; exact m_okd_48)
theorem m_okd_0 : (m_p_102.drop 0).all (m_okE 102) = true := m_allcut _ 24 _ m_okl_0 (by rw [List.drop_drop]; exact m_okd_24)
theorem m_ok_102 : m_p_102.all (m_okE 102) = true := m_okd_0
theorem m_okAll : ∀ M, M < 103 → (m_prog M).all (m_okE M) = true := by
  intro M hM
  match M, hM with
  | 0, _ => exact m_ok_0
  | 1, _ => exact m_ok_1
  | 2, _ => exact m_ok_2
  | 3, _ => exact m_ok_3
  | 4, _ => exact m_ok_4
  | 5, _ => exact m_ok_5
  | 6, _ => exact m_ok_6
  | 7, _ => exact m_ok_7
  | 8, _ => exact m_ok_8
  | 9, _ => exact m_ok_9
  | 10, _ => exact m_ok_10
  | 11, _ => exact m_ok_11
  | 12, _ => exact m_ok_12
  | 13, _ => exact m_ok_13
  | 14, _ => exact m_ok_14
  | 15, _ => exact m_ok_15
  | 16, _ => exact m_ok_16
  | 17, _ => exact m_ok_17
  | 18, _ => exact m_ok_18
  | 19, _ => exact m_ok_19
  | 20, _ => exact m_ok_20
  | 21, _ => exact m_ok_21
  | 22, _ => exact m_ok_22
  | 23, _ => exact m_ok_23
  | 24, _ => exact m_ok_24
  | 25, _ => exact m_ok_25
  | 26, _ => exact m_ok_26
  | 27, _ => exact m_ok_27
  | 28, _ => exact m_ok_28
  | 29, _ => exact m_ok_29
  | 30, _ => exact m_ok_30
  | 31, _ => exact m_ok_31
  | 32, _ => exact m_ok_32
  | 33, _ => exact m_ok_33
  | 34, _ => exact m_ok_34
  | 35, _ => exact m_ok_35
  | 36, _ => exact m_ok_36
  | 37, _ => exact m_ok_37
  | 38, _ => exact m_ok_38
  | 39, _ => exact m_ok_39
  | 40, _ => exact m_ok_40
  | 41, _ => exact m_ok_41
  | 42, _ => exact m_ok_42
  | 43, _ => exact m_ok_43
  | 44, _ => exact m_ok_44
  | 45, _ => exact m_ok_45
  | 46, _ => exact m_ok_46
  | 47, _ => exact m_ok_47
  | 48, _ => exact m_ok_48
  | 49, _ => exact m_ok_49
  | 50, _ => exact m_ok_50
  | 51, _ => exact m_ok_51
  | 52, _ => exact m_ok_52
  | 53, _ => exact m_ok_53
  | 54, _ => exact m_ok_54
  | 55, _ => exact m_ok_55
  | 56, _ => exact m_ok_56
  | 57, _ => exact m_ok_57
  | 58, _ => exact m_ok_58
  | 59, _ => exact m_ok_59
  | 60, _ => exact m_ok_60
  | 61, _ => exact m_ok_61
  | 62, _ => exact m_ok_62
  | 63, _ => exact m_ok_63
  | 64, _ => exact m_ok_64
  | 65, _ => exact m_ok_65
  | 66, _ => exact m_ok_66
  | 67, _ => exact m_ok_67
  | 68, _ => exact m_ok_68
  | 69, _ => exact m_ok_69
  | 70, _ => exact m_ok_70
  | 71, _ => exact m_ok_71
  | 72, _ => exact m_ok_72
  | 73, _ => exact m_ok_73
  | 74, _ => exact m_ok_74
  | 75, _ => exact m_ok_75
  | 76, _ => exact m_ok_76
  | 77, _ => exact m_ok_77
  | 78, _ => exact m_ok_78
  | 79, _ => exact m_ok_79
  | 80, _ => exact m_ok_80
  | 81, _ => exact m_ok_81
  | 82, _ => exact m_ok_82
  | 83, _ => exact m_ok_83
  | 84, _ => exact m_ok_84
  | 85, _ => exact m_ok_85
  | 86, _ => exact m_ok_86
  | 87, _ => exact m_ok_87
  | 88, _ => exact m_ok_88
  | 89, _ => exact m_ok_89
  | 90, _ => exact m_ok_90
  | 91, _ => exact m_ok_91
  | 92, _ => exact m_ok_92
  | 93, _ => exact m_ok_93
  | 94, _ => exact m_ok_94
  | 95, _ => exact m_ok_95
  | 96, _ => exact m_ok_96
  | 97, _ => exact m_ok_97
  | 98, _ => exact m_ok_98
  | 99, _ => exact m_ok_99
  | 100, _ => exact m_ok_100
  | 101, _ => exact m_ok_101
  | 102, _ => exact m_ok_102
  | n + 103, h => omega
theorem m_okmAll : ∀ x, x < 102 → m_okM x = true := by
  intro x hx
  match x, hx with
  | 0, _ => exact m_okm_0
  | 1, _ => exact m_okm_1
  | 2, _ => exact m_okm_2
  | 3, _ => exact m_okm_3
  | 4, _ => exact m_okm_4
  | 5, _ => exact m_okm_5
  | 6, _ => exact m_okm_6
  | 7, _ => exact m_okm_7
  | 8, _ => exact m_okm_8
  | 9, _ => exact m_okm_9
  | 10, _ => exact m_okm_10
  | 11, _ => exact m_okm_11
  | 12, _ => exact m_okm_12
  | 13, _ => exact m_okm_13
  | 14, _ => exact m_okm_14
  | 15, _ => exact m_okm_15
  | 16, _ => exact m_okm_16
  | 17, _ => exact m_okm_17
  | 18, _ => exact m_okm_18
  | 19, _ => exact m_okm_19
  | 20, _ => exact m_okm_20
  | 21, _ => exact m_okm_21
  | 22, _ => exact m_okm_22
  | 23, _ => exact m_okm_23
  | 24, _ => exact m_okm_24
  | 25, _ => exact m_okm_25
  | 26, _ => exact m_okm_26
  | 27, _ => exact m_okm_27
  | 28, _ => exact m_okm_28
  | 29, _ => exact m_okm_29
  | 30, _ => exact m_okm_30
  | 31, _ => exact m_okm_31
  | 32, _ => exact m_okm_32
  | 33, _ => exact m_okm_33
  | 34, _ => exact m_okm_34
  | 35, _ => exact m_okm_35
  | 36, _ => exact m_okm_36
  | 37, _ => exact m_okm_37
  | 38, _ => exact m_okm_38
  | 39, _ => exact m_okm_39
  | 40, _ => exact m_okm_40
  | 41, _ => exact m_okm_41
  | 42, _ => exact m_okm_42
  | 43, _ => exact m_okm_43
  | 44, _ => exact m_okm_44
  | 45, _ => exact m_okm_45
  | 46, _ => exact m_okm_46
  | 47, _ => exact m_okm_47
  | 48, _ => exact m_okm_48
  | 49, _ => exact m_okm_49
  | 50, _ => exact m_okm_50
  | 51, _ => exact m_okm_51
  | 52, _ => exact m_okm_52
  | 53, _ => exact m_okm_53
  | 54, _ => exact m_okm_54
  | 55, _ => exact m_okm_55
  | 56, _ => exact m_okm_56
  | 57, _ => exact m_okm_57
  | 58, _ => exact m_okm_58
  | 59, _ => exact m_okm_59
  | 60, _ => exact m_okm_60
  | 61, _ => exact m_okm_61
  | 62, _ => exact m_okm_62
  | 63, _ => exact m_okm_63
  | 64, _ => exact m_okm_64
  | 65, _ => exact m_okm_65
  | 66, _ => exact m_okm_66
  | 67, _ => exact m_okm_67
  | 68, _ => exact m_okm_68
  | 69, _ => exact m_okm_69
  | 70, _ => exact m_okm_70
  | 71, _ => exact m_okm_71
  | 72, _ => exact m_okm_72
  | 73, _ => exact m_okm_73
  | 74, _ => exact m_okm_74
  | 75, _ => exact m_okm_75
  | 76, _ => exact m_okm_76
  | 77, _ => exact m_okm_77
  | 78, _ => exact m_okm_78
  | 79, _ => exact m_okm_79
  | 80, _ => exact m_okm_80
  | 81, _ => exact m_okm_81
  | 82, _ => exact m_okm_82
  | 83, _ => exact m_okm_83
  | 84, _ => exact m_okm_84
  | 85, _ => exact m_okm_85
  | 86, _ => exact m_okm_86
  | 87, _ => exact m_okm_87
  | 88, _ => exact m_okm_88
  | 89, _ => exact m_okm_89
  | 90, _ => exact m_okm_90
  | 91, _ => exact m_okm_91
  | 92, _ => exact m_okm_92
  | 93, _ => exact m_okm_93
  | 94, _ => exact m_okm_94
  | 95, _ => exact m_okm_95
  | 96, _ => exact m_okm_96
  | 97, _ => exact m_okm_97
  | 98, _ => exact m_okm_98
  | 99, _ => exact m_okm_99
  | 100, _ => exact m_okm_100
  | 101, _ => exact m_okm_101
  | n + 102, h => omega
