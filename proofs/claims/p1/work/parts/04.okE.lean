/-! the data are the program: the law, forty rows at a time -/
set_option maxRecDepth 100000 in
theorem m_okl_0 : ((m_p_244.drop 0).take 40).all (m_okE 244) = true := by decide +kernel
set_option maxRecDepth 100000 in
theorem m_okl_1 : ((m_p_244.drop 40).take 40).all (m_okE 244) = true := by decide +kernel
set_option maxRecDepth 100000 in
theorem m_okl_2 : ((m_p_244.drop 80).take 40).all (m_okE 244) = true := by decide +kernel
set_option maxRecDepth 100000 in
theorem m_okl_3 : ((m_p_244.drop 120).take 40).all (m_okE 244) = true := by decide +kernel
set_option maxRecDepth 100000 in
theorem m_okl_4 : ((m_p_244.drop 160).take 40).all (m_okE 244) = true := by decide +kernel
set_option maxRecDepth 100000 in
theorem m_okl_5 : ((m_p_244.drop 200).take 40).all (m_okE 244) = true := by decide +kernel
set_option maxRecDepth 100000 in
theorem m_okl_6 : ((m_p_244.drop 240).take 40).all (m_okE 244) = true := by decide +kernel
set_option maxRecDepth 100000 in
theorem m_okl_7 : ((m_p_244.drop 280).take 40).all (m_okE 244) = true := by decide +kernel
set_option maxRecDepth 100000 in
theorem m_okl_8 : ((m_p_244.drop 320).take 40).all (m_okE 244) = true := by decide +kernel
set_option maxRecDepth 100000 in
theorem m_okl_9 : ((m_p_244.drop 360).take 40).all (m_okE 244) = true := by decide +kernel
set_option maxRecDepth 100000 in
theorem m_okl_10 : ((m_p_244.drop 400).take 40).all (m_okE 244) = true := by decide +kernel
set_option maxRecDepth 100000 in
theorem m_okl_11 : ((m_p_244.drop 440).take 40).all (m_okE 244) = true := by decide +kernel
set_option maxRecDepth 100000 in
theorem m_okl_12 : ((m_p_244.drop 480).take 40).all (m_okE 244) = true := by decide +kernel
set_option maxRecDepth 100000 in
theorem m_okl_13 : ((m_p_244.drop 520).take 40).all (m_okE 244) = true := by decide +kernel
set_option maxRecDepth 100000 in
theorem m_okl_14 : ((m_p_244.drop 560).take 40).all (m_okE 244) = true := by decide +kernel
set_option maxRecDepth 100000 in
theorem m_okl_15 : ((m_p_244.drop 600).take 40).all (m_okE 244) = true := by decide +kernel
set_option maxRecDepth 100000 in
theorem m_okl_16 : ((m_p_244.drop 640).take 40).all (m_okE 244) = true := by decide +kernel
set_option maxRecDepth 100000 in
theorem m_okl_17 : ((m_p_244.drop 680).take 40).all (m_okE 244) = true := by decide +kernel
set_option maxRecDepth 100000 in
theorem m_okl_18 : ((m_p_244.drop 720).take 40).all (m_okE 244) = true := by decide +kernel
set_option maxRecDepth 100000 in
theorem m_okl_19 : ((m_p_244.drop 760).take 40).all (m_okE 244) = true := by decide +kernel
