/-! the data are the program: the law, forty rows at a time -/
set_option maxRecDepth 100000 in
theorem m_okl_30 : ((m_p_244.drop 1200).take 40).all (m_okE 244) = true := by decide +kernel
set_option maxRecDepth 100000 in
theorem m_okl_31 : ((m_p_244.drop 1240).take 40).all (m_okE 244) = true := by decide +kernel
set_option maxRecDepth 100000 in
theorem m_okl_32 : ((m_p_244.drop 1280).take 40).all (m_okE 244) = true := by decide +kernel
set_option maxRecDepth 100000 in
theorem m_okl_33 : ((m_p_244.drop 1320).take 40).all (m_okE 244) = true := by decide +kernel
set_option maxRecDepth 100000 in
theorem m_okl_34 : ((m_p_244.drop 1360).take 40).all (m_okE 244) = true := by decide +kernel
set_option maxRecDepth 100000 in
theorem m_okl_35 : ((m_p_244.drop 1400).take 40).all (m_okE 244) = true := by decide +kernel
set_option maxRecDepth 100000 in
theorem m_okl_36 : ((m_p_244.drop 1440).take 40).all (m_okE 244) = true := by decide +kernel
set_option maxRecDepth 100000 in
theorem m_okl_37 : ((m_p_244.drop 1480).take 40).all (m_okE 244) = true := by decide +kernel
set_option maxRecDepth 100000 in
theorem m_okl_38 : ((m_p_244.drop 1520).take 40).all (m_okE 244) = true := by decide +kernel
set_option maxRecDepth 100000 in
theorem m_okl_39 : ((m_p_244.drop 1560).take 40).all (m_okE 244) = true := by decide +kernel
