/-! the data are the program: the law, forty rows at a time -/
set_option maxRecDepth 100000 in
theorem m_okl_20 : ((m_p_244.drop 800).take 40).all (m_okE 244) = true := by decide +kernel
set_option maxRecDepth 100000 in
theorem m_okl_21 : ((m_p_244.drop 840).take 40).all (m_okE 244) = true := by decide +kernel
set_option maxRecDepth 100000 in
theorem m_okl_22 : ((m_p_244.drop 880).take 40).all (m_okE 244) = true := by decide +kernel
set_option maxRecDepth 100000 in
theorem m_okl_23 : ((m_p_244.drop 920).take 40).all (m_okE 244) = true := by decide +kernel
set_option maxRecDepth 100000 in
theorem m_okl_24 : ((m_p_244.drop 960).take 40).all (m_okE 244) = true := by decide +kernel
set_option maxRecDepth 100000 in
theorem m_okl_25 : ((m_p_244.drop 1000).take 40).all (m_okE 244) = true := by decide +kernel
set_option maxRecDepth 100000 in
theorem m_okl_26 : ((m_p_244.drop 1040).take 40).all (m_okE 244) = true := by decide +kernel
set_option maxRecDepth 100000 in
theorem m_okl_27 : ((m_p_244.drop 1080).take 40).all (m_okE 244) = true := by decide +kernel
set_option maxRecDepth 100000 in
theorem m_okl_28 : ((m_p_244.drop 1120).take 40).all (m_okE 244) = true := by decide +kernel
set_option maxRecDepth 100000 in
theorem m_okl_29 : ((m_p_244.drop 1160).take 40).all (m_okE 244) = true := by decide +kernel
