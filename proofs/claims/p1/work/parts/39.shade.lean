/-! shade: what is added to a field -/
def m_shd (a b ro c r : Int32) : Int32 := a * c + b * r + (c * Int32.ofInt 5 + r * (Int8.ofInt 11).toInt32 + c * r * Int32.ofInt 3 - (c * Int32.ofInt 5 + r * (Int8.ofInt 11).toInt32 + c * r * Int32.ofInt 3) / (Int8.ofInt 13).toInt32 * (Int8.ofInt 13).toInt32) * ro
set_option maxRecDepth 100000 in
theorem m_c57 : m_code 57 63 = some (.iload_n 2, 0, 0, 0, 0) ∧ m_code 57 64 = some (.iload 7, 0, 0, 0, 0) ∧ m_code 57 66 = some (.imul, 0, 0, 0, 0) ∧ m_code 57 67 = some (.iload_n 3, 0, 0, 0, 0) ∧ m_code 57 68 = some (.iload 6, 0, 0, 0, 0) ∧ m_code 57 70 = some (.imul, 0, 0, 0, 0) ∧ m_code 57 71 = some (.iadd, 0, 0, 0, 0) ∧ m_code 57 72 = some (.iload 7, 0, 0, 0, 0) ∧ m_code 57 74 = some (.iconst 5, 0, 0, 0, 0) ∧ m_code 57 75 = some (.imul, 0, 0, 0, 0) ∧ m_code 57 76 = some (.iload 6, 0, 0, 0, 0) ∧ m_code 57 78 = some (.bipush 11, 0, 0, 0, 0) ∧ m_code 57 80 = some (.imul, 0, 0, 0, 0) ∧ m_code 57 81 = some (.iadd, 0, 0, 0, 0) := ⟨rfl, rfl, rfl, rfl, rfl, rfl, rfl, rfl, rfl, rfl, rfl, rfl, rfl, rfl⟩
set_option maxRecDepth 100000 in
theorem m_c57b : m_code 57 82 = some (.iload 7, 0, 0, 0, 0) ∧ m_code 57 84 = some (.iload 6, 0, 0, 0, 0) ∧ m_code 57 86 = some (.imul, 0, 0, 0, 0) ∧ m_code 57 87 = some (.iconst 3, 0, 0, 0, 0) ∧ m_code 57 88 = some (.imul, 0, 0, 0, 0) ∧ m_code 57 89 = some (.iadd, 0, 0, 0, 0) ∧ m_code 57 90 = some (.bipush 13, 0, 0, 0, 0) ∧ m_code 57 92 = some (.irem, 0, 0, 0, 0) ∧ m_code 57 93 = some (.iload 4, 0, 0, 0, 0) ∧ m_code 57 95 = some (.imul, 0, 0, 0, 0) ∧ m_code 57 96 = some (.iadd, 0, 0, 0, 0) ∧ m_code 57 97 = some (.istore 8, 0, 0, 0, 0) := ⟨rfl, rfl, rfl, rfl, rfl, rfl, rfl, rfl, rfl, rfl, rfl, rfl⟩
set_option maxRecDepth 100000 in
theorem m_c157 : m_code 157 118 = some (.iload_n 2, 0, 0, 0, 0) ∧ m_code 157 119 = some (.iload 8, 0, 0, 0, 0) ∧ m_code 157 121 = some (.imul, 0, 0, 0, 0) ∧ m_code 157 122 = some (.iadd, 0, 0, 0, 0) ∧ m_code 157 123 = some (.iload_n 3, 0, 0, 0, 0) ∧ m_code 157 124 = some (.iload 9, 0, 0, 0, 0) ∧ m_code 157 126 = some (.imul, 0, 0, 0, 0) ∧ m_code 157 127 = some (.iadd, 0, 0, 0, 0) ∧ m_code 157 128 = some (.iload 8, 0, 0, 0, 0) ∧ m_code 157 130 = some (.iconst 5, 0, 0, 0, 0) ∧ m_code 157 131 = some (.imul, 0, 0, 0, 0) ∧ m_code 157 132 = some (.iload 9, 0, 0, 0, 0) ∧ m_code 157 134 = some (.bipush 11, 0, 0, 0, 0) ∧ m_code 157 136 = some (.imul, 0, 0, 0, 0) ∧ m_code 157 137 = some (.iadd, 0, 0, 0, 0) := ⟨rfl, rfl, rfl, rfl, rfl, rfl, rfl, rfl, rfl, rfl, rfl, rfl, rfl, rfl, rfl⟩
set_option maxRecDepth 100000 in
theorem m_c157b : m_code 157 138 = some (.iload 8, 0, 0, 0, 0) ∧ m_code 157 140 = some (.iload 9, 0, 0, 0, 0) ∧ m_code 157 142 = some (.imul, 0, 0, 0, 0) ∧ m_code 157 143 = some (.iconst 3, 0, 0, 0, 0) ∧ m_code 157 144 = some (.imul, 0, 0, 0, 0) ∧ m_code 157 145 = some (.iadd, 0, 0, 0, 0) ∧ m_code 157 146 = some (.bipush 13, 0, 0, 0, 0) ∧ m_code 157 148 = some (.irem, 0, 0, 0, 0) ∧ m_code 157 149 = some (.iload 4, 0, 0, 0, 0) ∧ m_code 157 151 = some (.imul, 0, 0, 0, 0) ∧ m_code 157 152 = some (.iadd, 0, 0, 0, 0) := ⟨rfl, rfl, rfl, rfl, rfl, rfl, rfl, rfl, rfl, rfl, rfl⟩
section SD
variable {scr : List Int32} {CF : List mW} {M pc x y : Nat} {z : Int} {L : mL} {S : List Value} {H : List mC} {a b ro c r t : Int32}
theorem Ra_rem13 (hc : m_code M pc = some (.irem, x, y, 0, z)) (k : m_Rn scr CF M (pc + 1) L (.int (t - t / (Int8.ofInt 13).toInt32 * (Int8.ofInt 13).toInt32) :: S) H) : m_Rn scr CF M pc L (.int (Int8.ofInt 13).toInt32 :: .int t :: S) H :=
  m_R1 hc rfl (by
    simp only [m_ex, m_d2]
    rw [if_neg (by decide)]) k
theorem shd_R (l2 : m_ld L 2 = some (.int a)) (l3 : m_ld L 3 = some (.int b)) (l4 : m_ld L 4 = some (.int ro)) (l6 : m_ld L 6 = some (.int r)) (l7 : m_ld L 7 = some (.int c)) (k : m_Rn scr CF 57 99 (m_st1 8 (.int (m_shd a b ro c r)) L) [] H) : m_Rn scr CF 57 63 L [] H := by
  obtain ⟨c63, c64, c66, c67, c68, c70, c71, c72, c74, c75, c76, c78, c80, c81⟩ := m_c57
  obtain ⟨c82, c84, c86, c87, c88, c89, c90, c92, c93, c95, c96, c97⟩ := m_c57b
  refine Ra_iload_n c63 l2 (Ra_iload c64 l7 (m_R1 c66 rfl rfl (Ra_iload_n c67 l3 (Ra_iload c68 l6 (m_R1 c70 rfl rfl (m_R1 c71 rfl rfl ?_))))))
  refine Ra_iload c72 l7 (m_R1 c74 rfl rfl (m_R1 c75 rfl rfl (Ra_iload c76 l6 (m_R1 c78 rfl rfl (m_R1 c80 rfl rfl (m_R1 c81 rfl rfl ?_))))))
  refine Ra_iload c82 l7 (Ra_iload c84 l6 (m_R1 c86 rfl rfl (m_R1 c87 rfl rfl (m_R1 c88 rfl rfl (m_R1 c89 rfl rfl (m_R1 c90 rfl rfl (Ra_rem13 c92 ?_)))))))
  refine Ra_iload c93 l4 (m_R1 c95 rfl rfl (m_R1 c96 rfl rfl (Ra_istore c97 ?_)))
  exact k
theorem rshd_R (l2 : m_ld L 2 = some (.int a)) (l3 : m_ld L 3 = some (.int b)) (l4 : m_ld L 4 = some (.int ro)) (l9 : m_ld L 9 = some (.int r)) (l8 : m_ld L 8 = some (.int c)) (k : m_Rn scr CF 157 153 L (.int (m_shd a b ro c r) :: S) H) : m_Rn scr CF 157 118 L (.int 0 :: S) H := by
  obtain ⟨c118, c119, c121, c122, c123, c124, c126, c127, c128, c130, c131, c132, c134, c136, c137⟩ := m_c157
  obtain ⟨c138, c140, c142, c143, c144, c145, c146, c148, c149, c151, c152⟩ := m_c157b
  refine Ra_iload_n c118 l2 (Ra_iload c119 l8 (m_R1 c121 rfl rfl (m_R1 c122 rfl rfl ?_)))
  show m_Rn scr CF 157 123 L (.int (0 + a * c) :: S) H
  rw [Int32.zero_add]
  refine Ra_iload_n c123 l3 (Ra_iload c124 l9 (m_R1 c126 rfl rfl (m_R1 c127 rfl rfl ?_)))
  refine Ra_iload c128 l8 (m_R1 c130 rfl rfl (m_R1 c131 rfl rfl (Ra_iload c132 l9 (m_R1 c134 rfl rfl (m_R1 c136 rfl rfl (m_R1 c137 rfl rfl ?_))))))
  refine Ra_iload c138 l8 (Ra_iload c140 l9 (m_R1 c142 rfl rfl (m_R1 c143 rfl rfl (m_R1 c144 rfl rfl (m_R1 c145 rfl rfl (m_R1 c146 rfl rfl (Ra_rem13 c148 ?_)))))))
  refine Ra_iload c149 l4 (m_R1 c151 rfl rfl (m_R1 c152 rfl rfl ?_))
  exact k
end SD
