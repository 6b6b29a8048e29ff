/-! the first call is disc -/
set_option maxRecDepth 100000 in
theorem bo_e5 (r : sR) : bo_56_66 r = s_cmp r 56 (s_mgC r) (s_row 56 32 4) := rfl
set_option maxRecDepth 100000 in
theorem bo_e6 (r : sR) : bo_156_68 r = s_cmp r 156 (s_mgR r) (s_row 156 35 4) := rfl
set_option maxRecDepth 100000 in
theorem bo_chk3 : (s_inc1 (m_prog 56) 0 && s_inc1 (m_prog 156) 0 && s_chk 56 (some 76) (s_row 56 32 4) 66 && s_chk 156 (some 76) (s_row 156 35 4) 68) = true := by decide +kernel
section C3
variable {scr : List Int32}
theorem O_dis_ok {σ ρ : Nat → Nat} (hσ : s_in σ) (hn : s_cnt ρ) (hd : s_dsc ρ) : s_Oo scr σ ρ O_dis := by
  have hk := bo_chk3
  simp only [Bool.and_eq_true] at hk
  obtain ⟨⟨⟨k1, k2⟩, k3⟩, k4⟩ := hk
  intro M bl h1 pc b h2 r hr
  simp only [O_dis, List.mem_cons, List.mem_nil_iff, or_false] at h1
  rcases h1 with h1 | h1 | h1 | h1
  · cases h1
    simp only [List.mem_cons, List.mem_nil_iff, or_false] at h2
    cases h2
    exact ov_38 hσ hn hr
  · cases h1
    simp only [List.mem_cons, List.mem_nil_iff, or_false] at h2
    cases h2
    exact ov_113 hσ hn hr
  · cases h1
    simp only [List.mem_cons, List.mem_nil_iff, or_false] at h2
    cases h2
    rw [bo_e5]
    exact s_rows_fin hσ hr k1 k3 (O_mgC hσ hd hr)
  · cases h1
    simp only [List.mem_cons, List.mem_nil_iff, or_false] at h2
    cases h2
    rw [bo_e6]
    exact s_rows_fin hσ hr k2 k4 (O_mgR hσ hd hr)
/-- the fields after disc -/
def f_dis (scr : List Int32) (k : Nat) : Int32 := if scr.getD 4 0 * scr.getD 4 0 < (cI (2147483648 + k % 8) - scr.getD 2 0) * (cI (2147483648 + k % 8) - scr.getD 2 0) + (cI (2147483648 + k / 8) - scr.getD 3 0) * (cI (2147483648 + k / 8) - scr.getD 3 0) then 0 else scr.getD 5 0
theorem s_dsc_ok {g h : Nat → Int32} : s_dsc (s_ro scr (f_dis scr) g h) := by
  intro i j hi hj
  rw [show i * 8 + j + 10 = 10 + (i * 8 + j) by omega, s_ro_c (by omega), s_ro_w (j := 4) (by decide), s_ro_w (j := 2) (by decide), s_ro_w (j := 3) (by decide), s_ro_w (j := 5) (by decide), rr_cI, rr_cI, rr_cI, rr_cI]
  unfold f_dis
  rw [show (i * 8 + j) % 8 = j by omega, show (i * 8 + j) / 8 = i by omega]
theorem c_dis {n1 n2 n3 : Nat} (hl : scr.length = 7) (lo : s_run n1 244 482 s_L0 [] (s_X s_H0 [s_fu, (0, 2147483647, []), s_fu, s_fu, s_fu, s_fu, s_fu] s_t0) = true) (hi : s_run n2 244 482 s_L0 [] (s_X s_H0 [s_fu, (2147483652, 4294967295, []), s_fu, s_fu, s_fu, s_fu, s_fu] s_t0) = true) (hin : s_runO O_dis n3 244 482 s_L0 [] (s_X s_H1 (s_EO (2147483648, 2147483651, []) s_fu s_fu s_fu s_fu s_fu s_fu) s_t0) = true) : m_Rn scr [] 244 482 m_L0 [] m_H0 :=
  c_sh hl lo hi (fun h => c_1O (f := f_dis scr) (g := s_cn (f_dis scr)) (h := fun _ => 0) hl h (fun σ hσ => O_dis_ok hσ s_ro_cnt s_dsc_ok) hin)
end C3
