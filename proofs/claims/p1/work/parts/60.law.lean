/-! the law: case by case, then whole -/
section LW
variable {scr : List Int32} {pc : Nat}
theorem c_rng {a b n : Nat} (hl : scr.length = 7) (h1 : s_in4 scr 1) (h : a ≤ rr scr 2 ∧ rr scr 2 ≤ b ∧ b < 4294967296) (hrun : s_run n 244 pc s_L0 [] (s_X s_H1 [s_fu, (2147483648, 2147483651, []), (a, b, []), s_fu, s_fu, s_fu, s_fu] s_t0) = true) : m_Rn scr [] 244 pc m_L0 [] m_H0 :=
  c_1 hl h1 (s_eo3 ⟨h1.1, h1.2, by omega⟩ h (s_all scr 3)) hrun
theorem c_rngO {a b n : Nat} {O : sO} (hO : ∀ (σ ρ : Nat → Nat), s_in σ → s_Oo scr σ ρ O) (hl : scr.length = 7) (h1 : s_in4 scr 1) (h : a ≤ rr scr 2 ∧ rr scr 2 ≤ b ∧ b < 4294967296) (hrun : s_runO O n 244 pc s_L0 [] (s_X s_H1 [s_fu, (2147483648, 2147483651, []), (a, b, []), s_fu, s_fu, s_fu, s_fu] s_t0) = true) : m_Rn scr [] 244 pc m_L0 [] m_H0 :=
  c_1o hO hl h1 (s_eo3 ⟨h1.1, h1.2, by omega⟩ h (s_all scr 3)) hrun
theorem case_0 (hl : scr.length = 7) : m_Rn scr [] 244 180 m_L0 [] m_H0 := c_sh hl r_0_lo r_0_hi (fun h => by
  have h7 := rr_lt scr 2
  by_cases q0 : rr scr 2 ≤ 2147483648
  · exact c_rng hl h ⟨by omega, q0, by omega⟩ r_0_0
  by_cases q1 : rr scr 2 ≤ 2147483654
  · exact c_rng hl h ⟨by omega, q1, by omega⟩ r_0_1
  by_cases q2 : rr scr 2 ≤ 2147483657
  · exact c_rng hl h ⟨by omega, q2, by omega⟩ r_0_2
  by_cases q3 : rr scr 2 ≤ 2147483659
  · exact c_rng hl h ⟨by omega, q3, by omega⟩ r_0_3
  by_cases q4 : rr scr 2 ≤ 2147483661
  · exact c_rng hl h ⟨by omega, q4, by omega⟩ r_0_4
  by_cases q5 : rr scr 2 ≤ 2147483663
  · exact c_rng hl h ⟨by omega, q5, by omega⟩ r_0_5
  by_cases q6 : rr scr 2 ≤ 2147483664
  · exact c_rng hl h ⟨by omega, q6, by omega⟩ r_0_6
  exact c_rng hl h ⟨by omega, by omega, by omega⟩ r_0_7)
theorem case_1 (hl : scr.length = 7) : m_Rn scr [] 244 272 m_L0 [] m_H0 := c_sh hl r_1_lo r_1_hi (fun h => by
  have h7 := rr_lt scr 2
  by_cases q0 : rr scr 2 ≤ 2147483647
  · exact c_rng hl h ⟨by omega, q0, by omega⟩ r_1_0
  by_cases q1 : rr scr 2 ≤ 2147483651
  · exact c_rng hl h ⟨by omega, q1, by omega⟩ r_1_1
  by_cases q2 : rr scr 2 ≤ 2147483655
  · exact c_rng hl h ⟨by omega, q2, by omega⟩ r_1_2
  exact c_rng hl h ⟨by omega, by omega, by omega⟩ r_1_3)
theorem case_2 (hl : scr.length = 7) : m_Rn scr [] 244 364 m_L0 [] m_H0 := c_box hl r_2_lo r_2_hi r_2_in
theorem case_3 (hl : scr.length = 7) : m_Rn scr [] 244 482 m_L0 [] m_H0 := c_dis hl r_3_lo r_3_hi r_3_in
theorem case_4 (hl : scr.length = 7) : m_Rn scr [] 244 586 m_L0 [] m_H0 := c_sha hl r_4_lo r_4_hi r_4_in
theorem case_5 (hl : scr.length = 7) : m_Rn scr [] 244 678 m_L0 [] m_H0 := c_two hl r_5_lo r_5_hi r_5_il r_5_ih r_5_sm r_5_tw
theorem case_6 (hl : scr.length = 7) : m_Rn scr [] 244 746 m_L0 [] m_H0 := c_two hl r_6_lo r_6_hi r_6_il r_6_ih r_6_sm r_6_tw
theorem case_7 (hl : scr.length = 7) : m_Rn scr [] 244 826 m_L0 [] m_H0 := c_sh1 hl r_7_lo r_7_hi r_7_in
theorem case_8 (hl : scr.length = 7) : m_Rn scr [] 244 894 m_L0 [] m_H0 := c_0 hl (s_eo3 (s_all scr 1) (s_all scr 2) (s_all scr 3)) r_8_no
theorem case_9 (hl : scr.length = 7) : m_Rn scr [] 244 962 m_L0 [] m_H0 := c_0 hl (s_eo3 (s_all scr 1) (s_all scr 2) (s_all scr 3)) r_9_no
theorem case_10 (hl : scr.length = 7) : m_Rn scr [] 244 1030 m_L0 [] m_H0 := c_sh hl r_10_lo r_10_hi (fun h => by
  have h7 := rr_lt scr 2
  by_cases q0 : rr scr 2 ≤ 2147483647
  · exact c_rng hl h ⟨by omega, q0, by omega⟩ r_10_0
  by_cases q1 : rr scr 2 ≤ 2147483648
  · exact c_rng hl h ⟨by omega, q1, by omega⟩ r_10_1
  by_cases q2 : rr scr 2 ≤ 2147483649
  · exact c_rng hl h ⟨by omega, q2, by omega⟩ r_10_2
  by_cases q3 : rr scr 2 ≤ 2147483650
  · exact c_rng hl h ⟨by omega, q3, by omega⟩ r_10_3
  by_cases q4 : rr scr 2 ≤ 2147483651
  · exact c_rng hl h ⟨by omega, q4, by omega⟩ r_10_4
  by_cases q5 : rr scr 2 ≤ 2147483652
  · exact c_rng hl h ⟨by omega, q5, by omega⟩ r_10_5
  by_cases q6 : rr scr 2 ≤ 2147483653
  · exact c_rng hl h ⟨by omega, q6, by omega⟩ r_10_6
  by_cases q7 : rr scr 2 ≤ 2147483654
  · exact c_rng hl h ⟨by omega, q7, by omega⟩ r_10_7
  by_cases q8 : rr scr 2 ≤ 2147483655
  · exact c_rng hl h ⟨by omega, q8, by omega⟩ r_10_8
  by_cases q9 : rr scr 2 ≤ 2147483656
  · exact c_rng hl h ⟨by omega, q9, by omega⟩ r_10_9
  exact c_rng hl h ⟨by omega, by omega, by omega⟩ r_10_10)
theorem case_11 (hl : scr.length = 7) : m_Rn scr [] 244 1098 m_L0 [] m_H0 := c_sh hl r_11_lo r_11_hi (fun h => by
  have h7 := rr_lt scr 2
  by_cases q0 : rr scr 2 ≤ 2147483647
  · exact c_rngO (fun σ ρ hσ => O_cuh_ok hσ) hl h ⟨by omega, q0, by omega⟩ r_11_0
  by_cases q1 : rr scr 2 ≤ 2147483648
  · exact c_rngO (fun σ ρ hσ => O_cuh_ok hσ) hl h ⟨by omega, q1, by omega⟩ r_11_1
  by_cases q2 : rr scr 2 ≤ 2147483649
  · exact c_rngO (fun σ ρ hσ => O_cuh_ok hσ) hl h ⟨by omega, q2, by omega⟩ r_11_2
  by_cases q3 : rr scr 2 ≤ 2147483650
  · exact c_rngO (fun σ ρ hσ => O_cuh_ok hσ) hl h ⟨by omega, q3, by omega⟩ r_11_3
  by_cases q4 : rr scr 2 ≤ 2147483651
  · exact c_rngO (fun σ ρ hσ => O_cuh_ok hσ) hl h ⟨by omega, q4, by omega⟩ r_11_4
  exact c_rngO (fun σ ρ hσ => O_cuh_ok hσ) hl h ⟨by omega, by omega, by omega⟩ r_11_5)
theorem case_12 (hl : scr.length = 7) : m_Rn scr [] 244 1166 m_L0 [] m_H0 := c_sh1 hl r_12_lo r_12_hi r_12_in
theorem case_13 (hl : scr.length = 7) : m_Rn scr [] 244 1246 m_L0 [] m_H0 := c_sh hl r_13_lo r_13_hi (fun h => c_1o (fun σ ρ hσ => O_cuh_ok hσ) hl h (s_eo3 ⟨h.1, h.2, by omega⟩ (s_all scr 2) (s_all scr 3)) r_13_in)
theorem case_14 (hl : scr.length = 7) : m_Rn scr [] 244 1314 m_L0 [] m_H0 := c_sh1 hl r_14_lo r_14_hi r_14_in
theorem case_15 (hl : scr.length = 7) : m_Rn scr [] 244 1394 m_L0 [] m_H0 := c_sh1 hl r_15_lo r_15_hi r_15_in
theorem case_16 (hl : scr.length = 7) : m_Rn scr [] 244 1462 m_L0 [] m_H0 := c_two hl r_16_lo r_16_hi r_16_il r_16_ih r_16_sm r_16_tw
theorem case_17 (hl : scr.length = 7) : m_Rn scr [] 244 1551 m_L0 [] m_H0 := c_sh1 hl r_17_lo r_17_hi r_17_in
theorem case_18 (hl : scr.length = 7) : m_Rn scr [] 244 1619 m_L0 [] m_H0 := c_sh hl r_18_lo r_18_hi (fun h => by
  have h7 := rr_lt scr 2
  by_cases q0 : rr scr 2 ≤ 2147483651
  · exact c_rng hl h ⟨by omega, q0, by omega⟩ r_18_0
  by_cases q1 : rr scr 2 ≤ 2147483652
  · exact c_rng hl h ⟨by omega, q1, by omega⟩ r_18_1
  by_cases q2 : rr scr 2 ≤ 2147483655
  · exact c_rng hl h ⟨by omega, q2, by omega⟩ r_18_2
  by_cases q3 : rr scr 2 ≤ 2147483656
  · exact c_rng hl h ⟨by omega, q3, by omega⟩ r_18_3
  exact c_rng hl h ⟨by omega, by omega, by omega⟩ r_18_4)
theorem case_19 (hl : scr.length = 7) : m_Rn scr [] 244 1687 m_L0 [] m_H0 := c_sh hl r_19_lo r_19_hi (fun h => by
  have h7 := rr_lt scr 2
  by_cases q0 : rr scr 2 ≤ 2147483651
  · exact c_rng hl h ⟨by omega, q0, by omega⟩ r_19_0
  by_cases q1 : rr scr 2 ≤ 2147483652
  · exact c_rng hl h ⟨by omega, q1, by omega⟩ r_19_1
  by_cases q2 : rr scr 2 ≤ 2147483655
  · exact c_rng hl h ⟨by omega, q2, by omega⟩ r_19_2
  by_cases q3 : rr scr 2 ≤ 2147483656
  · exact c_rng hl h ⟨by omega, q3, by omega⟩ r_19_3
  exact c_rng hl h ⟨by omega, by omega, by omega⟩ r_19_4)
theorem case_20 (hl : scr.length = 7) : m_Rn scr [] 244 1779 m_L0 [] m_H0 := c_sh1 hl r_20_lo r_20_hi r_20_in
theorem case_21 (hl : scr.length = 7) : m_Rn scr [] 244 1871 m_L0 [] m_H0 := c_sh1 hl r_21_lo r_21_hi r_21_in
theorem case_22 (hl : scr.length = 7) : m_Rn scr [] 244 1939 m_L0 [] m_H0 := c_sh1 hl r_22_lo r_22_hi r_22_in
theorem case_23 (hl : scr.length = 7) : m_Rn scr [] 244 2031 m_L0 [] m_H0 := c_sh1 hl r_23_lo r_23_hi r_23_in
theorem case_24 (hl : scr.length = 7) : m_Rn scr [] 244 2099 m_L0 [] m_H0 := c_sh1 hl r_24_lo r_24_hi r_24_in
theorem case_25 (hl : scr.length = 7) : m_Rn scr [] 244 2155 m_L0 [] m_H0 := c_sh1 hl r_25_lo r_25_hi r_25_in
theorem case_26 (hl : scr.length = 7) : m_Rn scr [] 244 2211 m_L0 [] m_H0 := c_sh1 hl r_26_lo r_26_hi r_26_in
theorem case_27 (hl : scr.length = 7) : m_Rn scr [] 244 2279 m_L0 [] m_H0 := c_sh hl r_27_lo r_27_hi (fun h => by
  have h7 := rr_lt scr 2
  by_cases q0 : rr scr 2 ≤ 2147483651
  · exact c_rng hl h ⟨by omega, q0, by omega⟩ r_27_0
  by_cases q1 : rr scr 2 ≤ 2147483652
  · exact c_rng hl h ⟨by omega, q1, by omega⟩ r_27_1
  by_cases q2 : rr scr 2 ≤ 2147483655
  · exact c_rng hl h ⟨by omega, q2, by omega⟩ r_27_2
  by_cases q3 : rr scr 2 ≤ 2147483656
  · exact c_rng hl h ⟨by omega, q3, by omega⟩ r_27_3
  exact c_rng hl h ⟨by omega, by omega, by omega⟩ r_27_4)
theorem case_28 (hl : scr.length = 7) : m_Rn scr [] 244 2359 m_L0 [] m_H0 := c_sh hl r_28_lo r_28_hi (fun h => by
  have h7 := rr_lt scr 2
  by_cases q0 : rr scr 2 ≤ 2147483648
  · exact c_rng hl h ⟨by omega, q0, by omega⟩ r_28_a
  by_cases q1 : rr scr 2 ≤ 2147483649
  · exact c_rngO (fun σ ρ hσ => O_cuh_ok hσ) hl h ⟨by omega, q1, by omega⟩ cb1_p0
  by_cases q2 : rr scr 2 ≤ 2147483650
  · exact c_rngO (fun σ ρ hσ => O_stp_ok hσ (cb2_g1 hσ) (O_cuh_ok hσ)) hl h ⟨by omega, q2, by omega⟩ cb2_p0
  by_cases q3 : rr scr 2 ≤ 2147483651
  · exact c_rngO (fun σ ρ hσ => O_stp_ok hσ (cb3_g1 hσ) (O_cuh_ok hσ)) hl h ⟨by omega, q3, by omega⟩ cb3_p0
  by_cases q4 : rr scr 2 ≤ 2147483652
  · exact c_rngO (fun σ ρ hσ => O_stp_ok hσ (cb4_g1 hσ) (O_cuh_ok hσ)) hl h ⟨by omega, q4, by omega⟩ cb4_p0
  by_cases q5 : rr scr 2 ≤ 2147483653
  · exact c_rngO (fun σ ρ hσ => O_stp_ok hσ (cb5_g1 hσ) (O_cuh_ok hσ)) hl h ⟨by omega, q5, by omega⟩ cb5_p0
  by_cases q6 : rr scr 2 ≤ 2147483654
  · exact c_rngO (fun σ ρ hσ => O_stp_ok hσ (cb6_g1 hσ) (O_cuh_ok hσ)) hl h ⟨by omega, q6, by omega⟩ cb6_p0
  by_cases q7 : rr scr 2 ≤ 2147483655
  · exact c_rngO (fun σ ρ hσ => O_stp_ok hσ (cb7_g1 hσ) (O_cuh_ok hσ)) hl h ⟨by omega, q7, by omega⟩ cb7_p0
  exact c_rng hl h ⟨by omega, by omega, by omega⟩ r_28_z)
theorem case_29 (hl : scr.length = 7) : m_Rn scr [] 244 2427 m_L0 [] m_H0 := c_dg hl
def s_PC : List Nat := [180, 272, 364, 482, 586, 678, 746, 826, 894, 962, 1030, 1098, 1166, 1246, 1314, 1394, 1462, 1551, 1619, 1687, 1779, 1871, 1939, 2031, 2099, 2155, 2211, 2279, 2359, 2427]
theorem all_cases (hl : scr.length = 7) : ∀ n, n < 30 → m_Rn scr [] 244 (s_PC.getD n 0) m_L0 [] m_H0
  | 0, _ => case_0 hl
  | 1, _ => case_1 hl
  | 2, _ => case_2 hl
  | 3, _ => case_3 hl
  | 4, _ => case_4 hl
  | 5, _ => case_5 hl
  | 6, _ => case_6 hl
  | 7, _ => case_7 hl
  | 8, _ => case_8 hl
  | 9, _ => case_9 hl
  | 10, _ => case_10 hl
  | 11, _ => case_11 hl
  | 12, _ => case_12 hl
  | 13, _ => case_13 hl
  | 14, _ => case_14 hl
  | 15, _ => case_15 hl
  | 16, _ => case_16 hl
  | 17, _ => case_17 hl
  | 18, _ => case_18 hl
  | 19, _ => case_19 hl
  | 20, _ => case_20 hl
  | 21, _ => case_21 hl
  | 22, _ => case_22 hl
  | 23, _ => case_23 hl
  | 24, _ => case_24 hl
  | 25, _ => case_25 hl
  | 26, _ => case_26 hl
  | 27, _ => case_27 hl
  | 28, _ => case_28 hl
  | 29, _ => case_29 hl
  | n + 30, h => absurd h (by omega)
set_option maxRecDepth 100000 in
theorem m_c244e : m_code 244 2441 = some (.iinc 5 7, 0, 0, 0, 0) ∧ m_code 244 2444 = some (.goto (-2416), 28, 0, 0, 0) := ⟨rfl, rfl⟩
theorem m_dflt (hl : scr.length = 7) : m_Rn scr [] 244 2441 m_L0 [] m_H0 := by
  obtain ⟨c28, c30, c31, c32, c34, c35, c38, c39⟩ := m_c244c
  obtain ⟨c41, c44⟩ := m_c244e
  refine m_R1 c41 rfl (pc' := 2444) (L' := [(0, .ref 0), (1, .ref 1), (2, .ref 31), (3, .ref 42), (4, .ref 43), (5, .int 7)]) (S' := []) (H' := m_H0) (by rfl) (m_R1 c44 rfl rfl ?_)
  refine m_R1 c28 rfl rfl (m_R1 c30 rfl rfl (m_R1 c31 rfl rfl (m_R1 c32 rfl rfl (m_R1 c34 rfl rfl (m_R1 c35 rfl (pc' := 2447) (L' := [(0, .ref 0), (1, .ref 1), (2, .ref 31), (3, .ref 42), (4, .ref 43), (5, .int 7)]) (S' := []) (H' := m_H0) ?_ m_done)))))
  show some (if m_cmp .gt 7 (Int32.ofNat scr.length - (Int8.ofInt 7).toInt32) = true then 2447 else 38, _, [], m_H0) = _
  rw [hl]
  rfl
def s_offs : Array Int := #[135, 227, 319, 437, 541, 633, 701, 781, 849, 917, 985, 1053, 1121, 1201, 1269, 1349, 1417, 1506, 1574, 1642, 1734, 1826, 1894, 1986, 2054, 2110, 2166, 2234, 2314, 2382]
theorem s_offs_at : ∀ n : Fin 30, s_offs[n.val]? = some ((s_PC.getD n.val 0 : Nat) - 45 : Int) := by decide +kernel
theorem s_offs_sz : s_offs.size = 30 := rfl
theorem m_law7 (hl : scr.length = 7) : m_Rn scr [] 244 28 m_L0 [] m_H0 := by
  obtain ⟨a, ha⟩ : ∃ a, scr[0]? = some a := ⟨_, List.getElem?_eq_getElem (by omega)⟩
  refine m_law_long hl ha (fun off h => ?_)
  split at h
  · cases h
    exact ⟨2441, rfl, m_dflt hl⟩
  · have h' : s_offs[((a &&& 31).toInt - 0).toNat]? = some off := h
    generalize ((a &&& 31).toInt - 0).toNat = n at h'
    have hn : n < 30 := by
      rw [← s_offs_sz]
      exact (Array.getElem?_eq_some_iff.mp h').1
    rw [s_offs_at ⟨n, hn⟩] at h'
    have e : ((s_PC.getD n 0 : Nat) - 45 : Int) = off := by
      injection h'
    exact ⟨s_PC.getD n 0, by omega, all_cases hl n hn⟩
theorem m_law (scr : List Int32) (h : scr.length ≤ 7) : m_Law scr := by
  have q : m_Rn scr [] 244 0 [(0, .ref 0)] [] [] := m_to28 (by
    by_cases h7 : scr.length < 7
    · exact m_law_short h7
    · exact m_law7 (by omega))
  obtain ⟨n, v, H', hgo, hv⟩ := q
  have hv' : v = some (.int 1) ∧ H'.length ≤ 600002 ∧ m_sl H' ≤ 7302232 := hv
  rw [hv'.1] at hgo
  exact ⟨n, H', hgo, hv'.2⟩
end LW
