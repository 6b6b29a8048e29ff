/-! digest, whole -/
section dg_S
variable {scr : List Int32} {σ ρ : Nat → Nat}
theorem dg_g19 (hσ : s_in σ) : s_PT scr σ ρ dg_T19 191 95 := s_PT_of hσ (O_cuh_ok hσ) dg_p19
theorem dg_g18 (hσ : s_in σ) : s_PT scr σ ρ dg_T18 191 84 := s_PT_of hσ (O_stp_ok hσ (dg_g19 hσ) (O_cuh_ok hσ)) dg_p18
theorem dg_g17 (hσ : s_in σ) : s_PT scr σ ρ dg_T17 191 84 := s_PT_of hσ (O_stp_ok hσ (dg_g18 hσ) (O_cuh_ok hσ)) dg_p17
theorem dg_g16 (hσ : s_in σ) : s_PT scr σ ρ dg_T16 191 95 := s_PT_of hσ (O_stp_ok hσ (dg_g17 hσ) (O_cuh_ok hσ)) dg_p16
theorem dg_g15 (hσ : s_in σ) : s_PT scr σ ρ dg_T15 191 84 := s_PT_of hσ (O_stp_ok hσ (dg_g16 hσ) (O_cuh_ok hσ)) dg_p15
theorem dg_g14 (hσ : s_in σ) : s_PT scr σ ρ dg_T14 191 84 := s_PT_of hσ (O_stp_ok hσ (dg_g15 hσ) (O_cuh_ok hσ)) dg_p14
theorem dg_g13 (hσ : s_in σ) : s_PT scr σ ρ dg_T13 191 95 := s_PT_of hσ (O_stp_ok hσ (dg_g14 hσ) (O_cuh_ok hσ)) dg_p13
theorem dg_g12 (hσ : s_in σ) : s_PT scr σ ρ dg_T12 191 84 := s_PT_of hσ (O_stp_ok hσ (dg_g13 hσ) (O_cuh_ok hσ)) dg_p12
theorem dg_g11 (hσ : s_in σ) : s_PT scr σ ρ dg_T11 191 84 := s_PT_of hσ (O_stp_ok hσ (dg_g12 hσ) (O_cuh_ok hσ)) dg_p11
theorem dg_g10 (hσ : s_in σ) : s_PT scr σ ρ dg_T10 191 95 := s_PT_of hσ (O_stp_ok hσ (dg_g11 hσ) (O_cuh_ok hσ)) dg_p10
theorem dg_g9 (hσ : s_in σ) : s_PT scr σ ρ dg_T9 191 84 := s_PT_of hσ (O_stp_ok hσ (dg_g10 hσ) (O_cuh_ok hσ)) dg_p9
theorem dg_g8 (hσ : s_in σ) : s_PT scr σ ρ dg_T8 191 84 := s_PT_of hσ (O_stp_ok hσ (dg_g9 hσ) (O_cuh_ok hσ)) dg_p8
theorem dg_g7 (hσ : s_in σ) : s_PT scr σ ρ dg_T7 105 11 := s_PT_of hσ (O_stp_ok hσ (dg_g8 hσ) (O_cuh_ok hσ)) dg_p7
theorem dg_g6 (hσ : s_in σ) : s_PT scr σ ρ dg_T6 104 43 := s_PT_of hσ (O_stp_ok hσ (dg_g7 hσ) (O_cuh_ok hσ)) dg_p6
theorem dg_g5 (hσ : s_in σ) : s_PT scr σ ρ dg_T5 105 11 := s_PT_of hσ (O_stp_ok hσ (dg_g6 hσ) (O_cuh_ok hσ)) dg_p5
theorem dg_g4 (hσ : s_in σ) : s_PT scr σ ρ dg_T4 104 43 := s_PT_of hσ (O_stp_ok hσ (dg_g5 hσ) (O_cuh_ok hσ)) dg_p4
theorem dg_g3 (hσ : s_in σ) : s_PT scr σ ρ dg_T3 104 87 := s_PT_of hσ (O_stp_ok hσ (dg_g4 hσ) (O_cuh_ok hσ)) dg_p3
theorem dg_g2 (hσ : s_in σ) : s_PT scr σ ρ dg_T2 104 21 := s_PT_of hσ (O_stp_ok hσ (dg_g3 hσ) (O_cuh_ok hσ)) dg_p2
theorem dg_g1 (hσ : s_in σ) : s_PT scr σ ρ dg_T1 104 73 := s_PT_of hσ (O_stp_ok hσ (dg_g2 hσ) (O_cuh_ok hσ)) dg_p1
end dg_S
section dg_C
variable {scr : List Int32}
theorem c_dg (hl : scr.length = 7) : m_Rn scr [] 244 2427 m_L0 [] m_H0 :=
  c_fo (fun σ ρ hσ => O_stp_ok hσ (dg_g1 hσ) (O_cuh_ok hσ)) hl (s_eo3 (s_all scr 1) (s_all scr 2) (s_all scr 3)) dg_p0
end dg_C
