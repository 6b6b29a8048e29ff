/-! shade: values between 0 and 255; the table -/
theorem m_clp2 (n : Int32) : (if 0 < (if n < (255 : Int32) then n else 255) then (if n < (255 : Int32) then n else 255) else 0) = m_clp n := by
  unfold m_clp
  have e : (if n < (255 : Int32) then n else 255) = (if (255 : Int32) < n then 255 else n) := by
    by_cases h1 : n < 255
    · rw [if_pos h1, if_neg]
      rw [Int32.lt_iff_toInt_lt] at h1 ⊢
      omega
    · rw [if_neg h1]
      by_cases h2 : (255 : Int32) < n
      · rw [if_pos h2]
      · rw [if_neg h2]
        rw [Int32.lt_iff_toInt_lt] at h1 h2
        rw [← Int32.toInt_inj]
        omega
  rw [e]
set_option maxRecDepth 100000 in
theorem m_c142 : m_code 142 0 = some (.iconst 0, 0, 0, 0, 0) ∧ m_code 142 1 = some (.sipush 255, 0, 0, 0, 0) ∧ m_code 142 4 = some (.iload_n 0, 0, 0, 0, 0) ∧ (∃ n y z, m_code 142 5 = some (.invokestatic n, 0, y, 4, z)) ∧ (∃ n y z, m_code 142 8 = some (.invokestatic n, 0, y, 3, z)) ∧ m_code 142 11 = some (.ireturn, 0, 0, 0, 0) := ⟨rfl, rfl, rfl, ⟨_, _, _, rfl⟩, ⟨_, _, _, rfl⟩, rfl⟩
section S3
variable {scr : List Int32} {σ ρ : Nat → Nat} {k : sK}
theorem s_mgP_of {n : Nat} {L S : List sV} {F : List sF} {H : sH} {E : sE} {B : sB} (h : s_mgP n k L S (F, H, E, B) = true) : m_cat (.int 0 :: S.map (sv σ ρ)) ≤ 8 ∧ m_cat (S.map (sv σ ρ)) ≤ 8 ∧ ∃ i, i < 64 ∧ L[n]? = some (v_s (i + 150)) ∧ k L (v_s (i + 10) :: S) (F, H, E, B) = true := by
  obtain ⟨hc, h1⟩ := s_ct (σ := σ) (ρ := ρ) h
  obtain ⟨v, h2, h3⟩ := (kGet_iff _ _ _).mp h1
  obtain ⟨s, rfl, h4⟩ := (kSy_iff _ _).mp h3
  rw [kB_f, kFrc_eq, kB_f, kFrc_eq, Nat.ble_eq, Nat.ble_eq] at h4
  obtain ⟨h5, h6, h7⟩ := h4
  obtain ⟨i, rfl⟩ : ∃ i, s = i + 150 := ⟨s - 150, by omega⟩
  have e : Nat.sub (i + 150) 150 = i := by show i + 150 - 150 = i; omega
  rw [e] at h6 h7
  have hc' : 1 + m_cat (S.map (sv σ ρ)) ≤ 8 := by
    have q : m_cat (List.map (sv σ ρ) (Sum.inl 2147483648 :: S)) = 1 + m_cat (S.map (sv σ ρ)) := by simp [m_cat, sv, Value.category]
    rw [← q]
    exact hc
  have q2 : m_cat (.int 0 :: S.map (sv σ ρ)) = 1 + m_cat (S.map (sv σ ρ)) := by simp [m_cat, Value.category]
  exact ⟨by omega, by omega, i, by omega, h2, h7⟩
theorem O_mgP (hd : s_shh ρ) (hk : s_OK scr σ ρ k 35 23) : s_OK scr σ ρ (s_mgP 3 k) 35 12 := by
  intro L S F H E B CF cL cH g0 hL hF hH hE hB
  obtain ⟨h8, h8', i, hi, hl, h⟩ := s_mgP_of (σ := σ) (ρ := ρ) g0
  obtain ⟨c12, c13, c14, ⟨_, _, _, c17⟩, ⟨_, _, _, c20⟩, c23, c24⟩ := m_c35b
  have e1 : (Int16.ofInt 255).toInt32 = 255 := by decide
  have e2 : Int32.ofInt 0 = 0 := by decide
  have l3 : m_ld cL 3 = some (.int (cI (ρ (i + 150)))) := hL 3 _ hl (ne_s _)
  refine m_R1 c12 rfl rfl (Ra_iload_n c13 l3 (m_R1 c14 rfl rfl (Ra_min c17 (by rw [e2]; exact h8) (Ra_max c20 h8' ?_))))
  rw [e1, e2]
  have q := hk L (v_s (i + 10) :: S) F H E B CF cL cH h hL hF hH hE hB
  have e3 : sv σ ρ (v_s (i + 10)) = .int (m_clp (cI (ρ (i + 150)))) := by show Value.int (cI (ρ (i + 10))) = _; rw [hd.2 i hi]
  rw [List.map_cons, e3] at q
  exact q
theorem O_mgB (hd : s_shh ρ) (hk : s_OK scr σ ρ k 142 11) : s_OK scr σ ρ (s_mgP 0 k) 142 0 := by
  intro L S F H E B CF cL cH g0 hL hF hH hE hB
  obtain ⟨h8, h8', i, hi, hl, h⟩ := s_mgP_of (σ := σ) (ρ := ρ) g0
  obtain ⟨c0, c1, c4, ⟨_, _, _, c5⟩, ⟨_, _, _, c8⟩, c11⟩ := m_c142
  have e1 : (Int16.ofInt 255).toInt32 = 255 := by decide
  have e2 : Int32.ofInt 0 = 0 := by decide
  have l0 : m_ld cL 0 = some (.int (cI (ρ (i + 150)))) := hL 0 _ hl (ne_s _)
  refine m_R1 c0 rfl rfl (m_R1 c1 rfl rfl (Ra_iload_n c4 l0 (Ra_min c5 (by rw [e2]; exact h8) (Ra_max c8 h8' ?_))))
  rw [e1, e2, m_clp2]
  have q := hk L (v_s (i + 10) :: S) F H E B CF cL cH h hL hF hH hE hB
  have e3 : sv σ ρ (v_s (i + 10)) = .int (m_clp (cI (ρ (i + 150)))) := by show Value.int (cI (ρ (i + 10))) = _; rw [hd.2 i hi]
  rw [List.map_cons, e3] at q
  exact q
end S3
noncomputable section
def bo_57_53 (r : sR) : sK := s_ild 7 (s_ald 5 (s_gf 3 0 (s_ilt (s_mgS (s_ald 5 (s_ild 7 (s_ild 6 (s_ald 5 (s_ild 7 (s_ild 6 (s_cal r 34 3 5 4 57 114 [])))))))) (r 57 126))))
def bo_35_0 (r : sR) : sK := s_ald 0 (s_gf 3 2 (s_ild 2 (s_ald 0 (s_gf 3 0 (s_mul (s_ild 1 (s_add (s_mgP 3 (s_xsa 0 kIs (s_rev r))))))))))
def bo_142_0 (r : sR) : sK := s_mgP 0 (s_reti r)
def bo_157_81 (r : sR) : sK := s_ild 7 (s_ald 6 (s_len (s_ilt (s_ild 7 (s_ald 5 (s_gf 6 0 (s_rem (s_ist 8 (s_ild 7 (s_ald 5 (s_gf 6 0 (s_div (s_ist 9 (s_ald 6 (s_ild 7 (s_ald 6 (s_ild 7 (s_iga (s_mgT (s_cal r 142 1 1 0 157 156 []))))))))))))))))) (r 157 163))))
def O_shd : sO := [(36, [(9, bo_36_9)]), (117, [(13, bo_117_13)]), (57, [(53, bo_57_53)]), (35, [(0, bo_35_0)]), (142, [(0, bo_142_0)]), (157, [(81, bo_157_81)])]
end
