/-! the rounds of differing, others, total and sum over the cells' symbols -/
section OV3
variable {scr : List Int32} {σ ρ : Nat → Nat} {M pc x y w : Nat} {z : Int} {k kt kf : sK}
set_option maxRecDepth 100000 in
theorem m_c38 : m_code 38 24 = some (.if_icmp .eq 6, 30, 0, 0, 0) ∧ m_code 38 27 = some (.iinc 2 1, 0, 0, 0, 0) ∧ m_code 38 30 = some (.iinc 3 1, 0, 0, 0, 0) ∧ m_code 38 33 = some (.goto (-29), 4, 0, 0, 0) := ⟨rfl, rfl, rfl, rfl⟩
set_option maxRecDepth 100000 in
theorem m_c113 : m_code 113 25 = some (.if_icmp .eq 7, 32, 0, 0, 0) ∧ m_code 113 28 = some (.iconst 1, 0, 0, 0, 0) ∧ m_code 113 29 = some (.goto 4, 33, 0, 0, 0) ∧ m_code 113 32 = some (.iconst 0, 0, 0, 0, 0) ∧ m_code 113 33 = some (.iadd, 0, 0, 0, 0) ∧ m_code 113 34 = some (.istore_n 2, 0, 0, 0, 0) ∧ m_code 113 35 = some (.iinc 3 1, 0, 0, 0, 0) ∧ m_code 113 38 = some (.goto (-34), 4, 0, 0, 0) := ⟨rfl, rfl, rfl, rfl, rfl, rfl, rfl, rfl⟩
theorem O_mgO (hn : s_cnt ρ) {r : sR} (hr : ∀ M pc, s_OK scr σ ρ (r M pc) M pc) : s_OK scr σ ρ (s_mgO r) 113 25 := by
  obtain ⟨c25, c28, c29, c32, c33, c34, c35, c38⟩ := m_c113
  intro L S F H E B CF cL cH g0 hL hF hH hE hB
  obtain ⟨v, u, c, S, rfl, g1⟩ := (kP3_iff _ _).mp g0
  rw [kNil_iff] at g1
  obtain ⟨rfl, g2⟩ := g1
  rcases (kZ_iff _ _ _).mp g2 with ⟨rfl, g3⟩ | ⟨-, g3⟩
  rotate_left
  · cases g3
  obtain ⟨j, rfl, h⟩ := (kSy_iff _ _).mp g3
  rw [kB_f, kFrc_eq, kB_f, Nat.ble_eq, Nat.ble_eq] at h
  obtain ⟨h10, h63, h⟩ := h
  obtain ⟨i, rfl⟩ : ∃ i, j = 10 + i := ⟨j - 10, by omega⟩
  have e0 : Nat.sub (10 + i) 10 = i := by show 10 + i - 10 = i; omega
  rw [e0] at h63 h
  obtain ⟨hcv, k2⟩ := kPs_of (σ := σ) hn.1 h
  obtain ⟨e, he, k3⟩ := (kGet_iff _ _ _).mp k2
  obtain ⟨e, rfl, k4⟩ := (kI_iff _ _).mp k3
  rw [kB_f, kFrc_eq, kFrc_eq] at k4
  obtain ⟨h1, k5⟩ := k4
  have he1 := Nat.beq_eq.mp h1
  obtain ⟨a1, k6, a2⟩ := kSl_of k5
  obtain ⟨a3, h, a4⟩ := kSl_of k6
  have hs := hn.2 i (by omega)
  have inc : cI e + Int32.ofInt 1 = cI (e + 1) := by
    have q := cI_inc e 1
    rw [q]
    show cI ((e + 1) % 4294967296) = _
    rw [cI_mod]
  have hv3 : sv σ ρ (v_i (Nat.add e 1)) = .int (cI (e + 1)) := rfl
  have hv2 : sv σ ρ (v_s (Nat.add i 81)) = .int (cI (ρ (81 + i))) := by show Value.int (cI (ρ (Nat.add i 81))) = _; rw [show Nat.add i 81 = 81 + i from Nat.add_comm _ _]
  have q33 : ∀ a : Int32, cI (ρ (80 + i)) + a = cI (ρ (81 + i)) → m_Rn scr CF 113 33 cL [.int a, .int (cI (ρ (80 + i)))] cH := by
    intro a ha
    refine m_R1 c33 rfl (pc' := 34) (L' := cL) (S' := [.int (cI (ρ (80 + i)) + a)]) (H' := cH) rfl (m_R1 c34 rfl (pc' := 35) (L' := m_st1 2 (.int (cI (ρ (80 + i)) + a)) cL) (S' := []) (H' := cH) rfl ?_)
    rw [ha, ← hv2]
    have hl := hL.st1 (v := v_s (Nat.add i 81)) a2
    have l3 := hl 3 (v_i e) (by rw [List.getElem?_set_ne (by decide)]; exact he) (by rintro q; cases q)
    have l3' : m_ld (m_st1 2 (sv σ ρ (v_s (Nat.add i 81))) cL) 3 = some (.int (cI e)) := l3
    refine m_R1 c35 rfl (pc' := 38) (L' := m_st1 3 (.int (cI e + Int32.ofInt 1)) (m_st1 2 (sv σ ρ (v_s (Nat.add i 81))) cL)) (S' := []) (H' := cH) (by simp only [m_ex, l3']) (m_R1 c38 rfl rfl (hr 113 4 _ [] F H E B CF _ cH h ?_ hF hH hE hB))
    rw [inc, ← hv3]
    exact hl.st1 a4
  have hst : ((v_i 2147483648) :: v_s (10 + i) :: c :: []).map (sv σ ρ) = [.int (cI 2147483648), .int (cI (ρ (10 + i))), .int (cI (ρ (80 + i)))] := by
    rw [List.map_cons, List.map_cons, List.map_cons, hcv]
    rfl
  rw [hst]
  by_cases hz : cI (ρ (10 + i)) = 0
  · refine m_R1 c25 rfl (pc' := 32) (L' := cL) (S' := [.int (cI (ρ (80 + i)))]) (H' := cH) ?_ (m_R1 c32 rfl rfl (q33 _ ?_))
    · show some (if m_cmp .eq (cI (ρ (10 + i))) (cI 2147483648) = true then 32 else 28, cL, _, cH) = _
      rw [hz, cI_zero, if_pos (by decide)]
    · rw [hs, if_pos hz]
      rfl
  · refine m_R1 c25 rfl (pc' := 28) (L' := cL) (S' := [.int (cI (ρ (80 + i)))]) (H' := cH) ?_ (m_R1 c28 rfl rfl (m_R1 c29 rfl rfl (q33 _ ?_)))
    · show some (if m_cmp .eq (cI (ρ (10 + i))) (cI 2147483648) = true then 32 else 28, cL, _, cH) = _
      rw [cI_zero, if_neg (by simp only [m_cmp, decide_eq_true_eq]; exact hz)]
    · rw [hs, if_neg hz]
      rfl
end OV3
noncomputable section
def bo_38_9 (r : sR) : sK := s_ilt (s_ald 0 (s_gf 3 2 (s_ild 3 (s_iga (s_ald 1 (s_gf 3 2 (s_ild 3 (s_iga (s_mgD r))))))))) (r 38 36)
def bo_113_9 (r : sR) : sK := s_ilt (s_ild 2 (s_ald 0 (s_gf 6 2 (s_ild 3 (s_iga (s_ald 1 (s_gf 6 2 (s_ild 3 (s_iga (s_mgO r)))))))))) (r 113 41)
def bo_36_9 (r : sR) : sK := s_ilt (s_ild 1 (s_ald 0 (s_gf 3 2 (s_ild 2 (s_iga (s_adS (s_ist 1 (s_inc 2 1 (r 36 4))))))))) (r 36 27)
def bo_117_13 (r : sR) : sK := s_ild 4 (s_ild 3 (s_ilt (s_ald 2 (s_ild 4 (s_iga (s_ist 5 (s_ild 1 (s_ild 5 (s_adS (s_ist 1 (s_inc 4 1 (r 117 13)))))))))) (r 117 36)))
end
set_option maxRecDepth 100000 in
theorem bo_e1 (r : sR) : bo_38_9 r = s_cmp r 38 (s_mgD r) (s_row 38 7 9) := rfl
set_option maxRecDepth 100000 in
theorem bo_e2 (r : sR) : bo_113_9 r = s_cmp r 113 (s_mgO r) (s_row 113 7 10) := rfl
set_option maxRecDepth 100000 in
theorem bo_e3 (r : sR) : bo_36_9 r = s_cmp r 36 (s_adS (s_cmp r 36 (r 36 4) (s_row 36 14 2))) (s_row 36 7 6) := rfl
set_option maxRecDepth 100000 in
theorem bo_e4 (r : sR) : bo_117_13 r = s_cmp r 117 (s_adS (s_cmp r 117 (r 117 13) (s_row 117 20 2))) (s_row 117 10 9) := rfl
def bo_chk : Bool := s_inc1 (m_prog 38) 0 && s_inc1 (m_prog 113) 0 && s_inc1 (m_prog 36) 0 && s_inc1 (m_prog 117) 0 && s_chk 38 (some 24) (s_row 38 7 9) 9 && s_chk 113 (some 25) (s_row 113 7 10) 9 && s_chk 36 (some 19) (s_row 36 7 6) 9 && s_chk 36 (some 24) (s_row 36 14 2) 20 && s_chk 117 (some 28) (s_row 117 10 9) 13 && s_chk 117 (some 33) (s_row 117 20 2) 29
set_option maxRecDepth 100000 in
theorem bo_chk_ok : bo_chk = true := by decide +kernel
section OV4
variable {scr : List Int32} {σ ρ : Nat → Nat}
theorem bo_all : s_inc1 (m_prog 38) 0 = true ∧ s_inc1 (m_prog 113) 0 = true ∧ s_inc1 (m_prog 36) 0 = true ∧ s_inc1 (m_prog 117) 0 = true ∧ s_chk 38 (some 24) (s_row 38 7 9) 9 = true ∧ s_chk 113 (some 25) (s_row 113 7 10) 9 = true ∧ s_chk 36 (some 19) (s_row 36 7 6) 9 = true ∧ s_chk 36 (some 24) (s_row 36 14 2) 20 = true ∧ s_chk 117 (some 28) (s_row 117 10 9) 13 = true ∧ s_chk 117 (some 33) (s_row 117 20 2) 29 = true := by
  have h := bo_chk_ok
  unfold bo_chk at h
  simp only [Bool.and_eq_true] at h
  obtain ⟨⟨⟨⟨⟨⟨⟨⟨⟨a, b⟩, c⟩, d⟩, e⟩, f⟩, g⟩, i⟩, j⟩, k⟩ := h
  exact ⟨a, b, c, d, e, f, g, i, j, k⟩
set_option maxRecDepth 100000 in
theorem m_c36 : m_code 36 19 = some (.iadd, 0, 0, 0, 0) ∧ m_code 36 24 = some (.goto (-20), 4, 0, 0, 0) ∧ m_code 117 28 = some (.iadd, 0, 0, 0, 0) ∧ m_code 117 33 = some (.goto (-20), 13, 0, 0, 0) := ⟨rfl, rfl, rfl, rfl⟩
theorem ov_38 (hσ : s_in σ) (hn : s_cnt ρ) {r : sR} (hr : ∀ M pc, s_OK scr σ ρ (r M pc) M pc) : s_OK scr σ ρ (bo_38_9 r) 38 9 := by
  obtain ⟨c24, c27, c30, c33⟩ := m_c38
  rw [bo_e1]
  exact s_rows_fin hσ hr bo_all.1 bo_all.2.2.2.2.1 (O_mgD hn c24 c27 c30 c33 hr)
theorem ov_113 (hσ : s_in σ) (hn : s_cnt ρ) {r : sR} (hr : ∀ M pc, s_OK scr σ ρ (r M pc) M pc) : s_OK scr σ ρ (bo_113_9 r) 113 9 := by
  rw [bo_e2]
  exact s_rows_fin hσ hr bo_all.2.1 bo_all.2.2.2.2.2.1 (O_mgO hn hr)
theorem ov_36 (hσ : s_in σ) (hn : s_sms ρ) {r : sR} (hr : ∀ M pc, s_OK scr σ ρ (r M pc) M pc) : s_OK scr σ ρ (bo_36_9 r) 36 9 := by
  rw [bo_e3]
  refine s_rows_fin hσ hr bo_all.2.2.1 bo_all.2.2.2.2.2.2.1 (O_adS hn m_c36.1 (s_rows_fin hσ hr bo_all.2.2.1 bo_all.2.2.2.2.2.2.2.1 (O_goto m_c36.2.1 (by decide) (hr 36 4))))
theorem ov_117 (hσ : s_in σ) (hn : s_sms ρ) {r : sR} (hr : ∀ M pc, s_OK scr σ ρ (r M pc) M pc) : s_OK scr σ ρ (bo_117_13 r) 117 13 := by
  rw [bo_e4]
  refine s_rows_fin hσ hr bo_all.2.2.2.1 bo_all.2.2.2.2.2.2.2.2.1 (O_adS hn m_c36.2.2.1 (s_rows_fin hσ hr bo_all.2.2.2.1 bo_all.2.2.2.2.2.2.2.2.2 (O_goto m_c36.2.2.2 (by decide) (hr 117 13))))
end OV4
