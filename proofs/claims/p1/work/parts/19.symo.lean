/-! an instruction by symbols is an instruction of the data: numbers, locals, branches -/
section SO
variable {scr : List Int32} {σ ρ : Nat → Nat} {M pc x y w : Nat} {z : Int} {k kt kf : sK}
theorem s_stp {CF : List mW} {i : Instr} {cL cL' : mL} {S S' : List Value} {cH cH' : List mC} {pc' : Nat} (hc : m_code M pc = some (i, x, y, w, z)) (h8 : ¬ w = 8) (hi : m_inv i = false) (hr : m_rts i S = none) (hex : m_ex scr M pc i x y w z cL S cH = some (pc', cL', S', cH')) (kk : m_Rn scr CF M pc' cL' S' cH') : m_Rn scr CF M pc cL S cH :=
  m_Rn.step hc h8 (by rw [hi]; intro q; cases q.2) hr hex kk
theorem O_push {v : sV} {i : Instr} {pc' : Nat} (hc : m_code M pc = some (i, x, y, w, z)) (h8 : ¬ w = 8) (hi : m_inv i = false) (hr : ∀ S, m_rts i S = none) (hex : ∀ cL S cH, m_ex scr M pc i x y w z cL S cH = some (pc', cL, sv σ ρ v :: S, cH)) (hk : s_OK scr σ ρ k M pc') : s_OK scr σ ρ (s_push v k) M pc := by
  intro L S F H E B CF cL cH h hL hF hH hE hB
  exact s_stp hc h8 hi (hr _) (hex _ _ _) (hk L (v :: S) F H E B CF cL cH h hL hF hH hE hB)
theorem v_ne0 {v : sV} (h : v_isI v ∨ v_isA v ∨ v_two v) : v ≠ v_d 0 := by
  rintro rfl
  rcases h with (⟨_, h⟩ | ⟨_, h⟩ | ⟨_, h⟩) | (⟨_, h⟩ | ⟨_, h⟩) | (⟨_, h⟩ | ⟨_, h⟩) <;> cases h
theorem O_ild {j pc' : Nat} {i : Instr} (hc : m_code M pc = some (i, x, y, w, z)) (h8 : ¬ w = 8) (hi : m_inv i = false) (hr : ∀ S, m_rts i S = none) (hex : ∀ cL S cH, m_ex scr M pc i x y w z cL S cH = m_lv m_isI j pc' cL S cH) (hk : s_OK scr σ ρ k M pc') : s_OK scr σ ρ (s_ild j k) M pc := by
  intro L S F H E B CF cL cH h hL hF hH hE hB
  obtain ⟨v, h1, h2⟩ := (kGet_iff _ _ _).mp h
  obtain ⟨h3, h4⟩ := (kIs_iff _ _).mp h2
  obtain ⟨e, he⟩ := sv_isI (σ := σ) (ρ := ρ) h3
  refine s_stp hc h8 hi (hr _) ?_ (hk L (v :: S) F H E B CF cL cH h4 hL hF hH hE hB)
  rw [hex]
  unfold m_lv
  rw [hL j v h1 (v_ne0 (Or.inl h3))]
  simp only [he, m_isI, if_true, List.map_cons]
theorem O_ald {j pc' : Nat} {i : Instr} (hc : m_code M pc = some (i, x, y, w, z)) (h8 : ¬ w = 8) (hi : m_inv i = false) (hr : ∀ S, m_rts i S = none) (hex : ∀ cL S cH, m_ex scr M pc i x y w z cL S cH = m_lv m_isA j pc' cL S cH) (hk : s_OK scr σ ρ k M pc') : s_OK scr σ ρ (s_ald j k) M pc := by
  intro L S F H E B CF cL cH h hL hF hH hE hB
  obtain ⟨v, h1, h2⟩ := (kGet_iff _ _ _).mp h
  obtain ⟨h3, h4⟩ := (kAs_iff _ _).mp h2
  obtain ⟨e, he⟩ := sv_isA (σ := σ) (ρ := ρ) h3
  refine s_stp hc h8 hi (hr _) ?_ (hk L (v :: S) F H E B CF cL cH h4 hL hF hH hE hB)
  rw [hex]
  unfold m_lv
  rw [hL j v h1 (v_ne0 (Or.inr (Or.inl h3)))]
  simp only [he, m_isA, if_true, List.map_cons]
theorem O_lld {j pc' : Nat} {i : Instr} (hc : m_code M pc = some (i, x, y, w, z)) (h8 : ¬ w = 8) (hi : m_inv i = false) (hr : ∀ S, m_rts i S = none) (hex : ∀ cL S cH, m_ex scr M pc i x y w z cL S cH = m_lv m_isL j pc' cL S cH) (hk : s_OK scr σ ρ k M pc') : s_OK scr σ ρ (s_lld j k) M pc := by
  intro L S F H E B CF cL cH h hL hF hH hE hB
  obtain ⟨v, h1, h2⟩ := (kGet_iff _ _ _).mp h
  obtain ⟨l, rfl, h4⟩ := (kLo_iff _ _).mp h2
  refine s_stp hc h8 hi (hr _) ?_ (hk L (v_l l :: S) F H E B CF cL cH h4 hL hF hH hE hB)
  rw [hex]
  unfold m_lv
  rw [hL j _ h1 (v_ne0 (Or.inr (Or.inr (Or.inl ⟨l, rfl⟩))))]
  obtain ⟨x, hx⟩ := sv_l (σ := σ) (ρ := ρ) l
  rw [List.map_cons, hx]
  rfl
theorem O_dld {j pc' : Nat} {i : Instr} (hc : m_code M pc = some (i, x, y, w, z)) (h8 : ¬ w = 8) (hi : m_inv i = false) (hr : ∀ S, m_rts i S = none) (hex : ∀ cL S cH, m_ex scr M pc i x y w z cL S cH = m_lv m_isD j pc' cL S cH) (hk : s_OK scr σ ρ k M pc') : s_OK scr σ ρ (s_dld j k) M pc := by
  intro L S F H E B CF cL cH h hL hF hH hE hB
  obtain ⟨v, h1, h2⟩ := (kGet_iff _ _ _).mp h
  obtain ⟨l, rfl, h4⟩ := (kDo_iff _ _).mp h2
  refine s_stp hc h8 hi (hr _) ?_ (hk L (v_d (l + 1) :: S) F H E B CF cL cH h4 hL hF hH hE hB)
  rw [hex]
  unfold m_lv
  rw [hL j _ h1 (v_ne0 (Or.inr (Or.inr (Or.inr ⟨l, rfl⟩))))]
  rfl
theorem O_ist {j pc' : Nat} {i : Instr} (hc : m_code M pc = some (i, x, y, w, z)) (h8 : ¬ w = 8) (hi : m_inv i = false) (hr : ∀ S, m_rts i S = none) (hex : ∀ cL S cH, m_ex scr M pc i x y w z cL S cH = m_sv1 m_isI j pc' cL S cH) (hk : s_OK scr σ ρ k M pc') : s_OK scr σ ρ (s_ist j k) M pc := by
  intro L S F H E B CF cL cH h hL hF hH hE hB
  obtain ⟨v, S, rfl, h2⟩ := (kPop_iff _ _).mp h
  obtain ⟨h3, h4⟩ := (kIs_iff _ _).mp h2
  obtain ⟨h5, h6, h7⟩ := kSl_of h4
  obtain ⟨e, he⟩ := sv_isI (σ := σ) (ρ := ρ) h3
  refine s_stp hc h8 hi (hr _) ?_ (hk (L.set j v) S F H E B CF (m_st1 j (sv σ ρ v) cL) cH h6 (hL.st1 h7) hF hH hE hB)
  rw [hex]
  simp only [List.map_cons, m_sv1, he, m_isI, if_true]
theorem O_ast {j pc' : Nat} {i : Instr} (hc : m_code M pc = some (i, x, y, w, z)) (h8 : ¬ w = 8) (hi : m_inv i = false) (hr : ∀ S, m_rts i S = none) (hex : ∀ cL S cH, m_ex scr M pc i x y w z cL S cH = m_sv1 m_isA j pc' cL S cH) (hk : s_OK scr σ ρ k M pc') : s_OK scr σ ρ (s_ast j k) M pc := by
  intro L S F H E B CF cL cH h hL hF hH hE hB
  obtain ⟨v, S, rfl, h2⟩ := (kPop_iff _ _).mp h
  obtain ⟨h3, h4⟩ := (kAs_iff _ _).mp h2
  obtain ⟨h5, h6, h7⟩ := kSl_of h4
  obtain ⟨e, he⟩ := sv_isA (σ := σ) (ρ := ρ) h3
  refine s_stp hc h8 hi (hr _) ?_ (hk (L.set j v) S F H E B CF (m_st1 j (sv σ ρ v) cL) cH h6 (hL.st1 h7) hF hH hE hB)
  rw [hex]
  simp only [List.map_cons, m_sv1, he, m_isA, if_true]
theorem O_lst {j pc' : Nat} {i : Instr} (hc : m_code M pc = some (i, x, y, w, z)) (h8 : ¬ w = 8) (hi : m_inv i = false) (hr : ∀ S, m_rts i S = none) (hex : ∀ cL S cH, m_ex scr M pc i x y w z cL S cH = m_sv2 m_isL j pc' cL S cH) (hk : s_OK scr σ ρ k M pc') : s_OK scr σ ρ (s_lst j k) M pc := by
  intro L S F H E B CF cL cH h hL hF hH hE hB
  obtain ⟨v, S, rfl, h2⟩ := (kPop_iff _ _).mp h
  obtain ⟨l, rfl, h4⟩ := (kLo_iff _ _).mp h2
  obtain ⟨h5, h6, h7⟩ := kSl_of h4
  obtain ⟨h9, h6⟩ := (kSet_iff _ _ _ _).mp h6
  refine s_stp hc h8 hi (hr _) ?_ (hk ((L.set j (v_l l)).set (j + 1) (v_d 0)) S F H E B CF (m_st2 j (sv σ ρ (v_l l)) cL) cH h6 (hL.st2 h7) hF hH hE hB)
  rw [hex]
  obtain ⟨x, hx⟩ := sv_l (σ := σ) (ρ := ρ) l
  rw [List.map_cons, hx]
  rfl
theorem O_dst {j pc' : Nat} {i : Instr} (hc : m_code M pc = some (i, x, y, w, z)) (h8 : ¬ w = 8) (hi : m_inv i = false) (hr : ∀ S, m_rts i S = none) (hex : ∀ cL S cH, m_ex scr M pc i x y w z cL S cH = m_sv2 m_isD j pc' cL S cH) (hk : s_OK scr σ ρ k M pc') : s_OK scr σ ρ (s_dst j k) M pc := by
  intro L S F H E B CF cL cH h hL hF hH hE hB
  obtain ⟨v, S, rfl, h2⟩ := (kPop_iff _ _).mp h
  obtain ⟨l, rfl, h4⟩ := (kDo_iff _ _).mp h2
  obtain ⟨h5, h6, h7⟩ := kSl_of h4
  obtain ⟨h9, h6⟩ := (kSet_iff _ _ _ _).mp h6
  refine s_stp hc h8 hi (hr _) ?_ (hk ((L.set j (v_d (l + 1))).set (j + 1) (v_d 0)) S F H E B CF (m_st2 j (sv σ ρ (v_d (l + 1))) cL) cH h6 (hL.st2 h7) hF hH hE hB)
  rw [hex]
  rfl
theorem s_bnS_of {f : sG} {L : List sV} {F : List sF} {H : sH} {E : sE} {B : sB} {v u : sV} {S : List sV} (h : s_bnS f k L (F, H, E, B) v u S = true) (hE : s_eo ρ E) : ∃ a b E', sv σ ρ u = .int (cI a) ∧ sv σ ρ v = .int (cI b) ∧ s_eo ρ E' ∧ f k L (F, H, E', B) S a b = true := by
  unfold s_bnS at h
  rw [kX_eq] at h
  obtain ⟨a, E1, h1, -, hE1, h⟩ := kRes_of (σ := σ) h hE
  obtain ⟨b, E2, h2, -, hE2, h⟩ := kRes_of (σ := σ) h hE1
  exact ⟨a, b, E2, h1, h2, hE2, h⟩
theorem s_bn2_of {f : sG} {L : List sV} {F : List sF} {H : sH} {E : sE} {B : sB} {v u : sV} {S : List sV} (h : s_bn2 f k L (F, H, E, B) v u S = true) (hE : s_eo ρ E) : ∃ a b E', sv σ ρ u = .int (cI a) ∧ sv σ ρ v = .int (cI b) ∧ s_eo ρ E' ∧ f k L (F, H, E', B) S a b = true := by
  rcases v with b | v
  · rcases u with a | u
    · exact ⟨a, b, E, rfl, rfl, hE, h⟩
    · exact s_bnS_of h hE
  · exact s_bnS_of h hE
theorem O_bin {f : sG} {i : Instr} {pc' : Nat} (hc : m_code M pc = some (i, x, y, w, z)) (h8 : ¬ w = 8) (hi : m_inv i = false) (hr : ∀ S, m_rts i S = none)
    (hf : ∀ L F H E B S a b, f k L (F, H, E, B) S a b = true → ∃ e, (∀ cL cS cH, m_ex scr M pc i x y w z cL (.int (cI b) :: .int (cI a) :: cS) cH = some (pc', cL, .int (cI e) :: cS, cH)) ∧ k L (v_i e :: S) (F, H, E, B) = true) (hk : s_OK scr σ ρ k M pc') : s_OK scr σ ρ (s_bin f k) M pc := by
  intro L S F H E B CF cL cH h hL hF hH hE hB
  obtain ⟨v, u, S, rfl, h2⟩ := (kPp_iff _ _).mp h
  obtain ⟨a, b, E', h3, h4, hE', h5⟩ := s_bn2_of (σ := σ) h2 hE
  obtain ⟨e, he, h6⟩ := hf _ _ _ _ _ _ _ _ h5
  refine s_stp hc h8 hi (hr _) ?_ (hk L (v_i e :: S) F H E' B CF cL cH h6 hL hF hH hE' hB)
  simp only [List.map_cons, h3, h4]
  exact he _ _ _
theorem O_add (hc : m_code M pc = some (.iadd, x, y, w, z)) (h8 : ¬ w = 8) (hk : s_OK scr σ ρ k M (pc + 1)) : s_OK scr σ ρ (s_add k) M pc := by
  intro L S F H E B CF cL cH h hL hF hH hE hB
  obtain ⟨v, u, S, rfl, h2⟩ := (kPp_iff _ _).mp h
  have fin : ∀ a b E', sv σ ρ u = .int (cI a) → sv σ ρ v = .int (cI b) → s_eo ρ E' → s_add3 k L (F, H, E', B) S a b = true → m_Rn scr CF M pc cL ((v :: u :: S).map (sv σ ρ)) cH := by
    intro a b E' h3 h4 hE' h5
    unfold s_add3 at h5
    rw [kFrc_eq] at h5
    refine s_stp hc h8 rfl rfl ?_ (hk L _ F H E' B CF cL cH h5 hL hF hH hE' hB)
    simp only [List.map_cons, h3, h4]
    show some (pc + 1, cL, Value.int (cI a + cI b) :: _, cH) = some (pc + 1, cL, Value.int (cI ((a + b + 2147483648) % 4294967296)) :: _, cH)
    rw [cI_mod, cI_add]
  have slow : s_addS k L (F, H, E, B) v u S = true → m_Rn scr CF M pc cL ((v :: u :: S).map (sv σ ρ)) cH := by
    intro h
    unfold s_addS at h
    obtain ⟨hu, h⟩ := (kIs_iff _ _).mp h
    obtain ⟨hv, h⟩ := (kIs_iff _ _).mp h
    obtain ⟨eu, heu⟩ := sv_isI (σ := σ) (ρ := ρ) hu
    obtain ⟨ev, hev⟩ := sv_isI (σ := σ) (ρ := ρ) hv
    rcases (kZ_iff _ _ _).mp h with ⟨rfl, h⟩ | ⟨-, h⟩
    · refine s_stp hc h8 rfl rfl ?_ (hk L (v :: S) F H E B CF cL cH h hL hF hH hE hB)
      simp only [List.map_cons, hev]
      show some (pc + 1, cL, Value.int (cI 2147483648 + ev) :: _, cH) = some (pc + 1, cL, Value.int ev :: _, cH)
      rw [cI_zero, Int32.zero_add]
    · rcases (kZ_iff _ _ _).mp h with ⟨rfl, h⟩ | ⟨-, h⟩
      · refine s_stp hc h8 rfl rfl ?_ (hk L (u :: S) F H E B CF cL cH h hL hF hH hE hB)
        simp only [List.map_cons, heu]
        show some (pc + 1, cL, Value.int (eu + cI 2147483648) :: _, cH) = some (pc + 1, cL, Value.int eu :: _, cH)
        rw [cI_zero, Int32.add_zero]
      · obtain ⟨a, b', E', h6, h7, hE', h8'⟩ := s_bnS_of (σ := σ) h hE
        exact fin a b' E' h6 h7 hE' h8'
  rcases v with b | v
  · rcases u with a | u
    · exact fin a b E rfl rfl hE h2
    · exact slow h2
  · exact slow h2
theorem s_sub3_of {L : List sV} {F : List sF} {H : sH} {E : sE} {B : sB} {S : List sV} {a b : Nat} (h : s_sub3 k L (F, H, E, B) S a b = true) : ∃ e, cI e = cI a - cI b ∧ k L (v_i e :: S) (F, H, E, B) = true := by
  unfold s_sub3 at h
  rw [kB_f, kFrc_eq, Nat.ble_eq] at h
  refine ⟨_, ?_, h.2⟩
  show cI ((a + 6442450944 - b) % 4294967296) = _
  rw [cI_mod, cI_sub (by omega)]
theorem O_sub (hc : m_code M pc = some (.isub, x, y, w, z)) (h8 : ¬ w = 8) (hk : s_OK scr σ ρ k M (pc + 1)) : s_OK scr σ ρ (s_sub k) M pc := by
  intro L S F H E B CF cL cH h hL hF hH hE hB
  obtain ⟨v, u, S, rfl, h2⟩ := (kPp_iff _ _).mp h
  have fin : ∀ a b E', sv σ ρ u = .int (cI a) → sv σ ρ v = .int (cI b) → s_eo ρ E' → s_sub3 k L (F, H, E', B) S a b = true → m_Rn scr CF M pc cL ((v :: u :: S).map (sv σ ρ)) cH := by
    intro a b E' h3 h4 hE' h5
    obtain ⟨e, he, h6⟩ := s_sub3_of h5
    refine s_stp hc h8 rfl rfl ?_ (hk L (v_i e :: S) F H E' B CF cL cH h6 hL hF hH hE' hB)
    simp only [List.map_cons, h3, h4]
    show some (pc + 1, cL, Value.int (cI a - cI b) :: _, cH) = some (pc + 1, cL, Value.int (cI e) :: _, cH)
    rw [he]
  rcases v with b | v
  · obtain ⟨a, b', E', h3, h4, hE', h5⟩ := s_bn2_of (σ := σ) (h2 : s_bn2 s_sub3 k L (F, H, E, B) (.inl b) u S = true) hE
    exact fin a b' E' h3 h4 hE' h5
  · have h2' : s_sub2 k L (F, H, E, B) (.inr v) u S = true := h2
    unfold s_sub2 at h2'
    rw [kX_eq] at h2'
    obtain ⟨e, h3, h4, h5⟩ := kNm_of (σ := σ) h2' hE
    rcases h5 with h5 | ⟨j, lo, hi, ex, hv, rfl, -, -, -, -, h5⟩
    · obtain ⟨a, b', E', h6, h7, hE', h8'⟩ := s_bnS_of (σ := σ) h5 hE
      exact fin a b' E' h6 h7 hE' h8'
    · obtain ⟨a, rfl, h6⟩ := (kI_iff _ _).mp h5
      rw [kB_f, kFrc_eq, Nat.ble_eq] at h6
      obtain ⟨hj, h6⟩ := h6
      refine s_stp hc h8 rfl rfl ?_ (hk L (v_x (a * 16 + j) :: S) F H E B CF cL cH h6 hL hF hH hE hB)
      have e1 : (a * 16 + j) / 16 = a := by omega
      have e2 : (a * 16 + j) % 16 = j := by omega
      simp only [List.map_cons, h3]
      show some (pc + 1, cL, Value.int (cI a - cI (ρ j)) :: _, cH) = some (pc + 1, cL, Value.int (cI ((a * 16 + j) / 16) - cI (ρ ((a * 16 + j) % 16))) :: _, cH)
      rw [e1, e2]
theorem O_mul (hc : m_code M pc = some (.imul, x, y, w, z)) (h8 : ¬ w = 8) (hk : s_OK scr σ ρ k M (pc + 1)) : s_OK scr σ ρ (s_mul k) M pc := by
  intro L S F H E B CF cL cH h hL hF hH hE hB
  obtain ⟨v, u, S, rfl, h2⟩ := (kPp_iff _ _).mp h
  have fin : ∀ a b E', sv σ ρ u = .int (cI a) → sv σ ρ v = .int (cI b) → s_eo ρ E' → s_mul3 k L (F, H, E', B) S a b = true → m_Rn scr CF M pc cL ((v :: u :: S).map (sv σ ρ)) cH := by
    intro a b E' h3 h4 hE' h5
    unfold s_mul3 at h5
    rw [kFrc_eq] at h5
    refine s_stp hc h8 rfl rfl ?_ (hk L _ F H E' B CF cL cH h5 hL hF hH hE' hB)
    simp only [List.map_cons, h3, h4]
    show some (pc + 1, cL, Value.int (cI a * cI b) :: _, cH) = some (pc + 1, cL, Value.int (cI (((a + 2147483648) * (b + 2147483648) + 2147483648) % 4294967296)) :: _, cH)
    rw [cI_mod, cI_mul]
  have slow : s_mulS k L (F, H, E, B) v u S = true → m_Rn scr CF M pc cL ((v :: u :: S).map (sv σ ρ)) cH := by
    intro h
    unfold s_mulS at h
    obtain ⟨hu, h⟩ := (kIs_iff _ _).mp h
    obtain ⟨hv, h⟩ := (kIs_iff _ _).mp h
    obtain ⟨eu, heu⟩ := sv_isI (σ := σ) (ρ := ρ) hu
    obtain ⟨ev, hev⟩ := sv_isI (σ := σ) (ρ := ρ) hv
    rcases (kZ_iff _ _ _).mp h with ⟨rfl, h⟩ | ⟨-, h⟩
    · refine s_stp hc h8 rfl rfl ?_ (hk L (v_i 2147483648 :: S) F H E B CF cL cH h hL hF hH hE hB)
      simp only [List.map_cons, hev]
      show some (pc + 1, cL, Value.int (cI 2147483648 * ev) :: _, cH) = some (pc + 1, cL, Value.int (cI 2147483648) :: _, cH)
      rw [cI_zero, Int32.zero_mul]
    · rcases (kZ_iff _ _ _).mp h with ⟨rfl, h⟩ | ⟨-, h⟩
      · refine s_stp hc h8 rfl rfl ?_ (hk L (v_i 2147483648 :: S) F H E B CF cL cH h hL hF hH hE hB)
        simp only [List.map_cons, heu]
        show some (pc + 1, cL, Value.int (eu * cI 2147483648) :: _, cH) = some (pc + 1, cL, Value.int (cI 2147483648) :: _, cH)
        rw [cI_zero, Int32.mul_zero]
      · obtain ⟨a, b', E', h6, h7, hE', h8'⟩ := s_bnS_of (σ := σ) h hE
        exact fin a b' E' h6 h7 hE' h8'
  rcases v with b | v
  · rcases u with a | u
    · exact fin a b E rfl rfl hE h2
    · exact slow h2
  · exact slow h2
theorem cI_div {a b : Nat} (ha : a < 4294967296) (hb : b < 4294967296) (h1 : 2147483649 ≤ b) : cI a / cI b = cI (if 2147483648 ≤ a then (a - 2147483648) / (b - 2147483648) + 2147483648 else 2147483648 - (2147483648 - a) / (b - 2147483648)) := by
  have hr : ∀ q : Nat, q < 4294967296 → ((q : Int) - 2147483648).bmod Int32.size = (q : Int) - 2147483648 := fun q hq => by
    have := cI_toInt hq
    unfold cI at this
    rwa [Int32.toInt_ofInt] at this
  rw [← Int32.toInt_inj, Int32.toInt_div, cI_toInt ha, cI_toInt hb]
  have e0 : ((b : Int) - 2147483648) = ((b - 2147483648 : Nat) : Int) := by omega
  by_cases h : 2147483648 ≤ a
  · rw [if_pos h]
    have e1 : ((a : Int) - 2147483648) = ((a - 2147483648 : Nat) : Int) := by omega
    have h3 : (a - 2147483648) / (b - 2147483648) ≤ a - 2147483648 := Nat.div_le_self _ _
    rw [cI_toInt (by omega), e1, e0]
    have e2 : Int.tdiv ((a - 2147483648 : Nat) : Int) ((b - 2147483648 : Nat) : Int) = (((a - 2147483648) / (b - 2147483648) : Nat) : Int) := rfl
    rw [e2]
    have e3 := hr ((a - 2147483648) / (b - 2147483648) + 2147483648) (by omega)
    have e4 : ((((a - 2147483648) / (b - 2147483648) + 2147483648 : Nat) : Int) - 2147483648) = (((a - 2147483648) / (b - 2147483648) : Nat) : Int) := by omega
    rw [e4] at e3
    rw [e4]
    exact e3
  · rw [if_neg h]
    have e1 : ((a : Int) - 2147483648) = -((2147483648 - a : Nat) : Int) := by omega
    have h3 : (2147483648 - a) / (b - 2147483648) ≤ 2147483648 - a := Nat.div_le_self _ _
    have e2 : Int.tdiv ((2147483648 - a : Nat) : Int) ((b - 2147483648 : Nat) : Int) = (((2147483648 - a) / (b - 2147483648) : Nat) : Int) := rfl
    rw [e1, e0, Int.neg_tdiv, e2]
    generalize hq : (2147483648 - a) / (b - 2147483648) = q at h3 ⊢
    rw [cI_toInt (show 2147483648 - q < 4294967296 by omega)]
    have e3 := hr (2147483648 - q) (by omega)
    have e4 : (((2147483648 - q : Nat) : Int) - 2147483648) = -((q : Nat) : Int) := by omega
    rw [e4] at e3
    rw [e4]
    exact e3
theorem O_div (hc : m_code M pc = some (.idiv, x, y, w, z)) (h8 : ¬ w = 8) (hk : s_OK scr σ ρ k M (pc + 1)) : s_OK scr σ ρ (s_div k) M pc :=
  O_bin hc h8 rfl (fun _ => rfl) (fun L F H E B S a b h => by
    unfold s_div3 at h
    rw [kB_f, kB_f, kB_f, Nat.ble_eq, Nat.ble_eq, Nat.ble_eq, kB_iff, kFrc_eq, kFrc_eq] at h
    obtain ⟨h1, h2, h3, h⟩ := h
    have hne : ¬ cI b = 0 := by rw [← cI_zero, cI_inj (by omega) (by decide)]; omega
    have hd := cI_div (a := a) (b := b) (by omega) (by omega) h1
    rcases h with ⟨h4, h⟩ | ⟨h4, h⟩
    · refine ⟨_, fun cL cS cH => ?_, h⟩
      rw [if_pos (Nat.ble_eq.mp h4)] at hd
      simp only [m_ex, m_d2]
      rw [if_neg hne]
      rw [hd]; rfl
    · refine ⟨_, fun cL cS cH => ?_, h⟩
      rw [if_neg (by intro q; rw [Nat.ble_eq.mpr q] at h4; cases h4)] at hd
      simp only [m_ex, m_d2]
      rw [if_neg hne]
      rw [hd]; rfl) hk
theorem O_rem (hc : m_code M pc = some (.irem, x, y, w, z)) (h8 : ¬ w = 8) (hk : s_OK scr σ ρ k M (pc + 1)) : s_OK scr σ ρ (s_rem k) M pc :=
  O_bin hc h8 rfl (fun _ => rfl) (fun L F H E B S a b h => by
    unfold s_rem3 at h
    rw [kB_f, kB_f, kB_f, Nat.ble_eq, Nat.ble_eq, Nat.ble_eq, kB_iff, kFrc_eq, kFrc_eq] at h
    obtain ⟨h1, h2, h3, h⟩ := h
    have hne : ¬ cI b = 0 := by rw [← cI_zero, cI_inj (by omega) (by decide)]; omega
    have hd := cI_div (a := a) (b := b) (by omega) (by omega) h1
    have key : ∀ e : Nat, ((e : Int) - 2147483648 = ((a : Int) - 2147483648) - ((b : Int) - 2147483648) * (((if 2147483648 ≤ a then (a - 2147483648) / (b - 2147483648) + 2147483648 else 2147483648 - (2147483648 - a) / (b - 2147483648) : Nat) : Int) - 2147483648)) → cI e = cI a - cI a / cI b * cI b := by
      intro e he
      rw [hd]
      unfold cI
      rw [← Int32.ofInt_mul, ← Int32.ofInt_sub, he, Int.mul_comm]
    rcases h with ⟨h4, h⟩ | ⟨h4, h⟩
    · refine ⟨_, fun cL cS cH => ?_, h⟩
      have h4' := Nat.ble_eq.mp h4
      have hk := key ((a - 2147483648) % (b - 2147483648) + 2147483648) (by
        rw [if_pos h4']
        have := Nat.div_add_mod (a - 2147483648) (b - 2147483648)
        have e1 : (((a - 2147483648) / (b - 2147483648) + 2147483648 : Nat) : Int) - 2147483648 = (((a - 2147483648) / (b - 2147483648) : Nat) : Int) := by omega
        rw [e1]
        have e2 : ((b : Int) - 2147483648) = ((b - 2147483648 : Nat) : Int) := by omega
        rw [e2, ← Int.natCast_mul]
        omega)
      simp only [m_ex, m_d2]
      rw [if_neg hne]
      rw [← hk]; rfl
    · refine ⟨_, fun cL cS cH => ?_, h⟩
      have h4' : ¬ 2147483648 ≤ a := by intro q; rw [Nat.ble_eq.mpr q] at h4; cases h4
      have hk := key (2147483648 - (2147483648 - a) % (b - 2147483648)) (by
        rw [if_neg h4']
        have := Nat.div_add_mod (2147483648 - a) (b - 2147483648)
        have h5 : (2147483648 - a) / (b - 2147483648) ≤ 2147483648 - a := Nat.div_le_self _ _
        have h6 : (2147483648 - a) % (b - 2147483648) ≤ 2147483648 - a := Nat.mod_le _ _
        have e1 : ((2147483648 - (2147483648 - a) / (b - 2147483648) : Nat) : Int) - 2147483648 = -(((2147483648 - a) / (b - 2147483648) : Nat) : Int) := by omega
        rw [e1, Int.mul_neg]
        have e2 : ((b : Int) - 2147483648) = ((b - 2147483648 : Nat) : Int) := by omega
        rw [e2, ← Int.natCast_mul]
        omega)
      simp only [m_ex, m_d2]
      rw [if_neg hne]
      rw [← hk]; rfl) hk
theorem O_and (hc : m_code M pc = some (.iand, x, y, w, z)) (h8 : ¬ w = 8) (hk : s_OK scr σ ρ k M (pc + 1)) : s_OK scr σ ρ (s_and k) M pc :=
  O_bin hc h8 rfl (fun _ => rfl) (fun L F H E B S a b h => by
    unfold s_and3 at h
    rw [kB_iff] at h
    rcases h with ⟨h1, h⟩ | ⟨-, h⟩
    · have := Nat.beq_eq.mp h1; subst this
      rw [kB_f, kB_iff] at h
      obtain ⟨h2, h⟩ := h
      have hb : b = 2147483648 ∨ b = 2147483649 := by
        rcases h2 with ⟨h2, -⟩ | ⟨-, h2⟩
        · exact Or.inl (Nat.beq_eq.mp h2)
        · exact Or.inr (Nat.beq_eq.mp h2)
      refine ⟨2147483648, fun cL cS cH => ?_, h⟩
      show some (pc + 1, cL, Value.int (cI 2147483648 &&& cI b) :: cS, cH) = _
      rcases hb with rfl | rfl <;> rfl
    · rw [kB_f] at h
      obtain ⟨h1, h⟩ := h
      have := Nat.beq_eq.mp h1; subst this
      rw [kB_iff, kB_f] at h
      rcases h with ⟨h2, h⟩ | ⟨-, h2, h⟩
      · have := Nat.beq_eq.mp h2; subst this
        exact ⟨2147483648, fun cL cS cH => rfl, h⟩
      · have := Nat.beq_eq.mp h2; subst this
        exact ⟨2147483649, fun cL cS cH => rfl, h⟩) hk
theorem O_shr (hc : m_code M pc = some (.ishr, x, y, w, z)) (h8 : ¬ w = 8) (hk : s_OK scr σ ρ k M (pc + 1)) : s_OK scr σ ρ (s_shr k) M pc :=
  O_bin hc h8 rfl (fun _ => rfl) (fun L F H E B S a b h => by
    unfold s_shr3 at h
    rw [kB_f, kB_f, kB_f, kFrc_eq, Nat.ble_eq, Nat.ble_eq] at h
    obtain ⟨h1, h2, h3, h⟩ := h
    have := Nat.beq_eq.mp h1; subst this
    refine ⟨_, fun cL cS cH => ?_, h⟩
    show some (pc + 1, cL, Value.int (cI a >>> (cI 2147483649 &&& 31)) :: cS, cH) = some (pc + 1, cL, Value.int (cI ((a - 2147483648) / 2 + 2147483648)) :: cS, cH)
    have e1 : (cI 2147483649 &&& 31) = 1 := by decide
    have e3 : cI a >>> (1 : Int32) = cI ((a - 2147483648) / 2 + 2147483648) := by
      have e4 : (cI a >>> (1 : Int32)).toInt = (cI a).toInt >>> 1 := by
        show (cI a >>> (1 : Int32)).toBitVec.toInt = _
        rw [Int32.toBitVec_shiftRight, BitVec.sshiftRight', BitVec.toInt_sshiftRight]
        rfl
      rw [← Int32.toInt_inj, e4, cI_toInt (by omega), cI_toInt (by omega)]
      rw [show ((a : Int) - 2147483648) = ((a - 2147483648 : Nat) : Int) by omega]
      rw [Int.shiftRight_eq_div_pow]
      omega
    rw [e1, e3]) hk
end SO
