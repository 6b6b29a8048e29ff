/-! an instruction by symbols is an instruction of the data: least and greatest, the copy of a row, calls, returns, throws -/
section SO5
variable {scr : List Int32} {σ ρ : Nat → Nat} {M pc x y w : Nat} {z : Int} {k kt kf : sK}
theorem O_mm {m n : Nat} (hm : (m = 0 ∧ w = 3) ∨ (m = 1 ∧ w = 4)) (hc : m_code M pc = some (.invokestatic n, x, y, w, z)) (hk : s_OK scr σ ρ k M (pc + 3)) : s_OK scr σ ρ (s_mm m k) M pc := by
  intro L S F H E B CF cL cH h hL hF hH hE hB
  obtain ⟨v, u, S, rfl, h2⟩ := (kPp_iff _ _).mp h
  obtain ⟨hcat, h3⟩ := s_ct (σ := σ) (ρ := ρ) h2
  have fin : ∀ (a b : Nat) (t : sV) (E' : sE), sv σ ρ u = .int (cI a) → sv σ ρ v = .int (cI b) → a < 4294967296 → b < 4294967296 → s_eo ρ E' → k L (t :: S) (F, H, E', B) = true → ((b ≤ a ∧ sv σ ρ t = .int (cI (if m = 0 then a else b))) ∨ (a ≤ b ∧ sv σ ρ t = .int (cI (if m = 0 then b else a)))) → m_Rn scr CF M pc cL ((v :: u :: S).map (sv σ ρ)) cH := by
    intro a b t E' hu hv ha hb hE' hkt ht
    refine s_stl hc (by omega) rfl ?_ (hk L (t :: S) F H E' B CF cL cH hkt hL hF hH hE' hB)
    simp only [List.map_cons, hu, hv]
    show m_math w pc cL _ cH = _
    unfold m_math
    rcases hm with ⟨rfl, rfl⟩ | ⟨rfl, rfl⟩
    · rw [if_pos rfl]
      dsimp only
      rw [if_pos hcat]
      rcases ht with ⟨h4, h5⟩ | ⟨h4, h5⟩
      · have h5' : sv σ ρ t = .int (cI a) := h5
        rw [h5', if_neg (by rw [cI_lt ha hb]; omega)]
      · have h5' : sv σ ρ t = .int (cI b) := h5
        rw [h5']
        by_cases q : a = b
        · subst q; rw [if_neg (by rw [cI_lt ha hb]; omega)]
        · rw [if_pos (by rw [cI_lt ha hb]; omega)]
    · rw [if_neg (by decide), if_pos rfl]
      dsimp only
      rw [if_pos hcat]
      rcases ht with ⟨h4, h5⟩ | ⟨h4, h5⟩
      · have h5' : sv σ ρ t = .int (cI b) := h5
        rw [h5']
        by_cases q : a = b
        · subst q; rw [if_neg (by rw [cI_lt ha hb]; omega)]
        · rw [if_pos (by rw [cI_lt hb ha]; omega)]
      · have h5' : sv σ ρ t = .int (cI a) := h5
        rw [h5', if_neg (by rw [cI_lt hb ha]; omega)]
  have m01 : m = 0 ∨ m = 1 := by omega
  have slow : s_mmS m k L (F, H, E, B) v u S = true → m_Rn scr CF M pc cL ((v :: u :: S).map (sv σ ρ)) cH := by
    intro h4
    unfold s_mmS at h4
    rw [kX_eq, kIs_iff, kIs_iff] at h4
    obtain ⟨hu, hv, h4⟩ := h4
    obtain ⟨a, lo, hi, h5, h6, h7, h8, h9⟩ := kRg_of (σ := σ) h4 hE
    obtain ⟨b, lo', hi', h10, h11, h12, h13, h14⟩ := kRg_of (σ := σ) h9 hE
    rw [kB_iff, kB_iff] at h14
    rcases h14 with ⟨h15, h16⟩ | ⟨-, ⟨h15, h16⟩ | ⟨-, h16⟩⟩
    · have h15' : hi' ≤ lo := Nat.ble_eq.mp h15
      rcases m01 with rfl | rfl
      · exact fin a b u E h5 h10 h6 h11 hE h16 (Or.inl ⟨by omega, h5⟩)
      · exact fin a b v E h5 h10 h6 h11 hE h16 (Or.inl ⟨by omega, h10⟩)
    · have h15' : hi ≤ lo' := Nat.ble_eq.mp h15
      rcases m01 with rfl | rfl
      · exact fin a b v E h5 h10 h6 h11 hE h16 (Or.inr ⟨by omega, h10⟩)
      · exact fin a b u E h5 h10 h6 h11 hE h16 (Or.inr ⟨by omega, h5⟩)
    · obtain ⟨a', E1, i5, i6, hE1, i7⟩ := kRes_of (σ := σ) h16 hE
      obtain ⟨b', E2, i8, i9, hE2, i10⟩ := kRes_of (σ := σ) i7 hE1
      rw [kB_iff] at i10
      rcases i10 with ⟨i11, i12⟩ | ⟨i11, i12⟩
      · have i11' := Nat.ble_eq.mp i11
        rcases m01 with rfl | rfl
        · exact fin a' b' (v_i a') E2 i5 i8 i6 i9 hE2 i12 (Or.inl ⟨i11', rfl⟩)
        · exact fin a' b' (v_i b') E2 i5 i8 i6 i9 hE2 i12 (Or.inl ⟨i11', rfl⟩)
      · have i11' : ¬ b' ≤ a' := fun q => by rw [Nat.ble_eq.mpr q] at i11; cases i11
        rcases m01 with rfl | rfl
        · exact fin a' b' (v_i b') E2 i5 i8 i6 i9 hE2 i12 (Or.inr ⟨by omega, rfl⟩)
        · exact fin a' b' (v_i a') E2 i5 i8 i6 i9 hE2 i12 (Or.inr ⟨by omega, rfl⟩)
  rcases v with b | v
  · rcases u with a | u
    · have h3' : s_mm3 m k L (F, H, E, B) S a b = true := h3
      unfold s_mm3 at h3'
      rw [kB_f, kB_f, kB_iff, Nat.ble_eq, Nat.ble_eq] at h3'
      obtain ⟨h4, h5, h6⟩ := h3'
      rcases h6 with ⟨h11, h12⟩ | ⟨h11, h12⟩
      · have h11' := Nat.ble_eq.mp h11
        rcases m01 with rfl | rfl
        · exact fin a b (v_i a) E rfl rfl (by omega) (by omega) hE h12 (Or.inl ⟨h11', rfl⟩)
        · exact fin a b (v_i b) E rfl rfl (by omega) (by omega) hE h12 (Or.inl ⟨h11', rfl⟩)
      · have h11' : ¬ b ≤ a := fun q => by rw [Nat.ble_eq.mpr q] at h11; cases h11
        rcases m01 with rfl | rfl
        · exact fin a b (v_i b) E rfl rfl (by omega) (by omega) hE h12 (Or.inr ⟨by omega, rfl⟩)
        · exact fin a b (v_i a) E rfl rfl (by omega) (by omega) hE h12 (Or.inr ⟨by omega, rfl⟩)
    · exact slow h3
  · exact slow h3
/-! the copy of a row -/
theorem kCpl_of : ∀ {n : Nat} {f t : List sV} {kk : List sV → Bool}, kCpl n f t kk = true → n ≤ f.length ∧ n ≤ t.length ∧ kk (f.take n ++ t.drop n) = true
  | 0, f, t, kk, h => ⟨Nat.zero_le _, Nat.zero_le _, h⟩
  | n + 1, f, t, kk, h => by
    have h' : kPop f (fun a f => kPop t (fun _ t => kCpl n f t (fun r => kk (a :: r)))) = true := h
    obtain ⟨a, f, rfl, h2⟩ := (kPop_iff _ _).mp h'
    obtain ⟨b, t, rfl, h3⟩ := (kPop_iff _ _).mp h2
    obtain ⟨h4, h5, h6⟩ := kCpl_of h3
    exact ⟨by simp; omega, by simp; omega, h6⟩
theorem g2_lo {c : List sV} {T : List (List sV)} {j : Nat} (h : j < 16) : g2 (c :: T) j = c[j]? := by
  unfold g2
  rw [show j / 16 = 0 by omega, show j % 16 = j by omega]
  rfl
theorem g2_hi {c : List sV} {T : List (List sV)} {j : Nat} (h : 16 ≤ j) : g2 (c :: T) j = g2 T (j - 16) := by
  unfold g2
  obtain ⟨i, hi⟩ : ∃ i, j / 16 = i + 1 := ⟨j / 16 - 1, by omega⟩
  rw [hi, show (j - 16) / 16 = i by omega, show (j - 16) % 16 = j % 16 by omega]
  rfl
theorem row_cp {n j : Nat} {a b : List sV} (ha : n ≤ a.length) : (a.take n ++ b.drop n)[j]? = if j < n then a[j]? else b[j]? := by
  by_cases h : j < n
  · rw [if_pos h, List.getElem?_append_left (by simp; omega), List.getElem?_take_of_lt h]
  · rw [if_neg h, List.getElem?_append_right (by simp; omega), List.getElem?_drop]
    congr 1
    simp
    omega
theorem kCp_of : ∀ {q r : Nat} {f t : List (List sV)} {kk : List (List sV) → Bool}, r < 16 → kCp q r f t kk = true → ∃ T, kk T = true ∧ ∀ j, g2 T j = if j < 16 * q + r then g2 f j else g2 t j
  | 0, r, f, t, kk, hr, h => by
    rcases r with _ | r
    · exact ⟨t, h, fun j => by rw [if_neg (by omega)]⟩
    · have h' : kPop f (fun a _ => kPop t (fun b t => kCpl (r + 1) a b (fun c => kk (c :: t)))) = true := h
      obtain ⟨a, f, rfl, h2⟩ := (kPop_iff _ _).mp h'
      obtain ⟨b, t, rfl, h3⟩ := (kPop_iff _ _).mp h2
      obtain ⟨h4, h5, h6⟩ := kCpl_of h3
      refine ⟨_, h6, fun j => ?_⟩
      by_cases hj : j < 16
      · rw [g2_lo hj, g2_lo hj, g2_lo hj, row_cp h4]
        by_cases h9 : j < r + 1
        · rw [if_pos h9, if_pos (by omega)]
        · rw [if_neg h9, if_neg (by omega)]
      · rw [g2_hi (by omega), g2_hi (c := b) (by omega), if_neg (by omega)]
  | q + 1, r, f, t, kk, hr, h => by
    have h' : kPop f (fun a f => kPop t (fun b t => kCpl 16 a b (fun c => kCp q r f t (fun r => kk (c :: r))))) = true := h
    obtain ⟨a, f, rfl, h2⟩ := (kPop_iff _ _).mp h'
    obtain ⟨b, t, rfl, h3⟩ := (kPop_iff _ _).mp h2
    obtain ⟨h4, h5, h6⟩ := kCpl_of h3
    obtain ⟨T, h7, h9⟩ := kCp_of hr h6
    refine ⟨_, h7, fun j => ?_⟩
    by_cases hj : j < 16
    · rw [g2_lo hj, g2_lo hj, row_cp h4, if_pos hj, if_pos (by omega)]
    · rw [g2_hi (by omega), g2_hi (by omega), g2_hi (c := b) (by omega), h9]
      by_cases h10 : j - 16 < 16 * q + r
      · rw [if_pos h10, if_pos (by omega)]
      · rw [if_neg h10, if_neg (by omega)]
theorem kBxl_of : ∀ {n : Nat} {f : List sV} {b : Bool}, kBxl n f b = true → b = true ∧ ∀ j, j < n → ∃ p, f[j]? = some (v_p p) ∧ 5 ≤ p ∧ p ≤ 260
  | 0, f, b, h => ⟨h, fun j hj => by omega⟩
  | n + 1, f, b, h => by
    have h' : kPop f (fun a f => kA a (fun _ => false) (fun p => kBx p (kBxl n f b))) = true := h
    obtain ⟨a, f, rfl, h2⟩ := (kPop_iff _ _).mp h'
    rcases (kA_iff _ _ _).mp h2 with ⟨r, rfl, h4⟩ | ⟨p, rfl, h4⟩
    · cases h4
    · rw [kBx_iff] at h4
      obtain ⟨h5, h6⟩ := kBxl_of h4.2
      refine ⟨h5, fun j hj => ?_⟩
      cases j with
      | zero => exact ⟨p, rfl, h4.1⟩
      | succ j => exact h6 j (by omega)
theorem kBxs_of : ∀ {q r : Nat} {f : List (List sV)} {b : Bool}, r < 16 → kBxs q r f b = true → b = true ∧ ∀ j, j < 16 * q + r → ∃ p, g2 f j = some (v_p p) ∧ 5 ≤ p ∧ p ≤ 260
  | 0, r, f, b, hr, h => by
    rcases r with _ | r
    · exact ⟨h, fun j hj => by omega⟩
    · have h' : kPop f (fun a _ => kBxl (r + 1) a b) = true := h
      obtain ⟨a, f, rfl, h2⟩ := (kPop_iff _ _).mp h'
      obtain ⟨h3, h4⟩ := kBxl_of h2
      refine ⟨h3, fun j hj => ?_⟩
      rw [g2_lo (by omega)]
      exact h4 j (by omega)
  | q + 1, r, f, b, hr, h => by
    have h' : kPop f (fun a f => kBxl 16 a (kBxs q r f b)) = true := h
    obtain ⟨a, f, rfl, h2⟩ := (kPop_iff _ _).mp h'
    obtain ⟨h3, h4⟩ := kBxl_of h2
    obtain ⟨h5, h6⟩ := kBxs_of hr h3
    refine ⟨h5, fun j hj => ?_⟩
    by_cases hq : j < 16
    · rw [g2_lo hq]; exact h4 j hq
    · rw [g2_hi (by omega)]; exact h6 _ (by omega)
theorem O_cpy (hσ : s_in σ) {n : Nat} (hc : m_code M pc = some (.invokestatic n, x, y, 6, z)) (hk : s_OK scr σ ρ k M (pc + 3)) : s_OK scr σ ρ (s_cpy k) M pc := by
  intro L S0 F H E B CF cL cH h hL hF hH hE hB
  obtain ⟨vn, vd, o, S1, rfl, h2⟩ := (kP3_iff _ _).mp h
  obtain ⟨vs, o0, S, rfl, h3⟩ := (kPp_iff _ _).mp h2
  obtain ⟨hcat, h4⟩ := s_ct (σ := σ) (ρ := ρ) h3
  rcases (kZ_iff _ _ _).mp h4 with ⟨rfl, h5⟩ | ⟨-, h5⟩
  rotate_left
  · cases h5
  rcases (kZ_iff _ _ _).mp h5 with ⟨rfl, h6⟩ | ⟨-, h6⟩
  rotate_left
  · cases h6
  rw [kX_eq] at h6
  obtain ⟨e, E', hvn, he, hE', h7⟩ := kRes_of (σ := σ) h6 hE
  rcases (kA_iff _ _ _).mp h7 with ⟨r0, rfl, h8⟩ | ⟨p, rfl, h8⟩
  rotate_left
  · cases h8
  rcases (kA_iff _ _ _).mp h8 with ⟨r, rfl, h9⟩ | ⟨p, rfl, h9⟩
  rotate_left
  · cases h9
  obtain ⟨c0, hc0, h10⟩ := (kH_iff _ _ _).mp h9
  obtain ⟨c, hc1, h11⟩ := (kH_iff _ _ _).mp h10
  have hcr0 := hH r0 c0 hc0
  have hcr := hH r c hc1
  unfold s_cpy3 at h11
  rcases (kC_iff _ _ _ _).mp h11 with ⟨t0, n0, T0, rfl, h12⟩ | ⟨ci, fs, rfl, h12⟩ | ⟨u, nn, es, rfl, h12⟩
  rotate_left
  · cases h12
  · cases h12
  rcases (kC_iff _ _ _ _).mp h12 with ⟨t, n1, T, rfl, h13⟩ | ⟨ci, fs, rfl, h13⟩ | ⟨u, nn, es, rfl, h13⟩
  rotate_left
  · cases h13
  · cases h13
  rw [kB_f] at h13
  obtain ⟨h14, h13⟩ := h13
  have := Nat.beq_eq.mp h14; subst this
  rw [kIx_iff] at h13
  obtain ⟨h15, h16, h17⟩ := h13
  rw [kB_f, Nat.ble_eq] at h17
  obtain ⟨h18, h17⟩ := h17
  obtain ⟨hn0, vs0, hg0, hl0, hv0⟩ := hcr0
  obtain ⟨hn1, vs1, hg1, hl1, hv1⟩ := hcr
  have hle0 : e - 2147483648 ≤ n0 := by have h16' : e - 2147483648 < n0 + 1 := h16; omega
  have main : (t0 = 0 ∨ (t0 = 6 ∧ m_bxs vs0 0 (e - 2147483648) = true)) → kCp (Nat.div (e - 2147483648) 16) (Nat.mod (e - 2147483648) 16) T0 T (fun T => kHs H r (.inl (t0, n1, T)) (fun H => k L S (F, H, E', B))) = true → m_Rn scr CF M pc cL ((vn :: v_i 2147483648 :: v_r r :: v_i 2147483648 :: v_r r0 :: S).map (sv σ ρ)) cH := by
    intro ht h19
    obtain ⟨T', h20, h21⟩ := kCp_of (Nat.mod_lt _ (by decide)) h19
    obtain ⟨H', h22, h23⟩ := kHs_of h20
    have hdm : 16 * Nat.div (e - 2147483648) 16 + Nat.mod (e - 2147483648) 16 = e - 2147483648 := Nat.div_add_mod _ _
    have h21' : ∀ j, g2 T' j = if j < e - 2147483648 then g2 T0 j else g2 T j := fun j => by
      have q := h21 j
      rwa [show 16 * Nat.div (e - 2147483648) 16 + (e - 2147483648) % 16 = e - 2147483648 from hdm] at q
    have hcp : m_cp cH (σ r0) (σ r) 0 0 (cI e) = some (m_set cH (σ r) (.inl (t0, m_cpy vs0 vs1 0 0 (e - 2147483648)))) := by
      unfold m_cp
      rw [hg0, hg1]
      dsimp only
      have ez : (0 : Int32).toNatClampNeg = 0 := by decide
      rw [ez, cI_clamp h15 he]
      rw [if_pos ⟨⟨by decide, by decide, cI_nn h15 he, by omega, by omega⟩, by
        rcases ht with rfl | ⟨rfl, hb⟩
        · exact Or.inl ⟨rfl, rfl⟩
        · exact Or.inr ⟨rfl, rfl, hb⟩⟩]
    refine s_stl hc (by omega) rfl ?_ (hk L S F H' E' B CF cL _ h22 hL hF ?_ hE' (hB.set hg1 (d := .inl (t0, m_cpy vs0 vs1 0 0 (e - 2147483648))) (by simp [m_sz, m_cpy_len])))
    · simp only [List.map_cons, hvn]
      have e1 : sv σ ρ (v_i 2147483648) = .int 0 := rfl
      have e2 : sv σ ρ (v_r r) = .ref (σ r) := rfl
      have e3 : sv σ ρ (v_r r0) = .ref (σ r0) := rfl
      rw [e1, e2, e3]
      unfold m_ex
      dsimp only
      unfold m_math
      rw [if_neg (by decide), if_neg (by decide), if_neg (by decide), if_pos rfl]
      dsimp only
      rw [if_pos hcat, hcp]
      rfl
    · refine hH.set hσ hg1 h23 (fun qq => ⟨hn1, _, qq, by rw [m_cpy_len]; exact hl1, fun i hi => ?_⟩)
      have hi' : i < vs1.length := by omega
      have eL : (m_cpy vs0 vs1 0 0 (e - 2147483648))[i]? = some (if i < e - 2147483648 then vs0.getD i .null else vs1.getD i .null) := by
        unfold m_cpy
        rw [List.getElem?_map, List.getElem?_range hi']
        simp
      rw [h21', eL]
      by_cases hq : i < e - 2147483648
      · rw [if_pos hq, if_pos hq]
        obtain ⟨v, a1, a2⟩ := hv0 i (by omega)
        exact ⟨v, a1, by rw [List.getD_eq_getElem?_getD, a2]; rfl⟩
      · rw [if_neg hq, if_neg hq]
        obtain ⟨v, a1, a2⟩ := hv1 i hi
        exact ⟨v, a1, by rw [List.getD_eq_getElem?_getD, a2]; rfl⟩
  rw [kB_iff] at h17
  rcases h17 with ⟨h19, h20⟩ | ⟨-, h20⟩
  · exact main (Or.inl (Nat.beq_eq.mp h19)) h20
  · rw [kB_f] at h20
    obtain ⟨h21, h22⟩ := h20
    obtain ⟨h23, h24⟩ := kBxs_of (Nat.mod_lt _ (by decide)) h22
    refine main (Or.inr ⟨Nat.beq_eq.mp h21, ?_⟩) h23
    have hdm : 16 * Nat.div (e - 2147483648) 16 + Nat.mod (e - 2147483648) 16 = e - 2147483648 := Nat.div_add_mod _ _
    unfold m_bxs
    rw [List.all_eq_true]
    intro i hi
    rw [List.mem_range] at hi
    obtain ⟨p, a1, a2⟩ := h24 i (Nat.lt_of_lt_of_eq hi hdm.symm)
    obtain ⟨v, a3, a4⟩ := hv0 i (by omega)
    rw [a1] at a3
    cases a3
    rw [Nat.zero_add, a4, sv_p (by omega)]
    exact m_box_p a2
end SO5
