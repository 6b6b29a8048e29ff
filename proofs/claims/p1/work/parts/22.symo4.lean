/-! an instruction by symbols is an instruction of the data: stores, what is made, the library's own -/
section SO4
variable {scr : List Int32} {σ ρ : Nat → Nat} {M pc x y w : Nat} {z : Int} {k kt kf : sK}
theorem s_wa_of (hσ : s_in σ) {xv : sV} {L S : List sV} {F : List sF} {H : sH} {E : sE} {B : sB} {cH : List mC} {e r t : Nat} (h : s_xsa3 t k xv r e L S (F, H, E, B) = true) (hH : s_ho σ ρ H cH) (hB : s_bo scr σ ρ B cH) : ∃ H' cH', m_wa cH (σ r) t (cI e) (sv σ ρ xv) = some cH' ∧ k L S (F, H', E, B) = true ∧ s_ho σ ρ H' cH' ∧ s_bo scr σ ρ B cH' := by
  unfold s_xsa3 at h
  rw [kX_eq, kH_iff] at h
  obtain ⟨c, hc1, h⟩ := h
  obtain ⟨n, T, rfl, h2⟩ := (kCa_iff _ _ _).mp h
  rw [kIx_iff] at h2
  obtain ⟨h3, h4, h5⟩ := h2
  obtain ⟨T', h6, h7⟩ := kS2_of h5
  obtain ⟨H', h9, h10⟩ := kHs_of h6
  obtain ⟨hn, vs, hge, hl, hv⟩ := hH r _ hc1
  have h4' : e - 2147483648 < vs.length := by rw [hl]; exact h4
  refine ⟨H', m_set cH (σ r) (.inl (t, vs.set (e - 2147483648) (sv σ ρ xv))), ?_, h9, ?_, hB.set hge (by simp [m_sz])⟩
  · unfold m_wa
    rw [hge]
    dsimp only
    rw [cI_clamp h3 (by omega), if_pos ⟨rfl, cI_nn h3 (by omega), h4'⟩]
  · refine hH.set hσ hge h10 (fun q => ⟨hn, _, q, by rw [List.length_set]; exact hl, fun i hi => ?_⟩)
    rw [h7]
    by_cases hq : i = e - 2147483648
    · rw [if_pos hq, hq]
      exact ⟨xv, rfl, by rw [List.getElem?_set_self h4']⟩
    · rw [if_neg hq]
      obtain ⟨v, h11, h12⟩ := hv i hi
      exact ⟨v, h11, by rw [List.getElem?_set_ne (Ne.symm hq)]; exact h12⟩
theorem O_xsa (hσ : s_in σ) {t : Nat} {kk : sV → Bool → Bool} {i : Instr} (hc : m_code M pc = some (i, x, y, w, z)) (h8 : ¬ w = 8) (hi : m_inv i = false) (hr : ∀ S, m_rts i S = none) (hex : ∀ cL cS cH cH' r j v b, kk v b = true → b = true ∧ (m_wa cH r t j (sv σ ρ v) = some cH' → m_ex scr M pc i x y w z cL (sv σ ρ v :: .int j :: .ref r :: cS) cH = some (pc + 1, cL, cS, cH'))) (hk : s_OK scr σ ρ k M (pc + 1)) : s_OK scr σ ρ (s_xsa t kk k) M pc := by
  intro L S F H E B CF cL cH h hL hF hH hE hB
  obtain ⟨xv, v, o, S, rfl, h2⟩ := (kP3_iff _ _).mp h
  have h3 := (hex cL (S.map (sv σ ρ)) cH cH 0 0 xv _ h2).1
  rcases (kA_iff _ _ _).mp h3 with ⟨r, rfl, h4⟩ | ⟨p, rfl, h4⟩
  · obtain ⟨e, E', hv, hE', h5⟩ := s_ix_of (σ := σ) h4 hE
    obtain ⟨H', cH', h6, h7, h9, h10⟩ := s_wa_of hσ h5 hH hB
    have h11 := (hex cL (S.map (sv σ ρ)) cH cH' (σ r) (cI e) xv _ h2).2 h6
    refine s_stp hc h8 hi (hr _) ?_ (hk L S F H' E' B CF cL cH' h7 hL hF h9 hE' h10)
    simp only [List.map_cons, hv]
    exact h11
  · cases h4
theorem O_ias (hσ : s_in σ) (hc : m_code M pc = some (.iastore, x, y, w, z)) (h8 : ¬ w = 8) (hk : s_OK scr σ ρ k M (pc + 1)) : s_OK scr σ ρ (s_xsa 0 kIs k) M pc :=
  O_xsa hσ hc h8 rfl (fun _ => rfl) (fun cL cS cH cH' r j v b h1 => by
    obtain ⟨hu, h3⟩ := (kIs_iff _ _).mp h1
    obtain ⟨q, hq⟩ := sv_isI (σ := σ) (ρ := ρ) hu
    refine ⟨h3, fun h4 => ?_⟩
    rw [hq] at h4 ⊢
    simp only [m_ex, h4]
    rfl) hk
theorem O_las (hσ : s_in σ) (hc : m_code M pc = some (.lastore, x, y, w, z)) (h8 : ¬ w = 8) (hk : s_OK scr σ ρ k M (pc + 1)) : s_OK scr σ ρ (s_xsa 3 (fun v b => kLo v (fun _ => b)) k) M pc :=
  O_xsa hσ hc h8 rfl (fun _ => rfl) (fun cL cS cH cH' r j v b h1 => by
    obtain ⟨l, rfl, h3⟩ := (kLo_iff _ _).mp h1
    refine ⟨h3, fun h4 => ?_⟩
    obtain ⟨q, hq⟩ := sv_l (σ := σ) (ρ := ρ) l
    rw [hq] at h4 ⊢
    simp only [m_ex, h4]
    rfl) hk
theorem O_das (hσ : s_in σ) (hc : m_code M pc = some (.dastore, x, y, w, z)) (h8 : ¬ w = 8) (hk : s_OK scr σ ρ k M (pc + 1)) : s_OK scr σ ρ (s_xsa 4 (fun v b => kDo v (fun _ => b)) k) M pc :=
  O_xsa hσ hc h8 rfl (fun _ => rfl) (fun cL cS cH cH' r j v b h1 => by
    obtain ⟨l, rfl, h3⟩ := (kDo_iff _ _).mp h1
    refine ⟨h3, fun h4 => ?_⟩
    have h4' : m_wa cH r 4 j (.double (UInt64.ofNat l)) = some cH' := h4
    show (m_wa cH r 4 j (.double (UInt64.ofNat l))).map _ = _
    rw [h4']
    rfl) hk
theorem nar_01 {a : Nat} (h1 : 2147483648 ≤ a) (h2 : a ≤ 2147483649) : vp_nar .boolean (cI a) = cI a := by
  rcases (show a = 2147483648 ∨ a = 2147483649 by omega) with rfl | rfl <;> decide
theorem O_bas (hσ : s_in σ) (hc : m_code M pc = some (.bastore, x, y, w, z)) (h8 : ¬ w = 8) (hk : s_OK scr σ ρ k M (pc + 1)) : s_OK scr σ ρ (s_bsa k) M pc := by
  intro L S F H E B CF cL cH h hL hF hH hE hB
  obtain ⟨xv, v, o, S, rfl, h2⟩ := (kP3_iff _ _).mp h
  obtain ⟨a, rfl, h3⟩ := (kI_iff _ _).mp h2
  rw [kB_f, kB_f, Nat.ble_eq, Nat.ble_eq] at h3
  obtain ⟨h4, h5, h3⟩ := h3
  rcases (kA_iff _ _ _).mp h3 with ⟨r, rfl, h6⟩ | ⟨p, rfl, h6⟩
  · obtain ⟨e, E', hv, hE', h7⟩ := s_ix_of (σ := σ) h6 hE
    obtain ⟨H', cH', h9, h10, h11, h12⟩ := s_wa_of hσ h7 hH hB
    refine s_stp hc h8 rfl rfl ?_ (hk L S F H' E' B CF cL cH' h10 hL hF h11 hE' h12)
    simp only [List.map_cons, hv]
    have h9' : m_wa cH (σ r) 1 (cI e) (.int (cI a)) = some cH' := h9
    show (m_wa cH (σ r) 1 (cI e) (.int (vp_nar .boolean (cI a)))).map _ = _
    rw [nar_01 h4 h5, h9']
    rfl
  · cases h6
theorem kAu_of {j : Nat} {xv : sV} : ∀ {es : List (Nat × sV)} {kk : List (Nat × sV) → Bool}, kAu j xv es kk = true → ∃ es', kk es' = true ∧ (∃ v, es.lookup j = some v) ∧ ∀ i, es'.lookup i = if i = j then some xv else es.lookup i
  | [], kk, h => by cases h
  | (a, v) :: es, kk, h => by
    have h' : kB (Nat.beq a j) (kk ((a, xv) :: es)) (kAu j xv es (fun t => kk ((a, v) :: t))) = true := h
    rw [kB_iff] at h'
    rcases h' with ⟨h1, h2⟩ | ⟨h1, h2⟩
    · have := Nat.beq_eq.mp h1; subst this
      refine ⟨_, h2, ⟨v, by simp [List.lookup]⟩, fun i => ?_⟩
      rw [List.lookup_cons, List.lookup_cons]
      by_cases q : i = a
      · rw [if_pos q, show (i == a) = true by simp [q]]
      · rw [if_neg q, show (i == a) = false by simp [q]]
    · have hne : ¬ j = a := fun q => by rw [q, Nat.beq_eq.mpr rfl] at h1; cases h1
      have hne' : (j == a) = false := by simp [hne]
      obtain ⟨es', h3, ⟨u, h4⟩, h5⟩ := kAu_of h2
      refine ⟨_, h3, ⟨u, by rw [List.lookup_cons, hne']; exact h4⟩, fun i => ?_⟩
      rw [List.lookup_cons, List.lookup_cons, h5]
      by_cases q : i = a
      · rw [show (i == a) = true by simp [q]]
        dsimp only
        rw [if_neg (fun e => hne (by rw [← e, q]))]
      · rw [show (i == a) = false by simp [q]]
theorem kKd_of {xv : sV} {H : sH} {cH : List mC} {kk : Nat → Bool} (h : kKd xv H kk = true) (hH : s_ho σ ρ H cH) : ∃ q t, sv σ ρ xv = .ref q ∧ kk t = true ∧ ((t = 2 ∧ ∃ fs, m_get cH q = some (.inr (3, fs))) ∨ (t = 5 ∧ ∃ fs, m_get cH q = some (.inr (6, fs))) ∨ (t = 6 ∧ m_get cH q = none ∧ m_box q = true)) := by
  unfold kKd at h
  rcases (kA_iff _ _ _).mp h with ⟨r, rfl, h4⟩ | ⟨p, rfl, h4⟩
  · rw [kH_iff] at h4
    obtain ⟨c, hc1, h4⟩ := h4
    have hcr := hH r c hc1
    rcases (kC_iff _ _ _ _).mp h4 with ⟨t, n, T, rfl, h5⟩ | ⟨ci, fs, rfl, h5⟩ | ⟨t, n, es, rfl, h5⟩
    · cases h5
    · rw [kB_iff, kB_f] at h5
      rcases h5 with ⟨h5, h6⟩ | ⟨-, h5, h6⟩
      · have := Nat.beq_eq.mp h5; subst this
        exact ⟨σ r, 2, rfl, h6, Or.inl ⟨rfl, _, hcr.resolve_left (by decide)⟩⟩
      · have := Nat.beq_eq.mp h5; subst this
        exact ⟨σ r, 5, rfl, h6, Or.inr (Or.inl ⟨rfl, _, hcr.resolve_left (by decide)⟩)⟩
    · cases h5
  · rw [kBx_iff] at h4
    exact ⟨_, 6, sv_p (by omega), h4.2, Or.inr (Or.inr ⟨rfl, m_get_p _ _, m_box_p h4.1⟩)⟩
theorem O_aas (hσ : s_in σ) (hc : m_code M pc = some (.aastore, x, y, w, z)) (h8 : ¬ w = 8) (hk : s_OK scr σ ρ k M (pc + 1)) : s_OK scr σ ρ (s_asa k) M pc := by
  intro L S F H E B CF cL cH h hL hF hH hE hB
  obtain ⟨xv, v, o, S, rfl, h2⟩ := (kP3_iff _ _).mp h
  rw [kX_eq] at h2
  obtain ⟨q, t, hq, h3, hkd⟩ := kKd_of (σ := σ) (ρ := ρ) h2 hH
  have hex : ∀ (r : Nat) (j : Int32) (cH' : List mC) (cS : List Value), m_wa cH r t j (.ref q) = some cH' → m_ex scr M pc .aastore x y w z cL (.ref q :: .int j :: .ref r :: cS) cH = some (pc + 1, cL, cS, cH') := by
    intro r j cH' cS h4
    rcases hkd with ⟨rfl, fs, hg⟩ | ⟨rfl, fs, hg⟩ | ⟨rfl, hg, hbx⟩
    · simp only [m_ex, hg, h4]
      rfl
    · simp only [m_ex, hg, h4]
      rfl
    · simp only [m_ex, hg]
      rw [if_pos hbx, h4]
      rfl
  rcases (kA_iff _ _ _).mp h3 with ⟨r, rfl, h4⟩ | ⟨p, rfl, h4⟩
  · rw [kH_iff] at h4
    obtain ⟨c, hc1, h4⟩ := h4
    have hcr := hH r c hc1
    rcases (kC_iff _ _ _ _).mp h4 with ⟨u, n, T, rfl, h5⟩ | ⟨ci, fs, rfl, h5⟩ | ⟨u, n, es, rfl, h5⟩
    · rw [kB_f] at h5
      obtain ⟨h6, h5⟩ := h5
      have := Nat.beq_eq.mp h6; subst this
      obtain ⟨e, E', hv, he, hE', h7⟩ := kRes_of (σ := σ) h5 hE
      have h7' : s_xsa3 u k xv r e L S (F, H, E', B) = true := by
        unfold s_xsa3
        rw [kX_eq, kH_iff]
        exact ⟨_, hc1, (kCa_iff _ _ _).mpr ⟨n, T, rfl, h7⟩⟩
      obtain ⟨H', cH', h9, h10, h11, h12⟩ := s_wa_of hσ h7' hH hB
      refine s_stp hc h8 rfl rfl ?_ (hk L S F H' E' B CF cL cH' h10 hL hF h11 hE' h12)
      simp only [List.map_cons, hv, hq]
      rw [hq] at h9
      exact hex _ _ _ _ h9
    · cases h5
    · rw [kB_f] at h5
      obtain ⟨h6, h5⟩ := h5
      have := Nat.beq_eq.mp h6; subst this
      obtain ⟨j, rfl, h7⟩ := (kSy_iff _ _).mp h5
      obtain ⟨es', h9, ⟨u0, hu0⟩, h10⟩ := kAu_of h7
      obtain ⟨H', h11, h12⟩ := kHs_of h9
      obtain ⟨vs, hge, hlk, hdi⟩ := hcr
      obtain ⟨b1, b2, b3⟩ := hlk j u0 hu0
      have hlen : ρ j - 2147483648 < vs.length := (List.getElem?_eq_some_iff.mp b3).1
      have hwa : m_wa cH (σ r) u (cI (ρ j)) (.ref q) = some (m_set cH (σ r) (.inl (u, vs.set (ρ j - 2147483648) (.ref q)))) := by
        unfold m_wa
        rw [hge]
        dsimp only
        rw [cI_clamp b1 b2, if_pos ⟨rfl, cI_nn b1 b2, hlen⟩]
      refine s_stp hc h8 rfl rfl ?_ (hk L S F H' E B CF cL _ h11 hL hF ?_ hE (hB.set hge (d := .inl (u, vs.set (ρ j - 2147483648) (.ref q))) (by simp [m_sz])))
      · simp only [List.map_cons, hq]
        exact hex _ _ _ _ hwa
      · refine hH.set hσ hge h12 (fun qq => ⟨_, qq, fun i v' hi => ?_, fun i i' v' v'' hi hi' => ?_⟩)
        · rw [h10] at hi
          split at hi
          · next e => subst e; cases hi; exact ⟨b1, b2, by rw [List.getElem?_set_self hlen, hq]⟩
          · next e =>
            obtain ⟨c1, c2, c3⟩ := hlk i v' hi
            refine ⟨c1, c2, ?_⟩
            rw [List.getElem?_set_ne (by intro e2; exact e (hdi i j v' u0 hi hu0 (by omega)))]
            exact c3
        · rw [h10] at hi hi'
          have l1 : ∃ v, es.lookup i = some v := by
            split at hi
            · next e => subst e; exact ⟨u0, hu0⟩
            · exact ⟨v', hi⟩
          have l2 : ∃ v, es.lookup i' = some v := by
            split at hi'
            · next e => subst e; exact ⟨u0, hu0⟩
            · exact ⟨v'', hi'⟩
          obtain ⟨a1, a2⟩ := l1
          obtain ⟨a3, a4⟩ := l2
          exact hdi i i' a1 a3 a2 a4
  · cases h4
theorem cI_ofNat (n : Nat) : Int32.ofNat n = cI (n + 2147483648) := by
  unfold cI
  exact congrArg Int32.ofInt (show (n : Int) = ((n + 2147483648 : Nat) : Int) - 2147483648 by omega)
theorem O_len (hc : m_code M pc = some (.arraylength, x, y, w, z)) (h8 : ¬ w = 8) (hk : s_OK scr σ ρ k M (pc + 1)) : s_OK scr σ ρ (s_len k) M pc := by
  intro L S F H E B CF cL cH h hL hF hH hE hB
  obtain ⟨o, S, rfl, h2⟩ := (kPop_iff _ _).mp h
  rcases (kA_iff _ _ _).mp h2 with ⟨r, rfl, h4⟩ | ⟨p, rfl, h4⟩
  · rw [kXH_eq, kH_iff] at h4
    obtain ⟨c, hc1, h4⟩ := h4
    have hcr := hH r c hc1
    rcases (kC_iff _ _ _ _).mp h4 with ⟨t, n, T, rfl, h5⟩ | ⟨ci, fs, rfl, h5⟩ | ⟨u, n, es, rfl, h5⟩
    · rw [kB_f, kFrc_eq, Nat.ble_eq] at h5
      obtain ⟨h6, h7⟩ := h5
      obtain ⟨hn, vs, hge, hl, hv⟩ := hcr
      obtain ⟨j, hj⟩ := m_get_succ hge
      refine s_stp hc h8 rfl rfl ?_ (hk L (v_i (n + 2147483648) :: S) F H E B CF cL cH h7 hL hF hH hE hB)
      have e1 : sv σ ρ (v_r r) = .ref (j + 1) := by show Value.ref (σ r) = _; rw [hj]
      rw [hj] at hge
      simp only [m_ex, List.map_cons, e1, hge]
      rw [if_pos (by omega), hl, cI_ofNat]
      rfl
    · cases h5
    · cases h5
  · rw [kB_iff, kB_iff, kB_iff, kB_f] at h4
    have hp0 : ∀ q n : Nat, q < 3 → m_preN (m_p0 + q) = some n → k L (v_i (n + 2147483648) :: S) (F, H, E, B) = true → m_Rn scr CF M pc cL ((v_p q :: S).map (sv σ ρ)) cH := by
      intro q n hq hn h5
      refine s_stp hc h8 rfl rfl ?_ (hk L (v_i (n + 2147483648) :: S) F H E B CF cL cH h5 hL hF hH hE hB)
      have e2 : m_get cH (m_p0 + q) = none := m_get_p _ _
      obtain ⟨j, hj⟩ : ∃ j, m_p0 + q = j + 1 := ⟨m_p0 + q - 1, by have h0 := m_p0_pos; generalize m_p0 = p0 at h0 ⊢; omega⟩
      rw [List.map_cons, sv_p (by omega)]
      rw [hj] at e2 hn ⊢
      simp only [m_ex, e2, hn]
      rw [cI_ofNat]
      rfl
    rcases h4 with ⟨h5, h6⟩ | ⟨-, ⟨h5, h6⟩ | ⟨-, ⟨h5, h6⟩ | ⟨-, h5, h6⟩⟩⟩
    · have := Nat.beq_eq.mp h5; subst this
      refine s_stp hc h8 rfl rfl ?_ (hk L (v_i 2147483655 :: S) F H E B CF cL cH h6 hL hF hH hE hB)
      show some (pc + 1, cL, Value.int (Int32.ofNat scr.length) :: _, cH) = _
      rw [hB.2.2.2.2]
      rfl
    · have := Nat.beq_eq.mp h5; subst this
      exact hp0 0 0 (by omega) rfl h6
    · have := Nat.beq_eq.mp h5; subst this
      exact hp0 1 5 (by omega) rfl h6
    · have := Nat.beq_eq.mp h5; subst this
      exact hp0 2 9 (by omega) rfl h6
/-! what is made -/
theorem sv_dfl {t : FieldType} (h : s_dok t = true) : sv σ ρ (s_dfl t) = defaultValue t := by
  unfold s_dok at h
  unfold s_dfl
  split at h
  · next v hv =>
    rw [hv]
    have : v = 0 := of_decide_eq_true h
    rw [this]
    rfl
  · next hv => rw [hv]; rfl
  · cases h
theorem O_new {n : Nat} {c : vw_C} (hc : m_code M pc = some (.new n, x, y, w, z)) (h8 : ¬ w = 8) (hcl : m_cl[x]? = some c) (hx : x < 10) (hd : (List.range c.2.2).all (fun j => s_dok (m_fty x j)) = true) (hk : s_OK scr σ ρ k M (pc + 3)) : s_OK scr σ ρ (s_new x c.2.2 ((List.range c.2.2).map (fun j => s_dfl (m_fty x j))) k) M pc := by
  intro L S F H E B CF cL cH h hL hF hH hE hB
  have e : ((List.range c.2.2).map (fun j => s_dfl (m_fty x j))).map (sv σ ρ) = (List.range c.2.2).map (fun k => defaultValue (m_fty x k)) := by
    rw [List.map_map]
    refine List.map_congr_left (fun j hj => ?_)
    exact sv_dfl (List.all_eq_true.mp hd j hj)
  obtain ⟨r, H', B', h1, h2, h3, h4, h5⟩ := s_mk_of (cc := .inr (x, (List.range c.2.2).map (fun k => defaultValue (m_fty x k)))) h hH hB (by simp [m_sz]; omega) (fun j hj => (Or.inr (by rw [hj, e]) : x = 98 ∨ _))
  refine s_stp hc h8 rfl rfl ?_ (hk L (v_r r :: S) F H' E B' CF cL _ h1 hL hF h3 hE h4)
  simp only [m_ex, hcl]
  rw [if_pos h5, ← h2]
  rfl
theorem O_nwa {i : Instr} {d : sV} {dv : Value} {pc' : Nat} (hc : m_code M pc = some (i, x, y, w, z)) (h8 : ¬ w = 8) (hi : m_inv i = false) (hr : ∀ S, m_rts i S = none) (hex : ∀ cL cS cH (n : Int32), 0 ≤ n ∧ n.toNatClampNeg ≤ 1000 → m_rm1 cH = true → m_ex scr M pc i x y w z cL (.int n :: cS) cH = some (pc', cL, .ref (cH.length + 1) :: cS, cH ++ [.inl (x, List.replicate n.toNatClampNeg dv)]))
    (hd : sv σ ρ d = dv) (hk : s_OK scr σ ρ k M pc') : s_OK scr σ ρ (s_nwa x d k) M pc :=
  O_un (fun a L F H E B S CF cL cH ha h hL hF hH hE hB => by
    have h' : kIx a 1001 (fun n => kMk n d (fun T => s_mk1 (.inl (x, n, T)) n k L S (F, H, E, B))) = true := h
    rw [kIx_iff] at h'
    obtain ⟨h1, h2, h3⟩ := h'
    obtain ⟨T, h4, h5⟩ := kMk_of h3
    obtain ⟨r, H', B', h6, h7, h9, h10, h11⟩ := s_mk_of (cc := .inl (x, List.replicate (a - 2147483648) dv)) h4 hH hB (by simp [m_sz]) (fun j hj => ⟨by omega, _, hj, List.length_replicate, fun i hi => ⟨d, h5 i hi, by rw [List.getElem?_replicate, if_pos hi, hd]⟩⟩)
    refine s_stp hc h8 hi (hr _) ?_ (hk L (v_r r :: S) F H' E B' CF cL _ h6 hL hF h9 hE h10)
    rw [hex _ _ _ _ ⟨cI_nn h1 ha, by rw [cI_clamp h1 ha]; omega⟩ h11, cI_clamp h1 ha, ← h7]
    rfl)
theorem O_nar {t : ArrayType} (hc : m_code M pc = some (.newarray t, x, y, w, z)) (h8 : ¬ w = 8) (hk : s_OK scr σ ρ k M (pc + 2)) : s_OK scr σ ρ (s_nwa x (if x = 3 then .inr (.inr (.inr (.inr (.inl 0)))) else if x = 4 then .inr (.inr (.inr (.inr (.inr (.inl 1))))) else .inl 2147483648) k) M pc :=
  O_nwa hc h8 rfl (fun _ => rfl) (fun cL cS cH n h1 h2 => by
    simp only [m_ex]
    rw [if_pos ⟨h1, h2⟩]) (by
    split
    · rfl
    · split
      · rfl
      · rfl) hk
theorem O_anw {n : Nat} (hc : m_code M pc = some (.anewarray n, x, y, w, z)) (h8 : ¬ w = 8) (hk : s_OK scr σ ρ k M (pc + 3)) : s_OK scr σ ρ (s_nwa x (.inr (.inr (.inr (.inr (.inr (.inl 0)))))) k) M pc :=
  O_nwa hc h8 rfl (fun _ => rfl) (fun cL cS cH n h1 h2 => by
    simp only [m_ex]
    rw [if_pos ⟨h1, h2⟩]
    rfl) rfl hk
/-- a step of an instruction that calls into the library -/
theorem s_stl {CF : List mW} {i : Instr} {cL cL' : mL} {S S' : List Value} {cH cH' : List mC} {pc' : Nat} (hc : m_code M pc = some (i, x, y, w, z)) (hw : 2 < w ∧ ¬ w = 8) (hr : m_rts i S = none) (hex : m_ex scr M pc i x y w z cL S cH = some (pc', cL', S', cH')) (kk : m_Rn scr CF M pc' cL' S' cH') : m_Rn scr CF M pc cL S cH :=
  m_Rn.step hc hw.2 (by rintro ⟨q | q, -⟩ <;> omega) hr hex kk
theorem O_cln {n : Nat} (hc : m_code M pc = some (.invokevirtual n, x, y, 10, z)) (hk : s_OK scr σ ρ k M (pc + 3)) : s_OK scr σ ρ (s_cln k) M pc := by
  intro L S F H E B CF cL cH h hL hF hH hE hB
  obtain ⟨o, S, rfl, h2⟩ := (kPop_iff _ _).mp h
  obtain ⟨hcat, h3⟩ := s_ct (σ := σ) (ρ := ρ) h2
  rcases (kA_iff _ _ _).mp h3 with ⟨r, rfl, h4⟩ | ⟨p, rfl, h4⟩
  · rw [kXH_eq, kH_iff] at h4
    obtain ⟨c, hc1, h4⟩ := h4
    obtain ⟨n, T, rfl, h5⟩ := (kCa_iff _ _ _).mp h4
    obtain ⟨hn, vs, hge, hl, hv⟩ := hH r _ hc1
    obtain ⟨q, H', B', h6, h7, h9, h10, h11⟩ := s_mk_of (cc := .inl (0, vs)) h5 hH hB hl (fun j hj => ⟨hn, vs, hj, hl, hv⟩)
    refine s_stl hc (by omega) rfl ?_ (hk L (v_r q :: S) F H' E B' CF cL _ h6 hL hF h9 hE h10)
    have e1 : sv σ ρ (v_r r) = .ref (σ r) := rfl
    simp only [m_ex, List.map_cons, e1, hge]
    rw [if_pos trivial, if_pos ⟨hcat, h11⟩, ← h7]
    rfl
  · cases h4
theorem O_gcl {n : Nat} (hc : m_code M pc = some (.invokevirtual n, x, y, 13, z)) (hk : s_OK scr σ ρ k M (pc + 3)) : s_OK scr σ ρ (s_gcl k) M pc := by
  intro L S F H E B CF cL cH h hL hF hH hE hB
  obtain ⟨o, S, rfl, h2⟩ := (kPop_iff _ _).mp h
  obtain ⟨hcat, h3⟩ := s_ct (σ := σ) (ρ := ρ) h2
  rcases (kA_iff _ _ _).mp h3 with ⟨r, rfl, h4⟩ | ⟨p, rfl, h4⟩
  · rw [kXH_eq, kH_iff] at h4
    obtain ⟨c, hc1, h4⟩ := h4
    obtain ⟨n, T, rfl, h5⟩ := (kCa_iff _ _ _).mp h4
    obtain ⟨hn, vs, hge, hl, hv⟩ := hH r _ hc1
    refine s_stl hc (by omega) rfl ?_ (hk L (v_p 4 :: S) F H E B CF cL cH h5 hL hF hH hE hB)
    have e1 : sv σ ρ (v_r r) = .ref (σ r) := rfl
    have e2 : sv σ ρ (v_p 4) = .ref (m_p0 + 4) := rfl
    simp only [m_ex, List.map_cons, e1, hge, e2]
    rw [if_neg (by decide), if_pos trivial, if_pos hcat]
  · cases h4
theorem O_cst {n : Nat} (hc : m_code M pc = some (.checkcast n, x, y, w, z)) (h8 : ¬ w = 8) (hk : s_OK scr σ ρ k M (pc + 3)) : s_OK scr σ ρ (s_cst x k) M pc := by
  intro L S0 F H E B CF cL cH h hL hF hH hE hB
  obtain ⟨o, S, rfl, h2⟩ := (kPop_iff _ _).mp h
  have arr : ∀ t : Nat, ((x = 0 ∧ t = 0) ∨ (x = 2 ∧ t = 6)) → kA o (fun r => kXH (F, H, E, B) (fun H => kH H r (fun c => kCa c t (fun _ _ => k L (o :: S) (F, H, E, B))))) (fun _ => false) = true → m_Rn scr CF M pc cL ((o :: S).map (sv σ ρ)) cH := by
    intro t ht h3
    rcases (kA_iff _ _ _).mp h3 with ⟨r, rfl, h4⟩ | ⟨p, rfl, h4⟩
    · rw [kXH_eq, kH_iff] at h4
      obtain ⟨c, hc1, h4⟩ := h4
      obtain ⟨n, T, rfl, h5⟩ := (kCa_iff _ _ _).mp h4
      obtain ⟨hn, vs, hge, hl, hv⟩ := hH r _ hc1
      refine s_stp hc h8 rfl rfl ?_ (hk L (v_r r :: S) F H E B CF cL cH h5 hL hF hH hE hB)
      have e1 : sv σ ρ (v_r r) = .ref (σ r) := rfl
      simp only [m_ex, List.map_cons, e1, hge]
      rw [if_neg (by omega), if_pos ht]
    · cases h4
  rcases x with _ | _ | _ | x
  · exact arr 0 (Or.inl ⟨rfl, rfl⟩) h2
  · have h2' : kA o (fun _ => false) (fun p => kBx p (k L (o :: S) (F, H, E, B))) = true := h2
    rcases (kA_iff _ _ _).mp h2' with ⟨r, rfl, h4⟩ | ⟨p, rfl, h4⟩
    · cases h4
    · rw [kBx_iff] at h4
      refine s_stp hc h8 rfl rfl ?_ (hk L (v_p p :: S) F H E B CF cL cH h4.2 hL hF hH hE hB)
      simp only [m_ex, List.map_cons, sv_p (σ := σ) (ρ := ρ) (show ¬ p = 999 by omega)]
      rw [if_pos trivial, if_pos (m_box_p h4.1)]
  · exact arr 6 (Or.inr ⟨rfl, rfl⟩) h2
  · cases h2
theorem O_obj {n : Nat} (hc : m_code M pc = some (.invokespecial n, x, y, 7, z)) (hk : s_OK scr σ ρ k M (pc + 3)) : s_OK scr σ ρ (s_obj k) M pc := by
  intro L S F H E B CF cL cH h hL hF hH hE hB
  obtain ⟨o, S, rfl, h2⟩ := (kPop_iff _ _).mp h
  obtain ⟨ho, h3⟩ := (kAs_iff _ _).mp h2
  obtain ⟨hcat, h4⟩ := s_ct (σ := σ) (ρ := ρ) h3
  obtain ⟨q, hq⟩ := sv_isA (σ := σ) (ρ := ρ) ho
  refine s_stl hc (by omega) rfl ?_ (hk L S F H E B CF cL cH h4 hL hF hH hE hB)
  simp only [m_ex, List.map_cons, hq]
  rw [if_pos trivial, if_pos hcat]
theorem O_abs {n : Nat} (hc : m_code M pc = some (.invokestatic n, x, y, 5, z)) (hk : s_OK scr σ ρ k M (pc + 3)) : s_OK scr σ ρ (s_abs k) M pc :=
  O_un (fun a L F H E B S CF cL cH ha h hL hF hH hE hB => by
    obtain ⟨hcat, h2⟩ := s_ct (σ := σ) (ρ := ρ) h
    rw [kB_iff, kFrc_eq] at h2
    rcases h2 with ⟨h3, h4⟩ | ⟨h3, h4⟩
    · have h3' := Nat.ble_eq.mp h3
      refine s_stl hc (by omega) rfl ?_ (hk L (v_i a :: S) F H E B CF cL cH h4 hL hF hH hE hB)
      show m_math 5 pc cL _ cH = _
      unfold m_math
      rw [if_neg (by decide), if_neg (by decide), if_pos rfl]
      dsimp only
      rw [if_pos hcat, if_pos (cI_nn h3' ha)]
      rfl
    · have h3' : ¬ 2147483648 ≤ a := fun q => by rw [Nat.ble_eq.mpr q] at h3; cases h3
      refine s_stl hc (by omega) rfl ?_ (hk L (v_i (Nat.mod (Nat.sub 4294967296 a) 4294967296) :: S) F H E B CF cL cH h4 hL hF hH hE hB)
      show m_math 5 pc cL _ cH = _
      unfold m_math
      rw [if_neg (by decide), if_neg (by decide), if_pos rfl]
      dsimp only
      rw [if_pos hcat, if_neg (by rw [← cI_zero, cI_le (by decide) ha]; exact h3')]
      have e : (0 : Int32) - cI a = cI ((4294967296 - a) % 4294967296) := by
        rw [← cI_zero, cI_sub ha, cI_mod]
        unfold cI
        rw [← Int32.toInt_inj, Int32.toInt_ofInt, Int32.toInt_ofInt]
        refine m_bm ?_
        omega
      rw [e]
      rfl)
end SO4
