/-! an instruction by symbols is an instruction of the data: fields and rows -/
section SO3
variable {scr : List Int32} {σ ρ : Nat → Nat} {M pc x y w : Nat} {z : Int} {k kt kf : sK}
theorem m_get_p (H : List mC) (p : Nat) : m_get H (m_p0 + p) = none := by
  have h0 := m_p0_pos
  unfold m_get
  generalize hp : m_p0 = p0 at h0
  obtain ⟨j, hj⟩ : ∃ j, p0 + p = j + 1 := ⟨p0 + p - 1, by omega⟩
  rw [hj]
  dsimp only
  rw [if_neg (by omega)]
theorem m_get_set_eq {H : List mC} {r : Nat} {c d : mC} (h : m_get H r = some c) : m_get (m_set H r d) r = some d := by
  cases r with
  | zero => cases h
  | succ j =>
    unfold m_get at h ⊢
    dsimp only at h ⊢
    split at h
    · next hj =>
      rw [if_pos hj]
      show (H.set j d)[j]? = _
      rw [List.getElem?_set_self (List.getElem?_eq_some_iff.mp h).1]
    · cases h
theorem m_get_set_ne {H : List mC} {r q : Nat} {d : mC} (h : q ≠ r) : m_get (m_set H r d) q = m_get H q := by
  cases q with
  | zero => rfl
  | succ j =>
    cases r with
    | zero => rfl
    | succ i =>
      unfold m_get
      dsimp only
      split
      · show (H.set i d)[j]? = _
        rw [List.getElem?_set_ne (by omega)]
      · rfl
theorem m_get_app {H : List mC} {r : Nat} {c d : mC} (h : m_get H r = some c) : m_get (H ++ [d]) r = some c := by
  cases r with
  | zero => cases h
  | succ j =>
    unfold m_get at h ⊢
    dsimp only at h ⊢
    split at h
    · next hj =>
      rw [if_pos hj, List.getElem?_append_left (List.getElem?_eq_some_iff.mp h).1]
      exact h
    · cases h
theorem m_get_new {H : List mC} {d : mC} (h : H.length ≤ 800000) : m_get (H ++ [d]) (H.length + 1) = some d := by
  unfold m_get
  dsimp only
  have h0 : (800000 : Nat) + 1 < m_p0 := Nat.lt_of_sub_eq_succ rfl
  rw [if_pos (by generalize m_p0 = p0 at h0 ⊢; omega)]
  simp
theorem m_rm1_of {H : List mC} (h : H.length ≤ 800000) : m_rm1 H = true := by
  have h2 : m_nox H = true := by
    unfold m_nox
    rw [List.all_eq_true]
    intro c _
    rfl
  unfold m_rm1
  rw [h2, Bool.and_true, decide_eq_true_eq]
  omega
theorem s_cr.up {cH cH' : List mC} {n : Nat} {c : sC} (h : ∀ d, m_get cH (σ n) = some d → m_get cH' (σ n) = some d) (hc : s_cr σ ρ cH n c) : s_cr σ ρ cH' n c := by
  rcases c with ⟨t, len, T⟩ | ⟨ci, fs⟩ | ⟨t, len, es⟩
  · obtain ⟨h1, vs, h2, h3⟩ := hc
    exact ⟨h1, vs, h _ h2, h3⟩
  · rcases hc with hc | hc
    · exact Or.inl hc
    · exact Or.inr (h _ hc)
  · obtain ⟨vs, h2, h3⟩ := hc
    exact ⟨vs, h _ h2, h3⟩
theorem s_ho.set (hσ : s_in σ) {H H' : sH} {cH : List mC} {n : Nat} {c : sC} {d e : mC} (h : s_ho σ ρ H cH) (hge : m_get cH (σ n) = some d) (hh : ∀ j, hg H' j = if j = n then some c else hg H j) (hc : m_get (m_set cH (σ n) e) (σ n) = some e → s_cr σ ρ (m_set cH (σ n) e) n c) : s_ho σ ρ H' (m_set cH (σ n) e) := by
  intro j c' hj
  rw [hh] at hj
  split at hj
  · next q => subst q; cases hj; exact hc (m_get_set_eq hge)
  · next q => exact (h j c' hj).up (fun d' hd => by rw [m_get_set_ne (fun e => q (hσ _ _ e))]; exact hd)
theorem s_bo.set {B : sB} {cH : List mC} {r : Nat} {c d : mC} (h : s_bo scr σ ρ B cH) (hg : m_get cH r = some c) (hd : m_sz d = m_sz c) : s_bo scr σ ρ B (m_set cH r d) := by
  obtain ⟨h1, h2, h3, h4, h5⟩ := h
  exact ⟨fun i => by rw [m_len_set]; exact h1 i, by rw [m_len_set]; exact h2, by rw [m_sl_mset hg hd]; exact h3, h4, h5⟩
theorem s_mk_of {F : List sF} {H : sH} {E : sE} {B : sB} {L S : List sV} {cH : List mC} {c : sC} {cc : mC} {sz : Nat} (h : s_mk1 c sz k L S (F, H, E, B) = true) (hH : s_ho σ ρ H cH) (hB : s_bo scr σ ρ B cH) (hsz : m_sz cc = sz) (hc : ∀ n, m_get (cH ++ [cc]) (σ n) = some cc → s_cr σ ρ (cH ++ [cc]) n c) :
    ∃ r H' B', k L (v_r r :: S) (F, H', E, B') = true ∧ σ r = cH.length + 1 ∧ s_ho σ ρ H' (cH ++ [cc]) ∧ s_bo scr σ ρ B' (cH ++ [cc]) ∧ m_rm1 cH = true := by
  obtain ⟨n, ce, sl, tb⟩ := B
  unfold s_mk1 at h
  rw [kX_eq] at h
  obtain ⟨h1, H', h2, h3⟩ := kAl_of h
  obtain ⟨b1, b2, b3, b4, b5⟩ := hB
  have b2' : ce = cH.length := b2
  have hn : σ n = cH.length + 1 := b1 0
  refine ⟨n, H', _, h2, hn, fun j c' hj => ?_, ⟨fun i => ?_, ?_, ?_, b4, b5⟩, m_rm1_of (by omega)⟩
  · rw [h3] at hj
    split at hj
    · next q => subst q; cases hj; exact hc _ (by rw [hn]; exact m_get_new (by omega))
    · exact (hH j c' hj).up (fun d hd => m_get_app hd)
  · have := b1 (1 + i)
    show σ (n + 1 + i) = _
    rw [show n + 1 + i = n + (1 + i) by omega]
    rw [List.length_append, List.length_singleton]
    have e : σ (n + (1 + i)) = cH.length + 1 + (1 + i) := this
    omega
  · show ce + 1 = _
    rw [List.length_append, List.length_singleton, b2']
  · show sl + sz = _
    rw [m_sl_app, hsz, ← show sl = m_sl cH from b3]
theorem sv_p {p : Nat} (h : ¬ p = 999) : sv σ ρ (v_p p) = .ref (m_p0 + p) := if_neg h
theorem m_box_p {p : Nat} (h : 5 ≤ p ∧ p ≤ 260) : m_box (m_p0 + p) = true := by
  unfold m_box
  generalize m_p0 = p0
  simp only [Bool.and_eq_true, decide_eq_true_eq]
  omega
theorem vb_cI {p : Nat} (h : 5 ≤ p ∧ p ≤ 260) : vb_c (m_p0 + p - (m_p0 + 5)) = cI (p + 2147483515) := by
  have e : m_p0 + p - (m_p0 + 5) = p - 5 := by
    generalize m_p0 = p0
    omega
  rw [e]
  unfold vb_c cI
  have e1 : Int32.ofNat (p - 5) = Int32.ofInt ((p - 5 : Nat) : Int) := rfl
  have e2 : (128 : Int32) = Int32.ofInt 128 := by decide
  rw [e1, e2, ← Int32.ofInt_sub]
  exact congrArg Int32.ofInt (by omega)
theorem O_gf {n : Nat} (hc : m_code M pc = some (.getfield n, x, y, w, z)) (h8 : ¬ w = 8) (hx : ¬ x = 98) (hk : s_OK scr σ ρ k M (pc + 3)) : s_OK scr σ ρ (s_gf x y k) M pc := by
  intro L S F H E B CF cL cH h hL hF hH hE hB
  obtain ⟨v, S, rfl, h2⟩ := (kPop_iff _ _).mp h
  rcases (kA_iff _ _ _).mp h2 with ⟨r, rfl, h3⟩ | ⟨p, rfl, h3⟩
  · rw [kXH_eq, kH_iff] at h3
    obtain ⟨c, hc1, h3⟩ := h3
    obtain ⟨fs, rfl, h4⟩ := (kCo_iff _ _ _).mp h3
    obtain ⟨v, hv, h5⟩ := (kGet_iff _ _ _).mp h4
    have hcr : x = 98 ∨ m_get cH (σ r) = some (.inr (x, fs.map (sv σ ρ))) := hH r _ hc1
    have hget := hcr.resolve_left hx
    refine s_stp hc h8 rfl rfl ?_ (hk L (v :: S) F H E B CF cL cH h5 hL hF hH hE hB)
    show (m_gf cH (σ r) x y).map _ = _
    unfold m_gf
    rw [hget]
    dsimp only
    rw [if_pos rfl, List.getElem?_map, hv]
    rfl
  · have h3' : kB (Nat.beq x 8) (kB (Nat.beq y 0) (kBx p (kFrc (Nat.add p 2147483515) (fun e => k L (.inl e :: S) (F, H, E, B)))) false) false = true := h3
    rw [kB_f, kB_f, kBx_iff, kFrc_eq, Nat.beq_eq, Nat.beq_eq] at h3'
    obtain ⟨hx8, hy0, hp, h4⟩ := h3'
    refine s_stp hc h8 rfl rfl ?_ (hk L (v_i (p + 2147483515) :: S) F H E B CF cL cH h4 hL hF hH hE hB)
    rw [List.map_cons, sv_p (by omega)]
    show (m_gf cH (m_p0 + p) x y).map _ = _
    unfold m_gf
    rw [m_get_p]
    dsimp only
    rw [if_pos ⟨m_box_p hp, hx8, hy0⟩, vb_cI hp]
    rfl
theorem O_pf (hσ : s_in σ) {n t : Nat} (hc : m_code M pc = some (.putfield n, x, y, w, z)) (h8 : ¬ w = 8) (hx : ¬ x = 98) (ht : s_kd x y = some t) (hk : s_OK scr σ ρ k M (pc + 3)) : s_OK scr σ ρ (s_pf x y t k) M pc := by
  intro L S F H E B CF cL cH h hL hF hH hE hB
  obtain ⟨v, o, S, rfl, h2⟩ := (kPp_iff _ _).mp h
  rw [kX_eq, kA_iff] at h2
  rcases h2 with ⟨r, rfl, h3⟩ | ⟨p, rfl, h3⟩
  · rw [kH_iff] at h3
    obtain ⟨c, hc1, h3⟩ := h3
    obtain ⟨fs, rfl, h3k⟩ := (kCo_iff _ _ _).mp h3
    have hcr : x = 98 ∨ m_get cH (σ r) = some (.inr (x, fs.map (sv σ ρ))) := hH r _ hc1
    have hget := hcr.resolve_left hx
    have fin : m_fit (m_fty x y) (sv σ ρ v) = true → kSet fs y v (fun fs => kHs H r (.inr (.inl (x, fs))) (fun H => k L S (F, H, E, B))) = true → m_Rn scr CF M pc cL ((v :: v_r r :: S).map (sv σ ρ)) cH := by
      intro hf h4
      rw [kSet_iff] at h4
      obtain ⟨hy, h4⟩ := h4
      obtain ⟨H', h5, h6⟩ := kHs_of h4
      have hlen : y < (fs.map (sv σ ρ)).length := by simpa using hy
      refine s_stp hc h8 rfl rfl (cH' := m_set cH (σ r) (.inr (x, (fs.map (sv σ ρ)).set y (sv σ ρ v)))) ?_ (hk L S F H' E B CF cL _ h5 hL hF ?_ hE (hB.set hget (by simp [m_sz])))
      · show (m_pf cH (σ r) x y (sv σ ρ v)).map _ = _
        unfold m_pf
        rw [hget]
        dsimp only
        rw [if_pos ⟨rfl, hlen, hf⟩]
        rfl
      · exact hH.set hσ hget h6 (fun q => (Or.inr (by rw [q, List.map_set]) : x = 98 ∨ _))
    unfold s_kd at ht
    split at ht
    · next he =>
      cases ht
      obtain ⟨hv, h4⟩ := (kIs_iff _ _).mp h3k
      obtain ⟨e, hve⟩ := sv_isI (σ := σ) (ρ := ρ) hv
      exact fin (by rw [hve, he]; rfl) h4
    · next he =>
      cases ht
      obtain ⟨hv, h4⟩ := (kAs_iff _ _).mp h3k
      obtain ⟨e, hve⟩ := sv_isA (σ := σ) (ρ := ρ) hv
      exact fin (by rw [hve, he]; rfl) h4
    · next he =>
      cases ht
      obtain ⟨hv, h4⟩ := (kAs_iff _ _).mp h3k
      obtain ⟨e, hve⟩ := sv_isA (σ := σ) (ρ := ρ) hv
      exact fin (by rw [hve, he]; rfl) h4
    · cases ht
  · cases h3
theorem s_ix_of {f : Nat → List sV → List sV → sX → Bool} {v : sV} {L S : List sV} {F : List sF} {H : sH} {E : sE} {B : sB} (h : s_ix f v L S (F, H, E, B) = true) (hE : s_eo ρ E) : ∃ e E', sv σ ρ v = .int (cI e) ∧ s_eo ρ E' ∧ f e L S (F, H, E', B) = true := by
  rcases v with e | v
  · exact ⟨e, E, rfl, hE, h⟩
  · have h' : kX (F, H, E, B) (fun F H E B => kRes (.inr v) E (fun e E => f e L S (F, H, E, B))) = true := h
    rw [kX_eq] at h'
    obtain ⟨e, E', h1, -, h2, h3⟩ := kRes_of (σ := σ) h' hE
    exact ⟨e, E', h1, h2, h3⟩
theorem s_ra_of {kk : sV → Bool → Bool} {L S : List sV} {F : List sF} {H : sH} {E : sE} {B : sB} {cH : List mC} {e r t : Nat} {c : sC} (h : s_igaC t kk k L S (F, H, E, B) e c = true) (hc : s_cr σ ρ cH r c) : ∃ v vs, m_ra cH (σ r) t (cI e) = some (sv σ ρ v) ∧ m_get cH (σ r) = some (.inl (t, vs)) ∧ kk v (k L (v :: S) (F, H, E, B)) = true := by
  obtain ⟨n, T, rfl, h2⟩ := (kCa_iff _ _ _).mp h
  rw [kIx_iff] at h2
  obtain ⟨h3, h4, h5⟩ := h2
  obtain ⟨v, h6, h7⟩ := (kG2_iff _ _ _).mp h5
  obtain ⟨hn, vs, hg, hl, hv⟩ := hc
  obtain ⟨v', h8, h9⟩ := hv _ h4
  rw [h6] at h8
  cases h8
  refine ⟨v, vs, ?_, hg, h7⟩
  unfold m_ra
  rw [hg]
  dsimp only
  rw [if_pos ⟨rfl, cI_nn h3 (by omega)⟩, cI_clamp h3 (by omega)]
  exact h9
theorem m_get_succ {H : List mC} {r : Nat} {c : mC} (h : m_get H r = some c) : ∃ j, r = j + 1 := by
  cases r with
  | zero => cases h
  | succ j => exact ⟨j, rfl⟩
theorem O_iga (hc : m_code M pc = some (.iaload, x, y, w, z)) (h8 : ¬ w = 8) (hk : s_OK scr σ ρ k M (pc + 1)) : s_OK scr σ ρ (s_iga k) M pc := by
  intro L S F H E B CF cL cH h hL hF hH hE hB
  obtain ⟨v, o, S, rfl, h2⟩ := (kPp_iff _ _).mp h
  obtain ⟨e, E', hv, hE', h3⟩ := s_ix_of (σ := σ) h2 hE
  rcases (kA_iff _ _ _).mp h3 with ⟨r, rfl, h4⟩ | ⟨p, rfl, h4⟩
  · rw [kXH_eq, kH_iff] at h4
    obtain ⟨c, hc1, h4⟩ := h4
    obtain ⟨u, vs, h5, hg, h6⟩ := s_ra_of h4 (hH r c hc1)
    obtain ⟨hu, h7⟩ := (kIs_iff _ _).mp h6
    obtain ⟨q, hq⟩ := sv_isI (σ := σ) (ρ := ρ) hu
    obtain ⟨j, hj⟩ := m_get_succ hg
    refine s_stp hc h8 rfl rfl ?_ (hk L (u :: S) F H E' B CF cL cH h7 hL hF hH hE' hB)
    have e1 : sv σ ρ (v_r r) = .ref (j + 1) := by show Value.ref (σ r) = _; rw [hj]
    rw [hj] at h5
    simp only [m_ex, List.map_cons, hv, e1, h5, hq]
  · unfold s_igaP at h4
    rw [kB_iff] at h4
    rcases h4 with ⟨h5, h6⟩ | ⟨-, h4⟩
    · have := Nat.beq_eq.mp h5; subst this
      rw [kX_eq] at h6
      obtain ⟨nx, ce, sl, tb⟩ := B
      have h6' : kIx e 7 (fun i => kGet tb i (fun j => k L (.inr (.inr (.inl j)) :: S) (F, H, E', (nx, ce, sl, tb)))) = true := h6
      rw [kIx_iff] at h6'
      obtain ⟨h7, h9, h10⟩ := h6'
      obtain ⟨j, h11, h12⟩ := (kGet_iff _ _ _).mp h10
      refine s_stp hc h8 rfl rfl ?_ (hk L (v_s j :: S) F H E' _ CF cL cH h12 hL hF hH hE' hB)
      have e1 : sv σ ρ (v_p 999) = .ref 0 := rfl
      simp only [m_ex, List.map_cons, hv, e1]
      rw [if_pos (cI_nn h7 (by omega)), cI_clamp h7 (by omega), hB.2.2.2.1 _ j h11 h9]
      rfl
    · rw [kB_iff] at h4
      rcases h4 with ⟨h5, h6⟩ | ⟨-, h4⟩
      · have := Nat.beq_eq.mp h5; subst this
        rw [kIx_iff] at h6
        obtain ⟨h7, h9, h10⟩ := h6
        obtain ⟨a, h11, h12⟩ := (kGet_iff _ _ _).mp h10
        refine s_stp hc h8 rfl rfl ?_ (hk L (v_i a :: S) F H E' B CF cL cH h12 hL hF hH hE' hB)
        have e1 : sv σ ρ (v_p 1) = .ref (m_p0 + 1) := rfl
        have e2 : m_ra cH (m_p0 + 1) 0 (cI e) = none := by unfold m_ra; rw [m_get_p]
        have e3 : m_preI (m_p0 + 1) (cI e) = .int (cI a) := by
          unfold m_preI
          rw [if_pos (cI_nn h7 (by omega)), if_pos rfl, cI_clamp h7 (by omega)]
          generalize hi : e - 2147483648 = i at h9 h11
          rcases i with _ | _ | _ | _ | _ | i
          · cases h11; rfl
          · cases h11; rfl
          · cases h11; rfl
          · cases h11; rfl
          · cases h11; rfl
          · omega
        simp only [m_ex, List.map_cons, hv, e1]
        rw [show m_p0 + 1 = Nat.succ (999999 + 1) from rfl] at e2 e3 ⊢
        rw [e2]
        dsimp only
        rw [e3]
        rfl
      · rw [kB_f, kIx_iff] at h4
        obtain ⟨h5, h7, h9, h10⟩ := h4
        have := Nat.beq_eq.mp h5; subst this
        obtain ⟨a, h11, h12⟩ := (kGet_iff _ _ _).mp h10
        refine s_stp hc h8 rfl rfl ?_ (hk L (v_i a :: S) F H E' B CF cL cH h12 hL hF hH hE' hB)
        have e1 : sv σ ρ (v_p 2) = .ref (m_p0 + 2) := rfl
        have e2 : m_ra cH (m_p0 + 2) 0 (cI e) = none := by unfold m_ra; rw [m_get_p]
        have e3 : m_preI (m_p0 + 2) (cI e) = .int (cI a) := by
          unfold m_preI
          rw [if_pos (cI_nn h7 (by omega)), if_neg (by generalize m_p0 = p0; omega), if_pos rfl, cI_clamp h7 (by omega)]
          generalize hi : e - 2147483648 = i at h9 h11
          rcases i with _ | _ | _ | _ | _ | _ | _ | _ | _ | i
          · cases h11; rfl
          · cases h11; rfl
          · cases h11; rfl
          · cases h11; rfl
          · cases h11; rfl
          · cases h11; rfl
          · cases h11; rfl
          · cases h11; rfl
          · cases h11; rfl
          · omega
        simp only [m_ex, List.map_cons, hv, e1]
        rw [show m_p0 + 2 = Nat.succ (999999 + 2) from rfl] at e2 e3 ⊢
        rw [e2]
        dsimp only
        rw [e3]
        rfl
/-- loads of truth values, longs, doubles -/
theorem O_xga {t : Nat} {kk : sV → Bool → Bool} {i : Instr} (hc : m_code M pc = some (i, x, y, w, z)) (h8 : ¬ w = 8) (hi : m_inv i = false) (hr : ∀ S, m_rts i S = none) (hex : ∀ cL cS cH r j v b, m_ra cH r t j = some (sv σ ρ v) → kk v b = true → b = true ∧ m_ex scr M pc i x y w z cL (.int j :: .ref r :: cS) cH = some (pc + 1, cL, sv σ ρ v :: cS, cH)) (hk : s_OK scr σ ρ k M (pc + 1)) : s_OK scr σ ρ (s_xga t kk k) M pc := by
  intro L S F H E B CF cL cH h hL hF hH hE hB
  obtain ⟨v, o, S, rfl, h2⟩ := (kPp_iff _ _).mp h
  obtain ⟨e, E', hv, hE', h3⟩ := s_ix_of (σ := σ) h2 hE
  rcases (kA_iff _ _ _).mp h3 with ⟨r, rfl, h4⟩ | ⟨p, rfl, h4⟩
  · rw [kXH_eq, kH_iff] at h4
    obtain ⟨c, hc1, h4⟩ := h4
    obtain ⟨u, vs, h5, hg, h6⟩ := s_ra_of h4 (hH r c hc1)
    obtain ⟨h7, h9⟩ := hex cL (S.map (sv σ ρ)) cH (σ r) (cI e) u _ h5 h6
    refine s_stp hc h8 hi (hr _) ?_ (hk L (u :: S) F H E' B CF cL cH h7 hL hF hH hE' hB)
    simp only [List.map_cons, hv]
    exact h9
  · cases h4
theorem O_bga (hc : m_code M pc = some (.baload, x, y, w, z)) (h8 : ¬ w = 8) (hk : s_OK scr σ ρ k M (pc + 1)) : s_OK scr σ ρ (s_xga 1 kIs k) M pc :=
  O_xga hc h8 rfl (fun _ => rfl) (fun cL cS cH r j v b h1 h2 => by
    obtain ⟨hu, h3⟩ := (kIs_iff _ _).mp h2
    obtain ⟨q, hq⟩ := sv_isI (σ := σ) (ρ := ρ) hu
    refine ⟨h3, ?_⟩
    simp only [m_ex, h1, hq]) hk
theorem O_lga (hc : m_code M pc = some (.laload, x, y, w, z)) (h8 : ¬ w = 8) (hk : s_OK scr σ ρ k M (pc + 1)) : s_OK scr σ ρ (s_xga 3 (fun v b => kLo v (fun _ => b)) k) M pc :=
  O_xga hc h8 rfl (fun _ => rfl) (fun cL cS cH r j v b h1 h2 => by
    obtain ⟨l, rfl, h3⟩ := (kLo_iff _ _).mp h2
    refine ⟨h3, ?_⟩
    obtain ⟨q, hq⟩ := sv_l (σ := σ) (ρ := ρ) l
    rw [hq] at h1 ⊢
    simp only [m_ex, h1]) hk
theorem O_dga (hc : m_code M pc = some (.daload, x, y, w, z)) (h8 : ¬ w = 8) (hk : s_OK scr σ ρ k M (pc + 1)) : s_OK scr σ ρ (s_xga 4 (fun v b => kDo v (fun _ => b)) k) M pc :=
  O_xga hc h8 rfl (fun _ => rfl) (fun cL cS cH r j v b h1 h2 => by
    obtain ⟨l, rfl, h3⟩ := (kDo_iff _ _).mp h2
    refine ⟨h3, ?_⟩
    have h1' : m_ra cH r 4 j = some (.double (UInt64.ofNat l)) := h1
    simp only [m_ex, h1']
    rfl) hk
theorem kRf_iff (t : Nat) (b : Bool) : kRf t b = true ↔ (t = 2 ∨ t = 5 ∨ t = 6) ∧ b = true := by
  unfold kRf
  rw [kB_f, kB_iff, kB_iff]
  constructor
  · rintro ⟨h, hb⟩
    refine ⟨?_, hb⟩
    rcases h with ⟨h, -⟩ | ⟨-, ⟨h, -⟩ | ⟨-, h⟩⟩
    · exact Or.inl (Nat.beq_eq.mp h)
    · exact Or.inr (Or.inl (Nat.beq_eq.mp h))
    · exact Or.inr (Or.inr (Nat.beq_eq.mp h))
  · rintro ⟨rfl | rfl | rfl, hb⟩
    · exact ⟨Or.inl ⟨rfl, rfl⟩, hb⟩
    · exact ⟨Or.inr ⟨rfl, Or.inl ⟨rfl, rfl⟩⟩, hb⟩
    · exact ⟨Or.inr ⟨rfl, Or.inr ⟨rfl, rfl⟩⟩, hb⟩
theorem kSy_iff (v : sV) (kk : Nat → Bool) : kSy v kk = true ↔ ∃ j, v = v_s j ∧ kk j = true := by
  rcases v with e | r | j | p | l | d | j
  · show false = true ↔ _; simp
  · show false = true ↔ _; simp
  · show kk j = true ↔ _; simp
  · show false = true ↔ _; simp
  · show false = true ↔ _; simp
  · show false = true ↔ _; simp
  · show false = true ↔ _; simp
theorem kAt_of {j : Nat} {kk : sV → Bool} : ∀ {es : List (Nat × sV)}, kAt j es kk = true → ∃ v, es.lookup j = some v ∧ kk v = true
  | [], h => by cases h
  | (a, v) :: es, h => by
    have h' : kB (Nat.beq a j) (kk v) (kAt j es kk) = true := h
    rw [kB_iff] at h'
    rcases h' with ⟨h1, h2⟩ | ⟨h1, h2⟩
    · have := Nat.beq_eq.mp h1; subst this
      exact ⟨v, by simp [List.lookup], h2⟩
    · have hne : ¬ j = a := fun q => by rw [q, Nat.beq_eq.mpr rfl] at h1; cases h1
      have hne' : (j == a) = false := by simp [hne]
      obtain ⟨u, h3, h4⟩ := kAt_of h2
      exact ⟨u, by rw [List.lookup_cons, hne']; exact h3, h4⟩
theorem O_aga (hc : m_code M pc = some (.aaload, x, y, w, z)) (h8 : ¬ w = 8) (hk : s_OK scr σ ρ k M (pc + 1)) : s_OK scr σ ρ (s_aga k) M pc := by
  intro L S F H E B CF cL cH h hL hF hH hE hB
  obtain ⟨v, o, S, rfl, h2⟩ := (kPp_iff _ _).mp h
  have fin : ∀ (r e t : Nat) (vs : List Value) (u : sV) (E' : sE), sv σ ρ v = .int (cI e) → m_get cH (σ r) = some (.inl (t, vs)) → (t = 2 ∨ t = 5 ∨ t = 6) → 2147483648 ≤ e → e < 4294967296 → vs[e - 2147483648]? = some (sv σ ρ u) → kAs u (k L (u :: S) (F, H, E', B)) = true → s_eo ρ E' → m_Rn scr CF M pc cL ((v :: v_r r :: S).map (sv σ ρ)) cH := by
    intro r e t vs u E' hv hg ht h3 h4 hu h5 hE'
    obtain ⟨hu2, h7⟩ := (kAs_iff _ _).mp h5
    obtain ⟨q, hq⟩ := sv_isA (σ := σ) (ρ := ρ) hu2
    refine s_stp hc h8 rfl rfl ?_ (hk L (u :: S) F H E' B CF cL cH h7 hL hF hH hE' hB)
    have e1 : sv σ ρ (v_r r) = .ref (σ r) := rfl
    simp only [m_ex, List.map_cons, hv, e1, hg]
    rw [if_pos ⟨ht, cI_nn h3 h4⟩, cI_clamp h3 h4, hu, hq]
  rcases (kA_iff _ _ _).mp h2 with ⟨r, rfl, h4⟩ | ⟨p, rfl, h4⟩
  · rw [kX_eq, kH_iff] at h4
    obtain ⟨c, hc1, h4⟩ := h4
    have hcr := hH r c hc1
    rcases (kC_iff _ _ _ _).mp h4 with ⟨t, n, T, rfl, h5⟩ | ⟨ci, fs, rfl, h5⟩ | ⟨t, n, es, rfl, h5⟩
    · obtain ⟨ht, h5⟩ := (kRf_iff _ _).mp h5
      obtain ⟨e, E', hv, he, hE', h6⟩ := kRes_of (σ := σ) h5 hE
      rw [kIx_iff] at h6
      obtain ⟨h7, h9, h10⟩ := h6
      obtain ⟨u, h11, h12⟩ := (kG2_iff _ _ _).mp h10
      obtain ⟨hn, vs, hg, hl, hvv⟩ := hcr
      obtain ⟨u', h13, h14⟩ := hvv _ h9
      rw [h11] at h13
      cases h13
      exact fin r e t vs u E' hv hg ht h7 he h14 h12 hE'
    · cases h5
    · obtain ⟨ht, h5⟩ := (kRf_iff _ _).mp h5
      obtain ⟨j, rfl, h6⟩ := (kSy_iff _ _).mp h5
      obtain ⟨u, h7, h9⟩ := kAt_of h6
      obtain ⟨vs, hg, h10, -⟩ := hcr
      obtain ⟨h11, h12, h13⟩ := h10 _ _ h7
      exact fin r (ρ j) t vs u E rfl hg ht h11 h12 h13 h9 hE
  · rw [kB_f, kX_eq] at h4
    obtain ⟨h5, h6⟩ := h4
    have := Nat.beq_eq.mp h5; subst this
    obtain ⟨e, E', hv, he, hE', h6⟩ := kRes_of (σ := σ) h6 hE
    rw [kIx_iff, kFrc_eq] at h6
    obtain ⟨h7, h9, h10⟩ := h6
    refine s_stp hc h8 rfl rfl ?_ (hk L (v_p (Nat.add (e - 2147483648) 5) :: S) F H E' B CF cL cH h10 hL hF hH hE' hB)
    have e1 : sv σ ρ (v_p 3) = .ref (m_p0 + 3) := rfl
    have e2 : sv σ ρ (v_p (Nat.add (e - 2147483648) 5)) = .ref (m_p0 + 5 + (e - 2147483648)) := by
      rw [sv_p (by show ¬ e - 2147483648 + 5 = 999; omega)]
      have e3 : m_p0 + (e - 2147483648 + 5) = m_p0 + 5 + (e - 2147483648) := by
        generalize m_p0 = p0
        omega
      exact congrArg Value.ref e3
    simp only [m_ex, List.map_cons, hv, e1, m_get_p]
    rw [if_pos ⟨trivial, cI_nn h7 he, by rw [cI_clamp h7 he]; exact h9⟩, cI_clamp h7 he, e2]
end SO3
