/-! disc: the class's round as a block of its own -/
section D3
variable {scr : List Int32} {σ ρ : Nat → Nat}
theorem s_lo.st1d {L : List sV} {cL : mL} {i : Nat} {v : Value} (h : s_lo σ ρ L cL) (hp : ∀ u, 0 < i → L[i - 1]? = some u → ¬ v_two u) : s_lo σ ρ (L.set i (v_d 0)) (m_st1 i v cL) := by
  intro j u hj hn
  by_cases hij : j = i
  · subst hij
    rw [List.getElem?_set] at hj
    simp only [if_true] at hj
    split at hj
    · cases hj; exact absurd rfl hn
    · cases hj
  · rw [List.getElem?_set_ne (Ne.symm hij)] at hj
    unfold m_st1
    rw [m_ld_ins_ne _ (Ne.symm hij)]
    refine m_ld_filter cL (h j u hj hn) ?_
    have h1 : (j == i) = false := by simp [hij]
    simp only [h1, Bool.not_false, Bool.true_and]
    by_cases h2 : j + 1 = i
    · have h3 := hp u (by omega) (by rw [show i - 1 = j by omega]; exact hj)
      have h4 := sv_cat1 (σ := σ) (ρ := ρ) h3
      simp [h4]
    · simp [h2]
theorem m_clp_of {e : Nat} (h1 : 2147483648 ≤ e) (h2 : e ≤ 2147483903) : m_clp (cI e) = cI e := by
  unfold m_clp
  have e1 : (255 : Int32) = cI 2147483903 := by decide
  have e2 : ¬ (255 : Int32) < cI e := by rw [e1, cI_lt (by decide) (by omega)]; omega
  rw [if_neg e2]
  by_cases h : (0 : Int32) < cI e
  · rw [if_pos h]
  · rw [if_neg h]
    rw [← cI_zero, cI_lt (by decide) (by omega)] at h
    rw [show e = 2147483648 by omega, cI_zero]
theorem cI_idx {i j : Nat} (hi : i < 8) (hj : j < 8) : cI (2147483648 + i) * cI 2147483656 + cI (2147483648 + j) = cI (2147483648 + (i * 8 + j)) := by
  have : ∀ i : Fin 8, ∀ j : Fin 8, cI (2147483648 + i.val) * cI 2147483656 + cI (2147483648 + j.val) = cI (2147483648 + (i.val * 8 + j.val)) := by decide
  exact this ⟨i, hi⟩ ⟨j, hj⟩
end D3
noncomputable section
def kSn (v : sV) (j : Nat) (b : Bool) : Bool := kSy v (fun i => kB (Nat.beq i j) b false)
/-- a sheet of 8 columns of the class's or the reference's kind: its row of values -/
def kSh (x : Nat) (H : sH) (q : Nat) (k : Nat → Nat → List (List sV) → Bool) : Bool := kH H q (fun c => kCo c x (fun gs => kP3 gs (fun w h v t => kNil t (kI w (fun w => kB (Nat.beq w 2147483656) (kI h (fun _ => kA v (fun u => kH H u (fun c => kCa c 0 (fun n T => kB (Nat.ble 64 n) (k u n T) false))) (fun _ => false))) false)))))
/-- the cell k, nought, becomes its symbol -/
def kCl (H : sH) (u n k : Nat) (T : List (List sV)) (kk : sH → Bool) : Bool := kG2 T k (fun old => kZ old (kFrc (Nat.add k 10) (fun s => kS2 T k (.inr (.inr (.inl s))) (fun T => kHs H u (.inl (0, n, T)) kk))) false)
def s_mgC (r : sR) : sK := fun L S X => kNil S (kX X (fun F H E B => (kGet L 7 (fun vr => kI vr (fun er => kGet L 8 (fun vc => kI vc (fun ec => (kIx er 8 (fun i => kIx ec 8 (fun j => kGet L 0 (fun o => (kA o (fun ob => kH H ob (fun c => kCo c 5 (fun fs => kGet fs 1 (fun qv => kA qv (fun q => (kSh 3 H q (fun u n T => kFrc (Nat.add (Nat.mul i 8) j) (fun k => kCl H u n k T (fun H => (kGet L 2 (fun v => kSn v 2 (kGet L 3 (fun v => kSn v 3 (kGet L 4 (fun v => kSn v 4 (kGet L 5 (fun v => kSn v 5 (kRg v E (fun lo hi => kB (Nat.ble 2147483648 lo) (kB (Nat.ble hi 2147483903) (kSl L 9 (.inr (.inr (.inr (.inr (.inr (.inl 0)))))) (fun L => kSl L 10 (.inr (.inr (.inr (.inr (.inr (.inl 0)))))) (fun L => r 56 120 L [] (F, H, E, B)))) false) false))))))))))))))) (fun _ => false))))) (fun _ => false)))))))))))))
end
section D4
variable {scr : List Int32} {σ ρ : Nat → Nat}
theorem kSn_iff (v : sV) (j : Nat) (b : Bool) : kSn v j b = true ↔ v = v_s j ∧ b = true := by
  unfold kSn
  rw [kSy_iff]
  constructor
  · rintro ⟨i, h1, h2⟩
    rw [kB_f] at h2
    rw [← Nat.beq_eq.mp h2.1]
    exact ⟨h1, h2.2⟩
  · rintro ⟨h1, h2⟩
    exact ⟨j, h1, by rw [kB_f]; exact ⟨Nat.beq_eq.mpr rfl, h2⟩⟩
theorem kSh_of {x : Nat} (hx : ¬ x = 98) {H : sH} {cH : List mC} {q : Nat} {kk : Nat → Nat → List (List sV) → Bool} (h : kSh x H q kk = true) (hH : s_ho σ ρ H cH) : ∃ (u n hh : Nat) (T : List (List sV)) (vs : List Value), hg H u = some (.inl (0, n, T)) ∧ 64 ≤ n ∧ m_get cH (σ q) = some (.inr (x, [.int (cI 2147483656), .int (cI hh), .ref (σ u)])) ∧ m_get cH (σ u) = some (.inl (0, vs)) ∧ vs.length = n ∧ n ≤ 2147483648 ∧ (∀ i, i < n → ∃ v, g2 T i = some v ∧ vs[i]? = some (sv σ ρ v)) ∧ kk u n T = true := by
  unfold kSh at h
  rw [kH_iff] at h
  obtain ⟨c, hc, h1⟩ := h
  obtain ⟨gs, rfl, h2⟩ := (kCo_iff _ _ _).mp h1
  obtain ⟨w, hh, v, t, rfl, h3⟩ := (kP3_iff _ _).mp h2
  rw [kNil_iff] at h3
  obtain ⟨rfl, h3⟩ := h3
  obtain ⟨w, rfl, h4⟩ := (kI_iff _ _).mp h3
  rw [kB_f] at h4
  obtain ⟨hw, h4⟩ := h4
  have := Nat.beq_eq.mp hw; subst this
  obtain ⟨hh, rfl, h5⟩ := (kI_iff _ _).mp h4
  rcases (kA_iff _ _ _).mp h5 with ⟨u, rfl, h6⟩ | ⟨p, rfl, h6⟩
  · rw [kH_iff] at h6
    obtain ⟨c, hc2, h7⟩ := h6
    obtain ⟨n, T, rfl, h8⟩ := (kCa_iff _ _ _).mp h7
    rw [kB_f, Nat.ble_eq] at h8
    obtain ⟨hn, vs, hge, hl, hv⟩ := hH u _ hc2
    have hcr : x = 98 ∨ m_get cH (σ q) = some (.inr (x, [.int (cI 2147483656), .int (cI hh), .ref (σ u)])) := hH q _ hc
    exact ⟨u, n, hh, T, vs, hc2, h8.1, hcr.resolve_left hx, hge, hl, hn, hv, h8.2⟩
  · cases h6
/-- a cell that was nought is its symbol: written or not -/
theorem kCl_of (hσ : s_in σ) {H : sH} {cH : List mC} {u n k : Nat} {T : List (List sV)} {vs : List Value} {kk : sH → Bool} (h : kCl H u n k T kk = true) (hH : s_ho σ ρ H cH) (hk : k < n) (hge : m_get cH (σ u) = some (.inl (0, vs))) (hl : vs.length = n) (hn : n ≤ 2147483648) (hv : ∀ i, i < n → ∃ v, g2 T i = some v ∧ vs[i]? = some (sv σ ρ v)) : ∃ H', kk H' = true ∧ (cI (ρ (k + 10)) = 0 → s_ho σ ρ H' cH) ∧ s_ho σ ρ H' (m_set cH (σ u) (.inl (0, vs.set k (.int (cI (ρ (k + 10))))))) := by
  unfold kCl at h
  obtain ⟨old, ho, h1⟩ := (kG2_iff _ _ _).mp h
  rcases (kZ_iff _ _ _).mp h1 with ⟨rfl, h2⟩ | ⟨-, h2⟩
  rotate_left
  · cases h2
  rw [kFrc_eq] at h2
  obtain ⟨T', h3, h4⟩ := kS2_of h2
  obtain ⟨H', h5, h6⟩ := kHs_of h3
  refine ⟨H', h5, fun h0 => ?_, ?_⟩
  · intro j c hj
    rw [h6] at hj
    split at hj
    · next q =>
      subst q
      cases hj
      refine ⟨hn, vs, hge, hl, fun i hi => ?_⟩
      rw [h4]
      by_cases hq : i = k
      · rw [if_pos hq, hq]
        obtain ⟨v, a1, a2⟩ := hv k hk
        rw [ho] at a1
        cases a1
        refine ⟨_, rfl, ?_⟩
        rw [a2]
        show some (Value.int (cI 2147483648)) = some (Value.int (cI (ρ (k + 10))))
        rw [h0, cI_zero]
      · rw [if_neg hq]
        exact hv i hi
    · exact hH j c hj
  · refine hH.set hσ hge h6 (fun qq => ⟨hn, _, qq, by rw [List.length_set]; exact hl, fun i hi => ?_⟩)
    rw [h4]
    by_cases hq : i = k
    · rw [if_pos hq, hq, List.getElem?_set_self (by omega)]
      exact ⟨_, rfl, rfl⟩
    · rw [if_neg hq, List.getElem?_set_ne (Ne.symm hq)]
      exact hv i hi
/-- what disc makes of each field -/
def s_dsc (ρ : Nat → Nat) : Prop := ∀ i j, i < 8 → j < 8 → cI (ρ (i * 8 + j + 10)) = if cI (ρ 4) * cI (ρ 4) < (cI (2147483648 + j) - cI (ρ 2)) * (cI (2147483648 + j) - cI (ρ 2)) + (cI (2147483648 + i) - cI (ρ 3)) * (cI (2147483648 + i) - cI (ρ 3)) then 0 else cI (ρ 5)
theorem O_mgC (hσ : s_in σ) (hd : s_dsc ρ) {r : sR} (hr : ∀ M pc, s_OK scr σ ρ (r M pc) M pc) : s_OK scr σ ρ (s_mgC r) 56 76 := by
  intro L S F H E B CF cL cH g0 hL hF hH hE hB
  obtain ⟨rfl, g1⟩ := (kNil_iff _ _).mp g0
  rw [kX_eq] at g1
  obtain ⟨vr, h7, g2'⟩ := (kGet_iff _ _ _).mp g1
  obtain ⟨er, rfl, g3⟩ := (kI_iff _ _).mp g2'
  obtain ⟨vc, h8, g4⟩ := (kGet_iff _ _ _).mp g3
  obtain ⟨ec, rfl, g5⟩ := (kI_iff _ _).mp g4
  obtain ⟨a1, a2, g6⟩ := (kIx_iff _ _ _).mp g5
  obtain ⟨b1, b2, g7⟩ := (kIx_iff _ _ _).mp g6
  obtain ⟨i, rfl⟩ : ∃ i, er = 2147483648 + i := ⟨er - 2147483648, by omega⟩
  obtain ⟨j, rfl⟩ : ∃ j, ec = 2147483648 + j := ⟨ec - 2147483648, by omega⟩
  rw [Nat.add_sub_cancel_left] at a2 b2
  rw [Nat.add_sub_cancel_left, Nat.add_sub_cancel_left] at g7
  obtain ⟨o, h0, g8⟩ := (kGet_iff _ _ _).mp g7
  rcases (kA_iff _ _ _).mp g8 with ⟨ob, rfl, g9⟩ | ⟨p, rfl, g9⟩
  rotate_left
  · cases g9
  obtain ⟨c, hc, g10⟩ := (kH_iff _ _ _).mp g9
  obtain ⟨fs, rfl, g11⟩ := (kCo_iff _ _ _).mp g10
  obtain ⟨qv, hqv, g12⟩ := (kGet_iff _ _ _).mp g11
  rcases (kA_iff _ _ _).mp g12 with ⟨q, rfl, g13⟩ | ⟨p, rfl, g13⟩
  rotate_left
  · cases g13
  obtain ⟨u, n, hh, T, vs, hu, hn64, hq, hge, hl, hn, hv, g14⟩ := kSh_of (by decide) g13 hH
  rw [kFrc_eq] at g14
  obtain ⟨H', g15, n1, n2⟩ := kCl_of hσ (k := i * 8 + j) g14 hH (by omega) hge hl hn hv
  obtain ⟨v, h2, g16⟩ := (kGet_iff _ _ _).mp g15
  obtain ⟨rfl, g17⟩ := (kSn_iff _ _ _).mp g16
  obtain ⟨v, h3, g18⟩ := (kGet_iff _ _ _).mp g17
  obtain ⟨rfl, g19⟩ := (kSn_iff _ _ _).mp g18
  obtain ⟨v, h4, g20⟩ := (kGet_iff _ _ _).mp g19
  obtain ⟨rfl, g21⟩ := (kSn_iff _ _ _).mp g20
  obtain ⟨v, h5, g22⟩ := (kGet_iff _ _ _).mp g21
  obtain ⟨rfl, g23⟩ := (kSn_iff _ _ _).mp g22
  obtain ⟨e, lo, hi, e1, e2, e3, e4, g24⟩ := kRg_of (σ := σ) g23 hE
  rw [kB_f, kB_f, Nat.ble_eq, Nat.ble_eq] at g24
  obtain ⟨e5, e6, g25⟩ := g24
  obtain ⟨s1, g26, s2⟩ := kSl_of g25
  obtain ⟨s3, g27, s4⟩ := kSl_of g26
  have hcr : (5 : Nat) = 98 ∨ m_get cH (σ ob) = some (.inr (5, fs.map (sv σ ρ))) := hH ob _ hc
  have hfs : (fs.map (sv σ ρ))[1]? = some (.ref (σ q)) := by rw [List.getElem?_map, hqv]; rfl
  have ne : ∀ j : Nat, v_s j ≠ v_d 0 := fun j h => by cases h
  have hv5 : cI (ρ 5) = cI e := by
    have : Value.int (cI (ρ 5)) = Value.int (cI e) := e1
    injection this
  have hcell := hd i j a2 b2
  have fin : ∀ cH', s_ho σ ρ H' cH' → s_bo scr σ ρ B cH' → m_Rn scr CF 56 120 (m_st1 10 (.int (cI (2147483648 + i) - cI (ρ 3))) (m_st1 9 (.int (cI (2147483648 + j) - cI (ρ 2))) cL)) [] cH' := fun cH' q1 q2 => hr 56 120 _ [] F H' E B CF _ cH' g27 ((hL.st1d s2).st1d s4) hF q1 hE q2
  refine disc_R (n := cI (ρ 5)) (ra := cI (ρ 4)) (k := i * 8 + j) (hL 0 _ h0 (by rintro q; cases q)) (hL 2 _ h2 (ne 2)) (hL 3 _ h3 (ne 3)) (hL 4 _ h4 (ne 4)) (hL 5 _ h5 (ne 5)) (hL 7 _ h7 (by rintro q; cases q)) (hL 8 _ h8 (by rintro q; cases q)) (hcr.resolve_left (by decide)) hfs hq hge (cI_idx a2 b2) (by omega) (by omega) (fun hlt => ?_) (fun hlt => ?_)
  · rw [if_pos hlt] at hcell
    exact fin cH (n1 hcell) hB
  · rw [if_neg hlt] at hcell
    rw [hv5, m_clp_of (by omega) (by omega), ← hv5, ← hcell]
    exact fin _ n2 (hB.set hge (by simp [m_sz]))
end D4
