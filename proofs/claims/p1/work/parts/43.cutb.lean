/-! the call of cut as a piece of a block; starts of runs with blocks that want nothing of the symbols -/
noncomputable section
def kAz (T : List (List sV)) (b : Bool) : Bool := List.rec (motive := fun _ => Bool) b (fun r _ ih => List.rec (motive := fun _ => Bool) ih (fun v _ ih => kZ v ih false) r) T
def s_cutK (k : sK) : sK := fun L S X => kPop S (fun o S => kCt S (kA o (fun q => kXH X (fun H => kSh 6 H q (fun _ n T => kB (Nat.beq n 64) (kAz T (k L (.inl 2147483648 :: S) X)) false))) (fun _ => false)))
def bo_167_76 (r : sR) : sK := s_ald 3 (s_ald 3 (s_cutK (r 167 81)))
def bo_169_44 (r : sR) : sK := s_xsa 0 kIs (s_dup (s_push (.inl 2147483653) (s_ald 0 (s_cutK (r 169 51)))))
def O_cut : sO := [(169, [(44, bo_169_44)]), (167, [(76, bo_167_76)])]
end
theorem kAz_row {c : Bool} : ∀ {r : List sV}, (List.rec (motive := fun _ => Bool) c (fun v _ ih => kZ v ih false) r : Bool) = true → (∀ v ∈ r, v = v_i 2147483648) ∧ c = true
  | [], h => ⟨fun v hv => (by cases hv), h⟩
  | a :: r, h => by
    have h' : kZ a (List.rec (motive := fun _ => Bool) c (fun v _ ih => kZ v ih false) r) false = true := h
    rcases (kZ_iff _ _ _).mp h' with ⟨h1, h2⟩ | ⟨-, h2⟩
    · obtain ⟨h3, h4⟩ := kAz_row h2
      refine ⟨fun v hv => ?_, h4⟩
      rcases List.mem_cons.mp hv with h5 | h5
      · rw [h5, h1]
      · exact h3 v h5
    · cases h2
theorem kAz_mem {b : Bool} : ∀ {T : List (List sV)}, kAz T b = true → (∀ r ∈ T, ∀ v ∈ r, v = v_i 2147483648) ∧ b = true
  | [], h => ⟨fun r hr => (by cases hr), h⟩
  | a :: T, h => by
    have h' : (List.rec (motive := fun _ => Bool) (kAz T b) (fun v _ ih => kZ v ih false) a : Bool) = true := h
    obtain ⟨h1, h2⟩ := kAz_row h'
    obtain ⟨h3, h4⟩ := kAz_mem h2
    refine ⟨fun r hr => ?_, h4⟩
    rcases List.mem_cons.mp hr with h5 | h5
    · rw [h5]; exact h1
    · exact h3 r h5
theorem kAz_of {b : Bool} {T : List (List sV)} (h : kAz T b = true) : (∀ i v, g2 T i = some v → v = v_i 2147483648) ∧ b = true := by
  obtain ⟨h1, h2⟩ := kAz_mem h
  refine ⟨fun i v hv => ?_, h2⟩
  unfold g2 at hv
  obtain ⟨r, hr, hv'⟩ := Option.bind_eq_some_iff.mp hv
  exact h1 r (List.mem_of_getElem? hr) v (List.mem_of_getElem? hv')
section CB
variable {scr : List Int32} {σ ρ : Nat → Nat} {M pc x y w : Nat} {z : Int} {k : sK}
theorem O_cutK {i : Instr} (hc : m_code M pc = some (i, 124, y, w, z)) (hw : w = 1 ∨ w = 2) (hi : m_inv i = true) (hk : s_OK scr σ ρ k M (pc + 3)) : s_OK scr σ ρ (s_cutK k) M pc := by
  intro L S F H E B CF cL cH g0 hL hF hH hE hB
  obtain ⟨o, S, rfl, g1⟩ := (kPop_iff _ _).mp g0
  obtain ⟨h8, g2'⟩ := s_ct (σ := σ) (ρ := ρ) g1
  rcases (kA_iff _ _ _).mp g2' with ⟨q, rfl, g3⟩ | ⟨p, rfl, g3⟩
  rotate_left
  · cases g3
  have g3' : kSh 6 H q (fun _ n T => kB (Nat.beq n 64) (kAz T (k L (.inl 2147483648 :: S) (F, H, E, B))) false) = true := g3
  obtain ⟨u, n, hh, T, vs, hu, hn64, hq, hge, hl, hn, hv, g4⟩ := kSh_of (by decide) g3' hH
  rw [kB_f] at g4
  obtain ⟨h64, g5⟩ := g4
  have h64' : n = 64 := Nat.beq_eq.mp h64
  rw [h64'] at hl hv
  obtain ⟨hz, g6⟩ := kAz_of g5
  have e0 : sv σ ρ (v_i 2147483648) = .int 0 := by show Value.int (cI 2147483648) = _; rw [cI_zero]
  rw [List.map_cons]
  show m_Rn scr CF M pc cL (.ref (σ q) :: S.map (sv σ ρ)) cH
  refine cut_C hq hge hl (fun i hi => ?_) hc hw hi h8 ?_
  · obtain ⟨v, a1, a2⟩ := hv i hi
    rw [a2, hz i v a1, e0]
  · have qq := hk L (v_i 2147483648 :: S) F H E B CF cL cH g6 hL hF hH hE hB
    rw [List.map_cons, e0] at qq
    exact qq
set_option maxRecDepth 100000 in
theorem bo_e7 (r : sR) : bo_167_76 r = s_cmp r 167 (s_cutK (r 167 81)) (s_row 167 42 2) := rfl
set_option maxRecDepth 100000 in
theorem bo_e8 (r : sR) : bo_169_44 r = s_cmp r 169 (s_cutK (r 169 51)) (s_row 169 34 4) := rfl
set_option maxRecDepth 100000 in
theorem bo_chk4 : (s_inc1 (m_prog 167) 0 && s_inc1 (m_prog 169) 0 && s_chk 167 (some 78) (s_row 167 42 2) 76 && s_chk 169 (some 48) (s_row 169 34 4) 44) = true := by decide +kernel
set_option maxRecDepth 100000 in
theorem m_cutc : (∃ n y z, m_code 167 78 = some (.invokevirtual n, 124, y, 1, z)) ∧ ∃ n y z, m_code 169 48 = some (.invokevirtual n, 124, y, 1, z) := ⟨⟨_, _, _, rfl⟩, ⟨_, _, _, rfl⟩⟩
theorem O_cut_ok (hσ : s_in σ) : s_Oo scr σ ρ O_cut := by
  have hk := bo_chk4
  simp only [Bool.and_eq_true] at hk
  obtain ⟨⟨⟨k1, k2⟩, k3⟩, k4⟩ := hk
  obtain ⟨⟨n1, y1, z1, c1⟩, n2, y2, z2, c2⟩ := m_cutc
  intro M bl h1 pc b h2 r hr
  simp only [O_cut, List.mem_cons, List.mem_nil_iff, or_false] at h1
  rcases h1 with h1 | h1
  · cases h1
    simp only [List.mem_cons, List.mem_nil_iff, or_false] at h2
    cases h2
    rw [bo_e8]
    exact s_rows_fin hσ hr k2 k4 (O_cutK c2 (Or.inl rfl) rfl (hr 169 51))
  · cases h1
    simp only [List.mem_cons, List.mem_nil_iff, or_false] at h2
    cases h2
    rw [bo_e7]
    exact s_rows_fin hσ hr k1 k3 (O_cutK c1 (Or.inl rfl) rfl (hr 167 81))
variable {E : sE} {n : Nat} {O : sO}
theorem c_1o (hO : ∀ (σ ρ : Nat → Nat), s_in σ → s_Oo scr σ ρ O) (hl : scr.length = 7) (h1 : s_in4 scr 1) (hE : s_eo (rr scr) E) (hrun : s_runO O n 244 pc s_L0 [] (s_X s_H1 E s_t0) = true) : m_Rn scr [] 244 pc m_L0 [] m_H0 := by
  have hk := ck_all
  simp only [Bool.and_eq_true] at hk
  obtain ⟨a, b⟩ := h1
  rcases (show rr scr 1 = 2147483648 + 0 ∨ rr scr 1 = 2147483648 + 1 ∨ rr scr 1 = 2147483648 + 2 ∨ rr scr 1 = 2147483648 + 3 by omega) with h | h | h | h
  · exact s_startO n hl (p := [0, 1, 2, 3]) (q := [0, 1, 2, 3]) (by decide) (hO _ _) (pa_one h) hk.1.1.1.2 hE (s_tb0 hl) hrun
  · exact s_startO n hl (p := [1, 0, 2, 3]) (q := [1, 0, 2, 3]) (by decide) (hO _ _) (pa_one h) hk.1.1.2 hE (s_tb0 hl) hrun
  · exact s_startO n hl (p := [2, 1, 0, 3]) (q := [2, 1, 0, 3]) (by decide) (hO _ _) (pa_one h) hk.1.2 hE (s_tb0 hl) hrun
  · exact s_startO n hl (p := [3, 1, 2, 0]) (q := [3, 1, 2, 0]) (by decide) (hO _ _) (pa_one h) hk.2 hE (s_tb0 hl) hrun
theorem c_fo (hO : ∀ (σ ρ : Nat → Nat), s_in σ → s_Oo scr σ ρ O) (hl : scr.length = 7) (hE : s_eo (rr scr) E) (hrun : s_runO O n 244 pc s_L0 [] (s_X s_Hf E s_t0) = true) : m_Rn scr [] 244 pc m_L0 [] m_H0 := by
  have hk := ck_all
  simp only [Bool.and_eq_true] at hk
  exact s_startO n hl (p := [0, 1, 2, 3]) (q := [0, 1, 2, 3]) (by decide) (hO _ _) pa_nil hk.1.1.1.1.2 hE (s_tb0 hl) hrun
end CB
