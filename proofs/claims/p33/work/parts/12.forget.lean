/-! locals that are no longer asked may be forgotten -/
def m_Lr (L L' : mL) : Prop := (∀ q ∈ L, q ∈ L') ∧ ∀ q ∈ L', ∀ q' ∈ L', q.1 = q'.1 → q = q'
theorem m_ld_in {L : mL} {i : Nat} {v : Value} (h : m_ld L i = some v) : (i, v) ∈ L := by
  obtain ⟨q, hq, rfl⟩ := Option.map_eq_some_iff.mp h
  have h3 : q.1 = i := by simpa using List.find?_some hq
  subst h3
  exact List.mem_of_find?_eq_some hq
theorem m_Lr.ld {L L' : mL} (h : m_Lr L L') {i : Nat} {v : Value} (hl : m_ld L i = some v) : m_ld L' i = some v := by
  have hm := h.1 _ (m_ld_in hl)
  unfold m_ld
  cases hf : L'.find? (fun q => q.1 == i) with
  | none => exact absurd (List.find?_eq_none.mp hf _ hm) (by simp)
  | some q =>
    have h3 : q.1 = i := by simpa using List.find?_some hf
    have := h.2 _ (List.mem_of_find?_eq_some hf) _ hm h3
    rw [this]; rfl
theorem m_ins_in (i : Nat) (v : Value) (q : Nat × Value) : ∀ (L : mL), (q = (i, v) ∨ q ∈ L) → q ∈ m_ins i v L
  | [], h => by
    rcases h with rfl | h
    · exact List.mem_singleton.mpr rfl
    · cases h
  | r :: L, h => by
    unfold m_ins
    split
    · rcases h with rfl | h
      · exact List.mem_cons_self
      · exact List.mem_cons_of_mem _ h
    · rcases h with h | h
      · exact List.mem_cons_of_mem _ (m_ins_in i v q L (Or.inl h))
      · rcases List.mem_cons.mp h with rfl | h
        · exact List.mem_cons_self
        · exact List.mem_cons_of_mem _ (m_ins_in i v q L (Or.inr h))
theorem m_Lr.ins {L L' : mL} (h : m_Lr L L') (i : Nat) (v : Value) (f : Nat × Value → Bool) (hf : ∀ q : Nat × Value, f q = true → q.1 ≠ i) : m_Lr (m_ins i v (L.filter f)) (m_ins i v (L'.filter f)) := by
  refine ⟨fun q hq => ?_, fun q hq q' hq' he => ?_⟩
  · rcases m_ins_mem i v q _ hq with hq | hq
    · exact m_ins_in _ _ _ _ (Or.inl hq)
    · obtain ⟨h1, h2⟩ := List.mem_filter.mp hq
      exact m_ins_in _ _ _ _ (Or.inr (List.mem_filter.mpr ⟨h.1 _ h1, h2⟩))
  · rcases m_ins_mem i v q _ hq with hq | hq <;> rcases m_ins_mem i v q' _ hq' with hq' | hq'
    · rw [hq, hq']
    · obtain ⟨h1, h2⟩ := List.mem_filter.mp hq'
      exact absurd (he.symm.trans (by rw [hq])) (hf _ h2)
    · obtain ⟨h1, h2⟩ := List.mem_filter.mp hq
      exact absurd (he.trans (by rw [hq'])) (hf _ h2)
    · exact h.2 _ (List.mem_filter.mp hq).1 _ (List.mem_filter.mp hq').1 he
theorem m_Lr.st1 {L L' : mL} (h : m_Lr L L') (i : Nat) (v : Value) : m_Lr (m_st1 i v L) (m_st1 i v L') := h.ins i v _ (fun q hq e => by simp [e] at hq)
theorem m_Lr.st2 {L L' : mL} (h : m_Lr L L') (i : Nat) (v : Value) : m_Lr (m_st2 i v L) (m_st2 i v L') := h.ins i v _ (fun q hq e => by simp [e] at hq)
def m_nl : Instr → Bool
  | .iload_n _ => false
  | .iload _ => false
  | .lload_n _ => false
  | .lload _ => false
  | .aload_n _ => false
  | .aload _ => false
  | .istore_n _ => false
  | .istore _ => false
  | .lstore_n _ => false
  | .lstore _ => false
  | .astore_n _ => false
  | .astore _ => false
  | .iinc _ _ => false
  | _ => true
set_option maxHeartbeats 4000000 in
theorem m_ex_nl {scr : List Int32} {M pc : Nat} {i : Instr} {x y w : Nat} {z : Int} {S : List Value} {H : List mC} (hn : m_nl i = true) (L : mL) : m_ex scr M pc i x y w z L S H = (m_ex scr M pc i x y w z [] S H).map (fun t => (t.1, L, t.2.2)) := by
  cases i <;> first | exact absurd hn Bool.false_ne_true | rfl | (simp only [m_ex, m_b2, m_d2, m_l2, m_jmp, m_math]; (repeat' split) <;> first | rfl | (rw [Option.map_map]; rfl) | (simp_all; done) | skip)
theorem m_ex_L {scr : List Int32} {M pc : Nat} {i : Instr} {x y w : Nat} {z : Int} {L L' L1 : mL} {S S1 : List Value} {H H1 : List mC} {q : Nat} (h : m_ex scr M pc i x y w z L S H = some (q, L1, S1, H1)) (hL : m_Lr L L') : ∃ L2, m_ex scr M pc i x y w z L' S H = some (q, L2, S1, H1) ∧ m_Lr L1 L2 := by
  by_cases hn : m_nl i = true
  · rw [m_ex_nl hn L] at h
    rw [m_ex_nl hn L']
    obtain ⟨⟨q0, l0, s0, h0⟩, ht, he⟩ := Option.map_eq_some_iff.mp h
    cases he
    exact ⟨L', by rw [ht]; rfl, hL⟩
  · cases i
    case iload_n k => obtain ⟨v, hv, hf, rfl, rfl, rfl, rfl⟩ := m_lv_of h; exact ⟨L', by simp [m_ex, m_lv, hL.ld hv, hf], hL⟩
    case iload k => obtain ⟨v, hv, hf, rfl, rfl, rfl, rfl⟩ := m_lv_of h; exact ⟨L', by simp [m_ex, m_lv, hL.ld hv, hf], hL⟩
    case lload_n k => obtain ⟨v, hv, hf, rfl, rfl, rfl, rfl⟩ := m_lv_of h; exact ⟨L', by simp [m_ex, m_lv, hL.ld hv, hf], hL⟩
    case lload k => obtain ⟨v, hv, hf, rfl, rfl, rfl, rfl⟩ := m_lv_of h; exact ⟨L', by simp [m_ex, m_lv, hL.ld hv, hf], hL⟩
    case aload_n k => obtain ⟨v, hv, hf, rfl, rfl, rfl, rfl⟩ := m_lv_of h; exact ⟨L', by simp [m_ex, m_lv, hL.ld hv, hf], hL⟩
    case aload k => obtain ⟨v, hv, hf, rfl, rfl, rfl, rfl⟩ := m_lv_of h; exact ⟨L', by simp [m_ex, m_lv, hL.ld hv, hf], hL⟩
    case istore_n k => obtain ⟨v, rfl, hf, rfl, rfl, rfl⟩ := m_sv1_of h; exact ⟨_, by simp only [m_ex, m_sv1]; rw [if_pos hf], hL.st1 _ _⟩
    case istore k => obtain ⟨v, rfl, hf, rfl, rfl, rfl⟩ := m_sv1_of h; exact ⟨_, by simp only [m_ex, m_sv1]; rw [if_pos hf], hL.st1 _ _⟩
    case astore_n k => obtain ⟨v, rfl, hf, rfl, rfl, rfl⟩ := m_sv1_of h; exact ⟨_, by simp only [m_ex, m_sv1]; rw [if_pos hf], hL.st1 _ _⟩
    case astore k => obtain ⟨v, rfl, hf, rfl, rfl, rfl⟩ := m_sv1_of h; exact ⟨_, by simp only [m_ex, m_sv1]; rw [if_pos hf], hL.st1 _ _⟩
    case lstore_n k => obtain ⟨v, rfl, hf, rfl, rfl, rfl⟩ := m_sv2_of h; exact ⟨_, by simp only [m_ex, m_sv2]; rw [if_pos hf], hL.st2 _ _⟩
    case lstore k => obtain ⟨v, rfl, hf, rfl, rfl, rfl⟩ := m_sv2_of h; exact ⟨_, by simp only [m_ex, m_sv2]; rw [if_pos hf], hL.st2 _ _⟩
    case iinc k n =>
      simp only [m_ex] at h
      split at h
      · next v hv => cases h; exact ⟨_, by simp only [m_ex, hL.ld hv], hL.st1 _ _⟩
      · cases h
    all_goals exact absurd rfl hn
theorem m_go_L (scr : List Int32) : ∀ (n : Nat) (M pc : Nat) (L L' : mL) (S : List Value) (H : List mC) (Y : mR), m_go scr n M pc L S H = some Y → m_Lr L L' → m_go scr n M pc L' S H = some Y
  | 0, M, pc, L, L', S, H, Y, h, _ => by cases h
  | n + 1, M, pc, L, L', S, H, Y, h, hL => by
    rw [m_go_s] at h ⊢
    unfold m_st at h ⊢
    cases hcode : m_code M pc with
    | none => rw [hcode] at h; cases h
    | some t =>
      obtain ⟨i, x, y, w, z⟩ := t
      rw [hcode] at h
      dsimp only at h ⊢
      by_cases hw : (w = 1 ∨ w = 2) ∧ m_inv i = true
      · rw [if_pos hw] at h ⊢
        cases hcut : m_cut x S H with
        | none => rw [hcut] at h; cases h
        | some t2 =>
          obtain ⟨as, S'⟩ := t2
          rw [hcut] at h
          dsimp only at h ⊢
          by_cases hcat : m_cat as ≤ m_nL x
          · rw [if_pos hcat] at h ⊢
            cases hcall : m_go scr n x 0 (lv_args 0 as) [] H with
            | none => rw [hcall] at h; cases h
            | some t3 =>
              obtain ⟨v, H1⟩ := t3
              rw [hcall] at h
              dsimp only at h ⊢
              exact m_go_L scr n _ _ _ _ _ _ _ h hL
          · rw [if_neg hcat] at h; cases h
      · rw [if_neg hw] at h ⊢
        cases hr : m_rts i S with
        | some rv => rw [hr] at h; exact h
        | none =>
          rw [hr] at h
          dsimp only at h ⊢
          cases hex : m_ex scr M pc i x y w z L S H with
          | none => rw [hex] at h; cases h
          | some t4 =>
            obtain ⟨pc', L1, S1, H1⟩ := t4
            rw [hex] at h
            obtain ⟨L2, h2, h3⟩ := m_ex_L hex hL
            rw [h2]
            exact m_go_L scr n _ _ _ _ _ _ _ h h3
def m_ku : mL → Bool
  | [] => true
  | q :: L => !(L.any (fun u => u.1 == q.1)) && m_ku L
theorem m_ku_ok : ∀ (L : mL), m_ku L = true → ∀ q ∈ L, ∀ q' ∈ L, q.1 = q'.1 → q = q'
  | [], _, q, hq, _, _, _ => by cases hq
  | r :: L, h, q, hq, q', hq', he => by
    simp only [m_ku, Bool.and_eq_true, Bool.not_eq_true', List.any_eq_false, beq_iff_eq] at h
    rcases List.mem_cons.mp hq with e1 | e1 <;> rcases List.mem_cons.mp hq' with e2 | e2
    · rw [e1, e2]
    · exact absurd (by rw [← e1]; exact he.symm) (h.1 q' e2)
    · exact absurd (by rw [← e2]; exact he) (h.1 q e1)
    · exact m_ku_ok L h.2 q e1 q' e2 he
/-- keep the locals of these numbers alone -/
theorem m_keep {scr : List Int32} {M pc : Nat} {L : mL} {S : List Value} {H : List mC} {X : mR → Prop} (ks : List Nat) (hu : m_ku L = true) (k : m_Ev scr M pc (L.filter (fun q => ks.contains q.1)) S H X) : m_Ev scr M pc L S H X := by
  obtain ⟨n, Y, hn, hY⟩ := k
  exact ⟨n, Y, m_go_L scr n _ _ _ _ _ _ _ hn ⟨fun q hq => (List.mem_filter.mp hq).1, m_ku_ok L hu⟩, hY⟩
/-- the locals written out -/
theorem m_nrm {scr : List Int32} {M pc : Nat} {L : mL} {S : List Value} {H : List mC} {X : mR → Prop} (L' : mL) (h : L = L') (k : m_Ev scr M pc L' S H X) : m_Ev scr M pc L S H X := by rw [h]; exact k
theorem m_gen {scr : List Int32} {M pc : Nat} {L : mL} {S : List Value} {H : List mC} {Z : mR → Prop} (h : ∀ X : mR → Prop, (∀ (v : Option Value) (H1 : List mC), Z (v, H1) → X (v, H1)) → m_Ev scr M pc L S H X) : m_Ev scr M pc L S H Z := h Z (fun _ _ q => q)
