/-! a whole run of the data is a run of the machine -/
theorem m_math_mono {w pc : Nat} {L L' : mL} {S S' : List Value} {AH AH' : List mC} {pc' : Nat} (h : m_math w pc L S AH = some (pc', L', S', AH')) : AH.length ≤ AH'.length ∧ m_sl AH ≤ m_sl AH' ∧ (m_nox AH' = true → m_nox AH = true) := by
  unfold m_math at h
  repeat' split at h
  all_goals first
    | (cases h; done)
    | (cases h; exact ⟨Nat.le_refl _, Nat.le_refl _, id⟩)
    | (obtain ⟨H1, hv, he⟩ := Option.map_eq_some_iff.mp h
       cases he
       obtain ⟨u, f, g, hg0, hg1, -, -, -, -, -, -, rfl⟩ := m_cp_of hv
       exact ⟨by rw [m_len_set]; exact Nat.le_refl _, by rw [m_sl_mset hg1 (by simp [m_sz, m_cpy_len])]; exact Nat.le_refl _, (fun q => by rw [m_nox_set hg1] at q; exact q; rfl)⟩)
set_option maxHeartbeats 8000000 in
theorem m_ex_mono {scr : List Int32} {M pc : Nat} {i : Instr} {x y w : Nat} {z : Int} {L L' : mL} {S S' : List Value} {AH AH' : List mC} {pc' : Nat} (h : m_ex scr M pc i x y w z L S AH = some (pc', L', S', AH')) : AH.length ≤ AH'.length ∧ m_sl AH ≤ m_sl AH' ∧ (m_nox AH' = true → m_nox AH = true) := by
  have same : AH' = AH → AH.length ≤ AH'.length ∧ m_sl AH ≤ m_sl AH' ∧ (m_nox AH' = true → m_nox AH = true) := fun q => by rw [q]; exact ⟨Nat.le_refl _, Nat.le_refl _, id⟩
  have apd : ∀ c : mC, AH' = AH ++ [c] → AH.length ≤ AH'.length ∧ m_sl AH ≤ m_sl AH' ∧ (m_nox AH' = true → m_nox AH = true) := fun c q => by rw [q, m_sl_app, m_nox_app]; exact ⟨by simp, by simp, fun h => (Bool.and_eq_true_iff.mp h).1⟩
  have wr : ∀ {r t : Nat} {j : Int32} {v : Value}, m_wa AH r t j v = some AH' → AH.length ≤ AH'.length ∧ m_sl AH ≤ m_sl AH' ∧ (m_nox AH' = true → m_nox AH = true) := fun {r t j v} hv => by
    obtain ⟨fs, hg, -, -, e⟩ := m_wa_of hv
    rw [e]
    exact ⟨by rw [m_len_set]; exact Nat.le_refl _, by rw [m_sl_mset hg (by simp [m_sz])]; exact Nat.le_refl _, (fun q => by rw [m_nox_set hg] at q; exact q; rfl)⟩
  cases i
  case putfield k =>
    simp only [m_ex] at h
    split at h
    · obtain ⟨H1, hv, he⟩ := Option.map_eq_some_iff.mp h
      cases he
      obtain ⟨fs, hg, hy2, hfit, rfl⟩ := m_pf_of hv
      exact ⟨by rw [m_len_set]; exact Nat.le_refl _, by rw [m_sl_mset hg (by simp [m_sz])]; exact Nat.le_refl _, (fun q => by rw [m_nox_set hg] at q; exact q; rfl)⟩
    · cases h
  case iastore =>
    simp only [m_ex] at h
    split at h
    · obtain ⟨H1, hv, he⟩ := Option.map_eq_some_iff.mp h
      cases he
      exact wr hv
    · cases h
  case bastore =>
    simp only [m_ex] at h
    split at h
    · obtain ⟨H1, hv, he⟩ := Option.map_eq_some_iff.mp h
      cases he
      exact wr hv
    · cases h
  case lastore =>
    simp only [m_ex] at h
    split at h
    · obtain ⟨H1, hv, he⟩ := Option.map_eq_some_iff.mp h
      cases he
      exact wr hv
    · cases h
  case dastore =>
    simp only [m_ex] at h
    split at h
    · obtain ⟨H1, hv, he⟩ := Option.map_eq_some_iff.mp h
      cases he
      exact wr hv
    · cases h
  case aastore =>
    simp only [m_ex] at h
    repeat' split at h
    all_goals first | (cases h; done) | (obtain ⟨H1, hv, he⟩ := Option.map_eq_some_iff.mp h; cases he; exact wr hv)
  case invokestatic k => exact m_math_mono h
  case invokevirtual k =>
    simp only [m_ex] at h
    repeat' split at h
    all_goals first | (cases h; done) | (cases h; exact apd _ rfl) | (cases h; exact same rfl)
  case getfield k =>
    simp only [m_ex] at h
    split at h
    · obtain ⟨v, hv, he⟩ := Option.map_eq_some_iff.mp h
      cases he
      exact same rfl
    · cases h
  case iaload =>
    simp only [m_ex] at h
    repeat' split at h
    · obtain ⟨v, hv, he⟩ := Option.map_eq_some_iff.mp h
      cases he
      exact same rfl
    all_goals first | (cases h; exact same rfl) | cases h
  case new k =>
    simp only [m_ex] at h
    repeat' split at h
    all_goals first | (cases h; exact apd _ rfl) | cases h
  case newarray k =>
    simp only [m_ex] at h
    repeat' split at h
    all_goals first | (cases h; exact apd _ rfl) | cases h
  case anewarray k =>
    simp only [m_ex] at h
    repeat' split at h
    all_goals first | (cases h; exact apd _ rfl) | cases h
  all_goals (simp only [m_ex, m_lv, m_sv1, m_sv2, m_b2, m_d2, m_l2, m_jmp] at h)
  all_goals (first | done | (repeat' split at h) <;> first | (cases h; exact same rfl) | (cases h; done) | skip)
theorem m_go_mono (scr : List Int32) : ∀ (n : Nat) {M pc : Nat} {L : mL} {S : List Value} {AH AHf : List mC} {rv : Option Value}, m_go scr n M pc L S AH = some (rv, AHf) → AH.length ≤ AHf.length ∧ m_sl AH ≤ m_sl AHf ∧ (m_nox AHf = true → m_nox AH = true)
  | 0, M, pc, L, S, AH, AHf, rv, h => by cases h
  | n + 1, M, pc, L, S, AH, AHf, rv, h => by
    have tr : ∀ {A B C : List mC}, (A.length ≤ B.length ∧ m_sl A ≤ m_sl B ∧ (m_nox B = true → m_nox A = true)) → (B.length ≤ C.length ∧ m_sl B ≤ m_sl C ∧ (m_nox C = true → m_nox B = true)) → (A.length ≤ C.length ∧ m_sl A ≤ m_sl C ∧ (m_nox C = true → m_nox A = true)) := fun h1 h2 => ⟨Nat.le_trans h1.1 h2.1, Nat.le_trans h1.2.1 h2.2.1, fun q => h1.2.2 (h2.2.2 q)⟩
    rw [m_go_s] at h
    unfold m_st at h
    split at h
    · cases h
    · next i x y w z hcode =>
      split at h
      · split at h
        · cases h
          exact ⟨by simp, by rw [m_sl_app]; exact Nat.le_add_right _ _, by rw [m_nox_app]; exact fun q => (Bool.and_eq_true_iff.mp q).1⟩
        · cases h
      · split at h
        · split at h
          · next as S' hcut =>
            split at h
            · split at h
              · next v H1 hcall =>
                have h1 := m_go_mono scr n hcall
                split at h
                · exact tr h1 (m_go_mono scr n h)
                · split at h
                  · split at h
                    · cases h; exact h1
                    · split at h
                      · exact tr h1 (m_go_mono scr n h)
                      · cases h
                  · cases h
              · cases h
            · cases h
          · cases h
        · split at h
          · split at h
            · cases h; exact ⟨Nat.le_refl _, Nat.le_refl _, id⟩
            · cases h
          · split at h
            · next pc' L' S' H' hex => exact tr (m_ex_mono hex) (m_go_mono scr n h)
            · cases h
/-! calls, and the whole run -/
theorem m_code_of {M pc : Nat} {i : Instr} {x y w : Nat} {z : Int} (h : m_code M pc = some (i, x, y, w, z)) (hall : (m_prog M).all (m_okE M) = true) : m_okE M (pc, i, x, y, w, z) = true := by
  obtain ⟨q, hq, he⟩ := Option.map_eq_some_iff.mp h
  have h1 := List.find?_some hq
  have h3 : q.1 = pc := by simpa using h1
  have h2 := List.all_eq_true.mp hall q (List.mem_of_find?_eq_some hq)
  obtain ⟨q1, q2⟩ := q
  subst h3
  cases he
  exact h2
theorem m_sl_len (vs : List Value) : (lg_sl vs).length = m_cat vs := by
  induction vs with
  | nil => rfl
  | cons v t ih =>
    have e : lg_sl (v :: t) = (if v.category = 2 then [Slot.val v, Slot.second] else [Slot.val v]) ++ lg_sl t := by simp [lg_sl]
    have e2 : m_cat (v :: t) = v.category + m_cat t := by simp [m_cat]
    rw [e, e2, List.length_append, ih]
    rcases lv_cat v with h | h <;> simp [h]
theorem m_args_L (ad : Nat → Nat) : ∀ (vs : List Value) (i : Nat), lv_args i (vs.map (m_v ad)) = m_L ad (lv_args i vs)
  | [], i => rfl
  | v :: vs, i => by
    simp only [List.map_cons, lv_args, m_v_cat, m_args_L ad vs]
    rfl
theorem m_cat_map (ad : Nat → Nat) (S : List Value) : m_cat (S.map (m_v ad)) = m_cat S := m_cat_v ad S
def m_cw (M : Nat) : Cond := if (m_hx M).isEmpty = true then .code (m_nm M) (m_by M) (m_nL M) (m_rt M) else .codeWith (m_nm M) (m_by M) (m_nL M) (m_rt M) (m_hh M)
def m_ws0 (M : Nat) : List Cond := m_cw M :: m_gw
theorem m_good {M : Nat} (hc : m_cw M ∈ m_gw) : GoodIn m_gw (m_ws0 M) := by
  intro w hw
  have h : w ∈ m_gw := by
    rcases List.mem_cons.mp hw with rfl | h
    · exact hc
    · exact h
  exact ⟨h, good_of_word (List.mem_filter.mp h).2⟩
