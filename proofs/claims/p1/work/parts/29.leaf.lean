/-! the cases of the first call, from the runs by symbols -/
def rr (scr : List Int32) (j : Nat) : Nat := ((scr.getD j 0).toInt + 2147483648).toNat
theorem rr_lt (scr : List Int32) (j : Nat) : rr scr j < 4294967296 := by
  have h1 := Int32.toInt_lt (scr.getD j 0)
  unfold rr
  omega
theorem rr_cI (scr : List Int32) (j : Nat) : cI (rr scr j) = scr.getD j 0 := by
  have h1 := Int32.le_toInt (scr.getD j 0)
  unfold cI rr
  rw [Int.toNat_of_nonneg (by omega)]
  have e : (scr.getD j 0).toInt + 2147483648 - 2147483648 = (scr.getD j 0).toInt := by omega
  rw [e, Int32.ofInt_toInt]
theorem rr_at {scr : List Int32} (hl : scr.length = 7) {j : Nat} (hj : j < 7) : scr[j]? = some (cI (rr scr j)) := by
  rw [rr_cI, List.getD_eq_getElem?_getD, List.getElem?_eq_getElem (by omega)]
  rfl
theorem s_eo3 {scr : List Int32} {a1 b1 a2 b2 a3 b3 : Nat} (h1 : a1 ≤ rr scr 1 ∧ rr scr 1 ≤ b1 ∧ b1 < 4294967296) (h2 : a2 ≤ rr scr 2 ∧ rr scr 2 ≤ b2 ∧ b2 < 4294967296) (h3 : a3 ≤ rr scr 3 ∧ rr scr 3 ≤ b3 ∧ b3 < 4294967296) : s_eo (rr scr) [s_fu, (a1, b1, []), (a2, b2, []), (a3, b3, []), s_fu, s_fu, s_fu] := by
  have fu : ∀ j lo hi ex, s_fu = (lo, hi, ex) → lo ≤ rr scr j ∧ rr scr j ≤ hi ∧ hi < 4294967296 ∧ ¬ rr scr j ∈ ex := by
    intro j lo hi ex h
    have := rr_lt scr j
    cases h
    exact ⟨Nat.zero_le _, by omega, by omega, by simp⟩
  intro j lo hi ex h
  rcases j with _ | _ | _ | _ | _ | _ | _ | j
  · exact fu _ _ _ _ (by simpa using h)
  · cases h; exact ⟨h1.1, h1.2.1, h1.2.2, by simp⟩
  · cases h; exact ⟨h2.1, h2.2.1, h2.2.2, by simp⟩
  · cases h; exact ⟨h3.1, h3.2.1, h3.2.2, by simp⟩
  · exact fu _ _ _ _ (by simpa using h)
  · exact fu _ _ _ _ (by simpa using h)
  · exact fu _ _ _ _ (by simpa using h)
  · cases h
theorem s_all (scr : List Int32) (j : Nat) : 0 ≤ rr scr j ∧ rr scr j ≤ 4294967295 ∧ 4294967295 < 4294967296 := by
  have := rr_lt scr j
  omega
theorem s_tb0 {scr : List Int32} (hl : scr.length = 7) : ∀ i j : Nat, s_t0[i]? = some j → i < 7 → scr[i]? = some (cI (rr scr j)) := by
  intro i j h hi
  have e : j = i := by
    rcases i with _ | _ | _ | _ | _ | _ | _ | i
    · cases h; rfl
    · cases h; rfl
    · cases h; rfl
    · cases h; rfl
    · cases h; rfl
    · cases h; rfl
    · cases h; rfl
    · omega
  rw [e]
  exact rr_at hl hi
theorem s_tb1 {scr : List Int32} (hl : scr.length = 7) (h12 : rr scr 1 = rr scr 2) : ∀ i j : Nat, s_t1[i]? = some j → i < 7 → scr[i]? = some (cI (rr scr j)) := by
  intro i j h hi
  by_cases h2 : i = 2
  · subst h2
    cases h
    rw [rr_at hl hi, h12]
  · have e : j = i := by
      rcases i with _ | _ | _ | _ | _ | _ | _ | i
      · cases h; rfl
      · cases h; rfl
      · omega
      · cases h; rfl
      · cases h; rfl
      · cases h; rfl
      · cases h; rfl
      · omega
    rw [e]
    exact rr_at hl hi
def s_in4 (scr : List Int32) (j : Nat) : Prop := 2147483648 ≤ rr scr j ∧ rr scr j ≤ 2147483651
set_option maxRecDepth 100000 in
theorem ck_all : (ck_H [0, 1, 2, 3] [] s_H0 && ck_H [0, 1, 2, 3] [] s_Hf && ck_H [0, 1, 2, 3] [(1, 0)] s_H1 && ck_H [1, 0, 2, 3] [(1, 1)] s_H1 && ck_H [2, 1, 0, 3] [(1, 2)] s_H1 && ck_H [3, 1, 2, 0] [(1, 3)] s_H1) = true := by decide +kernel
set_option maxRecDepth 100000 in
theorem ck_two : (ck_H [0, 1, 2, 3] [(1, 0), (2, 1)] s_H2 && ck_H [0, 2, 1, 3] [(1, 0), (2, 2)] s_H2 && ck_H [0, 3, 2, 1] [(1, 0), (2, 3)] s_H2 && ck_H [1, 0, 2, 3] [(1, 1), (2, 0)] s_H2 && ck_H [1, 2, 0, 3] [(1, 1), (2, 2)] s_H2 && ck_H [1, 3, 2, 0] [(1, 1), (2, 3)] s_H2 &&
  ck_H [2, 0, 1, 3] [(1, 2), (2, 0)] s_H2 && ck_H [2, 1, 0, 3] [(1, 2), (2, 1)] s_H2 && ck_H [2, 3, 0, 1] [(1, 2), (2, 3)] s_H2 && ck_H [3, 0, 2, 1] [(1, 3), (2, 0)] s_H2 && ck_H [3, 1, 2, 0] [(1, 3), (2, 1)] s_H2 && ck_H [3, 2, 0, 1] [(1, 3), (2, 2)] s_H2) = true := by decide +kernel
section LF
variable {scr : List Int32} {pc : Nat} {E : sE} {n : Nat}
theorem pa_nil : ∀ j s : Nat, ([] : List (Nat × Nat)).lookup j = some s → rr scr j = 2147483648 + s := fun j s h => by cases h
theorem pa_one {s : Nat} (h : rr scr 1 = 2147483648 + s) : ∀ j s' : Nat, [(1, s)].lookup j = some s' → rr scr j = 2147483648 + s' := by
  intro j s' hj
  rw [List.lookup_cons] at hj
  split at hj
  · next q =>
    have : j = 1 := by simpa using q
    subst this
    cases hj
    exact h
  · cases hj
theorem pa_two {s t : Nat} (h : rr scr 1 = 2147483648 + s) (h2 : rr scr 2 = 2147483648 + t) : ∀ j s' : Nat, [(1, s), (2, t)].lookup j = some s' → rr scr j = 2147483648 + s' := by
  intro j s' hj
  rw [List.lookup_cons, List.lookup_cons] at hj
  split at hj
  · next q =>
    have : j = 1 := by simpa using q
    subst this
    cases hj
    exact h
  · split at hj
    · next q =>
      have : j = 2 := by simpa using q
      subst this
      cases hj
      exact h2
    · cases hj
theorem c_0 (hl : scr.length = 7) (hE : s_eo (rr scr) E) (hrun : s_run n 244 pc s_L0 [] (s_X s_H0 E s_t0) = true) : m_Rn scr [] 244 pc m_L0 [] m_H0 := by
  have hk := ck_all
  simp only [Bool.and_eq_true] at hk
  exact s_start n hl (p := [0, 1, 2, 3]) (q := [0, 1, 2, 3]) (by decide) pa_nil hk.1.1.1.1.1 hE (s_tb0 hl) hrun
theorem c_f (hl : scr.length = 7) (hE : s_eo (rr scr) E) (hrun : s_run n 244 pc s_L0 [] (s_X s_Hf E s_t0) = true) : m_Rn scr [] 244 pc m_L0 [] m_H0 := by
  have hk := ck_all
  simp only [Bool.and_eq_true] at hk
  exact s_start n hl (p := [0, 1, 2, 3]) (q := [0, 1, 2, 3]) (by decide) pa_nil hk.1.1.1.1.2 hE (s_tb0 hl) hrun
theorem c_1g {tb : List Nat} (hl : scr.length = 7) (h1 : s_in4 scr 1) (hE : s_eo (rr scr) E) (htb : ∀ i j : Nat, tb[i]? = some j → i < 7 → scr[i]? = some (cI (rr scr j))) (hrun : s_run n 244 pc s_L0 [] (s_X s_H1 E tb) = true) : m_Rn scr [] 244 pc m_L0 [] m_H0 := by
  have hk := ck_all
  simp only [Bool.and_eq_true] at hk
  obtain ⟨a, b⟩ := h1
  rcases (show rr scr 1 = 2147483648 + 0 ∨ rr scr 1 = 2147483648 + 1 ∨ rr scr 1 = 2147483648 + 2 ∨ rr scr 1 = 2147483648 + 3 by omega) with h | h | h | h
  · exact s_start n hl (p := [0, 1, 2, 3]) (q := [0, 1, 2, 3]) (by decide) (pa_one h) hk.1.1.1.2 hE htb hrun
  · exact s_start n hl (p := [1, 0, 2, 3]) (q := [1, 0, 2, 3]) (by decide) (pa_one h) hk.1.1.2 hE htb hrun
  · exact s_start n hl (p := [2, 1, 0, 3]) (q := [2, 1, 0, 3]) (by decide) (pa_one h) hk.1.2 hE htb hrun
  · exact s_start n hl (p := [3, 1, 2, 0]) (q := [3, 1, 2, 0]) (by decide) (pa_one h) hk.2 hE htb hrun
theorem c_1 (hl : scr.length = 7) (h1 : s_in4 scr 1) (hE : s_eo (rr scr) E) (hrun : s_run n 244 pc s_L0 [] (s_X s_H1 E s_t0) = true) : m_Rn scr [] 244 pc m_L0 [] m_H0 := c_1g hl h1 hE (s_tb0 hl) hrun
theorem c_s (hl : scr.length = 7) (h1 : s_in4 scr 1) (h12 : rr scr 1 = rr scr 2) (hE : s_eo (rr scr) E) (hrun : s_run n 244 pc s_L0 [] (s_X s_H1 E s_t1) = true) : m_Rn scr [] 244 pc m_L0 [] m_H0 := c_1g hl h1 hE (s_tb1 hl h12) hrun
theorem c_2 (hl : scr.length = 7) (h1 : s_in4 scr 1) (h2 : s_in4 scr 2) (h12 : ¬ rr scr 1 = rr scr 2) (hE : s_eo (rr scr) E) (hrun : s_run n 244 pc s_L0 [] (s_X s_H2 E s_t0) = true) : m_Rn scr [] 244 pc m_L0 [] m_H0 := by
  have hk := ck_two
  simp only [Bool.and_eq_true] at hk
  obtain ⟨⟨⟨⟨⟨⟨⟨⟨⟨⟨⟨k1, k2⟩, k3⟩, k4⟩, k5⟩, k6⟩, k7⟩, k8⟩, k9⟩, k10⟩, k11⟩, k12⟩ := hk
  obtain ⟨a, b⟩ := h1
  obtain ⟨a', b'⟩ := h2
  rcases (show rr scr 1 = 2147483648 + 0 ∨ rr scr 1 = 2147483648 + 1 ∨ rr scr 1 = 2147483648 + 2 ∨ rr scr 1 = 2147483648 + 3 by omega) with h | h | h | h <;>
    rcases (show rr scr 2 = 2147483648 + 0 ∨ rr scr 2 = 2147483648 + 1 ∨ rr scr 2 = 2147483648 + 2 ∨ rr scr 2 = 2147483648 + 3 by omega) with g | g | g | g
  · omega
  · exact s_start n hl (q := [0, 1, 2, 3]) (by decide) (pa_two h g) k1 hE (s_tb0 hl) hrun
  · exact s_start n hl (q := [0, 2, 1, 3]) (by decide) (pa_two h g) k2 hE (s_tb0 hl) hrun
  · exact s_start n hl (q := [0, 3, 2, 1]) (by decide) (pa_two h g) k3 hE (s_tb0 hl) hrun
  · exact s_start n hl (q := [1, 0, 2, 3]) (by decide) (pa_two h g) k4 hE (s_tb0 hl) hrun
  · omega
  · exact s_start n hl (q := [2, 0, 1, 3]) (by decide) (pa_two h g) k5 hE (s_tb0 hl) hrun
  · exact s_start n hl (q := [3, 0, 2, 1]) (by decide) (pa_two h g) k6 hE (s_tb0 hl) hrun
  · exact s_start n hl (q := [1, 2, 0, 3]) (by decide) (pa_two h g) k7 hE (s_tb0 hl) hrun
  · exact s_start n hl (q := [2, 1, 0, 3]) (by decide) (pa_two h g) k8 hE (s_tb0 hl) hrun
  · omega
  · exact s_start n hl (q := [2, 3, 0, 1]) (by decide) (pa_two h g) k9 hE (s_tb0 hl) hrun
  · exact s_start n hl (q := [1, 3, 2, 0]) (by decide) (pa_two h g) k10 hE (s_tb0 hl) hrun
  · exact s_start n hl (q := [3, 1, 2, 0]) (by decide) (pa_two h g) k11 hE (s_tb0 hl) hrun
  · exact s_start n hl (q := [2, 3, 1, 0]) (by decide) (pa_two h g) k12 hE (s_tb0 hl) hrun
  · omega
/-- a call whose first word names a sheet -/
theorem c_sh {n1 n2 : Nat} (hl : scr.length = 7) (lo : s_run n1 244 pc s_L0 [] (s_X s_H0 [s_fu, (0, 2147483647, []), s_fu, s_fu, s_fu, s_fu, s_fu] s_t0) = true) (hi : s_run n2 244 pc s_L0 [] (s_X s_H0 [s_fu, (2147483652, 4294967295, []), s_fu, s_fu, s_fu, s_fu, s_fu] s_t0) = true) (hin : s_in4 scr 1 → m_Rn scr [] 244 pc m_L0 [] m_H0) : m_Rn scr [] 244 pc m_L0 [] m_H0 := by
  have h7 := rr_lt scr 1
  by_cases h1 : rr scr 1 ≤ 2147483647
  · exact c_0 hl (s_eo3 ⟨Nat.zero_le _, h1, by omega⟩ (s_all scr 2) (s_all scr 3)) lo
  · by_cases h2 : rr scr 1 ≤ 2147483651
    · exact hin ⟨by omega, h2⟩
    · exact c_0 hl (s_eo3 ⟨by omega, by omega, by omega⟩ (s_all scr 2) (s_all scr 3)) hi
/-- and nothing more is to be split -/
theorem c_sh1 {n1 n2 n3 : Nat} (hl : scr.length = 7) (lo : s_run n1 244 pc s_L0 [] (s_X s_H0 [s_fu, (0, 2147483647, []), s_fu, s_fu, s_fu, s_fu, s_fu] s_t0) = true) (hi : s_run n2 244 pc s_L0 [] (s_X s_H0 [s_fu, (2147483652, 4294967295, []), s_fu, s_fu, s_fu, s_fu, s_fu] s_t0) = true) (hin : s_run n3 244 pc s_L0 [] (s_X s_H1 [s_fu, (2147483648, 2147483651, []), s_fu, s_fu, s_fu, s_fu, s_fu] s_t0) = true) : m_Rn scr [] 244 pc m_L0 [] m_H0 :=
  c_sh hl lo hi (fun h => c_1 hl h (s_eo3 ⟨h.1, h.2, by omega⟩ (s_all scr 2) (s_all scr 3)) hin)
theorem c_two {n1 n2 n3 n4 n5 n6 : Nat} (hl : scr.length = 7) (lo : s_run n1 244 pc s_L0 [] (s_X s_H0 [s_fu, (0, 2147483647, []), s_fu, s_fu, s_fu, s_fu, s_fu] s_t0) = true) (hi : s_run n2 244 pc s_L0 [] (s_X s_H0 [s_fu, (2147483652, 4294967295, []), s_fu, s_fu, s_fu, s_fu, s_fu] s_t0) = true)
    (il : s_run n3 244 pc s_L0 [] (s_X s_H1 [s_fu, (2147483648, 2147483651, []), (0, 2147483647, []), s_fu, s_fu, s_fu, s_fu] s_t0) = true) (ih : s_run n4 244 pc s_L0 [] (s_X s_H1 [s_fu, (2147483648, 2147483651, []), (2147483652, 4294967295, []), s_fu, s_fu, s_fu, s_fu] s_t0) = true)
    (sm : s_run n5 244 pc s_L0 [] (s_X s_H1 [s_fu, (2147483648, 2147483651, []), s_fu, s_fu, s_fu, s_fu, s_fu] s_t1) = true) (tw : s_run n6 244 pc s_L0 [] (s_X s_H2 [s_fu, (2147483648, 2147483651, []), (2147483648, 2147483651, []), s_fu, s_fu, s_fu, s_fu] s_t0) = true) : m_Rn scr [] 244 pc m_L0 [] m_H0 := by
  refine c_sh hl lo hi (fun h => ?_)
  have h7 := rr_lt scr 2
  have b1 : 2147483648 ≤ rr scr 1 ∧ rr scr 1 ≤ 2147483651 ∧ 2147483651 < 4294967296 := ⟨h.1, h.2, by omega⟩
  by_cases h1 : rr scr 2 ≤ 2147483647
  · exact c_1 hl h (s_eo3 b1 ⟨Nat.zero_le _, h1, by omega⟩ (s_all scr 3)) il
  · by_cases h2 : rr scr 2 ≤ 2147483651
    · by_cases he : rr scr 1 = rr scr 2
      · exact c_s hl h he (s_eo3 b1 (s_all scr 2) (s_all scr 3)) sm
      · exact c_2 hl h ⟨by omega, h2⟩ he (s_eo3 b1 ⟨by omega, h2, by omega⟩ (s_all scr 3)) tw
    · exact c_1 hl h (s_eo3 b1 ⟨by omega, by omega, by omega⟩ (s_all scr 3)) ih
end LF
