/-! starts of runs with blocks of their own; what the symbols of a script stand for -/
section SS
variable {scr : List Int32}
def enc (x : Int32) : Nat := (x.toInt + 2147483648).toNat
theorem enc_lt (x : Int32) : enc x < 4294967296 := by
  have h1 := Int32.toInt_lt x
  unfold enc
  omega
theorem enc_cI (x : Int32) : cI (enc x) = x := by
  have h1 := Int32.le_toInt x
  unfold cI enc
  rw [Int.toNat_of_nonneg (by omega)]
  have e : x.toInt + 2147483648 - 2147483648 = x.toInt := by omega
  rw [e, Int32.ofInt_toInt]
def s_cn (f : Nat → Int32) : Nat → Int32
  | 0 => 0
  | i + 1 => s_cn f i + (if f i = 0 then 0 else 1)
def s_sm (f : Nat → Int32) : Nat → Int32
  | 0 => 0
  | i + 1 => s_sm f i + f i
def s_ro (scr : List Int32) (f g h : Nat → Int32) (j : Nat) : Nat := if j < 10 then rr scr j else if j < 74 then enc (f (j - 10)) else if j < 80 then 2147483648 else if j < 150 then enc (g (j - 80)) else enc (h (j - 150))
theorem s_ro_lt (scr : List Int32) (f g h : Nat → Int32) (j : Nat) : s_ro scr f g h j < 4294967296 := by
  unfold s_ro
  split
  · exact rr_lt scr j
  · split
    · exact enc_lt _
    · split
      · decide
      · split
        · exact enc_lt _
        · exact enc_lt _
theorem s_ro_w {f g h : Nat → Int32} {j : Nat} (hj : j < 10) : s_ro scr f g h j = rr scr j := if_pos hj
theorem s_ro_c {f g h : Nat → Int32} {k : Nat} (hk : k < 64) : cI (s_ro scr f g h (10 + k)) = f k := by
  unfold s_ro
  rw [if_neg (by omega), if_pos (by omega), enc_cI, Nat.add_sub_cancel_left]
theorem s_ro_s {f g h : Nat → Int32} {i : Nat} (hi : i ≤ 64) : cI (s_ro scr f g h (80 + i)) = g i := by
  unfold s_ro
  rw [if_neg (by omega), if_neg (by omega), if_neg (by omega), if_pos (by omega), enc_cI, Nat.add_sub_cancel_left]
theorem s_ro_h {f g h : Nat → Int32} {i : Nat} : cI (s_ro scr f g h (150 + i)) = h i := by
  unfold s_ro
  rw [if_neg (by omega), if_neg (by omega), if_neg (by omega), if_neg (by omega), enc_cI, Nat.add_sub_cancel_left]
theorem s_ro_cnt {f h : Nat → Int32} : s_cnt (s_ro scr f (s_cn f) h) := by
  refine ⟨s_ro_s (i := 0) (by omega), fun i hi => ?_⟩
  rw [show 81 + i = 80 + (i + 1) by omega, s_ro_s (by omega), s_ro_s (by omega), s_ro_c hi]
  rfl
theorem s_ro_sms {f h : Nat → Int32} : s_sms (s_ro scr f (s_sm f) h) := by
  refine ⟨s_ro_s (i := 0) (by omega), fun i hi => ?_⟩
  rw [show 81 + i = 80 + (i + 1) by omega, s_ro_s (by omega), s_ro_s (by omega), s_ro_c hi]
  rfl
theorem s_rep_mem {e : Nat × Nat × List Nat} : ∀ {n : Nat}, e ∈ s_rep n s_fu [s_fu] → e = s_fu
  | 0, h => by
    have h' : e ∈ [s_fu] := h
    simpa using h'
  | n + 1, h => by
    have h' : e ∈ s_fu :: s_rep n s_fu [s_fu] := h
    rcases List.mem_cons.mp h' with h1 | h1
    · exact h1
    · exact s_rep_mem h1
theorem s_EO_at {e1 e : Nat × Nat × List Nat} {j : Nat} (h : (s_EO e1 s_fu s_fu s_fu s_fu s_fu s_fu)[j]? = some e) : (j = 1 ∧ e = e1) ∨ e = s_fu := by
  unfold s_EO at h
  rcases j with _ | _ | _ | _ | _ | _ | _ | j
  · exact Or.inr (by simpa using h.symm)
  · exact Or.inl ⟨rfl, by simpa using h.symm⟩
  · exact Or.inr (by simpa using h.symm)
  · exact Or.inr (by simpa using h.symm)
  · exact Or.inr (by simpa using h.symm)
  · exact Or.inr (by simpa using h.symm)
  · exact Or.inr (by simpa using h.symm)
  · exact Or.inr (s_rep_mem (List.mem_of_getElem? (by simpa using h)))
theorem s_eoO {f g h : Nat → Int32} (h1 : s_in4 scr 1) : s_eo (s_ro scr f g h) (s_EO (2147483648, 2147483651, []) s_fu s_fu s_fu s_fu s_fu s_fu) := by
  intro j lo hi ex he
  have hlt := s_ro_lt scr f g h j
  rcases s_EO_at he with ⟨rfl, he⟩ | he
  · cases he
    rw [s_ro_w (by decide)]
    exact ⟨h1.1, h1.2, by decide, by simp⟩
  · cases he
    exact ⟨Nat.zero_le _, by omega, by decide, by simp⟩
theorem s_startO {p q : List Nat} {ρ : Nat → Nat} {pa : List (Nat × Nat)} {H : sH} {E : sE} {tb : List Nat} {pc : Nat} {O : sO} (n : Nat) (hl : scr.length = 7) (hp : s_inv p q = true) (hO : s_in (s_sg p) → s_Oo scr (s_sg p) ρ O) (hpa : ∀ j s, pa.lookup j = some s → ρ j = 2147483648 + s) (hck : ck_H p pa H = true) (hE : s_eo ρ E) (htb : ∀ i j : Nat, tb[i]? = some j → i < 7 → scr[i]? = some (cI (ρ j))) (hrun : s_runO O n 244 pc s_L0 [] (s_X H E tb) = true) : m_Rn scr [] 244 pc m_L0 [] m_H0 := by
  have hn : ∀ i, 41 ≤ i → s_sg p i = i + 1 := fun i hi => by
    unfold s_sg s_pi
    rw [if_neg (by omega)]
  have h0 : s_sg p 0 = 1 := rfl
  have h30 : s_sg p 30 = 31 := rfl
  refine s_runO_ok (scr := scr) (ρ := ρ) (s_sg_in hp) (hO (s_sg_in hp)) n 244 pc s_L0 [] [] H E (43, 43, 3957, tb) [] m_L0 m_H0 hrun ?_ trivial (ck_H_of hpa hck) hE ⟨fun i => ?_, ?_, ?_, htb, hl⟩
  · intro i v hi hv
    rcases i with _ | _ | _ | _ | _ | _ | _ | _ | _ | i
    · cases hi; rfl
    · cases hi; show some (Value.ref 1) = some (Value.ref (s_sg p 0)); rw [h0]
    · cases hi; show some (Value.ref 31) = some (Value.ref (s_sg p 30)); rw [h30]
    · cases hi; show some (Value.ref 42) = some (Value.ref (s_sg p 41)); rw [hn 41 (by omega)]
    · cases hi; show some (Value.ref 43) = some (Value.ref (s_sg p 42)); rw [hn 42 (by omega)]
    · cases hi; rfl
    · cases hi; exact absurd rfl hv
    · cases hi; exact absurd rfl hv
    · cases hi; exact absurd rfl hv
    · cases hi
  · show s_sg p (43 + i) = _
    rw [hn _ (by omega), m_H0_l.1]
    omega
  · exact m_H0_l.1.symm
  · exact m_H0_l.2.symm
/-- a call with blocks of its own, its sheet there -/
theorem c_1O {pc n : Nat} {O : sO} {f g h : Nat → Int32} (hl : scr.length = 7) (h1 : s_in4 scr 1) (hO : ∀ σ, s_in σ → s_Oo scr σ (s_ro scr f g h) O) (hrun : s_runO O n 244 pc s_L0 [] (s_X s_H1 (s_EO (2147483648, 2147483651, []) s_fu s_fu s_fu s_fu s_fu s_fu) s_t0) = true) : m_Rn scr [] 244 pc m_L0 [] m_H0 := by
  have hk := ck_all
  simp only [Bool.and_eq_true] at hk
  have htb : ∀ i j : Nat, s_t0[i]? = some j → i < 7 → scr[i]? = some (cI (s_ro scr f g h j)) := by
    intro i j hj hi
    have q := s_tb0 hl i j hj hi
    have hj7 : j < 10 := by
      rcases i with _ | _ | _ | _ | _ | _ | _ | i
      · cases hj; decide
      · cases hj; decide
      · cases hj; decide
      · cases hj; decide
      · cases hj; decide
      · cases hj; decide
      · cases hj; decide
      · omega
    rw [s_ro_w hj7]
    exact q
  have pa : ∀ s, rr scr 1 = 2147483648 + s → ∀ j s' : Nat, [(1, s)].lookup j = some s' → s_ro scr f g h j = 2147483648 + s' := by
    intro s hs j s' hj
    rw [List.lookup_cons] at hj
    split at hj
    · next q =>
      have : j = 1 := by simpa using q
      subst this
      cases hj
      rw [s_ro_w (by decide)]
      exact hs
    · cases hj
  obtain ⟨a, b⟩ := id h1
  rcases (show rr scr 1 = 2147483648 + 0 ∨ rr scr 1 = 2147483648 + 1 ∨ rr scr 1 = 2147483648 + 2 ∨ rr scr 1 = 2147483648 + 3 by omega) with e | e | e | e
  · exact s_startO n hl (p := [0, 1, 2, 3]) (q := [0, 1, 2, 3]) (by decide) (hO _) (pa _ e) hk.1.1.1.2 (s_eoO h1) htb hrun
  · exact s_startO n hl (p := [1, 0, 2, 3]) (q := [1, 0, 2, 3]) (by decide) (hO _) (pa _ e) hk.1.1.2 (s_eoO h1) htb hrun
  · exact s_startO n hl (p := [2, 1, 0, 3]) (q := [2, 1, 0, 3]) (by decide) (hO _) (pa _ e) hk.1.2 (s_eoO h1) htb hrun
  · exact s_startO n hl (p := [3, 1, 2, 0]) (q := [3, 1, 2, 0]) (by decide) (hO _) (pa _ e) hk.2 (s_eoO h1) htb hrun
end SS
