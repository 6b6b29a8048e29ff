/-! runs, and what stands above them: frames that wait -/
theorem m_st_mono (scr : List Int32) {f g : mF} (h : ∀ M pc L S H X, f M pc L S H = some X → g M pc L S H = some X) (M pc : Nat) (L : mL) (S : List Value) (H : List mC) (X : mR) (hf : m_st scr f M pc L S H = some X) : m_st scr g M pc L S H = some X := by
  unfold m_st at hf ⊢
  split at hf
  · cases hf
  · next i x y w z hcode =>
    split at hf
    · next h8 => rw [if_pos h8]; exact hf
    · next h8 =>
      rw [if_neg h8]
      split at hf
      · next hw =>
        rw [if_pos hw]
        split at hf
        · next as S' hcut =>
          try simp only [hcut]
          split at hf
          · next hcat =>
            rw [if_pos hcat]
            split at hf
            · next v H1 hcall =>
              rw [h _ _ _ _ _ _ hcall]
              dsimp only
              split at hf
              · next hth => (try simp only [hth]); exact h _ _ _ _ _ _ hf
              · next k hth =>
                try simp only [hth]
                split at hf
                · next h1 =>
                  rw [if_pos h1]
                  split at hf
                  · next h2 => rw [if_pos h2]; exact hf
                  · next h2 =>
                    rw [if_neg h2]
                    split at hf
                    · next q s hq => (try simp only [hq]); exact h _ _ _ _ _ _ hf
                    · cases hf
                · cases hf
            · cases hf
          · cases hf
        · cases hf
      · next hw =>
        rw [if_neg hw]
        split at hf
        · next rv hr => (try simp only [hr]); exact hf
        · next hr =>
          try simp only [hr]
          split at hf
          · next pc' L' S' H' hex => (try simp only [hex]); exact h _ _ _ _ _ _ hf
          · cases hf
theorem m_go_up (scr : List Int32) : ∀ (n : Nat) (M pc : Nat) (L : mL) (S : List Value) (H : List mC) (X : mR), m_go scr n M pc L S H = some X → m_go scr (n + 1) M pc L S H = some X
  | 0, M, pc, L, S, H, X, h => by cases h
  | n + 1, M, pc, L, S, H, X, h => by
    rw [m_go_s] at h ⊢
    exact m_st_mono scr (m_go_up scr n) M pc L S H X h
theorem m_go_le (scr : List Int32) {n k : Nat} (hk : n ≤ k) {M pc : Nat} {L : mL} {S : List Value} {H : List mC} {X : mR} (h : m_go scr n M pc L S H = some X) : m_go scr k M pc L S H = some X := by
  induction hk with
  | refl => exact h
  | step _ ih => exact m_go_up scr _ _ _ _ _ _ _ ih
/-- a frame that waits for a callee: its method, where the call stands, its locals, its stack below the arguments -/
abbrev mW : Type := Nat × Nat × mL × List Value
/-- what a result still leads to -/
def m_Rt (scr : List Int32) : List mW → Option Value → List mC → Prop
  | [], v, H => v = some (.int 1) ∧ H.length ≤ 600002 ∧ m_sl H ≤ 7302232
  | (M, pc, L, S) :: CF, v, H => match m_thr v with
    | none => ∃ (n : Nat) (v' : Option Value) (H' : List mC), m_go scr n M (pc + 3) L (v.toList ++ S) H = some (v', H') ∧ m_Rt scr CF v' H'
    | some k => ∃ (i : Instr) (x y w : Nat) (z : Int), m_code M pc = some (i, x, y, w, z) ∧ m_ths i w = true ∧ (((m_hx M).isEmpty = true ∧ m_Rt scr CF v H) ∨ ((m_hx M).isEmpty = false ∧ ∃ q s, m_hd M pc k = some (q, s) ∧ ∃ (n : Nat) (v' : Option Value) (H' : List mC), m_go scr n M q (m_drop s L) [] H = some (v', H') ∧ m_Rt scr CF v' H'))
def m_Rn (scr : List Int32) (CF : List mW) (M pc : Nat) (L : mL) (S : List Value) (H : List mC) : Prop := ∃ (n : Nat) (v : Option Value) (H' : List mC), m_go scr n M pc L S H = some (v, H') ∧ m_Rt scr CF v H'
section RN
variable {scr : List Int32} {CF : List mW} {M pc pc' x y w : Nat} {z : Int} {i : Instr} {L L' : mL} {S S' as : List Value} {H H' H1 : List mC} {v : Option Value}
theorem m_Rn.step (hc : m_code M pc = some (i, x, y, w, z)) (h8 : ¬ w = 8) (hw : ¬ ((w = 1 ∨ w = 2) ∧ m_inv i = true)) (hr : m_rts i S = none) (hex : m_ex scr M pc i x y w z L S H = some (pc', L', S', H')) (k : m_Rn scr CF M pc' L' S' H') : m_Rn scr CF M pc L S H := by
  obtain ⟨n, v, Hf, hn, hv⟩ := k
  refine ⟨n + 1, v, Hf, ?_, hv⟩
  rw [m_go_s]
  unfold m_st
  simp only [hc]
  rw [if_neg h8, if_neg hw]
  simp only [hr, hex]
  exact hn
theorem m_Rn.ret (hc : m_code M pc = some (i, x, y, w, z)) (h8 : ¬ w = 8) (hw : m_inv i = false) (hr : m_rts i S = some v) (ho : m_rok (m_rt M) v = true) (k : m_Rt scr CF v H) : m_Rn scr CF M pc L S H := by
  refine ⟨1, v, H, ?_, k⟩
  rw [m_go_s]
  unfold m_st
  simp only [hc]
  rw [if_neg h8, if_neg (by rw [hw]; intro q; cases q.2)]
  simp only [hr]
  rw [if_pos ho]
theorem m_Rn.thr {k0 : Nat} (hc : m_code M pc = some (.new k0, x, y, 8, z)) (k : m_Rt scr CF (some (.float (UInt32.ofNat x))) (H ++ [.inr (10 + x, [])])) : m_Rn scr CF M pc L [] H := by
  refine ⟨1, _, _, ?_, k⟩
  rw [m_go_s]
  unfold m_st
  simp only [hc, if_true]
theorem m_Rn.call (hc : m_code M pc = some (i, x, y, w, z)) (hw : w = 1 ∨ w = 2) (hi : m_inv i = true) (hcut : m_cut x S H = some (as, S')) (hcat : m_cat as ≤ m_nL x) (k : m_Rn scr ((M, pc, L, S') :: CF) x 0 (lv_args 0 as) [] H) : m_Rn scr CF M pc L S H := by
  obtain ⟨n, v, H1, hn, hv⟩ := k
  have h8 : ¬ w = 8 := by omega
  unfold m_Rt at hv
  split at hv
  · next hth =>
    obtain ⟨n2, v', Hf, hn2, hv2⟩ := hv
    refine ⟨max n n2 + 1, v', Hf, ?_, hv2⟩
    rw [m_go_s]
    unfold m_st
    simp only [hc]
    rw [if_neg h8, if_pos ⟨hw, hi⟩]
    simp only [hcut]
    rw [if_pos hcat, m_go_le scr (Nat.le_max_left n n2) hn]
    simp only [hth]
    exact m_go_le scr (Nat.le_max_right n n2) hn2
  · next kx hth =>
    obtain ⟨i', x', y', w', z', hc', hths, hh⟩ := hv
    rw [hc] at hc'
    cases hc'
    rcases hh with ⟨he, hr⟩ | ⟨he, q, s, hq, n2, v', Hf, hn2, hv2⟩
    · refine ⟨n + 1, v, H1, ?_, hr⟩
      rw [m_go_s]
      unfold m_st
      simp only [hc]
      rw [if_neg h8, if_pos ⟨hw, hi⟩]
      simp only [hcut]
      rw [if_pos hcat, hn]
      simp only [hth, hths, he, if_true]
    · refine ⟨max n n2 + 1, v', Hf, ?_, hv2⟩
      rw [m_go_s]
      unfold m_st
      simp only [hc]
      rw [if_neg h8, if_pos ⟨hw, hi⟩]
      simp only [hcut]
      rw [if_pos hcat, m_go_le scr (Nat.le_max_left n n2) hn]
      simp only [hth, hths, he, if_true, hq]
      exact m_go_le scr (Nat.le_max_right n n2) hn2
end RN
