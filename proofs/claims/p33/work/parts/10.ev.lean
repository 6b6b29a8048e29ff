/-! reasoning about runs: a row an instruction, numbers as integers -/
def m_Ev (scr : List Int32) (M pc : Nat) (L : mL) (S : List Value) (H : List mC) (X : mR → Prop) : Prop := ∃ (n : Nat) (Y : mR), m_go scr n M pc L S H = some Y ∧ X Y
/-- a method called with arguments as returns v and leaves the heap H1 -/
def m_Cl (scr : List Int32) (x : Nat) (as : List Value) (H : List mC) (v : Option Value) (H1 : List mC) : Prop := m_Ev scr x 0 (lv_args 0 as) [] H (fun Y => Y = (v, H1))
/-- .. or returns something of which Z holds -/
def m_CP (scr : List Int32) (x : Nat) (as : List Value) (H : List mC) (Z : Option Value → List mC → Prop) : Prop := ∃ (v : Option Value) (H1 : List mC), m_Cl scr x as H v H1 ∧ Z v H1
theorem m_CP.of {scr : List Int32} {x : Nat} {as : List Value} {H : List mC} {Z : Option Value → List mC → Prop} (h : m_Ev scr x 0 (lv_args 0 as) [] H (fun Y => Z Y.1 Y.2)) : m_CP scr x as H Z := by
  obtain ⟨n, ⟨v, H1⟩, hn, hz⟩ := h
  exact ⟨v, H1, ⟨n, _, hn, rfl⟩, hz⟩
theorem m_st_mono (scr : List Int32) {f g : mF} (h : ∀ M pc L S H X, f M pc L S H = some X → g M pc L S H = some X) (M pc : Nat) (L : mL) (S : List Value) (H : List mC) (X : mR) (hf : m_st scr f M pc L S H = some X) : m_st scr g M pc L S H = some X := by
  unfold m_st at hf ⊢
  split at hf
  · cases hf
  · next i x y w z hcode =>
    split at hf
    · next hw =>
      simp only [hw, and_self, if_true]
      split at hf
      · next as S' hcut =>
        try simp only [hcut]
        split at hf
        · next hcat =>
          rw [if_pos hcat]
          split at hf
          · next v H1 hcall =>
            rw [h _ _ _ _ _ _ hcall]
            exact h _ _ _ _ _ _ hf
          · cases hf
        · cases hf
      · cases hf
    · next hw =>
      rw [if_neg hw]
      split at hf
      · next rv hr => (try simp only [hr]); exact hf
      · next hr =>
        try simp only [hr]
        split at hf
        · next pc' L' S' H' hex => (try simp only [hex]); exact h _ _ _ _ _ _ hf
        · cases hf
theorem m_go_up (scr : List Int32) : ∀ (n : Nat) (M pc : Nat) (L : mL) (S : List Value) (H : List mC) (X : mR), m_go scr n M pc L S H = some X → m_go scr (n + 1) M pc L S H = some X
  | 0, M, pc, L, S, H, X, h => by cases h
  | n + 1, M, pc, L, S, H, X, h => by
    rw [m_go_s] at h ⊢
    exact m_st_mono scr (m_go_up scr n) M pc L S H X h
theorem m_go_le (scr : List Int32) {n k : Nat} (hk : n ≤ k) {M pc : Nat} {L : mL} {S : List Value} {H : List mC} {X : mR} (h : m_go scr n M pc L S H = some X) : m_go scr k M pc L S H = some X := by
  induction hk with
  | refl => exact h
  | step _ ih => exact m_go_up scr _ _ _ _ _ _ _ ih
section EV
variable {scr : List Int32} {M pc pc' x y w : Nat} {z : Int} {i : Instr} {L L' : mL} {S S' as : List Value} {H H' H1 : List mC} {X : mR → Prop} {v : Option Value}
theorem m_step (hc : m_code M pc = some (i, x, y, w, z)) (hw : (w == 1 || w == 2) = false) (hr : m_rts i S = none) (hex : m_ex scr M pc i x y w z L S H = some (pc', L', S', H')) (k : m_Ev scr M pc' L' S' H' X) : m_Ev scr M pc L S H X := by
  obtain ⟨n, Y, hn, hY⟩ := k
  refine ⟨n + 1, Y, ?_, hY⟩
  rw [m_go_s]
  unfold m_st
  simp only [hc]
  rw [if_neg (by intro q; simp at hw; omega)]
  simp only [hr, hex]
  exact hn
theorem m_ret (hc : m_code M pc = some (i, x, y, w, z)) (hw : (w == 1 || w == 2) = false) (hr : m_rts i S = some v) (ho : m_rok (m_rt M) v = true) (hX : X (v, H)) : m_Ev scr M pc L S H X := by
  refine ⟨1, (v, H), ?_, hX⟩
  rw [m_go_s]
  unfold m_st
  simp only [hc]
  rw [if_neg (by intro q; simp at hw; omega)]
  simp only [hr]
  rw [if_pos ho]
theorem m_cal (hc : m_code M pc = some (i, x, y, w, z)) (hw : (w == 1 || w == 2) = true) (hi : m_inv i = true) (hcut : m_cut x S H = some (as, S')) (hcat : m_cat as ≤ m_nL x) (hcl : m_Cl scr x as H v H1) (k : m_Ev scr M (pc + 3) L (v.toList ++ S') H1 X) : m_Ev scr M pc L S H X := by
  obtain ⟨n, Y, hn, hY⟩ := k
  obtain ⟨n2, Y2, hn2, rfl⟩ := hcl
  refine ⟨max n n2 + 1, Y, ?_, hY⟩
  rw [m_go_s]
  unfold m_st
  simp only [hc]
  rw [if_pos ⟨by simpa using hw, hi⟩]
  simp only [hcut]
  rw [if_pos hcat, m_go_le scr (Nat.le_max_right n n2) hn2]
  exact m_go_le scr (Nat.le_max_left n n2) hn
end EV
/-! numbers -/
abbrev iI (e : Int) : Int32 := Int32.ofInt e
abbrev vI (e : Int) : Value := .int (Int32.ofInt e)
def inR (e : Int) : Prop := -2147483648 ≤ e ∧ e < 2147483648
theorem inR_0 : inR 0 := by unfold inR; omega
theorem iI_toInt {e : Int} (h : inR e) : (iI e).toInt = e := by
  obtain ⟨h1, h2⟩ := h
  exact Int32.toInt_ofInt_of_le h1 h2
theorem iI_add (a b : Int) : iI a + iI b = iI (a + b) := (Int32.ofInt_add a b).symm
theorem iI_sub (a b : Int) : iI a - iI b = iI (a - b) := (Int32.ofInt_sub a b).symm
theorem iI_mul (a b : Int) : iI a * iI b = iI (a * b) := (Int32.ofInt_mul a b).symm
theorem iI_inj {a b : Int} (ha : inR a) (hb : inR b) : iI a = iI b ↔ a = b := by
  rw [← Int32.toInt_inj, iI_toInt ha, iI_toInt hb]
theorem iI_lt {a b : Int} (ha : inR a) (hb : inR b) : iI a < iI b ↔ a < b := by
  rw [Int32.lt_iff_toInt_lt, iI_toInt ha, iI_toInt hb]
theorem iI_le {a b : Int} (ha : inR a) (hb : inR b) : iI a ≤ iI b ↔ a ≤ b := by
  rw [Int32.le_iff_toInt_le, iI_toInt ha, iI_toInt hb]
theorem iI_nat {e : Int} (h0 : 0 ≤ e) (h : e < 2147483648) : (iI e).toNatClampNeg = e.toNat := by
  have h1 := iI_toInt (e := e) ⟨by omega, h⟩
  show ((iI e).toInt).toNat = e.toNat
  rw [h1]
theorem iI_of (x : Int32) : iI x.toInt = x := Int32.ofInt_toInt x
