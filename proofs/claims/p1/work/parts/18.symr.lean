/-! what a state of the run by symbols says of a state of the data's run -/
def cI (e : Nat) : Int32 := Int32.ofInt ((e : Int) - 2147483648)
def sv (σ ρ : Nat → Nat) : sV → Value
  | .inl e => .int (cI e)
  | .inr (.inl r) => .ref (σ r)
  | .inr (.inr (.inl j)) => .int (cI (ρ j))
  | .inr (.inr (.inr (.inl p))) => if p = 999 then .ref 0 else .ref (m_p0 + p)
  | .inr (.inr (.inr (.inr (.inl l)))) => if l < 18446744073709551616 then .long (Int64.ofNat l) else .long (cI (ρ (l - 18446744073709551616))).toInt64
  | .inr (.inr (.inr (.inr (.inr (.inl d))))) => match d with
    | 0 => .null
    | d + 1 => .double (UInt64.ofNat d)
  | .inr (.inr (.inr (.inr (.inr (.inr j))))) => .int (cI (j / 16) - cI (ρ (j % 16)))
theorem cI_toInt {e : Nat} (h : e < 4294967296) : (cI e).toInt = (e : Int) - 2147483648 := Int32.toInt_ofInt_of_le (by omega) (by omega)
theorem cI_lt {a b : Nat} (ha : a < 4294967296) (hb : b < 4294967296) : cI a < cI b ↔ a < b := by
  rw [Int32.lt_iff_toInt_lt, cI_toInt ha, cI_toInt hb]; omega
theorem cI_le {a b : Nat} (ha : a < 4294967296) (hb : b < 4294967296) : cI a ≤ cI b ↔ a ≤ b := by
  rw [Int32.le_iff_toInt_le, cI_toInt ha, cI_toInt hb]; omega
theorem cI_inj {a b : Nat} (ha : a < 4294967296) (hb : b < 4294967296) : cI a = cI b ↔ a = b := by
  rw [← Int32.toInt_inj, cI_toInt ha, cI_toInt hb]; omega
theorem cI_zero : cI 2147483648 = 0 := by decide
theorem m_bm {x y : Int} (h : x % 4294967296 = y % 4294967296) : x.bmod Int32.size = y.bmod Int32.size := by
  rw [← Int.emod_bmod (x := x), ← Int.emod_bmod (x := y)]
  show Int.bmod (x % 4294967296) _ = Int.bmod (y % 4294967296) _
  rw [h]
theorem cI_mod (e : Nat) : cI (e % 4294967296) = cI e := by
  unfold cI
  rw [← Int32.toInt_inj, Int32.toInt_ofInt, Int32.toInt_ofInt]
  have e1 : (Int32.size : Int) = 4294967296 := rfl
  have e2 : ((e % 4294967296 : Nat) : Int) - 2147483648 = ((e : Int) - 2147483648) - 4294967296 * ((e : Int) / 4294967296) := by omega
  rw [e2]
  refine m_bm ?_
  omega
theorem cI_add (a b : Nat) : cI a + cI b = cI (a + b + 2147483648) := by
  unfold cI
  rw [← Int32.ofInt_add, ← Int32.toInt_inj, Int32.toInt_ofInt, Int32.toInt_ofInt]
  refine m_bm ?_
  omega
theorem cI_sub {a b : Nat} (hb : b < 4294967296) : cI a - cI b = cI (a + 6442450944 - b) := by
  unfold cI
  rw [← Int32.ofInt_sub, ← Int32.toInt_inj, Int32.toInt_ofInt, Int32.toInt_ofInt]
  refine m_bm ?_
  omega
theorem cI_mul (a b : Nat) : cI a * cI b = cI ((a + 2147483648) * (b + 2147483648) + 2147483648) := by
  unfold cI
  rw [← Int32.ofInt_mul, ← Int32.toInt_inj, Int32.toInt_ofInt, Int32.toInt_ofInt]
  refine m_bm ?_
  have e1 : ((((a + 2147483648) * (b + 2147483648) + 2147483648 : Nat) : Int) - 2147483648) = ((a : Int) - 2147483648) * ((b : Int) - 2147483648) + 4294967296 * ((a : Int) + b) := by
    have e0 : (((a + 2147483648) * (b + 2147483648) + 2147483648 : Nat) : Int) = ((a : Int) + 2147483648) * ((b : Int) + 2147483648) + 2147483648 := by
      rw [Int.natCast_add, Int.natCast_mul, Int.natCast_add, Int.natCast_add]; rfl
    rw [e0]
    generalize (a : Int) = x
    generalize (b : Int) = y
    have : (x + 2147483648) * (y + 2147483648) = x * y + 2147483648 * x + 2147483648 * y + 4611686018427387904 := by
      rw [Int.add_mul, Int.mul_add, Int.mul_add]; omega
    have h2 : (x - 2147483648) * (y - 2147483648) = x * y - 2147483648 * x - 2147483648 * y + 4611686018427387904 := by
      rw [Int.sub_mul, Int.mul_sub, Int.mul_sub]; omega
    rw [this, h2]
    omega
  rw [e1, Int.add_mul_emod_self_left]
theorem cI_of {x : Int} (h : 0 ≤ x + 2147483648) : cI (s_num x) = Int32.ofInt x := by
  unfold cI s_num
  rw [Int.toNat_of_nonneg h]
  congr 1
  omega
theorem cI_clamp {e : Nat} (h1 : 2147483648 ≤ e) (h2 : e < 4294967296) : (cI e).toNatClampNeg = e - 2147483648 := by
  show ((cI e).toInt).toNat = _
  rw [cI_toInt h2]; omega
theorem cI_nn {e : Nat} (h1 : 2147483648 ≤ e) (h2 : e < 4294967296) : (0 : Int32) ≤ cI e := by
  rw [← cI_zero, cI_le (by decide) h2]; exact h1
section SR
variable (scr : List Int32) (σ ρ : Nat → Nat)
def s_cr (cH : List mC) (n : Nat) : sC → Prop
  | .inl (t, len, T) => len ≤ 2147483648 ∧ ∃ vs, m_get cH (σ n) = some (.inl (t, vs)) ∧ vs.length = len ∧ ∀ i, i < len → ∃ v, g2 T i = some v ∧ vs[i]? = some (sv σ ρ v)
  | .inr (.inl (ci, fs)) => ci = 98 ∨ m_get cH (σ n) = some (.inr (ci, fs.map (sv σ ρ)))
  | .inr (.inr (t, _, es)) => ∃ vs, m_get cH (σ n) = some (.inl (t, vs)) ∧ (∀ j v, es.lookup j = some v → 2147483648 ≤ ρ j ∧ ρ j < 4294967296 ∧ vs[ρ j - 2147483648]? = some (sv σ ρ v)) ∧ ∀ j j' v v', es.lookup j = some v → es.lookup j' = some v' → ρ j = ρ j' → j = j'
def s_eo (E : sE) : Prop := ∀ j lo hi ex, E[j]? = some (lo, hi, ex) → lo ≤ ρ j ∧ ρ j ≤ hi ∧ hi < 4294967296 ∧ ¬ ρ j ∈ ex
def s_lo (L : List sV) (cL : mL) : Prop := ∀ i v, L[i]? = some v → v ≠ v_d 0 → m_ld cL i = some (sv σ ρ v)
def s_fr : List sF → List mW → Prop
  | [], [] => True
  | (M, pcr, L, S, hs) :: F, (M', pc, cL, cS) :: CF => M' = M ∧ pcr = pc + 3 ∧ s_lo σ ρ L cL ∧ cS = S.map (sv σ ρ) ∧ (∃ i x y w z, m_code M pc = some (i, x, y, w, z) ∧ hs = s_hs M pc i w) ∧ s_fr F CF
  | _, _ => False
def s_ho (H : sH) (cH : List mC) : Prop := ∀ n c, hg H n = some c → s_cr σ ρ cH n c
def s_bo (B : sB) (cH : List mC) : Prop := (∀ i, σ (B.1 + i) = cH.length + 1 + i) ∧ B.2.1 = cH.length ∧ B.2.2.1 = m_sl cH ∧ (∀ i j, B.2.2.2[i]? = some j → i < 7 → scr[i]? = some (cI (ρ j))) ∧ scr.length = 7
def s_in : Prop := ∀ a b, σ a = σ b → a = b
/-- the run by symbols from here on is true: so the data's run comes to its end -/
def s_OK (k : sK) (M pc : Nat) : Prop := ∀ L S F H E B CF cL cH, k L S (F, H, E, B) = true → s_lo σ ρ L cL → s_fr σ ρ F CF → s_ho σ ρ H cH → s_eo ρ E → s_bo scr σ ρ B cH → m_Rn scr CF M pc cL (S.map (sv σ ρ)) cH
end SR
section SP
variable {scr : List Int32} {σ ρ : Nat → Nat}
theorem sv_isI {v : sV} (h : v_isI v) : ∃ x, sv σ ρ v = .int x := by
  rcases h with ⟨e, rfl⟩ | ⟨j, rfl⟩ | ⟨j, rfl⟩ <;> exact ⟨_, rfl⟩
theorem sv_isA {v : sV} (h : v_isA v) : ∃ x, sv σ ρ v = .ref x := by
  rcases h with ⟨r, rfl⟩ | ⟨p, rfl⟩
  · exact ⟨_, rfl⟩
  · by_cases hp : p = 999
    · exact ⟨0, if_pos hp⟩
    · exact ⟨_, if_neg hp⟩
theorem sv_l (l : Nat) : ∃ x, sv σ ρ (v_l l) = .long x := by
  by_cases h : l < 18446744073709551616
  · exact ⟨_, if_pos h⟩
  · exact ⟨_, if_neg h⟩
theorem sv_ln {l : Nat} (h : l < 18446744073709551616) : sv σ ρ (v_l l) = .long (Int64.ofNat l) := if_pos h
theorem sv_ls {l j : Nat} (h : l = j + 18446744073709551616) : sv σ ρ (v_l l) = .long (cI (ρ j)).toInt64 := by
  have hn : ¬ l < 18446744073709551616 := by omega
  have e : l - 18446744073709551616 = j := by omega
  show (if l < 18446744073709551616 then Value.long (Int64.ofNat l) else .long (cI (ρ (l - 18446744073709551616))).toInt64) = _
  rw [if_neg hn, e]
theorem kLn_iff (v : sV) (k : Nat → Bool) : kLn v k = true ↔ ∃ l, v = v_l l ∧ l < 18446744073709551616 ∧ k l = true := by
  unfold kLn
  rw [kLo_iff]
  constructor
  · rintro ⟨l, h1, h2⟩
    rw [kB_f, Nat.ble_eq] at h2
    exact ⟨l, h1, by omega, h2.2⟩
  · rintro ⟨l, h1, h2, h3⟩
    exact ⟨l, h1, by rw [kB_f, Nat.ble_eq]; exact ⟨by omega, h3⟩⟩
theorem sv_cat (v : sV) : (sv σ ρ v).category = 1 ∨ ((sv σ ρ v).category = 2 ∧ v_two v) := by
  rcases v_cases v with ⟨e, rfl⟩ | ⟨r, rfl⟩ | ⟨j, rfl⟩ | ⟨p, rfl⟩ | ⟨l, rfl⟩ | ⟨d, rfl⟩ | ⟨j, rfl⟩
  · exact Or.inl rfl
  · exact Or.inl rfl
  · exact Or.inl rfl
  · obtain ⟨x, hx⟩ := sv_isA (σ := σ) (ρ := ρ) (Or.inr ⟨p, rfl⟩ : v_isA (v_p p)); rw [hx]; exact Or.inl rfl
  · obtain ⟨x, hx⟩ := sv_l (σ := σ) (ρ := ρ) l; rw [hx]; exact Or.inr ⟨rfl, Or.inl ⟨l, rfl⟩⟩
  · cases d with
    | zero => exact Or.inl rfl
    | succ d => exact Or.inr ⟨rfl, Or.inr ⟨d, rfl⟩⟩
  · exact Or.inl rfl
theorem sv_cat1 {v : sV} (h : ¬ v_two v) : (sv σ ρ v).category = 1 := by
  rcases sv_cat (σ := σ) (ρ := ρ) v with h1 | ⟨-, h2⟩
  · exact h1
  · exact absurd h2 h
theorem s_ct {S : List sV} {b : Bool} (h : kCt S b = true) : m_cat (S.map (sv σ ρ)) ≤ 8 ∧ b = true := by
  obtain ⟨hb, w, hw, hf⟩ := kCt_iff S b h
  exact ⟨Nat.le_trans (hf _ sv_cat) hw, hb⟩
theorem s_eo.set {E : sE} {j lo hi : Nat} {ex : List Nat} (h : s_eo ρ E) (h1 : lo ≤ ρ j) (h2 : ρ j ≤ hi) (h3 : hi < 4294967296) (h4 : ¬ ρ j ∈ ex) : s_eo ρ (E.set j (lo, hi, ex)) := by
  intro i lo' hi' ex' he
  by_cases hij : i = j
  · subst hij
    rw [List.getElem?_set] at he
    simp only [if_true] at he
    split at he
    · cases he; exact ⟨h1, h2, h3, h4⟩
    · cases he
  · rw [List.getElem?_set_ne (Ne.symm hij)] at he
    exact h i lo' hi' ex' he
theorem kEn_of {j : Nat} {ex : List Nat} {E : sE} {k : Nat → sE → Bool} : ∀ (n v : Nat), kEn n v ex E j k = true → v ≤ ρ j → ρ j < v + n → ¬ ρ j ∈ ex → j < E.length ∧ k (ρ j) (E.set j (ρ j, ρ j, [])) = true
  | 0, v, _, h1, h2, _ => by omega
  | n + 1, v, h, h1, h2, h3 => by
    have h' : kB (kMem v ex true (kSet E j (v, v, []) (fun E => k v E))) (kFrc (Nat.add v 1) (fun v => kEn n v ex E j k)) false = true := h
    rw [kB_f, kFrc_eq, kMem_iff] at h'
    obtain ⟨h4, h5⟩ := h'
    by_cases hv : ρ j = v
    · rcases h4 with ⟨h4, -⟩ | ⟨-, h4⟩
      · exact absurd (hv ▸ h4) h3
      · rw [kSet_iff] at h4
        rw [hv]; exact h4
    · exact kEn_of n (v + 1) h5 (by omega) (by omega) h3
theorem kRes_of {v : sV} {E : sE} {k : Nat → sE → Bool} (h : kRes v E k = true) (hE : s_eo ρ E) : ∃ e E', sv σ ρ v = .int (cI e) ∧ e < 4294967296 ∧ s_eo ρ E' ∧ k e E' = true := by
  rcases v_cases v with ⟨e, rfl⟩ | ⟨r, rfl⟩ | ⟨j, rfl⟩ | ⟨p, rfl⟩ | ⟨l, rfl⟩ | ⟨d, rfl⟩ | ⟨j, rfl⟩
  · have h' : kB (Nat.ble e 4294967295) (k e E) false = true := h
    rw [kB_f, Nat.ble_eq] at h'
    exact ⟨e, E, rfl, by omega, hE, h'.2⟩
  · cases (show false = true from h)
  · have h' : kEl E j (fun lo hi ex => kB (Nat.beq lo hi) (k lo E) (kB (Nat.ble (Nat.sub hi lo) 300) (kEn (Nat.add (Nat.sub hi lo) 1) lo ex E j k) false)) = true := h
    rw [kEl_iff] at h'
    obtain ⟨lo, hi, ex, h1, h2⟩ := h'
    obtain ⟨b1, b2, b3, b4⟩ := hE j lo hi ex h1
    rw [kB_iff, kB_f] at h2
    rcases h2 with ⟨h2, h3⟩ | ⟨-, h2, h3⟩
    · have := Nat.beq_eq.mp h2
      exact ⟨lo, E, by show Value.int (cI (ρ j)) = _; rw [show ρ j = lo by omega], by omega, hE, h3⟩
    · obtain ⟨-, h4⟩ := kEn_of (ρ := ρ) _ _ h3 b1 (by show ρ j < lo + (hi - lo + 1); omega) b4
      exact ⟨ρ j, _, rfl, by omega, hE.set (Nat.le_refl _) (Nat.le_refl _) (by omega) (by simp), h4⟩
  · cases (show false = true from h)
  · cases (show false = true from h)
  · cases (show false = true from h)
  · cases (show false = true from h)
theorem kRg_of {v : sV} {E : sE} {k : Nat → Nat → Bool} (h : kRg v E k = true) (hE : s_eo ρ E) : ∃ e lo hi, sv σ ρ v = .int (cI e) ∧ e < 4294967296 ∧ lo ≤ e ∧ e ≤ hi ∧ k lo hi = true := by
  rcases v_cases v with ⟨e, rfl⟩ | ⟨r, rfl⟩ | ⟨j, rfl⟩ | ⟨p, rfl⟩ | ⟨l, rfl⟩ | ⟨d, rfl⟩ | ⟨j, rfl⟩
  · have h' : kB (Nat.ble e 4294967295) (k e e) false = true := h
    rw [kB_f, Nat.ble_eq] at h'
    exact ⟨e, e, e, rfl, by omega, Nat.le_refl _, Nat.le_refl _, h'.2⟩
  · cases (show false = true from h)
  · have h' : kEl E j (fun lo hi _ => k lo hi) = true := h
    rw [kEl_iff] at h'
    obtain ⟨lo, hi, ex, h1, h2⟩ := h'
    obtain ⟨b1, b2, b3, b4⟩ := hE j lo hi ex h1
    exact ⟨ρ j, lo, hi, rfl, by omega, b1, b2, h2⟩
  · cases (show false = true from h)
  · cases (show false = true from h)
  · cases (show false = true from h)
  · cases (show false = true from h)
theorem kNm_of {v : sV} {E : sE} {ki : Nat → Bool} {ks : Nat → Nat → Nat → List Nat → Bool} (h : kNm v E ki ks = true) (hE : s_eo ρ E) : ∃ e, sv σ ρ v = .int (cI e) ∧ e < 4294967296 ∧ (ki e = true ∨ ∃ j lo hi ex, v = v_s j ∧ e = ρ j ∧ lo ≤ ρ j ∧ ρ j ≤ hi ∧ hi < 4294967296 ∧ ¬ ρ j ∈ ex ∧ ks j lo hi ex = true) := by
  rcases v_cases v with ⟨e, rfl⟩ | ⟨r, rfl⟩ | ⟨j, rfl⟩ | ⟨p, rfl⟩ | ⟨l, rfl⟩ | ⟨d, rfl⟩ | ⟨j, rfl⟩
  · have h' : kB (Nat.ble e 4294967295) (ki e) false = true := h
    rw [kB_f, Nat.ble_eq] at h'
    exact ⟨e, rfl, by omega, Or.inl h'.2⟩
  · cases (show false = true from h)
  · have h' : kEl E j (fun lo hi ex => kB (Nat.beq lo hi) (ki lo) (ks j lo hi ex)) = true := h
    rw [kEl_iff] at h'
    obtain ⟨lo, hi, ex, h1, h2⟩ := h'
    obtain ⟨b1, b2, b3, b4⟩ := hE j lo hi ex h1
    rw [kB_iff] at h2
    refine ⟨ρ j, rfl, by omega, ?_⟩
    rcases h2 with ⟨h2, h3⟩ | ⟨-, h3⟩
    · have := Nat.beq_eq.mp h2
      rw [show ρ j = lo by omega]
      exact Or.inl h3
    · exact Or.inr ⟨j, lo, hi, ex, rfl, rfl, b1, b2, b3, b4, h3⟩
  · cases (show false = true from h)
  · cases (show false = true from h)
  · cases (show false = true from h)
  · cases (show false = true from h)
/-- what a comparison owes -/
def s_cO (ρ : Nat → Nat) (P : Prop) (kt kf : sE → Bool) : Prop := (P ∧ ∃ E', s_eo ρ E' ∧ kt E' = true) ∨ (¬ P ∧ ∃ E', s_eo ρ E' ∧ kf E' = true)
theorem kLt_of {u v : sV} {E : sE} {kt kf : sE → Bool} (h : kLt u v E kt kf = true) (hE : s_eo ρ E) : ∃ a b, sv σ ρ u = .int (cI a) ∧ sv σ ρ v = .int (cI b) ∧ a < 4294967296 ∧ b < 4294967296 ∧ s_cO ρ (a < b) kt kf := by
  obtain ⟨a, hu, ha, h⟩ := kNm_of (σ := σ) h hE
  rcases h with h | ⟨j, lo, hi, ex, rfl, rfl, b1, b2, b3, b4, h⟩
  · obtain ⟨b, hv, hb, h⟩ := kNm_of (σ := σ) h hE
    refine ⟨a, b, hu, hv, ha, hb, ?_⟩
    rcases h with h | ⟨j, lo, hi, ex, rfl, rfl, b1, b2, b3, b4, h⟩
    · rw [kB_iff] at h
      rcases h with ⟨h1, h2⟩ | ⟨h1, h2⟩
      · exact Or.inl ⟨Nat.ble_eq.mp h1, E, hE, h2⟩
      · exact Or.inr ⟨(fun q => by rw [Nat.ble_eq.mpr q] at h1; cases h1), E, hE, h2⟩
    · rw [kB_iff] at h
      rcases h with ⟨h1, h2⟩ | ⟨-, h⟩
      · exact Or.inr ⟨by have := Nat.ble_eq.mp h1; omega, E, hE, h2⟩
      · rw [kB_iff] at h
        rcases h with ⟨h1, h2⟩ | ⟨-, h⟩
        · exact Or.inl ⟨by have : a + 1 ≤ lo := Nat.ble_eq.mp h1; omega, E, hE, h2⟩
        · rw [kB_f, kFrc_eq, kSet_iff, kSet_iff] at h
          by_cases q : a < ρ j
          · exact Or.inl ⟨q, _, hE.set (show a + 1 ≤ ρ j from q) b2 b3 b4, h.1.2⟩
          · exact Or.inr ⟨q, _, hE.set b1 (by omega) ha b4, h.2.2⟩
  · obtain ⟨b, hv, hb, h⟩ := kNm_of (σ := σ) h hE
    refine ⟨ρ j, b, hu, hv, ha, hb, ?_⟩
    rcases h with h | ⟨j', lo', hi', ex', -, -, -, -, -, -, h⟩
    · rw [kB_iff] at h
      rcases h with ⟨h1, h2⟩ | ⟨h0, h⟩
      · exact Or.inr ⟨by have := Nat.ble_eq.mp h1; omega, E, hE, h2⟩
      · have h0' : lo < b := by
          apply Nat.lt_of_not_le
          intro q
          rw [Nat.ble_eq.mpr q] at h0
          cases h0
        rw [kB_iff] at h
        rcases h with ⟨h1, h2⟩ | ⟨-, h⟩
        · exact Or.inl ⟨by have : hi + 1 ≤ b := Nat.ble_eq.mp h1; omega, E, hE, h2⟩
        · rw [kB_f, kFrc_eq, kSet_iff, kSet_iff] at h
          by_cases q : ρ j < b
          · exact Or.inl ⟨q, _, hE.set b1 (show ρ j ≤ b - 1 by omega) (show b - 1 < _ by omega) b4, h.1.2⟩
          · exact Or.inr ⟨q, _, hE.set (by omega) b2 b3 b4, h.2.2⟩
    · cases h
theorem s_cO.swap {P Q : Prop} {kt kf : sE → Bool} (h : s_cO ρ P kt kf) (hQ : Q ↔ ¬ P) : s_cO ρ Q kf kt := by
  rcases h with ⟨h1, h2⟩ | ⟨h1, h2⟩
  · exact Or.inr ⟨fun q => hQ.mp q h1, h2⟩
  · exact Or.inl ⟨hQ.mpr h1, h2⟩
theorem kLe_of {u v : sV} {E : sE} {kt kf : sE → Bool} (h : kLe u v E kt kf = true) (hE : s_eo ρ E) : ∃ a b, sv σ ρ u = .int (cI a) ∧ sv σ ρ v = .int (cI b) ∧ a < 4294967296 ∧ b < 4294967296 ∧ s_cO ρ (a ≤ b) kt kf := by
  obtain ⟨b, a, h1, h2, h3, h4, h5⟩ := kLt_of (σ := σ) (h : kLt v u E kf kt = true) hE
  exact ⟨a, b, h2, h1, h4, h3, h5.swap (by omega)⟩
theorem kEs_of {j lo hi b : Nat} {ex : List Nat} {E : sE} {kt kf : sE → Bool} (h : kEs j lo hi ex b E kt kf = true) (hE : s_eo ρ E) (hb : b < 4294967296) (b1 : lo ≤ ρ j) (b2 : ρ j ≤ hi) (b3 : hi < 4294967296) (b4 : ¬ ρ j ∈ ex) : s_cO ρ (ρ j = b) kt kf := by
  unfold kEs at h
  rw [kB_iff] at h
  rcases h with ⟨h1, h2⟩ | ⟨-, h⟩
  · exact Or.inr ⟨by have : b + 1 ≤ lo := Nat.ble_eq.mp h1; omega, E, hE, h2⟩
  · rw [kB_iff] at h
    rcases h with ⟨h1, h2⟩ | ⟨-, h⟩
    · exact Or.inr ⟨by have : hi + 1 ≤ b := Nat.ble_eq.mp h1; omega, E, hE, h2⟩
    · rw [kMem_iff] at h
      rcases h with ⟨h1, h2⟩ | ⟨-, h⟩
      · exact Or.inr ⟨fun q => b4 (by rw [q]; exact h1), E, hE, h2⟩
      · rw [kB_f, kSet_iff, kSet_iff] at h
        by_cases q : ρ j = b
        · exact Or.inl ⟨q, _, hE.set (by omega) (by omega) hb (by simp), h.1.2⟩
        · exact Or.inr ⟨q, _, hE.set b1 b2 b3 (by simp [q, b4]), h.2.2⟩
theorem kEq_of {u v : sV} {E : sE} {kt kf : sE → Bool} (h : kEq u v E kt kf = true) (hE : s_eo ρ E) : ∃ a b, sv σ ρ u = .int (cI a) ∧ sv σ ρ v = .int (cI b) ∧ a < 4294967296 ∧ b < 4294967296 ∧ s_cO ρ (a = b) kt kf := by
  obtain ⟨a, hu, ha, h⟩ := kNm_of (σ := σ) h hE
  rcases h with h | ⟨j, lo, hi, ex, rfl, rfl, b1, b2, b3, b4, h⟩
  · obtain ⟨b, hv, hb, h⟩ := kNm_of (σ := σ) h hE
    refine ⟨a, b, hu, hv, ha, hb, ?_⟩
    rcases h with h | ⟨j, lo, hi, ex, rfl, rfl, b1, b2, b3, b4, h⟩
    · rw [kB_iff] at h
      rcases h with ⟨h1, h2⟩ | ⟨h1, h2⟩
      · exact Or.inl ⟨Nat.beq_eq.mp h1, E, hE, h2⟩
      · exact Or.inr ⟨(fun q => by rw [Nat.beq_eq.mpr q] at h1; cases h1), E, hE, h2⟩
    · have := kEs_of h hE ha b1 b2 b3 b4
      rcases this with ⟨h1, h2⟩ | ⟨h1, h2⟩
      · exact Or.inl ⟨h1.symm, h2⟩
      · exact Or.inr ⟨fun q => h1 q.symm, h2⟩
  · obtain ⟨b, hv, hb, h⟩ := kNm_of (σ := σ) h hE
    refine ⟨ρ j, b, hu, hv, ha, hb, ?_⟩
    rcases h with h | ⟨j', lo', hi', ex', -, -, -, -, -, -, h⟩
    · exact kEs_of h hE hb b1 b2 b3 b4
    · cases h
/-! locals -/
theorem m_ld_ins_eq (i : Nat) (v : Value) : ∀ (L : mL), (∀ q ∈ L, q.1 ≠ i) → m_ld (m_ins i v L) i = some v
  | [], _ => by simp [m_ins, m_ld]
  | q :: L, h => by
    unfold m_ins
    split
    · simp [m_ld]
    · have h1 : q.1 ≠ i := h q List.mem_cons_self
      have h2 : (q.1 == i) = false := by simp [h1]
      have ih := m_ld_ins_eq i v L (fun p hp => h p (List.mem_cons_of_mem _ hp))
      unfold m_ld at ih ⊢
      rw [List.find?_cons, h2]
      exact ih
theorem m_ld_ins_ne {i j : Nat} (v : Value) (hij : i ≠ j) : ∀ (L : mL), m_ld (m_ins i v L) j = m_ld L j
  | [] => by simp [m_ins, m_ld, hij]
  | q :: L => by
    unfold m_ins
    split
    · simp [m_ld, hij]
    · have ih := m_ld_ins_ne v hij L
      unfold m_ld at ih ⊢
      rw [List.find?_cons, List.find?_cons]
      split
      · rfl
      · exact ih
theorem m_ld_filter {f : Nat × Value → Bool} {j : Nat} {u : Value} : ∀ (L : mL), m_ld L j = some u → f (j, u) = true → m_ld (L.filter f) j = some u
  | [], h, _ => by cases h
  | q :: L, h, hf => by
    unfold m_ld at h
    rw [List.find?_cons] at h
    split at h
    · next hq =>
      have h1 : q.1 = j := by simpa using hq
      have h2 : q.2 = u := by simpa using h
      have h3 : q = (j, u) := by rw [← h1, ← h2]
      rw [List.filter_cons, h3, hf]
      simp [m_ld]
    · next hq =>
      have ih := m_ld_filter L h hf
      rw [List.filter_cons]
      split
      · unfold m_ld at ih ⊢
        rw [List.find?_cons, hq]
        exact ih
      · exact ih
theorem m_ld_st1_eq (i : Nat) (v : Value) (L : mL) : m_ld (m_st1 i v L) i = some v := by
  unfold m_st1
  refine m_ld_ins_eq i v _ (fun q hq => ?_)
  have := (List.mem_filter.mp hq).2
  intro e
  simp [e] at this
theorem m_ld_st2_eq (i : Nat) (v : Value) (L : mL) : m_ld (m_st2 i v L) i = some v := by
  unfold m_st2
  refine m_ld_ins_eq i v _ (fun q hq => ?_)
  have := (List.mem_filter.mp hq).2
  intro e
  simp [e] at this
theorem s_lo.st1 {L : List sV} {cL : mL} {i : Nat} {v : sV} (h : s_lo σ ρ L cL) (hp : ∀ u, 0 < i → L[i - 1]? = some u → ¬ v_two u) : s_lo σ ρ (L.set i v) (m_st1 i (sv σ ρ v) cL) := by
  intro j u hj hn
  by_cases hij : j = i
  · subst hij
    rw [List.getElem?_set] at hj
    simp only [if_true] at hj
    split at hj
    · cases hj; exact m_ld_st1_eq _ _ _
    · cases hj
  · rw [List.getElem?_set_ne (Ne.symm hij)] at hj
    unfold m_st1
    rw [m_ld_ins_ne _ (Ne.symm hij)]
    refine m_ld_filter cL (h j u hj hn) ?_
    have h1 : (j == i) = false := by simp [hij]
    simp only [h1, Bool.not_false, Bool.true_and]
    by_cases h2 : j + 1 = i
    · have h3 := hp u (by omega) (by rw [show i - 1 = j by omega]; exact hj)
      have h4 := sv_cat1 (σ := σ) (ρ := ρ) h3
      simp [h4]
    · simp [h2]
theorem s_lo.st2 {L : List sV} {cL : mL} {i : Nat} {v : sV} (h : s_lo σ ρ L cL) (hp : ∀ u, 0 < i → L[i - 1]? = some u → ¬ v_two u) : s_lo σ ρ ((L.set i v).set (i + 1) (v_d 0)) (m_st2 i (sv σ ρ v) cL) := by
  intro j u hj hn
  by_cases hij1 : j = i + 1
  · subst hij1
    rw [List.getElem?_set] at hj
    simp only [if_true] at hj
    split at hj
    · cases hj; exact absurd rfl hn
    · cases hj
  · rw [List.getElem?_set_ne (Ne.symm hij1)] at hj
    by_cases hij : j = i
    · subst hij
      rw [List.getElem?_set] at hj
      simp only [if_true] at hj
      split at hj
      · cases hj; exact m_ld_st2_eq _ _ _
      · cases hj
    · rw [List.getElem?_set_ne (Ne.symm hij)] at hj
      unfold m_st2
      rw [m_ld_ins_ne _ (Ne.symm hij)]
      refine m_ld_filter cL (h j u hj hn) ?_
      have h1 : (j == i) = false := by simp [hij]
      have h1' : (j == i + 1) = false := by simp [hij1]
      simp only [h1, h1', Bool.not_false, Bool.true_and]
      by_cases h2 : j + 1 = i
      · have h3 := hp u (by omega) (by rw [show i - 1 = j by omega]; exact hj)
        have h4 := sv_cat1 (σ := σ) (ρ := ρ) h3
        simp [h4]
      · simp [h2]
theorem s_lo.drop {L : List sV} {cL : mL} {i : Nat} (h : s_lo σ ρ L cL) (hp : ∀ u, 0 < i → L[i - 1]? = some u → ¬ v_two u) : s_lo σ ρ (L.set i (v_d 0)) (m_drop i cL) := by
  intro j u hj hn
  by_cases hij : j = i
  · subst hij
    rw [List.getElem?_set] at hj
    simp only [if_true] at hj
    split at hj
    · cases hj; exact absurd rfl hn
    · cases hj
  · rw [List.getElem?_set_ne (Ne.symm hij)] at hj
    unfold m_drop
    refine m_ld_filter cL (h j u hj hn) ?_
    have h1 : (j == i) = false := by simp [hij]
    simp only [h1, Bool.not_false, Bool.true_and]
    by_cases h2 : j + 1 = i
    · have h3 := hp u (by omega) (by rw [show i - 1 = j by omega]; exact hj)
      have h4 := sv_cat1 (σ := σ) (ρ := ρ) h3
      simp [h4]
    · simp [h2]
end SP
