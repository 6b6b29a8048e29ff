/-! the real machine does the same: values, cells and worlds of a run at the addresses of the heap -/
def m_v (ad : Nat → Nat) : Value → Value
  | .ref r => .ref (ad r)
  | v => v
def m_iv : Value → Int32
  | .int x => x
  | _ => 0
def m_jv : Value → Int64
  | .long x => x
  | _ => 0
def m_dv : Value → UInt64
  | .double x => x
  | _ => 0
def m_rv (ad : Nat → Nat) : Value → Option Nat
  | .ref r => some (ad r)
  | _ => none
def m_fn (ad : Nat → Nat) (t : Nat) (vs : List Value) : ((Nat → Int32) ⊕ (Nat → Int64) ⊕ (Nat → UInt32) ⊕ (Nat → UInt64) ⊕ (Nat → Option Nat)) := match t with
  | 0 => .inl (fun j => m_iv (vs.getD j .null))
  | 1 => .inl (fun j => m_iv (vs.getD j .null))
  | 3 => .inr (.inl (fun j => m_jv (vs.getD j .null)))
  | 4 => .inr (.inr (.inr (.inl (fun j => m_dv (vs.getD j .null)))))
  | _ => .inr (.inr (.inr (.inr (fun j => m_rv ad (vs.getD j .null)))))
def m_E (ad : Nat → Nat) (dt : Nat → ClassId) : mC → va_E
  | .inl (t, vs) => .inl (dt t, vs.length, m_fn ad t vs)
  | .inr (ci, fs) => .inr (ci, fs.map (m_v ad))
/-- the world: what was made, at its addresses; marks of exceptions have none -/
def m_ws (N : Nat) (ad : Nat → Nat) (dt : Nat → ClassId) : Nat → List mC → va_W
  | _, [] => []
  | k, c :: H => if m_mk c = true then m_ws N ad dt (k + 1) H else (N + k, m_E ad dt c) :: m_ws N ad dt (k + 1) H
def m_ad (b N : Nat) (P : Nat → Nat) : Nat → Nat
  | 0 => b
  | k + 1 => if k + 1 < m_p0 then N + k else P (k + 1 - m_p0)
theorem m_p0_pos : 0 < m_p0 := Nat.le_of_ble_eq_true rfl
theorem m_ad_p {b N : Nat} {P : Nat → Nat} (x : Nat) : m_ad b N P (m_p0 + x) = P x := by
  have h0 := m_p0_pos
  generalize hp : m_p0 = p0 at h0
  obtain ⟨k, hk⟩ : ∃ k, p0 + x = k + 1 := ⟨p0 + x - 1, by omega⟩
  rw [hk]
  show (if k + 1 < m_p0 then N + k else P (k + 1 - m_p0)) = P x
  rw [hp, if_neg (by omega), ← hk, Nat.add_sub_cancel_left]
theorem m_ad_box {b N : Nat} {P : Nat → Nat} {r : Nat} (h : m_box r = true) : ∃ k, k < 256 ∧ r = m_p0 + (5 + k) ∧ m_ad b N P r = P (5 + k) ∧ r - (m_p0 + 5) = k := by
  simp only [m_box, Bool.and_eq_true, decide_eq_true_eq] at h
  obtain ⟨h1, h2⟩ := h
  have e : r = m_p0 + (5 + (r - (m_p0 + 5))) := by
    generalize m_p0 = p0 at h1 h2 ⊢
    omega
  refine ⟨r - (m_p0 + 5), ?_, e, ?_, rfl⟩
  · generalize m_p0 = p0 at h1 h2 ⊢
    omega
  rw [← m_ad_p (b := b) (N := N) (P := P), ← e]
theorem m_ws_at (N : Nat) (ad : Nat → Nat) (dt : Nat → ClassId) : ∀ (H : List mC) (k i : Nat) (c : mC), H[i]? = some c → m_mk c = false →
    ∃ j, (m_ws N ad dt k H)[j]? = some (N + (k + i), m_E ad dt c) ∧ ∀ d : mC, m_mk d = false → (m_ws N ad dt k H).set j (N + (k + i), m_E ad dt d) = m_ws N ad dt k (H.set i d)
  | [], k, i, c, h, _ => by cases h
  | e :: H, k, 0, c, h, hc => by
    cases h
    refine ⟨0, ?_, fun d hd => ?_⟩
    · simp [m_ws, hc]
    · simp [m_ws, hc, hd]
  | e :: H, k, i + 1, c, h, hc => by
    obtain ⟨j, h1, h2⟩ := m_ws_at N ad dt H (k + 1) i c h hc
    have e2 : k + 1 + i = k + (i + 1) := by omega
    rw [e2] at h1 h2
    by_cases he : m_mk e = true
    · refine ⟨j, ?_, fun d hd => ?_⟩
      · simp only [m_ws, he, if_true]; exact h1
      · simp only [m_ws, he, if_true, List.set_cons_succ]; exact h2 d hd
    · refine ⟨j + 1, ?_, fun d hd => ?_⟩
      · simp only [m_ws, he, List.getElem?_cons_succ]; exact h1
      · simp only [m_ws, he, List.set_cons_succ]
        show _ :: _ = _ :: _
        rw [h2 d hd]
theorem m_ws_app (N : Nat) (ad : Nat → Nat) (dt : Nat → ClassId) (c : mC) (hc : m_mk c = false) : ∀ (H : List mC) (k : Nat), m_ws N ad dt k (H ++ [c]) = m_ws N ad dt k H ++ [(N + (k + H.length), m_E ad dt c)]
  | [], k => by simp [m_ws, hc]
  | d :: H, k => by
    simp only [m_ws, List.cons_append, List.length_cons]
    rw [m_ws_app N ad dt c hc H (k + 1), show k + 1 + H.length = k + (H.length + 1) by omega]
    split <;> rfl
theorem m_ws_appm (N : Nat) (ad : Nat → Nat) (dt : Nat → ClassId) (c : mC) (hc : m_mk c = true) : ∀ (H : List mC) (k : Nat), m_ws N ad dt k (H ++ [c]) = m_ws N ad dt k H
  | [], k => by simp [m_ws, hc]
  | d :: H, k => by
    simp only [m_ws, List.cons_append]
    rw [m_ws_appm N ad dt c hc H (k + 1)]
theorem m_ws_mem (N : Nat) (ad : Nat → Nat) (dt : Nat → ClassId) : ∀ (H : List mC) (k j : Nat) (x : Nat × va_E), (m_ws N ad dt k H)[j]? = some x → ∃ (i : Nat) (c : mC), H[i]? = some c ∧ x = (N + (k + i), m_E ad dt c)
  | [], k, j, x, h => by cases h
  | c :: H, k, j, x, h => by
    by_cases hc : m_mk c = true
    · simp only [m_ws, hc, if_true] at h
      obtain ⟨i, d, h1, h2⟩ := m_ws_mem N ad dt H (k + 1) j x h
      exact ⟨i + 1, d, h1, by rw [h2, show k + 1 + i = k + (i + 1) by omega]⟩
    · simp only [m_ws, hc] at h
      cases j with
      | zero => cases h; exact ⟨0, c, rfl, rfl⟩
      | succ j =>
        obtain ⟨i, d, h1, h2⟩ := m_ws_mem N ad dt H (k + 1) j x h
        exact ⟨i + 1, d, h1, by rw [h2, show k + 1 + i = k + (i + 1) by omega]⟩
theorem m_ws_lt (N : Nat) (ad : Nat → Nat) (dt : Nat → ClassId) : ∀ (H : List mC) (k i j : Nat) (x y : Nat × va_E), (m_ws N ad dt k H)[i]? = some x → (m_ws N ad dt k H)[j]? = some y → i < j → x.1 < y.1
  | [], k, i, j, x, y, h, _, _ => by cases h
  | c :: H, k, i, j, x, y, hi, hj, hij => by
    by_cases hc : m_mk c = true
    · simp only [m_ws, hc, if_true] at hi hj
      exact m_ws_lt N ad dt H (k + 1) i j x y hi hj hij
    · simp only [m_ws, hc] at hi hj
      cases j with
      | zero => omega
      | succ j =>
        cases i with
        | zero =>
          cases hi
          obtain ⟨p, d, -, h2⟩ := m_ws_mem N ad dt H (k + 1) j y hj
          rw [h2]
          show N + k < N + (k + 1 + p)
          omega
        | succ i => exact m_ws_lt N ad dt H (k + 1) i j x y hi hj (by omega)
theorem m_ws_nox (N : Nat) (ad : Nat → Nat) (dt : Nat → ClassId) : ∀ (H : List mC) (k : Nat), m_nox H = true → (m_ws N ad dt k H).length = H.length ∧ ∀ j : Nat, (m_ws N ad dt k H)[j]? = (H[j]?).map (fun c => (N + (k + j), m_E ad dt c))
  | [], k, h => ⟨rfl, fun j => by simp [m_ws]⟩
  | c :: H, k, h => by
    simp only [m_nox, List.all_cons, Bool.and_eq_true, Bool.not_eq_true'] at h
    obtain ⟨h1, h2⟩ := m_ws_nox N ad dt H (k + 1) h.2
    refine ⟨by simp [m_ws, h.1, h1], fun j => ?_⟩
    cases j with
    | zero => simp [m_ws, h.1]
    | succ j =>
      simp only [m_ws, h.1, Bool.false_eq_true, if_false, List.getElem?_cons_succ, h2 j]
      rw [show k + 1 + j = k + (j + 1) by omega]
theorem m_D (N : Nat) (ad : Nat → Nat) (dt : Nat → ClassId) (H : List mC) : va_D (fun q => N ≤ q) (m_ws N ad dt 0 H) := by
  refine ⟨fun i j x y hi hj hxy => ?_, fun k q hk => ?_⟩
  · rcases Nat.lt_trichotomy i j with h | h | h
    · have := m_ws_lt N ad dt H 0 i j x y hi hj h; omega
    · exact h
    · have := m_ws_lt N ad dt H 0 j i y x hj hi h; omega
  · obtain ⟨i, c, -, rfl⟩ := m_ws_mem N ad dt H 0 k q hk
    show N ≤ N + (0 + i)
    omega
theorem m_at {b N : Nat} {P : Nat → Nat} {dt : Nat → ClassId} {H : List mC} {r : Nat} {c : mC} (h : m_get H r = some c) (hm : m_mk c = false) : ∃ k, (m_ws N (m_ad b N P) dt 0 H)[k]? = some (m_ad b N P r, m_E (m_ad b N P) dt c) ∧
    ∀ d : mC, m_mk d = false → (m_ws N (m_ad b N P) dt 0 H).set k (m_ad b N P r, m_E (m_ad b N P) dt d) = m_ws N (m_ad b N P) dt 0 (m_set H r d) := by
  cases r with
  | zero => cases h
  | succ k =>
    unfold m_get at h
    dsimp only at h
    split at h
    · next hk =>
      obtain ⟨j, h1, h2⟩ := m_ws_at N (m_ad b N P) dt H 0 k c h hm
      have e : m_ad b N P (k + 1) = N + (0 + k) := by
        show (if k + 1 < m_p0 then N + k else _) = _
        rw [if_pos hk, Nat.zero_add]
      refine ⟨j, by rw [e]; exact h1, fun d hd => by rw [e]; exact h2 d hd⟩
    · cases h
theorem m_ad_new {b N : Nat} {P : Nat → Nat} {H : List mC} (h : m_rm1 H = true) : m_ad b N P (H.length + 1) = N + (0 + H.length) := by
  simp only [m_rm1, Bool.and_eq_true, decide_eq_true_eq] at h
  show (if H.length + 1 < m_p0 then N + H.length else _) = _
  have h0 : (900000 : Nat) + 1 ≤ m_p0 := Nat.le_of_ble_eq_true rfl
  rw [if_pos (by generalize m_p0 = p0 at h0 ⊢; omega), Nat.zero_add]
def m_L (ad : Nat → Nat) (L : mL) : mL := L.map (fun q => (q.1, m_v ad q.2))
theorem m_v_cat (ad : Nat → Nat) (v : Value) : (m_v ad v).category = v.category := by cases v <;> rfl
theorem m_cat_v (ad : Nat → Nat) (S : List Value) : ((S.map (m_v ad)).map fun v => v.category).sum = m_cat S := by
  unfold m_cat
  rw [List.map_map]
  congr 1
  exact List.map_congr_left fun v _ => m_v_cat ad v
theorem m_ins_mem (i : Nat) (v : Value) (q : Nat × Value) : ∀ (L : mL), q ∈ m_ins i v L → q = (i, v) ∨ q ∈ L
  | [], h => Or.inl (List.mem_singleton.mp h)
  | r :: L, h => by
    unfold m_ins at h
    split at h
    · exact List.mem_cons.mp h
    · rcases List.mem_cons.mp h with h | h
      · exact Or.inr (List.mem_cons.mpr (Or.inl h))
      · rcases m_ins_mem i v q L h with h | h
        · exact Or.inl h
        · exact Or.inr (List.mem_cons_of_mem _ h)
theorem m_has_ins {ad : Nat → Nat} {ls : Array Slot} {nL i : Nat} {v : Value} {L : mL} {f : Nat × Value → Bool} (hf : ∀ q : Nat × Value, f (q.1, m_v ad q.2) = f q) (h : lv_has ls nL ((i, m_v ad v) :: (m_L ad L).filter f)) : lv_has ls nL (m_L ad (m_ins i v (L.filter f))) := by
  refine ⟨h.1, h.2.1, fun q hq => h.2.2 q ?_⟩
  obtain ⟨r, hr, rfl⟩ := List.mem_map.mp hq
  rcases m_ins_mem i v r _ hr with rfl | hr
  · exact List.mem_cons_self
  · obtain ⟨h1, h2⟩ := List.mem_filter.mp hr
    exact List.mem_cons_of_mem _ (List.mem_filter.mpr ⟨List.mem_map.mpr ⟨r, h1, rfl⟩, by rw [hf]; exact h2⟩)
theorem m_has_st1 {ad : Nat → Nat} {ls : Array Slot} {nL i : Nat} {v : Value} {L : mL} (h : lv_has ls nL ((i, m_v ad v) :: (m_L ad L).filter (fun q => !(q.1 == i) && !(q.1 + 1 == i && q.2.category == 2)))) : lv_has ls nL (m_L ad (m_st1 i v L)) := m_has_ins (fun q => by simp only [m_v_cat]) h
theorem m_has_st2 {ad : Nat → Nat} {ls : Array Slot} {nL i : Nat} {v : Value} {L : mL} (h : lv_has ls nL ((i, m_v ad v) :: (m_L ad L).filter (fun q => !(q.1 == i) && (!(q.1 == i + 1) && !(q.1 + 1 == i && q.2.category == 2))))) : lv_has ls nL (m_L ad (m_st2 i v L)) := m_has_ins (fun q => by simp only [m_v_cat]) h
theorem m_ld_mem {ad : Nat → Nat} {L : mL} {i : Nat} {v : Value} (h : m_ld L i = some v) : (i, m_v ad v) ∈ m_L ad L := by
  obtain ⟨q, hq, rfl⟩ := Option.map_eq_some_iff.mp h
  have h1 := List.find?_some hq
  have h2 := List.mem_of_find?_eq_some hq
  have h3 : q.1 = i := by simpa using h1
  subst h3
  exact List.mem_map.mpr ⟨q, h2, rfl⟩
theorem m_ld_at {ad : Nat → Nat} {L : mL} {i nL : Nat} {v : Value} {ls : Array Slot} (h : m_ld L i = some v) (hl : lv_has ls nL (m_L ad L)) : ls[i]? = some (.val (m_v ad v)) := hl.2.2 _ (m_ld_mem h)
theorem m_isI_of {v : Value} (h : m_isI v = true) : ∃ x, v = .int x := by cases v <;> first | exact ⟨_, rfl⟩ | cases h
theorem m_isL_of {v : Value} (h : m_isL v = true) : ∃ x, v = .long x := by cases v <;> first | exact ⟨_, rfl⟩ | cases h
theorem m_isD_of {v : Value} (h : m_isD v = true) : ∃ x, v = .double x := by cases v <;> first | exact ⟨_, rfl⟩ | cases h
theorem m_isA_of {v : Value} (h : m_isA v = true) : ∃ x, v = .ref x := by cases v <;> first | exact ⟨_, rfl⟩ | cases h
theorem m_lv_of {f : Value → Bool} {i pc' q : Nat} {L L' : mL} {S S' : List Value} {H H' : List mC} (h : m_lv f i pc' L S H = some (q, L', S', H')) : ∃ v, m_ld L i = some v ∧ f v = true ∧ q = pc' ∧ L' = L ∧ S' = v :: S ∧ H' = H := by
  unfold m_lv at h
  split at h
  · next v hv =>
    split at h
    · next hf => cases h; exact ⟨v, hv, hf, rfl, rfl, rfl, rfl⟩
    · cases h
  · cases h
theorem m_sv1_of {f : Value → Bool} {i pc' q : Nat} {L L' : mL} {S S' : List Value} {H H' : List mC} (h : m_sv1 f i pc' L S H = some (q, L', S', H')) : ∃ v, S = v :: S' ∧ f v = true ∧ q = pc' ∧ L' = m_st1 i v L ∧ H' = H := by
  unfold m_sv1 at h
  split at h
  · next v S1 =>
    split at h
    · next hf => cases h; exact ⟨v, rfl, hf, rfl, rfl, rfl⟩
    · cases h
  · cases h
theorem m_sv2_of {f : Value → Bool} {i pc' q : Nat} {L L' : mL} {S S' : List Value} {H H' : List mC} (h : m_sv2 f i pc' L S H = some (q, L', S', H')) : ∃ v, S = v :: S' ∧ f v = true ∧ q = pc' ∧ L' = m_st2 i v L ∧ H' = H := by
  unfold m_sv2 at h
  split at h
  · next v S1 =>
    split at h
    · next hf => cases h; exact ⟨v, rfl, hf, rfl, rfl, rfl⟩
    · cases h
  · cases h
theorem m_b2_of {f : Int32 → Int32 → Int32} {pc q : Nat} {L L' : mL} {S S' : List Value} {H H' : List mC} (h : m_b2 f pc L S H = some (q, L', S', H')) : ∃ a b S1, S = .int b :: .int a :: S1 ∧ q = pc + 1 ∧ L' = L ∧ S' = .int (f a b) :: S1 ∧ H' = H := by
  unfold m_b2 at h
  split at h
  · next b a S1 => cases h; exact ⟨a, b, S1, rfl, rfl, rfl, rfl, rfl⟩
  · cases h
theorem m_d2_of {f : Int32 → Int32 → Int32} {pc q : Nat} {L L' : mL} {S S' : List Value} {H H' : List mC} (h : m_d2 f pc L S H = some (q, L', S', H')) : ∃ a b S1, S = .int b :: .int a :: S1 ∧ ¬ b = 0 ∧ q = pc + 1 ∧ L' = L ∧ S' = .int (f a b) :: S1 ∧ H' = H := by
  unfold m_d2 at h
  split at h
  · next b a S1 =>
    split at h
    · cases h
    · next hb => cases h; exact ⟨a, b, S1, rfl, hb, rfl, rfl, rfl, rfl⟩
  · cases h
theorem m_l2_of {f : Int64 → Int64 → Int64} {pc q : Nat} {L L' : mL} {S S' : List Value} {H H' : List mC} (h : m_l2 f pc L S H = some (q, L', S', H')) : ∃ a b S1, S = .long b :: .long a :: S1 ∧ q = pc + 1 ∧ L' = L ∧ S' = .long (f a b) :: S1 ∧ H' = H := by
  unfold m_l2 at h
  split at h
  · next b a S1 => cases h; exact ⟨a, b, S1, rfl, rfl, rfl, rfl, rfl⟩
  · cases h
theorem m_gf_of {H : List mC} {r x y : Nat} {v : Value} (h : m_gf H r x y = some v) : (∃ fs, m_get H r = some (.inr (x, fs)) ∧ fs[y]? = some v) ∨ (m_box r = true ∧ x = 8 ∧ y = 0 ∧ v = .int (vb_c (r - (m_p0 + 5)))) := by
  unfold m_gf at h
  split at h
  · next ci fs hg =>
    split at h
    · next hc => subst hc; exact Or.inl ⟨fs, hg, h⟩
    · cases h
  · cases h
  · split at h
    · next hc => cases h; exact Or.inr ⟨hc.1, hc.2.1, hc.2.2, rfl⟩
    · cases h
theorem m_pf_of {H H' : List mC} {r x y : Nat} {v : Value} (h : m_pf H r x y v = some H') : ∃ fs, m_get H r = some (.inr (x, fs)) ∧ y < fs.length ∧ m_fit (m_fty x y) v = true ∧ H' = m_set H r (.inr (x, fs.set y v)) := by
  unfold m_pf at h
  split at h
  · next ci fs hg =>
    split at h
    · next hc =>
      obtain ⟨h1, h2, h3⟩ := hc
      subst h1
      cases h
      exact ⟨fs, hg, h2, h3, rfl⟩
    · cases h
  · cases h
theorem m_ra_of {H : List mC} {r t : Nat} {i : Int32} {v : Value} (h : m_ra H r t i = some v) : ∃ vs, m_get H r = some (.inl (t, vs)) ∧ 0 ≤ i ∧ vs[i.toNatClampNeg]? = some v := by
  unfold m_ra at h
  split at h
  · next u vs hg =>
    split at h
    · next hc =>
      obtain ⟨h1, h2⟩ := hc
      subst h1
      exact ⟨vs, hg, h2, h⟩
    · cases h
  · cases h
theorem m_wa_of {H H' : List mC} {r t : Nat} {i : Int32} {v : Value} (h : m_wa H r t i v = some H') : ∃ vs, m_get H r = some (.inl (t, vs)) ∧ 0 ≤ i ∧ i.toNatClampNeg < vs.length ∧ H' = m_set H r (.inl (t, vs.set i.toNatClampNeg v)) := by
  unfold m_wa at h
  split at h
  · next u vs hg =>
    split at h
    · next hc =>
      obtain ⟨h1, h2, h3⟩ := hc
      subst h1
      cases h
      exact ⟨vs, hg, h2, h3, rfl⟩
    · cases h
  · cases h
theorem m_jmp_of {pc q : Nat} {off : Int} {L L' : mL} {S S' : List Value} {H H' : List mC} (h : m_jmp pc off L S H = some (q, L', S', H')) : (pc : Int) + off = (q : Int) ∧ L' = L ∧ S' = S ∧ H' = H := by
  unfold m_jmp at h
  split at h
  · next h0 => cases h; exact ⟨(Int.toNat_of_nonneg h0).symm, rfl, rfl, rfl⟩
  · cases h
theorem m_cp_of {H H' : List mC} {r0 r : Nat} {sp dp n : Int32} (h : m_cp H r0 r sp dp n = some H') : ∃ u f g, m_get H r0 = some (.inl (u, f)) ∧ m_get H r = some (.inl (u, g)) ∧ 0 ≤ sp ∧ 0 ≤ dp ∧ 0 ≤ n ∧ sp.toNatClampNeg + n.toNatClampNeg ≤ f.length ∧ dp.toNatClampNeg + n.toNatClampNeg ≤ g.length ∧ (u = 0 ∨ (u = 6 ∧ m_bxs f sp.toNatClampNeg n.toNatClampNeg = true)) ∧
    H' = m_set H r (.inl (u, m_cpy f g sp.toNatClampNeg dp.toNatClampNeg n.toNatClampNeg)) := by
  unfold m_cp at h
  split at h
  · next u0 f u1 g h0 h1 =>
    split at h
    · next hc =>
      obtain ⟨⟨a1, a2, a3, a4, a5⟩, hu⟩ := hc
      cases h
      rcases hu with ⟨e0, e1⟩ | ⟨e0, e1, e2⟩
      · subst e0; subst e1
        exact ⟨0, f, g, h0, h1, a1, a2, a3, a4, a5, Or.inl rfl, rfl⟩
      · subst e0; subst e1
        exact ⟨6, f, g, h0, h1, a1, a2, a3, a4, a5, Or.inr ⟨rfl, e2⟩, rfl⟩
    · cases h
  · cases h
theorem m_fit_ok {ad : Nat → Nat} {ty : FieldType} {v : Value} (h : m_fit ty v = true) : narrow ty (m_v ad v) = m_v ad v ∧ fits ty (m_v ad v) = true := by
  cases ty <;> cases v <;> first | exact absurd h Bool.false_ne_true | exact ⟨rfl, rfl⟩
def m_sz : mC → Nat
  | .inl (_, vs) => vs.length
  | .inr (ci, fs) => if 10 ≤ ci then 6 else fs.length
def m_sl (H : List mC) : Nat := (H.map m_sz).sum
theorem m_sl_app (H : List mC) (c : mC) : m_sl (H ++ [c]) = m_sl H + m_sz c := by simp [m_sl]
theorem m_sl_set {H : List mC} {k : Nat} {c d : mC} (h : H[k]? = some c) (hd : m_sz d = m_sz c) : m_sl (H.set k d) = m_sl H := by
  have e : (H.map m_sz)[k]? = some (m_sz d) := by rw [List.getElem?_map, h, hd]; rfl
  have hl := (List.getElem?_eq_some_iff.mp e).1
  unfold m_sl
  rw [List.map_set, ← (List.getElem?_eq_some_iff.mp e).2, List.set_getElem_self]
theorem m_len_set {H : List mC} {r : Nat} {d : mC} : (m_set H r d).length = H.length := by
  cases r <;> simp [m_set]
theorem m_sl_mset {H : List mC} {r : Nat} {c d : mC} (h : m_get H r = some c) (hd : m_sz d = m_sz c) : m_sl (m_set H r d) = m_sl H := by
  cases r with
  | zero => rfl
  | succ k =>
    unfold m_get at h
    dsimp only at h
    split at h
    · exact m_sl_set h hd
    · cases h
theorem m_nox_set {H : List mC} {r : Nat} {c d : mC} (h : m_get H r = some c) (hd : m_mk d = m_mk c) : m_nox (m_set H r d) = m_nox H := by
  cases r with
  | zero => rfl
  | succ k =>
    unfold m_get at h
    dsimp only at h
    split at h
    · have e : (H.map m_mk)[k]? = some (m_mk d) := by rw [List.getElem?_map, h, hd]; rfl
      have hl := (List.getElem?_eq_some_iff.mp e).1
      have e2 : ∀ l : List mC, m_nox l = (l.map m_mk).all (fun b => !b) := fun l => by simp [m_nox, List.all_map]; rfl
      rw [e2, e2]
      show (List.map m_mk (H.set k d)).all _ = _
      rw [List.map_set, ← (List.getElem?_eq_some_iff.mp e).2, List.set_getElem_self]
    · cases h
theorem m_nox_app (H : List mC) (c : mC) : m_nox (H ++ [c]) = (m_nox H && !(m_mk c)) := by simp [m_nox]
theorem m_in {j : Int32} {n : Nat} (h0 : 0 ≤ j) (h : j.toNatClampNeg < n) : vp_in j n := by
  rintro (q | q)
  · exact Int32.not_lt.mpr h0 q
  · omega
theorem m_fn_set (ad : Nat → Nat) (vs : List Value) (k : Nat) (x : Int32) (hk : k < vs.length) : (fun j => m_iv ((vs.set k (.int x)).getD j .null)) = upd (fun j => m_iv (vs.getD j .null)) k x := by
  funext j
  unfold upd
  by_cases h : j = k
  · subst h
    simp [List.getD_eq_getElem?_getD, hk, m_iv]
  · show m_iv ((vs.set k (.int x)).getD j .null) = if j = k then x else m_iv (vs.getD j .null)
    rw [if_neg h, List.getD_eq_getElem?_getD, List.getD_eq_getElem?_getD, List.getElem?_set_ne (Ne.symm h)]
theorem m_fn_setR (ad : Nat → Nat) (vs : List Value) (k r : Nat) (hk : k < vs.length) : (fun j => m_rv ad ((vs.set k (.ref r)).getD j .null)) = va_up (fun j => m_rv ad (vs.getD j .null)) k (some (ad r)) := by
  funext j
  unfold va_up
  by_cases h : j = k
  · subst h
    simp [List.getD_eq_getElem?_getD, hk, m_rv]
  · show m_rv ad ((vs.set k (.ref r)).getD j .null) = if j = k then some (ad r) else m_rv ad (vs.getD j .null)
    rw [if_neg h, List.getD_eq_getElem?_getD, List.getD_eq_getElem?_getD, List.getElem?_set_ne (Ne.symm h)]
theorem m_cpy_len (f g : List Value) (sp dp n : Nat) : (m_cpy f g sp dp n).length = g.length := by simp [m_cpy]
theorem m_fn_cpy (f g : List Value) (sp dp n : Nat) (h : dp + n ≤ g.length) : (fun j => m_iv ((m_cpy f g sp dp n).getD j .null)) = va_cpy (fun j => m_iv (f.getD j .null)) (fun j => m_iv (g.getD j .null)) sp dp n := by
  funext j
  unfold va_cpy m_cpy
  by_cases hj : j < g.length
  · rw [List.getD_eq_getElem?_getD, List.getElem?_map, List.getElem?_range hj]
    show m_iv (if dp ≤ j ∧ j < dp + n then f.getD (sp + (j - dp)) .null else g.getD j .null) = _
    split <;> rfl
  · show m_iv (((List.range g.length).map _).getD j .null) = if dp ≤ j ∧ j < dp + n then m_iv (f.getD (sp + (j - dp)) .null) else m_iv (g.getD j .null)
    rw [List.getD_eq_getElem?_getD, List.getElem?_eq_none (by simp; omega), if_neg (by omega), List.getD_eq_getElem?_getD, List.getElem?_eq_none (by omega)]
theorem m_fn_setL (vs : List Value) (k : Nat) (x : Int64) (hk : k < vs.length) : (fun j => m_jv ((vs.set k (.long x)).getD j .null)) = vp_updL (fun j => m_jv (vs.getD j .null)) k x := by
  funext j
  unfold vp_updL
  by_cases h : j = k
  · subst h
    simp [List.getD_eq_getElem?_getD, hk, m_jv]
  · show m_jv ((vs.set k (.long x)).getD j .null) = if j = k then x else m_jv (vs.getD j .null)
    rw [if_neg h, List.getD_eq_getElem?_getD, List.getD_eq_getElem?_getD, List.getElem?_set_ne (Ne.symm h)]
theorem m_fn_setD (vs : List Value) (k : Nat) (x : UInt64) (hk : k < vs.length) : (fun j => m_dv ((vs.set k (.double x)).getD j .null)) = vf_upd (fun j => m_dv (vs.getD j .null)) k x := by
  funext j
  unfold vf_upd
  by_cases h : j = k
  · subst h
    simp [List.getD_eq_getElem?_getD, hk, m_dv]
  · show m_dv ((vs.set k (.double x)).getD j .null) = if j = k then x else m_dv (vs.getD j .null)
    rw [if_neg h, List.getD_eq_getElem?_getD, List.getD_eq_getElem?_getD, List.getElem?_set_ne (Ne.symm h)]
theorem m_fn_cpyR (ad : Nat → Nat) (f g : List Value) (sp dp n : Nat) (h : dp + n ≤ g.length) : (fun j => m_rv ad ((m_cpy f g sp dp n).getD j .null)) = va_cpy (fun j => m_rv ad (f.getD j .null)) (fun j => m_rv ad (g.getD j .null)) sp dp n := by
  funext j
  unfold va_cpy m_cpy
  by_cases hj : j < g.length
  · rw [List.getD_eq_getElem?_getD, List.getElem?_map, List.getElem?_range hj]
    show m_rv ad (if dp ≤ j ∧ j < dp + n then f.getD (sp + (j - dp)) .null else g.getD j .null) = _
    split <;> rfl
  · show m_rv ad (((List.range g.length).map _).getD j .null) = if dp ≤ j ∧ j < dp + n then m_rv ad (f.getD (sp + (j - dp)) .null) else m_rv ad (g.getD j .null)
    rw [List.getD_eq_getElem?_getD, List.getElem?_eq_none (by simp; omega), if_neg (by omega), List.getD_eq_getElem?_getD, List.getElem?_eq_none (by omega)]
