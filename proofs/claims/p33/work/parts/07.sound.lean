/-! the real machine does the same: values, cells and worlds of a run at the addresses of the heap -/
def m_v (ad : Nat → Nat) : Value → Value
  | .ref r => .ref (ad r)
  | v => v
def m_iv : Value → Int32
  | .int x => x
  | _ => 0
def m_rv (ad : Nat → Nat) : Value → Option Nat
  | .ref r => some (ad r)
  | _ => none
def m_fn (ad : Nat → Nat) (t : Nat) (vs : List Value) : ((Nat → Int32) ⊕ (Nat → Int64) ⊕ (Nat → UInt32) ⊕ (Nat → UInt64) ⊕ (Nat → Option Nat)) := match t with
  | 0 => .inl (fun j => m_iv (vs.getD j .null))
  | 1 => .inl (fun j => m_iv (vs.getD j .null))
  | _ => .inr (.inr (.inr (.inr (fun j => m_rv ad (vs.getD j .null)))))
def m_E (ad : Nat → Nat) (dt : Nat → ClassId) : mC → va_E
  | .inl (t, vs) => .inl (dt t, vs.length, m_fn ad t vs)
  | .inr (ci, fs) => .inr (ci, fs.map (m_v ad))
def m_ws (ad : Nat → Nat) (dt : Nat → ClassId) : Nat → List mC → va_W
  | _, [] => []
  | k, c :: H => (ad k, m_E ad dt c) :: m_ws ad dt (k + 1) H
theorem m_ws_get (ad : Nat → Nat) (dt : Nat → ClassId) : ∀ (H : List mC) (k j : Nat), (m_ws ad dt k H)[j]? = (H[j]?).map (fun c => (ad (k + j), m_E ad dt c))
  | [], k, j => by simp [m_ws]
  | c :: H, k, 0 => by simp [m_ws]
  | c :: H, k, j + 1 => by
    simp only [m_ws, List.getElem?_cons_succ]
    rw [m_ws_get ad dt H (k + 1) j, show k + 1 + j = k + (j + 1) by omega]
theorem m_ws_set (ad : Nat → Nat) (dt : Nat → ClassId) (c : mC) : ∀ (H : List mC) (k j : Nat), (m_ws ad dt k H).set j (ad (k + j), m_E ad dt c) = m_ws ad dt k (H.set j c)
  | [], k, j => by simp [m_ws]
  | d :: H, k, 0 => by simp [m_ws]
  | d :: H, k, j + 1 => by
    simp only [m_ws, List.set_cons_succ]
    rw [← m_ws_set ad dt c H (k + 1) j, show k + 1 + j = k + (j + 1) by omega]
theorem m_ws_app (ad : Nat → Nat) (dt : Nat → ClassId) (c : mC) : ∀ (H : List mC) (k : Nat), m_ws ad dt k (H ++ [c]) = m_ws ad dt k H ++ [(ad (k + H.length), m_E ad dt c)]
  | [], k => by simp [m_ws]
  | d :: H, k => by
    simp only [m_ws, List.cons_append, List.length_cons]
    rw [m_ws_app ad dt c H (k + 1), show k + 1 + H.length = k + (H.length + 1) by omega]
theorem m_ws_len (ad : Nat → Nat) (dt : Nat → ClassId) : ∀ (H : List mC) (k : Nat), (m_ws ad dt k H).length = H.length
  | [], k => rfl
  | d :: H, k => by simp [m_ws, m_ws_len ad dt H (k + 1)]
def m_ad (b N : Nat) : Nat → Nat
  | 0 => b
  | k + 1 => N + k
theorem m_ad1 (b N k : Nat) : m_ad b N (1 + k) = N + k := by rw [Nat.add_comm]; rfl
theorem m_D (b N : Nat) (dt : Nat → ClassId) (H : List mC) : va_D (fun q => N ≤ q) (m_ws (m_ad b N) dt 1 H) := by
  refine ⟨fun i j x y hi hj hxy => ?_, fun k q hk => ?_⟩
  · rw [m_ws_get] at hi hj
    obtain ⟨c1, -, rfl⟩ := Option.map_eq_some_iff.mp hi
    obtain ⟨c2, -, rfl⟩ := Option.map_eq_some_iff.mp hj
    simp only [m_ad1] at hxy
    omega
  · rw [m_ws_get] at hk
    obtain ⟨c1, -, rfl⟩ := Option.map_eq_some_iff.mp hk
    show N ≤ m_ad b N (1 + k)
    rw [m_ad1]; omega
theorem m_at {b N : Nat} {dt : Nat → ClassId} {H : List mC} {r : Nat} {c : mC} (h : m_get H r = some c) : ∃ k, r = k + 1 ∧ H[k]? = some c ∧ (m_ws (m_ad b N) dt 1 H)[k]? = some (m_ad b N r, m_E (m_ad b N) dt c) ∧
    ∀ d : mC, (m_ws (m_ad b N) dt 1 H).set k (m_ad b N r, m_E (m_ad b N) dt d) = m_ws (m_ad b N) dt 1 (m_set H r d) := by
  cases r with
  | zero => cases h
  | succ k =>
    refine ⟨k, rfl, h, ?_, fun d => ?_⟩
    · rw [m_ws_get, show H[k]? = some c from h, Nat.add_comm 1 k]; rfl
    · have e := m_ws_set (m_ad b N) dt d H 1 k
      rw [Nat.add_comm 1 k] at e
      exact e
def m_L (ad : Nat → Nat) (L : mL) : mL := L.map (fun q => (q.1, m_v ad q.2))
theorem m_v_cat (ad : Nat → Nat) (v : Value) : (m_v ad v).category = v.category := by cases v <;> rfl
theorem m_cat_v (ad : Nat → Nat) (S : List Value) : ((S.map (m_v ad)).map fun v => v.category).sum = m_cat S := by
  unfold m_cat
  rw [List.map_map]
  congr 1
  exact List.map_congr_left fun v _ => m_v_cat ad v
theorem m_ins_mem (i : Nat) (v : Value) (q : Nat × Value) : ∀ (L : mL), q ∈ m_ins i v L → q = (i, v) ∨ q ∈ L
  | [], h => Or.inl (List.mem_singleton.mp h)
  | r :: L, h => by
    unfold m_ins at h
    split at h
    · exact List.mem_cons.mp h
    · rcases List.mem_cons.mp h with h | h
      · exact Or.inr (List.mem_cons.mpr (Or.inl h))
      · rcases m_ins_mem i v q L h with h | h
        · exact Or.inl h
        · exact Or.inr (List.mem_cons_of_mem _ h)
theorem m_has_ins {ad : Nat → Nat} {ls : Array Slot} {nL i : Nat} {v : Value} {L : mL} {f : Nat × Value → Bool} (hf : ∀ q : Nat × Value, f (q.1, m_v ad q.2) = f q) (h : lv_has ls nL ((i, m_v ad v) :: (m_L ad L).filter f)) : lv_has ls nL (m_L ad (m_ins i v (L.filter f))) := by
  refine ⟨h.1, h.2.1, fun q hq => h.2.2 q ?_⟩
  obtain ⟨r, hr, rfl⟩ := List.mem_map.mp hq
  rcases m_ins_mem i v r _ hr with rfl | hr
  · exact List.mem_cons_self
  · obtain ⟨h1, h2⟩ := List.mem_filter.mp hr
    exact List.mem_cons_of_mem _ (List.mem_filter.mpr ⟨List.mem_map.mpr ⟨r, h1, rfl⟩, by rw [hf]; exact h2⟩)
theorem m_has_st1 {ad : Nat → Nat} {ls : Array Slot} {nL i : Nat} {v : Value} {L : mL} (h : lv_has ls nL ((i, m_v ad v) :: (m_L ad L).filter (fun q => !(q.1 == i) && !(q.1 + 1 == i && q.2.category == 2)))) : lv_has ls nL (m_L ad (m_st1 i v L)) := m_has_ins (fun q => by simp only [m_v_cat]) h
theorem m_has_st2 {ad : Nat → Nat} {ls : Array Slot} {nL i : Nat} {v : Value} {L : mL} (h : lv_has ls nL ((i, m_v ad v) :: (m_L ad L).filter (fun q => !(q.1 == i) && (!(q.1 == i + 1) && !(q.1 + 1 == i && q.2.category == 2))))) : lv_has ls nL (m_L ad (m_st2 i v L)) := m_has_ins (fun q => by simp only [m_v_cat]) h
theorem m_ld_mem {ad : Nat → Nat} {L : mL} {i : Nat} {v : Value} (h : m_ld L i = some v) : (i, m_v ad v) ∈ m_L ad L := by
  obtain ⟨q, hq, rfl⟩ := Option.map_eq_some_iff.mp h
  have h1 := List.find?_some hq
  have h2 := List.mem_of_find?_eq_some hq
  have h3 : q.1 = i := by simpa using h1
  subst h3
  exact List.mem_map.mpr ⟨q, h2, rfl⟩
theorem m_ld_at {ad : Nat → Nat} {L : mL} {i nL : Nat} {v : Value} {ls : Array Slot} (h : m_ld L i = some v) (hl : lv_has ls nL (m_L ad L)) : ls[i]? = some (.val (m_v ad v)) := hl.2.2 _ (m_ld_mem h)
theorem m_isI_of {v : Value} (h : m_isI v = true) : ∃ x, v = .int x := by cases v <;> first | exact ⟨_, rfl⟩ | cases h
theorem m_isL_of {v : Value} (h : m_isL v = true) : ∃ x, v = .long x := by cases v <;> first | exact ⟨_, rfl⟩ | cases h
theorem m_isA_of {v : Value} (h : m_isA v = true) : ∃ x, v = .ref x := by cases v <;> first | exact ⟨_, rfl⟩ | cases h
theorem m_lv_of {f : Value → Bool} {i pc' q : Nat} {L L' : mL} {S S' : List Value} {H H' : List mC} (h : m_lv f i pc' L S H = some (q, L', S', H')) : ∃ v, m_ld L i = some v ∧ f v = true ∧ q = pc' ∧ L' = L ∧ S' = v :: S ∧ H' = H := by
  unfold m_lv at h
  split at h
  · next v hv =>
    split at h
    · next hf => cases h; exact ⟨v, hv, hf, rfl, rfl, rfl, rfl⟩
    · cases h
  · cases h
theorem m_sv1_of {f : Value → Bool} {i pc' q : Nat} {L L' : mL} {S S' : List Value} {H H' : List mC} (h : m_sv1 f i pc' L S H = some (q, L', S', H')) : ∃ v, S = v :: S' ∧ f v = true ∧ q = pc' ∧ L' = m_st1 i v L ∧ H' = H := by
  unfold m_sv1 at h
  split at h
  · next v S1 =>
    split at h
    · next hf => cases h; exact ⟨v, rfl, hf, rfl, rfl, rfl⟩
    · cases h
  · cases h
theorem m_sv2_of {f : Value → Bool} {i pc' q : Nat} {L L' : mL} {S S' : List Value} {H H' : List mC} (h : m_sv2 f i pc' L S H = some (q, L', S', H')) : ∃ v, S = v :: S' ∧ f v = true ∧ q = pc' ∧ L' = m_st2 i v L ∧ H' = H := by
  unfold m_sv2 at h
  split at h
  · next v S1 =>
    split at h
    · next hf => cases h; exact ⟨v, rfl, hf, rfl, rfl, rfl⟩
    · cases h
  · cases h
theorem m_b2_of {f : Int32 → Int32 → Int32} {pc q : Nat} {L L' : mL} {S S' : List Value} {H H' : List mC} (h : m_b2 f pc L S H = some (q, L', S', H')) : ∃ a b S1, S = .int b :: .int a :: S1 ∧ q = pc + 1 ∧ L' = L ∧ S' = .int (f a b) :: S1 ∧ H' = H := by
  unfold m_b2 at h
  split at h
  · next b a S1 => cases h; exact ⟨a, b, S1, rfl, rfl, rfl, rfl, rfl⟩
  · cases h
theorem m_d2_of {f : Int32 → Int32 → Int32} {pc q : Nat} {L L' : mL} {S S' : List Value} {H H' : List mC} (h : m_d2 f pc L S H = some (q, L', S', H')) : ∃ a b S1, S = .int b :: .int a :: S1 ∧ ¬ b = 0 ∧ q = pc + 1 ∧ L' = L ∧ S' = .int (f a b) :: S1 ∧ H' = H := by
  unfold m_d2 at h
  split at h
  · next b a S1 =>
    split at h
    · cases h
    · next hb => cases h; exact ⟨a, b, S1, rfl, hb, rfl, rfl, rfl, rfl⟩
  · cases h
theorem m_l2_of {f : Int64 → Int64 → Int64} {pc q : Nat} {L L' : mL} {S S' : List Value} {H H' : List mC} (h : m_l2 f pc L S H = some (q, L', S', H')) : ∃ a b S1, S = .long b :: .long a :: S1 ∧ q = pc + 1 ∧ L' = L ∧ S' = .long (f a b) :: S1 ∧ H' = H := by
  unfold m_l2 at h
  split at h
  · next b a S1 => cases h; exact ⟨a, b, S1, rfl, rfl, rfl, rfl, rfl⟩
  · cases h
theorem m_gf_of {H : List mC} {r x y : Nat} {v : Value} (h : m_gf H r x y = some v) : ∃ fs, m_get H r = some (.inr (x, fs)) ∧ fs[y]? = some v := by
  unfold m_gf at h
  split at h
  · next ci fs hg =>
    split at h
    · next hc => subst hc; exact ⟨fs, hg, h⟩
    · cases h
  · cases h
theorem m_pf_of {H H' : List mC} {r x y : Nat} {v : Value} (h : m_pf H r x y v = some H') : ∃ fs, m_get H r = some (.inr (x, fs)) ∧ y < fs.length ∧ m_fit (m_fty x y) v = true ∧ H' = m_set H r (.inr (x, fs.set y v)) := by
  unfold m_pf at h
  split at h
  · next ci fs hg =>
    split at h
    · next hc =>
      obtain ⟨h1, h2, h3⟩ := hc
      subst h1
      cases h
      exact ⟨fs, hg, h2, h3, rfl⟩
    · cases h
  · cases h
theorem m_ra_of {H : List mC} {r t : Nat} {i : Int32} {v : Value} (h : m_ra H r t i = some v) : ∃ vs, m_get H r = some (.inl (t, vs)) ∧ 0 ≤ i ∧ vs[i.toNatClampNeg]? = some v := by
  unfold m_ra at h
  split at h
  · next u vs hg =>
    split at h
    · next hc =>
      obtain ⟨h1, h2⟩ := hc
      subst h1
      exact ⟨vs, hg, h2, h⟩
    · cases h
  · cases h
theorem m_wa_of {H H' : List mC} {r t : Nat} {i : Int32} {v : Value} (h : m_wa H r t i v = some H') : ∃ vs, m_get H r = some (.inl (t, vs)) ∧ 0 ≤ i ∧ i.toNatClampNeg < vs.length ∧ H' = m_set H r (.inl (t, vs.set i.toNatClampNeg v)) := by
  unfold m_wa at h
  split at h
  · next u vs hg =>
    split at h
    · next hc =>
      obtain ⟨h1, h2, h3⟩ := hc
      subst h1
      cases h
      exact ⟨vs, hg, h2, h3, rfl⟩
    · cases h
  · cases h
theorem m_jmp_of {pc q : Nat} {off : Int} {L L' : mL} {S S' : List Value} {H H' : List mC} (h : m_jmp pc off L S H = some (q, L', S', H')) : (pc : Int) + off = (q : Int) ∧ L' = L ∧ S' = S ∧ H' = H := by
  unfold m_jmp at h
  split at h
  · next h0 => cases h; exact ⟨(Int.toNat_of_nonneg h0).symm, rfl, rfl, rfl⟩
  · cases h
theorem m_cp_of {H H' : List mC} {r0 r : Nat} {sp dp n : Int32} (h : m_cp H r0 r sp dp n = some H') : ∃ f g, m_get H r0 = some (.inl (0, f)) ∧ m_get H r = some (.inl (0, g)) ∧ 0 ≤ sp ∧ 0 ≤ dp ∧ 0 ≤ n ∧ sp.toNatClampNeg + n.toNatClampNeg ≤ f.length ∧ dp.toNatClampNeg + n.toNatClampNeg ≤ g.length ∧
    H' = m_set H r (.inl (0, m_cpy f g sp.toNatClampNeg dp.toNatClampNeg n.toNatClampNeg)) := by
  unfold m_cp at h
  split at h
  · next u0 f u1 g h0 h1 =>
    split at h
    · next hc =>
      obtain ⟨e0, e1, a1, a2, a3, a4, a5⟩ := hc
      subst e0; subst e1
      cases h
      exact ⟨f, g, h0, h1, a1, a2, a3, a4, a5, rfl⟩
    · cases h
  · cases h
theorem m_fit_ok {ad : Nat → Nat} {ty : FieldType} {v : Value} (h : m_fit ty v = true) : narrow ty (m_v ad v) = m_v ad v ∧ fits ty (m_v ad v) = true := by
  cases ty <;> cases v <;> first | exact absurd h Bool.false_ne_true | exact ⟨rfl, rfl⟩
def m_sz : mC → Nat
  | .inl (_, vs) => vs.length
  | .inr (_, fs) => fs.length
def m_sl (H : List mC) : Nat := (H.map m_sz).sum
theorem m_sl_app (H : List mC) (c : mC) : m_sl (H ++ [c]) = m_sl H + m_sz c := by simp [m_sl]
theorem m_sl_set {H : List mC} {k : Nat} {c d : mC} (h : H[k]? = some c) (hd : m_sz d = m_sz c) : m_sl (H.set k d) = m_sl H := by
  have e : (H.map m_sz)[k]? = some (m_sz d) := by rw [List.getElem?_map, h, hd]; rfl
  have hl := (List.getElem?_eq_some_iff.mp e).1
  unfold m_sl
  rw [List.map_set, ← (List.getElem?_eq_some_iff.mp e).2, List.set_getElem_self]
theorem m_len_set {H : List mC} {r : Nat} {d : mC} : (m_set H r d).length = H.length := by
  cases r <;> simp [m_set]
theorem m_sl_mset {H : List mC} {r : Nat} {c d : mC} (h : m_get H r = some c) (hd : m_sz d = m_sz c) : m_sl (m_set H r d) = m_sl H := by
  cases r with
  | zero => rfl
  | succ k => exact m_sl_set h hd
theorem m_in {j : Int32} {n : Nat} (h0 : 0 ≤ j) (h : j.toNatClampNeg < n) : vp_in j n := by
  rintro (q | q)
  · exact Int32.not_lt.mpr h0 q
  · omega
theorem m_fn_set (ad : Nat → Nat) (vs : List Value) (k : Nat) (x : Int32) (hk : k < vs.length) : (fun j => m_iv ((vs.set k (.int x)).getD j .null)) = upd (fun j => m_iv (vs.getD j .null)) k x := by
  funext j
  unfold upd
  by_cases h : j = k
  · subst h
    simp [List.getD_eq_getElem?_getD, hk, m_iv]
  · show m_iv ((vs.set k (.int x)).getD j .null) = if j = k then x else m_iv (vs.getD j .null)
    rw [if_neg h, List.getD_eq_getElem?_getD, List.getD_eq_getElem?_getD, List.getElem?_set_ne (Ne.symm h)]
theorem m_fn_setR (ad : Nat → Nat) (vs : List Value) (k r : Nat) (hk : k < vs.length) : (fun j => m_rv ad ((vs.set k (.ref r)).getD j .null)) = va_up (fun j => m_rv ad (vs.getD j .null)) k (some (ad r)) := by
  funext j
  unfold va_up
  by_cases h : j = k
  · subst h
    simp [List.getD_eq_getElem?_getD, hk, m_rv]
  · show m_rv ad ((vs.set k (.ref r)).getD j .null) = if j = k then some (ad r) else m_rv ad (vs.getD j .null)
    rw [if_neg h, List.getD_eq_getElem?_getD, List.getD_eq_getElem?_getD, List.getElem?_set_ne (Ne.symm h)]
theorem m_cpy_len (f g : List Value) (sp dp n : Nat) : (m_cpy f g sp dp n).length = g.length := by simp [m_cpy]
theorem m_fn_cpy (f g : List Value) (sp dp n : Nat) (h : dp + n ≤ g.length) : (fun j => m_iv ((m_cpy f g sp dp n).getD j .null)) = va_cpy (fun j => m_iv (f.getD j .null)) (fun j => m_iv (g.getD j .null)) sp dp n := by
  funext j
  unfold va_cpy m_cpy
  by_cases hj : j < g.length
  · rw [List.getD_eq_getElem?_getD, List.getElem?_map, List.getElem?_range hj]
    show m_iv (if dp ≤ j ∧ j < dp + n then f.getD (sp + (j - dp)) .null else g.getD j .null) = _
    split <;> rfl
  · show m_iv (((List.range g.length).map _).getD j .null) = if dp ≤ j ∧ j < dp + n then m_iv (f.getD (sp + (j - dp)) .null) else m_iv (g.getD j .null)
    rw [List.getD_eq_getElem?_getD, List.getElem?_eq_none (by simp; omega), if_neg (by omega), List.getD_eq_getElem?_getD, List.getElem?_eq_none (by omega)]
/-! the tables' facts, the frame's facts, one instruction -/
theorem m_lays (C : String) (T : u_T) (n : Nat) (pl : List Nat) (h : (List.range n).all (fun k => m_wp (pl.getD k 0) (u_lay C T k)) = true) : ∀ w ∈ u_ws C T n, w ∈ m_gw := by
  intro w hw
  obtain ⟨k, hk, rfl⟩ := List.mem_map.mp hw
  exact m_wp_in (List.all_eq_true.mp h k hk)
def m_clok (ci : Nat) (r : vw_C) : Prop := (∀ w ∈ u_ws r.1 r.2.1 r.2.2, w ∈ m_gw) ∧ (∀ k, k < r.2.2 → parseFieldDescriptor (r.2.1 k).2.2.1 = some (m_fty ci k)) ∧ ∀ a, a < r.2.2 → ∀ b, b < r.2.2 → a ≠ b → (r.2.1 a).2.1 ≠ (r.2.1 b).2.1
set_option maxRecDepth 100000 in
theorem m_clok0 : m_clok 0 (RX0, TX0, 5) := ⟨m_lays RX0 TX0 5 ((m_cpl.getD 0 (0, 0, [])).2.2) (by decide +kernel), tyX0_ok, nmX0⟩
set_option maxRecDepth 100000 in
theorem m_clok1 : m_clok 1 (RX1, TX1, 8) := ⟨m_lays RX1 TX1 8 ((m_cpl.getD 1 (0, 0, [])).2.2) (by decide +kernel), tyX1_ok, nmX1⟩
set_option maxRecDepth 100000 in
theorem m_clok2 : m_clok 2 (RX2, TX2, 4) := ⟨m_lays RX2 TX2 4 ((m_cpl.getD 2 (0, 0, [])).2.2) (by decide +kernel), tyX2_ok, nmX2⟩
set_option maxRecDepth 100000 in
theorem m_clok3 : m_clok 3 (RX3, TX3, 3) := ⟨m_lays RX3 TX3 3 ((m_cpl.getD 3 (0, 0, [])).2.2) (by decide +kernel), tyX3_ok, nmX3⟩
set_option maxRecDepth 100000 in
theorem m_clok4 : m_clok 4 (RX4, TX4, 3) := ⟨m_lays RX4 TX4 3 ((m_cpl.getD 4 (0, 0, [])).2.2) (by decide +kernel), tyX4_ok, nmX4⟩
set_option maxRecDepth 100000 in
theorem m_clok5 : m_clok 5 (RX5, TX5, 6) := ⟨m_lays RX5 TX5 6 ((m_cpl.getD 5 (0, 0, [])).2.2) (by decide +kernel), tyX5_ok, nmX5⟩
theorem m_cls (ci : Nat) (r : vw_C) (h : m_cl[ci]? = some r) : m_clok ci r := by
  match ci, h with
  | 0, h => cases h; exact m_clok0
  | 1, h => cases h; exact m_clok1
  | 2, h => cases h; exact m_clok2
  | 3, h => cases h; exact m_clok3
  | 4, h => cases h; exact m_clok4
  | 5, h => cases h; exact m_clok5
  | n + 6, h => cases h
set_option maxRecDepth 100000 in
theorem m_w_max : m_wp (m_mathpl.getD 0 (0, 0)).1 (.static Lib.Math.max.name) = true ∧ m_wp (m_mathpl.getD 0 (0, 0)).2 (.code Lib.Math.max.name Lib.Math.max.code 2 (some .int)) = true := by decide +kernel
set_option maxRecDepth 100000 in
theorem m_w_min : m_wp (m_mathpl.getD 1 (0, 0)).1 (.static Lib.Math.min.name) = true ∧ m_wp (m_mathpl.getD 1 (0, 0)).2 (.code Lib.Math.min.name Lib.Math.min.code 2 (some .int)) = true := by decide +kernel
set_option maxRecDepth 100000 in
theorem m_w_abs : m_wp (m_mathpl.getD 2 (0, 0)).1 (.static Lib.Math.abs.name) = true ∧ m_wp (m_mathpl.getD 2 (0, 0)).2 (.code Lib.Math.abs.name Lib.Math.abs.code 1 (some .int)) = true := by decide +kernel
set_option maxRecDepth 100000 in
theorem m_w_cpy : m_wp (m_mathpl.getD 3 (0, 0)).1 (.static arraycopyName) = true ∧ m_wp (m_mathpl.getD 3 (0, 0)).2 (.native arraycopyName) = true := by decide +kernel
set_option maxRecDepth 100000 in
theorem m_w_ini : m_wp m_miscpl.1 (.initialized "java/lang/Math") = true ∧ m_wp m_miscpl.2.1 (.initialized "java/lang/System") = true := by decide +kernel
set_option maxRecDepth 100000 in
theorem m_w_obj : m_wp m_miscpl.2.2.1 (.instanceMethod Lib.objectInit) = true ∧ m_wp m_miscpl.2.2.2 (.code Lib.objectInit ⟨#[0xb1]⟩ 1 none) = true := by decide +kernel
def m_Kn (D : va_G) (dt : Nat → ClassId) (s : State) : Prop := va_K D m_cl [(dt 0, .int), (dt 1, .boolean), (dt 2, .object "ParallaxSheets$Sheet")] s ∧ (∀ u ∈ m_nest, va_Nw u s) ∧ va_AO "ParallaxSheets$Sheet" s
theorem m_nest_form (u : Cond) (hu : u ∈ m_nest) : ∃ a i x h, u = .methodLinkNest a i x h := by
  simp only [m_nest, List.mem_cons, List.not_mem_nil, or_false] at hu
  rcases hu with rfl | rfl | rfl | rfl | rfl | rfl <;> exact ⟨_, _, _, _, rfl⟩
theorem m_Kn.warm {D : va_G} {dt : Nat → ClassId} {s U : State} (hW : s.WarmedH U.vm) (h : m_Kn D dt s) : m_Kn D dt U :=
  ⟨va_K.moved hW.alike h.1, fun u hu => by
    obtain ⟨a, i, x, k, rfl⟩ := m_nest_form u hu
    exact va_Nw.warmM hW (h.2.1 _ hu), va_AO.moved hW.alike h.2.2⟩
theorem m_Kn.call {D : va_G} {dt : Nat → ClassId} {U : State} {g : JFrame} {mk : MethodId} {a : Array Value} (h : m_Kn D dt U) : m_Kn D dt (U.calling g mk a) :=
  ⟨va_K.moved (u := U) (U := U.calling g mk a) (Vm.Alike.refl U.vm) h.1, fun u hu => by
    obtain ⟨a, i, x, k, rfl⟩ := m_nest_form u hu
    exact va_Nw.same rfl rfl (h.2.1 _ hu), va_AO.moved (u := U) (U := U.calling g mk a) (Vm.Alike.refl U.vm) h.2.2⟩
def m_Cx (D : va_G) (dt : Nat → ClassId) (b N : Nat) (scr : List Int32) (M : Nat) (p : Program) (s : State) (args : Array Value) (m : MethodId) (meth : Method) (c : Code) : Prop :=
  p.tables.exec = Jvm.exec ∧ c.code = m_by M ∧ c.maxLocals = m_nL M ∧ (∀ w ∈ m_gw, w.before args s = true) ∧ s.vm.findClass (m_nm M).cls = some m.cls ∧ ((m_nm M).name = "<init>" → meth.name = "<init>") ∧ m_Kn D dt s ∧ va_X b scr.length (fun j => scr.getD j 0) s s.heap ∧ b < N ∧ N ≤ s.heap.size
/-- what a walk has reached: the locals, the world, what was written, what was made -/
def m_At (D : va_G) (dt : Nat → ClassId) (b N M a0 s0 : Nat) (s : State) (L : mL) (AH : List mC) (ls : Array Slot) (H : Heap) (locs : List Loc) (cells slots : Nat) : Prop :=
  lv_has ls (m_nL M) (m_L (m_ad b N) L) ∧ va_P D m_cl (m_ws (m_ad b N) dt 1 AH) H ∧ va_S (fun q => N ≤ q) s.heap H locs ∧ cells + a0 = AH.length ∧ slots + s0 = m_sl AH
section MS
variable {p : Program} {l : Launch} {e : Env} {R : Room} {s : State} {m : MethodId} {args : Array Value} {below : List Frame} {meth : Method} {c : Code} {H : Heap} {locs : List Loc} {cells slots : Nat} {Q : State → Prop}
theorem m_W_size {g : JFrame} (h : H.size ≤ s.heap.size + cells → W p l e R s m args below meth c H locs cells slots Q g) : W p l e R s m args below meth c H locs cells slots Q g := by
  intro T hT X
  refine h ?_ T hT X
  have h1 := X.same.2.2.1
  have h2 : (T.setVm s.vm).heap = T.heap := rfl
  rw [h2, hT] at h1
  exact h1
end MS
/-! one instruction of the run is one instruction of the machine -/
theorem m_E_set0 (ad : Nat → Nat) (dt : Nat → ClassId) (vs : List Value) (k : Nat) (x : Int32) (hk : k < vs.length) : m_E ad dt (.inl (0, vs.set k (.int x))) = .inl (dt 0, vs.length, .inl (upd (fun j => m_iv (vs.getD j .null)) k x)) := by
  rw [← m_fn_set ad vs k x hk]
  show Sum.inl (dt 0, (vs.set k (.int x)).length, _) = _
  rw [List.length_set]; rfl
theorem m_E_set1 (ad : Nat → Nat) (dt : Nat → ClassId) (vs : List Value) (k : Nat) (x : Int32) (hk : k < vs.length) : m_E ad dt (.inl (1, vs.set k (.int x))) = .inl (dt 1, vs.length, .inl (upd (fun j => m_iv (vs.getD j .null)) k x)) := by
  rw [← m_fn_set ad vs k x hk]
  show Sum.inl (dt 1, (vs.set k (.int x)).length, _) = _
  rw [List.length_set]; rfl
theorem m_E_set2 (ad : Nat → Nat) (dt : Nat → ClassId) (vs : List Value) (k r : Nat) (hk : k < vs.length) : m_E ad dt (.inl (2, vs.set k (.ref r))) = .inl (dt 2, vs.length, .inr (.inr (.inr (.inr (va_up (fun j => m_rv ad (vs.getD j .null)) k (some (ad r))))))) := by
  rw [← m_fn_setR ad vs k r hk]
  show Sum.inl (dt 2, (vs.set k (.ref r)).length, _) = _
  rw [List.length_set]; rfl
theorem m_E_cpy (ad : Nat → Nat) (dt : Nat → ClassId) (f g : List Value) (sp dp n : Nat) (h : dp + n ≤ g.length) : m_E ad dt (.inl (0, m_cpy f g sp dp n)) = .inl (dt 0, g.length, .inl (va_cpy (fun j => m_iv (f.getD j .null)) (fun j => m_iv (g.getD j .null)) sp dp n)) := by
  rw [← m_fn_cpy f g sp dp n h]
  show Sum.inl (dt 0, (m_cpy f g sp dp n).length, _) = _
  rw [m_cpy_len]; rfl
theorem m_E_new (ad : Nat → Nat) (dt : Nat → ClassId) (x n : Nat) : m_E ad dt (.inl (x, List.replicate n (.int 0))) = .inl (dt x, n, m_fn ad x (List.replicate n (.int 0))) := by
  show Sum.inl (dt x, (List.replicate n (Value.int 0)).length, _) = _
  rw [List.length_replicate]
theorem m_E_newq (ad : Nat → Nat) (dt : Nat → ClassId) (n : Nat) : m_E ad dt (.inl (2, List.replicate n .null)) = .inl (dt 2, n, .inr (.inr (.inr (.inr (fun _ => none))))) := by
  show (Sum.inl (dt 2, (List.replicate n Value.null).length, Sum.inr (Sum.inr (Sum.inr (Sum.inr (fun j => m_rv ad ((List.replicate n Value.null).getD j Value.null)))))) : va_E) = _
  rw [List.length_replicate]
  congr 7
  funext j
  by_cases hj : j < n
  · simp [List.getD_eq_getElem?_getD, hj, m_rv]
  · simp [List.getD_eq_getElem?_getD, hj, m_rv]
section MO
variable {p : Program} {l : Launch} {e : Env} {R : Room} {s : State} {m : MethodId} {args : Array Value} {below : List Frame} {meth : Method} {c : Code} {H : Heap} {locs : List Loc} {cells slots : Nat} {Q : State → Prop}
variable {D : va_G} {dt : Nat → ClassId} {b N M pc pc' a0 s0 : Nat} {scr : List Int32} {ls : Array Slot} {L L' : mL} {S S' : List Value} {AH AH' : List mC}
theorem m_fresh {q : Nat} {e1 : va_E} {H1 : Heap} (hsz : s.heap.size = N + a0) (hc : cells + a0 = AH.length) (hP1 : va_P D m_cl (m_ws (m_ad b N) dt 1 AH ++ [(q, e1)]) H1) (hD1 : va_D (fun q => N ≤ q) (m_ws (m_ad b N) dt 1 AH ++ [(q, e1)])) (hz : H1.size ≤ s.heap.size + (cells + 1)) : q = m_ad b N (AH.length + 1) := by
  have hlen := m_ws_len (m_ad b N) dt AH 1
  have hq : (m_ws (m_ad b N) dt 1 AH ++ [(q, e1)])[AH.length]? = some (q, e1) := by
    rw [List.getElem?_append_right (by omega), hlen, Nat.sub_self]; rfl
  have h1 := (hP1 _ _ hq).lt
  have h2 : N ≤ q := hD1.2 _ _ hq
  show q = N + AH.length
  have h3 : q < H1.size := h1
  by_cases h : q < N + AH.length
  · exfalso
    obtain ⟨cj, hj⟩ : ∃ cj, AH[q - N]? = some cj := ⟨_, List.getElem?_eq_getElem (show q - N < AH.length by omega)⟩
    have hj2 : (m_ws (m_ad b N) dt 1 AH ++ [(q, e1)])[q - N]? = some (m_ad b N (1 + (q - N)), m_E (m_ad b N) dt cj) := by
      rw [List.getElem?_append_left (by omega), m_ws_get, hj]; rfl
    have := hD1.1 _ _ _ _ hj2 hq (by show m_ad b N (1 + (q - N)) = q; rw [m_ad1]; omega)
    omega
  · omega
theorem m_cA {x : Nat} {cA : ClassId} {ty : FieldType} (hx : (x = 0 ∧ ty = .int) ∨ (x = 1 ∧ ty = .boolean) ∨ (x = 2 ∧ ty = .object "ParallaxSheets$Sheet")) (hK : va_K D m_cl [(dt 0, .int), (dt 1, .boolean), (dt 2, .object "ParallaxSheets$Sheet")] s)
    (h : va_K D m_cl ([(dt 0, .int), (dt 1, .boolean), (dt 2, .object "ParallaxSheets$Sheet")] ++ [(cA, ty)]) s) : cA = dt x := by
  have h1 := (h.2 3 _ rfl).2
  rcases hx with ⟨rfl, rfl⟩ | ⟨rfl, rfl⟩ | ⟨rfl, rfl⟩
  · exact Option.some.inj (Eq.trans (Eq.symm h1) (hK.2 0 _ rfl).2)
  · exact Option.some.inj (Eq.trans (Eq.symm h1) (hK.2 1 _ rfl).2)
  · obtain ⟨_, _, _, _, _, h2⟩ := h1
    obtain ⟨_, _, _, _, _, h3⟩ := (hK.2 2 _ rfl).2
    exact Option.some.inj (h2.symm.trans h3)
set_option maxHeartbeats 8000000 in
theorem m_one (hC : m_Cx D dt b N scr M p s args m meth c) (hsz : s.heap.size = N + a0) {i : Instr} {x y w : Nat} {z : Int} (hE : m_okE M (pc, i, x, y, w, z) = true)
    (hex : m_ex scr M pc i x y w z L S AH = some (pc', L', S', AH')) (hA : m_At D dt b N M a0 s0 s L AH ls H locs cells slots) (hR1 : m_fr M ≤ R.frames) (hR2 : m_lo M ≤ R.locals) (hc' : AH'.length ≤ R.cells + a0) (hs' : m_sl AH' ≤ R.slots + s0)
    (kk : ∀ (ls' : Array Slot) (H' : Heap) (locs' : List Loc) (cells' slots' : Nat), m_At D dt b N M a0 s0 s L' AH' ls' H' locs' cells' slots' → W p l e R s m args below meth c H' locs' cells' slots' Q (F0 m pc' ls' (S'.map (m_v (m_ad b N))))) :
    W p l e R s m args below meth c H locs cells slots Q (F0 m pc ls (S.map (m_v (m_ad b N)))) := by
  obtain ⟨hx, hb, hml, hts, hown, hname, hK, hX, hbN, hNs⟩ := hC
  obtain ⟨hl, hP, hS, hc, hs⟩ := hA
  have hD := m_D b N dt AH
  have hAA : ∀ q : Nat, s.heap.size ≤ q → (fun q => N ≤ q) q := fun q h => Nat.le_trans hNs h
  unfold m_okE at hE
  obtain ⟨hdec0, hlk⟩ := Bool.and_eq_true_iff.mp hE
  have hdec := of_decide_eq_true hdec0
  clear hdec0 hE
  cases i
  case iconst n => cases hex; exact lv_iconst hx hb hdec rfl (kk _ _ _ _ _ ⟨hl, hP, hS, hc, hs⟩)
  case bipush n => cases hex; exact lv_bipush hx hb hdec rfl (kk _ _ _ _ _ ⟨hl, hP, hS, hc, hs⟩)
  case sipush n => cases hex; exact lv_sipush hx hb hdec rfl (kk _ _ _ _ _ ⟨hl, hP, hS, hc, hs⟩)
  case lconst n => cases hex; exact lv_lconst hx hb hdec rfl (kk _ _ _ _ _ ⟨hl, hP, hS, hc, hs⟩)
  case dconst d =>
    simp only [m_ex] at hex
    split at hex
    · next h0 => subst h0; cases hex; exact lv_dconst0 hx hb hdec (kk _ _ _ _ _ ⟨hl, hP, hS, hc, hs⟩)
    · cases hex
  case ldc k => cases hex; exact lv_ldc hx hb hown (hts _ (m_wp_in hlk)) hdec (kk _ _ _ _ _ ⟨hl, hP, hS, hc, hs⟩)
  case ldc2_w k => cases hex; exact lv_ldc2 hx hb hown (hts _ (m_wp_in hlk)) hdec (kk _ _ _ _ _ ⟨hl, hP, hS, hc, hs⟩)
  case iload_n k =>
    obtain ⟨v, hv, hf, rfl, rfl, rfl, rfl⟩ := m_lv_of hex
    obtain ⟨v, rfl⟩ := m_isI_of hf
    exact lv_iload_n hx hb hdec rfl (m_ld_at hv hl) (kk _ _ _ _ _ ⟨hl, hP, hS, hc, hs⟩)
  case iload k =>
    obtain ⟨v, hv, hf, rfl, rfl, rfl, rfl⟩ := m_lv_of hex
    obtain ⟨v, rfl⟩ := m_isI_of hf
    exact lv_iload hx hb hdec (m_ld_at hv hl) (kk _ _ _ _ _ ⟨hl, hP, hS, hc, hs⟩)
  case lload_n k =>
    obtain ⟨v, hv, hf, rfl, rfl, rfl, rfl⟩ := m_lv_of hex
    obtain ⟨v, rfl⟩ := m_isL_of hf
    exact lv_lload_n hx hb hdec rfl (m_ld_at hv hl) (kk _ _ _ _ _ ⟨hl, hP, hS, hc, hs⟩)
  case lload k =>
    obtain ⟨v, hv, hf, rfl, rfl, rfl, rfl⟩ := m_lv_of hex
    obtain ⟨v, rfl⟩ := m_isL_of hf
    exact lv_lload hx hb hdec (m_ld_at hv hl) (kk _ _ _ _ _ ⟨hl, hP, hS, hc, hs⟩)
  case aload_n k =>
    obtain ⟨v, hv, hf, rfl, rfl, rfl, rfl⟩ := m_lv_of hex
    obtain ⟨v, rfl⟩ := m_isA_of hf
    exact lv_aload_n hx hb hdec rfl (m_ld_at hv hl) (kk _ _ _ _ _ ⟨hl, hP, hS, hc, hs⟩)
  case aload k =>
    obtain ⟨v, hv, hf, rfl, rfl, rfl, rfl⟩ := m_lv_of hex
    obtain ⟨v, rfl⟩ := m_isA_of hf
    exact lv_aload hx hb hdec (m_ld_at hv hl) (kk _ _ _ _ _ ⟨hl, hP, hS, hc, hs⟩)
  case istore_n k =>
    have hn := of_decide_eq_true hlk
    obtain ⟨v, rfl, hf, rfl, rfl, rfl⟩ := m_sv1_of hex
    obtain ⟨v, rfl⟩ := m_isI_of hf
    exact lv_istore_n hx hb hdec rfl hl hn rfl (fun ls' h' => kk _ _ _ _ _ ⟨m_has_st1 (v := .int v) h', hP, hS, hc, hs⟩)
  case istore k =>
    have hn := of_decide_eq_true hlk
    obtain ⟨v, rfl, hf, rfl, rfl, rfl⟩ := m_sv1_of hex
    obtain ⟨v, rfl⟩ := m_isI_of hf
    exact lv_istore hx hb hdec hl hn rfl (fun ls' h' => kk _ _ _ _ _ ⟨m_has_st1 (v := .int v) h', hP, hS, hc, hs⟩)
  case astore_n k =>
    have hn := of_decide_eq_true hlk
    obtain ⟨v, rfl, hf, rfl, rfl, rfl⟩ := m_sv1_of hex
    obtain ⟨v, rfl⟩ := m_isA_of hf
    exact lv_astore_n hx hb hdec rfl hl hn rfl (fun ls' h' => kk _ _ _ _ _ ⟨m_has_st1 (v := .ref v) h', hP, hS, hc, hs⟩)
  case astore k =>
    have hn := of_decide_eq_true hlk
    obtain ⟨v, rfl, hf, rfl, rfl, rfl⟩ := m_sv1_of hex
    obtain ⟨v, rfl⟩ := m_isA_of hf
    exact lv_astore hx hb hdec hl hn rfl (fun ls' h' => kk _ _ _ _ _ ⟨m_has_st1 (v := .ref v) h', hP, hS, hc, hs⟩)
  case lstore_n k =>
    have hn := of_decide_eq_true hlk
    obtain ⟨v, rfl, hf, rfl, rfl, rfl⟩ := m_sv2_of hex
    obtain ⟨v, rfl⟩ := m_isL_of hf
    exact lv_lstore_n hx hb hdec rfl hl hn rfl (fun ls' h' => kk _ _ _ _ _ ⟨m_has_st2 (v := .long v) h', hP, hS, hc, hs⟩)
  case lstore k =>
    have hn := of_decide_eq_true hlk
    obtain ⟨v, rfl, hf, rfl, rfl, rfl⟩ := m_sv2_of hex
    obtain ⟨v, rfl⟩ := m_isL_of hf
    exact lv_lstore hx hb hdec hl hn rfl (fun ls' h' => kk _ _ _ _ _ ⟨m_has_st2 (v := .long v) h', hP, hS, hc, hs⟩)
  case iinc k n =>
    simp only [m_ex] at hex
    split at hex
    · next v hv =>
      have hn := of_decide_eq_true hlk
      cases hex
      obtain ⟨j, hj⟩ := List.getElem?_of_mem (m_ld_mem (ad := m_ad b N) hv)
      exact lv_iinc hx hb hdec hl hj rfl hn rfl (fun ls' h' => kk _ _ _ _ _ ⟨m_has_st1 (v := .int (v + Int32.ofInt n)) h', hP, hS, hc, hs⟩)
    · cases hex
  case iadd => obtain ⟨u, v, S1, rfl, rfl, rfl, rfl, rfl⟩ := m_b2_of hex; exact lv_iadd hx hb hdec (kk _ _ _ _ _ ⟨hl, hP, hS, hc, hs⟩)
  case isub => obtain ⟨u, v, S1, rfl, rfl, rfl, rfl, rfl⟩ := m_b2_of hex; exact lv_isub hx hb hdec (kk _ _ _ _ _ ⟨hl, hP, hS, hc, hs⟩)
  case imul => obtain ⟨u, v, S1, rfl, rfl, rfl, rfl, rfl⟩ := m_b2_of hex; exact lv_imul hx hb hdec (kk _ _ _ _ _ ⟨hl, hP, hS, hc, hs⟩)
  case iand => obtain ⟨u, v, S1, rfl, rfl, rfl, rfl, rfl⟩ := m_b2_of hex; exact lv_iand hx hb hdec (kk _ _ _ _ _ ⟨hl, hP, hS, hc, hs⟩)
  case ishr => obtain ⟨u, v, S1, rfl, rfl, rfl, rfl, rfl⟩ := m_b2_of hex; exact lv_ishr hx hb hdec (kk _ _ _ _ _ ⟨hl, hP, hS, hc, hs⟩)
  case idiv => obtain ⟨u, v, S1, rfl, h0, rfl, rfl, rfl, rfl⟩ := m_d2_of hex; exact lv_idiv hx hb hdec h0 (kk _ _ _ _ _ ⟨hl, hP, hS, hc, hs⟩)
  case irem => obtain ⟨u, v, S1, rfl, h0, rfl, rfl, rfl, rfl⟩ := m_d2_of hex; exact lv_irem hx hb hdec h0 (kk _ _ _ _ _ ⟨hl, hP, hS, hc, hs⟩)
  case ladd => obtain ⟨u, v, S1, rfl, rfl, rfl, rfl, rfl⟩ := m_l2_of hex; exact lv_ladd hx hb hdec (kk _ _ _ _ _ ⟨hl, hP, hS, hc, hs⟩)
  case lsub => obtain ⟨u, v, S1, rfl, rfl, rfl, rfl, rfl⟩ := m_l2_of hex; exact lv_lsub hx hb hdec (kk _ _ _ _ _ ⟨hl, hP, hS, hc, hs⟩)
  case lmul => obtain ⟨u, v, S1, rfl, rfl, rfl, rfl, rfl⟩ := m_l2_of hex; exact lv_lmul hx hb hdec (kk _ _ _ _ _ ⟨hl, hP, hS, hc, hs⟩)
  case ldiv =>
    simp only [m_ex] at hex
    split at hex
    · split at hex
      · cases hex
      · next h0 => cases hex; exact lv_ldiv hx hb hdec h0 (kk _ _ _ _ _ ⟨hl, hP, hS, hc, hs⟩)
    · cases hex
  case lcmp =>
    simp only [m_ex] at hex
    split at hex
    · cases hex; exact W.lcmp hx hb hdec (kk _ _ _ _ _ ⟨hl, hP, hS, hc, hs⟩)
    · cases hex
  case i2l =>
    simp only [m_ex] at hex
    split at hex
    · cases hex; exact lv_i2l hx hb hdec rfl (kk _ _ _ _ _ ⟨hl, hP, hS, hc, hs⟩)
    · cases hex
  case i2d =>
    simp only [m_ex] at hex
    split at hex
    · cases hex; exact lv_i2d hx hb hdec (kk _ _ _ _ _ ⟨hl, hP, hS, hc, hs⟩)
    · cases hex
  case ddiv =>
    simp only [m_ex] at hex
    split at hex
    · split at hex
      · next h0 => cases hex; exact lv_ddiv hx hb hdec h0 (kk _ _ _ _ _ ⟨hl, hP, hS, hc, hs⟩)
      · cases hex
    · cases hex
  case dcmp op =>
    simp only [m_ex] at hex
    split at hex
    · cases hex; exact lv_dcmp hx hb hdec (kk _ _ _ _ _ ⟨hl, hP, hS, hc, hs⟩)
    · cases hex
  case dup =>
    simp only [m_ex] at hex
    split at hex
    · split at hex
      · next h0 => cases hex; exact lv_dup hx hb hdec (by rw [m_v_cat]; exact h0) (kk _ _ _ _ _ ⟨hl, hP, hS, hc, hs⟩)
      · cases hex
    · cases hex
  case dup2 =>
    simp only [m_ex] at hex
    split at hex
    · split at hex
      · next h0 => cases hex; exact lv_dup2_11 hx hb hdec (by rw [m_v_cat]; exact h0.1) (by rw [m_v_cat]; exact h0.2) (kk _ _ _ _ _ ⟨hl, hP, hS, hc, hs⟩)
      · cases hex
    · cases hex
  case pop =>
    simp only [m_ex] at hex
    split at hex
    · split at hex
      · next h0 => cases hex; exact lv_pop hx hb hdec (by rw [m_v_cat]; exact h0) (kk _ _ _ _ _ ⟨hl, hP, hS, hc, hs⟩)
      · cases hex
    · cases hex
  case goto off => cases hex; exact lv_goto hx hb hdec (of_decide_eq_true hlk) (kk _ _ _ _ _ ⟨hl, hP, hS, hc, hs⟩)
  case ifCond cn off =>
    have ht := of_decide_eq_true hlk
    simp only [m_ex] at hex
    split at hex
    · next a S1 =>
      simp only [Option.some.injEq, Prod.mk.injEq] at hex
      obtain ⟨rfl, rfl, rfl, rfl⟩ := hex
      have kk := fun ls' H' locs' cells' slots' => kk ls' H' locs' cells' slots'
      cases cn
      · exact lv_if_eq hx hb hdec ht (fun h => (by have k1 := kk _ _ _ _ _ ⟨hl, hP, hS, hc, hs⟩; rwa [if_pos (by exact decide_eq_true h)] at k1)) (fun h => (by have k1 := kk _ _ _ _ _ ⟨hl, hP, hS, hc, hs⟩; rwa [if_neg (by intro q; exact h (of_decide_eq_true q))] at k1))
      · exact lv_if_ne hx hb hdec ht (fun h => (by have k1 := kk _ _ _ _ _ ⟨hl, hP, hS, hc, hs⟩; rwa [if_pos (by exact decide_eq_true h)] at k1)) (fun h => (by have k1 := kk _ _ _ _ _ ⟨hl, hP, hS, hc, hs⟩; rwa [if_neg (by intro q; exact (of_decide_eq_true q) h)] at k1))
      · exact lv_if_lt hx hb hdec ht (fun h => (by have k1 := kk _ _ _ _ _ ⟨hl, hP, hS, hc, hs⟩; rwa [if_pos (by exact decide_eq_true h)] at k1)) (fun h => (by have k1 := kk _ _ _ _ _ ⟨hl, hP, hS, hc, hs⟩; rwa [if_neg (by intro q; exact h (of_decide_eq_true q))] at k1))
      · exact lv_if_ge hx hb hdec ht (fun h => (by have k1 := kk _ _ _ _ _ ⟨hl, hP, hS, hc, hs⟩; rwa [if_pos (by exact decide_eq_true h)] at k1)) (fun h => (by have k1 := kk _ _ _ _ _ ⟨hl, hP, hS, hc, hs⟩; rwa [if_neg (by intro q; exact h (of_decide_eq_true q))] at k1))
      · exact lv_if_gt hx hb hdec ht (fun h => (by have k1 := kk _ _ _ _ _ ⟨hl, hP, hS, hc, hs⟩; rwa [if_pos (by exact decide_eq_true h)] at k1)) (fun h => (by have k1 := kk _ _ _ _ _ ⟨hl, hP, hS, hc, hs⟩; rwa [if_neg (by intro q; exact h (of_decide_eq_true q))] at k1))
      · exact lv_if_le hx hb hdec ht (fun h => (by have k1 := kk _ _ _ _ _ ⟨hl, hP, hS, hc, hs⟩; rwa [if_pos (by exact decide_eq_true h)] at k1)) (fun h => (by have k1 := kk _ _ _ _ _ ⟨hl, hP, hS, hc, hs⟩; rwa [if_neg (by intro q; exact h (of_decide_eq_true q))] at k1))
    · cases hex
  case if_icmp cn off =>
    have ht := of_decide_eq_true hlk
    simp only [m_ex] at hex
    split at hex
    · next u a S1 =>
      simp only [Option.some.injEq, Prod.mk.injEq] at hex
      obtain ⟨rfl, rfl, rfl, rfl⟩ := hex
      have kk := fun ls' H' locs' cells' slots' => kk ls' H' locs' cells' slots'
      cases cn
      · exact lv_icmp_eq hx hb hdec ht (fun h => (by have k1 := kk _ _ _ _ _ ⟨hl, hP, hS, hc, hs⟩; rwa [if_pos (by exact decide_eq_true h)] at k1)) (fun h => (by have k1 := kk _ _ _ _ _ ⟨hl, hP, hS, hc, hs⟩; rwa [if_neg (by intro q; exact h (of_decide_eq_true q))] at k1))
      · exact lv_icmp_ne hx hb hdec ht (fun h => (by have k1 := kk _ _ _ _ _ ⟨hl, hP, hS, hc, hs⟩; rwa [if_pos (by exact decide_eq_true h)] at k1)) (fun h => (by have k1 := kk _ _ _ _ _ ⟨hl, hP, hS, hc, hs⟩; rwa [if_neg (by intro q; exact (of_decide_eq_true q) h)] at k1))
      · exact lv_icmp_lt hx hb hdec ht (fun h => (by have k1 := kk _ _ _ _ _ ⟨hl, hP, hS, hc, hs⟩; rwa [if_pos (by exact decide_eq_true h)] at k1)) (fun h => (by have k1 := kk _ _ _ _ _ ⟨hl, hP, hS, hc, hs⟩; rwa [if_neg (by intro q; exact h (of_decide_eq_true q))] at k1))
      · exact lv_icmp_ge hx hb hdec ht (fun h => (by have k1 := kk _ _ _ _ _ ⟨hl, hP, hS, hc, hs⟩; rwa [if_pos (by exact decide_eq_true h)] at k1)) (fun h => (by have k1 := kk _ _ _ _ _ ⟨hl, hP, hS, hc, hs⟩; rwa [if_neg (by intro q; exact h (of_decide_eq_true q))] at k1))
      · exact lv_icmp_gt hx hb hdec ht (fun h => (by have k1 := kk _ _ _ _ _ ⟨hl, hP, hS, hc, hs⟩; rwa [if_pos (by exact decide_eq_true h)] at k1)) (fun h => (by have k1 := kk _ _ _ _ _ ⟨hl, hP, hS, hc, hs⟩; rwa [if_neg (by intro q; exact h (of_decide_eq_true q))] at k1))
      · exact lv_icmp_le hx hb hdec ht (fun h => (by have k1 := kk _ _ _ _ _ ⟨hl, hP, hS, hc, hs⟩; rwa [if_pos (by exact decide_eq_true h)] at k1)) (fun h => (by have k1 := kk _ _ _ _ _ ⟨hl, hP, hS, hc, hs⟩; rwa [if_neg (by intro q; exact h (of_decide_eq_true q))] at k1))
    · cases hex
  case tableswitch d lo hi offs =>
    simp only [m_ex] at hex
    split at hex
    · next a S1 =>
      split at hex
      · next h0 =>
        obtain ⟨ht, rfl, rfl, rfl⟩ := m_jmp_of hex
        exact lv_tableOut hx hb hdec h0 ht (kk _ _ _ _ _ ⟨hl, hP, hS, hc, hs⟩)
      · next h0 =>
        split at hex
        · next off ho =>
          obtain ⟨ht, rfl, rfl, rfl⟩ := m_jmp_of hex
          exact lv_tableIn hx hb hdec (fun h => h0 (Or.inl h)) (fun h => h0 (Or.inr h)) ho ht (kk _ _ _ _ _ ⟨hl, hP, hS, hc, hs⟩)
        · cases hex
    · cases hex
  case lookupswitch d ps =>
    simp only [m_ex] at hex
    split at hex
    · next a S1 =>
      obtain ⟨ht, rfl, rfl, rfl⟩ := m_jmp_of hex
      exact lv_lookup hx hb hdec hlk rfl ht (kk _ _ _ _ _ ⟨hl, hP, hS, hc, hs⟩)
    · cases hex
  case getfield k =>
    simp only [m_ex] at hex
    split at hex
    · next r S1 =>
      obtain ⟨v, hv, he⟩ := Option.map_eq_some_iff.mp hex
      cases he
      obtain ⟨fs, hg, hfy⟩ := m_gf_of hv
      obtain ⟨k0, hr0, hk0, hat, -⟩ := m_at (b := b) (N := N) (dt := dt) hg
      simp only [m_okF] at hlk
      split at hlk
      · next rr hrr =>
        obtain ⟨hy, hw⟩ := Bool.and_eq_true_iff.mp hlk
        obtain ⟨hin, hty, hnm⟩ := m_cls _ _ hrr
        exact va_get (D := D) (ci := x) (v := m_v (m_ad b N) v) (C := rr.1) (T := rr.2.1) (N := rr.2.2) hx hb hts hin hown hK.1 hP k0 hat hrr y (of_decide_eq_true hy) (hts _ (m_wp_in hw)) (fun _ h9 => h9) (by rw [List.getElem?_map, hfy]; rfl) hdec (kk _ _ _ _ _ ⟨hl, hP, hS, hc, hs⟩)
      · cases hlk
    · cases hex
  case putfield k =>
    simp only [m_ex] at hex
    split at hex
    · next v r S1 =>
      obtain ⟨H1, hv, he⟩ := Option.map_eq_some_iff.mp hex
      cases he
      obtain ⟨fs, hg, hy2, hfit, rfl⟩ := m_pf_of hv
      obtain ⟨k0, hr0, hk0, hat, hset⟩ := m_at (b := b) (N := N) (dt := dt) hg
      obtain ⟨hn, hf2⟩ := m_fit_ok (ad := m_ad b N) hfit
      obtain ⟨hlk1, hlk2⟩ := Bool.and_eq_true_iff.mp hlk
      simp only [m_okF] at hlk1
      split at hlk1
      · next rr hrr =>
        obtain ⟨hy, hw⟩ := Bool.and_eq_true_iff.mp hlk1
        obtain ⟨hin, hty, hnm⟩ := m_cls _ _ hrr
        simp only [m_okP, hrr, Bool.or_eq_true, Bool.and_eq_true, decide_eq_true_eq] at hlk2
        have fin : ∀ (H1 : Heap) (locs1 : List Loc), va_P D m_cl ((m_ws (m_ad b N) dt 1 AH).set k0 (m_ad b N r, .inr (x, (fs.map (m_v (m_ad b N))).set y (m_v (m_ad b N) v)))) H1 → va_S (fun q => N ≤ q) s.heap H1 locs1 →
            W p l e R s m args below meth c H1 locs1 cells slots Q (F0 m (pc + 3) ls (S'.map (m_v (m_ad b N)))) := by
          intro H1 locs1 hP1 hS1
          refine kk _ _ _ _ _ ⟨hl, ?_, hS1, by rw [m_len_set]; exact hc, by rw [m_sl_mset hg (by simp [m_sz])]; exact hs⟩
          rw [← hset]
          simpa [m_E, List.map_set] using hP1
        rcases hlk2 with hfin | ⟨⟨hfin, hin2⟩, hdecl⟩
        · exact va_put (D := D) (ci := x) (v := m_v (m_ad b N) v) (ty := m_fty x y) (C := rr.1) (T := rr.2.1) (N := rr.2.2) hx hb hts hin (m_fty x) hty hnm hown hK.1 hP hD hS k0 hat hrr y (of_decide_eq_true hy) (hts _ (m_wp_in hw)) (fun _ h9 => h9) hfin (hty y (of_decide_eq_true hy)) hn hf2 (by rw [List.length_map]; exact hy2) hdec (fun H1 locs1 hP1 _ hS1 => fin H1 locs1 hP1 hS1)
        · exact va_putF (D := D) (ci := x) (v := m_v (m_ad b N) v) (ty := m_fty x y) (C := rr.1) (T := rr.2.1) (N := rr.2.2) hx hb hts hin (m_fty x) hty hnm hown hK.1 hP hD hS k0 hat hrr y (of_decide_eq_true hy) (hts _ (m_wp_in hw)) (fun _ h9 => h9) hfin (hname hin2) hdecl (hty y (of_decide_eq_true hy)) hn hf2 (by rw [List.length_map]; exact hy2) hdec (fun H1 locs1 hP1 _ hS1 => fin H1 locs1 hP1 hS1)
      · cases hlk1
    · cases hex
  case iaload =>
    simp only [m_ex] at hex
    split at hex
    · next j S1 =>
      split at hex
      · next h0 =>
        obtain ⟨v, hv, he⟩ := Option.map_eq_some_iff.mp hex
        cases he
        have hlt := (List.getElem?_eq_some_iff.mp hv).1
        have hq := va_sld (Q := Q) (l := l) (R := R) (args := args) (m := m) (below := below) (meth := meth) (cells := cells) (slots := slots) (ls := ls) (e := e) (pc := pc) (rest := S1.map (m_v (m_ad b N))) hx hb hX (show b < s.heap.size by omega) (A := fun q => N ≤ q) (by show ¬ N ≤ b; omega) hS (m_in h0 hlt) hdec
        refine hq ?_
        have e1 : scr.getD j.toNatClampNeg 0 = v := by rw [List.getD_eq_getElem?_getD, hv]; rfl
        show W p l e R s m args below meth c H locs cells slots Q (F0 m (pc + 1) ls (.int (scr.getD j.toNatClampNeg 0) :: _))
        rw [e1]
        exact kk _ _ _ _ _ ⟨hl, hP, hS, hc, hs⟩
      · cases hex
    · next j r S1 hne =>
      split at hex
      · next v hv =>
        cases hex
        obtain ⟨vs, hg, h0, hvs⟩ := m_ra_of hv
        obtain ⟨k0, hr0, hk0, hat, -⟩ := m_at (b := b) (N := N) (dt := dt) hg
        have hlt := (List.getElem?_eq_some_iff.mp hvs).1
        refine va_iald (D := D) hx hb hK.1 hP k0 0 hat rfl (m_in h0 hlt) hdec ?_
        have e1 : m_iv (vs.getD j.toNatClampNeg .null) = v := by rw [List.getD_eq_getElem?_getD, hvs]; rfl
        show W p l e R s m args below meth c H locs cells slots Q (F0 m (pc + 1) ls (.int (m_iv (vs.getD j.toNatClampNeg .null)) :: _))
        rw [e1]
        exact kk _ _ _ _ _ ⟨hl, hP, hS, hc, hs⟩
      · cases hex
    · cases hex
  case baload =>
    simp only [m_ex] at hex
    split at hex
    · next j r S1 =>
      split at hex
      · next v hv =>
        cases hex
        obtain ⟨vs, hg, h0, hvs⟩ := m_ra_of hv
        obtain ⟨k0, hr0, hk0, hat, -⟩ := m_at (b := b) (N := N) (dt := dt) hg
        have hlt := (List.getElem?_eq_some_iff.mp hvs).1
        refine va_zald (D := D) hx hb hK.1 hP k0 1 hat rfl (m_in h0 hlt) hdec ?_
        have e1 : m_iv (vs.getD j.toNatClampNeg .null) = v := by rw [List.getD_eq_getElem?_getD, hvs]; rfl
        show W p l e R s m args below meth c H locs cells slots Q (F0 m (pc + 1) ls (.int (m_iv (vs.getD j.toNatClampNeg .null)) :: _))
        rw [e1]
        exact kk _ _ _ _ _ ⟨hl, hP, hS, hc, hs⟩
      · cases hex
    · cases hex
  case aaload =>
    simp only [m_ex] at hex
    split at hex
    · next j r S1 =>
      split at hex
      · next v hv =>
        cases hex
        obtain ⟨vs, hg, h0, hvs⟩ := m_ra_of hv
        obtain ⟨k0, hr0, hk0, hat, -⟩ := m_at (b := b) (N := N) (dt := dt) hg
        have hlt := (List.getElem?_eq_some_iff.mp hvs).1
        refine va_aldq (D := D) hx hb hK.1 hP k0 2 hat rfl (m_in h0 hlt) hdec ?_
        have e1 : va_rf (m_rv (m_ad b N) (vs.getD j.toNatClampNeg .null)) = .ref (m_ad b N v) := by rw [List.getD_eq_getElem?_getD, hvs]; rfl
        show W p l e R s m args below meth c H locs cells slots Q (F0 m (pc + 1) ls (va_rf (m_rv (m_ad b N) (vs.getD j.toNatClampNeg .null)) :: _))
        rw [e1]
        exact kk _ _ _ _ _ ⟨hl, hP, hS, hc, hs⟩
      · cases hex
    · cases hex
  case iastore =>
    simp only [m_ex] at hex
    split at hex
    · next v j r S1 =>
      obtain ⟨H1, hv, he⟩ := Option.map_eq_some_iff.mp hex
      cases he
      obtain ⟨vs, hg, h0, hlt, rfl⟩ := m_wa_of hv
      obtain ⟨k0, hr0, hk0, hat, hset⟩ := m_at (b := b) (N := N) (dt := dt) hg
      refine va_iast (D := D) hx hb hK.1 hP hD hS k0 0 hat rfl (m_in h0 hlt) hdec (fun H1 locs1 hP1 _ hS1 => kk _ _ _ _ _ ⟨hl, ?_, hS1, by rw [m_len_set]; exact hc, by rw [m_sl_mset hg (by simp [m_sz])]; exact hs⟩)
      rw [← hset, m_E_set0 _ _ _ _ _ hlt]
      exact hP1
    · cases hex
  case bastore =>
    simp only [m_ex] at hex
    split at hex
    · next v j r S1 =>
      obtain ⟨H1, hv, he⟩ := Option.map_eq_some_iff.mp hex
      cases he
      obtain ⟨vs, hg, h0, hlt, rfl⟩ := m_wa_of hv
      obtain ⟨k0, hr0, hk0, hat, hset⟩ := m_at (b := b) (N := N) (dt := dt) hg
      refine va_zast (D := D) hx hb hK.1 hP hD hS k0 1 hat rfl (m_in h0 hlt) hdec (fun H1 locs1 hP1 _ hS1 => kk _ _ _ _ _ ⟨hl, ?_, hS1, by rw [m_len_set]; exact hc, by rw [m_sl_mset hg (by simp [m_sz])]; exact hs⟩)
      rw [← hset, m_E_set1 _ _ _ _ _ hlt]
      exact hP1
    · cases hex
  case aastore =>
    simp only [m_ex] at hex
    split at hex
    · next v j r S1 =>
      split at hex
      · next fv hgv =>
        obtain ⟨H1, hv, he⟩ := Option.map_eq_some_iff.mp hex
        cases he
        obtain ⟨vs, hg, h0, hlt, rfl⟩ := m_wa_of hv
        obtain ⟨k0, hr0, hk0, hat, hset⟩ := m_at (b := b) (N := N) (dt := dt) hg
        obtain ⟨k1, hr1, hk1, hat1, -⟩ := m_at (b := b) (N := N) (dt := dt) hgv
        refine va_astq (D := D) (cl := m_cl) (r := (RX3, TX3, 3)) hx hb hK.1 hP hD hS k0 2 k1 3 hat rfl hat1 rfl (m_in h0 hlt) hdec (fun H1 locs1 hP1 _ hS1 => kk _ _ _ _ _ ⟨hl, ?_, hS1, by rw [m_len_set]; exact hc, by rw [m_sl_mset hg (by simp [m_sz])]; exact hs⟩)
        rw [← hset, m_E_set2 _ _ _ _ _ hlt]
        exact hP1
      · cases hex
    · cases hex
  case arraylength =>
    simp only [m_ex] at hex
    split at hex
    · next S1 =>
      cases hex
      exact va_slen (rest := S1.map (m_v (m_ad b N))) hx hb hX (show b < s.heap.size by omega) (A := fun q => N ≤ q) (by show ¬ N ≤ b; omega) hS hdec (kk _ _ _ _ _ ⟨hl, hP, hS, hc, hs⟩)
    · next r S1 hne =>
      split at hex
      · next t vs hg =>
        split at hex
        · next ht3 =>
          cases hex
          obtain ⟨k0, hr0, hk0, hat, -⟩ := m_at (b := b) (N := N) (dt := dt) hg
          match t, ht3, hat with
          | 0, _, hat => exact va_alen (D := D) hx hb hK.1 hP k0 0 hat rfl rfl hdec (kk _ _ _ _ _ ⟨hl, hP, hS, hc, hs⟩)
          | 1, _, hat => exact va_alen (D := D) hx hb hK.1 hP k0 1 hat rfl rfl hdec (kk _ _ _ _ _ ⟨hl, hP, hS, hc, hs⟩)
          | 2, _, hat => exact va_alen (D := D) hx hb hK.1 hP k0 2 hat rfl rfl hdec (kk _ _ _ _ _ ⟨hl, hP, hS, hc, hs⟩)
          | n + 3, h3, _ => omega
        · cases hex
      · cases hex
    · cases hex
  case new k =>
    simp only [m_ex] at hex
    split at hex
    · next rr hrr =>
      cases hex
      obtain ⟨hin, hty, hnm⟩ := m_cls _ _ hrr
      simp only [m_okN, hrr] at hlk
      split at hlk
      · next r2 pl e1 e2 =>
        cases e1
        simp only [Bool.and_eq_true] at hlk
        obtain ⟨⟨w1, w2⟩, w3⟩ := hlk
        have hlen : (AH ++ [Sum.inr (x, (List.range rr.2.2).map (fun k => defaultValue (m_fty x k)))] : List mC).length = AH.length + 1 := by simp
        have hsl := m_sl_app AH (Sum.inr (x, (List.range rr.2.2).map (fun k => defaultValue (m_fty x k))))
        have hsz2 : m_sz (Sum.inr (x, (List.range rr.2.2).map (fun k => defaultValue (m_fty x k)))) = rr.2.2 := by simp [m_sz]
        rw [hlen] at hc'
        rw [hsl, hsz2] at hs'
        refine va_new (D := D) (ci := x) (fs := ((List.range rr.2.2).map (fun k => defaultValue (m_fty x k))).map (m_v (m_ad b N))) (C := rr.1) (T := rr.2.1) (N := rr.2.2) hx hb hts hin (m_fty x) hty hown (hts _ (m_wp_in w1)) (hts _ (m_wp_in w2)) (hts _ (m_wp_in w3)) hK.1 hP hD hS hAA hrr ?_ (by omega) (by omega) hdec (fun q H1 hP1 hD1 hS1 => ?_)
        · intro j hj
          have e9 : (((List.range rr.2.2).map (fun k => defaultValue (m_fty x k))).map (m_v (m_ad b N)))[j]? = some (m_v (m_ad b N) (defaultValue (m_fty x j))) := by
            rw [List.getElem?_map, List.getElem?_map, List.getElem?_range hj]; rfl
          show _ = List.getD _ j Value.null
          rw [List.getD_eq_getElem?_getD, e9]
          show _ = m_v (m_ad b N) (defaultValue (m_fty x j))
          cases m_fty x j <;> rfl
        · refine m_W_size (fun hz => ?_)
          have hq := m_fresh hsz hc hP1 hD1 hz
          subst hq
          refine kk _ _ _ _ _ ⟨hl, ?_, hS1, by rw [hlen]; omega, by rw [hsl, hsz2]; omega⟩
          rw [m_ws_app, Nat.add_comm 1 AH.length]
          exact hP1
      · cases hlk
    · cases hex
  case newarray t =>
    simp only [Bool.and_eq_true, decide_eq_true_eq] at hlk
    obtain ⟨⟨hx2, hty⟩, hw⟩ := hlk
    simp only [m_ex] at hex
    split at hex
    · next n S1 =>
      split at hex
      · next hn =>
        cases hex
        have hlen : (AH ++ [Sum.inl (x, List.replicate n.toNatClampNeg (Value.int 0))] : List mC).length = AH.length + 1 := by simp
        have hsl := m_sl_app AH (Sum.inl (x, List.replicate n.toNatClampNeg (Value.int 0)))
        have hsz2 : m_sz (Sum.inl (x, List.replicate n.toNatClampNeg (Value.int 0))) = n.toNatClampNeg := by simp [m_sz]
        rw [hlen] at hc'
        rw [hsl, hsz2] at hs'
        have hx3 : (x = 0 ∧ m_ty x = .int) ∨ (x = 1 ∧ m_ty x = .boolean) ∨ (x = 2 ∧ m_ty x = .object "ParallaxSheets$Sheet") := by
          rcases (show x = 0 ∨ x = 1 by omega) with rfl | rfl
          · exact Or.inl ⟨rfl, rfl⟩
          · exact Or.inr (Or.inl ⟨rfl, rfl⟩)
        have hz0 : (fun j => Value.int (m_iv ((List.replicate n.toNatClampNeg (Value.int 0)).getD j .null))) = fun _ => Value.int 0 := by
          funext j
          by_cases hj : j < n.toNatClampNeg
          · simp [List.getD_eq_getElem?_getD, hj, m_iv]
          · simp [List.getD_eq_getElem?_getD, hj, m_iv]
        have hcb : componentBytes (m_ty x) ≤ 4 := by
          rcases (show x = 0 ∨ x = 1 by omega) with rfl | rfl <;> decide
        have hmul : n.toNatClampNeg * componentBytes (m_ty x) ≤ 1000 * 4 := Nat.mul_le_mul hn.2 hcb
        refine va_newa (D := D) (ty := m_ty x) (N' := n.toNatClampNeg) (a0 := (n.toNatClampNeg, m_fn (m_ad b N) x (List.replicate n.toNatClampNeg (.int 0)))) hx hb (by rw [hty]; exact hts _ (m_wp_in hw)) hty hK.1 hP hD hS hAA (fun cA => ?_) (fun q => Int32.not_lt.mpr hn.1 q) rfl (by omega) (by omega) (by omega) hdec (fun q cA H1 hK1 hP1 hD1 hS1 => ?_)
        · rcases (show x = 0 ∨ x = 1 by omega) with rfl | rfl
          · show arrV cA _ (fun j => Value.int (m_iv ((List.replicate n.toNatClampNeg (Value.int 0)).getD j .null))) = _
            rw [hz0]; rfl
          · show arrV cA _ (fun j => Value.int (m_iv ((List.replicate n.toNatClampNeg (Value.int 0)).getD j .null))) = _
            rw [hz0]; rfl
        · refine m_W_size (fun hz => ?_)
          have hq := m_fresh hsz hc hP1 hD1 hz
          subst hq
          have hcA := m_cA hx3 hK.1 hK1
          subst hcA
          refine kk _ _ _ _ _ ⟨hl, ?_, hS1, by rw [hlen]; omega, by rw [hsl, hsz2]; omega⟩
          rw [m_ws_app, Nat.add_comm 1 AH.length, m_E_new]
          exact hP1
      · cases hex
    · cases hex
  case anewarray k =>
    simp only [Bool.and_eq_true, decide_eq_true_eq] at hlk
    obtain ⟨hx2, hw⟩ := hlk
    simp only [m_ex] at hex
    split at hex
    · next n S1 =>
      split at hex
      · next hn =>
        cases hex
        have hlen : (AH ++ [Sum.inl (2, List.replicate n.toNatClampNeg Value.null)] : List mC).length = AH.length + 1 := by simp
        have hsl := m_sl_app AH (Sum.inl (2, List.replicate n.toNatClampNeg Value.null))
        have hsz2 : m_sz (Sum.inl (2, List.replicate n.toNatClampNeg Value.null)) = n.toNatClampNeg := by simp [m_sz]
        rw [hlen] at hc'
        rw [hsl, hsz2] at hs'
        have hz0 : (fun j => m_rv (m_ad b N) ((List.replicate n.toNatClampNeg Value.null).getD j .null)) = fun _ => none := by
          funext j
          by_cases hj : j < n.toNatClampNeg
          · simp [List.getD_eq_getElem?_getD, hj, m_rv]
          · simp [List.getD_eq_getElem?_getD, hj, m_rv]
        refine va_newq (D := D) (N' := n.toNatClampNeg) hx hb hown (hts _ (m_wp_in hw)) hK.2.2 hK.1 hP hD hS hAA (fun q => Int32.not_lt.mpr hn.1 q) rfl (by omega) (by omega) (by omega) hdec (fun q cA H1 hK1 hP1 hD1 hS1 => ?_)
        refine m_W_size (fun hz => ?_)
        have hq := m_fresh hsz hc hP1 hD1 hz
        subst hq
        have hcA := m_cA (x := 2) (Or.inr (Or.inr ⟨rfl, rfl⟩)) hK.1 hK1
        subst hcA
        refine kk _ _ _ _ _ ⟨hl, ?_, hS1, by rw [hlen]; omega, by rw [hsl, hsz2]; omega⟩
        rw [m_ws_app, Nat.add_comm 1 AH.length, m_E_newq]
        exact hP1
      · cases hex
    · cases hex
  case invokestatic k =>
    dsimp only at hlk
    have hsz3 : c.maxLocals = ls.size := hml.trans hl.1.symm
    have hwi := m_w_ini
    simp only [m_ex, m_math] at hex
    split at hex
    · next hw3 =>
      rw [if_pos hw3] at hlk
      simp only [Bool.and_eq_true, decide_eq_true_eq] at hlk
      obtain ⟨⟨wl, r1⟩, r2⟩ := hlk
      split at hex
      · next u v S1 =>
        split at hex
        · next hct =>
          cases hex
          have hk := kk _ _ _ _ _ ⟨hl, hP, hS, hc, hs⟩
          exact va_mmax hx hb hsz3 hown (hts _ (m_wp_in wl)) (hts _ (m_wp_in m_w_max.1)) (hts _ (m_wp_in hwi.1)) (hts _ (m_wp_in m_w_max.2)) (by omega) (by rw [m_cat_v]; omega) (by omega) (by omega) hdec hk
        · cases hex
      · cases hex
    · next hw3 =>
      rw [if_neg hw3] at hlk
      split at hex
      · next hw4 =>
        rw [if_pos hw4] at hlk
        simp only [Bool.and_eq_true, decide_eq_true_eq] at hlk
        obtain ⟨⟨wl, r1⟩, r2⟩ := hlk
        split at hex
        · next u v S1 =>
          split at hex
          · next hct =>
            cases hex
            have hk := kk _ _ _ _ _ ⟨hl, hP, hS, hc, hs⟩
            exact va_mmin hx hb hsz3 hown (hts _ (m_wp_in wl)) (hts _ (m_wp_in m_w_min.1)) (hts _ (m_wp_in hwi.1)) (hts _ (m_wp_in m_w_min.2)) (by omega) (by rw [m_cat_v]; omega) (by omega) (by omega) hdec hk
          · cases hex
        · cases hex
      · next hw4 =>
        rw [if_neg hw4] at hlk
        split at hex
        · next hw5 =>
          rw [if_pos hw5] at hlk
          simp only [Bool.and_eq_true, decide_eq_true_eq] at hlk
          obtain ⟨⟨wl, r1⟩, r2⟩ := hlk
          split at hex
          · next u S1 =>
            split at hex
            · next hct =>
              cases hex
              have hk := kk _ _ _ _ _ ⟨hl, hP, hS, hc, hs⟩
              exact va_mabs hx hb hsz3 hown (hts _ (m_wp_in wl)) (hts _ (m_wp_in m_w_abs.1)) (hts _ (m_wp_in hwi.1)) (hts _ (m_wp_in m_w_abs.2)) (by omega) (by rw [m_cat_v]; omega) (by omega) (by omega) hdec hk
            · cases hex
          · cases hex
        · next hw5 =>
          rw [if_neg hw5] at hlk
          split at hex
          · next hw6 =>
            rw [if_pos hw6] at hlk
            simp only [Bool.and_eq_true, decide_eq_true_eq] at hlk
            obtain ⟨⟨wl, r1⟩, r2⟩ := hlk
            split at hex
            · next n dp r sp r0 S1 =>
              split at hex
              · next hct =>
                obtain ⟨H1, hv, he⟩ := Option.map_eq_some_iff.mp hex
                cases he
                obtain ⟨f, g, hg0, hg1, a1, a2, a3, a4, a5, rfl⟩ := m_cp_of hv
                obtain ⟨k0, hr0, hk0, hat0, -⟩ := m_at (b := b) (N := N) (dt := dt) hg0
                obtain ⟨k1, hr1, hk1, hat1, hset⟩ := m_at (b := b) (N := N) (dt := dt) hg1
                refine va_copyi (D := D) (ty := .int) hx hb hsz3 hown (hts _ (m_wp_in wl)) (hts _ (m_wp_in m_w_cpy.2)) (hts _ (m_wp_in m_w_cpy.1)) (hts _ (m_wp_in hwi.2)) hK.1 hP hD hS k0 k1 0 0 hat0 hat1 rfl rfl rfl (fun q => Int32.not_lt.mpr a1 q) (fun q => Int32.not_lt.mpr a2 q) (fun q => Int32.not_lt.mpr a3 q) a4 a5 (fun _ _ => rfl) (by omega) (by rw [m_cat_v]; omega) hdec
                  (fun H1 locs1 hP1 _ hS1 => kk _ _ _ _ _ ⟨hl, ?_, hS1, by rw [m_len_set]; exact hc, by rw [m_sl_mset hg1 (by simp [m_sz, m_cpy_len])]; exact hs⟩)
                rw [← hset, m_E_cpy _ _ _ _ _ _ _ a5]
                exact hP1
              · cases hex
            · cases hex
          · cases hex
  case invokespecial k =>
    dsimp only at hlk
    simp only [m_ex] at hex
    split at hex
    · next hw7 =>
      rw [if_pos hw7] at hlk
      simp only [Bool.and_eq_true, decide_eq_true_eq] at hlk
      obtain ⟨⟨wl, r1⟩, r2⟩ := hlk
      split at hex
      · next r S1 =>
        split at hex
        · next hct =>
          cases hex
          have hk := kk _ _ _ _ _ ⟨hl, hP, hS, hc, hs⟩
          refine W.objInit hx hb hown (hts _ (m_wp_in wl)) (hts _ (m_wp_in m_w_obj.1)) (hts _ (m_wp_in m_w_obj.2)) rfl (by rw [hml]; exact hl.1) rfl hdec (by omega) ?_ hk
          show 2 * 0 + ((S'.map (m_v (m_ad b N))).map fun v => v.category).sum + 12 ≤ R.locals
          rw [m_cat_v]; omega
        · cases hex
      · cases hex
    · cases hex
  all_goals exact absurd hex (by simp [m_ex])
end MO
/-! a whole run of the data is a run of the machine -/
theorem m_math_mono {w pc : Nat} {L L' : mL} {S S' : List Value} {AH AH' : List mC} {pc' : Nat} (h : m_math w pc L S AH = some (pc', L', S', AH')) : AH.length ≤ AH'.length ∧ m_sl AH ≤ m_sl AH' := by
  unfold m_math at h
  repeat' split at h
  all_goals first
    | (cases h; done)
    | (cases h; exact ⟨Nat.le_refl _, Nat.le_refl _⟩)
    | (obtain ⟨H1, hv, he⟩ := Option.map_eq_some_iff.mp h
       cases he
       obtain ⟨f, g, hg0, hg1, -, -, -, -, -, rfl⟩ := m_cp_of hv
       exact ⟨by rw [m_len_set]; exact Nat.le_refl _, by rw [m_sl_mset hg1 (by simp [m_sz, m_cpy_len])]; exact Nat.le_refl _⟩)
set_option maxHeartbeats 4000000 in
theorem m_ex_mono {scr : List Int32} {M pc : Nat} {i : Instr} {x y w : Nat} {z : Int} {L L' : mL} {S S' : List Value} {AH AH' : List mC} {pc' : Nat} (h : m_ex scr M pc i x y w z L S AH = some (pc', L', S', AH')) : AH.length ≤ AH'.length ∧ m_sl AH ≤ m_sl AH' := by
  have same : AH' = AH → AH.length ≤ AH'.length ∧ m_sl AH ≤ m_sl AH' := fun q => by rw [q]; exact ⟨Nat.le_refl _, Nat.le_refl _⟩
  have apd : ∀ c : mC, AH' = AH ++ [c] → AH.length ≤ AH'.length ∧ m_sl AH ≤ m_sl AH' := fun c q => by rw [q, m_sl_app]; simp
  cases i
  case putfield k =>
    simp only [m_ex] at h
    split at h
    · obtain ⟨H1, hv, he⟩ := Option.map_eq_some_iff.mp h
      cases he
      obtain ⟨fs, hg, hy2, hfit, rfl⟩ := m_pf_of hv
      exact ⟨by rw [m_len_set]; exact Nat.le_refl _, by rw [m_sl_mset hg (by simp [m_sz])]; exact Nat.le_refl _⟩
    · cases h
  case iastore =>
    simp only [m_ex] at h
    split at h
    · obtain ⟨H1, hv, he⟩ := Option.map_eq_some_iff.mp h
      cases he
      obtain ⟨fs, hg, -, -, rfl⟩ := m_wa_of hv
      exact ⟨by rw [m_len_set]; exact Nat.le_refl _, by rw [m_sl_mset hg (by simp [m_sz])]; exact Nat.le_refl _⟩
    · cases h
  case bastore =>
    simp only [m_ex] at h
    split at h
    · obtain ⟨H1, hv, he⟩ := Option.map_eq_some_iff.mp h
      cases he
      obtain ⟨fs, hg, -, -, rfl⟩ := m_wa_of hv
      exact ⟨by rw [m_len_set]; exact Nat.le_refl _, by rw [m_sl_mset hg (by simp [m_sz])]; exact Nat.le_refl _⟩
    · cases h
  case aastore =>
    simp only [m_ex] at h
    split at h
    · split at h
      · obtain ⟨H1, hv, he⟩ := Option.map_eq_some_iff.mp h
        cases he
        obtain ⟨fs, hg, -, -, rfl⟩ := m_wa_of hv
        exact ⟨by rw [m_len_set]; exact Nat.le_refl _, by rw [m_sl_mset hg (by simp [m_sz])]; exact Nat.le_refl _⟩
      · cases h
    · cases h
  case invokestatic k => exact m_math_mono h
  case getfield k =>
    simp only [m_ex] at h
    split at h
    · obtain ⟨v, hv, he⟩ := Option.map_eq_some_iff.mp h
      cases he
      exact same rfl
    · cases h
  case iaload =>
    simp only [m_ex] at h
    repeat' split at h
    · obtain ⟨v, hv, he⟩ := Option.map_eq_some_iff.mp h
      cases he
      exact same rfl
    all_goals first | (cases h; exact same rfl) | cases h
  case new k =>
    simp only [m_ex] at h
    split at h
    · cases h; exact apd _ rfl
    · cases h
  case newarray k =>
    simp only [m_ex] at h
    repeat' split at h
    all_goals first | (cases h; exact apd _ rfl) | cases h
  case anewarray k =>
    simp only [m_ex] at h
    repeat' split at h
    all_goals first | (cases h; exact apd _ rfl) | cases h
  all_goals (simp only [m_ex, m_lv, m_sv1, m_sv2, m_b2, m_d2, m_l2, m_jmp] at h)
  all_goals (first | done | (repeat' split at h) <;> first | (cases h; exact same rfl) | (cases h; done) | skip)
theorem m_go_mono (scr : List Int32) : ∀ (n : Nat) {M pc : Nat} {L : mL} {S : List Value} {AH AHf : List mC} {rv : Option Value}, m_go scr n M pc L S AH = some (rv, AHf) → AH.length ≤ AHf.length ∧ m_sl AH ≤ m_sl AHf
  | 0, M, pc, L, S, AH, AHf, rv, h => by cases h
  | n + 1, M, pc, L, S, AH, AHf, rv, h => by
    rw [m_go_s] at h
    unfold m_st at h
    split at h
    · cases h
    · next i x y w z hcode =>
      split at h
      · split at h
        · next as S' hcut =>
          split at h
          · split at h
            · next v H1 hcall =>
              have h1 := m_go_mono scr n hcall
              have h2 := m_go_mono scr n h
              exact ⟨Nat.le_trans h1.1 h2.1, Nat.le_trans h1.2 h2.2⟩
            · cases h
          · cases h
        · cases h
      · split at h
        · split at h
          · cases h; exact ⟨Nat.le_refl _, Nat.le_refl _⟩
          · cases h
        · split at h
          · next pc' L' S' H' hex =>
            have h1 := m_ex_mono hex
            have h2 := m_go_mono scr n h
            exact ⟨Nat.le_trans h1.1 h2.1, Nat.le_trans h1.2 h2.2⟩
          · cases h
/-! calls, and the whole run -/
theorem m_code_of {M pc : Nat} {i : Instr} {x y w : Nat} {z : Int} (h : m_code M pc = some (i, x, y, w, z)) (hall : (m_prog M).all (m_okE M) = true) : m_okE M (pc, i, x, y, w, z) = true := by
  obtain ⟨q, hq, he⟩ := Option.map_eq_some_iff.mp h
  have h1 := List.find?_some hq
  have h3 : q.1 = pc := by simpa using h1
  have h2 := List.all_eq_true.mp hall q (List.mem_of_find?_eq_some hq)
  obtain ⟨q1, q2⟩ := q
  subst h3
  cases he
  exact h2
theorem m_sl_len (vs : List Value) : (lg_sl vs).length = m_cat vs := by
  induction vs with
  | nil => rfl
  | cons v t ih =>
    have e : lg_sl (v :: t) = (if v.category = 2 then [Slot.val v, Slot.second] else [Slot.val v]) ++ lg_sl t := by simp [lg_sl]
    have e2 : m_cat (v :: t) = v.category + m_cat t := by simp [m_cat]
    rw [e, e2, List.length_append, ih]
    rcases lv_cat v with h | h <;> simp [h]
theorem m_args_L (ad : Nat → Nat) : ∀ (vs : List Value) (i : Nat), lv_args i (vs.map (m_v ad)) = m_L ad (lv_args i vs)
  | [], i => rfl
  | v :: vs, i => by
    simp only [List.map_cons, lv_args, m_v_cat, m_args_L ad vs]
    rfl
theorem m_cat_map (ad : Nat → Nat) (S : List Value) : m_cat (S.map (m_v ad)) = m_cat S := m_cat_v ad S
def m_ws0 (M : Nat) : List Cond := .code (m_nm M) (m_by M) (m_nL M) (m_rt M) :: m_gw
theorem m_good {M : Nat} (hc : Cond.code (m_nm M) (m_by M) (m_nL M) (m_rt M) ∈ m_gw) : GoodIn m_gw (m_ws0 M) := by
  intro w hw
  have h : w ∈ m_gw := by
    rcases List.mem_cons.mp hw with rfl | h
    · exact hc
    · exact h
  exact ⟨h, good_of_word (List.mem_filter.mp h).2⟩
def m_rm (M mc ms : Nat) : Room := { frames := m_fr M, cells := mc, slots := ms, locals := m_lo M }
def m_Pc (D : va_G) (dt : Nat → ClassId) (b N : Nat) (scr : List Int32) (as : List Value) (AH : List mC) : Array Value → State → Prop := fun v U => v = (as.map (m_v (m_ad b N))).toArray ∧ U.heap.size = N + AH.length ∧ va_P D m_cl (m_ws (m_ad b N) dt 1 AH) U.heap ∧ m_Kn D dt U ∧ va_X b scr.length (fun j => scr.getD j 0) U U.heap ∧ b < N
def m_Qc (D : va_G) (dt : Nat → ClassId) (b N : Nat) (rv : Option Value) (AHf : List mC) : Array Value → State → Outcome → State → Prop := fun _ st oc t => oc = .returned (rv.map (m_v (m_ad b N))) ∧ va_P D m_cl (m_ws (m_ad b N) dt 1 AHf) t.heap ∧ va_F (fun q => N ≤ q) st t
def m_Ms (l : Launch) (D : va_G) (dt : Nat → ClassId) (b N : Nat) (scr : List Int32) (M : Nat) (as : List Value) (AH : List mC) (rv : Option Value) (AHf : List mC) : Prop :=
  Met l (m_nm M) (m_ws0 M) (m_rm M (AHf.length - AH.length) (m_sl AHf - m_sl AH)) (m_Pc D dt b N scr as AH) (m_Qc D dt b N rv AHf) (AHf.length - AH.length) (m_sl AHf - m_sl AH) (fun q => N ≤ q)
theorem m_blind (D : va_G) (dt : Nat → ClassId) (b N : Nat) (scr : List Int32) (as : List Value) (AH : List mC) : FrameBlind (m_Pc D dt b N scr as AH) := by
  intro a U g mk ⟨h1, h2, h3, h4, h5, h6⟩
  exact ⟨h1, h2, h3, h4.call, va_X.moved (u := U) (U := U.calling g mk a) (Vm.Alike.refl U.vm) h5, h6⟩
section MC
variable {p : Program} {l : Launch} {e : Env} {R : Room} {s : State} {m : MethodId} {args : Array Value} {below : List Frame} {meth : Method} {c : Code} {H : Heap} {locs : List Loc} {cells slots : Nat} {Q : State → Prop}
variable {D : va_G} {dt : Nat → ClassId} {b N M pc a0 s0 : Nat} {scr : List Int32} {ls : Array Slot} {L : mL} {S : List Value} {AH AHf : List mC} {rv : Option Value}
theorem m_call {a : Array Value} {rest st0 : List Value} {mc ms : Nat} (hr : va_Run p l e R s m args below meth c H locs cells slots mc ms (F0 m pc ls st0) rest (m_Qc D dt b N rv AHf a) (fun q => N ≤ q)) (hS : va_S (fun q => N ≤ q) s.heap H locs)
    (kk : ∀ (H1 : Heap) (locs1 : List Loc), va_P D m_cl (m_ws (m_ad b N) dt 1 AHf) H1 → va_S (fun q => N ≤ q) s.heap H1 locs1 → W p l e R s m args below meth c H1 locs1 (cells + mc) (slots + ms) Q (F0 m (pc + 3) ls ((rv.map (m_v (m_ad b N))).toList ++ rest))) :
    W p l e R s m args below meth c H locs cells slots Q (F0 m pc ls st0) := by
  intro T hT X
  obtain ⟨v, st₀, t, T', L1, h0, X', hL, e1, e2, ⟨hv, hw, hz, hk⟩, st⟩ := hr T hT X
  cases hv
  rw [h0] at hz hk
  obtain ⟨t2, a1, b1⟩ := kk T'.heap (locs ++ L1) (by rw [e1]; exact hw) ⟨Nat.le_trans hS.1 (by rw [e1]; exact hz), fun q h1 h2 => by
    rw [e1, hk q (Nat.lt_of_lt_of_le h1 hS.1) h2]; exact hS.2.1 q h1 h2, fun q hq => by
      rcases List.mem_append.mp hq with h | h
      · exact hS.2.2 q h
      · exact hL q h⟩ T' rfl X'
  exact ⟨t2, st t2 a1, b1⟩
/-- what a callee's start asks of the caller's state -/
theorem m_pre (hC : m_Cx D dt b N scr M p s args m meth c) (hsz : s.heap.size = N + a0) (hA : m_At D dt b N M a0 s0 s L AH ls H locs cells slots) (hz : H.size ≤ s.heap.size + cells) (as : List Value) :
    ∀ U : State, U.heap = H → s.WarmedH U.vm → m_Pc D dt b N scr as AH (as.map (m_v (m_ad b N))).toArray U := by
  obtain ⟨hx, hb, hml, hts, hown, hname, hK, hX, hbN, hNs⟩ := hC
  obtain ⟨hl, hP, hS, hc, hs⟩ := hA
  intro U hU hW
  refine ⟨rfl, ?_, by rw [hU]; exact hP, hK.warm hW, ?_, hbN⟩
  · rw [hU]
    have h1 : s.heap.size ≤ H.size := hS.1
    by_cases h0 : AH.length = 0
    · have hzz : Array.size H ≤ Array.size s.heap + cells := hz
      have hh : Array.size s.heap ≤ Array.size H := h1
      have hy : Array.size s.heap = N + a0 := hsz
      show Array.size H = _
      omega
    · obtain ⟨cj, hj⟩ : ∃ cj, AH[AH.length - 1]? = some cj := ⟨_, List.getElem?_eq_getElem (show AH.length - 1 < AH.length by omega)⟩
      have h2 := (hP (AH.length - 1) _ (by rw [m_ws_get, hj]; rfl)).lt
      have h3 : m_ad b N (1 + (AH.length - 1)) < Array.size H := h2
      rw [m_ad1] at h3
      have hzz : Array.size H ≤ Array.size s.heap + cells := hz
      have hy : Array.size s.heap = N + a0 := hsz
      show Array.size H = _
      omega
  · rw [hU]
    have hb1 : b < s.heap.size := Nat.lt_of_lt_of_le hbN hNs
    have hb2 : ¬ N ≤ b := by omega
    exact va_X.moved hW.alike (hX.kept (hS.2.1 b hb1 hb2))
end MC
/-- n steps deep, a run of the data is a run of the machine: from any point of a frame to its end -/
def m_Sn (scr : List Int32) (n : Nat) : Prop :=
  ∀ (p : Program) (l : Launch) (e : Env) (R : Room) (s : State) (m : MethodId) (args : Array Value) (below : List Frame) (meth : Method) (c : Code) (H : Heap) (locs : List Loc) (cells slots : Nat) (Q : State → Prop)
    (D : va_G) (dt : Nat → ClassId) (b N M pc a0 s0 : Nat) (ls : Array Slot) (L : mL) (S : List Value) (AH AHf : List mC) (rv : Option Value),
    M < 103 → m_go scr n M pc L S AH = some (rv, AHf) → m_Cx D dt b N scr M p s args m meth c → s.heap.size = N + a0 → m_At D dt b N M a0 s0 s L AH ls H locs cells slots → m_fr M ≤ R.frames → m_lo M ≤ R.locals → AHf.length ≤ R.cells + a0 → m_sl AHf ≤ R.slots + s0 →
    (∀ (i : Instr) (pc' : Nat) (L1 : mL) (S1 : List Value) (ls' : Array Slot) (H' : Heap) (locs' : List Loc) (cells' slots' : Nat) (z : Int), decode (m_by M) pc' = .ok (i, m_len i z) → m_rts i S1 = some rv → m_rok (m_rt M) rv = true → m_At D dt b N M a0 s0 s L1 AHf ls' H' locs' cells' slots' →
      W p l e R s m args below meth c H' locs' cells' slots' Q (F0 m pc' ls' (S1.map (m_v (m_ad b N))))) →
    W p l e R s m args below meth c H locs cells slots Q (F0 m pc ls (S.map (m_v (m_ad b N))))
theorem m_okM_code {x : Nat} (h : m_okM x = true) : Cond.code (m_nm x) (m_by x) (m_nL x) (m_rt x) ∈ m_gw ∧ Cond.initialized (m_nm x).cls ∈ m_gw ∧ ((m_nm x).cls ≠ "java/lang/invoke/MethodHandle" ∧ (m_nm x).cls ≠ "java/lang/invoke/VarHandle") ∧ (parseMethodDescriptor (m_nm x).desc).map (fun d => d.parameters.length) = some (m_na x) ∧ plainName (m_nm x).cls = true := by
  simp only [m_okM, Bool.and_eq_true, decide_eq_true_eq] at h
  obtain ⟨⟨⟨⟨⟨⟨h1, h2⟩, -⟩, h4⟩, h5⟩, h6⟩, h7⟩ := h
  exact ⟨m_wp_in h1, m_wp_in h2, ⟨h4, h5⟩, h6, h7⟩
theorem m_okM_stat {x : Nat} (h : m_okM x = true) (hs : m_stc x = true) : Cond.static (m_nm x) ∈ m_gw := by
  simp only [m_okM, Bool.and_eq_true, decide_eq_true_eq] at h
  obtain ⟨⟨⟨⟨⟨-, h3⟩, -⟩, -⟩, -⟩, -⟩ := h
  rw [if_pos hs] at h3
  exact m_wp_in h3
theorem m_okM_inst {x : Nat} (h : m_okM x = true) (hs : m_stc x = false) : Cond.instanceMethod (m_nm x) ∈ m_gw ∧ (∃ r, m_cl[m_rc x]? = some r ∧ r.1 = (m_nm x).cls) ∧ ((m_nm x).name = "<init>" ∨ Cond.selects (m_nm x).cls (m_nm x) (m_nm x) ∈ m_gw) := by
  simp only [m_okM, Bool.and_eq_true, decide_eq_true_eq] at h
  obtain ⟨⟨⟨⟨⟨-, h3⟩, -⟩, -⟩, -⟩, -⟩ := h
  rw [if_neg (by rw [hs]; decide)] at h3
  simp only [Bool.and_eq_true, Bool.or_eq_true, decide_eq_true_eq] at h3
  obtain ⟨⟨h1, h2⟩, h4⟩ := h3
  refine ⟨m_wp_in h1, Option.map_eq_some_iff.mp h2, ?_⟩
  rcases h4 with h4 | h4
  · exact Or.inl h4
  · exact Or.inr (m_wp_in h4)
theorem m_hlen {x : Nat} {desc : String} {n : Nat} (h : (parseMethodDescriptor desc).map (fun d => d.parameters.length) = some n) : ∀ sig, parseMethodDescriptor desc = some sig → n = sig.parameters.length := by
  intro sig hsig
  rw [hsig] at h
  exact (Option.some.inj h).symm
set_option maxHeartbeats 4000000 in
theorem m_met {scr : List Int32} {n : Nat} (ih : m_Sn scr n) {l : Launch} {D : va_G} {dt : Nat → ClassId} {b N x : Nat} {as : List Value} {AH AHf : List mC} {rv : Option Value} (hx : x < 102) (hok : m_okM x = true) (hcat : m_cat as ≤ m_nL x) (h : m_go scr n x 0 (lv_args 0 as) [] AH = some (rv, AHf)) : m_Ms l D dt b N scr x as AH rv AHf := by
  obtain ⟨-, -, -, -, hpl⟩ := m_okM_code hok
  obtain ⟨hm1, hm2⟩ := m_go_mono scr n h
  refine Met.ofW (cc := m_by x) (maxL := m_nL x) (ret := m_rt x) hpl rfl ?_
  intro p e s m args below meth c s₁ B hml hv
  obtain ⟨rfl, hsz, hP, hK, hX, hbN⟩ := hv
  have hxx := B.exec
  have hb := B.bytes
  have hr := B.returns
  have hts := atoms_spec (ws := m_ws0 x) B.pre
  have hown : s.vm.findClass (m_nm x).cls = some m.cls := findClass_of_methodNamed B.named
  have hlocks := B.notSynchronized
  have hname : meth.name = (m_nm x).name := (name_of_methodNamed B.named B.method).1
  rw [lg_entry_eq]
  have hl := lv_entry (as.map (m_v (m_ad b N))) (n := m_nL x) (by rw [m_sl_len, m_cat_map]; exact hcat)
  rw [m_args_L] at hl
  generalize (lg_sl (as.map (m_v (m_ad b N))) ++ List.replicate (m_nL x - (lg_sl (as.map (m_v (m_ad b N)))).length) Slot.unset).toArray = ls at hl ⊢
  refine ih p l e _ s m _ below meth c s.heap [] 0 0 _ D dt b N x 0 AH.length (m_sl AH) ls (lv_args 0 as) [] AH AHf rv (by omega) h
    ⟨hxx, hb, hml, fun w hw => hts w (List.mem_cons_of_mem _ hw), hown, fun h => hname.trans h, hK, hX, hbN, by rw [hsz]; exact Nat.le_add_right _ _⟩ hsz ⟨hl, hP, va_S.rf, Nat.zero_add _, Nat.zero_add _⟩ (Nat.le_refl _) (Nat.le_refl _)
    (show AHf.length ≤ (AHf.length - AH.length) + AH.length by omega) (show m_sl AHf ≤ (m_sl AHf - m_sl AH) + m_sl AH by omega) ?_
  intro i pc' L1 S1 ls' H' locs' cells' slots' z hdec hrts hrok hAt
  obtain ⟨hl', hP', hS', hc', hs'⟩ := hAt
  refine W.widen (k := AHf.length - AH.length) (n := m_sl AHf - m_sl AH) (by omega) (by omega) ?_
  have fin : ∀ (v : Option Value), rv = v → ∀ t : State, t.heap = H' → s.WarmedH t.vm → m_Qc D dt b N rv AHf (as.map (m_v (m_ad b N))).toArray s (.returned (v.map (m_v (m_ad b N)))) t := by
    intro v hv t ht hW
    subst hv
    exact ⟨rfl, by rw [ht]; exact hP', hS'.F ht⟩
  unfold m_rts at hrts
  split at hrts
  · next v =>
    cases hrts
    unfold m_rok at hrok
    split at hrok
    · next h1 h2 => cases h2; exact W.iret hxx hb (hr.trans h1) (fin _ rfl) hS'.2.2 hdec
    · next w h1 h2 => cases h2; exact W.zret hxx hb (hr.trans h1) (of_decide_eq_true hrok) (fin _ rfl) hS'.2.2 hdec
    all_goals first | (next h1 h2 => cases h2; done) | (next h2 => cases h2; done) | (cases hrok; done) | skip
  · next v =>
    cases hrts
    unfold m_rok at hrok
    split at hrok
    all_goals first | (next h1 h2 => cases h2; exact W.lret hxx hb (hr.trans h1) (fin _ rfl) hS'.2.2 hdec) | (next h1 h2 => cases h2; done) | (cases hrok; done) | skip
  · next v =>
    cases hrts
    unfold m_rok at hrok
    split at hrok
    all_goals first | (next h1 h2 => cases h2; exact W.dret hxx hb (hr.trans h1) (fin _ rfl) hS'.2.2 hdec) | (next h1 h2 => cases h2; done) | (cases hrok; done) | skip
  · next v =>
    cases hrts
    unfold m_rok at hrok
    split at hrok
    all_goals first | (next h1 h2 => cases h2; exact W.aret hxx hb (hr.trans h1) (Or.inl ⟨_, rfl⟩) (Or.inr ⟨_, rfl⟩) (fin _ rfl) hS'.2.2 hdec) | (next h1 h2 => cases h2; done) | (cases hrok; done) | skip
  · cases hrts
    unfold m_rok at hrok
    split at hrok
    all_goals first | (next h1 h2 => cases h2; done) | (next h1 h2 => exact W.vret hxx hb (hr.trans h1) (fin _ rfl) hS'.2.2 hdec) | (cases hrok; done) | skip
  · cases hrts
theorem m_cut_of {x : Nat} {S S' as : List Value} {H : List mC} (h : m_cut x S H = some (as, S')) : m_cat S' ≤ 8 ∧ ((m_stc x = true ∧ S = as.reverse ++ S' ∧ as.length = m_na x) ∨
    (m_stc x = false ∧ ∃ (r : Nat) (As fs : List Value), as = .ref r :: As ∧ S = As.reverse ++ .ref r :: S' ∧ As.length = m_na x ∧ m_get H r = some (.inr (m_rc x, fs)))) := by
  unfold m_cut at h
  split at h
  · next hst =>
    split at h
    · next hc =>
      cases h
      exact ⟨hc.2, Or.inl ⟨hst, by rw [List.reverse_reverse, List.take_append_drop], by rw [List.length_reverse, List.length_take]; omega⟩⟩
    · cases h
  · next hst =>
    split at h
    · next r S1 hd =>
      split at h
      · next ci fs hg =>
        split at h
        · next hc =>
          cases h
          obtain ⟨h1, h2⟩ := hc
          subst h1
          have hl : m_na x < S.length := by
            have := congrArg List.length hd
            simp at this
            omega
          refine ⟨h2, Or.inr ⟨by simpa using hst, r, (S.take (m_na x)).reverse, fs, rfl, ?_, by rw [List.length_reverse, List.length_take]; omega, hg⟩⟩
          rw [List.reverse_reverse, ← hd, List.take_append_drop]
        · cases h
      · cases h
    · cases h
theorem m_pay {s : State} {args : Array Value} (hts : ∀ w ∈ m_gw, w.before args s = true) {x : Nat} (hc : Cond.code (m_nm x) (m_by x) (m_nL x) (m_rt x) ∈ m_gw) : ∀ w ∈ m_ws0 x, ∀ (a' : Array Value) (U : State), s.WarmedH U.vm → w.before a' U = true :=
  pay_in hts (m_good hc)
section MSN
set_option maxHeartbeats 4000000 in
theorem m_snd (hall : ∀ M, M < 103 → (m_prog M).all (m_okE M) = true) (hokM : ∀ x, x < 102 → m_okM x = true) (scr : List Int32) : ∀ n, m_Sn scr n := by
  intro n
  induction n with
  | zero =>
    intro p l e R s m args below meth c H locs cells slots Q D dt b N M pc a0 s0 ls L S AH AHf rv hM h
    cases h
  | succ n ih =>
    intro p l e R s m args below meth c H locs cells slots Q D dt b N M pc a0 s0 ls L S AH AHf rv hM h hC hsz hA hR1 hR2 hcf hsf hfin
    rw [m_go_s] at h
    unfold m_st at h
    split at h
    · cases h
    · next i x y w z hcode =>
      have hE := m_code_of hcode (hall M hM)
      split at h
      · next hw =>
        split at h
        · next as S' hcut =>
          split at h
          · next hcat =>
            split at h
            · next v H1 hcall =>
              obtain ⟨hm1, hm2⟩ := m_go_mono scr n hcall
              obtain ⟨hm3, hm4⟩ := m_go_mono scr n h
              obtain ⟨hx, hb, hml, hts, hown, hname, hK, hX, hbN, hNs⟩ := id hC
              obtain ⟨hl, hP, hS, hc, hs⟩ := id hA
              obtain ⟨hc8, hcase⟩ := m_cut_of hcut
              unfold m_okE at hE
              obtain ⟨hdec0, hlk⟩ := Bool.and_eq_true_iff.mp hE
              have hdec := of_decide_eq_true hdec0
              refine m_W_size (fun hz => ?_)
              have hpre := m_pre hC hsz hA hz
              have go_on : ∀ (H2 : Heap) (locs2 : List Loc), va_P D m_cl (m_ws (m_ad b N) dt 1 H1) H2 → va_S (fun q => N ≤ q) s.heap H2 locs2 →
                  W p l e R s m args below meth c H2 locs2 (cells + (H1.length - AH.length)) (slots + (m_sl H1 - m_sl AH)) Q (F0 m (pc + 3) ls ((v.map (m_v (m_ad b N))).toList ++ S'.map (m_v (m_ad b N)))) := by
                intro H2 locs2 hP2 hS2
                have e1 : (v.map (m_v (m_ad b N))).toList ++ S'.map (m_v (m_ad b N)) = (v.toList ++ S').map (m_v (m_ad b N)) := by
                  cases v <;> rfl
                rw [e1]
                exact ih p l e R s m args below meth c H2 locs2 _ _ Q D dt b N M (pc + 3) a0 s0 ls L (v.toList ++ S') H1 AHf rv hM h hC hsz ⟨hl, hP2, hS2, by omega, by omega⟩ hR1 hR2 hcf hsf hfin
              have hf : cells + (H1.length - AH.length) ≤ R.cells ∧ slots + (m_sl H1 - m_sl AH) ≤ R.slots := by omega
              have hrest : 2 * (F0 m pc ls (S.map (m_v (m_ad b N)))).monitorRoom + ((S'.map (m_v (m_ad b N))).map fun v => v.category).sum ≤ 8 := by
                show 2 * 0 + _ ≤ 8
                rw [m_cat_v]
                omega
              have hfix : CallFix p m c (m_by M) (m_nL M) s args m_gw (m_nm M).cls := ⟨hx, hb, hml, hown, hts⟩
              have callee : ∀ k : Nat, m_okC M k x y w = true → x < 102 ∧ m_fr x + 1 ≤ R.frames ∧ 8 + (m_nL x + 11) + m_lo x ≤ R.locals ∧ ((w = 1 ∧ Cond.methodLink (m_nm M).cls k (m_nm x) ∈ m_gw) ∨ (w = 2 ∧ Cond.methodLinkNest (m_nm M).cls k (m_nm x) "ParallaxSheets" ∈ m_nest)) := by
                intro k hk
                simp only [m_okC, Bool.and_eq_true, decide_eq_true_eq] at hk
                obtain ⟨⟨⟨h1, h2⟩, h3⟩, h4⟩ := hk
                refine ⟨h4, by omega, by omega, ?_⟩
                split at h1
                · next hw1 => exact Or.inl ⟨hw1, m_wp_in h1⟩
                · simp only [Bool.and_eq_true, decide_eq_true_eq] at h1
                  obtain ⟨hw2, h1⟩ := h1
                  obtain ⟨u, hu, he⟩ := List.any_eq_true.mp h1
                  have := of_decide_eq_true he
                  subst this
                  exact Or.inr ⟨hw2, hu⟩
              cases i
              case invokevirtual k =>
                dsimp only at hlk
                simp only [Bool.and_eq_true, decide_eq_true_eq] at hlk
                obtain ⟨⟨⟨hw1, hk⟩, hst⟩, hni⟩ := hlk
                obtain ⟨hx102, hrf, hrl, hlink⟩ := callee k hk
                have hok := hokM x hx102
                obtain ⟨c1, c2, c3, c4, -⟩ := m_okM_code hok
                obtain ⟨d1, ⟨rr, hrr, hrc⟩, d3⟩ := m_okM_inst hok hst
                have hlink : Cond.methodLink (m_nm M).cls k (m_nm x) ∈ m_gw := by
                  rcases hlink with h | h
                  · exact h.2
                  · omega
                have hsel : Cond.selects (m_nm x).cls (m_nm x) (m_nm x) ∈ m_gw := by
                  rcases d3 with h | h
                  · exact absurd h hni
                  · exact h
                rcases hcase with ⟨hs1, -, -⟩ | ⟨-, r, As, fs, rfl, rfl, hlen, hg⟩
                · rw [hst] at hs1; cases hs1
                · obtain ⟨k0, hr0, hk0, hat, -⟩ := m_at (b := b) (N := N) (dt := dt) hg
                  have hcell := va_recv hK.1 hP hrr hat
                  rw [hrc] at hcell
                  refine m_call (va_runV (As := As.map (m_v (m_ad b N))) (rest := S'.map (m_v (m_ad b N))) (C := (m_nm x).cls) (n := m_na x) hfix (m_met ih (l := l) (D := D) (dt := dt) (b := b) (N := N) hx102 hok hcat hcall)
                    ⟨⟨rfl, rfl, hrf, hrl, m_pay hts c1, List.mem_cons_self, hts _ c1, hts _ c2, c3, m_hlen (x := x) c4, hts _ hlink⟩, hts _ d1, hts _ hsel⟩
                    ⟨m_blind D dt b N scr _ AH, hcell, hpre _⟩ rfl (by rw [List.length_map]; exact hlen) hl.1 ?_ hrest hdec hf) hS go_on
                  show List.map _ _ = _
                  rw [List.map_append, List.map_reverse]; rfl
              case invokestatic k =>
                dsimp only at hlk
                rw [if_neg (by omega), if_neg (by omega), if_neg (by omega), if_neg (by omega)] at hlk
                simp only [Bool.and_eq_true, decide_eq_true_eq] at hlk
                obtain ⟨⟨hw1, hk⟩, hst⟩ := hlk
                obtain ⟨hx102, hrf, hrl, hlink⟩ := callee k hk
                have hok := hokM x hx102
                obtain ⟨c1, c2, c3, c4, -⟩ := m_okM_code hok
                have d1 := m_okM_stat hok hst
                have hlink : Cond.methodLink (m_nm M).cls k (m_nm x) ∈ m_gw := by
                  rcases hlink with h | h
                  · exact h.2
                  · omega
                rcases hcase with ⟨-, rfl, hlen⟩ | ⟨hs1, -⟩
                · refine m_call (va_runS (As := as.map (m_v (m_ad b N))) (rest := S'.map (m_v (m_ad b N))) (n := m_na x) hfix (m_met ih (l := l) (D := D) (dt := dt) (b := b) (N := N) hx102 hok hcat hcall)
                    ⟨⟨rfl, rfl, hrf, hrl, m_pay hts c1, List.mem_cons_self, hts _ c1, hts _ c2, c3, m_hlen (x := x) c4, hts _ hlink⟩, hts _ d1⟩
                    ⟨m_blind D dt b N scr _ AH, hpre _⟩ rfl (by rw [List.length_map]; exact hlen) hl.1 ?_ hrest hdec hf) hS go_on
                  show List.map _ _ = _
                  rw [List.map_append, List.map_reverse]
                · rw [hst] at hs1; cases hs1
              case invokespecial k =>
                dsimp only at hlk
                rw [if_neg (by omega)] at hlk
                simp only [Bool.and_eq_true, decide_eq_true_eq] at hlk
                obtain ⟨⟨⟨hk, hst⟩, hinit⟩, hrt⟩ := hlk
                obtain ⟨hx102, hrf, hrl, hlink⟩ := callee k hk
                have hok := hokM x hx102
                obtain ⟨c1, c2, c3, c4, -⟩ := m_okM_code hok
                obtain ⟨d1, -, -⟩ := m_okM_inst hok hst
                have hM1 := m_met ih (l := l) (D := D) (dt := dt) (b := b) (N := N) hx102 hok hcat hcall
                rcases hcase with ⟨hs1, -, -⟩ | ⟨-, r, As, fs, rfl, rfl, hlen, hg⟩
                · rw [hst] at hs1; cases hs1
                · have hstk : (F0 m pc ls ((As.reverse ++ Value.ref r :: S').map (m_v (m_ad b N)))).stack = (As.map (m_v (m_ad b N))).reverse ++ Value.ref (m_ad b N r) :: S'.map (m_v (m_ad b N)) := by
                    show List.map _ _ = _
                    rw [List.map_append, List.map_reverse]; rfl
                  have hcode1 : (Cond.code (m_nm x) (m_by x) (m_nL x) none).before args s = true := by rw [← hrt]; exact hts _ c1
                  have hmem1 : Cond.code (m_nm x) (m_by x) (m_nL x) none ∈ m_ws0 x := by rw [← hrt]; exact List.mem_cons_self
                  rcases hlink with ⟨-, hlink⟩ | ⟨-, hlink⟩
                  · exact m_call (va_runI (bytes := m_by x) (maxL := m_nL x) (As := As.map (m_v (m_ad b N))) (rest := S'.map (m_v (m_ad b N))) (n := m_na x) hfix hM1
                      ⟨⟨rfl, rfl, hrf, hrl, m_pay hts c1, hmem1, hcode1, hts _ c2, c3, m_hlen (x := x) c4, hts _ hlink⟩, hinit, hts _ d1⟩
                      ⟨m_blind D dt b N scr _ AH, hpre _⟩ rfl (by rw [List.length_map]; exact hlen) hl.1 hstk hrest hdec hf) hS go_on
                  · exact m_call (va_runIN (bytes := m_by x) (maxL := m_nL x) (host := "ParallaxSheets") (As := As.map (m_v (m_ad b N))) (rest := S'.map (m_v (m_ad b N))) (n := m_na x) hfix hM1
                      ⟨⟨⟨rfl, rfl, hrf, hrl, m_pay hts c1, hmem1⟩, hcode1, hts _ c2, c3, m_hlen (x := x) c4, va_Nw.use rfl (hK.2.1 _ hlink)⟩, hinit, hts _ d1⟩
                      ⟨m_blind D dt b N scr _ AH, hpre _⟩ rfl (by rw [List.length_map]; exact hlen) hl.1 hstk hrest hdec hf) hS go_on
              all_goals exact absurd hw.2 Bool.false_ne_true
            · cases h
          · cases h
        · cases h
      · split at h
        · next rv1 hrts =>
          split at h
          · next hrok =>
            cases h
            unfold m_okE at hE
            obtain ⟨hdec0, hlk⟩ := Bool.and_eq_true_iff.mp hE
            exact hfin i pc L S ls H locs cells slots z (of_decide_eq_true hdec0) hrts hrok hA
          · cases h
        · split at h
          · next pc' L' S' H' hex =>
            obtain ⟨hm3, hm4⟩ := m_go_mono scr n h
            refine m_one hC hsz hE hex hA hR1 hR2 (by omega) (by omega) (fun ls' H2 locs' cells' slots' hA' => ?_)
            exact ih p l e R s m args below meth c H2 locs' cells' slots' Q D dt b N M pc' a0 s0 ls' L' S' H' AHf rv hM h hC hsz hA' hR1 hR2 hcf hsf hfin
          · cases h
end MSN
