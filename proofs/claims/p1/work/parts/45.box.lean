/-! box: the loops of the class -/
set_option maxRecDepth 100000 in
theorem c55_40 : m_code 55 40 = some (.iload_n 3, 0, 0, 0, 0) := rfl
set_option maxRecDepth 100000 in
theorem c55_41 : m_code 55 41 = some (.iload 5, 0, 0, 0, 0) := rfl
set_option maxRecDepth 100000 in
theorem c55_43 : m_code 55 43 = some (.invokestatic 92, 0, 373, 4, 0) := rfl
set_option maxRecDepth 100000 in
theorem c55_46 : m_code 55 46 = some (.istore 8, 0, 0, 0, 0) := rfl
set_option maxRecDepth 100000 in
theorem c55_48 : m_code 55 48 = some (.iload 8, 0, 0, 0, 0) := rfl
set_option maxRecDepth 100000 in
theorem c55_50 : m_code 55 50 = some (.iload_n 3, 0, 0, 0, 0) := rfl
set_option maxRecDepth 100000 in
theorem c55_51 : m_code 55 51 = some (.iload 5, 0, 0, 0, 0) := rfl
set_option maxRecDepth 100000 in
theorem c55_53 : m_code 55 53 = some (.invokestatic 97, 0, 385, 3, 0) := rfl
set_option maxRecDepth 100000 in
theorem c55_56 : m_code 55 56 = some (.if_icmp .gt 47, 103, 0, 0, 0) := rfl
set_option maxRecDepth 100000 in
theorem c55_59 : m_code 55 59 = some (.iload_n 2, 0, 0, 0, 0) := rfl
set_option maxRecDepth 100000 in
theorem c55_60 : m_code 55 60 = some (.iload 4, 0, 0, 0, 0) := rfl
set_option maxRecDepth 100000 in
theorem c55_62 : m_code 55 62 = some (.invokestatic 92, 0, 373, 4, 0) := rfl
set_option maxRecDepth 100000 in
theorem c55_65 : m_code 55 65 = some (.istore 9, 0, 0, 0, 0) := rfl
set_option maxRecDepth 100000 in
theorem c55_67 : m_code 55 67 = some (.iload 9, 0, 0, 0, 0) := rfl
set_option maxRecDepth 100000 in
theorem c55_69 : m_code 55 69 = some (.iload_n 2, 0, 0, 0, 0) := rfl
set_option maxRecDepth 100000 in
theorem c55_70 : m_code 55 70 = some (.iload 4, 0, 0, 0, 0) := rfl
set_option maxRecDepth 100000 in
theorem c55_72 : m_code 55 72 = some (.invokestatic 97, 0, 385, 3, 0) := rfl
set_option maxRecDepth 100000 in
theorem c55_75 : m_code 55 75 = some (.if_icmp .gt 22, 97, 0, 0, 0) := rfl
set_option maxRecDepth 100000 in
theorem c55_78 : m_code 55 78 = some (.aload_n 0, 0, 0, 0, 0) := rfl
set_option maxRecDepth 100000 in
theorem c55_79 : m_code 55 79 = some (.getfield 16, 5, 1, 0, 210) := rfl
set_option maxRecDepth 100000 in
theorem c55_82 : m_code 55 82 = some (.iload 9, 0, 0, 0, 0) := rfl
set_option maxRecDepth 100000 in
theorem c55_84 : m_code 55 84 = some (.iload 8, 0, 0, 0, 0) := rfl
set_option maxRecDepth 100000 in
theorem c55_86 : m_code 55 86 = some (.iload 6, 0, 0, 0, 0) := rfl
set_option maxRecDepth 100000 in
theorem c55_88 : m_code 55 88 = some (.invokevirtual 84, 35, 511, 1, 0) := rfl
set_option maxRecDepth 100000 in
theorem c55_91 : m_code 55 91 = some (.iinc 9 1, 0, 0, 0, 0) := rfl
set_option maxRecDepth 100000 in
theorem c55_94 : m_code 55 94 = some (.goto (-27), 67, 0, 0, 0) := rfl
set_option maxRecDepth 100000 in
theorem c55_97 : m_code 55 97 = some (.iinc 8 1, 0, 0, 0, 0) := rfl
set_option maxRecDepth 100000 in
theorem c55_100 : m_code 55 100 = some (.goto (-52), 48, 0, 0, 0) := rfl
theorem mn_cI {p q : Nat} (hp : p < 8) (hq : q < 8) : (if cI (2147483648 + q) < cI (2147483648 + p) then cI (2147483648 + q) else cI (2147483648 + p)) = cI (2147483648 + min p q) := by
  have : ∀ p q : Fin 8, (if cI (2147483648 + q.val) < cI (2147483648 + p.val) then cI (2147483648 + q.val) else cI (2147483648 + p.val)) = cI (2147483648 + min p.val q.val) := by decide
  exact this ⟨p, hp⟩ ⟨q, hq⟩
theorem mx_cI {p q : Nat} (hp : p < 8) (hq : q < 8) : (if cI (2147483648 + p) < cI (2147483648 + q) then cI (2147483648 + q) else cI (2147483648 + p)) = cI (2147483648 + max p q) := by
  have : ∀ p q : Fin 8, (if cI (2147483648 + p.val) < cI (2147483648 + q.val) then cI (2147483648 + q.val) else cI (2147483648 + p.val)) = cI (2147483648 + max p.val q.val) := by decide
  exact this ⟨p, hp⟩ ⟨q, hq⟩
theorem gt_cI {p q : Nat} (hp : p < 1000) (hq : q < 1000) : m_cmp .gt (cI (2147483648 + p)) (cI (2147483648 + q)) = decide (q < p) := by
  simp only [m_cmp]
  rw [decide_eq_decide, cI_lt (by omega) (by omega)]
  omega
theorem m_set_set (H : List mC) (r : Nat) (c d : mC) : m_set (m_set H r c) r d = m_set H r d := by
  cases r with
  | zero => rfl
  | succ k =>
    show (H.set k c).set k d = H.set k d
    exact List.set_set ..
theorem m_set_same {H : List mC} {r : Nat} {c : mC} (h : m_get H r = some c) : m_set H r c = H := by
  cases r with
  | zero => rfl
  | succ k =>
    show H.set k c = H
    have h' : (if k + 1 < m_p0 then H[k]? else none) = some c := h
    split at h'
    · apply List.ext_getElem?
      intro i
      rw [List.getElem?_set]
      split
      · next q =>
        subst q
        split
        · exact h'.symm
        · next q => rw [List.getElem?_eq_none (by omega)] at h'; cases h'
      · rfl
    · cases h'
section BX
variable {scr : List Int32} {CF : List mW} {H : List mC} {ob q u x1 y1 x2 y2 : Nat} {val hh : Int32} {fs vs0 : List Value} {Q : mL → Prop}
def bxv (val : Int32) (a c d r j k : Nat) : Int32 := if a ≤ k / 8 ∧ c ≤ k % 8 ∧ k % 8 ≤ d ∧ (k / 8 < r ∨ (k / 8 = r ∧ k % 8 < j)) then val else 0
def bxP (vs0 : List Value) (val : Int32) (a c d r j : Nat) (vs : List Value) : Prop := vs.length = vs0.length ∧ (∀ k, k < 64 → vs[k]? = some (.int (bxv val a c d r j k))) ∧ ∀ k, 64 ≤ k → vs[k]? = vs0[k]?
/-- what the loops stand on -/
def bxY (H : List mC) (ob q u x1 y1 x2 y2 : Nat) (val hh : Int32) (fs vs0 : List Value) (Q : mL → Prop) : Prop :=
  (x1 < 8 ∧ y1 < 8 ∧ x2 < 8 ∧ y2 < 8) ∧ m_clp val = val ∧ (m_get H ob = some (.inr (5, fs)) ∧ fs[1]? = some (.ref q) ∧ m_get H q = some (.inr (3, [.int (cI 2147483656), .int hh, .ref u])) ∧ m_get H u = some (.inl (0, vs0)) ∧ 64 ≤ vs0.length) ∧
  (∀ L, Q L → m_ld L 0 = some (.ref ob) ∧ m_ld L 2 = some (.int (cI (2147483648 + x1))) ∧ m_ld L 3 = some (.int (cI (2147483648 + y1))) ∧ m_ld L 4 = some (.int (cI (2147483648 + x2))) ∧ m_ld L 5 = some (.int (cI (2147483648 + y2))) ∧ m_ld L 6 = some (.int val)) ∧
  (∀ L v, Q L → Q (m_st1 8 (.int v) L)) ∧ ∀ L v, Q L → Q (m_st1 9 (.int v) L)
theorem bxP_row {a c d r : Nat} {vs : List Value} (hr : a ≤ r) (h : bxP vs0 val a c d r (d + 1) vs) : bxP vs0 val a c d (r + 1) 0 vs := by
  obtain ⟨h1, h2, h3⟩ := h
  refine ⟨h1, fun k hk => ?_, h3⟩
  rw [h2 k hk]
  unfold bxv
  congr 2
  by_cases e : a ≤ k / 8 ∧ c ≤ k % 8 ∧ k % 8 ≤ d ∧ (k / 8 < r ∨ (k / 8 = r ∧ k % 8 < d + 1))
  · rw [if_pos e, if_pos (by omega)]
  · rw [if_neg e, if_neg (by omega)]
theorem bxP_in {a c d r : Nat} {vs : List Value} (h : bxP vs0 val a c d r 0 vs) : bxP vs0 val a c d r c vs := by
  obtain ⟨h1, h2, h3⟩ := h
  refine ⟨h1, fun k hk => ?_, h3⟩
  rw [h2 k hk]
  unfold bxv
  congr 2
  by_cases e : a ≤ k / 8 ∧ c ≤ k % 8 ∧ k % 8 ≤ d ∧ (k / 8 < r ∨ (k / 8 = r ∧ k % 8 < 0))
  · rw [if_pos e, if_pos (by omega)]
  · rw [if_neg e, if_neg (by omega)]
theorem bxP_set {a c d r j : Nat} {vs : List Value} (ha : a ≤ r) (hr : r < 8) (hc : c ≤ j) (hd : j ≤ d) (hj : j < 8) (h : bxP vs0 val a c d r j vs) (hl : 64 ≤ vs0.length) : bxP vs0 val a c d r (j + 1) (vs.set (r * 8 + j) (.int val)) := by
  obtain ⟨h1, h2, h3⟩ := h
  refine ⟨by rw [List.length_set]; exact h1, fun k hk => ?_, fun k hk => ?_⟩
  · by_cases e : k = r * 8 + j
    · subst e
      rw [List.getElem?_set_self (by omega)]
      unfold bxv
      rw [if_pos (by omega)]
    · rw [List.getElem?_set_ne (by omega), h2 k hk]
      unfold bxv
      congr 2
      by_cases e2 : a ≤ k / 8 ∧ c ≤ k % 8 ∧ k % 8 ≤ d ∧ (k / 8 < r ∨ (k / 8 = r ∧ k % 8 < j))
      · rw [if_pos e2, if_pos (by omega)]
      · rw [if_neg e2, if_neg (by omega)]
  · rw [List.getElem?_set_ne (by omega)]
    exact h3 k hk
theorem bx_in (hY : bxY H ob q u x1 y1 x2 y2 val hh fs vs0 Q) {a r : Nat} (ha : a ≤ r) (hr : r < 8)
    (k1 : ∀ cL vs, Q cL → m_ld cL 8 = some (.int (cI (2147483648 + r))) → bxP vs0 val a (min x1 x2) (max x1 x2) r (max x1 x2 + 1) vs → m_Rn scr CF 55 97 cL [] (m_set H u (.inl (0, vs)))) :
    ∀ (m j : Nat) (cL : mL) (vs : List Value), j + m = max x1 x2 + 1 → min x1 x2 ≤ j → Q cL → m_ld cL 8 = some (.int (cI (2147483648 + r))) → m_ld cL 9 = some (.int (cI (2147483648 + j))) → bxP vs0 val a (min x1 x2) (max x1 x2) r j vs → m_Rn scr CF 55 67 cL [] (m_set H u (.inl (0, vs)))
  | 0, j, cL, vs, hm, hj, hQ, l8, l9, hv => by
    obtain ⟨⟨b1, b2, b3, b4⟩, -, -, hq, -, -⟩ := hY
    obtain ⟨l0, l2, l3, l4, l5, l6⟩ := hq cL hQ
    refine Ra_iload c55_67 l9 (Ra_iload_n c55_69 l2 (Ra_iload c55_70 l4 (Ra_max c55_72 (by simp [m_cat, Value.category]) ?_)))
    rw [mx_cI b1 b3]
    refine Ra_ict c55_75 (by rw [gt_cI (by omega) (by omega)]; exact decide_eq_true (by omega)) ?_
    rw [show j = max x1 x2 + 1 by omega] at hv
    exact k1 cL vs hQ l8 hv
  | m + 1, j, cL, vs, hm, hj, hQ, l8, l9, hv => by
    have hY' := hY
    obtain ⟨⟨b1, b2, b3, b4⟩, hc, ⟨ho, hf, hs, hu, h64⟩, hq, q8, q9⟩ := hY
    obtain ⟨l0, l2, l3, l4, l5, l6⟩ := hq cL hQ
    have hu1 : m_get (m_set H u (.inl (0, vs))) u = some (.inl (0, vs)) := m_get_set_eq hu
    have hs1 : m_get (m_set H u (.inl (0, vs))) q = some (.inr (3, [.int (cI 2147483656), .int hh, .ref u])) := by
      rw [m_get_set_ne (fun e => by rw [e, hu] at hs; cases hs)]
      exact hs
    have ho1 : m_get (m_set H u (.inl (0, vs))) ob = some (.inr (5, fs)) := by
      rw [m_get_set_ne (fun e => by rw [e, hu] at ho; cases ho)]
      exact ho
    refine Ra_iload c55_67 l9 (Ra_iload_n c55_69 l2 (Ra_iload c55_70 l4 (Ra_max c55_72 (by simp [m_cat, Value.category]) ?_)))
    rw [mx_cI b1 b3]
    refine Ra_icf c55_75 (by rw [gt_cI (by omega) (by omega)]; exact decide_eq_false (by omega)) ?_
    refine Ra_aload_n c55_78 l0 (Ra_get c55_79 ho1 hf (Ra_iload c55_82 l9 (Ra_iload c55_84 l8 (Ra_iload c55_86 l6 ?_))))
    have hvl : vs.length = vs0.length := hv.1
    refine put_C c55_88 (by simp [m_cat, Value.category]) hs1 hu1 (cI_idx hr (show j < 8 by omega)) (show r * 8 + j < vs.length by omega) (by omega) ?_
    rw [m_set_set, hc]
    refine m_R1 c55_91 rfl (pc' := 94) (L' := m_st1 9 (.int (cI (2147483648 + j) + Int32.ofInt 1)) cL) (S' := []) (H' := m_set H u (.inl (0, vs.set (r * 8 + j) (.int val)))) (by simp only [m_ex, l9]) (m_R1 c55_94 rfl rfl ?_)
    rw [inc64 (show j + 1 = j + 1 from rfl)]
    exact bx_in hY' ha hr k1 m (j + 1) _ _ (by omega) (by omega) (q9 cL _ hQ) (m_ld_st1_ne (by decide) l8 rfl) (m_ld_st1_eq _ _ _) (bxP_set ha hr hj (by omega) (by omega) hv h64)
theorem bx_out (hY : bxY H ob q u x1 y1 x2 y2 val hh fs vs0 Q) 
    (k1 : ∀ cL vs, Q cL → bxP vs0 val (min y1 y2) (min x1 x2) (max x1 x2) (max y1 y2 + 1) 0 vs → m_Rn scr CF 55 103 cL [] (m_set H u (.inl (0, vs)))) :
    ∀ (m r : Nat) (cL : mL) (vs : List Value), r + m = max y1 y2 + 1 → min y1 y2 ≤ r → Q cL → m_ld cL 8 = some (.int (cI (2147483648 + r))) → bxP vs0 val (min y1 y2) (min x1 x2) (max x1 x2) r 0 vs → m_Rn scr CF 55 48 cL [] (m_set H u (.inl (0, vs)))
  | 0, r, cL, vs, hm, hj, hQ, l8, hv => by
    obtain ⟨⟨b1, b2, b3, b4⟩, -, -, hq, -, -⟩ := hY
    obtain ⟨l0, l2, l3, l4, l5, l6⟩ := hq cL hQ
    refine Ra_iload c55_48 l8 (Ra_iload_n c55_50 l3 (Ra_iload c55_51 l5 (Ra_max c55_53 (by simp [m_cat, Value.category]) ?_)))
    rw [mx_cI b2 b4]
    refine Ra_ict c55_56 (by rw [gt_cI (by omega) (by omega)]; exact decide_eq_true (by omega)) ?_
    rw [show r = max y1 y2 + 1 by omega] at hv
    exact k1 cL vs hQ hv
  | m + 1, r, cL, vs, hm, hj, hQ, l8, hv => by
    have hY' := hY
    obtain ⟨⟨b1, b2, b3, b4⟩, hc, -, hq, q8, q9⟩ := hY
    obtain ⟨l0, l2, l3, l4, l5, l6⟩ := hq cL hQ
    refine Ra_iload c55_48 l8 (Ra_iload_n c55_50 l3 (Ra_iload c55_51 l5 (Ra_max c55_53 (by simp [m_cat, Value.category]) ?_)))
    rw [mx_cI b2 b4]
    refine Ra_icf c55_56 (by rw [gt_cI (by omega) (by omega)]; exact decide_eq_false (by omega)) ?_
    refine Ra_iload_n c55_59 l2 (Ra_iload c55_60 l4 (Ra_min c55_62 (by simp [m_cat, Value.category]) ?_))
    rw [mn_cI b1 b3]
    refine Ra_istore c55_65 ?_
    refine bx_in hY' hj (by omega) (fun cL' vs' hQ' l8' hv' => ?_) (max x1 x2 + 1 - min x1 x2) (min x1 x2) _ vs (by omega) (Nat.le_refl _) (q9 cL _ hQ) (m_ld_st1_ne (by decide) l8 rfl) (m_ld_st1_eq _ _ _) (bxP_in hv)
    refine m_R1 c55_97 rfl (pc' := 100) (L' := m_st1 8 (.int (cI (2147483648 + r) + Int32.ofInt 1)) cL') (S' := []) (H' := m_set H u (.inl (0, vs'))) (by simp only [m_ex, l8']) (m_R1 c55_100 rfl rfl ?_)
    rw [inc64 (show r + 1 = r + 1 from rfl)]
    exact bx_out hY' k1 m (r + 1) _ _ (by omega) (by omega) (q8 cL' _ hQ') (m_ld_st1_eq _ _ _) (bxP_row hj hv')
theorem bx_R (hY : bxY H ob q u x1 y1 x2 y2 val hh fs vs0 Q) (hz : ∀ k, k < 64 → vs0[k]? = some (.int 0)) {cL : mL} (hQ : Q cL)
    (k1 : ∀ cL vs, Q cL → bxP vs0 val (min y1 y2) (min x1 x2) (max x1 x2) (max y1 y2 + 1) 0 vs → m_Rn scr CF 55 103 cL [] (m_set H u (.inl (0, vs)))) : m_Rn scr CF 55 40 cL [] H := by
  have hY' := hY
  obtain ⟨⟨b1, b2, b3, b4⟩, hc, ⟨ho, hf, hs, hu, h64⟩, hq, q8, q9⟩ := hY
  obtain ⟨l0, l2, l3, l4, l5, l6⟩ := hq cL hQ
  refine Ra_iload_n c55_40 l3 (Ra_iload c55_41 l5 (Ra_min c55_43 (by simp [m_cat, Value.category]) ?_))
  rw [mn_cI b2 b4]
  refine Ra_istore c55_46 ?_
  have e := bx_out hY' k1 (max y1 y2 + 1 - min y1 y2) (min y1 y2) (m_st1 8 (.int (cI (2147483648 + min y1 y2))) cL) vs0 (by omega) (Nat.le_refl _) (q8 cL _ hQ) (m_ld_st1_eq _ _ _) ⟨rfl, fun k hk => ?_, fun k hk => rfl⟩
  · rw [m_set_same hu] at e
    exact e
  · rw [hz k hk]
    unfold bxv
    rw [if_neg (by omega)]
end BX
