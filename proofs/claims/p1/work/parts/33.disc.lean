/-! disc: a round of the class's loop, a round of the reference's -/
section DC
variable {scr : List Int32} {CF : List mW} {M pc pc' x y w j : Nat} {z : Int} {i : Instr} {L L' : mL} {S S' as : List Value} {H H' H1 : List mC} {v : Option Value} {a b : Int32} {q : Nat}
theorem m_i35 : m_stc 35 = false ∧ m_na 35 = 3 ∧ m_rc 35 = 3 ∧ m_nL 35 = 4 := by decide +kernel
theorem put_C {r u k n0 : Nat} {xx yy n ww hh : Int32} {vs : List Value} (hc : m_code M pc = some (.invokevirtual n0, 35, y, 1, z)) (hS : m_cat S ≤ 8) (hr : m_get H r = some (.inr (3, [.int ww, .int hh, .ref u]))) (hu : m_get H u = some (.inl (0, vs))) (hi : yy * ww + xx = cI (2147483648 + k)) (hk : k < vs.length) (hk2 : k < 1000)
    (kk : m_Rn scr CF M (pc + 3) L S (m_set H u (.inl (0, vs.set k (.int (m_clp n)))))) : m_Rn scr CF M pc L (.int n :: .int yy :: .int xx :: .ref r :: S) H := by
  obtain ⟨h1, h2, h3, h4⟩ := m_i35
  refine m_Rn.call hc (Or.inl rfl) rfl (as := [.ref r, .int xx, .int yy, .int n]) (S' := S) ?_ (by rw [h4]; simp [m_cat, Value.category]) (put_R hr hu hi hk hk2 kk)
  unfold m_cut
  rw [h1, if_neg (by decide), h2]
  have e : m_rcv H r = some 3 := by unfold m_rcv; rw [hr]
  show (match m_rcv H r with
    | some ci => if ci = m_rc 35 ∧ m_cat S ≤ 8 then some (Value.ref r :: [Value.int xx, Value.int yy, Value.int n], S) else none
    | none => none) = _
  rw [e]
  dsimp only
  rw [if_pos ⟨h3.symm, hS⟩]
set_option maxRecDepth 100000 in
theorem m_c56 : m_code 56 76 = some (.iload 8, 0, 0, 0, 0) ∧ m_code 56 78 = some (.iload_n 2, 0, 0, 0, 0) ∧ m_code 56 79 = some (.isub, 0, 0, 0, 0) ∧ m_code 56 80 = some (.istore 9, 0, 0, 0, 0) ∧ m_code 56 82 = some (.iload 7, 0, 0, 0, 0) ∧ m_code 56 84 = some (.iload_n 3, 0, 0, 0, 0) ∧ m_code 56 85 = some (.isub, 0, 0, 0, 0) ∧ m_code 56 86 = some (.istore 10, 0, 0, 0, 0) ∧ m_code 56 88 = some (.iload 9, 0, 0, 0, 0) ∧ m_code 56 90 = some (.iload 9, 0, 0, 0, 0) ∧ m_code 56 92 = some (.imul, 0, 0, 0, 0) ∧ m_code 56 93 = some (.iload 10, 0, 0, 0, 0) ∧ m_code 56 95 = some (.iload 10, 0, 0, 0, 0) := ⟨rfl, rfl, rfl, rfl, rfl, rfl, rfl, rfl, rfl, rfl, rfl, rfl, rfl⟩
set_option maxRecDepth 100000 in
theorem m_c56b : m_code 56 97 = some (.imul, 0, 0, 0, 0) ∧ m_code 56 98 = some (.iadd, 0, 0, 0, 0) ∧ m_code 56 99 = some (.iload 4, 0, 0, 0, 0) ∧ m_code 56 101 = some (.iload 4, 0, 0, 0, 0) ∧ m_code 56 103 = some (.imul, 0, 0, 0, 0) ∧ m_code 56 104 = some (.if_icmp .gt 16, 120, 0, 0, 0) ∧ m_code 56 107 = some (.aload_n 0, 0, 0, 0, 0) ∧ (∃ n z, m_code 56 108 = some (.getfield n, 5, 1, 0, z)) ∧ m_code 56 111 = some (.iload 8, 0, 0, 0, 0) ∧ m_code 56 113 = some (.iload 7, 0, 0, 0, 0) ∧ m_code 56 115 = some (.iload 5, 0, 0, 0, 0) ∧ (∃ n y, m_code 56 117 = some (.invokevirtual n, 35, y, 1, 0)) := ⟨rfl, rfl, rfl, rfl, rfl, rfl, rfl, ⟨_, _, rfl⟩, rfl, rfl, rfl, ⟨_, _, rfl⟩⟩
/-- is the field (c, r) within the disc about (x, y) -/
def m_dq (c r x y ra : Int32) : Prop := ¬ ra * ra < (c - x) * (c - x) + (r - y) * (r - y)
end DC
section DC2
variable {scr : List Int32} {CF : List mW} {L : mL} {H : List mC}
/-- from the difference's first word to the round's end -/
theorem disc_R {q u k ob : Nat} {c r x y ra n ww hh : Int32} {fs vs : List Value} (l0 : m_ld L 0 = some (.ref ob)) (l2 : m_ld L 2 = some (.int x)) (l3 : m_ld L 3 = some (.int y)) (l4 : m_ld L 4 = some (.int ra)) (l5 : m_ld L 5 = some (.int n)) (l7 : m_ld L 7 = some (.int r)) (l8 : m_ld L 8 = some (.int c))
    (ho : m_get H ob = some (.inr (5, fs))) (hf : fs[1]? = some (.ref q)) (hq : m_get H q = some (.inr (3, [.int ww, .int hh, .ref u]))) (hu : m_get H u = some (.inl (0, vs))) (hi : r * ww + c = cI (2147483648 + k)) (hk : k < vs.length) (hk2 : k < 1000)
    (k1 : ra * ra < (c - x) * (c - x) + (r - y) * (r - y) → m_Rn scr CF 56 120 (m_st1 10 (.int (r - y)) (m_st1 9 (.int (c - x)) L)) [] H)
    (k2 : ¬ ra * ra < (c - x) * (c - x) + (r - y) * (r - y) → m_Rn scr CF 56 120 (m_st1 10 (.int (r - y)) (m_st1 9 (.int (c - x)) L)) [] (m_set H u (.inl (0, vs.set k (.int (m_clp n)))))) : m_Rn scr CF 56 76 L [] H := by
  obtain ⟨c76, c78, c79, c80, c82, c84, c85, c86, c88, c90, c92, c93, c95⟩ := m_c56
  obtain ⟨c97, c98, c99, c101, c103, c104, c107, ⟨_, _, c108⟩, c111, c113, c115, ⟨_, _, c117⟩⟩ := m_c56b
  have g : ∀ j v, j ≠ 9 → j ≠ 10 → m_ld L j = some v → v.category = 1 → m_ld (m_st1 10 (.int (r - y)) (m_st1 9 (.int (c - x)) L)) j = some v := fun j v h1 h2 h3 h4 => m_ld_st1_ne h2 (m_ld_st1_ne h1 h3 h4) h4
  have g1 : ∀ j v, j ≠ 9 → m_ld L j = some v → v.category = 1 → m_ld (m_st1 9 (.int (c - x)) L) j = some v := fun j v h1 h3 h4 => m_ld_st1_ne h1 h3 h4
  have g9 : m_ld (m_st1 10 (.int (r - y)) (m_st1 9 (.int (c - x)) L)) 9 = some (.int (c - x)) := m_ld_st1_ne (by decide) (m_ld_st1_eq _ _ _) rfl
  have g10 : m_ld (m_st1 10 (.int (r - y)) (m_st1 9 (.int (c - x)) L)) 10 = some (.int (r - y)) := m_ld_st1_eq _ _ _
  refine Ra_iload c76 l8 (Ra_iload_n c78 l2 (m_R1 c79 rfl rfl (Ra_istore c80 (Ra_iload c82 (g1 7 _ (by decide) l7 rfl) (Ra_iload_n c84 (g1 3 _ (by decide) l3 rfl) (m_R1 c85 rfl rfl (Ra_istore c86 ?_)))))))
  refine Ra_iload c88 g9 (Ra_iload c90 g9 (m_R1 c92 rfl rfl (Ra_iload c93 g10 (Ra_iload c95 g10 (m_R1 c97 rfl rfl (m_R1 c98 rfl rfl (Ra_iload c99 (g 4 _ (by decide) (by decide) l4 rfl) (Ra_iload c101 (g 4 _ (by decide) (by decide) l4 rfl) (m_R1 c103 rfl rfl ?_)))))))))
  by_cases hd : ra * ra < (c - x) * (c - x) + (r - y) * (r - y)
  · refine m_R1 c104 rfl (pc' := 120) (L' := m_st1 10 (.int (r - y)) (m_st1 9 (.int (c - x)) L)) (S' := []) (H' := H) ?_ (k1 hd)
    show some (if m_cmp .gt ((c - x) * (c - x) + (r - y) * (r - y)) (ra * ra) = true then 120 else 107, _, _, _) = _
    rw [if_pos (by simp only [m_cmp, decide_eq_true_eq]; exact hd)]
  · refine m_R1 c104 rfl (pc' := 107) (L' := m_st1 10 (.int (r - y)) (m_st1 9 (.int (c - x)) L)) (S' := []) (H' := H) ?_ ?_
    · show some (if m_cmp .gt ((c - x) * (c - x) + (r - y) * (r - y)) (ra * ra) = true then 120 else 107, _, _, _) = _
      rw [if_neg (by simp only [m_cmp, decide_eq_true_eq]; exact hd)]
    refine Ra_aload_n c107 (g 0 _ (by decide) (by decide) l0 rfl) (Ra_get c108 ho hf (Ra_iload c111 (g 8 _ (by decide) (by decide) l8 rfl) (Ra_iload c113 (g 7 _ (by decide) (by decide) l7 rfl) (Ra_iload c115 (g 5 _ (by decide) (by decide) l5 rfl) ?_))))
    exact put_C c117 (by simp [m_cat]) hq hu hi hk hk2 (k2 hd)
end DC2
