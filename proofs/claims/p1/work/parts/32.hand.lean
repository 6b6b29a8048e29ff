/-! rows by hand; put of a field of a sheet -/
section HD
variable {scr : List Int32} {CF : List mW} {M pc pc' x y w j : Nat} {z : Int} {i : Instr} {L L' : mL} {S S' as : List Value} {H H' H1 : List mC} {v : Option Value} {a b : Int32} {q : Nat}
theorem m_ld_st1_ne {j i : Nat} {u v : Value} {L : mL} (hij : j ≠ i) (h : m_ld L j = some u) (hc : u.category = 1) : m_ld (m_st1 i v L) j = some u := by
  unfold m_st1
  rw [m_ld_ins_ne _ (Ne.symm hij)]
  refine m_ld_filter L h ?_
  have h1 : (j == i) = false := by simp [hij]
  simp only [h1, Bool.not_false, Bool.true_and]
  by_cases h2 : j + 1 = i
  · simp [hc]
  · simp [h2]
theorem Ra_iload (hc : m_code M pc = some (.iload j, x, y, 0, z)) (hl : m_ld L j = some (.int a)) (k : m_Rn scr CF M (pc + 2) L (.int a :: S) H) : m_Rn scr CF M pc L S H :=
  m_R1 hc rfl (by simp only [m_ex, m_lv, hl, m_isI, if_true]) k
theorem Ra_iload_n {j : Fin 4} (hc : m_code M pc = some (.iload_n j, x, y, 0, z)) (hl : m_ld L j.val = some (.int a)) (k : m_Rn scr CF M (pc + 1) L (.int a :: S) H) : m_Rn scr CF M pc L S H :=
  m_R1 hc rfl (by simp only [m_ex, m_lv, hl, m_isI, if_true]) k
theorem Ra_aload (hc : m_code M pc = some (.aload j, x, y, 0, z)) (hl : m_ld L j = some (.ref q)) (k : m_Rn scr CF M (pc + 2) L (.ref q :: S) H) : m_Rn scr CF M pc L S H :=
  m_R1 hc rfl (by simp only [m_ex, m_lv, hl, m_isA, if_true]) k
theorem Ra_aload_n {j : Fin 4} (hc : m_code M pc = some (.aload_n j, x, y, 0, z)) (hl : m_ld L j.val = some (.ref q)) (k : m_Rn scr CF M (pc + 1) L (.ref q :: S) H) : m_Rn scr CF M pc L S H :=
  m_R1 hc rfl (by simp only [m_ex, m_lv, hl, m_isA, if_true]) k
theorem Ra_get {n : Nat} {u : Value} (hc : m_code M pc = some (.getfield n, x, y, 0, z)) {fs : List Value} (hg : m_get H q = some (.inr (x, fs))) (hu : fs[y]? = some u) (k : m_Rn scr CF M (pc + 3) L (u :: S) H) : m_Rn scr CF M pc L (.ref q :: S) H :=
  m_R1 hc rfl (by
    show (m_gf H q x y).map _ = _
    unfold m_gf
    rw [hg]
    dsimp only
    rw [if_pos rfl, hu]
    rfl) k
theorem Ra_istore (hc : m_code M pc = some (.istore j, x, y, 0, z)) (k : m_Rn scr CF M (pc + 2) (m_st1 j (.int a) L) S H) : m_Rn scr CF M pc L (.int a :: S) H := m_R1 hc rfl rfl k
theorem Ra_min {n : Nat} (hc : m_code M pc = some (.invokestatic n, x, y, 4, z)) (hs : m_cat S ≤ 8) (k : m_Rn scr CF M (pc + 3) L (.int (if b < a then b else a) :: S) H) : m_Rn scr CF M pc L (.int b :: .int a :: S) H :=
  m_Rn.step hc (by decide) (by rintro ⟨q | q, -⟩ <;> cases q) rfl (by
    unfold m_ex
    dsimp only
    unfold m_math
    rw [if_neg (by decide), if_pos rfl]
    dsimp only
    rw [if_pos hs]) k
theorem Ra_max {n : Nat} (hc : m_code M pc = some (.invokestatic n, x, y, 3, z)) (hs : m_cat S ≤ 8) (k : m_Rn scr CF M (pc + 3) L (.int (if a < b then b else a) :: S) H) : m_Rn scr CF M pc L (.int b :: .int a :: S) H :=
  m_Rn.step hc (by decide) (by rintro ⟨q | q, -⟩ <;> cases q) rfl (by
    unfold m_ex
    dsimp only
    unfold m_math
    rw [if_pos rfl]
    dsimp only
    rw [if_pos hs]) k
theorem Ra_ias {u t : Nat} {vs : List Value} {e : Nat} (hc : m_code M pc = some (.iastore, x, y, 0, z)) (hg : m_get H q = some (.inl (0, vs))) (he : 2147483648 ≤ e ∧ e < 4294967296 ∧ e - 2147483648 < vs.length) (k : m_Rn scr CF M (pc + 1) L S (m_set H q (.inl (0, vs.set (e - 2147483648) (.int a))))) : m_Rn scr CF M pc L (.int a :: .int (cI e) :: .ref q :: S) H :=
  m_R1 hc rfl (by
    show (m_wa H q 0 (cI e) (.int a)).map _ = _
    unfold m_wa
    rw [hg]
    dsimp only
    rw [cI_clamp he.1 he.2.1, if_pos ⟨rfl, cI_nn he.1 he.2.1, he.2.2⟩]
    rfl) k
/-- a value brought between 0 and 255 -/
def m_clp (n : Int32) : Int32 := if 0 < (if (255 : Int32) < n then 255 else n) then (if (255 : Int32) < n then 255 else n) else 0
set_option maxRecDepth 100000 in
theorem m_c35 : m_code 35 0 = some (.aload_n 0, 0, 0, 0, 0) ∧ (∃ n z, m_code 35 1 = some (.getfield n, 3, 2, 0, z)) ∧ m_code 35 4 = some (.iload_n 2, 0, 0, 0, 0) ∧ m_code 35 5 = some (.aload_n 0, 0, 0, 0, 0) ∧ (∃ n z, m_code 35 6 = some (.getfield n, 3, 0, 0, z)) ∧ m_code 35 9 = some (.imul, 0, 0, 0, 0) ∧ m_code 35 10 = some (.iload_n 1, 0, 0, 0, 0) ∧ m_code 35 11 = some (.iadd, 0, 0, 0, 0) := ⟨rfl, ⟨_, _, rfl⟩, rfl, rfl, ⟨_, _, rfl⟩, rfl, rfl, rfl⟩
set_option maxRecDepth 100000 in
theorem m_c35b : m_code 35 12 = some (.iconst 0, 0, 0, 0, 0) ∧ m_code 35 13 = some (.iload_n 3, 0, 0, 0, 0) ∧ m_code 35 14 = some (.sipush 255, 0, 0, 0, 0) ∧ (∃ n y z, m_code 35 17 = some (.invokestatic n, 0, y, 4, z)) ∧ (∃ n y z, m_code 35 20 = some (.invokestatic n, 0, y, 3, z)) ∧ m_code 35 23 = some (.iastore, 0, 0, 0, 0) ∧ m_code 35 24 = some (.return_, 0, 0, 0, 0) := ⟨rfl, rfl, rfl, ⟨_, _, _, rfl⟩, ⟨_, _, _, rfl⟩, rfl, rfl⟩
theorem put_R {r u k : Nat} {xx yy n ww hh : Int32} {vs : List Value} {M pc : Nat} {L : mL} {S : List Value} {H : List mC} (hr : m_get H r = some (.inr (3, [.int ww, .int hh, .ref u]))) (hu : m_get H u = some (.inl (0, vs))) (hi : yy * ww + xx = cI (2147483648 + k)) (hk : k < vs.length) (hk2 : k < 1000)
    (kk : m_Rn scr CF M (pc + 3) L S (m_set H u (.inl (0, vs.set k (.int (m_clp n)))))) : m_Rn scr ((M, pc, L, S) :: CF) 35 0 [(0, .ref r), (1, .int xx), (2, .int yy), (3, .int n)] [] H := by
  obtain ⟨c0, ⟨_, _, c1⟩, c4, c5, ⟨_, _, c6⟩, c9, c10, c11⟩ := m_c35
  obtain ⟨c12, c13, c14, ⟨_, _, _, c17⟩, ⟨_, _, _, c20⟩, c23, c24⟩ := m_c35b
  refine Ra_aload_n c0 rfl (Ra_get c1 hr rfl (Ra_iload_n c4 rfl (Ra_aload_n c5 rfl (Ra_get c6 hr rfl (m_R1 c9 rfl rfl (Ra_iload_n c10 rfl (m_R1 c11 rfl rfl ?_)))))))
  refine m_R1 c12 rfl rfl (Ra_iload_n c13 rfl (m_R1 c14 rfl rfl (Ra_min c17 (by simp [m_cat, Value.category]) (Ra_max c20 (by simp [m_cat, Value.category]) ?_))))
  have e1 : (Int16.ofInt 255).toInt32 = 255 := by decide
  have e2 : Int32.ofInt 0 = 0 := by decide
  rw [e1, e2]
  show m_Rn scr ((M, pc, L, S) :: CF) 35 23 [(0, .ref r), (1, .int xx), (2, .int yy), (3, .int n)] [.int (m_clp n), .int (yy * ww + xx), .ref u] H
  rw [hi]
  refine Ra_ias (u := 0) (t := 0) c23 hu ⟨by omega, by omega, by omega⟩ ?_
  refine m_Rn.ret c24 (by decide) rfl (v := none) rfl (by decide +kernel) ?_
  have e3 : 2147483648 + k - 2147483648 = k := by omega
  rw [e3]
  exact kk
end HD
