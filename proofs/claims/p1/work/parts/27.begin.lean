/-! the start: both objects are made, then the first call is looked for -/
def m_Hx : List mC := [.inr (5, [.ref 2, .ref 11, .ref 13, .ref 18, .ref 21, .ref 26]), .inl (2, [.ref 3, .ref 5, .ref 7, .ref 9]), .inr (3, [.int 8, .int 8, .ref 4]), .inl (0, List.replicate 256 (.int 0)), .inr (3, [.int 8, .int 8, .ref 6]), .inl (0, List.replicate 256 (.int 0)), .inr (3, [.int 8, .int 8, .ref 8]), .inl (0, List.replicate 256 (.int 0)), .inr (3, [.int 8, .int 8, .ref 10]), .inl (0, List.replicate 256 (.int 0)), .inr (3, [.int 8, .int 8, .ref 12]), .inl (0, List.replicate 256 (.int 0)), .inr (0, [.ref 14, .int 9, .int 0, .ref 15, .ref 16]), .inl (0, List.replicate 9 (.int 1)), .inl (0, List.replicate 9 (.int 0)), .inr (3, [.int 8, .int 8, .ref 17]), .inl (0, List.replicate 256 (.int 0)), .inr (4, [.ref 19, .ref 20, .int 0]), .inl (0, List.replicate 256 (.int 0)), .inl (0, List.replicate 256 (.int 0)), .inr (1, [.int 0, .ref 22, .ref 23, .int 0, .ref 24, .ref 25, .int 0, .int 0]), .inl (0, List.replicate 256 (.int 0)), .inl (0, List.replicate 256 (.int 0)), .inl (0, List.replicate 256 (.int 0)), .inl (1, List.replicate 256 (.int 0)), .inr (2, [.int 0, .ref 27, .ref 28, .ref 29]), .inl (0, List.replicate 16 (.int 0)), .inl (0, List.replicate 256 (.int 0)), .inr (3, [.int 8, .int 8, .ref 30]), .inl (0, List.replicate 256 (.int 0))]
def m_Hm : List mC := [.inr (7, [.int 0, .ref 32, .ref 33, .int 9, .int 0]), .inl (5, [.ref 35, .ref 37, .ref 39, .ref 41]), .inl (0, List.replicate 9 (.int 1)), .inl (0, List.replicate 64 (.int 0)), .inr (6, [.int 8, .int 8, .ref 34]), .inl (0, List.replicate 64 (.int 0)), .inr (6, [.int 8, .int 8, .ref 36]), .inl (0, List.replicate 64 (.int 0)), .inr (6, [.int 8, .int 8, .ref 38]), .inl (0, List.replicate 64 (.int 0)), .inr (6, [.int 8, .int 8, .ref 40])]
def m_H0 : List mC := m_Hx ++ (m_Hm ++ [.inl (3, [.long 0]), .inl (4, [.double 0])])
def m_L0 : mL := [(0, .ref 0), (1, .ref 1), (2, .ref 31), (3, .ref 42), (4, .ref 43), (5, .int 0)]
set_option maxRecDepth 100000 in
theorem m_ctX (scr : List Int32) : m_go scr 3000 52 0 [(0, .ref 1)] [] [.inr (5, [.null, .null, .null, .null, .null, .null])] = some (none, m_Hx) := by rfl
set_option maxRecDepth 100000 in
theorem m_ctM (scr : List Int32) : m_go scr 3000 143 0 [(0, .ref 31)] [] (m_Hx ++ [.inr (7, [.int 0, .null, .null, .int 0, .int 0])]) = some (none, m_Hx ++ m_Hm) := by rfl
theorem m_Rn.calls {scr : List Int32} {CF : List mW} {M pc x y w : Nat} {z : Int} {i : Instr} {L : mL} {S S' as : List Value} {H H1 : List mC} {n : Nat} (hc : m_code M pc = some (i, x, y, w, z)) (hw : w = 1 ∨ w = 2) (hi : m_inv i = true) (hcut : m_cut x S H = some (as, S')) (hcat : m_cat as ≤ m_nL x) (hgo : m_go scr n x 0 (lv_args 0 as) [] H = some (none, H1)) (k : m_Rn scr CF M (pc + 3) L S' H1) : m_Rn scr CF M pc L S H := by
  refine m_Rn.call hc hw hi hcut hcat ⟨n, none, H1, hgo, ?_⟩
  unfold m_Rt
  exact k
set_option maxRecDepth 100000 in
theorem m_c244 : m_code 244 0 = some (.new 8, 5, 72, 0, 0) ∧ m_code 244 3 = some (.dup, 0, 0, 0, 0) ∧ m_code 244 4 = some (.invokespecial 109, 52, 74, 1, 0) ∧ m_code 244 7 = some (.astore_n 1, 0, 0, 0, 0) ∧ m_code 244 8 = some (.new 110, 7, 845, 0, 0) ∧ m_code 244 11 = some (.dup, 0, 0, 0, 0) ∧ m_code 244 12 = some (.invokespecial 112, 143, 847, 1, 0) ∧ m_code 244 15 = some (.astore_n 2, 0, 0, 0, 0) := ⟨rfl, rfl, rfl, rfl, rfl, rfl, rfl, rfl⟩
set_option maxRecDepth 100000 in
theorem m_c244b : m_code 244 16 = some (.iconst 1, 0, 0, 0, 0) ∧ m_code 244 17 = some (.newarray .long, 3, 1366, 0, 0) ∧ m_code 244 19 = some (.astore_n 3, 0, 0, 0, 0) ∧ m_code 244 20 = some (.iconst 1, 0, 0, 0, 0) ∧ m_code 244 21 = some (.newarray .double, 4, 1367, 0, 0) ∧ m_code 244 23 = some (.astore 4, 0, 0, 0, 0) ∧ m_code 244 25 = some (.iconst 0, 0, 0, 0, 0) ∧ m_code 244 26 = some (.istore 5, 0, 0, 0, 0) := ⟨rfl, rfl, rfl, rfl, rfl, rfl, rfl, rfl⟩
set_option maxRecDepth 100000 in
theorem m_c244c : m_code 244 28 = some (.iload 5, 0, 0, 0, 0) ∧ m_code 244 30 = some (.aload_n 0, 0, 0, 0, 0) ∧ m_code 244 31 = some (.arraylength, 0, 0, 0, 0) ∧ m_code 244 32 = some (.bipush 7, 0, 0, 0, 0) ∧ m_code 244 34 = some (.isub, 0, 0, 0, 0) ∧ m_code 244 35 = some (.if_icmp .gt 2412, 2447, 0, 0, 0) ∧ m_code 244 38 = some (.aload_n 0, 0, 0, 0, 0) ∧ m_code 244 39 = some (.iload 5, 0, 0, 0, 0) := ⟨rfl, rfl, rfl, rfl, rfl, rfl, rfl, rfl⟩
set_option maxRecDepth 100000 in
theorem m_c244d : m_code 244 41 = some (.iaload, 0, 0, 0, 0) ∧ m_code 244 42 = some (.bipush 31, 0, 0, 0, 0) ∧ m_code 244 44 = some (.iand, 0, 0, 0, 0) ∧ m_code 244 45 = some (.tableswitch 2396 0 29 #[135, 227, 319, 437, 541, 633, 701, 781, 849, 917, 985, 1053, 1121, 1201, 1269, 1349, 1417, 1506, 1574, 1642, 1734, 1826, 1894, 1986, 2054, 2110, 2166, 2234, 2314, 2382], 0, 0, 0, 135) ∧ m_code 244 2447 = some (.iconst 1, 0, 0, 0, 0) ∧ m_code 244 2448 = some (.ireturn, 0, 0, 0, 0) := ⟨rfl, rfl, rfl, rfl, rfl, rfl⟩
section ST
variable {scr : List Int32} {CF : List mW} {M pc pc' x y w : Nat} {z : Int} {i : Instr} {L L' : mL} {S S' as : List Value} {H H' H1 : List mC} {v : Option Value}
theorem m_R1 (hc : m_code M pc = some (i, x, y, 0, z)) (hr : m_rts i S = none) (hex : m_ex scr M pc i x y 0 z L S H = some (pc', L', S', H')) (k : m_Rn scr CF M pc' L' S' H') : m_Rn scr CF M pc L S H :=
  m_Rn.step hc (by decide) (by rintro ⟨q | q, -⟩ <;> cases q) hr hex k
set_option maxRecDepth 100000 in
theorem m_to28 (k : m_Rn scr [] 244 28 m_L0 [] m_H0) : m_Rn scr [] 244 0 [(0, .ref 0)] [] [] := by
  obtain ⟨c0, c3, c4, c7, c8, c11, c12, c15⟩ := m_c244
  obtain ⟨c16, c17, c19, c20, c21, c23, c25, c26⟩ := m_c244b
  refine m_R1 c0 rfl rfl (m_R1 c3 rfl rfl (m_Rn.calls c4 (Or.inl rfl) rfl (as := [.ref 1]) (S' := [.ref 1]) (by rfl) (by decide +kernel) (m_ctX scr) ?_))
  refine m_R1 c7 rfl rfl (m_R1 c8 rfl (pc' := 11) (L' := [(0, .ref 0), (1, .ref 1)]) (S' := [.ref 31]) (H' := m_Hx ++ [.inr (7, [.int 0, .null, .null, .int 0, .int 0])]) (by rfl) (m_R1 c11 rfl rfl (m_Rn.calls c12 (Or.inl rfl) rfl (as := [.ref 31]) (S' := [.ref 31]) (by rfl) (by decide +kernel) (m_ctM scr) ?_)))
  refine m_R1 c15 rfl rfl (m_R1 c16 rfl rfl (m_R1 c17 rfl (pc' := 19) (L' := [(0, .ref 0), (1, .ref 1), (2, .ref 31)]) (S' := [.ref 42]) (H' := (m_Hx ++ m_Hm) ++ [.inl (3, [.long 0])]) (by rfl) (m_R1 c19 rfl rfl (m_R1 c20 rfl rfl (m_R1 c21 rfl (pc' := 23) (L' := [(0, .ref 0), (1, .ref 1), (2, .ref 31), (3, .ref 42)]) (S' := [.ref 43]) (H' := ((m_Hx ++ m_Hm) ++ [.inl (3, [.long 0])]) ++ [.inl (4, [.double 0])]) (by rfl) (m_R1 c23 rfl rfl (m_R1 c25 rfl rfl (m_R1 c26 rfl rfl ?_))))))))
  have e : ((m_Hx ++ m_Hm) ++ [.inl (3, [.long 0])]) ++ [.inl (4, [.double 0])] = m_H0 := by
    unfold m_H0
    rw [List.append_assoc, List.append_assoc]
    rfl
  rw [e]
  exact k
theorem m_H0_l : m_H0.length = 43 ∧ m_sl m_H0 = 3957 := by decide +kernel
theorem m_done : m_Rn scr [] 244 2447 L [] m_H0 := by
  obtain ⟨-, -, -, -, c1, c2⟩ := m_c244d
  refine m_R1 c1 rfl rfl (m_Rn.ret c2 (by decide) rfl (v := some (.int 1)) rfl (by decide +kernel) ⟨rfl, ?_, ?_⟩)
  · rw [m_H0_l.1]; decide
  · rw [m_H0_l.2]; decide
theorem m_law_short (h : scr.length < 7) : m_Rn scr [] 244 28 m_L0 [] m_H0 := by
  obtain ⟨c28, c30, c31, c32, c34, c35, c38, c39⟩ := m_c244c
  refine m_R1 c28 rfl rfl (m_R1 c30 rfl rfl (m_R1 c31 rfl rfl (m_R1 c32 rfl rfl (m_R1 c34 rfl rfl (m_R1 c35 rfl (pc' := 2447) (L' := m_L0) (S' := []) (H' := m_H0) ?_ m_done)))))
  show some (if m_cmp .gt 0 (Int32.ofNat scr.length - (Int8.ofInt 7).toInt32) = true then 2447 else 38, m_L0, [], m_H0) = _
  have : ∀ n, n < 7 → m_cmp .gt 0 (Int32.ofNat n - (Int8.ofInt 7).toInt32) = true := by decide
  rw [if_pos (this _ h)]
theorem m_law_long (h : scr.length = 7) {a : Int32} (ha : scr[0]? = some a) (k : ∀ off : Int, (if (a &&& 31).toInt < 0 ∨ 29 < (a &&& 31).toInt then (some 2396 : Option Int) else (#[135, 227, 319, 437, 541, 633, 701, 781, 849, 917, 985, 1053, 1121, 1201, 1269, 1349, 1417, 1506, 1574, 1642, 1734, 1826, 1894, 1986, 2054, 2110, 2166, 2234, 2314, 2382] : Array Int)[((a &&& 31).toInt - 0).toNat]?) = some off → ∃ q : Nat, 45 + off = (q : Int) ∧ m_Rn scr [] 244 q m_L0 [] m_H0) : m_Rn scr [] 244 28 m_L0 [] m_H0 := by
  obtain ⟨c28, c30, c31, c32, c34, c35, c38, c39⟩ := m_c244c
  obtain ⟨c41, c42, c44, c45, -, -⟩ := m_c244d
  refine m_R1 c28 rfl rfl (m_R1 c30 rfl rfl (m_R1 c31 rfl rfl (m_R1 c32 rfl rfl (m_R1 c34 rfl rfl (m_R1 c35 rfl (pc' := 38) (L' := m_L0) (S' := []) (H' := m_H0) ?_ (m_R1 c38 rfl rfl (m_R1 c39 rfl rfl (m_R1 c41 rfl (pc' := 42) (L' := m_L0) (S' := [.int a]) (H' := m_H0) ?_ (m_R1 c42 rfl rfl (m_R1 c44 rfl (pc' := 45) (L' := m_L0) (S' := [.int (a &&& 31)]) (H' := m_H0) rfl ?_))))))))))
  · show some (if m_cmp .gt 0 (Int32.ofNat scr.length - (Int8.ofInt 7).toInt32) = true then 2447 else 38, m_L0, [], m_H0) = _
    rw [h]
    rfl
  · show (scr[0]?).map (fun v => (42, m_L0, [Value.int v], m_H0)) = _
    rw [ha]
    rfl
  · have hsw : ∀ pc' S', m_Rn scr [] 244 pc' m_L0 [] m_H0 → m_ex scr 244 45 (.tableswitch 2396 0 29 #[135, 227, 319, 437, 541, 633, 701, 781, 849, 917, 985, 1053, 1121, 1201, 1269, 1349, 1417, 1506, 1574, 1642, 1734, 1826, 1894, 1986, 2054, 2110, 2166, 2234, 2314, 2382]) 0 0 0 135 m_L0 [.int (a &&& 31)] m_H0 = some (pc', m_L0, S', m_H0) → S' = [] → m_Rn scr [] 244 45 m_L0 [.int (a &&& 31)] m_H0 := fun pc' S' hk he hS => by
      subst hS
      exact m_R1 c45 rfl he hk
    by_cases hq : (a &&& 31).toInt < 0 ∨ 29 < (a &&& 31).toInt
    · obtain ⟨q, h1, h2⟩ := k 2396 (if_pos hq)
      refine hsw q [] h2 ?_ rfl
      simp only [m_ex]
      rw [if_pos hq]
      unfold m_jmp
      rw [if_pos (by omega), show (((45 : Nat) : Int) + 2396).toNat = q by omega]
    · cases hA : (#[135, 227, 319, 437, 541, 633, 701, 781, 849, 917, 985, 1053, 1121, 1201, 1269, 1349, 1417, 1506, 1574, 1642, 1734, 1826, 1894, 1986, 2054, 2110, 2166, 2234, 2314, 2382] : Array Int)[((a &&& 31).toInt - 0).toNat]? with
      | none =>
        rw [Array.getElem?_eq_none_iff] at hA
        have hA' : 30 ≤ ((a &&& 31).toInt - 0).toNat := hA
        omega
      | some off =>
        obtain ⟨q, h1, h2⟩ := k off (by rw [if_neg hq]; exact hA)
        refine hsw q [] h2 ?_ rfl
        simp only [m_ex]
        rw [if_neg hq]
        simp only [hA]
        unfold m_jmp
        rw [if_pos (by omega), show (((45 : Nat) : Int) + off).toNat = q by omega]
end ST
