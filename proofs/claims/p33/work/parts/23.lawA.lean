/-! the new world; cells of the script -/
section LAW1
variable {scr : List Int32} {H : List mC} {w h : Nat → Int} {f : Nat → Int → Int} {k : Nat}
theorem vok_0 : vok (fun _ => 0) := fun e _ _ => ⟨Int.le_refl 0, (by decide : (0 : Int) ≤ 255)⟩
theorem wd_new (g : Int → Int) : Wd [.inr (5, [.ref 2, .ref 11, .ref 13, .ref 18, .ref 21, .ref 26]), .inl (2, [.ref 3, .ref 5, .ref 7, .ref 9]), .inr (3, [vI 8, vI 8, .ref 4]), zA 256, .inr (3, [vI 8, vI 8, .ref 6]), zA 256, .inr (3, [vI 8, vI 8, .ref 8]), zA 256, .inr (3, [vI 8, vI 8, .ref 10]), zA 256, .inr (3, [vI 8, vI 8, .ref 12]), zA 256, .inr (0, [.ref 14, vI 9, vI 0, .ref 15, .ref 16]), .inl (0, aI 9 g), zA 9, .inr (3, [vI 8, vI 8, .ref 17]), zA 256, .inr (4, [.ref 19, .ref 20, vI 0]), zA 256, zA 256, .inr (1, [vI 0, .ref 22, .ref 23, vI 0, .ref 24, .ref 25, vI 0, vI 0]), zA 256, zA 256, zA 256, .inl (1, aI 256 (fun _ => 0)), .inr (2, [vI 0, .ref 27, .ref 28, .ref 29]), zA 16, zA 256, .inr (3, [vI 8, vI 8, .ref 30]), zA 256] (fun _ => 8) (fun _ => 8) (fun _ => fun _ => 0) := by
  refine ⟨⟨rfl, rfl, fun k hk => ?_, ⟨8, 8, _, ⟨rfl, rfl, by decide, by decide, by decide, by decide, by decide⟩, vok_0⟩, ⟨9, 0, _, rfl, rfl, by decide⟩, ⟨8, 8, _, ⟨rfl, rfl, by decide, by decide, by decide, by decide, by decide⟩, vok_0⟩, ⟨0, _, _, rfl, rfl, rfl⟩, ⟨0, 0, 0, 0, _, _, _, _, rfl, rfl, rfl, rfl, rfl⟩, ⟨0, _, _, rfl, rfl, rfl⟩, ⟨8, 8, _, ⟨rfl, rfl, by decide, by decide, by decide, by decide, by decide⟩, vok_0⟩⟩, ?_, ?_⟩
  · rcases (show k = 0 ∨ k = 1 ∨ k = 2 ∨ k = 3 by omega) with rfl | rfl | rfl | rfl <;> exact ⟨⟨rfl, rfl, by decide, by decide, by decide, by decide, by decide⟩, vok_0⟩
  · simp
  · simp [m_sl, m_sz, aI_len]
theorem m_pos32 (a : Int32) : (a &&& iI 2147483647) = iI ((a &&& iI 2147483647).toInt) ∧ 0 ≤ (a &&& iI 2147483647).toInt ∧ (a &&& iI 2147483647).toInt < 2147483648 := by
  refine ⟨(iI_of _).symm, ?_, ?_⟩
  · show 0 ≤ ((a &&& iI 2147483647).toBitVec).toInt
    rw [Int32.toBitVec_and, BitVec.toInt_eq_msb_cond, BitVec.msb_and]
    rw [show (iI 2147483647).toBitVec.msb = false from by decide, Bool.and_false]
    simp
  · exact Int32.toInt_lt _
theorem k_below {a : Int32} {n : Int} (hn : 1 ≤ n ∧ n ≤ 1000) : m_CP scr 100 [.int a, vI n] H (fun v1 H1 => (∃ z, v1 = some (vI z) ∧ 0 ≤ z ∧ z < n) ∧ H1 = H) := by
  obtain ⟨h1, h2, h3⟩ := m_pos32 a
  refine m_CP.of ?_
  show m_Ev scr 100 0 [(0, .int a), (1, vI n)] [] H _
  refine m_gen (fun X hX => ?_)
  refine R_iload_n 1 c_100_0 rfl rfl ?_
  refine R_ldc 3 c_100_1 rfl ?_
  refine R_iand 4 c_100_3 rfl ?_
  generalize (a &&& iI 2147483647).toInt = e at h1 h2 h3
  rw [h1]
  refine R_iload_n 5 c_100_4 rfl rfl ?_
  refine R_iremp 6 c_100_5 rfl (by omega) (by omega) ?_
  refine R_ireturn c_100_6 rfl ?_
  exact hX _ _ ⟨⟨_, rfl, Int.emod_nonneg _ (by omega), Int.emod_lt_of_pos _ (by omega)⟩, rfl⟩
theorem k_cell {n : Int} (hs : scr.length ≤ 260) (hn : 0 ≤ n ∧ n ≤ 20) : m_CP scr 101 [.ref 0, vI n] H (fun v1 H1 => (∃ a : Int32, v1 = some (.int a)) ∧ H1 = H) := by
  have hl : m_ex scr 101 2 .arraylength 0 0 0 0 [(0, Value.ref 0), (1, vI n)] [.ref 0, vI n] H = some (3, [(0, Value.ref 0), (1, vI n)], [vI (scr.length : Int), vI n], H) := by
    simp only [m_ex]
    rw [show Int32.ofNat scr.length = Int32.ofInt (scr.length : Int) from (Int32.ofInt_eq_ofNat).symm]
  refine m_CP.of ?_
  show m_Ev scr 101 0 [(0, .ref 0), (1, vI n)] [] H _
  refine m_gen (fun X hX => ?_)
  refine R_iload_n 1 c_101_0 rfl rfl ?_
  refine R_aload_n 2 c_101_1 rfl rfl ?_
  refine R_alen 3 c_101_2 rfl (hl) ?_
  refine R_br 6 12 _ (cmp_ge (by unfold inR; omega) (by unfold inR; omega)) c_101_3 rfl rfl (fun hb => ?_) (fun hb => ?_)
  · refine R_ldc 14 c_101_12 rfl ?_
    refine R_iload_n 15 c_101_14 rfl rfl ?_
    refine R_iconst 16 c_101_15 rfl ?_
    refine R_iadd 17 c_101_16 rfl ?_
    refine R_imul 18 c_101_17 rfl ?_
    refine R_ireturn c_101_18 rfl ?_
    exact hX _ _ ⟨⟨_, rfl⟩, rfl⟩
  · refine R_aload_n 7 c_101_6 rfl rfl ?_
    refine R_iload_n 8 c_101_7 rfl rfl ?_
    have h8 : m_ex scr 101 8 .iaload 0 0 0 0 [(0, Value.ref 0), (1, vI n)] [vI n, .ref 0] H = some (9, [(0, Value.ref 0), (1, vI n)], [.int (scr[n.toNat]'(by omega))], H) := by
      simp only [m_ex]
      rw [if_pos (iI_nn hn.1 (by omega)), iI_nat hn.1 (by omega), List.getElem?_eq_getElem (by omega)]
      rfl
    refine R_step c_101_8 rfl rfl h8 ?_
    refine R_goto 18 c_101_9 rfl ?_
    refine R_ireturn c_101_18 rfl ?_
    exact hX _ _ ⟨⟨_, rfl⟩, rfl⟩
theorem k_belowE (H : List mC) (a : Int32) (n : Int) (hn : 1 ≤ n ∧ n ≤ 1000) : ∃ z, m_Cl scr 100 [.int a, vI n] H (some (vI z)) H ∧ 0 ≤ z ∧ z < n := by
  obtain ⟨_, _, c, ⟨z, rfl, h1, h2⟩, rfl⟩ := k_below (scr := scr) (H := H) (a := a) (n := n) hn
  exact ⟨z, c, h1, h2⟩
theorem k_cellE (H : List mC) (n : Int) (hs : scr.length ≤ 260) (hn : 0 ≤ n ∧ n ≤ 20) : ∃ a : Int32, m_Cl scr 101 [.ref 0, vI n] H (some (.int a)) H := by
  obtain ⟨_, _, c, ⟨a, rfl⟩, rfl⟩ := k_cell (scr := scr) (H := H) (n := n) hs hn
  exact ⟨a, c⟩
end LAW1
/-! the law, 0 to 210: the SHEET that the cells choose -/
section LAW2
variable {scr : List Int32} {H : List mC} {w h : Nat → Int} {f : Nat → Int → Int} {X : mR → Prop}
set_option maxHeartbeats 8000000 in
theorem L_draw {n : Int} {H0 : List mC} (hs : scr.length ≤ 260) (W0 : Wd H0 w h f) (hd : 1 ≤ w 0 ∧ w 0 ≤ 8 ∧ 1 ≤ h 0 ∧ h 0 ≤ 8)
    (K : ∀ L H f, Wd H w h f → (L.filter (fun q => [0, 1, 2, 3].contains q.1) = [(0, .ref 0), (1, .ref 1), (2, vI (w 0)), (3, vI (h 0))] ∧ m_ku L = true) → m_Ev scr 102 210 L [] H X) :
    m_Ev scr 102 108 [(0, .ref 0), (1, .ref 1), (2, vI (w 0)), (3, vI (h 0)), (4, vI 0)] [] H0 X := by
  refine m_forP 6 (fun i L H2 => (L.filter (fun q => [0, 1, 2, 3, 4].contains q.1) = [(0, .ref 0), (1, .ref 1), (2, vI (w 0)), (3, vI (h 0)), (4, vI i)] ∧ m_ku L = true) ∧ ∃ f, Wd H2 w h f) 0 ⟨⟨rfl, rfl⟩, f, W0⟩ (by omega) ?_ ?_
  · rintro i L2 H2 i0 i1 ⟨⟨hL2, hu2⟩, f2, W2⟩ ih
    refine m_keep [0, 1, 2, 3, 4] hu2 ?_
    rw [hL2]
    obtain ⟨a, c1⟩ := k_cellE (scr := scr) H2 (6 + i) hs (by omega)
    obtain ⟨x, b1, x0, x1⟩ := k_belowE (scr := scr) H2 (a) (w 0) (by omega)
    obtain ⟨y, b2, y0, y1⟩ := k_belowE (scr := scr) H2 (a >>> (iI 3 &&& 31)) (h 0) (by omega)
    obtain ⟨r, b3, r0, r1⟩ := k_belowE (scr := scr) H2 (a >>> (iI 2 &&& 31)) (3) (by omega)
    obtain ⟨v, b4, v0, v1⟩ := k_belowE (scr := scr) H2 (a >>> (iI 5 &&& 31)) (256) (by omega)
    obtain ⟨_, H3, d3, ⟨⟨e3, rfl⟩, f3, w3⟩, z3⟩ := m_szP (x := 54) (by decide) W2.2 (k_disc (scr := scr) (k := 0) (x := x) (y := y) (r := r) (n := v) W2.1 (by decide) ⟨x0, x1⟩ ⟨y0, y1⟩ ⟨r0, by omega⟩ ⟨v0, by omega⟩)
    obtain ⟨_, H4, d4, ⟨⟨e4, rfl⟩, f4, w4⟩, z4⟩ := m_szP (x := 53) (by decide) W2.2 (k_dot (scr := scr) (k := 0) (x := x) (y := y) (n := v) W2.1 (by decide) ⟨x0, x1⟩ ⟨y0, y1⟩ ⟨v0, by omega⟩)
    refine R_iload 110 c_102_108 rfl rfl ?_
    refine R_bipush 112 c_102_110 rfl (by decide) ?_
    refine R_br 115 210 _ (cmp_ge (by unfold inR; omega) (by unfold inR; omega)) c_102_112 rfl rfl (fun hn => absurd hn (by omega)) (fun _ => ?_)
    refine R_aload_n 116 c_102_115 rfl rfl ?_
    refine R_bipush 118 c_102_116 rfl (by decide) ?_
    refine R_iload 120 c_102_118 rfl rfl ?_
    refine R_iadd 121 c_102_120 rfl ?_
    refine R_callS 124 c_102_121 rfl rfl (Nat.le_of_ble_eq_true rfl) (c1) ?_
    refine R_istore 126 c_102_124 rfl ?_
    refine R_iload 128 c_102_126 rfl rfl ?_
    refine R_iconst 129 c_102_128 rfl ?_
    refine R_iremp 130 c_102_129 rfl (by omega) (by omega) ?_
    refine R_brz 133 174 _ (cmp_ne (by unfold inR; omega) inR_0) c_102_130 rfl rfl (fun hb => ?_) (fun hb => ?_)
    · refine R_aload_n 175 c_102_174 rfl rfl ?_
      refine R_iconst 176 c_102_175 rfl ?_
      refine R_iload 178 c_102_176 rfl rfl ?_
      refine R_iload_n 179 c_102_178 rfl rfl ?_
      refine R_callS 182 c_102_179 rfl rfl (Nat.le_of_ble_eq_true rfl) (b1) ?_
      refine R_iload 184 c_102_182 rfl rfl ?_
      refine R_iconst 185 c_102_184 rfl ?_
      refine R_ishr 186 c_102_185 rfl ?_
      refine R_iload_n 187 c_102_186 rfl rfl ?_
      refine R_callS 190 c_102_187 rfl rfl (Nat.le_of_ble_eq_true rfl) (b2) ?_
      refine R_iload 192 c_102_190 rfl rfl ?_
      refine R_iconst 193 c_102_192 rfl ?_
      refine R_ishr 194 c_102_193 rfl ?_
      refine R_sipush 197 c_102_194 rfl (by decide) ?_
      refine R_callS 200 c_102_197 rfl rfl (Nat.le_of_ble_eq_true rfl) (b4) ?_
      refine R_callV 203 c_102_200 rfl rfl rfl rfl (Nat.le_of_ble_eq_true rfl) (Nat.le_of_ble_eq_true rfl) (W2.1.1) (d4) ?_
      refine R_pop 204 c_102_203 rfl rfl ?_
      refine R_iinc 207 c_102_204 rfl rfl ?_
      refine R_goto 108 c_102_207 rfl ?_
      exact ih _ _ ⟨⟨rfl, rfl⟩, _, w4, z4⟩
    · refine R_aload_n 134 c_102_133 rfl rfl ?_
      refine R_iconst 135 c_102_134 rfl ?_
      refine R_iload 137 c_102_135 rfl rfl ?_
      refine R_iload_n 138 c_102_137 rfl rfl ?_
      refine R_callS 141 c_102_138 rfl rfl (Nat.le_of_ble_eq_true rfl) (b1) ?_
      refine R_iload 143 c_102_141 rfl rfl ?_
      refine R_iconst 144 c_102_143 rfl ?_
      refine R_ishr 145 c_102_144 rfl ?_
      refine R_iload_n 146 c_102_145 rfl rfl ?_
      refine R_callS 149 c_102_146 rfl rfl (Nat.le_of_ble_eq_true rfl) (b2) ?_
      refine R_iload 151 c_102_149 rfl rfl ?_
      refine R_iconst 152 c_102_151 rfl ?_
      refine R_ishr 153 c_102_152 rfl ?_
      refine R_iconst 154 c_102_153 rfl ?_
      refine R_callS 157 c_102_154 rfl rfl (Nat.le_of_ble_eq_true rfl) (b3) ?_
      refine R_iload 159 c_102_157 rfl rfl ?_
      refine R_iconst 160 c_102_159 rfl ?_
      refine R_ishr 161 c_102_160 rfl ?_
      refine R_sipush 164 c_102_161 rfl (by decide) ?_
      refine R_callS 167 c_102_164 rfl rfl (Nat.le_of_ble_eq_true rfl) (b4) ?_
      refine R_callV 170 c_102_167 rfl rfl rfl rfl (Nat.le_of_ble_eq_true rfl) (Nat.le_of_ble_eq_true rfl) (W2.1.1) (d3) ?_
      refine R_pop 171 c_102_170 rfl rfl ?_
      refine R_goto 204 c_102_171 rfl ?_
      refine R_iinc 207 c_102_204 rfl rfl ?_
      refine R_goto 108 c_102_207 rfl ?_
      exact ih _ _ ⟨⟨rfl, rfl⟩, _, w3, z3⟩
  · rintro L2 H2 ⟨⟨hL2, hu2⟩, f2, W2⟩
    refine m_keep [0, 1, 2, 3, 4] hu2 ?_
    rw [hL2]
    refine R_iload 110 c_102_108 rfl rfl ?_
    refine R_bipush 112 c_102_110 rfl (by decide) ?_
    refine R_br 115 210 _ (cmp_ge (by unfold inR; omega) (by unfold inR; omega)) c_102_112 rfl rfl (fun _ => ?_) (fun hn => absurd (by omega) hn)
    exact K _ _ _ W2 ⟨rfl, rfl⟩
set_option maxHeartbeats 8000000 in
theorem L_begin (hs : scr.length ≤ 260)
    (K : ∀ L H w h f, Wd H w h f → 1 ≤ w 0 ∧ w 0 ≤ 8 ∧ 1 ≤ h 0 ∧ h 0 ≤ 8 → (L.filter (fun q => [0, 1, 2, 3].contains q.1) = [(0, .ref 0), (1, .ref 1), (2, vI (w 0)), (3, vI (h 0))] ∧ m_ku L = true) → m_Ev scr 102 210 L [] H X) :
    m_Ev scr 102 0 [(0, .ref 0)] [] [] X := by
  obtain ⟨v1, H1, hc1, rfl, g, hH1⟩ := k_init (scr := scr)
  have W1 := wd_new g
  rw [← hH1] at W1
  clear hH1
  refine R_step c_102_0 rfl rfl rfl ?_
  show m_Ev scr 102 3 [(0, .ref 0)] [.ref 1] [.inr (5, [.null, .null, .null, .null, .null, .null])] X
  refine R_dup 4 c_102_3 rfl rfl ?_
  refine R_callI 7 c_102_4 rfl rfl rfl rfl rfl (Nat.le_of_ble_eq_true rfl) (Nat.le_of_ble_eq_true rfl) rfl (hc1) ?_
  show m_Ev scr 102 7 [(0, .ref 0)] [.ref 1] H1 X
  obtain ⟨a1, c1⟩ := k_cellE (scr := scr) H1 (0) hs (by omega)
  obtain ⟨z1, b1, p1, q1⟩ := k_belowE (scr := scr) H1 (a1) (8) (by omega)
  obtain ⟨a2, c2⟩ := k_cellE (scr := scr) H1 (1) hs (by omega)
  obtain ⟨z2, b2, p2, q2⟩ := k_belowE (scr := scr) H1 (a2) (8) (by omega)
  obtain ⟨a3, c3⟩ := k_cellE (scr := scr) H1 (2) hs (by omega)
  obtain ⟨z3, b3, p3, q3⟩ := k_belowE (scr := scr) H1 (a3) (256) (by omega)
  obtain ⟨_, H2, d2, ⟨rfl, f2, w2⟩, s2⟩ := m_szP (x := 52) (by decide) W1.2 (k_fresh (scr := scr) (k := 0) (wn := 1 + z1) (hn := 1 + z2) (n := z3) W1.1 (by decide) (by omega) ⟨p3, by omega⟩)
  have hbm := m_area (w := 1 + z1) (h := 1 + z2) (by omega) (by omega) (by omega) (by omega)
  refine R_astore_n 8 c_102_7 rfl ?_
  refine R_iconst 9 c_102_8 rfl ?_
  refine R_aload_n 10 c_102_9 rfl rfl ?_
  refine R_iconst 11 c_102_10 rfl ?_
  refine R_callS 14 c_102_11 rfl rfl (Nat.le_of_ble_eq_true rfl) (c1) ?_
  refine R_bipush 16 c_102_14 rfl (by decide) ?_
  refine R_callS 19 c_102_16 rfl rfl (Nat.le_of_ble_eq_true rfl) (b1) ?_
  refine R_iadd 20 c_102_19 rfl ?_
  refine R_istore_n 21 c_102_20 rfl ?_
  refine R_iconst 22 c_102_21 rfl ?_
  refine R_aload_n 23 c_102_22 rfl rfl ?_
  refine R_iconst 24 c_102_23 rfl ?_
  refine R_callS 27 c_102_24 rfl rfl (Nat.le_of_ble_eq_true rfl) (c2) ?_
  refine R_bipush 29 c_102_27 rfl (by decide) ?_
  refine R_callS 32 c_102_29 rfl rfl (Nat.le_of_ble_eq_true rfl) (b2) ?_
  refine R_iadd 33 c_102_32 rfl ?_
  refine R_istore_n 34 c_102_33 rfl ?_
  refine R_aload_n 35 c_102_34 rfl rfl ?_
  refine R_iconst 36 c_102_35 rfl ?_
  refine R_iload_n 37 c_102_36 rfl rfl ?_
  refine R_iload_n 38 c_102_37 rfl rfl ?_
  refine R_aload_n 39 c_102_38 rfl rfl ?_
  refine R_iconst 40 c_102_39 rfl ?_
  refine R_callS 43 c_102_40 rfl rfl (Nat.le_of_ble_eq_true rfl) (c3) ?_
  refine R_sipush 46 c_102_43 rfl (by decide) ?_
  refine R_callS 49 c_102_46 rfl rfl (Nat.le_of_ble_eq_true rfl) (b3) ?_
  refine R_callV 52 c_102_49 rfl rfl rfl rfl (Nat.le_of_ble_eq_true rfl) (Nat.le_of_ble_eq_true rfl) (W1.1.1) (d2) ?_
  refine R_iload_n 53 c_102_52 rfl rfl ?_
  refine R_iload_n 54 c_102_53 rfl rfl ?_
  refine R_imul 55 c_102_54 rfl ?_
  refine R_br 58 60 _ (cmp_eq (by unfold inR; omega) (by unfold inR; omega)) c_102_55 rfl rfl (fun _ => ?_) (fun hn => absurd (by omega) hn)
  have e1 : (m_nu (fun _ => (8 : Int)) 0 (1 + z1)) 0 = 1 + z1 := m_nu_at _ _ _
  have e2 : (m_nu (fun _ => (8 : Int)) 0 (1 + z2)) 0 = 1 + z2 := m_nu_at _ _ _
  refine m_nrm [(0, .ref 0), (1, .ref 1), (2, vI (1 + z1)), (3, vI (1 + z2))] rfl ?_
  rw [← e1, ← e2]
  have hdim : 1 ≤ (m_nu (fun _ => (8 : Int)) 0 (1 + z1)) 0 ∧ (m_nu (fun _ => (8 : Int)) 0 (1 + z1)) 0 ≤ 8 ∧ 1 ≤ (m_nu (fun _ => (8 : Int)) 0 (1 + z2)) 0 ∧ (m_nu (fun _ => (8 : Int)) 0 (1 + z2)) 0 ≤ 8 := by omega
  clear e1 e2 d2 W1 hc1 hbm
  generalize m_nu (fun _ => (8 : Int)) 0 (1 + z1) = w at w2 hdim ⊢
  generalize m_nu (fun _ => (8 : Int)) 0 (1 + z2) = h at w2 hdim ⊢
  obtain ⟨a4, c4⟩ := k_cellE (scr := scr) H2 (3) hs (by omega)
  obtain ⟨z4, b4, p4, q4⟩ := k_belowE (scr := scr) H2 (a4) (41) (by omega)
  obtain ⟨a5, c5⟩ := k_cellE (scr := scr) H2 (4) hs (by omega)
  obtain ⟨z5, b5, p5, q5⟩ := k_belowE (scr := scr) H2 (a5) (41) (by omega)
  obtain ⟨a6, c6⟩ := k_cellE (scr := scr) H2 (5) hs (by omega)
  obtain ⟨z6, b6, p6, q6⟩ := k_belowE (scr := scr) H2 (a6) (61) (by omega)
  obtain ⟨_, H3, d3, ⟨⟨e3, rfl⟩, f3, w3⟩, s3⟩ := m_szP (x := 55) (by decide) s2 (k_shade (scr := scr) (k := 0) (ac := z4 - 20) (al := z5 - 20) (ro := z6 - 30) w2 (by decide) (by omega) (by omega) (by omega))
  refine R_aload_n 61 c_102_60 rfl rfl ?_
  refine R_iconst 62 c_102_61 rfl ?_
  refine R_aload_n 63 c_102_62 rfl rfl ?_
  refine R_iconst 64 c_102_63 rfl ?_
  refine R_callS 67 c_102_64 rfl rfl (Nat.le_of_ble_eq_true rfl) (c4) ?_
  refine R_bipush 69 c_102_67 rfl (by decide) ?_
  refine R_callS 72 c_102_69 rfl rfl (Nat.le_of_ble_eq_true rfl) (b4) ?_
  refine R_bipush 74 c_102_72 rfl (by decide) ?_
  refine R_isub 75 c_102_74 rfl ?_
  refine R_aload_n 76 c_102_75 rfl rfl ?_
  refine R_iconst 77 c_102_76 rfl ?_
  refine R_callS 80 c_102_77 rfl rfl (Nat.le_of_ble_eq_true rfl) (c5) ?_
  refine R_bipush 82 c_102_80 rfl (by decide) ?_
  refine R_callS 85 c_102_82 rfl rfl (Nat.le_of_ble_eq_true rfl) (b5) ?_
  refine R_bipush 87 c_102_85 rfl (by decide) ?_
  refine R_isub 88 c_102_87 rfl ?_
  refine R_aload_n 89 c_102_88 rfl rfl ?_
  refine R_iconst 90 c_102_89 rfl ?_
  refine R_callS 93 c_102_90 rfl rfl (Nat.le_of_ble_eq_true rfl) (c6) ?_
  refine R_bipush 95 c_102_93 rfl (by decide) ?_
  refine R_callS 98 c_102_95 rfl rfl (Nat.le_of_ble_eq_true rfl) (b6) ?_
  refine R_bipush 100 c_102_98 rfl (by decide) ?_
  refine R_isub 101 c_102_100 rfl ?_
  refine R_callV 104 c_102_101 rfl rfl rfl rfl (Nat.le_of_ble_eq_true rfl) (Nat.le_of_ble_eq_true rfl) (w2.1) (d3) ?_
  refine R_pop 105 c_102_104 rfl rfl ?_
  refine R_iconst 106 c_102_105 rfl ?_
  refine R_istore 108 c_102_106 rfl ?_
  exact L_draw (n := 0) hs ⟨w3, s3⟩ hdim (fun L H f W hL => K L H w h f W hdim hL)
end LAW2
/-! the law, 210 to 462: asking -/
section LAW3
variable {scr : List Int32} {H : List mC} {w h : Nat → Int} {f : Nat → Int → Int} {X : mR → Prop}
theorem ask {x : Nat} {as : List Value} {z : Value} (hx : m_mk x = false) (W : Wd H w h f) (hc : m_CP scr x as H (fun v H1 => v = some z ∧ wd H1 w h f)) : ∃ H1, m_Cl scr x as H (some z) H1 ∧ Wd H1 w h f := by
  obtain ⟨v, H1, c, ⟨rfl, w1⟩, s1⟩ := m_szP hx W.2 hc
  exact ⟨H1, c, w1, s1⟩
theorem m_dc0 : Op.cmpValue (FP.dcmp 0 FP.dconst0) .l = iI 0 := by decide
theorem dim16 {a b : Int} (hd : 1 ≤ a ∧ a ≤ 8 ∧ 1 ≤ b ∧ b ≤ 8) : 1 ≤ a ∧ a ≤ 16 ∧ 1 ≤ b ∧ b ≤ 16 := by omega
theorem area8 {a b : Int} (hd : 1 ≤ a ∧ a ≤ 8 ∧ 1 ≤ b ∧ b ≤ 8) : 1 ≤ a * b ∧ a * b ≤ 64 := by
  have h1 : 1 * 1 ≤ a * b := Int.mul_le_mul hd.1 hd.2.2.1 (by decide) (by omega)
  have h2 : a * b ≤ 8 * 8 := Int.mul_le_mul hd.2.1 hd.2.2.2 (by omega) (by decide)
  omega
set_option maxHeartbeats 8000000 in
theorem L_ask1 (W : Wd H w h f) (hd : 1 ≤ w 0 ∧ w 0 ≤ 8 ∧ 1 ≤ h 0 ∧ h 0 ≤ 8)
    (K : ∀ H, Wd H w h f → m_Ev scr 102 337 [(0, .ref 0), (1, .ref 1), (2, vI (w 0)), (3, vI (h 0)), (4, vI (w 0 * h 0)), (5, .long (dgt w h f 4))] [] H X) :
    m_Ev scr 102 210 [(0, .ref 0), (1, .ref 1), (2, vI (w 0)), (3, vI (h 0))] [] H X := by
  have hd16 := dim16 hd
  have ha := area8 hd
  have hf := (W.1.2.2.1 0 (by decide)).2
  have fc := fcnt_all hd16 hf
  obtain ⟨H1, c1, W1⟩ := ask (by decide) W (k_digest (scr := scr) W.1)
  have c2 := k_count (scr := scr) (k := 0) (lo := 0) (hi := 255) W1.1 (by decide) inR_0 (by unfold inR; omega)
  obtain ⟨H3, c3, W3⟩ := ask (by decide) W1 (k_ordered (scr := scr) (k := 0) (n := 0) W1.1 (by decide) (by omega))
  obtain ⟨H4, c4, W4⟩ := ask (by decide) W3 (k_sheet (scr := scr) (k := 0) (what := 2) W3.1 (by decide) (by decide))
  have e4 : ffct (w 0) (h 0) (f 0) 2 = ordf (hist (f 0) (w 0 * h 0)) 0 := rfl
  have b4 := ordf_bd (hist (f 0) (w 0 * h 0)) 0
  obtain ⟨H5, c5, W5⟩ := ask (by decide) W4 (k_ordered (scr := scr) (k := 0) (n := w 0 * h 0 - 1) W4.1 (by decide) (by omega))
  obtain ⟨H6, c6, W6⟩ := ask (by decide) W5 (k_sheet (scr := scr) (k := 0) (what := 3) W5.1 (by decide) (by decide))
  have e6 : ffct (w 0) (h 0) (f 0) 3 = ordf (hist (f 0) (w 0 * h 0)) (w 0 * h 0 - 1) := rfl
  have b6 := ordf_bd (hist (f 0) (w 0 * h 0)) (w 0 * h 0 - 1)
  have c7 := k_difference (scr := scr) (k := 0) (k2 := 0) W6.1 (by decide) (by decide) rfl rfl (fun _ _ _ => rfl)
  obtain ⟨H8, c8, W8⟩ := ask (by decide) W6 (k_parts (scr := scr) (k := 0) (ways := 8) W6.1 (by decide) (by decide))
  obtain ⟨H9, c9, W9⟩ := ask (by decide) W8 (k_parts (scr := scr) (k := 0) (ways := 4) W8.1 (by decide) (by decide))
  have e8 := npt_48 (thr := 128) (on := 1) (f := f 0) hd16
  have b8 := npt_bd (ways := 8) (thr := 128) (on := 1) (f := f 0) hd16
  have b9 := npt_bd (ways := 4) (thr := 128) (on := 1) (f := f 0) hd16
  obtain ⟨HA, cA, WA⟩ := ask (by decide) W9 (k_holes (scr := scr) (k := 0) (ways := 8) W9.1 (by decide) (by decide))
  have bA := nho_nn (ways := 8) (w := w 0) (h := h 0) (f := f 0)
  have bA2 := nho_le (ways := 8) (f := f 0) hd16
  obtain ⟨HB, cB, WB⟩ := ask (by decide) WA (k_partsAt (scr := scr) (k := 0) (ways := 4) (t := 128) WA.1 (by decide) (by decide) (by decide))
  obtain ⟨HC, cC, WC⟩ := ask (by decide) WB (k_parts (scr := scr) (k := 0) (ways := 4) WB.1 (by decide) (by decide))
  obtain ⟨HD, cD, WD⟩ := ask (by decide) WC (k_partsAt (scr := scr) (k := 0) (ways := 8) (t := 0) WC.1 (by decide) (by decide) (by decide))
  have eD := npt_all (ways := 8) hd16 hf
  refine R_iload_n 211 c_102_210 rfl rfl ?_
  refine R_iload_n 212 c_102_211 rfl rfl ?_
  refine R_imul 213 c_102_212 rfl ?_
  refine R_istore 215 c_102_213 rfl ?_
  refine R_aload_n 216 c_102_215 rfl rfl ?_
  refine R_callV 219 c_102_216 rfl rfl rfl rfl (Nat.le_of_ble_eq_true rfl) (Nat.le_of_ble_eq_true rfl) (W.1.1) (c1) ?_
  refine R_lstore 221 c_102_219 rfl ?_
  refine R_aload_n 222 c_102_221 rfl rfl ?_
  refine R_iconst 223 c_102_222 rfl ?_
  refine R_iconst 224 c_102_223 rfl ?_
  refine R_sipush 227 c_102_224 rfl (by decide) ?_
  refine R_callV 230 c_102_227 rfl rfl rfl rfl (Nat.le_of_ble_eq_true rfl) (Nat.le_of_ble_eq_true rfl) (W1.1.1) (c2) ?_
  refine R_iload 232 c_102_230 rfl rfl ?_
  refine R_br 235 335 _ (cmp_ne (by unfold inR; omega) (by unfold inR; omega)) c_102_232 rfl rfl (fun hn => absurd hn (by omega)) (fun _ => ?_)
  refine R_aload_n 236 c_102_235 rfl rfl ?_
  refine R_iconst 237 c_102_236 rfl ?_
  refine R_iconst 238 c_102_237 rfl ?_
  refine R_callV 241 c_102_238 rfl rfl rfl rfl (Nat.le_of_ble_eq_true rfl) (Nat.le_of_ble_eq_true rfl) (W1.1.1) (c3) ?_
  refine R_aload_n 242 c_102_241 rfl rfl ?_
  refine R_iconst 243 c_102_242 rfl ?_
  refine R_iconst 244 c_102_243 rfl ?_
  refine R_callV 247 c_102_244 rfl rfl rfl rfl (Nat.le_of_ble_eq_true rfl) (Nat.le_of_ble_eq_true rfl) (W3.1.1) (c4) ?_
  refine R_br 250 335 _ (cmp_ne (by unfold inR; omega) (by unfold inR; omega)) c_102_247 rfl rfl (fun hn => absurd hn (by omega)) (fun _ => ?_)
  refine R_aload_n 251 c_102_250 rfl rfl ?_
  refine R_iconst 252 c_102_251 rfl ?_
  refine R_iload 254 c_102_252 rfl rfl ?_
  refine R_iconst 255 c_102_254 rfl ?_
  refine R_isub 256 c_102_255 rfl ?_
  refine R_callV 259 c_102_256 rfl rfl rfl rfl (Nat.le_of_ble_eq_true rfl) (Nat.le_of_ble_eq_true rfl) (W4.1.1) (c5) ?_
  refine R_aload_n 260 c_102_259 rfl rfl ?_
  refine R_iconst 261 c_102_260 rfl ?_
  refine R_iconst 262 c_102_261 rfl ?_
  refine R_callV 265 c_102_262 rfl rfl rfl rfl (Nat.le_of_ble_eq_true rfl) (Nat.le_of_ble_eq_true rfl) (W5.1.1) (c6) ?_
  refine R_br 268 335 _ (cmp_ne (by unfold inR; omega) (by unfold inR; omega)) c_102_265 rfl rfl (fun hn => absurd hn (by omega)) (fun _ => ?_)
  refine R_aload_n 269 c_102_268 rfl rfl ?_
  refine R_iconst 270 c_102_269 rfl ?_
  refine R_iconst 271 c_102_270 rfl ?_
  refine R_callV 274 c_102_271 rfl rfl rfl rfl (Nat.le_of_ble_eq_true rfl) (Nat.le_of_ble_eq_true rfl) (W6.1.1) (c7) ?_
  refine R_dconst 275 c_102_274 rfl ?_
  refine R_dcmp 276 c_102_275 rfl ?_
  rw [m_dc0]
  refine R_brz 279 335 _ (cmp_ne (by unfold inR; omega) inR_0) c_102_276 rfl rfl (fun hn => absurd hn (by omega)) (fun _ => ?_)
  refine R_aload_n 280 c_102_279 rfl rfl ?_
  refine R_iconst 281 c_102_280 rfl ?_
  refine R_bipush 283 c_102_281 rfl (by decide) ?_
  refine R_callV 286 c_102_283 rfl rfl rfl rfl (Nat.le_of_ble_eq_true rfl) (Nat.le_of_ble_eq_true rfl) (W6.1.1) (c8) ?_
  refine R_aload_n 287 c_102_286 rfl rfl ?_
  refine R_iconst 288 c_102_287 rfl ?_
  refine R_iconst 289 c_102_288 rfl ?_
  refine R_callV 292 c_102_289 rfl rfl rfl rfl (Nat.le_of_ble_eq_true rfl) (Nat.le_of_ble_eq_true rfl) (W8.1.1) (c9) ?_
  refine R_br 295 335 _ (cmp_gt (by unfold inR; omega) (by unfold inR; omega)) c_102_292 rfl rfl (fun hn => absurd hn (by omega)) (fun _ => ?_)
  refine R_aload_n 296 c_102_295 rfl rfl ?_
  refine R_iconst 297 c_102_296 rfl ?_
  refine R_bipush 299 c_102_297 rfl (by decide) ?_
  refine R_callV 302 c_102_299 rfl rfl rfl rfl (Nat.le_of_ble_eq_true rfl) (Nat.le_of_ble_eq_true rfl) (W9.1.1) (cA) ?_
  refine R_brz 305 335 _ (cmp_lt (by unfold inR; omega) inR_0) c_102_302 rfl rfl (fun hn => absurd hn (by omega)) (fun _ => ?_)
  refine R_aload_n 306 c_102_305 rfl rfl ?_
  refine R_iconst 307 c_102_306 rfl ?_
  refine R_iconst 308 c_102_307 rfl ?_
  refine R_sipush 311 c_102_308 rfl (by decide) ?_
  refine R_callV 314 c_102_311 rfl rfl rfl rfl (Nat.le_of_ble_eq_true rfl) (Nat.le_of_ble_eq_true rfl) (WA.1.1) (cB) ?_
  refine R_aload_n 315 c_102_314 rfl rfl ?_
  refine R_iconst 316 c_102_315 rfl ?_
  refine R_iconst 317 c_102_316 rfl ?_
  refine R_callV 320 c_102_317 rfl rfl rfl rfl (Nat.le_of_ble_eq_true rfl) (Nat.le_of_ble_eq_true rfl) (WB.1.1) (cC) ?_
  refine R_br 323 335 _ (cmp_ne (by unfold inR; omega) (by unfold inR; omega)) c_102_320 rfl rfl (fun hn => absurd hn (by omega)) (fun _ => ?_)
  refine R_aload_n 324 c_102_323 rfl rfl ?_
  refine R_iconst 325 c_102_324 rfl ?_
  refine R_bipush 327 c_102_325 rfl (by decide) ?_
  refine R_iconst 328 c_102_327 rfl ?_
  refine R_callV 331 c_102_328 rfl rfl rfl rfl (Nat.le_of_ble_eq_true rfl) (Nat.le_of_ble_eq_true rfl) (WC.1.1) (cD) ?_
  refine R_iconst 332 c_102_331 rfl ?_
  refine R_br 335 337 _ (cmp_eq (by unfold inR; omega) (by unfold inR; omega)) c_102_332 rfl rfl (fun _ => ?_) (fun hn => absurd (by omega) hn)
  exact K _ WD
set_option maxHeartbeats 8000000 in
theorem L_ask2 (W : Wd H w h f) (hd : 1 ≤ w 0 ∧ w 0 ≤ 8 ∧ 1 ≤ h 0 ∧ h 0 ≤ 8) {d : Int64}
    (K : ∀ H, Wd H w h f → m_Ev scr 102 407 [(0, .ref 0), (1, .ref 1), (2, vI (w 0)), (3, vI (h 0)), (4, vI (w 0 * h 0)), (5, .long d)] [] H X) :
    m_Ev scr 102 337 [(0, .ref 0), (1, .ref 1), (2, vI (w 0)), (3, vI (h 0)), (4, vI (w 0 * h 0)), (5, .long d)] [] H X := by
  have hd16 := dim16 hd
  have ha := area8 hd
  have hf := (W.1.2.2.1 0 (by decide)).2
  have hall := hist_all hf (n := w 0 * h 0) (by omega) (by omega)
  have hc : ∀ e : Int, 0 ≤ e → e < 256 → 0 ≤ hist (f 0) (w 0 * h 0) e := fun e _ _ => (hist_bd (f 0) (by omega) (by omega) e).1
  have htot := ord_total hf (n := w 0 * h 0) (by omega) (by omega)
  refine R_iconst 338 c_102_337 rfl ?_
  refine R_istore 340 c_102_338 rfl ?_
  refine R_iconst 341 c_102_340 rfl ?_
  refine R_istore 343 c_102_341 rfl ?_
  refine m_forP (w 0 * h 0) (fun i L H2 => L = [(0, .ref 0), (1, .ref 1), (2, vI (w 0)), (3, vI (h 0)), (4, vI (w 0 * h 0)), (5, .long d), (7, vI (fsum (fun k => ordf (hist (f 0) (w 0 * h 0)) k) i)), (8, vI i)] ∧ Wd H2 w h f) 0 ⟨rfl, W⟩ (by omega) ?_ ?_
  · rintro i L2 H2 i0 i1 ⟨rfl, W2⟩ ih
    have e1 : fsum (fun k => ordf (hist (f 0) (w 0 * h 0)) k) (i + 1) = fsum (fun k => ordf (hist (f 0) (w 0 * h 0)) k) i + ordf (hist (f 0) (w 0 * h 0)) i := fsum_succ _ i0
    obtain ⟨H3, c3, W3⟩ := ask (by decide) W2 (k_ordered (scr := scr) (k := 0) (n := i) W2.1 (by decide) (by omega))
    obtain ⟨H4, c4, W4⟩ := ask (by decide) W3 (k_ordered (scr := scr) (k := 0) (n := i) W3.1 (by decide) (by omega))
    have b4 := ordf_bd (hist (f 0) (w 0 * h 0)) i
    have b5 := ordf_bd (hist (f 0) (w 0 * h 0)) (i - 1)
    have mo := ordf_mono (k := i - 1) (k' := i) hc (by omega) (by omega)
    refine R_iload 345 c_102_343 rfl rfl ?_
    refine R_iload 347 c_102_345 rfl rfl ?_
    refine R_br 350 394 _ (cmp_ge (by unfold inR; omega) (by unfold inR; omega)) c_102_347 rfl rfl (fun hn => absurd hn (by omega)) (fun _ => ?_)
    refine R_iload 352 c_102_350 rfl rfl ?_
    refine R_aload_n 353 c_102_352 rfl rfl ?_
    refine R_iconst 354 c_102_353 rfl ?_
    refine R_iload 356 c_102_354 rfl rfl ?_
    refine R_callV 359 c_102_356 rfl rfl rfl rfl (Nat.le_of_ble_eq_true rfl) (Nat.le_of_ble_eq_true rfl) (W2.1.1) (c3) ?_
    refine R_iadd 360 c_102_359 rfl ?_
    refine R_istore 362 c_102_360 rfl ?_
    refine R_iload 364 c_102_362 rfl rfl ?_
    rw [← e1]
    refine R_brz 367 388 _ (cmp_le (by unfold inR; omega) inR_0) c_102_364 rfl rfl (fun hb => ?_) (fun hb => ?_)
    · refine R_iinc 391 c_102_388 rfl rfl ?_
      refine R_goto 343 c_102_391 rfl ?_
      exact ih _ _ ⟨rfl, W3⟩
    · obtain ⟨H5, c5, W5⟩ := ask (by decide) W4 (k_ordered (scr := scr) (k := 0) (n := i - 1) W4.1 (by decide) (by omega))
      refine R_aload_n 368 c_102_367 rfl rfl ?_
      refine R_iconst 369 c_102_368 rfl ?_
      refine R_iload 371 c_102_369 rfl rfl ?_
      refine R_callV 374 c_102_371 rfl rfl rfl rfl (Nat.le_of_ble_eq_true rfl) (Nat.le_of_ble_eq_true rfl) (W3.1.1) (c4) ?_
      refine R_aload_n 375 c_102_374 rfl rfl ?_
      refine R_iconst 376 c_102_375 rfl ?_
      refine R_iload 378 c_102_376 rfl rfl ?_
      refine R_iconst 379 c_102_378 rfl ?_
      refine R_isub 380 c_102_379 rfl ?_
      refine R_callV 383 c_102_380 rfl rfl rfl rfl (Nat.le_of_ble_eq_true rfl) (Nat.le_of_ble_eq_true rfl) (W4.1.1) (c5) ?_
      refine R_br 386 388 _ (cmp_ge (by unfold inR; omega) (by unfold inR; omega)) c_102_383 rfl rfl (fun _ => ?_) (fun hn => absurd (by omega) hn)
      refine R_iinc 391 c_102_388 rfl rfl ?_
      refine R_goto 343 c_102_391 rfl ?_
      exact ih _ _ ⟨rfl, W5⟩
  · rintro L2 H2 ⟨rfl, W2⟩
    obtain ⟨H3, c3, W3⟩ := ask (by decide) W2 (k_sheet (scr := scr) (k := 0) (what := 4) W2.1 (by decide) (by decide))
    have e3 : ffct (w 0) (h 0) (f 0) 4 = fsum (f 0) (w 0 * h 0) := rfl
    have bf := fsum_bd (f := f 0) (lo := 0) (hi := 255) hf (w 0 * h 0) (by omega) (by omega)
    rw [htot]
    refine R_iload 345 c_102_343 rfl rfl ?_
    refine R_iload 347 c_102_345 rfl rfl ?_
    refine R_br 350 394 _ (cmp_ge (by unfold inR; omega) (by unfold inR; omega)) c_102_347 rfl rfl (fun _ => ?_) (fun hn => absurd (by omega) hn)
    refine R_iload 396 c_102_394 rfl rfl ?_
    refine R_aload_n 397 c_102_396 rfl rfl ?_
    refine R_iconst 398 c_102_397 rfl ?_
    refine R_iconst 399 c_102_398 rfl ?_
    refine R_callV 402 c_102_399 rfl rfl rfl rfl (Nat.le_of_ble_eq_true rfl) (Nat.le_of_ble_eq_true rfl) (W2.1.1) (c3) ?_
    refine R_br 405 407 _ (cmp_eq (by unfold inR; omega) (by unfold inR; omega)) c_102_402 rfl rfl (fun _ => ?_) (fun hn => absurd (by omega) hn)
    refine m_keep [0, 1, 2, 3, 4, 5] (by rfl) ?_
    exact K _ W3
set_option maxHeartbeats 8000000 in
theorem L_ask3 (W : Wd H w h f) (hd : 1 ≤ w 0 ∧ w 0 ≤ 8 ∧ 1 ≤ h 0 ∧ h 0 ≤ 8) {d : Int64}
    (K : ∀ H, Wd H w h f → m_Ev scr 102 462 [(0, .ref 0), (1, .ref 1), (2, vI (w 0)), (3, vI (h 0)), (4, vI (w 0 * h 0)), (5, .long d), (8, vI (fcnt (f 0) 128 255 (w 0 * h 0)))] [] H X) :
    m_Ev scr 102 407 [(0, .ref 0), (1, .ref 1), (2, vI (w 0)), (3, vI (h 0)), (4, vI (w 0 * h 0)), (5, .long d)] [] H X := by
  have hd16 := dim16 hd
  have ha := area8 hd
  have hf := (W.1.2.2.1 0 (by decide)).2
  have hsum := psz_cnt (ways := 4) hd16 hf
  have hb := npt_bd (ways := 4) (thr := 128) (on := 1) (f := f 0) hd16
  have hfc := fsum_bd (f := fun e => if 128 ≤ f 0 e ∧ f 0 e ≤ 255 then 1 else 0) (lo := 0) (hi := 1) (fun e _ _ => by split <;> omega) (w 0 * h 0) (by omega) (by omega)
  refine R_iconst 408 c_102_407 rfl ?_
  refine R_istore 410 c_102_408 rfl ?_
  refine R_iconst 411 c_102_410 rfl ?_
  refine R_istore 413 c_102_411 rfl ?_
  refine m_forP (npt 4 128 1 (w 0) (h 0) (f 0)) (fun i L H2 => L = [(0, .ref 0), (1, .ref 1), (2, vI (w 0)), (3, vI (h 0)), (4, vI (w 0 * h 0)), (5, .long d), (8, vI (fsum (psz (w 0) (h 0) 4 (mbf (w 0) (h 0) (f 0) 128 1)) i)), (9, vI i)] ∧ Wd H2 w h f) 0 ⟨rfl, W⟩ hb.1 ?_ ?_
  · rintro i L2 H2 i0 i1 ⟨rfl, W2⟩ ih
    obtain ⟨H3, c3, W3⟩ := ask (by decide) W2 (k_parts (scr := scr) (k := 0) (ways := 4) W2.1 (by decide) (by decide))
    obtain ⟨H4, c4, W4⟩ := ask (by decide) W3 (k_part0 (scr := scr) (k := 0) (ways := 4) (n := i) W3.1 (by decide) (by decide) ⟨i0, i1⟩)
    have e1 : fsum (psz (w 0) (h 0) 4 (mbf (w 0) (h 0) (f 0) 128 1)) (i + 1) = fsum (psz (w 0) (h 0) 4 (mbf (w 0) (h 0) (f 0) 128 1)) i + psz (w 0) (h 0) 4 (mbf (w 0) (h 0) (f 0) 128 1) i := fsum_succ _ i0
    refine R_iload 415 c_102_413 rfl rfl ?_
    refine R_aload_n 416 c_102_415 rfl rfl ?_
    refine R_iconst 417 c_102_416 rfl ?_
    refine R_iconst 418 c_102_417 rfl ?_
    refine R_callV 421 c_102_418 rfl rfl rfl rfl (Nat.le_of_ble_eq_true rfl) (Nat.le_of_ble_eq_true rfl) (W2.1.1) (c3) ?_
    refine R_br 424 444 _ (cmp_ge (by unfold inR; omega) (by unfold inR; omega)) c_102_421 rfl rfl (fun hn => absurd hn (by omega)) (fun _ => ?_)
    refine R_iload 426 c_102_424 rfl rfl ?_
    refine R_aload_n 427 c_102_426 rfl rfl ?_
    refine R_iconst 428 c_102_427 rfl ?_
    refine R_iconst 429 c_102_428 rfl ?_
    refine R_iload 431 c_102_429 rfl rfl ?_
    refine R_iconst 432 c_102_431 rfl ?_
    refine R_callV 435 c_102_432 rfl rfl rfl rfl (Nat.le_of_ble_eq_true rfl) (Nat.le_of_ble_eq_true rfl) (W3.1.1) (c4) ?_
    refine R_iadd 436 c_102_435 rfl ?_
    refine R_istore 438 c_102_436 rfl ?_
    refine R_iinc 441 c_102_438 rfl rfl ?_
    refine R_goto 413 c_102_441 rfl ?_
    rw [← e1]
    exact ih _ _ ⟨rfl, W4⟩
  · rintro L2 H2 ⟨rfl, W2⟩
    obtain ⟨H3, c3, W3⟩ := ask (by decide) W2 (k_parts (scr := scr) (k := 0) (ways := 4) W2.1 (by decide) (by decide))
    have c4 := k_count (scr := scr) (k := 0) (lo := 128) (hi := 255) W3.1 (by decide) (by unfold inR; omega) (by unfold inR; omega)
    rw [hsum]
    refine R_iload 415 c_102_413 rfl rfl ?_
    refine R_aload_n 416 c_102_415 rfl rfl ?_
    refine R_iconst 417 c_102_416 rfl ?_
    refine R_iconst 418 c_102_417 rfl ?_
    refine R_callV 421 c_102_418 rfl rfl rfl rfl (Nat.le_of_ble_eq_true rfl) (Nat.le_of_ble_eq_true rfl) (W2.1.1) (c3) ?_
    refine R_br 424 444 _ (cmp_ge (by unfold inR; omega) (by unfold inR; omega)) c_102_421 rfl rfl (fun _ => ?_) (fun hn => absurd (by omega) hn)
    refine R_iload 446 c_102_444 rfl rfl ?_
    refine R_aload_n 447 c_102_446 rfl rfl ?_
    refine R_iconst 448 c_102_447 rfl ?_
    refine R_sipush 451 c_102_448 rfl (by decide) ?_
    refine R_sipush 454 c_102_451 rfl (by decide) ?_
    refine R_callV 457 c_102_454 rfl rfl rfl rfl (Nat.le_of_ble_eq_true rfl) (Nat.le_of_ble_eq_true rfl) (W3.1.1) (c4) ?_
    have hfc2 : 0 ≤ fcnt (f 0) 128 255 (w 0 * h 0) ∧ fcnt (f 0) 128 255 (w 0 * h 0) ≤ 64 := by unfold fcnt; omega
    refine R_br 460 462 _ (cmp_eq (by unfold inR; omega) (by unfold inR; omega)) c_102_457 rfl rfl (fun _ => ?_) (fun hn => absurd (by omega) hn)
    refine m_keep [0, 1, 2, 3, 4, 5, 8] (by rfl) ?_
    exact K _ W3
end LAW3
/-! the law, 462 to 744: every FIELD; asking leaves the checksum -/
section LAW4
variable {scr : List Int32} {H : List mC} {w h : Nat → Int} {f : Nat → Int → Int} {X : mR → Prop}
theorem fnear_in {a b x y : Int} {f : Int → Int} (hx : 0 ≤ x ∧ x < a) (hy : 0 ≤ y ∧ y < b) : fnear a b f x y = f (y * a + x) := by
  unfold fnear
  rw [show max 0 (min y (b - 1)) = y by omega, show max 0 (min x (a - 1)) = x by omega]
set_option maxHeartbeats 16000000 in
theorem L_fields (W : Wd H w h f) (hd : 1 ≤ w 0 ∧ w 0 ≤ 8 ∧ 1 ≤ h 0 ∧ h 0 ≤ 8) {d : Int64}
    (K : ∀ H, Wd H w h f → m_Ev scr 102 732 [(0, .ref 0), (1, .ref 1), (2, vI (w 0)), (3, vI (h 0)), (4, vI (w 0 * h 0)), (5, .long d)] [] H X) :
    m_Ev scr 102 462 [(0, .ref 0), (1, .ref 1), (2, vI (w 0)), (3, vI (h 0)), (4, vI (w 0 * h 0)), (5, .long d), (8, vI (fcnt (f 0) 128 255 (w 0 * h 0)))] [] H X := by
  have hd16 := dim16 hd
  have ha := area8 hd
  have hf := (W.1.2.2.1 0 (by decide)).2
  have hon0 : 0 ≤ fcnt (f 0) 128 255 (w 0 * h 0) ∧ fcnt (f 0) 128 255 (w 0 * h 0) ≤ 64 := by
    have := fsum_bd (f := fun e => if 128 ≤ f 0 e ∧ f 0 e ≤ 255 then 1 else 0) (lo := 0) (hi := 1) (fun e _ _ => by split <;> omega) (w 0 * h 0) (by omega) (by omega)
    unfold fcnt
    omega
  refine R_iconst 463 c_102_462 rfl ?_
  refine R_istore 465 c_102_463 rfl ?_
  refine m_forP (h 0) (fun y L H2 => (L.filter (fun q => [0, 1, 2, 3, 4, 5, 8, 9].contains q.1) = [(0, .ref 0), (1, .ref 1), (2, vI (w 0)), (3, vI (h 0)), (4, vI (w 0 * h 0)), (5, .long d), (8, vI (fcnt (f 0) 128 255 (w 0 * h 0))), (9, vI y)] ∧ m_ku L = true) ∧ Wd H2 w h f) 0 ⟨⟨rfl, rfl⟩, W⟩ (by omega) ?_ ?_
  · rintro y L2 H2 y0 y1 ⟨⟨hL2, hu2⟩, W2⟩ ih
    refine m_keep [0, 1, 2, 3, 4, 5, 8, 9] hu2 ?_
    rw [hL2]
    clear hL2 hu2 L2
    refine R_iload 467 c_102_465 rfl rfl ?_
    refine R_iload_n 468 c_102_467 rfl rfl ?_
    refine R_br 471 732 _ (cmp_ge (by unfold inR; omega) (by unfold inR; omega)) c_102_468 rfl rfl (fun hn => absurd hn (by omega)) (fun _ => ?_)
    refine R_iconst 472 c_102_471 rfl ?_
    refine R_istore 474 c_102_472 rfl ?_
    refine m_forP (w 0) (fun x L H2 => (L.filter (fun q => [0, 1, 2, 3, 4, 5, 8, 9, 10].contains q.1) = [(0, .ref 0), (1, .ref 1), (2, vI (w 0)), (3, vI (h 0)), (4, vI (w 0 * h 0)), (5, .long d), (8, vI (fcnt (f 0) 128 255 (w 0 * h 0))), (9, vI y), (10, vI x)] ∧ m_ku L = true) ∧ Wd H2 w h f) 0 ⟨⟨rfl, rfl⟩, W2⟩ (by omega) ?_ ?_
    · rintro x L3 H3 x0 x1 ⟨⟨hL3, hu3⟩, W3⟩ ih2
      refine m_keep [0, 1, 2, 3, 4, 5, 8, 9, 10] hu3 ?_
      rw [hL3]
      clear hL3 hu3 L3
      have hi := m_idx x0 x1 y0 y1
      have hv := hf (y * w 0 + x) hi.1 (by omega)
      have r := far_rel (f := f 0) hd16 ⟨x0, x1⟩ ⟨y0, y1⟩
      have b0 := ffar_bd (f := f 0) (way := 0) hd16 ⟨x0, x1⟩ ⟨y0, y1⟩
      have b1 := ffar_bd (f := f 0) (way := 1) hd16 ⟨x0, x1⟩ ⟨y0, y1⟩
      have b2 := ffar_bd (f := f 0) (way := 2) hd16 ⟨x0, x1⟩ ⟨y0, y1⟩
      have hsq := Int.mul_nonneg b0.1 b0.1
      have hsq2 := m_msq b0.1 b0.2
      obtain ⟨r1, r2, r3, r4⟩ := r
      have key : ∀ H4, Wd H4 w h f → ∀ b, (b = 1 ∧ 128 ≤ f 0 (y * w 0 + x) ∨ b = 0 ∧ f 0 (y * w 0 + x) < 128) → m_Ev scr 102 633 [(0, .ref 0), (1, .ref 1), (2, vI (w 0)), (3, vI (h 0)), (4, vI (w 0 * h 0)), (5, .long d), (8, vI (fcnt (f 0) 128 255 (w 0 * h 0))), (9, vI y), (10, vI x), (11, vI b), (12, vI (ffar (w 0) (h 0) (f 0) 0 x y))] [] H4 X := by
        intro H4 W4 b hbb
        have key2 : m_Ev scr 102 667 [(0, .ref 0), (1, .ref 1), (2, vI (w 0)), (3, vI (h 0)), (4, vI (w 0 * h 0)), (5, .long d), (8, vI (fcnt (f 0) 128 255 (w 0 * h 0))), (9, vI y), (10, vI x), (11, vI b), (12, vI (ffar (w 0) (h 0) (f 0) 0 x y))] [] H4 X := by
          refine R_iload 669 c_102_667 rfl rfl ?_
          refine R_brz 672 720 _ (cmp_le (by unfold inR; omega) inR_0) c_102_669 rfl rfl (fun hb => ?_) (fun hb => ?_)
          · refine R_iinc 723 c_102_720 rfl rfl ?_
            refine R_goto 474 c_102_723 rfl ?_
            exact ih2 _ _ ⟨⟨rfl, rfl⟩, W4⟩
          · refine R_iload 674 c_102_672 rfl rfl ?_
            refine R_brz 677 720 _ (cmp_eq (by unfold inR; omega) inR_0) c_102_674 rfl rfl (fun hb => ?_) (fun hb => ?_)
            · refine R_iinc 723 c_102_720 rfl rfl ?_
              refine R_goto 474 c_102_723 rfl ?_
              exact ih2 _ _ ⟨⟨rfl, rfl⟩, W4⟩
            · have cv := k_value (scr := scr) (k := 0) (x := x) (y := y - 1) W4.1 (by decide) ⟨x0, x1⟩ (by omega)
              rw [fnear_in ⟨x0, x1⟩ (by omega)] at cv
              have hj := m_idx x0 x1 (show 0 ≤ y - 1 by omega) (show y - 1 < h 0 by omega)
              have hv2 := hf ((y - 1) * w 0 + x) hj.1 (by omega)
              refine R_aload_n 678 c_102_677 rfl rfl ?_
              refine R_iconst 679 c_102_678 rfl ?_
              refine R_iload 681 c_102_679 rfl rfl ?_
              refine R_iload 683 c_102_681 rfl rfl ?_
              refine R_iconst 684 c_102_683 rfl ?_
              refine R_isub 685 c_102_684 rfl ?_
              refine R_callV 688 c_102_685 rfl rfl rfl rfl (Nat.le_of_ble_eq_true rfl) (Nat.le_of_ble_eq_true rfl) (W4.1.1) (cv) ?_
              refine R_bipush 690 c_102_688 rfl (by decide) ?_
              refine R_br 693 720 _ (cmp_le (by unfold inR; omega) (by unfold inR; omega)) c_102_690 rfl rfl (fun hb => ?_) (fun hb => ?_)
              · refine R_iinc 723 c_102_720 rfl rfl ?_
                refine R_goto 474 c_102_723 rfl ?_
                exact ih2 _ _ ⟨⟨rfl, rfl⟩, W4⟩
              · obtain ⟨_, H5, c5, ⟨⟨z5, rfl, p5⟩, w5⟩, s5⟩ := m_szP (x := 67) (by decide) W4.2 (k_partOf (scr := scr) (k := 0) (ways := 4) (x := x) (y := y) W4.1 (by decide) (by decide) ⟨x0, x1⟩ ⟨y0, y1⟩)
                obtain ⟨_, H6, c6, ⟨⟨z6, rfl, p6⟩, w6⟩, s6⟩ := m_szP (x := 67) (by decide) s5 (k_partOf (scr := scr) (k := 0) (ways := 4) (x := x) (y := y - 1) w5 (by decide) (by decide) ⟨x0, x1⟩ (by omega))
                have mi := m_em (y := y) x0 x1
                have mj := m_em (y := y - 1) x0 x1
                have mbi : mbf (w 0) (h 0) (f 0) 128 1 (y * w 0 + x) := ⟨hi, by unfold mbr; rw [if_pos (by omega)]⟩
                have mbj : mbf (w 0) (h 0) (f 0) 128 1 ((y - 1) * w 0 + x) := ⟨hj, by unfold mbr; rw [if_pos (by omega)]⟩
                have hz := isPt_step (by unfold adj; rw [mi.1, mi.2, mj.1, mj.2]; omega) mbi mbj p5 p6
                have g5 := isPt_bd hd16 hi p5
                subst hz
                refine R_aload_n 694 c_102_693 rfl rfl ?_
                refine R_iconst 695 c_102_694 rfl ?_
                refine R_iconst 696 c_102_695 rfl ?_
                refine R_iload 698 c_102_696 rfl rfl ?_
                refine R_iload 700 c_102_698 rfl rfl ?_
                refine R_callV 703 c_102_700 rfl rfl rfl rfl (Nat.le_of_ble_eq_true rfl) (Nat.le_of_ble_eq_true rfl) (W4.1.1) (c5) ?_
                refine R_aload_n 704 c_102_703 rfl rfl ?_
                refine R_iconst 705 c_102_704 rfl ?_
                refine R_iconst 706 c_102_705 rfl ?_
                refine R_iload 708 c_102_706 rfl rfl ?_
                refine R_iload 710 c_102_708 rfl rfl ?_
                refine R_iconst 711 c_102_710 rfl ?_
                refine R_isub 712 c_102_711 rfl ?_
                refine R_callV 715 c_102_712 rfl rfl rfl rfl (Nat.le_of_ble_eq_true rfl) (Nat.le_of_ble_eq_true rfl) (w5.1) (c6) ?_
                refine R_br 718 720 _ (cmp_eq (by unfold inR; omega) (by unfold inR; omega)) c_102_715 rfl rfl (fun _ => ?_) (fun hn => absurd (by omega) hn)
                refine R_iinc 723 c_102_720 rfl rfl ?_
                refine R_goto 474 c_102_723 rfl ?_
                exact ih2 _ _ ⟨⟨rfl, rfl⟩, w6, s6⟩
        refine R_iload 635 c_102_633 rfl rfl ?_
        refine R_brz 638 667 _ (cmp_le (by unfold inR; omega) inR_0) c_102_635 rfl rfl (fun hb => ?_) (fun hb => ?_)
        · exact key2
        · have cf := k_far (scr := scr) (k := 0) (way := 0) (x := x - 1) (y := y) W4.1 (by decide) (by decide) (by omega) ⟨y0, y1⟩
          have b3 := ffar_bd (f := f 0) (way := 0) (x := x - 1) (y := y) hd16 (by omega) ⟨y0, y1⟩
          refine R_iload 640 c_102_638 rfl rfl ?_
          refine R_aload_n 641 c_102_640 rfl rfl ?_
          refine R_iconst 642 c_102_641 rfl ?_
          refine R_iconst 643 c_102_642 rfl ?_
          refine R_iload 645 c_102_643 rfl rfl ?_
          refine R_iconst 646 c_102_645 rfl ?_
          refine R_isub 647 c_102_646 rfl ?_
          refine R_iload 649 c_102_647 rfl rfl ?_
          refine R_callV 652 c_102_649 rfl rfl rfl rfl (Nat.le_of_ble_eq_true rfl) (Nat.le_of_ble_eq_true rfl) (W4.1.1) (cf) ?_
          refine R_isub 653 c_102_652 rfl ?_
          refine R_abs 656 c_102_653 rfl (by unfold inR; omega) (Nat.le_of_ble_eq_true rfl) ?_
          refine R_iconst 657 c_102_656 rfl ?_
          refine R_br 660 667 _ (cmp_le (by unfold inR; omega) (by unfold inR; omega)) c_102_657 rfl rfl (fun hb => ?_) (fun hb => ?_)
          · exact key2
          · have hno : ¬ fcnt (f 0) 128 255 (w 0 * h 0) < w 0 * h 0 := fun hlt => by
              have := far_step (x := x) (y := y) hd16 (by omega) ⟨y0, y1⟩ (off_ex hd16 hf hlt)
              omega
            refine R_iload 662 c_102_660 rfl rfl ?_
            refine R_iload 664 c_102_662 rfl rfl ?_
            refine R_br 667 718 _ (cmp_lt (by unfold inR; omega) (by unfold inR; omega)) c_102_664 rfl rfl (fun hn => absurd hn (by omega)) (fun _ => ?_)
            exact key2
      have cv := k_value (scr := scr) (k := 0) (x := x) (y := y) W3.1 (by decide) ⟨x0, x1⟩ ⟨y0, y1⟩
      rw [fnear_in ⟨x0, x1⟩ ⟨y0, y1⟩] at cv
      have cf := k_far (scr := scr) (k := 0) (way := 0) (x := x) (y := y) W3.1 (by decide) (by decide) ⟨x0, x1⟩ ⟨y0, y1⟩
      obtain ⟨_, H5, c5, ⟨⟨z5, rfl, p5⟩, w5⟩, s5⟩ := m_szP (x := 67) (by decide) W3.2 (k_partOf (scr := scr) (k := 0) (ways := 4) (x := x) (y := y) W3.1 (by decide) (by decide) ⟨x0, x1⟩ ⟨y0, y1⟩)
      obtain ⟨_, H6, c6, ⟨⟨z6, rfl, p6⟩, w6⟩, s6⟩ := m_szP (x := 67) (by decide) s5 (k_partOf (scr := scr) (k := 0) (ways := 8) (x := x) (y := y) w5 (by decide) (by decide) ⟨x0, x1⟩ ⟨y0, y1⟩)
      have g5 := isPt_bd hd16 hi p5
      have g6 := isPt_bd hd16 hi p6
      have f1 := k_far (scr := scr) (k := 0) (way := 1) (x := x) (y := y) w6 (by decide) (by decide) ⟨x0, x1⟩ ⟨y0, y1⟩
      have f2 := k_far (scr := scr) (k := 0) (way := 2) (x := x) (y := y) w6 (by decide) (by decide) ⟨x0, x1⟩ ⟨y0, y1⟩
      have K3 := key H6 ⟨w6, s6⟩
      clear key
      refine R_iload 476 c_102_474 rfl rfl ?_
      refine R_iload_n 477 c_102_476 rfl rfl ?_
      refine R_br 480 726 _ (cmp_ge (by unfold inR; omega) (by unfold inR; omega)) c_102_477 rfl rfl (fun hn => absurd hn (by omega)) (fun _ => ?_)
      refine R_aload_n 481 c_102_480 rfl rfl ?_
      refine R_iconst 482 c_102_481 rfl ?_
      refine R_iload 484 c_102_482 rfl rfl ?_
      refine R_iload 486 c_102_484 rfl rfl ?_
      refine R_callV 489 c_102_486 rfl rfl rfl rfl (Nat.le_of_ble_eq_true rfl) (Nat.le_of_ble_eq_true rfl) (W3.1.1) (cv) ?_
      refine R_bipush 491 c_102_489 rfl (by decide) ?_
      by_cases hon : 128 ≤ f 0 (y * w 0 + x)
      · refine R_br 494 498 _ (cmp_le (by unfold inR; omega) (by unfold inR; omega)) c_102_491 rfl rfl (fun hn => absurd hn (by omega)) (fun _ => ?_)
        refine R_iconst 495 c_102_494 rfl ?_
        refine R_goto 499 c_102_495 rfl ?_
        refine R_istore 501 c_102_499 rfl ?_
        refine R_aload_n 502 c_102_501 rfl rfl ?_
        refine R_iconst 503 c_102_502 rfl ?_
        refine R_iconst 504 c_102_503 rfl ?_
        refine R_iload 506 c_102_504 rfl rfl ?_
        refine R_iload 508 c_102_506 rfl rfl ?_
        refine R_callV 511 c_102_508 rfl rfl rfl rfl (Nat.le_of_ble_eq_true rfl) (Nat.le_of_ble_eq_true rfl) (W3.1.1) (cf) ?_
        refine R_istore 513 c_102_511 rfl ?_
        refine R_aload_n 514 c_102_513 rfl rfl ?_
        refine R_iconst 515 c_102_514 rfl ?_
        refine R_iconst 516 c_102_515 rfl ?_
        refine R_iload 518 c_102_516 rfl rfl ?_
        refine R_iload 520 c_102_518 rfl rfl ?_
        refine R_callV 523 c_102_520 rfl rfl rfl rfl (Nat.le_of_ble_eq_true rfl) (Nat.le_of_ble_eq_true rfl) (W3.1.1) (c5) ?_
        refine R_brz 526 530 _ (cmp_lt (by unfold inR; omega) inR_0) c_102_523 rfl rfl (fun hn => absurd hn (by omega)) (fun _ => ?_)
        refine R_iconst 527 c_102_526 rfl ?_
        refine R_goto 531 c_102_527 rfl ?_
        refine R_iload 533 c_102_531 rfl rfl ?_
        refine R_br 536 631 _ (cmp_ne (by unfold inR; omega) (by unfold inR; omega)) c_102_533 rfl rfl (fun hn => absurd hn (by omega)) (fun _ => ?_)
        refine R_aload_n 537 c_102_536 rfl rfl ?_
        refine R_iconst 538 c_102_537 rfl ?_
        refine R_bipush 540 c_102_538 rfl (by decide) ?_
        refine R_iload 542 c_102_540 rfl rfl ?_
        refine R_iload 544 c_102_542 rfl rfl ?_
        refine R_callV 547 c_102_544 rfl rfl rfl rfl (Nat.le_of_ble_eq_true rfl) (Nat.le_of_ble_eq_true rfl) (w5.1) (c6) ?_
        refine R_brz 550 554 _ (cmp_lt (by unfold inR; omega) inR_0) c_102_547 rfl rfl (fun hn => absurd hn (by omega)) (fun _ => ?_)
        refine R_iconst 551 c_102_550 rfl ?_
        refine R_goto 555 c_102_551 rfl ?_
        refine R_iload 557 c_102_555 rfl rfl ?_
        refine R_br 560 631 _ (cmp_ne (by unfold inR; omega) (by unfold inR; omega)) c_102_557 rfl rfl (fun hn => absurd hn (by omega)) (fun _ => ?_)
        refine R_iload 562 c_102_560 rfl rfl ?_
        refine R_brz 565 569 _ (cmp_le (by unfold inR; omega) inR_0) c_102_562 rfl rfl (fun hn => absurd hn (by omega)) (fun _ => ?_)
        refine R_iconst 566 c_102_565 rfl ?_
        refine R_goto 570 c_102_566 rfl ?_
        refine R_iload 572 c_102_570 rfl rfl ?_
        refine R_br 575 631 _ (cmp_ne (by unfold inR; omega) (by unfold inR; omega)) c_102_572 rfl rfl (fun hn => absurd hn (by omega)) (fun _ => ?_)
        refine R_aload_n 576 c_102_575 rfl rfl ?_
        refine R_iconst 577 c_102_576 rfl ?_
        refine R_iconst 578 c_102_577 rfl ?_
        refine R_iload 580 c_102_578 rfl rfl ?_
        refine R_iload 582 c_102_580 rfl rfl ?_
        refine R_callV 585 c_102_582 rfl rfl rfl rfl (Nat.le_of_ble_eq_true rfl) (Nat.le_of_ble_eq_true rfl) (w6.1) (f1) ?_
        refine R_iload 587 c_102_585 rfl rfl ?_
        refine R_br 590 631 _ (cmp_gt (by unfold inR; omega) (by unfold inR; omega)) c_102_587 rfl rfl (fun hn => absurd hn (by omega)) (fun _ => ?_)
        refine R_aload_n 591 c_102_590 rfl rfl ?_
        refine R_iconst 592 c_102_591 rfl ?_
        refine R_iconst 593 c_102_592 rfl ?_
        refine R_iload 595 c_102_593 rfl rfl ?_
        refine R_iload 597 c_102_595 rfl rfl ?_
        refine R_callV 600 c_102_597 rfl rfl rfl rfl (Nat.le_of_ble_eq_true rfl) (Nat.le_of_ble_eq_true rfl) (w6.1) (f2) ?_
        refine R_iload 602 c_102_600 rfl rfl ?_
        refine R_iload 604 c_102_602 rfl rfl ?_
        refine R_imul 605 c_102_604 rfl ?_
        refine R_br 608 631 _ (cmp_gt (by unfold inR; omega) (by unfold inR; omega)) c_102_605 rfl rfl (fun hn => absurd hn (by omega)) (fun _ => ?_)
        refine R_aload_n 609 c_102_608 rfl rfl ?_
        refine R_iconst 610 c_102_609 rfl ?_
        refine R_iconst 611 c_102_610 rfl ?_
        refine R_iload 613 c_102_611 rfl rfl ?_
        refine R_iload 615 c_102_613 rfl rfl ?_
        refine R_callV 618 c_102_615 rfl rfl rfl rfl (Nat.le_of_ble_eq_true rfl) (Nat.le_of_ble_eq_true rfl) (w6.1) (f2) ?_
        refine R_aload_n 619 c_102_618 rfl rfl ?_
        refine R_iconst 620 c_102_619 rfl ?_
        refine R_iconst 621 c_102_620 rfl ?_
        refine R_iload 623 c_102_621 rfl rfl ?_
        refine R_iload 625 c_102_623 rfl rfl ?_
        refine R_callV 628 c_102_625 rfl rfl rfl rfl (Nat.le_of_ble_eq_true rfl) (Nat.le_of_ble_eq_true rfl) (w6.1) (f1) ?_
        refine R_br 631 633 _ (cmp_ge (by unfold inR; omega) (by unfold inR; omega)) c_102_628 rfl rfl (fun _ => ?_) (fun hn => absurd (by omega) hn)
        exact K3 1 (by omega)
      · refine R_br 494 498 _ (cmp_le (by unfold inR; omega) (by unfold inR; omega)) c_102_491 rfl rfl (fun _ => ?_) (fun hn => absurd (by omega) hn)
        refine R_iconst 499 c_102_498 rfl ?_
        refine R_istore 501 c_102_499 rfl ?_
        refine R_aload_n 502 c_102_501 rfl rfl ?_
        refine R_iconst 503 c_102_502 rfl ?_
        refine R_iconst 504 c_102_503 rfl ?_
        refine R_iload 506 c_102_504 rfl rfl ?_
        refine R_iload 508 c_102_506 rfl rfl ?_
        refine R_callV 511 c_102_508 rfl rfl rfl rfl (Nat.le_of_ble_eq_true rfl) (Nat.le_of_ble_eq_true rfl) (W3.1.1) (cf) ?_
        refine R_istore 513 c_102_511 rfl ?_
        refine R_aload_n 514 c_102_513 rfl rfl ?_
        refine R_iconst 515 c_102_514 rfl ?_
        refine R_iconst 516 c_102_515 rfl ?_
        refine R_iload 518 c_102_516 rfl rfl ?_
        refine R_iload 520 c_102_518 rfl rfl ?_
        refine R_callV 523 c_102_520 rfl rfl rfl rfl (Nat.le_of_ble_eq_true rfl) (Nat.le_of_ble_eq_true rfl) (W3.1.1) (c5) ?_
        refine R_brz 526 530 _ (cmp_lt (by unfold inR; omega) inR_0) c_102_523 rfl rfl (fun _ => ?_) (fun hn => absurd (by omega) hn)
        refine R_iconst 531 c_102_530 rfl ?_
        refine R_iload 533 c_102_531 rfl rfl ?_
        refine R_br 536 631 _ (cmp_ne (by unfold inR; omega) (by unfold inR; omega)) c_102_533 rfl rfl (fun hn => absurd hn (by omega)) (fun _ => ?_)
        refine R_aload_n 537 c_102_536 rfl rfl ?_
        refine R_iconst 538 c_102_537 rfl ?_
        refine R_bipush 540 c_102_538 rfl (by decide) ?_
        refine R_iload 542 c_102_540 rfl rfl ?_
        refine R_iload 544 c_102_542 rfl rfl ?_
        refine R_callV 547 c_102_544 rfl rfl rfl rfl (Nat.le_of_ble_eq_true rfl) (Nat.le_of_ble_eq_true rfl) (w5.1) (c6) ?_
        refine R_brz 550 554 _ (cmp_lt (by unfold inR; omega) inR_0) c_102_547 rfl rfl (fun _ => ?_) (fun hn => absurd (by omega) hn)
        refine R_iconst 555 c_102_554 rfl ?_
        refine R_iload 557 c_102_555 rfl rfl ?_
        refine R_br 560 631 _ (cmp_ne (by unfold inR; omega) (by unfold inR; omega)) c_102_557 rfl rfl (fun hn => absurd hn (by omega)) (fun _ => ?_)
        refine R_iload 562 c_102_560 rfl rfl ?_
        refine R_brz 565 569 _ (cmp_le (by unfold inR; omega) inR_0) c_102_562 rfl rfl (fun _ => ?_) (fun hn => absurd (by omega) hn)
        refine R_iconst 570 c_102_569 rfl ?_
        refine R_iload 572 c_102_570 rfl rfl ?_
        refine R_br 575 631 _ (cmp_ne (by unfold inR; omega) (by unfold inR; omega)) c_102_572 rfl rfl (fun hn => absurd hn (by omega)) (fun _ => ?_)
        refine R_aload_n 576 c_102_575 rfl rfl ?_
        refine R_iconst 577 c_102_576 rfl ?_
        refine R_iconst 578 c_102_577 rfl ?_
        refine R_iload 580 c_102_578 rfl rfl ?_
        refine R_iload 582 c_102_580 rfl rfl ?_
        refine R_callV 585 c_102_582 rfl rfl rfl rfl (Nat.le_of_ble_eq_true rfl) (Nat.le_of_ble_eq_true rfl) (w6.1) (f1) ?_
        refine R_iload 587 c_102_585 rfl rfl ?_
        refine R_br 590 631 _ (cmp_gt (by unfold inR; omega) (by unfold inR; omega)) c_102_587 rfl rfl (fun hn => absurd hn (by omega)) (fun _ => ?_)
        refine R_aload_n 591 c_102_590 rfl rfl ?_
        refine R_iconst 592 c_102_591 rfl ?_
        refine R_iconst 593 c_102_592 rfl ?_
        refine R_iload 595 c_102_593 rfl rfl ?_
        refine R_iload 597 c_102_595 rfl rfl ?_
        refine R_callV 600 c_102_597 rfl rfl rfl rfl (Nat.le_of_ble_eq_true rfl) (Nat.le_of_ble_eq_true rfl) (w6.1) (f2) ?_
        refine R_iload 602 c_102_600 rfl rfl ?_
        refine R_iload 604 c_102_602 rfl rfl ?_
        refine R_imul 605 c_102_604 rfl ?_
        refine R_br 608 631 _ (cmp_gt (by unfold inR; omega) (by unfold inR; omega)) c_102_605 rfl rfl (fun hn => absurd hn (by omega)) (fun _ => ?_)
        refine R_aload_n 609 c_102_608 rfl rfl ?_
        refine R_iconst 610 c_102_609 rfl ?_
        refine R_iconst 611 c_102_610 rfl ?_
        refine R_iload 613 c_102_611 rfl rfl ?_
        refine R_iload 615 c_102_613 rfl rfl ?_
        refine R_callV 618 c_102_615 rfl rfl rfl rfl (Nat.le_of_ble_eq_true rfl) (Nat.le_of_ble_eq_true rfl) (w6.1) (f2) ?_
        refine R_aload_n 619 c_102_618 rfl rfl ?_
        refine R_iconst 620 c_102_619 rfl ?_
        refine R_iconst 621 c_102_620 rfl ?_
        refine R_iload 623 c_102_621 rfl rfl ?_
        refine R_iload 625 c_102_623 rfl rfl ?_
        refine R_callV 628 c_102_625 rfl rfl rfl rfl (Nat.le_of_ble_eq_true rfl) (Nat.le_of_ble_eq_true rfl) (w6.1) (f1) ?_
        refine R_br 631 633 _ (cmp_ge (by unfold inR; omega) (by unfold inR; omega)) c_102_628 rfl rfl (fun _ => ?_) (fun hn => absurd (by omega) hn)
        exact K3 0 (by omega)
    · rintro L3 H3 ⟨⟨hL3, hu3⟩, W3⟩
      refine m_keep [0, 1, 2, 3, 4, 5, 8, 9, 10] hu3 ?_
      rw [hL3]
      refine R_iload 476 c_102_474 rfl rfl ?_
      refine R_iload_n 477 c_102_476 rfl rfl ?_
      refine R_br 480 726 _ (cmp_ge (by unfold inR; omega) (by unfold inR; omega)) c_102_477 rfl rfl (fun _ => ?_) (fun hn => absurd (by omega) hn)
      refine R_iinc 729 c_102_726 rfl rfl ?_
      refine R_goto 465 c_102_729 rfl ?_
      exact ih _ _ ⟨⟨rfl, rfl⟩, W3⟩
  · rintro L2 H2 ⟨⟨hL2, hu2⟩, W2⟩
    refine m_keep [0, 1, 2, 3, 4, 5, 8, 9] hu2 ?_
    rw [hL2]
    refine R_iload 467 c_102_465 rfl rfl ?_
    refine R_iload_n 468 c_102_467 rfl rfl ?_
    refine R_br 471 732 _ (cmp_ge (by unfold inR; omega) (by unfold inR; omega)) c_102_468 rfl rfl (fun _ => ?_) (fun hn => absurd (by omega) hn)
    refine m_keep [0, 1, 2, 3, 4, 5] (by rfl) ?_
    exact K _ W2
theorem L_same (W : Wd H w h f) (K : ∀ H, Wd H w h f → m_Ev scr 102 744 [(0, .ref 0), (1, .ref 1), (2, vI (w 0)), (3, vI (h 0)), (4, vI (w 0 * h 0))] [] H X) :
    m_Ev scr 102 732 [(0, .ref 0), (1, .ref 1), (2, vI (w 0)), (3, vI (h 0)), (4, vI (w 0 * h 0)), (5, .long (dgt w h f 4))] [] H X := by
  obtain ⟨H1, c1, W1⟩ := ask (by decide) W (k_digest (scr := scr) W.1)
  have e : lg_cmp (dgt w h f 4) (dgt w h f 4) = iI 0 := by
    rw [lg_iI]
    unfold lgc
    rw [if_neg (by simp), if_pos rfl]
  refine R_aload_n 733 c_102_732 rfl rfl ?_
  refine R_callV 736 c_102_733 rfl rfl rfl rfl (Nat.le_of_ble_eq_true rfl) (Nat.le_of_ble_eq_true rfl) (W.1.1) (c1) ?_
  refine R_lload 738 c_102_736 rfl rfl ?_
  refine R_lcmp 739 c_102_738 rfl ?_
  rw [e]
  refine R_brz 742 744 _ (cmp_eq (by unfold inR; omega) inR_0) c_102_739 rfl rfl (fun _ => ?_) (fun hn => absurd (by omega) hn)
  refine m_keep [0, 1, 2, 3, 4] (by rfl) ?_
  exact K _ W1
end LAW4
