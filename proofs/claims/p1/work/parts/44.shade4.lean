/-! shade: counts by symbols of their own (220 on), the table, the case -/
noncomputable section
def kPt (v : sV) (i : Nat) (b : Bool) : Bool := Sum.rec (motive := fun _ => Bool) (fun e => kB (Nat.beq e 2147483648) (kB (Nat.beq i 0) b false) false) (fun v => kSy (.inr v) (fun j => kB (Nat.beq j (Nat.add 220 i)) b false)) v
def s_mgU (r : sR) : sK := fun L S X => kP3 S (fun v u c S => kNil S (kZ v (kSy u (fun j => kB (Nat.ble 10 j) (kFrc (Nat.sub j 10) (fun i => kB (Nat.ble i 63) (kPt c i (kGet L 3 (fun e => kI e (fun e => kB (Nat.beq e (Nat.add i 2147483648)) (kFrc (Nat.add i 221) (fun j => kFrc (Nat.add e 1) (fun e => kSl L 2 (.inr (.inr (.inl j))) (fun L => kSl L 3 (.inl e) (fun L => r 113 4 L S X))))) false)))) false)) false)) false))
def bo_113_u (r : sR) : sK := s_ilt (s_ild 2 (s_ald 0 (s_gf 6 2 (s_ild 3 (s_iga (s_ald 1 (s_gf 6 2 (s_ild 3 (s_iga (s_mgU r)))))))))) (r 113 41)
def O_sha : sO := [(36, [(9, bo_36_9)]), (117, [(13, bo_117_13)]), (113, [(9, bo_113_u)]), (57, [(53, bo_57_53)]), (35, [(0, bo_35_0)]), (142, [(0, bo_142_0)]), (157, [(81, bo_157_81)])]
end
section SH4
variable {scr : List Int32} {σ ρ : Nat → Nat} {M pc x y w : Nat} {z : Int} {k kt kf : sK}
def s_cnu (ρ : Nat → Nat) : Prop := cI (ρ 220) = 0 ∧ ∀ i, i < 64 → cI (ρ (221 + i)) = cI (ρ (220 + i)) + (if cI (ρ (10 + i)) = 0 then 0 else 1)
theorem kPt_of {v : sV} {i : Nat} {b : Bool} (h0 : cI (ρ 220) = 0) (h : kPt v i b = true) : sv σ ρ v = .int (cI (ρ (220 + i))) ∧ b = true := by
  rcases v with e | v
  · have h' : kB (Nat.beq e 2147483648) (kB (Nat.beq i 0) b false) false = true := h
    rw [kB_f, kB_f] at h'
    obtain ⟨h1, h2, h3⟩ := h'
    have := Nat.beq_eq.mp h1; subst this
    have := Nat.beq_eq.mp h2; subst this
    refine ⟨?_, h3⟩
    show Value.int (cI 2147483648) = _
    rw [cI_zero, h0]
  · have h' : kSy (.inr v) (fun j => kB (Nat.beq j (Nat.add 220 i)) b false) = true := h
    obtain ⟨j, hj, h2⟩ := (kSy_iff _ _).mp h'
    rw [kB_f] at h2
    have := Nat.beq_eq.mp h2.1
    rw [hj, this]
    exact ⟨rfl, h2.2⟩
theorem O_mgU (hn : s_cnu ρ) {r : sR} (hr : ∀ M pc, s_OK scr σ ρ (r M pc) M pc) : s_OK scr σ ρ (s_mgU r) 113 25 := by
  obtain ⟨c25, c28, c29, c32, c33, c34, c35, c38⟩ := m_c113
  intro L S F H E B CF cL cH g0 hL hF hH hE hB
  obtain ⟨v, u, c, S, rfl, g1⟩ := (kP3_iff _ _).mp g0
  rw [kNil_iff] at g1
  obtain ⟨rfl, g2⟩ := g1
  rcases (kZ_iff _ _ _).mp g2 with ⟨rfl, g3⟩ | ⟨-, g3⟩
  rotate_left
  · cases g3
  obtain ⟨j, rfl, h⟩ := (kSy_iff _ _).mp g3
  rw [kB_f, kFrc_eq, kB_f, Nat.ble_eq, Nat.ble_eq] at h
  obtain ⟨h10, h63, h⟩ := h
  obtain ⟨i, rfl⟩ : ∃ i, j = 10 + i := ⟨j - 10, by omega⟩
  have e0 : Nat.sub (10 + i) 10 = i := by show 10 + i - 10 = i; omega
  rw [e0] at h63 h
  obtain ⟨hcv, k2⟩ := kPt_of (σ := σ) hn.1 h
  obtain ⟨e, he, k3⟩ := (kGet_iff _ _ _).mp k2
  obtain ⟨e, rfl, k4⟩ := (kI_iff _ _).mp k3
  rw [kB_f, kFrc_eq, kFrc_eq] at k4
  obtain ⟨h1, k5⟩ := k4
  have he1 := Nat.beq_eq.mp h1
  obtain ⟨a1, k6, a2⟩ := kSl_of k5
  obtain ⟨a3, h, a4⟩ := kSl_of k6
  have hs := hn.2 i (by omega)
  have inc : cI e + Int32.ofInt 1 = cI (e + 1) := by
    have q := cI_inc e 1
    rw [q]
    show cI ((e + 1) % 4294967296) = _
    rw [cI_mod]
  have hv3 : sv σ ρ (v_i (Nat.add e 1)) = .int (cI (e + 1)) := rfl
  have hv2 : sv σ ρ (v_s (Nat.add i 221)) = .int (cI (ρ (221 + i))) := by show Value.int (cI (ρ (Nat.add i 221))) = _; rw [show Nat.add i 221 = 221 + i from Nat.add_comm _ _]
  have q33 : ∀ a : Int32, cI (ρ (220 + i)) + a = cI (ρ (221 + i)) → m_Rn scr CF 113 33 cL [.int a, .int (cI (ρ (220 + i)))] cH := by
    intro a ha
    refine m_R1 c33 rfl (pc' := 34) (L' := cL) (S' := [.int (cI (ρ (220 + i)) + a)]) (H' := cH) rfl (m_R1 c34 rfl (pc' := 35) (L' := m_st1 2 (.int (cI (ρ (220 + i)) + a)) cL) (S' := []) (H' := cH) rfl ?_)
    rw [ha, ← hv2]
    have hl := hL.st1 (v := v_s (Nat.add i 221)) a2
    have l3 := hl 3 (v_i e) (by rw [List.getElem?_set_ne (by decide)]; exact he) (by rintro q; cases q)
    have l3' : m_ld (m_st1 2 (sv σ ρ (v_s (Nat.add i 221))) cL) 3 = some (.int (cI e)) := l3
    refine m_R1 c35 rfl (pc' := 38) (L' := m_st1 3 (.int (cI e + Int32.ofInt 1)) (m_st1 2 (sv σ ρ (v_s (Nat.add i 221))) cL)) (S' := []) (H' := cH) (by simp only [m_ex, l3']) (m_R1 c38 rfl rfl (hr 113 4 _ [] F H E B CF _ cH h ?_ hF hH hE hB))
    rw [inc, ← hv3]
    exact hl.st1 a4
  have hst : ((v_i 2147483648) :: v_s (10 + i) :: c :: []).map (sv σ ρ) = [.int (cI 2147483648), .int (cI (ρ (10 + i))), .int (cI (ρ (220 + i)))] := by
    rw [List.map_cons, List.map_cons, List.map_cons, hcv]
    rfl
  rw [hst]
  by_cases hz : cI (ρ (10 + i)) = 0
  · refine m_R1 c25 rfl (pc' := 32) (L' := cL) (S' := [.int (cI (ρ (220 + i)))]) (H' := cH) ?_ (m_R1 c32 rfl rfl (q33 _ ?_))
    · show some (if m_cmp .eq (cI (ρ (10 + i))) (cI 2147483648) = true then 32 else 28, cL, _, cH) = _
      rw [hz, cI_zero, if_pos (by decide)]
    · rw [hs, if_pos hz]
      rfl
  · refine m_R1 c25 rfl (pc' := 28) (L' := cL) (S' := [.int (cI (ρ (220 + i)))]) (H' := cH) ?_ (m_R1 c28 rfl rfl (m_R1 c29 rfl rfl (q33 _ ?_)))
    · show some (if m_cmp .eq (cI (ρ (10 + i))) (cI 2147483648) = true then 32 else 28, cL, _, cH) = _
      rw [cI_zero, if_neg (by simp only [m_cmp, decide_eq_true_eq]; exact hz)]
    · rw [hs, if_neg hz]
      rfl
set_option maxRecDepth 100000 in
theorem bo_e9 (r : sR) : bo_113_u r = s_cmp r 113 (s_mgU r) (s_row 113 7 10) := rfl
set_option maxRecDepth 100000 in
theorem bo_e10 (r : sR) : bo_57_53 r = s_cmp r 57 (s_mgS (s_cmp r 57 s_fail (s_row 57 55 7))) (s_row 57 25 4) := rfl
set_option maxRecDepth 100000 in
theorem bo_e11 (r : sR) : bo_35_0 r = s_cmp r 35 (s_mgP 3 (s_cmp r 35 s_fail (s_row 35 13 2))) (s_row 35 0 8) := rfl
set_option maxRecDepth 100000 in
theorem bo_e12 (r : sR) : bo_142_0 r = s_mgP 0 (s_cmp r 142 s_fail (s_row 142 5 1)) := rfl
set_option maxRecDepth 100000 in
theorem bo_e13 (r : sR) : bo_157_81 r = s_cmp r 157 (s_mgT (s_cmp r 157 s_fail (s_row 157 85 1))) (s_row 157 40 19) := rfl
set_option maxRecDepth 100000 in
theorem bo_chk5 : (s_inc1 (m_prog 57) 0 && s_inc1 (m_prog 35) 0 && s_inc1 (m_prog 142) 0 && s_inc1 (m_prog 157) 0 && s_chk 57 (some 114) (s_row 57 55 7) 99 && s_chk 57 (some 63) (s_row 57 25 4) 53 && s_chk 35 (some 25) (s_row 35 13 2) 23 && s_chk 35 (some 12) (s_row 35 0 8) 0 && s_chk 142 (some 12) (s_row 142 5 1) 11 && s_chk 157 (some 156) (s_row 157 85 1) 153 && s_chk 157 (some 118) (s_row 157 40 19) 81) = true := by decide +kernel
theorem O_sha_ok (hσ : s_in σ) (hn : s_cnu ρ) (hs : s_sms ρ) (hd : s_shh ρ) : s_Oo scr σ ρ O_sha := by
  have hk := bo_chk5
  simp only [Bool.and_eq_true] at hk
  obtain ⟨⟨⟨⟨⟨⟨⟨⟨⟨⟨k57, k35⟩, k142⟩, k157⟩, a1⟩, a2⟩, a3⟩, a4⟩, a5⟩, a6⟩, a7⟩ := hk
  intro M bl h1 pc b h2 r hr
  simp only [O_sha, List.mem_cons, List.mem_nil_iff, or_false] at h1
  rcases h1 with h1 | h1 | h1 | h1 | h1 | h1 | h1 <;> cases h1 <;> simp only [List.mem_cons, List.mem_nil_iff, or_false] at h2 <;> cases h2
  · exact ov_36 hσ hs hr
  · exact ov_117 hσ hs hr
  · rw [bo_e9]
    exact s_rows_fin hσ hr bo_all.2.1 bo_all.2.2.2.2.2.1 (O_mgU hn hr)
  · rw [bo_e10]
    exact s_rows_fin hσ hr k57 a2 (O_mgS hd (s_rows_fin hσ hr k57 a1 O_fail))
  · rw [bo_e11]
    exact s_rows_fin hσ hr k35 a4 (O_mgP hd (s_rows_fin hσ hr k35 a3 O_fail))
  · rw [bo_e12]
    exact O_mgB hd (s_rows_fin hσ hr k142 a5 O_fail)
  · rw [bo_e13]
    exact s_rows_fin hσ hr k157 a7 (O_mgT hd (s_rows_fin hσ hr k157 a6 O_fail))
/-- what shade adds to the field k; the fields after it -/
def h_shd (scr : List Int32) (k : Nat) : Int32 := m_shd (scr.getD 2 0) (scr.getD 3 0) (scr.getD 4 0) (cI (2147483648 + k % 8)) (cI (2147483648 + k / 8))
def f_shd (scr : List Int32) (k : Nat) : Int32 := m_clp (h_shd scr k)
def h_sha (scr : List Int32) (i : Nat) : Int32 := if i < 70 then h_shd scr i else s_cn (f_shd scr) (i - 70)
theorem s_shh_ok : s_shh (s_ro scr (f_shd scr) (s_sm (f_shd scr)) (h_sha scr)) := by
  have e : ∀ i, i < 64 → cI (s_ro scr (f_shd scr) (s_sm (f_shd scr)) (h_sha scr) (i + 150)) = h_shd scr i := fun i hi => by
    rw [Nat.add_comm, s_ro_h]
    exact if_pos (by omega)
  refine ⟨fun i j hi hj => ?_, fun i hi => ?_⟩
  · rw [e _ (by omega), s_ro_w (j := 2) (by decide), s_ro_w (j := 3) (by decide), s_ro_w (j := 4) (by decide), rr_cI, rr_cI, rr_cI]
    unfold h_shd
    rw [show (i * 8 + j) % 8 = j by omega, show (i * 8 + j) / 8 = i by omega]
  · rw [e i hi, Nat.add_comm, s_ro_c hi]
    rfl
theorem s_cnu_ok : s_cnu (s_ro scr (f_shd scr) (s_sm (f_shd scr)) (h_sha scr)) := by
  have e : ∀ i, cI (s_ro scr (f_shd scr) (s_sm (f_shd scr)) (h_sha scr) (220 + i)) = s_cn (f_shd scr) i := fun i => by
    rw [show 220 + i = 150 + (70 + i) by omega, s_ro_h]
    unfold h_sha
    rw [if_neg (by omega), Nat.add_sub_cancel_left]
  refine ⟨e 0, fun i hi => ?_⟩
  rw [show 221 + i = 220 + (i + 1) by omega, e, e, s_ro_c hi]
  rfl
def s_rep2 (n : Nat) (a : Nat × Nat × List Nat) : sE := Nat.rec [] (fun _ ih => a :: ih) n
theorem s_rep2_at {n j : Nat} {a e : Nat × Nat × List Nat} (h : (s_rep2 n a)[j]? = some e) : e = a := by
  have q : ∀ n, ∀ e ∈ s_rep2 n a, e = a := fun n => by
    induction n with
    | zero => intro e he; cases he
    | succ n ih =>
      intro e he
      have he' : e ∈ a :: s_rep2 n a := he
      rcases List.mem_cons.mp he' with h1 | h1
      · exact h1
      · exact ih e h1
  exact q n e (List.mem_of_getElem? h)
def s_EP (e1 : Nat × Nat × List Nat) (n : Nat) : sE := s_fu :: e1 :: s_rep2 n s_fu
theorem s_eoP {f g h : Nat → Int32} {n : Nat} (h1 : s_in4 scr 1) : s_eo (s_ro scr f g h) (s_EP (2147483648, 2147483651, []) n) := by
  intro j lo hi ex he
  have hlt := s_ro_lt scr f g h j
  have fu : s_fu = (lo, hi, ex) → lo ≤ s_ro scr f g h j ∧ s_ro scr f g h j ≤ hi ∧ hi < 4294967296 ∧ ¬ s_ro scr f g h j ∈ ex := fun q => by
    cases q
    exact ⟨Nat.zero_le _, by omega, by decide, by simp⟩
  rcases j with _ | _ | j
  · exact fu (by simpa [s_EP] using he)
  · have he' : some (2147483648, 2147483651, []) = some (lo, hi, ex) := he
    cases he'
    rw [s_ro_w (by decide)]
    exact ⟨h1.1, h1.2, by decide, by simp⟩
  · have he' : (s_rep2 n s_fu)[j]? = some (lo, hi, ex) := he
    exact fu (s_rep2_at he').symm
/-- a call with blocks of its own, its sheet there: any bounds -/
theorem c_1P {pc n : Nat} {O : sO} {f g h : Nat → Int32} {E : sE} (hl : scr.length = 7) (h1 : s_in4 scr 1) (hO : ∀ σ, s_in σ → s_Oo scr σ (s_ro scr f g h) O) (hE : s_eo (s_ro scr f g h) E) (hrun : s_runO O n 244 pc s_L0 [] (s_X s_H1 E s_t0) = true) : m_Rn scr [] 244 pc m_L0 [] m_H0 := by
  have hk := ck_all
  simp only [Bool.and_eq_true] at hk
  have htb : ∀ i j : Nat, s_t0[i]? = some j → i < 7 → scr[i]? = some (cI (s_ro scr f g h j)) := by
    intro i j hj hi
    have q := s_tb0 hl i j hj hi
    have hj7 : j < 10 := by
      rcases i with _ | _ | _ | _ | _ | _ | _ | i
      · cases hj; decide
      · cases hj; decide
      · cases hj; decide
      · cases hj; decide
      · cases hj; decide
      · cases hj; decide
      · cases hj; decide
      · omega
    rw [s_ro_w hj7]
    exact q
  have pa : ∀ s, rr scr 1 = 2147483648 + s → ∀ j s' : Nat, [(1, s)].lookup j = some s' → s_ro scr f g h j = 2147483648 + s' := by
    intro s hs j s' hj
    rw [List.lookup_cons] at hj
    split at hj
    · next q =>
      have : j = 1 := by simpa using q
      subst this
      cases hj
      rw [s_ro_w (by decide)]
      exact hs
    · cases hj
  obtain ⟨a, b⟩ := id h1
  rcases (show rr scr 1 = 2147483648 + 0 ∨ rr scr 1 = 2147483648 + 1 ∨ rr scr 1 = 2147483648 + 2 ∨ rr scr 1 = 2147483648 + 3 by omega) with e | e | e | e
  · exact s_startO n hl (p := [0, 1, 2, 3]) (q := [0, 1, 2, 3]) (by decide) (hO _) (pa _ e) hk.1.1.1.2 hE htb hrun
  · exact s_startO n hl (p := [1, 0, 2, 3]) (q := [1, 0, 2, 3]) (by decide) (hO _) (pa _ e) hk.1.1.2 hE htb hrun
  · exact s_startO n hl (p := [2, 1, 0, 3]) (q := [2, 1, 0, 3]) (by decide) (hO _) (pa _ e) hk.1.2 hE htb hrun
  · exact s_startO n hl (p := [3, 1, 2, 0]) (q := [3, 1, 2, 0]) (by decide) (hO _) (pa _ e) hk.2 hE htb hrun
theorem c_sha {n1 n2 n3 : Nat} (hl : scr.length = 7) (lo : s_run n1 244 586 s_L0 [] (s_X s_H0 [s_fu, (0, 2147483647, []), s_fu, s_fu, s_fu, s_fu, s_fu] s_t0) = true) (hi : s_run n2 244 586 s_L0 [] (s_X s_H0 [s_fu, (2147483652, 4294967295, []), s_fu, s_fu, s_fu, s_fu, s_fu] s_t0) = true) (hin : s_runO O_sha n3 244 586 s_L0 [] (s_X s_H1 (s_EP (2147483648, 2147483651, []) 290) s_t0) = true) : m_Rn scr [] 244 586 m_L0 [] m_H0 :=
  c_sh hl lo hi (fun h => c_1P (f := f_shd scr) (g := s_sm (f_shd scr)) (h := h_sha scr) hl h (fun σ hσ => O_sha_ok hσ s_cnu_ok s_ro_sms s_shh_ok) (s_eoP h) hin)
set_option maxRecDepth 100000 in
theorem r_4_in : s_runO O_sha 100000000 244 586 s_L0 [] (s_X s_H1 (s_EP (2147483648, 2147483651, []) 290) s_t0) = true := by decide +kernel
end SH4
