/-! an instruction by symbols is an instruction of the data: steps, longs and doubles, the stack, branches -/
section SO2
variable {scr : List Int32} {σ ρ : Nat → Nat} {M pc x y w : Nat} {z : Int} {k kt kf : sK}
theorem v_neI {v : sV} {a : Int32} (h : sv σ ρ v = .int a) : v ≠ v_d 0 := by rintro rfl; cases h
theorem cI_inc (a : Nat) (n : Int) : cI a + Int32.ofInt n = cI ((a + (n % 4294967296).toNat) % 4294967296) := by
  rw [cI_mod]
  unfold cI
  rw [← Int32.ofInt_add, ← Int32.toInt_inj, Int32.toInt_ofInt, Int32.toInt_ofInt]
  refine m_bm ?_
  omega
theorem O_inc {j : Nat} {n : Int} (hc : m_code M pc = some (.iinc j n, x, y, w, z)) (h8 : ¬ w = 8) (hk : s_OK scr σ ρ k M (pc + 3)) : s_OK scr σ ρ (s_inc j (n % 4294967296).toNat k) M pc := by
  intro L S F H E B CF cL cH h hL hF hH hE hB
  obtain ⟨v, h1, h2⟩ := (kGet_iff _ _ _).mp h
  have fin : ∀ a E', sv σ ρ v = .int (cI a) → s_eo ρ E' → s_inc2 j (n % 4294967296).toNat k L S (F, H, E', B) a = true → m_Rn scr CF M pc cL (S.map (sv σ ρ)) cH := by
    intro a E' hv hE' h3
    unfold s_inc2 at h3
    rw [kFrc_eq] at h3
    obtain ⟨h5, h6, h7⟩ := kSl_of h3
    refine s_stp hc h8 rfl rfl ?_ (hk (L.set j (v_i _)) S F H E' B CF (m_st1 j (sv σ ρ (v_i _)) cL) cH h6 (hL.st1 h7) hF hH hE' hB)
    simp only [m_ex]
    rw [hL j v h1 (v_neI hv), hv]
    show some (pc + 3, m_st1 j (.int (cI a + Int32.ofInt n)) cL, _, cH) = some (pc + 3, m_st1 j (.int (cI ((a + (n % 4294967296).toNat) % 4294967296))) cL, _, cH)
    rw [cI_inc]
  rcases v with a | v
  · exact fin a E rfl hE h2
  · have h2' : kX (F, H, E, B) (fun F H E B => kRes (.inr v) E (fun a E => s_inc2 j (n % 4294967296).toNat k L S (F, H, E, B) a)) = true := h2
    rw [kX_eq] at h2'
    obtain ⟨a, E', hv, -, hE', h3⟩ := kRes_of (σ := σ) h2' hE
    exact fin a E' hv hE' h3
/-- one number off the stack -/
theorem O_un {f : Nat → sK → sK} (hf : ∀ a L F H E B S CF cL cH, a < 4294967296 → f a k L S (F, H, E, B) = true → s_lo σ ρ L cL → s_fr σ ρ F CF → s_ho σ ρ H cH → s_eo ρ E → s_bo scr σ ρ B cH → m_Rn scr CF M pc cL (.int (cI a) :: S.map (sv σ ρ)) cH) : s_OK scr σ ρ (s_un f k) M pc := by
  intro L S F H E B CF cL cH h hL hF hH hE hB
  obtain ⟨v, S, rfl, h2⟩ := (kPop_iff _ _).mp h
  rw [kX_eq] at h2
  obtain ⟨a, E', hv, ha, hE', h3⟩ := kRes_of (σ := σ) h2 hE
  simp only [List.map_cons, hv]
  exact hf a L F H E' B S CF cL cH ha h3 hL hF hH hE' hB
theorem m_bm64 {x y : Int} (h : x % 18446744073709551616 = y % 18446744073709551616) : x.bmod Int64.size = y.bmod Int64.size := by
  rw [← Int.emod_bmod (x := x), ← Int.emod_bmod (x := y)]
  show Int.bmod (x % 18446744073709551616) _ = Int.bmod (y % 18446744073709551616) _
  rw [h]
theorem cL_of (a : Nat) : Int64.ofNat a = Int64.ofInt a := by
  rw [← Int64.toInt_inj, Int64.toInt_ofNat', Int64.toInt_ofInt]
theorem cL_eq {x y : Int} (h : x % 18446744073709551616 = y % 18446744073709551616) : Int64.ofInt x = Int64.ofInt y := by
  rw [← Int64.toInt_inj, Int64.toInt_ofInt, Int64.toInt_ofInt]
  exact m_bm64 h
theorem cI_long {a : Nat} (h : a < 4294967296) : (cI a).toInt64 = Int64.ofNat ((a + 18446744071562067968) % 18446744073709551616) := by
  have e : (cI a).toInt64 = Int64.ofInt ((a : Int) - 2147483648) := by
    rw [← Int64.toInt_inj, Int32.toInt_toInt64, cI_toInt h, Int64.toInt_ofInt_of_le (by omega) (by omega)]
  rw [e, cL_of]
  exact cL_eq (by omega)
theorem O_i2l (hc : m_code M pc = some (.i2l, x, y, w, z)) (h8 : ¬ w = 8) (hk : s_OK scr σ ρ k M (pc + 1)) : s_OK scr σ ρ (s_i2l k) M pc := by
  intro L S F H E B CF cL cH h hL hF hH hE hB
  obtain ⟨v, S, rfl, h2⟩ := (kPop_iff _ _).mp h
  rw [kX_eq] at h2
  have num : ∀ (a : Nat) (E : sE), a < 4294967296 → sv σ ρ v = .int (cI a) → s_eo ρ E → s_i2l3 a k L S (F, H, E, B) = true → m_Rn scr CF M pc cL ((v :: S).map (sv σ ρ)) cH := by
    intro a E ha hv hE h
    unfold s_i2l3 at h
    rw [kFrc_eq] at h
    refine s_stp hc h8 rfl rfl ?_ (hk L (v_l _ :: S) F H E B CF cL cH h hL hF hH hE hB)
    rw [List.map_cons, List.map_cons, hv, sv_ln (l := Nat.mod (Nat.add a 18446744071562067968) 18446744073709551616) (Nat.mod_lt _ (by decide))]
    show some (pc + 1, cL, Value.long (cI a).toInt64 :: _, cH) = _
    rw [cI_long ha]; rfl
  obtain ⟨e, hv, he, h3⟩ := kNm_of (σ := σ) h2 hE
  rcases h3 with h3 | ⟨j, lo, hi, ex, rfl, rfl, -, -, -, -, h3⟩
  · exact num e E he hv hE h3
  · rw [kB_iff] at h3
    rcases h3 with ⟨-, h3⟩ | ⟨-, h3⟩
    · obtain ⟨a, E', ha1, ha2, ha3, ha4⟩ := kRes_of (σ := σ) h3 hE
      exact num a E' ha2 ha1 ha3 ha4
    · rw [kFrc_eq] at h3
      obtain ⟨l, hl⟩ : ∃ l, l = Nat.add j 18446744073709551616 := ⟨_, rfl⟩
      rw [← hl] at h3
      refine s_stp hc h8 rfl rfl ?_ (hk L (v_l l :: S) F H E B CF cL cH h3 hL hF hH hE hB)
      rw [List.map_cons, List.map_cons, hv, sv_ls (j := j) hl]
      rfl
theorem O_i2d (hc : m_code M pc = some (.i2d, x, y, w, z)) (h8 : ¬ w = 8) (hk : s_OK scr σ ρ k M (pc + 1)) : s_OK scr σ ρ (s_i2d k) M pc :=
  O_un (fun a L F H E B S CF cL cH ha h hL hF hH hE hB => by
    unfold s_i2d3 at h
    rw [kFrc_eq] at h
    refine s_stp hc h8 rfl rfl ?_ (hk L (v_d ((FP.i2d (cI a)).toNat + 1) :: S) F H E B CF cL cH h hL hF hH hE hB)
    show some (pc + 1, cL, Value.double (FP.i2d (cI a)) :: _, cH) = some (pc + 1, cL, Value.double (UInt64.ofNat (FP.i2d (cI a)).toNat) :: _, cH)
    rw [UInt64.ofNat_toNat])
theorem O_lbin {f : Nat → Nat → Nat} {i : Instr} {g : Int64 → Int64 → Int64} (hc : m_code M pc = some (i, x, y, w, z)) (h8 : ¬ w = 8) (hi : m_inv i = false) (hr : ∀ S, m_rts i S = none) (hex : ∀ cL S cH, m_ex scr M pc i x y w z cL S cH = m_l2 g pc cL S cH)
    (hf : ∀ a b, g (Int64.ofNat a) (Int64.ofNat b) = Int64.ofNat (f a b % 18446744073709551616)) (hk : s_OK scr σ ρ k M (pc + 1)) : s_OK scr σ ρ (s_lbin f k) M pc := by
  intro L S F H E B CF cL cH h hL hF hH hE hB
  obtain ⟨v, u, S, rfl, h2⟩ := (kPp_iff _ _).mp h
  obtain ⟨a, rfl, ha, h3⟩ := (kLn_iff _ _).mp h2
  obtain ⟨b, rfl, hb, h4⟩ := (kLn_iff _ _).mp h3
  rw [kFrc_eq] at h4
  refine s_stp hc h8 hi (hr _) ?_ (hk L (v_l _ :: S) F H E B CF cL cH h4 hL hF hH hE hB)
  rw [hex, List.map_cons, List.map_cons, List.map_cons, sv_ln ha, sv_ln hb, sv_ln (l := Nat.mod (f a b) 18446744073709551616) (Nat.mod_lt _ (by decide))]
  show some (pc + 1, cL, Value.long (g (Int64.ofNat a) (Int64.ofNat b)) :: _, cH) = _
  rw [hf]; rfl
theorem O_ladd (hc : m_code M pc = some (.ladd, x, y, w, z)) (h8 : ¬ w = 8) (hk : s_OK scr σ ρ k M (pc + 1)) : s_OK scr σ ρ (s_ladd k) M pc :=
  O_lbin hc h8 rfl (fun _ => rfl) (fun _ _ _ => rfl) (fun a b => by
    show Int64.ofNat a + Int64.ofNat b = _
    rw [cL_of, cL_of, cL_of, ← Int64.ofInt_add]
    refine cL_eq ?_
    show ((a : Int) + b) % _ = ((((a + b : Nat) % 18446744073709551616 : Nat)) : Int) % _
    omega) hk
theorem O_lsub (hc : m_code M pc = some (.lsub, x, y, w, z)) (h8 : ¬ w = 8) (hk : s_OK scr σ ρ k M (pc + 1)) : s_OK scr σ ρ (s_lsub k) M pc :=
  O_lbin hc h8 rfl (fun _ => rfl) (fun _ _ _ => rfl) (fun a b => by
    show Int64.ofNat a - Int64.ofNat b = _
    rw [cL_of, cL_of, cL_of, ← Int64.ofInt_sub]
    refine cL_eq ?_
    show ((a : Int) - b) % _ = (((a + 18446744073709551616 - b % 18446744073709551616) % 18446744073709551616 : Nat) : Int) % _
    omega) hk
theorem O_lmul (hc : m_code M pc = some (.lmul, x, y, w, z)) (h8 : ¬ w = 8) (hk : s_OK scr σ ρ k M (pc + 1)) : s_OK scr σ ρ (s_lmul k) M pc :=
  O_lbin hc h8 rfl (fun _ => rfl) (fun _ _ _ => rfl) (fun a b => by
    show Int64.ofNat a * Int64.ofNat b = _
    rw [cL_of, cL_of, cL_of, ← Int64.ofInt_mul]
    refine cL_eq ?_
    show ((a : Int) * b) % _ = (((a * b : Nat) % 18446744073709551616 : Nat) : Int) % _
    rw [← Int.natCast_mul]
    omega) hk
theorem cL_toInt (a : Nat) : (Int64.ofNat a).toInt = (((a + 9223372036854775808) % 18446744073709551616 : Nat) : Int) - 9223372036854775808 := by
  have e : Int64.ofNat a = Int64.ofInt ((((a + 9223372036854775808) % 18446744073709551616 : Nat) : Int) - 9223372036854775808) := by
    rw [cL_of]
    exact cL_eq (by omega)
  rw [e, Int64.toInt_ofInt_of_le (by omega) (by omega)]
theorem O_lcm (hc : m_code M pc = some (.lcmp, x, y, w, z)) (h8 : ¬ w = 8) (hk : s_OK scr σ ρ k M (pc + 1)) : s_OK scr σ ρ (s_lcm k) M pc := by
  intro L S F H E B CF cL cH h hL hF hH hE hB
  obtain ⟨v, u, S, rfl, h2⟩ := (kPp_iff _ _).mp h
  obtain ⟨a, rfl, h3⟩ := (kLo_iff _ _).mp h2
  obtain ⟨b, rfl, h4⟩ := (kLo_iff _ _).mp h3
  rw [kB_iff] at h4
  rcases h4 with ⟨h5, h4⟩ | ⟨h5, h4⟩
  · rw [kB_f] at h4
    have := Nat.beq_eq.mp h4.1; subst this
    refine s_stp hc h8 rfl rfl ?_ (hk L (v_i 2147483648 :: S) F H E B CF cL cH h4.2 hL hF hH hE hB)
    obtain ⟨x, hx⟩ := sv_l (σ := σ) (ρ := ρ) a
    rw [List.map_cons, List.map_cons, hx]
    show some (pc + 1, cL, Value.int (lg_cmp x x) :: _, cH) = _
    unfold lg_cmp
    rw [if_neg (by rw [gt_iff_lt, Int64.lt_iff_toInt_lt]; omega), if_pos rfl]
    rfl
  have ha : a < 18446744073709551616 := by
    apply Nat.lt_of_not_le
    intro q
    rw [Nat.ble_eq.mpr q] at h5
    cases h5
  rw [kB_f, Nat.ble_eq] at h4
  obtain ⟨hb, h4⟩ := h4
  have hb : b < 18446744073709551616 := by omega
  unfold s_lcmN at h4
  rw [kFrc_eq, kFrc_eq, kB_iff, kB_iff] at h4
  rw [List.map_cons, List.map_cons, sv_ln ha, sv_ln hb]
  have ea := cL_toInt a
  have eb := cL_toInt b
  rcases h4 with ⟨h5, h4⟩ | ⟨h5, ⟨h6, h4⟩ | ⟨h6, h4⟩⟩
  · have h5' : (a + 9223372036854775808) % 18446744073709551616 = (b + 9223372036854775808) % 18446744073709551616 := Nat.beq_eq.mp h5
    refine s_stp hc h8 rfl rfl ?_ (hk L (v_i 2147483648 :: S) F H E B CF cL cH h4 hL hF hH hE hB)
    show some (pc + 1, cL, Value.int (lg_cmp (Int64.ofNat a) (Int64.ofNat b)) :: _, cH) = _
    have e : Int64.ofNat a = Int64.ofNat b := by rw [← Int64.toInt_inj, ea, eb, h5']
    rw [e]
    unfold lg_cmp
    rw [if_neg (by intro q; rw [gt_iff_lt, Int64.lt_iff_toInt_lt] at q; omega), if_pos rfl]
    rfl
  · have h5' : ¬ (a + 9223372036854775808) % 18446744073709551616 = (b + 9223372036854775808) % 18446744073709551616 := fun q => by rw [show Nat.beq (Nat.mod (Nat.add a 9223372036854775808) 18446744073709551616) (Nat.mod (Nat.add b 9223372036854775808) 18446744073709551616) = true from Nat.beq_eq.mpr q] at h5; cases h5
    have h6' : (a + 9223372036854775808) % 18446744073709551616 ≤ (b + 9223372036854775808) % 18446744073709551616 := Nat.ble_eq.mp h6
    refine s_stp hc h8 rfl rfl ?_ (hk L (v_i 2147483647 :: S) F H E B CF cL cH h4 hL hF hH hE hB)
    show some (pc + 1, cL, Value.int (lg_cmp (Int64.ofNat a) (Int64.ofNat b)) :: _, cH) = _
    unfold lg_cmp
    rw [if_neg (by intro q; rw [gt_iff_lt, Int64.lt_iff_toInt_lt] at q; omega), if_neg (by intro q; rw [← Int64.toInt_inj] at q; omega)]
    rfl
  · have h6' : ¬ (a + 9223372036854775808) % 18446744073709551616 ≤ (b + 9223372036854775808) % 18446744073709551616 := fun q => by rw [show Nat.ble (Nat.mod (Nat.add a 9223372036854775808) 18446744073709551616) (Nat.mod (Nat.add b 9223372036854775808) 18446744073709551616) = true from Nat.ble_eq.mpr q] at h6; cases h6
    refine s_stp hc h8 rfl rfl ?_ (hk L (v_i 2147483649 :: S) F H E B CF cL cH h4 hL hF hH hE hB)
    show some (pc + 1, cL, Value.int (lg_cmp (Int64.ofNat a) (Int64.ofNat b)) :: _, cH) = _
    unfold lg_cmp
    rw [if_pos (by rw [gt_iff_lt, Int64.lt_iff_toInt_lt]; omega)]
    rfl
theorem O_ddv (hc : m_code M pc = some (.ddiv, x, y, w, z)) (h8 : ¬ w = 8) (hk : s_OK scr σ ρ k M (pc + 1)) : s_OK scr σ ρ (s_ddv k) M pc := by
  intro L S F H E B CF cL cH h hL hF hH hE hB
  obtain ⟨v, u, S, rfl, h2⟩ := (kPp_iff _ _).mp h
  obtain ⟨a, rfl, h3⟩ := (kDo_iff _ _).mp h2
  obtain ⟨b, rfl, h4⟩ := (kDo_iff _ _).mp h3
  rw [kB_f, kFrc_eq, decide_eq_true_eq] at h4
  obtain ⟨h4, h5⟩ := h4
  refine s_stp hc h8 rfl rfl ?_ (hk L (v_d ((FP.ddiv (UInt64.ofNat a) (UInt64.ofNat b)).toNat + 1) :: S) F H E B CF cL cH h5 hL hF hH hE hB)
  simp only [m_ex, List.map_cons, sv]
  rw [if_pos h4, UInt64.ofNat_toNat]
theorem O_dcm {op : CmpOp} (hc : m_code M pc = some (.dcmp op, x, y, w, z)) (h8 : ¬ w = 8) (hk : s_OK scr σ ρ k M (pc + 1)) : s_OK scr σ ρ (s_dcm op k) M pc := by
  intro L S F H E B CF cL cH h hL hF hH hE hB
  obtain ⟨v, u, S, rfl, h2⟩ := (kPp_iff _ _).mp h
  obtain ⟨a, rfl, h3⟩ := (kDo_iff _ _).mp h2
  obtain ⟨b, rfl, h4⟩ := (kDo_iff _ _).mp h3
  rw [kB_f, decide_eq_true_eq] at h4
  obtain ⟨h4, h5⟩ := h4
  refine s_stp hc h8 rfl rfl ?_ (hk L (v_i 2147483648 :: S) F H E B CF cL cH h5 hL hF hH hE hB)
  simp only [m_ex, List.map_cons, sv]
  rw [h4, cI_zero]
theorem O_dup (hc : m_code M pc = some (.dup, x, y, w, z)) (h8 : ¬ w = 8) (hk : s_OK scr σ ρ k M (pc + 1)) : s_OK scr σ ρ (s_dup k) M pc := by
  intro L S F H E B CF cL cH h hL hF hH hE hB
  obtain ⟨v, S, rfl, h2⟩ := (kPop_iff _ _).mp h
  rw [kTw_f] at h2
  refine s_stp hc h8 rfl rfl ?_ (hk L (v :: v :: S) F H E B CF cL cH h2.2 hL hF hH hE hB)
  simp only [m_ex, List.map_cons, sv_cat1 h2.1, if_true]
theorem O_du2 (hc : m_code M pc = some (.dup2, x, y, w, z)) (h8 : ¬ w = 8) (hk : s_OK scr σ ρ k M (pc + 1)) : s_OK scr σ ρ (s_du2 k) M pc := by
  intro L S F H E B CF cL cH h hL hF hH hE hB
  obtain ⟨v, u, S, rfl, h2⟩ := (kPp_iff _ _).mp h
  rw [kTw_f, kTw_f] at h2
  refine s_stp hc h8 rfl rfl ?_ (hk L (v :: u :: v :: u :: S) F H E B CF cL cH h2.2.2 hL hF hH hE hB)
  simp only [m_ex, List.map_cons, sv_cat1 h2.1, sv_cat1 h2.2.1, and_self, if_true]
theorem O_dx1 (hc : m_code M pc = some (.dup_x1, x, y, w, z)) (h8 : ¬ w = 8) (hk : s_OK scr σ ρ k M (pc + 1)) : s_OK scr σ ρ (s_dx1 k) M pc := by
  intro L S F H E B CF cL cH h hL hF hH hE hB
  obtain ⟨v, u, S, rfl, h2⟩ := (kPp_iff _ _).mp h
  rw [kTw_f, kTw_f] at h2
  refine s_stp hc h8 rfl rfl ?_ (hk L (v :: u :: v :: S) F H E B CF cL cH h2.2.2 hL hF hH hE hB)
  simp only [m_ex, List.map_cons, sv_cat1 h2.1, sv_cat1 h2.2.1, and_self, if_true]
theorem O_pop (hc : m_code M pc = some (.pop, x, y, w, z)) (h8 : ¬ w = 8) (hk : s_OK scr σ ρ k M (pc + 1)) : s_OK scr σ ρ (s_pop k) M pc := by
  intro L S F H E B CF cL cH h hL hF hH hE hB
  obtain ⟨v, S, rfl, h2⟩ := (kPop_iff _ _).mp h
  rw [kTw_f] at h2
  refine s_stp hc h8 rfl rfl ?_ (hk L S F H E B CF cL cH h2.2 hL hF hH hE hB)
  simp only [m_ex, List.map_cons, sv_cat1 h2.1, if_true]
/-! branches -/
def s_hh (ρ : Nat → Nat) (σ : Nat → Nat) (P : Nat → Nat → Prop) (h : sV → sV → sE → (sE → Bool) → (sE → Bool) → Bool) : Prop := ∀ u v E kt kf, h u v E kt kf = true → s_eo ρ E → ∃ a b, sv σ ρ u = .int (cI a) ∧ sv σ ρ v = .int (cI b) ∧ a < 4294967296 ∧ b < 4294967296 ∧ s_cO ρ (P a b) kt kf
theorem s_cm2_of {g : Nat → Nat → Bool} {h : sV → sV → sE → (sE → Bool) → (sE → Bool) → Bool} {P : Nat → Nat → Prop} (hg : ∀ a b, g a b = true ↔ P a b) (hh : s_hh ρ σ P h) {L : List sV} {F : List sF} {H : sH} {E : sE} {B : sB} {v u : sV} {S : List sV} (hr : s_cm2 g h kt kf L (F, H, E, B) v u S = true) (hE : s_eo ρ E) :
    ∃ a b E', sv σ ρ u = .int (cI a) ∧ sv σ ρ v = .int (cI b) ∧ a < 4294967296 ∧ b < 4294967296 ∧ s_eo ρ E' ∧ ((P a b ∧ kt L S (F, H, E', B) = true) ∨ (¬ P a b ∧ kf L S (F, H, E', B) = true)) := by
  have slow : kX (F, H, E, B) (fun F H E B => h u v E (fun E => kt L S (F, H, E, B)) (fun E => kf L S (F, H, E, B))) = true → ∃ a b E', sv σ ρ u = .int (cI a) ∧ sv σ ρ v = .int (cI b) ∧ a < 4294967296 ∧ b < 4294967296 ∧ s_eo ρ E' ∧ ((P a b ∧ kt L S (F, H, E', B) = true) ∨ (¬ P a b ∧ kf L S (F, H, E', B) = true)) := by
    intro q
    rw [kX_eq] at q
    obtain ⟨a, b, h1, h2, h3, h4, h5⟩ := hh _ _ _ _ _ q hE
    rcases h5 with ⟨h5, E', h6, h7⟩ | ⟨h5, E', h6, h7⟩
    · exact ⟨a, b, E', h1, h2, h3, h4, h6, Or.inl ⟨h5, h7⟩⟩
    · exact ⟨a, b, E', h1, h2, h3, h4, h6, Or.inr ⟨h5, h7⟩⟩
  rcases v with b | v
  · rcases u with a | u
    · have q : kB (Nat.ble a 4294967295) (kB (Nat.ble b 4294967295) (kB (g a b) (kt L S (F, H, E, B)) (kf L S (F, H, E, B))) false) false = true := hr
      rw [kB_f, kB_f, Nat.ble_eq, Nat.ble_eq, kB_iff] at q
      obtain ⟨h1, h2, h3⟩ := q
      refine ⟨a, b, E, rfl, rfl, by omega, by omega, hE, ?_⟩
      rcases h3 with ⟨h3, h4⟩ | ⟨h3, h4⟩
      · exact Or.inl ⟨(hg a b).mp h3, h4⟩
      · exact Or.inr ⟨(fun q => by rw [(hg a b).mpr q] at h3; cases h3), h4⟩
    · exact slow hr
  · exact slow hr
theorem O_ic {g : Nat → Nat → Bool} {h : sV → sV → sE → (sE → Bool) → (sE → Bool) → Bool} {P : Nat → Nat → Prop} {c : ClassFile.Cond} {off : Int} {pt pf : Nat} (hc : m_code M pc = some (.if_icmp c off, x, y, w, z)) (h8 : ¬ w = 8) (hg : ∀ a b, g a b = true ↔ P a b) (hh : s_hh ρ σ P h)
    (hpt : ∀ a b, a < 4294967296 → b < 4294967296 → P a b → (if m_cmp c (cI a) (cI b) = true then x else pc + 3) = pt) (hpf : ∀ a b, a < 4294967296 → b < 4294967296 → ¬ P a b → (if m_cmp c (cI a) (cI b) = true then x else pc + 3) = pf) (hkt : s_OK scr σ ρ kt M pt) (hkf : s_OK scr σ ρ kf M pf) : s_OK scr σ ρ (fun L S X => kPp S (fun v u S => s_cm2 g h kt kf L X v u S)) M pc := by
  intro L S F H E B CF cL cH hr hL hF hH hE hB
  obtain ⟨v, u, S, rfl, h2⟩ := (kPp_iff _ _).mp hr
  obtain ⟨a, b, E', h1, h2, h3, h4, h5, h6⟩ := s_cm2_of hg hh h2 hE
  rcases h6 with ⟨h6, h7⟩ | ⟨h6, h7⟩
  · refine s_stp hc h8 rfl rfl ?_ (hkt L S F H E' B CF cL cH h7 hL hF hH h5 hB)
    simp only [m_ex, List.map_cons, h1, h2]
    rw [hpt a b h3 h4 h6]
  · refine s_stp hc h8 rfl rfl ?_ (hkf L S F H E' B CF cL cH h7 hL hF hH h5 hB)
    simp only [m_ex, List.map_cons, h1, h2]
    rw [hpf a b h3 h4 h6]
theorem O_zc {g : Nat → Nat → Bool} {h : sV → sV → sE → (sE → Bool) → (sE → Bool) → Bool} {P : Nat → Nat → Prop} {c : ClassFile.Cond} {off : Int} {pt pf : Nat} (hc : m_code M pc = some (.ifCond c off, x, y, w, z)) (h8 : ¬ w = 8) (hg : ∀ a b, g a b = true ↔ P a b) (hh : s_hh ρ σ P h)
    (hpt : ∀ a b, a < 4294967296 → b < 4294967296 → P a b → (if m_cmp c (cI a) (cI b) = true then x else pc + 3) = pt) (hpf : ∀ a b, a < 4294967296 → b < 4294967296 → ¬ P a b → (if m_cmp c (cI a) (cI b) = true then x else pc + 3) = pf) (hkt : s_OK scr σ ρ kt M pt) (hkf : s_OK scr σ ρ kf M pf) : s_OK scr σ ρ (fun L S X => kPop S (fun u S => s_cm2 g h kt kf L X (.inl 2147483648) u S)) M pc := by
  intro L S F H E B CF cL cH hr hL hF hH hE hB
  obtain ⟨u, S, rfl, h2⟩ := (kPop_iff _ _).mp hr
  obtain ⟨a, b, E', h1, h2, h3, h4, h5, h6⟩ := s_cm2_of hg hh h2 hE
  have h2' : cI b = 0 := by
    rw [← cI_zero]
    have : Value.int (cI 2147483648) = Value.int (cI b) := h2
    injection this with q
    exact q.symm
  rcases h6 with ⟨h6, h7⟩ | ⟨h6, h7⟩
  · refine s_stp hc h8 rfl rfl ?_ (hkt L S F H E' B CF cL cH h7 hL hF hH h5 hB)
    simp only [m_ex, List.map_cons, h1]
    rw [← h2', hpt a b h3 h4 h6]
  · refine s_stp hc h8 rfl rfl ?_ (hkf L S F H E' B CF cL cH h7 hL hF hH h5 hB)
    simp only [m_ex, List.map_cons, h1]
    rw [← h2', hpf a b h3 h4 h6]
theorem hh_lt : s_hh ρ σ (fun a b => a < b) kLt := fun _ _ _ _ _ h hE => kLt_of h hE
theorem hh_le : s_hh ρ σ (fun a b => a ≤ b) kLe := fun _ _ _ _ _ h hE => kLe_of h hE
theorem hh_eq : s_hh ρ σ (fun a b => a = b) kEq := fun _ _ _ _ _ h hE => kEq_of h hE
theorem hg_lt (a b : Nat) : s_ltg a b = true ↔ a < b := by unfold s_ltg; rw [Nat.ble_eq]; exact Iff.rfl
theorem hg_le (a b : Nat) : Nat.ble a b = true ↔ a ≤ b := by rw [Nat.ble_eq]
theorem hg_eq (a b : Nat) : Nat.beq a b = true ↔ a = b := by rw [Nat.beq_eq]
/-- where a comparison leads -/
theorem hp_eq {a b : Nat} (ha : a < 4294967296) (hb : b < 4294967296) : m_cmp .eq (cI a) (cI b) = decide (a = b) := by simp only [m_cmp, cI_inj ha hb]
theorem hp_ne {a b : Nat} (ha : a < 4294967296) (hb : b < 4294967296) : m_cmp .ne (cI a) (cI b) = decide (¬ a = b) := by simp only [m_cmp, cI_inj ha hb]
theorem hp_lt {a b : Nat} (ha : a < 4294967296) (hb : b < 4294967296) : m_cmp .lt (cI a) (cI b) = decide (a < b) := by simp only [m_cmp, cI_lt ha hb]
theorem hp_ge {a b : Nat} (ha : a < 4294967296) (hb : b < 4294967296) : m_cmp .ge (cI a) (cI b) = decide (b ≤ a) := by simp only [m_cmp, cI_le hb ha]
theorem hp_gt {a b : Nat} (ha : a < 4294967296) (hb : b < 4294967296) : m_cmp .gt (cI a) (cI b) = decide (b < a) := by simp only [m_cmp, cI_lt hb ha]
theorem hp_le {a b : Nat} (ha : a < 4294967296) (hb : b < 4294967296) : m_cmp .le (cI a) (cI b) = decide (a ≤ b) := by simp only [m_cmp, cI_le ha hb]
noncomputable def s_icc (c : ClassFile.Cond) (kx kn : sK) : sK := match c with
  | .eq => s_ieq kx kn
  | .ne => s_ieq kn kx
  | .lt => s_ilt kx kn
  | .ge => s_ilt kn kx
  | .gt => s_ile kn kx
  | .le => s_ile kx kn
noncomputable def s_zcc (c : ClassFile.Cond) (kx kn : sK) : sK := match c with
  | .eq => s_zeq kx kn
  | .ne => s_zeq kn kx
  | .lt => s_zlt kx kn
  | .ge => s_zlt kn kx
  | .gt => s_zle kn kx
  | .le => s_zle kx kn
theorem O_icc {c : ClassFile.Cond} {off : Int} (hc : m_code M pc = some (.if_icmp c off, x, y, w, z)) (h8 : ¬ w = 8) (hkx : s_OK scr σ ρ kt M x) (hkn : s_OK scr σ ρ kf M (pc + 3)) : s_OK scr σ ρ (s_icc c kt kf) M pc := by
  cases c
  · exact O_ic hc h8 hg_eq hh_eq (fun a b ha hb h => by rw [hp_eq ha hb, if_pos (decide_eq_true h)]) (fun a b ha hb h => by rw [hp_eq ha hb, if_neg (by simpa using h)]) hkx hkn
  · exact O_ic hc h8 hg_eq hh_eq (fun a b ha hb h => by rw [hp_ne ha hb, if_neg (by simpa using h)]) (fun a b ha hb h => by rw [hp_ne ha hb, if_pos (by simpa using h)]) hkn hkx
  · exact O_ic hc h8 hg_lt hh_lt (fun a b ha hb h => by rw [hp_lt ha hb, if_pos (decide_eq_true h)]) (fun a b ha hb h => by rw [hp_lt ha hb, if_neg (by simpa using h)]) hkx hkn
  · exact O_ic hc h8 hg_lt hh_lt (fun a b ha hb h => by rw [hp_ge ha hb, if_neg (by simp; omega)]) (fun a b ha hb h => by rw [hp_ge ha hb, if_pos (by simp; omega)]) hkn hkx
  · exact O_ic hc h8 hg_le hh_le (fun a b ha hb h => by rw [hp_gt ha hb, if_neg (by simp; omega)]) (fun a b ha hb h => by rw [hp_gt ha hb, if_pos (by simp; omega)]) hkn hkx
  · exact O_ic hc h8 hg_le hh_le (fun a b ha hb h => by rw [hp_le ha hb, if_pos (decide_eq_true h)]) (fun a b ha hb h => by rw [hp_le ha hb, if_neg (by simpa using h)]) hkx hkn
theorem O_zcc {c : ClassFile.Cond} {off : Int} (hc : m_code M pc = some (.ifCond c off, x, y, w, z)) (h8 : ¬ w = 8) (hkx : s_OK scr σ ρ kt M x) (hkn : s_OK scr σ ρ kf M (pc + 3)) : s_OK scr σ ρ (s_zcc c kt kf) M pc := by
  cases c
  · exact O_zc hc h8 hg_eq hh_eq (fun a b ha hb h => by rw [hp_eq ha hb, if_pos (decide_eq_true h)]) (fun a b ha hb h => by rw [hp_eq ha hb, if_neg (by simpa using h)]) hkx hkn
  · exact O_zc hc h8 hg_eq hh_eq (fun a b ha hb h => by rw [hp_ne ha hb, if_neg (by simpa using h)]) (fun a b ha hb h => by rw [hp_ne ha hb, if_pos (by simpa using h)]) hkn hkx
  · exact O_zc hc h8 hg_lt hh_lt (fun a b ha hb h => by rw [hp_lt ha hb, if_pos (decide_eq_true h)]) (fun a b ha hb h => by rw [hp_lt ha hb, if_neg (by simpa using h)]) hkx hkn
  · exact O_zc hc h8 hg_lt hh_lt (fun a b ha hb h => by rw [hp_ge ha hb, if_neg (by simp; omega)]) (fun a b ha hb h => by rw [hp_ge ha hb, if_pos (by simp; omega)]) hkn hkx
  · exact O_zc hc h8 hg_le hh_le (fun a b ha hb h => by rw [hp_gt ha hb, if_neg (by simp; omega)]) (fun a b ha hb h => by rw [hp_gt ha hb, if_pos (by simp; omega)]) hkn hkx
  · exact O_zc hc h8 hg_le hh_le (fun a b ha hb h => by rw [hp_le ha hb, if_pos (decide_eq_true h)]) (fun a b ha hb h => by rw [hp_le ha hb, if_neg (by simpa using h)]) hkx hkn
theorem O_ifa {c : ACond} {off : Int} (hc : m_code M pc = some (.if_acmp c off, x, y, w, z)) (h8 : ¬ w = 8) (hk : s_OK scr σ ρ k M (if c = .eq then x else pc + 3)) : s_OK scr σ ρ (s_ifa k) M pc := by
  intro L S F H E B CF cL cH h hL hF hH hE hB
  obtain ⟨v, u, S, rfl, h2⟩ := (kPp_iff _ _).mp h
  have key : v_isA u ∧ u = v ∧ k L S (F, H, E, B) = true := by
    rcases (kA_iff _ _ _).mp h2 with ⟨a, rfl, h3⟩ | ⟨a, rfl, h3⟩
    · rcases (kA_iff _ _ _).mp h3 with ⟨b, rfl, h4⟩ | ⟨b, rfl, h4⟩
      · rw [kB_f] at h4
        have := Nat.beq_eq.mp h4.1; subst this
        exact ⟨Or.inl ⟨_, rfl⟩, rfl, h4.2⟩
      · cases h4
    · rcases (kA_iff _ _ _).mp h3 with ⟨b, rfl, h4⟩ | ⟨b, rfl, h4⟩
      · cases h4
      · rw [kB_f] at h4
        have := Nat.beq_eq.mp h4.1; subst this
        exact ⟨Or.inr ⟨_, rfl⟩, rfl, h4.2⟩
  obtain ⟨h3, rfl, h5⟩ := key
  obtain ⟨e, he⟩ := sv_isA (σ := σ) (ρ := ρ) h3
  refine s_stp hc h8 rfl rfl ?_ (hk L S F H E B CF cL cH h5 hL hF hH hE hB)
  simp only [m_ex, List.map_cons, he, if_true]
theorem O_goto {off : Int} (hc : m_code M pc = some (.goto off, x, y, w, z)) (h8 : ¬ w = 8) (hk : s_OK scr σ ρ k M x) : s_OK scr σ ρ k M pc := by
  intro L S F H E B CF cL cH h hL hF hH hE hB
  exact s_stp hc h8 rfl rfl rfl (hk L S F H E B CF cL cH h hL hF hH hE hB)
theorem s_tg_of {pc t : Nat} {off : Int} (h : s_tg pc off = some t) {L : mL} {S : List Value} {H : List mC} : m_jmp pc off L S H = some (t, L, S, H) := by
  unfold s_tg at h
  unfold m_jmp
  split at h
  · next q => rw [if_pos q]; cases h; rfl
  · cases h
theorem mapM_of {α β : Type} {f : α → Option β} : ∀ {l : List α} {ts : List β}, l.mapM f = some ts → ts.length = l.length ∧ ∀ (i : Nat) (t : β), ts[i]? = some t → ∃ a, l[i]? = some a ∧ f a = some t
  | [], ts, h => by
    have : ts = [] := by simpa using h.symm
    subst this
    exact ⟨rfl, fun i t q => by cases q⟩
  | a :: l, ts, h => by
    rw [List.mapM_cons] at h
    cases hf : f a with
    | none => rw [hf] at h; cases h
    | some b =>
      rw [hf] at h
      cases hm : l.mapM f with
      | none => rw [hm] at h; cases h
      | some us =>
        rw [hm] at h
        have : ts = b :: us := by cases h; rfl
        subst this
        obtain ⟨h1, h2⟩ := mapM_of hm
        refine ⟨by simp [h1], fun i t q => ?_⟩
        cases i with
        | zero => cases q; exact ⟨a, rfl, hf⟩
        | succ i => exact h2 i t q
theorem O_tsw {r : Nat → sK} {d lo hi : Int} {offs : Array Int} {dt : Nat} {ts : List Nat} (hc : m_code M pc = some (.tableswitch d lo hi offs, x, y, w, z)) (h8 : ¬ w = 8) (hd : s_tg pc d = some dt) (ht : offs.toList.mapM (s_tg pc) = some ts) (hl : (ts.length : Int) = hi - lo + 1) (h0 : 0 ≤ lo + 2147483648) (h1 : hi < 2147483648) (hk : ∀ t, s_OK scr σ ρ (r t) M t) : s_OK scr σ ρ (s_tsw (s_num lo) ts dt r) M pc := by
  intro L S F H E B CF cL cH h hL hF hH hE hB
  obtain ⟨v, S, rfl, h2⟩ := (kPop_iff _ _).mp h
  rw [kX_eq] at h2
  obtain ⟨e, E', hv, he, hE', h3⟩ := kRes_of (σ := σ) h2 hE
  have hlo : (s_num lo : Int) = lo + 2147483648 := by unfold s_num; omega
  have hti := cI_toInt he
  unfold s_tsw3 at h3
  rw [kB_iff, kB_iff, Nat.ble_eq] at h3
  have out : (cI e).toInt < lo ∨ hi < (cI e).toInt → r dt L S (F, H, E', B) = true → m_Rn scr CF M pc cL ((v :: S).map (sv σ ρ)) cH := by
    intro q h4
    refine s_stp hc h8 rfl rfl ?_ (hk dt L S F H E' B CF cL cH h4 hL hF hH hE' hB)
    simp only [m_ex, List.map_cons, hv]
    rw [if_pos q]
    exact s_tg_of hd
  rcases h3 with ⟨h4, ⟨h5, h6⟩ | ⟨h5, h6⟩⟩ | ⟨h4, h6⟩
  · obtain ⟨t, h7, h9⟩ := (kGet_iff _ _ _).mp h6
    obtain ⟨ml, mm⟩ := mapM_of ht
    obtain ⟨off, h10, h11⟩ := mm _ _ h7
    have h5' : e - s_num lo + 1 ≤ ts.length := Nat.ble_eq.mp h5
    refine s_stp hc h8 rfl rfl ?_ (hk t L S F H E' B CF cL cH h9 hL hF hH hE' hB)
    simp only [m_ex, List.map_cons, hv]
    rw [if_neg (by omega)]
    have e1 : ((cI e).toInt - lo).toNat = Nat.sub e (s_num lo) := by
      show _ = e - s_num lo
      omega
    rw [e1]
    have e2 : offs[Nat.sub e (s_num lo)]? = some off := by
      rw [← Array.getElem?_toList]; exact h10
    rw [e2]
    exact s_tg_of h11
  · have h5' : ¬ e - s_num lo + 1 ≤ ts.length := fun q => by rw [show Nat.ble (Nat.add (Nat.sub e (s_num lo)) 1) ts.length = true from Nat.ble_eq.mpr q] at h5; cases h5
    exact out (by omega) h6
  · have h4' : ¬ s_num lo ≤ e := fun q => by rw [Nat.ble_eq.mpr q] at h4; cases h4
    exact out (by omega) h6
theorem kAsc_of {e dt : Nat} {kk : Nat → Bool} : ∀ {qs : List (Nat × Nat)}, kAsc e qs dt kk = true → (∃ t, (e, t) ∈ qs ∧ kk t = true ∧ qs.lookup e = some t) ∨ (qs.lookup e = none ∧ kk dt = true)
  | [], h => Or.inr ⟨rfl, h⟩
  | (a, t) :: qs, h => by
    have h' : kB (Nat.beq a e) (kk t) (kAsc e qs dt kk) = true := h
    rw [kB_iff] at h'
    rcases h' with ⟨h1, h2⟩ | ⟨h1, h2⟩
    · have := Nat.beq_eq.mp h1; subst this
      refine Or.inl ⟨t, List.mem_cons_self, h2, ?_⟩
      simp [List.lookup]
    · have hne : ¬ e = a := fun q => by rw [q, Nat.beq_eq.mpr rfl] at h1; cases h1
      have hne' : (e == a) = false := by simp [hne]
      rcases kAsc_of h2 with ⟨t', h3, h4, h5⟩ | ⟨h3, h4⟩
      · exact Or.inl ⟨t', List.mem_cons_of_mem _ h3, h4, by rw [List.lookup_cons, hne']; exact h5⟩
      · exact Or.inr ⟨by rw [List.lookup_cons, hne']; exact h3, h4⟩
theorem s_lsw_off {e : Nat} (he : e < 4294967296) {d : Int} : ∀ {ps : List (Int × Int)} {qs : List (Int × Nat)}, ps.mapM (fun p => (s_tg pc p.2).map (fun t => (p.1, t))) = some qs → (∀ p ∈ qs, 0 ≤ p.1 + 2147483648) → ∀ t, ((qs.map (fun p => (s_num p.1, p.2))).lookup e = some t → ∃ off, Op.lookupswitch.offset ps d (cI e).toInt = off ∧ s_tg pc off = some t) ∧ ((qs.map (fun p => (s_num p.1, p.2))).lookup e = none → Op.lookupswitch.offset ps d (cI e).toInt = d)
  | [], qs, h, _, t => by
    have : qs = [] := by simpa using h.symm
    subst this
    exact ⟨(fun q => by cases q), fun _ => rfl⟩
  | (a, off) :: ps, qs, h, hb, t => by
    rw [List.mapM_cons] at h
    cases hf : s_tg pc off with
    | none => simp only [hf] at h; cases h
    | some b =>
      simp only [hf] at h
      cases hm : ps.mapM (fun p => (s_tg pc p.2).map (fun t => (p.1, t))) with
      | none => rw [hm] at h; cases h
      | some us =>
        rw [hm] at h
        have : qs = (a, b) :: us := by cases h; rfl
        subst this
        have ha : 0 ≤ a + 2147483648 := hb (a, b) List.mem_cons_self
        have ih := s_lsw_off he (d := d) hm (fun p hp => hb p (List.mem_cons_of_mem _ hp)) t
        have hti := cI_toInt he
        have hnum : (s_num a : Int) = a + 2147483648 := by unfold s_num; omega
        rw [List.map_cons, List.lookup_cons]
        by_cases q : e = s_num a
        · have q1 : (e == s_num a) = true := by simp [q]
          have q2 : (cI e).toInt = a := by omega
          simp only [q1]
          refine ⟨fun q3 => ⟨off, ?_, by cases q3; exact hf⟩, fun q3 => by cases q3⟩
          rw [Op.lookupswitch.offset, if_pos (by simp [q2])]
        · have q1 : (e == s_num a) = false := by simp [q]
          have q2 : ¬ (cI e).toInt = a := by omega
          simp only [q1]
          rw [Op.lookupswitch.offset, if_neg (by simpa using (fun q3 => q2 (Eq.symm q3)))]
          exact ih
theorem O_lsw {r : Nat → sK} {d : Int} {ps : Array (Int × Int)} {dt : Nat} {qs : List (Int × Nat)} (hc : m_code M pc = some (.lookupswitch d ps, x, y, w, z)) (h8 : ¬ w = 8) (hd : s_tg pc d = some dt) (ht : ps.toList.mapM (fun p => (s_tg pc p.2).map (fun t => (p.1, t))) = some qs) (hb : ∀ p ∈ qs, 0 ≤ p.1 + 2147483648) (hk : ∀ t, s_OK scr σ ρ (r t) M t) : s_OK scr σ ρ (s_lsw (qs.map (fun p => (s_num p.1, p.2))) dt r) M pc := by
  intro L S F H E B CF cL cH h hL hF hH hE hB
  obtain ⟨v, S, rfl, h2⟩ := (kPop_iff _ _).mp h
  rw [kX_eq] at h2
  obtain ⟨e, E', hv, he, hE', h3⟩ := kRes_of (σ := σ) h2 hE
  rcases kAsc_of h3 with ⟨t, -, h4, h5⟩ | ⟨h5, h4⟩
  · obtain ⟨off, h6, h7⟩ := (s_lsw_off he (d := d) ht hb t).1 h5
    refine s_stp hc h8 rfl rfl ?_ (hk t L S F H E' B CF cL cH h4 hL hF hH hE' hB)
    simp only [m_ex, List.map_cons, hv]
    rw [h6]
    exact s_tg_of h7
  · have h6 := (s_lsw_off he (d := d) ht hb dt).2 h5
    refine s_stp hc h8 rfl rfl ?_ (hk dt L S F H E' B CF cL cH h4 hL hF hH hE' hB)
    simp only [m_ex, List.map_cons, hv]
    rw [h6]
    exact s_tg_of hd
end SO2
