/-! runs that make nothing: the heap keeps its size -/
def m_alc : Instr → Bool
  | .new _ => true
  | .newarray _ => true
  | .anewarray _ => true
  | _ => false
def m_mk (x : Nat) : Bool := [0, 11, 23, 30, 39, 51].contains x || 100 ≤ x
def m_nkR (q : m_I) : Bool := !m_alc q.2.1 && (!(q.2.2.2.2.1 == 1 || q.2.2.2.2.1 == 2) || !m_mk q.2.2.1)
theorem m_nk_all : (List.range 100).all (fun M => m_mk M || (m_prog M).all m_nkR) = true := by decide +kernel
theorem m_nk_of {M pc : Nat} {i : Instr} {x y w : Nat} {z : Int} (hM : m_mk M = false) (h : m_code M pc = some (i, x, y, w, z)) : m_nkR (pc, i, x, y, w, z) = true := by
  obtain ⟨q, hq, he⟩ := Option.map_eq_some_iff.mp h
  have h1 := List.find?_some hq
  have h3 : q.1 = pc := by simpa using h1
  have hr : M < 100 := by
    unfold m_mk at hM
    simp at hM
    omega
  have h0 := List.all_eq_true.mp m_nk_all M (List.mem_range.mpr hr)
  rw [hM, Bool.false_or] at h0
  have h2 := List.all_eq_true.mp h0 q (List.mem_of_find?_eq_some hq)
  obtain ⟨q1, q2⟩ := q
  subst h3
  cases he
  exact h2
theorem m_math_same {w pc : Nat} {L L' : mL} {S S' : List Value} {AH AH' : List mC} {pc' : Nat} (h : m_math w pc L S AH = some (pc', L', S', AH')) : AH.length = AH'.length ∧ m_sl AH = m_sl AH' := by
  unfold m_math at h
  repeat' split at h
  all_goals first
    | (cases h; done)
    | (cases h; exact ⟨rfl, rfl⟩)
    | (obtain ⟨H1, hv, he⟩ := Option.map_eq_some_iff.mp h
       cases he
       obtain ⟨f, g, hg0, hg1, -, -, -, -, -, rfl⟩ := m_cp_of hv
       exact ⟨by rw [m_len_set], by rw [m_sl_mset hg1 (by simp [m_sz, m_cpy_len])]⟩)
set_option maxHeartbeats 4000000 in
theorem m_ex_same {scr : List Int32} {M pc : Nat} {i : Instr} {x y w : Nat} {z : Int} {L L' : mL} {S S' : List Value} {AH AH' : List mC} {pc' : Nat} (ha : m_alc i = false) (h : m_ex scr M pc i x y w z L S AH = some (pc', L', S', AH')) : AH.length = AH'.length ∧ m_sl AH = m_sl AH' := by
  have same : AH' = AH → AH.length = AH'.length ∧ m_sl AH = m_sl AH' := fun q => by rw [q]; exact ⟨rfl, rfl⟩
  cases i
  case putfield k =>
    simp only [m_ex] at h
    split at h
    · obtain ⟨H1, hv, he⟩ := Option.map_eq_some_iff.mp h
      cases he
      obtain ⟨fs, hg, hy2, hfit, rfl⟩ := m_pf_of hv
      exact ⟨by rw [m_len_set], by rw [m_sl_mset hg (by simp [m_sz])]⟩
    · cases h
  case iastore =>
    simp only [m_ex] at h
    split at h
    · obtain ⟨H1, hv, he⟩ := Option.map_eq_some_iff.mp h
      cases he
      obtain ⟨fs, hg, -, -, rfl⟩ := m_wa_of hv
      exact ⟨by rw [m_len_set], by rw [m_sl_mset hg (by simp [m_sz])]⟩
    · cases h
  case bastore =>
    simp only [m_ex] at h
    split at h
    · obtain ⟨H1, hv, he⟩ := Option.map_eq_some_iff.mp h
      cases he
      obtain ⟨fs, hg, -, -, rfl⟩ := m_wa_of hv
      exact ⟨by rw [m_len_set], by rw [m_sl_mset hg (by simp [m_sz])]⟩
    · cases h
  case aastore =>
    simp only [m_ex] at h
    split at h
    · split at h
      · obtain ⟨H1, hv, he⟩ := Option.map_eq_some_iff.mp h
        cases he
        obtain ⟨fs, hg, -, -, rfl⟩ := m_wa_of hv
        exact ⟨by rw [m_len_set], by rw [m_sl_mset hg (by simp [m_sz])]⟩
      · cases h
    · cases h
  case invokestatic k => exact m_math_same h
  case getfield k =>
    simp only [m_ex] at h
    split at h
    · obtain ⟨v, hv, he⟩ := Option.map_eq_some_iff.mp h
      cases he
      exact same rfl
    · cases h
  case iaload =>
    simp only [m_ex] at h
    repeat' split at h
    · obtain ⟨v, hv, he⟩ := Option.map_eq_some_iff.mp h
      cases he
      exact same rfl
    all_goals first | (cases h; exact same rfl) | cases h
  case new k => cases ha
  case newarray k => cases ha
  case anewarray k => cases ha
  all_goals (simp only [m_ex, m_lv, m_sv1, m_sv2, m_b2, m_d2, m_l2, m_jmp] at h)
  all_goals (first | done | (repeat' split at h) <;> first | (cases h; exact same rfl) | (cases h; done) | skip)
theorem m_go_same (scr : List Int32) : ∀ (n : Nat) {M pc : Nat} {L : mL} {S : List Value} {AH AHf : List mC} {rv : Option Value}, m_mk M = false → m_go scr n M pc L S AH = some (rv, AHf) → AH.length = AHf.length ∧ m_sl AH = m_sl AHf
  | 0, M, pc, L, S, AH, AHf, rv, hM, h => by cases h
  | n + 1, M, pc, L, S, AH, AHf, rv, hM, h => by
    rw [m_go_s] at h
    unfold m_st at h
    split at h
    · cases h
    · next i x y w z hcode =>
      have hk := m_nk_of hM hcode
      simp only [m_nkR, Bool.and_eq_true, Bool.not_eq_true'] at hk
      split at h
      · next hw =>
        split at h
        · next as S' hcut =>
          split at h
          · split at h
            · next v H1 hcall =>
              have hx : m_mk x = false := by
                have hk2 := hk.2
                have h1 := hw.1
                rcases h1 with rfl | rfl <;> simpa using hk2
              have h1 := m_go_same scr n hx hcall
              have h2 := m_go_same scr n hM h
              exact ⟨h1.1.trans h2.1, h1.2.trans h2.2⟩
            · cases h
          · cases h
        · cases h
      · split at h
        · split at h
          · cases h; exact ⟨rfl, rfl⟩
          · cases h
        · split at h
          · next pc' L' S' H' hex =>
            have h1 := m_ex_same hk.1 hex
            have h2 := m_go_same scr n hM h
            exact ⟨h1.1.trans h2.1, h1.2.trans h2.2⟩
          · cases h
/-- the world with the size of its heap -/
def Wd (H : List mC) (w h : Nat → Int) (f : Nat → Int → Int) : Prop := wd H w h f ∧ H.length ≤ 600074 ∧ m_sl H ≤ 7301550
theorem m_szP {scr : List Int32} {x : Nat} {as : List Value} {H : List mC} {Z : Option Value → List mC → Prop} (hx : m_mk x = false) (hs : H.length ≤ 600074 ∧ m_sl H ≤ 7301550) (h : m_CP scr x as H Z) : m_CP scr x as H (fun v H1 => Z v H1 ∧ H1.length ≤ 600074 ∧ m_sl H1 ≤ 7301550) := by
  obtain ⟨v, H1, ⟨n, Y, hn, rfl⟩, hz⟩ := h
  have := m_go_same scr n hx hn
  exact ⟨v, H1, ⟨n, _, hn, rfl⟩, hz, by omega, by omega⟩
/-! making: rows, and the constructors -/
section MAKE
variable {scr : List Int32} {M pc x y : Nat} {z : Int} {L : mL} {S : List Value} {H : List mC} {X : mR → Prop}
theorem R_newa (q : Nat) {t : ArrayType} {e : Nat} (hc : m_code M pc = some (.newarray t, x, y, 0, z)) (hp : pc + 2 = q) (he : e ≤ 1000) (k : m_Ev scr M q L (.ref (H.length + 1) :: S) (H ++ [.inl (x, aI e (fun _ => 0))]) X) : m_Ev scr M pc L (vI (e : Int) :: S) H X := by
  subst hp
  have h1 := iI_nat (e := (e : Int)) (by omega) (by omega)
  have h2 := iI_nn (e := (e : Int)) (by omega) (by omega)
  refine m_step hc rfl rfl ?_ k
  simp only [m_ex]
  rw [if_pos ⟨h2, by rw [h1]; omega⟩, h1, Int.toNat_natCast, aI_rep]
theorem R_callI (q : Nat) {n xc r w : Nat} {as S' fs : List Value} {v : Option Value} {H1 : List mC} (hc : m_code M pc = some (.invokespecial n, xc, y, w, z)) (hw : (w == 1 || w == 2) = true) (hp : pc + 3 = q) (hst : m_stc xc = false) (hd : S.drop (m_na xc) = .ref r :: S') (hta : .ref r :: (S.take (m_na xc)).reverse = as) (h8 : m_cat S' ≤ 8) (hcat : m_cat as ≤ m_nL xc) (hg : m_get H r = some (.inr (m_rc xc, fs))) (hcl : m_Cl scr xc as H v H1) (k : m_Ev scr M q L (v.toList ++ S') H1 X) : m_Ev scr M pc L S H X := by
  subst hp
  exact m_cal hc hw rfl (m_cutV hst hd hta h8 hg) hcat hcl k
abbrev zA (n : Nat) : mC := .inl (0, aI n (fun _ => 0))
theorem m_get_app {c : mC} {r : Nat} (hr : r ≤ H.length) : m_get (H ++ [c]) r = m_get H r := by
  cases r with
  | zero => rfl
  | succ k => exact List.getElem?_append_left (by omega)
theorem m_get_le {c : mC} {r : Nat} (h : m_get H r = some c) : r ≤ H.length := by
  cases r with
  | zero => omega
  | succ k => have := (List.getElem?_eq_some_iff.mp h).1; omega
theorem m_set_app {c d : mC} {r : Nat} (hr : r ≤ H.length) : m_set (H ++ [c]) r d = m_set H r d ++ [c] := by
  cases r with
  | zero => rfl
  | succ k =>
    show (H ++ [c]).set k d = H.set k d ++ [c]
    rw [List.set_append_left _ _ (by omega)]
theorem k_sheetInit {r : Nat} (h : m_get H r = some (.inr (3, [.int 0, .int 0, .null]))) : m_Cl scr 30 [.ref r] H none (m_set H r (.inr (3, [vI 8, vI 8, .ref (H.length + 1)])) ++ [zA 256]) := by
  show m_Ev scr 30 0 [(0, .ref r)] [] H _
  refine R_aload_n 1 c_30_0 rfl rfl ?_
  refine R_step c_30_1 rfl rfl rfl ?_
  refine R_aload_n 5 c_30_4 rfl rfl ?_
  refine R_bipush 7 c_30_5 rfl (by decide) ?_
  refine R_put 10 c_30_7 rfl (h) (Nat.le_of_ble_eq_true rfl) rfl ?_
  refine R_aload_n 11 c_30_10 rfl rfl ?_
  refine R_bipush 13 c_30_11 rfl (by decide) ?_
  refine R_put 16 c_30_13 rfl (m_gs_eq h) (Nat.le_of_ble_eq_true rfl) rfl ?_
  refine R_aload_n 17 c_30_16 rfl rfl ?_
  refine R_sipush 20 c_30_17 rfl (by decide) ?_
  refine R_newa 22 (e := 256) c_30_20 rfl (by decide) ?_
  have h2 : m_get (m_set (m_set H r (.inr (3, [vI 8, .int 0, .null]))) r (.inr (3, [vI 8, vI 8, .null]))) r = some (.inr (3, [vI 8, vI 8, .null])) := m_gs_eq (m_gs_eq h)
  have hle := m_get_le h2
  have hl : (m_set (m_set H r (.inr (3, [vI 8, .int 0, .null]))) r (.inr (3, [vI 8, vI 8, .null]))).length = H.length := by rw [m_len_set, m_len_set]
  refine R_put 25 c_30_22 rfl ((m_get_app hle).trans h2) (Nat.le_of_ble_eq_true rfl) rfl ?_
  have e : m_set (m_set (m_set H r (.inr (3, [vI 8, .int 0, .null]))) r (.inr (3, [vI 8, vI 8, .null])) ++ [zA 256]) r (.inr (3, [vI 8, vI 8, .ref ((m_set (m_set H r (.inr (3, [vI 8, .int 0, .null]))) r (.inr (3, [vI 8, vI 8, .null]))).length + 1)])) = m_set H r (.inr (3, [vI 8, vI 8, .ref (H.length + 1)])) ++ [zA 256] := by
    rw [m_set_app hle, hl, m_set_set, m_set_set]
  refine R_return c_30_25 rfl ?_
  exact congrArg (fun z => ((none : Option Value), z)) e
end MAKE
/-! the constructors, over the heap as it grows -/
section CTOR2
variable {scr : List Int32} {M pc x y : Nat} {z : Int} {L : mL} {S : List Value} {H : List mC} {X : mR → Prop}
theorem R_anewa (q : Nat) {t : Nat} {e : Nat} (hc : m_code M pc = some (.anewarray t, x, y, 0, z)) (hp : pc + 3 = q) (he : e ≤ 1000) (k : m_Ev scr M q L (.ref (H.length + 1) :: S) (H ++ [.inl (2, List.replicate e .null)]) X) : m_Ev scr M pc L (vI (e : Int) :: S) H X := by
  subst hp
  have h1 := iI_nat (e := (e : Int)) (by omega) (by omega)
  have h2 := iI_nn (e := (e : Int)) (by omega) (by omega)
  refine m_step hc rfl rfl ?_ k
  simp only [m_ex]
  rw [if_pos ⟨h2, by rw [h1]; omega⟩, h1, Int.toNat_natCast]
end CTOR2
section CT
variable {scr : List Int32}
theorem k_filtersInit : m_CP scr 0 [.ref 13] [.inr (5, [.ref 2, .ref 11, .null, .null, .null, .null]), .inl (2, [.ref 3, .ref 5, .ref 7, .ref 9]), .inr (3, [vI 8, vI 8, .ref 4]), zA 256, .inr (3, [vI 8, vI 8, .ref 6]), zA 256, .inr (3, [vI 8, vI 8, .ref 8]), zA 256, .inr (3, [vI 8, vI 8, .ref 10]), zA 256, .inr (3, [vI 8, vI 8, .ref 12]), zA 256, .inr (0, [.null, .int 0, .int 0, .null, .null])] (fun v1 H1 => v1 = none ∧ ∃ g, H1 = [.inr (5, [.ref 2, .ref 11, .null, .null, .null, .null]), .inl (2, [.ref 3, .ref 5, .ref 7, .ref 9]), .inr (3, [vI 8, vI 8, .ref 4]), zA 256, .inr (3, [vI 8, vI 8, .ref 6]), zA 256, .inr (3, [vI 8, vI 8, .ref 8]), zA 256, .inr (3, [vI 8, vI 8, .ref 10]), zA 256, .inr (3, [vI 8, vI 8, .ref 12]), zA 256, .inr (0, [.ref 14, vI 9, vI 0, .ref 15, .ref 16]), .inl (0, aI 9 g), zA 9, .inr (3, [vI 8, vI 8, .ref 17]), zA 256]) := by
  refine m_CP.of ?_
  show m_Ev scr 0 0 [(0, .ref 13)] [] [.inr (5, [.ref 2, .ref 11, .null, .null, .null, .null]), .inl (2, [.ref 3, .ref 5, .ref 7, .ref 9]), .inr (3, [vI 8, vI 8, .ref 4]), zA 256, .inr (3, [vI 8, vI 8, .ref 6]), zA 256, .inr (3, [vI 8, vI 8, .ref 8]), zA 256, .inr (3, [vI 8, vI 8, .ref 10]), zA 256, .inr (3, [vI 8, vI 8, .ref 12]), zA 256, .inr (0, [.null, .int 0, .int 0, .null, .null])] _
  refine m_gen (fun X hX => ?_)
  refine R_aload_n 1 c_0_0 rfl rfl ?_
  refine R_step c_0_1 rfl rfl rfl ?_
  refine R_aload_n 5 c_0_4 rfl rfl ?_
  refine R_bipush 7 c_0_5 rfl (by decide) ?_
  refine R_newa 9 (e := 9) c_0_7 rfl (by decide) ?_
  show m_Ev scr 0 9 [(0, .ref 13)] [.ref 14, .ref 13] [.inr (5, [.ref 2, .ref 11, .null, .null, .null, .null]), .inl (2, [.ref 3, .ref 5, .ref 7, .ref 9]), .inr (3, [vI 8, vI 8, .ref 4]), zA 256, .inr (3, [vI 8, vI 8, .ref 6]), zA 256, .inr (3, [vI 8, vI 8, .ref 8]), zA 256, .inr (3, [vI 8, vI 8, .ref 10]), zA 256, .inr (3, [vI 8, vI 8, .ref 12]), zA 256, .inr (0, [.null, .int 0, .int 0, .null, .null]), zA 9] X
  refine R_put 12 c_0_9 rfl (rfl) (Nat.le_of_ble_eq_true rfl) rfl ?_
  show m_Ev scr 0 12 [(0, .ref 13)] [] [.inr (5, [.ref 2, .ref 11, .null, .null, .null, .null]), .inl (2, [.ref 3, .ref 5, .ref 7, .ref 9]), .inr (3, [vI 8, vI 8, .ref 4]), zA 256, .inr (3, [vI 8, vI 8, .ref 6]), zA 256, .inr (3, [vI 8, vI 8, .ref 8]), zA 256, .inr (3, [vI 8, vI 8, .ref 10]), zA 256, .inr (3, [vI 8, vI 8, .ref 12]), zA 256, .inr (0, [.ref 14, .int 0, .int 0, .null, .null]), zA 9] X
  refine R_aload_n 13 c_0_12 rfl rfl ?_
  refine R_bipush 15 c_0_13 rfl (by decide) ?_
  refine R_put 18 c_0_15 rfl (rfl) (Nat.le_of_ble_eq_true rfl) rfl ?_
  show m_Ev scr 0 18 [(0, .ref 13)] [] [.inr (5, [.ref 2, .ref 11, .null, .null, .null, .null]), .inl (2, [.ref 3, .ref 5, .ref 7, .ref 9]), .inr (3, [vI 8, vI 8, .ref 4]), zA 256, .inr (3, [vI 8, vI 8, .ref 6]), zA 256, .inr (3, [vI 8, vI 8, .ref 8]), zA 256, .inr (3, [vI 8, vI 8, .ref 10]), zA 256, .inr (3, [vI 8, vI 8, .ref 12]), zA 256, .inr (0, [.ref 14, vI 9, .int 0, .null, .null]), zA 9] X
  refine R_aload_n 19 c_0_18 rfl rfl ?_
  refine R_iconst 20 c_0_19 rfl ?_
  refine R_put 23 c_0_20 rfl (rfl) (Nat.le_of_ble_eq_true rfl) rfl ?_
  show m_Ev scr 0 23 [(0, .ref 13)] [] [.inr (5, [.ref 2, .ref 11, .null, .null, .null, .null]), .inl (2, [.ref 3, .ref 5, .ref 7, .ref 9]), .inr (3, [vI 8, vI 8, .ref 4]), zA 256, .inr (3, [vI 8, vI 8, .ref 6]), zA 256, .inr (3, [vI 8, vI 8, .ref 8]), zA 256, .inr (3, [vI 8, vI 8, .ref 10]), zA 256, .inr (3, [vI 8, vI 8, .ref 12]), zA 256, .inr (0, [.ref 14, vI 9, vI 0, .null, .null]), zA 9] X
  refine R_aload_n 24 c_0_23 rfl rfl ?_
  refine R_bipush 26 c_0_24 rfl (by decide) ?_
  refine R_newa 28 (e := 9) c_0_26 rfl (by decide) ?_
  show m_Ev scr 0 28 [(0, .ref 13)] [.ref 15, .ref 13] [.inr (5, [.ref 2, .ref 11, .null, .null, .null, .null]), .inl (2, [.ref 3, .ref 5, .ref 7, .ref 9]), .inr (3, [vI 8, vI 8, .ref 4]), zA 256, .inr (3, [vI 8, vI 8, .ref 6]), zA 256, .inr (3, [vI 8, vI 8, .ref 8]), zA 256, .inr (3, [vI 8, vI 8, .ref 10]), zA 256, .inr (3, [vI 8, vI 8, .ref 12]), zA 256, .inr (0, [.ref 14, vI 9, vI 0, .null, .null]), zA 9, zA 9] X
  refine R_put 31 c_0_28 rfl (rfl) (Nat.le_of_ble_eq_true rfl) rfl ?_
  show m_Ev scr 0 31 [(0, .ref 13)] [] [.inr (5, [.ref 2, .ref 11, .null, .null, .null, .null]), .inl (2, [.ref 3, .ref 5, .ref 7, .ref 9]), .inr (3, [vI 8, vI 8, .ref 4]), zA 256, .inr (3, [vI 8, vI 8, .ref 6]), zA 256, .inr (3, [vI 8, vI 8, .ref 8]), zA 256, .inr (3, [vI 8, vI 8, .ref 10]), zA 256, .inr (3, [vI 8, vI 8, .ref 12]), zA 256, .inr (0, [.ref 14, vI 9, vI 0, .ref 15, .null]), zA 9, zA 9] X
  refine R_aload_n 32 c_0_31 rfl rfl ?_
  refine R_step c_0_32 rfl rfl rfl ?_
  show m_Ev scr 0 35 [(0, .ref 13)] [.ref 16, .ref 13] [.inr (5, [.ref 2, .ref 11, .null, .null, .null, .null]), .inl (2, [.ref 3, .ref 5, .ref 7, .ref 9]), .inr (3, [vI 8, vI 8, .ref 4]), zA 256, .inr (3, [vI 8, vI 8, .ref 6]), zA 256, .inr (3, [vI 8, vI 8, .ref 8]), zA 256, .inr (3, [vI 8, vI 8, .ref 10]), zA 256, .inr (3, [vI 8, vI 8, .ref 12]), zA 256, .inr (0, [.ref 14, vI 9, vI 0, .ref 15, .null]), zA 9, zA 9, .inr (3, [.int 0, .int 0, .null])] X
  refine R_dup 36 c_0_35 rfl rfl ?_
  refine R_callI 39 c_0_36 rfl rfl rfl rfl rfl (Nat.le_of_ble_eq_true rfl) (Nat.le_of_ble_eq_true rfl) rfl (k_sheetInit rfl) ?_
  show m_Ev scr 0 39 [(0, .ref 13)] [.ref 16, .ref 13] [.inr (5, [.ref 2, .ref 11, .null, .null, .null, .null]), .inl (2, [.ref 3, .ref 5, .ref 7, .ref 9]), .inr (3, [vI 8, vI 8, .ref 4]), zA 256, .inr (3, [vI 8, vI 8, .ref 6]), zA 256, .inr (3, [vI 8, vI 8, .ref 8]), zA 256, .inr (3, [vI 8, vI 8, .ref 10]), zA 256, .inr (3, [vI 8, vI 8, .ref 12]), zA 256, .inr (0, [.ref 14, vI 9, vI 0, .ref 15, .null]), zA 9, zA 9, .inr (3, [vI 8, vI 8, .ref 17]), zA 256] X
  refine R_put 42 c_0_39 rfl (rfl) (Nat.le_of_ble_eq_true rfl) rfl ?_
  show m_Ev scr 0 42 [(0, .ref 13)] [] [.inr (5, [.ref 2, .ref 11, .null, .null, .null, .null]), .inl (2, [.ref 3, .ref 5, .ref 7, .ref 9]), .inr (3, [vI 8, vI 8, .ref 4]), zA 256, .inr (3, [vI 8, vI 8, .ref 6]), zA 256, .inr (3, [vI 8, vI 8, .ref 8]), zA 256, .inr (3, [vI 8, vI 8, .ref 10]), zA 256, .inr (3, [vI 8, vI 8, .ref 12]), zA 256, .inr (0, [.ref 14, vI 9, vI 0, .ref 15, .ref 16]), zA 9, zA 9, .inr (3, [vI 8, vI 8, .ref 17]), zA 256] X
  refine R_iconst 43 c_0_42 rfl ?_
  refine R_istore_n 44 c_0_43 rfl ?_
  refine m_forP 9 (fun i L H2 => L = [(0, .ref 13), (1, vI i)] ∧ ∃ g, H2 = [.inr (5, [.ref 2, .ref 11, .null, .null, .null, .null]), .inl (2, [.ref 3, .ref 5, .ref 7, .ref 9]), .inr (3, [vI 8, vI 8, .ref 4]), zA 256, .inr (3, [vI 8, vI 8, .ref 6]), zA 256, .inr (3, [vI 8, vI 8, .ref 8]), zA 256, .inr (3, [vI 8, vI 8, .ref 10]), zA 256, .inr (3, [vI 8, vI 8, .ref 12]), zA 256, .inr (0, [.ref 14, vI 9, vI 0, .ref 15, .ref 16]), .inl (0, aI 9 g), zA 9, .inr (3, [vI 8, vI 8, .ref 17]), zA 256]) 0 ⟨rfl, _, rfl⟩ (by omega) ?_ ?_
  · rintro i L2 H2 i0 i1 ⟨rfl, g, rfl⟩ ih
    refine R_iload_n 45 c_0_44 rfl rfl ?_
    refine R_bipush 47 c_0_45 rfl (by decide) ?_
    refine R_br 50 63 _ (cmp_ge (by unfold inR; omega) (by unfold inR; omega)) c_0_47 rfl rfl (fun hn => absurd hn (by omega)) (fun _ => ?_)
    refine R_aload_n 51 c_0_50 rfl rfl ?_
    refine R_get 54 c_0_51 rfl (rfl) rfl ?_
    refine R_iload_n 55 c_0_54 rfl rfl ?_
    refine R_iconst 56 c_0_55 rfl ?_
    refine R_iast 57 c_0_56 rfl ((show m_get [.inr (5, [.ref 2, .ref 11, .null, .null, .null, .null]), .inl (2, [.ref 3, .ref 5, .ref 7, .ref 9]), .inr (3, [vI 8, vI 8, .ref 4]), zA 256, .inr (3, [vI 8, vI 8, .ref 6]), zA 256, .inr (3, [vI 8, vI 8, .ref 8]), zA 256, .inr (3, [vI 8, vI 8, .ref 10]), zA 256, .inr (3, [vI 8, vI 8, .ref 12]), zA 256, .inr (0, [.ref 14, vI 9, vI 0, .ref 15, .ref 16]), .inl (0, aI 9 g), zA 9, .inr (3, [vI 8, vI 8, .ref 17]), zA 256] 14 = some (.inl (0, aI 9 g)) from rfl)) (by omega) (by omega) (by decide) ?_
    refine R_iinc 60 c_0_57 rfl rfl ?_
    refine R_goto 44 c_0_60 rfl ?_
    exact ih _ _ ⟨rfl, _, rfl⟩
  · rintro L2 H2 ⟨rfl, g, rfl⟩
    refine R_iload_n 45 c_0_44 rfl rfl ?_
    refine R_bipush 47 c_0_45 rfl (by decide) ?_
    refine R_br 50 63 _ (cmp_ge (by unfold inR; omega) (by unfold inR; omega)) c_0_47 rfl rfl (fun _ => ?_) (fun hn => absurd (by omega) hn)
    refine R_return c_0_63 rfl ?_
    exact hX _ _ ⟨rfl, g, rfl⟩
theorem k_tonesInit (g : Int → Int) : m_Cl scr 39 [.ref 18] [.inr (5, [.ref 2, .ref 11, .ref 13, .null, .null, .null]), .inl (2, [.ref 3, .ref 5, .ref 7, .ref 9]), .inr (3, [vI 8, vI 8, .ref 4]), zA 256, .inr (3, [vI 8, vI 8, .ref 6]), zA 256, .inr (3, [vI 8, vI 8, .ref 8]), zA 256, .inr (3, [vI 8, vI 8, .ref 10]), zA 256, .inr (3, [vI 8, vI 8, .ref 12]), zA 256, .inr (0, [.ref 14, vI 9, vI 0, .ref 15, .ref 16]), .inl (0, aI 9 g), zA 9, .inr (3, [vI 8, vI 8, .ref 17]), zA 256, .inr (4, [.null, .null, .int 0])] none [.inr (5, [.ref 2, .ref 11, .ref 13, .null, .null, .null]), .inl (2, [.ref 3, .ref 5, .ref 7, .ref 9]), .inr (3, [vI 8, vI 8, .ref 4]), zA 256, .inr (3, [vI 8, vI 8, .ref 6]), zA 256, .inr (3, [vI 8, vI 8, .ref 8]), zA 256, .inr (3, [vI 8, vI 8, .ref 10]), zA 256, .inr (3, [vI 8, vI 8, .ref 12]), zA 256, .inr (0, [.ref 14, vI 9, vI 0, .ref 15, .ref 16]), .inl (0, aI 9 g), zA 9, .inr (3, [vI 8, vI 8, .ref 17]), zA 256, .inr (4, [.ref 19, .ref 20, vI 0]), zA 256, zA 256] := by
  show m_Ev scr 39 0 [(0, .ref 18)] [] [.inr (5, [.ref 2, .ref 11, .ref 13, .null, .null, .null]), .inl (2, [.ref 3, .ref 5, .ref 7, .ref 9]), .inr (3, [vI 8, vI 8, .ref 4]), zA 256, .inr (3, [vI 8, vI 8, .ref 6]), zA 256, .inr (3, [vI 8, vI 8, .ref 8]), zA 256, .inr (3, [vI 8, vI 8, .ref 10]), zA 256, .inr (3, [vI 8, vI 8, .ref 12]), zA 256, .inr (0, [.ref 14, vI 9, vI 0, .ref 15, .ref 16]), .inl (0, aI 9 g), zA 9, .inr (3, [vI 8, vI 8, .ref 17]), zA 256, .inr (4, [.null, .null, .int 0])] _
  refine m_gen (fun X hX => ?_)
  refine R_aload_n 1 c_39_0 rfl rfl ?_
  refine R_step c_39_1 rfl rfl rfl ?_
  refine R_aload_n 5 c_39_4 rfl rfl ?_
  refine R_sipush 8 c_39_5 rfl (by decide) ?_
  refine R_newa 10 (e := 256) c_39_8 rfl (by decide) ?_
  show m_Ev scr 39 10 [(0, .ref 18)] [.ref 19, .ref 18] [.inr (5, [.ref 2, .ref 11, .ref 13, .null, .null, .null]), .inl (2, [.ref 3, .ref 5, .ref 7, .ref 9]), .inr (3, [vI 8, vI 8, .ref 4]), zA 256, .inr (3, [vI 8, vI 8, .ref 6]), zA 256, .inr (3, [vI 8, vI 8, .ref 8]), zA 256, .inr (3, [vI 8, vI 8, .ref 10]), zA 256, .inr (3, [vI 8, vI 8, .ref 12]), zA 256, .inr (0, [.ref 14, vI 9, vI 0, .ref 15, .ref 16]), .inl (0, aI 9 g), zA 9, .inr (3, [vI 8, vI 8, .ref 17]), zA 256, .inr (4, [.null, .null, .int 0]), zA 256] X
  refine R_put 13 c_39_10 rfl (rfl) (Nat.le_of_ble_eq_true rfl) rfl ?_
  show m_Ev scr 39 13 [(0, .ref 18)] [] [.inr (5, [.ref 2, .ref 11, .ref 13, .null, .null, .null]), .inl (2, [.ref 3, .ref 5, .ref 7, .ref 9]), .inr (3, [vI 8, vI 8, .ref 4]), zA 256, .inr (3, [vI 8, vI 8, .ref 6]), zA 256, .inr (3, [vI 8, vI 8, .ref 8]), zA 256, .inr (3, [vI 8, vI 8, .ref 10]), zA 256, .inr (3, [vI 8, vI 8, .ref 12]), zA 256, .inr (0, [.ref 14, vI 9, vI 0, .ref 15, .ref 16]), .inl (0, aI 9 g), zA 9, .inr (3, [vI 8, vI 8, .ref 17]), zA 256, .inr (4, [.ref 19, .null, .int 0]), zA 256] X
  refine R_aload_n 14 c_39_13 rfl rfl ?_
  refine R_sipush 17 c_39_14 rfl (by decide) ?_
  refine R_newa 19 (e := 256) c_39_17 rfl (by decide) ?_
  show m_Ev scr 39 19 [(0, .ref 18)] [.ref 20, .ref 18] [.inr (5, [.ref 2, .ref 11, .ref 13, .null, .null, .null]), .inl (2, [.ref 3, .ref 5, .ref 7, .ref 9]), .inr (3, [vI 8, vI 8, .ref 4]), zA 256, .inr (3, [vI 8, vI 8, .ref 6]), zA 256, .inr (3, [vI 8, vI 8, .ref 8]), zA 256, .inr (3, [vI 8, vI 8, .ref 10]), zA 256, .inr (3, [vI 8, vI 8, .ref 12]), zA 256, .inr (0, [.ref 14, vI 9, vI 0, .ref 15, .ref 16]), .inl (0, aI 9 g), zA 9, .inr (3, [vI 8, vI 8, .ref 17]), zA 256, .inr (4, [.ref 19, .null, .int 0]), zA 256, zA 256] X
  refine R_put 22 c_39_19 rfl (rfl) (Nat.le_of_ble_eq_true rfl) rfl ?_
  show m_Ev scr 39 22 [(0, .ref 18)] [] [.inr (5, [.ref 2, .ref 11, .ref 13, .null, .null, .null]), .inl (2, [.ref 3, .ref 5, .ref 7, .ref 9]), .inr (3, [vI 8, vI 8, .ref 4]), zA 256, .inr (3, [vI 8, vI 8, .ref 6]), zA 256, .inr (3, [vI 8, vI 8, .ref 8]), zA 256, .inr (3, [vI 8, vI 8, .ref 10]), zA 256, .inr (3, [vI 8, vI 8, .ref 12]), zA 256, .inr (0, [.ref 14, vI 9, vI 0, .ref 15, .ref 16]), .inl (0, aI 9 g), zA 9, .inr (3, [vI 8, vI 8, .ref 17]), zA 256, .inr (4, [.ref 19, .ref 20, .int 0]), zA 256, zA 256] X
  refine R_aload_n 23 c_39_22 rfl rfl ?_
  refine R_iconst 24 c_39_23 rfl ?_
  refine R_put 27 c_39_24 rfl (rfl) (Nat.le_of_ble_eq_true rfl) rfl ?_
  refine R_return c_39_27 rfl ?_
  exact hX _ _ rfl
theorem k_partsInit (g : Int → Int) : m_Cl scr 11 [.ref 21] [.inr (5, [.ref 2, .ref 11, .ref 13, .ref 18, .null, .null]), .inl (2, [.ref 3, .ref 5, .ref 7, .ref 9]), .inr (3, [vI 8, vI 8, .ref 4]), zA 256, .inr (3, [vI 8, vI 8, .ref 6]), zA 256, .inr (3, [vI 8, vI 8, .ref 8]), zA 256, .inr (3, [vI 8, vI 8, .ref 10]), zA 256, .inr (3, [vI 8, vI 8, .ref 12]), zA 256, .inr (0, [.ref 14, vI 9, vI 0, .ref 15, .ref 16]), .inl (0, aI 9 g), zA 9, .inr (3, [vI 8, vI 8, .ref 17]), zA 256, .inr (4, [.ref 19, .ref 20, vI 0]), zA 256, zA 256, .inr (1, [.int 0, .null, .null, .int 0, .null, .null, .int 0, .int 0])] none [.inr (5, [.ref 2, .ref 11, .ref 13, .ref 18, .null, .null]), .inl (2, [.ref 3, .ref 5, .ref 7, .ref 9]), .inr (3, [vI 8, vI 8, .ref 4]), zA 256, .inr (3, [vI 8, vI 8, .ref 6]), zA 256, .inr (3, [vI 8, vI 8, .ref 8]), zA 256, .inr (3, [vI 8, vI 8, .ref 10]), zA 256, .inr (3, [vI 8, vI 8, .ref 12]), zA 256, .inr (0, [.ref 14, vI 9, vI 0, .ref 15, .ref 16]), .inl (0, aI 9 g), zA 9, .inr (3, [vI 8, vI 8, .ref 17]), zA 256, .inr (4, [.ref 19, .ref 20, vI 0]), zA 256, zA 256, .inr (1, [vI 0, .ref 22, .ref 23, vI 0, .ref 24, .ref 25, vI 0, vI 0]), zA 256, zA 256, zA 256, .inl (1, aI 256 (fun _ => 0))] := by
  show m_Ev scr 11 0 [(0, .ref 21)] [] [.inr (5, [.ref 2, .ref 11, .ref 13, .ref 18, .null, .null]), .inl (2, [.ref 3, .ref 5, .ref 7, .ref 9]), .inr (3, [vI 8, vI 8, .ref 4]), zA 256, .inr (3, [vI 8, vI 8, .ref 6]), zA 256, .inr (3, [vI 8, vI 8, .ref 8]), zA 256, .inr (3, [vI 8, vI 8, .ref 10]), zA 256, .inr (3, [vI 8, vI 8, .ref 12]), zA 256, .inr (0, [.ref 14, vI 9, vI 0, .ref 15, .ref 16]), .inl (0, aI 9 g), zA 9, .inr (3, [vI 8, vI 8, .ref 17]), zA 256, .inr (4, [.ref 19, .ref 20, vI 0]), zA 256, zA 256, .inr (1, [.int 0, .null, .null, .int 0, .null, .null, .int 0, .int 0])] _
  refine m_gen (fun X hX => ?_)
  refine R_aload_n 1 c_11_0 rfl rfl ?_
  refine R_step c_11_1 rfl rfl rfl ?_
  refine R_aload_n 5 c_11_4 rfl rfl ?_
  refine R_iconst 6 c_11_5 rfl ?_
  refine R_put 9 c_11_6 rfl (rfl) (Nat.le_of_ble_eq_true rfl) rfl ?_
  show m_Ev scr 11 9 [(0, .ref 21)] [] [.inr (5, [.ref 2, .ref 11, .ref 13, .ref 18, .null, .null]), .inl (2, [.ref 3, .ref 5, .ref 7, .ref 9]), .inr (3, [vI 8, vI 8, .ref 4]), zA 256, .inr (3, [vI 8, vI 8, .ref 6]), zA 256, .inr (3, [vI 8, vI 8, .ref 8]), zA 256, .inr (3, [vI 8, vI 8, .ref 10]), zA 256, .inr (3, [vI 8, vI 8, .ref 12]), zA 256, .inr (0, [.ref 14, vI 9, vI 0, .ref 15, .ref 16]), .inl (0, aI 9 g), zA 9, .inr (3, [vI 8, vI 8, .ref 17]), zA 256, .inr (4, [.ref 19, .ref 20, vI 0]), zA 256, zA 256, .inr (1, [vI 0, .null, .null, .int 0, .null, .null, .int 0, .int 0])] X
  refine R_aload_n 10 c_11_9 rfl rfl ?_
  refine R_sipush 13 c_11_10 rfl (by decide) ?_
  refine R_newa 15 (e := 256) c_11_13 rfl (by decide) ?_
  show m_Ev scr 11 15 [(0, .ref 21)] [.ref 22, .ref 21] [.inr (5, [.ref 2, .ref 11, .ref 13, .ref 18, .null, .null]), .inl (2, [.ref 3, .ref 5, .ref 7, .ref 9]), .inr (3, [vI 8, vI 8, .ref 4]), zA 256, .inr (3, [vI 8, vI 8, .ref 6]), zA 256, .inr (3, [vI 8, vI 8, .ref 8]), zA 256, .inr (3, [vI 8, vI 8, .ref 10]), zA 256, .inr (3, [vI 8, vI 8, .ref 12]), zA 256, .inr (0, [.ref 14, vI 9, vI 0, .ref 15, .ref 16]), .inl (0, aI 9 g), zA 9, .inr (3, [vI 8, vI 8, .ref 17]), zA 256, .inr (4, [.ref 19, .ref 20, vI 0]), zA 256, zA 256, .inr (1, [vI 0, .null, .null, .int 0, .null, .null, .int 0, .int 0]), zA 256] X
  refine R_put 18 c_11_15 rfl (rfl) (Nat.le_of_ble_eq_true rfl) rfl ?_
  show m_Ev scr 11 18 [(0, .ref 21)] [] [.inr (5, [.ref 2, .ref 11, .ref 13, .ref 18, .null, .null]), .inl (2, [.ref 3, .ref 5, .ref 7, .ref 9]), .inr (3, [vI 8, vI 8, .ref 4]), zA 256, .inr (3, [vI 8, vI 8, .ref 6]), zA 256, .inr (3, [vI 8, vI 8, .ref 8]), zA 256, .inr (3, [vI 8, vI 8, .ref 10]), zA 256, .inr (3, [vI 8, vI 8, .ref 12]), zA 256, .inr (0, [.ref 14, vI 9, vI 0, .ref 15, .ref 16]), .inl (0, aI 9 g), zA 9, .inr (3, [vI 8, vI 8, .ref 17]), zA 256, .inr (4, [.ref 19, .ref 20, vI 0]), zA 256, zA 256, .inr (1, [vI 0, .ref 22, .null, .int 0, .null, .null, .int 0, .int 0]), zA 256] X
  refine R_aload_n 19 c_11_18 rfl rfl ?_
  refine R_sipush 22 c_11_19 rfl (by decide) ?_
  refine R_newa 24 (e := 256) c_11_22 rfl (by decide) ?_
  show m_Ev scr 11 24 [(0, .ref 21)] [.ref 23, .ref 21] [.inr (5, [.ref 2, .ref 11, .ref 13, .ref 18, .null, .null]), .inl (2, [.ref 3, .ref 5, .ref 7, .ref 9]), .inr (3, [vI 8, vI 8, .ref 4]), zA 256, .inr (3, [vI 8, vI 8, .ref 6]), zA 256, .inr (3, [vI 8, vI 8, .ref 8]), zA 256, .inr (3, [vI 8, vI 8, .ref 10]), zA 256, .inr (3, [vI 8, vI 8, .ref 12]), zA 256, .inr (0, [.ref 14, vI 9, vI 0, .ref 15, .ref 16]), .inl (0, aI 9 g), zA 9, .inr (3, [vI 8, vI 8, .ref 17]), zA 256, .inr (4, [.ref 19, .ref 20, vI 0]), zA 256, zA 256, .inr (1, [vI 0, .ref 22, .null, .int 0, .null, .null, .int 0, .int 0]), zA 256, zA 256] X
  refine R_put 27 c_11_24 rfl (rfl) (Nat.le_of_ble_eq_true rfl) rfl ?_
  show m_Ev scr 11 27 [(0, .ref 21)] [] [.inr (5, [.ref 2, .ref 11, .ref 13, .ref 18, .null, .null]), .inl (2, [.ref 3, .ref 5, .ref 7, .ref 9]), .inr (3, [vI 8, vI 8, .ref 4]), zA 256, .inr (3, [vI 8, vI 8, .ref 6]), zA 256, .inr (3, [vI 8, vI 8, .ref 8]), zA 256, .inr (3, [vI 8, vI 8, .ref 10]), zA 256, .inr (3, [vI 8, vI 8, .ref 12]), zA 256, .inr (0, [.ref 14, vI 9, vI 0, .ref 15, .ref 16]), .inl (0, aI 9 g), zA 9, .inr (3, [vI 8, vI 8, .ref 17]), zA 256, .inr (4, [.ref 19, .ref 20, vI 0]), zA 256, zA 256, .inr (1, [vI 0, .ref 22, .ref 23, .int 0, .null, .null, .int 0, .int 0]), zA 256, zA 256] X
  refine R_aload_n 28 c_11_27 rfl rfl ?_
  refine R_iconst 29 c_11_28 rfl ?_
  refine R_put 32 c_11_29 rfl (rfl) (Nat.le_of_ble_eq_true rfl) rfl ?_
  show m_Ev scr 11 32 [(0, .ref 21)] [] [.inr (5, [.ref 2, .ref 11, .ref 13, .ref 18, .null, .null]), .inl (2, [.ref 3, .ref 5, .ref 7, .ref 9]), .inr (3, [vI 8, vI 8, .ref 4]), zA 256, .inr (3, [vI 8, vI 8, .ref 6]), zA 256, .inr (3, [vI 8, vI 8, .ref 8]), zA 256, .inr (3, [vI 8, vI 8, .ref 10]), zA 256, .inr (3, [vI 8, vI 8, .ref 12]), zA 256, .inr (0, [.ref 14, vI 9, vI 0, .ref 15, .ref 16]), .inl (0, aI 9 g), zA 9, .inr (3, [vI 8, vI 8, .ref 17]), zA 256, .inr (4, [.ref 19, .ref 20, vI 0]), zA 256, zA 256, .inr (1, [vI 0, .ref 22, .ref 23, vI 0, .null, .null, .int 0, .int 0]), zA 256, zA 256] X
  refine R_aload_n 33 c_11_32 rfl rfl ?_
  refine R_sipush 36 c_11_33 rfl (by decide) ?_
  refine R_newa 38 (e := 256) c_11_36 rfl (by decide) ?_
  show m_Ev scr 11 38 [(0, .ref 21)] [.ref 24, .ref 21] [.inr (5, [.ref 2, .ref 11, .ref 13, .ref 18, .null, .null]), .inl (2, [.ref 3, .ref 5, .ref 7, .ref 9]), .inr (3, [vI 8, vI 8, .ref 4]), zA 256, .inr (3, [vI 8, vI 8, .ref 6]), zA 256, .inr (3, [vI 8, vI 8, .ref 8]), zA 256, .inr (3, [vI 8, vI 8, .ref 10]), zA 256, .inr (3, [vI 8, vI 8, .ref 12]), zA 256, .inr (0, [.ref 14, vI 9, vI 0, .ref 15, .ref 16]), .inl (0, aI 9 g), zA 9, .inr (3, [vI 8, vI 8, .ref 17]), zA 256, .inr (4, [.ref 19, .ref 20, vI 0]), zA 256, zA 256, .inr (1, [vI 0, .ref 22, .ref 23, vI 0, .null, .null, .int 0, .int 0]), zA 256, zA 256, zA 256] X
  refine R_put 41 c_11_38 rfl (rfl) (Nat.le_of_ble_eq_true rfl) rfl ?_
  show m_Ev scr 11 41 [(0, .ref 21)] [] [.inr (5, [.ref 2, .ref 11, .ref 13, .ref 18, .null, .null]), .inl (2, [.ref 3, .ref 5, .ref 7, .ref 9]), .inr (3, [vI 8, vI 8, .ref 4]), zA 256, .inr (3, [vI 8, vI 8, .ref 6]), zA 256, .inr (3, [vI 8, vI 8, .ref 8]), zA 256, .inr (3, [vI 8, vI 8, .ref 10]), zA 256, .inr (3, [vI 8, vI 8, .ref 12]), zA 256, .inr (0, [.ref 14, vI 9, vI 0, .ref 15, .ref 16]), .inl (0, aI 9 g), zA 9, .inr (3, [vI 8, vI 8, .ref 17]), zA 256, .inr (4, [.ref 19, .ref 20, vI 0]), zA 256, zA 256, .inr (1, [vI 0, .ref 22, .ref 23, vI 0, .ref 24, .null, .int 0, .int 0]), zA 256, zA 256, zA 256] X
  refine R_aload_n 42 c_11_41 rfl rfl ?_
  refine R_sipush 45 c_11_42 rfl (by decide) ?_
  refine R_newa 47 (e := 256) c_11_45 rfl (by decide) ?_
  show m_Ev scr 11 47 [(0, .ref 21)] [.ref 25, .ref 21] [.inr (5, [.ref 2, .ref 11, .ref 13, .ref 18, .null, .null]), .inl (2, [.ref 3, .ref 5, .ref 7, .ref 9]), .inr (3, [vI 8, vI 8, .ref 4]), zA 256, .inr (3, [vI 8, vI 8, .ref 6]), zA 256, .inr (3, [vI 8, vI 8, .ref 8]), zA 256, .inr (3, [vI 8, vI 8, .ref 10]), zA 256, .inr (3, [vI 8, vI 8, .ref 12]), zA 256, .inr (0, [.ref 14, vI 9, vI 0, .ref 15, .ref 16]), .inl (0, aI 9 g), zA 9, .inr (3, [vI 8, vI 8, .ref 17]), zA 256, .inr (4, [.ref 19, .ref 20, vI 0]), zA 256, zA 256, .inr (1, [vI 0, .ref 22, .ref 23, vI 0, .ref 24, .null, .int 0, .int 0]), zA 256, zA 256, zA 256, .inl (1, aI 256 (fun _ => 0))] X
  refine R_put 50 c_11_47 rfl (rfl) (Nat.le_of_ble_eq_true rfl) rfl ?_
  show m_Ev scr 11 50 [(0, .ref 21)] [] [.inr (5, [.ref 2, .ref 11, .ref 13, .ref 18, .null, .null]), .inl (2, [.ref 3, .ref 5, .ref 7, .ref 9]), .inr (3, [vI 8, vI 8, .ref 4]), zA 256, .inr (3, [vI 8, vI 8, .ref 6]), zA 256, .inr (3, [vI 8, vI 8, .ref 8]), zA 256, .inr (3, [vI 8, vI 8, .ref 10]), zA 256, .inr (3, [vI 8, vI 8, .ref 12]), zA 256, .inr (0, [.ref 14, vI 9, vI 0, .ref 15, .ref 16]), .inl (0, aI 9 g), zA 9, .inr (3, [vI 8, vI 8, .ref 17]), zA 256, .inr (4, [.ref 19, .ref 20, vI 0]), zA 256, zA 256, .inr (1, [vI 0, .ref 22, .ref 23, vI 0, .ref 24, .ref 25, .int 0, .int 0]), zA 256, zA 256, zA 256, .inl (1, aI 256 (fun _ => 0))] X
  refine R_aload_n 51 c_11_50 rfl rfl ?_
  refine R_iconst 52 c_11_51 rfl ?_
  refine R_put 55 c_11_52 rfl (rfl) (Nat.le_of_ble_eq_true rfl) rfl ?_
  show m_Ev scr 11 55 [(0, .ref 21)] [] [.inr (5, [.ref 2, .ref 11, .ref 13, .ref 18, .null, .null]), .inl (2, [.ref 3, .ref 5, .ref 7, .ref 9]), .inr (3, [vI 8, vI 8, .ref 4]), zA 256, .inr (3, [vI 8, vI 8, .ref 6]), zA 256, .inr (3, [vI 8, vI 8, .ref 8]), zA 256, .inr (3, [vI 8, vI 8, .ref 10]), zA 256, .inr (3, [vI 8, vI 8, .ref 12]), zA 256, .inr (0, [.ref 14, vI 9, vI 0, .ref 15, .ref 16]), .inl (0, aI 9 g), zA 9, .inr (3, [vI 8, vI 8, .ref 17]), zA 256, .inr (4, [.ref 19, .ref 20, vI 0]), zA 256, zA 256, .inr (1, [vI 0, .ref 22, .ref 23, vI 0, .ref 24, .ref 25, vI 0, .int 0]), zA 256, zA 256, zA 256, .inl (1, aI 256 (fun _ => 0))] X
  refine R_aload_n 56 c_11_55 rfl rfl ?_
  refine R_iconst 57 c_11_56 rfl ?_
  refine R_put 60 c_11_57 rfl (rfl) (Nat.le_of_ble_eq_true rfl) rfl ?_
  refine R_return c_11_60 rfl ?_
  exact hX _ _ rfl
theorem k_seamsInit (g : Int → Int) : m_Cl scr 23 [.ref 26] [.inr (5, [.ref 2, .ref 11, .ref 13, .ref 18, .ref 21, .null]), .inl (2, [.ref 3, .ref 5, .ref 7, .ref 9]), .inr (3, [vI 8, vI 8, .ref 4]), zA 256, .inr (3, [vI 8, vI 8, .ref 6]), zA 256, .inr (3, [vI 8, vI 8, .ref 8]), zA 256, .inr (3, [vI 8, vI 8, .ref 10]), zA 256, .inr (3, [vI 8, vI 8, .ref 12]), zA 256, .inr (0, [.ref 14, vI 9, vI 0, .ref 15, .ref 16]), .inl (0, aI 9 g), zA 9, .inr (3, [vI 8, vI 8, .ref 17]), zA 256, .inr (4, [.ref 19, .ref 20, vI 0]), zA 256, zA 256, .inr (1, [vI 0, .ref 22, .ref 23, vI 0, .ref 24, .ref 25, vI 0, vI 0]), zA 256, zA 256, zA 256, .inl (1, aI 256 (fun _ => 0)), .inr (2, [.int 0, .null, .null, .null])] none [.inr (5, [.ref 2, .ref 11, .ref 13, .ref 18, .ref 21, .null]), .inl (2, [.ref 3, .ref 5, .ref 7, .ref 9]), .inr (3, [vI 8, vI 8, .ref 4]), zA 256, .inr (3, [vI 8, vI 8, .ref 6]), zA 256, .inr (3, [vI 8, vI 8, .ref 8]), zA 256, .inr (3, [vI 8, vI 8, .ref 10]), zA 256, .inr (3, [vI 8, vI 8, .ref 12]), zA 256, .inr (0, [.ref 14, vI 9, vI 0, .ref 15, .ref 16]), .inl (0, aI 9 g), zA 9, .inr (3, [vI 8, vI 8, .ref 17]), zA 256, .inr (4, [.ref 19, .ref 20, vI 0]), zA 256, zA 256, .inr (1, [vI 0, .ref 22, .ref 23, vI 0, .ref 24, .ref 25, vI 0, vI 0]), zA 256, zA 256, zA 256, .inl (1, aI 256 (fun _ => 0)), .inr (2, [vI 0, .ref 27, .ref 28, .ref 29]), zA 16, zA 256, .inr (3, [vI 8, vI 8, .ref 30]), zA 256] := by
  show m_Ev scr 23 0 [(0, .ref 26)] [] [.inr (5, [.ref 2, .ref 11, .ref 13, .ref 18, .ref 21, .null]), .inl (2, [.ref 3, .ref 5, .ref 7, .ref 9]), .inr (3, [vI 8, vI 8, .ref 4]), zA 256, .inr (3, [vI 8, vI 8, .ref 6]), zA 256, .inr (3, [vI 8, vI 8, .ref 8]), zA 256, .inr (3, [vI 8, vI 8, .ref 10]), zA 256, .inr (3, [vI 8, vI 8, .ref 12]), zA 256, .inr (0, [.ref 14, vI 9, vI 0, .ref 15, .ref 16]), .inl (0, aI 9 g), zA 9, .inr (3, [vI 8, vI 8, .ref 17]), zA 256, .inr (4, [.ref 19, .ref 20, vI 0]), zA 256, zA 256, .inr (1, [vI 0, .ref 22, .ref 23, vI 0, .ref 24, .ref 25, vI 0, vI 0]), zA 256, zA 256, zA 256, .inl (1, aI 256 (fun _ => 0)), .inr (2, [.int 0, .null, .null, .null])] _
  refine m_gen (fun X hX => ?_)
  refine R_aload_n 1 c_23_0 rfl rfl ?_
  refine R_step c_23_1 rfl rfl rfl ?_
  refine R_aload_n 5 c_23_4 rfl rfl ?_
  refine R_iconst 6 c_23_5 rfl ?_
  refine R_put 9 c_23_6 rfl (rfl) (Nat.le_of_ble_eq_true rfl) rfl ?_
  show m_Ev scr 23 9 [(0, .ref 26)] [] [.inr (5, [.ref 2, .ref 11, .ref 13, .ref 18, .ref 21, .null]), .inl (2, [.ref 3, .ref 5, .ref 7, .ref 9]), .inr (3, [vI 8, vI 8, .ref 4]), zA 256, .inr (3, [vI 8, vI 8, .ref 6]), zA 256, .inr (3, [vI 8, vI 8, .ref 8]), zA 256, .inr (3, [vI 8, vI 8, .ref 10]), zA 256, .inr (3, [vI 8, vI 8, .ref 12]), zA 256, .inr (0, [.ref 14, vI 9, vI 0, .ref 15, .ref 16]), .inl (0, aI 9 g), zA 9, .inr (3, [vI 8, vI 8, .ref 17]), zA 256, .inr (4, [.ref 19, .ref 20, vI 0]), zA 256, zA 256, .inr (1, [vI 0, .ref 22, .ref 23, vI 0, .ref 24, .ref 25, vI 0, vI 0]), zA 256, zA 256, zA 256, .inl (1, aI 256 (fun _ => 0)), .inr (2, [vI 0, .null, .null, .null])] X
  refine R_aload_n 10 c_23_9 rfl rfl ?_
  refine R_bipush 12 c_23_10 rfl (by decide) ?_
  refine R_newa 14 (e := 16) c_23_12 rfl (by decide) ?_
  show m_Ev scr 23 14 [(0, .ref 26)] [.ref 27, .ref 26] [.inr (5, [.ref 2, .ref 11, .ref 13, .ref 18, .ref 21, .null]), .inl (2, [.ref 3, .ref 5, .ref 7, .ref 9]), .inr (3, [vI 8, vI 8, .ref 4]), zA 256, .inr (3, [vI 8, vI 8, .ref 6]), zA 256, .inr (3, [vI 8, vI 8, .ref 8]), zA 256, .inr (3, [vI 8, vI 8, .ref 10]), zA 256, .inr (3, [vI 8, vI 8, .ref 12]), zA 256, .inr (0, [.ref 14, vI 9, vI 0, .ref 15, .ref 16]), .inl (0, aI 9 g), zA 9, .inr (3, [vI 8, vI 8, .ref 17]), zA 256, .inr (4, [.ref 19, .ref 20, vI 0]), zA 256, zA 256, .inr (1, [vI 0, .ref 22, .ref 23, vI 0, .ref 24, .ref 25, vI 0, vI 0]), zA 256, zA 256, zA 256, .inl (1, aI 256 (fun _ => 0)), .inr (2, [vI 0, .null, .null, .null]), zA 16] X
  refine R_put 17 c_23_14 rfl (rfl) (Nat.le_of_ble_eq_true rfl) rfl ?_
  show m_Ev scr 23 17 [(0, .ref 26)] [] [.inr (5, [.ref 2, .ref 11, .ref 13, .ref 18, .ref 21, .null]), .inl (2, [.ref 3, .ref 5, .ref 7, .ref 9]), .inr (3, [vI 8, vI 8, .ref 4]), zA 256, .inr (3, [vI 8, vI 8, .ref 6]), zA 256, .inr (3, [vI 8, vI 8, .ref 8]), zA 256, .inr (3, [vI 8, vI 8, .ref 10]), zA 256, .inr (3, [vI 8, vI 8, .ref 12]), zA 256, .inr (0, [.ref 14, vI 9, vI 0, .ref 15, .ref 16]), .inl (0, aI 9 g), zA 9, .inr (3, [vI 8, vI 8, .ref 17]), zA 256, .inr (4, [.ref 19, .ref 20, vI 0]), zA 256, zA 256, .inr (1, [vI 0, .ref 22, .ref 23, vI 0, .ref 24, .ref 25, vI 0, vI 0]), zA 256, zA 256, zA 256, .inl (1, aI 256 (fun _ => 0)), .inr (2, [vI 0, .ref 27, .null, .null]), zA 16] X
  refine R_aload_n 18 c_23_17 rfl rfl ?_
  refine R_sipush 21 c_23_18 rfl (by decide) ?_
  refine R_newa 23 (e := 256) c_23_21 rfl (by decide) ?_
  show m_Ev scr 23 23 [(0, .ref 26)] [.ref 28, .ref 26] [.inr (5, [.ref 2, .ref 11, .ref 13, .ref 18, .ref 21, .null]), .inl (2, [.ref 3, .ref 5, .ref 7, .ref 9]), .inr (3, [vI 8, vI 8, .ref 4]), zA 256, .inr (3, [vI 8, vI 8, .ref 6]), zA 256, .inr (3, [vI 8, vI 8, .ref 8]), zA 256, .inr (3, [vI 8, vI 8, .ref 10]), zA 256, .inr (3, [vI 8, vI 8, .ref 12]), zA 256, .inr (0, [.ref 14, vI 9, vI 0, .ref 15, .ref 16]), .inl (0, aI 9 g), zA 9, .inr (3, [vI 8, vI 8, .ref 17]), zA 256, .inr (4, [.ref 19, .ref 20, vI 0]), zA 256, zA 256, .inr (1, [vI 0, .ref 22, .ref 23, vI 0, .ref 24, .ref 25, vI 0, vI 0]), zA 256, zA 256, zA 256, .inl (1, aI 256 (fun _ => 0)), .inr (2, [vI 0, .ref 27, .null, .null]), zA 16, zA 256] X
  refine R_put 26 c_23_23 rfl (rfl) (Nat.le_of_ble_eq_true rfl) rfl ?_
  show m_Ev scr 23 26 [(0, .ref 26)] [] [.inr (5, [.ref 2, .ref 11, .ref 13, .ref 18, .ref 21, .null]), .inl (2, [.ref 3, .ref 5, .ref 7, .ref 9]), .inr (3, [vI 8, vI 8, .ref 4]), zA 256, .inr (3, [vI 8, vI 8, .ref 6]), zA 256, .inr (3, [vI 8, vI 8, .ref 8]), zA 256, .inr (3, [vI 8, vI 8, .ref 10]), zA 256, .inr (3, [vI 8, vI 8, .ref 12]), zA 256, .inr (0, [.ref 14, vI 9, vI 0, .ref 15, .ref 16]), .inl (0, aI 9 g), zA 9, .inr (3, [vI 8, vI 8, .ref 17]), zA 256, .inr (4, [.ref 19, .ref 20, vI 0]), zA 256, zA 256, .inr (1, [vI 0, .ref 22, .ref 23, vI 0, .ref 24, .ref 25, vI 0, vI 0]), zA 256, zA 256, zA 256, .inl (1, aI 256 (fun _ => 0)), .inr (2, [vI 0, .ref 27, .ref 28, .null]), zA 16, zA 256] X
  refine R_aload_n 27 c_23_26 rfl rfl ?_
  refine R_step c_23_27 rfl rfl rfl ?_
  show m_Ev scr 23 30 [(0, .ref 26)] [.ref 29, .ref 26] [.inr (5, [.ref 2, .ref 11, .ref 13, .ref 18, .ref 21, .null]), .inl (2, [.ref 3, .ref 5, .ref 7, .ref 9]), .inr (3, [vI 8, vI 8, .ref 4]), zA 256, .inr (3, [vI 8, vI 8, .ref 6]), zA 256, .inr (3, [vI 8, vI 8, .ref 8]), zA 256, .inr (3, [vI 8, vI 8, .ref 10]), zA 256, .inr (3, [vI 8, vI 8, .ref 12]), zA 256, .inr (0, [.ref 14, vI 9, vI 0, .ref 15, .ref 16]), .inl (0, aI 9 g), zA 9, .inr (3, [vI 8, vI 8, .ref 17]), zA 256, .inr (4, [.ref 19, .ref 20, vI 0]), zA 256, zA 256, .inr (1, [vI 0, .ref 22, .ref 23, vI 0, .ref 24, .ref 25, vI 0, vI 0]), zA 256, zA 256, zA 256, .inl (1, aI 256 (fun _ => 0)), .inr (2, [vI 0, .ref 27, .ref 28, .null]), zA 16, zA 256, .inr (3, [.int 0, .int 0, .null])] X
  refine R_dup 31 c_23_30 rfl rfl ?_
  refine R_callI 34 c_23_31 rfl rfl rfl rfl rfl (Nat.le_of_ble_eq_true rfl) (Nat.le_of_ble_eq_true rfl) rfl (k_sheetInit rfl) ?_
  show m_Ev scr 23 34 [(0, .ref 26)] [.ref 29, .ref 26] [.inr (5, [.ref 2, .ref 11, .ref 13, .ref 18, .ref 21, .null]), .inl (2, [.ref 3, .ref 5, .ref 7, .ref 9]), .inr (3, [vI 8, vI 8, .ref 4]), zA 256, .inr (3, [vI 8, vI 8, .ref 6]), zA 256, .inr (3, [vI 8, vI 8, .ref 8]), zA 256, .inr (3, [vI 8, vI 8, .ref 10]), zA 256, .inr (3, [vI 8, vI 8, .ref 12]), zA 256, .inr (0, [.ref 14, vI 9, vI 0, .ref 15, .ref 16]), .inl (0, aI 9 g), zA 9, .inr (3, [vI 8, vI 8, .ref 17]), zA 256, .inr (4, [.ref 19, .ref 20, vI 0]), zA 256, zA 256, .inr (1, [vI 0, .ref 22, .ref 23, vI 0, .ref 24, .ref 25, vI 0, vI 0]), zA 256, zA 256, zA 256, .inl (1, aI 256 (fun _ => 0)), .inr (2, [vI 0, .ref 27, .ref 28, .null]), zA 16, zA 256, .inr (3, [vI 8, vI 8, .ref 30]), zA 256] X
  refine R_put 37 c_23_34 rfl (rfl) (Nat.le_of_ble_eq_true rfl) rfl ?_
  refine R_return c_23_37 rfl ?_
  exact hX _ _ rfl
theorem k_init : m_CP scr 51 [.ref 1] [.inr (5, [.null, .null, .null, .null, .null, .null])] (fun v1 H1 => v1 = none ∧ ∃ g, H1 = [.inr (5, [.ref 2, .ref 11, .ref 13, .ref 18, .ref 21, .ref 26]), .inl (2, [.ref 3, .ref 5, .ref 7, .ref 9]), .inr (3, [vI 8, vI 8, .ref 4]), zA 256, .inr (3, [vI 8, vI 8, .ref 6]), zA 256, .inr (3, [vI 8, vI 8, .ref 8]), zA 256, .inr (3, [vI 8, vI 8, .ref 10]), zA 256, .inr (3, [vI 8, vI 8, .ref 12]), zA 256, .inr (0, [.ref 14, vI 9, vI 0, .ref 15, .ref 16]), .inl (0, aI 9 g), zA 9, .inr (3, [vI 8, vI 8, .ref 17]), zA 256, .inr (4, [.ref 19, .ref 20, vI 0]), zA 256, zA 256, .inr (1, [vI 0, .ref 22, .ref 23, vI 0, .ref 24, .ref 25, vI 0, vI 0]), zA 256, zA 256, zA 256, .inl (1, aI 256 (fun _ => 0)), .inr (2, [vI 0, .ref 27, .ref 28, .ref 29]), zA 16, zA 256, .inr (3, [vI 8, vI 8, .ref 30]), zA 256]) := by
  refine m_CP.of ?_
  show m_Ev scr 51 0 [(0, .ref 1)] [] [.inr (5, [.null, .null, .null, .null, .null, .null])] _
  refine m_gen (fun X hX => ?_)
  refine R_aload_n 1 c_51_0 rfl rfl ?_
  refine R_step c_51_1 rfl rfl rfl ?_
  refine R_aload_n 5 c_51_4 rfl rfl ?_
  refine R_iconst 6 c_51_5 rfl ?_
  refine R_anewa 9 (e := 4) c_51_6 rfl (by decide) ?_
  show m_Ev scr 51 9 [(0, .ref 1)] [.ref 2, .ref 1] [.inr (5, [.null, .null, .null, .null, .null, .null]), .inl (2, [.null, .null, .null, .null])] X
  refine R_put 12 c_51_9 rfl (rfl) (Nat.le_of_ble_eq_true rfl) rfl ?_
  refine R_iconst 13 c_51_12 rfl ?_
  refine R_istore_n 14 c_51_13 rfl ?_
  show m_Ev scr 51 14 [(0, .ref 1), (1, vI 0)] [] [.inr (5, [.ref 2, .null, .null, .null, .null, .null]), .inl (2, [.null, .null, .null, .null])] X
  refine R_iload_n 15 c_51_14 rfl rfl ?_
  refine R_iconst 16 c_51_15 rfl ?_
  refine R_br 19 38 _ (cmp_ge (by unfold inR; omega) (by unfold inR; omega)) c_51_16 rfl rfl (fun hn => absurd hn (by omega)) (fun _ => ?_)
  refine R_aload_n 20 c_51_19 rfl rfl ?_
  refine R_get 23 c_51_20 rfl (rfl) rfl ?_
  refine R_iload_n 24 c_51_23 rfl rfl ?_
  refine R_step c_51_24 rfl rfl rfl ?_
  show m_Ev scr 51 27 [(0, .ref 1), (1, vI 0)] [.ref 3, vI 0, .ref 2] [.inr (5, [.ref 2, .null, .null, .null, .null, .null]), .inl (2, [.null, .null, .null, .null]), .inr (3, [.int 0, .int 0, .null])] X
  refine R_dup 28 c_51_27 rfl rfl ?_
  refine R_callI 31 c_51_28 rfl rfl rfl rfl rfl (Nat.le_of_ble_eq_true rfl) (Nat.le_of_ble_eq_true rfl) rfl (k_sheetInit rfl) ?_
  show m_Ev scr 51 31 [(0, .ref 1), (1, vI 0)] [.ref 3, vI 0, .ref 2] [.inr (5, [.ref 2, .null, .null, .null, .null, .null]), .inl (2, [.null, .null, .null, .null]), .inr (3, [vI 8, vI 8, .ref 4]), zA 256] X
  refine R_step c_51_31 rfl rfl rfl ?_
  show m_Ev scr 51 32 [(0, .ref 1), (1, vI 0)] [] [.inr (5, [.ref 2, .null, .null, .null, .null, .null]), .inl (2, [.ref 3, .null, .null, .null]), .inr (3, [vI 8, vI 8, .ref 4]), zA 256] X
  refine R_iinc 35 c_51_32 rfl rfl ?_
  refine R_goto 14 c_51_35 rfl ?_
  show m_Ev scr 51 14 [(0, .ref 1), (1, vI 1)] [] [.inr (5, [.ref 2, .null, .null, .null, .null, .null]), .inl (2, [.ref 3, .null, .null, .null]), .inr (3, [vI 8, vI 8, .ref 4]), zA 256] X
  refine R_iload_n 15 c_51_14 rfl rfl ?_
  refine R_iconst 16 c_51_15 rfl ?_
  refine R_br 19 38 _ (cmp_ge (by unfold inR; omega) (by unfold inR; omega)) c_51_16 rfl rfl (fun hn => absurd hn (by omega)) (fun _ => ?_)
  refine R_aload_n 20 c_51_19 rfl rfl ?_
  refine R_get 23 c_51_20 rfl (rfl) rfl ?_
  refine R_iload_n 24 c_51_23 rfl rfl ?_
  refine R_step c_51_24 rfl rfl rfl ?_
  show m_Ev scr 51 27 [(0, .ref 1), (1, vI 1)] [.ref 5, vI 1, .ref 2] [.inr (5, [.ref 2, .null, .null, .null, .null, .null]), .inl (2, [.ref 3, .null, .null, .null]), .inr (3, [vI 8, vI 8, .ref 4]), zA 256, .inr (3, [.int 0, .int 0, .null])] X
  refine R_dup 28 c_51_27 rfl rfl ?_
  refine R_callI 31 c_51_28 rfl rfl rfl rfl rfl (Nat.le_of_ble_eq_true rfl) (Nat.le_of_ble_eq_true rfl) rfl (k_sheetInit rfl) ?_
  show m_Ev scr 51 31 [(0, .ref 1), (1, vI 1)] [.ref 5, vI 1, .ref 2] [.inr (5, [.ref 2, .null, .null, .null, .null, .null]), .inl (2, [.ref 3, .null, .null, .null]), .inr (3, [vI 8, vI 8, .ref 4]), zA 256, .inr (3, [vI 8, vI 8, .ref 6]), zA 256] X
  refine R_step c_51_31 rfl rfl rfl ?_
  show m_Ev scr 51 32 [(0, .ref 1), (1, vI 1)] [] [.inr (5, [.ref 2, .null, .null, .null, .null, .null]), .inl (2, [.ref 3, .ref 5, .null, .null]), .inr (3, [vI 8, vI 8, .ref 4]), zA 256, .inr (3, [vI 8, vI 8, .ref 6]), zA 256] X
  refine R_iinc 35 c_51_32 rfl rfl ?_
  refine R_goto 14 c_51_35 rfl ?_
  show m_Ev scr 51 14 [(0, .ref 1), (1, vI 2)] [] [.inr (5, [.ref 2, .null, .null, .null, .null, .null]), .inl (2, [.ref 3, .ref 5, .null, .null]), .inr (3, [vI 8, vI 8, .ref 4]), zA 256, .inr (3, [vI 8, vI 8, .ref 6]), zA 256] X
  refine R_iload_n 15 c_51_14 rfl rfl ?_
  refine R_iconst 16 c_51_15 rfl ?_
  refine R_br 19 38 _ (cmp_ge (by unfold inR; omega) (by unfold inR; omega)) c_51_16 rfl rfl (fun hn => absurd hn (by omega)) (fun _ => ?_)
  refine R_aload_n 20 c_51_19 rfl rfl ?_
  refine R_get 23 c_51_20 rfl (rfl) rfl ?_
  refine R_iload_n 24 c_51_23 rfl rfl ?_
  refine R_step c_51_24 rfl rfl rfl ?_
  show m_Ev scr 51 27 [(0, .ref 1), (1, vI 2)] [.ref 7, vI 2, .ref 2] [.inr (5, [.ref 2, .null, .null, .null, .null, .null]), .inl (2, [.ref 3, .ref 5, .null, .null]), .inr (3, [vI 8, vI 8, .ref 4]), zA 256, .inr (3, [vI 8, vI 8, .ref 6]), zA 256, .inr (3, [.int 0, .int 0, .null])] X
  refine R_dup 28 c_51_27 rfl rfl ?_
  refine R_callI 31 c_51_28 rfl rfl rfl rfl rfl (Nat.le_of_ble_eq_true rfl) (Nat.le_of_ble_eq_true rfl) rfl (k_sheetInit rfl) ?_
  show m_Ev scr 51 31 [(0, .ref 1), (1, vI 2)] [.ref 7, vI 2, .ref 2] [.inr (5, [.ref 2, .null, .null, .null, .null, .null]), .inl (2, [.ref 3, .ref 5, .null, .null]), .inr (3, [vI 8, vI 8, .ref 4]), zA 256, .inr (3, [vI 8, vI 8, .ref 6]), zA 256, .inr (3, [vI 8, vI 8, .ref 8]), zA 256] X
  refine R_step c_51_31 rfl rfl rfl ?_
  show m_Ev scr 51 32 [(0, .ref 1), (1, vI 2)] [] [.inr (5, [.ref 2, .null, .null, .null, .null, .null]), .inl (2, [.ref 3, .ref 5, .ref 7, .null]), .inr (3, [vI 8, vI 8, .ref 4]), zA 256, .inr (3, [vI 8, vI 8, .ref 6]), zA 256, .inr (3, [vI 8, vI 8, .ref 8]), zA 256] X
  refine R_iinc 35 c_51_32 rfl rfl ?_
  refine R_goto 14 c_51_35 rfl ?_
  show m_Ev scr 51 14 [(0, .ref 1), (1, vI 3)] [] [.inr (5, [.ref 2, .null, .null, .null, .null, .null]), .inl (2, [.ref 3, .ref 5, .ref 7, .null]), .inr (3, [vI 8, vI 8, .ref 4]), zA 256, .inr (3, [vI 8, vI 8, .ref 6]), zA 256, .inr (3, [vI 8, vI 8, .ref 8]), zA 256] X
  refine R_iload_n 15 c_51_14 rfl rfl ?_
  refine R_iconst 16 c_51_15 rfl ?_
  refine R_br 19 38 _ (cmp_ge (by unfold inR; omega) (by unfold inR; omega)) c_51_16 rfl rfl (fun hn => absurd hn (by omega)) (fun _ => ?_)
  refine R_aload_n 20 c_51_19 rfl rfl ?_
  refine R_get 23 c_51_20 rfl (rfl) rfl ?_
  refine R_iload_n 24 c_51_23 rfl rfl ?_
  refine R_step c_51_24 rfl rfl rfl ?_
  show m_Ev scr 51 27 [(0, .ref 1), (1, vI 3)] [.ref 9, vI 3, .ref 2] [.inr (5, [.ref 2, .null, .null, .null, .null, .null]), .inl (2, [.ref 3, .ref 5, .ref 7, .null]), .inr (3, [vI 8, vI 8, .ref 4]), zA 256, .inr (3, [vI 8, vI 8, .ref 6]), zA 256, .inr (3, [vI 8, vI 8, .ref 8]), zA 256, .inr (3, [.int 0, .int 0, .null])] X
  refine R_dup 28 c_51_27 rfl rfl ?_
  refine R_callI 31 c_51_28 rfl rfl rfl rfl rfl (Nat.le_of_ble_eq_true rfl) (Nat.le_of_ble_eq_true rfl) rfl (k_sheetInit rfl) ?_
  show m_Ev scr 51 31 [(0, .ref 1), (1, vI 3)] [.ref 9, vI 3, .ref 2] [.inr (5, [.ref 2, .null, .null, .null, .null, .null]), .inl (2, [.ref 3, .ref 5, .ref 7, .null]), .inr (3, [vI 8, vI 8, .ref 4]), zA 256, .inr (3, [vI 8, vI 8, .ref 6]), zA 256, .inr (3, [vI 8, vI 8, .ref 8]), zA 256, .inr (3, [vI 8, vI 8, .ref 10]), zA 256] X
  refine R_step c_51_31 rfl rfl rfl ?_
  show m_Ev scr 51 32 [(0, .ref 1), (1, vI 3)] [] [.inr (5, [.ref 2, .null, .null, .null, .null, .null]), .inl (2, [.ref 3, .ref 5, .ref 7, .ref 9]), .inr (3, [vI 8, vI 8, .ref 4]), zA 256, .inr (3, [vI 8, vI 8, .ref 6]), zA 256, .inr (3, [vI 8, vI 8, .ref 8]), zA 256, .inr (3, [vI 8, vI 8, .ref 10]), zA 256] X
  refine R_iinc 35 c_51_32 rfl rfl ?_
  refine R_goto 14 c_51_35 rfl ?_
  show m_Ev scr 51 14 [(0, .ref 1), (1, vI 4)] [] [.inr (5, [.ref 2, .null, .null, .null, .null, .null]), .inl (2, [.ref 3, .ref 5, .ref 7, .ref 9]), .inr (3, [vI 8, vI 8, .ref 4]), zA 256, .inr (3, [vI 8, vI 8, .ref 6]), zA 256, .inr (3, [vI 8, vI 8, .ref 8]), zA 256, .inr (3, [vI 8, vI 8, .ref 10]), zA 256] X
  refine R_iload_n 15 c_51_14 rfl rfl ?_
  refine R_iconst 16 c_51_15 rfl ?_
  refine R_br 19 38 _ (cmp_ge (by unfold inR; omega) (by unfold inR; omega)) c_51_16 rfl rfl (fun _ => ?_) (fun hn => absurd (by omega) hn)
  refine R_aload_n 39 c_51_38 rfl rfl ?_
  refine R_step c_51_39 rfl rfl rfl ?_
  show m_Ev scr 51 42 [(0, .ref 1), (1, vI 4)] [.ref 11, .ref 1] [.inr (5, [.ref 2, .null, .null, .null, .null, .null]), .inl (2, [.ref 3, .ref 5, .ref 7, .ref 9]), .inr (3, [vI 8, vI 8, .ref 4]), zA 256, .inr (3, [vI 8, vI 8, .ref 6]), zA 256, .inr (3, [vI 8, vI 8, .ref 8]), zA 256, .inr (3, [vI 8, vI 8, .ref 10]), zA 256, .inr (3, [.int 0, .int 0, .null])] X
  refine R_dup 43 c_51_42 rfl rfl ?_
  refine R_callI 46 c_51_43 rfl rfl rfl rfl rfl (Nat.le_of_ble_eq_true rfl) (Nat.le_of_ble_eq_true rfl) rfl (k_sheetInit rfl) ?_
  show m_Ev scr 51 46 [(0, .ref 1), (1, vI 4)] [.ref 11, .ref 1] [.inr (5, [.ref 2, .null, .null, .null, .null, .null]), .inl (2, [.ref 3, .ref 5, .ref 7, .ref 9]), .inr (3, [vI 8, vI 8, .ref 4]), zA 256, .inr (3, [vI 8, vI 8, .ref 6]), zA 256, .inr (3, [vI 8, vI 8, .ref 8]), zA 256, .inr (3, [vI 8, vI 8, .ref 10]), zA 256, .inr (3, [vI 8, vI 8, .ref 12]), zA 256] X
  refine R_put 49 c_51_46 rfl (rfl) (Nat.le_of_ble_eq_true rfl) rfl ?_
  show m_Ev scr 51 49 [(0, .ref 1), (1, vI 4)] [] [.inr (5, [.ref 2, .ref 11, .null, .null, .null, .null]), .inl (2, [.ref 3, .ref 5, .ref 7, .ref 9]), .inr (3, [vI 8, vI 8, .ref 4]), zA 256, .inr (3, [vI 8, vI 8, .ref 6]), zA 256, .inr (3, [vI 8, vI 8, .ref 8]), zA 256, .inr (3, [vI 8, vI 8, .ref 10]), zA 256, .inr (3, [vI 8, vI 8, .ref 12]), zA 256] X
  refine R_aload_n 50 c_51_49 rfl rfl ?_
  refine R_step c_51_50 rfl rfl rfl ?_
  show m_Ev scr 51 53 [(0, .ref 1), (1, vI 4)] [.ref 13, .ref 1] [.inr (5, [.ref 2, .ref 11, .null, .null, .null, .null]), .inl (2, [.ref 3, .ref 5, .ref 7, .ref 9]), .inr (3, [vI 8, vI 8, .ref 4]), zA 256, .inr (3, [vI 8, vI 8, .ref 6]), zA 256, .inr (3, [vI 8, vI 8, .ref 8]), zA 256, .inr (3, [vI 8, vI 8, .ref 10]), zA 256, .inr (3, [vI 8, vI 8, .ref 12]), zA 256, .inr (0, [.null, .int 0, .int 0, .null, .null])] X
  refine R_dup 54 c_51_53 rfl rfl ?_
  obtain ⟨v1, H1, hc1, rfl, g, rfl⟩ := k_filtersInit (scr := scr)
  refine R_callI 57 c_51_54 rfl rfl rfl rfl rfl (Nat.le_of_ble_eq_true rfl) (Nat.le_of_ble_eq_true rfl) rfl (hc1) ?_
  show m_Ev scr 51 57 [(0, .ref 1), (1, vI 4)] [.ref 13, .ref 1] [.inr (5, [.ref 2, .ref 11, .null, .null, .null, .null]), .inl (2, [.ref 3, .ref 5, .ref 7, .ref 9]), .inr (3, [vI 8, vI 8, .ref 4]), zA 256, .inr (3, [vI 8, vI 8, .ref 6]), zA 256, .inr (3, [vI 8, vI 8, .ref 8]), zA 256, .inr (3, [vI 8, vI 8, .ref 10]), zA 256, .inr (3, [vI 8, vI 8, .ref 12]), zA 256, .inr (0, [.ref 14, vI 9, vI 0, .ref 15, .ref 16]), .inl (0, aI 9 g), zA 9, .inr (3, [vI 8, vI 8, .ref 17]), zA 256] X
  refine R_put 60 c_51_57 rfl (rfl) (Nat.le_of_ble_eq_true rfl) rfl ?_
  show m_Ev scr 51 60 [(0, .ref 1), (1, vI 4)] [] [.inr (5, [.ref 2, .ref 11, .ref 13, .null, .null, .null]), .inl (2, [.ref 3, .ref 5, .ref 7, .ref 9]), .inr (3, [vI 8, vI 8, .ref 4]), zA 256, .inr (3, [vI 8, vI 8, .ref 6]), zA 256, .inr (3, [vI 8, vI 8, .ref 8]), zA 256, .inr (3, [vI 8, vI 8, .ref 10]), zA 256, .inr (3, [vI 8, vI 8, .ref 12]), zA 256, .inr (0, [.ref 14, vI 9, vI 0, .ref 15, .ref 16]), .inl (0, aI 9 g), zA 9, .inr (3, [vI 8, vI 8, .ref 17]), zA 256] X
  refine R_aload_n 61 c_51_60 rfl rfl ?_
  refine R_step c_51_61 rfl rfl rfl ?_
  show m_Ev scr 51 64 [(0, .ref 1), (1, vI 4)] [.ref 18, .ref 1] [.inr (5, [.ref 2, .ref 11, .ref 13, .null, .null, .null]), .inl (2, [.ref 3, .ref 5, .ref 7, .ref 9]), .inr (3, [vI 8, vI 8, .ref 4]), zA 256, .inr (3, [vI 8, vI 8, .ref 6]), zA 256, .inr (3, [vI 8, vI 8, .ref 8]), zA 256, .inr (3, [vI 8, vI 8, .ref 10]), zA 256, .inr (3, [vI 8, vI 8, .ref 12]), zA 256, .inr (0, [.ref 14, vI 9, vI 0, .ref 15, .ref 16]), .inl (0, aI 9 g), zA 9, .inr (3, [vI 8, vI 8, .ref 17]), zA 256, .inr (4, [.null, .null, .int 0])] X
  refine R_dup 65 c_51_64 rfl rfl ?_
  refine R_callI 68 c_51_65 rfl rfl rfl rfl rfl (Nat.le_of_ble_eq_true rfl) (Nat.le_of_ble_eq_true rfl) rfl (k_tonesInit g) ?_
  show m_Ev scr 51 68 [(0, .ref 1), (1, vI 4)] [.ref 18, .ref 1] [.inr (5, [.ref 2, .ref 11, .ref 13, .null, .null, .null]), .inl (2, [.ref 3, .ref 5, .ref 7, .ref 9]), .inr (3, [vI 8, vI 8, .ref 4]), zA 256, .inr (3, [vI 8, vI 8, .ref 6]), zA 256, .inr (3, [vI 8, vI 8, .ref 8]), zA 256, .inr (3, [vI 8, vI 8, .ref 10]), zA 256, .inr (3, [vI 8, vI 8, .ref 12]), zA 256, .inr (0, [.ref 14, vI 9, vI 0, .ref 15, .ref 16]), .inl (0, aI 9 g), zA 9, .inr (3, [vI 8, vI 8, .ref 17]), zA 256, .inr (4, [.ref 19, .ref 20, vI 0]), zA 256, zA 256] X
  refine R_put 71 c_51_68 rfl (rfl) (Nat.le_of_ble_eq_true rfl) rfl ?_
  show m_Ev scr 51 71 [(0, .ref 1), (1, vI 4)] [] [.inr (5, [.ref 2, .ref 11, .ref 13, .ref 18, .null, .null]), .inl (2, [.ref 3, .ref 5, .ref 7, .ref 9]), .inr (3, [vI 8, vI 8, .ref 4]), zA 256, .inr (3, [vI 8, vI 8, .ref 6]), zA 256, .inr (3, [vI 8, vI 8, .ref 8]), zA 256, .inr (3, [vI 8, vI 8, .ref 10]), zA 256, .inr (3, [vI 8, vI 8, .ref 12]), zA 256, .inr (0, [.ref 14, vI 9, vI 0, .ref 15, .ref 16]), .inl (0, aI 9 g), zA 9, .inr (3, [vI 8, vI 8, .ref 17]), zA 256, .inr (4, [.ref 19, .ref 20, vI 0]), zA 256, zA 256] X
  refine R_aload_n 72 c_51_71 rfl rfl ?_
  refine R_step c_51_72 rfl rfl rfl ?_
  show m_Ev scr 51 75 [(0, .ref 1), (1, vI 4)] [.ref 21, .ref 1] [.inr (5, [.ref 2, .ref 11, .ref 13, .ref 18, .null, .null]), .inl (2, [.ref 3, .ref 5, .ref 7, .ref 9]), .inr (3, [vI 8, vI 8, .ref 4]), zA 256, .inr (3, [vI 8, vI 8, .ref 6]), zA 256, .inr (3, [vI 8, vI 8, .ref 8]), zA 256, .inr (3, [vI 8, vI 8, .ref 10]), zA 256, .inr (3, [vI 8, vI 8, .ref 12]), zA 256, .inr (0, [.ref 14, vI 9, vI 0, .ref 15, .ref 16]), .inl (0, aI 9 g), zA 9, .inr (3, [vI 8, vI 8, .ref 17]), zA 256, .inr (4, [.ref 19, .ref 20, vI 0]), zA 256, zA 256, .inr (1, [.int 0, .null, .null, .int 0, .null, .null, .int 0, .int 0])] X
  refine R_dup 76 c_51_75 rfl rfl ?_
  refine R_callI 79 c_51_76 rfl rfl rfl rfl rfl (Nat.le_of_ble_eq_true rfl) (Nat.le_of_ble_eq_true rfl) rfl (k_partsInit g) ?_
  show m_Ev scr 51 79 [(0, .ref 1), (1, vI 4)] [.ref 21, .ref 1] [.inr (5, [.ref 2, .ref 11, .ref 13, .ref 18, .null, .null]), .inl (2, [.ref 3, .ref 5, .ref 7, .ref 9]), .inr (3, [vI 8, vI 8, .ref 4]), zA 256, .inr (3, [vI 8, vI 8, .ref 6]), zA 256, .inr (3, [vI 8, vI 8, .ref 8]), zA 256, .inr (3, [vI 8, vI 8, .ref 10]), zA 256, .inr (3, [vI 8, vI 8, .ref 12]), zA 256, .inr (0, [.ref 14, vI 9, vI 0, .ref 15, .ref 16]), .inl (0, aI 9 g), zA 9, .inr (3, [vI 8, vI 8, .ref 17]), zA 256, .inr (4, [.ref 19, .ref 20, vI 0]), zA 256, zA 256, .inr (1, [vI 0, .ref 22, .ref 23, vI 0, .ref 24, .ref 25, vI 0, vI 0]), zA 256, zA 256, zA 256, .inl (1, aI 256 (fun _ => 0))] X
  refine R_put 82 c_51_79 rfl (rfl) (Nat.le_of_ble_eq_true rfl) rfl ?_
  show m_Ev scr 51 82 [(0, .ref 1), (1, vI 4)] [] [.inr (5, [.ref 2, .ref 11, .ref 13, .ref 18, .ref 21, .null]), .inl (2, [.ref 3, .ref 5, .ref 7, .ref 9]), .inr (3, [vI 8, vI 8, .ref 4]), zA 256, .inr (3, [vI 8, vI 8, .ref 6]), zA 256, .inr (3, [vI 8, vI 8, .ref 8]), zA 256, .inr (3, [vI 8, vI 8, .ref 10]), zA 256, .inr (3, [vI 8, vI 8, .ref 12]), zA 256, .inr (0, [.ref 14, vI 9, vI 0, .ref 15, .ref 16]), .inl (0, aI 9 g), zA 9, .inr (3, [vI 8, vI 8, .ref 17]), zA 256, .inr (4, [.ref 19, .ref 20, vI 0]), zA 256, zA 256, .inr (1, [vI 0, .ref 22, .ref 23, vI 0, .ref 24, .ref 25, vI 0, vI 0]), zA 256, zA 256, zA 256, .inl (1, aI 256 (fun _ => 0))] X
  refine R_aload_n 83 c_51_82 rfl rfl ?_
  refine R_step c_51_83 rfl rfl rfl ?_
  show m_Ev scr 51 86 [(0, .ref 1), (1, vI 4)] [.ref 26, .ref 1] [.inr (5, [.ref 2, .ref 11, .ref 13, .ref 18, .ref 21, .null]), .inl (2, [.ref 3, .ref 5, .ref 7, .ref 9]), .inr (3, [vI 8, vI 8, .ref 4]), zA 256, .inr (3, [vI 8, vI 8, .ref 6]), zA 256, .inr (3, [vI 8, vI 8, .ref 8]), zA 256, .inr (3, [vI 8, vI 8, .ref 10]), zA 256, .inr (3, [vI 8, vI 8, .ref 12]), zA 256, .inr (0, [.ref 14, vI 9, vI 0, .ref 15, .ref 16]), .inl (0, aI 9 g), zA 9, .inr (3, [vI 8, vI 8, .ref 17]), zA 256, .inr (4, [.ref 19, .ref 20, vI 0]), zA 256, zA 256, .inr (1, [vI 0, .ref 22, .ref 23, vI 0, .ref 24, .ref 25, vI 0, vI 0]), zA 256, zA 256, zA 256, .inl (1, aI 256 (fun _ => 0)), .inr (2, [.int 0, .null, .null, .null])] X
  refine R_dup 87 c_51_86 rfl rfl ?_
  refine R_callI 90 c_51_87 rfl rfl rfl rfl rfl (Nat.le_of_ble_eq_true rfl) (Nat.le_of_ble_eq_true rfl) rfl (k_seamsInit g) ?_
  show m_Ev scr 51 90 [(0, .ref 1), (1, vI 4)] [.ref 26, .ref 1] [.inr (5, [.ref 2, .ref 11, .ref 13, .ref 18, .ref 21, .null]), .inl (2, [.ref 3, .ref 5, .ref 7, .ref 9]), .inr (3, [vI 8, vI 8, .ref 4]), zA 256, .inr (3, [vI 8, vI 8, .ref 6]), zA 256, .inr (3, [vI 8, vI 8, .ref 8]), zA 256, .inr (3, [vI 8, vI 8, .ref 10]), zA 256, .inr (3, [vI 8, vI 8, .ref 12]), zA 256, .inr (0, [.ref 14, vI 9, vI 0, .ref 15, .ref 16]), .inl (0, aI 9 g), zA 9, .inr (3, [vI 8, vI 8, .ref 17]), zA 256, .inr (4, [.ref 19, .ref 20, vI 0]), zA 256, zA 256, .inr (1, [vI 0, .ref 22, .ref 23, vI 0, .ref 24, .ref 25, vI 0, vI 0]), zA 256, zA 256, zA 256, .inl (1, aI 256 (fun _ => 0)), .inr (2, [vI 0, .ref 27, .ref 28, .ref 29]), zA 16, zA 256, .inr (3, [vI 8, vI 8, .ref 30]), zA 256] X
  refine R_put 93 c_51_90 rfl (rfl) (Nat.le_of_ble_eq_true rfl) rfl ?_
  refine R_return c_51_93 rfl ?_
  exact hX _ _ ⟨rfl, g, rfl⟩
end CT
