/-! Filters: what is done for LEAST and GREATEST (of the NINE, of the CROSS), OPENING, CLOSING -/
def fpre (N g : Int → Int) (i : Int) : Int → Int := fun j => if 0 ≤ j ∧ j < i then N j else g j
theorem fpre_0 (N g : Int → Int) : fpre N g 0 = g := by
  funext j
  unfold fpre
  rw [if_neg (by omega)]
theorem fpre_up (N g : Int → Int) {i : Int} (h : 0 ≤ i) : m_up (fpre N g i) i (N i) = fpre N g (i + 1) := by
  funext j
  unfold m_up fpre
  by_cases hj : j = i
  · subst hj
    rw [if_pos rfl, if_pos (by omega)]
  · rw [if_neg hj]
    by_cases h2 : 0 ≤ j ∧ j < i
    · rw [if_pos h2, if_pos (by omega)]
    · rw [if_neg h2, if_neg (by omega)]
theorem fpre_all {n : Nat} (N g : Int → Int) : aI n (fpre N g n) = aI n N := aI_ext fun e h0 h1 => if_pos ⟨h0, h1⟩
theorem sh_set {H : List mC} {r v q : Nat} {w h : Int} {f : Int → Int} {c : mC} (hs : sh H r v w h f) (h1 : r ≠ q) (h2 : v ≠ q) : sh (m_set H q c) r v w h f := ⟨(m_gs_ne h1).trans hs.1, (m_gs_ne h2).trans hs.2.1, hs.2.2⟩
theorem m_em {x y w : Int} (h0 : 0 ≤ x) (h1 : x < w) : (y * w + x) % w = x ∧ (y * w + x) / w = y := by
  rw [Int.add_comm, Int.add_mul_emod_self_right, Int.add_mul_ediv_right _ _ (by omega), Int.emod_eq_of_lt h0 h1, Int.ediv_eq_zero_of_lt h0 h1]
  omega
def fnine (w h : Int) (f : Int → Int) (x y : Int) : Int → Int := fun i => fnear w h f (x - 1 + i % 3) (y - 1 + i / 3)
theorem fnear_ok {w h : Int} {f : Int → Int} (hf : vok f) (h1 : 1 ≤ w) (h2 : w ≤ 16) (h3 : 1 ≤ h) (h4 : h ≤ 16) (x y : Int) : 0 ≤ fnear w h f x y ∧ fnear w h f x y ≤ 255 := by
  have ha := m_area h1 h2 h3 h4
  have hi := m_idx (x := max 0 (min x (w - 1))) (y := max 0 (min y (h - 1))) (w := w) (h := h) (by omega) (by omega) (by omega) (by omega)
  exact hf _ hi.1 (by omega)
def gst (m : Int → Int → Int) (c : Int) (g : Int → Int) : Nat → Int
  | 0 => g 4
  | n + 1 => if c = 0 ∨ ((n : Int) = 4 ∨ (n : Int) % 2 = 1) then m (gst m c g n) (g (n : Int)) else gst m c g n
def mst (m : Int → Int → Int) (c : Int) (g : Int → Int) (i : Int) : Int := gst m c g i.toNat
theorem mst_succ (m : Int → Int → Int) (c : Int) (g : Int → Int) {i : Int} (h : 0 ≤ i) : mst m c g (i + 1) = if c = 0 ∨ (i = 4 ∨ i % 2 = 1) then m (mst m c g i) (g i) else mst m c g i := by
  obtain ⟨k, rfl⟩ : ∃ k : Nat, i = (k : Int) := ⟨i.toNat, by omega⟩
  unfold mst
  rw [show ((k : Int) + 1).toNat = k + 1 by omega, Int.toNat_natCast]
  rfl
theorem mst_min_ok {c : Int} {g : Int → Int} (hg : ∀ i : Int, 0 ≤ i → i < 9 → 0 ≤ g i ∧ g i ≤ 255) : ∀ n : Nat, n ≤ 9 → 0 ≤ gst min c g n ∧ gst min c g n ≤ 255
  | 0, _ => hg 4 (by omega) (by omega)
  | n + 1, h => by
    have h1 := mst_min_ok (c := c) hg n (by omega)
    have h2 := hg (n : Int) (by omega) (by omega)
    unfold gst
    split <;> omega
theorem mst_max_ok {c : Int} {g : Int → Int} (hg : ∀ i : Int, 0 ≤ i → i < 9 → 0 ≤ g i ∧ g i ≤ 255) : ∀ n : Nat, n ≤ 9 → 0 ≤ gst max c g n ∧ gst max c g n ≤ 255
  | 0, _ => hg 4 (by omega) (by omega)
  | n + 1, h => by
    have h1 := mst_max_ok (c := c) hg n (by omega)
    have h2 := hg (n : Int) (by omega) (by omega)
    unfold gst
    split <;> omega
def fres (how : Int) (g : Int → Int) : Int := if how = 3 then mst min 0 g 9 else if how = 4 then mst min 1 g 9 else if how = 5 then mst max 0 g 9 else mst max 1 g 9
theorem fres_ok {how : Int} {g : Int → Int} (hg : ∀ i : Int, 0 ≤ i → i < 9 → 0 ≤ g i ∧ g i ≤ 255) : 0 ≤ fres how g ∧ fres how g ≤ 255 := by
  unfold fres
  split
  · exact mst_min_ok hg 9 (by omega)
  · split
    · exact mst_min_ok hg 9 (by omega)
    · split
      · exact mst_max_ok hg 9 (by omega)
      · exact mst_max_ok hg 9 (by omega)
/-- the Filters in the heap -/
def fo (H : List mC) (r wt : Nat) (dv bs : Int) (nn bt : Nat) (g : Int → Int) : Prop := m_get H r = some (.inr (0, [.ref wt, vI dv, vI bs, .ref nn, .ref bt])) ∧ m_get H nn = some (.inl (0, aI 9 g)) ∧ r ≠ nn
section FILTERS
variable {scr : List Int32} {H : List mC} {r wt nn bt s v t tv : Nat} {dv bs w h x y how : Int} {f g ft : Int → Int}
theorem k_isInCross {i : Int} (h0 : 0 ≤ i) (h1 : i < 9) : m_Cl scr 10 [vI i] H (some (vI (if i = 4 ∨ i % 2 = 1 then 1 else 0))) H := by
  show m_Ev scr 10 0 [(0, vI i)] [] H _
  refine R_iload_n 1 c_10_0 rfl rfl ?_
  refine R_iconst 2 c_10_1 rfl ?_
  refine R_br 5 12 _ (cmp_eq (by unfold inR; omega) (by unfold inR; omega)) c_10_2 rfl rfl (fun hb => ?_) (fun hb => ?_)
  · refine R_iconst 13 c_10_12 rfl ?_
    refine R_goto 17 c_10_13 rfl ?_
    rw [if_pos (by omega)]
    exact R_zreturn c_10_17 rfl (by first | decide | (split <;> decide)) rfl
  · refine R_iload_n 6 c_10_5 rfl rfl ?_
    refine R_iconst 7 c_10_6 rfl ?_
    refine R_iremp 8 c_10_7 rfl (by omega) (by omega) ?_
    refine R_iconst 9 c_10_8 rfl ?_
    refine R_br 12 16 _ (cmp_ne (by unfold inR; omega) (by unfold inR; omega)) c_10_9 rfl rfl (fun hb => ?_) (fun hb => ?_)
    · refine R_iconst 17 c_10_16 rfl ?_
      rw [if_neg (by omega)]
      exact R_zreturn c_10_17 rfl (by first | decide | (split <;> decide)) rfl
    · refine R_iconst 13 c_10_12 rfl ?_
      refine R_goto 17 c_10_13 rfl ?_
      rw [if_pos (by omega)]
      exact R_zreturn c_10_17 rfl (by first | decide | (split <;> decide)) rfl
theorem k_gatherNine (ho : fo H r wt dv bs nn bt g) (hs : sh H s v w h f) (hns : s ≠ nn) (hnv : v ≠ nn) (hx0 : 0 ≤ x) (hx : x < 16) (hy0 : 0 ≤ y) (hy : y < 16) : m_Cl scr 3 [.ref r, .ref s, vI x, vI y] H none (m_set H nn (.inl (0, aI 9 (fnine w h f x y)))) := by
  obtain ⟨hr, hn, hrn⟩ := id ho
  show m_Ev scr 3 0 [(0, .ref r), (1, .ref s), (2, vI x), (3, vI y)] [] H _
  refine R_iconst 1 c_3_0 rfl ?_
  refine R_istore 3 c_3_1 rfl ?_
  refine m_forw 9 (fun i => [(0, .ref r), (1, .ref s), (2, vI x), (3, vI y), (4, vI i)]) (fun i => m_set H nn (.inl (0, aI 9 (fpre (fnine w h f x y) g i)))) 0 rfl (by rw [fpre_0, m_set_self hn]) (by omega) (fun i h0 hi ih => ?_) ?_
  · refine R_iload 5 c_3_3 rfl rfl ?_
    refine R_bipush 7 c_3_5 rfl (by decide) ?_
    refine R_br 10 43 _ (cmp_ge (by unfold inR; omega) (by unfold inR; omega)) c_3_7 rfl rfl (fun hn => absurd hn (by omega)) (fun _ => ?_)
    have e : m_up (fpre (fnine w h f x y) g i) i (fnear w h f (x - 1 + i % 3) (y - 1 + i / 3)) = fpre (fnine w h f x y) g (i + 1) := fpre_up (fnine w h f x y) g h0
    refine R_aload_n 11 c_3_10 rfl rfl ?_
    refine R_get 14 c_3_11 rfl ((m_gs_ne hrn).trans hr) rfl ?_
    refine R_iload 16 c_3_14 rfl rfl ?_
    refine R_aload_n 17 c_3_16 rfl rfl ?_
    refine R_iload_n 18 c_3_17 rfl rfl ?_
    refine R_iconst 19 c_3_18 rfl ?_
    refine R_isub 20 c_3_19 rfl ?_
    refine R_iload 22 c_3_20 rfl rfl ?_
    refine R_iconst 23 c_3_22 rfl ?_
    refine R_iremp 24 c_3_23 rfl (by omega) (by omega) ?_
    refine R_iadd 25 c_3_24 rfl ?_
    refine R_iload_n 26 c_3_25 rfl rfl ?_
    refine R_iconst 27 c_3_26 rfl ?_
    refine R_isub 28 c_3_27 rfl ?_
    refine R_iload 30 c_3_28 rfl rfl ?_
    refine R_iconst 31 c_3_30 rfl ?_
    refine R_idivp 32 c_3_31 rfl (by omega) (by omega) ?_
    refine R_iadd 33 c_3_32 rfl ?_
    refine R_callV 36 c_3_33 rfl rfl rfl rfl (Nat.le_of_ble_eq_true rfl) (Nat.le_of_ble_eq_true rfl) ((m_gs_ne hns).trans hs.1) (k_near (sh_set hs hns hnv) (by unfold inR; omega) (by unfold inR; omega)) ?_
    refine R_iast 37 c_3_36 rfl (m_gs_eq hn) (by omega) (by omega) (by decide) ?_
    refine R_iinc 40 c_3_37 rfl rfl ?_
    refine R_goto 3 c_3_40 rfl ?_
    rw [m_set_set, e]
    exact ih
  · refine R_iload 5 c_3_3 rfl rfl ?_
    refine R_bipush 7 c_3_5 rfl (by decide) ?_
    refine R_br 10 43 _ (cmp_ge (by unfold inR; omega) (by unfold inR; omega)) c_3_7 rfl rfl (fun _ => ?_) (fun hn => absurd (by omega) hn)
    rw [show aI 9 (fpre (fnine w h f x y) g 9) = aI 9 (fnine w h f x y) from fpre_all (n := 9) _ _]
    exact R_return c_3_43 rfl rfl
theorem k_least {c : Int} (hc : c = 0 ∨ c = 1) (ho : fo H r wt dv bs nn bt g) (hg : ∀ i : Int, 0 ≤ i → i < 9 → 0 ≤ g i ∧ g i ≤ 255) : m_Cl scr 8 [.ref r, vI c] H (some (vI (mst min c g 9))) H := by
  obtain ⟨hr, hn, hrn⟩ := id ho
  show m_Ev scr 8 0 [(0, .ref r), (1, vI c)] [] H _
  refine R_aload_n 1 c_8_0 rfl rfl ?_
  refine R_get 4 c_8_1 rfl (hr) rfl ?_
  refine R_iconst 5 c_8_4 rfl ?_
  refine R_iald 6 c_8_5 rfl (hn) (by omega) (by omega) (by decide) ?_
  refine R_istore_n 7 c_8_6 rfl ?_
  refine R_iconst 8 c_8_7 rfl ?_
  refine R_istore_n 9 c_8_8 rfl ?_
  refine m_forw 9 (fun i => [(0, .ref r), (1, vI c), (2, vI (mst min c g i)), (3, vI i)]) (fun i => H) 0 rfl rfl (by omega) (fun i h0 hi ih => ?_) ?_
  · have hgi := hg i h0 hi
    have hm : 0 ≤ mst min c g i ∧ mst min c g i ≤ 255 := mst_min_ok hg i.toNat (by omega)
    simp only [mst_succ min c g h0] at ih
    refine R_iload_n 10 c_8_9 rfl rfl ?_
    refine R_bipush 12 c_8_10 rfl (by decide) ?_
    refine R_br 15 43 _ (cmp_ge (by unfold inR; omega) (by unfold inR; omega)) c_8_12 rfl rfl (fun hn => absurd hn (by omega)) (fun _ => ?_)
    refine R_iload_n 16 c_8_15 rfl rfl ?_
    refine R_brz 19 26 _ (cmp_eq (by unfold inR; omega) inR_0) c_8_16 rfl rfl (fun hb => ?_) (fun hb => ?_)
    · rw [if_pos (Or.inl hb)] at ih
      refine R_iload_n 27 c_8_26 rfl rfl ?_
      refine R_aload_n 28 c_8_27 rfl rfl ?_
      refine R_get 31 c_8_28 rfl (hr) rfl ?_
      refine R_iload_n 32 c_8_31 rfl rfl ?_
      refine R_iald 33 c_8_32 rfl (hn) (by omega) (by omega) (by decide) ?_
      refine R_min 36 c_8_33 rfl (by unfold inR; omega) (by unfold inR; omega) (Nat.le_of_ble_eq_true rfl) ?_
      refine R_istore_n 37 c_8_36 rfl ?_
      refine R_iinc 40 c_8_37 rfl rfl ?_
      refine R_goto 9 c_8_40 rfl ?_
      exact ih
    · refine R_iload_n 20 c_8_19 rfl rfl ?_
      refine R_callS 23 c_8_20 rfl rfl (Nat.le_of_ble_eq_true rfl) (k_isInCross h0 hi) ?_
      refine R_brz 26 37 (¬ (i = 4 ∨ i % 2 = 1)) ((cmp_eq (a := if i = 4 ∨ i % 2 = 1 then 1 else 0) (b := 0) (by unfold inR; split <;> omega) inR_0).trans (by split <;> simp_all)) c_8_23 rfl rfl (fun hb2 => ?_) (fun hb2 => ?_)
      · rw [if_neg (by omega)] at ih
        refine R_iinc 40 c_8_37 rfl rfl ?_
        refine R_goto 9 c_8_40 rfl ?_
        exact ih
      · rw [if_pos (by omega)] at ih
        refine R_iload_n 27 c_8_26 rfl rfl ?_
        refine R_aload_n 28 c_8_27 rfl rfl ?_
        refine R_get 31 c_8_28 rfl (hr) rfl ?_
        refine R_iload_n 32 c_8_31 rfl rfl ?_
        refine R_iald 33 c_8_32 rfl (hn) (by omega) (by omega) (by decide) ?_
        refine R_min 36 c_8_33 rfl (by unfold inR; omega) (by unfold inR; omega) (Nat.le_of_ble_eq_true rfl) ?_
        refine R_istore_n 37 c_8_36 rfl ?_
        refine R_iinc 40 c_8_37 rfl rfl ?_
        refine R_goto 9 c_8_40 rfl ?_
        exact ih
  · refine R_iload_n 10 c_8_9 rfl rfl ?_
    refine R_bipush 12 c_8_10 rfl (by decide) ?_
    refine R_br 15 43 _ (cmp_ge (by unfold inR; omega) (by unfold inR; omega)) c_8_12 rfl rfl (fun _ => ?_) (fun hn => absurd (by omega) hn)
    refine R_iload_n 44 c_8_43 rfl rfl ?_
    exact R_ireturn c_8_44 rfl rfl
theorem k_greatest {c : Int} (hc : c = 0 ∨ c = 1) (ho : fo H r wt dv bs nn bt g) (hg : ∀ i : Int, 0 ≤ i → i < 9 → 0 ≤ g i ∧ g i ≤ 255) : m_Cl scr 9 [.ref r, vI c] H (some (vI (mst max c g 9))) H := by
  obtain ⟨hr, hn, hrn⟩ := id ho
  show m_Ev scr 9 0 [(0, .ref r), (1, vI c)] [] H _
  refine R_aload_n 1 c_9_0 rfl rfl ?_
  refine R_get 4 c_9_1 rfl (hr) rfl ?_
  refine R_iconst 5 c_9_4 rfl ?_
  refine R_iald 6 c_9_5 rfl (hn) (by omega) (by omega) (by decide) ?_
  refine R_istore_n 7 c_9_6 rfl ?_
  refine R_iconst 8 c_9_7 rfl ?_
  refine R_istore_n 9 c_9_8 rfl ?_
  refine m_forw 9 (fun i => [(0, .ref r), (1, vI c), (2, vI (mst max c g i)), (3, vI i)]) (fun i => H) 0 rfl rfl (by omega) (fun i h0 hi ih => ?_) ?_
  · have hgi := hg i h0 hi
    have hm : 0 ≤ mst max c g i ∧ mst max c g i ≤ 255 := mst_max_ok hg i.toNat (by omega)
    simp only [mst_succ max c g h0] at ih
    refine R_iload_n 10 c_9_9 rfl rfl ?_
    refine R_bipush 12 c_9_10 rfl (by decide) ?_
    refine R_br 15 43 _ (cmp_ge (by unfold inR; omega) (by unfold inR; omega)) c_9_12 rfl rfl (fun hn => absurd hn (by omega)) (fun _ => ?_)
    refine R_iload_n 16 c_9_15 rfl rfl ?_
    refine R_brz 19 26 _ (cmp_eq (by unfold inR; omega) inR_0) c_9_16 rfl rfl (fun hb => ?_) (fun hb => ?_)
    · rw [if_pos (Or.inl hb)] at ih
      refine R_iload_n 27 c_9_26 rfl rfl ?_
      refine R_aload_n 28 c_9_27 rfl rfl ?_
      refine R_get 31 c_9_28 rfl (hr) rfl ?_
      refine R_iload_n 32 c_9_31 rfl rfl ?_
      refine R_iald 33 c_9_32 rfl (hn) (by omega) (by omega) (by decide) ?_
      refine R_max 36 c_9_33 rfl (by unfold inR; omega) (by unfold inR; omega) (Nat.le_of_ble_eq_true rfl) ?_
      refine R_istore_n 37 c_9_36 rfl ?_
      refine R_iinc 40 c_9_37 rfl rfl ?_
      refine R_goto 9 c_9_40 rfl ?_
      exact ih
    · refine R_iload_n 20 c_9_19 rfl rfl ?_
      refine R_callS 23 c_9_20 rfl rfl (Nat.le_of_ble_eq_true rfl) (k_isInCross h0 hi) ?_
      refine R_brz 26 37 (¬ (i = 4 ∨ i % 2 = 1)) ((cmp_eq (a := if i = 4 ∨ i % 2 = 1 then 1 else 0) (b := 0) (by unfold inR; split <;> omega) inR_0).trans (by split <;> simp_all)) c_9_23 rfl rfl (fun hb2 => ?_) (fun hb2 => ?_)
      · rw [if_neg (by omega)] at ih
        refine R_iinc 40 c_9_37 rfl rfl ?_
        refine R_goto 9 c_9_40 rfl ?_
        exact ih
      · rw [if_pos (by omega)] at ih
        refine R_iload_n 27 c_9_26 rfl rfl ?_
        refine R_aload_n 28 c_9_27 rfl rfl ?_
        refine R_get 31 c_9_28 rfl (hr) rfl ?_
        refine R_iload_n 32 c_9_31 rfl rfl ?_
        refine R_iald 33 c_9_32 rfl (hn) (by omega) (by omega) (by decide) ?_
        refine R_max 36 c_9_33 rfl (by unfold inR; omega) (by unfold inR; omega) (Nat.le_of_ble_eq_true rfl) ?_
        refine R_istore_n 37 c_9_36 rfl ?_
        refine R_iinc 40 c_9_37 rfl rfl ?_
        refine R_goto 9 c_9_40 rfl ?_
        exact ih
  · refine R_iload_n 10 c_9_9 rfl rfl ?_
    refine R_bipush 12 c_9_10 rfl (by decide) ?_
    refine R_br 15 43 _ (cmp_ge (by unfold inR; omega) (by unfold inR; omega)) c_9_12 rfl rfl (fun _ => ?_) (fun hn => absurd (by omega) hn)
    refine R_iload_n 44 c_9_43 rfl rfl ?_
    exact R_ireturn c_9_44 rfl rfl
theorem k_resultOfNine (h3 : 3 ≤ how) (h6 : how ≤ 6) (ho : fo H r wt dv bs nn bt g) (hg : ∀ i : Int, 0 ≤ i → i < 9 → 0 ≤ g i ∧ g i ≤ 255) : m_Cl scr 4 [.ref r, vI how] H (some (vI (fres how g))) H := by
  obtain ⟨hr, hn, hrn⟩ := id ho
  show m_Ev scr 4 0 [(0, .ref r), (1, vI how)] [] H _
  refine R_iload_n 1 c_4_0 rfl rfl ?_
  rcases (show how = 3 ∨ how = 4 ∨ how = 5 ∨ how = 6 by omega) with rfl | rfl | rfl | rfl
  · refine R_tsw 55 c_4_1 (by unfold inR; omega) rfl ?_
    refine R_aload_n 56 c_4_55 rfl rfl ?_
    refine R_iconst 57 c_4_56 rfl ?_
    refine R_callV 60 c_4_57 rfl rfl rfl rfl (Nat.le_of_ble_eq_true rfl) (Nat.le_of_ble_eq_true rfl) (hr) (k_least (Or.inl rfl) ho hg) ?_
    exact R_ireturn c_4_60 rfl rfl
  · refine R_tsw 61 c_4_1 (by unfold inR; omega) rfl ?_
    refine R_aload_n 62 c_4_61 rfl rfl ?_
    refine R_iconst 63 c_4_62 rfl ?_
    refine R_callV 66 c_4_63 rfl rfl rfl rfl (Nat.le_of_ble_eq_true rfl) (Nat.le_of_ble_eq_true rfl) (hr) (k_least (Or.inr rfl) ho hg) ?_
    exact R_ireturn c_4_66 rfl rfl
  · refine R_tsw 67 c_4_1 (by unfold inR; omega) rfl ?_
    refine R_aload_n 68 c_4_67 rfl rfl ?_
    refine R_iconst 69 c_4_68 rfl ?_
    refine R_callV 72 c_4_69 rfl rfl rfl rfl (Nat.le_of_ble_eq_true rfl) (Nat.le_of_ble_eq_true rfl) (hr) (k_greatest (Or.inl rfl) ho hg) ?_
    exact R_ireturn c_4_72 rfl rfl
  · refine R_tsw 73 c_4_1 (by unfold inR; omega) rfl ?_
    refine R_aload_n 74 c_4_73 rfl rfl ?_
    refine R_iconst 75 c_4_74 rfl ?_
    refine R_callV 78 c_4_75 rfl rfl rfl rfl (Nat.le_of_ble_eq_true rfl) (Nat.le_of_ble_eq_true rfl) (hr) (k_greatest (Or.inr rfl) ho hg) ?_
    exact R_ireturn c_4_78 rfl rfl
end FILTERS
/-- one pass: what every FIELD becomes -/
def fpas (how w h : Int) (f : Int → Int) : Int → Int := fun e => max 0 (min (fres how (fnine w h f (e % w) (e / w))) 255)
def kp (H : List mC) (t : Nat) (c : mC) (tv : Nat) (n : Int → Int) (nn : Nat) (g : Int → Int) : List mC := m_set (m_set (m_set H t c) tv (.inl (0, aI 256 n))) nn (.inl (0, aI 9 g))
section PASS
variable {scr : List Int32} {H : List mC} {r wt nn bt s v t tv : Nat} {dv bs w h w' h' how : Int} {f g ft : Int → Int}
theorem k_pass (h3 : 3 ≤ how) (h6 : how ≤ 6) (ho : fo H r wt dv bs nn bt g) (hs : sh H s v w h f) (ht : sh H t tv w' h' ft) (hf : vok f)
    (n1 : s ≠ nn) (n2 : v ≠ nn) (n3 : t ≠ nn) (n4 : tv ≠ nn) (n5 : t ≠ s) (n6 : t ≠ v) (n7 : tv ≠ s) (n8 : tv ≠ v) (n9 : r ≠ t) (n10 : r ≠ tv) :
    m_CP scr 2 [.ref r, .ref s, .ref t, vI how] H (fun v1 H1 => v1 = none ∧ ∃ g', H1 = kp H t (.inr (3, [vI w, vI h, .ref tv])) tv (fpre (fpas how w h f) ft (h * w)) nn g') := by
  obtain ⟨hr, hn, hrn⟩ := id ho
  obtain ⟨hs1, hs2, hsv, hw1, hw2, hh1, hh2⟩ := id hs
  obtain ⟨ht1, ht2, htv, -⟩ := id ht
  have ha := m_area hw1 hw2 hh1 hh2
  have hK0 : m_set H t (.inr (3, [vI w, vI h, .ref tv])) = kp H t (.inr (3, [vI w, vI h, .ref tv])) tv (fpre (fpas how w h f) ft (0 * w)) nn g := by
    unfold kp
    rw [Int.zero_mul, fpre_0, m_set_self (H := m_set H t _) ((m_gs_ne (Ne.symm htv)).trans ht2), m_set_self ((m_gs_ne (Ne.symm n3)).trans hn)]
  generalize hCe : (Sum.inr (3, [vI w, vI h, .ref tv]) : mC) = C at hK0
  have e0 : ∀ n, m_get (m_set (m_set H t C) tv (.inl (0, aI 256 n))) nn = some (.inl (0, aI 9 g)) := fun n => (m_gs_ne (Ne.symm n4)).trans ((m_gs_ne (Ne.symm n3)).trans hn)
  have lo : ∀ n g', fo (kp H t C tv n nn g') r wt dv bs nn bt g' := fun n g' => ⟨(m_gs_ne hrn).trans ((m_gs_ne n10).trans ((m_gs_ne n9).trans hr)), m_gs_eq (e0 n), hrn⟩
  have ls : ∀ n g', sh (kp H t C tv n nn g') s v w h f := fun n g' => sh_set (sh_set (sh_set hs (Ne.symm n5) (Ne.symm n6)) (Ne.symm n7) (Ne.symm n8)) n1 n2
  have lt : ∀ n g', sh (kp H t C tv n nn g') t tv w h n := fun n g' => ⟨(m_gs_ne n3).trans ((m_gs_ne htv).trans (by rw [m_gs_eq ht1, hCe])), (m_gs_ne n4).trans (m_gs_eq ((m_gs_ne (Ne.symm htv)).trans ht2)), htv, hw1, hw2, hh1, hh2⟩
  have eg : ∀ n g' g2, m_set (kp H t C tv n nn g') nn (.inl (0, aI 9 g2)) = kp H t C tv n nn g2 := fun n g' g2 => m_set_set _ _ _ _
  have ep : ∀ n g' n2, m_set (kp H t C tv n nn g') tv (.inl (0, aI 256 n2)) = kp H t C tv n2 nn g' := fun n g' n2 => by
    unfold kp
    rw [m_set_comm (Ne.symm n4), m_set_set]
  refine m_CP.of ?_
  show m_Ev scr 2 0 [(0, .ref r), (1, .ref s), (2, .ref t), (3, vI how)] [] H _
  refine R_aload_n 1 c_2_0 rfl rfl ?_
  refine R_aload_n 2 c_2_1 rfl rfl ?_
  refine R_get 5 c_2_2 rfl (hs1) rfl ?_
  refine R_aload_n 6 c_2_5 rfl rfl ?_
  refine R_get 9 c_2_6 rfl (hs1) rfl ?_
  refine R_callV 12 c_2_9 rfl rfl rfl rfl (Nat.le_of_ble_eq_true rfl) (Nat.le_of_ble_eq_true rfl) (ht1) (k_measure ht) ?_
  refine R_iconst 13 c_2_12 rfl ?_
  refine R_istore 15 c_2_13 rfl ?_
  rw [hCe, hK0]
  refine m_forP h (fun y L H2 => L = [(0, .ref r), (1, .ref s), (2, .ref t), (3, vI how), (4, vI y)] ∧ ∃ g', H2 = kp H t C tv (fpre (fpas how w h f) ft (y * w)) nn g') 0 ⟨rfl, g, rfl⟩ (by omega) ?_ ?_
  · rintro y _ _ hy0 hy ⟨rfl, g1, rfl⟩ ih
    refine R_iload 17 c_2_15 rfl rfl ?_
    refine R_aload_n 18 c_2_17 rfl rfl ?_
    refine R_get 21 c_2_18 rfl ((ls _ _).1) rfl ?_
    refine R_br 24 70 _ (cmp_ge (by unfold inR; omega) (by unfold inR; omega)) c_2_21 rfl rfl (fun hn => absurd hn (by omega)) (fun _ => ?_)
    refine R_iconst 25 c_2_24 rfl ?_
    refine R_istore 27 c_2_25 rfl ?_
    refine m_forP w (fun x L H2 => L = [(0, .ref r), (1, .ref s), (2, .ref t), (3, vI how), (4, vI y), (5, vI x)] ∧ ∃ g', H2 = kp H t C tv (fpre (fpas how w h f) ft (y * w + x)) nn g') 0 ⟨rfl, g1, by rw [Int.add_zero]⟩ (by omega) ?_ ?_
    · rintro x _ _ hx0 hx ⟨rfl, g2, rfl⟩ ih2
      have hi := m_idx hx0 hx hy0 hy
      have hem := m_em (y := y) hx0 hx
      have hfr := fres_ok (how := how) (g := fnine w h f x y) (fun i _ _ => fnear_ok hf hw1 hw2 hh1 hh2 _ _)
      have e : m_up (fpre (fpas how w h f) ft (y * w + x)) (y * w + x) (max 0 (min (fres how (fnine w h f x y)) 255)) = fpre (fpas how w h f) ft (y * w + (x + 1)) := by
        have := fpre_up (fpas how w h f) ft hi.1
        rw [show fpas how w h f (y * w + x) = max 0 (min (fres how (fnine w h f x y)) 255) by unfold fpas; rw [hem.1, hem.2]] at this
        rw [this, Int.add_assoc]
      refine R_iload 29 c_2_27 rfl rfl ?_
      refine R_aload_n 30 c_2_29 rfl rfl ?_
      refine R_get 33 c_2_30 rfl ((ls _ _).1) rfl ?_
      refine R_br 36 64 _ (cmp_ge (by unfold inR; omega) (by unfold inR; omega)) c_2_33 rfl rfl (fun hn => absurd hn (by omega)) (fun _ => ?_)
      refine R_aload_n 37 c_2_36 rfl rfl ?_
      refine R_aload_n 38 c_2_37 rfl rfl ?_
      refine R_iload 40 c_2_38 rfl rfl ?_
      refine R_iload 42 c_2_40 rfl rfl ?_
      refine R_callV 45 c_2_42 rfl rfl rfl rfl (Nat.le_of_ble_eq_true rfl) (Nat.le_of_ble_eq_true rfl) ((lo _ _).1) (k_gatherNine (lo _ _) (ls _ _) n1 n2 hx0 (by omega) hy0 (by omega)) ?_
      rw [eg]
      refine R_aload_n 46 c_2_45 rfl rfl ?_
      refine R_iload 48 c_2_46 rfl rfl ?_
      refine R_iload 50 c_2_48 rfl rfl ?_
      refine R_aload_n 51 c_2_50 rfl rfl ?_
      refine R_iload_n 52 c_2_51 rfl rfl ?_
      refine R_callV 55 c_2_52 rfl rfl rfl rfl (Nat.le_of_ble_eq_true rfl) (Nat.le_of_ble_eq_true rfl) ((lo _ _).1) (k_resultOfNine h3 h6 (lo _ _) (fun i _ _ => fnear_ok hf hw1 hw2 hh1 hh2 _ _)) ?_
      refine R_callV 58 c_2_55 rfl rfl rfl rfl (Nat.le_of_ble_eq_true rfl) (Nat.le_of_ble_eq_true rfl) ((lt _ _).1) (k_put (lt _ _) hx0 hx hy0 hy (by unfold inR; omega)) ?_
      rw [ep, e]
      refine R_iinc 61 c_2_58 rfl rfl ?_
      refine R_goto 27 c_2_61 rfl ?_
      exact ih2 _ _ ⟨rfl, _, rfl⟩
    · rintro _ _ ⟨rfl, g2, rfl⟩
      refine R_iload 29 c_2_27 rfl rfl ?_
      refine R_aload_n 30 c_2_29 rfl rfl ?_
      refine R_get 33 c_2_30 rfl ((ls _ _).1) rfl ?_
      refine R_br 36 64 _ (cmp_ge (by unfold inR; omega) (by unfold inR; omega)) c_2_33 rfl rfl (fun _ => ?_) (fun hn => absurd (by omega) hn)
      refine R_iinc 67 c_2_64 rfl rfl ?_
      refine R_goto 15 c_2_67 rfl ?_
      refine m_keep [0, 1, 2, 3, 4] rfl ?_
      refine ih _ _ ⟨rfl, g2, ?_⟩
      rw [Int.add_mul, Int.one_mul]
  · rintro _ _ ⟨rfl, g1, rfl⟩
    refine R_iload 17 c_2_15 rfl rfl ?_
    refine R_aload_n 18 c_2_17 rfl rfl ?_
    refine R_get 21 c_2_18 rfl ((ls _ _).1) rfl ?_
    refine R_br 24 70 _ (cmp_ge (by unfold inR; omega) (by unfold inR; omega)) c_2_21 rfl rfl (fun _ => ?_) (fun hn => absurd (by omega) hn)
    refine R_return c_2_70 rfl ?_
    exact ⟨rfl, g1, rfl⟩
end PASS
def eqo (S : List Nat) (H H1 : List mC) : Prop := ∀ q : Nat, q ∉ S → m_get H1 q = m_get H q
theorem eqo.rf (S : List Nat) (H : List mC) : eqo S H H := fun _ _ => rfl
theorem eqo.tr {S : List Nat} {H H1 H2 : List mC} (h1 : eqo S H H1) (h2 : eqo S H1 H2) : eqo S H H2 := fun q hq => (h2 q hq).trans (h1 q hq)
theorem eqo.wd {S T : List Nat} {H H1 : List mC} (h : eqo S H H1) (hs : ∀ q ∈ S, q ∈ T) : eqo T H H1 := fun q hq => h q (fun z => hq (hs q z))
theorem eqo.st {S : List Nat} {H H1 : List mC} {r : Nat} {c : mC} (h : eqo S H H1) (hr : r ∈ S) : eqo S H (m_set H1 r c) := fun q hq => (m_gs_ne (fun e => hq (by rw [e]; exact hr))).trans (h q hq)
theorem sh_eqo {S : List Nat} {H H1 : List mC} {r v : Nat} {w h : Int} {f : Int → Int} (he : eqo S H H1) (hs : sh H r v w h f) (h1 : r ∉ S) (h2 : v ∉ S) : sh H1 r v w h f := ⟨(he r h1).trans hs.1, (he v h2).trans hs.2.1, hs.2.2⟩
theorem fpas_ok (how w h : Int) (f : Int → Int) (e : Int) : 0 ≤ fpas how w h f e ∧ fpas how w h f e ≤ 255 := by unfold fpas; omega
theorem fnear_congr {w h : Int} {f g : Int → Int} (h1 : 1 ≤ w) (h2 : 1 ≤ h) (he : ∀ e : Int, 0 ≤ e → e < w * h → f e = g e) (x y : Int) : fnear w h f x y = fnear w h g x y := by
  have hi := m_idx (x := max 0 (min x (w - 1))) (y := max 0 (min y (h - 1))) (w := w) (h := h) (by omega) (by omega) (by omega) (by omega)
  exact he _ hi.1 hi.2
theorem fpas_congr {how w h : Int} {f g : Int → Int} (h1 : 1 ≤ w) (h2 : 1 ≤ h) (he : ∀ e : Int, 0 ≤ e → e < w * h → f e = g e) : fpas how w h f = fpas how w h g := by
  funext e
  unfold fpas
  have : fnine w h f (e % w) (e / w) = fnine w h g (e % w) (e / w) := by
    funext i
    exact fnear_congr h1 h2 he _ _
  rw [this]
theorem fpre_vok {N g : Int → Int} {n : Int} (h1 : ∀ e, 0 ≤ N e ∧ N e ≤ 255) (h2 : vok g) : vok (fpre N g n) := by
  intro e h0 h3
  unfold fpre
  split
  · exact h1 e
  · exact h2 e h0 h3
theorem m_lm {w h : Int} (e : Int) (he : e < w * h) : e < h * w := by rw [Int.mul_comm]; exact he
/-- what a FILTER of 3 to 8 makes -/
def frun (how w h : Int) (f : Int → Int) : Int → Int := if how = 7 then fpas 5 w h (fpas 3 w h f) else if how = 8 then fpas 3 w h (fpas 5 w h f) else fpas how w h f
section RUN
variable {scr : List Int32} {H : List mC} {s v : Nat} {dv bs w h w' h' wb hb how : Int} {f g ft fb : Int → Int}
/-- a pass into the sheet t, said of what changes -/
theorem k_passE {s v t tv : Nat} (h3 : 3 ≤ how) (h6 : how ≤ 6) (ho : fo H 13 14 dv bs 15 16 g) (hs : sh H s v w h f) (ht : sh H t tv w' h' ft) (hf : vok f) (hft : vok ft)
    (n1 : s ≠ 15) (n2 : v ≠ 15) (n3 : t ≠ 15) (n4 : tv ≠ 15) (n5 : t ≠ s) (n6 : t ≠ v) (n7 : tv ≠ s) (n8 : tv ≠ v) (n9 : 13 ≠ t) (n10 : 13 ≠ tv) :
    m_CP scr 2 [.ref 13, .ref s, .ref t, vI how] H (fun v1 H1 => v1 = none ∧ eqo [t, tv, 15] H H1 ∧ (∃ g', fo H1 13 14 dv bs 15 16 g') ∧ ∃ fn, sh H1 t tv w h fn ∧ vok fn ∧ ∀ e : Int, 0 ≤ e → e < w * h → fn e = fpas how w h f e) := by
  obtain ⟨v1, H1, hc, rfl, g', rfl⟩ := k_pass (scr := scr) h3 h6 ho hs ht hf n1 n2 n3 n4 n5 n6 n7 n8 n9 n10
  refine ⟨_, _, hc, rfl, ?_, ⟨g', ?_⟩, _, ?_, fpre_vok (fpas_ok how w h f) hft, fun e h0 h1 => if_pos ⟨h0, m_lm e h1⟩⟩
  · exact (((eqo.rf _ H).st (by simp)).st (by simp)).st (by simp)
  · obtain ⟨hr, hn, hrn⟩ := ho
    exact ⟨(m_gs_ne hrn).trans ((m_gs_ne n10).trans ((m_gs_ne n9).trans hr)), m_gs_eq ((m_gs_ne (Ne.symm n4)).trans ((m_gs_ne (Ne.symm n3)).trans hn)), hrn⟩
  · obtain ⟨ht1, ht2, htv, -⟩ := ht
    exact ⟨(m_gs_ne n3).trans ((m_gs_ne htv).trans (m_gs_eq ht1)), (m_gs_ne n4).trans (m_gs_eq ((m_gs_ne (Ne.symm htv)).trans ht2)), htv, hs.2.2.2⟩
theorem k_run (h3 : 3 ≤ how) (h8 : how ≤ 8) (ho : fo H 13 14 dv bs 15 16 g) (hs : sh H s v w h f) (ht : sh H 11 12 w' h' ft) (hb : sh H 16 17 wb hb fb) (hf : vok f) (hft : vok ft) (hfb : vok fb)
    (ns : s ∉ [11, 12, 13, 15, 16, 17]) (nv : v ∉ [11, 12, 13, 15, 16, 17]) :
    m_CP scr 1 [.ref 13, .ref s, .ref 11, vI how] H (fun v1 H1 => v1 = none ∧ eqo [11, 12, 15, 16, 17] H H1 ∧ (∃ g', fo H1 13 14 dv bs 15 16 g') ∧ (∃ wb hb fb, sh H1 16 17 wb hb fb ∧ vok fb) ∧ ∃ fn, sh H1 11 12 w h fn ∧ vok fn ∧ ∀ e : Int, 0 ≤ e → e < w * h → fn e = frun how w h f e) := by
  obtain ⟨a1, a2, a3, a4, a5, a6⟩ : s ≠ 11 ∧ s ≠ 12 ∧ s ≠ 13 ∧ s ≠ 15 ∧ s ≠ 16 ∧ s ≠ 17 := by simpa using ns
  obtain ⟨b1, b2, b3, b4, b5, b6⟩ : v ≠ 11 ∧ v ≠ 12 ∧ v ≠ 13 ∧ v ≠ 15 ∧ v ≠ 16 ∧ v ≠ 17 := by simpa using nv
  obtain ⟨hw1, hw2, hh1, hh2⟩ := hs.2.2.2
  refine m_CP.of ?_
  show m_Ev scr 1 0 [(0, .ref 13), (1, .ref s), (2, .ref 11), (3, vI how)] [] H _
  rcases (show how = 7 ∨ how = 8 ∨ how ≤ 6 by omega) with rfl | rfl | h6
  · obtain ⟨v1, H1, hc1, rfl, he1, ⟨g1, ho1⟩, fn1, hn1, hk1, hq1⟩ := k_passE (scr := scr) (how := 3) (by omega) (by omega) ho hs hb hf hfb a4 b4 (by decide) (by decide) (Ne.symm a5) (Ne.symm b5) (Ne.symm a6) (Ne.symm b6) (by decide) (by decide)
    have ht1 := sh_eqo he1 ht (by decide) (by decide)
    obtain ⟨v2, H2, hc2, rfl, he2, ⟨g2, ho2⟩, fn2, hn2, hk2, hq2⟩ := k_passE (scr := scr) (how := 5) (by omega) (by omega) ho1 hn1 ht1 hk1 hft (by decide) (by decide) (by decide) (by decide) (by decide) (by decide) (by decide) (by decide) (by decide) (by decide)
    refine R_iload_n 1 c_1_0 rfl rfl ?_
    refine R_bipush 3 c_1_1 rfl (by decide) ?_
    refine R_br 6 29 _ (cmp_ne (by unfold inR; omega) (by unfold inR; omega)) c_1_3 rfl rfl (fun hn => absurd hn (by omega)) (fun _ => ?_)
    refine R_aload_n 7 c_1_6 rfl rfl ?_
    refine R_aload_n 8 c_1_7 rfl rfl ?_
    refine R_aload_n 9 c_1_8 rfl rfl ?_
    refine R_get 12 c_1_9 rfl (ho.1) rfl ?_
    refine R_iconst 13 c_1_12 rfl ?_
    refine R_callV 16 c_1_13 rfl rfl rfl rfl (Nat.le_of_ble_eq_true rfl) (Nat.le_of_ble_eq_true rfl) (ho.1) (hc1) ?_
    refine R_aload_n 17 c_1_16 rfl rfl ?_
    refine R_aload_n 18 c_1_17 rfl rfl ?_
    refine R_get 21 c_1_18 rfl (ho1.1) rfl ?_
    refine R_aload_n 22 c_1_21 rfl rfl ?_
    refine R_iconst 23 c_1_22 rfl ?_
    refine R_callV 26 c_1_23 rfl rfl rfl rfl (Nat.le_of_ble_eq_true rfl) (Nat.le_of_ble_eq_true rfl) (ho1.1) (hc2) ?_
    refine R_goto 65 c_1_26 rfl ?_
    refine R_return c_1_65 rfl ?_
    refine ⟨rfl, (he1.wd (by decide)).tr (he2.wd (by decide)), ⟨g2, ho2⟩, ⟨_, _, _, sh_eqo he2 hn1 (by decide) (by decide), hk1⟩, fn2, hn2, hk2, fun e h0 h1 => ?_⟩
    rw [hq2 e h0 h1, fpas_congr hw1 hh1 hq1]
    rfl
  · obtain ⟨v1, H1, hc1, rfl, he1, ⟨g1, ho1⟩, fn1, hn1, hk1, hq1⟩ := k_passE (scr := scr) (how := 5) (by omega) (by omega) ho hs hb hf hfb a4 b4 (by decide) (by decide) (Ne.symm a5) (Ne.symm b5) (Ne.symm a6) (Ne.symm b6) (by decide) (by decide)
    have ht1 := sh_eqo he1 ht (by decide) (by decide)
    obtain ⟨v2, H2, hc2, rfl, he2, ⟨g2, ho2⟩, fn2, hn2, hk2, hq2⟩ := k_passE (scr := scr) (how := 3) (by omega) (by omega) ho1 hn1 ht1 hk1 hft (by decide) (by decide) (by decide) (by decide) (by decide) (by decide) (by decide) (by decide) (by decide) (by decide)
    refine R_iload_n 1 c_1_0 rfl rfl ?_
    refine R_bipush 3 c_1_1 rfl (by decide) ?_
    refine R_br 6 29 _ (cmp_ne (by unfold inR; omega) (by unfold inR; omega)) c_1_3 rfl rfl (fun _ => ?_) (fun hn => absurd (by omega) hn)
    refine R_iload_n 30 c_1_29 rfl rfl ?_
    refine R_bipush 32 c_1_30 rfl (by decide) ?_
    refine R_br 35 58 _ (cmp_ne (by unfold inR; omega) (by unfold inR; omega)) c_1_32 rfl rfl (fun hn => absurd hn (by omega)) (fun _ => ?_)
    refine R_aload_n 36 c_1_35 rfl rfl ?_
    refine R_aload_n 37 c_1_36 rfl rfl ?_
    refine R_aload_n 38 c_1_37 rfl rfl ?_
    refine R_get 41 c_1_38 rfl (ho.1) rfl ?_
    refine R_iconst 42 c_1_41 rfl ?_
    refine R_callV 45 c_1_42 rfl rfl rfl rfl (Nat.le_of_ble_eq_true rfl) (Nat.le_of_ble_eq_true rfl) (ho.1) (hc1) ?_
    refine R_aload_n 46 c_1_45 rfl rfl ?_
    refine R_aload_n 47 c_1_46 rfl rfl ?_
    refine R_get 50 c_1_47 rfl (ho1.1) rfl ?_
    refine R_aload_n 51 c_1_50 rfl rfl ?_
    refine R_iconst 52 c_1_51 rfl ?_
    refine R_callV 55 c_1_52 rfl rfl rfl rfl (Nat.le_of_ble_eq_true rfl) (Nat.le_of_ble_eq_true rfl) (ho1.1) (hc2) ?_
    refine R_goto 65 c_1_55 rfl ?_
    refine R_return c_1_65 rfl ?_
    refine ⟨rfl, (he1.wd (by decide)).tr (he2.wd (by decide)), ⟨g2, ho2⟩, ⟨_, _, _, sh_eqo he2 hn1 (by decide) (by decide), hk1⟩, fn2, hn2, hk2, fun e h0 h1 => ?_⟩
    rw [hq2 e h0 h1, fpas_congr hw1 hh1 hq1]
    rfl
  · obtain ⟨v1, H1, hc1, rfl, he1, ⟨g1, ho1⟩, fn1, hn1, hk1, hq1⟩ := k_passE (scr := scr) h3 h6 ho hs ht hf hft a4 b4 (by decide) (by decide) (Ne.symm a1) (Ne.symm b1) (Ne.symm a2) (Ne.symm b2) (by decide) (by decide)
    refine R_iload_n 1 c_1_0 rfl rfl ?_
    refine R_bipush 3 c_1_1 rfl (by decide) ?_
    refine R_br 6 29 _ (cmp_ne (by unfold inR; omega) (by unfold inR; omega)) c_1_3 rfl rfl (fun _ => ?_) (fun hn => absurd (by omega) hn)
    refine R_iload_n 30 c_1_29 rfl rfl ?_
    refine R_bipush 32 c_1_30 rfl (by decide) ?_
    refine R_br 35 58 _ (cmp_ne (by unfold inR; omega) (by unfold inR; omega)) c_1_32 rfl rfl (fun _ => ?_) (fun hn => absurd (by omega) hn)
    refine R_aload_n 59 c_1_58 rfl rfl ?_
    refine R_aload_n 60 c_1_59 rfl rfl ?_
    refine R_aload_n 61 c_1_60 rfl rfl ?_
    refine R_iload_n 62 c_1_61 rfl rfl ?_
    refine R_callV 65 c_1_62 rfl rfl rfl rfl (Nat.le_of_ble_eq_true rfl) (Nat.le_of_ble_eq_true rfl) (ho.1) (hc1) ?_
    refine R_return c_1_65 rfl ?_
    refine ⟨rfl, he1.wd (by decide), ⟨g1, ho1⟩, ⟨_, _, _, sh_eqo he1 hb (by decide) (by decide), hfb⟩, fn1, hn1, hk1, fun e h0 h1 => ?_⟩
    rw [hq1 e h0 h1]
    unfold frun
    rw [if_neg (by omega), if_neg (by omega)]
end RUN
