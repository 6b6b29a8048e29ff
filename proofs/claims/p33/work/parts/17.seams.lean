/-! Seams -/
def fcost (w h : Int) (f : Int → Int) (x y : Int) : Int := ((fnear w h f (x + 1) y - fnear w h f (x - 1) y).natAbs : Int) + ((fnear w h f x (y + 1) - fnear w h f x (y - 1)).natAbs : Int)
def bcA (s : Int → Int) : Nat → Int → Int → Int
  | 0, _, b => b
  | n + 1, x, b => bcA s n (x + 1) (if s x < s b then x else b)
def bcR (s : Int → Int) (w low high : Int) : Int := bcA s (min high (w - 1) - max 0 low).toNat (max 0 low + 1) (max 0 low)
theorem bcA_bd (s : Int → Int) : ∀ (n : Nat) (x b : Int), b < x → b ≤ bcA s n x b ∧ bcA s n x b < x + n
  | 0, x, b, h => by unfold bcA; omega
  | n + 1, x, b, h => by
    unfold bcA
    by_cases hs : s x < s b
    · rw [if_pos hs]
      have := bcA_bd s n (x + 1) x (by omega)
      omega
    · rw [if_neg hs]
      have := bcA_bd s n (x + 1) b (by omega)
      omega
theorem bcR_bd (s : Int → Int) {w low high : Int} (h : max 0 low ≤ min high (w - 1)) : max 0 low ≤ bcR s w low high ∧ bcR s w low high ≤ min high (w - 1) := by
  have := bcA_bd s (min high (w - 1) - max 0 low).toNat (max 0 low + 1) (max 0 low) (by omega)
  unfold bcR
  omega
theorem bcA_congr {s s' : Int → Int} {w : Int} (hs : ∀ x, 0 ≤ x → x < w → s x = s' x) : ∀ (n : Nat) (x b : Int), 0 ≤ b → b < x → x + n ≤ w → bcA s n x b = bcA s' n x b
  | 0, x, b, h0, h1, h2 => rfl
  | n + 1, x, b, h0, h1, h2 => by
    unfold bcA
    rw [hs x (by omega) (by omega), hs b h0 (by omega)]
    split
    · exact bcA_congr hs n (x + 1) x (by omega) (by omega) (by omega)
    · exact bcA_congr hs n (x + 1) b h0 (by omega) (by omega)
theorem bcR_congr {s s' : Int → Int} {w low high : Int} (hs : ∀ x, 0 ≤ x → x < w → s x = s' x) (h : max 0 low ≤ min high (w - 1)) : bcR s w low high = bcR s' w low high := bcA_congr hs _ _ _ (by omega) (by omega) (by omega)
def rowS (w h : Int) (f : Int → Int) : Nat → Int → Int
  | 0, x => fcost w h f x 0
  | y + 1, x => fcost w h f x ((y : Int) + 1) + rowS w h f y (bcR (rowS w h f y) w (x - 1) (x + 1))
def colD (w h : Int) (f : Int → Int) : Nat → Int
  | 0 => bcR (rowS w h f (h - 1).toNat) w 0 (w - 1)
  | k + 1 => bcR (rowS w h f (h - 2 - k).toNat) w (colD w h f k - 1) (colD w h f k + 1)
def fcol (w h : Int) (f : Int → Int) (y : Int) : Int := colD w h f (h - 1 - y).toNat
def ftot (w h : Int) (f : Int → Int) : Int := rowS w h f (h - 1).toNat (fcol w h f (h - 1))
theorem fcost_bd {w h : Int} {f : Int → Int} (hf : vok f) (hd : 1 ≤ w ∧ w ≤ 16 ∧ 1 ≤ h ∧ h ≤ 16) (x y : Int) : 0 ≤ fcost w h f x y ∧ fcost w h f x y ≤ 510 := by
  have h1 := fnear_ok hf hd.1 hd.2.1 hd.2.2.1 hd.2.2.2 (x + 1) y
  have h2 := fnear_ok hf hd.1 hd.2.1 hd.2.2.1 hd.2.2.2 (x - 1) y
  have h3 := fnear_ok hf hd.1 hd.2.1 hd.2.2.1 hd.2.2.2 x (y + 1)
  have h4 := fnear_ok hf hd.1 hd.2.1 hd.2.2.1 hd.2.2.2 x (y - 1)
  unfold fcost
  omega
theorem rowS_bd {w h : Int} {f : Int → Int} (hf : vok f) (hd : 1 ≤ w ∧ w ≤ 16 ∧ 1 ≤ h ∧ h ≤ 16) : ∀ (y : Nat) (x : Int), 0 ≤ rowS w h f y x ∧ rowS w h f y x ≤ 510 * ((y : Int) + 1)
  | 0, x => by
    have := fcost_bd hf hd x 0
    unfold rowS
    omega
  | y + 1, x => by
    have h1 := fcost_bd hf hd x ((y : Int) + 1)
    have h2 := rowS_bd hf hd y (bcR (rowS w h f y) w (x - 1) (x + 1))
    unfold rowS
    omega
theorem colD_bd {w h : Int} {f : Int → Int} (hw : 1 ≤ w) : ∀ k : Nat, 0 ≤ colD w h f k ∧ colD w h f k < w
  | 0 => by
    have := bcR_bd (rowS w h f (h - 1).toNat) (w := w) (low := 0) (high := w - 1) (by omega)
    unfold colD
    omega
  | k + 1 => by
    have h0 := colD_bd (h := h) (f := f) hw k
    have := bcR_bd (rowS w h f (h - 2 - k).toNat) (w := w) (low := colD w h f k - 1) (high := colD w h f k + 1) (by omega)
    unfold colD
    omega
theorem fcol_bd {w h : Int} {f : Int → Int} (hw : 1 ≤ w) (y : Int) : 0 ≤ fcol w h f y ∧ fcol w h f y < w := colD_bd hw _
theorem fcol_nx {w h : Int} {f : Int → Int} {y : Int} (hy0 : 0 ≤ y) (hy : y < h - 1) : fcol w h f y = bcR (rowS w h f y.toNat) w (fcol w h f (y + 1) - 1) (fcol w h f (y + 1) + 1) := by
  unfold fcol
  rw [show (h - 1 - y).toNat = (h - 1 - (y + 1)).toNat + 1 by omega]
  show bcR (rowS w h f (h - 2 - ((h - 1 - (y + 1)).toNat : Nat)).toNat) w _ _ = _
  rw [show (h - 2 - (((h - 1 - (y + 1)).toNat : Nat) : Int)).toNat = y.toNat by omega]
theorem fcol_near {w h : Int} {f : Int → Int} (hw : 1 ≤ w) {y : Int} (hy0 : 0 ≤ y) (hy : y < h - 1) : -1 ≤ fcol w h f y - fcol w h f (y + 1) ∧ fcol w h f y - fcol w h f (y + 1) ≤ 1 := by
  have h0 := fcol_bd (h := h) (f := f) hw (y + 1)
  have := bcR_bd (rowS w h f y.toNat) (w := w) (low := fcol w h f (y + 1) - 1) (high := fcol w h f (y + 1) + 1) (by omega)
  rw [fcol_nx hy0 hy]
  omega
/-- what the SEAM costs is the sum of the COSTS along it -/
theorem ftot_sum {w h : Int} {f : Int → Int} : ∀ y : Nat, (y : Int) < h → rowS w h f y (fcol w h f (y : Int)) = fsum (fun j => fcost w h f (fcol w h f j) j) ((y : Int) + 1)
  | 0, hy => by
    rw [show ((0 : Nat) : Int) + 1 = 0 + 1 from rfl, fsum_succ _ (Int.le_refl 0), fsum_0, Int.zero_add]
    rfl
  | y + 1, hy => by
    rw [show ((y + 1 : Nat) : Int) = (y : Int) + 1 by omega, fsum_succ _ (by omega), ← ftot_sum y (by omega)]
    have := fcol_nx (w := w) (h := h) (f := f) (y := (y : Int)) (by omega) (by omega)
    rw [Int.toNat_natCast] at this
    show fcost w h f _ ((y : Int) + 1) + rowS w h f y _ = _
    rw [← this]
    omega
def se (H : List mC) (tt : Int) (cl sm : Int → Int) : Prop := m_get H 26 = some (.inr (2, [vI tt, .ref 27, .ref 28, .ref 29])) ∧ m_get H 27 = some (.inl (0, aI 16 cl)) ∧ m_get H 28 = some (.inl (0, aI 256 sm))
section SEAM
variable {scr : List Int32} {H : List mC} {s v : Nat} {tt w h x y low high : Int} {f cl sm : Int → Int}
theorem k_costOf (hs : sh H s v w h f) (hf : vok f) (hx : 0 ≤ x ∧ x < w) (hy : 0 ≤ y ∧ y < h) : m_Cl scr 26 [.ref s, vI x, vI y] H (some (vI (fcost w h f x y))) H := by
  have hd := hs.2.2.2
  have h1 := fnear_ok hf hd.1 hd.2.1 hd.2.2.1 hd.2.2.2 (x + 1) y
  have h2 := fnear_ok hf hd.1 hd.2.1 hd.2.2.1 hd.2.2.2 (x - 1) y
  have h3 := fnear_ok hf hd.1 hd.2.1 hd.2.2.1 hd.2.2.2 x (y + 1)
  have h4 := fnear_ok hf hd.1 hd.2.1 hd.2.2.1 hd.2.2.2 x (y - 1)
  show m_Ev scr 26 0 [(0, .ref s), (1, vI x), (2, vI y)] [] H _
  refine R_aload_n 1 c_26_0 rfl rfl ?_
  refine R_iload_n 2 c_26_1 rfl rfl ?_
  refine R_iconst 3 c_26_2 rfl ?_
  refine R_iadd 4 c_26_3 rfl ?_
  refine R_iload_n 5 c_26_4 rfl rfl ?_
  refine R_callV 8 c_26_5 rfl rfl rfl rfl (Nat.le_of_ble_eq_true rfl) (Nat.le_of_ble_eq_true rfl) (hs.1) (k_near hs (by unfold inR; omega) (by unfold inR; omega)) ?_
  refine R_aload_n 9 c_26_8 rfl rfl ?_
  refine R_iload_n 10 c_26_9 rfl rfl ?_
  refine R_iconst 11 c_26_10 rfl ?_
  refine R_isub 12 c_26_11 rfl ?_
  refine R_iload_n 13 c_26_12 rfl rfl ?_
  refine R_callV 16 c_26_13 rfl rfl rfl rfl (Nat.le_of_ble_eq_true rfl) (Nat.le_of_ble_eq_true rfl) (hs.1) (k_near hs (by unfold inR; omega) (by unfold inR; omega)) ?_
  refine R_isub 17 c_26_16 rfl ?_
  refine R_abs 20 c_26_17 rfl (by unfold inR; omega) (Nat.le_of_ble_eq_true rfl) ?_
  refine R_aload_n 21 c_26_20 rfl rfl ?_
  refine R_iload_n 22 c_26_21 rfl rfl ?_
  refine R_iload_n 23 c_26_22 rfl rfl ?_
  refine R_iconst 24 c_26_23 rfl ?_
  refine R_iadd 25 c_26_24 rfl ?_
  refine R_callV 28 c_26_25 rfl rfl rfl rfl (Nat.le_of_ble_eq_true rfl) (Nat.le_of_ble_eq_true rfl) (hs.1) (k_near hs (by unfold inR; omega) (by unfold inR; omega)) ?_
  refine R_aload_n 29 c_26_28 rfl rfl ?_
  refine R_iload_n 30 c_26_29 rfl rfl ?_
  refine R_iload_n 31 c_26_30 rfl rfl ?_
  refine R_iconst 32 c_26_31 rfl ?_
  refine R_isub 33 c_26_32 rfl ?_
  refine R_callV 36 c_26_33 rfl rfl rfl rfl (Nat.le_of_ble_eq_true rfl) (Nat.le_of_ble_eq_true rfl) (hs.1) (k_near hs (by unfold inR; omega) (by unfold inR; omega)) ?_
  refine R_isub 37 c_26_36 rfl ?_
  refine R_abs 40 c_26_37 rfl (by unfold inR; omega) (Nat.le_of_ble_eq_true rfl) ?_
  refine R_iadd 41 c_26_40 rfl ?_
  exact R_ireturn c_26_41 rfl rfl
theorem k_bestColumn (hp : se H tt cl sm) (hd : 1 ≤ w ∧ w ≤ 16 ∧ 1 ≤ h ∧ h ≤ 16) (hy : 0 ≤ y ∧ y < h) (hl : -100 ≤ low ∧ low ≤ 100) (hh : -100 ≤ high ∧ high ≤ 100) (hlh : max 0 low ≤ min high (w - 1)) (hb : ∀ x, 0 ≤ x → x < w → 0 ≤ sm (y * w + x) ∧ sm (y * w + x) ≤ 100000) :
    m_Cl scr 27 [.ref 26, vI w, vI y, vI low, vI high] H (some (vI (bcR (fun x => sm (y * w + x)) w low high))) H := by
  have ha := m_area hd.1 hd.2.1 hd.2.2.1 hd.2.2.2
  show m_Ev scr 27 0 [(0, .ref 26), (1, vI w), (2, vI y), (3, vI low), (4, vI high)] [] H _
  refine m_gen (fun X hX => ?_)
  refine R_iconst 1 c_27_0 rfl ?_
  refine R_iload_n 2 c_27_1 rfl rfl ?_
  refine R_max 5 c_27_2 rfl (by unfold inR; omega) (by unfold inR; omega) (Nat.le_of_ble_eq_true rfl) ?_
  refine R_istore 7 c_27_5 rfl ?_
  refine R_iload 9 c_27_7 rfl rfl ?_
  refine R_iconst 10 c_27_9 rfl ?_
  refine R_iadd 11 c_27_10 rfl ?_
  refine R_istore 13 c_27_11 rfl ?_
  refine m_forP (min high (w - 1) + 1) (fun x L H2 => H2 = H ∧ ∃ b, L = [(0, .ref 26), (1, vI w), (2, vI y), (3, vI low), (4, vI high), (5, vI b), (6, vI x)] ∧ 0 ≤ b ∧ b < x ∧ bcR (fun x => sm (y * w + x)) w low high = bcA (fun x => sm (y * w + x)) (min high (w - 1) + 1 - x).toNat x b) (max 0 low + 1) ⟨rfl, _, rfl, by omega, by omega, ?_⟩ (by omega) ?_ ?_
  · unfold bcR
    rw [show min high (w - 1) + 1 - (max 0 low + 1) = min high (w - 1) - max 0 low by omega]
  · rintro x _ _ hx0 hx1 ⟨rfl, b, rfl, hb0, hb1, hbe⟩ ih
    have hix := m_idx (x := x) (y := y) (w := w) (h := h) (by omega) (by omega) hy.1 hy.2
    have hib := m_idx (x := b) (y := y) (w := w) (h := h) (by omega) (by omega) hy.1 hy.2
    have hvx := hb x (by omega) (by omega)
    have hvb := hb b (by omega) (by omega)
    rw [show (min high (w - 1) + 1 - x).toNat = (min high (w - 1) + 1 - (x + 1)).toNat + 1 by omega] at hbe
    unfold bcA at hbe
    refine R_iload 15 c_27_13 rfl rfl ?_
    refine R_iload 17 c_27_15 rfl rfl ?_
    refine R_iload_n 18 c_27_17 rfl rfl ?_
    refine R_iconst 19 c_27_18 rfl ?_
    refine R_isub 20 c_27_19 rfl ?_
    refine R_min 23 c_27_20 rfl (by unfold inR; omega) (by unfold inR; omega) (Nat.le_of_ble_eq_true rfl) ?_
    refine R_br 26 61 _ (cmp_gt (by unfold inR; omega) (by unfold inR; omega)) c_27_23 rfl rfl (fun hn => absurd hn (by omega)) (fun _ => ?_)
    refine R_aload_n 27 c_27_26 rfl rfl ?_
    refine R_get 30 c_27_27 rfl (hp.1) rfl ?_
    refine R_iload_n 31 c_27_30 rfl rfl ?_
    refine R_iload_n 32 c_27_31 rfl rfl ?_
    refine R_imul 33 c_27_32 rfl ?_
    refine R_iload 35 c_27_33 rfl rfl ?_
    refine R_iadd 36 c_27_35 rfl ?_
    refine R_iald 37 c_27_36 rfl (hp.2.2) (by omega) (by omega) (by decide) ?_
    refine R_aload_n 38 c_27_37 rfl rfl ?_
    refine R_get 41 c_27_38 rfl (hp.1) rfl ?_
    refine R_iload_n 42 c_27_41 rfl rfl ?_
    refine R_iload_n 43 c_27_42 rfl rfl ?_
    refine R_imul 44 c_27_43 rfl ?_
    refine R_iload 46 c_27_44 rfl rfl ?_
    refine R_iadd 47 c_27_46 rfl ?_
    refine R_iald 48 c_27_47 rfl (hp.2.2) (by omega) (by omega) (by decide) ?_
    refine R_br 51 55 _ (cmp_ge (by unfold inR; omega) (by unfold inR; omega)) c_27_48 rfl rfl (fun hb => ?_) (fun hb => ?_)
    · rw [if_neg (by omega)] at hbe
      refine R_iinc 58 c_27_55 rfl rfl ?_
      refine R_goto 13 c_27_58 rfl ?_
      exact ih _ _ ⟨rfl, b, rfl, hb0, by omega, hbe⟩
    · rw [if_pos (by omega)] at hbe
      refine R_iload 53 c_27_51 rfl rfl ?_
      refine R_istore 55 c_27_53 rfl ?_
      refine R_iinc 58 c_27_55 rfl rfl ?_
      refine R_goto 13 c_27_58 rfl ?_
      exact ih _ _ ⟨rfl, x, rfl, by omega, by omega, hbe⟩
  · rintro _ _ ⟨rfl, b, rfl, hb0, hb1, hbe⟩
    rw [show (min high (w - 1) + 1 - (min high (w - 1) + 1)).toNat = 0 by omega] at hbe
    refine R_iload 15 c_27_13 rfl rfl ?_
    refine R_iload 17 c_27_15 rfl rfl ?_
    refine R_iload_n 18 c_27_17 rfl rfl ?_
    refine R_iconst 19 c_27_18 rfl ?_
    refine R_isub 20 c_27_19 rfl ?_
    refine R_min 23 c_27_20 rfl (by unfold inR; omega) (by unfold inR; omega) (Nat.le_of_ble_eq_true rfl) ?_
    refine R_br 26 61 _ (cmp_gt (by unfold inR; omega) (by unfold inR; omega)) c_27_23 rfl rfl (fun _ => ?_) (fun hn => absurd (by omega) hn)
    refine R_iload 63 c_27_61 rfl rfl ?_
    refine R_ireturn c_27_63 rfl ?_
    refine hX _ _ ?_
    rw [hbe]
    rfl
theorem k_leastAbove (hp : se H tt cl sm) (hd : 1 ≤ w ∧ w ≤ 16 ∧ 1 ≤ h ∧ h ≤ 16) (hx : 0 ≤ x ∧ x < w) (hy : 0 ≤ y ∧ y < h) (hbq : ∀ j, 0 ≤ j → j < w → 1 ≤ y → 0 ≤ sm ((y - 1) * w + j) ∧ sm ((y - 1) * w + j) ≤ 100000) :
    m_Cl scr 25 [.ref 26, vI w, vI x, vI y] H (some (vI (if y = 0 then 0 else sm ((y - 1) * w + bcR (fun j => sm ((y - 1) * w + j)) w (x - 1) (x + 1))))) H := by
  have ha := m_area hd.1 hd.2.1 hd.2.2.1 hd.2.2.2
  show m_Ev scr 25 0 [(0, .ref 26), (1, vI w), (2, vI x), (3, vI y)] [] H _
  refine R_iload_n 1 c_25_0 rfl rfl ?_
  refine R_brz 4 6 _ (cmp_ne (by unfold inR; omega) inR_0) c_25_1 rfl rfl (fun hb => ?_) (fun hb => ?_)
  · have hbb := bcR_bd (fun j => sm ((y - 1) * w + j)) (w := w) (low := x - 1) (high := x + 1) (by omega)
    have hib := m_idx (x := bcR (fun j => sm ((y - 1) * w + j)) w (x - 1) (x + 1)) (y := y - 1) (w := w) (h := h) (by omega) (by omega) (by omega) (by omega)
    refine R_aload_n 7 c_25_6 rfl rfl ?_
    refine R_get 10 c_25_7 rfl (hp.1) rfl ?_
    refine R_iload_n 11 c_25_10 rfl rfl ?_
    refine R_iconst 12 c_25_11 rfl ?_
    refine R_isub 13 c_25_12 rfl ?_
    refine R_iload_n 14 c_25_13 rfl rfl ?_
    refine R_imul 15 c_25_14 rfl ?_
    refine R_aload_n 16 c_25_15 rfl rfl ?_
    refine R_iload_n 17 c_25_16 rfl rfl ?_
    refine R_iload_n 18 c_25_17 rfl rfl ?_
    refine R_iconst 19 c_25_18 rfl ?_
    refine R_isub 20 c_25_19 rfl ?_
    refine R_iload_n 21 c_25_20 rfl rfl ?_
    refine R_iconst 22 c_25_21 rfl ?_
    refine R_isub 23 c_25_22 rfl ?_
    refine R_iload_n 24 c_25_23 rfl rfl ?_
    refine R_iconst 25 c_25_24 rfl ?_
    refine R_iadd 26 c_25_25 rfl ?_
    refine R_callV 29 c_25_26 rfl rfl rfl rfl (Nat.le_of_ble_eq_true rfl) (Nat.le_of_ble_eq_true rfl) (hp.1) (k_bestColumn hp hd ⟨by omega, by omega⟩ (by omega) (by omega) (by omega) (fun j j0 j1 => hbq j j0 j1 (by omega))) ?_
    refine R_iadd 30 c_25_29 rfl ?_
    refine R_iald 31 c_25_30 rfl (hp.2.2) (by omega) (by omega) (by decide) ?_
    rw [if_neg hb]
    exact R_ireturn c_25_31 rfl rfl
  · refine R_iconst 5 c_25_4 rfl ?_
    rw [if_pos (by omega)]
    exact R_ireturn c_25_5 rfl rfl
end SEAM
