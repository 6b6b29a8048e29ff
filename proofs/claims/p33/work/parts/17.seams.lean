/-! Seams -/
def fcost (w h : Int) (f : Int → Int) (x y : Int) : Int := ((fnear w h f (x + 1) y - fnear w h f (x - 1) y).natAbs : Int) + ((fnear w h f x (y + 1) - fnear w h f x (y - 1)).natAbs : Int)
def bcA (s : Int → Int) : Nat → Int → Int → Int
  | 0, _, b => b
  | n + 1, x, b => bcA s n (x + 1) (if s x < s b then x else b)
def bcR (s : Int → Int) (w low high : Int) : Int := bcA s (min high (w - 1) - max 0 low).toNat (max 0 low + 1) (max 0 low)
theorem bcA_bd (s : Int → Int) : ∀ (n : Nat) (x b : Int), b < x → b ≤ bcA s n x b ∧ bcA s n x b < x + n
  | 0, x, b, h => by unfold bcA; omega
  | n + 1, x, b, h => by
    unfold bcA
    by_cases hs : s x < s b
    · rw [if_pos hs]
      have := bcA_bd s n (x + 1) x (by omega)
      omega
    · rw [if_neg hs]
      have := bcA_bd s n (x + 1) b (by omega)
      omega
theorem bcR_bd (s : Int → Int) {w low high : Int} (h : max 0 low ≤ min high (w - 1)) : max 0 low ≤ bcR s w low high ∧ bcR s w low high ≤ min high (w - 1) := by
  have := bcA_bd s (min high (w - 1) - max 0 low).toNat (max 0 low + 1) (max 0 low) (by omega)
  unfold bcR
  omega
theorem bcA_congr {s s' : Int → Int} {w : Int} (hs : ∀ x, 0 ≤ x → x < w → s x = s' x) : ∀ (n : Nat) (x b : Int), 0 ≤ b → b < x → x + n ≤ w → bcA s n x b = bcA s' n x b
  | 0, x, b, h0, h1, h2 => rfl
  | n + 1, x, b, h0, h1, h2 => by
    unfold bcA
    rw [hs x (by omega) (by omega), hs b h0 (by omega)]
    split
    · exact bcA_congr hs n (x + 1) x (by omega) (by omega) (by omega)
    · exact bcA_congr hs n (x + 1) b h0 (by omega) (by omega)
theorem bcR_congr {s s' : Int → Int} {w low high : Int} (hs : ∀ x, 0 ≤ x → x < w → s x = s' x) (h : max 0 low ≤ min high (w - 1)) : bcR s w low high = bcR s' w low high := bcA_congr hs _ _ _ (by omega) (by omega) (by omega)
def rowS (w h : Int) (f : Int → Int) : Nat → Int → Int
  | 0, x => fcost w h f x 0
  | y + 1, x => fcost w h f x ((y : Int) + 1) + rowS w h f y (bcR (rowS w h f y) w (x - 1) (x + 1))
def colD (w h : Int) (f : Int → Int) : Nat → Int
  | 0 => bcR (rowS w h f (h - 1).toNat) w 0 (w - 1)
  | k + 1 => bcR (rowS w h f (h - 2 - k).toNat) w (colD w h f k - 1) (colD w h f k + 1)
def fcol (w h : Int) (f : Int → Int) (y : Int) : Int := colD w h f (h - 1 - y).toNat
def ftot (w h : Int) (f : Int → Int) : Int := rowS w h f (h - 1).toNat (fcol w h f (h - 1))
theorem fcost_bd {w h : Int} {f : Int → Int} (hf : vok f) (hd : 1 ≤ w ∧ w ≤ 16 ∧ 1 ≤ h ∧ h ≤ 16) (x y : Int) : 0 ≤ fcost w h f x y ∧ fcost w h f x y ≤ 510 := by
  have h1 := fnear_ok hf hd.1 hd.2.1 hd.2.2.1 hd.2.2.2 (x + 1) y
  have h2 := fnear_ok hf hd.1 hd.2.1 hd.2.2.1 hd.2.2.2 (x - 1) y
  have h3 := fnear_ok hf hd.1 hd.2.1 hd.2.2.1 hd.2.2.2 x (y + 1)
  have h4 := fnear_ok hf hd.1 hd.2.1 hd.2.2.1 hd.2.2.2 x (y - 1)
  unfold fcost
  omega
theorem rowS_bd {w h : Int} {f : Int → Int} (hf : vok f) (hd : 1 ≤ w ∧ w ≤ 16 ∧ 1 ≤ h ∧ h ≤ 16) : ∀ (y : Nat) (x : Int), 0 ≤ rowS w h f y x ∧ rowS w h f y x ≤ 510 * ((y : Int) + 1)
  | 0, x => by
    have := fcost_bd hf hd x 0
    unfold rowS
    omega
  | y + 1, x => by
    have h1 := fcost_bd hf hd x ((y : Int) + 1)
    have h2 := rowS_bd hf hd y (bcR (rowS w h f y) w (x - 1) (x + 1))
    unfold rowS
    omega
theorem colD_bd {w h : Int} {f : Int → Int} (hw : 1 ≤ w) : ∀ k : Nat, 0 ≤ colD w h f k ∧ colD w h f k < w
  | 0 => by
    have := bcR_bd (rowS w h f (h - 1).toNat) (w := w) (low := 0) (high := w - 1) (by omega)
    unfold colD
    omega
  | k + 1 => by
    have h0 := colD_bd (h := h) (f := f) hw k
    have := bcR_bd (rowS w h f (h - 2 - k).toNat) (w := w) (low := colD w h f k - 1) (high := colD w h f k + 1) (by omega)
    unfold colD
    omega
theorem fcol_bd {w h : Int} {f : Int → Int} (hw : 1 ≤ w) (y : Int) : 0 ≤ fcol w h f y ∧ fcol w h f y < w := colD_bd hw _
theorem fcol_nx {w h : Int} {f : Int → Int} {y : Int} (hy0 : 0 ≤ y) (hy : y < h - 1) : fcol w h f y = bcR (rowS w h f y.toNat) w (fcol w h f (y + 1) - 1) (fcol w h f (y + 1) + 1) := by
  unfold fcol
  rw [show (h - 1 - y).toNat = (h - 1 - (y + 1)).toNat + 1 by omega]
  show bcR (rowS w h f (h - 2 - ((h - 1 - (y + 1)).toNat : Nat)).toNat) w _ _ = _
  rw [show (h - 2 - (((h - 1 - (y + 1)).toNat : Nat) : Int)).toNat = y.toNat by omega]
theorem fcol_near {w h : Int} {f : Int → Int} (hw : 1 ≤ w) {y : Int} (hy0 : 0 ≤ y) (hy : y < h - 1) : -1 ≤ fcol w h f y - fcol w h f (y + 1) ∧ fcol w h f y - fcol w h f (y + 1) ≤ 1 := by
  have h0 := fcol_bd (h := h) (f := f) hw (y + 1)
  have := bcR_bd (rowS w h f y.toNat) (w := w) (low := fcol w h f (y + 1) - 1) (high := fcol w h f (y + 1) + 1) (by omega)
  rw [fcol_nx hy0 hy]
  omega
/-- what the SEAM costs is the sum of the COSTS along it -/
theorem ftot_sum {w h : Int} {f : Int → Int} : ∀ y : Nat, (y : Int) < h → rowS w h f y (fcol w h f (y : Int)) = fsum (fun j => fcost w h f (fcol w h f j) j) ((y : Int) + 1)
  | 0, hy => by
    rw [show ((0 : Nat) : Int) + 1 = 0 + 1 from rfl, fsum_succ _ (Int.le_refl 0), fsum_0, Int.zero_add]
    rfl
  | y + 1, hy => by
    rw [show ((y + 1 : Nat) : Int) = (y : Int) + 1 by omega, fsum_succ _ (by omega), ← ftot_sum y (by omega)]
    have := fcol_nx (w := w) (h := h) (f := f) (y := (y : Int)) (by omega) (by omega)
    rw [Int.toNat_natCast] at this
    show fcost w h f _ ((y : Int) + 1) + rowS w h f y _ = _
    rw [← this]
    omega
def se (H : List mC) (tt : Int) (cl sm : Int → Int) : Prop := m_get H 26 = some (.inr (2, [vI tt, .ref 27, .ref 28, .ref 29])) ∧ m_get H 27 = some (.inl (0, aI 16 cl)) ∧ m_get H 28 = some (.inl (0, aI 256 sm))
section SEAM
variable {scr : List Int32} {H : List mC} {s v : Nat} {tt w h x y low high : Int} {f cl sm : Int → Int}
theorem k_costOf (hs : sh H s v w h f) (hf : vok f) (hx : 0 ≤ x ∧ x < w) (hy : 0 ≤ y ∧ y < h) : m_Cl scr 26 [.ref s, vI x, vI y] H (some (vI (fcost w h f x y))) H := by
  have hd := hs.2.2.2
  have h1 := fnear_ok hf hd.1 hd.2.1 hd.2.2.1 hd.2.2.2 (x + 1) y
  have h2 := fnear_ok hf hd.1 hd.2.1 hd.2.2.1 hd.2.2.2 (x - 1) y
  have h3 := fnear_ok hf hd.1 hd.2.1 hd.2.2.1 hd.2.2.2 x (y + 1)
  have h4 := fnear_ok hf hd.1 hd.2.1 hd.2.2.1 hd.2.2.2 x (y - 1)
  show m_Ev scr 26 0 [(0, .ref s), (1, vI x), (2, vI y)] [] H _
  refine R_aload_n 1 c_26_0 rfl rfl ?_
  refine R_iload_n 2 c_26_1 rfl rfl ?_
  refine R_iconst 3 c_26_2 rfl ?_
  refine R_iadd 4 c_26_3 rfl ?_
  refine R_iload_n 5 c_26_4 rfl rfl ?_
  refine R_callV 8 c_26_5 rfl rfl rfl rfl (Nat.le_of_ble_eq_true rfl) (Nat.le_of_ble_eq_true rfl) (hs.1) (k_near hs (by unfold inR; omega) (by unfold inR; omega)) ?_
  refine R_aload_n 9 c_26_8 rfl rfl ?_
  refine R_iload_n 10 c_26_9 rfl rfl ?_
  refine R_iconst 11 c_26_10 rfl ?_
  refine R_isub 12 c_26_11 rfl ?_
  refine R_iload_n 13 c_26_12 rfl rfl ?_
  refine R_callV 16 c_26_13 rfl rfl rfl rfl (Nat.le_of_ble_eq_true rfl) (Nat.le_of_ble_eq_true rfl) (hs.1) (k_near hs (by unfold inR; omega) (by unfold inR; omega)) ?_
  refine R_isub 17 c_26_16 rfl ?_
  refine R_abs 20 c_26_17 rfl (by unfold inR; omega) (Nat.le_of_ble_eq_true rfl) ?_
  refine R_aload_n 21 c_26_20 rfl rfl ?_
  refine R_iload_n 22 c_26_21 rfl rfl ?_
  refine R_iload_n 23 c_26_22 rfl rfl ?_
  refine R_iconst 24 c_26_23 rfl ?_
  refine R_iadd 25 c_26_24 rfl ?_
  refine R_callV 28 c_26_25 rfl rfl rfl rfl (Nat.le_of_ble_eq_true rfl) (Nat.le_of_ble_eq_true rfl) (hs.1) (k_near hs (by unfold inR; omega) (by unfold inR; omega)) ?_
  refine R_aload_n 29 c_26_28 rfl rfl ?_
  refine R_iload_n 30 c_26_29 rfl rfl ?_
  refine R_iload_n 31 c_26_30 rfl rfl ?_
  refine R_iconst 32 c_26_31 rfl ?_
  refine R_isub 33 c_26_32 rfl ?_
  refine R_callV 36 c_26_33 rfl rfl rfl rfl (Nat.le_of_ble_eq_true rfl) (Nat.le_of_ble_eq_true rfl) (hs.1) (k_near hs (by unfold inR; omega) (by unfold inR; omega)) ?_
  refine R_isub 37 c_26_36 rfl ?_
  refine R_abs 40 c_26_37 rfl (by unfold inR; omega) (Nat.le_of_ble_eq_true rfl) ?_
  refine R_iadd 41 c_26_40 rfl ?_
  exact R_ireturn c_26_41 rfl rfl
theorem k_bestColumn (hp : se H tt cl sm) (hd : 1 ≤ w ∧ w ≤ 16 ∧ 1 ≤ h ∧ h ≤ 16) (hy : 0 ≤ y ∧ y < h) (hl : -100 ≤ low ∧ low ≤ 100) (hh : -100 ≤ high ∧ high ≤ 100) (hlh : max 0 low ≤ min high (w - 1)) (hb : ∀ x, 0 ≤ x → x < w → 0 ≤ sm (y * w + x) ∧ sm (y * w + x) ≤ 100000) :
    m_Cl scr 27 [.ref 26, vI w, vI y, vI low, vI high] H (some (vI (bcR (fun x => sm (y * w + x)) w low high))) H := by
  have ha := m_area hd.1 hd.2.1 hd.2.2.1 hd.2.2.2
  show m_Ev scr 27 0 [(0, .ref 26), (1, vI w), (2, vI y), (3, vI low), (4, vI high)] [] H _
  refine m_gen (fun X hX => ?_)
  refine R_iconst 1 c_27_0 rfl ?_
  refine R_iload_n 2 c_27_1 rfl rfl ?_
  refine R_max 5 c_27_2 rfl (by unfold inR; omega) (by unfold inR; omega) (Nat.le_of_ble_eq_true rfl) ?_
  refine R_istore 7 c_27_5 rfl ?_
  refine R_iload 9 c_27_7 rfl rfl ?_
  refine R_iconst 10 c_27_9 rfl ?_
  refine R_iadd 11 c_27_10 rfl ?_
  refine R_istore 13 c_27_11 rfl ?_
  refine m_forP (min high (w - 1) + 1) (fun x L H2 => H2 = H ∧ ∃ b, L = [(0, .ref 26), (1, vI w), (2, vI y), (3, vI low), (4, vI high), (5, vI b), (6, vI x)] ∧ 0 ≤ b ∧ b < x ∧ bcR (fun x => sm (y * w + x)) w low high = bcA (fun x => sm (y * w + x)) (min high (w - 1) + 1 - x).toNat x b) (max 0 low + 1) ⟨rfl, _, rfl, by omega, by omega, ?_⟩ (by omega) ?_ ?_
  · unfold bcR
    rw [show min high (w - 1) + 1 - (max 0 low + 1) = min high (w - 1) - max 0 low by omega]
  · rintro x _ _ hx0 hx1 ⟨rfl, b, rfl, hb0, hb1, hbe⟩ ih
    have hix := m_idx (x := x) (y := y) (w := w) (h := h) (by omega) (by omega) hy.1 hy.2
    have hib := m_idx (x := b) (y := y) (w := w) (h := h) (by omega) (by omega) hy.1 hy.2
    have hvx := hb x (by omega) (by omega)
    have hvb := hb b (by omega) (by omega)
    rw [show (min high (w - 1) + 1 - x).toNat = (min high (w - 1) + 1 - (x + 1)).toNat + 1 by omega] at hbe
    unfold bcA at hbe
    refine R_iload 15 c_27_13 rfl rfl ?_
    refine R_iload 17 c_27_15 rfl rfl ?_
    refine R_iload_n 18 c_27_17 rfl rfl ?_
    refine R_iconst 19 c_27_18 rfl ?_
    refine R_isub 20 c_27_19 rfl ?_
    refine R_min 23 c_27_20 rfl (by unfold inR; omega) (by unfold inR; omega) (Nat.le_of_ble_eq_true rfl) ?_
    refine R_br 26 61 _ (cmp_gt (by unfold inR; omega) (by unfold inR; omega)) c_27_23 rfl rfl (fun hn => absurd hn (by omega)) (fun _ => ?_)
    refine R_aload_n 27 c_27_26 rfl rfl ?_
    refine R_get 30 c_27_27 rfl (hp.1) rfl ?_
    refine R_iload_n 31 c_27_30 rfl rfl ?_
    refine R_iload_n 32 c_27_31 rfl rfl ?_
    refine R_imul 33 c_27_32 rfl ?_
    refine R_iload 35 c_27_33 rfl rfl ?_
    refine R_iadd 36 c_27_35 rfl ?_
    refine R_iald 37 c_27_36 rfl (hp.2.2) (by omega) (by omega) (by decide) ?_
    refine R_aload_n 38 c_27_37 rfl rfl ?_
    refine R_get 41 c_27_38 rfl (hp.1) rfl ?_
    refine R_iload_n 42 c_27_41 rfl rfl ?_
    refine R_iload_n 43 c_27_42 rfl rfl ?_
    refine R_imul 44 c_27_43 rfl ?_
    refine R_iload 46 c_27_44 rfl rfl ?_
    refine R_iadd 47 c_27_46 rfl ?_
    refine R_iald 48 c_27_47 rfl (hp.2.2) (by omega) (by omega) (by decide) ?_
    refine R_br 51 55 _ (cmp_ge (by unfold inR; omega) (by unfold inR; omega)) c_27_48 rfl rfl (fun hb => ?_) (fun hb => ?_)
    · rw [if_neg (by omega)] at hbe
      refine R_iinc 58 c_27_55 rfl rfl ?_
      refine R_goto 13 c_27_58 rfl ?_
      exact ih _ _ ⟨rfl, b, rfl, hb0, by omega, hbe⟩
    · rw [if_pos (by omega)] at hbe
      refine R_iload 53 c_27_51 rfl rfl ?_
      refine R_istore 55 c_27_53 rfl ?_
      refine R_iinc 58 c_27_55 rfl rfl ?_
      refine R_goto 13 c_27_58 rfl ?_
      exact ih _ _ ⟨rfl, x, rfl, by omega, by omega, hbe⟩
  · rintro _ _ ⟨rfl, b, rfl, hb0, hb1, hbe⟩
    rw [show (min high (w - 1) + 1 - (min high (w - 1) + 1)).toNat = 0 by omega] at hbe
    refine R_iload 15 c_27_13 rfl rfl ?_
    refine R_iload 17 c_27_15 rfl rfl ?_
    refine R_iload_n 18 c_27_17 rfl rfl ?_
    refine R_iconst 19 c_27_18 rfl ?_
    refine R_isub 20 c_27_19 rfl ?_
    refine R_min 23 c_27_20 rfl (by unfold inR; omega) (by unfold inR; omega) (Nat.le_of_ble_eq_true rfl) ?_
    refine R_br 26 61 _ (cmp_gt (by unfold inR; omega) (by unfold inR; omega)) c_27_23 rfl rfl (fun _ => ?_) (fun hn => absurd (by omega) hn)
    refine R_iload 63 c_27_61 rfl rfl ?_
    refine R_ireturn c_27_63 rfl ?_
    refine hX _ _ ?_
    rw [hbe]
    rfl
theorem k_leastAbove (hp : se H tt cl sm) (hd : 1 ≤ w ∧ w ≤ 16 ∧ 1 ≤ h ∧ h ≤ 16) (hx : 0 ≤ x ∧ x < w) (hy : 0 ≤ y ∧ y < h) (hbq : ∀ j, 0 ≤ j → j < w → 1 ≤ y → 0 ≤ sm ((y - 1) * w + j) ∧ sm ((y - 1) * w + j) ≤ 100000) :
    m_Cl scr 25 [.ref 26, vI w, vI x, vI y] H (some (vI (if y = 0 then 0 else sm ((y - 1) * w + bcR (fun j => sm ((y - 1) * w + j)) w (x - 1) (x + 1))))) H := by
  have ha := m_area hd.1 hd.2.1 hd.2.2.1 hd.2.2.2
  show m_Ev scr 25 0 [(0, .ref 26), (1, vI w), (2, vI x), (3, vI y)] [] H _
  refine R_iload_n 1 c_25_0 rfl rfl ?_
  refine R_brz 4 6 _ (cmp_ne (by unfold inR; omega) inR_0) c_25_1 rfl rfl (fun hb => ?_) (fun hb => ?_)
  · have hbb := bcR_bd (fun j => sm ((y - 1) * w + j)) (w := w) (low := x - 1) (high := x + 1) (by omega)
    have hib := m_idx (x := bcR (fun j => sm ((y - 1) * w + j)) w (x - 1) (x + 1)) (y := y - 1) (w := w) (h := h) (by omega) (by omega) (by omega) (by omega)
    refine R_aload_n 7 c_25_6 rfl rfl ?_
    refine R_get 10 c_25_7 rfl (hp.1) rfl ?_
    refine R_iload_n 11 c_25_10 rfl rfl ?_
    refine R_iconst 12 c_25_11 rfl ?_
    refine R_isub 13 c_25_12 rfl ?_
    refine R_iload_n 14 c_25_13 rfl rfl ?_
    refine R_imul 15 c_25_14 rfl ?_
    refine R_aload_n 16 c_25_15 rfl rfl ?_
    refine R_iload_n 17 c_25_16 rfl rfl ?_
    refine R_iload_n 18 c_25_17 rfl rfl ?_
    refine R_iconst 19 c_25_18 rfl ?_
    refine R_isub 20 c_25_19 rfl ?_
    refine R_iload_n 21 c_25_20 rfl rfl ?_
    refine R_iconst 22 c_25_21 rfl ?_
    refine R_isub 23 c_25_22 rfl ?_
    refine R_iload_n 24 c_25_23 rfl rfl ?_
    refine R_iconst 25 c_25_24 rfl ?_
    refine R_iadd 26 c_25_25 rfl ?_
    refine R_callV 29 c_25_26 rfl rfl rfl rfl (Nat.le_of_ble_eq_true rfl) (Nat.le_of_ble_eq_true rfl) (hp.1) (k_bestColumn hp hd ⟨by omega, by omega⟩ (by omega) (by omega) (by omega) (fun j j0 j1 => hbq j j0 j1 (by omega))) ?_
    refine R_iadd 30 c_25_29 rfl ?_
    refine R_iald 31 c_25_30 rfl (hp.2.2) (by omega) (by omega) (by decide) ?_
    rw [if_neg hb]
    exact R_ireturn c_25_31 rfl rfl
  · refine R_iconst 5 c_25_4 rfl ?_
    rw [if_pos (by omega)]
    exact R_ireturn c_25_5 rfl rfl
end SEAM
/-! finding the SEAM -/
def smF (w h : Int) (f : Int → Int) : Int → Int := fun e => rowS w h f (e / w).toNat (e % w)
section SFIND
variable {scr : List Int32} {H : List mC} {s v : Nat} {tt w h : Int} {f cl sm : Int → Int}
set_option maxHeartbeats 4000000 in
theorem k_sfind (hp : se H tt cl sm) (hs : sh H s v w h f) (hf : vok f) (ns : s ∉ [26, 27, 28]) (nv : v ∉ [26, 27, 28]) :
    m_CP scr 24 [.ref 26, .ref s] H (fun v1 H1 => v1 = none ∧ eqo [26, 27, 28] H H1 ∧ ∃ cl' sm', se H1 (ftot w h f) cl' sm' ∧ ∀ y, 0 ≤ y → y < h → cl' y = fcol w h f y) := by
  obtain ⟨a1, a2, a3⟩ : s ≠ 26 ∧ s ≠ 27 ∧ s ≠ 28 := by simpa using ns
  obtain ⟨b1, b2, b3⟩ : v ≠ 26 ∧ v ≠ 27 ∧ v ≠ 28 := by simpa using nv
  have hd := hs.2.2.2
  obtain ⟨hw1, hw2, hh1, hh2⟩ := id hd
  have ha := m_area hw1 hw2 hh1 hh2
  refine m_CP.of ?_
  show m_Ev scr 24 0 [(0, .ref 26), (1, .ref s)] [] H _
  refine m_gen (fun X hX => ?_)
  have S : ∀ n : Int → Int, se (m_set H 28 (.inl (0, aI 256 n))) tt cl n := fun n => ⟨(m_gs_ne (by decide)).trans hp.1, (m_gs_ne (by decide)).trans hp.2.1, m_gs_eq hp.2.2⟩
  have hsn : ∀ n : Int → Int, sh (m_set H 28 (.inl (0, aI 256 n))) s v w h f := fun n => sh_set hs a3 b3
  refine R_iconst 1 c_24_0 rfl ?_
  refine R_istore_n 2 c_24_1 rfl ?_
  refine m_forw h (fun y => if y = 0 then [(0, .ref 26), (1, .ref s), (2, vI y)] else [(0, .ref 26), (1, .ref s), (2, vI y), (3, vI w)]) (fun y => m_set H 28 (.inl (0, aI 256 (fpre (smF w h f) sm (y * w))))) 0 rfl (by rw [Int.zero_mul, fpre_0, m_set_self hp.2.2]) (by omega) (fun y hy0 hy ih => ?_) ?_
  · refine m_keep [0, 1, 2] (by split <;> rfl) ?_
    rw [show (List.filter (fun q : Nat × Value => [0, 1, 2].contains q.1) (if y = 0 then [(0, .ref 26), (1, .ref s), (2, vI y)] else [(0, .ref 26), (1, .ref s), (2, vI y), (3, vI w)])) = [(0, .ref 26), (1, .ref s), (2, vI y)] by split <;> rfl]
    rw [if_neg (show ¬ y + 1 = 0 by omega)] at ih
    refine R_iload_n 3 c_24_2 rfl rfl ?_
    refine R_aload_n 4 c_24_3 rfl rfl ?_
    refine R_get 7 c_24_4 rfl ((hsn _).1) rfl ?_
    refine R_br 10 62 _ (cmp_ge (by unfold inR; omega) (by unfold inR; omega)) c_24_7 rfl rfl (fun hn => absurd hn (by omega)) (fun _ => ?_)
    refine R_iconst 11 c_24_10 rfl ?_
    refine R_istore_n 12 c_24_11 rfl ?_
    refine m_forw w (fun x => [(0, .ref 26), (1, .ref s), (2, vI y), (3, vI x)]) (fun x => m_set H 28 (.inl (0, aI 256 (fpre (smF w h f) sm (y * w + x))))) 0 rfl (by rw [Int.add_zero]) (by omega) (fun x hx0 hx ih2 => ?_) ?_
    · have hi := m_idx hx0 hx hy0 hy
      have hem := m_em (y := y) hx0 hx
      have e := fpre_up (smF w h f) sm hi.1
      -- the row above
      have hrow : ∀ j, 0 ≤ j → j < w → 1 ≤ y → fpre (smF w h f) sm (y * w + x) ((y - 1) * w + j) = rowS w h f (y - 1).toNat j := by
        intro j j0 j1 y1
        have hij := m_idx (x := j) (y := y - 1) (w := w) (h := h) j0 j1 (by omega) (by omega)
        have hej := m_em (y := y - 1) j0 j1
        have hlt : (y - 1) * w + j < y * w + x := by
          rw [Int.sub_mul, Int.one_mul]; omega
        rw [show fpre (smF w h f) sm (y * w + x) ((y - 1) * w + j) = smF w h f ((y - 1) * w + j) from if_pos ⟨hij.1, hlt⟩]
        unfold smF
        rw [hej.1, hej.2]
      have hrb : ∀ j, 0 ≤ j → j < w → 1 ≤ y → 0 ≤ fpre (smF w h f) sm (y * w + x) ((y - 1) * w + j) ∧ fpre (smF w h f) sm (y * w + x) ((y - 1) * w + j) ≤ 100000 := by
        intro j j0 j1 y1
        rw [hrow j j0 j1 y1]
        have := rowS_bd hf hd (y - 1).toNat j
        omega
      have hval : smF w h f (y * w + x) = fcost w h f x y + (if y = 0 then 0 else fpre (smF w h f) sm (y * w + x) ((y - 1) * w + bcR (fun j => fpre (smF w h f) sm (y * w + x) ((y - 1) * w + j)) w (x - 1) (x + 1))) := by
        unfold smF
        rw [hem.1, hem.2]
        by_cases hy0' : y = 0
        · subst hy0'
          rw [if_pos rfl]
          show fcost w h f x 0 = _
          omega
        · rw [if_neg hy0']
          have hbb := bcR_bd (rowS w h f (y - 1).toNat) (w := w) (low := x - 1) (high := x + 1) (by omega)
          have hcg := bcR_congr (s := fun j => fpre (smF w h f) sm (y * w + x) ((y - 1) * w + j)) (s' := rowS w h f (y - 1).toNat) (w := w) (low := x - 1) (high := x + 1) (fun j j0 j1 => hrow j j0 j1 (by omega)) (by omega)
          have h2 := hrow (bcR (rowS w h f (y - 1).toNat) w (x - 1) (x + 1)) (by omega) (by omega) (by omega)
          unfold smF at hcg h2
          rw [hcg, h2, show y.toNat = (y - 1).toNat + 1 by omega]
          show fcost w h f x (((y - 1).toNat : Int) + 1) + _ = _
          rw [show (((y - 1).toNat : Nat) : Int) + 1 = y by omega]
      rw [hval] at e
      refine R_iload_n 13 c_24_12 rfl rfl ?_
      refine R_aload_n 14 c_24_13 rfl rfl ?_
      refine R_get 17 c_24_14 rfl ((hsn _).1) rfl ?_
      refine R_br 20 56 _ (cmp_ge (by unfold inR; omega) (by unfold inR; omega)) c_24_17 rfl rfl (fun hn => absurd hn (by omega)) (fun _ => ?_)
      have hfc := fcost_bd hf hd x y
      refine R_aload_n 21 c_24_20 rfl rfl ?_
      refine R_get 24 c_24_21 rfl ((S _).1) rfl ?_
      refine R_iload_n 25 c_24_24 rfl rfl ?_
      refine R_aload_n 26 c_24_25 rfl rfl ?_
      refine R_get 29 c_24_26 rfl ((hsn _).1) rfl ?_
      refine R_imul 30 c_24_29 rfl ?_
      refine R_iload_n 31 c_24_30 rfl rfl ?_
      refine R_iadd 32 c_24_31 rfl ?_
      refine R_aload_n 33 c_24_32 rfl rfl ?_
      refine R_iload_n 34 c_24_33 rfl rfl ?_
      refine R_iload_n 35 c_24_34 rfl rfl ?_
      refine R_callS 38 c_24_35 rfl rfl (Nat.le_of_ble_eq_true rfl) (k_costOf (hsn _) hf ⟨hx0, hx⟩ ⟨hy0, hy⟩) ?_
      refine R_aload_n 39 c_24_38 rfl rfl ?_
      refine R_aload_n 40 c_24_39 rfl rfl ?_
      refine R_get 43 c_24_40 rfl ((hsn _).1) rfl ?_
      refine R_iload_n 44 c_24_43 rfl rfl ?_
      refine R_iload_n 45 c_24_44 rfl rfl ?_
      refine R_callV 48 c_24_45 rfl rfl rfl rfl (Nat.le_of_ble_eq_true rfl) (Nat.le_of_ble_eq_true rfl) ((S _).1) (k_leastAbove (S _) hd ⟨hx0, hx⟩ ⟨hy0, hy⟩ hrb) ?_
      refine R_iadd 49 c_24_48 rfl ?_
      refine R_iast 50 c_24_49 rfl ((S _).2.2) (by omega) (by omega) (by decide) ?_
      rw [m_set_set, e, Int.add_assoc]
      refine R_iinc 53 c_24_50 rfl rfl ?_
      refine R_goto 12 c_24_53 rfl ?_
      exact ih2
    · refine R_iload_n 13 c_24_12 rfl rfl ?_
      refine R_aload_n 14 c_24_13 rfl rfl ?_
      refine R_get 17 c_24_14 rfl ((hsn _).1) rfl ?_
      refine R_br 20 56 _ (cmp_ge (by unfold inR; omega) (by unfold inR; omega)) c_24_17 rfl rfl (fun _ => ?_) (fun hn => absurd (by omega) hn)
      refine R_iinc 59 c_24_56 rfl rfl ?_
      refine R_goto 2 c_24_59 rfl ?_
      rw [show y * w + w = (y + 1) * w by rw [Int.add_mul, Int.one_mul]]
      exact ih
  · refine m_keep [0, 1, 2] (by split <;> rfl) ?_
    rw [show (List.filter (fun q : Nat × Value => [0, 1, 2].contains q.1) (if h = 0 then [(0, .ref 26), (1, .ref s), (2, vI h)] else [(0, .ref 26), (1, .ref s), (2, vI h), (3, vI w)])) = [(0, .ref 26), (1, .ref s), (2, vI h)] by split <;> rfl]
    have S1 := S (fpre (smF w h f) sm (h * w))
    have hs1 := hsn (fpre (smF w h f) sm (h * w))
    have q1 : eqo [26, 27, 28] H (m_set H 28 (.inl (0, aI 256 (fpre (smF w h f) sm (h * w))))) := (eqo.rf _ H).st (by decide)
    generalize hsm : fpre (smF w h f) sm (h * w) = sm1 at S1 hs1 q1 ⊢
    generalize m_set H 28 (.inl (0, aI 256 sm1)) = H1 at S1 hs1 q1 ⊢
    have hrow : ∀ y j, 0 ≤ j → j < w → 0 ≤ y → y < h → sm1 (y * w + j) = rowS w h f y.toNat j := by
      intro y j j0 j1 y0 y1
      have hij := m_idx (x := j) (y := y) (w := w) (h := h) j0 j1 y0 y1
      have hej := m_em (y := y) j0 j1
      rw [← hsm, show fpre (smF w h f) sm (h * w) (y * w + j) = smF w h f (y * w + j) from if_pos ⟨hij.1, m_lm _ hij.2⟩]
      unfold smF
      rw [hej.1, hej.2]
    have hrb : ∀ y, 0 ≤ y → y < h → ∀ j, 0 ≤ j → j < w → 0 ≤ sm1 (y * w + j) ∧ sm1 (y * w + j) ≤ 100000 := by
      intro y y0 y1 j j0 j1
      rw [hrow y j j0 j1 y0 y1]
      have := rowS_bd hf hd y.toNat j
      omega
    have hbc : ∀ y low high, 0 ≤ y → y < h → max 0 low ≤ min high (w - 1) → bcR (fun x => sm1 (y * w + x)) w low high = bcR (rowS w h f y.toNat) w low high := fun y low high y0 y1 hl => bcR_congr (fun j j0 j1 => hrow y j j0 j1 y0 y1) hl
    have hl1 : fcol w h f (h - 1) = bcR (fun x => sm1 ((h - 1) * w + x)) w 0 (w - 1) := by
      rw [hbc (h - 1) 0 (w - 1) (by omega) (by omega) (by omega)]
      unfold fcol
      rw [show (h - 1 - (h - 1)).toNat = 0 by omega]
      rfl
    have hcb := fcol_bd (h := h) (f := f) hw1 (h - 1)
    have hil := m_idx (x := fcol w h f (h - 1)) (y := h - 1) (w := w) (h := h) hcb.1 hcb.2 (by omega) (by omega)
    refine R_iload_n 3 c_24_2 rfl rfl ?_
    refine R_aload_n 4 c_24_3 rfl rfl ?_
    refine R_get 7 c_24_4 rfl (hs1.1) rfl ?_
    refine R_br 10 62 _ (cmp_ge (by unfold inR; omega) (by unfold inR; omega)) c_24_7 rfl rfl (fun _ => ?_) (fun hn => absurd (by omega) hn)
    have hbc1 := k_bestColumn (scr := scr) (y := h - 1) S1 hd ⟨by omega, by omega⟩ (show -100 ≤ (0 : Int) ∧ (0 : Int) ≤ 100 by omega) (show -100 ≤ w - 1 ∧ w - 1 ≤ 100 by omega) (by omega) (hrb (h - 1) (by omega) (by omega))
    rw [← hl1] at hbc1
    refine R_aload_n 63 c_24_62 rfl rfl ?_
    refine R_get 66 c_24_63 rfl (hs1.1) rfl ?_
    refine R_iconst 67 c_24_66 rfl ?_
    refine R_isub 68 c_24_67 rfl ?_
    refine R_istore_n 69 c_24_68 rfl ?_
    refine R_aload_n 70 c_24_69 rfl rfl ?_
    refine R_get 73 c_24_70 rfl (S1.1) rfl ?_
    refine R_iload_n 74 c_24_73 rfl rfl ?_
    refine R_aload_n 75 c_24_74 rfl rfl ?_
    refine R_aload_n 76 c_24_75 rfl rfl ?_
    refine R_get 79 c_24_76 rfl (hs1.1) rfl ?_
    refine R_iload_n 80 c_24_79 rfl rfl ?_
    refine R_iconst 81 c_24_80 rfl ?_
    refine R_aload_n 82 c_24_81 rfl rfl ?_
    refine R_get 85 c_24_82 rfl (hs1.1) rfl ?_
    refine R_iconst 86 c_24_85 rfl ?_
    refine R_isub 87 c_24_86 rfl ?_
    refine R_callV 90 c_24_87 rfl rfl rfl rfl (Nat.le_of_ble_eq_true rfl) (Nat.le_of_ble_eq_true rfl) (S1.1) (hbc1) ?_
    refine R_iast 91 c_24_90 rfl (S1.2.1) (by omega) (by omega) (by decide) ?_
    have S2 : se (m_set H1 27 (.inl (0, aI 16 (m_up cl (h - 1) (fcol w h f (h - 1)))))) tt (m_up cl (h - 1) (fcol w h f (h - 1))) sm1 := ⟨(m_gs_ne (by decide)).trans S1.1, m_gs_eq S1.2.1, (m_gs_ne (by decide)).trans S1.2.2⟩
    have hs2 := sh_set (c := .inl (0, aI 16 (m_up cl (h - 1) (fcol w h f (h - 1))))) hs1 a2 b2
    have q2 := q1.st (c := .inl (0, aI 16 (m_up cl (h - 1) (fcol w h f (h - 1))))) (r := 27) (by decide)
    generalize m_set H1 27 (.inl (0, aI 16 (m_up cl (h - 1) (fcol w h f (h - 1))))) = H2 at S2 hs2 q2 ⊢
    refine m_nrm [(0, .ref 26), (1, .ref s), (2, vI (h - 1))] rfl ?_
    refine R_aload_n 92 c_24_91 rfl rfl ?_
    refine R_aload_n 93 c_24_92 rfl rfl ?_
    refine R_get 96 c_24_93 rfl (S2.1) rfl ?_
    refine R_iload_n 97 c_24_96 rfl rfl ?_
    refine R_aload_n 98 c_24_97 rfl rfl ?_
    refine R_get 101 c_24_98 rfl (hs2.1) rfl ?_
    refine R_imul 102 c_24_101 rfl ?_
    refine R_aload_n 103 c_24_102 rfl rfl ?_
    refine R_get 106 c_24_103 rfl (S2.1) rfl ?_
    refine R_iload_n 107 c_24_106 rfl rfl ?_
    refine R_iald 108 c_24_107 rfl (S2.2.1) (by omega) (by omega) (by decide) ?_
    rw [m_up_at]
    refine R_iadd 109 c_24_108 rfl ?_
    refine R_iald 110 c_24_109 rfl (S2.2.2) (by omega) (by omega) (by decide) ?_
    rw [show sm1 ((h - 1) * w + fcol w h f (h - 1)) = ftot w h f from hrow (h - 1) _ hcb.1 hcb.2 (by omega) (by omega)]
    refine R_put 113 c_24_110 rfl (S2.1) (Nat.le_of_ble_eq_true rfl) rfl ?_
    have S3 : se (m_set H2 26 (.inr (2, [vI (ftot w h f), .ref 27, .ref 28, .ref 29]))) (ftot w h f) (m_up cl (h - 1) (fcol w h f (h - 1))) sm1 := ⟨m_gs_eq S2.1, (m_gs_ne (by decide)).trans S2.2.1, (m_gs_ne (by decide)).trans S2.2.2⟩
    have hs3 := sh_set (c := .inr (2, [vI (ftot w h f), .ref 27, .ref 28, .ref 29])) hs2 a1 b1
    have q3 := q2.st (c := .inr (2, [vI (ftot w h f), .ref 27, .ref 28, .ref 29])) (r := 26) (by decide)
    show m_Ev scr 24 113 _ [] (m_set H2 26 (.inr (2, [vI (ftot w h f), .ref 27, .ref 28, .ref 29]))) X
    generalize m_set H2 26 (.inr (2, [vI (ftot w h f), .ref 27, .ref 28, .ref 29])) = H3 at S3 hs3 q3 ⊢
    refine R_iload_n 114 c_24_113 rfl rfl ?_
    refine R_iconst 115 c_24_114 rfl ?_
    refine R_isub 116 c_24_115 rfl ?_
    refine R_istore_n 117 c_24_116 rfl ?_
    refine m_forP (h - 1) (fun i L H4 => (L = [(0, .ref 26), (1, .ref s), (2, vI (h - 1)), (3, vI (h - 2 - i))]) ∧ eqo [26, 27, 28] H H4 ∧ sh H4 s v w h f ∧ ∃ cl', se H4 (ftot w h f) cl' sm1 ∧ ∀ y, h - 2 - i < y → y < h → cl' y = fcol w h f y) 0 ⟨by rw [show h - 1 - 1 = h - 2 - 0 by omega]; rfl, q3, hs3, _, S3, fun y y0 y1 => by rw [show y = h - 1 by omega, m_up_at]⟩ (by omega) ?_ ?_
    · rintro i _ H4 i0 i1 ⟨rfl, q4, hs4, cl4, S4, hc4⟩ ih
      have hcn := fcol_bd (h := h) (f := f) hw1 (h - 2 - i + 1)
      have hnx := fcol_nx (w := w) (h := h) (f := f) (y := h - 2 - i) (by omega) (by omega)
      refine R_iload_n 118 c_24_117 rfl rfl ?_
      refine R_brz 121 162 _ (cmp_lt (by unfold inR; omega) inR_0) c_24_118 rfl rfl (fun hn => absurd hn (by omega)) (fun _ => ?_)
      have hbc4 := k_bestColumn (scr := scr) (y := h - 2 - i) (low := fcol w h f (h - 2 - i + 1) - 1) (high := fcol w h f (h - 2 - i + 1) + 1) S4 hd ⟨by omega, by omega⟩ (by omega) (by omega) (by omega) (hrb (h - 2 - i) (by omega) (by omega))
      rw [hbc (h - 2 - i) _ _ (by omega) (by omega) (by omega), ← hnx] at hbc4
      refine R_aload_n 122 c_24_121 rfl rfl ?_
      refine R_get 125 c_24_122 rfl (S4.1) rfl ?_
      refine R_iload_n 126 c_24_125 rfl rfl ?_
      refine R_aload_n 127 c_24_126 rfl rfl ?_
      refine R_aload_n 128 c_24_127 rfl rfl ?_
      refine R_get 131 c_24_128 rfl (hs4.1) rfl ?_
      refine R_iload_n 132 c_24_131 rfl rfl ?_
      refine R_aload_n 133 c_24_132 rfl rfl ?_
      refine R_get 136 c_24_133 rfl (S4.1) rfl ?_
      refine R_iload_n 137 c_24_136 rfl rfl ?_
      refine R_iconst 138 c_24_137 rfl ?_
      refine R_iadd 139 c_24_138 rfl ?_
      refine R_iald 140 c_24_139 rfl (S4.2.1) (by omega) (by omega) (by decide) ?_
      rw [hc4 (h - 2 - i + 1) (by omega) (by omega)]
      refine R_iconst 141 c_24_140 rfl ?_
      refine R_isub 142 c_24_141 rfl ?_
      refine R_aload_n 143 c_24_142 rfl rfl ?_
      refine R_get 146 c_24_143 rfl (S4.1) rfl ?_
      refine R_iload_n 147 c_24_146 rfl rfl ?_
      refine R_iconst 148 c_24_147 rfl ?_
      refine R_iadd 149 c_24_148 rfl ?_
      refine R_iald 150 c_24_149 rfl (S4.2.1) (by omega) (by omega) (by decide) ?_
      rw [hc4 (h - 2 - i + 1) (by omega) (by omega)]
      refine R_iconst 151 c_24_150 rfl ?_
      refine R_iadd 152 c_24_151 rfl ?_
      refine R_callV 155 c_24_152 rfl rfl rfl rfl (Nat.le_of_ble_eq_true rfl) (Nat.le_of_ble_eq_true rfl) (S4.1) (hbc4) ?_
      refine R_iast 156 c_24_155 rfl (S4.2.1) (by omega) (by omega) (by decide) ?_
      have S5 : se (m_set H4 27 (.inl (0, aI 16 (m_up cl4 (h - 2 - i) (fcol w h f (h - 2 - i)))))) (ftot w h f) (m_up cl4 (h - 2 - i) (fcol w h f (h - 2 - i))) sm1 := ⟨(m_gs_ne (by decide)).trans S4.1, m_gs_eq S4.2.1, (m_gs_ne (by decide)).trans S4.2.2⟩
      refine R_iinc 159 c_24_156 rfl rfl ?_
      refine R_goto 117 c_24_159 rfl ?_
      refine ih _ _ ⟨?_, q4.st (by decide), sh_set hs4 a2 b2, _, S5, fun y y0 y1 => ?_⟩
      · rw [show h - 2 - (i + 1) = h - 2 - i + -1 by omega]; rfl
      · by_cases hyy : y = h - 2 - i
        · rw [hyy, m_up_at]
        · rw [m_up_ne _ _ hyy]; exact hc4 y (by omega) y1
    · rintro _ H4 ⟨rfl, q4, hs4, cl4, S4, hc4⟩
      refine R_iload_n 118 c_24_117 rfl rfl ?_
      refine R_brz 121 162 _ (cmp_lt (by unfold inR; omega) inR_0) c_24_118 rfl rfl (fun _ => ?_) (fun hn => absurd (by omega) hn)
      refine R_return c_24_162 rfl ?_
      exact hX _ _ ⟨rfl, q4, cl4, sm1, S4, fun y y0 y1 => hc4 y (by omega) y1⟩
end SFIND
/-! taking the SEAM out, putting it in -/
theorem m_up_vok {f : Int → Int} {e n : Int} (hf : vok f) (hn : 0 ≤ n ∧ n ≤ 255) : vok (m_up f e n) := by
  intro j h0 h1
  unfold m_up
  split
  · exact hn
  · exact hf j h0 h1
theorem fbec_vok {f g : Int → Int} {n : Int} (hf : vok f) (hg : vok g) : vok (fbec f g n) := by
  intro j h0 h1
  unfold fbec
  split
  · exact hg j h0 h1
  · exact hf j h0 h1
section TAKE
variable {scr : List Int32} {H : List mC} {s v : Nat} {tt w h wr hr : Int} {f cl sm fr : Int → Int}
/-- become, said of what changes -/
theorem k_becomeE {r v r' v' : Nat} {w h w' h' : Int} {f f' : Int → Int} (hs : sh H r v w h f) (hs' : sh H r' v' w' h' f') (hf : vok f) (hf' : vok f') (hrr : r' ≠ r) (hvr : v' ≠ r) (hvv : v' ≠ v) (hrv : r' ≠ v) :
    m_CP scr 38 [.ref r, .ref r'] H (fun v1 H1 => v1 = none ∧ eqo [r, v] H H1 ∧ ∃ fn, sh H1 r v w' h' fn ∧ vok fn ∧ ∀ e, 0 ≤ e → e < w' * h' → fn e = f' e) :=
  ⟨_, _, k_become hs hs' hrr hvr hvv hrv, rfl, ((eqo.rf _ H).st (by simp)).st (by simp), _, ⟨(m_gs_ne hs.2.2.1).trans (m_gs_eq hs.1), m_gs_eq ((m_gs_ne (Ne.symm hs.2.2.1)).trans hs.2.1), hs.2.2.1, hs'.2.2.2⟩, fbec_vok hf hf', fun e h0 h1 => if_pos ⟨h0, h1⟩⟩
set_option maxHeartbeats 4000000 in
theorem k_takeOut (hp : se H tt cl sm) (hs : sh H s v w h f) (hr' : sh H 29 30 wr hr fr) (hf : vok f) (hfr : vok fr) (hw : 2 ≤ w) (hc : ∀ y, 0 ≤ y → y < h → 0 ≤ cl y ∧ cl y < w) (ns : s ∉ [26, 27, 28, 29, 30]) (nv : v ∉ [26, 27, 28, 29, 30]) :
    m_CP scr 28 [.ref 26, .ref s] H (fun v1 H1 => v1 = none ∧ eqo [s, v, 29, 30] H H1 ∧ (∃ fn, sh H1 s v (w - 1) h fn ∧ vok fn) ∧ ∃ wr hr fr, sh H1 29 30 wr hr fr ∧ vok fr) := by
  obtain ⟨a1, a2, a3, a4, a5⟩ : s ≠ 26 ∧ s ≠ 27 ∧ s ≠ 28 ∧ s ≠ 29 ∧ s ≠ 30 := by simpa using ns
  obtain ⟨b1, b2, b3, b4, b5⟩ : v ≠ 26 ∧ v ≠ 27 ∧ v ≠ 28 ∧ v ≠ 29 ∧ v ≠ 30 := by simpa using nv
  obtain ⟨hw1, hw2, hh1, hh2⟩ := hs.2.2.2
  have e29 : m_get H 26 = some (.inr (2, [vI tt, .ref 27, .ref 28, .ref 29])) := hp.1
  refine m_CP.of ?_
  show m_Ev scr 28 0 [(0, .ref 26), (1, .ref s)] [] H _
  refine m_gen (fun X hX => ?_)
  refine R_aload_n 1 c_28_0 rfl rfl ?_
  refine R_get 4 c_28_1 rfl (hp.1) rfl ?_
  refine R_aload_n 5 c_28_4 rfl rfl ?_
  refine R_get 8 c_28_5 rfl (hs.1) rfl ?_
  refine R_iconst 9 c_28_8 rfl ?_
  refine R_isub 10 c_28_9 rfl ?_
  refine R_aload_n 11 c_28_10 rfl rfl ?_
  refine R_get 14 c_28_11 rfl (hs.1) rfl ?_
  refine R_callV 17 c_28_14 rfl rfl rfl rfl (Nat.le_of_ble_eq_true rfl) (Nat.le_of_ble_eq_true rfl) (hr'.1) (k_measure hr') ?_
  have q1 : eqo [29, 30] H (m_set H 29 (.inr (3, [vI (w - 1), vI h, .ref 30]))) := (eqo.rf _ H).st (by decide)
  have s1 : sh (m_set H 29 (.inr (3, [vI (w - 1), vI h, .ref 30]))) 29 30 (w - 1) h fr := ⟨m_gs_eq hr'.1, (m_gs_ne (by decide)).trans hr'.2.1, by decide, by omega, by omega, hh1, hh2⟩
  show m_Ev scr 28 17 _ [] (m_set H 29 (.inr (3, [vI (w - 1), vI h, .ref 30]))) X
  generalize m_set H 29 (.inr (3, [vI (w - 1), vI h, .ref 30])) = H1 at q1 s1 ⊢
  refine m_nrm [(0, .ref 26), (1, .ref s)] rfl ?_
  refine R_iconst 18 c_28_17 rfl ?_
  refine R_istore_n 19 c_28_18 rfl ?_
  have S : ∀ H2, eqo [29, 30] H H2 → se H2 tt cl sm := fun H2 q => ⟨(q 26 (by decide)).trans hp.1, (q 27 (by decide)).trans hp.2.1, (q 28 (by decide)).trans hp.2.2⟩
  have I : ∀ H2, eqo [29, 30] H H2 → sh H2 s v w h f := fun H2 q => sh_eqo q hs (by simp; omega) (by simp; omega)
  refine m_forP h (fun y L H2 => (L = [(0, .ref 26), (1, .ref s), (2, vI y)] ∨ ∃ u, L = [(0, .ref 26), (1, .ref s), (2, vI y), (3, vI u)]) ∧ eqo [29, 30] H H2 ∧ ∃ fr, sh H2 29 30 (w - 1) h fr ∧ vok fr) 0 ⟨Or.inl rfl, q1, fr, s1, hfr⟩ (by omega) ?_ ?_
  · rintro y L2 H2 y0 y1 ⟨hL2, q2, fr2, s2, hfr2⟩ ih
    refine m_keep [0, 1, 2] (by rcases hL2 with rfl | ⟨u, rfl⟩ <;> rfl) ?_
    rw [show L2.filter (fun q => [0, 1, 2].contains q.1) = [(0, .ref 26), (1, .ref s), (2, vI y)] by rcases hL2 with rfl | ⟨u, rfl⟩ <;> rfl]
    refine R_iload_n 20 c_28_19 rfl rfl ?_
    refine R_aload_n 21 c_28_20 rfl rfl ?_
    refine R_get 24 c_28_21 rfl ((S _ q2).1) rfl ?_
    refine R_get 27 c_28_24 rfl (s2.1) rfl ?_
    refine R_br 30 86 _ (cmp_ge (by unfold inR; omega) (by unfold inR; omega)) c_28_27 rfl rfl (fun hn => absurd hn (by omega)) (fun _ => ?_)
    refine R_iconst 31 c_28_30 rfl ?_
    refine R_istore_n 32 c_28_31 rfl ?_
    refine m_forP (w - 1) (fun x L H3 => (L = [(0, .ref 26), (1, .ref s), (2, vI y), (3, vI x)]) ∧ eqo [29, 30] H H3 ∧ ∃ fr, sh H3 29 30 (w - 1) h fr ∧ vok fr) 0 ⟨rfl, q2, fr2, s2, hfr2⟩ (by omega) ?_ ?_
    · rintro x _ H3 x0 x1 ⟨rfl, q3, fr3, s3, hfr3⟩ ih2
      have hcy := hc y y0 y1
      have put : ∀ z, 0 ≤ z ∧ z ≤ 100 → m_Ev scr 28 67 [(0, .ref 26), (1, .ref s), (2, vI y), (3, vI x)] [vI z, .ref s, vI y, vI x, .ref 29] H3 X := by
        intro z hz
        have hn := fnear_ok hf hw1 hw2 hh1 hh2 z y
        refine R_iload_n 68 c_28_67 rfl rfl ?_
        refine R_callV 71 c_28_68 rfl rfl rfl rfl (Nat.le_of_ble_eq_true rfl) (Nat.le_of_ble_eq_true rfl) ((I _ q3).1) (k_near (I _ q3) (by unfold inR; omega) (by unfold inR; omega)) ?_
        refine R_callV 74 c_28_71 rfl rfl rfl rfl (Nat.le_of_ble_eq_true rfl) (Nat.le_of_ble_eq_true rfl) (s3.1) (k_put s3 x0 x1 y0 y1 (by unfold inR; omega)) ?_
        refine R_iinc 77 c_28_74 rfl rfl ?_
        refine R_goto 32 c_28_77 rfl ?_
        exact ih2 _ _ ⟨rfl, q3.st (by decide), _, ⟨(m_gs_ne (by decide)).trans s3.1, m_gs_eq s3.2.1, s3.2.2⟩, m_up_vok hfr3 (by omega)⟩
      refine R_iload_n 33 c_28_32 rfl rfl ?_
      refine R_aload_n 34 c_28_33 rfl rfl ?_
      refine R_get 37 c_28_34 rfl ((S _ q3).1) rfl ?_
      refine R_get 40 c_28_37 rfl (s3.1) rfl ?_
      refine R_br 43 80 _ (cmp_ge (by unfold inR; omega) (by unfold inR; omega)) c_28_40 rfl rfl (fun hn => absurd hn (by omega)) (fun _ => ?_)
      refine R_aload_n 44 c_28_43 rfl rfl ?_
      refine R_get 47 c_28_44 rfl ((S _ q3).1) rfl ?_
      refine R_iload_n 48 c_28_47 rfl rfl ?_
      refine R_iload_n 49 c_28_48 rfl rfl ?_
      refine R_aload_n 50 c_28_49 rfl rfl ?_
      refine R_iload_n 51 c_28_50 rfl rfl ?_
      refine R_aload_n 52 c_28_51 rfl rfl ?_
      refine R_get 55 c_28_52 rfl ((S _ q3).1) rfl ?_
      refine R_iload_n 56 c_28_55 rfl rfl ?_
      refine R_iald 57 c_28_56 rfl ((S _ q3).2.1) (by omega) (by omega) (by decide) ?_
      refine R_br 60 64 _ (cmp_ge (by unfold inR; omega) (by unfold inR; omega)) c_28_57 rfl rfl (fun hb => ?_) (fun hb => ?_)
      · refine R_iload_n 65 c_28_64 rfl rfl ?_
        refine R_iconst 66 c_28_65 rfl ?_
        refine R_iadd 67 c_28_66 rfl ?_
        exact put _ (by omega)
      · refine R_iload_n 61 c_28_60 rfl rfl ?_
        refine R_goto 67 c_28_61 rfl ?_
        exact put _ (by omega)
    · rintro _ H3 ⟨rfl, q3, fr3, s3, hfr3⟩
      refine R_iload_n 33 c_28_32 rfl rfl ?_
      refine R_aload_n 34 c_28_33 rfl rfl ?_
      refine R_get 37 c_28_34 rfl ((S _ q3).1) rfl ?_
      refine R_get 40 c_28_37 rfl (s3.1) rfl ?_
      refine R_br 43 80 _ (cmp_ge (by unfold inR; omega) (by unfold inR; omega)) c_28_40 rfl rfl (fun _ => ?_) (fun hn => absurd (by omega) hn)
      refine R_iinc 83 c_28_80 rfl rfl ?_
      refine R_goto 19 c_28_83 rfl ?_
      exact ih _ _ ⟨Or.inr ⟨_, rfl⟩, q3, fr3, s3, hfr3⟩
  · rintro L2 H2 ⟨hL2, q2, fr2, s2, hfr2⟩
    refine m_keep [0, 1, 2] (by rcases hL2 with rfl | ⟨u, rfl⟩ <;> rfl) ?_
    rw [show L2.filter (fun q => [0, 1, 2].contains q.1) = [(0, .ref 26), (1, .ref s), (2, vI h)] by rcases hL2 with rfl | ⟨u, rfl⟩ <;> rfl]
    obtain ⟨v5, H5, hc5, rfl, q5, fn, s5, hfn, -⟩ := k_becomeE (scr := scr) (I _ q2) s2 hf hfr2 (Ne.symm a4) (Ne.symm a5) (Ne.symm b5) (Ne.symm b4)
    refine R_iload_n 20 c_28_19 rfl rfl ?_
    refine R_aload_n 21 c_28_20 rfl rfl ?_
    refine R_get 24 c_28_21 rfl ((S _ q2).1) rfl ?_
    refine R_get 27 c_28_24 rfl (s2.1) rfl ?_
    refine R_br 30 86 _ (cmp_ge (by unfold inR; omega) (by unfold inR; omega)) c_28_27 rfl rfl (fun _ => ?_) (fun hn => absurd (by omega) hn)
    refine R_aload_n 87 c_28_86 rfl rfl ?_
    refine R_aload_n 88 c_28_87 rfl rfl ?_
    refine R_get 91 c_28_88 rfl ((S _ q2).1) rfl ?_
    refine R_callV 94 c_28_91 rfl rfl rfl rfl (Nat.le_of_ble_eq_true rfl) (Nat.le_of_ble_eq_true rfl) ((I _ q2).1) (hc5) ?_
    refine R_return c_28_94 rfl ?_
    exact hX _ _ ⟨rfl, (q2.wd (by simp)).tr (q5.wd (by simp)), ⟨fn, s5, hfn⟩, _, _, _, sh_eqo q5 s2 (by simp; omega) (by simp; omega), hfr2⟩
set_option maxHeartbeats 4000000 in
theorem k_putIn (hp : se H tt cl sm) (hs : sh H s v w h f) (hr' : sh H 29 30 wr hr fr) (hf : vok f) (hfr : vok fr) (hw : w ≤ 15) (hc : ∀ y, 0 ≤ y → y < h → 0 ≤ cl y ∧ cl y < w) (ns : s ∉ [26, 27, 28, 29, 30]) (nv : v ∉ [26, 27, 28, 29, 30]) :
    m_CP scr 29 [.ref 26, .ref s] H (fun v1 H1 => v1 = none ∧ eqo [s, v, 29, 30] H H1 ∧ (∃ fn, sh H1 s v (w + 1) h fn ∧ vok fn) ∧ ∃ wr hr fr, sh H1 29 30 wr hr fr ∧ vok fr) := by
  obtain ⟨a1, a2, a3, a4, a5⟩ : s ≠ 26 ∧ s ≠ 27 ∧ s ≠ 28 ∧ s ≠ 29 ∧ s ≠ 30 := by simpa using ns
  obtain ⟨b1, b2, b3, b4, b5⟩ : v ≠ 26 ∧ v ≠ 27 ∧ v ≠ 28 ∧ v ≠ 29 ∧ v ≠ 30 := by simpa using nv
  obtain ⟨hw1, hw2, hh1, hh2⟩ := hs.2.2.2
  refine m_CP.of ?_
  show m_Ev scr 29 0 [(0, .ref 26), (1, .ref s)] [] H _
  refine m_gen (fun X hX => ?_)
  refine R_aload_n 1 c_29_0 rfl rfl ?_
  refine R_get 4 c_29_1 rfl (hp.1) rfl ?_
  refine R_aload_n 5 c_29_4 rfl rfl ?_
  refine R_get 8 c_29_5 rfl (hs.1) rfl ?_
  refine R_iconst 9 c_29_8 rfl ?_
  refine R_iadd 10 c_29_9 rfl ?_
  refine R_aload_n 11 c_29_10 rfl rfl ?_
  refine R_get 14 c_29_11 rfl (hs.1) rfl ?_
  refine R_callV 17 c_29_14 rfl rfl rfl rfl (Nat.le_of_ble_eq_true rfl) (Nat.le_of_ble_eq_true rfl) (hr'.1) (k_measure hr') ?_
  have q1 : eqo [29, 30] H (m_set H 29 (.inr (3, [vI (w + 1), vI h, .ref 30]))) := (eqo.rf _ H).st (by decide)
  have s1 : sh (m_set H 29 (.inr (3, [vI (w + 1), vI h, .ref 30]))) 29 30 (w + 1) h fr := ⟨m_gs_eq hr'.1, (m_gs_ne (by decide)).trans hr'.2.1, by decide, by omega, by omega, hh1, hh2⟩
  show m_Ev scr 29 17 _ [] (m_set H 29 (.inr (3, [vI (w + 1), vI h, .ref 30]))) X
  generalize m_set H 29 (.inr (3, [vI (w + 1), vI h, .ref 30])) = H1 at q1 s1 ⊢
  refine m_nrm [(0, .ref 26), (1, .ref s)] rfl ?_
  refine R_iconst 18 c_29_17 rfl ?_
  refine R_istore_n 19 c_29_18 rfl ?_
  have S : ∀ H2, eqo [29, 30] H H2 → se H2 tt cl sm := fun H2 q => ⟨(q 26 (by decide)).trans hp.1, (q 27 (by decide)).trans hp.2.1, (q 28 (by decide)).trans hp.2.2⟩
  have I : ∀ H2, eqo [29, 30] H H2 → sh H2 s v w h f := fun H2 q => sh_eqo q hs (by simp; omega) (by simp; omega)
  refine m_forP h (fun y L H2 => (L = [(0, .ref 26), (1, .ref s), (2, vI y)] ∨ ∃ u u2, L = [(0, .ref 26), (1, .ref s), (2, vI y), (3, vI u), (4, vI u2)]) ∧ eqo [29, 30] H H2 ∧ ∃ fr, sh H2 29 30 (w + 1) h fr ∧ vok fr) 0 ⟨Or.inl rfl, q1, fr, s1, hfr⟩ (by omega) ?_ ?_
  · rintro y L2 H2 y0 y1 ⟨hL2, q2, fr2, s2, hfr2⟩ ih
    have hcy := hc y y0 y1
    refine m_keep [0, 1, 2] (by rcases hL2 with rfl | ⟨u, u2, rfl⟩ <;> rfl) ?_
    rw [show L2.filter (fun q => [0, 1, 2].contains q.1) = [(0, .ref 26), (1, .ref s), (2, vI y)] by rcases hL2 with rfl | ⟨u, u2, rfl⟩ <;> rfl]
    refine R_iload_n 20 c_29_19 rfl rfl ?_
    refine R_aload_n 21 c_29_20 rfl rfl ?_
    refine R_get 24 c_29_21 rfl ((S _ q2).1) rfl ?_
    refine R_get 27 c_29_24 rfl (s2.1) rfl ?_
    refine R_br 30 122 _ (cmp_ge (by unfold inR; omega) (by unfold inR; omega)) c_29_27 rfl rfl (fun hn => absurd hn (by omega)) (fun _ => ?_)
    refine R_aload_n 31 c_29_30 rfl rfl ?_
    refine R_get 34 c_29_31 rfl ((S _ q2).1) rfl ?_
    refine R_iload_n 35 c_29_34 rfl rfl ?_
    refine R_iald 36 c_29_35 rfl ((S _ q2).2.1) (by omega) (by omega) (by decide) ?_
    refine R_istore_n 37 c_29_36 rfl ?_
    refine R_iconst 38 c_29_37 rfl ?_
    refine R_istore 40 c_29_38 rfl ?_
    refine m_forP (w + 1) (fun x L H3 => (L = [(0, .ref 26), (1, .ref s), (2, vI y), (3, vI (cl y)), (4, vI x)]) ∧ eqo [29, 30] H H3 ∧ ∃ fr, sh H3 29 30 (w + 1) h fr ∧ vok fr) 0 ⟨rfl, q2, fr2, s2, hfr2⟩ (by omega) ?_ ?_
    · rintro x _ H3 x0 x1 ⟨rfl, q3, fr3, s3, hfr3⟩ ih2
      have put : ∀ z, -1 ≤ z ∧ z ≤ 100 → m_Ev scr 29 75 [(0, .ref 26), (1, .ref s), (2, vI y), (3, vI (cl y)), (4, vI x)] [vI z, .ref s, vI y, vI x, .ref 29] H3 X := by
        intro z hz
        have hn := fnear_ok hf hw1 hw2 hh1 hh2 z y
        refine R_iload_n 76 c_29_75 rfl rfl ?_
        refine R_callV 79 c_29_76 rfl rfl rfl rfl (Nat.le_of_ble_eq_true rfl) (Nat.le_of_ble_eq_true rfl) ((I _ q3).1) (k_near (I _ q3) (by unfold inR; omega) (by unfold inR; omega)) ?_
        refine R_callV 82 c_29_79 rfl rfl rfl rfl (Nat.le_of_ble_eq_true rfl) (Nat.le_of_ble_eq_true rfl) (s3.1) (k_put s3 x0 x1 y0 y1 (by unfold inR; omega)) ?_
        refine R_iinc 85 c_29_82 rfl rfl ?_
        refine R_goto 40 c_29_85 rfl ?_
        exact ih2 _ _ ⟨rfl, q3.st (by decide), _, ⟨(m_gs_ne (by decide)).trans s3.1, m_gs_eq s3.2.1, s3.2.2⟩, m_up_vok hfr3 (by omega)⟩
      refine R_iload 42 c_29_40 rfl rfl ?_
      refine R_aload_n 43 c_29_42 rfl rfl ?_
      refine R_get 46 c_29_43 rfl ((S _ q3).1) rfl ?_
      refine R_get 49 c_29_46 rfl (s3.1) rfl ?_
      refine R_br 52 88 _ (cmp_ge (by unfold inR; omega) (by unfold inR; omega)) c_29_49 rfl rfl (fun hn => absurd hn (by omega)) (fun _ => ?_)
      refine R_aload_n 53 c_29_52 rfl rfl ?_
      refine R_get 56 c_29_53 rfl ((S _ q3).1) rfl ?_
      refine R_iload 58 c_29_56 rfl rfl ?_
      refine R_iload_n 59 c_29_58 rfl rfl ?_
      refine R_aload_n 60 c_29_59 rfl rfl ?_
      refine R_iload 62 c_29_60 rfl rfl ?_
      refine R_iload_n 63 c_29_62 rfl rfl ?_
      refine R_br 66 71 _ (cmp_gt (by unfold inR; omega) (by unfold inR; omega)) c_29_63 rfl rfl (fun hb => ?_) (fun hb => ?_)
      · refine R_iload 73 c_29_71 rfl rfl ?_
        refine R_iconst 74 c_29_73 rfl ?_
        refine R_isub 75 c_29_74 rfl ?_
        exact put _ (by omega)
      · refine R_iload 68 c_29_66 rfl rfl ?_
        refine R_goto 75 c_29_68 rfl ?_
        exact put _ (by omega)
    · rintro _ H3 ⟨rfl, q3, fr3, s3, hfr3⟩
      have hn1 := fnear_ok hf hw1 hw2 hh1 hh2 (cl y) y
      have hn2 := fnear_ok hf hw1 hw2 hh1 hh2 (cl y + 1) y
      refine R_iload 42 c_29_40 rfl rfl ?_
      refine R_aload_n 43 c_29_42 rfl rfl ?_
      refine R_get 46 c_29_43 rfl ((S _ q3).1) rfl ?_
      refine R_get 49 c_29_46 rfl (s3.1) rfl ?_
      refine R_br 52 88 _ (cmp_ge (by unfold inR; omega) (by unfold inR; omega)) c_29_49 rfl rfl (fun _ => ?_) (fun hn => absurd (by omega) hn)
      refine R_aload_n 89 c_29_88 rfl rfl ?_
      refine R_get 92 c_29_89 rfl ((S _ q3).1) rfl ?_
      refine R_iload_n 93 c_29_92 rfl rfl ?_
      refine R_iconst 94 c_29_93 rfl ?_
      refine R_iadd 95 c_29_94 rfl ?_
      refine R_iload_n 96 c_29_95 rfl rfl ?_
      refine R_aload_n 97 c_29_96 rfl rfl ?_
      refine R_iload_n 98 c_29_97 rfl rfl ?_
      refine R_iload_n 99 c_29_98 rfl rfl ?_
      refine R_callV 102 c_29_99 rfl rfl rfl rfl (Nat.le_of_ble_eq_true rfl) (Nat.le_of_ble_eq_true rfl) ((I _ q3).1) (k_near (I _ q3) (by unfold inR; omega) (by unfold inR; omega)) ?_
      refine R_aload_n 103 c_29_102 rfl rfl ?_
      refine R_iload_n 104 c_29_103 rfl rfl ?_
      refine R_iconst 105 c_29_104 rfl ?_
      refine R_iadd 106 c_29_105 rfl ?_
      refine R_iload_n 107 c_29_106 rfl rfl ?_
      refine R_callV 110 c_29_107 rfl rfl rfl rfl (Nat.le_of_ble_eq_true rfl) (Nat.le_of_ble_eq_true rfl) ((I _ q3).1) (k_near (I _ q3) (by unfold inR; omega) (by unfold inR; omega)) ?_
      refine R_iadd 111 c_29_110 rfl ?_
      refine R_iconst 112 c_29_111 rfl ?_
      refine R_idivp 113 c_29_112 rfl (by omega) (by omega) ?_
      refine R_callV 116 c_29_113 rfl rfl rfl rfl (Nat.le_of_ble_eq_true rfl) (Nat.le_of_ble_eq_true rfl) (s3.1) (k_put s3 (by omega) (by omega) y0 y1 (by unfold inR; omega)) ?_
      refine R_iinc 119 c_29_116 rfl rfl ?_
      refine R_goto 19 c_29_119 rfl ?_
      exact ih _ _ ⟨Or.inr ⟨_, _, rfl⟩, q3.st (by decide), _, ⟨(m_gs_ne (by decide)).trans s3.1, m_gs_eq s3.2.1, s3.2.2⟩, m_up_vok hfr3 (by omega)⟩
  · rintro L2 H2 ⟨hL2, q2, fr2, s2, hfr2⟩
    refine m_keep [0, 1, 2] (by rcases hL2 with rfl | ⟨u, u2, rfl⟩ <;> rfl) ?_
    rw [show L2.filter (fun q => [0, 1, 2].contains q.1) = [(0, .ref 26), (1, .ref s), (2, vI h)] by rcases hL2 with rfl | ⟨u, u2, rfl⟩ <;> rfl]
    obtain ⟨v5, H5, hc5, rfl, q5, fn, s5, hfn, -⟩ := k_becomeE (scr := scr) (I _ q2) s2 hf hfr2 (Ne.symm a4) (Ne.symm a5) (Ne.symm b5) (Ne.symm b4)
    refine R_iload_n 20 c_29_19 rfl rfl ?_
    refine R_aload_n 21 c_29_20 rfl rfl ?_
    refine R_get 24 c_29_21 rfl ((S _ q2).1) rfl ?_
    refine R_get 27 c_29_24 rfl (s2.1) rfl ?_
    refine R_br 30 122 _ (cmp_ge (by unfold inR; omega) (by unfold inR; omega)) c_29_27 rfl rfl (fun _ => ?_) (fun hn => absurd (by omega) hn)
    refine R_aload_n 123 c_29_122 rfl rfl ?_
    refine R_aload_n 124 c_29_123 rfl rfl ?_
    refine R_get 127 c_29_124 rfl ((S _ q2).1) rfl ?_
    refine R_callV 130 c_29_127 rfl rfl rfl rfl (Nat.le_of_ble_eq_true rfl) (Nat.le_of_ble_eq_true rfl) ((I _ q2).1) (hc5) ?_
    refine R_return c_29_130 rfl ?_
    exact hX _ _ ⟨rfl, (q2.wd (by simp)).tr (q5.wd (by simp)), ⟨fn, s5, hfn⟩, _, _, _, sh_eqo q5 s2 (by simp; omega) (by simp; omega), hfr2⟩
end TAKE
