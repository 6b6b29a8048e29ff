/-! Sheet -/
theorem m_idx {x y w h : Int} (hx0 : 0 ≤ x) (hx : x < w) (hy0 : 0 ≤ y) (hy : y < h) : 0 ≤ y * w + x ∧ y * w + x < w * h := by
  have h1 : 0 ≤ y * w := Int.mul_nonneg hy0 (by omega)
  have h2 : (y + 1) * w ≤ h * w := Int.mul_le_mul_of_nonneg_right (by omega) (by omega)
  rw [Int.add_mul, Int.one_mul] at h2
  rw [Int.mul_comm w h]
  omega
theorem m_area {w h : Int} (hw1 : 1 ≤ w) (hw : w ≤ 16) (hh1 : 1 ≤ h) (hh : h ≤ 16) : 1 ≤ w * h ∧ w * h ≤ 256 := by
  have h1 : 1 * 1 ≤ w * h := Int.mul_le_mul hw1 hh1 (by omega) (by omega)
  have h2 : w * h ≤ 16 * 16 := Int.mul_le_mul hw hh (by omega) (by omega)
  omega
/-- a SHEET in the heap: its object r, its row v -/
def sh (H : List mC) (r v : Nat) (w h : Int) (f : Int → Int) : Prop := m_get H r = some (.inr (3, [vI w, vI h, .ref v])) ∧ m_get H v = some (.inl (0, aI 256 f)) ∧ r ≠ v ∧ 1 ≤ w ∧ w ≤ 16 ∧ 1 ≤ h ∧ h ≤ 16
def fnear (w h : Int) (f : Int → Int) (x y : Int) : Int := f (max 0 (min y (h - 1)) * w + max 0 (min x (w - 1)))
section SHEET
variable {scr : List Int32} {H : List mC} {r v : Nat} {w h : Int} {f : Int → Int}
theorem k_size (hs : sh H r v w h f) : m_Cl scr 31 [.ref r] H (some (vI (w * h))) H := by
  obtain ⟨hr, hv, hne, h1, h2, h3, h4⟩ := hs
  show m_Ev scr 31 0 [(0, .ref r)] [] H _
  refine R_aload_n 1 c_31_0 rfl rfl ?_
  refine R_get 4 c_31_1 rfl (hr) rfl ?_
  refine R_aload_n 5 c_31_4 rfl rfl ?_
  refine R_get 8 c_31_5 rfl (hr) rfl ?_
  refine R_imul 9 c_31_8 rfl ?_
  exact R_ireturn c_31_9 rfl rfl
theorem k_measure {w' h' : Int} (hs : sh H r v w h f) : m_Cl scr 32 [.ref r, vI w', vI h'] H none (m_set H r (.inr (3, [vI w', vI h', .ref v]))) := by
  obtain ⟨hr, hv, hne, h1, h2, h3, h4⟩ := hs
  show m_Ev scr 32 0 [(0, .ref r), (1, vI w'), (2, vI h')] [] H _
  refine R_aload_n 1 c_32_0 rfl rfl ?_
  refine R_iload_n 2 c_32_1 rfl rfl ?_
  refine R_put 5 c_32_2 rfl (hr) (Nat.le_of_ble_eq_true rfl) rfl ?_
  refine R_aload_n 6 c_32_5 rfl rfl ?_
  refine R_iload_n 7 c_32_6 rfl rfl ?_
  refine R_put 10 c_32_7 rfl (m_gs_eq hr) (Nat.le_of_ble_eq_true rfl) rfl ?_
  rw [m_set_set]
  exact R_return c_32_10 rfl rfl
theorem k_near {x y : Int} (hs : sh H r v w h f) (hx : inR x) (hy : inR y) : m_Cl scr 33 [.ref r, vI x, vI y] H (some (vI (fnear w h f x y))) H := by
  obtain ⟨hr, hv, hne, h1, h2, h3, h4⟩ := hs
  obtain ⟨hx1, hx2⟩ := hx
  obtain ⟨hy1, hy2⟩ := hy
  have ha := m_area h1 h2 h3 h4
  have hi := m_idx (x := max 0 (min x (w - 1))) (y := max 0 (min y (h - 1))) (w := w) (h := h) (by omega) (by omega) (by omega) (by omega)
  show m_Ev scr 33 0 [(0, .ref r), (1, vI x), (2, vI y)] [] H _
  refine R_iconst 1 c_33_0 rfl ?_
  refine R_iload_n 2 c_33_1 rfl rfl ?_
  refine R_aload_n 3 c_33_2 rfl rfl ?_
  refine R_get 6 c_33_3 rfl (hr) rfl ?_
  refine R_iconst 7 c_33_6 rfl ?_
  refine R_isub 8 c_33_7 rfl ?_
  refine R_min 11 c_33_8 rfl (by unfold inR; omega) (by unfold inR; omega) (Nat.le_of_ble_eq_true rfl) ?_
  refine R_max 14 c_33_11 rfl (by unfold inR; omega) (by unfold inR; omega) (Nat.le_of_ble_eq_true rfl) ?_
  refine R_istore_n 15 c_33_14 rfl ?_
  refine R_iconst 16 c_33_15 rfl ?_
  refine R_iload_n 17 c_33_16 rfl rfl ?_
  refine R_aload_n 18 c_33_17 rfl rfl ?_
  refine R_get 21 c_33_18 rfl (hr) rfl ?_
  refine R_iconst 22 c_33_21 rfl ?_
  refine R_isub 23 c_33_22 rfl ?_
  refine R_min 26 c_33_23 rfl (by unfold inR; omega) (by unfold inR; omega) (Nat.le_of_ble_eq_true rfl) ?_
  refine R_max 29 c_33_26 rfl (by unfold inR; omega) (by unfold inR; omega) (Nat.le_of_ble_eq_true rfl) ?_
  refine R_istore 31 c_33_29 rfl ?_
  refine R_aload_n 32 c_33_31 rfl rfl ?_
  refine R_get 35 c_33_32 rfl (hr) rfl ?_
  refine R_iload 37 c_33_35 rfl rfl ?_
  refine R_aload_n 38 c_33_37 rfl rfl ?_
  refine R_get 41 c_33_38 rfl (hr) rfl ?_
  refine R_imul 42 c_33_41 rfl ?_
  refine R_iload_n 43 c_33_42 rfl rfl ?_
  refine R_iadd 44 c_33_43 rfl ?_
  refine R_iald 45 c_33_44 rfl (hv) (by omega) (by omega) (by decide) ?_
  exact R_ireturn c_33_45 rfl rfl
theorem k_put {x y n : Int} (hs : sh H r v w h f) (hx0 : 0 ≤ x) (hx : x < w) (hy0 : 0 ≤ y) (hy : y < h) (hn : inR n) : m_Cl scr 34 [.ref r, vI x, vI y, vI n] H none (m_set H v (.inl (0, aI 256 (m_up f (y * w + x) (max 0 (min n 255)))))) := by
  obtain ⟨hr, hv, hne, h1, h2, h3, h4⟩ := hs
  obtain ⟨hn1, hn2⟩ := hn
  have ha := m_area h1 h2 h3 h4
  have hi := m_idx hx0 hx hy0 hy
  show m_Ev scr 34 0 [(0, .ref r), (1, vI x), (2, vI y), (3, vI n)] [] H _
  refine R_aload_n 1 c_34_0 rfl rfl ?_
  refine R_get 4 c_34_1 rfl (hr) rfl ?_
  refine R_iload_n 5 c_34_4 rfl rfl ?_
  refine R_aload_n 6 c_34_5 rfl rfl ?_
  refine R_get 9 c_34_6 rfl (hr) rfl ?_
  refine R_imul 10 c_34_9 rfl ?_
  refine R_iload_n 11 c_34_10 rfl rfl ?_
  refine R_iadd 12 c_34_11 rfl ?_
  refine R_iconst 13 c_34_12 rfl ?_
  refine R_iload_n 14 c_34_13 rfl rfl ?_
  refine R_sipush 17 c_34_14 rfl (by decide) ?_
  refine R_min 20 c_34_17 rfl (by unfold inR; omega) (by unfold inR; omega) (Nat.le_of_ble_eq_true rfl) ?_
  refine R_max 23 c_34_20 rfl (by unfold inR; omega) (by unfold inR; omega) (Nat.le_of_ble_eq_true rfl) ?_
  refine R_iast 24 c_34_23 rfl (hv) (by omega) (by omega) (by decide) ?_
  exact R_return c_34_24 rfl rfl

def nsum (f : Int → Int) : Nat → Int
  | 0 => 0
  | n + 1 => nsum f n + f (n : Int)
def fsum (f : Int → Int) (i : Int) : Int := nsum f i.toNat
theorem fsum_0 (f : Int → Int) : fsum f 0 = 0 := rfl
theorem fsum_succ (f : Int → Int) {i : Int} (h : 0 ≤ i) : fsum f (i + 1) = fsum f i + f i := by
  obtain ⟨k, rfl⟩ : ∃ k : Nat, i = (k : Int) := ⟨i.toNat, by omega⟩
  unfold fsum
  rw [show ((k : Int) + 1).toNat = k + 1 by omega, Int.toNat_natCast]
  rfl
def vok (f : Int → Int) : Prop := ∀ e : Int, 0 ≤ e → e < 256 → 0 ≤ f e ∧ f e ≤ 255
theorem fsum_bd {f : Int → Int} {lo hi : Int} (hf : ∀ e : Int, 0 ≤ e → e < 256 → lo ≤ f e ∧ f e ≤ hi) : ∀ i : Int, 0 ≤ i → i ≤ 256 → i * lo ≤ fsum f i ∧ fsum f i ≤ i * hi := by
  intro i h0
  obtain ⟨k, rfl⟩ : ∃ k : Nat, i = (k : Int) := ⟨i.toNat, by omega⟩
  induction k with
  | zero => intro _; simp [fsum, nsum]
  | succ k ih =>
    intro h1
    have := ih (by omega) (by omega)
    rw [show ((k + 1 : Nat) : Int) = (k : Int) + 1 by omega, fsum_succ f (by omega), Int.add_mul, Int.add_mul, Int.one_mul, Int.one_mul]
    have := hf (k : Int) (by omega) (by omega)
    omega
theorem k_total (hs : sh H r v w h f) : m_Cl scr 35 [.ref r] H (some (vI (fsum f (w * h)))) H := by
  obtain ⟨hr, hv, hne, h1, h2, h3, h4⟩ := id hs
  have ha := m_area h1 h2 h3 h4
  show m_Ev scr 35 0 [(0, .ref r)] [] H _
  refine R_iconst 1 c_35_0 rfl ?_
  refine R_istore_n 2 c_35_1 rfl ?_
  refine R_iconst 3 c_35_2 rfl ?_
  refine R_istore_n 4 c_35_3 rfl ?_
  refine m_for (w * h) (fun i => [(0, .ref r), (1, vI (fsum f i)), (2, vI i)]) (fun _ => H) 0 (by omega) (fun i h0 hi ih => ?_) ?_
  · refine R_iload_n 5 c_35_4 rfl rfl ?_
    refine R_aload_n 6 c_35_5 rfl rfl ?_
    refine R_callV 9 c_35_6 rfl rfl rfl rfl (Nat.le_of_ble_eq_true rfl) (Nat.le_of_ble_eq_true rfl) (hr) (k_size hs) ?_
    refine R_br 12 27 _ (cmp_ge (by unfold inR; omega) (by unfold inR; omega)) c_35_9 rfl rfl (fun hn => absurd hn (by omega)) (fun _ => ?_)
    refine R_iload_n 13 c_35_12 rfl rfl ?_
    refine R_aload_n 14 c_35_13 rfl rfl ?_
    refine R_get 17 c_35_14 rfl (hr) rfl ?_
    refine R_iload_n 18 c_35_17 rfl rfl ?_
    refine R_iald 19 c_35_18 rfl (hv) (by omega) (by omega) (by decide) ?_
    refine R_iadd 20 c_35_19 rfl ?_
    refine R_istore_n 21 c_35_20 rfl ?_
    refine R_iinc 24 c_35_21 rfl rfl ?_
    refine R_goto 4 c_35_24 rfl ?_
    simp only [fsum_succ f h0] at ih
    exact ih
  · refine R_iload_n 5 c_35_4 rfl rfl ?_
    refine R_aload_n 6 c_35_5 rfl rfl ?_
    refine R_callV 9 c_35_6 rfl rfl rfl rfl (Nat.le_of_ble_eq_true rfl) (Nat.le_of_ble_eq_true rfl) (hr) (k_size hs) ?_
    refine R_br 12 27 _ (cmp_ge (by unfold inR; omega) (by unfold inR; omega)) c_35_9 rfl rfl (fun _ => ?_) (fun hn => absurd (by omega) hn)
    refine R_iload_n 28 c_35_27 rfl rfl ?_
    exact R_ireturn c_35_28 rfl rfl
theorem k_isAsLargeAs {r' v' : Nat} {w' h' : Int} {f' : Int → Int} (hs : sh H r v w h f) (hs' : sh H r' v' w' h' f') : m_Cl scr 36 [.ref r, .ref r'] H (some (vI (if w = w' ∧ h = h' then 1 else 0))) H := by
  obtain ⟨hr, hv, hne, h1, h2, h3, h4⟩ := id hs
  obtain ⟨hr', hv', hne', h1', h2', h3', h4'⟩ := id hs'
  show m_Ev scr 36 0 [(0, .ref r), (1, .ref r')] [] H _
  refine R_aload_n 1 c_36_0 rfl rfl ?_
  refine R_get 4 c_36_1 rfl (hr) rfl ?_
  refine R_aload_n 5 c_36_4 rfl rfl ?_
  refine R_get 8 c_36_5 rfl (hr') rfl ?_
  refine R_br 11 26 _ (cmp_ne (by unfold inR; omega) (by unfold inR; omega)) c_36_8 rfl rfl (fun hb => ?_) (fun hb => ?_)
  · refine R_iconst 27 c_36_26 rfl ?_
    rw [if_neg (by omega)]
    exact R_zreturn c_36_27 rfl (by first | decide | (split <;> decide)) rfl
  · refine R_aload_n 12 c_36_11 rfl rfl ?_
    refine R_get 15 c_36_12 rfl (hr) rfl ?_
    refine R_aload_n 16 c_36_15 rfl rfl ?_
    refine R_get 19 c_36_16 rfl (hr') rfl ?_
    refine R_br 22 26 _ (cmp_ne (by unfold inR; omega) (by unfold inR; omega)) c_36_19 rfl rfl (fun hb => ?_) (fun hb => ?_)
    · refine R_iconst 27 c_36_26 rfl ?_
      rw [if_neg (by omega)]
      exact R_zreturn c_36_27 rfl (by first | decide | (split <;> decide)) rfl
    · refine R_iconst 23 c_36_22 rfl ?_
      refine R_goto 27 c_36_23 rfl ?_
      rw [if_pos (by omega)]
      exact R_zreturn c_36_27 rfl (by first | decide | (split <;> decide)) rfl
def fdif (f g : Int → Int) : Int → Int := fun j => if f j = g j then 0 else 1
theorem k_differing {r' v' : Nat} {w' h' : Int} {f' : Int → Int} (hs : sh H r v w h f) (hs' : sh H r' v' w' h' f') (hf : vok f) (hf' : vok f') : m_Cl scr 37 [.ref r, .ref r'] H (some (vI (fsum (fdif f f') (w * h)))) H := by
  obtain ⟨hr, hv, hne, h1, h2, h3, h4⟩ := id hs
  obtain ⟨hr', hv', hne', h1', h2', h3', h4'⟩ := id hs'
  have ha := m_area h1 h2 h3 h4
  show m_Ev scr 37 0 [(0, .ref r), (1, .ref r')] [] H _
  refine R_iconst 1 c_37_0 rfl ?_
  refine R_istore_n 2 c_37_1 rfl ?_
  refine R_iconst 3 c_37_2 rfl ?_
  refine R_istore_n 4 c_37_3 rfl ?_
  refine m_for (w * h) (fun i => [(0, .ref r), (1, .ref r'), (2, vI (fsum (fdif f f') i)), (3, vI i)]) (fun _ => H) 0 (by omega) (fun i h0 hi ih => ?_) ?_
  · have hfi := hf i h0 (by omega)
    have hfi' := hf' i h0 (by omega)
    refine R_iload_n 5 c_37_4 rfl rfl ?_
    refine R_aload_n 6 c_37_5 rfl rfl ?_
    refine R_callV 9 c_37_6 rfl rfl rfl rfl (Nat.le_of_ble_eq_true rfl) (Nat.le_of_ble_eq_true rfl) (hr) (k_size hs) ?_
    refine R_br 12 36 _ (cmp_ge (by unfold inR; omega) (by unfold inR; omega)) c_37_9 rfl rfl (fun hn => absurd hn (by omega)) (fun _ => ?_)
    refine R_aload_n 13 c_37_12 rfl rfl ?_
    refine R_get 16 c_37_13 rfl (hr) rfl ?_
    refine R_iload_n 17 c_37_16 rfl rfl ?_
    refine R_iald 18 c_37_17 rfl (hv) (by omega) (by omega) (by decide) ?_
    refine R_aload_n 19 c_37_18 rfl rfl ?_
    refine R_get 22 c_37_19 rfl (hr') rfl ?_
    refine R_iload_n 23 c_37_22 rfl rfl ?_
    refine R_iald 24 c_37_23 rfl (hv') (by omega) (by omega) (by decide) ?_
    simp only [fsum_succ _ h0] at ih
    refine R_br 27 30 _ (cmp_eq (by unfold inR; omega) (by unfold inR; omega)) c_37_24 rfl rfl (fun hb => ?_) (fun hb => ?_)
    · refine R_iinc 33 c_37_30 rfl rfl ?_
      refine R_goto 4 c_37_33 rfl ?_
      rw [show fdif f f' i = 0 from if_pos hb, Int.add_zero] at ih
      exact ih
    · refine R_iinc 30 c_37_27 rfl rfl ?_
      refine R_iinc 33 c_37_30 rfl rfl ?_
      refine R_goto 4 c_37_33 rfl ?_
      rw [show fdif f f' i = 1 from if_neg hb] at ih
      exact ih
  · refine R_iload_n 5 c_37_4 rfl rfl ?_
    refine R_aload_n 6 c_37_5 rfl rfl ?_
    refine R_callV 9 c_37_6 rfl rfl rfl rfl (Nat.le_of_ble_eq_true rfl) (Nat.le_of_ble_eq_true rfl) (hr) (k_size hs) ?_
    refine R_br 12 36 _ (cmp_ge (by unfold inR; omega) (by unfold inR; omega)) c_37_9 rfl rfl (fun _ => ?_) (fun hn => absurd (by omega) hn)
    refine R_iload_n 37 c_37_36 rfl rfl ?_
    exact R_ireturn c_37_37 rfl rfl
def fbec (f g : Int → Int) (n : Int) : Int → Int := fun j => if 0 ≤ j ∧ j < n then g j else f j
theorem k_become {r' v' : Nat} {w' h' : Int} {f' : Int → Int} (hs : sh H r v w h f) (hs' : sh H r' v' w' h' f') (hrr : r' ≠ r) (hvr : v' ≠ r) (hvv : v' ≠ v) (hrv : r' ≠ v) :
    m_Cl scr 38 [.ref r, .ref r'] H none (m_set (m_set H r (.inr (3, [vI w', vI h', .ref v]))) v (.inl (0, aI 256 (fbec f f' (w' * h'))))) := by
  obtain ⟨hr, hv, hne, h1, h2, h3, h4⟩ := id hs
  obtain ⟨hr', hv', hne', h1', h2', h3', h4'⟩ := id hs'
  have ha := m_area h1' h2' h3' h4'
  show m_Ev scr 38 0 [(0, .ref r), (1, .ref r')] [] H _
  have e1 : m_get (m_set H r (.inr (3, [vI w', vI h', .ref v]))) r' = some (.inr (3, [vI w', vI h', .ref v'])) := (m_gs_ne hrr).trans hr'
  have e2 : m_get (m_set H r (.inr (3, [vI w', vI h', .ref v]))) r = some (.inr (3, [vI w', vI h', .ref v])) := m_gs_eq hr
  have e3 : m_get (m_set H r (.inr (3, [vI w', vI h', .ref v]))) v' = some (.inl (0, aI 256 f')) := (m_gs_ne hvr).trans hv'
  have e4 : m_get (m_set H r (.inr (3, [vI w', vI h', .ref v]))) v = some (.inl (0, aI 256 f)) := (m_gs_ne (Ne.symm hne)).trans hv
  refine R_aload_n 1 c_38_0 rfl rfl ?_
  refine R_aload_n 2 c_38_1 rfl rfl ?_
  refine R_get 5 c_38_2 rfl (hr') rfl ?_
  refine R_aload_n 6 c_38_5 rfl rfl ?_
  refine R_get 9 c_38_6 rfl (hr') rfl ?_
  refine R_callV 12 c_38_9 rfl rfl rfl rfl (Nat.le_of_ble_eq_true rfl) (Nat.le_of_ble_eq_true rfl) (hr) (k_measure hs) ?_
  refine R_aload_n 13 c_38_12 rfl rfl ?_
  refine R_get 16 c_38_13 rfl (e1) rfl ?_
  refine R_iconst 17 c_38_16 rfl ?_
  refine R_aload_n 18 c_38_17 rfl rfl ?_
  refine R_get 21 c_38_18 rfl (e2) rfl ?_
  refine R_iconst 22 c_38_21 rfl ?_
  refine R_aload_n 23 c_38_22 rfl rfl ?_
  refine R_callV 26 c_38_23 rfl rfl rfl rfl (Nat.le_of_ble_eq_true rfl) (Nat.le_of_ble_eq_true rfl) (e2) (k_size ⟨e2, e4, hne, h1', h2', h3', h4'⟩) ?_
  refine R_copy 29 c_38_26 rfl (e3) (e4) (by omega) (by omega) (by omega) (by omega) (by omega) (Nat.le_of_ble_eq_true rfl) ?_
  rw [show (fun j : Int => if 0 ≤ j ∧ j < 0 + w' * h' then f' (0 + (j - 0)) else f j) = fbec f f' (w' * h') by funext j; simp [fbec]]
  exact R_return c_38_29 rfl rfl
end SHEET
