/-! filter, values, value, sheet, count, ordered -/
section MAIN4
variable {scr : List Int32} {H : List mC} {w h : Nat → Int} {f : Nat → Int → Int} {k k2 : Nat}
theorem k_readE {s v : Nat} {n w h : Int} {f cs ps : Int → Int} (ht : tn H n cs ps) (hs : sh H s v w h f) (hf : vok f) (ns : s ∉ [18, 19, 20]) (nv : v ∉ [18, 19, 20]) :
    m_CP scr 40 [.ref 18, .ref s] H (fun v1 H1 => v1 = none ∧ eqo [18, 19] H H1 ∧ tn H1 (w * h) (hist f (w * h)) ps) :=
  ⟨_, _, k_read ht hs hf ns nv, rfl, ((eqo.rf _ H).st (by decide)).st (by decide), m_gs_eq ((m_gs_ne (by decide)).trans ht.1), (m_gs_ne (by decide)).trans (m_gs_eq ht.2.1), (m_gs_ne (by decide)).trans ((m_gs_ne (by decide)).trans ht.2.2)⟩
theorem hist_ok {w h : Int} (f : Int → Int) (hd : 1 ≤ w ∧ w ≤ 16 ∧ 1 ≤ h ∧ h ≤ 16) : ∀ e : Int, 0 ≤ e → e < 256 → 0 ≤ hist f (w * h) e ∧ hist f (w * h) e ≤ 256 := fun e _ _ => by
  have ha := m_area hd.1 hd.2.1 hd.2.2.1 hd.2.2.2
  have := hist_bd f (n := w * h) (by omega) (by omega) e
  omega
def ffct (w h : Int) (f : Int → Int) (what : Int) : Int := if what = 0 then w else if what = 1 then h else if what = 2 then ordf (hist f (w * h)) 0 else if what = 3 then ordf (hist f (w * h)) (w * h - 1) else if what = 4 then fsum f (w * h) else fcut (hist f (w * h)) (w * h)
theorem k_factOf {s v : Nat} {w h what : Int} {f : Int → Int} (ho : m_get H 1 = some (.inr (5, [.ref 2, .ref 11, .ref 13, .ref 18, .ref 21, .ref 26]))) (ht : ts H) (hs : sh H s v w h f) (hf : vok f) (ns : s ∉ [18, 19, 20]) (nv : v ∉ [18, 19, 20]) (hh : 0 ≤ what ∧ what ≤ 5) :
    m_CP scr 88 [.ref 1, .ref s, vI what] H (fun v1 H1 => v1 = some (vI (ffct w h f what)) ∧ eqo [18, 19] H H1 ∧ ts H1) := by
  obtain ⟨n, cs, ps, ht⟩ := ht
  have hd := hs.2.2.2
  have ha := m_area hd.1 hd.2.1 hd.2.2.1 hd.2.2.2
  obtain ⟨v1, H1, hc1, rfl, q1, t1⟩ := k_readE (scr := scr) ht hs hf ns nv
  obtain ⟨a1, a2, a3⟩ : s ≠ 18 ∧ s ≠ 19 ∧ s ≠ 20 := by simpa using ns
  obtain ⟨b1, b2, b3⟩ : v ≠ 18 ∧ v ≠ 19 ∧ v ≠ 20 := by simpa using nv
  have s1 := sh_eqo q1 hs (by simp; omega) (by simp; omega)
  have o1 := (q1 1 (by decide)).trans ho
  have hk := hist_ok f hd
  refine m_CP.of ?_
  show m_Ev scr 88 0 [(0, .ref 1), (1, .ref s), (2, vI what)] [] H _
  refine R_aload_n 1 c_88_0 rfl rfl ?_
  refine R_get 4 c_88_1 rfl (ho) rfl ?_
  refine R_aload_n 5 c_88_4 rfl rfl ?_
  refine R_callV 8 c_88_5 rfl rfl rfl rfl (Nat.le_of_ble_eq_true rfl) (Nat.le_of_ble_eq_true rfl) (ht.1) (hc1) ?_
  refine R_iload_n 9 c_88_8 rfl rfl ?_
  rcases (show what = 0 ∨ what = 1 ∨ what = 2 ∨ what = 3 ∨ what = 4 ∨ what = 5 by omega) with rfl | rfl | rfl | rfl | rfl | rfl
  · refine R_tsw 44 c_88_9 (by unfold inR; omega) rfl ?_
    refine R_aload_n 45 c_88_44 rfl rfl ?_
    refine R_get 48 c_88_45 rfl (s1.1) rfl ?_
    refine R_ireturn c_88_48 rfl ?_
    exact ⟨rfl, q1, _, _, _, t1⟩
  · refine R_tsw 49 c_88_9 (by unfold inR; omega) rfl ?_
    refine R_aload_n 50 c_88_49 rfl rfl ?_
    refine R_get 53 c_88_50 rfl (s1.1) rfl ?_
    refine R_ireturn c_88_53 rfl ?_
    exact ⟨rfl, q1, _, _, _, t1⟩
  · refine R_tsw 54 c_88_9 (by unfold inR; omega) rfl ?_
    refine R_aload_n 55 c_88_54 rfl rfl ?_
    refine R_get 58 c_88_55 rfl (o1) rfl ?_
    refine R_callV 61 c_88_58 rfl rfl rfl rfl (Nat.le_of_ble_eq_true rfl) (Nat.le_of_ble_eq_true rfl) (t1.1) (k_least4 t1 hk) ?_
    refine R_ireturn c_88_61 rfl ?_
    exact ⟨rfl, q1, _, _, _, t1⟩
  · refine R_tsw 62 c_88_9 (by unfold inR; omega) rfl ?_
    refine R_aload_n 63 c_88_62 rfl rfl ?_
    refine R_get 66 c_88_63 rfl (o1) rfl ?_
    refine R_callV 69 c_88_66 rfl rfl rfl rfl (Nat.le_of_ble_eq_true rfl) (Nat.le_of_ble_eq_true rfl) (t1.1) (k_greatest4 t1 (by omega) hk) ?_
    refine R_ireturn c_88_69 rfl ?_
    exact ⟨rfl, q1, _, _, _, t1⟩
  · refine R_tsw 70 c_88_9 (by unfold inR; omega) rfl ?_
    refine R_aload_n 71 c_88_70 rfl rfl ?_
    refine R_callV 74 c_88_71 rfl rfl rfl rfl (Nat.le_of_ble_eq_true rfl) (Nat.le_of_ble_eq_true rfl) (s1.1) (k_total s1) ?_
    refine R_ireturn c_88_74 rfl ?_
    exact ⟨rfl, q1, _, _, _, t1⟩
  · refine R_tsw 75 c_88_9 (by unfold inR; omega) rfl ?_
    refine R_aload_n 76 c_88_75 rfl rfl ?_
    refine R_get 79 c_88_76 rfl (o1) rfl ?_
    refine R_callV 82 c_88_79 rfl rfl rfl rfl (Nat.le_of_ble_eq_true rfl) (Nat.le_of_ble_eq_true rfl) (t1.1) (k_cut t1 (by omega) hk) ?_
    refine R_ireturn c_88_82 rfl ?_
    exact ⟨rfl, q1, _, _, _, t1⟩
theorem SC_ts {S : List Nat} {H H1 : List mC} (h : SC H) (he : eqo S H H1) (hS : ∀ q ∈ S, q = 18 ∨ q = 19 ∨ q = 20) (hx : ts H1) : SC H1 := by
  have hn : ∀ q, q < 18 ∨ 20 < q → q ∉ S := fun q hq hm => by have := hS q hm; omega
  exact h.mk' he (.inl ⟨hn _ (by omega), hn _ (by omega)⟩) (.inl ⟨hn _ (by omega), hn _ (by omega)⟩) (.inl ⟨hn _ (by omega), hn _ (by omega)⟩) (.inr hx) (.inl ⟨hn _ (by omega), hn _ (by omega), hn _ (by omega), hn _ (by omega), hn _ (by omega)⟩) (.inl ⟨hn _ (by omega), hn _ (by omega), hn _ (by omega)⟩) (.inl ⟨hn _ (by omega), hn _ (by omega)⟩)
theorem m_offK (hk : k < 4) (q : Nat) (hq : q < 3 ∨ 10 < q) : 3 + 2 * k ≠ q ∧ 4 + 2 * k ≠ q := by omega
theorem k_sheet {what : Int} (hw : wd H w h f) (hk : k < 4) (hh : 0 ≤ what ∧ what ≤ 5) :
    m_CP scr 61 [.ref 1, vI k, vI what] H (fun v1 H1 => v1 = some (vI (ffct (w k) (h k) (f k) what)) ∧ wd H1 w h f) := by
  obtain ⟨hsk, hvk⟩ := hw.2.2.1 k hk
  obtain ⟨v5, H5, hc5, rfl, q5, t5⟩ := k_factOf (scr := scr) hw.1 hw.2.2.2.2.2.2.1 hsk hvk (by simp; omega) (by simp; omega) hh
  refine m_CP.of ?_
  show m_Ev scr 61 0 [(0, .ref 1), (1, vI k), (2, vI what)] [] H _
  refine R_aload_n 1 c_61_0 rfl rfl ?_
  refine R_iload_n 2 c_61_1 rfl rfl ?_
  refine R_callV 5 c_61_2 rfl rfl rfl rfl (Nat.le_of_ble_eq_true rfl) (Nat.le_of_ble_eq_true rfl) (hw.1) (k_sheetAt hw hk) ?_
  refine R_astore_n 6 c_61_5 rfl ?_
  refine R_iconst 7 c_61_6 rfl ?_
  refine R_iload_n 8 c_61_7 rfl rfl ?_
  refine R_iconst 9 c_61_8 rfl ?_
  refine R_callS 12 c_61_9 rfl rfl (Nat.le_of_ble_eq_true rfl) (k_isFromT inR_0 (by unfold inR; omega) (by unfold inR; omega) hh) ?_
  refine R_callS 15 c_61_12 rfl rfl (Nat.le_of_ble_eq_true rfl) (k_refuse1) ?_
  refine R_aload_n 16 c_61_15 rfl rfl ?_
  refine R_aload_n 17 c_61_16 rfl rfl ?_
  refine R_iload_n 18 c_61_17 rfl rfl ?_
  refine R_callV 21 c_61_18 rfl rfl rfl rfl (Nat.le_of_ble_eq_true rfl) (Nat.le_of_ble_eq_true rfl) (hw.1) (hc5) ?_
  refine R_ireturn c_61_21 rfl ?_
  exact ⟨rfl, wd_sc hw q5 (by unfold offS; decide) (SC_ts hw.2.2.2 q5 (by decide) t5)⟩
theorem k_value {x y : Int} (hw : wd H w h f) (hk : k < 4) (hx : 0 ≤ x ∧ x < w k) (hy : 0 ≤ y ∧ y < h k) :
    m_Cl scr 60 [.ref 1, vI k, vI x, vI y] H (some (vI (fnear (w k) (h k) (f k) x y))) H := by
  obtain ⟨hsk, hvk⟩ := hw.2.2.1 k hk
  obtain ⟨h1, h2, h3, h4⟩ := id hsk.2.2.2
  show m_Ev scr 60 0 [(0, .ref 1), (1, vI k), (2, vI x), (3, vI y)] [] H _
  refine R_aload_n 1 c_60_0 rfl rfl ?_
  refine R_iload_n 2 c_60_1 rfl rfl ?_
  refine R_callV 5 c_60_2 rfl rfl rfl rfl (Nat.le_of_ble_eq_true rfl) (Nat.le_of_ble_eq_true rfl) (hw.1) (k_sheetAt hw hk) ?_
  refine R_astore 7 c_60_5 rfl ?_
  refine R_aload 9 c_60_7 rfl rfl ?_
  refine R_iload_n 10 c_60_9 rfl rfl ?_
  refine R_iload_n 11 c_60_10 rfl rfl ?_
  refine R_callS 14 c_60_11 rfl rfl (Nat.le_of_ble_eq_true rfl) (k_needFieldT hsk hx hy) ?_
  refine R_aload 16 c_60_14 rfl rfl ?_
  refine R_iload_n 17 c_60_16 rfl rfl ?_
  refine R_iload_n 18 c_60_17 rfl rfl ?_
  refine R_callV 21 c_60_18 rfl rfl rfl rfl (Nat.le_of_ble_eq_true rfl) (Nat.le_of_ble_eq_true rfl) (hsk.1) (k_near hsk (by unfold inR; omega) (by unfold inR; omega)) ?_
  exact R_ireturn c_60_21 rfl rfl
theorem k_ordered {n : Int} (hw : wd H w h f) (hk : k < 4) (hn : 0 ≤ n ∧ n < w k * h k) :
    m_CP scr 63 [.ref 1, vI k, vI n] H (fun v1 H1 => v1 = some (vI (ordf (hist (f k) (w k * h k)) n)) ∧ wd H1 w h f) := by
  obtain ⟨hsk, hvk⟩ := hw.2.2.1 k hk
  obtain ⟨nn, cs, ps, ht⟩ := hw.2.2.2.2.2.2.1
  have hd := hsk.2.2.2
  have ha := m_area hd.1 hd.2.1 hd.2.2.1 hd.2.2.2
  obtain ⟨v1, H1, hc1, rfl, q1, t1⟩ := k_readE (scr := scr) ht hsk hvk (by simp; omega) (by simp; omega)
  have o1 := (q1 1 (by decide)).trans hw.1
  refine m_CP.of ?_
  show m_Ev scr 63 0 [(0, .ref 1), (1, vI k), (2, vI n)] [] H _
  refine R_aload_n 1 c_63_0 rfl rfl ?_
  refine R_iload_n 2 c_63_1 rfl rfl ?_
  refine R_callV 5 c_63_2 rfl rfl rfl rfl (Nat.le_of_ble_eq_true rfl) (Nat.le_of_ble_eq_true rfl) (hw.1) (k_sheetAt hw hk) ?_
  refine R_astore_n 6 c_63_5 rfl ?_
  refine R_iconst 7 c_63_6 rfl ?_
  refine R_iload_n 8 c_63_7 rfl rfl ?_
  refine R_aload_n 9 c_63_8 rfl rfl ?_
  refine R_callV 12 c_63_9 rfl rfl rfl rfl (Nat.le_of_ble_eq_true rfl) (Nat.le_of_ble_eq_true rfl) (hsk.1) (k_size hsk) ?_
  refine R_iconst 13 c_63_12 rfl ?_
  refine R_isub 14 c_63_13 rfl ?_
  refine R_callS 17 c_63_14 rfl rfl (Nat.le_of_ble_eq_true rfl) (k_isFromT inR_0 (by unfold inR; omega) (by unfold inR; omega) ⟨by omega, by omega⟩) ?_
  refine R_callS 20 c_63_17 rfl rfl (Nat.le_of_ble_eq_true rfl) (k_needPlace1) ?_
  refine R_aload_n 21 c_63_20 rfl rfl ?_
  refine R_get 24 c_63_21 rfl (hw.1) rfl ?_
  refine R_aload_n 25 c_63_24 rfl rfl ?_
  refine R_callV 28 c_63_25 rfl rfl rfl rfl (Nat.le_of_ble_eq_true rfl) (Nat.le_of_ble_eq_true rfl) (ht.1) (hc1) ?_
  refine R_aload_n 29 c_63_28 rfl rfl ?_
  refine R_get 32 c_63_29 rfl (o1) rfl ?_
  refine R_iload_n 33 c_63_32 rfl rfl ?_
  refine R_callV 36 c_63_33 rfl rfl rfl rfl (Nat.le_of_ble_eq_true rfl) (Nat.le_of_ble_eq_true rfl) (t1.1) (k_inOrder t1 (by unfold inR; omega) (hist_ok _ hd)) ?_
  refine R_ireturn c_63_36 rfl ?_
  exact ⟨rfl, wd_sc hw q1 (by unfold offS; decide) (SC_ts hw.2.2.2 q1 (by decide) ⟨_, _, _, t1⟩)⟩
def fcnt (f : Int → Int) (lo hi n : Int) : Int := fsum (fun e => if lo ≤ f e ∧ f e ≤ hi then 1 else 0) n
theorem k_count {lo hi : Int} (hw : wd H w h f) (hk : k < 4) (hl : inR lo) (hh : inR hi) :
    m_Cl scr 62 [.ref 1, vI k, vI lo, vI hi] H (some (vI (fcnt (f k) lo hi (w k * h k)))) H := by
  obtain ⟨hsk, hvk⟩ := hw.2.2.1 k hk
  have hd := hsk.2.2.2
  have ha := m_area hd.1 hd.2.1 hd.2.2.1 hd.2.2.2
  show m_Ev scr 62 0 [(0, .ref 1), (1, vI k), (2, vI lo), (3, vI hi)] [] H _
  refine R_aload_n 1 c_62_0 rfl rfl ?_
  refine R_iload_n 2 c_62_1 rfl rfl ?_
  refine R_callV 5 c_62_2 rfl rfl rfl rfl (Nat.le_of_ble_eq_true rfl) (Nat.le_of_ble_eq_true rfl) (hw.1) (k_sheetAt hw hk) ?_
  refine R_astore 7 c_62_5 rfl ?_
  refine R_iconst 8 c_62_7 rfl ?_
  refine R_istore 10 c_62_8 rfl ?_
  refine R_iconst 11 c_62_10 rfl ?_
  refine R_istore 13 c_62_11 rfl ?_
  refine m_forw (w k * h k) (fun i => [(0, .ref 1), (1, vI k), (2, vI lo), (3, vI hi), (4, .ref (3 + 2 * k)), (5, vI (fcnt (f k) lo hi i)), (6, vI i)]) (fun _ => H) 0 rfl rfl (by omega) (fun i i0 i1 ih => ?_) ?_
  · have hv := hvk i (by omega) (by omega)
    have e1 : fcnt (f k) lo hi (i + 1) = fcnt (f k) lo hi i + (if lo ≤ f k i ∧ f k i ≤ hi then 1 else 0) := fsum_succ _ i0
    refine R_iload 15 c_62_13 rfl rfl ?_
    refine R_aload 17 c_62_15 rfl rfl ?_
    refine R_callV 20 c_62_17 rfl rfl rfl rfl (Nat.le_of_ble_eq_true rfl) (Nat.le_of_ble_eq_true rfl) (hsk.1) (k_size hsk) ?_
    refine R_br 23 48 _ (cmp_ge (by unfold inR; omega) (by unfold inR; omega)) c_62_20 rfl rfl (fun hn => absurd hn (by omega)) (fun _ => ?_)
    refine R_iload_n 24 c_62_23 rfl rfl ?_
    refine R_aload 26 c_62_24 rfl rfl ?_
    refine R_get 29 c_62_26 rfl (hsk.1) rfl ?_
    refine R_iload 31 c_62_29 rfl rfl ?_
    refine R_iald 32 c_62_31 rfl (hsk.2.1) (by omega) (by omega) (by decide) ?_
    refine R_iload_n 33 c_62_32 rfl rfl ?_
    refine R_callS 36 c_62_33 rfl rfl (Nat.le_of_ble_eq_true rfl) (k_isFrom hl (by unfold inR; omega) hh) ?_
    by_cases hc : lo ≤ f k i ∧ f k i ≤ hi
    · rw [if_pos hc] at e1 ⊢
      refine R_brz 39 42 _ (cmp_eq (by unfold inR; omega) inR_0) c_62_36 rfl rfl (fun hn => absurd hn (by omega)) (fun _ => ?_)
      refine R_iinc 42 c_62_39 rfl rfl ?_
      refine R_iinc 45 c_62_42 rfl rfl ?_
      refine R_goto 13 c_62_45 rfl ?_
      show m_Ev scr 62 13 [(0, .ref 1), (1, vI k), (2, vI lo), (3, vI hi), (4, .ref (3 + 2 * k)), (5, vI (fcnt (f k) lo hi i + 1)), (6, vI (i + 1))] [] H _
      rw [← e1]
      exact ih
    · rw [if_neg hc] at e1 ⊢
      refine R_brz 39 42 _ (cmp_eq (by unfold inR; omega) inR_0) c_62_36 rfl rfl (fun _ => ?_) (fun hn => absurd (by omega) hn)
      refine R_iinc 45 c_62_42 rfl rfl ?_
      refine R_goto 13 c_62_45 rfl ?_
      rw [show fcnt (f k) lo hi i = fcnt (f k) lo hi (i + 1) by omega]
      exact ih
  · refine R_iload 15 c_62_13 rfl rfl ?_
    refine R_aload 17 c_62_15 rfl rfl ?_
    refine R_callV 20 c_62_17 rfl rfl rfl rfl (Nat.le_of_ble_eq_true rfl) (Nat.le_of_ble_eq_true rfl) (hsk.1) (k_size hsk) ?_
    refine R_br 23 48 _ (cmp_ge (by unfold inR; omega) (by unfold inR; omega)) c_62_20 rfl rfl (fun _ => ?_) (fun hn => absurd (by omega) hn)
    refine R_iload 50 c_62_48 rfl rfl ?_
    exact R_ireturn c_62_50 rfl rfl
end MAIN4
/-! filter, values, difference -/
section MAIN5
variable {scr : List Int32} {H : List mC} {w h : Nat → Int} {f : Nat → Int → Int} {k k2 : Nat}
theorem fdif_ext {f g g' : Int → Int} {n : Int} (h : ∀ e, 0 ≤ e → e < n → g e = g' e) : fsum (fdif f g) n = fsum (fdif f g') n := fsum_ext fun e h0 h1 => by unfold fdif; rw [h e h0 h1]
theorem k_filter {how : Int} (hw : wd H w h f) (hk : k < 4) (hh : 3 ≤ how ∧ how ≤ 8) :
    m_CP scr 58 [.ref 1, vI k, vI how] H (fun v1 H1 => v1 = some (vI (fsum (fdif (f k) (frun how (w k) (h k) (f k))) (w k * h k))) ∧ ∃ fn, wd H1 w h (m_nu f k fn) ∧ ∀ e, 0 ≤ e → e < w k * h k → fn e = frun how (w k) (h k) (f k) e) := by
  obtain ⟨hsk, hvk⟩ := hw.2.2.1 k hk
  obtain ⟨⟨wx, hx', fx, sx, hfx⟩, ⟨dv, bs, g, ho⟩, ⟨wb, hb, fb, sb, hfb⟩, _⟩ := id hw.2.2.2
  obtain ⟨v5, H5, hc5, rfl, q5, ⟨g', ho5⟩, ⟨wb', hb', fb', sb', hfb'⟩, fn, s5, hfn, hq5⟩ := k_run (scr := scr) hh.1 hh.2 ho hsk sx sb hvk hfx hfb (by simp; omega) (by simp; omega)
  have o5 := (q5 1 (by decide)).trans hw.1
  have hs5 := sh_eqo q5 hsk (by simp; omega) (by simp; omega)
  have S5 : SC H5 := hw.2.2.2.mk' q5 (.inr ⟨_, _, _, s5, hfn⟩) (.inr ⟨_, _, _, ho5⟩) (.inr ⟨_, _, _, sb', hfb'⟩) (.inl (by decide)) (.inl (by decide)) (.inl (by decide)) (.inl (by decide))
  have W5 := wd_sc hw q5 (by unfold offS; decide) S5
  obtain ⟨v6, H6, hc6, rfl, q6, fm, s6, hfm, hq6⟩ := k_changeToNext (scr := scr) o5 hs5 s5 hvk hfn (by omega) (by omega) (by omega) (by omega)
  have W6 := wd_set W5 q6 (fun q hq => by simp at hq; omega) s6 hfm (SC_low S5 q6 (fun q hq => by simp at hq; omega))
  rw [m_nu_self, m_nu_self] at W6
  refine m_CP.of ?_
  show m_Ev scr 58 0 [(0, .ref 1), (1, vI k), (2, vI how)] [] H _
  refine m_gen (fun X hX => ?_)
  refine R_aload_n 1 c_58_0 rfl rfl ?_
  refine R_iload_n 2 c_58_1 rfl rfl ?_
  refine R_callV 5 c_58_2 rfl rfl rfl rfl (Nat.le_of_ble_eq_true rfl) (Nat.le_of_ble_eq_true rfl) (hw.1) (k_sheetAt hw hk) ?_
  refine R_astore_n 6 c_58_5 rfl ?_
  refine R_iconst 7 c_58_6 rfl ?_
  refine R_iload_n 8 c_58_7 rfl rfl ?_
  refine R_bipush 10 c_58_8 rfl (by decide) ?_
  refine R_callS 13 c_58_10 rfl rfl (Nat.le_of_ble_eq_true rfl) (k_isFromT inR_0 (by unfold inR; omega) (by unfold inR; omega) ⟨by omega, by omega⟩) ?_
  refine R_callS 16 c_58_13 rfl rfl (Nat.le_of_ble_eq_true rfl) (k_refuse1) ?_
  refine R_aload_n 17 c_58_16 rfl rfl ?_
  refine R_get 20 c_58_17 rfl (hw.1) rfl ?_
  refine R_aload_n 21 c_58_20 rfl rfl ?_
  refine R_aload_n 22 c_58_21 rfl rfl ?_
  refine R_get 25 c_58_22 rfl (hw.1) rfl ?_
  refine R_iload_n 26 c_58_25 rfl rfl ?_
  refine R_callV 29 c_58_26 rfl rfl rfl rfl (Nat.le_of_ble_eq_true rfl) (Nat.le_of_ble_eq_true rfl) (ho.1) (hc5) ?_
  refine R_aload_n 30 c_58_29 rfl rfl ?_
  refine R_aload_n 31 c_58_30 rfl rfl ?_
  refine R_callV 34 c_58_31 rfl rfl rfl rfl (Nat.le_of_ble_eq_true rfl) (Nat.le_of_ble_eq_true rfl) (o5) (hc6) ?_
  refine R_ireturn c_58_34 rfl ?_
  refine hX _ _ ⟨by rw [fdif_ext hq5], fm, W6, fun e h0 h1 => ?_⟩
  rw [hq6 e h0 h1, hq5 e h0 h1]
set_option maxHeartbeats 4000000 in
theorem k_values {how : Int} (hw : wd H w h f) (hk : k < 4) (hh : 0 ≤ how ∧ how ≤ 2) (hp : ∀ e, 0 ≤ e → e < w k * h k → 0 ≤ fpln how (hist (f k) (w k * h k)) (w k * h k) (f k e) ∧ fpln how (hist (f k) (w k * h k)) (w k * h k) (f k e) ≤ 255) :
    m_CP scr 59 [.ref 1, vI k, vI how] H (fun v1 H1 => (∃ z, v1 = some (vI z) ∧ 0 ≤ z ∧ z ≤ 256) ∧ ∃ fn, wd H1 w h (m_nu f k fn) ∧ ∀ e, 0 ≤ e → e < w k * h k → fn e = fpln how (hist (f k) (w k * h k)) (w k * h k) (f k e)) := by
  obtain ⟨hsk, hvk⟩ := hw.2.2.1 k hk
  obtain ⟨⟨wx, hx', fx, sx, hfx⟩, _, _, ⟨nn, cs, ps, ht⟩, _⟩ := id hw.2.2.2
  have hd := hsk.2.2.2
  have ha := m_area hd.1 hd.2.1 hd.2.2.1 hd.2.2.2
  have hok := hist_ok (f k) hd
  obtain ⟨v1, H1, hc1, rfl, q1, t1⟩ := k_readE (scr := scr) ht hsk hvk (by simp; omega) (by simp; omega)
  have o1 := (q1 1 (by decide)).trans hw.1
  have c2 := k_plan (scr := scr) hh t1 (by omega) hok
  generalize hcs : hist (f k) (w k * h k) = cs1 at *
  have q2 : eqo [18, 19, 20] H (m_set H1 20 (.inl (0, aI 256 (fpln how cs1 (w k * h k))))) := (q1.wd (by simp)).st (by decide)
  have t2 : tn (m_set H1 20 (.inl (0, aI 256 (fpln how cs1 (w k * h k))))) (w k * h k) cs1 (fpln how cs1 (w k * h k)) := ⟨(m_gs_ne (by decide)).trans t1.1, (m_gs_ne (by decide)).trans t1.2.1, m_gs_eq t1.2.2⟩
  generalize m_set H1 20 (.inl (0, aI 256 (fpln how cs1 (w k * h k)))) = H2 at c2 q2 t2
  have s2 := sh_eqo q2 hsk (by simp; omega) (by simp; omega)
  have x2 := sh_eqo q2 sx (by decide) (by decide)
  have o2 := (q2 1 (by decide)).trans hw.1
  obtain ⟨v3, H3, hc3, rfl, q3, fy, s3, hfy, hq3⟩ := k_becomeE (scr := scr) x2 s2 hfx hvk (by omega) (by omega) (by omega) (by omega)
  have q23 : eqo [11, 12, 18, 19, 20] H H3 := (q2.wd (by simp)).tr (q3.wd (by simp))
  have t3 : tn H3 (w k * h k) cs1 (fpln how cs1 (w k * h k)) := ⟨(q3 _ (by decide)).trans t2.1, (q3 _ (by decide)).trans t2.2.1, (q3 _ (by decide)).trans t2.2.2⟩
  refine m_CP.of ?_
  show m_Ev scr 59 0 [(0, .ref 1), (1, vI k), (2, vI how)] [] H _
  refine m_gen (fun X hX => ?_)
  refine R_aload_n 1 c_59_0 rfl rfl ?_
  refine R_iload_n 2 c_59_1 rfl rfl ?_
  refine R_callV 5 c_59_2 rfl rfl rfl rfl (Nat.le_of_ble_eq_true rfl) (Nat.le_of_ble_eq_true rfl) (hw.1) (k_sheetAt hw hk) ?_
  refine R_astore_n 6 c_59_5 rfl ?_
  refine R_iconst 7 c_59_6 rfl ?_
  refine R_iload_n 8 c_59_7 rfl rfl ?_
  refine R_iconst 9 c_59_8 rfl ?_
  refine R_callS 12 c_59_9 rfl rfl (Nat.le_of_ble_eq_true rfl) (k_isFromT inR_0 (by unfold inR; omega) (by unfold inR; omega) ⟨by omega, by omega⟩) ?_
  refine R_callS 15 c_59_12 rfl rfl (Nat.le_of_ble_eq_true rfl) (k_refuse1) ?_
  refine R_aload_n 16 c_59_15 rfl rfl ?_
  refine R_get 19 c_59_16 rfl (hw.1) rfl ?_
  refine R_aload_n 20 c_59_19 rfl rfl ?_
  refine R_callV 23 c_59_20 rfl rfl rfl rfl (Nat.le_of_ble_eq_true rfl) (Nat.le_of_ble_eq_true rfl) (ht.1) (hc1) ?_
  refine R_aload_n 24 c_59_23 rfl rfl ?_
  refine R_get 27 c_59_24 rfl (o1) rfl ?_
  refine R_iload_n 28 c_59_27 rfl rfl ?_
  refine R_callV 31 c_59_28 rfl rfl rfl rfl (Nat.le_of_ble_eq_true rfl) (Nat.le_of_ble_eq_true rfl) (t1.1) (c2) ?_
  refine R_aload_n 32 c_59_31 rfl rfl ?_
  refine R_get 35 c_59_32 rfl (o2) rfl ?_
  refine R_aload_n 36 c_59_35 rfl rfl ?_
  refine R_callV 39 c_59_36 rfl rfl rfl rfl (Nat.le_of_ble_eq_true rfl) (Nat.le_of_ble_eq_true rfl) (x2.1) (hc3) ?_
  refine R_iconst 40 c_59_39 rfl ?_
  refine R_istore 42 c_59_40 rfl ?_
  refine m_forP (w k * h k) (fun i L H4 => L = [(0, .ref 1), (1, vI k), (2, vI how), (3, .ref (3 + 2 * k)), (4, vI i)] ∧ eqo [12] H3 H4 ∧ ∃ fn, sh H4 11 12 (w k) (h k) fn ∧ vok fn ∧ ∀ e, 0 ≤ e → e < i → fn e = fpln how cs1 (w k * h k) (f k e)) 0 ⟨rfl, eqo.rf _ _, _, s3, hfy, fun e _ _ => by omega⟩ (by omega) ?_ ?_
  · rintro i L4 H4 i0 i1 ⟨rfl, q4, fn4, s4, hv4, hq4⟩ ih
    have q4' : eqo [11, 12, 18, 19, 20] H H4 := q23.tr (q4.wd (by simp))
    have o4 := (q4' 1 (by decide)).trans hw.1
    have S4 := sh_eqo q4' hsk (by simp; omega) (by simp; omega)
    have t4 : tn H4 (w k * h k) cs1 (fpln how cs1 (w k * h k)) := ⟨(q4 _ (by decide)).trans t3.1, (q4 _ (by decide)).trans t3.2.1, (q4 _ (by decide)).trans t3.2.2⟩
    have hv := hvk i (by omega) (by omega)
    refine R_iload 44 c_59_42 rfl rfl ?_
    refine R_aload_n 45 c_59_44 rfl rfl ?_
    refine R_callV 48 c_59_45 rfl rfl rfl rfl (Nat.le_of_ble_eq_true rfl) (Nat.le_of_ble_eq_true rfl) (S4.1) (k_size S4) ?_
    refine R_br 51 81 _ (cmp_ge (by unfold inR; omega) (by unfold inR; omega)) c_59_48 rfl rfl (fun hn => absurd hn (by omega)) (fun _ => ?_)
    refine R_aload_n 52 c_59_51 rfl rfl ?_
    refine R_get 55 c_59_52 rfl (o4) rfl ?_
    refine R_get 58 c_59_55 rfl (s4.1) rfl ?_
    refine R_iload 60 c_59_58 rfl rfl ?_
    refine R_aload_n 61 c_59_60 rfl rfl ?_
    refine R_get 64 c_59_61 rfl (o4) rfl ?_
    refine R_aload_n 65 c_59_64 rfl rfl ?_
    refine R_get 68 c_59_65 rfl (S4.1) rfl ?_
    refine R_iload 70 c_59_68 rfl rfl ?_
    refine R_iald 71 c_59_70 rfl (S4.2.1) (by omega) (by omega) (by decide) ?_
    refine R_callV 74 c_59_71 rfl rfl rfl rfl (Nat.le_of_ble_eq_true rfl) (Nat.le_of_ble_eq_true rfl) (t4.1) (k_planned t4 hv.1 (by omega)) ?_
    refine R_iast 75 c_59_74 rfl (s4.2.1) (by omega) (by omega) (by decide) ?_
    refine R_iinc 78 c_59_75 rfl rfl ?_
    refine R_goto 42 c_59_78 rfl ?_
    refine ih _ _ ⟨rfl, q4.st (by decide), _, ⟨(m_gs_ne (by decide)).trans s4.1, m_gs_eq s4.2.1, s4.2.2⟩, m_up_vok hv4 (hp i i0 i1), fun e e0 e1 => ?_⟩
    by_cases he : e = i
    · subst he; rw [m_up_at]
    · rw [m_up_ne _ _ he]; exact hq4 e e0 (by omega)
  · rintro L4 H4 ⟨rfl, q4, fn4, s4, hv4, hq4⟩
    have q4' : eqo [11, 12, 18, 19, 20] H H4 := q23.tr (q4.wd (by simp))
    have o4 := (q4' 1 (by decide)).trans hw.1
    have S4 := sh_eqo q4' hsk (by simp; omega) (by simp; omega)
    have t4 : tn H4 (w k * h k) cs1 (fpln how cs1 (w k * h k)) := ⟨(q4 _ (by decide)).trans t3.1, (q4 _ (by decide)).trans t3.2.1, (q4 _ (by decide)).trans t3.2.2⟩
    have C4 : SC H4 := hw.2.2.2.mk' q4' (.inr ⟨_, _, _, s4, hv4⟩) (.inl (by decide)) (.inl (by decide)) (.inr ⟨_, _, _, t4⟩) (.inl (by decide)) (.inl (by decide)) (.inl (by decide))
    have W4 := wd_sc hw q4' (by unfold offS; decide) C4
    obtain ⟨v6, H6, hc6, rfl, q6, fm, s6, hfm, hq6⟩ := k_changeToNext (scr := scr) o4 S4 s4 hvk hv4 (by omega) (by omega) (by omega) (by omega)
    have W6 := wd_set W4 q6 (fun q hq => by simp at hq; omega) s6 hfm (SC_low C4 q6 (fun q hq => by simp at hq; omega))
    rw [m_nu_self, m_nu_self] at W6
    have hz := fsum_bd (f := fdif (f k) fn4) (lo := 0) (hi := 1) (fun j _ _ => by unfold fdif; split <;> omega) (w k * h k) (by omega) (by omega)
    refine R_iload 44 c_59_42 rfl rfl ?_
    refine R_aload_n 45 c_59_44 rfl rfl ?_
    refine R_callV 48 c_59_45 rfl rfl rfl rfl (Nat.le_of_ble_eq_true rfl) (Nat.le_of_ble_eq_true rfl) (S4.1) (k_size S4) ?_
    refine R_br 51 81 _ (cmp_ge (by unfold inR; omega) (by unfold inR; omega)) c_59_48 rfl rfl (fun _ => ?_) (fun hn => absurd (by omega) hn)
    refine R_aload_n 82 c_59_81 rfl rfl ?_
    refine R_aload_n 83 c_59_82 rfl rfl ?_
    refine R_callV 86 c_59_83 rfl rfl rfl rfl (Nat.le_of_ble_eq_true rfl) (Nat.le_of_ble_eq_true rfl) (o4) (hc6) ?_
    refine R_ireturn c_59_86 rfl ?_
    exact hX _ _ ⟨⟨_, rfl, by omega, by omega⟩, fm, W6, fun e h0 h1 => by rw [hq6 e h0 h1, hq4 e h0 h1]⟩
end MAIN5
/-! rows for doubles, a switch by values, a length; difference, parts -/
section RW2
variable {scr : List Int32} {M pc x y : Nat} {z : Int} {L : mL} {S : List Value} {H : List mC} {X : mR → Prop}
theorem R_i2d (q : Nat) {a : Int32} (hc : m_code M pc = some (.i2d, x, y, 0, z)) (hp : pc + 1 = q) (k : m_Ev scr M q L (.double (FP.i2d a) :: S) H X) : m_Ev scr M pc L (.int a :: S) H X := by subst hp; exact m_step hc rfl rfl rfl k
theorem R_ddiv (q : Nat) {a b c : UInt64} (hc : m_code M pc = some (.ddiv, x, y, 0, z)) (hp : pc + 1 = q) (hd : FP.ddiv a b = c ∧ c &&& 0x7fffffffffffffff ≤ 0x7ff0000000000000) (k : m_Ev scr M q L (.double c :: S) H X) : m_Ev scr M pc L (.double b :: .double a :: S) H X := by
  subst hp
  obtain ⟨rfl, h2⟩ := hd
  exact m_step hc rfl rfl (by simp only [m_ex]; rw [if_pos h2]) k
theorem R_dcmp (q : Nat) {a b : UInt64} {op : ClassFile.CmpOp} (hc : m_code M pc = some (.dcmp op, x, y, 0, z)) (hp : pc + 1 = q) (k : m_Ev scr M q L (.int (Op.cmpValue (FP.dcmp a b) op) :: S) H X) : m_Ev scr M pc L (.double b :: .double a :: S) H X := by subst hp; exact m_step hc rfl rfl rfl k
theorem R_lsw (t : Nat) {d e : Int} {ps : Array (Int × Int)} (hc : m_code M pc = some (.lookupswitch d ps, x, y, 0, z)) (hj : m_ex scr M pc (.lookupswitch d ps) x y 0 z L (vI e :: S) H = some (t, L, S, H)) (k : m_Ev scr M t L S H X) : m_Ev scr M pc L (vI e :: S) H X := m_step hc rfl rfl hj k
theorem R_alen (q : Nat) {r : Nat} {n : Int} (hc : m_code M pc = some (.arraylength, x, y, 0, z)) (hp : pc + 1 = q) (hl : m_ex scr M pc .arraylength x y 0 z L (.ref r :: S) H = some (pc + 1, L, vI n :: S, H)) (k : m_Ev scr M q L (vI n :: S) H X) : m_Ev scr M pc L (.ref r :: S) H X := by subst hp; exact m_step hc rfl rfl hl k
end RW2
theorem m_d0 : ∀ n : Fin 257, n ≠ 0 → FP.ddiv (FP.i2d (Int32.ofInt 0)) (FP.i2d (Int32.ofInt (n.val : Int))) = 0 := by decide +kernel
section MAIN6
variable {scr : List Int32} {H : List mC} {w h : Nat → Int} {f : Nat → Int → Int} {k k2 : Nat}
theorem k_difference (hw : wd H w h f) (hk : k < 4) (hk2 : k2 < 4) (h1 : w k = w k2) (h2 : h k = h k2) (he : ∀ e, 0 ≤ e → e < w k * h k → f k e = f k2 e) :
    m_Cl scr 64 [.ref 1, vI k, vI k2] H (some (.double 0)) H := by
  obtain ⟨hsk, hvk⟩ := hw.2.2.1 k hk
  obtain ⟨hs2, hv2⟩ := hw.2.2.1 k2 hk2
  have hd := hsk.2.2.2
  have ha := m_area hd.1 hd.2.1 hd.2.2.1 hd.2.2.2
  have hl := k_isAsLargeAs (scr := scr) hsk hs2
  rw [if_pos ⟨h1, h2⟩] at hl
  have hz := m_d0 ⟨(w k * h k).toNat, by omega⟩ (by intro q; have := congrArg Fin.val q; simp at this; omega)
  rw [show (((w k * h k).toNat : Nat) : Int) = w k * h k by omega] at hz
  show m_Ev scr 64 0 [(0, .ref 1), (1, vI k), (2, vI k2)] [] H _
  refine R_aload_n 1 c_64_0 rfl rfl ?_
  refine R_iload_n 2 c_64_1 rfl rfl ?_
  refine R_callV 5 c_64_2 rfl rfl rfl rfl (Nat.le_of_ble_eq_true rfl) (Nat.le_of_ble_eq_true rfl) (hw.1) (k_sheetAt hw hk) ?_
  refine R_astore_n 6 c_64_5 rfl ?_
  refine R_aload_n 7 c_64_6 rfl rfl ?_
  refine R_iload_n 8 c_64_7 rfl rfl ?_
  refine R_callV 11 c_64_8 rfl rfl rfl rfl (Nat.le_of_ble_eq_true rfl) (Nat.le_of_ble_eq_true rfl) (hw.1) (k_sheetAt hw hk2) ?_
  refine R_astore 13 c_64_11 rfl ?_
  refine R_aload_n 14 c_64_13 rfl rfl ?_
  refine R_aload 16 c_64_14 rfl rfl ?_
  refine R_callV 19 c_64_16 rfl rfl rfl rfl (Nat.le_of_ble_eq_true rfl) (Nat.le_of_ble_eq_true rfl) (hsk.1) (hl) ?_
  refine R_callS 22 c_64_19 rfl rfl (Nat.le_of_ble_eq_true rfl) (k_needState1) ?_
  refine R_iconst 23 c_64_22 rfl ?_
  refine R_istore 25 c_64_23 rfl ?_
  refine R_iconst 26 c_64_25 rfl ?_
  refine R_istore 28 c_64_26 rfl ?_
  refine m_forw (w k * h k) (fun i => [(0, .ref 1), (1, vI k), (2, vI k2), (3, .ref (3 + 2 * k)), (4, .ref (3 + 2 * k2)), (5, vI 0), (6, vI i)]) (fun _ => H) 0 rfl rfl (by omega) (fun i i0 i1 ih => ?_) ?_
  · have hv := hvk i (by omega) (by omega)
    have hu := hv2 i (by omega) (by omega)
    have ee := he i i0 i1
    refine R_iload 30 c_64_28 rfl rfl ?_
    refine R_aload_n 31 c_64_30 rfl rfl ?_
    refine R_callV 34 c_64_31 rfl rfl rfl rfl (Nat.le_of_ble_eq_true rfl) (Nat.le_of_ble_eq_true rfl) (hsk.1) (k_size hsk) ?_
    refine R_br 37 67 _ (cmp_ge (by unfold inR; omega) (by unfold inR; omega)) c_64_34 rfl rfl (fun hn => absurd hn (by omega)) (fun _ => ?_)
    refine R_iload 39 c_64_37 rfl rfl ?_
    refine R_aload_n 40 c_64_39 rfl rfl ?_
    refine R_get 43 c_64_40 rfl (hsk.1) rfl ?_
    refine R_iload 45 c_64_43 rfl rfl ?_
    refine R_iald 46 c_64_45 rfl (hsk.2.1) (by omega) (by omega) (by decide) ?_
    refine R_aload 48 c_64_46 rfl rfl ?_
    refine R_get 51 c_64_48 rfl (hs2.1) rfl ?_
    refine R_iload 53 c_64_51 rfl rfl ?_
    refine R_iald 54 c_64_53 rfl (hs2.2.1) (by omega) (by omega) (by decide) ?_
    refine R_isub 55 c_64_54 rfl ?_
    refine R_abs 58 c_64_55 rfl (by unfold inR; omega) (Nat.le_of_ble_eq_true rfl) ?_
    refine R_iadd 59 c_64_58 rfl ?_
    refine R_istore 61 c_64_59 rfl ?_
    refine R_iinc 64 c_64_61 rfl rfl ?_
    refine R_goto 28 c_64_64 rfl ?_
    show m_Ev scr 64 28 [(0, .ref 1), (1, vI k), (2, vI k2), (3, .ref (3 + 2 * k)), (4, .ref (3 + 2 * k2)), (5, vI (0 + ((f k i - f k2 i).natAbs : Int))), (6, vI (i + 1))] [] H _
    rw [show (0 + ((f k i - f k2 i).natAbs : Int)) = 0 by omega]
    exact ih
  · refine R_iload 30 c_64_28 rfl rfl ?_
    refine R_aload_n 31 c_64_30 rfl rfl ?_
    refine R_callV 34 c_64_31 rfl rfl rfl rfl (Nat.le_of_ble_eq_true rfl) (Nat.le_of_ble_eq_true rfl) (hsk.1) (k_size hsk) ?_
    refine R_br 37 67 _ (cmp_ge (by unfold inR; omega) (by unfold inR; omega)) c_64_34 rfl rfl (fun _ => ?_) (fun hn => absurd (by omega) hn)
    refine R_iload 69 c_64_67 rfl rfl ?_
    refine R_i2d 70 c_64_69 rfl ?_
    refine R_aload_n 71 c_64_70 rfl rfl ?_
    refine R_callV 74 c_64_71 rfl rfl rfl rfl (Nat.le_of_ble_eq_true rfl) (Nat.le_of_ble_eq_true rfl) (hsk.1) (k_size hsk) ?_
    refine R_i2d 75 c_64_74 rfl ?_
    refine R_ddiv 76 c_64_75 rfl (⟨hz, by decide⟩) ?_
    exact R_dreturn c_64_76 rfl rfl
/-! PARTS of a SHEET of the world -/
theorem SC_ps {S : List Nat} {H H1 : List mC} (h : SC H) (he : eqo S H H1) (hS : ∀ q ∈ S, 21 ≤ q ∧ q ≤ 25) (hx : ps H1) : SC H1 := by
  have hn : ∀ q, q < 21 ∨ 25 < q → q ∉ S := fun q hq hm => by have := hS q hm; omega
  exact h.mk' he (.inl ⟨hn _ (by omega), hn _ (by omega)⟩) (.inl ⟨hn _ (by omega), hn _ (by omega)⟩) (.inl ⟨hn _ (by omega), hn _ (by omega)⟩) (.inl ⟨hn _ (by omega), hn _ (by omega), hn _ (by omega)⟩) (.inr hx) (.inl ⟨hn _ (by omega), hn _ (by omega), hn _ (by omega)⟩) (.inl ⟨hn _ (by omega), hn _ (by omega)⟩)
theorem pS_ok : ∀ q ∈ pS, 21 ≤ q ∧ q ≤ 25 := by decide
theorem pS_off {q : Nat} (h : q < 21 ∨ 25 < q) : q ∉ pS := fun hm => by have := pS_ok q hm; omega
noncomputable def npt (ways thr on w h : Int) (f : Int → Int) : Int := rk w ways (mbf w h f thr on) (w * h)
theorem npt_bd {ways thr on w h : Int} {f : Int → Int} (hd : 1 ≤ w ∧ w ≤ 16 ∧ 1 ≤ h ∧ h ≤ 16) : 0 ≤ npt ways thr on w h f ∧ npt ways thr on w h f ≤ 256 := by
  have ha := m_area hd.1 hd.2.1 hd.2.2.1 hd.2.2.2
  have := rk_bd w ways (mbf w h f thr on) (n := w * h) (by omega) (by omega)
  unfold npt
  omega
def m_O (H : List mC) : Prop := m_get H 1 = some (.inr (5, [.ref 2, .ref 11, .ref 13, .ref 18, .ref 21, .ref 26]))
theorem k_partsFrom {s v : Nat} {w h ways thr : Int} {f : Int → Int} (ho : m_O H) (hp : ps H) (hs : sh H s v w h f) (hf : vok f) (ns : s < 21) (nv : v < 21) (hways : ways = 4 ∨ ways = 8) (ht : 0 ≤ thr ∧ thr ≤ 255) :
    m_CP scr 89 [.ref 1, .ref s, vI ways, vI thr] H (fun v1 H1 => v1 = some (vI (npt ways thr 1 w h f)) ∧ eqo pS H H1 ∧ ps H1) := by
  obtain ⟨fd, wc, w0, h0, nm, wt, sz, ae, hp⟩ := hp
  obtain ⟨v1, H1, hc1, rfl, q1, fd', wc', nm', wt', sz', ae', p1, F1⟩ := k_find (scr := scr) (on := 1) hways hp hs hf (pS_off (.inl ns)) (pS_off (.inl nv)) ht (.inr rfl)
  have o1 := (q1 1 (by decide)).trans ho
  refine m_CP.of ?_
  show m_Ev scr 89 0 [(0, .ref 1), (1, .ref s), (2, vI ways), (3, vI thr)] [] H _
  refine R_aload_n 1 c_89_0 rfl rfl ?_
  refine R_get 4 c_89_1 rfl (ho) rfl ?_
  refine R_aload_n 5 c_89_4 rfl rfl ?_
  refine R_iload_n 6 c_89_5 rfl rfl ?_
  refine R_iload_n 7 c_89_6 rfl rfl ?_
  refine R_iconst 8 c_89_7 rfl ?_
  refine R_callV 11 c_89_8 rfl rfl rfl rfl (Nat.le_of_ble_eq_true rfl) (Nat.le_of_ble_eq_true rfl) (hp.1) (hc1) ?_
  refine R_aload_n 12 c_89_11 rfl rfl ?_
  refine R_get 15 c_89_12 rfl (o1) rfl ?_
  refine R_get 18 c_89_15 rfl (p1.1) rfl ?_
  refine R_ireturn c_89_18 rfl ?_
  exact ⟨by rw [F1.1]; rfl, q1, _, _, _, _, _, _, _, _, p1⟩
noncomputable def nho (ways w h : Int) (f : Int → Int) : Int := awc w h (if ways = 4 then 8 else 4) (mbf w h f 128 0)
theorem k_holesOf {s v : Nat} {w h ways : Int} {f : Int → Int} (ho : m_O H) (hp : ps H) (hs : sh H s v w h f) (hf : vok f) (ns : s < 21) (nv : v < 21) (hways : ways = 4 ∨ ways = 8) :
    m_CP scr 90 [.ref 1, .ref s, vI ways] H (fun v1 H1 => v1 = some (vI (nho ways w h f)) ∧ eqo pS H H1 ∧ ps H1) := by
  have hd := hs.2.2.2
  have ha := m_area hd.1 hd.2.1 hd.2.2.1 hd.2.2.2
  obtain ⟨fd, wc, w0, h0, nm, wt, sz, ae, hp⟩ := hp
  obtain ⟨v1, H1, hc1, rfl, q1, fd', wc', nm', wt', sz', ae', p1, F1⟩ := k_find (scr := scr) (on := 0) (thr := 128) (ways := if ways = 4 then 8 else 4) (by split <;> omega) hp hs hf (pS_off (.inl ns)) (pS_off (.inl nv)) (by omega) (.inl rfl)
  have o1 := (q1 1 (by decide)).trans ho
  have ca := k_awayFromEdges (scr := scr) p1 ha (fun e he => he.1) F1
  refine m_CP.of ?_
  show m_Ev scr 90 0 [(0, .ref 1), (1, .ref s), (2, vI ways)] [] H _
  refine R_iload_n 1 c_90_0 rfl rfl ?_
  refine R_iconst 2 c_90_1 rfl ?_
  rcases hways with rfl | rfl
  · rw [if_pos rfl] at hc1 ca
    refine R_br 5 10 _ (cmp_ne (by unfold inR; omega) (by unfold inR; omega)) c_90_2 rfl rfl (fun hn => absurd hn (by omega)) (fun _ => ?_)
    refine R_bipush 7 c_90_5 rfl (by decide) ?_
    refine R_goto 11 c_90_7 rfl ?_
    refine R_istore_n 12 c_90_11 rfl ?_
    refine R_aload_n 13 c_90_12 rfl rfl ?_
    refine R_get 16 c_90_13 rfl (ho) rfl ?_
    refine R_aload_n 17 c_90_16 rfl rfl ?_
    refine R_iload_n 18 c_90_17 rfl rfl ?_
    refine R_sipush 21 c_90_18 rfl (by decide) ?_
    refine R_iconst 22 c_90_21 rfl ?_
    refine R_callV 25 c_90_22 rfl rfl rfl rfl (Nat.le_of_ble_eq_true rfl) (Nat.le_of_ble_eq_true rfl) (hp.1) (hc1) ?_
    refine R_aload_n 26 c_90_25 rfl rfl ?_
    refine R_get 29 c_90_26 rfl (o1) rfl ?_
    refine R_callV 32 c_90_29 rfl rfl rfl rfl (Nat.le_of_ble_eq_true rfl) (Nat.le_of_ble_eq_true rfl) (p1.1) (ca) ?_
    refine R_ireturn c_90_32 rfl ?_
    exact ⟨rfl, q1, _, _, _, _, _, _, _, _, p1⟩
  · rw [if_neg (by decide)] at hc1 ca
    refine R_br 5 10 _ (cmp_ne (by unfold inR; omega) (by unfold inR; omega)) c_90_2 rfl rfl (fun _ => ?_) (fun hn => absurd (by omega) hn)
    refine R_iconst 11 c_90_10 rfl ?_
    refine R_istore_n 12 c_90_11 rfl ?_
    refine R_aload_n 13 c_90_12 rfl rfl ?_
    refine R_get 16 c_90_13 rfl (ho) rfl ?_
    refine R_aload_n 17 c_90_16 rfl rfl ?_
    refine R_iload_n 18 c_90_17 rfl rfl ?_
    refine R_sipush 21 c_90_18 rfl (by decide) ?_
    refine R_iconst 22 c_90_21 rfl ?_
    refine R_callV 25 c_90_22 rfl rfl rfl rfl (Nat.le_of_ble_eq_true rfl) (Nat.le_of_ble_eq_true rfl) (hp.1) (hc1) ?_
    refine R_aload_n 26 c_90_25 rfl rfl ?_
    refine R_get 29 c_90_26 rfl (o1) rfl ?_
    refine R_callV 32 c_90_29 rfl rfl rfl rfl (Nat.le_of_ble_eq_true rfl) (Nat.le_of_ble_eq_true rfl) (p1.1) (ca) ?_
    refine R_ireturn c_90_32 rfl ?_
    exact ⟨rfl, q1, _, _, _, _, _, _, _, _, p1⟩
theorem wd_ps {H1 : List mC} (hw : wd H w h f) (he : eqo pS H H1) (hx : ps H1) : wd H1 w h f := wd_sc hw he (fun q hq => by have := pS_ok q hq; omega) (SC_ps hw.2.2.2 he pS_ok hx)
theorem k_parts {ways : Int} (hw : wd H w h f) (hk : k < 4) (hways : ways = 4 ∨ ways = 8) :
    m_CP scr 65 [.ref 1, vI k, vI ways] H (fun v1 H1 => v1 = some (vI (npt ways 128 1 (w k) (h k) (f k))) ∧ wd H1 w h f) := by
  obtain ⟨hsk, hvk⟩ := hw.2.2.1 k hk
  obtain ⟨v1, H1, hc1, rfl, q1, p1⟩ := k_partsFrom (scr := scr) (thr := 128) hw.1 hw.2.2.2.2.2.2.2.1 hsk hvk (by omega) (by omega) hways (by omega)
  refine m_CP.of ?_
  show m_Ev scr 65 0 [(0, .ref 1), (1, vI k), (2, vI ways)] [] H _
  refine R_aload_n 1 c_65_0 rfl rfl ?_
  refine R_iload_n 2 c_65_1 rfl rfl ?_
  refine R_callV 5 c_65_2 rfl rfl rfl rfl (Nat.le_of_ble_eq_true rfl) (Nat.le_of_ble_eq_true rfl) (hw.1) (k_sheetAt hw hk) ?_
  refine R_astore_n 6 c_65_5 rfl ?_
  refine R_iload_n 7 c_65_6 rfl rfl ?_
  refine R_callS 10 c_65_7 rfl rfl (Nat.le_of_ble_eq_true rfl) (k_isWaysT hways) ?_
  refine R_callS 13 c_65_10 rfl rfl (Nat.le_of_ble_eq_true rfl) (k_refuse1) ?_
  refine R_aload_n 14 c_65_13 rfl rfl ?_
  refine R_aload_n 15 c_65_14 rfl rfl ?_
  refine R_iload_n 16 c_65_15 rfl rfl ?_
  refine R_sipush 19 c_65_16 rfl (by decide) ?_
  refine R_callV 22 c_65_19 rfl rfl rfl rfl (Nat.le_of_ble_eq_true rfl) (Nat.le_of_ble_eq_true rfl) (hw.1) (hc1) ?_
  refine R_ireturn c_65_22 rfl ?_
  exact ⟨rfl, wd_ps hw q1 p1⟩
theorem k_holes {ways : Int} (hw : wd H w h f) (hk : k < 4) (hways : ways = 4 ∨ ways = 8) :
    m_CP scr 66 [.ref 1, vI k, vI ways] H (fun v1 H1 => v1 = some (vI (nho ways (w k) (h k) (f k))) ∧ wd H1 w h f) := by
  obtain ⟨hsk, hvk⟩ := hw.2.2.1 k hk
  obtain ⟨v1, H1, hc1, rfl, q1, p1⟩ := k_holesOf (scr := scr) hw.1 hw.2.2.2.2.2.2.2.1 hsk hvk (by omega) (by omega) hways
  refine m_CP.of ?_
  show m_Ev scr 66 0 [(0, .ref 1), (1, vI k), (2, vI ways)] [] H _
  refine R_aload_n 1 c_66_0 rfl rfl ?_
  refine R_iload_n 2 c_66_1 rfl rfl ?_
  refine R_callV 5 c_66_2 rfl rfl rfl rfl (Nat.le_of_ble_eq_true rfl) (Nat.le_of_ble_eq_true rfl) (hw.1) (k_sheetAt hw hk) ?_
  refine R_astore_n 6 c_66_5 rfl ?_
  refine R_iload_n 7 c_66_6 rfl rfl ?_
  refine R_callS 10 c_66_7 rfl rfl (Nat.le_of_ble_eq_true rfl) (k_isWaysT hways) ?_
  refine R_callS 13 c_66_10 rfl rfl (Nat.le_of_ble_eq_true rfl) (k_refuse1) ?_
  refine R_aload_n 14 c_66_13 rfl rfl ?_
  refine R_aload_n 15 c_66_14 rfl rfl ?_
  refine R_iload_n 16 c_66_15 rfl rfl ?_
  refine R_callV 19 c_66_16 rfl rfl rfl rfl (Nat.le_of_ble_eq_true rfl) (Nat.le_of_ble_eq_true rfl) (hw.1) (hc1) ?_
  refine R_ireturn c_66_19 rfl ?_
  exact ⟨rfl, wd_ps hw q1 p1⟩
theorem k_partsAt {ways t : Int} (hw : wd H w h f) (hk : k < 4) (hways : ways = 4 ∨ ways = 8) (ht : 0 ≤ t ∧ t ≤ 255) :
    m_CP scr 73 [.ref 1, vI k, vI ways, vI t] H (fun v1 H1 => v1 = some (vI (npt ways t 1 (w k) (h k) (f k))) ∧ wd H1 w h f) := by
  obtain ⟨hsk, hvk⟩ := hw.2.2.1 k hk
  obtain ⟨v1, H1, hc1, rfl, q1, p1⟩ := k_partsFrom (scr := scr) (thr := t) hw.1 hw.2.2.2.2.2.2.2.1 hsk hvk (by omega) (by omega) hways ht
  refine m_CP.of ?_
  show m_Ev scr 73 0 [(0, .ref 1), (1, vI k), (2, vI ways), (3, vI t)] [] H _
  refine R_aload_n 1 c_73_0 rfl rfl ?_
  refine R_iload_n 2 c_73_1 rfl rfl ?_
  refine R_callV 5 c_73_2 rfl rfl rfl rfl (Nat.le_of_ble_eq_true rfl) (Nat.le_of_ble_eq_true rfl) (hw.1) (k_sheetAt hw hk) ?_
  refine R_astore 7 c_73_5 rfl ?_
  refine R_iload_n 8 c_73_7 rfl rfl ?_
  refine R_callS 11 c_73_8 rfl rfl (Nat.le_of_ble_eq_true rfl) (k_isWaysT hways) ?_
  refine R_brz 14 25 _ (cmp_eq (by unfold inR; omega) inR_0) c_73_11 rfl rfl (fun hn => absurd hn (by omega)) (fun _ => ?_)
  refine R_iload_n 15 c_73_14 rfl rfl ?_
  refine R_callS 18 c_73_15 rfl rfl (Nat.le_of_ble_eq_true rfl) (k_isValueT ht) ?_
  refine R_brz 21 25 _ (cmp_eq (by unfold inR; omega) inR_0) c_73_18 rfl rfl (fun hn => absurd hn (by omega)) (fun _ => ?_)
  refine R_iconst 22 c_73_21 rfl ?_
  refine R_goto 26 c_73_22 rfl ?_
  refine R_callS 29 c_73_26 rfl rfl (Nat.le_of_ble_eq_true rfl) (k_refuse1) ?_
  refine R_aload_n 30 c_73_29 rfl rfl ?_
  refine R_aload 32 c_73_30 rfl rfl ?_
  refine R_iload_n 33 c_73_32 rfl rfl ?_
  refine R_iload_n 34 c_73_33 rfl rfl ?_
  refine R_callV 37 c_73_34 rfl rfl rfl rfl (Nat.le_of_ble_eq_true rfl) (Nat.le_of_ble_eq_true rfl) (hw.1) (hc1) ?_
  refine R_ireturn c_73_37 rfl ?_
  exact ⟨rfl, wd_ps hw q1 p1⟩
/-- what partOf tells -/
def isPt (ways w h : Int) (f : Int → Int) (e z : Int) : Prop := (¬ mbf w h f 128 1 e → z = -1) ∧ (mbf w h f 128 1 e → ∃ q, fsth w ways (mbf w h f 128 1) q ∧ cn w ways (mbf w h f 128 1) q e ∧ z = rk w ways (mbf w h f 128 1) q)
theorem k_partOf {ways x y : Int} (hw : wd H w h f) (hk : k < 4) (hways : ways = 4 ∨ ways = 8) (hx : 0 ≤ x ∧ x < w k) (hy : 0 ≤ y ∧ y < h k) :
    m_CP scr 67 [.ref 1, vI k, vI ways, vI x, vI y] H (fun v1 H1 => (∃ z, v1 = some (vI z) ∧ isPt ways (w k) (h k) (f k) (y * w k + x) z) ∧ wd H1 w h f) := by
  obtain ⟨hsk, hvk⟩ := hw.2.2.1 k hk
  have hd := hsk.2.2.2
  obtain ⟨fd, wc, w0, h0, nm, wt, sz, ae, hp⟩ := hw.2.2.2.2.2.2.2.1
  obtain ⟨v1, H1, hc1, rfl, q1, fd', wc', nm', wt', sz', ae', p1, F1⟩ := k_find (scr := scr) (on := 1) (thr := 128) hways hp hsk hvk (pS_off (by omega)) (pS_off (by omega)) (by omega) (.inr rfl)
  have o1 := (q1 1 (by decide)).trans hw.1
  have hi := m_idx hx.1 hx.2 hy.1 hy.2
  refine m_CP.of ?_
  show m_Ev scr 67 0 [(0, .ref 1), (1, vI k), (2, vI ways), (3, vI x), (4, vI y)] [] H _
  refine m_gen (fun X hX => ?_)
  refine R_aload_n 1 c_67_0 rfl rfl ?_
  refine R_iload_n 2 c_67_1 rfl rfl ?_
  refine R_callV 5 c_67_2 rfl rfl rfl rfl (Nat.le_of_ble_eq_true rfl) (Nat.le_of_ble_eq_true rfl) (hw.1) (k_sheetAt hw hk) ?_
  refine R_astore 7 c_67_5 rfl ?_
  refine R_aload 9 c_67_7 rfl rfl ?_
  refine R_iload_n 10 c_67_9 rfl rfl ?_
  refine R_iload 12 c_67_10 rfl rfl ?_
  refine R_callS 15 c_67_12 rfl rfl (Nat.le_of_ble_eq_true rfl) (k_needFieldT hsk hx hy) ?_
  refine R_iload_n 16 c_67_15 rfl rfl ?_
  refine R_callS 19 c_67_16 rfl rfl (Nat.le_of_ble_eq_true rfl) (k_isWaysT hways) ?_
  refine R_callS 22 c_67_19 rfl rfl (Nat.le_of_ble_eq_true rfl) (k_refuse1) ?_
  refine R_aload_n 23 c_67_22 rfl rfl ?_
  refine R_get 26 c_67_23 rfl (hw.1) rfl ?_
  refine R_aload 28 c_67_26 rfl rfl ?_
  refine R_iload_n 29 c_67_28 rfl rfl ?_
  refine R_sipush 32 c_67_29 rfl (by decide) ?_
  refine R_iconst 33 c_67_32 rfl ?_
  refine R_callV 36 c_67_33 rfl rfl rfl rfl (Nat.le_of_ble_eq_true rfl) (Nat.le_of_ble_eq_true rfl) (hp.1) (hc1) ?_
  refine R_aload_n 37 c_67_36 rfl rfl ?_
  refine R_get 40 c_67_37 rfl (o1) rfl ?_
  refine R_iload_n 41 c_67_40 rfl rfl ?_
  refine R_iload 43 c_67_41 rfl rfl ?_
  refine R_callV 46 c_67_43 rfl rfl rfl rfl (Nat.le_of_ble_eq_true rfl) (Nat.le_of_ble_eq_true rfl) (p1.1) (k_numberAt p1 hd (by unfold inR; omega) (by unfold inR; omega)) ?_
  refine R_ireturn c_67_46 rfl ?_
  refine hX _ _ ⟨⟨_, rfl, ?_⟩, wd_ps hw q1 ⟨_, _, _, _, _, _, _, _, p1⟩⟩
  unfold nat_
  rw [if_neg (by omega)]
  refine ⟨fun hm => F1.2.1 _ hi hm, fun hm => ?_⟩
  obtain ⟨q, z1, z2, z3, z4⟩ := F1.2.2.1 _ hm ⟨_, hi.2, hm, cn_rf _ _ _ _⟩
  exact ⟨q, z2, z3, z4⟩
noncomputable def psz (w h ways : Int) (mb : Int → Prop) (n : Int) : Int := fsum (fun e => ci (mb e ∧ ∃ q, fsth w ways mb q ∧ cn w ways mb q e ∧ rk w ways mb q = n)) (w * h)
theorem rk_inj {w ways : Int} {mb : Int → Prop} {a b : Int} (ha : 0 ≤ a) (hb : 0 ≤ b) (fa : fsth w ways mb a) (fb : fsth w ways mb b) (he : rk w ways mb a = rk w ways mb b) : a = b := by
  by_cases h1 : a < b
  · have := rk_lt w ways mb ha h1 fa; omega
  · by_cases h2 : b < a
    · have := rk_lt w ways mb hb h2 fb; omega
    · omega
theorem psz_at {w h ways : Int} {mb : Int → Prop} (hmb : ∀ e, mb e → inG w h e) {q : Int} (hq : fsth w ways mb q) : psz w h ways mb (rk w ways mb q) = fsum (fun e => ci (mb e ∧ cn w ways mb q e)) (w * h) := by
  refine fsum_ext (fun e e0 e1 => ci_congr ⟨?_, fun z => ⟨z.1, q, hq, z.2, rfl⟩⟩)
  rintro ⟨hm, q', f', c', r'⟩
  have := rk_inj (hmb _ f'.1).1 (hmb _ hq.1).1 f' hq r'
  subst this
  exact ⟨hm, c'⟩
theorem psz_sum {w h ways : Int} {mb : Int → Prop} (hd : 1 ≤ w ∧ w ≤ 16 ∧ 1 ≤ h ∧ h ≤ 16) (hmb : ∀ e, mb e → inG w h e) (hfs : ∀ e, mb e → ∃ q, fsth w ways mb q ∧ cn w ways mb q e) : fsum (psz w h ways mb) (rk w ways mb (w * h)) = fsum (fun e => ci (mb e)) (w * h) := by
  have ha := m_area hd.1 hd.2.1 hd.2.2.1 hd.2.2.2
  have e1 := rk_sum w ways mb (psz w h ways mb) (fun q => fsum (fun e => ci (mb e ∧ cn w ways mb q e)) (w * h)) (w * h).toNat (fun q q0 q1 q2 => psz_at hmb q2)
  have e2 := part_sum w h ways mb (w * h).toNat
  rw [show (((w * h).toNat : Nat) : Int) = w * h by omega] at e1 e2
  rw [e1, e2]
  refine fsum_ext (fun e e0 e1 => ci_congr ⟨fun z => z.1, fun hm => ⟨hm, ?_⟩⟩)
  obtain ⟨q, q2, q3⟩ := hfs e hm
  exact ⟨q, (hmb q q2.1).1, (hmb q q2.1).2, q2, q3⟩
theorem k_part0 {ways n : Int} (hw : wd H w h f) (hk : k < 4) (hways : ways = 4 ∨ ways = 8) (hn : 0 ≤ n ∧ n < npt ways 128 1 (w k) (h k) (f k)) :
    m_CP scr 68 [.ref 1, vI k, vI ways, vI n, vI 0] H (fun v1 H1 => v1 = some (vI (psz (w k) (h k) ways (mbf (w k) (h k) (f k) 128 1) n)) ∧ wd H1 w h f) := by
  obtain ⟨hsk, hvk⟩ := hw.2.2.1 k hk
  have hd := hsk.2.2.2
  have ha := m_area hd.1 hd.2.1 hd.2.2.1 hd.2.2.2
  have hb := npt_bd (ways := ways) (thr := 128) (on := 1) (f := f k) hd
  obtain ⟨fd, wc, w0, h0, nm, wt, sz, ae, hp⟩ := hw.2.2.2.2.2.2.2.1
  obtain ⟨v1, H1, hc1, rfl, q1, fd', wc', nm', wt', sz', ae', p1, F1⟩ := k_find (scr := scr) (on := 1) (thr := 128) hways hp hsk hvk (pS_off (by omega)) (pS_off (by omega)) (by omega) (.inr rfl)
  have o1 := (q1 1 (by decide)).trans hw.1
  have hfd : fd' = npt ways 128 1 (w k) (h k) (f k) := F1.1
  have es : sz' n = psz (w k) (h k) ways (mbf (w k) (h k) (f k) 128 1) n := by
    obtain ⟨q, a0, a1, a2, a3⟩ := rk_surj (w k) ways (mbf (w k) (h k) (f k) 128 1) (w k * h k).toNat n hn.1 (by rw [show (((w k * h k).toNat : Nat) : Int) = w k * h k by omega]; exact hn.2)
    have e1 := (F1.2.2.2.2 q (by omega) a2).1
    have e2 := psz_at (h := h k) (fun e he => he.1) a2
    rw [a3] at e1 e2
    rw [e1, e2]
  refine m_CP.of ?_
  show m_Ev scr 68 0 [(0, .ref 1), (1, vI k), (2, vI ways), (3, vI n), (4, vI 0)] [] H _
  refine R_aload_n 1 c_68_0 rfl rfl ?_
  refine R_iload_n 2 c_68_1 rfl rfl ?_
  refine R_callV 5 c_68_2 rfl rfl rfl rfl (Nat.le_of_ble_eq_true rfl) (Nat.le_of_ble_eq_true rfl) (hw.1) (k_sheetAt hw hk) ?_
  refine R_astore 7 c_68_5 rfl ?_
  refine R_iload_n 8 c_68_7 rfl rfl ?_
  refine R_callS 11 c_68_8 rfl rfl (Nat.le_of_ble_eq_true rfl) (k_isWaysT hways) ?_
  refine R_brz 14 28 _ (cmp_eq (by unfold inR; omega) inR_0) c_68_11 rfl rfl (fun hn => absurd hn (by omega)) (fun _ => ?_)
  refine R_iconst 15 c_68_14 rfl ?_
  refine R_iload 17 c_68_15 rfl rfl ?_
  refine R_iconst 18 c_68_17 rfl ?_
  refine R_callS 21 c_68_18 rfl rfl (Nat.le_of_ble_eq_true rfl) (k_isFromT inR_0 inR_0 (by unfold inR; omega) (by omega)) ?_
  refine R_brz 24 28 _ (cmp_eq (by unfold inR; omega) inR_0) c_68_21 rfl rfl (fun hn => absurd hn (by omega)) (fun _ => ?_)
  refine R_iconst 25 c_68_24 rfl ?_
  refine R_goto 29 c_68_25 rfl ?_
  refine R_callS 32 c_68_29 rfl rfl (Nat.le_of_ble_eq_true rfl) (k_refuse1) ?_
  refine R_aload_n 33 c_68_32 rfl rfl ?_
  refine R_get 36 c_68_33 rfl (hw.1) rfl ?_
  refine R_aload 38 c_68_36 rfl rfl ?_
  refine R_iload_n 39 c_68_38 rfl rfl ?_
  refine R_sipush 42 c_68_39 rfl (by decide) ?_
  refine R_iconst 43 c_68_42 rfl ?_
  refine R_callV 46 c_68_43 rfl rfl rfl rfl (Nat.le_of_ble_eq_true rfl) (Nat.le_of_ble_eq_true rfl) (hp.1) (hc1) ?_
  refine R_iconst 47 c_68_46 rfl ?_
  refine R_iload_n 48 c_68_47 rfl rfl ?_
  refine R_aload_n 49 c_68_48 rfl rfl ?_
  refine R_get 52 c_68_49 rfl (o1) rfl ?_
  refine R_get 55 c_68_52 rfl (p1.1) rfl ?_
  refine R_iconst 56 c_68_55 rfl ?_
  refine R_isub 57 c_68_56 rfl ?_
  refine R_callS 60 c_68_57 rfl rfl (Nat.le_of_ble_eq_true rfl) (k_isFromT inR_0 (by unfold inR; omega) (by unfold inR; omega) ⟨by omega, by omega⟩) ?_
  refine R_callS 63 c_68_60 rfl rfl (Nat.le_of_ble_eq_true rfl) (k_refuse1) ?_
  refine R_aload_n 64 c_68_63 rfl rfl ?_
  refine R_get 67 c_68_64 rfl (o1) rfl ?_
  refine R_iload_n 68 c_68_67 rfl rfl ?_
  refine R_iload 70 c_68_68 rfl rfl ?_
  refine R_callV 73 c_68_70 rfl rfl rfl rfl (Nat.le_of_ble_eq_true rfl) (Nat.le_of_ble_eq_true rfl) (p1.1) (k_factOf0 p1 ⟨by omega, by omega⟩) ?_
  refine R_ireturn c_68_73 rfl ?_
  exact ⟨by rw [es], wd_ps hw q1 ⟨_, _, _, _, _, _, _, _, p1⟩⟩
end MAIN6
