/-! the law, 744 to 853: turning and copying -/
section LAW5
variable {scr : List Int32} {H : List mC} {w h : Nat → Int} {f : Nat → Int → Int} {X : mR → Prop}
/-- SHEET 0 as it was -/
def s0 (w h : Nat → Int) (f : Nat → Int → Int) (w' h' : Nat → Int) (f' : Nat → Int → Int) : Prop := w' 0 = w 0 ∧ h' 0 = h 0 ∧ f' 0 = f 0
theorem s0.tr {w h w' h' w2 h2 : Nat → Int} {f f' f2 : Nat → Int → Int} (a : s0 w h f w' h' f') (b : s0 w' h' f' w2 h2 f2) : s0 w h f w2 h2 f2 := ⟨b.1.trans a.1, b.2.1.trans a.2.1, b.2.2.trans a.2.2⟩
theorem s0_nu {k : Nat} (hk : k ≠ 0) (wn hn : Int) (fn : Int → Int) : s0 w h f (m_nu w k wn) (m_nu h k hn) (m_nu f k fn) := ⟨m_nu_ne _ _ (Ne.symm hk), m_nu_ne _ _ (Ne.symm hk), m_nu_ne _ _ (Ne.symm hk)⟩
theorem T_turn {how : Int} (W : Wd H w h f) (hh : 0 ≤ how ∧ how ≤ 3) (hb : how = 3 → w 1 ≤ 8 ∧ h 1 ≤ 8) :
    ∃ H' w' h' f', m_Cl scr 57 [.ref 1, vI 1, vI how] H (some (vI (tsd (w 1) (h 1) how * tsd (h 1) (w 1) how))) H' ∧ Wd H' w' h' f' ∧ s0 w h f w' h' f' ∧ w' 1 = tsd (w 1) (h 1) how ∧ h' 1 = tsd (h 1) (w 1) how ∧
      ∀ x y, 0 ≤ x → x < tsd (w 1) (h 1) how → 0 ≤ y → y < tsd (h 1) (w 1) how → f' 1 (y * tsd (w 1) (h 1) how + x) = tvl (w 1) (h 1) (f 1) how x y := by
  obtain ⟨_, H1, c1, ⟨rfl, fn, w1, q1⟩, z1⟩ := m_szP (x := 57) (by decide) W.2 (k_turn (scr := scr) (k := 1) W.1 (by decide) hh hb)
  refine ⟨H1, _, _, _, c1, ⟨w1, z1⟩, s0_nu (by decide) _ _ _, m_nu_at _ _ _, m_nu_at _ _ _, ?_⟩
  rw [m_nu_at]
  exact q1
theorem T_copy {k k2 : Nat} (W : Wd H w h f) (hk : k < 4) (hk2 : k2 < 4) (hne : k ≠ k2) :
    ∃ H' w' h' f', m_Cl scr 56 [.ref 1, vI k, vI k2] H (some (vI (if w k2 = w k ∧ h k2 = h k then fsum (fdif (f k2) (f k)) (w k * h k) else -1))) H' ∧ Wd H' w' h' f' ∧ (∀ j, j ≠ k2 → w' j = w j ∧ h' j = h j ∧ f' j = f j) ∧ w' k2 = w k ∧ h' k2 = h k ∧ ∀ e, 0 ≤ e → e < w k * h k → f' k2 e = f k e := by
  obtain ⟨_, H1, c1, ⟨rfl, fn, w1, q1⟩, z1⟩ := m_szP (x := 56) (by decide) W.2 (k_copy (scr := scr) W.1 hk hk2 hne)
  refine ⟨H1, _, _, _, c1, ⟨w1, z1⟩, fun j hj => ⟨m_nu_ne _ _ hj, m_nu_ne _ _ hj, m_nu_ne _ _ hj⟩, m_nu_at _ _ _, m_nu_at _ _ _, ?_⟩
  rw [m_nu_at]
  exact q1
/-- a quarter turn -/
theorem T_turn0 (W : Wd H w h f) (hd : 1 ≤ w 1 ∧ w 1 ≤ 8 ∧ 1 ≤ h 1 ∧ h 1 ≤ 8) :
    ∃ H' w' h' f', m_Cl scr 57 [.ref 1, vI 1, vI 0] H (some (vI (w 1 * h 1))) H' ∧ Wd H' w' h' f' ∧ s0 w h f w' h' f' ∧ w' 1 = h 1 ∧ h' 1 = w 1 ∧
      ∀ x y, 0 ≤ x → x < h 1 → 0 ≤ y → y < w 1 → f' 1 (y * h 1 + x) = f 1 ((h 1 - 1 - x) * w 1 + y) := by
  obtain ⟨H', w', h', f', c, W', s, a, b, q⟩ := T_turn (scr := scr) (how := 0) W (by decide) (fun z => by omega)
  change m_Cl scr 57 [.ref 1, vI 1, vI 0] H (some (vI (h 1 * w 1))) H' at c
  rw [Int.mul_comm] at c
  refine ⟨H', w', h', f', c, W', s, a, b, fun x y x0 x1 y0 y1 => ?_⟩
  refine (q x y x0 x1 y0 y1).trans ?_
  show fnear (w 1) (h 1) (f 1) y (h 1 - 1 - x) = _
  rw [fnear_in ⟨y0, y1⟩ (by omega)]
theorem T_turn1 (W : Wd H w h f) (hd : 1 ≤ w 1 ∧ w 1 ≤ 8 ∧ 1 ≤ h 1 ∧ h 1 ≤ 8) :
    ∃ H' w' h' f', m_Cl scr 57 [.ref 1, vI 1, vI 1] H (some (vI (w 1 * h 1))) H' ∧ Wd H' w' h' f' ∧ s0 w h f w' h' f' ∧ w' 1 = w 1 ∧ h' 1 = h 1 ∧
      ∀ x y, 0 ≤ x → x < w 1 → 0 ≤ y → y < h 1 → f' 1 (y * w 1 + x) = f 1 (y * w 1 + (w 1 - 1 - x)) := by
  obtain ⟨H', w', h', f', c, W', s, a, b, q⟩ := T_turn (scr := scr) (how := 1) W (by decide) (fun z => by omega)
  refine ⟨H', w', h', f', c, W', s, a, b, fun x y x0 x1 y0 y1 => ?_⟩
  refine (q x y x0 x1 y0 y1).trans ?_
  show fnear (w 1) (h 1) (f 1) (w 1 - 1 - x) y = _
  rw [fnear_in (by omega) ⟨y0, y1⟩]
theorem T_turn3 (W : Wd H w h f) (hd : 1 ≤ w 1 ∧ w 1 ≤ 8 ∧ 1 ≤ h 1 ∧ h 1 ≤ 8) :
    ∃ H' w' h' f', m_Cl scr 57 [.ref 1, vI 1, vI 3] H (some (vI (4 * (w 1 * h 1)))) H' ∧ Wd H' w' h' f' ∧ s0 w h f w' h' f' ∧ w' 1 = w 1 * 2 ∧ h' 1 = h 1 * 2 ∧
      ∀ x y, 0 ≤ x → x < w 1 * 2 → 0 ≤ y → y < h 1 * 2 → f' 1 (y * (w 1 * 2) + x) = f 1 (y / 2 * w 1 + x / 2) := by
  obtain ⟨H', w', h', f', c, W', s, a, b, q⟩ := T_turn (scr := scr) (how := 3) W (by decide) (fun z => by omega)
  change m_Cl scr 57 [.ref 1, vI 1, vI 3] H (some (vI (w 1 * 2 * (h 1 * 2)))) H' at c
  rw [show w 1 * 2 * (h 1 * 2) = 4 * (w 1 * h 1) by rw [Int.mul_assoc, Int.mul_left_comm 2, ← Int.mul_assoc]; omega] at c
  refine ⟨H', w', h', f', c, W', s, a, b, fun x y x0 x1 y0 y1 => ?_⟩
  refine (q x y x0 x1 y0 y1).trans ?_
  show fnear (w 1) (h 1) (f 1) (x / 2) (y / 2) = _
  rw [fnear_in (by omega) (by omega)]
theorem T_turn2 {a b : Int} (W : Wd H w h f) (hd : 1 ≤ a ∧ a ≤ 8 ∧ 1 ≤ b ∧ b ≤ 8) (hw : w 1 = a * 2) (hh : h 1 = b * 2) :
    ∃ H' w' h' f', m_Cl scr 57 [.ref 1, vI 1, vI 2] H (some (vI (a * b))) H' ∧ Wd H' w' h' f' ∧ s0 w h f w' h' f' ∧ w' 1 = a ∧ h' 1 = b ∧
      ∀ x y, 0 ≤ x → x < a → 0 ≤ y → y < b → f' 1 (y * a + x) = (f 1 (2 * y * (a * 2) + 2 * x) + f 1 (2 * y * (a * 2) + (2 * x + 1)) + f 1 ((2 * y + 1) * (a * 2) + 2 * x) + f 1 ((2 * y + 1) * (a * 2) + (2 * x + 1))) / 4 := by
  obtain ⟨H', w', h', f', c, W', s, p, q0, q⟩ := T_turn (scr := scr) (how := 2) W (by decide) (fun z => by omega)
  have e1 : tsd (w 1) (h 1) 2 = a := by
    show max 1 (w 1 / 2) = a
    omega
  have e2 : tsd (h 1) (w 1) 2 = b := by
    show max 1 (h 1 / 2) = b
    omega
  rw [e1, e2] at c q
  rw [e1] at p
  rw [e2] at q0
  refine ⟨H', w', h', f', c, W', s, p, q0, fun x y x0 x1 y0 y1 => ?_⟩
  refine (q x y x0 x1 y0 y1).trans ?_
  show (fnear (w 1) (h 1) (f 1) (2 * x) (2 * y) + fnear (w 1) (h 1) (f 1) (2 * x + 1) (2 * y) + fnear (w 1) (h 1) (f 1) (2 * x) (2 * y + 1) + fnear (w 1) (h 1) (f 1) (2 * x + 1) (2 * y + 1)) / 4 = _
  rw [fnear_in (by omega) (by omega), fnear_in (by omega) (by omega), fnear_in (by omega) (by omega), fnear_in (by omega) (by omega), hw]
theorem it0 {F a b i : Int} {H H1 : List mC} (hi : 0 ≤ i ∧ i < 4) (hF : 0 ≤ F ∧ F ≤ 64) (ho : m_O H) (c : m_Cl scr 57 [.ref 1, vI 1, vI 0] H (some (vI F)) H1) (k : m_Ev scr 102 754 [(0, .ref 0), (1, .ref 1), (2, vI a), (3, vI b), (4, vI F), (9, vI (i + 1))] [] H1 X) :
    m_Ev scr 102 754 [(0, .ref 0), (1, .ref 1), (2, vI a), (3, vI b), (4, vI F), (9, vI i)] [] H X := by
  refine R_iload 756 c_102_754 rfl rfl ?_
  refine R_iconst 757 c_102_756 rfl ?_
  refine R_br 760 779 _ (cmp_ge (by unfold inR; omega) (by unfold inR; omega)) c_102_757 rfl rfl (fun hn => absurd hn (by omega)) (fun _ => ?_)
  refine R_aload_n 761 c_102_760 rfl rfl ?_
  refine R_iconst 762 c_102_761 rfl ?_
  refine R_iconst 763 c_102_762 rfl ?_
  refine R_callV 766 c_102_763 rfl rfl rfl rfl (Nat.le_of_ble_eq_true rfl) (Nat.le_of_ble_eq_true rfl) (ho) (c) ?_
  refine R_iload 768 c_102_766 rfl rfl ?_
  refine R_br 771 773 _ (cmp_eq (by unfold inR; omega) (by unfold inR; omega)) c_102_768 rfl rfl (fun _ => ?_) (fun hn => absurd (by omega) hn)
  refine R_iinc 776 c_102_773 rfl rfl ?_
  refine R_goto 754 c_102_776 rfl ?_
  exact k
theorem it1 {F a b i : Int} {H H1 : List mC} (hi : 0 ≤ i ∧ i < 2) (hF : 0 ≤ F ∧ F ≤ 64) (ho : m_O H) (c : m_Cl scr 57 [.ref 1, vI 1, vI 1] H (some (vI F)) H1) (k : m_Ev scr 102 782 [(0, .ref 0), (1, .ref 1), (2, vI a), (3, vI b), (4, vI F), (9, vI (i + 1))] [] H1 X) :
    m_Ev scr 102 782 [(0, .ref 0), (1, .ref 1), (2, vI a), (3, vI b), (4, vI F), (9, vI i)] [] H X := by
  refine R_iload 784 c_102_782 rfl rfl ?_
  refine R_iconst 785 c_102_784 rfl ?_
  refine R_br 788 807 _ (cmp_ge (by unfold inR; omega) (by unfold inR; omega)) c_102_785 rfl rfl (fun hn => absurd hn (by omega)) (fun _ => ?_)
  refine R_aload_n 789 c_102_788 rfl rfl ?_
  refine R_iconst 790 c_102_789 rfl ?_
  refine R_iconst 791 c_102_790 rfl ?_
  refine R_callV 794 c_102_791 rfl rfl rfl rfl (Nat.le_of_ble_eq_true rfl) (Nat.le_of_ble_eq_true rfl) (ho) (c) ?_
  refine R_iload 796 c_102_794 rfl rfl ?_
  refine R_br 799 801 _ (cmp_eq (by unfold inR; omega) (by unfold inR; omega)) c_102_796 rfl rfl (fun _ => ?_) (fun hn => absurd (by omega) hn)
  refine R_iinc 804 c_102_801 rfl rfl ?_
  refine R_goto 782 c_102_804 rfl ?_
  exact k
theorem it2 {F a b : Int} {H H1 H2 H3 : List mC} (hF : 0 ≤ F ∧ F ≤ 64) (ho : m_O H) (ho1 : m_O H1) (ho2 : m_O H2) (cd : m_Cl scr 64 [.ref 1, vI 0, vI 1] H (some (.double 0)) H) (c1 : m_Cl scr 57 [.ref 1, vI 1, vI 3] H (some (vI (4 * F))) H1) (c2 : m_Cl scr 57 [.ref 1, vI 1, vI 2] H1 (some (vI F)) H2) (c3 : m_Cl scr 56 [.ref 1, vI 1, vI 0] H2 (some (vI 0)) H3) (k : m_Ev scr 102 853 [(0, .ref 0), (1, .ref 1), (2, vI a), (3, vI b), (4, vI F)] [] H3 X) :
    m_Ev scr 102 782 [(0, .ref 0), (1, .ref 1), (2, vI a), (3, vI b), (4, vI F), (9, vI 2)] [] H X := by
  refine R_iload 784 c_102_782 rfl rfl ?_
  refine R_iconst 785 c_102_784 rfl ?_
  refine R_br 788 807 _ (cmp_ge (by unfold inR; omega) (by unfold inR; omega)) c_102_785 rfl rfl (fun _ => ?_) (fun hn => absurd (by omega) hn)
  refine R_aload_n 808 c_102_807 rfl rfl ?_
  refine R_iconst 809 c_102_808 rfl ?_
  refine R_iconst 810 c_102_809 rfl ?_
  refine R_callV 813 c_102_810 rfl rfl rfl rfl (Nat.le_of_ble_eq_true rfl) (Nat.le_of_ble_eq_true rfl) (ho) (cd) ?_
  refine R_dconst 814 c_102_813 rfl ?_
  refine R_dcmp 815 c_102_814 rfl ?_
  rw [m_dc0]
  refine R_brz 818 851 _ (cmp_ne (by unfold inR; omega) inR_0) c_102_815 rfl rfl (fun hn => absurd hn (by omega)) (fun _ => ?_)
  refine R_aload_n 819 c_102_818 rfl rfl ?_
  refine R_iconst 820 c_102_819 rfl ?_
  refine R_iconst 821 c_102_820 rfl ?_
  refine R_callV 824 c_102_821 rfl rfl rfl rfl (Nat.le_of_ble_eq_true rfl) (Nat.le_of_ble_eq_true rfl) (ho) (c1) ?_
  refine R_iconst 825 c_102_824 rfl ?_
  refine R_iload 827 c_102_825 rfl rfl ?_
  refine R_imul 828 c_102_827 rfl ?_
  refine R_br 831 851 _ (cmp_ne (by unfold inR; omega) (by unfold inR; omega)) c_102_828 rfl rfl (fun hn => absurd hn (by omega)) (fun _ => ?_)
  show m_Ev scr 102 831 [(0, .ref 0), (1, .ref 1), (2, vI a), (3, vI b), (4, vI F), (9, vI 2)] [] H1 X
  refine R_aload_n 832 c_102_831 rfl rfl ?_
  refine R_iconst 833 c_102_832 rfl ?_
  refine R_iconst 834 c_102_833 rfl ?_
  refine R_callV 837 c_102_834 rfl rfl rfl rfl (Nat.le_of_ble_eq_true rfl) (Nat.le_of_ble_eq_true rfl) (ho1) (c2) ?_
  refine R_iload 839 c_102_837 rfl rfl ?_
  refine R_br 842 851 _ (cmp_ne (by unfold inR; omega) (by unfold inR; omega)) c_102_839 rfl rfl (fun hn => absurd hn (by omega)) (fun _ => ?_)
  show m_Ev scr 102 842 [(0, .ref 0), (1, .ref 1), (2, vI a), (3, vI b), (4, vI F), (9, vI 2)] [] H2 X
  refine R_aload_n 843 c_102_842 rfl rfl ?_
  refine R_iconst 844 c_102_843 rfl ?_
  refine R_iconst 845 c_102_844 rfl ?_
  refine R_callV 848 c_102_845 rfl rfl rfl rfl (Nat.le_of_ble_eq_true rfl) (Nat.le_of_ble_eq_true rfl) (ho2) (c3) ?_
  refine R_brz 851 853 _ (cmp_eq (by unfold inR; omega) inR_0) c_102_848 rfl rfl (fun _ => ?_) (fun hn => absurd (by omega) hn)
  refine m_keep [0, 1, 2, 3, 4] (by rfl) ?_
  exact k
end LAW5
section LAW5B
variable {scr : List Int32} {H : List mC} {w h : Nat → Int} {f : Nat → Int → Int} {X : mR → Prop}
set_option maxHeartbeats 8000000 in
theorem L_turns (W : Wd H w h f) (hd : 1 ≤ w 0 ∧ w 0 ≤ 8 ∧ 1 ≤ h 0 ∧ h 0 ≤ 8)
    (K : ∀ H w' h' f', Wd H w' h' f' → w' 0 = w 0 → h' 0 = h 0 → m_Ev scr 102 853 [(0, .ref 0), (1, .ref 1), (2, vI (w 0)), (3, vI (h 0)), (4, vI (w 0 * h 0))] [] H X) :
    m_Ev scr 102 744 [(0, .ref 0), (1, .ref 1), (2, vI (w 0)), (3, vI (h 0)), (4, vI (w 0 * h 0))] [] H X := by
  have ha := area8 hd
  have hf := (W.1.2.2.1 0 (by decide)).2
  obtain ⟨G0, w0, h0, f0, c0, W0, s0', p0, r0, q0⟩ := T_copy (scr := scr) (k := 0) (k2 := 1) W (by decide) (by decide) (by decide)
  have S0 : s0 w h f w0 h0 f0 := s0' 0 (by decide)
  obtain ⟨G1, w1, h1, f1, c1, W1, S1, p1, r1, q1⟩ := T_turn0 (scr := scr) W0 (by omega)
  obtain ⟨G2, w2, h2, f2, c2, W2, S2, p2, r2, q2⟩ := T_turn0 (scr := scr) W1 (by omega)
  obtain ⟨G3, w3, h3, f3, c3, W3, S3, p3, r3, q3⟩ := T_turn0 (scr := scr) W2 (by omega)
  obtain ⟨G4, w4, h4, f4, c4, W4, S4, p4, r4, q4⟩ := T_turn0 (scr := scr) W3 (by omega)
  obtain ⟨G5, w5, h5, f5, c5, W5, S5, p5, r5, q5⟩ := T_turn1 (scr := scr) W4 (by omega)
  obtain ⟨G6, w6, h6, f6, c6, W6, S6, p6, r6, q6⟩ := T_turn1 (scr := scr) W5 (by omega)
  have S06 := S0.tr (S1.tr (S2.tr (S3.tr (S4.tr (S5.tr S6)))))
  have u1 : w1 1 = h 0 := p1.trans r0
  have v1 : h1 1 = w 0 := r1.trans p0
  have u2 : w2 1 = w 0 := p2.trans v1
  have v2 : h2 1 = h 0 := r2.trans u1
  have u3 : w3 1 = h 0 := p3.trans v2
  have v3 : h3 1 = w 0 := r3.trans u2
  have u4 : w4 1 = w 0 := p4.trans v3
  have v4 : h4 1 = h 0 := r4.trans u3
  have u5 : w5 1 = w 0 := p5.trans u4
  have v5 : h5 1 = h 0 := r5.trans v4
  have u6 : w6 1 = w 0 := p6.trans u5
  have v6 : h6 1 = h 0 := r6.trans v5
  rw [p0, r0] at q1 c1
  rw [u1, v1] at q2 c2
  rw [u2, v2] at q3 c3
  rw [u3, v3] at q4 c4
  rw [u4, v4] at q5 c5
  rw [u5, v5] at q6 c6
  rw [Int.mul_comm (h 0) (w 0)] at c2 c4
  have hfull : ∀ x y, 0 ≤ x → x < w 0 → 0 ≤ y → y < h 0 → f6 1 (y * w 0 + x) = f 0 (y * w 0 + x) := by
    intro x y x0 x1 y0 y1
    have hi := m_idx x0 x1 y0 y1
    rw [q6 x y x0 x1 y0 y1, q5 (w 0 - 1 - x) y (by omega) (by omega) y0 y1, show w 0 - 1 - (w 0 - 1 - x) = x by omega,
      q4 x y x0 x1 y0 y1, q3 y (w 0 - 1 - x) y0 y1 (by omega) (by omega), q2 (w 0 - 1 - x) (h 0 - 1 - y) (by omega) (by omega) (by omega) (by omega),
      show w 0 - 1 - (w 0 - 1 - x) = x by omega, q1 (h 0 - 1 - y) x (by omega) (by omega) x0 x1, show h 0 - 1 - (h 0 - 1 - y) = y by omega, q0 _ hi.1 hi.2]
  have hsame : ∀ e, 0 ≤ e → e < w 0 * h 0 → f6 1 e = f 0 e := by
    intro e e0 e1
    have g := inG_xy hd.1 ⟨e0, e1⟩
    have := hfull _ _ g.1 g.2.1 g.2.2.1 g.2.2.2.1
    rwa [g.2.2.2.2] at this
  have cd := k_difference (scr := scr) (k := 0) (k2 := 1) W6.1 (by decide) (by decide) (S06.1.trans u6.symm) (S06.2.1.trans v6.symm) (by
    rw [S06.1, S06.2.1, S06.2.2]
    exact fun e e0 e1 => (hsame e e0 e1).symm)
  obtain ⟨G7, w7, h7, f7, c7, W7, S7, p7, r7, q7⟩ := T_turn3 (scr := scr) W6 (by omega)
  rw [u6, v6] at c7 q7 
  obtain ⟨G8, w8, h8, f8, c8, W8, S8, p8, r8, q8⟩ := T_turn2 (scr := scr) (a := w 0) (b := h 0) W7 hd (p7.trans (by rw [u6])) (r7.trans (by rw [v6]))
  have S08 := S06.tr (S7.tr S8)
  have hsame8 : ∀ e, 0 ≤ e → e < w 0 * h 0 → f8 1 e = f 0 e := by
    intro e e0 e1
    have g := inG_xy hd.1 ⟨e0, e1⟩
    have t := q8 _ _ g.1 g.2.1 g.2.2.1 g.2.2.2.1
    rw [g.2.2.2.2] at t
    generalize e % w 0 = x at g t
    generalize e / w 0 = y at g t
    rw [q7 _ _ (by omega) (by omega) (by omega) (by omega), q7 _ _ (by omega) (by omega) (by omega) (by omega), q7 _ _ (by omega) (by omega) (by omega) (by omega), q7 _ _ (by omega) (by omega) (by omega) (by omega)] at t
    rw [show 2 * y / 2 = y by omega, show (2 * y + 1) / 2 = y by omega, show 2 * x / 2 = x by omega, show (2 * x + 1) / 2 = x by omega, g.2.2.2.2, hsame e e0 e1] at t
    omega
  obtain ⟨G9, w9, h9, f9, c9, W9, S9, p9, r9, q9⟩ := T_copy (scr := scr) (k := 1) (k2 := 0) W8 (by decide) (by decide) (by decide)
  rw [if_pos ⟨S08.1.trans p8.symm, S08.2.1.trans r8.symm⟩, p8, r8, S08.2.2] at c9
  have hz : fsum (fdif (f 0) (f8 1)) (w 0 * h 0) = 0 := fsum_0s (by omega) (by omega) (fun e e0 e1 => by unfold fdif; rw [if_pos (hsame8 e e0 e1).symm])
  rw [hz] at c9
  have hA : 0 ≤ w 0 * h 0 ∧ w 0 * h 0 ≤ 64 := by omega
  have k9 := K _ _ _ _ W9 (p9.trans p8) (r9.trans r8)
  have o0 : m_O H := W.1.1
  have o00 : m_O G0 := W0.1.1
  have o1 : m_O G1 := W1.1.1
  have o2 : m_O G2 := W2.1.1
  have o3 : m_O G3 := W3.1.1
  have o4 : m_O G4 := W4.1.1
  have o5 : m_O G5 := W5.1.1
  have o6 : m_O G6 := W6.1.1
  have o7 : m_O G7 := W7.1.1
  have o8 : m_O G8 := W8.1.1
  clear hsame hsame8 hfull W W0 W1 W2 W3 W4 W5 W6 W7 W8 W9 hz hf K q0 q1 q2 q3 q4 q5 q6 q7 q8 q9
  have k6 := it2 hA o6 o7 o8 cd c7 c8 c9 k9
  have k5 := it1 (i := 1) (by decide) hA o5 c6 k6
  have k4 := it1 (i := 0) (by decide) hA o4 c5 k5
  have k34 : m_Ev scr 102 754 [(0, .ref 0), (1, .ref 1), (2, vI (w 0)), (3, vI (h 0)), (4, vI (w 0 * h 0)), (9, vI (3 + 1))] [] G4 X := by
    refine R_iload 756 c_102_754 rfl rfl ?_
    refine R_iconst 757 c_102_756 rfl ?_
    refine R_br 760 779 _ (cmp_ge (by unfold inR; omega) (by unfold inR; omega)) c_102_757 rfl rfl (fun _ => ?_) (fun hn => absurd (by omega) hn)
    refine R_iconst 780 c_102_779 rfl ?_
    refine R_istore 782 c_102_780 rfl ?_
    exact k4
  have k3 := it0 (i := 3) (by decide) hA o3 c4 k34
  have k2 := it0 (i := 2) (by decide) hA o2 c3 k3
  have k1 := it0 (i := 1) (by decide) hA o1 c2 k2
  have k0 := it0 (i := 0) (by decide) hA o00 c1 k1
  refine R_aload_n 745 c_102_744 rfl rfl ?_
  refine R_iconst 746 c_102_745 rfl ?_
  refine R_iconst 747 c_102_746 rfl ?_
  refine R_callV 750 c_102_747 rfl rfl rfl rfl (Nat.le_of_ble_eq_true rfl) (Nat.le_of_ble_eq_true rfl) (o0) (c0) ?_
  refine R_pop 751 c_102_750 rfl rfl ?_
  refine R_iconst 752 c_102_751 rfl ?_
  refine R_istore 754 c_102_752 rfl ?_
  exact k0
end LAW5B
/-! the law, 853 to 1068: filters -/
section LAW6
variable {scr : List Int32} {H : List mC} {w h : Nat → Int} {f : Nat → Int → Int} {X : mR → Prop}
theorem T_filter {k : Nat} {how : Int} (W : Wd H w h f) (hk : k < 4) (hh : 3 ≤ how ∧ how ≤ 8) :
    ∃ H' f', m_Cl scr 58 [.ref 1, vI k, vI how] H (some (vI (fsum (fdif (f k) (frun how (w k) (h k) (f k))) (w k * h k)))) H' ∧ Wd H' w h f' ∧ (∀ j, j ≠ k → f' j = f j) ∧ ∀ e, 0 ≤ e → e < w k * h k → f' k e = frun how (w k) (h k) (f k) e := by
  obtain ⟨_, H1, c1, ⟨rfl, fn, w1, q1⟩, z1⟩ := m_szP (x := 58) (by decide) W.2 (k_filter (scr := scr) W.1 hk hh)
  refine ⟨H1, _, c1, ⟨w1, z1⟩, fun j hj => m_nu_ne _ _ hj, ?_⟩
  rw [m_nu_at]
  exact q1
theorem vok_vG {a b : Int} {g : Int → Int} (hd : 1 ≤ a ∧ a ≤ 8 ∧ 1 ≤ b ∧ b ≤ 8) (hg : vok g) : vG a b g := fun e he => hg e he.1 (by have := area8 hd; have := he.2; omega)
theorem sum_bd {a b : Int} {g : Int → Int} (hd : 1 ≤ a ∧ a ≤ 8 ∧ 1 ≤ b ∧ b ≤ 8) (hg : vok g) : 0 ≤ fsum g (a * b) ∧ fsum g (a * b) ≤ 16320 := by
  have ha := area8 hd
  have := fsum_bd (f := g) (lo := 0) (hi := 255) hg (a * b) (by omega) (by omega)
  omega
theorem T_ssum {k : Nat} {F : Int} (W : Wd H w h f) (hk : k < 4) (hF : w k * h k = F) : ∃ H1, m_Cl scr 61 [.ref 1, vI k, vI 4] H (some (vI (fsum (f k) F))) H1 ∧ Wd H1 w h f := by
  subst hF
  exact ask (by decide) W (k_sheet (scr := scr) (k := k) (what := 4) W.1 hk (by decide))
set_option maxHeartbeats 4000000 in
theorem it3 {how : Int} (hh : how = 7 ∨ how = 8) (W : Wd H w h f) (hd : 1 ≤ w 0 ∧ w 0 ≤ 8 ∧ 1 ≤ h 0 ∧ h 0 ≤ 8)
    (K : ∀ H' w' h' f', Wd H' w' h' f' → w' 0 = w 0 → h' 0 = h 0 → f' 0 = f 0 → m_Ev scr 102 857 [(0, .ref 0), (1, .ref 1), (2, vI (w 0)), (3, vI (h 0)), (4, vI (w 0 * h 0)), (9, vI (how + 1))] [] H' X) :
    m_Ev scr 102 857 [(0, .ref 0), (1, .ref 1), (2, vI (w 0)), (3, vI (h 0)), (4, vI (w 0 * h 0)), (9, vI how)] [] H X := by
  have hd16 := dim16 hd
  have ha := area8 hd
  have hf := (W.1.2.2.1 0 (by decide)).2
  have hfG := vok_vG hd hf
  obtain ⟨G0, w0, h0, f0, c0, W0, s0', p0, r0, q0⟩ := T_copy (scr := scr) (k := 0) (k2 := 1) W (by decide) (by decide) (by decide)
  obtain ⟨u0, v0, g0⟩ := s0' 0 (by decide)
  obtain ⟨G1, f1, c1, W1, s1, q1⟩ := T_filter (scr := scr) (k := 1) (how := how) W0 (by decide) (by omega)
  obtain ⟨G2, f2, c2, W2, s2, q2⟩ := T_filter (scr := scr) (k := 1) (how := how) W1 (by decide) (by omega)
  rw [p0, r0] at q1 q2 c1 c2
  have r01 : frun how (w 0) (h 0) (f0 1) = frun how (w 0) (h 0) (f 0) := run_congr hd16 q0
  rw [r01] at q1
  have r12 : frun how (w 0) (h 0) (f1 1) = frun how (w 0) (h 0) (frun how (w 0) (h 0) (f 0)) := run_congr hd16 q1
  have tw : ∀ e, 0 ≤ e → e < w 0 * h 0 → frun how (w 0) (h 0) (f1 1) e = f1 1 e := fun e e0 e1 => by
    rw [r12, q1 e e0 e1]
    rcases hh with rfl | rfl
    · exact run7_twice hd16 hfG ⟨e0, e1⟩
    · exact run8_twice hd16 hfG ⟨e0, e1⟩
  have hz : fsum (fdif (f1 1) (frun how (w 0) (h 0) (f1 1))) (w 0 * h 0) = 0 := fsum_0s (by omega) (by omega) (fun e e0 e1 => by unfold fdif; rw [if_pos (tw e e0 e1).symm])
  rw [hz] at c2
  have g2 : f2 0 = f 0 := ((s2 0 (by decide)).trans (s1 0 (by decide))).trans g0
  have e2 : ∀ e, 0 ≤ e → e < w 0 * h 0 → f2 1 e = frun how (w 0) (h 0) (f 0) e := fun e e0 e1 => by rw [q2 e e0 e1, tw e e0 e1, q1 e e0 e1]
  have hrel : (how = 7 → fsum (f2 1) (w 0 * h 0) ≤ fsum (f 0) (w 0 * h 0)) ∧ (how = 8 → fsum (f 0) (w 0 * h 0) ≤ fsum (f2 1) (w 0 * h 0)) := by
    refine ⟨fun h7 => fsum_mono (fun e e0 e1 => ?_), fun h8 => fsum_mono (fun e e0 e1 => ?_)⟩
    · rw [e2 e e0 e1, h7]; exact open_le hd16 hfG ⟨e0, e1⟩
    · rw [e2 e e0 e1, h8]; exact close_ge hd16 hfG ⟨e0, e1⟩
  obtain ⟨G3, c3, W3⟩ := T_ssum (scr := scr) (k := 1) (F := w 0 * h 0) W2 (by decide) (by rw [p0, r0])
  obtain ⟨G4, c4, W4⟩ := T_ssum (scr := scr) (k := 0) (F := w 0 * h 0) W3 (by decide) (by rw [u0, v0])
  obtain ⟨G5, c5, W5⟩ := T_ssum (scr := scr) (k := 1) (F := w 0 * h 0) W4 (by decide) (by rw [p0, r0])
  obtain ⟨G6, c6, W6⟩ := T_ssum (scr := scr) (k := 0) (F := w 0 * h 0) W5 (by decide) (by rw [u0, v0])
  rw [g2] at c4 c6
  have b1 := sum_bd hd (W2.1.2.2.1 1 (by decide)).2
  have b0 := sum_bd hd hf
  have k4 := K G4 w0 h0 f2 W4 u0 v0 g2
  have k6 := K G6 w0 h0 f2 W6 u0 v0 g2
  have o := W.1.1
  have o0 := W0.1.1
  have o1 := W1.1.1
  have o2 := W2.1.1
  have o3 := W3.1.1
  have o4 := W4.1.1
  have o5 := W5.1.1
  clear K W W0 W1 W2 W3 W4 W5 W6 tw hz r01 r12 q0 q1 q2 e2
  generalize fsum (f2 1) (w 0 * h 0) = A at *
  generalize fsum (f 0) (w 0 * h 0) = B at *
  refine R_iload 859 c_102_857 rfl rfl ?_
  refine R_bipush 861 c_102_859 rfl (by decide) ?_
  refine R_br 864 947 _ (cmp_ge (by unfold inR; omega) (by unfold inR; omega)) c_102_861 rfl rfl (fun hn => absurd hn (by omega)) (fun _ => ?_)
  refine R_aload_n 865 c_102_864 rfl rfl ?_
  refine R_iconst 866 c_102_865 rfl ?_
  refine R_iconst 867 c_102_866 rfl ?_
  refine R_callV 870 c_102_867 rfl rfl rfl rfl (Nat.le_of_ble_eq_true rfl) (Nat.le_of_ble_eq_true rfl) (o) (c0) ?_
  refine R_pop 871 c_102_870 rfl rfl ?_
  show m_Ev scr 102 871 [(0, .ref 0), (1, .ref 1), (2, vI (w 0)), (3, vI (h 0)), (4, vI (w 0 * h 0)), (9, vI how)] [] G0 X
  refine R_aload_n 872 c_102_871 rfl rfl ?_
  refine R_iconst 873 c_102_872 rfl ?_
  refine R_iload 875 c_102_873 rfl rfl ?_
  refine R_callV 878 c_102_875 rfl rfl rfl rfl (Nat.le_of_ble_eq_true rfl) (Nat.le_of_ble_eq_true rfl) (o0) (c1) ?_
  refine R_pop 879 c_102_878 rfl rfl ?_
  show m_Ev scr 102 879 [(0, .ref 0), (1, .ref 1), (2, vI (w 0)), (3, vI (h 0)), (4, vI (w 0 * h 0)), (9, vI how)] [] G1 X
  refine R_aload_n 880 c_102_879 rfl rfl ?_
  refine R_iconst 881 c_102_880 rfl ?_
  refine R_iload 883 c_102_881 rfl rfl ?_
  refine R_callV 886 c_102_883 rfl rfl rfl rfl (Nat.le_of_ble_eq_true rfl) (Nat.le_of_ble_eq_true rfl) (o1) (c2) ?_
  refine R_brz 889 939 _ (cmp_ne (by unfold inR; omega) inR_0) c_102_886 rfl rfl (fun hn => absurd hn (by omega)) (fun _ => ?_)
  show m_Ev scr 102 889 [(0, .ref 0), (1, .ref 1), (2, vI (w 0)), (3, vI (h 0)), (4, vI (w 0 * h 0)), (9, vI how)] [] G2 X
  refine R_iload 891 c_102_889 rfl rfl ?_
  refine R_bipush 893 c_102_891 rfl (by decide) ?_
  rcases hh with rfl | rfl
  · refine R_br 896 900 _ (cmp_ne (by unfold inR; omega) (by unfold inR; omega)) c_102_893 rfl rfl (fun hn => absurd hn (by omega)) (fun _ => ?_)
    refine R_iconst 897 c_102_896 rfl ?_
    refine R_goto 901 c_102_897 rfl ?_
    refine R_aload_n 902 c_102_901 rfl rfl ?_
    refine R_iconst 903 c_102_902 rfl ?_
    refine R_iconst 904 c_102_903 rfl ?_
    refine R_callV 907 c_102_904 rfl rfl rfl rfl (Nat.le_of_ble_eq_true rfl) (Nat.le_of_ble_eq_true rfl) (o2) (c3) ?_
    refine R_aload_n 908 c_102_907 rfl rfl ?_
    refine R_iconst 909 c_102_908 rfl ?_
    refine R_iconst 910 c_102_909 rfl ?_
    refine R_callV 913 c_102_910 rfl rfl rfl rfl (Nat.le_of_ble_eq_true rfl) (Nat.le_of_ble_eq_true rfl) (o3) (c4) ?_
    refine R_br 916 920 _ (cmp_gt (by unfold inR; omega) (by unfold inR; omega)) c_102_913 rfl rfl (fun hn => absurd hn (by omega)) (fun _ => ?_)
    refine R_iconst 917 c_102_916 rfl ?_
    refine R_goto 921 c_102_917 rfl ?_
    refine R_br 924 941 _ (cmp_eq (by unfold inR; omega) (by unfold inR; omega)) c_102_921 rfl rfl (fun _ => ?_) (fun hn => absurd (by omega) hn)
    refine R_iinc 944 c_102_941 rfl rfl ?_
    refine R_goto 857 c_102_944 rfl ?_
    exact k4
  · refine R_br 896 900 _ (cmp_ne (by unfold inR; omega) (by unfold inR; omega)) c_102_893 rfl rfl (fun _ => ?_) (fun hn => absurd (by omega) hn)
    refine R_iconst 901 c_102_900 rfl ?_
    refine R_aload_n 902 c_102_901 rfl rfl ?_
    refine R_iconst 903 c_102_902 rfl ?_
    refine R_iconst 904 c_102_903 rfl ?_
    refine R_callV 907 c_102_904 rfl rfl rfl rfl (Nat.le_of_ble_eq_true rfl) (Nat.le_of_ble_eq_true rfl) (o2) (c3) ?_
    refine R_aload_n 908 c_102_907 rfl rfl ?_
    refine R_iconst 909 c_102_908 rfl ?_
    refine R_iconst 910 c_102_909 rfl ?_
    refine R_callV 913 c_102_910 rfl rfl rfl rfl (Nat.le_of_ble_eq_true rfl) (Nat.le_of_ble_eq_true rfl) (o3) (c4) ?_
    refine R_br 916 920 _ (cmp_gt (by unfold inR; omega) (by unfold inR; omega)) c_102_913 rfl rfl (fun hb => ?_) (fun hb => ?_)
    · refine R_iconst 921 c_102_920 rfl ?_
      refine R_br 924 941 _ (cmp_eq (by unfold inR; omega) (by unfold inR; omega)) c_102_921 rfl rfl (fun _ => ?_) (fun hn => absurd (by omega) hn)
      refine R_iinc 944 c_102_941 rfl rfl ?_
      refine R_goto 857 c_102_944 rfl ?_
      exact k4
    · refine R_iconst 917 c_102_916 rfl ?_
      refine R_goto 921 c_102_917 rfl ?_
      refine R_br 924 941 _ (cmp_eq (by unfold inR; omega) (by unfold inR; omega)) c_102_921 rfl rfl (fun hn => absurd hn (by omega)) (fun _ => ?_)
      refine R_aload_n 925 c_102_924 rfl rfl ?_
      refine R_iconst 926 c_102_925 rfl ?_
      refine R_iconst 927 c_102_926 rfl ?_
      refine R_callV 930 c_102_927 rfl rfl rfl rfl (Nat.le_of_ble_eq_true rfl) (Nat.le_of_ble_eq_true rfl) (o4) (c5) ?_
      refine R_aload_n 931 c_102_930 rfl rfl ?_
      refine R_iconst 932 c_102_931 rfl ?_
      refine R_iconst 933 c_102_932 rfl ?_
      refine R_callV 936 c_102_933 rfl rfl rfl rfl (Nat.le_of_ble_eq_true rfl) (Nat.le_of_ble_eq_true rfl) (o5) (c6) ?_
      refine R_br 939 941 _ (cmp_eq (by unfold inR; omega) (by unfold inR; omega)) c_102_936 rfl rfl (fun _ => ?_) (fun hn => absurd (by omega) hn)
      refine R_iinc 944 c_102_941 rfl rfl ?_
      refine R_goto 857 c_102_944 rfl ?_
      exact k6
theorem L_open (W : Wd H w h f) (hd : 1 ≤ w 0 ∧ w 0 ≤ 8 ∧ 1 ≤ h 0 ∧ h 0 ≤ 8)
    (K : ∀ H w' h' f', Wd H w' h' f' → w' 0 = w 0 → h' 0 = h 0 → m_Ev scr 102 947 [(0, .ref 0), (1, .ref 1), (2, vI (w 0)), (3, vI (h 0)), (4, vI (w 0 * h 0))] [] H X) :
    m_Ev scr 102 853 [(0, .ref 0), (1, .ref 1), (2, vI (w 0)), (3, vI (h 0)), (4, vI (w 0 * h 0))] [] H X := by
  refine R_bipush 855 c_102_853 rfl (by decide) ?_
  refine R_istore 857 c_102_855 rfl ?_
  refine it3 (how := 7) (.inl rfl) W hd (fun H1 w1 h1 f1 W1 u1 v1 _ => ?_)
  have := it3 (scr := scr) (X := X) (how := 8) (.inr rfl) W1 (by omega) (fun H2 w2 h2 f2 W2 u2 v2 _ => by
    refine R_iload 859 c_102_857 rfl rfl ?_
    refine R_bipush 861 c_102_859 rfl (by decide) ?_
    refine R_br 864 947 _ (cmp_ge (by unfold inR; omega) (by unfold inR; omega)) c_102_861 rfl rfl (fun _ => ?_) (fun hn => absurd (by omega) hn)
    refine m_keep [0, 1, 2, 3, 4] (by rfl) ?_
    rw [u1, v1]
    exact K _ _ _ _ W2 (u2.trans u1) (v2.trans v1))
  rw [u1, v1] at this
  exact this
end LAW6
/-! the law, 947 to 1068: least and greatest -/
section LAW7
variable {scr : List Int32} {H : List mC} {w h : Nat → Int} {f : Nat → Int → Int} {X : mR → Prop}
theorem c_val {k : Nat} {a b x y : Int} (W : wd H w h f) (hk : k < 4) (hw : w k = a) (hh : h k = b) (hx : 0 ≤ x ∧ x < a) (hy : 0 ≤ y ∧ y < b) : m_Cl scr 60 [.ref 1, vI k, vI x, vI y] H (some (vI (f k (y * a + x)))) H := by
  subst hw; subst hh
  have := k_value (scr := scr) W hk hx hy
  rwa [fnear_in hx hy] at this
set_option maxHeartbeats 4000000 in
theorem it4 {how : Int} (hh : how = 3 ∨ how = 4) (W : Wd H w h f) (hd : 1 ≤ w 0 ∧ w 0 ≤ 8 ∧ 1 ≤ h 0 ∧ h 0 ≤ 8)
    (K : ∀ H' w' h' f', Wd H' w' h' f' → w' 0 = w 0 → h' 0 = h 0 → f' 0 = f 0 → m_Ev scr 102 950 [(0, .ref 0), (1, .ref 1), (2, vI (w 0)), (3, vI (h 0)), (4, vI (w 0 * h 0)), (9, vI (how + 1))] [] H' X) :
    m_Ev scr 102 950 [(0, .ref 0), (1, .ref 1), (2, vI (w 0)), (3, vI (h 0)), (4, vI (w 0 * h 0)), (9, vI how)] [] H X := by
  have hd16 := dim16 hd
  have ha := area8 hd
  have hf := (W.1.2.2.1 0 (by decide)).2
  have hfG := vok_vG hd hf
  obtain ⟨G0, w0, h0, f0, c0, W0, s0', p0, r0, q0⟩ := T_copy (scr := scr) (k := 0) (k2 := 1) W (by decide) (by decide) (by decide)
  obtain ⟨u0, v0, g0⟩ := s0' 0 (by decide)
  obtain ⟨G1, w1, h1, f1, c1, W1, s1', p1, r1, q1⟩ := T_copy (scr := scr) (k := 0) (k2 := 2) W0 (by decide) (by decide) (by decide)
  obtain ⟨u1, v1, g1⟩ := s1' 0 (by decide)
  obtain ⟨x1, y1, z1⟩ := s1' 1 (by decide)
  obtain ⟨G2, f2, c2, W2, s2, q2⟩ := T_filter (scr := scr) (k := 1) (how := how) W1 (by decide) (by omega)
  obtain ⟨G3, f3, c3, W3, s3, q3⟩ := T_filter (scr := scr) (k := 2) (how := how + 2) W2 (by decide) (by omega)
  rw [x1, y1, p0, r0, z1] at q2
  rw [p1, r1, u0, v0, s2 2 (by decide)] at q3
  rw [u0, v0, g0] at q1
  have r01 : frun how (w 0) (h 0) (f0 1) = frun how (w 0) (h 0) (f 0) := run_congr hd16 q0
  have r02 : frun (how + 2) (w 0) (h 0) (f1 2) = frun (how + 2) (w 0) (h 0) (f 0) := run_congr hd16 q1
  rw [r01] at q2
  rw [r02] at q3
  have g3 : f3 0 = f 0 := (((s3 0 (by decide)).trans (s2 0 (by decide))).trans g1).trans g0
  have lo : ∀ e, 0 ≤ e → e < w 0 * h 0 → f3 1 e ≤ f 0 e := fun e e0 e1 => by
    rw [s3 1 (by decide), q2 e e0 e1]
    exact run_low hh hd16 hfG ⟨e0, e1⟩
  have hi : ∀ e, 0 ≤ e → e < w 0 * h 0 → f 0 e ≤ f3 2 e := fun e e0 e1 => by
    rw [q3 e e0 e1]
    exact run_high (by omega) hd16 hfG ⟨e0, e1⟩
  have W10 : w1 0 = w 0 := u1.trans u0
  have H10 : h1 0 = h 0 := v1.trans v0
  have W11 : w1 1 = w 0 := x1.trans p0
  have H11 : h1 1 = h 0 := y1.trans r0
  have W12 : w1 2 = w 0 := p1.trans u0
  have H12 : h1 2 = h 0 := r1.trans v0
  have vo1 := (W3.1.2.2.1 1 (by decide)).2
  have vo2 := (W3.1.2.2.1 2 (by decide)).2
  have k4 := K G3 w1 h1 f3 W3 W10 H10 g3
  have o := W.1.1
  have o0 := W0.1.1
  have o1 := W1.1.1
  have o2 := W2.1.1
  have o3 := W3.1.1
  have w3 := W3.1
  clear K W W0 W1 W2 W3 r01 r02 q0 q1 q2 q3
  refine R_iload 952 c_102_950 rfl rfl ?_
  refine R_iconst 953 c_102_952 rfl ?_
  refine R_br 956 1068 _ (cmp_ge (by unfold inR; omega) (by unfold inR; omega)) c_102_953 rfl rfl (fun hn => absurd hn (by omega)) (fun _ => ?_)
  refine R_aload_n 957 c_102_956 rfl rfl ?_
  refine R_iconst 958 c_102_957 rfl ?_
  refine R_iconst 959 c_102_958 rfl ?_
  refine R_callV 962 c_102_959 rfl rfl rfl rfl (Nat.le_of_ble_eq_true rfl) (Nat.le_of_ble_eq_true rfl) (o) (c0) ?_
  refine R_pop 963 c_102_962 rfl rfl ?_
  show m_Ev scr 102 963 [(0, .ref 0), (1, .ref 1), (2, vI (w 0)), (3, vI (h 0)), (4, vI (w 0 * h 0)), (9, vI how)] [] G0 X
  refine R_aload_n 964 c_102_963 rfl rfl ?_
  refine R_iconst 965 c_102_964 rfl ?_
  refine R_iconst 966 c_102_965 rfl ?_
  refine R_callV 969 c_102_966 rfl rfl rfl rfl (Nat.le_of_ble_eq_true rfl) (Nat.le_of_ble_eq_true rfl) (o0) (c1) ?_
  refine R_pop 970 c_102_969 rfl rfl ?_
  show m_Ev scr 102 970 [(0, .ref 0), (1, .ref 1), (2, vI (w 0)), (3, vI (h 0)), (4, vI (w 0 * h 0)), (9, vI how)] [] G1 X
  refine R_aload_n 971 c_102_970 rfl rfl ?_
  refine R_iconst 972 c_102_971 rfl ?_
  refine R_iload 974 c_102_972 rfl rfl ?_
  refine R_callV 977 c_102_974 rfl rfl rfl rfl (Nat.le_of_ble_eq_true rfl) (Nat.le_of_ble_eq_true rfl) (o1) (c2) ?_
  refine R_pop 978 c_102_977 rfl rfl ?_
  show m_Ev scr 102 978 [(0, .ref 0), (1, .ref 1), (2, vI (w 0)), (3, vI (h 0)), (4, vI (w 0 * h 0)), (9, vI how)] [] G2 X
  refine R_aload_n 979 c_102_978 rfl rfl ?_
  refine R_iconst 980 c_102_979 rfl ?_
  refine R_iload 982 c_102_980 rfl rfl ?_
  refine R_iconst 983 c_102_982 rfl ?_
  refine R_iadd 984 c_102_983 rfl ?_
  refine R_callV 987 c_102_984 rfl rfl rfl rfl (Nat.le_of_ble_eq_true rfl) (Nat.le_of_ble_eq_true rfl) (o2) (c3) ?_
  refine R_pop 988 c_102_987 rfl rfl ?_
  refine R_iconst 989 c_102_988 rfl ?_
  refine R_istore 991 c_102_989 rfl ?_
  show m_Ev scr 102 991 [(0, .ref 0), (1, .ref 1), (2, vI (w 0)), (3, vI (h 0)), (4, vI (w 0 * h 0)), (9, vI how), (10, vI 0)] [] G3 X
  refine m_forP (h 0) (fun y L H2 => (L.filter (fun q => [0, 1, 2, 3, 4, 9, 10].contains q.1) = [(0, .ref 0), (1, .ref 1), (2, vI (w 0)), (3, vI (h 0)), (4, vI (w 0 * h 0)), (9, vI how), (10, vI y)] ∧ m_ku L = true) ∧ H2 = G3) 0 ⟨⟨rfl, rfl⟩, rfl⟩ (by omega) ?_ ?_
  · rintro y L2 H2 y0 y1 ⟨⟨hL2, hu2⟩, rfl⟩ ih
    refine m_keep [0, 1, 2, 3, 4, 9, 10] hu2 ?_
    rw [hL2]
    clear hL2 hu2 L2
    refine R_iload 993 c_102_991 rfl rfl ?_
    refine R_iload_n 994 c_102_993 rfl rfl ?_
    refine R_br 997 1062 _ (cmp_ge (by unfold inR; omega) (by unfold inR; omega)) c_102_994 rfl rfl (fun hn => absurd hn (by omega)) (fun _ => ?_)
    refine R_iconst 998 c_102_997 rfl ?_
    refine R_istore 1000 c_102_998 rfl ?_
    refine m_forP (w 0) (fun x L H3 => (L.filter (fun q => [0, 1, 2, 3, 4, 9, 10, 11].contains q.1) = [(0, .ref 0), (1, .ref 1), (2, vI (w 0)), (3, vI (h 0)), (4, vI (w 0 * h 0)), (9, vI how), (10, vI y), (11, vI x)] ∧ m_ku L = true) ∧ H3 = H2) 0 ⟨⟨rfl, rfl⟩, rfl⟩ (by omega) ?_ ?_
    · rintro x L3 H3 x0 x1 ⟨⟨hL3, hu3⟩, rfl⟩ ih2
      refine m_keep [0, 1, 2, 3, 4, 9, 10, 11] hu3 ?_
      rw [hL3]
      clear hL3 hu3 L3
      have hix := m_idx x0 x1 y0 y1
      have a0 := c_val (scr := scr) (k := 0) w3 (by decide) W10 H10 ⟨x0, x1⟩ ⟨y0, y1⟩
      have a1 := c_val (scr := scr) (k := 1) w3 (by decide) W11 H11 ⟨x0, x1⟩ ⟨y0, y1⟩
      have a2 := c_val (scr := scr) (k := 2) w3 (by decide) W12 H12 ⟨x0, x1⟩ ⟨y0, y1⟩
      rw [g3] at a0
      have l1 := lo _ hix.1 hix.2
      have l2 := hi _ hix.1 hix.2
      have b0 := hf _ hix.1 (by omega)
      have b1 := vo1 _ hix.1 (by omega)
      have b2 := vo2 _ hix.1 (by omega)
      generalize f 0 (y * w 0 + x) = z0 at *
      generalize f3 1 (y * w 0 + x) = z1 at *
      generalize f3 2 (y * w 0 + x) = z2 at *
      refine R_iload 1002 c_102_1000 rfl rfl ?_
      refine R_iload_n 1003 c_102_1002 rfl rfl ?_
      refine R_br 1006 1056 _ (cmp_ge (by unfold inR; omega) (by unfold inR; omega)) c_102_1003 rfl rfl (fun hn => absurd hn (by omega)) (fun _ => ?_)
      refine R_aload_n 1007 c_102_1006 rfl rfl ?_
      refine R_iconst 1008 c_102_1007 rfl ?_
      refine R_iload 1010 c_102_1008 rfl rfl ?_
      refine R_iload 1012 c_102_1010 rfl rfl ?_
      refine R_callV 1015 c_102_1012 rfl rfl rfl rfl (Nat.le_of_ble_eq_true rfl) (Nat.le_of_ble_eq_true rfl) (o3) (a1) ?_
      refine R_aload_n 1016 c_102_1015 rfl rfl ?_
      refine R_iconst 1017 c_102_1016 rfl ?_
      refine R_iload 1019 c_102_1017 rfl rfl ?_
      refine R_iload 1021 c_102_1019 rfl rfl ?_
      refine R_callV 1024 c_102_1021 rfl rfl rfl rfl (Nat.le_of_ble_eq_true rfl) (Nat.le_of_ble_eq_true rfl) (o3) (a0) ?_
      refine R_br 1027 1048 _ (cmp_gt (by unfold inR; omega) (by unfold inR; omega)) c_102_1024 rfl rfl (fun hn => absurd hn (by omega)) (fun _ => ?_)
      refine R_aload_n 1028 c_102_1027 rfl rfl ?_
      refine R_iconst 1029 c_102_1028 rfl ?_
      refine R_iload 1031 c_102_1029 rfl rfl ?_
      refine R_iload 1033 c_102_1031 rfl rfl ?_
      refine R_callV 1036 c_102_1033 rfl rfl rfl rfl (Nat.le_of_ble_eq_true rfl) (Nat.le_of_ble_eq_true rfl) (o3) (a0) ?_
      refine R_aload_n 1037 c_102_1036 rfl rfl ?_
      refine R_iconst 1038 c_102_1037 rfl ?_
      refine R_iload 1040 c_102_1038 rfl rfl ?_
      refine R_iload 1042 c_102_1040 rfl rfl ?_
      refine R_callV 1045 c_102_1042 rfl rfl rfl rfl (Nat.le_of_ble_eq_true rfl) (Nat.le_of_ble_eq_true rfl) (o3) (a2) ?_
      refine R_br 1048 1050 _ (cmp_le (by unfold inR; omega) (by unfold inR; omega)) c_102_1045 rfl rfl (fun _ => ?_) (fun hn => absurd (by omega) hn)
      refine R_iinc 1053 c_102_1050 rfl rfl ?_
      refine R_goto 1000 c_102_1053 rfl ?_
      exact ih2 _ _ ⟨⟨rfl, rfl⟩, rfl⟩
    · rintro L3 H3 ⟨⟨hL3, hu3⟩, rfl⟩
      refine m_keep [0, 1, 2, 3, 4, 9, 10, 11] hu3 ?_
      rw [hL3]
      refine R_iload 1002 c_102_1000 rfl rfl ?_
      refine R_iload_n 1003 c_102_1002 rfl rfl ?_
      refine R_br 1006 1056 _ (cmp_ge (by unfold inR; omega) (by unfold inR; omega)) c_102_1003 rfl rfl (fun _ => ?_) (fun hn => absurd (by omega) hn)
      refine R_iinc 1059 c_102_1056 rfl rfl ?_
      refine R_goto 991 c_102_1059 rfl ?_
      exact ih _ _ ⟨⟨rfl, rfl⟩, rfl⟩
  · rintro L2 H2 ⟨⟨hL2, hu2⟩, rfl⟩
    refine m_keep [0, 1, 2, 3, 4, 9, 10] hu2 ?_
    rw [hL2]
    refine R_iload 993 c_102_991 rfl rfl ?_
    refine R_iload_n 994 c_102_993 rfl rfl ?_
    refine R_br 997 1062 _ (cmp_ge (by unfold inR; omega) (by unfold inR; omega)) c_102_994 rfl rfl (fun _ => ?_) (fun hn => absurd (by omega) hn)
    refine R_iinc 1065 c_102_1062 rfl rfl ?_
    refine R_goto 950 c_102_1065 rfl ?_
    refine m_keep [0, 1, 2, 3, 4, 9] (by rfl) ?_
    exact k4
theorem L_least (W : Wd H w h f) (hd : 1 ≤ w 0 ∧ w 0 ≤ 8 ∧ 1 ≤ h 0 ∧ h 0 ≤ 8)
    (K : ∀ H w' h' f', Wd H w' h' f' → w' 0 = w 0 → h' 0 = h 0 → m_Ev scr 102 1068 [(0, .ref 0), (1, .ref 1), (2, vI (w 0)), (3, vI (h 0)), (4, vI (w 0 * h 0))] [] H X) :
    m_Ev scr 102 947 [(0, .ref 0), (1, .ref 1), (2, vI (w 0)), (3, vI (h 0)), (4, vI (w 0 * h 0))] [] H X := by
  refine R_iconst 948 c_102_947 rfl ?_
  refine R_istore 950 c_102_948 rfl ?_
  refine it4 (how := 3) (.inl rfl) W hd (fun H1 w1 h1 f1 W1 u1 v1 _ => ?_)
  have := it4 (scr := scr) (X := X) (how := 4) (.inr rfl) W1 (by omega) (fun H2 w2 h2 f2 W2 u2 v2 _ => by
    refine R_iload 952 c_102_950 rfl rfl ?_
    refine R_iconst 953 c_102_952 rfl ?_
    refine R_br 956 1068 _ (cmp_ge (by unfold inR; omega) (by unfold inR; omega)) c_102_953 rfl rfl (fun _ => ?_) (fun hn => absurd (by omega) hn)
    refine m_keep [0, 1, 2, 3, 4] (by rfl) ?_
    rw [u1, v1]
    exact K _ _ _ _ W2 (u2.trans u1) (v2.trans v1))
  rw [u1, v1] at this
  exact this
end LAW7
/-! the law, 1068 to 1222: VALUES made others -/
section LAW8
variable {scr : List Int32} {H : List mC} {w h : Nat → Int} {f : Nat → Int → Int} {X : mR → Prop}
theorem cum_bd {g : Int → Int} (hg : vok g) {n i : Int} (h1 : 1 ≤ n) (h2 : n ≤ 256) (hi : 0 ≤ i) (hi2 : i ≤ 256) : 0 ≤ fsum (hist g n) i ∧ fsum (hist g n) i ≤ n := by
  have hc : ∀ e : Int, 0 ≤ e → e < 256 → 0 ≤ hist g n e := fun e _ _ => (hist_bd g (by omega) h2 e).1
  have hall := hist_all hg (n := n) (by omega) h2
  have a := fsum_le (f := hist g n) (a := 0) (b := i) (fun e e0 e1 => hc e e0 (by omega)) (by omega) hi
  have b := fsum_le (f := hist g n) (a := i) (b := 256) (fun e e0 e1 => hc e e0 e1) hi hi2
  rw [fsum_0] at a
  omega
theorem pln_mono {g : Int → Int} (hg : vok g) {how n e e' : Int} (h1 : 1 ≤ n) (h2 : n ≤ 256) (hh : how = 1 ∨ how = 2) (e0 : 0 ≤ e) (e1 : e < n) (e0' : 0 ≤ e') (e1' : e' < n) (hle : g e ≤ g e') : fpln how (hist g n) n (g e) ≤ fpln how (hist g n) n (g e') := by
  have b := ord_between hg h2 e0 e1
  have b' := ord_between hg h2 e0' e1'
  have v := hg e e0 (by omega)
  have v' := hg e' e0' (by omega)
  rcases hh with rfl | rfl
  · show fstr (hist g n) n (g e) ≤ fstr (hist g n) n (g e')
    unfold fstr
    by_cases hc : ordf (hist g n) 0 < ordf (hist g n) (n - 1)
    · rw [if_pos hc, if_pos hc, Int.tdiv_eq_ediv_of_nonneg (by omega), Int.tdiv_eq_ediv_of_nonneg (by omega)]
      exact Int.ediv_le_ediv (by omega) (by omega)
    · rw [if_neg hc, if_neg hc]; exact hle
  · show 255 * fsum (hist g n) (g e + 1) / n ≤ 255 * fsum (hist g n) (g e' + 1) / n
    have := fsum_le (f := hist g n) (a := g e + 1) (b := g e' + 1) (fun j j0 j1 => (hist_bd g (by omega) h2 j).1) (by omega) (by omega)
    exact Int.ediv_le_ediv (by omega) (by omega)
theorem pln_ok {g : Int → Int} (hg : vok g) {how n e : Int} (h1 : 1 ≤ n) (h2 : n ≤ 256) (hh : 0 ≤ how ∧ how ≤ 2) (e0 : 0 ≤ e) (e1 : e < n) : 0 ≤ fpln how (hist g n) n (g e) ∧ fpln how (hist g n) n (g e) ≤ 255 := by
  have b := ord_between hg h2 e0 e1
  have v := hg e e0 (by omega)
  rcases (show how = 0 ∨ how = 1 ∨ how = 2 by omega) with rfl | rfl | rfl
  · show 0 ≤ 255 - g e ∧ 255 - g e ≤ 255
    omega
  · show 0 ≤ fstr (hist g n) n (g e) ∧ fstr (hist g n) n (g e) ≤ 255
    unfold fstr
    by_cases hc : ordf (hist g n) 0 < ordf (hist g n) (n - 1)
    · rw [if_pos hc, Int.tdiv_eq_ediv_of_nonneg (by omega)]
      exact ⟨Int.ediv_nonneg (by omega) (by omega), Int.ediv_le_of_le_mul (by omega) (by omega)⟩
    · rw [if_neg hc]; exact v
  · show 0 ≤ 255 * fsum (hist g n) (g e + 1) / n ∧ 255 * fsum (hist g n) (g e + 1) / n ≤ 255
    have := cum_bd hg h1 h2 (i := g e + 1) (by omega) (by omega)
    exact ⟨Int.ediv_nonneg (by omega) (by omega), Int.ediv_le_of_le_mul (by omega) (by omega)⟩
theorem T_values {how a b : Int} (W : Wd H w h f) (hd : 1 ≤ a ∧ a ≤ 8 ∧ 1 ≤ b ∧ b ≤ 8) (hw : w 1 = a) (hh' : h 1 = b) (hh : 0 ≤ how ∧ how ≤ 2) :
    ∃ H' f' z, m_Cl scr 59 [.ref 1, vI 1, vI how] H (some (vI z)) H' ∧ 0 ≤ z ∧ z ≤ 256 ∧ Wd H' w h f' ∧ f' 0 = f 0 ∧ ∀ e, 0 ≤ e → e < a * b → f' 1 e = fpln how (hist (f 1) (a * b)) (a * b) (f 1 e) := by
  subst hw; subst hh'
  have ha := area8 hd
  have hf := (W.1.2.2.1 1 (by decide)).2
  obtain ⟨_, H1, c1, ⟨⟨z, rfl, z0, z1⟩, fn, w1, q1⟩, s1⟩ := m_szP (x := 59) (by decide) W.2 (k_values (scr := scr) (k := 1) W.1 (by decide) hh (fun e e0 e1 => pln_ok hf (by omega) (by omega) hh e0 e1))
  refine ⟨H1, _, z, c1, z0, z1, ⟨w1, s1⟩, m_nu_ne _ _ (by decide), ?_⟩
  rw [m_nu_at]
  exact q1
theorem L_neg (hs : scr.length ≤ 260) (W : Wd H w h f) (hd : 1 ≤ w 0 ∧ w 0 ≤ 8 ∧ 1 ≤ h 0 ∧ h 0 ≤ 8)
    (K : ∀ H w' h' f', Wd H w' h' f' → w' 0 = w 0 → h' 0 = h 0 → w' 1 = w 0 → h' 1 = h 0 → (∀ e, 0 ≤ e → e < w 0 * h 0 → f' 0 e < f' 0 0 → f' 1 e ≤ f' 1 0) → m_Ev scr 102 1125 [(0, .ref 0), (1, .ref 1), (2, vI (w 0)), (3, vI (h 0)), (4, vI (w 0 * h 0)), (9, vI 1)] [] H X) :
    m_Ev scr 102 1068 [(0, .ref 0), (1, .ref 1), (2, vI (w 0)), (3, vI (h 0)), (4, vI (w 0 * h 0))] [] H X := by
  have hd16 := dim16 hd
  have ha := area8 hd
  have hf := (W.1.2.2.1 0 (by decide)).2
  obtain ⟨G0, w0, h0, f0, c0, W0, s0', p0, r0, q0⟩ := T_copy (scr := scr) (k := 0) (k2 := 1) W (by decide) (by decide) (by decide)
  obtain ⟨u0, v0, g0⟩ := s0' 0 (by decide)
  obtain ⟨G1, f1, z1, c1, a1, b1, W1, g1, q1⟩ := T_values (scr := scr) (how := 0) W0 hd p0 r0 (by decide)
  obtain ⟨G2, f2, z2, c2, a2, b2, W2, g2, q2⟩ := T_values (scr := scr) (how := 0) W1 hd p0 r0 (by decide)
  have same : ∀ e, 0 ≤ e → e < w 0 * h 0 → f2 0 e = f2 1 e := fun e e0 e1 => by
    rw [q2 e e0 e1, g2, g1, g0]
    show _ = 255 - f1 1 e
    rw [q1 e e0 e1]
    show _ = 255 - (255 - f0 1 e)
    rw [q0 e e0 e1]
    omega
  have cd := k_difference (scr := scr) (k := 0) (k2 := 1) W2.1 (by decide) (by decide) (u0.trans p0.symm) (v0.trans r0.symm) (by rw [u0, v0]; exact same)
  obtain ⟨s, cc⟩ := k_cellE (scr := scr) G2 12 hs (by decide)
  obtain ⟨z, cb, y0, y1⟩ := k_belowE (scr := scr) G2 s 2 (by decide)
  obtain ⟨G3, f3, z3, c3, a3, b3, W3, g3, q3⟩ := T_values (scr := scr) (how := 1 + z) W2 hd p0 r0 (by omega)
  have ho : ∀ e, 0 ≤ e → e < w 0 * h 0 → f3 0 e < f3 0 0 → f3 1 e ≤ f3 1 0 := fun e e0 e1 hlt => by
    rw [g3, same e e0 e1, same 0 (by decide) (by omega)] at hlt
    rw [q3 e e0 e1, q3 0 (by decide) (by omega)]
    exact pln_mono (W2.1.2.2.1 1 (by decide)).2 (by omega) (by omega) (by omega) e0 e1 (by decide) (by omega) (by omega)
  have k3 := K G3 w0 h0 f3 W3 u0 v0 p0 r0 ho
  have o := W.1.1
  have o0 := W0.1.1
  have o1 := W1.1.1
  have o2 := W2.1.1
  clear K ho same q0 q1 q2 q3 W W0 W1 W2 W3
  refine R_aload_n 1069 c_102_1068 rfl rfl ?_
  refine R_iconst 1070 c_102_1069 rfl ?_
  refine R_iconst 1071 c_102_1070 rfl ?_
  refine R_callV 1074 c_102_1071 rfl rfl rfl rfl (Nat.le_of_ble_eq_true rfl) (Nat.le_of_ble_eq_true rfl) (o) (c0) ?_
  refine R_pop 1075 c_102_1074 rfl rfl ?_
  show m_Ev scr 102 1075 [(0, .ref 0), (1, .ref 1), (2, vI (w 0)), (3, vI (h 0)), (4, vI (w 0 * h 0))] [] G0 X
  refine R_aload_n 1076 c_102_1075 rfl rfl ?_
  refine R_iconst 1077 c_102_1076 rfl ?_
  refine R_iconst 1078 c_102_1077 rfl ?_
  refine R_callV 1081 c_102_1078 rfl rfl rfl rfl (Nat.le_of_ble_eq_true rfl) (Nat.le_of_ble_eq_true rfl) (o0) (c1) ?_
  refine R_aload_n 1082 c_102_1081 rfl rfl ?_
  refine R_iconst 1083 c_102_1082 rfl ?_
  refine R_iconst 1084 c_102_1083 rfl ?_
  refine R_callV 1087 c_102_1084 rfl rfl rfl rfl (Nat.le_of_ble_eq_true rfl) (Nat.le_of_ble_eq_true rfl) (o1) (c2) ?_
  refine R_iadd 1088 c_102_1087 rfl ?_
  refine R_brz 1091 1102 _ (cmp_lt (by unfold inR; omega) inR_0) c_102_1088 rfl rfl (fun hn => absurd hn (by omega)) (fun _ => ?_)
  show m_Ev scr 102 1091 [(0, .ref 0), (1, .ref 1), (2, vI (w 0)), (3, vI (h 0)), (4, vI (w 0 * h 0))] [] G2 X
  refine R_aload_n 1092 c_102_1091 rfl rfl ?_
  refine R_iconst 1093 c_102_1092 rfl ?_
  refine R_iconst 1094 c_102_1093 rfl ?_
  refine R_callV 1097 c_102_1094 rfl rfl rfl rfl (Nat.le_of_ble_eq_true rfl) (Nat.le_of_ble_eq_true rfl) (o2) (cd) ?_
  refine R_dconst 1098 c_102_1097 rfl ?_
  refine R_dcmp 1099 c_102_1098 rfl ?_
  rw [m_dc0]
  refine R_brz 1102 1104 _ (cmp_eq (by unfold inR; omega) inR_0) c_102_1099 rfl rfl (fun _ => ?_) (fun hn => absurd (by omega) hn)
  show m_Ev scr 102 1104 [(0, .ref 0), (1, .ref 1), (2, vI (w 0)), (3, vI (h 0)), (4, vI (w 0 * h 0))] [] G2 X
  refine R_aload_n 1105 c_102_1104 rfl rfl ?_
  refine R_iconst 1106 c_102_1105 rfl ?_
  refine R_iconst 1107 c_102_1106 rfl ?_
  refine R_aload_n 1108 c_102_1107 rfl rfl ?_
  refine R_bipush 1110 c_102_1108 rfl (by decide) ?_
  refine R_callS 1113 c_102_1110 rfl rfl (Nat.le_of_ble_eq_true rfl) (cc) ?_
  refine R_iconst 1114 c_102_1113 rfl ?_
  refine R_callS 1117 c_102_1114 rfl rfl (Nat.le_of_ble_eq_true rfl) (cb) ?_
  refine R_iadd 1118 c_102_1117 rfl ?_
  refine R_callV 1121 c_102_1118 rfl rfl rfl rfl (Nat.le_of_ble_eq_true rfl) (Nat.le_of_ble_eq_true rfl) (o2) (c3) ?_
  refine R_pop 1122 c_102_1121 rfl rfl ?_
  refine R_iconst 1123 c_102_1122 rfl ?_
  refine R_istore 1125 c_102_1123 rfl ?_
  exact k3
set_option maxHeartbeats 4000000 in
theorem L_order (W : Wd H w h f) (hd : 1 ≤ w 0 ∧ w 0 ≤ 8 ∧ 1 ≤ h 0 ∧ h 0 ≤ 8) (hw1 : w 1 = w 0) (hh1 : h 1 = h 0) (ho : ∀ e, 0 ≤ e → e < w 0 * h 0 → f 0 e < f 0 0 → f 1 e ≤ f 1 0)
    (K : m_Ev scr 102 1222 [(0, .ref 0), (1, .ref 1), (2, vI (w 0)), (3, vI (h 0)), (4, vI (w 0 * h 0))] [] H X) :
    m_Ev scr 102 1125 [(0, .ref 0), (1, .ref 1), (2, vI (w 0)), (3, vI (h 0)), (4, vI (w 0 * h 0)), (9, vI 1)] [] H X := by
  have ha := area8 hd
  have hf0 := (W.1.2.2.1 0 (by decide)).2
  have hf1 := (W.1.2.2.1 1 (by decide)).2
  have o := W.1.1
  refine m_forP (w 0 * h 0) (fun i L H2 => (L.filter (fun q => [0, 1, 2, 3, 4, 9].contains q.1) = [(0, .ref 0), (1, .ref 1), (2, vI (w 0)), (3, vI (h 0)), (4, vI (w 0 * h 0)), (9, vI i)] ∧ m_ku L = true) ∧ H2 = H) 1 ⟨⟨rfl, rfl⟩, rfl⟩ (by omega) ?_ ?_
  · rintro i L2 H2 i0 i1 ⟨⟨hL2, hu2⟩, rfl⟩ ih
    refine m_keep [0, 1, 2, 3, 4, 9] hu2 ?_
    rw [hL2]
    clear hL2 hu2 L2
    have g := inG_xy hd.1 (e := i) (h := h 0) ⟨by omega, i1⟩
    have a0 := c_val (scr := scr) (k := 0) W.1 (by decide) rfl rfl ⟨g.1, g.2.1⟩ ⟨g.2.2.1, g.2.2.2.1⟩
    have a1 := c_val (scr := scr) (k := 1) W.1 (by decide) hw1 hh1 ⟨g.1, g.2.1⟩ ⟨g.2.2.1, g.2.2.2.1⟩
    have z0 := c_val (scr := scr) (k := 0) (x := 0) (y := 0) W.1 (by decide) rfl rfl (by omega) (by omega)
    have z1 := c_val (scr := scr) (k := 1) (x := 0) (y := 0) W.1 (by decide) hw1 hh1 (by omega) (by omega)
    rw [g.2.2.2.2] at a0 a1
    rw [Int.zero_mul, Int.zero_add] at z0 z1
    have l := ho i (by omega) i1
    have b0 := hf0 i (by omega) (by omega)
    have b1 := hf1 i (by omega) (by omega)
    have d0 := hf0 0 (by decide) (by decide)
    have d1 := hf1 0 (by decide) (by decide)
    generalize f 0 i = A0 at *
    generalize f 1 i = A1 at *
    generalize f 0 0 = Z0 at *
    generalize f 1 0 = Z1 at *
    have fin : ∀ L, L.filter (fun q => [0, 1, 2, 3, 4, 9].contains q.1) = [(0, .ref 0), (1, .ref 1), (2, vI (w 0)), (3, vI (h 0)), (4, vI (w 0 * h 0)), (9, vI (i + 1))] ∧ m_ku L = true → m_Ev scr 102 1125 L [] H2 X := fun L hL => ih _ _ ⟨hL, rfl⟩
    clear ih
    refine R_iload 1127 c_102_1125 rfl rfl ?_
    refine R_iload 1129 c_102_1127 rfl rfl ?_
    refine R_br 1132 1222 _ (cmp_ge (by unfold inR; omega) (by unfold inR; omega)) c_102_1129 rfl rfl (fun hn => absurd hn (by omega)) (fun _ => ?_)
    refine R_iload 1134 c_102_1132 rfl rfl ?_
    refine R_iload_n 1135 c_102_1134 rfl rfl ?_
    refine R_iremp 1136 c_102_1135 rfl (by omega) (by omega) ?_
    refine R_istore 1138 c_102_1136 rfl ?_
    refine R_iload 1140 c_102_1138 rfl rfl ?_
    refine R_iload_n 1141 c_102_1140 rfl rfl ?_
    refine R_idivp 1142 c_102_1141 rfl (by omega) (by omega) ?_
    refine R_istore 1144 c_102_1142 rfl ?_
    generalize i % w 0 = x at *
    generalize i / w 0 = y at *
    show m_Ev scr 102 1144 [(0, .ref 0), (1, .ref 1), (2, vI (w 0)), (3, vI (h 0)), (4, vI (w 0 * h 0)), (9, vI i), (10, vI x), (11, vI y)] [] H2 X
    refine R_aload_n 1145 c_102_1144 rfl rfl ?_
    refine R_iconst 1146 c_102_1145 rfl ?_
    refine R_iload 1148 c_102_1146 rfl rfl ?_
    refine R_iload 1150 c_102_1148 rfl rfl ?_
    refine R_callV 1153 c_102_1150 rfl rfl rfl rfl (Nat.le_of_ble_eq_true rfl) (Nat.le_of_ble_eq_true rfl) (o) (a0) ?_
    refine R_aload_n 1154 c_102_1153 rfl rfl ?_
    refine R_iconst 1155 c_102_1154 rfl ?_
    refine R_iconst 1156 c_102_1155 rfl ?_
    refine R_iconst 1157 c_102_1156 rfl ?_
    refine R_callV 1160 c_102_1157 rfl rfl rfl rfl (Nat.le_of_ble_eq_true rfl) (Nat.le_of_ble_eq_true rfl) (o) (z0) ?_
    refine R_br 1163 1167 _ (cmp_gt (by unfold inR; omega) (by unfold inR; omega)) c_102_1160 rfl rfl (fun hb => ?_) (fun hb => ?_)
    · refine R_iconst 1168 c_102_1167 rfl ?_
      refine R_aload_n 1169 c_102_1168 rfl rfl ?_
      refine R_iconst 1170 c_102_1169 rfl ?_
      refine R_iload 1172 c_102_1170 rfl rfl ?_
      refine R_iload 1174 c_102_1172 rfl rfl ?_
      refine R_callV 1177 c_102_1174 rfl rfl rfl rfl (Nat.le_of_ble_eq_true rfl) (Nat.le_of_ble_eq_true rfl) (o) (a1) ?_
      refine R_aload_n 1178 c_102_1177 rfl rfl ?_
      refine R_iconst 1179 c_102_1178 rfl ?_
      refine R_iconst 1180 c_102_1179 rfl ?_
      refine R_iconst 1181 c_102_1180 rfl ?_
      refine R_callV 1184 c_102_1181 rfl rfl rfl rfl (Nat.le_of_ble_eq_true rfl) (Nat.le_of_ble_eq_true rfl) (o) (z1) ?_
      refine R_br 1187 1191 _ (cmp_gt (by unfold inR; omega) (by unfold inR; omega)) c_102_1184 rfl rfl (fun hb => ?_) (fun hb => ?_)
      · refine R_iconst 1192 c_102_1191 rfl ?_
        refine R_br 1195 1216 _ (cmp_eq (by unfold inR; omega) (by unfold inR; omega)) c_102_1192 rfl rfl (fun _ => ?_) (fun hn => absurd (by omega) hn)
        refine R_iinc 1219 c_102_1216 rfl rfl ?_
        refine R_goto 1125 c_102_1219 rfl ?_
        exact fin _ ⟨rfl, rfl⟩
      · refine R_iconst 1188 c_102_1187 rfl ?_
        refine R_goto 1192 c_102_1188 rfl ?_
        refine R_br 1195 1216 _ (cmp_eq (by unfold inR; omega) (by unfold inR; omega)) c_102_1192 rfl rfl (fun hn => absurd hn (by omega)) (fun _ => ?_)
        refine R_aload_n 1196 c_102_1195 rfl rfl ?_
        refine R_iconst 1197 c_102_1196 rfl ?_
        refine R_iload 1199 c_102_1197 rfl rfl ?_
        refine R_iload 1201 c_102_1199 rfl rfl ?_
        refine R_callV 1204 c_102_1201 rfl rfl rfl rfl (Nat.le_of_ble_eq_true rfl) (Nat.le_of_ble_eq_true rfl) (o) (a0) ?_
        refine R_aload_n 1205 c_102_1204 rfl rfl ?_
        refine R_iconst 1206 c_102_1205 rfl ?_
        refine R_iconst 1207 c_102_1206 rfl ?_
        refine R_iconst 1208 c_102_1207 rfl ?_
        refine R_callV 1211 c_102_1208 rfl rfl rfl rfl (Nat.le_of_ble_eq_true rfl) (Nat.le_of_ble_eq_true rfl) (o) (z0) ?_
        refine R_br 1214 1216 _ (cmp_ge (by unfold inR; omega) (by unfold inR; omega)) c_102_1211 rfl rfl (fun _ => ?_) (fun hn => absurd (by omega) hn)
        refine R_iinc 1219 c_102_1216 rfl rfl ?_
        refine R_goto 1125 c_102_1219 rfl ?_
        exact fin _ ⟨rfl, rfl⟩
    · refine R_iconst 1164 c_102_1163 rfl ?_
      refine R_goto 1168 c_102_1164 rfl ?_
      refine R_aload_n 1169 c_102_1168 rfl rfl ?_
      refine R_iconst 1170 c_102_1169 rfl ?_
      refine R_iload 1172 c_102_1170 rfl rfl ?_
      refine R_iload 1174 c_102_1172 rfl rfl ?_
      refine R_callV 1177 c_102_1174 rfl rfl rfl rfl (Nat.le_of_ble_eq_true rfl) (Nat.le_of_ble_eq_true rfl) (o) (a1) ?_
      refine R_aload_n 1178 c_102_1177 rfl rfl ?_
      refine R_iconst 1179 c_102_1178 rfl ?_
      refine R_iconst 1180 c_102_1179 rfl ?_
      refine R_iconst 1181 c_102_1180 rfl ?_
      refine R_callV 1184 c_102_1181 rfl rfl rfl rfl (Nat.le_of_ble_eq_true rfl) (Nat.le_of_ble_eq_true rfl) (o) (z1) ?_
      refine R_br 1187 1191 _ (cmp_gt (by unfold inR; omega) (by unfold inR; omega)) c_102_1184 rfl rfl (fun hb => ?_) (fun hb => ?_)
      · refine R_iconst 1192 c_102_1191 rfl ?_
        refine R_br 1195 1216 _ (cmp_eq (by unfold inR; omega) (by unfold inR; omega)) c_102_1192 rfl rfl (fun hn => absurd hn (by omega)) (fun _ => ?_)
        refine R_aload_n 1196 c_102_1195 rfl rfl ?_
        refine R_iconst 1197 c_102_1196 rfl ?_
        refine R_iload 1199 c_102_1197 rfl rfl ?_
        refine R_iload 1201 c_102_1199 rfl rfl ?_
        refine R_callV 1204 c_102_1201 rfl rfl rfl rfl (Nat.le_of_ble_eq_true rfl) (Nat.le_of_ble_eq_true rfl) (o) (a0) ?_
        refine R_aload_n 1205 c_102_1204 rfl rfl ?_
        refine R_iconst 1206 c_102_1205 rfl ?_
        refine R_iconst 1207 c_102_1206 rfl ?_
        refine R_iconst 1208 c_102_1207 rfl ?_
        refine R_callV 1211 c_102_1208 rfl rfl rfl rfl (Nat.le_of_ble_eq_true rfl) (Nat.le_of_ble_eq_true rfl) (o) (z0) ?_
        refine R_br 1214 1216 _ (cmp_ge (by unfold inR; omega) (by unfold inR; omega)) c_102_1211 rfl rfl (fun _ => ?_) (fun hn => absurd (by omega) hn)
        refine R_iinc 1219 c_102_1216 rfl rfl ?_
        refine R_goto 1125 c_102_1219 rfl ?_
        exact fin _ ⟨rfl, rfl⟩
      · refine R_iconst 1188 c_102_1187 rfl ?_
        refine R_goto 1192 c_102_1188 rfl ?_
        refine R_br 1195 1216 _ (cmp_eq (by unfold inR; omega) (by unfold inR; omega)) c_102_1192 rfl rfl (fun _ => ?_) (fun hn => absurd (by omega) hn)
        refine R_iinc 1219 c_102_1216 rfl rfl ?_
        refine R_goto 1125 c_102_1219 rfl ?_
        exact fin _ ⟨rfl, rfl⟩
  · rintro L2 H2 ⟨⟨hL2, hu2⟩, rfl⟩
    refine m_keep [0, 1, 2, 3, 4, 9] hu2 ?_
    rw [hL2]
    refine R_iload 1127 c_102_1125 rfl rfl ?_
    refine R_iload 1129 c_102_1127 rfl rfl ?_
    refine R_br 1132 1222 _ (cmp_ge (by unfold inR; omega) (by unfold inR; omega)) c_102_1129 rfl rfl (fun _ => ?_) (fun hn => absurd (by omega) hn)
    refine m_keep [0, 1, 2, 3, 4] (by rfl) ?_
    exact K
end LAW8
/-! the law, 1222 to its end: the SEAM; and the whole -/
section LAW9
variable {scr : List Int32} {H : List mC} {w h : Nat → Int} {f : Nat → Int → Int} {X : mR → Prop}
theorem ftot_all {a b : Int} {g : Int → Int} (hb : 1 ≤ b) : ftot a b g = fsum (fun j => fcost a b g (fcol a b g j) j) b := by
  have := ftot_sum (w := a) (h := b) (f := g) (b - 1).toNat (by omega)
  rw [Int.toNat_of_nonneg (by omega)] at this
  unfold ftot
  rw [this, show b - 1 + 1 = b by omega]
set_option maxHeartbeats 4000000 in
theorem L_seam (W : Wd H w h f) (hd : 1 ≤ w 0 ∧ w 0 ≤ 8 ∧ 1 ≤ h 0 ∧ h 0 ≤ 8)
    (K : ∀ H, Wd H w h f → m_Ev scr 102 1364 [(0, .ref 0), (1, .ref 1), (2, vI (w 0)), (3, vI (h 0)), (9, vI (ftot (w 0) (h 0) (f 0)))] [] H X) :
    m_Ev scr 102 1222 [(0, .ref 0), (1, .ref 1), (2, vI (w 0)), (3, vI (h 0)), (4, vI (w 0 * h 0))] [] H X := by
  have hd16 := dim16 hd
  have ha := area8 hd
  have hf := (W.1.2.2.1 0 (by decide)).2
  rw [ftot_all hd.2.2.1] at K
  have hbd := fsum_bd (f := fun j => fcost (w 0) (h 0) (f 0) (fcol (w 0) (h 0) (f 0) j) j) (lo := 0) (hi := 510) (fun e _ _ => fcost_bd hf hd16 _ _)
  refine R_iconst 1223 c_102_1222 rfl ?_
  refine R_istore 1225 c_102_1223 rfl ?_
  refine R_iconst 1226 c_102_1225 rfl ?_
  refine R_istore 1228 c_102_1226 rfl ?_
  refine m_forP (h 0) (fun y L H2 => (L.filter (fun q => [0, 1, 2, 3, 9, 10].contains q.1) = [(0, .ref 0), (1, .ref 1), (2, vI (w 0)), (3, vI (h 0)), (9, vI (fsum (fun j => fcost (w 0) (h 0) (f 0) (fcol (w 0) (h 0) (f 0) j) j) y)), (10, vI y)] ∧ m_ku L = true) ∧ Wd H2 w h f) 0 ⟨⟨rfl, rfl⟩, W⟩ (by omega) ?_ ?_
  · rintro y L2 H2 y0 y1 ⟨⟨hL2, hu2⟩, W2⟩ ih
    refine m_keep [0, 1, 2, 3, 9, 10] hu2 ?_
    rw [hL2]
    clear hL2 hu2 L2
    have hb := hbd y y0 (by omega)
    have hs : fsum (fun j => fcost (w 0) (h 0) (f 0) (fcol (w 0) (h 0) (f 0) j) j) (y + 1) = fsum (fun j => fcost (w 0) (h 0) (f 0) (fcol (w 0) (h 0) (f 0) j) j) y + fcost (w 0) (h 0) (f 0) (fcol (w 0) (h 0) (f 0) y) y := fsum_succ _ y0
    obtain ⟨H3, c3, W3⟩ := ask (by decide) W2 (k_seam (scr := scr) (k := 0) (y := y) W2.1 (by decide) ⟨y0, y1⟩)
    have hx := fcol_bd (w := w 0) (h := h 0) (f := f 0) hd.1 y
    have key : ∀ H4, Wd H4 w h f → m_Ev scr 102 1280 [(0, .ref 0), (1, .ref 1), (2, vI (w 0)), (3, vI (h 0)), (9, vI (fsum (fun j => fcost (w 0) (h 0) (f 0) (fcol (w 0) (h 0) (f 0) j) j) y)), (10, vI y), (11, vI (fcol (w 0) (h 0) (f 0) y))] [] H4 X := by
      intro H4 W4
      have fin := fun L (hL : L.filter (fun q => [0, 1, 2, 3, 9, 10].contains q.1) = [(0, .ref 0), (1, .ref 1), (2, vI (w 0)), (3, vI (h 0)), (9, vI (fsum (fun j => fcost (w 0) (h 0) (f 0) (fcol (w 0) (h 0) (f 0) j) j) (y + 1))), (10, vI (y + 1))] ∧ m_ku L = true) => ih L H4 ⟨hL, W4⟩
      rw [hs] at fin
      clear ih hs c3
      generalize fsum (fun j => fcost (w 0) (h 0) (f 0) (fcol (w 0) (h 0) (f 0) j) j) y = S at *
      generalize fcol (w 0) (h 0) (f 0) y = x at *
      have v1 := c_val (scr := scr) (k := 0) (x := min (w 0 - 1) (x + 1)) (y := y) W4.1 (by decide) rfl rfl (by omega) ⟨y0, y1⟩
      have v2 := c_val (scr := scr) (k := 0) (x := max 0 (x - 1)) (y := y) W4.1 (by decide) rfl rfl (by omega) ⟨y0, y1⟩
      have v3 := c_val (scr := scr) (k := 0) (x := x) (y := min (h 0 - 1) (y + 1)) W4.1 (by decide) rfl rfl hx (by omega)
      have v4 := c_val (scr := scr) (k := 0) (x := x) (y := max 0 (y - 1)) W4.1 (by decide) rfl rfl hx (by omega)
      have i1 := m_idx (show 0 ≤ min (w 0 - 1) (x + 1) by omega) (show min (w 0 - 1) (x + 1) < w 0 by omega) y0 y1
      have i2 := m_idx (show 0 ≤ max 0 (x - 1) by omega) (show max 0 (x - 1) < w 0 by omega) y0 y1
      have i3 := m_idx hx.1 hx.2 (show 0 ≤ min (h 0 - 1) (y + 1) by omega) (show min (h 0 - 1) (y + 1) < h 0 by omega)
      have i4 := m_idx hx.1 hx.2 (show 0 ≤ max 0 (y - 1) by omega) (show max 0 (y - 1) < h 0 by omega)
      have j1 := hf _ i1.1 (by omega)
      have j2 := hf _ i2.1 (by omega)
      have j3 := hf _ i3.1 (by omega)
      have j4 := hf _ i4.1 (by omega)
      have e : fcost (w 0) (h 0) (f 0) x y = ((f 0 (y * w 0 + min (w 0 - 1) (x + 1)) - f 0 (y * w 0 + max 0 (x - 1))).natAbs : Int) + ((f 0 (min (h 0 - 1) (y + 1) * w 0 + x) - f 0 (max 0 (y - 1) * w 0 + x)).natAbs : Int) := by
        unfold fcost fnear
        rw [show max 0 (min y (h 0 - 1)) = y by omega, show max 0 (min x (w 0 - 1)) = x by omega, show max 0 (min (x + 1) (w 0 - 1)) = min (w 0 - 1) (x + 1) by omega, show max 0 (min (x - 1) (w 0 - 1)) = max 0 (x - 1) by omega, show max 0 (min (y + 1) (h 0 - 1)) = min (h 0 - 1) (y + 1) by omega, show max 0 (min (y - 1) (h 0 - 1)) = max 0 (y - 1) by omega]
      rw [e] at fin
      clear e
      have o := W4.1.1
      generalize f 0 (y * w 0 + min (w 0 - 1) (x + 1)) = A1 at *
      generalize f 0 (y * w 0 + max 0 (x - 1)) = A2 at *
      generalize f 0 (min (h 0 - 1) (y + 1) * w 0 + x) = A3 at *
      generalize f 0 (max 0 (y - 1) * w 0 + x) = A4 at *
      refine R_iload 1282 c_102_1280 rfl rfl ?_
      refine R_aload_n 1283 c_102_1282 rfl rfl ?_
      refine R_iconst 1284 c_102_1283 rfl ?_
      refine R_iload_n 1285 c_102_1284 rfl rfl ?_
      refine R_iconst 1286 c_102_1285 rfl ?_
      refine R_isub 1287 c_102_1286 rfl ?_
      refine R_iload 1289 c_102_1287 rfl rfl ?_
      refine R_iconst 1290 c_102_1289 rfl ?_
      refine R_iadd 1291 c_102_1290 rfl ?_
      refine R_min 1294 c_102_1291 rfl (by unfold inR; omega) (by unfold inR; omega) (Nat.le_of_ble_eq_true rfl) ?_
      refine R_iload 1296 c_102_1294 rfl rfl ?_
      refine R_callV 1299 c_102_1296 rfl rfl rfl rfl (Nat.le_of_ble_eq_true rfl) (Nat.le_of_ble_eq_true rfl) (o) (v1) ?_
      refine R_aload_n 1300 c_102_1299 rfl rfl ?_
      refine R_iconst 1301 c_102_1300 rfl ?_
      refine R_iconst 1302 c_102_1301 rfl ?_
      refine R_iload 1304 c_102_1302 rfl rfl ?_
      refine R_iconst 1305 c_102_1304 rfl ?_
      refine R_isub 1306 c_102_1305 rfl ?_
      refine R_max 1309 c_102_1306 rfl (by unfold inR; omega) (by unfold inR; omega) (Nat.le_of_ble_eq_true rfl) ?_
      refine R_iload 1311 c_102_1309 rfl rfl ?_
      refine R_callV 1314 c_102_1311 rfl rfl rfl rfl (Nat.le_of_ble_eq_true rfl) (Nat.le_of_ble_eq_true rfl) (o) (v2) ?_
      refine R_isub 1315 c_102_1314 rfl ?_
      refine R_abs 1318 c_102_1315 rfl (by unfold inR; omega) (Nat.le_of_ble_eq_true rfl) ?_
      refine R_aload_n 1319 c_102_1318 rfl rfl ?_
      refine R_iconst 1320 c_102_1319 rfl ?_
      refine R_iload 1322 c_102_1320 rfl rfl ?_
      refine R_iload_n 1323 c_102_1322 rfl rfl ?_
      refine R_iconst 1324 c_102_1323 rfl ?_
      refine R_isub 1325 c_102_1324 rfl ?_
      refine R_iload 1327 c_102_1325 rfl rfl ?_
      refine R_iconst 1328 c_102_1327 rfl ?_
      refine R_iadd 1329 c_102_1328 rfl ?_
      refine R_min 1332 c_102_1329 rfl (by unfold inR; omega) (by unfold inR; omega) (Nat.le_of_ble_eq_true rfl) ?_
      refine R_callV 1335 c_102_1332 rfl rfl rfl rfl (Nat.le_of_ble_eq_true rfl) (Nat.le_of_ble_eq_true rfl) (o) (v3) ?_
      refine R_aload_n 1336 c_102_1335 rfl rfl ?_
      refine R_iconst 1337 c_102_1336 rfl ?_
      refine R_iload 1339 c_102_1337 rfl rfl ?_
      refine R_iconst 1340 c_102_1339 rfl ?_
      refine R_iload 1342 c_102_1340 rfl rfl ?_
      refine R_iconst 1343 c_102_1342 rfl ?_
      refine R_isub 1344 c_102_1343 rfl ?_
      refine R_max 1347 c_102_1344 rfl (by unfold inR; omega) (by unfold inR; omega) (Nat.le_of_ble_eq_true rfl) ?_
      refine R_callV 1350 c_102_1347 rfl rfl rfl rfl (Nat.le_of_ble_eq_true rfl) (Nat.le_of_ble_eq_true rfl) (o) (v4) ?_
      refine R_isub 1351 c_102_1350 rfl ?_
      refine R_abs 1354 c_102_1351 rfl (by unfold inR; omega) (Nat.le_of_ble_eq_true rfl) ?_
      refine R_iadd 1355 c_102_1354 rfl ?_
      refine R_iadd 1356 c_102_1355 rfl ?_
      refine R_istore 1358 c_102_1356 rfl ?_
      refine R_iinc 1361 c_102_1358 rfl rfl ?_
      refine R_goto 1228 c_102_1361 rfl ?_
      exact fin _ ⟨rfl, rfl⟩
    have o2 := W2.1.1
    refine R_iload 1230 c_102_1228 rfl rfl ?_
    refine R_iload_n 1231 c_102_1230 rfl rfl ?_
    refine R_br 1234 1364 _ (cmp_ge (by unfold inR; omega) (by unfold inR; omega)) c_102_1231 rfl rfl (fun hn => absurd hn (by omega)) (fun _ => ?_)
    refine R_aload_n 1235 c_102_1234 rfl rfl ?_
    refine R_iconst 1236 c_102_1235 rfl ?_
    refine R_iload 1238 c_102_1236 rfl rfl ?_
    refine R_callV 1241 c_102_1238 rfl rfl rfl rfl (Nat.le_of_ble_eq_true rfl) (Nat.le_of_ble_eq_true rfl) (o2) (c3) ?_
    refine R_istore 1243 c_102_1241 rfl ?_
    refine R_iload 1245 c_102_1243 rfl rfl ?_
    show m_Ev scr 102 1245 [(0, .ref 0), (1, .ref 1), (2, vI (w 0)), (3, vI (h 0)), (9, vI (fsum (fun j => fcost (w 0) (h 0) (f 0) (fcol (w 0) (h 0) (f 0) j) j) y)), (10, vI y), (11, vI (fcol (w 0) (h 0) (f 0) y))] [vI (fcol (w 0) (h 0) (f 0) y)] H3 X
    refine R_brz 1248 1278 _ (cmp_lt (by unfold inR; omega) inR_0) c_102_1245 rfl rfl (fun hn => absurd hn (by omega)) (fun _ => ?_)
    refine R_iload 1250 c_102_1248 rfl rfl ?_
    refine R_iload_n 1251 c_102_1250 rfl rfl ?_
    refine R_br 1254 1278 _ (cmp_ge (by unfold inR; omega) (by unfold inR; omega)) c_102_1251 rfl rfl (fun hn => absurd hn (by omega)) (fun _ => ?_)
    refine R_iload 1256 c_102_1254 rfl rfl ?_
    by_cases hy : y ≤ 0
    · refine R_brz 1259 1280 _ (cmp_le (by unfold inR; omega) inR_0) c_102_1256 rfl rfl (fun _ => ?_) (fun hn => absurd (by omega) hn)
      exact key H3 W3
    · obtain ⟨H5, c5, W5⟩ := ask (by decide) W3 (k_seam (scr := scr) (k := 0) (y := y - 1) W3.1 (by decide) (by omega))
      have hx2 := fcol_bd (w := w 0) (h := h 0) (f := f 0) hd.1 (y - 1)
      have hn := fcol_near (w := w 0) (h := h 0) (f := f 0) hd.1 (y := y - 1) (by omega) (by omega)
      rw [show y - 1 + 1 = y by omega] at hn
      have o3 := W3.1.1
      refine R_brz 1259 1280 _ (cmp_le (by unfold inR; omega) inR_0) c_102_1256 rfl rfl (fun hn => absurd hn (by omega)) (fun _ => ?_)
      refine R_iload 1261 c_102_1259 rfl rfl ?_
      refine R_aload_n 1262 c_102_1261 rfl rfl ?_
      refine R_iconst 1263 c_102_1262 rfl ?_
      refine R_iload 1265 c_102_1263 rfl rfl ?_
      refine R_iconst 1266 c_102_1265 rfl ?_
      refine R_isub 1267 c_102_1266 rfl ?_
      refine R_callV 1270 c_102_1267 rfl rfl rfl rfl (Nat.le_of_ble_eq_true rfl) (Nat.le_of_ble_eq_true rfl) (o3) (c5) ?_
      refine R_isub 1271 c_102_1270 rfl ?_
      refine R_abs 1274 c_102_1271 rfl (by unfold inR; omega) (Nat.le_of_ble_eq_true rfl) ?_
      refine R_iconst 1275 c_102_1274 rfl ?_
      refine R_br 1278 1280 _ (cmp_le (by unfold inR; omega) (by unfold inR; omega)) c_102_1275 rfl rfl (fun _ => ?_) (fun hn => absurd (by omega) hn)
      exact key H5 W5
  · rintro L2 H2 ⟨⟨hL2, hu2⟩, W2⟩
    refine m_keep [0, 1, 2, 3, 9, 10] hu2 ?_
    rw [hL2]
    refine R_iload 1230 c_102_1228 rfl rfl ?_
    refine R_iload_n 1231 c_102_1230 rfl rfl ?_
    refine R_br 1234 1364 _ (cmp_ge (by unfold inR; omega) (by unfold inR; omega)) c_102_1231 rfl rfl (fun _ => ?_) (fun hn => absurd (by omega) hn)
    refine m_keep [0, 1, 2, 3, 9] (by rfl) ?_
    exact K _ W2
theorem L_end (W : Wd H w h f) (hd : 1 ≤ w 0 ∧ w 0 ≤ 8 ∧ 1 ≤ h 0 ∧ h 0 ≤ 8) (hX : ∀ H1 : List mC, H1.length ≤ 600074 ∧ m_sl H1 ≤ 7301550 → X (some (vI 1), H1)) :
    m_Ev scr 102 1364 [(0, .ref 0), (1, .ref 1), (2, vI (w 0)), (3, vI (h 0)), (9, vI (ftot (w 0) (h 0) (f 0)))] [] H X := by
  have hd16 := dim16 hd
  have hf := (W.1.2.2.1 0 (by decide)).2
  have hbt : 0 ≤ ftot (w 0) (h 0) (f 0) ∧ ftot (w 0) (h 0) (f 0) ≤ 4080 := by
    have := fsum_bd (f := fun j => fcost (w 0) (h 0) (f 0) (fcol (w 0) (h 0) (f 0) j) j) (lo := 0) (hi := 510) (fun e _ _ => fcost_bd hf hd16 _ _) (h 0) (by omega) (by omega)
    rw [ftot_all hd.2.2.1]
    omega
  have o := W.1.1
  refine R_iload_n 1365 c_102_1364 rfl rfl ?_
  refine R_iconst 1366 c_102_1365 rfl ?_
  by_cases hw1 : w 0 = 1
  · obtain ⟨_, H1, c1, ⟨rfl, fn, w1⟩, s1⟩ := m_szP (x := 71) (by decide) W.2 (k_widen (scr := scr) (k := 0) W.1 (by decide) (by omega))
    obtain ⟨H2, c2, W2⟩ := ask (by decide) ⟨w1, s1⟩ (k_sheet (scr := scr) (k := 0) (what := 0) w1 (by decide) (by decide))
    have e2 : ffct (m_nu w 0 (w 0 + 1) 0) (h 0) (m_nu f 0 fn 0) 0 = w 0 + 1 := (if_pos rfl).trans (m_nu_at _ _ _)
    rw [e2] at c2
    refine R_br 1369 1395 _ (cmp_ne (by unfold inR; omega) (by unfold inR; omega)) c_102_1366 rfl rfl (fun hn => absurd hn (by omega)) (fun _ => ?_)
    refine R_aload_n 1370 c_102_1369 rfl rfl ?_
    refine R_iconst 1371 c_102_1370 rfl ?_
    refine R_callV 1374 c_102_1371 rfl rfl rfl rfl (Nat.le_of_ble_eq_true rfl) (Nat.le_of_ble_eq_true rfl) (o) (c1) ?_
    refine R_iload 1376 c_102_1374 rfl rfl ?_
    refine R_br 1379 1393 _ (cmp_ne (by unfold inR; omega) (by unfold inR; omega)) c_102_1376 rfl rfl (fun hn => absurd hn (by omega)) (fun _ => ?_)
    refine R_aload_n 1380 c_102_1379 rfl rfl ?_
    refine R_iconst 1381 c_102_1380 rfl ?_
    refine R_iconst 1382 c_102_1381 rfl ?_
    refine R_callV 1385 c_102_1382 rfl rfl rfl rfl (Nat.le_of_ble_eq_true rfl) (Nat.le_of_ble_eq_true rfl) (w1.1) (c2) ?_
    refine R_iconst 1386 c_102_1385 rfl ?_
    refine R_br 1389 1393 _ (cmp_ne (by unfold inR; omega) (by unfold inR; omega)) c_102_1386 rfl rfl (fun hn => absurd hn (by omega)) (fun _ => ?_)
    refine R_iconst 1390 c_102_1389 rfl ?_
    refine R_goto 1394 c_102_1390 rfl ?_
    refine R_zreturn c_102_1394 rfl (by first | decide | (split <;> decide)) ?_
    exact hX _ W2.2
  · obtain ⟨H1, c1, W1⟩ := ask (by decide) W (k_carvedBy1 (scr := scr) (k := 0) W.1 (by decide) (by omega))
    obtain ⟨_, H2, c2, ⟨rfl, fn, w2⟩, s2⟩ := m_szP (x := 70) (by decide) W1.2 (k_carve (scr := scr) (k := 0) W1.1 (by decide) (by omega))
    obtain ⟨H3, c3, W3⟩ := ask (by decide) ⟨w2, s2⟩ (k_sheet (scr := scr) (k := 0) (what := 0) w2 (by decide) (by decide))
    have e3 : ffct (m_nu w 0 (w 0 - 1) 0) (h 0) (m_nu f 0 fn 0) 0 = w 0 - 1 := (if_pos rfl).trans (m_nu_at _ _ _)
    rw [e3] at c3
    refine R_br 1369 1395 _ (cmp_ne (by unfold inR; omega) (by unfold inR; omega)) c_102_1366 rfl rfl (fun _ => ?_) (fun hn => absurd (by omega) hn)
    refine R_aload_n 1396 c_102_1395 rfl rfl ?_
    refine R_iconst 1397 c_102_1396 rfl ?_
    refine R_iconst 1398 c_102_1397 rfl ?_
    refine R_callV 1401 c_102_1398 rfl rfl rfl rfl (Nat.le_of_ble_eq_true rfl) (Nat.le_of_ble_eq_true rfl) (o) (c1) ?_
    refine R_iload 1403 c_102_1401 rfl rfl ?_
    refine R_br 1406 1432 _ (cmp_ne (by unfold inR; omega) (by unfold inR; omega)) c_102_1403 rfl rfl (fun hn => absurd hn (by omega)) (fun _ => ?_)
    refine R_aload_n 1407 c_102_1406 rfl rfl ?_
    refine R_iconst 1408 c_102_1407 rfl ?_
    refine R_callV 1411 c_102_1408 rfl rfl rfl rfl (Nat.le_of_ble_eq_true rfl) (Nat.le_of_ble_eq_true rfl) (W1.1.1) (c2) ?_
    refine R_iload 1413 c_102_1411 rfl rfl ?_
    refine R_br 1416 1432 _ (cmp_ne (by unfold inR; omega) (by unfold inR; omega)) c_102_1413 rfl rfl (fun hn => absurd hn (by omega)) (fun _ => ?_)
    refine R_aload_n 1417 c_102_1416 rfl rfl ?_
    refine R_iconst 1418 c_102_1417 rfl ?_
    refine R_iconst 1419 c_102_1418 rfl ?_
    refine R_callV 1422 c_102_1419 rfl rfl rfl rfl (Nat.le_of_ble_eq_true rfl) (Nat.le_of_ble_eq_true rfl) (w2.1) (c3) ?_
    refine R_iload_n 1423 c_102_1422 rfl rfl ?_
    refine R_iconst 1424 c_102_1423 rfl ?_
    refine R_isub 1425 c_102_1424 rfl ?_
    refine R_br 1428 1432 _ (cmp_ne (by unfold inR; omega) (by unfold inR; omega)) c_102_1425 rfl rfl (fun hn => absurd hn (by omega)) (fun _ => ?_)
    refine R_iconst 1429 c_102_1428 rfl ?_
    refine R_goto 1433 c_102_1429 rfl ?_
    refine R_zreturn c_102_1433 rfl (by first | decide | (split <;> decide)) ?_
    exact hX _ W3.2
theorem L_law (hs : scr.length ≤ 260) (hX : ∀ H1 : List mC, H1.length ≤ 600074 ∧ m_sl H1 ≤ 7301550 → X (some (vI 1), H1)) : m_Ev scr 102 0 [(0, .ref 0)] [] [] X := by
  refine L_begin hs (fun L H w h f W hd hL => ?_)
  refine m_keep [0, 1, 2, 3] hL.2 ?_
  rw [hL.1]
  refine L_ask1 W hd (fun H1 W1 => ?_)
  refine L_ask2 W1 hd (fun H2 W2 => ?_)
  refine L_ask3 W2 hd (fun H3 W3 => ?_)
  refine L_fields W3 hd (fun H4 W4 => ?_)
  refine L_same W4 (fun H5 W5 => ?_)
  refine L_turns W5 hd (fun H6 w6 h6 f6 W6 u6 v6 => ?_)
  rw [← u6, ← v6]
  rw [← u6, ← v6] at hd
  refine L_open W6 hd (fun H7 w7 h7 f7 W7 u7 v7 => ?_)
  rw [← u7, ← v7]
  rw [← u7, ← v7] at hd
  refine L_least W7 hd (fun H8 w8 h8 f8 W8 u8 v8 => ?_)
  rw [← u8, ← v8]
  rw [← u8, ← v8] at hd
  refine L_neg hs W8 hd (fun H9 w9 h9 f9 W9 u9 v9 x9 y9 q9 => ?_)
  rw [← u9, ← v9] at hd q9 ⊢
  rw [← u9] at x9
  rw [← v9] at y9
  refine L_order W9 hd x9 y9 q9 ?_
  refine L_seam W9 hd (fun HA WA => ?_)
  exact L_end WA hd hX
theorem m_law (scr : List Int32) (h : scr.length ≤ 260) : m_Law scr := by
  obtain ⟨n, ⟨v, AHf⟩, hn, hv, h1, h2⟩ := L_law (scr := scr) (X := fun Y => Y.1 = some (.int 1) ∧ Y.2.length ≤ 600074 ∧ m_sl Y.2 ≤ 7301550) h (fun H1 hH => ⟨rfl, hH.1, hH.2⟩)
  change v = some (.int 1) at hv
  subst hv
  exact ⟨n, AHf, hn, h1, h2⟩
end LAW9
