/-! the system: its world -/
def nx (H : List mC) : Prop := ∃ w h f, sh H 11 12 w h f ∧ vok f
def fl (H : List mC) : Prop := ∃ dv bs g, fo H 13 14 dv bs 15 16 g
def bt (H : List mC) : Prop := ∃ w h f, sh H 16 17 w h f ∧ vok f
def ts (H : List mC) : Prop := ∃ n cs ps, tn H n cs ps
def ps (H : List mC) : Prop := ∃ fd wc w h nm wt sz ae, pt H fd wc w h nm wt sz ae
def ss (H : List mC) : Prop := ∃ tt cl sm, se H tt cl sm
def rs (H : List mC) : Prop := ∃ w h f, sh H 29 30 w h f ∧ vok f
def SC (H : List mC) : Prop := nx H ∧ fl H ∧ bt H ∧ ts H ∧ ps H ∧ ss H ∧ rs H
section KP
variable {S : List Nat} {H H1 : List mC}
theorem nx.kp (he : eqo S H H1) (h : nx H) (h1 : 11 ∉ S) (h2 : 12 ∉ S) : nx H1 := by obtain ⟨a, b, c, h, k⟩ := h; exact ⟨a, b, c, sh_eqo he h h1 h2, k⟩
theorem fl.kp (he : eqo S H H1) (h : fl H) (h1 : 13 ∉ S) (h2 : 15 ∉ S) : fl H1 := by obtain ⟨a, b, c, h⟩ := h; exact ⟨a, b, c, (he _ h1).trans h.1, (he _ h2).trans h.2.1, h.2.2⟩
theorem bt.kp (he : eqo S H H1) (h : bt H) (h1 : 16 ∉ S) (h2 : 17 ∉ S) : bt H1 := by obtain ⟨a, b, c, h, k⟩ := h; exact ⟨a, b, c, sh_eqo he h h1 h2, k⟩
theorem ts.kp (he : eqo S H H1) (h : ts H) (h1 : 18 ∉ S) (h2 : 19 ∉ S) (h3 : 20 ∉ S) : ts H1 := by obtain ⟨a, b, c, h⟩ := h; exact ⟨a, b, c, (he _ h1).trans h.1, (he _ h2).trans h.2.1, (he _ h3).trans h.2.2⟩
theorem ps.kp (he : eqo S H H1) (h : ps H) (h1 : 21 ∉ S) (h2 : 22 ∉ S) (h3 : 23 ∉ S) (h4 : 24 ∉ S) (h5 : 25 ∉ S) : ps H1 := by
  obtain ⟨a, b, c, d, e, f, g, i, h⟩ := h
  exact ⟨a, b, c, d, e, f, g, i, (he _ h1).trans h.1, (he _ h2).trans h.2.1, (he _ h3).trans h.2.2.1, (he _ h4).trans h.2.2.2.1, (he _ h5).trans h.2.2.2.2⟩
theorem ss.kp (he : eqo S H H1) (h : ss H) (h1 : 26 ∉ S) (h2 : 27 ∉ S) (h3 : 28 ∉ S) : ss H1 := by obtain ⟨a, b, c, h⟩ := h; exact ⟨a, b, c, (he _ h1).trans h.1, (he _ h2).trans h.2.1, (he _ h3).trans h.2.2⟩
theorem rs.kp (he : eqo S H H1) (h : rs H) (h1 : 29 ∉ S) (h2 : 30 ∉ S) : rs H1 := by obtain ⟨a, b, c, h, k⟩ := h; exact ⟨a, b, c, sh_eqo he h h1 h2, k⟩
end KP
/-- the world: four SHEETS, and what is kept for working -/
def wd (H : List mC) (w h : Nat → Int) (f : Nat → Int → Int) : Prop := m_get H 1 = some (.inr (5, [.ref 2, .ref 11, .ref 13, .ref 18, .ref 21, .ref 26])) ∧ m_get H 2 = some (.inl (2, [.ref 3, .ref 5, .ref 7, .ref 9])) ∧
  (∀ k, k < 4 → sh H (3 + 2 * k) (4 + 2 * k) (w k) (h k) (f k) ∧ vok (f k)) ∧ SC H
def m_nu {α : Type} (g : Nat → α) (k : Nat) (x : α) : Nat → α := fun j => if j = k then x else g j
theorem m_nu_at {α : Type} (g : Nat → α) (k : Nat) (x : α) : m_nu g k x k = x := if_pos rfl
theorem m_nu_ne {α : Type} (g : Nat → α) {k j : Nat} (x : α) (h : j ≠ k) : m_nu g k x j = g j := if_neg h
/-- cells of no SHEET of the four -/
def offS (S : List Nat) : Prop := ∀ q ∈ S, 11 ≤ q
theorem wd_sc {H H1 : List mC} {w h : Nat → Int} {f : Nat → Int → Int} {S : List Nat} (hw : wd H w h f) (he : eqo S H H1) (ho : offS S) (hc : SC H1) : wd H1 w h f := by
  have hn : ∀ q, q < 11 → q ∉ S := fun q hq hm => by have := ho q hm; omega
  exact ⟨(he 1 (hn _ (by omega))).trans hw.1, (he 2 (hn _ (by omega))).trans hw.2.1, fun k hk => ⟨sh_eqo he (hw.2.2.1 k hk).1 (hn _ (by omega)) (hn _ (by omega)), (hw.2.2.1 k hk).2⟩, hc⟩
def offK (k : Nat) (S : List Nat) : Prop := ∀ q ∈ S, 11 ≤ q ∨ q = 3 + 2 * k ∨ q = 4 + 2 * k
theorem wd_set {H H1 : List mC} {w h : Nat → Int} {f : Nat → Int → Int} {S : List Nat} {k : Nat} {wn hn : Int} {fn : Int → Int} (hw : wd H w h f) (he : eqo S H H1) (ho : offK k S) (hs : sh H1 (3 + 2 * k) (4 + 2 * k) wn hn fn) (hv : vok fn) (hc : SC H1) : wd H1 (m_nu w k wn) (m_nu h k hn) (m_nu f k fn) := by
  have h1 : 1 ∉ S := fun hm => by have := ho _ hm; omega
  have h2 : 2 ∉ S := fun hm => by have := ho _ hm; omega
  refine ⟨(he 1 h1).trans hw.1, (he 2 h2).trans hw.2.1, fun j hj => ?_, hc⟩
  by_cases hjk : j = k
  · subst hjk
    rw [m_nu_at, m_nu_at, m_nu_at]
    exact ⟨hs, hv⟩
  · rw [m_nu_ne _ _ hjk, m_nu_ne _ _ hjk, m_nu_ne _ _ hjk]
    exact ⟨sh_eqo he (hw.2.2.1 j hj).1 (fun hm => by have := ho _ hm; omega) (fun hm => by have := ho _ hm; omega), (hw.2.2.1 j hj).2⟩
section MAIN1
variable {scr : List Int32} {H : List mC} {w h : Nat → Int} {f : Nat → Int → Int} {k : Nat}
theorem k_isFrom {lo n hi : Int} (h1 : inR lo) (h2 : inR n) (h3 : inR hi) : m_Cl scr 81 [vI lo, vI n, vI hi] H (some (vI (if lo ≤ n ∧ n ≤ hi then 1 else 0))) H := by
  show m_Ev scr 81 0 [(0, vI lo), (1, vI n), (2, vI hi)] [] H _
  refine R_iload_n 1 c_81_0 rfl rfl ?_
  refine R_iload_n 2 c_81_1 rfl rfl ?_
  refine R_br 5 14 _ (cmp_gt (h1) (h2)) c_81_2 rfl rfl (fun hb => ?_) (fun hb => ?_)
  · refine R_iconst 15 c_81_14 rfl ?_
    rw [if_neg (by omega)]
    exact R_zreturn c_81_15 rfl (by first | decide | (split <;> decide)) rfl
  · refine R_iload_n 6 c_81_5 rfl rfl ?_
    refine R_iload_n 7 c_81_6 rfl rfl ?_
    refine R_br 10 14 _ (cmp_gt (h2) (h3)) c_81_7 rfl rfl (fun hb => ?_) (fun hb => ?_)
    · refine R_iconst 15 c_81_14 rfl ?_
      rw [if_neg (by omega)]
      exact R_zreturn c_81_15 rfl (by first | decide | (split <;> decide)) rfl
    · refine R_iconst 11 c_81_10 rfl ?_
      refine R_goto 15 c_81_11 rfl ?_
      rw [if_pos (by omega)]
      exact R_zreturn c_81_15 rfl (by first | decide | (split <;> decide)) rfl
theorem k_isFromT {lo n hi : Int} (h1 : inR lo) (h2 : inR n) (h3 : inR hi) (hh : lo ≤ n ∧ n ≤ hi) : m_Cl scr 81 [vI lo, vI n, vI hi] H (some (vI 1)) H := by
  have := k_isFrom (scr := scr) (H := H) h1 h2 h3
  rwa [if_pos hh] at this
theorem k_isValueT {n : Int} (hh : 0 ≤ n ∧ n ≤ 255) : m_Cl scr 82 [vI n] H (some (vI 1)) H := by
  show m_Ev scr 82 0 [(0, vI n)] [] H _
  refine R_iconst 1 c_82_0 rfl ?_
  refine R_iload_n 2 c_82_1 rfl rfl ?_
  refine R_sipush 5 c_82_2 rfl (by decide) ?_
  refine R_callS 8 c_82_5 rfl rfl (Nat.le_of_ble_eq_true rfl) (k_isFromT inR_0 (by unfold inR; omega) (by unfold inR; omega) hh) ?_
  exact R_zreturn c_82_8 rfl (by first | decide | (split <;> decide)) rfl
theorem k_isSlopeT {n : Int} (hh : -50 ≤ n ∧ n ≤ 50) : m_Cl scr 83 [vI n] H (some (vI 1)) H := by
  show m_Ev scr 83 0 [(0, vI n)] [] H _
  refine R_bipush 2 c_83_0 rfl (by decide) ?_
  refine R_iload_n 3 c_83_2 rfl rfl ?_
  refine R_bipush 5 c_83_3 rfl (by decide) ?_
  refine R_callS 8 c_83_5 rfl rfl (Nat.le_of_ble_eq_true rfl) (k_isFromT (by unfold inR; omega) (by unfold inR; omega) (by unfold inR; omega) hh) ?_
  exact R_zreturn c_83_8 rfl (by first | decide | (split <;> decide)) rfl
theorem k_isWaysT {n : Int} (hh : n = 4 ∨ n = 8) : m_Cl scr 84 [vI n] H (some (vI 1)) H := by
  show m_Ev scr 84 0 [(0, vI n)] [] H _
  refine R_iload_n 1 c_84_0 rfl rfl ?_
  refine R_iconst 2 c_84_1 rfl ?_
  refine R_br 5 11 _ (cmp_eq (by unfold inR; omega) (by unfold inR; omega)) c_84_2 rfl rfl (fun hb => ?_) (fun hb => ?_)
  · refine R_iconst 12 c_84_11 rfl ?_
    refine R_goto 16 c_84_12 rfl ?_
    exact R_zreturn c_84_16 rfl (by first | decide | (split <;> decide)) rfl
  · refine R_iload_n 6 c_84_5 rfl rfl ?_
    refine R_bipush 8 c_84_6 rfl (by decide) ?_
    refine R_br 11 15 _ (cmp_ne (by unfold inR; omega) (by unfold inR; omega)) c_84_8 rfl rfl (fun hn => absurd hn (by omega)) (fun _ => ?_)
    refine R_iconst 12 c_84_11 rfl ?_
    refine R_goto 16 c_84_12 rfl ?_
    exact R_zreturn c_84_16 rfl (by first | decide | (split <;> decide)) rfl
theorem k_needPlace1 : m_Cl scr 78 [vI 1] H none H := by
  show m_Ev scr 78 0 [(0, vI 1)] [] H _
  refine R_iload_n 1 c_78_0 rfl rfl ?_
  refine R_brz 4 14 _ (cmp_ne (by unfold inR; omega) inR_0) c_78_1 rfl rfl (fun _ => ?_) (fun hn => absurd (by omega) hn)
  exact R_return c_78_14 rfl rfl
theorem k_refuse1 : m_Cl scr 79 [vI 1] H none H := by
  show m_Ev scr 79 0 [(0, vI 1)] [] H _
  refine R_iload_n 1 c_79_0 rfl rfl ?_
  refine R_brz 4 14 _ (cmp_ne (by unfold inR; omega) inR_0) c_79_1 rfl rfl (fun _ => ?_) (fun hn => absurd (by omega) hn)
  exact R_return c_79_14 rfl rfl
theorem k_needState1 : m_Cl scr 80 [vI 1] H none H := by
  show m_Ev scr 80 0 [(0, vI 1)] [] H _
  refine R_iload_n 1 c_80_0 rfl rfl ?_
  refine R_brz 4 14 _ (cmp_ne (by unfold inR; omega) inR_0) c_80_1 rfl rfl (fun _ => ?_) (fun hn => absurd (by omega) hn)
  exact R_return c_80_14 rfl rfl
theorem k_needFieldT {s v : Nat} {w h x y : Int} {f : Int → Int} (hs : sh H s v w h f) (hx : 0 ≤ x ∧ x < w) (hy : 0 ≤ y ∧ y < h) : m_Cl scr 77 [.ref s, vI x, vI y] H none H := by
  obtain ⟨h1, h2, h3, h4⟩ := hs.2.2.2
  show m_Ev scr 77 0 [(0, .ref s), (1, vI x), (2, vI y)] [] H _
  refine R_iconst 1 c_77_0 rfl ?_
  refine R_iload_n 2 c_77_1 rfl rfl ?_
  refine R_aload_n 3 c_77_2 rfl rfl ?_
  refine R_get 6 c_77_3 rfl (hs.1) rfl ?_
  refine R_iconst 7 c_77_6 rfl ?_
  refine R_isub 8 c_77_7 rfl ?_
  refine R_callS 11 c_77_8 rfl rfl (Nat.le_of_ble_eq_true rfl) (k_isFromT inR_0 (by unfold inR; omega) (by unfold inR; omega) ⟨by omega, by omega⟩) ?_
  refine R_brz 14 32 _ (cmp_eq (by unfold inR; omega) inR_0) c_77_11 rfl rfl (fun hn => absurd hn (by omega)) (fun _ => ?_)
  refine R_iconst 15 c_77_14 rfl ?_
  refine R_iload_n 16 c_77_15 rfl rfl ?_
  refine R_aload_n 17 c_77_16 rfl rfl ?_
  refine R_get 20 c_77_17 rfl (hs.1) rfl ?_
  refine R_iconst 21 c_77_20 rfl ?_
  refine R_isub 22 c_77_21 rfl ?_
  refine R_callS 25 c_77_22 rfl rfl (Nat.le_of_ble_eq_true rfl) (k_isFromT inR_0 (by unfold inR; omega) (by unfold inR; omega) ⟨by omega, by omega⟩) ?_
  refine R_brz 28 32 _ (cmp_eq (by unfold inR; omega) inR_0) c_77_25 rfl rfl (fun hn => absurd hn (by omega)) (fun _ => ?_)
  refine R_iconst 29 c_77_28 rfl ?_
  refine R_goto 33 c_77_29 rfl ?_
  refine R_callS 36 c_77_33 rfl rfl (Nat.le_of_ble_eq_true rfl) (k_needPlace1) ?_
  exact R_return c_77_36 rfl rfl
theorem k_sheetAt (hw : wd H w h f) (hk : k < 4) : m_Cl scr 76 [.ref 1, vI k] H (some (.ref (3 + 2 * k))) H := by
  show m_Ev scr 76 0 [(0, .ref 1), (1, vI k)] [] H _
  refine R_iload_n 1 c_76_0 rfl rfl ?_
  refine R_brz 4 9 _ (cmp_lt (by unfold inR; omega) inR_0) c_76_1 rfl rfl (fun hn => absurd hn (by omega)) (fun _ => ?_)
  refine R_iload_n 5 c_76_4 rfl rfl ?_
  refine R_iconst 6 c_76_5 rfl ?_
  refine R_br 9 19 _ (cmp_lt (by unfold inR; omega) (by unfold inR; omega)) c_76_6 rfl rfl (fun _ => ?_) (fun hn => absurd (by omega) hn)
  have hv : ([.ref 3, .ref 5, .ref 7, .ref 9] : List Value)[((k : Int)).toNat]? = some (.ref (3 + 2 * k)) := by
    rw [Int.toNat_natCast]
    rcases (show k = 0 ∨ k = 1 ∨ k = 2 ∨ k = 3 by omega) with rfl | rfl | rfl | rfl <;> rfl
  refine R_aload_n 20 c_76_19 rfl rfl ?_
  refine R_get 23 c_76_20 rfl (hw.1) rfl ?_
  refine R_iload_n 24 c_76_23 rfl rfl ?_
  refine R_aald 25 c_76_24 rfl (hw.2.1) (by omega) (by omega) (hv) ?_
  exact R_areturn c_76_25 rfl rfl
/-- the sheet k becomes what stands in next; how many FIELDS differ -/
theorem k_changeToNext {s v : Nat} {ws hs wn hn : Int} {fs fn : Int → Int} (ho : m_get H 1 = some (.inr (5, [.ref 2, .ref 11, .ref 13, .ref 18, .ref 21, .ref 26]))) (hs1 : sh H s v ws hs fs) (hn1 : sh H 11 12 wn hn fn) (hf : vok fs) (hfn : vok fn) (n1 : s ≠ 11) (n2 : s ≠ 12) (n3 : v ≠ 11) (n4 : v ≠ 12) :
    m_CP scr 85 [.ref 1, .ref s] H (fun v1 H1 => v1 = some (vI (fsum (fdif fs fn) (ws * hs))) ∧ eqo [s, v] H H1 ∧ ∃ fm, sh H1 s v wn hn fm ∧ vok fm ∧ ∀ e, 0 ≤ e → e < wn * hn → fm e = fn e) := by
  obtain ⟨v5, H5, hc5, rfl, q5, fm, s5, hfm, hq⟩ := k_becomeE (scr := scr) hs1 hn1 hf hfn (Ne.symm n1) (Ne.symm n2) (Ne.symm n4) (Ne.symm n3)
  refine m_CP.of ?_
  show m_Ev scr 85 0 [(0, .ref 1), (1, .ref s)] [] H _
  refine R_aload_n 1 c_85_0 rfl rfl ?_
  refine R_aload_n 2 c_85_1 rfl rfl ?_
  refine R_get 5 c_85_2 rfl (ho) rfl ?_
  refine R_callV 8 c_85_5 rfl rfl rfl rfl (Nat.le_of_ble_eq_true rfl) (Nat.le_of_ble_eq_true rfl) (hs1.1) (k_differing hs1 hn1 hf hfn) ?_
  refine R_istore_n 9 c_85_8 rfl ?_
  refine R_aload_n 10 c_85_9 rfl rfl ?_
  refine R_aload_n 11 c_85_10 rfl rfl ?_
  refine R_get 14 c_85_11 rfl (ho) rfl ?_
  refine R_callV 17 c_85_14 rfl rfl rfl rfl (Nat.le_of_ble_eq_true rfl) (Nat.le_of_ble_eq_true rfl) (hs1.1) (hc5) ?_
  refine R_iload_n 18 c_85_17 rfl rfl ?_
  refine R_ireturn c_85_18 rfl ?_
  exact ⟨rfl, q5, fm, s5, hfm, hq⟩
end MAIN1
/-! drawing -/
theorem SC.mk' {S : List Nat} {H H1 : List mC} (h : SC H) (he : eqo S H H1) (a : (11 ∉ S ∧ 12 ∉ S) ∨ nx H1) (b : (13 ∉ S ∧ 15 ∉ S) ∨ fl H1) (c : (16 ∉ S ∧ 17 ∉ S) ∨ bt H1) (d : (18 ∉ S ∧ 19 ∉ S ∧ 20 ∉ S) ∨ ts H1) (e : (21 ∉ S ∧ 22 ∉ S ∧ 23 ∉ S ∧ 24 ∉ S ∧ 25 ∉ S) ∨ ps H1) (f : (26 ∉ S ∧ 27 ∉ S ∧ 28 ∉ S) ∨ ss H1) (g : (29 ∉ S ∧ 30 ∉ S) ∨ rs H1) : SC H1 :=
  ⟨a.elim (fun q => h.1.kp he q.1 q.2) id, b.elim (fun q => h.2.1.kp he q.1 q.2) id, c.elim (fun q => h.2.2.1.kp he q.1 q.2) id, d.elim (fun q => h.2.2.2.1.kp he q.1 q.2.1 q.2.2) id, e.elim (fun q => h.2.2.2.2.1.kp he q.1 q.2.1 q.2.2.1 q.2.2.2.1 q.2.2.2.2) id, f.elim (fun q => h.2.2.2.2.2.1.kp he q.1 q.2.1 q.2.2) id, g.elim (fun q => h.2.2.2.2.2.2.kp he q.1 q.2) id⟩
theorem SC_low {S : List Nat} {H H1 : List mC} (h : SC H) (he : eqo S H H1) (hS : ∀ q ∈ S, q < 11) : SC H1 := by
  have hn : ∀ q, 11 ≤ q → q ∉ S := fun q hq hm => by have := hS q hm; omega
  exact h.mk' he (Or.inl ⟨hn _ (by omega), hn _ (by omega)⟩) (Or.inl ⟨hn _ (by omega), hn _ (by omega)⟩) (Or.inl ⟨hn _ (by omega), hn _ (by omega)⟩) (Or.inl ⟨hn _ (by omega), hn _ (by omega), hn _ (by omega)⟩) (Or.inl ⟨hn _ (by omega), hn _ (by omega), hn _ (by omega), hn _ (by omega), hn _ (by omega)⟩) (Or.inl ⟨hn _ (by omega), hn _ (by omega), hn _ (by omega)⟩) (Or.inl ⟨hn _ (by omega), hn _ (by omega)⟩)
/-- .. and next -/
theorem SC_nx {S : List Nat} {H H1 : List mC} (h : SC H) (he : eqo S H H1) (hS : ∀ q ∈ S, q < 13) (hx : nx H1) : SC H1 := by
  have hn : ∀ q, 13 ≤ q → q ∉ S := fun q hq hm => by have := hS q hm; omega
  exact h.mk' he (Or.inr hx) (Or.inl ⟨hn _ (by omega), hn _ (by omega)⟩) (Or.inl ⟨hn _ (by omega), hn _ (by omega)⟩) (Or.inl ⟨hn _ (by omega), hn _ (by omega), hn _ (by omega)⟩) (Or.inl ⟨hn _ (by omega), hn _ (by omega), hn _ (by omega), hn _ (by omega), hn _ (by omega)⟩) (Or.inl ⟨hn _ (by omega), hn _ (by omega), hn _ (by omega)⟩) (Or.inl ⟨hn _ (by omega), hn _ (by omega)⟩)
theorem m_nu_self {α : Type} (g : Nat → α) (k : Nat) : m_nu g k (g k) = g := by funext j; unfold m_nu; split <;> simp_all
section MAIN2
variable {scr : List Int32} {H : List mC} {w h : Nat → Int} {f : Nat → Int → Int} {k k2 : Nat}
set_option maxHeartbeats 4000000 in
theorem k_fresh {wn hn n : Int} (hw : wd H w h f) (hk : k < 4) (hd : 1 ≤ wn ∧ wn ≤ 16 ∧ 1 ≤ hn ∧ hn ≤ 16) (hn' : 0 ≤ n ∧ n ≤ 255) :
    m_CP scr 52 [.ref 1, vI k, vI wn, vI hn, vI n] H (fun v1 H1 => v1 = some (vI (wn * hn)) ∧ ∃ fn, wd H1 (m_nu w k wn) (m_nu h k hn) (m_nu f k fn)) := by
  obtain ⟨hsk, hvk⟩ := hw.2.2.1 k hk
  have ha := m_area hd.1 hd.2.1 hd.2.2.1 hd.2.2.2
  refine m_CP.of ?_
  show m_Ev scr 52 0 [(0, .ref 1), (1, vI k), (2, vI wn), (3, vI hn), (4, vI n)] [] H _
  refine m_gen (fun X hX => ?_)
  refine R_aload_n 1 c_52_0 rfl rfl ?_
  refine R_iload_n 2 c_52_1 rfl rfl ?_
  refine R_callV 5 c_52_2 rfl rfl rfl rfl (Nat.le_of_ble_eq_true rfl) (Nat.le_of_ble_eq_true rfl) (hw.1) (k_sheetAt hw hk) ?_
  refine R_astore 7 c_52_5 rfl ?_
  refine R_iconst 8 c_52_7 rfl ?_
  refine R_iload_n 9 c_52_8 rfl rfl ?_
  refine R_bipush 11 c_52_9 rfl (by decide) ?_
  refine R_callS 14 c_52_11 rfl rfl (Nat.le_of_ble_eq_true rfl) (k_isFromT (by unfold inR; omega) (by unfold inR; omega) (by unfold inR; omega) ⟨by omega, by omega⟩) ?_
  refine R_brz 17 39 _ (cmp_eq (by unfold inR; omega) inR_0) c_52_14 rfl rfl (fun hn => absurd hn (by omega)) (fun _ => ?_)
  refine R_iconst 18 c_52_17 rfl ?_
  refine R_iload_n 19 c_52_18 rfl rfl ?_
  refine R_bipush 21 c_52_19 rfl (by decide) ?_
  refine R_callS 24 c_52_21 rfl rfl (Nat.le_of_ble_eq_true rfl) (k_isFromT (by unfold inR; omega) (by unfold inR; omega) (by unfold inR; omega) ⟨by omega, by omega⟩) ?_
  refine R_brz 27 39 _ (cmp_eq (by unfold inR; omega) inR_0) c_52_24 rfl rfl (fun hn => absurd hn (by omega)) (fun _ => ?_)
  refine R_iload 29 c_52_27 rfl rfl ?_
  refine R_callS 32 c_52_29 rfl rfl (Nat.le_of_ble_eq_true rfl) (k_isValueT hn') ?_
  refine R_brz 35 39 _ (cmp_eq (by unfold inR; omega) inR_0) c_52_32 rfl rfl (fun hn => absurd hn (by omega)) (fun _ => ?_)
  refine R_iconst 36 c_52_35 rfl ?_
  refine R_goto 40 c_52_36 rfl ?_
  refine R_callS 43 c_52_40 rfl rfl (Nat.le_of_ble_eq_true rfl) (k_refuse1) ?_
  refine R_aload 45 c_52_43 rfl rfl ?_
  refine R_iload_n 46 c_52_45 rfl rfl ?_
  refine R_iload_n 47 c_52_46 rfl rfl ?_
  refine R_callV 50 c_52_47 rfl rfl rfl rfl (Nat.le_of_ble_eq_true rfl) (Nat.le_of_ble_eq_true rfl) (hsk.1) (k_measure hsk) ?_
  have q1 : eqo [3 + 2 * k, 4 + 2 * k] H (m_set H (3 + 2 * k) (.inr (3, [vI wn, vI hn, .ref (4 + 2 * k)]))) := (eqo.rf _ H).st (by simp)
  have s1 : sh (m_set H (3 + 2 * k) (.inr (3, [vI wn, vI hn, .ref (4 + 2 * k)]))) (3 + 2 * k) (4 + 2 * k) wn hn (f k) := ⟨m_gs_eq hsk.1, (m_gs_ne (by omega)).trans hsk.2.1, by omega, hd⟩
  show m_Ev scr 52 50 _ [] (m_set H (3 + 2 * k) (.inr (3, [vI wn, vI hn, .ref (4 + 2 * k)]))) X
  generalize m_set H (3 + 2 * k) (.inr (3, [vI wn, vI hn, .ref (4 + 2 * k)])) = H1 at q1 s1 ⊢
  refine R_iconst 51 c_52_50 rfl ?_
  refine R_istore 53 c_52_51 rfl ?_
  refine m_forP (wn * hn) (fun i L H2 => (L = [(0, .ref 1), (1, vI k), (2, vI wn), (3, vI hn), (4, vI n), (5, .ref (3 + 2 * k)), (6, vI i)]) ∧ eqo [3 + 2 * k, 4 + 2 * k] H H2 ∧ ∃ fn, sh H2 (3 + 2 * k) (4 + 2 * k) wn hn fn ∧ vok fn) 0 ⟨rfl, q1, _, s1, hvk⟩ (by omega) ?_ ?_
  · rintro i _ H2 i0 i1 ⟨rfl, q2, fn, s2, hfn⟩ ih
    refine R_iload 55 c_52_53 rfl rfl ?_
    refine R_aload 57 c_52_55 rfl rfl ?_
    refine R_callV 60 c_52_57 rfl rfl rfl rfl (Nat.le_of_ble_eq_true rfl) (Nat.le_of_ble_eq_true rfl) (s2.1) (k_size s2) ?_
    refine R_br 63 79 _ (cmp_ge (by unfold inR; omega) (by unfold inR; omega)) c_52_60 rfl rfl (fun hn => absurd hn (by omega)) (fun _ => ?_)
    refine R_aload 65 c_52_63 rfl rfl ?_
    refine R_get 68 c_52_65 rfl (s2.1) rfl ?_
    refine R_iload 70 c_52_68 rfl rfl ?_
    refine R_iload 72 c_52_70 rfl rfl ?_
    refine R_iast 73 c_52_72 rfl (s2.2.1) (by omega) (by omega) (by decide) ?_
    refine R_iinc 76 c_52_73 rfl rfl ?_
    refine R_goto 53 c_52_76 rfl ?_
    exact ih _ _ ⟨rfl, q2.st (by simp), _, ⟨(m_gs_ne (by omega)).trans s2.1, m_gs_eq s2.2.1, s2.2.2⟩, m_up_vok hfn hn'⟩
  · rintro _ H2 ⟨rfl, q2, fn, s2, hfn⟩
    refine R_iload 55 c_52_53 rfl rfl ?_
    refine R_aload 57 c_52_55 rfl rfl ?_
    refine R_callV 60 c_52_57 rfl rfl rfl rfl (Nat.le_of_ble_eq_true rfl) (Nat.le_of_ble_eq_true rfl) (s2.1) (k_size s2) ?_
    refine R_br 63 79 _ (cmp_ge (by unfold inR; omega) (by unfold inR; omega)) c_52_60 rfl rfl (fun _ => ?_) (fun hn => absurd (by omega) hn)
    refine R_aload 81 c_52_79 rfl rfl ?_
    refine R_callV 84 c_52_81 rfl rfl rfl rfl (Nat.le_of_ble_eq_true rfl) (Nat.le_of_ble_eq_true rfl) (s2.1) (k_size s2) ?_
    refine R_ireturn c_52_84 rfl ?_
    exact hX _ _ ⟨rfl, fn, wd_set hw q2 (fun q hq => by simp at hq; omega) s2 hfn (SC_low hw.2.2.2 q2 (fun q hq => by simp at hq; omega))⟩
theorem k_dot {x y n : Int} (hw : wd H w h f) (hk : k < 4) (hx : 0 ≤ x ∧ x < w k) (hy : 0 ≤ y ∧ y < h k) (hn' : 0 ≤ n ∧ n ≤ 255) :
    m_CP scr 53 [.ref 1, vI k, vI x, vI y, vI n] H (fun v1 H1 => (∃ r, v1 = some (vI r)) ∧ ∃ fn, wd H1 w h (m_nu f k fn)) := by
  obtain ⟨hsk, hvk⟩ := hw.2.2.1 k hk
  obtain ⟨h1, h2, h3, h4⟩ := hsk.2.2.2
  refine m_CP.of ?_
  show m_Ev scr 53 0 [(0, .ref 1), (1, vI k), (2, vI x), (3, vI y), (4, vI n)] [] H _
  refine R_aload_n 1 c_53_0 rfl rfl ?_
  refine R_iload_n 2 c_53_1 rfl rfl ?_
  refine R_callV 5 c_53_2 rfl rfl rfl rfl (Nat.le_of_ble_eq_true rfl) (Nat.le_of_ble_eq_true rfl) (hw.1) (k_sheetAt hw hk) ?_
  refine R_astore 7 c_53_5 rfl ?_
  refine R_aload 9 c_53_7 rfl rfl ?_
  refine R_iload_n 10 c_53_9 rfl rfl ?_
  refine R_iload_n 11 c_53_10 rfl rfl ?_
  refine R_callS 14 c_53_11 rfl rfl (Nat.le_of_ble_eq_true rfl) (k_needFieldT hsk hx hy) ?_
  refine R_iload 16 c_53_14 rfl rfl ?_
  refine R_callS 19 c_53_16 rfl rfl (Nat.le_of_ble_eq_true rfl) (k_isValueT hn') ?_
  refine R_callS 22 c_53_19 rfl rfl (Nat.le_of_ble_eq_true rfl) (k_refuse1) ?_
  refine R_aload 24 c_53_22 rfl rfl ?_
  refine R_iload_n 25 c_53_24 rfl rfl ?_
  refine R_iload_n 26 c_53_25 rfl rfl ?_
  refine R_callV 29 c_53_26 rfl rfl rfl rfl (Nat.le_of_ble_eq_true rfl) (Nat.le_of_ble_eq_true rfl) (hsk.1) (k_near hsk (by unfold inR; omega) (by unfold inR; omega)) ?_
  refine R_istore 31 c_53_29 rfl ?_
  refine R_aload 33 c_53_31 rfl rfl ?_
  refine R_iload_n 34 c_53_33 rfl rfl ?_
  refine R_iload_n 35 c_53_34 rfl rfl ?_
  refine R_iload 37 c_53_35 rfl rfl ?_
  refine R_callV 40 c_53_37 rfl rfl rfl rfl (Nat.le_of_ble_eq_true rfl) (Nat.le_of_ble_eq_true rfl) (hsk.1) (k_put hsk hx.1 hx.2 hy.1 hy.2 (by unfold inR; omega)) ?_
  refine R_iload 42 c_53_40 rfl rfl ?_
  refine R_ireturn c_53_42 rfl ?_
  have q2 : eqo [3 + 2 * k, 4 + 2 * k] H (m_set H (4 + 2 * k) (.inl (0, aI 256 (m_up (f k) (y * w k + x) (max 0 (min n 255)))))) := (eqo.rf _ H).st (by simp)
  have hv := m_up_vok (e := y * w k + x) (n := max 0 (min n 255)) hvk (by omega)
  have := wd_set hw q2 (fun q hq => by simp at hq; omega) ⟨(m_gs_ne (by omega)).trans hsk.1, m_gs_eq hsk.2.1, hsk.2.2⟩ hv (SC_low hw.2.2.2 q2 (fun q hq => by simp at hq; omega))
  refine ⟨⟨_, rfl⟩, m_up (f k) (y * w k + x) (max 0 (min n 255)), ?_⟩
  rw [show m_nu w k (w k) = w by funext j; unfold m_nu; split <;> simp_all, show m_nu h k (h k) = h by funext j; unfold m_nu; split <;> simp_all] at this
  exact this
set_option maxHeartbeats 4000000 in
theorem k_disc {x y r n : Int} (hw : wd H w h f) (hk : k < 4) (hx : 0 ≤ x ∧ x < w k) (hy : 0 ≤ y ∧ y < h k) (hr : 0 ≤ r ∧ r ≤ 20) (hn' : 0 ≤ n ∧ n ≤ 255) :
    m_CP scr 54 [.ref 1, vI k, vI x, vI y, vI r, vI n] H (fun v1 H1 => (∃ z, v1 = some (vI z)) ∧ ∃ fn, wd H1 w h (m_nu f k fn)) := by
  obtain ⟨hsk, hvk⟩ := hw.2.2.1 k hk
  obtain ⟨h1, h2, h3, h4⟩ := id hsk.2.2.2
  obtain ⟨wx, hx', fx, sx, hfx⟩ := hw.2.2.2.1
  refine m_CP.of ?_
  show m_Ev scr 54 0 [(0, .ref 1), (1, vI k), (2, vI x), (3, vI y), (4, vI r), (5, vI n)] [] H _
  refine m_gen (fun X hX => ?_)
  refine R_aload_n 1 c_54_0 rfl rfl ?_
  refine R_iload_n 2 c_54_1 rfl rfl ?_
  refine R_callV 5 c_54_2 rfl rfl rfl rfl (Nat.le_of_ble_eq_true rfl) (Nat.le_of_ble_eq_true rfl) (hw.1) (k_sheetAt hw hk) ?_
  refine R_astore 7 c_54_5 rfl ?_
  refine R_aload 9 c_54_7 rfl rfl ?_
  refine R_iload_n 10 c_54_9 rfl rfl ?_
  refine R_iload_n 11 c_54_10 rfl rfl ?_
  refine R_callS 14 c_54_11 rfl rfl (Nat.le_of_ble_eq_true rfl) (k_needFieldT hsk hx hy) ?_
  refine R_iconst 15 c_54_14 rfl ?_
  refine R_iload 17 c_54_15 rfl rfl ?_
  refine R_bipush 19 c_54_17 rfl (by decide) ?_
  refine R_callS 22 c_54_19 rfl rfl (Nat.le_of_ble_eq_true rfl) (k_isFromT inR_0 (by unfold inR; omega) (by unfold inR; omega) hr) ?_
  refine R_brz 25 37 _ (cmp_eq (by unfold inR; omega) inR_0) c_54_22 rfl rfl (fun hn => absurd hn (by omega)) (fun _ => ?_)
  refine R_iload 27 c_54_25 rfl rfl ?_
  refine R_callS 30 c_54_27 rfl rfl (Nat.le_of_ble_eq_true rfl) (k_isValueT hn') ?_
  refine R_brz 33 37 _ (cmp_eq (by unfold inR; omega) inR_0) c_54_30 rfl rfl (fun hn => absurd hn (by omega)) (fun _ => ?_)
  obtain ⟨v1, H1, hc1, rfl, q1, fn1, s1, hv1, -⟩ := k_becomeE (scr := scr) sx hsk hfx hvk (by omega) (by omega) (by omega) (by omega)
  refine R_iconst 34 c_54_33 rfl ?_
  refine R_goto 38 c_54_34 rfl ?_
  refine R_callS 41 c_54_38 rfl rfl (Nat.le_of_ble_eq_true rfl) (k_refuse1) ?_
  refine R_aload_n 42 c_54_41 rfl rfl ?_
  refine R_get 45 c_54_42 rfl (hw.1) rfl ?_
  refine R_aload 47 c_54_45 rfl rfl ?_
  refine R_callV 50 c_54_47 rfl rfl rfl rfl (Nat.le_of_ble_eq_true rfl) (Nat.le_of_ble_eq_true rfl) (sx.1) (hc1) ?_
  refine R_iconst 51 c_54_50 rfl ?_
  refine R_istore 53 c_54_51 rfl ?_
  have O : ∀ H2, eqo [11, 12] H H2 → m_get H2 1 = some (.inr (5, [.ref 2, .ref 11, .ref 13, .ref 18, .ref 21, .ref 26])) := fun H2 q => (q 1 (by decide)).trans hw.1
  have I : ∀ H2, eqo [11, 12] H H2 → sh H2 (3 + 2 * k) (4 + 2 * k) (w k) (h k) (f k) := fun H2 q => sh_eqo q hsk (by simp; omega) (by simp; omega)
  refine m_forP (h k) (fun yy L H2 => (L.filter (fun q => [0, 1, 2, 3, 4, 5, 6, 7].contains q.1) = [(0, .ref 1), (1, vI k), (2, vI x), (3, vI y), (4, vI r), (5, vI n), (6, .ref (3 + 2 * k)), (7, vI yy)] ∧ m_ku L = true) ∧ eqo [11, 12] H H2 ∧ ∃ fn, sh H2 11 12 (w k) (h k) fn ∧ vok fn) 0 ⟨⟨rfl, rfl⟩, q1, fn1, s1, hv1⟩ (by omega) ?_ ?_
  · rintro yy L2 H2 y0 y1 ⟨⟨hL2, hu2⟩, q2, fn2, s2, hv2⟩ ih
    refine m_keep [0, 1, 2, 3, 4, 5, 6, 7] hu2 ?_
    rw [hL2]
    refine R_iload 55 c_54_53 rfl rfl ?_
    refine R_aload 57 c_54_55 rfl rfl ?_
    refine R_get 60 c_54_57 rfl ((I _ q2).1) rfl ?_
    refine R_br 63 132 _ (cmp_ge (by unfold inR; omega) (by unfold inR; omega)) c_54_60 rfl rfl (fun hn => absurd hn (by omega)) (fun _ => ?_)
    refine R_iconst 64 c_54_63 rfl ?_
    refine R_istore 66 c_54_64 rfl ?_
    refine m_forP (w k) (fun xx L H2 => (L.filter (fun q => [0, 1, 2, 3, 4, 5, 6, 7, 8].contains q.1) = [(0, .ref 1), (1, vI k), (2, vI x), (3, vI y), (4, vI r), (5, vI n), (6, .ref (3 + 2 * k)), (7, vI yy), (8, vI xx)] ∧ m_ku L = true ∧ L.filter (fun q => [0, 1, 2, 3, 4, 5, 6, 7].contains q.1) = [(0, .ref 1), (1, vI k), (2, vI x), (3, vI y), (4, vI r), (5, vI n), (6, .ref (3 + 2 * k)), (7, vI yy)]) ∧ eqo [11, 12] H H2 ∧ ∃ fn, sh H2 11 12 (w k) (h k) fn ∧ vok fn) 0 ⟨⟨rfl, rfl, rfl⟩, q2, fn2, s2, hv2⟩ (by omega) ?_ ?_
    · rintro xx L3 H3 x0 x1 ⟨⟨hL3, hu3, -⟩, q3, fn3, s3, hv3⟩ ih2
      refine m_keep [0, 1, 2, 3, 4, 5, 6, 7, 8] hu3 ?_
      rw [hL3]
      refine R_iload 68 c_54_66 rfl rfl ?_
      refine R_aload 70 c_54_68 rfl rfl ?_
      refine R_get 73 c_54_70 rfl ((I _ q3).1) rfl ?_
      refine R_br 76 126 _ (cmp_ge (by unfold inR; omega) (by unfold inR; omega)) c_54_73 rfl rfl (fun hn => absurd hn (by omega)) (fun _ => ?_)
      have b1 : (xx - x) * (xx - x) ≤ 16 * 16 ∧ 0 ≤ (xx - x) * (xx - x) := by
        have e1 : (xx - x) * (xx - x) = ((xx - x).natAbs : Int) * ((xx - x).natAbs : Int) := by rw [← Int.natAbs_mul_self]; simp
        have e2 : ((xx - x).natAbs : Int) * ((xx - x).natAbs : Int) ≤ 16 * 16 := Int.mul_le_mul (by omega) (by omega) (by omega) (by omega)
        have e3 : 0 ≤ ((xx - x).natAbs : Int) * ((xx - x).natAbs : Int) := Int.mul_nonneg (by omega) (by omega)
        omega
      have b2 : (yy - y) * (yy - y) ≤ 16 * 16 ∧ 0 ≤ (yy - y) * (yy - y) := by
        have e1 : (yy - y) * (yy - y) = ((yy - y).natAbs : Int) * ((yy - y).natAbs : Int) := by rw [← Int.natAbs_mul_self]; simp
        have e2 : ((yy - y).natAbs : Int) * ((yy - y).natAbs : Int) ≤ 16 * 16 := Int.mul_le_mul (by omega) (by omega) (by omega) (by omega)
        have e3 : 0 ≤ ((yy - y).natAbs : Int) * ((yy - y).natAbs : Int) := Int.mul_nonneg (by omega) (by omega)
        omega
      have b3 : r * r ≤ 20 * 20 ∧ 0 ≤ r * r := ⟨Int.mul_le_mul (by omega) (by omega) (by omega) (by omega), Int.mul_nonneg (by omega) (by omega)⟩
      refine R_iload 78 c_54_76 rfl rfl ?_
      refine R_iload_n 79 c_54_78 rfl rfl ?_
      refine R_isub 80 c_54_79 rfl ?_
      refine R_istore 82 c_54_80 rfl ?_
      refine R_iload 84 c_54_82 rfl rfl ?_
      refine R_iload_n 85 c_54_84 rfl rfl ?_
      refine R_isub 86 c_54_85 rfl ?_
      refine R_istore 88 c_54_86 rfl ?_
      refine R_iload 90 c_54_88 rfl rfl ?_
      refine R_iload 92 c_54_90 rfl rfl ?_
      refine R_imul 93 c_54_92 rfl ?_
      refine R_iload 95 c_54_93 rfl rfl ?_
      refine R_iload 97 c_54_95 rfl rfl ?_
      refine R_imul 98 c_54_97 rfl ?_
      refine R_iadd 99 c_54_98 rfl ?_
      refine R_iload 101 c_54_99 rfl rfl ?_
      refine R_iload 103 c_54_101 rfl rfl ?_
      refine R_imul 104 c_54_103 rfl ?_
      refine R_br 107 120 _ (cmp_gt (by unfold inR; omega) (by unfold inR; omega)) c_54_104 rfl rfl (fun hb => ?_) (fun hb => ?_)
      · refine R_iinc 123 c_54_120 rfl rfl ?_
        refine R_goto 66 c_54_123 rfl ?_
        exact ih2 _ _ ⟨⟨rfl, rfl, rfl⟩, q3, fn3, s3, hv3⟩
      · refine R_aload_n 108 c_54_107 rfl rfl ?_
        refine R_get 111 c_54_108 rfl (O _ q3) rfl ?_
        refine R_iload 113 c_54_111 rfl rfl ?_
        refine R_iload 115 c_54_113 rfl rfl ?_
        refine R_iload 117 c_54_115 rfl rfl ?_
        refine R_callV 120 c_54_117 rfl rfl rfl rfl (Nat.le_of_ble_eq_true rfl) (Nat.le_of_ble_eq_true rfl) (s3.1) (k_put s3 x0 x1 y0 y1 (by unfold inR; omega)) ?_
        refine R_iinc 123 c_54_120 rfl rfl ?_
        refine R_goto 66 c_54_123 rfl ?_
        exact ih2 _ _ ⟨⟨rfl, rfl, rfl⟩, q3.st (by decide), _, ⟨(m_gs_ne (by decide)).trans s3.1, m_gs_eq s3.2.1, s3.2.2⟩, m_up_vok hv3 (by omega)⟩
    · rintro L3 H3 ⟨⟨hL3, hu3, -⟩, q3, fn3, s3, hv3⟩
      refine m_keep [0, 1, 2, 3, 4, 5, 6, 7, 8] hu3 ?_
      rw [hL3]
      refine R_iload 68 c_54_66 rfl rfl ?_
      refine R_aload 70 c_54_68 rfl rfl ?_
      refine R_get 73 c_54_70 rfl ((I _ q3).1) rfl ?_
      refine R_br 76 126 _ (cmp_ge (by unfold inR; omega) (by unfold inR; omega)) c_54_73 rfl rfl (fun _ => ?_) (fun hn => absurd (by omega) hn)
      refine R_iinc 129 c_54_126 rfl rfl ?_
      refine R_goto 53 c_54_129 rfl ?_
      exact ih _ _ ⟨⟨rfl, rfl⟩, q3, fn3, s3, hv3⟩
  · rintro L2 H2 ⟨⟨hL2, hu2⟩, q2, fn2, s2, hv2⟩
    refine m_keep [0, 1, 2, 3, 4, 5, 6, 7] hu2 ?_
    rw [hL2]
    refine R_iload 55 c_54_53 rfl rfl ?_
    refine R_aload 57 c_54_55 rfl rfl ?_
    refine R_get 60 c_54_57 rfl ((I _ q2).1) rfl ?_
    refine R_br 63 132 _ (cmp_ge (by unfold inR; omega) (by unfold inR; omega)) c_54_60 rfl rfl (fun _ => ?_) (fun hn => absurd (by omega) hn)
    obtain ⟨v5, H5, hc5, rfl, q5, fm, s5, hfm, -⟩ := k_changeToNext (scr := scr) (O _ q2) (I _ q2) s2 hvk hv2 (by omega) (by omega) (by omega) (by omega)
    refine R_aload_n 133 c_54_132 rfl rfl ?_
    refine R_aload 135 c_54_133 rfl rfl ?_
    refine R_callV 138 c_54_135 rfl rfl rfl rfl (Nat.le_of_ble_eq_true rfl) (Nat.le_of_ble_eq_true rfl) (O _ q2) (hc5) ?_
    refine R_ireturn c_54_138 rfl ?_
    have q6 : eqo [3 + 2 * k, 4 + 2 * k, 11, 12] H H5 := (q2.wd (by simp)).tr (q5.wd (by simp))
    have := wd_set hw q6 (fun q hq => by simp at hq; omega) s5 hfm (SC_nx hw.2.2.2 q6 (fun q hq => by simp at hq; omega) ⟨_, _, _, sh_eqo q5 s2 (by simp; omega) (by simp; omega), hv2⟩)
    rw [show m_nu w k (w k) = w by funext j; unfold m_nu; split <;> simp_all, show m_nu h k (h k) = h by funext j; unfold m_nu; split <;> simp_all] at this
    exact hX _ _ ⟨⟨_, rfl⟩, _, this⟩
end MAIN2
/-! shade, copy, turn -/
section MAIN3
variable {scr : List Int32} {H : List mC} {w h : Nat → Int} {f : Nat → Int → Int} {k k2 : Nat}
theorem m_mulb {a b A B : Int} (h1 : -A ≤ a ∧ a ≤ A) (h2 : 0 ≤ b ∧ b ≤ B) (hA : 0 ≤ A) : -(A * B) ≤ a * b ∧ a * b ≤ A * B := by
  have e1 : a * b ≤ A * b := Int.mul_le_mul_of_nonneg_right h1.2 h2.1
  have e2 : A * b ≤ A * B := Int.mul_le_mul_of_nonneg_left h2.2 hA
  have e3 : -A * b ≤ a * b := Int.mul_le_mul_of_nonneg_right h1.1 h2.1
  rw [Int.neg_mul] at e3
  omega
set_option maxHeartbeats 4000000 in
theorem k_shade {ac al ro : Int} (hw : wd H w h f) (hk : k < 4) (ha1 : -50 ≤ ac ∧ ac ≤ 50) (ha2 : -50 ≤ al ∧ al ≤ 50) (ha3 : -50 ≤ ro ∧ ro ≤ 50) :
    m_CP scr 55 [.ref 1, vI k, vI ac, vI al, vI ro] H (fun v1 H1 => (∃ z, v1 = some (vI z)) ∧ ∃ fn, wd H1 w h (m_nu f k fn)) := by
  obtain ⟨hsk, hvk⟩ := hw.2.2.1 k hk
  obtain ⟨h1, h2, h3, h4⟩ := id hsk.2.2.2
  refine m_CP.of ?_
  show m_Ev scr 55 0 [(0, .ref 1), (1, vI k), (2, vI ac), (3, vI al), (4, vI ro)] [] H _
  refine m_gen (fun X hX => ?_)
  refine R_aload_n 1 c_55_0 rfl rfl ?_
  refine R_iload_n 2 c_55_1 rfl rfl ?_
  refine R_callV 5 c_55_2 rfl rfl rfl rfl (Nat.le_of_ble_eq_true rfl) (Nat.le_of_ble_eq_true rfl) (hw.1) (k_sheetAt hw hk) ?_
  refine R_astore 7 c_55_5 rfl ?_
  refine R_iload_n 8 c_55_7 rfl rfl ?_
  refine R_callS 11 c_55_8 rfl rfl (Nat.le_of_ble_eq_true rfl) (k_isSlopeT ha1) ?_
  refine R_brz 14 33 _ (cmp_eq (by unfold inR; omega) inR_0) c_55_11 rfl rfl (fun hn => absurd hn (by omega)) (fun _ => ?_)
  refine R_iload_n 15 c_55_14 rfl rfl ?_
  refine R_callS 18 c_55_15 rfl rfl (Nat.le_of_ble_eq_true rfl) (k_isSlopeT ha2) ?_
  refine R_brz 21 33 _ (cmp_eq (by unfold inR; omega) inR_0) c_55_18 rfl rfl (fun hn => absurd hn (by omega)) (fun _ => ?_)
  refine R_iload 23 c_55_21 rfl rfl ?_
  refine R_callS 26 c_55_23 rfl rfl (Nat.le_of_ble_eq_true rfl) (k_isSlopeT ha3) ?_
  refine R_brz 29 33 _ (cmp_eq (by unfold inR; omega) inR_0) c_55_26 rfl rfl (fun hn => absurd hn (by omega)) (fun _ => ?_)
  refine R_iconst 30 c_55_29 rfl ?_
  refine R_goto 34 c_55_30 rfl ?_
  refine R_callS 37 c_55_34 rfl rfl (Nat.le_of_ble_eq_true rfl) (k_refuse1) ?_
  refine R_iconst 38 c_55_37 rfl ?_
  refine R_istore 40 c_55_38 rfl ?_
  refine m_forP (h k) (fun y L H2 => (L.filter (fun q => [0, 1, 2, 3, 4, 5, 6].contains q.1) = [(0, .ref 1), (1, vI k), (2, vI ac), (3, vI al), (4, vI ro), (5, .ref (3 + 2 * k)), (6, vI y)] ∧ m_ku L = true) ∧ eqo [3 + 2 * k, 4 + 2 * k] H H2 ∧ ∃ fn, sh H2 (3 + 2 * k) (4 + 2 * k) (w k) (h k) fn ∧ vok fn) 0 ⟨⟨rfl, rfl⟩, eqo.rf _ _, _, hsk, hvk⟩ (by omega) ?_ ?_
  · rintro y L2 H2 y0 y1 ⟨⟨hL2, hu2⟩, q2, fn2, s2, hv2⟩ ih
    refine m_keep [0, 1, 2, 3, 4, 5, 6] hu2 ?_
    rw [hL2]
    refine R_iload 42 c_55_40 rfl rfl ?_
    refine R_aload 44 c_55_42 rfl rfl ?_
    refine R_get 47 c_55_44 rfl (s2.1) rfl ?_
    refine R_br 50 132 _ (cmp_ge (by unfold inR; omega) (by unfold inR; omega)) c_55_47 rfl rfl (fun hn => absurd hn (by omega)) (fun _ => ?_)
    refine R_iconst 51 c_55_50 rfl ?_
    refine R_istore 53 c_55_51 rfl ?_
    refine m_forP (w k) (fun x L H2 => (L.filter (fun q => [0, 1, 2, 3, 4, 5, 6, 7].contains q.1) = [(0, .ref 1), (1, vI k), (2, vI ac), (3, vI al), (4, vI ro), (5, .ref (3 + 2 * k)), (6, vI y), (7, vI x)] ∧ m_ku L = true) ∧ eqo [3 + 2 * k, 4 + 2 * k] H H2 ∧ ∃ fn, sh H2 (3 + 2 * k) (4 + 2 * k) (w k) (h k) fn ∧ vok fn) 0 ⟨⟨rfl, rfl⟩, q2, fn2, s2, hv2⟩ (by omega) ?_ ?_
    · rintro x L3 H3 x0 x1 ⟨⟨hL3, hu3⟩, q3, fn3, s3, hv3⟩ ih2
      refine m_keep [0, 1, 2, 3, 4, 5, 6, 7] hu3 ?_
      rw [hL3]
      refine R_iload 55 c_55_53 rfl rfl ?_
      refine R_aload 57 c_55_55 rfl rfl ?_
      refine R_get 60 c_55_57 rfl (s3.1) rfl ?_
      refine R_br 63 126 _ (cmp_ge (by unfold inR; omega) (by unfold inR; omega)) c_55_60 rfl rfl (fun hn => absurd hn (by omega)) (fun _ => ?_)
      have b0 : 0 ≤ x * y ∧ x * y ≤ 16 * 16 := ⟨Int.mul_nonneg x0 y0, Int.mul_le_mul (by omega) (by omega) (by omega) (by omega)⟩
      have b1 := m_mulb (a := ac) (b := x) (A := 50) (B := 16) (by omega) (by omega) (by omega)
      have b2 := m_mulb (a := al) (b := y) (A := 50) (B := 16) (by omega) (by omega) (by omega)
      have b3 := m_mulb (a := ro) (b := (x * 5 + y * 11 + x * y * 3) % 13) (A := 50) (B := 13) (by omega) (by omega) (by omega)
      rw [Int.mul_comm ro] at b3
      have hn := fnear_ok hv3 h1 h2 h3 h4 x y
      refine R_iload_n 64 c_55_63 rfl rfl ?_
      refine R_iload 66 c_55_64 rfl rfl ?_
      refine R_imul 67 c_55_66 rfl ?_
      refine R_iload_n 68 c_55_67 rfl rfl ?_
      refine R_iload 70 c_55_68 rfl rfl ?_
      refine R_imul 71 c_55_70 rfl ?_
      refine R_iadd 72 c_55_71 rfl ?_
      refine R_iload 74 c_55_72 rfl rfl ?_
      refine R_iconst 75 c_55_74 rfl ?_
      refine R_imul 76 c_55_75 rfl ?_
      refine R_iload 78 c_55_76 rfl rfl ?_
      refine R_bipush 80 c_55_78 rfl (by decide) ?_
      refine R_imul 81 c_55_80 rfl ?_
      refine R_iadd 82 c_55_81 rfl ?_
      refine R_iload 84 c_55_82 rfl rfl ?_
      refine R_iload 86 c_55_84 rfl rfl ?_
      refine R_imul 87 c_55_86 rfl ?_
      refine R_iconst 88 c_55_87 rfl ?_
      refine R_imul 89 c_55_88 rfl ?_
      refine R_iadd 90 c_55_89 rfl ?_
      refine R_bipush 92 c_55_90 rfl (by decide) ?_
      refine R_iremp 93 c_55_92 rfl (by omega) (by omega) ?_
      refine R_iload 95 c_55_93 rfl rfl ?_
      refine R_imul 96 c_55_95 rfl ?_
      refine R_iadd 97 c_55_96 rfl ?_
      refine R_istore 99 c_55_97 rfl ?_
      refine R_aload 101 c_55_99 rfl rfl ?_
      refine R_iload 103 c_55_101 rfl rfl ?_
      refine R_iload 105 c_55_103 rfl rfl ?_
      refine R_aload 107 c_55_105 rfl rfl ?_
      refine R_iload 109 c_55_107 rfl rfl ?_
      refine R_iload 111 c_55_109 rfl rfl ?_
      refine R_callV 114 c_55_111 rfl rfl rfl rfl (Nat.le_of_ble_eq_true rfl) (Nat.le_of_ble_eq_true rfl) (s3.1) (k_near s3 (by unfold inR; omega) (by unfold inR; omega)) ?_
      refine R_iload 116 c_55_114 rfl rfl ?_
      refine R_iadd 117 c_55_116 rfl ?_
      refine R_callV 120 c_55_117 rfl rfl rfl rfl (Nat.le_of_ble_eq_true rfl) (Nat.le_of_ble_eq_true rfl) (s3.1) (k_put s3 x0 x1 y0 y1 (by unfold inR; omega)) ?_
      refine R_iinc 123 c_55_120 rfl rfl ?_
      refine R_goto 53 c_55_123 rfl ?_
      exact ih2 _ _ ⟨⟨rfl, rfl⟩, q3.st (by simp), _, ⟨(m_gs_ne (by omega)).trans s3.1, m_gs_eq s3.2.1, s3.2.2⟩, m_up_vok hv3 (by omega)⟩
    · rintro L3 H3 ⟨⟨hL3, hu3⟩, q3, fn3, s3, hv3⟩
      refine m_keep [0, 1, 2, 3, 4, 5, 6, 7] hu3 ?_
      rw [hL3]
      refine R_iload 55 c_55_53 rfl rfl ?_
      refine R_aload 57 c_55_55 rfl rfl ?_
      refine R_get 60 c_55_57 rfl (s3.1) rfl ?_
      refine R_br 63 126 _ (cmp_ge (by unfold inR; omega) (by unfold inR; omega)) c_55_60 rfl rfl (fun _ => ?_) (fun hn => absurd (by omega) hn)
      refine R_iinc 129 c_55_126 rfl rfl ?_
      refine R_goto 40 c_55_129 rfl ?_
      exact ih _ _ ⟨⟨rfl, rfl⟩, q3, fn3, s3, hv3⟩
  · rintro L2 H2 ⟨⟨hL2, hu2⟩, q2, fn2, s2, hv2⟩
    refine m_keep [0, 1, 2, 3, 4, 5, 6] hu2 ?_
    rw [hL2]
    refine R_iload 42 c_55_40 rfl rfl ?_
    refine R_aload 44 c_55_42 rfl rfl ?_
    refine R_get 47 c_55_44 rfl (s2.1) rfl ?_
    refine R_br 50 132 _ (cmp_ge (by unfold inR; omega) (by unfold inR; omega)) c_55_47 rfl rfl (fun _ => ?_) (fun hn => absurd (by omega) hn)
    refine R_aload 134 c_55_132 rfl rfl ?_
    refine R_callV 137 c_55_134 rfl rfl rfl rfl (Nat.le_of_ble_eq_true rfl) (Nat.le_of_ble_eq_true rfl) (s2.1) (k_total s2) ?_
    refine R_ireturn c_55_137 rfl ?_
    have := wd_set hw q2 (fun q hq => by simp at hq; omega) s2 hv2 (SC_low hw.2.2.2 q2 (fun q hq => by simp at hq; omega))
    rw [m_nu_self, m_nu_self] at this
    exact hX _ _ ⟨⟨_, rfl⟩, _, this⟩
theorem k_copy (hw : wd H w h f) (hk : k < 4) (hk2 : k2 < 4) (hne : k ≠ k2) :
    m_CP scr 56 [.ref 1, vI k, vI k2] H (fun v1 H1 => v1 = some (vI (if w k2 = w k ∧ h k2 = h k then fsum (fdif (f k2) (f k)) (w k * h k) else -1)) ∧ ∃ fn, wd H1 (m_nu w k2 (w k)) (m_nu h k2 (h k)) (m_nu f k2 fn) ∧ ∀ e, 0 ≤ e → e < w k * h k → fn e = f k e) := by
  obtain ⟨hsk, hvk⟩ := hw.2.2.1 k hk
  obtain ⟨hs2, hv2⟩ := hw.2.2.1 k2 hk2
  obtain ⟨h1, h2, h3, h4⟩ := id hsk.2.2.2
  obtain ⟨v5, H5, hc5, rfl, q5, fn, s5, hfn, hq⟩ := k_becomeE (scr := scr) hs2 hsk hv2 hvk (by omega) (by omega) (by omega) (by omega)
  have hl := k_isAsLargeAs (scr := scr) hs2 hsk
  have W := wd_set hw q5 (fun q hq => by simp at hq; omega) s5 hfn (SC_low hw.2.2.2 q5 (fun q hq => by simp at hq; omega))
  refine m_CP.of ?_
  show m_Ev scr 56 0 [(0, .ref 1), (1, vI k), (2, vI k2)] [] H _
  refine m_gen (fun X hX => ?_)
  by_cases hc : w k2 = w k ∧ h k2 = h k
  · rw [if_pos hc] at hX hl
    have hd := k_differing (scr := scr) hs2 hsk hv2 hvk
    rw [hc.1, hc.2] at hd
    refine R_aload_n 1 c_56_0 rfl rfl ?_
    refine R_iload_n 2 c_56_1 rfl rfl ?_
    refine R_callV 5 c_56_2 rfl rfl rfl rfl (Nat.le_of_ble_eq_true rfl) (Nat.le_of_ble_eq_true rfl) (hw.1) (k_sheetAt hw hk) ?_
    refine R_astore_n 6 c_56_5 rfl ?_
    refine R_aload_n 7 c_56_6 rfl rfl ?_
    refine R_iload_n 8 c_56_7 rfl rfl ?_
    refine R_callV 11 c_56_8 rfl rfl rfl rfl (Nat.le_of_ble_eq_true rfl) (Nat.le_of_ble_eq_true rfl) (hw.1) (k_sheetAt hw hk2) ?_
    refine R_astore 13 c_56_11 rfl ?_
    refine R_aload 15 c_56_13 rfl rfl ?_
    refine R_aload_n 16 c_56_15 rfl rfl ?_
    refine R_callV 19 c_56_16 rfl rfl rfl rfl (Nat.le_of_ble_eq_true rfl) (Nat.le_of_ble_eq_true rfl) (hs2.1) (hl) ?_
    refine R_brz 22 31 _ (cmp_eq (by unfold inR; omega) inR_0) c_56_19 rfl rfl (fun hn => absurd hn (by omega)) (fun _ => ?_)
    refine R_aload 24 c_56_22 rfl rfl ?_
    refine R_aload_n 25 c_56_24 rfl rfl ?_
    refine R_callV 28 c_56_25 rfl rfl rfl rfl (Nat.le_of_ble_eq_true rfl) (Nat.le_of_ble_eq_true rfl) (hs2.1) (hd) ?_
    refine R_goto 32 c_56_28 rfl ?_
    refine R_istore 34 c_56_32 rfl ?_
    refine R_aload 36 c_56_34 rfl rfl ?_
    refine R_aload_n 37 c_56_36 rfl rfl ?_
    refine R_callV 40 c_56_37 rfl rfl rfl rfl (Nat.le_of_ble_eq_true rfl) (Nat.le_of_ble_eq_true rfl) (hs2.1) (hc5) ?_
    refine R_iload 42 c_56_40 rfl rfl ?_
    refine R_ireturn c_56_42 rfl ?_
    exact hX _ _ ⟨rfl, fn, W, hq⟩
  · rw [if_neg hc] at hX hl
    refine R_aload_n 1 c_56_0 rfl rfl ?_
    refine R_iload_n 2 c_56_1 rfl rfl ?_
    refine R_callV 5 c_56_2 rfl rfl rfl rfl (Nat.le_of_ble_eq_true rfl) (Nat.le_of_ble_eq_true rfl) (hw.1) (k_sheetAt hw hk) ?_
    refine R_astore_n 6 c_56_5 rfl ?_
    refine R_aload_n 7 c_56_6 rfl rfl ?_
    refine R_iload_n 8 c_56_7 rfl rfl ?_
    refine R_callV 11 c_56_8 rfl rfl rfl rfl (Nat.le_of_ble_eq_true rfl) (Nat.le_of_ble_eq_true rfl) (hw.1) (k_sheetAt hw hk2) ?_
    refine R_astore 13 c_56_11 rfl ?_
    refine R_aload 15 c_56_13 rfl rfl ?_
    refine R_aload_n 16 c_56_15 rfl rfl ?_
    refine R_callV 19 c_56_16 rfl rfl rfl rfl (Nat.le_of_ble_eq_true rfl) (Nat.le_of_ble_eq_true rfl) (hs2.1) (hl) ?_
    refine R_brz 22 31 _ (cmp_eq (by unfold inR; omega) inR_0) c_56_19 rfl rfl (fun _ => ?_) (fun hn => absurd (by omega) hn)
    refine R_iconst 32 c_56_31 rfl ?_
    refine R_istore 34 c_56_32 rfl ?_
    refine R_aload 36 c_56_34 rfl rfl ?_
    refine R_aload_n 37 c_56_36 rfl rfl ?_
    refine R_callV 40 c_56_37 rfl rfl rfl rfl (Nat.le_of_ble_eq_true rfl) (Nat.le_of_ble_eq_true rfl) (hs2.1) (hc5) ?_
    refine R_iload 42 c_56_40 rfl rfl ?_
    refine R_ireturn c_56_42 rfl ?_
    exact hX _ _ ⟨rfl, fn, W, hq⟩
def tsd (a b how : Int) : Int := if how = 0 then b else if how = 2 then max 1 (a / 2) else if how = 3 then a * 2 else a
def tvl (w h : Int) (f : Int → Int) (how x y : Int) : Int := if how = 0 then fnear w h f y (h - 1 - x) else if how = 1 then fnear w h f (w - 1 - x) y else if how = 2 then (fnear w h f (2 * x) (2 * y) + fnear w h f (2 * x + 1) (2 * y) + fnear w h f (2 * x) (2 * y + 1) + fnear w h f (2 * x + 1) (2 * y + 1)) / 4 else fnear w h f (x / 2) (y / 2)
theorem k_turnedSide {a b how : Int} (ha : 1 ≤ a ∧ a ≤ 16) (hh : 0 ≤ how ∧ how ≤ 3) : m_Cl scr 86 [vI a, vI b, vI how] H (some (vI (tsd a b how))) H := by
  show m_Ev scr 86 0 [(0, vI a), (1, vI b), (2, vI how)] [] H _
  refine R_iload_n 1 c_86_0 rfl rfl ?_
  rcases (show how = 0 ∨ how = 1 ∨ how = 2 ∨ how = 3 by omega) with rfl | rfl | rfl | rfl
  · refine R_tsw 32 c_86_1 (by unfold inR; omega) rfl ?_
    refine R_iload_n 33 c_86_32 rfl rfl ?_
    exact R_ireturn c_86_33 rfl rfl
  · refine R_tsw 46 c_86_1 (by unfold inR; omega) rfl ?_
    refine R_iload_n 47 c_86_46 rfl rfl ?_
    exact R_ireturn c_86_47 rfl rfl
  · refine R_tsw 34 c_86_1 (by unfold inR; omega) rfl ?_
    refine R_iconst 35 c_86_34 rfl ?_
    refine R_iload_n 36 c_86_35 rfl rfl ?_
    refine R_iconst 37 c_86_36 rfl ?_
    refine R_idivp 38 c_86_37 rfl (by omega) (by omega) ?_
    refine R_max 41 c_86_38 rfl (by unfold inR; omega) (by unfold inR; omega) (Nat.le_of_ble_eq_true rfl) ?_
    exact R_ireturn c_86_41 rfl rfl
  · refine R_tsw 42 c_86_1 (by unfold inR; omega) rfl ?_
    refine R_iload_n 43 c_86_42 rfl rfl ?_
    refine R_iconst 44 c_86_43 rfl ?_
    refine R_imul 45 c_86_44 rfl ?_
    exact R_ireturn c_86_45 rfl rfl
theorem tvl_ok {w h : Int} {f : Int → Int} (hf : vok f) (h1 : 1 ≤ w) (h2 : w ≤ 16) (h3 : 1 ≤ h) (h4 : h ≤ 16) (how x y : Int) : 0 ≤ tvl w h f how x y ∧ tvl w h f how x y ≤ 255 := by
  have n := fnear_ok hf h1 h2 h3 h4
  have n1 := n (2 * x) (2 * y)
  have n2 := n (2 * x + 1) (2 * y)
  have n3 := n (2 * x) (2 * y + 1)
  have n4 := n (2 * x + 1) (2 * y + 1)
  unfold tvl
  split
  · exact n _ _
  · split
    · exact n _ _
    · split
      · omega
      · exact n _ _
theorem k_turnedValue {s v : Nat} {w h x y how : Int} {f : Int → Int} (hs : sh H s v w h f) (hf : vok f) (hx : 0 ≤ x ∧ x ≤ 16) (hy : 0 ≤ y ∧ y ≤ 16) (hh : 0 ≤ how ∧ how ≤ 3) : m_Cl scr 87 [.ref s, vI how, vI x, vI y] H (some (vI (tvl w h f how x y))) H := by
  obtain ⟨h1, h2, h3, h4⟩ := hs.2.2.2
  have n := fnear_ok hf h1 h2 h3 h4
  show m_Ev scr 87 0 [(0, .ref s), (1, vI how), (2, vI x), (3, vI y)] [] H _
  refine R_iload_n 1 c_87_0 rfl rfl ?_
  rcases (show how = 0 ∨ how = 1 ∨ how = 2 ∨ how = 3 by omega) with rfl | rfl | rfl | rfl
  · refine R_tsw 28 c_87_1 (by unfold inR; omega) rfl ?_
    refine R_aload_n 29 c_87_28 rfl rfl ?_
    refine R_iload_n 30 c_87_29 rfl rfl ?_
    refine R_aload_n 31 c_87_30 rfl rfl ?_
    refine R_get 34 c_87_31 rfl (hs.1) rfl ?_
    refine R_iconst 35 c_87_34 rfl ?_
    refine R_isub 36 c_87_35 rfl ?_
    refine R_iload_n 37 c_87_36 rfl rfl ?_
    refine R_isub 38 c_87_37 rfl ?_
    refine R_callV 41 c_87_38 rfl rfl rfl rfl (Nat.le_of_ble_eq_true rfl) (Nat.le_of_ble_eq_true rfl) (hs.1) (k_near hs (by unfold inR; omega) (by unfold inR; omega)) ?_
    exact R_ireturn c_87_41 rfl rfl
  · refine R_tsw 42 c_87_1 (by unfold inR; omega) rfl ?_
    refine R_aload_n 43 c_87_42 rfl rfl ?_
    refine R_aload_n 44 c_87_43 rfl rfl ?_
    refine R_get 47 c_87_44 rfl (hs.1) rfl ?_
    refine R_iconst 48 c_87_47 rfl ?_
    refine R_isub 49 c_87_48 rfl ?_
    refine R_iload_n 50 c_87_49 rfl rfl ?_
    refine R_isub 51 c_87_50 rfl ?_
    refine R_iload_n 52 c_87_51 rfl rfl ?_
    refine R_callV 55 c_87_52 rfl rfl rfl rfl (Nat.le_of_ble_eq_true rfl) (Nat.le_of_ble_eq_true rfl) (hs.1) (k_near hs (by unfold inR; omega) (by unfold inR; omega)) ?_
    exact R_ireturn c_87_55 rfl rfl
  · have n1 := n (2 * x) (2 * y)
    have n2 := n (2 * x + 1) (2 * y)
    have n3 := n (2 * x) (2 * y + 1)
    have n4 := n (2 * x + 1) (2 * y + 1)
    refine R_tsw 56 c_87_1 (by unfold inR; omega) rfl ?_
    refine R_aload_n 57 c_87_56 rfl rfl ?_
    refine R_iconst 58 c_87_57 rfl ?_
    refine R_iload_n 59 c_87_58 rfl rfl ?_
    refine R_imul 60 c_87_59 rfl ?_
    refine R_iconst 61 c_87_60 rfl ?_
    refine R_iload_n 62 c_87_61 rfl rfl ?_
    refine R_imul 63 c_87_62 rfl ?_
    refine R_callV 66 c_87_63 rfl rfl rfl rfl (Nat.le_of_ble_eq_true rfl) (Nat.le_of_ble_eq_true rfl) (hs.1) (k_near hs (by unfold inR; omega) (by unfold inR; omega)) ?_
    refine R_aload_n 67 c_87_66 rfl rfl ?_
    refine R_iconst 68 c_87_67 rfl ?_
    refine R_iload_n 69 c_87_68 rfl rfl ?_
    refine R_imul 70 c_87_69 rfl ?_
    refine R_iconst 71 c_87_70 rfl ?_
    refine R_iadd 72 c_87_71 rfl ?_
    refine R_iconst 73 c_87_72 rfl ?_
    refine R_iload_n 74 c_87_73 rfl rfl ?_
    refine R_imul 75 c_87_74 rfl ?_
    refine R_callV 78 c_87_75 rfl rfl rfl rfl (Nat.le_of_ble_eq_true rfl) (Nat.le_of_ble_eq_true rfl) (hs.1) (k_near hs (by unfold inR; omega) (by unfold inR; omega)) ?_
    refine R_iadd 79 c_87_78 rfl ?_
    refine R_aload_n 80 c_87_79 rfl rfl ?_
    refine R_iconst 81 c_87_80 rfl ?_
    refine R_iload_n 82 c_87_81 rfl rfl ?_
    refine R_imul 83 c_87_82 rfl ?_
    refine R_iconst 84 c_87_83 rfl ?_
    refine R_iload_n 85 c_87_84 rfl rfl ?_
    refine R_imul 86 c_87_85 rfl ?_
    refine R_iconst 87 c_87_86 rfl ?_
    refine R_iadd 88 c_87_87 rfl ?_
    refine R_callV 91 c_87_88 rfl rfl rfl rfl (Nat.le_of_ble_eq_true rfl) (Nat.le_of_ble_eq_true rfl) (hs.1) (k_near hs (by unfold inR; omega) (by unfold inR; omega)) ?_
    refine R_iadd 92 c_87_91 rfl ?_
    refine R_aload_n 93 c_87_92 rfl rfl ?_
    refine R_iconst 94 c_87_93 rfl ?_
    refine R_iload_n 95 c_87_94 rfl rfl ?_
    refine R_imul 96 c_87_95 rfl ?_
    refine R_iconst 97 c_87_96 rfl ?_
    refine R_iadd 98 c_87_97 rfl ?_
    refine R_iconst 99 c_87_98 rfl ?_
    refine R_iload_n 100 c_87_99 rfl rfl ?_
    refine R_imul 101 c_87_100 rfl ?_
    refine R_iconst 102 c_87_101 rfl ?_
    refine R_iadd 103 c_87_102 rfl ?_
    refine R_callV 106 c_87_103 rfl rfl rfl rfl (Nat.le_of_ble_eq_true rfl) (Nat.le_of_ble_eq_true rfl) (hs.1) (k_near hs (by unfold inR; omega) (by unfold inR; omega)) ?_
    refine R_iadd 107 c_87_106 rfl ?_
    refine R_iconst 108 c_87_107 rfl ?_
    refine R_idivp 109 c_87_108 rfl (by omega) (by omega) ?_
    exact R_ireturn c_87_109 rfl rfl
  · refine R_tsw 110 c_87_1 (by unfold inR; omega) rfl ?_
    refine R_aload_n 111 c_87_110 rfl rfl ?_
    refine R_iload_n 112 c_87_111 rfl rfl ?_
    refine R_iconst 113 c_87_112 rfl ?_
    refine R_idivp 114 c_87_113 rfl (by omega) (by omega) ?_
    refine R_iload_n 115 c_87_114 rfl rfl ?_
    refine R_iconst 116 c_87_115 rfl ?_
    refine R_idivp 117 c_87_116 rfl (by omega) (by omega) ?_
    refine R_callV 120 c_87_117 rfl rfl rfl rfl (Nat.le_of_ble_eq_true rfl) (Nat.le_of_ble_eq_true rfl) (hs.1) (k_near hs (by unfold inR; omega) (by unfold inR; omega)) ?_
    exact R_ireturn c_87_120 rfl rfl
set_option maxHeartbeats 4000000 in
theorem k_turn {how : Int} (hw : wd H w h f) (hk : k < 4) (hh : 0 ≤ how ∧ how ≤ 3) (hb : how = 3 → w k ≤ 8 ∧ h k ≤ 8) :
    m_CP scr 57 [.ref 1, vI k, vI how] H (fun v1 H1 => v1 = some (vI (tsd (w k) (h k) how * tsd (h k) (w k) how)) ∧ ∃ fn, wd H1 (m_nu w k (tsd (w k) (h k) how)) (m_nu h k (tsd (h k) (w k) how)) (m_nu f k fn) ∧ ∀ x y, 0 ≤ x → x < tsd (w k) (h k) how → 0 ≤ y → y < tsd (h k) (w k) how → fn (y * tsd (w k) (h k) how + x) = tvl (w k) (h k) (f k) how x y) := by
  obtain ⟨hsk, hvk⟩ := hw.2.2.1 k hk
  obtain ⟨h1, h2, h3, h4⟩ := id hsk.2.2.2
  obtain ⟨wx, hx', fx, sx, hfx⟩ := hw.2.2.2.1
  have hd : 1 ≤ tsd (w k) (h k) how ∧ tsd (w k) (h k) how ≤ 16 ∧ 1 ≤ tsd (h k) (w k) how ∧ tsd (h k) (w k) how ≤ 16 := by
    unfold tsd
    rcases (show how = 0 ∨ how = 1 ∨ how = 2 ∨ how = 3 by omega) with rfl | rfl | rfl | rfl
    · simp; omega
    · simp; omega
    · simp; omega
    · have := hb rfl; simp; omega
  have t1 := k_turnedSide (scr := scr) (H := H) (a := w k) (b := h k) ⟨h1, h2⟩ hh
  have t2 := k_turnedSide (scr := scr) (H := H) (a := h k) (b := w k) ⟨h3, h4⟩ hh
  generalize tsd (w k) (h k) how = wn at *
  generalize tsd (h k) (w k) how = hn at *
  obtain ⟨d1, d2, d3, d4⟩ := hd
  refine m_CP.of ?_
  show m_Ev scr 57 0 [(0, .ref 1), (1, vI k), (2, vI how)] [] H _
  refine m_gen (fun X hX => ?_)
  refine R_aload_n 1 c_57_0 rfl rfl ?_
  refine R_iload_n 2 c_57_1 rfl rfl ?_
  refine R_callV 5 c_57_2 rfl rfl rfl rfl (Nat.le_of_ble_eq_true rfl) (Nat.le_of_ble_eq_true rfl) (hw.1) (k_sheetAt hw hk) ?_
  refine R_astore_n 6 c_57_5 rfl ?_
  refine R_iconst 7 c_57_6 rfl ?_
  refine R_iload_n 8 c_57_7 rfl rfl ?_
  refine R_iconst 9 c_57_8 rfl ?_
  refine R_callS 12 c_57_9 rfl rfl (Nat.le_of_ble_eq_true rfl) (k_isFromT inR_0 (by unfold inR; omega) (by unfold inR; omega) hh) ?_
  refine R_callS 15 c_57_12 rfl rfl (Nat.le_of_ble_eq_true rfl) (k_refuse1) ?_
  refine R_aload_n 16 c_57_15 rfl rfl ?_
  refine R_get 19 c_57_16 rfl (hsk.1) rfl ?_
  refine R_aload_n 20 c_57_19 rfl rfl ?_
  refine R_get 23 c_57_20 rfl (hsk.1) rfl ?_
  refine R_iload_n 24 c_57_23 rfl rfl ?_
  refine R_callS 27 c_57_24 rfl rfl (Nat.le_of_ble_eq_true rfl) (t1) ?_
  refine R_istore 29 c_57_27 rfl ?_
  refine R_aload_n 30 c_57_29 rfl rfl ?_
  refine R_get 33 c_57_30 rfl (hsk.1) rfl ?_
  refine R_aload_n 34 c_57_33 rfl rfl ?_
  refine R_get 37 c_57_34 rfl (hsk.1) rfl ?_
  refine R_iload_n 38 c_57_37 rfl rfl ?_
  refine R_callS 41 c_57_38 rfl rfl (Nat.le_of_ble_eq_true rfl) (t2) ?_
  refine R_istore 43 c_57_41 rfl ?_
  refine R_iload 45 c_57_43 rfl rfl ?_
  refine R_bipush 47 c_57_45 rfl (by decide) ?_
  refine R_br 50 61 _ (cmp_gt (by unfold inR; omega) (by unfold inR; omega)) c_57_47 rfl rfl (fun hn => absurd hn (by omega)) (fun _ => ?_)
  refine R_iload 52 c_57_50 rfl rfl ?_
  refine R_bipush 54 c_57_52 rfl (by decide) ?_
  refine R_br 57 61 _ (cmp_gt (by unfold inR; omega) (by unfold inR; omega)) c_57_54 rfl rfl (fun hn => absurd hn (by omega)) (fun _ => ?_)
  refine R_iconst 58 c_57_57 rfl ?_
  refine R_goto 62 c_57_58 rfl ?_
  refine R_callS 65 c_57_62 rfl rfl (Nat.le_of_ble_eq_true rfl) (k_needState1) ?_
  refine R_aload_n 66 c_57_65 rfl rfl ?_
  refine R_get 69 c_57_66 rfl (hw.1) rfl ?_
  refine R_iload 71 c_57_69 rfl rfl ?_
  refine R_iload 73 c_57_71 rfl rfl ?_
  refine R_callV 76 c_57_73 rfl rfl rfl rfl (Nat.le_of_ble_eq_true rfl) (Nat.le_of_ble_eq_true rfl) (sx.1) (k_measure sx) ?_
  have q1 : eqo [11, 12] H (m_set H 11 (.inr (3, [vI wn, vI hn, .ref 12]))) := (eqo.rf _ H).st (by decide)
  have s1 : sh (m_set H 11 (.inr (3, [vI wn, vI hn, .ref 12]))) 11 12 wn hn fx := ⟨m_gs_eq sx.1, (m_gs_ne (by decide)).trans sx.2.1, by decide, d1, d2, d3, d4⟩
  show m_Ev scr 57 76 _ [] (m_set H 11 (.inr (3, [vI wn, vI hn, .ref 12]))) X
  generalize m_set H 11 (.inr (3, [vI wn, vI hn, .ref 12])) = H1 at q1 s1 ⊢
  have O : ∀ H2, eqo [11, 12] H H2 → m_get H2 1 = some (.inr (5, [.ref 2, .ref 11, .ref 13, .ref 18, .ref 21, .ref 26])) := fun H2 q => (q 1 (by decide)).trans hw.1
  have I : ∀ H2, eqo [11, 12] H H2 → sh H2 (3 + 2 * k) (4 + 2 * k) (w k) (h k) (f k) := fun H2 q => sh_eqo q hsk (by simp; omega) (by simp; omega)
  refine m_nrm [(0, .ref 1), (1, vI k), (2, vI how), (3, .ref (3 + 2 * k)), (4, vI wn), (5, vI hn)] rfl ?_
  refine R_iconst 77 c_57_76 rfl ?_
  refine R_istore 79 c_57_77 rfl ?_
  refine m_forP hn (fun y L H2 => (L.filter (fun q => [0, 1, 2, 3, 4, 5, 6].contains q.1) = [(0, .ref 1), (1, vI k), (2, vI how), (3, .ref (3 + 2 * k)), (4, vI wn), (5, vI hn), (6, vI y)] ∧ m_ku L = true) ∧ eqo [11, 12] H H2 ∧ ∃ fn, sh H2 11 12 wn hn fn ∧ vok fn ∧ ∀ x' y', 0 ≤ x' → x' < wn → 0 ≤ y' → y' < y → fn (y' * wn + x') = tvl (w k) (h k) (f k) how x' y') 0 ⟨⟨rfl, rfl⟩, q1, _, s1, hfx, fun x' y' _ _ _ _ => by omega⟩ (by omega) ?_ ?_
  · rintro y L2 H2 y0 y1 ⟨⟨hL2, hu2⟩, q2, fn2, s2, hv2, hq2⟩ ih
    refine m_keep [0, 1, 2, 3, 4, 5, 6] hu2 ?_
    rw [hL2]
    refine R_iload 81 c_57_79 rfl rfl ?_
    refine R_iload 83 c_57_81 rfl rfl ?_
    refine R_br 86 128 _ (cmp_ge (by unfold inR; omega) (by unfold inR; omega)) c_57_83 rfl rfl (fun hn => absurd hn (by omega)) (fun _ => ?_)
    refine R_iconst 87 c_57_86 rfl ?_
    refine R_istore 89 c_57_87 rfl ?_
    refine m_forP wn (fun x L H2 => (L.filter (fun q => [0, 1, 2, 3, 4, 5, 6, 7].contains q.1) = [(0, .ref 1), (1, vI k), (2, vI how), (3, .ref (3 + 2 * k)), (4, vI wn), (5, vI hn), (6, vI y), (7, vI x)] ∧ m_ku L = true) ∧ eqo [11, 12] H H2 ∧ ∃ fn, sh H2 11 12 wn hn fn ∧ vok fn ∧ ∀ x' y', 0 ≤ x' → x' < wn → 0 ≤ y' → (y' < y ∨ (y' = y ∧ x' < x)) → fn (y' * wn + x') = tvl (w k) (h k) (f k) how x' y') 0 ⟨⟨rfl, rfl⟩, q2, fn2, s2, hv2, fun x' y' a1 a2 a3 a4 => hq2 x' y' a1 a2 a3 (by omega)⟩ (by omega) ?_ ?_
    · rintro x L3 H3 x0 x1 ⟨⟨hL3, hu3⟩, q3, fn3, s3, hv3, hq3⟩ ih2
      refine m_keep [0, 1, 2, 3, 4, 5, 6, 7] hu3 ?_
      rw [hL3]
      have ht := tvl_ok hvk h1 h2 h3 h4 how x y
      refine R_iload 91 c_57_89 rfl rfl ?_
      refine R_iload 93 c_57_91 rfl rfl ?_
      refine R_br 96 122 _ (cmp_ge (by unfold inR; omega) (by unfold inR; omega)) c_57_93 rfl rfl (fun hn => absurd hn (by omega)) (fun _ => ?_)
      refine R_aload_n 97 c_57_96 rfl rfl ?_
      refine R_get 100 c_57_97 rfl (O _ q3) rfl ?_
      refine R_iload 102 c_57_100 rfl rfl ?_
      refine R_iload 104 c_57_102 rfl rfl ?_
      refine R_aload_n 105 c_57_104 rfl rfl ?_
      refine R_iload_n 106 c_57_105 rfl rfl ?_
      refine R_iload 108 c_57_106 rfl rfl ?_
      refine R_iload 110 c_57_108 rfl rfl ?_
      refine R_callS 113 c_57_110 rfl rfl (Nat.le_of_ble_eq_true rfl) (k_turnedValue (I _ q3) hvk (by omega) (by omega) hh) ?_
      refine R_callV 116 c_57_113 rfl rfl rfl rfl (Nat.le_of_ble_eq_true rfl) (Nat.le_of_ble_eq_true rfl) (s3.1) (k_put s3 x0 x1 y0 y1 (by unfold inR; omega)) ?_
      refine R_iinc 119 c_57_116 rfl rfl ?_
      refine R_goto 89 c_57_119 rfl ?_
      refine ih2 _ _ ⟨⟨rfl, rfl⟩, q3.st (by decide), _, ⟨(m_gs_ne (by decide)).trans s3.1, m_gs_eq s3.2.1, s3.2.2⟩, m_up_vok hv3 (by omega), fun x' y' a1 a2 a3 a4 => ?_⟩
      by_cases he : y' * wn + x' = y * wn + x
      · have e1 := m_em (y := y') a1 a2
        have e2 := m_em (y := y) x0 x1
        rw [he] at e1
        rw [he, m_up_at, show x' = x by omega, show y' = y by omega]
        omega
      · rw [m_up_ne _ _ he]
        refine hq3 x' y' a1 a2 a3 ?_
        by_cases h9 : y' = y ∧ x' = x
        · exact absurd (by rw [h9.1, h9.2]) he
        · omega
    · rintro L3 H3 ⟨⟨hL3, hu3⟩, q3, fn3, s3, hv3, hq3⟩
      refine m_keep [0, 1, 2, 3, 4, 5, 6, 7] hu3 ?_
      rw [hL3]
      refine R_iload 91 c_57_89 rfl rfl ?_
      refine R_iload 93 c_57_91 rfl rfl ?_
      refine R_br 96 122 _ (cmp_ge (by unfold inR; omega) (by unfold inR; omega)) c_57_93 rfl rfl (fun _ => ?_) (fun hn => absurd (by omega) hn)
      refine R_iinc 125 c_57_122 rfl rfl ?_
      refine R_goto 79 c_57_125 rfl ?_
      exact ih _ _ ⟨⟨rfl, rfl⟩, q3, fn3, s3, hv3, fun x' y' a1 a2 a3 a4 => hq3 x' y' a1 a2 a3 (by omega)⟩
  · rintro L2 H2 ⟨⟨hL2, hu2⟩, q2, fn2, s2, hv2, hq2⟩
    refine m_keep [0, 1, 2, 3, 4, 5, 6] hu2 ?_
    rw [hL2]
    obtain ⟨v5, H5, hc5, rfl, q5, fm, s5, hfm, hqm⟩ := k_becomeE (scr := scr) (I _ q2) s2 hvk hv2 (by omega) (by omega) (by omega) (by omega)
    refine R_iload 81 c_57_79 rfl rfl ?_
    refine R_iload 83 c_57_81 rfl rfl ?_
    refine R_br 86 128 _ (cmp_ge (by unfold inR; omega) (by unfold inR; omega)) c_57_83 rfl rfl (fun _ => ?_) (fun hn => absurd (by omega) hn)
    refine R_aload_n 129 c_57_128 rfl rfl ?_
    refine R_aload_n 130 c_57_129 rfl rfl ?_
    refine R_get 133 c_57_130 rfl (O _ q2) rfl ?_
    refine R_callV 136 c_57_133 rfl rfl rfl rfl (Nat.le_of_ble_eq_true rfl) (Nat.le_of_ble_eq_true rfl) ((I _ q2).1) (hc5) ?_
    refine R_aload_n 137 c_57_136 rfl rfl ?_
    refine R_callV 140 c_57_137 rfl rfl rfl rfl (Nat.le_of_ble_eq_true rfl) (Nat.le_of_ble_eq_true rfl) (s5.1) (k_size s5) ?_
    refine R_ireturn c_57_140 rfl ?_
    have q6 : eqo [3 + 2 * k, 4 + 2 * k, 11, 12] H H5 := (q2.wd (by simp)).tr (q5.wd (by simp))
    have W := wd_set hw q6 (fun q hq => by simp at hq; omega) s5 hfm (SC_nx hw.2.2.2 q6 (fun q hq => by simp at hq; omega) ⟨_, _, _, sh_eqo q5 s2 (by simp; omega) (by simp; omega), hv2⟩)
    refine hX _ _ ⟨rfl, fm, W, fun x' y' a1 a2 a3 a4 => ?_⟩
    have hi := m_idx a1 a2 a3 a4
    rw [hqm _ hi.1 hi.2]
    exact hq2 x' y' a1 a2 a3 a4
end MAIN3
