/-! Parts: marks, joining one FIELD, numbers -/
def pt (H : List mC) (fd wc w h : Int) (nm wt sz ae : Int → Int) : Prop := m_get H 21 = some (.inr (1, [vI fd, .ref 22, .ref 23, vI wc, .ref 24, .ref 25, vI w, vI h])) ∧ m_get H 22 = some (.inl (0, aI 256 nm)) ∧ m_get H 23 = some (.inl (0, aI 256 wt)) ∧ m_get H 24 = some (.inl (0, aI 256 sz)) ∧ m_get H 25 = some (.inl (1, aI 256 ae))
abbrev pS : List Nat := [21, 22, 23, 24, 25]
section PTS
variable {H : List mC} {fd wc w h : Int} {nm wt sz ae : Int → Int}
theorem pt.o (hp : pt H fd wc w h nm wt sz ae) (fd' wc' w' h' : Int) : pt (m_set H 21 (.inr (1, [vI fd', .ref 22, .ref 23, vI wc', .ref 24, .ref 25, vI w', vI h']))) fd' wc' w' h' nm wt sz ae :=
  ⟨m_gs_eq hp.1, (m_gs_ne (by decide)).trans hp.2.1, (m_gs_ne (by decide)).trans hp.2.2.1, (m_gs_ne (by decide)).trans hp.2.2.2.1, (m_gs_ne (by decide)).trans hp.2.2.2.2⟩
theorem pt.n (hp : pt H fd wc w h nm wt sz ae) (g : Int → Int) : pt (m_set H 22 (.inl (0, aI 256 g))) fd wc w h g wt sz ae :=
  ⟨(m_gs_ne (by decide)).trans hp.1, m_gs_eq hp.2.1, (m_gs_ne (by decide)).trans hp.2.2.1, (m_gs_ne (by decide)).trans hp.2.2.2.1, (m_gs_ne (by decide)).trans hp.2.2.2.2⟩
theorem pt.t (hp : pt H fd wc w h nm wt sz ae) (g : Int → Int) : pt (m_set H 23 (.inl (0, aI 256 g))) fd wc w h nm g sz ae :=
  ⟨(m_gs_ne (by decide)).trans hp.1, (m_gs_ne (by decide)).trans hp.2.1, m_gs_eq hp.2.2.1, (m_gs_ne (by decide)).trans hp.2.2.2.1, (m_gs_ne (by decide)).trans hp.2.2.2.2⟩
theorem pt.s (hp : pt H fd wc w h nm wt sz ae) (g : Int → Int) : pt (m_set H 24 (.inl (0, aI 256 g))) fd wc w h nm wt g ae :=
  ⟨(m_gs_ne (by decide)).trans hp.1, (m_gs_ne (by decide)).trans hp.2.1, (m_gs_ne (by decide)).trans hp.2.2.1, m_gs_eq hp.2.2.2.1, (m_gs_ne (by decide)).trans hp.2.2.2.2⟩
theorem pt.a (hp : pt H fd wc w h nm wt sz ae) (g : Int → Int) : pt (m_set H 25 (.inl (1, aI 256 g))) fd wc w h nm wt sz g :=
  ⟨(m_gs_ne (by decide)).trans hp.1, (m_gs_ne (by decide)).trans hp.2.1, (m_gs_ne (by decide)).trans hp.2.2.1, (m_gs_ne (by decide)).trans hp.2.2.2.1, m_gs_eq hp.2.2.2.2⟩
end PTS
def mbr (f : Int → Int) (thr on e : Int) : Prop := (if thr ≤ f e then 1 else 0 : Int) = on
noncomputable def mrk (f : Int → Int) (thr on : Int) : Int → Int := fun e => @ite Int (mbr f thr on e) (Classical.propDecidable _) 256 (-1)
section PARTS1
variable {scr : List Int32} {H : List mC} {s v : Nat} {fd wc w h ww hh x y thr on : Int} {f nm wt sz ae : Int → Int}
theorem k_markMembers (hp : pt H fd wc w h nm wt sz ae) (hs : sh H s v w h f) (hf : vok f) (ns : s ∉ pS) (nv : v ∉ pS) (ht : 0 ≤ thr ∧ thr ≤ 255) (hon : on = 0 ∨ on = 1) :
    m_CP scr 13 [.ref 21, .ref s, vI thr, vI on] H (fun v1 H1 => v1 = none ∧ eqo pS H H1 ∧ pt H1 fd wc w h (fpre (mrk f thr on) nm (w * h)) wt sz ae) := by
  obtain ⟨hw1, hw2, hh1, hh2⟩ := hs.2.2.2
  have ha := m_area hw1 hw2 hh1 hh2
  refine m_CP.of ?_
  show m_Ev scr 13 0 [(0, .ref 21), (1, .ref s), (2, vI thr), (3, vI on)] [] H _
  refine R_iconst 1 c_13_0 rfl ?_
  refine R_istore 3 c_13_1 rfl ?_
  refine m_forP (w * h) (fun i L H2 => (L = [(0, .ref 21), (1, .ref s), (2, vI thr), (3, vI on), (4, vI i)]) ∧ eqo pS H H2 ∧ pt H2 fd wc w h (fpre (mrk f thr on) nm i) wt sz ae) 0 ⟨rfl, eqo.rf _ _, by rw [fpre_0]; exact hp⟩ (by omega) ?_ ?_
  · rintro i _ H2 h0 hi ⟨rfl, he, hp2⟩ ih
    have hs2 := sh_eqo he hs ns nv
    have hfi := hf i h0 (by omega)
    have e := fpre_up (mrk f thr on) nm h0
    refine R_iload 5 c_13_3 rfl rfl ?_
    refine R_aload_n 6 c_13_5 rfl rfl ?_
    refine R_get 9 c_13_6 rfl (hp2.1) rfl ?_
    refine R_aload_n 10 c_13_9 rfl rfl ?_
    refine R_get 13 c_13_10 rfl (hp2.1) rfl ?_
    refine R_imul 14 c_13_13 rfl ?_
    refine R_br 17 69 _ (cmp_ge (by unfold inR; omega) (by unfold inR; omega)) c_13_14 rfl rfl (fun hn => absurd hn (by omega)) (fun _ => ?_)
    refine R_aload_n 18 c_13_17 rfl rfl ?_
    refine R_get 21 c_13_18 rfl (hs2.1) rfl ?_
    refine R_iload 23 c_13_21 rfl rfl ?_
    refine R_iald 24 c_13_23 rfl (hs2.2.1) (by omega) (by omega) (by decide) ?_
    refine R_iload_n 25 c_13_24 rfl rfl ?_
    have fin : ∀ m : Int, ((m = 1 ∧ mbr f thr on i) ∨ (m = 0 ∧ ¬ mbr f thr on i)) → m_Ev scr 13 44 [(0, .ref 21), (1, .ref s), (2, vI thr), (3, vI on), (4, vI i), (5, vI m)] [] H2 (fun Y => Y.1 = none ∧ eqo pS H Y.2 ∧ pt Y.2 fd wc w h (fpre (mrk f thr on) nm (w * h)) wt sz ae) := by
      intro m hm
      refine R_aload_n 45 c_13_44 rfl rfl ?_
      refine R_get 48 c_13_45 rfl (hp2.1) rfl ?_
      refine R_iload 50 c_13_48 rfl rfl ?_
      refine R_iload 52 c_13_50 rfl rfl ?_
      rcases hm with ⟨rfl, hm⟩ | ⟨rfl, hm⟩
      · rw [show mrk f thr on i = 256 from if_pos hm] at e
        refine R_brz 55 61 _ (cmp_eq (by unfold inR; omega) inR_0) c_13_52 rfl rfl (fun hn => absurd hn (by omega)) (fun _ => ?_)
        refine R_sipush 58 c_13_55 rfl (by decide) ?_
        refine R_goto 62 c_13_58 rfl ?_
        refine R_iast 63 c_13_62 rfl (hp2.2.1) (by omega) (by omega) (by decide) ?_
        refine R_iinc 66 c_13_63 rfl rfl ?_
        refine R_goto 3 c_13_66 rfl ?_
        refine m_keep [0, 1, 2, 3, 4] rfl ?_
        exact ih _ _ ⟨rfl, he.st (r := 22) (by decide), by rw [e]; exact hp2.n _⟩
      · rw [show mrk f thr on i = -1 from if_neg hm] at e
        refine R_brz 55 61 _ (cmp_eq (by unfold inR; omega) inR_0) c_13_52 rfl rfl (fun _ => ?_) (fun hn => absurd (by omega) hn)
        refine R_iconst 62 c_13_61 rfl ?_
        refine R_iast 63 c_13_62 rfl (hp2.2.1) (by omega) (by omega) (by decide) ?_
        refine R_iinc 66 c_13_63 rfl rfl ?_
        refine R_goto 3 c_13_66 rfl ?_
        refine m_keep [0, 1, 2, 3, 4] rfl ?_
        exact ih _ _ ⟨rfl, he.st (r := 22) (by decide), by rw [e]; exact hp2.n _⟩
    refine R_br 28 32 _ (cmp_lt (by unfold inR; omega) (by unfold inR; omega)) c_13_25 rfl rfl (fun hb => ?_) (fun hb => ?_)
    · refine R_iconst 33 c_13_32 rfl ?_
      refine R_iload_n 34 c_13_33 rfl rfl ?_
      have hb' : ¬ thr ≤ f i := by omega
      refine R_br 37 41 _ (cmp_ne (by unfold inR; omega) (by unfold inR; omega)) c_13_34 rfl rfl (fun hb => ?_) (fun hb => ?_)
      · refine R_iconst 42 c_13_41 rfl ?_
        refine R_istore 44 c_13_42 rfl ?_
        exact fin 0 (Or.inr ⟨rfl, by unfold mbr; rw [if_neg hb']; omega⟩)
      · refine R_iconst 38 c_13_37 rfl ?_
        refine R_goto 42 c_13_38 rfl ?_
        refine R_istore 44 c_13_42 rfl ?_
        exact fin 1 (Or.inl ⟨rfl, by unfold mbr; rw [if_neg hb']; omega⟩)
    · refine R_iconst 29 c_13_28 rfl ?_
      refine R_goto 33 c_13_29 rfl ?_
      refine R_iload_n 34 c_13_33 rfl rfl ?_
      have hb' : thr ≤ f i := by omega
      refine R_br 37 41 _ (cmp_ne (by unfold inR; omega) (by unfold inR; omega)) c_13_34 rfl rfl (fun hb => ?_) (fun hb => ?_)
      · refine R_iconst 42 c_13_41 rfl ?_
        refine R_istore 44 c_13_42 rfl ?_
        exact fin 0 (Or.inr ⟨rfl, by unfold mbr; rw [if_pos hb']; omega⟩)
      · refine R_iconst 38 c_13_37 rfl ?_
        refine R_goto 42 c_13_38 rfl ?_
        refine R_istore 44 c_13_42 rfl ?_
        exact fin 1 (Or.inl ⟨rfl, by unfold mbr; rw [if_pos hb']; omega⟩)
  · rintro _ H2 ⟨rfl, he, hp2⟩
    refine R_iload 5 c_13_3 rfl rfl ?_
    refine R_aload_n 6 c_13_5 rfl rfl ?_
    refine R_get 9 c_13_6 rfl (hp2.1) rfl ?_
    refine R_aload_n 10 c_13_9 rfl rfl ?_
    refine R_get 13 c_13_10 rfl (hp2.1) rfl ?_
    refine R_imul 14 c_13_13 rfl ?_
    refine R_br 17 69 _ (cmp_ge (by unfold inR; omega) (by unfold inR; omega)) c_13_14 rfl rfl (fun _ => ?_) (fun hn => absurd (by omega) hn)
    refine R_return c_13_69 rfl ?_
    exact ⟨rfl, he, hp2⟩
def nat_ (w h : Int) (nm : Int → Int) (x y : Int) : Int := if x < 0 ∨ y < 0 ∨ w ≤ x ∨ h ≤ y then -1 else nm (y * w + x)
theorem k_numberAt (hp : pt H fd wc w h nm wt sz ae) (hw : 1 ≤ w ∧ w ≤ 16 ∧ 1 ≤ h ∧ h ≤ 16) (hx : inR x) (hy : inR y) : m_Cl scr 17 [.ref 21, vI x, vI y] H (some (vI (nat_ w h nm x y))) H := by
  obtain ⟨hx1, hx2⟩ := id hx
  obtain ⟨hy1, hy2⟩ := id hy
  have ha := m_area hw.1 hw.2.1 hw.2.2.1 hw.2.2.2
  show m_Ev scr 17 0 [(0, .ref 21), (1, vI x), (2, vI y)] [] H _
  refine R_iload_n 1 c_17_0 rfl rfl ?_
  refine R_brz 4 24 _ (cmp_lt (by unfold inR; omega) inR_0) c_17_1 rfl rfl (fun hb => ?_) (fun hb => ?_)
  · refine R_iconst 25 c_17_24 rfl ?_
    rw [show nat_ w h nm x y = -1 from if_pos (by omega)]
    exact R_ireturn c_17_25 rfl rfl
  · refine R_iload_n 5 c_17_4 rfl rfl ?_
    refine R_brz 8 24 _ (cmp_lt (by unfold inR; omega) inR_0) c_17_5 rfl rfl (fun hb => ?_) (fun hb => ?_)
    · refine R_iconst 25 c_17_24 rfl ?_
      rw [show nat_ w h nm x y = -1 from if_pos (by omega)]
      exact R_ireturn c_17_25 rfl rfl
    · refine R_iload_n 9 c_17_8 rfl rfl ?_
      refine R_aload_n 10 c_17_9 rfl rfl ?_
      refine R_get 13 c_17_10 rfl (hp.1) rfl ?_
      refine R_br 16 24 _ (cmp_ge (by unfold inR; omega) (by unfold inR; omega)) c_17_13 rfl rfl (fun hb => ?_) (fun hb => ?_)
      · refine R_iconst 25 c_17_24 rfl ?_
        rw [show nat_ w h nm x y = -1 from if_pos (by omega)]
        exact R_ireturn c_17_25 rfl rfl
      · refine R_iload_n 17 c_17_16 rfl rfl ?_
        refine R_aload_n 18 c_17_17 rfl rfl ?_
        refine R_get 21 c_17_18 rfl (hp.1) rfl ?_
        refine R_br 24 26 _ (cmp_lt (by unfold inR; omega) (by unfold inR; omega)) c_17_21 rfl rfl (fun hb => ?_) (fun hb => ?_)
        · rw [show nat_ w h nm x y = nm (y * w + x) from if_neg (by omega)]
          have hi := m_idx (x := x) (y := y) (w := w) (h := h) (by omega) (by omega) (by omega) (by omega)
          refine R_aload_n 27 c_17_26 rfl rfl ?_
          refine R_get 30 c_17_27 rfl (hp.1) rfl ?_
          refine R_iload_n 31 c_17_30 rfl rfl ?_
          refine R_aload_n 32 c_17_31 rfl rfl ?_
          refine R_get 35 c_17_32 rfl (hp.1) rfl ?_
          refine R_imul 36 c_17_35 rfl ?_
          refine R_iload_n 37 c_17_36 rfl rfl ?_
          refine R_iadd 38 c_17_37 rfl ?_
          refine R_iald 39 c_17_38 rfl (hp.2.1) (by omega) (by omega) (by decide) ?_
          exact R_ireturn c_17_39 rfl rfl
        · refine R_iconst 25 c_17_24 rfl ?_
          rw [show nat_ w h nm x y = -1 from if_pos (by omega)]
          exact R_ireturn c_17_25 rfl rfl
def edg (w h x y : Int) : Prop := x = 0 ∨ y = 0 ∨ x = w - 1 ∨ y = h - 1
noncomputable def aeu (w h x y fd : Int) (ae : Int → Int) : Int → Int := @ite _ (edg w h x y) (Classical.propDecidable _) (m_up ae fd 1) ae
theorem k_join (hp : pt H fd wc w h nm wt sz ae) (hw : 1 ≤ w ∧ w ≤ 16 ∧ 1 ≤ h ∧ h ≤ 16) (hx : 0 ≤ x ∧ x < w) (hy : 0 ≤ y ∧ y < h) (hfd : 0 ≤ fd ∧ fd < 256) (hwc : 0 ≤ wc ∧ wc < 256) :
    m_CP scr 15 [.ref 21, vI x, vI y] H (fun v1 H1 => v1 = none ∧ eqo pS H H1 ∧ pt H1 fd (wc + 1) w h (m_up nm (y * w + x) fd) (m_up wt wc (y * 16 + x)) (m_up sz fd (sz fd + 1)) (aeu w h x y fd ae)) := by
  have ha := m_area hw.1 hw.2.1 hw.2.2.1 hw.2.2.2
  have hi := m_idx (x := x) (y := y) (w := w) (h := h) (by omega) (by omega) (by omega) (by omega)
  refine m_CP.of ?_
  show m_Ev scr 15 0 [(0, .ref 21), (1, vI x), (2, vI y)] [] H _
  refine R_aload_n 1 c_15_0 rfl rfl ?_
  refine R_get 4 c_15_1 rfl (hp.1) rfl ?_
  refine R_iload_n 5 c_15_4 rfl rfl ?_
  refine R_aload_n 6 c_15_5 rfl rfl ?_
  refine R_get 9 c_15_6 rfl (hp.1) rfl ?_
  refine R_imul 10 c_15_9 rfl ?_
  refine R_iload_n 11 c_15_10 rfl rfl ?_
  refine R_iadd 12 c_15_11 rfl ?_
  refine R_aload_n 13 c_15_12 rfl rfl ?_
  refine R_get 16 c_15_13 rfl (hp.1) rfl ?_
  refine R_iast 17 c_15_16 rfl (hp.2.1) (by omega) (by omega) (by decide) ?_
  have p1 := hp.n (m_up nm (y * w + x) fd)
  have q1 : eqo pS H _ := (eqo.rf pS H).st (c := .inl (0, aI 256 (m_up nm (y * w + x) fd))) (r := 22) (by decide)
  generalize m_set H 22 (.inl (0, aI 256 (m_up nm (y * w + x) fd))) = H1 at p1 q1 ⊢
  refine R_aload_n 18 c_15_17 rfl rfl ?_
  refine R_get 21 c_15_18 rfl (p1.1) rfl ?_
  refine R_aload_n 22 c_15_21 rfl rfl ?_
  refine R_get 25 c_15_22 rfl (p1.1) rfl ?_
  refine R_dup2 26 c_15_25 rfl rfl rfl ?_
  refine R_iald 27 c_15_26 rfl (p1.2.2.2.1) (by omega) (by omega) (by decide) ?_
  refine R_iconst 28 c_15_27 rfl ?_
  refine R_iadd 29 c_15_28 rfl ?_
  refine R_iast 30 c_15_29 rfl (p1.2.2.2.1) (by omega) (by omega) (by decide) ?_
  have p2 := p1.s (m_up sz fd (sz fd + 1))
  have q2 := q1.st (c := .inl (0, aI 256 (m_up sz fd (sz fd + 1)))) (r := 24) (by decide)
  generalize m_set H1 24 (.inl (0, aI 256 (m_up sz fd (sz fd + 1)))) = H2 at p2 q2 ⊢
  have fin : ∀ H3, eqo pS H H3 → pt H3 fd wc w h (m_up nm (y * w + x) fd) wt (m_up sz fd (sz fd + 1)) (aeu w h x y fd ae) → m_Ev scr 15 68 [(0, .ref 21), (1, vI x), (2, vI y)] [] H3 (fun Y => Y.1 = none ∧ eqo pS H Y.2 ∧ pt Y.2 fd (wc + 1) w h (m_up nm (y * w + x) fd) (m_up wt wc (y * 16 + x)) (m_up sz fd (sz fd + 1)) (aeu w h x y fd ae)) := by
    intro H3 q3 p3
    refine R_aload_n 69 c_15_68 rfl rfl ?_
    refine R_get 72 c_15_69 rfl (p3.1) rfl ?_
    refine R_aload_n 73 c_15_72 rfl rfl ?_
    refine R_get 76 c_15_73 rfl (p3.1) rfl ?_
    refine R_iload_n 77 c_15_76 rfl rfl ?_
    refine R_bipush 79 c_15_77 rfl (by decide) ?_
    refine R_imul 80 c_15_79 rfl ?_
    refine R_iload_n 81 c_15_80 rfl rfl ?_
    refine R_iadd 82 c_15_81 rfl ?_
    refine R_iast 83 c_15_82 rfl (p3.2.2.1) (by omega) (by omega) (by decide) ?_
    have p4 := p3.t (m_up wt wc (y * 16 + x))
    have q4 := q3.st (c := .inl (0, aI 256 (m_up wt wc (y * 16 + x)))) (r := 23) (by decide)
    generalize m_set H3 23 (.inl (0, aI 256 (m_up wt wc (y * 16 + x)))) = H4 at p4 q4 ⊢
    refine R_aload_n 84 c_15_83 rfl rfl ?_
    refine R_dup 85 c_15_84 rfl rfl ?_
    refine R_get 88 c_15_85 rfl (p4.1) rfl ?_
    refine R_iconst 89 c_15_88 rfl ?_
    refine R_iadd 90 c_15_89 rfl ?_
    refine R_put 93 c_15_90 rfl (p4.1) (Nat.le_of_ble_eq_true rfl) rfl ?_
    refine R_return c_15_93 rfl ?_
    exact ⟨rfl, q4.st (r := 21) (by decide), p4.o fd (wc + 1) w h⟩
  have edge : edg w h x y → m_Ev scr 15 58 [(0, .ref 21), (1, vI x), (2, vI y)] [] H2 (fun Y => Y.1 = none ∧ eqo pS H Y.2 ∧ pt Y.2 fd (wc + 1) w h (m_up nm (y * w + x) fd) (m_up wt wc (y * 16 + x)) (m_up sz fd (sz fd + 1)) (aeu w h x y fd ae)) := by
    intro he
    refine R_aload_n 59 c_15_58 rfl rfl ?_
    refine R_get 62 c_15_59 rfl (p2.1) rfl ?_
    refine R_aload_n 63 c_15_62 rfl rfl ?_
    refine R_get 66 c_15_63 rfl (p2.1) rfl ?_
    refine R_iconst 67 c_15_66 rfl ?_
    refine R_bast 68 c_15_67 rfl (p2.2.2.2.2) (by omega) (by omega) (by decide) (by decide) ?_
    refine fin _ (q2.st (r := 25) (by decide)) ?_
    rw [show aeu w h x y fd ae = m_up ae fd 1 from if_pos he]
    exact p2.a _
  refine R_iload_n 31 c_15_30 rfl rfl ?_
  refine R_brz 34 58 _ (cmp_eq (by unfold inR; omega) inR_0) c_15_31 rfl rfl (fun hb => ?_) (fun hb => ?_)
  · exact edge (Or.inl hb)
  · refine R_iload_n 35 c_15_34 rfl rfl ?_
    refine R_brz 38 58 _ (cmp_eq (by unfold inR; omega) inR_0) c_15_35 rfl rfl (fun hb => ?_) (fun hb => ?_)
    · exact edge (Or.inr (Or.inl (by assumption)))
    · refine R_iload_n 39 c_15_38 rfl rfl ?_
      refine R_aload_n 40 c_15_39 rfl rfl ?_
      refine R_get 43 c_15_40 rfl (p2.1) rfl ?_
      refine R_iconst 44 c_15_43 rfl ?_
      refine R_isub 45 c_15_44 rfl ?_
      refine R_br 48 58 _ (cmp_eq (by unfold inR; omega) (by unfold inR; omega)) c_15_45 rfl rfl (fun hb => ?_) (fun hb => ?_)
      · exact edge (Or.inr (Or.inr (Or.inl (by assumption))))
      · refine R_iload_n 49 c_15_48 rfl rfl ?_
        refine R_aload_n 50 c_15_49 rfl rfl ?_
        refine R_get 53 c_15_50 rfl (p2.1) rfl ?_
        refine R_iconst 54 c_15_53 rfl ?_
        refine R_isub 55 c_15_54 rfl ?_
        refine R_br 58 68 _ (cmp_ne (by unfold inR; omega) (by unfold inR; omega)) c_15_55 rfl rfl (fun hb => ?_) (fun hb => ?_)
        · refine fin _ q2 ?_
          rw [show aeu w h x y fd ae = ae from if_neg (by unfold edg; omega)]
          exact p2
        · exact edge (Or.inr (Or.inr (Or.inr (by omega))))
end PARTS1
/-! flood: the FIELDS that one PART joins -/
def inG (w h e : Int) : Prop := 0 ≤ e ∧ e < w * h
theorem inG_xy {w h e : Int} (hw : 1 ≤ w) (h0 : inG w h e) : 0 ≤ e % w ∧ e % w < w ∧ 0 ≤ e / w ∧ e / w < h ∧ e / w * w + e % w = e := by
  refine ⟨Int.emod_nonneg _ (by omega), Int.emod_lt_of_pos _ (by omega), Int.ediv_nonneg h0.1 (by omega), Int.ediv_lt_of_lt_mul (by omega) (by rw [Int.mul_comm]; exact h0.2), ?_⟩
  have := Int.mul_ediv_add_emod e w
  rw [Int.mul_comm] at this
  exact this
def adj (w ways a b : Int) : Prop := -1 ≤ b % w - a % w ∧ b % w - a % w ≤ 1 ∧ -1 ≤ b / w - a / w ∧ b / w - a / w ≤ 1 ∧ (ways = 8 ∨ b % w = a % w ∨ b / w = a / w)
theorem adj_symm {w ways a b : Int} (h : adj w ways a b) : adj w ways b a := by
  obtain ⟨h1, h2, h3, h4, h5⟩ := h
  refine ⟨by omega, by omega, by omega, by omega, ?_⟩
  rcases h5 with h | h | h
  · exact Or.inl h
  · exact Or.inr (Or.inl h.symm)
  · exact Or.inr (Or.inr h.symm)
def cn (w ways : Int) (mb : Int → Prop) (a b : Int) : Prop := ∀ S : Int → Prop, S a → (∀ u v, S u → mb u → mb v → adj w ways u v → S v) → S b
theorem cn_rf (w ways : Int) (mb : Int → Prop) (a : Int) : cn w ways mb a a := fun _ h _ => h
theorem cn_st {w ways : Int} {mb : Int → Prop} {a b c : Int} (h : cn w ways mb a b) (hb : mb b) (hc : mb c) (ha : adj w ways b c) : cn w ways mb a c := fun S h0 hS => hS b c (h S h0 hS) hb hc ha
theorem cn_tr {w ways : Int} {mb : Int → Prop} {a b c : Int} (h1 : cn w ways mb a b) (h2 : cn w ways mb b c) : cn w ways mb a c := fun S h0 hS => h2 S (h1 S h0 hS) hS
theorem cn_sy {w ways : Int} {mb : Int → Prop} {a b : Int} (h : cn w ways mb a b) : cn w ways mb b a :=
  h (fun z => cn w ways mb z a) (cn_rf w ways mb a) (fun u v hu hmu hmv huv => cn_tr (fun S h0 hS => hS v u h0 hmv hmu (adj_symm huv)) hu)
def ind (nm : Int → Int) (fd : Int) : Int → Int := fun e => if nm e = fd then 1 else 0
theorem fsum_congr {f g : Int → Int} : ∀ (n : Nat), (∀ e : Int, 0 ≤ e → e < n → f e = g e) → nsum f n = nsum g n
  | 0, _ => rfl
  | n + 1, h => by
    show nsum f n + f n = nsum g n + g n
    rw [fsum_congr n (fun e h0 h1 => h e h0 (by omega)), h n (by omega) (by omega)]
theorem fsum_ext {f g : Int → Int} {n : Int} (h : ∀ e : Int, 0 ≤ e → e < n → f e = g e) : fsum f n = fsum g n := fsum_congr n.toNat (fun e h0 h1 => h e h0 (by omega))
theorem nsum_up {f g : Int → Int} {e : Int} (d : Int) (he : g e = f e + d) (ho : ∀ j, j ≠ e → g j = f j) : ∀ n : Nat, 0 ≤ e → nsum g n = nsum f n + (if e < n then d else 0)
  | 0, h0 => by rw [if_neg (by omega)]; rfl
  | n + 1, h0 => by
    show nsum g n + g n = nsum f n + f n + _
    rw [nsum_up d he ho n h0]
    by_cases h : (n : Int) = e
    · rw [h, he, if_neg (by omega), if_pos (by omega)]; omega
    · rw [ho _ h]
      by_cases h2 : e < (n : Int)
      · rw [if_pos h2, if_pos (by omega)]; omega
      · rw [if_neg h2, if_neg (by omega)]; omega
theorem fsum_up1 {nm : Int → Int} {e fd n : Int} (h0 : 0 ≤ e) (h1 : e < n) (hne : nm e ≠ fd) : fsum (ind (m_up nm e fd) fd) n = fsum (ind nm fd) n + 1 := by
  have h := nsum_up (f := ind nm fd) (g := ind (m_up nm e fd) fd) (e := e) 1 (by simp [ind, m_up, hne]) (fun j hj => by simp [ind, m_up, hj]) n.toNat h0
  unfold fsum
  rw [h, if_pos (by omega)]
theorem m_up_up (f : Int → Int) (e x y : Int) : m_up (m_up f e x) e y = m_up f e y := by
  funext j
  unfold m_up
  split <;> rfl
theorem m_up_at (f : Int → Int) (e x : Int) : m_up f e x e = x := if_pos rfl
theorem m_up_ne (f : Int → Int) {e j : Int} (x : Int) (h : j ≠ e) : m_up f e x j = f j := if_neg h
def edgI (w h e : Int) : Prop := edg w h (e % w) (e / w)
noncomputable def tch (w h fd : Int) (nm : Int → Int) : Int := @ite Int (∃ e, inG w h e ∧ nm e = fd ∧ edgI w h e) (Classical.propDecidable _) 1 0
def FL (w h ways fd p : Int) (mb : Int → Prop) (nm0 nm wt : Int → Int) (wc t : Int) (sz ae sz0 ae0 : Int → Int) : Prop :=
  (∀ e, inG w h e → (nm e = nm0 e ∨ (nm e = fd ∧ nm0 e = 256 ∧ cn w ways mb p e))) ∧ (0 ≤ wc ∧ wc + t = fsum (ind nm fd) (w * h) ∧ sz = m_up sz0 fd (fsum (ind nm fd) (w * h))) ∧
  (∀ i, 0 ≤ i → i < wc → ∃ e, inG w h e ∧ nm e = fd ∧ wt i = e / w * 16 + e % w) ∧ ae = m_up ae0 fd (tch w h fd nm)
/-- what flood begins with: 256 marks those of mb that none has joined; all that p reaches are such -/
def FP (w h ways fd p : Int) (mb : Int → Prop) (nm0 : Int → Int) : Prop :=
  (1 ≤ w ∧ w ≤ 16 ∧ 1 ≤ h ∧ h ≤ 16) ∧ (0 ≤ fd ∧ fd < 256) ∧ (∀ e, inG w h e → nm0 e = 256 → mb e) ∧ (∀ e, inG w h e → nm0 e ≠ fd) ∧ (∀ e, inG w h e → mb e → cn w ways mb p e → nm0 e = 256) ∧ (∀ e, inG w h e → -1 ≤ nm0 e ∧ nm0 e ≤ 256) ∧ ∀ e, mb e → inG w h e
theorem FL_wc {w h ways fd p : Int} {mb : Int → Prop} {nm0 nm wt sz ae sz0 ae0 : Int → Int} {wc t e : Int} (hP : FP w h ways fd p mb nm0) (hF : FL w h ways fd p mb nm0 nm wt wc t sz ae sz0 ae0) (he : inG w h e) (hn : nm e ≠ fd) : wc + t < 256 := by
  have ha := m_area hP.1.1 hP.1.2.1 hP.1.2.2.1 hP.1.2.2.2
  have h1 := fsum_up1 he.1 he.2 hn
  have h2 := fsum_bd (f := ind (m_up nm e fd) fd) (lo := 0) (hi := 1) (fun j _ _ => by unfold ind; split <;> omega) (w * h) (by omega) (by omega)
  have h3 := hF.2.1.2.1
  omega
theorem FL_join {w h ways fd p : Int} {mb : Int → Prop} {nm0 nm wt sz ae sz0 ae0 : Int → Int} {wc t e : Int} (hP : FP w h ways fd p mb nm0) (hF : FL w h ways fd p mb nm0 nm wt wc t sz ae sz0 ae0) (he : inG w h e) (hn : nm e = 256) (hc : cn w ways mb p e) :
    FL w h ways fd p mb nm0 (m_up nm e fd) (m_up wt wc (e / w * 16 + e % w)) (wc + 1) t (m_up sz fd (sz fd + 1)) (aeu w h (e % w) (e / w) fd ae) sz0 ae0 := by
  obtain ⟨hA, ⟨hB1, hB2, hB3⟩, hC, hE⟩ := hF
  have hfd := hP.2.1
  have hne : nm e ≠ fd := by omega
  have h1 := fsum_up1 he.1 he.2 hne
  refine ⟨fun j hj => ?_, ⟨by omega, by rw [h1]; omega, ?_⟩, fun i h0 hi => ?_, ?_⟩
  · by_cases hje : j = e
    · subst hje
      right
      refine ⟨m_up_at _ _ _, ?_, hc⟩
      rcases hA j hj with h | h
      · rw [← h, hn]
      · exact absurd h.1 hne
    · rw [m_up_ne _ _ hje]
      exact hA j hj
  · rw [hB3, m_up_at, m_up_up, h1]
  · by_cases hiw : i = wc
    · subst hiw
      exact ⟨e, he, m_up_at _ _ _, m_up_at _ _ _⟩
    · obtain ⟨j, hj1, hj2, hj3⟩ := hC i h0 (by omega)
      refine ⟨j, hj1, ?_, by rw [m_up_ne _ _ hiw]; exact hj3⟩
      by_cases hje : j = e
      · rw [hje, m_up_at]
      · rw [m_up_ne _ _ hje]; exact hj2
  · unfold aeu
    by_cases hed : edg w h (e % w) (e / w)
    · rw [if_pos hed, hE, m_up_up, show tch w h fd (m_up nm e fd) = 1 from if_pos ⟨e, he, m_up_at _ _ _, hed⟩]
    · rw [if_neg hed, hE]
      congr 1
      unfold tch
      by_cases hex : ∃ j, inG w h j ∧ nm j = fd ∧ edgI w h j
      · obtain ⟨j, hj1, hj2, hj3⟩ := id hex
        rw [if_pos hex, if_pos ⟨j, hj1, by rw [m_up_ne _ _ (fun q => hne (by rw [← q]; exact hj2))]; exact hj2, hj3⟩]
      · rw [if_neg hex, if_neg]
        rintro ⟨j, hj1, hj2, hj3⟩
        by_cases hje : j = e
        · subst hje; exact hed hj3
        · rw [m_up_ne _ _ hje] at hj2
          exact hex ⟨j, hj1, hj2, hj3⟩
def hnd (w h ways c : Int) (nm : Int → Int) (dy dx : Int) : Prop := ∀ e, inG w h e → adj w ways c e → (e / w - c / w < dy ∨ (e / w - c / w = dy ∧ e % w - c % w < dx)) → nm e ≠ 256
def dn (w h ways fd c : Int) (mb : Int → Prop) (nm wt : Int → Int) (wc : Int) : Prop := ∀ e, inG w h e → nm e = fd → (∃ i, 0 ≤ i ∧ i < wc ∧ wt i = e / w * 16 + e % w) ∨ (∀ e', inG w h e' → mb e' → adj w ways e e' → nm e' = fd) ∨ e = c
theorem dn_join {w h ways fd c : Int} {mb : Int → Prop} {nm wt : Int → Int} {wc e : Int} (hwc : 0 ≤ wc) (hd : dn w h ways fd c mb nm wt wc) (hn : nm e ≠ fd) : dn w h ways fd c mb (m_up nm e fd) (m_up wt wc (e / w * 16 + e % w)) (wc + 1) := by
  intro j hj hjn
  by_cases hje : j = e
  · subst hje
    exact Or.inl ⟨wc, hwc, by omega, m_up_at _ _ _⟩
  · rw [m_up_ne _ _ hje] at hjn
    rcases hd j hj hjn with ⟨i, h0, h1, h2⟩ | h | h
    · exact Or.inl ⟨i, h0, by omega, by rw [m_up_ne _ _ (by omega)]; exact h2⟩
    · refine Or.inr (Or.inl fun e' h1 h2 h3 => ?_)
      by_cases he' : e' = e
      · rw [he', m_up_at]
      · rw [m_up_ne _ _ he']; exact h e' h1 h2 h3
    · exact Or.inr (Or.inr h)
theorem hnd_join {w h ways c fd e : Int} {nm : Int → Int} {dy dx : Int} (hfd : fd ≠ 256) (hd : hnd w h ways c nm dy dx) : hnd w h ways c (m_up nm e fd) dy dx := by
  intro j hj ha hl
  by_cases hje : j = e
  · rw [hje, m_up_at]; exact hfd
  · rw [m_up_ne _ _ hje]; exact hd j hj ha hl
section JN
variable {scr : List Int32} {H : List mC} {fd wc w h ways p c t : Int} {nm0 nm wt sz ae sz0 ae0 : Int → Int} {mb : Int → Prop}
set_option maxHeartbeats 4000000 in
theorem k_joinNeighbours (hways : ways = 4 ∨ ways = 8) (hP : FP w h ways fd p mb nm0) (hF : FL w h ways fd p mb nm0 nm wt wc t sz ae sz0 ae0) (hp : pt H fd wc w h nm wt sz ae) (ht : 0 ≤ t) (hc : inG w h c) (hcn : cn w ways mb p c) (hmc : mb c) (hd : dn w h ways fd c mb nm wt wc) :
    m_CP scr 16 [.ref 21, vI (c % w), vI (c / w), vI ways] H (fun v1 H1 => v1 = none ∧ eqo pS H H1 ∧ ∃ nm' wt' wc' sz' ae', pt H1 fd wc' w h nm' wt' sz' ae' ∧ FL w h ways fd p mb nm0 nm' wt' wc' t sz' ae' sz0 ae0 ∧ (∀ j, nm j = fd → nm' j = fd) ∧
      ∀ e, inG w h e → nm' e = fd → (∃ i, 0 ≤ i ∧ i < wc' ∧ wt' i = e / w * 16 + e % w) ∨ ∀ e', inG w h e' → mb e' → adj w ways e e' → nm' e' = fd) := by
  obtain ⟨hdim, hfd, hP1, hP2, hP3, hP4, -⟩ := id hP
  obtain ⟨hw1, hw2, hh1, hh2⟩ := id hdim
  have hcx := inG_xy hw1 hc
  refine m_CP.of ?_
  show m_Ev scr 16 0 [(0, .ref 21), (1, vI (c % w)), (2, vI (c / w)), (3, vI ways)] [] H _
  refine m_gen (fun X hX => ?_)
  generalize hCx : c % w = cx at *
  generalize hCy : c / w = cy at *
  refine R_iconst 1 c_16_0 rfl ?_
  refine R_istore 3 c_16_1 rfl ?_
  refine m_forP 2 (fun dy L H2 => (L = [(0, .ref 21), (1, vI cx), (2, vI cy), (3, vI ways), (4, vI dy)]) ∧ eqo pS H H2 ∧ ∃ nm' wt' wc' sz' ae', pt H2 fd wc' w h nm' wt' sz' ae' ∧ FL w h ways fd p mb nm0 nm' wt' wc' t sz' ae' sz0 ae0 ∧ (∀ j, nm j = fd → nm' j = fd) ∧ dn w h ways fd c mb nm' wt' wc' ∧ hnd w h ways c nm' dy (-1)) (-1)
    ⟨rfl, eqo.rf _ _, nm, wt, wc, sz, ae, hp, hF, fun _ q => q, hd, fun e he ha hl => absurd hl (by obtain ⟨h1, h2, h3, h4, -⟩ := ha; omega)⟩ (by omega) ?_ ?_
  · rintro dy _ H2 hy0 hy1 ⟨rfl, he2, nm2, wt2, wc2, sz2, ae2, hp2, hF2, hk2, hd2, hh2'⟩ ih
    refine R_iload 5 c_16_3 rfl rfl ?_
    refine R_iconst 6 c_16_5 rfl ?_
    refine R_br 9 88 _ (cmp_gt (by unfold inR; omega) (by unfold inR; omega)) c_16_6 rfl rfl (fun hn => absurd hn (by omega)) (fun _ => ?_)
    refine R_iconst 10 c_16_9 rfl ?_
    refine R_istore 12 c_16_10 rfl ?_
    refine m_forP 2 (fun dx L H3 => (L = [(0, .ref 21), (1, vI cx), (2, vI cy), (3, vI ways), (4, vI dy), (5, vI dx)] ∨ ∃ u, L = [(0, .ref 21), (1, vI cx), (2, vI cy), (3, vI ways), (4, vI dy), (5, vI dx), (6, vI u)]) ∧ eqo pS H H3 ∧ ∃ nm' wt' wc' sz' ae', pt H3 fd wc' w h nm' wt' sz' ae' ∧ FL w h ways fd p mb nm0 nm' wt' wc' t sz' ae' sz0 ae0 ∧ (∀ j, nm j = fd → nm' j = fd) ∧ dn w h ways fd c mb nm' wt' wc' ∧ hnd w h ways c nm' dy dx) (-1)
      ⟨Or.inl rfl, he2, nm2, wt2, wc2, sz2, ae2, hp2, hF2, hk2, hd2, hh2'⟩ (by omega) ?_ ?_
    · rintro dx L3 H3 hx0 hx1 ⟨hL3, he3, nm3, wt3, wc3, sz3, ae3, hp3, hF3, hk3, hd3, hh3⟩ ih2
      have hL3' : L3.filter (fun q => [0, 1, 2, 3, 4, 5].contains q.1) = [(0, .ref 21), (1, vI cx), (2, vI cy), (3, vI ways), (4, vI dy), (5, vI dx)] := by
        rcases hL3 with rfl | ⟨u, rfl⟩ <;> rfl
      refine m_keep [0, 1, 2, 3, 4, 5] (by rcases hL3 with rfl | ⟨u, rfl⟩ <;> rfl) ?_
      rw [hL3']
      have hna := k_numberAt (scr := scr) (x := cx + dx) (y := cy + dy) hp3 hdim (by unfold inR; omega) (by unfold inR; omega)
      -- the neighbour of no interest
      have skip : ∀ u : Int, (∀ e, inG w h e → adj w ways c e → e / w - cy = dy → e % w - cx = dx → nm3 e ≠ 256) → m_Ev scr 16 76 [(0, .ref 21), (1, vI cx), (2, vI cy), (3, vI ways), (4, vI dy), (5, vI dx), (6, vI u)] [] H3 X := fun u hno => by
        refine R_iinc 79 c_16_76 rfl rfl ?_
        refine R_goto 12 c_16_79 rfl ?_
        refine ih2 _ _ ⟨Or.inr ⟨u, rfl⟩, he3, nm3, wt3, wc3, sz3, ae3, hp3, hF3, hk3, hd3, fun e he ha hl => ?_⟩
        by_cases hl2 : e / w - c / w < dy ∨ (e / w - c / w = dy ∧ e % w - c % w < dx)
        · exact hh3 e he ha hl2
        · rw [hCx, hCy] at hl hl2
          exact hno e he ha (by omega) (by omega)
      have look : (ways = 8 ∨ dx = 0 ∨ dy = 0) → m_Ev scr 16 46 [(0, .ref 21), (1, vI cx), (2, vI cy), (3, vI ways), (4, vI dy), (5, vI dx), (6, vI 1)] [] H3 X := fun hre => by
        refine R_aload_n 47 c_16_46 rfl rfl ?_
        refine R_iload_n 48 c_16_47 rfl rfl ?_
        refine R_iload 50 c_16_48 rfl rfl ?_
        refine R_iadd 51 c_16_50 rfl ?_
        refine R_iload_n 52 c_16_51 rfl rfl ?_
        refine R_iload 54 c_16_52 rfl rfl ?_
        refine R_iadd 55 c_16_54 rfl ?_
        refine R_callV 58 c_16_55 rfl rfl rfl rfl (Nat.le_of_ble_eq_true rfl) (Nat.le_of_ble_eq_true rfl) (hp3.1) (hna) ?_
        refine R_sipush 61 c_16_58 rfl (by decide) ?_
        have hnb : inR (nat_ w h nm3 (cx + dx) (cy + dy)) ∧ (nat_ w h nm3 (cx + dx) (cy + dy) = 256 → 0 ≤ cx + dx ∧ cx + dx < w ∧ 0 ≤ cy + dy ∧ cy + dy < h ∧ nm3 ((cy + dy) * w + (cx + dx)) = 256) := by
          unfold nat_
          by_cases hout : cx + dx < 0 ∨ cy + dy < 0 ∨ w ≤ cx + dx ∨ h ≤ cy + dy
          · rw [if_pos hout]
            exact ⟨by unfold inR; omega, fun q => absurd q (by decide)⟩
          · rw [if_neg hout]
            have hie := m_idx (x := cx + dx) (y := cy + dy) (w := w) (h := h) (by omega) (by omega) (by omega) (by omega)
            have h9 := hP4 _ hie
            refine ⟨?_, fun q => ⟨by omega, by omega, by omega, by omega, q⟩⟩
            rcases hF3.1 _ hie with h | h
            · unfold inR; omega
            · unfold inR; omega
        refine R_br 64 76 _ (cmp_ne (hnb.1) (by unfold inR; omega)) c_16_61 rfl rfl (fun hb => ?_) (fun hb => ?_)
        · refine skip 1 (fun e he ha e1 e2 hq => hb ?_)
          have hxy := inG_xy hw1 he
          unfold nat_
          rw [if_neg (by omega), show (cy + dy) * w + (cx + dx) = e by rw [show cy + dy = e / w by omega, show cx + dx = e % w by omega]; exact hxy.2.2.2.2]
          exact hq
        · obtain ⟨b1, b2, b3, b4, b5⟩ := hnb.2 (by omega)
          have hie := m_idx b1 b2 b3 b4
          have hem := m_em (y := cy + dy) b1 b2
          generalize hE : (cy + dy) * w + (cx + dx) = e at *
          have hmbe : mb e := by
            refine hP1 e hie ?_
            rcases hF3.1 e hie with h | h
            · rw [← h]; exact b5
            · exact h.2.1
          have hadj : adj w ways c e := by
            refine ⟨?_, ?_, ?_, ?_, ?_⟩
            · rw [hem.1, hCx]; omega
            · rw [hem.1, hCx]; omega
            · rw [hem.2, hCy]; omega
            · rw [hem.2, hCy]; omega
            · rw [hem.1, hem.2, hCx, hCy]; omega
          have hcne := cn_st hcn hmc hmbe hadj
          have hwcb := FL_wc hP hF3 hie (by omega)
          obtain ⟨v4, H4, hc4, rfl, he4, hp4⟩ := k_join (scr := scr) hp3 hdim ⟨b1, b2⟩ ⟨b3, b4⟩ hfd ⟨hF3.2.1.1, by omega⟩
          rw [hE] at hp4
          have hF4 := FL_join hP hF3 hie b5 hcne
          rw [hem.1, hem.2] at hF4
          have hd4 := dn_join hF3.2.1.1 hd3 (show nm3 e ≠ fd by omega)
          rw [hem.1, hem.2] at hd4
          have hh4 := hnd_join (e := e) (show fd ≠ 256 by omega) hh3
          refine R_aload_n 65 c_16_64 rfl rfl ?_
          refine R_iload_n 66 c_16_65 rfl rfl ?_
          refine R_iload 68 c_16_66 rfl rfl ?_
          refine R_iadd 69 c_16_68 rfl ?_
          refine R_iload_n 70 c_16_69 rfl rfl ?_
          refine R_iload 72 c_16_70 rfl rfl ?_
          refine R_iadd 73 c_16_72 rfl ?_
          refine R_callV 76 c_16_73 rfl rfl rfl rfl (Nat.le_of_ble_eq_true rfl) (Nat.le_of_ble_eq_true rfl) (hp3.1) (hc4) ?_
          refine R_iinc 79 c_16_76 rfl rfl ?_
          refine R_goto 12 c_16_79 rfl ?_
          refine ih2 _ _ ⟨Or.inr ⟨1, rfl⟩, he3.tr he4, _, _, _, _, _, hp4, hF4, fun j q => ?_, hd4, fun j hj ha hl => ?_⟩
          · by_cases hce : j = e
            · rw [hce, m_up_at]
            · rw [m_up_ne _ _ hce]; exact hk3 j q
          · by_cases hl2 : j / w - c / w < dy ∨ (j / w - c / w = dy ∧ j % w - c % w < dx)
            · exact hh4 j hj ha hl2
            · have hjxy := inG_xy hw1 hj
              rw [hCx, hCy] at hl hl2
              have : j = e := by
                rw [← hE, ← hjxy.2.2.2.2, show j / w = cy + dy by omega, show j % w = cx + dx by omega]
              rw [this, m_up_at]; omega
      refine R_iload 14 c_16_12 rfl rfl ?_
      refine R_iconst 15 c_16_14 rfl ?_
      refine R_br 18 82 _ (cmp_gt (by unfold inR; omega) (by unfold inR; omega)) c_16_15 rfl rfl (fun hn => absurd hn (by omega)) (fun _ => ?_)
      refine R_iload_n 19 c_16_18 rfl rfl ?_
      refine R_bipush 21 c_16_19 rfl (by decide) ?_
      refine R_br 24 34 _ (cmp_eq (by unfold inR; omega) (by unfold inR; omega)) c_16_21 rfl rfl (fun hb => ?_) (fun hb => ?_)
      · refine R_iconst 35 c_16_34 rfl ?_
        refine R_goto 39 c_16_35 rfl ?_
        refine R_istore 41 c_16_39 rfl ?_
        refine R_iload 43 c_16_41 rfl rfl ?_
        refine R_brz 46 76 _ (cmp_eq (by unfold inR; omega) inR_0) c_16_43 rfl rfl (fun hn => absurd hn (by omega)) (fun _ => ?_)
        exact look (Or.inl hb)
      · refine R_iload 26 c_16_24 rfl rfl ?_
        refine R_brz 29 34 _ (cmp_eq (by unfold inR; omega) inR_0) c_16_26 rfl rfl (fun hb => ?_) (fun hb => ?_)
        · refine R_iconst 35 c_16_34 rfl ?_
          refine R_goto 39 c_16_35 rfl ?_
          refine R_istore 41 c_16_39 rfl ?_
          refine R_iload 43 c_16_41 rfl rfl ?_
          refine R_brz 46 76 _ (cmp_eq (by unfold inR; omega) inR_0) c_16_43 rfl rfl (fun hn => absurd hn (by omega)) (fun _ => ?_)
          exact look (Or.inr (Or.inl (by assumption)))
        · refine R_iload 31 c_16_29 rfl rfl ?_
          refine R_brz 34 38 _ (cmp_ne (by unfold inR; omega) inR_0) c_16_31 rfl rfl (fun hb => ?_) (fun hb => ?_)
          · refine R_iconst 39 c_16_38 rfl ?_
            refine R_istore 41 c_16_39 rfl ?_
            refine R_iload 43 c_16_41 rfl rfl ?_
            refine R_brz 46 76 _ (cmp_eq (by unfold inR; omega) inR_0) c_16_43 rfl rfl (fun _ => ?_) (fun hn => absurd (by omega) hn)
            refine skip 0 (fun e he ha e1 e2 => ?_)
            obtain ⟨-, -, -, -, h5⟩ := ha
            rw [hCx, hCy] at h5
            omega
          · refine R_iconst 35 c_16_34 rfl ?_
            refine R_goto 39 c_16_35 rfl ?_
            refine R_istore 41 c_16_39 rfl ?_
            refine R_iload 43 c_16_41 rfl rfl ?_
            refine R_brz 46 76 _ (cmp_eq (by unfold inR; omega) inR_0) c_16_43 rfl rfl (fun hn => absurd hn (by omega)) (fun _ => ?_)
            exact look (Or.inr (Or.inr (by omega)))
    · rintro L3 H3 ⟨hL3, he3, nm3, wt3, wc3, sz3, ae3, hp3, hF3, hk3, hd3, hh3⟩
      have hL3' : L3.filter (fun q => [0, 1, 2, 3, 4, 5].contains q.1) = [(0, .ref 21), (1, vI cx), (2, vI cy), (3, vI ways), (4, vI dy), (5, vI 2)] := by
        rcases hL3 with rfl | ⟨u, rfl⟩ <;> rfl
      refine m_keep [0, 1, 2, 3, 4, 5] (by rcases hL3 with rfl | ⟨u, rfl⟩ <;> rfl) ?_
      rw [hL3']
      refine R_iload 14 c_16_12 rfl rfl ?_
      refine R_iconst 15 c_16_14 rfl ?_
      refine R_br 18 82 _ (cmp_gt (by unfold inR; omega) (by unfold inR; omega)) c_16_15 rfl rfl (fun _ => ?_) (fun hn => absurd (by omega) hn)
      refine R_iinc 85 c_16_82 rfl rfl ?_
      refine R_goto 3 c_16_85 rfl ?_
      refine m_keep [0, 1, 2, 3, 4] rfl ?_
      refine ih _ _ ⟨rfl, he3, nm3, wt3, wc3, sz3, ae3, hp3, hF3, hk3, hd3, fun e he ha hl => ?_⟩
      obtain ⟨h1, h2, h3, h4, h5⟩ := id ha
      refine hh3 e he ha (by omega)
  · rintro _ H2 ⟨rfl, he2, nm2, wt2, wc2, sz2, ae2, hp2, hF2, hk2, hd2, hh2'⟩
    refine R_iload 5 c_16_3 rfl rfl ?_
    refine R_iconst 6 c_16_5 rfl ?_
    refine R_br 9 88 _ (cmp_gt (by unfold inR; omega) (by unfold inR; omega)) c_16_6 rfl rfl (fun _ => ?_) (fun hn => absurd (by omega) hn)
    refine R_return c_16_88 rfl ?_
    refine hX _ _ ⟨rfl, he2, nm2, wt2, wc2, sz2, ae2, hp2, hF2, hk2, fun e he hen => ?_⟩
    rcases hd2 e he hen with h | h | rfl
    · exact Or.inl h
    · exact Or.inr h
    · refine Or.inr (fun e' h1 h2 h3 => ?_)
      have h4 := hh2' e' h1 h3 (Or.inl (by obtain ⟨-, -, -, q, -⟩ := h3; omega))
      rcases hF2.1 e' h1 with h5 | h5
      · exact absurd (h5.trans (hP3 e' h1 h2 (cn_st hcn hmc h2 h3))) h4
      · exact h5.1
end JN
/-! gathering one PART, finding all -/
theorem m_place {w : Int} {a b : Int} (hw1 : 1 ≤ w) (hw : w ≤ 16) {h : Int} (ha : inG w h a) (hb : inG w h b) (he : a / w * 16 + a % w = b / w * 16 + b % w) : a = b := by
  have h1 := inG_xy hw1 ha
  have h2 := inG_xy hw1 hb
  rw [← h1.2.2.2.2, ← h2.2.2.2.2, show a / w = b / w by omega, show a % w = b % w by omega]
theorem fsum_0s {f : Int → Int} {n : Int} (h0 : 0 ≤ n) (h1 : n ≤ 256) (h : ∀ e : Int, 0 ≤ e → e < n → f e = 0) : fsum f n = 0 := by
  rw [fsum_ext (g := fun _ => 0) h]
  have := fsum_bd (f := fun _ => 0) (lo := 0) (hi := 0) (fun _ _ _ => by omega) n h0 h1
  omega
section GATHER
variable {scr : List Int32} {H : List mC} {fd wc w h ways p : Int} {nm0 wt sz ae : Int → Int} {mb : Int → Prop}
set_option maxHeartbeats 4000000 in
theorem k_gather (hways : ways = 4 ∨ ways = 8) (hP : FP w h ways fd p mb nm0) (hp : pt H fd wc w h nm0 wt sz ae) (hpm : mb p) :
    m_CP scr 14 [.ref 21, vI (p % w), vI (p / w), vI ways] H (fun v1 H1 => v1 = none ∧ eqo pS H H1 ∧ ∃ nm' wt' wc', pt H1 fd wc' w h nm' wt' (m_up sz fd (fsum (ind nm' fd) (w * h))) (m_up ae fd (tch w h fd nm')) ∧
      (∀ e, inG w h e → mb e → cn w ways mb p e → nm' e = fd) ∧ ∀ e, inG w h e → ¬ (mb e ∧ cn w ways mb p e) → nm' e = nm0 e) := by
  obtain ⟨hdim, hfd, hP1, hP2, hP3, hP4, hP5⟩ := id hP
  obtain ⟨hw1, hw2, hh1, hh2⟩ := id hdim
  have ha := m_area hw1 hw2 hh1 hh2
  have hpG := hP5 p hpm
  have hpxy := inG_xy hw1 hpG
  refine m_CP.of ?_
  show m_Ev scr 14 0 [(0, .ref 21), (1, vI (p % w)), (2, vI (p / w)), (3, vI ways)] [] H _
  refine m_gen (fun X hX => ?_)
  refine R_aload_n 1 c_14_0 rfl rfl ?_
  refine R_get 4 c_14_1 rfl (hp.1) rfl ?_
  refine R_aload_n 5 c_14_4 rfl rfl ?_
  refine R_get 8 c_14_5 rfl (hp.1) rfl ?_
  refine R_iconst 9 c_14_8 rfl ?_
  refine R_iast 10 c_14_9 rfl (hp.2.2.2.1) (by omega) (by omega) (by decide) ?_
  have p1 := hp.s (m_up sz fd 0)
  have q1 : eqo pS H _ := (eqo.rf pS H).st (c := .inl (0, aI 256 (m_up sz fd 0))) (r := 24) (by decide)
  generalize m_set H 24 (.inl (0, aI 256 (m_up sz fd 0))) = H1 at p1 q1 ⊢
  refine R_aload_n 11 c_14_10 rfl rfl ?_
  refine R_get 14 c_14_11 rfl (p1.1) rfl ?_
  refine R_aload_n 15 c_14_14 rfl rfl ?_
  refine R_get 18 c_14_15 rfl (p1.1) rfl ?_
  refine R_iconst 19 c_14_18 rfl ?_
  refine R_bast 20 c_14_19 rfl (p1.2.2.2.2) (by omega) (by omega) (by decide) (by decide) ?_
  have p2 := p1.a (m_up ae fd 0)
  have q2 := q1.st (c := .inl (1, aI 256 (m_up ae fd 0))) (r := 25) (by decide)
  generalize m_set H1 25 (.inl (1, aI 256 (m_up ae fd 0))) = H2 at p2 q2 ⊢
  refine R_aload_n 21 c_14_20 rfl rfl ?_
  refine R_iconst 22 c_14_21 rfl ?_
  refine R_put 25 c_14_22 rfl (p2.1) (Nat.le_of_ble_eq_true rfl) rfl ?_
  have p3 := p2.o fd 0 w h
  have q3 := q2.st (c := .inr (1, [vI fd, .ref 22, .ref 23, vI 0, .ref 24, .ref 25, vI w, vI h])) (r := 21) (by decide)
  refine m_nrm [(0, .ref 21), (1, vI (p % w)), (2, vI (p / w)), (3, vI ways)] rfl ?_
  show m_Ev scr 14 25 _ [] (m_set H2 21 (.inr (1, [vI fd, .ref 22, .ref 23, vI 0, .ref 24, .ref 25, vI w, vI h]))) X
  generalize m_set H2 21 (.inr (1, [vI fd, .ref 22, .ref 23, vI 0, .ref 24, .ref 25, vI w, vI h])) = H3 at p3 q3 ⊢
  have hF0 : FL w h ways fd p mb nm0 nm0 wt 0 0 (m_up sz fd 0) (m_up ae fd 0) sz ae := by
    have e0 : fsum (ind nm0 fd) (w * h) = 0 := fsum_0s (by omega) (by omega) (fun e h0 h1 => if_neg (hP2 e ⟨h0, h1⟩))
    refine ⟨fun e _ => Or.inl rfl, ⟨Int.le_refl _, by rw [e0]; rfl, by rw [e0]⟩, fun i h0 h1 => by omega, ?_⟩
    rw [show tch w h fd nm0 = 0 from if_neg (by rintro ⟨e, h1, h2, -⟩; exact hP2 e h1 h2)]
  have hn0 : nm0 p = 256 := hP3 p hpG hpm (cn_rf _ _ _ _)
  have hF1 := FL_join hP hF0 hpG hn0 (cn_rf _ _ _ _)
  obtain ⟨v4, H4, hc4, rfl, he4, hp4⟩ := k_join (scr := scr) (x := p % w) (y := p / w) p3 hdim ⟨hpxy.1, hpxy.2.1⟩ ⟨hpxy.2.2.1, hpxy.2.2.2.1⟩ hfd (by omega)
  rw [hpxy.2.2.2.2] at hp4
  have fin : ∀ H5 nm' wt' wc' t' sz' ae', eqo pS H H5 → pt H5 fd wc' w h nm' wt' sz' ae' → FL w h ways fd p mb nm0 nm' wt' wc' t' sz' ae' sz ae → nm' p = fd → wc' = 0 →
      (∀ e, inG w h e → nm' e = fd → (∃ i, 0 ≤ i ∧ i < wc' ∧ wt' i = e / w * 16 + e % w) ∨ ∀ e', inG w h e' → mb e' → adj w ways e e' → nm' e' = fd) → X (none, H5) := by
    intro H5 nm' wt' wc' t' sz' ae' h1 h2 h3 h4 h5 h6
    refine hX _ _ ⟨rfl, h1, nm', wt', wc', ?_, fun e he hm hc => ?_, fun e he hno => ?_⟩
    · rw [← h3.2.1.2.2, ← h3.2.2.2]; exact h2
    · refine (hc (fun z => inG w h z ∧ nm' z = fd) ⟨hpG, h4⟩ (fun u z hu hmu hmz huz => ⟨hP5 z hmz, ?_⟩)).2
      rcases h6 u hu.1 hu.2 with ⟨i, i0, i1, -⟩ | h7
      · omega
      · exact h7 z (hP5 z hmz) hmz huz
    · rcases h3.1 e he with h7 | ⟨-, h7, h8⟩
      · exact h7
      · exact absurd ⟨hP1 e he h7, h8⟩ hno
  refine R_aload_n 26 c_14_25 rfl rfl ?_
  refine R_iload_n 27 c_14_26 rfl rfl ?_
  refine R_iload_n 28 c_14_27 rfl rfl ?_
  refine R_callV 31 c_14_28 rfl rfl rfl rfl (Nat.le_of_ble_eq_true rfl) (Nat.le_of_ble_eq_true rfl) (p3.1) (hc4) ?_
  refine R_iconst 32 c_14_31 rfl ?_
  refine R_istore 34 c_14_32 rfl ?_
  refine m_forP 256 (fun i L H5 => (L = [(0, .ref 21), (1, vI (p % w)), (2, vI (p / w)), (3, vI ways), (4, vI i)] ∨ ∃ u, L = [(0, .ref 21), (1, vI (p % w)), (2, vI (p / w)), (3, vI ways), (4, vI i), (5, vI u)]) ∧ eqo pS H H5 ∧ ∃ nm' wt' wc' sz' ae', pt H5 fd wc' w h nm' wt' sz' ae' ∧ FL w h ways fd p mb nm0 nm' wt' wc' i sz' ae' sz ae ∧ nm' p = fd ∧
      (∀ e, inG w h e → nm' e = fd → (∃ i, 0 ≤ i ∧ i < wc' ∧ wt' i = e / w * 16 + e % w) ∨ ∀ e', inG w h e' → mb e' → adj w ways e e' → nm' e' = fd)) 0
    ⟨Or.inl rfl, q3.tr he4, _, _, _, _, _, hp4, hF1, m_up_at _ _ _, fun e he hen => ?_⟩ (by omega) ?_ ?_
  · by_cases hep : e = p
    · subst hep
      exact Or.inl ⟨0, by omega, by omega, m_up_at _ _ _⟩
    · rw [m_up_ne _ _ hep] at hen
      exact absurd hen (hP2 e he)
  · rintro i L5 H5 h0 hi ⟨hL5, he5, nm5, wt5, wc5, sz5, ae5, hp5, hF5, hk5, hd5⟩ ih
    have hL5' : L5.filter (fun q => [0, 1, 2, 3, 4].contains q.1) = [(0, .ref 21), (1, vI (p % w)), (2, vI (p / w)), (3, vI ways), (4, vI i)] := by
      rcases hL5 with rfl | ⟨u, rfl⟩ <;> rfl
    refine m_keep [0, 1, 2, 3, 4] (by rcases hL5 with rfl | ⟨u, rfl⟩ <;> rfl) ?_
    rw [hL5']
    have hbd := fsum_bd (f := ind nm5 fd) (lo := 0) (hi := 1) (fun j _ _ => by unfold ind; split <;> omega) (w * h) (by omega) (by omega)
    obtain ⟨hB1, hB2, hB3⟩ := hF5.2.1
    refine R_iload 36 c_14_34 rfl rfl ?_
    refine R_sipush 39 c_14_36 rfl (by decide) ?_
    refine R_br 42 91 _ (cmp_ge (by unfold inR; omega) (by unfold inR; omega)) c_14_39 rfl rfl (fun hn => absurd hn (by omega)) (fun _ => ?_)
    refine R_aload_n 43 c_14_42 rfl rfl ?_
    refine R_get 46 c_14_43 rfl (hp5.1) rfl ?_
    refine R_brz 49 91 _ (cmp_le (by unfold inR; omega) inR_0) c_14_46 rfl rfl (fun hb => ?_) (fun hb => ?_)
    · refine R_return c_14_91 rfl ?_
      exact fin _ _ _ _ _ _ _ he5 hp5 hF5 hk5 (by omega) hd5
    · refine R_aload_n 50 c_14_49 rfl rfl ?_
      refine R_dup 51 c_14_50 rfl rfl ?_
      refine R_get 54 c_14_51 rfl (hp5.1) rfl ?_
      refine R_iconst 55 c_14_54 rfl ?_
      refine R_isub 56 c_14_55 rfl ?_
      refine R_put 59 c_14_56 rfl (hp5.1) (Nat.le_of_ble_eq_true rfl) rfl ?_
      have p6 := hp5.o fd (wc5 - 1) w h
      have q6 := he5.st (c := .inr (1, [vI fd, .ref 22, .ref 23, vI (wc5 - 1), .ref 24, .ref 25, vI w, vI h])) (r := 21) (by decide)
      show m_Ev scr 14 59 _ [] (m_set H5 21 (.inr (1, [vI fd, .ref 22, .ref 23, vI (wc5 - 1), .ref 24, .ref 25, vI w, vI h]))) X
      generalize m_set H5 21 (.inr (1, [vI fd, .ref 22, .ref 23, vI (wc5 - 1), .ref 24, .ref 25, vI w, vI h])) = H6 at p6 q6 ⊢
      obtain ⟨c, hcG, hcn, hcw⟩ := hF5.2.2.1 (wc5 - 1) (by omega) (by omega)
      have hcxy := inG_xy hw1 hcG
      have hF6 : FL w h ways fd p mb nm0 nm5 wt5 (wc5 - 1) (i + 1) sz5 ae5 sz ae := ⟨hF5.1, ⟨by omega, by omega, hB3⟩, fun j j0 j1 => hF5.2.2.1 j j0 (by omega), hF5.2.2.2⟩
      have hcm : mb c ∧ cn w ways mb p c := by
        rcases hF5.1 c hcG with h7 | ⟨-, h7, h8⟩
        · exact absurd (h7.symm.trans hcn) (hP2 c hcG)
        · exact ⟨hP1 c hcG h7, h8⟩
      have hd6 : dn w h ways fd c mb nm5 wt5 (wc5 - 1) := by
        intro e he hen
        rcases hd5 e he hen with ⟨j, j0, j1, j2⟩ | h7
        · by_cases hj : j = wc5 - 1
          · subst hj
            exact Or.inr (Or.inr (m_place hw1 hw2 he hcG (by omega)))
          · exact Or.inl ⟨j, j0, by omega, j2⟩
        · exact Or.inr (Or.inl h7)
      obtain ⟨v7, H7, hc7, rfl, he7, nm7, wt7, wc7, sz7, ae7, hp7, hF7, hk7, hd7⟩ := k_joinNeighbours (scr := scr) hways hP hF6 p6 (by omega) hcG hcm.2 hcm.1 hd6
      rw [show c % w = wt5 (wc5 - 1) % 16 by omega, show c / w = wt5 (wc5 - 1) / 16 by omega] at hc7
      refine R_aload_n 60 c_14_59 rfl rfl ?_
      refine R_get 63 c_14_60 rfl (p6.1) rfl ?_
      refine R_aload_n 64 c_14_63 rfl rfl ?_
      refine R_get 67 c_14_64 rfl (p6.1) rfl ?_
      refine R_iald 68 c_14_67 rfl (p6.2.2.1) (by omega) (by omega) (by decide) ?_
      refine R_istore 70 c_14_68 rfl ?_
      refine R_aload_n 71 c_14_70 rfl rfl ?_
      refine R_iload 73 c_14_71 rfl rfl ?_
      refine R_bipush 75 c_14_73 rfl (by decide) ?_
      refine R_iremp 76 c_14_75 rfl (by omega) (by omega) ?_
      refine R_iload 78 c_14_76 rfl rfl ?_
      refine R_bipush 80 c_14_78 rfl (by decide) ?_
      refine R_idivp 81 c_14_80 rfl (by omega) (by omega) ?_
      refine R_iload_n 82 c_14_81 rfl rfl ?_
      refine R_callV 85 c_14_82 rfl rfl rfl rfl (Nat.le_of_ble_eq_true rfl) (Nat.le_of_ble_eq_true rfl) (p6.1) (hc7) ?_
      refine R_iinc 88 c_14_85 rfl rfl ?_
      refine R_goto 34 c_14_88 rfl ?_
      refine ih _ _ ⟨Or.inr ⟨_, rfl⟩, q6.tr he7, nm7, wt7, wc7, sz7, ae7, hp7, hF7, hk7 p hk5, hd7⟩
  · rintro L5 H5 ⟨hL5, he5, nm5, wt5, wc5, sz5, ae5, hp5, hF5, hk5, hd5⟩
    have hL5' : L5.filter (fun q => [0, 1, 2, 3, 4].contains q.1) = [(0, .ref 21), (1, vI (p % w)), (2, vI (p / w)), (3, vI ways), (4, vI 256)] := by
      rcases hL5 with rfl | ⟨u, rfl⟩ <;> rfl
    refine m_keep [0, 1, 2, 3, 4] (by rcases hL5 with rfl | ⟨u, rfl⟩ <;> rfl) ?_
    rw [hL5']
    have hbd := fsum_bd (f := ind nm5 fd) (lo := 0) (hi := 1) (fun j _ _ => by unfold ind; split <;> omega) (w * h) (by omega) (by omega)
    obtain ⟨hB1, hB2, hB3⟩ := hF5.2.1
    refine R_iload 36 c_14_34 rfl rfl ?_
    refine R_sipush 39 c_14_36 rfl (by decide) ?_
    refine R_br 42 91 _ (cmp_ge (by unfold inR; omega) (by unfold inR; omega)) c_14_39 rfl rfl (fun _ => ?_) (fun hn => absurd (by omega) hn)
    refine R_return c_14_91 rfl ?_
    exact fin _ _ _ _ _ _ _ he5 hp5 hF5 hk5 (by omega) hd5
end GATHER
/-! all PARTS: each is told by its first FIELD -/
noncomputable def ci (P : Prop) : Int := @ite Int P (Classical.propDecidable P) 1 0
theorem ci_pos {P : Prop} (h : P) : ci P = 1 := if_pos h
theorem ci_neg {P : Prop} (h : ¬ P) : ci P = 0 := if_neg h
theorem ci_congr {P Q : Prop} (h : P ↔ Q) : ci P = ci Q := by
  by_cases hp : P
  · rw [ci_pos hp, ci_pos (h.mp hp)]
  · rw [ci_neg hp, ci_neg (fun q => hp (h.mpr q))]
theorem ci_bd (P : Prop) : 0 ≤ ci P ∧ ci P ≤ 1 := by
  by_cases hp : P
  · rw [ci_pos hp]; omega
  · rw [ci_neg hp]; omega
def fsth (w ways : Int) (mb : Int → Prop) (q : Int) : Prop := mb q ∧ ∀ r, r < q → mb r → ¬ cn w ways mb r q
noncomputable def rk (w ways : Int) (mb : Int → Prop) (n : Int) : Int := fsum (fun q => ci (fsth w ways mb q)) n
theorem rk_bd (w ways : Int) (mb : Int → Prop) {n : Int} (h0 : 0 ≤ n) (h1 : n ≤ 256) : 0 ≤ rk w ways mb n ∧ rk w ways mb n ≤ n := by
  have := fsum_bd (f := fun q => ci (fsth w ways mb q)) (lo := 0) (hi := 1) (fun j _ _ => ci_bd _) n h0 h1
  unfold rk
  omega
theorem rk_succ (w ways : Int) (mb : Int → Prop) {n : Int} (h0 : 0 ≤ n) : rk w ways mb (n + 1) = rk w ways mb n + ci (fsth w ways mb n) := fsum_succ _ h0
theorem rk_mono (w ways : Int) (mb : Int → Prop) {a b : Int} (h0 : 0 ≤ a) (hab : a ≤ b) : rk w ways mb a ≤ rk w ways mb b := by
  obtain ⟨k, rfl⟩ : ∃ k : Nat, b = a + (k : Int) := ⟨(b - a).toNat, by omega⟩
  clear hab
  induction k with
  | zero => simp
  | succ k ih =>
    rw [show a + ((k + 1 : Nat) : Int) = a + (k : Int) + 1 by omega, rk_succ w ways mb (by omega)]
    have := ci_bd (fsth w ways mb (a + (k : Int)))
    omega
theorem rk_lt (w ways : Int) (mb : Int → Prop) {a b : Int} (h0 : 0 ≤ a) (hab : a < b) (hf : fsth w ways mb a) : rk w ways mb a < rk w ways mb b := by
  have h1 := rk_mono w ways mb (a := a + 1) (b := b) (by omega) (by omega)
  rw [rk_succ w ways mb h0, ci_pos hf] at h1
  omega
def mbf (w h : Int) (f : Int → Int) (thr on : Int) (e : Int) : Prop := inG w h e ∧ mbr f thr on e
def FD (w h ways : Int) (mb : Int → Prop) (fd : Int) (nm sz ae : Int → Int) (p : Int) : Prop :=
  fd = rk w ways mb p ∧ (∀ e, inG w h e → ¬ mb e → nm e = -1) ∧ (∀ e, mb e → (∃ q, q < p ∧ mb q ∧ cn w ways mb q e) → ∃ q, q < p ∧ fsth w ways mb q ∧ cn w ways mb q e ∧ nm e = rk w ways mb q) ∧
  (∀ e, mb e → ¬ (∃ q, q < p ∧ mb q ∧ cn w ways mb q e) → nm e = 256) ∧
  ∀ q, q < p → fsth w ways mb q → sz (rk w ways mb q) = fsum (fun e => ci (mb e ∧ cn w ways mb q e)) (w * h) ∧ ae (rk w ways mb q) = ci (∃ e, mb e ∧ cn w ways mb q e ∧ edgI w h e)
section FIND
variable {scr : List Int32} {H : List mC} {s v : Nat} {fd wc w h ways p w0 h0 thr on : Int} {nm nm0 wt sz ae f : Int → Int} {mb : Int → Prop}
theorem FD_fst (hdim : 1 ≤ w ∧ w ≤ 16 ∧ 1 ≤ h ∧ h ≤ 16) (hmb : ∀ e, mb e → inG w h e) (hF : FD w h ways mb fd nm sz ae p) (hp : inG w h p) : nm p = 256 ↔ fsth w ways mb p := by
  have ha := m_area hdim.1 hdim.2.1 hdim.2.2.1 hdim.2.2.2
  obtain ⟨h1, h2, h3, h4, h5⟩ := hF
  constructor
  · intro hn
    have hm : mb p := by
      by_cases hm : mb p
      · exact hm
      · have := h2 p hp hm; omega
    refine ⟨hm, fun r hr hmr hc => ?_⟩
    obtain ⟨q, hq1, hq2, hq3, hq4⟩ := h3 p hm ⟨r, hr, hmr, hc⟩
    have hqG := hmb q hq2.1
    have := rk_bd w ways mb (n := q) hqG.1 (by have := hqG.2; omega)
    have := hqG.2
    omega
  · intro hf
    exact h4 p hf.1 (by rintro ⟨q, q1, q2, q3⟩; exact hf.2 q q1 q2 q3)
theorem FD_no (hF : FD w h ways mb fd nm sz ae p) (hp0 : 0 ≤ p) (hno : ¬ fsth w ways mb p) : FD w h ways mb fd nm sz ae (p + 1) := by
  obtain ⟨h1, h2, h3, h4, h5⟩ := hF
  refine ⟨by rw [rk_succ w ways mb hp0, ci_neg hno]; omega, h2, ?_, ?_, ?_⟩
  · rintro e hm ⟨q, q1, q2, q3⟩
    have : ∃ q, q < p ∧ mb q ∧ cn w ways mb q e := by
      by_cases hqp : q = p
      · subst hqp
        by_cases hex : ∃ r, r < q ∧ mb r ∧ cn w ways mb r q
        · obtain ⟨r, r1, r2, r3⟩ := hex
          exact ⟨r, r1, r2, cn_tr r3 q3⟩
        · exact absurd ⟨q2, fun r r1 r2 r3 => hex ⟨r, r1, r2, r3⟩⟩ hno
      · exact ⟨q, by omega, q2, q3⟩
    obtain ⟨r, r1, r2, r3, r4⟩ := h3 e hm this
    exact ⟨r, by omega, r2, r3, r4⟩
  · intro e hm hex
    exact h4 e hm (by rintro ⟨q, q1, q2, q3⟩; exact hex ⟨q, by omega, q2, q3⟩)
  · intro q q1 q2
    by_cases hqp : q = p
    · subst hqp; exact absurd q2 hno
    · exact h5 q (by omega) q2
theorem FD_FP (hdim : 1 ≤ w ∧ w ≤ 16 ∧ 1 ≤ h ∧ h ≤ 16) (hmb : ∀ e, mb e → inG w h e) (hF : FD w h ways mb fd nm sz ae p) (hp : inG w h p) (hf : fsth w ways mb p) : FP w h ways fd p mb nm := by
  have ha := m_area hdim.1 hdim.2.1 hdim.2.2.1 hdim.2.2.2
  obtain ⟨h1, h2, h3, h4, h5⟩ := hF
  have hp2 := hp.2
  have hr := rk_bd w ways mb (n := p) hp.1 (by omega)
  have cases3 : ∀ e, inG w h e → (¬ mb e ∧ nm e = -1) ∨ (mb e ∧ ∃ q, 0 ≤ q ∧ q < p ∧ fsth w ways mb q ∧ cn w ways mb q e ∧ nm e = rk w ways mb q) ∨ (mb e ∧ (¬ ∃ q, q < p ∧ mb q ∧ cn w ways mb q e) ∧ nm e = 256) := by
    intro e he
    by_cases hm : mb e
    · by_cases hex : ∃ q, q < p ∧ mb q ∧ cn w ways mb q e
      · obtain ⟨q, q1, q2, q3, q4⟩ := h3 e hm hex
        exact Or.inr (Or.inl ⟨hm, q, (hmb q q2.1).1, q1, q2, q3, q4⟩)
      · exact Or.inr (Or.inr ⟨hm, hex, h4 e hm hex⟩)
    · exact Or.inl ⟨hm, h2 e he hm⟩
  refine ⟨hdim, by omega, fun e he hn => ?_, fun e he hn => ?_, fun e he hm hc => ?_, fun e he => ?_, hmb⟩
  · by_cases hm : mb e
    · exact hm
    · have := h2 e he hm; omega
  · rcases cases3 e he with ⟨-, h6⟩ | ⟨-, q, q0, q1, q2, q3, q4⟩ | ⟨-, -, h6⟩
    · omega
    · have := rk_lt w ways mb q0 q1 q2; omega
    · omega
  · refine h4 e hm ?_
    rintro ⟨q, q1, q2, q3⟩
    exact hf.2 q q1 q2 (cn_tr q3 (cn_sy hc))
  · rcases cases3 e he with ⟨-, h6⟩ | ⟨-, q, q0, q1, q2, q3, q4⟩ | ⟨-, -, h6⟩
    · omega
    · have := rk_bd w ways mb (n := q) q0 (by omega); omega
    · omega
theorem FD_new {nm' : Int → Int} (hdim : 1 ≤ w ∧ w ≤ 16 ∧ 1 ≤ h ∧ h ≤ 16) (hmb : ∀ e, mb e → inG w h e) (hF : FD w h ways mb fd nm sz ae p) (hp : inG w h p) (hf : fsth w ways mb p)
    (g1 : ∀ e, inG w h e → mb e → cn w ways mb p e → nm' e = fd) (g2 : ∀ e, inG w h e → ¬ (mb e ∧ cn w ways mb p e) → nm' e = nm e) :
    FD w h ways mb (fd + 1) nm' (m_up sz fd (fsum (ind nm' fd) (w * h))) (m_up ae fd (tch w h fd nm')) (p + 1) := by
  have hP := FD_FP hdim hmb hF hp hf
  obtain ⟨h1, h2, h3, h4, h5⟩ := hF
  have hiff : ∀ e, inG w h e → (nm' e = fd ↔ mb e ∧ cn w ways mb p e) := by
    intro e he
    constructor
    · intro hn
      by_cases hc : mb e ∧ cn w ways mb p e
      · exact hc
      · exact absurd ((g2 e he hc).symm.trans hn) (hP.2.2.2.1 e he)
    · intro hc
      exact g1 e he hc.1 hc.2
  refine ⟨by rw [rk_succ w ways mb hp.1, ci_pos hf]; omega, fun e he hm => ?_, ?_, ?_, ?_⟩
  · rw [g2 e he (fun q => hm q.1)]
    exact h2 e he hm
  · rintro e hm ⟨q, q1, q2, q3⟩
    by_cases hc : cn w ways mb p e
    · exact ⟨p, by omega, hf, hc, by rw [g1 e (hmb e hm) hm hc, h1]⟩
    · have hqp : q ≠ p := fun z => hc (by rw [← z]; exact q3)
      obtain ⟨r, r1, r2, r3, r4⟩ := h3 e hm ⟨q, by omega, q2, q3⟩
      exact ⟨r, by omega, r2, r3, by rw [g2 e (hmb e hm) (fun z => hc z.2)]; exact r4⟩
  · intro e hm hex
    have hc : ¬ cn w ways mb p e := fun z => hex ⟨p, by omega, hf.1, z⟩
    rw [g2 e (hmb e hm) (fun z => hc z.2)]
    exact h4 e hm (by rintro ⟨q, q1, q2, q3⟩; exact hex ⟨q, by omega, q2, q3⟩)
  · intro q q1 q2
    by_cases hqp : q = p
    · subst hqp
      rw [← h1, m_up_at, m_up_at]
      refine ⟨fsum_ext (fun e e0 e1 => ?_), ?_⟩
      · unfold ind
        by_cases hc : mb e ∧ cn w ways mb q e
        · rw [if_pos ((hiff e ⟨e0, e1⟩).mpr hc), ci_pos hc]
        · rw [if_neg (fun z => hc ((hiff e ⟨e0, e1⟩).mp z)), ci_neg hc]
      · show ci _ = ci _
        refine ci_congr ⟨?_, ?_⟩
        · rintro ⟨e, e1, e2, e3⟩
          have := (hiff e e1).mp e2
          exact ⟨e, this.1, this.2, e3⟩
        · rintro ⟨e, e1, e2, e3⟩
          exact ⟨e, hmb e e1, g1 e (hmb e e1) e1 e2, e3⟩
    · have hlt := rk_lt w ways mb (hmb q q2.1).1 (show q < p by omega) q2
      rw [m_up_ne _ _ (by omega), m_up_ne _ _ (by omega)]
      exact h5 q (by omega) q2
set_option maxHeartbeats 4000000 in
theorem k_find (hways : ways = 4 ∨ ways = 8) (hp : pt H fd wc w0 h0 nm0 wt sz ae) (hs : sh H s v w h f) (hf : vok f) (ns : s ∉ pS) (nv : v ∉ pS) (ht : 0 ≤ thr ∧ thr ≤ 255) (hon : on = 0 ∨ on = 1) :
    m_CP scr 12 [.ref 21, .ref s, vI ways, vI thr, vI on] H (fun v1 H1 => v1 = none ∧ eqo pS H H1 ∧ ∃ fd' wc' nm' wt' sz' ae', pt H1 fd' wc' w h nm' wt' sz' ae' ∧ FD w h ways (mbf w h f thr on) fd' nm' sz' ae' (w * h)) := by
  have hdim := hs.2.2.2
  obtain ⟨hw1, hw2, hh1, hh2⟩ := id hdim
  have ha := m_area hw1 hw2 hh1 hh2
  have hmb : ∀ e, mbf w h f thr on e → inG w h e := fun e he => he.1
  refine m_CP.of ?_
  show m_Ev scr 12 0 [(0, .ref 21), (1, .ref s), (2, vI ways), (3, vI thr), (4, vI on)] [] H _
  refine m_gen (fun X hX => ?_)
  have p1 := hp.o fd wc w h0
  have hs1 := sh_set (c := .inr (1, [vI fd, .ref 22, .ref 23, vI wc, .ref 24, .ref 25, vI w, vI h0])) (q := 21) hs (by simp at ns; omega) (by simp at nv; omega)
  have q1 : eqo pS H _ := (eqo.rf pS H).st (c := .inr (1, [vI fd, .ref 22, .ref 23, vI wc, .ref 24, .ref 25, vI w, vI h0])) (r := 21) (by decide)
  refine R_aload_n 1 c_12_0 rfl rfl ?_
  refine R_aload_n 2 c_12_1 rfl rfl ?_
  refine R_get 5 c_12_2 rfl (hs.1) rfl ?_
  refine R_put 8 c_12_5 rfl (hp.1) (Nat.le_of_ble_eq_true rfl) rfl ?_
  show m_Ev scr 12 8 _ [] (m_set H 21 (.inr (1, [vI fd, .ref 22, .ref 23, vI wc, .ref 24, .ref 25, vI w, vI h0]))) X
  generalize m_set H 21 (.inr (1, [vI fd, .ref 22, .ref 23, vI wc, .ref 24, .ref 25, vI w, vI h0])) = H1 at p1 q1 hs1 ⊢
  have p2 := p1.o fd wc w h
  have hs2 := sh_set (c := .inr (1, [vI fd, .ref 22, .ref 23, vI wc, .ref 24, .ref 25, vI w, vI h])) (q := 21) hs1 (by simp at ns; omega) (by simp at nv; omega)
  have q2 := q1.st (c := .inr (1, [vI fd, .ref 22, .ref 23, vI wc, .ref 24, .ref 25, vI w, vI h])) (r := 21) (by decide)
  refine R_aload_n 9 c_12_8 rfl rfl ?_
  refine R_aload_n 10 c_12_9 rfl rfl ?_
  refine R_get 13 c_12_10 rfl (hs1.1) rfl ?_
  refine R_put 16 c_12_13 rfl (p1.1) (Nat.le_of_ble_eq_true rfl) rfl ?_
  show m_Ev scr 12 16 _ [] (m_set H1 21 (.inr (1, [vI fd, .ref 22, .ref 23, vI wc, .ref 24, .ref 25, vI w, vI h]))) X
  generalize m_set H1 21 (.inr (1, [vI fd, .ref 22, .ref 23, vI wc, .ref 24, .ref 25, vI w, vI h])) = H2 at p2 q2 hs2 ⊢
  have p3 := p2.o 0 wc w h
  have hs3 := sh_set (c := .inr (1, [vI 0, .ref 22, .ref 23, vI wc, .ref 24, .ref 25, vI w, vI h])) (q := 21) hs2 (by simp at ns; omega) (by simp at nv; omega)
  have q3 := q2.st (c := .inr (1, [vI 0, .ref 22, .ref 23, vI wc, .ref 24, .ref 25, vI w, vI h])) (r := 21) (by decide)
  refine R_aload_n 17 c_12_16 rfl rfl ?_
  refine R_iconst 18 c_12_17 rfl ?_
  refine R_put 21 c_12_18 rfl (p2.1) (Nat.le_of_ble_eq_true rfl) rfl ?_
  show m_Ev scr 12 21 _ [] (m_set H2 21 (.inr (1, [vI 0, .ref 22, .ref 23, vI wc, .ref 24, .ref 25, vI w, vI h]))) X
  generalize m_set H2 21 (.inr (1, [vI 0, .ref 22, .ref 23, vI wc, .ref 24, .ref 25, vI w, vI h])) = H3 at p3 q3 hs3 ⊢
  obtain ⟨v4, H4, hc4, rfl, he4, p4⟩ := k_markMembers (scr := scr) p3 hs3 hf ns nv ht hon
  have q4 := q3.tr he4
  have hF0 : FD w h ways (mbf w h f thr on) 0 (fpre (mrk f thr on) nm0 (w * h)) sz ae 0 := by
    refine ⟨rfl, fun e he hm => ?_, ?_, fun e hm _ => ?_, fun q q1 q2 => ?_⟩
    · rw [show fpre (mrk f thr on) nm0 (w * h) e = mrk f thr on e from if_pos ⟨he.1, he.2⟩]
      exact if_neg (fun z => hm ⟨he, z⟩)
    · rintro e hm ⟨q, q1, q2, -⟩
      have := q2.1.1
      omega
    · rw [show fpre (mrk f thr on) nm0 (w * h) e = mrk f thr on e from if_pos ⟨hm.1.1, hm.1.2⟩]
      exact if_pos hm.2
    · have := q2.1.1.1
      omega
  refine R_aload_n 22 c_12_21 rfl rfl ?_
  refine R_aload_n 23 c_12_22 rfl rfl ?_
  refine R_iload_n 24 c_12_23 rfl rfl ?_
  refine R_iload 26 c_12_24 rfl rfl ?_
  refine R_callV 29 c_12_26 rfl rfl rfl rfl (Nat.le_of_ble_eq_true rfl) (Nat.le_of_ble_eq_true rfl) (p3.1) (hc4) ?_
  refine R_iconst 30 c_12_29 rfl ?_
  refine R_istore 32 c_12_30 rfl ?_
  refine m_forP h (fun y L H5 => (L = [(0, .ref 21), (1, .ref s), (2, vI ways), (3, vI thr), (4, vI on), (5, vI y)]) ∧ eqo pS H H5 ∧ ∃ fd' wc' nm' wt' sz' ae', pt H5 fd' wc' w h nm' wt' sz' ae' ∧ FD w h ways (mbf w h f thr on) fd' nm' sz' ae' (y * w)) 0 ⟨rfl, q4, _, _, _, _, _, _, p4, by rw [Int.zero_mul]; exact hF0⟩ (by omega) ?_ ?_
  · rintro y _ H5 hy0 hy ⟨rfl, he5, fd5, wc5, nm5, wt5, sz5, ae5, p5, hF5⟩ ih
    refine R_iload 34 c_12_32 rfl rfl ?_
    refine R_aload_n 35 c_12_34 rfl rfl ?_
    refine R_get 38 c_12_35 rfl (p5.1) rfl ?_
    refine R_br 41 98 _ (cmp_ge (by unfold inR; omega) (by unfold inR; omega)) c_12_38 rfl rfl (fun hn => absurd hn (by omega)) (fun _ => ?_)
    refine R_iconst 42 c_12_41 rfl ?_
    refine R_istore 44 c_12_42 rfl ?_
    refine m_forP w (fun x L H6 => (L = [(0, .ref 21), (1, .ref s), (2, vI ways), (3, vI thr), (4, vI on), (5, vI y), (6, vI x)]) ∧ eqo pS H H6 ∧ ∃ fd' wc' nm' wt' sz' ae', pt H6 fd' wc' w h nm' wt' sz' ae' ∧ FD w h ways (mbf w h f thr on) fd' nm' sz' ae' (y * w + x)) 0 ⟨rfl, he5, fd5, wc5, nm5, wt5, sz5, ae5, p5, by rw [Int.add_zero]; exact hF5⟩ (by omega) ?_ ?_
    · rintro x _ H6 hx0 hx ⟨rfl, he6, fd6, wc6, nm6, wt6, sz6, ae6, p6, hF6⟩ ih2
      have hi := m_idx hx0 hx hy0 hy
      have hem := m_em (y := y) hx0 hx
      have hnat : nat_ w h nm6 x y = nm6 (y * w + x) := if_neg (by omega)
      have hiff := FD_fst hdim hmb hF6 hi
      have hna := k_numberAt (scr := scr) (x := x) (y := y) p6 hdim (by unfold inR; omega) (by unfold inR; omega)
      rw [hnat] at hna
      have hrng : inR (nm6 (y * w + x)) := by
        by_cases hm : fsth w ways (mbf w h f thr on) (y * w + x)
        · rw [hiff.mpr hm]; unfold inR; omega
        · by_cases hm2 : mbf w h f thr on (y * w + x)
          · by_cases hex : ∃ q, q < y * w + x ∧ mbf w h f thr on q ∧ cn w ways (mbf w h f thr on) q (y * w + x)
            · obtain ⟨q, z1, z2, z3, z4⟩ := hF6.2.2.1 _ hm2 hex
              have := rk_bd w ways (mbf w h f thr on) (n := q) z2.1.1.1 (by omega)
              rw [z4]; unfold inR; omega
            · rw [hF6.2.2.2.1 _ hm2 hex]; unfold inR; omega
          · rw [hF6.2.1 _ hi hm2]; unfold inR; omega
      generalize hE : y * w + x = e at *
      refine R_iload 46 c_12_44 rfl rfl ?_
      refine R_aload_n 47 c_12_46 rfl rfl ?_
      refine R_get 50 c_12_47 rfl (p6.1) rfl ?_
      refine R_br 53 92 _ (cmp_ge (by unfold inR; omega) (by unfold inR; omega)) c_12_50 rfl rfl (fun hn => absurd hn (by omega)) (fun _ => ?_)
      refine R_aload_n 54 c_12_53 rfl rfl ?_
      refine R_iload 56 c_12_54 rfl rfl ?_
      refine R_iload 58 c_12_56 rfl rfl ?_
      refine R_callV 61 c_12_58 rfl rfl rfl rfl (Nat.le_of_ble_eq_true rfl) (Nat.le_of_ble_eq_true rfl) (p6.1) (hna) ?_
      refine R_sipush 64 c_12_61 rfl (by decide) ?_
      refine R_br 67 86 _ (cmp_ne (hrng) (by unfold inR; omega)) c_12_64 rfl rfl (fun hb => ?_) (fun hb => ?_)
      · refine R_iinc 89 c_12_86 rfl rfl ?_
        refine R_goto 44 c_12_89 rfl ?_
        refine ih2 _ _ ⟨rfl, he6, fd6, wc6, nm6, wt6, sz6, ae6, p6, ?_⟩
        rw [← Int.add_assoc, hE]
        exact FD_no hF6 hi.1 (fun z => hb (hiff.mpr z))
      · have hfe := hiff.mp (by omega)
        obtain ⟨v7, H7, hc7, rfl, he7, nm7, wt7, wc7, p7, g1, g2⟩ := k_gather (scr := scr) hways (FD_FP hdim hmb hF6 hi hfe) p6 hfe.1
        rw [hem.1, hem.2] at hc7
        refine R_aload_n 68 c_12_67 rfl rfl ?_
        refine R_iload 70 c_12_68 rfl rfl ?_
        refine R_iload 72 c_12_70 rfl rfl ?_
        refine R_iload_n 73 c_12_72 rfl rfl ?_
        refine R_callV 76 c_12_73 rfl rfl rfl rfl (Nat.le_of_ble_eq_true rfl) (Nat.le_of_ble_eq_true rfl) (p6.1) (hc7) ?_
        have p8 := p7.o (fd6 + 1) wc7 w h
        refine R_aload_n 77 c_12_76 rfl rfl ?_
        refine R_dup 78 c_12_77 rfl rfl ?_
        refine R_get 81 c_12_78 rfl (p7.1) rfl ?_
        refine R_iconst 82 c_12_81 rfl ?_
        refine R_iadd 83 c_12_82 rfl ?_
        refine R_put 86 c_12_83 rfl (p7.1) (Nat.le_of_ble_eq_true rfl) rfl ?_
        refine R_iinc 89 c_12_86 rfl rfl ?_
        refine R_goto 44 c_12_89 rfl ?_
        refine ih2 _ _ ⟨rfl, (he6.tr he7).st (by decide), _, _, _, _, _, _, p8, ?_⟩
        rw [← Int.add_assoc, hE]
        exact FD_new hdim hmb hF6 hi hfe g1 g2
    · rintro _ H6 ⟨rfl, he6, fd6, wc6, nm6, wt6, sz6, ae6, p6, hF6⟩
      refine R_iload 46 c_12_44 rfl rfl ?_
      refine R_aload_n 47 c_12_46 rfl rfl ?_
      refine R_get 50 c_12_47 rfl (p6.1) rfl ?_
      refine R_br 53 92 _ (cmp_ge (by unfold inR; omega) (by unfold inR; omega)) c_12_50 rfl rfl (fun _ => ?_) (fun hn => absurd (by omega) hn)
      refine R_iinc 95 c_12_92 rfl rfl ?_
      refine R_goto 32 c_12_95 rfl ?_
      refine m_keep [0, 1, 2, 3, 4, 5] rfl ?_
      refine ih _ _ ⟨rfl, he6, fd6, wc6, nm6, wt6, sz6, ae6, p6, ?_⟩
      rw [Int.add_mul, Int.one_mul]
      exact hF6
  · rintro _ H5 ⟨rfl, he5, fd5, wc5, nm5, wt5, sz5, ae5, p5, hF5⟩
    refine R_iload 34 c_12_32 rfl rfl ?_
    refine R_aload_n 35 c_12_34 rfl rfl ?_
    refine R_get 38 c_12_35 rfl (p5.1) rfl ?_
    refine R_br 41 98 _ (cmp_ge (by unfold inR; omega) (by unfold inR; omega)) c_12_38 rfl rfl (fun _ => ?_) (fun hn => absurd (by omega) hn)
    refine R_return c_12_98 rfl ?_
    refine hX _ _ ⟨rfl, he5, fd5, wc5, nm5, wt5, sz5, ae5, p5, ?_⟩
    rw [Int.mul_comm]
    exact hF5
noncomputable def awc (w h ways : Int) (mb : Int → Prop) : Int := fsum (fun q => ci (fsth w ways mb q ∧ ¬ ∃ e, mb e ∧ cn w ways mb q e ∧ edgI w h e)) (w * h)
end FIND
/-! how many PARTS, how large, how many away from the edges -/
theorem rk_surj (w ways : Int) (mb : Int → Prop) : ∀ (n : Nat) (k : Int), 0 ≤ k → k < rk w ways mb (n : Int) → ∃ q, 0 ≤ q ∧ q < (n : Int) ∧ fsth w ways mb q ∧ rk w ways mb q = k
  | 0, k, h0, h1 => by
    have : rk w ways mb ((0 : Nat) : Int) = 0 := rfl
    omega
  | n + 1, k, h0, h1 => by
    rw [show ((n + 1 : Nat) : Int) = (n : Int) + 1 by omega, rk_succ w ways mb (by omega)] at h1
    by_cases hf : fsth w ways mb (n : Int)
    · rw [ci_pos hf] at h1
      by_cases hk : k = rk w ways mb (n : Int)
      · exact ⟨n, by omega, by omega, hf, hk.symm⟩
      · obtain ⟨q, q0, q1, q2, q3⟩ := rk_surj w ways mb n k h0 (by omega)
        exact ⟨q, q0, by omega, q2, q3⟩
    · rw [ci_neg hf] at h1
      obtain ⟨q, q0, q1, q2, q3⟩ := rk_surj w ways mb n k h0 (by omega)
      exact ⟨q, q0, by omega, q2, q3⟩
/-- a sum over the numbers of the PARTS is one over their first FIELDS -/
theorem rk_sum (w ways : Int) (mb : Int → Prop) (g G : Int → Int) : ∀ (n : Nat), (∀ q : Int, 0 ≤ q → q < n → fsth w ways mb q → g (rk w ways mb q) = G q) → fsum g (rk w ways mb (n : Int)) = fsum (fun q => ci (fsth w ways mb q) * G q) (n : Int)
  | 0, _ => rfl
  | n + 1, h => by
    have ih := rk_sum w ways mb g G n (fun q h0 h1 => h q h0 (by omega))
    rw [show ((n + 1 : Nat) : Int) = (n : Int) + 1 by omega, rk_succ w ways mb (by omega), fsum_succ _ (by omega), ← ih]
    by_cases hf : fsth w ways mb (n : Int)
    · have hr : 0 ≤ rk w ways mb (n : Int) := by
        have := rk_mono w ways mb (a := 0) (b := (n : Int)) (by omega) (by omega)
        have h0 : rk w ways mb 0 = 0 := rfl
        omega
      rw [ci_pos hf, fsum_succ _ hr, h n (by omega) (by omega) hf, Int.one_mul]
    · rw [ci_neg hf, Int.add_zero, Int.zero_mul, Int.add_zero]
theorem fsum_add (f g : Int → Int) (n : Int) : fsum (fun e => f e + g e) n = fsum f n + fsum g n := by
  unfold fsum
  induction n.toNat with
  | zero => rfl
  | succ k ih =>
    show nsum _ k + (f k + g k) = nsum f k + f k + (nsum g k + g k)
    rw [ih]; omega
/-- the FIELDS of all PARTS with a first FIELD below p -/
theorem part_sum (w h ways : Int) (mb : Int → Prop) : ∀ (n : Nat), fsum (fun q => ci (fsth w ways mb q) * fsum (fun e => ci (mb e ∧ cn w ways mb q e)) (w * h)) (n : Int) = fsum (fun e => ci (mb e ∧ ∃ q, 0 ≤ q ∧ q < (n : Int) ∧ fsth w ways mb q ∧ cn w ways mb q e)) (w * h)
  | 0 => by
    rw [show (fun e => ci (mb e ∧ ∃ q, 0 ≤ q ∧ q < ((0 : Nat) : Int) ∧ fsth w ways mb q ∧ cn w ways mb q e)) = fun _ => 0 from funext fun e => ci_neg (by rintro ⟨-, q, q0, q1, -⟩; omega)]
    unfold fsum
    induction (w * h).toNat with
    | zero => rfl
    | succ k ih =>
      show _ = nsum (fun _ => 0) k + 0
      rw [← ih]; rfl
  | n + 1 => by
    rw [show ((n + 1 : Nat) : Int) = (n : Int) + 1 by omega, fsum_succ _ (by omega), part_sum w h ways mb n]
    by_cases hf : fsth w ways mb (n : Int)
    · rw [ci_pos hf, Int.one_mul, ← fsum_add]
      refine fsum_ext (fun e _ _ => ?_)
      by_cases h1 : mb e ∧ ∃ q, 0 ≤ q ∧ q < (n : Int) ∧ fsth w ways mb q ∧ cn w ways mb q e
      · obtain ⟨hm, q, q0, q1, q2, q3⟩ := id h1
        have h2 : ¬ (mb e ∧ cn w ways mb (n : Int) e) := fun z => hf.2 q q1 q2.1 (cn_tr q3 (cn_sy z.2))
        rw [ci_pos h1, ci_neg h2, ci_pos ⟨hm, q, q0, by omega, q2, q3⟩]; rfl
      · by_cases h2 : mb e ∧ cn w ways mb (n : Int) e
        · rw [ci_neg h1, ci_pos h2, ci_pos ⟨h2.1, n, by omega, by omega, hf, h2.2⟩]; rfl
        · rw [ci_neg h1, ci_neg h2, ci_neg]
          · rfl
          · rintro ⟨hm, q, q0, q1, q2, q3⟩
            by_cases hq : q = (n : Int)
            · subst hq; exact h2 ⟨hm, q3⟩
            · exact h1 ⟨hm, q, q0, by omega, q2, q3⟩
    · rw [ci_neg hf, Int.zero_mul, Int.add_zero]
      refine fsum_ext (fun e _ _ => ci_congr ⟨?_, ?_⟩)
      · rintro ⟨hm, q, q0, q1, q2, q3⟩
        exact ⟨hm, q, q0, by omega, q2, q3⟩
      · rintro ⟨hm, q, q0, q1, q2, q3⟩
        by_cases hq : q = (n : Int)
        · subst hq; exact absurd q2 hf
        · exact ⟨hm, q, q0, by omega, q2, q3⟩
section AWAY
variable {scr : List Int32} {H : List mC} {fd wc w h ways k : Int} {nm wt sz ae : Int → Int} {mb : Int → Prop}
theorem FD_sizes (hw : 1 ≤ w * h ∧ w * h ≤ 256) (hmb : ∀ e, mb e → inG w h e) (hF : FD w h ways mb fd nm sz ae (w * h)) : fsum sz fd = fsum (fun e => ci (mb e)) (w * h) := by
  obtain ⟨h1, h2, h3, h4, h5⟩ := hF
  have e1 := rk_sum w ways mb sz (fun q => fsum (fun e => ci (mb e ∧ cn w ways mb q e)) (w * h)) (w * h).toNat (fun q q0 q1 q2 => (h5 q (by omega) q2).1)
  have e2 := part_sum w h ways mb (w * h).toNat
  rw [show (((w * h).toNat : Nat) : Int) = w * h by omega] at e1 e2
  rw [h1, e1, e2]
  refine fsum_ext (fun e e0 e1 => ci_congr ⟨fun z => z.1, fun hm => ⟨hm, ?_⟩⟩)
  obtain ⟨q, q1, q2, q3, -⟩ := h3 e hm ⟨e, e1, hm, cn_rf _ _ _ _⟩
  exact ⟨q, (hmb q q2.1).1, q1, q2, q3⟩
theorem k_awayFromEdges (hp : pt H fd wc w h nm wt sz ae) (hw : 1 ≤ w * h ∧ w * h ≤ 256) (hmb : ∀ e, mb e → inG w h e) (hF : FD w h ways mb fd nm sz ae (w * h)) : m_Cl scr 18 [.ref 21] H (some (vI (awc w h ways mb))) H := by
  obtain ⟨h1, h2, h3, h4, h5⟩ := id hF
  have hb := rk_bd w ways mb (n := w * h) (by omega) (by omega)
  have hae : ∀ i : Int, 0 ≤ i → i < fd → ae i = 0 ∨ ae i = 1 := by
    intro i i0 i1
    obtain ⟨q, q0, q1, q2, q3⟩ := rk_surj w ways mb (w * h).toNat i i0 (by rw [show (((w * h).toNat : Nat) : Int) = w * h by omega]; omega)
    have := (h5 q (by omega) q2).2
    rw [q3] at this
    have := ci_bd (∃ e, mb e ∧ cn w ways mb q e ∧ edgI w h e)
    omega
  have es : fsum (fun i => if ae i = 0 then 1 else 0) fd = awc w h ways mb := by
    have e1 := rk_sum w ways mb (fun i => if ae i = 0 then 1 else 0) (fun q => 1 - ci (∃ e, mb e ∧ cn w ways mb q e ∧ edgI w h e)) (w * h).toNat (fun q q0 q1 q2 => by
      show (if ae (rk w ways mb q) = 0 then (1 : Int) else 0) = _
      rw [(h5 q (by omega) q2).2]
      by_cases hT : ∃ e, mb e ∧ cn w ways mb q e ∧ edgI w h e
      · rw [ci_pos hT]; rfl
      · rw [ci_neg hT]; rfl)
    rw [show (((w * h).toNat : Nat) : Int) = w * h by omega, ← h1] at e1
    rw [e1]
    refine fsum_ext (fun q _ _ => ?_)
    by_cases hf : fsth w ways mb q
    · by_cases hT : ∃ e, mb e ∧ cn w ways mb q e ∧ edgI w h e
      · rw [ci_pos hf, ci_pos hT, ci_neg (fun z => z.2 hT)]; rfl
      · rw [ci_pos hf, ci_neg hT, ci_pos ⟨hf, hT⟩]; rfl
    · rw [ci_neg hf, Int.zero_mul, ci_neg (fun z => hf z.1)]
  show m_Ev scr 18 0 [(0, .ref 21)] [] H _
  refine R_iconst 1 c_18_0 rfl ?_
  refine R_istore_n 2 c_18_1 rfl ?_
  refine R_iconst 3 c_18_2 rfl ?_
  refine R_istore_n 4 c_18_3 rfl ?_
  refine m_for fd (fun i => [(0, .ref 21), (1, vI (fsum (fun i => if ae i = 0 then 1 else 0) i)), (2, vI i)]) (fun _ => H) 0 (by omega) (fun i h0 hi ih => ?_) ?_
  · have hai := hae i h0 hi
    simp only [fsum_succ _ h0] at ih
    refine R_iload_n 5 c_18_4 rfl rfl ?_
    refine R_aload_n 6 c_18_5 rfl rfl ?_
    refine R_get 9 c_18_6 rfl (hp.1) rfl ?_
    refine R_br 12 30 _ (cmp_ge (by unfold inR; omega) (by unfold inR; omega)) c_18_9 rfl rfl (fun hn => absurd hn (by omega)) (fun _ => ?_)
    refine R_aload_n 13 c_18_12 rfl rfl ?_
    refine R_get 16 c_18_13 rfl (hp.1) rfl ?_
    refine R_iload_n 17 c_18_16 rfl rfl ?_
    refine R_bald 18 c_18_17 rfl (hp.2.2.2.2) (by omega) (by omega) (by decide) ?_
    refine R_brz 21 24 _ (cmp_ne (by unfold inR; omega) inR_0) c_18_18 rfl rfl (fun hb => ?_) (fun hb => ?_)
    · rw [if_neg hb, Int.add_zero] at ih
      refine R_iinc 27 c_18_24 rfl rfl ?_
      refine R_goto 4 c_18_27 rfl ?_
      exact ih
    · rw [if_pos (by omega)] at ih
      refine R_iinc 24 c_18_21 rfl rfl ?_
      refine R_iinc 27 c_18_24 rfl rfl ?_
      refine R_goto 4 c_18_27 rfl ?_
      exact ih
  · refine R_iload_n 5 c_18_4 rfl rfl ?_
    refine R_aload_n 6 c_18_5 rfl rfl ?_
    refine R_get 9 c_18_6 rfl (hp.1) rfl ?_
    refine R_br 12 30 _ (cmp_ge (by unfold inR; omega) (by unfold inR; omega)) c_18_9 rfl rfl (fun _ => ?_) (fun hn => absurd (by omega) hn)
    refine R_iload_n 31 c_18_30 rfl rfl ?_
    rw [es]
    exact R_ireturn c_18_31 rfl rfl
theorem k_factOf0 (hp : pt H fd wc w h nm wt sz ae) (hk : 0 ≤ k ∧ k < 256) : m_Cl scr 19 [.ref 21, vI k, vI 0] H (some (vI (sz k))) H := by
  show m_Ev scr 19 0 [(0, .ref 21), (1, vI k), (2, vI 0)] [] H _
  refine R_iload_n 1 c_19_0 rfl rfl ?_
  refine R_brz 4 11 _ (cmp_ne (by unfold inR; omega) inR_0) c_19_1 rfl rfl (fun hn => absurd hn (by omega)) (fun _ => ?_)
  refine R_aload_n 5 c_19_4 rfl rfl ?_
  refine R_get 8 c_19_5 rfl (hp.1) rfl ?_
  refine R_iload_n 9 c_19_8 rfl rfl ?_
  refine R_iald 10 c_19_9 rfl (hp.2.2.2.1) (by omega) (by omega) (by decide) ?_
  exact R_ireturn c_19_10 rfl rfl
end AWAY
