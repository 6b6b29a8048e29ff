section MO
variable {p : Program} {l : Launch} {e : Env} {R : Room} {s : State} {m : MethodId} {args : Array Value} {below : List Frame} {meth : Method} {c : Code} {H : Heap} {locs : List Loc} {cells slots : Nat} {Q : State → Prop}
variable {D : va_G} {dt : Nat → ClassId} {P : Nat → Nat} {b N M pc pc' a0 s0 : Nat} {scr : List Int32} {ls : Array Slot} {L L' : mL} {S S' : List Value} {AH AH' : List mC}
set_option maxHeartbeats 8000000 in
theorem m_one (hC : m_Cx D dt b N P scr M p s args m meth c) (hsz : m_nox AH = true → s.heap.size = N + a0) {i : Instr} {x y w : Nat} {z : Int} (hw8 : ¬ w = 8) (hE : m_okE M (pc, i, x, y, w, z) = true)
    (hex : m_ex scr M pc i x y w z L S AH = some (pc', L', S', AH')) (hA : m_At D dt b N P M a0 s0 s L AH ls H locs cells slots) (hR1 : m_fr M ≤ R.frames) (hR2 : m_lo M ≤ R.locals) (hc' : AH'.length ≤ R.cells + a0) (hs' : m_sl AH' ≤ R.slots + s0)
    (kk : ∀ (ls' : Array Slot) (H' : Heap) (locs' : List Loc) (cells' slots' : Nat), m_At D dt b N P M a0 s0 s L' AH' ls' H' locs' cells' slots' → W p l e R s m args below meth c H' locs' cells' slots' Q (F0 m pc' ls' (S'.map (m_v (m_ad b N P))))) :
    W p l e R s m args below meth c H locs cells slots Q (F0 m pc ls (S.map (m_v (m_ad b N P)))) := by
  obtain ⟨hx, hb, hml, hts, hown, hname, hK, hX, hbN, hNs, hPx⟩ := hC
  obtain ⟨hl, hP, hS, hc, hs⟩ := hA
  have hD := m_D N (m_ad b N P) dt AH
  have hAA : ∀ q : Nat, s.heap.size ≤ q → (fun q => N ≤ q) q := fun q h => Nat.le_trans hNs h
  unfold m_okE at hE
  obtain ⟨hdec0, hlk⟩ := Bool.and_eq_true_iff.mp hE
  have hdec := of_decide_eq_true hdec0
  clear hdec0 hE
  cases i
  case iconst n => cases hex; exact lv_iconst hx hb hdec rfl (kk _ _ _ _ _ ⟨hl, hP, hS, hc, hs⟩)
  case bipush n => cases hex; exact lv_bipush hx hb hdec rfl (kk _ _ _ _ _ ⟨hl, hP, hS, hc, hs⟩)
  case sipush n => cases hex; exact lv_sipush hx hb hdec rfl (kk _ _ _ _ _ ⟨hl, hP, hS, hc, hs⟩)
  case lconst n => cases hex; exact lv_lconst hx hb hdec rfl (kk _ _ _ _ _ ⟨hl, hP, hS, hc, hs⟩)
  case dconst d =>
    simp only [m_ex] at hex
    split at hex
    · next h0 => subst h0; cases hex; exact lv_dconst0 hx hb hdec (kk _ _ _ _ _ ⟨hl, hP, hS, hc, hs⟩)
    · cases hex
  case ldc k =>
    dsimp only at hlk
    simp only [m_ex] at hex
    split at hex
    · next hw =>
      rw [if_pos hw] at hlk
      cases hex
      have hk := kk _ _ _ _ _ ⟨hl, hP, hS, hc, hs⟩
      simp only [List.map_cons, m_v, m_ad_p] at hk
      exact va_ldcM hx hb hown (hts _ (m_wp_in hlk)) hK.2.2.2.1 hdec hk
    · next hw =>
      rw [if_neg hw] at hlk
      cases hex
      exact lv_ldc hx hb hown (hts _ (m_wp_in hlk)) hdec (kk _ _ _ _ _ ⟨hl, hP, hS, hc, hs⟩)
  case ldc2_w k => cases hex; exact lv_ldc2 hx hb hown (hts _ (m_wp_in hlk)) hdec (kk _ _ _ _ _ ⟨hl, hP, hS, hc, hs⟩)
  case iload_n k =>
    obtain ⟨v, hv, hf, rfl, rfl, rfl, rfl⟩ := m_lv_of hex
    obtain ⟨v, rfl⟩ := m_isI_of hf
    exact lv_iload_n hx hb hdec rfl (m_ld_at hv hl) (kk _ _ _ _ _ ⟨hl, hP, hS, hc, hs⟩)
  case iload k =>
    obtain ⟨v, hv, hf, rfl, rfl, rfl, rfl⟩ := m_lv_of hex
    obtain ⟨v, rfl⟩ := m_isI_of hf
    exact lv_iload hx hb hdec (m_ld_at hv hl) (kk _ _ _ _ _ ⟨hl, hP, hS, hc, hs⟩)
  case lload_n k =>
    obtain ⟨v, hv, hf, rfl, rfl, rfl, rfl⟩ := m_lv_of hex
    obtain ⟨v, rfl⟩ := m_isL_of hf
    exact lv_lload_n hx hb hdec rfl (m_ld_at hv hl) (kk _ _ _ _ _ ⟨hl, hP, hS, hc, hs⟩)
  case lload k =>
    obtain ⟨v, hv, hf, rfl, rfl, rfl, rfl⟩ := m_lv_of hex
    obtain ⟨v, rfl⟩ := m_isL_of hf
    exact lv_lload hx hb hdec (m_ld_at hv hl) (kk _ _ _ _ _ ⟨hl, hP, hS, hc, hs⟩)
  case aload_n k =>
    obtain ⟨v, hv, hf, rfl, rfl, rfl, rfl⟩ := m_lv_of hex
    obtain ⟨v, rfl⟩ := m_isA_of hf
    exact lv_aload_n hx hb hdec rfl (m_ld_at hv hl) (kk _ _ _ _ _ ⟨hl, hP, hS, hc, hs⟩)
  case aload k =>
    obtain ⟨v, hv, hf, rfl, rfl, rfl, rfl⟩ := m_lv_of hex
    obtain ⟨v, rfl⟩ := m_isA_of hf
    exact lv_aload hx hb hdec (m_ld_at hv hl) (kk _ _ _ _ _ ⟨hl, hP, hS, hc, hs⟩)
  case dload k =>
    obtain ⟨v, hv, hf, rfl, rfl, rfl, rfl⟩ := m_lv_of hex
    obtain ⟨v, rfl⟩ := m_isD_of hf
    exact lv_dload hx hb hdec (m_ld_at hv hl) (kk _ _ _ _ _ ⟨hl, hP, hS, hc, hs⟩)
  case dstore k =>
    have hn := of_decide_eq_true hlk
    obtain ⟨v, rfl, hf, rfl, rfl, rfl⟩ := m_sv2_of hex
    obtain ⟨v, rfl⟩ := m_isD_of hf
    exact lv_dstore hx hb hdec hl hn rfl (fun ls' h' => kk _ _ _ _ _ ⟨m_has_st2 (v := .double v) h', hP, hS, hc, hs⟩)
  case ineg =>
    simp only [m_ex] at hex
    split at hex
    · cases hex; exact lv_ineg hx hb hdec (kk _ _ _ _ _ ⟨hl, hP, hS, hc, hs⟩)
    · cases hex
  case aconst_null => cases hex; exact lv_null hx hb hdec (kk _ _ _ _ _ ⟨hl, hP, hS, hc, hs⟩)
  case dup_x1 =>
    simp only [m_ex] at hex
    split at hex
    · split at hex
      · next h0 => cases hex; exact lv_dup_x1 hx hb hdec (by rw [m_v_cat]; exact h0.1) (by rw [m_v_cat]; exact h0.2) (kk _ _ _ _ _ ⟨hl, hP, hS, hc, hs⟩)
      · cases hex
    · cases hex
  case getstatic k =>
    dsimp only at hlk
    simp only [m_ex] at hex
    split at hex
    · next hw =>
      rw [if_pos hw] at hlk
      obtain ⟨h4, hw4⟩ := Bool.and_eq_true_iff.mp hlk
      cases hex
      have hk := kk _ _ _ _ _ ⟨hl, hP, hS, hc, hs⟩
      simp only [List.map_cons, m_v, m_ad_p] at hk
      exact va_gets (C := (m_sn x).1) (n := (m_sn x).2.1) (d := (m_sn x).2.2) hx hb (hPx.1 x (of_decide_eq_true h4)) hS hown (hts _ (m_wp_in hw4)) (fun _ h => h) hdec hk
    · next hw =>
      rw [if_neg hw] at hlk
      split at hex
      · next hw2 =>
        simp only [Bool.and_eq_true, decide_eq_true_eq] at hlk
        obtain ⟨⟨-, hz⟩, hw4⟩ := hlk
        subst hz
        cases hex
        have hk := kk _ _ _ _ _ ⟨hl, hP, hS, hc, hs⟩
        exact va_gets hx hb hPx.2.1 hS hown (hts _ (m_wp_in hw4)) (fun _ h => h) hdec hk
      · cases hex
  case checkcast k =>
    simp only [Bool.or_eq_true, Bool.and_eq_true, decide_eq_true_eq] at hlk
    simp only [m_ex] at hex
    split at hex
    · next r S1 =>
      split at hex
      · next hx1 =>
        split at hex
        · next hbx =>
          cases hex
          have hlink : m_wp y (.classLink (m_nm M).cls k "java/lang/Integer") = true := by
            rcases hlk with (⟨h, -⟩ | ⟨-, h⟩) | ⟨h, -⟩
            · omega
            · exact h
            · omega
          exact va_castE hx hb hown (hts _ (m_wp_in hlink)) (m_boxAt hPx hS hbx) hdec (kk _ _ _ _ _ ⟨hl, hP, hS, hc, hs⟩)
        · cases hex
      · next hx1 =>
        split at hex
        · next t vs hg =>
          split at hex
          · next ht =>
            cases hex
            obtain ⟨k0, hat, -⟩ := m_at (b := b) (N := N) (P := P) (dt := dt) hg rfl
            rcases ht with ⟨rfl, rfl⟩ | ⟨rfl, rfl⟩
            · have hlink : m_wp y (.classLink (m_nm M).cls k "[I") = true := by
                rcases hlk with (⟨-, h⟩ | ⟨h, -⟩) | ⟨h, -⟩
                · exact h
                · omega
                · omega
              exact va_castA (D := D) (cl := m_cl) hx hb hown (hts _ (m_wp_in hlink)) hP k0 hat (va_nm_int (hK.1.2 0 _ (m_tys_get 0 (by decide))).2) hdec (kk _ _ _ _ _ ⟨hl, hP, hS, hc, hs⟩)
            · have hlink : m_wp y (.classLink (m_nm M).cls k "[Ljava/lang/Object;") = true := by
                rcases hlk with (⟨h, -⟩ | ⟨h, -⟩) | ⟨-, h⟩
                · omega
                · omega
                · exact h
              exact va_castA (D := D) (cl := m_cl) hx hb hown (hts _ (m_wp_in hlink)) hP k0 hat (va_nmO (hK.1.2 6 _ (m_tys_get 6 (by decide))).2 (by decide +kernel)) hdec (kk _ _ _ _ _ ⟨hl, hP, hS, hc, hs⟩)
          · cases hex
        · cases hex
    · cases hex
  case if_acmp cn off =>
    have ht := of_decide_eq_true hlk
    simp only [m_ex] at hex
    split at hex
    · next r q S1 =>
      split at hex
      · next hrq =>
        subst hrq
        simp only [Option.some.injEq, Prod.mk.injEq] at hex
        obtain ⟨rfl, rfl, rfl, rfl⟩ := hex
        cases cn
        · exact lv_acmp_eq (rx := some (m_ad b N P q)) (ry := some (m_ad b N P q)) hx hb hdec ht (fun _ => kk _ _ _ _ _ ⟨hl, hP, hS, hc, hs⟩) (fun h => absurd rfl h)
        · exact lv_acmp_ne (rx := some (m_ad b N P q)) (ry := some (m_ad b N P q)) hx hb hdec ht (fun h => absurd rfl h) (fun _ => kk _ _ _ _ _ ⟨hl, hP, hS, hc, hs⟩)
      · cases hex
    · cases hex
  case laload =>
    simp only [m_ex] at hex
    split at hex
    · next j r S1 =>
      split at hex
      · next v hv =>
        cases hex
        obtain ⟨vs, hg, h0, hvs⟩ := m_ra_of hv
        obtain ⟨k0, hat, -⟩ := m_at (b := b) (N := N) (P := P) (dt := dt) hg rfl
        have hlt := (List.getElem?_eq_some_iff.mp hvs).1
        refine va_lald (D := D) hx hb hK.1 hP k0 3 hat rfl (m_in h0 hlt) hdec ?_
        have e1 : m_jv (vs.getD j.toNatClampNeg .null) = v := by rw [List.getD_eq_getElem?_getD, hvs]; rfl
        show W p l e R s m args below meth c H locs cells slots Q (F0 m (pc + 1) ls (.long (m_jv (vs.getD j.toNatClampNeg .null)) :: _))
        rw [e1]
        exact kk _ _ _ _ _ ⟨hl, hP, hS, hc, hs⟩
      · cases hex
    · cases hex
  case daload =>
    simp only [m_ex] at hex
    split at hex
    · next j r S1 =>
      split at hex
      · next v hv =>
        cases hex
        obtain ⟨vs, hg, h0, hvs⟩ := m_ra_of hv
        obtain ⟨k0, hat, -⟩ := m_at (b := b) (N := N) (P := P) (dt := dt) hg rfl
        have hlt := (List.getElem?_eq_some_iff.mp hvs).1
        refine va_dald (D := D) hx hb hK.1 hP k0 4 hat rfl (m_in h0 hlt) hdec ?_
        have e1 : m_dv (vs.getD j.toNatClampNeg .null) = v := by rw [List.getD_eq_getElem?_getD, hvs]; rfl
        show W p l e R s m args below meth c H locs cells slots Q (F0 m (pc + 1) ls (.double (m_dv (vs.getD j.toNatClampNeg .null)) :: _))
        rw [e1]
        exact kk _ _ _ _ _ ⟨hl, hP, hS, hc, hs⟩
      · cases hex
    · cases hex
  case lastore =>
    simp only [m_ex] at hex
    split at hex
    · next v j r S1 =>
      obtain ⟨H1, hv, he⟩ := Option.map_eq_some_iff.mp hex
      cases he
      obtain ⟨vs, hg, h0, hlt, rfl⟩ := m_wa_of hv
      obtain ⟨k0, hat, hset⟩ := m_at (b := b) (N := N) (P := P) (dt := dt) hg rfl
      refine va_last (D := D) hx hb hK.1 hP hD hS k0 3 hat rfl (m_in h0 hlt) hdec (fun H1 locs1 hP1 _ hS1 => kk _ _ _ _ _ ⟨hl, ?_, hS1, by rw [m_len_set]; exact hc, by rw [m_sl_mset hg (by simp [m_sz])]; exact hs⟩)
      rw [← hset _ rfl, m_E_set3 _ _ _ _ _ hlt]
      exact hP1
    · cases hex
  case dastore =>
    simp only [m_ex] at hex
    split at hex
    · next v j r S1 =>
      obtain ⟨H1, hv, he⟩ := Option.map_eq_some_iff.mp hex
      cases he
      obtain ⟨vs, hg, h0, hlt, rfl⟩ := m_wa_of hv
      obtain ⟨k0, hat, hset⟩ := m_at (b := b) (N := N) (P := P) (dt := dt) hg rfl
      refine va_dast (D := D) hx hb hK.1 hP hD hS k0 4 hat rfl (m_in h0 hlt) hdec (fun H1 locs1 hP1 _ hS1 => kk _ _ _ _ _ ⟨hl, ?_, hS1, by rw [m_len_set]; exact hc, by rw [m_sl_mset hg (by simp [m_sz])]; exact hs⟩)
      rw [← hset _ rfl, m_E_set4 _ _ _ _ _ hlt]
      exact hP1
    · cases hex
  case invokevirtual k =>
    dsimp only at hlk
    have hsz3 : c.maxLocals = ls.size := hml.trans hl.1.symm
    simp only [m_ex] at hex
    split at hex
    · next hw10 =>
      rw [if_pos hw10] at hlk
      simp only [Bool.and_eq_true, decide_eq_true_eq] at hlk
      obtain ⟨⟨wl, r1⟩, r2⟩ := hlk
      split at hex
      · next r S1 =>
        split at hex
        · next vs hg =>
          split at hex
          · next hct =>
            obtain ⟨hct, hrm⟩ := hct
            cases hex
            obtain ⟨k0, hat, -⟩ := m_at (b := b) (N := N) (P := P) (dt := dt) hg rfl
            have hlen : (AH ++ [Sum.inl (0, vs)] : List mC).length = AH.length + 1 := by simp
            have hsl := m_sl_app AH (Sum.inl (0, vs))
            have hsz2 : m_sz (Sum.inl (0, vs)) = vs.length := rfl
            rw [hlen] at hc'
            rw [hsl, hsz2] at hs'
            refine va_clone (D := D) (ty := .int) hx hb hsz3 hown (hts _ (m_wp_in wl)) (hts _ (m_wp_in m_w_cln.1)) (hts _ (m_wp_in m_w_cln.2.1)) (hts _ (m_wp_in m_w_cln.2.2.1)) (hts _ (m_wp_in m_w_cln.2.2.2)) (hK.2.1 _ m_ng_cln) hK.1 hP hD hS hAA k0 0 hat rfl (va_nm_int (hK.1.2 0 _ (m_tys_get 0 (by decide))).2)
              (fun i v hv => va_fit (cA := dt 0) (n := vs.length) (F := fun j => .int (m_iv (vs.getD j .null))) (ty := .int) (fun _ _ => rfl) i v hv) (by omega) (by rw [m_cat_v]; omega) (by omega) (show slots + vs.length ≤ R.slots by omega) hdec (fun q H1 hK1 hP1 hD1 hS1 => ?_)
            refine m_W_size (fun hz => ?_)
            obtain ⟨hq1, hq2⟩ := m_fresh hrm (hsz (Bool.and_eq_true_iff.mp hrm).2) hc hP1 hD1 hz
            have hk := kk ls H1 locs (cells + 1) (slots + vs.length) ⟨hl, ?_, hS1, by rw [hlen]; omega, by rw [hsl, hsz2]; omega⟩
            · simp only [List.map_cons, m_v] at hk
              rw [hq1]
              exact hk
            · rw [m_ws_app _ _ _ _ rfl, ← hq2]
              exact hP1
          · cases hex
        · cases hex
      · cases hex
    · next hw10 =>
      rw [if_neg hw10] at hlk
      split at hex
      · next hw13 =>
        rw [if_pos hw13] at hlk
        simp only [Bool.and_eq_true, decide_eq_true_eq] at hlk
        obtain ⟨⟨wl, r1⟩, r2⟩ := hlk
        split at hex
        · next r S1 =>
          split at hex
          · next vs hg =>
            split at hex
            · next hct =>
              cases hex
              obtain ⟨k0, hat, -⟩ := m_at (b := b) (N := N) (P := P) (dt := dt) hg rfl
              have hk := kk _ _ _ _ _ ⟨hl, hP, hS, hc, hs⟩
              simp only [List.map_cons, m_v, m_ad_p] at hk
              refine va_getC hx hb hsz3 hown (hts _ (m_wp_in wl)) (m_ng_use m_ng_gc (hK.2.1 _ m_ng_gc)) (hts _ (m_wp_in m_w_gc.1)) (hts _ (m_wp_in m_w_gc.2.1)) (hts _ (m_wp_in m_w_gc.2.2)) hK.2.2.2.1 ?_ (by omega) (by rw [m_cat_v]; omega) hdec hk
              exact ⟨_, hP k0 _ hat, rfl, va_nmO (hK.1.2 6 _ (m_tys_get 6 (by decide))).2 (by decide +kernel)⟩
            · cases hex
          · cases hex
        · cases hex
      · cases hex
  case istore_n k =>
    have hn := of_decide_eq_true hlk
    obtain ⟨v, rfl, hf, rfl, rfl, rfl⟩ := m_sv1_of hex
    obtain ⟨v, rfl⟩ := m_isI_of hf
    exact lv_istore_n hx hb hdec rfl hl hn rfl (fun ls' h' => kk _ _ _ _ _ ⟨m_has_st1 (v := .int v) h', hP, hS, hc, hs⟩)
  case istore k =>
    have hn := of_decide_eq_true hlk
    obtain ⟨v, rfl, hf, rfl, rfl, rfl⟩ := m_sv1_of hex
    obtain ⟨v, rfl⟩ := m_isI_of hf
    exact lv_istore hx hb hdec hl hn rfl (fun ls' h' => kk _ _ _ _ _ ⟨m_has_st1 (v := .int v) h', hP, hS, hc, hs⟩)
  case astore_n k =>
    have hn := of_decide_eq_true hlk
    obtain ⟨v, rfl, hf, rfl, rfl, rfl⟩ := m_sv1_of hex
    obtain ⟨v, rfl⟩ := m_isA_of hf
    exact lv_astore_n hx hb hdec rfl hl hn rfl (fun ls' h' => kk _ _ _ _ _ ⟨m_has_st1 (v := .ref v) h', hP, hS, hc, hs⟩)
  case astore k =>
    have hn := of_decide_eq_true hlk
    obtain ⟨v, rfl, hf, rfl, rfl, rfl⟩ := m_sv1_of hex
    obtain ⟨v, rfl⟩ := m_isA_of hf
    exact lv_astore hx hb hdec hl hn rfl (fun ls' h' => kk _ _ _ _ _ ⟨m_has_st1 (v := .ref v) h', hP, hS, hc, hs⟩)
  case lstore_n k =>
    have hn := of_decide_eq_true hlk
    obtain ⟨v, rfl, hf, rfl, rfl, rfl⟩ := m_sv2_of hex
    obtain ⟨v, rfl⟩ := m_isL_of hf
    exact lv_lstore_n hx hb hdec rfl hl hn rfl (fun ls' h' => kk _ _ _ _ _ ⟨m_has_st2 (v := .long v) h', hP, hS, hc, hs⟩)
  case lstore k =>
    have hn := of_decide_eq_true hlk
    obtain ⟨v, rfl, hf, rfl, rfl, rfl⟩ := m_sv2_of hex
    obtain ⟨v, rfl⟩ := m_isL_of hf
    exact lv_lstore hx hb hdec hl hn rfl (fun ls' h' => kk _ _ _ _ _ ⟨m_has_st2 (v := .long v) h', hP, hS, hc, hs⟩)
  case iinc k n =>
    simp only [m_ex] at hex
    split at hex
    · next v hv =>
      have hn := of_decide_eq_true hlk
      cases hex
      obtain ⟨j, hj⟩ := List.getElem?_of_mem (m_ld_mem (ad := m_ad b N P) hv)
      exact lv_iinc hx hb hdec hl hj rfl hn rfl (fun ls' h' => kk _ _ _ _ _ ⟨m_has_st1 (v := .int (v + Int32.ofInt n)) h', hP, hS, hc, hs⟩)
    · cases hex
  case iadd => obtain ⟨u, v, S1, rfl, rfl, rfl, rfl, rfl⟩ := m_b2_of hex; exact lv_iadd hx hb hdec (kk _ _ _ _ _ ⟨hl, hP, hS, hc, hs⟩)
  case isub => obtain ⟨u, v, S1, rfl, rfl, rfl, rfl, rfl⟩ := m_b2_of hex; exact lv_isub hx hb hdec (kk _ _ _ _ _ ⟨hl, hP, hS, hc, hs⟩)
  case imul => obtain ⟨u, v, S1, rfl, rfl, rfl, rfl, rfl⟩ := m_b2_of hex; exact lv_imul hx hb hdec (kk _ _ _ _ _ ⟨hl, hP, hS, hc, hs⟩)
  case iand => obtain ⟨u, v, S1, rfl, rfl, rfl, rfl, rfl⟩ := m_b2_of hex; exact lv_iand hx hb hdec (kk _ _ _ _ _ ⟨hl, hP, hS, hc, hs⟩)
  case ishr => obtain ⟨u, v, S1, rfl, rfl, rfl, rfl, rfl⟩ := m_b2_of hex; exact lv_ishr hx hb hdec (kk _ _ _ _ _ ⟨hl, hP, hS, hc, hs⟩)
  case idiv => obtain ⟨u, v, S1, rfl, h0, rfl, rfl, rfl, rfl⟩ := m_d2_of hex; exact lv_idiv hx hb hdec h0 (kk _ _ _ _ _ ⟨hl, hP, hS, hc, hs⟩)
  case irem => obtain ⟨u, v, S1, rfl, h0, rfl, rfl, rfl, rfl⟩ := m_d2_of hex; exact lv_irem hx hb hdec h0 (kk _ _ _ _ _ ⟨hl, hP, hS, hc, hs⟩)
  case ladd => obtain ⟨u, v, S1, rfl, rfl, rfl, rfl, rfl⟩ := m_l2_of hex; exact lv_ladd hx hb hdec (kk _ _ _ _ _ ⟨hl, hP, hS, hc, hs⟩)
  case lsub => obtain ⟨u, v, S1, rfl, rfl, rfl, rfl, rfl⟩ := m_l2_of hex; exact lv_lsub hx hb hdec (kk _ _ _ _ _ ⟨hl, hP, hS, hc, hs⟩)
  case lmul => obtain ⟨u, v, S1, rfl, rfl, rfl, rfl, rfl⟩ := m_l2_of hex; exact lv_lmul hx hb hdec (kk _ _ _ _ _ ⟨hl, hP, hS, hc, hs⟩)
  case ldiv =>
    simp only [m_ex] at hex
    split at hex
    · split at hex
      · cases hex
      · next h0 => cases hex; exact lv_ldiv hx hb hdec h0 (kk _ _ _ _ _ ⟨hl, hP, hS, hc, hs⟩)
    · cases hex
  case lcmp =>
    simp only [m_ex] at hex
    split at hex
    · cases hex; exact W.lcmp hx hb hdec (kk _ _ _ _ _ ⟨hl, hP, hS, hc, hs⟩)
    · cases hex
  case i2l =>
    simp only [m_ex] at hex
    split at hex
    · cases hex; exact lv_i2l hx hb hdec rfl (kk _ _ _ _ _ ⟨hl, hP, hS, hc, hs⟩)
    · cases hex
  case i2d =>
    simp only [m_ex] at hex
    split at hex
    · cases hex; exact lv_i2d hx hb hdec (kk _ _ _ _ _ ⟨hl, hP, hS, hc, hs⟩)
    · cases hex
  case ddiv =>
    simp only [m_ex] at hex
    split at hex
    · split at hex
      · next h0 => cases hex; exact lv_ddiv hx hb hdec h0 (kk _ _ _ _ _ ⟨hl, hP, hS, hc, hs⟩)
      · cases hex
    · cases hex
  case dcmp op =>
    simp only [m_ex] at hex
    split at hex
    · cases hex; exact lv_dcmp hx hb hdec (kk _ _ _ _ _ ⟨hl, hP, hS, hc, hs⟩)
    · cases hex
  case dup =>
    simp only [m_ex] at hex
    split at hex
    · split at hex
      · next h0 => cases hex; exact lv_dup hx hb hdec (by rw [m_v_cat]; exact h0) (kk _ _ _ _ _ ⟨hl, hP, hS, hc, hs⟩)
      · cases hex
    · cases hex
  case dup2 =>
    simp only [m_ex] at hex
    split at hex
    · split at hex
      · next h0 => cases hex; exact lv_dup2_11 hx hb hdec (by rw [m_v_cat]; exact h0.1) (by rw [m_v_cat]; exact h0.2) (kk _ _ _ _ _ ⟨hl, hP, hS, hc, hs⟩)
      · cases hex
    · cases hex
  case pop =>
    simp only [m_ex] at hex
    split at hex
    · split at hex
      · next h0 => cases hex; exact lv_pop hx hb hdec (by rw [m_v_cat]; exact h0) (kk _ _ _ _ _ ⟨hl, hP, hS, hc, hs⟩)
      · cases hex
    · cases hex
  case goto off => cases hex; exact lv_goto hx hb hdec (of_decide_eq_true hlk) (kk _ _ _ _ _ ⟨hl, hP, hS, hc, hs⟩)
  case ifCond cn off =>
    have ht := of_decide_eq_true hlk
    simp only [m_ex] at hex
    split at hex
    · next a S1 =>
      simp only [Option.some.injEq, Prod.mk.injEq] at hex
      obtain ⟨rfl, rfl, rfl, rfl⟩ := hex
      have kk := fun ls' H' locs' cells' slots' => kk ls' H' locs' cells' slots'
      cases cn
      · exact lv_if_eq hx hb hdec ht (fun h => (by have k1 := kk _ _ _ _ _ ⟨hl, hP, hS, hc, hs⟩; rwa [if_pos (by exact decide_eq_true h)] at k1)) (fun h => (by have k1 := kk _ _ _ _ _ ⟨hl, hP, hS, hc, hs⟩; rwa [if_neg (by intro q; exact h (of_decide_eq_true q))] at k1))
      · exact lv_if_ne hx hb hdec ht (fun h => (by have k1 := kk _ _ _ _ _ ⟨hl, hP, hS, hc, hs⟩; rwa [if_pos (by exact decide_eq_true h)] at k1)) (fun h => (by have k1 := kk _ _ _ _ _ ⟨hl, hP, hS, hc, hs⟩; rwa [if_neg (by intro q; exact (of_decide_eq_true q) h)] at k1))
      · exact lv_if_lt hx hb hdec ht (fun h => (by have k1 := kk _ _ _ _ _ ⟨hl, hP, hS, hc, hs⟩; rwa [if_pos (by exact decide_eq_true h)] at k1)) (fun h => (by have k1 := kk _ _ _ _ _ ⟨hl, hP, hS, hc, hs⟩; rwa [if_neg (by intro q; exact h (of_decide_eq_true q))] at k1))
      · exact lv_if_ge hx hb hdec ht (fun h => (by have k1 := kk _ _ _ _ _ ⟨hl, hP, hS, hc, hs⟩; rwa [if_pos (by exact decide_eq_true h)] at k1)) (fun h => (by have k1 := kk _ _ _ _ _ ⟨hl, hP, hS, hc, hs⟩; rwa [if_neg (by intro q; exact h (of_decide_eq_true q))] at k1))
      · exact lv_if_gt hx hb hdec ht (fun h => (by have k1 := kk _ _ _ _ _ ⟨hl, hP, hS, hc, hs⟩; rwa [if_pos (by exact decide_eq_true h)] at k1)) (fun h => (by have k1 := kk _ _ _ _ _ ⟨hl, hP, hS, hc, hs⟩; rwa [if_neg (by intro q; exact h (of_decide_eq_true q))] at k1))
      · exact lv_if_le hx hb hdec ht (fun h => (by have k1 := kk _ _ _ _ _ ⟨hl, hP, hS, hc, hs⟩; rwa [if_pos (by exact decide_eq_true h)] at k1)) (fun h => (by have k1 := kk _ _ _ _ _ ⟨hl, hP, hS, hc, hs⟩; rwa [if_neg (by intro q; exact h (of_decide_eq_true q))] at k1))
    · cases hex
  case if_icmp cn off =>
    have ht := of_decide_eq_true hlk
    simp only [m_ex] at hex
    split at hex
    · next u a S1 =>
      simp only [Option.some.injEq, Prod.mk.injEq] at hex
      obtain ⟨rfl, rfl, rfl, rfl⟩ := hex
      have kk := fun ls' H' locs' cells' slots' => kk ls' H' locs' cells' slots'
      cases cn
      · exact lv_icmp_eq hx hb hdec ht (fun h => (by have k1 := kk _ _ _ _ _ ⟨hl, hP, hS, hc, hs⟩; rwa [if_pos (by exact decide_eq_true h)] at k1)) (fun h => (by have k1 := kk _ _ _ _ _ ⟨hl, hP, hS, hc, hs⟩; rwa [if_neg (by intro q; exact h (of_decide_eq_true q))] at k1))
      · exact lv_icmp_ne hx hb hdec ht (fun h => (by have k1 := kk _ _ _ _ _ ⟨hl, hP, hS, hc, hs⟩; rwa [if_pos (by exact decide_eq_true h)] at k1)) (fun h => (by have k1 := kk _ _ _ _ _ ⟨hl, hP, hS, hc, hs⟩; rwa [if_neg (by intro q; exact (of_decide_eq_true q) h)] at k1))
      · exact lv_icmp_lt hx hb hdec ht (fun h => (by have k1 := kk _ _ _ _ _ ⟨hl, hP, hS, hc, hs⟩; rwa [if_pos (by exact decide_eq_true h)] at k1)) (fun h => (by have k1 := kk _ _ _ _ _ ⟨hl, hP, hS, hc, hs⟩; rwa [if_neg (by intro q; exact h (of_decide_eq_true q))] at k1))
      · exact lv_icmp_ge hx hb hdec ht (fun h => (by have k1 := kk _ _ _ _ _ ⟨hl, hP, hS, hc, hs⟩; rwa [if_pos (by exact decide_eq_true h)] at k1)) (fun h => (by have k1 := kk _ _ _ _ _ ⟨hl, hP, hS, hc, hs⟩; rwa [if_neg (by intro q; exact h (of_decide_eq_true q))] at k1))
      · exact lv_icmp_gt hx hb hdec ht (fun h => (by have k1 := kk _ _ _ _ _ ⟨hl, hP, hS, hc, hs⟩; rwa [if_pos (by exact decide_eq_true h)] at k1)) (fun h => (by have k1 := kk _ _ _ _ _ ⟨hl, hP, hS, hc, hs⟩; rwa [if_neg (by intro q; exact h (of_decide_eq_true q))] at k1))
      · exact lv_icmp_le hx hb hdec ht (fun h => (by have k1 := kk _ _ _ _ _ ⟨hl, hP, hS, hc, hs⟩; rwa [if_pos (by exact decide_eq_true h)] at k1)) (fun h => (by have k1 := kk _ _ _ _ _ ⟨hl, hP, hS, hc, hs⟩; rwa [if_neg (by intro q; exact h (of_decide_eq_true q))] at k1))
    · cases hex
  case tableswitch d lo hi offs =>
    simp only [m_ex] at hex
    split at hex
    · next a S1 =>
      split at hex
      · next h0 =>
        obtain ⟨ht, rfl, rfl, rfl⟩ := m_jmp_of hex
        exact lv_tableOut hx hb hdec h0 ht (kk _ _ _ _ _ ⟨hl, hP, hS, hc, hs⟩)
      · next h0 =>
        split at hex
        · next off ho =>
          obtain ⟨ht, rfl, rfl, rfl⟩ := m_jmp_of hex
          exact lv_tableIn hx hb hdec (fun h => h0 (Or.inl h)) (fun h => h0 (Or.inr h)) ho ht (kk _ _ _ _ _ ⟨hl, hP, hS, hc, hs⟩)
        · cases hex
    · cases hex
  case lookupswitch d ps =>
    simp only [m_ex] at hex
    split at hex
    · next a S1 =>
      obtain ⟨ht, rfl, rfl, rfl⟩ := m_jmp_of hex
      exact lv_lookup hx hb hdec hlk rfl ht (kk _ _ _ _ _ ⟨hl, hP, hS, hc, hs⟩)
    · cases hex
  case getfield k =>
    simp only [m_ex] at hex
    split at hex
    · next r S1 =>
      obtain ⟨v, hv, he⟩ := Option.map_eq_some_iff.mp hex
      cases he
      simp only [m_okF] at hlk
      split at hlk
      · next rr hrr =>
        have hx10 := m_cl_lt hrr
        obtain ⟨hy, hw⟩ := Bool.and_eq_true_iff.mp hlk
        obtain ⟨hin, hty, hnm⟩ := m_cls _ _ hrr
        rcases m_gf_of hv with ⟨fs, hg, hfy⟩ | ⟨hbx, rfl, rfl, rfl⟩
        · obtain ⟨k0, hat, -⟩ := m_at (b := b) (N := N) (P := P) (dt := dt) hg (by simp [m_mk])
          rcases Bool.or_eq_true_iff.mp hw with hw | hw
          · exact va_get (D := D) (ci := x) (v := m_v (m_ad b N P) v) (C := rr.1) (T := rr.2.1) (N := rr.2.2) hx hb hts hin hown hK.1 hP k0 hat hrr y (of_decide_eq_true hy) (hts _ (m_wp_in hw)) (fun _ h9 => h9) (by rw [List.getElem?_map, hfy]; rfl) hdec (kk _ _ _ _ _ ⟨hl, hP, hS, hc, hs⟩)
          · obtain ⟨hd, hw⟩ := Bool.and_eq_true_iff.mp hw
            have hd := of_decide_eq_true hd
            refine va_get (D := D) (ci := x) (v := m_v (m_ad b N P) v) (C := rr.1) (T := rr.2.1) (N := rr.2.2) (ref := "java/util/ArrayList") hx hb hts hin hown hK.1 hP k0 hat hrr y (of_decide_eq_true hy) ?_ ?_ (by rw [List.getElem?_map, hfy]; rfl) hdec (kk _ _ _ _ _ ⟨hl, hP, hS, hc, hs⟩)
            · rw [hd]; exact hts _ (m_wp_in hw)
            · rw [hd]; exact u_same (hts _ (m_wp_in m_w_mod))
        · cases hrr
          rcases Bool.or_eq_true_iff.mp hw with hw | hw
          · obtain ⟨k1, hk1, -, he, he2⟩ := m_ad_box (b := b) (N := N) (P := P) hbx
            have hk := kk _ _ _ _ _ ⟨hl, hP, hS, hc, hs⟩
            simp only [List.map_cons, m_v, he, he2] at hk ⊢
            exact va_getX (i := k1) (v := fun k => .int (vb_c k)) (ad := fun k => P (5 + k)) hx hb hPx.2.2.2.2.2.2.1.2 hk1 hS hown (hts _ (m_wp_in hw)) (fun _ h9 => h9) hdec hk
          · obtain ⟨hd, hw⟩ := Bool.and_eq_true_iff.mp hw
            have hd := of_decide_eq_true hd
            exact absurd hd (by decide +kernel)
      · cases hlk
    · cases hex
  case putfield k =>
    simp only [m_ex] at hex
    split at hex
    · next v r S1 =>
      obtain ⟨H1, hv, he⟩ := Option.map_eq_some_iff.mp hex
      cases he
      obtain ⟨fs, hg, hy2, hfit, rfl⟩ := m_pf_of hv
      obtain ⟨hn, hf2⟩ := m_fit_ok (ad := m_ad b N P) hfit
      obtain ⟨hlk1, hlk2⟩ := Bool.and_eq_true_iff.mp hlk
      simp only [m_okF] at hlk1
      split at hlk1
      · next rr hrr =>
        have hx10 := m_cl_lt hrr
        have hmk : ∀ fs : List Value, m_mk (.inr (x, fs)) = false := fun fs => by simp [m_mk]
        obtain ⟨k0, hat, hset⟩ := m_at (b := b) (N := N) (P := P) (dt := dt) hg (hmk _)
        obtain ⟨hy, hw⟩ := Bool.and_eq_true_iff.mp hlk1
        obtain ⟨hin, hty, hnm⟩ := m_cls _ _ hrr
        simp only [m_okP, hrr, Bool.or_eq_true, Bool.and_eq_true, decide_eq_true_eq] at hlk2
        have fin : ∀ (H1 : Heap) (locs1 : List Loc), va_P D m_cl ((m_ws N (m_ad b N P) dt 0 AH).set k0 (m_ad b N P r, .inr (x, (fs.map (m_v (m_ad b N P))).set y (m_v (m_ad b N P) v)))) H1 → va_S (fun q => N ≤ q) s.heap H1 locs1 →
            W p l e R s m args below meth c H1 locs1 cells slots Q (F0 m (pc + 3) ls (S'.map (m_v (m_ad b N P)))) := by
          intro H1 locs1 hP1 hS1
          refine kk _ _ _ _ _ ⟨hl, ?_, hS1, by rw [m_len_set]; exact hc, by rw [m_sl_mset hg (by simp [m_sz])]; exact hs⟩
          rw [← hset _ (hmk _)]
          simpa [m_E, List.map_set] using hP1
        have hlink : ∃ ref, (Cond.fieldLink (m_nm M).cls k ref (rr.2.1 y).2.1 (rr.2.1 y).2.2.1).before args s = true ∧ ∀ z, s.fieldFound? (rr.2.1 y).1 (rr.2.1 y).2.1 (rr.2.1 y).2.2.1 = some z → s.fieldFound? ref (rr.2.1 y).2.1 (rr.2.1 y).2.2.1 = some z := by
          rcases Bool.or_eq_true_iff.mp hw with hw | hw
          · exact ⟨_, hts _ (m_wp_in hw), fun _ h9 => h9⟩
          · obtain ⟨hd, hw⟩ := Bool.and_eq_true_iff.mp hw
            have hd := of_decide_eq_true hd
            exact ⟨"java/util/ArrayList", by rw [hd]; exact hts _ (m_wp_in hw), by rw [hd]; exact u_same (hts _ (m_wp_in m_w_mod))⟩
        obtain ⟨ref, hl1, hl2⟩ := hlink
        rcases hlk2 with hfin | ⟨⟨hfin, hin2⟩, hdecl⟩
        · exact va_put (D := D) (ci := x) (v := m_v (m_ad b N P) v) (ty := m_fty x y) (C := rr.1) (T := rr.2.1) (N := rr.2.2) (ref := ref) hx hb hts hin (m_fty x) hty hnm hown hK.1 hP hD hS k0 hat hrr y (of_decide_eq_true hy) hl1 hl2 hfin (hty y (of_decide_eq_true hy)) hn hf2 (by rw [List.length_map]; exact hy2) hdec (fun H1 locs1 hP1 _ hS1 => fin H1 locs1 hP1 hS1)
        · exact va_putF (D := D) (ci := x) (v := m_v (m_ad b N P) v) (ty := m_fty x y) (C := rr.1) (T := rr.2.1) (N := rr.2.2) (ref := ref) hx hb hts hin (m_fty x) hty hnm hown hK.1 hP hD hS k0 hat hrr y (of_decide_eq_true hy) hl1 hl2 hfin (hname hin2) hdecl (hty y (of_decide_eq_true hy)) hn hf2 (by rw [List.length_map]; exact hy2) hdec (fun H1 locs1 hP1 _ hS1 => fin H1 locs1 hP1 hS1)
      · cases hlk1
    · cases hex
  case iaload =>
    simp only [m_ex] at hex
    split at hex
    · next j S1 =>
      split at hex
      · next h0 =>
        obtain ⟨v, hv, he⟩ := Option.map_eq_some_iff.mp hex
        cases he
        have hlt := (List.getElem?_eq_some_iff.mp hv).1
        have hq := va_sld (Q := Q) (l := l) (R := R) (args := args) (m := m) (below := below) (meth := meth) (cells := cells) (slots := slots) (ls := ls) (e := e) (pc := pc) (rest := S1.map (m_v (m_ad b N P))) hx hb hX (show b < s.heap.size by omega) (A := fun q => N ≤ q) (by show ¬ N ≤ b; omega) hS (m_in h0 hlt) hdec
        refine hq ?_
        have e1 : scr.getD j.toNatClampNeg 0 = v := by rw [List.getD_eq_getElem?_getD, hv]; rfl
        show W p l e R s m args below meth c H locs cells slots Q (F0 m (pc + 1) ls (.int (scr.getD j.toNatClampNeg 0) :: _))
        rw [e1]
        exact kk _ _ _ _ _ ⟨hl, hP, hS, hc, hs⟩
      · cases hex
    · next j r S1 hne =>
      split at hex
      · next v hv =>
        cases hex
        obtain ⟨vs, hg, h0, hvs⟩ := m_ra_of hv
        obtain ⟨k0, hat, -⟩ := m_at (b := b) (N := N) (P := P) (dt := dt) hg rfl
        have hlt := (List.getElem?_eq_some_iff.mp hvs).1
        refine va_iald (D := D) hx hb hK.1 hP k0 0 hat rfl (m_in h0 hlt) hdec ?_
        have e1 : m_iv (vs.getD j.toNatClampNeg .null) = v := by rw [List.getD_eq_getElem?_getD, hvs]; rfl
        show W p l e R s m args below meth c H locs cells slots Q (F0 m (pc + 1) ls (.int (m_iv (vs.getD j.toNatClampNeg .null)) :: _))
        rw [e1]
        exact kk _ _ _ _ _ ⟨hl, hP, hS, hc, hs⟩
      · split at hex
        · next v hv =>
          cases hex
          have hk := kk _ _ _ _ _ ⟨hl, hP, hS, hc, hs⟩
          unfold m_preI at hv
          split at hv
          · next h0 =>
            split at hv
            · next hr =>
              subst hr
              have hlt : j.toNatClampNeg < 5 := by
                apply Nat.lt_of_not_le
                intro h5
                unfold m_f1 at hv
                rw [List.getD_eq_getElem?_getD, List.getElem?_eq_none (by simpa using h5)] at hv
                cases hv
              simp only [List.map_cons, m_v, m_ad_p] at hk ⊢
              exact va_ti (A := fun q => N ≤ q) hx hb hPx.2.2.2.1 hS (m_in h0 hlt) hv hdec hk
            · split at hv
              · next hr =>
                subst hr
                have hlt : j.toNatClampNeg < 9 := by
                  apply Nat.lt_of_not_le
                  intro h5
                  unfold m_f2 at hv
                  rw [List.getD_eq_getElem?_getD, List.getElem?_eq_none (by simpa using h5)] at hv
                  cases hv
                simp only [List.map_cons, m_v, m_ad_p] at hk ⊢
                exact va_ti (A := fun q => N ≤ q) hx hb hPx.2.2.2.2.1 hS (m_in h0 hlt) hv hdec hk
              · cases hv
          · cases hv
        · cases hex
    · cases hex
  case baload =>
    simp only [m_ex] at hex
    split at hex
    · next j r S1 =>
      split at hex
      · next v hv =>
        cases hex
        obtain ⟨vs, hg, h0, hvs⟩ := m_ra_of hv
        obtain ⟨k0, hat, -⟩ := m_at (b := b) (N := N) (P := P) (dt := dt) hg rfl
        have hlt := (List.getElem?_eq_some_iff.mp hvs).1
        refine va_zald (D := D) hx hb hK.1 hP k0 1 hat rfl (m_in h0 hlt) hdec ?_
        have e1 : m_iv (vs.getD j.toNatClampNeg .null) = v := by rw [List.getD_eq_getElem?_getD, hvs]; rfl
        show W p l e R s m args below meth c H locs cells slots Q (F0 m (pc + 1) ls (.int (m_iv (vs.getD j.toNatClampNeg .null)) :: _))
        rw [e1]
        exact kk _ _ _ _ _ ⟨hl, hP, hS, hc, hs⟩
      · cases hex
    · cases hex
  case aaload =>
    simp only [m_ex] at hex
    split at hex
    · next j r S1 =>
      split at hex
      · next t vs hg =>
        split at hex
        · next ht =>
          obtain ⟨ht, h0⟩ := ht
          split at hex
          · next v hvs =>
            cases hex
            obtain ⟨k0, hat, -⟩ := m_at (b := b) (N := N) (P := P) (dt := dt) hg rfl
            have hlt := (List.getElem?_eq_some_iff.mp hvs).1
            have e1 : va_rf (m_rv (m_ad b N P) (vs.getD j.toNatClampNeg .null)) = .ref (m_ad b N P v) := by rw [List.getD_eq_getElem?_getD, hvs]; rfl
            have hk := kk _ _ _ _ _ ⟨hl, hP, hS, hc, hs⟩
            simp only [List.map_cons, m_v] at hk
            rw [← e1] at hk
            rcases ht with rfl | rfl | rfl
            · exact va_aldq (D := D) hx hb hK.1 hP k0 2 hat rfl (m_in h0 hlt) hdec hk
            · exact va_aldq (D := D) hx hb hK.1 hP k0 5 hat rfl (m_in h0 hlt) hdec hk
            · exact va_aldq (D := D) hx hb hK.1 hP k0 6 hat rfl (m_in h0 hlt) hdec hk
          · cases hex
        · cases hex
      · cases hex
      · split at hex
        · next hr =>
          obtain ⟨rfl, h0, hlt⟩ := hr
          cases hex
          have hk := kk _ _ _ _ _ ⟨hl, hP, hS, hc, hs⟩
          have e2 : m_ad b N P (m_p0 + 5 + j.toNatClampNeg) = P (5 + j.toNatClampNeg) := by rw [Nat.add_assoc, m_ad_p]
          simp only [List.map_cons, m_v, m_ad_p, e2] at hk ⊢
          exact vb_tq (A := fun q => N ≤ q) hx hb hPx.2.2.2.2.2.1 hS (m_in h0 hlt) rfl hdec hk
        · cases hex
    · cases hex
  case iastore =>
    simp only [m_ex] at hex
    split at hex
    · next v j r S1 =>
      obtain ⟨H1, hv, he⟩ := Option.map_eq_some_iff.mp hex
      cases he
      obtain ⟨vs, hg, h0, hlt, rfl⟩ := m_wa_of hv
      obtain ⟨k0, hat, hset⟩ := m_at (b := b) (N := N) (P := P) (dt := dt) hg rfl
      refine va_iast (D := D) hx hb hK.1 hP hD hS k0 0 hat rfl (m_in h0 hlt) hdec (fun H1 locs1 hP1 _ hS1 => kk _ _ _ _ _ ⟨hl, ?_, hS1, by rw [m_len_set]; exact hc, by rw [m_sl_mset hg (by simp [m_sz])]; exact hs⟩)
      rw [← hset _ rfl, m_E_set0 _ _ _ _ _ hlt]
      exact hP1
    · cases hex
  case bastore =>
    simp only [m_ex] at hex
    split at hex
    · next v j r S1 =>
      obtain ⟨H1, hv, he⟩ := Option.map_eq_some_iff.mp hex
      cases he
      obtain ⟨vs, hg, h0, hlt, rfl⟩ := m_wa_of hv
      obtain ⟨k0, hat, hset⟩ := m_at (b := b) (N := N) (P := P) (dt := dt) hg rfl
      refine va_zast (D := D) hx hb hK.1 hP hD hS k0 1 hat rfl (m_in h0 hlt) hdec (fun H1 locs1 hP1 _ hS1 => kk _ _ _ _ _ ⟨hl, ?_, hS1, by rw [m_len_set]; exact hc, by rw [m_sl_mset hg (by simp [m_sz])]; exact hs⟩)
      rw [← hset _ rfl, m_E_set1 _ _ _ _ _ hlt]
      exact hP1
    · cases hex
  case aastore =>
    simp only [m_ex] at hex
    split at hex
    · next v j r S1 =>
      split at hex
      · next fv hgv =>
        obtain ⟨H1, hv, he⟩ := Option.map_eq_some_iff.mp hex
        cases he
        obtain ⟨vs, hg, h0, hlt, rfl⟩ := m_wa_of hv
        obtain ⟨k0, hat, hset⟩ := m_at (b := b) (N := N) (P := P) (dt := dt) hg rfl
        obtain ⟨k1, hat1, -⟩ := m_at (b := b) (N := N) (P := P) (dt := dt) hgv rfl
        refine va_astq (D := D) (cl := m_cl) (r := (RX3, TX3, 3)) hx hb hK.1 hP hD hS k0 2 k1 3 hat rfl hat1 rfl (m_in h0 hlt) hdec (fun H1 locs1 hP1 _ hS1 => kk _ _ _ _ _ ⟨hl, ?_, hS1, by rw [m_len_set]; exact hc, by rw [m_sl_mset hg (by simp [m_sz])]; exact hs⟩)
        rw [← hset _ rfl, m_E_setR _ _ 2 (Or.inl rfl) _ _ _ hlt]
        exact hP1
      · next fv hgv =>
        obtain ⟨H1, hv, he⟩ := Option.map_eq_some_iff.mp hex
        cases he
        obtain ⟨vs, hg, h0, hlt, rfl⟩ := m_wa_of hv
        obtain ⟨k0, hat, hset⟩ := m_at (b := b) (N := N) (P := P) (dt := dt) hg rfl
        obtain ⟨k1, hat1, -⟩ := m_at (b := b) (N := N) (P := P) (dt := dt) hgv rfl
        refine va_astq (D := D) (cl := m_cl) (r := (RX6, TX6, 3)) hx hb hK.1 hP hD hS k0 5 k1 6 hat rfl hat1 rfl (m_in h0 hlt) hdec (fun H1 locs1 hP1 _ hS1 => kk _ _ _ _ _ ⟨hl, ?_, hS1, by rw [m_len_set]; exact hc, by rw [m_sl_mset hg (by simp [m_sz])]; exact hs⟩)
        rw [← hset _ rfl, m_E_setR _ _ 5 (Or.inr (Or.inl rfl)) _ _ _ hlt]
        exact hP1
      · cases hex
      · split at hex
        · next hbx =>
          obtain ⟨H1, hv, he⟩ := Option.map_eq_some_iff.mp hex
          cases he
          obtain ⟨vs, hg, h0, hlt, rfl⟩ := m_wa_of hv
          obtain ⟨k0, hat, hset⟩ := m_at (b := b) (N := N) (P := P) (dt := dt) hg rfl
          refine vb_astq (D := D) (cl := m_cl) (C := "java/lang/Integer") (E := "java/lang/Object") hx hb hK.1 hP hD hS k0 6 hat rfl (m_boxAt hPx hS hbx) (fun comp c0 h1 h2 => vb_asgC (hK.2.1 _ m_ng_obj) comp c0 h1 h2) (m_in h0 hlt) hdec (fun H1 locs1 hP1 _ hS1 => kk _ _ _ _ _ ⟨hl, ?_, hS1, by rw [m_len_set]; exact hc, by rw [m_sl_mset hg (by simp [m_sz])]; exact hs⟩)
          rw [← hset _ rfl, m_E_setR _ _ 6 (Or.inr (Or.inr rfl)) _ _ _ hlt]
          exact hP1
        · cases hex
    · cases hex
  case arraylength =>
    simp only [m_ex] at hex
    split at hex
    · next S1 =>
      cases hex
      exact va_slen (rest := S1.map (m_v (m_ad b N P))) hx hb hX (show b < s.heap.size by omega) (A := fun q => N ≤ q) (by show ¬ N ≤ b; omega) hS hdec (kk _ _ _ _ _ ⟨hl, hP, hS, hc, hs⟩)
    · next r S1 hne =>
      split at hex
      · next t vs hg =>
        split at hex
        · next ht3 =>
          cases hex
          obtain ⟨k0, hat, -⟩ := m_at (b := b) (N := N) (P := P) (dt := dt) hg rfl
          have hk := kk _ _ _ _ _ ⟨hl, hP, hS, hc, hs⟩
          exact va_alen (D := D) hx hb hK.1 hP k0 t hat (m_tys_get t ht3) rfl hdec hk
        · cases hex
      · cases hex
      · split at hex
        · next n hn =>
          cases hex
          have hk := kk _ _ _ _ _ ⟨hl, hP, hS, hc, hs⟩
          unfold m_preN at hn
          split at hn
          · next hr =>
            cases hn
            have hr2 : r = m_p0 + 0 := hr
            subst hr2
            simp only [List.map_cons, m_v, m_ad_p] at hk ⊢
            exact va_tlen (A := fun q => N ≤ q) hx hb hPx.2.2.1 hS rfl hdec hk
          · split at hn
            · next hr =>
              cases hn; subst hr
              simp only [List.map_cons, m_v, m_ad_p] at hk ⊢
              exact va_tlen (A := fun q => N ≤ q) hx hb hPx.2.2.2.1 hS rfl hdec hk
            · split at hn
              · next hr =>
                cases hn; subst hr
                simp only [List.map_cons, m_v, m_ad_p] at hk ⊢
                exact va_tlen (A := fun q => N ≤ q) hx hb hPx.2.2.2.2.1 hS rfl hdec hk
              · split at hn
                · next hr =>
                  cases hn; subst hr
                  simp only [List.map_cons, m_v, m_ad_p] at hk ⊢
                  exact va_tlen (A := fun q => N ≤ q) hx hb hPx.2.2.2.2.2.1 hS rfl hdec hk
                · cases hn
        · cases hex
    · cases hex
  case new k =>
    dsimp only at hlk
    rw [if_neg hw8] at hlk
    simp only [m_ex] at hex
    split at hex
    · next rr hrr =>
      split at hex
      · next hrm =>
        cases hex
        obtain ⟨hin, hty, hnm⟩ := m_cls _ _ hrr
        have hx10 := m_cl_lt hrr
        simp only [m_okN, hrr] at hlk
        split at hlk
        · next r2 pl e1 e2 =>
          cases e1
          have hx10 : x < 10 := (List.getElem?_eq_some_iff.mp e2).1
          simp only [Bool.and_eq_true] at hlk
          obtain ⟨⟨w1, w2⟩, w3⟩ := hlk
          have hlen : (AH ++ [Sum.inr (x, (List.range rr.2.2).map (fun k => defaultValue (m_fty x k)))] : List mC).length = AH.length + 1 := by simp
          have hsl := m_sl_app AH (Sum.inr (x, (List.range rr.2.2).map (fun k => defaultValue (m_fty x k))))
          have hsz2 : m_sz (Sum.inr (x, (List.range rr.2.2).map (fun k => defaultValue (m_fty x k)))) = rr.2.2 := by
            show (if 10 ≤ x then 6 else _) = _
            rw [if_neg (by omega)]; simp
          rw [hlen] at hc'
          rw [hsl, hsz2] at hs'
          refine va_new (D := D) (ci := x) (fs := ((List.range rr.2.2).map (fun k => defaultValue (m_fty x k))).map (m_v (m_ad b N P))) (C := rr.1) (T := rr.2.1) (N := rr.2.2) hx hb hts hin (m_fty x) hty hown (hts _ (m_wp_in w1)) (hts _ (m_wp_in w2)) (hts _ (m_wp_in w3)) hK.1 hP hD hS hAA hrr ?_ (by omega) (by omega) hdec (fun q H1 hP1 hD1 hS1 => ?_)
          · intro j hj
            have e9 : (((List.range rr.2.2).map (fun k => defaultValue (m_fty x k))).map (m_v (m_ad b N P)))[j]? = some (m_v (m_ad b N P) (defaultValue (m_fty x j))) := by
              rw [List.getElem?_map, List.getElem?_map, List.getElem?_range hj]; rfl
            show _ = List.getD _ j Value.null
            rw [List.getD_eq_getElem?_getD, e9]
            show _ = m_v (m_ad b N P) (defaultValue (m_fty x j))
            cases m_fty x j <;> rfl
          · refine m_W_size (fun hz => ?_)
            obtain ⟨hq1, hq2⟩ := m_fresh hrm (hsz (Bool.and_eq_true_iff.mp hrm).2) hc hP1 hD1 hz
            have hk := kk ls H1 locs (cells + 1) (slots + rr.2.2) ⟨hl, ?_, hS1, by rw [hlen]; omega, by rw [hsl, hsz2]; omega⟩
            · simp only [List.map_cons, m_v] at hk
              rw [hq1]
              exact hk
            · rw [m_ws_app _ _ _ _ (by simp [m_mk]), ← hq2]
              exact hP1
        · cases hlk
      · cases hex
    · cases hex
  case newarray t =>
    simp only [Bool.and_eq_true, Bool.or_eq_true, decide_eq_true_eq] at hlk
    obtain ⟨⟨hx2, hty⟩, hw⟩ := hlk
    simp only [m_ex] at hex
    split at hex
    · next n S1 =>
      split at hex
      · next hn =>
        obtain ⟨hn, hrm⟩ := hn
        cases hex
        have hlen : (AH ++ [Sum.inl (x, List.replicate n.toNatClampNeg (m_d0 x))] : List mC).length = AH.length + 1 := by simp
        have hsl := m_sl_app AH (Sum.inl (x, List.replicate n.toNatClampNeg (m_d0 x)))
        have hsz2 : m_sz (Sum.inl (x, List.replicate n.toNatClampNeg (m_d0 x))) = n.toNatClampNeg := by simp [m_sz]
        have hc2 : (AH ++ [Sum.inl (x, List.replicate n.toNatClampNeg (m_d0 x))] : List mC).length ≤ R.cells + a0 := hc'
        have hs2 : m_sl (AH ++ [Sum.inl (x, List.replicate n.toNatClampNeg (m_d0 x))]) ≤ R.slots + s0 := hs'
        rw [hlen] at hc2
        rw [hsl, hsz2] at hs2
        have hx7 : x < 7 := by omega
        have hz0 : (fun j => Value.int (m_iv ((List.replicate n.toNatClampNeg (Value.int 0)).getD j .null))) = fun _ => Value.int 0 := by
          funext j
          by_cases hj : j < n.toNatClampNeg
          · simp [List.getD_eq_getElem?_getD, hj, m_iv]
          · simp [List.getD_eq_getElem?_getD, hj, m_iv]
        have hz3 : (fun j => Value.long (m_jv ((List.replicate n.toNatClampNeg (Value.long 0)).getD j .null))) = fun _ => Value.long 0 := by
          funext j
          by_cases hj : j < n.toNatClampNeg
          · simp [List.getD_eq_getElem?_getD, hj, m_jv]
          · simp [List.getD_eq_getElem?_getD, hj, m_jv]
        have hz4 : (fun j => Value.double (m_dv ((List.replicate n.toNatClampNeg (Value.double 0)).getD j .null))) = fun _ => Value.double 0 := by
          funext j
          by_cases hj : j < n.toNatClampNeg
          · simp [List.getD_eq_getElem?_getD, hj, m_dv]
          · simp [List.getD_eq_getElem?_getD, hj, m_dv]
        have hcase : x = 0 ∨ x = 1 ∨ x = 3 ∨ x = 4 := by omega
        have hcb : componentBytes (m_ty x) ≤ 8 := by
          rcases hcase with rfl | rfl | rfl | rfl <;> decide
        have hmul : n.toNatClampNeg * componentBytes (m_ty x) ≤ 1000 * 8 := Nat.mul_le_mul hn.2 hcb
        refine va_newa (D := D) (ty := m_ty x) (N' := n.toNatClampNeg) (a0 := (n.toNatClampNeg, m_fn (m_ad b N P) x (List.replicate n.toNatClampNeg (m_d0 x)))) hx hb (by rw [hty]; exact hts _ (m_wp_in hw)) hty hK.1 hP hD hS hAA (fun cA => ?_) (fun q => Int32.not_lt.mpr hn.1 q) rfl (by omega) (by omega) (by omega) hdec (fun q cA H1 hK1 hP1 hD1 hS1 => ?_)
        · rcases hcase with rfl | rfl | rfl | rfl
          · show arrV cA _ (fun j => Value.int (m_iv ((List.replicate n.toNatClampNeg (Value.int 0)).getD j .null))) = _
            rw [hz0]; rfl
          · show arrV cA _ (fun j => Value.int (m_iv ((List.replicate n.toNatClampNeg (Value.int 0)).getD j .null))) = _
            rw [hz0]; rfl
          · show arrV cA _ (fun j => Value.long (m_jv ((List.replicate n.toNatClampNeg (Value.long 0)).getD j .null))) = _
            rw [hz3]; rfl
          · show arrV cA _ (fun j => Value.double (m_dv ((List.replicate n.toNatClampNeg (Value.double 0)).getD j .null))) = _
            rw [hz4]; rfl
        · refine m_W_size (fun hz => ?_)
          obtain ⟨hq1, hq2⟩ := m_fresh hrm (hsz (Bool.and_eq_true_iff.mp hrm).2) hc hP1 hD1 hz
          have hcA := m_cA hx7 hK.1 hK1
          subst hcA
          have hk := kk ls H1 locs (cells + 1) (slots + n.toNatClampNeg) ⟨hl, ?_, hS1, (show cells + 1 + a0 = (AH ++ [Sum.inl (x, List.replicate n.toNatClampNeg (m_d0 x))] : List mC).length by rw [hlen]; omega), (show slots + n.toNatClampNeg + s0 = m_sl (AH ++ [Sum.inl (x, List.replicate n.toNatClampNeg (m_d0 x))]) by rw [hsl, hsz2]; omega)⟩
          · simp only [List.map_cons, m_v] at hk
            rw [hq1]
            exact hk
          · show va_P D m_cl (m_ws N (m_ad b N P) dt 0 (AH ++ [Sum.inl (x, List.replicate n.toNatClampNeg (m_d0 x))])) H1
            rw [m_ws_app _ _ _ _ rfl, ← hq2, m_E_new]
            exact hP1
      · cases hex
    · cases hex
  case anewarray k =>
    simp only [m_ex] at hex
    split at hex
    · next n S1 =>
      split at hex
      · next hn =>
        obtain ⟨hn, hrm⟩ := hn
        cases hex
        have hlen : (AH ++ [Sum.inl (x, List.replicate n.toNatClampNeg Value.null)] : List mC).length = AH.length + 1 := by simp
        have hsl := m_sl_app AH (Sum.inl (x, List.replicate n.toNatClampNeg Value.null))
        have hsz2 : m_sz (Sum.inl (x, List.replicate n.toNatClampNeg Value.null)) = n.toNatClampNeg := by simp [m_sz]
        rw [hlen] at hc'
        rw [hsl, hsz2] at hs'
        have hx3 : (x = 2 ∨ x = 5 ∨ x = 6) ∧ ∃ C : String, m_ty x = .object C ∧ m_wp y (.classLink (m_nm M).cls k C) = true ∧ va_AO C s := by
          simp only [Bool.or_eq_true, Bool.and_eq_true, decide_eq_true_eq] at hlk
          rcases hlk with (⟨rfl, h⟩ | ⟨rfl, h⟩) | ⟨rfl, h⟩
          · exact ⟨Or.inl rfl, _, rfl, h, hK.2.2.1.1⟩
          · exact ⟨Or.inr (Or.inl rfl), _, rfl, h, hK.2.2.1.2.1⟩
          · exact ⟨Or.inr (Or.inr rfl), _, rfl, h, hK.2.2.1.2.2⟩
        obtain ⟨hx3, C, hC, hw, hao⟩ := hx3
        have hx7 : x < 7 := by omega
        refine va_newq (D := D) (C := C) (N' := n.toNatClampNeg) hx hb hown (hts _ (m_wp_in hw)) hao hK.1 hP hD hS hAA (fun q => Int32.not_lt.mpr hn.1 q) rfl (by omega) (by omega) (by omega) hdec (fun q cA H1 hK1 hP1 hD1 hS1 => ?_)
        refine m_W_size (fun hz => ?_)
        obtain ⟨hq1, hq2⟩ := m_fresh hrm (hsz (Bool.and_eq_true_iff.mp hrm).2) hc hP1 hD1 hz
        rw [← hC] at hK1
        have hcA := m_cA hx7 hK.1 hK1
        subst hcA
        have hk := kk ls H1 locs (cells + 1) (slots + n.toNatClampNeg) ⟨hl, ?_, hS1, by rw [hlen]; omega, by rw [hsl, hsz2]; omega⟩
        · simp only [List.map_cons, m_v] at hk
          rw [hq1]
          exact hk
        · rw [m_ws_app _ _ _ _ rfl, ← hq2, m_E_newq _ _ _ _ hx3]
          exact hP1
      · cases hex
    · cases hex
  case invokestatic k =>
    dsimp only at hlk
    have hsz3 : c.maxLocals = ls.size := hml.trans hl.1.symm
    have hwi := m_w_ini
    simp only [m_ex, m_math] at hex
    split at hex
    · next hw3 =>
      rw [if_pos hw3] at hlk
      simp only [Bool.and_eq_true, decide_eq_true_eq] at hlk
      obtain ⟨⟨wl, r1⟩, r2⟩ := hlk
      split at hex
      · next u v S1 =>
        split at hex
        · next hct =>
          cases hex
          have hk := kk _ _ _ _ _ ⟨hl, hP, hS, hc, hs⟩
          exact va_mmax hx hb hsz3 hown (hts _ (m_wp_in wl)) (hts _ (m_wp_in m_w_max.1)) (hts _ (m_wp_in hwi.1)) (hts _ (m_wp_in m_w_max.2)) (by omega) (by rw [m_cat_v]; omega) (by omega) (by omega) hdec hk
        · cases hex
      · cases hex
    · next hw3 =>
      rw [if_neg hw3] at hlk
      split at hex
      · next hw4 =>
        rw [if_pos hw4] at hlk
        simp only [Bool.and_eq_true, decide_eq_true_eq] at hlk
        obtain ⟨⟨wl, r1⟩, r2⟩ := hlk
        split at hex
        · next u v S1 =>
          split at hex
          · next hct =>
            cases hex
            have hk := kk _ _ _ _ _ ⟨hl, hP, hS, hc, hs⟩
            exact va_mmin hx hb hsz3 hown (hts _ (m_wp_in wl)) (hts _ (m_wp_in m_w_min.1)) (hts _ (m_wp_in hwi.1)) (hts _ (m_wp_in m_w_min.2)) (by omega) (by rw [m_cat_v]; omega) (by omega) (by omega) hdec hk
          · cases hex
        · cases hex
      · next hw4 =>
        rw [if_neg hw4] at hlk
        split at hex
        · next hw5 =>
          rw [if_pos hw5] at hlk
          simp only [Bool.and_eq_true, decide_eq_true_eq] at hlk
          obtain ⟨⟨wl, r1⟩, r2⟩ := hlk
          split at hex
          · next u S1 =>
            split at hex
            · next hct =>
              cases hex
              have hk := kk _ _ _ _ _ ⟨hl, hP, hS, hc, hs⟩
              exact va_mabs hx hb hsz3 hown (hts _ (m_wp_in wl)) (hts _ (m_wp_in m_w_abs.1)) (hts _ (m_wp_in hwi.1)) (hts _ (m_wp_in m_w_abs.2)) (by omega) (by rw [m_cat_v]; omega) (by omega) (by omega) hdec hk
            · cases hex
          · cases hex
        · next hw5 =>
          rw [if_neg hw5] at hlk
          split at hex
          · next hw6 =>
            rw [if_pos hw6] at hlk
            simp only [Bool.and_eq_true, decide_eq_true_eq] at hlk
            obtain ⟨⟨wl, r1⟩, r2⟩ := hlk
            split at hex
            · next n dp r sp r0 S1 =>
              split at hex
              · next hct =>
                obtain ⟨H1, hv, he⟩ := Option.map_eq_some_iff.mp hex
                cases he
                obtain ⟨u, f, g, hg0, hg1, a1, a2, a3, a4, a5, hu, rfl⟩ := m_cp_of hv
                obtain ⟨k0, hat0, -⟩ := m_at (b := b) (N := N) (P := P) (dt := dt) hg0 rfl
                obtain ⟨k1, hat1, hset⟩ := m_at (b := b) (N := N) (P := P) (dt := dt) hg1 rfl
                rcases hu with rfl | ⟨rfl, hbx⟩
                · refine va_copyi (D := D) (ty := .int) hx hb hsz3 hown (hts _ (m_wp_in wl)) (hts _ (m_wp_in m_w_cpy.2)) (hts _ (m_wp_in m_w_cpy.1)) (hts _ (m_wp_in hwi.2)) hK.1 hP hD hS k0 k1 0 0 hat0 hat1 rfl rfl rfl (fun q => Int32.not_lt.mpr a1 q) (fun q => Int32.not_lt.mpr a2 q) (fun q => Int32.not_lt.mpr a3 q) a4 a5 (fun _ _ => rfl) (by omega) (by rw [m_cat_v]; omega) hdec
                    (fun H1 locs1 hP1 _ hS1 => kk _ _ _ _ _ ⟨hl, ?_, hS1, by rw [m_len_set]; exact hc, by rw [m_sl_mset hg1 (by simp [m_sz, m_cpy_len])]; exact hs⟩)
                  rw [← hset _ rfl, m_E_cpy _ _ _ _ _ _ _ a5]
                  exact hP1
                · refine va_copyq (D := D) (cl := m_cl) (E0 := "java/lang/Object") (E1 := "java/lang/Object") (C := "java/lang/Integer") hx hb hsz3 hown (hts _ (m_wp_in wl)) (hts _ (m_wp_in m_w_cpy.2)) (hts _ (m_wp_in m_w_cpy.1)) (hts _ (m_wp_in hwi.2)) hK.1 hP hD hS k0 k1 6 6 hat0 hat1 rfl rfl (fun q => Int32.not_lt.mpr a1 q) (fun q => Int32.not_lt.mpr a2 q) (fun q => Int32.not_lt.mpr a3 q) a4 a5 (fun i hi q hq => ?_) (fun comp c0 h1 h2 => vb_asgC (hK.2.1 _ m_ng_obj) comp c0 h1 h2) (by omega) (by rw [m_cat_v]; omega) hdec
                    (fun H1 locs1 hP1 _ hS1 => kk _ _ _ _ _ ⟨hl, ?_, hS1, by rw [m_len_set]; exact hc, by rw [m_sl_mset hg1 (by simp [m_sz, m_cpy_len])]; exact hs⟩)
                  · have hb1 := List.all_eq_true.mp hbx i (List.mem_range.mpr hi)
                    have hq2 : m_rv (m_ad b N P) (f.getD (sp.toNatClampNeg + i) .null) = some q := hq
                    split at hb1
                    · next v hv2 =>
                      rw [List.getD_eq_getElem?_getD, hv2] at hq2
                      cases hq2
                      exact m_boxAt hPx hS hb1
                    · cases hb1
                  · rw [← hset _ rfl, m_E_cpyR _ _ _ _ _ _ _ a5]
                    exact hP1
              · cases hex
            · cases hex
          · cases hex
  case invokespecial k =>
    dsimp only at hlk
    simp only [m_ex] at hex
    split at hex
    · next hw7 =>
      rw [if_pos hw7] at hlk
      simp only [Bool.and_eq_true, decide_eq_true_eq] at hlk
      obtain ⟨⟨wl, r1⟩, r2⟩ := hlk
      split at hex
      · next r S1 =>
        split at hex
        · next hct =>
          cases hex
          have hk := kk _ _ _ _ _ ⟨hl, hP, hS, hc, hs⟩
          refine W.objInit hx hb hown (hts _ (m_wp_in wl)) (hts _ (m_wp_in m_w_obj.1)) (hts _ (m_wp_in m_w_obj.2)) rfl (by rw [hml]; exact hl.1) rfl hdec (by omega) ?_ hk
          show 2 * 0 + ((S'.map (m_v (m_ad b N P))).map fun v => v.category).sum + 12 ≤ R.locals
          rw [m_cat_v]; omega
        · cases hex
      · cases hex
    · cases hex
  all_goals exact absurd hex (by simp [m_ex])
end MO
