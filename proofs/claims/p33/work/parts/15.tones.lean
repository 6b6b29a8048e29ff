/-! Tones -/
def tn (H : List mC) (n : Int) (cs ps : Int → Int) : Prop := m_get H 18 = some (.inr (4, [.ref 19, .ref 20, vI n])) ∧ m_get H 19 = some (.inl (0, aI 256 cs)) ∧ m_get H 20 = some (.inl (0, aI 256 ps))
def hist (f : Int → Int) (n e : Int) : Int := fsum (fun j => if f j = e then 1 else 0) n
theorem hist_0 (f : Int → Int) : hist f 0 = fun _ => 0 := rfl
theorem hist_up (f : Int → Int) {i : Int} (h : 0 ≤ i) : m_up (hist f i) (f i) (hist f i (f i) + 1) = hist f (i + 1) := by
  funext e
  unfold m_up hist
  rw [fsum_succ _ h]
  by_cases he : e = f i
  · subst he
    rw [if_pos rfl, if_pos rfl]
  · rw [if_neg he, if_neg (fun z => he z.symm), Int.add_zero]
theorem hist_bd (f : Int → Int) {n : Int} (h0 : 0 ≤ n) (h1 : n ≤ 256) (e : Int) : 0 ≤ hist f n e ∧ hist f n e ≤ n := by
  have := fsum_bd (f := fun j => if f j = e then 1 else 0) (lo := 0) (hi := 1) (fun j _ _ => by split <;> omega) n h0 h1
  unfold hist
  omega
def ordA (cs : Int → Int) (k : Int) : Nat → Int → Int
  | 0, _ => 255
  | n + 1, i => if k < fsum cs (i + 1) then i else ordA cs k n (i + 1)
def ordf (cs : Int → Int) (k : Int) : Int := ordA cs k 256 0
theorem ordA_bd (cs : Int → Int) (k : Int) : ∀ (n : Nat) (i : Int), 0 ≤ i → i + n = 256 → 0 ≤ ordA cs k n i ∧ ordA cs k n i ≤ 255
  | 0, i, _, _ => by unfold ordA; omega
  | n + 1, i, h0, h1 => by
    have := ordA_bd cs k n (i + 1) (by omega) (by omega)
    unfold ordA
    split <;> omega
theorem ordf_bd (cs : Int → Int) (k : Int) : 0 ≤ ordf cs k ∧ ordf cs k ≤ 255 := ordA_bd cs k 256 0 (by omega) (by omega)
def fstr (cs : Int → Int) (n : Int) : Int → Int := fun i => if ordf cs 0 < ordf cs (n - 1) then ((i - ordf cs 0) * 255).tdiv (ordf cs (n - 1) - ordf cs 0) else i
def fevn (cs : Int → Int) (n : Int) : Int → Int := fun i => 255 * fsum cs (i + 1) / n
section TONES
variable {scr : List Int32} {H : List mC} {s v : Nat} {w h n k : Int} {f cs ps : Int → Int}
theorem k_read (ht : tn H n cs ps) (hs : sh H s v w h f) (hf : vok f) (ns : s ∉ [18, 19, 20]) (nv : v ∉ [18, 19, 20]) :
    m_Cl scr 40 [.ref 18, .ref s] H none (m_set (m_set H 19 (.inl (0, aI 256 (hist f (w * h))))) 18 (.inr (4, [.ref 19, .ref 20, vI (w * h)]))) := by
  obtain ⟨a1, a2, a3⟩ : s ≠ 18 ∧ s ≠ 19 ∧ s ≠ 20 := by simpa using ns
  obtain ⟨b1, b2, b3⟩ : v ≠ 18 ∧ v ≠ 19 ∧ v ≠ 20 := by simpa using nv
  obtain ⟨t1, t2, t3⟩ := id ht
  obtain ⟨hs1, hs2, hsv, hw1, hw2, hh1, hh2⟩ := id hs
  have ha := m_area hw1 hw2 hh1 hh2
  have l1 : ∀ c, m_get (m_set H 19 c) 18 = some (.inr (4, [.ref 19, .ref 20, vI n])) := fun c => (m_gs_ne (by decide)).trans t1
  show m_Ev scr 40 0 [(0, .ref 18), (1, .ref s)] [] H _
  refine R_iconst 1 c_40_0 rfl ?_
  refine R_istore_n 2 c_40_1 rfl ?_
  refine m_forw 256 (fun i => [(0, .ref 18), (1, .ref s), (2, vI i)]) (fun i => m_set H 19 (.inl (0, aI 256 (fpre (fun _ => 0) cs i)))) 0 rfl (by rw [fpre_0, m_set_self t2]) (by omega) (fun i h0 hi ih => ?_) ?_
  · refine R_iload_n 3 c_40_2 rfl rfl ?_
    refine R_sipush 6 c_40_3 rfl (by decide) ?_
    refine R_br 9 22 _ (cmp_ge (by unfold inR; omega) (by unfold inR; omega)) c_40_6 rfl rfl (fun hn => absurd hn (by omega)) (fun _ => ?_)
    refine R_aload_n 10 c_40_9 rfl rfl ?_
    refine R_get 13 c_40_10 rfl (l1 _) rfl ?_
    refine R_iload_n 14 c_40_13 rfl rfl ?_
    refine R_iconst 15 c_40_14 rfl ?_
    refine R_iast 16 c_40_15 rfl (m_gs_eq t2) (by omega) (by omega) (by decide) ?_
    refine R_iinc 19 c_40_16 rfl rfl ?_
    refine R_goto 2 c_40_19 rfl ?_
    rw [m_set_set, fpre_up (fun _ => 0) cs h0]
    exact ih
  · refine R_iload_n 3 c_40_2 rfl rfl ?_
    refine R_sipush 6 c_40_3 rfl (by decide) ?_
    refine R_br 9 22 _ (cmp_ge (by unfold inR; omega) (by unfold inR; omega)) c_40_6 rfl rfl (fun _ => ?_) (fun hn => absurd (by omega) hn)
    rw [show aI 256 (fpre (fun _ => 0) cs 256) = aI 256 (hist f 0) from fpre_all (n := 256) _ _]
    refine R_iconst 23 c_40_22 rfl ?_
    refine R_istore_n 24 c_40_23 rfl ?_
    refine m_forw (w * h) (fun i => [(0, .ref 18), (1, .ref s), (2, vI i)]) (fun i => m_set H 19 (.inl (0, aI 256 (hist f i)))) 0 rfl rfl (by omega) (fun i h0 hi ih => ?_) ?_
    · have hfi := hf i h0 (by omega)
      have e := hist_up f h0
      refine R_iload_n 25 c_40_24 rfl rfl ?_
      refine R_aload_n 26 c_40_25 rfl rfl ?_
      refine R_callV 29 c_40_26 rfl rfl rfl rfl (Nat.le_of_ble_eq_true rfl) (Nat.le_of_ble_eq_true rfl) ((m_gs_ne a2).trans hs1) (k_size (sh_set hs a2 b2)) ?_
      refine R_br 32 53 _ (cmp_ge (by unfold inR; omega) (by unfold inR; omega)) c_40_29 rfl rfl (fun hn => absurd hn (by omega)) (fun _ => ?_)
      refine R_aload_n 33 c_40_32 rfl rfl ?_
      refine R_get 36 c_40_33 rfl (l1 _) rfl ?_
      refine R_aload_n 37 c_40_36 rfl rfl ?_
      refine R_get 40 c_40_37 rfl ((m_gs_ne a2).trans hs1) rfl ?_
      refine R_iload_n 41 c_40_40 rfl rfl ?_
      refine R_iald 42 c_40_41 rfl ((m_gs_ne b2).trans hs2) (by omega) (by omega) (by decide) ?_
      refine R_dup2 43 c_40_42 rfl rfl rfl ?_
      refine R_iald 44 c_40_43 rfl (m_gs_eq t2) (by omega) (by omega) (by decide) ?_
      refine R_iconst 45 c_40_44 rfl ?_
      refine R_iadd 46 c_40_45 rfl ?_
      refine R_iast 47 c_40_46 rfl (m_gs_eq t2) (by omega) (by omega) (by decide) ?_
      refine R_iinc 50 c_40_47 rfl rfl ?_
      refine R_goto 24 c_40_50 rfl ?_
      rw [m_set_set, e]
      exact ih
    · refine R_iload_n 25 c_40_24 rfl rfl ?_
      refine R_aload_n 26 c_40_25 rfl rfl ?_
      refine R_callV 29 c_40_26 rfl rfl rfl rfl (Nat.le_of_ble_eq_true rfl) (Nat.le_of_ble_eq_true rfl) ((m_gs_ne a2).trans hs1) (k_size (sh_set hs a2 b2)) ?_
      refine R_br 32 53 _ (cmp_ge (by unfold inR; omega) (by unfold inR; omega)) c_40_29 rfl rfl (fun _ => ?_) (fun hn => absurd (by omega) hn)
      refine R_aload_n 54 c_40_53 rfl rfl ?_
      refine R_aload_n 55 c_40_54 rfl rfl ?_
      refine R_callV 58 c_40_55 rfl rfl rfl rfl (Nat.le_of_ble_eq_true rfl) (Nat.le_of_ble_eq_true rfl) ((m_gs_ne a2).trans hs1) (k_size (sh_set hs a2 b2)) ?_
      refine R_put 61 c_40_58 rfl (l1 _) (Nat.le_of_ble_eq_true rfl) rfl ?_
      exact R_return c_40_61 rfl rfl
theorem k_planned {e : Int} (ht : tn H n cs ps) (h0 : 0 ≤ e) (h1 : e < 256) : m_Cl scr 41 [.ref 18, vI e] H (some (vI (ps e))) H := by
  obtain ⟨t1, t2, t3⟩ := id ht
  show m_Ev scr 41 0 [(0, .ref 18), (1, vI e)] [] H _
  refine R_aload_n 1 c_41_0 rfl rfl ?_
  refine R_get 4 c_41_1 rfl (t1) rfl ?_
  refine R_iload_n 5 c_41_4 rfl rfl ?_
  refine R_iald 6 c_41_5 rfl (t3) (by omega) (by omega) (by decide) ?_
  exact R_ireturn c_41_6 rfl rfl
theorem k_inOrder (ht : tn H n cs ps) (hk : inR k) (hc : ∀ e : Int, 0 ≤ e → e < 256 → 0 ≤ cs e ∧ cs e ≤ 256) : m_Cl scr 49 [.ref 18, vI k] H (some (vI (ordf cs k))) H := by
  obtain ⟨t1, t2, t3⟩ := id ht
  obtain ⟨hk1, hk2⟩ := id hk
  show m_Ev scr 49 0 [(0, .ref 18), (1, vI k)] [] H _
  refine R_iconst 1 c_49_0 rfl ?_
  refine R_istore_n 2 c_49_1 rfl ?_
  refine R_iconst 3 c_49_2 rfl ?_
  refine R_istore_n 4 c_49_3 rfl ?_
  refine m_forP 256 (fun i L H2 => L = [(0, .ref 18), (1, vI k), (2, vI (fsum cs i)), (3, vI i)] ∧ H2 = H ∧ ordf cs k = ordA cs k (256 - i).toNat i) 0 ⟨rfl, rfl, rfl⟩ (by omega) ?_ ?_
  · rintro i _ _ h0 hi ⟨rfl, rfl, ho⟩ ih
    have hb1 := fsum_bd hc i h0 (by omega)
    have hci := hc i h0 hi
    obtain ⟨m, hm1, hm2⟩ : ∃ m : Nat, (256 - i).toNat = m + 1 ∧ (256 - (i + 1)).toNat = m := ⟨(256 - (i + 1)).toNat, by omega, rfl⟩
    rw [hm1] at ho
    unfold ordA at ho
    rw [fsum_succ cs h0] at ho
    refine R_iload_n 5 c_49_4 rfl rfl ?_
    refine R_sipush 8 c_49_5 rfl (by decide) ?_
    refine R_br 11 33 _ (cmp_ge (by unfold inR; omega) (by unfold inR; omega)) c_49_8 rfl rfl (fun hn => absurd hn (by omega)) (fun _ => ?_)
    refine R_iload_n 12 c_49_11 rfl rfl ?_
    refine R_aload_n 13 c_49_12 rfl rfl ?_
    refine R_get 16 c_49_13 rfl (t1) rfl ?_
    refine R_iload_n 17 c_49_16 rfl rfl ?_
    refine R_iald 18 c_49_17 rfl (t2) (by omega) (by omega) (by decide) ?_
    refine R_iadd 19 c_49_18 rfl ?_
    refine R_istore_n 20 c_49_19 rfl ?_
    refine R_iload_n 21 c_49_20 rfl rfl ?_
    refine R_iload_n 22 c_49_21 rfl rfl ?_
    refine R_br 25 27 _ (cmp_ge (by unfold inR; omega) (by unfold inR; omega)) c_49_22 rfl rfl (fun hb => ?_) (fun hb => ?_)
    · rw [if_neg (by omega)] at ho
      refine R_iinc 30 c_49_27 rfl rfl ?_
      refine R_goto 4 c_49_30 rfl ?_
      refine ih _ _ ⟨?_, rfl, ?_⟩
      · rw [fsum_succ cs h0]; rfl
      · rw [hm2]; exact ho
    · rw [if_pos (by omega)] at ho
      refine R_iload_n 26 c_49_25 rfl rfl ?_
      refine R_ireturn c_49_26 rfl ?_
      rw [ho]
  · rintro _ _ ⟨rfl, rfl, ho⟩
    refine R_iload_n 5 c_49_4 rfl rfl ?_
    refine R_sipush 8 c_49_5 rfl (by decide) ?_
    refine R_br 11 33 _ (cmp_ge (by unfold inR; omega) (by unfold inR; omega)) c_49_8 rfl rfl (fun _ => ?_) (fun hn => absurd (by omega) hn)
    refine R_sipush 36 c_49_33 rfl (by decide) ?_
    refine R_ireturn c_49_36 rfl ?_
    rw [ho]
    rfl
theorem k_least4 (ht : tn H n cs ps) (hc : ∀ e : Int, 0 ≤ e → e < 256 → 0 ≤ cs e ∧ cs e ≤ 256) : m_Cl scr 47 [.ref 18] H (some (vI (ordf cs 0))) H := by
  show m_Ev scr 47 0 [(0, .ref 18)] [] H _
  refine R_aload_n 1 c_47_0 rfl rfl ?_
  refine R_iconst 2 c_47_1 rfl ?_
  refine R_callV 5 c_47_2 rfl rfl rfl rfl (Nat.le_of_ble_eq_true rfl) (Nat.le_of_ble_eq_true rfl) (ht.1) (k_inOrder ht inR_0 hc) ?_
  exact R_ireturn c_47_5 rfl rfl
theorem k_greatest4 (ht : tn H n cs ps) (hn : 0 ≤ n ∧ n ≤ 256) (hc : ∀ e : Int, 0 ≤ e → e < 256 → 0 ≤ cs e ∧ cs e ≤ 256) : m_Cl scr 48 [.ref 18] H (some (vI (ordf cs (n - 1)))) H := by
  show m_Ev scr 48 0 [(0, .ref 18)] [] H _
  refine R_aload_n 1 c_48_0 rfl rfl ?_
  refine R_aload_n 2 c_48_1 rfl rfl ?_
  refine R_get 5 c_48_2 rfl (ht.1) rfl ?_
  refine R_iconst 6 c_48_5 rfl ?_
  refine R_isub 7 c_48_6 rfl ?_
  refine R_callV 10 c_48_7 rfl rfl rfl rfl (Nat.le_of_ble_eq_true rfl) (Nat.le_of_ble_eq_true rfl) (ht.1) (k_inOrder ht (by unfold inR; omega) hc) ?_
  exact R_ireturn c_48_10 rfl rfl
theorem k_planNegative (ht : tn H n cs ps) : m_Cl scr 43 [.ref 18] H none (m_set H 20 (.inl (0, aI 256 (fun i => 255 - i)))) := by
  obtain ⟨t1, t2, t3⟩ := id ht
  show m_Ev scr 43 0 [(0, .ref 18)] [] H _
  refine R_iconst 1 c_43_0 rfl ?_
  refine R_istore_n 2 c_43_1 rfl ?_
  refine m_forw 256 (fun i => [(0, .ref 18), (1, vI i)]) (fun i => m_set H 20 (.inl (0, aI 256 (fpre (fun i => 255 - i) ps i)))) 0 rfl (by rw [fpre_0, m_set_self t3]) (by omega) (fun i h0 hi ih => ?_) ?_
  · refine R_iload_n 3 c_43_2 rfl rfl ?_
    refine R_sipush 6 c_43_3 rfl (by decide) ?_
    refine R_br 9 26 _ (cmp_ge (by unfold inR; omega) (by unfold inR; omega)) c_43_6 rfl rfl (fun hn => absurd hn (by omega)) (fun _ => ?_)
    refine R_aload_n 10 c_43_9 rfl rfl ?_
    refine R_get 13 c_43_10 rfl ((m_gs_ne (by decide)).trans t1) rfl ?_
    refine R_iload_n 14 c_43_13 rfl rfl ?_
    refine R_sipush 17 c_43_14 rfl (by decide) ?_
    refine R_iload_n 18 c_43_17 rfl rfl ?_
    refine R_isub 19 c_43_18 rfl ?_
    refine R_iast 20 c_43_19 rfl (m_gs_eq t3) (by omega) (by omega) (by decide) ?_
    refine R_iinc 23 c_43_20 rfl rfl ?_
    refine R_goto 2 c_43_23 rfl ?_
    rw [m_set_set, fpre_up (fun i => 255 - i) ps h0]
    exact ih
  · refine R_iload_n 3 c_43_2 rfl rfl ?_
    refine R_sipush 6 c_43_3 rfl (by decide) ?_
    refine R_br 9 26 _ (cmp_ge (by unfold inR; omega) (by unfold inR; omega)) c_43_6 rfl rfl (fun _ => ?_) (fun hn => absurd (by omega) hn)
    rw [show aI 256 (fpre (fun i => 255 - i) ps 256) = aI 256 (fun i => 255 - i) from fpre_all (n := 256) _ _]
    exact R_return c_43_26 rfl rfl
theorem k_planStretch (ht : tn H n cs ps) (hn : 0 ≤ n ∧ n ≤ 256) (hc : ∀ e : Int, 0 ≤ e → e < 256 → 0 ≤ cs e ∧ cs e ≤ 256) : m_Cl scr 44 [.ref 18] H none (m_set H 20 (.inl (0, aI 256 (fstr cs n)))) := by
  obtain ⟨t1, t2, t3⟩ := id ht
  have ha := ordf_bd cs 0
  have hb := ordf_bd cs (n - 1)
  show m_Ev scr 44 0 [(0, .ref 18)] [] H _
  refine R_aload_n 1 c_44_0 rfl rfl ?_
  refine R_callV 4 c_44_1 rfl rfl rfl rfl (Nat.le_of_ble_eq_true rfl) (Nat.le_of_ble_eq_true rfl) (t1) (k_least4 ht hc) ?_
  refine R_istore_n 5 c_44_4 rfl ?_
  refine R_aload_n 6 c_44_5 rfl rfl ?_
  refine R_callV 9 c_44_6 rfl rfl rfl rfl (Nat.le_of_ble_eq_true rfl) (Nat.le_of_ble_eq_true rfl) (t1) (k_greatest4 ht hn hc) ?_
  refine R_istore_n 10 c_44_9 rfl ?_
  refine R_iconst 11 c_44_10 rfl ?_
  refine R_istore_n 12 c_44_11 rfl ?_
  refine m_forw 256 (fun i => [(0, .ref 18), (1, vI (ordf cs 0)), (2, vI (ordf cs (n - 1))), (3, vI i)]) (fun i => m_set H 20 (.inl (0, aI 256 (fpre (fstr cs n) ps i)))) 0 rfl (by rw [fpre_0, m_set_self t3]) (by omega) (fun i h0 hi ih => ?_) ?_
  · have e := fpre_up (fstr cs n) ps h0
    refine R_iload_n 13 c_44_12 rfl rfl ?_
    refine R_sipush 16 c_44_13 rfl (by decide) ?_
    refine R_br 19 51 _ (cmp_ge (by unfold inR; omega) (by unfold inR; omega)) c_44_16 rfl rfl (fun hn => absurd hn (by omega)) (fun _ => ?_)
    refine R_aload_n 20 c_44_19 rfl rfl ?_
    refine R_get 23 c_44_20 rfl ((m_gs_ne (by decide)).trans t1) rfl ?_
    refine R_iload_n 24 c_44_23 rfl rfl ?_
    refine R_iload_n 25 c_44_24 rfl rfl ?_
    refine R_iload_n 26 c_44_25 rfl rfl ?_
    refine R_br 29 43 _ (cmp_ge (by unfold inR; omega) (by unfold inR; omega)) c_44_26 rfl rfl (fun hb => ?_) (fun hb => ?_)
    · rw [show fstr cs n i = i from if_neg (by omega)] at e
      refine R_iload_n 44 c_44_43 rfl rfl ?_
      refine R_iast 45 c_44_44 rfl (m_gs_eq t3) (by omega) (by omega) (by decide) ?_
      refine R_iinc 48 c_44_45 rfl rfl ?_
      refine R_goto 12 c_44_48 rfl ?_
      rw [m_set_set, e]
      exact ih
    · rw [show fstr cs n i = ((i - ordf cs 0) * 255).tdiv (ordf cs (n - 1) - ordf cs 0) from if_pos (by omega)] at e
      refine R_iload_n 30 c_44_29 rfl rfl ?_
      refine R_iload_n 31 c_44_30 rfl rfl ?_
      refine R_isub 32 c_44_31 rfl ?_
      refine R_sipush 35 c_44_32 rfl (by decide) ?_
      refine R_imul 36 c_44_35 rfl ?_
      refine R_iload_n 37 c_44_36 rfl rfl ?_
      refine R_iload_n 38 c_44_37 rfl rfl ?_
      refine R_isub 39 c_44_38 rfl ?_
      refine R_idiv 40 c_44_39 rfl (by unfold inR; omega) (by unfold inR; omega) (by omega) ?_
      refine R_goto 44 c_44_40 rfl ?_
      refine R_iast 45 c_44_44 rfl (m_gs_eq t3) (by omega) (by omega) (by decide) ?_
      refine R_iinc 48 c_44_45 rfl rfl ?_
      refine R_goto 12 c_44_48 rfl ?_
      rw [m_set_set, e]
      exact ih
  · refine R_iload_n 13 c_44_12 rfl rfl ?_
    refine R_sipush 16 c_44_13 rfl (by decide) ?_
    refine R_br 19 51 _ (cmp_ge (by unfold inR; omega) (by unfold inR; omega)) c_44_16 rfl rfl (fun _ => ?_) (fun hn => absurd (by omega) hn)
    rw [show aI 256 (fpre (fstr cs n) ps 256) = aI 256 (fstr cs n) from fpre_all (n := 256) _ _]
    exact R_return c_44_51 rfl rfl
theorem k_planEven (ht : tn H n cs ps) (hn : 1 ≤ n ∧ n ≤ 256) (hc : ∀ e : Int, 0 ≤ e → e < 256 → 0 ≤ cs e ∧ cs e ≤ 256) : m_Cl scr 45 [.ref 18] H none (m_set H 20 (.inl (0, aI 256 (fevn cs n)))) := by
  obtain ⟨t1, t2, t3⟩ := id ht
  show m_Ev scr 45 0 [(0, .ref 18)] [] H _
  refine R_iconst 1 c_45_0 rfl ?_
  refine R_istore_n 2 c_45_1 rfl ?_
  refine R_iconst 3 c_45_2 rfl ?_
  refine R_istore_n 4 c_45_3 rfl ?_
  refine m_forw 256 (fun i => [(0, .ref 18), (1, vI (fsum cs i)), (2, vI i)]) (fun i => m_set H 20 (.inl (0, aI 256 (fpre (fevn cs n) ps i)))) 0 rfl (by rw [fpre_0, m_set_self t3]) (by omega) (fun i h0 hi ih => ?_) ?_
  · have e := fpre_up (fevn cs n) ps h0
    have hb1 := fsum_bd hc i h0 (by omega)
    have hci := hc i h0 hi
    unfold fevn at e
    simp only [fsum_succ cs h0] at ih e
    refine R_iload_n 5 c_45_4 rfl rfl ?_
    refine R_sipush 8 c_45_5 rfl (by decide) ?_
    refine R_br 11 53 _ (cmp_ge (by unfold inR; omega) (by unfold inR; omega)) c_45_8 rfl rfl (fun hn => absurd hn (by omega)) (fun _ => ?_)
    refine R_iload_n 12 c_45_11 rfl rfl ?_
    refine R_aload_n 13 c_45_12 rfl rfl ?_
    refine R_get 16 c_45_13 rfl ((m_gs_ne (by decide)).trans t1) rfl ?_
    refine R_iload_n 17 c_45_16 rfl rfl ?_
    refine R_iald 18 c_45_17 rfl ((m_gs_ne (by decide)).trans t2) (by omega) (by omega) (by decide) ?_
    refine R_iadd 19 c_45_18 rfl ?_
    refine R_istore_n 20 c_45_19 rfl ?_
    refine R_aload_n 21 c_45_20 rfl rfl ?_
    refine R_get 24 c_45_21 rfl ((m_gs_ne (by decide)).trans t1) rfl ?_
    refine R_iload_n 25 c_45_24 rfl rfl ?_
    refine R_aload_n 26 c_45_25 rfl rfl ?_
    refine R_get 29 c_45_26 rfl ((m_gs_ne (by decide)).trans t1) rfl ?_
    refine R_brz 32 45 _ (cmp_le (by unfold inR; omega) inR_0) c_45_29 rfl rfl (fun hn => absurd hn (by omega)) (fun _ => ?_)
    refine R_sipush 35 c_45_32 rfl (by decide) ?_
    refine R_iload_n 36 c_45_35 rfl rfl ?_
    refine R_imul 37 c_45_36 rfl ?_
    refine R_aload_n 38 c_45_37 rfl rfl ?_
    refine R_get 41 c_45_38 rfl ((m_gs_ne (by decide)).trans t1) rfl ?_
    refine R_idivp 42 c_45_41 rfl (by omega) (by omega) ?_
    refine R_goto 46 c_45_42 rfl ?_
    refine R_iast 47 c_45_46 rfl (m_gs_eq t3) (by omega) (by omega) (by decide) ?_
    refine R_iinc 50 c_45_47 rfl rfl ?_
    refine R_goto 4 c_45_50 rfl ?_
    rw [m_set_set]
    unfold fevn at *
    rw [e]
    exact ih
  · refine R_iload_n 5 c_45_4 rfl rfl ?_
    refine R_sipush 8 c_45_5 rfl (by decide) ?_
    refine R_br 11 53 _ (cmp_ge (by unfold inR; omega) (by unfold inR; omega)) c_45_8 rfl rfl (fun _ => ?_) (fun hn => absurd (by omega) hn)
    rw [show aI 256 (fpre (fevn cs n) ps 256) = aI 256 (fevn cs n) from fpre_all (n := 256) _ _]
    exact R_return c_45_53 rfl rfl

def fpln (how : Int) (cs : Int → Int) (n : Int) : Int → Int := if how = 0 then (fun i => 255 - i) else if how = 1 then fstr cs n else fevn cs n
theorem k_plan {how : Int} (hh : 0 ≤ how ∧ how ≤ 2) (ht : tn H n cs ps) (hn : 1 ≤ n ∧ n ≤ 256) (hc : ∀ e : Int, 0 ≤ e → e < 256 → 0 ≤ cs e ∧ cs e ≤ 256) : m_Cl scr 42 [.ref 18, vI how] H none (m_set H 20 (.inl (0, aI 256 (fpln how cs n)))) := by
  show m_Ev scr 42 0 [(0, .ref 18), (1, vI how)] [] H _
  refine R_iload_n 1 c_42_0 rfl rfl ?_
  rcases (show how = 0 ∨ how = 1 ∨ how = 2 by omega) with rfl | rfl | rfl
  · refine R_tsw 28 c_42_1 (by unfold inR; omega) rfl ?_
    refine R_aload_n 29 c_42_28 rfl rfl ?_
    refine R_callV 32 c_42_29 rfl rfl rfl rfl (Nat.le_of_ble_eq_true rfl) (Nat.le_of_ble_eq_true rfl) (ht.1) (k_planNegative ht) ?_
    refine R_goto 53 c_42_32 rfl ?_
    exact R_return c_42_53 rfl rfl
  · refine R_tsw 35 c_42_1 (by unfold inR; omega) rfl ?_
    refine R_aload_n 36 c_42_35 rfl rfl ?_
    refine R_callV 39 c_42_36 rfl rfl rfl rfl (Nat.le_of_ble_eq_true rfl) (Nat.le_of_ble_eq_true rfl) (ht.1) (k_planStretch ht (by omega) hc) ?_
    refine R_goto 53 c_42_39 rfl ?_
    exact R_return c_42_53 rfl rfl
  · refine R_tsw 42 c_42_1 (by unfold inR; omega) rfl ?_
    refine R_aload_n 43 c_42_42 rfl rfl ?_
    refine R_callV 46 c_42_43 rfl rfl rfl rfl (Nat.le_of_ble_eq_true rfl) (Nat.le_of_ble_eq_true rfl) (ht.1) (k_planEven ht hn hc) ?_
    refine R_goto 53 c_42_46 rfl ?_
    exact R_return c_42_53 rfl rfl
/-! the CUT, as it is counted -/
def lall (cs : Int → Int) : Nat → Int64
  | 0 => Int64.ofNat 0
  | k + 1 => lall cs k + (iI (k : Int)).toInt64 * (iI (cs (k : Int))).toInt64
def lcst (cs : Int → Int) (n : Int) : Nat → Int64 × Int64 × Int64 × Int
  | 0 => (Int64.ofNat 0, Int64.ofNat 0, Int64.ofInt (-1), 0)
  | k + 1 =>
    let o := lcst cs n k
    let b := o.1 + (iI (cs (k : Int))).toInt64
    let s := o.2.1 + (iI (k : Int)).toInt64 * (iI (cs (k : Int))).toInt64
    let r := (iI n).toInt64 - b
    if b > 0 ∧ r > 0 then
      (if (s * r - (lall cs 256 - s) * b) * (s * r - (lall cs 256 - s) * b) / (b * r) > o.2.2.1 then (b, s, (s * r - (lall cs 256 - s) * b) * (s * r - (lall cs 256 - s) * b) / (b * r), (k : Int) + 1) else (b, s, o.2.2.1, o.2.2.2))
    else (b, s, o.2.2.1, o.2.2.2)
def fcut (cs : Int → Int) (n : Int) : Int := (lcst cs n 255).2.2.2
def lgc (a b : Int64) : Int := if a > b then 1 else if a = b then 0 else -1
theorem lg_iI (a b : Int64) : lg_cmp a b = iI (lgc a b) := by
  unfold lg_cmp lgc
  split
  · rfl
  · split <;> rfl
theorem lgc_le (a b : Int64) : lgc a b ≤ 0 ↔ ¬ a > b := by
  unfold lgc
  split
  · next h => exact ⟨fun z => absurd z (by decide), fun z => absurd h z⟩
  · next h => exact ⟨fun _ => h, fun _ => by split <;> decide⟩
theorem lgc_R (a b : Int64) : inR (lgc a b) := by
  unfold lgc inR
  split
  · omega
  · split <;> omega
theorem R_lle {M pc x y : Nat} {z o : Int} {L : mL} {S : List Value} {X : mR → Prop} {a b : Int64} (q t : Nat) (hc : m_code M pc = some (.ifCond .le o, x, y, 0, z)) (hp : pc + 3 = q) (ht : x = t) (kt : ¬ a > b → m_Ev scr M t L S H X) (kf : a > b → m_Ev scr M q L S H X) : m_Ev scr M pc L (.int (lg_cmp a b) :: S) H X := by
  rw [lg_iI]
  refine R_brz q t _ (cmp_le (lgc_R a b) inR_0) hc hp ht (fun h => kt ((lgc_le a b).mp h)) (fun h => kf ?_)
  by_cases h2 : a > b
  · exact h2
  · exact absurd ((lgc_le a b).mpr h2) h
theorem iI_l {e : Int} (h : inR e) : (iI e).toInt64 = Int64.ofInt e := by
  rw [← Int64.toInt_inj, Int32.toInt_toInt64, iI_toInt h, Int64.toInt_ofInt_of_le (by unfold inR at h; omega) (by unfold inR at h; omega)]
theorem lI_pos {e : Int} (h1 : -1000000 ≤ e) (h2 : e ≤ 1000000) : Int64.ofInt e > 0 ↔ e > 0 := by
  show (0 : Int64) < Int64.ofInt e ↔ _
  rw [Int64.lt_iff_toInt_lt, Int64.toInt_ofInt_of_le (by omega) (by omega)]
  rfl
theorem lcst_b (cs : Int → Int) (n : Int) (hc : ∀ e : Int, 0 ≤ e → e < 256 → 0 ≤ cs e ∧ cs e ≤ 256) : ∀ k : Nat, k ≤ 256 → (lcst cs n k).1 = Int64.ofInt (fsum cs (k : Int))
  | 0, _ => rfl
  | k + 1, h => by
    have ih := lcst_b cs n hc k (by omega)
    have hk := hc (k : Int) (by omega) (by omega)
    have e : (lcst cs n (k + 1)).1 = (lcst cs n k).1 + (iI (cs (k : Int))).toInt64 := by
      show (if _ then _ else _ : Int64 × Int64 × Int64 × Int).1 = _
      split
      · split <;> rfl
      · rfl
    rw [e, ih, iI_l (by unfold inR; omega), ← Int64.ofInt_add, show ((k + 1 : Nat) : Int) = (k : Int) + 1 by omega, fsum_succ cs (by omega)]
theorem k_cut (ht : tn H n cs ps) (hn : 1 ≤ n ∧ n ≤ 256) (hc : ∀ e : Int, 0 ≤ e → e < 256 → 0 ≤ cs e ∧ cs e ≤ 256) : m_Cl scr 50 [.ref 18] H (some (vI (fcut cs n))) H := by
  obtain ⟨t1, t2, t3⟩ := id ht
  show m_Ev scr 50 0 [(0, .ref 18)] [] H _
  refine R_lconst 1 c_50_0 rfl ?_
  refine R_lstore_n 2 c_50_1 rfl ?_
  refine R_iconst 3 c_50_2 rfl ?_
  refine R_istore_n 4 c_50_3 rfl ?_
  refine m_forw 256 (fun i => [(0, .ref 18), (1, .long (lall cs i.toNat)), (3, vI i)]) (fun i => H) 0 rfl rfl (by omega) (fun i h0 hi ih => ?_) ?_
  · obtain ⟨k, rfl⟩ : ∃ k : Nat, i = (k : Int) := ⟨i.toNat, by omega⟩
    rw [show ((k : Int) + 1).toNat = k + 1 by omega] at ih
    rw [Int.toNat_natCast]
    refine R_iload_n 5 c_50_4 rfl rfl ?_
    refine R_sipush 8 c_50_5 rfl (by decide) ?_
    refine R_br 11 30 _ (cmp_ge (by unfold inR; omega) (by unfold inR; omega)) c_50_8 rfl rfl (fun hn => absurd hn (by omega)) (fun _ => ?_)
    refine R_lload_n 12 c_50_11 rfl rfl ?_
    refine R_iload_n 13 c_50_12 rfl rfl ?_
    refine R_i2l 14 c_50_13 rfl ?_
    refine R_aload_n 15 c_50_14 rfl rfl ?_
    refine R_get 18 c_50_15 rfl (t1) rfl ?_
    refine R_iload_n 19 c_50_18 rfl rfl ?_
    refine R_iald 20 c_50_19 rfl (t2) (by omega) (by omega) (by decide) ?_
    refine R_i2l 21 c_50_20 rfl ?_
    refine R_lmul 22 c_50_21 rfl ?_
    refine R_ladd 23 c_50_22 rfl ?_
    refine R_lstore_n 24 c_50_23 rfl ?_
    refine R_iinc 27 c_50_24 rfl rfl ?_
    refine R_goto 4 c_50_27 rfl ?_
    exact ih
  · refine R_iload_n 5 c_50_4 rfl rfl ?_
    refine R_sipush 8 c_50_5 rfl (by decide) ?_
    refine R_br 11 30 _ (cmp_ge (by unfold inR; omega) (by unfold inR; omega)) c_50_8 rfl rfl (fun _ => ?_) (fun hn => absurd (by omega) hn)
    rw [show (256 : Int).toNat = 256 from rfl]
    refine R_lconst 31 c_50_30 rfl ?_
    refine R_lstore_n 32 c_50_31 rfl ?_
    refine R_lconst 33 c_50_32 rfl ?_
    refine R_lstore 35 c_50_33 rfl ?_
    refine R_ldc2_w 38 c_50_35 rfl ?_
    refine R_lstore 40 c_50_38 rfl ?_
    refine R_iconst 41 c_50_40 rfl ?_
    refine R_istore 43 c_50_41 rfl ?_
    refine R_iconst 44 c_50_43 rfl ?_
    refine R_istore 46 c_50_44 rfl ?_
    refine m_forw 256 (fun i => [(0, .ref 18), (1, .long (lall cs 256)), (3, .long (lcst cs n (i - 1).toNat).1), (5, .long (lcst cs n (i - 1).toNat).2.1), (7, .long (lcst cs n (i - 1).toNat).2.2.1), (9, vI (lcst cs n (i - 1).toNat).2.2.2), (10, vI i)]) (fun i => H) 1 rfl rfl (by omega) (fun i h0 hi ih => ?_) ?_
    · obtain ⟨k, rfl⟩ : ∃ k : Nat, i = (k : Int) + 1 := ⟨(i - 1).toNat, by omega⟩
      rw [show ((k : Int) + 1 + 1 - 1).toNat = k + 1 by omega] at ih
      rw [show ((k : Int) + 1 - 1).toNat = k by omega]
      have hck := hc (k : Int) (by omega) (by omega)
      have hkk : (k : Int) + 1 - 1 = (k : Int) := by omega
      have hbk := lcst_b cs n hc (k + 1) (by omega)
      have hfs := fsum_bd hc (k : Int) (by omega) (by omega)
      have hl : lcst cs n (k + 1) = (if (lcst cs n k).1 + (iI (cs (k : Int))).toInt64 > 0 ∧ (iI n).toInt64 - ((lcst cs n k).1 + (iI (cs (k : Int))).toInt64) > 0 then _ else _) := rfl
      have hb1 : (lcst cs n (k + 1)).1 = (lcst cs n k).1 + (iI (cs (k : Int))).toInt64 := by
        rw [hl]
        split
        · split <;> rfl
        · rfl
      have hbb : (lcst cs n k).1 + (iI (cs (k : Int))).toInt64 = Int64.ofInt (fsum cs ((k + 1 : Nat) : Int)) := by rw [← hb1, hbk]
      have hfs2 : fsum cs ((k + 1 : Nat) : Int) = fsum cs (k : Int) + cs (k : Int) := by rw [show ((k + 1 : Nat) : Int) = (k : Int) + 1 by omega, fsum_succ cs (by omega)]
      rw [hl] at ih
      refine R_iload 48 c_50_46 rfl rfl ?_
      refine R_sipush 51 c_50_48 rfl (by decide) ?_
      refine R_br 54 158 _ (cmp_ge (by unfold inR; omega) (by unfold inR; omega)) c_50_51 rfl rfl (fun hn => absurd hn (by omega)) (fun _ => ?_)
      refine R_lload_n 55 c_50_54 rfl rfl ?_
      refine R_aload_n 56 c_50_55 rfl rfl ?_
      refine R_get 59 c_50_56 rfl (t1) rfl ?_
      refine R_iload 61 c_50_59 rfl rfl ?_
      refine R_iconst 62 c_50_61 rfl ?_
      refine R_isub 63 c_50_62 rfl ?_
      rw [hkk]
      refine R_iald 64 c_50_63 rfl (t2) (by omega) (by omega) (by decide) ?_
      refine R_i2l 65 c_50_64 rfl ?_
      refine R_ladd 66 c_50_65 rfl ?_
      refine R_lstore_n 67 c_50_66 rfl ?_
      refine R_lload 69 c_50_67 rfl rfl ?_
      refine R_iload 71 c_50_69 rfl rfl ?_
      refine R_iconst 72 c_50_71 rfl ?_
      refine R_isub 73 c_50_72 rfl ?_
      rw [hkk]
      refine R_i2l 74 c_50_73 rfl ?_
      refine R_aload_n 75 c_50_74 rfl rfl ?_
      refine R_get 78 c_50_75 rfl (t1) rfl ?_
      refine R_iload 80 c_50_78 rfl rfl ?_
      refine R_iconst 81 c_50_80 rfl ?_
      refine R_isub 82 c_50_81 rfl ?_
      rw [hkk]
      refine R_iald 83 c_50_82 rfl (t2) (by omega) (by omega) (by decide) ?_
      refine R_i2l 84 c_50_83 rfl ?_
      refine R_lmul 85 c_50_84 rfl ?_
      refine R_ladd 86 c_50_85 rfl ?_
      refine R_lstore 88 c_50_86 rfl ?_
      refine R_aload_n 89 c_50_88 rfl rfl ?_
      refine R_get 92 c_50_89 rfl (t1) rfl ?_
      refine R_i2l 93 c_50_92 rfl ?_
      refine R_lload_n 94 c_50_93 rfl rfl ?_
      refine R_lsub 95 c_50_94 rfl ?_
      refine R_lstore 97 c_50_95 rfl ?_
      generalize hB : (lcst cs n k).1 + (iI (cs (k : Int))).toInt64 = B at *
      generalize hSx : (lcst cs n k).2.1 + (iI (k : Int)).toInt64 * (iI (cs (k : Int))).toInt64 = Sx at *
      generalize hRx : (iI n).toInt64 - B = Rx at *
      refine m_nrm [(0, .ref 18), (1, .long (lall cs 256)), (3, .long B), (5, .long Sx), (7, .long (lcst cs n k).2.2.1), (9, vI (lcst cs n k).2.2.2), (10, vI ((k : Int) + 1)), (11, .long Rx)] rfl ?_
      refine R_lload_n 98 c_50_97 rfl rfl ?_
      refine R_lconst 99 c_50_98 rfl ?_
      refine R_lcmp 100 c_50_99 rfl ?_
      refine R_lle 103 152 c_50_100 rfl rfl (fun hb => ?_) (fun hb => ?_)
      · rw [if_neg (fun z => hb z.1)] at ih
        refine R_iinc 155 c_50_152 rfl rfl ?_
        refine R_goto 46 c_50_155 rfl ?_
        refine m_keep [0, 1, 3, 5, 7, 9, 10] rfl ?_
        exact ih
      · refine R_lload 105 c_50_103 rfl rfl ?_
        refine R_lconst 106 c_50_105 rfl ?_
        refine R_lcmp 107 c_50_106 rfl ?_
        refine R_lle 110 152 c_50_107 rfl rfl (fun hb2 => ?_) (fun hb2 => ?_)
        · rw [if_neg (fun z => hb2 z.2)] at ih
          refine R_iinc 155 c_50_152 rfl rfl ?_
          refine R_goto 46 c_50_155 rfl ?_
          refine m_keep [0, 1, 3, 5, 7, 9, 10] rfl ?_
          exact ih
        · have hr : Rx = Int64.ofInt (n - fsum cs ((k + 1 : Nat) : Int)) := by
            rw [← hRx, hbb, iI_l (by unfold inR; omega), ← Int64.ofInt_sub]
          have hp1 : fsum cs ((k + 1 : Nat) : Int) > 0 := by
            have := hb
            rw [show Int64.ofNat ((0 : Fin 2) : Nat) = 0 from rfl, hbb] at this
            exact (lI_pos (by omega) (by omega)).mp this
          have hp2 : n - fsum cs ((k + 1 : Nat) : Int) > 0 := by
            have := hb2
            rw [show Int64.ofNat ((0 : Fin 2) : Nat) = 0 from rfl, hr] at this
            exact (lI_pos (by omega) (by omega)).mp this
          have hne : ¬ B * Rx = 0 := by
            rw [hr, hbb, ← Int64.ofInt_mul]
            have h1 : 1 * 1 ≤ fsum cs ((k + 1 : Nat) : Int) * (n - fsum cs ((k + 1 : Nat) : Int)) := Int.mul_le_mul (by omega) (by omega) (by omega) (by omega)
            have h2 : fsum cs ((k + 1 : Nat) : Int) * (n - fsum cs ((k + 1 : Nat) : Int)) ≤ 256 * 256 := Int.mul_le_mul (by omega) (by omega) (by omega) (by omega)
            intro z
            have := (lI_pos (e := fsum cs ((k + 1 : Nat) : Int) * (n - fsum cs ((k + 1 : Nat) : Int))) (by omega) (by omega)).mpr (by omega)
            rw [z] at this
            exact absurd this (by decide)
          rw [if_pos ⟨hb, hb2⟩] at ih
          refine R_lload 112 c_50_110 rfl rfl ?_
          refine R_lload 114 c_50_112 rfl rfl ?_
          refine R_lmul 115 c_50_114 rfl ?_
          refine R_lload_n 116 c_50_115 rfl rfl ?_
          refine R_lload 118 c_50_116 rfl rfl ?_
          refine R_lsub 119 c_50_118 rfl ?_
          refine R_lload_n 120 c_50_119 rfl rfl ?_
          refine R_lmul 121 c_50_120 rfl ?_
          refine R_lsub 122 c_50_121 rfl ?_
          refine R_lstore 124 c_50_122 rfl ?_
          generalize hA : Sx * Rx - (lall cs 256 - Sx) * B = Ax at *
          refine m_nrm [(0, .ref 18), (1, .long (lall cs 256)), (3, .long B), (5, .long Sx), (7, .long (lcst cs n k).2.2.1), (9, vI (lcst cs n k).2.2.2), (10, vI ((k : Int) + 1)), (11, .long Rx), (13, .long Ax)] rfl ?_
          refine R_lload 126 c_50_124 rfl rfl ?_
          refine R_lload 128 c_50_126 rfl rfl ?_
          refine R_lmul 129 c_50_128 rfl ?_
          refine R_lload_n 130 c_50_129 rfl rfl ?_
          refine R_lload 132 c_50_130 rfl rfl ?_
          refine R_lmul 133 c_50_132 rfl ?_
          refine R_ldiv 134 c_50_133 rfl (hne) ?_
          refine R_lstore 136 c_50_134 rfl ?_
          generalize hG : Ax * Ax / (B * Rx) = Gx at *
          refine m_nrm [(0, .ref 18), (1, .long (lall cs 256)), (3, .long B), (5, .long Sx), (7, .long (lcst cs n k).2.2.1), (9, vI (lcst cs n k).2.2.2), (10, vI ((k : Int) + 1)), (11, .long Rx), (13, .long Ax), (15, .long Gx)] rfl ?_
          refine R_lload 138 c_50_136 rfl rfl ?_
          refine R_lload 140 c_50_138 rfl rfl ?_
          refine R_lcmp 141 c_50_140 rfl ?_
          refine R_lle 144 152 c_50_141 rfl rfl (fun hb3 => ?_) (fun hb3 => ?_)
          · rw [if_neg hb3] at ih
            refine R_iinc 155 c_50_152 rfl rfl ?_
            refine R_goto 46 c_50_155 rfl ?_
            refine m_keep [0, 1, 3, 5, 7, 9, 10] rfl ?_
            exact ih
          · rw [if_pos hb3] at ih
            refine R_lload 146 c_50_144 rfl rfl ?_
            refine R_lstore 148 c_50_146 rfl ?_
            refine R_iload 150 c_50_148 rfl rfl ?_
            refine R_istore 152 c_50_150 rfl ?_
            refine R_iinc 155 c_50_152 rfl rfl ?_
            refine R_goto 46 c_50_155 rfl ?_
            refine m_keep [0, 1, 3, 5, 7, 9, 10] rfl ?_
            exact ih
    · refine R_iload 48 c_50_46 rfl rfl ?_
      refine R_sipush 51 c_50_48 rfl (by decide) ?_
      refine R_br 54 158 _ (cmp_ge (by unfold inR; omega) (by unfold inR; omega)) c_50_51 rfl rfl (fun _ => ?_) (fun hn => absurd (by omega) hn)
      refine R_iload 160 c_50_158 rfl rfl ?_
      exact R_ireturn c_50_160 rfl rfl
end TONES
