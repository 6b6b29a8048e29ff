/-! far -/
def dst (way dx dy : Int) : Int := if way = 0 then (dx.natAbs : Int) + (dy.natAbs : Int) else if way = 1 then max (dx.natAbs : Int) (dy.natAbs : Int) else dx * dx + dy * dy
/-- the least distance to a FIELD that is not on, as it is found over the first n FIELDS; 0: none -/
def gfar (w way x y : Int) (f : Int → Int) : Nat → Int
  | 0 => 0
  | n + 1 => if f (n : Int) < 128 then (if gfar w way x y f n = 0 then dst way ((n : Int) % w - x) ((n : Int) / w - y) else min (gfar w way x y f n) (dst way ((n : Int) % w - x) ((n : Int) / w - y))) else gfar w way x y f n
def mfar (w way x y : Int) (f : Int → Int) (n : Int) : Int := gfar w way x y f n.toNat
theorem mfar_succ (w way x y : Int) (f : Int → Int) {n : Int} (h : 0 ≤ n) : mfar w way x y f (n + 1) = if f n < 128 then (if mfar w way x y f n = 0 then dst way (n % w - x) (n / w - y) else min (mfar w way x y f n) (dst way (n % w - x) (n / w - y))) else mfar w way x y f n := by
  unfold mfar
  rw [show (n + 1).toNat = n.toNat + 1 by omega]
  show (if f ((n.toNat : Nat) : Int) < 128 then _ else _) = _
  rw [show ((n.toNat : Nat) : Int) = n by omega]
def ffar (w h : Int) (f : Int → Int) (way x y : Int) : Int := if f (y * w + x) < 128 then 0 else if 0 < mfar w way x y f (w * h) then mfar w way x y f (w * h) else dst way (min (min (x + 1) (w - x)) (min (y + 1) (h - y))) 0
section MAIN7
variable {scr : List Int32} {H : List mC} {w h : Nat → Int} {f : Nat → Int → Int} {k k2 : Nat}
theorem dst_bd {way dx dy : Int} (h1 : -16 ≤ dx ∧ dx ≤ 16) (h2 : -16 ≤ dy ∧ dy ≤ 16) : 0 ≤ dst way dx dy ∧ dst way dx dy ≤ 512 := by
  have a1 : 0 ≤ dx * dx ∧ dx * dx ≤ 256 := by
    have := m_mulb (a := dx) (b := (dx.natAbs : Int)) (A := 16) (B := 16) ⟨by omega, by omega⟩ ⟨by omega, by omega⟩ (by omega)
    have e : dx * dx = (dx.natAbs : Int) * (dx.natAbs : Int) := by rw [← Int.natCast_mul, Int.natAbs_mul_self]
    have := Int.mul_nonneg (show 0 ≤ (dx.natAbs : Int) by omega) (show 0 ≤ (dx.natAbs : Int) by omega)
    have := Int.mul_le_mul (show (dx.natAbs : Int) ≤ 16 by omega) (show (dx.natAbs : Int) ≤ 16 by omega) (by omega) (by omega)
    omega
  have a2 : 0 ≤ dy * dy ∧ dy * dy ≤ 256 := by
    have e : dy * dy = (dy.natAbs : Int) * (dy.natAbs : Int) := by rw [← Int.natCast_mul, Int.natAbs_mul_self]
    have := Int.mul_nonneg (show 0 ≤ (dy.natAbs : Int) by omega) (show 0 ≤ (dy.natAbs : Int) by omega)
    have := Int.mul_le_mul (show (dy.natAbs : Int) ≤ 16 by omega) (show (dy.natAbs : Int) ≤ 16 by omega) (by omega) (by omega)
    omega
  unfold dst
  split
  · omega
  · split <;> omega
theorem k_distance {way dx dy : Int} (hh : 0 ≤ way ∧ way ≤ 2) (h1 : -16 ≤ dx ∧ dx ≤ 16) (h2 : -16 ≤ dy ∧ dy ≤ 16) : m_Cl scr 94 [vI way, vI dx, vI dy] H (some (vI (dst way dx dy))) H := by
  show m_Ev scr 94 0 [(0, vI way), (1, vI dx), (2, vI dy)] [] H _
  refine R_iload_n 1 c_94_0 rfl rfl ?_
  rcases (show way = 0 ∨ way = 1 ∨ way = 2 by omega) with rfl | rfl | rfl
  · refine R_lsw 28 c_94_1 rfl ?_
    refine R_iload_n 29 c_94_28 rfl rfl ?_
    refine R_abs 32 c_94_29 rfl (by unfold inR; omega) (Nat.le_of_ble_eq_true rfl) ?_
    refine R_iload_n 33 c_94_32 rfl rfl ?_
    refine R_abs 36 c_94_33 rfl (by unfold inR; omega) (Nat.le_of_ble_eq_true rfl) ?_
    refine R_iadd 37 c_94_36 rfl ?_
    exact R_ireturn c_94_37 rfl rfl
  · refine R_lsw 38 c_94_1 rfl ?_
    refine R_iload_n 39 c_94_38 rfl rfl ?_
    refine R_abs 42 c_94_39 rfl (by unfold inR; omega) (Nat.le_of_ble_eq_true rfl) ?_
    refine R_iload_n 43 c_94_42 rfl rfl ?_
    refine R_abs 46 c_94_43 rfl (by unfold inR; omega) (Nat.le_of_ble_eq_true rfl) ?_
    refine R_max 49 c_94_46 rfl (by unfold inR; omega) (by unfold inR; omega) (Nat.le_of_ble_eq_true rfl) ?_
    exact R_ireturn c_94_49 rfl rfl
  · refine R_lsw 50 c_94_1 rfl ?_
    refine R_iload_n 51 c_94_50 rfl rfl ?_
    refine R_iload_n 52 c_94_51 rfl rfl ?_
    refine R_imul 53 c_94_52 rfl ?_
    refine R_iload_n 54 c_94_53 rfl rfl ?_
    refine R_iload_n 55 c_94_54 rfl rfl ?_
    refine R_imul 56 c_94_55 rfl ?_
    refine R_iadd 57 c_94_56 rfl ?_
    exact R_ireturn c_94_57 rfl rfl
theorem mfar_bd {w h way x y : Int} {f : Int → Int} (hd : 1 ≤ w ∧ w ≤ 16 ∧ 1 ≤ h ∧ h ≤ 16) (hx : 0 ≤ x ∧ x < w) (hy : 0 ≤ y ∧ y < h) : ∀ n : Nat, (n : Int) ≤ w * h → 0 ≤ gfar w way x y f n ∧ gfar w way x y f n ≤ 512
  | 0, _ => by unfold gfar; omega
  | n + 1, hn => by
    have ih := mfar_bd hd hx hy (way := way) (f := f) n (by omega)
    have g := inG_xy (w := w) (h := h) (e := (n : Int)) hd.1 ⟨by omega, by omega⟩
    have b := dst_bd (way := way) (dx := (n : Int) % w - x) (dy := (n : Int) / w - y) (by omega) (by omega)
    unfold gfar
    split
    · split <;> omega
    · exact ih
set_option maxHeartbeats 4000000 in
theorem k_farWithin {s v : Nat} {w h way x y : Int} {f : Int → Int} (hs : sh H s v w h f) (hf : vok f) (hh : 0 ≤ way ∧ way ≤ 2) (hx : 0 ≤ x ∧ x < w) (hy : 0 ≤ y ∧ y < h) :
    m_Cl scr 92 [.ref s, vI way, vI x, vI y] H (some (vI (mfar w way x y f (w * h)))) H := by
  have hd := hs.2.2.2
  obtain ⟨h1, h2, h3, h4⟩ := id hd
  have hb : ∀ n, 0 ≤ n → n ≤ w * h → 0 ≤ mfar w way x y f n ∧ mfar w way x y f n ≤ 512 := fun n n0 n1 => mfar_bd hd hx hy n.toNat (by omega)
  show m_Ev scr 92 0 [(0, .ref s), (1, vI way), (2, vI x), (3, vI y)] [] H _
  refine m_gen (fun X hX => ?_)
  refine R_iconst 1 c_92_0 rfl ?_
  refine R_istore 3 c_92_1 rfl ?_
  refine R_iconst 4 c_92_3 rfl ?_
  refine R_istore 6 c_92_4 rfl ?_
  refine m_forP h (fun b L H2 => (L.filter (fun q => [0, 1, 2, 3, 4, 5].contains q.1) = [(0, .ref s), (1, vI way), (2, vI x), (3, vI y), (4, vI (mfar w way x y f (b * w))), (5, vI b)] ∧ m_ku L = true) ∧ H2 = H) 0 ⟨⟨by rw [Int.zero_mul]; rfl, rfl⟩, rfl⟩ (by omega) ?_ ?_
  · rintro b L2 H2 b0 b1 ⟨⟨hL2, hu2⟩, rfl⟩ ih
    refine m_keep [0, 1, 2, 3, 4, 5] hu2 ?_
    rw [hL2]
    refine R_iload 8 c_92_6 rfl rfl ?_
    refine R_aload_n 9 c_92_8 rfl rfl ?_
    refine R_get 12 c_92_9 rfl (hs.1) rfl ?_
    refine R_br 15 86 _ (cmp_ge (by unfold inR; omega) (by unfold inR; omega)) c_92_12 rfl rfl (fun hn => absurd hn (by omega)) (fun _ => ?_)
    refine R_iconst 16 c_92_15 rfl ?_
    refine R_istore 18 c_92_16 rfl ?_
    refine m_forP w (fun a L H3 => (L.filter (fun q => [0, 1, 2, 3, 4, 5, 6].contains q.1) = [(0, .ref s), (1, vI way), (2, vI x), (3, vI y), (4, vI (mfar w way x y f (b * w + a))), (5, vI b), (6, vI a)] ∧ m_ku L = true) ∧ H3 = H2) 0 ⟨⟨by rw [Int.add_zero]; rfl, rfl⟩, rfl⟩ (by omega) ?_ ?_
    · rintro a L3 H3 a0 a1 ⟨⟨hL3, hu3⟩, rfl⟩ ih2
      refine m_keep [0, 1, 2, 3, 4, 5, 6] hu3 ?_
      rw [hL3]
      have hi := m_idx a0 a1 b0 b1
      have hem := m_em (y := b) a0 a1
      have hn := fnear_ok hf h1 h2 h3 h4 a b
      have hfn : fnear w h f a b = f (b * w + a) := by unfold fnear; rw [show max 0 (min b (h - 1)) = b by omega, show max 0 (min a (w - 1)) = a by omega]
      have hm := hb (b * w + a) hi.1 (by omega)
      have hs1 := mfar_succ w way x y f hi.1
      have hdb := dst_bd (way := way) (dx := a - x) (dy := b - y) (by omega) (by omega)
      rw [hem.1, hem.2, ← hfn] at hs1
      refine R_iload 20 c_92_18 rfl rfl ?_
      refine R_aload_n 21 c_92_20 rfl rfl ?_
      refine R_get 24 c_92_21 rfl (hs.1) rfl ?_
      refine R_br 27 80 _ (cmp_ge (by unfold inR; omega) (by unfold inR; omega)) c_92_24 rfl rfl (fun hn => absurd hn (by omega)) (fun _ => ?_)
      refine R_aload_n 28 c_92_27 rfl rfl ?_
      refine R_iload 30 c_92_28 rfl rfl ?_
      refine R_iload 32 c_92_30 rfl rfl ?_
      refine R_callV 35 c_92_32 rfl rfl rfl rfl (Nat.le_of_ble_eq_true rfl) (Nat.le_of_ble_eq_true rfl) (hs.1) (k_near hs (by unfold inR; omega) (by unfold inR; omega)) ?_
      refine R_sipush 38 c_92_35 rfl (by decide) ?_
      refine R_br 41 74 _ (cmp_ge (by unfold inR; omega) (by unfold inR; omega)) c_92_38 rfl rfl (fun hb => ?_) (fun hb => ?_)
      · rw [if_neg (by omega)] at hs1
        refine R_iinc 77 c_92_74 rfl rfl ?_
        refine R_goto 18 c_92_77 rfl ?_
        refine ih2 _ _ ⟨⟨?_, rfl⟩, rfl⟩
        rw [← Int.add_assoc, hs1]
        rfl
      · rw [if_pos (by omega)] at hs1
        refine R_iload_n 42 c_92_41 rfl rfl ?_
        refine R_iload 44 c_92_42 rfl rfl ?_
        refine R_iload_n 45 c_92_44 rfl rfl ?_
        refine R_isub 46 c_92_45 rfl ?_
        refine R_iload 48 c_92_46 rfl rfl ?_
        refine R_iload_n 49 c_92_48 rfl rfl ?_
        refine R_isub 50 c_92_49 rfl ?_
        refine R_callS 53 c_92_50 rfl rfl (Nat.le_of_ble_eq_true rfl) (k_distance hh (by omega) (by omega)) ?_
        refine R_istore 55 c_92_53 rfl ?_
        refine R_iload 57 c_92_55 rfl rfl ?_
        refine R_brz 60 65 _ (cmp_ne (by unfold inR; omega) inR_0) c_92_57 rfl rfl (fun hb => ?_) (fun hb => ?_)
        · rw [if_neg (by omega)] at hs1
          refine R_iload 67 c_92_65 rfl rfl ?_
          refine R_iload 69 c_92_67 rfl rfl ?_
          refine R_min 72 c_92_69 rfl (by unfold inR; omega) (by unfold inR; omega) (Nat.le_of_ble_eq_true rfl) ?_
          refine R_istore 74 c_92_72 rfl ?_
          refine R_iinc 77 c_92_74 rfl rfl ?_
          refine R_goto 18 c_92_77 rfl ?_
          refine ih2 _ _ ⟨⟨?_, rfl⟩, rfl⟩
          rw [← Int.add_assoc, hs1]
          rfl
        · rw [if_pos (by omega)] at hs1
          refine R_iload 62 c_92_60 rfl rfl ?_
          refine R_goto 72 c_92_62 rfl ?_
          refine R_istore 74 c_92_72 rfl ?_
          refine R_iinc 77 c_92_74 rfl rfl ?_
          refine R_goto 18 c_92_77 rfl ?_
          refine ih2 _ _ ⟨⟨?_, rfl⟩, rfl⟩
          rw [← Int.add_assoc, hs1]
          rfl
    · rintro L3 H3 ⟨⟨hL3, hu3⟩, rfl⟩
      refine m_keep [0, 1, 2, 3, 4, 5, 6] hu3 ?_
      rw [hL3]
      refine R_iload 20 c_92_18 rfl rfl ?_
      refine R_aload_n 21 c_92_20 rfl rfl ?_
      refine R_get 24 c_92_21 rfl (hs.1) rfl ?_
      refine R_br 27 80 _ (cmp_ge (by unfold inR; omega) (by unfold inR; omega)) c_92_24 rfl rfl (fun _ => ?_) (fun hn => absurd (by omega) hn)
      refine R_iinc 83 c_92_80 rfl rfl ?_
      refine R_goto 6 c_92_83 rfl ?_
      refine ih _ _ ⟨⟨?_, rfl⟩, rfl⟩
      rw [Int.add_mul, Int.one_mul]
      rfl
  · rintro L2 H2 ⟨⟨hL2, hu2⟩, rfl⟩
    refine m_keep [0, 1, 2, 3, 4, 5] hu2 ?_
    rw [hL2]
    refine R_iload 8 c_92_6 rfl rfl ?_
    refine R_aload_n 9 c_92_8 rfl rfl ?_
    refine R_get 12 c_92_9 rfl (hs.1) rfl ?_
    refine R_br 15 86 _ (cmp_ge (by unfold inR; omega) (by unfold inR; omega)) c_92_12 rfl rfl (fun _ => ?_) (fun hn => absurd (by omega) hn)
    refine R_iload 88 c_92_86 rfl rfl ?_
    refine R_ireturn c_92_88 rfl ?_
    rw [Int.mul_comm]
    exact hX _ _ rfl
theorem k_farToOutside {s v : Nat} {w h way x y : Int} {f : Int → Int} (hs : sh H s v w h f) (hh : 0 ≤ way ∧ way ≤ 2) (hx : 0 ≤ x ∧ x < w) (hy : 0 ≤ y ∧ y < h) :
    m_Cl scr 93 [.ref s, vI way, vI x, vI y] H (some (vI (dst way (min (min (x + 1) (w - x)) (min (y + 1) (h - y))) 0))) H := by
  obtain ⟨h1, h2, h3, h4⟩ := hs.2.2.2
  show m_Ev scr 93 0 [(0, .ref s), (1, vI way), (2, vI x), (3, vI y)] [] H _
  refine R_iload_n 1 c_93_0 rfl rfl ?_
  refine R_iconst 2 c_93_1 rfl ?_
  refine R_iadd 3 c_93_2 rfl ?_
  refine R_aload_n 4 c_93_3 rfl rfl ?_
  refine R_get 7 c_93_4 rfl (hs.1) rfl ?_
  refine R_iload_n 8 c_93_7 rfl rfl ?_
  refine R_isub 9 c_93_8 rfl ?_
  refine R_min 12 c_93_9 rfl (by unfold inR; omega) (by unfold inR; omega) (Nat.le_of_ble_eq_true rfl) ?_
  refine R_istore 14 c_93_12 rfl ?_
  refine R_iload_n 15 c_93_14 rfl rfl ?_
  refine R_iconst 16 c_93_15 rfl ?_
  refine R_iadd 17 c_93_16 rfl ?_
  refine R_aload_n 18 c_93_17 rfl rfl ?_
  refine R_get 21 c_93_18 rfl (hs.1) rfl ?_
  refine R_iload_n 22 c_93_21 rfl rfl ?_
  refine R_isub 23 c_93_22 rfl ?_
  refine R_min 26 c_93_23 rfl (by unfold inR; omega) (by unfold inR; omega) (Nat.le_of_ble_eq_true rfl) ?_
  refine R_istore 28 c_93_26 rfl ?_
  refine R_iload_n 29 c_93_28 rfl rfl ?_
  refine R_iload 31 c_93_29 rfl rfl ?_
  refine R_iload 33 c_93_31 rfl rfl ?_
  refine R_min 36 c_93_33 rfl (by unfold inR; omega) (by unfold inR; omega) (Nat.le_of_ble_eq_true rfl) ?_
  refine R_iconst 37 c_93_36 rfl ?_
  refine R_callS 40 c_93_37 rfl rfl (Nat.le_of_ble_eq_true rfl) (k_distance hh (by omega) (by omega)) ?_
  exact R_ireturn c_93_40 rfl rfl
theorem k_farOf {s v : Nat} {w h way x y : Int} {f : Int → Int} (hs : sh H s v w h f) (hf : vok f) (hh : 0 ≤ way ∧ way ≤ 2) (hx : 0 ≤ x ∧ x < w) (hy : 0 ≤ y ∧ y < h) :
    m_Cl scr 91 [.ref s, vI way, vI x, vI y] H (some (vI (ffar w h f way x y))) H := by
  have hd := hs.2.2.2
  obtain ⟨h1, h2, h3, h4⟩ := id hd
  have hfn : fnear w h f x y = f (y * w + x) := by unfold fnear; rw [show max 0 (min y (h - 1)) = y by omega, show max 0 (min x (w - 1)) = x by omega]
  have hn := fnear_ok hf h1 h2 h3 h4 x y
  have ha := m_area h1 h2 h3 h4
  have hmf : 0 ≤ mfar w way x y f (w * h) ∧ mfar w way x y f (w * h) ≤ 512 := mfar_bd hd hx hy (way := way) (f := f) (w * h).toNat (by omega)
  show m_Ev scr 91 0 [(0, .ref s), (1, vI way), (2, vI x), (3, vI y)] [] H _
  refine R_aload_n 1 c_91_0 rfl rfl ?_
  refine R_iload_n 2 c_91_1 rfl rfl ?_
  refine R_iload_n 3 c_91_2 rfl rfl ?_
  refine R_callV 6 c_91_3 rfl rfl rfl rfl (Nat.le_of_ble_eq_true rfl) (Nat.le_of_ble_eq_true rfl) (hs.1) (k_near hs (by unfold inR; omega) (by unfold inR; omega)) ?_
  refine R_sipush 9 c_91_6 rfl (by decide) ?_
  rw [hfn] at hn ⊢
  unfold ffar
  refine R_br 12 14 _ (cmp_ge (by unfold inR; omega) (by unfold inR; omega)) c_91_9 rfl rfl (fun hb => ?_) (fun hb => ?_)
  · rw [if_neg (by omega)]
    refine R_aload_n 15 c_91_14 rfl rfl ?_
    refine R_iload_n 16 c_91_15 rfl rfl ?_
    refine R_iload_n 17 c_91_16 rfl rfl ?_
    refine R_iload_n 18 c_91_17 rfl rfl ?_
    refine R_callS 21 c_91_18 rfl rfl (Nat.le_of_ble_eq_true rfl) (k_farWithin hs hf hh hx hy) ?_
    refine R_istore 23 c_91_21 rfl ?_
    refine R_iload 25 c_91_23 rfl rfl ?_
    refine R_brz 28 33 _ (cmp_le (by unfold inR; omega) inR_0) c_91_25 rfl rfl (fun hb => ?_) (fun hb => ?_)
    · rw [if_neg (by omega)]
      refine R_aload_n 34 c_91_33 rfl rfl ?_
      refine R_iload_n 35 c_91_34 rfl rfl ?_
      refine R_iload_n 36 c_91_35 rfl rfl ?_
      refine R_iload_n 37 c_91_36 rfl rfl ?_
      refine R_callS 40 c_91_37 rfl rfl (Nat.le_of_ble_eq_true rfl) (k_farToOutside hs hh hx hy) ?_
      exact R_ireturn c_91_40 rfl rfl
    · rw [if_pos (by omega)]
      refine R_iload 30 c_91_28 rfl rfl ?_
      refine R_goto 40 c_91_30 rfl ?_
      exact R_ireturn c_91_40 rfl rfl
  · rw [if_pos (by omega)]
    refine R_iconst 13 c_91_12 rfl ?_
    exact R_ireturn c_91_13 rfl rfl
theorem k_far {way x y : Int} (hw : wd H w h f) (hk : k < 4) (hh : 0 ≤ way ∧ way ≤ 2) (hx : 0 ≤ x ∧ x < w k) (hy : 0 ≤ y ∧ y < h k) :
    m_Cl scr 69 [.ref 1, vI k, vI way, vI x, vI y] H (some (vI (ffar (w k) (h k) (f k) way x y))) H := by
  obtain ⟨hsk, hvk⟩ := hw.2.2.1 k hk
  show m_Ev scr 69 0 [(0, .ref 1), (1, vI k), (2, vI way), (3, vI x), (4, vI y)] [] H _
  refine R_aload_n 1 c_69_0 rfl rfl ?_
  refine R_iload_n 2 c_69_1 rfl rfl ?_
  refine R_callV 5 c_69_2 rfl rfl rfl rfl (Nat.le_of_ble_eq_true rfl) (Nat.le_of_ble_eq_true rfl) (hw.1) (k_sheetAt hw hk) ?_
  refine R_astore 7 c_69_5 rfl ?_
  refine R_aload 9 c_69_7 rfl rfl ?_
  refine R_iload_n 10 c_69_9 rfl rfl ?_
  refine R_iload 12 c_69_10 rfl rfl ?_
  refine R_callS 15 c_69_12 rfl rfl (Nat.le_of_ble_eq_true rfl) (k_needFieldT hsk hx hy) ?_
  refine R_iconst 16 c_69_15 rfl ?_
  refine R_iload_n 17 c_69_16 rfl rfl ?_
  refine R_iconst 18 c_69_17 rfl ?_
  refine R_callS 21 c_69_18 rfl rfl (Nat.le_of_ble_eq_true rfl) (k_isFromT inR_0 (by unfold inR; omega) (by unfold inR; omega) hh) ?_
  refine R_callS 24 c_69_21 rfl rfl (Nat.le_of_ble_eq_true rfl) (k_refuse1) ?_
  refine R_aload 26 c_69_24 rfl rfl ?_
  refine R_iload_n 27 c_69_26 rfl rfl ?_
  refine R_iload_n 28 c_69_27 rfl rfl ?_
  refine R_iload 30 c_69_28 rfl rfl ?_
  refine R_callS 33 c_69_30 rfl rfl (Nat.le_of_ble_eq_true rfl) (k_farOf hsk hvk hh hx hy) ?_
  exact R_ireturn c_69_33 rfl rfl
end MAIN7
/-! seams of the world -/
theorem fcost_congr {w h : Int} {f g : Int → Int} (h1 : 1 ≤ w) (h2 : 1 ≤ h) (he : ∀ e : Int, 0 ≤ e → e < w * h → f e = g e) : fcost w h f = fcost w h g := by
  funext x y
  unfold fcost
  rw [fnear_congr h1 h2 he, fnear_congr h1 h2 he, fnear_congr h1 h2 he, fnear_congr h1 h2 he]
theorem rowS_congr {w h : Int} {f g : Int → Int} (he : fcost w h f = fcost w h g) : ∀ n : Nat, rowS w h f n = rowS w h g n
  | 0 => by funext x; unfold rowS; rw [he]
  | n + 1 => by funext x; unfold rowS; rw [he, rowS_congr he n]
theorem colD_congr {w h : Int} {f g : Int → Int} (he : fcost w h f = fcost w h g) : ∀ n : Nat, colD w h f n = colD w h g n
  | 0 => by unfold colD; rw [rowS_congr he]
  | n + 1 => by unfold colD; rw [rowS_congr he, colD_congr he n]
theorem ftot_congr {w h : Int} {f g : Int → Int} (h1 : 1 ≤ w) (h2 : 1 ≤ h) (he : ∀ e : Int, 0 ≤ e → e < w * h → f e = g e) : ftot w h f = ftot w h g := by
  have hc := fcost_congr h1 h2 he
  unfold ftot fcol
  rw [rowS_congr hc, colD_congr hc]
theorem SC_ss {S : List Nat} {H H1 : List mC} (h : SC H) (he : eqo S H H1) (hS : ∀ q ∈ S, 26 ≤ q ∧ q ≤ 28) (hx : ss H1) : SC H1 := by
  have hn : ∀ q, q < 26 ∨ 28 < q → q ∉ S := fun q hq hm => by have := hS q hm; omega
  exact h.mk' he (.inl ⟨hn _ (by omega), hn _ (by omega)⟩) (.inl ⟨hn _ (by omega), hn _ (by omega)⟩) (.inl ⟨hn _ (by omega), hn _ (by omega)⟩) (.inl ⟨hn _ (by omega), hn _ (by omega), hn _ (by omega)⟩) (.inl ⟨hn _ (by omega), hn _ (by omega), hn _ (by omega), hn _ (by omega), hn _ (by omega)⟩) (.inr hx) (.inl ⟨hn _ (by omega), hn _ (by omega)⟩)
section MAIN8
variable {scr : List Int32} {H : List mC} {w h : Nat → Int} {f : Nat → Int → Int} {k k2 : Nat}
theorem k_seam {y : Int} (hw : wd H w h f) (hk : k < 4) (hy : 0 ≤ y ∧ y < h k) :
    m_CP scr 72 [.ref 1, vI k, vI y] H (fun v1 H1 => v1 = some (vI (fcol (w k) (h k) (f k) y)) ∧ wd H1 w h f) := by
  obtain ⟨hsk, hvk⟩ := hw.2.2.1 k hk
  have hd := hsk.2.2.2
  obtain ⟨tt, cl, sm, hp⟩ := hw.2.2.2.2.2.2.2.2.1
  obtain ⟨v1, H1, hc1, rfl, q1, cl1, sm1, p1, hq1⟩ := k_sfind (scr := scr) hp hsk hvk (by simp; omega) (by simp; omega)
  have o1 := (q1 1 (by decide)).trans hw.1
  refine m_CP.of ?_
  show m_Ev scr 72 0 [(0, .ref 1), (1, vI k), (2, vI y)] [] H _
  refine R_aload_n 1 c_72_0 rfl rfl ?_
  refine R_iload_n 2 c_72_1 rfl rfl ?_
  refine R_callV 5 c_72_2 rfl rfl rfl rfl (Nat.le_of_ble_eq_true rfl) (Nat.le_of_ble_eq_true rfl) (hw.1) (k_sheetAt hw hk) ?_
  refine R_astore_n 6 c_72_5 rfl ?_
  refine R_iconst 7 c_72_6 rfl ?_
  refine R_iload_n 8 c_72_7 rfl rfl ?_
  refine R_aload_n 9 c_72_8 rfl rfl ?_
  refine R_get 12 c_72_9 rfl (hsk.1) rfl ?_
  refine R_iconst 13 c_72_12 rfl ?_
  refine R_isub 14 c_72_13 rfl ?_
  refine R_callS 17 c_72_14 rfl rfl (Nat.le_of_ble_eq_true rfl) (k_isFromT inR_0 (by unfold inR; omega) (by unfold inR; omega) ⟨by omega, by omega⟩) ?_
  refine R_callS 20 c_72_17 rfl rfl (Nat.le_of_ble_eq_true rfl) (k_needPlace1) ?_
  refine R_aload_n 21 c_72_20 rfl rfl ?_
  refine R_get 24 c_72_21 rfl (hw.1) rfl ?_
  refine R_aload_n 25 c_72_24 rfl rfl ?_
  refine R_callV 28 c_72_25 rfl rfl rfl rfl (Nat.le_of_ble_eq_true rfl) (Nat.le_of_ble_eq_true rfl) (hp.1) (hc1) ?_
  refine R_aload_n 29 c_72_28 rfl rfl ?_
  refine R_get 32 c_72_29 rfl (o1) rfl ?_
  refine R_get 35 c_72_32 rfl (p1.1) rfl ?_
  refine R_iload_n 36 c_72_35 rfl rfl ?_
  refine R_iald 37 c_72_36 rfl (p1.2.1) (by omega) (by omega) (by decide) ?_
  refine R_ireturn c_72_37 rfl ?_
  exact ⟨by rw [hq1 y hy.1 hy.2], wd_sc hw q1 (by unfold offS; decide) (SC_ss hw.2.2.2 q1 (by decide) ⟨_, _, _, p1⟩)⟩
theorem k_carve (hw : wd H w h f) (hk : k < 4) (h2w : 2 ≤ w k) :
    m_CP scr 70 [.ref 1, vI k] H (fun v1 H1 => v1 = some (vI (ftot (w k) (h k) (f k))) ∧ ∃ fn, wd H1 (m_nu w k (w k - 1)) h (m_nu f k fn)) := by
  obtain ⟨hsk, hvk⟩ := hw.2.2.1 k hk
  have hd := hsk.2.2.2
  obtain ⟨tt, cl, sm, hp⟩ := hw.2.2.2.2.2.2.2.2.1
  obtain ⟨wr, hr, fr, sr, hfr⟩ := hw.2.2.2.2.2.2.2.2.2
  obtain ⟨v1, H1, hc1, rfl, q1, cl1, sm1, p1, hq1⟩ := k_sfind (scr := scr) hp hsk hvk (by simp; omega) (by simp; omega)
  have o1 := (q1 1 (by decide)).trans hw.1
  have S1 := SC_ss hw.2.2.2 q1 (by decide) ⟨_, _, _, p1⟩
  have W1 := wd_sc hw q1 (by unfold offS; decide) S1
  have s1 := (W1.2.2.1 k hk).1
  obtain ⟨v2, H2, hc2, rfl, q2, ⟨fn, s2, hfn⟩, wr2, hr2, fr2, sr2, hfr2⟩ := k_takeOut (scr := scr) p1 s1 (sh_eqo q1 sr (by decide) (by decide)) hvk hfr h2w (fun y y0 y1 => by rw [hq1 y y0 y1]; exact fcol_bd hd.1 y) (by simp; omega) (by simp; omega)
  have o2 : m_O H2 := (q2 1 (by simp; omega)).trans o1
  have S2 : SC H2 := S1.mk' q2 (.inl (by simp; omega)) (.inl (by simp; omega)) (.inl (by simp; omega)) (.inl (by simp; omega)) (.inl (by simp; omega)) (.inl (by simp; omega)) (.inr ⟨_, _, _, sr2, hfr2⟩)
  have W2 := wd_set W1 q2 (fun q hq => by simp at hq; omega) s2 hfn S2
  rw [m_nu_self h k] at W2
  have g2 := (q2 26 (by simp; omega)).trans p1.1
  refine m_CP.of ?_
  show m_Ev scr 70 0 [(0, .ref 1), (1, vI k)] [] H _
  refine m_gen (fun X hX => ?_)
  refine R_aload_n 1 c_70_0 rfl rfl ?_
  refine R_iload_n 2 c_70_1 rfl rfl ?_
  refine R_callV 5 c_70_2 rfl rfl rfl rfl (Nat.le_of_ble_eq_true rfl) (Nat.le_of_ble_eq_true rfl) (hw.1) (k_sheetAt hw hk) ?_
  refine R_astore_n 6 c_70_5 rfl ?_
  refine R_aload_n 7 c_70_6 rfl rfl ?_
  refine R_get 10 c_70_7 rfl (hsk.1) rfl ?_
  refine R_iconst 11 c_70_10 rfl ?_
  refine R_br 14 18 _ (cmp_le (by unfold inR; omega) (by unfold inR; omega)) c_70_11 rfl rfl (fun hn => absurd hn (by omega)) (fun _ => ?_)
  refine R_iconst 15 c_70_14 rfl ?_
  refine R_goto 19 c_70_15 rfl ?_
  refine R_callS 22 c_70_19 rfl rfl (Nat.le_of_ble_eq_true rfl) (k_needState1) ?_
  refine R_aload_n 23 c_70_22 rfl rfl ?_
  refine R_get 26 c_70_23 rfl (hw.1) rfl ?_
  refine R_aload_n 27 c_70_26 rfl rfl ?_
  refine R_callV 30 c_70_27 rfl rfl rfl rfl (Nat.le_of_ble_eq_true rfl) (Nat.le_of_ble_eq_true rfl) (hp.1) (hc1) ?_
  refine R_aload_n 31 c_70_30 rfl rfl ?_
  refine R_get 34 c_70_31 rfl (o1) rfl ?_
  refine R_aload_n 35 c_70_34 rfl rfl ?_
  refine R_callV 38 c_70_35 rfl rfl rfl rfl (Nat.le_of_ble_eq_true rfl) (Nat.le_of_ble_eq_true rfl) (p1.1) (hc2) ?_
  refine R_aload_n 39 c_70_38 rfl rfl ?_
  refine R_get 42 c_70_39 rfl (o2) rfl ?_
  refine R_get 45 c_70_42 rfl (g2) rfl ?_
  refine R_ireturn c_70_45 rfl ?_
  exact hX _ _ ⟨rfl, fn, W2⟩
theorem k_widen (hw : wd H w h f) (hk : k < 4) (h2w : w k ≤ 15) :
    m_CP scr 71 [.ref 1, vI k] H (fun v1 H1 => v1 = some (vI (ftot (w k) (h k) (f k))) ∧ ∃ fn, wd H1 (m_nu w k (w k + 1)) h (m_nu f k fn)) := by
  obtain ⟨hsk, hvk⟩ := hw.2.2.1 k hk
  have hd := hsk.2.2.2
  obtain ⟨tt, cl, sm, hp⟩ := hw.2.2.2.2.2.2.2.2.1
  obtain ⟨wr, hr, fr, sr, hfr⟩ := hw.2.2.2.2.2.2.2.2.2
  obtain ⟨v1, H1, hc1, rfl, q1, cl1, sm1, p1, hq1⟩ := k_sfind (scr := scr) hp hsk hvk (by simp; omega) (by simp; omega)
  have o1 := (q1 1 (by decide)).trans hw.1
  have S1 := SC_ss hw.2.2.2 q1 (by decide) ⟨_, _, _, p1⟩
  have W1 := wd_sc hw q1 (by unfold offS; decide) S1
  have s1 := (W1.2.2.1 k hk).1
  obtain ⟨v2, H2, hc2, rfl, q2, ⟨fn, s2, hfn⟩, wr2, hr2, fr2, sr2, hfr2⟩ := k_putIn (scr := scr) p1 s1 (sh_eqo q1 sr (by decide) (by decide)) hvk hfr h2w (fun y y0 y1 => by rw [hq1 y y0 y1]; exact fcol_bd hd.1 y) (by simp; omega) (by simp; omega)
  have o2 : m_O H2 := (q2 1 (by simp; omega)).trans o1
  have S2 : SC H2 := S1.mk' q2 (.inl (by simp; omega)) (.inl (by simp; omega)) (.inl (by simp; omega)) (.inl (by simp; omega)) (.inl (by simp; omega)) (.inl (by simp; omega)) (.inr ⟨_, _, _, sr2, hfr2⟩)
  have W2 := wd_set W1 q2 (fun q hq => by simp at hq; omega) s2 hfn S2
  rw [m_nu_self h k] at W2
  have g2 := (q2 26 (by simp; omega)).trans p1.1
  refine m_CP.of ?_
  show m_Ev scr 71 0 [(0, .ref 1), (1, vI k)] [] H _
  refine m_gen (fun X hX => ?_)
  refine R_aload_n 1 c_71_0 rfl rfl ?_
  refine R_iload_n 2 c_71_1 rfl rfl ?_
  refine R_callV 5 c_71_2 rfl rfl rfl rfl (Nat.le_of_ble_eq_true rfl) (Nat.le_of_ble_eq_true rfl) (hw.1) (k_sheetAt hw hk) ?_
  refine R_astore_n 6 c_71_5 rfl ?_
  refine R_aload_n 7 c_71_6 rfl rfl ?_
  refine R_get 10 c_71_7 rfl (hsk.1) rfl ?_
  refine R_bipush 12 c_71_10 rfl (by decide) ?_
  refine R_br 15 19 _ (cmp_ge (by unfold inR; omega) (by unfold inR; omega)) c_71_12 rfl rfl (fun hn => absurd hn (by omega)) (fun _ => ?_)
  refine R_iconst 16 c_71_15 rfl ?_
  refine R_goto 20 c_71_16 rfl ?_
  refine R_callS 23 c_71_20 rfl rfl (Nat.le_of_ble_eq_true rfl) (k_needState1) ?_
  refine R_aload_n 24 c_71_23 rfl rfl ?_
  refine R_get 27 c_71_24 rfl (hw.1) rfl ?_
  refine R_aload_n 28 c_71_27 rfl rfl ?_
  refine R_callV 31 c_71_28 rfl rfl rfl rfl (Nat.le_of_ble_eq_true rfl) (Nat.le_of_ble_eq_true rfl) (hp.1) (hc1) ?_
  refine R_aload_n 32 c_71_31 rfl rfl ?_
  refine R_get 35 c_71_32 rfl (o1) rfl ?_
  refine R_aload_n 36 c_71_35 rfl rfl ?_
  refine R_callV 39 c_71_36 rfl rfl rfl rfl (Nat.le_of_ble_eq_true rfl) (Nat.le_of_ble_eq_true rfl) (p1.1) (hc2) ?_
  refine R_aload_n 40 c_71_39 rfl rfl ?_
  refine R_get 43 c_71_40 rfl (o2) rfl ?_
  refine R_get 46 c_71_43 rfl (g2) rfl ?_
  refine R_ireturn c_71_46 rfl ?_
  exact hX _ _ ⟨rfl, fn, W2⟩
def cS : List Nat := [11, 12, 26, 27, 28, 29, 30]
theorem k_cost1 {s v : Nat} {w h : Int} {f : Int → Int} (ho : m_O H) (hn : nx H) (hss : ss H) (hrs : rs H) (hs : sh H s v w h f) (hf : vok f) (ns : s < 11) (nv : v < 11) (h2w : 2 ≤ w) :
    m_CP scr 95 [.ref 1, .ref s, vI 1] H (fun v1 H1 => v1 = some (vI (ftot w h f)) ∧ eqo cS H H1 ∧ nx H1 ∧ ss H1 ∧ rs H1) := by
  have hd := hs.2.2.2
  obtain ⟨wx, hx, fx, sx, hfx⟩ := hn
  obtain ⟨tt, cl, sm, hp⟩ := hss
  obtain ⟨wr, hr, fr, sr, hfr⟩ := hrs
  obtain ⟨v1, H1, hc1, rfl, q1, fn, s1, hfn, hq1⟩ := k_becomeE (scr := scr) sx hs hfx hf (by omega) (by omega) (by omega) (by omega)
  have o1 := (q1 1 (by decide)).trans ho
  have p1 : se H1 tt cl sm := ⟨(q1 _ (by decide)).trans hp.1, (q1 _ (by decide)).trans hp.2.1, (q1 _ (by decide)).trans hp.2.2⟩
  obtain ⟨v2, H2, hc2, rfl, q2, cl2, sm2, p2, hq2⟩ := k_sfind (scr := scr) p1 s1 hfn (by decide) (by decide)
  have o2 := (q2 1 (by decide)).trans o1
  have q12 : eqo cS H H2 := (q1.wd (by decide)).tr (q2.wd (by decide))
  have s2 := sh_eqo q2 s1 (by decide) (by decide)
  have sr2 := sh_eqo q2 (sh_eqo q1 sr (by decide) (by decide)) (by decide) (by decide)
  obtain ⟨v3, H3, hc3, rfl, q3, ⟨f3, s3, hf3⟩, wr3, hr3, fr3, sr3, hfr3⟩ := k_takeOut (scr := scr) p2 s2 sr2 hfn hfr h2w (fun y y0 y1 => by rw [hq2 y y0 y1]; exact fcol_bd hd.1 y) (by decide) (by decide)
  have o3 : m_O H3 := (q3 1 (by decide)).trans o2
  have p3 : se H3 (ftot w h fn) cl2 sm2 := ⟨(q3 _ (by decide)).trans p2.1, (q3 _ (by decide)).trans p2.2.1, (q3 _ (by decide)).trans p2.2.2⟩
  have hct := ftot_congr hd.1 hd.2.2.1 hq1
  refine m_CP.of ?_
  show m_Ev scr 95 0 [(0, .ref 1), (1, .ref s), (2, vI 1)] [] H _
  refine m_gen (fun X hX => ?_)
  refine R_aload_n 1 c_95_0 rfl rfl ?_
  refine R_get 4 c_95_1 rfl (ho) rfl ?_
  refine R_aload_n 5 c_95_4 rfl rfl ?_
  refine R_callV 8 c_95_5 rfl rfl rfl rfl (Nat.le_of_ble_eq_true rfl) (Nat.le_of_ble_eq_true rfl) (sx.1) (hc1) ?_
  refine R_iconst 9 c_95_8 rfl ?_
  refine R_istore_n 10 c_95_9 rfl ?_
  refine R_iconst 11 c_95_10 rfl ?_
  refine R_istore 13 c_95_11 rfl ?_
  refine R_iload 15 c_95_13 rfl rfl ?_
  refine R_iload_n 16 c_95_15 rfl rfl ?_
  refine R_br 19 57 _ (cmp_ge (by unfold inR; omega) (by unfold inR; omega)) c_95_16 rfl rfl (fun hn => absurd hn (by omega)) (fun _ => ?_)
  refine R_aload_n 20 c_95_19 rfl rfl ?_
  refine R_get 23 c_95_20 rfl (o1) rfl ?_
  refine R_aload_n 24 c_95_23 rfl rfl ?_
  refine R_get 27 c_95_24 rfl (o1) rfl ?_
  refine R_callV 30 c_95_27 rfl rfl rfl rfl (Nat.le_of_ble_eq_true rfl) (Nat.le_of_ble_eq_true rfl) (p1.1) (hc2) ?_
  refine R_aload_n 31 c_95_30 rfl rfl ?_
  refine R_get 34 c_95_31 rfl (o2) rfl ?_
  refine R_aload_n 35 c_95_34 rfl rfl ?_
  refine R_get 38 c_95_35 rfl (o2) rfl ?_
  refine R_callV 41 c_95_38 rfl rfl rfl rfl (Nat.le_of_ble_eq_true rfl) (Nat.le_of_ble_eq_true rfl) (p2.1) (hc3) ?_
  refine R_iload_n 42 c_95_41 rfl rfl ?_
  refine R_aload_n 43 c_95_42 rfl rfl ?_
  refine R_get 46 c_95_43 rfl (o3) rfl ?_
  refine R_get 49 c_95_46 rfl (p3.1) rfl ?_
  refine R_iadd 50 c_95_49 rfl ?_
  refine R_istore_n 51 c_95_50 rfl ?_
  refine R_iinc 54 c_95_51 rfl rfl ?_
  refine R_goto 13 c_95_54 rfl ?_
  refine R_iload 15 c_95_13 rfl rfl ?_
  refine R_iload_n 16 c_95_15 rfl rfl ?_
  refine R_br 19 57 _ (cmp_ge (by unfold inR; omega) (by unfold inR; omega)) c_95_16 rfl rfl (fun _ => ?_) (fun hn => absurd (by omega) hn)
  refine R_iload_n 58 c_95_57 rfl rfl ?_
  refine R_ireturn c_95_58 rfl ?_
  refine hX _ _ ⟨?_, q12.tr (q3.wd (by decide)), ⟨_, _, _, s3, hf3⟩, ⟨_, _, _, p3⟩, ⟨_, _, _, sr3, hfr3⟩⟩
  rw [Int.zero_add, hct]
theorem SC_cS {H1 : List mC} (h : SC H) (he : eqo cS H H1) (a : nx H1) (b : ss H1) (c : rs H1) : SC H1 :=
  h.mk' he (.inr a) (.inl (by decide)) (.inl (by decide)) (.inl (by decide)) (.inl (by decide)) (.inr b) (.inr c)
theorem k_carvedBy1 (hw : wd H w h f) (hk : k < 4) (h2w : 2 ≤ w k) :
    m_CP scr 74 [.ref 1, vI k, vI 1] H (fun v1 H1 => v1 = some (vI (ftot (w k) (h k) (f k))) ∧ wd H1 w h f) := by
  obtain ⟨hsk, hvk⟩ := hw.2.2.1 k hk
  have hd := hsk.2.2.2
  obtain ⟨v1, H1, hc1, rfl, q1, a1, b1, c1⟩ := k_cost1 (scr := scr) hw.1 hw.2.2.2.1 hw.2.2.2.2.2.2.2.2.1 hw.2.2.2.2.2.2.2.2.2 hsk hvk (by omega) (by omega) h2w
  refine m_CP.of ?_
  show m_Ev scr 74 0 [(0, .ref 1), (1, vI k), (2, vI 1)] [] H _
  refine R_aload_n 1 c_74_0 rfl rfl ?_
  refine R_iload_n 2 c_74_1 rfl rfl ?_
  refine R_callV 5 c_74_2 rfl rfl rfl rfl (Nat.le_of_ble_eq_true rfl) (Nat.le_of_ble_eq_true rfl) (hw.1) (k_sheetAt hw hk) ?_
  refine R_astore_n 6 c_74_5 rfl ?_
  refine R_iconst 7 c_74_6 rfl ?_
  refine R_iload_n 8 c_74_7 rfl rfl ?_
  refine R_aload_n 9 c_74_8 rfl rfl ?_
  refine R_get 12 c_74_9 rfl (hsk.1) rfl ?_
  refine R_iconst 13 c_74_12 rfl ?_
  refine R_isub 14 c_74_13 rfl ?_
  refine R_callS 17 c_74_14 rfl rfl (Nat.le_of_ble_eq_true rfl) (k_isFromT inR_0 (by unfold inR; omega) (by unfold inR; omega) ⟨by omega, by omega⟩) ?_
  refine R_callS 20 c_74_17 rfl rfl (Nat.le_of_ble_eq_true rfl) (k_refuse1) ?_
  refine R_aload_n 21 c_74_20 rfl rfl ?_
  refine R_aload_n 22 c_74_21 rfl rfl ?_
  refine R_iload_n 23 c_74_22 rfl rfl ?_
  refine R_callV 26 c_74_23 rfl rfl rfl rfl (Nat.le_of_ble_eq_true rfl) (Nat.le_of_ble_eq_true rfl) (hw.1) (hc1) ?_
  refine R_ireturn c_74_26 rfl ?_
  exact ⟨rfl, wd_sc hw q1 (by unfold offS; decide) (SC_cS hw.2.2.2 q1 a1 b1 c1)⟩
end MAIN8
/-! digest -/
def dgw (d : Int64) (n : Int) : Int64 := d * Int64.ofInt 31 + (iI n).toInt64
def dga (w h : Int) (f : Int → Int) (d : Int64) : Nat → Int64
  | 0 => d
  | n + 1 => dgw (dga w h f d n) (ffct w h f (n : Int))
theorem dga_s (w h : Int) (f : Int → Int) (d : Int64) (n : Nat) : dga w h f d (n + 1) = dgw (dga w h f d n) (ffct w h f (n : Int)) := rfl
theorem dga_i (w h : Int) (f : Int → Int) (d : Int64) {i : Int} (i0 : 0 ≤ i) : dga w h f d (i + 1).toNat = dgw (dga w h f d i.toNat) (ffct w h f i) := by
  rw [show (i + 1).toNat = i.toNat + 1 by omega, dga_s, show ((i.toNat : Nat) : Int) = i by omega]
noncomputable def dgF (w h : Int) (f : Int → Int) (d : Int64) : Int64 := dgw (dgw (dgw (dgw (dga w h f d 6) (npt 4 128 1 w h f)) (nho 4 w h f)) (npt 8 128 1 w h f)) (nho 8 w h f)
def dgb (w h : Int) (f : Int → Int) (d : Int64) : Nat → Int64
  | 0 => d
  | n + 1 => dgw (dgb w h f d n) (fcol w h f (n : Int))
def dgS (w h : Int) (f : Int → Int) (d : Int64) : Int64 := if 2 ≤ w then dgw (dgb w h f d h.toNat) (ftot w h f) else dgb w h f d h.toNat
def dgc (w h : Int) (f : Int → Int) (d : Int64) : Nat → Int64
  | 0 => d
  | n + 1 => dgw (dgc w h f d n) (ffar w h f 2 (n : Int) (n : Int))
def dgd (f : Int → Int) (d : Int64) : Nat → Int64
  | 0 => d
  | n + 1 => dgw (dgd f d n) (f (n : Int))
def dgV (w h : Int) (f : Int → Int) (d : Int64) : Int64 := dgd f (dgc w h f d (min w h).toNat) (w * h).toNat
noncomputable def dgt (w h : Nat → Int) (f : Nat → Int → Int) : Nat → Int64
  | 0 => Int64.ofInt 58080
  | n + 1 => dgV (w n) (h n) (f n) (dgS (w n) (h n) (f n) (dgF (w n) (h n) (f n) (dgt w h f n)))
section MAIN9
variable {scr : List Int32} {H : List mC} {w h : Nat → Int} {f : Nat → Int → Int} {k k2 : Nat}
theorem k_dgw {d : Int64} {n : Int} : m_Cl scr 96 [.long d, vI n] H (some (.long (dgw d n))) H := by
  show m_Ev scr 96 0 [(0, .long d), (2, vI n)] [] H _
  refine R_lload_n 1 c_96_0 rfl rfl ?_
  refine R_ldc2_w 4 c_96_1 rfl ?_
  refine R_lmul 5 c_96_4 rfl ?_
  refine R_iload_n 6 c_96_5 rfl rfl ?_
  refine R_i2l 7 c_96_6 rfl ?_
  refine R_ladd 8 c_96_7 rfl ?_
  exact R_lreturn c_96_8 rfl rfl
set_option maxHeartbeats 4000000 in
theorem k_digestFacts {s v : Nat} {w h : Int} {f : Int → Int} {d : Int64} (ho : m_O H) (ht : ts H) (hp : ps H) (hs : sh H s v w h f) (hf : vok f) (ns : s < 11) (nv : v < 11) :
    m_CP scr 97 [.ref 1, .long d, .ref s] H (fun v1 H1 => v1 = some (.long (dgF w h f d)) ∧ eqo (18 :: 19 :: pS) H H1 ∧ ts H1 ∧ ps H1) := by
  have n1 : s ∉ [18, 19] ∧ v ∉ [18, 19] := by simp; omega
  have n2 : s ∉ pS ∧ v ∉ pS := ⟨pS_off (by omega), pS_off (by omega)⟩
  refine m_CP.of ?_
  show m_Ev scr 97 0 [(0, .ref 1), (1, .long d), (3, .ref s)] [] H _
  refine m_gen (fun X hX => ?_)
  refine R_lload_n 1 c_97_0 rfl rfl ?_
  refine R_lstore 3 c_97_1 rfl ?_
  refine R_iconst 4 c_97_3 rfl ?_
  refine R_istore 6 c_97_4 rfl ?_
  refine m_forP 6 (fun i L H2 => L = [(0, .ref 1), (1, .long d), (3, .ref s), (4, .long (dga w h f d i.toNat)), (6, vI i)] ∧ eqo [18, 19] H H2 ∧ ts H2) 0 ⟨rfl, eqo.rf _ _, ht⟩ (by omega) ?_ ?_
  · rintro i L2 H2 i0 i1 ⟨rfl, q2, t2⟩ ih
    have o2 : m_O H2 := (q2 1 (by decide)).trans ho
    have s2 := sh_eqo q2 hs n1.1 n1.2
    obtain ⟨v3, H3, hc3, rfl, q3, t3⟩ := k_factOf (scr := scr) (what := i) o2 t2 s2 hf (by simp; omega) (by simp; omega) (by omega)
    have ih2 := ih [(0, .ref 1), (1, .long d), (3, .ref s), (4, .long (dgw (dga w h f d i.toNat) (ffct w h f i))), (6, vI (i + 1))] H3 ⟨by rw [dga_i w h f d i0], q2.tr q3, t3⟩
    clear ih
    generalize dga w h f d i.toNat = d1 at ih2 ⊢
    generalize ffct w h f i = z1 at ih2 hc3
    refine R_iload 8 c_97_6 rfl rfl ?_
    refine R_iconst 9 c_97_8 rfl ?_
    refine R_br 12 32 _ (cmp_gt (by unfold inR; omega) (by unfold inR; omega)) c_97_9 rfl rfl (fun hn => absurd hn (by omega)) (fun _ => ?_)
    refine R_lload 14 c_97_12 rfl rfl ?_
    refine R_aload_n 15 c_97_14 rfl rfl ?_
    refine R_aload_n 16 c_97_15 rfl rfl ?_
    refine R_iload 18 c_97_16 rfl rfl ?_
    refine R_callV 21 c_97_18 rfl rfl rfl rfl (Nat.le_of_ble_eq_true rfl) (Nat.le_of_ble_eq_true rfl) (o2) (hc3) ?_
    refine R_callS 24 c_97_21 rfl rfl (Nat.le_of_ble_eq_true rfl) (k_dgw) ?_
    refine R_lstore 26 c_97_24 rfl ?_
    refine R_iinc 29 c_97_26 rfl rfl ?_
    refine R_goto 6 c_97_29 rfl ?_
    exact ih2
  · rintro L2 H2 ⟨rfl, q2, t2⟩
    have o2 : m_O H2 := (q2 1 (by decide)).trans ho
    have s2 := sh_eqo q2 hs n1.1 n1.2
    have p2 := ps.kp q2 hp (by decide) (by decide) (by decide) (by decide) (by decide)
    obtain ⟨v3, H3, hc3, rfl, q3, p3⟩ := k_partsFrom (scr := scr) (ways := 4) (thr := 128) o2 p2 s2 hf (by omega) (by omega) (by omega) (by omega)
    have o3 : m_O H3 := (q3 1 (by decide)).trans o2
    have s3 := sh_eqo q3 s2 n2.1 n2.2
    obtain ⟨v4, H4, hc4, rfl, q4, p4⟩ := k_holesOf (scr := scr) (ways := 4) o3 p3 s3 hf (by omega) (by omega) (by omega)
    have o4 : m_O H4 := (q4 1 (by decide)).trans o3
    have s4 := sh_eqo q4 s3 n2.1 n2.2
    obtain ⟨v5, H5, hc5, rfl, q5, p5⟩ := k_partsFrom (scr := scr) (ways := 8) (thr := 128) o4 p4 s4 hf (by omega) (by omega) (by omega) (by omega)
    have o5 : m_O H5 := (q5 1 (by decide)).trans o4
    have s5 := sh_eqo q5 s4 n2.1 n2.2
    obtain ⟨v6, H6, hc6, rfl, q6, p6⟩ := k_holesOf (scr := scr) (ways := 8) o5 p5 s5 hf (by omega) (by omega) (by omega)
    have Q := q3.tr (q4.tr (q5.tr q6))
    have e6 : dgF w h f d = dgw (dgw (dgw (dgw (dga w h f d 6) (npt 4 128 1 w h f)) (nho 4 w h f)) (npt 8 128 1 w h f)) (nho 8 w h f) := rfl
    rw [e6] at hX
    rw [show (6 : Int).toNat = 6 from rfl]
    generalize dga w h f d 6 = d6 at hX ⊢
    refine R_iload 8 c_97_6 rfl rfl ?_
    refine R_iconst 9 c_97_8 rfl ?_
    refine R_br 12 32 _ (cmp_gt (by unfold inR; omega) (by unfold inR; omega)) c_97_9 rfl rfl (fun _ => ?_) (fun hn => absurd (by omega) hn)
    refine R_lload 34 c_97_32 rfl rfl ?_
    refine R_aload_n 35 c_97_34 rfl rfl ?_
    refine R_aload_n 36 c_97_35 rfl rfl ?_
    refine R_iconst 37 c_97_36 rfl ?_
    refine R_sipush 40 c_97_37 rfl (by decide) ?_
    refine R_callV 43 c_97_40 rfl rfl rfl rfl (Nat.le_of_ble_eq_true rfl) (Nat.le_of_ble_eq_true rfl) (o2) (hc3) ?_
    refine R_callS 46 c_97_43 rfl rfl (Nat.le_of_ble_eq_true rfl) (k_dgw) ?_
    refine R_lstore 48 c_97_46 rfl ?_
    show m_Ev scr 97 48 [(0, .ref 1), (1, .long d), (3, .ref s), (4, .long (dgw d6 (npt 4 128 1 w h f))), (6, vI 6)] [] H3 X
    refine R_lload 50 c_97_48 rfl rfl ?_
    refine R_aload_n 51 c_97_50 rfl rfl ?_
    refine R_aload_n 52 c_97_51 rfl rfl ?_
    refine R_iconst 53 c_97_52 rfl ?_
    refine R_callV 56 c_97_53 rfl rfl rfl rfl (Nat.le_of_ble_eq_true rfl) (Nat.le_of_ble_eq_true rfl) (o3) (hc4) ?_
    refine R_callS 59 c_97_56 rfl rfl (Nat.le_of_ble_eq_true rfl) (k_dgw) ?_
    refine R_lstore 61 c_97_59 rfl ?_
    show m_Ev scr 97 61 [(0, .ref 1), (1, .long d), (3, .ref s), (4, .long (dgw (dgw d6 (npt 4 128 1 w h f)) (nho 4 w h f))), (6, vI 6)] [] H4 X
    refine R_lload 63 c_97_61 rfl rfl ?_
    refine R_aload_n 64 c_97_63 rfl rfl ?_
    refine R_aload_n 65 c_97_64 rfl rfl ?_
    refine R_bipush 67 c_97_65 rfl (by decide) ?_
    refine R_sipush 70 c_97_67 rfl (by decide) ?_
    refine R_callV 73 c_97_70 rfl rfl rfl rfl (Nat.le_of_ble_eq_true rfl) (Nat.le_of_ble_eq_true rfl) (o4) (hc5) ?_
    refine R_callS 76 c_97_73 rfl rfl (Nat.le_of_ble_eq_true rfl) (k_dgw) ?_
    refine R_lstore 78 c_97_76 rfl ?_
    show m_Ev scr 97 78 [(0, .ref 1), (1, .long d), (3, .ref s), (4, .long (dgw (dgw (dgw d6 (npt 4 128 1 w h f)) (nho 4 w h f)) (npt 8 128 1 w h f))), (6, vI 6)] [] H5 X
    refine R_lload 80 c_97_78 rfl rfl ?_
    refine R_aload_n 81 c_97_80 rfl rfl ?_
    refine R_aload_n 82 c_97_81 rfl rfl ?_
    refine R_bipush 84 c_97_82 rfl (by decide) ?_
    refine R_callV 87 c_97_84 rfl rfl rfl rfl (Nat.le_of_ble_eq_true rfl) (Nat.le_of_ble_eq_true rfl) (o5) (hc6) ?_
    refine R_callS 90 c_97_87 rfl rfl (Nat.le_of_ble_eq_true rfl) (k_dgw) ?_
    refine R_lreturn c_97_90 rfl ?_
    exact hX _ _ ⟨rfl, (q2.wd (by simp)).tr (Q.wd (fun q hq => by simp [hq])), t2.kp Q (by decide) (by decide) (by decide), p6⟩
set_option maxHeartbeats 4000000 in
theorem k_digestSeams {s v : Nat} {w h : Int} {f : Int → Int} {d : Int64} (ho : m_O H) (hn : nx H) (hss : ss H) (hrs : rs H) (hs : sh H s v w h f) (hf : vok f) (ns : s < 11) (nv : v < 11) :
    m_CP scr 98 [.ref 1, .long d, .ref s] H (fun v1 H1 => v1 = some (.long (dgS w h f d)) ∧ eqo cS H H1 ∧ nx H1 ∧ ss H1 ∧ rs H1) := by
  have hd := hs.2.2.2
  have n1 : s ∉ cS ∧ v ∉ cS := ⟨fun hm => by simp [cS] at hm; omega, fun hm => by simp [cS] at hm; omega⟩
  obtain ⟨tt, cl, sm, hp⟩ := hss
  obtain ⟨v1, H1, hc1, rfl, q1, cl1, sm1, p1, hq1⟩ := k_sfind (scr := scr) hp hs hf (by simp; omega) (by simp; omega)
  have o1 : m_O H1 := (q1 1 (by decide)).trans ho
  have s1 := sh_eqo q1 hs (by simp; omega) (by simp; omega)
  have x1 := hn.kp q1 (by decide) (by decide)
  have r1 := hrs.kp q1 (by decide) (by decide)
  refine m_CP.of ?_
  show m_Ev scr 98 0 [(0, .ref 1), (1, .long d), (3, .ref s)] [] H _
  refine m_gen (fun X hX => ?_)
  refine R_lload_n 1 c_98_0 rfl rfl ?_
  refine R_lstore 3 c_98_1 rfl ?_
  refine R_aload_n 4 c_98_3 rfl rfl ?_
  refine R_get 7 c_98_4 rfl (ho) rfl ?_
  refine R_aload_n 8 c_98_7 rfl rfl ?_
  refine R_callV 11 c_98_8 rfl rfl rfl rfl (Nat.le_of_ble_eq_true rfl) (Nat.le_of_ble_eq_true rfl) (hp.1) (hc1) ?_
  refine R_iconst 12 c_98_11 rfl ?_
  refine R_istore 14 c_98_12 rfl ?_
  refine m_forw h (fun i => [(0, .ref 1), (1, .long d), (3, .ref s), (4, .long (dgb w h f d i.toNat)), (6, vI i)]) (fun _ => H1) 0 rfl rfl (by omega) (fun i i0 i1 ih => ?_) ?_
  · refine R_iload 16 c_98_14 rfl rfl ?_
    refine R_aload_n 17 c_98_16 rfl rfl ?_
    refine R_get 20 c_98_17 rfl (s1.1) rfl ?_
    refine R_br 23 46 _ (cmp_ge (by unfold inR; omega) (by unfold inR; omega)) c_98_20 rfl rfl (fun hn => absurd hn (by omega)) (fun _ => ?_)
    refine R_lload 25 c_98_23 rfl rfl ?_
    refine R_aload_n 26 c_98_25 rfl rfl ?_
    refine R_get 29 c_98_26 rfl (o1) rfl ?_
    refine R_get 32 c_98_29 rfl (p1.1) rfl ?_
    refine R_iload 34 c_98_32 rfl rfl ?_
    refine R_iald 35 c_98_34 rfl (p1.2.1) (by omega) (by omega) (by decide) ?_
    refine R_callS 38 c_98_35 rfl rfl (Nat.le_of_ble_eq_true rfl) (k_dgw) ?_
    refine R_lstore 40 c_98_38 rfl ?_
    refine R_iinc 43 c_98_40 rfl rfl ?_
    refine R_goto 14 c_98_43 rfl ?_
    rw [show (i + 1).toNat = i.toNat + 1 by omega] at ih
    change m_Ev scr 98 14 [(0, Value.ref 1), (1, Value.long d), (3, Value.ref s), (4, Value.long (dgw (dgb w h f d i.toNat) (fcol w h f ((i.toNat : Nat) : Int)))), (6, vI (i + 1))] [] H1 X at ih
    rw [show ((i.toNat : Nat) : Int) = i by omega, ← hq1 i i0 i1] at ih
    exact ih
  · refine R_iload 16 c_98_14 rfl rfl ?_
    refine R_aload_n 17 c_98_16 rfl rfl ?_
    refine R_get 20 c_98_17 rfl (s1.1) rfl ?_
    refine R_br 23 46 _ (cmp_ge (by unfold inR; omega) (by unfold inR; omega)) c_98_20 rfl rfl (fun _ => ?_) (fun hn => absurd (by omega) hn)
    refine R_aload_n 47 c_98_46 rfl rfl ?_
    refine R_get 50 c_98_47 rfl (s1.1) rfl ?_
    refine R_iconst 51 c_98_50 rfl ?_
    by_cases h2w : 2 ≤ w
    · obtain ⟨v2, H2, hc2, rfl, q2, x2, ss2, r2⟩ := k_cost1 (scr := scr) o1 x1 ⟨_, _, _, p1⟩ r1 s1 hf ns nv h2w
      refine R_br 54 67 _ (cmp_le (by unfold inR; omega) (by unfold inR; omega)) c_98_51 rfl rfl (fun hn => absurd hn (by omega)) (fun _ => ?_)
      refine R_lload 56 c_98_54 rfl rfl ?_
      refine R_aload_n 57 c_98_56 rfl rfl ?_
      refine R_aload_n 58 c_98_57 rfl rfl ?_
      refine R_iconst 59 c_98_58 rfl ?_
      refine R_callV 62 c_98_59 rfl rfl rfl rfl (Nat.le_of_ble_eq_true rfl) (Nat.le_of_ble_eq_true rfl) (o1) (hc2) ?_
      refine R_callS 65 c_98_62 rfl rfl (Nat.le_of_ble_eq_true rfl) (k_dgw) ?_
      refine R_lstore 67 c_98_65 rfl ?_
      refine R_lload 69 c_98_67 rfl rfl ?_
      refine R_lreturn c_98_69 rfl ?_
      refine hX _ _ ⟨?_, (q1.wd (by decide)).tr q2, x2, ss2, r2⟩
      unfold dgS
      rw [if_pos h2w]
    · refine R_br 54 67 _ (cmp_le (by unfold inR; omega) (by unfold inR; omega)) c_98_51 rfl rfl (fun _ => ?_) (fun hn => absurd (by omega) hn)
      refine R_lload 69 c_98_67 rfl rfl ?_
      refine R_lreturn c_98_69 rfl ?_
      refine hX _ _ ⟨?_, q1.wd (by decide), x1, ⟨_, _, _, p1⟩, r1⟩
      unfold dgS
      rw [if_neg h2w]
set_option maxHeartbeats 4000000 in
theorem k_digestFields {s v : Nat} {w h : Int} {f : Int → Int} {d : Int64} (hs : sh H s v w h f) (hf : vok f) :
    m_Cl scr 99 [.long d, .ref s] H (some (.long (dgV w h f d))) H := by
  have hd := hs.2.2.2
  have ha := m_area hd.1 hd.2.1 hd.2.2.1 hd.2.2.2
  show m_Ev scr 99 0 [(0, .long d), (2, .ref s)] [] H _
  refine m_gen (fun X hX => ?_)
  refine R_lload_n 1 c_99_0 rfl rfl ?_
  refine R_lstore_n 2 c_99_1 rfl ?_
  refine R_iconst 3 c_99_2 rfl ?_
  refine R_istore 5 c_99_3 rfl ?_
  refine m_forw (min w h) (fun i => [(0, .long d), (2, .ref s), (3, .long (dgc w h f d i.toNat)), (5, vI i)]) (fun _ => H) 0 rfl rfl (by omega) (fun i i0 i1 ih => ?_) ?_
  · refine R_iload 7 c_99_5 rfl rfl ?_
    refine R_aload_n 8 c_99_7 rfl rfl ?_
    refine R_get 11 c_99_8 rfl (hs.1) rfl ?_
    refine R_aload_n 12 c_99_11 rfl rfl ?_
    refine R_get 15 c_99_12 rfl (hs.1) rfl ?_
    refine R_min 18 c_99_15 rfl (by unfold inR; omega) (by unfold inR; omega) (Nat.le_of_ble_eq_true rfl) ?_
    refine R_br 21 41 _ (cmp_ge (by unfold inR; omega) (by unfold inR; omega)) c_99_18 rfl rfl (fun hn => absurd hn (by omega)) (fun _ => ?_)
    refine R_lload_n 22 c_99_21 rfl rfl ?_
    refine R_aload_n 23 c_99_22 rfl rfl ?_
    refine R_iconst 24 c_99_23 rfl ?_
    refine R_iload 26 c_99_24 rfl rfl ?_
    refine R_iload 28 c_99_26 rfl rfl ?_
    refine R_callS 31 c_99_28 rfl rfl (Nat.le_of_ble_eq_true rfl) (k_farOf hs hf (by omega) (by omega) (by omega)) ?_
    refine R_callS 34 c_99_31 rfl rfl (Nat.le_of_ble_eq_true rfl) (k_dgw) ?_
    refine R_lstore_n 35 c_99_34 rfl ?_
    refine R_iinc 38 c_99_35 rfl rfl ?_
    refine R_goto 5 c_99_38 rfl ?_
    rw [show (i + 1).toNat = i.toNat + 1 by omega] at ih
    change m_Ev scr 99 5 [(0, .long d), (2, .ref s), (3, .long (dgw (dgc w h f d i.toNat) (ffar w h f 2 ((i.toNat : Nat) : Int) ((i.toNat : Nat) : Int)))), (5, vI (i + 1))] [] H X at ih
    rw [show ((i.toNat : Nat) : Int) = i by omega] at ih
    exact ih
  · refine R_iload 7 c_99_5 rfl rfl ?_
    refine R_aload_n 8 c_99_7 rfl rfl ?_
    refine R_get 11 c_99_8 rfl (hs.1) rfl ?_
    refine R_aload_n 12 c_99_11 rfl rfl ?_
    refine R_get 15 c_99_12 rfl (hs.1) rfl ?_
    refine R_min 18 c_99_15 rfl (by unfold inR; omega) (by unfold inR; omega) (Nat.le_of_ble_eq_true rfl) ?_
    refine R_br 21 41 _ (cmp_ge (by unfold inR; omega) (by unfold inR; omega)) c_99_18 rfl rfl (fun _ => ?_) (fun hn => absurd (by omega) hn)
    refine R_iconst 42 c_99_41 rfl ?_
    refine R_istore 44 c_99_42 rfl ?_
    refine m_forw (w * h) (fun i => [(0, .long d), (2, .ref s), (3, .long (dgd f (dgc w h f d (min w h).toNat) i.toNat)), (5, vI i)]) (fun _ => H) 0 rfl rfl (by omega) (fun i i0 i1 ih => ?_) ?_
    · refine R_iload 46 c_99_44 rfl rfl ?_
      refine R_aload_n 47 c_99_46 rfl rfl ?_
      refine R_callV 50 c_99_47 rfl rfl rfl rfl (Nat.le_of_ble_eq_true rfl) (Nat.le_of_ble_eq_true rfl) (hs.1) (k_size hs) ?_
      refine R_br 53 71 _ (cmp_ge (by unfold inR; omega) (by unfold inR; omega)) c_99_50 rfl rfl (fun hn => absurd hn (by omega)) (fun _ => ?_)
      refine R_lload_n 54 c_99_53 rfl rfl ?_
      refine R_aload_n 55 c_99_54 rfl rfl ?_
      refine R_get 58 c_99_55 rfl (hs.1) rfl ?_
      refine R_iload 60 c_99_58 rfl rfl ?_
      refine R_iald 61 c_99_60 rfl (hs.2.1) (by omega) (by omega) (by decide) ?_
      refine R_callS 64 c_99_61 rfl rfl (Nat.le_of_ble_eq_true rfl) (k_dgw) ?_
      refine R_lstore_n 65 c_99_64 rfl ?_
      refine R_iinc 68 c_99_65 rfl rfl ?_
      refine R_goto 44 c_99_68 rfl ?_
      rw [show (i + 1).toNat = i.toNat + 1 by omega] at ih
      change m_Ev scr 99 44 [(0, .long d), (2, .ref s), (3, .long (dgw (dgd f (dgc w h f d (min w h).toNat) i.toNat) (f ((i.toNat : Nat) : Int)))), (5, vI (i + 1))] [] H X at ih
      rw [show ((i.toNat : Nat) : Int) = i by omega] at ih
      exact ih
    · refine R_iload 46 c_99_44 rfl rfl ?_
      refine R_aload_n 47 c_99_46 rfl rfl ?_
      refine R_callV 50 c_99_47 rfl rfl rfl rfl (Nat.le_of_ble_eq_true rfl) (Nat.le_of_ble_eq_true rfl) (hs.1) (k_size hs) ?_
      refine R_br 53 71 _ (cmp_ge (by unfold inR; omega) (by unfold inR; omega)) c_99_50 rfl rfl (fun _ => ?_) (fun hn => absurd (by omega) hn)
      refine R_lload_n 72 c_99_71 rfl rfl ?_
      refine R_lreturn c_99_72 rfl ?_
      exact hX _ _ rfl
set_option maxHeartbeats 4000000 in
theorem k_digest (hw : wd H w h f) : m_CP scr 75 [.ref 1] H (fun v1 H1 => v1 = some (.long (dgt w h f 4)) ∧ wd H1 w h f) := by
  refine m_CP.of ?_
  show m_Ev scr 75 0 [(0, .ref 1)] [] H _
  refine m_gen (fun X hX => ?_)
  refine R_ldc2_w 3 c_75_0 rfl ?_
  refine R_lstore_n 4 c_75_3 rfl ?_
  refine R_iconst 5 c_75_4 rfl ?_
  refine R_istore_n 6 c_75_5 rfl ?_
  refine m_forP 4 (fun i L H2 => (L.filter (fun q => [0, 1, 3].contains q.1) = [(0, .ref 1), (1, .long (dgt w h f i.toNat)), (3, vI i)] ∧ m_ku L = true) ∧ wd H2 w h f) 0 ⟨⟨rfl, rfl⟩, hw⟩ (by omega) ?_ ?_
  · rintro i L2 H2 i0 i1 ⟨⟨hL2, hu2⟩, W2⟩ ih
    refine m_keep [0, 1, 3] hu2 ?_
    rw [hL2]
    obtain ⟨j, rfl⟩ : ∃ j : Nat, i = (j : Int) := ⟨i.toNat, by omega⟩
    have hj : j < 4 := by omega
    rw [Int.toNat_natCast]
    have hv : ([.ref 3, .ref 5, .ref 7, .ref 9] : List Value)[((j : Int)).toNat]? = some (.ref (3 + 2 * j)) := by
      rw [Int.toNat_natCast]
      rcases (show j = 0 ∨ j = 1 ∨ j = 2 ∨ j = 3 by omega) with rfl | rfl | rfl | rfl <;> rfl
    obtain ⟨s2, v2⟩ := W2.2.2.1 j hj
    obtain ⟨x3, H3, hc3, rfl, q3, t3, p3⟩ := k_digestFacts (scr := scr) (d := dgt w h f j) W2.1 W2.2.2.2.2.2.2.1 W2.2.2.2.2.2.2.2.1 s2 v2 (by omega) (by omega)
    have S3 : SC H3 := W2.2.2.2.mk' q3 (.inl (by decide)) (.inl (by decide)) (.inl (by decide)) (.inr t3) (.inr p3) (.inl (by decide)) (.inl (by decide))
    have W3 := wd_sc W2 q3 (by unfold offS; decide) S3
    obtain ⟨s3, -⟩ := W3.2.2.1 j hj
    obtain ⟨x4, H4, hc4, rfl, q4, a4, b4, c4⟩ := k_digestSeams (scr := scr) (d := dgF (w j) (h j) (f j) (dgt w h f j)) W3.1 W3.2.2.2.1 W3.2.2.2.2.2.2.2.2.1 W3.2.2.2.2.2.2.2.2.2 s3 v2 (by omega) (by omega)
    have W4 := wd_sc W3 q4 (by unfold offS; decide) (SC_cS W3.2.2.2 q4 a4 b4 c4)
    obtain ⟨s4, -⟩ := W4.2.2.1 j hj
    refine R_iload_n 7 c_75_6 rfl rfl ?_
    refine R_iconst 8 c_75_7 rfl ?_
    refine R_br 11 48 _ (cmp_ge (by unfold inR; omega) (by unfold inR; omega)) c_75_8 rfl rfl (fun hn => absurd hn (by omega)) (fun _ => ?_)
    refine R_aload_n 12 c_75_11 rfl rfl ?_
    refine R_get 15 c_75_12 rfl (W2.1) rfl ?_
    refine R_iload_n 16 c_75_15 rfl rfl ?_
    refine R_aald 17 c_75_16 rfl (W2.2.1) (by omega) (by omega) (hv) ?_
    refine R_astore 19 c_75_17 rfl ?_
    refine R_aload_n 20 c_75_19 rfl rfl ?_
    refine R_lload_n 21 c_75_20 rfl rfl ?_
    refine R_aload 23 c_75_21 rfl rfl ?_
    refine R_callV 26 c_75_23 rfl rfl rfl rfl (Nat.le_of_ble_eq_true rfl) (Nat.le_of_ble_eq_true rfl) (W2.1) (hc3) ?_
    refine R_lstore_n 27 c_75_26 rfl ?_
    refine R_aload_n 28 c_75_27 rfl rfl ?_
    refine R_lload_n 29 c_75_28 rfl rfl ?_
    refine R_aload 31 c_75_29 rfl rfl ?_
    refine R_callV 34 c_75_31 rfl rfl rfl rfl (Nat.le_of_ble_eq_true rfl) (Nat.le_of_ble_eq_true rfl) (W3.1) (hc4) ?_
    refine R_lstore_n 35 c_75_34 rfl ?_
    refine R_lload_n 36 c_75_35 rfl rfl ?_
    refine R_aload 38 c_75_36 rfl rfl ?_
    refine R_callS 41 c_75_38 rfl rfl (Nat.le_of_ble_eq_true rfl) (k_digestFields s4 v2) ?_
    refine R_lstore_n 42 c_75_41 rfl ?_
    refine R_iinc 45 c_75_42 rfl rfl ?_
    refine R_goto 6 c_75_45 rfl ?_
    exact ih _ _ ⟨⟨rfl, rfl⟩, W4⟩
  · rintro L2 H2 ⟨⟨hL2, hu2⟩, W2⟩
    refine m_keep [0, 1, 3] hu2 ?_
    rw [hL2]
    refine R_iload_n 7 c_75_6 rfl rfl ?_
    refine R_iconst 8 c_75_7 rfl ?_
    refine R_br 11 48 _ (cmp_ge (by unfold inR; omega) (by unfold inR; omega)) c_75_8 rfl rfl (fun _ => ?_) (fun hn => absurd (by omega) hn)
    refine R_lload_n 49 c_75_48 rfl rfl ?_
    refine R_lreturn c_75_49 rfl ?_
    exact hX _ _ ⟨rfl, W2⟩
end MAIN9
