/-! PARTS: what the law says of how many there are -/
section MATH1
variable {w h ways : Int} {f : Int → Int} {mb : Int → Prop}
theorem fsum_mono {f g : Int → Int} {n : Int} (h : ∀ e : Int, 0 ≤ e → e < n → f e ≤ g e) : fsum f n ≤ fsum g n := by
  have key : ∀ k : Nat, (k : Int) ≤ n → nsum f k ≤ nsum g k := by
    intro k
    induction k with
    | zero => intro _; exact Int.le_refl _
    | succ k ih =>
      intro hk
      have := ih (by omega)
      have := h (k : Int) (by omega) (by omega)
      show nsum f k + f (k : Int) ≤ nsum g k + g (k : Int)
      omega
  by_cases hn : 0 ≤ n
  · exact key n.toNat (by omega)
  · unfold fsum
    rw [show n.toNat = 0 by omega]
    exact Int.le_refl _
theorem adj_48 {a b : Int} (h : adj w 4 a b) : adj w 8 a b := ⟨h.1, h.2.1, h.2.2.1, h.2.2.2.1, .inl rfl⟩
theorem cn_48 {a b : Int} (h : cn w 4 mb a b) : cn w 8 mb a b := fun S h0 hS => h S h0 (fun u v hu hmu hmv hadj => hS u v hu hmu hmv (adj_48 hadj))
theorem npt_48 {thr on : Int} (hd : 1 ≤ w ∧ w ≤ 16 ∧ 1 ≤ h ∧ h ≤ 16) : npt 8 thr on w h f ≤ npt 4 thr on w h f := by
  unfold npt rk
  refine fsum_mono (fun q _ _ => ?_)
  by_cases h8 : fsth w 8 (mbf w h f thr on) q
  · have h4 : fsth w 4 (mbf w h f thr on) q := ⟨h8.1, fun r hr hm hc => h8.2 r hr hm (cn_48 hc)⟩
    rw [ci_pos h8, ci_pos h4]
    exact Int.le_refl _
  · rw [ci_neg h8]
    exact (ci_bd _).1
theorem nho_nn : 0 ≤ nho ways w h f := by
  unfold nho awc
  have := fsum_mono (f := fun _ => 0) (g := fun q => ci (fsth w (if ways = 4 then 8 else 4) (mbf w h f 128 0) q ∧ ¬ ∃ e, mbf w h f 128 0 e ∧ cn w (if ways = 4 then 8 else 4) (mbf w h f 128 0) q e ∧ edgI w h e)) (n := w * h) (fun q _ _ => (ci_bd _).1)
  have z : fsum (fun _ => 0) (w * h) = 0 := by
    unfold fsum
    generalize (w * h).toNat = k
    induction k with
    | zero => rfl
    | succ k ih => show nsum _ k + 0 = 0; omega
  omega
theorem nho_le (hd : 1 ≤ w ∧ w ≤ 16 ∧ 1 ≤ h ∧ h ≤ 16) : nho ways w h f ≤ 256 := by
  have ha := m_area hd.1 hd.2.1 hd.2.2.1 hd.2.2.2
  have := fsum_bd (f := fun q => ci (fsth w (if ways = 4 then 8 else 4) (mbf w h f 128 0) q ∧ ¬ ∃ e, mbf w h f 128 0 e ∧ cn w (if ways = 4 then 8 else 4) (mbf w h f 128 0) q e ∧ edgI w h e)) (lo := 0) (hi := 1) (fun j _ _ => ci_bd _) (w * h) (by omega) (by omega)
  unfold nho awc
  omega
theorem cn_all (hd : 1 ≤ w ∧ w ≤ 16 ∧ 1 ≤ h ∧ h ≤ 16) (hm : ∀ e, inG w h e → mb e) : ∀ n : Nat, inG w h (n : Int) → cn w ways mb 0 (n : Int) := by
  intro n
  induction n using Nat.strongRecOn with
  | _ n ih =>
    intro hn
    by_cases h0 : n = 0
    · subst h0; exact cn_rf _ _ _ _
    · have g := inG_xy hd.1 hn
      generalize hx : (n : Int) % w = x at g
      generalize hy : (n : Int) / w = y at g
      by_cases hx0 : x = 0
      · have hy0 : 1 ≤ y := by
          by_cases hy1 : y = 0
          · rw [hx0, hy1, Int.zero_mul] at g; omega
          · omega
        have e : (y - 1) * w + x = (n : Int) - w := by rw [Int.sub_mul, Int.one_mul]; omega
        have i1 := m_idx g.1 g.2.1 (show 0 ≤ y - 1 by omega) (show y - 1 < h by omega)
        have em := m_em (y := y - 1) g.1 g.2.1
        rw [e] at i1 em
        have hp : inG w h (n - w : Int) := i1
        have c := ih ((n : Int) - w).toNat (by omega) (by rw [Int.toNat_of_nonneg i1.1]; exact hp)
        rw [Int.toNat_of_nonneg i1.1] at c
        refine cn_st c (hm _ hp) (hm _ hn) ?_
        unfold adj
        rw [em.1, em.2, hx, hy]
        omega
      · have e : y * w + (x - 1) = (n : Int) - 1 := by omega
        have i1 := m_idx (show 0 ≤ x - 1 by omega) (show x - 1 < w by omega) g.2.2.1 g.2.2.2.1
        have em := m_em (y := y) (show 0 ≤ x - 1 by omega) (show x - 1 < w by omega)
        rw [e] at i1 em
        have hp : inG w h (n - 1 : Int) := i1
        have c := ih ((n : Int) - 1).toNat (by omega) (by rw [Int.toNat_of_nonneg i1.1]; exact hp)
        rw [Int.toNat_of_nonneg i1.1] at c
        refine cn_st c (hm _ hp) (hm _ hn) ?_
        unfold adj
        rw [em.1, em.2, hx, hy]
        omega
theorem npt_all (hd : 1 ≤ w ∧ w ≤ 16 ∧ 1 ≤ h ∧ h ≤ 16) (hf : vok f) : npt ways 0 1 w h f = 1 := by
  have ha := m_area hd.1 hd.2.1 hd.2.2.1 hd.2.2.2
  have hm : ∀ e, inG w h e → mbf w h f 0 1 e := fun e he => ⟨he, by unfold mbr; rw [if_pos (hf e he.1 (by have := he.2; omega)).1]⟩
  have h0 : fsth w ways (mbf w h f 0 1) 0 := ⟨hm 0 ⟨by omega, by omega⟩, fun r hr hmr => by have := hmr.1.1; omega⟩
  have key : ∀ k : Nat, ((k + 1 : Nat) : Int) ≤ w * h → rk w ways (mbf w h f 0 1) ((k + 1 : Nat) : Int) = 1 := by
    intro k
    induction k with
    | zero =>
      intro _
      show rk w ways (mbf w h f 0 1) (0 + 1) = 1
      rw [rk_succ w ways _ (by omega), ci_pos h0]
      rfl
    | succ k ih =>
      intro hk
      rw [show ((k + 1 + 1 : Nat) : Int) = ((k + 1 : Nat) : Int) + 1 by omega, rk_succ w ways _ (by omega), ih (by omega), ci_neg]
      · rfl
      · intro hf1
        exact hf1.2 0 (by omega) h0.1 (cn_all hd hm (k + 1) ⟨by omega, by omega⟩)
  have := key ((w * h).toNat - 1) (by omega)
  rw [show (((w * h).toNat - 1 + 1 : Nat) : Int) = w * h by omega] at this
  exact this
theorem fst_ex (hmb : ∀ e, mb e → inG w h e) : ∀ n : Nat, mb (n : Int) → ∃ q, fsth w ways mb q ∧ cn w ways mb q (n : Int) := by
  intro n
  induction n using Nat.strongRecOn with
  | _ n ih =>
    intro hm
    by_cases hf : fsth w ways mb (n : Int)
    · exact ⟨_, hf, cn_rf _ _ _ _⟩
    · have : ∃ r, r < (n : Int) ∧ mb r ∧ cn w ways mb r (n : Int) := Classical.byContradiction fun hno => hf ⟨hm, fun r hr hmr hc => hno ⟨r, hr, hmr, hc⟩⟩
      obtain ⟨r, hr, hmr, hc⟩ := this
      have r0 := (hmb r hmr).1
      obtain ⟨q, q1, q2⟩ := ih r.toNat (by omega) (by rw [Int.toNat_of_nonneg r0]; exact hmr)
      rw [Int.toNat_of_nonneg r0] at q2
      exact ⟨q, q1, cn_tr q2 hc⟩
theorem fst_exI (hmb : ∀ e, mb e → inG w h e) (e : Int) (hm : mb e) : ∃ q, fsth w ways mb q ∧ cn w ways mb q e := by
  have e0 := (hmb e hm).1
  have := fst_ex (ways := ways) hmb e.toNat (by rw [Int.toNat_of_nonneg e0]; exact hm)
  rwa [Int.toNat_of_nonneg e0] at this
theorem psz_cnt (hd : 1 ≤ w ∧ w ≤ 16 ∧ 1 ≤ h ∧ h ≤ 16) (hf : vok f) : fsum (psz w h ways (mbf w h f 128 1)) (npt ways 128 1 w h f) = fcnt f 128 255 (w * h) := by
  have ha := m_area hd.1 hd.2.1 hd.2.2.1 hd.2.2.2
  unfold npt
  rw [psz_sum hd (fun e he => he.1) (fst_exI (h := h) (fun e he => he.1))]
  refine fsum_ext (fun e e0 e1 => ?_)
  have hv := hf e e0 (by omega)
  show ci (mbf w h f 128 1 e) = if 128 ≤ f e ∧ f e ≤ 255 then 1 else 0
  by_cases hc : 128 ≤ f e
  · rw [ci_pos ⟨⟨e0, e1⟩, by unfold mbr; rw [if_pos hc]⟩, if_pos ⟨hc, hv.2⟩]
  · rw [ci_neg (fun z => by have := z.2; unfold mbr at this; rw [if_neg hc] at this; omega), if_neg (fun z => hc z.1)]
theorem fcnt_all (hd : 1 ≤ w ∧ w ≤ 16 ∧ 1 ≤ h ∧ h ≤ 16) (hf : vok f) : fcnt f 0 255 (w * h) = w * h := by
  have ha := m_area hd.1 hd.2.1 hd.2.2.1 hd.2.2.2
  have key : ∀ k : Nat, (k : Int) ≤ w * h → fcnt f 0 255 (k : Int) = k := by
    intro k
    induction k with
    | zero => intro _; rfl
    | succ k ih =>
      intro hk
      have e : fcnt f 0 255 ((k : Int) + 1) = fcnt f 0 255 (k : Int) + (if 0 ≤ f (k : Int) ∧ f (k : Int) ≤ 255 then 1 else 0) := fsum_succ _ (by omega)
      rw [show ((k + 1 : Nat) : Int) = (k : Int) + 1 by omega, e, ih (by omega), if_pos (hf _ (by omega) (by omega))]
  have := key (w * h).toNat (by omega)
  rwa [show (((w * h).toNat : Nat) : Int) = w * h by omega] at this
end MATH1
/-! VALUES in order; plans -/
section MATH2
variable {w h : Int} {f cs : Int → Int}
theorem fsum_swap (g : Int → Int → Int) : ∀ (n : Nat) (m : Int), fsum (fun k => fsum (fun i => g k i) m) (n : Int) = fsum (fun i => fsum (fun k => g k i) (n : Int)) m
  | 0, m => by
    show 0 = fsum (fun i => fsum (fun k => g k i) 0) m
    have : ∀ k : Nat, nsum (fun i => fsum (fun k => g k i) 0) k = 0 := by
      intro k
      induction k with
      | zero => rfl
      | succ k ih => show nsum _ k + 0 = 0; omega
    exact (this _).symm
  | n + 1, m => by
    rw [show ((n + 1 : Nat) : Int) = (n : Int) + 1 by omega, fsum_succ _ (by omega), fsum_swap g n m, ← fsum_add]
    refine fsum_ext (fun i _ _ => ?_)
    rw [fsum_succ _ (by omega)]
theorem fsum_swapI (g : Int → Int → Int) {n : Int} (hn : 0 ≤ n) (m : Int) : fsum (fun k => fsum (fun i => g k i) m) n = fsum (fun i => fsum (fun k => g k i) n) m := by
  have := fsum_swap g n.toNat m
  rwa [Int.toNat_of_nonneg hn] at this
theorem fsum_lt {c : Int} (h0 : 0 ≤ c) : ∀ n : Nat, fsum (fun j => if j < c then 1 else 0) (n : Int) = min c n
  | 0 => by show (0 : Int) = _; omega
  | n + 1 => by
    rw [show ((n + 1 : Nat) : Int) = (n : Int) + 1 by omega, fsum_succ _ (by omega), fsum_lt h0 n]
    split <;> omega
theorem fsum_ge {c : Int} (h0 : 0 ≤ c) : ∀ n : Nat, fsum (fun j => if c ≤ j then 1 else 0) (n : Int) = max 0 (n - c)
  | 0 => by show (0 : Int) = _; omega
  | n + 1 => by
    rw [show ((n + 1 : Nat) : Int) = (n : Int) + 1 by omega, fsum_succ _ (by omega), fsum_ge h0 n]
    split <;> omega
theorem fsum_1 {n : Int} (hn : 0 ≤ n) : fsum (fun _ => 1) n = n := by
  have := fsum_ge (c := 0) (by omega) n.toNat
  rw [Int.toNat_of_nonneg hn] at this
  rw [show fsum (fun _ => 1) n = fsum (fun j => if 0 ≤ j then 1 else 0) n from fsum_ext (fun e e0 _ => by rw [if_pos e0]), this]
  omega
theorem fsum_le {f : Int → Int} {a b : Int} (hf : ∀ e : Int, 0 ≤ e → e < b → 0 ≤ f e) (h0 : 0 ≤ a) (hab : a ≤ b) : fsum f a ≤ fsum f b := by
  obtain ⟨k, rfl⟩ : ∃ k : Nat, b = a + (k : Int) := ⟨(b - a).toNat, by omega⟩
  clear hab
  induction k with
  | zero => simp
  | succ k ih =>
    rw [show a + ((k + 1 : Nat) : Int) = a + (k : Int) + 1 by omega, fsum_succ f (by omega)]
    have := ih (fun e e0 e1 => hf e e0 (by omega))
    have := hf (a + (k : Int)) (by omega) (by omega)
    omega
/-- what the VALUE number k is -/
theorem ordA_spec (cs : Int → Int) (k : Int) : ∀ (n : Nat) (i : Int), 0 ≤ i → i + n = 256 → k < fsum cs 256 → (n = 0 → False) → i ≤ ordA cs k n i ∧ ordA cs k n i ≤ 255 ∧ k < fsum cs (ordA cs k n i + 1) ∧ ∀ j, i ≤ j → j < ordA cs k n i → fsum cs (j + 1) ≤ k
  | 0, i, _, _, _, hn => absurd rfl (fun z => hn z)
  | n + 1, i, h0, h1, hk, _ => by
    unfold ordA
    by_cases hc : k < fsum cs (i + 1)
    · rw [if_pos hc]
      exact ⟨by omega, by omega, hc, fun j j0 j1 => by omega⟩
    · rw [if_neg hc]
      by_cases hn : n = 0
      · subst hn
        rw [show i + 1 = 256 by omega] at hc
        exact absurd hk hc
      · obtain ⟨a, b, c, d⟩ := ordA_spec cs k n (i + 1) (by omega) (by omega) hk hn
        refine ⟨by omega, b, c, fun j j0 j1 => ?_⟩
        by_cases hj : j = i
        · subst hj; omega
        · exact d j (by omega) j1
theorem ordf_spec {k : Int} (hk : k < fsum cs 256) : 0 ≤ ordf cs k ∧ ordf cs k ≤ 255 ∧ k < fsum cs (ordf cs k + 1) ∧ ∀ j, 0 ≤ j → j < ordf cs k → fsum cs (j + 1) ≤ k := ordA_spec cs k 256 0 (by omega) (by omega) hk (by decide)
theorem ordf_sum {k : Int} (hc : ∀ e : Int, 0 ≤ e → e < 256 → 0 ≤ cs e) (hk : k < fsum cs 256) : ordf cs k = fsum (fun i => if fsum cs (i + 1) ≤ k then 1 else 0) 256 := by
  obtain ⟨a, b, c, d⟩ := ordf_spec hk
  have e1 := fsum_lt a 256
  have e2 : fsum (fun i => if fsum cs (i + 1) ≤ k then 1 else 0) ((256 : Nat) : Int) = fsum (fun j => if j < ordf cs k then 1 else 0) ((256 : Nat) : Int) := by
    refine fsum_ext (fun e e0 e1 => ?_)
    by_cases he : e < ordf cs k
    · rw [if_pos he, if_pos (d e e0 he)]
    · rw [if_neg he, if_neg]
      have := fsum_le (f := cs) (a := ordf cs k + 1) (b := e + 1) (fun j j0 j1 => hc j j0 (by omega)) (by omega) (by omega)
      omega
  show _ = fsum _ ((256 : Nat) : Int)
  rw [e2, e1]
  omega
theorem ordf_mono {k k' : Int} (hc : ∀ e : Int, 0 ≤ e → e < 256 → 0 ≤ cs e) (hk : k' < fsum cs 256) (hkk : k ≤ k') : ordf cs k ≤ ordf cs k' := by
  rw [ordf_sum hc (by omega), ordf_sum hc hk]
  refine fsum_mono (fun e _ _ => ?_)
  split
  · rw [if_pos (by omega)]; exact Int.le_refl _
  · split <;> decide
/-- how many are not above i -/
theorem hist_cum (hf : vok f) {n i : Int} (h0 : 0 ≤ n) (h1 : n ≤ 256) (hi : 0 ≤ i) : fsum (hist f n) i = fsum (fun e => if f e < i then 1 else 0) n := by
  have e1 : fsum (hist f n) i = fsum (fun j => fsum (fun e => if f e = j then 1 else 0) n) i := rfl
  rw [e1, fsum_swapI (fun j e => if f e = j then 1 else 0) hi n]
  refine fsum_ext (fun e e0 e2 => ?_)
  have hv := hf e e0 (by omega)
  have a := fsum_lt (c := f e) hv.1 i.toNat
  have b := fsum_lt (c := f e + 1) (by omega) i.toNat
  rw [Int.toNat_of_nonneg hi] at a b
  have c : fsum (fun j => if j < f e + 1 then 1 else 0) i = fsum (fun j => (if j < f e then 1 else 0) + (if f e = j then 1 else 0)) i := fsum_ext (fun j _ _ => by split <;> split <;> split <;> omega)
  rw [fsum_add] at c
  show fsum (fun j => if f e = j then 1 else 0) i = _
  split <;> omega
theorem hist_all (hf : vok f) {n : Int} (h0 : 0 ≤ n) (h1 : n ≤ 256) : fsum (hist f n) 256 = n := by
  rw [hist_cum hf h0 h1 (by omega)]
  refine Eq.trans (fsum_ext (fun e e0 e1 => ?_)) (fsum_1 h0)
  rw [if_pos]
  have := hf e e0 (by omega)
  omega
theorem ord_total (hf : vok f) {n : Int} (h0 : 0 ≤ n) (h1 : n ≤ 256) : fsum (fun k => ordf (hist f n) k) n = fsum f n := by
  have hc : ∀ e : Int, 0 ≤ e → e < 256 → 0 ≤ hist f n e := fun e _ _ => (hist_bd f h0 h1 e).1
  have hall := hist_all hf h0 h1
  have s1 : fsum (fun k => ordf (hist f n) k) n = fsum (fun k => fsum (fun i => if fsum (hist f n) (i + 1) ≤ k then 1 else 0) 256) n := fsum_ext (fun k k0 k1 => ordf_sum hc (by omega))
  have s2 : fsum f n = fsum (fun e => fsum (fun i => if i < f e then 1 else 0) 256) n := fsum_ext (fun e e0 e1 => by
    have hv := hf e e0 (by omega)
    have := fsum_lt (c := f e) hv.1 256
    show _ = fsum _ ((256 : Nat) : Int)
    omega)
  rw [s1, s2, fsum_swapI _ h0, fsum_swapI _ h0]
  refine fsum_ext (fun i i0 i1 => ?_)
  have c1 := hist_cum hf h0 h1 (i := i + 1) (by omega)
  have b1 : 0 ≤ fsum (hist f n) (i + 1) := by
    have := fsum_le (f := hist f n) (a := 0) (b := i + 1) (fun e e0 e1 => hc e e0 (by omega)) (by omega) (by omega)
    rwa [fsum_0] at this
  have b2 : fsum (hist f n) (i + 1) ≤ n := by
    have := fsum_le (f := hist f n) (a := i + 1) (b := 256) (fun e e0 e1 => hc e e0 (by omega)) (by omega) (by omega)
    omega
  have g1 := fsum_ge b1 n.toNat
  rw [Int.toNat_of_nonneg h0] at g1
  have g2 : fsum (fun e => (if f e < i + 1 then 1 else 0) + (if i < f e then 1 else 0)) n = fsum (fun _ => 1) n := fsum_ext (fun e _ _ => by split <;> split <;> omega)
  rw [fsum_add, fsum_1 h0] at g2
  omega
/-- least and greatest -/
theorem ord_between (hf : vok f) {n e : Int} (h1 : n ≤ 256) (e0 : 0 ≤ e) (e1 : e < n) : ordf (hist f n) 0 ≤ f e ∧ f e ≤ ordf (hist f n) (n - 1) := by
  have hall := hist_all hf (n := n) (by omega) h1
  have hv := hf e e0 (by omega)
  obtain ⟨a1, a2, a3, a4⟩ := ordf_spec (cs := hist f n) (k := 0) (by omega)
  obtain ⟨b1, b2, b3, b4⟩ := ordf_spec (cs := hist f n) (k := n - 1) (by omega)
  have pos : ∀ c : Int, f e < c → 1 ≤ fsum (fun j => if f j < c then 1 else 0) n := fun c hc => by
    have l1 := fsum_le (f := fun j => if f j < c then (1 : Int) else 0) (a := e + 1) (b := n) (fun j _ _ => by show (0 : Int) ≤ (if f j < c then 1 else 0); split <;> decide) (by omega) (by omega)
    have l2 := fsum_le (f := fun j => if f j < c then (1 : Int) else 0) (a := 0) (b := e) (fun j _ _ => by show (0 : Int) ≤ (if f j < c then 1 else 0); split <;> decide) (by omega) (by omega)
    rw [fsum_succ _ e0] at l1
    rw [fsum_0] at l2
    have : (if f e < c then (1 : Int) else 0) = 1 := if_pos hc
    omega
  constructor
  · by_cases hlt : f e < ordf (hist f n) 0
    · have := a4 (f e) hv.1 hlt
      rw [hist_cum hf (by omega) h1 (by omega)] at this
      have := pos (f e + 1) (by omega)
      omega
    · omega
  · by_cases hlt : ordf (hist f n) (n - 1) < f e
    · rw [hist_cum hf (by omega) h1 (by omega)] at b3
      have g2 : fsum (fun j => (if f j < ordf (hist f n) (n - 1) + 1 then 1 else 0) + (if ¬ f j < ordf (hist f n) (n - 1) + 1 then 1 else 0)) n = fsum (fun _ => 1) n := fsum_ext (fun j _ _ => by by_cases hq : f j < ordf (hist f n) (n - 1) + 1 <;> simp [hq])
      rw [fsum_add, fsum_1 (by omega)] at g2
      have l1 := fsum_le (f := fun j => if ¬ f j < ordf (hist f n) (n - 1) + 1 then (1 : Int) else 0) (a := e + 1) (b := n) (fun j _ _ => by show (0 : Int) ≤ (if ¬ f j < _ then 1 else 0); split <;> decide) (by omega) (by omega)
      have l2 := fsum_le (f := fun j => if ¬ f j < ordf (hist f n) (n - 1) + 1 then (1 : Int) else 0) (a := 0) (b := e) (fun j _ _ => by show (0 : Int) ≤ (if ¬ f j < _ then 1 else 0); split <;> decide) (by omega) (by omega)
      rw [fsum_succ _ e0] at l1
      rw [fsum_0] at l2
      have : (if ¬ f e < ordf (hist f n) (n - 1) + 1 then (1 : Int) else 0) = 1 := if_pos (by omega)
      omega
    · omega
end MATH2
/-! what is far -/
section MATH3
variable {w h x y way : Int} {f : Int → Int}
theorem m_sq (d : Int) : d * d = (d.natAbs : Int) * (d.natAbs : Int) := by rw [← Int.natCast_mul, Int.natAbs_mul_self]
theorem m_sqge {a : Int} (h : 0 ≤ a) : a ≤ a * a := by
  by_cases h0 : a = 0
  · subst h0; decide
  · have := Int.mul_le_mul_of_nonneg_left (show 1 ≤ a by omega) h
    omega
theorem dst_rel (dx dy : Int) : dst 1 dx dy ≤ dst 0 dx dy ∧ dst 2 dx dy ≤ dst 0 dx dy * dst 0 dx dy ∧ dst 1 dx dy ≤ dst 2 dx dy := by
  show max (dx.natAbs : Int) (dy.natAbs : Int) ≤ (dx.natAbs : Int) + (dy.natAbs : Int) ∧ dx * dx + dy * dy ≤ ((dx.natAbs : Int) + (dy.natAbs : Int)) * ((dx.natAbs : Int) + (dy.natAbs : Int)) ∧ max (dx.natAbs : Int) (dy.natAbs : Int) ≤ dx * dx + dy * dy
  rw [m_sq dx, m_sq dy]
  have ha : 0 ≤ (dx.natAbs : Int) := by omega
  have hb : 0 ≤ (dy.natAbs : Int) := by omega
  generalize (dx.natAbs : Int) = a at *
  generalize (dy.natAbs : Int) = b at *
  have h1 := m_sqge ha
  have h2 := m_sqge hb
  have h3 := Int.mul_nonneg ha hb
  rw [Int.add_mul, Int.mul_add, Int.mul_add, Int.mul_comm b a]
  omega
theorem dst_pos {dx dy : Int} (h : dx ≠ 0 ∨ dy ≠ 0) : 0 < dst way dx dy := by
  have ha : 0 ≤ (dx.natAbs : Int) := by omega
  have hb : 0 ≤ (dy.natAbs : Int) := by omega
  have h1 := m_sqge ha
  have h2 := m_sqge hb
  have e1 := m_sq dx
  have e2 := m_sq dy
  unfold dst
  split
  · omega
  · split
    · omega
    · omega
def offE (w h : Int) (f : Int → Int) (e : Int) : Prop := inG w h e ∧ f e < 128
theorem gfar_spec (hd : 1 ≤ w ∧ w ≤ 16 ∧ 1 ≤ h ∧ h ≤ 16) (hx : 0 ≤ x ∧ x < w) (hy : 0 ≤ y ∧ y < h) (hon : 128 ≤ f (y * w + x)) : ∀ n : Nat, (n : Int) ≤ w * h →
    (gfar w way x y f n = 0 ∧ ∀ e : Int, 0 ≤ e → e < n → 128 ≤ f e) ∨ (0 < gfar w way x y f n ∧ (∃ e : Int, e < n ∧ offE w h f e ∧ gfar w way x y f n = dst way (e % w - x) (e / w - y)) ∧ ∀ e : Int, e < n → offE w h f e → gfar w way x y f n ≤ dst way (e % w - x) (e / w - y))
  | 0, _ => .inl ⟨rfl, fun e e0 e1 => by omega⟩
  | n + 1, hn => by
    have ih := gfar_spec hd hx hy hon n (by omega)
    have hin : inG w h (n : Int) := ⟨by omega, by omega⟩
    unfold gfar
    by_cases hf : f (n : Int) < 128
    · rw [if_pos hf]
      have hp : 0 < dst way ((n : Int) % w - x) ((n : Int) / w - y) := by
        refine dst_pos ?_
        by_cases hc : (n : Int) % w - x = 0
        · refine .inr (fun hc2 => ?_)
          have g := inG_xy hd.1 hin
          rw [show (n : Int) % w = x by omega, show (n : Int) / w = y by omega] at g
          rw [g.2.2.2.2] at hon
          omega
        · exact .inl hc
      rcases ih with ⟨i1, i2⟩ | ⟨i1, ⟨e, e1, e2, e3⟩, i3⟩
      · rw [if_pos i1]
        refine .inr ⟨hp, ⟨(n : Int), by omega, ⟨hin, hf⟩, rfl⟩, fun e e1 e2 => ?_⟩
        by_cases he : e = (n : Int)
        · subst he; exact Int.le_refl _
        · have := i2 e e2.1.1 (by omega)
          have := e2.2
          omega
      · rw [if_neg (by omega)]
        refine .inr ⟨by omega, ?_, fun e' e1' e2' => ?_⟩
        · by_cases hm : gfar w way x y f n ≤ dst way ((n : Int) % w - x) ((n : Int) / w - y)
          · exact ⟨e, by omega, e2, by omega⟩
          · exact ⟨(n : Int), by omega, ⟨hin, hf⟩, by omega⟩
        · by_cases he : e' = (n : Int)
          · subst he; omega
          · have := i3 e' (by omega) e2'
            omega
    · rw [if_neg hf]
      rcases ih with ⟨i1, i2⟩ | ⟨i1, ⟨e, e1, e2, e3⟩, i3⟩
      · refine .inl ⟨i1, fun e e0 e1 => ?_⟩
        by_cases he : e = (n : Int)
        · subst he; omega
        · exact i2 e e0 (by omega)
      · refine .inr ⟨i1, ⟨e, by omega, e2, e3⟩, fun e' e1' e2' => ?_⟩
        by_cases he : e' = (n : Int)
        · subst he; exact absurd e2'.2 hf
        · exact i3 e' (by omega) e2'
/-- where a FIELD is not on: the least distance -/
theorem ffar_in (hd : 1 ≤ w ∧ w ≤ 16 ∧ 1 ≤ h ∧ h ≤ 16) (hx : 0 ≤ x ∧ x < w) (hy : 0 ≤ y ∧ y < h) (hon : 128 ≤ f (y * w + x)) (hex : ∃ e, offE w h f e) :
    0 < ffar w h f way x y ∧ (∃ e, offE w h f e ∧ ffar w h f way x y = dst way (e % w - x) (e / w - y)) ∧ ∀ e, offE w h f e → ffar w h f way x y ≤ dst way (e % w - x) (e / w - y) := by
  have ha := m_area hd.1 hd.2.1 hd.2.2.1 hd.2.2.2
  have hs := gfar_spec hd hx hy hon (way := way) (w * h).toNat (by omega)
  rw [Int.toNat_of_nonneg (show 0 ≤ w * h by omega)] at hs
  change (mfar w way x y f (w * h) = 0 ∧ _) ∨ (0 < mfar w way x y f (w * h) ∧ (∃ e, e < w * h ∧ offE w h f e ∧ mfar w way x y f (w * h) = _) ∧ ∀ e, e < w * h → offE w h f e → mfar w way x y f (w * h) ≤ _) at hs
  rcases hs with ⟨i1, i2⟩ | ⟨i1, ⟨e, e1, e2, e3⟩, i3⟩
  · obtain ⟨e, he⟩ := hex
    have := i2 e he.1.1 he.1.2
    have := he.2
    omega
  · unfold ffar
    rw [if_neg (by omega), if_pos i1]
    exact ⟨i1, ⟨e, e2, e3⟩, fun e' he => i3 e' he.1.2 he⟩
theorem ffar_out (hd : 1 ≤ w ∧ w ≤ 16 ∧ 1 ≤ h ∧ h ≤ 16) (hx : 0 ≤ x ∧ x < w) (hy : 0 ≤ y ∧ y < h) (hon : 128 ≤ f (y * w + x)) (hex : ¬ ∃ e, offE w h f e) :
    ffar w h f way x y = dst way (min (min (x + 1) (w - x)) (min (y + 1) (h - y))) 0 := by
  have ha := m_area hd.1 hd.2.1 hd.2.2.1 hd.2.2.2
  have hs := gfar_spec hd hx hy hon (way := way) (w * h).toNat (by omega)
  rw [Int.toNat_of_nonneg (show 0 ≤ w * h by omega)] at hs
  rcases hs with ⟨i1, i2⟩ | ⟨i1, ⟨e, e1, e2, e3⟩, i3⟩
  · unfold ffar
    rw [if_neg (by omega), if_neg (show ¬ 0 < mfar w way x y f (w * h) by unfold mfar; omega)]
  · exact absurd ⟨e, e2⟩ hex
theorem ffar_off (hoff : f (y * w + x) < 128) : ffar w h f way x y = 0 := if_pos hoff
theorem ffar_bd (hd : 1 ≤ w ∧ w ≤ 16 ∧ 1 ≤ h ∧ h ≤ 16) (hx : 0 ≤ x ∧ x < w) (hy : 0 ≤ y ∧ y < h) : 0 ≤ ffar w h f way x y ∧ ffar w h f way x y ≤ 512 := by
  have ha := m_area hd.1 hd.2.1 hd.2.2.1 hd.2.2.2
  have hm : 0 ≤ mfar w way x y f (w * h) ∧ mfar w way x y f (w * h) ≤ 512 := mfar_bd hd hx hy (way := way) (f := f) (w * h).toNat (by omega)
  have hb := dst_bd (way := way) (dx := min (min (x + 1) (w - x)) (min (y + 1) (h - y))) (dy := 0) (by omega) (by omega)
  unfold ffar
  split
  · omega
  · split <;> omega
theorem m_msq {a b : Int} (h0 : 0 ≤ a) (h : a ≤ b) : a * a ≤ b * b := Int.mul_le_mul h h h0 (by omega)
theorem far_rel (hd : 1 ≤ w ∧ w ≤ 16 ∧ 1 ≤ h ∧ h ≤ 16) (hx : 0 ≤ x ∧ x < w) (hy : 0 ≤ y ∧ y < h) :
    (0 < ffar w h f 0 x y ↔ 128 ≤ f (y * w + x)) ∧ ffar w h f 1 x y ≤ ffar w h f 0 x y ∧ ffar w h f 2 x y ≤ ffar w h f 0 x y * ffar w h f 0 x y ∧ ffar w h f 1 x y ≤ ffar w h f 2 x y := by
  by_cases hon : 128 ≤ f (y * w + x)
  · by_cases hex : ∃ e, offE w h f e
    · obtain ⟨a1, ⟨e0, o0, a2⟩, a3⟩ := ffar_in hd hx hy hon hex (way := 0)
      obtain ⟨b1, -, b3⟩ := ffar_in hd hx hy hon hex (way := 1)
      obtain ⟨c1, ⟨e2, o2, c2⟩, c3⟩ := ffar_in hd hx hy hon hex (way := 2)
      have r0 := dst_rel (e0 % w - x) (e0 / w - y)
      have r2 := dst_rel (e2 % w - x) (e2 / w - y)
      have x1 := b3 e0 o0
      have x2 := c3 e0 o0
      have x3 := b3 e2 o2
      rw [← a2] at r0
      exact ⟨⟨fun _ => hon, fun _ => a1⟩, by omega, by omega, by omega⟩
    · rw [ffar_out hd hx hy hon hex, ffar_out hd hx hy hon hex, ffar_out hd hx hy hon hex]
      have r0 := dst_rel (min (min (x + 1) (w - x)) (min (y + 1) (h - y))) 0
      have p := dst_pos (way := 0) (dx := min (min (x + 1) (w - x)) (min (y + 1) (h - y))) (dy := 0) (.inl (by omega))
      exact ⟨⟨fun _ => hon, fun _ => p⟩, r0⟩
  · rw [ffar_off (by omega), ffar_off (by omega), ffar_off (by omega)]
    exact ⟨⟨fun z => by omega, fun z => absurd z hon⟩, by decide, by decide, by decide⟩
theorem far_step (hd : 1 ≤ w ∧ w ≤ 16 ∧ 1 ≤ h ∧ h ≤ 16) (hx : 1 ≤ x ∧ x < w) (hy : 0 ≤ y ∧ y < h) (hex : ∃ e, offE w h f e) : -1 ≤ ffar w h f 0 x y - ffar w h f 0 (x - 1) y ∧ ffar w h f 0 x y - ffar w h f 0 (x - 1) y ≤ 1 := by
  have hi := m_idx (show 0 ≤ x by omega) hx.2 hy.1 hy.2
  have hj := m_idx (show 0 ≤ x - 1 by omega) (show x - 1 < w by omega) hy.1 hy.2
  have mi := m_em (y := y) (show 0 ≤ x by omega) hx.2
  have mj := m_em (y := y) (show 0 ≤ x - 1 by omega) (show x - 1 < w by omega)
  have D : ∀ a b : Int, dst 0 a b = (a.natAbs : Int) + (b.natAbs : Int) := fun _ _ => rfl
  by_cases h1 : 128 ≤ f (y * w + x)
  · obtain ⟨a1, ⟨e1, o1, a2⟩, a3⟩ := ffar_in hd ⟨by omega, hx.2⟩ hy h1 hex (way := 0)
    by_cases h2 : 128 ≤ f (y * w + (x - 1))
    · obtain ⟨b1, ⟨e2, o2, b2⟩, b3⟩ := ffar_in (x := x - 1) hd ⟨by omega, by omega⟩ hy h2 hex (way := 0)
      have p := a3 e2 o2
      have q := b3 e1 o1
      rw [D] at a2 b2 p q
      omega
    · have p := a3 _ ⟨hj, by omega⟩
      rw [mj.1, mj.2, D] at p
      rw [ffar_off (x := x - 1) (by omega)]
      omega
  · rw [ffar_off (by omega)]
    by_cases h2 : 128 ≤ f (y * w + (x - 1))
    · obtain ⟨b1, ⟨e2, o2, b2⟩, b3⟩ := ffar_in (x := x - 1) hd ⟨by omega, by omega⟩ hy h2 hex (way := 0)
      have q := b3 _ ⟨hi, by omega⟩
      rw [mi.1, mi.2, D] at q
      omega
    · rw [ffar_off (x := x - 1) (by omega)]
      omega
theorem off_ex (hd : 1 ≤ w ∧ w ≤ 16 ∧ 1 ≤ h ∧ h ≤ 16) (hf : vok f) (hlt : fcnt f 128 255 (w * h) < w * h) : ∃ e, offE w h f e := by
  have ha := m_area hd.1 hd.2.1 hd.2.2.1 hd.2.2.2
  refine Classical.byContradiction fun hno => ?_
  have e : fcnt f 128 255 (w * h) = w * h := by
    refine Eq.trans (fsum_ext (fun e e0 e1 => ?_)) (fsum_1 (by omega))
    refine if_pos ⟨?_, (hf e e0 (by omega)).2⟩
    by_cases hc : f e < 128
    · exact absurd ⟨e, ⟨e0, e1⟩, hc⟩ hno
    · omega
  omega
/-- one step by four ways: the same PART -/
theorem isPt_step {a b z z' : Int} (hmb : adj w 4 a b) (ha : mbf w h f 128 1 a) (hb : mbf w h f 128 1 b) (h1 : isPt 4 w h f a z) (h2 : isPt 4 w h f b z') : z = z' := by
  obtain ⟨q, f1, c1, rfl⟩ := h1.2 ha
  obtain ⟨q', f2, c2, rfl⟩ := h2.2 hb
  have hc : cn w 4 (mbf w h f 128 1) q q' := cn_tr (cn_st c1 ha hb hmb) (cn_sy c2)
  have : q = q' := by
    by_cases h3 : q < q'
    · exact absurd hc (f2.2 q h3 f1.1)
    · by_cases h4 : q' < q
      · exact absurd (cn_sy hc) (f1.2 q' h4 f2.1)
      · omega
  rw [this]
theorem isPt_bd (hd : 1 ≤ w ∧ w ≤ 16 ∧ 1 ≤ h ∧ h ≤ 16) {ways e z : Int} (hi : inG w h e) (h1 : isPt ways w h f e z) : -1 ≤ z ∧ z ≤ 256 ∧ (0 ≤ z ↔ 128 ≤ f e) := by
  have ha := m_area hd.1 hd.2.1 hd.2.2.1 hd.2.2.2
  have hm : mbf w h f 128 1 e ↔ 128 ≤ f e := by
    unfold mbf mbr
    by_cases hc : 128 ≤ f e
    · rw [if_pos hc]; exact ⟨fun _ => hc, fun _ => ⟨hi, rfl⟩⟩
    · rw [if_neg hc]; exact ⟨fun z => by have := z.2; omega, fun z => absurd z hc⟩
  by_cases hc : 128 ≤ f e
  · obtain ⟨q, f1, c1, rfl⟩ := h1.2 (hm.mpr hc)
    have hq := f1.1.1
    have := rk_bd w ways (mbf w h f 128 1) (n := q) hq.1 (by have := hq.2; omega)
    have := hq.2
    exact ⟨by omega, by omega, fun _ => hc, fun _ => by omega⟩
  · have := h1.1 (fun z => hc (hm.mp z))
    exact ⟨by omega, by omega, fun _ => by omega, fun z => absurd z hc⟩
end MATH3
/-! least and greatest of the NINE: an adjoint pair -/
section MATH4
variable {w h : Int} {f g : Int → Int}
theorem mn0 (g : Int → Int) : ∀ n : Nat, n ≤ 9 → gst min 0 g n ≤ g 4 ∧ (∀ i : Int, 0 ≤ i → i < n → gst min 0 g n ≤ g i) ∧ ∃ i : Int, 0 ≤ i ∧ i < 9 ∧ gst min 0 g n = g i
  | 0, _ => ⟨Int.le_refl _, fun i i0 i1 => by omega, 4, by decide, by decide, rfl⟩
  | n + 1, hn => by
    obtain ⟨a, b, j, j0, j1, c⟩ := mn0 g n (by omega)
    have e : gst min 0 g (n + 1) = min (gst min 0 g n) (g (n : Int)) := by
      have := mst_succ min 0 g (i := (n : Int)) (by omega)
      rw [if_pos (.inl rfl)] at this
      unfold mst at this
      rwa [show ((n : Int) + 1).toNat = n + 1 by omega, Int.toNat_natCast] at this
    refine ⟨by omega, fun i i0 i1 => ?_, ?_⟩
    · by_cases hi : i = (n : Int)
      · subst hi; omega
      · have := b i i0 (by omega); omega
    · by_cases hm : gst min 0 g n ≤ g (n : Int)
      · exact ⟨j, j0, j1, by omega⟩
      · exact ⟨(n : Int), by omega, by omega, by omega⟩
theorem mx0 (g : Int → Int) : ∀ n : Nat, n ≤ 9 → g 4 ≤ gst max 0 g n ∧ (∀ i : Int, 0 ≤ i → i < n → g i ≤ gst max 0 g n) ∧ ∃ i : Int, 0 ≤ i ∧ i < 9 ∧ gst max 0 g n = g i
  | 0, _ => ⟨Int.le_refl _, fun i i0 i1 => by omega, 4, by decide, by decide, rfl⟩
  | n + 1, hn => by
    obtain ⟨a, b, j, j0, j1, c⟩ := mx0 g n (by omega)
    have e : gst max 0 g (n + 1) = max (gst max 0 g n) (g (n : Int)) := by
      have := mst_succ max 0 g (i := (n : Int)) (by omega)
      rw [if_pos (.inl rfl)] at this
      unfold mst at this
      rwa [show ((n : Int) + 1).toNat = n + 1 by omega, Int.toNat_natCast] at this
    refine ⟨by omega, fun i i0 i1 => ?_, ?_⟩
    · by_cases hi : i = (n : Int)
      · subst hi; omega
      · have := b i i0 (by omega); omega
    · by_cases hm : g (n : Int) ≤ gst max 0 g n
      · exact ⟨j, j0, j1, by omega⟩
      · exact ⟨(n : Int), by omega, by omega, by omega⟩
/-- the VALUES of a SHEET -/
def vG (w h : Int) (f : Int → Int) : Prop := ∀ e, inG w h e → 0 ≤ f e ∧ f e ≤ 255
theorem nine_in (hd : 1 ≤ w ∧ w ≤ 16 ∧ 1 ≤ h ∧ h ≤ 16) {e i : Int} (he : inG w h e) (i0 : 0 ≤ i) (i1 : i < 9) : ∃ e', inG w h e' ∧ adj w 8 e e' ∧ fnine w h f (e % w) (e / w) i = f e' := by
  have g := inG_xy hd.1 he
  have hx : 0 ≤ max 0 (min (e % w - 1 + i % 3) (w - 1)) ∧ max 0 (min (e % w - 1 + i % 3) (w - 1)) < w := by omega
  have hy : 0 ≤ max 0 (min (e / w - 1 + i / 3) (h - 1)) ∧ max 0 (min (e / w - 1 + i / 3) (h - 1)) < h := by omega
  have mi := m_idx hx.1 hx.2 hy.1 hy.2
  have me := m_em (y := max 0 (min (e / w - 1 + i / 3) (h - 1))) hx.1 hx.2
  refine ⟨_, mi, ?_, rfl⟩
  unfold adj
  rw [me.1, me.2]
  omega
theorem nine_ex (hd : 1 ≤ w ∧ w ≤ 16 ∧ 1 ≤ h ∧ h ≤ 16) {e e' : Int} (he : inG w h e) (he' : inG w h e') (ha : adj w 8 e e') : ∃ i : Int, 0 ≤ i ∧ i < 9 ∧ fnine w h f (e % w) (e / w) i = f e' := by
  have g := inG_xy hd.1 he
  have g' := inG_xy hd.1 he'
  unfold adj at ha
  refine ⟨(e' / w - e / w + 1) * 3 + (e' % w - e % w + 1), by omega, by omega, ?_⟩
  unfold fnine fnear
  generalize e' / w = y' at *
  generalize e' % w = x' at *
  rw [show max 0 (min (e / w - 1 + ((y' - e / w + 1) * 3 + (x' - e % w + 1)) / 3) (h - 1)) = y' by omega,
    show max 0 (min (e % w - 1 + ((y' - e / w + 1) * 3 + (x' - e % w + 1)) % 3) (w - 1)) = x' by omega, g'.2.2.2.2]
theorem nine_ok (hd : 1 ≤ w ∧ w ≤ 16 ∧ 1 ≤ h ∧ h ≤ 16) (hf : vG w h f) {e : Int} (he : inG w h e) : ∀ i : Int, 0 ≤ i → i < 9 → 0 ≤ fnine w h f (e % w) (e / w) i ∧ fnine w h f (e % w) (e / w) i ≤ 255 := by
  intro i i0 i1
  obtain ⟨e', h1, h2, h3⟩ := nine_in (f := f) hd he i0 i1
  rw [h3]
  exact hf e' h1
theorem E_eq (hd : 1 ≤ w ∧ w ≤ 16 ∧ 1 ≤ h ∧ h ≤ 16) (hf : vG w h f) {e : Int} (he : inG w h e) : fpas 3 w h f e = gst min 0 (fnine w h f (e % w) (e / w)) 9 := by
  have b := mst_min_ok (c := 0) (nine_ok hd hf he) 9 (by decide)
  show max 0 (min (gst min 0 (fnine w h f (e % w) (e / w)) 9) 255) = _
  omega
theorem D_eq (hd : 1 ≤ w ∧ w ≤ 16 ∧ 1 ≤ h ∧ h ≤ 16) (hf : vG w h f) {e : Int} (he : inG w h e) : fpas 5 w h f e = gst max 0 (fnine w h f (e % w) (e / w)) 9 := by
  have b := mst_max_ok (c := 0) (nine_ok hd hf he) 9 (by decide)
  show max 0 (min (gst max 0 (fnine w h f (e % w) (e / w)) 9) 255) = _
  omega
theorem E_le (hd : 1 ≤ w ∧ w ≤ 16 ∧ 1 ≤ h ∧ h ≤ 16) (hf : vG w h f) {e e' : Int} (he : inG w h e) (he' : inG w h e') (ha : adj w 8 e e') : fpas 3 w h f e ≤ f e' := by
  obtain ⟨i, i0, i1, i2⟩ := nine_ex (f := f) hd he he' ha
  rw [E_eq hd hf he, ← i2]
  exact (mn0 _ 9 (by decide)).2.1 i i0 i1
theorem E_ge (hd : 1 ≤ w ∧ w ≤ 16 ∧ 1 ≤ h ∧ h ≤ 16) (hf : vG w h f) {e c : Int} (he : inG w h e) (hc : ∀ e', inG w h e' → adj w 8 e e' → c ≤ f e') : c ≤ fpas 3 w h f e := by
  obtain ⟨i, i0, i1, i2⟩ := (mn0 (fnine w h f (e % w) (e / w)) 9 (by decide)).2.2
  obtain ⟨e', h1, h2, h3⟩ := nine_in (f := f) hd he i0 i1
  rw [E_eq hd hf he, i2, h3]
  exact hc e' h1 h2
theorem D_ge (hd : 1 ≤ w ∧ w ≤ 16 ∧ 1 ≤ h ∧ h ≤ 16) (hf : vG w h f) {e e' : Int} (he : inG w h e) (he' : inG w h e') (ha : adj w 8 e e') : f e' ≤ fpas 5 w h f e := by
  obtain ⟨i, i0, i1, i2⟩ := nine_ex (f := f) hd he he' ha
  rw [D_eq hd hf he, ← i2]
  exact (mx0 _ 9 (by decide)).2.1 i i0 i1
theorem D_le (hd : 1 ≤ w ∧ w ≤ 16 ∧ 1 ≤ h ∧ h ≤ 16) (hf : vG w h f) {e c : Int} (he : inG w h e) (hc : ∀ e', inG w h e' → adj w 8 e e' → f e' ≤ c) : fpas 5 w h f e ≤ c := by
  obtain ⟨i, i0, i1, i2⟩ := (mx0 (fnine w h f (e % w) (e / w)) 9 (by decide)).2.2
  obtain ⟨e', h1, h2, h3⟩ := nine_in (f := f) hd he i0 i1
  rw [D_eq hd hf he, i2, h3]
  exact hc e' h1 h2
theorem pas_vG (how : Int) : vG w h (fpas how w h f) := fun e _ => fpas_ok how w h f e
theorem open_le (hd : 1 ≤ w ∧ w ≤ 16 ∧ 1 ≤ h ∧ h ≤ 16) (hf : vG w h f) {e : Int} (he : inG w h e) : fpas 5 w h (fpas 3 w h f) e ≤ f e :=
  D_le hd (pas_vG 3) he (fun e' h1 h2 => E_le hd hf h1 he (adj_symm h2))
theorem close_ge (hd : 1 ≤ w ∧ w ≤ 16 ∧ 1 ≤ h ∧ h ≤ 16) (hf : vG w h f) {e : Int} (he : inG w h e) : f e ≤ fpas 3 w h (fpas 5 w h f) e :=
  E_ge hd (pas_vG 5) he (fun e' h1 h2 => D_ge hd hf h1 he (adj_symm h2))
theorem D_mono (hd : 1 ≤ w ∧ w ≤ 16 ∧ 1 ≤ h ∧ h ≤ 16) (hf : vG w h f) (hg : vG w h g) (hfg : ∀ e, inG w h e → f e ≤ g e) {e : Int} (he : inG w h e) : fpas 5 w h f e ≤ fpas 5 w h g e :=
  D_le hd hf he (fun e' h1 h2 => Int.le_trans (hfg e' h1) (D_ge hd hg he h1 h2))
theorem E_mono (hd : 1 ≤ w ∧ w ≤ 16 ∧ 1 ≤ h ∧ h ≤ 16) (hf : vG w h f) (hg : vG w h g) (hfg : ∀ e, inG w h e → f e ≤ g e) {e : Int} (he : inG w h e) : fpas 3 w h f e ≤ fpas 3 w h g e :=
  E_ge hd hg he (fun e' h1 h2 => Int.le_trans (E_le hd hf he h1 h2) (hfg e' h1))
theorem run_ok (how : Int) (e : Int) : 0 ≤ frun how w h f e ∧ frun how w h f e ≤ 255 := by
  unfold frun
  split
  · exact fpas_ok _ _ _ _ _
  · split <;> exact fpas_ok _ _ _ _ _
theorem run7_twice (hd : 1 ≤ w ∧ w ≤ 16 ∧ 1 ≤ h ∧ h ≤ 16) (hf : vG w h f) {e : Int} (he : inG w h e) : frun 7 w h (frun 7 w h f) e = frun 7 w h f e := by
  show fpas 5 w h (fpas 3 w h (fpas 5 w h (fpas 3 w h f))) e = fpas 5 w h (fpas 3 w h f) e
  refine Int.le_antisymm (open_le hd (pas_vG 5) he) ?_
  exact D_mono hd (pas_vG 3) (pas_vG 3) (fun e' h1 => close_ge hd (pas_vG 3) h1) he
theorem run8_twice (hd : 1 ≤ w ∧ w ≤ 16 ∧ 1 ≤ h ∧ h ≤ 16) (hf : vG w h f) {e : Int} (he : inG w h e) : frun 8 w h (frun 8 w h f) e = frun 8 w h f e := by
  show fpas 3 w h (fpas 5 w h (fpas 3 w h (fpas 5 w h f))) e = fpas 3 w h (fpas 5 w h f) e
  refine Int.le_antisymm ?_ (close_ge hd (pas_vG 3) he)
  exact E_mono hd (pas_vG 5) (pas_vG 5) (fun e' h1 => open_le hd (pas_vG 5) h1) he
theorem run_congr {how : Int} (hd : 1 ≤ w ∧ w ≤ 16 ∧ 1 ≤ h ∧ h ≤ 16) (he : ∀ e : Int, 0 ≤ e → e < w * h → f e = g e) : frun how w h f = frun how w h g := by
  unfold frun
  rw [fpas_congr hd.1 hd.2.2.1 he, fpas_congr hd.1 hd.2.2.1 he, fpas_congr hd.1 hd.2.2.1 he]
/-- least is no more, greatest no less -/
theorem gst_le (c : Int) (g : Int → Int) : ∀ n : Nat, gst min c g n ≤ g 4
  | 0 => Int.le_refl _
  | n + 1 => by
    have := gst_le c g n
    have e := mst_succ min c g (i := (n : Int)) (by omega)
    unfold mst at e
    rw [show ((n : Int) + 1).toNat = n + 1 by omega, Int.toNat_natCast] at e
    rw [e]
    split <;> omega
theorem gst_ge (c : Int) (g : Int → Int) : ∀ n : Nat, g 4 ≤ gst max c g n
  | 0 => Int.le_refl _
  | n + 1 => by
    have := gst_ge c g n
    have e := mst_succ max c g (i := (n : Int)) (by omega)
    unfold mst at e
    rw [show ((n : Int) + 1).toNat = n + 1 by omega, Int.toNat_natCast] at e
    rw [e]
    split <;> omega
theorem nine_4 (hd : 1 ≤ w ∧ w ≤ 16 ∧ 1 ≤ h ∧ h ≤ 16) {e : Int} (he : inG w h e) : fnine w h f (e % w) (e / w) 4 = f e := by
  have g := inG_xy hd.1 he
  unfold fnine fnear
  rw [show max 0 (min (e / w - 1 + 4 / 3) (h - 1)) = e / w by omega, show max 0 (min (e % w - 1 + 4 % 3) (w - 1)) = e % w by omega, g.2.2.2.2]
theorem run_low {how : Int} (hh : how = 3 ∨ how = 4) (hd : 1 ≤ w ∧ w ≤ 16 ∧ 1 ≤ h ∧ h ≤ 16) (hf : vG w h f) {e : Int} (he : inG w h e) : frun how w h f e ≤ f e := by
  have h4 := nine_4 (f := f) hd he
  have hv := hf e he
  rcases hh with rfl | rfl
  · have := gst_le 0 (fnine w h f (e % w) (e / w)) 9
    show max 0 (min (gst min 0 (fnine w h f (e % w) (e / w)) 9) 255) ≤ _
    omega
  · have := gst_le 1 (fnine w h f (e % w) (e / w)) 9
    show max 0 (min (gst min 1 (fnine w h f (e % w) (e / w)) 9) 255) ≤ _
    omega
theorem run_high {how : Int} (hh : how = 5 ∨ how = 6) (hd : 1 ≤ w ∧ w ≤ 16 ∧ 1 ≤ h ∧ h ≤ 16) (hf : vG w h f) {e : Int} (he : inG w h e) : f e ≤ frun how w h f e := by
  have h4 := nine_4 (f := f) hd he
  have hv := hf e he
  rcases hh with rfl | rfl
  · have := gst_ge 0 (fnine w h f (e % w) (e / w)) 9
    show _ ≤ max 0 (min (gst max 0 (fnine w h f (e % w) (e / w)) 9) 255)
    omega
  · have := gst_ge 1 (fnine w h f (e % w) (e / w)) 9
    show _ ≤ max 0 (min (gst max 1 (fnine w h f (e % w) (e / w)) 9) 255)
    omega
end MATH4
