/-! runs by symbols with blocks of their own -/
noncomputable section
def kBd {α : Type} (pc : Nat) (bl : List (Nat × α)) (k : α → Bool) (d : Bool) : Bool := List.rec (motive := fun _ => Bool) d (fun p _ ih => Prod.rec (motive := fun _ => Bool) (fun q b => Bool.rec (motive := fun _ => Bool) ih (k b) (Nat.beq q pc)) p) bl
abbrev sO : Type := List (Nat × List (Nat × (sR → sK)))
def s_lookO (O : sO) (r : sR) : sR := fun M pc L S X => kBd M O (fun bl => kBd pc bl (fun b => b r L S X) (s_look r M pc L S X)) (s_look r M pc L S X)
def s_runO (O : sO) (n : Nat) : sR := Nat.rec (motive := fun _ => sR) (fun _ _ => s_fail) (fun _ ih => s_lookO O ih) n
end
theorem kBd_of {α : Type} {pc : Nat} {kk : α → Bool} {d : Bool} : ∀ {bl : List (Nat × α)}, kBd pc bl kk d = true → (∃ b, (pc, b) ∈ bl ∧ kk b = true) ∨ d = true
  | [], h => Or.inr h
  | (q, b) :: t, h => by
    have h' : (Bool.rec (motive := fun _ => Bool) (kBd pc t kk d) (kk b) (Nat.beq q pc) : Bool) = true := h
    cases hq : Nat.beq q pc with
    | true =>
      rw [hq] at h'
      have := Nat.beq_eq.mp hq; subst this
      exact Or.inl ⟨b, List.mem_cons_self, h'⟩
    | false =>
      rw [hq] at h'
      rcases kBd_of (bl := t) h' with ⟨b', h1, h2⟩ | h1
      · exact Or.inl ⟨b', List.mem_cons_of_mem _ h1, h2⟩
      · exact Or.inr h1
section OV
variable {scr : List Int32} {σ ρ : Nat → Nat} {M pc x y w : Nat} {z : Int} {k kt kf : sK}
theorem s_look_ok (hσ : s_in σ) {r : sR} (hr : ∀ M pc, s_OK scr σ ρ (r M pc) M pc) (M pc : Nat) : s_OK scr σ ρ (s_look r M pc) M pc := by
  intro L S F H E B CF cL cH h hL hF hH hE hB
  have h' : kBl M s_tab (fun bl => kBl pc bl (fun b => b r L S (F, H, E, B))) = true := h
  obtain ⟨bl, h1, h2⟩ := kBl_of h'
  obtain ⟨b, h3, h4⟩ := kBl_of h2
  rw [bq_all] at h1
  obtain ⟨q, hq, hq2⟩ := List.mem_map.mp h1
  cases hq2
  obtain ⟨g, hg, hg2⟩ := List.mem_map.mp h3
  cases hg2
  have hck := List.all_eq_true.mp s_bchk_ok q hq
  rw [Bool.and_eq_true] at hck
  have hck2 := List.all_eq_true.mp hck.2 g hg
  exact s_cmp_ok hσ hr g.2.2.2 _ _ (fun p hp => s_code_of hck.1 (s_row_mem hp)) hck2 L S F H E B CF cL cH h4 hL hF hH hE hB
def s_Oo (scr : List Int32) (σ ρ : Nat → Nat) (O : sO) : Prop := ∀ M bl, (M, bl) ∈ O → ∀ pc b, (pc, b) ∈ bl → ∀ r : sR, (∀ M pc, s_OK scr σ ρ (r M pc) M pc) → s_OK scr σ ρ (b r) M pc
theorem s_runO_ok (hσ : s_in σ) {O : sO} (hO : s_Oo scr σ ρ O) : ∀ (n M pc : Nat), s_OK scr σ ρ (s_runO O n M pc) M pc
  | 0, M, pc => O_fail
  | n + 1, M, pc => by
    intro L S F H E B CF cL cH h hL hF hH hE hB
    have hl := s_look_ok hσ (s_runO_ok hσ hO n) M pc
    have h' : kBd M O (fun bl => kBd pc bl (fun b => b (s_runO O n) L S (F, H, E, B)) (s_look (s_runO O n) M pc L S (F, H, E, B))) (s_look (s_runO O n) M pc L S (F, H, E, B)) = true := h
    rcases kBd_of h' with ⟨bl, h1, h2⟩ | h1
    · rcases kBd_of h2 with ⟨b, h3, h4⟩ | h3
      · exact hO M bl h1 pc b h3 _ (s_runO_ok hσ hO n) L S F H E B CF cL cH h4 hL hF hH hE hB
      · exact hl L S F H E B CF cL cH h3 hL hF hH hE hB
    · exact hl L S F H E B CF cL cH h1 hL hF hH hE hB
/-- rows, then whatever follows -/
theorem s_cmp_fin (hσ : s_in σ) {r : sR} {fin : sK} (hr : ∀ M pc, s_OK scr σ ρ (r M pc) M pc) : ∀ (l : List m_I) (pc pe : Nat), (∀ q ∈ l, m_code M q.1 = some q.2) → s_chk M (some pe) l pc = true → s_OK scr σ ρ fin M pe → s_OK scr σ ρ (s_cmp r M fin l) M pc
  | [], pc, pe, _, h, hf => by
    have h' : (pe == pc) = true := h
    have : pe = pc := by simpa using h'
    subst this
    exact hf
  | (p, i, x, y, w, z) :: t, pc, pe, hm, h, hf => by
    have h' : (p == pc && s_chk M (some pe) t (pc + m_len i z)) = true := h
    rw [Bool.and_eq_true] at h'
    have : p = pc := by simpa using h'.1
    subst this
    exact s_cmp1_ok hσ (hm (p, i, x, y, w, z) List.mem_cons_self) hr (s_cmp_fin hσ hr t _ pe (fun q hq => hm q (List.mem_cons_of_mem _ hq)) h'.2 hf)
/-- .. rows of the program, from a place on -/
theorem s_rows_fin (hσ : s_in σ) {r : sR} {fin : sK} (hr : ∀ M pc, s_OK scr σ ρ (r M pc) M pc) {a n pc pe : Nat} (h0 : s_inc1 (m_prog M) 0 = true) (h : s_chk M (some pe) (s_row M a n) pc = true) (hf : s_OK scr σ ρ fin M pe) : s_OK scr σ ρ (s_cmp r M fin (s_row M a n)) M pc :=
  s_cmp_fin hσ hr _ pc pe (fun q hq => s_code_of h0 (s_row_mem hq)) h hf
/-- what the symbols stand for: cells from 10 on, sums of them from 80 on -/
def s_cnt (ρ : Nat → Nat) : Prop := cI (ρ 80) = 0 ∧ ∀ i, i < 64 → cI (ρ (81 + i)) = cI (ρ (80 + i)) + (if cI (ρ (10 + i)) = 0 then 0 else 1)
def s_sms (ρ : Nat → Nat) : Prop := cI (ρ 80) = 0 ∧ ∀ i, i < 64 → cI (ρ (81 + i)) = cI (ρ (80 + i)) + cI (ρ (10 + i))
end OV
noncomputable section
/-- a sum up to i: nought, or its symbol -/
def kPs (v : sV) (i : Nat) (b : Bool) : Bool := Sum.rec (motive := fun _ => Bool) (fun e => kB (Nat.beq e 2147483648) (kB (Nat.beq i 0) b false) false) (fun v => kSy (.inr v) (fun j => kB (Nat.beq j (Nat.add 80 i)) b false)) v
/-- the cell's symbol i against nought, a count below, and the end of the round -/
def s_mgD (r : sR) : sK := fun L S X => kPp S (fun v u S => kNil S (kZ u (kSy v (fun j => kB (Nat.ble 10 j) (kFrc (Nat.sub j 10) (fun i => kB (Nat.ble i 63) (kGet L 2 (fun c => kPs c i (kGet L 3 (fun e => kI e (fun e => kB (Nat.beq e (Nat.add i 2147483648)) (kFrc (Nat.add i 81) (fun j => kFrc (Nat.add e 1) (fun e => kSl L 2 (.inr (.inr (.inl j))) (fun L => kSl L 3 (.inl e) (fun L => r 38 4 L S X))))) false))))) false)) false)) false))
def s_mgO (r : sR) : sK := fun L S X => kP3 S (fun v u c S => kNil S (kZ v (kSy u (fun j => kB (Nat.ble 10 j) (kFrc (Nat.sub j 10) (fun i => kB (Nat.ble i 63) (kPs c i (kGet L 3 (fun e => kI e (fun e => kB (Nat.beq e (Nat.add i 2147483648)) (kFrc (Nat.add i 81) (fun j => kFrc (Nat.add e 1) (fun e => kSl L 2 (.inr (.inr (.inl j))) (fun L => kSl L 3 (.inl e) (fun L => r 113 4 L S X))))) false)))) false)) false)) false))
/-- a cell's symbol added to the sum below -/
def s_adS (k : sK) : sK := fun L S X => kPp S (fun v u S => kSy v (fun j => kB (Nat.ble 10 j) (kFrc (Nat.sub j 10) (fun i => kB (Nat.ble i 63) (kPs u i (kFrc (Nat.add i 81) (fun j => k L (.inr (.inr (.inl j)) :: S) X))) false)) false))
end
section OV2
variable {scr : List Int32} {σ ρ : Nat → Nat} {M pc x y w : Nat} {z : Int} {k kt kf : sK}
theorem kPs_of {v : sV} {i : Nat} {b : Bool} (h0 : cI (ρ 80) = 0) (h : kPs v i b = true) : sv σ ρ v = .int (cI (ρ (80 + i))) ∧ b = true := by
  rcases v with e | v
  · have h' : kB (Nat.beq e 2147483648) (kB (Nat.beq i 0) b false) false = true := h
    rw [kB_f, kB_f] at h'
    obtain ⟨h1, h2, h3⟩ := h'
    have := Nat.beq_eq.mp h1; subst this
    have := Nat.beq_eq.mp h2; subst this
    refine ⟨?_, h3⟩
    show Value.int (cI 2147483648) = _
    rw [cI_zero, h0]
  · have h' : kSy (.inr v) (fun j => kB (Nat.beq j (Nat.add 80 i)) b false) = true := h
    obtain ⟨j, hj, h2⟩ := (kSy_iff _ _).mp h'
    rw [kB_f] at h2
    have := Nat.beq_eq.mp h2.1
    rw [hj, this]
    exact ⟨rfl, h2.2⟩
theorem O_mgD {off : Int} (hn : s_cnt ρ) (c24 : m_code 38 24 = some (.if_icmp .eq off, 30, 0, 0, 0)) (c27 : m_code 38 27 = some (.iinc 2 1, 0, 0, 0, 0)) (c30 : m_code 38 30 = some (.iinc 3 1, 0, 0, 0, 0)) {off2 : Int} (c33 : m_code 38 33 = some (.goto off2, 4, 0, 0, 0)) {r : sR} (hr : ∀ M pc, s_OK scr σ ρ (r M pc) M pc) : s_OK scr σ ρ (s_mgD r) 38 24 := by
  intro L S F H E B CF cL cH g0 hL hF hH hE hB
  obtain ⟨v, u, S, rfl, g1⟩ := (kPp_iff _ _).mp g0
  rw [kNil_iff] at g1
  obtain ⟨rfl, g2⟩ := g1
  rcases (kZ_iff _ _ _).mp g2 with ⟨rfl, g3⟩ | ⟨-, g3⟩
  rotate_left
  · cases g3
  obtain ⟨j, rfl, h⟩ := (kSy_iff _ _).mp g3
  rw [kB_f, kFrc_eq, kB_f, Nat.ble_eq, Nat.ble_eq] at h
  obtain ⟨h10, h63, h⟩ := h
  obtain ⟨i, rfl⟩ : ∃ i, j = 10 + i := ⟨j - 10, by omega⟩
  have e0 : Nat.sub (10 + i) 10 = i := by show 10 + i - 10 = i; omega
  rw [e0] at h63 h
  obtain ⟨c, hc, k1⟩ := (kGet_iff _ _ _).mp h
  obtain ⟨hcv, k2⟩ := kPs_of (σ := σ) hn.1 k1
  obtain ⟨e, he, k3⟩ := (kGet_iff _ _ _).mp k2
  obtain ⟨e, rfl, k4⟩ := (kI_iff _ _).mp k3
  rw [kB_f, kFrc_eq, kFrc_eq] at k4
  obtain ⟨h1, k5⟩ := k4
  have he1 := Nat.beq_eq.mp h1
  have he1' : e = i + 2147483648 := he1
  obtain ⟨a1, k6, a2⟩ := kSl_of k5
  obtain ⟨a3, h, a4⟩ := kSl_of k6
  have l2 : m_ld cL 2 = some (.int (cI (ρ (80 + i)))) := by rw [hL 2 c hc (v_neI hcv), hcv]
  have l3 : m_ld cL 3 = some (.int (cI e)) := hL 3 _ he (by rintro q; cases q)
  have hs := hn.2 i (by omega)
  have inc : cI e + Int32.ofInt 1 = cI (e + 1) := by
    have q := cI_inc e 1
    rw [q]
    show cI ((e + 1) % 4294967296) = _
    rw [cI_mod]
  have fin : ∀ cL', s_lo σ ρ ((L.set 2 (v_s (Nat.add i 81))).set 3 (v_i (Nat.add e 1))) cL' → m_Rn scr CF 38 4 cL' [] cH := fun cL' hl => hr 38 4 _ [] F H E B CF cL' cH h hl hF hH hE hB
  have e81 : cI (ρ (Nat.add i 81)) = cI (ρ (81 + i)) := by rw [show Nat.add i 81 = 81 + i from Nat.add_comm _ _]
  have hv3 : sv σ ρ (v_i (Nat.add e 1)) = .int (cI (e + 1)) := rfl
  have hv2 : sv σ ρ (v_s (Nat.add i 81)) = .int (cI (ρ (81 + i))) := by show Value.int (cI (ρ (Nat.add i 81))) = _; rw [e81]
  have q30 : ∀ cL1, s_lo σ ρ (L.set 2 (v_s (Nat.add i 81))) cL1 → m_ld cL1 3 = some (.int (cI e)) → m_Rn scr CF 38 30 cL1 [] cH := by
    intro cL1 hl hl3
    refine m_R1 c30 rfl (pc' := 33) (L' := m_st1 3 (.int (cI e + Int32.ofInt 1)) cL1) (S' := []) (H' := cH) (by simp only [m_ex, hl3]) (m_R1 c33 rfl rfl (fin _ ?_))
    rw [inc, ← hv3]
    exact hl.st1 a4
  by_cases hz : cI (ρ (10 + i)) = 0
  · refine m_R1 c24 rfl (pc' := 30) (L' := cL) (S' := []) (H' := cH) ?_ (q30 cL ?_ l3)
    · show some (if m_cmp .eq (cI 2147483648) (cI (ρ (10 + i))) = true then 30 else 27, cL, [], cH) = _
      rw [hz, cI_zero, if_pos (by decide)]
    · intro j v hj hv
      by_cases q : j = 2
      · subst q
        rw [List.getElem?_set_self a1] at hj
        cases hj
        rw [l2, hv2, hs, if_pos hz, Int32.add_zero]
      · rw [List.getElem?_set_ne (Ne.symm q)] at hj
        exact hL j v hj hv
  · refine m_R1 c24 rfl (pc' := 27) (L' := cL) (S' := []) (H' := cH) ?_ (m_R1 c27 rfl (pc' := 30) (L' := m_st1 2 (.int (cI (ρ (80 + i)) + Int32.ofInt 1)) cL) (S' := []) (H' := cH) (by simp only [m_ex, l2]) (q30 _ ?_ ?_))
    · show some (if m_cmp .eq (cI 2147483648) (cI (ρ (10 + i))) = true then 30 else 27, cL, [], cH) = _
      rw [cI_zero, if_neg (by simp only [m_cmp, decide_eq_true_eq]; exact fun q => hz q.symm)]
    · have e1 : cI (ρ (80 + i)) + Int32.ofInt 1 = cI (ρ (81 + i)) := by
        rw [hs, if_neg hz]
        rfl
      rw [e1, ← hv2]
      exact hL.st1 a2
    · have hl := hL.st1 (v := v_s (Nat.add i 81)) a2
      have e1 : cI (ρ (80 + i)) + Int32.ofInt 1 = cI (ρ (81 + i)) := by
        rw [hs, if_neg hz]
        rfl
      rw [e1, ← hv2]
      exact hl 3 (v_i e) (by rw [List.getElem?_set_ne (by decide)]; exact he) (by rintro q; cases q)
theorem O_adS (hn : s_sms ρ) (hc : m_code M pc = some (.iadd, x, y, 0, z)) (hk : s_OK scr σ ρ k M (pc + 1)) : s_OK scr σ ρ (s_adS k) M pc := by
  intro L S F H E B CF cL cH g0 hL hF hH hE hB
  obtain ⟨v, u, S, rfl, g1⟩ := (kPp_iff _ _).mp g0
  obtain ⟨j, rfl, h⟩ := (kSy_iff _ _).mp g1
  rw [kB_f, kFrc_eq, kB_f, Nat.ble_eq, Nat.ble_eq] at h
  obtain ⟨h10, h63, h⟩ := h
  obtain ⟨i, rfl⟩ : ∃ i, j = 10 + i := ⟨j - 10, by omega⟩
  have e0 : Nat.sub (10 + i) 10 = i := by show 10 + i - 10 = i; omega
  rw [e0] at h63 h
  obtain ⟨hcv, k1⟩ := kPs_of (σ := σ) hn.1 h
  rw [kFrc_eq] at k1
  refine m_R1 hc rfl ?_ (hk L (v_s (Nat.add i 81) :: S) F H E B CF cL cH k1 hL hF hH hE hB)
  simp only [List.map_cons, hcv]
  show some (pc + 1, cL, Value.int (cI (ρ (80 + i)) + cI (ρ (10 + i))) :: _, cH) = some (pc + 1, cL, Value.int (cI (ρ (Nat.add i 81))) :: _, cH)
  rw [← hn.2 i (by omega), show Nat.add i 81 = 81 + i from Nat.add_comm _ _]
end OV2
