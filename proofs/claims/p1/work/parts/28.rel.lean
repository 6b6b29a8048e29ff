/-! a start of the run by symbols speaks of the heap before the first call -/
def s_pi (p : List Nat) (n : Nat) : Nat := if n < 41 then (if 2 ≤ n ∧ n < 10 then 2 + 2 * p.getD ((n - 2) / 2) 0 + (n - 2) % 2 else if 33 ≤ n then 33 + 2 * p.getD ((n - 33) / 2) 0 + (n - 33) % 2 else n) else n
def s_sg (p : List Nat) (n : Nat) : Nat := s_pi p n + 1
def s_inv (p q : List Nat) : Bool := (List.range 41).all (fun n => s_pi q (s_pi p n) == n)
theorem s_sg_in {p q : List Nat} (h : s_inv p q = true) : s_in (s_sg p) := by
  intro a b hab
  have li : ∀ n, s_pi q (s_pi p n) = n := fun n => by
    by_cases hn : n < 41
    · simpa using List.all_eq_true.mp h n (List.mem_range.mpr hn)
    · have e : ∀ p, s_pi p n = n := fun p => by unfold s_pi; rw [if_neg hn]
      rw [e, e]
  have h1 : s_pi p a = s_pi p b := by
    have : s_pi p a + 1 = s_pi p b + 1 := hab
    omega
  rw [← li a, ← li b, h1]
def c_eq (σ : Nat → Nat) : sV → Value → Bool
  | .inl e, .int x => decide (cI e = x)
  | .inr (.inl r), .ref x => Nat.beq (σ r) x
  | .inr (.inr (.inr (.inr (.inl l)))), .long x => decide (l < 18446744073709551616) && decide (Int64.ofNat l = x)
  | .inr (.inr (.inr (.inr (.inr (.inl 0))))), .null => true
  | .inr (.inr (.inr (.inr (.inr (.inl (d + 1)))))), .double x => decide (UInt64.ofNat d = x)
  | _, _ => false
theorem c_eq_of {σ ρ : Nat → Nat} {v : sV} {x : Value} (h : c_eq σ v x = true) : sv σ ρ v = x := by
  unfold c_eq at h
  split at h
  · rw [← of_decide_eq_true h]; rfl
  · rw [← Nat.beq_eq.mp h]; rfl
  · rw [Bool.and_eq_true] at h
    rw [← of_decide_eq_true h.2]
    exact sv_ln (of_decide_eq_true h.1)
  · rfl
  · rw [← of_decide_eq_true h]; rfl
  · cases h
def ck_row (σ : Nat → Nat) (k : List Value → Bool) : List sV → List Value → Bool
  | [], vs => k vs
  | v :: r, x :: vs => c_eq σ v x && ck_row σ k r vs
  | _ :: _, [] => false
theorem ck_row_of {σ ρ : Nat → Nat} {k : List Value → Bool} : ∀ {r : List sV} {vs : List Value}, ck_row σ k r vs = true → ∃ us, vs = r.map (sv σ ρ) ++ us ∧ k us = true
  | [], vs, h => ⟨vs, rfl, h⟩
  | v :: r, x :: vs, h => by
    have h' : (c_eq σ v x && ck_row σ k r vs) = true := h
    rw [Bool.and_eq_true] at h'
    obtain ⟨us, h1, h2⟩ := ck_row_of (ρ := ρ) h'.2
    exact ⟨us, by rw [List.map_cons, c_eq_of h'.1, h1]; rfl, h2⟩
def ck_T (σ : Nat → Nat) : List (List sV) → List Value → Bool
  | [], vs => vs.isEmpty
  | r :: T, vs => ck_row σ (fun us => us.isEmpty || (r.length == 16 && ck_T σ T us)) r vs
theorem ck_T_of {σ ρ : Nat → Nat} : ∀ {T : List (List sV)} {vs : List Value}, (∀ r ∈ T, r.length ≤ 16) → ck_T σ T vs = true → ∀ i, i < vs.length → ∃ v, g2 T i = some v ∧ vs[i]? = some (sv σ ρ v)
  | [], vs, _, h, i, hi => by
    have h' : vs.isEmpty = true := h
    have : vs = [] := by simpa using h'
    subst this
    cases hi
  | r :: T, vs, hl, h, i, hi => by
    have h' : ck_row σ (fun us => us.isEmpty || (r.length == 16 && ck_T σ T us)) r vs = true := h
    obtain ⟨us, rfl, h2⟩ := ck_row_of (ρ := ρ) h'
    by_cases hr : i < r.length
    · have h16 := hl r List.mem_cons_self
      rw [g2_lo (by omega), List.getElem?_append_left (by simpa using hr), List.getElem?_map]
      obtain ⟨v, hv⟩ : ∃ v, r[i]? = some v := ⟨_, List.getElem?_eq_getElem hr⟩
      exact ⟨v, hv, by rw [hv]; rfl⟩
    · rw [List.length_append, List.length_map] at hi
      rw [Bool.or_eq_true] at h2
      rcases h2 with h2 | h2
      · have : us = [] := by simpa using h2
        subst this
        simp at hi
        omega
      · rw [Bool.and_eq_true] at h2
        have h16 : r.length = 16 := by simpa using h2.1
        obtain ⟨v, h3, h4⟩ := ck_T_of (ρ := ρ) (fun q hq => hl q (List.mem_cons_of_mem _ hq)) h2.2 (i - 16) (by omega)
        refine ⟨v, by rw [g2_hi (by omega)]; exact h3, ?_⟩
        rw [List.getElem?_append_right (by simp; omega), List.length_map, h16]
        exact h4
def ck_c (σ : Nat → Nat) (pa : List (Nat × Nat)) (cH : List mC) (n : Nat) : sC → Bool
  | .inl (t, len, T) => T.all (fun r => Nat.ble r.length 16) && (match m_get cH (σ n) with
    | some (.inl (u, vs)) => Nat.beq u t && Nat.beq vs.length len && Nat.ble len 2147483648 && ck_T σ T vs
    | _ => false)
  | .inr (.inl (ci, fs)) => Nat.beq ci 98 || (match m_get cH (σ n) with
    | some (.inr (cj, gs)) => Nat.beq cj ci && ck_row σ (fun us => us.isEmpty) fs gs
    | _ => false)
  | .inr (.inr (t, _, es)) => (match m_get cH (σ n) with
    | some (.inl (u, vs)) => Nat.beq u t && es.all (fun q => match pa.lookup q.1 with
      | some s => Nat.ble s 2147483647 && (match vs[s]? with
        | some x => c_eq σ q.2 x
        | none => false)
      | none => false) && es.all (fun q => es.all (fun q' => Nat.beq q.1 q'.1 || !(pa.lookup q.1 == pa.lookup q'.1)))
    | _ => false)
theorem lookup_mem {j : Nat} {v : sV} : ∀ {es : List (Nat × sV)}, es.lookup j = some v → (j, v) ∈ es
  | [], h => by cases h
  | (a, u) :: es, h => by
    rw [List.lookup_cons] at h
    split at h
    · next q =>
      have : j = a := by simpa using q
      subst this
      cases h
      exact List.mem_cons_self
    · exact List.mem_cons_of_mem _ (lookup_mem h)
theorem ck_c_of {σ ρ : Nat → Nat} {pa : List (Nat × Nat)} {cH : List mC} {n : Nat} {c : sC} (hpa : ∀ j s, pa.lookup j = some s → ρ j = 2147483648 + s) (h : ck_c σ pa cH n c = true) : s_cr σ ρ cH n c := by
  rcases c with ⟨t, len, T⟩ | ⟨ci, fs⟩ | ⟨t, len, es⟩
  · have h' : (T.all (fun r => Nat.ble r.length 16) && (match m_get cH (σ n) with
      | some (.inl (u, vs)) => Nat.beq u t && Nat.beq vs.length len && Nat.ble len 2147483648 && ck_T σ T vs
      | _ => false)) = true := h
    rw [Bool.and_eq_true] at h'
    obtain ⟨h1, h2⟩ := h'
    split at h2
    · next u vs hg =>
      simp only [Bool.and_eq_true, Nat.beq_eq, Nat.ble_eq] at h2
      obtain ⟨⟨⟨rfl, rfl⟩, h3⟩, h4⟩ := h2
      exact ⟨h3, vs, hg, rfl, ck_T_of (fun r hr => Nat.ble_eq.mp (List.all_eq_true.mp h1 r hr)) h4⟩
    · cases h2
  · have h' : (Nat.beq ci 98 || (match m_get cH (σ n) with
      | some (.inr (cj, gs)) => Nat.beq cj ci && ck_row σ (fun us => us.isEmpty) fs gs
      | _ => false)) = true := h
    rw [Bool.or_eq_true] at h'
    rcases h' with h1 | h2
    · exact Or.inl (Nat.beq_eq.mp h1)
    · split at h2
      · next cj gs hg =>
        rw [Bool.and_eq_true] at h2
        obtain ⟨us, hu, he⟩ := ck_row_of (ρ := ρ) h2.2
        have : us = [] := by simpa using he
        subst this
        have := Nat.beq_eq.mp h2.1
        subst this
        refine Or.inr ?_
        rw [hg, hu, List.append_nil]
      · cases h2
  · have h' : (match m_get cH (σ n) with
      | some (.inl (u, vs)) => Nat.beq u t && es.all (fun q => match pa.lookup q.1 with
        | some s => Nat.ble s 2147483647 && (match vs[s]? with
          | some x => c_eq σ q.2 x
          | none => false)
        | none => false) && es.all (fun q => es.all (fun q' => Nat.beq q.1 q'.1 || !(pa.lookup q.1 == pa.lookup q'.1)))
      | _ => false) = true := h
    split at h'
    · next u vs hg =>
      rw [Bool.and_eq_true, Bool.and_eq_true] at h'
      obtain ⟨⟨h1, h2⟩, h3⟩ := h'
      have := Nat.beq_eq.mp h1
      subst this
      have at1 : ∀ j v, es.lookup j = some v → ∃ s, pa.lookup j = some s ∧ s ≤ 2147483647 ∧ vs[s]? = some (sv σ ρ v) := by
        intro j v hj
        have q := List.all_eq_true.mp h2 (j, v) (lookup_mem hj)
        dsimp only at q
        split at q
        · next s hs =>
          rw [Bool.and_eq_true] at q
          obtain ⟨q1, q2⟩ := q
          split at q2
          · next x hx => exact ⟨s, hs, Nat.ble_eq.mp q1, by rw [hx, c_eq_of q2]⟩
          · cases q2
        · cases q
      refine ⟨vs, hg, fun j v hj => ?_, fun j j' v v' hj hj' hr => ?_⟩
      · obtain ⟨s, a1, a2, a3⟩ := at1 j v hj
        have a4 := hpa j s a1
        exact ⟨by omega, by omega, by rw [a4, Nat.add_sub_cancel_left]; exact a3⟩
      · have q := List.all_eq_true.mp (List.all_eq_true.mp h3 (j, v) (lookup_mem hj)) (j', v') (lookup_mem hj')
        obtain ⟨s, a1, a2, a3⟩ := at1 j v hj
        obtain ⟨s', b1, b2, b3⟩ := at1 j' v' hj'
        have a4 := hpa j s a1
        have b4 := hpa j' s' b1
        have : s = s' := by omega
        subst this
        rw [Bool.or_eq_true] at q
        rcases q with q | q
        · exact Nat.beq_eq.mp q
        · dsimp only at q
          rw [a1, b1] at q
          simp at q
    · cases h'
def ck_H (p : List Nat) (pa : List (Nat × Nat)) (H : sH) : Bool := Nat.ble H.length 8 && (List.range 512).all (fun n => match hg H n with
  | some c => ck_c (s_sg p) pa m_H0 n c
  | none => true)
theorem ck_H_of {p : List Nat} {ρ : Nat → Nat} {pa : List (Nat × Nat)} {H : sH} (hpa : ∀ j s, pa.lookup j = some s → ρ j = 2147483648 + s) (h : ck_H p pa H = true) : s_ho (s_sg p) ρ H m_H0 := by
  intro n c hn
  unfold ck_H at h
  rw [Bool.and_eq_true] at h
  have hlt : n < 512 := by
    unfold hg at hn
    obtain ⟨a, ha, -⟩ := Option.bind_eq_some_iff.mp hn
    have h1 := (List.getElem?_eq_some_iff.mp ha).1
    have h2 := Nat.ble_eq.mp h.1
    omega
  have q := List.all_eq_true.mp h.2 n (List.mem_range.mpr hlt)
  rw [hn] at q
  exact ck_c_of hpa q
theorem s_start {scr : List Int32} {p q : List Nat} {ρ : Nat → Nat} {pa : List (Nat × Nat)} {H : sH} {E : sE} {tb : List Nat} {pc : Nat} (n : Nat) (hl : scr.length = 7) (hp : s_inv p q = true) (hpa : ∀ j s, pa.lookup j = some s → ρ j = 2147483648 + s) (hck : ck_H p pa H = true) (hE : s_eo ρ E) (htb : ∀ i j : Nat, tb[i]? = some j → i < 7 → scr[i]? = some (cI (ρ j))) (hrun : s_run n 244 pc s_L0 [] (s_X H E tb) = true) : m_Rn scr [] 244 pc m_L0 [] m_H0 := by
  have hn : ∀ i, 41 ≤ i → s_sg p i = i + 1 := fun i hi => by
    unfold s_sg s_pi
    rw [if_neg (by omega)]
  have h0 : s_sg p 0 = 1 := rfl
  have h30 : s_sg p 30 = 31 := rfl
  refine s_run_ok (scr := scr) (ρ := ρ) (s_sg_in hp) n 244 pc s_L0 [] [] H E (43, 43, 3957, tb) [] m_L0 m_H0 hrun ?_ trivial (ck_H_of hpa hck) hE ⟨fun i => ?_, ?_, ?_, htb, hl⟩
  · intro i v hi hv
    rcases i with _ | _ | _ | _ | _ | _ | _ | _ | _ | i
    · cases hi; rfl
    · cases hi; show some (Value.ref 1) = some (Value.ref (s_sg p 0)); rw [h0]
    · cases hi; show some (Value.ref 31) = some (Value.ref (s_sg p 30)); rw [h30]
    · cases hi; show some (Value.ref 42) = some (Value.ref (s_sg p 41)); rw [hn 41 (by omega)]
    · cases hi; show some (Value.ref 43) = some (Value.ref (s_sg p 42)); rw [hn 42 (by omega)]
    · cases hi; rfl
    · cases hi; exact absurd rfl hv
    · cases hi; exact absurd rfl hv
    · cases hi; exact absurd rfl hv
    · cases hi
  · show s_sg p (43 + i) = _
    rw [hn _ (by omega), m_H0_l.1]
    omega
  · exact m_H0_l.1.symm
  · exact m_H0_l.2.symm
