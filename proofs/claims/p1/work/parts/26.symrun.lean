/-! the run by symbols is sound: table, blocks, fuel -/
def s_inc1 : List m_I → Nat → Bool
  | [], _ => true
  | q :: t, n => Nat.ble n q.1 && s_inc1 t (q.1 + 1)
def s_chk (M : Nat) (fo : Option Nat) : List m_I → Nat → Bool
  | [], pc => match fo with
    | some q => q == pc
    | none => true
  | q :: t, pc => q.1 == pc && s_chk M fo t (pc + m_len q.2.1 q.2.2.2.2.2)
theorem s_inc1_lt : ∀ {l : List m_I} {n : Nat}, s_inc1 l n = true → ∀ q ∈ l, n ≤ q.1
  | [], n, h, q, hq => by cases hq
  | a :: t, n, h, q, hq => by
    have h' : (Nat.ble n a.1 && s_inc1 t (a.1 + 1)) = true := h
    rw [Bool.and_eq_true, Nat.ble_eq] at h'
    rcases List.mem_cons.mp hq with rfl | hq
    · exact h'.1
    · have := s_inc1_lt h'.2 q hq
      omega
theorem s_inc1_find : ∀ {l : List m_I} {n : Nat}, s_inc1 l n = true → ∀ q ∈ l, l.find? (fun p => p.1 == q.1) = some q
  | [], n, h, q, hq => by cases hq
  | a :: t, n, h, q, hq => by
    have h' : (Nat.ble n a.1 && s_inc1 t (a.1 + 1)) = true := h
    rw [Bool.and_eq_true, Nat.ble_eq] at h'
    rw [List.find?_cons]
    rcases List.mem_cons.mp hq with rfl | hq
    · simp
    · have := s_inc1_lt h'.2 q hq
      rw [show (a.1 == q.1) = false by simp; omega]
      exact s_inc1_find h'.2 q hq
theorem s_code_of {M n : Nat} (h : s_inc1 (m_prog M) n = true) {q : m_I} (hq : q ∈ m_prog M) : m_code M q.1 = some q.2 := by
  unfold m_code
  rw [s_inc1_find h q hq]
  rfl
theorem s_row_mem {M a n : Nat} {q : m_I} (h : q ∈ s_row M a n) : q ∈ m_prog M := List.mem_of_mem_drop (List.mem_of_mem_take h)
section SZ2
variable {scr : List Int32} {σ ρ : Nat → Nat}
theorem s_cmp_ok (hσ : s_in σ) {r : sR} {M : Nat} (hr : ∀ M pc, s_OK scr σ ρ (r M pc) M pc) (fo : Option Nat) : ∀ (l : List m_I) (pc : Nat), (∀ q ∈ l, m_code M q.1 = some q.2) → s_chk M fo l pc = true → s_OK scr σ ρ (s_cmp r M (s_ends r M fo) l) M pc
  | [], pc, _, h => by
    cases fo with
    | none => exact O_fail
    | some q =>
      have h' : (q == pc) = true := h
      have : q = pc := by simpa using h'
      subst this
      exact hr M q
  | (p, i, x, y, w, z) :: t, pc, hm, h => by
    have h' : (p == pc && s_chk M fo t (pc + m_len i z)) = true := h
    rw [Bool.and_eq_true] at h'
    have : p = pc := by simpa using h'.1
    subst this
    exact s_cmp1_ok hσ (hm (p, i, x, y, w, z) List.mem_cons_self) hr (s_cmp_ok hσ hr fo t _ (fun q hq => hm q (List.mem_cons_of_mem _ hq)) h'.2)
theorem kBl_of {α : Type} {pc : Nat} {kk : α → Bool} : ∀ {bl : List (Nat × α)}, kBl pc bl kk = true → ∃ b, (pc, b) ∈ bl ∧ kk b = true
  | [], h => by cases h
  | (q, b) :: t, h => by
    have h' : (Bool.rec (motive := fun _ => Bool) (kBl pc t kk) (kk b) (Nat.beq q pc) : Bool) = true := h
    cases hq : Nat.beq q pc with
    | true =>
      rw [hq] at h'
      have := Nat.beq_eq.mp hq; subst this
      exact ⟨b, List.mem_cons_self, h'⟩
    | false =>
      rw [hq] at h'
      obtain ⟨b', h1, h2⟩ := kBl_of (bl := t) h'
      exact ⟨b', List.mem_cons_of_mem _ h1, h2⟩
def s_bchk : Bool := s_bct.all (fun q => s_inc1 (m_prog q.1) 0 && q.2.all (fun b => s_chk q.1 b.2.2.2 (s_row q.1 b.2.1 b.2.2.1) b.1))
set_option maxRecDepth 100000 in
theorem s_bchk_ok : s_bchk = true := by decide +kernel
theorem s_run_ok (hσ : s_in σ) : ∀ (n M pc : Nat), s_OK scr σ ρ (s_run n M pc) M pc
  | 0, M, pc => O_fail
  | n + 1, M, pc => by
    intro L S F H E B CF cL cH h hL hF hH hE hB
    have h' : kBl M s_tab (fun bl => kBl pc bl (fun b => b (s_run n) L S (F, H, E, B))) = true := h
    obtain ⟨bl, h1, h2⟩ := kBl_of h'
    obtain ⟨b, h3, h4⟩ := kBl_of h2
    rw [bq_all] at h1
    obtain ⟨q, hq, hq2⟩ := List.mem_map.mp h1
    cases hq2
    obtain ⟨g, hg, hg2⟩ := List.mem_map.mp h3
    cases hg2
    have hck := List.all_eq_true.mp s_bchk_ok q hq
    rw [Bool.and_eq_true] at hck
    have hck2 := List.all_eq_true.mp hck.2 g hg
    exact s_cmp_ok hσ (s_run_ok hσ n) g.2.2.2 _ _ (fun p hp => s_code_of hck.1 (s_row_mem hp)) hck2 L S F H E B CF cL cH h4 hL hF hH hE hB
end SZ2
