/-! runs in pieces: a stop is a state written out; what is not wanted any more is left out of it -/
abbrev sT : Type := List sV × List sV × sX
noncomputable section
def kVe (u v : sV) (b : Bool) : Bool := kV u
  (fun a => kV v (fun c => kB (Nat.beq a c) b false) (fun _ => false) (fun _ => false) (fun _ => false) (fun _ => false) (fun _ => false) (fun _ => false))
  (fun a => kV v (fun _ => false) (fun c => kB (Nat.beq a c) b false) (fun _ => false) (fun _ => false) (fun _ => false) (fun _ => false) (fun _ => false))
  (fun a => kV v (fun _ => false) (fun _ => false) (fun c => kB (Nat.beq a c) b false) (fun _ => false) (fun _ => false) (fun _ => false) (fun _ => false))
  (fun a => kV v (fun _ => false) (fun _ => false) (fun _ => false) (fun c => kB (Nat.beq a c) b false) (fun _ => false) (fun _ => false) (fun _ => false))
  (fun a => kV v (fun _ => false) (fun _ => false) (fun _ => false) (fun _ => false) (fun c => kB (Nat.beq a c) b false) (fun _ => false) (fun _ => false))
  (fun a => kV v (fun _ => false) (fun _ => false) (fun _ => false) (fun _ => false) (fun _ => false) (fun c => kB (Nat.beq a c) b false) (fun _ => false))
  (fun a => kV v (fun _ => false) (fun _ => false) (fun _ => false) (fun _ => false) (fun _ => false) (fun _ => false) (fun c => kB (Nat.beq a c) b false))
def kLq {α : Type} (e : α → α → Bool → Bool) (l m : List α) (b : Bool) : Bool := List.rec (motive := fun _ => List α → Bool) (fun m => kNil m b) (fun a _ ih m => kPop m (fun c m => e a c (ih m))) l m
def kNe (a c : Nat) (b : Bool) : Bool := kB (Nat.beq a c) b false
def kPq {α β : Type} (e : α → α → Bool → Bool) (f : β → β → Bool → Bool) (p q : α × β) (b : Bool) : Bool := Prod.rec (motive := fun _ => Bool) (fun a x => Prod.rec (motive := fun _ => Bool) (fun c y => e a c (f x y b)) q) p
/-- the cell d stands for c: d is told no more, or is c -/
def kCe (d c : sC) (b : Bool) : Bool := kC d
  (fun t n T => kC c (fun t' n' T' => kNe t t' (kNe n n' (kLq (kLq kVe) T T' b))) (fun _ _ => false) (fun _ _ _ => false))
  (fun ci fs => kB (Nat.beq ci 98) b (kC c (fun _ _ _ => false) (fun cj gs => kNe ci cj (kLq kVe fs gs b)) (fun _ _ _ => false)))
  (fun t n es => kC c (fun _ _ _ => false) (fun _ _ => false) (fun t' n' es' => kNe t t' (kNe n n' (kLq (kPq kNe kVe) es es' b))))
/-- is it nothing told -/
def kPd (v : sV) (t f : Bool) : Bool := kV v (fun _ => f) (fun _ => f) (fun _ => f) (fun _ => f) (fun _ => f) (fun d => kB (Nat.beq d 0) t f) (fun _ => f)
def kLl (l m : List sV) (b : Bool) : Bool := List.rec (motive := fun _ => List sV → Bool) (fun _ => b) (fun a _ ih m => kPop m (fun c m => kPd a (ih m) (kVe a c (ih m)))) l m
def kFe (f g : sF) (b : Bool) : Bool := kPq kNe (kPq kNe (kPq (kLq kVe) (kPq (kLq kVe) (kLq (kPq kNe (kPq kNe kNe)))))) f g b
def kXe (x y : sX) (b : Bool) : Bool := Prod.rec (motive := fun _ => Bool) (fun F Y => Prod.rec (motive := fun _ => Bool) (fun H Z => Prod.rec (motive := fun _ => Bool) (fun E B =>
  Prod.rec (motive := fun _ => Bool) (fun F' Y' => Prod.rec (motive := fun _ => Bool) (fun H' Z' => Prod.rec (motive := fun _ => Bool) (fun E' B' =>
    kPq kNe (kPq kNe (kPq kNe (kLq kNe))) B B' (kLq kFe F F' (kLq (kPq kNe (kPq kNe (kLq kNe))) E E' (kLq (kLq (kLq kCe)) H H' b)))) Z') Y') y) Z) Y) x
def kSt (T : sT) (L S : List sV) (X : sX) : Bool := Prod.rec (motive := fun _ => Bool) (fun L0 T => Prod.rec (motive := fun _ => Bool) (fun S0 X0 => kXe X0 X (kLq kVe S0 S (kLl L0 L true))) T) T
def s_stop (T : sT) (M pc : Nat) (r : sR) : sK := fun L S X => kB (kSt T L S X) true (s_look r M pc L S X)
end
section SE
/-- what a way of comparing says -/
def eqv {α : Type} (e : α → α → Bool → Bool) : Prop := ∀ a c b, e a c b = true → a = c ∧ b = true
theorem kNe_e : eqv kNe := fun a c b h => by
  have h' : kB (Nat.beq a c) b false = true := h
  rw [kB_f] at h'
  exact ⟨Nat.beq_eq.mp h'.1, h'.2⟩
theorem kVe_e : eqv kVe := fun u v b h => by
  rcases u with a | a | a | a | a | a | a <;> rcases v with c | c | c | c | c | c | c <;> first
    | (have h' : kNe a c b = true := h
       obtain ⟨h1, h2⟩ := kNe_e _ _ _ h'
       rw [h1]
       exact ⟨rfl, h2⟩)
    | (have h' : false = true := h
       cases h')
theorem kLq_e {α : Type} {e : α → α → Bool → Bool} (he : eqv e) : eqv (kLq e) := fun l => by
  induction l with
  | nil =>
    intro m b h
    have h' : kNil m b = true := h
    rw [kNil_iff] at h'
    exact ⟨h'.1.symm, h'.2⟩
  | cons a l ih =>
    intro m b h
    have h' : kPop m (fun c m => e a c (kLq e l m b)) = true := h
    obtain ⟨c, m', rfl, h2⟩ := (kPop_iff _ _).mp h'
    obtain ⟨h3, h4⟩ := he _ _ _ h2
    obtain ⟨h5, h6⟩ := ih m' b h4
    exact ⟨by rw [h3, h5], h6⟩
theorem kPq_e {α β : Type} {e : α → α → Bool → Bool} {f : β → β → Bool → Bool} (he : eqv e) (hf : eqv f) : eqv (kPq e f) := fun p q b h => by
  obtain ⟨a, x⟩ := p
  obtain ⟨c, y⟩ := q
  have h' : e a c (f x y b) = true := h
  obtain ⟨h1, h2⟩ := he _ _ _ h'
  obtain ⟨h3, h4⟩ := hf _ _ _ h2
  exact ⟨by rw [h1, h3], h4⟩
theorem kFe_e : eqv kFe := fun f g b h => kPq_e kNe_e (kPq_e kNe_e (kPq_e (kLq_e kVe_e) (kPq_e (kLq_e kVe_e) (kLq_e (kPq_e kNe_e (kPq_e kNe_e kNe_e)))))) f g b h
def c_as (d c : sC) : Prop := (∃ fs, d = .inr (.inl (98, fs))) ∨ d = c
theorem kCe_of {d c : sC} {b : Bool} (h : kCe d c b = true) : c_as d c ∧ b = true := by
  rcases d with ⟨t, n, T⟩ | ⟨ci, fs⟩ | ⟨t, n, es⟩
  · rcases c with ⟨t', n', T'⟩ | ⟨cj, gs⟩ | ⟨t', n', es'⟩
    · have h' : kNe t t' (kNe n n' (kLq (kLq kVe) T T' b)) = true := h
      obtain ⟨h1, h2⟩ := kNe_e _ _ _ h'
      obtain ⟨h3, h4⟩ := kNe_e _ _ _ h2
      obtain ⟨h5, h6⟩ := kLq_e (kLq_e kVe_e) _ _ _ h4
      exact ⟨Or.inr (by rw [h1, h3, h5]), h6⟩
    · have h' : false = true := h
      cases h'
    · have h' : false = true := h
      cases h'
  · have h' : kB (Nat.beq ci 98) b (kC c (fun _ _ _ => false) (fun cj gs => kNe ci cj (kLq kVe fs gs b)) (fun _ _ _ => false)) = true := h
    rw [kB_iff] at h'
    rcases h' with ⟨h1, h2⟩ | ⟨-, h2⟩
    · have := Nat.beq_eq.mp h1
      subst this
      exact ⟨Or.inl ⟨fs, rfl⟩, h2⟩
    · rcases c with ⟨t', n', T'⟩ | ⟨cj, gs⟩ | ⟨t', n', es'⟩
      · have h' : false = true := h2
        cases h'
      · have h' : kNe ci cj (kLq kVe fs gs b) = true := h2
        obtain ⟨h3, h4⟩ := kNe_e _ _ _ h'
        obtain ⟨h5, h6⟩ := kLq_e kVe_e _ _ _ h4
        exact ⟨Or.inr (by rw [h3, h5]), h6⟩
      · have h' : false = true := h2
        cases h'
  · rcases c with ⟨t', n', T'⟩ | ⟨cj, gs⟩ | ⟨t', n', es'⟩
    · have h' : false = true := h
      cases h'
    · have h' : false = true := h
      cases h'
    · have h' : kNe t t' (kNe n n' (kLq (kPq kNe kVe) es es' b)) = true := h
      obtain ⟨h1, h2⟩ := kNe_e _ _ _ h'
      obtain ⟨h3, h4⟩ := kNe_e _ _ _ h2
      obtain ⟨h5, h6⟩ := kLq_e (kPq_e kNe_e kVe_e) _ _ _ h4
      exact ⟨Or.inr (by rw [h1, h3, h5]), h6⟩
/-- the same, place by place -/
theorem kLq_at {α : Type} {e : α → α → Bool → Bool} {P : α → α → Prop} (he : ∀ a c b, e a c b = true → P a c ∧ b = true) : ∀ {l m : List α} {b : Bool}, kLq e l m b = true → (∀ (i : Nat) a, l[i]? = some a → ∃ c, m[i]? = some c ∧ P a c) ∧ b = true
  | [], m, b, h => by
    have h' : kNil m b = true := h
    rw [kNil_iff] at h'
    exact ⟨fun i a hi => (by simp at hi), h'.2⟩
  | a :: l, m, b, h => by
    have h' : kPop m (fun c m => e a c (kLq e l m b)) = true := h
    obtain ⟨c, m', rfl, h2⟩ := (kPop_iff _ _).mp h'
    obtain ⟨h3, h4⟩ := he _ _ _ h2
    obtain ⟨h5, h6⟩ := kLq_at he h4
    refine ⟨fun i x hi => ?_, h6⟩
    cases i with
    | zero =>
      have hi' : some a = some x := hi
      cases hi'
      exact ⟨c, rfl, h3⟩
    | succ i => exact h5 i x hi
theorem kPd_or {v : sV} {t f : Bool} (h : kPd v t f = true) : (v = v_d 0 ∧ t = true) ∨ f = true := by
  rcases v with a | a | a | a | a | a | a
  · exact Or.inr h
  · exact Or.inr h
  · exact Or.inr h
  · exact Or.inr h
  · exact Or.inr h
  · have h' : kB (Nat.beq a 0) t f = true := h
    rw [kB_iff] at h'
    rcases h' with ⟨h1, h2⟩ | ⟨-, h2⟩
    · rw [Nat.beq_eq.mp h1]
      exact Or.inl ⟨rfl, h2⟩
    · exact Or.inr h2
  · exact Or.inr h
theorem kLl_of : ∀ {l m : List sV} {b : Bool}, kLl l m b = true → (∀ (i : Nat) v, l[i]? = some v → v ≠ v_d 0 → m[i]? = some v) ∧ b = true
  | [], m, b, h => ⟨fun i v hi => by simp at hi, h⟩
  | a :: l, m, b, h => by
    have h' : kPop m (fun c m => kPd a (kLl l m b) (kVe a c (kLl l m b))) = true := h
    obtain ⟨c, m', rfl, h2⟩ := (kPop_iff _ _).mp h'
    have h3 : (a = v_d 0 ∨ a = c) ∧ kLl l m' b = true := by
      rcases kPd_or h2 with ⟨q1, q2⟩ | q
      · exact ⟨Or.inl q1, q2⟩
      · obtain ⟨q1, q2⟩ := kVe_e _ _ _ q
        exact ⟨Or.inr q1, q2⟩
    obtain ⟨h5, h6⟩ := kLl_of h3.2
    refine ⟨fun i x hi hn => ?_, h6⟩
    cases i with
    | zero =>
      have hi' : some a = some x := hi
      cases hi'
      rcases h3.1 with q | q
      · exact absurd q hn
      · rw [q]; rfl
    | succ i => exact h5 i x hi hn
end SE
section SP
variable {scr : List Int32} {σ ρ : Nat → Nat} {M pc : Nat}
theorem s_ho.fits {H H' : sH} {cH : List mC} (h : s_ho σ ρ H cH) (ha : ∀ n d, hg H' n = some d → ∃ c, hg H n = some c ∧ c_as d c) : s_ho σ ρ H' cH := by
  intro n d hd
  obtain ⟨c, hc, ⟨fs, rfl⟩ | rfl⟩ := ha n d hd
  · exact Or.inl rfl
  · exact h n d hc
theorem kHe_of {H' H : sH} {b : Bool} (h : kLq (kLq (kLq kCe)) H' H b = true) : (∀ n d, hg H' n = some d → ∃ c, hg H n = some c ∧ c_as d c) ∧ b = true := by
  have h1 := kLq_at (e := kLq (kLq kCe)) (P := fun a a' => ∀ (i : Nat) x, a[i]? = some x → ∃ y, a'[i]? = some y ∧ ∀ (j : Nat) d, x[j]? = some d → ∃ c, y[j]? = some c ∧ c_as d c)
    (fun a c b h => kLq_at (e := kLq kCe) (P := fun x y => ∀ (j : Nat) d, x[j]? = some d → ∃ c, y[j]? = some c ∧ c_as d c) (fun x y b h => kLq_at (e := kCe) (P := c_as) (fun d c b h => kCe_of h) h) h) h
  refine ⟨fun n d hd => ?_, h1.2⟩
  unfold hg at hd ⊢
  obtain ⟨a, ha, hd⟩ := Option.bind_eq_some_iff.mp hd
  obtain ⟨x, hx, hd⟩ := Option.bind_eq_some_iff.mp hd
  obtain ⟨a', ha', q⟩ := h1.1 _ a ha
  obtain ⟨y, hy, q2⟩ := q _ x hx
  obtain ⟨c, hc, q3⟩ := q2 _ d hd
  exact ⟨c, by rw [ha']; show (a'[_]?).bind _ = _; rw [hy]; exact hc, q3⟩
/-- from the state T on, at (M, pc), all goes well -/
def s_PT (scr : List Int32) (σ ρ : Nat → Nat) (T : sT) (M pc : Nat) : Prop := ∀ CF cL cH, s_lo σ ρ T.1 cL → s_fr σ ρ T.2.2.1 CF → s_ho σ ρ T.2.2.2.1 cH → s_eo ρ T.2.2.2.2.1 → s_bo scr σ ρ T.2.2.2.2.2 cH → m_Rn scr CF M pc cL (T.2.1.map (sv σ ρ)) cH
theorem kSt_of {T : sT} {L S : List sV} {F : List sF} {H : sH} {E : sE} {B : sB} (h : kSt T L S (F, H, E, B) = true) : (∀ (i : Nat) v, T.1[i]? = some v → v ≠ v_d 0 → L[i]? = some v) ∧ T.2.1 = S ∧ T.2.2.1 = F ∧ (∀ n d, hg T.2.2.2.1 n = some d → ∃ c, hg H n = some c ∧ c_as d c) ∧ T.2.2.2.2.1 = E ∧ T.2.2.2.2.2 = B := by
  obtain ⟨L0, S0, F0, H0, E0, B0⟩ := T
  have h' : kPq kNe (kPq kNe (kPq kNe (kLq kNe))) B0 B (kLq kFe F0 F (kLq (kPq kNe (kPq kNe (kLq kNe))) E0 E (kLq (kLq (kLq kCe)) H0 H (kLq kVe S0 S (kLl L0 L true))))) = true := h
  obtain ⟨h1, h2⟩ := kPq_e kNe_e (kPq_e kNe_e (kPq_e kNe_e (kLq_e kNe_e))) _ _ _ h'
  obtain ⟨h3, h4⟩ := kLq_e kFe_e _ _ _ h2
  obtain ⟨h5, h6⟩ := kLq_e (kPq_e kNe_e (kPq_e kNe_e (kLq_e kNe_e))) _ _ _ h4
  obtain ⟨h7, h8⟩ := kHe_of h6
  obtain ⟨h9, h10⟩ := kLq_e kVe_e _ _ _ h8
  obtain ⟨h11, -⟩ := kLl_of h10
  exact ⟨h11, h9, h3, h7, h5, h1⟩
theorem O_stop (hσ : s_in σ) {T : sT} (hT : s_PT scr σ ρ T M pc) {r : sR} (hr : ∀ M pc, s_OK scr σ ρ (r M pc) M pc) : s_OK scr σ ρ (s_stop T M pc r) M pc := by
  intro L S F H E B CF cL cH h hL hF hH hE hB
  have h' : kB (kSt T L S (F, H, E, B)) true (s_look r M pc L S (F, H, E, B)) = true := h
  rw [kB_iff] at h'
  rcases h' with ⟨h1, -⟩ | ⟨-, h1⟩
  · obtain ⟨a, b, c, d, e, f⟩ := kSt_of h1
    have q := hT CF cL cH (fun i v hi hn => hL i v (a i v hi hn) hn) (by rw [c]; exact hF) (hH.fits d) (by rw [e]; exact hE) (by rw [f]; exact hB)
    rw [b] at q
    exact q
  · exact s_look_ok hσ hr M pc L S F H E B CF cL cH h1 hL hF hH hE hB
noncomputable def O_stp (T : sT) (M pc : Nat) (O : sO) : sO := (M, [(pc, s_stop T M pc)]) :: O
theorem O_stp_ok (hσ : s_in σ) {T : sT} {O : sO} (hT : s_PT scr σ ρ T M pc) (hO : s_Oo scr σ ρ O) : s_Oo scr σ ρ (O_stp T M pc O) := by
  intro M' bl h1 pc' b h2 r hr
  rcases List.mem_cons.mp h1 with h1 | h1
  · cases h1
    simp only [List.mem_cons, List.mem_nil_iff, or_false] at h2
    cases h2
    exact O_stop hσ hT hr
  · exact hO M' bl h1 pc' b h2 r hr
/-- a piece: from T on to a stop that goes well, or to the end -/
theorem s_PT_of (hσ : s_in σ) {T : sT} {O : sO} {n : Nat} (hO : s_Oo scr σ ρ O) (h : s_runO O n M pc T.1 T.2.1 T.2.2 = true) : s_PT scr σ ρ T M pc := by
  intro CF cL cH hL hF hH hE hB
  obtain ⟨L0, S0, F0, H0, E0, B0⟩ := T
  exact s_runO_ok hσ hO n M pc L0 S0 F0 H0 E0 B0 CF cL cH h hL hF hH hE hB
end SP
