/-! what the pieces of the run by symbols say -/
theorem kB_iff (b t f : Bool) : kB b t f = true ↔ (b = true ∧ t = true) ∨ (b = false ∧ f = true) := by cases b <;> simp [kB]
theorem kB_f (b t : Bool) : kB b t false = true ↔ b = true ∧ t = true := by cases b <;> simp [kB]
theorem kFrc_eq (n : Nat) (k : Nat → Bool) : kFrc n k = k n := by cases n <;> rfl
theorem kGet_iff {α : Type} (k : α → Bool) : ∀ (l : List α) (i : Nat), kGet l i k = true ↔ ∃ a, l[i]? = some a ∧ k a = true
  | [], i => by constructor <;> intro h; (cases h); (obtain ⟨a, h, -⟩ := h; cases h)
  | a :: t, 0 => by
    show k a = true ↔ _
    simp
  | a :: t, i + 1 => by
    show kGet t i k = true ↔ _
    rw [kGet_iff k t i, List.getElem?_cons_succ]
theorem kSet_iff {α : Type} (v : α) : ∀ (l : List α) (i : Nat) (k : List α → Bool), kSet l i v k = true ↔ i < l.length ∧ k (l.set i v) = true
  | [], i, k => by
    show false = true ↔ _
    simp
  | a :: t, 0, k => by
    show k (v :: t) = true ↔ _
    simp
  | a :: t, i + 1, k => by
    show kSet t i v (fun t' => k (a :: t')) = true ↔ _
    rw [kSet_iff v t i]
    simp
theorem kPop_iff {α : Type} (l : List α) (k : α → List α → Bool) : kPop l k = true ↔ ∃ v t, l = v :: t ∧ k v t = true := by
  cases l with
  | nil => simp [kPop]
  | cons a t =>
    show k a t = true ↔ _
    simp
theorem kPp_iff {α : Type} (l : List α) (k : α → α → List α → Bool) : kPp l k = true ↔ ∃ v u t, l = v :: u :: t ∧ k v u t = true := by
  cases l with
  | nil => simp [kPp]
  | cons a t =>
    cases t with
    | nil => simp [kPp]
    | cons b t =>
      show k a b t = true ↔ _
      simp
theorem kP3_iff {α : Type} (l : List α) (k : α → α → α → List α → Bool) : kP3 l k = true ↔ ∃ v u w t, l = v :: u :: w :: t ∧ k v u w t = true := by
  cases l with
  | nil => simp [kP3]
  | cons a t =>
    cases t with
    | nil => simp [kP3]
    | cons b t =>
      cases t with
      | nil => simp [kP3]
      | cons c t =>
        show k a b c t = true ↔ _
        constructor
        · intro h; exact ⟨a, b, c, t, rfl, h⟩
        · rintro ⟨v, u, w, t', h1, h2⟩; cases h1; exact h2
theorem kNil_iff {α : Type} (l : List α) (b : Bool) : kNil l b = true ↔ l = [] ∧ b = true := by
  cases l with
  | nil =>
    show b = true ↔ _
    simp
  | cons a t =>
    show false = true ↔ _
    simp
abbrev v_i (e : Nat) : sV := .inl e
abbrev v_r (r : Nat) : sV := .inr (.inl r)
abbrev v_s (j : Nat) : sV := .inr (.inr (.inl j))
abbrev v_p (p : Nat) : sV := .inr (.inr (.inr (.inl p)))
abbrev v_l (l : Nat) : sV := .inr (.inr (.inr (.inr (.inl l))))
abbrev v_d (d : Nat) : sV := .inr (.inr (.inr (.inr (.inr (.inl d)))))
abbrev v_x (j : Nat) : sV := .inr (.inr (.inr (.inr (.inr (.inr j)))))
def v_isI (v : sV) : Prop := (∃ e, v = v_i e) ∨ (∃ j, v = v_s j) ∨ ∃ j, v = v_x j
def v_isA (v : sV) : Prop := (∃ r, v = v_r r) ∨ ∃ p, v = v_p p
def v_two (v : sV) : Prop := (∃ l, v = v_l l) ∨ ∃ d, v = v_d (d + 1)
theorem v_cases (v : sV) : (∃ e, v = v_i e) ∨ (∃ r, v = v_r r) ∨ (∃ j, v = v_s j) ∨ (∃ p, v = v_p p) ∨ (∃ l, v = v_l l) ∨ (∃ d, v = v_d d) ∨ ∃ j, v = v_x j := by
  rcases v with e | r | j | p | l | d | j
  · exact Or.inl ⟨e, rfl⟩
  · exact Or.inr (Or.inl ⟨r, rfl⟩)
  · exact Or.inr (Or.inr (Or.inl ⟨j, rfl⟩))
  · exact Or.inr (Or.inr (Or.inr (Or.inl ⟨p, rfl⟩)))
  · exact Or.inr (Or.inr (Or.inr (Or.inr (Or.inl ⟨l, rfl⟩))))
  · exact Or.inr (Or.inr (Or.inr (Or.inr (Or.inr (Or.inl ⟨d, rfl⟩)))))
  · exact Or.inr (Or.inr (Or.inr (Or.inr (Or.inr (Or.inr ⟨j, rfl⟩)))))
theorem kI_iff (v : sV) (k : Nat → Bool) : kI v k = true ↔ ∃ e, v = v_i e ∧ k e = true := by
  rcases v with e | v
  · show k e = true ↔ _
    simp
  · show false = true ↔ _
    simp
theorem kA_iff (v : sV) (fr fp : Nat → Bool) : kA v fr fp = true ↔ (∃ r, v = v_r r ∧ fr r = true) ∨ ∃ p, v = v_p p ∧ fp p = true := by
  rcases v with e | r | j | p | l | d | j
  · show false = true ↔ _; simp
  · show fr r = true ↔ _; simp
  · show false = true ↔ _; simp
  · show fp p = true ↔ _; simp
  · show false = true ↔ _; simp
  · show false = true ↔ _; simp
  · show false = true ↔ _; simp
theorem kLo_iff (v : sV) (k : Nat → Bool) : kLo v k = true ↔ ∃ l, v = v_l l ∧ k l = true := by
  rcases v with e | r | j | p | l | d | j
  · show false = true ↔ _; simp
  · show false = true ↔ _; simp
  · show false = true ↔ _; simp
  · show false = true ↔ _; simp
  · show k l = true ↔ _; simp
  · show false = true ↔ _; simp
  · show false = true ↔ _; simp
theorem kDo_iff (v : sV) (k : Nat → Bool) : kDo v k = true ↔ ∃ d, v = v_d (d + 1) ∧ k d = true := by
  rcases v with e | r | j | p | l | d | j
  · show false = true ↔ _; simp
  · show false = true ↔ _; simp
  · show false = true ↔ _; simp
  · show false = true ↔ _; simp
  · show false = true ↔ _; simp
  · cases d with
    | zero => show false = true ↔ _; simp
    | succ d => show k d = true ↔ _; simp
  · show false = true ↔ _; simp
theorem kIs_iff (v : sV) (b : Bool) : kIs v b = true ↔ v_isI v ∧ b = true := by
  unfold v_isI
  rcases v with e | r | j | p | l | d | j
  · show b = true ↔ _; simp
  · show false = true ↔ _; simp
  · show b = true ↔ _; simp
  · show false = true ↔ _; simp
  · show false = true ↔ _; simp
  · show false = true ↔ _; simp
  · show b = true ↔ _; simp
theorem kAs_iff (v : sV) (b : Bool) : kAs v b = true ↔ v_isA v ∧ b = true := by
  unfold kAs v_isA
  rw [kA_iff]
  constructor
  · rintro (⟨r, h, hb⟩ | ⟨p, h, hb⟩)
    · exact ⟨Or.inl ⟨r, h⟩, hb⟩
    · exact ⟨Or.inr ⟨p, h⟩, hb⟩
  · rintro ⟨⟨r, h⟩ | ⟨p, h⟩, hb⟩
    · exact Or.inl ⟨r, h, hb⟩
    · exact Or.inr ⟨p, h, hb⟩
theorem kTw_iff (v : sV) (b c : Bool) : kTw v b c = true ↔ (v_two v ∧ b = true) ∨ (¬ v_two v ∧ c = true) := by
  unfold v_two
  rcases v with e | r | j | p | l | d | j
  · show c = true ↔ _; simp
  · show c = true ↔ _; simp
  · show c = true ↔ _; simp
  · show c = true ↔ _; simp
  · show b = true ↔ _; simp
  · cases d with
    | zero => show c = true ↔ _; simp
    | succ d => show b = true ↔ _; simp
  · show c = true ↔ _; simp
theorem kTw_f (v : sV) (c : Bool) : kTw v false c = true ↔ ¬ v_two v ∧ c = true := by rw [kTw_iff]; simp
def g2 (T : List (List sV)) (i : Nat) : Option sV := (T[i / 16]?).bind (fun c => c[i % 16]?)
def hg (H : sH) (n : Nat) : Option sC := (H[n / 64]?).bind (fun a => (a[n / 8 % 8]?).bind (fun b => b[n % 8]?))
theorem kG2_iff (T : List (List sV)) (i : Nat) (k : sV → Bool) : kG2 T i k = true ↔ ∃ v, g2 T i = some v ∧ k v = true := by
  unfold kG2 g2
  rw [kGet_iff]
  constructor
  · rintro ⟨c, h1, h2⟩
    rw [kGet_iff] at h2
    obtain ⟨v, h3, h4⟩ := h2
    exact ⟨v, Option.bind_eq_some_iff.mpr ⟨c, h1, h3⟩, h4⟩
  · rintro ⟨v, h1, h2⟩
    obtain ⟨c, h3, h4⟩ := Option.bind_eq_some_iff.mp h1
    exact ⟨c, h3, (kGet_iff _ _ _).mpr ⟨v, h4, h2⟩⟩
theorem kS2_of {T : List (List sV)} {i : Nat} {x : sV} {k : List (List sV) → Bool} (h : kS2 T i x k = true) : ∃ T', k T' = true ∧ ∀ j, g2 T' j = if j = i then some x else g2 T j := by
  unfold kS2 at h
  rw [kGet_iff] at h
  obtain ⟨c, h1, h⟩ := h
  rw [kSet_iff] at h
  obtain ⟨h2, h⟩ := h
  rw [kSet_iff] at h
  obtain ⟨h3, h⟩ := h
  have h1' : T[i / 16]? = some c := h1
  have h2' : i % 16 < c.length := h2
  have h3' : i / 16 < T.length := h3
  have h' : k (T.set (i / 16) (c.set (i % 16) x)) = true := h
  refine ⟨_, h', fun j => ?_⟩
  unfold g2
  by_cases hq : j / 16 = i / 16
  · rw [hq, List.getElem?_set_self h3']
    show (c.set (i % 16) x)[j % 16]? = _
    by_cases hr : j % 16 = i % 16
    · rw [hr, List.getElem?_set_self h2', if_pos (by omega)]
    · rw [List.getElem?_set_ne (Ne.symm hr), if_neg (by intro e; exact hr (by rw [e])), h1']
      rfl
  · rw [List.getElem?_set_ne (Ne.symm hq), if_neg (by intro e; exact hq (by rw [e]))]
theorem kH_iff (H : sH) (n : Nat) (k : sC → Bool) : kH H n k = true ↔ ∃ c, hg H n = some c ∧ k c = true := by
  unfold kH hg
  rw [kGet_iff]
  constructor
  · rintro ⟨a, h1, h2⟩
    rw [kGet_iff] at h2
    obtain ⟨b, h3, h4⟩ := h2
    rw [kGet_iff] at h4
    obtain ⟨c, h5, h6⟩ := h4
    exact ⟨c, Option.bind_eq_some_iff.mpr ⟨a, h1, Option.bind_eq_some_iff.mpr ⟨b, h3, h5⟩⟩, h6⟩
  · rintro ⟨c, h1, h2⟩
    obtain ⟨a, h3, h4⟩ := Option.bind_eq_some_iff.mp h1
    obtain ⟨b, h5, h6⟩ := Option.bind_eq_some_iff.mp h4
    exact ⟨a, h3, (kGet_iff _ _ _).mpr ⟨b, h5, (kGet_iff _ _ _).mpr ⟨c, h6, h2⟩⟩⟩
theorem kHs_of {H : sH} {n : Nat} {x : sC} {k : sH → Bool} (h : kHs H n x k = true) : ∃ H', k H' = true ∧ ∀ j, hg H' j = if j = n then some x else hg H j := by
  unfold kHs at h
  rw [kGet_iff] at h
  obtain ⟨a, h1, h⟩ := h
  rw [kGet_iff] at h
  obtain ⟨b, h2, h⟩ := h
  rw [kSet_iff] at h
  obtain ⟨h3, h⟩ := h
  rw [kSet_iff] at h
  obtain ⟨h4, h⟩ := h
  rw [kSet_iff] at h
  obtain ⟨h5, h⟩ := h
  have h1' : H[n / 64]? = some a := h1
  have h2' : a[n / 8 % 8]? = some b := h2
  have h3 : n % 8 < b.length := h3
  have h4 : n / 8 % 8 < a.length := h4
  have h5 : n / 64 < H.length := h5
  have h' : k (H.set (n / 64) (a.set (n / 8 % 8) (b.set (n % 8) x))) = true := h
  refine ⟨_, h', fun j => ?_⟩
  unfold hg
  by_cases e1 : j / 64 = n / 64
  · rw [e1, List.getElem?_set_self h5]
    show ((a.set (n / 8 % 8) (b.set (n % 8) x))[j / 8 % 8]?).bind _ = _
    by_cases e2 : j / 8 % 8 = n / 8 % 8
    · rw [e2, List.getElem?_set_self h4]
      show (b.set (n % 8) x)[j % 8]? = _
      by_cases e3 : j % 8 = n % 8
      · rw [e3, List.getElem?_set_self h3, if_pos (by omega)]
      · rw [List.getElem?_set_ne (Ne.symm e3), if_neg (by intro e; exact e3 (by rw [e])), h1']
        show _ = (a[n / 8 % 8]?).bind _
        rw [h2']
        rfl
    · rw [List.getElem?_set_ne (Ne.symm e2), if_neg (by intro e; exact e2 (by rw [e])), h1']
      rfl
  · rw [List.getElem?_set_ne (Ne.symm e1), if_neg (by intro e; exact e1 (by rw [e]))]
theorem kCa_iff (c : sC) (t : Nat) (k : Nat → List (List sV) → Bool) : kCa c t k = true ↔ ∃ n T, c = .inl (t, n, T) ∧ k n T = true := by
  rcases c with ⟨u, n, T⟩ | ⟨ci, fs⟩ | ⟨u, n, es⟩
  · show kB (Nat.beq u t) (k n T) false = true ↔ _
    rw [kB_f, Nat.beq_eq]
    constructor
    · rintro ⟨rfl, h⟩; exact ⟨n, T, rfl, h⟩
    · rintro ⟨n', T', h1, h2⟩; cases h1; exact ⟨rfl, h2⟩
  · show false = true ↔ _; simp
  · show false = true ↔ _; simp
theorem kCo_iff (c : sC) (x : Nat) (k : List sV → Bool) : kCo c x k = true ↔ ∃ fs, c = .inr (.inl (x, fs)) ∧ k fs = true := by
  rcases c with ⟨u, n, T⟩ | ⟨ci, fs⟩ | ⟨u, n, es⟩
  · show false = true ↔ _; simp
  · show kB (Nat.beq ci x) (k fs) false = true ↔ _
    rw [kB_f, Nat.beq_eq]
    constructor
    · rintro ⟨rfl, h⟩; exact ⟨fs, rfl, h⟩
    · rintro ⟨fs', h1, h2⟩; cases h1; exact ⟨rfl, h2⟩
  · show false = true ↔ _; simp
theorem kC_iff (c : sC) (fa : Nat → Nat → List (List sV) → Bool) (fo : Nat → List sV → Bool) (fq : Nat → Nat → List (Nat × sV) → Bool) : kC c fa fo fq = true ↔ (∃ t n T, c = .inl (t, n, T) ∧ fa t n T = true) ∨ (∃ ci fs, c = .inr (.inl (ci, fs)) ∧ fo ci fs = true) ∨ ∃ t n es, c = .inr (.inr (t, n, es)) ∧ fq t n es = true := by
  rcases c with ⟨u, n, T⟩ | ⟨ci, fs⟩ | ⟨u, n, es⟩
  · show fa u n T = true ↔ _; simp
  · show fo ci fs = true ↔ _; simp
  · show fq u n es = true ↔ _; simp
theorem kIx_iff (e n : Nat) (k : Nat → Bool) : kIx e n k = true ↔ 2147483648 ≤ e ∧ e - 2147483648 < n ∧ k (e - 2147483648) = true := by
  unfold kIx
  rw [kB_f, kFrc_eq, kB_f, Nat.ble_eq, Nat.ble_eq]
  constructor
  · rintro ⟨h1, h2, h3⟩
    exact ⟨h1, h2, h3⟩
  · rintro ⟨h1, h2, h3⟩
    exact ⟨h1, h2, h3⟩
theorem kEl_iff (E : sE) (j : Nat) (k : Nat → Nat → List Nat → Bool) : kEl E j k = true ↔ ∃ lo hi ex, E[j]? = some (lo, hi, ex) ∧ k lo hi ex = true := by
  unfold kEl
  rw [kGet_iff]
  constructor
  · rintro ⟨⟨lo, hi, ex⟩, h1, h2⟩; exact ⟨lo, hi, ex, h1, h2⟩
  · rintro ⟨lo, hi, ex, h1, h2⟩; exact ⟨(lo, hi, ex), h1, h2⟩
theorem kMem_iff (v : Nat) (t f : Bool) : ∀ ex : List Nat, kMem v ex t f = true ↔ (v ∈ ex ∧ t = true) ∨ (¬ v ∈ ex ∧ f = true)
  | [] => by
    show f = true ↔ _; simp
  | a :: ex => by
    show kB (Nat.beq a v) t (kMem v ex t f) = true ↔ _
    rw [kB_iff, kMem_iff v t f ex]
    by_cases h : a = v
    · subst h
      simp [Nat.beq_eq]
    · have h2 : Nat.beq a v = false := by
        cases hb : Nat.beq a v with
        | true => exact absurd (Nat.beq_eq.mp hb) h
        | false => rfl
      have h3 : ¬ v = a := fun e => h e.symm
      simp [h2, h3]
theorem kCt_iff (S : List sV) (b : Bool) : kCt S b = true → b = true ∧ ∃ w : Nat, w ≤ 8 ∧ ∀ (f : sV → Value), (∀ v, (f v).category = 1 ∨ ((f v).category = 2 ∧ v_two v)) → m_cat (S.map f) ≤ w := by
  have gen : ∀ (S : List sV) (n : Nat), List.rec (motive := fun _ => Nat → Bool) (fun n => kB (Nat.ble n 8) b false) (fun v _ ih n => kTw v (ih (Nat.add n 2)) (ih (Nat.add n 1))) S n = true → b = true ∧ ∃ w : Nat, n + w ≤ 8 ∧ ∀ (f : sV → Value), (∀ v, (f v).category = 1 ∨ ((f v).category = 2 ∧ v_two v)) → m_cat (S.map f) ≤ w := by
    intro S
    induction S with
    | nil =>
      intro n h
      have h' : kB (Nat.ble n 8) b false = true := h
      rw [kB_f, Nat.ble_eq] at h'
      exact ⟨h'.2, 0, by omega, fun f _ => Nat.le_refl _⟩
    | cons v t ih =>
      intro n h
      have h' := (kTw_iff _ _ _).mp h
      rcases h' with ⟨h1, h2⟩ | ⟨h1, h2⟩
      · obtain ⟨hb, w, hw, hf⟩ := ih _ h2
        have hw' : n + 2 + w ≤ 8 := hw
        refine ⟨hb, w + 2, by omega, fun f hc => ?_⟩
        have := hf f hc
        have h3 : m_cat ((v :: t).map f) = (f v).category + m_cat (t.map f) := by simp [m_cat]
        rw [h3]
        rcases hc v with h4 | ⟨h4, -⟩ <;> omega
      · obtain ⟨hb, w, hw, hf⟩ := ih _ h2
        have hw' : n + 1 + w ≤ 8 := hw
        refine ⟨hb, w + 1, by omega, fun f hc => ?_⟩
        have := hf f hc
        have h3 : m_cat ((v :: t).map f) = (f v).category + m_cat (t.map f) := by simp [m_cat]
        rw [h3]
        rcases hc v with h4 | ⟨h4, h5⟩
        · omega
        · exact absurd h5 h1
  intro h
  obtain ⟨hb, w, hw, hf⟩ := gen S 0 h
  exact ⟨hb, w, by omega, hf⟩
theorem kX_eq (F : List sF) (H : sH) (E : sE) (B : sB) (k : List sF → sH → sE → sB → Bool) : kX (F, H, E, B) k = k F H E B := rfl
theorem kXH_eq (F : List sF) (H : sH) (E : sE) (B : sB) (k : sH → Bool) : kXH (F, H, E, B) k = k H := rfl
theorem kBx_iff (p : Nat) (b : Bool) : kBx p b = true ↔ (5 ≤ p ∧ p ≤ 260) ∧ b = true := by
  unfold kBx
  rw [kB_f, kB_f, Nat.ble_eq, Nat.ble_eq, and_assoc]
theorem kZ_iff (v : sV) (t f : Bool) : kZ v t f = true ↔ (v = v_i 2147483648 ∧ t = true) ∨ (¬ v = v_i 2147483648 ∧ f = true) := by
  rcases v with e | v
  · show kB (Nat.beq e 2147483648) t f = true ↔ _
    rw [kB_iff, Nat.beq_eq]
    have : Nat.beq e 2147483648 = false ↔ ¬ e = 2147483648 := by
      constructor
      · intro h1 h2; rw [Nat.beq_eq.mpr h2] at h1; cases h1
      · intro h1
        cases hb : Nat.beq e 2147483648 with
        | true => exact absurd (Nat.beq_eq.mp hb) h1
        | false => rfl
    rw [this]
    simp
  · show f = true ↔ _
    simp
theorem kSl_of {L : List sV} {i : Nat} {v : sV} {k : List sV → Bool} (h : kSl L i v k = true) : i < L.length ∧ k (L.set i v) = true ∧ ∀ u, 0 < i → L[i - 1]? = some u → ¬ v_two u := by
  cases i with
  | zero =>
    have h' : kSet L 0 v k = true := h
    rw [kSet_iff] at h'
    exact ⟨h'.1, h'.2, fun u h0 => absurd h0 (Nat.lt_irrefl 0)⟩
  | succ j =>
    have h' : kGet L j (fun u => kTw u false (kSet L (j + 1) v k)) = true := h
    rw [kGet_iff] at h'
    obtain ⟨u, h1, h2⟩ := h'
    rw [kTw_f, kSet_iff] at h2
    refine ⟨h2.2.1, h2.2.2, fun u' _ h3 => ?_⟩
    rw [show j + 1 - 1 = j from rfl, h1] at h3
    cases h3
    exact h2.1
theorem kRep_eq (v : sV) (k : List sV → Bool) : ∀ (n : Nat) (t : List sV), kRep n v t k = k (List.replicate n v ++ t)
  | 0, t => rfl
  | n + 1, t => by
    show kRep n v (v :: t) k = _
    rw [kRep_eq v k n (v :: t), List.replicate_succ', List.append_assoc]
    rfl
theorem kRps_eq (c : List sV) (k : List (List sV) → Bool) : ∀ (n : Nat) (t : List (List sV)), kRps n c t k = k (List.replicate n c ++ t)
  | 0, t => rfl
  | n + 1, t => by
    show kRps n c (c :: t) k = _
    rw [kRps_eq c k n (c :: t), List.replicate_succ', List.append_assoc]
    rfl
theorem kMk_of {n : Nat} {v : sV} {k : List (List sV) → Bool} (h : kMk n v k = true) : ∃ T, k T = true ∧ ∀ i, i < n → g2 T i = some v := by
  unfold kMk at h
  rw [kRep_eq, kRep_eq, kRps_eq] at h
  have h' : k (List.replicate (n / 16) (List.replicate 16 v ++ []) ++ [List.replicate (n % 16) v ++ []]) = true := h
  refine ⟨_, h', fun i hi => ?_⟩
  unfold g2
  by_cases hq : i / 16 < n / 16
  · rw [List.getElem?_append_left (by simpa using hq)]
    rw [List.getElem?_replicate, if_pos hq]
    show (List.replicate 16 v ++ [])[i % 16]? = _
    rw [List.append_nil, List.getElem?_replicate, if_pos (by omega)]
  · rw [List.getElem?_append_right (by simpa using hq)]
    have e : i / 16 - (List.replicate (n / 16) (List.replicate 16 v ++ [])).length = 0 := by
      rw [List.length_replicate]
      omega
    rw [e]
    show (List.replicate (n % 16) v ++ [])[i % 16]? = _
    rw [List.append_nil, List.getElem?_replicate, if_pos (by omega)]
theorem kAl_of {c : sC} {sz : Nat} {H : sH} {n ce sl : Nat} {tb : List Nat} {k : Nat → sH → sB → Bool} (h : kAl c sz H (n, ce, sl, tb) k = true) : ce ≤ 800000 ∧ ∃ H', k n H' (n + 1, ce + 1, sl + sz, tb) = true ∧ ∀ j, hg H' j = if j = n then some c else hg H j := by
  have h' : kB (Nat.ble ce 800000) (kHs H n c (fun H => kFrc (Nat.add n 1) (fun n1 => kFrc (Nat.add ce 1) (fun ce => kFrc (Nat.add sl sz) (fun sl => k n H (n1, ce, sl, tb)))))) false = true := h
  rw [kB_f, Nat.ble_eq] at h'
  obtain ⟨h1, h2⟩ := h'
  obtain ⟨H', h3, h4⟩ := kHs_of h2
  rw [kFrc_eq, kFrc_eq, kFrc_eq] at h3
  exact ⟨h1, H', h3, h4⟩
