/-! shade: blocks of its own -/
noncomputable section
def s_mgS (k : sK) : sK := fun L S X => kNil S (kGet L 2 (fun v => kSn v 2 (kGet L 3 (fun v => kSn v 3 (kGet L 4 (fun v => kSn v 4 (kGet L 6 (fun v => kI v (fun e => kIx e 8 (fun i => kGet L 7 (fun v => kI v (fun e => kIx e 8 (fun j => kFrc (Nat.add (Nat.add (Nat.mul i 8) j) 150) (fun s => kSl L 8 (.inr (.inr (.inl s))) (fun L => k L [] X)))))))))))))))
def s_mgT (k : sK) : sK := fun L S X => kPop S (fun v S => kZ v (kGet L 2 (fun v => kSn v 2 (kGet L 3 (fun v => kSn v 3 (kGet L 4 (fun v => kSn v 4 (kGet L 9 (fun v => kI v (fun e => kIx e 8 (fun i => kGet L 8 (fun v => kI v (fun e => kIx e 8 (fun j => kFrc (Nat.add (Nat.add (Nat.mul i 8) j) 150) (fun s => k L (.inr (.inr (.inl s)) :: S) X)))))))))))))) false)
/-- the symbol 150 + i in the local n, brought between 0 and 255: the symbol 10 + i -/
def s_mgP (n : Nat) (k : sK) : sK := fun L S X => kCt (.inl 2147483648 :: S) (kGet L n (fun v => kSy v (fun s => kB (Nat.ble 150 s) (kFrc (Nat.sub s 150) (fun i => kB (Nat.ble i 63) (kFrc (Nat.add i 10) (fun s => k L (.inr (.inr (.inl s)) :: S) X)) false)) false)))
end
section S2
variable {scr : List Int32} {σ ρ : Nat → Nat} {k : sK}
def s_shh (ρ : Nat → Nat) : Prop := (∀ i j, i < 8 → j < 8 → cI (ρ (i * 8 + j + 150)) = m_shd (cI (ρ 2)) (cI (ρ 3)) (cI (ρ 4)) (cI (2147483648 + j)) (cI (2147483648 + i))) ∧ ∀ i, i < 64 → cI (ρ (i + 10)) = m_clp (cI (ρ (i + 150)))
theorem ne_s (j : Nat) : v_s j ≠ v_d 0 := fun h => by cases h
theorem ne_i (j : Nat) : v_i j ≠ v_d 0 := fun h => by cases h
theorem O_mgS (hd : s_shh ρ) (hk : s_OK scr σ ρ k 57 99) : s_OK scr σ ρ (s_mgS k) 57 63 := by
  intro L S F H E B CF cL cH g0 hL hF hH hE hB
  obtain ⟨rfl, g1⟩ := (kNil_iff _ _).mp g0
  obtain ⟨v, h2, g2'⟩ := (kGet_iff _ _ _).mp g1
  obtain ⟨rfl, g3⟩ := (kSn_iff _ _ _).mp g2'
  obtain ⟨v, h3, g4⟩ := (kGet_iff _ _ _).mp g3
  obtain ⟨rfl, g5⟩ := (kSn_iff _ _ _).mp g4
  obtain ⟨v, h4, g6⟩ := (kGet_iff _ _ _).mp g5
  obtain ⟨rfl, g7⟩ := (kSn_iff _ _ _).mp g6
  obtain ⟨v, h6, g8⟩ := (kGet_iff _ _ _).mp g7
  obtain ⟨er, rfl, g9⟩ := (kI_iff _ _).mp g8
  obtain ⟨a1, a2, g10⟩ := (kIx_iff _ _ _).mp g9
  obtain ⟨v, h7, g11⟩ := (kGet_iff _ _ _).mp g10
  obtain ⟨ec, rfl, g12⟩ := (kI_iff _ _).mp g11
  obtain ⟨b1, b2, g13⟩ := (kIx_iff _ _ _).mp g12
  obtain ⟨i, rfl⟩ : ∃ i, er = 2147483648 + i := ⟨er - 2147483648, by omega⟩
  obtain ⟨j, rfl⟩ : ∃ j, ec = 2147483648 + j := ⟨ec - 2147483648, by omega⟩
  rw [Nat.add_sub_cancel_left] at a2 b2
  rw [Nat.add_sub_cancel_left, Nat.add_sub_cancel_left, kFrc_eq] at g13
  obtain ⟨s1, g14, s2⟩ := kSl_of g13
  refine shd_R (hL 2 _ h2 (ne_s 2)) (hL 3 _ h3 (ne_s 3)) (hL 4 _ h4 (ne_s 4)) (hL 6 _ h6 (ne_i _)) (hL 7 _ h7 (ne_i _)) ?_
  rw [← hd.1 i j a2 b2]
  exact hk _ [] F H E B CF _ cH g14 (hL.st1 (v := v_s (i * 8 + j + 150)) s2) hF hH hE hB
theorem O_mgT (hd : s_shh ρ) (hk : s_OK scr σ ρ k 157 153) : s_OK scr σ ρ (s_mgT k) 157 118 := by
  intro L S F H E B CF cL cH g0 hL hF hH hE hB
  obtain ⟨v, S, rfl, g1⟩ := (kPop_iff _ _).mp g0
  rcases (kZ_iff _ _ _).mp g1 with ⟨rfl, g1'⟩ | ⟨-, g1'⟩
  rotate_left
  · cases g1'
  obtain ⟨v, h2, g2'⟩ := (kGet_iff _ _ _).mp g1'
  obtain ⟨rfl, g3⟩ := (kSn_iff _ _ _).mp g2'
  obtain ⟨v, h3, g4⟩ := (kGet_iff _ _ _).mp g3
  obtain ⟨rfl, g5⟩ := (kSn_iff _ _ _).mp g4
  obtain ⟨v, h4, g6⟩ := (kGet_iff _ _ _).mp g5
  obtain ⟨rfl, g7⟩ := (kSn_iff _ _ _).mp g6
  obtain ⟨v, h6, g8⟩ := (kGet_iff _ _ _).mp g7
  obtain ⟨er, rfl, g9⟩ := (kI_iff _ _).mp g8
  obtain ⟨a1, a2, g10⟩ := (kIx_iff _ _ _).mp g9
  obtain ⟨v, h7, g11⟩ := (kGet_iff _ _ _).mp g10
  obtain ⟨ec, rfl, g12⟩ := (kI_iff _ _).mp g11
  obtain ⟨b1, b2, g13⟩ := (kIx_iff _ _ _).mp g12
  obtain ⟨i, rfl⟩ : ∃ i, er = 2147483648 + i := ⟨er - 2147483648, by omega⟩
  obtain ⟨j, rfl⟩ : ∃ j, ec = 2147483648 + j := ⟨ec - 2147483648, by omega⟩
  rw [Nat.add_sub_cancel_left] at a2 b2
  rw [Nat.add_sub_cancel_left, Nat.add_sub_cancel_left, kFrc_eq] at g13
  have e0 : sv σ ρ (v_i 2147483648) = .int 0 := by show Value.int (cI 2147483648) = _; rw [cI_zero]
  rw [List.map_cons, e0]
  refine rshd_R (hL 2 _ h2 (ne_s 2)) (hL 3 _ h3 (ne_s 3)) (hL 4 _ h4 (ne_s 4)) (hL 9 _ h6 (ne_i _)) (hL 8 _ h7 (ne_i _)) ?_
  rw [← hd.1 i j a2 b2]
  exact hk L (v_s (i * 8 + j + 150) :: S) F H E B CF cL cH g13 hL hF hH hE hB
end S2
