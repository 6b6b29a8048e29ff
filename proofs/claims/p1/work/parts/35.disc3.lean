/-! disc: the reference's round as a block of its own -/
section E1
variable {scr : List Int32} {CF : List mW} {M pc pc' x y w j : Nat} {z : Int} {i : Instr} {L L' : mL} {S S' as : List Value} {H H' H1 : List mC} {v : Option Value} {a b : Int32} {q : Nat}
theorem m_i135 : m_stc 135 = true ∧ m_na 135 = 3 ∧ m_nL 135 = 3 := by decide +kernel
set_option maxRecDepth 100000 in
theorem m_c135 : m_code 135 0 = some (.iload_n 0, 0, 0, 0, 0) ∧ m_code 135 1 = some (.ifCond .ne 15, 16, 0, 0, 0) ∧ m_code 135 16 = some (.iload_n 0, 0, 0, 0, 0) ∧ m_code 135 17 = some (.iconst 1, 0, 0, 0, 0) ∧ m_code 135 18 = some (.if_icmp .ne 17, 35, 0, 0, 0) ∧ m_code 135 35 = some (.iload_n 1, 0, 0, 0, 0) ∧ m_code 135 36 = some (.iload_n 1, 0, 0, 0, 0) ∧ m_code 135 37 = some (.imul, 0, 0, 0, 0) ∧ m_code 135 38 = some (.iload_n 2, 0, 0, 0, 0) ∧ m_code 135 39 = some (.iload_n 2, 0, 0, 0, 0) ∧ m_code 135 40 = some (.imul, 0, 0, 0, 0) ∧ m_code 135 41 = some (.iadd, 0, 0, 0, 0) ∧ m_code 135 42 = some (.ireturn, 0, 0, 0, 0) := ⟨rfl, rfl, rfl, rfl, rfl, rfl, rfl, rfl, rfl, rfl, rfl, rfl, rfl⟩
theorem m_rt135 : m_rt 135 = some .int := by rfl
theorem apart_C {n0 : Nat} {dx dy : Int32} (hc : m_code M pc = some (.invokestatic n0, 135, y, w, z)) (hw : w = 1 ∨ w = 2) (hS : m_cat S ≤ 8) (k : m_Rn scr CF M (pc + 3) L (.int (dx * dx + dy * dy) :: S) H) : m_Rn scr CF M pc L (.int dy :: .int dx :: .int 2 :: S) H := by
  obtain ⟨h1, h2, h4⟩ := m_i135
  obtain ⟨c0, c1, c16, c17, c18, c35, c36, c37, c38, c39, c40, c41, c42⟩ := m_c135
  refine m_Rn.call hc hw rfl (as := [.int 2, .int dx, .int dy]) (S' := S) ?_ (by rw [h4]; simp [m_cat, Value.category]) ?_
  · unfold m_cut
    rw [h1, if_pos rfl, h2, if_pos ⟨by simp, hS⟩]
    rfl
  · show m_Rn scr _ 135 0 [(0, .int 2), (1, .int dx), (2, .int dy)] [] H
    refine Ra_iload_n c0 rfl (m_R1 c1 rfl (pc' := 16) (L' := [(0, .int 2), (1, .int dx), (2, .int dy)]) (S' := []) (H' := H) (by rfl) (Ra_iload_n c16 rfl (m_R1 c17 rfl rfl (m_R1 c18 rfl (pc' := 35) (L' := [(0, .int 2), (1, .int dx), (2, .int dy)]) (S' := []) (H' := H) (by rfl) ?_))))
    refine Ra_iload_n c35 rfl (Ra_iload_n c36 rfl (m_R1 c37 rfl rfl (Ra_iload_n c38 rfl (Ra_iload_n c39 rfl (m_R1 c40 rfl rfl (m_R1 c41 rfl rfl ?_))))))
    refine m_Rn.ret c42 (by decide) rfl (v := some (.int (dx * dx + dy * dy))) rfl (by rw [m_rt135]; rfl) ?_
    exact k
set_option maxRecDepth 100000 in
theorem m_c156 : m_code 156 76 = some (.iconst 2, 0, 0, 0, 0) ∧ m_code 156 77 = some (.iload 8, 0, 0, 0, 0) ∧ m_code 156 79 = some (.aload 6, 0, 0, 0, 0) ∧ (∃ n z, m_code 156 81 = some (.getfield n, 6, 0, 0, z)) ∧ m_code 156 84 = some (.irem, 0, 0, 0, 0) ∧ m_code 156 85 = some (.iload_n 2, 0, 0, 0, 0) ∧ m_code 156 86 = some (.isub, 0, 0, 0, 0) ∧ m_code 156 87 = some (.iload 8, 0, 0, 0, 0) ∧ m_code 156 89 = some (.aload 6, 0, 0, 0, 0) ∧ (∃ n z, m_code 156 91 = some (.getfield n, 6, 0, 0, z)) ∧ m_code 156 94 = some (.idiv, 0, 0, 0, 0) ∧ m_code 156 95 = some (.iload_n 3, 0, 0, 0, 0) ∧ m_code 156 96 = some (.isub, 0, 0, 0, 0) ∧ (∃ n y z, m_code 156 97 = some (.invokestatic n, 135, y, 2, z)) := ⟨rfl, rfl, rfl, ⟨_, _, rfl⟩, rfl, rfl, rfl, rfl, rfl, ⟨_, _, rfl⟩, rfl, rfl, rfl, ⟨_, _, _, rfl⟩⟩
set_option maxRecDepth 100000 in
theorem m_c156b : m_code 156 100 = some (.iload 4, 0, 0, 0, 0) ∧ m_code 156 102 = some (.iload 4, 0, 0, 0, 0) ∧ m_code 156 104 = some (.imul, 0, 0, 0, 0) ∧ m_code 156 105 = some (.if_icmp .gt 10, 115, 0, 0, 0) ∧ m_code 156 108 = some (.aload 7, 0, 0, 0, 0) ∧ m_code 156 110 = some (.iload 8, 0, 0, 0, 0) ∧ m_code 156 112 = some (.iload 5, 0, 0, 0, 0) ∧ m_code 156 114 = some (.iastore, 0, 0, 0, 0) := ⟨rfl, rfl, rfl, rfl, rfl, rfl, rfl, rfl⟩
theorem cI_rem8 {k : Nat} (h : k < 64) : cI (2147483648 + k) - cI (2147483648 + k) / cI 2147483656 * cI 2147483656 = cI (2147483648 + k % 8) ∧ cI (2147483648 + k) / cI 2147483656 = cI (2147483648 + k / 8) := by
  have : ∀ k : Fin 64, cI (2147483648 + k.val) - cI (2147483648 + k.val) / cI 2147483656 * cI 2147483656 = cI (2147483648 + k.val % 8) ∧ cI (2147483648 + k.val) / cI 2147483656 = cI (2147483648 + k.val / 8) := by decide
  exact this ⟨k, h⟩
theorem Ra_rem8 {k : Nat} (hc : m_code M pc = some (.irem, x, y, 0, z)) (h : k < 64) (kk : m_Rn scr CF M (pc + 1) L (.int (cI (2147483648 + k % 8)) :: S) H) : m_Rn scr CF M pc L (.int (cI 2147483656) :: .int (cI (2147483648 + k)) :: S) H :=
  m_R1 hc rfl (by
    simp only [m_ex, m_d2]
    rw [if_neg (by decide), (cI_rem8 h).1]) kk
theorem Ra_div8 {k : Nat} (hc : m_code M pc = some (.idiv, x, y, 0, z)) (h : k < 64) (kk : m_Rn scr CF M (pc + 1) L (.int (cI (2147483648 + k / 8)) :: S) H) : m_Rn scr CF M pc L (.int (cI 2147483656) :: .int (cI (2147483648 + k)) :: S) H :=
  m_R1 hc rfl (by
    simp only [m_ex, m_d2]
    rw [if_neg (by decide), (cI_rem8 h).2]) kk
theorem rdisc_R {q u k : Nat} {x y ra n : Int32} {g1 g2 : Value} {vs : List Value} (hk : k < 64) (l2 : m_ld L 2 = some (.int x)) (l3 : m_ld L 3 = some (.int y)) (l4 : m_ld L 4 = some (.int ra)) (l5 : m_ld L 5 = some (.int n)) (l6 : m_ld L 6 = some (.ref q)) (l7 : m_ld L 7 = some (.ref u)) (l8 : m_ld L 8 = some (.int (cI (2147483648 + k))))
    (hq : m_get H q = some (.inr (6, [.int (cI 2147483656), g1, g2]))) (hu : m_get H u = some (.inl (0, vs))) (hkl : k < vs.length)
    (k1 : ra * ra < (cI (2147483648 + k % 8) - x) * (cI (2147483648 + k % 8) - x) + (cI (2147483648 + k / 8) - y) * (cI (2147483648 + k / 8) - y) → m_Rn scr CF 156 115 L [] H)
    (k2 : ¬ ra * ra < (cI (2147483648 + k % 8) - x) * (cI (2147483648 + k % 8) - x) + (cI (2147483648 + k / 8) - y) * (cI (2147483648 + k / 8) - y) → m_Rn scr CF 156 115 L [] (m_set H u (.inl (0, vs.set k (.int n))))) : m_Rn scr CF 156 76 L [] H := by
  obtain ⟨c76, c77, c79, ⟨_, _, c81⟩, c84, c85, c86, c87, c89, ⟨_, _, c91⟩, c94, c95, c96, ⟨_, _, _, c97⟩⟩ := m_c156
  obtain ⟨c100, c102, c104, c105, c108, c110, c112, c114⟩ := m_c156b
  refine m_R1 c76 rfl rfl (Ra_iload c77 l8 (Ra_aload c79 l6 (Ra_get c81 hq rfl (Ra_rem8 c84 hk (Ra_iload_n c85 l2 (m_R1 c86 rfl rfl ?_))))))
  refine Ra_iload c87 l8 (Ra_aload c89 l6 (Ra_get c91 hq rfl (Ra_div8 c94 hk (Ra_iload_n c95 l3 (m_R1 c96 rfl rfl ?_)))))
  refine apart_C c97 (Or.inr rfl) (by simp [m_cat]) (Ra_iload c100 l4 (Ra_iload c102 l4 (m_R1 c104 rfl rfl ?_)))
  by_cases hd : ra * ra < (cI (2147483648 + k % 8) - x) * (cI (2147483648 + k % 8) - x) + (cI (2147483648 + k / 8) - y) * (cI (2147483648 + k / 8) - y)
  · refine m_R1 c105 rfl (pc' := 115) (L' := L) (S' := []) (H' := H) ?_ (k1 hd)
    show some (if m_cmp .gt ((cI (2147483648 + k % 8) - x) * (cI (2147483648 + k % 8) - x) + (cI (2147483648 + k / 8) - y) * (cI (2147483648 + k / 8) - y)) (ra * ra) = true then 115 else 108, _, _, _) = _
    rw [if_pos (by simp only [m_cmp, decide_eq_true_eq]; exact hd)]
  · refine m_R1 c105 rfl (pc' := 108) (L' := L) (S' := []) (H' := H) ?_ ?_
    · show some (if m_cmp .gt ((cI (2147483648 + k % 8) - x) * (cI (2147483648 + k % 8) - x) + (cI (2147483648 + k / 8) - y) * (cI (2147483648 + k / 8) - y)) (ra * ra) = true then 115 else 108, _, _, _) = _
      rw [if_neg (by simp only [m_cmp, decide_eq_true_eq]; exact hd)]
    refine Ra_aload c108 l7 (Ra_iload c110 l8 (Ra_iload c112 l5 (Ra_ias (u := 0) (t := 0) c114 hu ⟨by omega, by omega, by omega⟩ ?_)))
    rw [Nat.add_sub_cancel_left]
    exact k2 hd
end E1
noncomputable section
def s_mgR (r : sR) : sK := fun L S X => kNil S (kX X (fun F H E B => (kGet L 8 (fun v => kI v (fun e => kIx e 64 (fun k => (kGet L 6 (fun o => kA o (fun q => kSh 6 H q (fun _ _ _ => (kGet L 7 (fun o => kA o (fun u => kH H u (fun c => kCa c 0 (fun n T => kB (Nat.ble 64 n) (kCl H u n k T (fun H => (kGet L 2 (fun v => kSn v 2 (kGet L 3 (fun v => kSn v 3 (kGet L 4 (fun v => kSn v 4 (kGet L 5 (fun v => kSn v 5 (r 156 115 L [] (F, H, E, B)))))))))))) false))) (fun _ => false))))) (fun _ => false)))))))))
end
section E2
variable {scr : List Int32} {σ ρ : Nat → Nat}
theorem O_mgR (hσ : s_in σ) (hd : s_dsc ρ) {r : sR} (hr : ∀ M pc, s_OK scr σ ρ (r M pc) M pc) : s_OK scr σ ρ (s_mgR r) 156 76 := by
  intro L S F H E B CF cL cH g0 hL hF hH hE hB
  obtain ⟨rfl, g1⟩ := (kNil_iff _ _).mp g0
  rw [kX_eq] at g1
  obtain ⟨vr, h8, g2'⟩ := (kGet_iff _ _ _).mp g1
  obtain ⟨e, rfl, g3⟩ := (kI_iff _ _).mp g2'
  obtain ⟨a1, a2, g4⟩ := (kIx_iff _ _ _).mp g3
  obtain ⟨k, rfl⟩ : ∃ k, e = 2147483648 + k := ⟨e - 2147483648, by omega⟩
  rw [Nat.add_sub_cancel_left] at a2 g4
  obtain ⟨o, h6, g5⟩ := (kGet_iff _ _ _).mp g4
  rcases (kA_iff _ _ _).mp g5 with ⟨q, rfl, g6⟩ | ⟨p, rfl, g6⟩
  rotate_left
  · cases g6
  obtain ⟨u0, n0, hh, T0, vs0, -, -, hq, -, -, -, -, g7⟩ := kSh_of (by decide) g6 hH
  obtain ⟨o, h7, g8⟩ := (kGet_iff _ _ _).mp g7
  rcases (kA_iff _ _ _).mp g8 with ⟨u, rfl, g9⟩ | ⟨p, rfl, g9⟩
  rotate_left
  · cases g9
  obtain ⟨c, hc, g10⟩ := (kH_iff _ _ _).mp g9
  obtain ⟨n, T, rfl, g11⟩ := (kCa_iff _ _ _).mp g10
  rw [kB_f, Nat.ble_eq] at g11
  obtain ⟨hn64, g11⟩ := g11
  obtain ⟨hn, vs, hge, hl, hv⟩ := hH u _ hc
  obtain ⟨H', g15, n1, n2⟩ := kCl_of hσ (k := k) g11 hH (by omega) hge hl hn hv
  obtain ⟨v, h2, g16⟩ := (kGet_iff _ _ _).mp g15
  obtain ⟨rfl, g17⟩ := (kSn_iff _ _ _).mp g16
  obtain ⟨v, h3, g18⟩ := (kGet_iff _ _ _).mp g17
  obtain ⟨rfl, g19⟩ := (kSn_iff _ _ _).mp g18
  obtain ⟨v, h4, g20⟩ := (kGet_iff _ _ _).mp g19
  obtain ⟨rfl, g21⟩ := (kSn_iff _ _ _).mp g20
  obtain ⟨v, h5, g22⟩ := (kGet_iff _ _ _).mp g21
  obtain ⟨rfl, g23⟩ := (kSn_iff _ _ _).mp g22
  have ne : ∀ j : Nat, v_s j ≠ v_d 0 := fun j h => by cases h
  have hcell := hd (k / 8) (k % 8) (by omega) (by omega)
  rw [show k / 8 * 8 + k % 8 = k by omega] at hcell
  refine rdisc_R (n := cI (ρ 5)) (ra := cI (ρ 4)) (k := k) a2 (hL 2 _ h2 (ne 2)) (hL 3 _ h3 (ne 3)) (hL 4 _ h4 (ne 4)) (hL 5 _ h5 (ne 5)) (hL 6 _ h6 (by rintro q; cases q)) (hL 7 _ h7 (by rintro q; cases q)) (hL 8 _ h8 (by rintro q; cases q)) hq hge (by omega) (fun hlt => ?_) (fun hlt => ?_)
  · rw [if_pos hlt] at hcell
    exact hr 156 115 L [] F H' E B CF cL cH g23 hL hF (n1 hcell) hE hB
  · rw [if_neg hlt] at hcell
    rw [← hcell]
    exact hr 156 115 L [] F H' E B CF cL _ g23 hL hF n2 hE (hB.set hge (by simp [m_sz]))
end E2
