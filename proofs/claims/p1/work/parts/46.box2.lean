/-! box: the round of the reference; blocks; the case -/
set_option maxRecDepth 100000 in
theorem c145_0 : m_code 145 0 = some (.iload_n 0, 0, 0, 0, 0) := rfl
set_option maxRecDepth 100000 in
theorem c145_1 : m_code 145 1 = some (.iload_n 1, 0, 0, 0, 0) := rfl
set_option maxRecDepth 100000 in
theorem c145_2 : m_code 145 2 = some (.if_icmp .lt 12, 14, 0, 0, 0) := rfl
set_option maxRecDepth 100000 in
theorem c145_5 : m_code 145 5 = some (.iload_n 0, 0, 0, 0, 0) := rfl
set_option maxRecDepth 100000 in
theorem c145_6 : m_code 145 6 = some (.iload_n 2, 0, 0, 0, 0) := rfl
set_option maxRecDepth 100000 in
theorem c145_7 : m_code 145 7 = some (.if_icmp .gt 7, 14, 0, 0, 0) := rfl
set_option maxRecDepth 100000 in
theorem c145_10 : m_code 145 10 = some (.iconst 1, 0, 0, 0, 0) := rfl
set_option maxRecDepth 100000 in
theorem c145_11 : m_code 145 11 = some (.goto 4, 15, 0, 0, 0) := rfl
set_option maxRecDepth 100000 in
theorem c145_14 : m_code 145 14 = some (.iconst 0, 0, 0, 0, 0) := rfl
set_option maxRecDepth 100000 in
theorem c145_15 : m_code 145 15 = some (.ireturn, 0, 0, 0, 0) := rfl
set_option maxRecDepth 100000 in
theorem c155_86 : m_code 155 86 = some (.iload 9, 0, 0, 0, 0) := rfl
set_option maxRecDepth 100000 in
theorem c155_88 : m_code 155 88 = some (.aload 7, 0, 0, 0, 0) := rfl
set_option maxRecDepth 100000 in
theorem c155_90 : m_code 155 90 = some (.getfield 81, 6, 0, 0, 863) := rfl
set_option maxRecDepth 100000 in
theorem c155_93 : m_code 155 93 = some (.irem, 0, 0, 0, 0) := rfl
set_option maxRecDepth 100000 in
theorem c155_94 : m_code 155 94 = some (.iload_n 2, 0, 0, 0, 0) := rfl
set_option maxRecDepth 100000 in
theorem c155_95 : m_code 155 95 = some (.iload 4, 0, 0, 0, 0) := rfl
set_option maxRecDepth 100000 in
theorem c155_97 : m_code 155 97 = some (.invokestatic 3, 0, 965, 4, 0) := rfl
set_option maxRecDepth 100000 in
theorem c155_100 : m_code 155 100 = some (.iload_n 2, 0, 0, 0, 0) := rfl
set_option maxRecDepth 100000 in
theorem c155_101 : m_code 155 101 = some (.iload 4, 0, 0, 0, 0) := rfl
set_option maxRecDepth 100000 in
theorem c155_103 : m_code 155 103 = some (.invokestatic 9, 0, 966, 3, 0) := rfl
set_option maxRecDepth 100000 in
theorem c155_106 : m_code 155 106 = some (.invokestatic 43, 145, 906, 1, 0) := rfl
set_option maxRecDepth 100000 in
theorem c155_109 : m_code 155 109 = some (.ifCond .eq 36, 145, 0, 0, 0) := rfl
set_option maxRecDepth 100000 in
theorem c155_112 : m_code 155 112 = some (.iload 9, 0, 0, 0, 0) := rfl
set_option maxRecDepth 100000 in
theorem c155_114 : m_code 155 114 = some (.aload 7, 0, 0, 0, 0) := rfl
set_option maxRecDepth 100000 in
theorem c155_116 : m_code 155 116 = some (.getfield 81, 6, 0, 0, 863) := rfl
set_option maxRecDepth 100000 in
theorem c155_119 : m_code 155 119 = some (.idiv, 0, 0, 0, 0) := rfl
set_option maxRecDepth 100000 in
theorem c155_120 : m_code 155 120 = some (.iload_n 3, 0, 0, 0, 0) := rfl
set_option maxRecDepth 100000 in
theorem c155_121 : m_code 155 121 = some (.iload 5, 0, 0, 0, 0) := rfl
set_option maxRecDepth 100000 in
theorem c155_123 : m_code 155 123 = some (.invokestatic 3, 0, 965, 4, 0) := rfl
set_option maxRecDepth 100000 in
theorem c155_126 : m_code 155 126 = some (.iload_n 3, 0, 0, 0, 0) := rfl
set_option maxRecDepth 100000 in
theorem c155_127 : m_code 155 127 = some (.iload 5, 0, 0, 0, 0) := rfl
set_option maxRecDepth 100000 in
theorem c155_129 : m_code 155 129 = some (.invokestatic 9, 0, 966, 3, 0) := rfl
set_option maxRecDepth 100000 in
theorem c155_132 : m_code 155 132 = some (.invokestatic 43, 145, 906, 1, 0) := rfl
set_option maxRecDepth 100000 in
theorem c155_135 : m_code 155 135 = some (.ifCond .eq 10, 145, 0, 0, 0) := rfl
set_option maxRecDepth 100000 in
theorem c155_138 : m_code 155 138 = some (.aload 8, 0, 0, 0, 0) := rfl
set_option maxRecDepth 100000 in
theorem c155_140 : m_code 155 140 = some (.iload 9, 0, 0, 0, 0) := rfl
set_option maxRecDepth 100000 in
theorem c155_142 : m_code 155 142 = some (.iload 6, 0, 0, 0, 0) := rfl
set_option maxRecDepth 100000 in
theorem c155_144 : m_code 155 144 = some (.iastore, 0, 0, 0, 0) := rfl
section RX
variable {scr : List Int32} {CF : List mW} {M pc x y w : Nat} {z : Int} {L : mL} {S : List Value} {H : List mC}
theorem m_i145 : m_stc 145 = true ∧ m_na 145 = 3 ∧ m_nL 145 = 3 := by decide +kernel
theorem m_rt145 : m_rok (m_rt 145) (some (.int 0)) = true ∧ m_rok (m_rt 145) (some (.int 1)) = true := by decide +kernel
theorem isin_C {n0 : Nat} {v lo hi : Int32} (hc : m_code M pc = some (.invokestatic n0, 145, y, w, z)) (hw : w = 1 ∨ w = 2) (hS : m_cat S ≤ 8) (k : m_Rn scr CF M (pc + 3) L (.int (if lo ≤ v ∧ v ≤ hi then 1 else 0) :: S) H) : m_Rn scr CF M pc L (.int hi :: .int lo :: .int v :: S) H := by
  obtain ⟨h1, h2, h4⟩ := m_i145
  refine m_Rn.call hc hw rfl (as := [.int v, .int lo, .int hi]) (S' := S) ?_ (by rw [h4]; simp [m_cat, Value.category]) ?_
  · unfold m_cut
    rw [h1, if_pos rfl, h2, if_pos ⟨by simp, hS⟩]
    rfl
  · show m_Rn scr _ 145 0 [(0, .int v), (1, .int lo), (2, .int hi)] [] H
    refine Ra_iload_n c145_0 rfl (Ra_iload_n c145_1 rfl ?_)
    by_cases ha : v < lo
    · rw [if_neg (fun q => by have := q.1; rw [Int32.le_iff_toInt_le] at this; rw [Int32.lt_iff_toInt_lt] at ha; omega)] at k
      refine Ra_ict c145_2 (decide_eq_true ha) (m_R1 c145_14 rfl rfl ?_)
      exact m_Rn.ret c145_15 (by decide) rfl (v := some (.int 0)) rfl m_rt145.1 k
    · refine Ra_icf c145_2 (decide_eq_false ha) (Ra_iload_n c145_5 rfl (Ra_iload_n c145_6 rfl ?_))
      by_cases hb : hi < v
      · rw [if_neg (fun q => by have := q.2; rw [Int32.le_iff_toInt_le] at this; rw [Int32.lt_iff_toInt_lt] at hb; omega)] at k
        refine Ra_ict c145_7 (decide_eq_true hb) (m_R1 c145_14 rfl rfl ?_)
        exact m_Rn.ret c145_15 (by decide) rfl (v := some (.int 0)) rfl m_rt145.1 k
      · rw [if_pos ⟨by rw [Int32.le_iff_toInt_le]; rw [Int32.lt_iff_toInt_lt] at ha; omega, by rw [Int32.le_iff_toInt_le]; rw [Int32.lt_iff_toInt_lt] at hb; omega⟩] at k
        refine Ra_icf c145_7 (decide_eq_false hb) (m_R1 c145_10 rfl rfl (m_R1 c145_11 rfl rfl ?_))
        exact m_Rn.ret c145_15 (by decide) rfl (v := some (.int 1)) rfl m_rt145.2 k
def m_mn (a b : Int32) : Int32 := if b < a then b else a
def m_mx (a b : Int32) : Int32 := if a < b then b else a
def bxc (x y x2 y2 c r : Int32) : Prop := (m_mn x x2 ≤ c ∧ c ≤ m_mx x x2) ∧ m_mn y y2 ≤ r ∧ r ≤ m_mx y y2
theorem rbox_R {q u k : Nat} {x y x2 y2 n : Int32} {g1 g2 : Value} {vs : List Value} (hk : k < 64) (l2 : m_ld L 2 = some (.int x)) (l3 : m_ld L 3 = some (.int y)) (l4 : m_ld L 4 = some (.int x2)) (l5 : m_ld L 5 = some (.int y2)) (l6 : m_ld L 6 = some (.int n)) (l7 : m_ld L 7 = some (.ref q)) (l8 : m_ld L 8 = some (.ref u)) (l9 : m_ld L 9 = some (.int (cI (2147483648 + k))))
    (hq : m_get H q = some (.inr (6, [.int (cI 2147483656), g1, g2]))) (hu : m_get H u = some (.inl (0, vs))) (hkl : k < vs.length)
    (k1 : ¬ bxc x y x2 y2 (cI (2147483648 + k % 8)) (cI (2147483648 + k / 8)) → m_Rn scr CF 155 145 L [] H)
    (k2 : bxc x y x2 y2 (cI (2147483648 + k % 8)) (cI (2147483648 + k / 8)) → m_Rn scr CF 155 145 L [] (m_set H u (.inl (0, vs.set k (.int n))))) : m_Rn scr CF 155 86 L [] H := by
  refine Ra_iload c155_86 l9 (Ra_aload c155_88 l7 (Ra_get c155_90 hq rfl (Ra_rem8 c155_93 hk ?_)))
  refine Ra_iload_n c155_94 l2 (Ra_iload c155_95 l4 (Ra_min c155_97 (by simp [m_cat, Value.category]) (Ra_iload_n c155_100 l2 (Ra_iload c155_101 l4 (Ra_max c155_103 (by simp [m_cat, Value.category]) ?_)))))
  refine isin_C c155_106 (by decide) (by simp [m_cat]) ?_
  show m_Rn scr CF 155 109 L [.int (if m_mn x x2 ≤ cI (2147483648 + k % 8) ∧ cI (2147483648 + k % 8) ≤ m_mx x x2 then 1 else 0)] H
  by_cases hc : m_mn x x2 ≤ cI (2147483648 + k % 8) ∧ cI (2147483648 + k % 8) ≤ m_mx x x2
  · rw [if_pos hc]
    refine Ra_iff c155_109 (by decide) ?_
    refine Ra_iload c155_112 l9 (Ra_aload c155_114 l7 (Ra_get c155_116 hq rfl (Ra_div8 c155_119 hk ?_)))
    refine Ra_iload_n c155_120 l3 (Ra_iload c155_121 l5 (Ra_min c155_123 (by simp [m_cat, Value.category]) (Ra_iload_n c155_126 l3 (Ra_iload c155_127 l5 (Ra_max c155_129 (by simp [m_cat, Value.category]) ?_)))))
    refine isin_C c155_132 (by decide) (by simp [m_cat]) ?_
    show m_Rn scr CF 155 135 L [.int (if m_mn y y2 ≤ cI (2147483648 + k / 8) ∧ cI (2147483648 + k / 8) ≤ m_mx y y2 then 1 else 0)] H
    by_cases hr : m_mn y y2 ≤ cI (2147483648 + k / 8) ∧ cI (2147483648 + k / 8) ≤ m_mx y y2
    · rw [if_pos hr]
      refine Ra_iff c155_135 (by decide) ?_
      refine Ra_aload c155_138 l8 (Ra_iload c155_140 l9 (Ra_iload c155_142 l6 (Ra_ias (u := 0) (t := 0) c155_144 hu ⟨by omega, by omega, by omega⟩ ?_)))
      rw [Nat.add_sub_cancel_left]
      exact k2 ⟨hc, hr⟩
    · rw [if_neg hr]
      exact Ra_ift c155_135 (by decide) (k1 (fun q => hr q.2))
  · rw [if_neg hc]
    exact Ra_ift c155_109 (by decide) (k1 (fun q => hc q.1))
end RX
noncomputable section
def s_syT (T : List (List sV)) : List (List sV) := [.inr (.inr (.inl 10)), .inr (.inr (.inl 11)), .inr (.inr (.inl 12)), .inr (.inr (.inl 13)), .inr (.inr (.inl 14)), .inr (.inr (.inl 15)), .inr (.inr (.inl 16)), .inr (.inr (.inl 17)), .inr (.inr (.inl 18)), .inr (.inr (.inl 19)), .inr (.inr (.inl 20)), .inr (.inr (.inl 21)), .inr (.inr (.inl 22)), .inr (.inr (.inl 23)), .inr (.inr (.inl 24)), .inr (.inr (.inl 25))] :: [.inr (.inr (.inl 26)), .inr (.inr (.inl 27)), .inr (.inr (.inl 28)), .inr (.inr (.inl 29)), .inr (.inr (.inl 30)), .inr (.inr (.inl 31)), .inr (.inr (.inl 32)), .inr (.inr (.inl 33)), .inr (.inr (.inl 34)), .inr (.inr (.inl 35)), .inr (.inr (.inl 36)), .inr (.inr (.inl 37)), .inr (.inr (.inl 38)), .inr (.inr (.inl 39)), .inr (.inr (.inl 40)), .inr (.inr (.inl 41))] :: [.inr (.inr (.inl 42)), .inr (.inr (.inl 43)), .inr (.inr (.inl 44)), .inr (.inr (.inl 45)), .inr (.inr (.inl 46)), .inr (.inr (.inl 47)), .inr (.inr (.inl 48)), .inr (.inr (.inl 49)), .inr (.inr (.inl 50)), .inr (.inr (.inl 51)), .inr (.inr (.inl 52)), .inr (.inr (.inl 53)), .inr (.inr (.inl 54)), .inr (.inr (.inl 55)), .inr (.inr (.inl 56)), .inr (.inr (.inl 57))] :: [.inr (.inr (.inl 58)), .inr (.inr (.inl 59)), .inr (.inr (.inl 60)), .inr (.inr (.inl 61)), .inr (.inr (.inl 62)), .inr (.inr (.inl 63)), .inr (.inr (.inl 64)), .inr (.inr (.inl 65)), .inr (.inr (.inl 66)), .inr (.inr (.inl 67)), .inr (.inr (.inl 68)), .inr (.inr (.inl 69)), .inr (.inr (.inl 70)), .inr (.inr (.inl 71)), .inr (.inr (.inl 72)), .inr (.inr (.inl 73))] :: T
def kT4 (T : List (List sV)) (k : List (List sV) → Bool) : Bool := kPop T (fun r0 T => kPop T (fun r1 T => kPop T (fun r2 T => kPop T (fun r3 T => kAz [r0, r1, r2, r3] (k (s_syT T))))))
/-- the local j is the symbol j, one of 0 to 7 -/
def kB7 (L : List sV) (E : sE) (j : Nat) (b : Bool) : Bool := kGet L j (fun v => kSn v j (kRg v E (fun lo hi => kB (Nat.ble 2147483648 lo) (kB (Nat.ble hi 2147483655) b false) false)))
def s_mgX (r : sR) : sK := fun L S X => kNil S (kX X (fun F H E B => kGet L 0 (fun o => kA o (fun ob => kH H ob (fun c => kCo c 5 (fun fs => kGet fs 1 (fun qv => kA qv (fun q => kSh 3 H q (fun u n T => kT4 T (fun T => kHs H u (.inl (0, n, T)) (fun H => kB7 L E 2 (kB7 L E 3 (kB7 L E 4 (kB7 L E 5 (kGet L 6 (fun v => kSn v 6 (kRg v E (fun lo hi => kB (Nat.ble 2147483648 lo) (kB (Nat.ble hi 2147483903) (kSl L 8 (.inr (.inr (.inr (.inr (.inr (.inl 0)))))) (fun L => kSl L 9 (.inr (.inr (.inr (.inr (.inr (.inl 0)))))) (fun L => r 55 103 L [] (F, H, E, B)))) false) false))))))))))) (fun _ => false))))) (fun _ => false))))
def s_mgY (r : sR) : sK := fun L S X => kNil S (kX X (fun F H E B => (kGet L 9 (fun v => kI v (fun e => kIx e 64 (fun k => (kGet L 7 (fun o => kA o (fun q => kSh 6 H q (fun _ _ _ => (kGet L 8 (fun o => kA o (fun u => kH H u (fun c => kCa c 0 (fun n T => kB (Nat.ble 64 n) (kCl H u n k T (fun H => (kGet L 2 (fun v => kSn v 2 (kGet L 3 (fun v => kSn v 3 (kGet L 4 (fun v => kSn v 4 (kGet L 5 (fun v => kSn v 5 (kGet L 6 (fun v => kSn v 6 (r 155 145 L [] (F, H, E, B)))))))))))))) false))) (fun _ => false))))) (fun _ => false)))))))))
def bo_155_78 (r : sR) : sK := s_ild 9 (s_ald 8 (s_len (s_ilt (s_mgY r) (r 155 151))))
def O_box : sO := [(38, [(9, bo_38_9)]), (113, [(9, bo_113_9)]), (55, [(40, s_mgX)]), (155, [(78, bo_155_78)])]
end
section RY
variable {scr : List Int32} {σ ρ : Nat → Nat}
theorem sy_e0 : ∀ i, i < 16 → ([.inr (.inr (.inl 10)), .inr (.inr (.inl 11)), .inr (.inr (.inl 12)), .inr (.inr (.inl 13)), .inr (.inr (.inl 14)), .inr (.inr (.inl 15)), .inr (.inr (.inl 16)), .inr (.inr (.inl 17)), .inr (.inr (.inl 18)), .inr (.inr (.inl 19)), .inr (.inr (.inl 20)), .inr (.inr (.inl 21)), .inr (.inr (.inl 22)), .inr (.inr (.inl 23)), .inr (.inr (.inl 24)), .inr (.inr (.inl 25))] : List sV)[i]? = some (v_s (10 + i))
  | 0, _ => rfl
  | 1, _ => rfl
  | 2, _ => rfl
  | 3, _ => rfl
  | 4, _ => rfl
  | 5, _ => rfl
  | 6, _ => rfl
  | 7, _ => rfl
  | 8, _ => rfl
  | 9, _ => rfl
  | 10, _ => rfl
  | 11, _ => rfl
  | 12, _ => rfl
  | 13, _ => rfl
  | 14, _ => rfl
  | 15, _ => rfl
  | n + 16, h => absurd h (by omega)
theorem sy_e1 : ∀ i, i < 16 → ([.inr (.inr (.inl 26)), .inr (.inr (.inl 27)), .inr (.inr (.inl 28)), .inr (.inr (.inl 29)), .inr (.inr (.inl 30)), .inr (.inr (.inl 31)), .inr (.inr (.inl 32)), .inr (.inr (.inl 33)), .inr (.inr (.inl 34)), .inr (.inr (.inl 35)), .inr (.inr (.inl 36)), .inr (.inr (.inl 37)), .inr (.inr (.inl 38)), .inr (.inr (.inl 39)), .inr (.inr (.inl 40)), .inr (.inr (.inl 41))] : List sV)[i]? = some (v_s (26 + i))
  | 0, _ => rfl
  | 1, _ => rfl
  | 2, _ => rfl
  | 3, _ => rfl
  | 4, _ => rfl
  | 5, _ => rfl
  | 6, _ => rfl
  | 7, _ => rfl
  | 8, _ => rfl
  | 9, _ => rfl
  | 10, _ => rfl
  | 11, _ => rfl
  | 12, _ => rfl
  | 13, _ => rfl
  | 14, _ => rfl
  | 15, _ => rfl
  | n + 16, h => absurd h (by omega)
theorem sy_e2 : ∀ i, i < 16 → ([.inr (.inr (.inl 42)), .inr (.inr (.inl 43)), .inr (.inr (.inl 44)), .inr (.inr (.inl 45)), .inr (.inr (.inl 46)), .inr (.inr (.inl 47)), .inr (.inr (.inl 48)), .inr (.inr (.inl 49)), .inr (.inr (.inl 50)), .inr (.inr (.inl 51)), .inr (.inr (.inl 52)), .inr (.inr (.inl 53)), .inr (.inr (.inl 54)), .inr (.inr (.inl 55)), .inr (.inr (.inl 56)), .inr (.inr (.inl 57))] : List sV)[i]? = some (v_s (42 + i))
  | 0, _ => rfl
  | 1, _ => rfl
  | 2, _ => rfl
  | 3, _ => rfl
  | 4, _ => rfl
  | 5, _ => rfl
  | 6, _ => rfl
  | 7, _ => rfl
  | 8, _ => rfl
  | 9, _ => rfl
  | 10, _ => rfl
  | 11, _ => rfl
  | 12, _ => rfl
  | 13, _ => rfl
  | 14, _ => rfl
  | 15, _ => rfl
  | n + 16, h => absurd h (by omega)
theorem sy_e3 : ∀ i, i < 16 → ([.inr (.inr (.inl 58)), .inr (.inr (.inl 59)), .inr (.inr (.inl 60)), .inr (.inr (.inl 61)), .inr (.inr (.inl 62)), .inr (.inr (.inl 63)), .inr (.inr (.inl 64)), .inr (.inr (.inl 65)), .inr (.inr (.inl 66)), .inr (.inr (.inl 67)), .inr (.inr (.inl 68)), .inr (.inr (.inl 69)), .inr (.inr (.inl 70)), .inr (.inr (.inl 71)), .inr (.inr (.inl 72)), .inr (.inr (.inl 73))] : List sV)[i]? = some (v_s (58 + i))
  | 0, _ => rfl
  | 1, _ => rfl
  | 2, _ => rfl
  | 3, _ => rfl
  | 4, _ => rfl
  | 5, _ => rfl
  | 6, _ => rfl
  | 7, _ => rfl
  | 8, _ => rfl
  | 9, _ => rfl
  | 10, _ => rfl
  | 11, _ => rfl
  | 12, _ => rfl
  | 13, _ => rfl
  | 14, _ => rfl
  | 15, _ => rfl
  | n + 16, h => absurd h (by omega)
theorem g2_syT {T : List (List sV)} {i : Nat} (hi : i < 64) : g2 (s_syT T) i = some (v_s (10 + i)) := by
  unfold s_syT
  by_cases h0 : i < 16
  · rw [g2_lo h0]; exact sy_e0 i h0
  rw [g2_hi (by omega)]
  by_cases h1 : i - 16 < 16
  · rw [g2_lo h1, sy_e1 _ h1, show 26 + (i - 16) = 10 + i by omega]
  rw [g2_hi (by omega)]
  by_cases h2 : i - 16 - 16 < 16
  · rw [g2_lo h2, sy_e2 _ h2, show 42 + (i - 16 - 16) = 10 + i by omega]
  rw [g2_hi (by omega)]
  have h3 : i - 16 - 16 - 16 < 16 := by omega
  rw [g2_lo h3, sy_e3 _ h3, show 58 + (i - 16 - 16 - 16) = 10 + i by omega]
theorem g2_c {c : List sV} {T T' : List (List sV)} {j : Nat} (h : 16 ≤ j → g2 T (j - 16) = g2 T' (j - 16)) : g2 (c :: T) j = g2 (c :: T') j := by
  by_cases e : j < 16
  · rw [g2_lo e, g2_lo e]
  · rw [g2_hi (T := T) (by omega), g2_hi (T := T') (by omega)]
    exact h (by omega)
theorem g2_h {c c' : List sV} {T T' : List (List sV)} {j : Nat} (hj : 16 ≤ j) (h : g2 T (j - 16) = g2 T' (j - 16)) : g2 (c :: T) j = g2 (c' :: T') j :=
  (g2_hi (c := c) (T := T) hj).trans (h.trans (g2_hi (c := c') (T := T') hj).symm)
theorem g2_syT_hi {r0 r1 r2 r3 : List sV} {T : List (List sV)} {i : Nat} (hi : 64 ≤ i) : g2 (s_syT T) i = g2 (r0 :: r1 :: r2 :: r3 :: T) i :=
  g2_h (by omega) (g2_h (by omega) (g2_h (by omega) (g2_h (by omega) rfl)))
theorem g2_four {r0 r1 r2 r3 : List sV} {T : List (List sV)} {i : Nat} (hi : i < 64) : g2 (r0 :: r1 :: r2 :: r3 :: T) i = g2 [r0, r1, r2, r3] i :=
  g2_c (fun _ => g2_c (fun _ => g2_c (fun _ => g2_c (fun h => absurd h (by omega)))))
theorem kT4_of {T : List (List sV)} {kk : List (List sV) → Bool} (h : kT4 T kk = true) : ∃ T', (∀ i v, i < 64 → g2 T i = some v → v = v_i 2147483648) ∧ (∀ i, i < 64 → g2 T' i = some (v_s (10 + i))) ∧ (∀ i, 64 ≤ i → g2 T' i = g2 T i) ∧ kk T' = true := by
  obtain ⟨r0, T0, rfl, h0⟩ := (kPop_iff _ _).mp h
  obtain ⟨r1, T1, rfl, h1⟩ := (kPop_iff _ _).mp h0
  obtain ⟨r2, T2, rfl, h2⟩ := (kPop_iff _ _).mp h1
  obtain ⟨r3, T3, rfl, h3⟩ := (kPop_iff _ _).mp h2
  obtain ⟨h4, h5⟩ := kAz_of h3
  exact ⟨s_syT T3, fun i v hi hv => h4 i v (by rw [← g2_four hi]; exact hv), fun i hi => g2_syT hi, fun i hi => g2_syT_hi hi, h5⟩
theorem kB7_of {L : List sV} {E : sE} {j : Nat} {b : Bool} (h : kB7 L E j b = true) (hE : s_eo ρ E) : L[j]? = some (v_s j) ∧ b = true ∧ ∃ a, a < 8 ∧ cI (ρ j) = cI (2147483648 + a) := by
  obtain ⟨v, hl, h1⟩ := (kGet_iff _ _ _).mp h
  obtain ⟨rfl, h2⟩ := (kSn_iff _ _ _).mp h1
  obtain ⟨e, lo, hi, e1, e2, e3, e4, h3⟩ := kRg_of (σ := id) h2 hE
  rw [kB_f, kB_f, Nat.ble_eq, Nat.ble_eq] at h3
  have q : cI (ρ j) = cI e := Value.int.inj e1
  refine ⟨hl, h3.2.2, e - 2147483648, by omega, ?_⟩
  rw [q, Nat.add_sub_cancel' (show 2147483648 ≤ e by omega)]
theorem s_lo.st1p {L : List sV} {cL : mL} {i : Nat} {v : Value} (h : s_lo σ ρ L cL) (hi : L[i]? = some (v_d 0)) (hp : ∀ u, 0 < i → L[i - 1]? = some u → ¬ v_two u) : s_lo σ ρ L (m_st1 i v cL) := by
  have q := h.st1d (v := v) hp
  intro j u hj hn
  refine q j u ?_ hn
  rw [List.getElem?_set]
  by_cases e : i = j
  · subst e
    rw [hi] at hj
    cases hj
    exact absurd rfl hn
  · rw [if_neg e]; exact hj
theorem s_lo.pad {L : List sV} {cL : mL} {i : Nat} (h : s_lo σ ρ L cL) : s_lo σ ρ (L.set i (v_d 0)) cL := by
  intro j u hj hn
  by_cases e : j = i
  · subst e
    rw [List.getElem?_set] at hj
    simp only [if_true] at hj
    split at hj
    · cases hj; exact absurd rfl hn
    · cases hj
  · rw [List.getElem?_set_ne (Ne.symm e)] at hj
    exact h j u hj hn
/-- what box makes of each field -/
def s_bxx (ρ : Nat → Nat) : Prop := ∀ k, k < 64 → (bxc (cI (ρ 2)) (cI (ρ 3)) (cI (ρ 4)) (cI (ρ 5)) (cI (2147483648 + k % 8)) (cI (2147483648 + k / 8)) → cI (ρ (k + 10)) = cI (ρ 6)) ∧ (¬ bxc (cI (ρ 2)) (cI (ρ 3)) (cI (ρ 4)) (cI (ρ 5)) (cI (2147483648 + k % 8)) (cI (2147483648 + k / 8)) → cI (ρ (k + 10)) = 0)
theorem bxc_nat {x1 y1 x2 y2 k : Nat} (h1 : x1 < 8) (h2 : y1 < 8) (h3 : x2 < 8) (h4 : y2 < 8) (hk : k < 64) : bxc (cI (2147483648 + x1)) (cI (2147483648 + y1)) (cI (2147483648 + x2)) (cI (2147483648 + y2)) (cI (2147483648 + k % 8)) (cI (2147483648 + k / 8)) ↔ (min x1 x2 ≤ k % 8 ∧ k % 8 ≤ max x1 x2) ∧ min y1 y2 ≤ k / 8 ∧ k / 8 ≤ max y1 y2 := by
  unfold bxc m_mn m_mx
  rw [mn_cI h1 h3, mx_cI h1 h3, mn_cI h2 h4, mx_cI h2 h4, cI_le (by omega) (by omega), cI_le (by omega) (by omega), cI_le (by omega) (by omega), cI_le (by omega) (by omega)]
  omega
theorem O_mgX (hσ : s_in σ) (hd : s_bxx ρ) {r : sR} (hr : ∀ M pc, s_OK scr σ ρ (r M pc) M pc) : s_OK scr σ ρ (s_mgX r) 55 40 := by
  intro L S F H E B CF cL cH g0 hL hF hH hE hB
  obtain ⟨rfl, g1⟩ := (kNil_iff _ _).mp g0
  rw [kX_eq] at g1
  obtain ⟨o, h0, g8⟩ := (kGet_iff _ _ _).mp g1
  rcases (kA_iff _ _ _).mp g8 with ⟨ob, rfl, g9⟩ | ⟨p, rfl, g9⟩
  rotate_left
  · cases g9
  obtain ⟨c, hc, g10⟩ := (kH_iff _ _ _).mp g9
  obtain ⟨fs, rfl, g11⟩ := (kCo_iff _ _ _).mp g10
  obtain ⟨qv, hqv, g12⟩ := (kGet_iff _ _ _).mp g11
  rcases (kA_iff _ _ _).mp g12 with ⟨q, rfl, g13⟩ | ⟨p, rfl, g13⟩
  rotate_left
  · cases g13
  obtain ⟨u, n, hh, T, vs0, hu, hn64, hq, hge, hl, hn, hv, g14⟩ := kSh_of (by decide) g13 hH
  obtain ⟨T', t0, t1, t2, g15⟩ := kT4_of g14
  obtain ⟨H', g16, hset⟩ := kHs_of g15
  obtain ⟨h2, g17, x1, b1, e1⟩ := kB7_of g16 hE
  obtain ⟨h3, g18, y1, b2, e2⟩ := kB7_of g17 hE
  obtain ⟨h4, g19, x2, b3, e3⟩ := kB7_of g18 hE
  obtain ⟨h5, g20, y2, b4, e4⟩ := kB7_of g19 hE
  obtain ⟨v, h6, g21⟩ := (kGet_iff _ _ _).mp g20
  obtain ⟨rfl, g22⟩ := (kSn_iff _ _ _).mp g21
  obtain ⟨e, lo, hi, f1, f2, f3, f4, g23⟩ := kRg_of (σ := σ) g22 hE
  rw [kB_f, kB_f, Nat.ble_eq, Nat.ble_eq] at g23
  obtain ⟨e5, e6, g24⟩ := g23
  obtain ⟨s1, g25, s2⟩ := kSl_of g24
  obtain ⟨s3, g26, s4⟩ := kSl_of g25
  have hcr : (5 : Nat) = 98 ∨ m_get cH (σ ob) = some (.inr (5, fs.map (sv σ ρ))) := hH ob _ hc
  have hfs : (fs.map (sv σ ρ))[1]? = some (.ref (σ q)) := by rw [List.getElem?_map, hqv]; rfl
  have hv6 : cI (ρ 6) = cI e := by
    have : Value.int (cI (ρ 6)) = Value.int (cI e) := f1
    injection this
  have hclp : m_clp (cI (ρ 6)) = cI (ρ 6) := by rw [hv6]; exact m_clp_of (by omega) (by omega)
  have pd : (.inr (.inr (.inr (.inr (.inr (.inl 0))))) : sV) = v_d 0 := rfl
  rw [pd] at g26 s4
  have i8 : ((L.set 8 (v_d 0)).set 9 (v_d 0))[8]? = some (v_d 0) := by
    rw [List.getElem?_set_ne (by decide), List.getElem?_set_self s1]
  have i9 : ((L.set 8 (v_d 0)).set 9 (v_d 0))[9]? = some (v_d 0) := by
    rw [List.getElem?_set_self s3]
  have lo' : ∀ j, j < 8 → ((L.set 8 (v_d 0)).set 9 (v_d 0))[j]? = L[j]? := fun j hj => by
    rw [List.getElem?_set_ne (by omega), List.getElem?_set_ne (by omega)]
  have p8 : ∀ u, 0 < 8 → ((L.set 8 (v_d 0)).set 9 (v_d 0))[8 - 1]? = some u → ¬ v_two u := fun u h hu => s2 u h (by rw [← lo' 7 (by decide)]; exact hu)
  have p9 : ∀ u, 0 < 9 → ((L.set 8 (v_d 0)).set 9 (v_d 0))[9 - 1]? = some u → ¬ v_two u := fun u h hu => by
    have hu' : ((L.set 8 (v_d 0)).set 9 (v_d 0))[8]? = some u := hu
    rw [i8] at hu'
    cases hu'
    rintro (⟨l, q⟩ | ⟨d, q⟩) <;> cases q
  have hY : bxY cH (σ ob) (σ q) (σ u) x1 y1 x2 y2 (cI (ρ 6)) (cI hh) (fs.map (sv σ ρ)) vs0 (fun cL' => s_lo σ ρ ((L.set 8 (v_d 0)).set 9 (v_d 0)) cL') := by
    refine ⟨⟨b1, b2, b3, b4⟩, hclp, ⟨hcr.resolve_left (by decide), hfs, hq, hge, by omega⟩, fun cL' hQ => ⟨?_, ?_, ?_, ?_, ?_, ?_⟩, fun cL' v hQ => hQ.st1p i8 p8, fun cL' v hQ => hQ.st1p i9 p9⟩
    · exact hQ 0 _ (by rw [lo' 0 (by decide)]; exact h0) (by rintro q; cases q)
    · rw [← e1]; exact hQ 2 _ (by rw [lo' 2 (by decide)]; exact h2) (ne_s 2)
    · rw [← e2]; exact hQ 3 _ (by rw [lo' 3 (by decide)]; exact h3) (ne_s 3)
    · rw [← e3]; exact hQ 4 _ (by rw [lo' 4 (by decide)]; exact h4) (ne_s 4)
    · rw [← e4]; exact hQ 5 _ (by rw [lo' 5 (by decide)]; exact h5) (ne_s 5)
    · exact hQ 6 _ (by rw [lo' 6 (by decide)]; exact h6) (ne_s 6)
  refine bx_R hY (fun k hk => ?_) hL.pad.pad (fun cL' vs hQ hP => ?_)
  · obtain ⟨v, a1, a2⟩ := hv k (by omega)
    rw [a2, t0 k v hk a1]
    show some (Value.int (cI 2147483648)) = _
    rw [cI_zero]
  · obtain ⟨q1, q2, q3⟩ := hP
    refine hr 55 103 _ [] F H' E B CF cL' _ g26 hQ hF (hH.set hσ hge hset (fun qq => ⟨hn, vs, qq, by omega, fun i hi => ?_⟩)) hE (hB.set hge (by simp [m_sz, q1]))
    by_cases h64 : i < 64
    · refine ⟨_, t1 i h64, ?_⟩
      rw [q2 i h64]
      show some (Value.int _) = some (Value.int (cI (ρ (10 + i))))
      rw [Nat.add_comm 10 i]
      have hx := hd i h64
      rw [e1, e2, e3, e4, bxc_nat b1 b2 b3 b4 h64] at hx
      unfold bxv
      by_cases hin : (min x1 x2 ≤ i % 8 ∧ i % 8 ≤ max x1 x2) ∧ min y1 y2 ≤ i / 8 ∧ i / 8 ≤ max y1 y2
      · rw [if_pos (by omega), hx.1 hin]
      · rw [if_neg (by omega), hx.2 hin]
    · rw [t2 i (by omega), q3 i (by omega)]
      exact hv i hi
theorem O_mgY (hσ : s_in σ) (hd : s_bxx ρ) {r : sR} (hr : ∀ M pc, s_OK scr σ ρ (r M pc) M pc) : s_OK scr σ ρ (s_mgY r) 155 86 := by
  intro L S F H E B CF cL cH g0 hL hF hH hE hB
  obtain ⟨rfl, g1⟩ := (kNil_iff _ _).mp g0
  rw [kX_eq] at g1
  obtain ⟨vr, h9, g2'⟩ := (kGet_iff _ _ _).mp g1
  obtain ⟨e, rfl, g3⟩ := (kI_iff _ _).mp g2'
  obtain ⟨a1, a2, g4⟩ := (kIx_iff _ _ _).mp g3
  obtain ⟨k, rfl⟩ : ∃ k, e = 2147483648 + k := ⟨e - 2147483648, by omega⟩
  rw [Nat.add_sub_cancel_left] at a2 g4
  obtain ⟨o, h7, g5⟩ := (kGet_iff _ _ _).mp g4
  rcases (kA_iff _ _ _).mp g5 with ⟨q, rfl, g6⟩ | ⟨p, rfl, g6⟩
  rotate_left
  · cases g6
  obtain ⟨u0, n0, hh, T0, vs0, -, -, hq, -, -, -, -, g7⟩ := kSh_of (by decide) g6 hH
  obtain ⟨o, h8, g8⟩ := (kGet_iff _ _ _).mp g7
  rcases (kA_iff _ _ _).mp g8 with ⟨u, rfl, g9⟩ | ⟨p, rfl, g9⟩
  rotate_left
  · cases g9
  obtain ⟨c, hc, g10⟩ := (kH_iff _ _ _).mp g9
  obtain ⟨n, T, rfl, g11⟩ := (kCa_iff _ _ _).mp g10
  rw [kB_f, Nat.ble_eq] at g11
  obtain ⟨hn64, g11⟩ := g11
  obtain ⟨hn, vs, hge, hl, hv⟩ := hH u _ hc
  obtain ⟨H', g15, n1, n2⟩ := kCl_of hσ (k := k) g11 hH (by omega) hge hl hn hv
  obtain ⟨v, h2, g16⟩ := (kGet_iff _ _ _).mp g15
  obtain ⟨rfl, g17⟩ := (kSn_iff _ _ _).mp g16
  obtain ⟨v, h3, g18⟩ := (kGet_iff _ _ _).mp g17
  obtain ⟨rfl, g19⟩ := (kSn_iff _ _ _).mp g18
  obtain ⟨v, h4, g20⟩ := (kGet_iff _ _ _).mp g19
  obtain ⟨rfl, g21⟩ := (kSn_iff _ _ _).mp g20
  obtain ⟨v, h5, g22⟩ := (kGet_iff _ _ _).mp g21
  obtain ⟨rfl, g23⟩ := (kSn_iff _ _ _).mp g22
  obtain ⟨v, h6, g24⟩ := (kGet_iff _ _ _).mp g23
  obtain ⟨rfl, g25⟩ := (kSn_iff _ _ _).mp g24
  have hcell := hd k a2
  refine rbox_R (n := cI (ρ 6)) (k := k) a2 (hL 2 _ h2 (ne_s 2)) (hL 3 _ h3 (ne_s 3)) (hL 4 _ h4 (ne_s 4)) (hL 5 _ h5 (ne_s 5)) (hL 6 _ h6 (ne_s 6)) (hL 7 _ h7 (by rintro q; cases q)) (hL 8 _ h8 (by rintro q; cases q)) (hL 9 _ h9 (by rintro q; cases q)) hq hge (by omega) (fun hlt => ?_) (fun hlt => ?_)
  · exact hr 155 145 L [] F H' E B CF cL cH g25 hL hF (n1 (hcell.2 hlt)) hE hB
  · rw [← hcell.1 hlt]
    exact hr 155 145 L [] F H' E B CF cL _ g25 hL hF n2 hE (hB.set hge (by simp [m_sz]))
set_option maxRecDepth 100000 in
theorem bo_e14 (r : sR) : bo_155_78 r = s_cmp r 155 (s_mgY r) (s_row 155 41 4) := rfl
set_option maxRecDepth 100000 in
theorem bo_chk6 : (s_inc1 (m_prog 155) 0 && s_chk 155 (some 86) (s_row 155 41 4) 78) = true := by decide +kernel
theorem O_box_ok (hσ : s_in σ) (hn : s_cnt ρ) (hd : s_bxx ρ) : s_Oo scr σ ρ O_box := by
  have hk := bo_chk6
  simp only [Bool.and_eq_true] at hk
  intro M bl h1 pc b h2 r hr
  simp only [O_box, List.mem_cons, List.mem_nil_iff, or_false] at h1
  rcases h1 with h1 | h1 | h1 | h1 <;> cases h1 <;> simp only [List.mem_cons, List.mem_nil_iff, or_false] at h2 <;> cases h2
  · exact ov_38 hσ hn hr
  · exact ov_113 hσ hn hr
  · exact O_mgX hσ hd hr
  · rw [bo_e14]
    exact s_rows_fin hσ hr hk.1 hk.2 (O_mgY hσ hd hr)
/-- the fields after box -/
def bxd (x y x2 y2 c r : Int32) : Bool := (decide (m_mn x x2 ≤ c) && decide (c ≤ m_mx x x2)) && (decide (m_mn y y2 ≤ r) && decide (r ≤ m_mx y y2))
theorem bxd_iff (x y x2 y2 c r : Int32) : bxd x y x2 y2 c r = true ↔ bxc x y x2 y2 c r := by
  unfold bxd bxc
  simp only [Bool.and_eq_true, decide_eq_true_eq]
def f_box (scr : List Int32) (k : Nat) : Int32 := if bxd (scr.getD 2 0) (scr.getD 3 0) (scr.getD 4 0) (scr.getD 5 0) (cI (2147483648 + k % 8)) (cI (2147483648 + k / 8)) = true then scr.getD 6 0 else 0
theorem s_bxx_ok {g h : Nat → Int32} : s_bxx (s_ro scr (f_box scr) g h) := by
  intro k hk
  rw [Nat.add_comm k 10, s_ro_c hk, s_ro_w (j := 2) (by decide), s_ro_w (j := 3) (by decide), s_ro_w (j := 4) (by decide), s_ro_w (j := 5) (by decide), s_ro_w (j := 6) (by decide), rr_cI, rr_cI, rr_cI, rr_cI, rr_cI, ← bxd_iff]
  exact ⟨fun h => if_pos h, fun h => if_neg h⟩
theorem c_box {n1 n2 n3 : Nat} (hl : scr.length = 7) (lo : s_run n1 244 364 s_L0 [] (s_X s_H0 [s_fu, (0, 2147483647, []), s_fu, s_fu, s_fu, s_fu, s_fu] s_t0) = true) (hi : s_run n2 244 364 s_L0 [] (s_X s_H0 [s_fu, (2147483652, 4294967295, []), s_fu, s_fu, s_fu, s_fu, s_fu] s_t0) = true) (hin : s_runO O_box n3 244 364 s_L0 [] (s_X s_H1 (s_EO (2147483648, 2147483651, []) s_fu s_fu s_fu s_fu s_fu s_fu) s_t0) = true) : m_Rn scr [] 244 364 m_L0 [] m_H0 :=
  c_sh hl lo hi (fun h => c_1O (f := f_box scr) (g := s_cn (f_box scr)) (h := fun _ => 0) hl h (fun σ hσ => O_box_ok hσ s_ro_cnt s_bxx_ok) hin)
set_option maxRecDepth 100000 in
theorem r_2_in : s_runO O_box 100000000 244 364 s_L0 [] (s_X s_H1 (s_EO (2147483648, 2147483651, []) s_fu s_fu s_fu s_fu s_fu s_fu) s_t0) = true := by decide +kernel
end RY
