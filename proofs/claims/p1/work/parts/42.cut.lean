/-! the reference's cut of a sheet of nought: it answers 0 -/
set_option maxRecDepth 100000 in
theorem c110_0 : m_code 110 0 = some (.aload_n 0, 0, 0, 0, 0) := rfl
set_option maxRecDepth 100000 in
theorem c110_1 : m_code 110 1 = some (.getfield 18, 6, 2, 0, 866) := rfl
set_option maxRecDepth 100000 in
theorem c110_4 : m_code 110 4 = some (.arraylength, 0, 0, 0, 0) := rfl
set_option maxRecDepth 100000 in
theorem c110_5 : m_code 110 5 = some (.ireturn, 0, 0, 0, 0) := rfl
set_option maxRecDepth 100000 in
theorem c117_0 : m_code 117 0 = some (.iconst 0, 0, 0, 0, 0) := rfl
set_option maxRecDepth 100000 in
theorem c117_1 : m_code 117 1 = some (.istore_n 1, 0, 0, 0, 0) := rfl
set_option maxRecDepth 100000 in
theorem c117_2 : m_code 117 2 = some (.aload_n 0, 0, 0, 0, 0) := rfl
set_option maxRecDepth 100000 in
theorem c117_3 : m_code 117 3 = some (.getfield 18, 6, 2, 0, 866) := rfl
set_option maxRecDepth 100000 in
theorem c117_6 : m_code 117 6 = some (.astore_n 2, 0, 0, 0, 0) := rfl
set_option maxRecDepth 100000 in
theorem c117_7 : m_code 117 7 = some (.aload_n 2, 0, 0, 0, 0) := rfl
set_option maxRecDepth 100000 in
theorem c117_8 : m_code 117 8 = some (.arraylength, 0, 0, 0, 0) := rfl
set_option maxRecDepth 100000 in
theorem c117_9 : m_code 117 9 = some (.istore_n 3, 0, 0, 0, 0) := rfl
set_option maxRecDepth 100000 in
theorem c117_10 : m_code 117 10 = some (.iconst 0, 0, 0, 0, 0) := rfl
set_option maxRecDepth 100000 in
theorem c117_11 : m_code 117 11 = some (.istore 4, 0, 0, 0, 0) := rfl
set_option maxRecDepth 100000 in
theorem c117_13 : m_code 117 13 = some (.iload 4, 0, 0, 0, 0) := rfl
set_option maxRecDepth 100000 in
theorem c117_15 : m_code 117 15 = some (.iload_n 3, 0, 0, 0, 0) := rfl
set_option maxRecDepth 100000 in
theorem c117_16 : m_code 117 16 = some (.if_icmp .ge 20, 36, 0, 0, 0) := rfl
set_option maxRecDepth 100000 in
theorem c117_19 : m_code 117 19 = some (.aload_n 2, 0, 0, 0, 0) := rfl
set_option maxRecDepth 100000 in
theorem c117_20 : m_code 117 20 = some (.iload 4, 0, 0, 0, 0) := rfl
set_option maxRecDepth 100000 in
theorem c117_22 : m_code 117 22 = some (.iaload, 0, 0, 0, 0) := rfl
set_option maxRecDepth 100000 in
theorem c117_23 : m_code 117 23 = some (.istore 5, 0, 0, 0, 0) := rfl
set_option maxRecDepth 100000 in
theorem c117_25 : m_code 117 25 = some (.iload_n 1, 0, 0, 0, 0) := rfl
set_option maxRecDepth 100000 in
theorem c117_26 : m_code 117 26 = some (.iload 5, 0, 0, 0, 0) := rfl
set_option maxRecDepth 100000 in
theorem c117_28 : m_code 117 28 = some (.iadd, 0, 0, 0, 0) := rfl
set_option maxRecDepth 100000 in
theorem c117_29 : m_code 117 29 = some (.istore_n 1, 0, 0, 0, 0) := rfl
set_option maxRecDepth 100000 in
theorem c117_30 : m_code 117 30 = some (.iinc 4 1, 0, 0, 0, 0) := rfl
set_option maxRecDepth 100000 in
theorem c117_33 : m_code 117 33 = some (.goto (-20), 13, 0, 0, 0) := rfl
set_option maxRecDepth 100000 in
theorem c117_36 : m_code 117 36 = some (.iload_n 1, 0, 0, 0, 0) := rfl
set_option maxRecDepth 100000 in
theorem c117_37 : m_code 117 37 = some (.ireturn, 0, 0, 0, 0) := rfl
set_option maxRecDepth 100000 in
theorem c124_0 : m_code 124 0 = some (.ldc2_w 65, 0, 1082, 0, -1) := rfl
set_option maxRecDepth 100000 in
theorem c124_3 : m_code 124 3 = some (.lstore_n 1, 0, 0, 0, 0) := rfl
set_option maxRecDepth 100000 in
theorem c124_4 : m_code 124 4 = some (.iconst 0, 0, 0, 0, 0) := rfl
set_option maxRecDepth 100000 in
theorem c124_5 : m_code 124 5 = some (.istore_n 3, 0, 0, 0, 0) := rfl
set_option maxRecDepth 100000 in
theorem c124_6 : m_code 124 6 = some (.iconst 1, 0, 0, 0, 0) := rfl
set_option maxRecDepth 100000 in
theorem c124_7 : m_code 124 7 = some (.istore 4, 0, 0, 0, 0) := rfl
set_option maxRecDepth 100000 in
theorem c124_9 : m_code 124 9 = some (.iload 4, 0, 0, 0, 0) := rfl
set_option maxRecDepth 100000 in
theorem c124_11 : m_code 124 11 = some (.sipush 255, 0, 0, 0, 0) := rfl
set_option maxRecDepth 100000 in
theorem c124_14 : m_code 124 14 = some (.if_icmp .gt 157, 171, 0, 0, 0) := rfl
set_option maxRecDepth 100000 in
theorem c124_17 : m_code 124 17 = some (.lconst 0, 0, 0, 0, 0) := rfl
set_option maxRecDepth 100000 in
theorem c124_18 : m_code 124 18 = some (.lstore 5, 0, 0, 0, 0) := rfl
set_option maxRecDepth 100000 in
theorem c124_20 : m_code 124 20 = some (.lconst 0, 0, 0, 0, 0) := rfl
set_option maxRecDepth 100000 in
theorem c124_21 : m_code 124 21 = some (.lstore 7, 0, 0, 0, 0) := rfl
set_option maxRecDepth 100000 in
theorem c124_23 : m_code 124 23 = some (.aload_n 0, 0, 0, 0, 0) := rfl
set_option maxRecDepth 100000 in
theorem c124_24 : m_code 124 24 = some (.getfield 18, 6, 2, 0, 866) := rfl
set_option maxRecDepth 100000 in
theorem c124_27 : m_code 124 27 = some (.astore 9, 0, 0, 0, 0) := rfl
set_option maxRecDepth 100000 in
theorem c124_29 : m_code 124 29 = some (.aload 9, 0, 0, 0, 0) := rfl
set_option maxRecDepth 100000 in
theorem c124_31 : m_code 124 31 = some (.arraylength, 0, 0, 0, 0) := rfl
set_option maxRecDepth 100000 in
theorem c124_32 : m_code 124 32 = some (.istore 10, 0, 0, 0, 0) := rfl
set_option maxRecDepth 100000 in
theorem c124_34 : m_code 124 34 = some (.iconst 0, 0, 0, 0, 0) := rfl
set_option maxRecDepth 100000 in
theorem c124_35 : m_code 124 35 = some (.istore 11, 0, 0, 0, 0) := rfl
set_option maxRecDepth 100000 in
theorem c124_37 : m_code 124 37 = some (.iload 11, 0, 0, 0, 0) := rfl
set_option maxRecDepth 100000 in
theorem c124_39 : m_code 124 39 = some (.iload 10, 0, 0, 0, 0) := rfl
set_option maxRecDepth 100000 in
theorem c124_41 : m_code 124 41 = some (.if_icmp .ge 40, 81, 0, 0, 0) := rfl
set_option maxRecDepth 100000 in
theorem c124_44 : m_code 124 44 = some (.aload 9, 0, 0, 0, 0) := rfl
set_option maxRecDepth 100000 in
theorem c124_46 : m_code 124 46 = some (.iload 11, 0, 0, 0, 0) := rfl
set_option maxRecDepth 100000 in
theorem c124_48 : m_code 124 48 = some (.iaload, 0, 0, 0, 0) := rfl
set_option maxRecDepth 100000 in
theorem c124_49 : m_code 124 49 = some (.istore 12, 0, 0, 0, 0) := rfl
set_option maxRecDepth 100000 in
theorem c124_51 : m_code 124 51 = some (.iload 12, 0, 0, 0, 0) := rfl
set_option maxRecDepth 100000 in
theorem c124_53 : m_code 124 53 = some (.iload 4, 0, 0, 0, 0) := rfl
set_option maxRecDepth 100000 in
theorem c124_55 : m_code 124 55 = some (.if_icmp .lt 6, 61, 0, 0, 0) := rfl
set_option maxRecDepth 100000 in
theorem c124_61 : m_code 124 61 = some (.lload 5, 0, 0, 0, 0) := rfl
set_option maxRecDepth 100000 in
theorem c124_63 : m_code 124 63 = some (.lconst 1, 0, 0, 0, 0) := rfl
set_option maxRecDepth 100000 in
theorem c124_64 : m_code 124 64 = some (.ladd, 0, 0, 0, 0) := rfl
set_option maxRecDepth 100000 in
theorem c124_65 : m_code 124 65 = some (.lstore 5, 0, 0, 0, 0) := rfl
set_option maxRecDepth 100000 in
theorem c124_67 : m_code 124 67 = some (.lload 7, 0, 0, 0, 0) := rfl
set_option maxRecDepth 100000 in
theorem c124_69 : m_code 124 69 = some (.iload 12, 0, 0, 0, 0) := rfl
set_option maxRecDepth 100000 in
theorem c124_71 : m_code 124 71 = some (.i2l, 0, 0, 0, 0) := rfl
set_option maxRecDepth 100000 in
theorem c124_72 : m_code 124 72 = some (.ladd, 0, 0, 0, 0) := rfl
set_option maxRecDepth 100000 in
theorem c124_73 : m_code 124 73 = some (.lstore 7, 0, 0, 0, 0) := rfl
set_option maxRecDepth 100000 in
theorem c124_75 : m_code 124 75 = some (.iinc 11 1, 0, 0, 0, 0) := rfl
set_option maxRecDepth 100000 in
theorem c124_78 : m_code 124 78 = some (.goto (-41), 37, 0, 0, 0) := rfl
set_option maxRecDepth 100000 in
theorem c124_81 : m_code 124 81 = some (.aload_n 0, 0, 0, 0, 0) := rfl
set_option maxRecDepth 100000 in
theorem c124_82 : m_code 124 82 = some (.invokevirtual 34, 110, 957, 1, 0) := rfl
set_option maxRecDepth 100000 in
theorem c124_85 : m_code 124 85 = some (.i2l, 0, 0, 0, 0) := rfl
set_option maxRecDepth 100000 in
theorem c124_86 : m_code 124 86 = some (.lload 5, 0, 0, 0, 0) := rfl
set_option maxRecDepth 100000 in
theorem c124_88 : m_code 124 88 = some (.lsub, 0, 0, 0, 0) := rfl
set_option maxRecDepth 100000 in
theorem c124_89 : m_code 124 89 = some (.lstore 9, 0, 0, 0, 0) := rfl
set_option maxRecDepth 100000 in
theorem c124_91 : m_code 124 91 = some (.aload_n 0, 0, 0, 0, 0) := rfl
set_option maxRecDepth 100000 in
theorem c124_92 : m_code 124 92 = some (.invokevirtual 67, 117, 1083, 1, 0) := rfl
set_option maxRecDepth 100000 in
theorem c124_95 : m_code 124 95 = some (.i2l, 0, 0, 0, 0) := rfl
set_option maxRecDepth 100000 in
theorem c124_96 : m_code 124 96 = some (.lload 7, 0, 0, 0, 0) := rfl
set_option maxRecDepth 100000 in
theorem c124_98 : m_code 124 98 = some (.lsub, 0, 0, 0, 0) := rfl
set_option maxRecDepth 100000 in
theorem c124_99 : m_code 124 99 = some (.lstore 11, 0, 0, 0, 0) := rfl
set_option maxRecDepth 100000 in
theorem c124_101 : m_code 124 101 = some (.lload 5, 0, 0, 0, 0) := rfl
set_option maxRecDepth 100000 in
theorem c124_103 : m_code 124 103 = some (.lconst 0, 0, 0, 0, 0) := rfl
set_option maxRecDepth 100000 in
theorem c124_104 : m_code 124 104 = some (.lcmp, 0, 0, 0, 0) := rfl
set_option maxRecDepth 100000 in
theorem c124_105 : m_code 124 105 = some (.ifCond .eq 60, 165, 0, 0, 0) := rfl
set_option maxRecDepth 100000 in
theorem c124_108 : m_code 124 108 = some (.lload 9, 0, 0, 0, 0) := rfl
set_option maxRecDepth 100000 in
theorem c124_110 : m_code 124 110 = some (.lconst 0, 0, 0, 0, 0) := rfl
set_option maxRecDepth 100000 in
theorem c124_111 : m_code 124 111 = some (.lcmp, 0, 0, 0, 0) := rfl
set_option maxRecDepth 100000 in
theorem c124_112 : m_code 124 112 = some (.ifCond .ne 6, 118, 0, 0, 0) := rfl
set_option maxRecDepth 100000 in
theorem c124_115 : m_code 124 115 = some (.goto 50, 165, 0, 0, 0) := rfl
set_option maxRecDepth 100000 in
theorem c124_165 : m_code 124 165 = some (.iinc 4 1, 0, 0, 0, 0) := rfl
set_option maxRecDepth 100000 in
theorem c124_168 : m_code 124 168 = some (.goto (-159), 9, 0, 0, 0) := rfl
set_option maxRecDepth 100000 in
theorem c124_171 : m_code 124 171 = some (.iload_n 3, 0, 0, 0, 0) := rfl
set_option maxRecDepth 100000 in
theorem c124_172 : m_code 124 172 = some (.ireturn, 0, 0, 0, 0) := rfl
section CUT
variable {scr : List Int32} {CF : List mW} {M pc x y w : Nat} {z : Int} {L : mL} {S : List Value} {H : List mC} {q u : Nat} {vs : List Value} {ww hh : Int32} {a b : Int32}
theorem Ra_ict {c : ClassFile.Cond} {off : Int} (hc : m_code M pc = some (.if_icmp c off, x, y, 0, z)) (h : m_cmp c a b = true) (k : m_Rn scr CF M x L S H) : m_Rn scr CF M pc L (.int b :: .int a :: S) H :=
  m_R1 hc rfl (pc' := x) (L' := L) (S' := S) (H' := H) (by show some (if m_cmp c a b = true then x else pc + 3, L, S, H) = _; rw [if_pos h]) k
theorem Ra_icf {c : ClassFile.Cond} {off : Int} (hc : m_code M pc = some (.if_icmp c off, x, y, 0, z)) (h : m_cmp c a b = false) (k : m_Rn scr CF M (pc + 3) L S H) : m_Rn scr CF M pc L (.int b :: .int a :: S) H :=
  m_R1 hc rfl (pc' := pc + 3) (L' := L) (S' := S) (H' := H) (by show some (if m_cmp c a b = true then x else pc + 3, L, S, H) = _; rw [h]; rfl) k
theorem Ra_ift {c : ClassFile.Cond} {off : Int} (hc : m_code M pc = some (.ifCond c off, x, y, 0, z)) (h : m_cmp c a 0 = true) (k : m_Rn scr CF M x L S H) : m_Rn scr CF M pc L (.int a :: S) H :=
  m_R1 hc rfl (pc' := x) (L' := L) (S' := S) (H' := H) (by show some (if m_cmp c a 0 = true then x else pc + 3, L, S, H) = _; rw [if_pos h]) k
theorem Ra_iff {c : ClassFile.Cond} {off : Int} (hc : m_code M pc = some (.ifCond c off, x, y, 0, z)) (h : m_cmp c a 0 = false) (k : m_Rn scr CF M (pc + 3) L S H) : m_Rn scr CF M pc L (.int a :: S) H :=
  m_R1 hc rfl (pc' := pc + 3) (L' := L) (S' := S) (H' := H) (by show some (if m_cmp c a 0 = true then x else pc + 3, L, S, H) = _; rw [h]; rfl) k
theorem Ra_len {t : Nat} (hc : m_code M pc = some (.arraylength, x, y, 0, z)) (hg : m_get H u = some (.inl (t, vs))) (ht : t < 7) (hl : vs.length = 64) (k : m_Rn scr CF M (pc + 1) L (.int 64 :: S) H) : m_Rn scr CF M pc L (.ref u :: S) H := by
  cases u with
  | zero => cases hg
  | succ u =>
    refine m_R1 hc rfl (pc' := pc + 1) (L' := L) (S' := .int 64 :: S) (H' := H) ?_ k
    simp only [m_ex, hg]
    rw [if_pos ht, hl]
    rfl
theorem Ra_ial {e : Nat} {n : Int32} (hc : m_code M pc = some (.iaload, x, y, 0, z)) (hg : m_get H u = some (.inl (0, vs))) (he : vs[e]? = some (.int n)) (h2 : e < 1000) (k : m_Rn scr CF M (pc + 1) L (.int n :: S) H) : m_Rn scr CF M pc L (.int (cI (2147483648 + e)) :: .ref u :: S) H := by
  cases u with
  | zero => cases hg
  | succ u =>
    refine m_R1 hc rfl (pc' := pc + 1) (L' := L) (S' := .int n :: S) (H' := H) ?_ k
    simp only [m_ex, m_ra, hg, true_and]
    rw [if_pos (cI_nn (by omega) (by omega)), cI_clamp (by omega) (by omega), Nat.add_sub_cancel_left, he]
theorem cmp_lt64 {k : Nat} (h : k < 64) : m_cmp .ge (cI (2147483648 + k)) 64 = false := by
  have : ∀ k : Fin 64, m_cmp .ge (cI (2147483648 + k.val)) 64 = false := by decide
  exact this ⟨k, h⟩
theorem cmp_0t {t : Nat} (h1 : 1 ≤ t) (h2 : t ≤ 255) : m_cmp .lt 0 (cI (2147483648 + t)) = true := by
  simp only [m_cmp, decide_eq_true_eq]
  rw [← cI_zero, cI_lt (by decide) (by omega)]
  omega
theorem cmp_t255 {t : Nat} (h2 : t ≤ 255) : m_cmp .gt (cI (2147483648 + t)) 255 = false := by
  have e : (255 : Int32) = cI 2147483903 := by decide
  simp only [m_cmp, decide_eq_false_iff_not]
  rw [e, cI_lt (by decide) (by omega)]
  omega
theorem inc64 {k k' : Nat} (h : k + 1 = k') : cI (2147483648 + k) + Int32.ofInt 1 = cI (2147483648 + k') := by
  rw [cI_inc, ← h, ← cI_mod (2147483648 + (k + 1))]
  rfl
theorem incT {t : Nat} : cI (2147483648 + t) + Int32.ofInt 1 = cI (2147483648 + (t + 1)) := inc64 rfl
theorem incL {k k' : Nat} (h : k + 1 = k') : Int64.ofNat k + 1 = Int64.ofNat k' := by
  rw [← h, Int64.ofNat_add]
  rfl
theorem rcv6 (hq : m_get H q = some (.inr (6, [.int ww, .int hh, .ref u]))) : m_rcv H q = some 6 := by unfold m_rcv; rw [hq]
/-- a call of one argument, the receiver -/
def m_I1 (X c : Nat) : Prop := m_stc X = false ∧ m_na X = 0 ∧ m_rc X = c ∧ 1 ≤ m_nL X
theorem size_I : m_I1 110 6 := by unfold m_I1; decide +kernel
theorem sum_I : m_I1 117 6 := by unfold m_I1; decide +kernel
theorem cut_I : m_I1 124 6 := by unfold m_I1; decide +kernel
theorem call1_C {X c : Nat} {i : Instr} {CF : List mW} (hc : m_code M pc = some (i, X, y, w, z)) (hw : w = 1 ∨ w = 2) (hI : m_I1 X c) (hi : m_inv i = true) (hr : m_rcv H q = some c) (hS : m_cat S ≤ 8) (k : m_Rn scr ((M, pc, L, S) :: CF) X 0 [(0, .ref q)] [] H) : m_Rn scr CF M pc L (.ref q :: S) H := by
  obtain ⟨h1, h2, h3, h4⟩ := hI
  refine m_Rn.call hc hw hi (as := [.ref q]) (S' := S) ?_ (by have : m_cat [Value.ref q] = 1 := rfl; omega) k
  unfold m_cut
  rw [h1, if_neg (by decide), h2]
  show (match m_rcv H q with
    | some ci => if ci = m_rc X ∧ m_cat S ≤ 8 then some ([Value.ref q], S) else none
    | none => none) = _
  rw [hr]
  dsimp only
  rw [if_pos ⟨h3.symm, hS⟩]
theorem size_R (hq : m_get H q = some (.inr (6, [.int ww, .int hh, .ref u]))) (hu : m_get H u = some (.inl (0, vs))) (hl : vs.length = 64) (k : m_Rt scr CF (some (.int 64)) H) : m_Rn scr CF 110 0 [(0, .ref q)] [] H := by
  refine m_R1 c110_0 rfl (pc' := 1) (L' := [(0, .ref q)]) (S' := [.ref q]) (H' := H) (by rfl) ?_
  refine Ra_get c110_1 hq rfl ?_
  refine Ra_len c110_4 hu (by decide) hl ?_
  exact m_Rn.ret c110_5 (by decide) rfl (v := some (.int 64)) rfl (by decide +kernel) k
theorem sum_L1 (hq : m_get H q = some (.inr (6, [.int ww, .int hh, .ref u]))) (hu : m_get H u = some (.inl (0, vs))) (hl : vs.length = 64) (hz : ∀ i, i < 64 → vs[i]? = some (.int 0)) (k : m_Rt scr CF (some (.int 0)) H) : ∀ n, n < 64 → m_Rn scr CF 117 13 [(0, .ref q), (1, .int 0), (2, .ref u), (3, .int 64), (4, .int (cI (2147483648 + (64 - n)))), (5, .int 0)] [] H
  | 0, _ => by
    refine m_R1 c117_13 rfl (pc' := 15) (L' := [(0, .ref q), (1, .int 0), (2, .ref u), (3, .int 64), (4, .int (cI (2147483648 + (64 - 0)))), (5, .int 0)]) (S' := [.int (cI (2147483648 + (64 - 0)))]) (H' := H) (by rfl) ?_
    refine m_R1 c117_15 rfl (pc' := 16) (L' := [(0, .ref q), (1, .int 0), (2, .ref u), (3, .int 64), (4, .int (cI (2147483648 + (64 - 0)))), (5, .int 0)]) (S' := [.int 64, .int (cI (2147483648 + (64 - 0)))]) (H' := H) (by rfl) ?_
    refine Ra_ict c117_16 (by decide) ?_
    refine m_R1 c117_36 rfl (pc' := 37) (L' := [(0, .ref q), (1, .int 0), (2, .ref u), (3, .int 64), (4, .int (cI (2147483648 + (64 - 0)))), (5, .int 0)]) (S' := [.int 0]) (H' := H) (by rfl) ?_
    exact m_Rn.ret c117_37 (by decide) rfl (v := some (.int 0)) rfl (by decide +kernel) k
  | n + 1, h => by
    refine m_R1 c117_13 rfl (pc' := 15) (L' := [(0, .ref q), (1, .int 0), (2, .ref u), (3, .int 64), (4, .int (cI (2147483648 + (64 - (n + 1))))), (5, .int 0)]) (S' := [.int (cI (2147483648 + (64 - (n + 1))))]) (H' := H) (by rfl) ?_
    refine m_R1 c117_15 rfl (pc' := 16) (L' := [(0, .ref q), (1, .int 0), (2, .ref u), (3, .int 64), (4, .int (cI (2147483648 + (64 - (n + 1))))), (5, .int 0)]) (S' := [.int 64, .int (cI (2147483648 + (64 - (n + 1))))]) (H' := H) (by rfl) ?_
    refine Ra_icf c117_16 (cmp_lt64 (by omega)) ?_
    refine m_R1 c117_19 rfl (pc' := 20) (L' := [(0, .ref q), (1, .int 0), (2, .ref u), (3, .int 64), (4, .int (cI (2147483648 + (64 - (n + 1))))), (5, .int 0)]) (S' := [.ref u]) (H' := H) (by rfl) ?_
    refine m_R1 c117_20 rfl (pc' := 22) (L' := [(0, .ref q), (1, .int 0), (2, .ref u), (3, .int 64), (4, .int (cI (2147483648 + (64 - (n + 1))))), (5, .int 0)]) (S' := [.int (cI (2147483648 + (64 - (n + 1)))), .ref u]) (H' := H) (by rfl) ?_
    refine Ra_ial c117_22 hu (hz (64 - (n + 1)) (by omega)) (by omega) ?_
    refine m_R1 c117_23 rfl (pc' := 25) (L' := [(0, .ref q), (1, .int 0), (2, .ref u), (3, .int 64), (4, .int (cI (2147483648 + (64 - (n + 1))))), (5, .int 0)]) (S' := []) (H' := H) (by rfl) ?_
    refine m_R1 c117_25 rfl (pc' := 26) (L' := [(0, .ref q), (1, .int 0), (2, .ref u), (3, .int 64), (4, .int (cI (2147483648 + (64 - (n + 1))))), (5, .int 0)]) (S' := [.int 0]) (H' := H) (by rfl) ?_
    refine m_R1 c117_26 rfl (pc' := 28) (L' := [(0, .ref q), (1, .int 0), (2, .ref u), (3, .int 64), (4, .int (cI (2147483648 + (64 - (n + 1))))), (5, .int 0)]) (S' := [.int 0, .int 0]) (H' := H) (by rfl) ?_
    refine m_R1 c117_28 rfl (pc' := 29) (L' := [(0, .ref q), (1, .int 0), (2, .ref u), (3, .int 64), (4, .int (cI (2147483648 + (64 - (n + 1))))), (5, .int 0)]) (S' := [.int 0]) (H' := H) (by rfl) ?_
    refine m_R1 c117_29 rfl (pc' := 30) (L' := [(0, .ref q), (1, .int 0), (2, .ref u), (3, .int 64), (4, .int (cI (2147483648 + (64 - (n + 1))))), (5, .int 0)]) (S' := []) (H' := H) (by rfl) ?_
    refine m_R1 c117_30 rfl (pc' := 33) (L' := [(0, .ref q), (1, .int 0), (2, .ref u), (3, .int 64), (4, .int ((cI (2147483648 + (64 - (n + 1)))) + Int32.ofInt 1)), (5, .int 0)]) (S' := []) (H' := H) (by rfl) ?_
    rw [inc64 (show 64 - (n + 1) + 1 = 64 - n by omega)]
    refine m_R1 c117_33 rfl (pc' := 13) (L' := [(0, .ref q), (1, .int 0), (2, .ref u), (3, .int 64), (4, .int (cI (2147483648 + (64 - n)))), (5, .int 0)]) (S' := []) (H' := H) (by rfl) ?_
    exact sum_L1 hq hu hl hz k n (by omega)
theorem sum_R (hq : m_get H q = some (.inr (6, [.int ww, .int hh, .ref u]))) (hu : m_get H u = some (.inl (0, vs))) (hl : vs.length = 64) (hz : ∀ i, i < 64 → vs[i]? = some (.int 0)) (k : m_Rt scr CF (some (.int 0)) H) : m_Rn scr CF 117 0 [(0, .ref q)] [] H := by
  refine m_R1 c117_0 rfl (pc' := 1) (L' := [(0, .ref q)]) (S' := [.int 0]) (H' := H) (by rfl) ?_
  refine m_R1 c117_1 rfl (pc' := 2) (L' := [(0, .ref q), (1, .int 0)]) (S' := []) (H' := H) (by rfl) ?_
  refine m_R1 c117_2 rfl (pc' := 3) (L' := [(0, .ref q), (1, .int 0)]) (S' := [.ref q]) (H' := H) (by rfl) ?_
  refine Ra_get c117_3 hq rfl ?_
  refine m_R1 c117_6 rfl (pc' := 7) (L' := [(0, .ref q), (1, .int 0), (2, .ref u)]) (S' := []) (H' := H) (by rfl) ?_
  refine m_R1 c117_7 rfl (pc' := 8) (L' := [(0, .ref q), (1, .int 0), (2, .ref u)]) (S' := [.ref u]) (H' := H) (by rfl) ?_
  refine Ra_len c117_8 hu (by decide) hl ?_
  refine m_R1 c117_9 rfl (pc' := 10) (L' := [(0, .ref q), (1, .int 0), (2, .ref u), (3, .int 64)]) (S' := []) (H' := H) (by rfl) ?_
  refine m_R1 c117_10 rfl (pc' := 11) (L' := [(0, .ref q), (1, .int 0), (2, .ref u), (3, .int 64)]) (S' := [.int 0]) (H' := H) (by rfl) ?_
  refine m_R1 c117_11 rfl (pc' := 13) (L' := [(0, .ref q), (1, .int 0), (2, .ref u), (3, .int 64), (4, .int 0)]) (S' := []) (H' := H) (by rfl) ?_
  show m_Rn scr CF 117 13 [(0, .ref q), (1, .int 0), (2, .ref u), (3, .int 64), (4, .int (cI (2147483648 + (64 - (63 + 1)))))] [] H
  refine m_R1 c117_13 rfl (pc' := 15) (L' := [(0, .ref q), (1, .int 0), (2, .ref u), (3, .int 64), (4, .int (cI (2147483648 + (64 - (63 + 1)))))]) (S' := [.int (cI (2147483648 + (64 - (63 + 1))))]) (H' := H) (by rfl) ?_
  refine m_R1 c117_15 rfl (pc' := 16) (L' := [(0, .ref q), (1, .int 0), (2, .ref u), (3, .int 64), (4, .int (cI (2147483648 + (64 - (63 + 1)))))]) (S' := [.int 64, .int (cI (2147483648 + (64 - (63 + 1))))]) (H' := H) (by rfl) ?_
  refine Ra_icf c117_16 (cmp_lt64 (by omega)) ?_
  refine m_R1 c117_19 rfl (pc' := 20) (L' := [(0, .ref q), (1, .int 0), (2, .ref u), (3, .int 64), (4, .int (cI (2147483648 + (64 - (63 + 1)))))]) (S' := [.ref u]) (H' := H) (by rfl) ?_
  refine m_R1 c117_20 rfl (pc' := 22) (L' := [(0, .ref q), (1, .int 0), (2, .ref u), (3, .int 64), (4, .int (cI (2147483648 + (64 - (63 + 1)))))]) (S' := [.int (cI (2147483648 + (64 - (63 + 1)))), .ref u]) (H' := H) (by rfl) ?_
  refine Ra_ial c117_22 hu (hz (64 - (63 + 1)) (by omega)) (by omega) ?_
  refine m_R1 c117_23 rfl (pc' := 25) (L' := [(0, .ref q), (1, .int 0), (2, .ref u), (3, .int 64), (4, .int (cI (2147483648 + (64 - (63 + 1))))), (5, .int 0)]) (S' := []) (H' := H) (by rfl) ?_
  refine m_R1 c117_25 rfl (pc' := 26) (L' := [(0, .ref q), (1, .int 0), (2, .ref u), (3, .int 64), (4, .int (cI (2147483648 + (64 - (63 + 1))))), (5, .int 0)]) (S' := [.int 0]) (H' := H) (by rfl) ?_
  refine m_R1 c117_26 rfl (pc' := 28) (L' := [(0, .ref q), (1, .int 0), (2, .ref u), (3, .int 64), (4, .int (cI (2147483648 + (64 - (63 + 1))))), (5, .int 0)]) (S' := [.int 0, .int 0]) (H' := H) (by rfl) ?_
  refine m_R1 c117_28 rfl (pc' := 29) (L' := [(0, .ref q), (1, .int 0), (2, .ref u), (3, .int 64), (4, .int (cI (2147483648 + (64 - (63 + 1))))), (5, .int 0)]) (S' := [.int 0]) (H' := H) (by rfl) ?_
  refine m_R1 c117_29 rfl (pc' := 30) (L' := [(0, .ref q), (1, .int 0), (2, .ref u), (3, .int 64), (4, .int (cI (2147483648 + (64 - (63 + 1))))), (5, .int 0)]) (S' := []) (H' := H) (by rfl) ?_
  refine m_R1 c117_30 rfl (pc' := 33) (L' := [(0, .ref q), (1, .int 0), (2, .ref u), (3, .int 64), (4, .int ((cI (2147483648 + (64 - (63 + 1)))) + Int32.ofInt 1)), (5, .int 0)]) (S' := []) (H' := H) (by rfl) ?_
  rw [inc64 (show 64 - (63 + 1) + 1 = 64 - 63 by omega)]
  refine m_R1 c117_33 rfl (pc' := 13) (L' := [(0, .ref q), (1, .int 0), (2, .ref u), (3, .int 64), (4, .int (cI (2147483648 + (64 - 63)))), (5, .int 0)]) (S' := []) (H' := H) (by rfl) ?_
  exact sum_L1 hq hu hl hz k 63 (by decide)
theorem cut_L1 (hq : m_get H q = some (.inr (6, [.int ww, .int hh, .ref u]))) (hu : m_get H u = some (.inl (0, vs))) (hl : vs.length = 64) (hz : ∀ i, i < 64 → vs[i]? = some (.int 0)) {t : Nat} (h1 : 1 ≤ t) (h2 : t ≤ 255) (k : m_Rn scr CF 124 81 [(0, .ref q), (1, .long (-1)), (3, .int 0), (4, .int (cI (2147483648 + t))), (5, .long (Int64.ofNat 64)), (7, .long 0), (9, .ref u), (10, .int 64), (11, .int (cI (2147483648 + 64))), (12, .int 0)] [] H) : ∀ n, n < 64 → m_Rn scr CF 124 37 [(0, .ref q), (1, .long (-1)), (3, .int 0), (4, .int (cI (2147483648 + t))), (5, .long (Int64.ofNat (64 - n))), (7, .long 0), (9, .ref u), (10, .int 64), (11, .int (cI (2147483648 + (64 - n)))), (12, .int 0)] [] H
  | 0, _ => by
    refine m_R1 c124_37 rfl (pc' := 39) (L' := [(0, .ref q), (1, .long (-1)), (3, .int 0), (4, .int (cI (2147483648 + t))), (5, .long (Int64.ofNat (64 - 0))), (7, .long 0), (9, .ref u), (10, .int 64), (11, .int (cI (2147483648 + (64 - 0)))), (12, .int 0)]) (S' := [.int (cI (2147483648 + (64 - 0)))]) (H' := H) (by rfl) ?_
    refine m_R1 c124_39 rfl (pc' := 41) (L' := [(0, .ref q), (1, .long (-1)), (3, .int 0), (4, .int (cI (2147483648 + t))), (5, .long (Int64.ofNat (64 - 0))), (7, .long 0), (9, .ref u), (10, .int 64), (11, .int (cI (2147483648 + (64 - 0)))), (12, .int 0)]) (S' := [.int 64, .int (cI (2147483648 + (64 - 0)))]) (H' := H) (by rfl) ?_
    refine Ra_ict c124_41 (by decide) ?_
    exact k
  | n + 1, h => by
    refine m_R1 c124_37 rfl (pc' := 39) (L' := [(0, .ref q), (1, .long (-1)), (3, .int 0), (4, .int (cI (2147483648 + t))), (5, .long (Int64.ofNat (64 - (n + 1)))), (7, .long 0), (9, .ref u), (10, .int 64), (11, .int (cI (2147483648 + (64 - (n + 1))))), (12, .int 0)]) (S' := [.int (cI (2147483648 + (64 - (n + 1))))]) (H' := H) (by rfl) ?_
    refine m_R1 c124_39 rfl (pc' := 41) (L' := [(0, .ref q), (1, .long (-1)), (3, .int 0), (4, .int (cI (2147483648 + t))), (5, .long (Int64.ofNat (64 - (n + 1)))), (7, .long 0), (9, .ref u), (10, .int 64), (11, .int (cI (2147483648 + (64 - (n + 1))))), (12, .int 0)]) (S' := [.int 64, .int (cI (2147483648 + (64 - (n + 1))))]) (H' := H) (by rfl) ?_
    refine Ra_icf c124_41 (cmp_lt64 (by omega)) ?_
    refine m_R1 c124_44 rfl (pc' := 46) (L' := [(0, .ref q), (1, .long (-1)), (3, .int 0), (4, .int (cI (2147483648 + t))), (5, .long (Int64.ofNat (64 - (n + 1)))), (7, .long 0), (9, .ref u), (10, .int 64), (11, .int (cI (2147483648 + (64 - (n + 1))))), (12, .int 0)]) (S' := [.ref u]) (H' := H) (by rfl) ?_
    refine m_R1 c124_46 rfl (pc' := 48) (L' := [(0, .ref q), (1, .long (-1)), (3, .int 0), (4, .int (cI (2147483648 + t))), (5, .long (Int64.ofNat (64 - (n + 1)))), (7, .long 0), (9, .ref u), (10, .int 64), (11, .int (cI (2147483648 + (64 - (n + 1))))), (12, .int 0)]) (S' := [.int (cI (2147483648 + (64 - (n + 1)))), .ref u]) (H' := H) (by rfl) ?_
    refine Ra_ial c124_48 hu (hz (64 - (n + 1)) (by omega)) (by omega) ?_
    refine m_R1 c124_49 rfl (pc' := 51) (L' := [(0, .ref q), (1, .long (-1)), (3, .int 0), (4, .int (cI (2147483648 + t))), (5, .long (Int64.ofNat (64 - (n + 1)))), (7, .long 0), (9, .ref u), (10, .int 64), (11, .int (cI (2147483648 + (64 - (n + 1))))), (12, .int 0)]) (S' := []) (H' := H) (by rfl) ?_
    refine m_R1 c124_51 rfl (pc' := 53) (L' := [(0, .ref q), (1, .long (-1)), (3, .int 0), (4, .int (cI (2147483648 + t))), (5, .long (Int64.ofNat (64 - (n + 1)))), (7, .long 0), (9, .ref u), (10, .int 64), (11, .int (cI (2147483648 + (64 - (n + 1))))), (12, .int 0)]) (S' := [.int 0]) (H' := H) (by rfl) ?_
    refine m_R1 c124_53 rfl (pc' := 55) (L' := [(0, .ref q), (1, .long (-1)), (3, .int 0), (4, .int (cI (2147483648 + t))), (5, .long (Int64.ofNat (64 - (n + 1)))), (7, .long 0), (9, .ref u), (10, .int 64), (11, .int (cI (2147483648 + (64 - (n + 1))))), (12, .int 0)]) (S' := [.int (cI (2147483648 + t)), .int 0]) (H' := H) (by rfl) ?_
    refine Ra_ict c124_55 (cmp_0t h1 h2) ?_
    refine m_R1 c124_61 rfl (pc' := 63) (L' := [(0, .ref q), (1, .long (-1)), (3, .int 0), (4, .int (cI (2147483648 + t))), (5, .long (Int64.ofNat (64 - (n + 1)))), (7, .long 0), (9, .ref u), (10, .int 64), (11, .int (cI (2147483648 + (64 - (n + 1))))), (12, .int 0)]) (S' := [.long (Int64.ofNat (64 - (n + 1)))]) (H' := H) (by rfl) ?_
    refine m_R1 c124_63 rfl (pc' := 64) (L' := [(0, .ref q), (1, .long (-1)), (3, .int 0), (4, .int (cI (2147483648 + t))), (5, .long (Int64.ofNat (64 - (n + 1)))), (7, .long 0), (9, .ref u), (10, .int 64), (11, .int (cI (2147483648 + (64 - (n + 1))))), (12, .int 0)]) (S' := [.long 1, .long (Int64.ofNat (64 - (n + 1)))]) (H' := H) (by rfl) ?_
    refine m_R1 c124_64 rfl (pc' := 65) (L' := [(0, .ref q), (1, .long (-1)), (3, .int 0), (4, .int (cI (2147483648 + t))), (5, .long (Int64.ofNat (64 - (n + 1)))), (7, .long 0), (9, .ref u), (10, .int 64), (11, .int (cI (2147483648 + (64 - (n + 1))))), (12, .int 0)]) (S' := [.long ((Int64.ofNat (64 - (n + 1))) + 1)]) (H' := H) (by rfl) ?_
    rw [incL (show 64 - (n + 1) + 1 = 64 - n by omega)]
    refine m_R1 c124_65 rfl (pc' := 67) (L' := [(0, .ref q), (1, .long (-1)), (3, .int 0), (4, .int (cI (2147483648 + t))), (5, .long (Int64.ofNat (64 - n))), (7, .long 0), (9, .ref u), (10, .int 64), (11, .int (cI (2147483648 + (64 - (n + 1))))), (12, .int 0)]) (S' := []) (H' := H) (by rfl) ?_
    refine m_R1 c124_67 rfl (pc' := 69) (L' := [(0, .ref q), (1, .long (-1)), (3, .int 0), (4, .int (cI (2147483648 + t))), (5, .long (Int64.ofNat (64 - n))), (7, .long 0), (9, .ref u), (10, .int 64), (11, .int (cI (2147483648 + (64 - (n + 1))))), (12, .int 0)]) (S' := [.long 0]) (H' := H) (by rfl) ?_
    refine m_R1 c124_69 rfl (pc' := 71) (L' := [(0, .ref q), (1, .long (-1)), (3, .int 0), (4, .int (cI (2147483648 + t))), (5, .long (Int64.ofNat (64 - n))), (7, .long 0), (9, .ref u), (10, .int 64), (11, .int (cI (2147483648 + (64 - (n + 1))))), (12, .int 0)]) (S' := [.int 0, .long 0]) (H' := H) (by rfl) ?_
    refine m_R1 c124_71 rfl (pc' := 72) (L' := [(0, .ref q), (1, .long (-1)), (3, .int 0), (4, .int (cI (2147483648 + t))), (5, .long (Int64.ofNat (64 - n))), (7, .long 0), (9, .ref u), (10, .int 64), (11, .int (cI (2147483648 + (64 - (n + 1))))), (12, .int 0)]) (S' := [.long (0).toInt64, .long 0]) (H' := H) (by rfl) ?_
    refine m_R1 c124_72 rfl (pc' := 73) (L' := [(0, .ref q), (1, .long (-1)), (3, .int 0), (4, .int (cI (2147483648 + t))), (5, .long (Int64.ofNat (64 - n))), (7, .long 0), (9, .ref u), (10, .int 64), (11, .int (cI (2147483648 + (64 - (n + 1))))), (12, .int 0)]) (S' := [.long 0]) (H' := H) (by rfl) ?_
    refine m_R1 c124_73 rfl (pc' := 75) (L' := [(0, .ref q), (1, .long (-1)), (3, .int 0), (4, .int (cI (2147483648 + t))), (5, .long (Int64.ofNat (64 - n))), (7, .long 0), (9, .ref u), (10, .int 64), (11, .int (cI (2147483648 + (64 - (n + 1))))), (12, .int 0)]) (S' := []) (H' := H) (by rfl) ?_
    refine m_R1 c124_75 rfl (pc' := 78) (L' := [(0, .ref q), (1, .long (-1)), (3, .int 0), (4, .int (cI (2147483648 + t))), (5, .long (Int64.ofNat (64 - n))), (7, .long 0), (9, .ref u), (10, .int 64), (11, .int ((cI (2147483648 + (64 - (n + 1)))) + Int32.ofInt 1)), (12, .int 0)]) (S' := []) (H' := H) (by rfl) ?_
    rw [inc64 (show 64 - (n + 1) + 1 = 64 - n by omega)]
    refine m_R1 c124_78 rfl (pc' := 37) (L' := [(0, .ref q), (1, .long (-1)), (3, .int 0), (4, .int (cI (2147483648 + t))), (5, .long (Int64.ofNat (64 - n))), (7, .long 0), (9, .ref u), (10, .int 64), (11, .int (cI (2147483648 + (64 - n)))), (12, .int 0)]) (S' := []) (H' := H) (by rfl) ?_
    exact cut_L1 hq hu hl hz h1 h2 k n (by omega)
theorem cut_L2 (hq : m_get H q = some (.inr (6, [.int ww, .int hh, .ref u]))) (hu : m_get H u = some (.inl (0, vs))) (hl : vs.length = 64) (hz : ∀ i, i < 64 → vs[i]? = some (.int 0)) {t : Nat} (h1 : 1 ≤ t) (h2 : t ≤ 255) (k : m_Rn scr CF 124 81 [(0, .ref q), (1, .long (-1)), (3, .int 0), (4, .int (cI (2147483648 + t))), (5, .long (Int64.ofNat 64)), (7, .long 0), (9, .ref u), (10, .int 64), (11, .int (cI (2147483648 + 64))), (12, .int 0)] [] H) : m_Rn scr CF 124 37 [(0, .ref q), (1, .long (-1)), (3, .int 0), (4, .int (cI (2147483648 + t))), (5, .long (Int64.ofNat (64 - (63 + 1)))), (7, .long 0), (9, .ref u), (10, .int 64), (11, .int (cI (2147483648 + (64 - (63 + 1)))))] [] H := by
  refine m_R1 c124_37 rfl (pc' := 39) (L' := [(0, .ref q), (1, .long (-1)), (3, .int 0), (4, .int (cI (2147483648 + t))), (5, .long (Int64.ofNat (64 - (63 + 1)))), (7, .long 0), (9, .ref u), (10, .int 64), (11, .int (cI (2147483648 + (64 - (63 + 1)))))]) (S' := [.int (cI (2147483648 + (64 - (63 + 1))))]) (H' := H) (by rfl) ?_
  refine m_R1 c124_39 rfl (pc' := 41) (L' := [(0, .ref q), (1, .long (-1)), (3, .int 0), (4, .int (cI (2147483648 + t))), (5, .long (Int64.ofNat (64 - (63 + 1)))), (7, .long 0), (9, .ref u), (10, .int 64), (11, .int (cI (2147483648 + (64 - (63 + 1)))))]) (S' := [.int 64, .int (cI (2147483648 + (64 - (63 + 1))))]) (H' := H) (by rfl) ?_
  refine Ra_icf c124_41 (cmp_lt64 (by omega)) ?_
  refine m_R1 c124_44 rfl (pc' := 46) (L' := [(0, .ref q), (1, .long (-1)), (3, .int 0), (4, .int (cI (2147483648 + t))), (5, .long (Int64.ofNat (64 - (63 + 1)))), (7, .long 0), (9, .ref u), (10, .int 64), (11, .int (cI (2147483648 + (64 - (63 + 1)))))]) (S' := [.ref u]) (H' := H) (by rfl) ?_
  refine m_R1 c124_46 rfl (pc' := 48) (L' := [(0, .ref q), (1, .long (-1)), (3, .int 0), (4, .int (cI (2147483648 + t))), (5, .long (Int64.ofNat (64 - (63 + 1)))), (7, .long 0), (9, .ref u), (10, .int 64), (11, .int (cI (2147483648 + (64 - (63 + 1)))))]) (S' := [.int (cI (2147483648 + (64 - (63 + 1)))), .ref u]) (H' := H) (by rfl) ?_
  refine Ra_ial c124_48 hu (hz (64 - (63 + 1)) (by omega)) (by omega) ?_
  refine m_R1 c124_49 rfl (pc' := 51) (L' := [(0, .ref q), (1, .long (-1)), (3, .int 0), (4, .int (cI (2147483648 + t))), (5, .long (Int64.ofNat (64 - (63 + 1)))), (7, .long 0), (9, .ref u), (10, .int 64), (11, .int (cI (2147483648 + (64 - (63 + 1))))), (12, .int 0)]) (S' := []) (H' := H) (by rfl) ?_
  refine m_R1 c124_51 rfl (pc' := 53) (L' := [(0, .ref q), (1, .long (-1)), (3, .int 0), (4, .int (cI (2147483648 + t))), (5, .long (Int64.ofNat (64 - (63 + 1)))), (7, .long 0), (9, .ref u), (10, .int 64), (11, .int (cI (2147483648 + (64 - (63 + 1))))), (12, .int 0)]) (S' := [.int 0]) (H' := H) (by rfl) ?_
  refine m_R1 c124_53 rfl (pc' := 55) (L' := [(0, .ref q), (1, .long (-1)), (3, .int 0), (4, .int (cI (2147483648 + t))), (5, .long (Int64.ofNat (64 - (63 + 1)))), (7, .long 0), (9, .ref u), (10, .int 64), (11, .int (cI (2147483648 + (64 - (63 + 1))))), (12, .int 0)]) (S' := [.int (cI (2147483648 + t)), .int 0]) (H' := H) (by rfl) ?_
  refine Ra_ict c124_55 (cmp_0t h1 h2) ?_
  refine m_R1 c124_61 rfl (pc' := 63) (L' := [(0, .ref q), (1, .long (-1)), (3, .int 0), (4, .int (cI (2147483648 + t))), (5, .long (Int64.ofNat (64 - (63 + 1)))), (7, .long 0), (9, .ref u), (10, .int 64), (11, .int (cI (2147483648 + (64 - (63 + 1))))), (12, .int 0)]) (S' := [.long (Int64.ofNat (64 - (63 + 1)))]) (H' := H) (by rfl) ?_
  refine m_R1 c124_63 rfl (pc' := 64) (L' := [(0, .ref q), (1, .long (-1)), (3, .int 0), (4, .int (cI (2147483648 + t))), (5, .long (Int64.ofNat (64 - (63 + 1)))), (7, .long 0), (9, .ref u), (10, .int 64), (11, .int (cI (2147483648 + (64 - (63 + 1))))), (12, .int 0)]) (S' := [.long 1, .long (Int64.ofNat (64 - (63 + 1)))]) (H' := H) (by rfl) ?_
  refine m_R1 c124_64 rfl (pc' := 65) (L' := [(0, .ref q), (1, .long (-1)), (3, .int 0), (4, .int (cI (2147483648 + t))), (5, .long (Int64.ofNat (64 - (63 + 1)))), (7, .long 0), (9, .ref u), (10, .int 64), (11, .int (cI (2147483648 + (64 - (63 + 1))))), (12, .int 0)]) (S' := [.long ((Int64.ofNat (64 - (63 + 1))) + 1)]) (H' := H) (by rfl) ?_
  rw [incL (show 64 - (63 + 1) + 1 = 64 - 63 by omega)]
  refine m_R1 c124_65 rfl (pc' := 67) (L' := [(0, .ref q), (1, .long (-1)), (3, .int 0), (4, .int (cI (2147483648 + t))), (5, .long (Int64.ofNat (64 - 63))), (7, .long 0), (9, .ref u), (10, .int 64), (11, .int (cI (2147483648 + (64 - (63 + 1))))), (12, .int 0)]) (S' := []) (H' := H) (by rfl) ?_
  refine m_R1 c124_67 rfl (pc' := 69) (L' := [(0, .ref q), (1, .long (-1)), (3, .int 0), (4, .int (cI (2147483648 + t))), (5, .long (Int64.ofNat (64 - 63))), (7, .long 0), (9, .ref u), (10, .int 64), (11, .int (cI (2147483648 + (64 - (63 + 1))))), (12, .int 0)]) (S' := [.long 0]) (H' := H) (by rfl) ?_
  refine m_R1 c124_69 rfl (pc' := 71) (L' := [(0, .ref q), (1, .long (-1)), (3, .int 0), (4, .int (cI (2147483648 + t))), (5, .long (Int64.ofNat (64 - 63))), (7, .long 0), (9, .ref u), (10, .int 64), (11, .int (cI (2147483648 + (64 - (63 + 1))))), (12, .int 0)]) (S' := [.int 0, .long 0]) (H' := H) (by rfl) ?_
  refine m_R1 c124_71 rfl (pc' := 72) (L' := [(0, .ref q), (1, .long (-1)), (3, .int 0), (4, .int (cI (2147483648 + t))), (5, .long (Int64.ofNat (64 - 63))), (7, .long 0), (9, .ref u), (10, .int 64), (11, .int (cI (2147483648 + (64 - (63 + 1))))), (12, .int 0)]) (S' := [.long (0).toInt64, .long 0]) (H' := H) (by rfl) ?_
  refine m_R1 c124_72 rfl (pc' := 73) (L' := [(0, .ref q), (1, .long (-1)), (3, .int 0), (4, .int (cI (2147483648 + t))), (5, .long (Int64.ofNat (64 - 63))), (7, .long 0), (9, .ref u), (10, .int 64), (11, .int (cI (2147483648 + (64 - (63 + 1))))), (12, .int 0)]) (S' := [.long 0]) (H' := H) (by rfl) ?_
  refine m_R1 c124_73 rfl (pc' := 75) (L' := [(0, .ref q), (1, .long (-1)), (3, .int 0), (4, .int (cI (2147483648 + t))), (5, .long (Int64.ofNat (64 - 63))), (7, .long 0), (9, .ref u), (10, .int 64), (11, .int (cI (2147483648 + (64 - (63 + 1))))), (12, .int 0)]) (S' := []) (H' := H) (by rfl) ?_
  refine m_R1 c124_75 rfl (pc' := 78) (L' := [(0, .ref q), (1, .long (-1)), (3, .int 0), (4, .int (cI (2147483648 + t))), (5, .long (Int64.ofNat (64 - 63))), (7, .long 0), (9, .ref u), (10, .int 64), (11, .int ((cI (2147483648 + (64 - (63 + 1)))) + Int32.ofInt 1)), (12, .int 0)]) (S' := []) (H' := H) (by rfl) ?_
  rw [inc64 (show 64 - (63 + 1) + 1 = 64 - 63 by omega)]
  refine m_R1 c124_78 rfl (pc' := 37) (L' := [(0, .ref q), (1, .long (-1)), (3, .int 0), (4, .int (cI (2147483648 + t))), (5, .long (Int64.ofNat (64 - 63))), (7, .long 0), (9, .ref u), (10, .int 64), (11, .int (cI (2147483648 + (64 - 63)))), (12, .int 0)]) (S' := []) (H' := H) (by rfl) ?_
  exact cut_L1 hq hu hl hz h1 h2 k 63 (by decide)
theorem cut_L3 (hq : m_get H q = some (.inr (6, [.int ww, .int hh, .ref u]))) (hu : m_get H u = some (.inl (0, vs))) (hl : vs.length = 64) (hz : ∀ i, i < 64 → vs[i]? = some (.int 0)) {t : Nat} (k : m_Rn scr CF 124 9 [(0, .ref q), (1, .long (-1)), (3, .int 0), (4, .int (cI (2147483648 + (t + 1)))), (5, .long (Int64.ofNat 64)), (7, .long 0), (9, .long 0), (11, .long 0)] [] H) : m_Rn scr CF 124 81 [(0, .ref q), (1, .long (-1)), (3, .int 0), (4, .int (cI (2147483648 + t))), (5, .long (Int64.ofNat 64)), (7, .long 0), (9, .ref u), (10, .int 64), (11, .int (cI (2147483648 + 64))), (12, .int 0)] [] H := by
  refine m_R1 c124_81 rfl (pc' := 82) (L' := [(0, .ref q), (1, .long (-1)), (3, .int 0), (4, .int (cI (2147483648 + t))), (5, .long (Int64.ofNat 64)), (7, .long 0), (9, .ref u), (10, .int 64), (11, .int (cI (2147483648 + 64))), (12, .int 0)]) (S' := [.ref q]) (H' := H) (by rfl) ?_
  refine call1_C c124_82 (Or.inl rfl) size_I rfl (rcv6 hq) (by decide) (size_R hq hu hl ?_)
  show m_Rn scr CF 124 85 [(0, .ref q), (1, .long (-1)), (3, .int 0), (4, .int (cI (2147483648 + t))), (5, .long (Int64.ofNat 64)), (7, .long 0), (9, .ref u), (10, .int 64), (11, .int (cI (2147483648 + 64))), (12, .int 0)] [.int 64] H
  refine m_R1 c124_85 rfl (pc' := 86) (L' := [(0, .ref q), (1, .long (-1)), (3, .int 0), (4, .int (cI (2147483648 + t))), (5, .long (Int64.ofNat 64)), (7, .long 0), (9, .ref u), (10, .int 64), (11, .int (cI (2147483648 + 64))), (12, .int 0)]) (S' := [.long (64).toInt64]) (H' := H) (by rfl) ?_
  refine m_R1 c124_86 rfl (pc' := 88) (L' := [(0, .ref q), (1, .long (-1)), (3, .int 0), (4, .int (cI (2147483648 + t))), (5, .long (Int64.ofNat 64)), (7, .long 0), (9, .ref u), (10, .int 64), (11, .int (cI (2147483648 + 64))), (12, .int 0)]) (S' := [.long (Int64.ofNat 64), .long (64).toInt64]) (H' := H) (by rfl) ?_
  refine m_R1 c124_88 rfl (pc' := 89) (L' := [(0, .ref q), (1, .long (-1)), (3, .int 0), (4, .int (cI (2147483648 + t))), (5, .long (Int64.ofNat 64)), (7, .long 0), (9, .ref u), (10, .int 64), (11, .int (cI (2147483648 + 64))), (12, .int 0)]) (S' := [.long 0]) (H' := H) (by rfl) ?_
  refine m_R1 c124_89 rfl (pc' := 91) (L' := [(0, .ref q), (1, .long (-1)), (3, .int 0), (4, .int (cI (2147483648 + t))), (5, .long (Int64.ofNat 64)), (7, .long 0), (9, .long 0), (11, .int (cI (2147483648 + 64))), (12, .int 0)]) (S' := []) (H' := H) (by rfl) ?_
  refine m_R1 c124_91 rfl (pc' := 92) (L' := [(0, .ref q), (1, .long (-1)), (3, .int 0), (4, .int (cI (2147483648 + t))), (5, .long (Int64.ofNat 64)), (7, .long 0), (9, .long 0), (11, .int (cI (2147483648 + 64))), (12, .int 0)]) (S' := [.ref q]) (H' := H) (by rfl) ?_
  refine call1_C c124_92 (Or.inl rfl) sum_I rfl (rcv6 hq) (by decide) (sum_R hq hu hl hz ?_)
  show m_Rn scr CF 124 95 [(0, .ref q), (1, .long (-1)), (3, .int 0), (4, .int (cI (2147483648 + t))), (5, .long (Int64.ofNat 64)), (7, .long 0), (9, .long 0), (11, .int (cI (2147483648 + 64))), (12, .int 0)] [.int 0] H
  refine m_R1 c124_95 rfl (pc' := 96) (L' := [(0, .ref q), (1, .long (-1)), (3, .int 0), (4, .int (cI (2147483648 + t))), (5, .long (Int64.ofNat 64)), (7, .long 0), (9, .long 0), (11, .int (cI (2147483648 + 64))), (12, .int 0)]) (S' := [.long (0).toInt64]) (H' := H) (by rfl) ?_
  refine m_R1 c124_96 rfl (pc' := 98) (L' := [(0, .ref q), (1, .long (-1)), (3, .int 0), (4, .int (cI (2147483648 + t))), (5, .long (Int64.ofNat 64)), (7, .long 0), (9, .long 0), (11, .int (cI (2147483648 + 64))), (12, .int 0)]) (S' := [.long 0, .long (0).toInt64]) (H' := H) (by rfl) ?_
  refine m_R1 c124_98 rfl (pc' := 99) (L' := [(0, .ref q), (1, .long (-1)), (3, .int 0), (4, .int (cI (2147483648 + t))), (5, .long (Int64.ofNat 64)), (7, .long 0), (9, .long 0), (11, .int (cI (2147483648 + 64))), (12, .int 0)]) (S' := [.long 0]) (H' := H) (by rfl) ?_
  refine m_R1 c124_99 rfl (pc' := 101) (L' := [(0, .ref q), (1, .long (-1)), (3, .int 0), (4, .int (cI (2147483648 + t))), (5, .long (Int64.ofNat 64)), (7, .long 0), (9, .long 0), (11, .long 0)]) (S' := []) (H' := H) (by rfl) ?_
  refine m_R1 c124_101 rfl (pc' := 103) (L' := [(0, .ref q), (1, .long (-1)), (3, .int 0), (4, .int (cI (2147483648 + t))), (5, .long (Int64.ofNat 64)), (7, .long 0), (9, .long 0), (11, .long 0)]) (S' := [.long (Int64.ofNat 64)]) (H' := H) (by rfl) ?_
  refine m_R1 c124_103 rfl (pc' := 104) (L' := [(0, .ref q), (1, .long (-1)), (3, .int 0), (4, .int (cI (2147483648 + t))), (5, .long (Int64.ofNat 64)), (7, .long 0), (9, .long 0), (11, .long 0)]) (S' := [.long 0, .long (Int64.ofNat 64)]) (H' := H) (by rfl) ?_
  refine m_R1 c124_104 rfl (pc' := 105) (L' := [(0, .ref q), (1, .long (-1)), (3, .int 0), (4, .int (cI (2147483648 + t))), (5, .long (Int64.ofNat 64)), (7, .long 0), (9, .long 0), (11, .long 0)]) (S' := [.int 1]) (H' := H) (by rfl) ?_
  refine Ra_iff c124_105 (by decide) ?_
  refine m_R1 c124_108 rfl (pc' := 110) (L' := [(0, .ref q), (1, .long (-1)), (3, .int 0), (4, .int (cI (2147483648 + t))), (5, .long (Int64.ofNat 64)), (7, .long 0), (9, .long 0), (11, .long 0)]) (S' := [.long 0]) (H' := H) (by rfl) ?_
  refine m_R1 c124_110 rfl (pc' := 111) (L' := [(0, .ref q), (1, .long (-1)), (3, .int 0), (4, .int (cI (2147483648 + t))), (5, .long (Int64.ofNat 64)), (7, .long 0), (9, .long 0), (11, .long 0)]) (S' := [.long 0, .long 0]) (H' := H) (by rfl) ?_
  refine m_R1 c124_111 rfl (pc' := 112) (L' := [(0, .ref q), (1, .long (-1)), (3, .int 0), (4, .int (cI (2147483648 + t))), (5, .long (Int64.ofNat 64)), (7, .long 0), (9, .long 0), (11, .long 0)]) (S' := [.int 0]) (H' := H) (by rfl) ?_
  refine Ra_iff c124_112 (by decide) ?_
  refine m_R1 c124_115 rfl (pc' := 165) (L' := [(0, .ref q), (1, .long (-1)), (3, .int 0), (4, .int (cI (2147483648 + t))), (5, .long (Int64.ofNat 64)), (7, .long 0), (9, .long 0), (11, .long 0)]) (S' := []) (H' := H) (by rfl) ?_
  refine m_R1 c124_165 rfl (pc' := 168) (L' := [(0, .ref q), (1, .long (-1)), (3, .int 0), (4, .int ((cI (2147483648 + t)) + Int32.ofInt 1)), (5, .long (Int64.ofNat 64)), (7, .long 0), (9, .long 0), (11, .long 0)]) (S' := []) (H' := H) (by rfl) ?_
  rw [incT]
  refine m_R1 c124_168 rfl (pc' := 9) (L' := [(0, .ref q), (1, .long (-1)), (3, .int 0), (4, .int (cI (2147483648 + (t + 1)))), (5, .long (Int64.ofNat 64)), (7, .long 0), (9, .long 0), (11, .long 0)]) (S' := []) (H' := H) (by rfl) ?_
  exact k
theorem cut_L4a (hq : m_get H q = some (.inr (6, [.int ww, .int hh, .ref u]))) (hu : m_get H u = some (.inl (0, vs))) (hl : vs.length = 64) (hz : ∀ i, i < 64 → vs[i]? = some (.int 0)) {t : Nat} (h1 : 1 ≤ t) (h2 : t ≤ 255) (k : m_Rn scr CF 124 9 [(0, .ref q), (1, .long (-1)), (3, .int 0), (4, .int (cI (2147483648 + (t + 1)))), (5, .long (Int64.ofNat 64)), (7, .long 0), (9, .long 0), (11, .long 0)] [] H) : m_Rn scr CF 124 9 [(0, .ref q), (1, .long (-1)), (3, .int 0), (4, .int (cI (2147483648 + t))), (5, .long (Int64.ofNat 64)), (7, .long 0), (9, .long 0), (11, .long 0)] [] H := by
  refine m_R1 c124_9 rfl (pc' := 11) (L' := [(0, .ref q), (1, .long (-1)), (3, .int 0), (4, .int (cI (2147483648 + t))), (5, .long (Int64.ofNat 64)), (7, .long 0), (9, .long 0), (11, .long 0)]) (S' := [.int (cI (2147483648 + t))]) (H' := H) (by rfl) ?_
  refine m_R1 c124_11 rfl (pc' := 14) (L' := [(0, .ref q), (1, .long (-1)), (3, .int 0), (4, .int (cI (2147483648 + t))), (5, .long (Int64.ofNat 64)), (7, .long 0), (9, .long 0), (11, .long 0)]) (S' := [.int 255, .int (cI (2147483648 + t))]) (H' := H) (by rfl) ?_
  refine Ra_icf c124_14 (cmp_t255 h2) ?_
  refine m_R1 c124_17 rfl (pc' := 18) (L' := [(0, .ref q), (1, .long (-1)), (3, .int 0), (4, .int (cI (2147483648 + t))), (5, .long (Int64.ofNat 64)), (7, .long 0), (9, .long 0), (11, .long 0)]) (S' := [.long 0]) (H' := H) (by rfl) ?_
  refine m_R1 c124_18 rfl (pc' := 20) (L' := [(0, .ref q), (1, .long (-1)), (3, .int 0), (4, .int (cI (2147483648 + t))), (5, .long 0), (7, .long 0), (9, .long 0), (11, .long 0)]) (S' := []) (H' := H) (by rfl) ?_
  refine m_R1 c124_20 rfl (pc' := 21) (L' := [(0, .ref q), (1, .long (-1)), (3, .int 0), (4, .int (cI (2147483648 + t))), (5, .long 0), (7, .long 0), (9, .long 0), (11, .long 0)]) (S' := [.long 0]) (H' := H) (by rfl) ?_
  refine m_R1 c124_21 rfl (pc' := 23) (L' := [(0, .ref q), (1, .long (-1)), (3, .int 0), (4, .int (cI (2147483648 + t))), (5, .long 0), (7, .long 0), (9, .long 0), (11, .long 0)]) (S' := []) (H' := H) (by rfl) ?_
  refine m_R1 c124_23 rfl (pc' := 24) (L' := [(0, .ref q), (1, .long (-1)), (3, .int 0), (4, .int (cI (2147483648 + t))), (5, .long 0), (7, .long 0), (9, .long 0), (11, .long 0)]) (S' := [.ref q]) (H' := H) (by rfl) ?_
  refine Ra_get c124_24 hq rfl ?_
  refine m_R1 c124_27 rfl (pc' := 29) (L' := [(0, .ref q), (1, .long (-1)), (3, .int 0), (4, .int (cI (2147483648 + t))), (5, .long 0), (7, .long 0), (9, .ref u), (11, .long 0)]) (S' := []) (H' := H) (by rfl) ?_
  refine m_R1 c124_29 rfl (pc' := 31) (L' := [(0, .ref q), (1, .long (-1)), (3, .int 0), (4, .int (cI (2147483648 + t))), (5, .long 0), (7, .long 0), (9, .ref u), (11, .long 0)]) (S' := [.ref u]) (H' := H) (by rfl) ?_
  refine Ra_len c124_31 hu (by decide) hl ?_
  refine m_R1 c124_32 rfl (pc' := 34) (L' := [(0, .ref q), (1, .long (-1)), (3, .int 0), (4, .int (cI (2147483648 + t))), (5, .long 0), (7, .long 0), (9, .ref u), (10, .int 64), (11, .long 0)]) (S' := []) (H' := H) (by rfl) ?_
  refine m_R1 c124_34 rfl (pc' := 35) (L' := [(0, .ref q), (1, .long (-1)), (3, .int 0), (4, .int (cI (2147483648 + t))), (5, .long 0), (7, .long 0), (9, .ref u), (10, .int 64), (11, .long 0)]) (S' := [.int 0]) (H' := H) (by rfl) ?_
  refine m_R1 c124_35 rfl (pc' := 37) (L' := [(0, .ref q), (1, .long (-1)), (3, .int 0), (4, .int (cI (2147483648 + t))), (5, .long 0), (7, .long 0), (9, .ref u), (10, .int 64), (11, .int 0)]) (S' := []) (H' := H) (by rfl) ?_
  exact cut_L2 hq hu hl hz h1 h2 (cut_L3 hq hu hl hz k)
theorem cut_L4b (hq : m_get H q = some (.inr (6, [.int ww, .int hh, .ref u]))) (hu : m_get H u = some (.inl (0, vs))) (hl : vs.length = 64) (hz : ∀ i, i < 64 → vs[i]? = some (.int 0)) {t : Nat} (h1 : 1 ≤ t) (h2 : t ≤ 255) (k : m_Rn scr CF 124 9 [(0, .ref q), (1, .long (-1)), (3, .int 0), (4, .int (cI (2147483648 + (t + 1)))), (5, .long (Int64.ofNat 64)), (7, .long 0), (9, .long 0), (11, .long 0)] [] H) : m_Rn scr CF 124 9 [(0, .ref q), (1, .long (-1)), (3, .int 0), (4, .int (cI (2147483648 + t)))] [] H := by
  refine m_R1 c124_9 rfl (pc' := 11) (L' := [(0, .ref q), (1, .long (-1)), (3, .int 0), (4, .int (cI (2147483648 + t)))]) (S' := [.int (cI (2147483648 + t))]) (H' := H) (by rfl) ?_
  refine m_R1 c124_11 rfl (pc' := 14) (L' := [(0, .ref q), (1, .long (-1)), (3, .int 0), (4, .int (cI (2147483648 + t)))]) (S' := [.int 255, .int (cI (2147483648 + t))]) (H' := H) (by rfl) ?_
  refine Ra_icf c124_14 (cmp_t255 h2) ?_
  refine m_R1 c124_17 rfl (pc' := 18) (L' := [(0, .ref q), (1, .long (-1)), (3, .int 0), (4, .int (cI (2147483648 + t)))]) (S' := [.long 0]) (H' := H) (by rfl) ?_
  refine m_R1 c124_18 rfl (pc' := 20) (L' := [(0, .ref q), (1, .long (-1)), (3, .int 0), (4, .int (cI (2147483648 + t))), (5, .long 0)]) (S' := []) (H' := H) (by rfl) ?_
  refine m_R1 c124_20 rfl (pc' := 21) (L' := [(0, .ref q), (1, .long (-1)), (3, .int 0), (4, .int (cI (2147483648 + t))), (5, .long 0)]) (S' := [.long 0]) (H' := H) (by rfl) ?_
  refine m_R1 c124_21 rfl (pc' := 23) (L' := [(0, .ref q), (1, .long (-1)), (3, .int 0), (4, .int (cI (2147483648 + t))), (5, .long 0), (7, .long 0)]) (S' := []) (H' := H) (by rfl) ?_
  refine m_R1 c124_23 rfl (pc' := 24) (L' := [(0, .ref q), (1, .long (-1)), (3, .int 0), (4, .int (cI (2147483648 + t))), (5, .long 0), (7, .long 0)]) (S' := [.ref q]) (H' := H) (by rfl) ?_
  refine Ra_get c124_24 hq rfl ?_
  refine m_R1 c124_27 rfl (pc' := 29) (L' := [(0, .ref q), (1, .long (-1)), (3, .int 0), (4, .int (cI (2147483648 + t))), (5, .long 0), (7, .long 0), (9, .ref u)]) (S' := []) (H' := H) (by rfl) ?_
  refine m_R1 c124_29 rfl (pc' := 31) (L' := [(0, .ref q), (1, .long (-1)), (3, .int 0), (4, .int (cI (2147483648 + t))), (5, .long 0), (7, .long 0), (9, .ref u)]) (S' := [.ref u]) (H' := H) (by rfl) ?_
  refine Ra_len c124_31 hu (by decide) hl ?_
  refine m_R1 c124_32 rfl (pc' := 34) (L' := [(0, .ref q), (1, .long (-1)), (3, .int 0), (4, .int (cI (2147483648 + t))), (5, .long 0), (7, .long 0), (9, .ref u), (10, .int 64)]) (S' := []) (H' := H) (by rfl) ?_
  refine m_R1 c124_34 rfl (pc' := 35) (L' := [(0, .ref q), (1, .long (-1)), (3, .int 0), (4, .int (cI (2147483648 + t))), (5, .long 0), (7, .long 0), (9, .ref u), (10, .int 64)]) (S' := [.int 0]) (H' := H) (by rfl) ?_
  refine m_R1 c124_35 rfl (pc' := 37) (L' := [(0, .ref q), (1, .long (-1)), (3, .int 0), (4, .int (cI (2147483648 + t))), (5, .long 0), (7, .long 0), (9, .ref u), (10, .int 64), (11, .int 0)]) (S' := []) (H' := H) (by rfl) ?_
  exact cut_L2 hq hu hl hz h1 h2 (cut_L3 hq hu hl hz k)
theorem cut_L5 (hq : m_get H q = some (.inr (6, [.int ww, .int hh, .ref u]))) (hu : m_get H u = some (.inl (0, vs))) (hl : vs.length = 64) (hz : ∀ i, i < 64 → vs[i]? = some (.int 0)) (k : m_Rt scr CF (some (.int 0)) H) : ∀ n, n < 255 → m_Rn scr CF 124 9 [(0, .ref q), (1, .long (-1)), (3, .int 0), (4, .int (cI (2147483648 + (256 - n)))), (5, .long (Int64.ofNat 64)), (7, .long 0), (9, .long 0), (11, .long 0)] [] H
  | 0, _ => by
    refine m_R1 c124_9 rfl (pc' := 11) (L' := [(0, .ref q), (1, .long (-1)), (3, .int 0), (4, .int (cI (2147483648 + (256 - 0)))), (5, .long (Int64.ofNat 64)), (7, .long 0), (9, .long 0), (11, .long 0)]) (S' := [.int (cI (2147483648 + (256 - 0)))]) (H' := H) (by rfl) ?_
    refine m_R1 c124_11 rfl (pc' := 14) (L' := [(0, .ref q), (1, .long (-1)), (3, .int 0), (4, .int (cI (2147483648 + (256 - 0)))), (5, .long (Int64.ofNat 64)), (7, .long 0), (9, .long 0), (11, .long 0)]) (S' := [.int 255, .int (cI (2147483648 + (256 - 0)))]) (H' := H) (by rfl) ?_
    refine Ra_ict c124_14 (by decide) ?_
    refine m_R1 c124_171 rfl (pc' := 172) (L' := [(0, .ref q), (1, .long (-1)), (3, .int 0), (4, .int (cI (2147483648 + (256 - 0)))), (5, .long (Int64.ofNat 64)), (7, .long 0), (9, .long 0), (11, .long 0)]) (S' := [.int 0]) (H' := H) (by rfl) ?_
    exact m_Rn.ret c124_172 (by decide) rfl (v := some (.int 0)) rfl (by decide +kernel) k
  | n + 1, h => by
    refine cut_L4a hq hu hl hz (t := 256 - (n + 1)) (by omega) (by omega) ?_
    rw [show 256 - (n + 1) + 1 = 256 - n by omega]
    exact cut_L5 hq hu hl hz k n (by omega)
theorem cut_R (hq : m_get H q = some (.inr (6, [.int ww, .int hh, .ref u]))) (hu : m_get H u = some (.inl (0, vs))) (hl : vs.length = 64) (hz : ∀ i, i < 64 → vs[i]? = some (.int 0)) (k : m_Rt scr CF (some (.int 0)) H) : m_Rn scr CF 124 0 [(0, .ref q)] [] H := by
  refine m_R1 c124_0 rfl (pc' := 3) (L' := [(0, .ref q)]) (S' := [.long (-1)]) (H' := H) (by rfl) ?_
  refine m_R1 c124_3 rfl (pc' := 4) (L' := [(0, .ref q), (1, .long (-1))]) (S' := []) (H' := H) (by rfl) ?_
  refine m_R1 c124_4 rfl (pc' := 5) (L' := [(0, .ref q), (1, .long (-1))]) (S' := [.int 0]) (H' := H) (by rfl) ?_
  refine m_R1 c124_5 rfl (pc' := 6) (L' := [(0, .ref q), (1, .long (-1)), (3, .int 0)]) (S' := []) (H' := H) (by rfl) ?_
  refine m_R1 c124_6 rfl (pc' := 7) (L' := [(0, .ref q), (1, .long (-1)), (3, .int 0)]) (S' := [.int 1]) (H' := H) (by rfl) ?_
  refine m_R1 c124_7 rfl (pc' := 9) (L' := [(0, .ref q), (1, .long (-1)), (3, .int 0), (4, .int 1)]) (S' := []) (H' := H) (by rfl) ?_
  show m_Rn scr CF 124 9 [(0, .ref q), (1, .long (-1)), (3, .int 0), (4, .int (cI (2147483648 + 1)))] [] H
  exact cut_L4b hq hu hl hz (t := 1) (by decide) (by decide) (cut_L5 hq hu hl hz k 254 (by decide))
theorem cut_C {i : Instr} (hq : m_get H q = some (.inr (6, [.int ww, .int hh, .ref u]))) (hu : m_get H u = some (.inl (0, vs))) (hl : vs.length = 64) (hz : ∀ i, i < 64 → vs[i]? = some (.int 0)) (hc : m_code M pc = some (i, 124, y, w, z)) (hw : w = 1 ∨ w = 2) (hi : m_inv i = true) (hS : m_cat S ≤ 8) (k : m_Rn scr CF M (pc + 3) L (.int 0 :: S) H) : m_Rn scr CF M pc L (.ref q :: S) H :=
  call1_C hc hw cut_I hi (rcv6 hq) hS (cut_R hq hu hl hz k)
end CUT
