/-! the machine over worlds: a run of the program's data over abstract cells; below, that the real machine does the same -/
def m_gw : List Cond := lw_tbl.filter goodWord
def m_wp (i : Nat) (w : Cond) : Bool := decide (lw_tbl[i]? = some w) && goodWord w
theorem m_wp_in {i : Nat} {w : Cond} (h : m_wp i w = true) : w ∈ m_gw := by
  simp only [m_wp, Bool.and_eq_true, decide_eq_true_eq] at h
  exact List.mem_filter.mpr ⟨List.mem_of_getElem? h.1, h.2⟩
def m_nm (M : Nat) : MethodName := (m_inf M).1
def m_by (M : Nat) : ByteArray := (m_inf M).2.1
def m_nL (M : Nat) : Nat := (m_inf M).2.2.1
def m_rt (M : Nat) : Option FieldType := (m_inf M).2.2.2.1
def m_stc (M : Nat) : Bool := (m_inf M).2.2.2.2.1
def m_na (M : Nat) : Nat := (m_inf M).2.2.2.2.2.1
def m_rc (M : Nat) : Nat := (m_inf M).2.2.2.2.2.2.1
def m_fr (M : Nat) : Nat := (m_inf M).2.2.2.2.2.2.2.1
def m_lo (M : Nat) : Nat := (m_inf M).2.2.2.2.2.2.2.2
def m_code (M pc : Nat) : Option (Instr × Nat × Nat × Nat × Int) := ((m_prog M).find? (fun q => q.1 == pc)).map (fun q => q.2)
def m_ty : Nat → FieldType
  | 0 => .int
  | 1 => .boolean
  | 2 => .object "ParallaxSheets$Sheet"
  | 3 => .long
  | 4 => .double
  | 5 => .object "ParallaxSheetsModel$Sheet"
  | _ => .object "java/lang/Object"
def m_len (i : Instr) (z : Int) : Nat := match i with
  | .bipush _ => 2
  | .ldc _ => 2
  | .iload _ => 2
  | .istore _ => 2
  | .lload _ => 2
  | .lstore _ => 2
  | .aload _ => 2
  | .astore _ => 2
  | .newarray _ => 2
  | .sipush _ => 3
  | .getfield _ => 3
  | .putfield _ => 3
  | .invokevirtual _ => 3
  | .invokespecial _ => 3
  | .invokestatic _ => 3
  | .new _ => 3
  | .anewarray _ => 3
  | .goto _ => 3
  | .ifCond _ _ => 3
  | .if_icmp _ _ => 3
  | .iinc _ _ => 3
  | .ldc2_w _ => 3
  | .dload _ => 2
  | .dstore _ => 2
  | .getstatic _ => 3
  | .checkcast _ => 3
  | .if_acmp _ _ => 3
  | .tableswitch _ _ _ _ => z.toNat
  | .lookupswitch _ _ => z.toNat
  | _ => 1
def m_hh (x : Nat) : List (Nat × Nat × Nat × Nat) := (m_hx x).map (fun q => q.1)
/-- what a callee's words must be, by their places -/
def m_okM (x : Nat) : Bool :=
  let nm := m_nm x
  let pl := m_mpls.getD x (0, 0, 0, 0)
  (if (m_hx x).isEmpty = true then m_wp pl.1 (.code nm (m_by x) (m_nL x) (m_rt x)) else m_wp pl.1 (.codeWith nm (m_by x) (m_nL x) (m_rt x) (m_hh x)) && m_stc x && (m_hx x).all (fun q => m_wp q.2.2 (.classLink nm.cls q.1.2.2.2 (m_exn q.2.1)) && decide (q.1.2.2.2 ≠ 0) && decide (q.2.1 < 3))) && m_wp pl.2.1 (.initialized nm.cls) &&
    (if m_stc x = true then m_wp pl.2.2.1 (.static nm) else
      m_wp pl.2.2.1 (.instanceMethod nm) && (decide ((m_cl[m_rc x]?).map (fun r => r.1) = some nm.cls) || decide (nm.name = "<init>")) && (decide (nm.name = "<init>") || m_wp pl.2.2.2 (.selects nm.cls nm nm))) &&
    decide (nm.cls ≠ "java/lang/invoke/MethodHandle") && decide (nm.cls ≠ "java/lang/invoke/VarHandle") && decide ((parseMethodDescriptor nm.desc).map (fun d => d.parameters.length) = some (m_na x)) && plainName nm.cls
def m_isM (x : Nat) : Bool := decide (x < 195) || (decide (197 < x) && decide (x < 244))
def m_host (x : Nat) : String := if (m_nm x).cls = "ParallaxSheetsModel" ∨ (m_nm x).cls = "ParallaxSheetsModel$Sheet" then "ParallaxSheetsModel" else "ParallaxSheets"
def m_okC (M : Nat) (k x y w : Nat) : Bool :=
  (if w = 1 then m_wp y (.methodLink (m_nm M).cls k (m_nm x)) else decide (w = 2) && m_nest.any (fun u => decide (u = .methodLinkNest (m_nm M).cls k (m_nm x) (m_host x)))) && decide (m_fr x + 1 ≤ m_fr M) && decide (8 + (m_nL x + 11) + m_lo x ≤ m_lo M) && m_isM x
def m_okF (M k x y z : Nat) : Bool := match m_cl[x]? with
  | some r => decide (y < r.2.2) && (m_wp z (.fieldLink (m_nm M).cls k (r.2.1 y).1 (r.2.1 y).2.1 (r.2.1 y).2.2.1) || (decide ((r.2.1 y) = ("java/util/AbstractList", "modCount", "I", false)) && m_wp z (.fieldLink (m_nm M).cls k "java/util/ArrayList" "modCount" "I")))
  | none => false
def m_okP (M x y : Nat) : Bool := match m_cl[x]? with
  | some r => decide ((r.2.1 y).2.2.2 = false) || (decide ((r.2.1 y).2.2.2 = true) && decide ((m_nm M).name = "<init>") && decide ((r.2.1 y).1 = (m_nm M).cls))
  | none => false
def m_okN (M k x y : Nat) : Bool := match m_cl[x]?, m_cpl[x]? with
  | some r, some pl => m_wp y (.classLink (m_nm M).cls k r.1) && m_wp pl.1 (.instantiable r.1 r.2.2) && m_wp pl.2.1 (.initialized r.1)
  | _, _ => false
/-- what an instruction's row must be -/
def m_okE (M : Nat) (q : m_I) : Bool := match q with
  | (pc, i, x, y, w, z) => decide (decode (m_by M) pc = .ok (i, m_len i z)) && (match i with
    | .dstore k => decide (k + 1 < m_nL M)
    | .getstatic k => if w = 11 then decide (x < 4) && m_wp y (.fieldLink (m_nm M).cls k (m_sn x).1 (m_sn x).2.1 (m_sn x).2.2) else decide (w = 12) && decide (z = 127) && m_wp y (.fieldLink (m_nm M).cls k "java/lang/Integer$IntegerCache" "high" "I")
    | .checkcast k => (decide (x = 0) && m_wp y (.classLink (m_nm M).cls k "[I")) || (decide (x = 1) && m_wp y (.classLink (m_nm M).cls k "java/lang/Integer")) || (decide (x = 2) && m_wp y (.classLink (m_nm M).cls k "[Ljava/lang/Object;"))
    | .if_acmp _ off => decide ((pc : Int) + off = (x : Int))
    | .istore_n k => decide ((k : Nat) < m_nL M)
    | .istore k => decide (k < m_nL M)
    | .astore_n k => decide ((k : Nat) < m_nL M)
    | .astore k => decide (k < m_nL M)
    | .lstore_n k => decide ((k : Nat) + 1 < m_nL M)
    | .lstore k => decide (k + 1 < m_nL M)
    | .iinc k _ => decide (k < m_nL M)
    | .getfield k => m_okF M k x y z.toNat
    | .putfield k => m_okF M k x y z.toNat && m_okP M x y
    | .ifCond _ off => decide ((pc : Int) + off = (x : Int))
    | .if_icmp _ off => decide ((pc : Int) + off = (x : Int))
    | .goto off => decide ((pc : Int) + off = (x : Int))
    | .lookupswitch _ ps => (ps.toList.zip (ps.toList.drop 1)).all (fun (a, next) => a.1 < next.1)
    | .new k => if w = 8 then (match m_sites[z.toNat]? with
        | some (ik, is, ic, ex, _) => decide (k = ik) && decide (x = ex) && decide (x < 3) && decide ((m_nm M).cls = RX5) && decide (decode (m_by M) (pc + 3) = .ok (.dup, 1)) && decide (decode (m_by M) (pc + 4) = .ok (.ldc is, 2)) && decide (decode (m_by M) (pc + 6) = .ok (.invokespecial ic, 3)) && decide (decode (m_by M) (pc + 9) = .ok (.athrow, 1)) && m_wp y (.classLink RX5 ik (m_exn x)) && m_wp (m_exi.getD x 0) (.initialized (m_exn x)) && decide (6 ≤ m_fr M) && decide (82 ≤ m_lo M) && (m_hx M).isEmpty
        | none => false) else m_okN M k x y
    | .newarray t => (decide (x < 2) || decide (x = 3) || decide (x = 4)) && decide (newarray.typeOf t = m_ty x) && m_wp y (.arrayClass (m_ty x))
    | .anewarray k => (decide (x = 2) && m_wp y (.classLink (m_nm M).cls k "ParallaxSheets$Sheet")) || (decide (x = 5) && m_wp y (.classLink (m_nm M).cls k "ParallaxSheetsModel$Sheet")) || (decide (x = 6) && m_wp y (.classLink (m_nm M).cls k "java/lang/Object"))
    | .ldc k => if w = 14 then m_wp y (.classLink (m_nm M).cls k "[Ljava/lang/Object;") else m_wp y (.constant (m_nm M).cls k (Int32.ofInt z))
    | .ldc2_w k => m_wp y (.constantLong (m_nm M).cls k (Int64.ofInt z))
    | .invokevirtual k => if w = 10 then m_wp y (.methodLink (m_nm M).cls k ⟨"[I", "clone", "()Ljava/lang/Object;"⟩) && decide (1 ≤ m_fr M) && decide (22 ≤ m_lo M)
        else if w = 13 then m_wp y (.methodLink (m_nm M).cls k ⟨"java/lang/Object", "getClass", "()Ljava/lang/Class;"⟩) && decide (1 ≤ m_fr M) && decide (22 ≤ m_lo M)
        else decide (w = 1) && m_okC M k x y w && decide (m_stc x = false) && decide ((m_nm x).name ≠ "<init>")
    | .invokestatic k => if w = 3 then m_wp y (.methodLink (m_nm M).cls k Lib.Math.max.name) && decide (1 ≤ m_fr M) && decide (21 ≤ m_lo M)
        else if w = 4 then m_wp y (.methodLink (m_nm M).cls k Lib.Math.min.name) && decide (1 ≤ m_fr M) && decide (21 ≤ m_lo M)
        else if w = 5 then m_wp y (.methodLink (m_nm M).cls k Lib.Math.abs.name) && decide (1 ≤ m_fr M) && decide (21 ≤ m_lo M)
        else if w = 6 then m_wp y (.methodLink (m_nm M).cls k arraycopyName) && decide (1 ≤ m_fr M) && decide (8 + (nativeFrameWords "java/lang/System" "arraycopy" 5 + 11) ≤ m_lo M)
        else m_okC M k x y w && decide (m_stc x = true)
    | .invokespecial k => if w = 7 then m_wp y (.methodLink (m_nm M).cls k Lib.objectInit) && decide (1 ≤ m_fr M) && decide (20 ≤ m_lo M)
        else m_okC M k x y w && decide (m_stc x = false) && decide ((m_nm x).name = "<init>") && decide (m_rt x = none)
    | _ => true)
/-! abstract cells: an array of a kind with its contents, or an object of a kind with its fields; a reference k + 1 is the cell k, the reference 0 is the script -/
abbrev mC : Type := (Nat × List Value) ⊕ (Nat × List Value)
abbrev mL : Type := List (Nat × Value)
abbrev mS : Type := Nat × mL × List Value × List mC
def m_p0 : Nat := 1000000
def m_get (H : List mC) (r : Nat) : Option mC := match r with
  | 0 => none
  | k + 1 => if k + 1 < m_p0 then H[k]? else none
def m_set (H : List mC) (r : Nat) (c : mC) : List mC := match r with
  | 0 => H
  | k + 1 => H.set k c
/-- what was there before stands behind references from m_p0 on: 0 ArrayList's empty row, 1 CROSS, 2 NINE, 3 the cache, 4 the mirror of Object[], 5 + k the box of k - 128 -/
def m_box (r : Nat) : Bool := decide (m_p0 + 5 ≤ r) && decide (r < m_p0 + 261)
def m_f1 (j : Nat) : Value := [Value.int 1, .int 3, .int 4, .int 5, .int 7].getD j .null
def m_f2 (j : Nat) : Value := [Value.int 0, .int 1, .int 2, .int 3, .int 4, .int 5, .int 6, .int 7, .int 8].getD j .null
def m_preI (r : Nat) (j : Int32) : Value := if 0 ≤ j then (if r = m_p0 + 1 then m_f1 j.toNatClampNeg else if r = m_p0 + 2 then m_f2 j.toNatClampNeg else .null) else .null
def m_preN (r : Nat) : Option Nat := if r = m_p0 then some 0 else if r = m_p0 + 1 then some 5 else if r = m_p0 + 2 then some 9 else if r = m_p0 + 3 then some 256 else none
/-- cells that are not in the world: none -/
def m_mk : mC → Bool := fun _ => false
def m_nox (H : List mC) : Bool := H.all (fun c => !(m_mk c))
/-- there is room for one thing more -/
def m_rm1 (H : List mC) : Bool := decide (H.length < 900000) && m_nox H
/-- the class of what r names -/
def m_rcv (H : List mC) (r : Nat) : Option Nat := match m_get H r with
  | some (.inr (ci, _)) => some ci
  | some (.inl _) => none
  | none => if m_box r = true then some 8 else none
def m_ld (L : mL) (i : Nat) : Option Value := (L.find? (fun q => q.1 == i)).map (fun q => q.2)
def m_ins (i : Nat) (v : Value) : mL → mL
  | [] => [(i, v)]
  | q :: L => if i < q.1 then (i, v) :: q :: L else q :: m_ins i v L
def m_st1 (i : Nat) (v : Value) (L : mL) : mL := m_ins i v (L.filter (fun q => !(q.1 == i) && !(q.1 + 1 == i && q.2.category == 2)))
def m_st2 (i : Nat) (v : Value) (L : mL) : mL := m_ins i v (L.filter (fun q => !(q.1 == i) && (!(q.1 == i + 1) && !(q.1 + 1 == i && q.2.category == 2))))
def m_isI : Value → Bool
  | .int _ => true
  | _ => false
def m_isL : Value → Bool
  | .long _ => true
  | _ => false
def m_isD : Value → Bool
  | .double _ => true
  | _ => false
def m_isA : Value → Bool
  | .ref _ => true
  | _ => false
def m_lv (f : Value → Bool) (i pc' : Nat) (L : mL) (S : List Value) (H : List mC) : Option mS := match m_ld L i with
  | some v => if f v = true then some (pc', L, v :: S, H) else none
  | none => none
def m_sv1 (f : Value → Bool) (i pc' : Nat) (L : mL) (S : List Value) (H : List mC) : Option mS := match S with
  | v :: S' => if f v = true then some (pc', m_st1 i v L, S', H) else none
  | [] => none
def m_sv2 (f : Value → Bool) (i pc' : Nat) (L : mL) (S : List Value) (H : List mC) : Option mS := match S with
  | v :: S' => if f v = true then some (pc', m_st2 i v L, S', H) else none
  | [] => none
def m_b2 (f : Int32 → Int32 → Int32) (pc : Nat) (L : mL) (S : List Value) (H : List mC) : Option mS := match S with
  | .int b :: .int a :: S' => some (pc + 1, L, .int (f a b) :: S', H)
  | _ => none
def m_d2 (f : Int32 → Int32 → Int32) (pc : Nat) (L : mL) (S : List Value) (H : List mC) : Option mS := match S with
  | .int b :: .int a :: S' => if b = 0 then none else some (pc + 1, L, .int (f a b) :: S', H)
  | _ => none
def m_l2 (f : Int64 → Int64 → Int64) (pc : Nat) (L : mL) (S : List Value) (H : List mC) : Option mS := match S with
  | .long b :: .long a :: S' => some (pc + 1, L, .long (f a b) :: S', H)
  | _ => none
def m_cmp (c : ClassFile.Cond) (a b : Int32) : Bool := match c with
  | .eq => decide (a = b)
  | .ne => decide (¬ a = b)
  | .lt => decide (a < b)
  | .ge => decide (b ≤ a)
  | .gt => decide (b < a)
  | .le => decide (a ≤ b)
def m_fit (ty : FieldType) (v : Value) : Bool := match ty, v with
  | .int, .int _ => true
  | .object _, .ref _ => true
  | .array _, .ref _ => true
  | _, _ => false
def m_gf (H : List mC) (r x y : Nat) : Option Value := match m_get H r with
  | some (.inr (ci, fs)) => if ci = x then fs[y]? else none
  | some (.inl _) => none
  | none => if m_box r = true ∧ x = 8 ∧ y = 0 then some (.int (vb_c (r - (m_p0 + 5)))) else none
def m_pf (H : List mC) (r x y : Nat) (v : Value) : Option (List mC) := match m_get H r with
  | some (.inr (ci, fs)) => if ci = x ∧ y < fs.length ∧ m_fit (m_fty x y) v = true then some (m_set H r (.inr (ci, fs.set y v))) else none
  | _ => none
def m_ra (H : List mC) (r t : Nat) (i : Int32) : Option Value := match m_get H r with
  | some (.inl (u, vs)) => if u = t ∧ 0 ≤ i then vs[i.toNatClampNeg]? else none
  | _ => none
def m_wa (H : List mC) (r t : Nat) (i : Int32) (v : Value) : Option (List mC) := match m_get H r with
  | some (.inl (u, vs)) => if u = t ∧ 0 ≤ i ∧ i.toNatClampNeg < vs.length then some (m_set H r (.inl (u, vs.set i.toNatClampNeg v))) else none
  | _ => none
def m_jmp (pc : Nat) (off : Int) (L : mL) (S : List Value) (H : List mC) : Option mS := if 0 ≤ (pc : Int) + off then some (((pc : Int) + off).toNat, L, S, H) else none
def m_cat (S : List Value) : Nat := (S.map fun v => v.category).sum
def m_cpy (f g : List Value) (sp dp n : Nat) : List Value := (List.range g.length).map (fun k => if dp ≤ k ∧ k < dp + n then f.getD (sp + (k - dp)) .null else g.getD k .null)
def m_ints (vs : List Value) : Bool := vs.all m_isI
def m_bxs (f : List Value) (sp n : Nat) : Bool := (List.range n).all (fun i => match f[sp + i]? with
  | some (.ref v) => m_box v
  | _ => false)
def m_cp (H : List mC) (r0 r : Nat) (sp dp n : Int32) : Option (List mC) := match m_get H r0, m_get H r with
  | some (.inl (u0, f)), some (.inl (u1, g)) => if (0 ≤ sp ∧ 0 ≤ dp ∧ 0 ≤ n ∧ sp.toNatClampNeg + n.toNatClampNeg ≤ f.length ∧ dp.toNatClampNeg + n.toNatClampNeg ≤ g.length) ∧ ((u0 = 0 ∧ u1 = 0) ∨ (u0 = 6 ∧ u1 = 6 ∧ m_bxs f sp.toNatClampNeg n.toNatClampNeg = true)) then
      some (m_set H r (.inl (u1, m_cpy f g sp.toNatClampNeg dp.toNatClampNeg n.toNatClampNeg))) else none
  | _, _ => none
def m_math (w pc : Nat) (L : mL) (S : List Value) (H : List mC) : Option mS :=
  if w = 3 then (match S with
    | .int b :: .int a :: S' => if m_cat S' ≤ 8 then some (pc + 3, L, .int (if a < b then b else a) :: S', H) else none
    | _ => none)
  else if w = 4 then (match S with
    | .int b :: .int a :: S' => if m_cat S' ≤ 8 then some (pc + 3, L, .int (if b < a then b else a) :: S', H) else none
    | _ => none)
  else if w = 5 then (match S with
    | .int a :: S' => if m_cat S' ≤ 8 then some (pc + 3, L, .int (if 0 ≤ a then a else 0 - a) :: S', H) else none
    | _ => none)
  else if w = 6 then (match S with
    | .int n :: .int dp :: .ref r :: .int sp :: .ref r0 :: S' => if m_cat S' ≤ 8 then (m_cp H r0 r sp dp n).map (fun H1 => (pc + 3, L, S', H1)) else none
    | _ => none)
  else none
/-- one instruction that is no call and no return -/
def m_ex (scr : List Int32) (M pc : Nat) (i : Instr) (x y w : Nat) (z : Int) (L : mL) (S : List Value) (H : List mC) : Option mS := match i with
  | .iconst n => some (pc + 1, L, .int (Int32.ofInt n) :: S, H)
  | .bipush n => some (pc + 2, L, .int (Int8.ofInt n).toInt32 :: S, H)
  | .sipush n => some (pc + 3, L, .int (Int16.ofInt n).toInt32 :: S, H)
  | .lconst n => some (pc + 1, L, .long (Int64.ofNat (n : Nat)) :: S, H)
  | .dconst d => if d = 0 then some (pc + 1, L, .double FP.dconst0 :: S, H) else none
  | .ldc _ => if w = 14 then some (pc + 2, L, .ref (m_p0 + 4) :: S, H) else some (pc + 2, L, .int (Int32.ofInt z) :: S, H)
  | .ldc2_w _ => some (pc + 3, L, .long (Int64.ofInt z) :: S, H)
  | .iload_n k => m_lv m_isI k (pc + 1) L S H
  | .iload k => m_lv m_isI k (pc + 2) L S H
  | .lload_n k => m_lv m_isL k (pc + 1) L S H
  | .lload k => m_lv m_isL k (pc + 2) L S H
  | .aload_n k => m_lv m_isA k (pc + 1) L S H
  | .aload k => m_lv m_isA k (pc + 2) L S H
  | .istore_n k => m_sv1 m_isI k (pc + 1) L S H
  | .istore k => m_sv1 m_isI k (pc + 2) L S H
  | .astore_n k => m_sv1 m_isA k (pc + 1) L S H
  | .astore k => m_sv1 m_isA k (pc + 2) L S H
  | .lstore_n k => m_sv2 m_isL k (pc + 1) L S H
  | .lstore k => m_sv2 m_isL k (pc + 2) L S H
  | .iinc k n => (match m_ld L k with
    | some (.int v) => some (pc + 3, m_st1 k (.int (v + Int32.ofInt n)) L, S, H)
    | _ => none)
  | .iadd => m_b2 (fun a b => a + b) pc L S H
  | .isub => m_b2 (fun a b => a - b) pc L S H
  | .imul => m_b2 (fun a b => a * b) pc L S H
  | .iand => m_b2 (fun a b => a &&& b) pc L S H
  | .ishr => m_b2 (fun a b => a >>> (b &&& 31)) pc L S H
  | .idiv => m_d2 (fun a b => a / b) pc L S H
  | .irem => m_d2 (fun a b => a - a / b * b) pc L S H
  | .ladd => m_l2 (fun a b => a + b) pc L S H
  | .lsub => m_l2 (fun a b => a - b) pc L S H
  | .lmul => m_l2 (fun a b => a * b) pc L S H
  | .ldiv => (match S with
    | .long b :: .long a :: S' => if b = 0 then none else some (pc + 1, L, .long (a / b) :: S', H)
    | _ => none)
  | .lcmp => (match S with
    | .long b :: .long a :: S' => some (pc + 1, L, .int (lg_cmp a b) :: S', H)
    | _ => none)
  | .i2l => (match S with
    | .int a :: S' => some (pc + 1, L, .long a.toInt64 :: S', H)
    | _ => none)
  | .i2d => (match S with
    | .int a :: S' => some (pc + 1, L, .double (FP.i2d a) :: S', H)
    | _ => none)
  | .ddiv => (match S with
    | .double b :: .double a :: S' => if FP.ddiv a b &&& 0x7fffffffffffffff ≤ 0x7ff0000000000000 then some (pc + 1, L, .double (FP.ddiv a b) :: S', H) else none
    | _ => none)
  | .dcmp op => (match S with
    | .double b :: .double a :: S' => some (pc + 1, L, .int (Op.cmpValue (FP.dcmp a b) op) :: S', H)
    | _ => none)
  | .dup => (match S with
    | v :: S' => if v.category = 1 then some (pc + 1, L, v :: v :: S', H) else none
    | _ => none)
  | .dup2 => (match S with
    | v :: u :: S' => if v.category = 1 ∧ u.category = 1 then some (pc + 1, L, v :: u :: v :: u :: S', H) else none
    | _ => none)
  | .pop => (match S with
    | v :: S' => if v.category = 1 then some (pc + 1, L, S', H) else none
    | _ => none)
  | .dload k => m_lv m_isD k (pc + 2) L S H
  | .dstore k => m_sv2 m_isD k (pc + 2) L S H
  | .ineg => (match S with
    | .int a :: S' => some (pc + 1, L, .int (0 - a) :: S', H)
    | _ => none)
  | .aconst_null => some (pc + 1, L, .null :: S, H)
  | .dup_x1 => (match S with
    | v :: u :: S' => if v.category = 1 ∧ u.category = 1 then some (pc + 1, L, v :: u :: v :: S', H) else none
    | _ => none)
  | .getstatic _ => if w = 11 then some (pc + 3, L, .ref (m_p0 + x) :: S, H) else if w = 12 then some (pc + 3, L, .int (Int32.ofInt z) :: S, H) else none
  | .laload => (match S with
    | .int j :: .ref r :: S' => (match m_ra H r 3 j with
      | some (.long v) => some (pc + 1, L, .long v :: S', H)
      | _ => none)
    | _ => none)
  | .daload => (match S with
    | .int j :: .ref r :: S' => (match m_ra H r 4 j with
      | some (.double v) => some (pc + 1, L, .double v :: S', H)
      | _ => none)
    | _ => none)
  | .lastore => (match S with
    | .long v :: .int j :: .ref r :: S' => (m_wa H r 3 j (.long v)).map (fun H1 => (pc + 1, L, S', H1))
    | _ => none)
  | .dastore => (match S with
    | .double v :: .int j :: .ref r :: S' => (m_wa H r 4 j (.double v)).map (fun H1 => (pc + 1, L, S', H1))
    | _ => none)
  | .checkcast _ => (match S with
    | .ref r :: S' => if x = 1 then (if m_box r = true then some (pc + 3, L, .ref r :: S', H) else none) else (match m_get H r with
      | some (.inl (t, _)) => if (x = 0 ∧ t = 0) ∨ (x = 2 ∧ t = 6) then some (pc + 3, L, .ref r :: S', H) else none
      | _ => none)
    | _ => none)
  | .goto _ => some (x, L, S, H)
  | .ifCond c _ => (match S with
    | .int a :: S' => some (if m_cmp c a 0 = true then x else pc + 3, L, S', H)
    | _ => none)
  | .if_acmp c _ => (match S with
    | .ref b :: .ref a :: S' => if a = b then some (if c = .eq then x else pc + 3, L, S', H) else none
    | _ => none)
  | .if_icmp c _ => (match S with
    | .int b :: .int a :: S' => some (if m_cmp c a b = true then x else pc + 3, L, S', H)
    | _ => none)
  | .tableswitch d lo hi offs => (match S with
    | .int a :: S' => if a.toInt < lo ∨ hi < a.toInt then m_jmp pc d L S' H else (match offs[(a.toInt - lo).toNat]? with
      | some off => m_jmp pc off L S' H
      | none => none)
    | _ => none)
  | .lookupswitch d ps => (match S with
    | .int a :: S' => m_jmp pc (Op.lookupswitch.offset ps.toList d a.toInt) L S' H
    | _ => none)
  | .getfield _ => (match S with
    | .ref r :: S' => (m_gf H r x y).map (fun v => (pc + 3, L, v :: S', H))
    | _ => none)
  | .putfield _ => (match S with
    | v :: .ref r :: S' => (m_pf H r x y v).map (fun H1 => (pc + 3, L, S', H1))
    | _ => none)
  | .iaload => (match S with
    | .int j :: .ref 0 :: S' => if 0 ≤ j then (scr[j.toNatClampNeg]?).map (fun v => (pc + 1, L, .int v :: S', H)) else none
    | .int j :: .ref r :: S' => (match m_ra H r 0 j with
      | some (.int v) => some (pc + 1, L, .int v :: S', H)
      | _ => (match m_preI r j with
        | .int v => some (pc + 1, L, .int v :: S', H)
        | _ => none))
    | _ => none)
  | .baload => (match S with
    | .int j :: .ref r :: S' => (match m_ra H r 1 j with
      | some (.int v) => some (pc + 1, L, .int v :: S', H)
      | _ => none)
    | _ => none)
  | .aaload => (match S with
    | .int j :: .ref r :: S' => (match m_get H r with
      | some (.inl (t, vs)) => if (t = 2 ∨ t = 5 ∨ t = 6) ∧ 0 ≤ j then (match vs[j.toNatClampNeg]? with
        | some (.ref v) => some (pc + 1, L, .ref v :: S', H)
        | _ => none) else none
      | some (.inr _) => none
      | none => if r = m_p0 + 3 ∧ 0 ≤ j ∧ j.toNatClampNeg < 256 then some (pc + 1, L, .ref (m_p0 + 5 + j.toNatClampNeg) :: S', H) else none)
    | _ => none)
  | .iastore => (match S with
    | .int v :: .int j :: .ref r :: S' => (m_wa H r 0 j (.int v)).map (fun H1 => (pc + 1, L, S', H1))
    | _ => none)
  | .bastore => (match S with
    | .int v :: .int j :: .ref r :: S' => (m_wa H r 1 j (.int (vp_nar .boolean v))).map (fun H1 => (pc + 1, L, S', H1))
    | _ => none)
  | .aastore => (match S with
    | .ref v :: .int j :: .ref r :: S' => (match m_get H v with
      | some (.inr (3, _)) => (m_wa H r 2 j (.ref v)).map (fun H1 => (pc + 1, L, S', H1))
      | some (.inr (6, _)) => (m_wa H r 5 j (.ref v)).map (fun H1 => (pc + 1, L, S', H1))
      | some _ => none
      | none => if m_box v = true then (m_wa H r 6 j (.ref v)).map (fun H1 => (pc + 1, L, S', H1)) else none)
    | _ => none)
  | .arraylength => (match S with
    | .ref 0 :: S' => some (pc + 1, L, .int (Int32.ofNat scr.length) :: S', H)
    | .ref r :: S' => (match m_get H r with
      | some (.inl (t, vs)) => if t < 7 then some (pc + 1, L, .int (Int32.ofNat vs.length) :: S', H) else none
      | some (.inr _) => none
      | none => (match m_preN r with
        | some n => some (pc + 1, L, .int (Int32.ofNat n) :: S', H)
        | none => none))
    | _ => none)
  | .new _ => (match m_cl[x]? with
    | some r => if m_rm1 H = true then some (pc + 3, L, .ref (H.length + 1) :: S, H ++ [.inr (x, (List.range r.2.2).map (fun k => defaultValue (m_fty x k)))]) else none
    | none => none)
  | .newarray _ => (match S with
    | .int n :: S' => if (0 ≤ n ∧ n.toNatClampNeg ≤ 1000) ∧ m_rm1 H = true then some (pc + 2, L, .ref (H.length + 1) :: S', H ++ [.inl (x, List.replicate n.toNatClampNeg (if x = 3 then .long 0 else if x = 4 then .double 0 else .int 0))]) else none
    | _ => none)
  | .anewarray _ => (match S with
    | .int n :: S' => if (0 ≤ n ∧ n.toNatClampNeg ≤ 1000) ∧ m_rm1 H = true then some (pc + 3, L, .ref (H.length + 1) :: S', H ++ [.inl (x, List.replicate n.toNatClampNeg .null)]) else none
    | _ => none)
  | .invokestatic _ => m_math w pc L S H
  | .invokevirtual _ => if w = 10 then (match S with
      | .ref r :: S' => (match m_get H r with
        | some (.inl (0, vs)) => if m_cat S' ≤ 8 ∧ m_rm1 H = true then some (pc + 3, L, .ref (H.length + 1) :: S', H ++ [.inl (0, vs)]) else none
        | _ => none)
      | _ => none)
    else if w = 13 then (match S with
      | .ref r :: S' => (match m_get H r with
        | some (.inl (6, _)) => if m_cat S' ≤ 8 then some (pc + 3, L, .ref (m_p0 + 4) :: S', H) else none
        | _ => none)
      | _ => none)
    else none
  | .invokespecial _ => if w = 7 then (match S with
    | .ref r :: S' => if m_cat S' ≤ 8 then some (pc + 3, L, S', H) else none
    | _ => none) else none
  | _ => none
def m_rts (i : Instr) (S : List Value) : Option (Option Value) := match i, S with
  | .ireturn, [.int v] => some (some (.int v))
  | .lreturn, [.long v] => some (some (.long v))
  | .dreturn, [.double v] => some (some (.double v))
  | .areturn, [.ref v] => some (some (.ref v))
  | .return_, [] => some none
  | _, _ => none
def m_rok (t : Option FieldType) (v : Option Value) : Bool := match t, v with
  | some .int, some (.int _) => true
  | some .boolean, some (.int v) => decide (narrow .boolean (.int v) = .int v)
  | some .long, some (.long _) => true
  | some .double, some (.double _) => true
  | some (.object _), some (.ref _) => true
  | some (.array _), some (.ref _) => true
  | none, none => true
  | _, _ => false
/-- the arguments off the stack, the receiver first, and what stays -/
def m_cut (x : Nat) (S : List Value) (H : List mC) : Option (List Value × List Value) :=
  if m_stc x = true then (if m_na x ≤ S.length ∧ m_cat (S.drop (m_na x)) ≤ 8 then some ((S.take (m_na x)).reverse, S.drop (m_na x)) else none)
  else match S.drop (m_na x) with
    | .ref r :: S' => (match m_rcv H r with
      | some ci => if ci = m_rc x ∧ m_cat S' ≤ 8 then some (.ref r :: (S.take (m_na x)).reverse, S') else none
      | none => none)
    | _ => none
abbrev mR : Type := Option Value × List mC
abbrev mF : Type := Nat → Nat → mL → List Value → List mC → Option mR
def m_inv : Instr → Bool
  | .invokevirtual _ => true
  | .invokestatic _ => true
  | .invokespecial _ => true
  | _ => false
def m_thr (v : Option Value) : Option Nat := match v with
  | some (.float k) => some k.toNat
  | _ => none
/-- where M catches k at pc: behind the store of what was caught, whose place is forgotten -/
def m_hd (M pc k : Nat) : Option (Nat × Nat) := match (m_hx M).find? (fun q => decide (q.1.1 ≤ pc) && decide (pc < q.1.2.1) && q.2.1 == k) with
  | some q => (match m_code M q.1.2.2.1 with
    | some (.astore_n s, _) => some (q.1.2.2.1 + 1, s)
    | some (.astore s, _) => some (q.1.2.2.1 + 2, s)
    | _ => none)
  | none => none
def m_ths (i : Instr) (w : Nat) : Bool := w == 1 && (match i with
  | .invokevirtual _ => true
  | .invokestatic _ => true
  | _ => false)
def m_drop (s : Nat) (L : mL) : mL := L.filter (fun q => !(q.1 == s) && !(q.1 + 1 == s && q.2.category == 2))
def m_st (scr : List Int32) (ih : mF) : mF := fun M pc L S H => match m_code M pc with
  | none => none
  | some (i, x, y, w, z) => if w = 8 then (match i, S with
      | .new _, [] => some (some (.float (UInt32.ofNat x)), H ++ [.inr (10 + x, [])])
      | _, _ => none)
    else if (w = 1 ∨ w = 2) ∧ m_inv i = true then (match m_cut x S H with
      | some (as, S') => if m_cat as ≤ m_nL x then (match ih x 0 (lv_args 0 as) [] H with
        | some (v, H1) => (match m_thr v with
          | none => ih M (pc + 3) L (v.toList ++ S') H1
          | some k => if m_ths i w = true then (if (m_hx M).isEmpty = true then some (v, H1) else (match m_hd M pc k with
            | some (q, s) => ih M q (m_drop s L) [] H1
            | none => none)) else none)
        | none => none) else none
      | none => none)
    else match m_rts i S with
      | some rv => if m_rok (m_rt M) rv = true then some (rv, H) else none
      | none => (match m_ex scr M pc i x y w z L S H with
        | some (pc', L', S', H') => ih M pc' L' S' H'
        | none => none)
def m_go (scr : List Int32) (n : Nat) : mF := Nat.rec (fun _ _ _ _ _ => none) (fun _ ih => m_st scr ih) n
theorem m_go_s (scr : List Int32) (n : Nat) : m_go scr (n + 1) = m_st scr (m_go scr n) := rfl
