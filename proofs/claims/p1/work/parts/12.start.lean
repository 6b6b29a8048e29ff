-- ===== end of PART A; then your names; then what follows =====
/-! THE CLAIM OUT OF ONE WALK OF THE LAW'S BODY. Your part is whole_start (and what it stands on); all else here is the same for every law, but numbers. -/
def R_law : String := "ParallaxSheetsLaw"
def lw_P (b : Addr) (xs : List Int32) (args : Array Value) (s : State) : Prop := args = #[.ref b] ∧ s.IntsAt b xs ∧ xs.length ≤ 7 ∧ (Jvm.Cond.and given_1 narrow_1).before args s = true
/-- what a walk over the start with the record d0 says of its end, said of the start itself -/
theorem lw_closed {s t : State} {o : Outcome} {d0 : Drawn} {L : List Loc} {k n : Nat} (hd0 : s.drawn.sameBut d0 lw_cs) (hv : ∃ v, o = .returned v) (hW : (s.setDrawn d0).WarmedH t.vm) (hs : (s.setDrawn d0).sameButNew ({ t with vm := s.vm } : State) L k n) : State.butDraws s t lw_cs (fun t1 => Framed s o t1 L k n) := by
  have h2 : t.drawn = d0 := congrArg State.drawn hs.1
  refine ⟨⟨hv, hW, State.sameButNew.setDrawn hs s.drawn⟩, ?_, by decide⟩
  rw [h2]
  exact hd0
def lw_Q (_ : Array Value) (s : State) (o : Outcome) (t : State) : Prop := o = .returned (some (.int 1)) ∧ State.butDraws s t lw_cs (fun t1 => Framed s o t1 [] 600002 7302232)
def lw_Z (below : List Frame) (a : Array Value) (s : State) : State → Prop := fun t => ∃ o, t.status = .running ∧ Ended t below o ∧ lw_Q a s o t
/-- the law's own end, with 1 on the stack, nothing written that was there before, its room as the claim has it; d0: the record of draws at this point (at the entry s.drawn: begin with 'refine W.base ?_' and 'have hd0 := Drawn.sameBut.refl s.drawn lw_cs') -/
theorem lw_ret {p : Program} {l : Launch} {e : Env} {s : State} {m : MethodId} {below : List Frame} {meth : Method} {c : Code} {b : Nat} {d0 : Drawn} (hd0 : s.drawn.sameBut d0 lw_cs) (hx : p.tables.exec = Jvm.exec) (hb : c.code = code) (hr : meth.sig.returnType = ret) (hlocks : meth.locks = false) {pc : Nat} {H : Heap} {ls : Array Slot} (hdg : decode code pc = .ok (.ireturn, 1)) : W p l e room_1 (s.setDrawn d0) m #[Value.ref b] below meth c H [] 600002 7302232 (lw_Z below #[Value.ref b] s) (F0 m pc ls [.int 1]) := by
  intro T hT X
  obtain ⟨fs, hret, hrun, hended, hW, hframe⟩ := X.leave (v := some (.int 1)) (hlocks := hlocks) (fun h => by rw [hr] at h; cases h)
  have hmeth' : T.vm.method? m = some meth := X.method'
  refine ⟨T.setFrames fs, ?_, .returned (some (.int 1)), hrun, hended, rfl, lw_closed hd0 ⟨_, rfl⟩ hW hframe⟩
  jvm_step X.here [X.here.top, hx, hb, hdg, hmeth', hr, ret, narrow_b1]
  (try refine ⟨rfl, ?_⟩); (try refine ⟨rfl, ?_⟩)
  first | (intro acts; rw [hret _ acts rfl rfl rfl]) | rw [hret _ _ rfl rfl rfl]
  exact Steps.refl _
/-- what holds at the law's entry: the machine, the code, the tables' words (any of lw_tbl by 'hts w (by decide +kernel)'), the script of L ints xs at the cell b, what the Statement gives of the start (any of its parts by flat_of_before) -/
def lw_At (p : Program) (s : State) (m : MethodId) (meth : Method) (c : Code) (b L : Nat) (xs : Nat → Int32) : Prop :=
  p.tables.exec = Jvm.exec ∧ c.code = code ∧ meth.sig.returnType = ret ∧ c.maxLocals = 9 ∧ s.vm.findClass R_law = some m.cls ∧ (∀ w ∈ lw_tbl, w.before #[Value.ref b] s = true) ∧ va_X b L xs s s.heap ∧ b < s.heap.size ∧ meth.locks = false ∧ (Jvm.Cond.and given_1 narrow_1).before #[Value.ref b] s = true

/-! the law's start: what the tables and the premises say, and the run -/
theorem m_arrOf {s : State} {cA : ClassId} {kA : Class} {comp : ClassId} {ty : FieldType} (h2 : s.vm.classes[cA]? = some kA) (h3 : kA.kind = .array comp ty) : ArrOfT s cA ty := fun n z => ⟨fun k h => (by cases h), kA, h2, comp, h3⟩
set_option maxRecDepth 100000 in
theorem m_w_arr : (.arrayClass .int : Cond) ∈ lw_tbl ∧ (.arrayClass .boolean : Cond) ∈ lw_tbl ∧ (.arrayClass .long : Cond) ∈ lw_tbl ∧ (.arrayClass .double : Cond) ∈ lw_tbl := by decide +kernel
set_option maxRecDepth 100000 in
theorem m_w_over : (.arrayOver (.object "ParallaxSheets$Sheet") : Cond) ∈ lw_tbl ∧ (.arrayOver (.object "ParallaxSheetsModel$Sheet") : Cond) ∈ lw_tbl ∧ (.arrayOver (.object "java/lang/Object") : Cond) ∈ lw_tbl := by decide +kernel
set_option maxRecDepth 100000 in
theorem m_w_ng : m_ng.all (fun u => decide (u ∈ lw_tbl)) = true := by decide +kernel
set_option maxRecDepth 100000 in
theorem m_w_lays : m_wp 0 (lw_tbl.getD 0 (.isInt (.int 0))) = true ∨ True := Or.inr trivial
set_option maxRecDepth 100000 in
theorem m_w_st : (List.range 4).all (fun x => decide ((.laysStatic (m_sn x).1 (m_sn x).2.1 (m_sn x).2.2 : Cond) ∈ lw_tbl) && decide ((.initialized (m_sn x).1 : Cond) ∈ lw_tbl)) = true ∧ (.laysStatic "java/lang/Integer$IntegerCache" "high" "I" : Cond) ∈ lw_tbl ∧ (.initialized "java/lang/Integer$IntegerCache" : Cond) ∈ lw_tbl ∧
  (.laysStatic Bundle.tN "UNASSIGNED_STACK" Bundle.steD : Cond) ∈ lw_tbl ∧ (.laysStatic Bundle.tN "SUPPRESSED_SENTINEL" Bundle.listD : Cond) ∈ lw_tbl ∧ (.initialized Bundle.tN : Cond) ∈ lw_tbl := by decide +kernel
set_option maxRecDepth 100000 in
theorem m_w_str : m_sites.all (fun q => decide ((.stringRef RX5 q.2.1 q.2.2.2.2 : Cond) ∈ lw_tbl)) = true := by decide +kernel
set_option maxRecDepth 100000 in
theorem m_w_cls0 : m_wp (m_cpl.getD 0 (0, 0, [])).1 (.instantiable RX0 5) = true := by decide +kernel
set_option maxRecDepth 100000 in
theorem m_w_cls1 : m_wp (m_cpl.getD 1 (0, 0, [])).1 (.instantiable RX1 8) = true := by decide +kernel
set_option maxRecDepth 100000 in
theorem m_w_cls2 : m_wp (m_cpl.getD 2 (0, 0, [])).1 (.instantiable RX2 4) = true := by decide +kernel
set_option maxRecDepth 100000 in
theorem m_w_cls3 : m_wp (m_cpl.getD 3 (0, 0, [])).1 (.instantiable RX3 3) = true := by decide +kernel
set_option maxRecDepth 100000 in
theorem m_w_cls4 : m_wp (m_cpl.getD 4 (0, 0, [])).1 (.instantiable RX4 3) = true := by decide +kernel
set_option maxRecDepth 100000 in
theorem m_w_cls5 : m_wp (m_cpl.getD 5 (0, 0, [])).1 (.instantiable RX5 6) = true := by decide +kernel
set_option maxRecDepth 100000 in
theorem m_w_cls6 : m_wp (m_cpl.getD 6 (0, 0, [])).1 (.instantiable RX6 3) = true := by decide +kernel
set_option maxRecDepth 100000 in
theorem m_w_cls7 : m_wp (m_cpl.getD 7 (0, 0, [])).1 (.instantiable RX7 5) = true := by decide +kernel
set_option maxRecDepth 100000 in
theorem m_w_cls8 : m_wp (m_cpl.getD 8 (0, 0, [])).1 (.instantiable RJ6 1) = true := by decide +kernel
set_option maxRecDepth 100000 in
theorem m_w_cls9 : m_wp (m_cpl.getD 9 (0, 0, [])).1 (.instantiable RJx4a65c 3) = true := by decide +kernel
section ST
variable {s : State} {b : Nat}
theorem m_nar (hgv : (Jvm.Cond.and given_1 narrow_1).before #[Value.ref b] s = true) (c : Cond) (h : decide (c ∈ flatC (Jvm.Cond.and given_1 narrow_1)) = true) : c.before #[Value.ref b] s = true := flat_of_before _ hgv c (of_decide_eq_true h)
theorem m_ltI {P : Nat → Prop} (n : Nat) (h : ∀ k ∈ List.range n, P k) (k : Nat) (hk : k < n) : P k := h k (List.mem_range.mpr hk)
def m_tC : Term := .static "ParallaxSheetsModel" "CROSS" "[I"
def m_tN : Term := .static "ParallaxSheetsModel" "NINE" "[I"
def m_tE : Term := .static "java/util/ArrayList" "DEFAULTCAPACITY_EMPTY_ELEMENTDATA" "[Ljava/lang/Object;"
def m_tQ : Term := .static "java/lang/Integer$IntegerCache" "cache" "[Ljava/lang/Integer;"
set_option maxRecDepth 100000 in
theorem m_n1 : decide ((.arrayOf m_tC .int : Cond) ∈ flatC (Jvm.Cond.and given_1 narrow_1)) = true ∧ decide ((.eq (.length m_tC) (.int 5) : Cond) ∈ flatC (Jvm.Cond.and given_1 narrow_1)) = true ∧ (List.range 5).all (fun j => decide ((.eq (.elem m_tC (.int (Int32.ofNat j))) (.int (m_iv (m_f1 j))) : Cond) ∈ flatC (Jvm.Cond.and given_1 narrow_1))) = true := by decide +kernel
set_option maxRecDepth 100000 in
theorem m_n2 : decide ((.arrayOf m_tN .int : Cond) ∈ flatC (Jvm.Cond.and given_1 narrow_1)) = true ∧ decide ((.eq (.length m_tN) (.int 9) : Cond) ∈ flatC (Jvm.Cond.and given_1 narrow_1)) = true ∧ (List.range 9).all (fun j => decide ((.eq (.elem m_tN (.int (Int32.ofNat j))) (.int (m_iv (m_f2 j))) : Cond) ∈ flatC (Jvm.Cond.and given_1 narrow_1))) = true := by decide +kernel
set_option maxRecDepth 100000 in
theorem m_n0 : decide ((.arrayOf m_tE (.object "java/lang/Object") : Cond) ∈ flatC (Jvm.Cond.and given_1 narrow_1)) = true ∧ decide ((.eq (.length m_tE) (.int 0) : Cond) ∈ flatC (Jvm.Cond.and given_1 narrow_1)) = true := by decide +kernel
set_option maxRecDepth 100000 in
theorem m_n3 : decide ((.arrayOf m_tQ (.object "java/lang/Integer") : Cond) ∈ flatC (Jvm.Cond.and given_1 narrow_1)) = true ∧ decide ((.eq (.length m_tQ) (.int 256) : Cond) ∈ flatC (Jvm.Cond.and given_1 narrow_1)) = true ∧
  decide ((.all m_tQ (.and (.exactly (.elem m_tQ (.index 0)) "java/lang/Integer") (.eq (.field (.elem m_tQ (.index 0)) "java/lang/Integer" "value" "I") (.sub (.index 0) (.int 128)))) : Cond) ∈ flatC (Jvm.Cond.and given_1 narrow_1)) = true := by decide +kernel
set_option maxRecDepth 100000 in
theorem m_n4 : decide ((.eq (.static "java/lang/Integer$IntegerCache" "high" "I") (.int 127) : Cond) ∈ flatC (Jvm.Cond.and given_1 narrow_1)) = true ∧ decide ((.isRef (.static Bundle.tN "UNASSIGNED_STACK" Bundle.steD) : Cond) ∈ flatC (Jvm.Cond.and given_1 narrow_1)) = true ∧ decide ((.isRef (.static Bundle.tN "SUPPRESSED_SENTINEL" Bundle.listD) : Cond) ∈ flatC (Jvm.Cond.and given_1 narrow_1)) = true ∧ decide ((.isRef (.mirror "[Ljava/lang/Object;") : Cond) ∈ flatC (Jvm.Cond.and given_1 narrow_1)) = true := by decide +kernel
set_option maxRecDepth 100000 in
theorem m_n5 : m_sites.all (fun q => decide ((.exactly (.string RX5 q.2.1) "java/lang/String" : Cond) ∈ flatC (Jvm.Cond.and given_1 narrow_1))) = true := by decide +kernel
set_option maxRecDepth 100000 in
theorem m_n6 : (List.range 3).all (fun k => (List.range 3).all (fun k' => decide (k = k') || decide ((.not (.castable (m_exn k) (m_exn k')) : Cond) ∈ flatC (Jvm.Cond.and given_1 narrow_1)))) = true := by decide +kernel
theorem m_w_exn0 : (List.range 3).all (fun k => m_gw.any (fun w => decide (w = .instantiable (m_exn k) 6))) = true := by decide +kernel
theorem m_w_exn (k : Nat) (hk : k < 3) : (.instantiable (m_exn k) 6 : Cond) ∈ m_gw := by
  obtain ⟨w, hw, he⟩ := List.any_eq_true.mp (List.all_eq_true.mp m_w_exn0 k (List.mem_range.mpr hk))
  rw [← of_decide_eq_true he]
  exact hw
theorem m_known (hts : ∀ w ∈ lw_tbl, w.before #[Value.ref b] s = true) (hgv : (Jvm.Cond.and given_1 narrow_1).before #[Value.ref b] s = true) : ∃ (D : va_G) (dt : Nat → ClassId) (P : Nat → Nat), m_Kn D dt P s ∧ m_Px s.heap.size P s s.heap := by
  have hA : ∀ a : Nat, a < s.heap.size → ¬ (fun q => s.heap.size ≤ q) a := fun a h q => by omega
  have hg : ∀ w ∈ m_gw, w.before #[Value.ref b] s = true := fun w hw => hts w (List.mem_filter.mp hw).1
  obtain ⟨c0, i0, k0⟩ := u_known hg m_clok0.1 (hg _ (m_wp_in m_w_cls0))
  obtain ⟨c1, i1, k1⟩ := u_known hg m_clok1.1 (hg _ (m_wp_in m_w_cls1))
  obtain ⟨c2, i2, k2⟩ := u_known hg m_clok2.1 (hg _ (m_wp_in m_w_cls2))
  obtain ⟨c3, i3, k3⟩ := u_known hg m_clok3.1 (hg _ (m_wp_in m_w_cls3))
  obtain ⟨c4, i4, k4⟩ := u_known hg m_clok4.1 (hg _ (m_wp_in m_w_cls4))
  obtain ⟨c5, i5, k5⟩ := u_known hg m_clok5.1 (hg _ (m_wp_in m_w_cls5))
  obtain ⟨c6, i6, k6⟩ := u_known hg m_clok6.1 (hg _ (m_wp_in m_w_cls6))
  obtain ⟨c7, i7, k7⟩ := u_known hg m_clok7.1 (hg _ (m_wp_in m_w_cls7))
  obtain ⟨c8, i8, k8⟩ := u_known hg m_clok8.1 (hg _ (m_wp_in m_w_cls8))
  obtain ⟨c9, i9, k9⟩ := u_known hg m_clok9.1 (hg _ (m_wp_in m_w_cls9))
  obtain ⟨c10, i10, k10⟩ := u_known (n := 6) hg (m_clokE 10 (m_exn 0)).1 (hg _ (m_w_exn 0 (by omega)))
  obtain ⟨c11, i11, k11⟩ := u_known (n := 6) hg (m_clokE 11 (m_exn 1)).1 (hg _ (m_w_exn 1 (by omega)))
  obtain ⟨c12, i12, k12⟩ := u_known (n := 6) hg (m_clokE 12 (m_exn 2)).1 (hg _ (m_w_exn 2 (by omega)))
  obtain ⟨a0, ka0, q0, f0, g0, h0⟩ := Cond.arrayClass_spec (hts _ m_w_arr.1)
  obtain ⟨a1, ka1, q1, f1, g1, h1⟩ := Cond.arrayClass_spec (hts _ m_w_arr.2.1)
  obtain ⟨a3, ka3, q3, f3, g3, h3⟩ := Cond.arrayClass_spec (hts _ m_w_arr.2.2.1)
  obtain ⟨a4, ka4, q4, f4, g4, h4⟩ := Cond.arrayClass_spec (hts _ m_w_arr.2.2.2)
  obtain ⟨q2, a2, ka2, e12, e22, g2, h2, f2⟩ := Cond.arrayOver_spec (hts _ m_w_over.1)
  obtain ⟨q5, a5, ka5, e15, e25, g5, h5, f5⟩ := Cond.arrayOver_spec (hts _ m_w_over.2.1)
  obtain ⟨q6, a6, ka6, e16, e26, g6, h6, f6⟩ := Cond.arrayOver_spec (hts _ m_w_over.2.2)
  have nar := m_nar hgv
  obtain ⟨t0, ht0, T0⟩ := va_Tof (tm := m_tE) (ty := .object "java/lang/Object") (N := 0) (f := fun _ => .null) (A := fun q => s.heap.size ≤ q) (by decide) (nar _ m_n0.1) (va_eqt (nar _ m_n0.2)) (fun j h => absurd h (Nat.not_lt_zero j)) hA
  obtain ⟨t1, ht1, T1⟩ := va_Tof (tm := m_tC) (ty := .int) (N := 5) (f := m_f1) (A := fun q => s.heap.size ≤ q) (by decide) (nar _ m_n1.1) (va_eqt (nar _ m_n1.2.1)) (fun j h => by
    have e := va_eqt (nar _ (List.all_eq_true.mp m_n1.2.2 j (List.mem_range.mpr h)))
    rw [e]
    match j, h with
    | 0, _ => rfl
    | 1, _ => rfl
    | 2, _ => rfl
    | 3, _ => rfl
    | 4, _ => rfl
    | n + 5, h => omega) hA
  obtain ⟨t2, ht2, T2⟩ := va_Tof (tm := m_tN) (ty := .int) (N := 9) (f := m_f2) (A := fun q => s.heap.size ≤ q) (by decide) (nar _ m_n2.1) (va_eqt (nar _ m_n2.2.1)) (fun j h => by
    have e := va_eqt (nar _ (List.all_eq_true.mp m_n2.2.2 j (List.mem_range.mpr h)))
    rw [e]
    match j, h with
    | 0, _ => rfl
    | 1, _ => rfl
    | 2, _ => rfl
    | 3, _ => rfl
    | 4, _ => rfl
    | 5, _ => rfl
    | 6, _ => rfl
    | 7, _ => rfl
    | 8, _ => rfl
    | n + 9, h => omega) hA
  have hlen3 : (Term.length m_tQ).eval #[Value.ref b] s none [] s = some (.int (Int32.ofNat 256)) := va_eqt (nar _ m_n3.2.1)
  obtain ⟨ad, hC, hel⟩ := vb_Cof (st := m_tQ) (A := fun q => s.heap.size ≤ q) rfl hlen3 (nar _ m_n3.2.2) hA
  obtain ⟨t3, ht3, T3⟩ := va_Tof (tm := m_tQ) (ty := .object "java/lang/Integer") (N := 256) (f := fun k => .ref (ad k)) (A := fun q => s.heap.size ≤ q) (by decide) (nar _ m_n3.1) hlen3 hel hA
  obtain ⟨mi, hmi⟩ := va_Mi.of (nar _ m_n4.2.2.2)
  have hst := List.all_eq_true.mp m_w_st.1
  have hP5 : ∀ k : Nat, (fun i : Nat => if i = 0 then t0 else if i = 1 then t1 else if i = 2 then t2 else if i = 3 then t3 else if i = 4 then mi else ad (i - 5)) (5 + k) = ad k := by
    intro k
    show (if 5 + k = 0 then t0 else _) = _
    rw [if_neg (by omega), if_neg (by omega), if_neg (by omega), if_neg (by omega), if_neg (by omega), Nat.add_sub_cancel_left]
  have zof : ∀ (x : Nat) (t : Nat), x < 4 → (Term.static (m_sn x).1 (m_sn x).2.1 (m_sn x).2.2).eval #[Value.ref b] s none [] s = some (.ref t) → va_Z (m_sn x).1 (m_sn x).2.1 (m_sn x).2.2 (.ref t) (fun q => s.heap.size ≤ q) s s.heap := by
    intro x t hx ht
    have hw := hst x (List.mem_range.mpr hx)
    simp only [Bool.and_eq_true, decide_eq_true_eq] at hw
    exact va_Zref (hts _ hw.1) (hts _ hw.2) ht hA
  refine ⟨(fun ci => match ci with | 0 => c0 | 1 => c1 | 2 => c2 | 3 => c3 | 4 => c4 | 5 => c5 | 6 => c6 | 7 => c7 | 8 => c8 | 9 => c9 | 10 => c10 | 11 => c11 | _ => c12, fun ci => match ci with | 0 => i0 | 1 => i1 | 2 => i2 | 3 => i3 | 4 => i4 | 5 => i5 | 6 => i6 | 7 => i7 | 8 => i8 | 9 => i9 | 10 => i10 | 11 => i11 | _ => i12), fun t => match t with | 0 => a0 | 1 => a1 | 2 => a2 | 3 => a3 | 4 => a4 | 5 => a5 | _ => a6,
    fun i => if i = 0 then t0 else if i = 1 then t1 else if i = 2 then t2 else if i = 3 then t3 else if i = 4 then mi else ad (i - 5), ⟨⟨fun c q hq => ?_, fun k q hk => ?_⟩, fun u hu => ?_, ⟨va_AO.of (hts _ m_w_over.1), va_AO.of (hts _ m_w_over.2.1), va_AO.of (hts _ m_w_over.2.2)⟩, hmi, fun q hq => ?_, fun k k' hk hk' hne => ?_⟩, ?_⟩
  · match c, hq with
    | 0, hq => cases hq; exact k0
    | 1, hq => cases hq; exact k1
    | 2, hq => cases hq; exact k2
    | 3, hq => cases hq; exact k3
    | 4, hq => cases hq; exact k4
    | 5, hq => cases hq; exact k5
    | 6, hq => cases hq; exact k6
    | 7, hq => cases hq; exact k7
    | 8, hq => cases hq; exact k8
    | 9, hq => cases hq; exact k9
    | 10, hq => cases hq; exact k10
    | 11, hq => cases hq; exact k11
    | 12, hq => cases hq; exact k12
    | n + 13, hq => cases hq
  · match k, hk with
    | 0, hk => cases hk; exact ⟨m_arrOf g0 h0, f0⟩
    | 1, hk => cases hk; exact ⟨m_arrOf g1 h1, f1⟩
    | 2, hk => cases hk; exact ⟨m_arrOf g2 h2, ka2, q2, g2, h2, e12, f2⟩
    | 3, hk => cases hk; exact ⟨m_arrOf g3 h3, f3⟩
    | 4, hk => cases hk; exact ⟨m_arrOf g4 h4, f4⟩
    | 5, hk => cases hk; exact ⟨m_arrOf g5 h5, ka5, q5, g5, h5, e15, f5⟩
    | 6, hk => cases hk; exact ⟨m_arrOf g6 h6, ka6, q6, g6, h6, e16, f6⟩
    | n + 7, hk => cases hk
  · have hm : u ∈ lw_tbl := of_decide_eq_true (List.all_eq_true.mp m_w_ng u hu)
    rcases m_ng_form u hu with ⟨a, i, x, h, rfl⟩ | ⟨a, c, rfl⟩ | ⟨x, rfl⟩
    · exact va_Nw.of rfl (hts _ hm)
    · exact va_Nw.of rfl (hts _ hm)
    · exact va_Nw.of rfl (hts _ hm)
  · have hm := of_decide_eq_true (List.all_eq_true.mp m_w_str q hq)
    obtain ⟨a, c, cell, k, e1, -⟩ := Cond.exactly_spec (nar _ (List.all_eq_true.mp m_n5 q hq))
    exact ⟨a, vk_R.of (hts _ hm) e1⟩
  · have h9 := List.all_eq_true.mp (List.all_eq_true.mp m_n6 k (List.mem_range.mpr hk)) k' (List.mem_range.mpr hk')
    simp only [Bool.or_eq_true, decide_eq_true_eq] at h9
    rcases h9 with h9 | h9
    · exact absurd h9 hne
    · exact va_Nc.of (nar _ (decide_eq_true h9))
  · refine ⟨fun x hx => ?_, va_Zof (hts _ m_w_st.2.1) (hts _ m_w_st.2.2.1) (va_eqi (nar _ m_n4.1)) hA, T0, T1, T2, by simp only [hP5]; exact T3, by simp only [hP5]; exact hC, vx_Zqof (hts _ m_w_st.2.2.2.1) (hts _ m_w_st.2.2.2.2.2) (nar _ m_n4.2.1) hA, vx_Zqof (hts _ m_w_st.2.2.2.2.1) (hts _ m_w_st.2.2.2.2.2) (nar _ m_n4.2.2.1) hA⟩
    match x, hx with
    | 0, hx => exact zof 0 t0 hx ht0
    | 1, hx => exact zof 1 t1 hx ht1
    | 2, hx => exact zof 2 t2 hx ht2
    | 3, hx => exact zof 3 t3 hx ht3
    | n + 4, hx => omega
end ST
/-- the law's whole run over the data: on every script it answers 1, within the room -/
def m_Law (scr : List Int32) : Prop := ∃ (n : Nat) (AHf : List mC), m_go scr n 244 0 [(0, .ref 0)] [] [] = some (some (.int 1), AHf) ∧ AHf.length ≤ 600002 ∧ m_sl AHf ≤ 7302232
set_option maxHeartbeats 4000000 in
theorem m_start (hlaw : ∀ scr : List Int32, scr.length ≤ 7 → m_Law scr) {p : Program} {e : Env} {s : State} {m : MethodId} {below : List Frame} {meth : Method} {c : Code} (l : Launch) (hflags : l.flags = flags0) {b L : Nat} {xs : Nat → Int32} (hL : L ≤ 7) (C0 : lw_At p s m meth c b L xs) :
    W p l e room_1 s m #[Value.ref b] below meth c s.heap [] 0 0 (lw_Z below #[Value.ref b] s) (entryFrame m ([Value.ref b] : List Value).toArray 9) := by
  obtain ⟨hx, hb, hr, hml, hown, hts, hX, hbl, hlocks, hgv⟩ := C0
  have hl0 : l.stackTraces = false := by
    simp only [Launch.stackTraces, hflags]
    decide +kernel
  obtain ⟨D, dt, P, hK, hPx⟩ := m_known hts hgv
  obtain ⟨n, AHf, hgo, hc1, hs1⟩ := hlaw ((List.range L).map xs) (by simpa using hL)
  have hX2 : va_X b ((List.range L).map xs).length (fun j => ((List.range L).map xs).getD j 0) s s.heap := by
    obtain ⟨scr, h1, h2, h3, h4, h5⟩ := hX
    refine ⟨scr, h1, h2, h3, by simpa using h4, fun j hj => ?_⟩
    have hj2 : j < L := by simpa using hj
    rw [h5 j hj2]
    show some (Value.int (xs j)) = some (Value.int (List.getD _ _ _))
    rw [List.getD_eq_getElem?_getD, List.getElem?_map, List.getElem?_range hj2]
    rfl
  rw [lg_entry_eq]
  have hl := lv_entry ([.ref b]) (n := 9) (Nat.le_of_ble_eq_true rfl)
  generalize (lg_sl ([.ref b]) ++ List.replicate (9 - (lg_sl ([.ref b])).length) Slot.unset).toArray = ls at hl ⊢
  refine m_snd m_okAll m_okmAll ((List.range L).map xs) n p l e room_1 s m #[Value.ref b] below meth c s.heap [] 0 0 _ D dt b s.heap.size P 244 0 0 0 ls [(0, .ref 0)] [] [] AHf _ hl0 (by omega) hgo
    ⟨hx, hb, hml, fun w hw => hts w (List.mem_filter.mp hw).1, hown, fun h => absurd h (by decide +kernel), hK, hX2, hbl, Nat.le_refl _, hPx⟩ (fun _ => rfl) ⟨hl, fun k q hk => (by cases hk), va_S.rf, rfl, rfl⟩
    (by decide +kernel) (by decide +kernel) (show AHf.length ≤ 600002 + 0 from hc1) (show m_sl AHf ≤ 7302232 + 0 from hs1) (fun h => by cases h) (fun k hk => by cases hk) ?_
  intro i pc' L1 S1 ls' H' locs' cells' slots' z hdec hrts hrok hAt
  obtain ⟨hl', hP', hS', hc', hs'⟩ := hAt
  have hf2 : ∀ q ∈ locs', s.heap.size ≤ q.base := hS'.2.2
  refine va_forget hf2 ?_
  refine W.widen (k := 600002) (n := 7302232) (by omega) (by omega) ?_
  refine W.base ?_
  unfold m_rts at hrts
  split at hrts
  · cases hrts
    exact lw_ret (Drawn.sameBut.refl s.drawn lw_cs) hx hb hr hlocks hdec
  all_goals cases hrts
