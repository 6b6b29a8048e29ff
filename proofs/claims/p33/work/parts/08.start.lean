-- ===== end of PART A; then your names; then what follows =====
/-! THE CLAIM OUT OF ONE WALK OF THE LAW'S BODY. Your part is whole_start (and what it stands on); all else here is the same for every law, but numbers. -/
def R_law : String := "ParallaxSheetsLaw"
def lw_P (b : Addr) (xs : List Int32) (args : Array Value) (s : State) : Prop := args = #[.ref b] ∧ s.IntsAt b xs ∧ xs.length ≤ 260 ∧ (Jvm.Cond.and given_1 narrow_1).before args s = true
/-- what a walk over the start with the record d0 says of its end, said of the start itself -/
theorem lw_closed {s t : State} {o : Outcome} {d0 : Drawn} {L : List Loc} {k n : Nat} (hd0 : s.drawn.sameBut d0 lw_cs) (hv : ∃ v, o = .returned v) (hW : (s.setDrawn d0).WarmedH t.vm) (hs : (s.setDrawn d0).sameButNew ({ t with vm := s.vm } : State) L k n) : State.butDraws s t lw_cs (fun t1 => Framed s o t1 L k n) := by
  have h2 : t.drawn = d0 := congrArg State.drawn hs.1
  refine ⟨⟨hv, hW, State.sameButNew.setDrawn hs s.drawn⟩, ?_, by decide⟩
  rw [h2]
  exact hd0
def lw_Q (_ : Array Value) (s : State) (o : Outcome) (t : State) : Prop := o = .returned (some (.int 1)) ∧ State.butDraws s t lw_cs (fun t1 => Framed s o t1 [] 600074 7301550)
def lw_Z (below : List Frame) (a : Array Value) (s : State) : State → Prop := fun t => ∃ o, t.status = .running ∧ Ended t below o ∧ lw_Q a s o t
/-- the law's own end, with 1 on the stack, nothing written that was there before, its room as the claim has it; d0: the record of draws at this point (at the entry s.drawn: begin with 'refine W.base ?_' and 'have hd0 := Drawn.sameBut.refl s.drawn lw_cs') -/
theorem lw_ret {p : Program} {l : Launch} {e : Env} {s : State} {m : MethodId} {below : List Frame} {meth : Method} {c : Code} {b : Nat} {d0 : Drawn} (hd0 : s.drawn.sameBut d0 lw_cs) (hx : p.tables.exec = Jvm.exec) (hb : c.code = code) (hr : meth.sig.returnType = ret) (hlocks : meth.locks = false) {pc : Nat} {H : Heap} {ls : Array Slot} (hdg : decode code pc = .ok (.ireturn, 1)) : W p l e room_1 (s.setDrawn d0) m #[Value.ref b] below meth c H [] 600074 7301550 (lw_Z below #[Value.ref b] s) (F0 m pc ls [.int 1]) := by
  intro T hT X
  obtain ⟨fs, hret, hrun, hended, hW, hframe⟩ := X.leave (v := some (.int 1)) (hlocks := hlocks) (fun h => by rw [hr] at h; cases h)
  have hmeth' : T.vm.method? m = some meth := X.method'
  refine ⟨T.setFrames fs, ?_, .returned (some (.int 1)), hrun, hended, rfl, lw_closed hd0 ⟨_, rfl⟩ hW hframe⟩
  jvm_step X.here [X.here.top, hx, hb, hdg, hmeth', hr, ret, narrow_b1]
  (try refine ⟨rfl, ?_⟩); (try refine ⟨rfl, ?_⟩)
  first | (intro acts; rw [hret _ acts rfl rfl rfl]) | rw [hret _ _ rfl rfl rfl]
  exact Steps.refl _
/-- what holds at the law's entry: the machine, the code, the tables' words (any of lw_tbl by 'hts w (by decide +kernel)'), the script of L ints xs at the cell b, what the Statement gives of the start (any of its parts by flat_of_before) -/
def lw_At (p : Program) (s : State) (m : MethodId) (meth : Method) (c : Code) (b L : Nat) (xs : Nat → Int32) : Prop :=
  p.tables.exec = Jvm.exec ∧ c.code = code ∧ meth.sig.returnType = ret ∧ c.maxLocals = 13 ∧ s.vm.findClass R_law = some m.cls ∧ (∀ w ∈ lw_tbl, w.before #[Value.ref b] s = true) ∧ va_X b L xs s s.heap ∧ b < s.heap.size ∧ meth.locks = false ∧ (Jvm.Cond.and given_1 narrow_1).before #[Value.ref b] s = true

/-! the law's start: what the tables say of the classes, and the run -/
theorem m_arrOf {s : State} {cA : ClassId} {kA : Class} {comp : ClassId} {ty : FieldType} (h2 : s.vm.classes[cA]? = some kA) (h3 : kA.kind = .array comp ty) : ArrOfT s cA ty := fun n z => ⟨fun k h => (by cases h), kA, h2, comp, h3⟩
set_option maxRecDepth 100000 in
theorem m_w_arr : m_wp 81 (.arrayClass .int) = true ∧ m_wp 154 (.arrayClass .boolean) = true := by decide +kernel
set_option maxRecDepth 100000 in
theorem m_w_over : lw_tbl[54]? = some (.arrayOver (.object "ParallaxSheets$Sheet")) := by decide +kernel
set_option maxRecDepth 100000 in
theorem m_w_nest : m_nest.all (fun u => decide (u ∈ lw_tbl)) = true := by decide +kernel
set_option maxRecDepth 100000 in
theorem m_w_cls : m_wp (m_cpl.getD 0 (0, 0, [])).1 (.instantiable RX0 5) = true ∧ m_wp (m_cpl.getD 1 (0, 0, [])).1 (.instantiable RX1 8) = true ∧ m_wp (m_cpl.getD 2 (0, 0, [])).1 (.instantiable RX2 4) = true ∧ m_wp (m_cpl.getD 3 (0, 0, [])).1 (.instantiable RX3 3) = true ∧ m_wp (m_cpl.getD 4 (0, 0, [])).1 (.instantiable RX4 3) = true ∧ m_wp (m_cpl.getD 5 (0, 0, [])).1 (.instantiable RX5 6) = true := by decide +kernel
theorem m_known {s : State} {args : Array Value} (hts : ∀ w ∈ lw_tbl, w.before args s = true) : ∃ (D : va_G) (dt : Nat → ClassId), m_Kn D dt s := by
  have hg : ∀ w ∈ m_gw, w.before args s = true := fun w hw => hts w (List.mem_filter.mp hw).1
  obtain ⟨w0, w1, w2, w3, w4, w5⟩ := m_w_cls
  obtain ⟨c0, i0, k0⟩ := u_known hg m_clok0.1 (hg _ (m_wp_in w0))
  obtain ⟨c1, i1, k1⟩ := u_known hg m_clok1.1 (hg _ (m_wp_in w1))
  obtain ⟨c2, i2, k2⟩ := u_known hg m_clok2.1 (hg _ (m_wp_in w2))
  obtain ⟨c3, i3, k3⟩ := u_known hg m_clok3.1 (hg _ (m_wp_in w3))
  obtain ⟨c4, i4, k4⟩ := u_known hg m_clok4.1 (hg _ (m_wp_in w4))
  obtain ⟨c5, i5, k5⟩ := u_known hg m_clok5.1 (hg _ (m_wp_in w5))
  obtain ⟨a0, ka0, q0, f0, g0, h0⟩ := Cond.arrayClass_spec (hg _ (m_wp_in m_w_arr.1))
  obtain ⟨a1, ka1, q1, f1, g1, h1⟩ := Cond.arrayClass_spec (hg _ (m_wp_in m_w_arr.2))
  have hov := hts _ (List.mem_of_getElem? m_w_over)
  have hao : va_AO "ParallaxSheets$Sheet" s := va_AO.of hov
  obtain ⟨q2, a2, ka2, e1, e2, g2, h2, f2⟩ := Cond.arrayOver_spec hov
  refine ⟨(fun ci => match ci with | 0 => c0 | 1 => c1 | 2 => c2 | 3 => c3 | 4 => c4 | _ => c5, fun ci => match ci with | 0 => i0 | 1 => i1 | 2 => i2 | 3 => i3 | 4 => i4 | _ => i5), fun t => match t with | 0 => a0 | 1 => a1 | _ => a2, ⟨fun c q hq => ?_, fun k q hk => ?_⟩, fun u hu => ?_, hao⟩
  · match c, hq with
    | 0, hq => cases hq; exact k0
    | 1, hq => cases hq; exact k1
    | 2, hq => cases hq; exact k2
    | 3, hq => cases hq; exact k3
    | 4, hq => cases hq; exact k4
    | 5, hq => cases hq; exact k5
    | n + 6, hq => cases hq
  · match k, hk with
    | 0, hk => cases hk; exact ⟨m_arrOf g0 h0, f0⟩
    | 1, hk => cases hk; exact ⟨m_arrOf g1 h1, f1⟩
    | 2, hk => cases hk; exact ⟨m_arrOf g2 h2, ka2, q2, g2, h2, e1, f2⟩
    | n + 3, hk => cases hk
  · have hm : u ∈ lw_tbl := of_decide_eq_true (List.all_eq_true.mp m_w_nest u hu)
    obtain ⟨a, i, x, h, rfl⟩ := m_nest_form u hu
    exact va_Nw.of rfl (hts _ hm)
/-- the law's whole run over the data: on every script it answers 1, within the room -/
def m_Law (scr : List Int32) : Prop := ∃ (n : Nat) (AHf : List mC), m_go scr n 102 0 [(0, .ref 0)] [] [] = some (some (.int 1), AHf) ∧ AHf.length ≤ 600074 ∧ m_sl AHf ≤ 7301550
set_option maxHeartbeats 4000000 in
theorem m_start (hlaw : ∀ scr : List Int32, scr.length ≤ 260 → m_Law scr) {p : Program} {e : Env} {s : State} {m : MethodId} {below : List Frame} {meth : Method} {c : Code} (l : Launch) {b L : Nat} {xs : Nat → Int32} (hL : L ≤ 260) (C0 : lw_At p s m meth c b L xs) :
    W p l e room_1 s m #[Value.ref b] below meth c s.heap [] 0 0 (lw_Z below #[Value.ref b] s) (entryFrame m ([Value.ref b] : List Value).toArray 13) := by
  obtain ⟨hx, hb, hr, hml, hown, hts, hX, hbl, hlocks, hgv⟩ := C0
  obtain ⟨D, dt, hK⟩ := m_known hts
  obtain ⟨n, AHf, hgo, hc1, hs1⟩ := hlaw ((List.range L).map xs) (by simpa using hL)
  have hX2 : va_X b ((List.range L).map xs).length (fun j => ((List.range L).map xs).getD j 0) s s.heap := by
    obtain ⟨scr, h1, h2, h3, h4, h5⟩ := hX
    refine ⟨scr, h1, h2, h3, by simpa using h4, fun j hj => ?_⟩
    have hj2 : j < L := by simpa using hj
    rw [h5 j hj2]
    show some (Value.int (xs j)) = some (Value.int (List.getD _ _ _))
    rw [List.getD_eq_getElem?_getD, List.getElem?_map, List.getElem?_range hj2]
    rfl
  rw [lg_entry_eq]
  have hl := lv_entry ([.ref b]) (n := 13) (Nat.le_of_ble_eq_true rfl)
  generalize (lg_sl ([.ref b]) ++ List.replicate (13 - (lg_sl ([.ref b])).length) Slot.unset).toArray = ls at hl ⊢
  refine m_snd m_okAll m_okmAll ((List.range L).map xs) n p l e room_1 s m #[Value.ref b] below meth c s.heap [] 0 0 _ D dt b s.heap.size 102 0 0 0 ls [(0, .ref 0)] [] [] AHf _ (by omega) hgo
    ⟨hx, hb, hml, fun w hw => hts w (List.mem_filter.mp hw).1, hown, fun h => absurd h (by decide +kernel), hK, hX2, hbl, Nat.le_refl _⟩ rfl ⟨hl, fun k q hk => (by cases hk), va_S.rf, rfl, rfl⟩
    (by decide +kernel) (by decide +kernel) (show AHf.length ≤ 600074 + 0 from hc1) (show m_sl AHf ≤ 7301550 + 0 from hs1) ?_
  intro i pc' L1 S1 ls' H' locs' cells' slots' z hdec hrts hrok hAt
  obtain ⟨hl', hP', hS', hc', hs'⟩ := hAt
  have hf2 : ∀ q ∈ locs', s.heap.size ≤ q.base := hS'.2.2
  refine va_forget hf2 ?_
  refine W.widen (k := 600074) (n := 7301550) (by omega) (by omega) ?_
  refine W.base ?_
  unfold m_rts at hrts
  split at hrts
  · cases hrts
    exact lw_ret (Drawn.sameBut.refl s.drawn lw_cs) hx hb hr hlocks hdec
  all_goals cases hrts
