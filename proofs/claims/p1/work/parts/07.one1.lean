/-! the tables' facts, the frame's facts, one instruction -/
theorem m_lays (C : String) (T : u_T) (n : Nat) (pl : List Nat) (h : (List.range n).all (fun k => m_wp (pl.getD k 0) (u_lay C T k)) = true) : ∀ w ∈ u_ws C T n, w ∈ m_gw := by
  intro w hw
  obtain ⟨k, hk, rfl⟩ := List.mem_map.mp hw
  exact m_wp_in (List.all_eq_true.mp h k hk)
def m_clok (ci : Nat) (r : vw_C) : Prop := (∀ w ∈ u_ws r.1 r.2.1 r.2.2, w ∈ m_gw) ∧ (∀ k, k < r.2.2 → parseFieldDescriptor (r.2.1 k).2.2.1 = some (m_fty ci k)) ∧ ∀ a, a < r.2.2 → ∀ b, b < r.2.2 → a ≠ b → (r.2.1 a).2.1 ≠ (r.2.1 b).2.1
set_option maxRecDepth 100000 in
theorem m_clok0 : m_clok 0 (RX0, TX0, 5) := ⟨m_lays RX0 TX0 5 ((m_cpl.getD 0 (0, 0, [])).2.2) (by decide +kernel), tyX0_ok, nmX0⟩
set_option maxRecDepth 100000 in
theorem m_clok1 : m_clok 1 (RX1, TX1, 8) := ⟨m_lays RX1 TX1 8 ((m_cpl.getD 1 (0, 0, [])).2.2) (by decide +kernel), tyX1_ok, nmX1⟩
set_option maxRecDepth 100000 in
theorem m_clok2 : m_clok 2 (RX2, TX2, 4) := ⟨m_lays RX2 TX2 4 ((m_cpl.getD 2 (0, 0, [])).2.2) (by decide +kernel), tyX2_ok, nmX2⟩
set_option maxRecDepth 100000 in
theorem m_clok3 : m_clok 3 (RX3, TX3, 3) := ⟨m_lays RX3 TX3 3 ((m_cpl.getD 3 (0, 0, [])).2.2) (by decide +kernel), tyX3_ok, nmX3⟩
set_option maxRecDepth 100000 in
theorem m_clok4 : m_clok 4 (RX4, TX4, 3) := ⟨m_lays RX4 TX4 3 ((m_cpl.getD 4 (0, 0, [])).2.2) (by decide +kernel), tyX4_ok, nmX4⟩
set_option maxRecDepth 100000 in
theorem m_clok5 : m_clok 5 (RX5, TX5, 6) := ⟨m_lays RX5 TX5 6 ((m_cpl.getD 5 (0, 0, [])).2.2) (by decide +kernel), tyX5_ok, nmX5⟩
set_option maxRecDepth 100000 in
theorem m_clok6 : m_clok 6 (RX6, TX6, 3) := ⟨m_lays RX6 TX6 3 ((m_cpl.getD 6 (0, 0, [])).2.2) (by decide +kernel), tyX6_ok, nmX6⟩
set_option maxRecDepth 100000 in
theorem m_clok7 : m_clok 7 (RX7, TX7, 5) := ⟨m_lays RX7 TX7 5 ((m_cpl.getD 7 (0, 0, [])).2.2) (by decide +kernel), tyX7_ok, nmX7⟩
set_option maxRecDepth 100000 in
theorem m_clok8 : m_clok 8 (RJ6, TJ6, 1) := ⟨m_lays RJ6 TJ6 1 ((m_cpl.getD 8 (0, 0, [])).2.2) (by decide +kernel), tyJ6_ok, nmJ6⟩
set_option maxRecDepth 100000 in
theorem m_clok9 : m_clok 9 (RJx4a65c, TJx4a65c, 3) := ⟨m_lays RJx4a65c TJx4a65c 3 ((m_cpl.getD 9 (0, 0, [])).2.2) (by decide +kernel), tyJx4a65c_ok, nmJx4a65c⟩
theorem m_clokE (ci : Nat) (C : String) : m_clok ci (C, TXE, 0) := ⟨(fun w hw => by cases hw), (fun k hk => absurd hk (Nat.not_lt_zero k)), (fun a ha => absurd ha (Nat.not_lt_zero a))⟩
theorem m_cls (ci : Nat) (r : vw_C) (h : m_cl[ci]? = some r) : m_clok ci r := by
  match ci, h with
  | 0, h => cases h; exact m_clok0
  | 1, h => cases h; exact m_clok1
  | 2, h => cases h; exact m_clok2
  | 3, h => cases h; exact m_clok3
  | 4, h => cases h; exact m_clok4
  | 5, h => cases h; exact m_clok5
  | 6, h => cases h; exact m_clok6
  | 7, h => cases h; exact m_clok7
  | 8, h => cases h; exact m_clok8
  | 9, h => cases h; exact m_clok9
  | 10, h => cases h; exact m_clokE _ _
  | 11, h => cases h; exact m_clokE _ _
  | 12, h => cases h; exact m_clokE _ _
  | n + 13, h => cases h
theorem m_cl_lt {ci : Nat} {r : vw_C} (h : m_cl[ci]? = some r) : ci < 13 := (List.getElem?_eq_some_iff.mp h).1
set_option maxRecDepth 100000 in
theorem m_w_max : m_wp (m_mathpl.getD 0 (0, 0)).1 (.static Lib.Math.max.name) = true ∧ m_wp (m_mathpl.getD 0 (0, 0)).2 (.code Lib.Math.max.name Lib.Math.max.code 2 (some .int)) = true := by decide +kernel
set_option maxRecDepth 100000 in
theorem m_w_min : m_wp (m_mathpl.getD 1 (0, 0)).1 (.static Lib.Math.min.name) = true ∧ m_wp (m_mathpl.getD 1 (0, 0)).2 (.code Lib.Math.min.name Lib.Math.min.code 2 (some .int)) = true := by decide +kernel
set_option maxRecDepth 100000 in
theorem m_w_abs : m_wp (m_mathpl.getD 2 (0, 0)).1 (.static Lib.Math.abs.name) = true ∧ m_wp (m_mathpl.getD 2 (0, 0)).2 (.code Lib.Math.abs.name Lib.Math.abs.code 1 (some .int)) = true := by decide +kernel
set_option maxRecDepth 100000 in
theorem m_w_cpy : m_wp (m_mathpl.getD 3 (0, 0)).1 (.static arraycopyName) = true ∧ m_wp (m_mathpl.getD 3 (0, 0)).2 (.native arraycopyName) = true := by decide +kernel
set_option maxRecDepth 100000 in
theorem m_w_ini : m_wp m_miscpl.1 (.initialized "java/lang/Math") = true ∧ m_wp m_miscpl.2.1 (.initialized "java/lang/System") = true := by decide +kernel
set_option maxRecDepth 100000 in
theorem m_w_obj : m_wp m_miscpl.2.2.1 (.instanceMethod Lib.objectInit) = true ∧ m_wp m_miscpl.2.2.2 (.code Lib.objectInit ⟨#[0xb1]⟩ 1 none) = true := by decide +kernel
set_option maxRecDepth 100000 in
theorem m_w_cln : m_wp (m_clpl.getD 0 0) (.sameMethod "[I" "java/lang/Object" "clone" "()Ljava/lang/Object;") = true ∧ m_wp (m_clpl.getD 1 0) (.native ⟨"java/lang/Object", "clone", "()Ljava/lang/Object;"⟩) = true ∧ m_wp (m_clpl.getD 2 0) (.instanceMethod ⟨"java/lang/Object", "clone", "()Ljava/lang/Object;"⟩) = true ∧ m_wp (m_clpl.getD 3 0) (.selects "[I" ⟨"[I", "clone", "()Ljava/lang/Object;"⟩ ⟨"java/lang/Object", "clone", "()Ljava/lang/Object;"⟩) = true := by decide +kernel
set_option maxRecDepth 100000 in
theorem m_w_gc : m_wp (m_clpl.getD 4 0) (.selects "[Ljava/lang/Object;" ⟨"java/lang/Object", "getClass", "()Ljava/lang/Class;"⟩ ⟨"java/lang/Object", "getClass", "()Ljava/lang/Class;"⟩) = true ∧ m_wp (m_clpl.getD 5 0) (.instanceMethod ⟨"java/lang/Object", "getClass", "()Ljava/lang/Class;"⟩) = true ∧ m_wp (m_clpl.getD 6 0) (.native ⟨"java/lang/Object", "getClass", "()Ljava/lang/Class;"⟩) = true := by decide +kernel
set_option maxRecDepth 100000 in
theorem m_w_mod : m_wp (m_clpl.getD 7 0) (.sameField "java/util/ArrayList" "java/util/AbstractList" "modCount" "I") = true := by decide +kernel
theorem m_ng_cln : (.castable "[I" "java/lang/Cloneable" : Cond) ∈ m_ng := by simp [m_ng]
theorem m_ng_obj : (.castable "java/lang/Integer" "java/lang/Object" : Cond) ∈ m_ng := by simp [m_ng]
theorem m_ng_gc : (.declares ⟨"java/lang/Object", "getClass", "()Ljava/lang/Class;"⟩ : Cond) ∈ m_ng := by simp [m_ng]
theorem m_ng_nest {u : Cond} (h : u ∈ m_nest) : u ∈ m_ng := List.mem_append_left _ h
theorem m_ng_form (u : Cond) (hu : u ∈ m_ng) : (∃ a i x h, u = .methodLinkNest a i x h) ∨ (∃ a b, u = .castable a b) ∨ ∃ x, u = .declares x := by
  simp only [m_ng, m_nest, List.mem_append, List.mem_cons, List.not_mem_nil, or_false] at hu
  rcases hu with h | h
  · rcases h with rfl | rfl | rfl | rfl | rfl | rfl | rfl | rfl <;> exact Or.inl ⟨_, _, _, _, rfl⟩
  · rcases h with rfl | rfl | rfl | rfl | rfl | h
    · exact Or.inr (Or.inl ⟨_, _, rfl⟩)
    · exact Or.inr (Or.inl ⟨_, _, rfl⟩)
    · exact Or.inr (Or.inl ⟨_, _, rfl⟩)
    · exact Or.inr (Or.inl ⟨_, _, rfl⟩)
    · exact Or.inr (Or.inl ⟨_, _, rfl⟩)
    · refine Or.inr (Or.inr ?_)
      rcases h with rfl | rfl | rfl | rfl | rfl | rfl | rfl <;> exact ⟨_, rfl⟩
theorem m_ng_warm {u : Cond} (hu : u ∈ m_ng) {s U : State} (hW : s.WarmedH U.vm) (h : va_Nw u s) : va_Nw u U := by
  rcases m_ng_form u hu with ⟨a, i, x, k, rfl⟩ | ⟨a, b, rfl⟩ | ⟨x, rfl⟩
  · exact va_Nw.warmM hW h
  · exact va_Nw.warmC hW h
  · exact va_Nw.warmD hW h
theorem m_ng_same {u : Cond} (hu : u ∈ m_ng) {s U : State} (hv : s.vm = U.vm) (h : va_Nw u s) : va_Nw u U := by
  rcases m_ng_form u hu with ⟨a, i, x, k, rfl⟩ | ⟨a, b, rfl⟩ | ⟨x, rfl⟩
  · exact va_Nw.same rfl hv h
  · exact va_Nw.same rfl hv h
  · exact va_Nw.same rfl hv h
theorem m_ng_use {u : Cond} (hu : u ∈ m_ng) {s : State} {args : Array Value} (h : va_Nw u s) : u.before args s = true := by
  rcases m_ng_form u hu with ⟨a, i, x, k, rfl⟩ | ⟨a, b, rfl⟩ | ⟨x, rfl⟩
  · exact va_Nw.use rfl h
  · exact va_Nw.use rfl h
  · exact va_Nw.use rfl h
def m_tys (dt : Nat → ClassId) : List (ClassId × FieldType) := [(dt 0, m_ty 0), (dt 1, m_ty 1), (dt 2, m_ty 2), (dt 3, m_ty 3), (dt 4, m_ty 4), (dt 5, m_ty 5), (dt 6, m_ty 6)]
def m_Kn (D : va_G) (dt : Nat → ClassId) (P : Nat → Nat) (s : State) : Prop := va_K D m_cl (m_tys dt) s ∧ (∀ u ∈ m_ng, va_Nw u s) ∧ (va_AO "ParallaxSheets$Sheet" s ∧ va_AO "ParallaxSheetsModel$Sheet" s ∧ va_AO "java/lang/Object" s) ∧ va_Mi "[Ljava/lang/Object;" (P 4) s ∧
  (∀ q ∈ m_sites, ∃ sa : Nat, vk_R RX5 q.2.1 q.2.2.2.2 sa s) ∧ ∀ k k' : Nat, k < 3 → k' < 3 → k ≠ k' → va_Nc (m_exn k) (m_exn k') s
theorem m_Kn.warm {D : va_G} {dt : Nat → ClassId} {P : Nat → Nat} {s U : State} (hW : s.WarmedH U.vm) (h : m_Kn D dt P s) : m_Kn D dt P U :=
  ⟨va_K.moved hW.alike h.1, fun u hu => m_ng_warm hu hW (h.2.1 _ hu), ⟨va_AO.moved hW.alike h.2.2.1.1, va_AO.moved hW.alike h.2.2.1.2.1, va_AO.moved hW.alike h.2.2.1.2.2⟩, va_Mi.moved hW.alike h.2.2.2.1,
    fun q hq => (h.2.2.2.2.1 q hq).imp fun sa h => vk_R.warm hW h, fun k k' h1 h2 h3 => va_Nc.moved hW.alike (h.2.2.2.2.2 k k' h1 h2 h3)⟩
theorem m_Kn.same {D : va_G} {dt : Nat → ClassId} {P : Nat → Nat} {s U : State} (hv : s.vm = U.vm) (h : m_Kn D dt P s) : m_Kn D dt P U := by
  have hA : s.vm.Alike U.vm := by rw [hv]; exact Vm.Alike.refl U.vm
  exact ⟨va_K.moved hA h.1, fun u hu => m_ng_same hu hv (h.2.1 _ hu), ⟨va_AO.moved hA h.2.2.1.1, va_AO.moved hA h.2.2.1.2.1, va_AO.moved hA h.2.2.1.2.2⟩, va_Mi.moved hA h.2.2.2.1,
    fun q hq => (h.2.2.2.2.1 q hq).imp fun sa h => vk_R.same hv.symm h, fun k k' h1 h2 h3 => va_Nc.moved hA (h.2.2.2.2.2 k k' h1 h2 h3)⟩
/-- what was there before and is never written -/
def m_Px (N : Nat) (P : Nat → Nat) (s : State) (H : Heap) : Prop := (∀ x : Nat, x < 4 → va_Z (m_sn x).1 (m_sn x).2.1 (m_sn x).2.2 (.ref (P x)) (fun q => N ≤ q) s H) ∧ va_Z "java/lang/Integer$IntegerCache" "high" "I" (.int 127) (fun q => N ≤ q) s H ∧
  va_T (.object "java/lang/Object") (P 0) 0 (fun _ => .null) (fun q => N ≤ q) s H ∧ va_T .int (P 1) 5 m_f1 (fun q => N ≤ q) s H ∧ va_T .int (P 2) 9 m_f2 (fun q => N ≤ q) s H ∧
  va_T (.object "java/lang/Integer") (P 3) 256 (fun k => .ref (P (5 + k))) (fun q => N ≤ q) s H ∧ vb_C (fun k => P (5 + k)) (fun q => N ≤ q) s H ∧
  vx_Zq Bundle.tN "UNASSIGNED_STACK" Bundle.steD (fun q => N ≤ q) s H ∧ vx_Zq Bundle.tN "SUPPRESSED_SENTINEL" Bundle.listD (fun q => N ≤ q) s H
theorem m_Px.go {N : Nat} {P : Nat → Nat} {s U : State} {H0 H : Heap} (hvm : s.vm.Alike U.vm) (hq : ∀ a : Nat, a < H0.size → ¬ N ≤ a → H[a]? = H0[a]?) (h : m_Px N P s H0) : m_Px N P U H := by
  obtain ⟨h1, h2, h3, h4, h5, h6, h7, h8, h9⟩ := h
  exact ⟨fun x hx => va_Z.moved hvm ((h1 x hx).kept hq), va_Z.moved hvm (h2.kept hq), va_T.moved hvm (h3.kept hq), va_T.moved hvm (h4.kept hq), va_T.moved hvm (h5.kept hq), va_T.moved hvm (h6.kept hq), vb_C.moved hvm (h7.kept hq), vx_Zq.moved hvm (h8.kept hq), vx_Zq.moved hvm (h9.kept hq)⟩
def m_Cx (D : va_G) (dt : Nat → ClassId) (b N : Nat) (P : Nat → Nat) (scr : List Int32) (M : Nat) (p : Program) (s : State) (args : Array Value) (m : MethodId) (meth : Method) (c : Code) : Prop :=
  p.tables.exec = Jvm.exec ∧ c.code = m_by M ∧ c.maxLocals = m_nL M ∧ (∀ w ∈ m_gw, w.before args s = true) ∧ s.vm.findClass (m_nm M).cls = some m.cls ∧ ((m_nm M).name = "<init>" → meth.name = "<init>") ∧ m_Kn D dt P s ∧ va_X b scr.length (fun j => scr.getD j 0) s s.heap ∧ b < N ∧ N ≤ s.heap.size ∧ m_Px N P s s.heap
/-- what a walk has reached: the locals, the world, what was written, what was made -/
def m_At (D : va_G) (dt : Nat → ClassId) (b N : Nat) (P : Nat → Nat) (M a0 s0 : Nat) (s : State) (L : mL) (AH : List mC) (ls : Array Slot) (H : Heap) (locs : List Loc) (cells slots : Nat) : Prop :=
  lv_has ls (m_nL M) (m_L (m_ad b N P) L) ∧ va_P D m_cl (m_ws N (m_ad b N P) dt 0 AH) H ∧ va_S (fun q => N ≤ q) s.heap H locs ∧ cells + a0 = AH.length ∧ slots + s0 = m_sl AH
section MS
variable {p : Program} {l : Launch} {e : Env} {R : Room} {s : State} {m : MethodId} {args : Array Value} {below : List Frame} {meth : Method} {c : Code} {H : Heap} {locs : List Loc} {cells slots : Nat} {Q : State → Prop}
theorem m_W_size {g : JFrame} (h : H.size ≤ s.heap.size + cells → W p l e R s m args below meth c H locs cells slots Q g) : W p l e R s m args below meth c H locs cells slots Q g := by
  intro T hT X
  refine h ?_ T hT X
  have h1 := X.same.2.2.1
  have h2 : (T.setVm s.vm).heap = T.heap := rfl
  rw [h2, hT] at h1
  exact h1
end MS
/-! one instruction of the run is one instruction of the machine -/
theorem m_E_set0 (ad : Nat → Nat) (dt : Nat → ClassId) (vs : List Value) (k : Nat) (x : Int32) (hk : k < vs.length) : m_E ad dt (.inl (0, vs.set k (.int x))) = .inl (dt 0, vs.length, .inl (upd (fun j => m_iv (vs.getD j .null)) k x)) := by
  rw [← m_fn_set ad vs k x hk]
  show Sum.inl (dt 0, (vs.set k (.int x)).length, _) = _
  rw [List.length_set]; rfl
theorem m_E_set1 (ad : Nat → Nat) (dt : Nat → ClassId) (vs : List Value) (k : Nat) (x : Int32) (hk : k < vs.length) : m_E ad dt (.inl (1, vs.set k (.int x))) = .inl (dt 1, vs.length, .inl (upd (fun j => m_iv (vs.getD j .null)) k x)) := by
  rw [← m_fn_set ad vs k x hk]
  show Sum.inl (dt 1, (vs.set k (.int x)).length, _) = _
  rw [List.length_set]; rfl
theorem m_E_set2 (ad : Nat → Nat) (dt : Nat → ClassId) (vs : List Value) (k r : Nat) (hk : k < vs.length) : m_E ad dt (.inl (2, vs.set k (.ref r))) = .inl (dt 2, vs.length, .inr (.inr (.inr (.inr (va_up (fun j => m_rv ad (vs.getD j .null)) k (some (ad r))))))) := by
  rw [← m_fn_setR ad vs k r hk]
  show Sum.inl (dt 2, (vs.set k (.ref r)).length, _) = _
  rw [List.length_set]; rfl
theorem m_E_setR (ad : Nat → Nat) (dt : Nat → ClassId) (t : Nat) (ht : t = 2 ∨ t = 5 ∨ t = 6) (vs : List Value) (k r : Nat) (hk : k < vs.length) : m_E ad dt (.inl (t, vs.set k (.ref r))) = .inl (dt t, vs.length, .inr (.inr (.inr (.inr (va_up (fun j => m_rv ad (vs.getD j .null)) k (some (ad r))))))) := by
  rw [← m_fn_setR ad vs k r hk]
  rcases ht with rfl | rfl | rfl
  all_goals
    show Sum.inl (dt _, (vs.set k (.ref r)).length, _) = _
    rw [List.length_set]; rfl
theorem m_E_set3 (ad : Nat → Nat) (dt : Nat → ClassId) (vs : List Value) (k : Nat) (x : Int64) (hk : k < vs.length) : m_E ad dt (.inl (3, vs.set k (.long x))) = .inl (dt 3, vs.length, .inr (.inl (vp_updL (fun j => m_jv (vs.getD j .null)) k x))) := by
  rw [← m_fn_setL vs k x hk]
  show Sum.inl (dt 3, (vs.set k (.long x)).length, _) = _
  rw [List.length_set]; rfl
theorem m_E_set4 (ad : Nat → Nat) (dt : Nat → ClassId) (vs : List Value) (k : Nat) (x : UInt64) (hk : k < vs.length) : m_E ad dt (.inl (4, vs.set k (.double x))) = .inl (dt 4, vs.length, .inr (.inr (.inr (.inl (vf_upd (fun j => m_dv (vs.getD j .null)) k x))))) := by
  rw [← m_fn_setD vs k x hk]
  show Sum.inl (dt 4, (vs.set k (.double x)).length, _) = _
  rw [List.length_set]; rfl
theorem m_E_cpyR (ad : Nat → Nat) (dt : Nat → ClassId) (f g : List Value) (sp dp n : Nat) (h : dp + n ≤ g.length) : m_E ad dt (.inl (6, m_cpy f g sp dp n)) = .inl (dt 6, g.length, .inr (.inr (.inr (.inr (va_cpy (fun j => m_rv ad (f.getD j .null)) (fun j => m_rv ad (g.getD j .null)) sp dp n))))) := by
  rw [← m_fn_cpyR ad f g sp dp n h]
  show Sum.inl (dt 6, (m_cpy f g sp dp n).length, _) = _
  rw [m_cpy_len]; rfl
theorem m_E_cpy (ad : Nat → Nat) (dt : Nat → ClassId) (f g : List Value) (sp dp n : Nat) (h : dp + n ≤ g.length) : m_E ad dt (.inl (0, m_cpy f g sp dp n)) = .inl (dt 0, g.length, .inl (va_cpy (fun j => m_iv (f.getD j .null)) (fun j => m_iv (g.getD j .null)) sp dp n)) := by
  rw [← m_fn_cpy f g sp dp n h]
  show Sum.inl (dt 0, (m_cpy f g sp dp n).length, _) = _
  rw [m_cpy_len]; rfl
def m_d0 (x : Nat) : Value := if x = 3 then .long 0 else if x = 4 then .double 0 else .int 0
theorem m_E_new (ad : Nat → Nat) (dt : Nat → ClassId) (x n : Nat) (v : Value) : m_E ad dt (.inl (x, List.replicate n v)) = .inl (dt x, n, m_fn ad x (List.replicate n v)) := by
  show Sum.inl (dt x, (List.replicate n v).length, _) = _
  rw [List.length_replicate]
theorem m_E_newq (ad : Nat → Nat) (dt : Nat → ClassId) (t n : Nat) (ht : t = 2 ∨ t = 5 ∨ t = 6) : m_E ad dt (.inl (t, List.replicate n .null)) = .inl (dt t, n, .inr (.inr (.inr (.inr (fun _ => none))))) := by
  have e : (fun j => m_rv ad ((List.replicate n Value.null).getD j Value.null)) = fun _ => none := by
    funext j
    by_cases hj : j < n
    · simp [List.getD_eq_getElem?_getD, hj, m_rv]
    · simp [List.getD_eq_getElem?_getD, hj, m_rv]
  rw [← e]
  rcases ht with rfl | rfl | rfl
  all_goals
    show (Sum.inl (dt _, (List.replicate n Value.null).length, _) : va_E) = _
    rw [List.length_replicate]; rfl
section MO
variable {p : Program} {l : Launch} {e : Env} {R : Room} {s : State} {m : MethodId} {args : Array Value} {below : List Frame} {meth : Method} {c : Code} {H : Heap} {locs : List Loc} {cells slots : Nat} {Q : State → Prop}
variable {D : va_G} {dt : Nat → ClassId} {P : Nat → Nat} {b N M pc pc' a0 s0 : Nat} {scr : List Int32} {ls : Array Slot} {L L' : mL} {S S' : List Value} {AH AH' : List mC}
theorem m_fresh {q : Nat} {e1 : va_E} {H1 : Heap} (hrm : m_rm1 AH = true) (hsz : s.heap.size = N + a0) (hc : cells + a0 = AH.length) (hP1 : va_P D m_cl (m_ws N (m_ad b N P) dt 0 AH ++ [(q, e1)]) H1) (hD1 : va_D (fun q => N ≤ q) (m_ws N (m_ad b N P) dt 0 AH ++ [(q, e1)])) (hz : H1.size ≤ s.heap.size + (cells + 1)) : q = m_ad b N P (AH.length + 1) ∧ q = N + (0 + AH.length) := by
  have hnox : m_nox AH = true := (Bool.and_eq_true_iff.mp hrm).2
  obtain ⟨hlen, hget⟩ := m_ws_nox N (m_ad b N P) dt AH 0 hnox
  have hq : (m_ws N (m_ad b N P) dt 0 AH ++ [(q, e1)])[AH.length]? = some (q, e1) := by
    rw [List.getElem?_append_right (by omega), hlen, Nat.sub_self]; rfl
  have h1 := (hP1 _ _ hq).lt
  have h2 : N ≤ q := hD1.2 _ _ hq
  have h3 : q < H1.size := h1
  have h4 : q = N + (0 + AH.length) := by
    by_cases h : q < N + AH.length
    · exfalso
      obtain ⟨cj, hj⟩ : ∃ cj, AH[q - N]? = some cj := ⟨_, List.getElem?_eq_getElem (show q - N < AH.length by omega)⟩
      have hj2 : (m_ws N (m_ad b N P) dt 0 AH ++ [(q, e1)])[q - N]? = some (N + (0 + (q - N)), m_E (m_ad b N P) dt cj) := by
        rw [List.getElem?_append_left (by omega), hget, hj]; rfl
      have := hD1.1 _ _ _ _ hj2 hq (by show N + (0 + (q - N)) = q; omega)
      omega
    · omega
  exact ⟨by rw [m_ad_new hrm]; exact h4, h4⟩
theorem m_RA_eq {U : State} {a c : ClassId} {ty : FieldType} (h1 : va_RA U a ty) (h2 : va_RA U c ty) : a = c := by
  cases ty with
  | object C =>
    obtain ⟨_, _, _, _, _, e1⟩ := h1
    obtain ⟨_, _, _, _, _, e2⟩ := h2
    exact Option.some.inj (e1.symm.trans e2)
  | _ => exact Option.some.inj (Eq.trans (Eq.symm h1) h2)
theorem m_tys_get {dt : Nat → ClassId} (x : Nat) (hx : x < 7) : (m_tys dt)[x]? = some (dt x, m_ty x) := by
  match x, hx with
  | 0, _ => rfl
  | 1, _ => rfl
  | 2, _ => rfl
  | 3, _ => rfl
  | 4, _ => rfl
  | 5, _ => rfl
  | 6, _ => rfl
  | n + 7, h => omega
theorem m_cA {x : Nat} {cA : ClassId} (hx : x < 7) (hK : va_K D m_cl (m_tys dt) s) (h : va_K D m_cl (m_tys dt ++ [(cA, m_ty x)]) s) : cA = dt x :=
  m_RA_eq (h.2 7 (cA, m_ty x) rfl).2 (hK.2 x _ (m_tys_get x hx)).2
theorem m_boxAt (hPx : m_Px N P s s.heap) (hS : va_S (fun q => N ≤ q) s.heap H locs) {r : Nat} (h : m_box r = true) : ∃ cell : Cell, H[m_ad b N P r]? = some cell ∧ cell.vm.isStatics = false ∧ s.vm.findClass "java/lang/Integer" = some cell.cls := by
  obtain ⟨k, hk, -, he, -⟩ := m_ad_box (b := b) (N := N) (P := P) h
  obtain ⟨cell, h1, h2, h3, -⟩ := (hPx.2.2.2.2.2.2.1.1 k hk).kept hS.2.1
  exact ⟨cell, by rw [he]; exact h1, h2, h3⟩
end MO
