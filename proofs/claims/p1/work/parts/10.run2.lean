/-! calls that return or throw, and the whole run -/
def m_rm (M mc ms : Nat) : Room := { frames := m_fr M, cells := mc, slots := ms, locals := m_lo M }
def m_Pc (D : va_G) (dt : Nat → ClassId) (b N : Nat) (P : Nat → Nat) (scr : List Int32) (as : List Value) (AH : List mC) : Array Value → State → Prop := fun v U => v = (as.map (m_v (m_ad b N P))).toArray ∧ (m_nox AH = true → U.heap.size = N + AH.length) ∧ N ≤ U.heap.size ∧ va_P D m_cl (m_ws N (m_ad b N P) dt 0 AH) U.heap ∧ m_Kn D dt P U ∧ va_X b scr.length (fun j => scr.getD j 0) U U.heap ∧ b < N ∧ m_Px N P U U.heap
def m_Qc (D : va_G) (dt : Nat → ClassId) (b N : Nat) (P : Nat → Nat) (rv : Option Value) (AHf : List mC) : Array Value → State → Outcome → State → Prop := fun _ st oc t => oc = .returned (rv.map (m_v (m_ad b N P))) ∧ m_thr rv = none ∧ va_P D m_cl (m_ws N (m_ad b N P) dt 0 AHf) t.heap ∧ va_F (fun q => N ≤ q) st t
def m_XC (D : va_G) (dt : Nat → ClassId) (b N : Nat) (P : Nat → Nat) (rv : Option Value) (AHf : List mC) : String → State → State → Prop := fun E st t => (∃ k : Nat, m_thr rv = some k ∧ k < 3 ∧ E = m_exn k) ∧ va_P D m_cl (m_ws N (m_ad b N P) dt 0 AHf) t.heap ∧ va_F (fun q => N ≤ q) st t
def m_Ms (l : Launch) (D : va_G) (dt : Nat → ClassId) (b N : Nat) (P : Nat → Nat) (scr : List Int32) (M : Nat) (as : List Value) (AH : List mC) (rv : Option Value) (AHf : List mC) : Prop :=
  Met l (m_nm M) (m_ws0 M) (m_rm M (AHf.length - AH.length) (m_sl AHf - m_sl AH)) (m_Pc D dt b N P scr as AH) (m_Qc D dt b N P rv AHf) (AHf.length - AH.length) (m_sl AHf - m_sl AH) (fun q => N ≤ q)
def m_MX (l : Launch) (D : va_G) (dt : Nat → ClassId) (b N : Nat) (P : Nat → Nat) (scr : List Int32) (M : Nat) (as : List Value) (AH : List mC) (rv : Option Value) (AHf : List mC) : Prop :=
  vx_Met l (m_nm M) (m_ws0 M) (m_rm M (AHf.length - AH.length) (m_sl AHf - m_sl AH)) (m_Pc D dt b N P scr as AH) (m_Qc D dt b N P rv AHf) (m_XC D dt b N P rv AHf) (AHf.length - AH.length) (m_sl AHf - m_sl AH) (fun q => N ≤ q)
theorem m_blind (D : va_G) (dt : Nat → ClassId) (b N : Nat) (P : Nat → Nat) (scr : List Int32) (as : List Value) (AH : List mC) : FrameBlind (m_Pc D dt b N P scr as AH) := by
  intro a U g mk ⟨h1, h2, h3, h4, h5, h6, h7, h8⟩
  exact ⟨h1, h2, h3, h4, m_Kn.same (s := U) (U := U.calling g mk a) rfl h5, va_X.moved (u := U) (U := U.calling g mk a) (Vm.Alike.refl U.vm) h6, h7, m_Px.go (s := U) (U := U.calling g mk a) (Vm.Alike.refl U.vm) (fun _ _ _ => rfl) h8⟩
section MC
variable {p : Program} {l : Launch} {e : Env} {R : Room} {s : State} {m : MethodId} {args : Array Value} {below : List Frame} {meth : Method} {c : Code} {H : Heap} {locs : List Loc} {cells slots : Nat} {Q : State → Prop}
variable {D : va_G} {dt : Nat → ClassId} {P : Nat → Nat} {b N M pc a0 s0 : Nat} {scr : List Int32} {ls : Array Slot} {L : mL} {S : List Value} {AH AHf : List mC} {rv : Option Value}
theorem m_call {a : Array Value} {rest st0 : List Value} {mc ms : Nat} (hr : va_Run p l e R s m args below meth c H locs cells slots mc ms (F0 m pc ls st0) rest (m_Qc D dt b N P rv AHf a) (fun q => N ≤ q)) (hS : va_S (fun q => N ≤ q) s.heap H locs)
    (kk : ∀ (H1 : Heap) (locs1 : List Loc), va_P D m_cl (m_ws N (m_ad b N P) dt 0 AHf) H1 → va_S (fun q => N ≤ q) s.heap H1 locs1 → W p l e R s m args below meth c H1 locs1 (cells + mc) (slots + ms) Q (F0 m (pc + 3) ls ((rv.map (m_v (m_ad b N P))).toList ++ rest))) :
    W p l e R s m args below meth c H locs cells slots Q (F0 m pc ls st0) := by
  intro T hT X
  obtain ⟨v, st₀, t, T', L1, h0, X', hL, e1, e2, ⟨hv, -, hw, hF⟩, st⟩ := hr T hT X
  cases hv
  obtain ⟨k1, k2, k3⟩ := vx_keep h0 e1 hS (fun q _ h => h) (fun q h => h) hL hF
  obtain ⟨t2, a1, b1⟩ := kk T'.heap (locs ++ L1) (by rw [e1]; exact hw) k3 T' rfl X'
  exact ⟨t2, st t2 a1, b1⟩
theorem m_callX {a : Array Value} {rest st0 : List Value} {mc ms : Nat} (hr : vx_Run p l e R s m args below meth c H locs cells slots mc ms (F0 m pc ls st0) rest (m_Qc D dt b N P rv AHf a) (m_XC D dt b N P rv AHf) (fun q => N ≤ q)) (hS : va_S (fun q => N ≤ q) s.heap H locs)
    (kk : m_thr rv = none → ∀ (H1 : Heap) (locs1 : List Loc), va_P D m_cl (m_ws N (m_ad b N P) dt 0 AHf) H1 → va_S (fun q => N ≤ q) s.heap H1 locs1 → W p l e R s m args below meth c H1 locs1 (cells + mc) (slots + ms) Q (F0 m (pc + 3) ls ((rv.map (m_v (m_ad b N P))).toList ++ rest)))
    (kx : ∀ k : Nat, m_thr rv = some k → k < 3 → ∀ (q9 : Addr) (ce : Cell) (H1 : Heap) (locs1 : List Loc), va_P D m_cl (m_ws N (m_ad b N P) dt 0 AHf) H1 → va_S (fun q => N ≤ q) s.heap H1 locs1 → H1[q9]? = some ce → ce.vm = .none → s.vm.findClass (m_exn k) = some ce.cls → vx_W p l e R s m args below meth c H1 locs1 (cells + mc) (slots + ms) Q (F0 m pc ls rest) q9) :
    W p l e R s m args below meth c H locs cells slots Q (F0 m pc ls st0) := by
  intro T hT X
  rcases hr T hT X with ⟨v, st₀, t, T', L1, h0, X', hL, e1, e2, ⟨hv, hth, hw, hF⟩, st⟩ | ⟨q, st₀, t, T', L1, E, ce, h0, X', hL, e1, e2, ⟨⟨k, hk, hk3, hE⟩, hw, hF⟩, hce, hcv, hcl, st⟩
  · cases hv
    obtain ⟨k1, k2, k3⟩ := vx_keep h0 e1 hS (fun q _ h => h) (fun q h => h) hL hF
    obtain ⟨t2, a1, b1⟩ := kk hth T'.heap (locs ++ L1) (by rw [e1]; exact hw) k3 T' rfl X'
    exact ⟨t2, st t2 a1, b1⟩
  · obtain ⟨k1, k2, k3⟩ := vx_keep h0 e1 hS (fun q _ h => h) (fun q h => h) hL hF
    obtain ⟨t2, a1, b1⟩ := kx k hk hk3 q ce T'.heap (locs ++ L1) (by rw [e1]; exact hw) k3 (by rw [e1]; exact hce) hcv (by rw [← hE]; exact hcl) T' rfl X'
    exact ⟨t2, st.trans a1, b1⟩
/-- what a callee's start asks of the caller's state -/
theorem m_pre (hC : m_Cx D dt b N P scr M p s args m meth c) (hsz : m_nox AH = true → s.heap.size = N + a0) (hA : m_At D dt b N P M a0 s0 s L AH ls H locs cells slots) (hz : H.size ≤ s.heap.size + cells) (as : List Value) :
    ∀ U : State, U.heap = H → s.WarmedH U.vm → m_Pc D dt b N P scr as AH (as.map (m_v (m_ad b N P))).toArray U := by
  obtain ⟨hx, hb, hml, hts, hown, hname, hK, hX, hbN, hNs, hPx⟩ := hC
  obtain ⟨hl, hP, hS, hc, hs⟩ := hA
  intro U hU hW
  refine ⟨rfl, fun hnox => ?_, by rw [hU]; exact Nat.le_trans hNs hS.1, by rw [hU]; exact hP, hK.warm hW, ?_, hbN, ?_⟩
  · have hsz := hsz hnox
    obtain ⟨hlen, hget⟩ := m_ws_nox N (m_ad b N P) dt AH 0 hnox
    rw [hU]
    have h1 : s.heap.size ≤ H.size := hS.1
    by_cases h0 : AH.length = 0
    · have hzz : Array.size H ≤ Array.size s.heap + cells := hz
      have hh : Array.size s.heap ≤ Array.size H := h1
      have hy : Array.size s.heap = N + a0 := hsz
      show Array.size H = _
      omega
    · obtain ⟨cj, hj⟩ : ∃ cj, AH[AH.length - 1]? = some cj := ⟨_, List.getElem?_eq_getElem (show AH.length - 1 < AH.length by omega)⟩
      have h2 := (hP (AH.length - 1) _ (by rw [hget, hj]; rfl)).lt
      have h3 : N + (0 + (AH.length - 1)) < Array.size H := h2
      have hzz : Array.size H ≤ Array.size s.heap + cells := hz
      have hy : Array.size s.heap = N + a0 := hsz
      show Array.size H = _
      omega
  · rw [hU]
    have hb1 : b < s.heap.size := Nat.lt_of_lt_of_le hbN hNs
    have hb2 : ¬ N ≤ b := by omega
    exact va_X.moved hW.alike (hX.kept (hS.2.1 b hb1 hb2))
  · rw [hU]
    exact m_Px.go hW.alike hS.2.1 hPx
theorem m_rcvAt (hK : m_Kn D dt P s) (hP : va_P D m_cl (m_ws N (m_ad b N P) dt 0 AH) H) (hPx : m_Px N P s s.heap) (hS : va_S (fun q => N ≤ q) s.heap H locs) {r ci : Nat} {rr : vw_C} (h : m_rcv AH r = some ci) (hrr : m_cl[ci]? = some rr) :
    ∃ cell : Cell, H[m_ad b N P r]? = some cell ∧ cell.vm.isStatics = false ∧ s.vm.findClass rr.1 = some cell.cls := by
  have hx10 := m_cl_lt hrr
  unfold m_rcv at h
  split at h
  · next c2 fs hg =>
    cases h
    obtain ⟨k0, hat, -⟩ := m_at (b := b) (N := N) (P := P) (dt := dt) hg (by simp [m_mk])
    exact va_recv hK.1 hP hrr hat
  · cases h
  · split at h
    · next hbx =>
      cases h
      cases hrr
      exact m_boxAt hPx hS hbx
    · cases h
end MC
/-- n steps deep, a run of the data is a run of the machine: from any point of a frame to its end -/
def m_Sn (scr : List Int32) (n : Nat) : Prop :=
  ∀ (p : Program) (l : Launch) (e : Env) (R : Room) (s : State) (m : MethodId) (args : Array Value) (below : List Frame) (meth : Method) (c : Code) (H : Heap) (locs : List Loc) (cells slots : Nat) (Q : State → Prop)
    (D : va_G) (dt : Nat → ClassId) (b N : Nat) (P : Nat → Nat) (M pc a0 s0 : Nat) (ls : Array Slot) (L : mL) (S : List Value) (AH AHf : List mC) (rv : Option Value),
    l.stackTraces = false → M < 245 → m_go scr n M pc L S AH = some (rv, AHf) → m_Cx D dt b N P scr M p s args m meth c → (m_nox AH = true → s.heap.size = N + a0) → m_At D dt b N P M a0 s0 s L AH ls H locs cells slots → m_fr M ≤ R.frames → m_lo M ≤ R.locals → AHf.length ≤ R.cells + a0 → m_sl AHf ≤ R.slots + s0 →
    ((m_hx M).isEmpty = false → c.exceptionTable.toList = tableOf (m_hh M)) →
    (∀ k : Nat, m_thr rv = some k → (m_hx M).isEmpty = true → ∃ (Qc : Array Value → State → Outcome → State → Prop) (mc ms : Nat), Q = vx_MQ below Qc (m_XC D dt b N P rv AHf) args s mc ms (fun q => N ≤ q) ∧ AHf.length ≤ mc + a0 ∧ m_sl AHf ≤ ms + s0 ∧ meth.locks = false ∧ ∀ x ∈ c.exceptionTable.toList, False) →
    (∀ (i : Instr) (pc' : Nat) (L1 : mL) (S1 : List Value) (ls' : Array Slot) (H' : Heap) (locs' : List Loc) (cells' slots' : Nat) (z : Int), decode (m_by M) pc' = .ok (i, m_len i z) → m_rts i S1 = some rv → m_rok (m_rt M) rv = true → m_At D dt b N P M a0 s0 s L1 AHf ls' H' locs' cells' slots' →
      W p l e R s m args below meth c H' locs' cells' slots' Q (F0 m pc' ls' (S1.map (m_v (m_ad b N P))))) →
    W p l e R s m args below meth c H locs cells slots Q (F0 m pc ls (S.map (m_v (m_ad b N P))))
theorem m_okM_code {x : Nat} (h : m_okM x = true) : m_cw x ∈ m_gw ∧ Cond.initialized (m_nm x).cls ∈ m_gw ∧ ((m_nm x).cls ≠ "java/lang/invoke/MethodHandle" ∧ (m_nm x).cls ≠ "java/lang/invoke/VarHandle") ∧ (parseMethodDescriptor (m_nm x).desc).map (fun d => d.parameters.length) = some (m_na x) ∧ plainName (m_nm x).cls = true := by
  simp only [m_okM, Bool.and_eq_true, decide_eq_true_eq] at h
  obtain ⟨⟨⟨⟨⟨⟨h1, h2⟩, -⟩, h4⟩, h5⟩, h6⟩, h7⟩ := h
  refine ⟨?_, m_wp_in h2, ⟨h4, h5⟩, h6, h7⟩
  unfold m_cw
  split at h1
  · next hh => rw [if_pos hh]; exact m_wp_in h1
  · next hh =>
    rw [if_neg hh]
    simp only [Bool.and_eq_true] at h1
    exact m_wp_in h1.1.1
theorem m_okM_hx {x : Nat} (h : m_okM x = true) (hh : ¬ (m_hx x).isEmpty = true) : m_stc x = true ∧ ∀ q ∈ m_hx x, Cond.classLink (m_nm x).cls q.1.2.2.2 (m_exn q.2.1) ∈ m_gw ∧ q.1.2.2.2 ≠ 0 ∧ q.2.1 < 3 := by
  simp only [m_okM, Bool.and_eq_true, decide_eq_true_eq] at h
  obtain ⟨⟨⟨⟨⟨⟨h1, h2⟩, -⟩, h4⟩, h5⟩, h6⟩, h7⟩ := h
  rw [if_neg hh] at h1
  simp only [Bool.and_eq_true] at h1
  obtain ⟨⟨-, h8⟩, h9⟩ := h1
  refine ⟨h8, fun q hq => ?_⟩
  have h10 := List.all_eq_true.mp h9 q hq
  simp only [Bool.and_eq_true, decide_eq_true_eq] at h10
  exact ⟨m_wp_in h10.1.1, h10.1.2, h10.2⟩
theorem m_okM_stat {x : Nat} (h : m_okM x = true) (hs : m_stc x = true) : Cond.static (m_nm x) ∈ m_gw := by
  simp only [m_okM, Bool.and_eq_true, decide_eq_true_eq] at h
  obtain ⟨⟨⟨⟨⟨-, h3⟩, -⟩, -⟩, -⟩, -⟩ := h
  rw [if_pos hs] at h3
  exact m_wp_in h3
theorem m_okM_inst {x : Nat} (h : m_okM x = true) (hs : m_stc x = false) : Cond.instanceMethod (m_nm x) ∈ m_gw ∧ ((∃ r, m_cl[m_rc x]? = some r ∧ r.1 = (m_nm x).cls) ∨ (m_nm x).name = "<init>") ∧ ((m_nm x).name = "<init>" ∨ Cond.selects (m_nm x).cls (m_nm x) (m_nm x) ∈ m_gw) := by
  simp only [m_okM, Bool.and_eq_true, decide_eq_true_eq] at h
  obtain ⟨⟨⟨⟨⟨-, h3⟩, -⟩, -⟩, -⟩, -⟩ := h
  rw [if_neg (by rw [hs]; decide)] at h3
  simp only [Bool.and_eq_true, Bool.or_eq_true, decide_eq_true_eq] at h3
  obtain ⟨⟨h1, h2⟩, h4⟩ := h3
  refine ⟨m_wp_in h1, ?_, ?_⟩
  · rcases h2 with h2 | h2
    · exact Or.inl (Option.map_eq_some_iff.mp h2)
    · exact Or.inr h2
  · rcases h4 with h4 | h4
    · exact Or.inl h4
    · exact Or.inr (m_wp_in h4)
theorem m_hlen {x : Nat} {desc : String} {n : Nat} (h : (parseMethodDescriptor desc).map (fun d => d.parameters.length) = some n) : ∀ sig, parseMethodDescriptor desc = some sig → n = sig.parameters.length := by
  intro sig hsig
  rw [hsig] at h
  exact (Option.some.inj h).symm
section ME
variable {scr : List Int32} {n : Nat} {l : Launch} {D : va_G} {dt : Nat → ClassId} {P : Nat → Nat} {b N x : Nat} {as : List Value} {AH AHf : List mC} {rv : Option Value}
/-- a body from its entry -/
theorem m_enter (ih : m_Sn scr n) (hl0 : l.stackTraces = false) (hx : x < 245) (hcat : m_cat as ≤ m_nL x) (h : m_go scr n x 0 (lv_args 0 as) [] AH = some (rv, AHf)) {p : Program} {e : Env} {s : State} {m : MethodId} {args : Array Value} {below : List Frame} {meth : Method} {c : Code} {Q : State → Prop}
    (hxx : p.tables.exec = Jvm.exec) (hb : c.code = m_by x) (hml : c.maxLocals = m_nL x) (hts : ∀ w ∈ m_gw, w.before args s = true) (hown : s.vm.findClass (m_nm x).cls = some m.cls) (hname : meth.name = (m_nm x).name) (hv : m_Pc D dt b N P scr as AH args s)
    (hT : (m_hx x).isEmpty = false → c.exceptionTable.toList = tableOf (m_hh x))
    (hX : ∀ k : Nat, m_thr rv = some k → (m_hx x).isEmpty = true → ∃ (Qc : Array Value → State → Outcome → State → Prop) (mc ms : Nat), Q = vx_MQ below Qc (m_XC D dt b N P rv AHf) args s mc ms (fun q => N ≤ q) ∧ AHf.length ≤ mc + AH.length ∧ m_sl AHf ≤ ms + m_sl AH ∧ meth.locks = false ∧ ∀ x ∈ c.exceptionTable.toList, False)
    (hfin : ∀ (i : Instr) (pc' : Nat) (L1 : mL) (S1 : List Value) (ls' : Array Slot) (H' : Heap) (locs' : List Loc) (cells' slots' : Nat) (z : Int), decode (m_by x) pc' = .ok (i, m_len i z) → m_rts i S1 = some rv → m_rok (m_rt x) rv = true → m_At D dt b N P x AH.length (m_sl AH) s L1 AHf ls' H' locs' cells' slots' →
      W p l e (m_rm x (AHf.length - AH.length) (m_sl AHf - m_sl AH)) s m args below meth c H' locs' cells' slots' Q (F0 m pc' ls' (S1.map (m_v (m_ad b N P))))) :
    W p l e (m_rm x (AHf.length - AH.length) (m_sl AHf - m_sl AH)) s m args below meth c s.heap [] 0 0 Q (entryFrame m args (m_nL x)) := by
  obtain ⟨hm1, hm2, -⟩ := m_go_mono scr n h
  obtain ⟨rfl, hsz, hN, hP, hK, hXs, hbN, hPx⟩ := hv
  rw [lg_entry_eq]
  have hl := lv_entry (as.map (m_v (m_ad b N P))) (n := m_nL x) (by rw [m_sl_len, m_cat_map]; exact hcat)
  rw [m_args_L] at hl
  generalize (lg_sl (as.map (m_v (m_ad b N P))) ++ List.replicate (m_nL x - (lg_sl (as.map (m_v (m_ad b N P)))).length) Slot.unset).toArray = ls at hl ⊢
  exact ih p l e _ s m _ below meth c s.heap [] 0 0 _ D dt b N P x 0 AH.length (m_sl AH) ls (lv_args 0 as) [] AH AHf rv hl0 hx h
    ⟨hxx, hb, hml, hts, hown, fun h => hname.trans h, hK, hXs, hbN, hN, hPx⟩ hsz ⟨hl, hP, va_S.rf, Nat.zero_add _, Nat.zero_add _⟩ (Nat.le_refl _) (Nat.le_refl _)
    (show AHf.length ≤ (AHf.length - AH.length) + AH.length by omega) (show m_sl AHf ≤ (m_sl AHf - m_sl AH) + m_sl AH by omega) hT hX hfin
theorem m_rts_thr {i : Instr} {S1 : List Value} (h : m_rts i S1 = some rv) : m_thr rv = none := by
  unfold m_rts at h
  split at h <;> first | (cases h; rfl) | cases h
/-- a return's row -/
theorem m_end (hx : x < 245) {p : Program} {e : Env} {s : State} {m : MethodId} {args : Array Value} {below : List Frame} {meth : Method} {c : Code}
    (hxx : p.tables.exec = Jvm.exec) (hb : c.code = m_by x) (hr : meth.sig.returnType = m_rt x) (hlocks : meth.locks = false) (hm1 : AH.length ≤ AHf.length) (hm2 : m_sl AH ≤ m_sl AHf) {i : Instr} {pc' : Nat} {L1 : mL} {S1 : List Value} {ls' : Array Slot} {H' : Heap} {locs' : List Loc} {cells' slots' : Nat} {z : Int}
    (hdec : decode (m_by x) pc' = .ok (i, m_len i z)) (hrts : m_rts i S1 = some rv) (hrok : m_rok (m_rt x) rv = true) (hAt : m_At D dt b N P x AH.length (m_sl AH) s L1 AHf ls' H' locs' cells' slots') :
    W p l e (m_rm x (AHf.length - AH.length) (m_sl AHf - m_sl AH)) s m args below meth c H' locs' cells' slots' (MQ below (m_Qc D dt b N P rv AHf) args s (AHf.length - AH.length) (m_sl AHf - m_sl AH) (fun q => N ≤ q)) (F0 m pc' ls' (S1.map (m_v (m_ad b N P)))) := by
  have hth := m_rts_thr hrts
  obtain ⟨hl', hP', hS', hc', hs'⟩ := hAt
  refine W.widen (k := AHf.length - AH.length) (n := m_sl AHf - m_sl AH) (by omega) (by omega) ?_
  have fin : ∀ (v : Option Value), rv = v → ∀ t : State, t.heap = H' → s.WarmedH t.vm → m_Qc D dt b N P rv AHf args s (.returned (v.map (m_v (m_ad b N P)))) t := by
    intro v hv t ht hW
    subst hv
    exact ⟨rfl, hth, by rw [ht]; exact hP', hS'.F ht⟩
  unfold m_rts at hrts
  split at hrts
  · next v =>
    cases hrts
    unfold m_rok at hrok
    split at hrok
    · next h1 h2 => cases h2; exact W.iret hxx hb (hr.trans h1) (fin _ rfl) hS'.2.2 hdec
    · next w h1 h2 => cases h2; exact W.zret hxx hb (hr.trans h1) (of_decide_eq_true hrok) (fin _ rfl) hS'.2.2 hdec
    all_goals first | (next h1 h2 => cases h2; done) | (next h2 => cases h2; done) | (cases hrok; done) | skip
  · next v =>
    cases hrts
    unfold m_rok at hrok
    split at hrok
    all_goals first | (next h1 h2 => cases h2; exact W.lret hxx hb (hr.trans h1) (fin _ rfl) hS'.2.2 hdec) | (next h1 h2 => cases h2; done) | (cases hrok; done) | skip
  · next v =>
    cases hrts
    unfold m_rok at hrok
    split at hrok
    all_goals first | (next h1 h2 => cases h2; exact W.dret hxx hb (hr.trans h1) (fin _ rfl) hS'.2.2 hdec) | (next h1 h2 => cases h2; done) | (cases hrok; done) | skip
  · next v =>
    cases hrts
    unfold m_rok at hrok
    split at hrok
    all_goals first | (next h1 h2 => cases h2; exact W.aret hxx hb (hr.trans h1) (Or.inl ⟨_, rfl⟩) (Or.inr ⟨_, rfl⟩) (fin _ rfl) hS'.2.2 hdec) | (next h1 h2 => cases h2; exact W.aret hxx hb (hr.trans h1) (Or.inr ⟨_, rfl⟩) (Or.inr ⟨_, rfl⟩) (fin _ rfl) hS'.2.2 hdec) | (next h1 h2 => cases h2; done) | (cases hrok; done) | skip
  · cases hrts
    unfold m_rok at hrok
    split at hrok
    all_goals first | (next h1 h2 => cases h2; done) | (next h1 h2 => exact W.vret hxx hb (hr.trans h1) (fin _ rfl) hS'.2.2 hdec) | (cases hrok; done) | skip
  · cases hrts
set_option maxHeartbeats 4000000 in
theorem m_met (ih : m_Sn scr n) (hl0 : l.stackTraces = false) (hx : x < 245) (hok : m_okM x = true) (hhx : (m_hx x).isEmpty = true) (hth : m_thr rv = none) (hcat : m_cat as ≤ m_nL x) (h : m_go scr n x 0 (lv_args 0 as) [] AH = some (rv, AHf)) : m_Ms l D dt b N P scr x as AH rv AHf := by
  obtain ⟨-, -, -, -, hpl⟩ := m_okM_code hok
  obtain ⟨hm1, hm2, -⟩ := m_go_mono scr n h
  have hcw : m_cw x = .code (m_nm x) (m_by x) (m_nL x) (m_rt x) := by unfold m_cw; rw [if_pos hhx]
  refine Met.ofW (cc := m_by x) (maxL := m_nL x) (ret := m_rt x) hpl (by unfold m_ws0; rw [hcw]) ?_
  intro p e s m args below meth c s₁ B hml hv
  have hts := atoms_spec (ws := m_ws0 x) B.pre
  exact m_enter ih hl0 hx hcat h B.exec B.bytes hml (fun w hw => hts w (List.mem_cons_of_mem _ hw)) (findClass_of_methodNamed B.named) (name_of_methodNamed B.named B.method).1 hv (fun h => by rw [hhx] at h; cases h)
    (fun k hk => by rw [hth] at hk; cases hk) (fun i pc' L1 S1 ls' H' locs' cells' slots' z hdec hrts hrok hAt => m_end hx B.exec B.bytes B.returns B.notSynchronized hm1 hm2 hdec hrts hrok hAt)
set_option maxHeartbeats 4000000 in
theorem m_metX (ih : m_Sn scr n) (hl0 : l.stackTraces = false) (hx : x < 245) (hok : m_okM x = true) (hcat : m_cat as ≤ m_nL x) (h : m_go scr n x 0 (lv_args 0 as) [] AH = some (rv, AHf)) : m_MX l D dt b N P scr x as AH rv AHf := by
  obtain ⟨-, -, -, -, hpl⟩ := m_okM_code hok
  obtain ⟨hm1, hm2, -⟩ := m_go_mono scr n h
  by_cases hhx : (m_hx x).isEmpty = true
  · have hcw : m_cw x = .code (m_nm x) (m_by x) (m_nL x) (m_rt x) := by unfold m_cw; rw [if_pos hhx]
    refine vx_ofW (cc := m_by x) (maxL := m_nL x) (ret := m_rt x) hpl (by unfold m_ws0; rw [hcw]) ?_
    intro p e s m args below meth c s₁ B hml htb hv
    have hts := atoms_spec (ws := m_ws0 x) B.pre
    exact m_enter ih hl0 hx hcat h B.exec B.bytes hml (fun w hw => hts w (List.mem_cons_of_mem _ hw)) (findClass_of_methodNamed B.named) (name_of_methodNamed B.named B.method).1 hv (fun h => by rw [hhx] at h; cases h)
      (fun k hk _ => ⟨_, _, _, rfl, by omega, by omega, B.notSynchronized, htb⟩) (fun i pc' L1 S1 ls' H' locs' cells' slots' z hdec hrts hrok hAt => vx_ret (m_end hx B.exec B.bytes B.returns B.notSynchronized hm1 hm2 hdec hrts hrok hAt))
  · have hcw : m_cw x = .codeWith (m_nm x) (m_by x) (m_nL x) (m_rt x) (m_hh x) := by unfold m_cw; rw [if_neg hhx]
    refine vx_ofWH (cc := m_by x) (maxL := m_nL x) (ret := m_rt x) (hh := m_hh x) hpl (by unfold m_ws0; rw [hcw]) ?_
    intro p e s m args below meth c s₁ B hml hv
    have hts := atoms_spec (ws := m_ws0 x) B.pre
    exact m_enter ih hl0 hx hcat h B.exec B.bytes hml (fun w hw => hts w (List.mem_cons_of_mem _ hw)) (findClass_of_methodNamed B.named) (name_of_methodNamed B.named B.method).1 hv (fun _ => vx_table (x := m_nm x) B (by rw [← hcw]; exact hts _ List.mem_cons_self))
      (fun k hk h9 => absurd h9 hhx) (fun i pc' L1 S1 ls' H' locs' cells' slots' z hdec hrts hrok hAt => vx_ret (m_end hx B.exec B.bytes B.returns B.notSynchronized hm1 hm2 hdec hrts hrok hAt))
end ME
theorem m_cut_of {x : Nat} {S S' as : List Value} {H : List mC} (h : m_cut x S H = some (as, S')) : m_cat S' ≤ 8 ∧ ((m_stc x = true ∧ S = as.reverse ++ S' ∧ as.length = m_na x) ∨
    (m_stc x = false ∧ ∃ (r : Nat) (As : List Value), as = .ref r :: As ∧ S = As.reverse ++ .ref r :: S' ∧ As.length = m_na x ∧ m_rcv H r = some (m_rc x))) := by
  unfold m_cut at h
  split at h
  · next hst =>
    split at h
    · next hc =>
      cases h
      exact ⟨hc.2, Or.inl ⟨hst, by rw [List.reverse_reverse, List.take_append_drop], by rw [List.length_reverse, List.length_take]; omega⟩⟩
    · cases h
  · next hst =>
    split at h
    · next r S1 hd =>
      split at h
      · next ci hg =>
        split at h
        · next hc =>
          cases h
          obtain ⟨h1, h2⟩ := hc
          subst h1
          have hl : m_na x < S.length := by
            have := congrArg List.length hd
            simp at this
            omega
          refine ⟨h2, Or.inr ⟨by simpa using hst, r, (S.take (m_na x)).reverse, rfl, ?_, by rw [List.length_reverse, List.length_take]; omega, hg⟩⟩
          rw [List.reverse_reverse, ← hd, List.take_append_drop]
        · cases h
      · cases h
    · cases h
theorem m_pay {s : State} {args : Array Value} (hts : ∀ w ∈ m_gw, w.before args s = true) {x : Nat} (hc : m_cw x ∈ m_gw) : ∀ w ∈ m_ws0 x, ∀ (a' : Array Value) (U : State), s.WarmedH U.vm → w.before a' U = true :=
  pay_in hts (m_good hc)
