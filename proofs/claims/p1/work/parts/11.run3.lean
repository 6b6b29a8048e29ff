/-! the throw sites' words; a run of the data is a run of the machine -/
def m_sp : List (List Nat) := [[54, 425, 434, 438, 441, 443, 426, 427, 78, 79, 428, 433, 439, 459, 415, 460, 417, 461, 419, 429, 431, 421, 455, 456, 458, 421, 446, 447, 448, 449, 407, 449, 450, 451, 452, 409, 452, 453, 454, 455, 411, 445, 404, 405, 412, 413, 414, 416, 418, 420, 424, 423, 422],
  [54, 425, 434, 438, 441, 443, 426, 427, 78, 79, 428, 433, 439, 459, 415, 460, 417, 461, 419, 429, 431, 421, 455, 456, 458, 421, 491, 492, 493, 449, 407, 449, 450, 451, 452, 409, 452, 453, 454, 455, 411, 490, 481, 482, 483, 436, 484, 485, 486, 487, 424, 423, 488],
  [54, 425, 434, 438, 441, 443, 426, 427, 78, 79, 428, 433, 439, 459, 415, 460, 417, 461, 419, 429, 431, 421, 455, 456, 458, 421, 577, 578, 579, 449, 407, 449, 450, 451, 452, 409, 452, 453, 454, 455, 411, 576, 567, 568, 569, 437, 570, 571, 572, 573, 424, 423, 574]]
def m_sok (ik ic k : Nat) : Bool := decide ((vx_atS RX5 ic (m_exn k) m_sup).length = (m_sp.getD k []).length) && ((vx_atS RX5 ic (m_exn k) m_sup).zip (m_sp.getD k [])).all (fun q => m_wp q.2 q.1 || decide (q.1 ∈ m_ng)) && (Cond.classLink RX5 ik (m_exn k) :: Cond.initialized (m_exn k) :: vx_atS RX5 ic (m_exn k) m_sup).all vx_ot && Bundle.fit (m_exn k)
set_option maxRecDepth 100000 in
theorem m_sok0 : m_sok 231 235 0 = true := by decide +kernel
set_option maxRecDepth 100000 in
theorem m_sok1 : m_sok 240 244 1 = true := by decide +kernel
set_option maxRecDepth 100000 in
theorem m_sok2 : m_sok 245 249 2 = true := by decide +kernel
theorem m_sokAll (q : Nat × Nat × Nat × Nat × String) (h : q ∈ m_sites) : m_sok q.1 q.2.2.1 q.2.2.2.1 = true := by
  simp only [m_sites, List.mem_cons, List.not_mem_nil, or_false] at h
  rcases h with rfl | rfl | rfl | rfl
  · exact m_sok0
  · exact m_sok0
  · exact m_sok1
  · exact m_sok2
theorem m_zip_mem {α β : Type} : ∀ (l : List α) (r : List β) (a : α), l.length = r.length → a ∈ l → ∃ b, (a, b) ∈ l.zip r
  | [], r, a, _, h => by cases h
  | x :: l, [], a, h, _ => by cases h
  | x :: l, y :: r, a, h, ha => by
    rcases List.mem_cons.mp ha with rfl | ha
    · exact ⟨y, by simp⟩
    · obtain ⟨b, hb⟩ := m_zip_mem l r a (by simpa using h) ha
      exact ⟨b, by simp [hb]⟩
theorem m_sokW {ik ic k : Nat} (h : m_sok ik ic k = true) : (∀ w ∈ vx_atS RX5 ic (m_exn k) m_sup, w ∈ m_gw ∨ w ∈ m_ng) ∧ (∀ w ∈ Cond.classLink RX5 ik (m_exn k) :: Cond.initialized (m_exn k) :: vx_atS RX5 ic (m_exn k) m_sup, vx_ot w = true) ∧ Bundle.fit (m_exn k) = true := by
  simp only [m_sok, Bool.and_eq_true, decide_eq_true_eq] at h
  obtain ⟨⟨⟨h1, h2⟩, h3⟩, h4⟩ := h
  refine ⟨fun w hw => ?_, fun w hw => List.all_eq_true.mp h3 w hw, h4⟩
  obtain ⟨i, hi⟩ := m_zip_mem _ _ w h1 hw
  have h5 := List.all_eq_true.mp h2 _ hi
  simp only [Bool.or_eq_true, decide_eq_true_eq] at h5
  rcases h5 with h5 | h5
  · exact Or.inl (m_wp_in h5)
  · exact Or.inr h5
theorem m_exn_self (k : Nat) (hk : k < 3) : (.castable (m_exn k) (m_exn k) : Cond) ∈ m_ng := by
  match k, hk with
  | 0, _ => simp [m_ng, m_exn]
  | 1, _ => simp [m_ng, m_exn]
  | 2, _ => simp [m_ng, m_exn]
  | n + 3, h => omega
theorem m_sup_fit : ∀ n ∈ m_sup, Bundle.fit n = true := by
  intro n hn
  simp only [m_sup, List.mem_cons, List.not_mem_nil, or_false] at hn
  rcases hn with rfl | rfl <;> decide +kernel
theorem m_drop_has {ad : Nat → Nat} {ls : Array Slot} {nL k : Nat} {v : Value} {L : mL} (h : lv_has ls nL ((k, v) :: (m_L ad L).filter (fun q => !(q.1 == k) && !(q.1 + 1 == k && q.2.category == 2)))) : lv_has ls nL (m_L ad (m_drop k L)) := by
  refine ⟨h.1, h.2.1, fun q hq => h.2.2 q (List.mem_cons_of_mem _ ?_)⟩
  obtain ⟨r, hr, rfl⟩ := List.mem_map.mp hq
  obtain ⟨h1, h2⟩ := List.mem_filter.mp hr
  exact List.mem_filter.mpr ⟨List.mem_map.mpr ⟨r, h1, rfl⟩, by simp only [m_v_cat]; exact h2⟩
theorem m_hx_cls (x : Nat) (h : ¬ (m_hx x).isEmpty = true) : (m_nm x).cls = "ParallaxSheetsLaw" := by
  have h2 : 215 ≤ x ∧ x ≤ 243 := by
    apply Classical.byContradiction
    intro h9
    apply h
    unfold m_hx
    split <;> first | rfl | (exfalso; omega)
  obtain ⟨h3, h4⟩ := h2
  have h5 : ∀ j, j < 29 → (m_nm (215 + j)).cls = "ParallaxSheetsLaw" := by decide +kernel
  have h6 := h5 (x - 215) (by omega)
  rwa [show 215 + (x - 215) = x by omega] at h6
theorem m_u32 (x : Nat) (hx : x < 3) : (UInt32.ofNat x).toNat = x := by
  match x, hx with
  | 0, _ => rfl
  | 1, _ => rfl
  | 2, _ => rfl
  | n + 3, h => omega
theorem m_cl_exn (x : Nat) (hx : x < 3) : ∃ rr, m_cl[10 + x]? = some rr ∧ rr.1 = m_exn x ∧ rr.2.2 = 0 := by
  match x, hx with
  | 0, _ => exact ⟨_, rfl, rfl, rfl⟩
  | 1, _ => exact ⟨_, rfl, rfl, rfl⟩
  | 2, _ => exact ⟨_, rfl, rfl, rfl⟩
  | n + 3, h => omega
section TH
variable {p : Program} {l : Launch} {e : Env} {R : Room} {s : State} {m : MethodId} {args : Array Value} {below : List Frame} {meth : Method} {c : Code} {H : Heap} {ls : Array Slot} {rest : List Value} {locs : List Loc} {cells slots : Nat} {Q : State → Prop} {free : Addr → Prop}
variable {Qc : Array Value → State → Outcome → State → Prop} {XC : String → State → State → Prop}
/-- vx_throwS, told besides what stands where the exception was made -/
theorem m_throwS {cc : ByteArray} {pc : Nat} (hexec : p.tables.exec = Jvm.exec) (hb : c.code = cc) (hl : l.stackTraces = false) {own cls text : String} {names : List String} {ik is ic mc ms sa : Nat} {A : Nat → Prop}
    (hown : s.vm.findClass own = some m.cls) (hcls : Bundle.fit cls = true) (hnames : ∀ n ∈ names, Bundle.fit n = true)
    (hk : (Cond.classLink own ik cls).before args s = true) (hini : (Cond.initialized cls).before args s = true) (hstr : vk_R own is text sa s) (hat : ∀ w ∈ vx_atS own ic cls names, w.before args s = true)
    (hgood : ∀ w ∈ Cond.classLink own ik cls :: Cond.initialized cls :: vx_atS own ic cls names, vx_ot w = true)
    (hU : vx_Zq Bundle.tN "UNASSIGNED_STACK" Bundle.steD A s s.heap) (hN : vx_Zq Bundle.tN "SUPPRESSED_SENTINEL" Bundle.listD A s s.heap) (hS : va_S A s.heap H locs) (hsize : ls.size = c.maxLocals)
    (d0 : decode cc pc = .ok (.new ik, 3)) (d3 : decode cc (pc + 3) = .ok (.dup, 1)) (d4 : decode cc (pc + 4) = .ok (.ldc is, 2)) (d6 : decode cc (pc + 6) = .ok (.invokespecial ic, 3)) (d9 : decode cc (pc + 9) = .ok (.athrow, 1))
    (hout : ∀ x ∈ c.exceptionTable.toList, covers x (pc + 9) = false)
    (hRframes : names.length + 3 < R.frames) (hRlocals : (rest.map fun v => v.category).sum + (13 * (names.length + 1) + 43) ≤ R.locals) (hRcells : cells + 1 ≤ R.cells) (hRslots : slots + 6 ≤ R.slots) (hlocks : meth.locks = false)
    (hx : ∀ t : State, s.vm.Alike t.vm → H.size ≤ t.heap.size → (∀ q : Nat, q < H.size → t.heap[q]? = H[q]?) → (∃ ce : Cell, t.heap[H.size]? = some ce ∧ ce.vm = .none ∧ s.vm.findClass cls = some ce.cls) → XC cls s t)
    (hf : ∀ z ∈ locs, free z.base) (hc : cells + 1 ≤ mc) (hs : slots + 6 ≤ ms) :
    W p l e R s m args below meth c H locs cells slots (vx_MQ below Qc XC args s mc ms free) (F0 m pc ls rest) := by
  intro T hT X
  have htr : e.platform.stackTraces = false := (show e.platform.stackTraces = l.stackTraces by rw [X.admits.platform]).trans hl
  have Y := vx_rebase X (R' := { frames := R.frames, locals := R.locals, cells := 1, slots := 6 }) (Nat.le_refl _) (Nat.le_refl _) hRcells hRslots
  obtain ⟨s', hA⟩ : ∃ z, z = (T.setVm s.vm).setFrames (.invoking m args :: below) := ⟨_, rfl⟩
  rw [← hA] at Y
  have hvm : s'.vm = s.vm := by rw [hA]; rfl
  have hhp : s'.heap = H := by rw [hA]; exact hT
  have hW0 : s.WarmedH s'.vm := by rw [hvm]; exact State.WarmedH.refl s
  have hat' : ∀ w ∈ vx_atS own ic cls names, w.before args s' = true := fun w hw => vx_ot_at hW0 hvm.symm (hgood w (List.mem_cons_of_mem _ (List.mem_cons_of_mem _ hw))) (hat w hw)
  have hk' : (Cond.classLink own ik cls).before args s' = true := vx_ot_at hW0 hvm.symm (hgood _ List.mem_cons_self) hk
  have hini' : (Cond.initialized cls).before args s' = true := vx_ot_at hW0 hvm.symm (hgood _ (List.mem_cons_of_mem _ List.mem_cons_self)) hini
  have hU' : vx_Zq Bundle.tN "UNASSIGNED_STACK" Bundle.steD A s' s'.heap := by rw [hhp]; exact vx_Zq.moved hW0.alike (hU.kept hS.2.1)
  have hN' : vx_Zq Bundle.tN "SUPPRESSED_SENTINEL" Bundle.listD A s' s'.heap := by rw [hhp]; exact vx_Zq.moved hW0.alike (hN.kept hS.2.1)
  have h : ∀ w ∈ Bundle.ownAtoms own ic cls names, w.before args s' = true := vx_own hat' (vx_isRefq hU'.1) (vx_isRefq hN'.1) hU'.2.word hN'.2.word
  have hown' : s'.vm.findClass own = some m.cls := by rw [hvm]; exact hown
  have hins : (Cond.instantiable cls 6).before args s' = true := h _ (by simp [Bundle.ownAtoms])
  obtain ⟨vm₁, cX, kX, hfX, hkX, -, -, X₁, st1⟩ := Y.newCold hexec (own := own) (C := cls) (index := ik) (n := 6) hown' hk' hins hini'
    (g := F0 m pc ls rest) rfl (by rw [hb]; exact d0) (Nat.le_refl _) (Nat.le_refl _)
  generalize hT1 : (T.setVm vm₁).pushCell { cls := cX, slots := kX.instanceTypes.map defaultValue, vm := .none } = T1 at X₁ st1
  have hcat : (Value.ref T.heap.size).category = 1 := rfl
  have hcellA : T1.heap[T.heap.size]? = some (freshCell cX kX) := by rw [← hT1]; exact State.heap_pushCell_size _ _
  have d3' : decode c.code (pc + 3) = .ok (.dup, 1) := by rw [hb]; exact d3
  have d4' : decode c.code (pc + 4) = .ok (.ldc is, 2) := by rw [hb]; exact d4
  have hstr' : vk_R own is text sa s' := vk_R.warm hW0 hstr
  obtain ⟨U, hsteps, hrun, hend, hW, hsame, ce, hce, hO⟩ := X₁.ctorThrowS hexec htr (own := own) (cls := cls) (names := names) (ic := ic) hown' hcls hnames h (fun x hx => nomatch hx) hfX hkX hcellA (by rw [hhp, hT]; exact Nat.le_refl _) (msg := .ref sa) rfl
    (g := { method := m, pc := pc + 6, locals := ls, stack := .ref sa :: .ref T.heap.size :: .ref T.heap.size :: rest, locked := none }) rfl hsize rfl rfl (rest := rest) rfl
    (by rw [hb]; exact d6) (by rw [hb]; exact d9) hout hRframes (by simp only [List.map_cons, List.sum_cons, hcat]; omega) hlocks
  obtain ⟨f1, f2⟩ := vx_frame hsame
  rw [hhp] at f1 f2
  have hWs : s.WarmedH U.vm := State.WarmedH.trans hW0 hW
  have hcl : s.vm.findClass cls = some ce.cls := by
    have h9 := hO.cls
    rw [hvm] at h9
    exact h9
  have hall : s.sameButNew ({ U with vm := s.vm } : State) locs mc ms := by
    subst hA
    obtain ⟨e1, e2⟩ := hsame
    rw [State.setFrames_setFrames] at e1
    have h2 : (T.setVm s.vm).sameButNew ({ U with vm := s.vm } : State) [] (0 + 1) (0 + 6) := ⟨e1, e2⟩
    have h3 := X.same.trans h2
    rw [List.append_nil] at h3
    exact h3.mono hc hs
  refine ⟨U, ?_, .threw T.heap.size, hrun, hend, Or.inr ⟨T.heap.size, rfl, cls, ce, locs, hx U hWs.alike f1 (fun q hq => f2 q hq (fun z hz => nomatch hz)) ⟨ce, by rw [← hT]; exact hce, hO.vm, hcl⟩, hce, hO.vm, hcl, hWs, hall, hf⟩⟩
  refine st1 _ ?_
  show Steps p.tables e below (T1.setTop { method := m, pc := pc + 3, locals := ls, stack := .ref T.heap.size :: rest, locked := none }) _
  jvm_step X₁.here [X₁.here.top, hexec, d3', Value.category]
  exact X₁.ldcString hexec (own := own) (text := text) (index := is) (a := sa) hown' hstr'.1 hstr'.2
    (g := { method := m, pc := pc + 4, locals := ls, stack := .ref T.heap.size :: .ref T.heap.size :: rest, locked := none }) rfl d4' _ hsteps
end TH
section MSN
set_option maxHeartbeats 8000000 in
theorem m_snd (hall : ∀ M, M < 245 → (m_prog M).all (m_okE M) = true) (hokM : ∀ x, m_isM x = true → m_okM x = true) (scr : List Int32) : ∀ n, m_Sn scr n := by
  intro n
  induction n with
  | zero =>
    intro p l e R s m args below meth c H locs cells slots Q D dt b N P M pc a0 s0 ls L S AH AHf rv hl0 hM h
    cases h
  | succ n ih =>
    intro p l e R s m args below meth c H locs cells slots Q D dt b N P M pc a0 s0 ls L S AH AHf rv hl0 hM h hC hsz hA hR1 hR2 hcf hsf hT hX hfin
    rw [m_go_s] at h
    unfold m_st at h
    split at h
    · cases h
    · next i x y w z hcode =>
      have hE := m_code_of hcode (hall M hM)
      split at h
      · next hw8 =>
        -- a throw site
        split at h
        · next k0 =>
          cases h
          subst hw8
          obtain ⟨hx, hb, hml, hts, hown, hname, hK, hXs, hbN, hNs, hPx⟩ := id hC
          obtain ⟨hl, hP, hS, hc, hs⟩ := id hA
          unfold m_okE at hE
          obtain ⟨hdec0, hlk⟩ := Bool.and_eq_true_iff.mp hE
          have hdec := of_decide_eq_true hdec0
          dsimp only at hlk
          rw [if_pos rfl] at hlk
          split at hlk
          · next ik is ic ex tx hsite =>
            simp only [Bool.and_eq_true, decide_eq_true_eq] at hlk
            obtain ⟨⟨⟨⟨⟨⟨⟨⟨⟨⟨⟨⟨e1, e2⟩, hx3⟩, hcls⟩, d3⟩, d4⟩, d6⟩, d9⟩, wk⟩, wi⟩, r1⟩, r2⟩, hhx⟩ := hlk
            subst e1; subst e2
            have hmem := List.mem_of_getElem? hsite
            obtain ⟨hat, hgood, hfit⟩ := m_sokW (m_sokAll _ hmem)
            obtain ⟨sa, hstr⟩ := hK.2.2.2.2.1 _ hmem
            have hthr : m_thr (some (Value.float (UInt32.ofNat x))) = some x := by
              show some (UInt32.ofNat x).toNat = some x
              rw [m_u32 x hx3]
            obtain ⟨Qc, mc, ms, rfl, q1, q2, hlocks, htb⟩ := hX x hthr hhx
            have hlen : (AH ++ [Sum.inr (10 + x, [])] : List mC).length = AH.length + 1 := by simp
            have hsl := m_sl_app AH (Sum.inr (10 + x, []))
            have hsz2 : m_sz (Sum.inr (10 + x, [])) = 6 := if_pos (by omega)
            rw [hlen] at hcf q1
            rw [hsl, hsz2] at hsf q2
            rw [hcls] at hown
            refine m_W_size (fun hzs => ?_)
            have hpre := m_pre hC hsz hA hzs [] ({ s with heap := H } : State) rfl (State.WarmedH.refl s)
            have hHN : H.size = N + AH.length := hpre.2.1 (by simp [m_nox, m_mk])
            refine m_throwS (own := RX5) (cls := m_exn x) (text := tx) (names := m_sup) (sa := sa) (A := fun q => N ≤ q) hx hb hl0 hown hfit m_sup_fit (hts _ (m_wp_in wk)) (hts _ (m_wp_in wi)) hstr
              (fun w hw => (hat w hw).elim (fun h => hts _ h) (fun h => m_ng_use h (hK.2.1 _ h))) hgood hPx.2.2.2.2.2.2.2.1 hPx.2.2.2.2.2.2.2.2 hS (hml.trans hl.1.symm).symm hdec d3 d4 d6 d9 (fun z hz => (htb z hz).elim)
              (show 2 + 3 < R.frames by omega) (show 0 + (13 * (2 + 1) + 43) ≤ R.locals by omega) (by omega) (by omega) hlocks ?_ hS.2.2 (by omega) (by omega)
            intro t hal hz hkeep hnew
            refine ⟨⟨x, hthr, hx3, rfl⟩, ?_, Nat.le_trans hS.1 hz, fun q h1 h2 => ?_⟩
            · rw [m_ws_app _ _ _ _ rfl]
              intro k q hq
              by_cases hk : k < (m_ws N (m_ad b N P) dt 0 AH).length
              · rw [List.getElem?_append_left hk] at hq
                exact (hP k q hq).kept (hkeep q.1 (hP k q hq).lt)
              · rw [List.getElem?_append_right (by omega)] at hq
                cases hkk : k - (m_ws N (m_ad b N P) dt 0 AH).length with
                | zero =>
                  rw [hkk] at hq
                  cases hq
                  obtain ⟨ce, hce, hcv, hcc⟩ := hnew
                  obtain ⟨rr, hrr, hrn, hr0⟩ := m_cl_exn x hx3
                  refine ⟨rr, hrr, ce, ?_, ?_, hcv, fun j hj => ?_⟩
                  · show t.heap[N + (0 + AH.length)]? = _
                    rw [show N + (0 + AH.length) = H.size by omega]
                    exact hce
                  · have h9 := (hK.1.1 _ _ hrr).2.1
                    rw [hrn, hcc] at h9
                    exact Option.some.inj h9
                  · rw [hr0] at hj
                    exact absurd hj (Nat.not_lt_zero j)
                | succ kk => rw [hkk] at hq; cases hq
            · rw [hkeep q (Nat.lt_of_lt_of_le h1 hS.1)]
              exact hS.2.1 q h1 h2
          · cases hlk
        · cases h
      · next hw8 =>
        split at h
        · next hw =>
          split at h
          · next as S' hcut =>
            split at h
            · next hcat =>
              split at h
              · next v H1 hcall =>
                obtain ⟨hm1, hm2, hm5⟩ := m_go_mono scr n hcall
                obtain ⟨hx, hb, hml, hts, hown, hname, hK, hXs, hbN, hNs, hPx⟩ := id hC
                obtain ⟨hl, hP, hS, hc, hs⟩ := id hA
                obtain ⟨hc8, hcase⟩ := m_cut_of hcut
                unfold m_okE at hE
                obtain ⟨hdec0, hlk⟩ := Bool.and_eq_true_iff.mp hE
                have hdec := of_decide_eq_true hdec0
                refine m_W_size (fun hz => ?_)
                have hpre := m_pre hC hsz hA hz
                have hm6 : H1.length ≤ AHf.length ∧ m_sl H1 ≤ m_sl AHf := by
                  split at h
                  · exact ⟨(m_go_mono scr n h).1, (m_go_mono scr n h).2.1⟩
                  · split at h
                    · split at h
                      · cases h; exact ⟨Nat.le_refl _, Nat.le_refl _⟩
                      · split at h
                        · exact ⟨(m_go_mono scr n h).1, (m_go_mono scr n h).2.1⟩
                        · cases h
                    · cases h
                have go_on : m_thr v = none → ∀ (H2 : Heap) (locs2 : List Loc), va_P D m_cl (m_ws N (m_ad b N P) dt 0 H1) H2 → va_S (fun q => N ≤ q) s.heap H2 locs2 →
                    W p l e R s m args below meth c H2 locs2 (cells + (H1.length - AH.length)) (slots + (m_sl H1 - m_sl AH)) Q (F0 m (pc + 3) ls ((v.map (m_v (m_ad b N P))).toList ++ S'.map (m_v (m_ad b N P)))) := by
                  intro hth H2 locs2 hP2 hS2
                  simp only [hth] at h
                  have e1 : (v.map (m_v (m_ad b N P))).toList ++ S'.map (m_v (m_ad b N P)) = (v.toList ++ S').map (m_v (m_ad b N P)) := by
                    cases v <;> rfl
                  rw [e1]
                  exact ih p l e R s m args below meth c H2 locs2 _ _ Q D dt b N P M (pc + 3) a0 s0 ls L (v.toList ++ S') H1 AHf rv hl0 hM h hC (fun q => hsz (hm5 q)) ⟨hl, hP2, hS2, by omega, by omega⟩ hR1 hR2 hcf hsf hT hX hfin
                have go_x : m_ths i w = true → ∀ k : Nat, m_thr v = some k → k < 3 → ∀ (q9 : Addr) (ce : Cell) (H2 : Heap) (locs2 : List Loc), va_P D m_cl (m_ws N (m_ad b N P) dt 0 H1) H2 → va_S (fun q => N ≤ q) s.heap H2 locs2 → H2[q9]? = some ce → ce.vm = .none → s.vm.findClass (m_exn k) = some ce.cls →
                    vx_W p l e R s m args below meth c H2 locs2 (cells + (H1.length - AH.length)) (slots + (m_sl H1 - m_sl AH)) Q (F0 m pc ls (S'.map (m_v (m_ad b N P)))) q9 := by
                  intro hths k hk hk3 q9 ce H2 locs2 hP2 hS2 hce hcv hcl
                  simp only [hk, hths, if_true] at h
                  split at h
                  · next hhx =>
                    cases h
                    obtain ⟨Qc, mc, ms, rfl, q1, q2, hlocks, htb⟩ := hX k hk hhx
                    exact vx_out (fun z hz => (htb z hz).elim) hlocks hce hcv hcl (fun t ht _ => ⟨⟨k, hk, hk3, rfl⟩, by rw [ht]; exact hP2, hS2.F ht⟩) hS2.2.2 (by omega) (by omega)
                  · next hhx =>
                    split at h
                    · next q sl hhd =>
                      have htab := hT (by simpa using hhx)
                      unfold m_hd at hhd
                      split at hhd
                      · next row hrow =>
                        obtain ⟨hp, pre, suf, hsplit, hpass⟩ := List.find?_eq_some_iff_append.mp hrow
                        simp only [Bool.and_eq_true, decide_eq_true_eq, beq_iff_eq] at hp
                        obtain ⟨⟨hp1, hp2⟩, hp3⟩ := hp
                        have hM244 : M < 244 := by
                          apply Nat.lt_of_not_le
                          intro h9
                          have : M = 244 := by omega
                          subst this
                          exact hhx rfl
                        have hisM : m_isM M = true := by
                          by_cases h9 : 195 ≤ M ∧ M ≤ 197
                          · exfalso
                            have : M = 195 ∨ M = 196 ∨ M = 197 := by omega
                            rcases this with rfl | rfl | rfl <;> exact hhx rfl
                          · simp only [m_isM, Bool.or_eq_true, Bool.and_eq_true, decide_eq_true_eq]; omega
                        obtain ⟨-, hrows⟩ := m_okM_hx (hokM M hisM) hhx
                        have hrm : row ∈ m_hx M := by rw [hsplit]; simp
                        obtain ⟨hlink, hnz, hk9⟩ := hrows _ hrm
                        have htab2 : c.exceptionTable.toList = tableOf (pre.map (fun q => q.1)) ++ (⟨row.1.1, row.1.2.1, row.1.2.2.1, row.1.2.2.2⟩ : ExceptionTableEntry) :: tableOf (suf.map (fun q => q.1)) := by
                          rw [htab]
                          unfold m_hh tableOf
                          rw [hsplit]
                          simp
                        have hcont : ∀ ls', lv_has ls' (m_nL M) (m_L (m_ad b N P) (m_drop sl L)) → W p l e R s m args below meth c H2 locs2 (cells + (H1.length - AH.length)) (slots + (m_sl H1 - m_sl AH)) Q (F0 m q ls' []) := by
                          intro ls' hls'
                          exact ih p l e R s m args below meth c H2 locs2 _ _ Q D dt b N P M q a0 s0 ls' (m_drop sl L) [] H1 AHf rv hl0 hM h hC (fun q => hsz (hm5 q)) ⟨hls', hP2, hS2, by omega, by omega⟩ hR1 hR2 hcf hsf hT hX hfin
                        refine vx_catch (own := (m_nm M).cls) (name := m_exn k) (E := m_exn k) (ce := ce) hown _ _ _ htab2 (fun z hz => ?_) ?_ hnz (by rw [← hp3]; exact hts _ hlink) (m_ng_use (m_exn_self k hk3) (hK.2.1 _ (m_exn_self k hk3))) hce hcv hcl ?_
                        · obtain ⟨t4, ht4, rfl⟩ := List.mem_map.mp hz
                          obtain ⟨r5, hr5, rfl⟩ := List.mem_map.mp ht4
                          have hn5 := hpass r5 hr5
                          have hr5m : r5 ∈ m_hx M := by rw [hsplit]; simp [hr5]
                          obtain ⟨hlink5, hnz5, hk5⟩ := hrows _ hr5m
                          by_cases hcov : r5.1.1 ≤ pc ∧ pc < r5.1.2.1
                          · right
                            refine ⟨hnz5, m_exn r5.2.1, hts _ hlink5, ?_⟩
                            refine hK.2.2.2.2.2 k r5.2.1 hk3 hk5 (fun he => ?_)
                            simp [hcov.1, hcov.2, he] at hn5
                          · left
                            show covers ⟨r5.1.1, r5.1.2.1, r5.1.2.2.1, r5.1.2.2.2⟩ pc = false
                            simp only [covers]
                            simp
                            intro h8
                            omega
                        · show covers ⟨row.1.1, row.1.2.1, row.1.2.2.1, row.1.2.2.2⟩ pc = true
                          simp [covers, hp1, hp2]
                        · split at hhd
                          · next sq rest9 hcode9 =>
                            cases hhd
                            have hE9 := m_code_of hcode9 (hall M hM)
                            unfold m_okE at hE9
                            obtain ⟨hd9, hk9⟩ := Bool.and_eq_true_iff.mp hE9
                            exact lv_astore_n hx hb (of_decide_eq_true hd9) rfl hl (of_decide_eq_true hk9) rfl (fun ls' h' => hcont ls' (m_drop_has h'))
                          · next sq rest9 hcode9 =>
                            cases hhd
                            have hE9 := m_code_of hcode9 (hall M hM)
                            unfold m_okE at hE9
                            obtain ⟨hd9, hk9⟩ := Bool.and_eq_true_iff.mp hE9
                            exact lv_astore hx hb (of_decide_eq_true hd9) hl (of_decide_eq_true hk9) rfl (fun ls' h' => hcont ls' (m_drop_has h'))
                          · cases hhd
                      · cases hhd
                    · cases h
                have hf : cells + (H1.length - AH.length) ≤ R.cells ∧ slots + (m_sl H1 - m_sl AH) ≤ R.slots := by omega
                have hrest : 2 * (F0 m pc ls (S.map (m_v (m_ad b N P)))).monitorRoom + ((S'.map (m_v (m_ad b N P))).map fun v => v.category).sum ≤ 8 := by
                  show 2 * 0 + _ ≤ 8
                  rw [m_cat_v]
                  omega
                have hfix : CallFix p m c (m_by M) (m_nL M) s args m_gw (m_nm M).cls := ⟨hx, hb, hml, hown, hts⟩
                have callee : ∀ k : Nat, m_okC M k x y w = true → m_isM x = true ∧ m_fr x + 1 ≤ R.frames ∧ 8 + (m_nL x + 11) + m_lo x ≤ R.locals ∧ ((w = 1 ∧ Cond.methodLink (m_nm M).cls k (m_nm x) ∈ m_gw) ∨ (w = 2 ∧ Cond.methodLinkNest (m_nm M).cls k (m_nm x) (m_host x) ∈ m_nest)) := by
                  intro k hk
                  simp only [m_okC, Bool.and_eq_true, decide_eq_true_eq] at hk
                  obtain ⟨⟨⟨h1, h2⟩, h3⟩, h4⟩ := hk
                  refine ⟨h4, by omega, by omega, ?_⟩
                  split at h1
                  · next hw1 => exact Or.inl ⟨hw1, m_wp_in h1⟩
                  · simp only [Bool.and_eq_true, decide_eq_true_eq] at h1
                    obtain ⟨hw2, h1⟩ := h1
                    obtain ⟨u, hu, he⟩ := List.any_eq_true.mp h1
                    have := of_decide_eq_true he
                    subst this
                    exact Or.inr ⟨hw2, hu⟩
                have hx245 : m_isM x = true → x < 245 := fun q => by
                  simp only [m_isM, Bool.or_eq_true, Bool.and_eq_true, decide_eq_true_eq] at q; omega
                -- what the non-throwing kinds of call know
                have hnot : m_ths i w = false → m_thr v = none := by
                  intro hq
                  cases hv : m_thr v with
                  | none => rfl
                  | some k => simp [hv, hq] at h
                cases i
                case invokevirtual k =>
                  dsimp only at hlk
                  rw [if_neg (by omega), if_neg (by omega)] at hlk
                  simp only [Bool.and_eq_true, decide_eq_true_eq] at hlk
                  obtain ⟨⟨⟨hw1, hk⟩, hst⟩, hni⟩ := hlk
                  obtain ⟨hxM, hrf, hrl, hlink⟩ := callee k hk
                  have hok := hokM x hxM
                  obtain ⟨c1, c2, c3, c4, -⟩ := m_okM_code hok
                  obtain ⟨d1, d2, d3⟩ := m_okM_inst hok hst
                  have hhx : (m_hx x).isEmpty = true := by
                    cases hq : (m_hx x).isEmpty with
                    | true => rfl
                    | false =>
                      obtain ⟨h9, -⟩ := m_okM_hx hok (by rw [hq]; exact Bool.false_ne_true)
                      rw [hst] at h9; cases h9
                  have hcw : m_cw x = .code (m_nm x) (m_by x) (m_nL x) (m_rt x) := by unfold m_cw; rw [if_pos hhx]
                  have hlink : Cond.methodLink (m_nm M).cls k (m_nm x) ∈ m_gw := by
                    rcases hlink with h | h
                    · exact h.2
                    · omega
                  have hsel : Cond.selects (m_nm x).cls (m_nm x) (m_nm x) ∈ m_gw := by
                    rcases d3 with h | h
                    · exact absurd h hni
                    · exact h
                  obtain ⟨rr, hrr, hrc⟩ : ∃ r, m_cl[m_rc x]? = some r ∧ r.1 = (m_nm x).cls := by
                    rcases d2 with h | h
                    · exact h
                    · exact absurd h hni
                  rcases hcase with ⟨hs1, -, -⟩ | ⟨-, r, As, rfl, rfl, hlen, hg⟩
                  · rw [hst] at hs1; cases hs1
                  · have hcell := m_rcvAt (b := b) hK hP hPx hS hg hrr
                    rw [hrc] at hcell
                    refine m_callX (vx_runV (As := As.map (m_v (m_ad b N P))) (rest := S'.map (m_v (m_ad b N P))) (C := (m_nm x).cls) (n := m_na x) hfix (m_metX ih (l := l) (D := D) (dt := dt) (P := P) (b := b) (N := N) hl0 (hx245 hxM) hok hcat hcall)
                      ⟨⟨rfl, rfl, hrf, hrl, m_pay hts c1, by rw [← hcw]; exact List.mem_cons_self, by rw [← hcw]; exact hts _ c1, hts _ c2, c3, m_hlen (x := x) c4, hts _ hlink⟩, hts _ d1, hts _ hsel⟩
                      ⟨m_blind D dt b N P scr _ AH, hcell, hpre _⟩ rfl (by rw [List.length_map]; exact hlen) hl.1 ?_ hrest hdec hf) hS go_on (go_x (by rw [hw1]; rfl))
                    show List.map _ _ = _
                    rw [List.map_append, List.map_reverse]; rfl
                case invokestatic k =>
                  dsimp only at hlk
                  rw [if_neg (by omega), if_neg (by omega), if_neg (by omega), if_neg (by omega)] at hlk
                  simp only [Bool.and_eq_true, decide_eq_true_eq] at hlk
                  obtain ⟨hk, hst⟩ := hlk
                  obtain ⟨hxM, hrf, hrl, hlink⟩ := callee k hk
                  have hok := hokM x hxM
                  obtain ⟨c1, c2, c3, c4, -⟩ := m_okM_code hok
                  have d1 := m_okM_stat hok hst
                  rcases hcase with ⟨-, rfl, hlen⟩ | ⟨hs1, -⟩
                  · have hstk : (F0 m pc ls ((as.reverse ++ S').map (m_v (m_ad b N P)))).stack = (as.map (m_v (m_ad b N P))).reverse ++ S'.map (m_v (m_ad b N P)) := by
                      show List.map _ _ = _
                      rw [List.map_append, List.map_reverse]
                    rcases hlink with ⟨hw1, hlink⟩ | ⟨hw2, hlink⟩
                    · by_cases hhx : (m_hx x).isEmpty = true
                      · have hcw : m_cw x = .code (m_nm x) (m_by x) (m_nL x) (m_rt x) := by unfold m_cw; rw [if_pos hhx]
                        exact m_callX (vx_runS (As := as.map (m_v (m_ad b N P))) (rest := S'.map (m_v (m_ad b N P))) (n := m_na x) hfix (m_metX ih (l := l) (D := D) (dt := dt) (P := P) (b := b) (N := N) hl0 (hx245 hxM) hok hcat hcall)
                          ⟨⟨rfl, rfl, hrf, hrl, m_pay hts c1, by rw [← hcw]; exact List.mem_cons_self, by rw [← hcw]; exact hts _ c1, hts _ c2, c3, m_hlen (x := x) c4, hts _ hlink⟩, hts _ d1⟩
                          ⟨m_blind D dt b N P scr _ AH, hpre _⟩ rfl (by rw [List.length_map]; exact hlen) hl.1 hstk hrest hdec hf) hS go_on (go_x (by rw [hw1]; rfl))
                      · have hcw : m_cw x = .codeWith (m_nm x) (m_by x) (m_nL x) (m_rt x) (m_hh x) := by unfold m_cw; rw [if_neg hhx]
                        exact m_callX (vx_runSX (hh := m_hh x) (As := as.map (m_v (m_ad b N P))) (rest := S'.map (m_v (m_ad b N P))) (n := m_na x) hfix (m_metX ih (l := l) (D := D) (dt := dt) (P := P) (b := b) (N := N) hl0 (hx245 hxM) hok hcat hcall)
                          ⟨⟨rfl, rfl, hrf, hrl, m_pay hts c1, by rw [← hcw]; exact List.mem_cons_self⟩, by rw [← hcw]; exact hts _ c1, hts _ c2, c3, m_hlen (x := x) c4, hts _ hlink, hts _ d1⟩
                          ⟨m_blind D dt b N P scr _ AH, hpre _⟩ rfl (by rw [List.length_map]; exact hlen) hl.1 hstk hrest hdec hf) hS go_on (go_x (by rw [hw1]; rfl))
                    · have hth := hnot (by rw [hw2]; rfl)
                      by_cases hhx : (m_hx x).isEmpty = true
                      · have hcw : m_cw x = .code (m_nm x) (m_by x) (m_nL x) (m_rt x) := by unfold m_cw; rw [if_pos hhx]
                        exact m_call (va_runSN (host := m_host x) (bytes := m_by x) (maxL := m_nL x) (As := as.map (m_v (m_ad b N P))) (rest := S'.map (m_v (m_ad b N P))) (n := m_na x) hfix (m_met ih (l := l) (D := D) (dt := dt) (P := P) (b := b) (N := N) hl0 (hx245 hxM) hok hhx hth hcat hcall)
                          ⟨⟨⟨rfl, rfl, hrf, hrl, m_pay hts c1, by rw [← hcw]; exact List.mem_cons_self⟩, by rw [← hcw]; exact hts _ c1, hts _ c2, c3, m_hlen (x := x) c4, va_Nw.use rfl (hK.2.1 _ (m_ng_nest hlink))⟩, hts _ d1, trivial⟩
                          ⟨m_blind D dt b N P scr _ AH, hpre _⟩ rfl (by rw [List.length_map]; exact hlen) hl.1 hstk hrest hdec hf) hS (go_on hth)
                      · exfalso
                        have hcls : (m_nm x).cls ≠ "ParallaxSheetsLaw" := by
                          have hcls := hlink
                          simp only [m_nest, List.mem_cons, List.not_mem_nil, or_false, Cond.methodLinkNest.injEq] at hcls
                          rcases hcls with h | h | h | h | h | h | h | h <;> (rw [h.2.2.1]; decide)
                        exact hcls (m_hx_cls x hhx)
                  · rw [hst] at hs1; cases hs1
                case invokespecial k =>
                  dsimp only at hlk
                  rw [if_neg (by omega)] at hlk
                  simp only [Bool.and_eq_true, decide_eq_true_eq] at hlk
                  obtain ⟨⟨⟨hk, hst⟩, hinit⟩, hrt⟩ := hlk
                  obtain ⟨hxM, hrf, hrl, hlink⟩ := callee k hk
                  have hok := hokM x hxM
                  obtain ⟨c1, c2, c3, c4, -⟩ := m_okM_code hok
                  obtain ⟨d1, -, -⟩ := m_okM_inst hok hst
                  have hth := hnot (by simp [m_ths])
                  have hhx : (m_hx x).isEmpty = true := by
                    cases hq : (m_hx x).isEmpty with
                    | true => rfl
                    | false =>
                      obtain ⟨h9, -⟩ := m_okM_hx hok (by rw [hq]; exact Bool.false_ne_true)
                      rw [hst] at h9; cases h9
                  have hcw : m_cw x = .code (m_nm x) (m_by x) (m_nL x) (m_rt x) := by unfold m_cw; rw [if_pos hhx]
                  have hM1 := m_met ih (l := l) (D := D) (dt := dt) (P := P) (b := b) (N := N) hl0 (hx245 hxM) hok hhx hth hcat hcall
                  rcases hcase with ⟨hs1, -, -⟩ | ⟨-, r, As, rfl, rfl, hlen, hg⟩
                  · rw [hst] at hs1; cases hs1
                  · have hstk : (F0 m pc ls ((As.reverse ++ Value.ref r :: S').map (m_v (m_ad b N P)))).stack = (As.map (m_v (m_ad b N P))).reverse ++ Value.ref (m_ad b N P r) :: S'.map (m_v (m_ad b N P)) := by
                      show List.map _ _ = _
                      rw [List.map_append, List.map_reverse]; rfl
                    rw [hcw] at c1
                    rw [hrt] at c1 hcw
                    have hcode1 : (Cond.code (m_nm x) (m_by x) (m_nL x) none).before args s = true := hts _ c1
                    have hmem1 : Cond.code (m_nm x) (m_by x) (m_nL x) none ∈ m_ws0 x := by rw [← hcw]; exact List.mem_cons_self
                    rw [← hcw] at c1
                    rcases hlink with ⟨-, hlink⟩ | ⟨-, hlink⟩
                    · exact m_call (va_runI (bytes := m_by x) (maxL := m_nL x) (As := As.map (m_v (m_ad b N P))) (rest := S'.map (m_v (m_ad b N P))) (n := m_na x) hfix hM1
                        ⟨⟨rfl, rfl, hrf, hrl, m_pay hts c1, hmem1, hcode1, hts _ c2, c3, m_hlen (x := x) c4, hts _ hlink⟩, hinit, hts _ d1⟩
                        ⟨m_blind D dt b N P scr _ AH, hpre _⟩ rfl (by rw [List.length_map]; exact hlen) hl.1 hstk hrest hdec hf) hS (go_on hth)
                    · exact m_call (va_runIN (bytes := m_by x) (maxL := m_nL x) (host := m_host x) (As := As.map (m_v (m_ad b N P))) (rest := S'.map (m_v (m_ad b N P))) (n := m_na x) hfix hM1
                        ⟨⟨⟨rfl, rfl, hrf, hrl, m_pay hts c1, hmem1⟩, hcode1, hts _ c2, c3, m_hlen (x := x) c4, va_Nw.use rfl (hK.2.1 _ (m_ng_nest hlink))⟩, hinit, hts _ d1⟩
                        ⟨m_blind D dt b N P scr _ AH, hpre _⟩ rfl (by rw [List.length_map]; exact hlen) hl.1 hstk hrest hdec hf) hS (go_on hth)
                all_goals exact absurd hw.2 Bool.false_ne_true
              · cases h
            · cases h
          · cases h
        · split at h
          · next rv1 hrts =>
            split at h
            · next hrok =>
              cases h
              unfold m_okE at hE
              obtain ⟨hdec0, hlk⟩ := Bool.and_eq_true_iff.mp hE
              exact hfin i pc L S ls H locs cells slots z (of_decide_eq_true hdec0) hrts hrok hA
            · cases h
          · split at h
            · next pc' L' S' H' hex =>
              obtain ⟨hm3, hm4, hm5⟩ := m_go_mono scr n h
              obtain ⟨hm7, hm8, hm9⟩ := m_ex_mono hex
              refine m_one hC hsz hw8 hE hex hA hR1 hR2 (by omega) (by omega) (fun ls' H2 locs' cells' slots' hA' => ?_)
              exact ih p l e R s m args below meth c H2 locs' cells' slots' Q D dt b N P M pc' a0 s0 ls' L' S' H' AHf rv hl0 hM h hC (fun q => hsz (hm9 q)) hA' hR1 hR2 hcf hsf hT hX hfin
            · cases h
end MSN
