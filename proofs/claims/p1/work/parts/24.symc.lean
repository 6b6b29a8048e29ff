/-! an instruction by symbols is an instruction of the data: calls, returns, throws -/
section SC
variable {scr : List Int32} {σ ρ : Nat → Nat} {M pc x y w : Nat} {z : Int} {k kt kf : sK}
theorem v_two_dec (v : sV) : v_two v ∨ ¬ v_two v := Classical.em _
/-- how arguments lie in locals -/
def s_ly : List sV → List sV → Prop
  | [], a => a = []
  | v :: t, a => ∃ b, s_ly t b ∧ ((v_two v ∧ a = v :: v_d 0 :: b) ∨ (¬ v_two v ∧ a = v :: b))
theorem s_ly_app {v : sV} : ∀ {as a b : List sV}, s_ly as a → ((v_two v ∧ b = [v, v_d 0]) ∨ (¬ v_two v ∧ b = [v])) → s_ly (as ++ [v]) (a ++ b)
  | [], a, b, h, hb => by
    have : a = [] := h
    subst this
    rcases hb with ⟨h1, rfl⟩ | ⟨h1, rfl⟩
    · exact ⟨[], rfl, Or.inl ⟨h1, rfl⟩⟩
    · exact ⟨[], rfl, Or.inr ⟨h1, rfl⟩⟩
  | u :: t, a, b, h, hb => by
    obtain ⟨c, h1, h2⟩ := h
    refine ⟨c ++ b, s_ly_app h1 hb, ?_⟩
    rcases h2 with ⟨h2, rfl⟩ | ⟨h2, rfl⟩
    · exact Or.inl ⟨h2, rfl⟩
    · exact Or.inr ⟨h2, rfl⟩
theorem kArg_of : ∀ {n : Nat} {S acc : List sV} {u : Nat} {kk : List sV → List sV → Nat → Bool}, kArg n S acc u kk = true → ∃ as S' a u', S = as.reverse ++ S' ∧ as.length = n ∧ s_ly as a ∧ kk S' (a ++ acc) u' = true ∧ (∀ f : sV → Value, (∀ v, (f v).category = 1 ∨ ((f v).category = 2 ∧ v_two v)) → m_cat (as.map f) + u ≤ u')
  | 0, S, acc, u, kk, h => ⟨[], S, [], u, rfl, rfl, rfl, h, fun f _ => by simp [m_cat]⟩
  | n + 1, S, acc, u, kk, h => by
    have h' : kPop S (fun v S => kTw v (kArg n S (v :: v_d 0 :: acc) (Nat.add u 2) kk) (kArg n S (v :: acc) (Nat.add u 1) kk)) = true := h
    obtain ⟨v, S, rfl, h2⟩ := (kPop_iff _ _).mp h'
    have cat : ∀ (f : sV → Value) (as : List sV), m_cat ((as ++ [v]).map f) = m_cat (as.map f) + (f v).category := fun f as => by simp [m_cat]
    rcases (kTw_iff _ _ _).mp h2 with ⟨h3, h4⟩ | ⟨h3, h4⟩
    · obtain ⟨as, S', a, u', rfl, h5, h6, h7, h8⟩ := kArg_of h4
      refine ⟨as ++ [v], S', a ++ [v, v_d 0], u', by simp, by simp [h5], s_ly_app h6 (Or.inl ⟨h3, rfl⟩), by simpa using h7, fun f hf => ?_⟩
      have h9 := h8 f hf
      have h9' : m_cat (as.map f) + (u + 2) ≤ u' := h9
      rw [cat]
      rcases hf v with q | ⟨q, -⟩ <;> omega
    · obtain ⟨as, S', a, u', rfl, h5, h6, h7, h8⟩ := kArg_of h4
      refine ⟨as ++ [v], S', a ++ [v], u', by simp, by simp [h5], s_ly_app h6 (Or.inr ⟨h3, rfl⟩), by simpa using h7, fun f hf => ?_⟩
      have h9 := h8 f hf
      have h9' : m_cat (as.map f) + (u + 1) ≤ u' := h9
      rw [cat]
      rcases hf v with q | ⟨q, q2⟩
      · omega
      · exact absurd q2 h3
theorem sv_two {v : sV} (h : v_two v) : (sv σ ρ v).category = 2 := by
  rcases h with ⟨l, rfl⟩ | ⟨d, rfl⟩
  · obtain ⟨x, hx⟩ := sv_l (σ := σ) (ρ := ρ) l
    rw [hx]; rfl
  · rfl
theorem lv_args_cons (i : Nat) (v : Value) (t : List Value) : lv_args i (v :: t) = (i, v) :: lv_args (if v.category = 2 then i + 2 else i + 1) t := rfl
theorem s_ly_ld {pad : List sV} (hpad : ∀ (i : Nat) (v : sV), pad[i]? = some v → v = v_d 0) : ∀ {as a : List sV} (i0 : Nat), s_ly as a → ∀ (i : Nat) (v : sV), (a ++ pad)[i]? = some v → v ≠ v_d 0 → m_ld (lv_args i0 (as.map (sv σ ρ))) (i0 + i) = some (sv σ ρ v)
  | [], a, i0, h, i, v, hv, hn => by
    have : a = [] := h
    subst this
    exact absurd (hpad i v hv) hn
  | u :: t, a, i0, h, i, v, hv, hn => by
    obtain ⟨b, h1, h2⟩ := h
    rw [List.map_cons, lv_args_cons]
    have skip : ∀ j, j ≠ i0 → m_ld ((i0, sv σ ρ u) :: lv_args (if (sv σ ρ u).category = 2 then i0 + 2 else i0 + 1) (t.map (sv σ ρ))) j = m_ld (lv_args (if (sv σ ρ u).category = 2 then i0 + 2 else i0 + 1) (t.map (sv σ ρ))) j := fun j hj => by
      unfold m_ld
      rw [List.find?_cons, show ((i0, sv σ ρ u).1 == j) = false by simp; exact fun e => hj e.symm]
    rcases h2 with ⟨h2, rfl⟩ | ⟨h2, rfl⟩
    · rcases i with _ | _ | i
      · cases hv; simp [m_ld]
      · cases hv; exact absurd rfl hn
      · rw [skip _ (by omega), sv_two h2, if_pos rfl]
        have := s_ly_ld hpad (i0 + 2) h1 i v hv hn
        rwa [show i0 + 2 + i = i0 + (i + 1 + 1) by omega] at this
    · rcases i with _ | i
      · cases hv; simp [m_ld]
      · rw [skip _ (by omega), sv_cat1 h2, if_neg (by decide)]
        have := s_ly_ld hpad (i0 + 1) h1 i v hv hn
        rwa [show i0 + 1 + i = i0 + (i + 1) by omega] at this
theorem s_pad_d : ∀ (i : Nat) (v : sV), s_pad[i]? = some v → v = v_d 0 := by
  intro i v h
  have hm := List.mem_of_getElem? h
  simp only [s_pad, List.mem_cons, List.mem_nil_iff, or_false, or_self] at hm
  simpa using hm
theorem m_rcv_p {H : List mC} {p : Nat} (h : 5 ≤ p ∧ p ≤ 260) : m_rcv H (m_p0 + p) = some 8 := by
  unfold m_rcv
  rw [m_get_p]
  dsimp only
  rw [if_pos (m_box_p h)]
theorem O_cal {r : sR} {i : Instr} (hc : m_code M pc = some (i, x, y, w, z)) (hw : w = 1 ∨ w = 2) (hi : m_inv i = true) (h98 : ¬ m_rc x = 98) (hr : ∀ M pc, s_OK scr σ ρ (r M pc) M pc) : s_OK scr σ ρ (s_cal r x (if m_stc x = true then m_na x else m_na x + 1) (m_nL x) (if m_stc x = true then 0 else m_rc x + 1) M (pc + 3) (s_hs M pc i w)) M pc := by
  intro L S F H E B CF cL cH h hL hF hH hE hB
  obtain ⟨as, S', a, u, rfl, hlen, hly, h2, hcw⟩ := kArg_of h
  rw [kB_f, Nat.ble_eq] at h2
  obtain ⟨hu, h2⟩ := h2
  obtain ⟨hcat, h3⟩ := s_ct (σ := σ) (ρ := ρ) h2
  have hcw' := hcw (sv σ ρ) sv_cat
  have fin : m_cut x ((as.reverse ++ S').map (sv σ ρ)) cH = some (as.map (sv σ ρ), S'.map (sv σ ρ)) → s_cal3 r x M (pc + 3) (s_hs M pc i w) L S' (a ++ s_pad) (F, H, E, B) = true → m_Rn scr CF M pc cL ((as.reverse ++ S').map (sv σ ρ)) cH := by
    intro hcut h4
    refine m_Rn.call hc hw hi hcut (by omega) ?_
    have h4' : r x 0 (a ++ s_pad) [] ((M, pc + 3, L, S', s_hs M pc i w) :: F, H, E, B) = true := h4
    refine hr x 0 (a ++ s_pad) [] _ H E B _ _ cH h4' ?_ ⟨rfl, rfl, hL, rfl, ⟨i, x, y, w, z, hc, rfl⟩, hF⟩ hH hE hB
    intro j v hj hn
    have := s_ly_ld (σ := σ) (ρ := ρ) s_pad_d 0 hly j v hj hn
    rwa [Nat.zero_add] at this
  have hmap : (as.reverse ++ S').map (sv σ ρ) = (as.map (sv σ ρ)).reverse ++ S'.map (sv σ ρ) := by
    rw [List.map_append, List.map_reverse]
  by_cases hst : m_stc x = true
  · rw [if_pos hst] at hlen h3
    have h3' : s_cal3 r x M (pc + 3) (s_hs M pc i w) L S' (a ++ s_pad) (F, H, E, B) = true := h3
    refine fin ?_ h3'
    unfold m_cut
    rw [if_pos hst, hmap]
    have l1 : ((as.map (sv σ ρ)).reverse).length = m_na x := by simp [hlen]
    rw [List.drop_left' l1, List.take_left' l1, List.reverse_reverse, if_pos ⟨by rw [List.length_append, l1]; omega, hcat⟩]
  · rw [if_neg hst] at hlen h3
    have h3' : kPop (a ++ s_pad) (fun o _ => kA o (fun q => kXH (F, H, E, B) (fun H' => kH H' q (fun d => kCo d (m_rc x) (fun _ => s_cal3 r x M (pc + 3) (s_hs M pc i w) L S' (a ++ s_pad) (F, H, E, B))))) (fun p => kB (Nat.beq (m_rc x) 8) (kBx p (s_cal3 r x M (pc + 3) (s_hs M pc i w) L S' (a ++ s_pad) (F, H, E, B))) false)) = true := h3
    obtain ⟨o, t, hot, h4⟩ := (kPop_iff _ _).mp h3'
    obtain ⟨o', as', rfl⟩ : ∃ o' as', as = o' :: as' := by
      cases as with
      | nil => simp at hlen
      | cons o' as' => exact ⟨o', as', rfl⟩
    have ho : o = o' := by
      obtain ⟨b, -, h5⟩ := hly
      rcases h5 with ⟨-, rfl⟩ | ⟨-, rfl⟩ <;> (cases hot; rfl)
    subst ho
    have key : ∀ q : Nat, sv σ ρ o = .ref q → m_rcv cH q = some (m_rc x) → m_cut x (((o :: as').reverse ++ S').map (sv σ ρ)) cH = some ((o :: as').map (sv σ ρ), S'.map (sv σ ρ)) := by
      intro q hq hrc
      unfold m_cut
      rw [if_neg hst, hmap, List.map_cons, List.reverse_cons, List.append_assoc]
      have l1 : ((as'.map (sv σ ρ)).reverse).length = m_na x := by
        simp at hlen
        simp [hlen]
      rw [List.drop_left' l1, List.take_left' l1, List.reverse_reverse, hq]
      show (match m_rcv cH q with
        | some ci => if ci = m_rc x ∧ m_cat (S'.map (sv σ ρ)) ≤ 8 then some (Value.ref q :: as'.map (sv σ ρ), S'.map (sv σ ρ)) else none
        | none => none) = _
      rw [hrc]
      dsimp only
      rw [if_pos ⟨rfl, hcat⟩]
    rcases (kA_iff _ _ _).mp h4 with ⟨q, rfl, h5⟩ | ⟨p, rfl, h5⟩
    · rw [kXH_eq, kH_iff] at h5
      obtain ⟨d, hd, h6⟩ := h5
      obtain ⟨fs, rfl, h7⟩ := (kCo_iff _ _ _).mp h6
      have hcr : m_rc x = 98 ∨ m_get cH (σ q) = some (.inr (m_rc x, fs.map (sv σ ρ))) := hH q _ hd
      refine fin (key (σ q) rfl ?_) h7
      unfold m_rcv
      rw [hcr.resolve_left h98]
    · rw [kB_f, kBx_iff] at h5
      obtain ⟨h6, h7, h9⟩ := h5
      refine fin (key (m_p0 + p) (sv_p (by omega)) ?_) h9
      rw [m_rcv_p h7, Nat.beq_eq.mp h6]
/-! returns -/
theorem kRet_of {r : sR} {v : sV} {F : List sF} {H : sH} {E : sE} {B : sB} {CF : List mW} {cH : List mC} (h : kRet r v (F, H, E, B) = true) (hr : ∀ M pc, s_OK scr σ ρ (r M pc) M pc) (hv : m_thr (some (sv σ ρ v)) = none) (hF : s_fr σ ρ F CF) (hH : s_ho σ ρ H cH) (hE : s_eo ρ E) (hB : s_bo scr σ ρ B cH) : m_Rt scr CF (some (sv σ ρ v)) cH := by
  rcases F with _ | ⟨⟨M', pcr, L, S, hs⟩, F⟩
  · rcases CF with _ | ⟨c, CF⟩
    · have h' : kFin v B = true := h
      unfold kFin at h'
      obtain ⟨e, rfl, h2⟩ := (kI_iff _ _).mp h'
      rw [kB_f] at h2
      obtain ⟨h3, h4⟩ := h2
      have := Nat.beq_eq.mp h3; subst this
      obtain ⟨n, ce, sl, tb⟩ := B
      have h4' : kB (Nat.ble ce 600002) (Nat.ble sl 7302232) false = true := h4
      rw [kB_f, Nat.ble_eq, Nat.ble_eq] at h4'
      obtain ⟨-, b2, b3, -⟩ := hB
      have b2' : ce = cH.length := b2
      have b3' : sl = m_sl cH := b3
      exact ⟨rfl, by omega, by omega⟩
    · exact absurd hF id
  · rcases CF with _ | ⟨⟨M2, pc2, cL, cS⟩, CF⟩
    · exact absurd hF id
    · obtain ⟨e1, rfl, hL, rfl, -, hF'⟩ := hF
      have e1' : M2 = M' := e1
      subst e1'
      have h' : r M2 (pc2 + 3) L (v :: S) (F, H, E, B) = true := h
      have key := hr M2 (pc2 + 3) L (v :: S) F H E B CF cL cH h' hL hF' hH hE hB
      unfold m_Rt
      simp only [hv]
      exact key
theorem O_ret {r : sR} {i : Instr} (hc : m_code M pc = some (i, x, y, w, z)) (h8 : ¬ w = 8) (hi : m_inv i = false) (hr : ∀ M pc, s_OK scr σ ρ (r M pc) M pc) {g : sV → Bool → Bool}
    (hg : ∀ v b, g v b = true → b = true ∧ m_thr (some (sv σ ρ v)) = none ∧ m_rts i [sv σ ρ v] = some (some (sv σ ρ v)) ∧ m_rok (m_rt M) (some (sv σ ρ v)) = true) : s_OK scr σ ρ (fun _ S X => kPop S (fun v S => kNil S (g v (kRet r v X)))) M pc := by
  intro L S F H E B CF cL cH h hL hF hH hE hB
  obtain ⟨v, S, rfl, h2⟩ := (kPop_iff _ _).mp h
  rw [kNil_iff] at h2
  obtain ⟨rfl, h3⟩ := h2
  obtain ⟨h4, h5, h6, h7⟩ := hg _ _ h3
  exact m_Rn.ret hc h8 hi h6 h7 (kRet_of h4 hr h5 hF hH hE hB)
theorem s_rt_of {n : Nat} (h : s_rt M = n) : (n = 0 → m_rt M = some .int) ∧ (n = 1 → m_rt M = some .boolean) ∧ (n = 2 → (∃ c, m_rt M = some (.object c)) ∨ ∃ c, m_rt M = some (.array c)) ∧ (n = 3 → m_rt M = some .long) ∧ (n = 4 → m_rt M = some .double) ∧ (n = 5 → m_rt M = none) := by
  unfold s_rt at h
  split at h <;> (subst h; simp_all)
theorem O_reti {r : sR} (hc : m_code M pc = some (.ireturn, x, y, w, z)) (h8 : ¬ w = 8) (hr : ∀ M pc, s_OK scr σ ρ (r M pc) M pc) (ht : s_rt M = 0) : s_OK scr σ ρ (s_reti r) M pc :=
  O_ret (g := kIs) hc h8 rfl hr (fun v b h => by
    obtain ⟨h1, h2⟩ := (kIs_iff _ _).mp h
    obtain ⟨e, he⟩ := sv_isI (σ := σ) (ρ := ρ) h1
    rw [he, (s_rt_of ht).1 rfl]
    exact ⟨h2, rfl, rfl, rfl⟩)
theorem O_retz {r : sR} (hc : m_code M pc = some (.ireturn, x, y, w, z)) (h8 : ¬ w = 8) (hr : ∀ M pc, s_OK scr σ ρ (r M pc) M pc) (ht : s_rt M = 1) : s_OK scr σ ρ (s_retz r) M pc :=
  O_ret (g := fun v b => kI v (fun e => kB (Nat.ble 2147483648 e) (kB (Nat.ble e 2147483649) b false) false)) hc h8 rfl hr (fun v b h => by
    obtain ⟨e, rfl, h2⟩ := (kI_iff _ _).mp h
    rw [kB_f, kB_f, Nat.ble_eq, Nat.ble_eq] at h2
    obtain ⟨h3, h4, h5⟩ := h2
    rw [(s_rt_of ht).2.1 rfl]
    refine ⟨h5, rfl, rfl, ?_⟩
    show decide (narrow .boolean (.int (cI e)) = .int (cI e)) = true
    rcases (show e = 2147483648 ∨ e = 2147483649 by omega) with rfl | rfl <;> decide)
theorem O_reta {r : sR} (hc : m_code M pc = some (.areturn, x, y, w, z)) (h8 : ¬ w = 8) (hr : ∀ M pc, s_OK scr σ ρ (r M pc) M pc) (ht : s_rt M = 2) : s_OK scr σ ρ (s_reta r) M pc :=
  O_ret (g := kAs) hc h8 rfl hr (fun v b h => by
    obtain ⟨h1, h2⟩ := (kAs_iff _ _).mp h
    obtain ⟨e, he⟩ := sv_isA (σ := σ) (ρ := ρ) h1
    rw [he]
    rcases (s_rt_of ht).2.2.1 rfl with ⟨c, hc⟩ | ⟨c, hc⟩ <;> (rw [hc]; exact ⟨h2, rfl, rfl, rfl⟩))
theorem O_retl {r : sR} (hc : m_code M pc = some (.lreturn, x, y, w, z)) (h8 : ¬ w = 8) (hr : ∀ M pc, s_OK scr σ ρ (r M pc) M pc) (ht : s_rt M = 3) : s_OK scr σ ρ (s_retl r) M pc :=
  O_ret (g := fun v b => kLo v (fun _ => b)) hc h8 rfl hr (fun v b h => by
    obtain ⟨l, rfl, h2⟩ := (kLo_iff _ _).mp h
    obtain ⟨q, hq⟩ := sv_l (σ := σ) (ρ := ρ) l
    rw [hq, (s_rt_of ht).2.2.2.1 rfl]
    exact ⟨h2, rfl, rfl, rfl⟩)
theorem O_retd {r : sR} (hc : m_code M pc = some (.dreturn, x, y, w, z)) (h8 : ¬ w = 8) (hr : ∀ M pc, s_OK scr σ ρ (r M pc) M pc) (ht : s_rt M = 4) : s_OK scr σ ρ (s_retd r) M pc :=
  O_ret (g := fun v b => kDo v (fun _ => b)) hc h8 rfl hr (fun v b h => by
    obtain ⟨l, rfl, h2⟩ := (kDo_iff _ _).mp h
    rw [(s_rt_of ht).2.2.2.2.1 rfl]
    exact ⟨h2, rfl, rfl, rfl⟩)
theorem O_rev {r : sR} (hc : m_code M pc = some (.return_, x, y, w, z)) (h8 : ¬ w = 8) (hr : ∀ M pc, s_OK scr σ ρ (r M pc) M pc) (ht : s_rt M = 5) : s_OK scr σ ρ (s_rev r) M pc := by
  intro L S F H E B CF cL cH h hL hF hH hE hB
  have h' : kNil S (kRev r (F, H, E, B)) = true := h
  rw [kNil_iff] at h'
  obtain ⟨rfl, h2⟩ := h'
  refine m_Rn.ret hc h8 rfl (v := none) rfl (by rw [(s_rt_of ht).2.2.2.2.2 rfl]; rfl) ?_
  rcases F with _ | ⟨⟨M', pcr, L', S, hs⟩, F⟩
  · cases h2
  · rcases CF with _ | ⟨⟨M2, pc2, cL', cS⟩, CF⟩
    · exact absurd hF id
    · obtain ⟨e1, rfl, hL', rfl, -, hF'⟩ := hF
      have e1' : M2 = M' := e1
      subst e1'
      have h3 : r M2 (pc2 + 3) L' S (F, H, E, B) = true := h2
      have key := hr M2 (pc2 + 3) L' S F H E B CF cL' cH h3 hL' hF' hH hE hB
      exact key
/-! throws -/
theorem kFnd_of {e : Nat} {kk : Nat → Nat → Bool} : ∀ {hs : List (Nat × Nat × Nat)}, kFnd e hs kk = true → ∃ q s, (e, q, s) ∈ hs ∧ kk q s = true
  | [], h => by cases h
  | (a, q, s) :: hs, h => by
    have h' : kB (Nat.beq a e) (kk q s) (kFnd e hs kk) = true := h
    rw [kB_iff] at h'
    rcases h' with ⟨h1, h2⟩ | ⟨-, h2⟩
    · have := Nat.beq_eq.mp h1; subst this
      exact ⟨q, s, List.mem_cons_self, h2⟩
    · obtain ⟨q', s', h3, h4⟩ := kFnd_of h2
      exact ⟨q', s', List.mem_cons_of_mem _ h3, h4⟩
theorem s_hs_of {i : Instr} {e q s : Nat} (he : e < 3) (h : (e, q, s) ∈ s_hs M pc i w) : m_ths i w = true ∧ (m_hx M).isEmpty = false ∧ m_hd M pc e = some (q, s) := by
  unfold s_hs at h
  split at h
  · next h1 =>
    split at h
    · cases h
    · next h2 =>
      refine ⟨h1, by simpa using h2, ?_⟩
      rw [List.mem_append, List.mem_filterMap] at h
      rcases h with ⟨k, -, hk⟩ | h
      · obtain ⟨p, hp, hp2⟩ := Option.map_eq_some_iff.mp hk
        cases hp2
        exact hp
      · simp at h; omega
  · simp at h; omega
theorem s_hs_nil {i : Instr} (h : s_hs M pc i w = []) : m_ths i w = true ∧ (m_hx M).isEmpty = true := by
  unfold s_hs at h
  split at h
  · next h1 =>
    split at h
    · next h2 => exact ⟨h1, h2⟩
    · simp at h
  · cases h
theorem m_thr3 {e : Nat} (he : e < 3) : m_thr (some (.float (UInt32.ofNat e))) = some e := by
  rcases (show e = 0 ∨ e = 1 ∨ e = 2 by omega) with rfl | rfl | rfl <;> rfl
theorem kUnw_of {r : sR} {e : Nat} (he : e < 3) (hr : ∀ M pc, s_OK scr σ ρ (r M pc) M pc) {H : sH} {E : sE} {B : sB} {cH : List mC} (hH : s_ho σ ρ H cH) (hE : s_eo ρ E) (hB : s_bo scr σ ρ B cH) : ∀ {F : List sF} {CF : List mW}, kUnw r e F (H, E, B) = true → s_fr σ ρ F CF → m_Rt scr CF (some (.float (UInt32.ofNat e))) cH
  | [], CF, h, hF => by cases h
  | (M', pcr, L, S, hs) :: F, [], h, hF => absurd hF id
  | (M', pcr, L, S, hs) :: F, (M2, pc2, cL, cS) :: CF, h, hF => by
    obtain ⟨e1, rfl, hL, rfl, ⟨i, x, y, w, z, hc, rfl⟩, hF'⟩ := hF
    have e1' : M2 = M' := e1
    subst e1'
    unfold m_Rt
    simp only [m_thr3 he]
    refine ⟨i, x, y, w, z, hc, ?_⟩
    cases hhs : s_hs M2 pc2 i w with
    | nil =>
      rw [hhs] at h
      have h' : kUnw r e F (H, E, B) = true := h
      obtain ⟨h1, h2⟩ := s_hs_nil hhs
      exact ⟨h1, Or.inl ⟨h2, kUnw_of he hr hH hE hB h' hF'⟩⟩
    | cons hd tl =>
      rw [hhs] at h
      have h' : kFnd e (hd :: tl) (fun q s => kSl L s (v_d 0) (fun L => r M2 q L [] (F, H, E, B))) = true := h
      rw [← hhs] at h'
      obtain ⟨q, s, h1, h2⟩ := kFnd_of h'
      obtain ⟨h3, h4, h5⟩ := s_hs_of he h1
      obtain ⟨h6, h7, h9⟩ := kSl_of h2
      refine ⟨h3, Or.inr ⟨h4, q, s, h5, ?_⟩⟩
      have key := hr M2 q (L.set s (v_d 0)) [] F H E B CF (m_drop s cL) cH h7 (hL.drop h9) hF' hH hE hB
      exact key
theorem O_thr {r : sR} {n : Nat} (hc : m_code M pc = some (.new n, x, y, 8, z)) (hx : x < 3) (hr : ∀ M pc, s_OK scr σ ρ (r M pc) M pc) : s_OK scr σ ρ (s_thr r x) M pc := by
  intro L S F H E B CF cL cH h hL hF hH hE hB
  have h' : kNil S (kX (F, H, E, B) (fun F H E B => Prod.rec (motive := fun _ => Bool) (fun n B => Prod.rec (motive := fun _ => Bool) (fun ce B => Prod.rec (motive := fun _ => Bool) (fun sl tb => kFrc (Nat.add n 1) (fun n => kFrc (Nat.add ce 1) (fun ce => kFrc (Nat.add sl 6) (fun sl => kUnw r x F (H, E, n, ce, sl, tb))))) B) B) B)) = true := h
  rw [kNil_iff] at h'
  obtain ⟨rfl, h2⟩ := h'
  obtain ⟨n', ce, sl, tb⟩ := B
  have h3 : kFrc (Nat.add n' 1) (fun n => kFrc (Nat.add ce 1) (fun ce => kFrc (Nat.add sl 6) (fun sl => kUnw r x F (H, E, n, ce, sl, tb)))) = true := h2
  rw [kFrc_eq, kFrc_eq, kFrc_eq] at h3
  obtain ⟨b1, b2, b3, b4, b5⟩ := hB
  have b2' : ce = cH.length := b2
  have b3' : sl = m_sl cH := b3
  have hn : ∀ i, σ (n' + i) = cH.length + 1 + i := b1
  refine m_Rn.thr hc (kUnw_of hx hr (B := (n' + 1, ce + 1, sl + 6, tb)) (H := H) (E := E) (fun j c hj => (hH j c hj).up (fun d hd => m_get_app hd)) hE ⟨fun i => ?_, ?_, ?_, b4, b5⟩ h3 hF)
  · show σ (n' + 1 + i) = _
    have := hn (1 + i)
    rw [show n' + 1 + i = n' + (1 + i) by omega, this, List.length_append, List.length_singleton]
    omega
  · show ce + 1 = _
    rw [List.length_append, List.length_singleton, b2']
  · show sl + 6 = _
    rw [m_sl_app, b3']
    show _ = m_sl cH + (if 10 ≤ 10 + x then 6 else _)
    rw [if_pos (by omega)]
end SC
