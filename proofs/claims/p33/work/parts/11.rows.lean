/-! rows -/
def m_up (f : Int → Int) (e x : Int) : Int → Int := fun j => if j = e then x else f j
def aI (n : Nat) (f : Int → Int) : List Value := (List.range n).map (fun (i : Nat) => vI (f (i : Int)))
theorem aI_len (n : Nat) (f : Int → Int) : (aI n f).length = n := by simp [aI]
theorem aI_get {n : Nat} {f : Int → Int} {i : Nat} (h : i < n) : (aI n f)[i]? = some (vI (f (i : Int))) := by
  unfold aI
  rw [List.getElem?_map, List.getElem?_range h]; rfl
theorem aI_at {n : Nat} {f : Int → Int} {e : Int} (h0 : 0 ≤ e) (h : e < n) : (aI n f)[e.toNat]? = some (vI (f e)) := by
  rw [aI_get (by omega), Int.toNat_of_nonneg h0]
theorem aI_ext {n : Nat} {f g : Int → Int} (h : ∀ e : Int, 0 ≤ e → e < n → f e = g e) : aI n f = aI n g := by
  unfold aI
  refine List.map_congr_left fun i hi => ?_
  rw [h i (by omega) (by have := List.mem_range.mp hi; omega)]
theorem aI_set {n : Nat} {f : Int → Int} {e x : Int} (h0 : 0 ≤ e) : (aI n f).set e.toNat (vI x) = aI n (m_up f e x) := by
  apply List.ext_getElem?
  intro i
  by_cases hi : i < n
  · by_cases he : i = e.toNat
    · subst he
      rw [List.getElem?_set_self (by rw [aI_len]; exact hi), aI_get hi]
      simp [m_up, Int.toNat_of_nonneg h0]
    · rw [List.getElem?_set_ne (Ne.symm he), aI_get hi, aI_get hi]
      have : ¬ (i : Int) = e := by omega
      simp [m_up, this]
  · rw [List.getElem?_eq_none (by simp [aI_len]; omega), List.getElem?_eq_none (by rw [aI_len]; omega)]
theorem aI_rep (n : Nat) : List.replicate n (Value.int 0) = aI n (fun _ => 0) := by
  apply List.ext_getElem?
  intro i
  by_cases hi : i < n
  · rw [aI_get hi]; simp [hi]
  · rw [List.getElem?_eq_none (by simp; omega), List.getElem?_eq_none (by rw [aI_len]; omega)]
theorem m_gs_eq {H : List mC} {r : Nat} {c d : mC} (h : m_get H r = some d) : m_get (m_set H r c) r = some c := by
  cases r with
  | zero => cases h
  | succ k =>
    have hl : k < H.length := (List.getElem?_eq_some_iff.mp h).1
    show (H.set k c)[k]? = some c
    rw [List.getElem?_set_self hl]
theorem m_gs_ne {H : List mC} {r q : Nat} {c : mC} (h : q ≠ r) : m_get (m_set H r c) q = m_get H q := by
  cases r with
  | zero => rfl
  | succ k =>
    cases q with
    | zero => rfl
    | succ j =>
      show (H.set k c)[j]? = H[j]?
      rw [List.getElem?_set_ne (by omega)]
theorem m_set_set (H : List mC) (r : Nat) (c d : mC) : m_set (m_set H r c) r d = m_set H r d := by
  cases r with
  | zero => rfl
  | succ k => exact List.set_set ..
theorem m_set_self {H : List mC} {r : Nat} {c : mC} (h : m_get H r = some c) : m_set H r c = H := by
  cases r with
  | zero => rfl
  | succ k =>
    obtain ⟨hl, he⟩ := List.getElem?_eq_some_iff.mp h
    show H.set k c = H
    rw [← he, List.set_getElem_self]
theorem m_set_comm {H : List mC} {r q : Nat} {c d : mC} (h : r ≠ q) : m_set (m_set H r c) q d = m_set (m_set H q d) r c := by
  cases r with
  | zero => rfl
  | succ k =>
    cases q with
    | zero => rfl
    | succ j => exact List.set_comm _ _ (by omega)
def m_tgt (pc : Nat) (d lo hi : Int) (offs : Array Int) (e : Int) : Nat := ((pc : Int) + (if e < lo ∨ hi < e then d else offs.getD (e - lo).toNat (-1000000))).toNat
section RW
variable {scr : List Int32} {M pc x y : Nat} {z : Int} {L : mL} {S : List Value} {H : List mC} {X : mR → Prop}
theorem R_iconst (q : Nat) {n : Int} (hc : m_code M pc = some (.iconst n, x, y, 0, z)) (hp : pc + 1 = q) (k : m_Ev scr M q L (vI n :: S) H X) : m_Ev scr M pc L S H X := by subst hp; exact m_step hc rfl rfl rfl k
theorem R_bipush (q : Nat) {n : Int} (hc : m_code M pc = some (.bipush n, x, y, 0, z)) (hp : pc + 2 = q) (hv : (Int8.ofInt n).toInt32 = Int32.ofInt n) (k : m_Ev scr M q L (vI n :: S) H X) : m_Ev scr M pc L S H X := by
  subst hp
  refine m_step hc rfl rfl rfl ?_
  rw [hv]; exact k
theorem R_sipush (q : Nat) {n : Int} (hc : m_code M pc = some (.sipush n, x, y, 0, z)) (hp : pc + 3 = q) (hv : (Int16.ofInt n).toInt32 = Int32.ofInt n) (k : m_Ev scr M q L (vI n :: S) H X) : m_Ev scr M pc L S H X := by
  subst hp
  refine m_step hc rfl rfl rfl ?_
  rw [hv]; exact k
theorem R_lconst (q : Nat) {n : Fin 2} (hc : m_code M pc = some (.lconst n, x, y, 0, z)) (hp : pc + 1 = q) (k : m_Ev scr M q L (.long (Int64.ofNat (n : Nat)) :: S) H X) : m_Ev scr M pc L S H X := by subst hp; exact m_step hc rfl rfl rfl k
theorem R_dconst (q : Nat) (hc : m_code M pc = some (.dconst 0, x, y, 0, z)) (hp : pc + 1 = q) (k : m_Ev scr M q L (.double FP.dconst0 :: S) H X) : m_Ev scr M pc L S H X := by subst hp; exact m_step hc rfl rfl rfl k
theorem R_ldc (q : Nat) {n : Nat} (hc : m_code M pc = some (.ldc n, x, y, 0, z)) (hp : pc + 2 = q) (k : m_Ev scr M q L (vI z :: S) H X) : m_Ev scr M pc L S H X := by subst hp; exact m_step hc rfl rfl rfl k
theorem R_ldc2_w (q : Nat) {n : Nat} (hc : m_code M pc = some (.ldc2_w n, x, y, 0, z)) (hp : pc + 3 = q) (k : m_Ev scr M q L (.long (Int64.ofInt z) :: S) H X) : m_Ev scr M pc L S H X := by subst hp; exact m_step hc rfl rfl rfl k
theorem R_iload_n (q : Nat) {n : Fin 4} {v : Int32} (hc : m_code M pc = some (.iload_n n, x, y, 0, z)) (hp : pc + 1 = q) (hl : m_ld L n = some (.int v)) (k : m_Ev scr M q L (.int v :: S) H X) : m_Ev scr M pc L S H X := by
  subst hp
  refine m_step hc rfl rfl ?_ k
  simp [m_ex, m_lv, hl, m_isI]
theorem R_iload (q : Nat) {n : Nat} {v : Int32} (hc : m_code M pc = some (.iload n, x, y, 0, z)) (hp : pc + 2 = q) (hl : m_ld L n = some (.int v)) (k : m_Ev scr M q L (.int v :: S) H X) : m_Ev scr M pc L S H X := by
  subst hp
  refine m_step hc rfl rfl ?_ k
  simp [m_ex, m_lv, hl, m_isI]
theorem R_lload_n (q : Nat) {n : Fin 4} {v : Int64} (hc : m_code M pc = some (.lload_n n, x, y, 0, z)) (hp : pc + 1 = q) (hl : m_ld L n = some (.long v)) (k : m_Ev scr M q L (.long v :: S) H X) : m_Ev scr M pc L S H X := by
  subst hp
  refine m_step hc rfl rfl ?_ k
  simp [m_ex, m_lv, hl, m_isL]
theorem R_lload (q : Nat) {n : Nat} {v : Int64} (hc : m_code M pc = some (.lload n, x, y, 0, z)) (hp : pc + 2 = q) (hl : m_ld L n = some (.long v)) (k : m_Ev scr M q L (.long v :: S) H X) : m_Ev scr M pc L S H X := by
  subst hp
  refine m_step hc rfl rfl ?_ k
  simp [m_ex, m_lv, hl, m_isL]
theorem R_aload_n (q : Nat) {n : Fin 4} {r : Nat} (hc : m_code M pc = some (.aload_n n, x, y, 0, z)) (hp : pc + 1 = q) (hl : m_ld L n = some (.ref r)) (k : m_Ev scr M q L (.ref r :: S) H X) : m_Ev scr M pc L S H X := by
  subst hp
  refine m_step hc rfl rfl ?_ k
  simp [m_ex, m_lv, hl, m_isA]
theorem R_aload (q : Nat) {n : Nat} {r : Nat} (hc : m_code M pc = some (.aload n, x, y, 0, z)) (hp : pc + 2 = q) (hl : m_ld L n = some (.ref r)) (k : m_Ev scr M q L (.ref r :: S) H X) : m_Ev scr M pc L S H X := by
  subst hp
  refine m_step hc rfl rfl ?_ k
  simp [m_ex, m_lv, hl, m_isA]
theorem R_istore_n (q : Nat) {n : Fin 4} {v : Int32} (hc : m_code M pc = some (.istore_n n, x, y, 0, z)) (hp : pc + 1 = q) (k : m_Ev scr M q (m_st1 n (.int v) L) S H X) : m_Ev scr M pc L (.int v :: S) H X := by subst hp; exact m_step hc rfl rfl rfl k
theorem R_istore (q : Nat) {n : Nat} {v : Int32} (hc : m_code M pc = some (.istore n, x, y, 0, z)) (hp : pc + 2 = q) (k : m_Ev scr M q (m_st1 n (.int v) L) S H X) : m_Ev scr M pc L (.int v :: S) H X := by subst hp; exact m_step hc rfl rfl rfl k
theorem R_astore_n (q : Nat) {n : Fin 4} {r : Nat} (hc : m_code M pc = some (.astore_n n, x, y, 0, z)) (hp : pc + 1 = q) (k : m_Ev scr M q (m_st1 n (.ref r) L) S H X) : m_Ev scr M pc L (.ref r :: S) H X := by subst hp; exact m_step hc rfl rfl rfl k
theorem R_astore (q : Nat) {n : Nat} {r : Nat} (hc : m_code M pc = some (.astore n, x, y, 0, z)) (hp : pc + 2 = q) (k : m_Ev scr M q (m_st1 n (.ref r) L) S H X) : m_Ev scr M pc L (.ref r :: S) H X := by subst hp; exact m_step hc rfl rfl rfl k
theorem R_lstore_n (q : Nat) {n : Fin 4} {v : Int64} (hc : m_code M pc = some (.lstore_n n, x, y, 0, z)) (hp : pc + 1 = q) (k : m_Ev scr M q (m_st2 n (.long v) L) S H X) : m_Ev scr M pc L (.long v :: S) H X := by subst hp; exact m_step hc rfl rfl rfl k
theorem R_lstore (q : Nat) {n : Nat} {v : Int64} (hc : m_code M pc = some (.lstore n, x, y, 0, z)) (hp : pc + 2 = q) (k : m_Ev scr M q (m_st2 n (.long v) L) S H X) : m_Ev scr M pc L (.long v :: S) H X := by subst hp; exact m_step hc rfl rfl rfl k
theorem R_iinc (q : Nat) {n : Nat} {c e : Int} (hc : m_code M pc = some (.iinc n c, x, y, 0, z)) (hp : pc + 3 = q) (hl : m_ld L n = some (vI e)) (k : m_Ev scr M q (m_st1 n (vI (e + c)) L) S H X) : m_Ev scr M pc L S H X := by
  subst hp
  refine m_step hc rfl rfl ?_ k
  show (match m_ld L n with | some (.int v) => _ | _ => _) = _
  rw [hl]
  show some (pc + 3, m_st1 n (.int (iI e + Int32.ofInt c)) L, S, H) = _
  rw [iI_add]
theorem R_iadd (q : Nat) {a b : Int} (hc : m_code M pc = some (.iadd, x, y, 0, z)) (hp : pc + 1 = q) (k : m_Ev scr M q L (vI (a + b) :: S) H X) : m_Ev scr M pc L (vI b :: vI a :: S) H X := by
  subst hp
  refine m_step hc rfl rfl rfl ?_
  show m_Ev scr M (pc + 1) L (.int (iI a + iI b) :: S) H X
  rw [iI_add]; exact k
theorem R_isub (q : Nat) {a b : Int} (hc : m_code M pc = some (.isub, x, y, 0, z)) (hp : pc + 1 = q) (k : m_Ev scr M q L (vI (a - b) :: S) H X) : m_Ev scr M pc L (vI b :: vI a :: S) H X := by
  subst hp
  refine m_step hc rfl rfl rfl ?_
  show m_Ev scr M (pc + 1) L (.int (iI a - iI b) :: S) H X
  rw [iI_sub]; exact k
theorem R_imul (q : Nat) {a b : Int} (hc : m_code M pc = some (.imul, x, y, 0, z)) (hp : pc + 1 = q) (k : m_Ev scr M q L (vI (a * b) :: S) H X) : m_Ev scr M pc L (vI b :: vI a :: S) H X := by
  subst hp
  refine m_step hc rfl rfl rfl ?_
  show m_Ev scr M (pc + 1) L (.int (iI a * iI b) :: S) H X
  rw [iI_mul]; exact k
theorem R_iand (q : Nat) {a b : Int32} (hc : m_code M pc = some (.iand, x, y, 0, z)) (hp : pc + 1 = q) (k : m_Ev scr M q L (.int (a &&& b) :: S) H X) : m_Ev scr M pc L (.int b :: .int a :: S) H X := by subst hp; exact m_step hc rfl rfl rfl k
theorem R_ishr (q : Nat) {a b : Int32} (hc : m_code M pc = some (.ishr, x, y, 0, z)) (hp : pc + 1 = q) (k : m_Ev scr M q L (.int (a >>> (b &&& 31)) :: S) H X) : m_Ev scr M pc L (.int b :: .int a :: S) H X := by subst hp; exact m_step hc rfl rfl rfl k
theorem iI_div {a b : Int} (ha : inR a) (hb : inR b) : iI a / iI b = iI (a.tdiv b) := by
  have h : (iI a / iI b).toInt = (a.tdiv b).bmod (2 ^ 32) := by rw [Int32.toInt_div, iI_toInt ha, iI_toInt hb]
  rw [← Int32.toInt_inj, h, Int32.toInt_ofInt]
theorem iI_ne0 {b : Int} (hb : inR b) (h : b ≠ 0) : ¬ iI b = 0 := fun q => h ((iI_inj hb (by unfold inR; omega)).mp (q.trans (by rfl : (0 : Int32) = iI 0)))
theorem R_idiv (q : Nat) {a b : Int} (hc : m_code M pc = some (.idiv, x, y, 0, z)) (hp : pc + 1 = q) (ha : inR a) (hb : inR b) (h0 : b ≠ 0) (k : m_Ev scr M q L (vI (a.tdiv b) :: S) H X) : m_Ev scr M pc L (vI b :: vI a :: S) H X := by
  subst hp
  refine m_step hc rfl rfl (by simp only [m_ex, m_d2]; rw [if_neg (iI_ne0 hb h0)]) ?_
  rw [iI_div ha hb]; exact k
theorem R_idivp (q : Nat) {a b : Int} (hc : m_code M pc = some (.idiv, x, y, 0, z)) (hp : pc + 1 = q) (ha : 0 ≤ a ∧ a < 2147483648) (hb : 0 < b ∧ b < 2147483648) (k : m_Ev scr M q L (vI (a / b) :: S) H X) : m_Ev scr M pc L (vI b :: vI a :: S) H X := by
  refine R_idiv q hc hp (by unfold inR; omega) (by unfold inR; omega) (by omega) ?_
  rw [Int.tdiv_eq_ediv_of_nonneg ha.1]; exact k
theorem R_iremp (q : Nat) {a b : Int} (hc : m_code M pc = some (.irem, x, y, 0, z)) (hp : pc + 1 = q) (ha : 0 ≤ a ∧ a < 2147483648) (hb : 0 < b ∧ b < 2147483648) (k : m_Ev scr M q L (vI (a % b) :: S) H X) : m_Ev scr M pc L (vI b :: vI a :: S) H X := by
  subst hp
  have h1 : inR a := by unfold inR; omega
  have h2 : inR b := by unfold inR; omega
  refine m_step hc rfl rfl (by simp only [m_ex, m_d2]; rw [if_neg (iI_ne0 h2 (by omega))]) ?_
  rw [iI_div h1 h2, Int.tdiv_eq_ediv_of_nonneg ha.1, iI_mul, iI_sub]
  have e : a - a / b * b = a % b := by rw [Int.emod_def, Int.mul_comm]
  rw [e]; exact k
theorem R_goto (q : Nat) {o : Int} (hc : m_code M pc = some (.goto o, x, y, 0, z)) (hp : x = q) (k : m_Ev scr M q L S H X) : m_Ev scr M pc L S H X := by subst hp; exact m_step hc rfl rfl rfl k
theorem R_dup (q : Nat) {v : Value} (hc : m_code M pc = some (.dup, x, y, 0, z)) (hp : pc + 1 = q) (hv : v.category = 1) (k : m_Ev scr M q L (v :: v :: S) H X) : m_Ev scr M pc L (v :: S) H X := by
  subst hp
  exact m_step hc rfl rfl (by simp [m_ex, hv]) k
theorem R_dup2 (q : Nat) {v u : Value} (hc : m_code M pc = some (.dup2, x, y, 0, z)) (hp : pc + 1 = q) (hv : v.category = 1) (hu : u.category = 1) (k : m_Ev scr M q L (v :: u :: v :: u :: S) H X) : m_Ev scr M pc L (v :: u :: S) H X := by
  subst hp
  exact m_step hc rfl rfl (by simp [m_ex, hv, hu]) k
theorem R_pop (q : Nat) {v : Value} (hc : m_code M pc = some (.pop, x, y, 0, z)) (hp : pc + 1 = q) (hv : v.category = 1) (k : m_Ev scr M q L S H X) : m_Ev scr M pc L (v :: S) H X := by
  subst hp
  exact m_step hc rfl rfl (by simp [m_ex, hv]) k
/-- a branch, by the condition's truth -/
theorem R_br {cn : ClassFile.Cond} {o : Int} (q t : Nat) {a b : Int} (P : Prop) (hP : m_cmp cn (iI a) (iI b) = true ↔ P) (hc : m_code M pc = some (.if_icmp cn o, x, y, 0, z)) (hp : pc + 3 = q) (ht : x = t) (kt : P → m_Ev scr M t L S H X) (kf : ¬ P → m_Ev scr M q L S H X) : m_Ev scr M pc L (vI b :: vI a :: S) H X := by
  subst hp; subst ht
  by_cases h : P
  · exact m_step hc rfl rfl (by simp only [m_ex]; rw [if_pos (hP.mpr h)]) (kt h)
  · exact m_step hc rfl rfl (by simp only [m_ex]; rw [if_neg (fun z => h (hP.mp z))]) (kf h)
theorem R_brz {cn : ClassFile.Cond} {o : Int} (q t : Nat) {a : Int} (P : Prop) (hP : m_cmp cn (iI a) (iI 0) = true ↔ P) (hc : m_code M pc = some (.ifCond cn o, x, y, 0, z)) (hp : pc + 3 = q) (ht : x = t) (kt : P → m_Ev scr M t L S H X) (kf : ¬ P → m_Ev scr M q L S H X) : m_Ev scr M pc L (vI a :: S) H X := by
  subst hp; subst ht
  by_cases h : P
  · exact m_step hc rfl rfl (by simp only [m_ex]; rw [if_pos (show m_cmp cn (Int32.ofInt a) 0 = true from hP.mpr h)]) (kt h)
  · exact m_step hc rfl rfl (by simp only [m_ex]; rw [if_neg (show ¬ m_cmp cn (Int32.ofInt a) 0 = true from fun z => h (hP.mp z))]) (kf h)
theorem cmp_eq {a b : Int} (ha : inR a) (hb : inR b) : m_cmp .eq (iI a) (iI b) = true ↔ a = b := by simp [m_cmp, iI_inj ha hb]
theorem cmp_ne {a b : Int} (ha : inR a) (hb : inR b) : m_cmp .ne (iI a) (iI b) = true ↔ a ≠ b := by simp [m_cmp, iI_inj ha hb]
theorem cmp_lt {a b : Int} (ha : inR a) (hb : inR b) : m_cmp .lt (iI a) (iI b) = true ↔ a < b := by simp [m_cmp, iI_lt ha hb]
theorem cmp_ge {a b : Int} (ha : inR a) (hb : inR b) : m_cmp .ge (iI a) (iI b) = true ↔ b ≤ a := by simp [m_cmp, iI_le hb ha]
theorem cmp_gt {a b : Int} (ha : inR a) (hb : inR b) : m_cmp .gt (iI a) (iI b) = true ↔ b < a := by simp [m_cmp, iI_lt hb ha]
theorem cmp_le {a b : Int} (ha : inR a) (hb : inR b) : m_cmp .le (iI a) (iI b) = true ↔ a ≤ b := by simp [m_cmp, iI_le ha hb]
theorem R_tsw (t : Nat) {d lo hi e : Int} {offs : Array Int} (hc : m_code M pc = some (.tableswitch d lo hi offs, x, y, 0, z)) (he : inR e) (hj : m_ex scr M pc (.tableswitch d lo hi offs) x y 0 z L (vI e :: S) H = some (t, L, S, H)) (k : m_Ev scr M t L S H X) : m_Ev scr M pc L (vI e :: S) H X := m_step hc rfl rfl hj k
theorem R_step {i : Instr} {w : Nat} {q : Nat} {L' : mL} {S' : List Value} {H' : List mC} (hc : m_code M pc = some (i, x, y, w, z)) (hw : (w == 1 || w == 2) = false) (hr : m_rts i S = none) (hex : m_ex scr M pc i x y w z L S H = some (q, L', S', H')) (k : m_Ev scr M q L' S' H' X) : m_Ev scr M pc L S H X := m_step hc hw hr hex k
theorem R_get (q : Nat) {n r : Nat} {fs : List Value} {v : Value} (hc : m_code M pc = some (.getfield n, x, y, 0, z)) (hp : pc + 3 = q) (hg : m_get H r = some (.inr (x, fs))) (hf : fs[y]? = some v) (k : m_Ev scr M q L (v :: S) H X) : m_Ev scr M pc L (.ref r :: S) H X := by
  subst hp
  refine m_step hc rfl rfl ?_ k
  simp [m_ex, m_gf, hg, hf]
theorem R_put (q : Nat) {n r : Nat} {fs : List Value} {v : Value} (hc : m_code M pc = some (.putfield n, x, y, 0, z)) (hp : pc + 3 = q) (hg : m_get H r = some (.inr (x, fs))) (hy : y < fs.length) (hv : m_fit (m_fty x y) v = true) (k : m_Ev scr M q L S (m_set H r (.inr (x, fs.set y v))) X) : m_Ev scr M pc L (v :: .ref r :: S) H X := by
  subst hp
  refine m_step hc rfl ?_ ?_ k
  · rfl
  · simp [m_ex, m_pf, hg, hy, hv]
theorem iI_nn {e : Int} (h0 : 0 ≤ e) (h : e < 2147483648) : (0 : Int32) ≤ iI e := by
  show iI 0 ≤ iI e
  rw [iI_le (by unfold inR; omega) (by unfold inR; omega)]; exact h0
theorem R_iald (q : Nat) {r n : Nat} {f : Int → Int} {e : Int} (hc : m_code M pc = some (.iaload, x, y, 0, z)) (hp : pc + 1 = q) (hg : m_get H r = some (.inl (0, aI n f))) (h0 : 0 ≤ e) (h1 : e < n) (hn : n ≤ 1000000) (k : m_Ev scr M q L (vI (f e) :: S) H X) : m_Ev scr M pc L (vI e :: .ref r :: S) H X := by
  subst hp
  refine m_step hc rfl rfl ?_ k
  cases r with
  | zero => cases hg
  | succ r => simp [m_ex, m_ra, hg, iI_nn h0 (show e < 2147483648 by omega), iI_nat h0 (show e < 2147483648 by omega), aI_at h0 h1]
theorem R_bald (q : Nat) {r n : Nat} {f : Int → Int} {e : Int} (hc : m_code M pc = some (.baload, x, y, 0, z)) (hp : pc + 1 = q) (hg : m_get H r = some (.inl (1, aI n f))) (h0 : 0 ≤ e) (h1 : e < n) (hn : n ≤ 1000000) (k : m_Ev scr M q L (vI (f e) :: S) H X) : m_Ev scr M pc L (vI e :: .ref r :: S) H X := by
  subst hp
  refine m_step hc rfl rfl ?_ k
  simp [m_ex, m_ra, hg, iI_nn h0 (show e < 2147483648 by omega), iI_nat h0 (show e < 2147483648 by omega), aI_at h0 h1]
theorem R_aald (q : Nat) {r s : Nat} {vs : List Value} {e : Int} (hc : m_code M pc = some (.aaload, x, y, 0, z)) (hp : pc + 1 = q) (hg : m_get H r = some (.inl (2, vs))) (h0 : 0 ≤ e) (h1 : e < 2147483648) (hv : vs[e.toNat]? = some (.ref s)) (k : m_Ev scr M q L (.ref s :: S) H X) : m_Ev scr M pc L (vI e :: .ref r :: S) H X := by
  subst hp
  refine m_step hc rfl rfl ?_ k
  simp [m_ex, m_ra, hg, iI_nn h0 h1, iI_nat h0 h1, hv]
theorem R_iast (q : Nat) {r n : Nat} {f : Int → Int} {e v : Int} (hc : m_code M pc = some (.iastore, x, y, 0, z)) (hp : pc + 1 = q) (hg : m_get H r = some (.inl (0, aI n f))) (h0 : 0 ≤ e) (h1 : e < n) (hn : n ≤ 1000000) (k : m_Ev scr M q L S (m_set H r (.inl (0, aI n (m_up f e v)))) X) : m_Ev scr M pc L (vI v :: vI e :: .ref r :: S) H X := by
  subst hp
  refine m_step hc rfl rfl ?_ k
  have h2 : e.toNat < (aI n f).length := by rw [aI_len]; omega
  simp [m_ex, m_wa, hg, iI_nn h0 (show e < 2147483648 by omega), iI_nat h0 (show e < 2147483648 by omega), h2, aI_set h0]
theorem R_bast (q : Nat) {r n : Nat} {f : Int → Int} {e v : Int} (hc : m_code M pc = some (.bastore, x, y, 0, z)) (hp : pc + 1 = q) (hg : m_get H r = some (.inl (1, aI n f))) (h0 : 0 ≤ e) (h1 : e < n) (hn : n ≤ 1000000) (hv : vp_nar .boolean (iI v) = iI v) (k : m_Ev scr M q L S (m_set H r (.inl (1, aI n (m_up f e v)))) X) : m_Ev scr M pc L (vI v :: vI e :: .ref r :: S) H X := by
  subst hp
  refine m_step hc rfl rfl ?_ k
  have h2 : e.toNat < (aI n f).length := by rw [aI_len]; omega
  simp [m_ex, m_wa, hg, iI_nn h0 (show e < 2147483648 by omega), iI_nat h0 (show e < 2147483648 by omega), h2, hv, aI_set h0]
theorem R_max (q : Nat) {a b : Int} {n : Nat} (hc : m_code M pc = some (.invokestatic n, x, y, 3, z)) (hp : pc + 3 = q) (ha : inR a) (hb : inR b) (h8 : m_cat S ≤ 8) (k : m_Ev scr M q L (vI (max a b) :: S) H X) : m_Ev scr M pc L (vI b :: vI a :: S) H X := by
  subst hp
  refine m_step hc rfl rfl ?_ k
  have e : (if iI a < iI b then iI b else iI a) = iI (max a b) := by
    by_cases h : a < b
    · rw [if_pos ((iI_lt ha hb).mpr h), Int.max_eq_right (by omega)]
    · rw [if_neg (fun z => h ((iI_lt ha hb).mp z)), Int.max_eq_left (by omega)]
  simp only [m_ex, m_math, if_true, if_pos h8, e]
theorem R_min (q : Nat) {a b : Int} {n : Nat} (hc : m_code M pc = some (.invokestatic n, x, y, 4, z)) (hp : pc + 3 = q) (ha : inR a) (hb : inR b) (h8 : m_cat S ≤ 8) (k : m_Ev scr M q L (vI (min a b) :: S) H X) : m_Ev scr M pc L (vI b :: vI a :: S) H X := by
  subst hp
  refine m_step hc rfl rfl ?_ k
  have e : (if iI b < iI a then iI b else iI a) = iI (min a b) := by
    by_cases h : b < a
    · rw [if_pos ((iI_lt hb ha).mpr h), Int.min_eq_right (by omega)]
    · rw [if_neg (fun z => h ((iI_lt hb ha).mp z)), Int.min_eq_left (by omega)]
  simp only [m_ex, m_math]
  rw [if_neg (by decide), if_pos trivial, if_pos h8, e]
theorem R_abs (q : Nat) {a : Int} {n : Nat} (hc : m_code M pc = some (.invokestatic n, x, y, 5, z)) (hp : pc + 3 = q) (ha : inR a) (h8 : m_cat S ≤ 8) (k : m_Ev scr M q L (vI (a.natAbs : Int) :: S) H X) : m_Ev scr M pc L (vI a :: S) H X := by
  subst hp
  refine m_step hc rfl rfl ?_ k
  have e : (if (0 : Int32) ≤ iI a then iI a else 0 - iI a) = iI (a.natAbs : Int) := by
    by_cases h : 0 ≤ a
    · rw [if_pos (show (0 : Int32) ≤ iI a from (iI_le (a := 0) (by unfold inR; omega) ha).mpr h), show ((a.natAbs : Nat) : Int) = a by omega]
    · rw [if_neg (show ¬ (0 : Int32) ≤ iI a from fun z => h ((iI_le (a := 0) (by unfold inR; omega) ha).mp z))]
      show iI 0 - iI a = _
      rw [iI_sub, show ((a.natAbs : Nat) : Int) = 0 - a by omega]
  simp only [m_ex, m_math]
  rw [if_neg (by decide), if_neg (by decide), if_pos trivial, if_pos h8, e]
theorem R_copy (q : Nat) {n r r0 n0 n1 : Nat} {f g : Int → Int} {sp dp c : Int} (hc : m_code M pc = some (.invokestatic n, x, y, 6, z)) (hp : pc + 3 = q) (hg0 : m_get H r0 = some (.inl (0, aI n0 f))) (hg1 : m_get H r = some (.inl (0, aI n1 g))) (h1 : 0 ≤ sp ∧ sp < 1000000) (h2 : 0 ≤ dp ∧ dp < 1000000) (h3 : 0 ≤ c ∧ c < 1000000) (h4 : sp + c ≤ n0) (h5 : dp + c ≤ n1) (h8 : m_cat S ≤ 8)
    (k : m_Ev scr M q L S (m_set H r (.inl (0, aI n1 (fun j => if dp ≤ j ∧ j < dp + c then f (sp + (j - dp)) else g j)))) X) : m_Ev scr M pc L (vI c :: vI dp :: .ref r :: vI sp :: .ref r0 :: S) H X := by
  subst hp
  refine m_step hc rfl rfl ?_ k
  have e1 := iI_nat h1.1 (show sp < 2147483648 by omega)
  have e2 := iI_nat h2.1 (show dp < 2147483648 by omega)
  have e3 := iI_nat h3.1 (show c < 2147483648 by omega)
  have e : m_cpy (aI n0 f) (aI n1 g) sp.toNat dp.toNat c.toNat = aI n1 (fun j => if dp ≤ j ∧ j < dp + c then f (sp + (j - dp)) else g j) := by
    unfold m_cpy
    rw [aI_len]
    conv => rhs; unfold aI
    refine List.map_congr_left fun i hi => ?_
    have hi2 := List.mem_range.mp hi
    show (if dp.toNat ≤ i ∧ i < dp.toNat + c.toNat then (aI n0 f).getD (sp.toNat + (i - dp.toNat)) .null else (aI n1 g).getD i .null) = vI (if dp ≤ (i : Int) ∧ (i : Int) < dp + c then f (sp + ((i : Int) - dp)) else g (i : Int))
    by_cases h : dp.toNat ≤ i ∧ i < dp.toNat + c.toNat
    · rw [if_pos h, if_pos (by omega), List.getD_eq_getElem?_getD, aI_get (by omega)]
      show vI (f _) = vI (f _)
      congr 3
      omega
    · rw [if_neg h, if_neg (by omega), List.getD_eq_getElem?_getD, aI_get hi2]; rfl
  have hcp : m_cp H r0 r (iI sp) (iI dp) (iI c) = some (m_set H r (.inl (0, aI n1 (fun j => if dp ≤ j ∧ j < dp + c then f (sp + (j - dp)) else g j)))) := by
    unfold m_cp
    simp only [hg0, hg1]
    rw [if_pos ⟨trivial, trivial, iI_nn h1.1 (by omega), iI_nn h2.1 (by omega), iI_nn h3.1 (by omega), by rw [e1, e3, aI_len]; omega, by rw [e2, e3, aI_len]; omega⟩, e1, e2, e3, e]
  simp only [m_ex, m_math]
  rw [if_neg (by decide), if_neg (by decide), if_neg (by decide), if_pos trivial, if_pos h8, hcp]
  rfl
theorem R_ladd (q : Nat) {a b : Int64} (hc : m_code M pc = some (.ladd, x, y, 0, z)) (hp : pc + 1 = q) (k : m_Ev scr M q L (.long (a + b) :: S) H X) : m_Ev scr M pc L (.long b :: .long a :: S) H X := by subst hp; exact m_step hc rfl rfl rfl k
theorem R_lsub (q : Nat) {a b : Int64} (hc : m_code M pc = some (.lsub, x, y, 0, z)) (hp : pc + 1 = q) (k : m_Ev scr M q L (.long (a - b) :: S) H X) : m_Ev scr M pc L (.long b :: .long a :: S) H X := by subst hp; exact m_step hc rfl rfl rfl k
theorem R_lmul (q : Nat) {a b : Int64} (hc : m_code M pc = some (.lmul, x, y, 0, z)) (hp : pc + 1 = q) (k : m_Ev scr M q L (.long (a * b) :: S) H X) : m_Ev scr M pc L (.long b :: .long a :: S) H X := by subst hp; exact m_step hc rfl rfl rfl k
theorem R_ldiv (q : Nat) {a b : Int64} (hc : m_code M pc = some (.ldiv, x, y, 0, z)) (hp : pc + 1 = q) (h0 : ¬ b = 0) (k : m_Ev scr M q L (.long (a / b) :: S) H X) : m_Ev scr M pc L (.long b :: .long a :: S) H X := by
  subst hp
  exact m_step hc rfl rfl (by simp only [m_ex]; rw [if_neg h0]) k
theorem R_lcmp (q : Nat) {a b : Int64} (hc : m_code M pc = some (.lcmp, x, y, 0, z)) (hp : pc + 1 = q) (k : m_Ev scr M q L (.int (lg_cmp a b) :: S) H X) : m_Ev scr M pc L (.long b :: .long a :: S) H X := by subst hp; exact m_step hc rfl rfl rfl k
theorem R_i2l (q : Nat) {a : Int32} (hc : m_code M pc = some (.i2l, x, y, 0, z)) (hp : pc + 1 = q) (k : m_Ev scr M q L (.long a.toInt64 :: S) H X) : m_Ev scr M pc L (.int a :: S) H X := by subst hp; exact m_step hc rfl rfl rfl k
/-- calls -/
theorem R_callS (q : Nat) {n xc : Nat} {as S' : List Value} {v : Option Value} {H1 : List mC} (hc : m_code M pc = some (.invokestatic n, xc, y, 1, z)) (hp : pc + 3 = q) (hcut : m_cut xc S H = some (as, S')) (hcat : m_cat as ≤ m_nL xc) (hcl : m_Cl scr xc as H v H1) (k : m_Ev scr M q L (v.toList ++ S') H1 X) : m_Ev scr M pc L S H X := by
  subst hp
  exact m_cal hc rfl rfl hcut hcat hcl k
theorem m_cutV {xc r : Nat} {S S' as fs : List Value} {H : List mC} (hst : m_stc xc = false) (hd : S.drop (m_na xc) = .ref r :: S') (hta : .ref r :: (S.take (m_na xc)).reverse = as) (h8 : m_cat S' ≤ 8) (hg : m_get H r = some (.inr (m_rc xc, fs))) : m_cut xc S H = some (as, S') := by
  unfold m_cut
  rw [if_neg (by rw [hst]; decide), hd]
  simp only [hg, true_and]
  rw [if_pos h8, hta]
theorem R_callV (q : Nat) {n xc r : Nat} {as S' fs : List Value} {v : Option Value} {H1 : List mC} (hc : m_code M pc = some (.invokevirtual n, xc, y, 1, z)) (hp : pc + 3 = q) (hst : m_stc xc = false) (hd : S.drop (m_na xc) = .ref r :: S') (hta : .ref r :: (S.take (m_na xc)).reverse = as) (h8 : m_cat S' ≤ 8) (hcat : m_cat as ≤ m_nL xc) (hg : m_get H r = some (.inr (m_rc xc, fs))) (hcl : m_Cl scr xc as H v H1) (k : m_Ev scr M q L (v.toList ++ S') H1 X) : m_Ev scr M pc L S H X := by
  subst hp
  exact m_cal hc rfl rfl (m_cutV hst hd hta h8 hg) hcat hcl k
/-- ends -/
theorem R_ireturn {v : Int32} (hc : m_code M pc = some (.ireturn, x, y, 0, z)) (hr : m_rt M = some .int) (hX : X (some (.int v), H)) : m_Ev scr M pc L [.int v] H X := m_ret hc rfl rfl (by rw [hr]; rfl) hX
theorem R_zreturn {v : Int32} (hc : m_code M pc = some (.ireturn, x, y, 0, z)) (hr : m_rt M = some .boolean) (hv : narrow .boolean (.int v) = .int v) (hX : X (some (.int v), H)) : m_Ev scr M pc L [.int v] H X := m_ret hc rfl rfl (by rw [hr]; exact decide_eq_true hv) hX
theorem R_lreturn {v : Int64} (hc : m_code M pc = some (.lreturn, x, y, 0, z)) (hr : m_rt M = some .long) (hX : X (some (.long v), H)) : m_Ev scr M pc L [.long v] H X := m_ret hc rfl rfl (by rw [hr]; rfl) hX
theorem R_dreturn {v : UInt64} (hc : m_code M pc = some (.dreturn, x, y, 0, z)) (hr : m_rt M = some .double) (hX : X (some (.double v), H)) : m_Ev scr M pc L [.double v] H X := m_ret hc rfl rfl (by rw [hr]; rfl) hX
theorem R_areturn {r : Nat} {C : String} (hc : m_code M pc = some (.areturn, x, y, 0, z)) (hr : m_rt M = some (.object C)) (hX : X (some (.ref r), H)) : m_Ev scr M pc L [.ref r] H X := m_ret hc rfl rfl (by rw [hr]; rfl) hX
theorem R_return (hc : m_code M pc = some (.return_, x, y, 0, z)) (hr : m_rt M = none) (hX : X (none, H)) : m_Ev scr M pc L [] H X := m_ret hc rfl rfl (by rw [hr]; rfl) hX
/-- a loop that counts: what holds at its head, from 0 to n -/
theorem m_for (n : Int) (Lf : Int → mL) (Hf : Int → List mC) (a : Int) (ha : a ≤ n) (step : ∀ i, a ≤ i → i < n → m_Ev scr M pc (Lf (i + 1)) [] (Hf (i + 1)) X → m_Ev scr M pc (Lf i) [] (Hf i) X) (fin : m_Ev scr M pc (Lf n) [] (Hf n) X) : m_Ev scr M pc (Lf a) [] (Hf a) X := by
  have key : ∀ k : Nat, ∀ i, a ≤ i → i + k = n → m_Ev scr M pc (Lf i) [] (Hf i) X := by
    intro k
    induction k with
    | zero => intro i hi he; rw [show i = n by omega]; exact fin
    | succ k ih => intro i hi he; exact step i hi (by omega) (ih (i + 1) (by omega) (by omega))
  exact key (n - a).toNat a (Int.le_refl _) (by omega)
/-- the same, begun at a heap that is the first one -/
theorem m_forw (n : Int) (Lf : Int → mL) (Hf : Int → List mC) (a : Int) (hL : L = Lf a) (hH : H = Hf a) (ha : a ≤ n) (step : ∀ i, a ≤ i → i < n → m_Ev scr M pc (Lf (i + 1)) [] (Hf (i + 1)) X → m_Ev scr M pc (Lf i) [] (Hf i) X) (fin : m_Ev scr M pc (Lf n) [] (Hf n) X) : m_Ev scr M pc L [] H X := by
  rw [hL, hH]
  exact m_for n Lf Hf a ha step fin
/-- a loop whose state is told by what holds of it -/
theorem m_forP (n : Int) (P : Int → mL → List mC → Prop) (a : Int) (hP : P a L H) (ha : a ≤ n) (step : ∀ i L H, a ≤ i → i < n → P i L H → (∀ L' H', P (i + 1) L' H' → m_Ev scr M pc L' [] H' X) → m_Ev scr M pc L [] H X) (fin : ∀ L H, P n L H → m_Ev scr M pc L [] H X) : m_Ev scr M pc L [] H X := by
  have key : ∀ k : Nat, ∀ i L H, a ≤ i → i + k = n → P i L H → m_Ev scr M pc L [] H X := by
    intro k
    induction k with
    | zero => intro i L H hi he hp; exact fin L H (by rwa [show n = i by omega])
    | succ k ih => intro i L H hi he hp; exact step i L H hi (by omega) hp (fun L' H' hp' => ih (i + 1) L' H' (by omega) (by omega) hp')
  exact key (n - a).toNat a L H (Int.le_refl _) (by omega) hP
end RW
