/-! the run by symbols is sound -/
section SZ
variable {scr : List Int32} {σ ρ : Nat → Nat} {M pc x y w : Nat} {z : Int} {k kt kf : sK}
theorem O_fail : s_OK scr σ ρ s_fail M pc := by
  intro L S F H E B CF cL cH h
  cases h
theorem O_if {p : Prop} [Decidable p] {a b : sK} (ha : p → s_OK scr σ ρ a M pc) (hb : ¬ p → s_OK scr σ ρ b M pc) : s_OK scr σ ρ (if p then a else b) M pc := by
  split
  · next h => exact ha h
  · next h => exact hb h
theorem O_call {r : sR} {i : Instr} (hc : m_code M pc = some (i, x, y, w, z)) (hi : m_inv i = true) (hr : ∀ M pc, s_OK scr σ ρ (r M pc) M pc) : s_OK scr σ ρ (s_call r M pc i x w) M pc :=
  O_if (fun h => O_cal hc h.1 hi h.2 hr) (fun _ => O_fail)
theorem s_cmp1_ok (hσ : s_in σ) {r : sR} {i : Instr} (hc : m_code M pc = some (i, x, y, w, z)) (hr : ∀ M pc, s_OK scr σ ρ (r M pc) M pc) (hk : s_OK scr σ ρ k M (pc + m_len i z)) : s_OK scr σ ρ (s_cmp1 r M (pc, i, x, y, w, z) k) M pc := by
  unfold s_cmp1
  dsimp only
  split
  · next h8 =>
    subst h8
    split
    · next n => exact O_if (fun h => O_thr hc h hr) (fun _ => O_fail)
    · exact O_fail
  · next h8 =>
    split
    · next n => exact O_if (fun h => O_push hc h8 rfl (fun _ => rfl) (fun cL S cH => by
        show some (pc + 1, cL, Value.int (Int32.ofInt n) :: S, cH) = some (pc + 1, cL, Value.int (cI (s_num n)) :: S, cH)
        rw [cI_of h]) hk) (fun _ => O_fail)
    · next n => exact O_if (fun h => O_push hc h8 rfl (fun _ => rfl) (fun cL S cH => by
        show some (pc + 2, cL, Value.int (Int8.ofInt n).toInt32 :: S, cH) = some (pc + 2, cL, Value.int (cI (s_num n)) :: S, cH)
        rw [cI_of h.1, h.2]) hk) (fun _ => O_fail)
    · next n => exact O_if (fun h => O_push hc h8 rfl (fun _ => rfl) (fun cL S cH => by
        show some (pc + 3, cL, Value.int (Int16.ofInt n).toInt32 :: S, cH) = some (pc + 3, cL, Value.int (cI (s_num n)) :: S, cH)
        rw [cI_of h.1, h.2]) hk) (fun _ => O_fail)
    · next n =>
      have e : sv σ ρ (v_l n.val) = .long (Int64.ofNat n.val) := sv_ln (Nat.lt_of_lt_of_le n.isLt (by decide))
      exact O_push (v := v_l n.val) (pc' := pc + 1) hc h8 rfl (fun _ => rfl) (fun cL S cH => by rw [e]; rfl) hk
    · next d => exact O_if (fun h => O_push hc h8 rfl (fun _ => rfl) (fun cL S cH => by
        simp only [m_ex]
        rw [if_pos h]
        rfl) hk) (fun _ => O_fail)
    · next n => exact O_if (fun h => O_push hc h8 rfl (fun _ => rfl) (fun cL S cH => by
        simp only [m_ex]
        rw [if_pos h]
        rfl) hk) (fun h => O_if (fun h2 => O_push hc h8 rfl (fun _ => rfl) (fun cL S cH => by
        simp only [m_ex]
        rw [if_neg h]
        show some (pc + 2, cL, Value.int (Int32.ofInt z) :: S, cH) = some (pc + 2, cL, Value.int (cI (s_num z)) :: S, cH)
        rw [cI_of h2]) hk) (fun _ => O_fail))
    · next n =>
      have e : sv σ ρ (v_l (z % 18446744073709551616).toNat) = .long (Int64.ofInt z) := by
        rw [sv_ln (by omega), cL_of, cL_eq (x := ((z % 18446744073709551616).toNat : Int)) (y := z) (by omega)]
      exact O_push (v := v_l (z % 18446744073709551616).toNat) (pc' := pc + 3) hc h8 rfl (fun _ => rfl) (fun cL S cH => by rw [e]; rfl) hk
    · exact O_ild hc h8 rfl (fun _ => rfl) (fun _ _ _ => rfl) hk
    · exact O_ild hc h8 rfl (fun _ => rfl) (fun _ _ _ => rfl) hk
    · exact O_ald hc h8 rfl (fun _ => rfl) (fun _ _ _ => rfl) hk
    · exact O_ald hc h8 rfl (fun _ => rfl) (fun _ _ _ => rfl) hk
    · exact O_lld hc h8 rfl (fun _ => rfl) (fun _ _ _ => rfl) hk
    · exact O_lld hc h8 rfl (fun _ => rfl) (fun _ _ _ => rfl) hk
    · exact O_dld hc h8 rfl (fun _ => rfl) (fun _ _ _ => rfl) hk
    · exact O_ist hc h8 rfl (fun _ => rfl) (fun _ _ _ => rfl) hk
    · exact O_ist hc h8 rfl (fun _ => rfl) (fun _ _ _ => rfl) hk
    · exact O_ast hc h8 rfl (fun _ => rfl) (fun _ _ _ => rfl) hk
    · exact O_ast hc h8 rfl (fun _ => rfl) (fun _ _ _ => rfl) hk
    · exact O_lst hc h8 rfl (fun _ => rfl) (fun _ _ _ => rfl) hk
    · exact O_lst hc h8 rfl (fun _ => rfl) (fun _ _ _ => rfl) hk
    · exact O_dst hc h8 rfl (fun _ => rfl) (fun _ _ _ => rfl) hk
    · exact O_inc hc h8 hk
    · exact O_add hc h8 hk
    · exact O_sub hc h8 hk
    · exact O_mul hc h8 hk
    · exact O_div hc h8 hk
    · exact O_rem hc h8 hk
    · exact O_and hc h8 hk
    · exact O_shr hc h8 hk
    · exact O_i2l hc h8 hk
    · exact O_i2d hc h8 hk
    · exact O_ladd hc h8 hk
    · exact O_lsub hc h8 hk
    · exact O_lmul hc h8 hk
    · exact O_lcm hc h8 hk
    · exact O_ddv hc h8 hk
    · exact O_dcm hc h8 hk
    · exact O_dup hc h8 hk
    · exact O_du2 hc h8 hk
    · exact O_dx1 hc h8 hk
    · exact O_pop hc h8 hk
    · exact O_push hc h8 rfl (fun _ => rfl) (fun cL S cH => rfl) hk
    · exact O_goto hc h8 (hr M x)
    · next c off => exact (show s_OK scr σ ρ (s_zcc c (r M x) k) M pc from O_zcc hc h8 (hr M x) hk)
    · next c off => exact (show s_OK scr σ ρ (s_icc c (r M x) k) M pc from O_icc hc h8 (hr M x) hk)
    · next c off =>
      refine O_ifa hc h8 ?_
      split
      · exact hr M x
      · exact hk
    · next d lo hi offs =>
      split
      · next dt ts hd ht => exact O_if (fun h => O_tsw hc h8 hd ht h.1 h.2.1 h.2.2 (hr M)) (fun _ => O_fail)
      · exact O_fail
    · next d ps =>
      split
      · next dt ts hd ht => exact O_if (fun h => O_lsw hc h8 hd ht (fun p hp => of_decide_eq_true (List.all_eq_true.mp h p hp)) (hr M)) (fun _ => O_fail)
      · exact O_fail
    · exact O_if (fun _ => O_fail) (fun h => O_gf hc h8 h hk)
    · refine O_if (fun _ => O_fail) (fun h => ?_)
      split
      · next t ht => exact O_pf hσ hc h8 h ht hk
      · exact O_fail
    · next n => exact O_if (fun h => O_if (fun _ => O_fail) (fun hx => O_push hc h8 rfl (fun _ => rfl) (fun cL S cH => by
        simp only [m_ex]
        rw [if_pos h, sv_p hx]
        rfl) hk)) (fun h => O_if (fun h2 => O_push hc h8 rfl (fun _ => rfl) (fun cL S cH => by
        simp only [m_ex]
        rw [if_neg h, if_pos h2.1]
        show some (pc + 3, cL, Value.int (Int32.ofInt z) :: S, cH) = some (pc + 3, cL, Value.int (cI (s_num z)) :: S, cH)
        rw [cI_of h2.2]) hk) (fun _ => O_fail))
    · exact O_iga hc h8 hk
    · exact O_bga hc h8 hk
    · exact O_lga hc h8 hk
    · exact O_dga hc h8 hk
    · exact O_aga hc h8 hk
    · exact O_ias hσ hc h8 hk
    · exact O_bas hσ hc h8 hk
    · exact O_las hσ hc h8 hk
    · exact O_das hσ hc h8 hk
    · exact O_aas hσ hc h8 hk
    · exact O_len hc h8 hk
    · split
      · next c hcl => exact O_if (fun h => O_new hc h8 hcl h.1 h.2 hk) (fun _ => O_fail)
      · exact O_fail
    · exact O_nar hc h8 hk
    · exact O_anw hc h8 hk
    · exact O_cst hc h8 hk
    · exact O_if (fun h => O_mm (Or.inl ⟨rfl, h⟩) hc hk) (fun _ => O_if (fun h => O_mm (Or.inr ⟨rfl, h⟩) hc hk) (fun _ => O_if (fun h => by subst h; exact O_abs hc hk) (fun _ => O_if (fun h => by subst h; exact O_cpy hσ hc hk) (fun _ => O_call hc rfl hr))))
    · exact O_if (fun h => by subst h; exact O_cln hc hk) (fun _ => O_if (fun h => by subst h; exact O_gcl hc hk) (fun _ => O_call hc rfl hr))
    · exact O_if (fun h => by subst h; exact O_obj hc hk) (fun _ => O_call hc rfl hr)
    · exact O_if (fun h => O_reti hc h8 hr h) (fun _ => O_if (fun h => O_retz hc h8 hr h) (fun _ => O_fail))
    · exact O_if (fun h => O_reta hc h8 hr h) (fun _ => O_fail)
    · exact O_if (fun h => O_retl hc h8 hr h) (fun _ => O_fail)
    · exact O_if (fun h => O_retd hc h8 hr h) (fun _ => O_fail)
    · exact O_if (fun h => O_rev hc h8 hr h) (fun _ => O_fail)
    · exact O_fail
end SZ
