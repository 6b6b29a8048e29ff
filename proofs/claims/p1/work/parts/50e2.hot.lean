/-! blocks of the table that some runs want first -/
noncomputable section
def O_cuh : sO := [(118, bm_118), (41, bm_41), (51, bm_51), (169, [(44, bo_169_44)]), (167, [(76, bo_167_76)])]
end
section HT
variable {scr : List Int32} {σ ρ : Nat → Nat}
theorem tab_OK (hσ : s_in σ) {M : Nat} {bl : List (Nat × (sR → sK))} (h1 : (M, bl) ∈ s_tab) {pc : Nat} {b : sR → sK} (h3 : (pc, b) ∈ bl) {r : sR} (hr : ∀ M pc, s_OK scr σ ρ (r M pc) M pc) : s_OK scr σ ρ (b r) M pc := by
  rw [bq_all] at h1
  obtain ⟨q, hq, hq2⟩ := List.mem_map.mp h1
  cases hq2
  obtain ⟨g, hg, hg2⟩ := List.mem_map.mp h3
  cases hg2
  have hck := List.all_eq_true.mp s_bchk_ok q hq
  rw [Bool.and_eq_true] at hck
  have hck2 := List.all_eq_true.mp hck.2 g hg
  exact s_cmp_ok hσ hr g.2.2.2 _ _ (fun p hp => s_code_of hck.1 (s_row_mem hp)) hck2
set_option maxRecDepth 100000 in
theorem tab_in : (118, bm_118) ∈ s_tab ∧ (41, bm_41) ∈ s_tab ∧ (51, bm_51) ∈ s_tab := ⟨List.mem_of_getElem? (i := 193) rfl, List.mem_of_getElem? (i := 152) rfl, List.mem_of_getElem? (i := 162) rfl⟩
theorem O_cuh_ok (hσ : s_in σ) : s_Oo scr σ ρ O_cuh := by
  obtain ⟨t1, t2, t3⟩ := tab_in
  have hc := O_cut_ok (scr := scr) (ρ := ρ) hσ
  intro M bl h1 pc b h2 r hr
  simp only [O_cuh, List.mem_cons, List.mem_nil_iff, or_false] at h1
  rcases h1 with h1 | h1 | h1 | h1 | h1
  · cases h1; exact tab_OK hσ t1 h2 hr
  · cases h1; exact tab_OK hσ t2 h2 hr
  · cases h1; exact tab_OK hσ t3 h2 hr
  · exact hc M bl (by rw [h1]; exact List.mem_cons_self) pc b h2 r hr
  · exact hc M bl (by rw [h1]; exact List.mem_cons_of_mem _ List.mem_cons_self) pc b h2 r hr
end HT
