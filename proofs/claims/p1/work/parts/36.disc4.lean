/-! disc: the run -/
noncomputable section
def bo_56_66 (r : sR) : sK := s_ild 8 (s_ald 6 (s_gf 3 0 (s_ilt (s_mgC r) (r 56 126))))
def bo_156_68 (r : sR) : sK := s_ild 8 (s_ald 7 (s_len (s_ilt (s_mgR r) (r 156 121))))
def O_dis : sO := [(38, [(9, bo_38_9)]), (113, [(9, bo_113_9)]), (56, [(66, bo_56_66)]), (156, [(68, bo_156_68)])]
end
def s_rep (n : Nat) (a : Nat × Nat × List Nat) (t : sE) : sE := Nat.rec t (fun _ ih => a :: ih) n
/-- bounds of the first words, of the cells, of the sums, of the answer -/
def s_EO (e1 e2 e3 e4 e5 e6 ea : Nat × Nat × List Nat) : sE := s_fu :: e1 :: e2 :: e3 :: e4 :: e5 :: e6 :: s_rep 137 s_fu [ea]
