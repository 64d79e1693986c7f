theorem gu_X0 {c0 : Cond} : ∀ z ∈ u_ws RX0 TX0 11, z ∈ c0 :: GW := by
  intro z hz
  simp only [u_ws, List.mem_map, List.mem_range] at hz
  obtain ⟨k, hk, rfl⟩ := hz
  match k, hk with
  | 0, _ => exact w_79
  | 1, _ => exact w_81
  | 2, _ => exact w_83
  | 3, _ => exact w_85
  | 4, _ => exact w_87
  | 5, _ => exact w_89
  | 6, _ => exact w_91
  | 7, _ => exact w_93
  | 8, _ => exact w_95
  | 9, _ => exact w_97
  | 10, _ => exact w_99
  | k + 11, hk => exact absurd hk (by omega)
theorem gu_X1 {c0 : Cond} : ∀ z ∈ u_ws RX1 TX1 6, z ∈ c0 :: GW := by
  intro z hz
  simp only [u_ws, List.mem_map, List.mem_range] at hz
  obtain ⟨k, hk, rfl⟩ := hz
  match k, hk with
  | 0, _ => exact w_611
  | 1, _ => exact w_613
  | 2, _ => exact w_615
  | 3, _ => exact w_617
  | 4, _ => exact w_619
  | 5, _ => exact w_621
  | k + 6, hk => exact absurd hk (by omega)
theorem gu_X2 {c0 : Cond} : ∀ z ∈ u_ws RX2 TX2 4, z ∈ c0 :: GW := by
  intro z hz
  simp only [u_ws, List.mem_map, List.mem_range] at hz
  obtain ⟨k, hk, rfl⟩ := hz
  match k, hk with
  | 0, _ => exact w_44
  | 1, _ => exact w_46
  | 2, _ => exact w_48
  | 3, _ => exact w_50
  | k + 4, hk => exact absurd hk (by omega)
theorem gu_X3 {c0 : Cond} : ∀ z ∈ u_ws RX3 TX3 5, z ∈ c0 :: GW := by
  intro z hz
  simp only [u_ws, List.mem_map, List.mem_range] at hz
  obtain ⟨k, hk, rfl⟩ := hz
  match k, hk with
  | 0, _ => exact w_135
  | 1, _ => exact w_137
  | 2, _ => exact w_139
  | 3, _ => exact w_141
  | 4, _ => exact w_143
  | k + 5, hk => exact absurd hk (by omega)
theorem gu_X4 {c0 : Cond} : ∀ z ∈ u_ws RX4 TX4 21, z ∈ c0 :: GW := by
  intro z hz
  simp only [u_ws, List.mem_map, List.mem_range] at hz
  obtain ⟨k, hk, rfl⟩ := hz
  match k, hk with
  | 0, _ => exact w_935
  | 1, _ => exact w_937
  | 2, _ => exact w_939
  | 3, _ => exact w_941
  | 4, _ => exact w_943
  | 5, _ => exact w_945
  | 6, _ => exact w_947
  | 7, _ => exact w_949
  | 8, _ => exact w_951
  | 9, _ => exact w_953
  | 10, _ => exact w_955
  | 11, _ => exact w_957
  | 12, _ => exact w_959
  | 13, _ => exact w_961
  | 14, _ => exact w_963
  | 15, _ => exact w_965
  | 16, _ => exact w_967
  | 17, _ => exact w_969
  | 18, _ => exact w_971
  | 19, _ => exact w_973
  | 20, _ => exact w_975
  | k + 21, hk => exact absurd hk (by omega)
theorem gu_Jx4a65c {c0 : Cond} : ∀ z ∈ u_ws RJx4a65c TJx4a65c 3, z ∈ c0 :: GW := by
  intro z hz
  simp only [u_ws, List.mem_map, List.mem_range] at hz
  obtain ⟨k, hk, rfl⟩ := hz
  match k, hk with
  | 0, _ => exact w_127
  | 1, _ => exact w_123
  | 2, _ => exact w_125
  | k + 3, hk => exact absurd hk (by omega)
