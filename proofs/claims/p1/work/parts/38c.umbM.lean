theorem k_umb_0_0 : zall [6442450942, 2147483647, 2147483648, 2147483649, 2147483650, 9223372058329612287] (fun c2 => zrun f_X8_umbrellas f_X9_umbrellas [.inl 6442450944, .inl c2]) = true := by decide +kernel
theorem k_umb_1_0 : zall [6442450942, 2147483647, 2147483648, 2147483649, 2147483650, 9223372058329612287] (fun c2 => zrun f_X8_umbrellas f_X9_umbrellas [.inl 2147483649, .inl c2]) = true := by decide +kernel
theorem k_umb_2_0 : zall [6442450942, 2147483647, 2147483648] (fun c2 => zrun f_X8_umbrellas f_X9_umbrellas [.inl 2147483650, .inl c2]) = true := by decide +kernel
theorem k_umb_2_1 : zall [2147483649, 2147483650, 9223372058329612287] (fun c2 => zrun f_X8_umbrellas f_X9_umbrellas [.inl 2147483650, .inl c2]) = true := by decide +kernel
theorem k_umb_3_0 : zall [6442450942, 9223372058329612287] (fun c2 => zrun f_X8_umbrellas f_X9_umbrellas [.inl 2147483651, .inl c2]) = true := by decide +kernel
theorem k_umbM_3_1 : f_X9_umbrellas [.inr (.ref 292), .inl 2147483651, .inl 2147483647] 336 zA4 (zret2 2147483648) = true := by decide +kernel
theorem k_umbM_3_2 : f_X9_umbrellas [.inr (.ref 292), .inl 2147483651, .inl 2147483648] 336 zA4 (zret2 2147483648) = true := by decide +kernel
theorem k_umbM_3_3 : f_X9_umbrellas [.inr (.ref 292), .inl 2147483651, .inl 2147483649] 336 zA4 (zret2 2147483649) = true := by decide +kernel
theorem k_umbM_3_4 : f_X9_umbrellas [.inr (.ref 292), .inl 2147483651, .inl 2147483650] 336 zA4 (zret2 2147483650) = true := by decide +kernel
theorem k_umb_4_0 : zall [6442450942, 2147483647, 2147483648, 2147483649, 2147483650, 9223372058329612287] (fun c2 => zrun f_X8_umbrellas f_X9_umbrellas [.inl 9223372062624579583, .inl c2]) = true := by decide +kernel
theorem h_umb_0 {l : Launch} {G : qG} {gh : zGh} {I : qMI} {L : qML} {R : qMR} (hm : zM gh 336 zA0 I L R) {x1 : Int32} (z1 : zin 6442450944 x1) (x2 : Int32) : zH l G 8 n_X8_umbrellas n_X9_umbrellas [.int x1, .int x2] I L R := by
  obtain ⟨c2, m2, z2⟩ := zcover (ps := [6442450942, 2147483647, 2147483648, 2147483649, 2147483650, 9223372058329612287]) (by decide +kernel) x2
  simp only [List.mem_cons, List.not_mem_nil, or_false] at m2
  rcases m2 with rfl | rfl | rfl | rfl | rfl | rfl
  · exact zcase hm (c_X8_umbrellas 2) (c_X9_umbrellas 5) (zall_t k_umb_0_0 _ (by decide)) ⟨zg_i z1, zg_i z2, trivial⟩
  · exact zcase hm (c_X8_umbrellas 2) (c_X9_umbrellas 5) (zall_t k_umb_0_0 _ (by decide)) ⟨zg_i z1, zg_i z2, trivial⟩
  · exact zcase hm (c_X8_umbrellas 2) (c_X9_umbrellas 5) (zall_t k_umb_0_0 _ (by decide)) ⟨zg_i z1, zg_i z2, trivial⟩
  · exact zcase hm (c_X8_umbrellas 2) (c_X9_umbrellas 5) (zall_t k_umb_0_0 _ (by decide)) ⟨zg_i z1, zg_i z2, trivial⟩
  · exact zcase hm (c_X8_umbrellas 2) (c_X9_umbrellas 5) (zall_t k_umb_0_0 _ (by decide)) ⟨zg_i z1, zg_i z2, trivial⟩
  · exact zcase hm (c_X8_umbrellas 2) (c_X9_umbrellas 5) (zall_t k_umb_0_0 _ (by decide)) ⟨zg_i z1, zg_i z2, trivial⟩
theorem h_umb_1 {l : Launch} {G : qG} {gh : zGh} {I : qMI} {L : qML} {R : qMR} (hm : zM gh 336 zA0 I L R) {x1 : Int32} (z1 : zin 2147483649 x1) (x2 : Int32) : zH l G 8 n_X8_umbrellas n_X9_umbrellas [.int x1, .int x2] I L R := by
  obtain ⟨c2, m2, z2⟩ := zcover (ps := [6442450942, 2147483647, 2147483648, 2147483649, 2147483650, 9223372058329612287]) (by decide +kernel) x2
  simp only [List.mem_cons, List.not_mem_nil, or_false] at m2
  rcases m2 with rfl | rfl | rfl | rfl | rfl | rfl
  · exact zcase hm (c_X8_umbrellas 2) (c_X9_umbrellas 5) (zall_t k_umb_1_0 _ (by decide)) ⟨zg_i z1, zg_i z2, trivial⟩
  · exact zcase hm (c_X8_umbrellas 2) (c_X9_umbrellas 5) (zall_t k_umb_1_0 _ (by decide)) ⟨zg_i z1, zg_i z2, trivial⟩
  · exact zcase hm (c_X8_umbrellas 2) (c_X9_umbrellas 5) (zall_t k_umb_1_0 _ (by decide)) ⟨zg_i z1, zg_i z2, trivial⟩
  · exact zcase hm (c_X8_umbrellas 2) (c_X9_umbrellas 5) (zall_t k_umb_1_0 _ (by decide)) ⟨zg_i z1, zg_i z2, trivial⟩
  · exact zcase hm (c_X8_umbrellas 2) (c_X9_umbrellas 5) (zall_t k_umb_1_0 _ (by decide)) ⟨zg_i z1, zg_i z2, trivial⟩
  · exact zcase hm (c_X8_umbrellas 2) (c_X9_umbrellas 5) (zall_t k_umb_1_0 _ (by decide)) ⟨zg_i z1, zg_i z2, trivial⟩
theorem h_umb_2 {l : Launch} {G : qG} {gh : zGh} {I : qMI} {L : qML} {R : qMR} (hm : zM gh 336 zA0 I L R) {x1 : Int32} (z1 : zin 2147483650 x1) (x2 : Int32) : zH l G 8 n_X8_umbrellas n_X9_umbrellas [.int x1, .int x2] I L R := by
  obtain ⟨c2, m2, z2⟩ := zcover (ps := [6442450942, 2147483647, 2147483648, 2147483649, 2147483650, 9223372058329612287]) (by decide +kernel) x2
  simp only [List.mem_cons, List.not_mem_nil, or_false] at m2
  rcases m2 with rfl | rfl | rfl | rfl | rfl | rfl
  · exact zcase hm (c_X8_umbrellas 2) (c_X9_umbrellas 5) (zall_t k_umb_2_0 _ (by decide)) ⟨zg_i z1, zg_i z2, trivial⟩
  · exact zcase hm (c_X8_umbrellas 2) (c_X9_umbrellas 5) (zall_t k_umb_2_0 _ (by decide)) ⟨zg_i z1, zg_i z2, trivial⟩
  · exact zcase hm (c_X8_umbrellas 2) (c_X9_umbrellas 5) (zall_t k_umb_2_0 _ (by decide)) ⟨zg_i z1, zg_i z2, trivial⟩
  · exact zcase hm (c_X8_umbrellas 2) (c_X9_umbrellas 5) (zall_t k_umb_2_1 _ (by decide)) ⟨zg_i z1, zg_i z2, trivial⟩
  · exact zcase hm (c_X8_umbrellas 2) (c_X9_umbrellas 5) (zall_t k_umb_2_1 _ (by decide)) ⟨zg_i z1, zg_i z2, trivial⟩
  · exact zcase hm (c_X8_umbrellas 2) (c_X9_umbrellas 5) (zall_t k_umb_2_1 _ (by decide)) ⟨zg_i z1, zg_i z2, trivial⟩
theorem h_umb_3 {l : Launch} {G : qG} {gh : zGh} {I : qMI} {L : qML} {R : qMR} (hm : zM gh 336 zA0 I L R) {x1 : Int32} (z1 : zin 2147483651 x1) (x2 : Int32) : zH l G 8 n_X8_umbrellas n_X9_umbrellas [.int x1, .int x2] I L R := by
  obtain ⟨c2, m2, z2⟩ := zcover (ps := [6442450942, 2147483647, 2147483648, 2147483649, 2147483650, 9223372058329612287]) (by decide +kernel) x2
  simp only [List.mem_cons, List.not_mem_nil, or_false] at m2
  rcases m2 with rfl | rfl | rfl | rfl | rfl | rfl
  · exact zcase hm (c_X8_umbrellas 2) (c_X9_umbrellas 5) (zall_t k_umb_3_0 _ (by decide)) ⟨zg_i z1, zg_i z2, trivial⟩
  · exact zcase2 hm (fun _ => c_X8_umbrellas 2) (fun _ => c_X9_umbrellas 5) k_umbC_3_1 k_umbM_3_1 ⟨zg_i z1, zg_i z2, trivial⟩
  · exact zcase2 hm (fun _ => c_X8_umbrellas 2) (fun _ => c_X9_umbrellas 5) k_umbC_3_2 k_umbM_3_2 ⟨zg_i z1, zg_i z2, trivial⟩
  · exact zcase2 hm (fun _ => c_X8_umbrellas 2) (fun _ => c_X9_umbrellas 5) k_umbC_3_3 k_umbM_3_3 ⟨zg_i z1, zg_i z2, trivial⟩
  · exact zcase2 hm (fun _ => c_X8_umbrellas 2) (fun _ => c_X9_umbrellas 5) k_umbC_3_4 k_umbM_3_4 ⟨zg_i z1, zg_i z2, trivial⟩
  · exact zcase hm (c_X8_umbrellas 2) (c_X9_umbrellas 5) (zall_t k_umb_3_0 _ (by decide)) ⟨zg_i z1, zg_i z2, trivial⟩
theorem h_umb_4 {l : Launch} {G : qG} {gh : zGh} {I : qMI} {L : qML} {R : qMR} (hm : zM gh 336 zA0 I L R) {x1 : Int32} (z1 : zin 9223372062624579583 x1) (x2 : Int32) : zH l G 8 n_X8_umbrellas n_X9_umbrellas [.int x1, .int x2] I L R := by
  obtain ⟨c2, m2, z2⟩ := zcover (ps := [6442450942, 2147483647, 2147483648, 2147483649, 2147483650, 9223372058329612287]) (by decide +kernel) x2
  simp only [List.mem_cons, List.not_mem_nil, or_false] at m2
  rcases m2 with rfl | rfl | rfl | rfl | rfl | rfl
  · exact zcase hm (c_X8_umbrellas 2) (c_X9_umbrellas 5) (zall_t k_umb_4_0 _ (by decide)) ⟨zg_i z1, zg_i z2, trivial⟩
  · exact zcase hm (c_X8_umbrellas 2) (c_X9_umbrellas 5) (zall_t k_umb_4_0 _ (by decide)) ⟨zg_i z1, zg_i z2, trivial⟩
  · exact zcase hm (c_X8_umbrellas 2) (c_X9_umbrellas 5) (zall_t k_umb_4_0 _ (by decide)) ⟨zg_i z1, zg_i z2, trivial⟩
  · exact zcase hm (c_X8_umbrellas 2) (c_X9_umbrellas 5) (zall_t k_umb_4_0 _ (by decide)) ⟨zg_i z1, zg_i z2, trivial⟩
  · exact zcase hm (c_X8_umbrellas 2) (c_X9_umbrellas 5) (zall_t k_umb_4_0 _ (by decide)) ⟨zg_i z1, zg_i z2, trivial⟩
  · exact zcase hm (c_X8_umbrellas 2) (c_X9_umbrellas 5) (zall_t k_umb_4_0 _ (by decide)) ⟨zg_i z1, zg_i z2, trivial⟩
theorem h_umbrellas {l : Launch} {G : qG} {gh : zGh} {I : qMI} {L : qML} {R : qMR} (hm : zM gh 336 zA0 I L R) (x1 x2 : Int32) : zH l G 8 n_X8_umbrellas n_X9_umbrellas [.int x1, .int x2] I L R := by
  obtain ⟨c1, m1, z1⟩ := zcover (ps := [6442450944, 2147483649, 2147483650, 2147483651, 9223372062624579583]) (by decide +kernel) x1
  simp only [List.mem_cons, List.not_mem_nil, or_false] at m1
  rcases m1 with rfl | rfl | rfl | rfl | rfl
  · exact h_umb_0 hm z1 x2
  · exact h_umb_1 hm z1 x2
  · exact h_umb_2 hm z1 x2
  · exact h_umb_3 hm z1 x2
  · exact h_umb_4 hm z1 x2
