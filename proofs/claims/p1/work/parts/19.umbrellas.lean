theorem k_umb_0_0 : zall [6442450942, 2147483647, 2147483648, 2147483649, 2147483650, 9223372058329612287] (fun c2 => zrun f_X8_umbrellas f_X9_umbrellas [.inl 6442450944, .inl c2]) = true := by decide +kernel
theorem k_umb_0 (x : Int32) : ∃ c, zin c x ∧ zrun f_X8_umbrellas f_X9_umbrellas [.inl 6442450944, .inl c] = true := by
  obtain ⟨c, m, z⟩ := zcover (ps := [6442450942, 2147483647, 2147483648, 2147483649, 2147483650, 9223372058329612287]) (by decide +kernel) x
  exact ⟨c, z, (fun c => zall_t k_umb_0_0 c : ∀ c ∈ [6442450942, 2147483647, 2147483648, 2147483649, 2147483650, 9223372058329612287], zrun f_X8_umbrellas f_X9_umbrellas [.inl 6442450944, .inl c] = true) c m⟩
theorem k_umb_1_0 : zall [6442450942, 2147483647, 2147483648, 2147483649, 2147483650, 9223372058329612287] (fun c2 => zrun f_X8_umbrellas f_X9_umbrellas [.inl 2147483649, .inl c2]) = true := by decide +kernel
theorem k_umb_1 (x : Int32) : ∃ c, zin c x ∧ zrun f_X8_umbrellas f_X9_umbrellas [.inl 2147483649, .inl c] = true := by
  obtain ⟨c, m, z⟩ := zcover (ps := [6442450942, 2147483647, 2147483648, 2147483649, 2147483650, 9223372058329612287]) (by decide +kernel) x
  exact ⟨c, z, (fun c => zall_t k_umb_1_0 c : ∀ c ∈ [6442450942, 2147483647, 2147483648, 2147483649, 2147483650, 9223372058329612287], zrun f_X8_umbrellas f_X9_umbrellas [.inl 2147483649, .inl c] = true) c m⟩
theorem k_umb_2_0 : zall [6442450942, 2147483647, 2147483648, 2147483649, 2147483650, 9223372058329612287] (fun c2 => zrun f_X8_umbrellas f_X9_umbrellas [.inl 2147483650, .inl c2]) = true := by decide +kernel
theorem k_umb_2 (x : Int32) : ∃ c, zin c x ∧ zrun f_X8_umbrellas f_X9_umbrellas [.inl 2147483650, .inl c] = true := by
  obtain ⟨c, m, z⟩ := zcover (ps := [6442450942, 2147483647, 2147483648, 2147483649, 2147483650, 9223372058329612287]) (by decide +kernel) x
  exact ⟨c, z, (fun c => zall_t k_umb_2_0 c : ∀ c ∈ [6442450942, 2147483647, 2147483648, 2147483649, 2147483650, 9223372058329612287], zrun f_X8_umbrellas f_X9_umbrellas [.inl 2147483650, .inl c] = true) c m⟩
theorem k_umb_3_0 : zall [6442450942] (fun c2 => zrun f_X8_umbrellas f_X9_umbrellas [.inl 2147483651, .inl c2]) = true := by decide +kernel
theorem k_umb_3_1 : zall [2147483647] (fun c2 => zrun f_X8_umbrellas f_X9_umbrellas [.inl 2147483651, .inl c2]) = true := by decide +kernel
theorem k_umb_3_2 : zall [2147483648] (fun c2 => zrun f_X8_umbrellas f_X9_umbrellas [.inl 2147483651, .inl c2]) = true := by decide +kernel
theorem k_umb_3_3 : zall [2147483649] (fun c2 => zrun f_X8_umbrellas f_X9_umbrellas [.inl 2147483651, .inl c2]) = true := by decide +kernel
theorem k_umb_3_4 : zall [2147483650] (fun c2 => zrun f_X8_umbrellas f_X9_umbrellas [.inl 2147483651, .inl c2]) = true := by decide +kernel
theorem k_umb_3_5 : zall [9223372058329612287] (fun c2 => zrun f_X8_umbrellas f_X9_umbrellas [.inl 2147483651, .inl c2]) = true := by decide +kernel
theorem k_umb_3 (x : Int32) : ∃ c, zin c x ∧ zrun f_X8_umbrellas f_X9_umbrellas [.inl 2147483651, .inl c] = true := by
  obtain ⟨c, m, z⟩ := zcover (ps := ([6442450942] ++ ([2147483647] ++ ([2147483648] ++ ([2147483649] ++ ([2147483650] ++ [9223372058329612287])))))) (by decide +kernel) x
  exact ⟨c, z, (fun c => (fun hc => (List.mem_append.mp hc).elim (zall_t k_umb_3_0 c) ((fun hc => (List.mem_append.mp hc).elim (zall_t k_umb_3_1 c) ((fun hc => (List.mem_append.mp hc).elim (zall_t k_umb_3_2 c) ((fun hc => (List.mem_append.mp hc).elim (zall_t k_umb_3_3 c) ((fun hc => (List.mem_append.mp hc).elim (zall_t k_umb_3_4 c) (zall_t k_umb_3_5 c)))))))))) : ∀ c ∈ ([6442450942] ++ ([2147483647] ++ ([2147483648] ++ ([2147483649] ++ ([2147483650] ++ [9223372058329612287]))))), zrun f_X8_umbrellas f_X9_umbrellas [.inl 2147483651, .inl c] = true) c m⟩
theorem k_umb_4_0 : zall [6442450942, 2147483647, 2147483648, 2147483649, 2147483650, 9223372058329612287] (fun c2 => zrun f_X8_umbrellas f_X9_umbrellas [.inl 9223372062624579583, .inl c2]) = true := by decide +kernel
theorem k_umb_4 (x : Int32) : ∃ c, zin c x ∧ zrun f_X8_umbrellas f_X9_umbrellas [.inl 9223372062624579583, .inl c] = true := by
  obtain ⟨c, m, z⟩ := zcover (ps := [6442450942, 2147483647, 2147483648, 2147483649, 2147483650, 9223372058329612287]) (by decide +kernel) x
  exact ⟨c, z, (fun c => zall_t k_umb_4_0 c : ∀ c ∈ [6442450942, 2147483647, 2147483648, 2147483649, 2147483650, 9223372058329612287], zrun f_X8_umbrellas f_X9_umbrellas [.inl 9223372062624579583, .inl c] = true) c m⟩
theorem h_umbrellas {l : Launch} {G : qG} {gh : zGh} {I : qMI} {L : qML} {R : qMR} (hm : zM gh 336 zA0 I L R) (x1 x2 : Int32) : zH l G 8 n_X8_umbrellas n_X9_umbrellas [.int x1, .int x2] I L R := by
  obtain ⟨c1, m1, z1⟩ := zcover (ps := [6442450944, 2147483649, 2147483650, 2147483651, 9223372062624579583]) (by decide +kernel) x1
  have h : ∃ c, zin c x2 ∧ zrun f_X8_umbrellas f_X9_umbrellas [.inl c1, .inl c] = true := by
    simp only [List.mem_cons, List.not_mem_nil, or_false] at m1
    rcases m1 with rfl | rfl | rfl | rfl | rfl
    · exact k_umb_0 x2
    · exact k_umb_1 x2
    · exact k_umb_2 x2
    · exact k_umb_3 x2
    · exact k_umb_4 x2
  obtain ⟨c2, z2, hr⟩ := h
  exact zcase hm (c_X8_umbrellas 2) (c_X9_umbrellas 5) hr ⟨zg_i z1, zg_i z2, trivial⟩
