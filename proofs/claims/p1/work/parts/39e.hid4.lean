theorem k_hid_19_0 : zall [6442450943, 2147483648, 2147483649, 2147483650, 2147483651] (fun c2 => zall [6442450944, 9223372047592194057, 9223372088394383359] (fun c3 => zrun f_X8_hidden f_X9_hidden [.inl 2147483666, .inl c2, .inl c3])) = true := by decide +kernel
theorem k_hid_19_1 : zall [2147483652, 2147483653, 2147483654, 2147483655, 2147483656] (fun c2 => zall [6442450944, 9223372047592194057, 9223372088394383359] (fun c3 => zrun f_X8_hidden f_X9_hidden [.inl 2147483666, .inl c2, .inl c3])) = true := by decide +kernel
theorem k_hid_19_2 : zall [2147483657, 2147483658, 2147483659, 2147483660, 2147483661, 2147483662, 2147483663, 2147483664, 2147483665, 2147483666, 2147483667, 9223372131344056319] (fun c2 => zall [6442450944, 9223372047592194057, 9223372088394383359] (fun c3 => zrun f_X8_hidden f_X9_hidden [.inl 2147483666, .inl c2, .inl c3])) = true := by decide +kernel
theorem k_hid_19 (x y : Int32) : ∃ c2 c3, zin c2 x ∧ zin c3 y ∧ zrun f_X8_hidden f_X9_hidden [.inl 2147483666, .inl c2, .inl c3] = true := by
  obtain ⟨c, m, z⟩ := zcover (ps := ([6442450943, 2147483648, 2147483649, 2147483650, 2147483651] ++ ([2147483652, 2147483653, 2147483654, 2147483655, 2147483656] ++ [2147483657, 2147483658, 2147483659, 2147483660, 2147483661, 2147483662, 2147483663, 2147483664, 2147483665, 2147483666, 2147483667, 9223372131344056319]))) (by decide +kernel) x
  obtain ⟨c3, m3, z3⟩ := zcover (ps := [6442450944, 9223372047592194057, 9223372088394383359]) (by decide +kernel) y
  exact ⟨c, c3, z, z3, zall_t ((fun c => (fun hc => (List.mem_append.mp hc).elim (zall_t k_hid_19_0 c) ((fun hc => (List.mem_append.mp hc).elim (zall_t k_hid_19_1 c) (zall_t k_hid_19_2 c)))) : ∀ c ∈ ([6442450943, 2147483648, 2147483649, 2147483650, 2147483651] ++ ([2147483652, 2147483653, 2147483654, 2147483655, 2147483656] ++ [2147483657, 2147483658, 2147483659, 2147483660, 2147483661, 2147483662, 2147483663, 2147483664, 2147483665, 2147483666, 2147483667, 9223372131344056319])), zall [6442450944, 9223372047592194057, 9223372088394383359] (fun c3 => zrun f_X8_hidden f_X9_hidden [.inl 2147483666, .inl c, .inl c3]) = true) c m) c3 m3⟩
theorem k_hid_20_0 : zall [6442450943, 2147483648, 2147483649, 2147483650] (fun c2 => zall [6442450944, 9223372047592194057, 9223372088394383359] (fun c3 => zrun f_X8_hidden f_X9_hidden [.inl 2147483667, .inl c2, .inl c3])) = true := by decide +kernel
theorem k_hid_20_1 : zall [2147483651, 2147483652, 2147483653, 2147483654] (fun c2 => zall [6442450944, 9223372047592194057, 9223372088394383359] (fun c3 => zrun f_X8_hidden f_X9_hidden [.inl 2147483667, .inl c2, .inl c3])) = true := by decide +kernel
theorem k_hid_20_2 : zall [2147483655, 2147483656, 2147483657, 2147483658, 2147483659, 2147483660, 2147483661, 2147483662] (fun c2 => zall [6442450944, 9223372047592194057, 9223372088394383359] (fun c3 => zrun f_X8_hidden f_X9_hidden [.inl 2147483667, .inl c2, .inl c3])) = true := by decide +kernel
theorem k_hid_20_3 : zall [2147483663, 2147483664, 2147483665, 2147483666, 2147483667, 9223372131344056319] (fun c2 => zall [6442450944, 9223372047592194057, 9223372088394383359] (fun c3 => zrun f_X8_hidden f_X9_hidden [.inl 2147483667, .inl c2, .inl c3])) = true := by decide +kernel
theorem k_hid_20 (x y : Int32) : ∃ c2 c3, zin c2 x ∧ zin c3 y ∧ zrun f_X8_hidden f_X9_hidden [.inl 2147483667, .inl c2, .inl c3] = true := by
  obtain ⟨c, m, z⟩ := zcover (ps := ([6442450943, 2147483648, 2147483649, 2147483650] ++ ([2147483651, 2147483652, 2147483653, 2147483654] ++ ([2147483655, 2147483656, 2147483657, 2147483658, 2147483659, 2147483660, 2147483661, 2147483662] ++ [2147483663, 2147483664, 2147483665, 2147483666, 2147483667, 9223372131344056319])))) (by decide +kernel) x
  obtain ⟨c3, m3, z3⟩ := zcover (ps := [6442450944, 9223372047592194057, 9223372088394383359]) (by decide +kernel) y
  exact ⟨c, c3, z, z3, zall_t ((fun c => (fun hc => (List.mem_append.mp hc).elim (zall_t k_hid_20_0 c) ((fun hc => (List.mem_append.mp hc).elim (zall_t k_hid_20_1 c) ((fun hc => (List.mem_append.mp hc).elim (zall_t k_hid_20_2 c) (zall_t k_hid_20_3 c)))))) : ∀ c ∈ ([6442450943, 2147483648, 2147483649, 2147483650] ++ ([2147483651, 2147483652, 2147483653, 2147483654] ++ ([2147483655, 2147483656, 2147483657, 2147483658, 2147483659, 2147483660, 2147483661, 2147483662] ++ [2147483663, 2147483664, 2147483665, 2147483666, 2147483667, 9223372131344056319]))), zall [6442450944, 9223372047592194057, 9223372088394383359] (fun c3 => zrun f_X8_hidden f_X9_hidden [.inl 2147483667, .inl c, .inl c3]) = true) c m) c3 m3⟩
theorem k_hid_21_0 : zall [6442450943, 2147483648, 2147483649, 2147483650, 2147483651, 2147483652, 2147483653, 2147483654, 2147483655, 2147483656, 2147483657, 2147483658, 2147483659, 2147483660, 2147483661, 2147483662, 2147483663, 2147483664, 2147483665, 2147483666, 2147483667, 9223372131344056319] (fun c2 => zall [6442450944, 9223372047592194057, 9223372088394383359] (fun c3 => zrun f_X8_hidden f_X9_hidden [.inl 9223372131344056319, .inl c2, .inl c3])) = true := by decide +kernel
theorem k_hid_21 (x y : Int32) : ∃ c2 c3, zin c2 x ∧ zin c3 y ∧ zrun f_X8_hidden f_X9_hidden [.inl 9223372131344056319, .inl c2, .inl c3] = true := by
  obtain ⟨c, m, z⟩ := zcover (ps := [6442450943, 2147483648, 2147483649, 2147483650, 2147483651, 2147483652, 2147483653, 2147483654, 2147483655, 2147483656, 2147483657, 2147483658, 2147483659, 2147483660, 2147483661, 2147483662, 2147483663, 2147483664, 2147483665, 2147483666, 2147483667, 9223372131344056319]) (by decide +kernel) x
  obtain ⟨c3, m3, z3⟩ := zcover (ps := [6442450944, 9223372047592194057, 9223372088394383359]) (by decide +kernel) y
  exact ⟨c, c3, z, z3, zall_t ((fun c => zall_t k_hid_21_0 c : ∀ c ∈ [6442450943, 2147483648, 2147483649, 2147483650, 2147483651, 2147483652, 2147483653, 2147483654, 2147483655, 2147483656, 2147483657, 2147483658, 2147483659, 2147483660, 2147483661, 2147483662, 2147483663, 2147483664, 2147483665, 2147483666, 2147483667, 9223372131344056319], zall [6442450944, 9223372047592194057, 9223372088394383359] (fun c3 => zrun f_X8_hidden f_X9_hidden [.inl 9223372131344056319, .inl c, .inl c3]) = true) c m) c3 m3⟩
theorem h_hidden {l : Launch} {G : qG} {gh : zGh} {I : qMI} {L : qML} {R : qMR} (hm : zM gh 336 zA0 I L R) (x1 x2 x3 : Int32) : zH l G 8 n_X8_hidden n_X9_hidden [.int x1, .int x2, .int x3] I L R := by
  obtain ⟨c1, m1, z1⟩ := zcover (ps := [6442450943, 2147483648, 2147483649, 2147483650, 2147483651, 2147483652, 2147483653, 2147483654, 2147483655, 2147483656, 2147483657, 2147483658, 2147483659, 2147483660, 2147483661, 2147483662, 2147483663, 2147483664, 2147483665, 2147483666, 2147483667, 9223372131344056319]) (by decide +kernel) x1
  have h : ∃ c2 c3, zin c2 x2 ∧ zin c3 x3 ∧ zrun f_X8_hidden f_X9_hidden [.inl c1, .inl c2, .inl c3] = true := by
    simp only [List.mem_cons, List.not_mem_nil, or_false] at m1
    rcases m1 with rfl | rfl | rfl | rfl | rfl | rfl | rfl | rfl | rfl | rfl | rfl | rfl | rfl | rfl | rfl | rfl | rfl | rfl | rfl | rfl | rfl | rfl
    · exact k_hid_0 x2 x3
    · exact k_hid_1 x2 x3
    · exact k_hid_2 x2 x3
    · exact k_hid_3 x2 x3
    · exact k_hid_4 x2 x3
    · exact k_hid_5 x2 x3
    · exact k_hid_6 x2 x3
    · exact k_hid_7 x2 x3
    · exact k_hid_8 x2 x3
    · exact k_hid_9 x2 x3
    · exact k_hid_10 x2 x3
    · exact k_hid_11 x2 x3
    · exact k_hid_12 x2 x3
    · exact k_hid_13 x2 x3
    · exact k_hid_14 x2 x3
    · exact k_hid_15 x2 x3
    · exact k_hid_16 x2 x3
    · exact k_hid_17 x2 x3
    · exact k_hid_18 x2 x3
    · exact k_hid_19 x2 x3
    · exact k_hid_20 x2 x3
    · exact k_hid_21 x2 x3
  obtain ⟨c2, c3, z2, z3, hr⟩ := h
  exact zcase hm (c_X8_hidden 2) (c_X9_hidden 5) hr ⟨zg_i z1, zg_i z2, zg_i z3, trivial⟩
