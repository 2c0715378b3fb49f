theorem kC0_book : zall [6442450943, 9223372043297226757, 9223372071214514175] (fun c1 => zall [6442450943, 9223372043297226800, 9223372255898107903] (fun c2 => gs_X8_book [.inr (.ref 0), .inl c1, .inl c2] 336 zAi0 (kT zUq kV))) = true := by decide +kernel
theorem kC1_book : zall [6442450943, 9223372043297226757, 9223372071214514175] (fun c1 => zall [6442450943, 9223372043297226800, 9223372255898107903] (fun c2 => gs_X8_book [.inr (.ref 0), .inl c1, .inl c2] 336 zAi1 (kT zUq kV))) = true := by decide +kernel
theorem hC3_book {l : Launch} {G : qG} {I : qMI} {L : qML} {R : qMR} (hv : vInv I L R) (x1 x2 : Int32) : qCall l G 26 n_X8_book [.ref 0, .int x1, .int x2] 336 I L R (vR3 zUq I L R) := by
  obtain ⟨c1, m1, z1⟩ := zcover (ps := [6442450943, 9223372043297226757, 9223372071214514175]) (by decide +kernel) x1
  obtain ⟨c2, m2, z2⟩ := zcover (ps := [6442450943, 9223372043297226800, 9223372255898107903]) (by decide +kernel) x2
  obtain ⟨hm | hm, hg⟩ := hv
  · exact vcallT3 (cs_X8_book 19) (zall_t (zall_t (kC0_book) c1 m1) c2 m2) ⟨⟨rfl, rfl⟩, ⟨zg_i z1, ⟨zg_i z2, trivial⟩⟩⟩ hm hg
  · exact vcallT3 (cs_X8_book 19) (zall_t (zall_t (kC1_book) c1 m1) c2 m2) ⟨⟨rfl, rfl⟩, ⟨zg_i z1, ⟨zg_i z2, trivial⟩⟩⟩ hm hg
theorem kC0_hidden : zall [6442450943, 9223372043297226771, 9223372131344056319] (fun c1 => zall [6442450943, 9223372043297226771, 9223372131344056319] (fun c2 => zall [6442450944, 9223372047592194057, 9223372088394383359] (fun c3 => gs_X8_hidden [.inr (.ref 0), .inl c1, .inl c2, .inl c3] 336 zAi0 (kT zUq kV)))) = true := by decide +kernel
theorem kC1_hidden : zall [6442450943, 9223372043297226771, 9223372131344056319] (fun c1 => zall [6442450943, 9223372043297226771, 9223372131344056319] (fun c2 => zall [6442450944, 9223372047592194057, 9223372088394383359] (fun c3 => gs_X8_hidden [.inr (.ref 0), .inl c1, .inl c2, .inl c3] 336 zAi1 (kT zUq kV)))) = true := by decide +kernel
theorem hC3_hidden {l : Launch} {G : qG} {I : qMI} {L : qML} {R : qMR} (hv : vInv I L R) (x1 x2 x3 : Int32) : qCall l G 26 n_X8_hidden [.ref 0, .int x1, .int x2, .int x3] 336 I L R (vR3 zUq I L R) := by
  obtain ⟨c1, m1, z1⟩ := zcover (ps := [6442450943, 9223372043297226771, 9223372131344056319]) (by decide +kernel) x1
  obtain ⟨c2, m2, z2⟩ := zcover (ps := [6442450943, 9223372043297226771, 9223372131344056319]) (by decide +kernel) x2
  obtain ⟨c3, m3, z3⟩ := zcover (ps := [6442450944, 9223372047592194057, 9223372088394383359]) (by decide +kernel) x3
  obtain ⟨hm | hm, hg⟩ := hv
  · exact vcallT3 (cs_X8_hidden 20) (zall_t (zall_t (zall_t (kC0_hidden) c1 m1) c2 m2) c3 m3) ⟨⟨rfl, rfl⟩, ⟨zg_i z1, ⟨zg_i z2, ⟨zg_i z3, trivial⟩⟩⟩⟩ hm hg
  · exact vcallT3 (cs_X8_hidden 20) (zall_t (zall_t (zall_t (kC1_hidden) c1 m1) c2 m2) c3 m3) ⟨⟨rfl, rfl⟩, ⟨zg_i z1, ⟨zg_i z2, ⟨zg_i z3, trivial⟩⟩⟩⟩ hm hg
theorem kC0_cool : gs_X8_cool [.inr (.ref 0)] 336 zAi0 (kT zUq kV) = true := by decide +kernel
theorem kC1_cool : gs_X8_cool [.inr (.ref 0)] 336 zAi1 (kT zUq kV) = true := by decide +kernel
theorem hC3_cool {l : Launch} {G : qG} {I : qMI} {L : qML} {R : qMR} (hv : vInv I L R) : qCall l G 26 n_X8_cool [.ref 0] 336 I L R (vR3 zUq I L R) := by
  obtain ⟨hm | hm, hg⟩ := hv
  · exact vcallT3 (cs_X8_cool 19) (kC0_cool) ⟨⟨rfl, rfl⟩, trivial⟩ hm hg
  · exact vcallT3 (cs_X8_cool 19) (kC1_cool) ⟨⟨rfl, rfl⟩, trivial⟩ hm hg
theorem kC0_heatIn : zall [8589934591] (fun c1 => gs_X8_heatIn [.inr (.ref 0), .inl c1] 336 zAi0 (kT zUq kV)) = true := by decide +kernel
theorem kC1_heatIn : zall [8589934591] (fun c1 => gs_X8_heatIn [.inr (.ref 0), .inl c1] 336 zAi1 (kT zUq kV)) = true := by decide +kernel
theorem hC3_heatIn {l : Launch} {G : qG} {I : qMI} {L : qML} {R : qMR} (hv : vInv I L R) (x1 : Int32) : qCall l G 26 n_X8_heatIn [.ref 0, .int x1] 336 I L R (vR3 zUq I L R) := by
  obtain ⟨c1, m1, z1⟩ := zcover (ps := [8589934591]) (by decide +kernel) x1
  obtain ⟨hm | hm, hg⟩ := hv
  · exact vcallT3 (cs_X8_heatIn 21) (zall_t (kC0_heatIn) c1 m1) ⟨⟨rfl, rfl⟩, ⟨zg_i z1, trivial⟩⟩ hm hg
  · exact vcallT3 (cs_X8_heatIn 21) (zall_t (kC1_heatIn) c1 m1) ⟨⟨rfl, rfl⟩, ⟨zg_i z1, trivial⟩⟩ hm hg
theorem kC0_lentIn : zall [6442450943, 9223372043297226757, 9223372071214514175] (fun c1 => zall [6442450943, 9223372043297226757, 9223372071214514175] (fun c2 => zall [6442450943, 9223372043297226800, 9223372255898107903] (fun c3 => gs_X8_lentIn [.inr (.ref 0), .inl c1, .inl c2, .inl c3] 336 zAi0 (kT zUq kV)))) = true := by decide +kernel
theorem kC1_lentIn : zall [6442450943, 9223372043297226757, 9223372071214514175] (fun c1 => zall [6442450943, 9223372043297226757, 9223372071214514175] (fun c2 => zall [6442450943, 9223372043297226800, 9223372255898107903] (fun c3 => gs_X8_lentIn [.inr (.ref 0), .inl c1, .inl c2, .inl c3] 336 zAi1 (kT zUq kV)))) = true := by decide +kernel
theorem hC3_lentIn {l : Launch} {G : qG} {I : qMI} {L : qML} {R : qMR} (hv : vInv I L R) (x1 x2 x3 : Int32) : qCall l G 26 n_X8_lentIn [.ref 0, .int x1, .int x2, .int x3] 336 I L R (vR3 zUq I L R) := by
  obtain ⟨c1, m1, z1⟩ := zcover (ps := [6442450943, 9223372043297226757, 9223372071214514175]) (by decide +kernel) x1
  obtain ⟨c2, m2, z2⟩ := zcover (ps := [6442450943, 9223372043297226757, 9223372071214514175]) (by decide +kernel) x2
  obtain ⟨c3, m3, z3⟩ := zcover (ps := [6442450943, 9223372043297226800, 9223372255898107903]) (by decide +kernel) x3
  obtain ⟨hm | hm, hg⟩ := hv
  · exact vcallT3 (cs_X8_lentIn 20) (zall_t (zall_t (zall_t (kC0_lentIn) c1 m1) c2 m2) c3 m3) ⟨⟨rfl, rfl⟩, ⟨zg_i z1, ⟨zg_i z2, ⟨zg_i z3, trivial⟩⟩⟩⟩ hm hg
  · exact vcallT3 (cs_X8_lentIn 20) (zall_t (zall_t (zall_t (kC1_lentIn) c1 m1) c2 m2) c3 m3) ⟨⟨rfl, rfl⟩, ⟨zg_i z1, ⟨zg_i z2, ⟨zg_i z3, trivial⟩⟩⟩⟩ hm hg
theorem kC0_year : zall [6442450943, 9223372043297226757, 9223372071214514175] (fun c1 => zall [6442450943, 9223372043297226757, 9223372071214514175] (fun c2 => zall [6442450943, 9223372043297226800, 9223372255898107903] (fun c3 => zall [6442450944, 9223372047592194068, 9223372135639023615] (fun c4 => gs_X8_year [.inr (.ref 0), .inl c1, .inl c2, .inl c3, .inl c4] 336 zAi0 (kT zUq kV))))) = true := by decide +kernel
theorem kC1_year : zall [6442450943, 9223372043297226757, 9223372071214514175] (fun c1 => zall [6442450943, 9223372043297226757, 9223372071214514175] (fun c2 => zall [6442450943, 9223372043297226800, 9223372255898107903] (fun c3 => zall [6442450944, 9223372047592194068, 9223372135639023615] (fun c4 => gs_X8_year [.inr (.ref 0), .inl c1, .inl c2, .inl c3, .inl c4] 336 zAi1 (kT zUq kV))))) = true := by decide +kernel
theorem hC3_year {l : Launch} {G : qG} {I : qMI} {L : qML} {R : qMR} (hv : vInv I L R) (x1 x2 x3 x4 : Int32) : qCall l G 26 n_X8_year [.ref 0, .int x1, .int x2, .int x3, .int x4] 336 I L R (vR3 zUq I L R) := by
  obtain ⟨c1, m1, z1⟩ := zcover (ps := [6442450943, 9223372043297226757, 9223372071214514175]) (by decide +kernel) x1
  obtain ⟨c2, m2, z2⟩ := zcover (ps := [6442450943, 9223372043297226757, 9223372071214514175]) (by decide +kernel) x2
  obtain ⟨c3, m3, z3⟩ := zcover (ps := [6442450943, 9223372043297226800, 9223372255898107903]) (by decide +kernel) x3
  obtain ⟨c4, m4, z4⟩ := zcover (ps := [6442450944, 9223372047592194068, 9223372135639023615]) (by decide +kernel) x4
  obtain ⟨hm | hm, hg⟩ := hv
  · exact vcallT3 (cs_X8_year 20) (zall_t (zall_t (zall_t (zall_t (kC0_year) c1 m1) c2 m2) c3 m3) c4 m4) ⟨⟨rfl, rfl⟩, ⟨zg_i z1, ⟨zg_i z2, ⟨zg_i z3, ⟨zg_i z4, trivial⟩⟩⟩⟩⟩ hm hg
  · exact vcallT3 (cs_X8_year 20) (zall_t (zall_t (zall_t (zall_t (kC1_year) c1 m1) c2 m2) c3 m3) c4 m4) ⟨⟨rfl, rfl⟩, ⟨zg_i z1, ⟨zg_i z2, ⟨zg_i z3, ⟨zg_i z4, trivial⟩⟩⟩⟩⟩ hm hg
theorem kC0_stands : zall [6442450943, 9223372043297226772, 9223372135639023615] (fun c1 => gs_X8_stands [.inr (.ref 0), .inl c1] 336 zAi0 (kT zUq kV)) = true := by decide +kernel
theorem kC1_stands : zall [6442450943, 9223372043297226772, 9223372135639023615] (fun c1 => gs_X8_stands [.inr (.ref 0), .inl c1] 336 zAi1 (kT zUq kV)) = true := by decide +kernel
theorem hC3_stands {l : Launch} {G : qG} {I : qMI} {L : qML} {R : qMR} (hv : vInv I L R) (x1 : Int32) : qCall l G 26 n_X8_stands [.ref 0, .int x1] 336 I L R (vR3 zUq I L R) := by
  obtain ⟨c1, m1, z1⟩ := zcover (ps := [6442450943, 9223372043297226772, 9223372135639023615]) (by decide +kernel) x1
  obtain ⟨hm | hm, hg⟩ := hv
  · exact vcallT3 (cs_X8_stands 19) (zall_t (kC0_stands) c1 m1) ⟨⟨rfl, rfl⟩, ⟨zg_i z1, trivial⟩⟩ hm hg
  · exact vcallT3 (cs_X8_stands 19) (zall_t (kC1_stands) c1 m1) ⟨⟨rfl, rfl⟩, ⟨zg_i z1, trivial⟩⟩ hm hg
theorem kC0_sure : zall [6442450943, 9223372043297226772, 9223372135639023615] (fun c1 => zall [6442450943, 2147483648, 2147483649, 9223372054034644991] (fun c2 => gs_X8_sure [.inr (.ref 0), .inl c1, .inl c2] 336 zAi0 (kT zUq kV))) = true := by decide +kernel
theorem kC1_sure : zall [6442450943, 9223372043297226772, 9223372135639023615] (fun c1 => zall [6442450943, 2147483648, 2147483649, 9223372054034644991] (fun c2 => gs_X8_sure [.inr (.ref 0), .inl c1, .inl c2] 336 zAi1 (kT zUq kV))) = true := by decide +kernel
theorem hC3_sure {l : Launch} {G : qG} {I : qMI} {L : qML} {R : qMR} (hv : vInv I L R) (x1 x2 : Int32) : qCall l G 26 n_X8_sure [.ref 0, .int x1, .int x2] 336 I L R (vR3 zUq I L R) := by
  obtain ⟨c1, m1, z1⟩ := zcover (ps := [6442450943, 9223372043297226772, 9223372135639023615]) (by decide +kernel) x1
  obtain ⟨c2, m2, z2⟩ := zcover (ps := [6442450943, 2147483648, 2147483649, 9223372054034644991]) (by decide +kernel) x2
  obtain ⟨hm | hm, hg⟩ := hv
  · exact vcallT3 (cs_X8_sure 19) (zall_t (zall_t (kC0_sure) c1 m1) c2 m2) ⟨⟨rfl, rfl⟩, ⟨zg_i z1, ⟨zg_i z2, trivial⟩⟩⟩ hm hg
  · exact vcallT3 (cs_X8_sure 19) (zall_t (zall_t (kC1_sure) c1 m1) c2 m2) ⟨⟨rfl, rfl⟩, ⟨zg_i z1, ⟨zg_i z2, trivial⟩⟩⟩ hm hg
theorem kC0_look : zall [6442450943, 9223372043297226772, 9223372135639023615] (fun c1 => zall [6442450943, 9223372043297226776, 9223372152818892799] (fun c2 => gs_X8_look [.inr (.ref 0), .inl c1, .inl c2] 336 zAi0 (kT zUq kV))) = true := by decide +kernel
theorem kC1_look : zall [6442450943, 9223372043297226772, 9223372135639023615] (fun c1 => zall [6442450943, 9223372043297226776, 9223372152818892799] (fun c2 => gs_X8_look [.inr (.ref 0), .inl c1, .inl c2] 336 zAi1 (kT zUq kV))) = true := by decide +kernel
theorem hC3_look {l : Launch} {G : qG} {I : qMI} {L : qML} {R : qMR} (hv : vInv I L R) (x1 x2 : Int32) : qCall l G 26 n_X8_look [.ref 0, .int x1, .int x2] 336 I L R (vR3 zUq I L R) := by
  obtain ⟨c1, m1, z1⟩ := zcover (ps := [6442450943, 9223372043297226772, 9223372135639023615]) (by decide +kernel) x1
  obtain ⟨c2, m2, z2⟩ := zcover (ps := [6442450943, 9223372043297226776, 9223372152818892799]) (by decide +kernel) x2
  obtain ⟨hm | hm, hg⟩ := hv
  · exact vcallT3 (cs_X8_look 19) (zall_t (zall_t (kC0_look) c1 m1) c2 m2) ⟨⟨rfl, rfl⟩, ⟨zg_i z1, ⟨zg_i z2, trivial⟩⟩⟩ hm hg
  · exact vcallT3 (cs_X8_look 19) (zall_t (zall_t (kC1_look) c1 m1) c2 m2) ⟨⟨rfl, rfl⟩, ⟨zg_i z1, ⟨zg_i z2, trivial⟩⟩⟩ hm hg
theorem kC0_hold : zall [6442450943, 2147483648, 2147483649, 2147483650, 9223372058329612287] (fun c1 => gs_X8_hold [.inr (.ref 0), .inl c1] 336 zAi0 (kT zHc kV)) = true := by decide +kernel
theorem kC1_hold : zall [6442450943, 2147483648, 2147483649, 2147483650, 9223372058329612287] (fun c1 => gs_X8_hold [.inr (.ref 0), .inl c1] 336 zAi1 (kT zHc kV)) = true := by decide +kernel
theorem hC3_hold {l : Launch} {G : qG} {I : qMI} {L : qML} {R : qMR} (hv : vInv I L R) (x1 : Int32) : qCall l G 26 n_X8_hold [.ref 0, .int x1] 336 I L R (vR3 zHc I L R) := by
  obtain ⟨c1, m1, z1⟩ := zcover (ps := [6442450943, 2147483648, 2147483649, 2147483650, 9223372058329612287]) (by decide +kernel) x1
  obtain ⟨hm | hm, hg⟩ := hv
  · exact vcallT3 (cs_X8_hold 24) (zall_t (kC0_hold) c1 m1) ⟨⟨rfl, rfl⟩, ⟨zg_i z1, trivial⟩⟩ hm hg
  · exact vcallT3 (cs_X8_hold 24) (zall_t (kC1_hold) c1 m1) ⟨⟨rfl, rfl⟩, ⟨zg_i z1, trivial⟩⟩ hm hg
theorem kC0_restore : zall [6442450943, 2147483648, 2147483649, 2147483650, 9223372058329612287] (fun c1 => gs_X8_restore [.inr (.ref 0), .inl c1] 336 zAi0 (kT zUc kV)) = true := by decide +kernel
theorem kC1_restore : zall [6442450943, 2147483648, 2147483649, 2147483650, 9223372058329612287] (fun c1 => gs_X8_restore [.inr (.ref 0), .inl c1] 336 zAi1 (kT zUc kV)) = true := by decide +kernel
theorem hC3_restore {l : Launch} {G : qG} {I : qMI} {L : qML} {R : qMR} (hv : vInv I L R) (x1 : Int32) : qCall l G 26 n_X8_restore [.ref 0, .int x1] 336 I L R (vR3 zUc I L R) := by
  obtain ⟨c1, m1, z1⟩ := zcover (ps := [6442450943, 2147483648, 2147483649, 2147483650, 9223372058329612287]) (by decide +kernel) x1
  obtain ⟨hm | hm, hg⟩ := hv
  · exact vcallT3 (cs_X8_restore 24) (zall_t (kC0_restore) c1 m1) ⟨⟨rfl, rfl⟩, ⟨zg_i z1, trivial⟩⟩ hm hg
  · exact vcallT3 (cs_X8_restore 24) (zall_t (kC1_restore) c1 m1) ⟨⟨rfl, rfl⟩, ⟨zg_i z1, trivial⟩⟩ hm hg
theorem kC0_count : zall [8589934591] (fun c1 => gs_X8_count [.inr (.ref 0), .inl c1] 336 zAi0 (kT zUq kV)) = true := by decide +kernel
theorem kC1_count : zall [8589934591] (fun c1 => gs_X8_count [.inr (.ref 0), .inl c1] 336 zAi1 (kT zUq kV)) = true := by decide +kernel
theorem hC3_count {l : Launch} {G : qG} {I : qMI} {L : qML} {R : qMR} (hv : vInv I L R) (x1 : Int32) : qCall l G 26 n_X8_count [.ref 0, .int x1] 336 I L R (vR3 zUq I L R) := by
  obtain ⟨c1, m1, z1⟩ := zcover (ps := [8589934591]) (by decide +kernel) x1
  obtain ⟨hm | hm, hg⟩ := hv
  · exact vcallT3 (cs_X8_count 19) (zall_t (kC0_count) c1 m1) ⟨⟨rfl, rfl⟩, ⟨zg_i z1, trivial⟩⟩ hm hg
  · exact vcallT3 (cs_X8_count 19) (zall_t (kC1_count) c1 m1) ⟨⟨rfl, rfl⟩, ⟨zg_i z1, trivial⟩⟩ hm hg
