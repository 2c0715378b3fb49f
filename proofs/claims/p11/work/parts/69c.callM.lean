theorem kM0_place : gs_X9_place [.inr (.ref 292)] 336 zAi0 (kT zUr kV) = true := by decide +kernel
theorem kM1_place : gs_X9_place [.inr (.ref 292)] 336 zAi1 (kT zUr kV) = true := by decide +kernel
theorem hM3_place {l : Launch} {G : qG} {I : qMI} {L : qML} {R : qMR} (hv : vInv I L R) : qCall l G 26 n_X9_place [.ref 292] 336 I L R (vR3 zUr I L R) := by
  obtain ⟨hm | hm, hg⟩ := hv
  · exact vcallT3 (cs_X9_place 25) (kM0_place) ⟨⟨rfl, rfl⟩, trivial⟩ hm hg
  · exact vcallT3 (cs_X9_place 25) (kM1_place) ⟨⟨rfl, rfl⟩, trivial⟩ hm hg
theorem hM2_place {l : Launch} {G : qG} {I : qMI} {L : qML} {R : qMR} (hv : vInv I L R) : qCall l G 26 n_X9_place [.ref 292] 336 I L R (vR I L) := qCall_mono (hM3_place hv) (fun r t I' L' R' hq => vR3_2 (by decide +kernel) hq)
theorem kM0_thing : zall [6442450943, 9223372043297226757, 9223372071214514175] (fun c1 => zall [8589934591] (fun c2 => gs_X9_thing [.inr (.ref 292), .inl c1, .inl c2] 336 zAi0 (kT zUr kV))) = true := by decide +kernel
theorem kM1_thing : zall [6442450943, 9223372043297226757, 9223372071214514175] (fun c1 => zall [8589934591] (fun c2 => gs_X9_thing [.inr (.ref 292), .inl c1, .inl c2] 336 zAi1 (kT zUr kV))) = true := by decide +kernel
theorem hM3_thing {l : Launch} {G : qG} {I : qMI} {L : qML} {R : qMR} (hv : vInv I L R) (x1 x2 : Int32) : qCall l G 26 n_X9_thing [.ref 292, .int x1, .int x2] 336 I L R (vR3 zUr I L R) := by
  obtain ⟨c1, m1, z1⟩ := zcover (ps := [6442450943, 9223372043297226757, 9223372071214514175]) (by decide +kernel) x1
  obtain ⟨c2, m2, z2⟩ := zcover (ps := [8589934591]) (by decide +kernel) x2
  obtain ⟨hm | hm, hg⟩ := hv
  · exact vcallT3 (cs_X9_thing 19 hg) (zall_t (zall_t (kM0_thing) c1 m1) c2 m2) ⟨⟨rfl, rfl⟩, ⟨zg_i z1, ⟨zg_i z2, trivial⟩⟩⟩ hm hg
  · exact vcallT3 (cs_X9_thing 19 hg) (zall_t (zall_t (kM1_thing) c1 m1) c2 m2) ⟨⟨rfl, rfl⟩, ⟨zg_i z1, ⟨zg_i z2, trivial⟩⟩⟩ hm hg
theorem kM0_seat : zall [6442450943, 9223372043297226757, 9223372071214514175] (fun c1 => zall [8589934591] (fun c2 => gs_X9_seat [.inr (.ref 292), .inl c1, .inl c2] 336 zAi0 (kT zUr kV))) = true := by decide +kernel
theorem kM1_seat : zall [6442450943, 9223372043297226757, 9223372071214514175] (fun c1 => zall [8589934591] (fun c2 => gs_X9_seat [.inr (.ref 292), .inl c1, .inl c2] 336 zAi1 (kT zUr kV))) = true := by decide +kernel
theorem hM3_seat {l : Launch} {G : qG} {I : qMI} {L : qML} {R : qMR} (hv : vInv I L R) (x1 x2 : Int32) : qCall l G 26 n_X9_seat [.ref 292, .int x1, .int x2] 336 I L R (vR3 zUr I L R) := by
  obtain ⟨c1, m1, z1⟩ := zcover (ps := [6442450943, 9223372043297226757, 9223372071214514175]) (by decide +kernel) x1
  obtain ⟨c2, m2, z2⟩ := zcover (ps := [8589934591]) (by decide +kernel) x2
  obtain ⟨hm | hm, hg⟩ := hv
  · exact vcallT3 (cs_X9_seat 18 hg) (zall_t (zall_t (kM0_seat) c1 m1) c2 m2) ⟨⟨rfl, rfl⟩, ⟨zg_i z1, ⟨zg_i z2, trivial⟩⟩⟩ hm hg
  · exact vcallT3 (cs_X9_seat 18 hg) (zall_t (zall_t (kM1_seat) c1 m1) c2 m2) ⟨⟨rfl, rfl⟩, ⟨zg_i z1, ⟨zg_i z2, trivial⟩⟩⟩ hm hg
theorem kM0_loan : zall [6442450943, 9223372043297226757, 9223372071214514175] (fun c1 => zall [6442450943, 9223372043297226757, 9223372071214514175] (fun c2 => zall [6442450943, 2147483648, 2147483649, 9223372054034644991] (fun c3 => gs_X9_loan [.inr (.ref 292), .inl c1, .inl c2, .inl c3] 336 zAi0 (kT zUr kV)))) = true := by decide +kernel
theorem kM1_loan : zall [6442450943, 9223372043297226757, 9223372071214514175] (fun c1 => zall [6442450943, 9223372043297226757, 9223372071214514175] (fun c2 => zall [6442450943, 2147483648, 2147483649, 9223372054034644991] (fun c3 => gs_X9_loan [.inr (.ref 292), .inl c1, .inl c2, .inl c3] 336 zAi1 (kT zUr kV)))) = true := by decide +kernel
theorem hM3_loan {l : Launch} {G : qG} {I : qMI} {L : qML} {R : qMR} (hv : vInv I L R) (x1 x2 x3 : Int32) : qCall l G 26 n_X9_loan [.ref 292, .int x1, .int x2, .int x3] 336 I L R (vR3 zUr I L R) := by
  obtain ⟨c1, m1, z1⟩ := zcover (ps := [6442450943, 9223372043297226757, 9223372071214514175]) (by decide +kernel) x1
  obtain ⟨c2, m2, z2⟩ := zcover (ps := [6442450943, 9223372043297226757, 9223372071214514175]) (by decide +kernel) x2
  obtain ⟨c3, m3, z3⟩ := zcover (ps := [6442450943, 2147483648, 2147483649, 9223372054034644991]) (by decide +kernel) x3
  obtain ⟨hm | hm, hg⟩ := hv
  · exact vcallT3 (cs_X9_loan 23) (zall_t (zall_t (zall_t (kM0_loan) c1 m1) c2 m2) c3 m3) ⟨⟨rfl, rfl⟩, ⟨zg_i z1, ⟨zg_i z2, ⟨zg_i z3, trivial⟩⟩⟩⟩ hm hg
  · exact vcallT3 (cs_X9_loan 23) (zall_t (zall_t (zall_t (kM1_loan) c1 m1) c2 m2) c3 m3) ⟨⟨rfl, rfl⟩, ⟨zg_i z1, ⟨zg_i z2, ⟨zg_i z3, trivial⟩⟩⟩⟩ hm hg
theorem kM0_tells : zall [6442450943, 2147483648, 2147483649, 2147483650, 2147483651, 9223372062624579583] (fun c1 => zall [6442450943, 9223372043297226771, 9223372131344056319] (fun c2 => zall [6442450943, 9223372043297226757, 9223372071214514175] (fun c3 => zall [8589934591] (fun c4 => gs_X9_tells [.inr (.ref 292), .inl c1, .inl c2, .inl c3, .inl c4] 336 zAi0 (kT zUr kV))))) = true := by decide +kernel
theorem kM1_tells : zall [6442450943, 2147483648, 2147483649, 2147483650, 2147483651, 9223372062624579583] (fun c1 => zall [6442450943, 9223372043297226771, 9223372131344056319] (fun c2 => zall [6442450943, 9223372043297226757, 9223372071214514175] (fun c3 => zall [8589934591] (fun c4 => gs_X9_tells [.inr (.ref 292), .inl c1, .inl c2, .inl c3, .inl c4] 336 zAi1 (kT zUr kV))))) = true := by decide +kernel
theorem hM3_tells {l : Launch} {G : qG} {I : qMI} {L : qML} {R : qMR} (hv : vInv I L R) (x1 x2 x3 x4 : Int32) : qCall l G 26 n_X9_tells [.ref 292, .int x1, .int x2, .int x3, .int x4] 336 I L R (vR3 zUr I L R) := by
  obtain ⟨c1, m1, z1⟩ := zcover (ps := [6442450943, 2147483648, 2147483649, 2147483650, 2147483651, 9223372062624579583]) (by decide +kernel) x1
  obtain ⟨c2, m2, z2⟩ := zcover (ps := [6442450943, 9223372043297226771, 9223372131344056319]) (by decide +kernel) x2
  obtain ⟨c3, m3, z3⟩ := zcover (ps := [6442450943, 9223372043297226757, 9223372071214514175]) (by decide +kernel) x3
  obtain ⟨c4, m4, z4⟩ := zcover (ps := [8589934591]) (by decide +kernel) x4
  obtain ⟨hm | hm, hg⟩ := hv
  · exact vcallT3 (cs_X9_tells 20 hg) (zall_t (zall_t (zall_t (zall_t (kM0_tells) c1 m1) c2 m2) c3 m3) c4 m4) ⟨⟨rfl, rfl⟩, ⟨zg_i z1, ⟨zg_i z2, ⟨zg_i z3, ⟨zg_i z4, trivial⟩⟩⟩⟩⟩ hm hg
  · exact vcallT3 (cs_X9_tells 20 hg) (zall_t (zall_t (zall_t (zall_t (kM1_tells) c1 m1) c2 m2) c3 m3) c4 m4) ⟨⟨rfl, rfl⟩, ⟨zg_i z1, ⟨zg_i z2, ⟨zg_i z3, ⟨zg_i z4, trivial⟩⟩⟩⟩⟩ hm hg
theorem kM0_lend : zall [6442450943, 9223372043297226757, 9223372071214514175] (fun c1 => zall [6442450943, 9223372043297226757, 9223372071214514175] (fun c2 => zall [6442450944, 9223372047592195047, 9223376340412006399] (fun c3 => gs_X9_lend [.inr (.ref 292), .inl c1, .inl c2, .inl c3] 336 zAi0 (kT zUm kV0)))) = true := by decide +kernel
theorem kM1_lend : zall [6442450943, 9223372043297226757, 9223372071214514175] (fun c1 => zall [6442450943, 9223372043297226757, 9223372071214514175] (fun c2 => zall [6442450944, 9223372047592195047, 9223376340412006399] (fun c3 => gs_X9_lend [.inr (.ref 292), .inl c1, .inl c2, .inl c3] 336 zAi1 (kT zUm kV0)))) = true := by decide +kernel
theorem hM3_lend {l : Launch} {G : qG} {I : qMI} {L : qML} {R : qMR} (hv : vInv I L R) (x1 x2 x3 : Int32) : qCall l G 26 n_X9_lend [.ref 292, .int x1, .int x2, .int x3] 336 I L R (vR0 zUm I L R) := by
  obtain ⟨c1, m1, z1⟩ := zcover (ps := [6442450943, 9223372043297226757, 9223372071214514175]) (by decide +kernel) x1
  obtain ⟨c2, m2, z2⟩ := zcover (ps := [6442450943, 9223372043297226757, 9223372071214514175]) (by decide +kernel) x2
  obtain ⟨c3, m3, z3⟩ := zcover (ps := [6442450944, 9223372047592195047, 9223376340412006399]) (by decide +kernel) x3
  obtain ⟨hm | hm, hg⟩ := hv
  · exact vcallT0 (cs_X9_lend 19 hg) (zall_t (zall_t (zall_t (kM0_lend) c1 m1) c2 m2) c3 m3) ⟨⟨rfl, rfl⟩, ⟨zg_i z1, ⟨zg_i z2, ⟨zg_i z3, trivial⟩⟩⟩⟩ hm hg
  · exact vcallT0 (cs_X9_lend 19 hg) (zall_t (zall_t (zall_t (kM1_lend) c1 m1) c2 m2) c3 m3) ⟨⟨rfl, rfl⟩, ⟨zg_i z1, ⟨zg_i z2, ⟨zg_i z3, trivial⟩⟩⟩⟩ hm hg
theorem kM0_call : zall [6442450943, 9223372043297226757, 9223372071214514175] (fun c1 => zall [6442450943, 9223372043297226757, 9223372071214514175] (fun c2 => gs_X9_call [.inr (.ref 292), .inl c1, .inl c2] 336 zAi0 (kT zUm kV0))) = true := by decide +kernel
theorem kM1_call : zall [6442450943, 9223372043297226757, 9223372071214514175] (fun c1 => zall [6442450943, 9223372043297226757, 9223372071214514175] (fun c2 => gs_X9_call [.inr (.ref 292), .inl c1, .inl c2] 336 zAi1 (kT zUm kV0))) = true := by decide +kernel
theorem hM3_call {l : Launch} {G : qG} {I : qMI} {L : qML} {R : qMR} (hv : vInv I L R) (x1 x2 : Int32) : qCall l G 26 n_X9_call [.ref 292, .int x1, .int x2] 336 I L R (vR0 zUm I L R) := by
  obtain ⟨c1, m1, z1⟩ := zcover (ps := [6442450943, 9223372043297226757, 9223372071214514175]) (by decide +kernel) x1
  obtain ⟨c2, m2, z2⟩ := zcover (ps := [6442450943, 9223372043297226757, 9223372071214514175]) (by decide +kernel) x2
  obtain ⟨hm | hm, hg⟩ := hv
  · exact vcallT0 (cs_X9_call 19 hg) (zall_t (zall_t (kM0_call) c1 m1) c2 m2) ⟨⟨rfl, rfl⟩, ⟨zg_i z1, ⟨zg_i z2, trivial⟩⟩⟩ hm hg
  · exact vcallT0 (cs_X9_call 19 hg) (zall_t (zall_t (kM1_call) c1 m1) c2 m2) ⟨⟨rfl, rfl⟩, ⟨zg_i z1, ⟨zg_i z2, trivial⟩⟩⟩ hm hg
theorem kM0_move : zall [6442450943, 9223372043297226757, 9223372071214514175] (fun c1 => zall [6442450943, 9223372043297226771, 9223372131344056319] (fun c2 => gs_X9_move [.inr (.ref 292), .inl c1, .inl c2] 336 zAi0 (kT zUm kV0))) = true := by decide +kernel
theorem kM1_move : zall [6442450943, 9223372043297226757, 9223372071214514175] (fun c1 => zall [6442450943, 9223372043297226771, 9223372131344056319] (fun c2 => gs_X9_move [.inr (.ref 292), .inl c1, .inl c2] 336 zAi1 (kT zUm kV0))) = true := by decide +kernel
theorem hM3_move {l : Launch} {G : qG} {I : qMI} {L : qML} {R : qMR} (hv : vInv I L R) (x1 x2 : Int32) : qCall l G 26 n_X9_move [.ref 292, .int x1, .int x2] 336 I L R (vR0 zUm I L R) := by
  obtain ⟨c1, m1, z1⟩ := zcover (ps := [6442450943, 9223372043297226757, 9223372071214514175]) (by decide +kernel) x1
  obtain ⟨c2, m2, z2⟩ := zcover (ps := [6442450943, 9223372043297226771, 9223372131344056319]) (by decide +kernel) x2
  obtain ⟨hm | hm, hg⟩ := hv
  · exact vcallT0 (cs_X9_move 23) (zall_t (zall_t (kM0_move) c1 m1) c2 m2) ⟨⟨rfl, rfl⟩, ⟨zg_i z1, ⟨zg_i z2, trivial⟩⟩⟩ hm hg
  · exact vcallT0 (cs_X9_move 23) (zall_t (zall_t (kM1_move) c1 m1) c2 m2) ⟨⟨rfl, rfl⟩, ⟨zg_i z1, ⟨zg_i z2, trivial⟩⟩⟩ hm hg
theorem kM0_hours : zall [6442450943, 2147483648, 9223372047592194096, 9223372255898107903] (fun c1 => gs_X9_hours [.inr (.ref 292), .inl c1] 336 zAi0 (kT zUm kV0)) = true := by decide +kernel
theorem kM1_hours : zall [6442450943, 2147483648, 9223372047592194096, 9223372255898107903] (fun c1 => gs_X9_hours [.inr (.ref 292), .inl c1] 336 zAi1 (kT zUm kV0)) = true := by decide +kernel
theorem hM3_hours {l : Launch} {G : qG} {I : qMI} {L : qML} {R : qMR} (hv : vInv I L R) (x1 : Int32) : qCall l G 26 n_X9_hours [.ref 292, .int x1] 336 I L R (vR0 zUm I L R) := by
  obtain ⟨c1, m1, z1⟩ := zcover (ps := [6442450943, 2147483648, 9223372047592194096, 9223372255898107903]) (by decide +kernel) x1
  obtain ⟨hm | hm, hg⟩ := hv
  · exact vcallT0 (cs_X9_hours 16 hg) (zall_t (kM0_hours) c1 m1) ⟨⟨rfl, rfl⟩, ⟨zg_i z1, trivial⟩⟩ hm hg
  · exact vcallT0 (cs_X9_hours 16 hg) (zall_t (kM1_hours) c1 m1) ⟨⟨rfl, rfl⟩, ⟨zg_i z1, trivial⟩⟩ hm hg
theorem kM0_undo : gs_X9_undo [.inr (.ref 292)] 336 zAi0 (kT zUm kV0) = true := by decide +kernel
theorem kM1_undo : gs_X9_undo [.inr (.ref 292)] 336 zAi1 (kT zUm kV0) = true := by decide +kernel
theorem hM3_undo {l : Launch} {G : qG} {I : qMI} {L : qML} {R : qMR} (hv : vInv I L R) : qCall l G 26 n_X9_undo [.ref 292] 336 I L R (vR0 zUm I L R) := by
  obtain ⟨hm | hm, hg⟩ := hv
  · exact vcallT0 (cs_X9_undo 25) (kM0_undo) ⟨⟨rfl, rfl⟩, trivial⟩ hm hg
  · exact vcallT0 (cs_X9_undo 25) (kM1_undo) ⟨⟨rfl, rfl⟩, trivial⟩ hm hg
theorem kM0_sight : zall [8589934591] (fun c1 => zall [6442450943, 9223372043297226757, 9223372071214514175] (fun c2 => zall [8589934591] (fun c3 => gs_X9_sight [.inr (.ref 292), .inl c1, .inl c2, .inl c3] 336 zAi0 (kT zUr kV)))) = true := by decide +kernel
theorem kM1_sight : zall [8589934591] (fun c1 => zall [6442450943, 9223372043297226757, 9223372071214514175] (fun c2 => zall [8589934591] (fun c3 => gs_X9_sight [.inr (.ref 292), .inl c1, .inl c2, .inl c3] 336 zAi1 (kT zUr kV)))) = true := by decide +kernel
theorem hM3_sight {l : Launch} {G : qG} {I : qMI} {L : qML} {R : qMR} (hv : vInv I L R) (x1 x2 x3 : Int32) : qCall l G 26 n_X9_sight [.ref 292, .int x1, .int x2, .int x3] 336 I L R (vR3 zUr I L R) := by
  obtain ⟨c1, m1, z1⟩ := zcover (ps := [8589934591]) (by decide +kernel) x1
  obtain ⟨c2, m2, z2⟩ := zcover (ps := [6442450943, 9223372043297226757, 9223372071214514175]) (by decide +kernel) x2
  obtain ⟨c3, m3, z3⟩ := zcover (ps := [8589934591]) (by decide +kernel) x3
  obtain ⟨hm | hm, hg⟩ := hv
  · exact vcallT3 (cs_X9_sight 18 hg) (zall_t (zall_t (zall_t (kM0_sight) c1 m1) c2 m2) c3 m3) ⟨⟨rfl, rfl⟩, ⟨zg_i z1, ⟨zg_i z2, ⟨zg_i z3, trivial⟩⟩⟩⟩ hm hg
  · exact vcallT3 (cs_X9_sight 18 hg) (zall_t (zall_t (zall_t (kM1_sight) c1 m1) c2 m2) c3 m3) ⟨⟨rfl, rfl⟩, ⟨zg_i z1, ⟨zg_i z2, ⟨zg_i z3, trivial⟩⟩⟩⟩ hm hg
theorem kM0_clash : zall [8589934591] (fun c1 => gs_X9_clash [.inr (.ref 292), .inl c1] 336 zAi0 (kT zUr kV)) = true := by decide +kernel
theorem kM1_clash : zall [8589934591] (fun c1 => gs_X9_clash [.inr (.ref 292), .inl c1] 336 zAi1 (kT zUr kV)) = true := by decide +kernel
theorem hM3_clash {l : Launch} {G : qG} {I : qMI} {L : qML} {R : qMR} (hv : vInv I L R) (x1 : Int32) : qCall l G 26 n_X9_clash [.ref 292, .int x1] 336 I L R (vR3 zUr I L R) := by
  obtain ⟨c1, m1, z1⟩ := zcover (ps := [8589934591]) (by decide +kernel) x1
  obtain ⟨hm | hm, hg⟩ := hv
  · exact vcallT3 (cs_X9_clash 17 hg) (zall_t (kM0_clash) c1 m1) ⟨⟨rfl, rfl⟩, ⟨zg_i z1, trivial⟩⟩ hm hg
  · exact vcallT3 (cs_X9_clash 17 hg) (zall_t (kM1_clash) c1 m1) ⟨⟨rfl, rfl⟩, ⟨zg_i z1, trivial⟩⟩ hm hg
theorem kM0_longFrom : zall [8589934591] (fun c1 => zall [6442450943, 9223372043297226757, 9223372071214514175] (fun c2 => zall [6442450944, 9223372047592194096, 9223372255898107903] (fun c3 => gs_X9_longFrom [.inr (.ref 292), .inl c1, .inl c2, .inl c3] 336 zAi0 (kT zUr kV)))) = true := by decide +kernel
theorem kM1_longFrom : zall [8589934591] (fun c1 => zall [6442450943, 9223372043297226757, 9223372071214514175] (fun c2 => zall [6442450944, 9223372047592194096, 9223372255898107903] (fun c3 => gs_X9_longFrom [.inr (.ref 292), .inl c1, .inl c2, .inl c3] 336 zAi1 (kT zUr kV)))) = true := by decide +kernel
theorem hM3_longFrom {l : Launch} {G : qG} {I : qMI} {L : qML} {R : qMR} (hv : vInv I L R) (x1 x2 x3 : Int32) : qCall l G 26 n_X9_longFrom [.ref 292, .int x1, .int x2, .int x3] 336 I L R (vR3 zUr I L R) := by
  obtain ⟨c1, m1, z1⟩ := zcover (ps := [8589934591]) (by decide +kernel) x1
  obtain ⟨c2, m2, z2⟩ := zcover (ps := [6442450943, 9223372043297226757, 9223372071214514175]) (by decide +kernel) x2
  obtain ⟨c3, m3, z3⟩ := zcover (ps := [6442450944, 9223372047592194096, 9223372255898107903]) (by decide +kernel) x3
  obtain ⟨hm | hm, hg⟩ := hv
  · exact vcallT3 (cs_X9_longFrom 18 hg) (zall_t (zall_t (zall_t (kM0_longFrom) c1 m1) c2 m2) c3 m3) ⟨⟨rfl, rfl⟩, ⟨zg_i z1, ⟨zg_i z2, ⟨zg_i z3, trivial⟩⟩⟩⟩ hm hg
  · exact vcallT3 (cs_X9_longFrom 18 hg) (zall_t (zall_t (zall_t (kM1_longFrom) c1 m1) c2 m2) c3 m3) ⟨⟨rfl, rfl⟩, ⟨zg_i z1, ⟨zg_i z2, ⟨zg_i z3, trivial⟩⟩⟩⟩ hm hg
theorem kM0_best : zall [6442450943, 9223372043297226757, 9223372071214514175] (fun c1 => zall [6442450944, 9223372047592194096, 9223372255898107903] (fun c2 => zall [8589934591] (fun c3 => gs_X9_best [.inr (.ref 292), .inl c1, .inl c2, .inl c3] 336 zAi0 (kT zUr kV)))) = true := by decide +kernel
theorem kM1_best : zall [6442450943, 9223372043297226757, 9223372071214514175] (fun c1 => zall [6442450944, 9223372047592194096, 9223372255898107903] (fun c2 => zall [8589934591] (fun c3 => gs_X9_best [.inr (.ref 292), .inl c1, .inl c2, .inl c3] 336 zAi1 (kT zUr kV)))) = true := by decide +kernel
theorem hM3_best {l : Launch} {G : qG} {I : qMI} {L : qML} {R : qMR} (hv : vInv I L R) (x1 x2 x3 : Int32) : qCall l G 26 n_X9_best [.ref 292, .int x1, .int x2, .int x3] 336 I L R (vR3 zUr I L R) := by
  obtain ⟨c1, m1, z1⟩ := zcover (ps := [6442450943, 9223372043297226757, 9223372071214514175]) (by decide +kernel) x1
  obtain ⟨c2, m2, z2⟩ := zcover (ps := [6442450944, 9223372047592194096, 9223372255898107903]) (by decide +kernel) x2
  obtain ⟨c3, m3, z3⟩ := zcover (ps := [8589934591]) (by decide +kernel) x3
  obtain ⟨hm | hm, hg⟩ := hv
  · exact vcallT3 (cs_X9_best 18 hg) (zall_t (zall_t (zall_t (kM0_best) c1 m1) c2 m2) c3 m3) ⟨⟨rfl, rfl⟩, ⟨zg_i z1, ⟨zg_i z2, ⟨zg_i z3, trivial⟩⟩⟩⟩ hm hg
  · exact vcallT3 (cs_X9_best 18 hg) (zall_t (zall_t (zall_t (kM1_best) c1 m1) c2 m2) c3 m3) ⟨⟨rfl, rfl⟩, ⟨zg_i z1, ⟨zg_i z2, ⟨zg_i z3, trivial⟩⟩⟩⟩ hm hg
theorem kM0_dawns : zall [8589934591] (fun c1 => zall [6442450943, 9223372043297226757, 9223372071214514175] (fun c2 => gs_X9_dawns [.inr (.ref 292), .inl c1, .inl c2] 336 zAi0 (kT zUr kV))) = true := by decide +kernel
theorem kM1_dawns : zall [8589934591] (fun c1 => zall [6442450943, 9223372043297226757, 9223372071214514175] (fun c2 => gs_X9_dawns [.inr (.ref 292), .inl c1, .inl c2] 336 zAi1 (kT zUr kV))) = true := by decide +kernel
theorem hM3_dawns {l : Launch} {G : qG} {I : qMI} {L : qML} {R : qMR} (hv : vInv I L R) (x1 x2 : Int32) : qCall l G 26 n_X9_dawns [.ref 292, .int x1, .int x2] 336 I L R (vR3 zUr I L R) := by
  obtain ⟨c1, m1, z1⟩ := zcover (ps := [8589934591]) (by decide +kernel) x1
  obtain ⟨c2, m2, z2⟩ := zcover (ps := [6442450943, 9223372043297226757, 9223372071214514175]) (by decide +kernel) x2
  obtain ⟨hm | hm, hg⟩ := hv
  · exact vcallT3 (cs_X9_dawns 19 hg) (zall_t (zall_t (kM0_dawns) c1 m1) c2 m2) ⟨⟨rfl, rfl⟩, ⟨zg_i z1, ⟨zg_i z2, trivial⟩⟩⟩ hm hg
  · exact vcallT3 (cs_X9_dawns 19 hg) (zall_t (zall_t (kM1_dawns) c1 m1) c2 m2) ⟨⟨rfl, rfl⟩, ⟨zg_i z1, ⟨zg_i z2, trivial⟩⟩⟩ hm hg
theorem kM0_near : zall [8589934591] (fun c1 => zall [8589934591] (fun c2 => gs_X9_near [.inr (.ref 292), .inl c1, .inl c2] 336 zAi0 (kT zUr kV))) = true := by decide +kernel
theorem kM1_near : zall [8589934591] (fun c1 => zall [8589934591] (fun c2 => gs_X9_near [.inr (.ref 292), .inl c1, .inl c2] 336 zAi1 (kT zUr kV))) = true := by decide +kernel
theorem hM3_near {l : Launch} {G : qG} {I : qMI} {L : qML} {R : qMR} (hv : vInv I L R) (x1 x2 : Int32) : qCall l G 26 n_X9_near [.ref 292, .int x1, .int x2] 336 I L R (vR3 zUr I L R) := by
  obtain ⟨c1, m1, z1⟩ := zcover (ps := [8589934591]) (by decide +kernel) x1
  obtain ⟨c2, m2, z2⟩ := zcover (ps := [8589934591]) (by decide +kernel) x2
  obtain ⟨hm | hm, hg⟩ := hv
  · exact vcallT3 (cs_X9_near 18 hg) (zall_t (zall_t (kM0_near) c1 m1) c2 m2) ⟨⟨rfl, rfl⟩, ⟨zg_i z1, ⟨zg_i z2, trivial⟩⟩⟩ hm hg
  · exact vcallT3 (cs_X9_near 18 hg) (zall_t (zall_t (kM1_near) c1 m1) c2 m2) ⟨⟨rfl, rfl⟩, ⟨zg_i z1, ⟨zg_i z2, trivial⟩⟩⟩ hm hg
theorem kM0_crowd : zall [8589934591] (fun c1 => gs_X9_crowd [.inr (.ref 292), .inl c1] 336 zAi0 (kT zUr kV)) = true := by decide +kernel
theorem kM1_crowd : zall [8589934591] (fun c1 => gs_X9_crowd [.inr (.ref 292), .inl c1] 336 zAi1 (kT zUr kV)) = true := by decide +kernel
theorem hM3_crowd {l : Launch} {G : qG} {I : qMI} {L : qML} {R : qMR} (hv : vInv I L R) (x1 : Int32) : qCall l G 26 n_X9_crowd [.ref 292, .int x1] 336 I L R (vR3 zUr I L R) := by
  obtain ⟨c1, m1, z1⟩ := zcover (ps := [8589934591]) (by decide +kernel) x1
  obtain ⟨hm | hm, hg⟩ := hv
  · exact vcallT3 (cs_X9_crowd 18 hg) (zall_t (kM0_crowd) c1 m1) ⟨⟨rfl, rfl⟩, ⟨zg_i z1, trivial⟩⟩ hm hg
  · exact vcallT3 (cs_X9_crowd 18 hg) (zall_t (kM1_crowd) c1 m1) ⟨⟨rfl, rfl⟩, ⟨zg_i z1, trivial⟩⟩ hm hg
theorem kM0_rich : zall [6442450943, 9223372043297226800, 9223372255898107903] (fun c1 => zall [8589934591] (fun c2 => gs_X9_rich [.inr (.ref 292), .inl c1, .inl c2] 336 zAi0 (kT zUr kV))) = true := by decide +kernel
theorem kM1_rich : zall [6442450943, 9223372043297226800, 9223372255898107903] (fun c1 => zall [8589934591] (fun c2 => gs_X9_rich [.inr (.ref 292), .inl c1, .inl c2] 336 zAi1 (kT zUr kV))) = true := by decide +kernel
theorem hM3_rich {l : Launch} {G : qG} {I : qMI} {L : qML} {R : qMR} (hv : vInv I L R) (x1 x2 : Int32) : qCall l G 26 n_X9_rich [.ref 292, .int x1, .int x2] 336 I L R (vR3 zUr I L R) := by
  obtain ⟨c1, m1, z1⟩ := zcover (ps := [6442450943, 9223372043297226800, 9223372255898107903]) (by decide +kernel) x1
  obtain ⟨c2, m2, z2⟩ := zcover (ps := [8589934591]) (by decide +kernel) x2
  obtain ⟨hm | hm, hg⟩ := hv
  · exact vcallT3 (cs_X9_rich 16 hg) (zall_t (zall_t (kM0_rich) c1 m1) c2 m2) ⟨⟨rfl, rfl⟩, ⟨zg_i z1, ⟨zg_i z2, trivial⟩⟩⟩ hm hg
  · exact vcallT3 (cs_X9_rich 16 hg) (zall_t (zall_t (kM1_rich) c1 m1) c2 m2) ⟨⟨rfl, rfl⟩, ⟨zg_i z1, ⟨zg_i z2, trivial⟩⟩⟩ hm hg
theorem kM0_umbrellas : zall [6442450944, 2147483649, 2147483650, 2147483651, 9223372062624579583] (fun c1 => zall [6442450942, 2147483647, 2147483648, 2147483649, 2147483650, 9223372058329612287] (fun c2 => gs_X9_umbrellas [.inr (.ref 292), .inl c1, .inl c2] 336 zAi0 (kT zUr kV))) = true := by decide +kernel
theorem kM1_umbrellas : zall [6442450944, 2147483649, 2147483650, 2147483651, 9223372062624579583] (fun c1 => zall [6442450942, 2147483647, 2147483648, 2147483649, 2147483650, 9223372058329612287] (fun c2 => gs_X9_umbrellas [.inr (.ref 292), .inl c1, .inl c2] 336 zAi1 (kT zUr kV))) = true := by decide +kernel
theorem hM3_umbrellas {l : Launch} {G : qG} {I : qMI} {L : qML} {R : qMR} (hv : vInv I L R) (x1 x2 : Int32) : qCall l G 26 n_X9_umbrellas [.ref 292, .int x1, .int x2] 336 I L R (vR3 zUr I L R) := by
  obtain ⟨c1, m1, z1⟩ := zcover (ps := [6442450944, 2147483649, 2147483650, 2147483651, 9223372062624579583]) (by decide +kernel) x1
  obtain ⟨c2, m2, z2⟩ := zcover (ps := [6442450942, 2147483647, 2147483648, 2147483649, 2147483650, 9223372058329612287]) (by decide +kernel) x2
  obtain ⟨hm | hm, hg⟩ := hv
  · exact vcallT3 (cs_X9_umbrellas 18 hg) (zall_t (zall_t (kM0_umbrellas) c1 m1) c2 m2) ⟨⟨rfl, rfl⟩, ⟨zg_i z1, ⟨zg_i z2, trivial⟩⟩⟩ hm hg
  · exact vcallT3 (cs_X9_umbrellas 18 hg) (zall_t (zall_t (kM1_umbrellas) c1 m1) c2 m2) ⟨⟨rfl, rfl⟩, ⟨zg_i z1, ⟨zg_i z2, trivial⟩⟩⟩ hm hg
theorem kM0_worth : zall [6442450943, 9223372043297226757, 9223372071214514175] (fun c1 => zall [6442450943, 9223372043297226757, 9223372071214514175] (fun c2 => zall [6442450944, 9223372047592195047, 9223376340412006399] (fun c3 => zall [6442450944, 9223372047592194096, 9223372255898107903] (fun c4 => gs_X9_worth [.inr (.ref 292), .inl c1, .inl c2, .inl c3, .inl c4] 336 zAi0 (kT zUr kV))))) = true := by decide +kernel
theorem kM1_worth : zall [6442450943, 9223372043297226757, 9223372071214514175] (fun c1 => zall [6442450943, 9223372043297226757, 9223372071214514175] (fun c2 => zall [6442450944, 9223372047592195047, 9223376340412006399] (fun c3 => zall [6442450944, 9223372047592194096, 9223372255898107903] (fun c4 => gs_X9_worth [.inr (.ref 292), .inl c1, .inl c2, .inl c3, .inl c4] 336 zAi1 (kT zUr kV))))) = true := by decide +kernel
theorem hM3_worth {l : Launch} {G : qG} {I : qMI} {L : qML} {R : qMR} (hv : vInv I L R) (x1 x2 x3 x4 : Int32) : qCall l G 26 n_X9_worth [.ref 292, .int x1, .int x2, .int x3, .int x4] 336 I L R (vR3 zUr I L R) := by
  obtain ⟨c1, m1, z1⟩ := zcover (ps := [6442450943, 9223372043297226757, 9223372071214514175]) (by decide +kernel) x1
  obtain ⟨c2, m2, z2⟩ := zcover (ps := [6442450943, 9223372043297226757, 9223372071214514175]) (by decide +kernel) x2
  obtain ⟨c3, m3, z3⟩ := zcover (ps := [6442450944, 9223372047592195047, 9223376340412006399]) (by decide +kernel) x3
  obtain ⟨c4, m4, z4⟩ := zcover (ps := [6442450944, 9223372047592194096, 9223372255898107903]) (by decide +kernel) x4
  obtain ⟨hm | hm, hg⟩ := hv
  · exact vcallT3 (cs_X9_worth 19 hg) (zall_t (zall_t (zall_t (zall_t (kM0_worth) c1 m1) c2 m2) c3 m3) c4 m4) ⟨⟨rfl, rfl⟩, ⟨zg_i z1, ⟨zg_i z2, ⟨zg_i z3, ⟨zg_i z4, trivial⟩⟩⟩⟩⟩ hm hg
  · exact vcallT3 (cs_X9_worth 19 hg) (zall_t (zall_t (zall_t (zall_t (kM1_worth) c1 m1) c2 m2) c3 m3) c4 m4) ⟨⟨rfl, rfl⟩, ⟨zg_i z1, ⟨zg_i z2, ⟨zg_i z3, ⟨zg_i z4, trivial⟩⟩⟩⟩⟩ hm hg
theorem kM0_book : zall [6442450943, 9223372043297226757, 9223372071214514175] (fun c1 => zall [6442450943, 9223372043297226800, 9223372255898107903] (fun c2 => gs_X9_book [.inr (.ref 292), .inl c1, .inl c2] 336 zAi0 (kT zUr kV))) = true := by decide +kernel
theorem kM1_book : zall [6442450943, 9223372043297226757, 9223372071214514175] (fun c1 => zall [6442450943, 9223372043297226800, 9223372255898107903] (fun c2 => gs_X9_book [.inr (.ref 292), .inl c1, .inl c2] 336 zAi1 (kT zUr kV))) = true := by decide +kernel
theorem hM3_book {l : Launch} {G : qG} {I : qMI} {L : qML} {R : qMR} (hv : vInv I L R) (x1 x2 : Int32) : qCall l G 26 n_X9_book [.ref 292, .int x1, .int x2] 336 I L R (vR3 zUr I L R) := by
  obtain ⟨c1, m1, z1⟩ := zcover (ps := [6442450943, 9223372043297226757, 9223372071214514175]) (by decide +kernel) x1
  obtain ⟨c2, m2, z2⟩ := zcover (ps := [6442450943, 9223372043297226800, 9223372255898107903]) (by decide +kernel) x2
  obtain ⟨hm | hm, hg⟩ := hv
  · exact vcallT3 (cs_X9_book 16 hg) (zall_t (zall_t (kM0_book) c1 m1) c2 m2) ⟨⟨rfl, rfl⟩, ⟨zg_i z1, ⟨zg_i z2, trivial⟩⟩⟩ hm hg
  · exact vcallT3 (cs_X9_book 16 hg) (zall_t (zall_t (kM1_book) c1 m1) c2 m2) ⟨⟨rfl, rfl⟩, ⟨zg_i z1, ⟨zg_i z2, trivial⟩⟩⟩ hm hg
theorem kM0_hidden : zall [6442450943, 9223372043297226771, 9223372131344056319] (fun c1 => zall [6442450943, 9223372043297226771, 9223372131344056319] (fun c2 => zall [6442450944, 9223372047592194057, 9223372088394383359] (fun c3 => gs_X9_hidden [.inr (.ref 292), .inl c1, .inl c2, .inl c3] 336 zAi0 (kT zUr kV)))) = true := by decide +kernel
theorem kM1_hidden : zall [6442450943, 9223372043297226771, 9223372131344056319] (fun c1 => zall [6442450943, 9223372043297226771, 9223372131344056319] (fun c2 => zall [6442450944, 9223372047592194057, 9223372088394383359] (fun c3 => gs_X9_hidden [.inr (.ref 292), .inl c1, .inl c2, .inl c3] 336 zAi1 (kT zUr kV)))) = true := by decide +kernel
theorem hM3_hidden {l : Launch} {G : qG} {I : qMI} {L : qML} {R : qMR} (hv : vInv I L R) (x1 x2 x3 : Int32) : qCall l G 26 n_X9_hidden [.ref 292, .int x1, .int x2, .int x3] 336 I L R (vR3 zUr I L R) := by
  obtain ⟨c1, m1, z1⟩ := zcover (ps := [6442450943, 9223372043297226771, 9223372131344056319]) (by decide +kernel) x1
  obtain ⟨c2, m2, z2⟩ := zcover (ps := [6442450943, 9223372043297226771, 9223372131344056319]) (by decide +kernel) x2
  obtain ⟨c3, m3, z3⟩ := zcover (ps := [6442450944, 9223372047592194057, 9223372088394383359]) (by decide +kernel) x3
  obtain ⟨hm | hm, hg⟩ := hv
  · exact vcallT3 (cs_X9_hidden 19 hg) (zall_t (zall_t (zall_t (kM0_hidden) c1 m1) c2 m2) c3 m3) ⟨⟨rfl, rfl⟩, ⟨zg_i z1, ⟨zg_i z2, ⟨zg_i z3, trivial⟩⟩⟩⟩ hm hg
  · exact vcallT3 (cs_X9_hidden 19 hg) (zall_t (zall_t (zall_t (kM1_hidden) c1 m1) c2 m2) c3 m3) ⟨⟨rfl, rfl⟩, ⟨zg_i z1, ⟨zg_i z2, ⟨zg_i z3, trivial⟩⟩⟩⟩ hm hg
theorem kM0_cool : gs_X9_cool [.inr (.ref 292)] 336 zAi0 (kT zUr kV) = true := by decide +kernel
theorem kM1_cool : gs_X9_cool [.inr (.ref 292)] 336 zAi1 (kT zUr kV) = true := by decide +kernel
theorem hM3_cool {l : Launch} {G : qG} {I : qMI} {L : qML} {R : qMR} (hv : vInv I L R) : qCall l G 26 n_X9_cool [.ref 292] 336 I L R (vR3 zUr I L R) := by
  obtain ⟨hm | hm, hg⟩ := hv
  · exact vcallT3 (cs_X9_cool 19 hg) (kM0_cool) ⟨⟨rfl, rfl⟩, trivial⟩ hm hg
  · exact vcallT3 (cs_X9_cool 19 hg) (kM1_cool) ⟨⟨rfl, rfl⟩, trivial⟩ hm hg
theorem kM0_heatIn : zall [8589934591] (fun c1 => gs_X9_heatIn [.inr (.ref 292), .inl c1] 336 zAi0 (kT zUr kV)) = true := by decide +kernel
theorem kM1_heatIn : zall [8589934591] (fun c1 => gs_X9_heatIn [.inr (.ref 292), .inl c1] 336 zAi1 (kT zUr kV)) = true := by decide +kernel
theorem hM3_heatIn {l : Launch} {G : qG} {I : qMI} {L : qML} {R : qMR} (hv : vInv I L R) (x1 : Int32) : qCall l G 26 n_X9_heatIn [.ref 292, .int x1] 336 I L R (vR3 zUr I L R) := by
  obtain ⟨c1, m1, z1⟩ := zcover (ps := [8589934591]) (by decide +kernel) x1
  obtain ⟨hm | hm, hg⟩ := hv
  · exact vcallT3 (cs_X9_heatIn 22 hg) (zall_t (kM0_heatIn) c1 m1) ⟨⟨rfl, rfl⟩, ⟨zg_i z1, trivial⟩⟩ hm hg
  · exact vcallT3 (cs_X9_heatIn 22 hg) (zall_t (kM1_heatIn) c1 m1) ⟨⟨rfl, rfl⟩, ⟨zg_i z1, trivial⟩⟩ hm hg
theorem kM0_lentIn : zall [6442450943, 9223372043297226757, 9223372071214514175] (fun c1 => zall [6442450943, 9223372043297226757, 9223372071214514175] (fun c2 => zall [6442450943, 9223372043297226800, 9223372255898107903] (fun c3 => gs_X9_lentIn [.inr (.ref 292), .inl c1, .inl c2, .inl c3] 336 zAi0 (kT zUr kV)))) = true := by decide +kernel
theorem kM1_lentIn : zall [6442450943, 9223372043297226757, 9223372071214514175] (fun c1 => zall [6442450943, 9223372043297226757, 9223372071214514175] (fun c2 => zall [6442450943, 9223372043297226800, 9223372255898107903] (fun c3 => gs_X9_lentIn [.inr (.ref 292), .inl c1, .inl c2, .inl c3] 336 zAi1 (kT zUr kV)))) = true := by decide +kernel
theorem hM3_lentIn {l : Launch} {G : qG} {I : qMI} {L : qML} {R : qMR} (hv : vInv I L R) (x1 x2 x3 : Int32) : qCall l G 26 n_X9_lentIn [.ref 292, .int x1, .int x2, .int x3] 336 I L R (vR3 zUr I L R) := by
  obtain ⟨c1, m1, z1⟩ := zcover (ps := [6442450943, 9223372043297226757, 9223372071214514175]) (by decide +kernel) x1
  obtain ⟨c2, m2, z2⟩ := zcover (ps := [6442450943, 9223372043297226757, 9223372071214514175]) (by decide +kernel) x2
  obtain ⟨c3, m3, z3⟩ := zcover (ps := [6442450943, 9223372043297226800, 9223372255898107903]) (by decide +kernel) x3
  obtain ⟨hm | hm, hg⟩ := hv
  · exact vcallT3 (cs_X9_lentIn 16 hg) (zall_t (zall_t (zall_t (kM0_lentIn) c1 m1) c2 m2) c3 m3) ⟨⟨rfl, rfl⟩, ⟨zg_i z1, ⟨zg_i z2, ⟨zg_i z3, trivial⟩⟩⟩⟩ hm hg
  · exact vcallT3 (cs_X9_lentIn 16 hg) (zall_t (zall_t (zall_t (kM1_lentIn) c1 m1) c2 m2) c3 m3) ⟨⟨rfl, rfl⟩, ⟨zg_i z1, ⟨zg_i z2, ⟨zg_i z3, trivial⟩⟩⟩⟩ hm hg
theorem kM0_year : zall [6442450943, 9223372043297226757, 9223372071214514175] (fun c1 => zall [6442450943, 9223372043297226757, 9223372071214514175] (fun c2 => zall [6442450943, 9223372043297226800, 9223372255898107903] (fun c3 => zall [6442450944, 9223372047592194068, 9223372135639023615] (fun c4 => gs_X9_year [.inr (.ref 292), .inl c1, .inl c2, .inl c3, .inl c4] 336 zAi0 (kT zUr kV))))) = true := by decide +kernel
theorem kM1_year : zall [6442450943, 9223372043297226757, 9223372071214514175] (fun c1 => zall [6442450943, 9223372043297226757, 9223372071214514175] (fun c2 => zall [6442450943, 9223372043297226800, 9223372255898107903] (fun c3 => zall [6442450944, 9223372047592194068, 9223372135639023615] (fun c4 => gs_X9_year [.inr (.ref 292), .inl c1, .inl c2, .inl c3, .inl c4] 336 zAi1 (kT zUr kV))))) = true := by decide +kernel
theorem hM3_year {l : Launch} {G : qG} {I : qMI} {L : qML} {R : qMR} (hv : vInv I L R) (x1 x2 x3 x4 : Int32) : qCall l G 26 n_X9_year [.ref 292, .int x1, .int x2, .int x3, .int x4] 336 I L R (vR3 zUr I L R) := by
  obtain ⟨c1, m1, z1⟩ := zcover (ps := [6442450943, 9223372043297226757, 9223372071214514175]) (by decide +kernel) x1
  obtain ⟨c2, m2, z2⟩ := zcover (ps := [6442450943, 9223372043297226757, 9223372071214514175]) (by decide +kernel) x2
  obtain ⟨c3, m3, z3⟩ := zcover (ps := [6442450943, 9223372043297226800, 9223372255898107903]) (by decide +kernel) x3
  obtain ⟨c4, m4, z4⟩ := zcover (ps := [6442450944, 9223372047592194068, 9223372135639023615]) (by decide +kernel) x4
  obtain ⟨hm | hm, hg⟩ := hv
  · exact vcallT3 (cs_X9_year 16 hg) (zall_t (zall_t (zall_t (zall_t (kM0_year) c1 m1) c2 m2) c3 m3) c4 m4) ⟨⟨rfl, rfl⟩, ⟨zg_i z1, ⟨zg_i z2, ⟨zg_i z3, ⟨zg_i z4, trivial⟩⟩⟩⟩⟩ hm hg
  · exact vcallT3 (cs_X9_year 16 hg) (zall_t (zall_t (zall_t (zall_t (kM1_year) c1 m1) c2 m2) c3 m3) c4 m4) ⟨⟨rfl, rfl⟩, ⟨zg_i z1, ⟨zg_i z2, ⟨zg_i z3, ⟨zg_i z4, trivial⟩⟩⟩⟩⟩ hm hg
theorem kM0_stands : zall [6442450943, 9223372043297226772, 9223372135639023615] (fun c1 => gs_X9_stands [.inr (.ref 292), .inl c1] 336 zAi0 (kT zUr kV)) = true := by decide +kernel
theorem kM1_stands : zall [6442450943, 9223372043297226772, 9223372135639023615] (fun c1 => gs_X9_stands [.inr (.ref 292), .inl c1] 336 zAi1 (kT zUr kV)) = true := by decide +kernel
theorem hM3_stands {l : Launch} {G : qG} {I : qMI} {L : qML} {R : qMR} (hv : vInv I L R) (x1 : Int32) : qCall l G 26 n_X9_stands [.ref 292, .int x1] 336 I L R (vR3 zUr I L R) := by
  obtain ⟨c1, m1, z1⟩ := zcover (ps := [6442450943, 9223372043297226772, 9223372135639023615]) (by decide +kernel) x1
  obtain ⟨hm | hm, hg⟩ := hv
  · exact vcallT3 (cs_X9_stands 18 hg) (zall_t (kM0_stands) c1 m1) ⟨⟨rfl, rfl⟩, ⟨zg_i z1, trivial⟩⟩ hm hg
  · exact vcallT3 (cs_X9_stands 18 hg) (zall_t (kM1_stands) c1 m1) ⟨⟨rfl, rfl⟩, ⟨zg_i z1, trivial⟩⟩ hm hg
theorem kM0_sure : zall [6442450943, 9223372043297226772, 9223372135639023615] (fun c1 => zall [6442450943, 2147483648, 2147483649, 9223372054034644991] (fun c2 => gs_X9_sure [.inr (.ref 292), .inl c1, .inl c2] 336 zAi0 (kT zUr kV))) = true := by decide +kernel
theorem kM1_sure : zall [6442450943, 9223372043297226772, 9223372135639023615] (fun c1 => zall [6442450943, 2147483648, 2147483649, 9223372054034644991] (fun c2 => gs_X9_sure [.inr (.ref 292), .inl c1, .inl c2] 336 zAi1 (kT zUr kV))) = true := by decide +kernel
theorem hM3_sure {l : Launch} {G : qG} {I : qMI} {L : qML} {R : qMR} (hv : vInv I L R) (x1 x2 : Int32) : qCall l G 26 n_X9_sure [.ref 292, .int x1, .int x2] 336 I L R (vR3 zUr I L R) := by
  obtain ⟨c1, m1, z1⟩ := zcover (ps := [6442450943, 9223372043297226772, 9223372135639023615]) (by decide +kernel) x1
  obtain ⟨c2, m2, z2⟩ := zcover (ps := [6442450943, 2147483648, 2147483649, 9223372054034644991]) (by decide +kernel) x2
  obtain ⟨hm | hm, hg⟩ := hv
  · exact vcallT3 (cs_X9_sure 18 hg) (zall_t (zall_t (kM0_sure) c1 m1) c2 m2) ⟨⟨rfl, rfl⟩, ⟨zg_i z1, ⟨zg_i z2, trivial⟩⟩⟩ hm hg
  · exact vcallT3 (cs_X9_sure 18 hg) (zall_t (zall_t (kM1_sure) c1 m1) c2 m2) ⟨⟨rfl, rfl⟩, ⟨zg_i z1, ⟨zg_i z2, trivial⟩⟩⟩ hm hg
theorem kM0_look : zall [6442450943, 9223372043297226772, 9223372135639023615] (fun c1 => zall [6442450943, 9223372043297226776, 9223372152818892799] (fun c2 => gs_X9_look [.inr (.ref 292), .inl c1, .inl c2] 336 zAi0 (kT zUr kV))) = true := by decide +kernel
theorem kM1_look : zall [6442450943, 9223372043297226772, 9223372135639023615] (fun c1 => zall [6442450943, 9223372043297226776, 9223372152818892799] (fun c2 => gs_X9_look [.inr (.ref 292), .inl c1, .inl c2] 336 zAi1 (kT zUr kV))) = true := by decide +kernel
theorem hM3_look {l : Launch} {G : qG} {I : qMI} {L : qML} {R : qMR} (hv : vInv I L R) (x1 x2 : Int32) : qCall l G 26 n_X9_look [.ref 292, .int x1, .int x2] 336 I L R (vR3 zUr I L R) := by
  obtain ⟨c1, m1, z1⟩ := zcover (ps := [6442450943, 9223372043297226772, 9223372135639023615]) (by decide +kernel) x1
  obtain ⟨c2, m2, z2⟩ := zcover (ps := [6442450943, 9223372043297226776, 9223372152818892799]) (by decide +kernel) x2
  obtain ⟨hm | hm, hg⟩ := hv
  · exact vcallT3 (cs_X9_look 18 hg) (zall_t (zall_t (kM0_look) c1 m1) c2 m2) ⟨⟨rfl, rfl⟩, ⟨zg_i z1, ⟨zg_i z2, trivial⟩⟩⟩ hm hg
  · exact vcallT3 (cs_X9_look 18 hg) (zall_t (zall_t (kM1_look) c1 m1) c2 m2) ⟨⟨rfl, rfl⟩, ⟨zg_i z1, ⟨zg_i z2, trivial⟩⟩⟩ hm hg
theorem kM0_hold : zall [6442450943, 2147483648, 2147483649, 2147483650, 9223372058329612287] (fun c1 => gs_X9_hold [.inr (.ref 292), .inl c1] 336 zAi0 (kT zHm kV)) = true := by decide +kernel
theorem kM1_hold : zall [6442450943, 2147483648, 2147483649, 2147483650, 9223372058329612287] (fun c1 => gs_X9_hold [.inr (.ref 292), .inl c1] 336 zAi1 (kT zHm kV)) = true := by decide +kernel
theorem hM3_hold {l : Launch} {G : qG} {I : qMI} {L : qML} {R : qMR} (hv : vInv I L R) (x1 : Int32) : qCall l G 26 n_X9_hold [.ref 292, .int x1] 336 I L R (vR3 zHm I L R) := by
  obtain ⟨c1, m1, z1⟩ := zcover (ps := [6442450943, 2147483648, 2147483649, 2147483650, 9223372058329612287]) (by decide +kernel) x1
  obtain ⟨hm | hm, hg⟩ := hv
  · exact vcallT3 (cs_X9_hold 24) (zall_t (kM0_hold) c1 m1) ⟨⟨rfl, rfl⟩, ⟨zg_i z1, trivial⟩⟩ hm hg
  · exact vcallT3 (cs_X9_hold 24) (zall_t (kM1_hold) c1 m1) ⟨⟨rfl, rfl⟩, ⟨zg_i z1, trivial⟩⟩ hm hg
theorem kM0_restore : zall [6442450943, 2147483648, 2147483649, 2147483650, 9223372058329612287] (fun c1 => gs_X9_restore [.inr (.ref 292), .inl c1] 336 zAi0 (kT zUm kV0)) = true := by decide +kernel
theorem kM1_restore : zall [6442450943, 2147483648, 2147483649, 2147483650, 9223372058329612287] (fun c1 => gs_X9_restore [.inr (.ref 292), .inl c1] 336 zAi1 (kT zUm kV0)) = true := by decide +kernel
theorem hM3_restore {l : Launch} {G : qG} {I : qMI} {L : qML} {R : qMR} (hv : vInv I L R) (x1 : Int32) : qCall l G 26 n_X9_restore [.ref 292, .int x1] 336 I L R (vR0 zUm I L R) := by
  obtain ⟨c1, m1, z1⟩ := zcover (ps := [6442450943, 2147483648, 2147483649, 2147483650, 9223372058329612287]) (by decide +kernel) x1
  obtain ⟨hm | hm, hg⟩ := hv
  · exact vcallT0 (cs_X9_restore 24) (zall_t (kM0_restore) c1 m1) ⟨⟨rfl, rfl⟩, ⟨zg_i z1, trivial⟩⟩ hm hg
  · exact vcallT0 (cs_X9_restore 24) (zall_t (kM1_restore) c1 m1) ⟨⟨rfl, rfl⟩, ⟨zg_i z1, trivial⟩⟩ hm hg
theorem kM0_count : zall [8589934591] (fun c1 => gs_X9_count [.inr (.ref 292), .inl c1] 336 zAi0 (kT zUr kV)) = true := by decide +kernel
theorem kM1_count : zall [8589934591] (fun c1 => gs_X9_count [.inr (.ref 292), .inl c1] 336 zAi1 (kT zUr kV)) = true := by decide +kernel
theorem hM3_count {l : Launch} {G : qG} {I : qMI} {L : qML} {R : qMR} (hv : vInv I L R) (x1 : Int32) : qCall l G 26 n_X9_count [.ref 292, .int x1] 336 I L R (vR3 zUr I L R) := by
  obtain ⟨c1, m1, z1⟩ := zcover (ps := [8589934591]) (by decide +kernel) x1
  obtain ⟨hm | hm, hg⟩ := hv
  · exact vcallT3 (cs_X9_count 18 hg) (zall_t (kM0_count) c1 m1) ⟨⟨rfl, rfl⟩, ⟨zg_i z1, trivial⟩⟩ hm hg
  · exact vcallT3 (cs_X9_count 18 hg) (zall_t (kM1_count) c1 m1) ⟨⟨rfl, rfl⟩, ⟨zg_i z1, trivial⟩⟩ hm hg
