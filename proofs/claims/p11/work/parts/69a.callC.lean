theorem kC0_place : gs_X8_place [.inr (.ref 0)] 336 zAi0 (kT zUq kV) = true := by decide +kernel
theorem kC1_place : gs_X8_place [.inr (.ref 0)] 336 zAi1 (kT zUq kV) = true := by decide +kernel
theorem hC3_place {l : Launch} {G : qG} {I : qMI} {L : qML} {R : qMR} (hv : vInv I L R) : qCall l G 26 n_X8_place [.ref 0] 336 I L R (vR3 zUq I L R) := by
  obtain ⟨hm | hm, hg⟩ := hv
  · exact vcallT3 (cs_X8_place 25) (kC0_place) ⟨⟨rfl, rfl⟩, trivial⟩ hm hg
  · exact vcallT3 (cs_X8_place 25) (kC1_place) ⟨⟨rfl, rfl⟩, trivial⟩ hm hg
theorem hC2_place {l : Launch} {G : qG} {I : qMI} {L : qML} {R : qMR} (hv : vInv I L R) : qCall l G 26 n_X8_place [.ref 0] 336 I L R (vR I L) := qCall_mono (hC3_place hv) (fun r t I' L' R' hq => vR3_2 (by decide +kernel) hq)
theorem kC0_thing : zall [6442450943, 9223372043297226757, 9223372071214514175] (fun c1 => zall [8589934591] (fun c2 => gs_X8_thing [.inr (.ref 0), .inl c1, .inl c2] 336 zAi0 (kT zUq kV))) = true := by decide +kernel
theorem kC1_thing : zall [6442450943, 9223372043297226757, 9223372071214514175] (fun c1 => zall [8589934591] (fun c2 => gs_X8_thing [.inr (.ref 0), .inl c1, .inl c2] 336 zAi1 (kT zUq kV))) = true := by decide +kernel
theorem hC3_thing {l : Launch} {G : qG} {I : qMI} {L : qML} {R : qMR} (hv : vInv I L R) (x1 x2 : Int32) : qCall l G 26 n_X8_thing [.ref 0, .int x1, .int x2] 336 I L R (vR3 zUq I L R) := by
  obtain ⟨c1, m1, z1⟩ := zcover (ps := [6442450943, 9223372043297226757, 9223372071214514175]) (by decide +kernel) x1
  obtain ⟨c2, m2, z2⟩ := zcover (ps := [8589934591]) (by decide +kernel) x2
  obtain ⟨hm | hm, hg⟩ := hv
  · exact vcallT3 (cs_X8_thing 20) (zall_t (zall_t (kC0_thing) c1 m1) c2 m2) ⟨⟨rfl, rfl⟩, ⟨zg_i z1, ⟨zg_i z2, trivial⟩⟩⟩ hm hg
  · exact vcallT3 (cs_X8_thing 20) (zall_t (zall_t (kC1_thing) c1 m1) c2 m2) ⟨⟨rfl, rfl⟩, ⟨zg_i z1, ⟨zg_i z2, trivial⟩⟩⟩ hm hg
theorem kC0_seat : zall [6442450943, 9223372043297226757, 9223372071214514175] (fun c1 => zall [8589934591] (fun c2 => gs_X8_seat [.inr (.ref 0), .inl c1, .inl c2] 336 zAi0 (kT zUq kV))) = true := by decide +kernel
theorem kC1_seat : zall [6442450943, 9223372043297226757, 9223372071214514175] (fun c1 => zall [8589934591] (fun c2 => gs_X8_seat [.inr (.ref 0), .inl c1, .inl c2] 336 zAi1 (kT zUq kV))) = true := by decide +kernel
theorem hC3_seat {l : Launch} {G : qG} {I : qMI} {L : qML} {R : qMR} (hv : vInv I L R) (x1 x2 : Int32) : qCall l G 26 n_X8_seat [.ref 0, .int x1, .int x2] 336 I L R (vR3 zUq I L R) := by
  obtain ⟨c1, m1, z1⟩ := zcover (ps := [6442450943, 9223372043297226757, 9223372071214514175]) (by decide +kernel) x1
  obtain ⟨c2, m2, z2⟩ := zcover (ps := [8589934591]) (by decide +kernel) x2
  obtain ⟨hm | hm, hg⟩ := hv
  · exact vcallT3 (cs_X8_seat 19) (zall_t (zall_t (kC0_seat) c1 m1) c2 m2) ⟨⟨rfl, rfl⟩, ⟨zg_i z1, ⟨zg_i z2, trivial⟩⟩⟩ hm hg
  · exact vcallT3 (cs_X8_seat 19) (zall_t (zall_t (kC1_seat) c1 m1) c2 m2) ⟨⟨rfl, rfl⟩, ⟨zg_i z1, ⟨zg_i z2, trivial⟩⟩⟩ hm hg
theorem kC0_loan : zall [6442450943, 9223372043297226757, 9223372071214514175] (fun c1 => zall [6442450943, 9223372043297226757, 9223372071214514175] (fun c2 => zall [6442450943, 2147483648, 2147483649, 9223372054034644991] (fun c3 => gs_X8_loan [.inr (.ref 0), .inl c1, .inl c2, .inl c3] 336 zAi0 (kT zUq kV)))) = true := by decide +kernel
theorem kC1_loan : zall [6442450943, 9223372043297226757, 9223372071214514175] (fun c1 => zall [6442450943, 9223372043297226757, 9223372071214514175] (fun c2 => zall [6442450943, 2147483648, 2147483649, 9223372054034644991] (fun c3 => gs_X8_loan [.inr (.ref 0), .inl c1, .inl c2, .inl c3] 336 zAi1 (kT zUq kV)))) = true := by decide +kernel
theorem hC3_loan {l : Launch} {G : qG} {I : qMI} {L : qML} {R : qMR} (hv : vInv I L R) (x1 x2 x3 : Int32) : qCall l G 26 n_X8_loan [.ref 0, .int x1, .int x2, .int x3] 336 I L R (vR3 zUq I L R) := by
  obtain ⟨c1, m1, z1⟩ := zcover (ps := [6442450943, 9223372043297226757, 9223372071214514175]) (by decide +kernel) x1
  obtain ⟨c2, m2, z2⟩ := zcover (ps := [6442450943, 9223372043297226757, 9223372071214514175]) (by decide +kernel) x2
  obtain ⟨c3, m3, z3⟩ := zcover (ps := [6442450943, 2147483648, 2147483649, 9223372054034644991]) (by decide +kernel) x3
  obtain ⟨hm | hm, hg⟩ := hv
  · exact vcallT3 (cs_X8_loan 23) (zall_t (zall_t (zall_t (kC0_loan) c1 m1) c2 m2) c3 m3) ⟨⟨rfl, rfl⟩, ⟨zg_i z1, ⟨zg_i z2, ⟨zg_i z3, trivial⟩⟩⟩⟩ hm hg
  · exact vcallT3 (cs_X8_loan 23) (zall_t (zall_t (zall_t (kC1_loan) c1 m1) c2 m2) c3 m3) ⟨⟨rfl, rfl⟩, ⟨zg_i z1, ⟨zg_i z2, ⟨zg_i z3, trivial⟩⟩⟩⟩ hm hg
theorem kC0_tells : zall [6442450943, 2147483648, 2147483649, 2147483650, 2147483651, 9223372062624579583] (fun c1 => zall [6442450943, 9223372043297226771, 9223372131344056319] (fun c2 => zall [6442450943, 9223372043297226757, 9223372071214514175] (fun c3 => zall [8589934591] (fun c4 => gs_X8_tells [.inr (.ref 0), .inl c1, .inl c2, .inl c3, .inl c4] 336 zAi0 (kT zUq kV))))) = true := by decide +kernel
theorem kC1_tells : zall [6442450943, 2147483648, 2147483649, 2147483650, 2147483651, 9223372062624579583] (fun c1 => zall [6442450943, 9223372043297226771, 9223372131344056319] (fun c2 => zall [6442450943, 9223372043297226757, 9223372071214514175] (fun c3 => zall [8589934591] (fun c4 => gs_X8_tells [.inr (.ref 0), .inl c1, .inl c2, .inl c3, .inl c4] 336 zAi1 (kT zUq kV))))) = true := by decide +kernel
theorem hC3_tells {l : Launch} {G : qG} {I : qMI} {L : qML} {R : qMR} (hv : vInv I L R) (x1 x2 x3 x4 : Int32) : qCall l G 26 n_X8_tells [.ref 0, .int x1, .int x2, .int x3, .int x4] 336 I L R (vR3 zUq I L R) := by
  obtain ⟨c1, m1, z1⟩ := zcover (ps := [6442450943, 2147483648, 2147483649, 2147483650, 2147483651, 9223372062624579583]) (by decide +kernel) x1
  obtain ⟨c2, m2, z2⟩ := zcover (ps := [6442450943, 9223372043297226771, 9223372131344056319]) (by decide +kernel) x2
  obtain ⟨c3, m3, z3⟩ := zcover (ps := [6442450943, 9223372043297226757, 9223372071214514175]) (by decide +kernel) x3
  obtain ⟨c4, m4, z4⟩ := zcover (ps := [8589934591]) (by decide +kernel) x4
  obtain ⟨hm | hm, hg⟩ := hv
  · exact vcallT3 (cs_X8_tells 21) (zall_t (zall_t (zall_t (zall_t (kC0_tells) c1 m1) c2 m2) c3 m3) c4 m4) ⟨⟨rfl, rfl⟩, ⟨zg_i z1, ⟨zg_i z2, ⟨zg_i z3, ⟨zg_i z4, trivial⟩⟩⟩⟩⟩ hm hg
  · exact vcallT3 (cs_X8_tells 21) (zall_t (zall_t (zall_t (zall_t (kC1_tells) c1 m1) c2 m2) c3 m3) c4 m4) ⟨⟨rfl, rfl⟩, ⟨zg_i z1, ⟨zg_i z2, ⟨zg_i z3, ⟨zg_i z4, trivial⟩⟩⟩⟩⟩ hm hg
theorem kC0_lend : zall [6442450943, 9223372043297226757, 9223372071214514175] (fun c1 => zall [6442450943, 9223372043297226757, 9223372071214514175] (fun c2 => zall [6442450944, 9223372047592195047, 9223376340412006399] (fun c3 => gs_X8_lend [.inr (.ref 0), .inl c1, .inl c2, .inl c3] 336 zAi0 (kT zUc kV)))) = true := by decide +kernel
theorem kC1_lend : zall [6442450943, 9223372043297226757, 9223372071214514175] (fun c1 => zall [6442450943, 9223372043297226757, 9223372071214514175] (fun c2 => zall [6442450944, 9223372047592195047, 9223376340412006399] (fun c3 => gs_X8_lend [.inr (.ref 0), .inl c1, .inl c2, .inl c3] 336 zAi1 (kT zUc kV)))) = true := by decide +kernel
theorem hC3_lend {l : Launch} {G : qG} {I : qMI} {L : qML} {R : qMR} (hv : vInv I L R) (x1 x2 x3 : Int32) : qCall l G 26 n_X8_lend [.ref 0, .int x1, .int x2, .int x3] 336 I L R (vR3 zUc I L R) := by
  obtain ⟨c1, m1, z1⟩ := zcover (ps := [6442450943, 9223372043297226757, 9223372071214514175]) (by decide +kernel) x1
  obtain ⟨c2, m2, z2⟩ := zcover (ps := [6442450943, 9223372043297226757, 9223372071214514175]) (by decide +kernel) x2
  obtain ⟨c3, m3, z3⟩ := zcover (ps := [6442450944, 9223372047592195047, 9223376340412006399]) (by decide +kernel) x3
  obtain ⟨hm | hm, hg⟩ := hv
  · exact vcallT3 (cs_X8_lend 20) (zall_t (zall_t (zall_t (kC0_lend) c1 m1) c2 m2) c3 m3) ⟨⟨rfl, rfl⟩, ⟨zg_i z1, ⟨zg_i z2, ⟨zg_i z3, trivial⟩⟩⟩⟩ hm hg
  · exact vcallT3 (cs_X8_lend 20) (zall_t (zall_t (zall_t (kC1_lend) c1 m1) c2 m2) c3 m3) ⟨⟨rfl, rfl⟩, ⟨zg_i z1, ⟨zg_i z2, ⟨zg_i z3, trivial⟩⟩⟩⟩ hm hg
theorem kC0_call : zall [6442450943, 9223372043297226757, 9223372071214514175] (fun c1 => zall [6442450943, 9223372043297226757, 9223372071214514175] (fun c2 => gs_X8_call [.inr (.ref 0), .inl c1, .inl c2] 336 zAi0 (kT zUc kV))) = true := by decide +kernel
theorem kC1_call : zall [6442450943, 9223372043297226757, 9223372071214514175] (fun c1 => zall [6442450943, 9223372043297226757, 9223372071214514175] (fun c2 => gs_X8_call [.inr (.ref 0), .inl c1, .inl c2] 336 zAi1 (kT zUc kV))) = true := by decide +kernel
theorem hC3_call {l : Launch} {G : qG} {I : qMI} {L : qML} {R : qMR} (hv : vInv I L R) (x1 x2 : Int32) : qCall l G 26 n_X8_call [.ref 0, .int x1, .int x2] 336 I L R (vR3 zUc I L R) := by
  obtain ⟨c1, m1, z1⟩ := zcover (ps := [6442450943, 9223372043297226757, 9223372071214514175]) (by decide +kernel) x1
  obtain ⟨c2, m2, z2⟩ := zcover (ps := [6442450943, 9223372043297226757, 9223372071214514175]) (by decide +kernel) x2
  obtain ⟨hm | hm, hg⟩ := hv
  · exact vcallT3 (cs_X8_call 20) (zall_t (zall_t (kC0_call) c1 m1) c2 m2) ⟨⟨rfl, rfl⟩, ⟨zg_i z1, ⟨zg_i z2, trivial⟩⟩⟩ hm hg
  · exact vcallT3 (cs_X8_call 20) (zall_t (zall_t (kC1_call) c1 m1) c2 m2) ⟨⟨rfl, rfl⟩, ⟨zg_i z1, ⟨zg_i z2, trivial⟩⟩⟩ hm hg
theorem kC0_move : zall [6442450943, 9223372043297226757, 9223372071214514175] (fun c1 => zall [6442450943, 9223372043297226771, 9223372131344056319] (fun c2 => gs_X8_move [.inr (.ref 0), .inl c1, .inl c2] 336 zAi0 (kT zUc kV))) = true := by decide +kernel
theorem kC1_move : zall [6442450943, 9223372043297226757, 9223372071214514175] (fun c1 => zall [6442450943, 9223372043297226771, 9223372131344056319] (fun c2 => gs_X8_move [.inr (.ref 0), .inl c1, .inl c2] 336 zAi1 (kT zUc kV))) = true := by decide +kernel
theorem hC3_move {l : Launch} {G : qG} {I : qMI} {L : qML} {R : qMR} (hv : vInv I L R) (x1 x2 : Int32) : qCall l G 26 n_X8_move [.ref 0, .int x1, .int x2] 336 I L R (vR3 zUc I L R) := by
  obtain ⟨c1, m1, z1⟩ := zcover (ps := [6442450943, 9223372043297226757, 9223372071214514175]) (by decide +kernel) x1
  obtain ⟨c2, m2, z2⟩ := zcover (ps := [6442450943, 9223372043297226771, 9223372131344056319]) (by decide +kernel) x2
  obtain ⟨hm | hm, hg⟩ := hv
  · exact vcallT3 (cs_X8_move 23) (zall_t (zall_t (kC0_move) c1 m1) c2 m2) ⟨⟨rfl, rfl⟩, ⟨zg_i z1, ⟨zg_i z2, trivial⟩⟩⟩ hm hg
  · exact vcallT3 (cs_X8_move 23) (zall_t (zall_t (kC1_move) c1 m1) c2 m2) ⟨⟨rfl, rfl⟩, ⟨zg_i z1, ⟨zg_i z2, trivial⟩⟩⟩ hm hg
theorem kC0_hours : zall [6442450943, 2147483648, 9223372047592194096, 9223372255898107903] (fun c1 => gs_X8_hours [.inr (.ref 0), .inl c1] 336 zAi0 (kT zUc kV)) = true := by decide +kernel
theorem kC1_hours : zall [6442450943, 2147483648, 9223372047592194096, 9223372255898107903] (fun c1 => gs_X8_hours [.inr (.ref 0), .inl c1] 336 zAi1 (kT zUc kV)) = true := by decide +kernel
theorem hC3_hours {l : Launch} {G : qG} {I : qMI} {L : qML} {R : qMR} (hv : vInv I L R) (x1 : Int32) : qCall l G 26 n_X8_hours [.ref 0, .int x1] 336 I L R (vR3 zUc I L R) := by
  obtain ⟨c1, m1, z1⟩ := zcover (ps := [6442450943, 2147483648, 9223372047592194096, 9223372255898107903]) (by decide +kernel) x1
  obtain ⟨hm | hm, hg⟩ := hv
  · exact vcallT3 (cs_X8_hours 20) (zall_t (kC0_hours) c1 m1) ⟨⟨rfl, rfl⟩, ⟨zg_i z1, trivial⟩⟩ hm hg
  · exact vcallT3 (cs_X8_hours 20) (zall_t (kC1_hours) c1 m1) ⟨⟨rfl, rfl⟩, ⟨zg_i z1, trivial⟩⟩ hm hg
theorem kC0_undo : gs_X8_undo [.inr (.ref 0)] 336 zAi0 (kT zUc kV) = true := by decide +kernel
theorem kC1_undo : gs_X8_undo [.inr (.ref 0)] 336 zAi1 (kT zUc kV) = true := by decide +kernel
theorem hC3_undo {l : Launch} {G : qG} {I : qMI} {L : qML} {R : qMR} (hv : vInv I L R) : qCall l G 26 n_X8_undo [.ref 0] 336 I L R (vR3 zUc I L R) := by
  obtain ⟨hm | hm, hg⟩ := hv
  · exact vcallT3 (cs_X8_undo 23) (kC0_undo) ⟨⟨rfl, rfl⟩, trivial⟩ hm hg
  · exact vcallT3 (cs_X8_undo 23) (kC1_undo) ⟨⟨rfl, rfl⟩, trivial⟩ hm hg
theorem kC0_sight : zall [8589934591] (fun c1 => zall [6442450943, 9223372043297226757, 9223372071214514175] (fun c2 => zall [8589934591] (fun c3 => gs_X8_sight [.inr (.ref 0), .inl c1, .inl c2, .inl c3] 336 zAi0 (kT zUq kV)))) = true := by decide +kernel
theorem kC1_sight : zall [8589934591] (fun c1 => zall [6442450943, 9223372043297226757, 9223372071214514175] (fun c2 => zall [8589934591] (fun c3 => gs_X8_sight [.inr (.ref 0), .inl c1, .inl c2, .inl c3] 336 zAi1 (kT zUq kV)))) = true := by decide +kernel
theorem hC3_sight {l : Launch} {G : qG} {I : qMI} {L : qML} {R : qMR} (hv : vInv I L R) (x1 x2 x3 : Int32) : qCall l G 26 n_X8_sight [.ref 0, .int x1, .int x2, .int x3] 336 I L R (vR3 zUq I L R) := by
  obtain ⟨c1, m1, z1⟩ := zcover (ps := [8589934591]) (by decide +kernel) x1
  obtain ⟨c2, m2, z2⟩ := zcover (ps := [6442450943, 9223372043297226757, 9223372071214514175]) (by decide +kernel) x2
  obtain ⟨c3, m3, z3⟩ := zcover (ps := [8589934591]) (by decide +kernel) x3
  obtain ⟨hm | hm, hg⟩ := hv
  · exact vcallT3 (cs_X8_sight 20) (zall_t (zall_t (zall_t (kC0_sight) c1 m1) c2 m2) c3 m3) ⟨⟨rfl, rfl⟩, ⟨zg_i z1, ⟨zg_i z2, ⟨zg_i z3, trivial⟩⟩⟩⟩ hm hg
  · exact vcallT3 (cs_X8_sight 20) (zall_t (zall_t (zall_t (kC1_sight) c1 m1) c2 m2) c3 m3) ⟨⟨rfl, rfl⟩, ⟨zg_i z1, ⟨zg_i z2, ⟨zg_i z3, trivial⟩⟩⟩⟩ hm hg
theorem kC0_clash : zall [8589934591] (fun c1 => gs_X8_clash [.inr (.ref 0), .inl c1] 336 zAi0 (kT zUq kV)) = true := by decide +kernel
theorem kC1_clash : zall [8589934591] (fun c1 => gs_X8_clash [.inr (.ref 0), .inl c1] 336 zAi1 (kT zUq kV)) = true := by decide +kernel
theorem hC3_clash {l : Launch} {G : qG} {I : qMI} {L : qML} {R : qMR} (hv : vInv I L R) (x1 : Int32) : qCall l G 26 n_X8_clash [.ref 0, .int x1] 336 I L R (vR3 zUq I L R) := by
  obtain ⟨c1, m1, z1⟩ := zcover (ps := [8589934591]) (by decide +kernel) x1
  obtain ⟨hm | hm, hg⟩ := hv
  · exact vcallT3 (cs_X8_clash 19) (zall_t (kC0_clash) c1 m1) ⟨⟨rfl, rfl⟩, ⟨zg_i z1, trivial⟩⟩ hm hg
  · exact vcallT3 (cs_X8_clash 19) (zall_t (kC1_clash) c1 m1) ⟨⟨rfl, rfl⟩, ⟨zg_i z1, trivial⟩⟩ hm hg
theorem kC0_longFrom : zall [8589934591] (fun c1 => zall [6442450943, 9223372043297226757, 9223372071214514175] (fun c2 => zall [6442450944, 9223372047592194096, 9223372255898107903] (fun c3 => gs_X8_longFrom [.inr (.ref 0), .inl c1, .inl c2, .inl c3] 336 zAi0 (kT zUq kV)))) = true := by decide +kernel
theorem kC1_longFrom : zall [8589934591] (fun c1 => zall [6442450943, 9223372043297226757, 9223372071214514175] (fun c2 => zall [6442450944, 9223372047592194096, 9223372255898107903] (fun c3 => gs_X8_longFrom [.inr (.ref 0), .inl c1, .inl c2, .inl c3] 336 zAi1 (kT zUq kV)))) = true := by decide +kernel
theorem hC3_longFrom {l : Launch} {G : qG} {I : qMI} {L : qML} {R : qMR} (hv : vInv I L R) (x1 x2 x3 : Int32) : qCall l G 26 n_X8_longFrom [.ref 0, .int x1, .int x2, .int x3] 336 I L R (vR3 zUq I L R) := by
  obtain ⟨c1, m1, z1⟩ := zcover (ps := [8589934591]) (by decide +kernel) x1
  obtain ⟨c2, m2, z2⟩ := zcover (ps := [6442450943, 9223372043297226757, 9223372071214514175]) (by decide +kernel) x2
  obtain ⟨c3, m3, z3⟩ := zcover (ps := [6442450944, 9223372047592194096, 9223372255898107903]) (by decide +kernel) x3
  obtain ⟨hm | hm, hg⟩ := hv
  · exact vcallT3 (cs_X8_longFrom 21) (zall_t (zall_t (zall_t (kC0_longFrom) c1 m1) c2 m2) c3 m3) ⟨⟨rfl, rfl⟩, ⟨zg_i z1, ⟨zg_i z2, ⟨zg_i z3, trivial⟩⟩⟩⟩ hm hg
  · exact vcallT3 (cs_X8_longFrom 21) (zall_t (zall_t (zall_t (kC1_longFrom) c1 m1) c2 m2) c3 m3) ⟨⟨rfl, rfl⟩, ⟨zg_i z1, ⟨zg_i z2, ⟨zg_i z3, trivial⟩⟩⟩⟩ hm hg
theorem kC0_best : zall [6442450943, 9223372043297226757, 9223372071214514175] (fun c1 => zall [6442450944, 9223372047592194096, 9223372255898107903] (fun c2 => zall [8589934591] (fun c3 => gs_X8_best [.inr (.ref 0), .inl c1, .inl c2, .inl c3] 336 zAi0 (kT zUq kV)))) = true := by decide +kernel
theorem kC1_best : zall [6442450943, 9223372043297226757, 9223372071214514175] (fun c1 => zall [6442450944, 9223372047592194096, 9223372255898107903] (fun c2 => zall [8589934591] (fun c3 => gs_X8_best [.inr (.ref 0), .inl c1, .inl c2, .inl c3] 336 zAi1 (kT zUq kV)))) = true := by decide +kernel
theorem hC3_best {l : Launch} {G : qG} {I : qMI} {L : qML} {R : qMR} (hv : vInv I L R) (x1 x2 x3 : Int32) : qCall l G 26 n_X8_best [.ref 0, .int x1, .int x2, .int x3] 336 I L R (vR3 zUq I L R) := by
  obtain ⟨c1, m1, z1⟩ := zcover (ps := [6442450943, 9223372043297226757, 9223372071214514175]) (by decide +kernel) x1
  obtain ⟨c2, m2, z2⟩ := zcover (ps := [6442450944, 9223372047592194096, 9223372255898107903]) (by decide +kernel) x2
  obtain ⟨c3, m3, z3⟩ := zcover (ps := [8589934591]) (by decide +kernel) x3
  obtain ⟨hm | hm, hg⟩ := hv
  · exact vcallT3 (cs_X8_best 20) (zall_t (zall_t (zall_t (kC0_best) c1 m1) c2 m2) c3 m3) ⟨⟨rfl, rfl⟩, ⟨zg_i z1, ⟨zg_i z2, ⟨zg_i z3, trivial⟩⟩⟩⟩ hm hg
  · exact vcallT3 (cs_X8_best 20) (zall_t (zall_t (zall_t (kC1_best) c1 m1) c2 m2) c3 m3) ⟨⟨rfl, rfl⟩, ⟨zg_i z1, ⟨zg_i z2, ⟨zg_i z3, trivial⟩⟩⟩⟩ hm hg
theorem kC0_dawns : zall [8589934591] (fun c1 => zall [6442450943, 9223372043297226757, 9223372071214514175] (fun c2 => gs_X8_dawns [.inr (.ref 0), .inl c1, .inl c2] 336 zAi0 (kT zUq kV))) = true := by decide +kernel
theorem kC1_dawns : zall [8589934591] (fun c1 => zall [6442450943, 9223372043297226757, 9223372071214514175] (fun c2 => gs_X8_dawns [.inr (.ref 0), .inl c1, .inl c2] 336 zAi1 (kT zUq kV))) = true := by decide +kernel
theorem hC3_dawns {l : Launch} {G : qG} {I : qMI} {L : qML} {R : qMR} (hv : vInv I L R) (x1 x2 : Int32) : qCall l G 26 n_X8_dawns [.ref 0, .int x1, .int x2] 336 I L R (vR3 zUq I L R) := by
  obtain ⟨c1, m1, z1⟩ := zcover (ps := [8589934591]) (by decide +kernel) x1
  obtain ⟨c2, m2, z2⟩ := zcover (ps := [6442450943, 9223372043297226757, 9223372071214514175]) (by decide +kernel) x2
  obtain ⟨hm | hm, hg⟩ := hv
  · exact vcallT3 (cs_X8_dawns 21) (zall_t (zall_t (kC0_dawns) c1 m1) c2 m2) ⟨⟨rfl, rfl⟩, ⟨zg_i z1, ⟨zg_i z2, trivial⟩⟩⟩ hm hg
  · exact vcallT3 (cs_X8_dawns 21) (zall_t (zall_t (kC1_dawns) c1 m1) c2 m2) ⟨⟨rfl, rfl⟩, ⟨zg_i z1, ⟨zg_i z2, trivial⟩⟩⟩ hm hg
theorem kC0_near : zall [8589934591] (fun c1 => zall [8589934591] (fun c2 => gs_X8_near [.inr (.ref 0), .inl c1, .inl c2] 336 zAi0 (kT zUq kV))) = true := by decide +kernel
theorem kC1_near : zall [8589934591] (fun c1 => zall [8589934591] (fun c2 => gs_X8_near [.inr (.ref 0), .inl c1, .inl c2] 336 zAi1 (kT zUq kV))) = true := by decide +kernel
theorem hC3_near {l : Launch} {G : qG} {I : qMI} {L : qML} {R : qMR} (hv : vInv I L R) (x1 x2 : Int32) : qCall l G 26 n_X8_near [.ref 0, .int x1, .int x2] 336 I L R (vR3 zUq I L R) := by
  obtain ⟨c1, m1, z1⟩ := zcover (ps := [8589934591]) (by decide +kernel) x1
  obtain ⟨c2, m2, z2⟩ := zcover (ps := [8589934591]) (by decide +kernel) x2
  obtain ⟨hm | hm, hg⟩ := hv
  · exact vcallT3 (cs_X8_near 20) (zall_t (zall_t (kC0_near) c1 m1) c2 m2) ⟨⟨rfl, rfl⟩, ⟨zg_i z1, ⟨zg_i z2, trivial⟩⟩⟩ hm hg
  · exact vcallT3 (cs_X8_near 20) (zall_t (zall_t (kC1_near) c1 m1) c2 m2) ⟨⟨rfl, rfl⟩, ⟨zg_i z1, ⟨zg_i z2, trivial⟩⟩⟩ hm hg
theorem kC0_crowd : zall [8589934591] (fun c1 => gs_X8_crowd [.inr (.ref 0), .inl c1] 336 zAi0 (kT zUq kV)) = true := by decide +kernel
theorem kC1_crowd : zall [8589934591] (fun c1 => gs_X8_crowd [.inr (.ref 0), .inl c1] 336 zAi1 (kT zUq kV)) = true := by decide +kernel
theorem hC3_crowd {l : Launch} {G : qG} {I : qMI} {L : qML} {R : qMR} (hv : vInv I L R) (x1 : Int32) : qCall l G 26 n_X8_crowd [.ref 0, .int x1] 336 I L R (vR3 zUq I L R) := by
  obtain ⟨c1, m1, z1⟩ := zcover (ps := [8589934591]) (by decide +kernel) x1
  obtain ⟨hm | hm, hg⟩ := hv
  · exact vcallT3 (cs_X8_crowd 20) (zall_t (kC0_crowd) c1 m1) ⟨⟨rfl, rfl⟩, ⟨zg_i z1, trivial⟩⟩ hm hg
  · exact vcallT3 (cs_X8_crowd 20) (zall_t (kC1_crowd) c1 m1) ⟨⟨rfl, rfl⟩, ⟨zg_i z1, trivial⟩⟩ hm hg
theorem kC0_rich : zall [6442450943, 9223372043297226800, 9223372255898107903] (fun c1 => zall [8589934591] (fun c2 => gs_X8_rich [.inr (.ref 0), .inl c1, .inl c2] 336 zAi0 (kT zUq kV))) = true := by decide +kernel
theorem kC1_rich : zall [6442450943, 9223372043297226800, 9223372255898107903] (fun c1 => zall [8589934591] (fun c2 => gs_X8_rich [.inr (.ref 0), .inl c1, .inl c2] 336 zAi1 (kT zUq kV))) = true := by decide +kernel
theorem hC3_rich {l : Launch} {G : qG} {I : qMI} {L : qML} {R : qMR} (hv : vInv I L R) (x1 x2 : Int32) : qCall l G 26 n_X8_rich [.ref 0, .int x1, .int x2] 336 I L R (vR3 zUq I L R) := by
  obtain ⟨c1, m1, z1⟩ := zcover (ps := [6442450943, 9223372043297226800, 9223372255898107903]) (by decide +kernel) x1
  obtain ⟨c2, m2, z2⟩ := zcover (ps := [8589934591]) (by decide +kernel) x2
  obtain ⟨hm | hm, hg⟩ := hv
  · exact vcallT3 (cs_X8_rich 19) (zall_t (zall_t (kC0_rich) c1 m1) c2 m2) ⟨⟨rfl, rfl⟩, ⟨zg_i z1, ⟨zg_i z2, trivial⟩⟩⟩ hm hg
  · exact vcallT3 (cs_X8_rich 19) (zall_t (zall_t (kC1_rich) c1 m1) c2 m2) ⟨⟨rfl, rfl⟩, ⟨zg_i z1, ⟨zg_i z2, trivial⟩⟩⟩ hm hg
theorem kC0_umbrellas : zall [6442450944, 2147483649, 2147483650, 2147483651, 9223372062624579583] (fun c1 => zall [6442450942, 2147483647, 2147483648, 2147483649, 2147483650, 9223372058329612287] (fun c2 => gs_X8_umbrellas [.inr (.ref 0), .inl c1, .inl c2] 336 zAi0 (kT zUq kV))) = true := by decide +kernel
theorem kC1_umbrellas : zall [6442450944, 2147483649, 2147483650, 2147483651, 9223372062624579583] (fun c1 => zall [6442450942, 2147483647, 2147483648, 2147483649, 2147483650, 9223372058329612287] (fun c2 => gs_X8_umbrellas [.inr (.ref 0), .inl c1, .inl c2] 336 zAi1 (kT zUq kV))) = true := by decide +kernel
theorem hC3_umbrellas {l : Launch} {G : qG} {I : qMI} {L : qML} {R : qMR} (hv : vInv I L R) (x1 x2 : Int32) : qCall l G 26 n_X8_umbrellas [.ref 0, .int x1, .int x2] 336 I L R (vR3 zUq I L R) := by
  obtain ⟨c1, m1, z1⟩ := zcover (ps := [6442450944, 2147483649, 2147483650, 2147483651, 9223372062624579583]) (by decide +kernel) x1
  obtain ⟨c2, m2, z2⟩ := zcover (ps := [6442450942, 2147483647, 2147483648, 2147483649, 2147483650, 9223372058329612287]) (by decide +kernel) x2
  obtain ⟨hm | hm, hg⟩ := hv
  · exact vcallT3 (cs_X8_umbrellas 18) (zall_t (zall_t (kC0_umbrellas) c1 m1) c2 m2) ⟨⟨rfl, rfl⟩, ⟨zg_i z1, ⟨zg_i z2, trivial⟩⟩⟩ hm hg
  · exact vcallT3 (cs_X8_umbrellas 18) (zall_t (zall_t (kC1_umbrellas) c1 m1) c2 m2) ⟨⟨rfl, rfl⟩, ⟨zg_i z1, ⟨zg_i z2, trivial⟩⟩⟩ hm hg
theorem kC0_worth : zall [6442450943, 9223372043297226757, 9223372071214514175] (fun c1 => zall [6442450943, 9223372043297226757, 9223372071214514175] (fun c2 => zall [6442450944, 9223372047592195047, 9223376340412006399] (fun c3 => zall [6442450944, 9223372047592194096, 9223372255898107903] (fun c4 => gs_X8_worth [.inr (.ref 0), .inl c1, .inl c2, .inl c3, .inl c4] 336 zAi0 (kT zUq kV))))) = true := by decide +kernel
theorem kC1_worth : zall [6442450943, 9223372043297226757, 9223372071214514175] (fun c1 => zall [6442450943, 9223372043297226757, 9223372071214514175] (fun c2 => zall [6442450944, 9223372047592195047, 9223376340412006399] (fun c3 => zall [6442450944, 9223372047592194096, 9223372255898107903] (fun c4 => gs_X8_worth [.inr (.ref 0), .inl c1, .inl c2, .inl c3, .inl c4] 336 zAi1 (kT zUq kV))))) = true := by decide +kernel
theorem hC3_worth {l : Launch} {G : qG} {I : qMI} {L : qML} {R : qMR} (hv : vInv I L R) (x1 x2 x3 x4 : Int32) : qCall l G 26 n_X8_worth [.ref 0, .int x1, .int x2, .int x3, .int x4] 336 I L R (vR3 zUq I L R) := by
  obtain ⟨c1, m1, z1⟩ := zcover (ps := [6442450943, 9223372043297226757, 9223372071214514175]) (by decide +kernel) x1
  obtain ⟨c2, m2, z2⟩ := zcover (ps := [6442450943, 9223372043297226757, 9223372071214514175]) (by decide +kernel) x2
  obtain ⟨c3, m3, z3⟩ := zcover (ps := [6442450944, 9223372047592195047, 9223376340412006399]) (by decide +kernel) x3
  obtain ⟨c4, m4, z4⟩ := zcover (ps := [6442450944, 9223372047592194096, 9223372255898107903]) (by decide +kernel) x4
  obtain ⟨hm | hm, hg⟩ := hv
  · exact vcallT3 (cs_X8_worth 20) (zall_t (zall_t (zall_t (zall_t (kC0_worth) c1 m1) c2 m2) c3 m3) c4 m4) ⟨⟨rfl, rfl⟩, ⟨zg_i z1, ⟨zg_i z2, ⟨zg_i z3, ⟨zg_i z4, trivial⟩⟩⟩⟩⟩ hm hg
  · exact vcallT3 (cs_X8_worth 20) (zall_t (zall_t (zall_t (zall_t (kC1_worth) c1 m1) c2 m2) c3 m3) c4 m4) ⟨⟨rfl, rfl⟩, ⟨zg_i z1, ⟨zg_i z2, ⟨zg_i z3, ⟨zg_i z4, trivial⟩⟩⟩⟩⟩ hm hg
