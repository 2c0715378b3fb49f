section
variable {l : Launch} {G : qG} {gh : zGh}
def q_X8_pitchUmbrellas_2 : List (Nat × Nat) := [(0, zk0), (21, zk10), (255, zk7), (257, zk121), (258, zk125), (259, zk20), (261, zk12), (262, zk12), (265, zk2), (266, zk18), (267, zk18), (268, zk19), (269, zk3), (270, zk7)]
noncomputable def al_X8_pitchUmbrellas_2 : zAq := [(some (.inl 9223372039002259519), [(0, zk0), (21, zk10), (255, zk9), (257, zk122), (258, zk126), (259, zk20), (261, zk12), (262, zk12), (265, zk2), (266, zk18), (267, zk18), (268, zk19), (269, zk4), (270, zk9)])]
def mq_X8_pitchUmbrellas_2_1 : List (Nat × Nat) := [(0, zk0), (21, zk10), (255, zk9), (257, zk121), (258, zk125), (259, zk20), (261, zk12), (262, zk12), (265, zk2), (266, zk18), (267, zk18), (268, zk19), (269, zk4), (270, zk9)]
def mq_X8_pitchUmbrellas_2_2 : List (Nat × Nat) := [(0, zk0), (21, zk10), (255, zk9), (257, zk122), (258, zk125), (259, zk20), (261, zk12), (262, zk12), (265, zk2), (266, zk18), (267, zk18), (268, zk19), (269, zk4), (270, zk9)]
def mq_X8_pitchUmbrellas_2_3 : List (Nat × Nat) := [(0, zk0), (21, zk10), (255, zk9), (257, zk122), (258, zk126), (259, zk20), (261, zk12), (262, zk12), (265, zk2), (266, zk18), (267, zk18), (268, zk19), (269, zk4), (270, zk9)]
noncomputable def fm_X8_pitchUmbrellas_2 : List zFm := [(0, [], (fun vs => [.inr (.ref 0), .inl 2147483651]), (fun vs => zP q_X8_pitchUmbrellas_2), (fun vs => Nat.sub (Nat.add 3423 0) 0)),
  (1, [(3, 2147483648, 2147483668)], (fun vs => [.inr (.ref 0), .inl 2147483651, .inl 9223372043297226851, .inl (zn 0 vs 0)]), (fun vs => zP mq_X8_pitchUmbrellas_2_1), (fun vs => Nat.sub (Nat.add 2147487070 0) (Nat.add 0 (Nat.mul 1 (zn 0 vs 0))))),
  (4, [(3, 2147483648, 2147483651)], (fun vs => [.inr (.ref 0), .inl 2147483651, .inl 9223372043297226851, .inl (zn 0 vs 0)]), (fun vs => zP mq_X8_pitchUmbrellas_2_2), (fun vs => Nat.sub (Nat.add 2147485929 0) (Nat.add 0 (Nat.mul 1 (zn 0 vs 0))))),
  (7, [(5, 2147483648, 2147484788)], (fun vs => [.inr (.ref 0), .inl 2147483651, .inl 9223372043297226851, .inl 9223372039002259519, .inl 9223372043297226753, .inl (zn 0 vs 0)]), (fun vs => zP mq_X8_pitchUmbrellas_2_3), (fun vs => Nat.sub (Nat.add 2147484788 0) (Nat.add 0 (Nat.mul 1 (zn 0 vs 0)))))]
def bf_X8_pitchUmbrellas_2 : List Nat := [0, 2, 0, 0, 3, 0, 0, 4]
theorem r_X8_pitchUmbrellas_2_0 : zbox [] (fun vs => zFrun (zpost (zAlq al_X8_pitchUmbrellas_2)) 1000 t_X8_pitchUmbrellas fm_X8_pitchUmbrellas_2 bf_X8_pitchUmbrellas_2 (0, vs)) = true := by decide +kernel
theorem r_X8_pitchUmbrellas_2_1 : zbox [(3, 2147483648, 2147483668)] (fun vs => zFrun (zpost (zAlq al_X8_pitchUmbrellas_2)) 1000 t_X8_pitchUmbrellas fm_X8_pitchUmbrellas_2 bf_X8_pitchUmbrellas_2 (1, vs)) = true := by decide +kernel
theorem r_X8_pitchUmbrellas_2_2 : zbox [(3, 2147483648, 2147483651)] (fun vs => zFrun (zpost (zAlq al_X8_pitchUmbrellas_2)) 1000 t_X8_pitchUmbrellas fm_X8_pitchUmbrellas_2 bf_X8_pitchUmbrellas_2 (2, vs)) = true := by decide +kernel
theorem r_X8_pitchUmbrellas_2_3_0 : zbox [(5, 2147483648, 2147484480)] (fun vs => zFrun (zpost (zAlq al_X8_pitchUmbrellas_2)) 1000 t_X8_pitchUmbrellas fm_X8_pitchUmbrellas_2 bf_X8_pitchUmbrellas_2 (3, vs)) = true := by decide +kernel
theorem r_X8_pitchUmbrellas_2_3_1 : zbox [(5, 2147484481, 2147484788)] (fun vs => zFrun (zpost (zAlq al_X8_pitchUmbrellas_2)) 1000 t_X8_pitchUmbrellas fm_X8_pitchUmbrellas_2 bf_X8_pitchUmbrellas_2 (3, vs)) = true := by decide +kernel
set_option maxRecDepth 100000 in
theorem x_X8_pitchUmbrellas_2 (d : Nat) : zS l G gh (d + 7) (zpost (zAlq al_X8_pitchUmbrellas_2)) n_X8_pitchUmbrellas (zn 0 p_X8_pitchUmbrellas 0) (zwc (0, [.inr (.ref 0), .inl 2147483651], zP q_X8_pitchUmbrellas_2) 0) := zentry (tt_X8_pitchUmbrellas d) fm_X8_pitchUmbrellas_2 bf_X8_pitchUmbrellas_2 1000 (by decide +kernel) rfl ⟨Nat.zero_lt_succ _, trivial⟩ (fun f hf => match f, hf with
  | 0, _ => fun vs hv => (zbox_t r_X8_pitchUmbrellas_2_0) vs hv
  | 1, _ => fun vs hv => (zbox_t r_X8_pitchUmbrellas_2_1) vs hv
  | 2, _ => fun vs hv => (zbox_t r_X8_pitchUmbrellas_2_2) vs hv
  | 3, _ => fun vs hv => (zbox_t2 (zbox_t r_X8_pitchUmbrellas_2_3_0) (zbox_t r_X8_pitchUmbrellas_2_3_1)) vs hv
  | f + 4, h => absurd (show f + 4 < 4 from h) (Nat.not_lt.mpr (Nat.le_add_left 4 f)))
noncomputable def gs_X8_pitchUmbrellas_2 : zMt := zgq false [] 8 [.inr (.ref 0), .inl 2147483651] q_X8_pitchUmbrellas_2 al_X8_pitchUmbrellas_2
set_option maxRecDepth 100000 in
theorem cs_X8_pitchUmbrellas_2 (d : Nat) : zC l G gh (d + 7) n_X8_pitchUmbrellas gs_X8_pitchUmbrellas_2 := zgq_ok0 (pcs := p_X8_pitchUmbrellas) (by decide) rfl rfl (fun a ha => by simp only [al_X8_pitchUmbrellas_2, List.mem_cons, List.not_mem_nil, or_false] at ha; rcases ha with rfl <;> decide +kernel) (fun gh => x_X8_pitchUmbrellas_2 d) (by decide +kernel)
def q_X8_pitchUmbrellas_3 : List (Nat × Nat) := [(0, zk1), (9, zk21), (11, zk12), (12, zk12), (15, zk5), (16, zk18), (17, zk18), (18, zk19), (19, zk3), (20, zk7), (21, zk10), (255, zk7), (257, zk121), (258, zk125)]
noncomputable def al_X8_pitchUmbrellas_3 : zAq := [(some (.inl 9223372039002259519), [(0, zk1), (9, zk21), (11, zk12), (12, zk12), (15, zk5), (16, zk18), (17, zk18), (18, zk19), (19, zk4), (20, zk9), (21, zk10), (255, zk9), (257, zk122), (258, zk126)])]
def mq_X8_pitchUmbrellas_3_1 : List (Nat × Nat) := [(0, zk1), (9, zk21), (11, zk12), (12, zk12), (15, zk5), (16, zk18), (17, zk18), (18, zk19), (19, zk4), (20, zk9), (21, zk10), (255, zk9), (257, zk121), (258, zk125)]
def mq_X8_pitchUmbrellas_3_2 : List (Nat × Nat) := [(0, zk1), (9, zk21), (11, zk12), (12, zk12), (15, zk5), (16, zk18), (17, zk18), (18, zk19), (19, zk4), (20, zk9), (21, zk10), (255, zk9), (257, zk122), (258, zk125)]
def mq_X8_pitchUmbrellas_3_3 : List (Nat × Nat) := [(0, zk1), (9, zk21), (11, zk12), (12, zk12), (15, zk5), (16, zk18), (17, zk18), (18, zk19), (19, zk4), (20, zk9), (21, zk10), (255, zk9), (257, zk122), (258, zk126)]
noncomputable def fm_X8_pitchUmbrellas_3 : List zFm := [(0, [], (fun vs => [.inr (.ref 0), .inl 2147483649]), (fun vs => zP q_X8_pitchUmbrellas_3), (fun vs => Nat.sub (Nat.add 3423 0) 0)),
  (1, [(3, 2147483648, 2147483668)], (fun vs => [.inr (.ref 0), .inl 2147483649, .inl 9223372043297226851, .inl (zn 0 vs 0)]), (fun vs => zP mq_X8_pitchUmbrellas_3_1), (fun vs => Nat.sub (Nat.add 2147487070 0) (Nat.add 0 (Nat.mul 1 (zn 0 vs 0))))),
  (4, [(3, 2147483648, 2147483649)], (fun vs => [.inr (.ref 0), .inl 2147483649, .inl 9223372043297226851, .inl (zn 0 vs 0)]), (fun vs => zP mq_X8_pitchUmbrellas_3_2), (fun vs => Nat.sub (Nat.add 2147485929 0) (Nat.add 0 (Nat.mul 1 (zn 0 vs 0))))),
  (7, [(5, 2147483648, 2147484788)], (fun vs => [.inr (.ref 0), .inl 2147483649, .inl 9223372043297226851, .inl 9223372039002259519, .inl 9223372043297226753, .inl (zn 0 vs 0)]), (fun vs => zP mq_X8_pitchUmbrellas_3_3), (fun vs => Nat.sub (Nat.add 2147484788 0) (Nat.add 0 (Nat.mul 1 (zn 0 vs 0)))))]
def bf_X8_pitchUmbrellas_3 : List Nat := [0, 2, 0, 0, 3, 0, 0, 4]
theorem r_X8_pitchUmbrellas_3_0 : zbox [] (fun vs => zFrun (zpost (zAlq al_X8_pitchUmbrellas_3)) 1000 t_X8_pitchUmbrellas fm_X8_pitchUmbrellas_3 bf_X8_pitchUmbrellas_3 (0, vs)) = true := by decide +kernel
theorem r_X8_pitchUmbrellas_3_1 : zbox [(3, 2147483648, 2147483668)] (fun vs => zFrun (zpost (zAlq al_X8_pitchUmbrellas_3)) 1000 t_X8_pitchUmbrellas fm_X8_pitchUmbrellas_3 bf_X8_pitchUmbrellas_3 (1, vs)) = true := by decide +kernel
theorem r_X8_pitchUmbrellas_3_2 : zbox [(3, 2147483648, 2147483649)] (fun vs => zFrun (zpost (zAlq al_X8_pitchUmbrellas_3)) 1000 t_X8_pitchUmbrellas fm_X8_pitchUmbrellas_3 bf_X8_pitchUmbrellas_3 (2, vs)) = true := by decide +kernel
theorem r_X8_pitchUmbrellas_3_3_0 : zbox [(5, 2147483648, 2147484630)] (fun vs => zFrun (zpost (zAlq al_X8_pitchUmbrellas_3)) 1000 t_X8_pitchUmbrellas fm_X8_pitchUmbrellas_3 bf_X8_pitchUmbrellas_3 (3, vs)) = true := by decide +kernel
theorem r_X8_pitchUmbrellas_3_3_1 : zbox [(5, 2147484631, 2147484788)] (fun vs => zFrun (zpost (zAlq al_X8_pitchUmbrellas_3)) 1000 t_X8_pitchUmbrellas fm_X8_pitchUmbrellas_3 bf_X8_pitchUmbrellas_3 (3, vs)) = true := by decide +kernel
set_option maxRecDepth 100000 in
theorem x_X8_pitchUmbrellas_3 (d : Nat) : zS l G gh (d + 7) (zpost (zAlq al_X8_pitchUmbrellas_3)) n_X8_pitchUmbrellas (zn 0 p_X8_pitchUmbrellas 0) (zwc (0, [.inr (.ref 0), .inl 2147483649], zP q_X8_pitchUmbrellas_3) 0) := zentry (tt_X8_pitchUmbrellas d) fm_X8_pitchUmbrellas_3 bf_X8_pitchUmbrellas_3 1000 (by decide +kernel) rfl ⟨Nat.zero_lt_succ _, trivial⟩ (fun f hf => match f, hf with
  | 0, _ => fun vs hv => (zbox_t r_X8_pitchUmbrellas_3_0) vs hv
  | 1, _ => fun vs hv => (zbox_t r_X8_pitchUmbrellas_3_1) vs hv
  | 2, _ => fun vs hv => (zbox_t r_X8_pitchUmbrellas_3_2) vs hv
  | 3, _ => fun vs hv => (zbox_t2 (zbox_t r_X8_pitchUmbrellas_3_3_0) (zbox_t r_X8_pitchUmbrellas_3_3_1)) vs hv
  | f + 4, h => absurd (show f + 4 < 4 from h) (Nat.not_lt.mpr (Nat.le_add_left 4 f)))
noncomputable def gs_X8_pitchUmbrellas_3 : zMt := zgq false [] 8 [.inr (.ref 0), .inl 2147483649] q_X8_pitchUmbrellas_3 al_X8_pitchUmbrellas_3
set_option maxRecDepth 100000 in
theorem cs_X8_pitchUmbrellas_3 (d : Nat) : zC l G gh (d + 7) n_X8_pitchUmbrellas gs_X8_pitchUmbrellas_3 := zgq_ok0 (pcs := p_X8_pitchUmbrellas) (by decide) rfl rfl (fun a ha => by simp only [al_X8_pitchUmbrellas_3, List.mem_cons, List.not_mem_nil, or_false] at ha; rcases ha with rfl <;> decide +kernel) (fun gh => x_X8_pitchUmbrellas_3 d) (by decide +kernel)
end
