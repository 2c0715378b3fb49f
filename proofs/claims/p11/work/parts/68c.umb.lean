section
variable {l : Launch} {G : qG} {gh : zGh}
def q_X8_pitchUmbrellas_0 : List (Nat × Nat) := [(0, zk0), (21, zk10), (255, zk7), (257, zk121), (258, zk125), (259, zk20), (261, zk12), (262, zk12), (265, zk2), (266, zk18), (267, zk18), (268, zk19), (269, zk3), (270, zk7)]
noncomputable def al_X8_pitchUmbrellas_0 : zAq := [(some (.inl 9223372039002259519), [(0, zk0), (21, zk10), (255, zk9), (257, zk122), (258, zk126), (259, zk20), (261, zk12), (262, zk12), (265, zk2), (266, zk18), (267, zk18), (268, zk19), (269, zk4), (270, zk9)])]
def mq_X8_pitchUmbrellas_0_1 : List (Nat × Nat) := [(0, zk0), (21, zk10), (255, zk9), (257, zk121), (258, zk125), (259, zk20), (261, zk12), (262, zk12), (265, zk2), (266, zk18), (267, zk18), (268, zk19), (269, zk4), (270, zk9)]
def mq_X8_pitchUmbrellas_0_2 : List (Nat × Nat) := [(0, zk0), (21, zk10), (255, zk9), (257, zk122), (258, zk125), (259, zk20), (261, zk12), (262, zk12), (265, zk2), (266, zk18), (267, zk18), (268, zk19), (269, zk4), (270, zk9)]
def mq_X8_pitchUmbrellas_0_3 : List (Nat × Nat) := [(0, zk0), (21, zk10), (255, zk9), (257, zk122), (258, zk126), (259, zk20), (261, zk12), (262, zk12), (265, zk2), (266, zk18), (267, zk18), (268, zk19), (269, zk4), (270, zk9)]
noncomputable def fm_X8_pitchUmbrellas_0 : List zFm := [(0, [], (fun vs => [.inr (.ref 0), .inl 2147483649]), (fun vs => zP q_X8_pitchUmbrellas_0), (fun vs => Nat.sub (Nat.add 3423 0) 0)),
  (1, [(3, 2147483648, 2147483668)], (fun vs => [.inr (.ref 0), .inl 2147483649, .inl 9223372043297226851, .inl (zn 0 vs 0)]), (fun vs => zP mq_X8_pitchUmbrellas_0_1), (fun vs => Nat.sub (Nat.add 2147487070 0) (Nat.add 0 (Nat.mul 1 (zn 0 vs 0))))),
  (4, [(3, 2147483648, 2147483649)], (fun vs => [.inr (.ref 0), .inl 2147483649, .inl 9223372043297226851, .inl (zn 0 vs 0)]), (fun vs => zP mq_X8_pitchUmbrellas_0_2), (fun vs => Nat.sub (Nat.add 2147485929 0) (Nat.add 0 (Nat.mul 1 (zn 0 vs 0))))),
  (7, [(5, 2147483648, 2147484788)], (fun vs => [.inr (.ref 0), .inl 2147483649, .inl 9223372043297226851, .inl 9223372039002259519, .inl 9223372043297226753, .inl (zn 0 vs 0)]), (fun vs => zP mq_X8_pitchUmbrellas_0_3), (fun vs => Nat.sub (Nat.add 2147484788 0) (Nat.add 0 (Nat.mul 1 (zn 0 vs 0)))))]
def bf_X8_pitchUmbrellas_0 : List Nat := [0, 2, 0, 0, 3, 0, 0, 4]
theorem r_X8_pitchUmbrellas_0_0 : zbox [] (fun vs => zFrun (zpost (zAlq al_X8_pitchUmbrellas_0)) 1000 t_X8_pitchUmbrellas fm_X8_pitchUmbrellas_0 bf_X8_pitchUmbrellas_0 (0, vs)) = true := by decide +kernel
theorem r_X8_pitchUmbrellas_0_1 : zbox [(3, 2147483648, 2147483668)] (fun vs => zFrun (zpost (zAlq al_X8_pitchUmbrellas_0)) 1000 t_X8_pitchUmbrellas fm_X8_pitchUmbrellas_0 bf_X8_pitchUmbrellas_0 (1, vs)) = true := by decide +kernel
theorem r_X8_pitchUmbrellas_0_2 : zbox [(3, 2147483648, 2147483649)] (fun vs => zFrun (zpost (zAlq al_X8_pitchUmbrellas_0)) 1000 t_X8_pitchUmbrellas fm_X8_pitchUmbrellas_0 bf_X8_pitchUmbrellas_0 (2, vs)) = true := by decide +kernel
theorem r_X8_pitchUmbrellas_0_3_0 : zbox [(5, 2147483648, 2147484630)] (fun vs => zFrun (zpost (zAlq al_X8_pitchUmbrellas_0)) 1000 t_X8_pitchUmbrellas fm_X8_pitchUmbrellas_0 bf_X8_pitchUmbrellas_0 (3, vs)) = true := by decide +kernel
theorem r_X8_pitchUmbrellas_0_3_1 : zbox [(5, 2147484631, 2147484788)] (fun vs => zFrun (zpost (zAlq al_X8_pitchUmbrellas_0)) 1000 t_X8_pitchUmbrellas fm_X8_pitchUmbrellas_0 bf_X8_pitchUmbrellas_0 (3, vs)) = true := by decide +kernel
set_option maxRecDepth 100000 in
theorem x_X8_pitchUmbrellas_0 (d : Nat) : zS l G gh (d + 7) (zpost (zAlq al_X8_pitchUmbrellas_0)) n_X8_pitchUmbrellas (zn 0 p_X8_pitchUmbrellas 0) (zwc (0, [.inr (.ref 0), .inl 2147483649], zP q_X8_pitchUmbrellas_0) 0) := zentry (tt_X8_pitchUmbrellas d) fm_X8_pitchUmbrellas_0 bf_X8_pitchUmbrellas_0 1000 (by decide +kernel) rfl ⟨Nat.zero_lt_succ _, trivial⟩ (fun f hf => match f, hf with
  | 0, _ => fun vs hv => (zbox_t r_X8_pitchUmbrellas_0_0) vs hv
  | 1, _ => fun vs hv => (zbox_t r_X8_pitchUmbrellas_0_1) vs hv
  | 2, _ => fun vs hv => (zbox_t r_X8_pitchUmbrellas_0_2) vs hv
  | 3, _ => fun vs hv => (zbox_t2 (zbox_t r_X8_pitchUmbrellas_0_3_0) (zbox_t r_X8_pitchUmbrellas_0_3_1)) vs hv
  | f + 4, h => absurd (show f + 4 < 4 from h) (Nat.not_lt.mpr (Nat.le_add_left 4 f)))
noncomputable def gs_X8_pitchUmbrellas_0 : zMt := zgq false [] 8 [.inr (.ref 0), .inl 2147483649] q_X8_pitchUmbrellas_0 al_X8_pitchUmbrellas_0
set_option maxRecDepth 100000 in
theorem cs_X8_pitchUmbrellas_0 (d : Nat) : zC l G gh (d + 7) n_X8_pitchUmbrellas gs_X8_pitchUmbrellas_0 := zgq_ok0 (pcs := p_X8_pitchUmbrellas) (by decide) rfl rfl (fun a ha => by simp only [al_X8_pitchUmbrellas_0, List.mem_cons, List.not_mem_nil, or_false] at ha; rcases ha with rfl <;> decide +kernel) (fun gh => x_X8_pitchUmbrellas_0 d) (by decide +kernel)
def q_X8_pitchUmbrellas_1 : List (Nat × Nat) := [(0, zk0), (21, zk10), (255, zk7), (257, zk121), (258, zk125), (259, zk20), (261, zk12), (262, zk12), (265, zk2), (266, zk18), (267, zk18), (268, zk19), (269, zk3), (270, zk7)]
noncomputable def al_X8_pitchUmbrellas_1 : zAq := [(some (.inl 9223372039002259519), [(0, zk0), (21, zk10), (255, zk9), (257, zk122), (258, zk126), (259, zk20), (261, zk12), (262, zk12), (265, zk2), (266, zk18), (267, zk18), (268, zk19), (269, zk4), (270, zk9)])]
def mq_X8_pitchUmbrellas_1_1 : List (Nat × Nat) := [(0, zk0), (21, zk10), (255, zk9), (257, zk121), (258, zk125), (259, zk20), (261, zk12), (262, zk12), (265, zk2), (266, zk18), (267, zk18), (268, zk19), (269, zk4), (270, zk9)]
def mq_X8_pitchUmbrellas_1_2 : List (Nat × Nat) := [(0, zk0), (21, zk10), (255, zk9), (257, zk122), (258, zk125), (259, zk20), (261, zk12), (262, zk12), (265, zk2), (266, zk18), (267, zk18), (268, zk19), (269, zk4), (270, zk9)]
def mq_X8_pitchUmbrellas_1_3 : List (Nat × Nat) := [(0, zk0), (21, zk10), (255, zk9), (257, zk122), (258, zk126), (259, zk20), (261, zk12), (262, zk12), (265, zk2), (266, zk18), (267, zk18), (268, zk19), (269, zk4), (270, zk9)]
noncomputable def fm_X8_pitchUmbrellas_1 : List zFm := [(0, [], (fun vs => [.inr (.ref 0), .inl 2147483650]), (fun vs => zP q_X8_pitchUmbrellas_1), (fun vs => Nat.sub (Nat.add 3423 0) 0)),
  (1, [(3, 2147483648, 2147483668)], (fun vs => [.inr (.ref 0), .inl 2147483650, .inl 9223372043297226851, .inl (zn 0 vs 0)]), (fun vs => zP mq_X8_pitchUmbrellas_1_1), (fun vs => Nat.sub (Nat.add 2147487070 0) (Nat.add 0 (Nat.mul 1 (zn 0 vs 0))))),
  (4, [(3, 2147483648, 2147483650)], (fun vs => [.inr (.ref 0), .inl 2147483650, .inl 9223372043297226851, .inl (zn 0 vs 0)]), (fun vs => zP mq_X8_pitchUmbrellas_1_2), (fun vs => Nat.sub (Nat.add 2147485929 0) (Nat.add 0 (Nat.mul 1 (zn 0 vs 0))))),
  (7, [(5, 2147483648, 2147484788)], (fun vs => [.inr (.ref 0), .inl 2147483650, .inl 9223372043297226851, .inl 9223372039002259519, .inl 9223372043297226753, .inl (zn 0 vs 0)]), (fun vs => zP mq_X8_pitchUmbrellas_1_3), (fun vs => Nat.sub (Nat.add 2147484788 0) (Nat.add 0 (Nat.mul 1 (zn 0 vs 0)))))]
def bf_X8_pitchUmbrellas_1 : List Nat := [0, 2, 0, 0, 3, 0, 0, 4]
theorem r_X8_pitchUmbrellas_1_0 : zbox [] (fun vs => zFrun (zpost (zAlq al_X8_pitchUmbrellas_1)) 1000 t_X8_pitchUmbrellas fm_X8_pitchUmbrellas_1 bf_X8_pitchUmbrellas_1 (0, vs)) = true := by decide +kernel
theorem r_X8_pitchUmbrellas_1_1 : zbox [(3, 2147483648, 2147483668)] (fun vs => zFrun (zpost (zAlq al_X8_pitchUmbrellas_1)) 1000 t_X8_pitchUmbrellas fm_X8_pitchUmbrellas_1 bf_X8_pitchUmbrellas_1 (1, vs)) = true := by decide +kernel
theorem r_X8_pitchUmbrellas_1_2 : zbox [(3, 2147483648, 2147483650)] (fun vs => zFrun (zpost (zAlq al_X8_pitchUmbrellas_1)) 1000 t_X8_pitchUmbrellas fm_X8_pitchUmbrellas_1 bf_X8_pitchUmbrellas_1 (2, vs)) = true := by decide +kernel
theorem r_X8_pitchUmbrellas_1_3_0 : zbox [(5, 2147483648, 2147484549)] (fun vs => zFrun (zpost (zAlq al_X8_pitchUmbrellas_1)) 1000 t_X8_pitchUmbrellas fm_X8_pitchUmbrellas_1 bf_X8_pitchUmbrellas_1 (3, vs)) = true := by decide +kernel
theorem r_X8_pitchUmbrellas_1_3_1 : zbox [(5, 2147484550, 2147484788)] (fun vs => zFrun (zpost (zAlq al_X8_pitchUmbrellas_1)) 1000 t_X8_pitchUmbrellas fm_X8_pitchUmbrellas_1 bf_X8_pitchUmbrellas_1 (3, vs)) = true := by decide +kernel
set_option maxRecDepth 100000 in
theorem x_X8_pitchUmbrellas_1 (d : Nat) : zS l G gh (d + 7) (zpost (zAlq al_X8_pitchUmbrellas_1)) n_X8_pitchUmbrellas (zn 0 p_X8_pitchUmbrellas 0) (zwc (0, [.inr (.ref 0), .inl 2147483650], zP q_X8_pitchUmbrellas_1) 0) := zentry (tt_X8_pitchUmbrellas d) fm_X8_pitchUmbrellas_1 bf_X8_pitchUmbrellas_1 1000 (by decide +kernel) rfl ⟨Nat.zero_lt_succ _, trivial⟩ (fun f hf => match f, hf with
  | 0, _ => fun vs hv => (zbox_t r_X8_pitchUmbrellas_1_0) vs hv
  | 1, _ => fun vs hv => (zbox_t r_X8_pitchUmbrellas_1_1) vs hv
  | 2, _ => fun vs hv => (zbox_t r_X8_pitchUmbrellas_1_2) vs hv
  | 3, _ => fun vs hv => (zbox_t2 (zbox_t r_X8_pitchUmbrellas_1_3_0) (zbox_t r_X8_pitchUmbrellas_1_3_1)) vs hv
  | f + 4, h => absurd (show f + 4 < 4 from h) (Nat.not_lt.mpr (Nat.le_add_left 4 f)))
noncomputable def gs_X8_pitchUmbrellas_1 : zMt := zgq false [] 8 [.inr (.ref 0), .inl 2147483650] q_X8_pitchUmbrellas_1 al_X8_pitchUmbrellas_1
set_option maxRecDepth 100000 in
theorem cs_X8_pitchUmbrellas_1 (d : Nat) : zC l G gh (d + 7) n_X8_pitchUmbrellas gs_X8_pitchUmbrellas_1 := zgq_ok0 (pcs := p_X8_pitchUmbrellas) (by decide) rfl rfl (fun a ha => by simp only [al_X8_pitchUmbrellas_1, List.mem_cons, List.not_mem_nil, or_false] at ha; rcases ha with rfl <;> decide +kernel) (fun gh => x_X8_pitchUmbrellas_1 d) (by decide +kernel)
end
