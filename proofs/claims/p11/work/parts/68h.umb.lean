section
variable {l : Launch} {G : qG} {gh : zGh}
def q_X9_umbrellas_5 : List (Nat × Nat) := []
noncomputable def al_X9_umbrellas_5 : zAq := [(some (.inl 2147483647), [])]
noncomputable def fm_X9_umbrellas_5 : List zFm := [(0, [], (fun vs => [.inr (.ref 292), .inl 2147483650, .inl 9223372058329612287]), (fun vs => zP q_X9_umbrellas_5), (fun vs => Nat.sub (Nat.add 0 0) 0))]
def bf_X9_umbrellas_5 : List Nat := []
theorem r_X9_umbrellas_5_0 : zbox [] (fun vs => zFrun (zpost (zAlq al_X9_umbrellas_5)) 1000 t_X9_umbrellas fm_X9_umbrellas_5 bf_X9_umbrellas_5 (0, vs)) = true := by decide +kernel
set_option maxRecDepth 100000 in
theorem x_X9_umbrellas_5 (d : Nat) (hG : zGood gh) : zS l G gh (d + 8) (zpost (zAlq al_X9_umbrellas_5)) n_X9_umbrellas (zn 0 p_X9_umbrellas 0) (zwc (0, [.inr (.ref 292), .inl 2147483650, .inl 9223372058329612287], zP q_X9_umbrellas_5) 0) := zentry (tt_X9_umbrellas d hG) fm_X9_umbrellas_5 bf_X9_umbrellas_5 1000 (by decide +kernel) rfl ⟨Nat.zero_lt_succ _, trivial⟩ (fun f hf => match f, hf with
  | 0, _ => fun vs hv => (zbox_t r_X9_umbrellas_5_0) vs hv
  | f + 1, h => absurd (show f + 1 < 1 from h) (Nat.not_lt.mpr (Nat.le_add_left 1 f)))
noncomputable def gs_X9_umbrellas_5 : zMt := zgq true zUN 6 [.inr (.ref 292), .inl 2147483650, .inl 9223372058329612287] q_X9_umbrellas_5 al_X9_umbrellas_5
set_option maxRecDepth 100000 in
theorem cs_X9_umbrellas_5 (d : Nat) (hG : zGood gh) : zC l G gh (d + 8) n_X9_umbrellas gs_X9_umbrellas_5 := zgq_ok zGood_ok (pcs := p_X9_umbrellas) (by decide) rfl rfl (fun a ha => by simp only [al_X9_umbrellas_5, List.mem_cons, List.not_mem_nil, or_false] at ha; rcases ha with rfl <;> decide +kernel) (fun gh hG => x_X9_umbrellas_5 d hG) (by decide +kernel) hG
def q_X9_umbrellas_6 : List (Nat × Nat) := [(292, zk102), (301, zk107), (302, zk111), (303, zk111), (321, zk3), (322, zk116), (323, zk104), (326, zk7), (327, zk123)]
noncomputable def al_X9_umbrellas_6 : zAq := [(some (.inl 8589934591), [(292, zk105), (301, zk107), (302, zk111), (303, zk111), (321, zk4), (322, zk117), (323, zk104), (326, zk9), (327, zk124)])]
def mq_X9_umbrellas_6_1 : List (Nat × Nat) := [(292, zk105), (301, zk107), (302, zk111), (303, zk111), (321, zk4), (322, zk117), (323, zk104), (326, zk9), (327, zk124)]
def mq_X9_umbrellas_6_2 : List (Nat × Nat) := [(292, zk105), (301, zk107), (302, zk111), (303, zk111), (321, zk4), (322, zk117), (323, zk104), (326, zk9), (327, zk124)]
noncomputable def fm_X9_umbrellas_6 : List zFm := [(0, [], (fun vs => [.inr (.ref 292), .inl 2147483651, .inl 9223372039002259458]), (fun vs => zP q_X9_umbrellas_6), (fun vs => Nat.sub (Nat.add 722 0) 0)),
  (4, [(3, 2147483648, 2147483666)], (fun vs => [.inr (.ref 292), .inl 2147483651, .inl 9223372039002259458, .inl (zn 0 vs 0)]), (fun vs => zP mq_X9_umbrellas_6_1), (fun vs => Nat.sub (Nat.add 81604379327 0) (Nat.add 0 (Nat.mul 38 (zn 0 vs 0))))),
  (6, [(3, 2147483648, 2147483665), (4, 2147483649, 2147483667)], (fun vs => [.inr (.ref 292), .inl 2147483651, .inl 9223372039002259458, .inl (zn 0 vs 0), .inl (zn 0 vs 1)]), (fun vs => zP mq_X9_umbrellas_6_2), (fun vs => Nat.sub (Nat.add 83751862975 0) (Nat.add (Nat.add 0 (Nat.mul 38 (zn 0 vs 0))) (Nat.mul 1 (zn 0 vs 1)))))]
def bf_X9_umbrellas_6 : List Nat := [0, 0, 0, 0, 2, 0, 3]
theorem r_X9_umbrellas_6_0 : zbox [] (fun vs => zFrun (zpost (zAlq al_X9_umbrellas_6)) 1000 t_X9_umbrellas fm_X9_umbrellas_6 bf_X9_umbrellas_6 (0, vs)) = true := by decide +kernel
theorem r_X9_umbrellas_6_1 : zbox [(3, 2147483648, 2147483666)] (fun vs => zFrun (zpost (zAlq al_X9_umbrellas_6)) 1000 t_X9_umbrellas fm_X9_umbrellas_6 bf_X9_umbrellas_6 (1, vs)) = true := by decide +kernel
theorem r_X9_umbrellas_6_2_0 : zbox [(3, 2147483648, 2147483654), (4, 2147483649, 2147483667)] (fun vs => zFrun (zpost (zAlq al_X9_umbrellas_6)) 1000 t_X9_umbrellas fm_X9_umbrellas_6 bf_X9_umbrellas_6 (2, vs)) = true := by decide +kernel
theorem r_X9_umbrellas_6_2_1 : zbox [(3, 2147483655, 2147483661), (4, 2147483649, 2147483667)] (fun vs => zFrun (zpost (zAlq al_X9_umbrellas_6)) 1000 t_X9_umbrellas fm_X9_umbrellas_6 bf_X9_umbrellas_6 (2, vs)) = true := by decide +kernel
theorem r_X9_umbrellas_6_2_2 : zbox [(3, 2147483662, 2147483665), (4, 2147483649, 2147483667)] (fun vs => zFrun (zpost (zAlq al_X9_umbrellas_6)) 1000 t_X9_umbrellas fm_X9_umbrellas_6 bf_X9_umbrellas_6 (2, vs)) = true := by decide +kernel
set_option maxRecDepth 100000 in
theorem x_X9_umbrellas_6 (d : Nat) (hG : zGood gh) : zS l G gh (d + 8) (zpost (zAlq al_X9_umbrellas_6)) n_X9_umbrellas (zn 0 p_X9_umbrellas 0) (zwc (0, [.inr (.ref 292), .inl 2147483651, .inl 9223372039002259458], zP q_X9_umbrellas_6) 0) := zentry (tt_X9_umbrellas d hG) fm_X9_umbrellas_6 bf_X9_umbrellas_6 1000 (by decide +kernel) rfl ⟨Nat.zero_lt_succ _, trivial⟩ (fun f hf => match f, hf with
  | 0, _ => fun vs hv => (zbox_t r_X9_umbrellas_6_0) vs hv
  | 1, _ => fun vs hv => (zbox_t r_X9_umbrellas_6_1) vs hv
  | 2, _ => fun vs hv => (zbox_t2 (zbox_t r_X9_umbrellas_6_2_0) (zbox_t2 (zbox_t r_X9_umbrellas_6_2_1) (zbox_t r_X9_umbrellas_6_2_2))) vs hv
  | f + 3, h => absurd (show f + 3 < 3 from h) (Nat.not_lt.mpr (Nat.le_add_left 3 f)))
noncomputable def gs_X9_umbrellas_6 : zMt := zgq true zUN 6 [.inr (.ref 292), .inl 2147483651, .inl 9223372039002259458] q_X9_umbrellas_6 al_X9_umbrellas_6
set_option maxRecDepth 100000 in
theorem cs_X9_umbrellas_6 (d : Nat) (hG : zGood gh) : zC l G gh (d + 8) n_X9_umbrellas gs_X9_umbrellas_6 := zgq_ok zGood_ok (pcs := p_X9_umbrellas) (by decide) rfl rfl (fun a ha => by simp only [al_X9_umbrellas_6, List.mem_cons, List.not_mem_nil, or_false] at ha; rcases ha with rfl <;> decide +kernel) (fun gh hG => x_X9_umbrellas_6 d hG) (by decide +kernel) hG
def q_X9_umbrellas_7 : List (Nat × Nat) := []
noncomputable def al_X9_umbrellas_7 : zAq := [(some (.inl 2147483647), [])]
noncomputable def fm_X9_umbrellas_7 : List zFm := [(0, [], (fun vs => [.inr (.ref 292), .inl 2147483651, .inl 6442450942]), (fun vs => zP q_X9_umbrellas_7), (fun vs => Nat.sub (Nat.add 0 0) 0))]
def bf_X9_umbrellas_7 : List Nat := []
theorem r_X9_umbrellas_7_0 : zbox [] (fun vs => zFrun (zpost (zAlq al_X9_umbrellas_7)) 1000 t_X9_umbrellas fm_X9_umbrellas_7 bf_X9_umbrellas_7 (0, vs)) = true := by decide +kernel
set_option maxRecDepth 100000 in
theorem x_X9_umbrellas_7 (d : Nat) (hG : zGood gh) : zS l G gh (d + 8) (zpost (zAlq al_X9_umbrellas_7)) n_X9_umbrellas (zn 0 p_X9_umbrellas 0) (zwc (0, [.inr (.ref 292), .inl 2147483651, .inl 6442450942], zP q_X9_umbrellas_7) 0) := zentry (tt_X9_umbrellas d hG) fm_X9_umbrellas_7 bf_X9_umbrellas_7 1000 (by decide +kernel) rfl ⟨Nat.zero_lt_succ _, trivial⟩ (fun f hf => match f, hf with
  | 0, _ => fun vs hv => (zbox_t r_X9_umbrellas_7_0) vs hv
  | f + 1, h => absurd (show f + 1 < 1 from h) (Nat.not_lt.mpr (Nat.le_add_left 1 f)))
noncomputable def gs_X9_umbrellas_7 : zMt := zgq true zUN 6 [.inr (.ref 292), .inl 2147483651, .inl 6442450942] q_X9_umbrellas_7 al_X9_umbrellas_7
set_option maxRecDepth 100000 in
theorem cs_X9_umbrellas_7 (d : Nat) (hG : zGood gh) : zC l G gh (d + 8) n_X9_umbrellas gs_X9_umbrellas_7 := zgq_ok zGood_ok (pcs := p_X9_umbrellas) (by decide) rfl rfl (fun a ha => by simp only [al_X9_umbrellas_7, List.mem_cons, List.not_mem_nil, or_false] at ha; rcases ha with rfl <;> decide +kernel) (fun gh hG => x_X9_umbrellas_7 d hG) (by decide +kernel) hG
def q_X9_umbrellas_8 : List (Nat × Nat) := []
noncomputable def al_X9_umbrellas_8 : zAq := [(some (.inl 2147483647), [])]
noncomputable def fm_X9_umbrellas_8 : List zFm := [(0, [], (fun vs => [.inr (.ref 292), .inl 2147483651, .inl 9223372058329612287]), (fun vs => zP q_X9_umbrellas_8), (fun vs => Nat.sub (Nat.add 0 0) 0))]
def bf_X9_umbrellas_8 : List Nat := []
theorem r_X9_umbrellas_8_0 : zbox [] (fun vs => zFrun (zpost (zAlq al_X9_umbrellas_8)) 1000 t_X9_umbrellas fm_X9_umbrellas_8 bf_X9_umbrellas_8 (0, vs)) = true := by decide +kernel
set_option maxRecDepth 100000 in
theorem x_X9_umbrellas_8 (d : Nat) (hG : zGood gh) : zS l G gh (d + 8) (zpost (zAlq al_X9_umbrellas_8)) n_X9_umbrellas (zn 0 p_X9_umbrellas 0) (zwc (0, [.inr (.ref 292), .inl 2147483651, .inl 9223372058329612287], zP q_X9_umbrellas_8) 0) := zentry (tt_X9_umbrellas d hG) fm_X9_umbrellas_8 bf_X9_umbrellas_8 1000 (by decide +kernel) rfl ⟨Nat.zero_lt_succ _, trivial⟩ (fun f hf => match f, hf with
  | 0, _ => fun vs hv => (zbox_t r_X9_umbrellas_8_0) vs hv
  | f + 1, h => absurd (show f + 1 < 1 from h) (Nat.not_lt.mpr (Nat.le_add_left 1 f)))
noncomputable def gs_X9_umbrellas_8 : zMt := zgq true zUN 6 [.inr (.ref 292), .inl 2147483651, .inl 9223372058329612287] q_X9_umbrellas_8 al_X9_umbrellas_8
set_option maxRecDepth 100000 in
theorem cs_X9_umbrellas_8 (d : Nat) (hG : zGood gh) : zC l G gh (d + 8) n_X9_umbrellas gs_X9_umbrellas_8 := zgq_ok zGood_ok (pcs := p_X9_umbrellas) (by decide) rfl rfl (fun a ha => by simp only [al_X9_umbrellas_8, List.mem_cons, List.not_mem_nil, or_false] at ha; rcases ha with rfl <;> decide +kernel) (fun gh hG => x_X9_umbrellas_8 d hG) (by decide +kernel) hG
def q_X9_umbrellas_9 : List (Nat × Nat) := []
noncomputable def al_X9_umbrellas_9 : zAq := [(some (.inl 2147483647), [])]
noncomputable def fm_X9_umbrellas_9 : List zFm := [(0, [], (fun vs => [.inr (.ref 292), .inl 6442450944, .inl 8589934591]), (fun vs => zP q_X9_umbrellas_9), (fun vs => Nat.sub (Nat.add 0 0) 0))]
def bf_X9_umbrellas_9 : List Nat := []
theorem r_X9_umbrellas_9_0 : zbox [] (fun vs => zFrun (zpost (zAlq al_X9_umbrellas_9)) 1000 t_X9_umbrellas fm_X9_umbrellas_9 bf_X9_umbrellas_9 (0, vs)) = true := by decide +kernel
set_option maxRecDepth 100000 in
theorem x_X9_umbrellas_9 (d : Nat) (hG : zGood gh) : zS l G gh (d + 8) (zpost (zAlq al_X9_umbrellas_9)) n_X9_umbrellas (zn 0 p_X9_umbrellas 0) (zwc (0, [.inr (.ref 292), .inl 6442450944, .inl 8589934591], zP q_X9_umbrellas_9) 0) := zentry (tt_X9_umbrellas d hG) fm_X9_umbrellas_9 bf_X9_umbrellas_9 1000 (by decide +kernel) rfl ⟨Nat.zero_lt_succ _, trivial⟩ (fun f hf => match f, hf with
  | 0, _ => fun vs hv => (zbox_t r_X9_umbrellas_9_0) vs hv
  | f + 1, h => absurd (show f + 1 < 1 from h) (Nat.not_lt.mpr (Nat.le_add_left 1 f)))
noncomputable def gs_X9_umbrellas_9 : zMt := zgq true zUN 6 [.inr (.ref 292), .inl 6442450944, .inl 8589934591] q_X9_umbrellas_9 al_X9_umbrellas_9
set_option maxRecDepth 100000 in
theorem cs_X9_umbrellas_9 (d : Nat) (hG : zGood gh) : zC l G gh (d + 8) n_X9_umbrellas gs_X9_umbrellas_9 := zgq_ok zGood_ok (pcs := p_X9_umbrellas) (by decide) rfl rfl (fun a ha => by simp only [al_X9_umbrellas_9, List.mem_cons, List.not_mem_nil, or_false] at ha; rcases ha with rfl <;> decide +kernel) (fun gh hG => x_X9_umbrellas_9 d hG) (by decide +kernel) hG
def q_X9_umbrellas_10 : List (Nat × Nat) := []
noncomputable def al_X9_umbrellas_10 : zAq := [(some (.inl 2147483647), [])]
noncomputable def fm_X9_umbrellas_10 : List zFm := [(0, [], (fun vs => [.inr (.ref 292), .inl 9223372062624579583, .inl 8589934591]), (fun vs => zP q_X9_umbrellas_10), (fun vs => Nat.sub (Nat.add 0 0) 0))]
def bf_X9_umbrellas_10 : List Nat := []
theorem r_X9_umbrellas_10_0 : zbox [] (fun vs => zFrun (zpost (zAlq al_X9_umbrellas_10)) 1000 t_X9_umbrellas fm_X9_umbrellas_10 bf_X9_umbrellas_10 (0, vs)) = true := by decide +kernel
set_option maxRecDepth 100000 in
theorem x_X9_umbrellas_10 (d : Nat) (hG : zGood gh) : zS l G gh (d + 8) (zpost (zAlq al_X9_umbrellas_10)) n_X9_umbrellas (zn 0 p_X9_umbrellas 0) (zwc (0, [.inr (.ref 292), .inl 9223372062624579583, .inl 8589934591], zP q_X9_umbrellas_10) 0) := zentry (tt_X9_umbrellas d hG) fm_X9_umbrellas_10 bf_X9_umbrellas_10 1000 (by decide +kernel) rfl ⟨Nat.zero_lt_succ _, trivial⟩ (fun f hf => match f, hf with
  | 0, _ => fun vs hv => (zbox_t r_X9_umbrellas_10_0) vs hv
  | f + 1, h => absurd (show f + 1 < 1 from h) (Nat.not_lt.mpr (Nat.le_add_left 1 f)))
noncomputable def gs_X9_umbrellas_10 : zMt := zgq true zUN 6 [.inr (.ref 292), .inl 9223372062624579583, .inl 8589934591] q_X9_umbrellas_10 al_X9_umbrellas_10
set_option maxRecDepth 100000 in
theorem cs_X9_umbrellas_10 (d : Nat) (hG : zGood gh) : zC l G gh (d + 8) n_X9_umbrellas gs_X9_umbrellas_10 := zgq_ok zGood_ok (pcs := p_X9_umbrellas) (by decide) rfl rfl (fun a ha => by simp only [al_X9_umbrellas_10, List.mem_cons, List.not_mem_nil, or_false] at ha; rcases ha with rfl <;> decide +kernel) (fun gh hG => x_X9_umbrellas_10 d hG) (by decide +kernel) hG
noncomputable def gs_X9_umbrellas : zMt := (zor gs_X9_umbrellas_0 (zor gs_X9_umbrellas_1 (zor gs_X9_umbrellas_2 (zor gs_X9_umbrellas_3 (zor gs_X9_umbrellas_4 (zor gs_X9_umbrellas_5 (zor gs_X9_umbrellas_6 (zor gs_X9_umbrellas_7 (zor gs_X9_umbrellas_8 (zor gs_X9_umbrellas_9 gs_X9_umbrellas_10))))))))))
theorem cs_X9_umbrellas (d : Nat) (hG : zGood gh) : zC l G gh (d + 8) n_X9_umbrellas gs_X9_umbrellas := (zor_ok (cs_X9_umbrellas_0 d hG) (zor_ok (cs_X9_umbrellas_1 d hG) (zor_ok (cs_X9_umbrellas_2 d hG) (zor_ok (cs_X9_umbrellas_3 d hG) (zor_ok (cs_X9_umbrellas_4 d hG) (zor_ok (cs_X9_umbrellas_5 d hG) (zor_ok (cs_X9_umbrellas_6 d hG) (zor_ok (cs_X9_umbrellas_7 d hG) (zor_ok (cs_X9_umbrellas_8 d hG) (zor_ok (cs_X9_umbrellas_9 d hG) (cs_X9_umbrellas_10 d hG)))))))))))
end
