section
variable {l : Launch} {G : qG} {gh : zGh}
def q_X9_umbrellas_0 : List (Nat × Nat) := [(292, zk102), (301, zk107), (302, zk111), (303, zk111), (321, zk3), (322, zk116), (323, zk104), (326, zk7), (327, zk123)]
noncomputable def al_X9_umbrellas_0 : zAq := [(some (.inl 8589934591), [(292, zk105), (301, zk107), (302, zk111), (303, zk111), (321, zk4), (322, zk117), (323, zk104), (326, zk9), (327, zk124)])]
def mq_X9_umbrellas_0_1 : List (Nat × Nat) := [(292, zk105), (301, zk107), (302, zk111), (303, zk111), (321, zk4), (322, zk117), (323, zk104), (326, zk9), (327, zk124)]
def mq_X9_umbrellas_0_2 : List (Nat × Nat) := [(292, zk105), (301, zk107), (302, zk111), (303, zk111), (321, zk4), (322, zk117), (323, zk104), (326, zk9), (327, zk124)]
noncomputable def fm_X9_umbrellas_0 : List zFm := [(0, [], (fun vs => [.inr (.ref 292), .inl 2147483649, .inl 9223372039002259458]), (fun vs => zP q_X9_umbrellas_0), (fun vs => Nat.sub (Nat.add 882 0) 0)),
  (4, [(3, 2147483648, 2147483668)], (fun vs => [.inr (.ref 292), .inl 2147483649, .inl 9223372039002259458, .inl (zn 0 vs 0)]), (fun vs => zP mq_X9_umbrellas_0_1), (fun vs => Nat.sub (Nat.add 90194314077 0) (Nat.add 0 (Nat.mul 42 (zn 0 vs 0))))),
  (6, [(3, 2147483648, 2147483667), (4, 2147483649, 2147483669)], (fun vs => [.inr (.ref 292), .inl 2147483649, .inl 9223372039002259458, .inl (zn 0 vs 0), .inl (zn 0 vs 1)]), (fun vs => zP mq_X9_umbrellas_0_2), (fun vs => Nat.sub (Nat.add 92341797725 0) (Nat.add (Nat.add 0 (Nat.mul 42 (zn 0 vs 0))) (Nat.mul 1 (zn 0 vs 1)))))]
def bf_X9_umbrellas_0 : List Nat := [0, 0, 0, 0, 2, 0, 3]
theorem r_X9_umbrellas_0_0 : zbox [] (fun vs => zFrun (zpost (zAlq al_X9_umbrellas_0)) 1000 t_X9_umbrellas fm_X9_umbrellas_0 bf_X9_umbrellas_0 (0, vs)) = true := by decide +kernel
theorem r_X9_umbrellas_0_1 : zbox [(3, 2147483648, 2147483668)] (fun vs => zFrun (zpost (zAlq al_X9_umbrellas_0)) 1000 t_X9_umbrellas fm_X9_umbrellas_0 bf_X9_umbrellas_0 (1, vs)) = true := by decide +kernel
theorem r_X9_umbrellas_0_2 : zbox [(3, 2147483648, 2147483667), (4, 2147483649, 2147483669)] (fun vs => zFrun (zpost (zAlq al_X9_umbrellas_0)) 1000 t_X9_umbrellas fm_X9_umbrellas_0 bf_X9_umbrellas_0 (2, vs)) = true := by decide +kernel
set_option maxRecDepth 100000 in
theorem x_X9_umbrellas_0 (d : Nat) (hG : zGood gh) : zS l G gh (d + 8) (zpost (zAlq al_X9_umbrellas_0)) n_X9_umbrellas (zn 0 p_X9_umbrellas 0) (zwc (0, [.inr (.ref 292), .inl 2147483649, .inl 9223372039002259458], zP q_X9_umbrellas_0) 0) := zentry (tt_X9_umbrellas d hG) fm_X9_umbrellas_0 bf_X9_umbrellas_0 1000 (by decide +kernel) rfl ⟨Nat.zero_lt_succ _, trivial⟩ (fun f hf => match f, hf with
  | 0, _ => fun vs hv => (zbox_t r_X9_umbrellas_0_0) vs hv
  | 1, _ => fun vs hv => (zbox_t r_X9_umbrellas_0_1) vs hv
  | 2, _ => fun vs hv => (zbox_t r_X9_umbrellas_0_2) vs hv
  | f + 3, h => absurd (show f + 3 < 3 from h) (Nat.not_lt.mpr (Nat.le_add_left 3 f)))
noncomputable def gs_X9_umbrellas_0 : zMt := zgq true zUN 6 [.inr (.ref 292), .inl 2147483649, .inl 9223372039002259458] q_X9_umbrellas_0 al_X9_umbrellas_0
set_option maxRecDepth 100000 in
theorem cs_X9_umbrellas_0 (d : Nat) (hG : zGood gh) : zC l G gh (d + 8) n_X9_umbrellas gs_X9_umbrellas_0 := zgq_ok zGood_ok (pcs := p_X9_umbrellas) (by decide) rfl rfl (fun a ha => by simp only [al_X9_umbrellas_0, List.mem_cons, List.not_mem_nil, or_false] at ha; rcases ha with rfl <;> decide +kernel) (fun gh hG => x_X9_umbrellas_0 d hG) (by decide +kernel) hG
def q_X9_umbrellas_1 : List (Nat × Nat) := []
noncomputable def al_X9_umbrellas_1 : zAq := [(some (.inl 2147483647), [])]
noncomputable def fm_X9_umbrellas_1 : List zFm := [(0, [], (fun vs => [.inr (.ref 292), .inl 2147483649, .inl 6442450942]), (fun vs => zP q_X9_umbrellas_1), (fun vs => Nat.sub (Nat.add 0 0) 0))]
def bf_X9_umbrellas_1 : List Nat := []
theorem r_X9_umbrellas_1_0 : zbox [] (fun vs => zFrun (zpost (zAlq al_X9_umbrellas_1)) 1000 t_X9_umbrellas fm_X9_umbrellas_1 bf_X9_umbrellas_1 (0, vs)) = true := by decide +kernel
set_option maxRecDepth 100000 in
theorem x_X9_umbrellas_1 (d : Nat) (hG : zGood gh) : zS l G gh (d + 8) (zpost (zAlq al_X9_umbrellas_1)) n_X9_umbrellas (zn 0 p_X9_umbrellas 0) (zwc (0, [.inr (.ref 292), .inl 2147483649, .inl 6442450942], zP q_X9_umbrellas_1) 0) := zentry (tt_X9_umbrellas d hG) fm_X9_umbrellas_1 bf_X9_umbrellas_1 1000 (by decide +kernel) rfl ⟨Nat.zero_lt_succ _, trivial⟩ (fun f hf => match f, hf with
  | 0, _ => fun vs hv => (zbox_t r_X9_umbrellas_1_0) vs hv
  | f + 1, h => absurd (show f + 1 < 1 from h) (Nat.not_lt.mpr (Nat.le_add_left 1 f)))
noncomputable def gs_X9_umbrellas_1 : zMt := zgq true zUN 6 [.inr (.ref 292), .inl 2147483649, .inl 6442450942] q_X9_umbrellas_1 al_X9_umbrellas_1
set_option maxRecDepth 100000 in
theorem cs_X9_umbrellas_1 (d : Nat) (hG : zGood gh) : zC l G gh (d + 8) n_X9_umbrellas gs_X9_umbrellas_1 := zgq_ok zGood_ok (pcs := p_X9_umbrellas) (by decide) rfl rfl (fun a ha => by simp only [al_X9_umbrellas_1, List.mem_cons, List.not_mem_nil, or_false] at ha; rcases ha with rfl <;> decide +kernel) (fun gh hG => x_X9_umbrellas_1 d hG) (by decide +kernel) hG
end
