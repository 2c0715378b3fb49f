section
variable {l : Launch} {G : qG} {gh : zGh}
def q_X8_pitchUmbrellas_4 : List (Nat × Nat) := [(0, zk1), (9, zk21), (11, zk12), (12, zk12), (15, zk5), (16, zk18), (17, zk18), (18, zk19), (19, zk3), (20, zk7), (21, zk10), (255, zk7), (257, zk121), (258, zk125)]
noncomputable def al_X8_pitchUmbrellas_4 : zAq := [(some (.inl 9223372039002259519), [(0, zk1), (9, zk21), (11, zk12), (12, zk12), (15, zk5), (16, zk18), (17, zk18), (18, zk19), (19, zk4), (20, zk9), (21, zk10), (255, zk9), (257, zk122), (258, zk126)])]
def mq_X8_pitchUmbrellas_4_1 : List (Nat × Nat) := [(0, zk1), (9, zk21), (11, zk12), (12, zk12), (15, zk5), (16, zk18), (17, zk18), (18, zk19), (19, zk4), (20, zk9), (21, zk10), (255, zk9), (257, zk121), (258, zk125)]
def mq_X8_pitchUmbrellas_4_2 : List (Nat × Nat) := [(0, zk1), (9, zk21), (11, zk12), (12, zk12), (15, zk5), (16, zk18), (17, zk18), (18, zk19), (19, zk4), (20, zk9), (21, zk10), (255, zk9), (257, zk122), (258, zk125)]
def mq_X8_pitchUmbrellas_4_3 : List (Nat × Nat) := [(0, zk1), (9, zk21), (11, zk12), (12, zk12), (15, zk5), (16, zk18), (17, zk18), (18, zk19), (19, zk4), (20, zk9), (21, zk10), (255, zk9), (257, zk122), (258, zk126)]
noncomputable def fm_X8_pitchUmbrellas_4 : List zFm := [(0, [], (fun vs => [.inr (.ref 0), .inl 2147483650]), (fun vs => zP q_X8_pitchUmbrellas_4), (fun vs => Nat.sub (Nat.add 3423 0) 0)),
  (1, [(3, 2147483648, 2147483668)], (fun vs => [.inr (.ref 0), .inl 2147483650, .inl 9223372043297226851, .inl (zn 0 vs 0)]), (fun vs => zP mq_X8_pitchUmbrellas_4_1), (fun vs => Nat.sub (Nat.add 2147487070 0) (Nat.add 0 (Nat.mul 1 (zn 0 vs 0))))),
  (4, [(3, 2147483648, 2147483650)], (fun vs => [.inr (.ref 0), .inl 2147483650, .inl 9223372043297226851, .inl (zn 0 vs 0)]), (fun vs => zP mq_X8_pitchUmbrellas_4_2), (fun vs => Nat.sub (Nat.add 2147485929 0) (Nat.add 0 (Nat.mul 1 (zn 0 vs 0))))),
  (7, [(5, 2147483648, 2147484788)], (fun vs => [.inr (.ref 0), .inl 2147483650, .inl 9223372043297226851, .inl 9223372039002259519, .inl 9223372043297226753, .inl (zn 0 vs 0)]), (fun vs => zP mq_X8_pitchUmbrellas_4_3), (fun vs => Nat.sub (Nat.add 2147484788 0) (Nat.add 0 (Nat.mul 1 (zn 0 vs 0)))))]
def bf_X8_pitchUmbrellas_4 : List Nat := [0, 2, 0, 0, 3, 0, 0, 4]
theorem r_X8_pitchUmbrellas_4_0 : zbox [] (fun vs => zFrun (zpost (zAlq al_X8_pitchUmbrellas_4)) 1000 t_X8_pitchUmbrellas fm_X8_pitchUmbrellas_4 bf_X8_pitchUmbrellas_4 (0, vs)) = true := by decide +kernel
theorem r_X8_pitchUmbrellas_4_1 : zbox [(3, 2147483648, 2147483668)] (fun vs => zFrun (zpost (zAlq al_X8_pitchUmbrellas_4)) 1000 t_X8_pitchUmbrellas fm_X8_pitchUmbrellas_4 bf_X8_pitchUmbrellas_4 (1, vs)) = true := by decide +kernel
theorem r_X8_pitchUmbrellas_4_2 : zbox [(3, 2147483648, 2147483650)] (fun vs => zFrun (zpost (zAlq al_X8_pitchUmbrellas_4)) 1000 t_X8_pitchUmbrellas fm_X8_pitchUmbrellas_4 bf_X8_pitchUmbrellas_4 (2, vs)) = true := by decide +kernel
theorem r_X8_pitchUmbrellas_4_3_0 : zbox [(5, 2147483648, 2147484549)] (fun vs => zFrun (zpost (zAlq al_X8_pitchUmbrellas_4)) 1000 t_X8_pitchUmbrellas fm_X8_pitchUmbrellas_4 bf_X8_pitchUmbrellas_4 (3, vs)) = true := by decide +kernel
theorem r_X8_pitchUmbrellas_4_3_1 : zbox [(5, 2147484550, 2147484788)] (fun vs => zFrun (zpost (zAlq al_X8_pitchUmbrellas_4)) 1000 t_X8_pitchUmbrellas fm_X8_pitchUmbrellas_4 bf_X8_pitchUmbrellas_4 (3, vs)) = true := by decide +kernel
set_option maxRecDepth 100000 in
theorem x_X8_pitchUmbrellas_4 (d : Nat) : zS l G gh (d + 7) (zpost (zAlq al_X8_pitchUmbrellas_4)) n_X8_pitchUmbrellas (zn 0 p_X8_pitchUmbrellas 0) (zwc (0, [.inr (.ref 0), .inl 2147483650], zP q_X8_pitchUmbrellas_4) 0) := zentry (tt_X8_pitchUmbrellas d) fm_X8_pitchUmbrellas_4 bf_X8_pitchUmbrellas_4 1000 (by decide +kernel) rfl ⟨Nat.zero_lt_succ _, trivial⟩ (fun f hf => match f, hf with
  | 0, _ => fun vs hv => (zbox_t r_X8_pitchUmbrellas_4_0) vs hv
  | 1, _ => fun vs hv => (zbox_t r_X8_pitchUmbrellas_4_1) vs hv
  | 2, _ => fun vs hv => (zbox_t r_X8_pitchUmbrellas_4_2) vs hv
  | 3, _ => fun vs hv => (zbox_t2 (zbox_t r_X8_pitchUmbrellas_4_3_0) (zbox_t r_X8_pitchUmbrellas_4_3_1)) vs hv
  | f + 4, h => absurd (show f + 4 < 4 from h) (Nat.not_lt.mpr (Nat.le_add_left 4 f)))
noncomputable def gs_X8_pitchUmbrellas_4 : zMt := zgq false [] 8 [.inr (.ref 0), .inl 2147483650] q_X8_pitchUmbrellas_4 al_X8_pitchUmbrellas_4
set_option maxRecDepth 100000 in
theorem cs_X8_pitchUmbrellas_4 (d : Nat) : zC l G gh (d + 7) n_X8_pitchUmbrellas gs_X8_pitchUmbrellas_4 := zgq_ok0 (pcs := p_X8_pitchUmbrellas) (by decide) rfl rfl (fun a ha => by simp only [al_X8_pitchUmbrellas_4, List.mem_cons, List.not_mem_nil, or_false] at ha; rcases ha with rfl <;> decide +kernel) (fun gh => x_X8_pitchUmbrellas_4 d) (by decide +kernel)
def q_X8_pitchUmbrellas_5 : List (Nat × Nat) := [(0, zk1), (9, zk21), (11, zk12), (12, zk12), (15, zk5), (16, zk18), (17, zk18), (18, zk19), (19, zk3), (20, zk7), (21, zk10), (255, zk7), (257, zk121), (258, zk125)]
noncomputable def al_X8_pitchUmbrellas_5 : zAq := [(some (.inl 9223372039002259519), [(0, zk1), (9, zk21), (11, zk12), (12, zk12), (15, zk5), (16, zk18), (17, zk18), (18, zk19), (19, zk4), (20, zk9), (21, zk10), (255, zk9), (257, zk122), (258, zk126)])]
def mq_X8_pitchUmbrellas_5_1 : List (Nat × Nat) := [(0, zk1), (9, zk21), (11, zk12), (12, zk12), (15, zk5), (16, zk18), (17, zk18), (18, zk19), (19, zk4), (20, zk9), (21, zk10), (255, zk9), (257, zk121), (258, zk125)]
def mq_X8_pitchUmbrellas_5_2 : List (Nat × Nat) := [(0, zk1), (9, zk21), (11, zk12), (12, zk12), (15, zk5), (16, zk18), (17, zk18), (18, zk19), (19, zk4), (20, zk9), (21, zk10), (255, zk9), (257, zk122), (258, zk125)]
def mq_X8_pitchUmbrellas_5_3 : List (Nat × Nat) := [(0, zk1), (9, zk21), (11, zk12), (12, zk12), (15, zk5), (16, zk18), (17, zk18), (18, zk19), (19, zk4), (20, zk9), (21, zk10), (255, zk9), (257, zk122), (258, zk126)]
noncomputable def fm_X8_pitchUmbrellas_5 : List zFm := [(0, [], (fun vs => [.inr (.ref 0), .inl 2147483651]), (fun vs => zP q_X8_pitchUmbrellas_5), (fun vs => Nat.sub (Nat.add 3423 0) 0)),
  (1, [(3, 2147483648, 2147483668)], (fun vs => [.inr (.ref 0), .inl 2147483651, .inl 9223372043297226851, .inl (zn 0 vs 0)]), (fun vs => zP mq_X8_pitchUmbrellas_5_1), (fun vs => Nat.sub (Nat.add 2147487070 0) (Nat.add 0 (Nat.mul 1 (zn 0 vs 0))))),
  (4, [(3, 2147483648, 2147483651)], (fun vs => [.inr (.ref 0), .inl 2147483651, .inl 9223372043297226851, .inl (zn 0 vs 0)]), (fun vs => zP mq_X8_pitchUmbrellas_5_2), (fun vs => Nat.sub (Nat.add 2147485929 0) (Nat.add 0 (Nat.mul 1 (zn 0 vs 0))))),
  (7, [(5, 2147483648, 2147484788)], (fun vs => [.inr (.ref 0), .inl 2147483651, .inl 9223372043297226851, .inl 9223372039002259519, .inl 9223372043297226753, .inl (zn 0 vs 0)]), (fun vs => zP mq_X8_pitchUmbrellas_5_3), (fun vs => Nat.sub (Nat.add 2147484788 0) (Nat.add 0 (Nat.mul 1 (zn 0 vs 0)))))]
def bf_X8_pitchUmbrellas_5 : List Nat := [0, 2, 0, 0, 3, 0, 0, 4]
theorem r_X8_pitchUmbrellas_5_0 : zbox [] (fun vs => zFrun (zpost (zAlq al_X8_pitchUmbrellas_5)) 1000 t_X8_pitchUmbrellas fm_X8_pitchUmbrellas_5 bf_X8_pitchUmbrellas_5 (0, vs)) = true := by decide +kernel
theorem r_X8_pitchUmbrellas_5_1 : zbox [(3, 2147483648, 2147483668)] (fun vs => zFrun (zpost (zAlq al_X8_pitchUmbrellas_5)) 1000 t_X8_pitchUmbrellas fm_X8_pitchUmbrellas_5 bf_X8_pitchUmbrellas_5 (1, vs)) = true := by decide +kernel
theorem r_X8_pitchUmbrellas_5_2 : zbox [(3, 2147483648, 2147483651)] (fun vs => zFrun (zpost (zAlq al_X8_pitchUmbrellas_5)) 1000 t_X8_pitchUmbrellas fm_X8_pitchUmbrellas_5 bf_X8_pitchUmbrellas_5 (2, vs)) = true := by decide +kernel
theorem r_X8_pitchUmbrellas_5_3_0 : zbox [(5, 2147483648, 2147484480)] (fun vs => zFrun (zpost (zAlq al_X8_pitchUmbrellas_5)) 1000 t_X8_pitchUmbrellas fm_X8_pitchUmbrellas_5 bf_X8_pitchUmbrellas_5 (3, vs)) = true := by decide +kernel
theorem r_X8_pitchUmbrellas_5_3_1 : zbox [(5, 2147484481, 2147484788)] (fun vs => zFrun (zpost (zAlq al_X8_pitchUmbrellas_5)) 1000 t_X8_pitchUmbrellas fm_X8_pitchUmbrellas_5 bf_X8_pitchUmbrellas_5 (3, vs)) = true := by decide +kernel
set_option maxRecDepth 100000 in
theorem x_X8_pitchUmbrellas_5 (d : Nat) : zS l G gh (d + 7) (zpost (zAlq al_X8_pitchUmbrellas_5)) n_X8_pitchUmbrellas (zn 0 p_X8_pitchUmbrellas 0) (zwc (0, [.inr (.ref 0), .inl 2147483651], zP q_X8_pitchUmbrellas_5) 0) := zentry (tt_X8_pitchUmbrellas d) fm_X8_pitchUmbrellas_5 bf_X8_pitchUmbrellas_5 1000 (by decide +kernel) rfl ⟨Nat.zero_lt_succ _, trivial⟩ (fun f hf => match f, hf with
  | 0, _ => fun vs hv => (zbox_t r_X8_pitchUmbrellas_5_0) vs hv
  | 1, _ => fun vs hv => (zbox_t r_X8_pitchUmbrellas_5_1) vs hv
  | 2, _ => fun vs hv => (zbox_t r_X8_pitchUmbrellas_5_2) vs hv
  | 3, _ => fun vs hv => (zbox_t2 (zbox_t r_X8_pitchUmbrellas_5_3_0) (zbox_t r_X8_pitchUmbrellas_5_3_1)) vs hv
  | f + 4, h => absurd (show f + 4 < 4 from h) (Nat.not_lt.mpr (Nat.le_add_left 4 f)))
noncomputable def gs_X8_pitchUmbrellas_5 : zMt := zgq false [] 8 [.inr (.ref 0), .inl 2147483651] q_X8_pitchUmbrellas_5 al_X8_pitchUmbrellas_5
set_option maxRecDepth 100000 in
theorem cs_X8_pitchUmbrellas_5 (d : Nat) : zC l G gh (d + 7) n_X8_pitchUmbrellas gs_X8_pitchUmbrellas_5 := zgq_ok0 (pcs := p_X8_pitchUmbrellas) (by decide) rfl rfl (fun a ha => by simp only [al_X8_pitchUmbrellas_5, List.mem_cons, List.not_mem_nil, or_false] at ha; rcases ha with rfl <;> decide +kernel) (fun gh => x_X8_pitchUmbrellas_5 d) (by decide +kernel)
noncomputable def gs_X8_pitchUmbrellas : zMt := (zor gs_X8_pitchUmbrellas_0 (zor gs_X8_pitchUmbrellas_1 (zor gs_X8_pitchUmbrellas_2 (zor gs_X8_pitchUmbrellas_3 (zor gs_X8_pitchUmbrellas_4 gs_X8_pitchUmbrellas_5)))))
theorem cs_X8_pitchUmbrellas (d : Nat) : zC l G gh (d + 7) n_X8_pitchUmbrellas gs_X8_pitchUmbrellas := (zor_ok (cs_X8_pitchUmbrellas_0 d) (zor_ok (cs_X8_pitchUmbrellas_1 d) (zor_ok (cs_X8_pitchUmbrellas_2 d) (zor_ok (cs_X8_pitchUmbrellas_3 d) (zor_ok (cs_X8_pitchUmbrellas_4 d) (cs_X8_pitchUmbrellas_5 d))))))
def p_X9_umbrellas : List Nat := [0, 9, 20, 22, 33, 41, 46, 53, 60, 63, 66, 72, 79, 84, 88, 91, 107, 113, 119, 124, 131, 137]
noncomputable def b_X9_umbrellas_0 : zBl := fun jp K => oIld 1 <| oInt 2147483649 <| oInt 2147483651 <| oCs 3 f_X9_in <| oIf zeq zne (jp 2) (jp 1)
theorem s_X9_umbrellas_0 (d : Nat) (hG : zGood gh) : zPb l G gh (d + 8) n_X9_umbrellas p_X9_umbrellas 0 b_X9_umbrellas_0 := fun K jp hj =>
    z_iload_n (n := 1) (i := 1) (zd (i := .iload_n 1) (n := 1) (by decide +kernel)) rfl <|
    z_iconst (n := 1) (zd (i := .iconst (1)) (n := 1) (by decide +kernel)) (by decide +kernel) <|
    z_iconst (n := 3) (zd (i := .iconst (3)) (n := 1) (by decide +kernel)) (by decide +kernel) <|
    z_callS (idx := 304) (N := n_X9_in) (zd (i := .invokestatic 304) (n := 3) (by decide +kernel)) to_X9_in g1442 g1443 rfl rfl (c_X9_in (l := l) (G := G) (gh := gh) (d + 6)) <|
    z_if_eq (off := 14) (tgt := 20) (zd (i := .ifCond .eq (14)) (n := 3) (by decide +kernel)) (by decide +kernel) (zj (hj 2) (by decide +kernel)) (zj (hj 1) (by decide +kernel))
noncomputable def b_X9_umbrellas_1 : zBl := fun jp K => oIld 2 <| oInt 2147483647 <| oIld 1 <| oInt 2147483649 <| oB2 zsub <| oCs 3 f_X9_in <| oIf zne zeq (jp 3) (jp 2)
theorem s_X9_umbrellas_1 (d : Nat) (hG : zGood gh) : zPb l G gh (d + 8) n_X9_umbrellas p_X9_umbrellas 9 b_X9_umbrellas_1 := fun K jp hj =>
    z_iload_n (n := 2) (i := 2) (zd (i := .iload_n 2) (n := 1) (by decide +kernel)) rfl <|
    z_iconst (n := -1) (zd (i := .iconst (-1)) (n := 1) (by decide +kernel)) (by decide +kernel) <|
    z_iload_n (n := 1) (i := 1) (zd (i := .iload_n 1) (n := 1) (by decide +kernel)) rfl <|
    z_iconst (n := 1) (zd (i := .iconst (1)) (n := 1) (by decide +kernel)) (by decide +kernel) <|
    z_isub (zd (i := .isub) (n := 1) (by decide +kernel)) <|
    z_callS (idx := 304) (N := n_X9_in) (zd (i := .invokestatic 304) (n := 3) (by decide +kernel)) to_X9_in g1442 g1443 rfl rfl (c_X9_in (l := l) (G := G) (gh := gh) (d + 6)) <|
    z_if_ne (off := 5) (tgt := 22) (zd (i := .ifCond .ne (5)) (n := 3) (by decide +kernel)) (by decide +kernel) (zj (hj 3) (by decide +kernel)) (zj (hj 2) (by decide +kernel))
noncomputable def b_X9_umbrellas_2 : zBl := fun jp K => oInt 2147483647 <| oIret K
theorem s_X9_umbrellas_2 (d : Nat) (hG : zGood gh) : zPb l G gh (d + 8) n_X9_umbrellas p_X9_umbrellas 20 b_X9_umbrellas_2 := fun K jp hj =>
    z_iconst (n := -1) (zd (i := .iconst (-1)) (n := 1) (by decide +kernel)) (by decide +kernel) <|
    z_iret (zd (i := .ireturn) (n := 1) (by decide +kernel)) rfl
noncomputable def b_X9_umbrellas_3 : zBl := fun jp K => oAld 0 <| oCv 9 0 gs_X9_fillsSeen <| oAld 0 <| oInt 2147483647 <| oPutI 9 55 <| oInt 2147483648 <| oIst 3 <| jp 4
theorem s_X9_umbrellas_3 (d : Nat) (hG : zGood gh) : zPb l G gh (d + 8) n_X9_umbrellas p_X9_umbrellas 22 b_X9_umbrellas_3 := fun K jp hj =>
    z_aload_n (n := 0) (i := 0) (zd (i := .aload_n 0) (n := 1) (by decide +kernel)) rfl <|
    z_callV (idx := 418) (ci := 9) (N := n_X9_fillsSeen) (zd (i := .invokevirtual 418) (n := 3) (by decide +kernel)) to_X9_fillsSeen g1625 g1627 g91 (by decide +kernel) rfl rfl rfl (cs_X9_fillsSeen (l := l) (G := G) (gh := gh) (d) hG) <|
    z_aload_n (n := 0) (i := 0) (zd (i := .aload_n 0) (n := 1) (by decide +kernel)) rfl <|
    z_iconst (n := -1) (zd (i := .iconst (-1)) (n := 1) (by decide +kernel)) (by decide +kernel) <|
    z_putI (ci := 9) (j := 55) (idx := 415) (zd (i := .putfield 415) (n := 3) (by decide +kernel)) (by decide +kernel) (by decide +kernel) rfl g1183 (Or.inl rfl) <|
    z_iconst (n := 0) (zd (i := .iconst (0)) (n := 1) (by decide +kernel)) (by decide +kernel) <|
    z_istore_n (n := 3) (i := 3) (zd (i := .istore_n 3) (n := 1) (by decide +kernel)) rfl (by decide +kernel) <|
    (zj (hj 4) (by decide +kernel))
noncomputable def b_X9_umbrellas_4 : zBl := fun jp K => oIld 3 <| oInt 2147483668 <| oIld 1 <| oB2 zsub <| oIc zgt zle (jp 18) (jp 5)
theorem s_X9_umbrellas_4 (d : Nat) (hG : zGood gh) : zPb l G gh (d + 8) n_X9_umbrellas p_X9_umbrellas 33 b_X9_umbrellas_4 := fun K jp hj =>
    z_iload_n (n := 3) (i := 3) (zd (i := .iload_n 3) (n := 1) (by decide +kernel)) rfl <|
    z_bipush (n := 20) (zd (i := .bipush (20)) (n := 2) (by decide +kernel)) (by decide +kernel) <|
    z_iload_n (n := 1) (i := 1) (zd (i := .iload_n 1) (n := 1) (by decide +kernel)) rfl <|
    z_isub (zd (i := .isub) (n := 1) (by decide +kernel)) <|
    z_icmp_gt (off := 81) (tgt := 119) (zd (i := .if_icmp .gt (81)) (n := 3) (by decide +kernel)) (by decide +kernel) (zj (hj 18) (by decide +kernel)) (zj (hj 5) (by decide +kernel))
noncomputable def b_X9_umbrellas_5 : zBl := fun jp K => oIld 3 <| oInt 2147483649 <| oB2 zadd <| oIst 4 <| jp 6
theorem s_X9_umbrellas_5 (d : Nat) (hG : zGood gh) : zPb l G gh (d + 8) n_X9_umbrellas p_X9_umbrellas 41 b_X9_umbrellas_5 := fun K jp hj =>
    z_iload_n (n := 3) (i := 3) (zd (i := .iload_n 3) (n := 1) (by decide +kernel)) rfl <|
    z_iconst (n := 1) (zd (i := .iconst (1)) (n := 1) (by decide +kernel)) (by decide +kernel) <|
    z_iadd (zd (i := .iadd) (n := 1) (by decide +kernel)) <|
    z_istore (i := 4) (zd (i := .istore 4) (n := 2) (by decide +kernel)) (by decide +kernel) <|
    (zj (hj 6) (by decide +kernel))
noncomputable def b_X9_umbrellas_6 : zBl := fun jp K => oIld 4 <| oNLC 1 2147483649 zleN zgtN zn1_le zn1_gt (jp 8) (jp 7)
theorem s_X9_umbrellas_6 (d : Nat) (hG : zGood gh) : zPb l G gh (d + 8) n_X9_umbrellas p_X9_umbrellas 46 b_X9_umbrellas_6 := fun K jp hj =>
    z_iload (i := 4) (zd (i := .iload 4) (n := 2) (by decide +kernel)) <|
    z_nLC_le (i := 1) (c0 := 2147483649) (a1 := 1) (a2 := 1) (off := 10) (tgt := 60) (zLd_n (n := 1) (i := 1) (zd (i := .iload_n 1) (n := 1) (by decide +kernel)) rfl) (zCn_c (n := 1) (zd (i := .iconst (1)) (n := 1) (by decide +kernel)) (by decide +kernel)) (zd (i := .if_icmp .le (10)) (n := 3) (by decide +kernel)) (by decide +kernel) (zj (hj 8) (by decide +kernel)) (zj (hj 7) (by decide +kernel))
noncomputable def b_X9_umbrellas_7 : zBl := fun jp K => oInt 2147483669 <| oIld 1 <| oB2 zsub <| jp 9
theorem s_X9_umbrellas_7 (d : Nat) (hG : zGood gh) : zPb l G gh (d + 8) n_X9_umbrellas p_X9_umbrellas 53 b_X9_umbrellas_7 := fun K jp hj =>
    z_bipush (n := 21) (zd (i := .bipush (21)) (n := 2) (by decide +kernel)) (by decide +kernel) <|
    z_iload_n (n := 1) (i := 1) (zd (i := .iload_n 1) (n := 1) (by decide +kernel)) rfl <|
    z_isub (zd (i := .isub) (n := 1) (by decide +kernel)) <|
    z_goto (off := 6) (tgt := 63) (zd (i := .goto (6)) (n := 3) (by decide +kernel)) (by decide +kernel) (zj (hj 9) (by decide +kernel))
noncomputable def b_X9_umbrellas_8 : zBl := fun jp K => oIld 3 <| oInt 2147483649 <| oB2 zadd <| jp 9
theorem s_X9_umbrellas_8 (d : Nat) (hG : zGood gh) : zPb l G gh (d + 8) n_X9_umbrellas p_X9_umbrellas 60 b_X9_umbrellas_8 := fun K jp hj =>
    z_iload_n (n := 3) (i := 3) (zd (i := .iload_n 3) (n := 1) (by decide +kernel)) rfl <|
    z_iconst (n := 1) (zd (i := .iconst (1)) (n := 1) (by decide +kernel)) (by decide +kernel) <|
    z_iadd (zd (i := .iadd) (n := 1) (by decide +kernel)) <|
    (zj (hj 9) (by decide +kernel))
noncomputable def b_X9_umbrellas_9 : zBl := fun jp K => oIc zgt zle (jp 17) (jp 10)
theorem s_X9_umbrellas_9 (d : Nat) (hG : zGood gh) : zPb l G gh (d + 8) n_X9_umbrellas p_X9_umbrellas 63 b_X9_umbrellas_9 := fun K jp hj =>
    z_icmp_gt (off := 50) (tgt := 113) (zd (i := .if_icmp .gt (50)) (n := 3) (by decide +kernel)) (by decide +kernel) (zj (hj 17) (by decide +kernel)) (zj (hj 10) (by decide +kernel))
noncomputable def b_X9_umbrellas_10 : zBl := fun jp K => oIld 4 <| oInt 2147483649 <| oB2 zadd <| oIst 5 <| jp 11
theorem s_X9_umbrellas_10 (d : Nat) (hG : zGood gh) : zPb l G gh (d + 8) n_X9_umbrellas p_X9_umbrellas 66 b_X9_umbrellas_10 := fun K jp hj =>
    z_iload (i := 4) (zd (i := .iload 4) (n := 2) (by decide +kernel)) <|
    z_iconst (n := 1) (zd (i := .iconst (1)) (n := 1) (by decide +kernel)) (by decide +kernel) <|
    z_iadd (zd (i := .iadd) (n := 1) (by decide +kernel)) <|
    z_istore (i := 5) (zd (i := .istore 5) (n := 2) (by decide +kernel)) (by decide +kernel) <|
    (zj (hj 11) (by decide +kernel))
noncomputable def b_X9_umbrellas_11 : zBl := fun jp K => oIld 5 <| oNLC 1 2147483650 zleN zgtN zn1_le zn1_gt (jp 13) (jp 12)
theorem s_X9_umbrellas_11 (d : Nat) (hG : zGood gh) : zPb l G gh (d + 8) n_X9_umbrellas p_X9_umbrellas 72 b_X9_umbrellas_11 := fun K jp hj =>
    z_iload (i := 5) (zd (i := .iload 5) (n := 2) (by decide +kernel)) <|
    z_nLC_le (i := 1) (c0 := 2147483650) (a1 := 1) (a2 := 1) (off := 8) (tgt := 84) (zLd_n (n := 1) (i := 1) (zd (i := .iload_n 1) (n := 1) (by decide +kernel)) rfl) (zCn_c (n := 2) (zd (i := .iconst (2)) (n := 1) (by decide +kernel)) (by decide +kernel)) (zd (i := .if_icmp .le (8)) (n := 3) (by decide +kernel)) (by decide +kernel) (zj (hj 13) (by decide +kernel)) (zj (hj 12) (by decide +kernel))
noncomputable def b_X9_umbrellas_12 : zBl := fun jp K => oInt 2147483667 <| jp 14
theorem s_X9_umbrellas_12 (d : Nat) (hG : zGood gh) : zPb l G gh (d + 8) n_X9_umbrellas p_X9_umbrellas 79 b_X9_umbrellas_12 := fun K jp hj =>
    z_bipush (n := 19) (zd (i := .bipush (19)) (n := 2) (by decide +kernel)) (by decide +kernel) <|
    z_goto (off := 7) (tgt := 88) (zd (i := .goto (7)) (n := 3) (by decide +kernel)) (by decide +kernel) (zj (hj 14) (by decide +kernel))
noncomputable def b_X9_umbrellas_13 : zBl := fun jp K => oIld 4 <| oInt 2147483649 <| oB2 zadd <| jp 14
theorem s_X9_umbrellas_13 (d : Nat) (hG : zGood gh) : zPb l G gh (d + 8) n_X9_umbrellas p_X9_umbrellas 84 b_X9_umbrellas_13 := fun K jp hj =>
    z_iload (i := 4) (zd (i := .iload 4) (n := 2) (by decide +kernel)) <|
    z_iconst (n := 1) (zd (i := .iconst (1)) (n := 1) (by decide +kernel)) (by decide +kernel) <|
    z_iadd (zd (i := .iadd) (n := 1) (by decide +kernel)) <|
    (zj (hj 14) (by decide +kernel))
noncomputable def b_X9_umbrellas_14 : zBl := fun jp K => oIc zgt zle (jp 16) (jp 15)
theorem s_X9_umbrellas_14 (d : Nat) (hG : zGood gh) : zPb l G gh (d + 8) n_X9_umbrellas p_X9_umbrellas 88 b_X9_umbrellas_14 := fun K jp hj =>
    z_icmp_gt (off := 19) (tgt := 107) (zd (i := .if_icmp .gt (19)) (n := 3) (by decide +kernel)) (by decide +kernel) (zj (hj 16) (by decide +kernel)) (zj (hj 15) (by decide +kernel))
noncomputable def b_X9_umbrellas_15 : zBl := fun jp K => oAld 0 <| oIld 1 <| oIld 3 <| oIld 4 <| oIld 5 <| oCv 9 4 gs_X9_tries <| oInc 5 2147483649 <| jp 11
theorem s_X9_umbrellas_15 (d : Nat) (hG : zGood gh) : zPb l G gh (d + 8) n_X9_umbrellas p_X9_umbrellas 91 b_X9_umbrellas_15 := fun K jp hj =>
    z_aload_n (n := 0) (i := 0) (zd (i := .aload_n 0) (n := 1) (by decide +kernel)) rfl <|
    z_iload_n (n := 1) (i := 1) (zd (i := .iload_n 1) (n := 1) (by decide +kernel)) rfl <|
    z_iload_n (n := 3) (i := 3) (zd (i := .iload_n 3) (n := 1) (by decide +kernel)) rfl <|
    z_iload (i := 4) (zd (i := .iload 4) (n := 2) (by decide +kernel)) <|
    z_iload (i := 5) (zd (i := .iload 5) (n := 2) (by decide +kernel)) <|
    z_callV (idx := 421) (ci := 9) (N := n_X9_tries) (zd (i := .invokevirtual 421) (n := 3) (by decide +kernel)) to_X9_tries g1629 g1631 g92 (by decide +kernel) rfl rfl rfl (cs_X9_tries (l := l) (G := G) (gh := gh) (d + 5)) <|
    z_iinc (i := 5) (n := 1) (zd (i := .iinc 5 (1)) (n := 3) (by decide +kernel)) (by decide +kernel) (by decide +kernel) <|
    z_goto (off := -32) (tgt := 72) (zd (i := .goto (-32)) (n := 3) (by decide +kernel)) (by decide +kernel) (zj (hj 11) (by decide +kernel))
noncomputable def b_X9_umbrellas_16 : zBl := fun jp K => oInc 4 2147483649 <| jp 6
theorem s_X9_umbrellas_16 (d : Nat) (hG : zGood gh) : zPb l G gh (d + 8) n_X9_umbrellas p_X9_umbrellas 107 b_X9_umbrellas_16 := fun K jp hj =>
    z_iinc (i := 4) (n := 1) (zd (i := .iinc 4 (1)) (n := 3) (by decide +kernel)) (by decide +kernel) (by decide +kernel) <|
    z_goto (off := -64) (tgt := 46) (zd (i := .goto (-64)) (n := 3) (by decide +kernel)) (by decide +kernel) (zj (hj 6) (by decide +kernel))
noncomputable def b_X9_umbrellas_17 : zBl := fun jp K => oInc 3 2147483649 <| jp 4
theorem s_X9_umbrellas_17 (d : Nat) (hG : zGood gh) : zPb l G gh (d + 8) n_X9_umbrellas p_X9_umbrellas 113 b_X9_umbrellas_17 := fun K jp hj =>
    z_iinc (i := 3) (n := 1) (zd (i := .iinc 3 (1)) (n := 3) (by decide +kernel)) (by decide +kernel) (by decide +kernel) <|
    z_goto (off := -83) (tgt := 33) (zd (i := .goto (-83)) (n := 3) (by decide +kernel)) (by decide +kernel) (zj (hj 4) (by decide +kernel))
noncomputable def b_X9_umbrellas_18 : zBl := fun jp K => oNLC 2 2147483647 zneN zeqN zn1_ne zn1_eq (jp 20) (jp 19)
theorem s_X9_umbrellas_18 (d : Nat) (hG : zGood gh) : zPb l G gh (d + 8) n_X9_umbrellas p_X9_umbrellas 119 b_X9_umbrellas_18 := fun K jp hj =>
    z_nLC_ne (i := 2) (c0 := 2147483647) (a1 := 1) (a2 := 1) (off := 10) (tgt := 131) (zLd_n (n := 2) (i := 2) (zd (i := .iload_n 2) (n := 1) (by decide +kernel)) rfl) (zCn_c (n := -1) (zd (i := .iconst (-1)) (n := 1) (by decide +kernel)) (by decide +kernel)) (zd (i := .if_icmp .ne (10)) (n := 3) (by decide +kernel)) (by decide +kernel) (zj (hj 20) (by decide +kernel)) (zj (hj 19) (by decide +kernel))
noncomputable def b_X9_umbrellas_19 : zBl := fun jp K => oAld 0 <| oGetI 9 55 <| jp 21
theorem s_X9_umbrellas_19 (d : Nat) (hG : zGood gh) : zPb l G gh (d + 8) n_X9_umbrellas p_X9_umbrellas 124 b_X9_umbrellas_19 := fun K jp hj =>
    z_aload_n (n := 0) (i := 0) (zd (i := .aload_n 0) (n := 1) (by decide +kernel)) rfl <|
    z_getI (ci := 9) (j := 55) (idx := 415) (zd (i := .getfield 415) (n := 3) (by decide +kernel)) (by decide +kernel) (by decide +kernel) rfl g1183 <|
    z_goto (off := 9) (tgt := 137) (zd (i := .goto (9)) (n := 3) (by decide +kernel)) (by decide +kernel) (zj (hj 21) (by decide +kernel))
noncomputable def b_X9_umbrellas_20 : zBl := fun jp K => oAld 0 <| oGetR 9 54 <| oIld 2 <| oXald 10 <| jp 21
theorem s_X9_umbrellas_20 (d : Nat) (hG : zGood gh) : zPb l G gh (d + 8) n_X9_umbrellas p_X9_umbrellas 131 b_X9_umbrellas_20 := fun K jp hj =>
    z_aload_n (n := 0) (i := 0) (zd (i := .aload_n 0) (n := 1) (by decide +kernel)) rfl <|
    z_getR (ci := 9) (j := 54) (idx := 122) (zd (i := .getfield 122) (n := 3) (by decide +kernel)) (by decide +kernel) (by decide +kernel) rfl g1182 <|
    z_iload_n (n := 2) (i := 2) (zd (i := .iload_n 2) (n := 1) (by decide +kernel)) rfl <|
    z_iald (zd (i := .iaload) (n := 1) (by decide +kernel)) <|
    (zj (hj 21) (by decide +kernel))
noncomputable def b_X9_umbrellas_21 : zBl := fun jp K => oIret K
theorem s_X9_umbrellas_21 (d : Nat) (hG : zGood gh) : zPb l G gh (d + 8) n_X9_umbrellas p_X9_umbrellas 137 b_X9_umbrellas_21 := fun K jp hj =>
    z_iret (zd (i := .ireturn) (n := 1) (by decide +kernel)) rfl
noncomputable def t_X9_umbrellas : List zBl := [b_X9_umbrellas_0, b_X9_umbrellas_1, b_X9_umbrellas_2, b_X9_umbrellas_3, b_X9_umbrellas_4, b_X9_umbrellas_5, b_X9_umbrellas_6, b_X9_umbrellas_7, b_X9_umbrellas_8, b_X9_umbrellas_9, b_X9_umbrellas_10, b_X9_umbrellas_11, b_X9_umbrellas_12, b_X9_umbrellas_13, b_X9_umbrellas_14, b_X9_umbrellas_15, b_X9_umbrellas_16, b_X9_umbrellas_17, b_X9_umbrellas_18, b_X9_umbrellas_19, b_X9_umbrellas_20, b_X9_umbrellas_21]
theorem tt_X9_umbrellas (d : Nat) (hG : zGood gh) : zT (zPb l G gh (d + 8) n_X9_umbrellas p_X9_umbrellas) t_X9_umbrellas p_X9_umbrellas := ⟨s_X9_umbrellas_0 d hG, s_X9_umbrellas_1 d hG, s_X9_umbrellas_2 d hG, s_X9_umbrellas_3 d hG, s_X9_umbrellas_4 d hG, s_X9_umbrellas_5 d hG, s_X9_umbrellas_6 d hG, s_X9_umbrellas_7 d hG, s_X9_umbrellas_8 d hG, s_X9_umbrellas_9 d hG, s_X9_umbrellas_10 d hG, s_X9_umbrellas_11 d hG, s_X9_umbrellas_12 d hG, s_X9_umbrellas_13 d hG, s_X9_umbrellas_14 d hG, s_X9_umbrellas_15 d hG, s_X9_umbrellas_16 d hG, s_X9_umbrellas_17 d hG, s_X9_umbrellas_18 d hG, s_X9_umbrellas_19 d hG, s_X9_umbrellas_20 d hG, s_X9_umbrellas_21 d hG, trivial⟩
end
