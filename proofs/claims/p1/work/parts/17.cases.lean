/-! ===== one call on the objects as they are made: what both answer ===== -/
noncomputable def zall (ps : List Nat) (f : Nat → Bool) : Bool := List.rec (motive := fun _ => Bool) true (fun c _ ih => bif f c then ih else false) ps
theorem zall_t {f : Nat → Bool} : ∀ {ps : List Nat}, zall ps f = true → ∀ c ∈ ps, f c = true
  | [], _, _, h => by cases h
  | x :: ps, h, c, hc => by
    have h : (bif f x then zall ps f else false) = true := h
    obtain ⟨h1, h2⟩ := zand h
    rcases List.mem_cons.mp hc with rfl | hc
    · exact h1
    · exact zall_t h2 c hc
theorem zall_app {f : Nat → Bool} {ps qs : List Nat} (h1 : zall ps f = true) (h2 : zall qs f = true) : ∀ c ∈ ps ++ qs, f c = true := fun c hc => (List.mem_append.mp hc).elim (zall_t h1 c) (zall_t h2 c)
/-- pieces that leave nothing out, from a bound on -/
noncomputable def zcov (ps : List Nat) (n : Nat) : Bool := List.rec (motive := fun _ => Nat → Bool) (fun n => Nat.ble 4294967296 n) (fun c _ ih n => bif Nat.beq (zlo c) n then ih (Nat.succ (zhi c)) else false) ps n
theorem zcov_t : ∀ {ps : List Nat} {n : Nat} {x : Int32}, zcov ps n = true → n ≤ zb x → ∃ c ∈ ps, zin c x
  | [], n, x, h, hx => by
    have h1 := Nat.le_of_ble_eq_true (show Nat.ble 4294967296 n = true from h)
    have := zb_lt x
    omega
  | c :: ps, n, x, h, hx => by
    have h : (bif Nat.beq (zlo c) n then zcov ps (Nat.succ (zhi c)) else false) = true := h
    obtain ⟨h1, h2⟩ := zand h
    have e := Nat.eq_of_beq_eq_true h1
    by_cases hc : zb x ≤ zhi c
    · exact ⟨c, List.mem_cons_self, by rw [e]; exact hx, hc⟩
    · obtain ⟨c', m, z⟩ := zcov_t h2 (x := x) (by omega)
      exact ⟨c', List.mem_cons_of_mem _ m, z⟩
theorem zcover {ps : List Nat} (h : zcov ps 0 = true) (x : Int32) : ∃ c ∈ ps, zin c x := zcov_t h (Nat.zero_le _)
noncomputable def zsame (r : Option zX) : zKr := fun r2 _ _ => Option.rec (motive := fun _ => Bool) false (fun x => Option.rec (motive := fun _ => Bool) false (fun y => zI x (fun a => zI y (fun b => zeq a b))) r2) r
theorem zsame_t {r r2 : Option zX} {t : Nat} {A : zAm} {v v2 : Option Value} (h : zsame r r2 t A = true) (h1 : zgo r v) (h2 : zgo r2 v2) : ∃ x, v = some (.int x) ∧ v2 = some (.int x) := by
  cases r with
  | none => cases h
  | some a =>
    cases r2 with
    | none => cases h
    | some b =>
      cases v with
      | none => exact h1.elim
      | some v =>
        cases v2 with
        | none => exact h2.elim
        | some v2 =>
          obtain ⟨c, x, rfl, h3, h4⟩ := zI_t (show zI a (fun a => zI b (fun b => zeq a b)) = true from h) h1
          obtain ⟨c2, y, rfl, h5, h6⟩ := zI_t h4 h2
          have e := zeq_t h6 h3 h5
          exact ⟨x, rfl, by rw [e]⟩
noncomputable def zrun (f1 f2 : zMt) (as : List zX) : Bool := f1 (.inr (.ref 0) :: as) 336 zA0 (fun r t A => Option.rec (motive := fun _ => Bool) false (fun x => zI x (fun _ => bif Nat.beq t 336 then f2 (.inr (.ref 292) :: as) t A (zsame r) else false)) r)
/-- what the law wants of a call -/
def zH (l : Launch) (G : qG) (d : Nat) (N1 N2 : qMn) (as : List Value) (I : qMI) (L : qML) (R : qMR) : Prop := qCall l G d N1 (.ref 0 :: as) 336 I L R (fun r t I L R => t = 336 ∧ (∃ x, r = some (.int x)) ∧ qCall l G d N2 (.ref 292 :: as) t I L R (fun r2 t2 _ _ _ => ∃ x, r = some (.int x) ∧ r2 = some (.int x)))
theorem zcase {l : Launch} {G : qG} {gh : zGh} {d : Nat} {N1 N2 : qMn} {f1 f2 : zMt} {as : List zX} {as' : List Value} {I : qMI} {L : qML} {R : qMR} (hm : zM gh 336 zA0 I L R) (h1 : zC l G gh d N1 f1) (h2 : zC l G gh d N2 f2) (hr : zrun f1 f2 as = true) (hs : zgs as as') : zH l G d N1 N2 as' I L R := by
  refine qCall_mono (h1 _ 336 zA0 _ hr (.ref 0 :: as') I L R ⟨⟨rfl, rfl⟩, hs⟩ hm) ?_
  intro r t I1 L1 R1 hq
  obtain ⟨r', A, q1, q2, q3⟩ := hq
  have q3 : ∃ x y, r = some (.int x) ∧ (bif Nat.beq t 336 then f2 (.inr (.ref 292) :: as) t A (zsame r') else false) = true ∧ r' = some y := by
    cases r' with
    | none => cases q3
    | some y =>
      cases r with
      | none => exact q1.elim
      | some v =>
        obtain ⟨c, x, rfl, -, h5⟩ := zI_t (f := fun _ => bif Nat.beq t 336 then f2 (.inr (.ref 292) :: as) t A (zsame (some y)) else false) q3 q1
        exact ⟨x, y, rfl, h5, rfl⟩
  obtain ⟨x, y, rfl, q3, -⟩ := q3
  obtain ⟨q0, q3⟩ := zand q3
  refine ⟨Nat.eq_of_beq_eq_true q0, ⟨x, rfl⟩, ?_⟩
  refine qCall_mono (h2 _ t A _ q3 (.ref 292 :: as') I1 L1 R1 ⟨⟨rfl, rfl⟩, hs⟩ q2) ?_
  intro r2 t2 I2 L2 R2 hq2
  obtain ⟨r2', A2, p1, p2, p3⟩ := hq2
  exact zsame_t p3 q1 p1
theorem zg_i {c : Nat} {x : Int32} (h : zin c x) : zg (.inl c) (.int x) := ⟨x, rfl, h⟩
theorem k_feed : zall [8589934591] (fun c1 => zall [8589934591] (fun c2 => zall [8589934591] (fun c3 => zall [8589934591] (fun c4 => zall [8589934591] (fun c5 => zrun f_X8_feed f_X9_feed [.inl c1, .inl c2, .inl c3, .inl c4, .inl c5]))))) = true := by decide +kernel
theorem h_feed {l : Launch} {G : qG} {gh : zGh} {I : qMI} {L : qML} {R : qMR} (hm : zM gh 336 zA0 I L R) (x1 x2 x3 x4 x5 : Int32) : zH l G 8 n_X8_feed n_X9_feed [.int x1, .int x2, .int x3, .int x4, .int x5] I L R := by
  obtain ⟨c1, m1, z1⟩ := zcover (ps := [8589934591]) (by decide +kernel) x1
  obtain ⟨c2, m2, z2⟩ := zcover (ps := [8589934591]) (by decide +kernel) x2
  obtain ⟨c3, m3, z3⟩ := zcover (ps := [8589934591]) (by decide +kernel) x3
  obtain ⟨c4, m4, z4⟩ := zcover (ps := [8589934591]) (by decide +kernel) x4
  obtain ⟨c5, m5, z5⟩ := zcover (ps := [8589934591]) (by decide +kernel) x5
  exact zcase hm (c_X8_feed 6) (c_X9_feed 6) (zall_t (zall_t (zall_t (zall_t (zall_t (k_feed) c1 m1) c2 m2) c3 m3) c4 m4) c5 m5) ⟨zg_i z1, ⟨zg_i z2, ⟨zg_i z3, ⟨zg_i z4, ⟨zg_i z5, trivial⟩⟩⟩⟩⟩
theorem k_back : zall [6442450943, 2147483648, 9223372049739677695] (fun c1 => zrun f_X8_back f_X9_back [.inl c1]) = true := by decide +kernel
theorem h_back {l : Launch} {G : qG} {gh : zGh} {I : qMI} {L : qML} {R : qMR} (hm : zM gh 336 zA0 I L R) (x1 : Int32) : zH l G 8 n_X8_back n_X9_back [.int x1] I L R := by
  obtain ⟨c1, m1, z1⟩ := zcover (ps := [6442450943, 2147483648, 9223372049739677695]) (by decide +kernel) x1
  exact zcase hm (c_X8_back 6) (c_X9_back 7) (zall_t (k_back) c1 m1) ⟨zg_i z1, trivial⟩
theorem k_read : zrun f_X8_read f_X9_read [] = true := by decide +kernel
theorem h_read {l : Launch} {G : qG} {gh : zGh} {I : qMI} {L : qML} {R : qMR} (hm : zM gh 336 zA0 I L R) : zH l G 8 n_X8_read n_X9_read [] I L R := by
  exact zcase hm (c_X8_read 2) (c_X9_read 5) (k_read) trivial
theorem k_place : zrun f_X8_place f_X9_place [] = true := by decide +kernel
theorem h_place {l : Launch} {G : qG} {gh : zGh} {I : qMI} {L : qML} {R : qMR} (hm : zM gh 336 zA0 I L R) : zH l G 8 n_X8_place n_X9_place [] I L R := by
  exact zcase hm (c_X8_place 7) (c_X9_place 7) (k_place) trivial
theorem k_thing : zall [6442450943, 9223372045444710399] (fun c1 => zall [8589934591] (fun c2 => zrun f_X8_thing f_X9_thing [.inl c1, .inl c2])) = true := by decide +kernel
theorem h_thing {l : Launch} {G : qG} {gh : zGh} {I : qMI} {L : qML} {R : qMR} (hm : zM gh 336 zA0 I L R) (x1 x2 : Int32) : zH l G 8 n_X8_thing n_X9_thing [.int x1, .int x2] I L R := by
  obtain ⟨c1, m1, z1⟩ := zcover (ps := [6442450943, 9223372045444710399]) (by decide +kernel) x1
  obtain ⟨c2, m2, z2⟩ := zcover (ps := [8589934591]) (by decide +kernel) x2
  exact zcase hm (c_X8_thing 6) (c_X9_thing 5) (zall_t (zall_t (k_thing) c1 m1) c2 m2) ⟨zg_i z1, ⟨zg_i z2, trivial⟩⟩
theorem k_seat : zall [6442450943, 9223372045444710399] (fun c1 => zall [8589934591] (fun c2 => zrun f_X8_seat f_X9_seat [.inl c1, .inl c2])) = true := by decide +kernel
theorem h_seat {l : Launch} {G : qG} {gh : zGh} {I : qMI} {L : qML} {R : qMR} (hm : zM gh 336 zA0 I L R) (x1 x2 : Int32) : zH l G 8 n_X8_seat n_X9_seat [.int x1, .int x2] I L R := by
  obtain ⟨c1, m1, z1⟩ := zcover (ps := [6442450943, 9223372045444710399]) (by decide +kernel) x1
  obtain ⟨c2, m2, z2⟩ := zcover (ps := [8589934591]) (by decide +kernel) x2
  exact zcase hm (c_X8_seat 6) (c_X9_seat 5) (zall_t (zall_t (k_seat) c1 m1) c2 m2) ⟨zg_i z1, ⟨zg_i z2, trivial⟩⟩
theorem k_loan : zall [6442450943, 9223372045444710399] (fun c1 => zall [8589934591] (fun c2 => zall [8589934591] (fun c3 => zrun f_X8_loan f_X9_loan [.inl c1, .inl c2, .inl c3]))) = true := by decide +kernel
theorem h_loan {l : Launch} {G : qG} {gh : zGh} {I : qMI} {L : qML} {R : qMR} (hm : zM gh 336 zA0 I L R) (x1 x2 x3 : Int32) : zH l G 8 n_X8_loan n_X9_loan [.int x1, .int x2, .int x3] I L R := by
  obtain ⟨c1, m1, z1⟩ := zcover (ps := [6442450943, 9223372045444710399]) (by decide +kernel) x1
  obtain ⟨c2, m2, z2⟩ := zcover (ps := [8589934591]) (by decide +kernel) x2
  obtain ⟨c3, m3, z3⟩ := zcover (ps := [8589934591]) (by decide +kernel) x3
  exact zcase hm (c_X8_loan 5) (c_X9_loan 5) (zall_t (zall_t (zall_t (k_loan) c1 m1) c2 m2) c3 m3) ⟨zg_i z1, ⟨zg_i z2, ⟨zg_i z3, trivial⟩⟩⟩
theorem k_tells : zall [6442450943, 2147483648, 2147483649, 2147483650, 2147483651, 9223372062624579583] (fun c1 => zall [8589934591] (fun c2 => zall [6442450943, 9223372045444710399] (fun c3 => zall [6442450943, 9223372043297227751, 9223376340412006399] (fun c4 => zrun f_X8_tells f_X9_tells [.inl c1, .inl c2, .inl c3, .inl c4])))) = true := by decide +kernel
theorem h_tells {l : Launch} {G : qG} {gh : zGh} {I : qMI} {L : qML} {R : qMR} (hm : zM gh 336 zA0 I L R) (x1 x2 x3 x4 : Int32) : zH l G 8 n_X8_tells n_X9_tells [.int x1, .int x2, .int x3, .int x4] I L R := by
  obtain ⟨c1, m1, z1⟩ := zcover (ps := [6442450943, 2147483648, 2147483649, 2147483650, 2147483651, 9223372062624579583]) (by decide +kernel) x1
  obtain ⟨c2, m2, z2⟩ := zcover (ps := [8589934591]) (by decide +kernel) x2
  obtain ⟨c3, m3, z3⟩ := zcover (ps := [6442450943, 9223372045444710399]) (by decide +kernel) x3
  obtain ⟨c4, m4, z4⟩ := zcover (ps := [6442450943, 9223372043297227751, 9223376340412006399]) (by decide +kernel) x4
  exact zcase hm (c_X8_tells 3) (c_X9_tells 4) (zall_t (zall_t (zall_t (zall_t (k_tells) c1 m1) c2 m2) c3 m3) c4 m4) ⟨zg_i z1, ⟨zg_i z2, ⟨zg_i z3, ⟨zg_i z4, trivial⟩⟩⟩⟩
theorem k_lend : zall [6442450943, 9223372045444710399] (fun c1 => zall [8589934591] (fun c2 => zall [8589934591] (fun c3 => zrun f_X8_lend f_X9_lend [.inl c1, .inl c2, .inl c3]))) = true := by decide +kernel
theorem h_lend {l : Launch} {G : qG} {gh : zGh} {I : qMI} {L : qML} {R : qMR} (hm : zM gh 336 zA0 I L R) (x1 x2 x3 : Int32) : zH l G 8 n_X8_lend n_X9_lend [.int x1, .int x2, .int x3] I L R := by
  obtain ⟨c1, m1, z1⟩ := zcover (ps := [6442450943, 9223372045444710399]) (by decide +kernel) x1
  obtain ⟨c2, m2, z2⟩ := zcover (ps := [8589934591]) (by decide +kernel) x2
  obtain ⟨c3, m3, z3⟩ := zcover (ps := [8589934591]) (by decide +kernel) x3
  exact zcase hm (c_X8_lend 5) (c_X9_lend 5) (zall_t (zall_t (zall_t (k_lend) c1 m1) c2 m2) c3 m3) ⟨zg_i z1, ⟨zg_i z2, ⟨zg_i z3, trivial⟩⟩⟩
theorem k_call : zall [6442450943, 9223372045444710399] (fun c1 => zall [8589934591] (fun c2 => zrun f_X8_call f_X9_call [.inl c1, .inl c2])) = true := by decide +kernel
theorem h_call {l : Launch} {G : qG} {gh : zGh} {I : qMI} {L : qML} {R : qMR} (hm : zM gh 336 zA0 I L R) (x1 x2 : Int32) : zH l G 8 n_X8_call n_X9_call [.int x1, .int x2] I L R := by
  obtain ⟨c1, m1, z1⟩ := zcover (ps := [6442450943, 9223372045444710399]) (by decide +kernel) x1
  obtain ⟨c2, m2, z2⟩ := zcover (ps := [8589934591]) (by decide +kernel) x2
  exact zcase hm (c_X8_call 5) (c_X9_call 5) (zall_t (zall_t (k_call) c1 m1) c2 m2) ⟨zg_i z1, ⟨zg_i z2, trivial⟩⟩
theorem k_move : zall [6442450943, 9223372045444710399] (fun c1 => zall [8589934591] (fun c2 => zrun f_X8_move f_X9_move [.inl c1, .inl c2])) = true := by decide +kernel
theorem h_move {l : Launch} {G : qG} {gh : zGh} {I : qMI} {L : qML} {R : qMR} (hm : zM gh 336 zA0 I L R) (x1 x2 : Int32) : zH l G 8 n_X8_move n_X9_move [.int x1, .int x2] I L R := by
  obtain ⟨c1, m1, z1⟩ := zcover (ps := [6442450943, 9223372045444710399]) (by decide +kernel) x1
  obtain ⟨c2, m2, z2⟩ := zcover (ps := [8589934591]) (by decide +kernel) x2
  exact zcase hm (c_X8_move 6) (c_X9_move 5) (zall_t (zall_t (k_move) c1 m1) c2 m2) ⟨zg_i z1, ⟨zg_i z2, trivial⟩⟩
theorem k_undo : zrun f_X8_undo f_X9_undo [] = true := by decide +kernel
theorem h_undo {l : Launch} {G : qG} {gh : zGh} {I : qMI} {L : qML} {R : qMR} (hm : zM gh 336 zA0 I L R) : zH l G 8 n_X8_undo n_X9_undo [] I L R := by
  exact zcase hm (c_X8_undo 6) (c_X9_undo 7) (k_undo) trivial
theorem k_sight : zall [8589934591] (fun c1 => zall [6442450943, 9223372045444710399] (fun c2 => zall [8589934591] (fun c3 => zrun f_X8_sight f_X9_sight [.inl c1, .inl c2, .inl c3]))) = true := by decide +kernel
theorem h_sight {l : Launch} {G : qG} {gh : zGh} {I : qMI} {L : qML} {R : qMR} (hm : zM gh 336 zA0 I L R) (x1 x2 x3 : Int32) : zH l G 8 n_X8_sight n_X9_sight [.int x1, .int x2, .int x3] I L R := by
  obtain ⟨c1, m1, z1⟩ := zcover (ps := [8589934591]) (by decide +kernel) x1
  obtain ⟨c2, m2, z2⟩ := zcover (ps := [6442450943, 9223372045444710399]) (by decide +kernel) x2
  obtain ⟨c3, m3, z3⟩ := zcover (ps := [8589934591]) (by decide +kernel) x3
  exact zcase hm (c_X8_sight 6) (c_X9_sight 5) (zall_t (zall_t (zall_t (k_sight) c1 m1) c2 m2) c3 m3) ⟨zg_i z1, ⟨zg_i z2, ⟨zg_i z3, trivial⟩⟩⟩
theorem k_clash : zall [6442450943, 2147483648, 2147483649, 9223372054034644991] (fun c1 => zrun f_X8_clash f_X9_clash [.inl c1]) = true := by decide +kernel
theorem h_clash {l : Launch} {G : qG} {gh : zGh} {I : qMI} {L : qML} {R : qMR} (hm : zM gh 336 zA0 I L R) (x1 : Int32) : zH l G 8 n_X8_clash n_X9_clash [.int x1] I L R := by
  obtain ⟨c1, m1, z1⟩ := zcover (ps := [6442450943, 2147483648, 2147483649, 9223372054034644991]) (by decide +kernel) x1
  exact zcase hm (c_X8_clash 2) (c_X9_clash 6) (zall_t (k_clash) c1 m1) ⟨zg_i z1, trivial⟩
theorem k_longFrom : zall [8589934591] (fun c1 => zall [6442450943, 9223372045444710399] (fun c2 => zall [8589934591] (fun c3 => zrun f_X8_longFrom f_X9_longFrom [.inl c1, .inl c2, .inl c3]))) = true := by decide +kernel
theorem h_longFrom {l : Launch} {G : qG} {gh : zGh} {I : qMI} {L : qML} {R : qMR} (hm : zM gh 336 zA0 I L R) (x1 x2 x3 : Int32) : zH l G 8 n_X8_longFrom n_X9_longFrom [.int x1, .int x2, .int x3] I L R := by
  obtain ⟨c1, m1, z1⟩ := zcover (ps := [8589934591]) (by decide +kernel) x1
  obtain ⟨c2, m2, z2⟩ := zcover (ps := [6442450943, 9223372045444710399]) (by decide +kernel) x2
  obtain ⟨c3, m3, z3⟩ := zcover (ps := [8589934591]) (by decide +kernel) x3
  exact zcase hm (c_X8_longFrom 6) (c_X9_longFrom 5) (zall_t (zall_t (zall_t (k_longFrom) c1 m1) c2 m2) c3 m3) ⟨zg_i z1, ⟨zg_i z2, ⟨zg_i z3, trivial⟩⟩⟩
theorem k_best : zall [6442450943, 9223372045444710399] (fun c1 => zall [8589934591] (fun c2 => zall [8589934591] (fun c3 => zrun f_X8_best f_X9_best [.inl c1, .inl c2, .inl c3]))) = true := by decide +kernel
theorem h_best {l : Launch} {G : qG} {gh : zGh} {I : qMI} {L : qML} {R : qMR} (hm : zM gh 336 zA0 I L R) (x1 x2 x3 : Int32) : zH l G 8 n_X8_best n_X9_best [.int x1, .int x2, .int x3] I L R := by
  obtain ⟨c1, m1, z1⟩ := zcover (ps := [6442450943, 9223372045444710399]) (by decide +kernel) x1
  obtain ⟨c2, m2, z2⟩ := zcover (ps := [8589934591]) (by decide +kernel) x2
  obtain ⟨c3, m3, z3⟩ := zcover (ps := [8589934591]) (by decide +kernel) x3
  exact zcase hm (c_X8_best 6) (c_X9_best 5) (zall_t (zall_t (zall_t (k_best) c1 m1) c2 m2) c3 m3) ⟨zg_i z1, ⟨zg_i z2, ⟨zg_i z3, trivial⟩⟩⟩
theorem k_dawns : zall [8589934591] (fun c1 => zall [6442450943, 9223372045444710399] (fun c2 => zrun f_X8_dawns f_X9_dawns [.inl c1, .inl c2])) = true := by decide +kernel
theorem h_dawns {l : Launch} {G : qG} {gh : zGh} {I : qMI} {L : qML} {R : qMR} (hm : zM gh 336 zA0 I L R) (x1 x2 : Int32) : zH l G 8 n_X8_dawns n_X9_dawns [.int x1, .int x2] I L R := by
  obtain ⟨c1, m1, z1⟩ := zcover (ps := [8589934591]) (by decide +kernel) x1
  obtain ⟨c2, m2, z2⟩ := zcover (ps := [6442450943, 9223372045444710399]) (by decide +kernel) x2
  exact zcase hm (c_X8_dawns 6) (c_X9_dawns 5) (zall_t (zall_t (k_dawns) c1 m1) c2 m2) ⟨zg_i z1, ⟨zg_i z2, trivial⟩⟩
theorem k_near : zall [6442450943, 9223372043297226771, 9223372131344056319] (fun c1 => zall [6442450943, 9223372043297226753, 9223372054034644991] (fun c2 => zrun f_X8_near f_X9_near [.inl c1, .inl c2])) = true := by decide +kernel
theorem h_near {l : Launch} {G : qG} {gh : zGh} {I : qMI} {L : qML} {R : qMR} (hm : zM gh 336 zA0 I L R) (x1 x2 : Int32) : zH l G 8 n_X8_near n_X9_near [.int x1, .int x2] I L R := by
  obtain ⟨c1, m1, z1⟩ := zcover (ps := [6442450943, 9223372043297226771, 9223372131344056319]) (by decide +kernel) x1
  obtain ⟨c2, m2, z2⟩ := zcover (ps := [6442450943, 9223372043297226753, 9223372054034644991]) (by decide +kernel) x2
  exact zcase hm (c_X8_near 3) (c_X9_near 5) (zall_t (zall_t (k_near) c1 m1) c2 m2) ⟨zg_i z1, ⟨zg_i z2, trivial⟩⟩
theorem k_crowd : zall [6442450943, 9223372043297226771, 9223372131344056319] (fun c1 => zrun f_X8_crowd f_X9_crowd [.inl c1]) = true := by decide +kernel
theorem h_crowd {l : Launch} {G : qG} {gh : zGh} {I : qMI} {L : qML} {R : qMR} (hm : zM gh 336 zA0 I L R) (x1 : Int32) : zH l G 8 n_X8_crowd n_X9_crowd [.int x1] I L R := by
  obtain ⟨c1, m1, z1⟩ := zcover (ps := [6442450943, 9223372043297226771, 9223372131344056319]) (by decide +kernel) x1
  exact zcase hm (c_X8_crowd 3) (c_X9_crowd 5) (zall_t (k_crowd) c1 m1) ⟨zg_i z1, trivial⟩
theorem k_rich : zall [6442450943, 9223372043297226800, 9223372255898107903] (fun c1 => zall [6442450943, 9223372043297226753, 9223372054034644991] (fun c2 => zrun f_X8_rich f_X9_rich [.inl c1, .inl c2])) = true := by decide +kernel
theorem h_rich {l : Launch} {G : qG} {gh : zGh} {I : qMI} {L : qML} {R : qMR} (hm : zM gh 336 zA0 I L R) (x1 x2 : Int32) : zH l G 8 n_X8_rich n_X9_rich [.int x1, .int x2] I L R := by
  obtain ⟨c1, m1, z1⟩ := zcover (ps := [6442450943, 9223372043297226800, 9223372255898107903]) (by decide +kernel) x1
  obtain ⟨c2, m2, z2⟩ := zcover (ps := [6442450943, 9223372043297226753, 9223372054034644991]) (by decide +kernel) x2
  exact zcase hm (c_X8_rich 6) (c_X9_rich 3) (zall_t (zall_t (k_rich) c1 m1) c2 m2) ⟨zg_i z1, ⟨zg_i z2, trivial⟩⟩
theorem k_worth : zall [6442450943, 9223372045444710399] (fun c1 => zall [8589934591] (fun c2 => zall [8589934591] (fun c3 => zall [8589934591] (fun c4 => zrun f_X8_worth f_X9_worth [.inl c1, .inl c2, .inl c3, .inl c4])))) = true := by decide +kernel
theorem h_worth {l : Launch} {G : qG} {gh : zGh} {I : qMI} {L : qML} {R : qMR} (hm : zM gh 336 zA0 I L R) (x1 x2 x3 x4 : Int32) : zH l G 8 n_X8_worth n_X9_worth [.int x1, .int x2, .int x3, .int x4] I L R := by
  obtain ⟨c1, m1, z1⟩ := zcover (ps := [6442450943, 9223372045444710399]) (by decide +kernel) x1
  obtain ⟨c2, m2, z2⟩ := zcover (ps := [8589934591]) (by decide +kernel) x2
  obtain ⟨c3, m3, z3⟩ := zcover (ps := [8589934591]) (by decide +kernel) x3
  obtain ⟨c4, m4, z4⟩ := zcover (ps := [8589934591]) (by decide +kernel) x4
  exact zcase hm (c_X8_worth 5) (c_X9_worth 5) (zall_t (zall_t (zall_t (zall_t (k_worth) c1 m1) c2 m2) c3 m3) c4 m4) ⟨zg_i z1, ⟨zg_i z2, ⟨zg_i z3, ⟨zg_i z4, trivial⟩⟩⟩⟩
theorem k_book : zall [6442450943, 9223372045444710399] (fun c1 => zall [8589934591] (fun c2 => zrun f_X8_book f_X9_book [.inl c1, .inl c2])) = true := by decide +kernel
theorem h_book {l : Launch} {G : qG} {gh : zGh} {I : qMI} {L : qML} {R : qMR} (hm : zM gh 336 zA0 I L R) (x1 x2 : Int32) : zH l G 8 n_X8_book n_X9_book [.int x1, .int x2] I L R := by
  obtain ⟨c1, m1, z1⟩ := zcover (ps := [6442450943, 9223372045444710399]) (by decide +kernel) x1
  obtain ⟨c2, m2, z2⟩ := zcover (ps := [8589934591]) (by decide +kernel) x2
  exact zcase hm (c_X8_book 6) (c_X9_book 5) (zall_t (zall_t (k_book) c1 m1) c2 m2) ⟨zg_i z1, ⟨zg_i z2, trivial⟩⟩
theorem k_cool : zrun f_X8_cool f_X9_cool [] = true := by decide +kernel
theorem h_cool {l : Launch} {G : qG} {gh : zGh} {I : qMI} {L : qML} {R : qMR} (hm : zM gh 336 zA0 I L R) : zH l G 8 n_X8_cool n_X9_cool [] I L R := by
  exact zcase hm (c_X8_cool 2) (c_X9_cool 7) (k_cool) trivial
theorem k_heatIn : zall [6442450943, 2147483648, 2147483649, 2147483650, 2147483651, 2147483652, 2147483653, 2147483654, 2147483655, 2147483656, 2147483657, 2147483658, 2147483659, 2147483660, 2147483661, 2147483662, 2147483663, 2147483664, 2147483665, 2147483666, 2147483667, 2147483668, 2147483669, 2147483670, 2147483671, 2147483672, 2147483673, 2147483674, 2147483675, 2147483676, 2147483677, 2147483678, 2147483679, 2147483680, 2147483681, 2147483682, 2147483683, 2147483684, 2147483685, 2147483686, 2147483687, 2147483688, 2147483689, 2147483690, 2147483691, 2147483692, 2147483693, 2147483694, 2147483695, 2147483696, 9223372255898107903] (fun c1 => zrun f_X8_heatIn f_X9_heatIn [.inl c1]) = true := by decide +kernel
theorem h_heatIn {l : Launch} {G : qG} {gh : zGh} {I : qMI} {L : qML} {R : qMR} (hm : zM gh 336 zA0 I L R) (x1 : Int32) : zH l G 8 n_X8_heatIn n_X9_heatIn [.int x1] I L R := by
  obtain ⟨c1, m1, z1⟩ := zcover (ps := [6442450943, 2147483648, 2147483649, 2147483650, 2147483651, 2147483652, 2147483653, 2147483654, 2147483655, 2147483656, 2147483657, 2147483658, 2147483659, 2147483660, 2147483661, 2147483662, 2147483663, 2147483664, 2147483665, 2147483666, 2147483667, 2147483668, 2147483669, 2147483670, 2147483671, 2147483672, 2147483673, 2147483674, 2147483675, 2147483676, 2147483677, 2147483678, 2147483679, 2147483680, 2147483681, 2147483682, 2147483683, 2147483684, 2147483685, 2147483686, 2147483687, 2147483688, 2147483689, 2147483690, 2147483691, 2147483692, 2147483693, 2147483694, 2147483695, 2147483696, 9223372255898107903]) (by decide +kernel) x1
  exact zcase hm (c_X8_heatIn 3) (c_X9_heatIn 5) (zall_t (k_heatIn) c1 m1) ⟨zg_i z1, trivial⟩
theorem k_lentIn : zall [6442450943, 9223372045444710399] (fun c1 => zall [8589934591] (fun c2 => zall [8589934591] (fun c3 => zrun f_X8_lentIn f_X9_lentIn [.inl c1, .inl c2, .inl c3]))) = true := by decide +kernel
theorem h_lentIn {l : Launch} {G : qG} {gh : zGh} {I : qMI} {L : qML} {R : qMR} (hm : zM gh 336 zA0 I L R) (x1 x2 x3 : Int32) : zH l G 8 n_X8_lentIn n_X9_lentIn [.int x1, .int x2, .int x3] I L R := by
  obtain ⟨c1, m1, z1⟩ := zcover (ps := [6442450943, 9223372045444710399]) (by decide +kernel) x1
  obtain ⟨c2, m2, z2⟩ := zcover (ps := [8589934591]) (by decide +kernel) x2
  obtain ⟨c3, m3, z3⟩ := zcover (ps := [8589934591]) (by decide +kernel) x3
  exact zcase hm (c_X8_lentIn 5) (c_X9_lentIn 5) (zall_t (zall_t (zall_t (k_lentIn) c1 m1) c2 m2) c3 m3) ⟨zg_i z1, ⟨zg_i z2, ⟨zg_i z3, trivial⟩⟩⟩
theorem k_year : zall [6442450943, 9223372045444710399] (fun c1 => zall [8589934591] (fun c2 => zall [8589934591] (fun c3 => zall [8589934591] (fun c4 => zrun f_X8_year f_X9_year [.inl c1, .inl c2, .inl c3, .inl c4])))) = true := by decide +kernel
theorem h_year {l : Launch} {G : qG} {gh : zGh} {I : qMI} {L : qML} {R : qMR} (hm : zM gh 336 zA0 I L R) (x1 x2 x3 x4 : Int32) : zH l G 8 n_X8_year n_X9_year [.int x1, .int x2, .int x3, .int x4] I L R := by
  obtain ⟨c1, m1, z1⟩ := zcover (ps := [6442450943, 9223372045444710399]) (by decide +kernel) x1
  obtain ⟨c2, m2, z2⟩ := zcover (ps := [8589934591]) (by decide +kernel) x2
  obtain ⟨c3, m3, z3⟩ := zcover (ps := [8589934591]) (by decide +kernel) x3
  obtain ⟨c4, m4, z4⟩ := zcover (ps := [8589934591]) (by decide +kernel) x4
  exact zcase hm (c_X8_year 5) (c_X9_year 5) (zall_t (zall_t (zall_t (zall_t (k_year) c1 m1) c2 m2) c3 m3) c4 m4) ⟨zg_i z1, ⟨zg_i z2, ⟨zg_i z3, ⟨zg_i z4, trivial⟩⟩⟩⟩
theorem k_tell : zall [6442450943, 9223372043297226771, 9223372131344056319] (fun c1 => zall [6442450942, 2147483647, 9223372043297226771, 9223372131344056319] (fun c2 => zall [6442450943, 9223372043297226776, 9223372152818892799] (fun c3 => zrun f_X8_tell f_X9_tell [.inl c1, .inl c2, .inl c3]))) = true := by decide +kernel
theorem h_tell {l : Launch} {G : qG} {gh : zGh} {I : qMI} {L : qML} {R : qMR} (hm : zM gh 336 zA0 I L R) (x1 x2 x3 : Int32) : zH l G 8 n_X8_tell n_X9_tell [.int x1, .int x2, .int x3] I L R := by
  obtain ⟨c1, m1, z1⟩ := zcover (ps := [6442450943, 9223372043297226771, 9223372131344056319]) (by decide +kernel) x1
  obtain ⟨c2, m2, z2⟩ := zcover (ps := [6442450942, 2147483647, 9223372043297226771, 9223372131344056319]) (by decide +kernel) x2
  obtain ⟨c3, m3, z3⟩ := zcover (ps := [6442450943, 9223372043297226776, 9223372152818892799]) (by decide +kernel) x3
  exact zcase hm (c_X8_tell 6) (c_X9_tell 5) (zall_t (zall_t (zall_t (k_tell) c1 m1) c2 m2) c3 m3) ⟨zg_i z1, ⟨zg_i z2, ⟨zg_i z3, trivial⟩⟩⟩
theorem k_forget : zrun f_X8_forget f_X9_forget [] = true := by decide +kernel
theorem h_forget {l : Launch} {G : qG} {gh : zGh} {I : qMI} {L : qML} {R : qMR} (hm : zM gh 336 zA0 I L R) : zH l G 8 n_X8_forget n_X9_forget [] I L R := by
  exact zcase hm (c_X8_forget 7) (c_X9_forget 7) (k_forget) trivial
theorem k_stands : zall [6442450943, 2147483648, 9223372049739677695] (fun c1 => zrun f_X8_stands f_X9_stands [.inl c1]) = true := by decide +kernel
theorem h_stands {l : Launch} {G : qG} {gh : zGh} {I : qMI} {L : qML} {R : qMR} (hm : zM gh 336 zA0 I L R) (x1 : Int32) : zH l G 8 n_X8_stands n_X9_stands [.int x1] I L R := by
  obtain ⟨c1, m1, z1⟩ := zcover (ps := [6442450943, 2147483648, 9223372049739677695]) (by decide +kernel) x1
  exact zcase hm (c_X8_stands 6) (c_X9_stands 6) (zall_t (k_stands) c1 m1) ⟨zg_i z1, trivial⟩
theorem k_sure : zall [6442450943, 2147483648, 9223372049739677695] (fun c1 => zall [6442450943, 2147483648, 2147483649, 9223372054034644991] (fun c2 => zrun f_X8_sure f_X9_sure [.inl c1, .inl c2])) = true := by decide +kernel
theorem h_sure {l : Launch} {G : qG} {gh : zGh} {I : qMI} {L : qML} {R : qMR} (hm : zM gh 336 zA0 I L R) (x1 x2 : Int32) : zH l G 8 n_X8_sure n_X9_sure [.int x1, .int x2] I L R := by
  obtain ⟨c1, m1, z1⟩ := zcover (ps := [6442450943, 2147483648, 9223372049739677695]) (by decide +kernel) x1
  obtain ⟨c2, m2, z2⟩ := zcover (ps := [6442450943, 2147483648, 2147483649, 9223372054034644991]) (by decide +kernel) x2
  exact zcase hm (c_X8_sure 5) (c_X9_sure 6) (zall_t (zall_t (k_sure) c1 m1) c2 m2) ⟨zg_i z1, ⟨zg_i z2, trivial⟩⟩
theorem k_hold : zall [6442450943, 2147483648, 2147483649, 2147483650, 9223372058329612287] (fun c1 => zrun f_X8_hold f_X9_hold [.inl c1]) = true := by decide +kernel
theorem h_hold {l : Launch} {G : qG} {gh : zGh} {I : qMI} {L : qML} {R : qMR} (hm : zM gh 336 zA0 I L R) (x1 : Int32) : zH l G 8 n_X8_hold n_X9_hold [.int x1] I L R := by
  obtain ⟨c1, m1, z1⟩ := zcover (ps := [6442450943, 2147483648, 2147483649, 2147483650, 9223372058329612287]) (by decide +kernel) x1
  exact zcase hm (c_X8_hold 6) (c_X9_hold 6) (zall_t (k_hold) c1 m1) ⟨zg_i z1, trivial⟩
theorem k_restore : zall [6442450943, 2147483648, 2147483649, 2147483650, 9223372058329612287] (fun c1 => zrun f_X8_restore f_X9_restore [.inl c1]) = true := by decide +kernel
theorem h_restore {l : Launch} {G : qG} {gh : zGh} {I : qMI} {L : qML} {R : qMR} (hm : zM gh 336 zA0 I L R) (x1 : Int32) : zH l G 8 n_X8_restore n_X9_restore [.int x1] I L R := by
  obtain ⟨c1, m1, z1⟩ := zcover (ps := [6442450943, 2147483648, 2147483649, 2147483650, 9223372058329612287]) (by decide +kernel) x1
  exact zcase hm (c_X8_restore 7) (c_X9_restore 6) (zall_t (k_restore) c1 m1) ⟨zg_i z1, trivial⟩
theorem k_count : zall [6442450943, 2147483648, 2147483649, 2147483650, 2147483651, 2147483652, 2147483653, 2147483654, 2147483655, 2147483656, 2147483657, 2147483658, 2147483659, 2147483660, 2147483661, 2147483662, 2147483663, 2147483664, 9223372118459154431] (fun c1 => zrun f_X8_count f_X9_count [.inl c1]) = true := by decide +kernel
theorem h_count {l : Launch} {G : qG} {gh : zGh} {I : qMI} {L : qML} {R : qMR} (hm : zM gh 336 zA0 I L R) (x1 : Int32) : zH l G 8 n_X8_count n_X9_count [.int x1] I L R := by
  obtain ⟨c1, m1, z1⟩ := zcover (ps := [6442450943, 2147483648, 2147483649, 2147483650, 2147483651, 2147483652, 2147483653, 2147483654, 2147483655, 2147483656, 2147483657, 2147483658, 2147483659, 2147483660, 2147483661, 2147483662, 2147483663, 2147483664, 9223372118459154431]) (by decide +kernel) x1
  exact zcase hm (c_X8_count 2) (c_X9_count 5) (zall_t (k_count) c1 m1) ⟨zg_i z1, trivial⟩
