/-! ===== making, texts, copies, switches, methods ===== -/
section ZU
variable {l : Launch} {G : qG} {gh : zGh} {d : Nat} {K : zKr} {M : qMn} {pc : Nat} {k kt kf : zK}
theorem zkd_n1 {ci j : Nat} (hc : ci < 10) : zkd ci j ≠ 1 := by
  unfold zkd
  rw [if_pos hc]
  split <;> decide
noncomputable def oNew (ci nf Mc Ms : Nat) (k : zK) : zK := fun lv st ce sl t A => bif Nat.beq (qSh t).1 ci then (bif Nat.beq (qSh t).2 nf then (bif Nat.ble (Nat.succ ce) Mc then (bif Nat.ble (Nat.add sl nf) Ms then k lv (.inr (.ref t) :: st) (Nat.succ ce) (Nat.add sl nf) (Nat.succ t) (zput A t (zmk ci nf)) else false) else false) else false) else false
theorem z_new {idx ci nf Mc Ms : Nat} (hd : decode M.2.1 pc = .ok (.new idx, 3)) (hc : ci < 10) (hnf : qNF ci = nf) (hn : nf < 4096) (h1 : Cond.classLink M.1.cls idx (qC ci) ∈ gw) (h2 : Cond.instantiable (qC ci) (qNF ci) ∈ gw) (h3 : Cond.initialized (qC ci) ∈ gw) (hMc : M.2.2.2.2.1 = Mc) (hMs : M.2.2.2.2.2 = Ms) (hk : zS l G gh d K M (pc + 3) k) : zS l G gh d K M pc (oNew ci nf Mc Ms k) := by
  intro lv st ce sl t A h lv' st' I L R hl hs hm
  obtain ⟨g1, h⟩ := zand h
  obtain ⟨g2, h⟩ := zand h
  obtain ⟨g3, h⟩ := zand h
  obtain ⟨g4, h⟩ := zand h
  have e1 := Nat.eq_of_beq_eq_true g1
  have e2 := Nat.eq_of_beq_eq_true g2
  have e3 := Nat.le_of_ble_eq_true g3
  have e4 := Nat.le_of_ble_eq_true g4
  rw [← hMc] at e3
  rw [← hMs] at e4
  refine q_new hd hc e1 h1 h2 h3 e3 (by rw [hnf]; exact e4) ?_
  rw [hnf]
  refine hk lv _ (ce + 1) (sl + nf) (t + 1) _ h lv' _ _ L _ hl ⟨⟨rfl, rfl⟩, hs⟩ ⟨zM_new hm.1 (by omega) hn (Prod.ext e1 e2) (fun k hk => ⟨qUpF_n I _ hk, rfl, qUpRF_n R _ hk⟩) (fun j => ⟨fun _ => by rw [qUpF_s], fun q => absurd q (zkd_n1 hc), fun _ => by rw [qUpRF_s]⟩), e3, e4⟩
noncomputable def oNewa (ty Mc Ms : Nat) (k : zK) : zK := fun lv st ce sl t A => zpI st (fun c st => bif Nat.beq (qSh t).1 ty then (bif Nat.ble (qSh t).2 4095 then (bif Nat.beq c (Nat.add (qSh t).2 2147483648) then (bif Nat.ble (Nat.succ ce) Mc then (bif Nat.ble (Nat.add sl (qSh t).2) Ms then k lv (.inr (.ref t) :: st) (Nat.succ ce) (Nat.add sl (qSh t).2) (Nat.succ t) (zput A t (zmk ty (qSh t).2)) else false) else false) else false) else false) else false)
theorem znewa_n {c n : Nat} {x : Int32} (h : Nat.beq c (Nat.add n 2147483648) = true) (hn : n ≤ 4095) (hx : zin c x) : x.toNatClampNeg = n ∧ ¬ x < 0 := by
  have e := Nat.eq_of_beq_eq_true h
  rw [zadd_e] at e
  have hk : zk c = true := Nat.ble_eq_true_of_le (by omega)
  exact zix_n (by rw [zk_in hk hx, e]; omega)
theorem z_newI {ty Mc Ms : Nat} {aty : ArrayType} (k0 : Nat) (hd : decode M.2.1 pc = .ok (.newarray aty, 2)) (hty : (qTys G.2.2.2.1)[k0]? = some (G.2.2.2.1 ty, newarray.typeOf aty)) (h10 : 10 ≤ ty) (h13 : ty < 13) (hdf : defaultValue (newarray.typeOf aty) = .int 0) (hno : ∀ U c, va_RA U c (newarray.typeOf aty) → U.vm.findClass ("[" ++ (newarray.typeOf aty).toString) = some c) (hby : componentBytes (newarray.typeOf aty) ≤ 8) (h1 : Cond.arrayClass (newarray.typeOf aty) ∈ gw) (hMc : M.2.2.2.2.1 = Mc) (hMs : M.2.2.2.2.2 = Ms) (hk : zS l G gh d K M (pc + 2) k) : zS l G gh d K M pc (oNewa ty Mc Ms k) := by
  intro lv st ce sl t A h lv' st' I L R hl hs hm
  obtain ⟨c, st1, x, st2, rfl, f1, f2, h⟩ := zpI_t h hs
  obtain ⟨g1, h⟩ := zand h
  obtain ⟨g2, h⟩ := zand h
  obtain ⟨g5, h⟩ := zand h
  obtain ⟨g3, h⟩ := zand h
  obtain ⟨g4, h⟩ := zand h
  have e1 := Nat.eq_of_beq_eq_true g1
  have e2 := Nat.le_of_ble_eq_true g2
  have e3 := Nat.le_of_ble_eq_true g3
  have e4 := Nat.le_of_ble_eq_true g4
  obtain ⟨e5, e6⟩ := znewa_n g5 e2 f1
  rw [← hMc] at e3
  rw [← hMs] at e4
  refine q_newI k0 hd hty h10 h13 hdf hno e1 e6 e5 (Nat.le_trans (Nat.mul_le_mul e2 hby) (by decide)) h1 e3 e4 ?_
  refine hk lv _ (ce + 1) (sl + (qSh t).2) (t + 1) _ h lv' _ _ L R hl ⟨⟨rfl, rfl⟩, f2⟩ ⟨zM_new hm.1 (by omega) (by omega) (Prod.ext e1 rfl) (fun k hk => ⟨qUpF_n I _ hk, rfl, rfl⟩) (fun j => ⟨fun _ => by rw [qUpF_s], fun q => ?_, fun q => ?_⟩), e3, e4⟩
  · unfold zkd at q
    rw [if_neg (by omega), if_pos h13] at q
    cases q
  · unfold zkd at q
    rw [if_neg (by omega), if_pos h13] at q
    cases q
theorem z_newL {Mc Ms : Nat} (hd : decode M.2.1 pc = .ok (.newarray .long, 2)) (h1 : Cond.arrayClass .long ∈ gw) (hMc : M.2.2.2.2.1 = Mc) (hMs : M.2.2.2.2.2 = Ms) (hk : zS l G gh d K M (pc + 2) k) : zS l G gh d K M pc (oNewa 13 Mc Ms k) := by
  intro lv st ce sl t A h lv' st' I L R hl hs hm
  obtain ⟨c, st1, x, st2, rfl, f1, f2, h⟩ := zpI_t h hs
  obtain ⟨g1, h⟩ := zand h
  obtain ⟨g2, h⟩ := zand h
  obtain ⟨g5, h⟩ := zand h
  obtain ⟨g3, h⟩ := zand h
  obtain ⟨g4, h⟩ := zand h
  have e1 := Nat.eq_of_beq_eq_true g1
  have e2 := Nat.le_of_ble_eq_true g2
  have e3 := Nat.le_of_ble_eq_true g3
  have e4 := Nat.le_of_ble_eq_true g4
  obtain ⟨e5, e6⟩ := znewa_n g5 e2 f1
  rw [← hMc] at e3
  rw [← hMs] at e4
  refine q_newL hd e1 e6 e5 (by omega) h1 e3 e4 ?_
  refine hk lv _ (ce + 1) (sl + (qSh t).2) (t + 1) _ h lv' _ I _ R hl ⟨⟨rfl, rfl⟩, f2⟩ ⟨zM_new hm.1 (by omega) (by omega) (Prod.ext e1 rfl) (fun k hk => ⟨rfl, qUpLF_n L _ hk, rfl⟩) (fun j => ⟨fun q => ?_, fun _ => by rw [qUpLF_s], fun q => ?_⟩), e3, e4⟩
  · cases q
  · cases q
theorem z_newR {Mc Ms idx : Nat} (hd : decode M.2.1 pc = .ok (.anewarray idx, 3)) (h1 : Cond.classLink M.1.cls idx "MirageLoans$State" ∈ gw) (hMc : M.2.2.2.2.1 = Mc) (hMs : M.2.2.2.2.2 = Ms) (hk : zS l G gh d K M (pc + 3) k) : zS l G gh d K M pc (oNewa 14 Mc Ms k) := by
  intro lv st ce sl t A h lv' st' I L R hl hs hm
  obtain ⟨c, st1, x, st2, rfl, f1, f2, h⟩ := zpI_t h hs
  obtain ⟨g1, h⟩ := zand h
  obtain ⟨g2, h⟩ := zand h
  obtain ⟨g5, h⟩ := zand h
  obtain ⟨g3, h⟩ := zand h
  obtain ⟨g4, h⟩ := zand h
  have e1 := Nat.eq_of_beq_eq_true g1
  have e2 := Nat.le_of_ble_eq_true g2
  have e3 := Nat.le_of_ble_eq_true g3
  have e4 := Nat.le_of_ble_eq_true g4
  obtain ⟨e5, e6⟩ := znewa_n g5 e2 f1
  rw [← hMc] at e3
  rw [← hMs] at e4
  refine q_newR hd e1 e6 e5 (by omega) h1 e3 e4 ?_
  refine hk lv _ (ce + 1) (sl + (qSh t).2) (t + 1) _ h lv' _ I L _ hl ⟨⟨rfl, rfl⟩, f2⟩ ⟨zM_new hm.1 (by omega) (by omega) (Prod.ext e1 rfl) (fun k hk => ⟨rfl, rfl, qUpRF_n R _ hk⟩) (fun j => ⟨fun q => ?_, fun q => ?_, fun _ => by rw [qUpRF_s]⟩), e3, e4⟩
  · cases q
  · cases q
/-! texts -/
def oTxt (b : UInt32) (k : zK) : zK := fun lv st ce sl t A => k lv (.inr (.float b) :: st) ce sl t A
theorem z_ldcS {idx : Nat} {b : UInt32} (hd : decode M.2.1 pc = .ok (.ldc idx, 2)) (ho : M.1.cls = "MirageLoans$Tokens") (hb2 : (b.toNat = 0 ∧ idx = qTx0) ∨ (b.toNat = 1 ∧ idx = qTx1)) (hk : zS l G gh d K M (pc + 2) k) : zS l G gh d K M pc (oTxt b k) := fun lv st ce sl t A h lv' st' I L R hl hs hm => q_ldcS hd ho hb2 (hk lv _ ce sl t A h lv' _ I L R hl ⟨⟨rfl, rfl⟩, hs⟩ hm)
theorem z_sFmt {idx : Nat} (hd : decode M.2.1 pc = .ok (.getstatic idx, 3)) (h1 : Cond.fieldLink M.1.cls idx "jdk/internal/util/Preconditions" "SIOOBE_FORMATTER" "Ljava/util/function/BiFunction;" ∈ gw) (hk : zS l G gh d K M (pc + 3) k) : zS l G gh d K M pc (oTxt 4 k) := fun lv st ce sl t A h lv' st' I L R hl hs hm => q_sFmt hd h1 (hk lv _ ce sl t A h lv' _ I L R hl ⟨⟨rfl, rfl⟩, hs⟩ hm)
theorem z_sCom {idx : Nat} (hd : decode M.2.1 pc = .ok (.getstatic idx, 3)) (h1 : Cond.fieldLink M.1.cls idx "java/lang/String" "COMPACT_STRINGS" "Z" ∈ gw) (hk : zS l G gh d K M (pc + 3) k) : zS l G gh d K M pc (oInt 2147483649 k) := fun lv st ce sl t A h lv' st' I L R hl hs hm => q_sCom hd h1 (hk lv _ ce sl t A h lv' _ I L R hl ⟨⟨_, rfl, zin_eq (by decide)⟩, hs⟩ hm)
noncomputable def oSval (k : zK) : zK := fun lv st ce sl t A => zpF st (fun b st => bif Nat.ble b.toNat 1 then k lv (.inr (.float (UInt32.ofNat (Nat.add b.toNat 2))) :: st) ce sl t A else false)
theorem z_sVal {idx : Nat} (hd : decode M.2.1 pc = .ok (.getfield idx, 3)) (h1 : Cond.fieldLink M.1.cls idx "java/lang/String" "value" "[B" ∈ gw) (hk : zS l G gh d K M (pc + 3) k) : zS l G gh d K M pc (oSval k) := by
  intro lv st ce sl t A h lv' st' I L R hl hs hm
  obtain ⟨b, st3, st4, rfl, h7, h8⟩ := zpF_t h hs
  obtain ⟨h9, h10⟩ := zand h8
  have hb := Nat.le_of_ble_eq_true h9
  refine q_sVal (b2 := UInt32.ofNat (Nat.add b.toNat 2)) hd h1 (by omega) ?_ (hk lv _ ce sl t A h10 lv' _ I L R hl ⟨⟨rfl, rfl⟩, h7⟩ hm)
  rw [zadd_e, UInt32.toNat_ofNat']
  omega
noncomputable def oScod (k : zK) : zK := fun lv st ce sl t A => zpF st (fun b st => bif Nat.ble b.toNat 1 then k lv (.inl 2147483648 :: st) ce sl t A else false)
theorem z_sCod {idx : Nat} (hd : decode M.2.1 pc = .ok (.getfield idx, 3)) (h1 : Cond.fieldLink M.1.cls idx "java/lang/String" "coder" "B" ∈ gw) (hk : zS l G gh d K M (pc + 3) k) : zS l G gh d K M pc (oScod k) := by
  intro lv st ce sl t A h lv' st' I L R hl hs hm
  obtain ⟨b, st3, st4, rfl, h7, h8⟩ := zpF_t h hs
  obtain ⟨h9, h10⟩ := zand h8
  have hb := Nat.le_of_ble_eq_true h9
  exact q_sCod hd h1 (by omega) (hk lv _ ce sl t A h10 lv' _ I L R hl ⟨⟨_, rfl, zin0⟩, h7⟩ hm)
noncomputable def oSlen (k : zK) : zK := fun lv st ce sl t A => zpF st (fun b st => bif Nat.ble 2 b.toNat then (bif Nat.ble b.toNat 3 then k lv (.inl (zb (nI (qLen.getD (Nat.sub b.toNat 2) 0))) :: st) ce sl t A else false) else false)
theorem z_sLen (hd : decode M.2.1 pc = .ok (.arraylength, 1)) (hk : zS l G gh d K M (pc + 1) k) : zS l G gh d K M pc (oSlen k) := by
  intro lv st ce sl t A h lv' st' I L R hl hs hm
  obtain ⟨b, st3, st4, rfl, h7, h8⟩ := zpF_t h hs
  obtain ⟨h9, h10⟩ := zand h8
  obtain ⟨h11, h12⟩ := zand h10
  have hb := Nat.le_of_ble_eq_true h9
  have hb2 := Nat.le_of_ble_eq_true h11
  exact q_sLen hd hb (by omega) (hk lv _ ce sl t A h12 lv' _ I L R hl ⟨⟨_, rfl, zin_b _⟩, h7⟩ hm)
noncomputable def oSbal (k : zK) : zK := fun lv st ce sl t A => zpI st (fun i st => zpF st (fun b st => bif Nat.ble 2 b.toNat then (bif Nat.ble b.toNat 3 then zix i (qLen.getD (Nat.sub b.toNat 2) 0) (fun n => k lv (.inl (zb ((qByt.getD (Nat.sub b.toNat 2) []).getD n 0)) :: st) ce sl t A) else false) else false))
theorem z_sBal (hd : decode M.2.1 pc = .ok (.baload, 1)) (hk : zS l G gh d K M (pc + 1) k) : zS l G gh d K M pc (oSbal k) := by
  intro lv st ce sl t A h lv' st' I L R hl hs hm
  obtain ⟨i, st1, x, st2, rfl, hi, h2, h3⟩ := zpI_t h hs
  obtain ⟨b, st3, st4, rfl, h7, h8⟩ := zpF_t h3 h2
  obtain ⟨h9, h10⟩ := zand h8
  obtain ⟨h11, h12⟩ := zand h10
  have hb := Nat.le_of_ble_eq_true h9
  have hb2 := Nat.le_of_ble_eq_true h11
  obtain ⟨h13, h14⟩ := zix_t h12 hi
  exact q_sBal hd hb (by omega) h13 (hk lv _ ce sl t A h14 lv' _ I L R hl ⟨⟨_, rfl, zin_b _⟩, h7⟩ hm)
/-! copies -/
theorem q_copy {Q : qQ} {lv : qLv} {st : List Value} {ce sl t idx a0 a1 : Nat} {I : qMI} {L : qML} {R : qMR} {sp dp n : Int32} (hd : decode M.2.1 pc = .ok (.invokestatic idx, 3)) (h1 : Cond.methodLink M.1.cls idx arraycopyName ∈ gw) (h2 : Cond.native arraycopyName ∈ gw) (h3 : Cond.static arraycopyName ∈ gw) (h4 : Cond.initialized "java/lang/System" ∈ gw)
    (hk0 : a0 < t) (hs0 : (qSh a0).1 = 10) (hk1 : a1 < t) (hs1 : (qSh a1).1 = 10) (g1 : ¬ sp < 0) (g2 : ¬ dp < 0) (g3 : ¬ n < 0) (g4 : sp.toNatClampNeg + n.toNatClampNeg ≤ (qSh a0).2) (g5 : dp.toNatClampNeg + n.toNatClampNeg ≤ (qSh a1).2) (hcat : qCat st ≤ 8)
    (kk : qAb l G (d + 1) M Q (pc + 3) lv st ce sl t (qUpF I a1 (va_cpy (I a0) (I a1) sp.toNatClampNeg dp.toNatClampNeg n.toNatClampNeg)) L R) : qAb l G (d + 1) M Q pc lv (.int n :: .int dp :: .ref a1 :: .int sp :: .ref a0 :: st) ce sl t I L R := by
  intro p e s m args below meth c C H locs ls hz hP hS hl T hT X
  obtain ⟨hx, hb, hr, hlk, hml, hown, hts, hC, hH, hB, hnm⟩ := id C
  have c0 : H[G.1 + a0]? = some (vp_cell (G.2.2.2.1 10) ((qSh a0).2, .inl (I a0))) := hP a0 (G.1 + a0, .inl (G.2.2.2.1 10, (qSh a0).2, .inl (I a0))) (by rw [qWd_at hk0, qCell_i hs0 (by omega) (by omega)])
  have c1 : H[G.1 + a1]? = some (vp_cell (G.2.2.2.1 10) ((qSh a1).2, .inl (I a1))) := hP a1 (G.1 + a1, .inl (G.2.2.2.1 10, (qSh a1).2, .inl (I a1))) (by rw [qWd_at hk1, qCell_i hs1 (by omega) (by omega)])
  obtain ⟨-, k0, w0, m0, y0⟩ := (hC.1.2 0 _ (qTys_i _)).1 (qSh a0).2 (fun j => .int (I a0 j))
  obtain ⟨-, k1, w1, m1, y1⟩ := (hC.1.2 0 _ (qTys_i _)).1 (qSh a1).2 (fun j => .int (I a1 j))
  have nn : ∀ z : Int32, ¬ z < 0 → z.toInt = (z.toNatClampNeg : Int) := fun z hz => by
    have h0 : (0 : Int) ≤ z.toInt := by simpa using Int32.le_iff_toInt_le.mp (Int32.not_lt.mp hz)
    show z.toInt = ((z.toInt.toNat : Nat) : Int)
    omega
  have z0 : (vp_cell (G.2.2.2.1 10) ((qSh a0).2, .inl (I a0))).slots.size = (qSh a0).2 := arrV_size _ _ _
  have z1 : (vp_cell (G.2.2.2.1 10) ((qSh a1).2, .inl (I a1))).slots.size = (qSh a1).2 := arrV_size _ _ _
  have hv : ∀ i, i < n.toNatClampNeg → (vp_cell (G.2.2.2.1 10) ((qSh a0).2, .inl (I a0))).slots.getD (sp.toNatClampNeg + i) .null = .int (I a0 (sp.toNatClampNeg + i)) := fun i hi => by
    show (arrV _ _ (fun j => .int (I a0 j))).slots.getD _ _ = _
    rw [Array.getD_eq_getD_getElem?, arrV_read _ _ (by omega)]
    rfl
  obtain ⟨vm', X', step⟩ := X.arraycopy hx hown (hts _ h1) (hts _ h2) (hts _ h3) (hts _ h4) (src := G.1 + a0) (dst := G.1 + a1) (cs := vp_cell (G.2.2.2.1 10) ((qSh a0).2, .inl (I a0))) (cd := vp_cell (G.2.2.2.1 10) ((qSh a1).2, .inl (I a1))) (srcPos := sp) (destPos := dp) (n := n) (by rw [hT]; exact c0) (by rw [hT]; exact c1) (fun _ q => by cases q) (fun _ q => by cases q) (fun q => by cases q) (fun q => by cases q) w0 w1 y0 y1 rfl g1 g2 g3
    (by rw [nn sp g1, nn n g3, z0]; omega) (by rw [nn dp g2, nn n g3, z1]; omega) (fun vm1 _ i hi => by rw [hv i hi]; exact ⟨rfl, trivial⟩)
    (g := F0 m pc ls ((.int n :: .int dp :: .ref a1 :: .int sp :: .ref a0 :: st).map (qTv G))) rfl (by rw [hml]; exact hl.1) (rest := st.map (qTv G)) rfl (by rw [hb]; exact hd) (by show 1 ≤ d + 1; omega) (by show 2 * 0 + _ + (7 + 11) ≤ 64 * (d + 1); rw [qCat_map]; omega)
  have ec : copied (vp_cell (G.2.2.2.1 10) ((qSh a0).2, .inl (I a0))) (vp_cell (G.2.2.2.1 10) ((qSh a1).2, .inl (I a1))) sp dp n = vp_cell (G.2.2.2.1 10) ((qSh a1).2, .inl (va_cpy (I a0) (I a1) sp.toNatClampNeg dp.toNatClampNeg n.toNatClampNeg)) := va_copied (fun z => .int z) _ _ (I a0) (I a1) g4
  rw [ec] at X' step
  have hlt : G.1 + a1 < H.size := (Array.getElem?_eq_some_iff.mp c1).1
  generalize hN : vp_cell (G.2.2.2.1 10) ((qSh a1).2, .inl (va_cpy (I a0) (I a1) sp.toNatClampNeg dp.toNatClampNeg n.toNatClampNeg)) = nc at X' step
  have hheap : ((T.setVm vm').setCell (G.1 + a1) nc).heap = H.setIfInBounds (G.1 + a1) nc := by rw [← hT]; rfl
  have es : (H.setIfInBounds (G.1 + a1) nc)[G.1 + a1]? = some nc := by simp [Array.getElem?_setIfInBounds, hlt]
  have oq : ∀ q : Nat, q ≠ G.1 + a1 → (H.setIfInBounds (G.1 + a1) nc)[q]? = H[q]? := fun q hq => by simp [Array.getElem?_setIfInBounds, Ne.symm hq]
  have hP' := q_setI (t := t) (H1 := H.setIfInBounds (G.1 + a1) nc) (f := va_cpy (I a0) (I a1) sp.toNatClampNeg dp.toNatClampNeg n.toNatClampNeg) hk1 hs1 (by omega) (by omega) hP (by rw [hN]; exact es) oq
  have hS' : va_S (qA G) s.heap (H.setIfInBounds (G.1 + a1) nc) (locs ++ ((vp_cell (G.2.2.2.1 10) ((qSh a0).2, .inl (I a0))).stretch sp.toNatClampNeg n.toNatClampNeg).zipIdx.map fun q => ⟨G.1 + a1, dp.toNatClampNeg + q.2⟩) := by
    refine ⟨by rw [Array.size_setIfInBounds]; exact hS.1, fun q b1 b2 => ?_, fun q hq => ?_⟩
    · rw [oq q (fun e => b2 (by rw [e]; exact Nat.le_add_right _ _))]
      exact hS.2.1 q b1 b2
    · rcases List.mem_append.mp hq with h | h
      · exact hS.2.2 q h
      · obtain ⟨z, -, hz⟩ := List.mem_map.mp h
        rw [← hz]
        exact Nat.le_add_right _ _
  obtain ⟨t', b1, b2⟩ := kk p e s m args below meth c C _ _ ls (by rw [Array.size_setIfInBounds]; exact hz) hP' hS' hl _ hheap X'
  exact ⟨t', step t' b1, b2⟩
/-! switches -/
/-! methods -/
abbrev zBl : Type := (Nat → zK) → zKr → zK
def zfl : zBl := fun _ _ => oFail
noncomputable def zjp (n : Nat) (tab : List zBl) (K : zKr) : Nat → zK := Nat.rec (motive := fun _ => Nat → zK) (fun _ => oFail) (fun _ ih b => zn zfl tab b ih K) n
noncomputable def zlvs (as : List zX) : List zX := List.rec (motive := fun _ => List zX) [] (fun x _ ih => bif zisL x then x :: zdum :: ih else x :: ih) as
noncomputable def zmet (mx : Nat) (tab : List zBl) : zMt := fun as t A K => bif Nat.ble (zcat as) mx then zjp 1000000 tab K 0 (zlvs as) [] 0 0 t A else false
def zT (P : Nat → zBl → Prop) : List zBl → List Nat → Prop
  | [], _ => True
  | b :: bs, p :: ps => P p b ∧ zT P bs ps
  | _ :: _, [] => False
theorem zT_all {P : Nat → zBl → Prop} (hf : ∀ p, P p zfl) : ∀ {tab : List zBl} {pcs : List Nat}, zT P tab pcs → ∀ b, P (zn 0 pcs b) (zn zfl tab b)
  | [], _, _, _ => hf _
  | _ :: _, _ :: _, h, 0 => h.1
  | _ :: _, _ :: _, h, b + 1 => zT_all hf h.2 b
  | _ :: _, [], h, _ => h.elim
def zPb (l : Launch) (G : qG) (gh : zGh) (d : Nat) (N : qMn) (pcs : List Nat) (p : Nat) (b : zBl) : Prop := ∀ (K : zKr) (jp : Nat → zK), (∀ b, zS l G gh d K N (zn 0 pcs b) (jp b)) → zS l G gh d K N p (b jp K)
theorem zjp_ok {N : qMn} {tab : List zBl} {pcs : List Nat} (h : zT (zPb l G gh d N pcs) tab pcs) : ∀ n b, zS l G gh d K N (zn 0 pcs b) (zjp n tab K b)
  | 0, _ => z_fail
  | n + 1, b => zT_all (P := zPb l G gh d N pcs) (fun _ _ _ _ => z_fail) h b K (zjp n tab K) (zjp_ok h n)
theorem zlv_args {as : List zX} {as' : List Value} (h : zgs as as') : ∀ i, ∃ lv, lv_args i (as'.map (qTv G)) = qLm G lv ∧ (∀ j, zn zdum (zlvs as) j = zdum ∨ ∃ v, qLk (i + j) lv = some v ∧ zg (zn zdum (zlvs as) j) v) ∧ (∀ j, j < i → qLk j lv = none) := by
  induction as generalizing as' with
  | nil =>
    cases as' with
    | nil => exact fun i => ⟨[], rfl, fun j => Or.inl rfl, fun j _ => rfl⟩
    | cons => exact h.elim
  | cons x as ih =>
    cases as' with
    | nil => exact h.elim
    | cons v as' =>
      intro i
      obtain ⟨h1, h2⟩ := h
      have e0 : zlvs (x :: as) = bif zisL x then x :: zdum :: zlvs as else x :: zlvs as := rfl
      have e1 : lv_args i ((v :: as').map (qTv G)) = (i, qTv G v) :: lv_args (if v.category = 2 then i + 2 else i + 1) (as'.map (qTv G)) := by
        show (i, qTv G v) :: lv_args (if (qTv G v).category = 2 then i + 2 else i + 1) (as'.map (qTv G)) = _
        rw [qTv_cat]
      cases hx : zisL x with
      | false =>
        have hcat : ¬ v.category = 2 := by rw [zisL_t hx h1]; decide
        obtain ⟨lv, a1, a2, a3⟩ := ih h2 (i + 1)
        refine ⟨(i, v) :: lv, by rw [e1, if_neg hcat, a1]; rfl, fun j => ?_, fun j hj => ?_⟩
        · rw [e0, hx, cond_false]
          cases j with
          | zero => exact Or.inr ⟨v, by unfold qLk; rw [if_pos (by omega)], h1⟩
          | succ j =>
            rw [zn_s]
            rcases a2 j with a | ⟨w, b1, b2⟩
            · exact Or.inl a
            · refine Or.inr ⟨w, ?_, b2⟩
              unfold qLk
              rw [if_neg (by omega), ← b1]
              congr 1
              omega
        · unfold qLk
          rw [if_neg (by omega)]
          exact a3 j (by omega)
      | true =>
        have hcat : v.category = 2 := by
          obtain ⟨y, rfl⟩ := zisL_l hx h1
          rfl
        obtain ⟨lv, a1, a2, a3⟩ := ih h2 (i + 2)
        refine ⟨(i, v) :: lv, by rw [e1, if_pos hcat, a1]; rfl, fun j => ?_, fun j hj => ?_⟩
        · rw [e0, hx, cond_true]
          cases j with
          | zero => exact Or.inr ⟨v, by unfold qLk; rw [if_pos (by omega)], h1⟩
          | succ j =>
            rw [zn_s]
            cases j with
            | zero => exact Or.inl rfl
            | succ j =>
              rw [zn_s]
              rcases a2 j with a | ⟨w, b1, b2⟩
              · exact Or.inl a
              · refine Or.inr ⟨w, ?_, b2⟩
                unfold qLk
                rw [if_neg (by omega), ← b1]
                congr 1
                omega
        · unfold qLk
          rw [if_neg (by omega)]
          exact a3 j (by omega)
theorem zsl_len : ∀ {as : List zX} {as' : List Value}, zgs as as' → (lg_sl (as'.map (qTv G))).length = zcat as := by
  intro as as' h
  rw [← zcat_t h]
  clear h
  induction as' with
  | nil => rfl
  | cons v as' ih =>
    have e : qCat (v :: as') = v.category + qCat as' := rfl
    rw [e, ← ih]
    unfold lg_sl
    rw [List.map_cons, List.flatMap_cons, List.length_append, qTv_cat]
    cases v <;> rfl
theorem zmet_ok {N : qMn} {mx : Nat} {tab : List zBl} {pcs : List Nat} (hy : plainName N.1.cls = true) (hx : N.2.2.1 = mx) (h0 : zn 0 pcs 0 = 0) (h : zT (zPb l G gh d N pcs) tab pcs) : zC l G gh d N (zmet mx tab) := by
  intro as t A K hr as' I L R hs hm
  obtain ⟨h1, h2⟩ := zand hr
  have h3 := Nat.le_of_ble_eq_true h1
  obtain ⟨lv, a1, a2, -⟩ := zlv_args (G := G) hs 0
  refine qCall_of hy (by rw [zsl_len hs, hx]; exact h3) lv a1 ?_
  have hj := zjp_ok (K := K) h 1000000 0
  rw [h0] at hj
  exact hj (zlvs as) [] 0 0 t A h2 lv [] I L R (fun j => by have := a2 j; rwa [Nat.zero_add] at this) trivial ⟨hm, Nat.zero_le _, Nat.zero_le _⟩
end ZU
