/-! ===== stands, sure, look: the class's, that they return and leave the rest alone ===== -/
def tRf (R : qMR) : Prop := R 249 1 = some 250 ∧ R 249 2 = some 251 ∧ R 249 3 = some 252 ∧ R 249 4 = some 253 ∧ R 249 5 = some 254
def cQt (o : Nat) (I J : qMI) : Prop := ∀ k, k ≠ o + 10 → k ≠ o + 11 → k ≠ 253 → k ≠ 254 → J k = I k
theorem cQt_rf (o : Nat) (I : qMI) : cQt o I I := fun _ _ _ _ _ => rfl
theorem cQt_tr {o : Nat} {I J K : qMI} (h : cQt o I J) (g : cQt o J K) : cQt o I K := fun k a b c e => (g k a b c e).trans (h k a b c e)
theorem cQt_q {o : Nat} {I J : qMI} (h : cQ o I J) : cQt o I J := fun k a b _ _ => h k a b
section
variable {l : Launch} {G : qG} {d : Nat} {I : qMI} {L : qML} {R : qMR} {o n : Nat} {A : aD} {f : Nat → Int32} {h sl : Nat → Nat → Int32}
theorem cHas_qt {J : qMI} (e : cQt o I J) (g : cHas o I R A) : cHas o J R A := by
  have ho := g.1
  exact cHas_fr (fun k a b => e k (by omega) (by omega) (by omega) (by omega)) g
theorem cS_qt {J : qMI} (s : cS o A f n h sl I R) (e : cQt o I J) : cS o A f n h sl J R := by
  have ho := s.1.1.1
  exact cS_of s (fun k a => e k (by omega) (by omega) (by omega) (by omega))
theorem sXof {x : Int32} : wkCi l G (d + 1) n_X7_xOf [.int x] I L R (fun _ I' L' R' => R' = R ∧ L' = L ∧ I' = I) :=
  wkC_of 0 (by decide) (Nat.le_of_ble_eq_true rfl) (w_X7_xOf_0 ⟨rfl, _, rfl, rfl, rfl, rfl⟩)
theorem sTof {x : Int32} : wkCi l G (d + 1) n_X7_tallOf [.int x] I L R (fun _ I' L' R' => R' = R ∧ L' = L ∧ I' = I) :=
  wkC_of 0 (by decide) (Nat.le_of_ble_eq_true rfl) (w_X7_tallOf_0 ⟨rfl, _, rfl, rfl, rfl, rfl⟩)
theorem sIsSo (hL : cHas o I R A) (t : tRf R) {a x w : Int32} {i : Nat} (ha : a.toInt = i) (hi : i < 20) : wkCi l G (d + 5) n_X7_isSo [.ref 249, .ref o, .int a, .int x, .int w] I L R (fun _ I' L' R' => R' = R ∧ L' = L ∧ cQ o I I') := by
  obtain ⟨t1, t2, t3, -, -⟩ := t
  have ho := hL.1
  have va : vp_in a 20 := vin (by omega) (by omega)
  refine wkC_of 0 (by decide) (Nat.le_of_ble_eq_true rfl) (w_X7_isSo_0 ho hL.2.2.1.1 t3 va t1 va (sXof (d := d + 3)) (fun y I1 L1 R1 hq => ?_))
  obtain ⟨rfl, rfl, rfl⟩ := hq
  refine w_X7_isSo_22 ho (sTof (d := d + 3)) (fun y2 I1 L1 R1 hq => ?_)
  obtain ⟨rfl, rfl, rfl⟩ := hq
  refine w_X7_isSo_26 ho (sAim (d := d + 3) ho hL.2.1.2.1) (fun I2 L2 R2 hq => ?_)
  obtain ⟨rfl, rfl, f1, v1⟩ := hq
  refine w_X7_isSo_29 ho hL.2.2.1.1 (sSpot2 (d := d) (cHas_q (cV_q f1) hL) v1) (fun z I3 L3 R3 hq => ?_)
  obtain ⟨rfl, rfl, f3, rfl⟩ := hq
  have j := cQ_tr (cV_q f1) f3
  exact w_X7_isSo_36 ho t2 va (fun _ => w_X7_isSo_49 ho (w_X7_isSo_50 ho ⟨rfl, _, rfl, rfl, rfl, j⟩ (Or.inl rfl))) (fun _ => w_X7_isSo_45 ho (w_X7_isSo_50 ho ⟨rfl, _, rfl, rfl, rfl, j⟩ (Or.inr rfl)))
theorem sSi0 (ho : o = 9 ∨ o = 259) (t : tRf R) {Q : qQ} {k : Int32} : ∀ (m i : Nat) (x : Int32) (J : qMI), i + m = 180 → x.toInt = i → cQt o I J → (∀ (x' : Int32) (J' : qMI), cQt o I J' → wkB l G (d + 5 + 1) n_X7_sift Q 22 [.ref 249, .ref o, .int k, .int x', wkU, wkU, wkU] [] J' L R) → wkB l G (d + 5 + 1) n_X7_sift Q 2 [.ref 249, .ref o, .int k, .int x, wkU, wkU, wkU] [] J L R := by
  have z18 : (180 : Int32).toInt = 180 := rfl
  intro m
  induction m with
  | zero =>
    intro i x J hn hx hJ q0
    exact w_X7_sift_2 ho (fun _ => q0 x J hJ) (fun q => absurd (i_le.mpr (by omega)) q)
  | succ m ih =>
    intro i x J hn hx hJ q0
    have x1 : (x + 1).toInt = ((i + 1 : Nat) : Int) := by rw [i_s (by omega)]; omega
    exact w_X7_sift_2 ho (fun q => absurd (i_le.mp q) (by omega)) (fun _ => w_X7_sift_9 ho t.2.2.2.1 (vin (by omega) (by omega)) (ih (i + 1) _ _ (by omega) x1 (cQt_tr hJ (fun k _ _ c _ => qUp_ro c)) q0))
theorem sSi1 (hL : cHas o I R A) (t : tRf R) {Q : qQ} {k i w : Int32} {a : Nat} (hi : i.toInt = a) (ha : a < 20) : ∀ (m e : Nat) (x lf : Int32) (J : qMI), e + m = 180 → x.toInt = e → cQt o I J → (∀ (lf' x' : Int32) (J' : qMI), cQt o I J' → wkB l G (d + 5 + 1) n_X7_sift Q 109 [.ref 249, .ref o, .int k, .int lf', .int i, .int w, .int x'] [] J' L R) → wkB l G (d + 5 + 1) n_X7_sift Q 60 [.ref 249, .ref o, .int k, .int lf, .int i, .int w, .int x] [] J L R := by
  have z18 : (180 : Int32).toInt = 180 := rfl
  have ho := hL.1
  intro m
  induction m with
  | zero =>
    intro e x lf J hn hx hJ q0
    exact w_X7_sift_60 ho (fun _ => q0 lf x J hJ) (fun q => absurd (i_le.mpr (by omega)) q)
  | succ m ih =>
    intro e x lf J hn hx hJ q0
    have x1 : (x + 1).toInt = ((e + 1 : Nat) : Int) := by rw [i_s (by omega)]; omega
    have vx : vp_in x 180 := vin (by omega) (by omega)
    have go : ∀ (lf' : Int32) (K : qMI), cQt o I K → wkB l G (d + 5 + 1) n_X7_sift Q 103 [.ref 249, .ref o, .int k, .int lf', .int i, .int w, .int x] [] K L R := fun lf' K hK => w_X7_sift_103 ho (ih (e + 1) _ lf' K (by omega) x1 hK q0)
    refine w_X7_sift_60 ho (fun q => absurd (i_le.mp q) (by omega)) (fun _ => w_X7_sift_68 ho t.2.2.2.1 vx (fun _ => go lf J hJ) (fun _ => w_X7_sift_78 ho (sIsSo (d := d) (cHas_qt hJ hL) t hi ha) (fun z I2 L2 R2 hq => ?_)))
    obtain ⟨rfl, rfl, f2⟩ := hq
    have j2 := cQt_tr hJ (cQt_q f2)
    exact w_X7_sift_89 ho (fun _ => go _ _ j2) (fun _ => w_X7_sift_92 ho t.2.2.2.1 vx (go _ _ (cQt_tr j2 (fun k _ _ c _ => qUp_ro c))))
theorem sSi2 (hL : cHas o I R A) (t : tRf R) (hz : 0 ≤ (I 249 0).toInt ∧ (I 249 0).toInt ≤ 20) {Q : qQ} {k : Int32} : ∀ (m a : Nat) (i lf : Int32) (J : qMI), a + m = 20 → i.toInt = a → cQt o I J → (∀ (lf' i' : Int32) (J' : qMI), cQt o I J' → wkB l G (d + 5 + 1) n_X7_sift Q 115 [.ref 249, .ref o, .int k, .int lf', .int i', wkU, wkU] [] J' L R) → wkB l G (d + 5 + 1) n_X7_sift Q 29 [.ref 249, .ref o, .int k, .int lf, .int i, wkU, wkU] [] J L R := by
  have ho := hL.1
  intro m
  induction m with
  | zero =>
    intro a i lf J hn hi hJ q0
    have e0 : J 249 = I 249 := hJ 249 (by omega) (by omega) (by decide) (by decide)
    exact w_X7_sift_29 ho (fun _ => q0 lf i J hJ) (fun _ => w_X7_sift_35 ho (fun _ => q0 lf i J hJ) (fun q => absurd (i_le.mpr (by rw [e0]; omega)) q))
  | succ m ih =>
    intro a i lf J hn hi hJ q0
    have i1 : (i + 1).toInt = ((a + 1 : Nat) : Int) := by rw [i_s (by omega)]; omega
    refine w_X7_sift_29 ho (fun _ => q0 lf i J hJ) (fun _ => w_X7_sift_35 ho (fun _ => q0 lf i J hJ) (fun q => w_X7_sift_44 ho t.2.2.1 (vin (by omega) (by omega)) (sHeat (d := d + 1) (cHas_qt hJ hL)) (fun z I2 L2 R2 hq => ?_)))
    obtain ⟨rfl, rfl, f2, rfl⟩ := hq
    exact w_X7_sift_55 ho (sSi1 (d := d) hL t hi (by omega) 180 0 0 lf I2 (by omega) rfl (cQt_tr hJ (cQt_q f2)) (fun lf' x' J' j => w_X7_sift_109 ho (ih (a + 1) _ lf' J' (by omega) i1 j q0)))
theorem sSift (hL : cHas o I R A) (t : tRf R) (hz : 0 ≤ (I 249 0).toInt ∧ (I 249 0).toInt ≤ 20) {k : Int32} : wkCi l G (d + 6) n_X7_sift [.ref 249, .ref o, .int k] I L R (fun _ I' L' R' => R' = R ∧ L' = L ∧ cQt o I I') :=
  wkC_of 4 (by decide) (Nat.le_of_ble_eq_true rfl) (w_X7_sift_0 hL.1 (sSi0 (d := d) (I := I) hL.1 t 180 0 0 I (by omega) rfl (cQt_rf o I) (fun x' J' j => w_X7_sift_22 hL.1 (sSi2 (d := d) hL t hz 20 0 0 180 J' (by omega) rfl j (fun lf' i' J2 j2 => w_X7_sift_115 hL.1 ⟨rfl, _, rfl, rfl, rfl, j2⟩)))))
theorem sCoL (t : R 249 4 = some 253) {Q : qQ} {w : Int32} (q0 : ∀ z, Q (some (.int z)) 336 I L R) : ∀ (m e : Nat) (x y : Int32), e + m = 180 → x.toInt = e → wkB l G (d + 1 + 1) n_X7_common Q 5 [.ref 249, .int w, .int y, .int x, wkU] [] I L R := by
  have z18 : (180 : Int32).toInt = 180 := rfl
  intro m
  induction m with
  | zero =>
    intro e x y hn hx
    exact w_X7_common_5 (fun _ => w_X7_common_75 (q0 _)) (fun q => absurd (i_le.mpr (by omega)) q)
  | succ m ih =>
    intro e x y hn hx
    have x1 : (x + 1).toInt = ((e + 1 : Nat) : Int) := by rw [i_s (by omega)]; omega
    have vx : vp_in x 180 := vin (by omega) (by omega)
    have at53 : ∀ u, wkB l G (d + 1 + 1) n_X7_common Q 53 [.ref 249, .int w, .int y, .int x, .int u] [] I L R := fun u => w_X7_common_53 t vx (fun _ => w_X7_common_67 (w_X7_common_68 (ih (e + 1) _ _ (by omega) x1))) (fun _ => w_X7_common_62 (w_X7_common_68 (ih (e + 1) _ _ (by omega) x1)))
    have at27 : ∀ u, wkB l G (d + 1 + 1) n_X7_common Q 27 [.ref 249, .int w, .int y, .int x, wkU] [.int u] I L R := fun u => w_X7_common_27 t vx (fun _ => at53 u) (fun _ => w_X7_common_38 (fun _ => at53 u) (fun _ => w_X7_common_44 (fun _ => at53 u) (fun _ => w_X7_common_50 (q0 _))))
    refine w_X7_common_5 (fun q => absurd (i_le.mp q) (by omega)) (fun _ => w_X7_common_12 (fun _ => w_X7_common_23 (sTof (d := d)) (fun z I1 L1 R1 hq => ?_)) (fun _ => w_X7_common_16 (sXof (d := d)) (fun z I1 L1 R1 hq => ?_)))
    · obtain ⟨rfl, rfl, rfl⟩ := hq
      exact at27 z
    · obtain ⟨rfl, rfl, rfl⟩ := hq
      exact w_X7_common_20 (at27 z)
theorem sCommon (t : R 249 4 = some 253) {w : Int32} : wkCi l G (d + 2) n_X7_common [.ref 249, .int w] I L R (fun _ I' L' R' => R' = R ∧ L' = L ∧ I' = I) :=
  wkC_of 3 (by decide) (Nat.le_of_ble_eq_true rfl) (w_X7_common_0 (sCoL (d := d) t (fun z => ⟨rfl, _, rfl, rfl, rfl, rfl⟩) 180 0 0 (-2) (by omega) rfl))
theorem sWl0 (ho : o = 9 ∨ o = 259) (t : tRf R) {Q : qQ} {fr wh wm : Int32} : ∀ (m i : Nat) (x : Int32) (J : qMI), i + m = 21 → x.toInt = i → cQt o I J → (∀ (x' : Int32) (J' : qMI), cQt o I J' → wkB l G (d + 4 + 1) n_X7_worstLeft Q 24 [.ref 249, .ref o, .int fr, .int wh, .int wm, .int x', wkU, wkU] [] J' L R) → wkB l G (d + 4 + 1) n_X7_worstLeft Q 3 [.ref 249, .ref o, .int fr, .int wh, .int wm, .int x, wkU, wkU] [] J L R := by
  have z20 : (20 : Int32).toInt = 20 := rfl
  intro m
  induction m with
  | zero =>
    intro i x J hn hx hJ q0
    exact w_X7_worstLeft_3 ho (fun _ => q0 x J hJ) (fun q => absurd (i_lt.mpr (by omega)) q)
  | succ m ih =>
    intro i x J hn hx hJ q0
    have x1 : (x + 1).toInt = ((i + 1 : Nat) : Int) := by rw [i_s (by omega)]; omega
    exact w_X7_worstLeft_3 ho (fun q => absurd (i_lt.mp q) (by omega)) (fun _ => w_X7_worstLeft_10 ho t.2.2.2.2 (vin (by omega) (by omega)) (ih (i + 1) _ _ (by omega) x1 (cQt_tr hJ (fun k _ _ _ c => qUp_ro c)) q0))
theorem pSp_1 {hr w x tx tl : Int32} : vp_in (pSp A hr w x tx tl + 1) 21 := by
  by_cases c : pSp A hr w x tx tl = -1
  · rw [c]
    exact vin (by decide) (by decide)
  · have b := pSp_b c
    have e : (pSp A hr w x tx tl + 1).toInt = (pSp A hr w x tx tl).toInt + 1 := i_s (by omega)
    exact vin (by omega) (by omega)
theorem sWl1 (hL : cHas o I R A) (t : tRf R) {Q : qQ} {fr wh wm : Int32} : ∀ (m e : Nat) (x w : Int32) (J : qMI), e + m = 180 → x.toInt = e → cQt o I J → (∀ (w' x' : Int32) (J' : qMI), cQt o I J' → wkB l G (d + 4 + 1) n_X7_worstLeft Q 111 [.ref 249, .ref o, .int fr, .int wh, .int wm, .int w', .int x', wkU] [] J' L R) → wkB l G (d + 4 + 1) n_X7_worstLeft Q 30 [.ref 249, .ref o, .int fr, .int wh, .int wm, .int w, .int x, wkU] [] J L R := by
  have z18 : (180 : Int32).toInt = 180 := rfl
  have ho := hL.1
  obtain ⟨-, -, -, t4, t5⟩ := t
  intro m
  induction m with
  | zero =>
    intro e x w J hn hx hJ q0
    exact w_X7_worstLeft_30 ho (fun _ => q0 w x J hJ) (fun q => absurd (i_le.mpr (by omega)) q)
  | succ m ih =>
    intro e x w J hn hx hJ q0
    have x1 : (x + 1).toInt = ((e + 1 : Nat) : Int) := by rw [i_s (by omega)]; omega
    have vx : vp_in x 180 := vin (by omega) (by omega)
    have hLJ := cHas_qt hJ hL
    refine w_X7_worstLeft_30 ho (fun q => absurd (i_le.mp q) (by omega)) (fun _ => w_X7_worstLeft_38 ho t4 vx (fun _ => w_X7_worstLeft_105 ho (ih (e + 1) _ _ _ (by omega) x1 hJ q0)) (fun _ => w_X7_worstLeft_48 ho hL.2.2.1.1 (sXof (d := d + 3)) (fun y I1 L1 R1 hq => ?_)))
    obtain ⟨rfl, rfl, rfl⟩ := hq
    refine w_X7_worstLeft_61 ho (sTof (d := d + 3)) (fun y2 I1 L1 R1 hq => ?_)
    obtain ⟨rfl, rfl, rfl⟩ := hq
    refine w_X7_worstLeft_66 ho (sAim (d := d + 3) ho hL.2.1.2.1) (fun I2 L2 R2 hq => ?_)
    obtain ⟨rfl, rfl, f1, v1⟩ := hq
    refine w_X7_worstLeft_69 ho hL.2.2.1.1 (sSpot2 (d := d) (cHas_q (cV_q f1) hLJ) v1) (fun z I3 L3 R3 hq => ?_)
    obtain ⟨rfl, rfl, f3, rfl⟩ := hq
    have j := cQt_tr hJ (cQt_tr (cQt_q (cV_q f1)) (cQt_q f3))
    exact w_X7_worstLeft_76 ho t5 pSp_1 pSp_1 t5 pSp_1 (w_X7_worstLeft_105 ho (ih (e + 1) _ _ _ (by omega) x1 (cQt_tr j (fun k _ _ _ c => qUp_ro c)) q0))
theorem sWorst (hL : cHas o I R A) (t : tRf R) {fr wh wm : Int32} : wkCi l G (d + 5) n_X7_worstLeft [.ref 249, .ref o, .int fr, .int wh, .int wm] I L R (fun _ I' L' R' => R' = R ∧ L' = L ∧ cQt o I I') :=
  wkC_of 3 (by decide) (Nat.le_of_ble_eq_true rfl) (w_X7_worstLeft_0 hL.1 (sWl0 (d := d) (I := I) hL.1 t 21 0 0 I (by omega) rfl (cQt_rf o I) (fun x' J' j => w_X7_worstLeft_24 hL.1 (sWl1 (d := d) hL t 180 0 0 0 J' (by omega) rfl j (fun w' x2 J2 j2 => w_X7_worstLeft_111 hL.1 ⟨rfl, _, rfl, rfl, rfl, j2⟩)))))
theorem sLkL (hL : cHas o I R A) (t : tRf R) {Q : qQ} {wh wm : Int32} : ∀ (m e : Nat) (x b fw : Int32) (J : qMI), e + m = 20 → x.toInt = e → cQt o I J → (∀ (b' fw' x' : Int32) (J' : qMI), cQt o I J' → wkB l G (d + 5 + 1) n_X7_lookFrom Q 56 [.ref 249, .ref o, .int wh, .int wm, .int b', .int fw', .int x', wkU] [] J' L R) → wkB l G (d + 5 + 1) n_X7_lookFrom Q 17 [.ref 249, .ref o, .int wh, .int wm, .int b, .int fw, .int x, wkU] [] J L R := by
  have z20 : (20 : Int32).toInt = 20 := rfl
  have ho := hL.1
  intro m
  induction m with
  | zero =>
    intro e x b fw J hn hx hJ q0
    exact w_X7_lookFrom_17 ho (fun _ => q0 b fw x J hJ) (fun q => absurd (i_le.mpr (by omega)) q)
  | succ m ih =>
    intro e x b fw J hn hx hJ q0
    have x1 : (x + 1).toInt = ((e + 1 : Nat) : Int) := by rw [i_s (by omega)]; omega
    refine w_X7_lookFrom_17 ho (fun q => absurd (i_le.mp q) (by omega)) (fun _ => w_X7_lookFrom_24 ho (sWorst (d := d) (cHas_qt hJ hL) t) (fun z I2 L2 R2 hq => ?_))
    obtain ⟨rfl, rfl, f2⟩ := hq
    have j := cQt_tr hJ f2
    exact w_X7_lookFrom_33 ho (fun _ => w_X7_lookFrom_50 ho (ih (e + 1) _ _ _ _ (by omega) x1 j q0)) (fun _ => w_X7_lookFrom_42 ho (w_X7_lookFrom_50 ho (ih (e + 1) _ _ _ _ (by omega) x1 j q0)))
theorem sLookFrom (hL : cHas o I R A) (t : tRf R) {wh : Int32} : wkCi l G (d + 6) n_X7_lookFrom [.ref 249, .ref o, .int wh] I L R (fun _ I' L' R' => R' = R ∧ L' = L ∧ cQt o I I') := by
  refine wkC_of 5 (by decide) (Nat.le_of_ble_eq_true rfl) (w_X7_lookFrom_0 hL.1 (sHeat (d := d + 1) hL) (fun y I1 L1 R1 hq => ?_))
  obtain ⟨rfl, rfl, f1, rfl⟩ := hq
  exact w_X7_lookFrom_5 hL.1 (sLkL (d := d) hL t 20 0 0 0 181 I1 (by omega) rfl (cQt_q f1) (fun b' fw' x' J' j => w_X7_lookFrom_56 hL.1 ⟨rfl, _, rfl, rfl, rfl, j⟩))
theorem sIsKnown (t : R 0 7 = some 249) {k : Int32} : wkCi l G (d + 1) n_X8_isKnown [.ref 0, .int k] I L R (fun _ I' L' R' => R' = R ∧ L' = L ∧ I' = I) :=
  wkC_of 0 (by decide) (Nat.le_of_ble_eq_true rfl) (w_X8_isKnown_0 (fun _ => w_X8_isKnown_19 (w_X8_isKnown_20 ⟨rfl, _, rfl, rfl, rfl, rfl⟩ (Or.inl rfl))) (fun _ => w_X8_isKnown_4 t (fun _ => w_X8_isKnown_19 (w_X8_isKnown_20 ⟨rfl, _, rfl, rfl, rfl, rfl⟩ (Or.inl rfl))) (fun _ => w_X8_isKnown_15 (w_X8_isKnown_20 ⟨rfl, _, rfl, rfl, rfl, rfl⟩ (Or.inr rfl)))))
theorem sStands (hs : cS o A f n h sl I R) (r7 : R 0 7 = some 249) (t : tRf R) (hz : 0 ≤ (I 249 0).toInt ∧ (I 249 0).toInt ≤ 20) {k : Int32} : wkCi l G (d + 7) n_X8_stands [.ref 0, .int k] I L R (fun _ I' L' R' => R' = R ∧ L' = L ∧ cS o A f n h sl I' R') := by
  obtain ⟨⟨hL, hR, h12⟩, s1, s2, s3⟩ := id hs
  refine wkC_of 0 (by decide) (Nat.le_of_ble_eq_true rfl) (w_X8_stands_0 (sIsKnown (d := d + 5) r7) (fun y I1 L1 R1 hq => ?_))
  obtain ⟨rfl, rfl, rfl⟩ := hq
  refine w_X8_stands_5 (fun _ => w_X8_stands_23 (w_X8_stands_24 ⟨rfl, _, rfl, rfl, rfl, hs⟩)) (fun _ => w_X8_stands_8 hL.1 r7 h12 (sSift (d := d) hL t hz) (fun z I2 L2 R2 hq => ?_))
  obtain ⟨rfl, rfl, f2⟩ := hq
  exact w_X8_stands_20 (w_X8_stands_24 ⟨rfl, _, rfl, rfl, rfl, cS_qt hs f2⟩)
theorem sSure (hs : cS o A f n h sl I R) (r7 : R 0 7 = some 249) (t : tRf R) (hz : 0 ≤ (I 249 0).toInt ∧ (I 249 0).toInt ≤ 20) {k w : Int32} : wkCi l G (d + 7) n_X8_sure [.ref 0, .int k, .int w] I L R (fun _ I' L' R' => R' = R ∧ L' = L ∧ cS o A f n h sl I' R') := by
  obtain ⟨⟨hL, hR, h12⟩, s1, s2, s3⟩ := id hs
  refine wkC_of 0 (by decide) (Nat.le_of_ble_eq_true rfl) (w_X8_sure_0 (sIsKnown (d := d + 5) r7) (fun y I1 L1 R1 hq => ?_))
  obtain ⟨rfl, rfl, rfl⟩ := hq
  have bad : wkB l G (d + 6 + 1) n_X8_sure (fun r t' I' L' R' => t' = 336 ∧ ∃ z, r = some (.int z) ∧ R' = R1 ∧ L' = L1 ∧ cS o A f n h sl I' R') 17 [.ref 0, .int k, .int w] [] I1 L1 R1 := w_X8_sure_17 ⟨rfl, _, rfl, rfl, rfl, hs⟩
  refine w_X8_sure_5 (fun _ => bad) (fun _ => w_X8_sure_8 (fun _ => bad) (fun _ => w_X8_sure_12 (fun _ => w_X8_sure_19 hL.1 r7 h12 (sSift (d := d) hL t hz) (fun z I2 L2 R2 hq => ?_)) (fun _ => bad)))
  obtain ⟨rfl, rfl, f2⟩ := hq
  have fin : ∀ u, wkB l G (d + 6 + 1) n_X8_sure (fun r t' I' L' R' => t' = 336 ∧ ∃ z, r = some (.int z) ∧ R' = R2 ∧ L' = L2 ∧ cS o A f n h sl I' R') 45 [.ref 0, .int k, .int w] [.int u, .ref 249] I2 L2 R2 := fun u => by
    refine w_X8_sure_45 (sCommon (d := d + 4) t.2.2.2.1) (fun z I3 L3 R3 hq => ?_)
    obtain ⟨rfl, rfl, rfl⟩ := hq
    exact w_X8_sure_48 ⟨rfl, _, rfl, rfl, rfl, cS_qt hs f2⟩
  exact w_X8_sure_31 r7 (fun _ => w_X8_sure_44 (fin _)) (fun _ => w_X8_sure_40 (fin _))
theorem sLook (hs : cS o A f n h sl I R) (r7 : R 0 7 = some 249) (t : tRf R) (hz : 0 ≤ (I 249 0).toInt ∧ (I 249 0).toInt ≤ 20) {k w : Int32} : wkCi l G (d + 7) n_X8_look [.ref 0, .int k, .int w] I L R (fun _ I' L' R' => R' = R ∧ L' = L ∧ cS o A f n h sl I' R') := by
  obtain ⟨⟨hL, hR, h12⟩, s1, s2, s3⟩ := id hs
  refine wkC_of 0 (by decide) (Nat.le_of_ble_eq_true rfl) (w_X8_look_0 (sIsKnown (d := d + 5) r7) (fun y I1 L1 R1 hq => ?_))
  obtain ⟨rfl, rfl, rfl⟩ := hq
  have bad : wkB l G (d + 6 + 1) n_X8_look (fun r t' I' L' R' => t' = 336 ∧ ∃ z, r = some (.int z) ∧ R' = R1 ∧ L' = L1 ∧ cS o A f n h sl I' R') 18 [.ref 0, .int k, .int w] [] I1 L1 R1 := w_X8_look_18 ⟨rfl, _, rfl, rfl, rfl, hs⟩
  refine w_X8_look_5 (fun _ => bad) (fun _ => w_X8_look_8 (fun _ => bad) (fun _ => w_X8_look_12 (fun _ => w_X8_look_20 hL.1 r7 h12 (sSift (d := d) hL t hz) (fun z I2 L2 R2 hq => ?_)) (fun _ => bad)))
  obtain ⟨rfl, rfl, f2⟩ := hq
  refine w_X8_look_32 (fun _ => w_X8_look_40 hL.1 r7 h12 hR.1.1 (sLookFrom (d := d) (cHas_qt f2 hL) t) (fun z I3 L3 R3 hq => ?_)) (fun _ => w_X8_look_35 (w_X8_look_60 ⟨rfl, _, rfl, rfl, rfl, cS_qt hs f2⟩))
  obtain ⟨rfl, rfl, f3⟩ := hq
  exact w_X8_look_60 ⟨rfl, _, rfl, rfl, rfl, cS_qt hs (cQt_tr f2 f3)⟩
end
