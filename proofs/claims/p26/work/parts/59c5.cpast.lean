/-! ===== the class: the ring, the hours ===== -/
section
variable {l : Launch} {G : qG} {d : Nat} {I : qMI} {L : qML} {R : qMR} {o b : Nat} {A : aD} {f : Nat → Int32}
theorem sPush (hR : cRs R) (hs : sEq I 21 f) {n : Nat} {h : Nat → Nat → Int32} (hp : pEq I n h) : wkCv l G (d + 2) n_X3_push [.ref 35, .ref 21] I L R (fun I' L' R' => R' = R ∧ L' = L ∧ (∀ k, (k < 35 ∨ 246 < k) → I' k = I k) ∧ pEq I' (hN n) (hH n h f)) := by
  obtain ⟨p1, p2, x, p3, p4, p5⟩ := hp
  obtain ⟨-, r0, r1, -, r3⟩ := hR
  have hb := bRing p4
  have cx : (I 35 1).toNatClampNeg = x := by rw [tcn]; omega
  refine wkC_of 0 (by decide) (Nat.le_of_ble_eq_true rfl) (w_X3_push_0 (b := 37 + 7 * x) hb r0 (vin (by omega) (by omega)) (by rw [cx]; exact r1 x p4) (sCopy (d := d) hb bNow (r3 _ hb) (r3 _ bNow)) (fun I1 L1 R1 hq => ?_))
  obtain ⟨rfl, rfl, rfl⟩ := hq
  have hd : 37 + 7 * x + 6 < 21 ∨ 21 + 6 < 37 + 7 * x := by omega
  have e35 : cpM I (37 + 7 * x) 21 35 = I 35 := cpM_fr (by omega)
  have er : (I 35 1 + 1 - (I 35 1 + 1) / 30 * 30).toInt = ((x + 1) % 30 : Nat) := by
    have all : ∀ x, x < 30 → (Int32.ofNat x + 1 - (Int32.ofNat x + 1) / 30 * 30).toInt = ((x + 1) % 30 : Nat) := by decide +kernel
    rw [i_nat p3]
    exact all x p4
  have s1 : (I 35 2 + 1).toInt = n + 1 := by rw [i_s (by omega), p1]
  refine w_X3_push_13 ⟨rfl, rfl, rfl, rfl, fun k hk => ?_, ?_, ?_, (x + 1) % 30, ?_, Nat.mod_lt _ (by decide), fun i hi => ?_⟩
  · rw [qUp_ro (by omega), qUp_ro (by omega), cpM_fr (by omega)]
  · rw [qUp_at, if_pos ⟨rfl, rfl⟩, qUp_at, if_neg (show ¬ (35 = 35 ∧ 2 = 1) by decide), e35]
    unfold hN
    by_cases c : n < 30
    · rw [if_pos c, if_neg (fun q => by have := i_lt.mp q; rw [show (30 : Int32).toInt = 30 from rfl] at this; omega), s1]
      omega
    · rw [if_neg c, if_pos (i_lt.mpr (by rw [show (30 : Int32).toInt = 30 from rfl]; omega))]
      rfl
  · unfold hN
    split <;> omega
  · rw [qUp_at, if_neg (by decide), qUp_at, if_pos ⟨rfl, rfl⟩, e35]
    exact er
  · have keep : ∀ j, j < 30 → j ≠ x → ∀ g, sEq I (37 + 7 * j) g → sEq (qUp (qUp (cpM I (37 + 7 * x) 21) 35 1 ((cpM I (37 + 7 * x) 21) 35 1 + 1 - ((cpM I (37 + 7 * x) 21) 35 1 + 1) / 30 * 30)) 35 2 (if 30 < (qUp (cpM I (37 + 7 * x) 21) 35 1 ((cpM I (37 + 7 * x) 21) 35 1 + 1 - ((cpM I (37 + 7 * x) 21) 35 1 + 1) / 30 * 30)) 35 2 + 1 then 30 else (qUp (cpM I (37 + 7 * x) 21) 35 1 ((cpM I (37 + 7 * x) 21) 35 1 + 1 - ((cpM I (37 + 7 * x) 21) 35 1 + 1) / 30 * 30)) 35 2 + 1)) (37 + 7 * j) g := fun j hj hx g hg => sEq_of hg (fun k a b => by rw [qUp_ro (by omega), qUp_ro (by omega), cpM_fr (by omega)])
    have here : sEq (qUp (qUp (cpM I (37 + 7 * x) 21) 35 1 ((cpM I (37 + 7 * x) 21) 35 1 + 1 - ((cpM I (37 + 7 * x) 21) 35 1 + 1) / 30 * 30)) 35 2 (if 30 < (qUp (cpM I (37 + 7 * x) 21) 35 1 ((cpM I (37 + 7 * x) 21) 35 1 + 1 - ((cpM I (37 + 7 * x) 21) 35 1 + 1) / 30 * 30)) 35 2 + 1 then 30 else (qUp (cpM I (37 + 7 * x) 21) 35 1 ((cpM I (37 + 7 * x) 21) 35 1 + 1 - ((cpM I (37 + 7 * x) 21) 35 1 + 1) / 30 * 30)) 35 2 + 1)) (37 + 7 * x) f := sEq_of (cpM_eq hd hs) (fun k a b => by rw [qUp_ro (by omega), qUp_ro (by omega)])
    unfold hN at hi ⊢
    unfold hH
    by_cases c : n < 30
    · rw [if_pos c] at hi ⊢
      rw [if_pos c]
      by_cases ei : i = n
      · rw [if_pos ei, ei, show ((x + 1) % 30 + 30 - (n + 1) + n) % 30 = x by omega]
        exact here
      · rw [if_neg ei, show ((x + 1) % 30 + 30 - (n + 1) + i) % 30 = (x + 30 - n + i) % 30 by omega]
        exact keep _ (Nat.mod_lt _ (by decide)) (by omega) _ (p5 i (by omega))
    · rw [if_neg c] at hi ⊢
      rw [if_neg c]
      obtain rfl : n = 30 := by omega
      by_cases ei : i = 29
      · rw [if_pos ei, ei, show ((x + 1) % 30 + 30 - 30 + 29) % 30 = x by omega]
        exact here
      · rw [if_neg ei, show ((x + 1) % 30 + 30 - 30 + i) % 30 = (x + 30 - 30 + (i + 1)) % 30 by omega]
        exact keep _ (Nat.mod_lt _ (by decide)) (by omega) _ (p5 (i + 1) (by omega))
theorem sClear : wkCv l G (d + 1) n_X3_clear [.ref 35] I L R (fun I' L' R' => R' = R ∧ L' = L ∧ I' = qUp I 35 2 0) :=
  wkC_of 0 (by decide) (Nat.le_of_ble_eq_true rfl) (w_X3_clear_0 ⟨rfl, rfl, rfl, rfl, rfl⟩)
theorem pEq_0 {n : Nat} {h h' : Nat → Nat → Int32} (hp : pEq I n h) : pEq (qUp I 35 2 0) 0 h' := by
  obtain ⟨p1, p2, x, p3, p4, p5⟩ := hp
  refine ⟨by rw [qUp_at, if_pos ⟨rfl, rfl⟩]; rfl, by decide, x, by rw [qUp_at, if_neg (by decide)]; exact p3, p4, fun i hi => absurd hi (by omega)⟩
theorem pEq_of {J : qMI} {n : Nat} {h : Nat → Nat → Int32} (hp : pEq I n h) (e : ∀ k, 35 ≤ k → k ≤ 246 → J k = I k) : pEq J n h := by
  obtain ⟨p1, p2, x, p3, p4, p5⟩ := hp
  have e35 := e 35 (by decide) (by decide)
  exact ⟨by rw [e35]; exact p1, p2, x, by rw [e35]; exact p3, p4, fun i hi => sEq_of (p5 i hi) (fun k a b => e k (by omega) (by omega))⟩
theorem sPop (hR : cRs R) {n : Nat} {h : Nat → Nat → Int32} (hp : pEq I n h) : wkCi l G (d + 2) n_X3_pop [.ref 35, .ref 21] I L R (fun y I' L' R' => R' = R ∧ L' = L ∧ (∀ k, (k < 21 ∨ 27 < k) → k ≠ 35 → I' k = I k) ∧ ((n = 0 ∧ y = 0 ∧ I' = I) ∨ (0 < n ∧ y = 1 ∧ sEq I' 21 (h (n - 1)) ∧ pEq I' (n - 1) h))) := by
  obtain ⟨p1, p2, x, p3, p4, p5⟩ := hp
  obtain ⟨-, r0, r1, -, r3⟩ := hR
  have hb : 37 + 7 * ((x + 29) % 30) ∈ bL := bRing (Nat.mod_lt _ (by decide))
  have er : (Int32.ofNat x + 30 - 1 - (Int32.ofNat x + 30 - 1) / 30 * 30) = Int32.ofNat ((x + 29) % 30) := by
    have all : ∀ x, x < 30 → (Int32.ofNat x + 30 - 1 - (Int32.ofNat x + 30 - 1) / 30 * 30) = Int32.ofNat ((x + 29) % 30) := by decide +kernel
    exact all x p4
  have et : (Int32.ofNat ((x + 29) % 30)).toInt = ((x + 29) % 30 : Nat) := Int32.toInt_ofNat_of_lt (by omega)
  have m30 := Nat.mod_lt (x + 29) (show 0 < 30 by decide)
  refine wkC_of 0 (by decide) (Nat.le_of_ble_eq_true rfl) (w_X3_pop_0 (fun q => ?_) (fun q => w_X3_pop_7 ⟨rfl, _, rfl, rfl, rfl, fun _ _ _ => rfl, Or.inl ⟨?_, rfl, rfl⟩⟩))
  · have n0 : 0 < n := by
      refine Nat.pos_of_ne_zero (fun z => q (i_eq.mpr ?_))
      rw [p1, z]
      rfl
    refine w_X3_pop_9 (b := 37 + 7 * ((x + 29) % 30)) hb r0 ?_ ?_ (sCopy (d := d) bNow hb (r3 _ bNow) (r3 _ hb)) (fun I1 L1 R1 hq => ?_)
    · rw [qUp_at, if_pos ⟨rfl, rfl⟩, qUp_at, if_neg (by decide), i_nat p3, er]
      exact vin (by omega) (by omega)
    · rw [qUp_at, if_pos ⟨rfl, rfl⟩, qUp_at, if_neg (by decide), i_nat p3, er, tcn, et]
      exact r1 _ m30
    obtain ⟨rfl, rfl, rfl⟩ := hq
    have hd : 21 + 6 < 37 + 7 * ((x + 29) % 30) ∨ 37 + 7 * ((x + 29) % 30) + 6 < 21 := by omega
    refine w_X3_pop_48 ⟨rfl, _, rfl, rfl, rfl, fun k a b => by rw [cpM_fr (by omega), qUp_ro b, qUp_ro b], Or.inr ⟨n0, rfl, cpM_eq hd (sEq_of (f := h (n - 1)) ?_ (fun k a b => by rw [qUp_ro (by omega), qUp_ro (by omega)])), ?_, by omega, (x + 29) % 30, ?_, m30, fun i hi => ?_⟩⟩
    · have := p5 (n - 1) (by omega)
      rw [show (x + 30 - n + (n - 1)) % 30 = (x + 29) % 30 by omega] at this
      exact this
    · rw [cpM_fr (by omega), qUp_at, if_neg (by decide), qUp_at, if_pos ⟨rfl, rfl⟩, i_p' (by omega), p1]
      omega
    · rw [cpM_fr (by omega), qUp_at, if_pos ⟨rfl, rfl⟩, qUp_at, if_neg (by decide), i_nat p3, er]
      exact et
    · refine sEq_of ?_ (fun k a b => by rw [cpM_fr (by omega), qUp_ro (by omega), qUp_ro (by omega)])
      have := p5 i (by omega)
      rw [show (x + 30 - n + i) % 30 = ((x + 29) % 30 + 30 - (n - 1) + i) % 30 by omega] at this
      exact this
  · have := i_eq.mp q
    rw [show (0 : Int32).toInt = 0 from rfl] at this
    omega
theorem sStir {x y : Int32} : wkCi l G (d + 1) n_X0_stirred [.int x, .int y] I L R (fun z I' L' R' => R' = R ∧ L' = L ∧ I' = I ∧ z = stP x y) :=
  wkC_of 1 (by decide) (Nat.le_of_ble_eq_true rfl) (w_X0_stirred_0 ⟨rfl, _, rfl, rfl, rfl, rfl, rfl⟩)
theorem sLot {x y : Int32} : wkCi l G (d + 2) n_X0_lot [.int x, .int y] I L R (fun z I' L' R' => R' = R ∧ L' = L ∧ I' = I ∧ z = loP x y) := by
  refine wkC_of 1 (by decide) (Nat.le_of_ble_eq_true rfl) (w_X0_lot_0 (sStir (d := d)) (fun z I1 L1 R1 hq => ?_))
  obtain ⟨rfl, rfl, rfl, rfl⟩ := hq
  refine w_X0_lot_6 (sStir (d := d)) (fun z I1 L1 R1 hq => ?_)
  obtain ⟨rfl, rfl, rfl, rfl⟩ := hq
  exact w_X0_lot_10 ⟨rfl, _, rfl, rfl, rfl, rfl, rfl⟩
theorem sWind {x s w : Int32} : wkCi l G (d + 3) n_X0_isWind [.int x, .int s, .int w] I L R (fun z I' L' R' => R' = R ∧ L' = L ∧ I' = I ∧ z = wdP s w x) := by
  refine wkC_of 0 (by decide) (Nat.le_of_ble_eq_true rfl) (w_X0_isWind_0 (sLot (d := d)) (fun z I1 L1 R1 hq => ?_))
  obtain ⟨rfl, rfl, rfl, rfl⟩ := hq
  refine w_X0_isWind_7 (fun q => w_X0_isWind_15 (w_X0_isWind_16 ⟨rfl, _, rfl, rfl, rfl, rfl, ?_⟩ (Or.inl rfl))) (fun q => w_X0_isWind_11 (w_X0_isWind_16 ⟨rfl, _, rfl, rfl, rfl, rfl, ?_⟩ (Or.inr rfl)))
  · unfold wdP
    rw [if_pos q]
  · unfold wdP
    rw [if_neg q]
theorem sHeat (hL : cHas o I R A) {h : Int32} : wkCi l G (d + 4) n_X0_heat [.ref o, .int h] I L R (fun y I' L' R' => R' = R ∧ L' = L ∧ cQ o I I' ∧ y = pHt A h) := by
  refine wkC_of 0 (by decide) (Nat.le_of_ble_eq_true rfl) (w_X0_heat_0 hL.1 hL.2.2.1.1 (sHeat2 (d := d) hL) (fun y I1 L1 R1 hq => ?_))
  obtain ⟨rfl, rfl, q, rfl⟩ := hq
  exact w_X0_heat_8 hL.1 ⟨rfl, _, rfl, rfl, rfl, q, rfl⟩
theorem sSeenFrom (hL : cHas o I R A) {x y h w : Int32} {e : Nat} (he : y.toInt = e) (hE : e < A.1.length) : wkCi l G (d + 4) n_X0_isSeenFrom [.ref o, .int x, .int y, .int h, .int w] I L R (fun z I' L' R' => R' = R ∧ L' = L ∧ cQ o I I' ∧ z = if pSe A h w x (tX A e) (tT A e) then 1 else 0) := by
  have ho := hL.1
  obtain ⟨⟨-, hn1⟩, -, hn2⟩ := cHas_n hL
  obtain ⟨hF1, hF2, hF3, -, -⟩ := hL.2.2.1
  have cy : y.toNatClampNeg = e := by rw [tcn]; omega
  have vy : vp_in y 6 := vin (by omega) (by omega)
  refine wkC_of 0 (by decide) (Nat.le_of_ble_eq_true rfl) (w_X0_isSeenFrom_0 ho hF1 hF2 vy hF3 vy (sAim (d := d + 2) ho hL.2.1.2.1) (fun I2 L2 R2 hq => ?_))
  obtain ⟨rfl, rfl, f2, v2⟩ := hq
  rw [cy, (cHas_x hL hE).1, (cHas_x hL hE).2] at v2
  refine w_X0_isSeenFrom_23 ho hF1 (sSeen2 (d := d) (cHas_q (cV_q f2) hL) v2) (fun z I3 L3 R3 hq => ?_)
  obtain ⟨rfl, rfl, f3, rfl⟩ := hq
  exact w_X0_isSeenFrom_30 ho ⟨rfl, _, rfl, rfl, rfl, cQ_tr (cV_q f2) (cRk_q f3), rfl⟩ (by split <;> simp)
theorem sPassTh (hL : cHas o I R A) (hB : cSt R b) (hb : b ∈ bL) {Q : qQ} {n0 sd wn i w wd x : Int32} {a : Nat} (ha : x.toInt = a) (hA : a < A.2.1.length) : ∀ (n e : Nat) (y : Int32) (J : qMI) (g : Nat → Int32), e + n = A.1.length → y.toInt = e → sFr o b I J → sEq J b g → (∀ (y' : Int32) (J' : qMI), sFr o b I J' → sEq J' b (sTh A w wd a n e g) → wkB l G (d + 4 + 1) n_X0_pass Q 74 [.ref o, .ref b, .int n0, .int sd, .int wn, .int i, .int w, .int wd, .int x, .int y'] [] J' L R) → wkB l G (d + 4 + 1) n_X0_pass Q 46 [.ref o, .ref b, .int n0, .int sd, .int wn, .int i, .int w, .int wd, .int x, .int y] [] J L R := by
  have ho := hL.1
  intro n
  induction n with
  | zero =>
    intro e y J g hn hy hJ hs k
    have hn2 := (cHas_n (cHas_f hb hJ hL)).1.1
    exact w_X0_pass_46 ho hb (fun _ => k y J hJ hs) (fun q => absurd (i_le.mpr (by omega)) q)
  | succ n ih =>
    intro e y J g hn hy hJ hs k
    have hLJ := cHas_f hb hJ hL
    have hn2 := (cHas_n hLJ).1
    refine w_X0_pass_46 ho hb (fun q => absurd (i_le.mp q) (by omega)) (fun _ => w_X0_pass_55 ho hb (sPassLoan (d := d) hLJ hB hb hs ha hy hA (by omega)) (fun I1 L1 R1 hq => ?_))
    obtain ⟨rfl, rfl, f1, s1⟩ := hq
    exact w_X0_pass_68 ho hb (ih (e + 1) _ _ _ (by omega) (by rw [i_s (by omega)]; omega) (sFr_tr hJ f1) s1 k)
theorem sPassSe (hL : cHas o I R A) (hB : cSt R b) (hb : b ∈ bL) {Q : qQ} {n0 sd wn i w wd : Int32} : ∀ (n a : Nat) (x : Int32) (J : qMI) (g : Nat → Int32), a + n = A.2.1.length → x.toInt = a → sFr o b I J → sEq J b g → (∀ (x' : Int32) (J' : qMI), sFr o b I J' → sEq J' b (sSt A w wd n a g) → wkB l G (d + 4 + 1) n_X0_pass Q 80 [.ref o, .ref b, .int n0, .int sd, .int wn, .int i, .int w, .int wd, .int x', wkU] [] J' L R) → wkB l G (d + 4 + 1) n_X0_pass Q 34 [.ref o, .ref b, .int n0, .int sd, .int wn, .int i, .int w, .int wd, .int x, wkU] [] J L R := by
  have ho := hL.1
  intro n
  induction n with
  | zero =>
    intro a x J g hn hx hJ hs k
    have hn2 := (cHas_n (cHas_f hb hJ hL)).2
    exact w_X0_pass_34 ho hb (fun _ => k x J hJ hs) (fun q => absurd (i_le.mpr (by omega)) q)
  | succ n ih =>
    intro a x J g hn hx hJ hs k
    have hLJ := cHas_f hb hJ hL
    have hn2 := (cHas_n hLJ).2
    refine w_X0_pass_34 ho hb (fun q => absurd (i_le.mp q) (by omega)) (fun _ => w_X0_pass_43 ho hb (sPassTh (d := d) hL hB hb hx (by omega) A.1.length 0 0 J g (by omega) rfl hJ hs (fun y' J' f1 s1 => ?_)))
    exact w_X0_pass_74 ho hb (ih (a + 1) _ _ _ (by omega) (by rw [i_s (by omega)]; omega) f1 s1 k)
theorem sPass (hL : cHas o I R A) (hB : cSt R b) (hb : b ∈ bL) (hs : sEq I b f) {x sd wn : Int32} {n : Nat} (hx : x.toInt = n) : wkCv l G (d + 5) n_X0_pass [.ref o, .ref b, .int x, .int sd, .int wn] I L R (fun I' L' R' => R' = R ∧ L' = L ∧ sFr o b I I' ∧ sEq I' b (sGo A sd wn n f)) := by
  have ho := hL.1
  have loop : ∀ (m i : Nat) (y : Int32) (J : qMI) (g : Nat → Int32), i + m = n → y.toInt = i → sFr o b I J → sEq J b g → sGo A sd wn m g = sGo A sd wn n f → wkB l G (d + 4 + 1) n_X0_pass (fun r t I' L' R' => t = 336 ∧ r = none ∧ R' = R ∧ L' = L ∧ sFr o b I I' ∧ sEq I' b (sGo A sd wn n f)) 3 [.ref o, .ref b, .int x, .int sd, .int wn, .int y, wkU, wkU, wkU, wkU] [] J L R := by
    intro m
    induction m with
    | zero =>
      intro i y J g hm hy hJ hsJ e
      rw [sGo] at e
      exact w_X0_pass_3 ho hb (fun _ => w_X0_pass_96 ho hb ⟨rfl, rfl, rfl, rfl, hJ, by rw [← e]; exact hsJ⟩) (fun q => absurd (i_le.mpr (by omega)) q)
    | succ m ih =>
      intro i y J g hm hy hJ hsJ e
      have hLJ := cHas_f hb hJ hL
      refine w_X0_pass_3 ho hb (fun q => absurd (i_le.mp q) (by omega)) (fun _ => w_X0_pass_9 ho hb (sHeat (d := d) hLJ) (fun z I1 L1 R1 hq => ?_))
      obtain ⟨rfl, rfl, f1, rfl⟩ := hq
      have s1 := sEq_q ho hb f1 hsJ
      have J1 := sFr_tr hJ (sFr_q f1)
      refine w_X0_pass_17 ho hb (sWind (d := d + 1)) (fun z I2 L2 R2 hq => ?_)
      obtain ⟨rfl, rfl, rfl, rfl⟩ := hq
      have eh : J b 0 = g 96 := sEq_at hsJ (by omega) sI0
      have eh2 : I2 b 0 = g 96 := sEq_at s1 (by omega) sI0
      rw [eh, eh2]
      refine w_X0_pass_29 ho hb (sPassSe (d := d) hL hB hb A.2.1.length 0 0 I2 g (by omega) rfl J1 s1 (fun x' J' f3 s3 => ?_))
      refine w_X0_pass_80 ho hb (ih (i + 1) _ _ (sHr A sd wn g) (by omega) (by have := i_hi x; rw [i_s (by omega)]; omega) (sFr_tr f3 (sFr_up (j := 0) (by decide))) ?_ (by rw [sGo] at e; exact e))
      rw [show J' b 0 = (sSt A (pHt A (g 96)) (wdP sd wn (g 96)) A.2.1.length 0 g) 96 from sEq_at s3 (by omega) sI0]
      exact sEq_up s3 (by omega) sI0
  exact wkC_of 5 (by decide) (Nat.le_of_ble_eq_true rfl) (w_X0_pass_0 ho hb (loop n 0 0 I f (by omega) rfl (sFr_rf o b I) hs rfl))
end
