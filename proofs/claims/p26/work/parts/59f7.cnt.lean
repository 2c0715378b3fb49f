/-! ===== count, purely; the class's ===== -/
def qO (g : Nat → Int32) : Nat → Nat → Int32 → Int32
  | 0, _, acc => acc
  | n + 1, k, acc => qO g n (k + 1) (acc ||| g k)
def hlS (row : Nat → Int32) : Int32 := qS (fun i => if row i = 0 then 0 else 1) 3 0 0
def qThSeen (A : aD) (f : Nat → Int32) (hr : Int32) : Int32 := qO (fun a => qSeesT A hr (pHt A hr) (f a)) A.2.1.length 0 0
def qCount (A : aD) (f : Nat → Int32) (t u tl hl w : Int32) : Int32 :=
  if w = 0 then Int32.ofNat A.1.length
  else if w = 1 then Int32.ofNat A.2.1.length
  else if w = 2 then f 96
  else if w = 3 then f 96 - f 96 / 24 * 24
  else if w = 4 then f 96 / 24
  else if w = 5 then qS (fun i => if f (24 + i) = 0 then 0 else 1) 36 0 0
  else if w = 6 then qS (fun i => f (24 + i)) 36 0 0
  else if w = 7 then qS (fun i => f (6 + i)) 6 0 0
  else if w = 8 then qS (fun i => f (12 + i)) 6 0 0
  else if w = 9 then t
  else if w = 10 then u
  else if w = 11 then tl
  else if w = 12 then hl
  else if w = 13 then wdP (A.2.2.1 11) (A.2.2.1 9) (f 96)
  else if w = 14 then qS (fun i => f (18 + i)) 6 0 0
  else if w = 15 then pHt A (f 96)
  else if w = 16 then qThSeen A f (f 96)
  else -1
theorem ofN {x : Int32} {n : Nat} (h : x.toInt = n) (hn : n < 100) : x = Int32.ofNat n := i_eq.mpr (by rw [h, Int32.toInt_ofNat_of_lt (by omega)])
section
variable {l : Launch} {G : qG} {d : Nat} {I : qMI} {L : qML} {R : qMR} {o n : Nat} {A : aD} {f : Nat → Int32} {h sl : Nat → Nat → Int32}
theorem sSumL23 {g : Nat → Int32} (hg : ∀ i, i < 6 → I 23 i = g i) {Q : qQ} : ∀ (m k : Nat) (y acc : Int32), k + m = 6 → y.toInt = k → Q (some (.int (qS g m k acc))) 336 I L R → wkB l G (d + 1) n_X8_sum Q 10 [.ref 23, .int acc, .ref 23, .int 6, .int y, wkU] [] I L R := by
  intro m
  induction m with
  | zero =>
    intro k y acc hn hy q0
    exact w_X8_sum23_10 (fun _ => w_X8_sum23_33 q0) (fun q => absurd (i_le.mpr (by rw [show (6 : Int32).toInt = 6 from rfl]; omega)) q)
  | succ m ih =>
    intro k y acc hn hy q0
    have y1 : (y + 1).toInt = ((k + 1 : Nat) : Int) := by rw [i_s (by omega)]; omega
    have cy : y.toNatClampNeg = k := by rw [tcn]; omega
    refine w_X8_sum23_10 (fun q => absurd (i_le.mp q) (by rw [show (6 : Int32).toInt = 6 from rfl]; omega)) (fun _ => w_X8_sum23_16 (vin (by omega) (by omega)) (ih (k + 1) _ _ (by omega) y1 ?_))
    rw [cy, hg k (by omega)]
    exact q0
theorem sSum23 {g : Nat → Int32} (hg : ∀ i, i < 6 → I 23 i = g i) : wkCi l G (d + 1) n_X8_sum [.ref 23] I L R (fun z I' L' R' => R' = R ∧ L' = L ∧ I' = I ∧ z = qS g 6 0 0) :=
  wkC_of 5 (by decide) (Nat.le_of_ble_eq_true rfl) (w_X8_sum23_0 (sSumL23 (d := d) hg 6 0 0 0 (by omega) rfl ⟨rfl, _, rfl, rfl, rfl, rfl, rfl⟩))
theorem sSumL24 {g : Nat → Int32} (hg : ∀ i, i < 6 → I 24 i = g i) {Q : qQ} : ∀ (m k : Nat) (y acc : Int32), k + m = 6 → y.toInt = k → Q (some (.int (qS g m k acc))) 336 I L R → wkB l G (d + 1) n_X8_sum Q 10 [.ref 24, .int acc, .ref 24, .int 6, .int y, wkU] [] I L R := by
  intro m
  induction m with
  | zero =>
    intro k y acc hn hy q0
    exact w_X8_sum24_10 (fun _ => w_X8_sum24_33 q0) (fun q => absurd (i_le.mpr (by rw [show (6 : Int32).toInt = 6 from rfl]; omega)) q)
  | succ m ih =>
    intro k y acc hn hy q0
    have y1 : (y + 1).toInt = ((k + 1 : Nat) : Int) := by rw [i_s (by omega)]; omega
    have cy : y.toNatClampNeg = k := by rw [tcn]; omega
    refine w_X8_sum24_10 (fun q => absurd (i_le.mp q) (by rw [show (6 : Int32).toInt = 6 from rfl]; omega)) (fun _ => w_X8_sum24_16 (vin (by omega) (by omega)) (ih (k + 1) _ _ (by omega) y1 ?_))
    rw [cy, hg k (by omega)]
    exact q0
theorem sSum24 {g : Nat → Int32} (hg : ∀ i, i < 6 → I 24 i = g i) : wkCi l G (d + 1) n_X8_sum [.ref 24] I L R (fun z I' L' R' => R' = R ∧ L' = L ∧ I' = I ∧ z = qS g 6 0 0) :=
  wkC_of 5 (by decide) (Nat.le_of_ble_eq_true rfl) (w_X8_sum24_0 (sSumL24 (d := d) hg 6 0 0 0 (by omega) rfl ⟨rfl, _, rfl, rfl, rfl, rfl, rfl⟩))
theorem sSumL25 {g : Nat → Int32} (hg : ∀ i, i < 6 → I 25 i = g i) {Q : qQ} : ∀ (m k : Nat) (y acc : Int32), k + m = 6 → y.toInt = k → Q (some (.int (qS g m k acc))) 336 I L R → wkB l G (d + 1) n_X8_sum Q 10 [.ref 25, .int acc, .ref 25, .int 6, .int y, wkU] [] I L R := by
  intro m
  induction m with
  | zero =>
    intro k y acc hn hy q0
    exact w_X8_sum25_10 (fun _ => w_X8_sum25_33 q0) (fun q => absurd (i_le.mpr (by rw [show (6 : Int32).toInt = 6 from rfl]; omega)) q)
  | succ m ih =>
    intro k y acc hn hy q0
    have y1 : (y + 1).toInt = ((k + 1 : Nat) : Int) := by rw [i_s (by omega)]; omega
    have cy : y.toNatClampNeg = k := by rw [tcn]; omega
    refine w_X8_sum25_10 (fun q => absurd (i_le.mp q) (by rw [show (6 : Int32).toInt = 6 from rfl]; omega)) (fun _ => w_X8_sum25_16 (vin (by omega) (by omega)) (ih (k + 1) _ _ (by omega) y1 ?_))
    rw [cy, hg k (by omega)]
    exact q0
theorem sSum25 {g : Nat → Int32} (hg : ∀ i, i < 6 → I 25 i = g i) : wkCi l G (d + 1) n_X8_sum [.ref 25] I L R (fun z I' L' R' => R' = R ∧ L' = L ∧ I' = I ∧ z = qS g 6 0 0) :=
  wkC_of 5 (by decide) (Nat.le_of_ble_eq_true rfl) (w_X8_sum25_0 (sSumL25 (d := d) hg 6 0 0 0 (by omega) rfl ⟨rfl, _, rfl, rfl, rfl, rfl, rfl⟩))
theorem sSumL26 {g : Nat → Int32} (hg : ∀ i, i < 36 → I 26 i = g i) {Q : qQ} : ∀ (m k : Nat) (y acc : Int32), k + m = 36 → y.toInt = k → Q (some (.int (qS g m k acc))) 336 I L R → wkB l G (d + 1) n_X8_sum Q 10 [.ref 26, .int acc, .ref 26, .int 36, .int y, wkU] [] I L R := by
  intro m
  induction m with
  | zero =>
    intro k y acc hn hy q0
    exact w_X8_sum26_10 (fun _ => w_X8_sum26_33 q0) (fun q => absurd (i_le.mpr (by rw [show (36 : Int32).toInt = 36 from rfl]; omega)) q)
  | succ m ih =>
    intro k y acc hn hy q0
    have y1 : (y + 1).toInt = ((k + 1 : Nat) : Int) := by rw [i_s (by omega)]; omega
    have cy : y.toNatClampNeg = k := by rw [tcn]; omega
    refine w_X8_sum26_10 (fun q => absurd (i_le.mp q) (by rw [show (36 : Int32).toInt = 36 from rfl]; omega)) (fun _ => w_X8_sum26_16 (vin (by omega) (by omega)) (ih (k + 1) _ _ (by omega) y1 ?_))
    rw [cy, hg k (by omega)]
    exact q0
theorem sSum26 {g : Nat → Int32} (hg : ∀ i, i < 36 → I 26 i = g i) : wkCi l G (d + 1) n_X8_sum [.ref 26] I L R (fun z I' L' R' => R' = R ∧ L' = L ∧ I' = I ∧ z = qS g 36 0 0) :=
  wkC_of 5 (by decide) (Nat.le_of_ble_eq_true rfl) (w_X8_sum26_0 (sSumL26 (d := d) hg 36 0 0 0 (by omega) rfl ⟨rfl, _, rfl, rfl, rfl, rfl, rfl⟩))
theorem sLoansL (hB : cSt R 21) (s1 : sEq I 21 f) {Q : qQ} : ∀ (m k : Nat) (y acc : Int32), k + m = 36 → y.toInt = k → Q (some (.int (qS (fun i => if f (24 + i) = 0 then 0 else 1) m k acc))) 336 I L R → wkB l G (d + 1) n_X4_loans Q 13 [.ref 21, .int acc, .ref (21 + 5), .int 36, .int y, wkU] [] I L R := by
  intro m
  induction m with
  | zero =>
    intro k y acc hn hy q0
    exact w_X4_loans_13 bNow (fun _ => w_X4_loans_44 bNow q0) (fun q => absurd (i_le.mpr (by rw [show (36 : Int32).toInt = 36 from rfl]; omega)) q)
  | succ m ih =>
    intro k y acc hn hy q0
    have y1 : (y + 1).toInt = ((k + 1 : Nat) : Int) := by rw [i_s (by omega)]; omega
    have cy : y.toNatClampNeg = k := by rw [tcn]; omega
    have el : I (21 + 5) k = f (24 + k) := sEq_at s1 (by omega) (sI5 (by omega))
    refine w_X4_loans_13 bNow (fun q => absurd (i_le.mp q) (by rw [show (36 : Int32).toInt = 36 from rfl]; omega)) (fun _ => w_X4_loans_19 bNow (vin (by omega) (by omega)) (fun q => w_X4_loans_35 bNow (w_X4_loans_36 bNow (ih (k + 1) _ _ (by omega) y1 ?_))) (fun q => w_X4_loans_31 bNow (w_X4_loans_36 bNow (ih (k + 1) _ _ (by omega) y1 ?_))))
    · rw [cy, el] at q
      rw [qS, if_pos q] at q0
      exact q0
    · rw [cy, el] at q
      rw [qS, if_neg q] at q0
      exact q0
theorem sLoans (hs : cS o A f n h sl I R) : wkCi l G (d + 1) n_X4_loans [.ref 21] I L R (fun z I' L' R' => R' = R ∧ L' = L ∧ I' = I ∧ z = qS (fun i => if f (24 + i) = 0 then 0 else 1) 36 0 0) :=
  wkC_of 5 (by decide) (Nat.le_of_ble_eq_true rfl) (w_X4_loans_0 bNow (hs.1.2.1.2.2.2.2 21 bNow 5 (by decide) (by decide)) (sLoansL (d := d) (hs.1.2.1.2.2.2.2 21 bNow) hs.2.1 36 0 0 0 (by omega) rfl ⟨rfl, _, rfl, rfl, rfl, rfl, rfl⟩))
theorem sHeldL (h6 : R 0 6 = some 248) {Q : qQ} : ∀ (m k : Nat) (y acc : Int32), k + m = 3 → y.toInt = k → Q (some (.int (qS (fun i => if I 248 i = 0 then 0 else 1) m k acc))) 336 I L R → wkB l G (d + 1) n_X8_heldSlots Q 4 [.ref 0, .int acc, .int y] [] I L R := by
  intro m
  induction m with
  | zero =>
    intro k y acc hn hy q0
    exact w_X8_heldSlots_4 (fun _ => w_X8_heldSlots_32 q0) (fun q => absurd (i_le.mpr (by rw [show (3 : Int32).toInt = 3 from rfl]; omega)) q)
  | succ m ih =>
    intro k y acc hn hy q0
    have y1 : (y + 1).toInt = ((k + 1 : Nat) : Int) := by rw [i_s (by omega)]; omega
    have cy : y.toNatClampNeg = k := by rw [tcn]; omega
    refine w_X8_heldSlots_4 (fun q => absurd (i_le.mp q) (by rw [show (3 : Int32).toInt = 3 from rfl]; omega)) (fun _ => w_X8_heldSlots_9 h6 (vin (by omega) (by omega)) (fun q => w_X8_heldSlots_23 (w_X8_heldSlots_24 (ih (k + 1) _ _ (by omega) y1 ?_))) (fun q => w_X8_heldSlots_19 (w_X8_heldSlots_24 (ih (k + 1) _ _ (by omega) y1 ?_))))
    · rw [cy] at q
      rw [qS, if_pos q] at q0
      exact q0
    · rw [cy] at q
      rw [qS, if_neg q] at q0
      exact q0
theorem sHeld (h6 : R 0 6 = some 248) : wkCi l G (d + 1) n_X8_heldSlots [.ref 0] I L R (fun z I' L' R' => R' = R ∧ L' = L ∧ I' = I ∧ z = hlS (I 248)) :=
  wkC_of 2 (by decide) (Nat.le_of_ble_eq_true rfl) (w_X8_heldSlots_0 (sHeldL (d := d) h6 3 0 0 0 (by omega) rfl ⟨rfl, _, rfl, rfl, rfl, rfl, rfl⟩))
theorem sThingsSeenL (hs : cS o A f n h sl I R) {Q : qQ} {hr w : Int32} : ∀ (m a : Nat) (y acc : Int32) (J : qMI), a + m = A.2.1.length → y.toInt = a → cQ o I J → (∀ J' : qMI, cQ o I J' → Q (some (.int (qO (fun a => qSeesT A hr w (f a)) m a acc))) 336 J' L R) → wkB l G (d + 5 + 1) n_X8_thingsSeen Q 14 [.ref 0, .int hr, .int w, .int acc, .int y] [] J L R := by
  obtain ⟨⟨hL, hR, h12⟩, s1, -, -⟩ := hs
  have ho := hL.1
  have rb := hR.2.2.2.2 21 bNow
  have b21 := bNow
  intro m
  induction m with
  | zero =>
    intro a y acc J hn hy hJ k
    have hn2 := (cHas_n (cHas_q hJ hL)).2.1
    exact w_X8_thingsSeen_14 ho h12 (fun _ => w_X8_thingsSeen_54 (k J hJ)) (fun q => absurd (i_le.mpr (by omega)) q)
  | succ m ih =>
    intro a y acc J hn hy hJ k
    have hLJ := cHas_q hJ hL
    have hn2 := (cHas_n hLJ).2
    have sJ := sEq_q ho b21 hJ s1
    have y1 : (y + 1).toInt = ((a + 1 : Nat) : Int) := by rw [i_s (by omega)]; omega
    have cy : y.toNatClampNeg = a := by rw [tcn]; omega
    have e1 : J 22 y.toNatClampNeg = f a := by rw [cy]; exact sEq_at sJ (by omega) (sI1 (by omega))
    refine w_X8_thingsSeen_14 ho h12 (fun q => absurd (i_le.mp q) (by omega)) (fun _ => w_X8_thingsSeen_26 ho h12 hR.1.1 (rb 1 (by decide) (by decide)) (vin (by omega) (by omega)) (P := fun z I' L' R' => R' = R ∧ L' = L ∧ cQ o J I' ∧ z = qSeesT A hr w (f a)) (by rw [e1]; exact sThSeen (d := d) hLJ) (fun z I1 L1 R1 hq => ?_))
    obtain ⟨rfl, rfl, f1, rfl⟩ := hq
    exact w_X8_thingsSeen_46 (ih (a + 1) _ _ _ (by omega) y1 (cQ_tr hJ f1) (fun J' j => k J' j))
theorem sThingsSeen (hs : cS o A f n h sl I R) {hr : Int32} : wkCi l G (d + 6) n_X8_thingsSeen [.ref 0, .int hr] I L R (fun z I' L' R' => R' = R ∧ L' = L ∧ cQ o I I' ∧ z = qThSeen A f hr) := by
  obtain ⟨⟨hL, hR, h12⟩, s1, -, -⟩ := id hs
  refine wkC_of 3 (by decide) (Nat.le_of_ble_eq_true rfl) (w_X8_thingsSeen_0 hL.1 h12 (sHeat (d := d + 1) hL) (fun z I1 L1 R1 hq => ?_))
  obtain ⟨rfl, rfl, f1, rfl⟩ := hq
  exact w_X8_thingsSeen_8 (sThingsSeenL (d := d) (cS_q hs f1) A.2.1.length 0 0 0 I1 (by omega) rfl (cQ_rf o I1) (fun J' j => ⟨rfl, _, rfl, rfl, rfl, cQ_tr f1 j, rfl⟩))
/-- the settings of a flat -/
theorem cHas_s (hL : cHas o I R A) {j : Nat} (h1 : 8 ≤ j) (h2 : j ≤ 11) : I o j = A.2.2.1 j := hL.2.2.2.2.1.2.2.1 j h1 h2
theorem wd1 {s w x : Int32} (h : ¬ wdP s w x = 0) : wdP s w x = 1 := by
  unfold wdP at h ⊢
  split
  · rename_i c
    rw [if_pos c] at h
    exact absurd rfl h
  · rfl
theorem sCount (hs : cS o A f n h sl I R) (r00 : R 0 0 = some 1) {w : Int32} : wkCi l G (d + 7) n_X8_count [.ref 0, .int w] I L R (fun z I' L' R' => R' = R ∧ L' = L ∧ z = qCount A f (I 1 1) (I 35 2) (I 249 0) (hlS (I 248)) w ∧ cQ o I I') := by
  obtain ⟨⟨hL, hR, h12⟩, s1, s2, s3⟩ := id hs
  obtain ⟨r2, -, r4, -, r6, r7⟩ := id hR.1
  have rb := hR.2.2.2.2 21 bNow
  obtain ⟨⟨hn1, hn3⟩, hn2, hn4⟩ := cHas_n hL
  have e0 : I 21 0 = f 96 := sEq_at s1 (by omega) sI0
  refine wkC_of 0 (by decide) (Nat.le_of_ble_eq_true rfl) (w_X8_count_0 (qSwt_e (fun n0 => ?_) (fun n0 => qSwt_e (fun n1 => ?_) (fun n1 => qSwt_e (fun n2 => ?_) (fun n2 => qSwt_e (fun n3 => ?_) (fun n3 => qSwt_e (fun n4 => ?_) (fun n4 => qSwt_e (fun n5 => ?_) (fun n5 => qSwt_e (fun n6 => ?_) (fun n6 => qSwt_e (fun n7 => ?_) (fun n7 => qSwt_e (fun n8 => ?_) (fun n8 => qSwt_e (fun n9 => ?_) (fun n9 => qSwt_e (fun n10 => ?_) (fun n10 => qSwt_e (fun n11 => ?_) (fun n11 => qSwt_e (fun n12 => ?_) (fun n12 => qSwt_e (fun n13 => ?_) (fun n13 => qSwt_e (fun n14 => ?_) (fun n14 => qSwt_e (fun n15 => ?_) (fun n15 => qSwt_e (fun n16 => ?_) (fun n16 => qSwt_d ?_)))))))))))))))))))
  · subst n0
    refine w_X8_count_84 hL.1 h12 ⟨rfl, _, rfl, rfl, rfl, ?_, cQ_rf o _⟩
    unfold qCount
    rw [if_pos (by decide), ← ofN hn1 (by omega)]
  · subst n1
    refine w_X8_count_92 hL.1 h12 ⟨rfl, _, rfl, rfl, rfl, ?_, cQ_rf o _⟩
    unfold qCount
    rw [if_neg (by decide), if_pos (by decide), ← ofN hn2 (by omega)]
  · subst n2
    refine w_X8_count_100 r2 ⟨rfl, _, rfl, rfl, rfl, ?_, cQ_rf o _⟩
    unfold qCount
    rw [if_neg (by decide), if_neg (by decide), if_pos (by decide), e0]
  · subst n3
    refine w_X8_count_108 r2 ⟨rfl, _, rfl, rfl, rfl, ?_, cQ_rf o _⟩
    unfold qCount
    rw [if_neg (by decide), if_neg (by decide), if_neg (by decide), if_pos (by decide), e0]
  · subst n4
    refine w_X8_count_119 r2 ⟨rfl, _, rfl, rfl, rfl, ?_, cQ_rf o _⟩
    unfold qCount
    rw [if_neg (by decide), if_neg (by decide), if_neg (by decide), if_neg (by decide), if_pos (by decide), e0]
  · subst n5
    refine w_X8_count_130 r2 (sLoans (d := d + 5) hs) (fun z I2 L2 R2 hq => ?_)
    obtain ⟨rfl, rfl, rfl, rfl⟩ := hq
    refine w_X8_count_137 ⟨rfl, _, rfl, rfl, rfl, ?_, cQ_rf o _⟩
    unfold qCount
    rw [if_neg (by decide), if_neg (by decide), if_neg (by decide), if_neg (by decide), if_neg (by decide), if_pos (by decide)]
  · subst n6
    refine w_X8_count_138 r2 (rb 5 (by decide) (by decide)) (sSum26 (d := d + 5) (g := fun i => f (24 + i)) (fun i hi => sEq_at s1 (by omega) (sI5 (by omega)))) (fun z I2 L2 R2 hq => ?_)
    obtain ⟨rfl, rfl, rfl, rfl⟩ := hq
    refine w_X8_count_148 ⟨rfl, _, rfl, rfl, rfl, ?_, cQ_rf o _⟩
    unfold qCount
    rw [if_neg (by decide), if_neg (by decide), if_neg (by decide), if_neg (by decide), if_neg (by decide), if_neg (by decide), if_pos (by decide)]
  · subst n7
    refine w_X8_count_149 r2 (rb 2 (by decide) (by decide)) (sSum23 (d := d + 5) (g := fun i => f (6 + i)) (fun i hi => sEq_at s1 (by omega) (sI2 (by omega)))) (fun z I2 L2 R2 hq => ?_)
    obtain ⟨rfl, rfl, rfl, rfl⟩ := hq
    refine w_X8_count_159 ⟨rfl, _, rfl, rfl, rfl, ?_, cQ_rf o _⟩
    unfold qCount
    rw [if_neg (by decide), if_neg (by decide), if_neg (by decide), if_neg (by decide), if_neg (by decide), if_neg (by decide), if_neg (by decide), if_pos (by decide)]
  · subst n8
    refine w_X8_count_160 r2 (rb 3 (by decide) (by decide)) (sSum24 (d := d + 5) (g := fun i => f (12 + i)) (fun i hi => sEq_at s1 (by omega) (sI3 (by omega)))) (fun z I2 L2 R2 hq => ?_)
    obtain ⟨rfl, rfl, rfl, rfl⟩ := hq
    refine w_X8_count_170 ⟨rfl, _, rfl, rfl, rfl, ?_, cQ_rf o _⟩
    unfold qCount
    rw [if_neg (by decide), if_neg (by decide), if_neg (by decide), if_neg (by decide), if_neg (by decide), if_neg (by decide), if_neg (by decide), if_neg (by decide), if_pos (by decide)]
  · subst n9
    refine w_X8_count_171 r00 ⟨rfl, _, rfl, rfl, rfl, ?_, cQ_rf o _⟩
    unfold qCount
    rw [if_neg (by decide), if_neg (by decide), if_neg (by decide), if_neg (by decide), if_neg (by decide), if_neg (by decide), if_neg (by decide), if_neg (by decide), if_neg (by decide), if_pos (by decide)]
  · subst n10
    refine w_X8_count_179 r4 ⟨rfl, _, rfl, rfl, rfl, ?_, cQ_rf o _⟩
    unfold qCount
    rw [if_neg (by decide), if_neg (by decide), if_neg (by decide), if_neg (by decide), if_neg (by decide), if_neg (by decide), if_neg (by decide), if_neg (by decide), if_neg (by decide), if_neg (by decide), if_pos (by decide)]
  · subst n11
    refine w_X8_count_187 r7 ⟨rfl, _, rfl, rfl, rfl, ?_, cQ_rf o _⟩
    unfold qCount
    rw [if_neg (by decide), if_neg (by decide), if_neg (by decide), if_neg (by decide), if_neg (by decide), if_neg (by decide), if_neg (by decide), if_neg (by decide), if_neg (by decide), if_neg (by decide), if_neg (by decide), if_pos (by decide)]
  · subst n12
    refine w_X8_count_195 (sHeld (d := d + 5) r6) (fun z I2 L2 R2 hq => ?_)
    obtain ⟨rfl, rfl, rfl, rfl⟩ := hq
    refine w_X8_count_199 ⟨rfl, _, rfl, rfl, rfl, ?_, cQ_rf o _⟩
    unfold qCount
    rw [if_neg (by decide), if_neg (by decide), if_neg (by decide), if_neg (by decide), if_neg (by decide), if_neg (by decide), if_neg (by decide), if_neg (by decide), if_neg (by decide), if_neg (by decide), if_neg (by decide), if_neg (by decide), if_pos (by decide)]
  · subst n13
    refine w_X8_count_200 hL.1 r2 h12 h12 (sWind (d := d + 3)) (fun z I2 L2 R2 hq => ?_)
    obtain ⟨rfl, rfl, rfl, rfl⟩ := hq
    have ev13 : qCount A f (I2 1 1) (I2 35 2) (I2 249 0) (hlS (I2 248)) (0 + 1 + 1 + 1 + 1 + 1 + 1 + 1 + 1 + 1 + 1 + 1 + 1 + 1) = wdP (I2 o 11) (I2 o 9) (I2 21 0) := by
      unfold qCount
      rw [if_neg (by decide), if_neg (by decide), if_neg (by decide), if_neg (by decide), if_neg (by decide), if_neg (by decide), if_neg (by decide), if_neg (by decide), if_neg (by decide), if_neg (by decide), if_neg (by decide), if_neg (by decide), if_neg (by decide), if_pos (by decide), cHas_s hL (j := 11) (by decide) (by decide), cHas_s hL (j := 9) (by decide) (by decide), e0]
    refine w_X8_count_224 (fun q => w_X8_count_231 (w_X8_count_232 ⟨rfl, _, rfl, rfl, rfl, ?_, cQ_rf o _⟩)) (fun q => w_X8_count_227 (w_X8_count_232 ⟨rfl, _, rfl, rfl, rfl, ?_, cQ_rf o _⟩))
    · exact q.symm.trans ev13.symm
    · exact (wd1 q).symm.trans ev13.symm
  · subst n14
    refine w_X8_count_233 r2 (rb 4 (by decide) (by decide)) (sSum25 (d := d + 5) (g := fun i => f (18 + i)) (fun i hi => sEq_at s1 (by omega) (sI4 (by omega)))) (fun z I2 L2 R2 hq => ?_)
    obtain ⟨rfl, rfl, rfl, rfl⟩ := hq
    refine w_X8_count_243 ⟨rfl, _, rfl, rfl, rfl, ?_, cQ_rf o _⟩
    unfold qCount
    rw [if_neg (by decide), if_neg (by decide), if_neg (by decide), if_neg (by decide), if_neg (by decide), if_neg (by decide), if_neg (by decide), if_neg (by decide), if_neg (by decide), if_neg (by decide), if_neg (by decide), if_neg (by decide), if_neg (by decide), if_neg (by decide), if_pos (by decide)]
  · subst n15
    refine w_X8_count_244 hL.1 h12 r2 (sHeat (d := d + 2) hL) (fun z I2 L2 R2 hq => ?_)
    obtain ⟨rfl, rfl, f2, rfl⟩ := hq
    refine w_X8_count_258 ⟨rfl, _, rfl, rfl, rfl, ?_, f2⟩
    unfold qCount
    rw [if_neg (by decide), if_neg (by decide), if_neg (by decide), if_neg (by decide), if_neg (by decide), if_neg (by decide), if_neg (by decide), if_neg (by decide), if_neg (by decide), if_neg (by decide), if_neg (by decide), if_neg (by decide), if_neg (by decide), if_neg (by decide), if_neg (by decide), if_pos (by decide), e0]
  · subst n16
    refine w_X8_count_259 r2 (sThingsSeen (d := d) hs) (fun z I2 L2 R2 hq => ?_)
    obtain ⟨rfl, rfl, f2, rfl⟩ := hq
    refine w_X8_count_270 ⟨rfl, _, rfl, rfl, rfl, ?_, f2⟩
    unfold qCount
    rw [if_neg (by decide), if_neg (by decide), if_neg (by decide), if_neg (by decide), if_neg (by decide), if_neg (by decide), if_neg (by decide), if_neg (by decide), if_neg (by decide), if_neg (by decide), if_neg (by decide), if_neg (by decide), if_neg (by decide), if_neg (by decide), if_neg (by decide), if_neg (by decide), if_pos (by decide), e0]
  · refine w_X8_count_271 ⟨rfl, _, rfl, rfl, rfl, ?_, cQ_rf o _⟩
    unfold qCount
    rw [if_neg n0, if_neg (show ¬ w = 1 from n1), if_neg (show ¬ w = 2 from n2), if_neg (show ¬ w = 3 from n3), if_neg (show ¬ w = 4 from n4), if_neg (show ¬ w = 5 from n5), if_neg (show ¬ w = 6 from n6), if_neg (show ¬ w = 7 from n7), if_neg (show ¬ w = 8 from n8), if_neg (show ¬ w = 9 from n9), if_neg (show ¬ w = 10 from n10), if_neg (show ¬ w = 11 from n11), if_neg (show ¬ w = 12 from n12), if_neg (show ¬ w = 13 from n13), if_neg (show ¬ w = 14 from n14), if_neg (show ¬ w = 15 from n15), if_neg (show ¬ w = 16 from n16)]
end
