/-! ===== heatIn, dawns, cool, near, crowd: purely; the class's ===== -/
def qHeatIn (A : aD) (f : Nat → Int32) (m : Int32) : Int32 := if okH m then pHt A (f 96 + m) else -1
def qF (p : Int32 → Bool) : Nat → Int32 → Int32
  | 0, _ => -2
  | m + 1, y => if p y = true then y else qF p m (y + 1)
theorem qF_f {p : Int32 → Bool} {m : Nat} {y : Int32} (h : p y = false) : qF p (m + 1) y = qF p m (y + 1) := by
  rw [qF, if_neg (by rw [h]; decide)]
theorem qF_t {p : Int32 → Bool} {m : Nat} {y : Int32} (h : p y = true) : qF p (m + 1) y = y := by
  rw [qF, if_pos h]
def qDawns (A : aD) (f : Nat → Int32) (x t : Int32) : Int32 :=
  if ¬ (okX x ∧ okT A t) then -1
  else qF (fun y => decide (pSe A (f 96 + y) (pHt A (f 96 + y)) x (tX A t.toInt.toNat) (tT A t.toInt.toNat))) 49 0
def qCool (A : aD) (f : Nat → Int32) : Int32 := qF (fun y => decide (qThSeen A f (f 96 + y) = 0)) 49 0
def ab (x : Int32) : Int32 := if 0 ≤ x then x else 0 - x
abbrev nrP (A : aD) (hr w x : Int32) (e : Nat) (k : Int32) : Prop := ¬ pSp A hr w x (tX A e) (tT A e) = -1 ∧ ab (pSp A hr w x (tX A e) (tT A e) - x) < k
def qNr (A : aD) (hr w x : Int32) : Nat → Nat → Int32 → Int32 × Int32 → Int32 × Int32
  | 0, _, _, c => c
  | m + 1, e, y, c => qNr A hr w x m (e + 1) (y + 1) (if nrP A hr w x e c.2 then (y, ab (pSp A hr w x (tX A e) (tT A e) - x)) else c)
theorem qNr_t {A : aD} {hr w x : Int32} {m e : Nat} {y : Int32} {c : Int32 × Int32} (h : nrP A hr w x e c.2) : qNr A hr w x (m + 1) e y c = qNr A hr w x m (e + 1) (y + 1) (y, ab (pSp A hr w x (tX A e) (tT A e) - x)) := by
  rw [qNr, if_pos h]
theorem qNr_f {A : aD} {hr w x : Int32} {m e : Nat} {y : Int32} {c : Int32 × Int32} (h : ¬ nrP A hr w x e c.2) : qNr A hr w x (m + 1) e y c = qNr A hr w x m (e + 1) (y + 1) c := by
  rw [qNr, if_neg h]
def nrA (w : Int32) (c : Int32 × Int32) : Int32 := if w = 0 ∨ c.1 = -2 then c.1 else c.2
def qNear (A : aD) (f : Nat → Int32) (x w : Int32) : Int32 :=
  if ¬ (okX x ∧ 0 ≤ w.toInt ∧ w.toInt ≤ 1) then -1
  else nrA w (qNr A (f 96) (pHt A (f 96)) x A.1.length 0 0 (-2, 20))
def qCr (A : aD) (f : Nat → Int32) (hr w x : Int32) : Nat → Nat → Int32 → Int32
  | 0, _, acc => acc
  | m + 1, a, acc => qCr A f hr w x m (a + 1) (qB (fun e => decide (pSp A hr w (f a) (tX A e) (tT A e) = x)) A.1.length 0 0 acc)
def qCrowd (A : aD) (f : Nat → Int32) (x : Int32) : Int32 :=
  if ¬ okX x then -1 else qCr A f (f 96) (pHt A (f 96)) x A.2.1.length 0 0
section
variable {l : Launch} {G : qG} {d : Nat} {I : qMI} {L : qML} {R : qMR} {o n : Nat} {A : aD} {f : Nat → Int32} {h sl : Nat → Nat → Int32}
theorem sHeatIn (hs : cS o A f n h sl I R) {m : Int32} : wkCi l G (d + 5) n_X8_heatIn [.ref 0, .int m] I L R (fun z I' L' R' => R' = R ∧ L' = L ∧ z = qHeatIn A f m ∧ cS o A f n h sl I' R') := by
  obtain ⟨⟨hL, hR, h12⟩, s1, s2, s3⟩ := id hs
  have e0 : I 21 0 = f 96 := sEq_at s1 (by omega) sI0
  refine wkC_of 0 (by decide) (Nat.le_of_ble_eq_true rfl) (w_X8_heatIn_0 (sIsAhead (d := d + 3)) (fun z I1 L1 R1 hq => ?_))
  obtain ⟨rfl, rfl, rfl, rfl⟩ := hq
  refine w_X8_heatIn_4 (fun q => w_X8_heatIn_26 (w_X8_heatIn_27 ⟨rfl, _, rfl, rfl, rfl, ?_, hs⟩)) (fun q => w_X8_heatIn_7 hL.1 h12 hR.1.1 (sHeat (d := d) hL) (fun z I2 L2 R2 hq => ?_))
  · unfold qHeatIn
    rw [if_neg (if1.1 q)]
  obtain ⟨rfl, rfl, f2, rfl⟩ := hq
  refine w_X8_heatIn_23 (w_X8_heatIn_27 ⟨rfl, _, rfl, rfl, rfl, ?_, cS_q hs f2⟩)
  unfold qHeatIn
  rw [if_pos (if1.2 q), e0]
theorem sDawnsL (hs : cS o A f n h sl I R) {Q : qQ} {x t : Int32} {e : Nat} (he : t.toInt = e) (hE : e < A.1.length) : ∀ (m k : Nat) (y : Int32) (J : qMI), k + m = 49 → y.toInt = k → cQ o I J → (∀ J' : qMI, cQ o I J' → Q (some (.int (qF (fun y => decide (pSe A (f 96 + y) (pHt A (f 96 + y)) x (tX A e) (tT A e))) m y))) 336 J' L R) → wkB l G (d + 4 + 1) n_X8_dawns Q 19 [.ref 0, .int x, .int t, .int y, wkU] [] J L R := by
  obtain ⟨⟨hL, hR, h12⟩, s1, -, -⟩ := hs
  have ho := hL.1
  have b21 := bNow
  have z48 : (48 : Int32).toInt = 48 := rfl
  intro m
  induction m with
  | zero =>
    intro k y J hn hy hJ q0
    exact w_X8_dawns_19 (fun _ => w_X8_dawns_67 (q0 J hJ)) (fun q => absurd (i_lt.mpr (by rw [z48]; omega)) q)
  | succ m ih =>
    intro k y J hn hy hJ q0
    have hLJ := cHas_q hJ hL
    have e0 : J 21 0 = f 96 := sEq_at (sEq_q ho b21 hJ s1) (by omega) sI0
    have y1 : (y + 1).toInt = ((k + 1 : Nat) : Int) := by rw [i_s (by omega)]; omega
    refine w_X8_dawns_19 (fun q => absurd (i_lt.mp q) (by rw [z48]; omega)) (fun _ => w_X8_dawns_25 ho hR.1.1 h12 h12 (sHeat (d := d) hLJ) (fun z I1 L1 R1 hq => ?_))
    obtain ⟨rfl, rfl, f1, rfl⟩ := hq
    rw [e0]
    refine w_X8_dawns_53 ho (sSeenFrom (d := d) (cHas_q f1 hLJ) he hE) (fun z I2 L2 R2 hq => ?_)
    obtain ⟨rfl, rfl, f2, rfl⟩ := hq
    have j2 := cQ_tr hJ (cQ_tr f1 f2)
    refine w_X8_dawns_56 (fun q => w_X8_dawns_61 (ih (k + 1) _ _ (by omega) y1 j2 (fun J' j => ?_))) (fun q => w_X8_dawns_59 ?_)
    · have := q0 J' j
      rw [qF_f (by exact decide_eq_false (if1.1 q))] at this
      exact this
    · have := q0 I2 j2
      rw [qF_t (by exact decide_eq_true (if1.2 q))] at this
      exact this
theorem sDawns (hs : cS o A f n h sl I R) {x t : Int32} : wkCi l G (d + 5) n_X8_dawns [.ref 0, .int x, .int t] I L R (fun z I' L' R' => R' = R ∧ L' = L ∧ z = qDawns A f x t ∧ cS o A f n h sl I' R') := by
  obtain ⟨⟨hL, hR, h12⟩, s1, s2, s3⟩ := id hs
  have bad : ¬ (okX x ∧ okT A t) → wkB l G (d + 4 + 1) n_X8_dawns (fun r t' I' L' R' => t' = 336 ∧ ∃ z, r = some (.int z) ∧ R' = R ∧ L' = L ∧ z = qDawns A f x t ∧ cS o A f n h sl I' R') 15 [.ref 0, .int x, .int t, wkU, wkU] [] I L R := fun c => w_X8_dawns_15 ⟨rfl, _, rfl, rfl, rfl, by unfold qDawns; rw [if_pos c], hs⟩
  refine wkC_of 2 (by decide) (Nat.le_of_ble_eq_true rfl) (w_X8_dawns_0 (sIsX (d := d + 3)) (fun z I1 L1 R1 hq => ?_))
  obtain ⟨rfl, rfl, rfl, rfl⟩ := hq
  refine w_X8_dawns_4 (fun q => bad (fun c => if1.1 q c.1)) (fun q => w_X8_dawns_7 (sIsThing (d := d + 3) hL h12) (fun z I1 L1 R1 hq => ?_))
  obtain ⟨rfl, rfl, rfl, rfl⟩ := hq
  refine w_X8_dawns_12 (fun q2 => ?_) (fun q2 => bad (fun c => if1.1 q2 c.2))
  have c0 : okX x ∧ okT A t := ⟨if1.2 q, if1.2 q2⟩
  have t0 := c0.2
  have ht : t.toInt = t.toInt.toNat := by omega
  refine w_X8_dawns_17 (sDawnsL (d := d) hs ht (by omega) 49 0 0 I1 (by omega) rfl (cQ_rf o I1) (fun J' j => ⟨rfl, _, rfl, rfl, rfl, ?_, cS_q hs j⟩))
  unfold qDawns
  rw [if_neg (fun z => z c0)]
theorem sCoolL (hs : cS o A f n h sl I R) {Q : qQ} : ∀ (m k : Nat) (y : Int32) (J : qMI), k + m = 49 → y.toInt = k → cQ o I J → (∀ J' : qMI, cQ o I J' → Q (some (.int (qF (fun y => decide (qThSeen A f (f 96 + y) = 0)) m y))) 336 J' L R) → wkB l G (d + 6 + 1) n_X8_cool Q 2 [.ref 0, .int y] [] J L R := by
  have z48 : (48 : Int32).toInt = 48 := rfl
  intro m
  induction m with
  | zero =>
    intro k y J hn hy hJ q0
    exact w_X8_cool_2 (fun _ => w_X8_cool_32 (q0 J hJ)) (fun q => absurd (i_lt.mpr (by rw [z48]; omega)) q)
  | succ m ih =>
    intro k y J hn hy hJ q0
    have hsJ := cS_q hs hJ
    have e0 : J 21 0 = f 96 := sEq_at hsJ.2.1 (by omega) sI0
    have y1 : (y + 1).toInt = ((k + 1 : Nat) : Int) := by rw [i_s (by omega)]; omega
    refine w_X8_cool_2 (fun q => absurd (i_lt.mp q) (by rw [z48]; omega)) (fun _ => w_X8_cool_8 hsJ.1.2.1.1.1 (sThingsSeen (d := d) hsJ) (fun z I1 L1 R1 hq => ?_))
    obtain ⟨rfl, rfl, f1, rfl⟩ := hq
    have j1 := cQ_tr hJ f1
    rw [e0]
    refine w_X8_cool_21 (fun q => w_X8_cool_26 (ih (k + 1) _ _ (by omega) y1 j1 (fun J' j => ?_))) (fun q => w_X8_cool_24 ?_)
    · have := q0 J' j
      rw [qF_f (by exact decide_eq_false q)] at this
      exact this
    · have := q0 I1 j1
      rw [qF_t (by exact decide_eq_true q)] at this
      exact this
theorem sCool (hs : cS o A f n h sl I R) : wkCi l G (d + 7) n_X8_cool [.ref 0] I L R (fun z I' L' R' => R' = R ∧ L' = L ∧ z = qCool A f ∧ cS o A f n h sl I' R') :=
  wkC_of 1 (by decide) (Nat.le_of_ble_eq_true rfl) (w_X8_cool_0 (sCoolL (d := d) hs 49 0 0 I (by omega) rfl (cQ_rf o I) (fun J' j => ⟨rfl, _, rfl, rfl, rfl, rfl, cS_q hs j⟩)))
theorem sNearL (hs : cS o A f n h sl I R) {Q : qQ} {x v : Int32} {w : Int32} (hw : w = pHt A (f 96)) : ∀ (m e : Nat) (y : Int32) (c : Int32 × Int32) (J : qMI), e + m = A.1.length → y.toInt = e → cQ o I J → (∀ J' : qMI, cQ o I J' → Q (some (.int (nrA v (qNr A (f 96) w x m e y c)))) 336 J' L R) → wkB l G (d + 5 + 1) n_X8_near Q 44 [.ref 0, .int x, .int v, .int w, .int c.1, .int c.2, .int y, wkU] [] J L R := by
  obtain ⟨⟨hL, hR, h12⟩, s1, -, -⟩ := hs
  have ho := hL.1
  have b21 := bNow
  intro m
  induction m with
  | zero =>
    intro e y c J hn hy hJ q0
    have hn2 := (cHas_n (cHas_q hJ hL)).1.1
    have q1 := q0 J hJ
    refine w_X8_near_44 ho h12 (fun _ => w_X8_near_113 (fun q => w_X8_near_124 (w_X8_near_131 ?_)) (fun q => w_X8_near_117 (fun q2 => w_X8_near_129 (w_X8_near_131 ?_)) (fun q2 => w_X8_near_124 (w_X8_near_131 ?_)))) (fun q => absurd (i_le.mpr (by omega)) q)
    · rw [qNr, nrA, if_pos (Or.inl q)] at q1
      exact q1
    · rw [qNr, nrA, if_neg (fun z => by rcases z with z | z; exact q z; exact q2 z)] at q1
      exact q1
    · rw [qNr, nrA, if_pos (Or.inr q2)] at q1
      exact q1
  | succ m ih =>
    intro e y c J hn hy hJ q0
    have hLJ := cHas_q hJ hL
    have hn2 := (cHas_n hLJ).1
    have e0 : J 21 0 = f 96 := sEq_at (sEq_q ho b21 hJ s1) (by omega) sI0
    have y1 : (y + 1).toInt = ((e + 1 : Nat) : Int) := by rw [i_s (by omega)]; omega
    refine w_X8_near_44 ho h12 (fun q => absurd (i_le.mp q) (by omega)) (fun _ => w_X8_near_56 ho h12 hR.1.1 (P := fun z I' L' R' => R' = R ∧ L' = L ∧ cQ o J I' ∧ z = pSp A (f 96) w x (tX A e) (tT A e)) (by rw [e0]; exact sSpotFrom (d := d) hLJ hy (by omega)) (fun z I1 L1 R1 hq => ?_))
    obtain ⟨rfl, rfl, f1, rfl⟩ := hq
    have j1 := cQ_tr hJ f1
    have skip : ¬ nrP A (f 96) w x e c.2 → wkB l G (d + 5 + 1) n_X8_near Q 107 [.ref 0, .int x, .int v, .int w, .int c.1, .int c.2, .int y, .int (pSp A (f 96) w x (tX A e) (tT A e))] [] I1 L1 R1 := fun c0 => w_X8_near_107 (ih (e + 1) _ c _ (by omega) y1 j1 (fun J' j => by
      have := q0 J' j
      rw [qNr_f c0] at this
      exact this))
    refine w_X8_near_74 (fun q => skip (fun z => z.1 q)) (fun q => w_X8_near_82 (fun q2 => skip (fun z => ?_)) (fun q2 => w_X8_near_94 (w_X8_near_107 (ih (e + 1) _ (y, ab (pSp A (f 96) w x (tX A e) (tT A e) - x)) _ (by omega) y1 j1 (fun J' j => ?_)))))
    · have a := i_le.mp q2
      have b := i_lt.mp z.2
      unfold ab at b
      omega
    · have := q0 J' j
      rw [qNr_t ⟨q, i_lt.mpr (by have := nle q2; unfold ab; omega)⟩] at this
      exact this
theorem sNear (hs : cS o A f n h sl I R) {x v : Int32} : wkCi l G (d + 6) n_X8_near [.ref 0, .int x, .int v] I L R (fun z I' L' R' => R' = R ∧ L' = L ∧ z = qNear A f x v ∧ cS o A f n h sl I' R') := by
  obtain ⟨⟨hL, hR, h12⟩, s1, s2, s3⟩ := id hs
  have e0 : I 21 0 = f 96 := sEq_at s1 (by omega) sI0
  have z0 : (0 : Int32).toInt = 0 := rfl
  have z1 : (1 : Int32).toInt = 1 := rfl
  have bad : ¬ (okX x ∧ 0 ≤ v.toInt ∧ v.toInt ≤ 1) → wkB l G (d + 5 + 1) n_X8_near (fun r t' I' L' R' => t' = 336 ∧ ∃ z, r = some (.int z) ∧ R' = R ∧ L' = L ∧ z = qNear A f x v ∧ cS o A f n h sl I' R') 16 [.ref 0, .int x, .int v, wkU, wkU, wkU, wkU, wkU] [] I L R := fun c => w_X8_near_16 ⟨rfl, _, rfl, rfl, rfl, by unfold qNear; rw [if_pos c], hs⟩
  refine wkC_of 5 (by decide) (Nat.le_of_ble_eq_true rfl) (w_X8_near_0 (sIsX (d := d + 4)) (fun z I1 L1 R1 hq => ?_))
  obtain ⟨rfl, rfl, rfl, rfl⟩ := hq
  refine w_X8_near_4 (fun q => bad (fun c => if1.1 q c.1)) (fun q => w_X8_near_7 (fun q2 => bad (fun c => ?_)) (fun q2 => w_X8_near_11 (fun q3 => w_X8_near_18 hL.1 h12 hR.1.1 (sHeat (d := d + 1) hL) (fun z I2 L2 R2 hq => ?_)) (fun q3 => bad (fun c => q3 (i_le.mpr (by rw [z1]; exact c.2.2))))))
  · have q2 := i_lt.mp q2
    rw [z0] at q2
    have := c.2.1
    omega
  obtain ⟨rfl, rfl, f2, rfl⟩ := hq
  have q2 := nlt q2
  rw [z0] at q2
  have q3 := i_le.mp q3
  rw [z1] at q3
  have c0 : okX x ∧ 0 ≤ v.toInt ∧ v.toInt ≤ 1 := ⟨if1.2 q, by omega, q3⟩
  rw [e0]
  refine w_X8_near_32 (sNearL (d := d) (cS_q hs f2) rfl A.1.length 0 0 (-2, 20) I2 (by omega) rfl (cQ_rf o I2) (fun J' j => ⟨rfl, _, rfl, rfl, rfl, ?_, cS_q hs (cQ_tr f2 j)⟩))
  unfold qNear
  rw [if_neg (fun z => z c0)]
theorem sCrowdT (hs : cS o A f n h sl I R) {Q : qQ} {x s w : Int32} {a : Nat} (ha : s.toInt = a) (hA : a < A.2.1.length) (hw : w = pHt A (f 96)) : ∀ (m e : Nat) (y acc : Int32) (J : qMI), e + m = A.1.length → y.toInt = e → cQ o I J → (∀ (y' : Int32) (J' : qMI), cQ o I J' → wkB l G (d + 5 + 1) n_X8_crowd Q 100 [.ref 0, .int x, .int w, .int (qB (fun e => decide (pSp A (f 96) w (f a) (tX A e) (tT A e) = x)) m e y acc), .int s, .int y'] [] J' L R) → wkB l G (d + 5 + 1) n_X8_crowd Q 44 [.ref 0, .int x, .int w, .int acc, .int s, .int y] [] J L R := by
  obtain ⟨⟨hL, hR, h12⟩, s1, -, -⟩ := hs
  have ho := hL.1
  have rb := hR.2.2.2.2 21 bNow
  have b21 := bNow
  intro m
  induction m with
  | zero =>
    intro e y acc J hn hy hJ q0
    have hn2 := (cHas_n (cHas_q hJ hL)).1.1
    exact w_X8_crowd_44 ho h12 (fun _ => q0 y J hJ) (fun q => absurd (i_le.mpr (by omega)) q)
  | succ m ih =>
    intro e y acc J hn hy hJ q0
    have hLJ := cHas_q hJ hL
    have hn2 := (cHas_n hLJ).1
    have hn3 := (cHas_n hLJ).2.2
    have sJ := sEq_q ho b21 hJ s1
    have e0 : J 21 0 = f 96 := sEq_at sJ (by omega) sI0
    have cs : s.toNatClampNeg = a := by rw [tcn]; omega
    have e1 : J 22 s.toNatClampNeg = f a := by rw [cs]; exact sEq_at sJ (by omega) (sI1 (by omega))
    have y1 : (y + 1).toInt = ((e + 1 : Nat) : Int) := by rw [i_s (by omega)]; omega
    refine w_X8_crowd_44 ho h12 (fun q => absurd (i_le.mp q) (by omega)) (fun _ => w_X8_crowd_56 ho h12 hR.1.1 (rb 1 (by decide) (by decide)) (vin (by omega) (by omega)) hR.1.1 (P := fun z I' L' R' => R' = R ∧ L' = L ∧ cQ o J I' ∧ z = pSp A (f 96) w (f a) (tX A e) (tT A e)) (by rw [e1, e0]; exact sSpotFrom (d := d) hLJ hy (by omega)) (fun z I1 L1 R1 hq => ?_))
    obtain ⟨rfl, rfl, f1, rfl⟩ := hq
    have j1 := cQ_tr hJ f1
    refine w_X8_crowd_83 (fun q => w_X8_crowd_94 (ih (e + 1) _ _ _ (by omega) y1 j1 (fun y' J' j => ?_))) (fun q => w_X8_crowd_87 (w_X8_crowd_94 (ih (e + 1) _ _ _ (by omega) y1 j1 (fun y' J' j => ?_))))
    · have := q0 y' J' j
      rw [qB_f (by exact decide_eq_false q)] at this
      exact this
    · have := q0 y' J' j
      rw [qB_t (by exact decide_eq_true q)] at this
      exact this
theorem sCrowdL (hs : cS o A f n h sl I R) {Q : qQ} {x w : Int32} (hw : w = pHt A (f 96)) : ∀ (m a : Nat) (s acc : Int32) (J : qMI), a + m = A.2.1.length → s.toInt = a → cQ o I J → (∀ J' : qMI, cQ o I J' → Q (some (.int (qCr A f (f 96) w x m a acc))) 336 J' L R) → wkB l G (d + 5 + 1) n_X8_crowd Q 29 [.ref 0, .int x, .int w, .int acc, .int s, wkU] [] J L R := by
  have hL := hs.1.1
  have h12 := hs.1.2.2
  have ho := hL.1
  intro m
  induction m with
  | zero =>
    intro a s acc J hn hy hJ q0
    have hn2 := (cHas_n (cHas_q hJ hL)).2.1
    exact w_X8_crowd_29 ho h12 (fun _ => w_X8_crowd_106 (q0 J hJ)) (fun q => absurd (i_le.mpr (by omega)) q)
  | succ m ih =>
    intro a s acc J hn hy hJ q0
    have hLJ := cHas_q hJ hL
    have hn2 := (cHas_n hLJ).2
    have s1 : (s + 1).toInt = ((a + 1 : Nat) : Int) := by rw [i_s (by omega)]; omega
    refine w_X8_crowd_29 ho h12 (fun q => absurd (i_le.mp q) (by omega)) (fun _ => w_X8_crowd_41 (sCrowdT (d := d) hs hy (by omega) hw A.1.length 0 0 acc J (by omega) rfl hJ (fun y' J' j => ?_)))
    exact w_X8_crowd_100 (ih (a + 1) _ _ J' (by omega) s1 j (fun J2 j2 => q0 J2 j2))
theorem sCrowd (hs : cS o A f n h sl I R) {x : Int32} : wkCi l G (d + 6) n_X8_crowd [.ref 0, .int x] I L R (fun z I' L' R' => R' = R ∧ L' = L ∧ z = qCrowd A f x ∧ cS o A f n h sl I' R') := by
  obtain ⟨⟨hL, hR, h12⟩, s1, s2, s3⟩ := id hs
  have e0 : I 21 0 = f 96 := sEq_at s1 (by omega) sI0
  refine wkC_of 4 (by decide) (Nat.le_of_ble_eq_true rfl) (w_X8_crowd_0 (sIsX (d := d + 4)) (fun z I1 L1 R1 hq => ?_))
  obtain ⟨rfl, rfl, rfl, rfl⟩ := hq
  refine w_X8_crowd_4 (fun q => w_X8_crowd_9 hL.1 h12 hR.1.1 (sHeat (d := d + 1) hL) (fun z I2 L2 R2 hq => ?_)) (fun q => w_X8_crowd_7 ⟨rfl, _, rfl, rfl, rfl, ?_, hs⟩)
  · obtain ⟨rfl, rfl, f2, rfl⟩ := hq
    rw [e0]
    refine w_X8_crowd_23 (sCrowdL (d := d) (cS_q hs f2) rfl A.2.1.length 0 0 0 I2 (by omega) rfl (cQ_rf o I2) (fun J' j => ⟨rfl, _, rfl, rfl, rfl, ?_, cS_q hs (cQ_tr f2 j)⟩))
    unfold qCrowd
    rw [if_neg (fun z => z (if1.2 q))]
  · unfold qCrowd
    rw [if_pos (if1.1 q)]
end
