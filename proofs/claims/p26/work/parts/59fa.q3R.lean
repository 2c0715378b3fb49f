/-! ===== heatIn, dawns, cool, near, crowd: the reference's ===== -/
theorem or0 {x y : Int32} : x ||| y = 0 ↔ x = 0 ∧ y = 0 := by
  constructor
  · intro q
    have e : x.toBitVec ||| y.toBitVec = 0#32 := by
      rw [← Int32.toBitVec_or, q]
      rfl
    obtain ⟨a, b⟩ := BitVec.or_eq_zero_iff.mp e
    exact ⟨Int32.toBitVec_inj.mp a, Int32.toBitVec_inj.mp b⟩
  · rintro ⟨rfl, rfl⟩
    decide
theorem bit0 {y : Int32} {e : Nat} (hy : y.toInt = e) (he : e < 6) : ¬ (1 : Int32) <<< (y &&& 31) = 0 := by
  have ey : y = Int32.ofNat e := ofN hy (by omega)
  have all : ∀ e, e < 6 → ¬ (1 : Int32) <<< (Int32.ofNat e &&& 31) = 0 := by decide +kernel
  rw [ey]
  exact all e he
theorem qB_0 {p : Nat → Bool} : ∀ (m e : Nat) (y acc : Int32), e + m ≤ 6 → y.toInt = e → (qB p m e y acc = 0 ↔ acc = 0 ∧ ∀ j, e ≤ j → j < e + m → p j = false)
  | 0, e, y, acc, _, _ => ⟨fun q => ⟨q, fun j a b => by omega⟩, fun q => q.1⟩
  | m + 1, e, y, acc, h, hy => by
    have y1 : (y + 1).toInt = ((e + 1 : Nat) : Int) := by rw [i_s (by omega)]; omega
    rcases hp : p e with _ | _
    · rw [qB_f hp, qB_0 m (e + 1) _ _ (by omega) y1]
      exact ⟨fun q => ⟨q.1, fun j a b => by
        by_cases c : j = e
        · rw [c]; exact hp
        · exact q.2 j (by omega) (by omega)⟩, fun q => ⟨q.1, fun j a b => q.2 j (by omega) (by omega)⟩⟩
    · rw [qB_t hp, qB_0 m (e + 1) _ _ (by omega) y1]
      constructor
      · intro q
        exact absurd (or0.mp q.1).2 (bit0 hy (by omega))
      · intro q
        have := q.2 e (by omega) (by omega)
        rw [hp] at this
        exact absurd this (by decide)
theorem qO_0 {g : Nat → Int32} : ∀ (m k : Nat) (acc : Int32), (qO g m k acc = 0 ↔ acc = 0 ∧ ∀ j, k ≤ j → j < k + m → g j = 0)
  | 0, k, acc => ⟨fun q => ⟨q, fun j a b => by omega⟩, fun q => q.1⟩
  | m + 1, k, acc => by
    rw [qO, qO_0 m (k + 1), or0]
    exact ⟨fun q => ⟨q.1.1, fun j a b => by
      by_cases c : j = k
      · rw [c]; exact q.1.2
      · exact q.2 j (by omega) (by omega)⟩, fun q => ⟨⟨q.1, q.2 k (by omega) (by omega)⟩, fun j a b => q.2 j (by omega) (by omega)⟩⟩
/-- no seat sees a thing -/
theorem thS_0 {A : aD} {f : Nat → Int32} {hr : Int32} (hA : aOk A) : qThSeen A f hr = 0 ↔ ∀ a, a < A.2.1.length → ∀ e, e < A.1.length → ¬ pSe A hr (pHt A hr) (f a) (tX A e) (tT A e) := by
  have n6 := hA.1
  unfold qThSeen
  rw [qO_0]
  constructor
  · intro q a ha e he
    have := q.2 a (by omega) (by omega)
    unfold qSeesT at this
    rw [qB_0 _ _ _ _ (by omega) rfl] at this
    exact of_decide_eq_false (this.2 e (by omega) (by omega))
  · intro q
    refine ⟨rfl, fun a _ ha => ?_⟩
    unfold qSeesT
    rw [qB_0 _ _ _ _ (by omega) rfl]
    exact ⟨rfl, fun e _ he => decide_eq_false (q a (by omega) e (by omega))⟩
section
variable {l : Launch} {G : qG} {d : Nat} {I : qMI} {L : qML} {R : qMR} {v n : Nat} {A : aD} {f : Nat → Int32} {h sl : Nat → Nat → Int32}
theorem uHeatIn (hR : wkR R) (hs : rS v A f n h sl I) (hA : aOk A) (hf : fOk A f) {m : Int32} : wkI l G (d + 4) n_X9_heatIn [.ref 292, .int m] I L R (fun z I' L' => L' = L ∧ z = qHeatIn A f m ∧ rS v A f n h sl I' ∧ rMf I I') := by
  obtain ⟨hL, s1, s2, s3⟩ := id hs
  refine wkC_of 0 (by decide) (Nat.le_of_ble_eq_true rfl) (w_X9_heatIn_0 (uIsLong (d := d + 1)) (fun z I1 L1 hq => ?_))
  obtain ⟨rfl, rfl, rfl⟩ := hq
  refine w_X9_heatIn_4 (fun q => w_X9_heatIn_23 (w_X9_heatIn_24 ⟨rfl, rfl, _, rfl, rfl, ?_, hs, rMf_rf _⟩)) (fun q => w_X9_heatIn_7 hR (vin (by decide) (by decide)) (P := fun z I' L' => L' = L1 ∧ rW I1 I' ∧ z = pHt A (f 96 + m)) (by rw [show (96 : Int32).toNatClampNeg = 96 from rfl, s1 96 (by omega)]; exact uHeat (d := d) hR hL) (fun z I3 L3 hq => ?_))
  · unfold qHeatIn
    rw [if_neg (if1.1 q)]
  obtain ⟨rfl, f3, rfl⟩ := hq
  refine w_X9_heatIn_20 (w_X9_heatIn_24 ⟨rfl, rfl, _, rfl, rfl, ?_, rS_g hs (rFg_w f3), rMf_g (rFg_w f3)⟩)
  unfold qHeatIn
  rw [if_pos (if1.2 q)]
theorem uDawnsL (hR : wkR R) (hs : rS v A f n h sl I) (hA : aOk A) {Q : qQ} {x t : Int32} {e : Nat} (hx : bnd x) (he : t.toInt = e) (hE : e < A.1.length) : ∀ (m k : Nat) (y : Int32) (J : qMI), k + m = 49 → y.toInt = k → rW I J → (∀ J' : qMI, rW I J' → Q (some (.int (qF (fun y => decide (pSe A (f 96 + y) (pHt A (f 96 + y)) x (tX A e) (tT A e))) m y))) 336 J' L R) → wkB l G (d + 6 + 1) n_X9_dawns Q 19 [.ref 292, .int x, .int t, .int y] [] J L R := by
  obtain ⟨hL, s1, s2, s3⟩ := id hs
  have z48 : (48 : Int32).toInt = 48 := rfl
  intro m
  induction m with
  | zero =>
    intro k y J hn hy hJ q0
    exact w_X9_dawns_19 (fun _ => w_X9_dawns_51 (q0 J hJ)) (fun q => absurd (i_lt.mpr (by rw [z48]; omega)) q)
  | succ m ih =>
    intro k y J hn hy hJ q0
    have hsJ := rS_g hs (rFg_w hJ)
    have y1 : (y + 1).toInt = ((k + 1 : Nat) : Int) := by rw [i_s (by omega)]; omega
    refine w_X9_dawns_19 (fun q => absurd (i_lt.mp q) (by rw [z48]; omega)) (fun _ => w_X9_dawns_25 hR (vin (by decide) (by decide)) (P := fun z I' L' => L' = L ∧ rW J I' ∧ z = if pSe A (f 96 + y) (pHt A (f 96 + y)) x (tX A e) (tT A e) then 1 else 0) (by rw [show (96 : Int32).toNatClampNeg = 96 from rfl, hsJ.2.1 96 (by omega)]; exact uSees (d := d) hR hsJ.1 hx he hE (hA.2.1 e hE)) (fun z I3 L3 hq => ?_))
    obtain ⟨rfl, f1, rfl⟩ := hq
    have j1 := rW_tr hJ f1
    refine w_X9_dawns_40 (fun q => w_X9_dawns_45 (ih (k + 1) _ _ (by omega) y1 j1 (fun J' j => ?_))) (fun q => w_X9_dawns_43 ?_)
    · have := q0 J' j
      rw [qF_f (by exact decide_eq_false (if1.1 q))] at this
      exact this
    · have := q0 I3 j1
      rw [qF_t (by exact decide_eq_true (if1.2 q))] at this
      exact this
theorem uDawns (hR : wkR R) (hs : rS v A f n h sl I) (hA : aOk A) (hf : fOk A f) {x t : Int32} : wkI l G (d + 7) n_X9_dawns [.ref 292, .int x, .int t] I L R (fun z I' L' => L' = L ∧ z = qDawns A f x t ∧ rS v A f n h sl I' ∧ rMf I I') := by
  obtain ⟨hL, s1, s2, s3⟩ := id hs
  have bad : ¬ (okX x ∧ okT A t) → wkB l G (d + 6 + 1) n_X9_dawns (wkPI R (fun z I' L' => L' = L ∧ z = qDawns A f x t ∧ rS v A f n h sl I' ∧ rMf I I')) 15 [.ref 292, .int x, .int t, wkU] [] I L R := fun c => w_X9_dawns_15 ⟨rfl, rfl, _, rfl, rfl, by unfold qDawns; rw [if_pos c], hs, rMf_rf I⟩
  refine wkC_of 1 (by decide) (Nat.le_of_ble_eq_true rfl) (w_X9_dawns_0 (uIsX (d := d + 4)) (fun z I1 L1 hq => ?_))
  obtain ⟨rfl, rfl, rfl⟩ := hq
  refine w_X9_dawns_4 (fun q => bad (fun c => if1.1 q c.1)) (fun q => w_X9_dawns_7 (uIsThing (d := d + 4) hR hL) (fun z I1 L1 hq => ?_))
  obtain ⟨rfl, rfl, rfl⟩ := hq
  refine w_X9_dawns_12 (fun q2 => ?_) (fun q2 => bad (fun c => if1.1 q2 c.2))
  have c0 : okX x ∧ okT A t := ⟨if1.2 q, if1.2 q2⟩
  have t0 := c0.2
  have ht : t.toInt = t.toInt.toNat := by omega
  have bx : bnd x := ⟨c0.1.1, by have := c0.1.2; omega⟩
  refine w_X9_dawns_17 (uDawnsL (d := d) hR hs hA bx ht (by omega) 49 0 0 I1 (by omega) rfl (rW_rf I1) (fun J' j => ⟨rfl, rfl, _, rfl, rfl, ?_, rS_g hs (rFg_w j), rMf_g (rFg_w j)⟩))
  unfold qDawns
  rw [if_neg (fun z => z c0)]
/-- some thing from e on is seen by seat a; some seat from a on sees one -/
def sThg (A : aD) (f : Nat → Int32) (hr : Int32) (a e : Nat) : Prop := ∃ j, e ≤ j ∧ j < A.1.length ∧ pSe A hr (pHt A hr) (f a) (tX A j) (tT A j)
def sSea (A : aD) (f : Nat → Int32) (hr : Int32) (a : Nat) : Prop := ∃ b, a ≤ b ∧ b < A.2.1.length ∧ sThg A f hr b 0
theorem uCoolT (hR : wkR R) (hs : rS v A f n h sl I) (hA : aOk A) (hf : fOk A f) {Q : qQ} {y s : Int32} {a : Nat} (ha : s.toInt = a) (hA1 : a < A.2.1.length) : ∀ (m e : Nat) (t acc : Int32) (J : qMI), e + m = A.1.length → t.toInt = e → rW I J → (∀ (t' acc' : Int32) (J' : qMI), rW I J' → (acc' = 0 ↔ acc = 0 ∧ ¬ sThg A f (f 96 + y) a e) → wkB l G (d + 6 + 1) n_X9_cool Q 74 [.ref 292, .int y, .int acc', .int s, .int t'] [] J' L R) → wkB l G (d + 6 + 1) n_X9_cool Q 28 [.ref 292, .int y, .int acc, .int s, .int t] [] J L R := by
  have n6 := hA.1
  have hv := hs.1.1.1
  intro m
  induction m with
  | zero =>
    intro e t acc J hn hy hJ q0
    have hLJ := rHas_q hJ hs.1
    have h18' := hLJ.1.2
    have cl : (J 292 18).toNatClampNeg = v := by rw [tcn]; omega
    have hn2 := (rHas_n hLJ).1.1
    exact w_X9_cool_28 hR (vin (by omega) (by omega)) (fun _ => q0 t acc J hJ ⟨fun q => ⟨q, fun z => by obtain ⟨j, a, b, -⟩ := z; omega⟩, fun q => q.1⟩) (fun q => absurd (i_le.mpr (by rw [cl]; omega)) q)
  | succ m ih =>
    intro e t acc J hn hy hJ q0
    have hsJ := rS_g hs (rFg_w hJ)
    have hLJ := hsJ.1
    have h18' := hLJ.1.2
    have cl : (J 292 18).toNatClampNeg = v := by rw [tcn]; omega
    have hn2 := (rHas_n hLJ).1.1
    have t1 : (t + 1).toInt = ((e + 1 : Nat) : Int) := by rw [i_s (by omega)]; omega
    have cs : s.toNatClampNeg = a := by rw [tcn]; omega
    refine w_X9_cool_28 hR (vin (by omega) (by omega)) (fun q => absurd (i_le.mp q) (by rw [cl]; omega)) (fun _ => w_X9_cool_42 hR (vin (by omega) (by omega)) (vin (by decide) (by decide)) (P := fun z I' L' => L' = L ∧ rW J I' ∧ z = if pSe A (f 96 + y) (pHt A (f 96 + y)) (f a) (tX A e) (tT A e) then 1 else 0) (by rw [cs, show (96 : Int32).toNatClampNeg = 96 from rfl, hsJ.2.1 96 (by omega), hsJ.2.1 a (by omega)]; exact uSees (d := d) hR hLJ (hf.1 a (by omega)) hy (by omega) (hA.2.1 e (by omega))) (fun z I3 L3 hq => ?_))
    obtain ⟨rfl, f1, rfl⟩ := hq
    have j1 := rW_tr hJ f1
    refine w_X9_cool_63 (fun q => w_X9_cool_68 (ih (e + 1) _ _ _ (by omega) t1 j1 (fun t' acc' J' j c => q0 t' acc' J' j ?_))) (fun q => w_X9_cool_66 (w_X9_cool_68 (ih (e + 1) _ _ _ (by omega) t1 j1 (fun t' acc' J' j c => q0 t' acc' J' j ?_))))
    · have q := if1.1 q
      rw [c]
      refine ⟨fun w => ⟨w.1, fun z => ?_⟩, fun w => ⟨w.1, fun z => ?_⟩⟩
      · obtain ⟨j, z1, z2, z3⟩ := z
        by_cases ej : j = e
        · rw [ej] at z3
          exact q z3
        · exact w.2 ⟨j, by omega, z2, z3⟩
      · obtain ⟨j, z1, z2, z3⟩ := z
        exact w.2 ⟨j, by omega, z2, z3⟩
    · have q := if1.2 q
      refine ⟨fun w => ?_, fun w => absurd ⟨e, by omega, by omega, q⟩ w.2⟩
      have := (c.mp w).1
      exact absurd this (by decide)
theorem uCoolS (hR : wkR R) (hs : rS v A f n h sl I) (hA : aOk A) (hf : fOk A f) {Q : qQ} {y : Int32} : ∀ (m a : Nat) (s acc : Int32) (J : qMI), a + m = A.2.1.length → s.toInt = a → rW I J → (∀ (s' acc' : Int32) (J' : qMI), rW I J' → (acc' = 0 ↔ acc = 0 ∧ ¬ sSea A f (f 96 + y) a) → wkB l G (d + 6 + 1) n_X9_cool Q 80 [.ref 292, .int y, .int acc', .int s', wkU] [] J' L R) → wkB l G (d + 6 + 1) n_X9_cool Q 12 [.ref 292, .int y, .int acc, .int s, wkU] [] J L R := by
  have n6 := hA.1
  have hv := hs.1.1.1
  intro m
  induction m with
  | zero =>
    intro a s acc J hn hy hJ q0
    have hLJ := rHas_q hJ hs.1
    have h18' := hLJ.1.2
    have cl : (J 292 18).toNatClampNeg = v := by rw [tcn]; omega
    have hn2 := (rHas_n hLJ).2.1
    exact w_X9_cool_12 hR (vin (by omega) (by omega)) (fun _ => q0 s acc J hJ ⟨fun q => ⟨q, fun z => by obtain ⟨j, a, b, -⟩ := z; omega⟩, fun q => q.1⟩) (fun q => absurd (i_le.mpr (by rw [cl]; omega)) q)
  | succ m ih =>
    intro a s acc J hn hy hJ q0
    have hLJ := rHas_q hJ hs.1
    have h18' := hLJ.1.2
    have cl : (J 292 18).toNatClampNeg = v := by rw [tcn]; omega
    have hn2 := (rHas_n hLJ).2.1
    have s1 : (s + 1).toInt = ((a + 1 : Nat) : Int) := by rw [i_s (by omega)]; omega
    refine w_X9_cool_12 hR (vin (by omega) (by omega)) (fun q => absurd (i_le.mp q) (by rw [cl]; omega)) (fun _ => w_X9_cool_25 (uCoolT (d := d) hR hs hA hf hy (by omega) A.1.length 0 0 acc J (by omega) rfl hJ (fun t' acc1 J1 j1 c1 => w_X9_cool_74 (ih (a + 1) _ acc1 J1 (by omega) s1 j1 (fun s' acc' J' j c => q0 s' acc' J' j ?_)))))
    rw [c, c1]
    refine ⟨fun w => ⟨w.1.1, fun z => ?_⟩, fun w => ⟨⟨w.1, fun z => w.2 ⟨a, by omega, by omega, z⟩⟩, fun z => ?_⟩⟩
    · obtain ⟨b, z1, z2, z3⟩ := z
      by_cases eb : b = a
      · rw [eb] at z3
        exact w.1.2 z3
      · exact w.2 ⟨b, by omega, z2, z3⟩
    · obtain ⟨b, z1, z2, z3⟩ := z
      exact w.2 ⟨b, by omega, z2, z3⟩
theorem uCoolL (hR : wkR R) (hs : rS v A f n h sl I) (hA : aOk A) (hf : fOk A f) {Q : qQ} : ∀ (m k : Nat) (y : Int32) (J : qMI), k + m = 49 → y.toInt = k → rW I J → (∀ J' : qMI, rW I J' → Q (some (.int (qF (fun y => decide (qThSeen A f (f 96 + y) = 0)) m y))) 336 J' L R) → wkB l G (d + 6 + 1) n_X9_cool Q 2 [.ref 292, .int y, wkU, wkU, wkU] [] J L R := by
  have z48 : (48 : Int32).toInt = 48 := rfl
  intro m
  induction m with
  | zero =>
    intro k y J hn hy hJ q0
    exact w_X9_cool_2 (fun _ => w_X9_cool_92 (q0 J hJ)) (fun q => absurd (i_lt.mpr (by rw [z48]; omega)) q)
  | succ m ih =>
    intro k y J hn hy hJ q0
    have y1 : (y + 1).toInt = ((k + 1 : Nat) : Int) := by rw [i_s (by omega)]; omega
    have key : qThSeen A f (f 96 + y) = 0 ↔ ¬ sSea A f (f 96 + y) 0 := by
      rw [thS_0 hA]
      refine ⟨fun w z => ?_, fun w a ha e he z => w ⟨a, by omega, ha, e, by omega, he, z⟩⟩
      obtain ⟨a, -, ha, e, -, he, z⟩ := z
      exact w a ha e he z
    refine w_X9_cool_2 (fun q => absurd (i_lt.mp q) (by rw [z48]; omega)) (fun _ => w_X9_cool_8 (uCoolS (d := d) hR hs hA hf A.2.1.length 0 0 0 J (by omega) rfl hJ (fun s' acc' J' j c => ?_)))
    refine w_X9_cool_80 (fun q => w_X9_cool_86 (ih (k + 1) _ _ (by omega) y1 j (fun J2 j2 => ?_))) (fun q => w_X9_cool_84 ?_)
    · have := q0 J2 j2
      rw [qF_f (by exact decide_eq_false (fun z => q (c.mpr ⟨rfl, key.mp z⟩)))] at this
      exact this
    · have := q0 J' j
      rw [qF_t (by exact decide_eq_true (key.mpr (c.mp q).2))] at this
      exact this
theorem uCool (hR : wkR R) (hs : rS v A f n h sl I) (hA : aOk A) (hf : fOk A f) : wkI l G (d + 7) n_X9_cool [.ref 292] I L R (fun z I' L' => L' = L ∧ z = qCool A f ∧ rS v A f n h sl I' ∧ rMf I I') :=
  wkC_of 4 (by decide) (Nat.le_of_ble_eq_true rfl) (w_X9_cool_0 (uCoolL (d := d) hR hs hA hf 49 0 0 I (by omega) rfl (rW_rf I) (fun J' j => ⟨rfl, rfl, _, rfl, rfl, rfl, rS_g hs (rFg_w j), rMf_g (rFg_w j)⟩)))
theorem pSp_b {A : aD} {hr w x tx tl : Int32} (hs : ¬ pSp A hr w x tx tl = -1) : 0 ≤ (pSp A hr w x tx tl).toInt ∧ (pSp A hr w x tx tl).toInt ≤ 19 := by
  unfold pSp at hs ⊢
  by_cases c : 0 < aTl A 1 (eAim hr w x tx tl)
  · rw [if_pos c]
    exact wIn_b (a := 0) (b := 19) (by decide)
  · rw [if_neg c] at hs
    exact absurd rfl hs
theorem ab_t {s x : Int32} (hs : bnd s) (hx : bnd x) : (ab (s - x)).toInt = (s.toInt - x.toInt).natAbs ∧ (if 0 ≤ x - s then x - s else 0 - (x - s)) = ab (s - x) := by
  have z0 : (0 : Int32).toInt = 0 := rfl
  have e1 : (s - x).toInt = s.toInt - x.toInt := i_sub (by omega) (by omega)
  have e2 : (x - s).toInt = x.toInt - s.toInt := i_sub (by omega) (by omega)
  have e3 : (0 - (s - x)).toInt = x.toInt - s.toInt := by rw [i_sub (by omega) (by omega), e1, z0]; omega
  have e4 : (0 - (x - s)).toInt = s.toInt - x.toInt := by rw [i_sub (by omega) (by omega), e2, z0]; omega
  have a1 : (ab (s - x)).toInt = (s.toInt - x.toInt).natAbs := by
    unfold ab
    split
    · rename_i c
      have c := i_le.mp c
      omega
    · rename_i c
      have c := nle c
      omega
  refine ⟨a1, i_eq.mpr ?_⟩
  rw [a1]
  split
  · rename_i c
    have c := i_le.mp c
    omega
  · rename_i c
    have c := nle c
    omega
/-- the nearest so far: none, or one -/
def nrOk (c : Int32 × Int32) : Prop := (c.1 = -2 ∧ c.2 = 20) ∨ (0 ≤ c.1.toInt ∧ 0 ≤ c.2.toInt)
def nrB (c : Int32 × Int32) : Int32 := if c.1 = -2 then -2 else c.2
theorem uNearL (hR : wkR R) (hs : rS v A f n h sl I) (hA : aOk A) {Q : qQ} {x w : Int32} (hx : bnd x) : ∀ (m e : Nat) (y : Int32) (c : Int32 × Int32) (J : qMI), e + m = A.1.length → y.toInt = e → nrOk c → rW I J → (∀ J' : qMI, rW I J' → Q (some (.int (nrA w (qNr A (f 96) (pHt A (f 96)) x m e y c)))) 336 J' L R) → wkB l G (d + 7 + 1) n_X9_near Q 28 [.ref 292, .int x, .int w, .int c.1, .int (nrB c), .int y, wkU] [] J L R := by
  have n6 := hA.1
  have hv := hs.1.1.1
  have z0 : (0 : Int32).toInt = 0 := rfl
  have zm : (-2 : Int32).toInt = -2 := rfl
  have z20 : (20 : Int32).toInt = 20 := rfl
  intro m
  induction m with
  | zero =>
    intro e y c J hn hy hc hJ q0
    have hLJ := rHas_q hJ hs.1
    have h18' := hLJ.1.2
    have cl : (J 292 18).toNatClampNeg = v := by rw [tcn]; omega
    have hn2 := (rHas_n hLJ).1.1
    have q1 := q0 J hJ
    rw [qNr] at q1
    refine w_X9_near_28 hR (vin (by omega) (by omega)) (fun _ => w_X9_near_98 (fun q => w_X9_near_106 (w_X9_near_108 ?_)) (fun q => w_X9_near_102 (w_X9_near_108 ?_))) (fun q => absurd (i_le.mpr (by rw [cl]; omega)) q)
    · unfold nrB
      by_cases c2 : c.1 = -2
      · rw [if_pos c2]
        rw [nrA, if_pos (Or.inr c2), c2] at q1
        exact q1
      · rw [if_neg c2]
        rw [nrA, if_neg (fun z => by rcases z with z | z; exact q z; exact c2 z)] at q1
        exact q1
    · rw [nrA, if_pos (Or.inl q)] at q1
      exact q1
  | succ m ih =>
    intro e y c J hn hy hc hJ q0
    have hsJ := rS_g hs (rFg_w hJ)
    have hLJ := hsJ.1
    have h18' := hLJ.1.2
    have cl : (J 292 18).toNatClampNeg = v := by rw [tcn]; omega
    have hn2 := (rHas_n hLJ).1.1
    have y1 : (y + 1).toInt = ((e + 1 : Nat) : Int) := by rw [i_s (by omega)]; omega
    refine w_X9_near_28 hR (vin (by omega) (by omega)) (fun q => absurd (i_le.mp q) (by rw [cl]; omega)) (fun _ => w_X9_near_42 hR (vin (by decide) (by decide)) (P := fun z I' L' => L' = L ∧ rW J I' ∧ z = pSight A (f 96) x e) (by rw [show (96 : Int32).toNatClampNeg = 96 from rfl, hsJ.2.1 96 (by omega)]; exact uSightOf (d := d) hR hLJ hx hy (by omega) (hA.2.1 e (by omega))) (fun z I3 L3 hq => ?_))
    obtain ⟨rfl, f1, rfl⟩ := hq
    have j1 := rW_tr hJ f1
    have skip : ∀ s : Int32, ¬ nrP A (f 96) (pHt A (f 96)) x e c.2 → wkB l G (d + 7 + 1) n_X9_near Q 92 [.ref 292, .int x, .int w, .int c.1, .int (nrB c), .int y, .int s] [] I3 L3 R := fun s c0 => w_X9_near_92 (ih (e + 1) _ c _ (by omega) y1 hc j1 (fun J' j => by
      have := q0 J' j
      rw [qNr_f c0] at this
      exact this))
    by_cases un : pSp A (f 96) (pHt A (f 96)) x (tX A e) (tT A e) = -1
    · have es : pSight A (f 96) x e = -2 := by unfold pSight; rw [if_pos un]
      rw [es]
      exact w_X9_near_56 (fun _ => skip _ (fun z => z.1 un)) (fun q => absurd (by decide) q)
    · have es : pSight A (f 96) x e = pSp A (f 96) (pHt A (f 96)) x (tX A e) (tT A e) := by unfold pSight; rw [if_neg un]
      rw [es]
      have bs : bnd (pSp A (f 96) (pHt A (f 96)) x (tX A e) (tT A e)) := pSp_b un
      obtain ⟨t1, t2⟩ := ab_t bs hx
      have take : nrP A (f 96) (pHt A (f 96)) x e c.2 → wkB l G (d + 7 + 1) n_X9_near Q 81 [.ref 292, .int x, .int w, .int c.1, .int (nrB c), .int y, .int (pSp A (f 96) (pHt A (f 96)) x (tX A e) (tT A e))] [] I3 L3 R := fun c0 => by
        refine w_X9_near_81 (uOff (d := d + 6) bs hx) (fun z I4 L4 hq => ?_)
        obtain ⟨rfl, rfl, rfl⟩ := hq
        rw [t2]
        have ny : ¬ y = -2 := fun z => by rw [z, zm] at hy; omega
        have nb : nrB (y, ab (pSp A (f 96) (pHt A (f 96)) x (tX A e) (tT A e) - x)) = ab (pSp A (f 96) (pHt A (f 96)) x (tX A e) (tT A e) - x) := by
          unfold nrB
          rw [if_neg ny]
        refine w_X9_near_90 (w_X9_near_92 ?_)
        have := ih (e + 1) _ (y, ab (pSp A (f 96) (pHt A (f 96)) x (tX A e) (tT A e) - x)) _ (by omega) y1 (Or.inr ⟨by show 0 ≤ y.toInt; omega, by show 0 ≤ (ab _).toInt; omega⟩) j1 (fun J' j => by
          have := q0 J' j
          rw [qNr_t c0] at this
          exact this)
        rw [nb] at this
        exact this
      refine w_X9_near_56 (fun q => absurd (i_lt.mp q) (by rw [z0]; omega)) (fun _ => w_X9_near_63 (fun q => take ⟨un, i_lt.mpr ?_⟩) (fun q => w_X9_near_67 (uOff (d := d + 6) bs hx) (fun z I4 L4 hq => ?_)))
      · have q := i_lt.mp q
        rw [z0] at q
        rcases hc with ⟨c1, c2⟩ | ⟨c1, c2⟩
        · rw [c2, z20]
          omega
        · omega
      obtain ⟨rfl, rfl, rfl⟩ := hq
      rw [t2]
      have q := nlt q
      rw [z0] at q
      have c1 : ¬ c.1 = -2 := fun z => by rw [z, zm] at q; omega
      have nb : nrB c = c.2 := by unfold nrB; rw [if_neg c1]
      rw [nb] at skip take ⊢
      exact w_X9_near_73 (fun q2 => take ⟨un, q2⟩) (fun q2 => w_X9_near_78 (skip _ (fun z => q2 z.2)))
theorem uNear (hR : wkR R) (hs : rS v A f n h sl I) (hA : aOk A) (hf : fOk A f) {x w : Int32} : wkI l G (d + 8) n_X9_near [.ref 292, .int x, .int w] I L R (fun z I' L' => L' = L ∧ z = qNear A f x w ∧ rS v A f n h sl I' ∧ rMf I I') := by
  obtain ⟨hL, s1, s2, s3⟩ := id hs
  have bad : ¬ (okX x ∧ 0 ≤ w.toInt ∧ w.toInt ≤ 1) → wkB l G (d + 7 + 1) n_X9_near (wkPI R (fun z I' L' => L' = L ∧ z = qNear A f x w ∧ rS v A f n h sl I' ∧ rMf I I')) 16 [.ref 292, .int x, .int w, wkU, wkU, wkU, wkU] [] I L R := fun c => w_X9_near_16 ⟨rfl, rfl, _, rfl, rfl, by unfold qNear; rw [if_pos c], hs, rMf_rf I⟩
  refine wkC_of 4 (by decide) (Nat.le_of_ble_eq_true rfl) (w_X9_near_0 (uIsX (d := d + 5)) (fun z I1 L1 hq => ?_))
  obtain ⟨rfl, rfl, rfl⟩ := hq
  refine w_X9_near_4 (fun q => bad (fun c => if1.1 q c.1)) (fun q => w_X9_near_7 (uIn (d := d + 6)) (fun z I1 L1 hq => ?_))
  obtain ⟨rfl, rfl, rfl⟩ := hq
  refine w_X9_near_13 (fun q2 => ?_) (fun q2 => bad (fun c => if1.1 q2 (by rw [show (0 : Int32).toInt = 0 from rfl, show (1 : Int32).toInt = 1 from rfl]; exact c.2)))
  have c2 := if1.2 q2
  rw [show (0 : Int32).toInt = 0 from rfl, show (1 : Int32).toInt = 1 from rfl] at c2
  have c0 : okX x ∧ 0 ≤ w.toInt ∧ w.toInt ≤ 1 := ⟨if1.2 q, c2⟩
  have bx : bnd x := ⟨c0.1.1, by have := c0.1.2; omega⟩
  have go := uNearL (d := d) (l := l) (G := G) (L := L1) (w := w) hR hs hA bx A.1.length 0 0 (-2, 20) I1 (by omega) rfl (Or.inl ⟨rfl, rfl⟩) (rW_rf I1) (Q := wkPI R (fun z I' L' => L' = L1 ∧ z = qNear A f x w ∧ rS v A f n h sl I' ∧ rMf I1 I')) (fun J' j => ⟨rfl, rfl, _, rfl, rfl, by unfold qNear; rw [if_neg (fun z => z c0)], rS_g hs (rFg_w j), rMf_g (rFg_w j)⟩)
  exact w_X9_near_18 go
theorem uCrowdT (hR : wkR R) (hs : rS v A f n h sl I) (h4 : rEq I 324 f) (hA : aOk A) (hf : fOk A f) {Q : qQ} {x s : Int32} {a : Nat} (hx : 0 ≤ x.toInt) (ha : s.toInt = a) (hA1 : a < A.2.1.length) : ∀ (m e : Nat) (y acc : Int32) (J : qMI), e + m = A.1.length → y.toInt = e → rW I J → (∀ (y' : Int32) (J' : qMI), rW I J' → wkB l G (d + 7 + 1) n_X9_crowd Q 83 [.ref 292, .int x, .int (qB (fun e => decide (pSp A (f 96) (pHt A (f 96)) (f a) (tX A e) (tT A e) = x)) m e y acc), .int s, .int y'] [] J' L R) → wkB l G (d + 7 + 1) n_X9_crowd Q 33 [.ref 292, .int x, .int acc, .int s, .int y] [] J L R := by
  have n6 := hA.1
  have hv := hs.1.1.1
  intro m
  induction m with
  | zero =>
    intro e y acc J hn hy hJ q0
    have hLJ := rHas_q hJ hs.1
    have h18' := hLJ.1.2
    have cl : (J 292 18).toNatClampNeg = v := by rw [tcn]; omega
    have hn2 := (rHas_n hLJ).1.1
    exact w_X9_crowd_33 hR (vin (by omega) (by omega)) (fun _ => q0 y J hJ) (fun q => absurd (i_le.mpr (by rw [cl]; omega)) q)
  | succ m ih =>
    intro e y acc J hn hy hJ q0
    have hLJ := rHas_q hJ hs.1
    have h18' := hLJ.1.2
    have cl : (J 292 18).toNatClampNeg = v := by rw [tcn]; omega
    have hn2 := (rHas_n hLJ).1.1
    have y1 : (y + 1).toInt = ((e + 1 : Nat) : Int) := by rw [i_s (by omega)]; omega
    have cs : s.toNatClampNeg = a := by rw [tcn]; omega
    have e2 := rEq_w hJ h4
    refine w_X9_crowd_33 hR (vin (by omega) (by omega)) (fun q => absurd (i_le.mp q) (by rw [cl]; omega)) (fun _ => w_X9_crowd_47 hR (vin (by omega) (by omega)) (vin (by decide) (by decide)) (P := fun z I' L' => L' = L ∧ rW J I' ∧ z = pSight A (f 96) (f a) e) (by rw [cs, show (96 : Int32).toNatClampNeg = 96 from rfl, e2 96 (by omega), e2 a (by omega)]; exact uSightOf (d := d) hR hLJ (hf.1 a (by omega)) hy (by omega) (hA.2.1 e (by omega))) (fun z I3 L3 hq => ?_))
    obtain ⟨rfl, f1, rfl⟩ := hq
    have j1 := rW_tr hJ f1
    have key : pSight A (f 96) (f a) e = x ↔ pSp A (f 96) (pHt A (f 96)) (f a) (tX A e) (tT A e) = x := by
      unfold pSight
      split
      · rename_i c
        rw [c]
        exact ⟨fun z => by rw [← z] at hx; exact absurd hx (by decide), fun z => by rw [← z] at hx; exact absurd hx (by decide)⟩
      · exact Iff.rfl
    refine w_X9_crowd_66 (fun q => w_X9_crowd_77 (ih (e + 1) _ _ _ (by omega) y1 j1 (fun y' J' j => ?_))) (fun q => w_X9_crowd_70 (w_X9_crowd_77 (ih (e + 1) _ _ _ (by omega) y1 j1 (fun y' J' j => ?_))))
    · have := q0 y' J' j
      rw [qB_f (by exact decide_eq_false (fun z => q (key.mpr z)))] at this
      exact this
    · have := q0 y' J' j
      rw [qB_t (by exact decide_eq_true (key.mp q))] at this
      exact this
theorem uCrowdL (hR : wkR R) (hs : rS v A f n h sl I) (h4 : rEq I 324 f) (hA : aOk A) (hf : fOk A f) {Q : qQ} {x : Int32} (hx : 0 ≤ x.toInt) : ∀ (m a : Nat) (s acc : Int32) (J : qMI), a + m = A.2.1.length → s.toInt = a → rW I J → (∀ J' : qMI, rW I J' → Q (some (.int (qCr A f (f 96) (pHt A (f 96)) x m a acc))) 336 J' L R) → wkB l G (d + 7 + 1) n_X9_crowd Q 17 [.ref 292, .int x, .int acc, .int s, wkU] [] J L R := by
  have n6 := hA.1
  have hv := hs.1.1.1
  intro m
  induction m with
  | zero =>
    intro a s acc J hn hy hJ q0
    have hLJ := rHas_q hJ hs.1
    have h18' := hLJ.1.2
    have cl : (J 292 18).toNatClampNeg = v := by rw [tcn]; omega
    have hn2 := (rHas_n hLJ).2.1
    exact w_X9_crowd_17 hR (vin (by omega) (by omega)) (fun _ => w_X9_crowd_89 (q0 J hJ)) (fun q => absurd (i_le.mpr (by rw [cl]; omega)) q)
  | succ m ih =>
    intro a s acc J hn hy hJ q0
    have hLJ := rHas_q hJ hs.1
    have h18' := hLJ.1.2
    have cl : (J 292 18).toNatClampNeg = v := by rw [tcn]; omega
    have hn2 := (rHas_n hLJ).2.1
    have s1 : (s + 1).toInt = ((a + 1 : Nat) : Int) := by rw [i_s (by omega)]; omega
    refine w_X9_crowd_17 hR (vin (by omega) (by omega)) (fun q => absurd (i_le.mp q) (by rw [cl]; omega)) (fun _ => w_X9_crowd_30 (uCrowdT (d := d) hR hs h4 hA hf hx hy (by omega) A.1.length 0 0 acc J (by omega) rfl hJ (fun y' J' j => ?_)))
    exact w_X9_crowd_83 (ih (a + 1) _ _ J' (by omega) s1 j (fun J2 j2 => q0 J2 j2))
theorem uCrowd (hR : wkR R) (hs : rS v A f n h sl I) (hA : aOk A) (hf : fOk A f) {x : Int32} : wkI l G (d + 8) n_X9_crowd [.ref 292, .int x] I L R (fun z I' L' => L' = L ∧ z = qCrowd A f x ∧ rS v A f n h sl I' ∧ rMf I I') := by
  obtain ⟨hL, s1, s2, s3⟩ := id hs
  refine wkC_of 3 (by decide) (Nat.le_of_ble_eq_true rfl) (w_X9_crowd_0 (uIsX (d := d + 5)) (fun z I1 L1 hq => ?_))
  obtain ⟨rfl, rfl, rfl⟩ := hq
  refine w_X9_crowd_4 (fun q => ?_) (fun q => w_X9_crowd_7 ⟨rfl, rfl, _, rfl, rfl, by unfold qCrowd; rw [if_pos (if1.1 q)], hs, rMf_rf _⟩)
  have c0 := if1.2 q
  refine w_X9_crowd_9 (uCopies (d := d + 6) hR hL s1) (fun I2 L2 hq => ?_)
  obtain ⟨rfl, f2, g2, -, e2⟩ := hq
  have hs2 := rS_cp hs f2 g2
  refine w_X9_crowd_13 (uCrowdL (d := d) hR hs2 e2 hA hf c0.1 A.2.1.length 0 0 0 I2 (by omega) rfl (rW_rf I2) (fun J' j => ⟨rfl, rfl, _, rfl, rfl, ?_, rS_g hs2 (rFg_w j), rMf_tr (rMf_cp g2) (rMf_g (rFg_w j))⟩))
  unfold qCrowd
  rw [if_neg (fun z => z c0)]
end
