/-! ===== stands, sure, look: the reference's, that they return and leave the rest alone ===== -/
def rTl (I J : qMI) : Prop := (∀ k, k ≠ 321 → k ≠ 322 → k ≠ 333 → k ≠ 292 → J k = I k) ∧ ∀ j, j ≠ 47 → J 292 j = I 292 j
theorem rTl_rf (I : qMI) : rTl I I := ⟨fun _ _ _ _ _ => rfl, fun _ _ => rfl⟩
theorem rTl_tr {I J K : qMI} (h : rTl I J) (g : rTl J K) : rTl I K := ⟨fun k a b c e => (g.1 k a b c e).trans (h.1 k a b c e), fun j a => (g.2 j a).trans (h.2 j a)⟩
theorem rTl_w {I J : qMI} (h : rW I J) : rTl I J := ⟨fun k a b _ c => h.1 k a b c, fun j a => h.2 j a⟩
theorem rTl_33 {I : qMI} {i : Nat} {x : Int32} : rTl I (qUp I 333 i x) := ⟨fun k _ _ c _ => qUp_ro c, fun j _ => by rw [qUp_ro (by decide)]⟩
theorem vI2 (i : Int32) (a : 0 ≤ i.toInt) (b : i.toInt < 9) : vp_in i 9 := vin a (by omega)
section
variable {l : Launch} {G : qG} {d : Nat} {I : qMI} {L : qML} {R : qMR} {v n : Nat} {A : aD} {f : Nat → Int32} {h sl : Nat → Nat → Int32}
theorem rHas_tl {J : qMI} (e : rTl I J) (g : rHas v I A) : rHas v J A := rHas_fr (fun x a b => e.1 x (by omega) (by omega) (by omega) (by omega)) (e.2 18 (by decide)) g
theorem rS_tl {J : qMI} (s : rS v A f n h sl I) (g : rTl I J) : rS v A f n h sl J := rS_of s (fun k a => g.1 k (by omega) (by omega) (by omega) (by omega)) (g.2 18 (by decide)) (g.2 51 (by decide))
theorem rMf_tl {J : qMI} (g : rTl I J) : rMf I J := fun j a _ _ _ => g.2 j a
theorem uOffS {x y : Int32} : wkI l G (d + 1) n_X9_off [.int x, .int y] I L R (fun _ I' L' => L' = L ∧ I' = I) :=
  wkC_of 0 (by decide) (Nat.le_of_ble_eq_true rfl) (w_X9_off_0 (fun _ => w_X9_off_11 (w_X9_off_14 ⟨rfl, rfl, _, rfl, rfl, rfl⟩)) (fun _ => w_X9_off_5 (w_X9_off_14 ⟨rfl, rfl, _, rfl, rfl, rfl⟩)))
theorem uLooksAtS (hR : wkR R) (hL : rHas v I A) {fr x tl h : Int32} : wkV l G (d + 4) n_X9_looksAt [.ref 292, .int fr, .int x, .int tl, .int h] I L R (fun I' L' => L' = L ∧ rW I I') := by
  refine wkC_of 1 (by decide) (Nat.le_of_ble_eq_true rfl) (w_X9_looksAt_0 (uHeat (d := d) hR hL) (fun y I1 L1 hq => ?_))
  obtain ⟨rfl, q1, rfl⟩ := hq
  refine w_X9_looksAt_6 (uLooks (d := d + 2) hR) (fun I2 L2 hq => ?_)
  obtain ⟨rfl, f2, v2⟩ := hq
  refine w_X9_looksAt_14 hR (vI2 _ (by decide) (by decide)) (uOffS (d := d + 2)) (fun y I3 L3 hq => ?_)
  obtain ⟨rfl, rfl⟩ := hq
  have fin : ∀ (J : qMI), (∀ k, k ≠ 321 → J k = I2 k) → rW I J := fun J hJ => rW_tr q1 (rW_tr (rW_v f2) (rW_v hJ))
  exact w_X9_looksAt_32 hR (vI2 _ (by decide) (by decide)) (vI2 _ (by decide) (by decide)) (vI2 _ (by decide) (by decide)) (fun q => w_X9_looksAt_62 (w_X9_looksAt_63 hR (vI2 _ (by decide) (by decide)) (vI2 _ (by decide) (by decide)) ⟨rfl, rfl, rfl, rfl, fin _ (fun k hk => by simp only [qUp_ro hk])⟩)) (fun q => w_X9_looksAt_58 (w_X9_looksAt_63 hR (vI2 _ (by decide) (by decide)) (vI2 _ (by decide) (by decide)) ⟨rfl, rfl, rfl, rfl, fin _ (fun k hk => by simp only [qUp_ro hk])⟩))
theorem uSeenS (hR : wkR R) (hL : rHas v I A) {fr x tl h : Int32} : wkI l G (d + 5) n_X9_isSeen [.ref 292, .int fr, .int x, .int tl, .int h] I L R (fun _ I' L' => L' = L ∧ rW I I') := by
  refine wkC_of 0 (by decide) (Nat.le_of_ble_eq_true rfl) (w_X9_isSeen_0 (uLooksAtS (d := d) hR hL) (fun I1 L1 hq => ?_))
  obtain ⟨rfl, q1⟩ := hq
  refine w_X9_isSeen_9 hR (vin (by decide) (by decide)) (vin (by decide) (by decide)) (uReck (d := d + 2) (e := I1 321) hR (rHas_q q1 hL) (fun _ _ => rfl) (n := 1) rfl (by decide) (fun _ => rfl)) (fun y I2 L2 hq => ?_)
  obtain ⟨rfl, f2, -⟩ := hq
  exact w_X9_isSeen_27 (fun q => w_X9_isSeen_34 (w_X9_isSeen_35 ⟨rfl, rfl, _, rfl, rfl, rW_tr q1 (rW_y f2)⟩ (Or.inl rfl))) (fun q => w_X9_isSeen_30 (w_X9_isSeen_35 ⟨rfl, rfl, _, rfl, rfl, rW_tr q1 (rW_y f2)⟩ (Or.inr rfl)))
theorem uMovedByS (hR : wkR R) (hL : rHas v I A) {fr x tl hr : Int32} : wkI l G (d + 5) n_X9_movedBy [.ref 292, .int fr, .int x, .int tl, .int hr] I L R (fun _ I' L' => L' = L ∧ rW I I') := by
  refine wkC_of 0 (by decide) (Nat.le_of_ble_eq_true rfl) (w_X9_movedBy_0 (uLooksAtS (d := d) hR hL) (fun I1 L1 hq => ?_))
  obtain ⟨rfl, q1⟩ := hq
  refine w_X9_movedBy_9 (uReck (d := d + 2) (e := I1 321) hR (rHas_q q1 hL) (fun _ _ => rfl) (n := 2) rfl (by decide) (fun _ => rfl)) (fun y I2 L2 hq => ?_)
  obtain ⟨rfl, f2, -⟩ := hq
  refine w_X9_movedBy_15 (uHeld (d := d + 3) (by decide)) (fun y I3 L3 hq => ?_)
  obtain ⟨rfl, rfl, -⟩ := hq
  exact w_X9_movedBy_22 ⟨rfl, rfl, _, rfl, rfl, rW_tr q1 (rW_y f2)⟩
theorem uSeenAtS (hR : wkR R) (hL : rHas v I A) {fr x tl hr : Int32} : wkI l G (d + 6) n_X9_seenAt [.ref 292, .int fr, .int x, .int tl, .int hr] I L R (fun y I' L' => L' = L ∧ rW I I' ∧ (y = -2 ∨ (0 ≤ y.toInt ∧ y.toInt ≤ 19))) := by
  refine wkC_of 1 (by decide) (Nat.le_of_ble_eq_true rfl) (w_X9_seenAt_0 (uSeenS (d := d) hR hL) (fun z I1 L1 hq => ?_))
  obtain ⟨rfl, q1⟩ := hq
  refine w_X9_seenAt_9 (fun q => ?_) (fun q => w_X9_seenAt_12 ⟨rfl, rfl, _, rfl, rfl, q1, Or.inl rfl⟩)
  refine w_X9_seenAt_15 (uMovedByS (d := d) hR (rHas_q q1 hL)) (fun z I2 L2 hq => ?_)
  obtain ⟨rfl, q2⟩ := hq
  have fin : ∀ s : Int32, wkB l G (d + 5 + 1) n_X9_seenAt (wkPI R (fun y I' L' => L' = L2 ∧ rW I I' ∧ (y = -2 ∨ (0 ≤ y.toInt ∧ y.toInt ≤ 19)))) 42 [.ref 292, .int fr, .int x, .int tl, .int hr, .int z] [.int s] I2 L2 R := fun s => by
    refine w_X9_seenAt_42 (uHeld (d := d + 4) (by decide)) (fun y I3 L3 hq => ?_)
    obtain ⟨rfl, rfl, rfl⟩ := hq
    exact w_X9_seenAt_48 ⟨rfl, rfl, _, rfl, rfl, rW_tr q1 q2, Or.inr (wIn_b (a := 0) (b := 19) (by decide))⟩
  exact w_X9_seenAt_24 (fun q => w_X9_seenAt_38 (fin _)) (fun q => w_X9_seenAt_31 (fin _))
theorem uSoL (hR : wkR R) (hL : rHas v I A) {Q : qQ} {s k : Int32} (hk : k.toInt ≤ 20) (q0 : ∀ z J, rW I J → Q (some (.int z)) 336 J L R) : ∀ (m e : Nat) (x : Int32) (J : qMI), e + m = 20 → x.toInt = e → rW I J → wkB l G (d + 6 + 1) n_X9_isSo Q 2 [.ref 292, .int s, .int k, .int x] [] J L R := by
  intro m
  induction m with
  | zero =>
    intro e x J hn hx hJ
    exact w_X9_isSo_2 (fun _ => w_X9_isSo_58 (q0 _ J hJ)) (fun q => absurd (i_le.mpr (by omega)) q)
  | succ m ih =>
    intro e x J hn hx hJ
    have x1 : (x + 1).toInt = ((e + 1 : Nat) : Int) := by rw [i_s (by omega)]; omega
    have vx : vp_in x 20 := vin (by omega) (by omega)
    refine w_X9_isSo_2 (fun _ => w_X9_isSo_58 (q0 _ J hJ)) (fun q => w_X9_isSo_7 hR vx (vin (by decide) (by decide)) vx (uSeenAtS (d := d) hR (rHas_q hJ hL)) (fun z I3 L3 hq => ?_))
    obtain ⟨rfl, f3, -⟩ := hq
    exact w_X9_isSo_41 hR vx (fun _ => w_X9_isSo_52 (ih (e + 1) _ _ (by omega) x1 (rW_tr hJ f3))) (fun _ => w_X9_isSo_50 (q0 _ _ (rW_tr hJ f3)))
theorem uIsSoS (hR : wkR R) (hL : rHas v I A) {s k : Int32} (hk : k.toInt ≤ 20) : wkI l G (d + 7) n_X9_isSo [.ref 292, .int s, .int k] I L R (fun _ I' L' => L' = L ∧ rW I I') :=
  wkC_of 1 (by decide) (Nat.le_of_ble_eq_true rfl) (w_X9_isSo_0 (uSoL (d := d) hR hL hk (fun z J j => ⟨rfl, rfl, _, rfl, rfl, j⟩) 20 0 0 I (by omega) rfl (rW_rf I)))
theorem uStL (hR : wkR R) (hL : rHas v I A) {Q : qQ} {k : Int32} (hk : k.toInt ≤ 20) (q0 : ∀ z J, rW I J → Q (some (.int z)) 336 J L R) : ∀ (m e : Nat) (x c : Int32) (J : qMI), e + m = 180 → x.toInt = e → rW I J → wkB l G (d + 7 + 1) n_X9_stands Q 18 [.ref 292, .int k, .int c, .int x] [] J L R := by
  have z18 : (180 : Int32).toInt = 180 := rfl
  intro m
  induction m with
  | zero =>
    intro e x c J hn hx hJ
    exact w_X9_stands_18 (fun _ => w_X9_stands_43 (q0 _ J hJ)) (fun q => absurd (i_le.mpr (by omega)) q)
  | succ m ih =>
    intro e x c J hn hx hJ
    have x1 : (x + 1).toInt = ((e + 1 : Nat) : Int) := by rw [i_s (by omega)]; omega
    refine w_X9_stands_18 (fun q => absurd (i_le.mp q) (by omega)) (fun _ => w_X9_stands_25 (uIsSoS (d := d) hR (rHas_q hJ hL) hk) (fun z I3 L3 hq => ?_))
    obtain ⟨rfl, f3⟩ := hq
    have j := rW_tr hJ f3
    exact w_X9_stands_31 (fun _ => w_X9_stands_37 (ih (e + 1) _ _ _ (by omega) x1 j)) (fun _ => w_X9_stands_34 (w_X9_stands_37 (ih (e + 1) _ _ _ (by omega) x1 j)))
theorem uStands (hR : wkR R) (hs : rS v A f n h sl I) (h58 : (I 292 58).toInt ≤ 20) {k : Int32} : wkI l G (d + 8) n_X9_stands [.ref 292, .int k] I L R (fun _ I' L' => L' = L ∧ rS v A f n h sl I' ∧ rMf I I') := by
  refine wkC_of 2 (by decide) (Nat.le_of_ble_eq_true rfl) (w_X9_stands_0 (uIn (d := d + 6)) (fun z I1 L1 hq => ?_))
  obtain ⟨rfl, rfl, rfl⟩ := hq
  refine w_X9_stands_9 (fun q => w_X9_stands_14 ?_) (fun q => w_X9_stands_12 ⟨rfl, rfl, _, rfl, rfl, hs, rMf_rf _⟩)
  have q := if1.2 q
  exact uStL (d := d) hR hs.1 (by omega) (fun z J j => ⟨rfl, rfl, _, rfl, rfl, rS_g hs (rFg_w j), rMf_g (rFg_w j)⟩) 180 0 0 0 I1 (by omega) rfl (rW_rf I1)
theorem uSuL (hR : wkR R) (hL : rHas v I A) {Q : qQ} {k w : Int32} (hk : k.toInt ≤ 20) (q0 : ∀ z J, rW I J → Q (some (.int z)) 336 J L R) : ∀ (m e : Nat) (x c : Int32) (J : qMI), e + m = 180 → x.toInt = e → rW I J → wkB l G (d + 7 + 1) n_X9_sure Q 29 [.ref 292, .int k, .int w, .int c, .int x, wkU] [] J L R := by
  have z18 : (180 : Int32).toInt = 180 := rfl
  intro m
  induction m with
  | zero =>
    intro e x c J hn hx hJ
    exact w_X9_sure_29 (fun _ => w_X9_sure_93 (q0 _ J hJ)) (fun q => absurd (i_le.mpr (by omega)) q)
  | succ m ih =>
    intro e x c J hn hx hJ
    have x1 : (x + 1).toInt = ((e + 1 : Nat) : Int) := by rw [i_s (by omega)]; omega
    have nx : ∀ (u : Int32) (K : qMI), rW I K → wkB l G (d + 7 + 1) n_X9_sure Q 87 [.ref 292, .int k, .int w, .int u, .int x, wkU] [] K L R := fun u K hK => w_X9_sure_87 (ih (e + 1) _ _ K (by omega) x1 hK)
    have at69 : ∀ (u z : Int32) (K : qMI), rW I K → wkB l G (d + 7 + 1) n_X9_sure Q 69 [.ref 292, .int k, .int w, .int u, .int x, wkU] [.int z] K L R := fun u z K hK => w_X9_sure_69 (fun _ => w_X9_sure_84 (nx _ _ hK)) (fun _ => w_X9_sure_75 (fun _ => w_X9_sure_84 (nx _ _ hK)) (fun _ => w_X9_sure_81 (q0 _ _ hK)))
    refine w_X9_sure_29 (fun q => absurd (i_le.mp q) (by omega)) (fun _ => w_X9_sure_37 (uIsSoS (d := d) hR (rHas_q hJ hL) hk) (fun z I3 L3 hq => ?_))
    obtain ⟨rfl, f3⟩ := hq
    have j := rW_tr hJ f3
    exact w_X9_sure_44 (fun _ => w_X9_sure_50 (fun _ => w_X9_sure_62 (at69 _ _ _ j)) (fun _ => w_X9_sure_54 (at69 _ _ _ j))) (fun _ => w_X9_sure_47 (nx _ _ j))
theorem uSure (hR : wkR R) (hs : rS v A f n h sl I) (h58 : (I 292 58).toInt ≤ 20) {k w : Int32} : wkI l G (d + 8) n_X9_sure [.ref 292, .int k, .int w] I L R (fun _ I' L' => L' = L ∧ rS v A f n h sl I' ∧ rMf I I') := by
  refine wkC_of 3 (by decide) (Nat.le_of_ble_eq_true rfl) (w_X9_sure_0 (uIn (d := d + 6)) (fun z I1 L1 hq => ?_))
  obtain ⟨rfl, rfl, rfl⟩ := hq
  refine w_X9_sure_9 (fun q => w_X9_sure_21 ⟨rfl, rfl, _, rfl, rfl, hs, rMf_rf _⟩) (fun q => w_X9_sure_12 (uIn (d := d + 6)) (fun z I1 L1 hq => ?_))
  obtain ⟨rfl, rfl, -⟩ := hq
  have q := if1.2 q
  exact w_X9_sure_18 (fun _ => w_X9_sure_23 (uSuL (d := d) hR hs.1 (by omega) (fun z J j => ⟨rfl, rfl, _, rfl, rfl, rS_g hs (rFg_w j), rMf_g (rFg_w j)⟩) 180 0 0 (-2) I1 (by omega) rfl (rW_rf I1))) (fun _ => w_X9_sure_21 ⟨rfl, rfl, _, rfl, rfl, hs, rMf_rf _⟩)
/-! look -/
theorem uLk0 (hR : wkR R) {Q : qQ} {k w : Int32} : ∀ (m e : Nat) (x : Int32) (J : qMI), e + m = 420 → x.toInt = e → rTl I J → (∀ (x' : Int32) (J' : qMI), rTl I J' → wkB l G (d + 7 + 1) n_X9_look Q 46 [.ref 292, .int k, .int w, .int x', wkU, wkU, wkU, wkU, wkU] [] J' L R) → wkB l G (d + 7 + 1) n_X9_look Q 26 [.ref 292, .int k, .int w, .int x, wkU, wkU, wkU, wkU, wkU] [] J L R := by
  have z42 : (420 : Int32).toInt = 420 := rfl
  intro m
  induction m with
  | zero =>
    intro e x J hn hx hJ q0
    exact w_X9_look_26 (fun _ => q0 x J hJ) (fun q => absurd (i_le.mpr (by omega)) q)
  | succ m ih =>
    intro e x J hn hx hJ q0
    have x1 : (x + 1).toInt = ((e + 1 : Nat) : Int) := by rw [i_s (by omega)]; omega
    exact w_X9_look_26 (fun q => absurd (i_le.mp q) (by omega)) (fun _ => w_X9_look_33 hR (vin (by omega) (by omega)) (ih (e + 1) _ _ (by omega) x1 (rTl_tr hJ rTl_33) q0))
theorem at42 {a z : Int32} {i : Nat} (ha : a.toInt = i) (hi : i < 20) (hz : 0 ≤ z.toInt ∧ z.toInt ≤ 20) : vp_in (21 * a + z) 420 := by
  have m2 : ((21 : Int32) * a).toInt = 21 * (i : Int) := by
    rw [i_mul (by rw [show (21 : Int32).toInt = 21 from rfl]; omega) (by rw [show (21 : Int32).toInt = 21 from rfl]; omega), ha]
    rfl
  have e : (21 * a + z).toInt = 21 * (i : Int) + z.toInt := by rw [i_add (by omega) (by omega), m2]
  exact vin (by omega) (by omega)
theorem uLk1 (hR : wkR R) (hL : rHas v I A) {Q : qQ} {k w c s : Int32} : ∀ (m e : Nat) (x : Int32) (J : qMI), e + m = 20 → x.toInt = e → rTl I J → (∀ (J' : qMI), rTl I J' → wkB l G (d + 7 + 1) n_X9_look Q 147 [.ref 292, .int k, .int w, .int c, .int s, wkU, wkU, wkU, wkU] [] J' L R) → wkB l G (d + 7 + 1) n_X9_look Q 78 [.ref 292, .int k, .int w, .int c, .int s, .int x, wkU, wkU, wkU] [] J L R := by
  have z19 : (19 : Int32).toInt = 19 := rfl
  have z0 : (0 : Int32).toInt = 0 := rfl
  have z20 : (20 : Int32).toInt = 20 := rfl
  intro m
  induction m with
  | zero =>
    intro e x J hn hx hJ q0
    exact w_X9_look_78 (fun _ => q0 J hJ) (fun q => absurd (i_lt.mpr (by omega)) q)
  | succ m ih =>
    intro e x J hn hx hJ q0
    have x1 : (x + 1).toInt = ((e + 1 : Nat) : Int) := by rw [i_s (by omega)]; omega
    refine w_X9_look_78 (fun q => absurd (i_lt.mp q) (by omega)) (fun _ => w_X9_look_85 hR (vin (by decide) (by decide)) (uSeenAtS (d := d + 1) hR (rHas_tl hJ hL)) (fun z I3 L3 hq => ?_))
    obtain ⟨rfl, f3, bz⟩ := hq
    have j := rTl_tr hJ (rTl_w f3)
    refine w_X9_look_112 hR (fun q => w_X9_look_133 ?_) (fun q => w_X9_look_128 ?_)
    · have vz : vp_in (21 * x + z) 420 := at42 hx (by omega) (by
        rcases bz with rfl | bz
        · exact absurd q (by decide)
        · omega)
      exact w_X9_look_135 vz vz (ih (e + 1) _ _ (by omega) x1 (rTl_tr j rTl_33) q0)
    · have vz : vp_in (21 * x + 20) 420 := at42 hx (by omega) (by omega)
      exact w_X9_look_135 vz vz (ih (e + 1) _ _ (by omega) x1 (rTl_tr j rTl_33) q0)
theorem uLk2 (hR : wkR R) (hL : rHas v I A) {Q : qQ} {k w : Int32} (hk : k.toInt ≤ 20) : ∀ (m e : Nat) (x c : Int32) (J : qMI), e + m = 180 → x.toInt = e → rTl I J → (∀ (c' x' : Int32) (J' : qMI), rTl I J' → wkB l G (d + 7 + 1) n_X9_look Q 153 [.ref 292, .int k, .int w, .int c', .int x', wkU, wkU, wkU, wkU] [] J' L R) → wkB l G (d + 7 + 1) n_X9_look Q 51 [.ref 292, .int k, .int w, .int c, .int x, wkU, wkU, wkU, wkU] [] J L R := by
  have z18 : (180 : Int32).toInt = 180 := rfl
  intro m
  induction m with
  | zero =>
    intro e x c J hn hx hJ q0
    exact w_X9_look_51 (fun _ => q0 c x J hJ) (fun q => absurd (i_le.mpr (by omega)) q)
  | succ m ih =>
    intro e x c J hn hx hJ q0
    have x1 : (x + 1).toInt = ((e + 1 : Nat) : Int) := by rw [i_s (by omega)]; omega
    refine w_X9_look_51 (fun q => absurd (i_le.mp q) (by omega)) (fun _ => w_X9_look_59 (uIsSoS (d := d) hR (rHas_tl hJ hL) hk) (fun z I3 L3 hq => ?_))
    obtain ⟨rfl, f3⟩ := hq
    have j := rTl_tr hJ (rTl_w f3)
    exact w_X9_look_66 (fun _ => w_X9_look_72 (uLk1 (d := d) hR hL 20 0 0 I3 (by omega) rfl j (fun J' j' => w_X9_look_147 (ih (e + 1) _ _ J' (by omega) x1 j' q0)))) (fun _ => w_X9_look_69 (w_X9_look_147 (ih (e + 1) _ _ _ (by omega) x1 j q0)))
theorem uLk3 (hR : wkR R) {Q : qQ} {k w c b y u : Int32} {a : Nat} (hy : y.toInt = a) (ha : a < 20) : ∀ (m e : Nat) (x t : Int32), e + m = 21 → x.toInt = e → (∀ (t' x' : Int32), wkB l G (d + 7 + 1) n_X9_look Q 229 [.ref 292, .int k, .int w, .int c, .int b, .int u, .int y, .int t', .int x'] [] I L R) → wkB l G (d + 7 + 1) n_X9_look Q 183 [.ref 292, .int k, .int w, .int c, .int b, .int u, .int y, .int t, .int x] [] I L R := by
  have z20 : (20 : Int32).toInt = 20 := rfl
  intro m
  induction m with
  | zero =>
    intro e x t hn hx q0
    exact w_X9_look_183 (fun _ => q0 t x) (fun q => absurd (i_lt.mpr (by omega)) q)
  | succ m ih =>
    intro e x t hn hx q0
    have x1 : (x + 1).toInt = ((e + 1 : Nat) : Int) := by rw [i_s (by omega)]; omega
    have vz : vp_in (21 * y + x) 420 := at42 hy ha (by omega)
    exact w_X9_look_183 (fun q => absurd (i_lt.mp q) (by omega)) (fun _ => w_X9_look_190 hR vz (fun _ => w_X9_look_223 (ih (e + 1) _ _ (by omega) x1 q0)) (fun _ => w_X9_look_208 hR vz (w_X9_look_223 (ih (e + 1) _ _ (by omega) x1 q0))))
theorem uLk4 (hR : wkR R) {Q : qQ} {k w c : Int32} (q0 : ∀ z, Q (some (.int z)) 336 I L R) : ∀ (m e : Nat) (x b u : Int32), e + m = 20 → x.toInt = e → wkB l G (d + 7 + 1) n_X9_look Q 170 [.ref 292, .int k, .int w, .int c, .int b, .int u, .int x, wkU, wkU] [] I L R := by
  have z19 : (19 : Int32).toInt = 19 := rfl
  intro m
  induction m with
  | zero =>
    intro e x b u hn hx
    exact w_X9_look_170 (fun _ => w_X9_look_258 (q0 _)) (fun q => absurd (i_lt.mpr (by omega)) q)
  | succ m ih =>
    intro e x b u hn hx
    have x1 : (x + 1).toInt = ((e + 1 : Nat) : Int) := by rw [i_s (by omega)]; omega
    have nx : ∀ b u t x', wkB l G (d + 7 + 1) n_X9_look Q 252 [.ref 292, .int k, .int w, .int c, .int b, .int u, .int x, .int t, .int x'] [] I L R := fun b u t x' => w_X9_look_252 (ih (e + 1) _ _ _ (by omega) x1)
    exact w_X9_look_170 (fun q => absurd (i_lt.mp q) (by omega)) (fun _ => w_X9_look_177 (uLk3 (d := d) hR hx (by omega) 21 0 0 0 (by omega) rfl (fun t' x' => w_X9_look_229 (fun _ => w_X9_look_244 (nx _ _ _ _)) (fun _ => w_X9_look_234 (fun _ => w_X9_look_244 (nx _ _ _ _)) (fun _ => w_X9_look_241 (nx _ _ _ _))))))
theorem uLook (hR : wkR R) (hs : rS v A f n h sl I) (h58 : (I 292 58).toInt ≤ 20) {k w : Int32} : wkI l G (d + 8) n_X9_look [.ref 292, .int k, .int w] I L R (fun _ I' L' => L' = L ∧ rS v A f n h sl I' ∧ rMf I I') := by
  refine wkC_of 6 (by decide) (Nat.le_of_ble_eq_true rfl) (w_X9_look_0 (uIn (d := d + 6)) (fun z I1 L1 hq => ?_))
  obtain ⟨rfl, rfl, rfl⟩ := hq
  refine w_X9_look_9 (fun q => w_X9_look_22 ⟨rfl, rfl, _, rfl, rfl, hs, rMf_rf _⟩) (fun q => w_X9_look_12 (uIn (d := d + 6)) (fun z I1 L1 hq => ?_))
  obtain ⟨rfl, rfl, -⟩ := hq
  have q := if1.2 q
  refine w_X9_look_19 (fun _ => w_X9_look_24 (uLk0 (d := d) (I := I1) hR 420 0 0 I1 (by omega) rfl (rTl_rf I1) (fun x' J' j => w_X9_look_46 (uLk2 (d := d) hR hs.1 (by omega) 180 0 0 0 J' (by omega) rfl j (fun c' x2 J2 j2 => ?_))))) (fun _ => w_X9_look_22 ⟨rfl, rfl, _, rfl, rfl, hs, rMf_rf _⟩)
  exact w_X9_look_153 (fun _ => w_X9_look_160 (uLk4 (d := d) hR (fun z => ⟨rfl, rfl, _, rfl, rfl, rS_tl hs j2, rMf_tl j2⟩) 20 0 0 _ _ (by omega) rfl)) (fun _ => w_X9_look_157 ⟨rfl, rfl, _, rfl, rfl, rS_tl hs j2, rMf_tl j2⟩)
end
