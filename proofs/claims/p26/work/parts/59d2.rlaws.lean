/-! ===== the reference: what its laws tell, exactly ===== -/
def rW (I J : qMI) : Prop := (∀ k, k ≠ 321 → k ≠ 322 → k ≠ 292 → J k = I k) ∧ ∀ j, j ≠ 47 → J 292 j = I 292 j
theorem rW_rf (I : qMI) : rW I I := ⟨fun _ _ _ _ => rfl, fun _ _ => rfl⟩
theorem rW_tr {I J K : qMI} (h : rW I J) (g : rW J K) : rW I K := ⟨fun k a b c => (g.1 k a b c).trans (h.1 k a b c), fun j a => (g.2 j a).trans (h.2 j a)⟩
theorem rW_y {I J : qMI} (h : yFr I J) : rW I J := ⟨fun k _ b c => h.1 k b c, fun j a => h.2.1 j a⟩
theorem rW_v {I J : qMI} (h : ∀ k, k ≠ 321 → J k = I k) : rW I J := ⟨fun k a _ _ => h k a, fun j _ => by rw [h 292 (by decide)]⟩
def rVr (J : qMI) (e : Nat → Int32) : Prop := ∀ j, j < 9 → J 321 j = e j
/-- the side v holds the account A and is the live one -/
def rHas (v : Nat) (I : qMI) (A : aD) : Prop := ((v = 0 ∨ v = 1) ∧ (I 292 18).toInt = v) ∧ zside I v ∧ rDf v I A ∧ ∀ k, aWf (A.2.2.2 k)
theorem rHas_fr {v : Nat} {I J : qMI} {A : aD} (e : ∀ x, 301 ≤ x → x ≤ 319 → J x = I x) (e18 : J 292 18 = I 292 18) (g : rHas v I A) : rHas v J A := by
  obtain ⟨⟨g1, g2⟩, g3, g4, g5⟩ := g
  refine ⟨⟨g1, by rw [e18]; exact g2⟩, zside_congr (fun x hx => ?_) g3, rDf_of g4 e, g5⟩
  have all : ∀ x ∈ zUN, 301 ≤ x ∧ x ≤ 319 := by decide
  exact e x (all x hx).1 (all x hx).2
theorem rHas_q {v : Nat} {I J : qMI} {A : aD} (h : rW I J) (g : rHas v I A) : rHas v J A := rHas_fr (fun x a b => h.1 x (by omega) (by omega) (by omega)) (h.2 18 (by decide)) g
theorem rRow_x {s c a b : Nat} {I : qMI} {w : List (Int32 × Int32)} (h : rRow s c a b I w) {i : Nat} (hi : i < w.length) : I a (6 * s + i) = (w.getD i (0, 0)).1 ∧ I b (6 * s + i) = (w.getD i (0, 0)).2 := by
  have e : w[i]? = some (w.getD i (0, 0)) := by
    rw [List.getD_eq_getElem?_getD, List.getElem?_eq_getElem hi]
    rfl
  exact h.2 i _ e
theorem rHas_n {v : Nat} {I : qMI} {A : aD} (g : rHas v I A) : ((I 301 v).toInt = A.1.length ∧ A.1.length ≤ 6) ∧ (I 304 v).toInt = A.2.1.length ∧ A.2.1.length ≤ 6 := ⟨g.2.2.1.1.1, g.2.2.1.2.1.1⟩
theorem rHas_x {v : Nat} {I : qMI} {A : aD} (g : rHas v I A) {e : Nat} (he : e < A.1.length) : I 302 (6 * v + e) = tX A e ∧ I 303 (6 * v + e) = tT A e := rRow_x g.2.2.1.1 he
theorem rHas_s {v : Nat} {I : qMI} {A : aD} (g : rHas v I A) {j : Nat} (h1 : 8 ≤ j) (h2 : j ≤ 11) : I (299 + j) v = A.2.2.1 j := g.2.2.1.2.2.1 j h1 h2
/-- where a thing or a seat may be -/
abbrev bnd (x : Int32) : Prop := 0 ≤ x.toInt ∧ x.toInt ≤ 19
section
variable {l : Launch} {G : qG} {d : Nat} {I : qMI} {L : qML} {R : qMR} {v : Nat} {A : aD}
theorem uLooks (hR : wkR R) {h : Int32} : wkV l G (d + 1) n_X9_looks [.ref 292, .int h] I L R (fun I' L' => L' = L ∧ (∀ k, k ≠ 321 → I' k = I k) ∧ rVr I' (eTime h)) := by
  have t0 : (0 : Int32).toNatClampNeg = 0 := rfl
  have t1 : (1 : Int32).toNatClampNeg = 1 := rfl
  have loop : ∀ (m : Nat) (n : Int32) (J : qMI), (9 - n.toInt).toNat = m → 0 ≤ n.toInt → n.toInt ≤ 9 → (∀ k, k ≠ 321 → J k = I k) → (∀ j : Nat, (j : Int) < n.toInt → J 321 j = 0) → wkB l G (d + 1) n_X9_looks (wkPV R (fun I' L' => L' = L ∧ (∀ k, k ≠ 321 → I' k = I k) ∧ rVr I' (eTime h))) 2 [.ref 292, .int h, .int n] [] J L R := by
    intro m
    induction m with
    | zero =>
      intro n J hm n0 n9 hJ hz
      refine w_X9_looks_2 (fun _ => w_X9_looks_21 hR (vin (by decide) (by decide)) (vin (by decide) (by decide)) ⟨rfl, rfl, rfl, rfl, fun k hk => by rw [qUp_ro hk, qUp_ro hk]; exact hJ k hk, fun j hj => ?_⟩) (fun q => absurd (i_le.mpr (by rw [show (9 : Int32).toInt = 9 from rfl]; omega)) q)
      rw [qUp_row, qUp_row, t0, t1]
      unfold tU eTime
      by_cases j1 : j = 1
      · rw [if_pos j1, if_neg (by omega), if_pos j1]
      · rw [if_neg j1]
        by_cases j0 : j = 0
        · rw [if_pos j0, if_pos j0]
        · rw [if_neg j0, if_neg j0, if_neg j1]
          exact hz j (by omega)
    | succ m ih =>
      intro n J hm n0 n9 hJ hz
      refine w_X9_looks_2 (fun q => absurd (i_le.mp q) (by rw [show (9 : Int32).toInt = 9 from rfl]; omega)) (fun _ => w_X9_looks_8 hR (vin n0 (by omega)) (ih (n + 1) _ ?_ ?_ ?_ (fun k hk => by rw [qUp_ro hk]; exact hJ k hk) (fun j hj => ?_)))
      · rw [i_s (by omega)]; omega
      · rw [i_s (by omega)]; omega
      · rw [i_s (by omega)]; omega
      · rw [i_s (by omega)] at hj
        rw [qUp_row, tcn]
        unfold tU
        split
        · rfl
        · exact hz j (by omega)
  exact wkC_of 1 (by decide) (Nat.le_of_ble_eq_true rfl) (w_X9_looks_0 (loop 9 0 I rfl (by decide) (by decide) (fun _ _ => rfl) (fun j hj => absurd hj (by rw [show (0 : Int32).toInt = 0 from rfl]; omega))))
theorem uHeld {x a b : Int32} (hab : a.toInt ≤ b.toInt) : wkI l G (d + 1) n_X9_held [.int x, .int a, .int b] I L R (fun y I' L' => L' = L ∧ I' = I ∧ y = wIn a x b) := by
  rw [wIn_h hab]
  refine wkC_of 0 (by decide) (Nat.le_of_ble_eq_true rfl) (w_X9_held_0 (fun q => w_X9_held_9 (fun q2 => w_X9_held_18 (w_X9_held_19 ⟨rfl, rfl, _, rfl, rfl, rfl, ?_⟩)) (fun q2 => w_X9_held_14 (w_X9_held_19 ⟨rfl, rfl, _, rfl, rfl, rfl, ?_⟩))) (fun q => w_X9_held_5 (w_X9_held_19 ⟨rfl, rfl, _, rfl, rfl, rfl, ?_⟩)))
  · have q := i_le.mp q
    have q2 := i_le.mp q2
    rw [if_neg (fun z => by have := i_lt.mp z; omega), if_neg (fun z => by have := i_lt.mp z; omega)]
  · have q := i_le.mp q
    have q2 := nle q2
    rw [if_neg (fun z => by have := i_lt.mp z; omega), if_pos (i_lt.mpr (by omega))]
  · have q := nle q
    rw [if_pos (i_lt.mpr (by omega))]
theorem uReck (hR : wkR R) (hL : rHas v I A) {e : Nat → Int32} (hv : rVr I e) {k p : Int32} {n : Nat} (hk : k.toInt = n) (hn : n < 5) (hp : A.2.2.2 n = aLaw0 n → p = aRun (I 321) (aLaw0 n).1 (aLaw0 n).2) : wkI l G (d + 2) n_X9_lawTells [.ref 292, .int k, .int p] I L R (fun y I' L' => L' = L ∧ yFr I I' ∧ y = aTl A n e) := by
  obtain ⟨⟨g1, g2⟩, g3, g4, g5⟩ := hL
  refine wkI.mono (eLawTells hR g1 g2 g3 g4 hk hn (g5 n) hp) (fun y I' L' hq => ?_)
  exact ⟨hq.1, hq.2.1, hq.2.2.trans (aTl_cg (g5 n) hv)⟩
theorem uHeat (hR : wkR R) (hL : rHas v I A) {h : Int32} : wkI l G (d + 3) n_X9_heatAt [.ref 292, .int h] I L R (fun y I' L' => L' = L ∧ rW I I' ∧ y = pHt A h) := by
  refine wkC_of 0 (by decide) (Nat.le_of_ble_eq_true rfl) (w_X9_heatAt_0 (uLooks (d := d + 1) hR) (fun I1 L1 hq => ?_))
  obtain ⟨rfl, f1, v1⟩ := hq
  refine w_X9_heatAt_5 hR (vin (by decide) (by decide)) (uReck (d := d) hR (rHas_q (rW_v f1) hL) v1 (n := 0) rfl (by decide) (fun _ => rfl)) (fun y I2 L2 hq => ?_)
  obtain ⟨rfl, f2, rfl⟩ := hq
  refine w_X9_heatAt_16 (uHeld (d := d + 1) (by decide)) (fun y I3 L3 hq => ?_)
  obtain ⟨rfl, rfl, rfl⟩ := hq
  exact w_X9_heatAt_22 ⟨rfl, rfl, _, rfl, rfl, rW_tr (rW_v f1) (rW_y f2), rfl⟩
theorem uOff {x y : Int32} (hx : bnd x) (hy : bnd y) : wkI l G (d + 1) n_X9_off [.int x, .int y] I L R (fun z I' L' => L' = L ∧ I' = I ∧ z = if 0 ≤ y - x then y - x else 0 - (y - x)) := by
  have e1 : (y - x).toInt = y.toInt - x.toInt := i_sub (by omega) (by omega)
  have e2 : (x - y).toInt = x.toInt - y.toInt := i_sub (by omega) (by omega)
  have z0 : (0 : Int32).toInt = 0 := rfl
  have e3 : (0 - (y - x)).toInt = (0 : Int32).toInt - (y - x).toInt := i_sub (by omega) (by omega)
  refine wkC_of 0 (by decide) (Nat.le_of_ble_eq_true rfl) (w_X9_off_0 (fun q => w_X9_off_11 (w_X9_off_14 ⟨rfl, rfl, _, rfl, rfl, rfl, ?_⟩)) (fun q => w_X9_off_5 (w_X9_off_14 ⟨rfl, rfl, _, rfl, rfl, rfl, ?_⟩)))
  · have q := i_le.mp q
    by_cases c : (0 : Int32) ≤ y - x
    · rw [if_pos c]
      have c := i_le.mp c
      exact i_eq.mpr (by omega)
    · rw [if_neg c]
      exact i_eq.mpr (by omega)
  · have q := nle q
    rw [if_pos (i_le.mpr (by omega))]
theorem uLooksAt (hR : wkR R) (hL : rHas v I A) {fr x tl h : Int32} (hf : bnd fr) (hx : bnd x) : wkV l G (d + 4) n_X9_looksAt [.ref 292, .int fr, .int x, .int tl, .int h] I L R (fun I' L' => L' = L ∧ rW I I' ∧ rVr I' (eAim h (pHt A h) fr x tl)) := by
  have t2 : (2 : Int32).toNatClampNeg = 2 := rfl
  have t3 : (3 : Int32).toNatClampNeg = 3 := rfl
  have t4 : (4 : Int32).toNatClampNeg = 4 := rfl
  have t5 : (5 : Int32).toNatClampNeg = 5 := rfl
  have t7 : (7 : Int32).toNatClampNeg = 7 := rfl
  have t8 : (8 : Int32).toNatClampNeg = 8 := rfl
  have vv : ∀ i : Int32, 0 ≤ i.toInt → i.toInt < 9 → vp_in i 9 := fun i a b => vin a (by omega)
  refine wkC_of 1 (by decide) (Nat.le_of_ble_eq_true rfl) (w_X9_looksAt_0 (uHeat (d := d) hR hL) (fun y I1 L1 hq => ?_))
  obtain ⟨rfl, q1, rfl⟩ := hq
  refine w_X9_looksAt_6 (uLooks (d := d + 2) hR) (fun I2 L2 hq => ?_)
  obtain ⟨rfl, f2, v2⟩ := hq
  refine w_X9_looksAt_14 hR (vv _ (by decide) (by decide)) (uOff (d := d + 2) hf hx) (fun y I3 L3 hq => ?_)
  obtain ⟨rfl, rfl, rfl⟩ := hq
  have fin : ∀ (J : qMI), (∀ k, k ≠ 321 → J k = I2 k) → rW I J := fun J hJ => rW_tr q1 (rW_tr (rW_v f2) (rW_v hJ))
  refine w_X9_looksAt_32 hR (vv _ (by decide) (by decide)) (vv _ (by decide) (by decide)) (vv _ (by decide) (by decide)) (fun q => w_X9_looksAt_62 (w_X9_looksAt_63 hR (vv _ (by decide) (by decide)) (vv _ (by decide) (by decide)) ⟨rfl, rfl, rfl, rfl, fin _ (fun k hk => by simp only [qUp_ro hk]), fun j hj => ?_⟩)) (fun q => w_X9_looksAt_58 (w_X9_looksAt_63 hR (vv _ (by decide) (by decide)) (vv _ (by decide) (by decide)) ⟨rfl, rfl, rfl, rfl, fin _ (fun k hk => by simp only [qUp_ro hk]), fun j hj => ?_⟩))
  · simp only [qUp_row, t2, t3, t4, t5, t7, t8]
    rcases (show j = 0 ∨ j = 1 ∨ j = 2 ∨ j = 3 ∨ j = 4 ∨ j = 5 ∨ j = 6 ∨ j = 7 ∨ j = 8 by omega) with rfl | rfl | rfl | rfl | rfl | rfl | rfl | rfl | rfl
    · exact v2 0 hj
    · exact v2 1 hj
    · rfl
    · rfl
    · rfl
    · rfl
    · exact v2 6 hj
    · show (0 : Int32) = if x ≤ fr then 0 else 1
      rw [if_pos q]
    · rfl
  · simp only [qUp_row, t2, t3, t4, t5, t7, t8]
    rcases (show j = 0 ∨ j = 1 ∨ j = 2 ∨ j = 3 ∨ j = 4 ∨ j = 5 ∨ j = 6 ∨ j = 7 ∨ j = 8 by omega) with rfl | rfl | rfl | rfl | rfl | rfl | rfl | rfl | rfl
    · exact v2 0 hj
    · exact v2 1 hj
    · rfl
    · rfl
    · rfl
    · rfl
    · exact v2 6 hj
    · show (1 : Int32) = if x ≤ fr then 0 else 1
      rw [if_neg q]
    · rfl
theorem uSeen (hR : wkR R) (hL : rHas v I A) {fr x tl h : Int32} (hf : bnd fr) (hx : bnd x) : wkI l G (d + 5) n_X9_isSeen [.ref 292, .int fr, .int x, .int tl, .int h] I L R (fun y I' L' => L' = L ∧ rW I I' ∧ y = if pSe A h (pHt A h) fr x tl then 1 else 0) := by
  refine wkC_of 0 (by decide) (Nat.le_of_ble_eq_true rfl) (w_X9_isSeen_0 (uLooksAt (d := d) hR hL hf hx) (fun I1 L1 hq => ?_))
  obtain ⟨rfl, q1, v1⟩ := hq
  refine w_X9_isSeen_9 hR (vin (by decide) (by decide)) (vin (by decide) (by decide)) (uReck (d := d + 2) hR (rHas_q q1 hL) v1 (n := 1) rfl (by decide) (fun _ => rfl)) (fun y I2 L2 hq => ?_)
  obtain ⟨rfl, f2, rfl⟩ := hq
  refine w_X9_isSeen_27 (fun q => w_X9_isSeen_34 (w_X9_isSeen_35 ⟨rfl, rfl, _, rfl, rfl, rW_tr q1 (rW_y f2), ?_⟩ (Or.inl rfl))) (fun q => w_X9_isSeen_30 (w_X9_isSeen_35 ⟨rfl, rfl, _, rfl, rfl, rW_tr q1 (rW_y f2), ?_⟩ (Or.inr rfl)))
  · rw [if_neg (fun z => by have := i_lt.mp z; have := i_le.mp q; omega)]
  · have := nle q
    rw [if_pos (i_lt.mpr (by omega))]
theorem live_i (hL : rHas v I A) {x : Int32} {e : Nat} (hx : x.toInt = e) (he : e < 6) : ((6 * I 292 18) + x).toInt = 6 * v + e := by
  obtain ⟨⟨g1, g2⟩, -, -, -⟩ := hL
  have m6 : ((6 : Int32) * I 292 18).toInt = 6 * (v : Int) := by
    rw [i_mul (by rw [show (6 : Int32).toInt = 6 from rfl]; omega) (by rw [show (6 : Int32).toInt = 6 from rfl]; omega), g2]
    rfl
  rw [i_add (by omega) (by omega), m6, hx]
theorem uSees (hR : wkR R) (hL : rHas v I A) {fr y h : Int32} {e : Nat} (hf : bnd fr) (hy : y.toInt = e) (hE : e < A.1.length) (hx : bnd (tX A e)) : wkI l G (d + 6) n_X9_sees [.ref 292, .int fr, .int y, .int h] I L R (fun z I' L' => L' = L ∧ rW I I' ∧ z = if pSe A h (pHt A h) fr (tX A e) (tT A e) then 1 else 0) := by
  have hn := (rHas_n hL).1.2
  have hv := hL.1.1
  have li := live_i hL hy (by omega)
  have ci : ((6 * I 292 18) + y).toNatClampNeg = 6 * v + e := by rw [tcn]; omega
  refine wkC_of 0 (by decide) (Nat.le_of_ble_eq_true rfl) (w_X9_sees_0 hR (vin (by omega) (by omega)) (vin (by omega) (by omega)) (P := fun z I' L' => L' = L ∧ rW I I' ∧ z = if pSe A h (pHt A h) fr (tX A e) (tT A e) then 1 else 0) ?_ (fun z I1 L1 hq => ?_))
  · rw [ci, (rHas_x hL hE).1, (rHas_x hL hE).2]
    exact uSeen (d := d) hR hL hf hx
  · obtain ⟨rfl, q1, rfl⟩ := hq
    exact w_X9_sees_34 ⟨rfl, rfl, _, rfl, rfl, q1, rfl⟩ if01
theorem uRent (hR : wkR R) (hL : rHas v I A) {fr y n h : Int32} {e : Nat} (hf : bnd fr) (hy : y.toInt = e) (hE : e < A.1.length) (hx : bnd (tX A e)) : wkI l G (d + 5) n_X9_rentOf [.ref 292, .int fr, .int y, .int n, .int h] I L R (fun z I' L' => L' = L ∧ rW I I' ∧ z = pRt A h (pHt A h) fr (tX A e) (tT A e) n) := by
  have hn := (rHas_n hL).1.2
  have hv := hL.1.1
  have li := live_i hL hy (by omega)
  have ci : ((6 * I 292 18) + y).toNatClampNeg = 6 * v + e := by rw [tcn]; omega
  refine wkC_of 0 (by decide) (Nat.le_of_ble_eq_true rfl) (w_X9_rentOf_0 hR (vin (by omega) (by omega)) (vin (by omega) (by omega)) (P := fun I' L' => L' = L ∧ rW I I' ∧ rVr I' (eAim h (pHt A h) fr (tX A e) (tT A e))) ?_ (fun I1 L1 hq => ?_))
  · rw [ci, (rHas_x hL hE).1, (rHas_x hL hE).2]
    exact uLooksAt (d := d) hR hL hf hx
  obtain ⟨rfl, q1, v1⟩ := hq
  have f2 : ∀ k, k ≠ 321 → (qUp I1 321 (6 : Int32).toNatClampNeg n) k = I1 k := fun k hk => qUp_ro hk
  have v2 : rVr (qUp I1 321 (6 : Int32).toNatClampNeg n) (eLnt (eAim h (pHt A h) fr (tX A e) (tT A e)) n) := fun j hj => by
    rw [qUp_row, show (6 : Int32).toNatClampNeg = 6 from rfl]
    unfold tU eLnt
    rw [v1 j hj]
  refine w_X9_rentOf_35 hR (vin (by decide) (by decide)) (vin (by decide) (by decide)) (uReck (d := d + 2) hR (rHas_q (rW_v f2) (rHas_q q1 hL)) v2 (n := 3) rfl (by decide) (fun _ => rfl)) (fun y I2 L2 hq => ?_)
  obtain ⟨rfl, f3, rfl⟩ := hq
  refine w_X9_rentOf_54 (uHeld (d := d + 3) (by decide)) (fun y I3 L3 hq => ?_)
  obtain ⟨rfl, rfl, rfl⟩ := hq
  exact w_X9_rentOf_60 ⟨rfl, rfl, _, rfl, rfl, rW_tr q1 (rW_tr (rW_v f2) (rW_y f3)), rfl⟩
theorem uInt (hR : wkR R) (hL : rHas v I A) {n h : Int32} : wkI l G (d + 4) n_X9_interestOf [.ref 292, .int n, .int h] I L R (fun z I' L' => L' = L ∧ rW I I' ∧ z = pIn A h (pHt A h) n) := by
  refine wkC_of 1 (by decide) (Nat.le_of_ble_eq_true rfl) (w_X9_interestOf_0 (uHeat (d := d) hR hL) (fun y I1 L1 hq => ?_))
  obtain ⟨rfl, q1, rfl⟩ := hq
  refine w_X9_interestOf_5 (uLooks (d := d + 2) hR) (fun I2 L2 hq => ?_)
  obtain ⟨rfl, f2, v2⟩ := hq
  have f3 : ∀ k, k ≠ 321 → (qUp (qUp I2 321 (2 : Int32).toNatClampNeg (pHt A h)) 321 (6 : Int32).toNatClampNeg n) k = I2 k := fun k hk => by rw [qUp_ro hk, qUp_ro hk]
  have v3 : rVr (qUp (qUp I2 321 (2 : Int32).toNatClampNeg (pHt A h)) 321 (6 : Int32).toNatClampNeg n) (eLnt (eWrm (eTime h) (pHt A h)) n) := fun j hj => by
    rw [qUp_row, qUp_row, show (2 : Int32).toNatClampNeg = 2 from rfl, show (6 : Int32).toNatClampNeg = 6 from rfl]
    unfold tU eLnt eWrm
    rw [v2 j hj]
  refine w_X9_interestOf_11 hR (vin (by decide) (by decide)) (vin (by decide) (by decide)) (uReck (d := d + 1) hR (rHas_q (rW_v f3) (rHas_q (rW_v f2) (rHas_q q1 hL))) v3 (n := 4) rfl (by decide) (fun _ => rfl)) (fun y I4 L4 hq => ?_)
  obtain ⟨rfl, f4, rfl⟩ := hq
  refine w_X9_interestOf_32 (uHeld (d := d + 2) (by decide)) (fun y I5 L5 hq => ?_)
  obtain ⟨rfl, rfl, rfl⟩ := hq
  exact w_X9_interestOf_38 ⟨rfl, rfl, _, rfl, rfl, rW_tr q1 (rW_tr (rW_v f2) (rW_tr (rW_v f3) (rW_y f4))), rfl⟩
theorem uGrows (hR : wkR R) (hL : rHas v I A) {n h : Int32} : wkI l G (d + 5) n_X9_grows [.ref 292, .int n, .int h] I L R (fun z I' L' => L' = L ∧ rW I I' ∧ z = wIn 0 (n + n * pIn A h (pHt A h) n / 100) 99999) := by
  refine wkC_of 0 (by decide) (Nat.le_of_ble_eq_true rfl) (w_X9_grows_0 (uInt (d := d) hR hL) (fun y I1 L1 hq => ?_))
  obtain ⟨rfl, q1, rfl⟩ := hq
  refine w_X9_grows_8 (uHeld (d := d + 3) (by decide)) (fun y I5 L5 hq => ?_)
  obtain ⟨rfl, rfl, rfl⟩ := hq
  exact w_X9_grows_20 ⟨rfl, rfl, _, rfl, rfl, q1, rfl⟩
end
