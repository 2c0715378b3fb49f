/-! ===== the class: what its laws tell, exactly ===== -/
def cQ (o : Nat) (I J : qMI) : Prop := ∀ k, k ≠ o + 10 → k ≠ o + 11 → J k = I k
theorem cQ_rf (o : Nat) (I : qMI) : cQ o I I := fun _ _ _ => rfl
theorem cQ_tr {o : Nat} {I J K : qMI} (h : cQ o I J) (g : cQ o J K) : cQ o I K := fun k a b => (g k a b).trans (h k a b)
def cVr (o : Nat) (J : qMI) (e : Nat → Int32) : Prop := ∀ j, j < 9 → J (o + 10) j = e j
def cFl (R : qMR) (o : Nat) : Prop := R o 12 = some (o + 6) ∧ R o 3 = some (o + 2) ∧ R o 4 = some (o + 3) ∧ R o 6 = some (o + 4) ∧ R o 7 = some (o + 5)
/-- the flat o holds the account A -/
def cHas (o : Nat) (I : qMI) (R : qMR) (A : aD) : Prop := (o = 9 ∨ o = 259) ∧ (cRl R o ∧ R (o + 6) 4 = some (o + 10) ∧ R (o + 6) 5 = some (o + 11)) ∧ cFl R o ∧ (0 ≤ (I (o + 6) 2).toInt ∧ (I (o + 6) 2).toInt ≤ 420) ∧ cDt o I A ∧ ∀ k, aWf (A.2.2.2 k)
theorem cDt_fr {o : Nat} {I J : qMI} {A : aD} (h : ∀ k, o ≤ k → k ≤ o + 9 → J k = I k) (g : cDt o I A) : cDt o J A := by
  refine cDt_em (v := []) ⟨?_, fun k j q => ?_⟩ g
  · rw [List.append_nil]
    unfold cCd
    rw [h (o + 6) (by omega) (by omega), h (o + 7) (by omega) (by omega), h (o + 8) (by omega) (by omega)]
  · unfold cIn at q
    rw [h k (by omega) (by omega)]
theorem cHas_fr {o : Nat} {I J : qMI} {R : qMR} {A : aD} (h : ∀ k, o ≤ k → k ≤ o + 9 → J k = I k) (g : cHas o I R A) : cHas o J R A := by
  obtain ⟨g1, g2, g3, g4, g5, g6⟩ := g
  exact ⟨g1, g2, g3, by rw [h (o + 6) (by omega) (by omega)]; exact g4, cDt_fr h g5, g6⟩
theorem cHas_q {o : Nat} {I J : qMI} {R : qMR} {A : aD} (h : cQ o I J) (g : cHas o I R A) : cHas o J R A := cHas_fr (fun k _ b => h k (by omega) (by omega)) g
theorem cRow_x {o c a b : Nat} {I : qMI} {w : List (Int32 × Int32)} (h : cRow o c a b I w) {i : Nat} (hi : i < w.length) : I a i = (w.getD i (0, 0)).1 ∧ I b i = (w.getD i (0, 0)).2 := by
  have e : w[i]? = some (w.getD i (0, 0)) := by
    rw [List.getD_eq_getElem?_getD, List.getElem?_eq_getElem hi]
    rfl
  exact h.2 i _ e
theorem cHas_n {o : Nat} {I : qMI} {R : qMR} {A : aD} (g : cHas o I R A) : ((I o 2).toInt = A.1.length ∧ A.1.length ≤ 6) ∧ (I o 5).toInt = A.2.1.length ∧ A.2.1.length ≤ 6 := by
  obtain ⟨-, -, -, -, g5, -⟩ := g
  exact ⟨g5.1.1, g5.2.1.1⟩
theorem cHas_x {o : Nat} {I : qMI} {R : qMR} {A : aD} (g : cHas o I R A) {e : Nat} (he : e < A.1.length) : I (o + 2) e = tX A e ∧ I (o + 3) e = tT A e := by
  obtain ⟨-, -, -, -, g5, -⟩ := g
  exact cRow_x g5.1 he
section
variable {l : Launch} {G : qG} {d : Nat} {I : qMI} {L : qML} {R : qMR} {o : Nat} {A : aD}
theorem sClrLoop (ho : o = 9 ∨ o = 259) (h4 : R (o + 6) 4 = some (o + 10)) {Q : qQ} {h : Int32} (kQ : ∀ J : qMI, (∀ k, k ≠ o + 10 → J k = I k) → cVr o J (eTime h) → Q none 336 J L R) : ∀ (m : Nat) (n : Int32) (J : qMI), (9 - n.toInt).toNat = m → 0 ≤ n.toInt → n.toInt ≤ 9 → (∀ k, k ≠ o + 10 → J k = I k) → (∀ j : Nat, (j : Int) < n.toInt → J (o + 10) j = 0) → wkB l G (d + 1) n_X2_clearVars Q 2 [.ref (o + 6), .int h, .int n] [] J L R := by
  have t0 : (0 : Int32).toNatClampNeg = 0 := rfl
  have t1 : (1 : Int32).toNatClampNeg = 1 := rfl
  intro m
  induction m with
  | zero =>
    intro n J hm n0 n9 hJ hz
    refine w_X2_clearVars_2 ho (fun _ => w_X2_clearVars_21 ho h4 (vin (by decide) (by decide)) h4 (vin (by decide) (by decide)) (kQ _ (fun k hk => by rw [qUp_ro hk, qUp_ro hk]; exact hJ k hk) (fun j hj => ?_))) (fun q => absurd (i_le.mpr (by rw [show (9 : Int32).toInt = 9 from rfl]; omega)) q)
    rw [qUp_row, qUp_row, t0, t1]
    unfold tU eTime
    by_cases j1 : j = 1
    · rw [if_pos j1, if_neg (by omega), if_pos j1]
    · rw [if_neg j1]
      by_cases j0 : j = 0
      · rw [if_pos j0, if_pos j0]
      · rw [if_neg j0, if_neg j0, if_neg j1]
        exact hz j (by omega)
  | succ m ih =>
    intro n J hm n0 n9 hJ hz
    refine w_X2_clearVars_2 ho (fun q => absurd (i_le.mp q) (by rw [show (9 : Int32).toInt = 9 from rfl]; omega)) (fun _ => w_X2_clearVars_8 ho h4 (vin n0 (by omega)) (ih (n + 1) _ ?_ ?_ ?_ (fun k hk => by rw [qUp_ro hk]; exact hJ k hk) (fun j hj => ?_)))
    · rw [i_s (by omega)]; omega
    · rw [i_s (by omega)]; omega
    · rw [i_s (by omega)]; omega
    · rw [i_s (by omega)] at hj
      rw [qUp_row, tcn]
      unfold tU
      split
      · rfl
      · exact hz j (by omega)
theorem sClr (ho : o = 9 ∨ o = 259) (h4 : R (o + 6) 4 = some (o + 10)) {h : Int32} : wkCv l G (d + 1) n_X2_clearVars [.ref (o + 6), .int h] I L R (fun I' L' R' => R' = R ∧ L' = L ∧ (∀ k, k ≠ o + 10 → I' k = I k) ∧ cVr o I' (eTime h)) :=
  wkC_of 1 (by decide) (Nat.le_of_ble_eq_true rfl) (w_X2_clearVars_0 ho (sClrLoop ho h4 (fun J a b => ⟨rfl, rfl, rfl, rfl, a, b⟩) 9 0 I rfl (by decide) (by decide) (fun _ _ => rfl) (fun j hj => absurd hj (by rw [show (0 : Int32).toInt = 0 from rfl]; omega))))
theorem sAim (ho : o = 9 ∨ o = 259) (h4 : R (o + 6) 4 = some (o + 10)) {h w x tx tl : Int32} : wkCv l G (d + 1) n_X2_aim [.ref (o + 6), .int h, .int w, .int x, .int tx, .int tl] I L R (fun I' L' R' => R' = R ∧ L' = L ∧ (∀ k, k ≠ o + 10 → I' k = I k) ∧ cVr o I' (eAim h w x tx tl)) := by
  have t0 : (0 : Int32).toNatClampNeg = 0 := rfl
  have t1 : (1 : Int32).toNatClampNeg = 1 := rfl
  have t2 : (2 : Int32).toNatClampNeg = 2 := rfl
  have t3 : (3 : Int32).toNatClampNeg = 3 := rfl
  have t4 : (4 : Int32).toNatClampNeg = 4 := rfl
  have t5 : (5 : Int32).toNatClampNeg = 5 := rfl
  have t6 : (6 : Int32).toNatClampNeg = 6 := rfl
  have t7 : (7 : Int32).toNatClampNeg = 7 := rfl
  have t8 : (8 : Int32).toNatClampNeg = 8 := rfl
  have v : ∀ i : Int32, 0 ≤ i.toInt → i.toInt < 9 → vp_in i 9 := fun i a b => vin a (by omega)
  refine wkC_of 0 (by decide) (Nat.le_of_ble_eq_true rfl) (w_X2_aim_0 ho h4 (v _ (by decide) (by decide)) h4 (v _ (by decide) (by decide)) h4 (v _ (by decide) (by decide)) h4 (v _ (by decide) (by decide)) h4 (v _ (by decide) (by decide)) h4 (v _ (by decide) (by decide)) h4 (v _ (by decide) (by decide)) h4 (fun q => w_X2_aim_80 ho (w_X2_aim_81 ho (v _ (by decide) (by decide)) h4 (v _ (by decide) (by decide)) ⟨rfl, rfl, rfl, rfl, fun k hk => by simp only [qUp_ro hk], fun j hj => ?_⟩)) (fun q => w_X2_aim_76 ho (w_X2_aim_81 ho (v _ (by decide) (by decide)) h4 (v _ (by decide) (by decide)) ⟨rfl, rfl, rfl, rfl, fun k hk => by simp only [qUp_ro hk], fun j hj => ?_⟩)))
  · simp only [qUp_row, t0, t1, t2, t3, t4, t5, t6, t7, t8]
    rcases (show j = 0 ∨ j = 1 ∨ j = 2 ∨ j = 3 ∨ j = 4 ∨ j = 5 ∨ j = 6 ∨ j = 7 ∨ j = 8 by omega) with rfl | rfl | rfl | rfl | rfl | rfl | rfl | rfl | rfl
    · rfl
    · rfl
    · rfl
    · rfl
    · rfl
    · rfl
    · rfl
    · show (0 : Int32) = if tx ≤ x then 0 else 1
      rw [if_pos q]
    · rfl
  · simp only [qUp_row, t0, t1, t2, t3, t4, t5, t6, t7, t8]
    rcases (show j = 0 ∨ j = 1 ∨ j = 2 ∨ j = 3 ∨ j = 4 ∨ j = 5 ∨ j = 6 ∨ j = 7 ∨ j = 8 by omega) with rfl | rfl | rfl | rfl | rfl | rfl | rfl | rfl | rfl
    · rfl
    · rfl
    · rfl
    · rfl
    · rfl
    · rfl
    · rfl
    · show (1 : Int32) = if tx ≤ x then 0 else 1
      rw [if_neg q]
    · rfl
theorem sReck (hL : cHas o I R A) {e : Nat → Int32} (hv : cVr o I e) {k : Int32} {n : Nat} (hk : k.toInt = n) (hn : n < 5) : wkCi l G (d + 2) n_X2_reckon [.ref (o + 6), .int k] I L R (fun y I' L' R' => R' = R ∧ L' = L ∧ cRk o I I' ∧ y = aTl A n e) := by
  obtain ⟨ho, ⟨h1, h4, h5⟩, -, hb, hD, hW⟩ := hL
  have en : k.toInt.toNat = n := by omega
  refine wkCi.mono (cReckon ho h1 h4 h5 (k := k) (by omega) hb (by rw [en]; exact hD.2.2.2 n hn) (hW n)) (fun y I' L' R' hq => ?_)
  obtain ⟨q1, q2, q3, q4⟩ := hq
  exact ⟨q1, q2, q3, q4.trans (aTl_cg (hW n) hv)⟩
theorem sWithin {a b c : Int32} : wkCi l G (d + 1) n_X8_within [.int a, .int b, .int c] I L R (fun y I' L' R' => R' = R ∧ L' = L ∧ I' = I ∧ y = wIn a b c) :=
  wkC_of 0 (by decide) (Nat.le_of_ble_eq_true rfl) (w_X8_within_0 ⟨rfl, _, rfl, rfl, rfl, rfl, rfl⟩)
theorem cRk_q {I J : qMI} (h : cRk o I J) : cQ o I J := fun k _ b => h k b
theorem cV_q {I J : qMI} (h : ∀ k, k ≠ o + 10 → J k = I k) : cQ o I J := fun k a _ => h k a
theorem cVr_rk {I J : qMI} {e : Nat → Int32} (h : cRk o I J) (hv : cVr o I e) : cVr o J e := fun j hj => by rw [h (o + 10) (by omega)]; exact hv j hj
theorem sHeat2 (hL : cHas o I R A) {h : Int32} : wkCi l G (d + 3) n_X2_heat [.ref (o + 6), .int h] I L R (fun y I' L' R' => R' = R ∧ L' = L ∧ cQ o I I' ∧ y = pHt A h) := by
  have ho := hL.1
  refine wkC_of 0 (by decide) (Nat.le_of_ble_eq_true rfl) (w_X2_heat_0 ho (sClr (d := d + 1) ho hL.2.1.2.1) (fun I1 L1 R1 hq => ?_))
  obtain ⟨rfl, rfl, f1, v1⟩ := hq
  refine w_X2_heat_5 ho (sReck (d := d) (cHas_q (cV_q f1) hL) v1 (n := 0) rfl (by decide)) (fun y I2 L2 R2 hq => ?_)
  obtain ⟨rfl, rfl, f2, rfl⟩ := hq
  refine w_X2_heat_11 ho (sWithin (d := d + 1)) (fun y I3 L3 R3 hq => ?_)
  obtain ⟨rfl, rfl, rfl, rfl⟩ := hq
  exact w_X2_heat_16 ho ⟨rfl, _, rfl, rfl, rfl, cQ_tr (cV_q f1) (cRk_q f2), rfl⟩
theorem sInt2 (hL : cHas o I R A) {h w n : Int32} : wkCi l G (d + 3) n_X2_interest [.ref (o + 6), .int h, .int w, .int n] I L R (fun y I' L' R' => R' = R ∧ L' = L ∧ cQ o I I' ∧ y = pIn A h w n) := by
  have ho := hL.1
  have h4 := hL.2.1.2.1
  refine wkC_of 0 (by decide) (Nat.le_of_ble_eq_true rfl) (w_X2_interest_0 ho (sClr (d := d + 1) ho h4) (fun I1 L1 R1 hq => ?_))
  obtain ⟨rfl, rfl, f1, v1⟩ := hq
  have f2 : ∀ k, k ≠ o + 10 → (qUp (qUp I1 (o + 10) (2 : Int32).toNatClampNeg w) (o + 10) (6 : Int32).toNatClampNeg n) k = I k := fun k hk => by rw [qUp_ro hk, qUp_ro hk]; exact f1 k hk
  refine w_X2_interest_5 ho h4 (vin (by decide) (by decide)) h4 (vin (by decide) (by decide)) (sReck (d := d) (e := eLnt (eWrm (eTime h) w) n) (cHas_q (cV_q f2) hL) (fun j hj => ?_) (n := 4) rfl (by decide)) (fun y I2 L2 R2 hq => ?_)
  · rw [qUp_row, qUp_row, show (2 : Int32).toNatClampNeg = 2 from rfl, show (6 : Int32).toNatClampNeg = 6 from rfl]
    unfold tU eLnt eWrm
    rw [v1 j hj]
  obtain ⟨rfl, rfl, f3, rfl⟩ := hq
  refine w_X2_interest_26 ho (sWithin (d := d + 1)) (fun y I3 L3 R3 hq => ?_)
  obtain ⟨rfl, rfl, rfl, rfl⟩ := hq
  exact w_X2_interest_31 ho ⟨rfl, _, rfl, rfl, rfl, cQ_tr (cV_q f2) (cRk_q f3), rfl⟩
theorem sSeen2 (hL : cHas o I R A) {e : Nat → Int32} (hv : cVr o I e) : wkCi l G (d + 3) n_X2_isSeen [.ref (o + 6)] I L R (fun y I' L' R' => R' = R ∧ L' = L ∧ cRk o I I' ∧ y = if 0 < aTl A 1 e then 1 else 0) := by
  have ho := hL.1
  refine wkC_of 0 (by decide) (Nat.le_of_ble_eq_true rfl) (w_X2_isSeen_0 ho (sReck (d := d) hL hv (n := 1) rfl (by decide)) (fun y I2 L2 R2 hq => ?_))
  obtain ⟨rfl, rfl, f2, rfl⟩ := hq
  refine w_X2_isSeen_5 ho (fun q => w_X2_isSeen_12 ho (w_X2_isSeen_13 ho ⟨rfl, _, rfl, rfl, rfl, f2, ?_⟩ (Or.inl rfl))) (fun q => w_X2_isSeen_8 ho (w_X2_isSeen_13 ho ⟨rfl, _, rfl, rfl, rfl, f2, ?_⟩ (Or.inr rfl)))
  · rw [if_neg (fun z => by have := i_lt.mp z; have := i_le.mp q; omega)]
  · rw [if_pos (i_lt.mpr (by have := nle q; rw [show (0 : Int32).toInt = 0 from rfl] at this ⊢; omega))]
theorem sMoved2 (hL : cHas o I R A) {e : Nat → Int32} (hv : cVr o I e) : wkCi l G (d + 3) n_X2_moved [.ref (o + 6)] I L R (fun y I' L' R' => R' = R ∧ L' = L ∧ cRk o I I' ∧ y = wIn (-9) (aTl A 2 e) 9) := by
  have ho := hL.1
  refine wkC_of 0 (by decide) (Nat.le_of_ble_eq_true rfl) (w_X2_moved_0 ho (sReck (d := d) hL hv (n := 2) rfl (by decide)) (fun y I2 L2 R2 hq => ?_))
  obtain ⟨rfl, rfl, f2, rfl⟩ := hq
  refine w_X2_moved_7 ho (sWithin (d := d + 1)) (fun y I3 L3 R3 hq => ?_)
  obtain ⟨rfl, rfl, rfl, rfl⟩ := hq
  exact w_X2_moved_12 ho ⟨rfl, _, rfl, rfl, rfl, f2, rfl⟩
theorem sRent2 (hL : cHas o I R A) {e : Nat → Int32} (hv : cVr o I e) {n : Int32} : wkCi l G (d + 3) n_X2_rent [.ref (o + 6), .int n] I L R (fun y I' L' R' => R' = R ∧ L' = L ∧ cQ o I I' ∧ y = wIn 0 (aTl A 3 (eLnt e n)) 99) := by
  have ho := hL.1
  have h4 := hL.2.1.2.1
  have f1 : ∀ k, k ≠ o + 10 → (qUp I (o + 10) (6 : Int32).toNatClampNeg n) k = I k := fun k hk => qUp_ro hk
  refine wkC_of 0 (by decide) (Nat.le_of_ble_eq_true rfl) (w_X2_rent_0 ho h4 (vin (by decide) (by decide)) (sReck (d := d) (e := eLnt e n) (cHas_q (cV_q f1) hL) (fun j hj => ?_) (n := 3) rfl (by decide)) (fun y I2 L2 R2 hq => ?_))
  · rw [qUp_row, show (6 : Int32).toNatClampNeg = 6 from rfl]
    unfold tU eLnt
    rw [hv j hj]
  obtain ⟨rfl, rfl, f2, rfl⟩ := hq
  refine w_X2_rent_14 ho (sWithin (d := d + 1)) (fun y I3 L3 R3 hq => ?_)
  obtain ⟨rfl, rfl, rfl, rfl⟩ := hq
  exact w_X2_rent_19 ho ⟨rfl, _, rfl, rfl, rfl, cQ_tr (cV_q f1) (cRk_q f2), rfl⟩
end
