/-! ===== the class: an hour goes by, exactly ===== -/
def cSt (R : qMR) (b : Nat) : Prop := ∀ j, 1 ≤ j → j ≤ 6 → R b j = some (b + j)
/-- only the state b and the laws' variables and pile are touched -/
def sFr (o b : Nat) (I J : qMI) : Prop := ∀ k, (k < b ∨ b + 6 < k) → k ≠ o + 10 → k ≠ o + 11 → J k = I k
theorem sFr_rf (o b : Nat) (I : qMI) : sFr o b I I := fun _ _ _ _ => rfl
theorem sFr_tr {o b : Nat} {I J K : qMI} (h : sFr o b I J) (g : sFr o b J K) : sFr o b I K := fun k a p q => (g k a p q).trans (h k a p q)
theorem sFr_q {o b : Nat} {I J : qMI} (h : cQ o I J) : sFr o b I J := fun k _ p q => h k p q
theorem sFr_up {o b : Nat} {I : qMI} {j i : Nat} {x : Int32} (hj : j ≤ 6) : sFr o b I (qUp I (b + j) i x) := fun k a _ _ => qUp_ro (by omega)
theorem bOk {b : Nat} (hb : b ∈ bL) : (21 ≤ b ∧ b + 6 < 247) ∨ (271 ≤ b ∧ b + 6 < 292) := by
  have all : ∀ x ∈ bL, (21 ≤ x ∧ x + 6 < 247) ∨ (271 ≤ x ∧ x + 6 < 292) := by decide +kernel
  exact all b hb
theorem cHas_f {o b : Nat} {I J : qMI} {R : qMR} {A : aD} (hb : b ∈ bL) (h : sFr o b I J) (g : cHas o I R A) : cHas o J R A := by
  have hbo := bOk hb
  have ho := g.1
  exact cHas_fr (fun k p q => h k (by omega) (by omega) (by omega)) g
theorem sEq_q {o b : Nat} {I J : qMI} {f : Nat → Int32} (ho : o = 9 ∨ o = 259) (hb : b ∈ bL) (h : cQ o I J) (g : sEq I b f) : sEq J b f := by
  have hbo := bOk hb
  exact sEq_of g (fun k p q => h k (by omega) (by omega))
section
variable {l : Launch} {G : qG} {d : Nat} {I : qMI} {L : qML} {R : qMR} {o b : Nat} {A : aD} {f : Nat → Int32}
theorem sLoanOf {x y : Int32} : wkCi l G (d + 1) n_X8_loanOf [.int x, .int y] I L R (fun z I' L' R' => R' = R ∧ L' = L ∧ I' = I ∧ z = x * 6 + y) :=
  wkC_of 0 (by decide) (Nat.le_of_ble_eq_true rfl) (w_X8_loanOf_0 ⟨rfl, _, rfl, rfl, rfl, rfl, rfl⟩)
theorem loan_t {x y : Int32} {a e : Nat} (ha : x.toInt = a) (he : y.toInt = e) (ha6 : a < 6) (he6 : e < 6) : (x * 6 + y).toInt = 6 * a + e := by
  have m : (x * 6).toInt = x.toInt * 6 := i_mul (by rw [show (6 : Int32).toInt = 6 from rfl]; omega) (by rw [show (6 : Int32).toInt = 6 from rfl]; omega)
  rw [i_add (by omega) (by omega), m]
  omega
theorem sEnd (hB : cSt R b) (hb : b ∈ bL) {x : Int32} {n : Nat} (hx : x.toInt = n) (hn : n < 36) : wkCv l G (d + 1) n_X4_end [.ref b, .int x] I L R (fun I' L' R' => R' = R ∧ L' = L ∧ I' = qUp (qUp I (b + 5) n 0) (b + 6) n 0) := by
  have e : x.toNatClampNeg = n := by rw [tcn]; omega
  refine wkC_of 0 (by decide) (Nat.le_of_ble_eq_true rfl) (w_X4_end_0 hb (hB 5 (by decide) (by decide)) (vin (by omega) (by omega)) (hB 6 (by decide) (by decide)) (vin (by omega) (by omega)) ?_)
  rw [e]
  exact ⟨rfl, rfl, rfl, rfl, rfl⟩
theorem sPassLoan (hL : cHas o I R A) (hB : cSt R b) (hb : b ∈ bL) (hs : sEq I b f) {x y : Int32} {a e : Nat} (ha : x.toInt = a) (he : y.toInt = e) (hA : a < A.2.1.length) (hE : e < A.1.length) {w wd : Int32} : wkCv l G (d + 4) n_X0_passLoan [.ref o, .ref b, .int x, .int y, .int w, .int wd] I L R (fun I' L' R' => R' = R ∧ L' = L ∧ sFr o b I I' ∧ sEq I' b (sLn A w wd a e f)) := by
  have ho := hL.1
  have hbo := bOk hb
  obtain ⟨⟨-, hn1⟩, -, hn2⟩ := cHas_n hL
  obtain ⟨hF1, hF2, hF3, -, -⟩ := hL.2.2.1
  have la := loan_t ha he (by omega) (by omega)
  have ca : (x * 6 + y).toNatClampNeg = 6 * a + e := by rw [tcn]; omega
  have cx : x.toNatClampNeg = a := by rw [tcn]; omega
  have cy : y.toNatClampNeg = e := by rw [tcn]; omega
  have v36 : vp_in (x * 6 + y) 36 := vin (by omega) (by omega)
  have vx : vp_in x 6 := vin (by omega) (by omega)
  have vy : vp_in y 6 := vin (by omega) (by omega)
  have elent : I (b + 5) (6 * a + e) = f (24 + (6 * a + e)) := sEq_at hs (by omega) (sI5 (by omega))
  refine wkC_of 3 (by decide) (Nat.le_of_ble_eq_true rfl) (w_X0_passLoan_0 ho hb (sLoanOf (d := d + 2)) (fun z I1 L1 R1 hq => ?_))
  obtain ⟨rfl, rfl, rfl, rfl⟩ := hq
  refine w_X0_passLoan_5 ho hb (hB 5 (by decide) (by decide)) v36 (fun q => ?_) (fun q => w_X0_passLoan_21 ho hb ⟨rfl, rfl, rfl, rfl, sFr_rf o b I1, by rw [ca, elent] at q; unfold sLn; rw [if_pos q]; exact hs⟩)
  rw [ca, elent] at q ⊢
  refine w_X0_passLoan_22 ho hb hF1 (hB 1 (by decide) (by decide)) vx hF2 vy hF3 vy (sAim (d := d + 2) ho hL.2.1.2.1) (fun I2 L2 R2 hq => ?_)
  obtain ⟨rfl, rfl, f2, v2⟩ := hq
  rw [cx, cy, show I1 (b + 1) a = f a from sEq_at hs (by omega) (sI1 (by omega)), show I1 b 0 = f 96 from sEq_at hs (by omega) sI0, (cHas_x hL hE).1, (cHas_x hL hE).2] at v2
  have q2 := cV_q f2
  have hL2 := cHas_q q2 hL
  have hs2 := sEq_q ho hb q2 hs
  have tail : ∀ J : qMI, cQ o I1 J → ¬ (wd = 0 ∧ pSe A (f 96) w (f a) (tX A e) (tT A e)) → wkB l G (d + 3 + 1) n_X0_passLoan (fun r t I' L' R' => t = 336 ∧ r = none ∧ R' = R2 ∧ L' = L2 ∧ sFr o b I1 I' ∧ sEq I' b (sLn A w wd a e f)) 119 [.ref o, .ref b, .int x, .int y, .int w, .int wd, .int (x * 6 + y), .int (f (24 + (6 * a + e))), wkU] [] J L2 R2 := by
    intro J hJ hn
    have hsJ := sEq_q ho hb hJ hs
    have hLJ := cHas_q hJ hL
    have eu : J (b + 6) (6 * a + e) = f (60 + (6 * a + e)) := sEq_at hsJ (by omega) (sI6 (by omega))
    refine w_X0_passLoan_119 ho hb (hB 6 (by decide) (by decide)) v36 v36 (hB 6 (by decide) (by decide)) v36 (fun c => ?_) (fun c => ?_)
    all_goals rw [ca, eu, qUp_at, if_pos ⟨rfl, rfl⟩, show (qUp J (b + 6) (6 * a + e) (f (60 + (6 * a + e)) + 1)) o 8 = A.2.2.1 8 from by rw [qUp_ro (by omega)]; exact hLJ.2.2.2.2.1.2.2.1 8 (by decide) (by decide)] at c
    all_goals rw [ca, eu]
    all_goals
      have hs3 := sEq_up (x := f (60 + (6 * a + e)) + 1) hsJ (k := 60 + (6 * a + e)) (by omega) (sI6 (by omega))
      have fr3 : sFr o b I1 (qUp J (b + 6) (6 * a + e) (f (60 + (6 * a + e)) + 1)) := sFr_tr (sFr_q hJ) (sFr_up (by decide))
      have hL3 := cHas_f hb fr3 hL
      generalize qUp J (b + 6) (6 * a + e) (f (60 + (6 * a + e)) + 1) = J3 at hs3 fr3 hL3 ⊢
    · refine w_X0_passLoan_163 ho hb (hB 5 (by decide) (by decide)) hF1 (sInt2 (d := d) hL3) (fun z I4 L4 R4 hq => ?_)
      obtain ⟨rfl, rfl, f4, rfl⟩ := hq
      have hs4 := sEq_q ho hb f4 hs3
      refine w_X0_passLoan_190 ho hb v36 (w_X0_passLoan_199 ho hb ⟨rfl, rfl, rfl, rfl, sFr_tr fr3 (sFr_tr (sFr_q f4) (sFr_up (by decide))), ?_⟩)
      rw [ca, show J3 b 0 = f 96 from (sEq_at hs3 (by omega) sI0).trans (tU_o (by omega))]
      unfold sLn
      rw [if_neg q, if_neg hn, if_pos c]
      exact sEq_up hs4 (by omega) (sI5 (by omega))
    · refine w_X0_passLoan_144 ho hb (sEnd (d := d + 2) (n := 6 * a + e) hB hb (by omega) (by omega)) (fun I4 L4 R4 hq => ?_)
      obtain ⟨rfl, rfl, rfl⟩ := hq
      have hs4 := sEq_up (x := 0) (sEq_up (x := 0) hs3 (k := 24 + (6 * a + e)) (by omega) (sI5 (by omega))) (k := 60 + (6 * a + e)) (by omega) (sI6 (by omega))
      have eg : (qUp (qUp J3 (b + 5) (6 * a + e) 0) (b + 6) (6 * a + e) 0) (b + 3) a = f (12 + a) := by
        rw [sEq_at hs4 (k := 12 + a) (by omega) (sI3 (by omega)), tU_o (by omega), tU_o (by omega), tU_o (by omega)]
      refine w_X0_passLoan_150 ho hb (hB 3 (by decide) (by decide)) vx vx (w_X0_passLoan_199 ho hb ⟨rfl, rfl, rfl, rfl, sFr_tr fr3 (sFr_tr (sFr_up (by decide)) (sFr_tr (sFr_up (by decide)) (sFr_up (by decide)))), ?_⟩)
      rw [cx, eg]
      unfold sLn
      rw [if_neg q, if_neg hn, if_neg c]
      exact sEq_up hs4 (by omega) (sI3 (by omega))
  refine w_X0_passLoan_53 ho hb (fun c => tail I2 q2 (fun z => c z.1)) (fun c => ?_)
  refine w_X0_passLoan_58 ho hb hF1 (sSeen2 (d := d) hL2 v2) (fun z I3 L3 R3 hq => ?_)
  obtain ⟨rfl, rfl, f3, rfl⟩ := hq
  have q3 := cQ_tr q2 (cRk_q f3)
  refine w_X0_passLoan_65 ho hb (fun z => tail I3 q3 (fun s => ?_)) (fun z => ?_)
  · rw [if_pos s.2] at z
    exact absurd z (by decide)
  have hse : pSe A (f 96) w (f a) (tX A e) (tT A e) := Decidable.byContradiction fun s => by
    rw [if_neg s] at z
    exact z rfl
  refine w_X0_passLoan_68 ho hb hF1 (sRent2 (d := d) (cHas_q q3 hL) (cVr_rk f3 v2)) (fun z I4 L4 R4 hq => ?_)
  obtain ⟨rfl, rfl, f4, rfl⟩ := hq
  have q4 := cQ_tr q3 f4
  have hs4 := sEq_q ho hb q4 hs
  have ec : I4 (b + 2) a = f (6 + a) := sEq_at hs4 (by omega) (sI2 (by omega))
  refine w_X0_passLoan_77 ho hb (hB 2 (by decide) (by decide)) (hB 2 (by decide) (by decide)) vx vx (hB 4 (by decide) (by decide)) vx vx (hB 6 (by decide) (by decide)) v36 ⟨rfl, rfl, rfl, rfl, sFr_tr (sFr_q q4) (sFr_tr (sFr_up (by decide)) (sFr_tr (sFr_up (by decide)) (sFr_up (by decide)))), ?_⟩
  rw [cx, ca, ec]
  have hs5 := sEq_up (x := if f (6 + a) + pRt A (f 96) w (f a) (tX A e) (tT A e) (f (24 + (6 * a + e))) < 99999 then f (6 + a) + pRt A (f 96) w (f a) (tX A e) (tT A e) (f (24 + (6 * a + e))) else 99999) hs4 (k := 6 + a) (by omega) (sI2 (by omega))
  have er := sEq_at hs5 (k := 18 + a) (by omega) (sI4 (by omega))
  rw [tU_o (by omega)] at er
  unfold sLn
  rw [if_neg q, if_pos (And.intro c hse)]
  have hs6 := sEq_up (x := f (18 + a) + pRt A (f 96) w (f a) (tX A e) (tT A e) (f (24 + (6 * a + e)))) hs5 (k := 18 + a) (by omega) (sI4 (by omega))
  have hs7 := sEq_up (x := 0) hs6 (k := 60 + (6 * a + e)) (by omega) (sI6 (by omega))
  rw [← er] at hs7 ⊢
  exact hs7
end
