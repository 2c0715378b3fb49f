/-! ===== the reference: hours, what was, exactly ===== -/
def rFg (I J : qMI) : Prop := (∀ k, k ≠ 321 → k ≠ 322 → k ≠ 324 → k ≠ 292 → J k = I k) ∧ ∀ j, j ≠ 47 → J 292 j = I 292 j
theorem rFg_rf (I : qMI) : rFg I I := ⟨fun _ _ _ _ _ => rfl, fun _ _ => rfl⟩
theorem rFg_tr {I J K : qMI} (h : rFg I J) (g : rFg J K) : rFg I K := ⟨fun k a b c e => (g.1 k a b c e).trans (h.1 k a b c e), fun j a => (g.2 j a).trans (h.2 j a)⟩
theorem rFg_w {I J : qMI} (h : rW I J) : rFg I J := ⟨fun k a b _ c => h.1 k a b c, h.2⟩
theorem rFg_up {I : qMI} {i : Nat} {x : Int32} : rFg I (qUp I 324 i x) := ⟨fun k _ _ c _ => qUp_ro c, fun j _ => by rw [qUp_ro (by decide)]⟩
theorem rHas_g {v : Nat} {I J : qMI} {A : aD} (h : rFg I J) (g : rHas v I A) : rHas v J A := rHas_fr (fun x a b => h.1 x (by omega) (by omega) (by omega) (by omega)) (h.2 18 (by decide)) g
def rEq (I : qMI) (r : Nat) (f : Nat → Int32) : Prop := ∀ k, k < 97 → I r k = f k
theorem rEq_up {I : qMI} {r : Nat} {f : Nat → Int32} {k : Nat} {x : Int32} (h : rEq I r f) : rEq (qUp I r k x) r (tU f k x) := by
  intro j hj
  rw [qUp_row]
  unfold tU
  by_cases c : j = k
  · rw [if_pos c, if_pos c]
  · rw [if_neg c, if_neg c]; exact h j hj
theorem rEq_of {I J : qMI} {r : Nat} {f : Nat → Int32} (h : rEq I r f) (e : J r = I r) : rEq J r f := fun k hk => by rw [e]; exact h k hk
theorem rEq_w {I J : qMI} {f : Nat → Int32} (q : rW I J) (h : rEq I 324 f) : rEq J 324 f := rEq_of h (q.1 324 (by decide) (by decide) (by decide))
section
variable {l : Launch} {G : qG} {d : Nat} {I : qMI} {L : qML} {R : qMR} {v : Nat} {A : aD} {f : Nat → Int32}
theorem uLoan (hR : wkR R) (hL : rHas v I A) (hA : aOk A) (hf : fOk A f) (hs : rEq I 324 f) {x y : Int32} {a e : Nat} (ha : x.toInt = a) (he : y.toInt = e) (hE1 : a < A.2.1.length) (hE : e < A.1.length) (hl : ¬ f (24 + (6 * a + e)) = 0) {wd : Int32} : wkV l G (d + 7) n_X9_loanGoes [.ref 292, .int x, .int y, .int wd] I L R (fun I' L' => L' = L ∧ rFg I I' ∧ rEq I' 324 (sLn A (pHt A (f 96)) wd a e f)) := by
  have n6 := hA.1
  have hx := hA.2.1 e hE
  have hfa := hf.1 a (by omega)
  have hc := hf.2.1 a (by omega)
  have hle := hf.2.2.1 (6 * a + e) (by omega)
  have z6 : (6 : Int32).toInt = 6 := rfl
  have z24 : (24 : Int32).toInt = 24 := rfl
  have z60 : (60 : Int32).toInt = 60 := rfl
  have z12 : (12 : Int32).toInt = 12 := rfl
  have z18 : (18 : Int32).toInt = 18 := rfl
  have t96 : (96 : Int32).toNatClampNeg = 96 := rfl
  have m6 : (6 * x).toInt = 6 * a := by rw [i_mul (by rw [z6]; omega) (by rw [z6]; omega), ha]; rfl
  have la : (6 * x + y).toInt = 6 * a + e := by rw [i_add (by omega) (by omega), m6, he]
  have i24 : (24 + (6 * x + y)).toInt = 24 + (6 * a + e) := by rw [i_add (by omega) (by omega), la, z24]
  have i60 : (60 + (6 * x + y)).toInt = 60 + (6 * a + e) := by rw [i_add (by omega) (by omega), la, z60]
  have i6 : (6 + x).toInt = 6 + a := by rw [i_add (by omega) (by omega), ha, z6]
  have i12 : (12 + x).toInt = 12 + a := by rw [i_add (by omega) (by omega), ha, z12]
  have i18 : (18 + x).toInt = 18 + a := by rw [i_add (by omega) (by omega), ha, z18]
  have c24 : (24 + (6 * x + y)).toNatClampNeg = 24 + (6 * a + e) := by rw [tcn]; omega
  have c60 : (60 + (6 * x + y)).toNatClampNeg = 60 + (6 * a + e) := by rw [tcn]; omega
  have c6 : (6 + x).toNatClampNeg = 6 + a := by rw [tcn]; omega
  have c12 : (12 + x).toNatClampNeg = 12 + a := by rw [tcn]; omega
  have c18 : (18 + x).toNatClampNeg = 18 + a := by rw [tcn]; omega
  have cx : x.toNatClampNeg = a := by rw [tcn]; omega
  have vx : vp_in x 97 := vin (by omega) (by omega)
  have v96 : vp_in 96 97 := vin (by decide) (by decide)
  have v24 : vp_in (24 + (6 * x + y)) 97 := vin (by omega) (by omega)
  have v60 : vp_in (60 + (6 * x + y)) 97 := vin (by omega) (by omega)
  have v6 : vp_in (6 + x) 97 := vin (by omega) (by omega)
  have v12 : vp_in (12 + x) 97 := vin (by omega) (by omega)
  have v18 : vp_in (18 + x) 97 := vin (by omega) (by omega)
  have hv := hL.1.1
  have h18 := hL.1.2
  have tail : ∀ J : qMI, rW I J → ¬ (wd = 0 ∧ pSe A (f 96) (pHt A (f 96)) (f a) (tX A e) (tT A e)) → wkB l G (d + 6 + 1) n_X9_loanGoes (wkPV R (fun I' L' => L' = L ∧ rFg I I' ∧ rEq I' 324 (sLn A (pHt A (f 96)) wd a e f))) 116 [.ref 292, .int x, .int y, .int wd, .int (6 * x + y), .int (f 96), wkU] [] J L R := by
    intro J hJ hn
    have hsJ := rEq_w hJ hs
    have eu : J 324 (60 + (6 * a + e)) = f (60 + (6 * a + e)) := hsJ _ (by omega)
    have hs3 := rEq_up (k := 60 + (6 * a + e)) (x := f (60 + (6 * a + e)) + 1) hsJ
    have fr3 : rFg I (qUp J 324 (60 + (6 * a + e)) (f (60 + (6 * a + e)) + 1)) := rFg_tr (rFg_w hJ) rFg_up
    have hL3 := rHas_g fr3 hL
    have e18 : (qUp J 324 (60 + (6 * a + e)) (f (60 + (6 * a + e)) + 1)) 292 18 = I 292 18 := fr3.2 18 (by decide)
    have cl : (I 292 18).toNatClampNeg = v := by rw [tcn]; omega
    have eg : (qUp J 324 (60 + (6 * a + e)) (f (60 + (6 * a + e)) + 1)) 307 v = A.2.2.1 8 := rHas_s hL3 (j := 8) (by decide) (by decide)
    have es : (qUp J 324 (60 + (6 * a + e)) (f (60 + (6 * a + e)) + 1)) 324 (60 + (6 * a + e)) = f (60 + (6 * a + e)) + 1 := by rw [qUp_at, if_pos ⟨rfl, rfl⟩]
    refine w_X9_loanGoes_116 hR v60 v60 v60 (by rw [c60, eu, e18]; exact vin (by omega) (by omega)) (fun c => ?_) (fun c => ?_)
    all_goals rw [c60, eu, e18, cl, eg, es] at c
    all_goals rw [c60, eu]
    all_goals generalize qUp J 324 (60 + (6 * a + e)) (f (60 + (6 * a + e)) + 1) = J3 at hs3 fr3 hL3 ⊢
    · have c' : ¬ f (60 + (6 * a + e)) + 1 < A.2.2.1 8 := fun z => by have := i_lt.mp z; have := i_le.mp c; omega
      have hs4 := rEq_up (k := 60 + (6 * a + e)) (x := 0) (rEq_up (k := 24 + (6 * a + e)) (x := 0) hs3)
      have e12 : (qUp (qUp J3 324 (24 + (6 * a + e)) 0) 324 (60 + (6 * a + e)) 0) 324 (12 + a) = f (12 + a) := by
        rw [hs4 _ (by omega), tU_o (by omega), tU_o (by omega), tU_o (by omega)]
      refine w_X9_loanGoes_179 hR v24 v60 v12 v12 ⟨rfl, rfl, rfl, rfl, rFg_tr fr3 (rFg_tr rFg_up (rFg_tr rFg_up rFg_up)), ?_⟩
      rw [c24, c60, c12, e12]
      unfold sLn
      rw [if_neg hl, if_neg hn, if_neg c']
      exact rEq_up hs4
    · have c' : f (60 + (6 * a + e)) + 1 < A.2.2.1 8 := i_lt.mpr (by have := nle c; omega)
      have e24 : J3 324 (24 + (6 * a + e)) = f (24 + (6 * a + e)) := by rw [hs3 _ (by omega), tU_o (by omega)]
      refine w_X9_loanGoes_152 hR v24 (P := fun z I' L' => L' = L ∧ rW J3 I' ∧ z = wIn 0 (f (24 + (6 * a + e)) + f (24 + (6 * a + e)) * pIn A (f 96) (pHt A (f 96)) (f (24 + (6 * a + e))) / 100) 99999) (by rw [c24, e24]; exact uGrows (d := d + 1) hR hL3) (fun z I4 L4 hq => ?_)
      obtain ⟨rfl, q4, rfl⟩ := hq
      refine w_X9_loanGoes_177 v24 ⟨rfl, rfl, rfl, rfl, rFg_tr fr3 (rFg_tr (rFg_w q4) rFg_up), ?_⟩
      have gb := grow_b (A := A) (h := f 96) (w := pHt A (f 96)) hle.1 hle.2
      rw [c24, mnIn (by omega)]
      unfold sLn
      rw [if_neg hl, if_neg hn, if_pos c']
      exact rEq_up (rEq_w q4 hs3)
  have eh : I 324 (96 : Int32).toNatClampNeg = f 96 := by rw [t96]; exact hs 96 (by decide)
  refine wkC_of 3 (by decide) (Nat.le_of_ble_eq_true rfl) (w_X9_loanGoes_0 hR v96 (fun c => ?_) (fun c => ?_))
  · rw [eh]
    exact tail I (rW_rf I) (fun z => c z.1)
  rw [eh]
  refine w_X9_loanGoes_21 hR vx (P := fun z I' L' => L' = L ∧ rW I I' ∧ z = if pSe A (f 96) (pHt A (f 96)) (f a) (tX A e) (tT A e) then 1 else 0) (by rw [cx, hs a (by omega)]; exact uSees (d := d) hR hL hfa he hE hx) (fun z I2 L2 hq => ?_)
  obtain ⟨rfl, q2, rfl⟩ := hq
  refine w_X9_loanGoes_34 (fun z => tail I2 q2 (fun s => if1.1 z s.2)) (fun z => ?_)
  have hse := if1.2 z
  have hs2 := rEq_w q2 hs
  refine w_X9_loanGoes_37 hR vx v24 (P := fun z I' L' => L' = L2 ∧ rW I2 I' ∧ z = pRt A (f 96) (pHt A (f 96)) (f a) (tX A e) (tT A e) (f (24 + (6 * a + e)))) (by rw [cx, c24, hs2 a (by omega), hs2 (24 + (6 * a + e)) (by omega)]; exact uRent (d := d + 1) hR (rHas_q q2 hL) hfa he hE hx) (fun z I3 L3 hq => ?_)
  obtain ⟨rfl, q3, rfl⟩ := hq
  have hs3 := rEq_w q3 hs2
  have rb := pRt_b (A := A) (h := f 96) (w := pHt A (f 96)) (x := f a) (tx := tX A e) (tl := tT A e) (n := f (24 + (6 * a + e)))
  have s6 : (f (6 + a) + pRt A (f 96) (pHt A (f 96)) (f a) (tX A e) (tT A e) (f (24 + (6 * a + e)))).toInt = (f (6 + a)).toInt + (pRt A (f 96) (pHt A (f 96)) (f a) (tX A e) (tT A e) (f (24 + (6 * a + e)))).toInt := i_add (by omega) (by omega)
  refine w_X9_loanGoes_60 hR v6 (P := fun z I' L' => L' = L3 ∧ I' = I3 ∧ z = if f (6 + a) + pRt A (f 96) (pHt A (f 96)) (f a) (tX A e) (tT A e) (f (24 + (6 * a + e))) < 99999 then f (6 + a) + pRt A (f 96) (pHt A (f 96)) (f a) (tX A e) (tT A e) (f (24 + (6 * a + e))) else 99999) (by rw [c6, hs3 (6 + a) (by omega), ← mnIn (by omega)]; exact uHeld (d := d + 5) (by decide)) (fun z I4 L4 hq => ?_)
  obtain ⟨rfl, rfl, rfl⟩ := hq
  have hs5 := rEq_up (k := 6 + a) (x := if f (6 + a) + pRt A (f 96) (pHt A (f 96)) (f a) (tX A e) (tT A e) (f (24 + (6 * a + e))) < 99999 then f (6 + a) + pRt A (f 96) (pHt A (f 96)) (f a) (tX A e) (tT A e) (f (24 + (6 * a + e))) else 99999) hs3
  have e18 := hs5 (18 + a) (by omega)
  rw [tU_o (by omega)] at e18
  refine w_X9_loanGoes_89 hR v6 v18 v18 v60 ⟨rfl, rfl, rfl, rfl, rFg_tr (rFg_w (rW_tr q2 q3)) (rFg_tr rFg_up (rFg_tr rFg_up rFg_up)), ?_⟩
  rw [c6, c18, c60, e18]
  unfold sLn
  rw [if_neg hl, if_pos (And.intro c hse)]
  exact rEq_up (rEq_up hs5)
theorem uMixed {x y : Int32} : wkI l G (d + 1) n_X9_mixed [.int x, .int y] I L R (fun z I' L' => L' = L ∧ I' = I ∧ z = stP x y) :=
  wkC_of 1 (by decide) (Nat.le_of_ble_eq_true rfl) (w_X9_mixed_0 ⟨rfl, rfl, _, rfl, rfl, rfl, rfl⟩)
theorem uWind (hR : wkR R) (hL : rHas v I A) {h : Int32} (hh : I 324 96 = h) : wkI l G (d + 2) n_X9_isWind [.ref 292] I L R (fun z I' L' => L' = L ∧ I' = I ∧ z = wdP (I 292 50) (A.2.2.1 9) h) := by
  have hv := hL.1.1
  have h18 := hL.1.2
  have cl : (I 292 18).toNatClampNeg = v := by rw [tcn]; omega
  refine wkC_of 0 (by decide) (Nat.le_of_ble_eq_true rfl) (w_X9_isWind_0 (uMixed (d := d)) (fun z I1 L1 hq => ?_))
  obtain ⟨rfl, rfl, rfl⟩ := hq
  refine w_X9_isWind_9 hR (vin (by decide) (by decide)) (uMixed (d := d)) (fun z I2 L2 hq => ?_)
  obtain ⟨rfl, rfl, rfl⟩ := hq
  rw [show (96 : Int32).toNatClampNeg = 96 from rfl, hh]
  have e9 : I2 308 v = A.2.2.1 9 := rHas_s hL (j := 9) (by decide) (by decide)
  refine w_X9_isWind_21 hR (vin (by omega) (by omega)) (fun q => w_X9_isWind_42 (w_X9_isWind_43 ⟨rfl, rfl, _, rfl, rfl, rfl, ?_⟩ (Or.inl rfl))) (fun q => w_X9_isWind_38 (w_X9_isWind_43 ⟨rfl, rfl, _, rfl, rfl, rfl, ?_⟩ (Or.inr rfl)))
  · rw [cl, e9] at q
    unfold wdP loP
    rw [if_pos q]
  · rw [cl, e9] at q
    unfold wdP loP
    rw [if_neg q]
theorem uTh (hR : wkR R) (hL : rHas v I A) (hA : aOk A) {Q : qQ} {wd x w : Int32} {a : Nat} (ha : x.toInt = a) (hE1 : a < A.2.1.length) : ∀ (n e : Nat) (y : Int32) (J : qMI) (g : Nat → Int32), e + n = A.1.length → y.toInt = e → rFg I J → rEq J 324 g → fOk A g → w = pHt A (g 96) → (∀ (y' : Int32) (J' : qMI), rFg I J' → rEq J' 324 (sTh A w wd a n e g) → wkB l G (d + 7 + 1) n_X9_hourGoes Q 65 [.ref 292, .int wd, .int x, .int y'] [] J' L R) → wkB l G (d + 7 + 1) n_X9_hourGoes Q 22 [.ref 292, .int wd, .int x, .int y] [] J L R := by
  have n6 := hA.1
  have hv := hL.1.1
  have h18 := hL.1.2
  intro n
  induction n with
  | zero =>
    intro e y J g hn hy hJ hs hf hw k
    have hLJ := rHas_g hJ hL
    have h18' := hLJ.1.2
    have cl : (J 292 18).toNatClampNeg = v := by rw [tcn]; omega
    have hn2 := (rHas_n hLJ).1.1
    exact w_X9_hourGoes_22 hR (vin (by omega) (by omega)) (fun _ => k y J hJ hs) (fun q => absurd (i_le.mpr (by rw [cl]; omega)) q)
  | succ n ih =>
    intro e y J g hn hy hJ hs hf hw k
    have hLJ := rHas_g hJ hL
    have h18' := hLJ.1.2
    have cl : (J 292 18).toNatClampNeg = v := by rw [tcn]; omega
    have hn2 := (rHas_n hLJ).1.1
    have z6 : (6 : Int32).toInt = 6 := rfl
    have z24 : (24 : Int32).toInt = 24 := rfl
    have m6 : (6 * x).toInt = 6 * a := by rw [i_mul (by rw [z6]; omega) (by rw [z6]; omega), ha]; rfl
    have i24 : (24 + 6 * x).toInt = 24 + 6 * a := by rw [i_add (by omega) (by omega), m6, z24]
    have i2 : (24 + 6 * x + y).toInt = 24 + (6 * a + e) := by rw [i_add (by omega) (by omega), i24, hy]; omega
    have c2 : (24 + 6 * x + y).toNatClampNeg = 24 + (6 * a + e) := by rw [tcn]; omega
    have el : J 324 (24 + (6 * a + e)) = g (24 + (6 * a + e)) := hs _ (by omega)
    have sy : (y + 1).toInt = (e + 1 : Nat) := by rw [i_s (by omega)]; omega
    have ge := hf.2.2.1 (6 * a + e) (by omega)
    refine w_X9_hourGoes_22 hR (vin (by omega) (by omega)) (fun q => absurd (i_le.mp q) (by rw [cl]; omega)) (fun _ => w_X9_hourGoes_35 hR (vin (by omega) (by omega)) (fun q => ?_) (fun q => ?_))
    · rw [c2, el] at q
      have q := i_le.mp q
      rw [show (0 : Int32).toInt = 0 from rfl] at q
      have e0 : g (24 + (6 * a + e)) = 0 := i_eq.mpr (by rw [show (0 : Int32).toInt = 0 from rfl]; omega)
      have es : sLn A w wd a e g = g := by
        unfold sLn
        rw [if_pos e0]
      refine w_X9_hourGoes_59 (ih (e + 1) _ J g (by omega) sy hJ hs hf hw (fun y' J' f1 s1 => k y' J' f1 ?_))
      rw [sTh, es]
      exact s1
    · rw [c2, el] at q
      have q := nle q
      rw [show (0 : Int32).toInt = 0 from rfl] at q
      have e0 : ¬ g (24 + (6 * a + e)) = 0 := fun z => by rw [z] at q; exact q (by decide)
      refine w_X9_hourGoes_52 (uLoan (d := d) hR hLJ hA hf hs ha hy hE1 (by omega) e0) (fun I1 L1 hq => ?_)
      obtain ⟨rfl, f1, s1⟩ := hq
      rw [← hw] at s1
      exact w_X9_hourGoes_59 (ih (e + 1) _ I1 _ (by omega) sy (rFg_tr hJ f1) s1 (fOk_ln hE1 (by omega) (by omega) (by omega) hf) (by rw [sLn_96 A w wd (by omega) (by omega)]; exact hw) k)
theorem uSe (hR : wkR R) (hL : rHas v I A) (hA : aOk A) {Q : qQ} {wd w : Int32} : ∀ (n a : Nat) (x : Int32) (J : qMI) (g : Nat → Int32), a + n = A.2.1.length → x.toInt = a → rFg I J → rEq J 324 g → fOk A g → w = pHt A (g 96) → (∀ (x' : Int32) (J' : qMI), rFg I J' → rEq J' 324 (sSt A w wd n a g) → wkB l G (d + 7 + 1) n_X9_hourGoes Q 71 [.ref 292, .int wd, .int x', wkU] [] J' L R) → wkB l G (d + 7 + 1) n_X9_hourGoes Q 7 [.ref 292, .int wd, .int x, wkU] [] J L R := by
  have n6 := hA.1
  have hv := hL.1.1
  intro n
  induction n with
  | zero =>
    intro a x J g hn hx hJ hs hf hw k
    have hLJ := rHas_g hJ hL
    have h18' := hLJ.1.2
    have cl : (J 292 18).toNatClampNeg = v := by rw [tcn]; omega
    have hn2 := (rHas_n hLJ).2.1
    exact w_X9_hourGoes_7 hR (vin (by omega) (by omega)) (fun _ => k x J hJ hs) (fun q => absurd (i_le.mpr (by rw [cl]; omega)) q)
  | succ n ih =>
    intro a x J g hn hx hJ hs hf hw k
    have hLJ := rHas_g hJ hL
    have h18' := hLJ.1.2
    have cl : (J 292 18).toNatClampNeg = v := by rw [tcn]; omega
    have hn2 := (rHas_n hLJ).2.1
    refine w_X9_hourGoes_7 hR (vin (by omega) (by omega)) (fun q => absurd (i_le.mp q) (by rw [cl]; omega)) (fun _ => w_X9_hourGoes_20 (uTh (d := d) hR hL hA hx (by omega) A.1.length 0 0 J g (by omega) rfl hJ hs hf hw (fun y' J' f1 s1 => ?_)))
    exact w_X9_hourGoes_65 (ih (a + 1) _ J' _ (by omega) (by rw [i_s (by omega)]; omega) f1 s1 (fOk_th hA (by omega) _ 0 _ (by omega) hf) (by rw [sTh_96 A w wd (by omega) _ 0 _ (by omega)]; exact hw) k)
theorem uHour (hR : wkR R) (hL : rHas v I A) (hA : aOk A) (hf : fOk A f) (hs : rEq I 324 f) {s : Int32} (hS : I 292 50 = s) : wkV l G (d + 8) n_X9_hourGoes [.ref 292] I L R (fun I' L' => L' = L ∧ rFg I I' ∧ rEq I' 324 (sHr A s (A.2.2.1 9) f)) := by
  have t96 : (96 : Int32).toNatClampNeg = 96 := rfl
  refine wkC_of 3 (by decide) (Nat.le_of_ble_eq_true rfl) (w_X9_hourGoes_0 (uWind (d := d + 5) hR hL (hs 96 (by decide))) (fun z I1 L1 hq => ?_))
  obtain ⟨rfl, rfl, rfl⟩ := hq
  rw [hS]
  refine w_X9_hourGoes_4 (uSe (d := d) hR hL hA (w := pHt A (f 96)) A.2.1.length 0 0 I1 f (by omega) rfl (rFg_rf I1) hs hf rfl (fun x' J' f1 s1 => ?_))
  refine w_X9_hourGoes_71 hR (vin (by decide) (by decide)) (vin (by decide) (by decide)) ⟨rfl, rfl, rfl, rfl, rFg_tr f1 rFg_up, ?_⟩
  rw [t96, s1 96 (by decide)]
  exact rEq_up s1
theorem uGoes (hR : wkR R) (hL : rHas v I A) (hA : aOk A) (hf : fOk A f) (hs : rEq I 324 f) {s x : Int32} {n : Nat} (hS : I 292 50 = s) (hx : x.toInt = n) : wkV l G (d + 9) n_X9_goes [.ref 292, .int x] I L R (fun I' L' => L' = L ∧ rFg I I' ∧ rEq I' 324 (sGo A s (A.2.2.1 9) n f)) := by
  have loop : ∀ (m i : Nat) (y : Int32) (J : qMI) (g : Nat → Int32), i + m = n → y.toInt = i → rFg I J → rEq J 324 g → fOk A g → sGo A s (A.2.2.1 9) m g = sGo A s (A.2.2.1 9) n f → wkB l G (d + 8 + 1) n_X9_goes (wkPV R (fun I' L' => L' = L ∧ rFg I I' ∧ rEq I' 324 (sGo A s (A.2.2.1 9) n f))) 2 [.ref 292, .int x, .int y] [] J L R := by
    intro m
    induction m with
    | zero =>
      intro i y J g hm hy hJ hsJ hg e
      rw [sGo] at e
      exact w_X9_goes_2 (fun _ => w_X9_goes_17 ⟨rfl, rfl, rfl, rfl, hJ, by rw [← e]; exact hsJ⟩) (fun q => absurd (i_le.mpr (by omega)) q)
    | succ m ih =>
      intro i y J g hm hy hJ hsJ hg e
      refine w_X9_goes_2 (fun q => absurd (i_le.mp q) (by omega)) (fun _ => w_X9_goes_7 (uHour (d := d) hR (rHas_g hJ hL) hA hg hsJ (s := s) (by rw [hJ.2 50 (by decide)]; exact hS)) (fun I1 L1 hq => ?_))
      obtain ⟨rfl, f1, s1⟩ := hq
      exact w_X9_goes_11 (ih (i + 1) _ I1 _ (by omega) (by have := i_hi x; rw [i_s (by omega)]; omega) (rFg_tr hJ f1) s1 (fOk_hr hA hg) (by rw [sGo] at e; exact e))
  exact wkC_of 1 (by decide) (Nat.le_of_ble_eq_true rfl) (w_X9_goes_0 (loop n 0 0 I f (by omega) rfl (rFg_rf I) hs hf rfl))
end
