/-! ===== worth: one loan alone, no winds ===== -/
theorem lo0 (s w : Int32) : 0 ≤ (loP s w).toInt := by
  have q : ∀ u : Int32, 0 ≤ ((u.toUInt32 >>> ((1 : Int32).toUInt32 &&& Int32.toUInt32 31)).toInt32).toInt := fun u => by
    have e1 : ((1 : Int32).toUInt32 &&& Int32.toUInt32 31) = 1 := by decide
    rw [e1]
    have e2 : (u.toUInt32 >>> 1).toNat = u.toUInt32.toNat / 2 := by
      rw [UInt32.toNat_shiftRight]
      rfl
    have e3 := u.toUInt32.toNat_lt
    have e4 : (u.toUInt32 >>> 1).toInt32.toInt = ((u.toUInt32 >>> 1).toNat : Int) := by
      show (u.toUInt32 >>> 1).toBitVec.toInt = _
      exact BitVec.toInt_eq_toNat_of_lt (by show 2 * (u.toUInt32 >>> 1).toNat < 2 ^ 32; omega)
    rw [e4]
    omega
  unfold loP
  generalize stP (stP s 119) w = u
  have q0 := q u
  generalize (u.toUInt32 >>> ((1 : Int32).toUInt32 &&& Int32.toUInt32 31)).toInt32 = x at q0 ⊢
  have e1 := i_quo q0
  have z100 : (100 : Int32).toInt = 100 := rfl
  have hi := i_hi x
  have e2 : (x / 100 * 100).toInt = x.toInt / 100 * 100 := by rw [i_mul (by rw [e1, z100]; omega) (by rw [e1, z100]; omega), e1, z100]
  rw [i_sub (by omega) (by omega), e2]
  omega
theorem wd0 (s h : Int32) : wdP s 0 h = 0 := by
  unfold wdP
  rw [if_pos (i_le.mpr (by rw [show (0 : Int32).toInt = 0 from rfl]; exact lo0 _ _))]
/-- all loans but one are none -/
def zO (a e : Nat) (g : Nat → Int32) : Prop := ∀ b c, b < 6 → c < 6 → ¬ (b = a ∧ c = e) → g (24 + (6 * b + c)) = 0
theorem ln_z {A : aD} {w wd : Int32} {b c : Nat} {g : Nat → Int32} (h : g (24 + (6 * b + c)) = 0) : sLn A w wd b c g = g := by
  unfold sLn
  rw [if_pos h]
theorem th_z {A : aD} {w wd : Int32} {b : Nat} : ∀ (n c : Nat) (g : Nat → Int32), (∀ j, c ≤ j → j < c + n → g (24 + (6 * b + j)) = 0) → sTh A w wd b n c g = g
  | 0, _, _, _ => rfl
  | n + 1, c, g, h => by
    rw [sTh, ln_z (h c (by omega) (by omega)), th_z n (c + 1) g (fun j p q => h j (by omega) (by omega))]
theorem zO_ln {A : aD} {w wd : Int32} {a e : Nat} (ha : a < 6) (he : e < 6) {g : Nat → Int32} (h : zO a e g) : zO a e (sLn A w wd a e g) := fun b c hb hc hne => by
  rw [(prL_o (a := b) (e := c) hb hc ha he (fun z => hne ⟨z.1.symm, z.2.symm⟩) g).2.2.1]
  exact h b c hb hc hne
theorem th_1 {A : aD} {w wd : Int32} {a e : Nat} (ha : a < 6) (he : e < 6) : ∀ (n c : Nat) (g : Nat → Int32), c + n ≤ 6 → c ≤ e → e < c + n → zO a e g → sTh A w wd a n c g = sLn A w wd a e g
  | 0, c, _, _, h1, h2, _ => by omega
  | n + 1, c, g, hn, h1, h2, h => by
    rw [sTh]
    by_cases q : c = e
    · subst q
      exact th_z n (c + 1) _ (fun j p r => zO_ln ha he h a j ha (by omega) (by omega))
    · rw [ln_z (h a c ha (by omega) (by omega))]
      exact th_1 ha he n (c + 1) g (by omega) (by omega) (by omega) h
theorem st_z {A : aD} {w wd : Int32} (hA : A.1.length ≤ 6) : ∀ (n b : Nat) (g : Nat → Int32), b + n ≤ 6 → (∀ j c, b ≤ j → j < b + n → c < 6 → g (24 + (6 * j + c)) = 0) → sSt A w wd n b g = g
  | 0, _, _, _, _ => rfl
  | n + 1, b, g, hn, h => by
    rw [sSt, th_z A.1.length 0 g (fun j _ q => h b j (by omega) (by omega) (by omega)), st_z hA n (b + 1) g (by omega) (fun j c p q r => h j c (by omega) (by omega) r)]
theorem st_1 {A : aD} {w wd : Int32} {a e : Nat} (ha : a < 6) (he : e < A.1.length) (hA : A.1.length ≤ 6) : ∀ (n b : Nat) (g : Nat → Int32), b + n ≤ 6 → b ≤ a → a < b + n → zO a e g → sSt A w wd n b g = sLn A w wd a e g
  | 0, b, _, _, h1, h2, _ => by omega
  | n + 1, b, g, hn, h1, h2, h => by
    rw [sSt]
    by_cases q : b = a
    · subst q
      rw [th_1 ha (by omega) A.1.length 0 g (by omega) (by omega) (by omega) h]
      exact st_z hA n (b + 1) _ (by omega) (fun j c p r s => zO_ln ha (by omega) h j c (by omega) s (by omega))
    · rw [th_z A.1.length 0 g (fun j _ r => h b j (by omega) (by omega) (by omega))]
      exact st_1 ha he hA n (b + 1) g (by omega) (by omega) (by omega) h
/-- an hour without wind, one loan alone -/
theorem hr_1 {A : aD} {a e : Nat} (ha : a < A.2.1.length) (he : e < A.1.length) (hA : A.1.length ≤ 6 ∧ A.2.1.length ≤ 6) {g : Nat → Int32} (h : zO a e g) : sHr A 0 0 g = tU (sLn A (pHt A (g 96)) 0 a e g) 96 (g 96 + 1) := by
  unfold sHr
  rw [wd0, st_1 (by omega) he hA.1 A.2.1.length 0 g (by omega) (by omega) (by omega) h, sLn_96 A _ _ (by omega) (by omega)]
theorem zO_hr {A : aD} {a e : Nat} (ha : a < A.2.1.length) (he : e < A.1.length) (hA : A.1.length ≤ 6 ∧ A.2.1.length ≤ 6) {g : Nat → Int32} (h : zO a e g) : zO a e (sHr A 0 0 g) := fun b c hb hc hne => by
  rw [hr_1 ha he hA h, tU_o (by omega)]
  exact zO_ln (by omega) (by omega) h b c hb hc hne
/-- no loan at all: nothing but the hour goes on -/
theorem go_z {A : aD} {a e : Nat} (ha : a < A.2.1.length) (he : e < A.1.length) (hA : A.1.length ≤ 6 ∧ A.2.1.length ≤ 6) : ∀ (m : Nat) (g : Nat → Int32), zO a e g → g (24 + (6 * a + e)) = 0 → (sGo A 0 0 m g) (18 + a) = g (18 + a) ∧ (sGo A 0 0 m g) (24 + (6 * a + e)) = 0
  | 0, _, _, h => ⟨rfl, h⟩
  | m + 1, g, hz, h => by
    rw [sGo]
    have e1 : sHr A 0 0 g = tU g 96 (g 96 + 1) := by rw [hr_1 ha he hA hz, ln_z h]
    have := go_z ha he hA m (sHr A 0 0 g) (zO_hr ha he hA hz) (by rw [e1, tU_o (by omega)]; exact h)
    refine ⟨this.1.trans ?_, this.2⟩
    rw [e1, tU_o (by omega)]
def woF (f : Nat → Int32) (a e : Nat) (m : Int32) : Nat → Int32 := tU (tU (sKm 36 (-1) f) (18 + a) 0) (24 + (6 * a + e)) m
def woA (A : aD) (F : Nat → Int32) (a e : Nat) (m : Int32) : Int32 := F (18 + a) + (if pSn A F a e then F (24 + (6 * a + e)) else 0) - m
def qWorth (A : aD) (f : Nat → Int32) (x y m t : Int32) : Int32 :=
  if ¬ (okS A x ∧ okT A y ∧ (1 ≤ m.toInt ∧ m.toInt ≤ 999) ∧ 1 ≤ t.toInt ∧ t.toInt ≤ 48) then -100000
  else woA A (sGo A 0 0 t.toInt.toNat (woF f x.toInt.toNat y.toInt.toNat m)) x.toInt.toNat y.toInt.toNat m
section
variable {l : Launch} {G : qG} {d : Nat} {I : qMI} {L : qML} {R : qMR} {o n : Nat} {A : aD} {f : Nat → Int32} {h sl : Nat → Nat → Int32}
theorem sWorth (hs : cS o A f n h sl I R) {x y m t : Int32} : wkCi l G (d + 6) n_X8_worth [.ref 0, .int x, .int y, .int m, .int t] I L R (fun z I' L' R' => R' = R ∧ L' = L ∧ z = qWorth A f x y m t ∧ cS o A f n h sl I' R') := by
  obtain ⟨⟨hL, hR, h12⟩, s1, s2, s3⟩ := id hs
  have ho := hL.1
  have r2 := hR.1.1
  have r3 := hR.1.2.1
  have hB := hR.2.2.2.2 28 bAhead
  obtain ⟨⟨-, hn1⟩, -, hn2⟩ := cHas_n hL
  have z1 : (1 : Int32).toInt = 1 := rfl
  have z9 : (999 : Int32).toInt = 999 := rfl
  have z48 : (48 : Int32).toInt = 48 := rfl
  have bad : ¬ (okS A x ∧ okT A y ∧ (1 ≤ m.toInt ∧ m.toInt ≤ 999) ∧ 1 ≤ t.toInt ∧ t.toInt ≤ 48) → wkB l G (d + 5 + 1) n_X8_worth (fun r t' I' L' R' => t' = 336 ∧ ∃ z, r = some (.int z) ∧ R' = R ∧ L' = L ∧ z = qWorth A f x y m t ∧ cS o A f n h sl I' R') 34 [.ref 0, .int x, .int y, .int m, .int t, wkU, wkU] [] I L R := fun c => w_X8_worth_34 ⟨rfl, _, rfl, rfl, rfl, by unfold qWorth; rw [if_pos c], hs⟩
  refine wkC_of 2 (by decide) (Nat.le_of_ble_eq_true rfl) (w_X8_worth_0 (sIsPair (d := d + 3) hL h12) (fun z I1 L1 R1 hq => ?_))
  obtain ⟨rfl, rfl, rfl, rfl⟩ := hq
  refine w_X8_worth_6 (fun q => bad (fun c => if1.1 q ⟨c.1, c.2.1⟩)) (fun q => w_X8_worth_9 (fun q2 => bad (fun c => ?_)) (fun q2 => w_X8_worth_14 (fun q3 => bad (fun c => ?_)) (fun q3 => w_X8_worth_21 (fun q4 => bad (fun c => ?_)) (fun q4 => w_X8_worth_27 (fun q5 => ?_) (fun q5 => bad (fun c => q5 (i_le.mpr (by rw [z48]; exact c.2.2.2.2))))))))
  · have q2 := i_lt.mp q2
    rw [z1] at q2
    have := c.2.2.1.1
    omega
  · have q3 := i_lt.mp q3
    rw [z9] at q3
    have := c.2.2.1.2
    omega
  · have q4 := i_lt.mp q4
    rw [z1] at q4
    have := c.2.2.2.1
    omega
  have q2 := nlt q2
  have q3 := nlt q3
  have q4 := nlt q4
  have q5 := i_le.mp q5
  rw [z1] at q2 q4
  rw [z9] at q3
  rw [z48] at q5
  have pr := if1.2 q
  have c0 : okS A x ∧ okT A y ∧ (1 ≤ m.toInt ∧ m.toInt ≤ 999) ∧ 1 ≤ t.toInt ∧ t.toInt ≤ 48 := ⟨pr.1, pr.2, ⟨by omega, by omega⟩, by omega, q5⟩
  obtain ⟨⟨x0, x1⟩, y0, y1⟩ := pr
  have ha : x.toInt = x.toInt.toNat := by omega
  have he : y.toInt = y.toInt.toNat := by omega
  have ev : qWorth A f x y m t = woA A (sGo A 0 0 t.toInt.toNat (woF f x.toInt.toNat y.toInt.toNat m)) x.toInt.toNat y.toInt.toNat m := by
    unfold qWorth
    rw [if_neg (fun z => z c0)]
  rw [ev]
  generalize hga : x.toInt.toNat = a at ha
  generalize hge : y.toInt.toNat = e at he
  have la := loan_t ha he (by omega) (by omega)
  have ca : (x * 6 + y).toNatClampNeg = 6 * a + e := by rw [tcn]; omega
  have cx : x.toNatClampNeg = a := by rw [tcn]; omega
  have vx : vp_in x 6 := vin (by omega) (by omega)
  have v36 : vp_in (x * 6 + y) 36 := vin (by omega) (by omega)
  refine w_X8_worth_38 (sLoanOf (d := d + 4)) (fun z I1 L1 R1 hq => ?_)
  obtain ⟨rfl, rfl, rfl, rfl⟩ := hq
  refine w_X8_worth_43 r3 r2 (sCopy (d := d + 4) bAhead bNow hB (hR.2.2.2.2 21 bNow)) (fun I2 L2 R2 hq => ?_)
  obtain ⟨rfl, rfl, rfl⟩ := hq
  have f1 : ∀ k, (k < 28 ∨ 34 < k) → cpM I1 28 21 k = I1 k := fun k a => cpM_fr (by omega)
  have s28 : sEq (cpM I1 28 21) 28 f := cpM_eq (by omega) s1
  refine w_X8_worth_56 r3 (sKeep (d := d + 3) bAhead hB s28 (n := -1) rfl) (fun I3 L3 R3 hq => ?_)
  obtain ⟨rfl, rfl, f3, s28'⟩ := hq
  have hs3 : cS o A f n h sl (qUp (qUp I3 32 x.toNatClampNeg 0) 33 (x * 6 + y).toNatClampNeg m) R3 := cS_of hs (fun k a => (qUp_ro (by omega)).trans ((qUp_ro (by omega)).trans ((f3 k (by omega)).trans (f1 k (by omega)))))
  have hL3 := hs3.1.1
  have s29 : sEq (qUp (qUp I3 32 x.toNatClampNeg 0) 33 (x * 6 + y).toNatClampNeg m) 28 (woF f a e m) := by
    rw [cx, ca]
    exact sEq_up (b := 28) (sEq_up (b := 28) s28' (k := 18 + a) (by omega) (sI4 (by omega))) (k := 24 + (6 * a + e)) (by omega) (sI5 (by omega))
  refine w_X8_worth_64 ho r3 (hB 4 (by decide) (by decide)) vx r3 (hB 5 (by decide) (by decide)) v36 h12 r3 (sPass (d := d) hL3 hB bAhead s29 (n := t.toInt.toNat) (by omega)) (fun I4 L4 R4 hq => ?_)
  obtain ⟨rfl, rfl, f4, s4⟩ := hq
  have hs4 := cS_of hs3 (J := I4) (fun k a => f4 k (by omega) (by omega) (by omega))
  have e0 : I4 28 0 = sGo A 0 0 t.toInt.toNat (woF f a e m) 96 := sEq_at s4 (by omega) sI0
  have e1 : I4 29 x.toNatClampNeg = sGo A 0 0 t.toInt.toNat (woF f a e m) a := by rw [cx]; exact sEq_at s4 (c := 1) (by omega) (sI1 (by omega))
  refine w_X8_worth_100 ho h12 r3 (hB 1 (by decide) (by decide)) vx r3 h12 r3 (sHeat (d := d + 1) hs4.1.1) (fun z I5 L5 R5 hq => ?_)
  obtain ⟨rfl, rfl, f5, rfl⟩ := hq
  rw [e0, e1]
  have hs5 := cS_q hs4 f5
  refine w_X8_worth_135 ho (sSeenFrom (d := d + 1) hs5.1.1 he (by omega)) (fun z I6 L6 R6 hq => ?_)
  obtain ⟨rfl, rfl, f6, rfl⟩ := hq
  have hs6 := cS_q hs5 f6
  have s6 : sEq I6 28 (sGo A 0 0 t.toInt.toNat (woF f a e m)) := sEq_q ho bAhead (cQ_tr f5 f6) s4
  have e4 : I6 32 x.toNatClampNeg = sGo A 0 0 t.toInt.toNat (woF f a e m) (18 + a) := by rw [cx]; exact sEq_at s6 (c := 4) (by omega) (sI4 (by omega))
  have e5 : I6 33 (x * 6 + y).toNatClampNeg = sGo A 0 0 t.toInt.toNat (woF f a e m) (24 + (6 * a + e)) := by rw [ca]; exact sEq_at s6 (c := 5) (by omega) (sI5 (by omega))
  refine w_X8_worth_138 r3 (hB 4 (by decide) (by decide)) vx (fun q7 => w_X8_worth_167 (w_X8_worth_168 ⟨rfl, _, rfl, rfl, rfl, ?_, hs6⟩)) (fun q7 => w_X8_worth_154 r3 (hB 5 (by decide) (by decide)) v36 (w_X8_worth_168 ⟨rfl, _, rfl, rfl, rfl, ?_, hs6⟩))
  · unfold woA
    rw [if_neg (if1.1 q7), e4]
  · unfold woA
    rw [if_pos (if1.2 q7), e4, e5]
end
section
variable {l : Launch} {G : qG} {d : Nat} {I : qMI} {L : qML} {R : qMR} {v n : Nat} {A : aD} {f : Nat → Int32} {h sl : Nat → Nat → Int32}
theorem uIsSome {x : Int32} : wkI l G (d + 2) n_X9_isSome [.int x] I L R (fun y I' L' => L' = L ∧ I' = I ∧ y = if 1 ≤ x.toInt ∧ x.toInt ≤ 48 then 1 else 0) := by
  refine wkC_of 0 (by decide) (Nat.le_of_ble_eq_true rfl) (w_X9_isSome_0 (uIn (d := d)) (fun z I1 L1 hq => ?_))
  obtain ⟨rfl, rfl, rfl⟩ := hq
  exact w_X9_isSome_7 ⟨rfl, rfl, _, rfl, rfl, rfl, rfl⟩ if01
/-- the loop's state between two hours -/
def woI (A : aD) (f g : Nat → Int32) (a e : Nat) (m y b u c : Int32) : Prop := zO a e g ∧ fOk A g ∧ g a = f a ∧ g 96 = f 96 + y ∧ b = g (24 + (6 * a + e)) ∧ c = -m + g (18 + a) ∧ (¬ b = 0 → u = g (60 + (6 * a + e)))
theorem woA_z {A : aD} {F : Nat → Int32} {a e : Nat} {m : Int32} (h : F (24 + (6 * a + e)) = 0) : woA A F a e m = -m + F (18 + a) := by
  unfold woA
  rw [h, ite_self, Int32.add_zero, Int32.sub_eq_add_neg, Int32.add_comm]
end
