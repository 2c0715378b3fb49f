/-! ===== what a call by hand does, purely ===== -/
abbrev okS (A : aD) (x : Int32) : Prop := 0 ≤ x.toInt ∧ x.toInt < A.2.1.length
abbrev okT (A : aD) (x : Int32) : Prop := 0 ≤ x.toInt ∧ x.toInt < A.1.length
abbrev okX (x : Int32) : Prop := 0 ≤ x.toInt ∧ x.toInt < 20
abbrev okH (x : Int32) : Prop := 0 ≤ x.toInt ∧ x.toInt ≤ 48
/-- a seat sees a thing now -/
abbrev pSn (A : aD) (f : Nat → Int32) (a e : Nat) : Prop := pSe A (f 96) (pHt A (f 96)) (f a) (tX A e) (tT A e)
abbrev lnI (x y : Int32) : Nat := 6 * x.toInt.toNat + y.toInt.toNat
def pLend (A : aD) (f : Nat → Int32) (x y m : Int32) : Int32 × Option (Nat → Int32) :=
  if ¬ (okS A x ∧ okT A y ∧ 1 ≤ m.toInt ∧ m.toInt ≤ 999) then (-1, none)
  else if f (6 + x.toInt.toNat) < m ∨ ¬ f (24 + lnI x y) = 0 ∨ ¬ pSn A f x.toInt.toNat y.toInt.toNat then (-2, none)
  else (f (6 + x.toInt.toNat) - m, some (tU (tU f (6 + x.toInt.toNat) (f (6 + x.toInt.toNat) - m)) (24 + lnI x y) m))
def pCall (A : aD) (f : Nat → Int32) (x y : Int32) : Int32 × Option (Nat → Int32) :=
  if ¬ (okS A x ∧ okT A y) then (-1, none)
  else if f (24 + lnI x y) = 0 ∨ 99999 < f (6 + x.toInt.toNat) + f (24 + lnI x y) ∨ ¬ pSn A f x.toInt.toNat y.toInt.toNat then (-2, none)
  else (f (24 + lnI x y), some (tU (tU (tU f (6 + x.toInt.toNat) (f (6 + x.toInt.toNat) + f (24 + lnI x y))) (24 + lnI x y) 0) (60 + lnI x y) 0))
def pMove (A : aD) (f : Nat → Int32) (x y : Int32) : Int32 × Option (Nat → Int32) :=
  if ¬ (okS A x ∧ okX y) ∨ f x.toInt.toNat = y then (0, none) else (1, some (tU f x.toInt.toNat y))
def pHours (A : aD) (f : Nat → Int32) (x : Int32) : Int32 × Option (Nat → Int32) :=
  if ¬ okH x then (-1, none)
  else if x.toInt ≤ 0 then (f 96, none)
  else ((sGo A (A.2.2.1 11) (A.2.2.1 9) x.toInt.toNat f) 96, some (sGo A (A.2.2.1 11) (A.2.2.1 9) x.toInt.toNat f))
/-! ===== the class's state; its keep: what no call but read, hold, the tape's and tell changes, as rows of sl from 100 on ===== -/
abbrev cKr (k : Nat) : Prop := k < 19 ∨ (247 ≤ k ∧ k ≤ 249) ∨ (259 ≤ k ∧ k ≤ 268) ∨ 292 ≤ k
def cK (sl : Nat → Nat → Int32) (I : qMI) : Prop := ∀ k, cKr k → ∀ j, I k j = sl (100 + k) j
theorem cK_of {sl : Nat → Nat → Int32} {I J : qMI} (h : cK sl I) (e : ∀ k, cKr k → J k = I k) : cK sl J := fun k a j => by rw [e k a]; exact h k a j
theorem cK_eq {sl : Nat → Nat → Int32} {I J : qMI} (h : cK sl I) (g : cK sl J) : ∀ k, cKr k → J k = I k := fun k a => funext fun j => (g k a j).trans (h k a j).symm
def gS (sl : Nat → Nat → Int32) (I : qMI) : Nat → Nat → Int32 := fun i => if i < 100 then sl i else I (i - 100)
theorem gS_l {sl : Nat → Nat → Int32} {I : qMI} {i : Nat} (h : i < 100) : gS sl I i = sl i := if_pos h
theorem gS_h {sl : Nat → Nat → Int32} {I : qMI} {k : Nat} : gS sl I (100 + k) = I k := by
  unfold gS
  rw [if_neg (by omega), show 100 + k - 100 = k by omega]
def cS0 (o : Nat) (A : aD) (f : Nat → Int32) (n : Nat) (h sl : Nat → Nat → Int32) (I : qMI) (R : qMR) : Prop := (cHas o I R A ∧ cRs R ∧ R 0 12 = some o) ∧ sEq I 21 f ∧ pEq I n h ∧ ∀ i, i < 3 → sEq I (271 + 7 * i) (sl i)
def cS20 (o : Nat) (A : aD) (f : Nat → Int32) (n : Nat) (h sl : Nat → Nat → Int32) (I : qMI) (R : qMR) : Option (Nat → Int32) → Prop
  | none => cS0 o A f n h sl I R
  | some g => cS0 o A g (hN n) (hH n h f) sl I R
def cS (o : Nat) (A : aD) (f : Nat → Int32) (n : Nat) (h sl : Nat → Nat → Int32) (I : qMI) (R : qMR) : Prop := (cHas o I R A ∧ cRs R ∧ R 0 12 = some o) ∧ sEq I 21 f ∧ pEq I n h ∧ (∀ i, i < 3 → sEq I (271 + 7 * i) (sl i)) ∧ cK sl I
def cS2 (o : Nat) (A : aD) (f : Nat → Int32) (n : Nat) (h sl : Nat → Nat → Int32) (I : qMI) (R : qMR) : Option (Nat → Int32) → Prop
  | none => cS o A f n h sl I R
  | some g => cS o A g (hN n) (hH n h f) sl I R
section
variable {o n : Nat} {A : aD} {f g : Nat → Int32} {h sl : Nat → Nat → Int32} {I J : qMI} {R : qMR}
theorem cS_0 (s : cS o A f n h sl I R) : cS0 o A f n h sl I R := ⟨s.1, s.2.1, s.2.2.1, s.2.2.2.1⟩
theorem cS_k (s : cS o A f n h sl I R) : cK sl I := s.2.2.2.2
theorem cS2_0 {g : Option (Nat → Int32)} (s : cS2 o A f n h sl I R g) : cS20 o A f n h sl I R g ∧ cK sl I := by
  cases g with
  | none => exact ⟨cS_0 (show cS o A f n h sl I R from s), cS_k (show cS o A f n h sl I R from s)⟩
  | some x => exact ⟨cS_0 (show cS o A x (hN n) (hH n h f) sl I R from s), cS_k (show cS o A x (hN n) (hH n h f) sl I R from s)⟩
theorem cS_gh (s : cS0 o A f n h sl I R) : cS o A f n h (gS sl I) I R := ⟨s.1, s.2.1, s.2.2.1, fun i hi => by rw [gS_l (by omega)]; exact s.2.2.2 i hi, fun k _ j => by rw [gS_h]⟩
theorem cS0_gh {J : qMI} (s : cS0 o A f n h sl I R) : cS0 o A f n h (gS sl J) I R := ⟨s.1, s.2.1, s.2.2.1, fun i hi => by rw [gS_l (by omega)]; exact s.2.2.2 i hi⟩
theorem cS20_gh {J : qMI} {g : Option (Nat → Int32)} (s : cS20 o A f n h sl I R g) : cS20 o A f n h (gS sl J) I R g := by
  cases g with
  | none => exact cS0_gh (show cS0 o A f n h sl I R from s)
  | some x => exact cS0_gh (show cS0 o A x (hN n) (hH n h f) sl I R from s)
theorem cS0_of (s : cS0 o A f n h sl I R) (e : ∀ k, (o ≤ k ∧ k ≤ o + 9) ∨ (21 ≤ k ∧ k ≤ 27) ∨ (35 ≤ k ∧ k ≤ 246) ∨ (271 ≤ k ∧ k ≤ 291) → J k = I k) : cS0 o A f n h sl J R := by
  obtain ⟨⟨s1, s2, s3⟩, s4, s5, s6⟩ := s
  exact ⟨⟨cHas_fr (fun k a b => e k (by omega)) s1, s2, s3⟩, sEq_of s4 (fun k a b => e k (by omega)), pEq_of s5 (fun k a b => e k (by omega)), fun i hi => sEq_of (s6 i hi) (fun k a b => e k (by omega))⟩
theorem cS_of (s : cS o A f n h sl I R) (e : ∀ k, (o ≤ k ∧ k ≤ o + 9) ∨ (21 ≤ k ∧ k ≤ 27) ∨ (35 ≤ k ∧ k ≤ 246) ∨ (271 ≤ k ∧ k ≤ 291) ∨ k < 19 ∨ (247 ≤ k ∧ k ≤ 249) ∨ (259 ≤ k ∧ k ≤ 268) ∨ 292 ≤ k → J k = I k) : cS o A f n h sl J R := by
  obtain ⟨⟨s1, s2, s3⟩, s4, s5, s6, s7⟩ := s
  exact ⟨⟨cHas_fr (fun k a b => e k (by omega)) s1, s2, s3⟩, sEq_of s4 (fun k a b => e k (by omega)), pEq_of s5 (fun k a b => e k (by omega)), fun i hi => sEq_of (s6 i hi) (fun k a b => e k (by omega)), cK_of s7 (fun k a => e k (by omega))⟩
theorem cS_q (s : cS o A f n h sl I R) (e : cQ o I J) : cS o A f n h sl J R := by
  have ho := s.1.1.1
  exact cS_of s (fun k a => e k (by omega) (by omega))
theorem cS_push {n' : Nat} {h' : Nat → Nat → Int32} (s : cS o A f n h sl I R) (e : ∀ k, (k < 35 ∨ 246 < k) → J k = I k) (p : pEq J n' h') : cS o A f n' h' sl J R := by
  obtain ⟨⟨s1, s2, s3⟩, s4, s5, s6, s7⟩ := s
  have ho := s1.1
  exact ⟨⟨cHas_fr (fun k a b => e k (by omega)) s1, s2, s3⟩, sEq_of s4 (fun k a b => e k (by omega)), p, fun i hi => sEq_of (s6 i hi) (fun k a b => e k (by omega)), cK_of s7 (fun k a => e k (by omega))⟩
theorem cS_now (s : cS o A f n h sl I R) (e : ∀ k, (k < 21 ∨ 27 < k) → k ≠ o + 10 → k ≠ o + 11 → J k = I k) (p : sEq J 21 g) : cS o A g n h sl J R := by
  obtain ⟨⟨s1, s2, s3⟩, s4, s5, s6, s7⟩ := s
  have ho := s1.1
  exact ⟨⟨cHas_fr (fun k a b => e k (by omega) (by omega) (by omega)) s1, s2, s3⟩, p, pEq_of s5 (fun k a b => e k (by omega) (by omega) (by omega)), fun i hi => sEq_of (s6 i hi) (fun k a b => e k (by omega) (by omega) (by omega)), cK_of s7 (fun k a => e k (by omega) (by omega) (by omega))⟩
end
section
variable {l : Launch} {G : qG} {d : Nat} {I : qMI} {L : qML} {R : qMR} {o n : Nat} {A : aD} {f : Nat → Int32} {h sl : Nat → Nat → Int32}
theorem sIsThing (hL : cHas o I R A) (h12 : R 0 12 = some o) {x : Int32} : wkCi l G (d + 1) n_X8_isThing [.ref 0, .int x] I L R (fun y I' L' R' => R' = R ∧ L' = L ∧ I' = I ∧ y = if okT A x then 1 else 0) := by
  have hn := (cHas_n hL).1.1
  refine wkC_of 0 (by decide) (Nat.le_of_ble_eq_true rfl) (w_X8_isThing_0 (fun q => w_X8_isThing_19 (w_X8_isThing_20 ⟨rfl, _, rfl, rfl, rfl, rfl, ?_⟩ (Or.inl rfl))) (fun q => w_X8_isThing_4 hL.1 h12 (fun q2 => w_X8_isThing_19 (w_X8_isThing_20 ⟨rfl, _, rfl, rfl, rfl, rfl, ?_⟩ (Or.inl rfl))) (fun q2 => w_X8_isThing_15 (w_X8_isThing_20 ⟨rfl, _, rfl, rfl, rfl, rfl, ?_⟩ (Or.inr rfl)))))
  · have q := i_lt.mp q
    rw [show (0 : Int32).toInt = 0 from rfl] at q
    rw [if_neg (fun z => by have := z.1; omega)]
  · have q2 := i_le.mp q2
    rw [if_neg (fun z => by have := z.2; omega)]
  · have q := nlt q
    rw [show (0 : Int32).toInt = 0 from rfl] at q
    have q2 := nle q2
    rw [if_pos ⟨by omega, by omega⟩]
theorem sIsSeat (hL : cHas o I R A) (h12 : R 0 12 = some o) {x : Int32} : wkCi l G (d + 1) n_X8_isSeat [.ref 0, .int x] I L R (fun y I' L' R' => R' = R ∧ L' = L ∧ I' = I ∧ y = if okS A x then 1 else 0) := by
  have hn := (cHas_n hL).2.1
  refine wkC_of 0 (by decide) (Nat.le_of_ble_eq_true rfl) (w_X8_isSeat_0 (fun q => w_X8_isSeat_19 (w_X8_isSeat_20 ⟨rfl, _, rfl, rfl, rfl, rfl, ?_⟩ (Or.inl rfl))) (fun q => w_X8_isSeat_4 hL.1 h12 (fun q2 => w_X8_isSeat_19 (w_X8_isSeat_20 ⟨rfl, _, rfl, rfl, rfl, rfl, ?_⟩ (Or.inl rfl))) (fun q2 => w_X8_isSeat_15 (w_X8_isSeat_20 ⟨rfl, _, rfl, rfl, rfl, rfl, ?_⟩ (Or.inr rfl)))))
  · have q := i_lt.mp q
    rw [show (0 : Int32).toInt = 0 from rfl] at q
    rw [if_neg (fun z => by have := z.1; omega)]
  · have q2 := i_le.mp q2
    rw [if_neg (fun z => by have := z.2; omega)]
  · have q := nlt q
    rw [show (0 : Int32).toInt = 0 from rfl] at q
    have q2 := nle q2
    rw [if_pos ⟨by omega, by omega⟩]
theorem sIsX {x : Int32} : wkCi l G (d + 1) n_X8_isX [.int x] I L R (fun y I' L' R' => R' = R ∧ L' = L ∧ I' = I ∧ y = if okX x then 1 else 0) := by
  refine wkC_of 0 (by decide) (Nat.le_of_ble_eq_true rfl) (w_X8_isX_0 (fun q => w_X8_isX_14 (w_X8_isX_15 ⟨rfl, _, rfl, rfl, rfl, rfl, ?_⟩ (Or.inl rfl))) (fun q => w_X8_isX_4 (fun q2 => w_X8_isX_14 (w_X8_isX_15 ⟨rfl, _, rfl, rfl, rfl, rfl, ?_⟩ (Or.inl rfl))) (fun q2 => w_X8_isX_10 (w_X8_isX_15 ⟨rfl, _, rfl, rfl, rfl, rfl, ?_⟩ (Or.inr rfl)))))
  · have q := i_lt.mp q
    rw [show (0 : Int32).toInt = 0 from rfl] at q
    rw [if_neg (fun z => by have := z.1; omega)]
  · have q2 := i_le.mp q2
    rw [show (20 : Int32).toInt = 20 from rfl] at q2
    rw [if_neg (fun z => by have := z.2; omega)]
  · have q := nlt q
    rw [show (0 : Int32).toInt = 0 from rfl] at q
    have q2 := nle q2
    rw [show (20 : Int32).toInt = 20 from rfl] at q2
    rw [if_pos ⟨by omega, by omega⟩]
theorem sIsAhead {x : Int32} : wkCi l G (d + 1) n_X8_isAhead [.int x] I L R (fun y I' L' R' => R' = R ∧ L' = L ∧ I' = I ∧ y = if okH x then 1 else 0) := by
  refine wkC_of 0 (by decide) (Nat.le_of_ble_eq_true rfl) (w_X8_isAhead_0 (fun q => w_X8_isAhead_14 (w_X8_isAhead_15 ⟨rfl, _, rfl, rfl, rfl, rfl, ?_⟩ (Or.inl rfl))) (fun q => w_X8_isAhead_4 (fun q2 => w_X8_isAhead_14 (w_X8_isAhead_15 ⟨rfl, _, rfl, rfl, rfl, rfl, ?_⟩ (Or.inl rfl))) (fun q2 => w_X8_isAhead_10 (w_X8_isAhead_15 ⟨rfl, _, rfl, rfl, rfl, rfl, ?_⟩ (Or.inr rfl)))))
  · have q := i_lt.mp q
    rw [show (0 : Int32).toInt = 0 from rfl] at q
    rw [if_neg (fun z => by have := z.1; omega)]
  · have q2 := i_lt.mp q2
    rw [show (48 : Int32).toInt = 48 from rfl] at q2
    rw [if_neg (fun z => by have := z.2; omega)]
  · have q := nlt q
    rw [show (0 : Int32).toInt = 0 from rfl] at q
    have q2 := nlt q2
    rw [show (48 : Int32).toInt = 48 from rfl] at q2
    rw [if_pos ⟨by omega, by omega⟩]
theorem if1 {p : Prop} [Decidable p] : ((if p then 1 else 0 : Int32) = 0 → ¬ p) ∧ (¬ (if p then 1 else 0 : Int32) = 0 → p) := by
  by_cases h : p
  · rw [if_pos h]
    exact ⟨fun q => absurd q (by decide), fun _ => h⟩
  · rw [if_neg h]
    exact ⟨fun _ => h, fun q => absurd rfl q⟩
theorem if01 {p : Prop} [Decidable p] : (if p then 1 else 0 : Int32) = 0 ∨ (if p then 1 else 0 : Int32) = 1 := by
  by_cases h : p
  · rw [if_pos h]; exact Or.inr rfl
  · rw [if_neg h]; exact Or.inl rfl
theorem sIsPair (hL : cHas o I R A) (h12 : R 0 12 = some o) {x y : Int32} : wkCi l G (d + 2) n_X8_isPair [.ref 0, .int x, .int y] I L R (fun z I' L' R' => R' = R ∧ L' = L ∧ I' = I ∧ z = if okS A x ∧ okT A y then 1 else 0) := by
  refine wkC_of 0 (by decide) (Nat.le_of_ble_eq_true rfl) (w_X8_isPair_0 (sIsSeat (d := d) hL h12) (fun z I1 L1 R1 hq => ?_))
  obtain ⟨rfl, rfl, rfl, rfl⟩ := hq
  refine w_X8_isPair_5 (fun q => w_X8_isPair_20 (w_X8_isPair_21 ⟨rfl, _, rfl, rfl, rfl, rfl, ?_⟩ (Or.inl rfl))) (fun q => w_X8_isPair_8 (sIsThing (d := d) hL h12) (fun z I1 L1 R1 hq => ?_))
  · rw [if_neg (fun w => if1.1 q w.1)]
  obtain ⟨rfl, rfl, rfl, rfl⟩ := hq
  refine w_X8_isPair_13 (fun q2 => w_X8_isPair_20 (w_X8_isPair_21 ⟨rfl, _, rfl, rfl, rfl, rfl, ?_⟩ (Or.inl rfl))) (fun q2 => w_X8_isPair_16 (w_X8_isPair_21 ⟨rfl, _, rfl, rfl, rfl, rfl, ?_⟩ (Or.inr rfl)))
  · rw [if_neg (fun w => if1.1 q2 w.2)]
  · rw [if_pos ⟨if1.2 q, if1.2 q2⟩]
theorem sSeesNow (hs : cS o A f n h sl I R) {x y : Int32} {a e : Nat} (ha : x.toInt = a) (he : y.toInt = e) (hA : a < A.2.1.length) (hE : e < A.1.length) : wkCi l G (d + 5) n_X8_seesNow [.ref 0, .int x, .int y] I L R (fun z I' L' R' => R' = R ∧ L' = L ∧ cQ o I I' ∧ z = if pSn A f a e then 1 else 0) := by
  obtain ⟨⟨hL, hR, h12⟩, s1, -, -⟩ := hs
  obtain ⟨⟨r2, -⟩, -, -, -, rB⟩ := hR
  have hn := (cHas_n hL).2.2
  have cx : x.toNatClampNeg = a := by rw [tcn]; omega
  refine wkC_of 0 (by decide) (Nat.le_of_ble_eq_true rfl) (w_X8_seesNow_0 hL.1 h12 r2 (rB 21 bNow 1 (by decide) (by decide)) (vin (by omega) (by omega)) r2 h12 r2 (sHeat (d := d) hL) (fun z I1 L1 R1 hq => ?_))
  obtain ⟨rfl, rfl, f1, rfl⟩ := hq
  refine w_X8_seesNow_35 hL.1 (sSeenFrom (d := d) (cHas_q f1 hL) he hE) (fun z I2 L2 R2 hq => ?_)
  obtain ⟨rfl, rfl, f2, rfl⟩ := hq
  refine w_X8_seesNow_38 ⟨rfl, _, rfl, rfl, rfl, cQ_tr f1 f2, ?_⟩ if01
  rw [cx, show I 22 a = f a from sEq_at s1 (by omega) (sI1 (by omega)), show I 21 0 = f 96 from sEq_at s1 (by omega) sI0]
theorem sLend (hs : cS o A f n h sl I R) {x y m : Int32} : wkCi l G (d + 6) n_X8_lend [.ref 0, .int x, .int y, .int m] I L R (fun z I' L' R' => R' = R ∧ L' = L ∧ z = (pLend A f x y m).1 ∧ cS2 o A f n h sl I' R' (pLend A f x y m).2) := by
  obtain ⟨⟨hL, hR, h12⟩, s1, s2, s3⟩ := id hs
  obtain ⟨⟨r2, -, r4, -⟩, -, -, -, rB⟩ := id hR
  have rb := rB 21 bNow
  obtain ⟨⟨-, hn1⟩, -, hn2⟩ := cHas_n hL
  have no : ∀ {Q : qQ}, Q (some (.int (-1))) 336 I L R → wkB l G (d + 5 + 1) n_X8_lend Q 21 [.ref 0, .int x, .int y, .int m, wkU] [] I L R := fun k => w_X8_lend_21 k
  refine wkC_of 1 (by decide) (Nat.le_of_ble_eq_true rfl) (w_X8_lend_0 (sIsPair (d := d + 3) hL h12) (fun z I1 L1 R1 hq => ?_))
  obtain ⟨rfl, rfl, rfl, rfl⟩ := hq
  have bad : ¬ (okS A x ∧ okT A y ∧ 1 ≤ m.toInt ∧ m.toInt ≤ 999) → wkB l G (d + 5 + 1) n_X8_lend (fun r t I' L' R' => t = 336 ∧ ∃ z, r = some (.int z) ∧ R' = R1 ∧ L' = L1 ∧ z = (pLend A f x y m).1 ∧ cS2 o A f n h sl I' R' (pLend A f x y m).2) 21 [.ref 0, .int x, .int y, .int m, wkU] [] I1 L1 R1 := fun c => w_X8_lend_21 ⟨rfl, _, rfl, rfl, rfl, by unfold pLend; rw [if_pos c], by unfold pLend; rw [if_pos c]; exact hs⟩
  refine w_X8_lend_6 (fun q => bad (fun c => if1.1 q ⟨c.1, c.2.1⟩)) (fun q => w_X8_lend_9 (fun q2 => bad (fun c => ?_)) (fun q2 => w_X8_lend_14 (fun q3 => ?_) (fun q3 => bad (fun c => q3 (i_le.mpr c.2.2.2)))))
  · have q2 := i_lt.mp q2
    rw [show (1 : Int32).toInt = 1 from rfl] at q2
    have := c.2.2.1
    omega
  have q2 := nlt q2
  rw [show (1 : Int32).toInt = 1 from rfl] at q2
  have q3 := i_le.mp q3
  rw [show (999 : Int32).toInt = 999 from rfl] at q3
  have pr := if1.2 q
  have c0 : okS A x ∧ okT A y ∧ 1 ≤ m.toInt ∧ m.toInt ≤ 999 := ⟨pr.1, pr.2, by omega, q3⟩
  obtain ⟨⟨x0, x1⟩, y0, y1⟩ := pr
  have ha : x.toInt = x.toInt.toNat := by omega
  have he : y.toInt = y.toInt.toNat := by omega
  generalize hga : x.toInt.toNat = a at ha
  generalize hge : y.toInt.toNat = e at he
  have la := loan_t ha he (by omega) (by omega)
  have ca : (x * 6 + y).toNatClampNeg = 6 * a + e := by rw [tcn]; omega
  have cx : x.toNatClampNeg = a := by rw [tcn]; omega
  have vx : vp_in x 6 := vin (by omega) (by omega)
  have v36 : vp_in (x * 6 + y) 36 := vin (by omega) (by omega)
  have ec : I1 23 a = f (6 + a) := sEq_at s1 (by omega) (sI2 (by omega))
  have el : I1 26 (6 * a + e) = f (24 + (6 * a + e)) := sEq_at s1 (by omega) (sI5 (by omega))
  have low : ∀ J : qMI, cQ o I1 J → (f (6 + a) < m ∨ ¬ f (24 + (6 * a + e)) = 0 ∨ ¬ pSn A f a e) → wkB l G (d + 5 + 1) n_X8_lend (fun r t I' L' R' => t = 336 ∧ ∃ z, r = some (.int z) ∧ R' = R1 ∧ L' = L1 ∧ z = (pLend A f x y m).1 ∧ cS2 o A f n h sl I' R' (pLend A f x y m).2) 65 [.ref 0, .int x, .int y, .int m, .int (x * 6 + y)] [] J L1 R1 := fun J j c => by
    have ev : pLend A f x y m = (-2, none) := by
      unfold pLend lnI
      rw [if_neg (fun z => z c0), hga, hge, if_pos c]
    exact w_X8_lend_65 ⟨rfl, _, rfl, rfl, rfl, by rw [ev], by rw [ev]; exact cS_q hs j⟩
  refine w_X8_lend_23 (sLoanOf (d := d + 4)) (fun z I1 L1 R1 hq => ?_)
  obtain ⟨rfl, rfl, rfl, rfl⟩ := hq
  refine w_X8_lend_28 r2 (rb 2 (by decide) (by decide)) vx (fun q4 => low _ (cQ_rf o _) (Or.inl ?_)) (fun q4 => w_X8_lend_43 r2 (rb 5 (by decide) (by decide)) v36 (fun q5 => low _ (cQ_rf o _) (Or.inr (Or.inl ?_))) (fun q5 => ?_))
  · rw [cx, ec] at q4
    exact q4
  · rw [ca, el] at q5
    exact q5
  rw [cx, ec] at q4
  rw [ca, el] at q5
  refine w_X8_lend_56 (sSeesNow (d := d) hs ha he (by omega) (by omega)) (fun z I3 L3 R3 hq => ?_)
  obtain ⟨rfl, rfl, f3, rfl⟩ := hq
  refine w_X8_lend_62 (fun q6 => ?_) (fun q6 => low _ f3 (Or.inr (Or.inr (if1.1 q6))))
  have hs3 := cS_q hs f3
  refine w_X8_lend_68 r4 r2 (sPush (d := d + 3) hR hs3.2.1 hs3.2.2.1) (fun I4 L4 R4 hq => ?_)
  obtain ⟨rfl, rfl, f4, p4⟩ := hq
  have hs4 := cS_push hs3 f4 p4
  have ec4 : I4 23 a = f (6 + a) := sEq_at hs4.2.1 (by omega) (sI2 (by omega))
  have ev : pLend A f x y m = (f (6 + a) - m, some (tU (tU f (6 + a) (f (6 + a) - m)) (24 + (6 * a + e)) m)) := by
    unfold pLend lnI
    rw [if_neg (fun z => z c0), hga, hge, if_neg (fun z => by
      rcases z with z | z | z
      · exact q4 z
      · exact z q5
      · exact z (if1.2 q6))]
  refine w_X8_lend_79 r2 (rb 2 (by decide) (by decide)) vx vx r2 (rb 5 (by decide) (by decide)) v36 r2 (rb 2 (by decide) (by decide)) vx ⟨rfl, _, rfl, rfl, rfl, ?_, ?_⟩
  · rw [ev, qUp_at, if_neg (by omega), qUp_at, if_pos ⟨rfl, rfl⟩, cx, ec4]
  · rw [ev, cx, ca, ec4]
    exact cS_now hs4 (fun k p _ _ => by rw [qUp_ro (by omega), qUp_ro (by omega)]) (sEq_up (b := 21) (sEq_up (b := 21) hs4.2.1 (k := 6 + a) (by omega) (sI2 (by omega))) (k := 24 + (6 * a + e)) (by omega) (sI5 (by omega)))
end
