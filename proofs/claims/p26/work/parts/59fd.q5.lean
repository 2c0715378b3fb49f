/-! ===== one loan goes its own way ===== -/
def prL (a e : Nat) (f g : Nat → Int32) : Prop := f a = g a ∧ f 96 = g 96 ∧ f (24 + (6 * a + e)) = g (24 + (6 * a + e)) ∧ f (60 + (6 * a + e)) = g (60 + (6 * a + e))
theorem prL_tr {a e : Nat} {f g k : Nat → Int32} (h : prL a e f g) (q : prL a e g k) : prL a e f k := ⟨h.1.trans q.1, h.2.1.trans q.2.1, h.2.2.1.trans q.2.2.1, h.2.2.2.trans q.2.2.2⟩
theorem prL_sy {a e : Nat} {f g : Nat → Int32} (h : prL a e f g) : prL a e g f := ⟨h.1.symm, h.2.1.symm, h.2.2.1.symm, h.2.2.2.symm⟩
theorem prL_o {A : aD} {w wd : Int32} {a e b c : Nat} (ha : a < 6) (he : e < 6) (hb : b < 6) (hc : c < 6) (hne : ¬ (b = a ∧ c = e)) (f : Nat → Int32) : prL a e (sLn A w wd b c f) f := by
  have n1 : 6 * b + c ≠ 6 * a + e := by omega
  unfold prL sLn
  split
  · exact ⟨rfl, rfl, rfl, rfl⟩
  · split
    · refine ⟨?_, ?_, ?_, ?_⟩ <;> rw [tU_o (by omega), tU_o (by omega), tU_o (by omega)]
    · split
      · refine ⟨?_, ?_, ?_, ?_⟩ <;> rw [tU_o (by omega), tU_o (by omega)]
      · refine ⟨?_, ?_, ?_, ?_⟩ <;> rw [tU_o (by omega), tU_o (by omega), tU_o (by omega), tU_o (by omega)]
theorem prL_s {A : aD} {w wd : Int32} {a e : Nat} (ha : a < 6) (he : e < 6) {f g : Nat → Int32} (h : prL a e f g) : prL a e (sLn A w wd a e f) (sLn A w wd a e g) := by
  obtain ⟨h1, h2, h3, h4⟩ := h
  unfold sLn
  rw [h1, h2, h3, h4]
  by_cases c1 : g (24 + (6 * a + e)) = 0
  · rw [if_pos c1, if_pos c1]
    exact ⟨h1, h2, h3, h4⟩
  · rw [if_neg c1, if_neg c1]
    by_cases c2 : wd = 0 ∧ pSe A (g 96) w (g a) (tX A e) (tT A e)
    · rw [if_pos c2, if_pos c2]
      refine ⟨?_, ?_, ?_, ?_⟩
      · rw [tU_o (by omega), tU_o (by omega), tU_o (by omega), tU_o (by omega), tU_o (by omega), tU_o (by omega), h1]
      · rw [tU_o (by omega), tU_o (by omega), tU_o (by omega), tU_o (by omega), tU_o (by omega), tU_o (by omega), h2]
      · rw [tU_o (by omega), tU_o (by omega), tU_o (by omega), tU_o (by omega), tU_o (by omega), tU_o (by omega), h3]
      · rw [tU_s, tU_s]
    · rw [if_neg c2, if_neg c2]
      by_cases c3 : g (60 + (6 * a + e)) + 1 < A.2.2.1 8
      · rw [if_pos c3, if_pos c3]
        refine ⟨?_, ?_, ?_, ?_⟩
        · rw [tU_o (by omega), tU_o (by omega), tU_o (by omega), tU_o (by omega), h1]
        · rw [tU_o (by omega), tU_o (by omega), tU_o (by omega), tU_o (by omega), h2]
        · rw [tU_s, tU_s]
        · rw [tU_o (by omega), tU_s, tU_o (by omega), tU_s]
      · rw [if_neg c3, if_neg c3]
        refine ⟨?_, ?_, ?_, ?_⟩
        · rw [tU_o (by omega), tU_o (by omega), tU_o (by omega), tU_o (by omega), tU_o (by omega), tU_o (by omega), tU_o (by omega), tU_o (by omega), h1]
        · rw [tU_o (by omega), tU_o (by omega), tU_o (by omega), tU_o (by omega), tU_o (by omega), tU_o (by omega), tU_o (by omega), tU_o (by omega), h2]
        · rw [tU_o (by omega), tU_o (by omega), tU_s, tU_o (by omega), tU_o (by omega), tU_s]
        · rw [tU_o (by omega), tU_s, tU_o (by omega), tU_s]
theorem prL_ln {A : aD} {w wd : Int32} {a e b c : Nat} (ha : a < 6) (he : e < 6) (hb : b < 6) (hc : c < 6) {f g : Nat → Int32} (h : prL a e f g) : prL a e (sLn A w wd b c f) (sLn A w wd b c g) := by
  by_cases q : b = a ∧ c = e
  · obtain ⟨rfl, rfl⟩ := q
    exact prL_s ha he h
  · exact prL_tr (prL_o ha he hb hc q f) (prL_tr h (prL_sy (prL_o ha he hb hc q g)))
theorem prL_th {A : aD} {w wd : Int32} {a e b : Nat} (ha : a < 6) (he : e < 6) (hb : b < 6) : ∀ (n c : Nat) (f g : Nat → Int32), c + n ≤ 6 → prL a e f g → prL a e (sTh A w wd b n c f) (sTh A w wd b n c g)
  | 0, _, _, _, _, h => h
  | n + 1, c, f, g, hn, h => by
    rw [sTh, sTh]
    exact prL_th ha he hb n (c + 1) _ _ (by omega) (prL_ln ha he hb (by omega) h)
theorem prL_st {A : aD} {w wd : Int32} {a e : Nat} (ha : a < 6) (he : e < 6) (hA : A.1.length ≤ 6) : ∀ (n b : Nat) (f g : Nat → Int32), b + n ≤ 6 → prL a e f g → prL a e (sSt A w wd n b f) (sSt A w wd n b g)
  | 0, _, _, _, _, h => h
  | n + 1, b, f, g, hn, h => by
    rw [sSt, sSt]
    exact prL_st ha he hA n (b + 1) _ _ (by omega) (prL_th ha he (by omega) A.1.length 0 f g (by omega) h)
theorem prL_hr {A : aD} {s wn : Int32} {a e : Nat} (ha : a < 6) (he : e < 6) (hA : A.1.length ≤ 6 ∧ A.2.1.length ≤ 6) {f g : Nat → Int32} (h : prL a e f g) : prL a e (sHr A s wn f) (sHr A s wn g) := by
  unfold sHr
  rw [h.2.1]
  have q := prL_st (A := A) (w := pHt A (g 96)) (wd := wdP s wn (g 96)) ha he hA.1 A.2.1.length 0 f g (by omega) h
  refine ⟨?_, ?_, ?_, ?_⟩
  · rw [tU_o (by omega), tU_o (by omega)]; exact q.1
  · rw [tU_s, tU_s, q.2.1]
  · rw [tU_o (by omega), tU_o (by omega)]; exact q.2.2.1
  · rw [tU_o (by omega), tU_o (by omega)]; exact q.2.2.2
theorem prL_go {A : aD} {s wn : Int32} {a e : Nat} (ha : a < 6) (he : e < 6) (hA : A.1.length ≤ 6 ∧ A.2.1.length ≤ 6) : ∀ (n : Nat) (f g : Nat → Int32), prL a e f g → prL a e (sGo A s wn n f) (sGo A s wn n g)
  | 0, _, _, h => h
  | n + 1, f, g, h => by
    rw [sGo, sGo]
    exact prL_go ha he hA n _ _ (prL_hr ha he hA h)
/-- a loan that is none stays none -/
theorem ln0 {A : aD} {w wd : Int32} {a e b c : Nat} (ha : a < 6) (he : e < 6) (hb : b < 6) (hc : c < 6) {f : Nat → Int32} (h : f (24 + (6 * a + e)) = 0) : (sLn A w wd b c f) (24 + (6 * a + e)) = 0 := by
  by_cases q : b = a ∧ c = e
  · obtain ⟨rfl, rfl⟩ := q
    unfold sLn
    rw [if_pos h]
    exact h
  · rw [(prL_o ha he hb hc q f).2.2.1]
    exact h
theorem ln0_th {A : aD} {w wd : Int32} {a e b : Nat} (ha : a < 6) (he : e < 6) (hb : b < 6) : ∀ (n c : Nat) (f : Nat → Int32), c + n ≤ 6 → f (24 + (6 * a + e)) = 0 → (sTh A w wd b n c f) (24 + (6 * a + e)) = 0
  | 0, _, _, _, h => h
  | n + 1, c, f, hn, h => by
    rw [sTh]
    exact ln0_th ha he hb n (c + 1) _ (by omega) (ln0 ha he hb (by omega) h)
theorem ln0_st {A : aD} {w wd : Int32} {a e : Nat} (ha : a < 6) (he : e < 6) (hA : A.1.length ≤ 6) : ∀ (n b : Nat) (f : Nat → Int32), b + n ≤ 6 → f (24 + (6 * a + e)) = 0 → (sSt A w wd n b f) (24 + (6 * a + e)) = 0
  | 0, _, _, _, h => h
  | n + 1, b, f, hn, h => by
    rw [sSt]
    exact ln0_st ha he hA n (b + 1) _ (by omega) (ln0_th ha he (by omega) A.1.length 0 f (by omega) h)
theorem ln0_go {A : aD} {s wn : Int32} {a e : Nat} (ha : a < 6) (he : e < 6) (hA : A.1.length ≤ 6 ∧ A.2.1.length ≤ 6) : ∀ (n : Nat) (f : Nat → Int32), f (24 + (6 * a + e)) = 0 → (sGo A s wn n f) (24 + (6 * a + e)) = 0
  | 0, _, h => h
  | n + 1, f, h => by
    rw [sGo]
    refine ln0_go ha he hA n _ ?_
    unfold sHr
    rw [tU_o (by omega)]
    exact ln0_st ha he hA.1 A.2.1.length 0 f (by omega) h
theorem prL_km {a e : Nat} (ha : a < 6) (he : e < 6) (f : Nat → Int32) : prL a e (sKm 36 ((6 * a + e : Nat) : Int) f) f := by
  unfold prL sKm
  refine ⟨?_, ?_, ?_, ?_⟩ <;> rw [if_neg (by omega)]
def qLentIn (A : aD) (f : Nat → Int32) (x y m : Int32) : Int32 :=
  if ¬ (okS A x ∧ okT A y ∧ okH m) then -1
  else if qAh A f m (24 + lnI x y) = 0 then -2 else qAh A f m (24 + lnI x y)
def qY (A : aD) (f : Nat → Int32) (k : Nat) (m : Int32) : Nat → Int32 → Int32 → Int32
  | 0, _, acc => acc
  | i + 1, y, acc => qY A f k m i (y + 1) (acc + if (sGo A (A.2.2.1 11 + y) (A.2.2.1 9) m.toInt.toNat f) (24 + k) = 0 then 0 else 1)
theorem qY_0 {A : aD} {f : Nat → Int32} {a e : Nat} {m : Int32} (ha : a < 6) (he : e < 6) (hA : A.1.length ≤ 6 ∧ A.2.1.length ≤ 6) (h : f (24 + (6 * a + e)) = 0) : ∀ (i : Nat) (y acc : Int32), qY A f (6 * a + e) m i y acc = acc
  | 0, _, _ => rfl
  | i + 1, y, acc => by
    rw [qY, if_pos (ln0_go ha he hA _ _ h), Int32.add_zero, qY_0 ha he hA h i]
def qYear (A : aD) (f : Nat → Int32) (x y m s : Int32) : Int32 :=
  if ¬ (okS A x ∧ okT A y ∧ okH m ∧ 1 ≤ s.toInt ∧ s.toInt ≤ 20) then -1
  else qY A f (lnI x y) m s.toInt.toNat 0 0
section
variable {l : Launch} {G : qG} {d : Nat} {I : qMI} {L : qML} {R : qMR} {o n : Nat} {A : aD} {f : Nat → Int32} {h sl : Nat → Nat → Int32}
theorem sLentIn (hs : cS o A f n h sl I R) {x y m : Int32} : wkCi l G (d + 6) n_X8_lentIn [.ref 0, .int x, .int y, .int m] I L R (fun z I' L' R' => R' = R ∧ L' = L ∧ z = qLentIn A f x y m ∧ cS o A f n h sl I' R') := by
  obtain ⟨⟨hL, hR, h12⟩, s1, s2, s3⟩ := id hs
  have ho := hL.1
  have r2 := hR.1.1
  have r3 := hR.1.2.1
  have hB := hR.2.2.2.2 28 bAhead
  obtain ⟨⟨-, hn1⟩, -, hn2⟩ := cHas_n hL
  have bad : ¬ (okS A x ∧ okT A y ∧ okH m) → wkB l G (d + 5 + 1) n_X8_lentIn (fun r t' I' L' R' => t' = 336 ∧ ∃ z, r = some (.int z) ∧ R' = R ∧ L' = L ∧ z = qLentIn A f x y m ∧ cS o A f n h sl I' R') 16 [.ref 0, .int x, .int y, .int m, wkU] [] I L R := fun c => w_X8_lentIn_16 ⟨rfl, _, rfl, rfl, rfl, by unfold qLentIn; rw [if_pos c], hs⟩
  refine wkC_of 1 (by decide) (Nat.le_of_ble_eq_true rfl) (w_X8_lentIn_0 (sIsPair (d := d + 3) hL h12) (fun z I1 L1 R1 hq => ?_))
  obtain ⟨rfl, rfl, rfl, rfl⟩ := hq
  refine w_X8_lentIn_6 (fun q => bad (fun c => if1.1 q ⟨c.1, c.2.1⟩)) (fun q => w_X8_lentIn_9 (sIsAhead (d := d + 4)) (fun z I1 L1 R1 hq => ?_))
  obtain ⟨rfl, rfl, rfl, rfl⟩ := hq
  refine w_X8_lentIn_13 (fun q2 => ?_) (fun q2 => bad (fun c => if1.1 q2 c.2.2))
  have pr := if1.2 q
  have hm := if1.2 q2
  have c0 : okS A x ∧ okT A y ∧ okH m := ⟨pr.1, pr.2, hm⟩
  obtain ⟨⟨x0, x1⟩, y0, y1⟩ := pr
  have ha : x.toInt = x.toInt.toNat := by omega
  have he : y.toInt = y.toInt.toNat := by omega
  generalize hga : x.toInt.toNat = a at ha
  generalize hge : y.toInt.toNat = e at he
  have la := loan_t ha he (by omega) (by omega)
  have ca : (x * 6 + y).toNatClampNeg = 6 * a + e := by rw [tcn]; omega
  have v36 : vp_in (x * 6 + y) 36 := vin (by omega) (by omega)
  refine w_X8_lentIn_18 (sLoanOf (d := d + 4)) (fun z I1 L1 R1 hq => ?_)
  obtain ⟨rfl, rfl, rfl, rfl⟩ := hq
  refine w_X8_lentIn_23 r3 r2 (sCopy (d := d + 4) bAhead bNow hB (hR.2.2.2.2 21 bNow)) (fun I2 L2 R2 hq => ?_)
  obtain ⟨rfl, rfl, rfl⟩ := hq
  have f1 : ∀ k, (k < 28 ∨ 34 < k) → cpM I1 28 21 k = I1 k := fun k a => cpM_fr (by omega)
  have s28 : sEq (cpM I1 28 21) 28 f := cpM_eq (by omega) s1
  refine w_X8_lentIn_36 r3 (sKeep (d := d + 3) bAhead hB s28 (n := ((6 * a + e : Nat) : Int)) (by omega)) (fun I3 L3 R3 hq => ?_)
  obtain ⟨rfl, rfl, f3, s28'⟩ := hq
  have hs3 : cS o A f n h sl I3 R3 := cS_of hs (fun k a => (f3 k (by omega)).trans (f1 k (by omega)))
  have hL3 := hs3.1.1
  refine w_X8_lentIn_45 ho h12 r3 h12 h12 (sPass (d := d) hL3 hB bAhead s28' (n := m.toInt.toNat) (by omega)) (fun I4 L4 R4 hq => ?_)
  obtain ⟨rfl, rfl, f4, s4⟩ := hq
  rw [cHas_s hL3 (j := 11) (by decide) (by decide), cHas_s hL3 (j := 9) (by decide) (by decide)] at s4
  have hs4 := cS_of hs3 (J := I4) (fun k a => f4 k (by omega) (by omega) (by omega))
  have e33 : I4 33 (6 * a + e) = qAh A f m (24 + (6 * a + e)) := (sEq_at s4 (c := 5) (by omega) (sI5 (by omega))).trans (prL_go (by omega) (by omega) ⟨hn1, hn2⟩ _ _ _ (prL_km (by omega) (by omega) f)).2.2.1
  have ev : qLentIn A f x y m = if qAh A f m (24 + (6 * a + e)) = 0 then -2 else qAh A f m (24 + (6 * a + e)) := by
    unfold qLentIn lnI
    rw [if_neg (fun z => z c0), hga, hge]
  refine w_X8_lentIn_71 r3 (hB 5 (by decide) (by decide)) v36 (fun q5 => w_X8_lentIn_89 r3 (hB 5 (by decide) (by decide)) v36 (w_X8_lentIn_99 ⟨rfl, _, rfl, rfl, rfl, ?_, hs4⟩)) (fun q5 => w_X8_lentIn_84 (w_X8_lentIn_99 ⟨rfl, _, rfl, rfl, rfl, ?_, hs4⟩))
  · rw [ca, e33] at q5
    rw [ca, e33, ev, if_neg q5]
  · rw [ca, e33] at q5
    rw [ev, if_pos q5]
theorem sYearL (hs : cS o A f n h sl I R) {Q : qQ} {x y m s k : Int32} {a e : Nat} (ha : a < A.2.1.length) (he : e < A.1.length) (hk : k.toInt = ((6 * a + e : Nat) : Int)) (hm : okH m) : ∀ (i j : Nat) (t acc : Int32) (J : qMI), j + i = s.toInt.toNat → t.toInt = j → cS o A f n h sl J R → (∀ J' : qMI, cS o A f n h sl J' R → Q (some (.int (qY A f (6 * a + e) m i t acc))) 336 J' L R) → wkB l G (d + 5 + 1) n_X8_year Q 44 [.ref 0, .int x, .int y, .int m, .int s, .int k, .int acc, .int t] [] J L R := by
  obtain ⟨⟨hL, hR, h12⟩, -, -, -⟩ := hs
  have ho := hL.1
  have r2 := hR.1.1
  have r3 := hR.1.2.1
  have hB := hR.2.2.2.2 28 bAhead
  have hN := hR.2.2.2.2 21 bNow
  obtain ⟨⟨-, hn1⟩, -, hn2⟩ := cHas_n hL
  have ck : k.toNatClampNeg = 6 * a + e := by rw [tcn]; omega
  have v36 : vp_in k 36 := vin (by omega) (by omega)
  have hi := i_hi s
  intro i
  induction i with
  | zero =>
    intro j t acc J hn hy hJ q0
    exact w_X8_year_44 (fun _ => w_X8_year_142 (q0 J hJ)) (fun q => absurd (i_le.mpr (by omega)) q)
  | succ i ih =>
    intro j t acc J hn hy hJ q0
    have t1 : (t + 1).toInt = ((j + 1 : Nat) : Int) := by rw [i_s (by omega)]; omega
    have el : J 26 (6 * a + e) = f (24 + (6 * a + e)) := sEq_at hJ.2.1 (by omega) (sI5 (by omega))
    refine w_X8_year_44 (fun q => absurd (i_le.mp q) (by omega)) (fun _ => w_X8_year_51 r2 (hN 5 (by decide) (by decide)) v36 (fun q5 => w_X8_year_142 ?_) (fun q5 => w_X8_year_64 r3 r2 (sCopy (d := d + 4) bAhead bNow hB hN) (fun I2 L2 R2 hq => ?_)))
    · rw [ck, el] at q5
      have := q0 J hJ
      rw [qY_0 (by omega) (by omega) ⟨hn1, hn2⟩ q5] at this
      exact this
    obtain ⟨rfl, rfl, rfl⟩ := hq
    have f1 : ∀ k, (k < 28 ∨ 34 < k) → cpM J 28 21 k = J k := fun k a => cpM_fr (by omega)
    have s28 : sEq (cpM J 28 21) 28 f := cpM_eq (by omega) hJ.2.1
    refine w_X8_year_75 r3 (sKeep (d := d + 3) bAhead hB s28 (n := ((6 * a + e : Nat) : Int)) hk) (fun I3 L3 R3 hq => ?_)
    obtain ⟨rfl, rfl, f3, s28'⟩ := hq
    have hs3 : cS o A f n h sl I3 R3 := cS_of hJ (fun k a => (f3 k (by omega)).trans (f1 k (by omega)))
    have hL3 := hs3.1.1
    refine w_X8_year_84 ho h12 r3 h12 h12 (sPass (d := d) hL3 hB bAhead s28' (n := m.toInt.toNat) (by omega)) (fun I4 L4 R4 hq => ?_)
    obtain ⟨rfl, rfl, f4, s4⟩ := hq
    rw [cHas_s hL3 (j := 11) (by decide) (by decide), cHas_s hL3 (j := 9) (by decide) (by decide)] at s4
    have hs4 := cS_of hs3 (J := I4) (fun k a => f4 k (by omega) (by omega) (by omega))
    have e33 : I4 33 (6 * a + e) = (sGo A (A.2.2.1 11 + t) (A.2.2.1 9) m.toInt.toNat f) (24 + (6 * a + e)) := (sEq_at s4 (c := 5) (by omega) (sI5 (by omega))).trans (prL_go (by omega) (by omega) ⟨hn1, hn2⟩ _ _ _ (prL_km (by omega) (by omega) f)).2.2.1
    refine w_X8_year_113 r3 (hB 5 (by decide) (by decide)) v36 (fun q6 => w_X8_year_132 (w_X8_year_133 (ih (j + 1) _ _ I4 (by omega) t1 hs4 (fun J' j' => ?_)))) (fun q6 => w_X8_year_128 (w_X8_year_133 (ih (j + 1) _ _ I4 (by omega) t1 hs4 (fun J' j' => ?_))))
    · rw [ck, e33] at q6
      have := q0 J' j'
      rw [qY, if_pos q6] at this
      exact this
    · rw [ck, e33] at q6
      have := q0 J' j'
      rw [qY, if_neg q6] at this
      exact this
theorem sYear (hs : cS o A f n h sl I R) {x y m s : Int32} : wkCi l G (d + 6) n_X8_year [.ref 0, .int x, .int y, .int m, .int s] I L R (fun z I' L' R' => R' = R ∧ L' = L ∧ z = qYear A f x y m s ∧ cS o A f n h sl I' R') := by
  obtain ⟨⟨hL, hR, h12⟩, s1, s2, s3⟩ := id hs
  obtain ⟨⟨-, hn1⟩, -, hn2⟩ := cHas_n hL
  have z1 : (1 : Int32).toInt = 1 := rfl
  have z20 : (20 : Int32).toInt = 20 := rfl
  have bad : ¬ (okS A x ∧ okT A y ∧ okH m ∧ 1 ≤ s.toInt ∧ s.toInt ≤ 20) → wkB l G (d + 5 + 1) n_X8_year (fun r t' I' L' R' => t' = 336 ∧ ∃ z, r = some (.int z) ∧ R' = R ∧ L' = L ∧ z = qYear A f x y m s ∧ cS o A f n h sl I' R') 29 [.ref 0, .int x, .int y, .int m, .int s, wkU, wkU, wkU] [] I L R := fun c => w_X8_year_29 ⟨rfl, _, rfl, rfl, rfl, by unfold qYear; rw [if_pos c], hs⟩
  refine wkC_of 3 (by decide) (Nat.le_of_ble_eq_true rfl) (w_X8_year_0 (sIsPair (d := d + 3) hL h12) (fun z I1 L1 R1 hq => ?_))
  obtain ⟨rfl, rfl, rfl, rfl⟩ := hq
  refine w_X8_year_6 (fun q => bad (fun c => if1.1 q ⟨c.1, c.2.1⟩)) (fun q => w_X8_year_9 (sIsAhead (d := d + 4)) (fun z I1 L1 R1 hq => ?_))
  obtain ⟨rfl, rfl, rfl, rfl⟩ := hq
  refine w_X8_year_13 (fun q2 => bad (fun c => if1.1 q2 c.2.2.1)) (fun q2 => w_X8_year_16 (fun q3 => bad (fun c => ?_)) (fun q3 => w_X8_year_22 (fun q4 => ?_) (fun q4 => bad (fun c => q4 (i_le.mpr (by rw [z20]; exact c.2.2.2.2))))))
  · have q3 := i_lt.mp q3
    rw [z1] at q3
    have := c.2.2.2.1
    omega
  have q3 := nlt q3
  rw [z1] at q3
  have q4 := i_le.mp q4
  rw [z20] at q4
  have pr := if1.2 q
  have hm := if1.2 q2
  have c0 : okS A x ∧ okT A y ∧ okH m ∧ 1 ≤ s.toInt ∧ s.toInt ≤ 20 := ⟨pr.1, pr.2, hm, by omega, q4⟩
  obtain ⟨⟨x0, x1⟩, y0, y1⟩ := pr
  have ha : x.toInt = x.toInt.toNat := by omega
  have he : y.toInt = y.toInt.toNat := by omega
  have la := loan_t ha he (by omega) (by omega)
  refine w_X8_year_31 (sLoanOf (d := d + 4)) (fun z I1 L1 R1 hq => ?_)
  obtain ⟨rfl, rfl, rfl, rfl⟩ := hq
  refine w_X8_year_36 (sYearL (d := d) hs (a := x.toInt.toNat) (e := y.toInt.toNat) (by omega) (by omega) (by omega) hm s.toInt.toNat 0 0 0 I1 (by omega) rfl hs (fun J' j => ⟨rfl, _, rfl, rfl, rfl, ?_, j⟩))
  unfold qYear lnI
  rw [if_neg (fun z => z c0)]
end
