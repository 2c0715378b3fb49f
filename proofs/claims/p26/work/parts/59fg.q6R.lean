/-! ===== worth: the reference's ===== -/
section
variable {A : aD} {g : Nat → Int32} {a e : Nat}
theorem hs_1 (ha : a < A.2.1.length) (he : e < A.1.length) (hA : A.1.length ≤ 6 ∧ A.2.1.length ≤ 6) (hz : zO a e g) (hl : ¬ g (24 + (6 * a + e)) = 0) (hs : pSn A g a e) : (sHr A 0 0 g) a = g a ∧ (sHr A 0 0 g) 96 = g 96 + 1 ∧ (sHr A 0 0 g) (24 + (6 * a + e)) = g (24 + (6 * a + e)) ∧ (sHr A 0 0 g) (18 + a) = g (18 + a) + pRt A (g 96) (pHt A (g 96)) (g a) (tX A e) (tT A e) (g (24 + (6 * a + e))) ∧ (sHr A 0 0 g) (60 + (6 * a + e)) = 0 := by
  rw [hr_1 ha he hA hz]
  unfold sLn
  rw [if_neg hl, if_pos ⟨rfl, hs⟩]
  refine ⟨?_, ?_, ?_, ?_, ?_⟩
  · rw [tU_o (by omega), tU_o (by omega), tU_o (by omega), tU_o (by omega)]
  · rw [tU_s]
  · rw [tU_o (by omega), tU_o (by omega), tU_o (by omega), tU_o (by omega)]
  · rw [tU_o (by omega), tU_o (by omega), tU_s]
  · rw [tU_o (by omega), tU_s]
theorem hs_2 (ha : a < A.2.1.length) (he : e < A.1.length) (hA : A.1.length ≤ 6 ∧ A.2.1.length ≤ 6) (hz : zO a e g) (hl : ¬ g (24 + (6 * a + e)) = 0) (hs : ¬ pSn A g a e) (hu : g (60 + (6 * a + e)) + 1 < A.2.2.1 8) : (sHr A 0 0 g) a = g a ∧ (sHr A 0 0 g) 96 = g 96 + 1 ∧ (sHr A 0 0 g) (24 + (6 * a + e)) = (if g (24 + (6 * a + e)) + g (24 + (6 * a + e)) * pIn A (g 96) (pHt A (g 96)) (g (24 + (6 * a + e))) / 100 < 99999 then g (24 + (6 * a + e)) + g (24 + (6 * a + e)) * pIn A (g 96) (pHt A (g 96)) (g (24 + (6 * a + e))) / 100 else 99999) ∧ (sHr A 0 0 g) (18 + a) = g (18 + a) ∧ (sHr A 0 0 g) (60 + (6 * a + e)) = g (60 + (6 * a + e)) + 1 := by
  rw [hr_1 ha he hA hz]
  unfold sLn
  rw [if_neg hl, if_neg (fun z => hs z.2), if_pos hu]
  refine ⟨?_, ?_, ?_, ?_, ?_⟩
  · rw [tU_o (by omega), tU_o (by omega), tU_o (by omega)]
  · rw [tU_s]
  · rw [tU_o (by omega), tU_s]
  · rw [tU_o (by omega), tU_o (by omega), tU_o (by omega)]
  · rw [tU_o (by omega), tU_o (by omega), tU_s]
theorem hs_3 (ha : a < A.2.1.length) (he : e < A.1.length) (hA : A.1.length ≤ 6 ∧ A.2.1.length ≤ 6) (hz : zO a e g) (hl : ¬ g (24 + (6 * a + e)) = 0) (hs : ¬ pSn A g a e) (hu : ¬ g (60 + (6 * a + e)) + 1 < A.2.2.1 8) : (sHr A 0 0 g) a = g a ∧ (sHr A 0 0 g) 96 = g 96 + 1 ∧ (sHr A 0 0 g) (24 + (6 * a + e)) = 0 ∧ (sHr A 0 0 g) (18 + a) = g (18 + a) := by
  rw [hr_1 ha he hA hz]
  unfold sLn
  rw [if_neg hl, if_neg (fun z => hs z.2), if_neg hu]
  refine ⟨?_, ?_, ?_, ?_⟩
  · rw [tU_o (by omega), tU_o (by omega), tU_o (by omega), tU_o (by omega), tU_o (by omega)]
  · rw [tU_s]
  · rw [tU_o (by omega), tU_o (by omega), tU_o (by omega), tU_s]
  · rw [tU_o (by omega), tU_o (by omega), tU_o (by omega), tU_o (by omega), tU_o (by omega)]
end
section
variable {l : Launch} {G : qG} {d : Nat} {I : qMI} {L : qML} {R : qMR} {v n : Nat} {A : aD} {f : Nat → Int32} {h sl : Nat → Nat → Int32}
theorem uWoS (hR : wkR R) (hs : rS v A f n h sl I) (hA : aOk A) (hf : fOk A f) {Q : qQ} {x y m t : Int32} {a e : Nat} (ha : x.toInt = a) (he : y.toInt = e) (hA1 : a < A.2.1.length) (hE : e < A.1.length) {g : Nat → Int32} {b u c : Int32} {J : qMI} (hw : woI A f g a e m t b u c) (hJ : rW I J) (q0 : ∀ J' : qMI, rW I J' → Q (some (.int (woA A g a e m))) 336 J' L R) : wkB l G (d + 7 + 1) n_X9_worth Q 155 [.ref 292, .int x, .int y, .int m, .int t, .int b, .int u, .int c, .int t, wkU] [] J L R := by
  have n6 := hA.1
  have cx : x.toNatClampNeg = a := by rw [tcn]; omega
  have t96 : (96 : Int32).toNatClampNeg = 96 := rfl
  obtain ⟨w1, w2, w3, w4, w5, w6, w7⟩ := hw
  have lb := (w2.2.2.1 (6 * a + e) (by omega)).1
  rw [← w5] at lb
  refine w_X9_worth_155 (fun q => w_X9_worth_192 (w_X9_worth_194 ?_)) (fun q => ?_)
  · have := q0 J hJ
    rw [woA_z (by rw [← w5]; exact (le0 lb).mp q), ← w6] at this
    exact this
  · have hsJ := rS_g hs (rFg_w hJ)
    refine w_X9_worth_160 hR (vin (by omega) (by omega)) (vin (by decide) (by decide)) (P := fun z I' L' => L' = L ∧ rW J I' ∧ z = if pSn A g a e then 1 else 0) (by rw [cx, t96, hsJ.2.1 96 (by omega), hsJ.2.1 a (by omega), ← w3, ← w4]; exact uSees (d := d + 1) hR hsJ.1 (w2.1 a (by omega)) he hE (hA.2.1 e hE)) (fun z I3 L3 hq => ?_)
    obtain ⟨rfl, f1, rfl⟩ := hq
    have := q0 I3 (rW_tr hJ f1)
    unfold woA at this
    refine w_X9_worth_181 (fun q2 => w_X9_worth_192 (w_X9_worth_194 ?_)) (fun q2 => w_X9_worth_184 (w_X9_worth_194 ?_))
    · rw [if_neg (if1.1 q2), Int32.add_zero, Int32.sub_eq_add_neg, Int32.add_comm, ← w6] at this
      exact this
    · rw [if_pos (if1.2 q2), Int32.sub_eq_add_neg, Int32.add_comm, ← Int32.add_assoc, ← w6, ← w5] at this
      exact this
theorem uWoL (hR : wkR R) (hs : rS v A f n h sl I) (hA : aOk A) (hf : fOk A f) {Q : qQ} {x y m t : Int32} {a e : Nat} (ha : x.toInt = a) (he : y.toInt = e) (hA1 : a < A.2.1.length) (hE : e < A.1.length) (ht : 1 ≤ t.toInt ∧ t.toInt ≤ 48) : ∀ (i j : Nat) (g : Nat → Int32) (k b u c : Int32) (J : qMI), j + i = t.toInt.toNat → k.toInt = j → woI A f g a e m k b u c → rW I J → (∀ J' : qMI, rW I J' → Q (some (.int (woA A (sGo A 0 0 i g) a e m))) 336 J' L R) → wkB l G (d + 7 + 1) n_X9_worth Q 52 [.ref 292, .int x, .int y, .int m, .int t, .int b, .int u, .int c, .int k, wkU] [] J L R := by
  have n6 := hA.1
  have hv := hs.1.1.1
  have cx : x.toNatClampNeg = a := by rw [tcn]; omega
  have t96 : (96 : Int32).toNatClampNeg = 96 := rfl
  intro i
  induction i with
  | zero =>
    intro j g k b u c J hn hk hw hJ q0
    have kt : k = t := i_eq.mpr (by omega)
    subst kt
    exact w_X9_worth_52 (fun _ => uWoS (d := d) hR hs hA hf ha he hA1 hE hw hJ q0) (fun q => absurd (i_le.mpr (by omega)) q)
  | succ i ih =>
    intro j g k b u c J hn hk hw hJ q0
    obtain ⟨w1, w2, w3, w4, w5, w6, w7⟩ := id hw
    have lb := w2.2.2.1 (6 * a + e) (by omega)
    rw [← w5] at lb
    have k1 : (k + 1).toInt = ((j + 1 : Nat) : Int) := by rw [i_s (by omega)]; omega
    have hsJ := rS_g hs (rFg_w hJ)
    have e9 : J 323 (96 : Int32).toNatClampNeg + k = g 96 := by rw [t96, hsJ.2.1 96 (by omega), w4]
    have ex : J 323 x.toNatClampNeg = g a := by rw [cx, hsJ.2.1 a (by omega), w3]
    have bx := w2.1 a (by omega)
    have be := hA.2.1 e hE
    have z1 := zO_hr hA1 hE n6 w1
    have z2 : fOk A (sHr A 0 0 g) := fOk_hr hA w2
    refine w_X9_worth_52 (fun q => absurd (i_le.mp q) (by omega)) (fun _ => w_X9_worth_59 (fun q => ?_) (fun q => ?_))
    · have b0 := (le0 lb.1).mp q
      have g0 : g (24 + (6 * a + e)) = 0 := by rw [← w5]; exact b0
      have gz := go_z (A := A) hA1 hE n6 (i + 1) g w1 g0
      refine w_X9_worth_155 (fun _ => w_X9_worth_192 (w_X9_worth_194 ?_)) (fun q2 => absurd q q2)
      have := q0 J hJ
      rw [woA_z gz.2, gz.1, ← w6] at this
      exact this
    have b0 : ¬ b = 0 := fun z => q ((le0 lb.1).mpr z)
    have g0 : ¬ g (24 + (6 * a + e)) = 0 := fun z => b0 (w5.trans z)
    have wu := w7 b0
    refine w_X9_worth_64 hR (vin (by decide) (by decide)) (vin (by omega) (by omega)) (P := fun z I' L' => L' = L ∧ rW J I' ∧ z = if pSn A g a e then 1 else 0) (by rw [e9, ex]; exact uSees (d := d + 1) hR hsJ.1 bx he hE be) (fun z I3 L3 hq => ?_)
    obtain ⟨rfl, f1, rfl⟩ := hq
    rw [e9]
    have j1 := rW_tr hJ f1
    have hs1 := rS_g hs (rFg_w j1)
    refine w_X9_worth_89 (fun q2 => ?_) (fun q2 => ?_)
    · have us := if1.1 q2
      have h18' := hs1.1.1.2
      have cl : (I3 292 18).toNatClampNeg = v := by rw [tcn]; omega
      have eg : I3 307 v = A.2.2.1 8 := rHas_s hs1.1 (j := 8) (by decide) (by decide)
      refine w_X9_worth_118 hR (vin (by omega) (by omega)) (fun q3 => w_X9_worth_146 (w_X9_worth_147 (w_X9_worth_149 (ih (j + 1) (sHr A 0 0 g) _ _ _ _ I3 (by omega) k1 ?_ j1 (fun J' j' => ?_))))) (fun q3 => w_X9_worth_135 (uGrows (d := d + 2) hR hs1.1) (fun z I4 L4 hq => ?_))
      · rw [cl, eg, wu] at q3
        obtain ⟨v1, v2, v3, v4⟩ := hs_3 hA1 hE n6 w1 g0 us (fun z => by have := i_lt.mp z; have := i_le.mp q3; omega)
        exact ⟨z1, z2, v1.trans w3, by rw [v2, w4, Int32.add_assoc], v3.symm, by rw [v4]; exact w6, fun z => absurd rfl z⟩
      · have := q0 J' j'
        rw [sGo] at this
        exact this
      · obtain ⟨rfl, f4, rfl⟩ := hq
        rw [cl, eg, wu] at q3
        obtain ⟨v1, v2, v3, v4, v5⟩ := hs_2 hA1 hE n6 w1 g0 us (i_lt.mpr (by have := nle q3; omega))
        have gb := grow_b (A := A) (n := b) (h := g 96) (w := pHt A (g 96)) lb.1 lb.2
        refine w_X9_worth_143 (w_X9_worth_147 (w_X9_worth_149 (ih (j + 1) (sHr A 0 0 g) _ _ _ _ I4 (by omega) k1 ?_ (rW_tr j1 f4) (fun J' j' => ?_))))
        · refine ⟨z1, z2, v1.trans w3, by rw [v2, w4, Int32.add_assoc], ?_, by rw [v4]; exact w6, fun _ => by rw [v5, wu]⟩
          rw [v3, mnIn (by omega), w5]
        · have := q0 J' j'
          rw [sGo] at this
          exact this
    · have sn := if1.2 q2
      obtain ⟨v1, v2, v3, v4, v5⟩ := hs_1 hA1 hE n6 w1 g0 sn
      refine w_X9_worth_92 hR (vin (by omega) (by omega)) (P := fun z I' L' => L' = L3 ∧ rW I3 I' ∧ z = pRt A (g 96) (pHt A (g 96)) (g a) (tX A e) (tT A e) b) (by rw [show I3 323 x.toNatClampNeg = g a by rw [cx, hs1.2.1 a (by omega), w3]]; exact uRent (d := d + 2) hR hs1.1 bx he hE be) (fun z I4 L4 hq => ?_)
      obtain ⟨rfl, f4, rfl⟩ := hq
      refine w_X9_worth_109 (w_X9_worth_149 (ih (j + 1) (sHr A 0 0 g) _ _ _ _ I4 (by omega) k1 ?_ (rW_tr j1 f4) (fun J' j' => ?_)))
      · refine ⟨z1, z2, v1.trans w3, by rw [v2, w4, Int32.add_assoc], by rw [v3]; exact w5, ?_, fun _ => v5.symm⟩
        rw [v4, ← Int32.add_assoc, ← w6, ← w5]
      · have := q0 J' j'
        rw [sGo] at this
        exact this
theorem fOk_wo (hA : aOk A) (hf : fOk A f) {m : Int32} {a e : Nat} (hA1 : a < A.2.1.length) (hE : e < A.1.length) (hm : 1 ≤ m.toInt ∧ m.toInt ≤ 999) : fOk A (woF f a e m) := by
  have n6 := hA.1
  have kz : ∀ k, k < 24 ∨ 96 ≤ k → sKm 36 (-1) f k = f k := fun k hk => by unfold sKm; rw [if_neg (by omega)]
  have k0 : ∀ k, 24 ≤ k → k < 96 → sKm 36 (-1) f k = 0 := fun k h1 h2 => by unfold sKm; rw [if_pos (by omega)]
  have w24 : ∀ k, k < 36 → woF f a e m (24 + k) = if k = 6 * a + e then m else 0 := fun k hk => by
    unfold woF
    by_cases c : k = 6 * a + e
    · rw [if_pos c, c, tU_s]
    · rw [if_neg c, tU_o (by omega), tU_o (by omega), k0 _ (by omega) (by omega)]
  refine ⟨fun b hb => ?_, fun b hb => ?_, fun k hk => ?_, fun k hk q => ?_, fun b c hb hc hn => ?_⟩
  · unfold woF
    rw [tU_o (by omega), tU_o (by omega), kz b (by omega)]
    exact hf.1 b hb
  · unfold woF
    rw [tU_o (by omega), tU_o (by omega), kz _ (by omega)]
    exact hf.2.1 b hb
  · rw [w24 k hk]
    split
    · omega
    · decide
  · unfold woF
    rw [tU_o (by omega), tU_o (by omega), k0 _ (by omega) (by omega)]
  · rw [w24 _ (by omega), if_neg (fun z => hn ⟨by omega, by omega⟩)]
theorem uWorth (hR : wkR R) (hs : rS v A f n h sl I) (hA : aOk A) (hf : fOk A f) {x y m t : Int32} : wkI l G (d + 8) n_X9_worth [.ref 292, .int x, .int y, .int m, .int t] I L R (fun z I' L' => L' = L ∧ z = qWorth A f x y m t ∧ rS v A f n h sl I' ∧ rMf I I') := by
  obtain ⟨hL, s1, s2, s3⟩ := id hs
  have n6 := hA.1
  have z1 : (1 : Int32).toInt = 1 := rfl
  have z9 : (999 : Int32).toInt = 999 := rfl
  have bad : ¬ (okS A x ∧ okT A y ∧ (1 ≤ m.toInt ∧ m.toInt ≤ 999) ∧ 1 ≤ t.toInt ∧ t.toInt ≤ 48) → wkB l G (d + 7 + 1) n_X9_worth (wkPI R (fun z I' L' => L' = L ∧ z = qWorth A f x y m t ∧ rS v A f n h sl I' ∧ rMf I I')) 35 [.ref 292, .int x, .int y, .int m, .int t, wkU, wkU, wkU, wkU, wkU] [] I L R := fun c => w_X9_worth_35 ⟨rfl, rfl, _, rfl, rfl, by unfold qWorth; rw [if_pos c], hs, rMf_rf I⟩
  refine wkC_of 5 (by decide) (Nat.le_of_ble_eq_true rfl) (w_X9_worth_0 (uIsSeat (d := d + 5) hR hL) (fun z I1 L1 hq => ?_))
  obtain ⟨rfl, rfl, rfl⟩ := hq
  refine w_X9_worth_5 (fun q => bad (fun c => if1.1 q c.1)) (fun q => w_X9_worth_8 (uIsThing (d := d + 5) hR hL) (fun z I1 L1 hq => ?_))
  obtain ⟨rfl, rfl, rfl⟩ := hq
  refine w_X9_worth_13 (fun q2 => bad (fun c => if1.1 q2 c.2.1)) (fun q2 => w_X9_worth_16 (uIn (d := d + 6)) (fun z I1 L1 hq => ?_))
  obtain ⟨rfl, rfl, rfl⟩ := hq
  refine w_X9_worth_24 (fun q3 => bad (fun c => if1.1 q3 (by rw [z1, z9]; exact c.2.2.1))) (fun q3 => w_X9_worth_27 (uIsSome (d := d + 5)) (fun z I1 L1 hq => ?_))
  obtain ⟨rfl, rfl, rfl⟩ := hq
  refine w_X9_worth_32 (fun q4 => ?_) (fun q4 => bad (fun c => if1.1 q4 c.2.2.2))
  have c3 := if1.2 q3
  rw [z1, z9] at c3
  have c0 : okS A x ∧ okT A y ∧ (1 ≤ m.toInt ∧ m.toInt ≤ 999) ∧ 1 ≤ t.toInt ∧ t.toInt ≤ 48 := ⟨if1.2 q, if1.2 q2, c3, if1.2 q4⟩
  have x0 := c0.1
  have y0 := c0.2.1
  have ha : x.toInt = x.toInt.toNat := by omega
  have he : y.toInt = y.toInt.toNat := by omega
  have ev : qWorth A f x y m t = woA A (sGo A 0 0 t.toInt.toNat (woF f x.toInt.toNat y.toInt.toNat m)) x.toInt.toNat y.toInt.toNat m := by
    unfold qWorth
    rw [if_neg (fun z => z c0)]
  rw [ev]
  generalize hga : x.toInt.toNat = a at ha
  generalize hge : y.toInt.toNat = e at he
  have kz : ∀ k, k < 24 ∨ 96 ≤ k → sKm 36 (-1) f k = f k := fun k hk => by unfold sKm; rw [if_neg (by omega)]
  have k0 : ∀ k, 24 ≤ k → k < 96 → sKm 36 (-1) f k = 0 := fun k h1 h2 => by unfold sKm; rw [if_pos (by omega)]
  refine w_X9_worth_39 (uWoL (d := d) hR hs hA hf ha he (by omega) (by omega) c0.2.2.2 t.toInt.toNat 0 (woF f a e m) 0 m 0 (-m) I1 (by omega) rfl ⟨?_, fOk_wo hA hf (by omega) (by omega) c0.2.2.1, ?_, ?_, ?_, ?_, fun _ => ?_⟩ (rW_rf I1) (fun J' j => ⟨rfl, rfl, _, rfl, rfl, rfl, rS_g hs (rFg_w j), rMf_g (rFg_w j)⟩))
  · intro b c hb hc hn
    unfold woF
    rw [tU_o (by omega), tU_o (by omega), k0 _ (by omega) (by omega)]
  · unfold woF
    rw [tU_o (by omega), tU_o (by omega), kz _ (by omega)]
  · unfold woF
    rw [tU_o (by omega), tU_o (by omega), kz _ (by omega), Int32.add_zero]
  · unfold woF
    rw [tU_s]
  · unfold woF
    rw [tU_o (by omega), tU_s, Int32.add_zero]
  · unfold woF
    rw [tU_o (by omega), tU_o (by omega), k0 _ (by omega) (by omega)]
end
