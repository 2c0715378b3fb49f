/-! ===== the reference's count ===== -/
section
variable {l : Launch} {G : qG} {d : Nat} {I : qMI} {L : qML} {R : qMR} {v n : Nat} {A : aD} {f : Nat → Int32} {h sl : Nat → Nat → Int32}
theorem uSumL (hR : wkR R) (hs : rEq I 323 f) {Q : qQ} {x z : Int32} {b N : Nat} (hx : x.toInt = b) (hz : z.toInt = N) (hb : b + N ≤ 97) : ∀ (m k : Nat) (y acc : Int32), k + m = N → y.toInt = ((b + k : Nat) : Int) → Q (some (.int (qS (fun i => f (b + i)) m k acc))) 336 I L R → wkB l G (d + 1) n_X9_sumNow Q 5 [.ref 292, .int x, .int z, .int acc, .int y] [] I L R := by
  have xz : (x + z).toInt = b + N := by rw [i_add (by omega) (by omega), hx, hz]
  intro m
  induction m with
  | zero =>
    intro k y acc hn hy q0
    exact w_X9_sumNow_5 (fun _ => w_X9_sumNow_29 q0) (fun q => absurd (i_le.mpr (by rw [xz]; omega)) q)
  | succ m ih =>
    intro k y acc hn hy q0
    have y1 : (y + 1).toInt = ((b + (k + 1) : Nat) : Int) := by rw [i_s (by omega)]; omega
    have cy : y.toNatClampNeg = b + k := by rw [tcn]; omega
    refine w_X9_sumNow_5 (fun q => absurd (i_le.mp q) (by rw [xz]; omega)) (fun _ => w_X9_sumNow_13 hR (vin (by omega) (by omega)) (ih (k + 1) _ _ (by omega) y1 ?_))
    rw [cy, hs _ (by omega)]
    exact q0
theorem uSum (hR : wkR R) (hs : rEq I 323 f) {x z : Int32} {b N : Nat} (hx : x.toInt = b) (hz : z.toInt = N) (hb : b + N ≤ 97) : wkI l G (d + 1) n_X9_sumNow [.ref 292, .int x, .int z] I L R (fun y I' L' => L' = L ∧ I' = I ∧ y = qS (fun i => f (b + i)) N 0 0) :=
  wkC_of 2 (by decide) (Nat.le_of_ble_eq_true rfl) (w_X9_sumNow_0 (uSumL (d := d) hR hs hx hz hb N 0 _ 0 (by omega) (by rw [hx]; rfl) ⟨rfl, rfl, _, rfl, rfl, rfl, rfl⟩))
theorem uCntL (hR : wkR R) (hs : rEq I 324 f) (hf : fOk A f) {Q : qQ} {w : Int32} : ∀ (m k : Nat) (y acc : Int32), k + m = 36 → y.toInt = ((24 + k : Nat) : Int) → Q (some (.int (qS (fun i => if f (24 + i) = 0 then 0 else 1) m k acc))) 336 I L R → wkB l G (d + 1) n_X9_count Q 141 [.ref 292, .int w, .int acc, .int y] [] I L R := by
  intro m
  induction m with
  | zero =>
    intro k y acc hn hy q0
    exact w_X9_count_141 (fun _ => w_X9_count_165 q0) (fun q => absurd (i_le.mpr (by rw [show (60 : Int32).toInt = 60 from rfl]; omega)) q)
  | succ m ih =>
    intro k y acc hn hy q0
    have y1 : (y + 1).toInt = ((24 + (k + 1) : Nat) : Int) := by rw [i_s (by omega)]; omega
    have cy : y.toNatClampNeg = 24 + k := by rw [tcn]; omega
    have lb := (hf.2.2.1 k (by omega)).1
    refine w_X9_count_141 (fun q => absurd (i_le.mp q) (by rw [show (60 : Int32).toInt = 60 from rfl]; omega)) (fun _ => w_X9_count_147 hR (vin (by omega) (by omega)) (fun q => w_X9_count_159 (ih (k + 1) _ _ (by omega) y1 ?_)) (fun q => w_X9_count_156 (w_X9_count_159 (ih (k + 1) _ _ (by omega) y1 ?_))))
    · rw [cy, hs _ (by omega)] at q
      rw [qS, if_pos ((le0 lb).mp q), Int32.add_zero] at q0
      exact q0
    · rw [cy, hs _ (by omega)] at q
      rw [qS, if_neg (fun z => q ((le0 lb).mpr z))] at q0
      exact q0
theorem uSnL (hR : wkR R) (hL : rHas v I A) (hA : aOk A) (hf : fOk A f) (hs : rEq I 324 f) {Q : qQ} {w : Int32} : ∀ (m a : Nat) (y acc : Int32) (J : qMI), a + m = A.2.1.length → y.toInt = a → rW I J → (∀ J' : qMI, rW I J' → Q (some (.int (qO (fun a => qSeesT A (f 96) (pHt A (f 96)) (f a)) m a acc))) 336 J' L R) → wkB l G (d + 7 + 1) n_X9_count Q 290 [.ref 292, .int w, .int acc, .int y] [] J L R := by
  have n6 := hA.1
  have hv := hL.1.1
  intro m
  induction m with
  | zero =>
    intro a y acc J hn hy hJ k
    have hLJ := rHas_q hJ hL
    have h18' := hLJ.1.2
    have cl : (J 292 18).toNatClampNeg = v := by rw [tcn]; omega
    have hn2 := (rHas_n hLJ).2.1
    exact w_X9_count_290 hR (vin (by omega) (by omega)) (fun _ => w_X9_count_317 (k J hJ)) (fun q => absurd (i_le.mpr (by rw [cl]; omega)) q)
  | succ m ih =>
    intro a y acc J hn hy hJ k
    have hLJ := rHas_q hJ hL
    have h18' := hLJ.1.2
    have cl : (J 292 18).toNatClampNeg = v := by rw [tcn]; omega
    have hn2 := (rHas_n hLJ).2.1
    have y1 : (y + 1).toInt = ((a + 1 : Nat) : Int) := by rw [i_s (by omega)]; omega
    have e2 := rEq_w hJ hs
    refine w_X9_count_290 hR (vin (by omega) (by omega)) (fun q => absurd (i_le.mp q) (by rw [cl]; omega)) (fun _ => w_X9_count_303 (uSeesBits (d := d) hR hLJ hA hf e2 hy (by omega)) (fun z I3 L3 hq => ?_))
    obtain ⟨rfl, f1, rfl⟩ := hq
    exact w_X9_count_309 (ih (a + 1) _ _ _ (by omega) y1 (rW_tr hJ f1) (fun J' j => k J' j))
theorem uCount (hR : wkR R) (hs : rS v A f n h sl I) (hA : aOk A) (hf : fOk A f) {w : Int32} : wkI l G (d + 9) n_X9_count [.ref 292, .int w] I L R (fun z I' L' => L' = L ∧ z = qCount A f (I 292 2) (I 292 51) (I 292 58) (hlS (I 334)) w ∧ rS v A f n h sl I' ∧ rMf I I') := by
  obtain ⟨hL, s1, s2, s3⟩ := id hs
  have n6 := hA.1
  refine wkC_of 2 (by decide) (Nat.le_of_ble_eq_true rfl) (w_X9_count_0 (uCopies (d := d + 7) hR hL s1) (fun I2 L2 hq => ?_))
  obtain ⟨rfl, f2, g2, e50, e2⟩ := hq
  have hs2 := rS_cp hs f2 g2
  have r2 : rMf I I2 := rMf_cp g2
  have hv := hs2.1.1.1
  have h18 := hs2.1.1.2
  have cl : (I2 292 18).toNatClampNeg = v := by rw [tcn]; omega
  obtain ⟨hn1, hn2⟩ := rHas_n hs2.1
  have e96 : I2 324 (96 : Int32).toNatClampNeg = f 96 := e2 96 (by omega)
  refine w_X9_count_4 (qSwt_e (fun n0 => ?_) (fun n0 => qSwt_e (fun n1 => ?_) (fun n1 => qSwt_e (fun n2 => ?_) (fun n2 => qSwt_e (fun n3 => ?_) (fun n3 => qSwt_e (fun n4 => ?_) (fun n4 => qSwt_e (fun n5 => ?_) (fun n5 => qSwt_e (fun n6 => ?_) (fun n6 => qSwt_e (fun n7 => ?_) (fun n7 => qSwt_e (fun n8 => ?_) (fun n8 => qSwt_e (fun n9 => ?_) (fun n9 => qSwt_e (fun n10 => ?_) (fun n10 => qSwt_e (fun n11 => ?_) (fun n11 => qSwt_e (fun n12 => ?_) (fun n12 => qSwt_e (fun n13 => ?_) (fun n13 => qSwt_e (fun n14 => ?_) (fun n14 => qSwt_e (fun n15 => ?_) (fun n15 => qSwt_e (fun n16 => ?_) (fun n16 => qSwt_d ?_))))))))))))))))))
  · subst n0
    refine w_X9_count_88 hR (vin (by omega) (by omega)) ⟨rfl, rfl, _, rfl, rfl, ?_, hs2, r2⟩
    unfold qCount
    rw [if_pos (by decide), cl, ← ofN hn1.1 (by omega)]
  · subst n1
    refine w_X9_count_98 hR (vin (by omega) (by omega)) ⟨rfl, rfl, _, rfl, rfl, ?_, hs2, r2⟩
    unfold qCount
    rw [if_neg (by decide), if_pos (by decide), cl, ← ofN hn2.1 (by omega)]
  · subst n2
    refine w_X9_count_108 hR (vin (by decide) (by decide)) ⟨rfl, rfl, _, rfl, rfl, ?_, hs2, r2⟩
    unfold qCount
    rw [if_neg (by decide), if_neg (by decide), if_pos (by decide), e96]
  · subst n3
    refine w_X9_count_116 hR (vin (by decide) (by decide)) ⟨rfl, rfl, _, rfl, rfl, ?_, hs2, r2⟩
    unfold qCount
    rw [if_neg (by decide), if_neg (by decide), if_neg (by decide), if_pos (by decide), e96]
  · subst n4
    refine w_X9_count_127 hR (vin (by decide) (by decide)) ⟨rfl, rfl, _, rfl, rfl, ?_, hs2, r2⟩
    unfold qCount
    rw [if_neg (by decide), if_neg (by decide), if_neg (by decide), if_neg (by decide), if_pos (by decide), e96]
  · subst n5
    refine w_X9_count_138 (uCntL (d := d + 8) hR e2 hf 36 0 24 0 (by omega) rfl ⟨rfl, rfl, _, rfl, rfl, ?_, hs2, r2⟩)
    unfold qCount
    rw [if_neg (by decide), if_neg (by decide), if_neg (by decide), if_neg (by decide), if_neg (by decide), if_pos (by decide)]
  · subst n6
    refine w_X9_count_167 (uSum (d := d + 7) hR hs2.2.1 (b := 24) (N := 36) rfl rfl (by decide)) (fun z I3 L3 hq => ?_)
    obtain ⟨rfl, rfl, rfl⟩ := hq
    refine w_X9_count_175 ⟨rfl, rfl, _, rfl, rfl, ?_, hs2, r2⟩
    unfold qCount
    rw [if_neg (by decide), if_neg (by decide), if_neg (by decide), if_neg (by decide), if_neg (by decide), if_neg (by decide), if_pos (by decide)]
  · subst n7
    refine w_X9_count_176 (uSum (d := d + 7) hR hs2.2.1 (b := 6) (N := 6) rfl rfl (by decide)) (fun z I3 L3 hq => ?_)
    obtain ⟨rfl, rfl, rfl⟩ := hq
    refine w_X9_count_184 ⟨rfl, rfl, _, rfl, rfl, ?_, hs2, r2⟩
    unfold qCount
    rw [if_neg (by decide), if_neg (by decide), if_neg (by decide), if_neg (by decide), if_neg (by decide), if_neg (by decide), if_neg (by decide), if_pos (by decide)]
  · subst n8
    refine w_X9_count_185 (uSum (d := d + 7) hR hs2.2.1 (b := 12) (N := 6) rfl rfl (by decide)) (fun z I3 L3 hq => ?_)
    obtain ⟨rfl, rfl, rfl⟩ := hq
    refine w_X9_count_193 ⟨rfl, rfl, _, rfl, rfl, ?_, hs2, r2⟩
    unfold qCount
    rw [if_neg (by decide), if_neg (by decide), if_neg (by decide), if_neg (by decide), if_neg (by decide), if_neg (by decide), if_neg (by decide), if_neg (by decide), if_pos (by decide)]
  · subst n9
    refine w_X9_count_194 ⟨rfl, rfl, _, rfl, rfl, ?_, hs2, r2⟩
    unfold qCount
    rw [if_neg (by decide), if_neg (by decide), if_neg (by decide), if_neg (by decide), if_neg (by decide), if_neg (by decide), if_neg (by decide), if_neg (by decide), if_neg (by decide), if_pos (by decide), g2 2 (by decide)]
  · subst n10
    refine w_X9_count_199 ⟨rfl, rfl, _, rfl, rfl, ?_, hs2, r2⟩
    unfold qCount
    rw [if_neg (by decide), if_neg (by decide), if_neg (by decide), if_neg (by decide), if_neg (by decide), if_neg (by decide), if_neg (by decide), if_neg (by decide), if_neg (by decide), if_neg (by decide), if_pos (by decide), g2 51 (by decide)]
  · subst n11
    refine w_X9_count_204 ⟨rfl, rfl, _, rfl, rfl, ?_, hs2, r2⟩
    unfold qCount
    rw [if_neg (by decide), if_neg (by decide), if_neg (by decide), if_neg (by decide), if_neg (by decide), if_neg (by decide), if_neg (by decide), if_neg (by decide), if_neg (by decide), if_neg (by decide), if_neg (by decide), if_pos (by decide), g2 58 (by decide)]
  · subst n12
    have ev12 : qCount A f (I 292 2) (I 292 51) (I 292 58) (hlS (I 334)) (0 + 1 + 1 + 1 + 1 + 1 + 1 + 1 + 1 + 1 + 1 + 1 + 1) = ((if I2 334 0 = 0 then 0 else 1) + (if I2 334 1 = 0 then 0 else 1)) + (if I2 334 2 = 0 then 0 else 1) := by
      unfold qCount
      rw [if_neg (by decide), if_neg (by decide), if_neg (by decide), if_neg (by decide), if_neg (by decide), if_neg (by decide), if_neg (by decide), if_neg (by decide), if_neg (by decide), if_neg (by decide), if_neg (by decide), if_neg (by decide), if_pos (by decide), f2 334 (by decide) (by decide)]
      unfold hlS
      rw [qS, qS, qS, qS, Int32.zero_add]
    have fin : ∀ s t u : Int32, s = (if I2 334 0 = 0 then 0 else 1) → t = (if I2 334 1 = 0 then 0 else 1) → u = (if I2 334 2 = 0 then 0 else 1) → wkB l G (d + 8 + 1) n_X9_count (wkPI R (fun z I' L' => L' = L2 ∧ z = qCount A f (I 292 2) (I 292 51) (I 292 58) (hlS (I 334)) (0 + 1 + 1 + 1 + 1 + 1 + 1 + 1 + 1 + 1 + 1 + 1 + 1) ∧ rS v A f n h sl I' ∧ rMf I I')) 252 [.ref 292, .int (0 + 1 + 1 + 1 + 1 + 1 + 1 + 1 + 1 + 1 + 1 + 1 + 1), .int 0, wkU] [.int u, .int (s + t)] I2 L2 R := fun s t u a b c => w_X9_count_252 ⟨rfl, rfl, _, rfl, rfl, by rw [ev12, a, b, c], hs2, r2⟩
    have st2 : ∀ s t : Int32, s = (if I2 334 0 = 0 then 0 else 1) → t = (if I2 334 1 = 0 then 0 else 1) → wkB l G (d + 8 + 1) n_X9_count (wkPI R (fun z I' L' => L' = L2 ∧ z = qCount A f (I 292 2) (I 292 51) (I 292 58) (hlS (I 334)) (0 + 1 + 1 + 1 + 1 + 1 + 1 + 1 + 1 + 1 + 1 + 1 + 1) ∧ rS v A f n h sl I' ∧ rMf I I')) 237 [.ref 292, .int (0 + 1 + 1 + 1 + 1 + 1 + 1 + 1 + 1 + 1 + 1 + 1 + 1), .int 0, wkU] [.int t, .int s] I2 L2 R := fun s t a b => w_X9_count_237 hR (vin (by decide) (by decide)) (fun q => w_X9_count_251 (fin s t 0 a b (by rw [if_pos (show I2 334 2 = 0 from q)]))) (fun q => w_X9_count_247 (fin s t 1 a b (by rw [if_neg (show ¬ I2 334 2 = 0 from q)])))
    have st1 : ∀ s : Int32, s = (if I2 334 0 = 0 then 0 else 1) → wkB l G (d + 8 + 1) n_X9_count (wkPI R (fun z I' L' => L' = L2 ∧ z = qCount A f (I 292 2) (I 292 51) (I 292 58) (hlS (I 334)) (0 + 1 + 1 + 1 + 1 + 1 + 1 + 1 + 1 + 1 + 1 + 1 + 1) ∧ rS v A f n h sl I' ∧ rMf I I')) 223 [.ref 292, .int (0 + 1 + 1 + 1 + 1 + 1 + 1 + 1 + 1 + 1 + 1 + 1 + 1), .int 0, wkU] [.int s] I2 L2 R := fun s a => w_X9_count_223 hR (vin (by decide) (by decide)) (fun q => w_X9_count_236 (st2 s 0 a (by rw [if_pos (show I2 334 1 = 0 from q)]))) (fun q => w_X9_count_232 (st2 s 1 a (by rw [if_neg (show ¬ I2 334 1 = 0 from q)])))
    exact w_X9_count_209 hR (vin (by decide) (by decide)) (fun q => w_X9_count_222 (st1 0 (by rw [if_pos (show I2 334 0 = 0 from q)]))) (fun q => w_X9_count_218 (st1 1 (by rw [if_neg (show ¬ I2 334 0 = 0 from q)])))
  · subst n13
    refine w_X9_count_254 (uWind (d := d + 6) hR hs2.1 (h := f 96) (e2 96 (by omega))) (fun z I3 L3 hq => ?_)
    obtain ⟨rfl, rfl, rfl⟩ := hq
    have ev13 : qCount A f (I 292 2) (I 292 51) (I 292 58) (hlS (I 334)) (0 + 1 + 1 + 1 + 1 + 1 + 1 + 1 + 1 + 1 + 1 + 1 + 1 + 1) = wdP (I3 292 50) (A.2.2.1 9) (f 96) := by
      unfold qCount
      rw [if_neg (by decide), if_neg (by decide), if_neg (by decide), if_neg (by decide), if_neg (by decide), if_neg (by decide), if_neg (by decide), if_neg (by decide), if_neg (by decide), if_neg (by decide), if_neg (by decide), if_neg (by decide), if_neg (by decide), if_pos (by decide), e50]
    refine w_X9_count_258 (fun q => w_X9_count_265 (w_X9_count_266 ⟨rfl, rfl, _, rfl, rfl, ?_, hs2, r2⟩)) (fun q => w_X9_count_261 (w_X9_count_266 ⟨rfl, rfl, _, rfl, rfl, ?_, hs2, r2⟩))
    · exact q.symm.trans ev13.symm
    · exact (wd1 q).symm.trans ev13.symm
  · subst n14
    refine w_X9_count_267 (uSum (d := d + 7) hR hs2.2.1 (b := 18) (N := 6) rfl rfl (by decide)) (fun z I3 L3 hq => ?_)
    obtain ⟨rfl, rfl, rfl⟩ := hq
    refine w_X9_count_275 ⟨rfl, rfl, _, rfl, rfl, ?_, hs2, r2⟩
    unfold qCount
    rw [if_neg (by decide), if_neg (by decide), if_neg (by decide), if_neg (by decide), if_neg (by decide), if_neg (by decide), if_neg (by decide), if_neg (by decide), if_neg (by decide), if_neg (by decide), if_neg (by decide), if_neg (by decide), if_neg (by decide), if_neg (by decide), if_pos (by decide)]
  · subst n15
    refine w_X9_count_276 hR (vin (by decide) (by decide)) (P := fun z I' L' => L' = L2 ∧ rW I2 I' ∧ z = pHt A (f 96)) (by rw [e96]; exact uHeat (d := d + 5) hR hs2.1) (fun z I3 L3 hq => ?_)
    obtain ⟨rfl, f3, rfl⟩ := hq
    refine w_X9_count_287 ⟨rfl, rfl, _, rfl, rfl, ?_, rS_g hs2 (rFg_w f3), rMf_tr r2 (rMf_g (rFg_w f3))⟩
    unfold qCount
    rw [if_neg (by decide), if_neg (by decide), if_neg (by decide), if_neg (by decide), if_neg (by decide), if_neg (by decide), if_neg (by decide), if_neg (by decide), if_neg (by decide), if_neg (by decide), if_neg (by decide), if_neg (by decide), if_neg (by decide), if_neg (by decide), if_neg (by decide), if_pos (by decide)]
  · subst n16
    refine w_X9_count_288 (uSnL (d := d + 1) hR hs2.1 hA hf e2 A.2.1.length 0 0 0 I2 (by omega) rfl (rW_rf I2) (fun J' j => ⟨rfl, rfl, _, rfl, rfl, ?_, rS_g hs2 (rFg_w j), rMf_tr r2 (rMf_g (rFg_w j))⟩))
    unfold qCount
    rw [if_neg (by decide), if_neg (by decide), if_neg (by decide), if_neg (by decide), if_neg (by decide), if_neg (by decide), if_neg (by decide), if_neg (by decide), if_neg (by decide), if_neg (by decide), if_neg (by decide), if_neg (by decide), if_neg (by decide), if_neg (by decide), if_neg (by decide), if_neg (by decide), if_pos (by decide)]
    rfl
  · refine w_X9_count_319 ⟨rfl, rfl, _, rfl, rfl, ?_, hs2, r2⟩
    unfold qCount
    rw [if_neg n0, if_neg (show ¬ w = 1 from n1), if_neg (show ¬ w = 2 from n2), if_neg (show ¬ w = 3 from n3), if_neg (show ¬ w = 4 from n4), if_neg (show ¬ w = 5 from n5), if_neg (show ¬ w = 6 from n6), if_neg (show ¬ w = 7 from n7), if_neg (show ¬ w = 8 from n8), if_neg (show ¬ w = 9 from n9), if_neg (show ¬ w = 10 from n10), if_neg (show ¬ w = 11 from n11), if_neg (show ¬ w = 12 from n12), if_neg (show ¬ w = 13 from n13), if_neg (show ¬ w = 14 from n14), if_neg (show ¬ w = 15 from n15), if_neg (show ¬ w = 16 from n16)]
end
