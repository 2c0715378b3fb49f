/-! ===== longFrom, best: the reference's ===== -/
section
variable {l : Launch} {G : qG} {d : Nat} {I : qMI} {L : qML} {R : qMR} {v n : Nat} {A : aD} {f : Nat → Int32} {h sl : Nat → Nat → Int32}
theorem uHrsL (hR : wkR R) (hL : rHas v I A) (hA : aOk A) (hs : rEq I 323 f) {Q : qQ} {x t m : Int32} {e N : Nat} (hx : bnd x) (he : t.toInt = e) (hE : e < A.1.length) (hm : m.toInt = N) (hN : N ≤ 48) : ∀ (j k : Nat) (y acc : Int32) (J : qMI), k + j = N → y.toInt = k → rW I J → (∀ J' : qMI, rW I J' → Q (some (.int (qCn (pLg A f x e) j k acc))) 336 J' L R) → wkB l G (d + 6 + 1) n_X9_hoursFrom Q 6 [.ref 292, .int x, .int t, .int m, .int acc, .int y] [] J L R := by
  intro j
  induction j with
  | zero =>
    intro k y acc J hn hy hJ q0
    exact w_X9_hoursFrom_6 (fun _ => w_X9_hoursFrom_40 (q0 J hJ)) (fun q => absurd (i_le.mpr (by omega)) q)
  | succ j ih =>
    intro k y acc J hn hy hJ q0
    have hLJ := rHas_q hJ hL
    have y1 : (y + 1).toInt = ((k + 1 : Nat) : Int) := by rw [i_s (by omega)]; omega
    have ey : y = Int32.ofNat k := ofN hy (by omega)
    have e96 : J 323 96 = f 96 := by rw [hJ.1 323 (by decide) (by decide) (by decide)]; exact hs 96 (by omega)
    refine w_X9_hoursFrom_6 (fun q => absurd (i_le.mp q) (by omega)) (fun _ => w_X9_hoursFrom_12 hR (vin (by decide) (by decide)) (P := fun z I' L' => L' = L ∧ rW J I' ∧ z = if pSe A (f 96 + y) (pHt A (f 96 + y)) x (tX A e) (tT A e) then 1 else 0) (by rw [show (96 : Int32).toNatClampNeg = 96 from rfl, e96]; exact uSees (d := d) hR hLJ hx he hE (hA.2.1 e hE)) (fun z I3 L3 hq => ?_))
    obtain ⟨rfl, f1, rfl⟩ := hq
    have j1 := rW_tr hJ f1
    refine w_X9_hoursFrom_28 (fun q => w_X9_hoursFrom_34 (ih (k + 1) _ acc _ (by omega) y1 j1 (fun J' jj => ?_))) (fun q => w_X9_hoursFrom_31 (w_X9_hoursFrom_34 (ih (k + 1) _ (acc + 1) _ (by omega) y1 j1 (fun J' jj => ?_))))
    · have := q0 J' jj
      rw [qCn_f (by unfold pLg; rw [← ey]; exact decide_eq_false (if1.1 q))] at this
      exact this
    · have := q0 J' jj
      rw [qCn_t (by unfold pLg; rw [← ey]; exact decide_eq_true (if1.2 q))] at this
      exact this
theorem uHrs (hR : wkR R) (hL : rHas v I A) (hA : aOk A) (hs : rEq I 323 f) {x t m : Int32} {e N : Nat} (hx : bnd x) (he : t.toInt = e) (hE : e < A.1.length) (hm : m.toInt = N) (hN : N ≤ 48) : wkI l G (d + 7) n_X9_hoursFrom [.ref 292, .int x, .int t, .int m] I L R (fun z I' L' => L' = L ∧ rW I I' ∧ z = qCn (pLg A f x e) N 0 0) :=
  wkC_of 2 (by decide) (Nat.le_of_ble_eq_true rfl) (w_X9_hoursFrom_0 (uHrsL (d := d) hR hL hA hs hx he hE hm hN N 0 0 0 I (by omega) rfl (rW_rf I) (fun J' j => ⟨rfl, rfl, _, rfl, rfl, j, rfl⟩)))
theorem uLong (hR : wkR R) (hs : rS v A f n h sl I) (hA : aOk A) (hf : fOk A f) {x t m : Int32} : wkI l G (d + 8) n_X9_longFrom [.ref 292, .int x, .int t, .int m] I L R (fun z I' L' => L' = L ∧ z = qLong A f x t m ∧ rS v A f n h sl I' ∧ rMf I I') := by
  obtain ⟨hL, s1, s2, s3⟩ := id hs
  have bad : ¬ (okX x ∧ okT A t ∧ 1 ≤ m.toInt ∧ m.toInt ≤ 48) → wkB l G (d + 7 + 1) n_X9_longFrom (wkPI R (fun z I' L' => L' = L ∧ z = qLong A f x t m ∧ rS v A f n h sl I' ∧ rMf I I')) 32 [.ref 292, .int x, .int t, .int m] [] I L R := fun c => w_X9_longFrom_32 (w_X9_longFrom_33 ⟨rfl, rfl, _, rfl, rfl, by unfold qLong; rw [if_pos c], hs, rMf_rf _⟩)
  refine wkC_of 0 (by decide) (Nat.le_of_ble_eq_true rfl) (w_X9_longFrom_0 (uIsX (d := d + 5)) (fun z I1 L1 hq => ?_))
  obtain ⟨rfl, rfl, rfl⟩ := hq
  refine w_X9_longFrom_4 (fun q => bad (fun c => if1.1 q c.1)) (fun q => w_X9_longFrom_7 (uIsThing (d := d + 5) hR hL) (fun z I1 L1 hq => ?_))
  obtain ⟨rfl, rfl, rfl⟩ := hq
  refine w_X9_longFrom_12 (fun q2 => bad (fun c => if1.1 q2 c.2.1)) (fun q2 => w_X9_longFrom_15 (uIsSome (d := d + 5)) (fun z I1 L1 hq => ?_))
  obtain ⟨rfl, rfl, rfl⟩ := hq
  refine w_X9_longFrom_19 (fun q3 => bad (fun c => if1.1 q3 c.2.2)) (fun q3 => ?_)
  have c0 : okX x ∧ okT A t ∧ 1 ≤ m.toInt ∧ m.toInt ≤ 48 := ⟨if1.2 q, if1.2 q2, if1.2 q3⟩
  have t0 := c0.2.1
  have x0 := c0.1
  have ht : t.toInt = t.toInt.toNat := by omega
  have hm : m.toInt = m.toInt.toNat := by omega
  refine w_X9_longFrom_22 (uHrs (d := d) hR hL hA s1 ⟨by omega, by omega⟩ ht (by omega) hm (by omega)) (fun z I3 L3 hq => ?_)
  obtain ⟨rfl, f3, rfl⟩ := hq
  refine w_X9_longFrom_29 (w_X9_longFrom_33 ⟨rfl, rfl, _, rfl, rfl, ?_, rS_g hs (rFg_w f3), rMf_g (rFg_w f3)⟩)
  unfold qLong
  rw [if_neg (fun z => z c0)]
theorem uBestL (hR : wkR R) (hL : rHas v I A) (hA : aOk A) (hs : rEq I 323 f) {Q : qQ} {t m w : Int32} {e N : Nat} (he : t.toInt = e) (hE : e < A.1.length) (hm : m.toInt = N) (hN : N ≤ 48) : ∀ (j a b : Nat) (x : Int32) (J : qMI), a + j = 20 → x.toInt = a → b < 20 → rW I J → (∀ J' : qMI, rW I J' → Q (some (.int (bsA (qCy A f e N) w (qBs (qCy A f e N) j a b)))) 336 J' L R) → wkB l G (d + 7 + 1) n_X9_best Q 35 [.ref 292, .int t, .int m, .int w, .int (Int32.ofNat b), .int (qCy A f e N b), .int x, wkU] [] J L R := by
  have z19 : (19 : Int32).toInt = 19 := rfl
  intro j
  induction j with
  | zero =>
    intro a b x J hn hx hb hJ q0
    have q0 := q0 J hJ
    unfold qBs bsA at q0
    refine w_X9_best_35 (fun _ => w_X9_best_76 (fun q => w_X9_best_85 (w_X9_best_87 ?_)) (fun q => w_X9_best_80 (w_X9_best_87 ?_))) (fun q => absurd (i_lt.mpr (by omega)) q)
    · rw [if_neg q] at q0
      exact q0
    · rw [if_pos q] at q0
      exact q0
  | succ j ih =>
    intro a b x J hn hx hb hJ q0
    have hLJ := rHas_q hJ hL
    have hsJ : rEq J 323 f := fun k hk => by rw [hJ.1 323 (by decide) (by decide) (by decide)]; exact hs k hk
    have x1 : (x + 1).toInt = ((a + 1 : Nat) : Int) := by rw [i_s (by omega)]; omega
    have ex : x = Int32.ofNat a := ofN hx (by omega)
    refine w_X9_best_35 (fun q => absurd (i_lt.mp q) (by omega)) (fun _ => w_X9_best_42 (uHrs (d := d) hR hLJ hA hsJ ⟨by omega, by omega⟩ he hE hm hN) (fun z I3 L3 hq => ?_))
    obtain ⟨rfl, f3, rfl⟩ := hq
    have j3 := rW_tr hJ f3
    have ec : qCn (pLg A f x e) N 0 0 = qCy A f e N a := by unfold qCy; rw [ex]
    rw [ec]
    refine w_X9_best_50 (fun q => w_X9_best_62 (w_X9_best_70 ?_)) (fun q => w_X9_best_59 (w_X9_best_70 (ih (a + 1) b _ _ (by omega) x1 hb j3 (fun J' jj => ?_))))
    · have := ih (a + 1) a (x + 1) I3 (by omega) x1 (by omega) j3 (fun J' jj => by
        have := q0 J' jj
        rw [qBs, if_pos q] at this
        exact this)
      rw [← ex] at this
      exact this
    · have := q0 J' jj
      rw [qBs, if_neg q] at this
      exact this
theorem uBest (hR : wkR R) (hs : rS v A f n h sl I) (hA : aOk A) (hf : fOk A f) {t m w : Int32} : wkI l G (d + 8) n_X9_best [.ref 292, .int t, .int m, .int w] I L R (fun z I' L' => L' = L ∧ z = qBest A f t m w ∧ rS v A f n h sl I' ∧ rMf I I') := by
  obtain ⟨hL, s1, s2, s3⟩ := id hs
  have z0 : (0 : Int32).toInt = 0 := rfl
  have o1 : (1 : Int32).toInt = 1 := rfl
  have z19 : (19 : Int32).toInt = 19 := rfl
  have bad : ¬ (okT A t ∧ (1 ≤ m.toInt ∧ m.toInt ≤ 48) ∧ 0 ≤ w.toInt ∧ w.toInt ≤ 1) → wkB l G (d + 7 + 1) n_X9_best (wkPI R (fun z I' L' => L' = L ∧ z = qBest A f t m w ∧ rS v A f n h sl I' ∧ rMf I I')) 24 [.ref 292, .int t, .int m, .int w, wkU, wkU, wkU, wkU] [] I L R := fun c => w_X9_best_24 ⟨rfl, rfl, _, rfl, rfl, by unfold qBest; rw [if_pos c], hs, rMf_rf _⟩
  refine wkC_of 4 (by decide) (Nat.le_of_ble_eq_true rfl) (w_X9_best_0 (uIsThing (d := d + 5) hR hL) (fun z I1 L1 hq => ?_))
  obtain ⟨rfl, rfl, rfl⟩ := hq
  refine w_X9_best_5 (fun q => bad (fun c => if1.1 q c.1)) (fun q => w_X9_best_8 (uIsSome (d := d + 5)) (fun z I1 L1 hq => ?_))
  obtain ⟨rfl, rfl, rfl⟩ := hq
  refine w_X9_best_12 (fun q2 => bad (fun c => if1.1 q2 c.2.1)) (fun q2 => w_X9_best_15 (uIn (d := d + 6)) (fun z I1 L1 hq => ?_))
  obtain ⟨rfl, rfl, rfl⟩ := hq
  refine w_X9_best_21 (fun q3 => ?_) (fun q3 => bad (fun c => if1.1 q3 (by rw [z0, o1]; exact c.2.2)))
  have q3 := if1.2 q3
  rw [z0, o1] at q3
  have c0 : okT A t ∧ (1 ≤ m.toInt ∧ m.toInt ≤ 48) ∧ 0 ≤ w.toInt ∧ w.toInt ≤ 1 := ⟨if1.2 q, if1.2 q2, q3⟩
  have t0 := c0.1
  have ht : t.toInt = t.toInt.toNat := by omega
  have hm : m.toInt = m.toInt.toNat := by omega
  refine w_X9_best_26 (w_X9_best_35 (fun q => absurd q (by decide)) (fun _ => w_X9_best_42 (uHrs (d := d) hR hL hA s1 ⟨by decide, by decide⟩ ht (by omega) hm (by omega)) (fun z I3 L3 hq => ?_)))
  obtain ⟨rfl, f3, rfl⟩ := hq
  have ec : qCn (pLg A f 0 t.toInt.toNat) m.toInt.toNat 0 0 = qCy A f t.toInt.toNat m.toInt.toNat 0 := rfl
  rw [ec]
  have nn : 0 ≤ (qCy A f t.toInt.toNat m.toInt.toNat 0).toInt := qCn_b _ _ _ _ (by decide) (by rw [z0]; omega)
  refine w_X9_best_50 (fun _ => w_X9_best_62 (w_X9_best_70 ?_)) (fun q => absurd (i_lt.mpr (by rw [show (-1 : Int32).toInt = -1 from rfl]; omega)) q)
  rw [show (0 + 1 : Int32) = 1 from rfl]
  have go := uBestL (d := d) (l := l) (G := G) (L := L3) (w := w) hR hL hA s1 ht (by omega) hm (by omega) 19 1 0 1 I3 (by omega) rfl (by decide) f3 (Q := wkPI R (fun z I' L' => L' = L3 ∧ z = qBest A f t m w ∧ rS v A f n h sl I' ∧ rMf I1 I')) (fun J' jj => ⟨rfl, rfl, _, rfl, rfl, by unfold qBest; rw [if_neg (fun z => z c0)], rS_g hs (rFg_w jj), rMf_g (rFg_w jj)⟩)
  exact go
end
