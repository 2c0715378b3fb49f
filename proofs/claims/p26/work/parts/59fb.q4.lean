/-! ===== book, rich: purely; the class's ===== -/
def qWl (f : Nat → Int32) (a : Nat) : Int32 := f (6 + a) + qLentBy f a
abbrev qAh (A : aD) (f : Nat → Int32) (m : Int32) : Nat → Int32 := sGo A (A.2.2.1 11) (A.2.2.1 9) m.toInt.toNat f
def qBook (A : aD) (f : Nat → Int32) (x m : Int32) : Int32 := if ¬ (okS A x ∧ okH m) then -1 else qWl (qAh A f m) x.toInt.toNat
def qRi (g : Nat → Int32) : Nat → Nat → Int32 → Int32 × Int32 → Int32 × Int32
  | 0, _, _, c => c
  | m + 1, a, y, c => qRi g m (a + 1) (y + 1) (if c.2 < g a then (y, g a) else c)
theorem qRi_t {g : Nat → Int32} {m a : Nat} {y : Int32} {c : Int32 × Int32} (h : c.2 < g a) : qRi g (m + 1) a y c = qRi g m (a + 1) (y + 1) (y, g a) := by rw [qRi, if_pos h]
theorem qRi_f {g : Nat → Int32} {m a : Nat} {y : Int32} {c : Int32 × Int32} (h : ¬ c.2 < g a) : qRi g (m + 1) a y c = qRi g m (a + 1) (y + 1) c := by rw [qRi, if_neg h]
def riA (w : Int32) (c : Int32 × Int32) : Int32 := if w = 0 then c.1 else c.2
def qRich (A : aD) (f : Nat → Int32) (m w : Int32) : Int32 :=
  if ¬ (okH m ∧ 0 ≤ w.toInt ∧ w.toInt ≤ 1) then -1
  else if A.2.1.length = 0 then -2
  else riA w (qRi (qWl (qAh A f m)) (A.2.1.length - 1) 1 1 (0, qWl (qAh A f m) 0))
section
variable {l : Launch} {G : qG} {d : Nat} {I : qMI} {L : qML} {R : qMR} {o n b : Nat} {A : aD} {f : Nat → Int32} {h sl : Nat → Nat → Int32}
theorem sLentByBL (hb : b ∈ bL) (hB : cSt R b) (s1 : sEq I b f) {Q : qQ} {x : Int32} {a : Nat} (ha : x.toInt = a) (hA : a < 6) : ∀ (m e : Nat) (y acc : Int32), e + m = 6 → y.toInt = e → Q (some (.int (qS (fun e => f (24 + (6 * a + e))) m e acc))) 336 I L R → wkB l G (d + 1 + 1) n_X4_lentBy Q 4 [.ref b, .int x, .int acc, .int y] [] I L R := by
  intro m
  induction m with
  | zero =>
    intro e y acc hn hy k
    exact w_X4_lentBy_4 hb (fun _ => w_X4_lentBy_29 hb k) (fun q => absurd (i_le.mpr (by rw [show (6 : Int32).toInt = 6 from rfl]; omega)) q)
  | succ m ih =>
    intro e y acc hn hy k
    have y1 : (y + 1).toInt = ((e + 1 : Nat) : Int) := by rw [i_s (by omega)]; omega
    have la := loan_t ha hy (by omega) (by omega)
    have ca : (x * 6 + y).toNatClampNeg = 6 * a + e := by rw [tcn]; omega
    have el : I (b + 5) (6 * a + e) = f (24 + (6 * a + e)) := sEq_at s1 (by omega) (sI5 (by omega))
    refine w_X4_lentBy_4 hb (fun q => absurd (i_le.mp q) (by rw [show (6 : Int32).toInt = 6 from rfl]; omega)) (fun _ => w_X4_lentBy_10 hb (hB 5 (by decide) (by decide)) (sLoanOf (d := d)) (fun z I1 L1 R1 hq => ?_))
    obtain ⟨rfl, rfl, rfl, rfl⟩ := hq
    refine w_X4_lentBy_20 hb (vin (by omega) (by omega)) (ih (e + 1) _ _ (by omega) y1 ?_)
    rw [ca, el]
    exact k
theorem sWealth (hb : b ∈ bL) (hB : cSt R b) (s1 : sEq I b f) {x : Int32} {a : Nat} (ha : x.toInt = a) (hA : a < 6) : wkCi l G (d + 3) n_X4_wealth [.ref b, .int x] I L R (fun z I' L' R' => R' = R ∧ L' = L ∧ I' = I ∧ z = qWl f a) := by
  have cx : x.toNatClampNeg = a := by rw [tcn]; omega
  have lb : wkCi l G (d + 2) n_X4_lentBy [.ref b, .int x] I L R (fun z I' L' R' => R' = R ∧ L' = L ∧ I' = I ∧ z = qLentBy f a) := wkC_of 2 (by decide) (Nat.le_of_ble_eq_true rfl) (w_X4_lentBy_0 hb (sLentByBL (d := d) hb hB s1 ha hA 6 0 0 0 (by omega) rfl ⟨rfl, _, rfl, rfl, rfl, rfl, rfl⟩))
  refine wkC_of 0 (by decide) (Nat.le_of_ble_eq_true rfl) (w_X4_wealth_0 hb (hB 2 (by decide) (by decide)) (vin (by omega) (by omega)) lb (fun z I1 L1 R1 hq => ?_))
  obtain ⟨rfl, rfl, rfl, rfl⟩ := hq
  refine w_X4_wealth_11 hb ⟨rfl, _, rfl, rfl, rfl, rfl, ?_⟩
  rw [cx, show I1 (b + 2) a = f (6 + a) from sEq_at s1 (by omega) (sI2 (by omega))]
  rfl
/-- what is tried out ahead -/
theorem sAhead (hs : cS o A f n h sl I R) {m : Int32} (hm : okH m) : wkCv l G (d + 6) n_X8_goAhead [.ref 0, .int m] I L R (fun I' L' R' => R' = R ∧ L' = L ∧ cS o A f n h sl I' R' ∧ sEq I' 28 (qAh A f m)) := by
  obtain ⟨⟨hL, hR, h12⟩, s1, s2, s3⟩ := id hs
  have ho := hL.1
  have r2 := hR.1.1
  have r3 := hR.1.2.1
  refine wkC_of 0 (by decide) (Nat.le_of_ble_eq_true rfl) (w_X8_goAhead_0 r3 r2 (sCopy (d := d + 4) bAhead bNow (hR.2.2.2.2 28 bAhead) (hR.2.2.2.2 21 bNow)) (fun I1 L1 R1 hq => ?_))
  obtain ⟨rfl, rfl, rfl⟩ := hq
  have f1 : ∀ k, (k < 28 ∨ 34 < k) → cpM I 28 21 k = I k := fun k a => cpM_fr (by omega)
  have s28 : sEq (cpM I 28 21) 28 f := cpM_eq (by omega) s1
  have hs1 : cS o A f n h sl (cpM I 28 21) R1 := cS_of hs (fun k a => f1 k (by omega))
  have hL1 := hs1.1.1
  refine w_X8_goAhead_11 ho h12 r3 h12 h12 (sPass (d := d) hL1 (hR.2.2.2.2 28 bAhead) bAhead s28 (n := m.toInt.toNat) (by omega)) (fun I2 L2 R2 hq => ?_)
  obtain ⟨rfl, rfl, f2, s2⟩ := hq
  refine w_X8_goAhead_37 ⟨rfl, rfl, rfl, rfl, cS_of hs1 (fun k a => f2 k (by omega) (by omega) (by omega)), ?_⟩
  rw [cHas_s hL1 (j := 11) (by decide) (by decide), cHas_s hL1 (j := 9) (by decide) (by decide)] at s2
  exact s2
theorem sBook (hs : cS o A f n h sl I R) {x m : Int32} : wkCi l G (d + 7) n_X8_book [.ref 0, .int x, .int m] I L R (fun z I' L' R' => R' = R ∧ L' = L ∧ z = qBook A f x m ∧ cS o A f n h sl I' R') := by
  obtain ⟨⟨hL, hR, h12⟩, s1, s2, s3⟩ := id hs
  have hn := (cHas_n hL).2.2
  have bad : ¬ (okS A x ∧ okH m) → wkB l G (d + 6 + 1) n_X8_book (fun r t' I' L' R' => t' = 336 ∧ ∃ z, r = some (.int z) ∧ R' = R ∧ L' = L ∧ z = qBook A f x m ∧ cS o A f n h sl I' R') 15 [.ref 0, .int x, .int m] [] I L R := fun c => w_X8_book_15 ⟨rfl, _, rfl, rfl, rfl, by unfold qBook; rw [if_pos c], hs⟩
  refine wkC_of 0 (by decide) (Nat.le_of_ble_eq_true rfl) (w_X8_book_0 (sIsSeat (d := d + 5) hL h12) (fun z I1 L1 R1 hq => ?_))
  obtain ⟨rfl, rfl, rfl, rfl⟩ := hq
  refine w_X8_book_5 (fun q => bad (fun c => if1.1 q c.1)) (fun q => w_X8_book_8 (sIsAhead (d := d + 5)) (fun z I1 L1 R1 hq => ?_))
  obtain ⟨rfl, rfl, rfl, rfl⟩ := hq
  refine w_X8_book_12 (fun q2 => w_X8_book_17 (sAhead (d := d) hs (if1.2 q2)) (fun I2 L2 R2 hq => ?_)) (fun q2 => bad (fun c => if1.1 q2 c.2))
  obtain ⟨rfl, rfl, hs2, s28⟩ := hq
  have c0 : okS A x ∧ okH m := ⟨if1.2 q, if1.2 q2⟩
  have x0 := c0.1
  have hx : x.toInt = x.toInt.toNat := by omega
  refine w_X8_book_22 hR.1.2.1 (sWealth (d := d + 3) bAhead (hR.2.2.2.2 28 bAhead) s28 hx (by omega)) (fun z I3 L3 R3 hq => ?_)
  obtain ⟨rfl, rfl, rfl, rfl⟩ := hq
  refine w_X8_book_30 ⟨rfl, _, rfl, rfl, rfl, ?_, hs2⟩
  unfold qBook
  rw [if_neg (fun z => z c0)]
theorem sRichL (hs : cS o A f n h sl I R) {F : Nat → Int32} (s28 : sEq I 28 F) {Q : qQ} {x w : Int32} : ∀ (m a r : Nat) (y : Int32) (c : Int32 × Int32), a + m = A.2.1.length → y.toInt = a → c.1.toInt = r → r < A.2.1.length → c.2 = qWl F r → Q (some (.int (riA w (qRi (qWl F) m a y c)))) 336 I L R → wkB l G (d + 3 + 1) n_X8_rich Q 41 [.ref 0, .int x, .int w, .int c.1, .int y] [] I L R := by
  obtain ⟨⟨hL, hR, h12⟩, s1, -, -⟩ := hs
  have ho := hL.1
  have r3 := hR.1.2.1
  have hB := hR.2.2.2.2 28 bAhead
  have hn2 := (cHas_n hL).2
  intro m
  induction m with
  | zero =>
    intro a r y c hn hy hr hr2 hc q0
    rw [qRi] at q0
    refine w_X8_rich_41 ho h12 (fun _ => w_X8_rich_82 (fun q => w_X8_rich_90 r3 (sWealth (d := d) bAhead hB s28 hr (by omega)) (fun z I3 L3 R3 hq => ?_)) (fun q => w_X8_rich_86 (w_X8_rich_98 ?_))) (fun q => absurd (i_le.mpr (by omega)) q)
    · obtain ⟨rfl, rfl, rfl, rfl⟩ := hq
      rw [riA, if_neg q, hc] at q0
      exact w_X8_rich_98 q0
    · rw [riA, if_pos q] at q0
      exact q0
  | succ m ih =>
    intro a r y c hn hy hr hr2 hc q0
    have y1 : (y + 1).toInt = ((a + 1 : Nat) : Int) := by rw [i_s (by omega)]; omega
    refine w_X8_rich_41 ho h12 (fun q => absurd (i_le.mp q) (by omega)) (fun _ => w_X8_rich_53 r3 (sWealth (d := d) bAhead hB s28 hy (by omega)) (fun z I3 L3 R3 hq => ?_))
    obtain ⟨rfl, rfl, rfl, rfl⟩ := hq
    refine w_X8_rich_62 r3 (sWealth (d := d) bAhead hB s28 hr (by omega)) (fun z I3 L3 R3 hq => ?_)
    obtain ⟨rfl, rfl, rfl, rfl⟩ := hq
    refine w_X8_rich_70 (fun q => w_X8_rich_76 (ih (a + 1) r _ c (by omega) y1 hr hr2 hc ?_)) (fun q => w_X8_rich_73 (w_X8_rich_76 (ih (a + 1) a _ (y, qWl F a) (by omega) y1 hy (by omega) rfl ?_)))
    · rw [qRi_f (by rw [hc]; intro z; have a := i_lt.mp z; have b := i_le.mp q; omega)] at q0
      exact q0
    · rw [qRi_t (by rw [hc]; exact i_lt.mpr (by have := nle q; omega))] at q0
      exact q0
theorem sRich (hs : cS o A f n h sl I R) {m w : Int32} : wkCi l G (d + 7) n_X8_rich [.ref 0, .int m, .int w] I L R (fun z I' L' R' => R' = R ∧ L' = L ∧ z = qRich A f m w ∧ cS o A f n h sl I' R') := by
  obtain ⟨⟨hL, hR, h12⟩, s1, s2, s3⟩ := id hs
  have ho := hL.1
  have hn := (cHas_n hL).2
  have z0 : (0 : Int32).toInt = 0 := rfl
  have z1 : (1 : Int32).toInt = 1 := rfl
  have bad : ¬ (okH m ∧ 0 ≤ w.toInt ∧ w.toInt ≤ 1) → wkB l G (d + 6 + 1) n_X8_rich (fun r t' I' L' R' => t' = 336 ∧ ∃ z, r = some (.int z) ∧ R' = R ∧ L' = L ∧ z = qRich A f m w ∧ cS o A f n h sl I' R') 16 [.ref 0, .int m, .int w, wkU, wkU] [] I L R := fun c => w_X8_rich_16 ⟨rfl, _, rfl, rfl, rfl, by unfold qRich; rw [if_pos c], hs⟩
  refine wkC_of 2 (by decide) (Nat.le_of_ble_eq_true rfl) (w_X8_rich_0 (sIsAhead (d := d + 5)) (fun z I1 L1 R1 hq => ?_))
  obtain ⟨rfl, rfl, rfl, rfl⟩ := hq
  refine w_X8_rich_4 (fun q => bad (fun c => if1.1 q c.1)) (fun q => w_X8_rich_7 (fun q2 => bad (fun c => ?_)) (fun q2 => w_X8_rich_11 (fun q3 => ?_) (fun q3 => bad (fun c => q3 (i_le.mpr (by rw [z1]; exact c.2.2))))))
  · have q2 := i_lt.mp q2
    rw [z0] at q2
    have := c.2.1
    omega
  have q2 := nlt q2
  rw [z0] at q2
  have q3 := i_le.mp q3
  rw [z1] at q3
  have c0 : okH m ∧ 0 ≤ w.toInt ∧ w.toInt ≤ 1 := ⟨if1.2 q, by omega, q3⟩
  refine w_X8_rich_18 ho h12 (fun q4 => w_X8_rich_31 (sAhead (d := d) hs c0.1) (fun I2 L2 R2 hq => ?_)) (fun q4 => w_X8_rich_28 ⟨rfl, _, rfl, rfl, rfl, ?_, hs⟩)
  · obtain ⟨rfl, rfl, hs2, s28⟩ := hq
    have l0 : ¬ A.2.1.length = 0 := fun z => q4 (i_eq.mpr (by rw [z0]; omega))
    refine w_X8_rich_36 (sRichL (d := d + 3) hs2 s28 (A.2.1.length - 1) 1 0 1 (0, qWl (qAh A f m) 0) (by omega) rfl rfl (by omega) rfl ⟨rfl, _, rfl, rfl, rfl, ?_, hs2⟩)
    unfold qRich
    rw [if_neg (fun z => z c0), if_neg l0]
  · unfold qRich
    rw [if_neg (fun z => z c0), if_pos (by rw [q4, z0] at hn; omega)]
end
