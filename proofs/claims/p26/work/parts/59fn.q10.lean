/-! ===== longFrom, best: purely; the class's (the hour is small) ===== -/
def qCn (p : Nat → Bool) : Nat → Nat → Int32 → Int32
  | 0, _, acc => acc
  | m + 1, k, acc => qCn p m (k + 1) (if p k = true then acc + 1 else acc)
theorem qCn_t {p : Nat → Bool} {m k : Nat} {acc : Int32} (h : p k = true) : qCn p (m + 1) k acc = qCn p m (k + 1) (acc + 1) := by
  rw [qCn, if_pos h]
theorem qCn_f {p : Nat → Bool} {m k : Nat} {acc : Int32} (h : p k = false) : qCn p (m + 1) k acc = qCn p m (k + 1) acc := by
  rw [qCn, if_neg (by rw [h]; decide)]
theorem qCn_last (p : Nat → Bool) : ∀ (m k : Nat) (acc : Int32), qCn p (m + 1) k acc = if p (k + m) = true then qCn p m k acc + 1 else qCn p m k acc
  | 0, k, acc => rfl
  | m + 1, k, acc => by
    rw [qCn, qCn_last p m (k + 1), show k + 1 + m = k + (m + 1) by omega]
    rfl
theorem qCn_b (p : Nat → Bool) : ∀ (m k : Nat) (acc : Int32), 0 ≤ acc.toInt → acc.toInt + m < 1000 → 0 ≤ (qCn p m k acc).toInt
  | 0, _, _, h, _ => h
  | m + 1, k, acc, h, b => by
    rw [qCn]
    split
    · have e : (acc + 1).toInt = acc.toInt + 1 := i_s (by omega)
      exact qCn_b p m (k + 1) _ (by omega) (by omega)
    · exact qCn_b p m (k + 1) _ h (by omega)
def pLg (A : aD) (f : Nat → Int32) (x : Int32) (e k : Nat) : Bool := decide (pSe A (f 96 + Int32.ofNat k) (pHt A (f 96 + Int32.ofNat k)) x (tX A e) (tT A e))
def qLong (A : aD) (f : Nat → Int32) (x t m : Int32) : Int32 :=
  if ¬ (okX x ∧ okT A t ∧ 1 ≤ m.toInt ∧ m.toInt ≤ 48) then -1
  else qCn (pLg A f x t.toInt.toNat) m.toInt.toNat 0 0
def qCy (A : aD) (f : Nat → Int32) (e m x : Nat) : Int32 := qCn (pLg A f (Int32.ofNat x) e) m 0 0
def qBs (c : Nat → Int32) : Nat → Nat → Nat → Nat
  | 0, _, b => b
  | m + 1, x, b => qBs c m (x + 1) (if c b < c x then x else b)
def bsA (c : Nat → Int32) (w : Int32) (b : Nat) : Int32 := if w = 0 then Int32.ofNat b else c b
def qBest (A : aD) (f : Nat → Int32) (t m w : Int32) : Int32 :=
  if ¬ (okT A t ∧ (1 ≤ m.toInt ∧ m.toInt ≤ 48) ∧ 0 ≤ w.toInt ∧ w.toInt ≤ 1) then -1
  else bsA (qCy A f t.toInt.toNat m.toInt.toNat) w (qBs (qCy A f t.toInt.toNat m.toInt.toNat) 19 1 0)
/-- the hours behind one -/
theorem hk_t {h : Int32} {k : Nat} (h1 : h.toInt + k ≤ 2147483647) (hk : k < 1000) : (h + Int32.ofNat k).toInt = h.toInt + k ∧ (h + Int32.ofNat k) + 1 = h + Int32.ofNat (k + 1) := by
  have lo := i_lo h
  have a : (Int32.ofNat k).toInt = k := Int32.toInt_ofNat_of_lt (by omega)
  have b : (Int32.ofNat (k + 1)).toInt = ((k + 1 : Nat) : Int) := Int32.toInt_ofNat_of_lt (by omega)
  have e : (h + Int32.ofNat k).toInt = h.toInt + k := by rw [i_add (by omega) (by omega), a]
  have c : Int32.ofNat k + 1 = Int32.ofNat (k + 1) := i_eq.mpr (by rw [i_s (by omega), a, b]; omega)
  exact ⟨e, by rw [Int32.add_assoc, c]⟩
/-- an hour that runs over -/
theorem hk_o {h m : Int32} {N : Nat} (hm : m.toInt = N) (hN : N ≤ 48) (h1 : ¬ h.toInt + N ≤ 2147483647) : (h + m).toInt ≤ h.toInt := by
  have hi := i_hi h
  rw [Int32.toInt_add, hm]
  show (if (h.toInt + (N : Int)) % ((4294967296 : Nat) : Int) < (((4294967296 : Nat) : Int) + 1) / 2 then (h.toInt + (N : Int)) % ((4294967296 : Nat) : Int) else (h.toInt + (N : Int)) % ((4294967296 : Nat) : Int) - ((4294967296 : Nat) : Int)) ≤ h.toInt
  split <;> omega
section
variable {l : Launch} {G : qG} {d : Nat} {I : qMI} {L : qML} {R : qMR} {o n : Nat} {A : aD} {f : Nat → Int32} {h sl : Nat → Nat → Int32}
theorem sLongL (hs : cS o A f n h sl I R) {Q : qQ} {x t m : Int32} {e N : Nat} (he : t.toInt = e) (hE : e < A.1.length) (hm : m.toInt = N) (hN : N ≤ 48) (h1 : (f 96).toInt + N ≤ 2147483647) : ∀ (j k : Nat) (y acc : Int32) (J : qMI), k + j = N → y = f 96 + Int32.ofNat k → cQ o I J → (∀ J' : qMI, cQ o I J' → Q (some (.int (qCn (pLg A f x e) j k acc))) 336 J' L R) → wkB l G (d + 4 + 1) n_X8_longFrom Q 40 [.ref 0, .int x, .int t, .int m, .int acc, .int y] [] J L R := by
  obtain ⟨⟨hL, hR, h12⟩, s1, -, -⟩ := hs
  have ho := hL.1
  have b21 := bNow
  have em : (f 96 + m).toInt = (f 96).toInt + N := by rw [i_add (by have := i_lo (f 96); omega) (by omega), hm]
  intro j
  induction j with
  | zero =>
    intro k y acc J hn hy hJ q0
    have e0 : J 21 0 = f 96 := sEq_at (sEq_q ho b21 hJ s1) (by omega) sI0
    have ty := (hk_t (h := f 96) (k := k) (by omega) (by omega)).1
    rw [← hy] at ty
    exact wq_X8_longFrom_40 hR.1.1 (fun _ => wq_X8_longFrom_86 (q0 J hJ)) (fun q => absurd (i_le.mpr (by rw [e0, em, ty]; omega)) q)
  | succ j ih =>
    intro k y acc J hn hy hJ q0
    have hLJ := cHas_q hJ hL
    have e0 : J 21 0 = f 96 := sEq_at (sEq_q ho b21 hJ s1) (by omega) sI0
    obtain ⟨ty, y1⟩ := hk_t (h := f 96) (k := k) (by omega) (by omega)
    rw [← hy] at ty y1
    refine wq_X8_longFrom_40 hR.1.1 (fun q => ?_) (fun _ => wq_X8_longFrom_54 ho h12 h12 (sHeat (d := d) hLJ) (fun z I1 L1 R1 hq => ?_))
    · have q := i_le.mp q
      rw [e0, em, ty] at q
      omega
    obtain ⟨rfl, rfl, f1, rfl⟩ := hq
    refine wq_X8_longFrom_71 ho (sSeenFrom (d := d) (cHas_q f1 hLJ) he hE) (fun z I2 L2 R2 hq => ?_)
    obtain ⟨rfl, rfl, f2, rfl⟩ := hq
    have j2 := cQ_tr hJ (cQ_tr f1 f2)
    refine wq_X8_longFrom_74 (fun q => wq_X8_longFrom_80 (ih (k + 1) _ acc _ (by omega) y1 j2 (fun J' jj => ?_))) (fun q => wq_X8_longFrom_77 (wq_X8_longFrom_80 (ih (k + 1) _ (acc + 1) _ (by omega) y1 j2 (fun J' jj => ?_))))
    · have := q0 J' jj
      rw [qCn_f (by unfold pLg; rw [← hy]; exact decide_eq_false (if1.1 q))] at this
      exact this
    · have := q0 J' jj
      rw [qCn_t (by unfold pLg; rw [← hy]; exact decide_eq_true (if1.2 q))] at this
      exact this
theorem sLong (hs : cS o A f n h sl I R) {x t m : Int32} : wkCi l G (d + 5) n_X8_longFrom [.ref 0, .int x, .int t, .int m] I L R (fun z I' L' R' => R' = R ∧ L' = L ∧ ((f 96).toInt ≤ 2147483599 → z = qLong A f x t m) ∧ cS o A f n h sl I' R') := by
  obtain ⟨⟨hL, hR, h12⟩, s1, s2, s3⟩ := id hs
  have o1 : (1 : Int32).toInt = 1 := rfl
  have o48 : (48 : Int32).toInt = 48 := rfl
  have e0 : I 21 0 = f 96 := sEq_at s1 (by omega) sI0
  have bad : ¬ (okX x ∧ okT A t ∧ 1 ≤ m.toInt ∧ m.toInt ≤ 48) → wkB l G (d + 4 + 1) n_X8_longFrom (fun r t' I' L' R' => t' = 336 ∧ ∃ z, r = some (.int z) ∧ R' = R ∧ L' = L ∧ ((f 96).toInt ≤ 2147483599 → z = qLong A f x t m) ∧ cS o A f n h sl I' R') 26 [.ref 0, .int x, .int t, .int m, wkU, wkU] [] I L R := fun c => wq_X8_longFrom_26 ⟨rfl, _, rfl, rfl, rfl, fun _ => by unfold qLong; rw [if_pos c], hs⟩
  refine wkC_of 2 (by decide) (Nat.le_of_ble_eq_true rfl) (wq_X8_longFrom_0 (sIsX (d := d + 3)) (fun z I1 L1 R1 hq => ?_))
  obtain ⟨rfl, rfl, rfl, rfl⟩ := hq
  refine wq_X8_longFrom_4 (fun q => bad (fun c => if1.1 q c.1)) (fun q => wq_X8_longFrom_7 (sIsThing (d := d + 3) hL h12) (fun z I1 L1 R1 hq => ?_))
  obtain ⟨rfl, rfl, rfl, rfl⟩ := hq
  refine wq_X8_longFrom_12 (fun q2 => bad (fun c => if1.1 q2 c.2.1)) (fun q2 => wq_X8_longFrom_15 (fun q3 => bad (fun c => ?_)) (fun q3 => wq_X8_longFrom_20 (fun q4 => ?_) (fun q4 => bad (fun c => q4 (i_le.mpr (by omega))))))
  · have := i_lt.mp q3
    omega
  have q3 := nlt q3
  have q4 := i_le.mp q4
  have c0 : okX x ∧ okT A t ∧ 1 ≤ m.toInt ∧ m.toInt ≤ 48 := ⟨if1.2 q, if1.2 q2, by omega, by omega⟩
  have t0 := c0.2.1
  have ht : t.toInt = t.toInt.toNat := by omega
  have hm : m.toInt = m.toInt.toNat := by omega
  by_cases ov : (f 96).toInt + m.toInt.toNat ≤ 2147483647
  · refine wq_X8_longFrom_28 hR.1.1 (sLongL (d := d) hs ht (by omega) hm (by omega) ov m.toInt.toNat 0 _ 0 I1 (by omega) ?_ (cQ_rf o I1) (fun J' j => ⟨rfl, _, rfl, rfl, rfl, fun _ => ?_, cS_q hs j⟩))
    · rw [e0]
      exact (Int32.add_zero _).symm
    · unfold qLong
      rw [if_neg (fun z => z c0)]
  · refine wq_X8_longFrom_28 hR.1.1 (wq_X8_longFrom_40 hR.1.1 (fun _ => wq_X8_longFrom_86 ⟨rfl, _, rfl, rfl, rfl, fun z => absurd z (by omega), hs⟩) (fun q => absurd (i_le.mpr ?_) q))
    rw [e0]
    exact hk_o hm (by omega) ov
/-! best -/
theorem sTal0 (r8 : R 0 8 = some 255) {Q : qQ} {t m : Int32} : ∀ (j k : Nat) (y : Int32) (J : qMI), k + j = 20 → y.toInt = k → (∀ i, i < k → J 255 i = 0) → (∀ (y' : Int32) (J' : qMI), (∀ i, i ≠ 255 → J' i = J i) → (∀ i, i < 20 → J' 255 i = 0) → wkB l G (d + 4 + 1) n_X8_tallySeenHours Q 21 [.ref 0, .int t, .int m, .int y', wkU, wkU] [] J' L R) → wkB l G (d + 4 + 1) n_X8_tallySeenHours Q 2 [.ref 0, .int t, .int m, .int y, wkU, wkU] [] J L R := by
  have z20 : (20 : Int32).toInt = 20 := rfl
  intro j
  induction j with
  | zero =>
    intro k y J hn hy hp q0
    exact wq_X8_tallySeenHours_2 (fun _ => q0 y J (fun _ _ => rfl) (fun i hi => hp i (by omega))) (fun q => absurd (i_le.mpr (by omega)) q)
  | succ j ih =>
    intro k y J hn hy hp q0
    have y1 : (y + 1).toInt = ((k + 1 : Nat) : Int) := by rw [i_s (by omega)]; omega
    have cy : y.toNatClampNeg = k := by rw [tcn]; omega
    refine wq_X8_tallySeenHours_2 (fun q => absurd (i_le.mp q) (by omega)) (fun _ => wq_X8_tallySeenHours_8 r8 (vin (by omega) (by omega)) ?_)
    rw [cy]
    refine ih (k + 1) _ _ (by omega) y1 (fun i hi => ?_) (fun y' J' g1 g2 => q0 y' J' (fun i hi => (g1 i hi).trans (qUp_ro hi)) g2)
    rw [qUp_row]
    by_cases c : i = k
    · rw [c, tU_s]
    · rw [tU_o c]
      exact hp i (by omega)
/-- what a tally leaves alone -/
def cQ5 (o : Nat) (I J : qMI) : Prop := ∀ k, k ≠ o + 10 → k ≠ o + 11 → k ≠ 255 → J k = I k
theorem cQ5_tr {I J K : qMI} (h : cQ5 o I J) (g : cQ5 o J K) : cQ5 o I K := fun k a b c => (g k a b c).trans (h k a b c)
theorem cQ5_q {I J : qMI} (h : cQ o I J) : cQ5 o I J := fun k a b _ => h k a b
theorem cS_q5 {J : qMI} (s : cS o A f n h sl I R) (e : cQ5 o I J) : cS o A f n h sl J R := by
  have ho := s.1.1.1
  exact cS_of s (fun k a => e k (by omega) (by omega) (by omega))
theorem sTalX (hs : cS o A f n h sl I R) (r8 : R 0 8 = some 255) {Q : qQ} {t m y : Int32} {e k : Nat} (he : t.toInt = e) (hE : e < A.1.length) (hy : y = f 96 + Int32.ofNat k) : ∀ (j a : Nat) (x : Int32) (J : qMI), a + j = 20 → x.toInt = a → cQ5 o I J → (∀ i, i < 20 → J 255 i = if i < a then qCy A f e (k + 1) i else qCy A f e k i) → (∀ (x' : Int32) (J' : qMI), cQ5 o I J' → (∀ i, i < 20 → J' 255 i = qCy A f e (k + 1) i) → wkB l G (d + 4 + 1) n_X8_tallySeenHours Q 95 [.ref 0, .int t, .int m, .int y, .int (pHt A y), .int x'] [] J' L R) → wkB l G (d + 4 + 1) n_X8_tallySeenHours Q 55 [.ref 0, .int t, .int m, .int y, .int (pHt A y), .int x] [] J L R := by
  have z20 : (20 : Int32).toInt = 20 := rfl
  have h12 := hs.1.2.2
  have ho := hs.1.1.1
  intro j
  induction j with
  | zero =>
    intro a x J hn hx hJ hp q0
    exact wq_X8_tallySeenHours_55 (fun _ => q0 x J hJ (fun i hi => by rw [hp i hi, if_pos (by omega)])) (fun q => absurd (i_le.mpr (by omega)) q)
  | succ j ih =>
    intro a x J hn hx hJ hp q0
    have hsJ := cS_q5 hs hJ
    have x1 : (x + 1).toInt = ((a + 1 : Nat) : Int) := by rw [i_s (by omega)]; omega
    have cx : x.toNatClampNeg = a := by rw [tcn]; omega
    have ex : x = Int32.ofNat a := ofN hx (by omega)
    have last : qCy A f e (k + 1) a = if pLg A f x e k = true then qCy A f e k a + 1 else qCy A f e k a := by
      unfold qCy
      rw [qCn_last, Nat.zero_add, ex]
    refine wq_X8_tallySeenHours_55 (fun q => absurd (i_le.mp q) (by omega)) (fun _ => wq_X8_tallySeenHours_62 ho h12 (sSeenFrom (d := d) hsJ.1.1 he hE) (fun z I2 L2 R2 hq => ?_))
    obtain ⟨rfl, rfl, f2, rfl⟩ := hq
    have e55 : I2 255 = J 255 := f2 255 (by omega) (by omega)
    have j2 := cQ5_tr hJ (cQ5_q f2)
    refine wq_X8_tallySeenHours_75 (fun q => wq_X8_tallySeenHours_89 (ih (a + 1) _ _ (by omega) x1 j2 (fun i hi => ?_) q0)) (fun q => wq_X8_tallySeenHours_78 r8 (vin (by omega) (by omega)) (vin (by omega) (by omega)) (wq_X8_tallySeenHours_89 ?_))
    · rw [e55, hp i hi]
      by_cases c : i = a
      · rw [c, if_neg (Nat.lt_irrefl a), if_pos (by omega), last, if_neg]
        intro z
        unfold pLg at z
        rw [← hy] at z
        exact if1.1 q (of_decide_eq_true z)
      · by_cases c2 : i < a
        · rw [if_pos c2, if_pos (by omega)]
        · rw [if_neg c2, if_neg (by omega)]
    · rw [cx]
      refine ih (a + 1) _ _ (by omega) x1 (cQ5_tr j2 (fun k _ _ c => qUp_ro c)) (fun i hi => ?_) q0
      rw [qUp_row, e55]
      by_cases c : i = a
      · rw [c, tU_s, hp a (by omega), if_neg (Nat.lt_irrefl a), if_pos (by omega), last, if_pos]
        unfold pLg
        rw [← hy]
        exact decide_eq_true (if1.2 q)
      · rw [tU_o c, hp i hi]
        by_cases c2 : i < a
        · rw [if_pos c2, if_pos (by omega)]
        · rw [if_neg c2, if_neg (by omega)]
theorem sTalH (hs : cS o A f n h sl I R) (r8 : R 0 8 = some 255) {Q : qQ} {t m : Int32} {e N : Nat} (he : t.toInt = e) (hE : e < A.1.length) (hm : m.toInt = N) (hN : N ≤ 48) (h1 : (f 96).toInt + N ≤ 2147483647) : ∀ (j k : Nat) (y : Int32) (J : qMI), k + j = N → y = f 96 + Int32.ofNat k → cQ5 o I J → (∀ i, i < 20 → J 255 i = qCy A f e k i) → (∀ J' : qMI, cQ5 o I J' → (∀ i, i < 20 → J' 255 i = qCy A f e N i) → Q none 336 J' L R) → wkB l G (d + 4 + 1) n_X8_tallySeenHours Q 29 [.ref 0, .int t, .int m, .int y, wkU, wkU] [] J L R := by
  have ho := hs.1.1.1
  have h12 := hs.1.2.2
  have em : (f 96 + m).toInt = (f 96).toInt + N := by rw [i_add (by have := i_lo (f 96); omega) (by omega), hm]
  intro j
  induction j with
  | zero =>
    intro k y J hn hy hJ hp q0
    have hsJ := cS_q5 hs hJ
    have e0 : J 21 0 = f 96 := sEq_at hsJ.2.1 (by omega) sI0
    have ty := (hk_t (h := f 96) (k := k) (by omega) (by omega)).1
    rw [← hy] at ty
    have ek : k = N := by omega
    rw [ek] at hp
    exact wq_X8_tallySeenHours_29 hsJ.1.2.1.1.1 (fun _ => wq_X8_tallySeenHours_101 (q0 J hJ hp)) (fun q => absurd (i_le.mpr (by rw [e0, em, ty]; omega)) q)
  | succ j ih =>
    intro k y J hn hy hJ hp q0
    have hsJ := cS_q5 hs hJ
    have e0 : J 21 0 = f 96 := sEq_at hsJ.2.1 (by omega) sI0
    obtain ⟨ty, y1⟩ := hk_t (h := f 96) (k := k) (by omega) (by omega)
    rw [← hy] at ty y1
    refine wq_X8_tallySeenHours_29 hsJ.1.2.1.1.1 (fun q => ?_) (fun _ => wq_X8_tallySeenHours_42 ho h12 (sHeat (d := d) hsJ.1.1) (fun z I1 L1 R1 hq => ?_))
    · have q := i_le.mp q
      rw [e0, em, ty] at q
      omega
    obtain ⟨rfl, rfl, f1, rfl⟩ := hq
    have e55 : I1 255 = J 255 := f1 255 (by omega) (by omega)
    refine wq_X8_tallySeenHours_50 (sTalX (d := d) hs r8 he hE hy 20 0 0 I1 (by omega) rfl (cQ5_tr hJ (cQ5_q f1)) (fun i hi => by rw [if_neg (Nat.not_lt_zero i), e55]; exact hp i hi) (fun x' J' jj g => wq_X8_tallySeenHours_95 (ih (k + 1) _ J' (by omega) y1 jj g q0)))
theorem sTal (hs : cS o A f n h sl I R) (r8 : R 0 8 = some 255) {t m : Int32} {e N : Nat} (he : t.toInt = e) (hE : e < A.1.length) (hm : m.toInt = N) (hN : N ≤ 48) : wkCv l G (d + 5) n_X8_tallySeenHours [.ref 0, .int t, .int m] I L R (fun I' L' R' => R' = R ∧ L' = L ∧ cQ5 o I I' ∧ ((f 96).toInt + N ≤ 2147483647 → ∀ i, i < 20 → I' 255 i = qCy A f e N i)) := by
  obtain ⟨⟨hL, hR, h12⟩, s1, s2, s3⟩ := id hs
  have ho := hL.1
  refine wkC_of 3 (by decide) (Nat.le_of_ble_eq_true rfl) (wq_X8_tallySeenHours_0 (sTal0 (d := d) r8 20 0 0 I (by omega) rfl (fun i hi => absurd hi (Nat.not_lt_zero i)) (fun y' J g1 g2 => ?_)))
  have j1 : cQ5 o I J := fun k _ _ c => g1 k c
  have e0 : J 21 0 = f 96 := by rw [g1 21 (by decide)]; exact sEq_at s1 (by omega) sI0
  by_cases ov : (f 96).toInt + N ≤ 2147483647
  · refine wq_X8_tallySeenHours_21 hR.1.1 (sTalH (d := d) hs r8 he hE hm hN ov N 0 _ J (by omega) ?_ j1 (fun i hi => g2 i hi) (fun J' jj g => ⟨rfl, rfl, rfl, rfl, jj, fun _ => g⟩))
    rw [e0]
    exact (Int32.add_zero _).symm
  · refine wq_X8_tallySeenHours_21 hR.1.1 (wq_X8_tallySeenHours_29 hR.1.1 (fun _ => wq_X8_tallySeenHours_101 ⟨rfl, rfl, rfl, rfl, j1, fun z => absurd z ov⟩) (fun q => absurd (i_le.mpr ?_) q))
    rw [e0]
    exact hk_o hm hN ov
theorem bs_cg {c e : Nat → Int32} (q : ∀ i, i < 20 → c i = e i) (w : Int32) : ∀ (m x b : Nat), x + m ≤ 20 → b < 20 → bsA c w (qBs c m x b) = bsA e w (qBs e m x b)
  | 0, x, b, _, hb => by
    rw [qBs, qBs]
    unfold bsA
    rw [q b hb]
  | m + 1, x, b, hx, hb => by
    rw [qBs, qBs, q b hb, q x (by omega)]
    exact bs_cg q w m (x + 1) _ (by omega) (by split <;> omega)
theorem sBestL (r8 : R 0 8 = some 255) {c : Nat → Int32} (hc : ∀ i, i < 20 → I 255 i = c i) {Q : qQ} {t m w : Int32} : ∀ (j a b : Nat) (x y : Int32), a + j = 20 → x.toInt = a → y.toInt = b → b < 20 → Q (some (.int (bsA c w (qBs c j a b)))) 336 I L R → wkB l G (d + 5 + 1) n_X8_best Q 42 [.ref 0, .int t, .int m, .int w, .int y, .int x] [] I L R := by
  have z20 : (20 : Int32).toInt = 20 := rfl
  intro j
  induction j with
  | zero =>
    intro a b x y hn hx hy hb q0
    have cy : y.toNatClampNeg = b := by rw [tcn]; omega
    have ey : y = Int32.ofNat b := ofN hy (by omega)
    unfold qBs bsA at q0
    refine w_X8_best_42 (fun _ => w_X8_best_76 (fun q => w_X8_best_85 r8 (vin (by omega) (by omega)) (w_X8_best_92 ?_)) (fun q => w_X8_best_80 (w_X8_best_92 ?_))) (fun q => absurd (i_le.mpr (by omega)) q)
    · rw [if_neg q] at q0
      rw [cy, hc b hb]
      exact q0
    · rw [if_pos q] at q0
      rw [ey]
      exact q0
  | succ j ih =>
    intro a b x y hn hx hy hb q0
    have x1 : (x + 1).toInt = ((a + 1 : Nat) : Int) := by rw [i_s (by omega)]; omega
    have cx : x.toNatClampNeg = a := by rw [tcn]; omega
    have cy : y.toNatClampNeg = b := by rw [tcn]; omega
    rw [qBs] at q0
    refine w_X8_best_42 (fun q => absurd (i_le.mp q) (by omega)) (fun _ => w_X8_best_49 r8 (vin (by omega) (by omega)) r8 (vin (by omega) (by omega)) (fun q => w_X8_best_70 (ih (a + 1) b _ y (by omega) x1 hy hb ?_)) (fun q => w_X8_best_66 (w_X8_best_70 (ih (a + 1) a _ x (by omega) x1 hx (by omega) ?_))))
    · rw [cx, cy, hc a (by omega), hc b hb] at q
      rw [if_neg (fun z => by have := i_lt.mp z; have := i_le.mp q; omega)] at q0
      exact q0
    · rw [cx, cy, hc a (by omega), hc b hb] at q
      rw [if_pos (i_lt.mpr (by have := nle q; omega))] at q0
      exact q0
theorem sBest (hs : cS o A f n h sl I R) (r8 : R 0 8 = some 255) {t m w : Int32} : wkCi l G (d + 6) n_X8_best [.ref 0, .int t, .int m, .int w] I L R (fun z I' L' R' => R' = R ∧ L' = L ∧ ((f 96).toInt ≤ 2147483599 → z = qBest A f t m w) ∧ cS o A f n h sl I' R') := by
  obtain ⟨⟨hL, hR, h12⟩, s1, s2, s3⟩ := id hs
  have z0 : (0 : Int32).toInt = 0 := rfl
  have o1 : (1 : Int32).toInt = 1 := rfl
  have o48 : (48 : Int32).toInt = 48 := rfl
  have bad : ¬ (okT A t ∧ (1 ≤ m.toInt ∧ m.toInt ≤ 48) ∧ 0 ≤ w.toInt ∧ w.toInt ≤ 1) → wkB l G (d + 5 + 1) n_X8_best (fun r t' I' L' R' => t' = 336 ∧ ∃ z, r = some (.int z) ∧ R' = R ∧ L' = L ∧ ((f 96).toInt ≤ 2147483599 → z = qBest A f t m w) ∧ cS o A f n h sl I' R') 28 [.ref 0, .int t, .int m, .int w, wkU, wkU] [] I L R := fun c => w_X8_best_28 ⟨rfl, _, rfl, rfl, rfl, fun _ => by unfold qBest; rw [if_pos c], hs⟩
  refine wkC_of 2 (by decide) (Nat.le_of_ble_eq_true rfl) (w_X8_best_0 (sIsThing (d := d + 4) hL h12) (fun z I1 L1 R1 hq => ?_))
  obtain ⟨rfl, rfl, rfl, rfl⟩ := hq
  refine w_X8_best_5 (fun q => bad (fun c => if1.1 q c.1)) (fun q => w_X8_best_8 (fun q2 => bad (fun c => ?_)) (fun q2 => w_X8_best_13 (fun q3 => bad (fun c => ?_)) (fun q3 => w_X8_best_19 (fun q4 => bad (fun c => ?_)) (fun q4 => w_X8_best_23 (fun q5 => ?_) (fun q5 => bad (fun c => q5 (i_le.mpr (by omega))))))))
  · have := i_lt.mp q2
    omega
  · have := i_lt.mp q3
    omega
  · have := i_lt.mp q4
    omega
  have q2 := nlt q2
  have q3 := nlt q3
  have q4 := nlt q4
  have q5 := i_le.mp q5
  have c0 : okT A t ∧ (1 ≤ m.toInt ∧ m.toInt ≤ 48) ∧ 0 ≤ w.toInt ∧ w.toInt ≤ 1 := ⟨if1.2 q, ⟨by omega, by omega⟩, by omega, by omega⟩
  have t0 := c0.1
  have ht : t.toInt = t.toInt.toNat := by omega
  have hm : m.toInt = m.toInt.toNat := by omega
  refine w_X8_best_30 (sTal (d := d) hs r8 ht (by omega) hm (by omega)) (fun I2 L2 R2 hq => ?_)
  obtain ⟨rfl, rfl, f2, g2⟩ := hq
  refine w_X8_best_36 (sBestL (d := d) r8 (c := I2 255) (fun i _ => rfl) 19 1 0 1 0 (by omega) rfl rfl (by decide) ⟨rfl, _, rfl, rfl, rfl, fun z => ?_, cS_q5 hs f2⟩)
  unfold qBest
  rw [if_neg (fun z => z c0)]
  exact bs_cg (g2 (by omega)) w 19 1 0 (by omega) (by omega)
end
