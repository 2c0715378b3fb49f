/-- the tape's bytes and how many -/
def cBy (I : qMI) (i : Nat) : Int32 := I 2 i &&& 255
def cSz (I : qMI) : Nat := (I 1 1).toInt.toNat
/-- only the next place is another -/
def cN (I I' : qMI) : Prop := (∀ k, k ≠ 4 → I' k = I k) ∧ ∀ j, j ≠ 4 → I' 4 j = I 4 j
theorem cN_rf (I : qMI) : cN I I := ⟨fun _ _ => rfl, fun _ _ => rfl⟩
theorem cN_up {I J : qMI} {x : Int32} (h : cN I J) : cN I (qUp J 4 4 x) := ⟨fun k a => by rw [← h.1 k a]; exact funext fun j => qUp_ne (fun q => by omega), fun j a => by rw [← h.2 j a]; exact qUp_ne (fun q => by omega)⟩
theorem cN_by {I J : qMI} (h : cN I J) : cBy J = cBy I ∧ cSz J = cSz I ∧ J 1 1 = I 1 1 := by
  refine ⟨funext fun i => ?_, ?_, by rw [h.1 1 (by decide)]⟩
  · unfold cBy
    rw [h.1 2 (by decide)]
  · unfold cSz
    rw [h.1 1 (by decide)]
section
variable {l : Launch} {G : qG} {d : Nat} {I : qMI} {L : qML} {R : qMR}
abbrev cSame (I : qMI) (L : qML) (R : qMR) (v : Int32) : Int32 → qMI → qML → qMR → Prop := fun y I' L' R' => R = R' ∧ L = L' ∧ I = I' ∧ y = v
theorem cBlank {c : Int32} : wkCi l G (d + 1) n_X6_isBlank [.int c] I L R (cSame I L R (if pBl c = true then 1 else 0)) := by
  have yes : (c = 9 ∨ c = 10 ∨ c = 13 ∨ c = 32) → wkB l G (d + 1) n_X6_isBlank (fun r t I' L' R' => t = 336 ∧ ∃ y, r = some (.int y) ∧ cSame I L R (if pBl c = true then 1 else 0) y I' L' R') 24 [.int c] [] I L R := fun h => w_X6_isBlank_24 (w_X6_isBlank_29 ⟨rfl, _, rfl, rfl, rfl, rfl, by rw [if_pos (show pBl c = true from decide_eq_true h)]⟩ (Or.inr rfl))
  refine wkC_of 0 (by decide) (Nat.le_of_ble_eq_true rfl) (w_X6_isBlank_0 (fun q => yes (Or.inl q)) (fun q1 => w_X6_isBlank_6 (fun q => yes (Or.inr (Or.inl q))) (fun q2 => w_X6_isBlank_12 (fun q => yes (Or.inr (Or.inr (Or.inl q)))) (fun q3 => w_X6_isBlank_18 (fun q4 => ?_) (fun q => yes (Or.inr (Or.inr (Or.inr q))))))))
  exact w_X6_isBlank_28 (w_X6_isBlank_29 ⟨rfl, _, rfl, rfl, rfl, rfl, by rw [if_neg (fun q => by have := of_decide_eq_true q; rcases this with h | h | h | h; exact q1 h; exact q2 h; exact q3 h; exact q4 h)]⟩ (Or.inl rfl))
theorem cLetter {c : Int32} : wkCi l G (d + 1) n_X6_isLetter [.int c] I L R (cSame I L R (if pLe c = true then 1 else 0)) := by
  refine wkC_of 0 (by decide) (Nat.le_of_ble_eq_true rfl) (w_X6_isLetter_0 (fun q => ?_) (fun q1 => w_X6_isLetter_6 (fun q => ?_) (fun q2 => ?_)))
  · exact w_X6_isLetter_16 (w_X6_isLetter_17 ⟨rfl, _, rfl, rfl, rfl, rfl, by rw [if_neg (fun h => by have := (of_decide_eq_true h).1; exact absurd q (Int32.not_lt.mpr this))]⟩ (Or.inl rfl))
  · exact w_X6_isLetter_16 (w_X6_isLetter_17 ⟨rfl, _, rfl, rfl, rfl, rfl, by rw [if_neg (fun h => by have := (of_decide_eq_true h).2; exact absurd q (Int32.not_lt.mpr this))]⟩ (Or.inl rfl))
  · exact w_X6_isLetter_12 (w_X6_isLetter_17 ⟨rfl, _, rfl, rfl, rfl, rfl, by rw [if_pos (show pLe c = true from decide_eq_true ⟨Int32.not_lt.mp q1, Int32.not_lt.mp q2⟩)]⟩ (Or.inr rfl))
theorem cDigit {c : Int32} : wkCi l G (d + 1) n_X6_isDigit [.int c] I L R (cSame I L R (if pDi c = true then 1 else 0)) := by
  refine wkC_of 0 (by decide) (Nat.le_of_ble_eq_true rfl) (w_X6_isDigit_0 (fun q => ?_) (fun q1 => w_X6_isDigit_6 (fun q => ?_) (fun q2 => ?_)))
  · exact w_X6_isDigit_16 (w_X6_isDigit_17 ⟨rfl, _, rfl, rfl, rfl, rfl, by rw [if_neg (fun h => by have := (of_decide_eq_true h).1; exact absurd q (Int32.not_lt.mpr this))]⟩ (Or.inl rfl))
  · exact w_X6_isDigit_16 (w_X6_isDigit_17 ⟨rfl, _, rfl, rfl, rfl, rfl, by rw [if_neg (fun h => by have := (of_decide_eq_true h).2; exact absurd q (Int32.not_lt.mpr this))]⟩ (Or.inl rfl))
  · exact w_X6_isDigit_12 (w_X6_isDigit_17 ⟨rfl, _, rfl, rfl, rfl, rfl, by rw [if_pos (show pDi c = true from decide_eq_true ⟨Int32.not_lt.mp q1, Int32.not_lt.mp q2⟩)]⟩ (Or.inr rfl))
theorem cWith {a : Int64} {b : Int32} : wkCl l G (d + 1) n_X6_withLetter [.long a, .int b] I L R (fun y I' L' R' => R = R' ∧ L = L' ∧ I = I' ∧ y = a * 27 + ((b - 97) + 1).toInt64) := wkC_of 0 (by decide) (Nat.le_of_ble_eq_true rfl) (w_X6_withLetter_0 ⟨rfl, _, rfl, rfl, rfl, rfl, rfl⟩)
theorem cByte (hR : R 1 0 = some 2) {i : Int32} (h0 : 0 ≤ i.toInt) (hs : (I 1 1).toInt ≤ 2000) : wkCi l G (d + 1) n_X5_byteAt [.ref 1, .int i] I L R (cSame I L R (if i.toInt.toNat < cSz I then cBy I i.toInt.toNat else -1)) := by
  refine wkC_of 0 (by decide) (Nat.le_of_ble_eq_true rfl) (w_X5_byteAt_0 (fun q => absurd (i_lt.mp q) (by rw [show (0 : Int32).toInt = 0 from rfl]; omega)) (fun _ => w_X5_byteAt_4 (fun q => ?_) (fun q => ?_)))
  · have q := i_le.mp q
    exact w_X5_byteAt_25 (w_X5_byteAt_26 ⟨rfl, _, rfl, rfl, rfl, rfl, by rw [if_neg (by unfold cSz; omega)]⟩)
  · have q : ¬ _ := fun z => q (i_le.mpr z)
    exact w_X5_byteAt_12 hR (vin h0 (by omega)) (w_X5_byteAt_26 ⟨rfl, _, rfl, rfl, rfl, rfl, by rw [if_pos (by unfold cSz; omega)]; rfl⟩)
theorem cSkip (hR : R 1 0 = some 2) (h0 : 0 ≤ (I 4 4).toInt) (h1 : (I 4 4).toInt ≤ (I 1 1).toInt) (hs : (I 1 1).toInt ≤ 2000) : wkCv l G (d + 2) n_X6_skipBlanks [.ref 4, .ref 1] I L R (fun I' L' R' => R = R' ∧ L = L' ∧ cN I I' ∧ (I' 4 4).toInt = pEnd pBl (cBy I) (cSz I) (I 4 4).toInt.toNat) := by
  have loop : ∀ (m : Nat) (J : qMI), ((I 1 1).toInt - (J 4 4).toInt).toNat = m → cN I J → 0 ≤ (J 4 4).toInt → (J 4 4).toInt ≤ (I 1 1).toInt → wkB l G (d + 1 + 1) n_X6_skipBlanks (fun r t I' L' R' => t = 336 ∧ r = none ∧ R = R' ∧ L = L' ∧ cN I I' ∧ (I' 4 4).toInt = pEnd pBl (cBy I) (cSz I) (J 4 4).toInt.toNat) 0 [.ref 4, .ref 1] [] J L R := by
    intro m
    induction m with
    | zero =>
      intro J hm c a1 a2
      obtain ⟨e1, e2, e3⟩ := cN_by c
      refine w_X6_skipBlanks_0 (fun _ => w_X6_skipBlanks_38 ⟨rfl, rfl, rfl, rfl, c, ?_⟩) (fun q => absurd (i_le.mpr (by rw [e3]; omega)) q)
      rw [pEnd_no (fun q => by have : cSz I = (I 1 1).toInt.toNat := rfl; omega)]
      omega
    | succ m ih =>
      intro J hm c a1 a2
      obtain ⟨e1, e2, e3⟩ := cN_by c
      have hn : (J 4 4).toInt.toNat < cSz I := by have : cSz I = (I 1 1).toInt.toNat := rfl; omega
      refine w_X6_skipBlanks_0 (fun q => absurd (i_le.mp q) (by rw [e3]; omega)) (fun _ => ?_)
      refine w_X6_skipBlanks_11 (cByte (d := d) hR a1 (by rw [e3]; exact hs)) (fun y I1 L1 R1 hq => ?_)
      obtain ⟨rfl, rfl, rfl, rfl⟩ := hq
      rw [e1, e2, if_pos hn]
      refine w_X6_skipBlanks_19 (cBlank (d := d)) (fun y I1 L1 R1 hq => ?_)
      obtain ⟨rfl, rfl, rfl, rfl⟩ := hq
      by_cases hb : pBl (cBy I (J 4 4).toInt.toNat) = true
      · rw [if_pos hb]
        have e4 : (J 4 4 + 1).toInt = (J 4 4).toInt + 1 := i_s (by omega)
        have e5 : (qUp J 4 4 (J 4 4 + 1)) 4 4 = J 4 4 + 1 := by rw [qUp_at, if_pos ⟨rfl, rfl⟩]
        have := ih (qUp J 4 4 (J 4 4 + 1)) (by rw [e5, e4]; omega) (cN_up c) (by rw [e5, e4]; omega) (by rw [e5, e4]; omega)
        rw [e5, e4, show ((J 4 4).toInt + 1).toNat = (J 4 4).toInt.toNat + 1 by omega, ← pEnd_go hn hb] at this
        exact w_X6_skipBlanks_22 (fun q => absurd q (by decide)) (fun _ => w_X6_skipBlanks_25 this)
      · rw [if_neg hb]
        refine w_X6_skipBlanks_22 (fun _ => w_X6_skipBlanks_38 ⟨rfl, rfl, rfl, rfl, c, ?_⟩) (fun q => absurd rfl q)
        rw [pEnd_no (fun q => hb q.2)]
        omega
  exact wkC_of 0 (by decide) (Nat.le_of_ble_eq_true rfl) (loop _ I rfl (cN_rf I) h0 h1)
end
section
variable {l : Launch} {G : qG} {d : Nat} {I : qMI} {L : qML} {R : qMR}
theorem lg_cmp0 {a b : Int64} : lg_cmp a b = 0 ↔ a = b := by
  unfold lg_cmp
  constructor
  · intro h
    split at h
    · exact absurd h (by decide)
    · split at h
      · assumption
      · exact absurd h (by decide)
  · intro h
    subst h
    rw [if_neg (fun q => Int64.lt_irrefl q), if_pos rfl]
theorem cKind (hR : R 4 0 = some 5) {key : Int64} : wkCi l G (d + 1) n_X6_kindOf [.ref 4, .long key] I L R (cSame I L R (pW (L 5) key)) := by
  have loop : ∀ (m : Nat) (k : Int32), 23 - k.toInt = m → 0 ≤ k.toInt → wkB l G (d + 1) n_X6_kindOf (fun r t I' L' R' => t = 336 ∧ ∃ y, r = some (.int y) ∧ cSame I L R (pWf (L 5) key m k) y I' L' R') 2 [.ref 4, .long key, wkU, .int k] [] I L R := by
    intro m
    induction m with
    | zero =>
      intro k hm h0
      exact w_X6_kindOf_2 (fun _ => w_X6_kindOf_31 ⟨rfl, _, rfl, rfl, rfl, rfl, rfl⟩) (fun q => absurd (i_le.mpr (by rw [show (23 : Int32).toInt = 23 from rfl]; omega)) q)
    | succ m ih =>
      intro k hm h0
      refine w_X6_kindOf_2 (fun q => absurd (i_le.mp q) (by rw [show (23 : Int32).toInt = 23 from rfl]; omega)) (fun _ => ?_)
      have e1 : (k + 1).toInt = k.toInt + 1 := i_s (by omega)
      refine w_X6_kindOf_8 hR (vin h0 (by omega)) (fun q => ?_) (fun q => ?_)
      · have q : ¬ L 5 k.toNatClampNeg = key := fun z => q (lg_cmp0.mpr z)
        have := ih (k + 1) (by omega) (by omega)
        rw [show pWf (L 5) key (m + 1) k = pWf (L 5) key m (k + 1) from by show (if _ then _ else _) = _; rw [if_neg q]]
        exact w_X6_kindOf_25 this
      · have q := lg_cmp0.mp q
        exact w_X6_kindOf_19 ⟨rfl, _, rfl, rfl, rfl, rfl, by show _ = (if _ then _ else _); rw [if_pos q]⟩
  exact wkC_of 1 (by decide) (Nat.le_of_ble_eq_true rfl) (w_X6_kindOf_0 (loop 23 0 (by rfl) (by decide)))
/-- what a run of letters or digits leaves: the next place, its kind, its worth -/
def cRun (I I' : qMI) (L L' : qML) (k : Nat) (nx : Nat) (kd : Int32) (vl : Int64) : Prop := ((∀ a, a ≠ 4 → a ≠ 6 → I' a = I a) ∧ (∀ j, j ≠ 4 → I' 4 j = I 4 j) ∧ ∀ j, j ≠ k → I' 6 j = I 6 j) ∧ (I' 4 4).toInt = nx ∧ I' 6 k = kd ∧ L' = qUpL L 8 k vl
theorem cLetters (hR : R 1 0 = some 2) (hR2 : R 4 0 = some 5 ∧ R 4 1 = some 6 ∧ R 4 3 = some 8) {a2 : Int32} (hv : vp_in a2 401) (h0 : 0 ≤ (I 4 4).toInt) (h1 : (I 4 4).toInt ≤ (I 1 1).toInt) (hs : (I 1 1).toInt ≤ 2000) : wkCv l G (d + 2) n_X6_scanLetters [.ref 4, .ref 1, .int a2] I L R (fun I' L' R' => R = R' ∧ cRun I I' L L' a2.toNatClampNeg (pEnd pLe (cBy I) (cSz I) (I 4 4).toInt.toNat) (if 8 < pEnd pLe (cBy I) (cSz I) (I 4 4).toInt.toNat - (I 4 4).toInt.toNat then 1 else pW (L 5) (pKey (cBy I) (I 4 4).toInt.toNat (pEnd pLe (cBy I) (cSz I) (I 4 4).toInt.toNat - (I 4 4).toInt.toNat))) (pKey (cBy I) (I 4 4).toInt.toNat (pEnd pLe (cBy I) (cSz I) (I 4 4).toInt.toNat - (I 4 4).toInt.toNat))) := by
  generalize hs0 : I 4 4 = s0 at *
  generalize hi : s0.toInt.toNat = i
  have hile : i ≤ cSz I := by have : cSz I = (I 1 1).toInt.toNat := rfl; omega
  have fin : ∀ (J : qMI) (key : Int64), cN I J → (J 4 4).toInt.toNat = pEnd pLe (cBy I) (cSz I) i → 0 ≤ (J 4 4).toInt → key = pKey (cBy I) i (pEnd pLe (cBy I) (cSz I) i - i) → wkB l G (d + 1 + 1) n_X6_scanLetters (fun r t I' L' R' => t = 336 ∧ r = none ∧ R = R' ∧ cRun I I' L L' a2.toNatClampNeg (pEnd pLe (cBy I) (cSz I) i) (if 8 < pEnd pLe (cBy I) (cSz I) i - i then 1 else pW (L 5) (pKey (cBy I) i (pEnd pLe (cBy I) (cSz I) i - i))) (pKey (cBy I) i (pEnd pLe (cBy I) (cSz I) i - i))) 61 [.ref 4, .ref 1, .int a2, .int s0, .long key, wkU] [] J L R := by
    intro J key c hnx hj0 hkey
    have hle := pEnd_le (p := pLe) (c := cBy I) hile
    have hcs : cSz I = (I 1 1).toInt.toNat := rfl
    have esub : (J 4 4 - s0).toInt = (pEnd pLe (cBy I) (cSz I) i : Int) - i := by
      rw [i_sub (by omega) (by omega)]
      omega
    have out : ∀ (J' : qMI) (kd : Int32), J' = J → kd = (if 8 < pEnd pLe (cBy I) (cSz I) i - i then 1 else pW (L 5) key) → wkB l G (d + 1 + 1) n_X6_scanLetters (fun r t I' L' R' => t = 336 ∧ r = none ∧ R = R' ∧ cRun I I' L L' a2.toNatClampNeg (pEnd pLe (cBy I) (cSz I) i) (if 8 < pEnd pLe (cBy I) (cSz I) i - i then 1 else pW (L 5) (pKey (cBy I) i (pEnd pLe (cBy I) (cSz I) i - i))) (pKey (cBy I) i (pEnd pLe (cBy I) (cSz I) i - i))) 95 [.ref 4, .ref 1, .int a2, .int s0, .long key, wkU] [.int kd, .int a2, .ref 6] J' (qUpL L 8 a2.toNatClampNeg key) R := by
      intro J' kd e hkd
      subst e
      refine w_X6_scanLetters_95 hv ⟨rfl, rfl, rfl, ⟨fun a q1 q2 => ?_, fun j q => ?_, fun j q => ?_⟩, ?_, ?_, by rw [hkey]⟩
      · rw [← c.1 a q1]; exact funext fun j => qUp_ne (fun q => by omega)
      · rw [← c.2 j q]; exact qUp_ne (fun q => by omega)
      · rw [← c.1 6 (by decide)]; exact qUp_ne (fun z => q z.2)
      · rw [qUp_ne (fun q => by omega)]; omega
      · rw [qUp_at, if_pos ⟨rfl, rfl⟩, hkd, hkey]
    refine w_X6_scanLetters_61 hR2.2.2 hv hR2.2.1 (fun q => ?_) (fun q => ?_)
    · have q := i_le.mp q
      rw [esub, show (8 : Int32).toInt = 8 from rfl] at q
      refine w_X6_scanLetters_89 (cKind (d := d + 0) hR2.1) (fun y I1 L1 R1 hq => ?_)
      obtain ⟨rfl, rfl, rfl, rfl⟩ := hq
      refine out J _ rfl ?_
      rw [if_neg (by omega)]
      rw [show (qUpL L 8 a2.toNatClampNeg key) 5 = L 5 from funext fun j => by rw [qUpL_at, if_neg (fun z => by omega)]]
    · have q : ¬ _ := fun z => q (i_le.mpr z)
      rw [esub, show (8 : Int32).toInt = 8 from rfl] at q
      exact w_X6_scanLetters_85 (out J _ rfl (by rw [if_pos (by omega)]))
  have loop : ∀ (m : Nat) (J : qMI) (k : Nat) (key : Int64), ((I 1 1).toInt - (J 4 4).toInt).toNat = m → cN I J → (J 4 4).toInt = (i + k : Nat) → (J 4 4).toInt ≤ (I 1 1).toInt → key = pKey (cBy I) i k → pEnd pLe (cBy I) (cSz I) i = pEnd pLe (cBy I) (cSz I) (i + k) → wkB l G (d + 1 + 1) n_X6_scanLetters (fun r t I' L' R' => t = 336 ∧ r = none ∧ R = R' ∧ cRun I I' L L' a2.toNatClampNeg (pEnd pLe (cBy I) (cSz I) i) (if 8 < pEnd pLe (cBy I) (cSz I) i - i then 1 else pW (L 5) (pKey (cBy I) i (pEnd pLe (cBy I) (cSz I) i - i))) (pKey (cBy I) i (pEnd pLe (cBy I) (cSz I) i - i))) 8 [.ref 4, .ref 1, .int a2, .int s0, .long key, wkU] [] J L R := by
    intro m
    induction m with
    | zero =>
      intro J k key hm c a1 a2' hkey hend
      obtain ⟨e1, e2, e3⟩ := cN_by c
      have hcs : cSz I = (I 1 1).toInt.toNat := rfl
      have ee : pEnd pLe (cBy I) (cSz I) i = i + k := by rw [hend, pEnd_no (fun q => by omega)]
      exact w_X6_scanLetters_8 (fun _ => fin J key c (by rw [ee]; omega) (by omega) (by rw [ee, hkey]; congr 1; omega)) (fun q => absurd (i_le.mpr (by rw [e3]; omega)) q)
    | succ m ih =>
      intro J k key hm c a1 a2' hkey hend
      obtain ⟨e1, e2, e3⟩ := cN_by c
      have hcs : cSz I = (I 1 1).toInt.toNat := rfl
      have hn : (J 4 4).toInt.toNat < cSz I := by omega
      have hnk : (J 4 4).toInt.toNat = i + k := by omega
      refine w_X6_scanLetters_8 (fun q => absurd (i_le.mp q) (by rw [e3]; omega)) (fun _ => ?_)
      refine w_X6_scanLetters_19 (cByte (d := d) hR (by omega) (by rw [e3]; exact hs)) (fun y I1 L1 R1 hq => ?_)
      obtain ⟨rfl, rfl, rfl, rfl⟩ := hq
      rw [e1, e2, if_pos hn, hnk]
      refine w_X6_scanLetters_27 (cLetter (d := d)) (fun y I1 L1 R1 hq => ?_)
      obtain ⟨rfl, rfl, rfl, rfl⟩ := hq
      by_cases hb : pLe (cBy I (i + k)) = true
      · rw [if_pos hb]
        refine w_X6_scanLetters_30 (fun q => absurd q (by decide)) (fun _ => ?_)
        refine w_X6_scanLetters_33 (cByte (d := d) hR (by omega) (by rw [e3]; exact hs)) (fun y I1 L1 R1 hq => ?_)
        obtain ⟨rfl, rfl, rfl, rfl⟩ := hq
        rw [e1, e2, if_pos hn, hnk]
        refine w_X6_scanLetters_43 (cWith (d := d)) (fun y I1 L1 R1 hq => ?_)
        obtain ⟨rfl, rfl, rfl, rfl⟩ := hq
        have e4 : (J 4 4 + 1).toInt = (J 4 4).toInt + 1 := i_s (by omega)
        have e5 : (qUp J 4 4 (J 4 4 + 1)) 4 4 = J 4 4 + 1 := by rw [qUp_at, if_pos ⟨rfl, rfl⟩]
        exact w_X6_scanLetters_46 (ih (qUp J 4 4 (J 4 4 + 1)) (k + 1) _ (by rw [e5, e4]; omega) (cN_up c) (by rw [e5, e4]; omega) (by rw [e5, e4]; omega) (by rw [hkey]; rfl) (by rw [hend, pEnd_go (by omega) hb]; rfl))
      · rw [if_neg hb]
        have ee : pEnd pLe (cBy I) (cSz I) i = i + k := by rw [hend, pEnd_no (fun q => hb q.2)]
        exact w_X6_scanLetters_30 (fun _ => fin J key c (by rw [ee]; omega) (by omega) (by rw [ee, hkey]; congr 1; omega)) (fun q => absurd rfl q)
  refine wkC_of 3 (by decide) (Nat.le_of_ble_eq_true rfl) (w_X6_scanLetters_0 ?_)
  rw [hs0]
  exact loop _ I 0 0 rfl (cN_rf I) (by rw [hs0]; omega) (by rw [hs0]; omega) rfl rfl
end
section
variable {l : Launch} {G : qG} {d : Nat} {I : qMI} {L : qML} {R : qMR}
theorem cDigits (hR : R 1 0 = some 2) (hR2 : R 4 1 = some 6 ∧ R 4 3 = some 8) {a2 : Int32} (hv : vp_in a2 401) (h0 : 0 ≤ (I 4 4).toInt) (h1 : (I 4 4).toInt ≤ (I 1 1).toInt) (hs : (I 1 1).toInt ≤ 2000) : wkCv l G (d + 2) n_X6_scanDigits [.ref 4, .ref 1, .int a2] I L R (fun I' L' R' => R = R' ∧ cRun I I' L L' a2.toNatClampNeg (pEnd pDi (cBy I) (cSz I) (I 4 4).toInt.toNat) (if 4 < pEnd pDi (cBy I) (cSz I) (I 4 4).toInt.toNat - (I 4 4).toInt.toNat then 1 else 3) (pNum (cBy I) (I 4 4).toInt.toNat (pEnd pDi (cBy I) (cSz I) (I 4 4).toInt.toNat - (I 4 4).toInt.toNat))) := by
  generalize hs0 : I 4 4 = s0 at *
  generalize hi : s0.toInt.toNat = i
  have hile : i ≤ cSz I := by have : cSz I = (I 1 1).toInt.toNat := rfl; omega
  have fin : ∀ (J : qMI) (key : Int64), cN I J → (J 4 4).toInt.toNat = pEnd pDi (cBy I) (cSz I) i → 0 ≤ (J 4 4).toInt → key = pNum (cBy I) i (pEnd pDi (cBy I) (cSz I) i - i) → wkB l G (d + 1 + 1) n_X6_scanDigits (fun r t I' L' R' => t = 336 ∧ r = none ∧ R = R' ∧ cRun I I' L L' a2.toNatClampNeg (pEnd pDi (cBy I) (cSz I) i) (if 4 < pEnd pDi (cBy I) (cSz I) i - i then 1 else 3) (pNum (cBy I) i (pEnd pDi (cBy I) (cSz I) i - i))) 67 [.ref 4, .ref 1, .int a2, .int s0, .long key, wkU] [] J L R := by
    intro J key c hnx hj0 hkey
    have hle := pEnd_le (p := pDi) (c := cBy I) hile
    have hcs : cSz I = (I 1 1).toInt.toNat := rfl
    have esub : (J 4 4 - s0).toInt = (pEnd pDi (cBy I) (cSz I) i : Int) - i := by
      rw [i_sub (by omega) (by omega)]
      omega
    have out : ∀ (kd : Int32), kd = (if 4 < pEnd pDi (cBy I) (cSz I) i - i then 1 else 3) → wkB l G (d + 1 + 1) n_X6_scanDigits (fun r t I' L' R' => t = 336 ∧ r = none ∧ R = R' ∧ cRun I I' L L' a2.toNatClampNeg (pEnd pDi (cBy I) (cSz I) i) (if 4 < pEnd pDi (cBy I) (cSz I) i - i then 1 else 3) (pNum (cBy I) i (pEnd pDi (cBy I) (cSz I) i - i))) 95 [.ref 4, .ref 1, .int a2, .int s0, .long key, wkU] [.int kd, .int a2, .ref 6] J (qUpL L 8 a2.toNatClampNeg key) R := by
      intro kd hkd
      refine w_X6_scanDigits_95 hv ⟨rfl, rfl, rfl, ⟨fun a q1 q2 => ?_, fun j q => ?_, fun j q => ?_⟩, ?_, ?_, by rw [hkey]⟩
      · rw [← c.1 a q1]; exact funext fun j => qUp_ne (fun q => by omega)
      · rw [← c.2 j q]; exact qUp_ne (fun q => by omega)
      · rw [← c.1 6 (by decide)]; exact qUp_ne (fun z => q z.2)
      · rw [qUp_ne (fun q => by omega)]; omega
      · rw [qUp_at, if_pos ⟨rfl, rfl⟩, hkd]
    refine w_X6_scanDigits_67 hR2.2 hv hR2.1 (fun q => ?_) (fun q => ?_)
    · have q := i_le.mp q
      rw [esub, show (4 : Int32).toInt = 4 from rfl] at q
      exact w_X6_scanDigits_94 (out _ (by rw [if_neg (by omega)]))
    · have q : ¬ _ := fun z => q (i_le.mpr z)
      rw [esub, show (4 : Int32).toInt = 4 from rfl] at q
      exact w_X6_scanDigits_90 (out _ (by rw [if_pos (by omega)]))
  have loop : ∀ (m : Nat) (J : qMI) (k : Nat) (key : Int64), ((I 1 1).toInt - (J 4 4).toInt).toNat = m → cN I J → (J 4 4).toInt = (i + k : Nat) → (J 4 4).toInt ≤ (I 1 1).toInt → key = pNum (cBy I) i k → pEnd pDi (cBy I) (cSz I) i = pEnd pDi (cBy I) (cSz I) (i + k) → wkB l G (d + 1 + 1) n_X6_scanDigits (fun r t I' L' R' => t = 336 ∧ r = none ∧ R = R' ∧ cRun I I' L L' a2.toNatClampNeg (pEnd pDi (cBy I) (cSz I) i) (if 4 < pEnd pDi (cBy I) (cSz I) i - i then 1 else 3) (pNum (cBy I) i (pEnd pDi (cBy I) (cSz I) i - i))) 8 [.ref 4, .ref 1, .int a2, .int s0, .long key, wkU] [] J L R := by
    intro m
    induction m with
    | zero =>
      intro J k key hm c a1 a2' hkey hend
      obtain ⟨e1, e2, e3⟩ := cN_by c
      have hcs : cSz I = (I 1 1).toInt.toNat := rfl
      have ee : pEnd pDi (cBy I) (cSz I) i = i + k := by rw [hend, pEnd_no (fun q => by omega)]
      exact w_X6_scanDigits_8 (fun _ => fin J key c (by rw [ee]; omega) (by omega) (by rw [ee, hkey]; congr 1; omega)) (fun q => absurd (i_le.mpr (by rw [e3]; omega)) q)
    | succ m ih =>
      intro J k key hm c a1 a2' hkey hend
      obtain ⟨e1, e2, e3⟩ := cN_by c
      have hcs : cSz I = (I 1 1).toInt.toNat := rfl
      have hn : (J 4 4).toInt.toNat < cSz I := by omega
      have hnk : (J 4 4).toInt.toNat = i + k := by omega
      refine w_X6_scanDigits_8 (fun q => absurd (i_le.mp q) (by rw [e3]; omega)) (fun _ => ?_)
      refine w_X6_scanDigits_19 (cByte (d := d) hR (by omega) (by rw [e3]; exact hs)) (fun y I1 L1 R1 hq => ?_)
      obtain ⟨rfl, rfl, rfl, rfl⟩ := hq
      rw [e1, e2, if_pos hn, hnk]
      refine w_X6_scanDigits_27 (cDigit (d := d)) (fun y I1 L1 R1 hq => ?_)
      obtain ⟨rfl, rfl, rfl, rfl⟩ := hq
      by_cases hb : pDi (cBy I (i + k)) = true
      · rw [if_pos hb]
        refine w_X6_scanDigits_30 (fun q => absurd q (by decide)) (fun _ => ?_)
        refine w_X6_scanDigits_33 (cByte (d := d) hR (by omega) (by rw [e3]; exact hs)) (fun y I1 L1 R1 hq => ?_)
        obtain ⟨rfl, rfl, rfl, rfl⟩ := hq
        rw [e1, e2, if_pos hn, hnk]
        have e4 : (J 4 4 + 1).toInt = (J 4 4).toInt + 1 := i_s (by omega)
        have e5 : (qUp J 4 4 (J 4 4 + 1)) 4 4 = J 4 4 + 1 := by rw [qUp_at, if_pos ⟨rfl, rfl⟩]
        exact w_X6_scanDigits_47 (ih (qUp J 4 4 (J 4 4 + 1)) (k + 1) _ (by rw [e5, e4]; omega) (cN_up c) (by rw [e5, e4]; omega) (by rw [e5, e4]; omega) (by rw [hkey]; rfl) (by rw [hend, pEnd_go (by omega) hb]; rfl))
      · rw [if_neg hb]
        have ee : pEnd pDi (cBy I) (cSz I) i = i + k := by rw [hend, pEnd_no (fun q => hb q.2)]
        exact w_X6_scanDigits_30 (fun _ => fin J key c (by rw [ee]; omega) (by omega) (by rw [ee, hkey]; congr 1; omega)) (fun q => absurd rfl q)
  refine wkC_of 3 (by decide) (Nat.le_of_ble_eq_true rfl) (w_X6_scanDigits_0 ?_)
  rw [hs0]
  exact loop _ I 0 0 rfl (cN_rf I) (by rw [hs0]; omega) (by rw [hs0]; omega) rfl rfl
end
/-! which byte is a sign: the library's indexOf, run for each byte -/
noncomputable def zNil (A : zAm) : Bool := List.rec (motive := fun _ => Bool) true (fun _ _ _ => false) A
theorem zNil_t {A : zAm} (h : zNil A = true) : A = [] := by
  cases A with
  | nil => rfl
  | cons a b => exact Bool.noConfusion (show false = true from h)
noncomputable def kSg (c : Nat) : zKr := fun r t A => bif Nat.beq t 336 then (bif zNil A then Option.rec (motive := fun _ => Bool) false (fun x => zI x (fun a => bif pSg (zc c) then Nat.ble 2147483648 (zlo a) else Nat.ble (Nat.succ (zhi a)) 2147483648)) r else false) else false
theorem kIx : zup 2147483648 256 (fun c => f_J0_indexOf_0f7a4 [.inr (.float 1), .inl c] 336 [] (kSg c)) = true := by decide +kernel
theorem c16 : ∀ k, k < 256 → ((Int32.ofNat k).toUInt32 % 65536).toInt32 = Int32.ofNat k := by decide +kernel
theorem zc_b (x : Int32) : zc (zb x) = x := by
  unfold zc
  rw [zb_int, show x.toInt + 2147483648 - 2147483648 = x.toInt by omega]
  exact Int32.ofInt_toInt x
theorem cIndex {l : Launch} {G : qG} {d : Nat} {I : qMI} {L : qML} {R : qMR} {c : Int32} (h0 : 0 ≤ c.toInt) (h1 : c.toInt ≤ 255) : wkCi l G (d + 4) n_J0_indexOf_0f7a4 [.float 1, .int ((c.toUInt32 % 65536).toInt32)] I L R (fun y I' L' R' => R = R' ∧ L = L' ∧ I = I' ∧ (y < 0 ↔ ¬ pSg c = true)) := by
  have ec : Int32.ofNat c.toInt.toNat = c := by
    refine i_eq.mpr ?_
    rw [Int32.toInt_ofNat_of_lt (by omega)]
    omega
  have e16 := c16 c.toInt.toNat (by omega)
  rw [ec] at e16
  rw [e16]
  have hb := zb_int c
  have hr := zup_t kIx (zb c) (by omega) (by omega)
  have hm : zM (I, L, R) 336 [] I L R := ⟨⟨fun k hk => absurd (show 31 < 15 from hk) (by decide), fun k _ hk => absurd (show 31 < 20 from hk) (by decide)⟩, fun k _ => ⟨rfl, rfl, rfl⟩, fun k _ j _ => rfl⟩
  refine qCall_mono (c_J0_indexOf_0f7a4 (gh := (I, L, R)) d _ 336 [] _ hr [.float 1, .int c] I L R ⟨⟨rfl, rfl⟩, ⟨c, rfl, zin_b c⟩, trivial⟩ hm) ?_
  intro r t I1 L1 R1 hq
  obtain ⟨r0, A', q1, q2, q3⟩ := hq
  obtain ⟨q4, q5⟩ := zand q3
  obtain ⟨q6, q7⟩ := zand q5
  have e4 := Nat.eq_of_beq_eq_true q4
  have e6 := zNil_t q6
  subst e4 e6
  have un : ∀ k, I1 k = I k ∧ L1 k = L k ∧ R1 k = R k := fun k => q2.2.1 k (Or.inl (show 20 ≤ 31 by decide))
  cases r0 with
  | none => cases q7
  | some x =>
    cases r with
    | none => exact q1.elim
    | some v =>
      obtain ⟨a, y, rfl, hy, hz⟩ := zI_t (f := fun a => bif pSg (zc (zb c)) then Nat.ble 2147483648 (zlo a) else Nat.ble (Nat.succ (zhi a)) 2147483648) q7 q1
      refine ⟨rfl, y, rfl, (funext fun k => (un k).2.2).symm, (funext fun k => (un k).2.1).symm, (funext fun k => (un k).1).symm, ?_⟩
      rw [zc_b] at hz
      have hyb := zb_int y
      have y1 := hy.1
      have y2 := hy.2
      cases hp : pSg c with
      | true =>
        rw [hp, cond_true] at hz
        have := Nat.le_of_ble_eq_true hz
        refine ⟨fun q => absurd (i_lt.mp q) (by rw [show (0 : Int32).toInt = 0 from rfl]; omega), fun q => absurd rfl q⟩
      | false =>
        rw [hp, cond_false] at hz
        have := Nat.le_of_ble_eq_true hz
        refine ⟨fun _ => by decide, fun _ => i_lt.mpr (by rw [show (0 : Int32).toInt = 0 from rfl]; omega)⟩
theorem by_255 (x : Int32) : 0 ≤ (x &&& 255).toInt ∧ (x &&& 255).toInt ≤ 255 := by
  have h := zand_le (x := x) (y := 255) (by decide)
  have e := zb_int (x &&& 255)
  have : zb (255 : Int32) = 2147483903 := by decide
  omega
/-- so many tokens are there -/
def cSc (I0 : qMI) (L0 : qML) (k : Nat) (I : qMI) (L : qML) : Prop := ((∀ a, a ≠ 4 → a ≠ 6 → a ≠ 7 → I a = I0 a) ∧ ∀ j, j ≠ 4 → I 4 j = I0 4 j) ∧ (∀ a, a ≠ 8 → L a = L0 a) ∧ ∀ j, j < k → I 6 j = pKd (L0 5) (cBy I0) (cSz I0) (pSt (cBy I0) (cSz I0) j) ∧ (I 7 j).toInt = pSt (cBy I0) (cSz I0) j ∧ (pSt (cBy I0) (cSz I0) j < cSz I0 → (pLe (cBy I0 (pSt (cBy I0) (cSz I0) j)) = true ∨ pDi (cBy I0 (pSt (cBy I0) (cSz I0) j)) = true) → L 8 j = pVl (cBy I0) (cSz I0) (pSt (cBy I0) (cSz I0) j))
theorem cScan {l : Launch} {G : qG} {d : Nat} {I : qMI} {L : qML} {R : qMR} (hR : R 1 0 = some 2) (hR4 : R 4 0 = some 5 ∧ R 4 1 = some 6 ∧ R 4 2 = some 7 ∧ R 4 3 = some 8) (hs0 : 0 ≤ (I 1 1).toInt) (hs : (I 1 1).toInt ≤ 2000) : wkCv l G (d + 5) n_X6_scan [.ref 4, .ref 1] I L R (fun I' L' R' => R = R' ∧ cSc I L 401 I' L' ∧ (I' 4 4).toInt = pPo (cBy I) (cSz I) 401) := by
  have hcs : cSz I = (I 1 1).toInt.toNat := rfl
  have loop : ∀ (m : Nat) (a2 : Int32) (J : qMI) (M : qML), 401 - a2.toInt = m → 0 ≤ a2.toInt → cSc I L a2.toNatClampNeg J M → (J 4 4).toInt = pPo (cBy I) (cSz I) a2.toNatClampNeg → wkB l G (d + 4 + 1) n_X6_scan (fun r t I' L' R' => t = 336 ∧ r = none ∧ R = R' ∧ cSc I L 401 I' L' ∧ (I' 4 4).toInt = pPo (cBy I) (cSz I) 401) 7 [.ref 4, .ref 1, .int a2, wkU] [] J M R := by
    intro m
    induction m with
    | zero =>
      intro a2 J M hm h0 hc hp
      have e : a2.toNatClampNeg = 401 := by rw [tcn]; omega
      rw [e] at hc hp
      exact w_X6_scan_7 (fun _ => w_X6_scan_122 ⟨rfl, rfl, rfl, hc, hp⟩) (fun q => absurd (i_lt.mpr (by rw [show (400 : Int32).toInt = 400 from rfl]; omega)) q)
    | succ m ih =>
      intro a2 J M hm h0 hc hp
      have ek : a2.toNatClampNeg = a2.toInt.toNat := rfl
      generalize hk : a2.toNatClampNeg = k at hc hp
      have hv : vp_in a2 401 := vin h0 (by omega)
      have e1 : (a2 + 1).toInt = a2.toInt + 1 := i_s (by omega)
      have ek1 : (a2 + 1).toNatClampNeg = k + 1 := by rw [tcn]; omega
      obtain ⟨⟨f1, f2⟩, f3, f4⟩ := hc
      have b1 : cBy J = cBy I := funext fun i => by unfold cBy; rw [f1 2 (by decide) (by decide) (by decide)]
      have b2 : J 1 1 = I 1 1 := by rw [f1 1 (by decide) (by decide) (by decide)]
      have b3 : cSz J = cSz I := by unfold cSz; rw [b2]
      have pl := pPo_le (cBy I) (cSz I) k
      have ps := pSt_le (cBy I) (cSz I) k
      have step : ∀ (a3 : Int32) (K' : qMI) (M' : qML), (∀ a, a ≠ 4 → a ≠ 6 → a ≠ 7 → K' a = I a) → (∀ j, j ≠ 4 → K' 4 j = I 4 j) → (∀ j, j ≠ k → K' 6 j = J 6 j ∧ K' 7 j = J 7 j ∧ M' 8 j = M 8 j) → (∀ a, a ≠ 8 → M' a = L a) → K' 6 k = pKd (L 5) (cBy I) (cSz I) (pSt (cBy I) (cSz I) k) → (K' 7 k).toInt = pSt (cBy I) (cSz I) k → (pSt (cBy I) (cSz I) k < cSz I → (pLe (cBy I (pSt (cBy I) (cSz I) k)) = true ∨ pDi (cBy I (pSt (cBy I) (cSz I) k)) = true) → M' 8 k = pVl (cBy I) (cSz I) (pSt (cBy I) (cSz I) k)) → (K' 4 4).toInt = pNx (cBy I) (cSz I) (pSt (cBy I) (cSz I) k) → wkB l G (d + 4 + 1) n_X6_scan (fun r t I' L' R' => t = 336 ∧ r = none ∧ R = R' ∧ cSc I L 401 I' L' ∧ (I' 4 4).toInt = pPo (cBy I) (cSz I) 401) 116 [.ref 4, .ref 1, .int a2, .int a3] [] K' M' R := by
        intro a3 K' M' g1 g2 g3 g4 g5 g6 g7 g8
        refine w_X6_scan_116 (ih (a2 + 1) K' M' (by omega) (by omega) ?_ (by rw [ek1]; exact g8))
        rw [ek1]
        refine ⟨⟨g1, g2⟩, g4, fun j hj => ?_⟩
        by_cases e : j = k
        · subst e
          exact ⟨g5, g6, g7⟩
        · obtain ⟨o1, o2, o3⟩ := g3 j e
          rw [o1, o2, o3]
          exact f4 j (by omega)
      refine w_X6_scan_7 (fun q => absurd (i_lt.mp q) (by rw [show (400 : Int32).toInt = 400 from rfl]; omega)) (fun _ => ?_)
      refine w_X6_scan_14 (cSkip (d := d + 2) hR (by omega) (by rw [b2]; omega) (by rw [b2]; exact hs)) (fun J1 M1 R1 hq => ?_)
      obtain ⟨rfl, rfl, c1, nx⟩ := hq
      rw [b1, b3, hp, Int.toNat_natCast, show pEnd pBl (cBy I) (cSz I) (pPo (cBy I) (cSz I) k) = pSt (cBy I) (cSz I) k from rfl] at nx
      generalize hi : pSt (cBy I) (cSz I) k = i at *
      have k44 : (qUp J1 7 k (J1 4 4)) 4 4 = J1 4 4 := qUp_ne (by omega)
      have h44 : (J1 4 4).toInt.toNat = i := by omega
      have K1f : ∀ a, a ≠ 4 → a ≠ 7 → (qUp J1 7 k (J1 4 4)) a = J a := fun a q1 q2 => by rw [← c1.1 a q1]; exact funext fun j => qUp_ne (fun z => q2 z.1)
      have K14 : ∀ j, j ≠ 4 → (qUp J1 7 k (J1 4 4)) 4 j = I 4 j := fun j q => by rw [qUp_ne (fun z => by omega), c1.2 j q, f2 j q]
      have K17 : ∀ j, j ≠ k → (qUp J1 7 k (J1 4 4)) 7 j = J 7 j := fun j q => by rw [qUp_ne (fun z => q z.2), c1.1 7 (by decide)]
      have K17k : ((qUp J1 7 k (J1 4 4)) 7 k).toInt = i := by rw [qUp_at, if_pos ⟨rfl, rfl⟩]; exact nx
      have hby : wkCi l G (d + 4) n_X5_byteAt [.ref 1, .int ((qUp J1 7 a2.toNatClampNeg (J1 4 4)) 4 4)] (qUp J1 7 a2.toNatClampNeg (J1 4 4)) M R (cSame (qUp J1 7 k (J1 4 4)) M R (if (J1 4 4).toInt.toNat < cSz (qUp J1 7 k (J1 4 4)) then cBy (qUp J1 7 k (J1 4 4)) (J1 4 4).toInt.toNat else -1)) := by
        rw [hk, k44]
        exact cByte (d := d + 3) hR (by omega) (by rw [K1f 1 (by decide) (by decide), b2]; exact hs)
      refine w_X6_scan_19 hR4.2.2.1 hv hby ?_
      clear hby
      generalize hK : qUp J1 7 k (J1 4 4) = K1 at *
      have kb1 : cBy K1 = cBy I := by rw [← b1]; exact funext fun x => by unfold cBy; rw [K1f 2 (by decide) (by decide)]
      have kb2 : K1 1 1 = I 1 1 := by rw [K1f 1 (by decide) (by decide), b2]
      have kb3 : cSz K1 = cSz I := by unfold cSz; rw [kb2]
      intro y I2 M2 R2 hq
      obtain ⟨rfl, rfl, rfl, hy⟩ := hq
      rw [kb1, kb3, h44] at hy
      have k1 : ∀ a, a ≠ 4 → a ≠ 6 → a ≠ 7 → K1 a = I a := fun a q1 q2 q3 => (K1f a q1 q3).trans (f1 a q1 q2 q3)
      by_cases hin : i < cSz I
      · rw [if_pos hin] at hy
        have h255 := by_255 (I 2 i)
        have hyc : cBy I i = I 2 i &&& 255 := rfl
        rw [← hyc] at h255
        subst hy
        refine w_X6_scan_37 (fun _ => ?_) (fun q => absurd q (fun z => by rw [z] at h255; exact absurd h255.1 (by decide)))
        refine w_X6_scan_53 (cLetter (d := d + 3)) (fun y I2 M2 R2 hq => ?_)
        obtain ⟨rfl, rfl, rfl, rfl⟩ := hq
        by_cases hle : pLe (cBy I i) = true
        · rw [if_pos hle]
          refine w_X6_scan_57 (fun q => absurd q (by decide)) (fun _ => ?_)
          refine w_X6_scan_60 (cLetters (d := d + 2) hR ⟨hR4.1, hR4.2.1, hR4.2.2.2⟩ hv (by rw [k44]; omega) (by rw [k44, kb2]; omega) (by rw [kb2]; exact hs)) (fun K2 M2 R2 hq => ?_)
          obtain ⟨rfl, ⟨r1, r2, r3⟩, r4, r5, r6⟩ := hq
          rw [k44, kb1, kb3, h44] at r4 r5 r6
          rw [hk] at r3 r5 r6
          refine w_X6_scan_66 (step _ K2 M2 (fun a q1 q2 q3 => (r1 a q1 q2).trans (k1 a q1 q2 q3)) (fun j q => (r2 j q).trans (K14 j q)) (fun j q => ⟨(r3 j q).trans (by rw [K1f 6 (by decide) (by decide)]), (by rw [r1 7 (by decide) (by decide)]; exact K17 j q), by rw [r6, qUpL_at, if_neg (fun z => q z.2)]⟩) (fun a q => by rw [r6]; exact funext fun j => by rw [qUpL_at, if_neg (fun z => q z.1), f3 a q]) ?_ (by rw [r1 7 (by decide) (by decide)]; exact K17k) (fun _ _ => ?_) ?_)
          · rw [r5, show pKd (L 5) (cBy I) (cSz I) i = (if 8 < pEnd pLe (cBy I) (cSz I) i - i then 1 else pW (L 5) (pKey (cBy I) i (pEnd pLe (cBy I) (cSz I) i - i))) from by unfold pKd; rw [if_neg (by omega), if_pos hle], f3 5 (by decide)]
          · rw [r6, qUpL_at, if_pos ⟨rfl, rfl⟩]
            unfold pVl
            rw [if_pos hle]
          · rw [r4]
            unfold pNx
            rw [if_neg (by omega), if_pos hle]
        · rw [if_neg hle]
          refine w_X6_scan_57 (fun _ => ?_) (fun q => absurd rfl q)
          refine w_X6_scan_69 (cDigit (d := d + 3)) (fun y I2 M2 R2 hq => ?_)
          obtain ⟨rfl, rfl, rfl, rfl⟩ := hq
          by_cases hdi : pDi (cBy I i) = true
          · rw [if_pos hdi]
            refine w_X6_scan_73 (fun q => absurd q (by decide)) (fun _ => ?_)
            refine w_X6_scan_76 (cDigits (d := d + 2) hR ⟨hR4.2.1, hR4.2.2.2⟩ hv (by rw [k44]; omega) (by rw [k44, kb2]; omega) (by rw [kb2]; exact hs)) (fun K2 M2 R2 hq => ?_)
            obtain ⟨rfl, ⟨r1, r2, r3⟩, r4, r5, r6⟩ := hq
            rw [k44, kb1, kb3, h44] at r4 r5 r6
            rw [hk] at r3 r5 r6
            refine w_X6_scan_82 (step _ K2 M2 (fun a q1 q2 q3 => (r1 a q1 q2).trans (k1 a q1 q2 q3)) (fun j q => (r2 j q).trans (K14 j q)) (fun j q => ⟨(r3 j q).trans (by rw [K1f 6 (by decide) (by decide)]), (by rw [r1 7 (by decide) (by decide)]; exact K17 j q), by rw [r6, qUpL_at, if_neg (fun z => q z.2)]⟩) (fun a q => by rw [r6]; exact funext fun j => by rw [qUpL_at, if_neg (fun z => q z.1), f3 a q]) ?_ (by rw [r1 7 (by decide) (by decide)]; exact K17k) (fun _ _ => ?_) ?_)
            · rw [r5, show pKd (L 5) (cBy I) (cSz I) i = (if 4 < pEnd pDi (cBy I) (cSz I) i - i then 1 else 3) from by unfold pKd; rw [if_neg (by omega), if_neg hle, if_pos hdi]]
            · rw [r6, qUpL_at, if_pos ⟨rfl, rfl⟩]
              unfold pVl
              rw [if_neg hle]
            · rw [r4]
              unfold pNx
              rw [if_neg (by omega), if_neg hle, if_pos hdi]
          · rw [if_neg hdi]
            refine w_X6_scan_73 (fun _ => ?_) (fun q => absurd rfl q)
            refine w_X6_scan_85 hR4.2.1 (cIndex (d := d) h255.1 h255.2) (fun y I2 M2 R2 hq => ?_)
            obtain ⟨rfl, rfl, rfl, hsg⟩ := hq
            have out : ∀ kd : Int32, kd = pKd (L 5) (cBy I) (cSz I) i → wkB l G (d + 4 + 1) n_X6_scan (fun r t I' L' R' => t = 336 ∧ r = none ∧ R = R' ∧ cSc I L 401 I' L' ∧ (I' 4 4).toInt = pPo (cBy I) (cSz I) 401) 105 [.ref 4, .ref 1, .int a2, .int (cBy I i)] [.int kd, .int a2, .ref 6] K1 M R := by
              intro kd hkd
              refine w_X6_scan_105 hv (step _ _ M (fun a q1 q2 q3 => ?_) (fun j q => ?_) (fun j q => ⟨?_, ?_, rfl⟩) f3 ?_ ?_ (fun _ q => ?_) ?_)
              · rw [← k1 a q1 q2 q3]
                exact funext fun j => by rw [qUp_ne (fun z => q1 z.1), qUp_ne (fun z => q2 z.1)]
              · rw [qUp_ne (fun z => q z.2), qUp_ne (fun z => by omega)]
                exact K14 j q
              · rw [qUp_ne (fun z => by omega), qUp_ne (fun z => q (by rw [z.2, hk])), K1f 6 (by decide) (by decide)]
              · rw [qUp_ne (fun z => by omega), qUp_ne (fun z => by omega)]
                exact K17 j q
              · rw [qUp_ne (fun z => by omega), hk, qUp_at, if_pos ⟨rfl, rfl⟩]
                exact hkd
              · rw [qUp_ne (fun z => by omega), qUp_ne (fun z => by omega)]
                exact K17k
              · rcases q with q | q
                · exact absurd q hle
                · exact absurd q hdi
              · rw [qUp_at, if_pos ⟨rfl, rfl⟩, qUp_ne (fun z => by omega), k44, i_s (by omega)]
                unfold pNx
                rw [if_neg (by omega), if_neg hle, if_neg hdi]
                omega
            by_cases hsgn : pSg (cBy I i) = true
            · exact w_X6_scan_97 (fun q => absurd hsgn (hsg.mp q)) (fun _ => w_X6_scan_100 (out _ (by unfold pKd; rw [if_neg (by omega), if_neg hle, if_neg hdi, if_pos hsgn])))
            · exact w_X6_scan_97 (fun _ => w_X6_scan_104 (out _ (by unfold pKd; rw [if_neg (by omega), if_neg hle, if_neg hdi, if_neg hsgn]))) (fun q => absurd (hsg.mpr hsgn) q)
      · rw [if_neg hin] at hy
        subst hy
        refine w_X6_scan_37 (fun q => absurd rfl q) (fun _ => ?_)
        refine w_X6_scan_43 hR4.2.1 hv (step _ _ M (fun a q1 q2 q3 => ?_) (fun j q => ?_) (fun j q => ⟨?_, ?_, rfl⟩) f3 ?_ ?_ (fun q _ => absurd q hin) ?_)
        · rw [← k1 a q1 q2 q3]
          exact funext fun j => qUp_ne (fun z => q2 z.1)
        · rw [qUp_ne (fun z => by omega)]
          exact K14 j q
        · rw [hk, qUp_ne (fun z => q z.2), K1f 6 (by decide) (by decide)]
        · rw [qUp_ne (fun z => by omega)]
          exact K17 j q
        · rw [hk, qUp_at, if_pos ⟨rfl, rfl⟩]
          unfold pKd
          rw [if_pos (by omega)]
        · rw [qUp_ne (fun z => by omega)]
          exact K17k
        · rw [qUp_ne (fun z => by omega), k44]
          unfold pNx
          rw [if_pos (by omega)]
          exact nx
  refine wkC_of 2 (by decide) (Nat.le_of_ble_eq_true rfl) (w_X6_scan_0 (loop 401 0 _ L (by rfl) (by decide) ⟨⟨fun a q _ _ => funext fun j => qUp_ne (fun z => q z.1), fun j q => qUp_ne (fun z => q z.2)⟩, fun _ _ => rfl, fun j hj => absurd hj (Nat.not_lt_zero _)⟩ ?_))
  rw [qUp_at, if_pos ⟨rfl, rfl⟩]
  rfl
