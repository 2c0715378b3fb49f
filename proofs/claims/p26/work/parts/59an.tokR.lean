/-! ===== the reference's tokens, exact ===== -/
def rK (k : Int32) : Int32 := if k = 0 then 0 else if k = 1 then 3 else if k = 2 then 1 else if k = 3 then 2 else if k = 59 then 4 else if k = 61 then 5 else if k = 40 then 6 else if k = 41 then 7 else if k = 43 then 8 else if k = 45 then 9 else if k = 42 then 10 else if k = 60 then 13 else if k = 47 then 15 else k - 108
def rBy (I : qMI) (i : Nat) : Int32 := I 294 i &&& 255
def rSz (I : qMI) : Nat := (I 292 4).toInt.toNat
def rWf (w : Nat → Int64) (key : Int64) : Nat → Int32 → Int32 → Int32
  | 0, _, kk => kk
  | m + 1, j, kk => rWf w key m (j + 1) (if w j.toNatClampNeg = key then 20 + j else kk)
theorem rK_w : ∀ m, m < 23 → rK (128 + Int32.ofNat m) = 20 + Int32.ofNat m := by decide +kernel
theorem i_ofNat (j : Int32) (h0 : 0 ≤ j.toInt) : Int32.ofNat j.toInt.toNat = j := by
  refine i_eq.mpr ?_
  have := i_hi j
  rw [Int32.toInt_ofNat_of_lt (by omega)]
  omega
theorem rWf_no {w : Nat → Int64} {key : Int64} : ∀ (m : Nat) (j kk : Int32), 0 ≤ j.toInt → j.toInt + m ≤ 23 → (∀ i : Nat, j.toInt ≤ i → (i : Int) < j.toInt + m → w i ≠ key) → rWf w key m j kk = kk
  | 0, _, _, _, _, _ => rfl
  | m + 1, j, kk, h0, h1, h => by
    have e1 : (j + 1).toInt = j.toInt + 1 := i_s (by omega)
    rw [rWf, if_neg (h j.toNatClampNeg (by rw [tcn]; omega) (by rw [tcn]; omega))]
    exact rWf_no m (j + 1) kk (by omega) (by omega) (fun i a b => h i (by omega) (by omega))
theorem rWf_ok {w : Nat → Int64} {key : Int64} (hw : ∀ a b, a < 23 → b < 23 → w a = w b → a = b) : ∀ (m : Nat) (j : Int32), 0 ≤ j.toInt → j.toInt + m = 23 → rWf w key m j 1 = rK (pWf w key m j)
  | 0, _, _, _ => by rw [rWf, pWf]; decide
  | m + 1, j, h0, h1 => by
    have e1 : (j + 1).toInt = j.toInt + 1 := i_s (by omega)
    rw [rWf, pWf]
    by_cases q : w j.toNatClampNeg = key
    · rw [if_pos q, if_pos q, rWf_no m (j + 1) _ (by omega) (by omega) (fun i a b z => ?_)]
      · have := rK_w j.toInt.toNat (by omega)
        rw [i_ofNat j h0] at this
        exact this.symm
      · have := hw i j.toNatClampNeg (by omega) (by rw [tcn]; omega) (z.trans q.symm)
        rw [tcn] at this
        omega
    · rw [if_neg q, if_neg q]
      exact rWf_ok hw m (j + 1) (by omega) (by omega)
section
variable {l : Launch} {G : qG} {d : Nat} {I I0 : qMI} {L : qML} {R : qMR}
theorem rByte (hR : wkR R) {i : Int32} (h0 : 0 ≤ i.toInt) (hs : (I 292 4).toInt ≤ 2000) : wkI l G (d + 1) n_X9_byteAt [.ref 292, .int i] I L R (fun y I' L' => L = L' ∧ I = I' ∧ y = if i.toInt.toNat < rSz I then rBy I i.toInt.toNat else 0) := by
  refine wkC_of 0 (by decide) (Nat.le_of_ble_eq_true rfl) (w_X9_byteAt_0 (fun q => ?_) (fun q => ?_))
  · have q := i_le.mp q
    exact w_X9_byteAt_21 (w_X9_byteAt_22 ⟨rfl, rfl, _, rfl, rfl, rfl, by rw [if_neg (by unfold rSz; omega)]⟩)
  · have q : ¬ _ := fun z => q (i_le.mpr z)
    exact w_X9_byteAt_8 hR (vin h0 (by omega)) (w_X9_byteAt_22 ⟨rfl, rfl, _, rfl, rfl, rfl, by rw [if_pos (by unfold rSz; omega)]; rfl⟩)
theorem rLetter {c : Int32} : wkI l G (d + 1) n_X9_isLetter [.int c] I L R (fun y I' L' => L = L' ∧ I = I' ∧ y = if pLe c = true then 1 else 0) := by
  refine wkC_of 0 (by decide) (Nat.le_of_ble_eq_true rfl) (w_X9_isLetter_0 (fun q => ?_) (fun q1 => w_X9_isLetter_6 (fun q => ?_) (fun q2 => ?_)))
  · exact w_X9_isLetter_16 (w_X9_isLetter_17 ⟨rfl, rfl, _, rfl, rfl, rfl, by rw [if_neg (fun h => by have := (of_decide_eq_true h).1; exact absurd q (Int32.not_lt.mpr this))]⟩ (Or.inl rfl))
  · exact w_X9_isLetter_16 (w_X9_isLetter_17 ⟨rfl, rfl, _, rfl, rfl, rfl, by rw [if_neg (fun h => by have := (of_decide_eq_true h).2; exact absurd q (Int32.not_lt.mpr this))]⟩ (Or.inl rfl))
  · exact w_X9_isLetter_12 (w_X9_isLetter_17 ⟨rfl, rfl, _, rfl, rfl, rfl, by rw [if_pos (show pLe c = true from decide_eq_true ⟨Int32.not_lt.mp q1, Int32.not_lt.mp q2⟩)]⟩ (Or.inr rfl))
theorem rDigit {c : Int32} : wkI l G (d + 1) n_X9_isDigit [.int c] I L R (fun y I' L' => L = L' ∧ I = I' ∧ y = if pDi c = true then 1 else 0) := by
  refine wkC_of 0 (by decide) (Nat.le_of_ble_eq_true rfl) (w_X9_isDigit_0 (fun q => ?_) (fun q1 => w_X9_isDigit_6 (fun q => ?_) (fun q2 => ?_)))
  · exact w_X9_isDigit_16 (w_X9_isDigit_17 ⟨rfl, rfl, _, rfl, rfl, rfl, by rw [if_neg (fun h => by have := (of_decide_eq_true h).1; exact absurd q (Int32.not_lt.mpr this))]⟩ (Or.inl rfl))
  · exact w_X9_isDigit_16 (w_X9_isDigit_17 ⟨rfl, rfl, _, rfl, rfl, rfl, by rw [if_neg (fun h => by have := (of_decide_eq_true h).2; exact absurd q (Int32.not_lt.mpr this))]⟩ (Or.inl rfl))
  · exact w_X9_isDigit_12 (w_X9_isDigit_17 ⟨rfl, rfl, _, rfl, rfl, rfl, by rw [if_pos (show pDi c = true from decide_eq_true ⟨Int32.not_lt.mp q1, Int32.not_lt.mp q2⟩)]⟩ (Or.inr rfl))
theorem rApp {x : Int64} {c : Int32} (hc : pLe c = true) : wkJ l G (d + 1) n_X9_appends [.long x, .int c] I L R (fun y I' L' => L = L' ∧ I = I' ∧ y = x * 27 + ((c - 97) + 1).toInt64) := by
  have h0 : ¬ c = 0 := fun e => by rw [e] at hc; exact absurd hc (by decide)
  exact wkC_of 0 (by decide) (Nat.le_of_ble_eq_true rfl) (w_X9_appends_0 (fun _ => w_X9_appends_8 (w_X9_appends_21 ⟨rfl, rfl, _, rfl, rfl, rfl, by rw [Int64.mul_comm]⟩)) (fun q => absurd q h0))
end
/-- so many tokens are there -/
def rQ (w : Nat → Int64) (I0 : qMI) (L0 : qML) (k : Nat) (I : qMI) (L : qML) : Prop := yQ I0 I ∧ (∀ a, a ≠ 298 → L a = L0 a) ∧ (I 292 10).toInt = k ∧ ∀ j, j < k → I 295 j = rK (pKd w (rBy I0) (rSz I0) (pSt (rBy I0) (rSz I0) j)) ∧ (I 296 j).toInt = pSt (rBy I0) (rSz I0) j ∧ (pKd w (rBy I0) (rSz I0) (pSt (rBy I0) (rSz I0) j) = 3 → I 297 j = (pVl (rBy I0) (rSz I0) (pSt (rBy I0) (rSz I0) j)).toInt32) ∧ (pKd w (rBy I0) (rSz I0) (pSt (rBy I0) (rSz I0) j) = 2 → L 298 j = pVl (rBy I0) (rSz I0) (pSt (rBy I0) (rSz I0) j))
section
variable {l : Launch} {G : qG} {d : Nat} {I I0 : qMI} {L L0 : qML} {R : qMR} {w : Nat → Int64}
theorem rToken (hR : wkR R) {n : Nat} {k p v : Int32} {x : Int64} (h : rQ w I0 L0 n I L) (h1 : n ≤ 401) (hk : 0 ≤ k.toInt ∧ k.toInt ≤ 42) (e1 : k = rK (pKd w (rBy I0) (rSz I0) (pSt (rBy I0) (rSz I0) n))) (e2 : p.toInt = pSt (rBy I0) (rSz I0) n) (e3 : pKd w (rBy I0) (rSz I0) (pSt (rBy I0) (rSz I0) n) = 3 → v = (pVl (rBy I0) (rSz I0) (pSt (rBy I0) (rSz I0) n)).toInt32) (e4 : pKd w (rBy I0) (rSz I0) (pSt (rBy I0) (rSz I0) n) = 2 → x = pVl (rBy I0) (rSz I0) (pSt (rBy I0) (rSz I0) n)) : wkV l G (d + 1) n_X9_token [.ref 292, .int k, .int p, .int v, .long x] I L R (fun I' L' => rQ w I0 L0 (n + 1) I' L') := by
  obtain ⟨hq, hL, hn, hf⟩ := h
  have hin : vp_in (I 292 10) 403 := vin (by omega) (by omega)
  have en : (I 292 10).toNatClampNeg = n := by rw [tcn, hn, Int.toNat_natCast]
  have f1 : ∀ a, (qUp I 295 a k) 292 10 = I 292 10 := fun a => qUp_ne (by omega)
  have f2 : ∀ a b, (qUp (qUp I 295 a k) 296 b p) 292 10 = I 292 10 := fun a b => by rw [qUp_ne (by omega), qUp_ne (by omega)]
  have f3 : ∀ a b c, (qUp (qUp (qUp I 295 a k) 296 b p) 297 c v) 292 10 = I 292 10 := fun a b c => by rw [qUp_ne (by omega), qUp_ne (by omega), qUp_ne (by omega)]
  refine wkC_of 0 (by decide) (Nat.le_of_ble_eq_true rfl) (w_X9_token_0 hR hin (by rw [f1]; exact hin) (by rw [f2]; exact hin) (by rw [f3]; exact hin) ⟨rfl, rfl, rfl, ?_⟩)
  rw [f3, f2, f1, en]
  refine ⟨⟨fun a b c d e => ?_, fun j a => ?_, fun i hi => ?_⟩, fun a q => ?_, ?_, fun j hj => ?_⟩
  · rw [← hq.1 a b c d e]
    exact funext fun i => by rw [qUp_ne (fun q => b q.1), qUp_ne (fun q => e q.1), qUp_ne (fun q => d q.1), qUp_ne (fun q => c q.1)]
  · rw [← hq.2.1 j a, qUp_ne (fun q => a q.2), qUp_ne (by omega), qUp_ne (by omega), qUp_ne (by omega)]
  · rw [qUp_ne (by omega), qUp_ne (by omega), qUp_ne (by omega), qUp_at]
    by_cases z : 295 = 295 ∧ i = n
    · rw [if_pos z]; exact hk
    · rw [if_neg z]; exact hq.2.2 i hi
  · rw [← hL a q]
    exact funext fun i => by rw [qUpL_at, if_neg (fun z => q z.1)]
  · rw [qUp_at, if_pos ⟨rfl, rfl⟩, i_s (by omega), hn]
    rfl
  · by_cases e : j = n
    · subst e
      refine ⟨?_, ?_, fun q => ?_, fun q => ?_⟩
      · rw [qUp_ne (by omega), qUp_ne (by omega), qUp_ne (by omega), qUp_at, if_pos ⟨rfl, rfl⟩]; exact e1
      · rw [qUp_ne (by omega), qUp_ne (by omega), qUp_at, if_pos ⟨rfl, rfl⟩]; exact e2
      · rw [qUp_ne (by omega), qUp_at, if_pos ⟨rfl, rfl⟩]; exact e3 q
      · rw [qUpL_at, if_pos ⟨rfl, rfl⟩]; exact e4 q
    · have := hf j (by omega)
      have o5 : (qUp (qUp (qUp (qUp I 295 n k) 296 n p) 297 n v) 292 10 (I 292 10 + 1)) 295 j = I 295 j := by rw [qUp_ne (by omega), qUp_ne (by omega), qUp_ne (by omega), qUp_ne (fun z => e z.2)]
      have o6 : (qUp (qUp (qUp (qUp I 295 n k) 296 n p) 297 n v) 292 10 (I 292 10 + 1)) 296 j = I 296 j := by rw [qUp_ne (by omega), qUp_ne (by omega), qUp_ne (fun z => e z.2), qUp_ne (by omega)]
      have o7 : (qUp (qUp (qUp (qUp I 295 n k) 296 n p) 297 n v) 292 10 (I 292 10 + 1)) 297 j = I 297 j := by rw [qUp_ne (by omega), qUp_ne (fun z => e z.2), qUp_ne (by omega), qUp_ne (by omega)]
      have o8 : (qUpL L 298 n x) 298 j = L 298 j := by rw [qUpL_at, if_neg (fun z => e z.2)]
      rw [o5, o6, o7, o8]
      exact this
/-- the signs -/
def rSg (c : Int32) : Int32 := rK (if pSg c = true then c else 1)
theorem rSg_at : rSg 59 = 4 ∧ rSg 61 = 5 ∧ rSg 40 = 6 ∧ rSg 41 = 7 ∧ rSg 43 = 8 ∧ rSg 45 = 9 ∧ rSg 42 = 10 ∧ rSg 47 = 15 ∧ rSg 60 = 13 := by decide
theorem rSg_no {c : Int32} (h : ¬ (c = 59 ∨ c = 61 ∨ c = 43 ∨ c = 45 ∨ c = 42 ∨ c = 47 ∨ c = 60 ∨ c = 40 ∨ c = 41)) : rSg c = 3 := by
  unfold rSg
  rw [if_neg (show ¬ pSg c = true from fun q => h (of_decide_eq_true q))]
  decide
theorem rSign (hR : wkR R) {n : Nat} {i c e : Int32} (h : rQ w I0 L0 n I L) (h1 : n ≤ 401) (e1 : rSg c = rK (pKd w (rBy I0) (rSz I0) (pSt (rBy I0) (rSz I0) n))) (e2 : i.toInt = pSt (rBy I0) (rSz I0) n) (e3 : pKd w (rBy I0) (rSz I0) (pSt (rBy I0) (rSz I0) n) ≠ 3 ∧ pKd w (rBy I0) (rSz I0) (pSt (rBy I0) (rSz I0) n) ≠ 2) : wkI l G (d + 2) n_X9_sign [.ref 292, .int i, .int c, .int e] I L R (fun y I' L' => y = 1 ∧ rQ w I0 L0 (n + 1) I' L') := by
  have fin : ∀ k : Int32, (0 ≤ k.toInt ∧ k.toInt ≤ 42) → k = rSg c → wkB l G (d + 1 + 1) n_X9_sign (wkPI R (fun y I' L' => y = 1 ∧ rQ w I0 L0 (n + 1) I' L')) 95 [.ref 292, .int i, .int c, .int e, .int k] [] I L R := fun k hk ek => w_X9_sign_95 (rToken (d := d) hR h h1 hk (ek.trans e1) e2 (fun q => absurd q e3.1) (fun q => absurd q e3.2)) (fun I1 L1 hq => w_X9_sign_104 ⟨rfl, rfl, _, rfl, rfl, hq⟩)
  obtain ⟨g1, g2, g3, g4, g5, g6, g7, g8, g9⟩ := rSg_at
  have s85 : ∀ k : Int32, (0 ≤ k.toInt ∧ k.toInt ≤ 42) → (¬ c = 60 → k = rSg c) → wkB l G (d + 1 + 1) n_X9_sign (wkPI R (fun y I' L' => y = 1 ∧ rQ w I0 L0 (n + 1) I' L')) 85 [.ref 292, .int i, .int c, .int e, .int k] [] I L R := fun k hk ek => w_X9_sign_85 (fun q => fin k hk (ek q)) (fun q => w_X9_sign_91 (fin 13 (by decide) (by rw [q, g9])))
  have s75 : ∀ k : Int32, (0 ≤ k.toInt ∧ k.toInt ≤ 42) → (¬ c = 47 → ¬ c = 60 → k = rSg c) → wkB l G (d + 1 + 1) n_X9_sign (wkPI R (fun y I' L' => y = 1 ∧ rQ w I0 L0 (n + 1) I' L')) 75 [.ref 292, .int i, .int c, .int e, .int k] [] I L R := fun k hk ek => w_X9_sign_75 (fun q => s85 k hk (ek q)) (fun q => w_X9_sign_81 (s85 15 (by decide) (fun _ => by rw [q, g8])))
  have s65 : ∀ k : Int32, (0 ≤ k.toInt ∧ k.toInt ≤ 42) → (¬ c = 42 → ¬ c = 47 → ¬ c = 60 → k = rSg c) → wkB l G (d + 1 + 1) n_X9_sign (wkPI R (fun y I' L' => y = 1 ∧ rQ w I0 L0 (n + 1) I' L')) 65 [.ref 292, .int i, .int c, .int e, .int k] [] I L R := fun k hk ek => w_X9_sign_65 (fun q => s75 k hk (ek q)) (fun q => w_X9_sign_71 (s75 10 (by decide) (fun _ _ => by rw [q, g7])))
  have s55 : ∀ k : Int32, (0 ≤ k.toInt ∧ k.toInt ≤ 42) → (¬ c = 45 → ¬ c = 42 → ¬ c = 47 → ¬ c = 60 → k = rSg c) → wkB l G (d + 1 + 1) n_X9_sign (wkPI R (fun y I' L' => y = 1 ∧ rQ w I0 L0 (n + 1) I' L')) 55 [.ref 292, .int i, .int c, .int e, .int k] [] I L R := fun k hk ek => w_X9_sign_55 (fun q => s65 k hk (ek q)) (fun q => w_X9_sign_61 (s65 9 (by decide) (fun _ _ _ => by rw [q, g6])))
  have s43 : ∀ k : Int32, (0 ≤ k.toInt ∧ k.toInt ≤ 42) → (¬ c = 43 → ¬ c = 45 → ¬ c = 42 → ¬ c = 47 → ¬ c = 60 → k = rSg c) → wkB l G (d + 1 + 1) n_X9_sign (wkPI R (fun y I' L' => y = 1 ∧ rQ w I0 L0 (n + 1) I' L')) 43 [.ref 292, .int i, .int c, .int e, wkU] [.int k] I L R := fun k hk ek => w_X9_sign_43 (fun q => s55 k hk (ek q)) (fun q => w_X9_sign_51 (s55 8 (by decide) (fun _ _ _ _ => by rw [q, g5])))
  refine wkC_of 1 (by decide) (Nat.le_of_ble_eq_true rfl) (w_X9_sign_0 (fun n1 => w_X9_sign_10 (fun n2 => w_X9_sign_20 (fun n3 => w_X9_sign_31 (fun n4 => w_X9_sign_42 (s43 3 (by decide) (fun n5 n6 n7 n8 n9 => ?_))) (fun q => w_X9_sign_37 (s43 7 (by decide) (fun _ _ _ _ _ => by rw [q, g4])))) (fun q => w_X9_sign_26 (s43 6 (by decide) (fun _ _ _ _ _ => by rw [q, g3])))) (fun q => w_X9_sign_16 (s43 5 (by decide) (fun _ _ _ _ _ => by rw [q, g2])))) (fun q => w_X9_sign_6 (s43 4 (by decide) (fun _ _ _ _ _ => by rw [q, g1]))))
  rw [rSg_no (fun q => by rcases q with q | q | q | q | q | q | q | q | q; exact n1 q; exact n2 q; exact n5 q; exact n6 q; exact n7 q; exact n8 q; exact n9 q; exact n3 q; exact n4 q)]
end

theorem pWf_3 {w : Nat → Int64} {key : Int64} : ∀ (m : Nat) (j : Int32), 0 ≤ j.toInt → j.toInt + m ≤ 23 → pWf w key m j ≠ 3
  | 0, _, _, _ => by rw [pWf]; decide
  | m + 1, j, h0, h1 => by
    have e1 : (j + 1).toInt = j.toInt + 1 := i_s (by omega)
    rw [pWf]
    split
    · intro q
      have e := i_eq.mp q
      rw [i_add (by rw [show (128 : Int32).toInt = 128 from rfl]; omega) (by rw [show (128 : Int32).toInt = 128 from rfl]; omega), show (128 : Int32).toInt = 128 from rfl, show (3 : Int32).toInt = 3 from rfl] at e
      omega
    · exact pWf_3 m (j + 1) (by omega) (by omega)
/-- all the tokens, or the first so many -/
def rCt (w : Nat → Int64) (I0 : qMI) (L0 : qML) (I : qMI) (L : qML) : Prop := ∃ k, rQ w I0 L0 k I L ∧ 1 ≤ k ∧ k ≤ 401 ∧ (k = 401 ∨ pSt (rBy I0) (rSz I0) (k - 1) = rSz I0)
theorem dig_32 {a b : Int32} : 10 * a + b - 48 = a * 10 + (b - 48) := by
  rw [Int32.mul_comm 10 a, Int32.sub_eq_add_neg, Int32.sub_eq_add_neg, Int32.add_assoc]
section
variable {l : Launch} {G : qG} {d : Nat} {I I0 : qMI} {L L0 : qML} {R : qMR} {w : Nat → Int64}
theorem rCutLoop (hR : wkR R) (hw : ∀ a b, a < 23 → b < 23 → w a = w b → a = b) (hk9 : ∀ j, j < 23 → L0 299 j = w j) (hsz : 0 ≤ (I0 292 4).toInt ∧ (I0 292 4).toInt ≤ 2000) : ∀ (m : Nat) (I : qMI) (L : qML) (i : Int32) (k : Nat), (401 - k) * 2001 + (2000 - i.toInt).toNat = m → rQ w I0 L0 k I L → k ≤ 401 → (k = 401 → 1 ≤ k) → 0 ≤ i.toInt → i.toInt ≤ (I0 292 4).toInt → pEnd pBl (rBy I0) (rSz I0) i.toInt.toNat = pSt (rBy I0) (rSz I0) k →
    wkB l G (d + 2 + 1) n_X9_cut (wkPV R (fun I' L' => rCt w I0 L0 I' L')) 7 [.ref 292, .int i, wkU, wkU, wkU, wkU, wkU, wkU] [] I L R := by
  intro m
  induction m using Nat.strongRecOn with
  | ind m ih =>
    intro I L i k hm h k1 _ i0 i1 hp
    have hrs : rSz I0 = (I0 292 4).toInt.toNat := rfl
    obtain ⟨hq, hL, hn, hf⟩ := id h
    have e4 : I 292 4 = I0 292 4 := hq.2.1 4 (by decide)
    have eb : rBy I = rBy I0 := funext fun j => by unfold rBy; rw [hq.1 294 (by decide) (by decide) (by decide) (by decide)]
    have es : rSz I = rSz I0 := by unfold rSz; rw [e4]
    refine w_X9_cut_7 (fun q => w_X9_cut_294 ⟨rfl, rfl, rfl, k, h, ?_, k1, Or.inl ?_⟩) (fun q => ?_)
    · have q := i_lt.mp q
      rw [show (400 : Int32).toInt = 400 from rfl] at q
      omega
    · have q := i_lt.mp q
      rw [show (400 : Int32).toInt = 400 from rfl] at q
      omega
    have t4 : k ≤ 400 := by have : ¬ _ := fun z => q (i_lt.mpr z); rw [show (400 : Int32).toInt = 400 from rfl] at this; omega
    generalize hi : i.toInt.toNat = a at hp
    have next : ∀ (I1 : qMI) (L1 : qML) (j : Int32), rQ w I0 L0 (k + 1) I1 L1 → 0 ≤ j.toInt → j.toInt ≤ (I0 292 4).toInt → j.toInt.toNat = pNx (rBy I0) (rSz I0) (pSt (rBy I0) (rSz I0) k) → wkB l G (d + 2 + 1) n_X9_cut (wkPV R (fun I' L' => rCt w I0 L0 I' L')) 7 [.ref 292, .int j, wkU, wkU, wkU, wkU, wkU, wkU] [] I1 L1 R := fun I1 L1 j hq j0 j1 ej => ih _ (by rw [← hm]; omega) I1 L1 j (k + 1) rfl hq (by omega) (fun _ => by omega) j0 j1 (by rw [ej]; rfl)
    refine w_X9_cut_17 (rByte (d := d + 1) hR i0 (by rw [e4]; omega)) (fun c I' L' hq' => ?_)
    obtain ⟨rfl, rfl, hc⟩ := hq'
    rw [eb, es, hi] at hc
    refine w_X9_cut_22 (fun hlt => ?_) (fun hlt => ?_)
    rotate_left
    · have hlt : ¬ _ := fun z => hlt (i_lt.mpr z)
      rw [e4] at hlt
      have ea : a = rSz I0 := by omega
      have ep : pSt (rBy I0) (rSz I0) k = rSz I0 := by rw [← hp, pEnd_no (fun q => by omega), ea]
      have ekd : pKd w (rBy I0) (rSz I0) (pSt (rBy I0) (rSz I0) k) = 0 := by
        rw [ep]
        unfold pKd
        rw [if_pos (Nat.le_refl _)]
      refine w_X9_cut_31 (rToken (d := d + 1) hR h (by omega) (by decide) (by rw [ekd]; decide) (by rw [e4, ep]; omega) (fun q => absurd (ekd.symm.trans q) (by decide)) (fun q => absurd (ekd.symm.trans q) (by decide))) (fun I1 L1 hq => w_X9_cut_42 ⟨rfl, rfl, rfl, k + 1, hq, by omega, by omega, Or.inr ?_⟩)
      rw [Nat.add_sub_cancel]
      exact ep
    have hlt := i_lt.mp hlt
    rw [e4] at hlt
    have ha : a < rSz I0 := by omega
    rw [if_pos ha] at hc
    have si : (i + 1).toInt = i.toInt + 1 := i_s (by omega)
    have blank : pBl c = true → wkB l G (d + 2 + 1) n_X9_cut (wkPV R (fun I' L' => rCt w I0 L0 I' L')) 67 [.ref 292, .int i, .int c, wkU, wkU, wkU, wkU, wkU] [] I L R := fun hb => w_X9_cut_67 (w_X9_cut_291 (ih _ (by rw [← hm, si]; omega) I L (i + 1) k rfl h k1 (fun _ => by omega) (by omega) (by omega) (by rw [show (i + 1).toInt.toNat = a + 1 by omega, ← hp, pEnd_go ha (by rw [← hc]; exact hb)])))
    refine w_X9_cut_43 (fun q => blank (decide_eq_true (Or.inl q))) (fun q1 => w_X9_cut_49 (fun q => blank (decide_eq_true (Or.inr (Or.inl q)))) (fun q2 => w_X9_cut_55 (fun q => blank (decide_eq_true (Or.inr (Or.inr (Or.inl q))))) (fun q3 => w_X9_cut_61 (fun q4 => w_X9_cut_73 (rLetter (d := d + 1)) (fun y I1 L1 hq' => ?_)) (fun q => blank (decide_eq_true (Or.inr (Or.inr (Or.inr q))))))))
    obtain ⟨rfl, rfl, hy⟩ := hq'
    have nb : ¬ pBl (rBy I0 a) = true := fun q => by rw [← hc] at q; rcases of_decide_eq_true q with z | z | z | z; exact q1 z; exact q2 z; exact q3 z; exact q4 z
    have ep : pSt (rBy I0) (rSz I0) k = a := by rw [← hp, pEnd_no (fun q => nb q.2)]
    rw [ep] at next
    have hia : i.toInt = a := by omega
    have hle := fun (p : Int32 → Bool) => pEnd_le (p := p) (c := rBy I0) (Nat.le_of_lt ha)
    refine w_X9_cut_77 (fun q => w_X9_cut_196 (rDigit (d := d + 1)) (fun y2 I2 L2 hq' => ?_)) (fun q => w_X9_cut_80 ?_)
    · obtain ⟨rfl, rfl, hy2⟩ := hq'
      have nle : ¬ pLe (rBy I0 a) = true := fun z => by rw [hy, hc, if_pos z] at q; exact absurd q (by decide)
      refine w_X9_cut_200 (fun q5 => w_X9_cut_275 (rByte (d := d + 1) hR (by omega) (by rw [e4]; omega)) (fun y3 I3 L3 hq' => ?_)) (fun q5 => w_X9_cut_203 ?_)
      · obtain ⟨rfl, rfl, -⟩ := hq'
        have ndi : ¬ pDi (rBy I0 a) = true := fun z => by rw [hy2, hc, if_pos z] at q5; exact absurd q5 (by decide)
        have ekd : pKd w (rBy I0) (rSz I0) (pSt (rBy I0) (rSz I0) k) = (if pSg (rBy I0 a) = true then rBy I0 a else 1) := by
          rw [ep]
          unfold pKd
          rw [if_neg (by omega), if_neg nle, if_neg ndi]
        have ne : pKd w (rBy I0) (rSz I0) (pSt (rBy I0) (rSz I0) k) ≠ 3 ∧ pKd w (rBy I0) (rSz I0) (pSt (rBy I0) (rSz I0) k) ≠ 2 := by
          rw [ekd]
          by_cases z : pSg (rBy I0 a) = true
          · rw [if_pos z]
            rcases of_decide_eq_true z with e | e | e | e | e | e | e | e | e <;> rw [e] <;> decide
          · rw [if_neg z]
            decide
        refine w_X9_cut_286 (rSign (d := d) hR h (by omega) (by rw [ekd, hc]; rfl) (by rw [ep]; exact hia) ne) (fun y4 I4 L4 hq' => ?_)
        obtain ⟨rfl, g4⟩ := hq'
        refine w_X9_cut_289 (w_X9_cut_291 (next I4 L4 (i + 1) g4 (by omega) (by omega) ?_))
        unfold pNx
        rw [if_neg (by omega), if_neg nle, if_neg ndi]
        omega
      · have hdi : pDi (rBy I0 a) = true := Decidable.byContradiction fun z => by rw [hy2, hc, if_neg z] at q5; exact q5 rfl
        have ekd : pKd w (rBy I0) (rSz I0) (pSt (rBy I0) (rSz I0) k) = (if 4 < pEnd pDi (rBy I0) (rSz I0) a - a then 1 else 3) := by
          rw [ep]
          unfold pKd
          rw [if_neg (by omega), if_neg nle, if_pos hdi]
        have evl : pVl (rBy I0) (rSz I0) (pSt (rBy I0) (rSz I0) k) = pNum (rBy I0) a (pEnd pDi (rBy I0) (rSz I0) a - a) := by
          rw [ep]
          unfold pVl
          rw [if_neg nle]
        have enx : pNx (rBy I0) (rSz I0) a = pEnd pDi (rBy I0) (rSz I0) a := by
          unfold pNx
          rw [if_neg (by omega), if_neg nle, if_pos hdi]
        have done : ∀ (n v : Int32) (t : Nat), n.toInt = t → pEnd pDi (rBy I0) (rSz I0) a = a + t → v = (pNum (rBy I0) a (min t 4)).toInt32 → wkB l G (d + 2 + 1) n_X9_cut (wkPV R (fun I' L' => rCt w I0 L0 I' L')) 250 [.ref 292, .int i, .int c, .int n, .int v, wkU, wkU, wkU] [] I L R := by
          intro n v t hn' hend hv
          have hb := hle pDi
          have ein : (i + n).toInt = i.toInt + n.toInt := i_add (by omega) (by omega)
          have tok : ∀ kk : Int32, (0 ≤ kk.toInt ∧ kk.toInt ≤ 42) → kk = rK (if 4 < pEnd pDi (rBy I0) (rSz I0) a - a then 1 else 3) → wkB l G (d + 2 + 1) n_X9_cut (wkPV R (fun I' L' => rCt w I0 L0 I' L')) 261 [.ref 292, .int i, .int c, .int n, .int v, wkU, wkU, wkU] [.int kk, .ref 292] I L R := fun kk hkk ekk => w_X9_cut_261 (rToken (d := d + 1) hR h (by omega) hkk (by rw [ekd]; exact ekk) (by rw [ep]; exact hia) (fun z => by
            rw [ekd] at z
            rw [evl, hv]
            by_cases c4 : 4 < pEnd pDi (rBy I0) (rSz I0) a - a
            · rw [if_pos c4] at z; exact absurd z (by decide)
            · rw [show min t 4 = pEnd pDi (rBy I0) (rSz I0) a - a by omega]) (fun z => by
            rw [ekd] at z
            split at z <;> exact absurd z (by decide))) (fun I5 L5 hq' => w_X9_cut_268 (w_X9_cut_291 (next I5 L5 (i + n) hq' (by omega) (by omega) (by rw [enx]; omega))))
          refine w_X9_cut_250 (fun z => w_X9_cut_260 (tok 2 (by decide) ?_)) (fun z => w_X9_cut_256 (tok 3 (by decide) ?_))
          · have z := i_le.mp z
            rw [show (4 : Int32).toInt = 4 from rfl] at z
            rw [if_neg (by omega)]
            decide
          · have z : ¬ _ := fun x => z (i_le.mpr x)
            rw [show (4 : Int32).toInt = 4 from rfl] at z
            rw [if_pos (by omega)]
            decide
        have loop : ∀ (f : Nat) (n v : Int32) (t : Nat), rSz I0 - a - t = f → n.toInt = t → a + t ≤ rSz I0 → pEnd pDi (rBy I0) (rSz I0) a = pEnd pDi (rBy I0) (rSz I0) (a + t) → v = (pNum (rBy I0) a (min t 4)).toInt32 → wkB l G (d + 2 + 1) n_X9_cut (wkPV R (fun I' L' => rCt w I0 L0 I' L')) 208 [.ref 292, .int i, .int c, .int n, .int v, wkU, wkU, wkU] [] I L R := by
          intro f
          induction f with
          | zero =>
            intro n v t hf' hn' ht hend hv
            have ein : (i + n).toInt = i.toInt + n.toInt := i_add (by omega) (by omega)
            refine w_X9_cut_208 (rByte (d := d + 1) hR (by omega) (by rw [e4]; omega)) (fun y3 I3 L3 hq' => ?_)
            obtain ⟨rfl, rfl, hb⟩ := hq'
            rw [es, show (i + n).toInt.toNat = a + t by omega, if_neg (by omega)] at hb
            refine w_X9_cut_215 (rDigit (d := d + 1)) (fun y4 I4 L4 hq' => ?_)
            obtain ⟨rfl, rfl, hb2⟩ := hq'
            rw [hb, if_neg (by decide)] at hb2
            exact w_X9_cut_218 (fun _ => done n v t hn' (by rw [hend, pEnd_no (fun z => by omega)]) hv) (fun z => absurd hb2 z)
          | succ f ihf =>
            intro n v t hf' hn' ht hend hv
            have ein : (i + n).toInt = i.toInt + n.toInt := i_add (by omega) (by omega)
            have sn : (n + 1).toInt = n.toInt + 1 := i_s (by omega)
            refine w_X9_cut_208 (rByte (d := d + 1) hR (by omega) (by rw [e4]; omega)) (fun y3 I3 L3 hq' => ?_)
            obtain ⟨rfl, rfl, hb⟩ := hq'
            rw [es, eb, show (i + n).toInt.toNat = a + t by omega, if_pos (by omega)] at hb
            refine w_X9_cut_215 (rDigit (d := d + 1)) (fun y4 I4 L4 hq' => ?_)
            obtain ⟨rfl, rfl, hb2⟩ := hq'
            rw [hb] at hb2
            by_cases hd : pDi (rBy I0 (a + t)) = true
            · rw [if_pos hd] at hb2
              refine w_X9_cut_218 (fun z => absurd (hb2.symm.trans z) (by decide)) (fun _ => ?_)
              have on : ∀ v' : Int32, v' = (pNum (rBy I0) a (min (t + 1) 4)).toInt32 → wkB l G (d + 2 + 1) n_X9_cut (wkPV R (fun I' L' => rCt w I0 L0 I' L')) 244 [.ref 292, .int i, .int c, .int n, .int v', wkU, wkU, wkU] [] I L R := fun v' hv' => w_X9_cut_244 (ihf (n + 1) v' (t + 1) (by omega) (by omega) (by omega) (by rw [hend, pEnd_go (by omega) hd]; rfl) hv')
              refine w_X9_cut_221 (fun z => on v ?_) (fun z => w_X9_cut_226 (rByte (d := d + 1) hR (by omega) (by rw [e4]; omega)) (fun y5 I5 L5 hq' => ?_))
              · have z := i_le.mp z
                rw [show (4 : Int32).toInt = 4 from rfl] at z
                rw [hv, show min (t + 1) 4 = min t 4 by omega]
              · obtain ⟨rfl, rfl, hb5⟩ := hq'
                rw [es, eb, show (i + n).toInt.toNat = a + t by omega, if_pos (by omega)] at hb5
                have z : ¬ _ := fun x => z (i_le.mpr x)
                rw [show (4 : Int32).toInt = 4 from rfl] at z
                refine w_X9_cut_238 (on _ ?_)
                rw [hb5, hv, show min (t + 1) 4 = min t 4 + 1 by omega, pNum, Int64.toInt32_add, Int64.toInt32_mul, Int32.toInt32_toInt64, show a + min t 4 = a + t by omega, dig_32]
                rfl
            · rw [if_neg hd] at hb2
              exact w_X9_cut_218 (fun _ => done n v t hn' (by rw [hend, pEnd_no (fun z => hd z.2)]) hv) (fun z => absurd hb2 z)
        exact loop _ 0 0 0 rfl (by rfl) (by omega) rfl rfl
    · have hlt' : pLe (rBy I0 a) = true := Decidable.byContradiction fun z => by rw [hy, hc, if_neg z] at q; exact q rfl
      have ekd : pKd w (rBy I0) (rSz I0) (pSt (rBy I0) (rSz I0) k) = (if 8 < pEnd pLe (rBy I0) (rSz I0) a - a then 1 else pW w (pKey (rBy I0) a (pEnd pLe (rBy I0) (rSz I0) a - a))) := by
        rw [ep]
        unfold pKd
        rw [if_neg (by omega), if_pos hlt']
      have evl : pVl (rBy I0) (rSz I0) (pSt (rBy I0) (rSz I0) k) = pKey (rBy I0) a (pEnd pLe (rBy I0) (rSz I0) a - a) := by
        rw [ep]
        unfold pVl
        rw [if_pos hlt']
      have enx : pNx (rBy I0) (rSz I0) a = pEnd pLe (rBy I0) (rSz I0) a := by
        unfold pNx
        rw [if_neg (by omega), if_pos hlt']
      have hL9 : ∀ j, j < 23 → L 299 j = w j := fun j hj => by rw [hL 299 (by decide)]; exact hk9 j hj
      have fin : ∀ (n : Int32) (x : Int64) (kk : Int32) (t : Nat), n.toInt = t → pEnd pLe (rBy I0) (rSz I0) a = a + t → (0 ≤ kk.toInt ∧ kk.toInt ≤ 42) → kk = rK (pKd w (rBy I0) (rSz I0) (pSt (rBy I0) (rSz I0) k)) → (t ≤ 8 → x = pKey (rBy I0) a t) → wkB l G (d + 2 + 1) n_X9_cut (wkPV R (fun I' L' => rCt w I0 L0 I' L')) 179 [.ref 292, .int i, .int c, .int n, .long x, wkU, .int kk, wkU] [] I L R := by
        intro n x kk t hn' hend hkk ekk hx
        have hb := hle pLe
        have ein : (i + n).toInt = i.toInt + n.toInt := i_add (by omega) (by omega)
        refine w_X9_cut_179 (rToken (d := d + 1) hR h (by omega) hkk ekk (by rw [ep]; exact hia) (fun z => ?_) (fun z => ?_)) (fun I5 L5 hq' => w_X9_cut_189 (w_X9_cut_291 (next I5 L5 (i + n) hq' (by omega) (by omega) (by rw [enx]; omega))))
        · rw [ekd] at z
          split at z
          · exact absurd z (by decide)
          · exact absurd z (pWf_3 23 0 (by decide) (by decide))
        · rw [ekd] at z
          rw [evl]
          by_cases c8 : 8 < pEnd pLe (rBy I0) (rSz I0) a - a
          · rw [if_pos c8] at z; exact absurd z (by decide)
          · rw [hx (by omega), show pEnd pLe (rBy I0) (rSz I0) a - a = t by omega]
      have keys : ∀ (n : Int32) (x : Int64) (t : Nat), n.toInt = t → pEnd pLe (rBy I0) (rSz I0) a = a + t → t ≤ 8 → x = pKey (rBy I0) a t → ∀ (f : Nat) (kk j : Int32), j.toInt + f = 23 → 0 ≤ j.toInt → (0 ≤ kk.toInt ∧ kk.toInt ≤ 42) → rWf w x f j kk = rK (pW w x) → wkB l G (d + 2 + 1) n_X9_cut (wkPV R (fun I' L' => rCt w I0 L0 I' L')) 146 [.ref 292, .int i, .int c, .int n, .long x, wkU, .int kk, .int j] [] I L R := by
        intro n x t hn' hend ht8 hx f
        have e8 : pKd w (rBy I0) (rSz I0) (pSt (rBy I0) (rSz I0) k) = pW w x := by
          rw [ekd, hend, show a + t - a = t by omega, if_neg (by omega), hx]
        induction f with
        | zero =>
          intro kk j hf' j0 hkk er
          rw [rWf] at er
          exact w_X9_cut_146 (fun _ => fin n x kk t hn' hend hkk (by rw [e8]; exact er) (fun _ => hx)) (fun q => absurd (i_le.mpr (by rw [show (23 : Int32).toInt = 23 from rfl]; omega)) q)
        | succ f ihf =>
          intro kk j hf' j0 hkk er
          have sj : (j + 1).toInt = j.toInt + 1 := i_s (by omega)
          rw [rWf] at er
          refine w_X9_cut_146 (fun q => absurd (i_le.mp q) (by rw [show (23 : Int32).toInt = 23 from rfl]; omega)) (fun _ => w_X9_cut_153 hR (vin j0 (by omega)) (fun q => ?_) (fun q => ?_))
          · have q : ¬ w j.toNatClampNeg = x := fun z => q (lg_cmp0.mpr (by rw [hL9 j.toNatClampNeg (by rw [tcn]; omega)]; exact z))
            rw [if_neg q] at er
            exact w_X9_cut_173 (ihf kk (j + 1) (by omega) (by omega) hkk er)
          · have q : w j.toNatClampNeg = x := by rw [← hL9 j.toNatClampNeg (by rw [tcn]; omega)]; exact lg_cmp0.mp q
            rw [if_pos q] at er
            refine w_X9_cut_166 (w_X9_cut_173 (ihf (20 + j) (j + 1) (by omega) (by omega) ?_ er))
            rw [i_add (by rw [show (20 : Int32).toInt = 20 from rfl]; omega) (by rw [show (20 : Int32).toInt = 20 from rfl]; omega), show (20 : Int32).toInt = 20 from rfl]
            omega
      have done : ∀ (n : Int32) (x : Int64) (t : Nat), n.toInt = t → pEnd pLe (rBy I0) (rSz I0) a = a + t → x = pKey (rBy I0) a (min t 8) → wkB l G (d + 2 + 1) n_X9_cut (wkPV R (fun I' L' => rCt w I0 L0 I' L')) 124 [.ref 292, .int i, .int c, .int n, .long x, wkU, wkU, wkU] [] I L R := by
        intro n x t hn' hend hx
        refine w_X9_cut_124 (fun z => w_X9_cut_134 (w_X9_cut_135 (fun z2 => absurd (i_lt.mp z2) (fun z3 => absurd (i_le.mp z) (by omega))) (fun _ => w_X9_cut_143 ?_))) (fun z => w_X9_cut_130 (w_X9_cut_135 (fun z2 => ?_) (fun z2 => absurd (i_lt.mpr (by have : ¬ _ := fun x => z (i_le.mpr x); omega)) z2)))
        · have z := i_le.mp z
          rw [show (8 : Int32).toInt = 8 from rfl] at z
          exact keys n x t hn' hend (by omega) (by rw [hx, show min t 8 = t by omega]) 23 1 0 (by rfl) (by decide) (by decide) (rWf_ok hw 23 0 (by decide) (by rfl))
        · have z : ¬ _ := fun x => z (i_le.mpr x)
          rw [show (8 : Int32).toInt = 8 from rfl] at z
          refine fin n x 3 t hn' hend (by decide) ?_ (fun z3 => by omega)
          rw [ekd, if_pos (by omega)]
          decide
      have loop : ∀ (f : Nat) (n : Int32) (x : Int64) (t : Nat), rSz I0 - a - t = f → n.toInt = t → a + t ≤ rSz I0 → pEnd pLe (rBy I0) (rSz I0) a = pEnd pLe (rBy I0) (rSz I0) (a + t) → x = pKey (rBy I0) a (min t 8) → wkB l G (d + 2 + 1) n_X9_cut (wkPV R (fun I' L' => rCt w I0 L0 I' L')) 85 [.ref 292, .int i, .int c, .int n, .long x, wkU, wkU, wkU] [] I L R := by
        intro f
        induction f with
        | zero =>
          intro n x t hf' hn' ht hend hx
          have ein : (i + n).toInt = i.toInt + n.toInt := i_add (by omega) (by omega)
          refine w_X9_cut_85 (rByte (d := d + 1) hR (by omega) (by rw [e4]; omega)) (fun y3 I3 L3 hq' => ?_)
          obtain ⟨rfl, rfl, hb⟩ := hq'
          rw [es, show (i + n).toInt.toNat = a + t by omega, if_neg (by omega)] at hb
          refine w_X9_cut_92 (rLetter (d := d + 1)) (fun y4 I4 L4 hq' => ?_)
          obtain ⟨rfl, rfl, hb2⟩ := hq'
          rw [hb, if_neg (by decide)] at hb2
          exact w_X9_cut_95 (fun _ => done n x t hn' (by rw [hend, pEnd_no (fun z => by omega)]) hx) (fun z => absurd hb2 z)
        | succ f ihf =>
          intro n x t hf' hn' ht hend hx
          have ein : (i + n).toInt = i.toInt + n.toInt := i_add (by omega) (by omega)
          have sn : (n + 1).toInt = n.toInt + 1 := i_s (by omega)
          refine w_X9_cut_85 (rByte (d := d + 1) hR (by omega) (by rw [e4]; omega)) (fun y3 I3 L3 hq' => ?_)
          obtain ⟨rfl, rfl, hb⟩ := hq'
          rw [es, eb, show (i + n).toInt.toNat = a + t by omega, if_pos (by omega)] at hb
          refine w_X9_cut_92 (rLetter (d := d + 1)) (fun y4 I4 L4 hq' => ?_)
          obtain ⟨rfl, rfl, hb2⟩ := hq'
          rw [hb] at hb2
          by_cases hd : pLe (rBy I0 (a + t)) = true
          · rw [if_pos hd] at hb2
            refine w_X9_cut_95 (fun z => absurd (hb2.symm.trans z) (by decide)) (fun _ => ?_)
            have on : ∀ x' : Int64, x' = pKey (rBy I0) a (min (t + 1) 8) → wkB l G (d + 2 + 1) n_X9_cut (wkPV R (fun I' L' => rCt w I0 L0 I' L')) 118 [.ref 292, .int i, .int c, .int n, .long x', wkU, wkU, wkU] [] I L R := fun x' hx' => w_X9_cut_118 (ihf (n + 1) x' (t + 1) (by omega) (by omega) (by omega) (by rw [hend, pEnd_go (by omega) hd]; rfl) hx')
            refine w_X9_cut_98 (fun z => on x ?_) (fun z => w_X9_cut_104 (rByte (d := d + 1) hR (by omega) (by rw [e4]; omega)) (fun y5 I5 L5 hq' => ?_))
            · have z := i_le.mp z
              rw [show (8 : Int32).toInt = 8 from rfl] at z
              rw [hx, show min (t + 1) 8 = min t 8 by omega]
            · obtain ⟨rfl, rfl, hb5⟩ := hq'
              rw [es, eb, show (i + n).toInt.toNat = a + t by omega, if_pos (by omega)] at hb5
              have z : ¬ _ := fun x => z (i_le.mpr x)
              rw [show (8 : Int32).toInt = 8 from rfl] at z
              rw [hb5]
              refine w_X9_cut_113 (rApp (d := d + 1) hd) (fun y6 I6 L6 hq' => ?_)
              obtain ⟨rfl, rfl, rfl⟩ := hq'
              refine w_X9_cut_116 (on _ ?_)
              rw [hx, show min (t + 1) 8 = min t 8 + 1 by omega, pKey, show a + min t 8 = a + t by omega]
          · rw [if_neg hd] at hb2
            exact w_X9_cut_95 (fun _ => done n x t hn' (by rw [hend, pEnd_no (fun z => hd z.2)]) hx) (fun z => absurd hb2 z)
      exact loop _ 0 0 0 rfl (by rfl) (by omega) rfl rfl
theorem rCut (hR : wkR R) (hw : ∀ a b, a < 23 → b < 23 → w a = w b → a = b) (hk9 : ∀ j, j < 23 → L 299 j = w j) (hsz : 0 ≤ (I 292 4).toInt ∧ (I 292 4).toInt ≤ 2000) (hkd : ∀ i, i < 403 → 0 ≤ (I 295 i).toInt ∧ (I 295 i).toInt ≤ 42) : wkV l G (d + 3) n_X9_cut [.ref 292] I L R (fun I' L' => rCt w I L I' L') := by
  have e10 : (qUp I 292 10 0) 292 10 = 0 := by rw [qUp_at, if_pos ⟨rfl, rfl⟩]
  refine wkC_of 7 (by decide) (Nat.le_of_ble_eq_true rfl) (w_X9_cut_0 (rCutLoop (d := d) (I0 := I) (L0 := L) hR hw hk9 hsz _ _ L 0 0 rfl ⟨⟨fun k a _ _ _ => funext fun i => qUp_ne (fun q => a q.1), fun j a => qUp_ne (fun q => a q.2), fun i hi => by rw [qUp_ne (by omega)]; exact hkd i hi⟩, fun _ _ => rfl, by rw [e10]; rfl, fun j hj => absurd hj (Nat.not_lt_zero _)⟩ (by omega) (fun q => absurd q (by decide)) (by decide) hsz.1 rfl))
end
