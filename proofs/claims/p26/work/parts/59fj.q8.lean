/-! ===== umbrellas: purely; the class's ===== -/
abbrev uPi := Nat × Nat × Nat
def uNx (k : Nat) (p : uPi) : Option uPi :=
  if p.2.2 < (if 2 < k then 19 else p.2.1 + 1) then some (p.1, p.2.1, p.2.2 + 1)
  else if p.2.1 < (if 1 < k then 21 - k else p.1 + 1) then some (p.1, p.2.1 + 1, p.2.1 + 2)
  else if p.1 < 20 - k then some (p.1 + 1, p.1 + 2, p.1 + 3)
  else none
theorem uNx1 (a b c : Nat) : uNx 1 (a, b, c) = if c < b + 1 then some (a, b, c + 1) else if b < a + 1 then some (a, b + 1, b + 2) else if a < 19 then some (a + 1, a + 2, a + 3) else none := rfl
theorem uNx2 (a b c : Nat) : uNx 2 (a, b, c) = if c < b + 1 then some (a, b, c + 1) else if b < 19 then some (a, b + 1, b + 2) else if a < 18 then some (a + 1, a + 2, a + 3) else none := rfl
theorem uNx3 (a b c : Nat) : uNx 3 (a, b, c) = if c < 19 then some (a, b, c + 1) else if b < 18 then some (a, b + 1, b + 2) else if a < 17 then some (a + 1, a + 2, a + 3) else none := rfl
/-- a pitch of k: what lies behind the k-th goes along -/
def uOk (k : Nat) (p : uPi) : Prop := p.1 < p.2.1 ∧ p.2.1 < p.2.2 ∧ p.1 + k ≤ 20 ∧ (1 < k → p.2.1 + k ≤ 21) ∧ (2 < k → p.2.2 ≤ 19) ∧ (¬ 1 < k → p.2.1 = p.1 + 1) ∧ (¬ 2 < k → p.2.2 = p.2.1 + 1)
theorem uOk_nx {k : Nat} {p q : uPi} (h1 : 1 ≤ k) (h3 : k ≤ 3) (h : uOk k p) (e : uNx k p = some q) : uOk k q := by
  obtain ⟨a, b, c⟩ := p
  obtain ⟨a1, a2, a3, a4, a5, a6, a7⟩ := h
  dsimp only at a1 a2 a3 a4 a5 a6 a7
  have fin : ∀ a' b' c', some (a', b', c') = some q → a' < b' → b' < c' → a' + k ≤ 20 → (1 < k → b' + k ≤ 21) → (2 < k → c' ≤ 19) → (¬ 1 < k → b' = a' + 1) → (¬ 2 < k → c' = b' + 1) → uOk k q := fun a' b' c' e b1 b2 b3 b4 b5 b6 b7 => by
    injection e with e
    subst e
    exact ⟨b1, b2, b3, b4, b5, b6, b7⟩
  rcases (show k = 1 ∨ k = 2 ∨ k = 3 by omega) with rfl | rfl | rfl
  · rw [uNx1] at e
    have a6 := a6 (by decide)
    have a7 := a7 (by decide)
    rw [if_neg (by omega), if_neg (by omega)] at e
    split at e
    · exact fin _ _ _ e (by omega) (by omega) (by omega) (by omega) (by omega) (by omega) (by omega)
    · cases e
  · rw [uNx2] at e
    have a4 := a4 (by decide)
    have a7 := a7 (by decide)
    rw [if_neg (by omega)] at e
    split at e
    · exact fin _ _ _ e (by omega) (by omega) (by omega) (by omega) (by omega) (by omega) (by omega)
    · split at e
      · exact fin _ _ _ e (by omega) (by omega) (by omega) (by omega) (by omega) (by omega) (by omega)
      · cases e
  · rw [uNx3] at e
    have a4 := a4 (by decide)
    have a5 := a5 (by decide)
    split at e
    · exact fin _ _ _ e (by omega) (by omega) (by omega) (by omega) (by omega) (by omega) (by omega)
    · split at e
      · exact fin _ _ _ e (by omega) (by omega) (by omega) (by omega) (by omega) (by omega) (by omega)
      · split at e
        · exact fin _ _ _ e (by omega) (by omega) (by omega) (by omega) (by omega) (by omega) (by omega)
        · cases e
def bTt (x y : Int32) : Int32 := (x >>> (y &&& 31)) &&& 1
def uCt (x : Int32) : Int32 := (((((0 + bTt x 0) + bTt x 1) + bTt x 2) + bTt x 3) + bTt x 4) + bTt x 5
def uSet (s : Nat → Int32) (k : Nat) (p : uPi) : Int32 := (s p.1 ||| (if 1 < k then s p.2.1 else 0)) ||| (if 2 < k then s p.2.2 else 0)
def uTr (s : Nat → Int32) (k : Nat) (p : uPi) (st : Int32 × uPi) : Int32 × uPi := if st.1 < uCt (uSet s k p) then (uCt (uSet s k p), p) else st
def uF (s : Nat → Int32) (k : Nat) : Nat → uPi → Int32 × uPi → Int32 × uPi
  | 0, _, st => st
  | m + 1, p, st => (uNx k p).elim (uTr s k p st) (fun q => uF s k m q (uTr s k p st))
theorem uF_n {s : Nat → Int32} {k m : Nat} {p : uPi} {st : Int32 × uPi} (h : uNx k p = none) : uF s k (m + 1) p st = uTr s k p st := by
  rw [uF, h]
  rfl
theorem uF_s {s : Nat → Int32} {k m : Nat} {p q : uPi} {st : Int32 × uPi} (h : uNx k p = some q) : uF s k (m + 1) p st = uF s k m q (uTr s k p st) := by
  rw [uF, h]
  rfl
def uAt (i : Int32) (p : uPi) : Int32 := if i = 0 then Int32.ofNat p.1 else if i = 1 then Int32.ofNat p.2.1 else Int32.ofNat p.2.2
def uSn (A : aD) (f : Nat → Int32) (x : Nat) : Int32 := qSeesT A (f 96) (pHt A (f 96)) (Int32.ofNat x)
def uEnd (A : aD) (f : Nat → Int32) (k : Nat) : Int32 × uPi := uF (uSn A f) k 1140 (0, 1, 2) (-1, (0, 1, 2))
def qUmb (A : aD) (f : Nat → Int32) (k i : Int32) : Int32 :=
  if ¬ ((1 ≤ k.toInt ∧ k.toInt ≤ 3) ∧ -1 ≤ i.toInt ∧ i.toInt < k.toInt) then -1
  else if i = -1 then (uEnd A f k.toInt.toNat).1
  else uAt i (uEnd A f k.toInt.toNat).2
/-- six bits -/
def b6 (x : Int32) : Prop := ∃ n, n < 64 ∧ x = Int32.ofNat n
theorem b6_or {x y : Int32} (h : b6 x) (g : b6 y) : b6 (x ||| y) := by
  obtain ⟨m, hm, rfl⟩ := h
  obtain ⟨n, hn, rfl⟩ := g
  have all : ∀ m, m < 64 → ∀ n, n < 64 → m ||| n < 64 ∧ Int32.ofNat m ||| Int32.ofNat n = Int32.ofNat (m ||| n) := by decide +kernel
  exact ⟨m ||| n, (all m hm n hn).1, (all m hm n hn).2⟩
theorem b6_0 : b6 0 := ⟨0, by decide, rfl⟩
theorem b6_sh {y : Int32} {e : Nat} (hy : y.toInt = e) (he : e < 6) : b6 ((1 : Int32) <<< (y &&& 31)) := by
  have ey : y = Int32.ofNat e := ofN hy (by omega)
  have all : ∀ e, e < 6 → (2 ^ e < 64 ∧ (1 : Int32) <<< (Int32.ofNat e &&& 31) = Int32.ofNat (2 ^ e)) := by decide +kernel
  rw [ey]
  exact ⟨2 ^ e, (all e he).1, (all e he).2⟩
theorem qB_b6 {p : Nat → Bool} : ∀ (m e : Nat) (y acc : Int32), e + m ≤ 6 → y.toInt = e → b6 acc → b6 (qB p m e y acc)
  | 0, _, _, _, _, _, h => h
  | m + 1, e, y, acc, hm, hy, h => by
    have y1 : (y + 1).toInt = ((e + 1 : Nat) : Int) := by rw [i_s (by omega)]; omega
    rcases hp : p e with _ | _
    · rw [qB_f hp]
      exact qB_b6 m (e + 1) _ _ (by omega) y1 h
    · rw [qB_t hp]
      exact qB_b6 m (e + 1) _ _ (by omega) y1 (b6_or h (b6_sh hy (by omega)))
theorem uSn_b {A : aD} (hA : A.1.length ≤ 6) (f : Nat → Int32) (x : Nat) : b6 (uSn A f x) := qB_b6 _ _ _ _ (by omega) rfl b6_0
theorem uSet_b {s : Nat → Int32} (h : ∀ x, b6 (s x)) (k : Nat) (p : uPi) : b6 (uSet s k p) := by
  unfold uSet
  refine b6_or (b6_or (h _) ?_) ?_
  · split
    · exact h _
    · exact b6_0
  · split
    · exact h _
    · exact b6_0
theorem uCt_b {x : Int32} (h : b6 x) : 0 ≤ (uCt x).toInt ∧ (uCt x).toInt ≤ 6 := by
  obtain ⟨n, hn, rfl⟩ := h
  have all : ∀ n, n < 64 → 0 ≤ (uCt (Int32.ofNat n)).toInt ∧ (uCt (Int32.ofNat n)).toInt ≤ 6 := by decide +kernel
  exact all n hn
def bCe (a0 : Int32) : Int32 := (((((((a0 - (((a0.toUInt32 >>> ((1 : Int32).toUInt32 &&& Int32.toUInt32 31)).toInt32) &&& 1431655765)) &&& 858993459) + ((((a0 - (((a0.toUInt32 >>> ((1 : Int32).toUInt32 &&& Int32.toUInt32 31)).toInt32) &&& 1431655765)).toUInt32 >>> ((2 : Int32).toUInt32 &&& Int32.toUInt32 31)).toInt32) &&& 858993459)) + (((((a0 - (((a0.toUInt32 >>> ((1 : Int32).toUInt32 &&& Int32.toUInt32 31)).toInt32) &&& 1431655765)) &&& 858993459) + ((((a0 - (((a0.toUInt32 >>> ((1 : Int32).toUInt32 &&& Int32.toUInt32 31)).toInt32) &&& 1431655765)).toUInt32 >>> ((2 : Int32).toUInt32 &&& Int32.toUInt32 31)).toInt32) &&& 858993459)).toUInt32 >>> ((4 : Int32).toUInt32 &&& Int32.toUInt32 31)).toInt32)) &&& 252645135) + (((((((a0 - (((a0.toUInt32 >>> ((1 : Int32).toUInt32 &&& Int32.toUInt32 31)).toInt32) &&& 1431655765)) &&& 858993459) + ((((a0 - (((a0.toUInt32 >>> ((1 : Int32).toUInt32 &&& Int32.toUInt32 31)).toInt32) &&& 1431655765)).toUInt32 >>> ((2 : Int32).toUInt32 &&& Int32.toUInt32 31)).toInt32) &&& 858993459)) + (((((a0 - (((a0.toUInt32 >>> ((1 : Int32).toUInt32 &&& Int32.toUInt32 31)).toInt32) &&& 1431655765)) &&& 858993459) + ((((a0 - (((a0.toUInt32 >>> ((1 : Int32).toUInt32 &&& Int32.toUInt32 31)).toInt32) &&& 1431655765)).toUInt32 >>> ((2 : Int32).toUInt32 &&& Int32.toUInt32 31)).toInt32) &&& 858993459)).toUInt32 >>> ((4 : Int32).toUInt32 &&& Int32.toUInt32 31)).toInt32)) &&& 252645135).toUInt32 >>> ((8 : Int32).toUInt32 &&& Int32.toUInt32 31)).toInt32)) + ((((((((a0 - (((a0.toUInt32 >>> ((1 : Int32).toUInt32 &&& Int32.toUInt32 31)).toInt32) &&& 1431655765)) &&& 858993459) + ((((a0 - (((a0.toUInt32 >>> ((1 : Int32).toUInt32 &&& Int32.toUInt32 31)).toInt32) &&& 1431655765)).toUInt32 >>> ((2 : Int32).toUInt32 &&& Int32.toUInt32 31)).toInt32) &&& 858993459)) + (((((a0 - (((a0.toUInt32 >>> ((1 : Int32).toUInt32 &&& Int32.toUInt32 31)).toInt32) &&& 1431655765)) &&& 858993459) + ((((a0 - (((a0.toUInt32 >>> ((1 : Int32).toUInt32 &&& Int32.toUInt32 31)).toInt32) &&& 1431655765)).toUInt32 >>> ((2 : Int32).toUInt32 &&& Int32.toUInt32 31)).toInt32) &&& 858993459)).toUInt32 >>> ((4 : Int32).toUInt32 &&& Int32.toUInt32 31)).toInt32)) &&& 252645135) + (((((((a0 - (((a0.toUInt32 >>> ((1 : Int32).toUInt32 &&& Int32.toUInt32 31)).toInt32) &&& 1431655765)) &&& 858993459) + ((((a0 - (((a0.toUInt32 >>> ((1 : Int32).toUInt32 &&& Int32.toUInt32 31)).toInt32) &&& 1431655765)).toUInt32 >>> ((2 : Int32).toUInt32 &&& Int32.toUInt32 31)).toInt32) &&& 858993459)) + (((((a0 - (((a0.toUInt32 >>> ((1 : Int32).toUInt32 &&& Int32.toUInt32 31)).toInt32) &&& 1431655765)) &&& 858993459) + ((((a0 - (((a0.toUInt32 >>> ((1 : Int32).toUInt32 &&& Int32.toUInt32 31)).toInt32) &&& 1431655765)).toUInt32 >>> ((2 : Int32).toUInt32 &&& Int32.toUInt32 31)).toInt32) &&& 858993459)).toUInt32 >>> ((4 : Int32).toUInt32 &&& Int32.toUInt32 31)).toInt32)) &&& 252645135).toUInt32 >>> ((8 : Int32).toUInt32 &&& Int32.toUInt32 31)).toInt32)).toUInt32 >>> ((16 : Int32).toUInt32 &&& Int32.toUInt32 31)).toInt32)) &&& 63
theorem bCe_t {x : Int32} (h : b6 x) : bCe x = uCt x := by
  obtain ⟨n, hn, rfl⟩ := h
  have all : ∀ n, n < 64 → bCe (Int32.ofNat n) = uCt (Int32.ofNat n) := by decide +kernel
  exact all n hn
theorem uTr_ge {s : Nat → Int32} (h : ∀ x, b6 (s x)) {k : Nat} {p : uPi} {st : Int32 × uPi} (g : -1 ≤ st.1.toInt) : 0 ≤ (uTr s k p st).1.toInt := by
  have c := uCt_b (uSet_b h k p)
  unfold uTr
  split
  · exact c.1
  · rename_i q
    have q := nlt q
    omega
theorem uF_ge {s : Nat → Int32} (h : ∀ x, b6 (s x)) {k : Nat} : ∀ (m : Nat) (p : uPi) (st : Int32 × uPi), 0 ≤ st.1.toInt → 0 ≤ (uF s k m p st).1.toInt
  | 0, _, _, g => g
  | m + 1, p, st, g => by
    have t := uTr_ge (p := p) (k := k) h (st := st) (by omega)
    rcases e : uNx k p with _ | q
    · rw [uF_n e]
      exact t
    · rw [uF_s e]
      exact uF_ge h m q _ t
theorem uEnd_ge {A : aD} (hA : A.1.length ≤ 6) (f : Nat → Int32) (k : Nat) : 0 ≤ (uEnd A f k).1.toInt := by
  have hb := uSn_b hA f
  have t := uTr_ge (p := (0, 1, 2)) (k := k) hb (st := (-1, (0, 1, 2))) (by decide)
  unfold uEnd
  rcases e : uNx k (0, 1, 2) with _ | q
  · rw [uF_n (m := 1139) e]
    exact t
  · rw [uF_s (m := 1139) e]
    exact uF_ge hb _ q _ t
/-- a row holds a pitch of k -/
def uPt (g : Nat → Int32) (k : Nat) (p : uPi) : Prop := (g 0).toInt = p.1 ∧ (1 < k → (g 1).toInt = p.2.1) ∧ (2 < k → (g 2).toInt = p.2.2)
/-- the best so far: none, or one that a row holds -/
def uBs (g : Nat → Int32) (k : Nat) (st : Int32 × uPi) : Prop := st.1 = -1 ∨ (0 ≤ st.1.toInt ∧ uOk k st.2 ∧ uPt g k st.2)
theorem uBs_at {g : Nat → Int32} {k : Nat} {st : Int32 × uPi} (h1 : 1 ≤ k) (h3 : k ≤ 3) (h : uBs g k st) (n : 0 ≤ st.1.toInt) {i : Int32} (i0 : 0 ≤ i.toInt) (ik : i.toInt < k) : g i.toNatClampNeg = uAt i st.2 := by
  rcases h with h | ⟨-, ⟨a1, a2, a3, a4, a5, a6, a7⟩, p0, p1, p2⟩
  · rw [h] at n
    exact absurd n (by decide)
  rcases (show i.toInt = 0 ∨ i.toInt = 1 ∨ i.toInt = 2 by omega) with e | e | e
  · have ei : i = 0 := i_eq.mpr e
    subst ei
    exact ofN p0 (by omega)
  · have ei : i = 1 := i_eq.mpr e
    subst ei
    have k1 : 1 < k := by omega
    have := a4 k1
    exact ofN (p1 k1) (by omega)
  · have ei : i = 2 := i_eq.mpr e
    subst ei
    have k2 : 2 < k := by omega
    have := a5 k2
    exact ofN (p2 k2) (by omega)
section
variable {l : Launch} {G : qG} {d : Nat}
theorem w_J6_bitCount_0f7a4_0 {Q : qQ} {I : qMI} {L : qML} {R : qMR} {a0 : Int32} (hQ : Q (some (.int ((((((((a0 - (((a0.toUInt32 >>> ((1 : Int32).toUInt32 &&& Int32.toUInt32 31)).toInt32) &&& 1431655765)) &&& 858993459) + ((((a0 - (((a0.toUInt32 >>> ((1 : Int32).toUInt32 &&& Int32.toUInt32 31)).toInt32) &&& 1431655765)).toUInt32 >>> ((2 : Int32).toUInt32 &&& Int32.toUInt32 31)).toInt32) &&& 858993459)) + (((((a0 - (((a0.toUInt32 >>> ((1 : Int32).toUInt32 &&& Int32.toUInt32 31)).toInt32) &&& 1431655765)) &&& 858993459) + ((((a0 - (((a0.toUInt32 >>> ((1 : Int32).toUInt32 &&& Int32.toUInt32 31)).toInt32) &&& 1431655765)).toUInt32 >>> ((2 : Int32).toUInt32 &&& Int32.toUInt32 31)).toInt32) &&& 858993459)).toUInt32 >>> ((4 : Int32).toUInt32 &&& Int32.toUInt32 31)).toInt32)) &&& 252645135) + (((((((a0 - (((a0.toUInt32 >>> ((1 : Int32).toUInt32 &&& Int32.toUInt32 31)).toInt32) &&& 1431655765)) &&& 858993459) + ((((a0 - (((a0.toUInt32 >>> ((1 : Int32).toUInt32 &&& Int32.toUInt32 31)).toInt32) &&& 1431655765)).toUInt32 >>> ((2 : Int32).toUInt32 &&& Int32.toUInt32 31)).toInt32) &&& 858993459)) + (((((a0 - (((a0.toUInt32 >>> ((1 : Int32).toUInt32 &&& Int32.toUInt32 31)).toInt32) &&& 1431655765)) &&& 858993459) + ((((a0 - (((a0.toUInt32 >>> ((1 : Int32).toUInt32 &&& Int32.toUInt32 31)).toInt32) &&& 1431655765)).toUInt32 >>> ((2 : Int32).toUInt32 &&& Int32.toUInt32 31)).toInt32) &&& 858993459)).toUInt32 >>> ((4 : Int32).toUInt32 &&& Int32.toUInt32 31)).toInt32)) &&& 252645135).toUInt32 >>> ((8 : Int32).toUInt32 &&& Int32.toUInt32 31)).toInt32)) + ((((((((a0 - (((a0.toUInt32 >>> ((1 : Int32).toUInt32 &&& Int32.toUInt32 31)).toInt32) &&& 1431655765)) &&& 858993459) + ((((a0 - (((a0.toUInt32 >>> ((1 : Int32).toUInt32 &&& Int32.toUInt32 31)).toInt32) &&& 1431655765)).toUInt32 >>> ((2 : Int32).toUInt32 &&& Int32.toUInt32 31)).toInt32) &&& 858993459)) + (((((a0 - (((a0.toUInt32 >>> ((1 : Int32).toUInt32 &&& Int32.toUInt32 31)).toInt32) &&& 1431655765)) &&& 858993459) + ((((a0 - (((a0.toUInt32 >>> ((1 : Int32).toUInt32 &&& Int32.toUInt32 31)).toInt32) &&& 1431655765)).toUInt32 >>> ((2 : Int32).toUInt32 &&& Int32.toUInt32 31)).toInt32) &&& 858993459)).toUInt32 >>> ((4 : Int32).toUInt32 &&& Int32.toUInt32 31)).toInt32)) &&& 252645135) + (((((((a0 - (((a0.toUInt32 >>> ((1 : Int32).toUInt32 &&& Int32.toUInt32 31)).toInt32) &&& 1431655765)) &&& 858993459) + ((((a0 - (((a0.toUInt32 >>> ((1 : Int32).toUInt32 &&& Int32.toUInt32 31)).toInt32) &&& 1431655765)).toUInt32 >>> ((2 : Int32).toUInt32 &&& Int32.toUInt32 31)).toInt32) &&& 858993459)) + (((((a0 - (((a0.toUInt32 >>> ((1 : Int32).toUInt32 &&& Int32.toUInt32 31)).toInt32) &&& 1431655765)) &&& 858993459) + ((((a0 - (((a0.toUInt32 >>> ((1 : Int32).toUInt32 &&& Int32.toUInt32 31)).toInt32) &&& 1431655765)).toUInt32 >>> ((2 : Int32).toUInt32 &&& Int32.toUInt32 31)).toInt32) &&& 858993459)).toUInt32 >>> ((4 : Int32).toUInt32 &&& Int32.toUInt32 31)).toInt32)) &&& 252645135).toUInt32 >>> ((8 : Int32).toUInt32 &&& Int32.toUInt32 31)).toInt32)).toUInt32 >>> ((16 : Int32).toUInt32 &&& Int32.toUInt32 31)).toInt32)) &&& 63))) 336 I L R) : wkB l G (d + 1) n_J6_bitCount_0f7a4 Q 0 [.int a0] [] I L R :=
  bb_iload_n (n := 0) (i := 0) (zd (i := .iload_n 0) (n := 1) (by decide +kernel)) rfl rfl <|
  bb_iload_n (n := 0) (i := 0) (zd (i := .iload_n 0) (n := 1) (by decide +kernel)) rfl rfl <|
  bb_lift (fun _ => q_iconst (n := 1) (zd (i := .iconst (1)) (n := 1) (by decide +kernel)) rfl) <|
  bb_lift (fun _ => q_iushr (zd (i := .iushr) (n := 1) (by decide +kernel))) <|
  bb_lift (fun _ => q_ldcw (n := 265) (zd (i := .ldc_w 265) (n := 3) (by decide +kernel)) g973) <|
  bb_lift (fun _ => q_iand (zd (i := .iand) (n := 1) (by decide +kernel))) <|
  bb_lift (fun _ => q_isub (zd (i := .isub) (n := 1) (by decide +kernel))) <|
  bb_istore_n (n := 0) (i := 0) (zd (i := .istore_n 0) (n := 1) (by decide +kernel)) rfl (by decide +kernel) wkNl_0 <|
  bb_iload_n (n := 0) (i := 0) (zd (i := .iload_n 0) (n := 1) (by decide +kernel)) rfl rfl <|
  bb_lift (fun _ => q_ldcw (n := 266) (zd (i := .ldc_w 266) (n := 3) (by decide +kernel)) g974) <|
  bb_lift (fun _ => q_iand (zd (i := .iand) (n := 1) (by decide +kernel))) <|
  bb_iload_n (n := 0) (i := 0) (zd (i := .iload_n 0) (n := 1) (by decide +kernel)) rfl rfl <|
  bb_lift (fun _ => q_iconst (n := 2) (zd (i := .iconst (2)) (n := 1) (by decide +kernel)) rfl) <|
  bb_lift (fun _ => q_iushr (zd (i := .iushr) (n := 1) (by decide +kernel))) <|
  bb_lift (fun _ => q_ldcw (n := 266) (zd (i := .ldc_w 266) (n := 3) (by decide +kernel)) g974) <|
  bb_lift (fun _ => q_iand (zd (i := .iand) (n := 1) (by decide +kernel))) <|
  bb_lift (fun _ => q_iadd (zd (i := .iadd) (n := 1) (by decide +kernel))) <|
  bb_istore_n (n := 0) (i := 0) (zd (i := .istore_n 0) (n := 1) (by decide +kernel)) rfl (by decide +kernel) wkNl_0 <|
  bb_iload_n (n := 0) (i := 0) (zd (i := .iload_n 0) (n := 1) (by decide +kernel)) rfl rfl <|
  bb_iload_n (n := 0) (i := 0) (zd (i := .iload_n 0) (n := 1) (by decide +kernel)) rfl rfl <|
  bb_lift (fun _ => q_iconst (n := 4) (zd (i := .iconst (4)) (n := 1) (by decide +kernel)) rfl) <|
  bb_lift (fun _ => q_iushr (zd (i := .iushr) (n := 1) (by decide +kernel))) <|
  bb_lift (fun _ => q_iadd (zd (i := .iadd) (n := 1) (by decide +kernel))) <|
  bb_lift (fun _ => q_ldcw (n := 267) (zd (i := .ldc_w 267) (n := 3) (by decide +kernel)) g975) <|
  bb_lift (fun _ => q_iand (zd (i := .iand) (n := 1) (by decide +kernel))) <|
  bb_istore_n (n := 0) (i := 0) (zd (i := .istore_n 0) (n := 1) (by decide +kernel)) rfl (by decide +kernel) wkNl_0 <|
  bb_iload_n (n := 0) (i := 0) (zd (i := .iload_n 0) (n := 1) (by decide +kernel)) rfl rfl <|
  bb_iload_n (n := 0) (i := 0) (zd (i := .iload_n 0) (n := 1) (by decide +kernel)) rfl rfl <|
  bb_lift (fun _ => q_bipush (n := 8) (zd (i := .bipush (8)) (n := 2) (by decide +kernel)) rfl) <|
  bb_lift (fun _ => q_iushr (zd (i := .iushr) (n := 1) (by decide +kernel))) <|
  bb_lift (fun _ => q_iadd (zd (i := .iadd) (n := 1) (by decide +kernel))) <|
  bb_istore_n (n := 0) (i := 0) (zd (i := .istore_n 0) (n := 1) (by decide +kernel)) rfl (by decide +kernel) wkNl_0 <|
  bb_iload_n (n := 0) (i := 0) (zd (i := .iload_n 0) (n := 1) (by decide +kernel)) rfl rfl <|
  bb_iload_n (n := 0) (i := 0) (zd (i := .iload_n 0) (n := 1) (by decide +kernel)) rfl rfl <|
  bb_lift (fun _ => q_bipush (n := 16) (zd (i := .bipush (16)) (n := 2) (by decide +kernel)) rfl) <|
  bb_lift (fun _ => q_iushr (zd (i := .iushr) (n := 1) (by decide +kernel))) <|
  bb_lift (fun _ => q_iadd (zd (i := .iadd) (n := 1) (by decide +kernel))) <|
  bb_istore_n (n := 0) (i := 0) (zd (i := .istore_n 0) (n := 1) (by decide +kernel)) rfl (by decide +kernel) wkNl_0 <|
  bb_iload_n (n := 0) (i := 0) (zd (i := .iload_n 0) (n := 1) (by decide +kernel)) rfl rfl <|
  bb_lift (fun _ => q_bipush (n := 63) (zd (i := .bipush (63)) (n := 2) (by decide +kernel)) rfl) <|
  bb_lift (fun _ => q_iand (zd (i := .iand) (n := 1) (by decide +kernel))) <|
  (fun lv hl => q_iret (zd (i := .ireturn) (n := 1) (by decide +kernel)) rfl rfl (Nat.le_refl _) (Nat.le_refl _) hQ)
end
section
variable {l : Launch} {G : qG} {d : Nat} {I : qMI} {L : qML} {R : qMR} {o n : Nat} {A : aD} {f : Nat → Int32} {h sl : Nat → Nat → Int32}
theorem sBitC {x : Int32} (hx : b6 x) : wkCi l G (d + 1) n_J6_bitCount_0f7a4 [.int x] I L R (fun z I' L' R' => R' = R ∧ L' = L ∧ I' = I ∧ z = uCt x) :=
  wkC_of 0 (by decide) (Nat.le_of_ble_eq_true rfl) (w_J6_bitCount_0f7a4_0 ⟨rfl, _, rfl, rfl, rfl, rfl, bCe_t hx⟩)
/-- the numbers behind one follow it -/
theorem sNxJ {Q : qQ} {y z : Int32} {k : Nat} (hy : y.toInt = k) (k3 : k ≤ 3) (r10 : R 0 10 = some 257) : ∀ (m j v : Nat) (t : Int32) (J : qMI), j + m = k → 1 ≤ j → t.toInt = j → (J 257 (j - 1)).toInt = v → v + m < 50 → (∀ J' : qMI, (∀ i, i ≠ 257 → J' i = J i) → (∀ i, i < j → J' 257 i = J 257 i) → (∀ i, i < m → (J' 257 (j + i)).toInt = ((v + 1 + i : Nat) : Int)) → Q (some (.int 1)) 336 J' L R) → wkB l G (d + 1) n_X8_nextPitch Q 37 [.ref 0, .int y, .int z, .int t] [] J L R := by
  intro m
  induction m with
  | zero =>
    intro j v t J hm h1 ht hv h50 q0
    exact w_X8_nextPitch_37 (fun _ => w_X8_nextPitch_64 (q0 J (fun _ _ => rfl) (fun _ _ => rfl) (fun i hi => absurd hi (by omega)))) (fun q => absurd (i_le.mpr (by omega)) q)
  | succ m ih =>
    intro j v t J hm h1 ht hv h50 q0
    have t1 : (t + 1).toInt = ((j + 1 : Nat) : Int) := by rw [i_s (by omega)]; omega
    have tm : (t - 1).toInt = ((j - 1 : Nat) : Int) := by rw [i_sub (by rw [show (1 : Int32).toInt = 1 from rfl]; omega) (by rw [show (1 : Int32).toInt = 1 from rfl]; omega), show (1 : Int32).toInt = 1 from rfl]; omega
    have cm : (t - 1).toNatClampNeg = j - 1 := by rw [tcn]; omega
    have ct : t.toNatClampNeg = j := by rw [tcn]; omega
    refine w_X8_nextPitch_37 (fun q => absurd (i_le.mp q) (by omega)) (fun _ => w_X8_nextPitch_42 r10 r10 (vin (by omega) (by omega)) (vin (by omega) (by omega)) ?_)
    rw [cm, ct]
    have v1 : (J 257 (j - 1) + 1).toInt = ((v + 1 : Nat) : Int) := by rw [i_s (by omega)]; omega
    refine ih (j + 1) (v + 1) _ _ (by omega) (by omega) t1 ?_ (by omega) (fun J' e1 e2 e3 => q0 J' (fun i hi => ?_) (fun i hi => ?_) (fun i hi => ?_))
    · rw [show j + 1 - 1 = j by omega, qUp_at, if_pos ⟨rfl, rfl⟩]
      exact v1
    · rw [e1 i hi, qUp_ro hi]
    · rw [e2 i (by omega), qUp_at, if_neg (fun z => by omega)]
    · by_cases i0 : i = 0
      · subst i0
        rw [Nat.add_zero, e2 j (by omega), qUp_at, if_pos ⟨rfl, rfl⟩]
        exact v1
      · have := e3 (i - 1) (by omega)
        rw [show j + 1 + (i - 1) = j + i by omega] at this
        rw [this]
        omega
theorem sNxI {Q : qQ} {y z : Int32} {k i v : Nat} (hy : y.toInt = k) (k3 : k ≤ 3) (r10 : R 0 10 = some 257) (hz : z.toInt = i) (hi : i < k) (hv : (I 257 i).toInt = v) (h50 : v < 40) (no : 20 + i ≤ v + k → wkB l G (d + 1) n_X8_nextPitch Q 4 [.ref 0, .int y, .int (z + (-1)), wkU] [] I L R) (yes : v + k < 20 + i → ∀ J' : qMI, (∀ j, j ≠ 257 → J' j = I j) → (∀ j, j < i → J' 257 j = I 257 j) → (∀ j, i + j < k → (J' 257 (i + j)).toInt = ((v + 1 + j : Nat) : Int)) → Q (some (.int 1)) 336 J' L R) : wkB l G (d + 1) n_X8_nextPitch Q 4 [.ref 0, .int y, .int z, wkU] [] I L R := by
  have z0 : (0 : Int32).toInt = 0 := rfl
  have z20 : (20 : Int32).toInt = 20 := rfl
  have cz : z.toNatClampNeg = i := by rw [tcn]; omega
  have ea : (20 - y).toInt = 20 - k := by rw [i_sub (by omega) (by omega), z20, hy]
  have eb : ((20 - y) + z).toInt = 20 - k + i := by rw [i_add (by omega) (by omega), ea, hz]
  have z1 : (z + 1).toInt = ((i + 1 : Nat) : Int) := by rw [i_s (by omega)]; omega
  have v1 : (I 257 i + 1).toInt = ((v + 1 : Nat) : Int) := by rw [i_s (by omega)]; omega
  refine w_X8_nextPitch_4 (fun q => absurd (i_lt.mp q) (by omega)) (fun _ => w_X8_nextPitch_8 r10 (vin (by omega) (by omega)) (fun q => w_X8_nextPitch_66 (no ?_)) (fun q => w_X8_nextPitch_23 r10 (vin (by omega) (by omega)) (vin (by omega) (by omega)) ?_))
  · rw [cz] at q
    have q := i_le.mp q
    omega
  · rw [cz] at q ⊢
    have q := nle q
    refine sNxJ (d := d) hy k3 r10 (k - (i + 1)) (i + 1) (v + 1) _ _ (by omega) (by omega) z1 ?_ (by omega) (fun J' e1 e2 e3 => yes (by omega) J' (fun j hj => ?_) (fun j hj => ?_) (fun j hj => ?_))
    · rw [show i + 1 - 1 = i by omega, qUp_at, if_pos ⟨rfl, rfl⟩]
      exact v1
    · rw [e1 j hj, qUp_ro hj]
    · rw [e2 j (by omega), qUp_at, if_neg (fun z => by omega)]
    · by_cases j0 : j = 0
      · subst j0
        rw [Nat.add_zero, e2 i (by omega), qUp_at, if_pos ⟨rfl, rfl⟩]
        exact v1
      · have := e3 (j - 1) (by omega)
        rw [show i + 1 + (j - 1) = i + j by omega] at this
        rw [this]
        omega
theorem mneg {z : Int32} {i : Nat} (hz : z.toInt = ((i + 1 : Nat) : Int)) (hi : i < 10) : (z + (-1)).toInt = i := by
  rw [i_add (by rw [show (-1 : Int32).toInt = -1 from rfl]; omega) (by rw [show (-1 : Int32).toInt = -1 from rfl]; omega), show (-1 : Int32).toInt = -1 from rfl]
  omega
theorem sNext {y : Int32} {k : Nat} {p : uPi} (hy : y.toInt = k) (h1 : 1 ≤ k) (h3 : k ≤ 3) (r10 : R 0 10 = some 257) (ok : uOk k p) (hp : uPt (I 257) k p) : wkCi l G (d + 1) n_X8_nextPitch [.ref 0, .int y] I L R (fun z I' L' R' => R' = R ∧ L' = L ∧ (∀ j, j ≠ 257 → I' j = I j) ∧ ((uNx k p = none ∧ z = 0) ∨ ∃ q, uNx k p = some q ∧ z = 1 ∧ uPt (I' 257) k q)) := by
  obtain ⟨a, b, c⟩ := p
  obtain ⟨a1, a2, a3, a4, a5, a6, a7⟩ := ok
  obtain ⟨g0, g1, g2⟩ := hp
  dsimp only at a1 a2 a3 a4 a5 a6 a7 g0 g1 g2
  have o1 : (1 : Int32).toInt = 1 := rfl
  have y1 : (y - 1).toInt = ((k - 1 : Nat) : Int) := by rw [i_sub (by omega) (by omega)]; omega
  have done : ∀ {z : Int32}, z.toInt = ((0 : Nat) : Int) → uNx k (a, b, c) = none → wkB l G (d + 1) n_X8_nextPitch (fun r t I' L' R' => t = 336 ∧ ∃ z, r = some (.int z) ∧ R' = R ∧ L' = L ∧ (∀ j, j ≠ 257 → I' j = I j) ∧ ((uNx k (a, b, c) = none ∧ z = 0) ∨ ∃ q, uNx k (a, b, c) = some q ∧ z = 1 ∧ uPt (I' 257) k q)) 4 [.ref 0, .int y, .int (z + (-1)), wkU] [] I L R := fun {z} hz e => by
    have zz : z = 0 := i_eq.mpr (by rw [hz]; rfl)
    subst zz
    exact w_X8_nextPitch_4 (fun _ => w_X8_nextPitch_72 ⟨rfl, _, rfl, rfl, rfl, fun _ _ => rfl, Or.inl ⟨e, rfl⟩⟩) (fun q => absurd (by decide) q)
  refine wkC_of 2 (by decide) (Nat.le_of_ble_eq_true rfl) (w_X8_nextPitch_0 ?_)
  rcases (show k = 1 ∨ k = 2 ∨ k = 3 by omega) with rfl | rfl | rfl
  · have a6 := a6 (by decide)
    have a7 := a7 (by decide)
    refine sNxI (d := d) (i := 0) hy (by decide) r10 y1 (by decide) g0 (by omega) (fun q => done y1 ?_) (fun q J' e1 e2 e3 => ⟨rfl, _, rfl, rfl, rfl, e1, Or.inr ⟨(a + 1, a + 2, a + 3), ?_, rfl, ?_⟩⟩)
    · rw [uNx1, if_neg (by omega), if_neg (by omega), if_neg (by omega)]
    · rw [uNx1, if_neg (by omega), if_neg (by omega), if_pos (by omega)]
    · exact ⟨(e3 0 (by decide)).trans (by omega), fun z => absurd z (by decide), fun z => absurd z (by decide)⟩
  · have g1 := g1 (by decide)
    have a4 := a4 (by decide)
    have a7 := a7 (by decide)
    have y0 := mneg y1 (by decide)
    refine sNxI (d := d) (i := 1) hy (by decide) r10 y1 (by decide) g1 (by omega) (fun q => sNxI (d := d) (i := 0) hy (by decide) r10 y0 (by decide) g0 (by omega) (fun q2 => done y0 ?_) (fun q2 J' e1 e2 e3 => ⟨rfl, _, rfl, rfl, rfl, e1, Or.inr ⟨(a + 1, a + 2, a + 3), ?_, rfl, ?_⟩⟩)) (fun q J' e1 e2 e3 => ⟨rfl, _, rfl, rfl, rfl, e1, Or.inr ⟨(a, b + 1, b + 2), ?_, rfl, ?_⟩⟩)
    · rw [uNx2, if_neg (by omega), if_neg (by omega), if_neg (by omega)]
    · rw [uNx2, if_neg (by omega), if_neg (by omega), if_pos (by omega)]
    · exact ⟨(e3 0 (by decide)).trans (by omega), fun _ => (e3 1 (by decide)).trans (by show ((a + 1 + 1 : Nat) : Int) = ((a + 2 : Nat) : Int); omega), fun z => absurd z (by decide)⟩
    · rw [uNx2, if_neg (by omega), if_pos (by omega)]
    · exact ⟨by rw [e2 0 (by decide)]; exact g0, fun _ => (e3 0 (by decide)).trans (by show ((b + 1 + 0 : Nat) : Int) = ((b + 1 : Nat) : Int); omega), fun z => absurd z (by decide)⟩
  · have g1 := g1 (by decide)
    have g2 := g2 (by decide)
    have a4 := a4 (by decide)
    have a5 := a5 (by decide)
    have y0 := mneg (i := 1) y1 (by decide)
    have yy := mneg (i := 0) y0 (by decide)
    refine sNxI (d := d) (i := 2) hy (by decide) r10 y1 (by decide) g2 (by omega) (fun q => sNxI (d := d) (i := 1) hy (by decide) r10 y0 (by decide) g1 (by omega) (fun q2 => sNxI (d := d) (i := 0) hy (by decide) r10 yy (by decide) g0 (by omega) (fun q3 => done yy ?_) (fun q3 J' e1 e2 e3 => ⟨rfl, _, rfl, rfl, rfl, e1, Or.inr ⟨(a + 1, a + 2, a + 3), ?_, rfl, ?_⟩⟩)) (fun q2 J' e1 e2 e3 => ⟨rfl, _, rfl, rfl, rfl, e1, Or.inr ⟨(a, b + 1, b + 2), ?_, rfl, ?_⟩⟩)) (fun q J' e1 e2 e3 => ⟨rfl, _, rfl, rfl, rfl, e1, Or.inr ⟨(a, b, c + 1), ?_, rfl, ?_⟩⟩)
    · rw [uNx3, if_neg (by omega), if_neg (by omega), if_neg (by omega)]
    · rw [uNx3, if_neg (by omega), if_neg (by omega), if_pos (by omega)]
    · exact ⟨(e3 0 (by decide)).trans (by omega), fun _ => (e3 1 (by decide)).trans (by show ((a + 1 + 1 : Nat) : Int) = ((a + 2 : Nat) : Int); omega), fun _ => (e3 2 (by decide)).trans (by show ((a + 1 + 2 : Nat) : Int) = ((a + 3 : Nat) : Int); omega)⟩
    · rw [uNx3, if_neg (by omega), if_pos (by omega)]
    · exact ⟨by rw [e2 0 (by decide)]; exact g0, fun _ => (e3 0 (by decide)).trans (by show ((b + 1 + 0 : Nat) : Int) = ((b + 1 : Nat) : Int); omega), fun _ => (e3 1 (by decide)).trans (by show ((b + 1 + 1 : Nat) : Int) = ((b + 2 : Nat) : Int); omega)⟩
    · rw [uNx3, if_pos (by omega)]
    · exact ⟨by rw [e2 0 (by decide)]; exact g0, fun _ => by rw [e2 1 (by decide)]; exact g1, fun _ => (e3 0 (by decide)).trans (by show ((c + 1 + 0 : Nat) : Int) = ((c + 1 : Nat) : Int); omega)⟩
/-- what pitching leaves alone -/
def cQ8 (o : Nat) (I J : qMI) : Prop := ∀ k, k ≠ o + 10 → k ≠ o + 11 → k ≠ 255 → k ≠ 257 → k ≠ 258 → J k = I k
theorem cQ8_tr {I J K : qMI} (h : cQ8 o I J) (g : cQ8 o J K) : cQ8 o I K := fun k a b c e i => (g k a b c e i).trans (h k a b c e i)
theorem cQ8_q {I J : qMI} (h : cQ o I J) : cQ8 o I J := fun k a b _ _ _ => h k a b
theorem cS_q8 {J : qMI} (s : cS o A f n h sl I R) (e : cQ8 o I J) : cS o A f n h sl J R := by
  have ho := s.1.1.1
  exact cS_of s (fun k a => e k (by omega) (by omega) (by omega) (by omega) (by omega))
theorem sPuT (hs : cS o A f n h sl I R) (r8 : R 0 8 = some 255) {Q : qQ} {y w : Int32} (hw : w = pHt A (f 96)) : ∀ (m e : Nat) (x : Int32) (J : qMI), e + m = 20 → x.toInt = e → cQ8 o I J → (∀ i, i < e → J 255 i = uSn A f i) → (∀ (x' : Int32) (J' : qMI), cQ8 o I J' → (∀ i, i < 20 → J' 255 i = uSn A f i) → wkB l G (d + 6 + 1) n_X8_pitchUmbrellas Q 41 [.ref 0, .int y, .int w, .int x', wkU, wkU, wkU, wkU] [] J' L R) → wkB l G (d + 6 + 1) n_X8_pitchUmbrellas Q 17 [.ref 0, .int y, .int w, .int x, wkU, wkU, wkU, wkU] [] J L R := by
  have z20 : (20 : Int32).toInt = 20 := rfl
  have ho := hs.1.1.1
  intro m
  induction m with
  | zero =>
    intro e x J hn hx hJ hp q0
    exact w_X8_pitchUmbrellas_17 (fun _ => q0 x J hJ (fun i hi => hp i (by omega))) (fun q => absurd (i_le.mpr (by omega)) q)
  | succ m ih =>
    intro e x J hn hx hJ hp q0
    have hsJ := cS_q8 hs hJ
    have x1 : (x + 1).toInt = ((e + 1 : Nat) : Int) := by rw [i_s (by omega)]; omega
    have ex : x = Int32.ofNat e := ofN hx (by omega)
    have cx : x.toNatClampNeg = e := by rw [tcn]; omega
    refine w_X8_pitchUmbrellas_17 (fun q => absurd (i_le.mp q) (by omega)) (fun _ => w_X8_pitchUmbrellas_23 r8 (sThSeenM (d := d) hsJ) (fun z I1 L1 R1 hq => ?_))
    obtain ⟨rfl, rfl, f1, rfl⟩ := hq
    refine w_X8_pitchUmbrellas_34 (vin (by omega) (by omega)) ?_
    rw [cx]
    have f255 : I1 255 = J 255 := f1 255 (by omega) (by omega)
    refine ih (e + 1) _ _ (by omega) x1 (cQ8_tr hJ (cQ8_tr (cQ8_q f1) (fun k _ _ c _ _ => qUp_ro c))) (fun i hi => ?_) q0
    rw [qUp_row, f255]
    by_cases c : i = e
    · rw [c, tU_s, hw, ex]
      rfl
    · rw [tU_o c]
      exact hp i (by omega)
theorem sPuI (r10 : R 0 10 = some 257) {Q : qQ} {y w : Int32} {k : Nat} (hy : y.toInt = k) (h3 : k ≤ 3) : ∀ (m e : Nat) (x : Int32) (J : qMI), e + m = k → x.toInt = e → (∀ i, i < e → (J 257 i).toInt = i) → (∀ (x' : Int32) (J' : qMI), (∀ i, i ≠ 257 → J' i = J i) → (∀ i, i < k → (J' 257 i).toInt = i) → wkB l G (d + 6 + 1) n_X8_pitchUmbrellas Q 61 [.ref 0, .int y, .int w, .int x', wkU, wkU, wkU, wkU] [] J' L R) → wkB l G (d + 6 + 1) n_X8_pitchUmbrellas Q 43 [.ref 0, .int y, .int w, .int x, wkU, wkU, wkU, wkU] [] J L R := by
  intro m
  induction m with
  | zero =>
    intro e x J hn hx hp q0
    exact w_X8_pitchUmbrellas_43 (fun _ => q0 x J (fun _ _ => rfl) (fun i hi => hp i (by omega))) (fun q => absurd (i_le.mpr (by omega)) q)
  | succ m ih =>
    intro e x J hn hx hp q0
    have x1 : (x + 1).toInt = ((e + 1 : Nat) : Int) := by rw [i_s (by omega)]; omega
    have cx : x.toNatClampNeg = e := by rw [tcn]; omega
    refine w_X8_pitchUmbrellas_43 (fun q => absurd (i_le.mp q) (by omega)) (fun _ => w_X8_pitchUmbrellas_48 r10 (vin (by omega) (by omega)) ?_)
    rw [cx]
    refine ih (e + 1) _ _ (by omega) x1 (fun i hi => ?_) (fun x' J' g1 g2 => q0 x' J' (fun i hi => (g1 i hi).trans (qUp_ro hi)) g2)
    rw [qUp_row]
    by_cases c : i = e
    · rw [c, tU_s]
      exact hx
    · rw [tU_o c]
      exact hp i (by omega)
theorem sPuB (r8 : R 0 8 = some 255) (r10 : R 0 10 = some 257) {Q : qQ} {y w b c t : Int32} {k : Nat} {p : uPi} {s : Nat → Int32} (hy : y.toInt = k) (h1 : 1 ≤ k) (h3 : k ≤ 3) (ok : uOk k p) (hp : uPt (I 257) k p) (hs : ∀ i, i < 20 → I 255 i = s i) (q0 : ∀ u : Int32, wkB l G (d + 6 + 1) n_X8_pitchUmbrellas Q 117 [.ref 0, .int y, .int w, .int b, .int c, .int t, .int (uSet s k p), .int u] [] I L R) : wkB l G (d + 6 + 1) n_X8_pitchUmbrellas Q 88 [.ref 0, .int y, .int w, .int b, .int c, .int t, .int 0, .int 0] [] I L R := by
  obtain ⟨a1, a2, a3, a4, a5, -, -⟩ := ok
  obtain ⟨g0, g1, g2⟩ := hp
  have z0 : (0 : Int32).toInt = 0 := rfl
  have z1 : (0 + 1 : Int32).toInt = 1 := rfl
  have z2 : (0 + 1 + 1 : Int32).toInt = 2 := rfl
  have z3 : (0 + 1 + 1 + 1 : Int32).toInt = 3 := rfl
  have e0 : I 255 (I 257 (0 : Int32).toNatClampNeg).toNatClampNeg = s p.1 := by
    rw [show (0 : Int32).toNatClampNeg = 0 from rfl, show (I 257 0).toNatClampNeg = p.1 by rw [tcn, g0]; omega]
    exact hs _ (by omega)
  refine w_X8_pitchUmbrellas_88 (fun q => absurd (i_le.mp q) (by omega)) (fun _ => w_X8_pitchUmbrellas_94 r8 r10 (vin (by decide) (by decide)) (vin (by rw [show (0 : Int32).toNatClampNeg = 0 from rfl]; omega) (by rw [show (0 : Int32).toNatClampNeg = 0 from rfl]; omega)) ?_)
  rw [e0]
  by_cases k1 : 1 < k
  · have g1 := g1 k1
    have a4 := a4 k1
    have e1 : I 255 (I 257 (0 + 1 : Int32).toNatClampNeg).toNatClampNeg = s p.2.1 := by
      rw [show (0 + 1 : Int32).toNatClampNeg = 1 from rfl, show (I 257 1).toNatClampNeg = p.2.1 by rw [tcn, g1]; omega]
      exact hs _ (by omega)
    refine w_X8_pitchUmbrellas_88 (fun q => absurd (i_le.mp q) (by omega)) (fun _ => w_X8_pitchUmbrellas_94 r8 r10 (vin (by decide) (by decide)) (vin (by rw [show (0 + 1 : Int32).toNatClampNeg = 1 from rfl]; omega) (by rw [show (0 + 1 : Int32).toNatClampNeg = 1 from rfl]; omega)) ?_)
    rw [e1]
    by_cases k2 : 2 < k
    · have g2 := g2 k2
      have a5 := a5 k2
      have e2 : I 255 (I 257 (0 + 1 + 1 : Int32).toNatClampNeg).toNatClampNeg = s p.2.2 := by
        rw [show (0 + 1 + 1 : Int32).toNatClampNeg = 2 from rfl, show (I 257 2).toNatClampNeg = p.2.2 by rw [tcn, g2]; omega]
        exact hs _ (by omega)
      refine w_X8_pitchUmbrellas_88 (fun q => absurd (i_le.mp q) (by omega)) (fun _ => w_X8_pitchUmbrellas_94 r8 r10 (vin (by decide) (by decide)) (vin (by rw [show (0 + 1 + 1 : Int32).toNatClampNeg = 2 from rfl]; omega) (by rw [show (0 + 1 + 1 : Int32).toNatClampNeg = 2 from rfl]; omega)) ?_)
      rw [e2]
      refine w_X8_pitchUmbrellas_88 (fun _ => ?_) (fun q => absurd (i_le.mpr (by omega)) q)
      have := q0 (0 + 1 + 1 + 1)
      unfold uSet at this
      rw [if_pos k1, if_pos k2] at this
      rw [Int32.zero_or]
      exact this
    · refine w_X8_pitchUmbrellas_88 (fun _ => ?_) (fun q => absurd (i_le.mpr (by omega)) q)
      have := q0 (0 + 1 + 1)
      unfold uSet at this
      rw [if_pos k1, if_neg k2, Int32.or_zero] at this
      rw [Int32.zero_or]
      exact this
  · refine w_X8_pitchUmbrellas_88 (fun _ => ?_) (fun q => absurd (i_le.mpr (by omega)) q)
    have := q0 (0 + 1)
    unfold uSet at this
    rw [if_neg k1, if_neg (by omega), Int32.or_zero, Int32.or_zero] at this
    rw [Int32.zero_or]
    exact this
theorem sPuM (hs : cS o A f n h sl I R) (r8 : R 0 8 = some 255) (r10 : R 0 10 = some 257) (r11 : R 0 11 = some 258) {Q : qQ} {y w : Int32} {k : Nat} (hy : y.toInt = k) (h1 : 1 ≤ k) (h3 : k ≤ 3) : ∀ (m t : Nat) (x : Int32) (p : uPi) (st : Int32 × uPi) (J : qMI), t + m = 1140 → x.toInt = t → uOk k p → uPt (J 257) k p → uBs (J 258) k st → (∀ i, i < 20 → J 255 i = uSn A f i) → cQ8 o I J → (∀ J' : qMI, cQ8 o I J' → uBs (J' 258) k (uF (uSn A f) k m p st) → Q (some (.int (uF (uSn A f) k m p st).1)) 336 J' L R) → wkB l G (d + 6 + 1) n_X8_pitchUmbrellas Q 69 [.ref 0, .int y, .int w, .int st.1, .int 1, .int x, wkU, wkU] [] J L R := by
  have hn2 := (cHas_n hs.1.1).1
  have z11 : (1140 : Int32).toInt = 1140 := rfl
  have hb : ∀ x, b6 (uSn A f x) := uSn_b (by omega) f
  have ho := hs.1.1.1
  intro m
  induction m with
  | zero =>
    intro t x p st J hn hx ok hp hbs ht hJ q0
    exact w_X8_pitchUmbrellas_69 (fun _ => w_X8_pitchUmbrellas_159 (q0 J hJ hbs)) (fun q => absurd (i_le.mpr (by omega)) q)
  | succ m ih =>
    intro t x p st J hn hx ok hp hbs ht hJ q0
    have x1 : (x + 1).toInt = ((t + 1 : Nat) : Int) := by rw [i_s (by omega)]; omega
    have h6 := uSet_b hb k p
    have cy : y.toNatClampNeg = k := by rw [tcn]; omega
    -- behind the try
    have go : ∀ (u : Int32) (K : qMI), cQ8 o I K → K 257 = J 257 → K 255 = J 255 → uBs (K 258) k (uTr (uSn A f) k p st) → wkB l G (d + 6 + 1) n_X8_pitchUmbrellas Q 146 [.ref 0, .int y, .int w, .int (uTr (uSn A f) k p st).1, .int 1, .int x, .int (uSet (uSn A f) k p), .int u] [] K L R := fun u K hK e7 e5 hb2 => by
      refine w_X8_pitchUmbrellas_146 (sNext (d := d + 5) hy h1 h3 r10 ok (by rw [e7]; exact hp)) (fun z I1 L1 R1 hq => ?_)
      obtain ⟨rfl, rfl, f1, hq⟩ := hq
      have j1 : cQ8 o I I1 := cQ8_tr hK (fun k _ _ _ c _ => f1 k c)
      have e58 : I1 258 = K 258 := f1 258 (by decide)
      have e55 : I1 255 = K 255 := f1 255 (by decide)
      refine w_X8_pitchUmbrellas_151 ?_
      rcases hq with ⟨en, rfl⟩ | ⟨q, es, rfl, hq⟩
      · have fin := q0 I1 j1
        rw [uF_n en] at fin
        have fin := fin (by rw [e58]; exact hb2)
        exact w_X8_pitchUmbrellas_69 (fun _ => w_X8_pitchUmbrellas_159 fin) (fun _ => w_X8_pitchUmbrellas_77 (fun _ => w_X8_pitchUmbrellas_159 fin) (fun z => absurd rfl z))
      · refine ih (t + 1) _ q (uTr (uSn A f) k p st) I1 (by omega) x1 (uOk_nx h1 h3 ok es) hq (by rw [e58]; exact hb2) (fun i hi => by rw [e55, e5]; exact ht i hi) j1 (fun J' j b => ?_)
        have fin := q0 J' j
        rw [uF_s es] at fin
        exact fin b
    refine w_X8_pitchUmbrellas_69 (fun q => absurd (i_le.mp q) (by omega)) (fun _ => w_X8_pitchUmbrellas_77 (fun q => absurd q (by decide)) (fun _ => w_X8_pitchUmbrellas_82 (sPuB (d := d) r8 r10 hy h1 h3 ok hp ht (fun u => w_X8_pitchUmbrellas_117 (sBitC (d := d + 5) h6) (fun z I1 L1 R1 hq => ?_)))))
    obtain ⟨rfl, rfl, rfl, rfl⟩ := hq
    refine w_X8_pitchUmbrellas_122 (fun q => ?_) (fun q => w_X8_pitchUmbrellas_126 (sBitC (d := d + 5) h6) (fun z I1 L1 R1 hq => ?_))
    · have e : uTr (uSn A f) k p st = st := by
        unfold uTr
        rw [if_neg (fun z => by have := i_lt.mp z; have := i_le.mp q; omega)]
      have g := go u I1 hJ rfl rfl (by rw [e]; exact hbs)
      rw [e] at g
      exact g
    · obtain ⟨rfl, rfl, rfl, rfl⟩ := hq
      have e : uTr (uSn A f) k p st = (uCt (uSet (uSn A f) k p), p) := by
        unfold uTr
        rw [if_pos (i_lt.mpr (by have := nle q; omega))]
      have z0 : (0 : Int32).toInt = 0 := rfl
      refine w_X8_pitchUmbrellas_131 r10 r11 (fun z => by have := i_lt.mp z; omega) (by rw [show (0 : Int32).toNatClampNeg = 0 from rfl, cy, show (qSh 257).2 = 3 by decide +kernel]; omega) (by rw [show (0 : Int32).toNatClampNeg = 0 from rfl, cy, show (qSh 258).2 = 3 by decide +kernel]; omega) ?_
      rw [show (0 : Int32).toNatClampNeg = 0 from rfl, cy]
      have cp : ∀ i, i < k → va_cpy (I1 257) (I1 258) 0 0 k i = I1 257 i := fun i hi => by
        unfold va_cpy
        rw [if_pos ⟨Nat.zero_le _, by omega⟩, Nat.zero_add, Nat.sub_zero]
      have g := go u (qUpF I1 258 (va_cpy (I1 257) (I1 258) 0 0 k)) (cQ8_tr hJ (fun k _ _ _ _ c => qUpF_n _ _ c)) (qUpF_n _ _ (by decide)) (qUpF_n _ _ (by decide)) (by
        rw [e, qUpF_s]
        exact Or.inr ⟨(uCt_b h6).1, ok, by rw [cp 0 (by omega)]; exact hp.1, fun c => by rw [cp 1 c]; exact hp.2.1 c, fun c => by rw [cp 2 c]; exact hp.2.2 c⟩)
      rw [e] at g
      exact g
theorem sPitch (hs : cS o A f n h sl I R) (r8 : R 0 8 = some 255) (r10 : R 0 10 = some 257) (r11 : R 0 11 = some 258) {y : Int32} {k : Nat} (hy : y.toInt = k) (h1 : 1 ≤ k) (h3 : k ≤ 3) : wkCi l G (d + 7) n_X8_pitchUmbrellas [.ref 0, .int y] I L R (fun z I' L' R' => R' = R ∧ L' = L ∧ z = (uEnd A f k).1 ∧ cQ8 o I I' ∧ uBs (I' 258) k (uEnd A f k)) := by
  obtain ⟨⟨hL, hR, h12⟩, s1, -, -⟩ := id hs
  have e0 : I 21 0 = f 96 := sEq_at s1 (by omega) sI0
  refine wkC_of 6 (by decide) (Nat.le_of_ble_eq_true rfl) (w_X8_pitchUmbrellas_0 hL.1 h12 hR.1.1 (sHeat (d := d + 2) hL) (fun z I1 L1 R1 hq => ?_))
  obtain ⟨rfl, rfl, f1, rfl⟩ := hq
  rw [e0]
  refine w_X8_pitchUmbrellas_14 (sPuT (d := d) hs r8 rfl 20 0 0 I1 (by omega) rfl (cQ8_q f1) (fun i hi => absurd hi (Nat.not_lt_zero i)) (fun x' J' j g => w_X8_pitchUmbrellas_41 (sPuI (d := d) r10 hy h3 k 0 0 J' (by omega) rfl (fun i hi => absurd hi (Nat.not_lt_zero i)) (fun x2 J2 g1 g2 => ?_))))
  refine w_X8_pitchUmbrellas_61 (sPuM (d := d) hs r8 r10 r11 hy h1 h3 1140 0 0 (0, 1, 2) (-1, (0, 1, 2)) J2 (by omega) rfl ?_ ?_ (Or.inl rfl) (fun i hi => by rw [g1 255 (by decide)]; exact g i hi) (cQ8_tr j (fun k _ _ _ c _ => g1 k c)) (fun J3 j3 b => ⟨rfl, _, rfl, rfl, rfl, rfl, j3, b⟩))
  · exact ⟨by decide, by decide, by show 0 + k ≤ 20; omega, fun _ => by show 1 + k ≤ 21; omega, fun _ => by decide, fun _ => rfl, fun _ => rfl⟩
  · exact ⟨g2 0 (by omega), fun c => g2 1 c, fun c => g2 2 c⟩
theorem sUmb (hs : cS o A f n h sl I R) (r8 : R 0 8 = some 255) (r10 : R 0 10 = some 257) (r11 : R 0 11 = some 258) {y x : Int32} : wkCi l G (d + 8) n_X8_umbrellas [.ref 0, .int y, .int x] I L R (fun z I' L' R' => R' = R ∧ L' = L ∧ z = qUmb A f y x ∧ cS o A f n h sl I' R') := by
  have o1 : (1 : Int32).toInt = 1 := rfl
  have o3 : (3 : Int32).toInt = 3 := rfl
  have om : (-1 : Int32).toInt = -1 := rfl
  have hn2 := (cHas_n hs.1.1).1
  have bad : ¬ ((1 ≤ y.toInt ∧ y.toInt ≤ 3) ∧ -1 ≤ x.toInt ∧ x.toInt < y.toInt) → wkB l G (d + 7 + 1) n_X8_umbrellas (fun r t' I' L' R' => t' = 336 ∧ ∃ z, r = some (.int z) ∧ R' = R ∧ L' = L ∧ z = qUmb A f y x ∧ cS o A f n h sl I' R') 20 [.ref 0, .int y, .int x, wkU] [] I L R := fun c => w_X8_umbrellas_20 ⟨rfl, _, rfl, rfl, rfl, by unfold qUmb; rw [if_pos c], hs⟩
  refine wkC_of 1 (by decide) (Nat.le_of_ble_eq_true rfl) (w_X8_umbrellas_0 (fun q => bad (fun c => ?_)) (fun q1 => w_X8_umbrellas_5 (fun q => bad (fun c => ?_)) (fun q2 => w_X8_umbrellas_10 (fun q => bad (fun c => ?_)) (fun q3 => w_X8_umbrellas_15 (fun q4 => ?_) (fun q => bad (fun c => ?_))))))
  · have := i_lt.mp q
    omega
  · have := i_lt.mp q
    omega
  · have := i_lt.mp q
    omega
  · have q1 := nlt q1
    have q2 := nlt q2
    have q3 := nlt q3
    have q4 := i_lt.mp q4
    have c0 : (1 ≤ y.toInt ∧ y.toInt ≤ 3) ∧ -1 ≤ x.toInt ∧ x.toInt < y.toInt := ⟨⟨by omega, by omega⟩, by omega, q4⟩
    have hy : y.toInt = (y.toInt.toNat : Nat) := by omega
    refine w_X8_umbrellas_22 (sPitch (d := d) hs r8 r10 r11 hy (by omega) (by omega)) (fun z I1 L1 R1 hq => ?_)
    obtain ⟨rfl, rfl, rfl, j1, b1⟩ := hq
    have hs1 := cS_q8 hs j1
    refine w_X8_umbrellas_27 (fun q => w_X8_umbrellas_37 r11 (vin ?_ (by omega)) (w_X8_umbrellas_43 ⟨rfl, _, rfl, rfl, rfl, ?_, hs1⟩)) (fun q => w_X8_umbrellas_33 (w_X8_umbrellas_43 ⟨rfl, _, rfl, rfl, rfl, ?_, hs1⟩))
    · have : ¬ x.toInt = -1 := fun z => q (i_eq.mpr z)
      omega
    · have x0 : ¬ x.toInt = -1 := fun z => q (i_eq.mpr z)
      unfold qUmb
      rw [if_neg (fun z => z c0), if_neg q]
      exact uBs_at (by omega) (by omega) b1 (uEnd_ge (by omega) f _) (by omega) (by omega)
    · unfold qUmb
      rw [if_neg (fun z => z c0), if_pos q]
  · have q := nlt q
    omega
end
