/-! ===== what a flat's account tells: only the nine variables count ===== -/
theorem aEv_cg {e e' : Nat → Int32} (h : ∀ j, j < 9 → e j = e' j) : ∀ (w : pC) (st : List Int32), (∀ c ∈ w, aC c) → aEv e w st = aEv e' w st
  | [], _, _ => rfl
  | c :: w, st, hw => by
    have e1 : aSt e c st = aSt e' c st := by
      unfold aSt
      by_cases c0 : c.1 = 0
      · rw [if_pos c0, if_pos c0]
      · rw [if_neg c0, if_neg c0]
        by_cases c1 : c.1 = 1
        · rw [if_pos c1, if_pos c1]
          rcases hw c List.mem_cons_self with q | ⟨-, q1, q2⟩ | ⟨q1, q2⟩
          · exact absurd q c0
          · rw [h _ (by omega)]
          · rw [c1] at q1
            exact absurd q1 (by decide)
        · rw [if_neg c1, if_neg c1]
    rw [aEv, aEv, e1]
    cases aSt e' c st with
    | none => rfl
    | some s => exact aEv_cg h w s (fun c hc => hw c (List.mem_cons_of_mem _ hc))
theorem aVal_cg {e e' : Nat → Int32} (h : ∀ j, j < 9 → e j = e' j) {w : pC} (hw : ∃ f, aX w 15 f) : aVal e w = aVal e' w := by
  obtain ⟨f, hf⟩ := hw
  unfold aVal
  rw [aEv_cg h w [] hf.1]
theorem aRun_cg {e e' : Nat → Int32} (h : ∀ j, j < 9 → e j = e' j) {last : pC} (hl : ∃ f, aX last 15 f) : ∀ (brs : List (pC × pC × pC)), (∀ b ∈ brs, (∃ f, aX b.1 15 f) ∧ (∃ f, aX b.2.1 15 f) ∧ ∃ f, aX b.2.2 15 f) → aRun e brs last = aRun e' brs last
  | [], _ => by rw [aRun, aRun, aVal_cg h hl]
  | b :: r, hb => by
    obtain ⟨h1, h2, h3⟩ := hb b List.mem_cons_self
    rw [aRun, aRun, aVal_cg h h1, aVal_cg h h2, aVal_cg h h3, aRun_cg h hl r (fun b hb' => hb b (List.mem_cons_of_mem _ hb'))]
def aTl (A : aD) (n : Nat) (e : Nat → Int32) : Int32 := aRun e (A.2.2.2 n).1 (A.2.2.2 n).2
theorem aTl_cg {A : aD} {n : Nat} {e e' : Nat → Int32} (hw : aWf (A.2.2.2 n)) (h : ∀ j, j < 9 → e j = e' j) : aTl A n e = aTl A n e' := aRun_cg h hw.2 _ hw.1
/-- held between two -/
def wIn (a v b : Int32) : Int32 := if a < (if b < v then b else v) then (if b < v then b else v) else a
theorem nlt {x y : Int32} (h : ¬ x < y) : ¬ x.toInt < y.toInt := fun q => h (i_lt.mpr q)
theorem nle {x y : Int32} (h : ¬ x ≤ y) : ¬ x.toInt ≤ y.toInt := fun q => h (i_le.mpr q)
theorem wIn_b {a v b : Int32} (h : a.toInt ≤ b.toInt) : a.toInt ≤ (wIn a v b).toInt ∧ (wIn a v b).toInt ≤ b.toInt := by
  unfold wIn
  by_cases c : b < v
  · rw [if_pos c]
    split <;> omega
  · rw [if_neg c]
    have c := nlt c
    split
    · rename_i q
      have := i_lt.mp q
      omega
    · omega
theorem wIn_h {a v b : Int32} (h : a.toInt ≤ b.toInt) : wIn a v b = if v < a then a else if b < v then b else v := by
  unfold wIn
  by_cases c : b < v
  · have d : ¬ v < a := fun q => by have := i_lt.mp q; have := i_lt.mp c; omega
    rw [if_pos c, if_neg d]
    split
    · rfl
    · rename_i q
      have q := nlt q
      exact i_eq.mpr (by omega)
  · rw [if_neg c]
    by_cases q : v < a
    · rw [if_pos q, if_neg (fun z => by have := i_lt.mp z; have := i_lt.mp q; omega)]
    · rw [if_neg q]
      have q := nlt q
      split
      · rfl
      · rename_i z
        have z := nlt z
        exact i_eq.mpr (by omega)
/-- the variables of the hour -/
def eTime (h : Int32) (j : Nat) : Int32 := if j = 0 then h - h / 24 * 24 else if j = 1 then h / 24 else 0
def eAim (h w x tx tl : Int32) (j : Nat) : Int32 := if j = 0 then h - h / 24 * 24 else if j = 1 then h / 24 else if j = 2 then w else if j = 3 then (if 0 ≤ tx - x then tx - x else 0 - (tx - x)) else if j = 4 then tl else if j = 5 then tx else if j = 6 then 0 else if j = 7 then (if tx ≤ x then 0 else 1) else x
def eLnt (e : Nat → Int32) (n : Int32) (j : Nat) : Int32 := if j = 6 then n else e j
def eWrm (e : Nat → Int32) (w : Int32) (j : Nat) : Int32 := if j = 2 then w else e j
def pHt (A : aD) (h : Int32) : Int32 := wIn 0 (aTl A 0 (eTime h)) 99
/-- of a place and how tall: seen, moved, where, rent -/
abbrev pSe (A : aD) (h w x tx tl : Int32) : Prop := 0 < aTl A 1 (eAim h w x tx tl)
def pMv (A : aD) (h w x tx tl : Int32) : Int32 := wIn (-9) (aTl A 2 (eAim h w x tx tl)) 9
def pSp (A : aD) (h w x tx tl : Int32) : Int32 := if 0 < aTl A 1 (eAim h w x tx tl) then wIn 0 (tx + (if tx < x then - pMv A h w x tx tl else pMv A h w x tx tl)) 19 else -1
def pRt (A : aD) (h w x tx tl n : Int32) : Int32 := wIn 0 (aTl A 3 (eLnt (eAim h w x tx tl) n)) 99
def pIn (A : aD) (h w n : Int32) : Int32 := wIn 0 (aTl A 4 (eLnt (eWrm (eTime h) w) n)) 99
def tX (A : aD) (e : Nat) : Int32 := (A.1.getD e (0, 0)).1
def tT (A : aD) (e : Nat) : Int32 := (A.1.getD e (0, 0)).2
/-! ===== all that goes on: 97 numbers; an hour ===== -/
def sLn (A : aD) (w wd : Int32) (a e : Nat) (f : Nat → Int32) : Nat → Int32 :=
  if f (24 + (6 * a + e)) = 0 then f
  else if wd = 0 ∧ pSe A (f 96) w (f a) (tX A e) (tT A e) then
    tU (tU (tU f (6 + a) (if f (6 + a) + pRt A (f 96) w (f a) (tX A e) (tT A e) (f (24 + (6 * a + e))) < 99999 then f (6 + a) + pRt A (f 96) w (f a) (tX A e) (tT A e) (f (24 + (6 * a + e))) else 99999)) (18 + a) (f (18 + a) + pRt A (f 96) w (f a) (tX A e) (tT A e) (f (24 + (6 * a + e))))) (60 + (6 * a + e)) 0
  else if f (60 + (6 * a + e)) + 1 < A.2.2.1 8 then
    tU (tU f (60 + (6 * a + e)) (f (60 + (6 * a + e)) + 1)) (24 + (6 * a + e)) (if f (24 + (6 * a + e)) + f (24 + (6 * a + e)) * pIn A (f 96) w (f (24 + (6 * a + e))) / 100 < 99999 then f (24 + (6 * a + e)) + f (24 + (6 * a + e)) * pIn A (f 96) w (f (24 + (6 * a + e))) / 100 else 99999)
  else tU (tU (tU (tU f (60 + (6 * a + e)) (f (60 + (6 * a + e)) + 1)) (24 + (6 * a + e)) 0) (60 + (6 * a + e)) 0) (12 + a) (f (12 + a) + 1)
def sTh (A : aD) (w wd : Int32) (a : Nat) : Nat → Nat → (Nat → Int32) → Nat → Int32
  | 0, _, f => f
  | n + 1, e, f => sTh A w wd a n (e + 1) (sLn A w wd a e f)
def sSt (A : aD) (w wd : Int32) : Nat → Nat → (Nat → Int32) → Nat → Int32
  | 0, _, f => f
  | n + 1, a, f => sSt A w wd n (a + 1) (sTh A w wd a A.1.length 0 f)
def stP (h it : Int32) : Int32 := ((((h ^^^ it) * 1103515245) + 12345) ^^^ (((((h ^^^ it) * 1103515245) + 12345).toUInt32 >>> ((15 : Int32).toUInt32 &&& Int32.toUInt32 31)).toInt32))
def loP (s w : Int32) : Int32 := (((stP (stP s 119) w).toUInt32 >>> ((1 : Int32).toUInt32 &&& Int32.toUInt32 31)).toInt32) - (((stP (stP s 119) w).toUInt32 >>> ((1 : Int32).toUInt32 &&& Int32.toUInt32 31)).toInt32) / 100 * 100
/-- a wind: 1, else 0 -/
def wdP (s wn h : Int32) : Int32 := if wn ≤ loP s (4 * h) then 0 else 1
def sHr (A : aD) (s wn : Int32) (f : Nat → Int32) : Nat → Int32 := tU (sSt A (pHt A (f 96)) (wdP s wn (f 96)) A.2.1.length 0 f) 96 ((sSt A (pHt A (f 96)) (wdP s wn (f 96)) A.2.1.length 0 f) 96 + 1)
def sGo (A : aD) (s wn : Int32) : Nat → (Nat → Int32) → Nat → Int32
  | 0, f => f
  | n + 1, f => sGo A s wn n (sHr A s wn f)
theorem tU_s {f : Nat → Int32} {k : Nat} {x : Int32} : tU f k x k = x := by unfold tU; rw [if_pos rfl]
theorem tU_o {f : Nat → Int32} {k j : Nat} {x : Int32} (h : j ≠ k) : tU f k x j = f j := by unfold tU; rw [if_neg h]
theorem sLn_96 (A : aD) (w wd : Int32) {a e : Nat} (ha : a < 6) (he : e < 6) (f : Nat → Int32) : sLn A w wd a e f 96 = f 96 := by
  unfold sLn
  split
  · rfl
  · split
    · rw [tU_o (by omega), tU_o (by omega), tU_o (by omega)]
    · split
      · rw [tU_o (by omega), tU_o (by omega)]
      · rw [tU_o (by omega), tU_o (by omega), tU_o (by omega), tU_o (by omega)]
theorem sTh_96 (A : aD) (w wd : Int32) {a : Nat} (ha : a < 6) : ∀ (n e : Nat) (f : Nat → Int32), e + n ≤ 6 → sTh A w wd a n e f 96 = f 96
  | 0, _, _, _ => rfl
  | n + 1, e, f, h => by rw [sTh, sTh_96 A w wd ha n (e + 1) _ (by omega), sLn_96 A w wd ha (by omega)]
/-! ===== where the class has them ===== -/
def sJx (k : Nat) : Nat × Nat := if k < 6 then (1, k) else if k < 12 then (2, k - 6) else if k < 18 then (3, k - 12) else if k < 24 then (4, k - 18) else if k < 60 then (5, k - 24) else if k < 96 then (6, k - 60) else (0, 0)
theorem sJx_i {k j : Nat} (hk : k < 97) (hj : j < 97) (h : sJx k = sJx j) : k = j := by
  have all : ∀ k, k < 97 → ∀ j, j < 97 → sJx k = sJx j → k = j := by decide +kernel
  exact all k hk j hj h
def sEq (I : qMI) (b : Nat) (f : Nat → Int32) : Prop := ∀ k, k < 97 → I (b + (sJx k).1) (sJx k).2 = f k
theorem sEq_at {I : qMI} {b : Nat} {f : Nat → Int32} (h : sEq I b f) {k c i : Nat} (hk : k < 97) (e : sJx k = (c, i)) : I (b + c) i = f k := by
  have := h k hk
  rw [e] at this
  exact this
theorem sEq_up {I : qMI} {b : Nat} {f : Nat → Int32} (h : sEq I b f) {k c i : Nat} {x : Int32} (hk : k < 97) (e : sJx k = (c, i)) : sEq (qUp I (b + c) i x) b (tU f k x) := by
  intro j hj
  rw [qUp_at]
  unfold tU
  by_cases q : j = k
  · rw [if_pos q, q, e, if_pos ⟨rfl, rfl⟩]
  · rw [if_neg q, if_neg (fun z => q (sJx_i hj hk (by rw [e]; exact Prod.ext (by show (sJx j).1 = c; omega) z.2)))]
    exact h j hj
theorem sEq_of {I J : qMI} {b : Nat} {f : Nat → Int32} (h : sEq I b f) (e : ∀ k, b ≤ k → k ≤ b + 6 → J k = I k) : sEq J b f := by
  intro k hk
  have : (sJx k).1 ≤ 6 := by
    have all : ∀ k, k < 97 → (sJx k).1 ≤ 6 := by decide +kernel
    exact all k hk
  rw [e _ (by omega) (by omega)]
  exact h k hk
theorem sEq_eq {I : qMI} {b : Nat} {f g : Nat → Int32} (h : sEq I b f) (e : ∀ k, k < 97 → f k = g k) : sEq I b g := fun k hk => (h k hk).trans (e k hk)
theorem sI1 {a : Nat} (h : a < 6) : sJx a = (1, a) := by unfold sJx; rw [if_pos h]
theorem sI2 {a : Nat} (h : a < 6) : sJx (6 + a) = (2, a) := by unfold sJx; rw [if_neg (by omega), if_pos (by omega), show 6 + a - 6 = a by omega]
theorem sI3 {a : Nat} (h : a < 6) : sJx (12 + a) = (3, a) := by unfold sJx; rw [if_neg (by omega), if_neg (by omega), if_pos (by omega), show 12 + a - 12 = a by omega]
theorem sI4 {a : Nat} (h : a < 6) : sJx (18 + a) = (4, a) := by unfold sJx; rw [if_neg (by omega), if_neg (by omega), if_neg (by omega), if_pos (by omega), show 18 + a - 18 = a by omega]
theorem sI5 {a : Nat} (h : a < 36) : sJx (24 + a) = (5, a) := by unfold sJx; rw [if_neg (by omega), if_neg (by omega), if_neg (by omega), if_neg (by omega), if_pos (by omega), show 24 + a - 24 = a by omega]
theorem sI6 {a : Nat} (h : a < 36) : sJx (60 + a) = (6, a) := by unfold sJx; rw [if_neg (by omega), if_neg (by omega), if_neg (by omega), if_neg (by omega), if_neg (by omega), if_pos (by omega), show 60 + a - 60 = a by omega]
theorem sI0 : sJx 96 = (0, 0) := rfl
