/-! ===== within bounds: what goes on stays so ===== -/
theorem i_quo {x : Int32} (h0 : 0 ≤ x.toInt) : (x / 100).toInt = x.toInt / 100 := by
  rw [Int32.toInt_div, show (100 : Int32).toInt = 100 from rfl, Int.tdiv_eq_ediv_of_nonneg h0, Int.bmod_def]
  have := i_hi x
  split <;> omega
theorem mnIn {x : Int32} (h : 0 ≤ x.toInt) : wIn 0 x 99999 = if x < 99999 then x else 99999 := by
  have z0 : (0 : Int32).toInt = 0 := rfl
  have z9 : (99999 : Int32).toInt = 99999 := rfl
  rw [wIn_h (by decide), if_neg (fun z => by have := i_lt.mp z; omega)]
  by_cases c : (99999 : Int32) < x
  · rw [if_pos c, if_neg (fun z => by have := i_lt.mp z; have := i_lt.mp c; omega)]
  · rw [if_neg c]
    have c := nlt c
    by_cases c2 : x < 99999
    · rw [if_pos c2]
    · rw [if_neg c2]
      have c2 := nlt c2
      exact i_eq.mpr (by omega)
def aOk (A : aD) : Prop := (A.1.length ≤ 6 ∧ A.2.1.length ≤ 6) ∧ (∀ e, e < A.1.length → bnd (tX A e)) ∧ (∀ p ∈ A.2.1, bnd p.1 ∧ 0 ≤ p.2.toInt ∧ p.2.toInt ≤ 999) ∧ 0 ≤ (A.2.2.1 10).toInt ∧ (A.2.2.1 10).toInt ≤ 23
def fOk (A : aD) (f : Nat → Int32) : Prop := (∀ a, a < 6 → bnd (f a)) ∧ (∀ a, a < 6 → 0 ≤ (f (6 + a)).toInt ∧ (f (6 + a)).toInt ≤ 99999) ∧ (∀ k, k < 36 → 0 ≤ (f (24 + k)).toInt ∧ (f (24 + k)).toInt ≤ 99999) ∧ (∀ k, k < 36 → f (24 + k) = 0 → f (60 + k) = 0) ∧ ∀ a e, a < 6 → e < 6 → ¬ (a < A.2.1.length ∧ e < A.1.length) → f (24 + (6 * a + e)) = 0
section
variable {A : aD} {f g : Nat → Int32}
theorem pRt_b {h w x tx tl n : Int32} : 0 ≤ (pRt A h w x tx tl n).toInt ∧ (pRt A h w x tx tl n).toInt ≤ 99 := wIn_b (a := 0) (b := 99) (by decide)
theorem pIn_b {h w n : Int32} : 0 ≤ (pIn A h w n).toInt ∧ (pIn A h w n).toInt ≤ 99 := wIn_b (a := 0) (b := 99) (by decide)
theorem grow_b {n h w : Int32} (h0 : 0 ≤ n.toInt) (h1 : n.toInt ≤ 99999) : n.toInt ≤ (n + n * pIn A h w n / 100).toInt ∧ (n + n * pIn A h w n / 100).toInt ≤ 199998 := by
  have b := pIn_b (A := A) (h := h) (w := w) (n := n)
  have mm : 0 ≤ n.toInt * (pIn A h w n).toInt ∧ n.toInt * (pIn A h w n).toInt ≤ 99999 * 99 := ⟨Int.mul_nonneg h0 b.1, Int.le_trans (Int.mul_le_mul_of_nonneg_right h1 b.1) (Int.mul_le_mul_of_nonneg_left b.2 (by decide))⟩
  have m : (n * pIn A h w n).toInt = n.toInt * (pIn A h w n).toInt := i_mul (by omega) (by omega)
  have q : (n * pIn A h w n / 100).toInt = n.toInt * (pIn A h w n).toInt / 100 := by rw [i_quo (by omega), m]
  generalize n.toInt * (pIn A h w n).toInt = z at mm q
  have : (n + n * pIn A h w n / 100).toInt = n.toInt + z / 100 := by rw [i_add (by omega) (by omega), q]
  omega
theorem min_b {x : Int32} (h0 : 0 ≤ x.toInt) : 0 ≤ (if x < 99999 then x else 99999 : Int32).toInt ∧ (if x < 99999 then x else 99999 : Int32).toInt ≤ 99999 := by
  have z9 : (99999 : Int32).toInt = 99999 := rfl
  split
  · rename_i c
    have := i_lt.mp c
    omega
  · omega
theorem fOk_up {k : Nat} {x : Int32} (h : fOk A f) (hk : (12 ≤ k ∧ k < 24) ∨ 96 ≤ k) : fOk A (tU f k x) := by
  obtain ⟨h1, h2, h3, h4, h5⟩ := h
  exact ⟨fun a ha => by rw [tU_o (by omega)]; exact h1 a ha, fun a ha => by rw [tU_o (by omega)]; exact h2 a ha, fun j hj => by rw [tU_o (by omega)]; exact h3 j hj, fun j hj q => by rw [tU_o (by omega)] at q ⊢; exact h4 j hj q, fun a e' ha he q => by rw [tU_o (by omega)]; exact h5 a e' ha he q⟩
theorem fOk_x {k : Nat} {x : Int32} (h : fOk A f) (hk : k < 6) (hx : bnd x) : fOk A (tU f k x) := by
  obtain ⟨h1, h2, h3, h4, h5⟩ := h
  refine ⟨fun a ha => ?_, fun a ha => by rw [tU_o (by omega)]; exact h2 a ha, fun j hj => by rw [tU_o (by omega)]; exact h3 j hj, fun j hj q => by rw [tU_o (by omega)] at q ⊢; exact h4 j hj q, fun a e' ha he q => by rw [tU_o (by omega)]; exact h5 a e' ha he q⟩
  by_cases c : a = k
  · rw [c, tU_s]; exact hx
  · rw [tU_o c]; exact h1 a ha
theorem fOk_c {k : Nat} {x : Int32} (h : fOk A f) (hk : k < 6) (hx : 0 ≤ x.toInt ∧ x.toInt ≤ 99999) : fOk A (tU f (6 + k) x) := by
  obtain ⟨h1, h2, h3, h4, h5⟩ := h
  refine ⟨fun a ha => by rw [tU_o (by omega)]; exact h1 a ha, fun a ha => ?_, fun j hj => by rw [tU_o (by omega)]; exact h3 j hj, fun j hj q => by rw [tU_o (by omega)] at q ⊢; exact h4 j hj q, fun a e' ha he q => by rw [tU_o (by omega)]; exact h5 a e' ha he q⟩
  by_cases c : a = k
  · rw [c, tU_s]; exact hx
  · rw [tU_o (by omega)]; exact h2 a ha
/-- a loan and how long it is unseen, both told anew -/
theorem fOk_l {a e : Nat} {x y : Int32} (h : fOk A f) (ha : a < 6) (he : e < 6) (hx : 0 ≤ x.toInt ∧ x.toInt ≤ 99999) (hy : x = 0 → y = 0) (hin : (a < A.2.1.length ∧ e < A.1.length) ∨ x = 0) (hg : ∀ k, k < 96 → g k = if k = 24 + (6 * a + e) then x else if k = 60 + (6 * a + e) then y else f k) : fOk A g := by
  obtain ⟨h1, h2, h3, h4, h5⟩ := h
  refine ⟨fun b hb => ?_, fun b hb => ?_, fun j hj => ?_, fun j hj q => ?_, fun b c hb hc q => ?_⟩
  · rw [hg _ (by omega), if_neg (by omega), if_neg (by omega)]; exact h1 b hb
  · rw [hg _ (by omega), if_neg (by omega), if_neg (by omega)]; exact h2 b hb
  · rw [hg _ (by omega)]
    by_cases z : j = 6 * a + e
    · rw [if_pos (by omega)]; exact hx
    · rw [if_neg (by omega), if_neg (by omega)]; exact h3 j hj
  · rw [hg _ (by omega)] at q ⊢
    by_cases z : j = 6 * a + e
    · rw [if_pos (by omega)] at q
      rw [if_neg (by omega), if_pos (by omega)]
      exact hy q
    · rw [if_neg (by omega), if_neg (by omega)] at q
      rw [if_neg (by omega), if_neg (by omega)]
      exact h4 j hj q
  · rw [hg _ (by omega)]
    by_cases z : 6 * b + c = 6 * a + e
    · rw [if_pos (by omega)]
      rcases hin with w | w
      · exact absurd w (by
          have : b = a := by omega
          have : c = e := by omega
          subst b c
          exact q)
      · exact w
    · rw [if_neg (by omega), if_neg (by omega)]; exact h5 b c hb hc q
theorem fOk_ln {w wd : Int32} {a e : Nat} (ha : a < A.2.1.length) (he : e < A.1.length) (ha6 : a < 6) (he6 : e < 6) (h : fOk A f) : fOk A (sLn A w wd a e f) := by
  obtain ⟨h1, h2, h3, h4, h5⟩ := id h
  have l := h3 (6 * a + e) (by omega)
  unfold sLn
  split
  · exact h
  rename_i c0
  have lpos : 0 < (f (24 + (6 * a + e))).toInt := by
    have : (f (24 + (6 * a + e))).toInt ≠ 0 := fun z => c0 (i_eq.mpr z)
    omega
  split
  · have r := pRt_b (A := A) (h := f 96) (w := w) (x := f a) (tx := tX A e) (tl := tT A e) (n := f (24 + (6 * a + e)))
    have c := h2 a ha6
    have s : (f (6 + a) + pRt A (f 96) w (f a) (tX A e) (tT A e) (f (24 + (6 * a + e)))).toInt = (f (6 + a)).toInt + (pRt A (f 96) w (f a) (tX A e) (tT A e) (f (24 + (6 * a + e)))).toInt := i_add (by omega) (by omega)
    have k1 := fOk_c (k := a) h ha6 (min_b (x := f (6 + a) + pRt A (f 96) w (f a) (tX A e) (tT A e) (f (24 + (6 * a + e)))) (by omega))
    have k2 := fOk_up (k := 18 + a) (x := f (18 + a) + pRt A (f 96) w (f a) (tX A e) (tT A e) (f (24 + (6 * a + e)))) k1 (by omega)
    refine fOk_l (x := f (24 + (6 * a + e))) (y := 0) k2 ha6 he6 l (fun _ => rfl) (Or.inl ⟨ha, he⟩) (fun k hk => ?_)
    by_cases z1 : k = 24 + (6 * a + e)
    · rw [if_pos z1, z1, tU_o (by omega), tU_o (by omega), tU_o (by omega)]
    · rw [if_neg z1]
      by_cases z2 : k = 60 + (6 * a + e)
      · rw [if_pos z2, z2, tU_s]
      · rw [if_neg z2, tU_o z2]
  split
  · have gb := grow_b (A := A) (h := f 96) (w := w) l.1 l.2
    have mb := min_b (x := f (24 + (6 * a + e)) + f (24 + (6 * a + e)) * pIn A (f 96) w (f (24 + (6 * a + e))) / 100) (by omega)
    refine fOk_l (x := if f (24 + (6 * a + e)) + f (24 + (6 * a + e)) * pIn A (f 96) w (f (24 + (6 * a + e))) / 100 < 99999 then f (24 + (6 * a + e)) + f (24 + (6 * a + e)) * pIn A (f 96) w (f (24 + (6 * a + e))) / 100 else 99999) (y := f (60 + (6 * a + e)) + 1) h ha6 he6 mb (fun z => ?_) (Or.inl ⟨ha, he⟩) (fun k hk => ?_)
    · exfalso
      have z := i_eq.mp z
      rw [show (0 : Int32).toInt = 0 from rfl] at z
      split at z
      · omega
      · rw [show (99999 : Int32).toInt = 99999 from rfl] at z
        omega
    · by_cases z1 : k = 24 + (6 * a + e)
      · rw [if_pos z1, z1, tU_s]
      · rw [if_neg z1, tU_o z1]
        by_cases z2 : k = 60 + (6 * a + e)
        · rw [if_pos z2, z2, tU_s]
        · rw [if_neg z2, tU_o z2]
  · refine fOk_up ?_ (by omega)
    refine fOk_l (x := 0) (y := 0) h ha6 he6 (by decide) (fun _ => rfl) (Or.inr rfl) (fun k hk => ?_)
    by_cases z2 : k = 60 + (6 * a + e)
    · rw [z2, tU_s, if_neg (by omega), if_pos rfl]
    · rw [tU_o z2]
      by_cases z1 : k = 24 + (6 * a + e)
      · rw [if_pos z1, z1, tU_s]
      · rw [if_neg z1, if_neg z2, tU_o z1, tU_o z2]
theorem fOk_th (hA : aOk A) {w wd : Int32} {a : Nat} (ha : a < A.2.1.length) : ∀ (n e : Nat) (f : Nat → Int32), e + n ≤ A.1.length → fOk A f → fOk A (sTh A w wd a n e f)
  | 0, _, _, _, h => h
  | n + 1, e, f, hn, h => by
    have := hA.1
    rw [sTh]
    exact fOk_th hA ha n (e + 1) _ (by omega) (fOk_ln ha (by omega) (by omega) (by omega) h)
theorem fOk_st (hA : aOk A) {w wd : Int32} : ∀ (n a : Nat) (f : Nat → Int32), a + n ≤ A.2.1.length → fOk A f → fOk A (sSt A w wd n a f)
  | 0, _, _, _, h => h
  | n + 1, a, f, hn, h => by
    rw [sSt]
    exact fOk_st hA n (a + 1) _ (by omega) (fOk_th hA (by omega) _ 0 _ (by omega) h)
theorem fOk_hr (hA : aOk A) {s wn : Int32} (h : fOk A f) : fOk A (sHr A s wn f) := fOk_up (fOk_st hA _ 0 _ (by omega) h) (by omega)
theorem fOk_go (hA : aOk A) {s wn : Int32} : ∀ (n : Nat) (f : Nat → Int32), fOk A f → fOk A (sGo A s wn n f)
  | 0, _, h => h
  | n + 1, f, h => by rw [sGo]; exact fOk_go hA n _ (fOk_hr hA h)
end
