/-! ===== the reference's laws: what makes their rows safe to be reckoned ===== -/
/-- n steps from c on, with so many on the pile -/
def zrpn (cd ci : Nat → Int32) : Nat → Nat → Nat → Prop
  | 0, _, _ => True
  | n + 1, c, top => if cd c < 2 then (top < 400 ∧ (cd c ≠ 0 → vp_in (ci c) 9)) ∧ zrpn cd ci n (c + 1) (top + 1) else 2 ≤ top ∧ cd c ≤ 5 ∧ zrpn cd ci n (c + 1) (top - 1)
def zseg (I : qMI) (f t : Int32) : Prop := f < t → (0 ≤ f ∧ t.toInt ≤ 840) ∧ zrpn (I 318) (I 319) (t.toInt - f.toInt).toNat f.toInt.toNat 0
def zbra (I : qMI) (b : Nat) : Prop := (I 313 b ≠ 0 → zseg I (I 314 b) (I 315 b) ∧ zseg I (I 315 b) (I 316 b)) ∧ zseg I (I 316 b) (I 317 b)
def zlaw (I : qMI) (at_ : Nat) : Prop := I 311 at_ < I 312 at_ → (0 ≤ I 311 at_ ∧ (I 312 at_).toInt ≤ 260) ∧ ∀ b : Nat, (I 311 at_).toInt ≤ b → (b : Int) < (I 312 at_).toInt → zbra I b
def zside (I : qMI) (s : Nat) : Prop := ∀ k, k < 5 → zlaw I (5 * s + k)
/-- all of a side's laws lies in that side's rows -/
def zregB (I : qMI) (s b : Nat) : Prop := (I 313 b ≠ 0 → (420 * s ≤ (I 314 b).toInt ∧ (I 315 b).toInt ≤ 420 * s + 420) ∧ 420 * s ≤ (I 315 b).toInt ∧ (I 316 b).toInt ≤ 420 * s + 420) ∧ 420 * s ≤ (I 316 b).toInt ∧ (I 317 b).toInt ≤ 420 * s + 420
def zreg (I : qMI) (s : Nat) : Prop := ∀ k, k < 5 → I 311 (5 * s + k) < I 312 (5 * s + k) → (130 * s ≤ (I 311 (5 * s + k)).toInt ∧ (I 312 (5 * s + k)).toInt ≤ 130 * s + 130) ∧ ∀ b : Nat, (I 311 (5 * s + k)).toInt ≤ b → (b : Int) < (I 312 (5 * s + k)).toInt → zregB I s b
def zGood (gh : zGh) : Prop := (gh.1 292 18 = 0 ∧ zside gh.1 0 ∧ zreg gh.1 0) ∨ (gh.1 292 18 = 1 ∧ zside gh.1 1 ∧ zreg gh.1 1)
def zUN : List Nat := [311, 312, 313, 314, 315, 316, 317, 318, 319]
theorem zside_congr {I J : qMI} (h : ∀ x ∈ zUN, I x = J x) {s : Nat} (hs : zside J s) : zside I s := by
  have e1 : I 311 = J 311 := h 311 (by decide)
  have e2 : I 312 = J 312 := h 312 (by decide)
  have e3 : I 313 = J 313 := h 313 (by decide)
  have e4 : I 314 = J 314 := h 314 (by decide)
  have e5 : I 315 = J 315 := h 315 (by decide)
  have e6 : I 316 = J 316 := h 316 (by decide)
  have e7 : I 317 = J 317 := h 317 (by decide)
  have e8 : I 318 = J 318 := h 318 (by decide)
  have e9 : I 319 = J 319 := h 319 (by decide)
  intro k hk
  have := hs k hk
  unfold zlaw zbra zseg at this ⊢
  rw [e1, e2, e3, e4, e5, e6, e7, e8, e9]
  exact this
theorem zreg_congr {I J : qMI} (h : ∀ x ∈ zUN, I x = J x) {s : Nat} (hs : zreg J s) : zreg I s := by
  have e1 : I 311 = J 311 := h 311 (by decide)
  have e2 : I 312 = J 312 := h 312 (by decide)
  have e3 : I 313 = J 313 := h 313 (by decide)
  have e4 : I 314 = J 314 := h 314 (by decide)
  have e5 : I 315 = J 315 := h 315 (by decide)
  have e6 : I 316 = J 316 := h 316 (by decide)
  have e7 : I 317 = J 317 := h 317 (by decide)
  intro k hk
  have := hs k hk
  unfold zregB at this ⊢
  rw [e1, e2, e3, e4, e5, e6, e7]
  exact this
theorem zGood_ok : zGd zUN zGood := by
  intro gh I L R hg hu hj
  have h18 : I 292 18 = gh.1 292 18 := hj 18 (by decide)
  have hc := fun x hx => (hu x hx).1
  rcases hg with ⟨h1, h2, h3⟩ | ⟨h1, h2, h3⟩
  · exact Or.inl ⟨h18.trans h1, zside_congr hc h2, zreg_congr hc h3⟩
  · exact Or.inr ⟨h18.trans h1, zside_congr hc h2, zreg_congr hc h3⟩
