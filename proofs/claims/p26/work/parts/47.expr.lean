/-! ===== the reference's expressions: what waits, what was emitted ===== -/
/-- what waits, the last one first -/
def yW (w : Nat → Int32) : List Int32 → Prop
  | [] => True
  | x :: r => w r.length = x ∧ yW w r
theorem yW_congr {w w' : Nat → Int32} : ∀ {ws : List Int32}, (∀ i, i < ws.length → w' i = w i) → yW w ws → yW w' ws
  | [], _, _ => trivial
  | x :: r, h, q => ⟨(h r.length (by simp)).trans q.1, yW_congr (fun i hi => h i (by simp; omega)) q.2⟩
def yOps : List Int32 → Nat
  | [] => 0
  | x :: r => (if x = 6 then 0 else 1) + yOps r
def yOpn : List Int32 → Nat
  | [] => 0
  | x :: r => (if x = 6 then 1 else 0) + yOpn r
theorem yOps_c {w : Int32} {r : List Int32} (h : w ≠ 6) : yOps (w :: r) = yOps r + 1 := by
  show (if w = 6 then 0 else 1) + yOps r = _
  rw [if_neg h]; omega
theorem yOpn_c {w : Int32} {r : List Int32} (h : w ≠ 6) : yOpn (w :: r) = yOpn r := by
  show (if w = 6 then 1 else 0) + yOpn r = _
  rw [if_neg h]; omega
theorem yOps_6 {r : List Int32} : yOps (6 :: r) = yOps r := by
  show (if (6 : Int32) = 6 then 0 else 1) + yOps r = _
  rw [if_pos rfl]; omega
theorem yOpn_6 {r : List Int32} : yOpn (6 :: r) = yOpn r + 1 := by
  show (if (6 : Int32) = 6 then 1 else 0) + yOpn r = _
  rw [if_pos rfl]; omega
theorem yOps_len : ∀ ws : List Int32, yOps ws ≤ ws.length
  | [] => Nat.le_refl _
  | x :: r => by
    have := yOps_len r
    unfold yOps
    rw [List.length_cons]
    split <;> omega
def yGp : List Int32 → Prop
  | [] => True
  | x :: _ => x = 6
def yGm : List Int32 → Prop
  | [] => True
  | x :: _ => x = 6 ∨ x = 8 ∨ x = 9
/-- between two that open: at most one that adds, then one that multiplies -/
def yOkw : List Int32 → Prop
  | [] => True
  | x :: r => (x = 6 ∨ ((x = 8 ∨ x = 9) ∧ yGp r) ∨ ((x = 10 ∨ x = 15) ∧ yGm r)) ∧ yOkw r
theorem yLen : ∀ {ws : List Int32}, yOkw ws → (yGp ws → ws.length ≤ 3 * yOpn ws) ∧ (yGm ws → ws.length ≤ 3 * yOpn ws + 1) ∧ ws.length ≤ 3 * yOpn ws + 2
  | [], _ => ⟨fun _ => Nat.le_refl _, fun _ => by simp, by simp⟩
  | x :: r, ⟨hx, hr⟩ => by
    obtain ⟨h1, h2, h3⟩ := yLen hr
    rw [List.length_cons]
    unfold yOpn
    rcases hx with rfl | ⟨hx, hg⟩ | ⟨hx, hg⟩
    · rw [if_pos rfl]
      exact ⟨fun _ => by omega, fun _ => by omega, by omega⟩
    · have h1 := h1 hg
      have hne : ¬ x = 6 := by rcases hx with rfl | rfl <;> decide
      rw [if_neg hne]
      exact ⟨fun q => absurd q hne, fun _ => by omega, by omega⟩
    · have h2 := h2 hg
      have hne : ¬ x = 6 := by rcases hx with rfl | rfl <;> decide
      rw [if_neg hne]
      refine ⟨fun q => absurd q hne, fun q => ?_, by omega⟩
      rcases q with q | q | q
      · exact absurd q hne
      · rcases hx with rfl | rfl <;> exact absurd q (by decide)
      · rcases hx with rfl | rfl <;> exact absurd q (by decide)
/-- a step of the rows: so many on the pile before and behind -/
def ySt (k v : Int32) (a b : Nat) : Prop := (k < 2 ∧ a < 400 ∧ (k ≠ 0 → vp_in v 9) ∧ b = a + 1) ∨ (¬ k < 2 ∧ 2 ≤ a ∧ k ≤ 5 ∧ b = a - 1)
/-- n steps from c0 on, from nothing to so many -/
def yR (cd ci : Nat → Int32) (c0 n dep : Nat) : Prop := ∃ D : Nat → Nat, D 0 = 0 ∧ D n = dep ∧ ∀ i, i < n → ySt (cd (c0 + i)) (ci (c0 + i)) (D i) (D (i + 1))
theorem yR_0 (cd ci : Nat → Int32) (c0 : Nat) : yR cd ci c0 0 0 := ⟨fun _ => 0, rfl, rfl, fun i hi => by omega⟩
theorem yR_app {cd ci cd' ci' : Nat → Int32} {c0 n a b : Nat} (h : yR cd ci c0 n a) (e : ∀ i, i < n → cd' (c0 + i) = cd (c0 + i) ∧ ci' (c0 + i) = ci (c0 + i)) (hs : ySt (cd' (c0 + n)) (ci' (c0 + n)) a b) : yR cd' ci' c0 (n + 1) b := by
  obtain ⟨D, h0, hn, hi⟩ := h
  refine ⟨fun i => if i ≤ n then D i else b, by simp [h0], by show (if n + 1 ≤ n then D (n + 1) else b) = b; rw [if_neg (by omega)], fun i hlt => ?_⟩
  by_cases hin : i = n
  · subst hin
    simp only [Nat.le_refl, if_true, if_neg (show ¬ i + 1 ≤ i by omega), hn]
    exact hs
  · have hlt2 : i < n := by omega
    simp only [if_pos (show i ≤ n by omega), if_pos (show i + 1 ≤ n by omega)]
    rw [(e i hlt2).1, (e i hlt2).2]
    exact hi i hlt2
theorem yR_rpn {cd ci : Nat → Int32} {c0 n a : Nat} (h : yR cd ci c0 n a) : zrpn cd ci n c0 0 := by
  obtain ⟨D, h0, hn, hi⟩ := h
  have go : ∀ m i, i + m = n → zrpn cd ci m (c0 + i) (D i) := by
    intro m
    induction m with
    | zero => exact fun i _ => trivial
    | succ m ih =>
      intro i hm
      have ih := ih (i + 1) (by omega)
      unfold zrpn
      rcases hi i (by omega) with ⟨h1, h2, h3, h4⟩ | ⟨h1, h2, h3, h4⟩
      · rw [if_pos h1]
        rw [h4] at ih
        exact ⟨⟨h2, h3⟩, ih⟩
      · rw [if_neg h1]
        rw [h4] at ih
        exact ⟨h2, h3, ih⟩
  have := go n 0 (by omega)
  rwa [h0, Nat.add_zero] at this
/-- what an expression may change -/
def yE (sb c0 : Nat) (I0 I : qMI) : Prop := (∀ k, k ≠ 292 → k ≠ 318 → k ≠ 319 → k ≠ 320 → I k = I0 k) ∧ (∀ i, (i < c0 ∨ sb + 420 ≤ i) → I 318 i = I0 318 i ∧ I 319 i = I0 319 i) ∧ (∀ j, j ≠ 11 → j ≠ 12 → j ≠ 13 → j ≠ 14 → j ≠ 15 → j ≠ 16 → j ≠ 40 → j ≠ 44 → I 292 j = I0 292 j)
theorem yE_rf (sb c0 : Nat) (I : qMI) : yE sb c0 I I := ⟨fun _ _ _ _ _ => rfl, fun _ _ => ⟨rfl, rfl⟩, fun _ _ _ _ _ _ _ _ _ => rfl⟩
theorem yE_tr {sb c0 : Nat} {I J K : qMI} (h : yE sb c0 I J) (g : yE sb c0 J K) : yE sb c0 I K := ⟨fun k a b c d => (g.1 k a b c d).trans (h.1 k a b c d), fun i a => ⟨(g.2.1 i a).1.trans (h.2.1 i a).1, (g.2.1 i a).2.trans (h.2.1 i a).2⟩, fun j a b c d e f g' h' => (g.2.2 j a b c d e f g' h').trans (h.2.2 j a b c d e f g' h')⟩
theorem yE_t {sb c0 : Nat} {I J : qMI} (h : yT I J) : yE sb c0 I J := ⟨fun k a _ _ _ => h.1 k a, fun i _ => ⟨by rw [h.1 318 (by decide)], by rw [h.1 319 (by decide)]⟩, fun j a _ c d e f _ _ => h.2 j a c d e f⟩
theorem yE_f {sb c0 : Nat} {I : qMI} {j : Nat} {x : Int32} (hj : j = 12 ∨ j = 40 ∨ j = 44) : yE sb c0 I (qUp I 292 j x) := ⟨fun k a _ _ _ => funext fun i => qUp_ne (fun q => a q.1), fun i _ => ⟨qUp_ne (fun q => by omega), qUp_ne (fun q => by omega)⟩, fun i _ a _ _ _ _ b c => qUp_ne (fun q => by omega)⟩
theorem yE_w {sb c0 : Nat} {I : qMI} {j : Nat} {x : Int32} : yE sb c0 I (qUp I 320 j x) := ⟨fun k _ _ _ a => funext fun i => qUp_ne (fun q => a q.1), fun i _ => ⟨qUp_ne (fun q => by omega), qUp_ne (fun q => by omega)⟩, fun i _ _ _ _ _ _ _ _ => qUp_ne (fun q => by omega)⟩
/-- a step is emitted -/
def yEm (k v : Int32) (I : qMI) : qMI := qUp (qUp (qUp I 318 (I 292 40).toNatClampNeg k) 319 (I 292 40).toNatClampNeg v) 292 40 (I 292 40 + 1)
theorem yEm_o {k v : Int32} {I : qMI} {a : Nat} (h1 : a ≠ 292) (h2 : a ≠ 318) (h3 : a ≠ 319) : yEm k v I a = I a := funext fun i => by unfold yEm; rw [qUp_ne (fun q => h1 q.1), qUp_ne (fun q => h3 q.1), qUp_ne (fun q => h2 q.1)]
theorem yEm_f {k v : Int32} {I : qMI} {j : Nat} (h : j ≠ 40) : yEm k v I 292 j = I 292 j := by unfold yEm; rw [qUp_ne (fun q => h q.2), qUp_ne (fun q => by omega), qUp_ne (fun q => by omega)]
theorem yEm_40 {k v : Int32} {I : qMI} : yEm k v I 292 40 = I 292 40 + 1 := by unfold yEm; rw [qUp_at, if_pos ⟨rfl, rfl⟩]
theorem yEm_318 {k v : Int32} {I : qMI} {i : Nat} : yEm k v I 318 i = if i = (I 292 40).toNatClampNeg then k else I 318 i := by
  unfold yEm
  rw [qUp_ne (fun q => by omega), qUp_ne (fun q => by omega), qUp_at]
  simp
theorem yEm_319 {k v : Int32} {I : qMI} {i : Nat} : yEm k v I 319 i = if i = (I 292 40).toNatClampNeg then v else I 319 i := by
  unfold yEm
  rw [qUp_ne (fun q => by omega), qUp_at]
  by_cases h : i = (I 292 40).toNatClampNeg
  · rw [if_pos ⟨rfl, h⟩, if_pos h]
  · rw [if_neg (fun q => h q.2), if_neg h, qUp_ne (fun q => by omega)]
theorem yE_em {sb c0 : Nat} {k v : Int32} {I : qMI} (h1 : c0 ≤ (I 292 40).toNatClampNeg) (h2 : (I 292 40).toNatClampNeg < sb + 420) : yE sb c0 I (yEm k v I) := ⟨fun a b c d _ => yEm_o b c d, fun i hi => ⟨by rw [yEm_318, if_neg (by omega)], by rw [yEm_319, if_neg (by omega)]⟩, fun j _ _ _ _ _ _ a _ => yEm_f a⟩
/-- the state inside an expression: what waits, how many were emitted, whether a unit stands behind -/
def yX (sb c0 base : Nat) (I0 I : qMI) (ws : List Int32) (n fl : Nat) : Prop :=
  yE sb c0 I0 I ∧ yOk I ∧ (yW (I 320) ws ∧ (I 292 44).toInt = ws.length ∧ yOkw ws) ∧ ((I 292 12).toInt = (base + yOpn ws : Nat) ∧ base + yOpn ws ≤ 7 ∧ (I 292 13 = 0 → base + yOpn ws ≤ 6)) ∧ ((I 292 40).toInt = (c0 + n : Nat) ∧ (I 292 13 = 0 → ((c0 + n + yOps ws : Nat) : Int) ≤ sb + (I 292 11).toInt) ∧ c0 + n + yOps ws ≤ sb + 402) ∧ (I 292 13 = 0 → yR (I 318) (I 319) c0 n (yOps ws + fl)) ∧ (I0 292 11).toInt ≤ (I 292 11).toInt ∧ (I0 292 13 ≠ 0 → I 292 13 ≠ 0)
theorem yX_s {sb c0 base : Nat} {I0 I J : qMI} {ws : List Int32} {n fl : Nat} (h : yX sb c0 base I0 I ws n fl) (g : yS I J) : yX sb c0 base I0 J ws n fl := by
  obtain ⟨h1, h2, ⟨h3, h4, h5⟩, ⟨h6, h7, h8⟩, ⟨h9, h10, h11⟩, h12, h13, h14⟩ := h
  have o := g.1.1
  have f := g.1.2
  have f0 := fun q => yS_f0 g q
  refine ⟨yE_tr h1 (yE_t g.1), g.2.1, ⟨?_, ?_, h5⟩, ⟨?_, h7, fun q => h8 (f0 q)⟩, ⟨?_, fun q => ?_, h11⟩, fun q => ?_, Int.le_trans h13 g.2.2.1, fun q => g.2.2.2 (h14 q)⟩
  · rw [o 320 (by decide)]; exact h3
  · rw [f 44 (by decide) (by decide) (by decide) (by decide) (by decide)]; exact h4
  · rw [f 12 (by decide) (by decide) (by decide) (by decide) (by decide)]; exact h6
  · rw [f 40 (by decide) (by decide) (by decide) (by decide) (by decide)]; exact h9
  · have := h10 (f0 q); have := g.2.2.1; omega
  · rw [o 318 (by decide), o 319 (by decide)]; exact h12 (f0 q)
/-- what waits is short -/
theorem yX_len {sb c0 base : Nat} {I0 I : qMI} {ws : List Int32} {n fl : Nat} (h : yX sb c0 base I0 I ws n fl) : ws.length ≤ 23 ∧ yOps ws ≤ 23 := by
  obtain ⟨-, -, ⟨-, -, h5⟩, ⟨-, h7, -⟩, -⟩ := h
  have := (yLen h5).2.2
  have := yOps_len ws
  omega
section
variable {l : Launch} {G : qG} {d : Nat} {I I0 : qMI} {L : qML} {R : qMR} {sb c0 base : Nat}
theorem yEmit (hR : wkR R) (hc : vp_in (I 292 40) 840) {k v : Int32} : wkV l G (d + 1) n_X9_emit [.ref 292, .int k, .int v] I L R (fun I' L' => L' = L ∧ I' = yEm k v I) := by
  refine wkC_of 0 (by decide) (Nat.le_of_ble_eq_true rfl) (w_X9_emit_0 hR hc (by rw [qUp_ne (by omega)]; exact hc) ⟨rfl, rfl, rfl, rfl, ?_⟩)
  have e1 : ∀ x, (qUp I 318 x k) 292 40 = I 292 40 := fun x => qUp_ne (by omega)
  have e2 : ∀ x y, (qUp (qUp I 318 x k) 319 y v) 292 40 = I 292 40 := fun x y => by rw [qUp_ne (by omega), qUp_ne (by omega)]
  rw [e1, e2]
  rfl
/-- where the next step goes -/
theorem yX_c {ws : List Int32} {n fl : Nat} (hsb : sb = 0 ∨ sb = 420) (h : yX sb c0 base I0 I ws n fl) : vp_in (I 292 40) 840 ∧ (I 292 40).toNatClampNeg = c0 + n ∧ c0 + n < sb + 420 := by
  obtain ⟨-, -, -, -, ⟨h9, -, h11⟩, -⟩ := h
  exact ⟨vin (by omega) (by omega), by rw [tcn]; omega, by omega⟩
/-- a unit is emitted, and one token on -/
theorem yX_unit {ws : List Int32} {n : Nat} {J : qMI} {k v : Int32} (hsb : sb = 0 ∨ sb = 420) (h : yX sb c0 base I0 I ws n 0) (hf : I 292 13 = 0) (hk : k = 0 ∨ (k = 1 ∧ vp_in v 9)) (g : yN (yEm k v I) J) : yX sb c0 base I0 J ws (n + 1) 1 := by
  have hlen := yX_len h
  obtain ⟨c1, c2, c3⟩ := yX_c hsb h
  obtain ⟨h1, h2, ⟨h3, h4, h5⟩, ⟨h6, h7, h8⟩, ⟨h9, h10, h11⟩, h12, h13, h14⟩ := h
  obtain ⟨g1, g2⟩ := g
  have o := g1.1.1
  have f := g1.1.2
  have e13 : (yEm k v I) 292 13 = I 292 13 := yEm_f (by decide)
  have e11 : (yEm k v I) 292 11 = I 292 11 := yEm_f (by decide)
  have b0 := h10 hf
  have t4 := h2.1.2
  rw [e11] at g2
  have g3 := g1.2.2.1
  rw [e11] at g3
  refine ⟨yE_tr h1 (yE_tr (yE_em (by omega) (by omega)) (yE_t g1.1)), g1.2.1, ⟨?_, ?_, h5⟩, ⟨?_, h7, fun _ => h8 hf⟩, ⟨?_, fun q => ?_, by omega⟩, fun q => ?_, by omega, fun q => absurd hf (h14 q)⟩
  · rw [o 320 (by decide), yEm_o (by decide) (by decide) (by decide)]; exact h3
  · rw [f 44 (by decide) (by decide) (by decide) (by decide) (by decide), yEm_f (by decide)]; exact h4
  · rw [f 12 (by decide) (by decide) (by decide) (by decide) (by decide), yEm_f (by decide)]; exact h6
  · rw [f 40 (by decide) (by decide) (by decide) (by decide) (by decide), yEm_40, i_s (by omega), h9]; omega
  · have := g2 q; omega
  · rw [o 318 (by decide), o 319 (by decide)]
    refine yR_app (h12 hf) (fun i hi => ⟨by rw [yEm_318, if_neg (by omega)], by rw [yEm_319, if_neg (by omega)]⟩) ?_
    rw [yEm_318, yEm_319, if_pos c2.symm, if_pos c2.symm]
    refine Or.inl ⟨?_, by omega, fun q => ?_, rfl⟩
    · rcases hk with rfl | ⟨rfl, -⟩ <;> decide
    · rcases hk with rfl | ⟨-, hv⟩
      · exact absurd rfl q
      · exact hv
/-- what waits comes out -/
theorem yX_pop {w : Int32} {r : List Int32} {n : Nat} {k : Int32} (hsb : sb = 0 ∨ sb = 420) (h : yX sb c0 base I0 I (w :: r) n 1) (hw : w ≠ 6) (hk : 2 ≤ k.toInt ∧ k.toInt ≤ 5) : yX sb c0 base I0 (yEm k 0 (qUp I 292 44 (I 292 44 - 1))) r (n + 1) 1 := by
  obtain ⟨c1, c2, c3⟩ := yX_c hsb h
  obtain ⟨h1, h2, ⟨h3, h4, h5⟩, ⟨h6, h7, h8⟩, ⟨h9, h10, h11⟩, h12, h13, h14⟩ := h
  have eo : yOps (w :: r) = yOps r + 1 := yOps_c hw
  have en : yOpn (w :: r) = yOpn r := yOpn_c hw
  rw [eo] at h10 h11 h12
  rw [en] at h6 h7 h8
  rw [List.length_cons] at h4
  have e40 : (qUp I 292 44 (I 292 44 - 1)) 292 40 = I 292 40 := qUp_ne (by omega)
  have ef : ∀ j, j ≠ 40 → j ≠ 44 → (yEm k 0 (qUp I 292 44 (I 292 44 - 1))) 292 j = I 292 j := fun j a b => by rw [yEm_f a, qUp_ne (by omega)]
  have e8 : ∀ i, (yEm k 0 (qUp I 292 44 (I 292 44 - 1))) 318 i = if i = c0 + n then k else I 318 i := fun i => by rw [yEm_318, e40, c2, qUp_ne (by omega)]
  have e9 : ∀ i, (yEm k 0 (qUp I 292 44 (I 292 44 - 1))) 319 i = if i = c0 + n then 0 else I 319 i := fun i => by rw [yEm_319, e40, c2, qUp_ne (by omega)]
  refine ⟨yE_tr h1 (yE_tr (yE_f (j := 44) (by omega)) (yE_em (by rw [e40]; omega) (by rw [e40]; omega))), ?_, ⟨?_, ?_, h5.2⟩, ⟨?_, h7, fun q => h8 (by rw [← ef 13 (by decide) (by decide)]; exact q)⟩, ⟨?_, fun q => ?_, by omega⟩, fun q => ?_, ?_, ?_⟩
  · unfold yOk
    rw [ef 11 (by decide) (by decide), ef 13 (by decide) (by decide)]
    exact h2
  · rw [yEm_o (by decide) (by decide) (by decide)]
    exact yW_congr (fun i _ => qUp_ne (by omega)) h3.2
  · rw [yEm_f (by decide), qUp_at, if_pos ⟨rfl, rfl⟩, i_p' (by omega), h4]
    omega
  · rw [ef 12 (by decide) (by decide)]; exact h6
  · rw [yEm_40, e40, i_s (by omega), h9]; omega
  · rw [ef 13 (by decide) (by decide)] at q
    rw [ef 11 (by decide) (by decide)]
    have := h10 q
    omega
  · rw [ef 13 (by decide) (by decide)] at q
    refine yR_app (h12 q) (fun i hi => ⟨by rw [e8, if_neg (by omega)], by rw [e9, if_neg (by omega)]⟩) ?_
    rw [e8, e9, if_pos rfl, if_pos rfl]
    refine Or.inr ⟨fun z => ?_, by omega, i_le.mpr ?_, by omega⟩
    · have := i_lt.mp z
      rw [show (2 : Int32).toInt = 2 from rfl] at this
      omega
    · rw [show (5 : Int32).toInt = 5 from rfl]; omega
  · rw [ef 11 (by decide) (by decide)]; exact h13
  · rw [ef 13 (by decide) (by decide)]; exact h14
end
