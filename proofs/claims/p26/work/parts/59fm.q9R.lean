/-! ===== hidden: the reference's ===== -/
/-- a row of twenty places, from its second on: 1 where one can be -/
def hRw (r : Nat → Int32) (g : Nat → Bool) : Prop := ∀ k, k < 22 → r k = if (1 ≤ k ∧ k ≤ 20) ∧ g (k - 1) = true then 1 else 0
theorem hRw_0 {r : Nat → Int32} {g : Nat → Bool} (h : hRw r g) {k : Nat} (hk : k < 22) : r k = 0 ↔ ¬ ((1 ≤ k ∧ k ≤ 20) ∧ g (k - 1) = true) := by
  rw [h k hk]
  split
  · rename_i c
    exact ⟨fun z => absurd z (by decide), fun z => absurd c z⟩
  · rename_i c
    exact ⟨fun _ => c, fun _ => rfl⟩
theorem nB0 : vp_nar .boolean 0 = 0 := by decide
theorem nB1 : vp_nar .boolean 1 = 1 := by decide
section
variable {l : Launch} {G : qG} {d : Nat} {I : qMI} {L : qML} {R : qMR} {v n : Nat} {A : aD} {f : Nat → Int32} {h sl : Nat → Nat → Int32}
theorem uWatL (hR : wkR R) (hL : rHas v I A) (hA : aOk A) (hf : fOk A f) (hs : rEq I 323 f) {Q : qQ} {x t hr : Int32} (hx : bnd x) : ∀ (m a : Nat) (y : Int32) (J : qMI), a + m = A.2.1.length → y.toInt = a → rW I J → (∀ J' : qMI, rW I J' → Q (some (.int (if hWa A f t hr x m a = true then 1 else 0))) 336 J' L R) → wkB l G (d + 5 + 1) n_X9_isWatched Q 3 [.ref 292, .int x, .int t, .int hr, .int y] [] J L R := by
  have n6 := hA.1
  have hv := hL.1.1
  intro m
  induction m with
  | zero =>
    intro a y J hn hy hJ q0
    have hLJ := rHas_q hJ hL
    have h18' := hLJ.1.2
    have cl : (J 292 18).toNatClampNeg = v := by rw [tcn]; omega
    have hn2 := (rHas_n hLJ).2.1
    exact w_X9_isWatched_3 hR (vin (by omega) (by omega)) (fun _ => w_X9_isWatched_42 (q0 J hJ)) (fun q => absurd (i_le.mpr (by rw [cl]; omega)) q)
  | succ m ih =>
    intro a y J hn hy hJ q0
    have hLJ := rHas_q hJ hL
    have h18' := hLJ.1.2
    have cl : (J 292 18).toNatClampNeg = v := by rw [tcn]; omega
    have hn2 := (rHas_n hLJ).2.1
    have y1 : (y + 1).toInt = ((a + 1 : Nat) : Int) := by rw [i_s (by omega)]; omega
    have cy : y.toNatClampNeg = a := by rw [tcn]; omega
    have e3 : J 323 a = f a := by rw [hJ.1 323 (by decide) (by decide) (by decide)]; exact hs a (by omega)
    refine w_X9_isWatched_3 hR (vin (by omega) (by omega)) (fun q => absurd (i_le.mp q) (by rw [cl]; omega)) (fun _ => w_X9_isWatched_17 hR (vin (by omega) (by omega)) (P := fun z I' L' => L' = L ∧ rW J I' ∧ z = if pSe A hr (pHt A hr) (f a) x t then 1 else 0) (by rw [cy, e3]; exact uSeen (d := d) hR hLJ (hf.1 a (by omega)) hx) (fun z I3 L3 hq => ?_))
    obtain ⟨rfl, f1, rfl⟩ := hq
    have j1 := rW_tr hJ f1
    refine w_X9_isWatched_31 (fun q => w_X9_isWatched_36 (ih (a + 1) _ _ (by omega) y1 j1 (fun J' j => ?_))) (fun q => w_X9_isWatched_34 ?_)
    · have := q0 J' j
      rw [hWa_f (if1.1 q)] at this
      exact this
    · have := q0 I3 j1
      rw [hWa_t (if1.2 q)] at this
      exact this
theorem uWat (hR : wkR R) (hL : rHas v I A) (hA : aOk A) (hf : fOk A f) (hs : rEq I 323 f) {x t hr : Int32} (hx : bnd x) : wkI l G (d + 6) n_X9_isWatched [.ref 292, .int x, .int t, .int hr] I L R (fun z I' L' => L' = L ∧ rW I I' ∧ z = if hWa A f t hr x A.2.1.length 0 = true then 1 else 0) :=
  wkC_of 1 (by decide) (Nat.le_of_ble_eq_true rfl) (w_X9_isWatched_0 (uWatL (d := d) hR hL hA hf hs hx A.2.1.length 0 0 I (by omega) rfl (rW_rf I) (fun J' j => ⟨rfl, rfl, _, rfl, rfl, j, rfl⟩)))
/-- what hiding leaves alone -/
def rHd (I J : qMI) : Prop := (∀ k, k ≠ 321 → k ≠ 322 → k ≠ 328 → k ≠ 329 → k ≠ 292 → J k = I k) ∧ ∀ j, j ≠ 47 → J 292 j = I 292 j
theorem rHd_rf (I : qMI) : rHd I I := ⟨fun _ _ _ _ _ _ => rfl, fun _ _ => rfl⟩
theorem rHd_tr {I J K : qMI} (h : rHd I J) (g : rHd J K) : rHd I K := ⟨fun k a b c e i => (g.1 k a b c e i).trans (h.1 k a b c e i), fun j a => (g.2 j a).trans (h.2 j a)⟩
theorem rHd_w {I J : qMI} (h : rW I J) : rHd I J := ⟨fun k a b _ _ c => h.1 k a b c, fun j a => h.2 j a⟩
theorem rHd_28 {i : Nat} {x : Int32} : rHd I (qUp I 328 i x) := ⟨fun k _ _ c _ _ => qUp_ro c, fun j _ => by rw [qUp_ro (by decide)]⟩
theorem rHd_29 {i : Nat} {x : Int32} : rHd I (qUp I 329 i x) := ⟨fun k _ _ _ c _ => qUp_ro c, fun j _ => by rw [qUp_ro (by decide)]⟩
theorem rHas_hd {J : qMI} (h : rHd I J) (g : rHas v I A) : rHas v J A := rHas_fr (fun x a b => h.1 x (by omega) (by omega) (by omega) (by omega) (by omega)) (h.2 18 (by decide)) g
theorem rEq_hd {J : qMI} (h : rHd I J) (g : rEq I 323 f) : rEq J 323 f := fun k hk => by rw [h.1 323 (by decide) (by decide) (by decide) (by decide) (by decide)]; exact g k hk
theorem uHid0 (hR : wkR R) (hL : rHas v I A) (hA : aOk A) (hf : fOk A f) (hs : rEq I 323 f) {Q : qQ} {x to t : Int32} {a : Nat} (hx : x.toInt = a) (ha : a < 20) : ∀ (m k : Nat) (y : Int32) (J : qMI), k + m = 22 → y.toInt = k → rHd I J → (∀ i, i < k → J 328 i = if (1 ≤ i ∧ i ≤ 20) ∧ h0 A f t a (i - 1) = true then 1 else 0) → (∀ (y' : Int32) (J' : qMI), rHd I J' → hRw (J' 328) (h0 A f t a) → wkB l G (d + 6 + 1) n_X9_hidden Q 78 [.ref 292, .int x, .int to, .int t, .int y', wkU] [] J' L R) → wkB l G (d + 6 + 1) n_X9_hidden Q 29 [.ref 292, .int x, .int to, .int t, .int y, wkU] [] J L R := by
  have z22 : (22 : Int32).toInt = 22 := rfl
  have bx : bnd x := ⟨by omega, by omega⟩
  have ex : x = Int32.ofNat a := ofN hx (by omega)
  have x1 : (x + 1).toInt = ((a + 1 : Nat) : Int) := by rw [i_s (by omega)]; omega
  intro m
  induction m with
  | zero =>
    intro k y J hn hy hJ hp q0
    exact w_X9_hidden_29 (fun _ => q0 y J hJ (fun i hi => hp i (by omega))) (fun q => absurd (i_le.mpr (by omega)) q)
  | succ m ih =>
    intro k y J hn hy hJ hp q0
    have hLJ := rHas_hd hJ hL
    have hsJ := rEq_hd hJ hs
    have y1 : (y + 1).toInt = ((k + 1 : Nat) : Int) := by rw [i_s (by omega)]; omega
    have cy : y.toNatClampNeg = k := by rw [tcn]; omega
    have put : ∀ (z : Int32) (K : qMI), rHd J K → K 328 = J 328 → vp_nar .boolean z = (if (1 ≤ k ∧ k ≤ 20) ∧ h0 A f t a (k - 1) = true then 1 else 0) → wkB l G (d + 6 + 1) n_X9_hidden Q 71 [.ref 292, .int x, .int to, .int t, .int y, wkU] [.int z, .int y, .ref 328] K L R := fun z K hK e8 ez => by
      refine w_X9_hidden_71 (vin (by omega) (by omega)) ?_
      rw [cy, ez]
      refine ih (k + 1) _ _ (by omega) y1 (rHd_tr hJ (rHd_tr hK rHd_28)) (fun i hi => ?_) q0
      rw [qUp_row, e8]
      by_cases c : i = k
      · rw [c, tU_s]
      · rw [tU_o c]
        exact hp i (by omega)
    refine w_X9_hidden_29 (fun q => absurd (i_le.mp q) (by omega)) (fun _ => w_X9_hidden_36 hR (fun q => w_X9_hidden_70 (put 0 J (rHd_rf J) rfl ?_)) (fun q => w_X9_hidden_50 hR (vin (by decide) (by decide)) (P := fun z I' L' => L' = L ∧ rW J I' ∧ z = if hWa A f t (f 96) x A.2.1.length 0 = true then 1 else 0) (by rw [show (96 : Int32).toNatClampNeg = 96 from rfl, hsJ 96 (by omega)]; exact uWat (d := d) hR hLJ hA hf hsJ bx) (fun z I3 L3 hq => ?_)))
    · have q : ¬ k = a + 1 := fun z => q (i_eq.mpr (by rw [hy, x1, z]))
      rw [nB0, if_neg (fun z => ?_)]
      have z2 := z.2
      unfold h0 at z2
      rw [decide_eq_false (by omega), Bool.false_and] at z2
      exact Bool.noConfusion z2
    · have q : k = a + 1 := by
        have := congrArg Int32.toInt q
        omega
      obtain ⟨rfl, f1, rfl⟩ := hq
      have e8 : I3 328 = J 328 := f1.1 328 (by decide) (by decide) (by decide)
      have e0 : h0 A f t a (k - 1) = !hWa A f t (f 96) x A.2.1.length 0 := by
        unfold h0 hWt
        rw [show k - 1 = a by omega, decide_eq_true rfl, Bool.true_and, ex]
      refine w_X9_hidden_63 (fun q2 => w_X9_hidden_70 (put 0 I3 (rHd_w f1) e8 ?_)) (fun q2 => w_X9_hidden_66 (put 1 I3 (rHd_w f1) e8 ?_))
      · rw [nB0, if_neg (fun z => ?_)]
        have z2 := z.2
        rw [e0, if1.2 q2] at z2
        exact Bool.noConfusion z2
      · have e1 : h0 A f t a (k - 1) = true := by
          rw [e0]
          rcases e : hWa A f t (f 96) x A.2.1.length 0 with _ | _
          · rfl
          · exact absurd e (if1.1 q2)
        rw [nB1, if_pos ⟨⟨by omega, by omega⟩, e1⟩]
theorem uHid1 (hR : wkR R) (hL : rHas v I A) (hA : aOk A) (hf : fOk A f) (hs : rEq I 323 f) {Q : qQ} {x to t w : Int32} {g : Nat → Bool} (hg : hRw (I 328) g) : ∀ (m k : Nat) (y : Int32) (J : qMI), k + m = 21 → 1 ≤ k → y.toInt = k → rHd I J → J 328 = I 328 → (∀ i, 1 ≤ i → i < k → J 329 i = if hSt A f t ((f 96 + w) + 1) g (i - 1) = true then 1 else 0) → (∀ (y' : Int32) (J' : qMI), rHd I J' → J' 328 = I 328 → (∀ i, 1 ≤ i → i ≤ 20 → J' 329 i = if hSt A f t ((f 96 + w) + 1) g (i - 1) = true then 1 else 0) → wkB l G (d + 6 + 1) n_X9_hidden Q 188 [.ref 292, .int x, .int to, .int t, .int w, .int y'] [] J' L R) → wkB l G (d + 6 + 1) n_X9_hidden Q 105 [.ref 292, .int x, .int to, .int t, .int w, .int y] [] J L R := by
  have z20 : (20 : Int32).toInt = 20 := rfl
  have o1 : (1 : Int32).toInt = 1 := rfl
  intro m
  induction m with
  | zero =>
    intro k y J hn h1 hy hJ e8 hp q0
    exact w_X9_hidden_105 (fun _ => q0 y J hJ e8 (fun i a b => hp i a (by omega))) (fun q => absurd (i_lt.mpr (by omega)) q)
  | succ m ih =>
    intro k y J hn h1 hy hJ e8 hp q0
    have hLJ := rHas_hd hJ hL
    have hsJ := rEq_hd hJ hs
    have y1 : (y + 1).toInt = ((k + 1 : Nat) : Int) := by rw [i_s (by omega)]; omega
    have ym : (y - 1).toInt = ((k - 1 : Nat) : Int) := by rw [i_sub (by omega) (by omega)]; omega
    have cy : y.toNatClampNeg = k := by rw [tcn]; omega
    have cy1 : (y + 1).toNatClampNeg = k + 1 := by rw [tcn]; omega
    have cym : (y - 1).toNatClampNeg = k - 1 := by rw [tcn]; omega
    have em : y - 1 = Int32.ofNat (k - 1) := ofN ym (by omega)
    have bm : bnd (y - 1) := ⟨by omega, by omega⟩
    have put : ∀ (z : Int32) (K : qMI), rHd J K → K 328 = J 328 → K 329 = J 329 → vp_nar .boolean z = (if hSt A f t ((f 96 + w) + 1) g (k - 1) = true then 1 else 0) → wkB l G (d + 6 + 1) n_X9_hidden Q 181 [.ref 292, .int x, .int to, .int t, .int w, .int y] [.int z, .int y, .ref 329] K L R := fun z K hK k8 k9 ez => by
      refine w_X9_hidden_181 (vin (by omega) (by omega)) ?_
      rw [cy, ez]
      refine ih (k + 1) _ _ (by omega) (by omega) y1 (rHd_tr hJ (rHd_tr hK rHd_29)) (by rw [qUp_ro (by decide), k8, e8]) (fun i a b => ?_) q0
      rw [qUp_row, k9]
      by_cases c : i = k
      · rw [c, tU_s]
      · rw [tU_o c]
        exact hp i a (by omega)
    have some1 : hNb g (k - 1) = true → wkB l G (d + 6 + 1) n_X9_hidden Q 152 [.ref 292, .int x, .int to, .int t, .int w, .int y] [.int y, .ref 329] J L R := fun nb => by
      refine w_X9_hidden_152 hR (vin (by decide) (by decide)) (P := fun z I' L' => L' = L ∧ rW J I' ∧ z = if hWa A f t ((f 96 + w) + 1) (y - 1) A.2.1.length 0 = true then 1 else 0) (by rw [show (96 : Int32).toNatClampNeg = 96 from rfl, hsJ 96 (by omega)]; exact uWat (d := d) hR hLJ hA hf hsJ bm) (fun z I3 L3 hq => ?_)
      obtain ⟨rfl, f1, rfl⟩ := hq
      have k8 : I3 328 = J 328 := f1.1 328 (by decide) (by decide) (by decide)
      have k9 : I3 329 = J 329 := f1.1 329 (by decide) (by decide) (by decide)
      have e0 : hSt A f t ((f 96 + w) + 1) g (k - 1) = !hWa A f t ((f 96 + w) + 1) (y - 1) A.2.1.length 0 := by
        unfold hSt hWt
        rw [nb, Bool.true_and, em]
      refine w_X9_hidden_173 (fun q => w_X9_hidden_180 (put 0 I3 (rHd_w f1) k8 k9 ?_)) (fun q => w_X9_hidden_176 (put 1 I3 (rHd_w f1) k8 k9 ?_))
      · rw [nB0, e0, if1.2 q]
        rfl
      · have w := if1.1 q
        rw [nB1, e0]
        rcases e : hWa A f t ((f 96 + _) + 1) (y - 1) A.2.1.length 0 with _ | _
        · rfl
        · exact absurd e w
    have none1 : hNb g (k - 1) = false → wkB l G (d + 6 + 1) n_X9_hidden Q 180 [.ref 292, .int x, .int to, .int t, .int w, .int y] [.int y, .ref 329] J L R := fun nb => by
      refine w_X9_hidden_180 (put 0 J (rHd_rf J) rfl rfl ?_)
      unfold hSt
      rw [nB0, nb]
      rfl
    have at0 : ∀ i, i < 22 → (J 328 i = 0 ↔ ¬ ((1 ≤ i ∧ i ≤ 20) ∧ g (i - 1) = true)) := fun i hi => by rw [e8]; exact hRw_0 hg hi
    refine w_X9_hidden_105 (fun q => absurd (i_lt.mp q) (by omega)) (fun _ => w_X9_hidden_112 hR (vin (by omega) (by omega)) (fun q => some1 ?_) (fun q => w_X9_hidden_130 hR (vin (by omega) (by omega)) (fun q2 => some1 ?_) (fun q2 => w_X9_hidden_140 hR (vin (by omega) (by omega)) (fun q3 => none1 ?_) (fun q3 => some1 ?_))))
    · rw [cym] at q
      have q := fun z => q ((at0 (k - 1) (by omega)).mpr z)
      have q := Decidable.not_not.mp q
      unfold hNb
      rw [decide_eq_true (by omega), q.2]
      rfl
    · rw [cy] at q2
      have q2 := Decidable.not_not.mp (fun z => q2 ((at0 k (by omega)).mpr z))
      unfold hNb
      rw [q2.2, Bool.or_true]
      rfl
    · rw [cym] at q
      rw [cy] at q2
      rw [cy1] at q3
      have q := (at0 (k - 1) (by omega)).mp q
      have q2 := (at0 k (by omega)).mp q2
      have q3 := (at0 (k + 1) (by omega)).mp q3
      unfold hNb
      have b2 : g (k - 1) = false := by
        rcases e : g (k - 1) with _ | _
        · rfl
        · exact absurd ⟨⟨h1, by omega⟩, e⟩ q2
      have b1 : (decide (1 ≤ k - 1) && g (k - 1 - 1)) = false := by
        by_cases c : 1 ≤ k - 1
        · rcases e : g (k - 1 - 1) with _ | _
          · rw [Bool.and_false]
          · exact absurd ⟨⟨c, by omega⟩, e⟩ q
        · rw [decide_eq_false c, Bool.false_and]
      have b3 : (decide (k - 1 + 1 < 20) && g (k - 1 + 1)) = false := by
        by_cases c : k - 1 + 1 < 20
        · rcases e : g (k - 1 + 1) with _ | _
          · rw [Bool.and_false]
          · exact absurd ⟨⟨by omega, by omega⟩, by rw [show k + 1 - 1 = k - 1 + 1 by omega]; exact e⟩ q3
        · rw [decide_eq_false c, Bool.false_and]
      rw [b1, b2, b3]
      rfl
    · rw [cy1] at q3
      have q3 := Decidable.not_not.mp (fun z => q3 ((at0 (k + 1) (by omega)).mpr z))
      have g3 := q3.2
      rw [show k + 1 - 1 = k - 1 + 1 by omega] at g3
      unfold hNb
      rw [decide_eq_true (show k - 1 + 1 < 20 by omega), g3, Bool.true_and, Bool.or_true]
theorem uHid2 (hR : wkR R) {Q : qQ} {x to t w : Int32} {g : Nat → Bool} : ∀ (m k : Nat) (y : Int32) (J : qMI), k + m = 21 → 1 ≤ k → y.toInt = k → rHd I J → J 328 0 = 0 → J 328 21 = 0 → (∀ i, 1 ≤ i → i < k → J 328 i = if g (i - 1) = true then 1 else 0) → (∀ i, 1 ≤ i → i ≤ 20 → J 329 i = if g (i - 1) = true then 1 else 0) → (∀ (y' : Int32) (J' : qMI), rHd I J' → hRw (J' 328) g → wkB l G (d + 6 + 1) n_X9_hidden Q 218 [.ref 292, .int x, .int to, .int t, .int w, .int y'] [] J' L R) → wkB l G (d + 6 + 1) n_X9_hidden Q 191 [.ref 292, .int x, .int to, .int t, .int w, .int y] [] J L R := by
  have z20 : (20 : Int32).toInt = 20 := rfl
  intro m
  induction m with
  | zero =>
    intro k y J hn h1 hy hJ e0 e21 hp hr q0
    refine w_X9_hidden_191 (fun _ => q0 y J hJ (fun i hi => ?_)) (fun q => absurd (i_lt.mpr (by omega)) q)
    by_cases c : 1 ≤ i ∧ i ≤ 20
    · rw [hp i c.1 (by omega)]
      by_cases c2 : g (i - 1) = true
      · rw [if_pos c2, if_pos ⟨c, c2⟩]
      · rw [if_neg c2, if_neg (fun z => c2 z.2)]
    · rw [if_neg (fun z => c z.1)]
      rcases (show i = 0 ∨ i = 21 by omega) with rfl | rfl
      · exact e0
      · exact e21
  | succ m ih =>
    intro k y J hn h1 hy hJ e0 e21 hp hr q0
    have y1 : (y + 1).toInt = ((k + 1 : Nat) : Int) := by rw [i_s (by omega)]; omega
    have cy : y.toNatClampNeg = k := by rw [tcn]; omega
    refine w_X9_hidden_191 (fun q => absurd (i_lt.mp q) (by omega)) (fun _ => w_X9_hidden_198 hR (vin (by omega) (by omega)) (vin (by omega) (by omega)) ?_)
    have ev : vp_nar .boolean (J 329 k) = if g (k - 1) = true then 1 else 0 := by
      rw [hr k h1 (by omega)]
      split
      · exact nB1
      · exact nB0
    rw [cy, ev]
    refine ih (k + 1) _ _ (by omega) (by omega) y1 (rHd_tr hJ rHd_28) (by rw [qUp_at, if_neg (fun z => by omega)]; exact e0) (by rw [qUp_at, if_neg (fun z => by omega)]; exact e21) (fun i a b => ?_) (fun i a b => by rw [qUp_ro (by decide)]; exact hr i a b) q0
    rw [qUp_row]
    by_cases c : i = k
    · rw [c, tU_s]
    · rw [tU_o c]
      exact hp i a (by omega)
theorem uHidL (hR : wkR R) (hL : rHas v I A) (hA : aOk A) (hf : fOk A f) (hs : rEq I 323 f) {Q : qQ} {x to t : Int32} {b : Nat} (ht : to.toInt = b) (hb : b < 20) : ∀ (m k : Nat) (y : Int32) (g : Nat → Bool) (J : qMI), k + m = 49 → y.toInt = k → rHd I J → hRw (J 328) g → (∀ J' : qMI, rHd I J' → Q (some (.int (hLp A f t b m y g))) 336 J' L R) → wkB l G (d + 6 + 1) n_X9_hidden Q 81 [.ref 292, .int x, .int to, .int t, .int y, wkU] [] J L R := by
  have z48 : (48 : Int32).toInt = 48 := rfl
  have t1 : (to + 1).toInt = ((b + 1 : Nat) : Int) := by rw [i_s (by omega)]; omega
  have ct : (to + 1).toNatClampNeg = b + 1 := by rw [tcn]; omega
  intro m
  induction m with
  | zero =>
    intro k y g J hn hy hJ hg q0
    exact w_X9_hidden_81 (fun _ => w_X9_hidden_224 (q0 J hJ)) (fun q => absurd (i_lt.mpr (by omega)) q)
  | succ m ih =>
    intro k y g J hn hy hJ hg q0
    have hLJ := rHas_hd hJ hL
    have hsJ := rEq_hd hJ hs
    have y1 : (y + 1).toInt = ((k + 1 : Nat) : Int) := by rw [i_s (by omega)]; omega
    refine w_X9_hidden_81 (fun q => absurd (i_lt.mp q) (by omega)) (fun _ => w_X9_hidden_88 hR (vin (by omega) (by omega)) (fun q => w_X9_hidden_102 ?_) (fun q => w_X9_hidden_99 ?_))
    · rw [ct] at q
      have q := (hRw_0 hg (by omega)).mp q
      have gf : g b = false := by
        rcases e : g b with _ | _
        · rfl
        · exact absurd ⟨⟨by omega, by omega⟩, by rw [Nat.add_sub_cancel]; exact e⟩ q
      refine uHid1 (d := d) hR hLJ hA hf hsJ hg 20 1 1 J (by omega) (by decide) rfl (rHd_rf J) rfl (fun i a c => by omega) (fun y' J' j e8 g9 => w_X9_hidden_188 (uHid2 (d := d) (I := J) hR 20 1 1 J' (by omega) (by decide) rfl j ?_ ?_ (fun i a c => by omega) g9 (fun y2 J2 j2 h2 => w_X9_hidden_218 (ih (k + 1) _ _ J2 (by omega) y1 (rHd_tr hJ j2) h2 (fun J3 j3 => ?_)))))
      · rw [e8, hg 0 (by omega), if_neg (fun z => by omega)]
      · rw [e8, hg 21 (by omega), if_neg (fun z => by omega)]
      · have := q0 J3 j3
        rw [hLp_f gf] at this
        exact this
    · rw [ct] at q
      have q := Decidable.not_not.mp (fun z => q ((hRw_0 hg (by omega)).mpr z))
      have gt := q.2
      rw [Nat.add_sub_cancel] at gt
      have := q0 J hJ
      rw [hLp_t gt] at this
      exact this
theorem rS_hd {J : qMI} (s : rS v A f n h sl I) (g : rHd I J) : rS v A f n h sl J := rS_of s (fun k a => g.1 k (by omega) (by omega) (by omega) (by omega) (by omega)) (g.2 18 (by decide)) (g.2 51 (by decide))
theorem rMf_hd {J : qMI} (g : rHd I J) : rMf I J := fun j a _ _ _ => g.2 j a
theorem uHid (hR : wkR R) (hs : rS v A f n h sl I) (hA : aOk A) (hf : fOk A f) {x to t : Int32} : wkI l G (d + 7) n_X9_hidden [.ref 292, .int x, .int to, .int t] I L R (fun z I' L' => L' = L ∧ z = qHid A f x to t ∧ rS v A f n h sl I' ∧ rMf I I') := by
  obtain ⟨hL, s1, s2, s3⟩ := id hs
  have o1 : (1 : Int32).toInt = 1 := rfl
  have o9 : (9 : Int32).toInt = 9 := rfl
  have bad : ¬ (okX x ∧ okX to ∧ 1 ≤ t.toInt ∧ t.toInt ≤ 9) → wkB l G (d + 6 + 1) n_X9_hidden (wkPI R (fun z I' L' => L' = L ∧ z = qHid A f x to t ∧ rS v A f n h sl I' ∧ rMf I I')) 24 [.ref 292, .int x, .int to, .int t, wkU, wkU] [] I L R := fun c => w_X9_hidden_24 ⟨rfl, rfl, _, rfl, rfl, by unfold qHid; rw [if_pos c], hs, rMf_rf _⟩
  refine wkC_of 2 (by decide) (Nat.le_of_ble_eq_true rfl) (w_X9_hidden_0 (uIsX (d := d + 4)) (fun z I1 L1 hq => ?_))
  obtain ⟨rfl, rfl, rfl⟩ := hq
  refine w_X9_hidden_4 (fun q => bad (fun c => if1.1 q c.1)) (fun q => w_X9_hidden_7 (uIsX (d := d + 4)) (fun z I1 L1 hq => ?_))
  obtain ⟨rfl, rfl, rfl⟩ := hq
  refine w_X9_hidden_11 (fun q2 => bad (fun c => if1.1 q2 c.2.1)) (fun q2 => w_X9_hidden_14 (uIn (d := d + 5)) (fun z I1 L1 hq => ?_))
  obtain ⟨rfl, rfl, rfl⟩ := hq
  refine w_X9_hidden_21 (fun q3 => ?_) (fun q3 => bad (fun c => if1.1 q3 (by rw [o1, o9]; exact c.2.2)))
  have q3 := if1.2 q3
  rw [o1, o9] at q3
  have c0 : okX x ∧ okX to ∧ 1 ≤ t.toInt ∧ t.toInt ≤ 9 := ⟨if1.2 q, if1.2 q2, q3⟩
  obtain ⟨cx, ct, -⟩ := id c0
  have hx : x.toInt = (x.toInt.toNat : Nat) := by omega
  have ht : to.toInt = (to.toInt.toNat : Nat) := by omega
  refine w_X9_hidden_26 (uHid0 (d := d) hR hL hA hf s1 hx (by omega) 22 0 0 I1 (by omega) rfl (rHd_rf I1) (fun i hi => absurd hi (Nat.not_lt_zero i)) (fun y' J' j hg => w_X9_hidden_78 (uHidL (d := d) hR hL hA hf s1 ht (by omega) 49 0 0 _ J' (by omega) rfl j hg (fun J2 j2 => ⟨rfl, rfl, _, rfl, rfl, ?_, rS_hd hs j2, rMf_hd j2⟩))))
  unfold qHid
  rw [if_neg (fun z => z c0)]
end
