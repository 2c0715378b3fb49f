/-! ===== the reference: rows copied, kept, recorded ===== -/
/-- what was, n of them, the oldest first -/
def hEq (I : qMI) (n : Nat) (h : Nat → Nat → Int32) : Prop := (I 292 51).toInt = n ∧ n ≤ 30 ∧ ∀ i, i < n → ∀ k, k < 97 → I 325 (97 * i + k) = h i k
section
variable {l : Launch} {G : qG} {d : Nat} {I : qMI} {L : qML} {R : qMR} {v : Nat} {A : aD} {f g : Nat → Int32}
theorem uIn {x a b : Int32} : wkI l G (d + 1) n_X9_in [.int x, .int a, .int b] I L R (fun y I' L' => L' = L ∧ I' = I ∧ y = if a.toInt ≤ x.toInt ∧ x.toInt ≤ b.toInt then 1 else 0) := by
  refine wkC_of 0 (by decide) (Nat.le_of_ble_eq_true rfl) (w_X9_in_0 (fun q => w_X9_in_14 (w_X9_in_15 ⟨rfl, rfl, _, rfl, rfl, rfl, ?_⟩ (Or.inl rfl))) (fun q => w_X9_in_5 (fun q2 => w_X9_in_14 (w_X9_in_15 ⟨rfl, rfl, _, rfl, rfl, rfl, ?_⟩ (Or.inl rfl))) (fun q2 => w_X9_in_10 (w_X9_in_15 ⟨rfl, rfl, _, rfl, rfl, rfl, ?_⟩ (Or.inr rfl)))))
  · have q := i_lt.mp q
    rw [if_neg (fun z => by have := z.1; omega)]
  · have q2 := i_lt.mp q2
    rw [if_neg (fun z => by have := z.2; omega)]
  · have q := nlt q
    have q2 := nlt q2
    rw [if_pos ⟨by omega, by omega⟩]
theorem ifc {p q : Prop} [Decidable p] [Decidable q] (h : p ↔ q) : (if p then 1 else 0 : Int32) = if q then 1 else 0 := by
  by_cases c : p
  · rw [if_pos c, if_pos (h.mp c)]
  · rw [if_neg c, if_neg (fun z => c (h.mpr z))]
theorem uIsThing (hR : wkR R) (hL : rHas v I A) {x : Int32} : wkI l G (d + 2) n_X9_isThing [.ref 292, .int x] I L R (fun y I' L' => L' = L ∧ I' = I ∧ y = if okT A x then 1 else 0) := by
  have hv := hL.1.1
  have h18 := hL.1.2
  have cl : (I 292 18).toNatClampNeg = v := by rw [tcn]; omega
  have hn := (rHas_n hL).1
  have e1 : (I 301 v - 1).toInt = A.1.length - 1 := by rw [i_p' (by omega), hn.1]
  refine wkC_of 0 (by decide) (Nat.le_of_ble_eq_true rfl) (w_X9_isThing_0 hR (vin (by omega) (by omega)) (uIn (d := d)) (fun z I1 L1 hq => ?_))
  obtain ⟨rfl, rfl, rfl⟩ := hq
  refine w_X9_isThing_16 ⟨rfl, rfl, _, rfl, rfl, rfl, ?_⟩ if01
  rw [cl]
  exact ifc (by rw [e1, show (0 : Int32).toInt = 0 from rfl]; constructor <;> rintro ⟨a, b⟩ <;> exact ⟨a, by omega⟩)
theorem uIsSeat (hR : wkR R) (hL : rHas v I A) {x : Int32} : wkI l G (d + 2) n_X9_isSeat [.ref 292, .int x] I L R (fun y I' L' => L' = L ∧ I' = I ∧ y = if okS A x then 1 else 0) := by
  have hv := hL.1.1
  have h18 := hL.1.2
  have cl : (I 292 18).toNatClampNeg = v := by rw [tcn]; omega
  have hn := (rHas_n hL).2
  have e1 : (I 304 v - 1).toInt = A.2.1.length - 1 := by rw [i_p' (by omega), hn.1]
  refine wkC_of 0 (by decide) (Nat.le_of_ble_eq_true rfl) (w_X9_isSeat_0 hR (vin (by omega) (by omega)) (uIn (d := d)) (fun z I1 L1 hq => ?_))
  obtain ⟨rfl, rfl, rfl⟩ := hq
  refine w_X9_isSeat_16 ⟨rfl, rfl, _, rfl, rfl, rfl, ?_⟩ if01
  rw [cl]
  exact ifc (by rw [e1, show (0 : Int32).toInt = 0 from rfl]; constructor <;> rintro ⟨a, b⟩ <;> exact ⟨a, by omega⟩)
theorem uIsX {x : Int32} : wkI l G (d + 2) n_X9_isX [.int x] I L R (fun y I' L' => L' = L ∧ I' = I ∧ y = if okX x then 1 else 0) := by
  refine wkC_of 0 (by decide) (Nat.le_of_ble_eq_true rfl) (w_X9_isX_0 (uIn (d := d)) (fun z I1 L1 hq => ?_))
  obtain ⟨rfl, rfl, rfl⟩ := hq
  refine w_X9_isX_7 ⟨rfl, rfl, _, rfl, rfl, rfl, ?_⟩ if01
  exact ifc (by rw [show (19 : Int32).toInt = 19 from rfl, show (0 : Int32).toInt = 0 from rfl]; constructor <;> rintro ⟨a, b⟩ <;> exact ⟨a, by omega⟩)
theorem uIsLong {x : Int32} : wkI l G (d + 2) n_X9_isLong [.int x] I L R (fun y I' L' => L' = L ∧ I' = I ∧ y = if okH x then 1 else 0) := by
  refine wkC_of 0 (by decide) (Nat.le_of_ble_eq_true rfl) (w_X9_isLong_0 (uIn (d := d)) (fun z I1 L1 hq => ?_))
  obtain ⟨rfl, rfl, rfl⟩ := hq
  exact w_X9_isLong_7 ⟨rfl, rfl, _, rfl, rfl, rfl, rfl⟩ if01
theorem uCopies (hR : wkR R) (hL : rHas v I A) (hs : rEq I 323 f) : wkV l G (d + 1) n_X9_copies [.ref 292] I L R (fun I' L' => L' = L ∧ (∀ k, k ≠ 324 → k ≠ 292 → I' k = I k) ∧ (∀ j, j ≠ 50 → I' 292 j = I 292 j) ∧ I' 292 50 = A.2.2.1 11 ∧ rEq I' 324 f) := by
  have hv := hL.1.1
  have h18 := hL.1.2
  have loop : ∀ (j m : Nat) (y : Int32) (J : qMI), 97 - m = j → m ≤ 97 → y.toInt = m → (∀ k, k ≠ 324 → J k = I k) → (∀ k, k < m → J 324 k = f k) → wkB l G (d + 1) n_X9_copies (wkPV R (fun I' L' => L' = L ∧ (∀ k, k ≠ 324 → k ≠ 292 → I' k = I k) ∧ (∀ j, j ≠ 50 → I' 292 j = I 292 j) ∧ I' 292 50 = A.2.2.1 11 ∧ rEq I' 324 f)) 2 [.ref 292, .int y] [] J L R := by
    intro j
    induction j with
    | zero =>
      intro m y J hj hm hy hJ hs'
      obtain rfl : m = 97 := by omega
      have e292 : J 292 = I 292 := hJ 292 (by decide)
      have cl : (J 292 18).toNatClampNeg = v := by rw [tcn, e292]; omega
      have e310 : J 310 v = A.2.2.1 11 := by
        rw [hJ 310 (by decide)]
        exact rHas_s hL (j := 11) (by decide) (by decide)
      refine w_X9_copies_2 (fun _ => w_X9_copies_26 hR (by rw [e292]; exact vin (by omega) (by omega)) ⟨rfl, rfl, rfl, rfl, fun k a b => by rw [qUp_ro b]; exact hJ k a, fun j a => by rw [qUp_at, if_neg (fun z => a z.2), e292], by rw [qUp_at, if_pos ⟨rfl, rfl⟩, cl]; exact e310, fun k hk => by rw [qUp_ro (by decide)]; exact hs' k hk⟩) (fun q => absurd (i_le.mpr (by rw [show (97 : Int32).toInt = 97 from rfl]; omega)) q)
    | succ j ih =>
      intro m y J hj hm hy hJ hs'
      have cy : y.toNatClampNeg = m := by rw [tcn]; omega
      refine w_X9_copies_2 (fun q => absurd (i_le.mp q) (by rw [show (97 : Int32).toInt = 97 from rfl]; omega)) (fun _ => w_X9_copies_8 hR (vin (by omega) (by omega)) (vin (by omega) (by omega)) (ih (m + 1) _ _ (by omega) (by omega) (by rw [i_s (by omega)]; omega) (fun k a => by rw [qUp_ro a]; exact hJ k a) (fun k hk => ?_)))
      rw [qUp_row, cy]
      unfold tU
      by_cases c : k = m
      · rw [if_pos c, hJ 323 (by decide), c]
        exact hs m (by omega)
      · rw [if_neg c]
        exact hs' k (by omega)
  exact wkC_of 1 (by decide) (Nat.le_of_ble_eq_true rfl) (w_X9_copies_0 (loop 97 0 0 I rfl (by decide) rfl (fun _ _ => rfl) (fun k hk => absurd hk (by omega))))
theorem uKeepR (hR : wkR R) (hs : rEq I 324 f) : wkV l G (d + 1) n_X9_keepsRow [.ref 292] I L R (fun I' L' => L' = L ∧ (∀ k, k ≠ 323 → I' k = I k) ∧ rEq I' 323 f) := by
  have loop : ∀ (j m : Nat) (y : Int32) (J : qMI), 97 - m = j → m ≤ 97 → y.toInt = m → (∀ k, k ≠ 323 → J k = I k) → (∀ k, k < m → J 323 k = f k) → wkB l G (d + 1) n_X9_keepsRow (wkPV R (fun I' L' => L' = L ∧ (∀ k, k ≠ 323 → I' k = I k) ∧ rEq I' 323 f)) 2 [.ref 292, .int y] [] J L R := by
    intro j
    induction j with
    | zero =>
      intro m y J hj hm hy hJ hs'
      obtain rfl : m = 97 := by omega
      exact w_X9_keepsRow_2 (fun _ => w_X9_keepsRow_26 ⟨rfl, rfl, rfl, rfl, hJ, hs'⟩) (fun q => absurd (i_le.mpr (by rw [show (97 : Int32).toInt = 97 from rfl]; omega)) q)
    | succ j ih =>
      intro m y J hj hm hy hJ hs'
      have cy : y.toNatClampNeg = m := by rw [tcn]; omega
      refine w_X9_keepsRow_2 (fun q => absurd (i_le.mp q) (by rw [show (97 : Int32).toInt = 97 from rfl]; omega)) (fun _ => w_X9_keepsRow_8 hR (vin (by omega) (by omega)) (vin (by omega) (by omega)) (ih (m + 1) _ _ (by omega) (by omega) (by rw [i_s (by omega)]; omega) (fun k a => by rw [qUp_ro a]; exact hJ k a) (fun k hk => ?_)))
      rw [qUp_row, cy]
      unfold tU
      by_cases c : k = m
      · rw [if_pos c, hJ 324 (by decide), c]
        exact hs m (by omega)
      · rw [if_neg c]
        exact hs' k (by omega)
  exact wkC_of 1 (by decide) (Nat.le_of_ble_eq_true rfl) (w_X9_keepsRow_0 (loop 97 0 0 I rfl (by decide) rfl (fun _ _ => rfl) (fun k hk => absurd hk (by omega))))
theorem uRec2 (hR : wkR R) {Q : qQ} {J0 : qMI} {u : Nat} {h : Nat → Nat → Int32} (h51 : (J0 292 51).toInt = u) (hu : u ≤ 29) (hh : ∀ i, i < u → ∀ k, k < 97 → J0 325 (97 * i + k) = h i k) (hf : rEq J0 323 f) (hg : rEq J0 324 g) (kQ : ∀ J : qMI, (∀ k, k ≠ 323 → k ≠ 325 → k ≠ 292 → J k = J0 k) → (∀ j, j ≠ 51 → J 292 j = J0 292 j) → rEq J 323 g → hEq J (u + 1) (fun i => if i = u then f else h i) → Q none 336 J L R) : wkB l G (d + 1 + 1) n_X9_records Q 49 [.ref 292, wkU] [] J0 L R := by
  have loop : ∀ (j m : Nat) (y : Int32) (J : qMI), 97 - m = j → m ≤ 97 → y.toInt = m → (∀ k, k ≠ 325 → J k = J0 k) → (∀ i, J 325 i = if 97 * u ≤ i ∧ i < 97 * u + m then f (i - 97 * u) else J0 325 i) → wkB l G (d + 1 + 1) n_X9_records Q 51 [.ref 292, .int y] [] J L R := by
    intro j
    induction j with
    | zero =>
      intro m y J hj hm hy hJ hs'
      obtain rfl : m = 97 := by omega
      have e292 : J 292 = J0 292 := hJ 292 (by decide)
      refine w_X9_records_51 (fun _ => w_X9_records_83 (uKeepR (d := d) (f := g) hR (fun k hk => by rw [qUp_ro (by decide), hJ 324 (by decide)]; exact hg k hk)) (fun I1 L1 hq => ?_)) (fun q => absurd (i_le.mpr (by rw [show (97 : Int32).toInt = 97 from rfl]; omega)) q)
      obtain ⟨rfl, f1, s1⟩ := hq
      refine w_X9_records_97 (kQ I1 (fun k a b c => by rw [f1 k a, qUp_ro c]; exact hJ k b) (fun j a => by rw [f1 292 (by decide), qUp_at, if_neg (fun z => a z.2), e292]) s1 ⟨?_, by omega, fun i hi k hk => ?_⟩)
      · rw [f1 292 (by decide), qUp_at, if_pos ⟨rfl, rfl⟩, e292, i_s (by omega), h51]
        omega
      · rw [f1 325 (by decide), qUp_ro (by decide), hs']
        show _ = (if i = u then f else h i) k
        by_cases c : i = u
        · rw [if_pos c, if_pos (by omega), show 97 * i + k - 97 * u = k by rw [c]; omega]
        · rw [if_neg c, if_neg (by omega)]
          exact hh i (by omega) k hk
    | succ j ih =>
      intro m y J hj hm hy hJ hs'
      have cy : y.toNatClampNeg = m := by rw [tcn]; omega
      have e292 : J 292 = J0 292 := hJ 292 (by decide)
      have m97 : (97 * J 292 51).toInt = 97 * u := by
        rw [e292, i_mul (by rw [show (97 : Int32).toInt = 97 from rfl]; omega) (by rw [show (97 : Int32).toInt = 97 from rfl]; omega), h51]
        rfl
      have i2 : (97 * J 292 51 + y).toInt = 97 * u + m := by rw [i_add (by omega) (by omega), m97, hy]
      have c2 : (97 * J 292 51 + y).toNatClampNeg = 97 * u + m := by rw [tcn]; omega
      refine w_X9_records_51 (fun q => absurd (i_le.mp q) (by rw [show (97 : Int32).toInt = 97 from rfl]; omega)) (fun _ => w_X9_records_57 hR (vin (by omega) (by omega)) (vin (by omega) (by omega)) (ih (m + 1) _ _ (by omega) (by omega) (by rw [i_s (by omega)]; omega) (fun k a => by rw [qUp_ro a]; exact hJ k a) (fun i => ?_)))
      rw [qUp_row, c2, cy, hJ 323 (by decide), hf m (by omega)]
      unfold tU
      by_cases c : i = 97 * u + m
      · rw [if_pos c, if_pos (by omega), show i - 97 * u = m by omega]
      · rw [if_neg c, hs']
        by_cases c2 : 97 * u ≤ i ∧ i < 97 * u + m
        · rw [if_pos c2, if_pos (by omega)]
        · rw [if_neg c2, if_neg (by omega)]
  refine w_X9_records_49 (loop 97 0 0 J0 rfl (by decide) rfl (fun _ _ => rfl) (fun i => ?_))
  rw [if_neg (by omega)]
theorem uRecords (hR : wkR R) {n : Nat} {h : Nat → Nat → Int32} (hh : hEq I n h) (hf : rEq I 323 f) (hg : rEq I 324 g) : wkV l G (d + 2) n_X9_records [.ref 292] I L R (fun I' L' => L' = L ∧ (∀ k, k ≠ 323 → k ≠ 325 → k ≠ 292 → I' k = I k) ∧ (∀ j, j ≠ 51 → I' 292 j = I 292 j) ∧ rEq I' 323 g ∧ hEq I' (hN n) (hH n h f)) := by
  obtain ⟨h1, h2, h3⟩ := hh
  have z30 : (30 : Int32).toInt = 30 := rfl
  have loop : n = 30 → ∀ (j m : Nat) (y : Int32) (J : qMI), 2813 - m = j → m ≤ 2813 → y.toInt = m → (∀ k, k ≠ 325 → J k = I k) → (∀ i, J 325 i = if i < m then I 325 (i + 97) else I 325 i) → wkB l G (d + 1 + 1) n_X9_records (wkPV R (fun I' L' => L' = L ∧ (∀ k, k ≠ 323 → k ≠ 325 → k ≠ 292 → I' k = I k) ∧ (∀ j, j ≠ 51 → I' 292 j = I 292 j) ∧ rEq I' 323 g ∧ hEq I' (hN n) (hH n h f))) 11 [.ref 292, .int y] [] J L R := by
    intro hn j
    induction j with
    | zero =>
      intro m y J hj hm hy hJ hs'
      obtain rfl : m = 2813 := by omega
      have e292 : J 292 = I 292 := hJ 292 (by decide)
      refine w_X9_records_11 (fun _ => w_X9_records_39 (uRec2 (d := d) (f := f) (g := g) (u := 29) (h := fun i => h (i + 1)) hR ?_ (by decide) (fun i hi k hk => ?_) (fun k hk => ?_) (fun k hk => ?_) (fun J' a b c e => ⟨rfl, rfl, rfl, rfl, fun k p q r => by rw [a k p q r, qUp_ro r]; exact hJ k q, fun j p => by rw [b j p, qUp_at, if_neg (fun z => p z.2), e292], c, ?_⟩))) (fun q => absurd (i_le.mpr (by rw [show (2813 : Int32).toInt = 2813 from rfl]; omega)) q)
      · rw [qUp_at, if_pos ⟨rfl, rfl⟩, e292, i_p' (by omega), h1, hn]
        rfl
      · rw [qUp_ro (by decide), hs', if_pos (by omega), show 97 * i + k + 97 = 97 * (i + 1) + k by omega]
        exact h3 (i + 1) (by omega) k hk
      · rw [qUp_ro (by decide), hJ 323 (by decide)]
        exact hf k hk
      · rw [qUp_ro (by decide), hJ 324 (by decide)]
        exact hg k hk
      · have e1 : hN n = 29 + 1 := by unfold hN; rw [if_neg (by omega)]
        have e2 : hH n h f = (fun i => if i = 29 then f else h (i + 1)) := by
          funext i
          unfold hH
          rw [if_neg (by omega)]
        rw [e1, e2]
        exact e
    | succ j ih =>
      intro m y J hj hm hy hJ hs'
      have cy : y.toNatClampNeg = m := by rw [tcn]; omega
      have i2 : (y + 97).toInt = m + 97 := by rw [i_add (by rw [show (97 : Int32).toInt = 97 from rfl]; omega) (by rw [show (97 : Int32).toInt = 97 from rfl]; omega), hy]; rfl
      have c2 : (y + 97).toNatClampNeg = m + 97 := by rw [tcn]; omega
      refine w_X9_records_11 (fun q => absurd (i_le.mp q) (by rw [show (2813 : Int32).toInt = 2813 from rfl]; omega)) (fun _ => w_X9_records_18 hR (vin (by omega) (by omega)) (vin (by omega) (by omega)) (ih (m + 1) _ _ (by omega) (by omega) (by rw [i_s (by omega)]; omega) (fun k a => by rw [qUp_ro a]; exact hJ k a) (fun i => ?_)))
      rw [qUp_row, c2, cy, hs' (m + 97), if_neg (by omega)]
      unfold tU
      by_cases c : i = m
      · rw [if_pos c, if_pos (by omega), c]
      · rw [if_neg c, hs']
        by_cases c2 : i < m
        · rw [if_pos c2, if_pos (by omega)]
        · rw [if_neg c2, if_neg (by omega)]
  refine wkC_of 1 (by decide) (Nat.le_of_ble_eq_true rfl) (w_X9_records_0 (fun q => ?_) (fun q => ?_))
  · have hn : n ≠ 30 := fun z => q (i_eq.mpr (by rw [h1, z]; rfl))
    refine uRec2 (d := d) (f := f) (g := g) (u := n) (h := h) hR h1 (by omega) h3 hf hg (fun J' a b c e => ⟨rfl, rfl, rfl, rfl, a, b, c, ?_⟩)
    have e1 : hN n = n + 1 := by unfold hN; rw [if_pos (by omega)]
    have e2 : hH n h f = (fun i => if i = n then f else h i) := by
      funext i
      unfold hH
      rw [if_pos (by omega)]
    rw [e1, e2]
    exact e
  · have q := i_eq.mp q
    refine w_X9_records_9 (loop (by omega) 2813 0 0 I rfl (by decide) rfl (fun _ _ => rfl) (fun i => ?_))
    rw [if_neg (by omega)]
end
