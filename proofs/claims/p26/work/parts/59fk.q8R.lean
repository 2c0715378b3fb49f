/-! ===== umbrellas: the reference's ===== -/
/-- how many pitches lie behind one, at the most -/
def uRk (k : Nat) (p : uPi) : Nat := if k = 1 then 19 - p.1 else if k = 2 then (19 - p.2.1) + (19 - p.1) * (18 - p.1) / 2 else (19 - p.2.2) + (18 - p.2.1) * (19 - p.2.1) / 2 + (19 - p.1) * (18 - p.1) * (17 - p.1) / 6
theorem uRk_nx {k : Nat} {p q : uPi} (h1 : 1 ≤ k) (h3 : k ≤ 3) (h : uOk k p) (e : uNx k p = some q) : uRk k q + 1 ≤ uRk k p := by
  obtain ⟨a, b, c⟩ := p
  obtain ⟨a1, a2, a3, a4, a5, a6, a7⟩ := h
  dsimp only at a1 a2 a3 a4 a5 a6 a7
  rcases (show k = 1 ∨ k = 2 ∨ k = 3 by omega) with rfl | rfl | rfl
  · rw [uNx1] at e
    have a6 := a6 (by decide)
    have a7 := a7 (by decide)
    rw [if_neg (by omega), if_neg (by omega)] at e
    split at e
    · injection e with e
      subst e
      show 19 - (a + 1) + 1 ≤ 19 - a
      omega
    · cases e
  · rw [uNx2] at e
    have a4 := a4 (by decide)
    have a7 := a7 (by decide)
    have all : ∀ a, a < 18 → 19 - (a + 2) + (19 - (a + 1)) * (18 - (a + 1)) / 2 + 1 ≤ (19 - a) * (18 - a) / 2 := by decide
    rw [if_neg (by omega)] at e
    split at e
    · injection e with e
      subst e
      show 19 - (b + 1) + (19 - a) * (18 - a) / 2 + 1 ≤ 19 - b + (19 - a) * (18 - a) / 2
      omega
    · split at e
      · injection e with e
        subst e
        have := all a (by omega)
        show 19 - (a + 2) + (19 - (a + 1)) * (18 - (a + 1)) / 2 + 1 ≤ 19 - b + (19 - a) * (18 - a) / 2
        omega
      · cases e
  · rw [uNx3] at e
    have a4 := a4 (by decide)
    have a5 := a5 (by decide)
    have al2 : ∀ b, b < 18 → 19 - (b + 2) + (18 - (b + 1)) * (19 - (b + 1)) / 2 + 1 ≤ (18 - b) * (19 - b) / 2 := by decide
    have al3 : ∀ a, a < 17 → 19 - (a + 3) + (18 - (a + 2)) * (19 - (a + 2)) / 2 + (19 - (a + 1)) * (18 - (a + 1)) * (17 - (a + 1)) / 6 + 1 ≤ (19 - a) * (18 - a) * (17 - a) / 6 := by decide
    split at e
    · injection e with e
      subst e
      show 19 - (c + 1) + (18 - b) * (19 - b) / 2 + (19 - a) * (18 - a) * (17 - a) / 6 + 1 ≤ 19 - c + (18 - b) * (19 - b) / 2 + (19 - a) * (18 - a) * (17 - a) / 6
      omega
    · split at e
      · injection e with e
        subst e
        have := al2 b (by omega)
        show 19 - (b + 2) + (18 - (b + 1)) * (19 - (b + 1)) / 2 + (19 - a) * (18 - a) * (17 - a) / 6 + 1 ≤ 19 - c + (18 - b) * (19 - b) / 2 + (19 - a) * (18 - a) * (17 - a) / 6
        omega
      · split at e
        · injection e with e
          subst e
          have := al3 a (by omega)
          show 19 - (a + 3) + (18 - (a + 2)) * (19 - (a + 2)) / 2 + (19 - (a + 1)) * (18 - (a + 1)) * (17 - (a + 1)) / 6 + 1 ≤ 19 - c + (18 - b) * (19 - b) / 2 + (19 - a) * (18 - a) * (17 - a) / 6
          omega
        · cases e
theorem uRk_0 {k : Nat} (h1 : 1 ≤ k) (h3 : k ≤ 3) : uRk k (0, 1, 2) < 1140 := by
  rcases (show k = 1 ∨ k = 2 ∨ k = 3 by omega) with rfl | rfl | rfl <;> decide
section
variable {l : Launch} {G : qG} {d : Nat} {I : qMI} {L : qML} {R : qMR} {v n : Nat} {A : aD} {f : Nat → Int32} {h sl : Nat → Nat → Int32}
theorem uBits {x : Int32} : wkI l G (d + 1) n_X9_bits [.int x] I L R (fun z I' L' => L' = L ∧ I' = I ∧ z = uCt x) := by
  refine wkC_of 2 (by decide) (Nat.le_of_ble_eq_true rfl) (w_X9_bits_0 (w_X9_bits_4 (fun q => absurd q (by decide)) (fun _ => w_X9_bits_10 ?_)))
  rw [show (0 + 1 : Int32) = 1 from rfl]
  refine w_X9_bits_4 (fun q => absurd q (by decide)) (fun _ => w_X9_bits_10 ?_)
  rw [show (1 + 1 : Int32) = 2 from rfl]
  refine w_X9_bits_4 (fun q => absurd q (by decide)) (fun _ => w_X9_bits_10 ?_)
  rw [show (2 + 1 : Int32) = 3 from rfl]
  refine w_X9_bits_4 (fun q => absurd q (by decide)) (fun _ => w_X9_bits_10 ?_)
  rw [show (3 + 1 : Int32) = 4 from rfl]
  refine w_X9_bits_4 (fun q => absurd q (by decide)) (fun _ => w_X9_bits_10 ?_)
  rw [show (4 + 1 : Int32) = 5 from rfl]
  refine w_X9_bits_4 (fun q => absurd q (by decide)) (fun _ => w_X9_bits_10 ?_)
  rw [show (5 + 1 : Int32) = 6 from rfl]
  exact w_X9_bits_4 (fun _ => w_X9_bits_24 ⟨rfl, rfl, _, rfl, rfl, rfl, rfl⟩) (fun q => absurd (by decide) q)
/-- what umbrellas leave alone -/
def rUb (I J : qMI) : Prop := (∀ k, k ≠ 321 → k ≠ 322 → k ≠ 326 → k ≠ 327 → k ≠ 292 → J k = I k) ∧ ∀ j, j ≠ 47 → j ≠ 55 → J 292 j = I 292 j
theorem rU_rf (I : qMI) : rUb I I := ⟨fun _ _ _ _ _ _ => rfl, fun _ _ _ => rfl⟩
theorem rU_tr {I J K : qMI} (h : rUb I J) (g : rUb J K) : rUb I K := ⟨fun k a b c e i => (g.1 k a b c e i).trans (h.1 k a b c e i), fun j a b => (g.2 j a b).trans (h.2 j a b)⟩
theorem rU_w {I J : qMI} (h : rW I J) : rUb I J := ⟨fun k a b _ _ c => h.1 k a b c, fun j a _ => h.2 j a⟩
theorem rU_26 {i : Nat} {x : Int32} : rUb I (qUp I 326 i x) := ⟨fun k _ _ c _ _ => qUp_ro c, fun j _ _ => by rw [qUp_ro (by decide)]⟩
theorem rU_27 {i : Nat} {x : Int32} : rUb I (qUp I 327 i x) := ⟨fun k _ _ _ c _ => qUp_ro c, fun j _ _ => by rw [qUp_ro (by decide)]⟩
theorem rU_55 {x : Int32} : rUb I (qUp I 292 55 x) := ⟨fun k _ _ _ _ c => qUp_ro c, fun j _ c => by rw [qUp_at, if_neg (fun z => c z.2)]⟩
theorem rS_u {J : qMI} (s : rS v A f n h sl I) (g : rUb I J) : rS v A f n h sl J := rS_of s (fun k a => g.1 k (by omega) (by omega) (by omega) (by omega) (by omega)) (g.2 18 (by decide) (by decide)) (g.2 51 (by decide) (by decide))
theorem rMf_u {J : qMI} (g : rUb I J) : rMf I J := fun j a _ _ c => g.2 j a c
theorem rHas_u {J : qMI} (h : rUb I J) (g : rHas v I A) : rHas v J A := rHas_fr (fun x a b => h.1 x (by omega) (by omega) (by omega) (by omega) (by omega)) (h.2 18 (by decide) (by decide)) g
theorem uFillE (hR : wkR R) (hL : rHas v I A) (hs : rEq I 323 f) (hA : aOk A) {Q : qQ} {x : Int32} {a : Nat} (hx : x.toInt = a) (ha : a < 20) : ∀ (m e : Nat) (y acc : Int32) (J : qMI), e + m = A.1.length → y.toInt = e → rUb I J → J 326 a = acc → (∀ (y' : Int32) (J' : qMI), rUb I J' → (∀ i, i ≠ a → J' 326 i = J 326 i) → J' 326 a = qB (fun e => decide (pSe A (f 96) (pHt A (f 96)) x (tX A e) (tT A e))) m e y acc → wkB l G (d + 6 + 1) n_X9_fillsSeen Q 64 [.ref 292, .int x, .int y'] [] J' L R) → wkB l G (d + 6 + 1) n_X9_fillsSeen Q 17 [.ref 292, .int x, .int y] [] J L R := by
  have n6 := hA.1
  have hv := hL.1.1
  have bx : bnd x := ⟨by omega, by omega⟩
  have cx : x.toNatClampNeg = a := by rw [tcn]; omega
  intro m
  induction m with
  | zero =>
    intro e y acc J hn hy hJ hc q0
    have hLJ := rHas_u hJ hL
    have h18' := hLJ.1.2
    have cl : (J 292 18).toNatClampNeg = v := by rw [tcn]; omega
    have hn2 := (rHas_n hLJ).1.1
    exact w_X9_fillsSeen_17 hR (vin (by omega) (by omega)) (fun _ => q0 y J hJ (fun _ _ => rfl) hc) (fun q => absurd (i_le.mpr (by rw [cl]; omega)) q)
  | succ m ih =>
    intro e y acc J hn hy hJ hc q0
    have hLJ := rHas_u hJ hL
    have h18' := hLJ.1.2
    have cl : (J 292 18).toNatClampNeg = v := by rw [tcn]; omega
    have hn2 := (rHas_n hLJ).1.1
    have y1 : (y + 1).toInt = ((e + 1 : Nat) : Int) := by rw [i_s (by omega)]; omega
    have e96 : J 323 96 = f 96 := by rw [hJ.1 323 (by decide) (by decide) (by decide) (by decide) (by decide)]; exact hs 96 (by omega)
    refine w_X9_fillsSeen_17 hR (vin (by omega) (by omega)) (fun q => absurd (i_le.mp q) (by rw [cl]; omega)) (fun _ => w_X9_fillsSeen_30 hR (vin (by decide) (by decide)) (P := fun z I' L' => L' = L ∧ rW J I' ∧ z = if pSe A (f 96) (pHt A (f 96)) x (tX A e) (tT A e) then 1 else 0) (by rw [show (96 : Int32).toNatClampNeg = 96 from rfl, e96]; exact uSees (d := d) hR hLJ bx hy (by omega) (hA.2.1 e (by omega))) (fun z I3 L3 hq => ?_))
    obtain ⟨rfl, f1, rfl⟩ := hq
    have j1 := rU_tr hJ (rU_w f1)
    have e26 : I3 326 = J 326 := f1.1 326 (by decide) (by decide) (by decide)
    refine w_X9_fillsSeen_43 (fun q => w_X9_fillsSeen_58 (ih (e + 1) _ acc _ (by omega) y1 j1 (by rw [e26]; exact hc) (fun y' J' j g1 g2 => q0 y' J' j (fun i hi => by rw [g1 i hi, e26]) ?_))) (fun q => w_X9_fillsSeen_46 hR (vin (by omega) (by omega)) (vin (by omega) (by omega)) (w_X9_fillsSeen_58 ?_))
    · rw [qB_f (by exact decide_eq_false (if1.1 q))]
      exact g2
    · rw [cx]
      refine ih (e + 1) _ (acc ||| (1 <<< (y &&& 31))) _ (by omega) y1 (rU_tr j1 rU_26) (by rw [qUp_row, tU_s, e26, hc]) (fun y' J' j g1 g2 => q0 y' J' j (fun i hi => by rw [g1 i hi, qUp_row, tU_o hi, e26]) ?_)
      rw [qB_t (by exact decide_eq_true (if1.2 q))]
      exact g2
theorem uFillX (hR : wkR R) (hL : rHas v I A) (hs : rEq I 323 f) (hA : aOk A) {Q : qQ} : ∀ (m a : Nat) (x : Int32) (J : qMI), a + m = 20 → x.toInt = a → rUb I J → (∀ i, i < a → J 326 i = uSn A f i) → (∀ J' : qMI, rUb I J' → (∀ i, i < 20 → J' 326 i = uSn A f i) → Q none 336 J' L R) → wkB l G (d + 6 + 1) n_X9_fillsSeen Q 2 [.ref 292, .int x, wkU] [] J L R := by
  have z19 : (19 : Int32).toInt = 19 := rfl
  intro m
  induction m with
  | zero =>
    intro a x J hn hx hJ hp q0
    exact w_X9_fillsSeen_2 (fun _ => w_X9_fillsSeen_70 (q0 J hJ (fun i hi => hp i (by omega)))) (fun q => absurd (i_lt.mpr (by omega)) q)
  | succ m ih =>
    intro a x J hn hx hJ hp q0
    have x1 : (x + 1).toInt = ((a + 1 : Nat) : Int) := by rw [i_s (by omega)]; omega
    have cx : x.toNatClampNeg = a := by rw [tcn]; omega
    have ex : x = Int32.ofNat a := ofN hx (by omega)
    refine w_X9_fillsSeen_2 (fun q => absurd (i_lt.mp q) (by omega)) (fun _ => w_X9_fillsSeen_8 hR (vin (by omega) (by omega)) ?_)
    rw [cx]
    refine uFillE (d := d) hR hL hs hA hx (by omega) A.1.length 0 0 0 _ (by omega) rfl (rU_tr hJ rU_26) (by rw [qUp_row, tU_s]) (fun y' J' j g1 g2 => w_X9_fillsSeen_64 (ih (a + 1) _ J' (by omega) x1 j (fun i hi => ?_) q0))
    by_cases c : i = a
    · rw [c, g2, ex]
      rfl
    · rw [g1 i c, qUp_row, tU_o c]
      exact hp i (by omega)
theorem uFill (hR : wkR R) (hL : rHas v I A) (hs : rEq I 323 f) (hA : aOk A) : wkV l G (d + 7) n_X9_fillsSeen [.ref 292] I L R (fun I' L' => L' = L ∧ rUb I I' ∧ ∀ i, i < 20 → I' 326 i = uSn A f i) :=
  wkC_of 2 (by decide) (Nat.le_of_ble_eq_true rfl) (w_X9_fillsSeen_0 (uFillX (d := d) hR hL hs hA 20 0 0 I (by omega) rfl (rU_rf I) (fun i hi => absurd hi (Nat.not_lt_zero i)) (fun J' j g => ⟨rfl, rfl, rfl, rfl, j, g⟩)))
theorem uTries (hR : wkR R) {s : Nat → Int32} {k : Nat} {p : uPi} {st : Int32 × uPi} {y a b c : Int32} (hy : y.toInt = k) (h1 : 1 ≤ k) (h3 : k ≤ 3) (hb6 : ∀ x, b6 (s x)) (ok : uOk k p) (ha : a.toInt = p.1) (hb : b.toInt = p.2.1) (hc : c.toInt = p.2.2) (hs : ∀ i, i < 20 → I 326 i = s i) (hst : I 292 55 = st.1) (hbs : uBs (I 327) k st) : wkV l G (d + 2) n_X9_tries [.ref 292, .int y, .int a, .int b, .int c] I L R (fun I' L' => L' = L ∧ rUb I I' ∧ I' 326 = I 326 ∧ I' 292 55 = (uTr s k p st).1 ∧ uBs (I' 327) k (uTr s k p st)) := by
  have o1 : (1 : Int32).toInt = 1 := rfl
  have o2 : (2 : Int32).toInt = 2 := rfl
  obtain ⟨a1, a2, a3, a4, a5, a6, a7⟩ := id ok
  have ca : a.toNatClampNeg = p.1 := by rw [tcn]; omega
  have cb : b.toNatClampNeg = p.2.1 := by rw [tcn]; omega
  have cc : c.toNatClampNeg = p.2.2 := by rw [tcn]; omega
  have h6 := uSet_b hb6 k p
  have go : ∀ s0 s1 : Int32, s0 ||| s1 = uSet s k p → wkB l G (d + 1 + 1) n_X9_tries (fun r t I' L' R' => t = 336 ∧ R' = R ∧ r = none ∧ L' = L ∧ rUb I I' ∧ I' 326 = I 326 ∧ I' 292 55 = (uTr s k p st).1 ∧ uBs (I' 327) k (uTr s k p st)) 38 [.ref 292, .int y, .int a, .int b, .int c, wkU] [.int s1, .int s0] I L R := fun s0 s1 e => by
    refine w_X9_tries_38 (uBits (d := d)) (fun z I1 L1 hq => ?_)
    obtain ⟨rfl, rfl, rfl⟩ := hq
    rw [e]
    refine w_X9_tries_46 (fun q => w_X9_tries_54 (uBits (d := d)) (fun z I2 L2 hq => ?_)) (fun q => w_X9_tries_53 ?_)
    · obtain ⟨rfl, rfl, rfl⟩ := hq
      rw [hst] at q
      have et : uTr s k p st = (uCt (uSet s k p), p) := by
        unfold uTr
        rw [if_pos q]
      refine w_X9_tries_60 hR (vin (by decide) (by decide)) (vin (by decide) (by decide)) (vin (by decide) (by decide)) ⟨rfl, rfl, rfl, rfl, rU_tr (rU_tr (rU_tr rU_55 rU_27) rU_27) rU_27, ?_, ?_, ?_⟩
      · rw [qUp_ro (by decide), qUp_ro (by decide), qUp_ro (by decide), qUp_ro (by decide)]
      · rw [qUp_ro (by decide), qUp_ro (by decide), qUp_ro (by decide), qUp_at, if_pos ⟨rfl, rfl⟩, et]
      · rw [et, show (0 : Int32).toNatClampNeg = 0 from rfl, show (1 : Int32).toNatClampNeg = 1 from rfl, show (2 : Int32).toNatClampNeg = 2 from rfl]
        refine Or.inr ⟨(uCt_b h6).1, ok, ?_, fun _ => ?_, fun _ => ?_⟩
        · rw [qUp_row, tU_o (by decide), qUp_row, tU_o (by decide), qUp_row, tU_s]
          exact ha
        · rw [qUp_row, tU_o (by decide), qUp_row, tU_s]
          exact hb
        · rw [qUp_row, tU_s]
          exact hc
    · rw [hst] at q
      have et : uTr s k p st = st := by
        unfold uTr
        rw [if_neg q]
      exact ⟨rfl, rfl, rfl, rfl, rU_rf _, rfl, by rw [et]; exact hst, by rw [et]; exact hbs⟩
  refine wkC_of 1 (by decide) (Nat.le_of_ble_eq_true rfl) (w_X9_tries_0 hR (vin (by omega) (by omega)) (fun q => ?_) (fun q => ?_))
  · have q := i_le.mp q
    rw [ca, hs _ (by omega)]
    refine w_X9_tries_20 (w_X9_tries_21 (fun _ => w_X9_tries_37 (go _ _ ?_)) (fun z => absurd (i_le.mpr (by omega)) z))
    unfold uSet
    rw [if_neg (by omega), if_neg (by omega)]
  · have q := nle q
    have k1 : 1 < k := by omega
    have a4 := a4 k1
    rw [ca, hs _ (by omega)]
    refine w_X9_tries_11 hR (vin (by omega) (by omega)) ?_
    rw [cb, hs _ (by omega)]
    refine w_X9_tries_21 (fun q2 => w_X9_tries_37 (go _ _ ?_)) (fun q2 => ?_)
    · have q2 := i_le.mp q2
      unfold uSet
      rw [if_pos k1, if_neg (by omega)]
    · have q2 := nle q2
      have k2 : 2 < k := by omega
      have a5 := a5 k2
      refine w_X9_tries_27 hR (vin (by omega) (by omega)) ?_
      rw [cc, hs _ (by omega)]
      refine go _ _ ?_
      unfold uSet
      rw [if_pos k1, if_pos k2]
theorem uUmM (hR : wkR R) {s : Nat → Int32} (hb6 : ∀ x, b6 (s x)) {Q : qQ} {y x : Int32} {k : Nat} (hy : y.toInt = k) (h1 : 1 ≤ k) (h3 : k ≤ 3) : ∀ (m : Nat) (p : uPi) (st : Int32 × uPi) (a b c : Int32) (J : qMI), uRk k p < m → uOk k p → a.toInt = p.1 → b.toInt = p.2.1 → c.toInt = p.2.2 → (∀ i, i < 20 → J 326 i = s i) → J 292 55 = st.1 → uBs (J 327) k st → rUb I J → (∀ (a' : Int32) (J' : qMI), J' 292 55 = (uF s k m p st).1 → uBs (J' 327) k (uF s k m p st) → rUb I J' → wkB l G (d + 2 + 1) n_X9_umbrellas Q 119 [.ref 292, .int y, .int x, .int a', wkU, wkU] [] J' L R) → wkB l G (d + 2 + 1) n_X9_umbrellas Q 72 [.ref 292, .int y, .int x, .int a, .int b, .int c] [] J L R := by
  have o1 : (1 : Int32).toInt = 1 := rfl
  have o2 : (2 : Int32).toInt = 2 := rfl
  have o19 : (19 : Int32).toInt = 19 := rfl
  have o20 : (20 - y).toInt = 20 - k := by rw [i_sub (by rw [show (20 : Int32).toInt = 20 from rfl]; omega) (by rw [show (20 : Int32).toInt = 20 from rfl]; omega), show (20 : Int32).toInt = 20 from rfl, hy]
  have o21 : (21 - y).toInt = 21 - k := by rw [i_sub (by rw [show (21 : Int32).toInt = 21 from rfl]; omega) (by rw [show (21 : Int32).toInt = 21 from rfl]; omega), show (21 : Int32).toInt = 21 from rfl, hy]
  intro m
  induction m with
  | zero => intro p st a b c J hr; exact absurd hr (Nat.not_lt_zero _)
  | succ m ih =>
    intro p st a b c J hr ok ha hb hc ht hst hbs hj q0
    obtain ⟨a1, a2, a3, a4, a5, a6, a7⟩ := id ok
    have sa : (a + 1).toInt = ((p.1 + 1 : Nat) : Int) := by rw [i_s (by omega)]; omega
    have b22 : p.2.1 ≤ 20 := by
      by_cases k1 : 1 < k
      · have := a4 k1; omega
      · have := a6 k1; omega
    have sb : (b + 1).toInt = ((p.2.1 + 1 : Nat) : Int) := by rw [i_s (by omega)]; omega
    have c22 : p.2.2 ≤ 21 := by
      by_cases k2 : 2 < k
      · have := a5 k2; omega
      · have := a7 k2; omega
    have sc : (c + 1).toInt = ((p.2.2 + 1 : Nat) : Int) := by rw [i_s (by omega)]; omega
    -- the try, then one further
    have run : ∀ K : qMI, (∀ i, i < 20 → K 326 i = s i) → K 292 55 = (uTr s k p st).1 → uBs (K 327) k (uTr s k p st) → rUb I K → wkB l G (d + 2 + 1) n_X9_umbrellas Q 72 [.ref 292, .int y, .int x, .int a, .int b, .int (c + 1)] [] K L R := fun K t2 s2 b2 jK => by
      have nxt : ∀ (q : uPi) (a' b' c' : Int32), uNx k p = some q → a'.toInt = q.1 → b'.toInt = q.2.1 → c'.toInt = q.2.2 → wkB l G (d + 2 + 1) n_X9_umbrellas Q 72 [.ref 292, .int y, .int x, .int a', .int b', .int c'] [] K L R := fun q a' b' c' e ea eb ec => by
        have rk := uRk_nx h1 h3 ok e
        refine ih q (uTr s k p st) a' b' c' K (by omega) (uOk_nx h1 h3 ok e) ea eb ec t2 s2 b2 jK (fun a2 J2 e1 e2 j2 => q0 a2 J2 ?_ ?_ j2)
        · rw [uF_s e]
          exact e1
        · rw [uF_s e]
          exact e2
      -- from b's head on: a further b, a further a, or none
      have atB : ¬ p.2.2 < (if 2 < k then 19 else p.2.1 + 1) → wkB l G (d + 2 + 1) n_X9_umbrellas Q 107 [.ref 292, .int y, .int x, .int a, .int b, .int (c + 1)] [] K L R := fun nc => by
        have atA : ¬ p.2.1 < (if 1 < k then 21 - k else p.1 + 1) → wkB l G (d + 2 + 1) n_X9_umbrellas Q 113 [.ref 292, .int y, .int x, .int a, .int (b + 1), wkU] [] K L R := fun nb => by
          refine w_X9_umbrellas_113 (w_X9_umbrellas_33 (fun q => q0 _ K ?_ ?_ jK) (fun q => w_X9_umbrellas_41 ?_))
          · have q := i_lt.mp q
            have e : uNx k p = none := by
              unfold uNx
              rw [if_neg nc, if_neg nb, if_neg (by omega)]
            rw [uF_n e]
            exact s2
          · have q := i_lt.mp q
            have e : uNx k p = none := by
              unfold uNx
              rw [if_neg nc, if_neg nb, if_neg (by omega)]
            rw [uF_n e]
            exact b2
          · have q := nlt q
            have e : uNx k p = some (p.1 + 1, p.1 + 2, p.1 + 3) := by
              unfold uNx
              rw [if_neg nc, if_neg nb, if_pos (by omega)]
            have sa2 : (a + 1 + 1).toInt = ((p.1 + 2 : Nat) : Int) := by rw [i_s (by omega)]; omega
            have sa3 : (a + 1 + 1 + 1).toInt = ((p.1 + 3 : Nat) : Int) := by rw [i_s (by omega)]; omega
            have go := nxt (p.1 + 1, p.1 + 2, p.1 + 3) (a + 1) (a + 1 + 1) (a + 1 + 1 + 1) e sa sa2 sa3
            refine w_X9_umbrellas_46 (fun c1 => w_X9_umbrellas_60 (w_X9_umbrellas_63 (fun z => ?_) (fun _ => w_X9_umbrellas_66 go))) (fun c1 => w_X9_umbrellas_53 (w_X9_umbrellas_63 (fun z => ?_) (fun _ => w_X9_umbrellas_66 go)))
            · have z := i_lt.mp z
              omega
            · have z := i_lt.mp z
              have c1 := nle c1
              omega
        have goB : p.2.1 < (if 1 < k then 21 - k else p.1 + 1) → wkB l G (d + 2 + 1) n_X9_umbrellas Q 66 [.ref 292, .int y, .int x, .int a, .int (b + 1), wkU] [] K L R := fun nb => by
          have e : uNx k p = some (p.1, p.2.1 + 1, p.2.1 + 2) := by
            unfold uNx
            rw [if_neg nc, if_pos nb]
          have sb2 : (b + 1 + 1).toInt = ((p.2.1 + 2 : Nat) : Int) := by rw [i_s (by omega)]; omega
          exact w_X9_umbrellas_66 (nxt (p.1, p.2.1 + 1, p.2.1 + 2) a (b + 1) (b + 1 + 1) e ha sb sb2)
        refine w_X9_umbrellas_107 (w_X9_umbrellas_46 (fun c1 => w_X9_umbrellas_60 (w_X9_umbrellas_63 (fun z => atA ?_) (fun z => goB ?_))) (fun c1 => w_X9_umbrellas_53 (w_X9_umbrellas_63 (fun z => atA ?_) (fun z => goB ?_))))
        · have z := i_lt.mp z
          have c1 := i_le.mp c1
          rw [if_neg (by omega)]
          omega
        · have z := nlt z
          have c1 := i_le.mp c1
          rw [if_neg (by omega)]
          omega
        · have z := i_lt.mp z
          have c1 := nle c1
          rw [if_pos (by omega)]
          omega
        · have z := nlt z
          have c1 := nle c1
          rw [if_pos (by omega)]
          omega
      have goC : p.2.2 < (if 2 < k then 19 else p.2.1 + 1) → wkB l G (d + 2 + 1) n_X9_umbrellas Q 72 [.ref 292, .int y, .int x, .int a, .int b, .int (c + 1)] [] K L R := fun nc => by
        have e : uNx k p = some (p.1, p.2.1, p.2.2 + 1) := by
          unfold uNx
          rw [if_pos nc]
        exact nxt (p.1, p.2.1, p.2.2 + 1) a b (c + 1) e ha hb sc
      by_cases nc : p.2.2 < (if 2 < k then 19 else p.2.1 + 1)
      · exact goC nc
      · have atB := atB nc
        refine w_X9_umbrellas_72 (fun c1 => w_X9_umbrellas_84 (w_X9_umbrellas_88 (fun _ => atB) (fun z => absurd (i_lt.mpr ?_) z))) (fun c1 => w_X9_umbrellas_79 (w_X9_umbrellas_88 (fun _ => atB) (fun z => absurd (i_lt.mpr ?_) z)))
        · have c1 := i_le.mp c1
          rw [if_neg (by omega)] at nc
          omega
        · have c1 := nle c1
          rw [if_pos (by omega)] at nc
          omega
    have try1 : wkB l G (d + 2 + 1) n_X9_umbrellas Q 91 [.ref 292, .int y, .int x, .int a, .int b, .int c] [] J L R := by
      refine w_X9_umbrellas_91 (uTries (d := d) hR hy h1 h3 hb6 ok ha hb hc ht hst hbs) (fun I1 L1 hq => ?_)
      obtain ⟨rfl, f1, f2, f3, f4⟩ := hq
      exact w_X9_umbrellas_101 (run I1 (fun i hi => by rw [f2]; exact ht i hi) f3 f4 (rU_tr hj f1))
    refine w_X9_umbrellas_72 (fun c1 => w_X9_umbrellas_84 (w_X9_umbrellas_88 (fun z => ?_) (fun _ => try1))) (fun c1 => w_X9_umbrellas_79 (w_X9_umbrellas_88 (fun z => ?_) (fun _ => try1)))
    · have c1 := i_le.mp c1
      have z := i_lt.mp z
      have := a7 (by omega)
      omega
    · have c1 := nle c1
      have z := i_lt.mp z
      have := a5 (by omega)
      omega
theorem uUmb (hR : wkR R) (hs : rS v A f n h sl I) (hA : aOk A) (hf : fOk A f) {y x : Int32} : wkI l G (d + 8) n_X9_umbrellas [.ref 292, .int y, .int x] I L R (fun z I' L' => L' = L ∧ z = qUmb A f y x ∧ rS v A f n h sl I' ∧ rMf I I') := by
  obtain ⟨hL, s1, s2, s3⟩ := id hs
  have n6 := hA.1
  have o1 : (1 : Int32).toInt = 1 := rfl
  have om : (-1 : Int32).toInt = -1 := rfl
  have o3 : (3 : Int32).toInt = 3 := rfl
  have bad : ¬ ((1 ≤ y.toInt ∧ y.toInt ≤ 3) ∧ -1 ≤ x.toInt ∧ x.toInt < y.toInt) → wkB l G (d + 7 + 1) n_X9_umbrellas (wkPI R (fun z I' L' => L' = L ∧ z = qUmb A f y x ∧ rS v A f n h sl I' ∧ rMf I I')) 20 [.ref 292, .int y, .int x, wkU, wkU, wkU] [] I L R := fun c => w_X9_umbrellas_20 ⟨rfl, rfl, _, rfl, rfl, by unfold qUmb; rw [if_pos c], hs, rMf_rf _⟩
  refine wkC_of 3 (by decide) (Nat.le_of_ble_eq_true rfl) (w_X9_umbrellas_0 (uIn (d := d + 6)) (fun z I1 L1 hq => ?_))
  obtain ⟨rfl, rfl, rfl⟩ := hq
  refine w_X9_umbrellas_6 (fun q => bad (fun c => if1.1 q (by rw [o1, o3]; exact c.1))) (fun q => w_X9_umbrellas_9 (uIn (d := d + 6)) (fun z I1 L1 hq => ?_))
  obtain ⟨rfl, rfl, rfl⟩ := hq
  have c1 := if1.2 q
  rw [o1, o3] at c1
  have ym : (y - 1).toInt = y.toInt - 1 := by rw [i_sub (by omega) (by omega), o1]
  refine w_X9_umbrellas_17 (fun q2 => w_X9_umbrellas_22 (uFill (d := d) hR hL s1 hA) (fun I2 L2 hq => ?_)) (fun q2 => bad (fun c => if1.1 q2 (by rw [om, ym]; omega)))
  obtain ⟨rfl, f2, g2⟩ := hq
  have c2 := if1.2 q2
  rw [om, ym] at c2
  have c0 : (1 ≤ y.toInt ∧ y.toInt ≤ 3) ∧ -1 ≤ x.toInt ∧ x.toInt < y.toInt := ⟨c1, c2.1, by omega⟩
  have hy : y.toInt = (y.toInt.toNat : Nat) := by omega
  have hb6 := uSn_b n6.1 f
  refine w_X9_umbrellas_26 (w_X9_umbrellas_33 (fun q => ?_) (fun _ => w_X9_umbrellas_41 ?_))
  · have q := i_lt.mp q
    rw [i_sub (by rw [show (20 : Int32).toInt = 20 from rfl]; omega) (by rw [show (20 : Int32).toInt = 20 from rfl]; omega), show (20 : Int32).toInt = 20 from rfl, show (0 : Int32).toInt = 0 from rfl] at q
    omega
  rw [show (0 + 1 : Int32) = 1 from rfl]
  have go : wkB l G (d + 7 + 1) n_X9_umbrellas (wkPI R (fun z I' L' => L' = L2 ∧ z = qUmb A f y x ∧ rS v A f n h sl I' ∧ rMf I1 I')) 72 [.ref 292, .int y, .int x, .int 0, .int 1, .int (1 + 1)] [] (qUp I2 292 55 (-1)) L2 R := by
    refine uUmM (d := d + 5) (I := I1) hR hb6 hy (by omega) (by omega) 1140 (0, 1, 2) (-1, (0, 1, 2)) 0 1 (1 + 1) _ (uRk_0 (by omega) (by omega)) ?_ rfl rfl rfl (fun i hi => by rw [qUp_ro (by decide)]; exact g2 i hi) (by rw [qUp_at, if_pos ⟨rfl, rfl⟩]) (Or.inl rfl) (rU_tr f2 rU_55) (fun a' J' e1 e2 j => ?_)
    · exact ⟨by decide, by decide, by show 0 + y.toInt.toNat ≤ 20; omega, fun _ => by show 1 + y.toInt.toNat ≤ 21; omega, fun _ => by decide, fun _ => rfl, fun _ => rfl⟩
    · refine w_X9_umbrellas_119 (fun q => w_X9_umbrellas_131 hR (vin ?_ (by omega)) (w_X9_umbrellas_137 ⟨rfl, rfl, _, rfl, rfl, ?_, rS_u hs j, rMf_u j⟩)) (fun q => w_X9_umbrellas_124 (w_X9_umbrellas_137 ⟨rfl, rfl, _, rfl, rfl, ?_, rS_u hs j, rMf_u j⟩))
      · have : ¬ x.toInt = -1 := fun z => q (i_eq.mpr z)
        omega
      · have x0 : ¬ x.toInt = -1 := fun z => q (i_eq.mpr z)
        unfold qUmb
        rw [if_neg (fun z => z c0), if_neg q]
        exact uBs_at (by omega) (by omega) e2 (uEnd_ge (by omega) f _) (by omega) (by omega)
      · unfold qUmb
        rw [if_neg (fun z => z c0), if_pos q]
        exact e1
  refine w_X9_umbrellas_46 (fun k1 => w_X9_umbrellas_60 (w_X9_umbrellas_63 (fun z => absurd z (by decide)) (fun _ => w_X9_umbrellas_66 go))) (fun k1 => w_X9_umbrellas_53 (w_X9_umbrellas_63 (fun z => ?_) (fun _ => w_X9_umbrellas_66 go)))
  have z := i_lt.mp z
  rw [i_sub (by rw [show (21 : Int32).toInt = 21 from rfl]; omega) (by rw [show (21 : Int32).toInt = 21 from rfl]; omega), show (21 : Int32).toInt = 21 from rfl, o1] at z
  omega
end
