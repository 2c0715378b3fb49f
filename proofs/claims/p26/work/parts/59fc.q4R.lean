/-! ===== book, rich: the reference's ===== -/
theorem qS_b {f : Nat → Int32} : ∀ (n k : Nat) (acc : Int32) (c : Nat), (∀ j, k ≤ j → j < k + n → 0 ≤ (f j).toInt ∧ (f j).toInt ≤ 99999) → 0 ≤ acc.toInt → acc.toInt ≤ c → c + n * 99999 < 2000000000 → 0 ≤ (qS f n k acc).toInt ∧ (qS f n k acc).toInt ≤ ((c + n * 99999 : Nat) : Int)
  | 0, k, acc, c, _, h0, h1, _ => ⟨h0, by rw [qS]; omega⟩
  | n + 1, k, acc, c, h, h0, h1, h2 => by
    have hk := h k (by omega) (by omega)
    have e : (acc + f k).toInt = acc.toInt + (f k).toInt := i_add (by omega) (by omega)
    have := qS_b n (k + 1) (acc + f k) (c + 99999) (fun j a b => h j (by omega) (by omega)) (by omega) (by omega) (by omega)
    rw [qS]
    exact ⟨this.1, by have := this.2; omega⟩
theorem qWl_b {A : aD} {F : Nat → Int32} (hf : fOk A F) {a : Nat} (ha : a < 6) : 0 ≤ (qWl F a).toInt ∧ (qWl F a).toInt ≤ 699993 := by
  have h1 := hf.2.1 a ha
  have h2 := qS_b (f := fun e => F (24 + (6 * a + e))) 6 0 0 0 (fun j _ b => hf.2.2.1 (6 * a + j) (by omega)) (by decide) (by decide) (by decide)
  unfold qWl qLentBy
  rw [i_add (by omega) (by omega)]
  omega
section
variable {l : Launch} {G : qG} {d : Nat} {I : qMI} {L : qML} {R : qMR} {v n : Nat} {A : aD} {f : Nat → Int32} {h sl : Nat → Nat → Int32}
theorem uBook (hR : wkR R) (hs : rS v A f n h sl I) (hA : aOk A) (hf : fOk A f) {x m : Int32} : wkI l G (d + 10) n_X9_book [.ref 292, .int x, .int m] I L R (fun z I' L' => L' = L ∧ z = qBook A f x m ∧ rS v A f n h sl I' ∧ rMf I I') := by
  obtain ⟨hL, s1, s2, s3⟩ := id hs
  have n6 := hA.1
  have bad : ¬ (okS A x ∧ okH m) → wkB l G (d + 9 + 1) n_X9_book (wkPI R (fun z I' L' => L' = L ∧ z = qBook A f x m ∧ rS v A f n h sl I' ∧ rMf I I')) 15 [.ref 292, .int x, .int m] [] I L R := fun c => w_X9_book_15 ⟨rfl, rfl, _, rfl, rfl, by unfold qBook; rw [if_pos c], hs, rMf_rf I⟩
  refine wkC_of 0 (by decide) (Nat.le_of_ble_eq_true rfl) (w_X9_book_0 (uIsSeat (d := d + 7) hR hL) (fun z I1 L1 hq => ?_))
  obtain ⟨rfl, rfl, rfl⟩ := hq
  refine w_X9_book_5 (fun q => bad (fun c => if1.1 q c.1)) (fun q => w_X9_book_8 (uIsLong (d := d + 7)) (fun z I1 L1 hq => ?_))
  obtain ⟨rfl, rfl, rfl⟩ := hq
  refine w_X9_book_12 (fun q2 => ?_) (fun q2 => bad (fun c => if1.1 q2 c.2))
  have c0 : okS A x ∧ okH m := ⟨if1.2 q, if1.2 q2⟩
  have x0 := c0.1
  have m0 := c0.2
  have hx : x.toInt = x.toInt.toNat := by omega
  have z6 : (6 : Int32).toInt = 6 := rfl
  have i6 : (6 + x).toInt = 6 + x.toInt.toNat := by rw [i_add (by omega) (by omega), z6]; omega
  have c6 : (6 + x).toNatClampNeg = 6 + x.toInt.toNat := by rw [tcn]; omega
  refine w_X9_book_17 (uCopies (d := d + 8) hR hL s1) (fun I2 L2 hq => ?_)
  obtain ⟨rfl, f2, g2, e50, e2⟩ := hq
  have hs2 := rS_cp hs f2 g2
  refine w_X9_book_21 (uGoes (d := d) hR hs2.1 hA hf e2 e50 (n := m.toInt.toNat) (by omega)) (fun I3 L3 hq => ?_)
  obtain ⟨rfl, f3, e3⟩ := hq
  have hs3 := rS_g hs2 f3
  have fF : fOk A (qAh A f m) := fOk_go hA _ _ hf
  refine w_X9_book_26 hR (vin (by omega) (by omega)) (uLentBy (d := d + 8) hR hs3.1 hA fF e3 hx (by omega)) (fun z I4 L4 hq => ?_)
  obtain ⟨rfl, rfl, rfl⟩ := hq
  refine w_X9_book_40 ⟨rfl, rfl, _, rfl, rfl, ?_, hs3, rMf_tr (rMf_cp g2) (rMf_g f3)⟩
  unfold qBook
  rw [if_neg (fun z => z c0), c6, e3 _ (by omega)]
  rfl
theorem uRichL (hR : wkR R) (hL : rHas v I A) (hA : aOk A) {F : Nat → Int32} (hF : fOk A F) (hs : rEq I 324 F) {Q : qQ} {x w : Int32} : ∀ (m a : Nat) (y : Int32) (c : Int32 × Int32), a + m = A.2.1.length → y.toInt = a → Q (some (.int (riA w (qRi (qWl F) m a y c)))) 336 I L R → wkB l G (d + 1 + 1) n_X9_rich Q 37 [.ref 292, .int x, .int w, .int c.1, .int c.2, .int y, wkU] [] I L R := by
  have n6 := hA.1
  have hv := hL.1.1
  have h18' := hL.1.2
  have cl : (I 292 18).toNatClampNeg = v := by rw [tcn]; omega
  have hn2 := (rHas_n hL).2.1
  have z6 : (6 : Int32).toInt = 6 := rfl
  intro m
  induction m with
  | zero =>
    intro a y c hn hy q0
    rw [qRi] at q0
    refine w_X9_rich_37 hR (vin (by omega) (by omega)) (fun _ => w_X9_rich_93 (fun q => w_X9_rich_101 (w_X9_rich_103 ?_)) (fun q => w_X9_rich_97 (w_X9_rich_103 ?_))) (fun q => absurd (i_le.mpr (by rw [cl]; omega)) q)
    · rw [riA, if_neg q] at q0
      exact q0
    · rw [riA, if_pos q] at q0
      exact q0
  | succ m ih =>
    intro a y c hn hy q0
    have y1 : (y + 1).toInt = ((a + 1 : Nat) : Int) := by rw [i_s (by omega)]; omega
    have i6 : (6 + y).toInt = 6 + a := by rw [i_add (by omega) (by omega), hy, z6]
    have c6 : (6 + y).toNatClampNeg = 6 + a := by rw [tcn]; omega
    refine w_X9_rich_37 hR (vin (by omega) (by omega)) (fun q => absurd (i_le.mp q) (by rw [cl]; omega)) (fun _ => w_X9_rich_51 hR (vin (by omega) (by omega)) (uLentBy (d := d) hR hL hA hF hs hy (by omega)) (fun z I4 L4 hq => ?_))
    obtain ⟨rfl, rfl, rfl⟩ := hq
    rw [c6, hs _ (by omega)]
    refine w_X9_rich_67 (fun q => w_X9_rich_80 (w_X9_rich_87 (ih (a + 1) _ (y, qWl F a) (by omega) y1 ?_))) (fun q => w_X9_rich_77 (w_X9_rich_87 (ih (a + 1) _ c (by omega) y1 ?_)))
    · have q : c.2 < qWl F a := q
      rw [qRi_t q] at q0
      exact q0
    · have q : ¬ c.2 < qWl F a := q
      rw [qRi_f q] at q0
      exact q0
theorem uRich (hR : wkR R) (hs : rS v A f n h sl I) (hA : aOk A) (hf : fOk A f) {m w : Int32} : wkI l G (d + 10) n_X9_rich [.ref 292, .int m, .int w] I L R (fun z I' L' => L' = L ∧ z = qRich A f m w ∧ rS v A f n h sl I' ∧ rMf I I') := by
  obtain ⟨hL, s1, s2, s3⟩ := id hs
  have n6 := hA.1
  have bad : ¬ (okH m ∧ 0 ≤ w.toInt ∧ w.toInt ≤ 1) → wkB l G (d + 9 + 1) n_X9_rich (wkPI R (fun z I' L' => L' = L ∧ z = qRich A f m w ∧ rS v A f n h sl I' ∧ rMf I I')) 16 [.ref 292, .int m, .int w, wkU, wkU, wkU, wkU] [] I L R := fun c => w_X9_rich_16 ⟨rfl, rfl, _, rfl, rfl, by unfold qRich; rw [if_pos c], hs, rMf_rf I⟩
  refine wkC_of 4 (by decide) (Nat.le_of_ble_eq_true rfl) (w_X9_rich_0 (uIsLong (d := d + 7)) (fun z I1 L1 hq => ?_))
  obtain ⟨rfl, rfl, rfl⟩ := hq
  refine w_X9_rich_4 (fun q => bad (fun c => if1.1 q c.1)) (fun q => w_X9_rich_7 (uIn (d := d + 8)) (fun z I1 L1 hq => ?_))
  obtain ⟨rfl, rfl, rfl⟩ := hq
  refine w_X9_rich_13 (fun q2 => ?_) (fun q2 => bad (fun c => if1.1 q2 (by rw [show (0 : Int32).toInt = 0 from rfl, show (1 : Int32).toInt = 1 from rfl]; exact c.2)))
  have c2 := if1.2 q2
  rw [show (0 : Int32).toInt = 0 from rfl, show (1 : Int32).toInt = 1 from rfl] at c2
  have c0 : okH m ∧ 0 ≤ w.toInt ∧ w.toInt ≤ 1 := ⟨if1.2 q, c2⟩
  have m0 := c0.1
  refine w_X9_rich_18 (uCopies (d := d + 8) hR hL s1) (fun I2 L2 hq => ?_)
  obtain ⟨rfl, f2, g2, e50, e2⟩ := hq
  have hs2 := rS_cp hs f2 g2
  refine w_X9_rich_22 (uGoes (d := d) hR hs2.1 hA hf e2 e50 (n := m.toInt.toNat) (by omega)) (fun I3 L3 hq => ?_)
  obtain ⟨rfl, f3, e3⟩ := hq
  have hs3 := rS_g hs2 f3
  have fF : fOk A (qAh A f m) := fOk_go hA _ _ hf
  refine w_X9_rich_27 (uRichL (d := d + 8) (c := (-2, -2)) hR hs3.1 hA fF e3 A.2.1.length 0 0 (by omega) rfl ⟨rfl, rfl, _, rfl, rfl, ?_, hs3, rMf_tr (rMf_cp g2) (rMf_g f3)⟩)
  unfold qRich
  rw [if_neg (fun z => z c0)]
  by_cases l0 : A.2.1.length = 0
  · rw [if_pos l0, l0, qRi]
    unfold riA
    split <;> rfl
  · rw [if_neg l0]
    have e1 : A.2.1.length = (A.2.1.length - 1) + 1 := by omega
    have wb := qWl_b fF (a := 0) (by omega)
    have st := qRi_t (g := qWl (qAh A f m)) (m := A.2.1.length - 1) (a := 0) (y := 0) (c := (-2, -2)) (i_lt.mpr (by show (-2 : Int32).toInt < _; rw [show (-2 : Int32).toInt = -2 from rfl]; omega))
    rw [← e1] at st
    rw [st]
    rfl
end
