/-! ===== the reference's state; lend, call, move, hours, undo, hold, restore ===== -/
abbrev rKr (k : Nat) : Prop := k < 292 ∨ (293 ≤ k ∧ k ≤ 320) ∨ (330 ≤ k ∧ k ≤ 332) ∨ k = 334
/-- its keep: what no call but read, hold, the tape's and tell changes -/
def rKp (sl : Nat → Nat → Int32) (I : qMI) : Prop := ∀ k, rKr k → ∀ j, I k j = sl (100 + k) j
theorem rKp_of {sl : Nat → Nat → Int32} {I J : qMI} (h : rKp sl I) (e : ∀ k, rKr k → J k = I k) : rKp sl J := fun k a j => by rw [e k a]; exact h k a j
theorem rKp_eq {sl : Nat → Nat → Int32} {I J : qMI} (h : rKp sl I) (g : rKp sl J) : ∀ k, rKr k → J k = I k := fun k a => funext fun j => (g k a j).trans (h k a j).symm
def rS0 (v : Nat) (A : aD) (f : Nat → Int32) (n : Nat) (h sl : Nat → Nat → Int32) (I : qMI) : Prop := rHas v I A ∧ rEq I 323 f ∧ hEq I n h ∧ ∀ i, i < 3 → ¬ I 334 i = 0 → ∀ k, k < 97 → I 335 (97 * i + k) = sl i k
def rS20 (v : Nat) (A : aD) (f : Nat → Int32) (n : Nat) (h sl : Nat → Nat → Int32) (I : qMI) : Option (Nat → Int32) → Prop
  | none => rS0 v A f n h sl I
  | some g => rS0 v A g (hN n) (hH n h f) sl I
def rS (v : Nat) (A : aD) (f : Nat → Int32) (n : Nat) (h sl : Nat → Nat → Int32) (I : qMI) : Prop := rHas v I A ∧ rEq I 323 f ∧ hEq I n h ∧ (∀ i, i < 3 → ¬ I 334 i = 0 → ∀ k, k < 97 → I 335 (97 * i + k) = sl i k) ∧ rKp sl I
def rS2 (v : Nat) (A : aD) (f : Nat → Int32) (n : Nat) (h sl : Nat → Nat → Int32) (I : qMI) : Option (Nat → Int32) → Prop
  | none => rS v A f n h sl I
  | some g => rS v A g (hN n) (hH n h f) sl I
section
variable {v n : Nat} {A : aD} {f g : Nat → Int32} {h sl : Nat → Nat → Int32} {I J : qMI}
theorem rS_0 (s : rS v A f n h sl I) : rS0 v A f n h sl I := ⟨s.1, s.2.1, s.2.2.1, s.2.2.2.1⟩
theorem rS_k (s : rS v A f n h sl I) : rKp sl I := s.2.2.2.2
theorem rS2_0 {g : Option (Nat → Int32)} (s : rS2 v A f n h sl I g) : rS20 v A f n h sl I g ∧ rKp sl I := by
  cases g with
  | none => exact ⟨rS_0 (show rS v A f n h sl I from s), rS_k (show rS v A f n h sl I from s)⟩
  | some x => exact ⟨rS_0 (show rS v A x (hN n) (hH n h f) sl I from s), rS_k (show rS v A x (hN n) (hH n h f) sl I from s)⟩
theorem rS_gh (s : rS0 v A f n h sl I) : rS v A f n h (gS sl I) I := ⟨s.1, s.2.1, s.2.2.1, fun i hi q k hk => by rw [gS_l (by omega)]; exact s.2.2.2 i hi q k hk, fun k _ j => by rw [gS_h]⟩
theorem rS0_gh {J : qMI} (s : rS0 v A f n h sl I) : rS0 v A f n h (gS sl J) I := ⟨s.1, s.2.1, s.2.2.1, fun i hi q k hk => by rw [gS_l (by omega)]; exact s.2.2.2 i hi q k hk⟩
theorem rS0_of (s : rS0 v A f n h sl I) (e : ∀ k, (301 ≤ k ∧ k ≤ 319) ∨ k = 323 ∨ k = 325 ∨ k = 334 ∨ k = 335 → J k = I k) (e18 : J 292 18 = I 292 18) (e51 : J 292 51 = I 292 51) : rS0 v A f n h sl J := by
  obtain ⟨s1, s2, ⟨s3, s4, s5⟩, s6⟩ := s
  exact ⟨rHas_fr (fun x a b => e x (by omega)) e18 s1, rEq_of s2 (e 323 (by decide)), ⟨by rw [e51]; exact s3, s4, fun i hi k hk => by rw [e 325 (by decide)]; exact s5 i hi k hk⟩, fun i hi q k hk => by rw [e 334 (by decide)] at q; rw [e 335 (by decide)]; exact s6 i hi q k hk⟩
theorem rS_of (s : rS v A f n h sl I) (e : ∀ k, (301 ≤ k ∧ k ≤ 319) ∨ k = 323 ∨ k = 325 ∨ k = 334 ∨ k = 335 ∨ k < 292 ∨ (293 ≤ k ∧ k ≤ 320) ∨ (330 ≤ k ∧ k ≤ 332) → J k = I k) (e18 : J 292 18 = I 292 18) (e51 : J 292 51 = I 292 51) : rS v A f n h sl J := by
  obtain ⟨s1, s2, ⟨s3, s4, s5⟩, s6, s7⟩ := s
  exact ⟨rHas_fr (fun x a b => e x (by omega)) e18 s1, rEq_of s2 (e 323 (by decide)), ⟨by rw [e51]; exact s3, s4, fun i hi k hk => by rw [e 325 (by decide)]; exact s5 i hi k hk⟩, fun i hi q k hk => by rw [e 334 (by decide)] at q; rw [e 335 (by decide)]; exact s6 i hi q k hk, rKp_of s7 (fun k a => e k (by omega))⟩
theorem rS_g (s : rS v A f n h sl I) (q : rFg I J) : rS v A f n h sl J := rS_of s (fun k a => q.1 k (by omega) (by omega) (by omega) (by omega)) (q.2 18 (by decide)) (q.2 51 (by decide))
theorem rS_cp (s : rS v A f n h sl I) (e : ∀ k, k ≠ 324 → k ≠ 292 → J k = I k) (e2 : ∀ j, j ≠ 50 → J 292 j = I 292 j) : rS v A f n h sl J := rS_of s (fun k a => e k (by omega) (by omega)) (e2 18 (by decide)) (e2 51 (by decide))
theorem rS_324 {i : Nat} {x : Int32} (s : rS v A f n h sl I) : rS v A f n h sl (qUp I 324 i x) := rS_g s rFg_up
theorem rS_rec (s : rS v A f n h sl I) (a : ∀ k, k ≠ 323 → k ≠ 325 → k ≠ 292 → J k = I k) (b : ∀ j, j ≠ 51 → J 292 j = I 292 j) (c : rEq J 323 g) (e : hEq J (hN n) (hH n h f)) : rS v A g (hN n) (hH n h f) sl J := by
  obtain ⟨s1, s2, s3, s6, s7⟩ := s
  exact ⟨rHas_fr (fun x p q => a x (by omega) (by omega) (by omega)) (b 18 (by decide)) s1, c, e, fun i hi q k hk => by rw [a 334 (by decide) (by decide) (by decide)] at q; rw [a 335 (by decide) (by decide) (by decide)]; exact s6 i hi q k hk, rKp_of s7 (fun k q => a k (by omega) (by omega) (by omega))⟩
end
/-- the object's own fields but three -/
def rMf (I J : qMI) : Prop := ∀ j, j ≠ 47 → j ≠ 50 → j ≠ 51 → j ≠ 55 → J 292 j = I 292 j
theorem rMf_rf (I : qMI) : rMf I I := fun _ _ _ _ _ => rfl
theorem rMf_tr {I J K : qMI} (h : rMf I J) (g : rMf J K) : rMf I K := fun j a b c e => (g j a b c e).trans (h j a b c e)
theorem rMf_g {I J : qMI} (h : rFg I J) : rMf I J := fun j a _ _ _ => h.2 j a
theorem rMf_cp {I J : qMI} (h : ∀ j, j ≠ 50 → J 292 j = I 292 j) : rMf I J := fun j _ a _ _ => h j a
theorem rMf_rec {I J : qMI} (h : ∀ j, j ≠ 51 → J 292 j = I 292 j) : rMf I J := fun j _ _ a _ => h j a
theorem rEq_eq {I : qMI} {r : Nat} {f g : Nat → Int32} (h : rEq I r f) (e : ∀ k, k < 97 → f k = g k) : rEq I r g := fun k hk => (h k hk).trans (e k hk)
section
variable {l : Launch} {G : qG} {d : Nat} {I : qMI} {L : qML} {R : qMR} {v n : Nat} {A : aD} {f : Nat → Int32} {h sl : Nat → Nat → Int32}
theorem uLend (hR : wkR R) (hs : rS v A f n h sl I) (hA : aOk A) (hf : fOk A f) {x y m : Int32} : wkI l G (d + 10) n_X9_lend [.ref 292, .int x, .int y, .int m] I L R (fun z I' L' => L' = L ∧ z = (pLend A f x y m).1 ∧ rS2 v A f n h sl I' (pLend A f x y m).2 ∧ rMf I I') := by
  obtain ⟨hL, s1, s2, s3⟩ := id hs
  have n6 := hA.1
  have bad : ¬ (okS A x ∧ okT A y ∧ 1 ≤ m.toInt ∧ m.toInt ≤ 999) → wkB l G (d + 9 + 1) n_X9_lend (wkPI R (fun z I' L' => L' = L ∧ z = (pLend A f x y m).1 ∧ rS2 v A f n h sl I' (pLend A f x y m).2 ∧ rMf I I')) 27 [.ref 292, .int x, .int y, .int m, wkU] [] I L R := fun c => w_X9_lend_27 ⟨rfl, rfl, _, rfl, rfl, by unfold pLend; rw [if_pos c], by unfold pLend; rw [if_pos c]; exact hs, rMf_rf I⟩
  refine wkC_of 1 (by decide) (Nat.le_of_ble_eq_true rfl) (w_X9_lend_0 (uIsSeat (d := d + 7) hR hL) (fun z I1 L1 hq => ?_))
  obtain ⟨rfl, rfl, rfl⟩ := hq
  refine w_X9_lend_5 (fun q => bad (fun c => if1.1 q c.1)) (fun q => w_X9_lend_8 (uIsThing (d := d + 7) hR hL) (fun z I1 L1 hq => ?_))
  obtain ⟨rfl, rfl, rfl⟩ := hq
  refine w_X9_lend_13 (fun q2 => bad (fun c => if1.1 q2 c.2.1)) (fun q2 => w_X9_lend_16 (uIn (d := d + 8)) (fun z I1 L1 hq => ?_))
  obtain ⟨rfl, rfl, rfl⟩ := hq
  refine w_X9_lend_24 (fun q3 => ?_) (fun q3 => bad (fun c => if1.1 q3 c.2.2))
  have pr := if1.2 q
  have pr2 := if1.2 q2
  have pr3 := if1.2 q3
  rw [show (1 : Int32).toInt = 1 from rfl, show (999 : Int32).toInt = 999 from rfl] at pr3
  have c0 : okS A x ∧ okT A y ∧ 1 ≤ m.toInt ∧ m.toInt ≤ 999 := ⟨pr, pr2, pr3⟩
  obtain ⟨x0, x1⟩ := pr
  obtain ⟨y0, y1⟩ := pr2
  have ha : x.toInt = x.toInt.toNat := by omega
  have he : y.toInt = y.toInt.toNat := by omega
  generalize hga : x.toInt.toNat = a at ha
  generalize hge : y.toInt.toNat = e at he
  have z6 : (6 : Int32).toInt = 6 := rfl
  have z24 : (24 : Int32).toInt = 24 := rfl
  have z60 : (60 : Int32).toInt = 60 := rfl
  have m6 : (6 * x).toInt = 6 * a := by rw [i_mul (by rw [z6]; omega) (by rw [z6]; omega), ha]; rfl
  have la : (6 * x + y).toInt = 6 * a + e := by rw [i_add (by omega) (by omega), m6, he]
  have i24 : (24 + (6 * x + y)).toInt = 24 + (6 * a + e) := by rw [i_add (by omega) (by omega), la, z24]
  have i60 : (60 + (6 * x + y)).toInt = 60 + (6 * a + e) := by rw [i_add (by omega) (by omega), la, z60]
  have i6 : (6 + x).toInt = 6 + a := by rw [i_add (by omega) (by omega), ha, z6]
  have c24 : (24 + (6 * x + y)).toNatClampNeg = 24 + (6 * a + e) := by rw [tcn]; omega
  have c60 : (60 + (6 * x + y)).toNatClampNeg = 60 + (6 * a + e) := by rw [tcn]; omega
  have c6 : (6 + x).toNatClampNeg = 6 + a := by rw [tcn]; omega
  have cx : x.toNatClampNeg = a := by rw [tcn]; omega
  have t96 : (96 : Int32).toNatClampNeg = 96 := rfl
  have vx : vp_in x 97 := vin (by omega) (by omega)
  have v96 : vp_in 96 97 := vin (by decide) (by decide)
  have v24 : vp_in (24 + (6 * x + y)) 97 := vin (by omega) (by omega)
  have v60 : vp_in (60 + (6 * x + y)) 97 := vin (by omega) (by omega)
  have v6 : vp_in (6 + x) 97 := vin (by omega) (by omega)
  have lb := hf.2.2.1 (6 * a + e) (by omega)
  have low : ∀ J : qMI, rS v A f n h sl J → rMf I1 J → (f (6 + a) < m ∨ ¬ f (24 + (6 * a + e)) = 0 ∨ ¬ pSn A f a e) → wkB l G (d + 9 + 1) n_X9_lend (wkPI R (fun z I' L' => L' = L1 ∧ z = (pLend A f x y m).1 ∧ rS2 v A f n h sl I' (pLend A f x y m).2 ∧ rMf I1 I')) 88 [.ref 292, .int x, .int y, .int m, .int (6 * x + y)] [] J L1 R := fun J j r c => by
    have ev : pLend A f x y m = (-2, none) := by
      unfold pLend lnI
      rw [if_neg (fun z => z c0), hga, hge, if_pos c]
    exact w_X9_lend_88 ⟨rfl, rfl, _, rfl, rfl, by rw [ev], by rw [ev]; exact j, r⟩
  refine w_X9_lend_29 (uCopies (d := d + 8) hR hL s1) (fun I2 L2 hq => ?_)
  obtain ⟨rfl, f2, g2, -, e2⟩ := hq
  have hs2 := rS_cp hs f2 g2
  have r2 : rMf I1 I2 := rMf_cp g2
  refine w_X9_lend_33 hR v6 (fun q4 => low _ hs2 r2 (Or.inl ?_)) (fun q4 => w_X9_lend_54 hR v24 (fun q5 => low _ hs2 r2 (Or.inr (Or.inl ?_))) (fun q5 => ?_))
  · rw [c6, e2 _ (by omega)] at q4
    exact q4
  · rw [c24, e2 _ (by omega)] at q5
    exact fun z => by rw [z] at q5; exact absurd q5 (by decide)
  rw [c6, e2 _ (by omega)] at q4
  rw [c24, e2 _ (by omega)] at q5
  have l0 : f (24 + (6 * a + e)) = 0 := i_eq.mpr (by have := nlt q5; rw [show (0 : Int32).toInt = 0 from rfl] at this ⊢; omega)
  refine w_X9_lend_67 hR vx v96 (P := fun z I' L' => L' = L2 ∧ rW I2 I' ∧ z = if pSn A f a e then 1 else 0) (by rw [cx, t96, e2 _ (by omega), e2 96 (by omega)]; exact uSees (d := d + 3) hR hs2.1 (hf.1 a (by omega)) he (by omega) (hA.2.1 e (by omega))) (fun z I3 L3 hq => ?_)
  obtain ⟨rfl, q3', rfl⟩ := hq
  have hs3 := rS_g hs2 (rFg_w q3')
  have r3 : rMf I1 I3 := rMf_tr r2 (rMf_g (rFg_w q3'))
  have e3 := rEq_w q3' e2
  refine w_X9_lend_85 (fun q6 => ?_) (fun q6 => low _ hs3 r3 (Or.inr (Or.inr (if1.1 q6))))
  have ev : pLend A f x y m = (f (6 + a) - m, some (tU (tU f (6 + a) (f (6 + a) - m)) (24 + (6 * a + e)) m)) := by
    unfold pLend lnI
    rw [if_neg (fun z => z c0), hga, hge, if_neg (fun z => by
      rcases z with z | z | z
      · exact q4 z
      · exact z l0
      · exact z (if1.2 q6))]
  have ec : I3 324 (6 + a) = f (6 + a) := e3 _ (by omega)
  have u0 : f (60 + (6 * a + e)) = 0 := hf.2.2.2.1 _ (by omega) l0
  have e4 : rEq (qUp (qUp (qUp I3 324 (6 + a) (f (6 + a) - m)) 324 (24 + (6 * a + e)) m) 324 (60 + (6 * a + e)) 0) 324 (tU (tU f (6 + a) (f (6 + a) - m)) (24 + (6 * a + e)) m) := rEq_eq (rEq_up (rEq_up (rEq_up e3))) (fun k hk => by
    by_cases c : k = 60 + (6 * a + e)
    · rw [c, tU_s, tU_o (by omega), tU_o (by omega), u0]
    · rw [tU_o c])
  have hs4 : rS v A f n h sl (qUp (qUp (qUp I3 324 (6 + a) (f (6 + a) - m)) 324 (24 + (6 * a + e)) m) 324 (60 + (6 * a + e)) 0) := rS_324 (rS_324 (rS_324 hs3))
  refine w_X9_lend_91 hR v6 v6 v24 v60 (P := fun I' L' => L' = L3 ∧ rS v A (tU (tU f (6 + a) (f (6 + a) - m)) (24 + (6 * a + e)) m) (hN n) (hH n h f) sl I' ∧ rMf I1 I') ?_ (fun I5 L5 hq => ?_)
  · rw [c6, c24, c60, ec]
    refine wkV.mono (uRecords (d := d + 7) hR hs4.2.2.1 hs4.2.1 e4) (fun I' L' hq => ?_)
    obtain ⟨p1, p2, p3, p4, p5⟩ := hq
    exact ⟨p1, rS_rec hs4 p2 p3 p4 p5, rMf_tr (rMf_tr r3 (rMf_g (rFg_tr rFg_up (rFg_tr rFg_up rFg_up)))) (rMf_rec p3)⟩
  obtain ⟨rfl, hs5, r5⟩ := hq
  refine w_X9_lend_130 hR v6 ⟨rfl, rfl, _, rfl, rfl, ?_, ?_⟩
  · rw [ev, c6, hs5.2.1 _ (by omega), tU_o (by omega), tU_s]
  · rw [ev]
    exact ⟨hs5, r5⟩
theorem uCall (hR : wkR R) (hs : rS v A f n h sl I) (hA : aOk A) (hf : fOk A f) {x y : Int32} : wkI l G (d + 10) n_X9_call [.ref 292, .int x, .int y] I L R (fun z I' L' => L' = L ∧ z = (pCall A f x y).1 ∧ rS2 v A f n h sl I' (pCall A f x y).2 ∧ rMf I I') := by
  obtain ⟨hL, s1, s2, s3⟩ := id hs
  have n6 := hA.1
  have bad : ¬ (okS A x ∧ okT A y) → wkB l G (d + 9 + 1) n_X9_call (wkPI R (fun z I' L' => L' = L ∧ z = (pCall A f x y).1 ∧ rS2 v A f n h sl I' (pCall A f x y).2 ∧ rMf I I')) 16 [.ref 292, .int x, .int y, wkU, wkU] [] I L R := fun c => w_X9_call_16 ⟨rfl, rfl, _, rfl, rfl, by unfold pCall; rw [if_pos c], by unfold pCall; rw [if_pos c]; exact hs, rMf_rf I⟩
  refine wkC_of 2 (by decide) (Nat.le_of_ble_eq_true rfl) (w_X9_call_0 (uIsSeat (d := d + 7) hR hL) (fun z I1 L1 hq => ?_))
  obtain ⟨rfl, rfl, rfl⟩ := hq
  refine w_X9_call_5 (fun q => bad (fun c => if1.1 q c.1)) (fun q => w_X9_call_8 (uIsThing (d := d + 7) hR hL) (fun z I1 L1 hq => ?_))
  obtain ⟨rfl, rfl, rfl⟩ := hq
  refine w_X9_call_13 (fun q2 => ?_) (fun q2 => bad (fun c => if1.1 q2 c.2))
  have pr := if1.2 q
  have pr2 := if1.2 q2
  have c0 : okS A x ∧ okT A y := ⟨pr, pr2⟩
  obtain ⟨x0, x1⟩ := pr
  obtain ⟨y0, y1⟩ := pr2
  have ha : x.toInt = x.toInt.toNat := by omega
  have he : y.toInt = y.toInt.toNat := by omega
  generalize hga : x.toInt.toNat = a at ha
  generalize hge : y.toInt.toNat = e at he
  have z6 : (6 : Int32).toInt = 6 := rfl
  have z24 : (24 : Int32).toInt = 24 := rfl
  have z60 : (60 : Int32).toInt = 60 := rfl
  have m6 : (6 * x).toInt = 6 * a := by rw [i_mul (by rw [z6]; omega) (by rw [z6]; omega), ha]; rfl
  have la : (6 * x + y).toInt = 6 * a + e := by rw [i_add (by omega) (by omega), m6, he]
  have i24 : (24 + (6 * x + y)).toInt = 24 + (6 * a + e) := by rw [i_add (by omega) (by omega), la, z24]
  have i60 : (60 + (6 * x + y)).toInt = 60 + (6 * a + e) := by rw [i_add (by omega) (by omega), la, z60]
  have i6 : (6 + x).toInt = 6 + a := by rw [i_add (by omega) (by omega), ha, z6]
  have c24 : (24 + (6 * x + y)).toNatClampNeg = 24 + (6 * a + e) := by rw [tcn]; omega
  have c60 : (60 + (6 * x + y)).toNatClampNeg = 60 + (6 * a + e) := by rw [tcn]; omega
  have c6 : (6 + x).toNatClampNeg = 6 + a := by rw [tcn]; omega
  have cx : x.toNatClampNeg = a := by rw [tcn]; omega
  have t96 : (96 : Int32).toNatClampNeg = 96 := rfl
  have vx : vp_in x 97 := vin (by omega) (by omega)
  have v96 : vp_in 96 97 := vin (by decide) (by decide)
  have v24 : vp_in (24 + (6 * x + y)) 97 := vin (by omega) (by omega)
  have v60 : vp_in (60 + (6 * x + y)) 97 := vin (by omega) (by omega)
  have v6 : vp_in (6 + x) 97 := vin (by omega) (by omega)
  have low : ∀ J : qMI, rS v A f n h sl J → rMf I1 J → (f (24 + (6 * a + e)) = 0 ∨ 99999 < f (6 + a) + f (24 + (6 * a + e)) ∨ ¬ pSn A f a e) → wkB l G (d + 9 + 1) n_X9_call (wkPI R (fun z I' L' => L' = L1 ∧ z = (pCall A f x y).1 ∧ rS2 v A f n h sl I' (pCall A f x y).2 ∧ rMf I1 I')) 84 [.ref 292, .int x, .int y, .int (6 * x + y), .int (f (24 + (6 * a + e)))] [] J L1 R := fun J j r c => by
    have ev : pCall A f x y = (-2, none) := by
      unfold pCall lnI
      rw [if_neg (fun z => z c0), hga, hge, if_pos c]
    exact w_X9_call_84 ⟨rfl, rfl, _, rfl, rfl, by rw [ev], by rw [ev]; exact j, r⟩
  refine w_X9_call_18 (uCopies (d := d + 8) hR hL s1) (fun I2 L2 hq => ?_)
  obtain ⟨rfl, f2, g2, -, e2⟩ := hq
  have hs2 := rS_cp hs f2 g2
  have r2 : rMf I1 I2 := rMf_cp g2
  have el2 : I2 324 (24 + (6 * a + e)) = f (24 + (6 * a + e)) := e2 _ (by omega)
  refine w_X9_call_22 hR v24 (fun q4 => ?_) (fun q4 => ?_)
  · rw [c24, el2] at q4 ⊢
    exact low _ hs2 r2 (Or.inl q4)
  rw [c24, el2] at q4 ⊢
  refine w_X9_call_45 hR vx v96 (P := fun z I' L' => L' = L2 ∧ rW I2 I' ∧ z = if pSn A f a e then 1 else 0) (by rw [cx, t96, e2 _ (by omega), e2 96 (by omega)]; exact uSees (d := d + 3) hR hs2.1 (hf.1 a (by omega)) he (by omega) (hA.2.1 e (by omega))) (fun z I3 L3 hq => ?_)
  obtain ⟨rfl, q3', rfl⟩ := hq
  have hs3 := rS_g hs2 (rFg_w q3')
  have r3 : rMf I1 I3 := rMf_tr r2 (rMf_g (rFg_w q3'))
  have e3 := rEq_w q3' e2
  refine w_X9_call_63 (fun q6 => low _ hs3 r3 (Or.inr (Or.inr (if1.1 q6)))) (fun q6 => ?_)
  have ec : I3 324 (6 + a) = f (6 + a) := e3 _ (by omega)
  refine w_X9_call_66 hR v6 (fun q5 => ?_) (fun q5 => low _ hs3 r3 (Or.inr (Or.inl ?_)))
  rotate_left
  · rw [c6, ec] at q5
    exact i_lt.mpr (by have := nle q5; omega)
  rw [c6, ec] at q5
  have ev : pCall A f x y = (f (24 + (6 * a + e)), some (tU (tU (tU f (6 + a) (f (6 + a) + f (24 + (6 * a + e)))) (24 + (6 * a + e)) 0) (60 + (6 * a + e)) 0)) := by
    unfold pCall lnI
    rw [if_neg (fun z => z c0), hga, hge, if_neg (fun z => by
      rcases z with z | z | z
      · exact q4 z
      · have := i_lt.mp z
        have := i_le.mp q5
        omega
      · exact z (if1.2 q6))]
  have e4 := rEq_up (k := 60 + (6 * a + e)) (x := 0) (rEq_up (k := 24 + (6 * a + e)) (x := 0) (rEq_up (k := 6 + a) (x := f (6 + a) + f (24 + (6 * a + e))) e3))
  have hs4 : rS v A f n h sl (qUp (qUp (qUp I3 324 (6 + a) (f (6 + a) + f (24 + (6 * a + e)))) 324 (24 + (6 * a + e)) 0) 324 (60 + (6 * a + e)) 0) := rS_324 (rS_324 (rS_324 hs3))
  refine w_X9_call_87 hR v6 v6 v24 v60 (P := fun I' L' => L' = L3 ∧ rS v A (tU (tU (tU f (6 + a) (f (6 + a) + f (24 + (6 * a + e)))) (24 + (6 * a + e)) 0) (60 + (6 * a + e)) 0) (hN n) (hH n h f) sl I' ∧ rMf I1 I') ?_ (fun I5 L5 hq => ?_)
  · rw [c6, c24, c60, ec]
    refine wkV.mono (uRecords (d := d + 7) hR hs4.2.2.1 hs4.2.1 e4) (fun I' L' hq => ?_)
    obtain ⟨p1, p2, p3, p4, p5⟩ := hq
    exact ⟨p1, rS_rec hs4 p2 p3 p4 p5, rMf_tr (rMf_tr r3 (rMf_g (rFg_tr rFg_up (rFg_tr rFg_up rFg_up)))) (rMf_rec p3)⟩
  obtain ⟨rfl, hs5, r5⟩ := hq
  exact w_X9_call_125 ⟨rfl, rfl, _, rfl, rfl, by rw [ev], by rw [ev]; exact hs5, r5⟩
theorem uMove (hR : wkR R) (hs : rS v A f n h sl I) (hA : aOk A) {x y : Int32} : wkI l G (d + 10) n_X9_move [.ref 292, .int x, .int y] I L R (fun z I' L' => L' = L ∧ z = (pMove A f x y).1 ∧ rS2 v A f n h sl I' (pMove A f x y).2 ∧ rMf I I') := by
  obtain ⟨hL, s1, s2, s3⟩ := id hs
  have n6 := hA.1
  have no : (¬ (okS A x ∧ okX y) ∨ f x.toInt.toNat = y) → wkB l G (d + 9 + 1) n_X9_move (wkPI R (fun z I' L' => L' = L ∧ z = (pMove A f x y).1 ∧ rS2 v A f n h sl I' (pMove A f x y).2 ∧ rMf I I')) 25 [.ref 292, .int x, .int y] [] I L R := fun c => w_X9_move_25 ⟨rfl, rfl, _, rfl, rfl, by unfold pMove; rw [if_pos c], by unfold pMove; rw [if_pos c]; exact hs, rMf_rf I⟩
  refine wkC_of 0 (by decide) (Nat.le_of_ble_eq_true rfl) (w_X9_move_0 (uIsSeat (d := d + 7) hR hL) (fun z I1 L1 hq => ?_))
  obtain ⟨rfl, rfl, rfl⟩ := hq
  refine w_X9_move_5 (fun q => no (Or.inl (fun c => if1.1 q c.1))) (fun q => w_X9_move_8 (uIsX (d := d + 7)) (fun z I1 L1 hq => ?_))
  obtain ⟨rfl, rfl, rfl⟩ := hq
  refine w_X9_move_12 (fun q2 => no (Or.inl (fun c => if1.1 q2 c.2))) (fun q2 => ?_)
  have c0 := if1.2 q
  have c1 := if1.2 q2
  have x0 := c0.1
  have x1 := c0.2
  have cx : x.toNatClampNeg = x.toInt.toNat := tcn x
  have vx : vp_in x 97 := vin (by omega) (by omega)
  have ex : I1 323 x.toInt.toNat = f x.toInt.toNat := s1 _ (by omega)
  refine w_X9_move_15 hR vx (fun q3 => ?_) (fun q3 => no (Or.inr ?_))
  · rw [cx, ex] at q3
    have ev : pMove A f x y = (1, some (tU f x.toInt.toNat y)) := by
      unfold pMove
      rw [if_neg (fun z => by
        rcases z with z | z
        · exact z ⟨c0, c1⟩
        · exact q3 z)]
    refine w_X9_move_27 (uCopies (d := d + 8) hR hL s1) (fun I2 L2 hq => ?_)
    obtain ⟨rfl, f2, g2, -, e2⟩ := hq
    have hs2 := rS_cp hs f2 g2
    have e4 := rEq_up (k := x.toInt.toNat) (x := y) e2
    have hs4 : rS v A f n h sl (qUp I2 324 x.toInt.toNat y) := rS_324 hs2
    refine w_X9_move_31 hR vx (P := fun I' L' => L' = L2 ∧ rS v A (tU f x.toInt.toNat y) (hN n) (hH n h f) sl I' ∧ rMf I1 I') ?_ (fun I5 L5 hq => ?_)
    · rw [cx]
      refine wkV.mono (uRecords (d := d + 7) hR hs4.2.2.1 hs4.2.1 e4) (fun I' L' hq => ?_)
      obtain ⟨p1, p2, p3, p4, p5⟩ := hq
      exact ⟨p1, rS_rec hs4 p2 p3 p4 p5, rMf_tr (rMf_cp g2) (rMf_tr (rMf_g rFg_up) (rMf_rec p3))⟩
    obtain ⟨rfl, hs5, r5⟩ := hq
    exact w_X9_move_42 ⟨rfl, rfl, _, rfl, rfl, by rw [ev], by rw [ev]; exact hs5, r5⟩
  · rw [cx, ex] at q3
    exact q3
theorem uHours (hR : wkR R) (hs : rS v A f n h sl I) (hA : aOk A) (hf : fOk A f) {x : Int32} : wkI l G (d + 10) n_X9_hours [.ref 292, .int x] I L R (fun z I' L' => L' = L ∧ z = (pHours A f x).1 ∧ rS2 v A f n h sl I' (pHours A f x).2 ∧ rMf I I') := by
  obtain ⟨hL, s1, s2, s3⟩ := id hs
  have v96 : vp_in 96 97 := vin (by decide) (by decide)
  have t96 : (96 : Int32).toNatClampNeg = 96 := rfl
  refine wkC_of 0 (by decide) (Nat.le_of_ble_eq_true rfl) (w_X9_hours_0 (uIsLong (d := d + 7)) (fun z I1 L1 hq => ?_))
  obtain ⟨rfl, rfl, rfl⟩ := hq
  refine w_X9_hours_4 (fun q => ?_) (fun q => w_X9_hours_7 ⟨rfl, rfl, _, rfl, rfl, by unfold pHours; rw [if_pos (if1.1 q)], by unfold pHours; rw [if_pos (if1.1 q)]; exact hs, rMf_rf _⟩)
  have c0 := if1.2 q
  refine w_X9_hours_9 (fun q2 => ?_) (fun q2 => ?_)
  · have q2 : ¬ x.toInt = 0 := fun z => q2 (i_eq.mpr z)
    have ev : pHours A f x = ((sGo A (A.2.2.1 11) (A.2.2.1 9) x.toInt.toNat f) 96, some (sGo A (A.2.2.1 11) (A.2.2.1 9) x.toInt.toNat f)) := by
      unfold pHours
      rw [if_neg (fun z => z c0), if_neg (by omega)]
    refine w_X9_hours_21 (uCopies (d := d + 8) hR hL s1) (fun I2 L2 hq => ?_)
    obtain ⟨rfl, f2, g2, e50, e2⟩ := hq
    have hs2 := rS_cp hs f2 g2
    refine w_X9_hours_25 (uGoes (d := d) (n := x.toInt.toNat) hR hs2.1 hA hf e2 e50 (by omega)) (fun I3 L3 hq => ?_)
    obtain ⟨rfl, q3, e3⟩ := hq
    have hs3 := rS_g hs2 q3
    refine w_X9_hours_30 (uRecords (d := d + 7) hR hs3.2.2.1 hs3.2.1 e3) (fun I4 L4 hq => ?_)
    obtain ⟨rfl, p2, p3, p4, p5⟩ := hq
    refine w_X9_hours_34 hR v96 ⟨rfl, rfl, _, rfl, rfl, ?_, ?_⟩
    · rw [ev, t96]
      exact p4 96 (by decide)
    · rw [ev]
      exact ⟨rS_rec hs3 p2 p3 p4 p5, rMf_tr (rMf_cp g2) (rMf_tr (rMf_g q3) (rMf_rec p3))⟩
  · have ev : pHours A f x = (f 96, none) := by
      unfold pHours
      rw [if_neg (fun z => z c0), if_pos (by rw [q2]; decide)]
    exact w_X9_hours_13 hR v96 ⟨rfl, rfl, _, rfl, rfl, by rw [ev, t96]; exact s1 96 (by decide), by rw [ev]; exact hs, rMf_rf _⟩
theorem uUndo (hR : wkR R) (hs : rS v A f n h sl I) : wkI l G (d + 1) n_X9_undo [.ref 292] I L R (fun z I' L' => L' = L ∧ ((n = 0 ∧ z = 0 ∧ rS v A f n h sl I') ∨ (0 < n ∧ z = 1 ∧ rS v A (h (n - 1)) (n - 1) h sl I')) ∧ rMf I I') := by
  obtain ⟨hL, s1, ⟨h1, h2, h3⟩, s3⟩ := id hs
  refine wkC_of 1 (by decide) (Nat.le_of_ble_eq_true rfl) (w_X9_undo_0 (fun q => ?_) (fun q => w_X9_undo_7 ⟨rfl, rfl, _, rfl, rfl, Or.inl ⟨?_, rfl, hs⟩, rMf_rf I⟩))
  rotate_left
  · have := i_eq.mp q
    rw [show (0 : Int32).toInt = 0 from rfl] at this
    omega
  have n0 : 0 < n := Nat.pos_of_ne_zero (fun z => q (i_eq.mpr (by rw [h1, z]; rfl)))
  have loop : ∀ (j m : Nat) (y : Int32) (J : qMI), 97 - m = j → m ≤ 97 → y.toInt = m → (∀ k, k ≠ 323 → k ≠ 292 → J k = I k) → (∀ j, j ≠ 51 → J 292 j = I 292 j) → (J 292 51).toInt = (n - 1 : Nat) → (∀ k, k < m → J 323 k = h (n - 1) k) → wkB l G (d + 1) n_X9_undo (wkPI R (fun z I' L' => L' = L ∧ ((n = 0 ∧ z = 0 ∧ rS v A f n h sl I') ∨ (0 < n ∧ z = 1 ∧ rS v A (h (n - 1)) (n - 1) h sl I')) ∧ rMf I I')) 21 [.ref 292, .int y] [] J L R := by
    intro j
    induction j with
    | zero =>
      intro m y J hj hm hy hJ hJ2 h51 hs'
      obtain rfl : m = 97 := by omega
      refine w_X9_undo_21 (fun _ => w_X9_undo_53 ⟨rfl, rfl, _, rfl, rfl, Or.inr ⟨n0, rfl, ?_⟩, fun j _ _ c _ => hJ2 j c⟩) (fun q => absurd (i_le.mpr (by rw [show (97 : Int32).toInt = 97 from rfl]; omega)) q)
      exact ⟨rHas_fr (fun x a b => hJ x (by omega) (by omega)) (hJ2 18 (by decide)) hL, hs', ⟨h51, by omega, fun i hi k hk => by rw [hJ 325 (by decide) (by decide)]; exact h3 i (by omega) k hk⟩, fun i hi q k hk => by rw [hJ 334 (by decide) (by decide)] at q; rw [hJ 335 (by decide) (by decide)]; exact s3.1 i hi q k hk, rKp_of s3.2 (fun k a => hJ k (by omega) (by omega))⟩
    | succ j ih =>
      intro m y J hj hm hy hJ hJ2 h51 hs'
      have cy : y.toNatClampNeg = m := by rw [tcn]; omega
      have m97 : (97 * J 292 51).toInt = 97 * (n - 1 : Nat) := by
        rw [i_mul (by rw [show (97 : Int32).toInt = 97 from rfl]; omega) (by rw [show (97 : Int32).toInt = 97 from rfl]; omega), h51]
        rfl
      have i2 : (97 * J 292 51 + y).toInt = 97 * (n - 1 : Nat) + m := by rw [i_add (by omega) (by omega), m97, hy]
      have c2 : (97 * J 292 51 + y).toNatClampNeg = 97 * (n - 1) + m := by rw [tcn]; omega
      refine w_X9_undo_21 (fun q => absurd (i_le.mp q) (by rw [show (97 : Int32).toInt = 97 from rfl]; omega)) (fun _ => w_X9_undo_27 hR (vin (by omega) (by omega)) (vin (by omega) (by omega)) (ih (m + 1) _ _ (by omega) (by omega) (by rw [i_s (by omega)]; omega) (fun k a b => by rw [qUp_ro a]; exact hJ k a b) (fun j a => by rw [qUp_ro (by decide)]; exact hJ2 j a) (by rw [qUp_ro (by decide)]; exact h51) (fun k hk => ?_)))
      rw [qUp_row, cy, c2, hJ 325 (by decide) (by decide), h3 (n - 1) (by omega) m (by omega)]
      unfold tU
      by_cases c : k = m
      · rw [if_pos c, c]
      · rw [if_neg c]
        exact hs' k (by omega)
  refine w_X9_undo_9 (loop 97 0 0 _ rfl (by decide) rfl (fun k a b => qUp_ro b) (fun j a => by rw [qUp_at, if_neg (fun z => a z.2)]) (by rw [qUp_at, if_pos ⟨rfl, rfl⟩, i_p' (by omega), h1]; omega) (fun k hk => absurd hk (by omega)))
def hSr (x : Int32) (f : Nat → Int32) (sl : Nat → Nat → Int32) (I' : qMI) (i : Nat) : Nat → Int32 := if i = x.toInt.toNat then f else if i = 434 then I' 334 else sl i
theorem uHold (hR : wkR R) (hs : rS v A f n h sl I) {x : Int32} : wkI l G (d + 2) n_X9_hold [.ref 292, .int x] I L R (fun z I' L' => L' = L ∧ ((¬ (0 ≤ x.toInt ∧ x.toInt < 3) ∧ z = 0 ∧ I' = I) ∨ ((0 ≤ x.toInt ∧ x.toInt < 3) ∧ z = 1 ∧ I' 334 = tU (I 334) x.toInt.toNat 1 ∧ rS v A f n h (hSr x f sl I') I' ∧ I' 292 = I 292))) := by
  obtain ⟨hL, s1, s2, s3⟩ := id hs
  refine wkC_of 1 (by decide) (Nat.le_of_ble_eq_true rfl) (w_X9_hold_0 (uIn (d := d)) (fun z I1 L1 hq => ?_))
  obtain ⟨rfl, rfl, rfl⟩ := hq
  rw [show (0 : Int32).toInt = 0 from rfl, show (2 : Int32).toInt = 2 from rfl]
  refine w_X9_hold_6 (fun q => ?_) (fun q => w_X9_hold_9 ⟨rfl, rfl, _, rfl, rfl, Or.inl ⟨fun c => if1.1 q ⟨c.1, by omega⟩, rfl, rfl⟩⟩)
  have c0 := if1.2 q
  have hi : x.toInt.toNat < 3 := by omega
  have cx : x.toNatClampNeg = x.toInt.toNat := tcn x
  have loop : ∀ (j m : Nat) (y : Int32) (J : qMI), 97 - m = j → m ≤ 97 → y.toInt = m → (∀ k, k ≠ 334 → k ≠ 335 → J k = I1 k) → J 334 = tU (I1 334) x.toInt.toNat 1 → (∀ i, J 335 i = if 97 * x.toInt.toNat ≤ i ∧ i < 97 * x.toInt.toNat + m then f (i - 97 * x.toInt.toNat) else I1 335 i) → wkB l G (d + 1 + 1) n_X9_hold (wkPI R (fun z I' L' => L' = L1 ∧ ((¬ (0 ≤ x.toInt ∧ x.toInt < 3) ∧ z = 0 ∧ I' = I1) ∨ ((0 ≤ x.toInt ∧ x.toInt < 3) ∧ z = 1 ∧ I' 334 = tU (I1 334) x.toInt.toNat 1 ∧ rS v A f n h (hSr x f sl I') I' ∧ I' 292 = I1 292)))) 20 [.ref 292, .int x, .int y] [] J L1 R := by
    intro j
    induction j with
    | zero =>
      intro m y J hj hm hy hJ h334 hs'
      obtain rfl : m = 97 := by omega
      refine w_X9_hold_20 (fun _ => w_X9_hold_49 ⟨rfl, rfl, _, rfl, rfl, Or.inr ⟨⟨c0.1, by omega⟩, rfl, h334, ?_, hJ 292 (by decide) (by decide)⟩⟩) (fun q => absurd (i_le.mpr (by rw [show (97 : Int32).toInt = 97 from rfl]; omega)) q)
      have e292 : J 292 = I1 292 := hJ 292 (by decide) (by decide)
      refine ⟨rHas_fr (fun x a b => hJ x (by omega) (by omega)) (by rw [e292]) hL, rEq_of s1 (hJ 323 (by decide) (by decide)), ⟨by rw [e292]; exact s2.1, s2.2.1, fun i hi k hk => by rw [hJ 325 (by decide) (by decide)]; exact s2.2.2 i hi k hk⟩, fun i hi q k hk => ?_, fun k a j => ?_⟩
      · rw [hs']
        unfold hSr
        by_cases c : i = x.toInt.toNat
        · rw [if_pos c, if_pos (by omega), show 97 * i + k - 97 * x.toInt.toNat = k by rw [c]; omega]
        · rw [if_neg c, if_neg (by omega), if_neg (by omega)]
          rw [h334, tU_o c] at q
          exact s3.1 i hi q k hk
      · unfold hSr
        rw [if_neg (by omega)]
        by_cases c : k = 334
        · rw [if_pos (by omega), c]
        · rw [if_neg (by omega), hJ k c (by omega)]
          exact s3.2 k a j
    | succ j ih =>
      intro m y J hj hm hy hJ h334 hs'
      have cy : y.toNatClampNeg = m := by rw [tcn]; omega
      have m97 : (97 * x).toInt = 97 * x.toInt := by
        rw [i_mul (by rw [show (97 : Int32).toInt = 97 from rfl]; omega) (by rw [show (97 : Int32).toInt = 97 from rfl]; omega)]
        rfl
      have i2 : (97 * x + y).toInt = 97 * x.toInt + m := by rw [i_add (by omega) (by omega), m97, hy]
      have c2 : (97 * x + y).toNatClampNeg = 97 * x.toInt.toNat + m := by rw [tcn]; omega
      refine w_X9_hold_20 (fun q => absurd (i_le.mp q) (by rw [show (97 : Int32).toInt = 97 from rfl]; omega)) (fun _ => w_X9_hold_26 hR (vin (by omega) (by omega)) (vin (by omega) (by omega)) (ih (m + 1) _ _ (by omega) (by omega) (by rw [i_s (by omega)]; omega) (fun k a b => by rw [qUp_ro b]; exact hJ k a b) (by rw [qUp_ro (by decide)]; exact h334) (fun i => ?_)))
      rw [qUp_row, c2, cy, hJ 323 (by decide) (by decide), s1 m (by omega)]
      unfold tU
      by_cases c : i = 97 * x.toInt.toNat + m
      · rw [if_pos c, if_pos (by omega), show i - 97 * x.toInt.toNat = m by omega]
      · rw [if_neg c, hs']
        by_cases c2 : 97 * x.toInt.toNat ≤ i ∧ i < 97 * x.toInt.toNat + m
        · rw [if_pos c2, if_pos (by omega)]
        · rw [if_neg c2, if_neg (by omega)]
  refine w_X9_hold_11 hR (vin (by omega) (by omega)) (loop 97 0 0 _ rfl (by decide) rfl (fun k a b => qUp_ro a) (by rw [qUp_row, cx, bool1]) (fun i => ?_))
  rw [qUp_ro (by decide), if_neg (by omega)]
theorem uRestore (hR : wkR R) (hs : rS v A f n h sl I) {x : Int32} : wkI l G (d + 2) n_X9_restore [.ref 292, .int x] I L R (fun z I' L' => L' = L ∧ ((¬ ((0 ≤ x.toInt ∧ x.toInt < 3) ∧ ¬ I 334 x.toInt.toNat = 0) ∧ z = 0 ∧ I' = I) ∨ (((0 ≤ x.toInt ∧ x.toInt < 3) ∧ ¬ I 334 x.toInt.toNat = 0) ∧ z = 1 ∧ rS v A (sl x.toInt.toNat) 0 h sl I')) ∧ rMf I I') := by
  obtain ⟨hL, s1, s2, s3⟩ := id hs
  refine wkC_of 1 (by decide) (Nat.le_of_ble_eq_true rfl) (w_X9_restore_0 (uIn (d := d)) (fun z I1 L1 hq => ?_))
  obtain ⟨rfl, rfl, rfl⟩ := hq
  rw [show (0 : Int32).toInt = 0 from rfl, show (2 : Int32).toInt = 2 from rfl]
  refine w_X9_restore_6 (fun q => w_X9_restore_18 ⟨rfl, rfl, _, rfl, rfl, Or.inl ⟨fun c => if1.1 q ⟨c.1.1, by omega⟩, rfl, rfl⟩, rMf_rf _⟩) (fun q => ?_)
  have c0 := if1.2 q
  have hi : x.toInt.toNat < 3 := by omega
  have cx : x.toNatClampNeg = x.toInt.toNat := tcn x
  have zx : ∀ y : Int32, (y = 0 ∨ ¬ y = 0) := fun y => Decidable.em _
  refine w_X9_restore_9 hR (vin (by omega) (by omega)) (fun q3 => ?_) (fun q3 => w_X9_restore_18 ⟨rfl, rfl, _, rfl, rfl, Or.inl ⟨fun c => ?_, rfl, rfl⟩, rMf_rf _⟩)
  rotate_left
  · rw [cx] at q3
    exact c.2 q3
  rw [cx] at q3
  have loop : ∀ (j m : Nat) (y : Int32) (J : qMI), 97 - m = j → m ≤ 97 → y.toInt = m → (∀ k, k ≠ 323 → J k = I1 k) → (∀ k, k < m → J 323 k = sl x.toInt.toNat k) → wkB l G (d + 1 + 1) n_X9_restore (wkPI R (fun z I' L' => L' = L1 ∧ ((¬ ((0 ≤ x.toInt ∧ x.toInt < 3) ∧ ¬ I1 334 x.toInt.toNat = 0) ∧ z = 0 ∧ I' = I1) ∨ (((0 ≤ x.toInt ∧ x.toInt < 3) ∧ ¬ I1 334 x.toInt.toNat = 0) ∧ z = 1 ∧ rS v A (sl x.toInt.toNat) 0 h sl I')) ∧ rMf I1 I')) 22 [.ref 292, .int x, .int y] [] J L1 R := by
    intro j
    induction j with
    | zero =>
      intro m y J hj hm hy hJ hs'
      obtain rfl : m = 97 := by omega
      refine w_X9_restore_22 (fun _ => w_X9_restore_51 ⟨rfl, rfl, _, rfl, rfl, Or.inr ⟨⟨⟨c0.1, by omega⟩, q3⟩, rfl, ?_⟩, fun j _ _ c _ => by rw [qUp_at, if_neg (fun z => c z.2), hJ 292 (by decide)]⟩) (fun q => absurd (i_le.mpr (by rw [show (97 : Int32).toInt = 97 from rfl]; omega)) q)
      have e292 : J 292 = I1 292 := hJ 292 (by decide)
      exact ⟨rHas_fr (fun x a b => by rw [qUp_ro (by omega)]; exact hJ x (by omega)) (by rw [qUp_at, if_neg (by decide), e292]) hL, fun k hk => by rw [qUp_ro (by decide)]; exact hs' k hk, ⟨by rw [qUp_at, if_pos ⟨rfl, rfl⟩]; rfl, by decide, fun i hi => absurd hi (by omega)⟩, fun i hi q k hk => by rw [qUp_ro (by decide), hJ 334 (by decide)] at q; rw [qUp_ro (by decide), hJ 335 (by decide)]; exact s3.1 i hi q k hk, rKp_of s3.2 (fun k a => by rw [qUp_ro (by omega)]; exact hJ k (by omega))⟩
    | succ j ih =>
      intro m y J hj hm hy hJ hs'
      have cy : y.toNatClampNeg = m := by rw [tcn]; omega
      have m97 : (97 * x).toInt = 97 * x.toInt := by
        rw [i_mul (by rw [show (97 : Int32).toInt = 97 from rfl]; omega) (by rw [show (97 : Int32).toInt = 97 from rfl]; omega)]
        rfl
      have i2 : (97 * x + y).toInt = 97 * x.toInt + m := by rw [i_add (by omega) (by omega), m97, hy]
      have c2 : (97 * x + y).toNatClampNeg = 97 * x.toInt.toNat + m := by rw [tcn]; omega
      refine w_X9_restore_22 (fun q => absurd (i_le.mp q) (by rw [show (97 : Int32).toInt = 97 from rfl]; omega)) (fun _ => w_X9_restore_28 hR (vin (by omega) (by omega)) (vin (by omega) (by omega)) (ih (m + 1) _ _ (by omega) (by omega) (by rw [i_s (by omega)]; omega) (fun k a => by rw [qUp_ro a]; exact hJ k a) (fun k hk => ?_)))
      rw [qUp_row, cy, c2, hJ 335 (by decide), s3.1 x.toInt.toNat hi q3 m (by omega)]
      unfold tU
      by_cases c : k = m
      · rw [if_pos c, c]
      · rw [if_neg c]
        exact hs' k (by omega)
  exact w_X9_restore_20 (loop 97 0 0 I1 rfl (by decide) rfl (fun k _ => rfl) (fun k hk => absurd hk (by omega)))
end
