/-! ===== what is known of one memory, of another that is the same within range ===== -/
def qSmR (t : Nat) (R R2 : qMR) : Prop := ∀ k, k < t → (qSh k).1 < 10 → ∀ j, j < qNF (qSh k).1 → qIsR (qTy (qSh k).1 j) = true → R k j = R2 k j
theorem qFs_r {B : Nat} {I : qMI} {R : qMR} {ci k j : Nat} (hj : j < qNF ci) (hr : qIsR (qTy ci j) = true) : vp_V (qFs B I R ci k) j = va_rf (qRf B (R k j)) := by
  unfold vp_V qFs
  rw [List.getD_eq_getElem?_getD, List.getElem?_map, List.getElem?_range hj]
  simp [hr]
theorem va_rf_i {B : Nat} {x y : Option Nat} (h : va_rf (qRf B x) = va_rf (qRf B y)) : x = y := by
  cases x with
  | none => cases y with
    | none => rfl
    | some b => cases h
  | some a => cases y with
    | none => cases h
    | some b =>
      have h : Value.ref (B + a) = Value.ref (B + b) := h
      injection h with h
      rw [Nat.add_left_cancel h]
theorem qSmR_of {G : qG} {t : Nat} {I I2 : qMI} {L L2 : qML} {R R2 : qMR} {H : Heap} (h1 : va_P (G.2.1, G.2.2.1) vwCl (qWd G t I L R) H) (h2 : va_P (G.2.1, G.2.2.1) vwCl (qWd G t I2 L2 R2) H) : qSmR t R R2 := by
  intro k hk a j hj hr
  have e1 := h1 k _ (qWd_at hk)
  have e2 := h2 k _ (qWd_at hk)
  unfold qCell at e1 e2
  rw [if_pos a] at e1 e2
  obtain ⟨r1, c1, cell, d1, -, -, d4⟩ := e1
  obtain ⟨r2, c2, cell2, f1, -, -, f4⟩ := e2
  rw [qCl a] at c1 c2
  injection c1 with c1
  injection c2 with c2
  subst c1 c2
  rw [d1] at f1
  injection f1 with f1
  subst f1
  have g1 := d4 j hj
  have g2 := f4 j hj
  rw [g1] at g2
  injection g2 with g2
  rw [qFs_r hj hr, qFs_r hj hr] at g2
  exact va_rf_i g2
theorem qCall_and2 {l : Launch} {G : qG} {d : Nat} {M : qMn} {as : List Value} {t : Nat} {I : qMI} {L : qML} {R : qMR} {Q Q2 : qQ} (h : qCall l G d M as t I L R Q) (g : qCall l G d M as t I L R Q2) : qCall l G d M as t I L R (fun r t' I' L' R' => Q r t' I' L' R' ∧ ∃ r2 I2 L2 R2, Q2 r2 t' I2 L2 R2 ∧ r.map (qTv G) = r2.map (qTv G) ∧ qSm t' I' L' I2 L2 ∧ qSmR t' R' R2) := by
  intro p e ha hc hk s m args below hf happ hpre hK
  obtain ⟨k1, o, h1, h2, h3, ⟨⟨⟨r, t', I', L', R', e1, e2, e3⟩, hF⟩, hL⟩⟩ := h p e ha hc hk s m args below hf happ hpre hK
  obtain ⟨k2, o2, g1, g2, g3, ⟨⟨⟨r2, t2, I2, L2, R2, d1, d2, d3⟩, -⟩, -⟩⟩ := g p e ha hc hk s m args below hf happ hpre hK
  subst e1 d1
  have ek : k1 = k2 := by
    rcases Nat.lt_trichotomy k1 k2 with q | q | q
    · exact absurd (g1 k1 q) (ended_not h3)
    · exact q
    · exact absurd (h1 k2 q) (ended_not g3)
  subst ek
  have er := ended_inj h3 g3
  have et : t' = t2 := by
    have a := e3.1
    have b := d3.1
    omega
  subst et
  exact ⟨k1, _, h1, h2, h3, ⟨⟨⟨r, t', I', L', R', rfl, ⟨e2, r2, I2, L2, R2, d2, er, qSm_of e3.2.1 d3.2.1, qSmR_of e3.2.1 d3.2.1⟩, e3⟩, hF⟩, hL⟩⟩
theorem qTv_i {G : qG} {y y2 : Int32} (h : (some (Value.int y)).map (qTv G) = (some (Value.int y2)).map (qTv G)) : y = y2 := by
  have h : some (Value.int y) = some (Value.int y2) := h
  injection h with h
  injection h
theorem sJx_sz {k : Nat} (hk : k < 97) : ((sJx k).1 = 0 ∧ (sJx k).2 = 0) ∨ (1 ≤ (sJx k).1 ∧ (sJx k).1 ≤ 4 ∧ (sJx k).2 < 6) ∨ (5 ≤ (sJx k).1 ∧ (sJx k).1 ≤ 6 ∧ (sJx k).2 < 36) := by
  have all : ∀ k, k < 97 → ((sJx k).1 = 0 ∧ (sJx k).2 = 0) ∨ (1 ≤ (sJx k).1 ∧ (sJx k).1 ≤ 4 ∧ (sJx k).2 < 6) ∨ (5 ≤ (sJx k).1 ∧ (sJx k).1 ≤ 6 ∧ (sJx k).2 < 36) := by decide +kernel
  exact all k hk
section
variable {I' I2 : qMI} {L' L2 : qML}
theorem sEq_sm {b : Nat} {f : Nat → Int32} (hb : b ∈ bL) (h : qSm 336 I' L' I2 L2) (g : sEq I2 b f) : sEq I' b f := by
  intro k hk
  have e : I' (b + (sJx k).1) (sJx k).2 = I2 (b + (sJx k).1) (sJx k).2 := by
    rcases sJx_sz hk with ⟨e1, e2⟩ | ⟨e1, e2, e3⟩ | ⟨e1, e2, e3⟩
    · have t := bTg (q := 4) hb 0 rfl
      rw [e1, e2]
      exact h.2.2 (b + 0) (bLt hb 0 (by decide)) (by rw [t]; decide) 0 (by rw [t]; decide) (by rw [t]; rfl)
    · have t := bTg (q := 10) hb (sJx k).1 (by rw [if_neg (by omega), if_pos (by omega)])
      have z := bSz (q := 6) hb (sJx k).1 (by rw [if_neg (by omega), if_pos (by omega)])
      exact h.1 (b + (sJx k).1) (bLt hb _ (by omega)) (by omega) (by omega) _ (by omega)
    · have t := bTg (q := 10) hb (sJx k).1 (by rw [if_neg (by omega), if_pos (by omega)])
      have z := bSz (q := 36) hb (sJx k).1 (by rw [if_neg (by omega), if_neg (by omega), if_pos (by omega)])
      exact h.1 (b + (sJx k).1) (bLt hb _ (by omega)) (by omega) (by omega) _ (by omega)
  rw [e]
  exact g k hk
theorem pEq_sm {n : Nat} {h : Nat → Nat → Int32} (q : qSm 336 I' L' I2 L2) (g : pEq I2 n h) : pEq I' n h := by
  obtain ⟨g1, g2, x, g3, g4, g5⟩ := g
  have e1 : I' 35 1 = I2 35 1 := q.2.2 35 (by decide) (by decide +kernel) 1 (by decide +kernel) (by decide +kernel)
  have e2 : I' 35 2 = I2 35 2 := q.2.2 35 (by decide) (by decide +kernel) 2 (by decide +kernel) (by decide +kernel)
  exact ⟨by rw [e2]; exact g1, g2, x, by rw [e1]; exact g3, g4, fun i hi => sEq_sm (bRing (Nat.mod_lt _ (by decide))) q (g5 i hi)⟩
theorem cDt_sm {o : Nat} {A : aD} (ho : o = 9 ∨ o = 259) (h : qSm 336 I' L' I2 L2) (hb : (I2 (o + 6) 2).toInt ≤ 420) (g : cDt o I2 A) : cDt o I' A := cDt_em (cEm_sm ho h hb (cEm_rf o I2)) g
/-- the references of the class's state, o the live flat -/
def cRp (o : Nat) (R : qMR) : Prop := (cRl R o ∧ R (o + 6) 4 = some (o + 10) ∧ R (o + 6) 5 = some (o + 11)) ∧ cFl R o ∧ cRs R ∧ R 0 12 = some o
theorem cS_tr {o n : Nat} {A : aD} {f : Nat → Int32} {h sl : Nat → Nat → Int32} {R2 R' : qMR} (s : cS0 o A f n h sl I2 R2) (q : qSm 336 I' L' I2 L2) (r : cRp o R') : cS0 o A f n h sl I' R' := by
  obtain ⟨⟨⟨ho, -, -, hb, hD, hW⟩, -, -⟩, s4, s5, s6⟩ := s
  obtain ⟨r1, r2, r3, r4⟩ := r
  have e6 : I' (o + 6) 2 = I2 (o + 6) 2 := by
    rcases ho with rfl | rfl
    · exact q.2.2 15 (by decide) (by decide +kernel) 2 (by decide +kernel) (by decide +kernel)
    · exact q.2.2 265 (by decide) (by decide +kernel) 2 (by decide +kernel) (by decide +kernel)
  exact ⟨⟨⟨ho, r1, r2, by rw [e6]; exact hb, cDt_sm ho q hb.2 hD, hW⟩, r3, r4⟩, sEq_sm bNow q s4, pEq_sm q s5, fun i hi => sEq_sm (bSlot hi) q (s6 i hi)⟩
theorem rS_tr {v n : Nat} {A : aD} {f : Nat → Int32} {h sl : Nat → Nat → Int32} (s : rS0 v A f n h sl I2) (q : qSm 336 I' L' I2 L2) (g : rHas v I' A) : rS0 v A f n h sl I' := by
  obtain ⟨-, s2, ⟨s3, s4, s5⟩, s6⟩ := s
  have l323 : (qSh 323).2 = 97 := by decide +kernel
  have l325 : (qSh 325).2 = 2910 := by decide +kernel
  have l334 : (qSh 334).2 = 3 := by decide +kernel
  have l335 : (qSh 335).2 = 291 := by decide +kernel
  have e51 : I' 292 51 = I2 292 51 := q.2.2 292 (by decide) (by decide +kernel) 51 (by decide +kernel) (by decide +kernel)
  refine ⟨g, fun k hk => ?_, ⟨by rw [e51]; exact s3, s4, fun i hi k hk => ?_⟩, fun i hi c k hk => ?_⟩
  · rw [q.1 323 (by decide) (by decide +kernel) (by decide +kernel) k (by omega)]
    exact s2 k hk
  · rw [q.1 325 (by decide) (by decide +kernel) (by decide +kernel) (97 * i + k) (by omega)]
    exact s5 i hi k hk
  · rw [q.1 334 (by decide) (by decide +kernel) (by decide +kernel) i (by omega)] at c
    rw [q.1 335 (by decide) (by decide +kernel) (by decide +kernel) (97 * i + k) (by omega)]
    exact s6 i hi c k hk
end
section
variable {I' I2 : qMI} {L' L2 : qML}
theorem rEm_sm {c0 : Nat} {w : pC} (q : qSm 336 I' L' I2 L2) (hb : c0 + w.length ≤ 840) (g : rEm c0 I2 w) : rEm c0 I' w := by
  intro i p hp
  have hi := (List.getElem?_eq_some_iff.mp hp).1
  have l1 : (qSh 318).2 = 840 := by decide +kernel
  have l2 : (qSh 319).2 = 840 := by decide +kernel
  rw [q.1 318 (by decide) (by decide +kernel) (by decide +kernel) (c0 + i) (by omega), q.1 319 (by decide) (by decide +kernel) (by decide +kernel) (c0 + i) (by omega)]
  exact g i p hp
theorem rSeg_sm {f t : Int32} {w : pC} (q : qSm 336 I' L' I2 L2) (ht : t.toInt ≤ 840) (g : rSeg I2 f t w) : rSeg I' f t w := ⟨g.1, g.2.1, rEm_sm q (by have := g.1; have := g.2.1; omega) g.2.2⟩
theorem r5_sm {b : Nat} (q : qSm 336 I' L' I2 L2) (hb : b < 260) : I' 313 b = I2 313 b ∧ I' 314 b = I2 314 b ∧ I' 315 b = I2 315 b ∧ I' 316 b = I2 316 b ∧ I' 317 b = I2 317 b := by
  have l3 : (qSh 313).2 = 260 := by decide +kernel
  have l4 : (qSh 314).2 = 260 := by decide +kernel
  have l5 : (qSh 315).2 = 260 := by decide +kernel
  have l6 : (qSh 316).2 = 260 := by decide +kernel
  have l7 : (qSh 317).2 = 260 := by decide +kernel
  exact ⟨q.1 313 (by decide) (by decide +kernel) (by decide +kernel) b (by omega), q.1 314 (by decide) (by decide +kernel) (by decide +kernel) b (by omega), q.1 315 (by decide) (by decide +kernel) (by decide +kernel) b (by omega), q.1 316 (by decide) (by decide +kernel) (by decide +kernel) b (by omega), q.1 317 (by decide) (by decide +kernel) (by decide +kernel) b (by omega)⟩
theorem rBt_sm {b C : Nat} {p : pC × pC × pC} (q : qSm 336 I' L' I2 L2) (hb : b < 260) (hC : C ≤ 840) (g : rBt I2 b C p) : rBt I' b C p := by
  obtain ⟨g1, g2, g3, g4, g5⟩ := g
  obtain ⟨e3, e4, e5, e6, e7⟩ := r5_sm q hb
  unfold rBt
  rw [e3, e4, e5, e6, e7]
  have k4 := g4.2.1
  have k3 := g3.2.1
  have k2 := g2.2.1
  exact ⟨g1, rSeg_sm q (by omega) g2, rSeg_sm q (by omega) g3, rSeg_sm q (by omega) g4, g5⟩
theorem rBl_sm {b C : Nat} {w : pC} (q : qSm 336 I' L' I2 L2) (hb : b < 260) (hC : C ≤ 840) (g : rBl I2 b C w) : rBl I' b C w := by
  obtain ⟨g1, g2, g3⟩ := g
  obtain ⟨e3, -, -, e6, e7⟩ := r5_sm q hb
  unfold rBl
  rw [e3, e6, e7]
  exact ⟨g1, rSeg_sm q (by omega) g2, g3⟩
theorem rRow_sm {s c a b : Nat} {w : List (Int32 × Int32)} (hs : s < 2) (q : qSm 336 I' L' I2 L2) (hc : (c = 301 ∧ a = 302 ∧ b = 303) ∨ (c = 304 ∧ a = 305 ∧ b = 306)) (g : rRow s c a b I2 w) : rRow s c a b I' w := by
  obtain ⟨⟨g1, g2⟩, g3⟩ := g
  have l1 : (qSh 301).2 = 2 := by decide +kernel
  have l2 : (qSh 302).2 = 12 := by decide +kernel
  have l3 : (qSh 303).2 = 12 := by decide +kernel
  have l4 : (qSh 304).2 = 2 := by decide +kernel
  have l5 : (qSh 305).2 = 12 := by decide +kernel
  have l6 : (qSh 306).2 = 12 := by decide +kernel
  rcases hc with ⟨rfl, rfl, rfl⟩ | ⟨rfl, rfl, rfl⟩
  · refine ⟨⟨by rw [q.1 301 (by decide) (by decide +kernel) (by decide +kernel) s (by omega)]; exact g1, g2⟩, fun i p hp => ?_⟩
    have hi := (List.getElem?_eq_some_iff.mp hp).1
    rw [q.1 302 (by decide) (by decide +kernel) (by decide +kernel) (6 * s + i) (by omega), q.1 303 (by decide) (by decide +kernel) (by decide +kernel) (6 * s + i) (by omega)]
    exact g3 i p hp
  · refine ⟨⟨by rw [q.1 304 (by decide) (by decide +kernel) (by decide +kernel) s (by omega)]; exact g1, g2⟩, fun i p hp => ?_⟩
    have hi := (List.getElem?_eq_some_iff.mp hp).1
    rw [q.1 305 (by decide) (by decide +kernel) (by decide +kernel) (6 * s + i) (by omega), q.1 306 (by decide) (by decide +kernel) (by decide +kernel) (6 * s + i) (by omega)]
    exact g3 i p hp
theorem rDf_sm {v : Nat} {A : aD} (hv : v = 0 ∨ v = 1) (q : qSm 336 I' L' I2 L2) (g : rDf v I2 A) : rDf v I' A := by
  obtain ⟨g1, g2, g3, g4⟩ := g
  have l7 : (qSh 307).2 = 2 := by decide +kernel
  have l8 : (qSh 308).2 = 2 := by decide +kernel
  have l9 : (qSh 309).2 = 2 := by decide +kernel
  have l10 : (qSh 310).2 = 2 := by decide +kernel
  have l11 : (qSh 311).2 = 10 := by decide +kernel
  have l12 : (qSh 312).2 = 10 := by decide +kernel
  refine ⟨rRow_sm (by omega) q (Or.inl ⟨rfl, rfl, rfl⟩) g1, rRow_sm (by omega) q (Or.inr ⟨rfl, rfl, rfl⟩) g2, fun j h1 h2 => ?_, fun k hk => ?_⟩
  · have e : I' (299 + j) v = I2 (299 + j) v := by
      rcases (show j = 8 ∨ j = 9 ∨ j = 10 ∨ j = 11 by omega) with rfl | rfl | rfl | rfl
      · exact q.1 307 (by decide) (by decide +kernel) (by decide +kernel) v (by omega)
      · exact q.1 308 (by decide) (by decide +kernel) (by decide +kernel) v (by omega)
      · exact q.1 309 (by decide) (by decide +kernel) (by decide +kernel) v (by omega)
      · exact q.1 310 (by decide) (by decide +kernel) (by decide +kernel) v (by omega)
    rw [e]
    exact g3 j h1 h2
  · have e1 : I' 311 (5 * v + k) = I2 311 (5 * v + k) := q.1 311 (by decide) (by decide +kernel) (by decide +kernel) _ (by omega)
    have e2 : I' 312 (5 * v + k) = I2 312 (5 * v + k) := q.1 312 (by decide) (by decide +kernel) (by decide +kernel) _ (by omega)
    rcases g4 k hk with ⟨h1, h2⟩ | ⟨b0, h1, h2, h3, h4, h5⟩
    · exact Or.inl ⟨by rw [e1, e2]; exact h1, h2⟩
    · refine Or.inr ⟨b0, by rw [e1]; exact h1, by rw [e2]; exact h2, h3, fun i p hp => ?_, rBl_sm q (by omega) (by omega) h5⟩
      have hi := (List.getElem?_eq_some_iff.mp hp).1
      exact rBt_sm q (by omega) (by omega) (h4 i p hp)
theorem rHas_sm {v : Nat} {A : aD} {R' : qMR} (q : qSm 336 I' L' I2 L2) (hg : zGood (I', L', R')) (g : rHas v I2 A) : rHas v I' A := by
  obtain ⟨⟨g1, g2⟩, -, g4, g5⟩ := g
  have e18 : I' 292 18 = I2 292 18 := q.2.2 292 (by decide) (by decide +kernel) 18 (by decide +kernel) (by decide +kernel)
  refine ⟨⟨g1, by rw [e18]; exact g2⟩, ?_, rDf_sm g1 q g4, g5⟩
  rw [← e18] at g2
  rcases hg with ⟨h1, h2, -⟩ | ⟨h1, h2, -⟩
  · have h1 : I' 292 18 = 0 := h1
    rw [h1, show (0 : Int32).toInt = 0 from rfl] at g2
    have : v = 0 := by omega
    rw [this]
    exact h2
  · have h1 : I' 292 18 = 1 := h1
    rw [h1, show (1 : Int32).toInt = 1 from rfl] at g2
    have : v = 1 := by omega
    rw [this]
    exact h2
theorem rS_sm {v n : Nat} {A : aD} {f : Nat → Int32} {h sl : Nat → Nat → Int32} {R' : qMR} (q : qSm 336 I' L' I2 L2) (hg : zGood (I', L', R')) (s : rS0 v A f n h sl I2) : rS0 v A f n h sl I' := rS_tr s q (rHas_sm q hg s.1)
end
