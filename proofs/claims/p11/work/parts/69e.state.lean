/-! ===== both sides between two calls: the whole state alike ===== -/
def wI (I : qMI) (L : qML) (R : qMR) : Prop := vI I L R ∧ wS I R
abbrev wIQ : qQ := fun r t I' L' R' => t = 336 ∧ ∃ y, r = some (.int y) ∧ wI I' L' R'
theorem vWR {I : qMI} {L : qML} {R : qMR} (hv : vInv I L R) : wkR R := by
  obtain ⟨A, hA, hm, -, -⟩ := vM hv
  exact vRR hA hm
theorem vRb {gh : zGh} {t : Nat} {A : zAm} {I : qMI} {L : qML} {R : qMR} (hm : zM gh t A I L R) (h : ∀ b ∈ bL, ∀ j, j < 7 → 1 ≤ j → Nat.ble (ztag (zcell A b)) 14 = true ∧ zkd (ztag (zcell A b)) j = 2 ∧ zdr (zraw (zcell A b) j) = some (b + j)) : ∀ b ∈ bL, cSt R b := fun b hb j h1 h2 => by
  obtain ⟨a1, a2, a3⟩ := h b hb j (by omega) h1
  exact vRef hm a1 a2 a3
theorem vRr {gh : zGh} {t k n : Nat} {g : Nat → Nat} {A : zAm} {I : qMI} {L : qML} {R : qMR} (hm : zM gh t A I L R) (h : ∀ i, i < n → Nat.ble (ztag (zcell A k)) 14 = true ∧ zkd (ztag (zcell A k)) i = 2 ∧ zdr (zraw (zcell A k) i) = some (g i)) : ∀ i, i < n → R k i = some (g i) := fun i hi => by
  obtain ⟨a1, a2, a3⟩ := h i hi
  exact vRef hm a1 a2 a3
theorem vRp0 {gh : zGh} {t : Nat} {I : qMI} {L : qML} {R : qMR} (hm : zM gh t zAi0 I L R) : cRp 259 R ∧ cDr 9 R :=
  ⟨⟨⟨⟨trivial, trivial, trivial, vRef (k := 265) (j := 0) (v := 266) hm (by decide +kernel) (by decide +kernel) (by decide +kernel), vRef (k := 265) (j := 1) (v := 267) hm (by decide +kernel) (by decide +kernel) (by decide +kernel), vRef (k := 265) (j := 3) (v := 268) hm (by decide +kernel) (by decide +kernel) (by decide +kernel)⟩, vRef (k := 265) (j := 4) (v := 269) hm (by decide +kernel) (by decide +kernel) (by decide +kernel), vRef (k := 265) (j := 5) (v := 270) hm (by decide +kernel) (by decide +kernel) (by decide +kernel)⟩, ⟨vRef (k := 259) (j := 12) (v := 265) hm (by decide +kernel) (by decide +kernel) (by decide +kernel), vRef (k := 259) (j := 3) (v := 261) hm (by decide +kernel) (by decide +kernel) (by decide +kernel), vRef (k := 259) (j := 4) (v := 262) hm (by decide +kernel) (by decide +kernel) (by decide +kernel), vRef (k := 259) (j := 6) (v := 263) hm (by decide +kernel) (by decide +kernel) (by decide +kernel), vRef (k := 259) (j := 7) (v := 264) hm (by decide +kernel) (by decide +kernel) (by decide +kernel)⟩, ⟨⟨vRef (k := 0) (j := 2) (v := 21) hm (by decide +kernel) (by decide +kernel) (by decide +kernel), vRef (k := 0) (j := 3) (v := 28) hm (by decide +kernel) (by decide +kernel) (by decide +kernel), vRef (k := 0) (j := 4) (v := 35) hm (by decide +kernel) (by decide +kernel) (by decide +kernel), vRef (k := 0) (j := 5) (v := 247) hm (by decide +kernel) (by decide +kernel) (by decide +kernel), vRef (k := 0) (j := 6) (v := 248) hm (by decide +kernel) (by decide +kernel) (by decide +kernel), vRef (k := 0) (j := 7) (v := 249) hm (by decide +kernel) (by decide +kernel) (by decide +kernel)⟩, vRef (k := 35) (j := 0) (v := 36) hm (by decide +kernel) (by decide +kernel) (by decide +kernel), vRr (k := 36) (n := 30) (g := fun i => 37 + 7 * i) hm (by decide +kernel), vRr (k := 247) (n := 3) (g := fun i => 271 + 7 * i) hm (by decide +kernel), vRb hm (by decide +kernel)⟩, vRef (k := 0) (j := 12) (v := 259) hm (by decide +kernel) (by decide +kernel) (by decide +kernel)⟩, ⟨(vCR0 hm).1, ⟨vRef (k := 15) (j := 4) (v := 19) hm (by decide +kernel) (by decide +kernel) (by decide +kernel), vRef (k := 15) (j := 5) (v := 20) hm (by decide +kernel) (by decide +kernel) (by decide +kernel)⟩, (vCR0 hm).2.1, (vCR0 hm).2.2.1, (vCR0 hm).2.2.2⟩⟩
theorem vRp1 {gh : zGh} {t : Nat} {I : qMI} {L : qML} {R : qMR} (hm : zM gh t zAi1 I L R) : cRp 9 R ∧ cDr 259 R :=
  ⟨⟨⟨⟨trivial, trivial, trivial, vRef (k := 15) (j := 0) (v := 16) hm (by decide +kernel) (by decide +kernel) (by decide +kernel), vRef (k := 15) (j := 1) (v := 17) hm (by decide +kernel) (by decide +kernel) (by decide +kernel), vRef (k := 15) (j := 3) (v := 18) hm (by decide +kernel) (by decide +kernel) (by decide +kernel)⟩, vRef (k := 15) (j := 4) (v := 19) hm (by decide +kernel) (by decide +kernel) (by decide +kernel), vRef (k := 15) (j := 5) (v := 20) hm (by decide +kernel) (by decide +kernel) (by decide +kernel)⟩, ⟨vRef (k := 9) (j := 12) (v := 15) hm (by decide +kernel) (by decide +kernel) (by decide +kernel), vRef (k := 9) (j := 3) (v := 11) hm (by decide +kernel) (by decide +kernel) (by decide +kernel), vRef (k := 9) (j := 4) (v := 12) hm (by decide +kernel) (by decide +kernel) (by decide +kernel), vRef (k := 9) (j := 6) (v := 13) hm (by decide +kernel) (by decide +kernel) (by decide +kernel), vRef (k := 9) (j := 7) (v := 14) hm (by decide +kernel) (by decide +kernel) (by decide +kernel)⟩, ⟨⟨vRef (k := 0) (j := 2) (v := 21) hm (by decide +kernel) (by decide +kernel) (by decide +kernel), vRef (k := 0) (j := 3) (v := 28) hm (by decide +kernel) (by decide +kernel) (by decide +kernel), vRef (k := 0) (j := 4) (v := 35) hm (by decide +kernel) (by decide +kernel) (by decide +kernel), vRef (k := 0) (j := 5) (v := 247) hm (by decide +kernel) (by decide +kernel) (by decide +kernel), vRef (k := 0) (j := 6) (v := 248) hm (by decide +kernel) (by decide +kernel) (by decide +kernel), vRef (k := 0) (j := 7) (v := 249) hm (by decide +kernel) (by decide +kernel) (by decide +kernel)⟩, vRef (k := 35) (j := 0) (v := 36) hm (by decide +kernel) (by decide +kernel) (by decide +kernel), vRr (k := 36) (n := 30) (g := fun i => 37 + 7 * i) hm (by decide +kernel), vRr (k := 247) (n := 3) (g := fun i => 271 + 7 * i) hm (by decide +kernel), vRb hm (by decide +kernel)⟩, vRef (k := 0) (j := 12) (v := 9) hm (by decide +kernel) (by decide +kernel) (by decide +kernel)⟩, ⟨(vCR1 hm).1, ⟨vRef (k := 265) (j := 4) (v := 269) hm (by decide +kernel) (by decide +kernel) (by decide +kernel), vRef (k := 265) (j := 5) (v := 270) hm (by decide +kernel) (by decide +kernel) (by decide +kernel)⟩, (vCR1 hm).2.1, (vCR1 hm).2.2.1, (vCR1 hm).2.2.2⟩⟩
theorem vRp {I : qMI} {L : qML} {R : qMR} (hv : vInv I L R) {o : Nat} (h : R 0 12 = some o) : (o = 9 ∨ o = 259) ∧ cRp o R ∧ ∃ o1, (o1 = 9 ∨ o1 = 259) ∧ o1 ≠ o ∧ cDr o1 R := by
  obtain ⟨hm | hm, -⟩ := hv
  · obtain ⟨p, q⟩ := vRp0 hm
    have e := p.2.2.2
    rw [h] at e
    injection e with e
    subst e
    exact ⟨Or.inr rfl, p, 9, Or.inl rfl, by decide, q⟩
  · obtain ⟨p, q⟩ := vRp1 hm
    have e := p.2.2.2
    rw [h] at e
    injection e with e
    subst e
    exact ⟨Or.inl rfl, p, 259, Or.inr rfl, by decide, q⟩
theorem zU_i1 : ∀ k, k < 336 → k ∈ zUq ∨ (k < 9 ∨ (18 < k ∧ k < 21) ∨ (27 < k ∧ k < 35) ∨ (246 < k ∧ k < 259) ∨ (268 < k ∧ k < 271)) := by decide +kernel
theorem zU_i2 : ∀ k, k < 336 → k ∈ zUc ∨ k < 292 := by decide +kernel
theorem zU_i3 : ∀ k, k < 336 → k ∈ zHc ∨ k < 292 := by decide +kernel
theorem zU_i4 : ∀ k, k < 336 → (k ∈ zUm ∧ k ∈ zUr ∧ k ∈ zHm) ∨ (292 ≤ k ∧ k < 301) ∨ 319 < k := by decide +kernel
theorem zU_in : (∀ k, k < 336 → ((9 ≤ k ∧ k ≤ 18) ∨ (259 ≤ k ∧ k ≤ 268) ∨ (21 ≤ k ∧ k ≤ 27) ∨ (35 ≤ k ∧ k ≤ 246) ∨ (271 ≤ k ∧ k ≤ 291) ∨ 292 ≤ k) → k ∈ zUq) ∧ (∀ k, k < 336 → 292 ≤ k → k ∈ zUc) ∧ (∀ k, k < 336 → 292 ≤ k → k ∈ zHc) ∧ (∀ k, k < 336 → (k < 292 ∨ (301 ≤ k ∧ k ≤ 319)) → k ∈ zUm ∧ k ∈ zUr ∧ k ∈ zHm) := ⟨fun k h a => (zU_i1 k h).resolve_right (by omega), fun k h a => (zU_i2 k h).resolve_right (by omega), fun k h a => (zU_i3 k h).resolve_right (by omega), fun k h a => (zU_i4 k h).resolve_right (by omega)⟩
section
variable {l : Launch} {G : qG} {I : qMI} {L : qML} {R : qMR}
theorem jC_q {N : qMn} {as : List Value} (hv : wI I L R) (base : qCall l G 26 N as 336 I L R (vR3 zUq I L R)) : qCall l G 26 N as 336 I L R wIQ := by
  obtain ⟨hv1, o, v, n, A, f, h, sl, s1, s2, s3⟩ := hv
  refine qCall_mono base ?_
  intro r t I' L' R' b
  obtain ⟨b1, ⟨y, rfl⟩, b3, b4, b5⟩ := id b
  obtain ⟨-, y', e', hv2⟩ := vI_of hv1 (vR3_2 (by decide +kernel) b)
  have r0 : R' 0 12 = some o := by rw [(b4 0 (by decide +kernel)).2.2]; exact s1.1.2.2
  have rp := (vRp b3 r0).2.1
  have ho := s1.1.1.1
  have e292 : I' 292 = I 292 := (b4 292 (zU_in.1 292 (by decide) (by decide))).1
  refine ⟨b1, y, rfl, hv2, o, v, n, A, f, h, sl, cS_mv s1 rp (fun k a => (b4 k (zU_in.1 k (by omega) (by omega))).1), rS_of s2 (fun k a => (b4 k (zU_in.1 k (by omega) (by omega))).1) (by rw [e292]) (by rw [e292]), sOk_of s3 (fun i hi => by rw [(b4 334 (zU_in.1 334 (by decide) (by decide))).1])⟩
theorem jM_q {N : qMn} {as : List Value} (hv : wI I L R) (base : qCall l G 26 N as 336 I L R (vR3 zUr I L R)) : qCall l G 26 N as 336 I L R wIQ := by
  obtain ⟨hv1, o, v, n, A, f, h, sl, s1, s2, s3⟩ := hv
  refine qCall_mono base ?_
  intro r t I' L' R' b
  obtain ⟨b1, ⟨y, rfl⟩, b3, b4, b5⟩ := id b
  obtain ⟨-, y', e', hv2⟩ := vI_of hv1 (vR3_2 (by decide +kernel) b)
  have r0 : R' 0 12 = some o := by rw [(b4 0 (by decide +kernel)).2.2]; exact s1.1.2.2
  have rp := (vRp b3 r0).2.1
  have ho := s1.1.1.1
  have e334 : I' 334 = I 334 := (b4 334 (by decide +kernel)).1
  refine ⟨b1, y, rfl, hv2, o, v, n, A, f, h, sl, cS_mv s1 rp (fun k a => (b4 k (zU_in.2.2.2 k (by omega) (by omega)).2.1).1), rS_of s2 (fun k a => ?_) (b5 18 rfl) (b5 51 rfl), sOk_of s3 (fun i hi => by rw [e334])⟩
  rcases a with a | rfl | rfl | rfl | rfl
  · exact (b4 k (zU_in.2.2.2 k (by omega) (by omega)).2.1).1
  · exact (b4 323 (by decide +kernel)).1
  · exact (b4 325 (by decide +kernel)).1
  · exact e334
  · exact (b4 335 (by decide +kernel)).1
/-- between the two sides of a call by hand -/
def kM (p : aD → (Nat → Int32) → Int32 × Option (Nat → Int32)) (y : Int32) (I : qMI) (L : qML) (R : qMR) : Prop := vI I L R ∧ wM p y I R
theorem jC_gen {N : qMn} {as : List Value} {p : aD → (Nat → Int32) → Int32 × Option (Nat → Int32)} (hv : wI I L R) (base : qCall l G 26 N as 336 I L R (vR3 zUc I L R)) (ex : ∀ (o : Nat) (A : aD) (f : Nat → Int32) (n : Nat) (h sl : Nat → Nat → Int32), cS o A f n h sl I R → wkCi l G 26 N as I L R (fun z I' L' R' => R' = R ∧ L' = L ∧ z = (p A f).1 ∧ cS2 o A f n h sl I' R' (p A f).2)) : qCall l G 26 N as 336 I L R (fun r t I' L' R' => t = 336 ∧ ∃ y, r = some (.int y) ∧ kM p y I' L' R') := by
  obtain ⟨hv1, o, v, n, A, f, h, sl, s1, s2, s3⟩ := hv
  have ex' : qCall l G 26 N as 336 I L R (fun r t I' L' R' => t = 336 ∧ ∃ z, r = some (.int z) ∧ R' = R ∧ L' = L ∧ z = (p A f).1 ∧ cS2 o A f n h sl I' R' (p A f).2) := ex o A f n h sl s1
  refine qCall_mono (qCall_and base ex') ?_
  intro r t I' L' R' hq
  obtain ⟨b, r2, I2, L2, R2, ⟨e2, y2, rfl, -, -, ey, c2⟩, er, sm⟩ := hq
  obtain ⟨b1, ⟨y, rfl⟩, b3, b4, b5⟩ := id b
  subst b1
  have ey2 := qTv_i er
  obtain ⟨-, y', e', hv2⟩ := vI_of hv1 (vR3_2 (by decide +kernel) b)
  have r0 : R' 0 12 = some o := by rw [(b4 0 (by decide +kernel)).2.2]; exact s1.1.2.2
  have rp := (vRp b3 r0).2.1
  have e292 : I' 292 = I 292 := (b4 292 (zU_in.2.1 292 (by decide) (by decide))).1
  exact ⟨rfl, y, rfl, hv2, o, v, n, A, f, h, sl, ey2.trans ey, cS2_tr c2 sm rp, rS_of s2 (fun k a => (b4 k (zU_in.2.1 k (by omega) (by omega))).1) (by rw [e292]) (by rw [e292]), sOk_of s3 (fun i hi => by rw [(b4 334 (zU_in.2.1 334 (by decide) (by decide))).1])⟩
theorem jM_vI {I' : qMI} {L' : qML} {R' : qMR} (hv : vI I L R) (z : zM (I', L', R') 336 zAi0 I' L' R' ∨ zM (I', L', R') 336 zAi1 I' L' R') (b4 : ∀ k ∈ zUm, I' k = I k ∧ L' k = L k ∧ R' k = R k) (e : ∀ j, j = 2 ∨ j = 17 ∨ j = 18 ∨ j = 58 → I' 292 j = I 292 j) : vI I' L' R' := by
  obtain ⟨⟨-, hg⟩, v1, v2, v3, v4, v5⟩ := hv
  have hc : ∀ x ∈ zUN, I' x = I x := fun x hx => by
    have all : ∀ x ∈ zUN, x < 336 ∧ 301 ≤ x ∧ x ≤ 319 := by decide
    have := all x hx
    exact (b4 x (zU_in.2.2.2 x this.1 (by omega)).1).1
  have c : ∀ k, k < 292 → I' k = I k ∧ L' k = L k := fun k hk => ⟨(b4 k (zU_in.2.2.2 k (by omega) (by omega)).1).1, (b4 k (zU_in.2.2.2 k (by omega) (by omega)).1).2.1⟩
  have c293 := (b4 293 (by decide +kernel)).1
  have c299 := (b4 299 (by decide +kernel)).2.1
  have c334 := (b4 334 (by decide +kernel)).1
  refine ⟨⟨z, ?_⟩, by rw [(c 1 (by decide)).1, e 2 (by decide)]; exact v1, by rw [(c 2 (by decide)).1, c293]; exact v2, vWd_of v3 (c 5 (by decide)).2 c299, by rw [(c 0 (by decide)).1, e 17 (by decide)]; exact v4, vTd_of v5 (c 249 (by decide)).1 (e 58 (by decide)) (c 248 (by decide)).1 c334⟩
  have e18 := e 18 (by decide)
  rcases hg with ⟨h1, h3, h4⟩ | ⟨h1, h3, h4⟩
  · exact Or.inl ⟨e18.trans h1, zside_congr hc h3, zreg_congr hc h4⟩
  · exact Or.inr ⟨e18.trans h1, zside_congr hc h3, zreg_congr hc h4⟩
theorem e292_of {I' I2 : qMI} {L' L2 : qML} (sm : qSm 336 I' L' I2 L2) (h : rMf I I2) : ∀ j, j = 2 ∨ j = 17 ∨ j = 18 ∨ j = 58 → I' 292 j = I 292 j := by
  intro j hj
  have all : ∀ j, j < 59 → (j = 2 ∨ j = 17 ∨ j = 18 ∨ j = 58) → j < qNF (qSh 292).1 ∧ qIsR (qTy (qSh 292).1 j) = false := by decide +kernel
  obtain ⟨a1, a2⟩ := all j (by omega) hj
  exact (sm.2.2 292 (by decide) (by decide +kernel) j a1 a2).trans (h j (by omega) (by omega) (by omega))
theorem jM_gen {N : qMn} {as : List Value} {p : aD → (Nat → Int32) → Int32 × Option (Nat → Int32)} {y : Int32} (hv : kM p y I L R) (base : qCall l G 26 N as 336 I L R (vR0 zUm I L R)) (ex : ∀ (v : Nat) (A : aD) (f : Nat → Int32) (n : Nat) (h sl : Nat → Nat → Int32), rS v A f n h sl I → aOk A → fOk A f → wkI l G 26 N as I L R (fun z I' L' => L' = L ∧ z = (p A f).1 ∧ rS2 v A f n h sl I' (p A f).2 ∧ rMf I I')) (hp : ∀ A f, aOk A → fOk A f → ∀ g, (p A f).2 = some g → fOk A g) : qCall l G 26 N as 336 I L R (fun r t I' L' R' => t = 336 ∧ ∃ y2, r = some (.int y2) ∧ y2 = y ∧ wI I' L' R') := by
  obtain ⟨hv1, o, v, n, A, f, h, sl, ey, c1, s2, s3⟩ := hv
  have ex' : qCall l G 26 N as 336 I L R (fun r t I' L' R' => t = 336 ∧ R' = R ∧ ∃ z, r = some (.int z) ∧ L' = L ∧ z = (p A f).1 ∧ rS2 v A f n h sl I' (p A f).2 ∧ rMf I I') := ex v A f n h sl s2 s3.1 s3.2.1
  refine qCall_mono (qCall_and base ex') ?_
  intro r t I' L' R' hq
  obtain ⟨b, r2, I2, L2, R2, ⟨e2, -, y2, rfl, -, ey', c2, mf⟩, er, sm⟩ := hq
  obtain ⟨b1, ⟨y3, rfl⟩, b3, b4⟩ := id b
  subst b1
  have ey2 := qTv_i er
  have ee := e292_of sm mf
  have hv2 := jM_vI hv1 b3 b4 ee
  obtain ⟨ho, o12⟩ := cS2_o c1
  have r0 : R' 0 12 = some o := by rw [(b4 0 (by decide +kernel)).2.2]; exact o12
  have rp := (vRp hv2.1 r0).2.1
  have e334 : I' 334 = I 334 := (b4 334 (by decide +kernel)).1
  have hH : rHas v I' A := rHas_fr (fun x a b => (b4 x (zU_in.2.2.2 x (by omega) (by omega)).1).1) (ee 18 (by decide)) s2.1
  refine ⟨rfl, y3, rfl, ey2.trans (ey'.trans ey.symm), hv2, wS_both (cS2_mv c1 rp (fun k a => (b4 k (zU_in.2.2.2 k (by omega) (by omega)).1).1)) (rS2_tr c2 sm hH) (sOk_of s3 (fun i hi => by rw [e334])) (fun g hg => hp A f s3.1 s3.2.1 g hg) s2.2.2.1.2.1⟩
/-! undo -/
def kMu (y : Int32) (I : qMI) (L : qML) (R : qMR) : Prop := vI I L R ∧ ∃ (o v n : Nat) (A : aD) (f : Nat → Int32) (h sl : Nat → Nat → Int32), rS v A f n h sl I ∧ sOk A f n h sl I ∧ ((n = 0 ∧ y = 0 ∧ cS o A f n h sl I R) ∨ (0 < n ∧ y = 1 ∧ cS o A (h (n - 1)) (n - 1) h sl I R))
theorem jC_undo' (hv : wI I L R) (base : qCall l G 26 n_X8_undo [.ref 0] 336 I L R (vR3 zUc I L R)) : qCall l G 26 n_X8_undo [.ref 0] 336 I L R (fun r t I' L' R' => t = 336 ∧ ∃ y, r = some (.int y) ∧ kMu y I' L' R') := by
  obtain ⟨hv1, o, v, n, A, f, h, sl, s1, s2, s3⟩ := hv
  have ex' : qCall l G 26 n_X8_undo [.ref 0] 336 I L R (fun r t I' L' R' => t = 336 ∧ ∃ z, r = some (.int z) ∧ R' = R ∧ L' = L ∧ ((n = 0 ∧ z = 0 ∧ cS o A f n h sl I' R') ∨ (0 < n ∧ z = 1 ∧ cS o A (h (n - 1)) (n - 1) h sl I' R'))) := sUndo (d := 23) s1
  refine qCall_mono (qCall_and base ex') ?_
  intro r t I' L' R' hq
  obtain ⟨b, r2, I2, L2, R2, ⟨e2, y2, rfl, -, -, c2⟩, er, sm⟩ := hq
  obtain ⟨b1, ⟨y, rfl⟩, b3, b4, b5⟩ := id b
  subst b1
  have ey2 := qTv_i er
  subst ey2
  obtain ⟨-, y', e', hv2⟩ := vI_of hv1 (vR3_2 (by decide +kernel) b)
  have r0 : R' 0 12 = some o := by rw [(b4 0 (by decide +kernel)).2.2]; exact s1.1.2.2
  have rp := (vRp b3 r0).2.1
  have e292 : I' 292 = I 292 := (b4 292 (zU_in.2.1 292 (by decide) (by decide))).1
  refine ⟨rfl, y, rfl, hv2, o, v, n, A, f, h, sl, rS_of s2 (fun k a => (b4 k (zU_in.2.1 k (by omega) (by omega))).1) (by rw [e292]) (by rw [e292]), sOk_of s3 (fun i hi => by rw [(b4 334 (zU_in.2.1 334 (by decide) (by decide))).1]), ?_⟩
  rcases c2 with ⟨n0, y0, c⟩ | ⟨n0, y0, c⟩
  · exact Or.inl ⟨n0, y0, cS_tr c sm rp⟩
  · exact Or.inr ⟨n0, y0, cS_tr c sm rp⟩
theorem jM_undo' {y : Int32} (hv : kMu y I L R) (base : qCall l G 26 n_X9_undo [.ref 292] 336 I L R (vR0 zUm I L R)) : qCall l G 26 n_X9_undo [.ref 292] 336 I L R (fun r t I' L' R' => t = 336 ∧ ∃ y2, r = some (.int y2) ∧ y2 = y ∧ wI I' L' R') := by
  obtain ⟨hv1, o, v, n, A, f, h, sl, s2, s3, c1⟩ := hv
  have ex' : qCall l G 26 n_X9_undo [.ref 292] 336 I L R (fun r t I' L' R' => t = 336 ∧ R' = R ∧ ∃ z, r = some (.int z) ∧ L' = L ∧ ((n = 0 ∧ z = 0 ∧ rS v A f n h sl I') ∨ (0 < n ∧ z = 1 ∧ rS v A (h (n - 1)) (n - 1) h sl I')) ∧ rMf I I') := uUndo (d := 25) (vWR hv1.1) s2
  refine qCall_mono (qCall_and base ex') ?_
  intro r t I' L' R' hq
  obtain ⟨b, r2, I2, L2, R2, ⟨e2, -, y2, rfl, -, c2, mf⟩, er, sm⟩ := hq
  obtain ⟨b1, ⟨y3, rfl⟩, b3, b4⟩ := id b
  subst b1
  have ey2 := qTv_i er
  subst ey2
  have ee := e292_of sm mf
  have hv2 := jM_vI hv1 b3 b4 ee
  have hH : rHas v I' A := rHas_fr (fun x a b => (b4 x (zU_in.2.2.2 x (by omega) (by omega)).1).1) (ee 18 (by decide)) s2.1
  have e334 : I' 334 = I 334 := (b4 334 (by decide +kernel)).1
  have ok : ∀ (m : Nat) (g : Nat → Int32), m ≤ n → fOk A g → sOk A g m h sl I' := fun m g hm hg => ⟨s3.1, hg, fun i hi => s3.2.2.1 i (by omega), fun i hi q => by rw [e334] at q; exact s3.2.2.2 i hi q⟩
  have mv : ∀ (m : Nat) (g : Nat → Int32), cS o A g m h sl I R → cS o A g m h sl I' R' := fun m g c => by
    have r0 : R' 0 12 = some o := by rw [(b4 0 (by decide +kernel)).2.2]; exact c.1.2.2
    have ho := c.1.1.1
    exact cS_mv c (vRp hv2.1 r0).2.1 (fun k a => (b4 k (zU_in.2.2.2 k (by omega) (by omega)).1).1)
  rcases c1 with ⟨n0, y0, c⟩ | ⟨n0, y0, c⟩
  · rcases c2 with ⟨m0, z0, r2⟩ | ⟨m0, z0, r2⟩
    · exact ⟨rfl, y3, rfl, z0.trans y0.symm, hv2, o, v, n, A, f, h, sl, mv n f c, rS_tr r2 sm hH, ok n f (Nat.le_refl _) s3.2.1⟩
    · omega
  · rcases c2 with ⟨m0, z0, r2⟩ | ⟨m0, z0, r2⟩
    · omega
    · exact ⟨rfl, y3, rfl, z0.trans y0.symm, hv2, o, v, n - 1, A, h (n - 1), h, sl, mv _ _ c, rS_tr r2 sm hH, ok (n - 1) _ (by omega) (s3.2.2.1 (n - 1) (by omega))⟩
/-! restore -/
abbrev oSl (x : Int32) : Prop := 0 ≤ x.toInt ∧ x.toInt < 3
def kMr (x y : Int32) (I : qMI) (L : qML) (R : qMR) : Prop := vI I L R ∧ ∃ (o v n : Nat) (A : aD) (f : Nat → Int32) (h sl : Nat → Nat → Int32), rS v A f n h sl I ∧ sOk A f n h sl I ∧ ((¬ (oSl x ∧ ¬ I 248 x.toInt.toNat = 0) ∧ y = 0 ∧ cS o A f n h sl I R) ∨ ((oSl x ∧ ¬ I 248 x.toInt.toNat = 0) ∧ y = 1 ∧ cS o A (sl x.toInt.toNat) 0 h sl I R))
theorem jC_restore' (hv : wI I L R) (x : Int32) (base : qCall l G 26 n_X8_restore [.ref 0, .int x] 336 I L R (vR3 zUc I L R)) : qCall l G 26 n_X8_restore [.ref 0, .int x] 336 I L R (fun r t I' L' R' => t = 336 ∧ ∃ y, r = some (.int y) ∧ kMr x y I' L' R') := by
  obtain ⟨hv1, o, v, n, A, f, h, sl, s1, s2, s3⟩ := hv
  have ex' : qCall l G 26 n_X8_restore [.ref 0, .int x] 336 I L R (fun r t I' L' R' => t = 336 ∧ ∃ z, r = some (.int z) ∧ R' = R ∧ L' = L ∧ ((¬ ((0 ≤ x.toInt ∧ x.toInt < 3) ∧ ¬ I 248 x.toInt.toNat = 0) ∧ z = 0 ∧ I' = I) ∨ (((0 ≤ x.toInt ∧ x.toInt < 3) ∧ ¬ I 248 x.toInt.toNat = 0) ∧ z = 1 ∧ cS o A (sl x.toInt.toNat) 0 h sl I' R'))) := sRestore (d := 24) s1
  refine qCall_mono (qCall_and base ex') ?_
  intro r t I' L' R' hq
  obtain ⟨b, r2, I2, L2, R2, ⟨e2, y2, rfl, eR, -, c2⟩, er, sm⟩ := hq
  obtain ⟨b1, ⟨y, rfl⟩, b3, b4, b5⟩ := id b
  subst b1
  have ey2 := qTv_i er
  subst ey2
  obtain ⟨-, y', e', hv2⟩ := vI_of hv1 (vR3_2 (by decide +kernel) b)
  have r0 : R' 0 12 = some o := by rw [(b4 0 (by decide +kernel)).2.2]; exact s1.1.2.2
  have rp := (vRp b3 r0).2.1
  have e248 : I' 248 = I 248 := (b4 248 (by decide +kernel)).1
  have e292 : I' 292 = I 292 := (b4 292 (zU_in.2.1 292 (by decide) (by decide))).1
  refine ⟨rfl, y, rfl, hv2, o, v, n, A, f, h, sl, rS_of s2 (fun k a => (b4 k (zU_in.2.1 k (by omega) (by omega))).1) (by rw [e292]) (by rw [e292]), sOk_of s3 (fun i hi => by rw [(b4 334 (zU_in.2.1 334 (by decide) (by decide))).1]), ?_⟩
  rw [e248]
  rcases c2 with ⟨n0, y0, c⟩ | ⟨n0, y0, c⟩
  · subst c
    subst eR
    exact Or.inl ⟨n0, y0, cS_tr s1 sm rp⟩
  · exact Or.inr ⟨n0, y0, cS_tr c sm rp⟩
theorem jM_restore' {y : Int32} (x : Int32) (hv : kMr x y I L R) (base : qCall l G 26 n_X9_restore [.ref 292, .int x] 336 I L R (vR0 zUm I L R)) : qCall l G 26 n_X9_restore [.ref 292, .int x] 336 I L R (fun r t I' L' R' => t = 336 ∧ ∃ y2, r = some (.int y2) ∧ y2 = y ∧ wI I' L' R') := by
  obtain ⟨hv1, o, v, n, A, f, h, sl, s2, s3, c1⟩ := hv
  have ex' : qCall l G 26 n_X9_restore [.ref 292, .int x] 336 I L R (fun r t I' L' R' => t = 336 ∧ R' = R ∧ ∃ z, r = some (.int z) ∧ L' = L ∧ ((¬ ((0 ≤ x.toInt ∧ x.toInt < 3) ∧ ¬ I 334 x.toInt.toNat = 0) ∧ z = 0 ∧ I' = I) ∨ (((0 ≤ x.toInt ∧ x.toInt < 3) ∧ ¬ I 334 x.toInt.toNat = 0) ∧ z = 1 ∧ rS v A (sl x.toInt.toNat) 0 h sl I')) ∧ rMf I I') := uRestore (d := 24) (vWR hv1.1) s2
  refine qCall_mono (qCall_and base ex') ?_
  intro r t I' L' R' hq
  obtain ⟨b, r2, I2, L2, R2, ⟨e2, -, y2, rfl, -, c2, mf⟩, er, sm⟩ := hq
  obtain ⟨b1, ⟨y3, rfl⟩, b3, b4⟩ := id b
  subst b1
  have ey2 := qTv_i er
  subst ey2
  have ee := e292_of sm mf
  have hv2 := jM_vI hv1 b3 b4 ee
  have hH : rHas v I' A := rHas_fr (fun x a b => (b4 x (zU_in.2.2.2 x (by omega) (by omega)).1).1) (ee 18 (by decide)) s2.1
  have e334 : I' 334 = I 334 := (b4 334 (by decide +kernel)).1
  have mv : ∀ (m : Nat) (g : Nat → Int32), cS o A g m h sl I R → cS o A g m h sl I' R' := fun m g c => by
    have r0 : R' 0 12 = some o := by rw [(b4 0 (by decide +kernel)).2.2]; exact c.1.2.2
    have ho := c.1.1.1
    exact cS_mv c (vRp hv2.1 r0).2.1 (fun k a => (b4 k (zU_in.2.2.2 k (by omega) (by omega)).1).1)
  have hl : oSl x → I 248 x.toInt.toNat = I 334 x.toInt.toNat := fun q => hv1.2.2.2.2.2.2 _ (by omega)
  rcases c1 with ⟨n0, y0, c⟩ | ⟨n0, y0, c⟩
  · rcases c2 with ⟨m0, z0, r2⟩ | ⟨m0, z0, r2⟩
    · subst r2
      exact ⟨rfl, y3, rfl, z0.trans y0.symm, hv2, o, v, n, A, f, h, sl, mv n f c, rS_tr s2 sm hH, sOk_of s3 (fun i hi => by rw [e334])⟩
    · exact absurd ⟨m0.1, fun q => m0.2 (by rw [← hl m0.1]; exact q)⟩ n0
  · rcases c2 with ⟨m0, z0, r2⟩ | ⟨m0, z0, r2⟩
    · exact absurd ⟨n0.1, fun q => n0.2 (by rw [hl n0.1]; exact q)⟩ m0
    · exact ⟨rfl, y3, rfl, z0.trans y0.symm, hv2, o, v, 0, A, sl x.toInt.toNat, h, sl, mv _ _ c, rS_tr r2 sm hH, s3.1, s3.2.2.2 _ (by omega) m0.2, fun i hi => absurd hi (by omega), fun i hi q => by rw [e334] at q; exact s3.2.2.2 i hi q⟩
/-! hold -/
def kMh (x y : Int32) (I : qMI) (L : qML) (R : qMR) : Prop := vInv I L R ∧ (I 1 1 = I 292 2 ∧ I 2 = I 293 ∧ vWd L ∧ I 0 13 = I 292 17 ∧ I 249 0 = I 292 58) ∧ ∃ (o v n : Nat) (A : aD) (f : Nat → Int32) (h sl : Nat → Nat → Int32), rS v A f n h sl I ∧ sOk A f n h sl I ∧ ((¬ oSl x ∧ y = 0 ∧ (∀ i, i < 3 → I 248 i = I 334 i) ∧ cS o A f n h sl I R) ∨ (oSl x ∧ y = 1 ∧ (∀ i, i < 3 → I 248 i = if i = x.toInt.toNat then 1 else I 334 i) ∧ cS o A f n h (fun i => if i = x.toInt.toNat then f else sl i) I R))
theorem jC_hold' (hv : wI I L R) (x : Int32) (base : qCall l G 26 n_X8_hold [.ref 0, .int x] 336 I L R (vR3 zHc I L R)) : qCall l G 26 n_X8_hold [.ref 0, .int x] 336 I L R (fun r t I' L' R' => t = 336 ∧ ∃ y, r = some (.int y) ∧ kMh x y I' L' R') := by
  obtain ⟨⟨-, v1, v2, v3, v4, v5⟩, o, v, n, A, f, h, sl, s1, s2, s3⟩ := hv
  have ex' : qCall l G 26 n_X8_hold [.ref 0, .int x] 336 I L R (fun r t I' L' R' => t = 336 ∧ ∃ z, r = some (.int z) ∧ R' = R ∧ L' = L ∧ ((¬ (0 ≤ x.toInt ∧ x.toInt < 3) ∧ z = 0 ∧ I' = I) ∨ ((0 ≤ x.toInt ∧ x.toInt < 3) ∧ z = 1 ∧ I' 248 = tU (I 248) x.toInt.toNat 1 ∧ cS o A f n h (fun i => if i = x.toInt.toNat then f else sl i) I' R'))) := sHold (d := 24) s1
  refine qCall_mono (qCall_and base ex') ?_
  intro r t I' L' R' hq
  obtain ⟨b, r2, I2, L2, R2, ⟨e2, y2, rfl, eR, -, c2⟩, er, sm⟩ := hq
  obtain ⟨b1, ⟨y, rfl⟩, b3, b4, b5⟩ := id b
  subst b1
  have ey2 := qTv_i er
  subst ey2
  have r0 : R' 0 12 = some o := by rw [(b4 0 (by decide +kernel)).2.2]; exact s1.1.2.2
  have rp := (vRp b3 r0).2.1
  have f3 : ∀ k, k < 336 → 292 ≤ k → I' k = I k ∧ L' k = L k := fun k a c => ⟨(b4 k (zU_in.2.2.1 k a c)).1, (b4 k (zU_in.2.2.1 k a c)).2.1⟩
  have e292 : I' 292 = I 292 := (f3 292 (by decide) (by decide)).1
  have e334 : I' 334 = I 334 := (f3 334 (by decide) (by decide)).1
  have l8 : (qSh 248).2 = 3 := by decide +kernel
  have e248 : ∀ i, i < 3 → I' 248 i = I2 248 i := fun i hi => sm.1 248 (by decide) (by decide +kernel) (by decide +kernel) i (by omega)
  refine ⟨rfl, y, rfl, b3, ⟨by rw [(b4 1 (by decide +kernel)).1, e292]; exact v1, by rw [(b4 2 (by decide +kernel)).1, (f3 293 (by decide) (by decide)).1]; exact v2, vWd_of v3 (b4 5 (by decide +kernel)).2.1 (f3 299 (by decide) (by decide)).2, by rw [(b4 0 (by decide +kernel)).1, e292]; exact v4, by rw [(b4 249 (by decide +kernel)).1, e292]; exact v5.1⟩, o, v, n, A, f, h, sl, rS_of s2 (fun k a => (f3 k (by omega) (by omega)).1) (by rw [e292]) (by rw [e292]), sOk_of s3 (fun i hi => by rw [e334]), ?_⟩
  rw [e334]
  rcases c2 with ⟨n0, y0, c⟩ | ⟨n0, y0, c8, c⟩
  · subst c
    subst eR
    exact Or.inl ⟨n0, y0, fun i hi => (e248 i hi).trans (v5.2 i hi), cS_tr s1 sm rp⟩
  · refine Or.inr ⟨n0, y0, fun i hi => ?_, cS_tr c sm rp⟩
    rw [e248 i hi, c8]
    by_cases z : i = x.toInt.toNat
    · rw [if_pos z, z, tU_s]
    · rw [if_neg z, tU_o z]
      exact v5.2 i hi
theorem jM_hold' {y : Int32} (x : Int32) (hv : kMh x y I L R) (base : qCall l G 26 n_X9_hold [.ref 292, .int x] 336 I L R (vR3 zHm I L R)) : qCall l G 26 n_X9_hold [.ref 292, .int x] 336 I L R (fun r t I' L' R' => t = 336 ∧ ∃ y2, r = some (.int y2) ∧ y2 = y ∧ wI I' L' R') := by
  obtain ⟨hv1, ⟨v1, v2, v3, v4, v5⟩, o, v, n, A, f, h, sl, s2, s3, c1⟩ := hv
  have ex' : qCall l G 26 n_X9_hold [.ref 292, .int x] 336 I L R (fun r t I' L' R' => t = 336 ∧ R' = R ∧ ∃ z, r = some (.int z) ∧ L' = L ∧ ((¬ (0 ≤ x.toInt ∧ x.toInt < 3) ∧ z = 0 ∧ I' = I) ∨ ((0 ≤ x.toInt ∧ x.toInt < 3) ∧ z = 1 ∧ I' 334 = tU (I 334) x.toInt.toNat 1 ∧ rS v A f n h (fun i => if i = x.toInt.toNat then f else sl i) I'))) := uHold (d := 24) (vWR hv1) s2
  refine qCall_mono (qCall_and base ex') ?_
  intro r t I' L' R' hq
  obtain ⟨b, r2, I2, L2, R2, ⟨e2, -, y2, rfl, -, c2⟩, er, sm⟩ := hq
  obtain ⟨b1, ⟨y3, rfl⟩, b3, b4, b5⟩ := id b
  subst b1
  have ey2 := qTv_i er
  subst ey2
  have c : ∀ k, k < 292 → I' k = I k ∧ L' k = L k := fun k hk => ⟨(b4 k (zU_in.2.2.2 k (by omega) (by omega)).2.2).1, (b4 k (zU_in.2.2.2 k (by omega) (by omega)).2.2).2.1⟩
  have l34 : (qSh 334).2 = 3 := by decide +kernel
  have e334 : ∀ i, i < 3 → I' 334 i = I2 334 i := fun i hi => sm.1 334 (by decide) (by decide +kernel) (by decide +kernel) i (by omega)
  have hH : rHas v I' A := rHas_fr (fun x a b => (b4 x (zU_in.2.2.2 x (by omega) (by omega)).2.2).1) (b5 18 rfl) s2.1
  have vi : (∀ i, i < 3 → I 248 i = I' 334 i) → vI I' L' R' := fun q => ⟨b3, by rw [(c 1 (by decide)).1, b5 2 rfl]; exact v1, by rw [(c 2 (by decide)).1, (b4 293 (by decide +kernel)).1]; exact v2, vWd_of v3 (c 5 (by decide)).2 (b4 299 (by decide +kernel)).2.1, by rw [(c 0 (by decide)).1, b5 17 rfl]; exact v4, by rw [(c 249 (by decide)).1, b5 58 rfl]; exact v5, fun i hi => by rw [(c 248 (by decide)).1]; exact q i hi⟩
  have mv : ∀ (s : Nat → Nat → Int32), cS o A f n h s I R → cS o A f n h s I' R' := fun s cc => by
    have r0 : R' 0 12 = some o := by rw [(b4 0 (by decide +kernel)).2.2]; exact cc.1.2.2
    have ho := cc.1.1.1
    exact cS_mv cc (vRp b3 r0).2.1 (fun k a => (b4 k (zU_in.2.2.2 k (by omega) (by omega)).2.2).1)
  rcases c1 with ⟨n0, y0, c8, cc⟩ | ⟨n0, y0, c8, cc⟩
  · rcases c2 with ⟨m0, z0, r2⟩ | ⟨m0, z0, r2⟩
    · subst r2
      exact ⟨rfl, y3, rfl, z0.trans y0.symm, vi (fun i hi => (c8 i hi).trans (e334 i hi).symm), o, v, n, A, f, h, sl, mv sl cc, rS_tr s2 sm hH, sOk_of s3 (fun i hi => e334 i hi)⟩
    · exact absurd m0 n0
  · rcases c2 with ⟨m0, z0, r2⟩ | ⟨m0, z0, r8, r2⟩
    · exact absurd n0 m0
    · have e8 : ∀ i, i < 3 → I' 334 i = if i = x.toInt.toNat then 1 else I 334 i := fun i hi => by
        rw [e334 i hi, r8]
        by_cases z : i = x.toInt.toNat
        · rw [if_pos z, z, tU_s]
        · rw [if_neg z, tU_o z]
      refine ⟨rfl, y3, rfl, z0.trans y0.symm, vi (fun i hi => (c8 i hi).trans (e8 i hi).symm), o, v, n, A, f, h, _, mv _ cc, rS_tr r2 sm hH, s3.1, s3.2.1, s3.2.2.1, fun i hi q => ?_⟩
      show fOk A (if i = x.toInt.toNat then f else sl i)
      by_cases z : i = x.toInt.toNat
      · rw [if_pos z]; exact s3.2.1
      · rw [if_neg z]
        rw [e8 i hi, if_neg z] at q
        exact s3.2.2.2 i hi q
end
/-! read, the tape, the place, what is told -/
theorem zGood_v {v : Nat} {I : qMI} {L : qML} {R : qMR} (hg : zGood (I, L, R)) (hv : (I 292 18).toInt = v) : zside I v := by
  rcases hg with ⟨h1, h2, -⟩ | ⟨h1, h2, -⟩
  · have h1 : I 292 18 = 0 := h1
    rw [h1, show (0 : Int32).toInt = 0 from rfl] at hv
    have : v = 0 := by omega
    rw [this]
    exact h2
  · have h1 : I 292 18 = 1 := h1
    rw [h1, show (1 : Int32).toInt = 1 from rfl] at hv
    have : v = 1 := by omega
    rw [this]
    exact h2
theorem wS_sm {I' I2 : qMI} {L' L2 : qML} {R' R2 : qMR} (s : wS I2 R2) (sm : qSm 336 I' L' I2 L2) (smR : qSmR 336 R' R2) (hv : vInv I' L' R') : wS I' R' := by
  obtain ⟨o, v, n, A, f, h, sl, s1, s2, s3⟩ := s
  have e12 : R' 0 12 = R2 0 12 := smR 0 (by decide) (by decide +kernel) 12 (by decide +kernel) (by decide +kernel)
  have l34 : (qSh 334).2 = 3 := by decide +kernel
  exact ⟨o, v, n, A, f, h, sl, cS_tr s1 sm (vRp hv (by rw [e12]; exact s1.1.2.2)).2.1, rS_sm sm hv.2 s2, sOk_of s3 (fun i hi => sm.1 334 (by decide) (by decide +kernel) (by decide +kernel) i (by omega))⟩
def kMd (y : Int32) (I : qMI) (L : qML) (R : qMR) : Prop := vInv I L R ∧ I 1 1 = 0 ∧ I 2 = I 293 ∧ vWd L ∧ ∃ (K S : Nat → Int32) (N : Nat → Int64), pSpec (L 299) (fun i => vp_nar .byte (I 293 i) &&& 255) (I 292 2).toInt.toNat K S N ∧ y = zAns (zText K S N) ∧ I 0 13 = zPlc (zText K S N) ∧ (y = 0 → I 249 0 = 0 ∧ ∀ i, i < 3 → I 248 i = 0) ∧ (y ≠ 0 → vTd I) ∧ ∃ (v n : Nat) (A : aD) (f : Nat → Int32) (h sl : Nat → Nat → Int32), rS v A f n h sl I ∧ sOk A f n h sl I ∧ (y = 0 → aOk (aText K S N) ∧ ∃ o, cS o (aText K S N) (bX (aText K S N)) 0 h sl I R) ∧ (y ≠ 0 → ∃ o, cS o A f n h sl I R)
section
variable {l : Launch} {G : qG} {I : qMI} {L : qML} {R : qMR}
theorem jC_read (hv : wI I L R) : qCall l G 26 n_X8_read [.ref 0] 336 I L R (fun r t I' L' R' => t = 336 ∧ ∃ y, r = some (.int y) ∧ kMd y I' L' R') := by
  obtain ⟨⟨⟨hm, hg⟩, h1, h2, h3, h4, h5⟩, o', v, n, A, f, h, sl, s1, s2, s3⟩ := hv
  have key : qCall l G 26 n_X8_read [.ref 0] 336 I L R (fun r t I' L' R' => t = 336 ∧ cRdP I L r I' L' R') := by
    rcases hm with hm | hm
    · exact cRead0 hm hg
    · exact cRead1 hm hg
  obtain ⟨-, -, o, ho, hne, hd⟩ := vRp ⟨hm, hg⟩ s1.1.2.2
  obtain ⟨A1, hA1, hm1, -, -⟩ := vC ⟨hm, hg⟩
  have bd := (zC1 hA1 hm1).2.2.1
  refine qCall_mono (qCall_and2 key (sRead s1 hd ho hne bd.1 bd.2)) ?_
  intro r t I' L' R' hq
  obtain ⟨⟨e, y, rfl, hv', K0, S0, N0, hs0, ey0, ep0, q1, q2, q5, gk, n1, n2, n3, n4⟩, r2, I2, L2, R2, ⟨e2, y2, rfl, K, S, N, hs, ey, ep, ok, bad⟩, er, sm, smR⟩ := hq
  subst e
  have ey2 := qTv_i er
  subst ey2
  have g2 := (gk 292 (by decide) (by decide)).1
  have g3 := (gk 293 (by decide) (by decide)).1
  have g9 := (gk 299 (by decide) (by decide)).2
  have e12 : R' 0 12 = R2 0 12 := smR 0 (by decide) (by decide +kernel) 12 (by decide +kernel) (by decide +kernel)
  have w0 : y = 0 → zAns (zText K0 S0 N0) = 0 := fun w => by rw [← ey0]; exact w
  have w1 : y ≠ 0 → zAns (zText K0 S0 N0) ≠ 0 := fun w => by rw [← ey0]; exact w
  refine ⟨rfl, y, rfl, hv', q1, by rw [q2, g3, h2], vWd_of h3 q5 g9, K, S, N, ?_, ey, (sm.2.2 0 (by decide) (by decide +kernel) 13 (by decide +kernel) (by decide +kernel)).trans ep, fun w => ⟨n1 (w0 w), n3 (w0 w)⟩, fun w => vTd_of h5 (n2 (w1 w)) (by rw [g2]) (n4 (w1 w)) (gk 334 (by decide) (by decide)).1, v, n, A, f, h, sl, rS_of s2 (fun k a => (gk k (by omega) (by omega)).1) (by rw [g2]) (by rw [g2]), sOk_of s3 (fun i hi => by rw [(gk 334 (by decide) (by decide)).1]), fun w => ⟨(ok w).1, o, cS_tr (ok w).2 sm (vRp hv' (by rw [e12]; exact (ok w).2.1.2.2)).2.1⟩, fun w => ⟨o', cS_tr (bad w) sm (vRp hv' (by rw [e12]; exact (bad w).1.2.2)).2.1⟩⟩
  have hb : (fun i => vp_nar .byte (I 293 i) &&& 255) = cBy I := funext fun i => by rw [← h2]; exact nar_and _
  rw [g9, g3, g2, hb, ← h3.1, ← h1]
  exact pSpec_of hs
theorem jM_read {y : Int32} (hv : kMd y I L R) : qCall l G 26 n_X9_read [.ref 292] 336 I L R (fun r t I' L' R' => t = 336 ∧ ∃ y2, r = some (.int y2) ∧ y2 = y ∧ wI I' L' R') := by
  obtain ⟨hv, s1, s2, hw, K, S, N, hs, ey, ep, n1, n2, v, n, A, f, h, sl, r1, k1, st0, st1⟩ := hv
  obtain ⟨A1, hA, hm, hg, hk⟩ := vM hv
  refine qCall_mono (uRead (d := 18) (vRR hA hm) (w := L 299) hw.2 (fun _ _ => rfl) hs (vRi hA hm hg)) ?_
  intro r t I' L' R' hq
  obtain ⟨rfl, rfl, y2, rfl, hp, ⟨e1, e2, e3, e4, e5⟩, u1, u2⟩ := hq
  have vr := vRead (L' := L') hA hm hp
  have hv' := hk _ _ _ vr
  have cl : ∀ k, k < 292 → I' k = I k := fun k a => hp.2.1 k (by omega) (Or.inl (by omega))
  have w0 : y = 0 → zAns (zText K S N) = 0 := fun w => by rw [← ey]; exact w
  have w1 : y ≠ 0 → zAns (zText K S N) ≠ 0 := fun w => by rw [← ey]; exact w
  have vi : vI I' L' R' := by
    refine ⟨hv', ?_, ?_, vWd_of hw (e3 5 (by decide) (by decide)) (e3 299 (by decide) (by decide)), ?_, ?_⟩
    · rw [hp.2.2.2.1, cl 1 (by decide)]
      exact s1
    · rw [cl 2 (by decide), hp.2.1 293 (by decide) (Or.inl (by decide))]
      exact s2
    · rw [cl 0 (by decide), e2]
      exact ep
    · by_cases w : y = 0
      · exact ⟨by rw [cl 249 (by decide), (n1 w).1, (e4 (w0 w)).2.1], fun i hi => by rw [cl 248 (by decide), (n1 w).2 i hi, (e4 (w0 w)).2.2 i hi]⟩
      · exact vTd_of (n2 w) (cl 249 (by decide)) (e5 (w1 w)).2.1 (cl 248 (by decide)) (e5 (w1 w)).2.2
  by_cases w : y = 0
  · obtain ⟨s, hs', h18, hD, h323⟩ := u1 (w0 w)
    obtain ⟨ok, o, c⟩ := st0 w
    have ho := c.1.1.1
    have e4' := e4 (w0 w)
    exact ⟨rfl, y2, rfl, e1.trans ey.symm, vi, o, s, 0, aText K S N, bX (aText K S N), h, sl, cS_of c (fun k a => cl k (by omega)), ⟨⟨⟨hs', h18⟩, zGood_v hv'.2 h18, hD, aText_wf (zAns_0 (w0 w)).1⟩, h323, ⟨by rw [e4'.1]; rfl, by decide, fun i hi => absurd hi (by omega)⟩, fun i hi q => absurd (e4'.2.2 i hi) q⟩, ok, fOk_bX ok, fun i hi => absurd hi (by omega), fun i hi q => absurd (e4'.2.2 i hi) q⟩
  · obtain ⟨u18, u323, uD⟩ := u2 (w1 w)
    obtain ⟨o, c⟩ := st1 w
    have ho := c.1.1.1
    obtain ⟨⟨⟨g1, g2⟩, -, g4, g5⟩, r2, ⟨r3, r4, r5⟩, r6⟩ := r1
    have e5' := e5 (w1 w)
    have h18 : (I' 292 18).toInt = v := by rw [u18]; exact g2
    have e325 : I' 325 = I 325 := hp.2.1 325 (by decide) (Or.inr (Or.inr (Or.inr ⟨by decide, by decide⟩)))
    have e335 : I' 335 = I 335 := hp.2.1 335 (by decide) (Or.inr (Or.inr (Or.inr ⟨by decide, by decide⟩)))
    exact ⟨rfl, y2, rfl, e1.trans ey.symm, vi, o, v, n, A, f, h, sl, cS_of c (fun k a => cl k (by omega)), ⟨⟨⟨g1, h18⟩, zGood_v hv'.2 h18, uD v A g1 g2 g4, g5⟩, rEq_of r2 u323, ⟨by rw [e5'.1]; exact r3, r4, fun i hi k hk => by rw [e325]; exact r5 i hi k hk⟩, fun i hi q k hk => by rw [e5'.2.2] at q; rw [e335]; exact r6 i hi q k hk⟩, sOk_of k1 (fun i hi => by rw [e5'.2.2])⟩
theorem jA {N : qMn} {as : List Value} {P : Int32 → qMI → qML → qMR → Prop} (a : qCall l G 26 N as 336 I L R (fun r t I' L' R' => t = 336 ∧ ∃ y, r = some (.int y) ∧ P y I' L' R')) (b : qCall l G 26 N as 336 I L R (fun r t I' L' R' => t = 336 ∧ wS I' R')) (hP : ∀ y I' L' R', P y I' L' R' → vInv I' L' R') : qCall l G 26 N as 336 I L R (fun r t I' L' R' => t = 336 ∧ ∃ y, r = some (.int y) ∧ P y I' L' R' ∧ wS I' R') := by
  refine qCall_mono (qCall_and2 a b) ?_
  intro r t I' L' R' hq
  obtain ⟨⟨e, y, rfl, p⟩, r2, I2, L2, R2, ⟨e2, s⟩, er, sm, smR⟩ := hq
  subst e
  exact ⟨rfl, y, rfl, p, wS_sm s sm smR (hP _ _ _ _ p)⟩
theorem jB {N : qMn} {as : List Value} {y : Int32} (a : qCall l G 26 N as 336 I L R (fun r t I' L' R' => t = 336 ∧ ∃ y2, r = some (.int y2) ∧ y2 = y ∧ vI I' L' R')) (b : qCall l G 26 N as 336 I L R (fun r t I' L' R' => t = 336 ∧ wS I' R')) : qCall l G 26 N as 336 I L R (fun r t I' L' R' => t = 336 ∧ ∃ y2, r = some (.int y2) ∧ y2 = y ∧ wI I' L' R') := by
  refine qCall_mono (jA (P := fun y2 I' L' R' => y2 = y ∧ vI I' L' R') a b (fun _ _ _ _ p => p.2.1)) ?_
  intro r t I' L' R' hq
  obtain ⟨e, y2, e2, ⟨e3, p⟩, s⟩ := hq
  exact ⟨e, y2, e2, e3, p, s⟩
theorem jC_feed (hv : wI I L R) (x1 x2 x3 x4 x5 : Int32) : qCall l G 26 n_X8_feed [.ref 0, .int x1, .int x2, .int x3, .int x4, .int x5] 336 I L R (fun r t I' L' R' => t = 336 ∧ ∃ y, r = some (.int y) ∧ vMf x1 x2 x3 x4 x5 y I' L' R' ∧ wS I' R') := by
  refine jA (iC_feed hv.1 x1 x2 x3 x4 x5) ?_ (fun _ _ _ _ p => p.1)
  obtain ⟨A, hA, hm, hg, hk⟩ := vC hv.1.1
  obtain ⟨r1, r2, ⟨s1, s2⟩, -⟩ := zC1 hA hm
  refine qCall_mono (cFeed (d := 24) r1 r2 s1 s2) ?_
  intro r t I' L' R' hq
  obtain ⟨e, y, e1, eR, e2, hp, -⟩ := hq
  rw [eR]
  exact ⟨e, wS_of hv.2 (fun k a _ _ _ _ => hp.1 k (by omega) (by omega)) (by rw [hp.1 292 (by decide) (by decide)]) (by rw [hp.1 292 (by decide) (by decide)])⟩
theorem jM_feed {y : Int32} (x1 x2 x3 x4 x5 : Int32) (hv : vMf x1 x2 x3 x4 x5 y I L R ∧ wS I R) : qCall l G 26 n_X9_feed [.ref 292, .int x1, .int x2, .int x3, .int x4, .int x5] 336 I L R (fun r t I' L' R' => t = 336 ∧ ∃ y2, r = some (.int y2) ∧ y2 = y ∧ wI I' L' R') := by
  refine jB (iM_feed x1 x2 x3 x4 x5 hv.1) ?_
  obtain ⟨A, hA, hm, hg, hk⟩ := vM hv.1.1
  obtain ⟨⟨t1, t2⟩, -⟩ := vRi hA hm hg
  refine qCall_mono (eFeed (d := 24) (vRR hA hm) t1 t2) ?_
  intro r t I' L' R' hq
  obtain ⟨e, eR, y2, e1, e2, hp, -⟩ := hq
  rw [eR]
  exact ⟨e, wS_of hv.2 (fun k _ _ a b _ => hp.1 k a b) (hp.2 18 (by decide)) (hp.2 51 (by decide))⟩
theorem jC_back (hv : wI I L R) (x1 : Int32) : qCall l G 26 n_X8_back [.ref 0, .int x1] 336 I L R (fun r t I' L' R' => t = 336 ∧ ∃ y, r = some (.int y) ∧ vMb x1 y I' L' R' ∧ wS I' R') := by
  refine jA (iC_back hv.1 x1) ?_ (fun _ _ _ _ p => p.1)
  obtain ⟨A, hA, hm, hg, hk⟩ := vC hv.1.1
  obtain ⟨r1, r2, ⟨s1, s2⟩, -⟩ := zC1 hA hm
  refine qCall_mono (cBack (d := 24) r1) ?_
  intro r t I' L' R' hq
  obtain ⟨e, y, e1, eR, e2, hp, -⟩ := hq
  rw [eR]
  exact ⟨e, wS_of hv.2 (fun k a _ _ _ _ => hp.1 k (by omega) (by omega)) (by rw [hp.1 292 (by decide) (by decide)]) (by rw [hp.1 292 (by decide) (by decide)])⟩
theorem jM_back {y : Int32} (x1 : Int32) (hv : vMb x1 y I L R ∧ wS I R) : qCall l G 26 n_X9_back [.ref 292, .int x1] 336 I L R (fun r t I' L' R' => t = 336 ∧ ∃ y2, r = some (.int y2) ∧ y2 = y ∧ wI I' L' R') := by
  refine jB (iM_back x1 hv.1) ?_
  obtain ⟨A, hA, hm, hg, hk⟩ := vM hv.1.1
  obtain ⟨⟨t1, t2⟩, -⟩ := vRi hA hm hg
  refine qCall_mono (eBack (d := 25) t1 t2) ?_
  intro r t I' L' R' hq
  obtain ⟨e, eR, y2, e1, e2, hp, -⟩ := hq
  rw [eR]
  exact ⟨e, wS_of hv.2 (fun k _ _ a b _ => hp.1 k a b) (hp.2 18 (by decide)) (hp.2 51 (by decide))⟩
def kMp (y : Int32) (I : qMI) (L : qML) (R : qMR) : Prop := wI I L R ∧ y = I 0 13
theorem jC_place (hv : wI I L R) : qCall l G 26 n_X8_place [.ref 0] 336 I L R (fun r t I' L' R' => t = 336 ∧ ∃ y, r = some (.int y) ∧ kMp y I' L' R') := wkC_of (d := 26) 0 (by decide) (Nat.le_of_ble_eq_true rfl) (w_X8_place_0 (d := 25) ⟨rfl, _, rfl, hv, rfl⟩)
theorem jM_place {y : Int32} (hv : kMp y I L R) : qCall l G 26 n_X9_place [.ref 292] 336 I L R (fun r t I' L' R' => t = 336 ∧ ∃ y2, r = some (.int y2) ∧ y2 = y ∧ wI I' L' R') := wkC_of (d := 26) 0 (by decide) (Nat.le_of_ble_eq_true rfl) (w_X9_place_0 (d := 25) ⟨rfl, _, rfl, by rw [hv.2]; exact hv.1.1.2.2.2.2.1.symm, hv.1⟩)
theorem jC_tell (hv : wI I L R) (x1 x2 x3 : Int32) : qCall l G 26 n_X8_tell [.ref 0, .int x1, .int x2, .int x3] 336 I L R (fun r t I' L' R' => t = 336 ∧ ∃ y, r = some (.int y) ∧ vMt x1 x2 x3 y I' L' R' ∧ wS I' R') := by
  refine jA (iC_tell hv.1 x1 x2 x3) ?_ (fun _ _ _ _ p => p.1)
  obtain ⟨A, hA, ⟨r1, r2, r3, r4, r5⟩, hm, hg, hk⟩ := vTl hv.1.1
  obtain ⟨⟨b1, b2⟩, b3, b4⟩ := zTd_b hA hm
  refine qCall_mono (cTellT (d := 24) r1 r2 r3 r4 r5 b1) ?_
  intro r t I' L' R' hq
  obtain ⟨e, y, e1, eR, e2, hp, -⟩ := hq
  rw [eR]
  exact ⟨e, wS_of hv.2 (fun k a b _ _ _ => hp.1 k (by omega) (by omega) (by omega) (by omega)) (by rw [hp.1 292 (by decide) (by decide) (by decide) (by decide)]) (by rw [hp.1 292 (by decide) (by decide) (by decide) (by decide)])⟩
theorem jM_tell {y : Int32} (x1 x2 x3 : Int32) (hv : vMt x1 x2 x3 y I L R ∧ wS I R) : qCall l G 26 n_X9_tell [.ref 292, .int x1, .int x2, .int x3] 336 I L R (fun r t I' L' R' => t = 336 ∧ ∃ y2, r = some (.int y2) ∧ y2 = y ∧ wI I' L' R') := by
  refine jB (iM_tell x1 x2 x3 hv.1) ?_
  obtain ⟨A2, hA2, hm2, -, -⟩ := vM hv.1.1
  obtain ⟨A, hA, -, hm, hg, hk⟩ := vTl hv.1.1
  obtain ⟨⟨b1, b2⟩, b3, b4⟩ := zTd_b hA hm
  refine qCall_mono (eTellT (d := 23) (vRR hA2 hm2) b3 b4) ?_
  intro r t I' L' R' hq
  obtain ⟨e, eR, y2, e1, e2, hp, -⟩ := hq
  rw [eR]
  exact ⟨e, wS_of hv.2 (fun k _ _ a _ b => hp.1 k a (by omega) (by omega) (by omega)) (hp.2 18 (by decide)) (hp.2 51 (by decide))⟩
theorem jC_forget (hv : wI I L R) : qCall l G 26 n_X8_forget [.ref 0] 336 I L R (fun r t I' L' R' => t = 336 ∧ ∃ y, r = some (.int y) ∧ vMg y I' L' R' ∧ wS I' R') := by
  refine jA (iC_forget hv.1) ?_ (fun _ _ _ _ p => p.1)
  obtain ⟨A, hA, ⟨r1, r2, r3, r4, r5⟩, hm, hg, hk⟩ := vTl hv.1.1
  refine qCall_mono (cForT (d := 25) r1) ?_
  intro r t I' L' R' hq
  obtain ⟨e, y, e1, eR, e2, hp, -⟩ := hq
  rw [eR]
  exact ⟨e, wS_of hv.2 (fun k a b _ _ _ => hp.1 k (by omega) (by omega) (by omega) (by omega)) (by rw [hp.1 292 (by decide) (by decide) (by decide) (by decide)]) (by rw [hp.1 292 (by decide) (by decide) (by decide) (by decide)])⟩
theorem jM_forget {y : Int32} (hv : vMg y I L R ∧ wS I R) : qCall l G 26 n_X9_forget [.ref 292] 336 I L R (fun r t I' L' R' => t = 336 ∧ ∃ y2, r = some (.int y2) ∧ y2 = y ∧ wI I' L' R') := by
  refine jB (iM_forget hv.1) ?_
  refine qCall_mono (eForT (d := 25)) ?_
  intro r t I' L' R' hq
  obtain ⟨e, eR, y2, e1, e2, hp, -⟩ := hq
  rw [eR]
  exact ⟨e, wS_of hv.2 (fun k _ _ a _ b => hp.1 k a (by omega) (by omega) (by omega)) (hp.2 18 (by decide)) (hp.2 51 (by decide))⟩
theorem jC_thing (hv : wI I L R) (x1 x2 : Int32) : qCall l G 26 n_X8_thing [.ref 0, .int x1, .int x2] 336 I L R wIQ := jC_q hv (hC3_thing hv.1.1 x1 x2)
theorem jM_thing (hv : wI I L R) (x1 x2 : Int32) : qCall l G 26 n_X9_thing [.ref 292, .int x1, .int x2] 336 I L R wIQ := jM_q hv (hM3_thing hv.1.1 x1 x2)
theorem jC_seat (hv : wI I L R) (x1 x2 : Int32) : qCall l G 26 n_X8_seat [.ref 0, .int x1, .int x2] 336 I L R wIQ := jC_q hv (hC3_seat hv.1.1 x1 x2)
theorem jM_seat (hv : wI I L R) (x1 x2 : Int32) : qCall l G 26 n_X9_seat [.ref 292, .int x1, .int x2] 336 I L R wIQ := jM_q hv (hM3_seat hv.1.1 x1 x2)
theorem jC_loan (hv : wI I L R) (x1 x2 x3 : Int32) : qCall l G 26 n_X8_loan [.ref 0, .int x1, .int x2, .int x3] 336 I L R wIQ := jC_q hv (hC3_loan hv.1.1 x1 x2 x3)
theorem jM_loan (hv : wI I L R) (x1 x2 x3 : Int32) : qCall l G 26 n_X9_loan [.ref 292, .int x1, .int x2, .int x3] 336 I L R wIQ := jM_q hv (hM3_loan hv.1.1 x1 x2 x3)
theorem jC_tells (hv : wI I L R) (x1 x2 x3 x4 : Int32) : qCall l G 26 n_X8_tells [.ref 0, .int x1, .int x2, .int x3, .int x4] 336 I L R wIQ := jC_q hv (hC3_tells hv.1.1 x1 x2 x3 x4)
theorem jM_tells (hv : wI I L R) (x1 x2 x3 x4 : Int32) : qCall l G 26 n_X9_tells [.ref 292, .int x1, .int x2, .int x3, .int x4] 336 I L R wIQ := jM_q hv (hM3_tells hv.1.1 x1 x2 x3 x4)
theorem jC_lend (hv : wI I L R) (x1 x2 x3 : Int32) : qCall l G 26 n_X8_lend [.ref 0, .int x1, .int x2, .int x3] 336 I L R (fun r t I' L' R' => t = 336 ∧ ∃ y, r = some (.int y) ∧ kM (fun A f => pLend A f x1 x2 x3) y I' L' R') := jC_gen hv (hC3_lend hv.1.1 x1 x2 x3) (fun _ _ _ _ _ _ s => sLend (d := 20) s)
theorem jM_lend {y : Int32} (x1 x2 x3 : Int32) (hv : kM (fun A f => pLend A f x1 x2 x3) y I L R) : qCall l G 26 n_X9_lend [.ref 292, .int x1, .int x2, .int x3] 336 I L R (fun r t I' L' R' => t = 336 ∧ ∃ y2, r = some (.int y2) ∧ y2 = y ∧ wI I' L' R') := jM_gen hv (hM3_lend hv.1.1 x1 x2 x3) (fun _ _ _ _ _ _ s a b => uLend (d := 16) (vWR hv.1.1) s a b) (fun _ _ a b => pLend_ok a b)
theorem jC_call (hv : wI I L R) (x1 x2 : Int32) : qCall l G 26 n_X8_call [.ref 0, .int x1, .int x2] 336 I L R (fun r t I' L' R' => t = 336 ∧ ∃ y, r = some (.int y) ∧ kM (fun A f => pCall A f x1 x2) y I' L' R') := jC_gen hv (hC3_call hv.1.1 x1 x2) (fun _ _ _ _ _ _ s => sCall (d := 20) s)
theorem jM_call {y : Int32} (x1 x2 : Int32) (hv : kM (fun A f => pCall A f x1 x2) y I L R) : qCall l G 26 n_X9_call [.ref 292, .int x1, .int x2] 336 I L R (fun r t I' L' R' => t = 336 ∧ ∃ y2, r = some (.int y2) ∧ y2 = y ∧ wI I' L' R') := jM_gen hv (hM3_call hv.1.1 x1 x2) (fun _ _ _ _ _ _ s a b => uCall (d := 16) (vWR hv.1.1) s a b) (fun _ _ a b => pCall_ok a b)
theorem jC_move (hv : wI I L R) (x1 x2 : Int32) : qCall l G 26 n_X8_move [.ref 0, .int x1, .int x2] 336 I L R (fun r t I' L' R' => t = 336 ∧ ∃ y, r = some (.int y) ∧ kM (fun A f => pMove A f x1 x2) y I' L' R') := jC_gen hv (hC3_move hv.1.1 x1 x2) (fun _ _ _ _ _ _ s => sMove (d := 20) s)
theorem jM_move {y : Int32} (x1 x2 : Int32) (hv : kM (fun A f => pMove A f x1 x2) y I L R) : qCall l G 26 n_X9_move [.ref 292, .int x1, .int x2] 336 I L R (fun r t I' L' R' => t = 336 ∧ ∃ y2, r = some (.int y2) ∧ y2 = y ∧ wI I' L' R') := jM_gen hv (hM3_move hv.1.1 x1 x2) (fun _ _ _ _ _ _ s a _ => uMove (d := 16) (vWR hv.1.1) s a) (fun _ _ a b => pMove_ok a b)
theorem jC_hours (hv : wI I L R) (x1 : Int32) : qCall l G 26 n_X8_hours [.ref 0, .int x1] 336 I L R (fun r t I' L' R' => t = 336 ∧ ∃ y, r = some (.int y) ∧ kM (fun A f => pHours A f x1) y I' L' R') := jC_gen hv (hC3_hours hv.1.1 x1) (fun _ _ _ _ _ _ s => sHours (d := 20) s)
theorem jM_hours {y : Int32} (x1 : Int32) (hv : kM (fun A f => pHours A f x1) y I L R) : qCall l G 26 n_X9_hours [.ref 292, .int x1] 336 I L R (fun r t I' L' R' => t = 336 ∧ ∃ y2, r = some (.int y2) ∧ y2 = y ∧ wI I' L' R') := jM_gen hv (hM3_hours hv.1.1 x1) (fun _ _ _ _ _ _ s a b => uHours (d := 16) (vWR hv.1.1) s a b) (fun _ _ a b => pHours_ok a b)
theorem jC_undo (hv : wI I L R) : qCall l G 26 n_X8_undo [.ref 0] 336 I L R (fun r t I' L' R' => t = 336 ∧ ∃ y, r = some (.int y) ∧ kMu y I' L' R') := jC_undo' hv (hC3_undo hv.1.1)
theorem jM_undo {y : Int32} (hv : kMu y I L R) : qCall l G 26 n_X9_undo [.ref 292] 336 I L R (fun r t I' L' R' => t = 336 ∧ ∃ y2, r = some (.int y2) ∧ y2 = y ∧ wI I' L' R') := jM_undo' hv (hM3_undo hv.1.1)
theorem jC_sight (hv : wI I L R) (x1 x2 x3 : Int32) : qCall l G 26 n_X8_sight [.ref 0, .int x1, .int x2, .int x3] 336 I L R wIQ := jC_q hv (hC3_sight hv.1.1 x1 x2 x3)
theorem jM_sight (hv : wI I L R) (x1 x2 x3 : Int32) : qCall l G 26 n_X9_sight [.ref 292, .int x1, .int x2, .int x3] 336 I L R wIQ := jM_q hv (hM3_sight hv.1.1 x1 x2 x3)
theorem jC_clash (hv : wI I L R) (x1 : Int32) : qCall l G 26 n_X8_clash [.ref 0, .int x1] 336 I L R wIQ := jC_q hv (hC3_clash hv.1.1 x1)
theorem jM_clash (hv : wI I L R) (x1 : Int32) : qCall l G 26 n_X9_clash [.ref 292, .int x1] 336 I L R wIQ := jM_q hv (hM3_clash hv.1.1 x1)
theorem jC_longFrom (hv : wI I L R) (x1 x2 x3 : Int32) : qCall l G 26 n_X8_longFrom [.ref 0, .int x1, .int x2, .int x3] 336 I L R wIQ := jC_q hv (hC3_longFrom hv.1.1 x1 x2 x3)
theorem jM_longFrom (hv : wI I L R) (x1 x2 x3 : Int32) : qCall l G 26 n_X9_longFrom [.ref 292, .int x1, .int x2, .int x3] 336 I L R wIQ := jM_q hv (hM3_longFrom hv.1.1 x1 x2 x3)
theorem jC_best (hv : wI I L R) (x1 x2 x3 : Int32) : qCall l G 26 n_X8_best [.ref 0, .int x1, .int x2, .int x3] 336 I L R wIQ := jC_q hv (hC3_best hv.1.1 x1 x2 x3)
theorem jM_best (hv : wI I L R) (x1 x2 x3 : Int32) : qCall l G 26 n_X9_best [.ref 292, .int x1, .int x2, .int x3] 336 I L R wIQ := jM_q hv (hM3_best hv.1.1 x1 x2 x3)
theorem jC_dawns (hv : wI I L R) (x1 x2 : Int32) : qCall l G 26 n_X8_dawns [.ref 0, .int x1, .int x2] 336 I L R wIQ := jC_q hv (hC3_dawns hv.1.1 x1 x2)
theorem jM_dawns (hv : wI I L R) (x1 x2 : Int32) : qCall l G 26 n_X9_dawns [.ref 292, .int x1, .int x2] 336 I L R wIQ := jM_q hv (hM3_dawns hv.1.1 x1 x2)
theorem jC_near (hv : wI I L R) (x1 x2 : Int32) : qCall l G 26 n_X8_near [.ref 0, .int x1, .int x2] 336 I L R wIQ := jC_q hv (hC3_near hv.1.1 x1 x2)
theorem jM_near (hv : wI I L R) (x1 x2 : Int32) : qCall l G 26 n_X9_near [.ref 292, .int x1, .int x2] 336 I L R wIQ := jM_q hv (hM3_near hv.1.1 x1 x2)
theorem jC_crowd (hv : wI I L R) (x1 : Int32) : qCall l G 26 n_X8_crowd [.ref 0, .int x1] 336 I L R wIQ := jC_q hv (hC3_crowd hv.1.1 x1)
theorem jM_crowd (hv : wI I L R) (x1 : Int32) : qCall l G 26 n_X9_crowd [.ref 292, .int x1] 336 I L R wIQ := jM_q hv (hM3_crowd hv.1.1 x1)
theorem jC_rich (hv : wI I L R) (x1 x2 : Int32) : qCall l G 26 n_X8_rich [.ref 0, .int x1, .int x2] 336 I L R wIQ := jC_q hv (hC3_rich hv.1.1 x1 x2)
theorem jM_rich (hv : wI I L R) (x1 x2 : Int32) : qCall l G 26 n_X9_rich [.ref 292, .int x1, .int x2] 336 I L R wIQ := jM_q hv (hM3_rich hv.1.1 x1 x2)
theorem jC_umbrellas (hv : wI I L R) (x1 x2 : Int32) : qCall l G 26 n_X8_umbrellas [.ref 0, .int x1, .int x2] 336 I L R wIQ := jC_q hv (hC3_umbrellas hv.1.1 x1 x2)
theorem jM_umbrellas (hv : wI I L R) (x1 x2 : Int32) : qCall l G 26 n_X9_umbrellas [.ref 292, .int x1, .int x2] 336 I L R wIQ := jM_q hv (hM3_umbrellas hv.1.1 x1 x2)
theorem jC_worth (hv : wI I L R) (x1 x2 x3 x4 : Int32) : qCall l G 26 n_X8_worth [.ref 0, .int x1, .int x2, .int x3, .int x4] 336 I L R wIQ := jC_q hv (hC3_worth hv.1.1 x1 x2 x3 x4)
theorem jM_worth (hv : wI I L R) (x1 x2 x3 x4 : Int32) : qCall l G 26 n_X9_worth [.ref 292, .int x1, .int x2, .int x3, .int x4] 336 I L R wIQ := jM_q hv (hM3_worth hv.1.1 x1 x2 x3 x4)
theorem jC_book (hv : wI I L R) (x1 x2 : Int32) : qCall l G 26 n_X8_book [.ref 0, .int x1, .int x2] 336 I L R wIQ := jC_q hv (hC3_book hv.1.1 x1 x2)
theorem jM_book (hv : wI I L R) (x1 x2 : Int32) : qCall l G 26 n_X9_book [.ref 292, .int x1, .int x2] 336 I L R wIQ := jM_q hv (hM3_book hv.1.1 x1 x2)
theorem jC_hidden (hv : wI I L R) (x1 x2 x3 : Int32) : qCall l G 26 n_X8_hidden [.ref 0, .int x1, .int x2, .int x3] 336 I L R wIQ := jC_q hv (hC3_hidden hv.1.1 x1 x2 x3)
theorem jM_hidden (hv : wI I L R) (x1 x2 x3 : Int32) : qCall l G 26 n_X9_hidden [.ref 292, .int x1, .int x2, .int x3] 336 I L R wIQ := jM_q hv (hM3_hidden hv.1.1 x1 x2 x3)
theorem jC_cool (hv : wI I L R) : qCall l G 26 n_X8_cool [.ref 0] 336 I L R wIQ := jC_q hv (hC3_cool hv.1.1)
theorem jM_cool (hv : wI I L R) : qCall l G 26 n_X9_cool [.ref 292] 336 I L R wIQ := jM_q hv (hM3_cool hv.1.1)
theorem jC_heatIn (hv : wI I L R) (x1 : Int32) : qCall l G 26 n_X8_heatIn [.ref 0, .int x1] 336 I L R wIQ := jC_q hv (hC3_heatIn hv.1.1 x1)
theorem jM_heatIn (hv : wI I L R) (x1 : Int32) : qCall l G 26 n_X9_heatIn [.ref 292, .int x1] 336 I L R wIQ := jM_q hv (hM3_heatIn hv.1.1 x1)
theorem jC_lentIn (hv : wI I L R) (x1 x2 x3 : Int32) : qCall l G 26 n_X8_lentIn [.ref 0, .int x1, .int x2, .int x3] 336 I L R wIQ := jC_q hv (hC3_lentIn hv.1.1 x1 x2 x3)
theorem jM_lentIn (hv : wI I L R) (x1 x2 x3 : Int32) : qCall l G 26 n_X9_lentIn [.ref 292, .int x1, .int x2, .int x3] 336 I L R wIQ := jM_q hv (hM3_lentIn hv.1.1 x1 x2 x3)
theorem jC_year (hv : wI I L R) (x1 x2 x3 x4 : Int32) : qCall l G 26 n_X8_year [.ref 0, .int x1, .int x2, .int x3, .int x4] 336 I L R wIQ := jC_q hv (hC3_year hv.1.1 x1 x2 x3 x4)
theorem jM_year (hv : wI I L R) (x1 x2 x3 x4 : Int32) : qCall l G 26 n_X9_year [.ref 292, .int x1, .int x2, .int x3, .int x4] 336 I L R wIQ := jM_q hv (hM3_year hv.1.1 x1 x2 x3 x4)
theorem jC_stands (hv : wI I L R) (x1 : Int32) : qCall l G 26 n_X8_stands [.ref 0, .int x1] 336 I L R wIQ := jC_q hv (hC3_stands hv.1.1 x1)
theorem jM_stands (hv : wI I L R) (x1 : Int32) : qCall l G 26 n_X9_stands [.ref 292, .int x1] 336 I L R wIQ := jM_q hv (hM3_stands hv.1.1 x1)
theorem jC_sure (hv : wI I L R) (x1 x2 : Int32) : qCall l G 26 n_X8_sure [.ref 0, .int x1, .int x2] 336 I L R wIQ := jC_q hv (hC3_sure hv.1.1 x1 x2)
theorem jM_sure (hv : wI I L R) (x1 x2 : Int32) : qCall l G 26 n_X9_sure [.ref 292, .int x1, .int x2] 336 I L R wIQ := jM_q hv (hM3_sure hv.1.1 x1 x2)
theorem jC_look (hv : wI I L R) (x1 x2 : Int32) : qCall l G 26 n_X8_look [.ref 0, .int x1, .int x2] 336 I L R wIQ := jC_q hv (hC3_look hv.1.1 x1 x2)
theorem jM_look (hv : wI I L R) (x1 x2 : Int32) : qCall l G 26 n_X9_look [.ref 292, .int x1, .int x2] 336 I L R wIQ := jM_q hv (hM3_look hv.1.1 x1 x2)
theorem jC_hold (hv : wI I L R) (x1 : Int32) : qCall l G 26 n_X8_hold [.ref 0, .int x1] 336 I L R (fun r t I' L' R' => t = 336 ∧ ∃ y, r = some (.int y) ∧ kMh x1 y I' L' R') := jC_hold' hv x1 (hC3_hold hv.1.1 x1)
theorem jM_hold {y : Int32} (x1 : Int32) (hv : kMh x1 y I L R) : qCall l G 26 n_X9_hold [.ref 292, .int x1] 336 I L R (fun r t I' L' R' => t = 336 ∧ ∃ y2, r = some (.int y2) ∧ y2 = y ∧ wI I' L' R') := jM_hold' x1 hv (hM3_hold hv.1 x1)
theorem jC_restore (hv : wI I L R) (x1 : Int32) : qCall l G 26 n_X8_restore [.ref 0, .int x1] 336 I L R (fun r t I' L' R' => t = 336 ∧ ∃ y, r = some (.int y) ∧ kMr x1 y I' L' R') := jC_restore' hv x1 (hC3_restore hv.1.1 x1)
theorem jM_restore {y : Int32} (x1 : Int32) (hv : kMr x1 y I L R) : qCall l G 26 n_X9_restore [.ref 292, .int x1] 336 I L R (fun r t I' L' R' => t = 336 ∧ ∃ y2, r = some (.int y2) ∧ y2 = y ∧ wI I' L' R') := jM_restore' x1 hv (hM3_restore hv.1.1 x1)
theorem jC_count (hv : wI I L R) (x1 : Int32) : qCall l G 26 n_X8_count [.ref 0, .int x1] 336 I L R wIQ := jC_q hv (hC3_count hv.1.1 x1)
theorem jM_count (hv : wI I L R) (x1 : Int32) : qCall l G 26 n_X9_count [.ref 292, .int x1] 336 I L R wIQ := jM_q hv (hM3_count hv.1.1 x1)
end
