/-! ===== both sides between two calls: the whole state alike ===== -/
def wI (I : qMI) (L : qML) (R : qMR) : Prop := vI I L R ∧ wS I R
abbrev wIQ : qQ := fun r t I' L' R' => t = 336 ∧ ∃ y, r = some (.int y) ∧ wI I' L' R'
theorem vWR {I : qMI} {L : qML} {R : qMR} (hv : vInv I L R) : wkR R := by
  obtain ⟨A, hA, hm, -, -⟩ := vM hv
  exact vRR hA hm
theorem vRb {gh : zGh} {t : Nat} {A : zAm} {I : qMI} {L : qML} {R : qMR} (hm : zM gh t A I L R) (h : ∀ b ∈ bL, ∀ j, j < 7 → 1 ≤ j → Nat.ble (ztag (zcell A b)) 14 = true ∧ zkd (ztag (zcell A b)) j = 2 ∧ zdr (zraw (zcell A b) j) = some (b + j)) : ∀ b ∈ bL, cSt R b := fun b hb j h1 h2 => by
  obtain ⟨a1, a2, a3⟩ := h b hb j (by omega) h1
  exact vRef hm a1 a2 a3
theorem vRr {gh : zGh} {t k n : Nat} {g : Nat → Nat} {A : zAm} {I : qMI} {L : qML} {R : qMR} (hm : zM gh t A I L R) (h : ∀ i, i < n → Nat.ble (ztag (zcell A k)) 14 = true ∧ zkd (ztag (zcell A k)) i = 2 ∧ zdr (zraw (zcell A k) i) = some (g i)) : ∀ i, i < n → R k i = some (g i) := fun i hi => by
  obtain ⟨a1, a2, a3⟩ := h i hi
  exact vRef hm a1 a2 a3
theorem vRp0 {gh : zGh} {t : Nat} {I : qMI} {L : qML} {R : qMR} (hm : zM gh t zAi0 I L R) : cRp 259 R ∧ cDr 9 R :=
  ⟨⟨⟨⟨trivial, trivial, trivial, vRef (k := 265) (j := 0) (v := 266) hm (by decide +kernel) (by decide +kernel) (by decide +kernel), vRef (k := 265) (j := 1) (v := 267) hm (by decide +kernel) (by decide +kernel) (by decide +kernel), vRef (k := 265) (j := 3) (v := 268) hm (by decide +kernel) (by decide +kernel) (by decide +kernel)⟩, vRef (k := 265) (j := 4) (v := 269) hm (by decide +kernel) (by decide +kernel) (by decide +kernel), vRef (k := 265) (j := 5) (v := 270) hm (by decide +kernel) (by decide +kernel) (by decide +kernel)⟩, ⟨vRef (k := 259) (j := 12) (v := 265) hm (by decide +kernel) (by decide +kernel) (by decide +kernel), vRef (k := 259) (j := 3) (v := 261) hm (by decide +kernel) (by decide +kernel) (by decide +kernel), vRef (k := 259) (j := 4) (v := 262) hm (by decide +kernel) (by decide +kernel) (by decide +kernel), vRef (k := 259) (j := 6) (v := 263) hm (by decide +kernel) (by decide +kernel) (by decide +kernel), vRef (k := 259) (j := 7) (v := 264) hm (by decide +kernel) (by decide +kernel) (by decide +kernel)⟩, ⟨⟨vRef (k := 0) (j := 2) (v := 21) hm (by decide +kernel) (by decide +kernel) (by decide +kernel), vRef (k := 0) (j := 3) (v := 28) hm (by decide +kernel) (by decide +kernel) (by decide +kernel), vRef (k := 0) (j := 4) (v := 35) hm (by decide +kernel) (by decide +kernel) (by decide +kernel), vRef (k := 0) (j := 5) (v := 247) hm (by decide +kernel) (by decide +kernel) (by decide +kernel), vRef (k := 0) (j := 6) (v := 248) hm (by decide +kernel) (by decide +kernel) (by decide +kernel), vRef (k := 0) (j := 7) (v := 249) hm (by decide +kernel) (by decide +kernel) (by decide +kernel)⟩, vRef (k := 35) (j := 0) (v := 36) hm (by decide +kernel) (by decide +kernel) (by decide +kernel), vRr (k := 36) (n := 30) (g := fun i => 37 + 7 * i) hm (by decide +kernel), vRr (k := 247) (n := 3) (g := fun i => 271 + 7 * i) hm (by decide +kernel), vRb hm (by decide +kernel)⟩, vRef (k := 0) (j := 12) (v := 259) hm (by decide +kernel) (by decide +kernel) (by decide +kernel)⟩, ⟨(vCR0 hm).1, ⟨vRef (k := 15) (j := 4) (v := 19) hm (by decide +kernel) (by decide +kernel) (by decide +kernel), vRef (k := 15) (j := 5) (v := 20) hm (by decide +kernel) (by decide +kernel) (by decide +kernel)⟩, (vCR0 hm).2.1, (vCR0 hm).2.2.1, (vCR0 hm).2.2.2⟩⟩
theorem vRp1 {gh : zGh} {t : Nat} {I : qMI} {L : qML} {R : qMR} (hm : zM gh t zAi1 I L R) : cRp 9 R ∧ cDr 259 R :=
  ⟨⟨⟨⟨trivial, trivial, trivial, vRef (k := 15) (j := 0) (v := 16) hm (by decide +kernel) (by decide +kernel) (by decide +kernel), vRef (k := 15) (j := 1) (v := 17) hm (by decide +kernel) (by decide +kernel) (by decide +kernel), vRef (k := 15) (j := 3) (v := 18) hm (by decide +kernel) (by decide +kernel) (by decide +kernel)⟩, vRef (k := 15) (j := 4) (v := 19) hm (by decide +kernel) (by decide +kernel) (by decide +kernel), vRef (k := 15) (j := 5) (v := 20) hm (by decide +kernel) (by decide +kernel) (by decide +kernel)⟩, ⟨vRef (k := 9) (j := 12) (v := 15) hm (by decide +kernel) (by decide +kernel) (by decide +kernel), vRef (k := 9) (j := 3) (v := 11) hm (by decide +kernel) (by decide +kernel) (by decide +kernel), vRef (k := 9) (j := 4) (v := 12) hm (by decide +kernel) (by decide +kernel) (by decide +kernel), vRef (k := 9) (j := 6) (v := 13) hm (by decide +kernel) (by decide +kernel) (by decide +kernel), vRef (k := 9) (j := 7) (v := 14) hm (by decide +kernel) (by decide +kernel) (by decide +kernel)⟩, ⟨⟨vRef (k := 0) (j := 2) (v := 21) hm (by decide +kernel) (by decide +kernel) (by decide +kernel), vRef (k := 0) (j := 3) (v := 28) hm (by decide +kernel) (by decide +kernel) (by decide +kernel), vRef (k := 0) (j := 4) (v := 35) hm (by decide +kernel) (by decide +kernel) (by decide +kernel), vRef (k := 0) (j := 5) (v := 247) hm (by decide +kernel) (by decide +kernel) (by decide +kernel), vRef (k := 0) (j := 6) (v := 248) hm (by decide +kernel) (by decide +kernel) (by decide +kernel), vRef (k := 0) (j := 7) (v := 249) hm (by decide +kernel) (by decide +kernel) (by decide +kernel)⟩, vRef (k := 35) (j := 0) (v := 36) hm (by decide +kernel) (by decide +kernel) (by decide +kernel), vRr (k := 36) (n := 30) (g := fun i => 37 + 7 * i) hm (by decide +kernel), vRr (k := 247) (n := 3) (g := fun i => 271 + 7 * i) hm (by decide +kernel), vRb hm (by decide +kernel)⟩, vRef (k := 0) (j := 12) (v := 9) hm (by decide +kernel) (by decide +kernel) (by decide +kernel)⟩, ⟨(vCR1 hm).1, ⟨vRef (k := 265) (j := 4) (v := 269) hm (by decide +kernel) (by decide +kernel) (by decide +kernel), vRef (k := 265) (j := 5) (v := 270) hm (by decide +kernel) (by decide +kernel) (by decide +kernel)⟩, (vCR1 hm).2.1, (vCR1 hm).2.2.1, (vCR1 hm).2.2.2⟩⟩
theorem vRp {I : qMI} {L : qML} {R : qMR} (hv : vInv I L R) {o : Nat} (h : R 0 12 = some o) : (o = 9 ∨ o = 259) ∧ cRp o R ∧ ∃ o1, (o1 = 9 ∨ o1 = 259) ∧ o1 ≠ o ∧ cDr o1 R := by
  obtain ⟨hm | hm, -⟩ := hv
  · obtain ⟨p, q⟩ := vRp0 hm
    have e := p.2.2.2
    rw [h] at e
    injection e with e
    subst e
    exact ⟨Or.inr rfl, p, 9, Or.inl rfl, by decide, q⟩
  · obtain ⟨p, q⟩ := vRp1 hm
    have e := p.2.2.2
    rw [h] at e
    injection e with e
    subst e
    exact ⟨Or.inl rfl, p, 259, Or.inr rfl, by decide, q⟩
theorem vR9 {I : qMI} {L : qML} {R : qMR} (hv : vInv I L R) : R 0 8 = some 255 ∧ R 0 9 = some 256 ∧ R 0 10 = some 257 ∧ R 0 11 = some 258 := by
  obtain ⟨hm | hm, -⟩ := hv
  · exact ⟨vRef hm (by decide +kernel) (by decide +kernel) (by decide +kernel), vRef hm (by decide +kernel) (by decide +kernel) (by decide +kernel), vRef hm (by decide +kernel) (by decide +kernel) (by decide +kernel), vRef hm (by decide +kernel) (by decide +kernel) (by decide +kernel)⟩
  · exact ⟨vRef hm (by decide +kernel) (by decide +kernel) (by decide +kernel), vRef hm (by decide +kernel) (by decide +kernel) (by decide +kernel), vRef hm (by decide +kernel) (by decide +kernel) (by decide +kernel), vRef hm (by decide +kernel) (by decide +kernel) (by decide +kernel)⟩
theorem vTq {I : qMI} {L : qML} {R : qMR} (hv : vInv I L R) : R 0 7 = some 249 ∧ tRf R ∧ (0 ≤ (I 249 0).toInt ∧ (I 249 0).toInt ≤ 20) ∧ (I 292 58).toInt ≤ 20 := by
  obtain ⟨A, hA, ⟨r1, r2, r3, r4, r5⟩, hm, -, -⟩ := vTl hv
  obtain ⟨b1, b2, b3⟩ := zTd_b hA hm
  have r67 : R 249 4 = some 253 ∧ R 249 5 = some 254 := by
    obtain ⟨hm | hm, -⟩ := hv
    · exact ⟨vRef hm (by decide +kernel) (by decide +kernel) (by decide +kernel), vRef hm (by decide +kernel) (by decide +kernel) (by decide +kernel)⟩
    · exact ⟨vRef hm (by decide +kernel) (by decide +kernel) (by decide +kernel), vRef hm (by decide +kernel) (by decide +kernel) (by decide +kernel)⟩
  exact ⟨r1, ⟨r3, r4, r5, r67.1, r67.2⟩, b1, b3⟩
/-! what a call changes stays within the bounds -/
def nz5 (I : qMI) : qMI := fun a j => if a = 35 ∧ 3 ≤ j then 0 else I a j
theorem nz5_ro {I : qMI} {k : Nat} (h : k ≠ 35) : nz5 I k = I k := funext fun j => by unfold nz5; rw [if_neg (fun q => h q.1)]
theorem nz5_f {I : qMI} {j : Nat} (h : ¬ 3 ≤ j) : nz5 I 35 j = I 35 j := by unfold nz5; rw [if_neg (fun q => h q.2)]
theorem nz5_z {I : qMI} {j : Nat} (h : 3 ≤ j) : nz5 I 35 j = 0 := by unfold nz5; rw [if_pos ⟨rfl, h⟩]
theorem qCell_nz5 {G : qG} {I : qMI} {L : qML} {R : qMR} : qCell G (nz5 I) L R 35 = qCell G I L R 35 := by
  have s1 : (qSh 35).1 = 3 := by decide +kernel
  unfold qCell
  rw [if_pos (by omega), if_pos (by omega), s1]
  have e : qFs G.1 (nz5 I) R 3 35 = qFs G.1 I R 3 35 := by
    unfold qFs
    refine List.map_congr_left (fun j hj => ?_)
    have hj := List.mem_range.mp hj
    have h3 : qNF 3 = 3 := by decide
    rw [nz5_f (by omega)]
  rw [e]
theorem qRep_nz5 {G : qG} {t : Nat} {I : qMI} {L : qML} {R : qMR} {U : State} (h : qRep G t I L R U) : qRep G t (nz5 I) L R U := by
  refine ⟨h.1, fun k q hq => ?_, h.2.2⟩
  obtain ⟨hk, rfl⟩ := qWd_get hq
  have e := h.2.1 k _ (qWd_at hk)
  by_cases h8 : k = 35
  · subst h8
    rw [qCell_nz5]
    exact e
  · rw [qCell_cg (nz5_ro h8)]
    exact e
theorem qCall_nz5 {l : Launch} {G : qG} {d : Nat} {M : qMn} {as : List Value} {t : Nat} {I : qMI} {L : qML} {R : qMR} {Q : qQ} (h : qCall l G d M as t I L R Q) : qCall l G d M as t I L R (fun r t' I' L' R' => ∃ I2, Q r t' I2 L' R' ∧ I' = nz5 I2) := by
  intro p e ha hc hk s m args below hf happ hpre hK
  obtain ⟨k1, o, h1, h2, h3, ⟨⟨⟨r, t', I', L', R', e1, e2, e3⟩, hF⟩, hL⟩⟩ := h p e ha hc hk s m args below hf happ hpre hK
  exact ⟨k1, o, h1, h2, h3, ⟨⟨⟨r, t', nz5 I', L', R', e1, ⟨I', e2, rfl⟩, qRep_nz5 e3⟩, hF⟩, hL⟩⟩
theorem cS0_nz {o n : Nat} {A : aD} {f : Nat → Int32} {h sl : Nat → Nat → Int32} {I : qMI} {R : qMR} (s : cS0 o A f n h sl I R) : cS0 o A f n h sl (nz5 I) R := by
  obtain ⟨⟨s1, s2, s3⟩, s4, ⟨p1, p2, x, p3, p4, p5⟩, s6⟩ := s
  have ho := s1.1
  exact ⟨⟨cHas_fr (fun k a b => nz5_ro (by omega)) s1, s2, s3⟩, sEq_of s4 (fun k a b => nz5_ro (by omega)), ⟨by rw [nz5_f (by decide)]; exact p1, p2, x, by rw [nz5_f (by decide)]; exact p3, p4, fun i hi => sEq_of (p5 i hi) (fun k a b => nz5_ro (by omega))⟩, fun i hi => sEq_of (s6 i hi) (fun k a b => nz5_ro (by omega))⟩
theorem cS20_nz {o n : Nat} {A : aD} {f : Nat → Int32} {h sl : Nat → Nat → Int32} {I : qMI} {R : qMR} {g : Option (Nat → Int32)} (s : cS20 o A f n h sl I R g) : cS20 o A f n h sl (nz5 I) R g := by
  cases g with
  | none => exact cS0_nz (show cS0 o A f n h sl I R from s)
  | some x => exact cS0_nz (show cS0 o A x (hN n) (hH n h f) sl I R from s)
/-- of the cells that a call of the class may change: any numbers -/
def zAny (A : zAm) : Prop := (∀ k, k < 336 → (k < 19 ∨ (247 ≤ k ∧ k ≤ 249) ∨ (259 ≤ k ∧ k ≤ 268) ∨ 292 ≤ k) ∨ zlx (zcell A k) = true ∨ (ztag (zcell A k) = 4 ∧ Nat.xor (zraw (zcell A k) 0) 2147483648 = ztop) ∨ k = 35 ∨ ztag (zcell A k) = 14) ∧ (ztag (zcell A 35) = 3 ∧ Nat.xor (zraw (zcell A 35) 1) 2147483648 = ztop ∧ Nat.xor (zraw (zcell A 35) 2) 2147483648 = ztop ∧ zcell A 35 < 2 ^ 227)
theorem zAny0 : zAny zAi0 := ⟨by decide +kernel, by decide +kernel, by decide +kernel, by decide +kernel, by decide +kernel⟩
theorem zAny1 : zAny zAi1 := ⟨by decide +kernel, by decide +kernel, by decide +kernel, by decide +kernel, by decide +kernel⟩
theorem zkd4 {j : Nat} (h : zkd 4 j = 0) : j = 0 := by
  have all : ∀ j, j < 7 → zkd 4 j = 0 → j = 0 := by decide +kernel
  by_cases c : j < 7
  · exact all j c h
  · obtain ⟨m, rfl⟩ : ∃ m, j = m + 7 := ⟨j - 7, by omega⟩
    exact absurd h (by show ¬ (2 : Nat) = 0; decide)
theorem zkd3 {j : Nat} (h : zkd 3 j = 0) : 1 ≤ j := by
  cases j with
  | zero => exact absurd h (by decide +kernel)
  | succ j => omega
theorem zraw_h5 {m j : Nat} (h : m < 2 ^ 227) (hj : 3 ≤ j) : zraw m j = 0 := by
  rw [zraw_eq, Nat.shiftRight_eq_div_pow, Nat.div_eq_of_lt (Nat.lt_of_lt_of_le h (Nat.pow_le_pow_right (by decide) (by omega))), Nat.zero_mod]
theorem zin_z : zin (Nat.xor 0 2147483648) 0 := ⟨by decide +kernel, by decide +kernel⟩
theorem zM_c {A : zAm} {I I' : qMI} {L : qML} {R : qMR} (hA : zAny A) (h13 : ∀ k, k < 336 → ztag (zcell A k) ≠ 13) (hm : zM (I, L, R) 336 A I L R) (kp : ∀ k, cKr k → I' k = I k) (z : ∀ j, 3 ≤ j → I' 35 j = 0) : zM (I', L, R) 336 A I' L R := by
  refine zM_ch hm h13 (fun k hk => ?_)
  rcases hA.1 k hk with a | a | ⟨a, b⟩ | a | a
  · exact Or.inl (kp k a)
  · exact Or.inr (Or.inl a)
  · refine Or.inr (Or.inr ⟨fun _ j hj => ?_, fun q => by omega⟩)
    rw [a] at hj
    rw [zkd4 hj, b]
    exact zin_top _
  · subst a
    obtain ⟨t3, r1, r2, lt⟩ := hA.2
    refine Or.inr (Or.inr ⟨fun _ j hj => ?_, fun q => by omega⟩)
    rw [t3] at hj
    have j1 := zkd3 hj
    by_cases c : 3 ≤ j
    · rw [zraw_h5 lt c, z j c]
      exact zin_z
    · rcases (show j = 1 ∨ j = 2 by omega) with rfl | rfl
      · rw [r1]
        exact zin_top _
      · rw [r2]
        exact zin_top _
  · exact Or.inr (Or.inr ⟨fun _ j hj => by rw [a] at hj; exact absurd hj (by show ¬ (2 : Nat) = 0; decide), fun q => by omega⟩)
theorem zUN_k : ∀ x ∈ zUN, 301 ≤ x ∧ x ≤ 319 := by decide
theorem vI_c {I I' : qMI} {L : qML} {R : qMR} (hv : vI I L R) (kp : ∀ k, cKr k → I' k = I k) (z : ∀ j, 3 ≤ j → I' 35 j = 0) : vI I' L R := by
  obtain ⟨⟨hm, hg⟩, v1, v2, v3, v4, v5⟩ := hv
  refine ⟨⟨hm.imp (fun hm => zM_c zAny0 zRef0.c13 hm kp z) (fun hm => zM_c zAny1 zRef1.c13 hm kp z), zGood_ok _ I' L R hg (fun x hx => ⟨kp x (by have := zUN_k x hx; omega), rfl, rfl⟩) (fun j _ => by rw [kp 292 (by omega)])⟩, ?_, ?_, v3, ?_, ?_⟩
  · rw [kp 1 (by omega), kp 292 (by omega)]; exact v1
  · rw [kp 2 (by omega), kp 293 (by omega)]; exact v2
  · rw [kp 0 (by omega), kp 292 (by omega)]; exact v4
  · exact vTd_of v5 (kp 249 (by omega)) (by rw [kp 292 (by omega)]) (kp 248 (by omega)) (kp 334 (by omega))
/-- of those that a call of the reference may change -/
def zAnm (A : zAm) : Prop := (∀ k, k < 336 → (k < 292 ∨ (293 ≤ k ∧ k ≤ 320) ∨ (330 ≤ k ∧ k ≤ 332) ∨ k = 334) ∨ zlx (zcell A k) = true ∨ k = 292) ∧ ztag (zcell A 292) = 9 ∧ Nat.xor (zraw (zcell A 292) 47) 2147483648 = ztop ∧ Nat.xor (zraw (zcell A 292) 50) 2147483648 = ztop ∧ Nat.xor (zraw (zcell A 292) 51) 2147483648 = ztop ∧ Nat.xor (zraw (zcell A 292) 55) 2147483648 = ztop
theorem zAnm0 : zAnm zAi0 := ⟨by decide +kernel, by decide +kernel, by decide +kernel, by decide +kernel, by decide +kernel, by decide +kernel⟩
theorem zAnm1 : zAnm zAi1 := ⟨by decide +kernel, by decide +kernel, by decide +kernel, by decide +kernel, by decide +kernel, by decide +kernel⟩
theorem zM_m {A : zAm} {I I' : qMI} {L : qML} {R : qMR} (hA : zAnm A) (h13 : ∀ k, k < 336 → ztag (zcell A k) ≠ 13) (hm : zM (I, L, R) 336 A I L R) (kp : ∀ k, rKr k → I' k = I k) (km : rMf I I') : zM (I', L, R) 336 A I' L R := by
  refine zM_ch hm h13 (fun k hk => ?_)
  rcases hA.1 k hk with a | a | a
  · exact Or.inl (kp k a)
  · exact Or.inr (Or.inl a)
  · subst a
    obtain ⟨t9, r1, r2, r3, r4⟩ := hA.2
    refine Or.inr (Or.inr ⟨fun q j hj => ?_, fun q => by omega⟩)
    by_cases c1 : j = 47
    · rw [c1, r1]; exact zin_top _
    by_cases c2 : j = 50
    · rw [c2, r2]; exact zin_top _
    by_cases c3 : j = 51
    · rw [c3, r3]; exact zin_top _
    by_cases c4 : j = 55
    · rw [c4, r4]; exact zin_top _
    rw [km j c1 c2 c3 c4]
    exact ((hm.1.1 292 q).2.2.2 j).1 hj
theorem vI_m {I I' : qMI} {L : qML} {R : qMR} (hv : vI I L R) (kp : ∀ k, rKr k → I' k = I k) (km : rMf I I') : vI I' L R := by
  obtain ⟨⟨hm, hg⟩, v1, v2, v3, v4, v5⟩ := hv
  have hc : ∀ x ∈ zUN, I' x = I x := fun x hx => kp x (by have := zUN_k x hx; omega)
  have e18 := km 18 (by decide) (by decide) (by decide) (by decide)
  refine ⟨⟨hm.imp (fun hm => zM_m zAnm0 zRef0.c13 hm kp km) (fun hm => zM_m zAnm1 zRef1.c13 hm kp km), ?_⟩, ?_, ?_, v3, ?_, ?_⟩
  · rcases hg with ⟨h1, h3, h4⟩ | ⟨h1, h3, h4⟩
    · exact Or.inl ⟨e18.trans h1, zside_congr hc h3, zreg_congr hc h4⟩
    · exact Or.inr ⟨e18.trans h1, zside_congr hc h3, zreg_congr hc h4⟩
  · rw [kp 1 (by omega), km 2 (by decide) (by decide) (by decide) (by decide)]; exact v1
  · rw [kp 2 (by omega), kp 293 (by omega)]; exact v2
  · rw [kp 0 (by omega), km 17 (by decide) (by decide) (by decide) (by decide)]; exact v4
  · exact vTd_of v5 (kp 249 (by omega)) (km 58 (by decide) (by decide) (by decide) (by decide)) (kp 248 (by omega)) (kp 334 (by omega))
theorem sOk_gh {A : aD} {f : Nat → Int32} {n : Nat} {h sl : Nat → Nat → Int32} {I J : qMI} (s : sOk A f n h sl I) : sOk A f n h (gS sl J) I := ⟨s.1, s.2.1, s.2.2.1, fun i hi q => by rw [gS_l (by omega)]; exact s.2.2.2 i hi q⟩
theorem wS_gh {I : qMI} {R : qMR} (w : wS I R) : ∃ (o v n : Nat) (A : aD) (f : Nat → Int32) (h sl : Nat → Nat → Int32), cS o A f n h sl I R ∧ rS0 v A f n h sl I ∧ sOk A f n h sl I := by
  obtain ⟨o, v, n, A, f, h, sl, s1, s2, s3⟩ := w
  exact ⟨o, v, n, A, f, h, gS sl I, cS_gh s1, rS0_gh s2, sOk_gh s3⟩
section
variable {l : Launch} {G : qG} {I : qMI} {L : qML} {R : qMR}
/-- between the two sides of a call by hand -/
def kM (p : aD → (Nat → Int32) → Int32 × Option (Nat → Int32)) (y : Int32) (I : qMI) (L : qML) (R : qMR) : Prop := vI I L R ∧ wM p y I R
theorem jC_gen {N : qMn} {as : List Value} {p : aD → (Nat → Int32) → Int32 × Option (Nat → Int32)} (hv : wI I L R) (ex : ∀ (o : Nat) (A : aD) (f : Nat → Int32) (n : Nat) (h sl : Nat → Nat → Int32), cS o A f n h sl I R → wkCi l G 26 N as I L R (fun z I' L' R' => R' = R ∧ L' = L ∧ z = (p A f).1 ∧ cS2 o A f n h sl I' R' (p A f).2)) : qCall l G 26 N as 336 I L R (fun r t I' L' R' => t = 336 ∧ ∃ y, r = some (.int y) ∧ kM p y I' L' R') := by
  obtain ⟨hv1, w⟩ := hv
  obtain ⟨o, v, n, A, f, h, sl, s1, s2, s3⟩ := wS_gh w
  have ex' : qCall l G 26 N as 336 I L R (fun r t I' L' R' => t = 336 ∧ ∃ z, r = some (.int z) ∧ R' = R ∧ L' = L ∧ z = (p A f).1 ∧ cS2 o A f n h sl I' R' (p A f).2) := ex o A f n h sl s1
  refine qCall_mono (qCall_nz5 ex') ?_
  intro r t I' L' R' hq
  obtain ⟨I2, ⟨e, y, rfl, rfl, rfl, ey, c2⟩, rfl⟩ := hq
  obtain ⟨c3, k3⟩ := cS2_0 c2
  have kp : ∀ k, cKr k → nz5 I2 k = I k := fun k a => (nz5_ro (by omega)).trans (cK_eq (cS_k s1) k3 k a)
  exact ⟨e, y, rfl, vI_c hv1 kp (fun j hj => nz5_z hj), o, v, n, A, f, h, sl, ey, cS20_nz c3, rS0_of s2 (fun k a => kp k (by omega)) (by rw [kp 292 (by omega)]) (by rw [kp 292 (by omega)]), sOk_of s3 (fun i hi => by rw [kp 334 (by omega)])⟩
theorem cS0_m {o n : Nat} {A : aD} {f : Nat → Int32} {h sl : Nat → Nat → Int32} {I' : qMI} (c : cS0 o A f n h sl I R) (kp : ∀ k, rKr k → I' k = I k) : cS0 o A f n h sl I' R := by
  have ho := c.1.1.1
  exact cS0_of c (fun k a => kp k (by omega))
theorem cS20_m {o n : Nat} {A : aD} {f : Nat → Int32} {h sl : Nat → Nat → Int32} {I' : qMI} {g : Option (Nat → Int32)} (c : cS20 o A f n h sl I R g) (kp : ∀ k, rKr k → I' k = I k) : cS20 o A f n h sl I' R g := by
  cases g with
  | none => exact cS0_m (show cS0 o A f n h sl I R from c) kp
  | some x => exact cS0_m (show cS0 o A x (hN n) (hH n h f) sl I R from c) kp
theorem jM_gen {N : qMn} {as : List Value} {p : aD → (Nat → Int32) → Int32 × Option (Nat → Int32)} {y : Int32} (hv : kM p y I L R) (ex : ∀ (v : Nat) (A : aD) (f : Nat → Int32) (n : Nat) (h sl : Nat → Nat → Int32), rS v A f n h sl I → aOk A → fOk A f → wkI l G 26 N as I L R (fun z I' L' => L' = L ∧ z = (p A f).1 ∧ rS2 v A f n h sl I' (p A f).2 ∧ rMf I I')) (hp : ∀ A f, aOk A → fOk A f → ∀ g, (p A f).2 = some g → fOk A g) : qCall l G 26 N as 336 I L R (fun r t I' L' R' => t = 336 ∧ ∃ y2, r = some (.int y2) ∧ y2 = y ∧ wI I' L' R') := by
  obtain ⟨hv1, o, v, n, A, f, h, sl0, ey, c1, s2, s3⟩ := hv
  have c1 : cS20 o A f n h (gS sl0 I) I R (p A f).2 := cS20_gh c1
  have s3 : sOk A f n h (gS sl0 I) I := sOk_gh s3
  have s2 := rS_gh s2
  generalize gS sl0 I = sl at c1 s2 s3
  have ex' : qCall l G 26 N as 336 I L R (fun r t I' L' R' => t = 336 ∧ R' = R ∧ ∃ z, r = some (.int z) ∧ L' = L ∧ z = (p A f).1 ∧ rS2 v A f n h sl I' (p A f).2 ∧ rMf I I') := ex v A f n h sl s2 s3.1 s3.2.1
  refine qCall_mono ex' ?_
  intro r t I' L' R' hq
  obtain ⟨e, rfl, y2, rfl, rfl, ey', c2, mf⟩ := hq
  obtain ⟨c3, k3⟩ := rS2_0 c2
  have kp := rKp_eq (rS_k s2) k3
  exact ⟨e, y2, rfl, ey'.trans ey.symm, vI_m hv1 kp mf, wS_both (cS20_m c1 kp) c3 (sOk_of s3 (fun i hi => by rw [kp 334 (by omega)])) (fun g hg => hp A f s3.1 s3.2.1 g hg) s2.2.2.1.2.1⟩
theorem jC_ex {N : qMn} {as : List Value} {q : aD → (Nat → Int32) → Int32} (hv : wI I L R) (ex : ∀ (o : Nat) (A : aD) (f : Nat → Int32) (n : Nat) (h sl : Nat → Nat → Int32), cS o A f n h sl I R → wkCi l G 26 N as I L R (fun z I' L' R' => R' = R ∧ L' = L ∧ z = q A f ∧ cS o A f n h sl I' R')) : qCall l G 26 N as 336 I L R (fun r t I' L' R' => t = 336 ∧ ∃ y, r = some (.int y) ∧ kM (fun A f => (q A f, none)) y I' L' R') :=
  jC_gen (p := fun A f => (q A f, none)) hv ex
theorem jM_ex {N : qMn} {as : List Value} {q : aD → (Nat → Int32) → Int32} {y : Int32} (hv : kM (fun A f => (q A f, none)) y I L R) (ex : ∀ (v : Nat) (A : aD) (f : Nat → Int32) (n : Nat) (h sl : Nat → Nat → Int32), rS v A f n h sl I → aOk A → fOk A f → wkI l G 26 N as I L R (fun z I' L' => L' = L ∧ z = q A f ∧ rS v A f n h sl I' ∧ rMf I I')) : qCall l G 26 N as 336 I L R (fun r t I' L' R' => t = 336 ∧ ∃ y2, r = some (.int y2) ∧ y2 = y ∧ wI I' L' R') :=
  jM_gen (p := fun A f => (q A f, none)) hv ex (fun _ _ _ _ _ e => by cases e)
/-! calls of which only that they return, and leave all alone, is said -/
theorem jC_fr {N : qMn} {as : List Value} (hv : wI I L R) (ex : ∀ (o : Nat) (A : aD) (f : Nat → Int32) (n : Nat) (h sl : Nat → Nat → Int32), cS o A f n h sl I R → wkCi l G 26 N as I L R (fun _ I' L' R' => R' = R ∧ L' = L ∧ cS o A f n h sl I' R')) : qCall l G 26 N as 336 I L R wIQ := by
  obtain ⟨hv1, w⟩ := hv
  obtain ⟨o, v, n, A, f, h, sl, s1, s2, s3⟩ := wS_gh w
  have ex' : qCall l G 26 N as 336 I L R (fun r t I' L' R' => t = 336 ∧ ∃ z, r = some (.int z) ∧ R' = R ∧ L' = L ∧ cS o A f n h sl I' R') := ex o A f n h sl s1
  refine qCall_mono (qCall_nz5 ex') ?_
  intro r t I' L' R' hq
  obtain ⟨I2, ⟨e, y, rfl, rfl, rfl, c2⟩, rfl⟩ := hq
  have kp : ∀ k, cKr k → nz5 I2 k = I k := fun k a => (nz5_ro (by omega)).trans (cK_eq (cS_k s1) (cS_k c2) k a)
  exact ⟨e, y, rfl, vI_c hv1 kp (fun j hj => nz5_z hj), o, v, n, A, f, h, sl, cS0_nz (cS_0 c2), rS0_of s2 (fun k a => kp k (by omega)) (by rw [kp 292 (by omega)]) (by rw [kp 292 (by omega)]), sOk_of s3 (fun i hi => by rw [kp 334 (by omega)])⟩
theorem jM_fr {N : qMn} {as : List Value} (hv : wI I L R) (ex : ∀ (v : Nat) (A : aD) (f : Nat → Int32) (n : Nat) (h sl : Nat → Nat → Int32), rS v A f n h sl I → aOk A → fOk A f → wkI l G 26 N as I L R (fun _ I' L' => L' = L ∧ rS v A f n h sl I' ∧ rMf I I')) : qCall l G 26 N as 336 I L R wIQ := by
  obtain ⟨hv1, o, v, n, A, f, h, sl0, c1, s2, s3⟩ := hv
  have c1 : cS0 o A f n h (gS sl0 I) I R := cS0_gh c1
  have s3 : sOk A f n h (gS sl0 I) I := sOk_gh s3
  have s2 := rS_gh s2
  generalize gS sl0 I = sl at c1 s2 s3
  have ex' : qCall l G 26 N as 336 I L R (fun r t I' L' R' => t = 336 ∧ R' = R ∧ ∃ z, r = some (.int z) ∧ L' = L ∧ rS v A f n h sl I' ∧ rMf I I') := ex v A f n h sl s2 s3.1 s3.2.1
  refine qCall_mono ex' ?_
  intro r t I' L' R' hq
  obtain ⟨e, rfl, y2, rfl, rfl, c2, mf⟩ := hq
  have kp := rKp_eq (rS_k s2) (rS_k c2)
  exact ⟨e, y2, rfl, vI_m hv1 kp mf, o, v, n, A, f, h, sl, cS0_m c1 kp, rS_0 c2, sOk_of s3 (fun i hi => by rw [kp 334 (by omega)])⟩
/-! undo -/
def kMu (y : Int32) (I : qMI) (L : qML) (R : qMR) : Prop := vI I L R ∧ ∃ (o v n : Nat) (A : aD) (f : Nat → Int32) (h sl : Nat → Nat → Int32), rS0 v A f n h sl I ∧ sOk A f n h sl I ∧ ((n = 0 ∧ y = 0 ∧ cS0 o A f n h sl I R) ∨ (0 < n ∧ y = 1 ∧ cS0 o A (h (n - 1)) (n - 1) h sl I R))
theorem jC_undo (hv : wI I L R) : qCall l G 26 n_X8_undo [.ref 0] 336 I L R (fun r t I' L' R' => t = 336 ∧ ∃ y, r = some (.int y) ∧ kMu y I' L' R') := by
  obtain ⟨hv1, w⟩ := hv
  obtain ⟨o, v, n, A, f, h, sl, s1, s2, s3⟩ := wS_gh w
  have ex' : qCall l G 26 n_X8_undo [.ref 0] 336 I L R (fun r t I' L' R' => t = 336 ∧ ∃ z, r = some (.int z) ∧ R' = R ∧ L' = L ∧ ((n = 0 ∧ z = 0 ∧ cS o A f n h sl I' R') ∨ (0 < n ∧ z = 1 ∧ cS o A (h (n - 1)) (n - 1) h sl I' R'))) := sUndo (d := 23) s1
  refine qCall_mono (qCall_nz5 ex') ?_
  intro r t I' L' R' hq
  obtain ⟨I2, ⟨e, y, rfl, rfl, rfl, c2⟩, rfl⟩ := hq
  have k3 : cK sl I2 := by
    rcases c2 with ⟨-, -, c⟩ | ⟨-, -, c⟩
    · exact cS_k c
    · exact cS_k c
  have kp : ∀ k, cKr k → nz5 I2 k = I k := fun k a => (nz5_ro (by omega)).trans (cK_eq (cS_k s1) k3 k a)
  refine ⟨e, y, rfl, vI_c hv1 kp (fun j hj => nz5_z hj), o, v, n, A, f, h, sl, rS0_of s2 (fun k a => kp k (by omega)) (by rw [kp 292 (by omega)]) (by rw [kp 292 (by omega)]), sOk_of s3 (fun i hi => by rw [kp 334 (by omega)]), ?_⟩
  rcases c2 with ⟨n0, y0, c⟩ | ⟨n0, y0, c⟩
  · exact Or.inl ⟨n0, y0, cS0_nz (cS_0 c)⟩
  · exact Or.inr ⟨n0, y0, cS0_nz (cS_0 c)⟩
theorem jM_undo {y : Int32} (hv : kMu y I L R) : qCall l G 26 n_X9_undo [.ref 292] 336 I L R (fun r t I' L' R' => t = 336 ∧ ∃ y2, r = some (.int y2) ∧ y2 = y ∧ wI I' L' R') := by
  obtain ⟨hv1, o, v, n, A, f, h, sl0, s2, s3, c1⟩ := hv
  have c1 : (n = 0 ∧ y = 0 ∧ cS0 o A f n h (gS sl0 I) I R) ∨ (0 < n ∧ y = 1 ∧ cS0 o A (h (n - 1)) (n - 1) h (gS sl0 I) I R) := by
    rcases c1 with ⟨a, b, c⟩ | ⟨a, b, c⟩
    · exact Or.inl ⟨a, b, cS0_gh c⟩
    · exact Or.inr ⟨a, b, cS0_gh c⟩
  have s3 : sOk A f n h (gS sl0 I) I := sOk_gh s3
  have s2 := rS_gh s2
  generalize gS sl0 I = sl at c1 s2 s3
  have ex' : qCall l G 26 n_X9_undo [.ref 292] 336 I L R (fun r t I' L' R' => t = 336 ∧ R' = R ∧ ∃ z, r = some (.int z) ∧ L' = L ∧ ((n = 0 ∧ z = 0 ∧ rS v A f n h sl I') ∨ (0 < n ∧ z = 1 ∧ rS v A (h (n - 1)) (n - 1) h sl I')) ∧ rMf I I') := uUndo (d := 25) (vWR hv1.1) s2
  refine qCall_mono ex' ?_
  intro r t I' L' R' hq
  obtain ⟨e, rfl, y2, rfl, rfl, c2, mf⟩ := hq
  have k3 : rKp sl I' := by
    rcases c2 with ⟨-, -, c⟩ | ⟨-, -, c⟩
    · exact rS_k c
    · exact rS_k c
  have kp := rKp_eq (rS_k s2) k3
  have e334 : I' 334 = I 334 := kp 334 (by omega)
  have hv2 := vI_m hv1 kp mf
  have ok : ∀ (m : Nat) (g : Nat → Int32), m ≤ n → fOk A g → sOk A g m h sl I' := fun m g hm hg => ⟨s3.1, hg, fun i hi => s3.2.2.1 i (by omega), fun i hi q => by rw [e334] at q; exact s3.2.2.2 i hi q⟩
  rcases c1 with ⟨n0, y0, c⟩ | ⟨n0, y0, c⟩
  · rcases c2 with ⟨m0, z0, r2⟩ | ⟨m0, z0, r2⟩
    · exact ⟨e, y2, rfl, z0.trans y0.symm, hv2, o, v, n, A, f, h, sl, cS0_m c kp, rS_0 r2, ok n f (Nat.le_refl _) s3.2.1⟩
    · omega
  · rcases c2 with ⟨m0, z0, r2⟩ | ⟨m0, z0, r2⟩
    · omega
    · exact ⟨e, y2, rfl, z0.trans y0.symm, hv2, o, v, n - 1, A, h (n - 1), h, sl, cS0_m c kp, rS_0 r2, ok (n - 1) _ (by omega) (s3.2.2.1 (n - 1) (by omega))⟩
/-! restore -/
abbrev oSl (x : Int32) : Prop := 0 ≤ x.toInt ∧ x.toInt < 3
def kMr (x y : Int32) (I : qMI) (L : qML) (R : qMR) : Prop := vI I L R ∧ ∃ (o v n : Nat) (A : aD) (f : Nat → Int32) (h sl : Nat → Nat → Int32), rS0 v A f n h sl I ∧ sOk A f n h sl I ∧ ((¬ (oSl x ∧ ¬ I 248 x.toInt.toNat = 0) ∧ y = 0 ∧ cS0 o A f n h sl I R) ∨ ((oSl x ∧ ¬ I 248 x.toInt.toNat = 0) ∧ y = 1 ∧ cS0 o A (sl x.toInt.toNat) 0 h sl I R))
theorem jC_restore (hv : wI I L R) (x : Int32) : qCall l G 26 n_X8_restore [.ref 0, .int x] 336 I L R (fun r t I' L' R' => t = 336 ∧ ∃ y, r = some (.int y) ∧ kMr x y I' L' R') := by
  obtain ⟨hv1, w⟩ := hv
  obtain ⟨o, v, n, A, f, h, sl, s1, s2, s3⟩ := wS_gh w
  have ex' : qCall l G 26 n_X8_restore [.ref 0, .int x] 336 I L R (fun r t I' L' R' => t = 336 ∧ ∃ z, r = some (.int z) ∧ R' = R ∧ L' = L ∧ ((¬ ((0 ≤ x.toInt ∧ x.toInt < 3) ∧ ¬ I 248 x.toInt.toNat = 0) ∧ z = 0 ∧ I' = I) ∨ (((0 ≤ x.toInt ∧ x.toInt < 3) ∧ ¬ I 248 x.toInt.toNat = 0) ∧ z = 1 ∧ cS o A (sl x.toInt.toNat) 0 h sl I' R'))) := sRestore (d := 24) s1
  refine qCall_mono (qCall_nz5 ex') ?_
  intro r t I' L' R' hq
  obtain ⟨I2, ⟨e, y, rfl, rfl, rfl, c2⟩, rfl⟩ := hq
  have k3 : cK sl I2 := by
    rcases c2 with ⟨-, -, c⟩ | ⟨-, -, c⟩
    · rw [c]; exact cS_k s1
    · exact cS_k c
  have kp : ∀ k, cKr k → nz5 I2 k = I k := fun k a => (nz5_ro (by omega)).trans (cK_eq (cS_k s1) k3 k a)
  refine ⟨e, y, rfl, vI_c hv1 kp (fun j hj => nz5_z hj), o, v, n, A, f, h, sl, rS0_of s2 (fun k a => kp k (by omega)) (by rw [kp 292 (by omega)]) (by rw [kp 292 (by omega)]), sOk_of s3 (fun i hi => by rw [kp 334 (by omega)]), ?_⟩
  rw [kp 248 (by omega)]
  rcases c2 with ⟨n0, y0, c⟩ | ⟨n0, y0, c⟩
  · rw [c]
    exact Or.inl ⟨n0, y0, cS0_nz (cS_0 s1)⟩
  · exact Or.inr ⟨n0, y0, cS0_nz (cS_0 c)⟩
theorem jM_restore {y : Int32} (x : Int32) (hv : kMr x y I L R) : qCall l G 26 n_X9_restore [.ref 292, .int x] 336 I L R (fun r t I' L' R' => t = 336 ∧ ∃ y2, r = some (.int y2) ∧ y2 = y ∧ wI I' L' R') := by
  obtain ⟨hv1, o, v, n, A, f, h, sl0, s2, s3, c1⟩ := hv
  have c1 : (¬ (oSl x ∧ ¬ I 248 x.toInt.toNat = 0) ∧ y = 0 ∧ cS0 o A f n h (gS sl0 I) I R) ∨ ((oSl x ∧ ¬ I 248 x.toInt.toNat = 0) ∧ y = 1 ∧ cS0 o A (gS sl0 I x.toInt.toNat) 0 h (gS sl0 I) I R) := by
    rcases c1 with ⟨a, b, c⟩ | ⟨a, b, c⟩
    · exact Or.inl ⟨a, b, cS0_gh c⟩
    · refine Or.inr ⟨a, b, ?_⟩
      rw [gS_l (by have := a.1; omega)]
      exact cS0_gh c
  have s3 : sOk A f n h (gS sl0 I) I := sOk_gh s3
  have s2 := rS_gh s2
  generalize gS sl0 I = sl at c1 s2 s3
  have ex' : qCall l G 26 n_X9_restore [.ref 292, .int x] 336 I L R (fun r t I' L' R' => t = 336 ∧ R' = R ∧ ∃ z, r = some (.int z) ∧ L' = L ∧ ((¬ ((0 ≤ x.toInt ∧ x.toInt < 3) ∧ ¬ I 334 x.toInt.toNat = 0) ∧ z = 0 ∧ I' = I) ∨ (((0 ≤ x.toInt ∧ x.toInt < 3) ∧ ¬ I 334 x.toInt.toNat = 0) ∧ z = 1 ∧ rS v A (sl x.toInt.toNat) 0 h sl I')) ∧ rMf I I') := uRestore (d := 24) (vWR hv1.1) s2
  refine qCall_mono ex' ?_
  intro r t I' L' R' hq
  obtain ⟨e, rfl, y2, rfl, rfl, c2, mf⟩ := hq
  have k3 : rKp sl I' := by
    rcases c2 with ⟨-, -, c⟩ | ⟨-, -, c⟩
    · rw [c]; exact rS_k s2
    · exact rS_k c
  have kp := rKp_eq (rS_k s2) k3
  have e334 : I' 334 = I 334 := kp 334 (by omega)
  have hv2 := vI_m hv1 kp mf
  have hl : oSl x → I 248 x.toInt.toNat = I 334 x.toInt.toNat := fun q => hv1.2.2.2.2.2.2 _ (by omega)
  rcases c1 with ⟨n0, y0, c⟩ | ⟨n0, y0, c⟩
  · rcases c2 with ⟨m0, z0, r2⟩ | ⟨m0, z0, r2⟩
    · exact ⟨e, y2, rfl, z0.trans y0.symm, hv2, o, v, n, A, f, h, sl, cS0_m c kp, by rw [r2]; exact rS_0 s2, sOk_of s3 (fun i hi => by rw [e334])⟩
    · exact absurd ⟨m0.1, fun q => m0.2 (by rw [← hl m0.1]; exact q)⟩ n0
  · rcases c2 with ⟨m0, z0, r2⟩ | ⟨m0, z0, r2⟩
    · exact absurd ⟨n0.1, fun q => n0.2 (by rw [hl n0.1]; exact q)⟩ m0
    · exact ⟨e, y2, rfl, z0.trans y0.symm, hv2, o, v, 0, A, sl x.toInt.toNat, h, sl, cS0_m c kp, rS_0 r2, s3.1, s3.2.2.2 _ (by omega) m0.2, fun i hi => absurd hi (by omega), fun i hi q => by rw [e334] at q; exact s3.2.2.2 i hi q⟩
/-! hold -/
/-- the keep but one row -/
theorem vI_c8 {I' : qMI} (hv : vI I L R) (kp : ∀ k, cKr k → k ≠ 248 → I' k = I k) (z : ∀ j, 3 ≤ j → I' 35 j = 0) (h8 : zlx (zcell zAi0 248) = true ∧ zlx (zcell zAi1 248) = true) : vInv I' L R ∧ I' 1 1 = I' 292 2 ∧ I' 2 = I' 293 ∧ vWd L ∧ I' 0 13 = I' 292 17 ∧ I' 249 0 = I' 292 58 := by
  obtain ⟨⟨hm, hg⟩, v1, v2, v3, v4, v5⟩ := hv
  have go : ∀ A, zAny A → (∀ k, k < 336 → ztag (zcell A k) ≠ 13) → zlx (zcell A 248) = true → zM (I, L, R) 336 A I L R → zM (I', L, R) 336 A I' L R := fun A hA h13 h8 hm => by
    refine zM_ch hm h13 (fun k hk => ?_)
    by_cases c8 : k = 248
    · rw [c8]; exact Or.inr (Or.inl h8)
    rcases hA.1 k hk with a | a | ⟨a, b⟩ | a | a
    · exact Or.inl (kp k a c8)
    · exact Or.inr (Or.inl a)
    · refine Or.inr (Or.inr ⟨fun _ j hj => ?_, fun q => by omega⟩)
      rw [a] at hj
      rw [zkd4 hj, b]
      exact zin_top _
    · subst a
      obtain ⟨t3, r1, r2, lt⟩ := hA.2
      refine Or.inr (Or.inr ⟨fun _ j hj => ?_, fun q => by omega⟩)
      rw [t3] at hj
      have j1 := zkd3 hj
      by_cases c : 3 ≤ j
      · rw [zraw_h5 lt c, z j c]
        exact zin_z
      · rcases (show j = 1 ∨ j = 2 by omega) with rfl | rfl
        · rw [r1]
          exact zin_top _
        · rw [r2]
          exact zin_top _
    · exact Or.inr (Or.inr ⟨fun _ j hj => by rw [a] at hj; exact absurd hj (by show ¬ (2 : Nat) = 0; decide), fun q => by omega⟩)
  refine ⟨⟨hm.imp (fun hm => go _ zAny0 zRef0.c13 h8.1 hm) (fun hm => go _ zAny1 zRef1.c13 h8.2 hm), zGood_ok _ I' L R hg (fun x hx => ⟨kp x (by have := zUN_k x hx; omega) (by have := zUN_k x hx; omega), rfl, rfl⟩) (fun j _ => by rw [kp 292 (by omega) (by decide)])⟩, ?_, ?_, v3, ?_, ?_⟩
  · rw [kp 1 (by omega) (by decide), kp 292 (by omega) (by decide)]; exact v1
  · rw [kp 2 (by omega) (by decide), kp 293 (by omega) (by decide)]; exact v2
  · rw [kp 0 (by omega) (by decide), kp 292 (by omega) (by decide)]; exact v4
  · rw [kp 249 (by omega) (by decide), kp 292 (by omega) (by decide)]; exact v5.1
def kMh (x y : Int32) (I : qMI) (L : qML) (R : qMR) : Prop := vInv I L R ∧ (I 1 1 = I 292 2 ∧ I 2 = I 293 ∧ vWd L ∧ I 0 13 = I 292 17 ∧ I 249 0 = I 292 58) ∧ ∃ (o v n : Nat) (A : aD) (f : Nat → Int32) (h sl : Nat → Nat → Int32), rS0 v A f n h sl I ∧ sOk A f n h sl I ∧ ((¬ oSl x ∧ y = 0 ∧ (∀ i, i < 3 → I 248 i = I 334 i) ∧ cS0 o A f n h sl I R) ∨ (oSl x ∧ y = 1 ∧ (∀ i, i < 3 → I 248 i = if i = x.toInt.toNat then 1 else I 334 i) ∧ cS0 o A f n h (fun i => if i = x.toInt.toNat then f else sl i) I R))
theorem cS0_sl {o n : Nat} {A : aD} {f : Nat → Int32} {h sl sl' : Nat → Nat → Int32} (s : cS0 o A f n h sl I R) (e : ∀ i, i < 3 → sl' i = sl i) : cS0 o A f n h sl' I R := ⟨s.1, s.2.1, s.2.2.1, fun i hi => by rw [e i hi]; exact s.2.2.2 i hi⟩
theorem jC_hold (hv : wI I L R) (x : Int32) : qCall l G 26 n_X8_hold [.ref 0, .int x] 336 I L R (fun r t I' L' R' => t = 336 ∧ ∃ y, r = some (.int y) ∧ kMh x y I' L' R') := by
  obtain ⟨hv1, w⟩ := hv
  obtain ⟨o, v, n, A, f, h, sl, s1, s2, s3⟩ := wS_gh w
  have ex' : qCall l G 26 n_X8_hold [.ref 0, .int x] 336 I L R (fun r t I' L' R' => t = 336 ∧ ∃ z, r = some (.int z) ∧ R' = R ∧ L' = L ∧ ((¬ (0 ≤ x.toInt ∧ x.toInt < 3) ∧ z = 0 ∧ I' = I) ∨ ((0 ≤ x.toInt ∧ x.toInt < 3) ∧ z = 1 ∧ I' 248 = tU (I 248) x.toInt.toNat 1 ∧ cS o A f n h (hSl x f sl I') I' R'))) := sHold (d := 24) s1
  refine qCall_mono (qCall_nz5 ex') ?_
  intro r t I' L' R' hq
  obtain ⟨I2, ⟨e, y, rfl, rfl, rfl, c2⟩, rfl⟩ := hq
  have kp : ∀ k, cKr k → k ≠ 248 → nz5 I2 k = I k := fun k a b => by
    rw [nz5_ro (by omega)]
    rcases c2 with ⟨-, -, c⟩ | ⟨x0, -, -, c⟩
    · rw [c]
    · funext j
      have := cS_k c k a j
      unfold hSl at this
      rw [if_neg (by omega), if_neg (by omega)] at this
      exact this.trans (cS_k s1 k a j).symm
  obtain ⟨u1, u2, u3, u4, u5, u6⟩ := vI_c8 hv1 kp (fun j hj => nz5_z hj) ⟨by decide +kernel, by decide +kernel⟩
  refine ⟨e, y, rfl, u1, ⟨u2, u3, u4, u5, u6⟩, o, v, n, A, f, h, sl, rS0_of s2 (fun k a => kp k (by omega) (by omega)) (by rw [kp 292 (by omega) (by decide)]) (by rw [kp 292 (by omega) (by decide)]), sOk_of s3 (fun i hi => by rw [kp 334 (by omega) (by decide)]), ?_⟩
  have v5 := hv1.2.2.2.2.2
  rw [kp 334 (by omega) (by decide), nz5_ro (show 248 ≠ 35 by decide)]
  rcases c2 with ⟨n0, y0, c⟩ | ⟨n0, y0, c8, c⟩
  · rw [c]
    exact Or.inl ⟨n0, y0, v5.2, cS0_nz (cS_0 s1)⟩
  · refine Or.inr ⟨n0, y0, fun i hi => ?_, cS0_nz (cS0_sl (cS_0 c) (fun i hi => ?_))⟩
    · rw [c8]
      by_cases z : i = x.toInt.toNat
      · rw [if_pos z, z, tU_s]
      · rw [if_neg z, tU_o z]
        exact v5.2 i hi
    · unfold hSl
      by_cases z : i = x.toInt.toNat
      · rw [if_pos z, if_pos z]
      · rw [if_neg z, if_neg z, if_neg (by omega)]
theorem jM_hold {y : Int32} (x : Int32) (hv : kMh x y I L R) : qCall l G 26 n_X9_hold [.ref 292, .int x] 336 I L R (fun r t I' L' R' => t = 336 ∧ ∃ y2, r = some (.int y2) ∧ y2 = y ∧ wI I' L' R') := by
  obtain ⟨⟨hm, hg⟩, ⟨v1, v2, v3, v4, v5⟩, o, v, n, A, f, h, sl0, s2, s3, c1⟩ := hv
  have c1 : (¬ oSl x ∧ y = 0 ∧ (∀ i, i < 3 → I 248 i = I 334 i) ∧ cS0 o A f n h (gS sl0 I) I R) ∨ (oSl x ∧ y = 1 ∧ (∀ i, i < 3 → I 248 i = if i = x.toInt.toNat then 1 else I 334 i) ∧ cS0 o A f n h (fun i => if i = x.toInt.toNat then f else gS sl0 I i) I R) := by
    rcases c1 with ⟨a, b, q, c⟩ | ⟨a, b, q, c⟩
    · exact Or.inl ⟨a, b, q, cS0_gh c⟩
    · exact Or.inr ⟨a, b, q, cS0_sl c (fun i hi => by rw [gS_l (by omega)])⟩
  have s3 : sOk A f n h (gS sl0 I) I := sOk_gh s3
  have s2 := rS_gh s2
  generalize gS sl0 I = sl at c1 s2 s3
  have ex' : qCall l G 26 n_X9_hold [.ref 292, .int x] 336 I L R (fun r t I' L' R' => t = 336 ∧ R' = R ∧ ∃ z, r = some (.int z) ∧ L' = L ∧ ((¬ (0 ≤ x.toInt ∧ x.toInt < 3) ∧ z = 0 ∧ I' = I) ∨ ((0 ≤ x.toInt ∧ x.toInt < 3) ∧ z = 1 ∧ I' 334 = tU (I 334) x.toInt.toNat 1 ∧ rS v A f n h (hSr x f sl I') I' ∧ I' 292 = I 292))) := uHold (d := 24) (vWR ⟨hm, hg⟩) s2
  refine qCall_mono ex' ?_
  intro r t I' L' R' hq
  obtain ⟨e, rfl, y2, rfl, rfl, c2⟩ := hq
  have e292 : I' 292 = I 292 := by
    rcases c2 with ⟨-, -, c⟩ | ⟨-, -, -, -, c⟩
    · rw [c]
    · exact c
  have kp : ∀ k, rKr k → k ≠ 334 → I' k = I k := fun k a b => by
    rcases c2 with ⟨-, -, c⟩ | ⟨x0, -, -, c, -⟩
    · rw [c]
    · funext j
      have := rS_k c k a j
      unfold hSr at this
      rw [if_neg (by omega), if_neg (by omega)] at this
      exact this.trans (rS_k s2 k a j).symm
  have go : ∀ A, zAnm A → (∀ k, k < 336 → ztag (zcell A k) ≠ 13) → zlx (zcell A 334) = true → zM (I, L', R') 336 A I L' R' → zM (I', L', R') 336 A I' L' R' := fun A hA h13 h8 hm => by
    refine zM_ch hm h13 (fun k hk => ?_)
    by_cases c8 : k = 334
    · rw [c8]; exact Or.inr (Or.inl h8)
    rcases hA.1 k hk with a | a | a
    · exact Or.inl (kp k a c8)
    · exact Or.inr (Or.inl a)
    · rw [a]; exact Or.inl e292
  have hc : ∀ x ∈ zUN, I' x = I x := fun x hx => kp x (by have := zUN_k x hx; omega) (by have := zUN_k x hx; omega)
  have vi : (∀ i, i < 3 → I 248 i = I' 334 i) → vI I' L' R' := fun q => by
    refine ⟨⟨hm.imp (fun hm => go _ zAnm0 zRef0.c13 (by decide +kernel) hm) (fun hm => go _ zAnm1 zRef1.c13 (by decide +kernel) hm), ?_⟩, ?_, ?_, v3, ?_, ?_, fun i hi => ?_⟩
    · rcases hg with ⟨h1, h3, h4⟩ | ⟨h1, h3, h4⟩
      · exact Or.inl ⟨by show I' 292 18 = _; rw [e292]; exact h1, zside_congr hc h3, zreg_congr hc h4⟩
      · exact Or.inr ⟨by show I' 292 18 = _; rw [e292]; exact h1, zside_congr hc h3, zreg_congr hc h4⟩
    · rw [kp 1 (by omega) (by decide), e292]; exact v1
    · rw [kp 2 (by omega) (by decide), kp 293 (by omega) (by decide)]; exact v2
    · rw [kp 0 (by omega) (by decide), e292]; exact v4
    · rw [kp 249 (by omega) (by decide), e292]; exact v5
    · rw [kp 248 (by omega) (by decide)]; exact q i hi
  have mv : ∀ (s : Nat → Nat → Int32), cS0 o A f n h s I R' → cS0 o A f n h s I' R' := fun s c => by
    have ho := c.1.1.1
    exact cS0_of c (fun k a => kp k (by omega) (by omega))
  rcases c1 with ⟨n0, y0, c8, cc⟩ | ⟨n0, y0, c8, cc⟩
  · rcases c2 with ⟨m0, z0, r2⟩ | ⟨m0, z0, r2⟩
    · rw [r2] at vi mv ⊢
      exact ⟨e, y2, rfl, z0.trans y0.symm, vi c8, o, v, n, A, f, h, sl, mv sl cc, rS_0 s2, s3⟩
    · exact absurd m0 n0
  · rcases c2 with ⟨m0, z0, r2⟩ | ⟨m0, z0, r8, r2, -⟩
    · exact absurd n0 m0
    · have e8 : ∀ i, i < 3 → I' 334 i = if i = x.toInt.toNat then 1 else I 334 i := fun i hi => by
        rw [r8]
        by_cases z : i = x.toInt.toNat
        · rw [if_pos z, z, tU_s]
        · rw [if_neg z, tU_o z]
      have r3 : rS0 v A f n h (fun i => if i = x.toInt.toNat then f else sl i) I' := by
        obtain ⟨q1, q2, q3, q4⟩ := rS_0 r2
        refine ⟨q1, q2, q3, fun i hi q k hk => ?_⟩
        have := q4 i hi q k hk
        unfold hSr at this
        by_cases z : i = x.toInt.toNat
        · rw [if_pos z] at this
          show _ = (if i = x.toInt.toNat then f else sl i) k
          rw [if_pos z]
          exact this
        · rw [if_neg z, if_neg (by omega)] at this
          show _ = (if i = x.toInt.toNat then f else sl i) k
          rw [if_neg z]
          exact this
      refine ⟨e, y2, rfl, z0.trans y0.symm, vi (fun i hi => (c8 i hi).trans (e8 i hi).symm), o, v, n, A, f, h, _, mv _ cc, r3, s3.1, s3.2.1, s3.2.2.1, fun i hi q => ?_⟩
      show fOk A (if i = x.toInt.toNat then f else sl i)
      by_cases z : i = x.toInt.toNat
      · rw [if_pos z]; exact s3.2.1
      · rw [if_neg z]
        rw [e8 i hi, if_neg z] at q
        exact s3.2.2.2 i hi q
/-! count -/
def kMn (w y : Int32) (I : qMI) (L : qML) (R : qMR) : Prop := ∃ t u tl hl : Int32, kM (fun A f => (qCount A f t u tl hl w, none)) y I L R ∧ I 1 1 = t ∧ I 35 2 = u ∧ I 249 0 = tl ∧ hlS (I 248) = hl
theorem jC_count (hv : wI I L R) (x1 : Int32) : qCall l G 26 n_X8_count [.ref 0, .int x1] 336 I L R (fun r t I' L' R' => t = 336 ∧ ∃ y, r = some (.int y) ∧ kMn x1 y I' L' R') := by
  have r00 : R 0 0 = some 1 := by
    obtain ⟨A, hA, hm, -, -⟩ := vC hv.1.1
    exact (zC1 hA hm).1
  obtain ⟨hv1, w⟩ := hv
  obtain ⟨o, v, n, A, f, h, sl, s1, s2, s3⟩ := wS_gh w
  have ex' : qCall l G 26 n_X8_count [.ref 0, .int x1] 336 I L R (fun r t I' L' R' => t = 336 ∧ ∃ z, r = some (.int z) ∧ R' = R ∧ L' = L ∧ z = qCount A f (I 1 1) (I 35 2) (I 249 0) (hlS (I 248)) x1 ∧ cQ o I I') := sCount (d := 19) s1 r00
  refine qCall_mono (qCall_nz5 ex') ?_
  intro r t I' L' R' hq
  obtain ⟨I2, ⟨e, y, rfl, rfl, rfl, ey, j⟩, rfl⟩ := hq
  have c2 := cS_q s1 j
  have ho := s1.1.1.1
  have kp : ∀ k, cKr k → nz5 I2 k = I k := fun k a => (nz5_ro (by omega)).trans (cK_eq (cS_k s1) (cS_k c2) k a)
  refine ⟨e, y, rfl, _, _, _, _, ⟨vI_c hv1 kp (fun j hj => nz5_z hj), o, v, n, A, f, h, sl, ey, cS0_nz (cS_0 c2), rS0_of s2 (fun k a => kp k (by omega)) (by rw [kp 292 (by omega)]) (by rw [kp 292 (by omega)]), sOk_of s3 (fun i hi => by rw [kp 334 (by omega)])⟩, ?_, ?_, ?_, ?_⟩
  · rw [kp 1 (by omega)]
  · rw [nz5_f (by decide), j 35 (by omega) (by omega)]
  · rw [kp 249 (by omega)]
  · rw [kp 248 (by omega)]
theorem hlS_cg {f g : Nat → Int32} (h : ∀ i, i < 3 → f i = g i) : hlS f = hlS g := by
  unfold hlS
  exact qS_cg 3 0 0 (fun j _ b => by rw [h j (by omega)])
theorem jM_count {y : Int32} (x1 : Int32) (hv : kMn x1 y I L R) : qCall l G 26 n_X9_count [.ref 292, .int x1] 336 I L R (fun r t I' L' R' => t = 336 ∧ ∃ y2, r = some (.int y2) ∧ y2 = y ∧ wI I' L' R') := by
  obtain ⟨t, u, tl, hl, k, rfl, rfl, rfl, rfl⟩ := hv
  have hv1 := k.1
  have k2 : kM (fun A f => (qCount A f (I 292 2) (I 292 51) (I 292 58) (hlS (I 334)) x1, none)) y I L R := by
    obtain ⟨-, v1, v2, v3, v4, v5⟩ := id hv1
    obtain ⟨-, o, v, n, A, f, h, sl, ey, c1, s2, s3⟩ := k
    have c0 : cS0 o A f n h sl I R := c1
    refine ⟨hv1, o, v, n, A, f, h, sl, ?_, c1, s2, s3⟩
    have e51 : I 35 2 = I 292 51 := i_eq.mpr (c0.2.2.1.1.trans s2.2.2.1.1.symm)
    rw [ey]
    show qCount A f (I 1 1) (I 35 2) (I 249 0) (hlS (I 248)) x1 = qCount A f (I 292 2) (I 292 51) (I 292 58) (hlS (I 334)) x1
    rw [v1, e51, v5.1, hlS_cg v5.2]
  exact jM_ex k2 (fun v A f n h sl s a b => uCount (d := 17) (vWR hv1.1) s a b)
end
/-! read, the tape, the place, what is told -/
theorem zGood_v {v : Nat} {I : qMI} {L : qML} {R : qMR} (hg : zGood (I, L, R)) (hv : (I 292 18).toInt = v) : zside I v := by
  rcases hg with ⟨h1, h2, -⟩ | ⟨h1, h2, -⟩
  · have h1 : I 292 18 = 0 := h1
    rw [h1, show (0 : Int32).toInt = 0 from rfl] at hv
    have : v = 0 := by omega
    rw [this]
    exact h2
  · have h1 : I 292 18 = 1 := h1
    rw [h1, show (1 : Int32).toInt = 1 from rfl] at hv
    have : v = 1 := by omega
    rw [this]
    exact h2
theorem wS_sm {I' I2 : qMI} {L' L2 : qML} {R' R2 : qMR} (s : wS I2 R2) (sm : qSm 336 I' L' I2 L2) (smR : qSmR 336 R' R2) (hv : vInv I' L' R') : wS I' R' := by
  obtain ⟨o, v, n, A, f, h, sl, s1, s2, s3⟩ := s
  have e12 : R' 0 12 = R2 0 12 := smR 0 (by decide) (by decide +kernel) 12 (by decide +kernel) (by decide +kernel)
  have l34 : (qSh 334).2 = 3 := by decide +kernel
  exact ⟨o, v, n, A, f, h, sl, cS_tr s1 sm (vRp hv (by rw [e12]; exact s1.1.2.2)).2.1, rS_sm sm hv.2 s2, sOk_of s3 (fun i hi => sm.1 334 (by decide) (by decide +kernel) (by decide +kernel) i (by omega))⟩
def kMd (y : Int32) (I : qMI) (L : qML) (R : qMR) : Prop := vInv I L R ∧ I 1 1 = 0 ∧ I 2 = I 293 ∧ vWd L ∧ ∃ (K S : Nat → Int32) (N : Nat → Int64), pSpec (L 299) (fun i => vp_nar .byte (I 293 i) &&& 255) (I 292 2).toInt.toNat K S N ∧ y = zAns (zText K S N) ∧ I 0 13 = zPlc (zText K S N) ∧ (y = 0 → I 249 0 = 0 ∧ ∀ i, i < 3 → I 248 i = 0) ∧ (y ≠ 0 → vTd I) ∧ ∃ (v n : Nat) (A : aD) (f : Nat → Int32) (h sl : Nat → Nat → Int32), rS0 v A f n h sl I ∧ sOk A f n h sl I ∧ (y = 0 → aOk (aText K S N) ∧ ∃ o, cS0 o (aText K S N) (bX (aText K S N)) 0 h sl I R) ∧ (y ≠ 0 → ∃ o, cS0 o A f n h sl I R)
section
variable {l : Launch} {G : qG} {I : qMI} {L : qML} {R : qMR}
theorem jC_read (hv : wI I L R) : qCall l G 26 n_X8_read [.ref 0] 336 I L R (fun r t I' L' R' => t = 336 ∧ ∃ y, r = some (.int y) ∧ kMd y I' L' R') := by
  obtain ⟨⟨⟨hm, hg⟩, h1, h2, h3, h4, h5⟩, o', v, n, A, f, h, sl, s1, s2, s3⟩ := hv
  have key : qCall l G 26 n_X8_read [.ref 0] 336 I L R (fun r t I' L' R' => t = 336 ∧ cRdP I L r I' L' R') := by
    rcases hm with hm | hm
    · exact cRead0 hm hg
    · exact cRead1 hm hg
  obtain ⟨-, -, o, ho, hne, hd⟩ := vRp ⟨hm, hg⟩ s1.1.2.2
  obtain ⟨A1, hA1, hm1, -, -⟩ := vC ⟨hm, hg⟩
  have bd := (zC1 hA1 hm1).2.2.1
  refine qCall_mono (qCall_and2 key (sRead s1 hd ho hne bd.1 bd.2)) ?_
  intro r t I' L' R' hq
  obtain ⟨⟨e, y, rfl, hv', K0, S0, N0, hs0, ey0, ep0, q1, q2, q5, gk, n1, n2, n3, n4⟩, r2, I2, L2, R2, ⟨e2, y2, rfl, K, S, N, hs, ey, ep, ok, bad⟩, er, sm, smR⟩ := hq
  subst e
  have ey2 := qTv_i er
  subst ey2
  have g2 := (gk 292 (by decide) (by decide)).1
  have g3 := (gk 293 (by decide) (by decide)).1
  have g9 := (gk 299 (by decide) (by decide)).2
  have e12 : R' 0 12 = R2 0 12 := smR 0 (by decide) (by decide +kernel) 12 (by decide +kernel) (by decide +kernel)
  have w0 : y = 0 → zAns (zText K0 S0 N0) = 0 := fun w => by rw [← ey0]; exact w
  have w1 : y ≠ 0 → zAns (zText K0 S0 N0) ≠ 0 := fun w => by rw [← ey0]; exact w
  refine ⟨rfl, y, rfl, hv', q1, by rw [q2, g3, h2], vWd_of h3 q5 g9, K, S, N, ?_, ey, (sm.2.2 0 (by decide) (by decide +kernel) 13 (by decide +kernel) (by decide +kernel)).trans ep, fun w => ⟨n1 (w0 w), n3 (w0 w)⟩, fun w => vTd_of h5 (n2 (w1 w)) (by rw [g2]) (n4 (w1 w)) (gk 334 (by decide) (by decide)).1, v, n, A, f, h, sl, rS0_of s2 (fun k a => (gk k (by omega) (by omega)).1) (by rw [g2]) (by rw [g2]), sOk_of s3 (fun i hi => by rw [(gk 334 (by decide) (by decide)).1]), fun w => ⟨(ok w).1, o, cS_tr (ok w).2 sm (vRp hv' (by rw [e12]; exact (ok w).2.1.2.2)).2.1⟩, fun w => ⟨o', cS_tr (bad w) sm (vRp hv' (by rw [e12]; exact (bad w).1.2.2)).2.1⟩⟩
  have hb : (fun i => vp_nar .byte (I 293 i) &&& 255) = cBy I := funext fun i => by rw [← h2]; exact nar_and _
  rw [g9, g3, g2, hb, ← h3.1, ← h1]
  exact pSpec_of hs
theorem jM_read {y : Int32} (hv : kMd y I L R) : qCall l G 26 n_X9_read [.ref 292] 336 I L R (fun r t I' L' R' => t = 336 ∧ ∃ y2, r = some (.int y2) ∧ y2 = y ∧ wI I' L' R') := by
  obtain ⟨hv, s1, s2, hw, K, S, N, hs, ey, ep, n1, n2, v, n, A, f, h, sl, r1, k1, st0, st1⟩ := hv
  obtain ⟨A1, hA, hm, hg, hk⟩ := vM hv
  refine qCall_mono (uRead (d := 18) (vRR hA hm) (w := L 299) hw.2 (fun _ _ => rfl) hs (vRi hA hm hg)) ?_
  intro r t I' L' R' hq
  obtain ⟨rfl, rfl, y2, rfl, hp, ⟨e1, e2, e3, e4, e5⟩, u1, u2⟩ := hq
  have vr := vRead (L' := L') hA hm hp
  have hv' := hk _ _ _ vr
  have cl : ∀ k, k < 292 → I' k = I k := fun k a => hp.2.1 k (by omega) (Or.inl (by omega))
  have w0 : y = 0 → zAns (zText K S N) = 0 := fun w => by rw [← ey]; exact w
  have w1 : y ≠ 0 → zAns (zText K S N) ≠ 0 := fun w => by rw [← ey]; exact w
  have vi : vI I' L' R' := by
    refine ⟨hv', ?_, ?_, vWd_of hw (e3 5 (by decide) (by decide)) (e3 299 (by decide) (by decide)), ?_, ?_⟩
    · rw [hp.2.2.2.1, cl 1 (by decide)]
      exact s1
    · rw [cl 2 (by decide), hp.2.1 293 (by decide) (Or.inl (by decide))]
      exact s2
    · rw [cl 0 (by decide), e2]
      exact ep
    · by_cases w : y = 0
      · exact ⟨by rw [cl 249 (by decide), (n1 w).1, (e4 (w0 w)).2.1], fun i hi => by rw [cl 248 (by decide), (n1 w).2 i hi, (e4 (w0 w)).2.2 i hi]⟩
      · exact vTd_of (n2 w) (cl 249 (by decide)) (e5 (w1 w)).2.1 (cl 248 (by decide)) (e5 (w1 w)).2.2
  by_cases w : y = 0
  · obtain ⟨s, hs', h18, hD, h323⟩ := u1 (w0 w)
    obtain ⟨ok, o, c⟩ := st0 w
    have ho := c.1.1.1
    have e4' := e4 (w0 w)
    exact ⟨rfl, y2, rfl, e1.trans ey.symm, vi, o, s, 0, aText K S N, bX (aText K S N), h, sl, cS0_of c (fun k a => cl k (by omega)), ⟨⟨⟨hs', h18⟩, zGood_v hv'.2 h18, hD, aText_wf (zAns_0 (w0 w)).1⟩, h323, ⟨by rw [e4'.1]; rfl, by decide, fun i hi => absurd hi (by omega)⟩, fun i hi q => absurd (e4'.2.2 i hi) q⟩, ok, fOk_bX ok, fun i hi => absurd hi (by omega), fun i hi q => absurd (e4'.2.2 i hi) q⟩
  · obtain ⟨u18, u323, uD⟩ := u2 (w1 w)
    obtain ⟨o, c⟩ := st1 w
    have ho := c.1.1.1
    obtain ⟨⟨⟨g1, g2⟩, -, g4, g5⟩, r2, ⟨r3, r4, r5⟩, r6⟩ := r1
    have e5' := e5 (w1 w)
    have h18 : (I' 292 18).toInt = v := by rw [u18]; exact g2
    have e325 : I' 325 = I 325 := hp.2.1 325 (by decide) (Or.inr (Or.inr (Or.inr ⟨by decide, by decide⟩)))
    have e335 : I' 335 = I 335 := hp.2.1 335 (by decide) (Or.inr (Or.inr (Or.inr ⟨by decide, by decide⟩)))
    exact ⟨rfl, y2, rfl, e1.trans ey.symm, vi, o, v, n, A, f, h, sl, cS0_of c (fun k a => cl k (by omega)), ⟨⟨⟨g1, h18⟩, zGood_v hv'.2 h18, uD v A g1 g2 g4, g5⟩, rEq_of r2 u323, ⟨by rw [e5'.1]; exact r3, r4, fun i hi k hk => by rw [e325]; exact r5 i hi k hk⟩, fun i hi q k hk => by rw [e5'.2.2] at q; rw [e335]; exact r6 i hi q k hk⟩, sOk_of k1 (fun i hi => by rw [e5'.2.2])⟩
theorem jA {N : qMn} {as : List Value} {P : Int32 → qMI → qML → qMR → Prop} (a : qCall l G 26 N as 336 I L R (fun r t I' L' R' => t = 336 ∧ ∃ y, r = some (.int y) ∧ P y I' L' R')) (b : qCall l G 26 N as 336 I L R (fun r t I' L' R' => t = 336 ∧ wS I' R')) (hP : ∀ y I' L' R', P y I' L' R' → vInv I' L' R') : qCall l G 26 N as 336 I L R (fun r t I' L' R' => t = 336 ∧ ∃ y, r = some (.int y) ∧ P y I' L' R' ∧ wS I' R') := by
  refine qCall_mono (qCall_and2 a b) ?_
  intro r t I' L' R' hq
  obtain ⟨⟨e, y, rfl, p⟩, r2, I2, L2, R2, ⟨e2, s⟩, er, sm, smR⟩ := hq
  subst e
  exact ⟨rfl, y, rfl, p, wS_sm s sm smR (hP _ _ _ _ p)⟩
theorem jB {N : qMn} {as : List Value} {y : Int32} (a : qCall l G 26 N as 336 I L R (fun r t I' L' R' => t = 336 ∧ ∃ y2, r = some (.int y2) ∧ y2 = y ∧ vI I' L' R')) (b : qCall l G 26 N as 336 I L R (fun r t I' L' R' => t = 336 ∧ wS I' R')) : qCall l G 26 N as 336 I L R (fun r t I' L' R' => t = 336 ∧ ∃ y2, r = some (.int y2) ∧ y2 = y ∧ wI I' L' R') := by
  refine qCall_mono (jA (P := fun y2 I' L' R' => y2 = y ∧ vI I' L' R') a b (fun _ _ _ _ p => p.2.1)) ?_
  intro r t I' L' R' hq
  obtain ⟨e, y2, e2, ⟨e3, p⟩, s⟩ := hq
  exact ⟨e, y2, e2, e3, p, s⟩
theorem jC_feed (hv : wI I L R) (x1 x2 x3 x4 x5 : Int32) : qCall l G 26 n_X8_feed [.ref 0, .int x1, .int x2, .int x3, .int x4, .int x5] 336 I L R (fun r t I' L' R' => t = 336 ∧ ∃ y, r = some (.int y) ∧ vMf x1 x2 x3 x4 x5 y I' L' R' ∧ wS I' R') := by
  refine jA (iC_feed hv.1 x1 x2 x3 x4 x5) ?_ (fun _ _ _ _ p => p.1)
  obtain ⟨A, hA, hm, hg, hk⟩ := vC hv.1.1
  obtain ⟨r1, r2, ⟨s1, s2⟩, -⟩ := zC1 hA hm
  refine qCall_mono (cFeed (d := 24) r1 r2 s1 s2) ?_
  intro r t I' L' R' hq
  obtain ⟨e, y, e1, eR, e2, hp, -⟩ := hq
  rw [eR]
  exact ⟨e, wS_of hv.2 (fun k a _ _ _ _ => hp.1 k (by omega) (by omega)) (by rw [hp.1 292 (by decide) (by decide)]) (by rw [hp.1 292 (by decide) (by decide)])⟩
theorem jM_feed {y : Int32} (x1 x2 x3 x4 x5 : Int32) (hv : vMf x1 x2 x3 x4 x5 y I L R ∧ wS I R) : qCall l G 26 n_X9_feed [.ref 292, .int x1, .int x2, .int x3, .int x4, .int x5] 336 I L R (fun r t I' L' R' => t = 336 ∧ ∃ y2, r = some (.int y2) ∧ y2 = y ∧ wI I' L' R') := by
  refine jB (iM_feed x1 x2 x3 x4 x5 hv.1) ?_
  obtain ⟨A, hA, hm, hg, hk⟩ := vM hv.1.1
  obtain ⟨⟨t1, t2⟩, -⟩ := vRi hA hm hg
  refine qCall_mono (eFeed (d := 24) (vRR hA hm) t1 t2) ?_
  intro r t I' L' R' hq
  obtain ⟨e, eR, y2, e1, e2, hp, -⟩ := hq
  rw [eR]
  exact ⟨e, wS_of hv.2 (fun k _ _ a b _ => hp.1 k a b) (hp.2 18 (by decide)) (hp.2 51 (by decide))⟩
theorem jC_back (hv : wI I L R) (x1 : Int32) : qCall l G 26 n_X8_back [.ref 0, .int x1] 336 I L R (fun r t I' L' R' => t = 336 ∧ ∃ y, r = some (.int y) ∧ vMb x1 y I' L' R' ∧ wS I' R') := by
  refine jA (iC_back hv.1 x1) ?_ (fun _ _ _ _ p => p.1)
  obtain ⟨A, hA, hm, hg, hk⟩ := vC hv.1.1
  obtain ⟨r1, r2, ⟨s1, s2⟩, -⟩ := zC1 hA hm
  refine qCall_mono (cBack (d := 24) r1) ?_
  intro r t I' L' R' hq
  obtain ⟨e, y, e1, eR, e2, hp, -⟩ := hq
  rw [eR]
  exact ⟨e, wS_of hv.2 (fun k a _ _ _ _ => hp.1 k (by omega) (by omega)) (by rw [hp.1 292 (by decide) (by decide)]) (by rw [hp.1 292 (by decide) (by decide)])⟩
theorem jM_back {y : Int32} (x1 : Int32) (hv : vMb x1 y I L R ∧ wS I R) : qCall l G 26 n_X9_back [.ref 292, .int x1] 336 I L R (fun r t I' L' R' => t = 336 ∧ ∃ y2, r = some (.int y2) ∧ y2 = y ∧ wI I' L' R') := by
  refine jB (iM_back x1 hv.1) ?_
  obtain ⟨A, hA, hm, hg, hk⟩ := vM hv.1.1
  obtain ⟨⟨t1, t2⟩, -⟩ := vRi hA hm hg
  refine qCall_mono (eBack (d := 25) t1 t2) ?_
  intro r t I' L' R' hq
  obtain ⟨e, eR, y2, e1, e2, hp, -⟩ := hq
  rw [eR]
  exact ⟨e, wS_of hv.2 (fun k _ _ a b _ => hp.1 k a b) (hp.2 18 (by decide)) (hp.2 51 (by decide))⟩
def kMp (y : Int32) (I : qMI) (L : qML) (R : qMR) : Prop := wI I L R ∧ y = I 0 13
theorem jC_place (hv : wI I L R) : qCall l G 26 n_X8_place [.ref 0] 336 I L R (fun r t I' L' R' => t = 336 ∧ ∃ y, r = some (.int y) ∧ kMp y I' L' R') := wkC_of (d := 26) 0 (by decide) (Nat.le_of_ble_eq_true rfl) (w_X8_place_0 (d := 25) ⟨rfl, _, rfl, hv, rfl⟩)
theorem jM_place {y : Int32} (hv : kMp y I L R) : qCall l G 26 n_X9_place [.ref 292] 336 I L R (fun r t I' L' R' => t = 336 ∧ ∃ y2, r = some (.int y2) ∧ y2 = y ∧ wI I' L' R') := wkC_of (d := 26) 0 (by decide) (Nat.le_of_ble_eq_true rfl) (w_X9_place_0 (d := 25) ⟨rfl, _, rfl, by rw [hv.2]; exact hv.1.1.2.2.2.2.1.symm, hv.1⟩)
theorem jC_tell (hv : wI I L R) (x1 x2 x3 : Int32) : qCall l G 26 n_X8_tell [.ref 0, .int x1, .int x2, .int x3] 336 I L R (fun r t I' L' R' => t = 336 ∧ ∃ y, r = some (.int y) ∧ vMt x1 x2 x3 y I' L' R' ∧ wS I' R') := by
  refine jA (iC_tell hv.1 x1 x2 x3) ?_ (fun _ _ _ _ p => p.1)
  obtain ⟨A, hA, ⟨r1, r2, r3, r4, r5⟩, hm, hg, hk⟩ := vTl hv.1.1
  obtain ⟨⟨b1, b2⟩, b3, b4⟩ := zTd_b hA hm
  refine qCall_mono (cTellT (d := 24) r1 r2 r3 r4 r5 b1) ?_
  intro r t I' L' R' hq
  obtain ⟨e, y, e1, eR, e2, hp, -⟩ := hq
  rw [eR]
  exact ⟨e, wS_of hv.2 (fun k a b _ _ _ => hp.1 k (by omega) (by omega) (by omega) (by omega)) (by rw [hp.1 292 (by decide) (by decide) (by decide) (by decide)]) (by rw [hp.1 292 (by decide) (by decide) (by decide) (by decide)])⟩
theorem jM_tell {y : Int32} (x1 x2 x3 : Int32) (hv : vMt x1 x2 x3 y I L R ∧ wS I R) : qCall l G 26 n_X9_tell [.ref 292, .int x1, .int x2, .int x3] 336 I L R (fun r t I' L' R' => t = 336 ∧ ∃ y2, r = some (.int y2) ∧ y2 = y ∧ wI I' L' R') := by
  refine jB (iM_tell x1 x2 x3 hv.1) ?_
  obtain ⟨A2, hA2, hm2, -, -⟩ := vM hv.1.1
  obtain ⟨A, hA, -, hm, hg, hk⟩ := vTl hv.1.1
  obtain ⟨⟨b1, b2⟩, b3, b4⟩ := zTd_b hA hm
  refine qCall_mono (eTellT (d := 23) (vRR hA2 hm2) b3 b4) ?_
  intro r t I' L' R' hq
  obtain ⟨e, eR, y2, e1, e2, hp, -⟩ := hq
  rw [eR]
  exact ⟨e, wS_of hv.2 (fun k _ _ a _ b => hp.1 k a (by omega) (by omega) (by omega)) (hp.2 18 (by decide)) (hp.2 51 (by decide))⟩
theorem jC_forget (hv : wI I L R) : qCall l G 26 n_X8_forget [.ref 0] 336 I L R (fun r t I' L' R' => t = 336 ∧ ∃ y, r = some (.int y) ∧ vMg y I' L' R' ∧ wS I' R') := by
  refine jA (iC_forget hv.1) ?_ (fun _ _ _ _ p => p.1)
  obtain ⟨A, hA, ⟨r1, r2, r3, r4, r5⟩, hm, hg, hk⟩ := vTl hv.1.1
  refine qCall_mono (cForT (d := 25) r1) ?_
  intro r t I' L' R' hq
  obtain ⟨e, y, e1, eR, e2, hp, -⟩ := hq
  rw [eR]
  exact ⟨e, wS_of hv.2 (fun k a b _ _ _ => hp.1 k (by omega) (by omega) (by omega) (by omega)) (by rw [hp.1 292 (by decide) (by decide) (by decide) (by decide)]) (by rw [hp.1 292 (by decide) (by decide) (by decide) (by decide)])⟩
theorem jM_forget {y : Int32} (hv : vMg y I L R ∧ wS I R) : qCall l G 26 n_X9_forget [.ref 292] 336 I L R (fun r t I' L' R' => t = 336 ∧ ∃ y2, r = some (.int y2) ∧ y2 = y ∧ wI I' L' R') := by
  refine jB (iM_forget hv.1) ?_
  refine qCall_mono (eForT (d := 25)) ?_
  intro r t I' L' R' hq
  obtain ⟨e, eR, y2, e1, e2, hp, -⟩ := hq
  rw [eR]
  exact ⟨e, wS_of hv.2 (fun k _ _ a _ b => hp.1 k a (by omega) (by omega) (by omega)) (hp.2 18 (by decide)) (hp.2 51 (by decide))⟩
theorem jC_thing (hv : wI I L R) (x1 x2 : Int32) : qCall l G 26 n_X8_thing [.ref 0, .int x1, .int x2] 336 I L R (fun r t I' L' R' => t = 336 ∧ ∃ y, r = some (.int y) ∧ kM (fun A f => (qThing A f x1 x2, none)) y I' L' R') := jC_ex (q := fun A f => qThing A f x1 x2) hv (fun _ _ _ _ _ _ s => sThing (d := 20) s)
theorem jM_thing {y : Int32} (x1 x2 : Int32) (hv : kM (fun A f => (qThing A f x1 x2, none)) y I L R) : qCall l G 26 n_X9_thing [.ref 292, .int x1, .int x2] 336 I L R (fun r t I' L' R' => t = 336 ∧ ∃ y2, r = some (.int y2) ∧ y2 = y ∧ wI I' L' R') := jM_ex (q := fun A f => qThing A f x1 x2) hv (fun _ _ _ _ _ _ s a b => uThing2 (d := 19) (vWR hv.1.1) s a b)
theorem jC_seat (hv : wI I L R) (x1 x2 : Int32) : qCall l G 26 n_X8_seat [.ref 0, .int x1, .int x2] 336 I L R (fun r t I' L' R' => t = 336 ∧ ∃ y, r = some (.int y) ∧ kM (fun A f => (qSeat A f x1 x2, none)) y I' L' R') := jC_ex (q := fun A f => qSeat A f x1 x2) hv (fun _ _ _ _ _ _ s => sSeat (d := 19) s)
theorem jM_seat {y : Int32} (x1 x2 : Int32) (hv : kM (fun A f => (qSeat A f x1 x2, none)) y I L R) : qCall l G 26 n_X9_seat [.ref 292, .int x1, .int x2] 336 I L R (fun r t I' L' R' => t = 336 ∧ ∃ y2, r = some (.int y2) ∧ y2 = y ∧ wI I' L' R') := jM_ex (q := fun A f => qSeat A f x1 x2) hv (fun _ _ _ _ _ _ s a b => uSeat2 (d := 18) (vWR hv.1.1) s a b)
theorem jC_loan (hv : wI I L R) (x1 x2 x3 : Int32) : qCall l G 26 n_X8_loan [.ref 0, .int x1, .int x2, .int x3] 336 I L R (fun r t I' L' R' => t = 336 ∧ ∃ y, r = some (.int y) ∧ kM (fun A f => (qLoan A f x1 x2 x3, none)) y I' L' R') := jC_ex (q := fun A f => qLoan A f x1 x2 x3) hv (fun _ _ _ _ _ _ s => sLoan (d := 23) s)
theorem jM_loan {y : Int32} (x1 x2 x3 : Int32) (hv : kM (fun A f => (qLoan A f x1 x2 x3, none)) y I L R) : qCall l G 26 n_X9_loan [.ref 292, .int x1, .int x2, .int x3] 336 I L R (fun r t I' L' R' => t = 336 ∧ ∃ y2, r = some (.int y2) ∧ y2 = y ∧ wI I' L' R') := jM_ex (q := fun A f => qLoan A f x1 x2 x3) hv (fun _ _ _ _ _ _ s a b => uLoan2 (d := 23) (vWR hv.1.1) s a b)
theorem jC_tells (hv : wI I L R) (x1 x2 x3 x4 : Int32) : qCall l G 26 n_X8_tells [.ref 0, .int x1, .int x2, .int x3, .int x4] 336 I L R (fun r t I' L' R' => t = 336 ∧ ∃ y, r = some (.int y) ∧ kM (fun A f => (qTells A f x1 x2 x3 x4, none)) y I' L' R') := jC_ex (q := fun A f => qTells A f x1 x2 x3 x4) hv (fun _ _ _ _ _ _ s => sTells (d := 21) s)
theorem jM_tells {y : Int32} (x1 x2 x3 x4 : Int32) (hv : kM (fun A f => (qTells A f x1 x2 x3 x4, none)) y I L R) : qCall l G 26 n_X9_tells [.ref 292, .int x1, .int x2, .int x3, .int x4] 336 I L R (fun r t I' L' R' => t = 336 ∧ ∃ y2, r = some (.int y2) ∧ y2 = y ∧ wI I' L' R') := jM_ex (q := fun A f => qTells A f x1 x2 x3 x4) hv (fun _ _ _ _ _ _ s a b => uTells2 (d := 20) (vWR hv.1.1) s a b)
theorem jC_lend (hv : wI I L R) (x1 x2 x3 : Int32) : qCall l G 26 n_X8_lend [.ref 0, .int x1, .int x2, .int x3] 336 I L R (fun r t I' L' R' => t = 336 ∧ ∃ y, r = some (.int y) ∧ kM (fun A f => pLend A f x1 x2 x3) y I' L' R') := jC_gen (p := fun A f => pLend A f x1 x2 x3) hv (fun _ _ _ _ _ _ s => sLend (d := 20) s)
theorem jM_lend {y : Int32} (x1 x2 x3 : Int32) (hv : kM (fun A f => pLend A f x1 x2 x3) y I L R) : qCall l G 26 n_X9_lend [.ref 292, .int x1, .int x2, .int x3] 336 I L R (fun r t I' L' R' => t = 336 ∧ ∃ y2, r = some (.int y2) ∧ y2 = y ∧ wI I' L' R') := jM_gen (p := fun A f => pLend A f x1 x2 x3) hv (fun _ _ _ _ _ _ s a b => uLend (d := 16) (vWR hv.1.1) s a b) (fun _ _ a b => pLend_ok a b)
theorem jC_call (hv : wI I L R) (x1 x2 : Int32) : qCall l G 26 n_X8_call [.ref 0, .int x1, .int x2] 336 I L R (fun r t I' L' R' => t = 336 ∧ ∃ y, r = some (.int y) ∧ kM (fun A f => pCall A f x1 x2) y I' L' R') := jC_gen (p := fun A f => pCall A f x1 x2) hv (fun _ _ _ _ _ _ s => sCall (d := 20) s)
theorem jM_call {y : Int32} (x1 x2 : Int32) (hv : kM (fun A f => pCall A f x1 x2) y I L R) : qCall l G 26 n_X9_call [.ref 292, .int x1, .int x2] 336 I L R (fun r t I' L' R' => t = 336 ∧ ∃ y2, r = some (.int y2) ∧ y2 = y ∧ wI I' L' R') := jM_gen (p := fun A f => pCall A f x1 x2) hv (fun _ _ _ _ _ _ s a b => uCall (d := 16) (vWR hv.1.1) s a b) (fun _ _ a b => pCall_ok a b)
theorem jC_move (hv : wI I L R) (x1 x2 : Int32) : qCall l G 26 n_X8_move [.ref 0, .int x1, .int x2] 336 I L R (fun r t I' L' R' => t = 336 ∧ ∃ y, r = some (.int y) ∧ kM (fun A f => pMove A f x1 x2) y I' L' R') := jC_gen (p := fun A f => pMove A f x1 x2) hv (fun _ _ _ _ _ _ s => sMove (d := 20) s)
theorem jM_move {y : Int32} (x1 x2 : Int32) (hv : kM (fun A f => pMove A f x1 x2) y I L R) : qCall l G 26 n_X9_move [.ref 292, .int x1, .int x2] 336 I L R (fun r t I' L' R' => t = 336 ∧ ∃ y2, r = some (.int y2) ∧ y2 = y ∧ wI I' L' R') := jM_gen (p := fun A f => pMove A f x1 x2) hv (fun _ _ _ _ _ _ s a _ => uMove (d := 16) (vWR hv.1.1) s a) (fun _ _ a b => pMove_ok a b)
theorem jC_hours (hv : wI I L R) (x1 : Int32) : qCall l G 26 n_X8_hours [.ref 0, .int x1] 336 I L R (fun r t I' L' R' => t = 336 ∧ ∃ y, r = some (.int y) ∧ kM (fun A f => pHours A f x1) y I' L' R') := jC_gen (p := fun A f => pHours A f x1) hv (fun _ _ _ _ _ _ s => sHours (d := 20) s)
theorem jM_hours {y : Int32} (x1 : Int32) (hv : kM (fun A f => pHours A f x1) y I L R) : qCall l G 26 n_X9_hours [.ref 292, .int x1] 336 I L R (fun r t I' L' R' => t = 336 ∧ ∃ y2, r = some (.int y2) ∧ y2 = y ∧ wI I' L' R') := jM_gen (p := fun A f => pHours A f x1) hv (fun _ _ _ _ _ _ s a b => uHours (d := 16) (vWR hv.1.1) s a b) (fun _ _ a b => pHours_ok a b)
theorem jC_sight (hv : wI I L R) (x1 x2 x3 : Int32) : qCall l G 26 n_X8_sight [.ref 0, .int x1, .int x2, .int x3] 336 I L R (fun r t I' L' R' => t = 336 ∧ ∃ y, r = some (.int y) ∧ kM (fun A f => (qSight A f x1 x2 x3, none)) y I' L' R') := jC_ex (q := fun A f => qSight A f x1 x2 x3) hv (fun _ _ _ _ _ _ s => sSight (d := 20) s)
theorem jM_sight {y : Int32} (x1 x2 x3 : Int32) (hv : kM (fun A f => (qSight A f x1 x2 x3, none)) y I L R) : qCall l G 26 n_X9_sight [.ref 292, .int x1, .int x2, .int x3] 336 I L R (fun r t I' L' R' => t = 336 ∧ ∃ y2, r = some (.int y2) ∧ y2 = y ∧ wI I' L' R') := jM_ex (q := fun A f => qSight A f x1 x2 x3) hv (fun _ _ _ _ _ _ s a b => uSight2 (d := 18) (vWR hv.1.1) s a b)
theorem jC_clash (hv : wI I L R) (x1 : Int32) : qCall l G 26 n_X8_clash [.ref 0, .int x1] 336 I L R (fun r t I' L' R' => t = 336 ∧ ∃ y, r = some (.int y) ∧ kM (fun A f => (qClash A f x1, none)) y I' L' R') := jC_ex (q := fun A f => qClash A f x1) hv (fun _ _ _ _ _ _ s => sClash (d := 19) s (vR9 hv.1.1).2.1)
theorem jM_clash {y : Int32} (x1 : Int32) (hv : kM (fun A f => (qClash A f x1, none)) y I L R) : qCall l G 26 n_X9_clash [.ref 292, .int x1] 336 I L R (fun r t I' L' R' => t = 336 ∧ ∃ y2, r = some (.int y2) ∧ y2 = y ∧ wI I' L' R') := jM_ex (q := fun A f => qClash A f x1) hv (fun _ _ _ _ _ _ s a b => uClash (d := 17) (vWR hv.1.1) s a b)
theorem jC_longFrom (hv : wI I L R) (x1 x2 x3 : Int32) : qCall l G 26 n_X8_longFrom [.ref 0, .int x1, .int x2, .int x3] 336 I L R wIQ := jC_fr hv (fun _ _ _ _ _ _ s => wkCi.mono (sLong (d := 21) s) (fun _ _ _ _ hq => ⟨hq.1, hq.2.1, hq.2.2.2⟩))
theorem jM_longFrom (hv : wI I L R) (x1 x2 x3 : Int32) : qCall l G 26 n_X9_longFrom [.ref 292, .int x1, .int x2, .int x3] 336 I L R wIQ := jM_fr hv (fun _ _ _ _ _ _ s a b => wkI.mono (uLong (d := 18) (vWR hv.1.1) s a b) (fun _ _ _ hq => ⟨hq.1, hq.2.2.1, hq.2.2.2⟩))
theorem jC_best (hv : wI I L R) (x1 x2 x3 : Int32) : qCall l G 26 n_X8_best [.ref 0, .int x1, .int x2, .int x3] 336 I L R wIQ := jC_fr hv (fun _ _ _ _ _ _ s => wkCi.mono (sBest (d := 20) s (vR9 hv.1.1).1) (fun _ _ _ _ hq => ⟨hq.1, hq.2.1, hq.2.2.2⟩))
theorem jM_best (hv : wI I L R) (x1 x2 x3 : Int32) : qCall l G 26 n_X9_best [.ref 292, .int x1, .int x2, .int x3] 336 I L R wIQ := jM_fr hv (fun _ _ _ _ _ _ s a b => wkI.mono (uBest (d := 18) (vWR hv.1.1) s a b) (fun _ _ _ hq => ⟨hq.1, hq.2.2.1, hq.2.2.2⟩))
theorem jC_dawns (hv : wI I L R) (x1 x2 : Int32) : qCall l G 26 n_X8_dawns [.ref 0, .int x1, .int x2] 336 I L R (fun r t I' L' R' => t = 336 ∧ ∃ y, r = some (.int y) ∧ kM (fun A f => (qDawns A f x1 x2, none)) y I' L' R') := jC_ex (q := fun A f => qDawns A f x1 x2) hv (fun _ _ _ _ _ _ s => sDawns (d := 21) s)
theorem jM_dawns {y : Int32} (x1 x2 : Int32) (hv : kM (fun A f => (qDawns A f x1 x2, none)) y I L R) : qCall l G 26 n_X9_dawns [.ref 292, .int x1, .int x2] 336 I L R (fun r t I' L' R' => t = 336 ∧ ∃ y2, r = some (.int y2) ∧ y2 = y ∧ wI I' L' R') := jM_ex (q := fun A f => qDawns A f x1 x2) hv (fun _ _ _ _ _ _ s a b => uDawns (d := 19) (vWR hv.1.1) s a b)
theorem jC_near (hv : wI I L R) (x1 x2 : Int32) : qCall l G 26 n_X8_near [.ref 0, .int x1, .int x2] 336 I L R (fun r t I' L' R' => t = 336 ∧ ∃ y, r = some (.int y) ∧ kM (fun A f => (qNear A f x1 x2, none)) y I' L' R') := jC_ex (q := fun A f => qNear A f x1 x2) hv (fun _ _ _ _ _ _ s => sNear (d := 20) s)
theorem jM_near {y : Int32} (x1 x2 : Int32) (hv : kM (fun A f => (qNear A f x1 x2, none)) y I L R) : qCall l G 26 n_X9_near [.ref 292, .int x1, .int x2] 336 I L R (fun r t I' L' R' => t = 336 ∧ ∃ y2, r = some (.int y2) ∧ y2 = y ∧ wI I' L' R') := jM_ex (q := fun A f => qNear A f x1 x2) hv (fun _ _ _ _ _ _ s a b => uNear (d := 18) (vWR hv.1.1) s a b)
theorem jC_crowd (hv : wI I L R) (x1 : Int32) : qCall l G 26 n_X8_crowd [.ref 0, .int x1] 336 I L R (fun r t I' L' R' => t = 336 ∧ ∃ y, r = some (.int y) ∧ kM (fun A f => (qCrowd A f x1, none)) y I' L' R') := jC_ex (q := fun A f => qCrowd A f x1) hv (fun _ _ _ _ _ _ s => sCrowd (d := 20) s)
theorem jM_crowd {y : Int32} (x1 : Int32) (hv : kM (fun A f => (qCrowd A f x1, none)) y I L R) : qCall l G 26 n_X9_crowd [.ref 292, .int x1] 336 I L R (fun r t I' L' R' => t = 336 ∧ ∃ y2, r = some (.int y2) ∧ y2 = y ∧ wI I' L' R') := jM_ex (q := fun A f => qCrowd A f x1) hv (fun _ _ _ _ _ _ s a b => uCrowd (d := 18) (vWR hv.1.1) s a b)
theorem jC_rich (hv : wI I L R) (x1 x2 : Int32) : qCall l G 26 n_X8_rich [.ref 0, .int x1, .int x2] 336 I L R (fun r t I' L' R' => t = 336 ∧ ∃ y, r = some (.int y) ∧ kM (fun A f => (qRich A f x1 x2, none)) y I' L' R') := jC_ex (q := fun A f => qRich A f x1 x2) hv (fun _ _ _ _ _ _ s => sRich (d := 19) s)
theorem jM_rich {y : Int32} (x1 x2 : Int32) (hv : kM (fun A f => (qRich A f x1 x2, none)) y I L R) : qCall l G 26 n_X9_rich [.ref 292, .int x1, .int x2] 336 I L R (fun r t I' L' R' => t = 336 ∧ ∃ y2, r = some (.int y2) ∧ y2 = y ∧ wI I' L' R') := jM_ex (q := fun A f => qRich A f x1 x2) hv (fun _ _ _ _ _ _ s a b => uRich (d := 16) (vWR hv.1.1) s a b)
theorem jC_umbrellas (hv : wI I L R) (x1 x2 : Int32) : qCall l G 26 n_X8_umbrellas [.ref 0, .int x1, .int x2] 336 I L R (fun r t I' L' R' => t = 336 ∧ ∃ y, r = some (.int y) ∧ kM (fun A f => (qUmb A f x1 x2, none)) y I' L' R') := jC_ex (q := fun A f => qUmb A f x1 x2) hv (fun _ _ _ _ _ _ s => sUmb (d := 18) s (vR9 hv.1.1).1 (vR9 hv.1.1).2.2.1 (vR9 hv.1.1).2.2.2)
theorem jM_umbrellas {y : Int32} (x1 x2 : Int32) (hv : kM (fun A f => (qUmb A f x1 x2, none)) y I L R) : qCall l G 26 n_X9_umbrellas [.ref 292, .int x1, .int x2] 336 I L R (fun r t I' L' R' => t = 336 ∧ ∃ y2, r = some (.int y2) ∧ y2 = y ∧ wI I' L' R') := jM_ex (q := fun A f => qUmb A f x1 x2) hv (fun _ _ _ _ _ _ s a b => uUmb (d := 18) (vWR hv.1.1) s a b)
theorem jC_worth (hv : wI I L R) (x1 x2 x3 x4 : Int32) : qCall l G 26 n_X8_worth [.ref 0, .int x1, .int x2, .int x3, .int x4] 336 I L R (fun r t I' L' R' => t = 336 ∧ ∃ y, r = some (.int y) ∧ kM (fun A f => (qWorth A f x1 x2 x3 x4, none)) y I' L' R') := jC_ex (q := fun A f => qWorth A f x1 x2 x3 x4) hv (fun _ _ _ _ _ _ s => sWorth (d := 20) s)
theorem jM_worth {y : Int32} (x1 x2 x3 x4 : Int32) (hv : kM (fun A f => (qWorth A f x1 x2 x3 x4, none)) y I L R) : qCall l G 26 n_X9_worth [.ref 292, .int x1, .int x2, .int x3, .int x4] 336 I L R (fun r t I' L' R' => t = 336 ∧ ∃ y2, r = some (.int y2) ∧ y2 = y ∧ wI I' L' R') := jM_ex (q := fun A f => qWorth A f x1 x2 x3 x4) hv (fun _ _ _ _ _ _ s a b => uWorth (d := 18) (vWR hv.1.1) s a b)
theorem jC_book (hv : wI I L R) (x1 x2 : Int32) : qCall l G 26 n_X8_book [.ref 0, .int x1, .int x2] 336 I L R (fun r t I' L' R' => t = 336 ∧ ∃ y, r = some (.int y) ∧ kM (fun A f => (qBook A f x1 x2, none)) y I' L' R') := jC_ex (q := fun A f => qBook A f x1 x2) hv (fun _ _ _ _ _ _ s => sBook (d := 19) s)
theorem jM_book {y : Int32} (x1 x2 : Int32) (hv : kM (fun A f => (qBook A f x1 x2, none)) y I L R) : qCall l G 26 n_X9_book [.ref 292, .int x1, .int x2] 336 I L R (fun r t I' L' R' => t = 336 ∧ ∃ y2, r = some (.int y2) ∧ y2 = y ∧ wI I' L' R') := jM_ex (q := fun A f => qBook A f x1 x2) hv (fun _ _ _ _ _ _ s a b => uBook (d := 16) (vWR hv.1.1) s a b)
theorem jC_hidden (hv : wI I L R) (x1 x2 x3 : Int32) : qCall l G 26 n_X8_hidden [.ref 0, .int x1, .int x2, .int x3] 336 I L R (fun r t I' L' R' => t = 336 ∧ ∃ y, r = some (.int y) ∧ kM (fun A f => (qHid A f x1 x2 x3, none)) y I' L' R') := jC_ex (q := fun A f => qHid A f x1 x2 x3) hv (fun _ _ _ _ _ _ s => sHid (d := 20) s)
theorem jM_hidden {y : Int32} (x1 x2 x3 : Int32) (hv : kM (fun A f => (qHid A f x1 x2 x3, none)) y I L R) : qCall l G 26 n_X9_hidden [.ref 292, .int x1, .int x2, .int x3] 336 I L R (fun r t I' L' R' => t = 336 ∧ ∃ y2, r = some (.int y2) ∧ y2 = y ∧ wI I' L' R') := jM_ex (q := fun A f => qHid A f x1 x2 x3) hv (fun _ _ _ _ _ _ s a b => uHid (d := 19) (vWR hv.1.1) s a b)
theorem jC_cool (hv : wI I L R) : qCall l G 26 n_X8_cool [.ref 0] 336 I L R (fun r t I' L' R' => t = 336 ∧ ∃ y, r = some (.int y) ∧ kM (fun A f => (qCool A f, none)) y I' L' R') := jC_ex (q := fun A f => qCool A f) hv (fun _ _ _ _ _ _ s => sCool (d := 19) s)
theorem jM_cool {y : Int32} (hv : kM (fun A f => (qCool A f, none)) y I L R) : qCall l G 26 n_X9_cool [.ref 292] 336 I L R (fun r t I' L' R' => t = 336 ∧ ∃ y2, r = some (.int y2) ∧ y2 = y ∧ wI I' L' R') := jM_ex (q := fun A f => qCool A f) hv (fun _ _ _ _ _ _ s a b => uCool (d := 19) (vWR hv.1.1) s a b)
theorem jC_heatIn (hv : wI I L R) (x1 : Int32) : qCall l G 26 n_X8_heatIn [.ref 0, .int x1] 336 I L R (fun r t I' L' R' => t = 336 ∧ ∃ y, r = some (.int y) ∧ kM (fun A f => (qHeatIn A f x1, none)) y I' L' R') := jC_ex (q := fun A f => qHeatIn A f x1) hv (fun _ _ _ _ _ _ s => sHeatIn (d := 21) s)
theorem jM_heatIn {y : Int32} (x1 : Int32) (hv : kM (fun A f => (qHeatIn A f x1, none)) y I L R) : qCall l G 26 n_X9_heatIn [.ref 292, .int x1] 336 I L R (fun r t I' L' R' => t = 336 ∧ ∃ y2, r = some (.int y2) ∧ y2 = y ∧ wI I' L' R') := jM_ex (q := fun A f => qHeatIn A f x1) hv (fun _ _ _ _ _ _ s a b => uHeatIn (d := 22) (vWR hv.1.1) s a b)
theorem jC_lentIn (hv : wI I L R) (x1 x2 x3 : Int32) : qCall l G 26 n_X8_lentIn [.ref 0, .int x1, .int x2, .int x3] 336 I L R (fun r t I' L' R' => t = 336 ∧ ∃ y, r = some (.int y) ∧ kM (fun A f => (qLentIn A f x1 x2 x3, none)) y I' L' R') := jC_ex (q := fun A f => qLentIn A f x1 x2 x3) hv (fun _ _ _ _ _ _ s => sLentIn (d := 20) s)
theorem jM_lentIn {y : Int32} (x1 x2 x3 : Int32) (hv : kM (fun A f => (qLentIn A f x1 x2 x3, none)) y I L R) : qCall l G 26 n_X9_lentIn [.ref 292, .int x1, .int x2, .int x3] 336 I L R (fun r t I' L' R' => t = 336 ∧ ∃ y2, r = some (.int y2) ∧ y2 = y ∧ wI I' L' R') := jM_ex (q := fun A f => qLentIn A f x1 x2 x3) hv (fun _ _ _ _ _ _ s a b => uLentIn (d := 16) (vWR hv.1.1) s a b)
theorem jC_year (hv : wI I L R) (x1 x2 x3 x4 : Int32) : qCall l G 26 n_X8_year [.ref 0, .int x1, .int x2, .int x3, .int x4] 336 I L R (fun r t I' L' R' => t = 336 ∧ ∃ y, r = some (.int y) ∧ kM (fun A f => (qYear A f x1 x2 x3 x4, none)) y I' L' R') := jC_ex (q := fun A f => qYear A f x1 x2 x3 x4) hv (fun _ _ _ _ _ _ s => sYear (d := 20) s)
theorem jM_year {y : Int32} (x1 x2 x3 x4 : Int32) (hv : kM (fun A f => (qYear A f x1 x2 x3 x4, none)) y I L R) : qCall l G 26 n_X9_year [.ref 292, .int x1, .int x2, .int x3, .int x4] 336 I L R (fun r t I' L' R' => t = 336 ∧ ∃ y2, r = some (.int y2) ∧ y2 = y ∧ wI I' L' R') := jM_ex (q := fun A f => qYear A f x1 x2 x3 x4) hv (fun _ _ _ _ _ _ s a b => uYear (d := 16) (vWR hv.1.1) s a b)
theorem jC_stands (hv : wI I L R) (x1 : Int32) : qCall l G 26 n_X8_stands [.ref 0, .int x1] 336 I L R wIQ := jC_fr hv (fun _ _ _ _ _ _ s => sStands (d := 19) s (vTq hv.1.1).1 (vTq hv.1.1).2.1 (vTq hv.1.1).2.2.1)
theorem jM_stands (hv : wI I L R) (x1 : Int32) : qCall l G 26 n_X9_stands [.ref 292, .int x1] 336 I L R wIQ := jM_fr hv (fun _ _ _ _ _ _ s a b => uStands (d := 18) (vWR hv.1.1) s (vTq hv.1.1).2.2.2)
theorem jC_sure (hv : wI I L R) (x1 x2 : Int32) : qCall l G 26 n_X8_sure [.ref 0, .int x1, .int x2] 336 I L R wIQ := jC_fr hv (fun _ _ _ _ _ _ s => sSure (d := 19) s (vTq hv.1.1).1 (vTq hv.1.1).2.1 (vTq hv.1.1).2.2.1)
theorem jM_sure (hv : wI I L R) (x1 x2 : Int32) : qCall l G 26 n_X9_sure [.ref 292, .int x1, .int x2] 336 I L R wIQ := jM_fr hv (fun _ _ _ _ _ _ s a b => uSure (d := 18) (vWR hv.1.1) s (vTq hv.1.1).2.2.2)
theorem jC_look (hv : wI I L R) (x1 x2 : Int32) : qCall l G 26 n_X8_look [.ref 0, .int x1, .int x2] 336 I L R wIQ := jC_fr hv (fun _ _ _ _ _ _ s => sLook (d := 19) s (vTq hv.1.1).1 (vTq hv.1.1).2.1 (vTq hv.1.1).2.2.1)
theorem jM_look (hv : wI I L R) (x1 x2 : Int32) : qCall l G 26 n_X9_look [.ref 292, .int x1, .int x2] 336 I L R wIQ := jM_fr hv (fun _ _ _ _ _ _ s a b => uLook (d := 18) (vWR hv.1.1) s (vTq hv.1.1).2.2.2)
end
