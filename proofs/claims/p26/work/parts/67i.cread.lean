/-! ===== the class's read ===== -/
theorem vRef {gh : zGh} {t : Nat} {A : zAm} {I : qMI} {L : qML} {R : qMR} {k j v : Nat} (hm : zM gh t A I L R) (h1 : Nat.ble (ztag (zcell A k)) 14 = true) (h2 : zkd (ztag (zcell A k)) j = 2) (h3 : zdr (zraw (zcell A k) j) = some v) : R k j = some v := by
  have := Nat.le_of_ble_eq_true h1
  obtain ⟨-, -, -, g4⟩ := hm.1.1 k (by omega)
  rw [(g4 j).2.2 h2, h3]
theorem qAb_mono {l : Launch} {G : qG} {d : Nat} {M : qMn} {Q Q' : qQ} {pc : Nat} {lv : qLv} {st : List Value} {ce sl t : Nat} {I : qMI} {L : qML} {R : qMR} (h : qAb l G d M Q pc lv st ce sl t I L R) (k : ∀ r t' I' L' R', Q r t' I' L' R' → Q' r t' I' L' R') : qAb l G d M Q' pc lv st ce sl t I L R := by
  intro p e s m args below meth c C H locs ls hz hP hS hl T hT X
  obtain ⟨t, a, o, b1, b2, ⟨⟨r, t', I', L', R', e1, e2, e3⟩, hF⟩, hL⟩ := h p e s m args below meth c C H locs ls hz hP hS hl T hT X
  exact ⟨t, a, o, b1, b2, ⟨⟨r, t', I', L', R', e1, k _ _ _ _ _ e2, e3⟩, hF⟩, hL⟩
theorem pSpec_of {w : Nat → Int64} {c : Nat → Int32} {n : Nat} {K S : Nat → Int32} {N : Nat → Int64} (h : ∀ j, j < 401 → K j = pKd w c n (pSt c n j) ∧ (S j).toInt = pSt c n j ∧ (pSt c n j < n → (pLe (c (pSt c n j)) = true ∨ pDi (c (pSt c n j)) = true) → N j = pVl c n (pSt c n j))) : pSpec w c n K S N := by
  intro j hj
  obtain ⟨h1, h2, h3⟩ := h j hj
  refine ⟨h1, h2, fun hk => ?_⟩
  rw [h1] at hk
  have hlt : pSt c n j < n := by
    by_cases q : n ≤ pSt c n j
    · rw [pKd_end q] at hk
      exact absurd hk (by decide)
    · omega
  refine h3 hlt ?_
  by_cases a : pLe (c (pSt c n j)) = true
  · exact Or.inl a
  by_cases b : pDi (c (pSt c n j)) = true
  · exact Or.inr b
  exfalso
  unfold pKd at hk
  rw [if_neg (show ¬ n ≤ pSt c n j by omega), if_neg a, if_neg b] at hk
  by_cases g : pSg (c (pSt c n j)) = true
  · rw [if_pos g] at hk
    have g := of_decide_eq_true g
    rcases g with e | e | e | e | e | e | e | e | e <;> rw [e] at hk <;> exact absurd hk (by decide)
  · rw [if_neg g] at hk
    exact absurd hk (by decide)
theorem zPlc_0 {z : pZ} (h : zAns z = 0) : zPlc z = -1 := by
  unfold zAns at h
  unfold zPlc
  by_cases q : pf z = 0
  · rw [if_pos q] at h ⊢
    rw [if_pos h]
  · rw [if_neg q] at h
    exact absurd h q
def cRdP (I : qMI) (L : qML) (r : Option Value) (I' : qMI) (L' : qML) (R' : qMR) : Prop := ∃ y, r = some (.int y) ∧ vInv I' L' R' ∧ ∃ (K S : Nat → Int32) (N : Nat → Int64), pSpec (L 5) (cBy I) (cSz I) K S N ∧ y = zAns (zText K S N) ∧ I' 0 13 = zPlc (zText K S N) ∧ I' 1 1 = 0 ∧ I' 2 = I 2 ∧ L' 5 = L 5 ∧ (∀ k, 292 ≤ k → k < 336 → I' k = I k ∧ L' k = L k) ∧ (zAns (zText K S N) = 0 → I' 249 0 = 0) ∧ (zAns (zText K S N) ≠ 0 → I' 249 = I 249) ∧ (zAns (zText K S N) = 0 → ∀ i, i < 3 → I' 248 i = 0) ∧ (zAns (zText K S N) ≠ 0 → I' 248 = I 248)
def zRU : List Nat := 1 :: 2 :: 5 :: List.range' 292 44
def z18 : Nat := 27670116106269360242
def zmT : Nat := 37662610406474078034711971967035618231138265851374962999404
noncomputable def kRd : zKr := fun r t A => bif kV r t (zput A 248 z18) then (bif zrw r (some (.inl 2147483648)) then (bif zunk A zRU then (bif Nat.beq (ztag (zcell A 0)) 8 then (bif Nat.beq (ztag (zcell A 249)) 7 then (bif Nat.beq (zraw (zcell A 249) 0) 0 then (bif Nat.beq (zcell A 248) 108 then Nat.beq (zraw (zcell A 0) 13) 4294967295 else false) else false) else false) else false) else false) else false) else false
noncomputable def zNo : zK := fun _ _ _ _ _ _ => false
noncomputable def jRd (K : zKr) : Nat → zK := fun b => bif Nat.beq b 3 then b_X8_read_3 (fun _ => zNo) K else zNo
theorem zNo_ok {l : Launch} {G : qG} {gh : zGh} {d : Nat} {K : zKr} {N : qMn} {pc : Nat} : zS l G gh d K N pc zNo := fun _ _ _ _ _ _ h => Bool.noConfusion (show false = true from h)
theorem jRd_ok {l : Launch} {G : qG} {gh : zGh} (d : Nat) {K : zKr} (b : Nat) : zS l G gh (d + 26) K n_X8_read (zn 0 p_X8_read b) (jRd K b) := by
  unfold jRd
  cases hb : Nat.beq b 3 with
  | true =>
    have e := Nat.eq_of_beq_eq_true hb
    subst e
    exact s_X8_read_3 d K _ (fun _ => zNo_ok)
  | false => exact zNo_ok

/-! ===== the class's read, its end: nothing held, nothing told ===== -/
def nz8 (I : qMI) : qMI := fun a j => if a = 248 ∧ 3 ≤ j then 0 else I a j
theorem nz8_ro {I : qMI} {k : Nat} (h : k ≠ 248) : nz8 I k = I k := funext fun j => by unfold nz8; rw [if_neg (fun q => h q.1)]
theorem qCell_cg {G : qG} {I I2 : qMI} {L : qML} {R : qMR} {k : Nat} (h : I k = I2 k) : qCell G I L R k = qCell G I2 L R k := by
  unfold qCell qFs
  rw [h]
theorem va_P_nz {G : qG} {I : qMI} {L : qML} {R : qMR} {H : Heap} (h : va_P (G.2.1, G.2.2.1) vwCl (qWd G 336 I L R) H) : va_P (G.2.1, G.2.2.1) vwCl (qWd G 336 (nz8 I) L R) H := by
  intro k q hq
  obtain ⟨hk, rfl⟩ := qWd_get hq
  have e := h k _ (qWd_at hk)
  by_cases h8 : k = 248
  · subst h8
    have s1 : (qSh 248).1 = 12 := by decide +kernel
    have s2 : (qSh 248).2 = 3 := by decide +kernel
    unfold qCell at e ⊢
    rw [if_neg (by omega), if_pos (by omega)] at e ⊢
    have e : H[G.1 + 248]? = some (arrV _ (qSh 248).2 (fun j => .int (I 248 j))) := e
    show H[G.1 + 248]? = some (arrV _ (qSh 248).2 (fun j => .int (nz8 I 248 j)))
    rw [e]
    congr 1
  · rw [qCell_cg (nz8_ro h8)]
    exact e
theorem qAb_nz {l : Launch} {G : qG} {d : Nat} {M : qMn} {Q : qQ} {pc : Nat} {lv : qLv} {st : List Value} {ce sl : Nat} {I : qMI} {L : qML} {R : qMR} (h : qAb l G d M Q pc lv st ce sl 336 (nz8 I) L R) : qAb l G d M Q pc lv st ce sl 336 I L R := by
  intro p e s m args below meth c C H locs ls hz hP hS hl
  exact h p e s m args below meth c C H locs ls hz (va_P_nz hP) hS hl
theorem zM_el {gh : zGh} {t k m : Nat} {A : zAm} {I : qMI} {L : qML} {R : qMR} (hm : zM gh t A I L R) (h18 : ztag (zcell A k) = 18) (hml : zlen m = zlen (zcell A k)) (h12 : ztag m = 12) (hfr : zfr m = false) (hfp : zfp m = false) (hv : ∀ j, zin (Nat.xor (zraw m j) 2147483648) (I k j)) : zM gh t (zput A k m) I L R := by
  obtain ⟨g1, g2, g3, -⟩ := hm.1.2 k (by omega) (by omega)
  refine ⟨⟨fun x hx => ?_, fun x hx hx2 => ?_⟩, fun x hx => ?_, fun x hx => ?_⟩
  · by_cases e : x = k
    · subst e
      rw [zcell_put, if_pos rfl] at hx ⊢
      refine ⟨g1, by omega, by rw [hml]; exact g3, fun j => ⟨fun _ => hv j, fun q => ?_, fun q => ?_⟩⟩
      · rw [h12] at q; cases q
      · rw [h12] at q; cases q
    · rw [zcell_put, if_neg e] at hx ⊢
      exact hm.1.1 x hx
  · by_cases e : x = k
    · subst e
      rw [zcell_put, if_pos rfl] at hx
      omega
    · rw [zcell_put, if_neg e] at hx hx2 ⊢
      exact hm.1.2 x hx hx2
  · by_cases e : x = k
    · subst e
      rw [zcell_put, if_pos rfl] at hx
      rcases hx with hx | hx
      · omega
      · rw [hfr] at hx; cases hx
    · rw [zcell_put, if_neg e] at hx
      exact hm.2.1 x hx
  · by_cases e : x = k
    · subst e
      rw [zcell_put, if_pos rfl, hfp] at hx
      cases hx
    · rw [zcell_put, if_neg e] at hx
      exact hm.2.2 x hx
theorem zM_un {gh : zGh} {t k m : Nat} {A : zAm} {I : qMI} {L : qML} {R : qMR} (hm : zM gh t A I L R) (h12 : ztag (zcell A k) = 12) (hml : zlen m = zlen (zcell A k)) (h18 : ztag m = 18) (hfr : zfr m = false) (hfp : zfp m = false) (ht : Nat.xor (zraw m 0) 2147483648 = ztop) : zM gh t (zput A k m) I L R := by
  obtain ⟨g1, g2, g3, -⟩ := hm.1.1 k (by omega)
  refine ⟨⟨fun x hx => ?_, fun x hx hx2 => ?_⟩, fun x hx => ?_, fun x hx => ?_⟩
  · by_cases e : x = k
    · subst e
      rw [zcell_put, if_pos rfl] at hx
      omega
    · rw [zcell_put, if_neg e] at hx ⊢
      exact hm.1.1 x hx
  · by_cases e : x = k
    · subst e
      rw [zcell_put, if_pos rfl] at hx hx2 ⊢
      refine ⟨g1, by omega, by rw [hml]; exact g3, fun _ j _ => ?_⟩
      rw [ht]
      exact zin_top _
    · rw [zcell_put, if_neg e] at hx hx2 ⊢
      exact hm.1.2 x hx hx2
  · by_cases e : x = k
    · subst e
      rw [zcell_put, if_pos rfl] at hx
      rcases hx with hx | hx
      · omega
      · rw [hfr] at hx; cases hx
    · rw [zcell_put, if_neg e] at hx
      exact hm.2.1 x hx
  · by_cases e : x = k
    · subst e
      rw [zcell_put, if_pos rfl, hfp] at hx
      cases hx
    · rw [zcell_put, if_neg e] at hx
      exact hm.2.2 x hx

theorem vCR0 {gh : zGh} {t : Nat} {I : qMI} {L : qML} {R : qMR} (hm : zM gh t zAi0 I L R) : cRf R 9 ∧ R 0 0 = some 1 ∧ R 0 1 = some 3 ∧ R 1 0 = some 2 := ⟨⟨⟨vRef (k := 3) (j := 0) (v := 4) hm (by decide +kernel) (by decide +kernel) (by decide +kernel), vRef (k := 3) (j := 1) (v := 9) hm (by decide +kernel) (by decide +kernel) (by decide +kernel)⟩, ⟨vRef (k := 4) (j := 0) (v := 5) hm (by decide +kernel) (by decide +kernel) (by decide +kernel), vRef (k := 4) (j := 1) (v := 6) hm (by decide +kernel) (by decide +kernel) (by decide +kernel), vRef (k := 4) (j := 2) (v := 7) hm (by decide +kernel) (by decide +kernel) (by decide +kernel), vRef (k := 4) (j := 3) (v := 8) hm (by decide +kernel) (by decide +kernel) (by decide +kernel)⟩, ⟨vRef (k := 9) (j := 0) (v := 10) hm (by decide +kernel) (by decide +kernel) (by decide +kernel), vRef (k := 9) (j := 3) (v := 11) hm (by decide +kernel) (by decide +kernel) (by decide +kernel), vRef (k := 9) (j := 4) (v := 12) hm (by decide +kernel) (by decide +kernel) (by decide +kernel), vRef (k := 9) (j := 6) (v := 13) hm (by decide +kernel) (by decide +kernel) (by decide +kernel), vRef (k := 9) (j := 7) (v := 14) hm (by decide +kernel) (by decide +kernel) (by decide +kernel), vRef (k := 9) (j := 12) (v := 15) hm (by decide +kernel) (by decide +kernel) (by decide +kernel)⟩, ⟨vRef (k := 15) (j := 0) (v := 16) hm (by decide +kernel) (by decide +kernel) (by decide +kernel), vRef (k := 15) (j := 1) (v := 17) hm (by decide +kernel) (by decide +kernel) (by decide +kernel), vRef (k := 15) (j := 3) (v := 18) hm (by decide +kernel) (by decide +kernel) (by decide +kernel)⟩⟩, vRef (k := 0) (j := 0) (v := 1) hm (by decide +kernel) (by decide +kernel) (by decide +kernel), vRef (k := 0) (j := 1) (v := 3) hm (by decide +kernel) (by decide +kernel) (by decide +kernel), vRef (k := 1) (j := 0) (v := 2) hm (by decide +kernel) (by decide +kernel) (by decide +kernel)⟩
theorem vPar0 {I I' : qMI} {L L' : qML} {R : qMR} (hm : zM (I, L, R) 336 zAi0 I L R) (hF : ∀ k, k ≠ 0 → k ≠ 1 → k ≠ 3 → k ≠ 4 → k ≠ 6 → k ≠ 7 → (k < 9 ∨ 9 + 9 < k) → I' k = I k) (h0 : ∀ j, j ≠ 13 → I' 0 j = I 0 j) (h1 : ∀ j, j ≠ 1 → I' 1 j = I 1 j) (h1b : 0 ≤ (I' 1 1).toInt ∧ (I' 1 1).toInt ≤ 2000) (h3 : ∀ j, (j < 2 ∨ 7 < j) → I' 3 j = I 3 j) (h3b : 0 ≤ (I' 3 2).toInt ∧ (I' 3 2).toInt ≤ 400) (h4 : ∀ j, j ≠ 4 → I' 4 j = I 4 j) (h4b : 0 ≤ (I' 4 4).toInt ∧ (I' 4 4).toInt ≤ 2000) (h9 : ∀ j, 13 ≤ j → I' 9 j = I 9 j) (h15 : ∀ j, 6 ≤ j → I' (9 + 6) j = I (9 + 6) j) (hb : cBd 9 I') : zM (I', L', R) 336 zAi0 I' L' R := by
  have same : ∀ k j, ztag (zcell zAi0 k) < 15 → zkd (ztag (zcell zAi0 k)) j = 0 → zin (Nat.xor (zraw (zcell zAi0 k) j) 2147483648) (I k j) := fun k j q1 q2 => ((hm.1.1 k q1).2.2.2 j).1 q2
  have hb : (0 ≤ (I' 9 1).toInt ∧ (I' 9 1).toInt ≤ 12) ∧ (0 ≤ (I' 9 2).toInt ∧ (I' 9 2).toInt ≤ 6) ∧ (0 ≤ (I' 9 5).toInt ∧ (I' 9 5).toInt ≤ 6) ∧ (0 ≤ (I' 15 2).toInt ∧ (I' 15 2).toInt ≤ 420) := hb
  have h15 : ∀ j, 6 ≤ j → I' 15 j = I 15 j := h15
  refine zM_ch hm zRef0.c13 (fun k hk => ?_)
  rcases (show k = 0 ∨ k = 1 ∨ k = 3 ∨ k = 4 ∨ k = 9 ∨ k = 15 ∨ (k = 6 ∨ k = 7 ∨ k = 10 ∨ k = 11 ∨ k = 12 ∨ k = 13 ∨ k = 14 ∨ k = 16 ∨ k = 17 ∨ k = 18) ∨ (k ≠ 0 ∧ k ≠ 1 ∧ k ≠ 3 ∧ k ≠ 4 ∧ k ≠ 6 ∧ k ≠ 7 ∧ (k < 9 ∨ 9 + 9 < k)) by omega) with e | e | e | e | e | e | e | ⟨q1, q2, q3, q4, q5, q6, q7⟩
  · subst e
    refine Or.inr (Or.inr ⟨fun q j hq => ?_, fun q _ => absurd q (by decide +kernel)⟩)
    by_cases e : j ≠ 13
    · rw [h0 j e]; exact same 0 j q hq
    · rcases (show j = 13 by omega) with rfl
      · rw [show Nat.xor (zraw (zcell zAi0 0) 13) 2147483648 = ztop from by decide +kernel]; exact zin_top _
  · subst e
    refine Or.inr (Or.inr ⟨fun q j hq => ?_, fun q _ => absurd q (by decide +kernel)⟩)
    by_cases e : j ≠ 1
    · rw [h1 j e]; exact same 1 j q hq
    · rcases (show j = 1 by omega) with rfl
      · exact zin_of (a := 2147483648) (b := 2147485648) (by decide +kernel) (by decide +kernel) (by omega) (by omega)
  · subst e
    refine Or.inr (Or.inr ⟨fun q j hq => ?_, fun q _ => absurd q (by decide +kernel)⟩)
    by_cases e : j < 2 ∨ 7 < j
    · rw [h3 j e]; exact same 3 j q hq
    · rcases (show j = 2 ∨ j = 3 ∨ j = 4 ∨ j = 5 ∨ j = 6 ∨ j = 7 by omega) with rfl | rfl | rfl | rfl | rfl | rfl
      · exact zin_of (a := 2147483648) (b := 2147484048) (by decide +kernel) (by decide +kernel) (by omega) (by omega)
      · rw [show Nat.xor (zraw (zcell zAi0 3) 3) 2147483648 = ztop from by decide +kernel]; exact zin_top _
      · rw [show Nat.xor (zraw (zcell zAi0 3) 4) 2147483648 = ztop from by decide +kernel]; exact zin_top _
      · rw [show Nat.xor (zraw (zcell zAi0 3) 5) 2147483648 = ztop from by decide +kernel]; exact zin_top _
      · rw [show Nat.xor (zraw (zcell zAi0 3) 6) 2147483648 = ztop from by decide +kernel]; exact zin_top _
      · rw [show Nat.xor (zraw (zcell zAi0 3) 7) 2147483648 = ztop from by decide +kernel]; exact zin_top _
  · subst e
    refine Or.inr (Or.inr ⟨fun q j hq => ?_, fun q _ => absurd q (by decide +kernel)⟩)
    by_cases e : j ≠ 4
    · rw [h4 j e]; exact same 4 j q hq
    · rcases (show j = 4 by omega) with rfl
      · exact zin_of (a := 2147483648) (b := 2147485648) (by decide +kernel) (by decide +kernel) (by omega) (by omega)
  · subst e
    refine Or.inr (Or.inr ⟨fun q j hq => ?_, fun q _ => absurd q (by decide +kernel)⟩)
    by_cases e : 13 ≤ j
    · rw [h9 j e]; exact same 9 j q hq
    · rcases (show j = 0 ∨ j = 1 ∨ j = 2 ∨ j = 3 ∨ j = 4 ∨ j = 5 ∨ j = 6 ∨ j = 7 ∨ j = 8 ∨ j = 9 ∨ j = 10 ∨ j = 11 ∨ j = 12 by omega) with rfl | rfl | rfl | rfl | rfl | rfl | rfl | rfl | rfl | rfl | rfl | rfl | rfl
      · exact absurd hq (by decide +kernel)
      · exact zin_of (a := 2147483648) (b := 2147483660) (by decide +kernel) (by decide +kernel) (by omega) (by omega)
      · exact zin_of (a := 2147483648) (b := 2147483654) (by decide +kernel) (by decide +kernel) (by omega) (by omega)
      · exact absurd hq (by decide +kernel)
      · exact absurd hq (by decide +kernel)
      · exact zin_of (a := 2147483648) (b := 2147483654) (by decide +kernel) (by decide +kernel) (by omega) (by omega)
      · exact absurd hq (by decide +kernel)
      · exact absurd hq (by decide +kernel)
      · rw [show Nat.xor (zraw (zcell zAi0 9) 8) 2147483648 = ztop from by decide +kernel]; exact zin_top _
      · rw [show Nat.xor (zraw (zcell zAi0 9) 9) 2147483648 = ztop from by decide +kernel]; exact zin_top _
      · rw [show Nat.xor (zraw (zcell zAi0 9) 10) 2147483648 = ztop from by decide +kernel]; exact zin_top _
      · rw [show Nat.xor (zraw (zcell zAi0 9) 11) 2147483648 = ztop from by decide +kernel]; exact zin_top _
      · exact absurd hq (by decide +kernel)
  · subst e
    refine Or.inr (Or.inr ⟨fun q j hq => ?_, fun q _ => absurd q (by decide +kernel)⟩)
    by_cases e : 6 ≤ j
    · rw [h15 j e]; exact same 15 j q hq
    · rcases (show j = 0 ∨ j = 1 ∨ j = 2 ∨ j = 3 ∨ j = 4 ∨ j = 5 by omega) with rfl | rfl | rfl | rfl | rfl | rfl
      · exact absurd hq (by decide +kernel)
      · exact absurd hq (by decide +kernel)
      · exact zin_of (a := 2147483648) (b := 2147484068) (by decide +kernel) (by decide +kernel) (by omega) (by omega)
      · exact absurd hq (by decide +kernel)
      · exact absurd hq (by decide +kernel)
      · exact absurd hq (by decide +kernel)
  · refine Or.inr (Or.inl ?_)
    rcases e with rfl | rfl | rfl | rfl | rfl | rfl | rfl | rfl | rfl | rfl <;> decide +kernel
  · exact Or.inl (hF k q1 q2 q3 q4 q5 q6 q7)
noncomputable def zAt0 : zAm := zput (zput zAi0 0 (zupd (zcf 8 13 (zcell zAi0 0)) 13 (Nat.xor 2147483647 2147483648))) 248 zmT
theorem kRt0 : b_X8_read_2 (jRd kRd) kRd [.inr (.ref 0), .inl 2147483648] [] 0 0 336 zAt0 = true := by decide +kernel
theorem cTail0 {l : Launch} {G : qG} {J : qMI} {L1 : qML} {R : qMR} (hm2 : zM (J, L1, R) 336 zAi0 J L1 R) (hg2 : zGood (J, L1, R)) (j0 : J 0 13 = -1) (jz : ∀ j, 3 ≤ j → J 248 j = 0) (lv : qLv) (hl : wkHas [.ref 0, .int 0] lv) : qAb l G 26 n_X8_read (fun r t I' L' R' => t = 336 ∧ r = some (.int 0) ∧ vInv I' L' R' ∧ I' 0 13 = -1 ∧ (∀ k, k ∈ zRU → I' k = J k ∧ L' k = L1 k) ∧ I' 249 0 = 0 ∧ ∀ i, i < 3 → I' 248 i = 0) 42 lv [] 0 0 336 J L1 R := by
  have eJ : qUp J 0 13 (-1) = J := by
    funext k j
    rw [qUp_at]
    by_cases h : k = 0 ∧ j = 13
    · rw [if_pos h, h.1, h.2, j0]
    · rw [if_neg h]
  have hm3 : zM (J, L1, R) 336 zAt0 J L1 R := by
    have h1 := zM_setF (j := 13) (c := 2147483647) (x := -1) hm2 (show ztag (zcell zAi0 0) = 8 from by decide +kernel) (by decide +kernel) (by decide +kernel) (zin_of (a := 2147483647) (b := 2147483647) (by decide) (by decide) (by decide) (by decide)) (by decide)
    rw [eJ] at h1
    refine zM_el h1 (by decide +kernel) (by decide +kernel) (by decide +kernel) (by decide +kernel) (by decide +kernel) (fun j => ?_)
    by_cases h : j < 3
    · rcases (show j = 0 ∨ j = 1 ∨ j = 2 by omega) with rfl | rfl | rfl
      · rw [show Nat.xor (zraw zmT 0) 2147483648 = ztop from by decide +kernel]; exact zin_top _
      · rw [show Nat.xor (zraw zmT 1) 2147483648 = ztop from by decide +kernel]; exact zin_top _
      · rw [show Nat.xor (zraw zmT 2) 2147483648 = ztop from by decide +kernel]; exact zin_top _
    · have e : zraw zmT j = 0 := by
        rw [zraw_eq, Nat.shiftRight_eq_div_pow, Nat.div_eq_of_lt (Nat.lt_of_lt_of_le (show zmT < 2 ^ 227 from by decide +kernel) (Nat.pow_le_pow_right (n := 2) (by omega) (show 227 ≤ 32 + 65 * j by omega)))]
      rw [e, jz j (by omega)]
      exact zin0
  refine qAb_mono (s_X8_read_2 0 kRd (jRd kRd) (jRd_ok 0) [.inr (.ref 0), .inl 2147483648] [] 0 0 336 zAt0 kRt0 lv [] J L1 R (fun i => ?_) trivial ⟨hm3, Nat.zero_le _, Nat.zero_le _⟩) ?_
  · match i with
    | 0 => exact Or.inr ⟨_, hl 0 _ rfl (wkU_r _), ⟨rfl, rfl⟩⟩
    | 1 => exact Or.inr ⟨_, hl 1 _ rfl (wkU_i _), ⟨_, rfl, zin0⟩⟩
    | i + 2 => exact Or.inl rfl
  · intro r t I' L' R' hq
    obtain ⟨r0, A', q1, q2, q3⟩ := hq
    obtain ⟨q4, q3⟩ := zand q3
    obtain ⟨q5, q3⟩ := zand q3
    obtain ⟨q6, q3⟩ := zand q3
    obtain ⟨q7, q8⟩ := zand q3
    obtain ⟨q9, q8⟩ := zand q8
    obtain ⟨q10, q8⟩ := zand q8
    obtain ⟨q11, q8⟩ := zand q8
    have e248 := Nat.eq_of_beq_eq_true q11
    have q2u : zM (J, L1, R) t (zput A' 248 z18) I' L' R' := zM_un q2 (by rw [e248]; decide +kernel) (by rw [e248]; decide +kernel) (by decide +kernel) (by decide +kernel) (by decide +kernel) (by decide +kernel)
    obtain ⟨e1, ⟨y', rfl⟩, e3⟩ := kV_t hg2 q4 q1 q2u
    obtain ⟨y'', e4, e5⟩ := zrw_t q5 q1
    cases e4
    have z1 := zin_b2 e5 (a := 2147483648) (b := 2147483648) (by decide) (by decide)
    have un := fun k hk => q2.2.1 k (zunk_t q6 k hk)
    obtain ⟨-, -, -, -, g5⟩ := zM_at q2 q7 (by omega)
    have g6 := (g5 13).1 (by decide +kernel)
    rw [Nat.eq_of_beq_eq_true q8] at g6
    have z2 := zin_b2 g6 (a := 2147483647) (b := 2147483647) (by decide) (by decide)
    obtain ⟨-, -, -, -, t5⟩ := zM_at q2 q9 (by omega)
    have t6 := (t5 0).1 (by decide +kernel)
    rw [Nat.eq_of_beq_eq_true q10] at t6
    have z3 := zin_b2 t6 (a := 2147483648) (b := 2147483648) (by decide) (by decide)
    have y0 : y' = 0 := i_eq.mpr (by rw [show (0 : Int32).toInt = 0 from rfl]; omega)
    obtain ⟨-, -, -, v5⟩ := q2.1.1 248 (by rw [e248]; decide +kernel)
    refine ⟨e1, by rw [y0], e3, i_eq.mpr (by rw [show (-1 : Int32).toInt = -1 from rfl]; omega), fun k hk => ⟨(un k hk).1, (un k hk).2.1⟩, i_eq.mpr (by rw [show (0 : Int32).toInt = 0 from rfl]; omega), fun i hi => ?_⟩
    have v6 := (v5 i).1 (by rw [e248]; rfl)
    rw [e248] at v6
    have e0 : zraw 108 i = 0 := by
      rcases (show i = 0 ∨ i = 1 ∨ i = 2 by omega) with rfl | rfl | rfl <;> decide +kernel
    rw [e0] at v6
    have := zin_b2 v6 (a := 2147483648) (b := 2147483648) (by decide) (by decide)
    exact i_eq.mpr (by rw [show (0 : Int32).toInt = 0 from rfl]; omega)
theorem cRead0 {l : Launch} {G : qG} {I : qMI} {L : qML} {R : qMR} (hm : zM (I, L, R) 336 zAi0 I L R) (hg : zGood (I, L, R)) : qCall l G 26 n_X8_read [.ref 0] 336 I L R (fun r t I' L' R' => t = 336 ∧ cRdP I L r I' L' R') := by
  obtain ⟨hR, r00, r01, r10⟩ := vCR0 hm
  have sz := zin_b2 (((hm.1.1 1 (by decide +kernel)).2.2.2 1).1 (by decide +kernel)) (a := 2147483648) (b := 2147485648) (by decide +kernel) (by decide +kernel)
  refine wkC_of 1 (by decide) (Nat.le_of_ble_eq_true rfl) (w_X8_read_0 (d := 25) r01 r00 (cParse (d := 0) (Or.inl rfl) hR r10 (by omega) (by omega)) (fun y I1 L1 R1 hq => ?_))
  obtain ⟨rfl, K, S, N, c4, ⟨f1, f2, f3, f4, f5, f6⟩, bd, b3, b4, ey, ep⟩ := hq
  refine w_X8_read_11 (d := 25) r01 r00 r00 (cDrop (d := 24)) (fun y2 I2 L2 R2 hq => ?_)
  obtain ⟨eR, eL, hy⟩ := hq
  subst R2
  subst L2
  have u0 : (qUp I1 0 13 (I1 3 5)) 1 = I 1 := by rw [qUp_ro (by decide), f1 1 (by decide) (by decide) (by decide) (by decide) (Or.inl (by decide))]
  rcases hy with ⟨rfl, -, rfl⟩ | ⟨rfl, hn, -⟩
  rotate_left
  · exact absurd ⟨by rw [u0]; omega, Int.le_refl _⟩ hn
  rw [Int32.sub_self]
  generalize hJ : qUp (qUp I1 0 13 (I1 3 5)) 1 1 0 = J
  have jk : ∀ k, k ≠ 0 → k ≠ 1 → J k = I1 k := fun k q1 q2 => by rw [← hJ, qUp_ro q2, qUp_ro q1]
  have j0 : J 0 13 = I1 3 5 := by rw [← hJ, qUp_ne (by omega), qUp_at, if_pos ⟨rfl, rfl⟩]
  have j0' : ∀ j, j ≠ 13 → J 0 j = I 0 j := fun j q => by rw [← hJ, qUp_ne (by omega), qUp_ne (by omega), f1 0 (by decide) (by decide) (by decide) (by decide) (Or.inl (by decide))]
  have j1 : J 1 1 = 0 := by rw [← hJ, qUp_at, if_pos ⟨rfl, rfl⟩]
  have j1' : ∀ j, j ≠ 1 → J 1 j = I 1 j := fun j q => by rw [← hJ, qUp_ne (by omega), u0]
  have hm2 : zM (J, L1, R) 336 zAi0 J L1 R := vPar0 hm (fun k q0 q1 q3 q4 q6 q7 q => by rw [jk k q0 q1]; exact f1 k q3 q4 q6 q7 q) j0' j1' (by rw [j1]; decide) (fun j q => by rw [jk 3 (by decide) (by decide)]; exact f2 j q) (by rw [jk 3 (by decide) (by decide)]; exact b3) (fun j q => by rw [jk 4 (by decide) (by decide)]; exact f3 j q) (by rw [jk 4 (by decide) (by decide)]; exact b4) (fun j q => by rw [jk 9 (by decide) (by decide)]; exact f5 j q) (fun j q => by rw [jk (9 + 6) (by decide) (by decide)]; exact f6 j q) (by unfold cBd at bd ⊢; rw [jk 9 (by decide) (by decide), jk (9 + 6) (by decide) (by decide)]; exact bd)
  have gk : ∀ k, 292 ≤ k → J k = I k ∧ L1 k = L k := fun k q => ⟨by rw [jk k (by omega) (by omega)]; exact f1 k (by omega) (by omega) (by omega) (by omega) (Or.inr (by omega)), f4 k (by omega) (by omega)⟩
  have hg2 : zGood (J, L1, R) := zGood_ok _ J L1 R hg (fun x hx => by
    have hx : 292 ≤ x := by
      unfold zUN at hx
      simp only [List.mem_cons, List.not_mem_nil, or_false] at hx
      omega
    exact ⟨(gk x hx).1, (gk x hx).2, rfl⟩) (fun j _ => by rw [(gk 292 (by decide)).1])
  have s2 : J 2 = I 2 := by rw [jk 2 (by decide) (by decide)]; exact f1 2 (by decide) (by decide) (by decide) (by decide) (Or.inl (by decide))
  have s5 : L1 5 = L 5 := f4 5 (by decide) (by decide)
  have s248 : J 248 = I 248 := by rw [jk 248 (by decide) (by decide)]; exact f1 248 (by decide) (by decide) (by decide) (by decide) (by decide)
  have s249 : J 249 = I 249 := by rw [jk 249 (by decide) (by decide)]; exact f1 249 (by decide) (by decide) (by decide) (by decide) (by decide)
  have hp : pSpec (L 5) (cBy I) (cSz I) K S N := pSpec_of c4
  refine w_X8_read_37 (d := 25) (fun q => w_X8_read_61 (d := 25) ⟨rfl, y, rfl, ⟨Or.inl hm2, hg2⟩, K, S, N, hp, ey, by rw [j0]; exact ep, j1, s2, s5, fun k q _ => gk k q, fun w => absurd (ey.trans w) q, fun _ => s249, fun w => absurd (ey.trans w) q, fun _ => s248⟩) (fun q => ?_)
  subst q
  intro lv hl
  have hz : zAns (zText K S N) = 0 := ey.symm
  have ep1 : I1 3 5 = -1 := by rw [ep]; exact zPlc_0 hz
  refine qAb_nz (qAb_mono (cTail0 (J := nz8 J) (L1 := L1) (R := R) ?_ ?_ ?_ ?_ lv hl) ?_)
  · refine zM_ch hm2 zRef0.c13 (fun k hk => ?_)
    by_cases e : k = 248
    · subst e
      exact Or.inr (Or.inl (by decide +kernel))
    · exact Or.inl (nz8_ro e)
  · exact zGood_ok _ (nz8 J) L1 R hg2 (fun x hx => by
      unfold zUN at hx
      simp only [List.mem_cons, List.not_mem_nil, or_false] at hx
      exact ⟨nz8_ro (by omega), rfl, rfl⟩) (fun j _ => by rw [nz8_ro (by decide)])
  · rw [nz8_ro (by decide), j0, ep1]
  · intro j q
    unfold nz8
    rw [if_pos ⟨rfl, q⟩]
  · intro r t I' L' R' hq
    obtain ⟨e1, rfl, e3, p13, un, t0, h0⟩ := hq
    refine ⟨e1, 0, rfl, e3, K, S, N, hp, hz.symm, by rw [p13, zPlc_0 hz], ?_, ?_, ?_, fun k a b => ?_, fun _ => t0, fun w => absurd hz w, fun _ => h0, fun w => absurd hz w⟩
    · rw [(un 1 List.mem_cons_self).1, nz8_ro (by decide)]; exact j1
    · rw [(un 2 (List.mem_cons_of_mem _ List.mem_cons_self)).1, nz8_ro (by decide)]; exact s2
    · rw [(un 5 (List.mem_cons_of_mem _ (List.mem_cons_of_mem _ List.mem_cons_self))).2]; exact s5
    · have hk : k ∈ zRU := List.mem_cons_of_mem _ (List.mem_cons_of_mem _ (List.mem_cons_of_mem _ (List.mem_range'_1.mpr ⟨a, by omega⟩)))
      exact ⟨(un k hk).1.trans ((nz8_ro (by omega)).trans (gk k a).1), (un k hk).2.trans (gk k a).2⟩

theorem vCR1 {gh : zGh} {t : Nat} {I : qMI} {L : qML} {R : qMR} (hm : zM gh t zAi1 I L R) : cRf R 259 ∧ R 0 0 = some 1 ∧ R 0 1 = some 3 ∧ R 1 0 = some 2 := ⟨⟨⟨vRef (k := 3) (j := 0) (v := 4) hm (by decide +kernel) (by decide +kernel) (by decide +kernel), vRef (k := 3) (j := 1) (v := 259) hm (by decide +kernel) (by decide +kernel) (by decide +kernel)⟩, ⟨vRef (k := 4) (j := 0) (v := 5) hm (by decide +kernel) (by decide +kernel) (by decide +kernel), vRef (k := 4) (j := 1) (v := 6) hm (by decide +kernel) (by decide +kernel) (by decide +kernel), vRef (k := 4) (j := 2) (v := 7) hm (by decide +kernel) (by decide +kernel) (by decide +kernel), vRef (k := 4) (j := 3) (v := 8) hm (by decide +kernel) (by decide +kernel) (by decide +kernel)⟩, ⟨vRef (k := 259) (j := 0) (v := 260) hm (by decide +kernel) (by decide +kernel) (by decide +kernel), vRef (k := 259) (j := 3) (v := 261) hm (by decide +kernel) (by decide +kernel) (by decide +kernel), vRef (k := 259) (j := 4) (v := 262) hm (by decide +kernel) (by decide +kernel) (by decide +kernel), vRef (k := 259) (j := 6) (v := 263) hm (by decide +kernel) (by decide +kernel) (by decide +kernel), vRef (k := 259) (j := 7) (v := 264) hm (by decide +kernel) (by decide +kernel) (by decide +kernel), vRef (k := 259) (j := 12) (v := 265) hm (by decide +kernel) (by decide +kernel) (by decide +kernel)⟩, ⟨vRef (k := 265) (j := 0) (v := 266) hm (by decide +kernel) (by decide +kernel) (by decide +kernel), vRef (k := 265) (j := 1) (v := 267) hm (by decide +kernel) (by decide +kernel) (by decide +kernel), vRef (k := 265) (j := 3) (v := 268) hm (by decide +kernel) (by decide +kernel) (by decide +kernel)⟩⟩, vRef (k := 0) (j := 0) (v := 1) hm (by decide +kernel) (by decide +kernel) (by decide +kernel), vRef (k := 0) (j := 1) (v := 3) hm (by decide +kernel) (by decide +kernel) (by decide +kernel), vRef (k := 1) (j := 0) (v := 2) hm (by decide +kernel) (by decide +kernel) (by decide +kernel)⟩
theorem vPar1 {I I' : qMI} {L L' : qML} {R : qMR} (hm : zM (I, L, R) 336 zAi1 I L R) (hF : ∀ k, k ≠ 0 → k ≠ 1 → k ≠ 3 → k ≠ 4 → k ≠ 6 → k ≠ 7 → (k < 259 ∨ 259 + 9 < k) → I' k = I k) (h0 : ∀ j, j ≠ 13 → I' 0 j = I 0 j) (h1 : ∀ j, j ≠ 1 → I' 1 j = I 1 j) (h1b : 0 ≤ (I' 1 1).toInt ∧ (I' 1 1).toInt ≤ 2000) (h3 : ∀ j, (j < 2 ∨ 7 < j) → I' 3 j = I 3 j) (h3b : 0 ≤ (I' 3 2).toInt ∧ (I' 3 2).toInt ≤ 400) (h4 : ∀ j, j ≠ 4 → I' 4 j = I 4 j) (h4b : 0 ≤ (I' 4 4).toInt ∧ (I' 4 4).toInt ≤ 2000) (h9 : ∀ j, 13 ≤ j → I' 259 j = I 259 j) (h15 : ∀ j, 6 ≤ j → I' (259 + 6) j = I (259 + 6) j) (hb : cBd 259 I') : zM (I', L', R) 336 zAi1 I' L' R := by
  have same : ∀ k j, ztag (zcell zAi1 k) < 15 → zkd (ztag (zcell zAi1 k)) j = 0 → zin (Nat.xor (zraw (zcell zAi1 k) j) 2147483648) (I k j) := fun k j q1 q2 => ((hm.1.1 k q1).2.2.2 j).1 q2
  have hb : (0 ≤ (I' 259 1).toInt ∧ (I' 259 1).toInt ≤ 12) ∧ (0 ≤ (I' 259 2).toInt ∧ (I' 259 2).toInt ≤ 6) ∧ (0 ≤ (I' 259 5).toInt ∧ (I' 259 5).toInt ≤ 6) ∧ (0 ≤ (I' 265 2).toInt ∧ (I' 265 2).toInt ≤ 420) := hb
  have h15 : ∀ j, 6 ≤ j → I' 265 j = I 265 j := h15
  refine zM_ch hm zRef1.c13 (fun k hk => ?_)
  rcases (show k = 0 ∨ k = 1 ∨ k = 3 ∨ k = 4 ∨ k = 259 ∨ k = 265 ∨ (k = 6 ∨ k = 7 ∨ k = 260 ∨ k = 261 ∨ k = 262 ∨ k = 263 ∨ k = 264 ∨ k = 266 ∨ k = 267 ∨ k = 268) ∨ (k ≠ 0 ∧ k ≠ 1 ∧ k ≠ 3 ∧ k ≠ 4 ∧ k ≠ 6 ∧ k ≠ 7 ∧ (k < 259 ∨ 259 + 9 < k)) by omega) with e | e | e | e | e | e | e | ⟨q1, q2, q3, q4, q5, q6, q7⟩
  · subst e
    refine Or.inr (Or.inr ⟨fun q j hq => ?_, fun q _ => absurd q (by decide +kernel)⟩)
    by_cases e : j ≠ 13
    · rw [h0 j e]; exact same 0 j q hq
    · rcases (show j = 13 by omega) with rfl
      · rw [show Nat.xor (zraw (zcell zAi1 0) 13) 2147483648 = ztop from by decide +kernel]; exact zin_top _
  · subst e
    refine Or.inr (Or.inr ⟨fun q j hq => ?_, fun q _ => absurd q (by decide +kernel)⟩)
    by_cases e : j ≠ 1
    · rw [h1 j e]; exact same 1 j q hq
    · rcases (show j = 1 by omega) with rfl
      · exact zin_of (a := 2147483648) (b := 2147485648) (by decide +kernel) (by decide +kernel) (by omega) (by omega)
  · subst e
    refine Or.inr (Or.inr ⟨fun q j hq => ?_, fun q _ => absurd q (by decide +kernel)⟩)
    by_cases e : j < 2 ∨ 7 < j
    · rw [h3 j e]; exact same 3 j q hq
    · rcases (show j = 2 ∨ j = 3 ∨ j = 4 ∨ j = 5 ∨ j = 6 ∨ j = 7 by omega) with rfl | rfl | rfl | rfl | rfl | rfl
      · exact zin_of (a := 2147483648) (b := 2147484048) (by decide +kernel) (by decide +kernel) (by omega) (by omega)
      · rw [show Nat.xor (zraw (zcell zAi1 3) 3) 2147483648 = ztop from by decide +kernel]; exact zin_top _
      · rw [show Nat.xor (zraw (zcell zAi1 3) 4) 2147483648 = ztop from by decide +kernel]; exact zin_top _
      · rw [show Nat.xor (zraw (zcell zAi1 3) 5) 2147483648 = ztop from by decide +kernel]; exact zin_top _
      · rw [show Nat.xor (zraw (zcell zAi1 3) 6) 2147483648 = ztop from by decide +kernel]; exact zin_top _
      · rw [show Nat.xor (zraw (zcell zAi1 3) 7) 2147483648 = ztop from by decide +kernel]; exact zin_top _
  · subst e
    refine Or.inr (Or.inr ⟨fun q j hq => ?_, fun q _ => absurd q (by decide +kernel)⟩)
    by_cases e : j ≠ 4
    · rw [h4 j e]; exact same 4 j q hq
    · rcases (show j = 4 by omega) with rfl
      · exact zin_of (a := 2147483648) (b := 2147485648) (by decide +kernel) (by decide +kernel) (by omega) (by omega)
  · subst e
    refine Or.inr (Or.inr ⟨fun q j hq => ?_, fun q _ => absurd q (by decide +kernel)⟩)
    by_cases e : 13 ≤ j
    · rw [h9 j e]; exact same 259 j q hq
    · rcases (show j = 0 ∨ j = 1 ∨ j = 2 ∨ j = 3 ∨ j = 4 ∨ j = 5 ∨ j = 6 ∨ j = 7 ∨ j = 8 ∨ j = 9 ∨ j = 10 ∨ j = 11 ∨ j = 12 by omega) with rfl | rfl | rfl | rfl | rfl | rfl | rfl | rfl | rfl | rfl | rfl | rfl | rfl
      · exact absurd hq (by decide +kernel)
      · exact zin_of (a := 2147483648) (b := 2147483660) (by decide +kernel) (by decide +kernel) (by omega) (by omega)
      · exact zin_of (a := 2147483648) (b := 2147483654) (by decide +kernel) (by decide +kernel) (by omega) (by omega)
      · exact absurd hq (by decide +kernel)
      · exact absurd hq (by decide +kernel)
      · exact zin_of (a := 2147483648) (b := 2147483654) (by decide +kernel) (by decide +kernel) (by omega) (by omega)
      · exact absurd hq (by decide +kernel)
      · exact absurd hq (by decide +kernel)
      · rw [show Nat.xor (zraw (zcell zAi1 259) 8) 2147483648 = ztop from by decide +kernel]; exact zin_top _
      · rw [show Nat.xor (zraw (zcell zAi1 259) 9) 2147483648 = ztop from by decide +kernel]; exact zin_top _
      · rw [show Nat.xor (zraw (zcell zAi1 259) 10) 2147483648 = ztop from by decide +kernel]; exact zin_top _
      · rw [show Nat.xor (zraw (zcell zAi1 259) 11) 2147483648 = ztop from by decide +kernel]; exact zin_top _
      · exact absurd hq (by decide +kernel)
  · subst e
    refine Or.inr (Or.inr ⟨fun q j hq => ?_, fun q _ => absurd q (by decide +kernel)⟩)
    by_cases e : 6 ≤ j
    · rw [h15 j e]; exact same 265 j q hq
    · rcases (show j = 0 ∨ j = 1 ∨ j = 2 ∨ j = 3 ∨ j = 4 ∨ j = 5 by omega) with rfl | rfl | rfl | rfl | rfl | rfl
      · exact absurd hq (by decide +kernel)
      · exact absurd hq (by decide +kernel)
      · exact zin_of (a := 2147483648) (b := 2147484068) (by decide +kernel) (by decide +kernel) (by omega) (by omega)
      · exact absurd hq (by decide +kernel)
      · exact absurd hq (by decide +kernel)
      · exact absurd hq (by decide +kernel)
  · refine Or.inr (Or.inl ?_)
    rcases e with rfl | rfl | rfl | rfl | rfl | rfl | rfl | rfl | rfl | rfl <;> decide +kernel
  · exact Or.inl (hF k q1 q2 q3 q4 q5 q6 q7)
noncomputable def zAt1 : zAm := zput (zput zAi1 0 (zupd (zcf 8 13 (zcell zAi1 0)) 13 (Nat.xor 2147483647 2147483648))) 248 zmT
theorem kRt1 : b_X8_read_2 (jRd kRd) kRd [.inr (.ref 0), .inl 2147483648] [] 0 0 336 zAt1 = true := by decide +kernel
theorem cTail1 {l : Launch} {G : qG} {J : qMI} {L1 : qML} {R : qMR} (hm2 : zM (J, L1, R) 336 zAi1 J L1 R) (hg2 : zGood (J, L1, R)) (j0 : J 0 13 = -1) (jz : ∀ j, 3 ≤ j → J 248 j = 0) (lv : qLv) (hl : wkHas [.ref 0, .int 0] lv) : qAb l G 26 n_X8_read (fun r t I' L' R' => t = 336 ∧ r = some (.int 0) ∧ vInv I' L' R' ∧ I' 0 13 = -1 ∧ (∀ k, k ∈ zRU → I' k = J k ∧ L' k = L1 k) ∧ I' 249 0 = 0 ∧ ∀ i, i < 3 → I' 248 i = 0) 42 lv [] 0 0 336 J L1 R := by
  have eJ : qUp J 0 13 (-1) = J := by
    funext k j
    rw [qUp_at]
    by_cases h : k = 0 ∧ j = 13
    · rw [if_pos h, h.1, h.2, j0]
    · rw [if_neg h]
  have hm3 : zM (J, L1, R) 336 zAt1 J L1 R := by
    have h1 := zM_setF (j := 13) (c := 2147483647) (x := -1) hm2 (show ztag (zcell zAi1 0) = 8 from by decide +kernel) (by decide +kernel) (by decide +kernel) (zin_of (a := 2147483647) (b := 2147483647) (by decide) (by decide) (by decide) (by decide)) (by decide)
    rw [eJ] at h1
    refine zM_el h1 (by decide +kernel) (by decide +kernel) (by decide +kernel) (by decide +kernel) (by decide +kernel) (fun j => ?_)
    by_cases h : j < 3
    · rcases (show j = 0 ∨ j = 1 ∨ j = 2 by omega) with rfl | rfl | rfl
      · rw [show Nat.xor (zraw zmT 0) 2147483648 = ztop from by decide +kernel]; exact zin_top _
      · rw [show Nat.xor (zraw zmT 1) 2147483648 = ztop from by decide +kernel]; exact zin_top _
      · rw [show Nat.xor (zraw zmT 2) 2147483648 = ztop from by decide +kernel]; exact zin_top _
    · have e : zraw zmT j = 0 := by
        rw [zraw_eq, Nat.shiftRight_eq_div_pow, Nat.div_eq_of_lt (Nat.lt_of_lt_of_le (show zmT < 2 ^ 227 from by decide +kernel) (Nat.pow_le_pow_right (n := 2) (by omega) (show 227 ≤ 32 + 65 * j by omega)))]
      rw [e, jz j (by omega)]
      exact zin0
  refine qAb_mono (s_X8_read_2 0 kRd (jRd kRd) (jRd_ok 0) [.inr (.ref 0), .inl 2147483648] [] 0 0 336 zAt1 kRt1 lv [] J L1 R (fun i => ?_) trivial ⟨hm3, Nat.zero_le _, Nat.zero_le _⟩) ?_
  · match i with
    | 0 => exact Or.inr ⟨_, hl 0 _ rfl (wkU_r _), ⟨rfl, rfl⟩⟩
    | 1 => exact Or.inr ⟨_, hl 1 _ rfl (wkU_i _), ⟨_, rfl, zin0⟩⟩
    | i + 2 => exact Or.inl rfl
  · intro r t I' L' R' hq
    obtain ⟨r0, A', q1, q2, q3⟩ := hq
    obtain ⟨q4, q3⟩ := zand q3
    obtain ⟨q5, q3⟩ := zand q3
    obtain ⟨q6, q3⟩ := zand q3
    obtain ⟨q7, q8⟩ := zand q3
    obtain ⟨q9, q8⟩ := zand q8
    obtain ⟨q10, q8⟩ := zand q8
    obtain ⟨q11, q8⟩ := zand q8
    have e248 := Nat.eq_of_beq_eq_true q11
    have q2u : zM (J, L1, R) t (zput A' 248 z18) I' L' R' := zM_un q2 (by rw [e248]; decide +kernel) (by rw [e248]; decide +kernel) (by decide +kernel) (by decide +kernel) (by decide +kernel) (by decide +kernel)
    obtain ⟨e1, ⟨y', rfl⟩, e3⟩ := kV_t hg2 q4 q1 q2u
    obtain ⟨y'', e4, e5⟩ := zrw_t q5 q1
    cases e4
    have z1 := zin_b2 e5 (a := 2147483648) (b := 2147483648) (by decide) (by decide)
    have un := fun k hk => q2.2.1 k (zunk_t q6 k hk)
    obtain ⟨-, -, -, -, g5⟩ := zM_at q2 q7 (by omega)
    have g6 := (g5 13).1 (by decide +kernel)
    rw [Nat.eq_of_beq_eq_true q8] at g6
    have z2 := zin_b2 g6 (a := 2147483647) (b := 2147483647) (by decide) (by decide)
    obtain ⟨-, -, -, -, t5⟩ := zM_at q2 q9 (by omega)
    have t6 := (t5 0).1 (by decide +kernel)
    rw [Nat.eq_of_beq_eq_true q10] at t6
    have z3 := zin_b2 t6 (a := 2147483648) (b := 2147483648) (by decide) (by decide)
    have y0 : y' = 0 := i_eq.mpr (by rw [show (0 : Int32).toInt = 0 from rfl]; omega)
    obtain ⟨-, -, -, v5⟩ := q2.1.1 248 (by rw [e248]; decide +kernel)
    refine ⟨e1, by rw [y0], e3, i_eq.mpr (by rw [show (-1 : Int32).toInt = -1 from rfl]; omega), fun k hk => ⟨(un k hk).1, (un k hk).2.1⟩, i_eq.mpr (by rw [show (0 : Int32).toInt = 0 from rfl]; omega), fun i hi => ?_⟩
    have v6 := (v5 i).1 (by rw [e248]; rfl)
    rw [e248] at v6
    have e0 : zraw 108 i = 0 := by
      rcases (show i = 0 ∨ i = 1 ∨ i = 2 by omega) with rfl | rfl | rfl <;> decide +kernel
    rw [e0] at v6
    have := zin_b2 v6 (a := 2147483648) (b := 2147483648) (by decide) (by decide)
    exact i_eq.mpr (by rw [show (0 : Int32).toInt = 0 from rfl]; omega)
theorem cRead1 {l : Launch} {G : qG} {I : qMI} {L : qML} {R : qMR} (hm : zM (I, L, R) 336 zAi1 I L R) (hg : zGood (I, L, R)) : qCall l G 26 n_X8_read [.ref 0] 336 I L R (fun r t I' L' R' => t = 336 ∧ cRdP I L r I' L' R') := by
  obtain ⟨hR, r00, r01, r10⟩ := vCR1 hm
  have sz := zin_b2 (((hm.1.1 1 (by decide +kernel)).2.2.2 1).1 (by decide +kernel)) (a := 2147483648) (b := 2147485648) (by decide +kernel) (by decide +kernel)
  refine wkC_of 1 (by decide) (Nat.le_of_ble_eq_true rfl) (w_X8_read_0 (d := 25) r01 r00 (cParse (d := 0) (Or.inr rfl) hR r10 (by omega) (by omega)) (fun y I1 L1 R1 hq => ?_))
  obtain ⟨rfl, K, S, N, c4, ⟨f1, f2, f3, f4, f5, f6⟩, bd, b3, b4, ey, ep⟩ := hq
  refine w_X8_read_11 (d := 25) r01 r00 r00 (cDrop (d := 24)) (fun y2 I2 L2 R2 hq => ?_)
  obtain ⟨eR, eL, hy⟩ := hq
  subst R2
  subst L2
  have u0 : (qUp I1 0 13 (I1 3 5)) 1 = I 1 := by rw [qUp_ro (by decide), f1 1 (by decide) (by decide) (by decide) (by decide) (Or.inl (by decide))]
  rcases hy with ⟨rfl, -, rfl⟩ | ⟨rfl, hn, -⟩
  rotate_left
  · exact absurd ⟨by rw [u0]; omega, Int.le_refl _⟩ hn
  rw [Int32.sub_self]
  generalize hJ : qUp (qUp I1 0 13 (I1 3 5)) 1 1 0 = J
  have jk : ∀ k, k ≠ 0 → k ≠ 1 → J k = I1 k := fun k q1 q2 => by rw [← hJ, qUp_ro q2, qUp_ro q1]
  have j0 : J 0 13 = I1 3 5 := by rw [← hJ, qUp_ne (by omega), qUp_at, if_pos ⟨rfl, rfl⟩]
  have j0' : ∀ j, j ≠ 13 → J 0 j = I 0 j := fun j q => by rw [← hJ, qUp_ne (by omega), qUp_ne (by omega), f1 0 (by decide) (by decide) (by decide) (by decide) (Or.inl (by decide))]
  have j1 : J 1 1 = 0 := by rw [← hJ, qUp_at, if_pos ⟨rfl, rfl⟩]
  have j1' : ∀ j, j ≠ 1 → J 1 j = I 1 j := fun j q => by rw [← hJ, qUp_ne (by omega), u0]
  have hm2 : zM (J, L1, R) 336 zAi1 J L1 R := vPar1 hm (fun k q0 q1 q3 q4 q6 q7 q => by rw [jk k q0 q1]; exact f1 k q3 q4 q6 q7 q) j0' j1' (by rw [j1]; decide) (fun j q => by rw [jk 3 (by decide) (by decide)]; exact f2 j q) (by rw [jk 3 (by decide) (by decide)]; exact b3) (fun j q => by rw [jk 4 (by decide) (by decide)]; exact f3 j q) (by rw [jk 4 (by decide) (by decide)]; exact b4) (fun j q => by rw [jk 259 (by decide) (by decide)]; exact f5 j q) (fun j q => by rw [jk (259 + 6) (by decide) (by decide)]; exact f6 j q) (by unfold cBd at bd ⊢; rw [jk 259 (by decide) (by decide), jk (259 + 6) (by decide) (by decide)]; exact bd)
  have gk : ∀ k, 292 ≤ k → J k = I k ∧ L1 k = L k := fun k q => ⟨by rw [jk k (by omega) (by omega)]; exact f1 k (by omega) (by omega) (by omega) (by omega) (Or.inr (by omega)), f4 k (by omega) (by omega)⟩
  have hg2 : zGood (J, L1, R) := zGood_ok _ J L1 R hg (fun x hx => by
    have hx : 292 ≤ x := by
      unfold zUN at hx
      simp only [List.mem_cons, List.not_mem_nil, or_false] at hx
      omega
    exact ⟨(gk x hx).1, (gk x hx).2, rfl⟩) (fun j _ => by rw [(gk 292 (by decide)).1])
  have s2 : J 2 = I 2 := by rw [jk 2 (by decide) (by decide)]; exact f1 2 (by decide) (by decide) (by decide) (by decide) (Or.inl (by decide))
  have s5 : L1 5 = L 5 := f4 5 (by decide) (by decide)
  have s248 : J 248 = I 248 := by rw [jk 248 (by decide) (by decide)]; exact f1 248 (by decide) (by decide) (by decide) (by decide) (by decide)
  have s249 : J 249 = I 249 := by rw [jk 249 (by decide) (by decide)]; exact f1 249 (by decide) (by decide) (by decide) (by decide) (by decide)
  have hp : pSpec (L 5) (cBy I) (cSz I) K S N := pSpec_of c4
  refine w_X8_read_37 (d := 25) (fun q => w_X8_read_61 (d := 25) ⟨rfl, y, rfl, ⟨Or.inr hm2, hg2⟩, K, S, N, hp, ey, by rw [j0]; exact ep, j1, s2, s5, fun k q _ => gk k q, fun w => absurd (ey.trans w) q, fun _ => s249, fun w => absurd (ey.trans w) q, fun _ => s248⟩) (fun q => ?_)
  subst q
  intro lv hl
  have hz : zAns (zText K S N) = 0 := ey.symm
  have ep1 : I1 3 5 = -1 := by rw [ep]; exact zPlc_0 hz
  refine qAb_nz (qAb_mono (cTail1 (J := nz8 J) (L1 := L1) (R := R) ?_ ?_ ?_ ?_ lv hl) ?_)
  · refine zM_ch hm2 zRef1.c13 (fun k hk => ?_)
    by_cases e : k = 248
    · subst e
      exact Or.inr (Or.inl (by decide +kernel))
    · exact Or.inl (nz8_ro e)
  · exact zGood_ok _ (nz8 J) L1 R hg2 (fun x hx => by
      unfold zUN at hx
      simp only [List.mem_cons, List.not_mem_nil, or_false] at hx
      exact ⟨nz8_ro (by omega), rfl, rfl⟩) (fun j _ => by rw [nz8_ro (by decide)])
  · rw [nz8_ro (by decide), j0, ep1]
  · intro j q
    unfold nz8
    rw [if_pos ⟨rfl, q⟩]
  · intro r t I' L' R' hq
    obtain ⟨e1, rfl, e3, p13, un, t0, h0⟩ := hq
    refine ⟨e1, 0, rfl, e3, K, S, N, hp, hz.symm, by rw [p13, zPlc_0 hz], ?_, ?_, ?_, fun k a b => ?_, fun _ => t0, fun w => absurd hz w, fun _ => h0, fun w => absurd hz w⟩
    · rw [(un 1 List.mem_cons_self).1, nz8_ro (by decide)]; exact j1
    · rw [(un 2 (List.mem_cons_of_mem _ List.mem_cons_self)).1, nz8_ro (by decide)]; exact s2
    · rw [(un 5 (List.mem_cons_of_mem _ (List.mem_cons_of_mem _ List.mem_cons_self))).2]; exact s5
    · have hk : k ∈ zRU := List.mem_cons_of_mem _ (List.mem_cons_of_mem _ (List.mem_cons_of_mem _ (List.mem_range'_1.mpr ⟨a, by omega⟩)))
      exact ⟨(un k hk).1.trans ((nz8_ro (by omega)).trans (gk k a).1), (un k hk).2.trans (gk k a).2⟩

