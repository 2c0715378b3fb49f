/-! ===== the reference's read, feed, back between two calls ===== -/
theorem zkd_1 {tg j : Nat} (h : zkd tg j = 1) : tg = 13 := by
  unfold zkd at h
  split at h
  · split at h <;> cases h
  · split at h
    · cases h
    · split at h
      · assumption
      · cases h
noncomputable def zlx (m : Nat) : Bool := bif Nat.ble 20 (ztag m) then true else (bif Nat.beq (ztag m) 19 then true else (bif Nat.ble 16 (ztag m) then Nat.beq (Nat.xor (zraw m 0) 2147483648) ztop else false))
theorem zlx_t {m : Nat} (h : zlx m = true) : (¬ ztag m < 15) ∧ (16 ≤ ztag m → ztag m < 19 → Nat.xor (zraw m 0) 2147483648 = ztop) := by
  rcases zelse h with ⟨q, -⟩ | h
  · have := Nat.le_of_ble_eq_true q
    exact ⟨by omega, fun _ _ => by omega⟩
  · rcases zelse h with ⟨q, -⟩ | h
    · have := Nat.eq_of_beq_eq_true q
      exact ⟨by omega, fun _ _ => by omega⟩
    · obtain ⟨q, h⟩ := zand h
      have := Nat.le_of_ble_eq_true q
      exact ⟨by omega, fun _ _ => Nat.eq_of_beq_eq_true h⟩
theorem zM_ch {A : zAm} {I I' : qMI} {L L' : qML} {R : qMR} (hm : zM (I, L, R) 336 A I L R) (h13 : ∀ k, k < 336 → ztag (zcell A k) ≠ 13) (hI : ∀ k, k < 336 → I' k = I k ∨ zlx (zcell A k) = true ∨ ((ztag (zcell A k) < 15 → ∀ j, zkd (ztag (zcell A k)) j = 0 → zin (Nat.xor (zraw (zcell A k) j) 2147483648) (I' k j)) ∧ (16 ≤ ztag (zcell A k) → ztag (zcell A k) < 19 → ∀ j, j < zlen (zcell A k) → zin (Nat.xor (zraw (zcell A k) 0) 2147483648) (I' k j)))) : zM (I', L', R) 336 A I' L' R := by
  refine ⟨⟨fun k hk => ?_, fun k hk hk2 => ?_⟩, fun k _ => ⟨rfl, rfl, rfl⟩, fun k _ j _ => rfl⟩
  · obtain ⟨g1, g2, g3, g4⟩ := hm.1.1 k hk
    refine ⟨g1, g2, g3, fun j => ⟨fun q => ?_, fun q => absurd (zkd_1 q) (h13 k g1), fun q => (g4 j).2.2 q⟩⟩
    rcases hI k g1 with e | e | e
    · rw [e]; exact (g4 j).1 q
    · exact absurd hk (zlx_t e).1
    · exact e.1 hk j q
  · obtain ⟨g1, g2, g3, g4⟩ := hm.1.2 k hk hk2
    refine ⟨g1, g2, g3, fun h19 j hj => ?_⟩
    rcases hI k g1 with e | e | e
    · rw [e]; exact g4 h19 j hj
    · rw [(zlx_t e).2 hk h19]; exact zin_top _
    · exact e.2 hk h19 j hj
theorem zin_b2 {c a b : Nat} {x : Int32} (h : zin c x) (h1 : zlo c = a) (h2 : zhi c = b) : (a : Int) ≤ x.toInt + 2147483648 ∧ x.toInt + 2147483648 ≤ b := by
  have e := zb_int x
  have h3 := h.1
  have h4 := h.2
  rw [h1] at h3
  rw [h2] at h4
  omega
theorem zin_of {c a b : Nat} {x : Int32} (h1 : zlo c = a) (h2 : zhi c = b) (h3 : (a : Int) ≤ x.toInt + 2147483648) (h4 : x.toInt + 2147483648 ≤ b) : zin c x := by
  have e := zb_int x
  exact ⟨by rw [h1]; omega, by rw [h2]; omega⟩
theorem zfld {A : zAm} {I : qMI} {L : qML} {R : qMR} {m j c : Nat} (hm : zM (I, L, R) 336 A I L R) (e : zcell A 292 = m) (ht : Nat.beq (ztag m) 9 = true) (hj : qIsR (qTy 9 j) = false) (hc : Nat.xor (zraw m j) 2147483648 = c) : zin c (I 292 j) := by
  obtain ⟨-, -, -, -, f5⟩ := zM_at hm (a := 292) (tg := 9) (by rw [e]; exact ht) (by omega)
  have := (f5 j).1 (zkd_I (by decide) hj)
  rw [e, hc] at this
  exact this
theorem zuni {A : zAm} {I : qMI} {L : qML} {R : qMR} {k m c n : Nat} (hm : zM (I, L, R) 336 A I L R) (e : zcell A k = m) (ht : ztag m = 16) (hl : zlen m = n) (hc : Nat.xor (zraw m 0) 2147483648 = c) (j : Nat) (hj : j < n) : zin c (I k j) := by
  obtain ⟨-, -, -, g4⟩ := hm.1.2 k (by rw [e, ht]; decide) (by rw [e, ht]; decide)
  have := g4 (by rw [e, ht]; decide) j (by rw [e, hl]; exact hj)
  rw [e, hc] at this
  exact this
/-- the cells of the reference that count here -/
def zRef (A : zAm) : Prop := (zcell A 292 = zk131) ∧ (zcell A 295 = zk132) ∧ (zcell A 301 = zk107) ∧ (zcell A 304 = zk107) ∧ (∀ k, k < 336 → ztag (zcell A k) ≠ 13) ∧ (∀ k, k < 336 → yRc k ∨ k = 292 ∨ k = 295 ∨ k = 301 ∨ k = 304 ∨ zlx (zcell A k) = true) ∧ (zlx (zcell A 293) = true)
theorem zRef.c292 {A : zAm} (h : zRef A) : zcell A 292 = zk131 := h.1
theorem zRef.c295 {A : zAm} (h : zRef A) : zcell A 295 = zk132 := h.2.1
theorem zRef.c301 {A : zAm} (h : zRef A) : zcell A 301 = zk107 := h.2.2.1
theorem zRef.c304 {A : zAm} (h : zRef A) : zcell A 304 = zk107 := h.2.2.2.1
theorem zRef.c13 {A : zAm} (h : zRef A) : ∀ k, k < 336 → ztag (zcell A k) ≠ 13 := h.2.2.2.2.1
theorem zRef.lax {A : zAm} (h : zRef A) : ∀ k, k < 336 → yRc k ∨ k = 292 ∨ k = 295 ∨ k = 301 ∨ k = 304 ∨ zlx (zcell A k) = true := h.2.2.2.2.2.1
theorem zRef.l293 {A : zAm} (h : zRef A) : zlx (zcell A 293) = true := h.2.2.2.2.2.2
noncomputable def zRcb (k : Nat) : Bool := bif Nat.ble k 293 then true else (bif (bif Nat.ble 298 k then Nat.ble k 300 else false) then true else (bif (bif Nat.ble 321 k then Nat.ble k 322 else false) then true else (bif Nat.ble 325 k then (bif Nat.beq k 334 then false else true) else false)))
theorem zRcb_t {k : Nat} (h : zRcb k = true) : yRc k := by
  unfold yRc
  rcases zelse h with ⟨q, -⟩ | h
  · have := Nat.le_of_ble_eq_true q
    omega
  · rcases zelse h with ⟨q, -⟩ | h
    · obtain ⟨q1, q2⟩ := zand q
      have := Nat.le_of_ble_eq_true q1
      have := Nat.le_of_ble_eq_true q2
      omega
    · rcases zelse h with ⟨q, -⟩ | h
      · obtain ⟨q1, q2⟩ := zand q
        have := Nat.le_of_ble_eq_true q1
        have := Nat.le_of_ble_eq_true q2
        omega
      · obtain ⟨q1, q2⟩ := zand h
        have := Nat.le_of_ble_eq_true q1
        have h3 := (znot q2).1
        have : k ≠ 334 := fun e => by subst e; cases h3
        omega
noncomputable def zrdk (A : zAm) (k : Nat) : Bool := bif zRcb k then true else (bif Nat.beq k 292 then true else (bif Nat.beq k 295 then true else (bif Nat.beq k 301 then true else (bif Nat.beq k 304 then true else zlx (zcell A k)))))
theorem zref_of {A : zAm} (h1 : zcell A 292 = zk131) (h2 : zcell A 295 = zk132) (h3 : zcell A 301 = zk107) (h4 : zcell A 304 = zk107) (h5 : zup 0 336 (fun k => bif Nat.beq (ztag (zcell A k)) 13 then false else true) = true) (h6 : zup 0 336 (zrdk A) = true) (h7 : zlx (zcell A 293) = true) : zRef A := by
  refine ⟨h1, h2, h3, h4, fun k hk e => ?_, fun k hk => ?_, h7⟩
  · have := zup_t h5 k (Nat.zero_le _) (by omega)
    rw [e] at this
    cases this
  · have h := zup_t h6 k (Nat.zero_le _) (by omega)
    rcases zelse h with ⟨q, -⟩ | h
    · exact Or.inl (zRcb_t q)
    · refine Or.inr ?_
      rcases zelse h with ⟨q, -⟩ | h
      · exact Or.inl (Nat.eq_of_beq_eq_true q)
      · refine Or.inr ?_
        rcases zelse h with ⟨q, -⟩ | h
        · exact Or.inl (Nat.eq_of_beq_eq_true q)
        · refine Or.inr ?_
          rcases zelse h with ⟨q, -⟩ | h
          · exact Or.inl (Nat.eq_of_beq_eq_true q)
          · refine Or.inr ?_
            rcases zelse h with ⟨q, -⟩ | h
            · exact Or.inl (Nat.eq_of_beq_eq_true q)
            · exact Or.inr h
theorem zRef0 : zRef zAi0 := zref_of (by decide +kernel) (by decide +kernel) (by decide +kernel) (by decide +kernel) (by decide +kernel) (by decide +kernel) (by decide +kernel)
theorem zRef1 : zRef zAi1 := zref_of (by decide +kernel) (by decide +kernel) (by decide +kernel) (by decide +kernel) (by decide +kernel) (by decide +kernel) (by decide +kernel)
theorem vRi {A : zAm} {I : qMI} {L : qML} {R : qMR} (hA : zRef A) (hm : zM (I, L, R) 336 A I L R) (hg : zGood (I, L, R)) : yRi I := by
  refine ⟨?_, fun i hi => ?_, fun i hi => ⟨?_, ?_⟩, ?_⟩
  · have := (zin_b2 (zfld (j := 2) (c := 9223372043297228752) hm hA.c292 (by decide +kernel) rfl (by decide +kernel)) (a := 2147483648) (b := 2147485648) (by decide +kernel) (by decide +kernel))
    omega
  · have := (zin_b2 (zuni (k := 295) (n := 403) (c := 9223372043297226794) hm hA.c295 (by decide +kernel) (by decide +kernel) (by decide +kernel) i hi) (a := 2147483648) (b := 2147483690) (by decide +kernel) (by decide +kernel))
    omega
  · have := (zin_b2 (zuni (k := 301) (n := 2) (c := 9223372043297226758) hm hA.c301 (by decide +kernel) (by decide +kernel) (by decide +kernel) i hi) (a := 2147483648) (b := 2147483654) (by decide +kernel) (by decide +kernel))
    omega
  · have := (zin_b2 (zuni (k := 304) (n := 2) (c := 9223372043297226758) hm hA.c304 (by decide +kernel) (by decide +kernel) (by decide +kernel) i hi) (a := 2147483648) (b := 2147483654) (by decide +kernel) (by decide +kernel))
    omega
  · rcases hg with ⟨h1, h2, h3⟩ | ⟨h1, h2, h3⟩
    · exact ⟨0, Or.inl rfl, by rw [show I 292 18 = 0 from h1]; rfl, h2, h3⟩
    · exact ⟨1, Or.inr rfl, by rw [show I 292 18 = 1 from h1]; rfl, h2, h3⟩
theorem wkR_c : ∀ j, j < 65 → wkRl.getD j 0 ≠ 0 → qIsR (qTy 9 j) = true ∧ zdr (zraw zk131 j) = some (wkRl.getD j 0) := by decide +kernel
theorem vRR {A : zAm} {I : qMI} {L : qML} {R : qMR} (hA : zRef A) (hm : zM (I, L, R) 336 A I L R) : wkR R := by
  intro j hj
  have hj65 : j < 65 := by
    by_cases h : j < 65
    · exact h
    · exact absurd (by rw [List.getD_eq_getElem?_getD, List.getElem?_eq_none (by show 65 ≤ j; omega)]; rfl) hj
  obtain ⟨q1, q2⟩ := wkR_c j hj65 hj
  obtain ⟨-, -, -, -, f5⟩ := zM_at hm (a := 292) (tg := 9) (by rw [hA.c292]; decide +kernel) (by omega)
  have := (f5 j).2.2 (zkd_R (by decide) q1)
  rw [hA.c292, q2] at this
  exact this
theorem vF292 {A : zAm} {I I' : qMI} {L L' : qML} {R : qMR} (hA : zRef A) (hm : zM (I, L, R) 336 A I L R) (h : yRp I I') (j : Nat) (hk : zkd 9 j = 0) : zin (Nat.xor (zraw zk131 j) 2147483648) (I' 292 j) := by
  obtain ⟨hr, -, hj, h2, h4, h10, h11, h19, h51, h58⟩ := h
  obtain ⟨-, -, -, v, hv, h18, -, -⟩ := hr
  have hv18 : 0 ≤ (I' 292 18).toInt ∧ (I' 292 18).toInt ≤ 1 := by rw [h18]; omega
  have hq : qIsR (qTy 9 j) = false := by
    cases q : qIsR (qTy 9 j) with
    | false => rfl
    | true => rw [zkd_R (by decide) q] at hk; cases hk
  by_cases hy : yRj j
  · rw [hj j hy]
    exact zfld hm hA.c292 (by decide +kernel) hq rfl
  · have hc : j = 2 ∨ j = 4 ∨ j = 10 ∨ j = 11 ∨ j = 12 ∨ j = 13 ∨ j = 14 ∨ j = 15 ∨ j = 16 ∨ j = 17 ∨ j = 18 ∨ j = 19 ∨ j = 20 ∨ j = 34 ∨ j = 40 ∨ j = 44 ∨ j = 50 ∨ j = 51 ∨ j = 58 := by
      unfold yRj at hy
      omega
    rcases hc with e | e | e | e | e | e | e | e | e | e | e | e | e | e | e | e | e | e | e
    · subst e
      have ec : Nat.xor (zraw zk131 2) 2147483648 = 9223372043297228752 := by decide +kernel
      rw [ec]
      rw [h2]
      exact zin_of (a := 2147483648) (b := 2147485648) (by decide +kernel) (by decide +kernel) (by decide) (by decide)
    · subst e
      have ec : Nat.xor (zraw zk131 4) 2147483648 = 9223372043297228752 := by decide +kernel
      rw [ec]
      exact zin_of (a := 2147483648) (b := 2147485648) (by decide +kernel) (by decide +kernel) (by omega) (by omega)
    · subst e
      have ec : Nat.xor (zraw zk131 10) 2147483648 = 9223372043297227153 := by decide +kernel
      rw [ec]
      exact zin_of (a := 2147483648) (b := 2147484049) (by decide +kernel) (by decide +kernel) (by omega) (by omega)
    · subst e
      have ec : Nat.xor (zraw zk131 11) 2147483648 = 9223372043297227152 := by decide +kernel
      rw [ec]
      exact zin_of (a := 2147483648) (b := 2147484048) (by decide +kernel) (by decide +kernel) (by omega) (by omega)
    · subst e
      have ec : Nat.xor (zraw zk131 12) 2147483648 = ztop := by decide +kernel
      rw [ec]
      exact zin_top _
    · subst e
      have ec : Nat.xor (zraw zk131 13) 2147483648 = ztop := by decide +kernel
      rw [ec]
      exact zin_top _
    · subst e
      have ec : Nat.xor (zraw zk131 14) 2147483648 = ztop := by decide +kernel
      rw [ec]
      exact zin_top _
    · subst e
      have ec : Nat.xor (zraw zk131 15) 2147483648 = ztop := by decide +kernel
      rw [ec]
      exact zin_top _
    · subst e
      have ec : Nat.xor (zraw zk131 16) 2147483648 = ztop := by decide +kernel
      rw [ec]
      exact zin_top _
    · subst e
      have ec : Nat.xor (zraw zk131 17) 2147483648 = ztop := by decide +kernel
      rw [ec]
      exact zin_top _
    · subst e
      have ec : Nat.xor (zraw zk131 18) 2147483648 = 9223372043297226753 := by decide +kernel
      rw [ec]
      exact zin_of (a := 2147483648) (b := 2147483649) (by decide +kernel) (by decide +kernel) (by omega) (by omega)
    · subst e
      have ec : Nat.xor (zraw zk131 19) 2147483648 = 9223372043297226753 := by decide +kernel
      rw [ec]
      exact zin_of (a := 2147483648) (b := 2147483649) (by decide +kernel) (by decide +kernel) (by omega) (by omega)
    · subst e
      have ec : Nat.xor (zraw zk131 20) 2147483648 = ztop := by decide +kernel
      rw [ec]
      exact zin_top _
    · subst e
      have ec : Nat.xor (zraw zk131 34) 2147483648 = ztop := by decide +kernel
      rw [ec]
      exact zin_top _
    · subst e
      have ec : Nat.xor (zraw zk131 40) 2147483648 = ztop := by decide +kernel
      rw [ec]
      exact zin_top _
    · subst e
      have ec : Nat.xor (zraw zk131 44) 2147483648 = ztop := by decide +kernel
      rw [ec]
      exact zin_top _
    · subst e
      have ec : Nat.xor (zraw zk131 50) 2147483648 = ztop := by decide +kernel
      rw [ec]
      exact zin_top _
    · subst e
      have ec : Nat.xor (zraw zk131 51) 2147483648 = ztop := by decide +kernel
      rw [ec]
      exact zin_top _
    · subst e
      have ec : Nat.xor (zraw zk131 58) 2147483648 = 9223372043297226772 := by decide +kernel
      rw [ec]
      rcases h58 with q | q
      · rw [q]
        exact zfld hm hA.c292 (by decide +kernel) rfl ec
      · rw [q]
        exact zin_of (a := 2147483648) (b := 2147483668) (by decide +kernel) (by decide +kernel) (by decide) (by decide)
theorem vRead {A : zAm} {I I' : qMI} {L L' : qML} {R : qMR} (hA : zRef A) (hm : zM (I, L, R) 336 A I L R) (h : yRp I I') : zM (I', L', R) 336 A I' L' R ∧ zGood (I', L', R) := by
  have hF := vF292 (L' := L') hA hm h
  obtain ⟨hr, hk, -, -⟩ := h
  obtain ⟨-, r2, r3, v, hv, h18, s1, s2⟩ := hr
  have o292 : Nat.ble (ztag (zcell A 292)) 9 = true ∧ ztag (zcell A 292) = 9 := by rw [hA.c292]; exact ⟨by decide +kernel, by decide +kernel⟩
  have u295 : ztag (zcell A 295) = 16 ∧ zlen (zcell A 295) = 403 ∧ Nat.xor (zraw (zcell A 295) 0) 2147483648 = 9223372043297226794 := by rw [hA.c295]; exact ⟨by decide +kernel, by decide +kernel, by decide +kernel⟩
  have u301 : ztag (zcell A 301) = 16 ∧ zlen (zcell A 301) = 2 ∧ Nat.xor (zraw (zcell A 301) 0) 2147483648 = 9223372043297226758 := by rw [hA.c301]; exact ⟨by decide +kernel, by decide +kernel, by decide +kernel⟩
  have u304 : ztag (zcell A 304) = 16 ∧ zlen (zcell A 304) = 2 ∧ Nat.xor (zraw (zcell A 304) 0) 2147483648 = 9223372043297226758 := by rw [hA.c304]; exact ⟨by decide +kernel, by decide +kernel, by decide +kernel⟩
  have i292 : ∀ k, k = 292 → I' k = I k ∨ zlx (zcell A k) = true ∨ ((ztag (zcell A k) < 15 → ∀ j, zkd (ztag (zcell A k)) j = 0 → zin (Nat.xor (zraw (zcell A k) j) 2147483648) (I' k j)) ∧ (16 ≤ ztag (zcell A k) → ztag (zcell A k) < 19 → ∀ j, j < zlen (zcell A k) → zin (Nat.xor (zraw (zcell A k) 0) 2147483648) (I' k j))) := fun k e => by
    subst e
    refine Or.inr (Or.inr ⟨fun _ j hj => ?_, fun q _ => by omega⟩)
    rw [o292.2] at hj
    rw [hA.c292]
    exact hF j hj
  refine ⟨zM_ch hm hA.c13 (fun k hk' => ?_), ?_⟩
  · rcases hA.lax k hk' with e | e | e | e | e | e
    · by_cases h292 : k = 292
      · exact i292 k h292
      · exact Or.inl (hk k h292 e)
    · exact i292 k e
    · subst e
      obtain ⟨u1, u2, u3⟩ := u295
      refine Or.inr (Or.inr ⟨fun q => by omega, fun _ _ j hj => ?_⟩)
      rw [u2] at hj
      rw [u3]
      have := r2 j hj
      exact zin_of (a := 2147483648) (b := 2147483690) (by decide +kernel) (by decide +kernel) (by omega) (by omega)
    · subst e
      obtain ⟨u1, u2, u3⟩ := u301
      refine Or.inr (Or.inr ⟨fun q => by omega, fun _ _ j hj => ?_⟩)
      rw [u2] at hj
      rw [u3]
      have := (r3 j hj).1
      exact zin_of (a := 2147483648) (b := 2147483654) (by decide +kernel) (by decide +kernel) (by omega) (by omega)
    · subst e
      obtain ⟨u1, u2, u3⟩ := u304
      refine Or.inr (Or.inr ⟨fun q => by omega, fun _ _ j hj => ?_⟩)
      rw [u2] at hj
      rw [u3]
      have := (r3 j hj).2
      exact zin_of (a := 2147483648) (b := 2147483654) (by decide +kernel) (by decide +kernel) (by omega) (by omega)
    · exact Or.inr (Or.inl e)
  · rcases hv with rfl | rfl
    · exact Or.inl ⟨i_eq.mpr (by rw [h18]; rfl), s1, s2⟩
    · exact Or.inr ⟨i_eq.mpr (by rw [h18]; rfl), s1, s2⟩
theorem vTape {A : zAm} {I I' : qMI} {L : qML} {R : qMR} (hA : zRef A) (hm : zM (I, L, R) 336 A I L R) (hg : zGood (I, L, R)) (h : yTp I I') (h2 : 0 ≤ (I' 292 2).toInt ∧ (I' 292 2).toInt ≤ 2000) : zM (I', L, R) 336 A I' L R ∧ zGood (I', L, R) := by
  have o292 : ztag (zcell A 292) = 9 := by rw [hA.c292]; decide +kernel
  have hc : ∀ x ∈ zUN, I' x = I x := fun x hx => h.1 x (fun e => by subst e; revert hx; decide) (fun e => by subst e; revert hx; decide)
  refine ⟨zM_ch hm hA.c13 (fun k hk' => ?_), ?_⟩
  · by_cases e : k = 292
    · subst e
      refine Or.inr (Or.inr ⟨fun _ j hj => ?_, fun q _ => by omega⟩)
      rw [o292] at hj
      have hq : qIsR (qTy 9 j) = false := by
        cases q : qIsR (qTy 9 j) with
        | false => rfl
        | true => rw [zkd_R (by decide) q] at hj; cases hj
      by_cases e2 : j = 2
      · subst e2
        have ec : Nat.xor (zraw (zcell A 292) 2) 2147483648 = 9223372043297228752 := by rw [hA.c292]; decide +kernel
        rw [ec]
        exact zin_of (a := 2147483648) (b := 2147485648) (by decide +kernel) (by decide +kernel) (by omega) (by omega)
      · rw [h.2 j e2]
        exact zfld hm rfl (by rw [o292]; rfl) hq rfl
    · by_cases e2 : k = 293
      · subst e2
        exact Or.inr (Or.inl hA.l293)
      · exact Or.inl (h.1 k e e2)
  · rcases hg with ⟨h1, h3, h4⟩ | ⟨h1, h3, h4⟩
    · exact Or.inl ⟨(h.2 18 (by decide)).trans h1, zside_congr hc h3, zreg_congr hc h4⟩
    · exact Or.inr ⟨(h.2 18 (by decide)).trans h1, zside_congr hc h3, zreg_congr hc h4⟩
theorem vM {I : qMI} {L : qML} {R : qMR} (hv : vInv I L R) : ∃ A, zRef A ∧ zM (I, L, R) 336 A I L R ∧ zGood (I, L, R) ∧ ∀ I' L' R', zM (I', L', R') 336 A I' L' R' ∧ zGood (I', L', R') → vInv I' L' R' := by
  obtain ⟨hm | hm, hg⟩ := hv
  · exact ⟨_, zRef0, hm, hg, fun I' L' R' h => ⟨Or.inl h.1, h.2⟩⟩
  · exact ⟨_, zRef1, hm, hg, fun I' L' R' h => ⟨Or.inr h.1, h.2⟩⟩
