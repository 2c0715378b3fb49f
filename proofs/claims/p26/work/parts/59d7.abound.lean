/-! ===== a text without a fault tells of what is within bounds ===== -/
def aB (A : aD) : Prop := (∀ p ∈ A.1, bnd p.1) ∧ (∀ p ∈ A.2.1, bnd p.1 ∧ 0 ≤ p.2.toInt ∧ p.2.toInt ≤ 999) ∧ 0 ≤ (A.2.2.1 10).toInt ∧ (A.2.2.1 10).toInt ≤ 23
section
variable {K S : Nat → Int32} {N : Nat → Int64}
theorem zNote_s {w p : Int32} {z : pZ} (hw : w ≠ 0) : (zNote w p z).2.1.1 ≠ 0 := by
  unfold zNote
  by_cases c : z.2.1.1 = 0
  · rw [if_pos c]; exact hw
  · rw [if_neg c]; exact c
theorem zInt_s {lo hi : Int32} {z : pZ} (h : (zInt K S N lo hi z).2.1.1 = 0) : z.2.1.1 = 0 ∧ (pf (zInt K S N lo hi z) = 0 → lo.toInt ≤ (N (pt z)).toInt32.toInt ∧ (N (pt z)).toInt32.toInt ≤ hi.toInt) := by
  unfold zInt at h ⊢
  by_cases c : pf (zTake S (decide (K (pt z) = 3)) z) = 0 ∧ ((N (pt z)).toInt32 < lo ∨ hi < (N (pt z)).toInt32)
  · rw [if_pos c] at h
    exact absurd h (zNote_s (by decide))
  · rw [if_neg c] at h ⊢
    rw [zTake_2] at h
    refine ⟨h, fun q => ?_⟩
    have c : ¬ ((N (pt z)).toInt32 < lo ∨ hi < (N (pt z)).toInt32) := fun z => c ⟨q, z⟩
    have c1 := nlt (fun z => c (Or.inl z))
    have c2 := nlt (fun z => c (Or.inr z))
    omega
theorem zName_s {z : pZ} (h : (zName K S N z).2.1.1 = 0) : z.2.1.1 = 0 := by
  unfold zName at h
  split at h
  · split at h
    · exact absurd h (zNote_s (by decide))
    · rw [show (((zTake S (decide (K (pt z) = 2)) z).1, z.2.1, N (pt z) :: z.2.2.1, z.2.2.2) : pZ).2.1 = z.2.1 from rfl] at h
      exact h
  · rw [zTake_2] at h
    exact h
theorem zStand_s {b : Bool} {z : pZ} (h : (zStand K S N b z).2.1.1 = 0) : z.2.1.1 = 0 := by
  rw [zStand_1.2.1] at h
  split at h
  · exact zName_s (zInt_s (zInt_s h).1).1
  · exact zName_s (zInt_s (zInt_s h).1).1
theorem zSet_s {k : Int32} {z : pZ} (h : (zSet K S N k z).2.1.1 = 0) : z.2.1.1 = 0 := by
  unfold zSet at h
  split at h
  · exact (zInt_s h).1
  · split at h
    · exact (zInt_s h).1
    · split at h
      · exact (zInt_s h).1
      · split at h
        · exact (zInt_s h).1
        · rw [zFail_2] at h
          exact h
theorem zTell_s {z : pZ} (h : (zTell K S N z).2.1.1 = 0) : z.2.1.1 = 0 := by
  rw [zTell_eq, zMust_2] at h
  have e : ∀ (b c : Bool) (y : pZ), y = (if (K (pt z) = 128 ∧ 6 ≤ z.2.2.2.1) ∨ (K (pt z) = 129 ∧ 6 ≤ z.2.2.2.2) then zFail S 2 z else z) → (zTake S b y).2.1.1 = 0 → z.2.1.1 = 0 := by
    intro b c y hy hq
    rw [zTake_2, hy] at hq
    split at hq
    · rw [zFail_2] at hq; exact hq
    · exact hq
  split at h
  · exact e _ true _ rfl (zStand_s h)
  · split at h
    · exact e _ true _ rfl (zStand_s h)
    · split at h
      · rw [zLaw_2] at h
        exact e _ true _ rfl h
      · exact e _ true _ rfl (zSet_s h)
theorem zAll_s : ∀ (n : Nat) (z : pZ), (zAll K S N n z).2.1.1 = 0 → z.2.1.1 = 0
  | 0, _, h => h
  | n + 1, z, h => by
    rw [zAll] at h
    split at h
    · exact zTell_s (zAll_s n _ h)
    · exact h
theorem zTkS {z : pZ} (hb : pB z) (h : pf (zTake S true z) = 0) : pf z = 0 ∧ pt (zTake S true z) = pt z + 1 ∧ pB (zTake S true z) := by
  obtain ⟨h1, h2, h3⟩ := zTake_pg hb h
  exact ⟨h1, h2, fun _ => h3⟩
theorem aTell_b {z : pZ} {A : aD} (hb : pB z) (h0 : pf (zTell K S N z) = 0) (hs : (zTell K S N z).2.1.1 = 0) (hA : aB A) : aB (aTell K S N z A) := by
  obtain ⟨a1, a2, a3⟩ := id hA
  by_cases c1 : K (pt z) = 128
  · rw [zTell_128 c1] at h0 hs
    rw [zMust_2] at hs
    have p1 := zMust_0 h0
    have n6 : ¬ 6 ≤ z.2.2.2.1 := fun q => by
      rw [if_pos q, zTake_f (zFail_n (by decide)), zStand_f (zFail_n (by decide))] at p1
      exact zFail_n (by decide) p1
    rw [if_neg n6] at p1 hs
    have p0 := (zName_0 (zStand_0 p1)).1
    obtain ⟨t1, t2, t3⟩ := zTkS hb p0
    have p1 : (zStand K S N true (zTake S true z)).1.2.1 = 0 := p1
    rw [zStand_true.1] at p1
    rw [zStand_true.2] at hs
    have i1 := zInt_s hs
    have p2 := zInt_0 p1
    have i2 := zInt_s i1.1
    have p3 := zInt_0 p2
    have e2 := zName_pt t3 p3
    have b2 := i2.2 p2
    rw [e2, t2] at b2
    unfold aTell
    rw [if_pos c1]
    refine ⟨fun p hp => ?_, a2, a3⟩
    rcases List.mem_append.mp hp with hp | hp
    · exact a1 p hp
    · rw [List.mem_singleton] at hp
      rw [hp]
      exact ⟨b2.1, b2.2⟩
  by_cases c2 : K (pt z) = 129
  · rw [zTell_129 c2] at h0 hs
    rw [zMust_2] at hs
    have p1 := zMust_0 h0
    have n6 : ¬ 6 ≤ z.2.2.2.2 := fun q => by
      rw [if_pos q, zTake_f (zFail_n (by decide)), zStand_f (zFail_n (by decide))] at p1
      exact zFail_n (by decide) p1
    rw [if_neg n6] at p1 hs
    have p0 := (zName_0 (zStand_0 p1)).1
    obtain ⟨t1, t2, t3⟩ := zTkS hb p0
    have p1 : (zStand K S N false (zTake S true z)).1.2.1 = 0 := p1
    rw [zStand_false.1] at p1
    rw [zStand_false.2] at hs
    have i1 := zInt_s hs
    have p2 := zInt_0 p1
    have i2 := zInt_s i1.1
    have p3 := zInt_0 p2
    have e2 := zName_pt t3 p3
    have e3 := zInt_pt (lo := 0) (hi := 19) (pB_name (K := K) (S := S) (N := N) t3) p2
    have b2 := i2.2 p2
    have b1 := i1.2 p1
    rw [e2, t2] at b2
    rw [e3, e2, t2] at b1
    unfold aTell
    rw [if_neg c1, if_pos c2]
    refine ⟨a1, fun p hp => ?_, a3⟩
    rcases List.mem_append.mp hp with hp | hp
    · exact a2 p hp
    · rw [List.mem_singleton] at hp
      rw [hp]
      exact ⟨⟨b2.1, b2.2⟩, b1.1, b1.2⟩
  by_cases c3 : 130 ≤ K (pt z) ∧ K (pt z) < 135
  · unfold aTell
    rw [if_neg c1, if_neg c2, if_pos c3]
    exact hA
  · rw [zTell_o c1 c2, if_neg c3] at h0 hs
    rw [zMust_2] at hs
    have p1 := zMust_0 h0
    unfold aTell
    rw [if_neg c1, if_neg c2, if_neg c3]
    refine ⟨a1, a2, ?_⟩
    show 0 ≤ (if 10 = sIx (K (pt z)) then (N (pt z + 1)).toInt32 else A.2.2.1 10).toInt ∧ (if 10 = sIx (K (pt z)) then (N (pt z + 1)).toInt32 else A.2.2.1 10).toInt ≤ 23
    by_cases c4 : K (pt z) = 137
    · have hd : decide (128 ≤ K (pt z) ∧ K (pt z) ≤ 138) = true := by rw [c4]; decide
      rw [hd, c4] at p1 hs
      have es : ∀ y : pZ, zSet K S N 137 y = zInt K S N 0 23 y := fun y => by
        unfold zSet
        rw [if_neg (by decide), if_neg (by decide), if_pos rfl]
      rw [es] at p1 hs
      obtain ⟨t1, t2, t3⟩ := zTkS hb (zInt_0 p1)
      have b := (zInt_s hs).2 p1
      rw [t2] at b
      rw [c4, if_pos (by decide)]
      exact b
    · rw [if_neg (fun q => c4 ?_)]
      · exact a3
      · unfold sIx at q
        exact i_eq.mpr (by rw [show (137 : Int32).toInt = 137 from rfl]; omega)
theorem aAll_b : ∀ (n : Nat) (z : pZ) (A : aD), pB z → pf (zAll K S N n z) = 0 → (zAll K S N n z).2.1.1 = 0 → aB A → aB (aAll K S N n z A)
  | 0, _, A, _, _, _, hA => hA
  | n + 1, z, A, hb, h0, hs, hA => by
    rw [aAll]
    rw [zAll] at h0 hs
    by_cases c : pf z = 0 ∧ ¬ K (pt z) = 0
    · rw [if_pos c] at h0 hs ⊢
      exact aAll_b n _ _ (pB_tell hb) h0 hs (aTell_b hb (zAll_0 n _ h0) (zAll_s n _ hs) hA)
    · rw [if_neg c]; exact hA
theorem zAns_0 {z : pZ} (h : zAns z = 0) : pf z = 0 ∧ z.2.1.1 = 0 := by
  unfold zAns at h
  by_cases q : pf z = 0
  · rw [if_pos q] at h
    exact ⟨q, h⟩
  · rw [if_neg q] at h
    exact absurd h q
theorem aText_b (h : zAns (zText K S N) = 0) : aB (aText K S N) := by
  obtain ⟨h1, h2⟩ := zAns_0 h
  refine aAll_b 401 _ _ (fun _ => Nat.zero_le _) h1 h2 ⟨fun p hp => ?_, fun p hp => ?_, by decide, by decide⟩
  · cases hp
  · cases hp
theorem aOk_of {A : aD} (h6 : A.1.length ≤ 6 ∧ A.2.1.length ≤ 6) (h : aB A) : aOk A := by
  obtain ⟨h1, h2, h3⟩ := h
  refine ⟨h6, fun e he => ?_, h2, h3⟩
  unfold tX
  rw [List.getD_eq_getElem?_getD, List.getElem?_eq_getElem he]
  exact h1 _ (List.getElem_mem he)
theorem fOk_bX {A : aD} (h : aOk A) : fOk A (bX A) := by
  obtain ⟨h6, h1, h2, h3⟩ := h
  have z0 : (0 : Int32).toInt = 0 := rfl
  refine ⟨fun a ha => ?_, fun a ha => ?_, fun k hk => ?_, fun k hk _ => ?_, fun a e ha he _ => ?_⟩
  · unfold bX
    rw [if_neg (by omega), if_pos ha]
    by_cases c : a < A.2.1.length
    · rw [List.getElem?_eq_getElem c]
      exact (h2 _ (List.getElem_mem c)).1
    · rw [List.getElem?_eq_none (by omega)]
      exact ⟨by decide, by decide⟩
  · unfold bX
    rw [if_neg (by omega), if_neg (by omega), if_pos (by omega), show 6 + a - 6 = a by omega]
    by_cases c : a < A.2.1.length
    · rw [List.getElem?_eq_getElem c]
      have := (h2 _ (List.getElem_mem c)).2
      exact ⟨this.1, Int.le_trans this.2 (by decide)⟩
    · rw [List.getElem?_eq_none (by omega)]
      exact ⟨by decide, by decide⟩
  · unfold bX
    rw [if_neg (by omega), if_neg (by omega), if_neg (by omega)]
    exact ⟨by decide, by decide⟩
  · unfold bX
    rw [if_neg (by omega), if_neg (by omega), if_neg (by omega)]
  · unfold bX
    rw [if_neg (by omega), if_neg (by omega), if_neg (by omega)]
end
