/-! ===== the reference's tells, exact ===== -/
section
variable {K S : Nat → Int32} {N : Nat → Int64}
theorem zTell_eq {z : pZ} : zTell K S N z = zMust K S 59 (if K (pt z) = 128 then zStand K S N true (zTake S (decide (128 ≤ K (pt z) ∧ K (pt z) ≤ 138)) (if (K (pt z) = 128 ∧ 6 ≤ z.2.2.2.1) ∨ (K (pt z) = 129 ∧ 6 ≤ z.2.2.2.2) then zFail S 2 z else z)) else if K (pt z) = 129 then zStand K S N false (zTake S (decide (128 ≤ K (pt z) ∧ K (pt z) ≤ 138)) (if (K (pt z) = 128 ∧ 6 ≤ z.2.2.2.1) ∨ (K (pt z) = 129 ∧ 6 ≤ z.2.2.2.2) then zFail S 2 z else z)) else if 130 ≤ K (pt z) ∧ K (pt z) < 135 then zLaw K S (zTake S (decide (128 ≤ K (pt z) ∧ K (pt z) ≤ 138)) (if (K (pt z) = 128 ∧ 6 ≤ z.2.2.2.1) ∨ (K (pt z) = 129 ∧ 6 ≤ z.2.2.2.2) then zFail S 2 z else z)) else zSet K S N (K (pt z)) (zTake S (decide (128 ≤ K (pt z) ∧ K (pt z) ≤ 138)) (if (K (pt z) = 128 ∧ 6 ≤ z.2.2.2.1) ∨ (K (pt z) = 129 ∧ 6 ≤ z.2.2.2.2) then zFail S 2 z else z))) := rfl
theorem zTell_128 {z : pZ} (h : K (pt z) = 128) : zTell K S N z = zMust K S 59 (zStand K S N true (zTake S true (if 6 ≤ z.2.2.2.1 then zFail S 2 z else z))) := by
  rw [zTell_eq]
  rw [h, if_pos rfl]
  by_cases q : 6 ≤ z.2.2.2.1
  · rw [if_pos q, if_pos (Or.inl ⟨rfl, q⟩)]; rfl
  · rw [if_neg q, if_neg (fun x => by rcases x with x | x; exact q x.2; exact absurd x.1 (by decide))]; rfl
theorem zTell_129 {z : pZ} (h : K (pt z) = 129) : zTell K S N z = zMust K S 59 (zStand K S N false (zTake S true (if 6 ≤ z.2.2.2.2 then zFail S 2 z else z))) := by
  rw [zTell_eq]
  rw [h, if_neg (show ¬ (129 : Int32) = 128 by decide), if_pos rfl]
  by_cases q : 6 ≤ z.2.2.2.2
  · rw [if_pos q, if_pos (Or.inr ⟨rfl, q⟩)]; rfl
  · rw [if_neg q, if_neg (fun x => by rcases x with x | x; exact absurd x.1 (by decide); exact q x.2)]; rfl
theorem zTell_o {z : pZ} (h1 : ¬ K (pt z) = 128) (h2 : ¬ K (pt z) = 129) : zTell K S N z = zMust K S 59 (if 130 ≤ K (pt z) ∧ K (pt z) < 135 then zLaw K S (zTake S (decide (128 ≤ K (pt z) ∧ K (pt z) ≤ 138)) z) else zSet K S N (K (pt z)) (zTake S (decide (128 ≤ K (pt z) ∧ K (pt z) ≤ 138)) z)) := by
  rw [zTell_eq, if_neg h1, if_neg h2, if_neg (show ¬ ((K (pt z) = 128 ∧ 6 ≤ z.2.2.2.1) ∨ (K (pt z) = 129 ∧ 6 ≤ z.2.2.2.2)) from fun x => x.elim (fun y => h1 y.1) (fun y => h2 y.1))]
theorem zStand_f {b : Bool} {z : pZ} (h : pf z ≠ 0) : zStand K S N b z = z := by
  unfold zStand
  cases b with
  | true => rw [if_pos rfl, zName_f h, zInt_f h, zInt_f h]; show (if pf z = 0 then _ else z) = z; rw [if_neg h]
  | false => rw [if_neg (by decide), zName_f h, zInt_f h, zInt_f h]; show (if pf z = 0 then _ else z) = z; rw [if_neg h]
theorem zStand_1 {z : pZ} {b : Bool} : (zStand K S N b z).1 = (if b = true then zInt K S N 1 9 (zInt K S N 0 19 (zName K S N z)) else zInt K S N 0 999 (zInt K S N 0 19 (zName K S N z))).1 ∧ (zStand K S N b z).2.1 = (if b = true then zInt K S N 1 9 (zInt K S N 0 19 (zName K S N z)) else zInt K S N 0 999 (zInt K S N 0 19 (zName K S N z))).2.1 ∧ (zStand K S N b z).2.2.1 = (zName K S N z).2.2.1 := by
  have e : (if b = true then zInt K S N 1 9 (zInt K S N 0 19 (zName K S N z)) else zInt K S N 0 999 (zInt K S N 0 19 (zName K S N z))).2.2 = (zName K S N z).2.2 := by split <;> rw [zInt_3, zInt_3]
  unfold zStand
  rw [← e]
  generalize (if b = true then zInt K S N 1 9 (zInt K S N 0 19 (zName K S N z)) else zInt K S N 0 999 (zInt K S N 0 19 (zName K S N z))) = w
  show (if pf w = 0 then _ else w).1 = _ ∧ (if pf w = 0 then _ else w).2.1 = _ ∧ (if pf w = 0 then _ else w).2.2.1 = _
  split
  · split <;> exact ⟨rfl, rfl, rfl⟩
  · exact ⟨rfl, rfl, rfl⟩
theorem zStand_true {z : pZ} : (zStand K S N true z).1 = (zInt K S N 1 9 (zInt K S N 0 19 (zName K S N z))).1 ∧ (zStand K S N true z).2.1 = (zInt K S N 1 9 (zInt K S N 0 19 (zName K S N z))).2.1 := by
  have h := zStand_1 (K := K) (S := S) (N := N) (z := z) (b := true)
  rw [if_pos rfl] at h
  exact ⟨h.1, h.2.1⟩
theorem zStand_false {z : pZ} : (zStand K S N false z).1 = (zInt K S N 0 999 (zInt K S N 0 19 (zName K S N z))).1 ∧ (zStand K S N false z).2.1 = (zInt K S N 0 999 (zInt K S N 0 19 (zName K S N z))).2.1 := by
  have h := zStand_1 (K := K) (S := S) (N := N) (z := z) (b := false)
  rw [if_neg (by decide)] at h
  exact ⟨h.1, h.2.1⟩
theorem zStand_0 {z : pZ} {b : Bool} (h : pf (zStand K S N b z) = 0) : pf (zName K S N z) = 0 := by
  have e : pf (if b = true then zInt K S N 1 9 (zInt K S N 0 19 (zName K S N z)) else zInt K S N 0 999 (zInt K S N 0 19 (zName K S N z))) = 0 := by
    have h' : (zStand K S N b z).1.2.1 = 0 := h
    rw [zStand_1.1] at h'
    exact h'
  cases b with
  | true => rw [if_pos rfl] at e; exact zInt_0 (zInt_0 e)
  | false => rw [if_neg (by decide)] at e; exact zInt_0 (zInt_0 e)
theorem zName_0 {z : pZ} (h : pf (zName K S N z) = 0) : pf z = 0 ∧ K (pt z) = 2 ∧ ∀ x, x ∈ (zName K S N z).2.2.1 ↔ (x = N (pt z) ∨ x ∈ z.2.2.1) := by
  have ht : pf (zTake S (decide (K (pt z) = 2)) z) = 0 := by
    unfold zName at h
    split at h
    · assumption
    · exact h
  have hf := zTake_0 ht
  have hk : K (pt z) = 2 := by
    by_cases c : K (pt z) = 2
    · exact c
    · rw [decide_eq_false c] at ht
      unfold zTake at ht
      rw [if_pos hf, if_neg (by decide)] at ht
      exact absurd ht (by show ¬ (1 : Int32) = 0; decide)
  refine ⟨hf, hk, fun x => ?_⟩
  unfold zName
  rw [if_pos ht]
  by_cases c : N (pt z) ∈ z.2.2.1
  · rw [if_pos c, zNote_1.2, zTake_2]
    exact ⟨fun q => Or.inr q, fun q => q.elim (fun q => by rw [q]; exact c) id⟩
  · rw [if_neg c]
    exact List.mem_cons
end
/-- between two that are told -/
def rQs (T : Nat) (K S : Nat → Int32) (N : Nat → Int64) (s : Nat) (I0 : qMI) (L0 : qML) (I : qMI) (L : qML) (z : pZ) (c br th se : Nat) : Prop := yPS s I0 I c br th se ∧ rG T K S N I L z ∧ (∀ k, k ≠ 300 → L k = L0 k) ∧ (pf z = 0 → (th = z.2.2.2.1 ∧ se = z.2.2.2.2) ∧ rNm I L z.2.2.1)
def rP1 (T : Nat) (K S : Nat → Int32) (N : Nat → Int64) (s : Nat) (I0 : qMI) (L0 : qML) (I : qMI) (z' : pZ) (I' : qMI) (L' : qML) : Prop := ∃ c br th se, rQs T K S N s I0 L0 I' L' z' c br th se ∧ (I' 292 13 = 0 → (I 292 11).toInt + 1 ≤ (I' 292 11).toInt)
section
variable {l : Launch} {G : qG} {d : Nat} {I I0 : qMI} {L L0 : qML} {R : qMR} {s c br th se : Nat} {T : Nat} {K S : Nat → Int32} {N : Nat → Int64} {z : pZ}
theorem rNm_s {J : qMI} {ns : List Int64} (h : rNm I L ns) (g : J 292 20 = I 292 20) : rNm J L ns := by
  unfold rNm
  rw [g]
  exact h
theorem rThing (hR : wkR R) (hs : s = 0 ∨ s = 1) (h19 : (I0 292 19).toInt = s) (hQ : rQs T K S N s I0 L0 I L z c br th se) (z0 : pf z = 0) (hK : K (pt z) = 128) : wkB l G (d + 4 + 1) n_X9_tellOne (wkPV R (fun I' L' => rP1 T K S N s I0 L0 I (zTell K S N z) I' L')) 68 [.ref 292, wkU] [] I L R := by
  obtain ⟨h, g, hL0, hZ⟩ := hQ
  have f0 : I 292 13 = 0 := by rw [g.2.1]; exact z0
  obtain ⟨⟨zt, zs⟩, hnm⟩ := hZ z0
  have e19 : ∀ J c br th se, yPS s I0 J c br th se → (J 292 19).toInt = s := fun J c br th se hJ => by rw [hJ.1.2.2.2.2.2 19 (by decide) (by decide) (by decide) (by decide) (by decide) (by decide) (by decide) (by decide) (by decide) (by decide)]; exact h19
  have v19 : ∀ J c br th se, yPS s I0 J c br th se → vp_in (J 292 19) 2 ∧ (J 292 19).toNatClampNeg = s := fun J c br th se hJ => by have := e19 J c br th se hJ; exact ⟨vin (by omega) (by omega), by rw [tcn]; omega⟩
  obtain ⟨v1, w1⟩ := v19 _ _ _ _ _ h
  refine w_X9_tellOne_68 hR v1 (rRoom (d := d + 1) hR h.2.1.1 g (fun _ => by rw [hK]; decide)) (fun I1 L1 hq => ?_)
  obtain ⟨rfl, hN1, hne, g1⟩ := hq
  rw [w1] at hne g1
  have e6 : (I 301 s = 6) ↔ 6 ≤ z.2.2.2.1 := by
    have b := h.2.2.2.1
    rw [i_eq, show (6 : Int32).toInt = 6 from rfl]
    omega
  have ey : (if I 301 s = 6 then zFail S 2 z else z) = (if 6 ≤ z.2.2.2.1 then zFail S 2 z else z) := by
    by_cases q : I 301 s = 6
    · rw [if_pos q, if_pos (e6.mp q)]
    · rw [if_neg q, if_neg (fun x => q (e6.mpr x))]
  rw [ey] at g1
  rw [zTell_128 hK]
  have y3 : (zTake S true (if 6 ≤ z.2.2.2.1 then zFail S 2 z else z)).2 = z.2 := by
    rw [zTake_2]
    split
    · exact zFail_2
    · rfl
  generalize zTake S true (if 6 ≤ z.2.2.2.1 then zFail S 2 z else z) = y at g1 y3
  have h1 := yPS_s h hN1.1
  have e20 : I1 292 20 = I 292 20 := hN1.1.1.2 20 (by decide) (by decide) (by decide) (by decide) (by decide)
  refine w_X9_tellOne_83 (fun q => ?_) (fun q => w_X9_tellOne_90 ⟨rfl, rfl, rfl, c, br, th, se, ⟨h1, ?_, hL0, fun x => ?_⟩, fun x => absurd (by rw [x]; decide) q⟩)
  rotate_left
  · have yf : pf y ≠ 0 := fun x => q (by rw [g1.2.1, x]; decide)
    rw [zStand_f yf, zMust_f yf]
    exact g1
  · have yf : pf y ≠ 0 := fun x => q (by rw [g1.2.1, x]; decide)
    rw [zStand_f yf, zMust_f yf] at x
    exact absurd x yf
  have g1' := yf0 h1.2.1.1 q
  have y0 : pf y = 0 := by rw [← g1.2.1]; exact g1'
  have hlt : th ≤ 5 := by
    have a := hne g1'
    have b := h.2.2.2.1
    have : ¬ (I 301 s).toInt = 6 := fun x => a (i_eq.mpr x)
    omega
  refine w_X9_tellOne_91 (rNamed (d := d) hR h1.2.1.1 h1.2.2.2.2.1.2 h1.2.2.2.2.1.1 g1 y0 (by rw [y3]; exact rNm_s hnm e20)) (fun tk I2 L2 hq => ?_)
  obtain ⟨rfl, rfl, hN2, g2⟩ := hq
  have h2 := yPS_s h1 hN2.1
  obtain ⟨v2, w2⟩ := v19 _ _ _ _ _ h2
  have ix : ∀ J, yPS s I0 J c br th se → (6 * J 292 19 + J 301 s).toInt = 6 * s + th := by
    intro J hJ
    have a := e19 _ _ _ _ _ hJ
    have b := hJ.2.2.2.1
    have e6 : ((6 : Int32) * J 292 19).toInt = 6 * s := by rw [i_mul (by rw [show (6 : Int32).toInt = 6 from rfl]; omega) (by rw [show (6 : Int32).toInt = 6 from rfl]; omega), show (6 : Int32).toInt = 6 from rfl, a]
    rw [i_add (by omega) (by omega), e6]
    omega
  refine w_X9_tellOne_95 hR v2 (rBounded (d := d + 1) hR h2.2.1.1 g2) (fun y' I3 L3 hq => ?_)
  obtain ⟨rfl, hN3, g3⟩ := hq
  have h3 := yPS_s h2 hN3.1
  rw [w2]
  have i2 := ix _ h2
  have h4 := yPS_w (k := 302) (i := (6 * I2 292 19 + I2 301 s).toNatClampNeg) (x := y') (by omega) h3
  obtain ⟨v4, w4⟩ := v19 _ _ _ _ _ h4
  refine w_X9_tellOne_124 hR (vin (by omega) (by omega)) v4 (rBounded (d := d + 1) hR h4.2.1.1 (rG_c (by omega) g3)) (fun y2 I5 L5 hq => ?_)
  obtain ⟨rfl, hN5, g5⟩ := hq
  rw [w4]
  have i4 := ix _ h4
  have h5 := yPS_s h4 hN5.1
  have h6 := yPS_w (k := 303) (i := (6 * (qUp I3 302 (6 * I2 292 19 + I2 301 s).toNatClampNeg y') 292 19 + (qUp I3 302 (6 * I2 292 19 + I2 301 s).toNatClampNeg y') 301 s).toNatClampNeg) (x := y2) (by omega) h5
  have g6 : rG T K S N _ L5 (zStand K S N true y) := rG_z (rG_c (k := 303) (i := (6 * (qUp I3 302 (6 * I2 292 19 + I2 301 s).toNatClampNeg y') 292 19 + (qUp I3 302 (6 * I2 292 19 + I2 301 s).toNatClampNeg y') 301 s).toNatClampNeg) (x := y2) (by omega) g5) zStand_true.1 zStand_true.2
  refine w_X9_tellOne_153 (vin (by omega) (by omega)) (rEnds (d := d) hR h6.2.1.1 (yOk_t h1.2.1.1) (fun x => ?_) g6) (fun I7 L7 hq => ?_)
  · have a := (h6.2.2.2.2.2 x).1
    have b := h6.2.2.2.1
    exact vin (by omega) (by omega)
  obtain ⟨g7, hq⟩ := hq
  rcases hq with ⟨q1, q2, rfl⟩ | ⟨q1, ⟨J, q2, q3, q4⟩, qL⟩
  · exact w_X9_tellOne_159 (fun _ => w_X9_tellOne_427 ⟨rfl, rfl, rfl, c, br, th, se, ⟨yPS_s h6 q2, g7, hL0, fun x => absurd (g7.2.1.trans x) q1⟩, fun x => absurd x q1⟩) (fun x => absurd x q1)
  · have hJ := yPS_s h6 q2.1
    refine w_X9_tellOne_159 (fun x => absurd q1 x) (fun _ => ?_)
    have o7 : ∀ k, k ≠ 292 → I7 k = J k := fun k a => by rw [q4]; exact funext fun i => qUp_ne (fun q => a q.1)
    have f7 : ∀ j, j ≠ 20 → I7 292 j = J 292 j := fun j a => by rw [q4]; exact qUp_ne (fun q => a q.2)
    have e7 : (I7 292 19).toInt = s := by rw [f7 19 (by decide)]; exact e19 _ _ _ _ _ hJ
    have v7 : vp_in (I7 292 19) 2 := vin (by omega) (by omega)
    have w7 : (I7 292 19).toNatClampNeg = s := by rw [tcn]; omega
    have m0 : pf (zMust K S 59 (zStand K S N true y)) = 0 := by rw [← g7.2.1]; exact q1
    have m1 : pf (zStand K S N true y) = 0 := zMust_0 m0
    obtain ⟨-, yk, ym⟩ := zName_0 (zStand_0 m1)
    have mc := (zStand_c m1).2
    have e20z : (I7 292 20).toInt = (I 292 20).toInt + 1 := by
      rw [q4, qUp_at, if_pos ⟨rfl, rfl⟩, i_s (by have := h6.2.2.2.2.1; omega)]
      rw [qUp_ne (by omega), hN5.1.1.2 20 (by decide) (by decide) (by decide) (by decide) (by decide), qUp_ne (by omega), hN3.1.1.2 20 (by decide) (by decide) (by decide) (by decide) (by decide), hN2.1.1.2 20 (by decide) (by decide) (by decide) (by decide) (by decide), e20]
    have tkv : (I1 292 11).toNatClampNeg = pt y := (rAt g1.w y0).1
    have nv : L5 298 (I1 292 11).toNatClampNeg = N (pt y) := by rw [tkv]; exact (g1.1.2.1 _ (rAt g1.w y0).2.1).2.2.2.2 yk
    refine w_X9_tellOne_166 hR v7 v7 (w_X9_tellOne_427 ⟨rfl, rfl, rfl, c, br, (th + 1), se, ⟨?_, ?_, ?_, fun _ => ⟨⟨?_, ?_⟩, ?_⟩⟩, fun _ => ?_⟩)
    · rw [w7]
      have hCt : (J 301 s).toInt = th := by have := hJ.2.2.2.1; omega
      have fz : ∀ j, (qUp I7 301 s (I7 301 s + 1)) 292 j = I7 292 j := fun j => qUp_ne (by omega)
      have oz : ∀ k, k ≠ 292 → k ≠ 301 → (qUp I7 301 s (I7 301 s + 1)) k = J k := fun k a b => (funext fun i => qUp_ne (fun q => b q.1)).trans (o7 k a)
      have eC : ((qUp I7 301 s (I7 301 s + 1)) 301 s).toInt = th + 1 := by rw [qUp_at, if_pos ⟨rfl, rfl⟩, o7 301 (by decide), i_s (by omega), hCt]
      obtain ⟨j1, j2, j3, j4, j5, j6⟩ := hJ
      obtain ⟨x1, x2, x3, x4⟩ := j6 q3
      have e20 : (I7 292 20).toInt = th + se + 1 := by
        rw [q4, qUp_at, if_pos ⟨rfl, rfl⟩, i_s (by have := h6.2.2.2.2.1; omega)]
        have := (h6.2.2.2.2.2 (yS_f0 q2.1 q3)).1
        omega
      refine ⟨yF_tr j1 (yF_tr (by rw [q4]; exact yF_up (by omega)) (yF_up (by omega))), yCS_of j2 (fun j hj => by rw [fz, f7 j (by omega)]), by rw [fz, f7 34 (by decide)]; exact j3, ?_, by rw [fz]; omega, fun _ => ⟨by rw [fz, e20]; omega, by rw [fz, f7 11 (by decide)]; exact x2, fun b b1 b2 => ?_, fun k hk => by rw [oz 311 (by decide) (by decide), oz 312 (by decide) (by decide)]; exact x4 k hk⟩⟩
      · rw [eC, oz 304 (by decide) (by decide)]
        omega
      · exact yB_congr (Nat.le_refl _) (fun i _ => ⟨by rw [oz 318 (by decide) (by decide)], by rw [oz 319 (by decide) (by decide)]⟩) ⟨by rw [oz 313 (by decide) (by decide)], by rw [oz 314 (by decide) (by decide)], by rw [oz 315 (by decide) (by decide)], by rw [oz 316 (by decide) (by decide)], by rw [oz 317 (by decide) (by decide)]⟩ (x3 b b1 b2)
    · exact rG_c (by omega) g7
    · intro k hk
      rw [qL]
      exact (funext fun i => by rw [qUpL_at, if_neg (fun x => hk x.1)]).trans (hL0 k hk)
    · show (th + 1) = (zMust K S 59 (zStand K S N true y)).2.2.2.1
      rw [zMust_2, mc, y3, zt]
      rfl
    · show se = (zMust K S 59 (zStand K S N true y)).2.2.2.2
      rw [zMust_2, mc, y3, zs]
      rfl
    · intro x
      rw [zMust_2, zStand_1.2.2, ym, y3, hnm x, qUp_ne (by omega), e20z, qL]
      have e20n : ((qUp I5 303 (6 * (qUp I3 302 (6 * I2 292 19 + I2 301 s).toNatClampNeg y') 292 19 + (qUp I3 302 (6 * I2 292 19 + I2 301 s).toNatClampNeg y') 301 s).toNatClampNeg y2) 292 20) = I 292 20 := by
        rw [qUp_ne (by omega), hN5.1.1.2 20 (by decide) (by decide) (by decide) (by decide) (by decide), qUp_ne (by omega), hN3.1.1.2 20 (by decide) (by decide) (by decide) (by decide) (by decide), hN2.1.1.2 20 (by decide) (by decide) (by decide) (by decide) (by decide), e20]
      rw [e20n, nv]
      have n0 := h.2.2.2.2.1.1
      constructor
      · rintro (q | ⟨k, k1, k2⟩)
        · exact ⟨(I 292 20).toNatClampNeg, by rw [tcn]; omega, by rw [qUpL_at, if_pos ⟨rfl, rfl⟩]; exact q.symm⟩
        · exact ⟨k, by omega, by rw [qUpL_at, if_neg (fun x => by have := x.2; rw [tcn] at this; omega)]; exact k2⟩
      · rintro ⟨k, k1, k2⟩
        rw [qUpL_at] at k2
        by_cases q : k = (I 292 20).toNatClampNeg
        · rw [if_pos ⟨rfl, q⟩] at k2; exact Or.inl k2.symm
        · rw [if_neg (fun x => q x.2)] at k2
          exact Or.inr ⟨k, by rw [tcn] at q; omega, k2⟩
    · rw [qUp_ne (by omega), f7 11 (by decide)]
      have t1 := hN1.2 g1'
      have t2 := hN2.1.2.2.1
      have t3 := hN3.1.2.2.1
      have t5 := hN5.1.2.2.1
      have t7 := q2.1.2.2.1
      rw [qUp_ne (by omega)] at t5 t7
      omega
theorem rSeat (hR : wkR R) (hs : s = 0 ∨ s = 1) (h19 : (I0 292 19).toInt = s) (hQ : rQs T K S N s I0 L0 I L z c br th se) (z0 : pf z = 0) (hK : K (pt z) = 129) : wkB l G (d + 4 + 1) n_X9_tellOne (wkPV R (fun I' L' => rP1 T K S N s I0 L0 I (zTell K S N z) I' L')) 182 [.ref 292, wkU] [] I L R := by
  obtain ⟨h, g, hL0, hZ⟩ := hQ
  have f0 : I 292 13 = 0 := by rw [g.2.1]; exact z0
  obtain ⟨⟨zt, zs⟩, hnm⟩ := hZ z0
  have e19 : ∀ J c br th se, yPS s I0 J c br th se → (J 292 19).toInt = s := fun J c br th se hJ => by rw [hJ.1.2.2.2.2.2 19 (by decide) (by decide) (by decide) (by decide) (by decide) (by decide) (by decide) (by decide) (by decide) (by decide)]; exact h19
  have v19 : ∀ J c br th se, yPS s I0 J c br th se → vp_in (J 292 19) 2 ∧ (J 292 19).toNatClampNeg = s := fun J c br th se hJ => by have := e19 J c br th se hJ; exact ⟨vin (by omega) (by omega), by rw [tcn]; omega⟩
  obtain ⟨v1, w1⟩ := v19 _ _ _ _ _ h
  refine w_X9_tellOne_182 hR v1 (rRoom (d := d + 1) hR h.2.1.1 g (fun _ => by rw [hK]; decide)) (fun I1 L1 hq => ?_)
  obtain ⟨rfl, hN1, hne, g1⟩ := hq
  rw [w1] at hne g1
  have e6 : (I 304 s = 6) ↔ 6 ≤ z.2.2.2.2 := by
    have b := h.2.2.2.1
    rw [i_eq, show (6 : Int32).toInt = 6 from rfl]
    omega
  have ey : (if I 304 s = 6 then zFail S 2 z else z) = (if 6 ≤ z.2.2.2.2 then zFail S 2 z else z) := by
    by_cases q : I 304 s = 6
    · rw [if_pos q, if_pos (e6.mp q)]
    · rw [if_neg q, if_neg (fun x => q (e6.mpr x))]
  rw [ey] at g1
  rw [zTell_129 hK]
  have y3 : (zTake S true (if 6 ≤ z.2.2.2.2 then zFail S 2 z else z)).2 = z.2 := by
    rw [zTake_2]
    split
    · exact zFail_2
    · rfl
  generalize zTake S true (if 6 ≤ z.2.2.2.2 then zFail S 2 z else z) = y at g1 y3
  have h1 := yPS_s h hN1.1
  have e20 : I1 292 20 = I 292 20 := hN1.1.1.2 20 (by decide) (by decide) (by decide) (by decide) (by decide)
  refine w_X9_tellOne_197 (fun q => ?_) (fun q => w_X9_tellOne_204 ⟨rfl, rfl, rfl, c, br, th, se, ⟨h1, ?_, hL0, fun x => ?_⟩, fun x => absurd (by rw [x]; decide) q⟩)
  rotate_left
  · have yf : pf y ≠ 0 := fun x => q (by rw [g1.2.1, x]; decide)
    rw [zStand_f yf, zMust_f yf]
    exact g1
  · have yf : pf y ≠ 0 := fun x => q (by rw [g1.2.1, x]; decide)
    rw [zStand_f yf, zMust_f yf] at x
    exact absurd x yf
  have g1' := yf0 h1.2.1.1 q
  have y0 : pf y = 0 := by rw [← g1.2.1]; exact g1'
  have hlt : se ≤ 5 := by
    have a := hne g1'
    have b := h.2.2.2.1
    have : ¬ (I 304 s).toInt = 6 := fun x => a (i_eq.mpr x)
    omega
  refine w_X9_tellOne_205 (rNamed (d := d) hR h1.2.1.1 h1.2.2.2.2.1.2 h1.2.2.2.2.1.1 g1 y0 (by rw [y3]; exact rNm_s hnm e20)) (fun tk I2 L2 hq => ?_)
  obtain ⟨rfl, rfl, hN2, g2⟩ := hq
  have h2 := yPS_s h1 hN2.1
  obtain ⟨v2, w2⟩ := v19 _ _ _ _ _ h2
  have ix : ∀ J, yPS s I0 J c br th se → (6 * J 292 19 + J 304 s).toInt = 6 * s + se := by
    intro J hJ
    have a := e19 _ _ _ _ _ hJ
    have b := hJ.2.2.2.1
    have e6 : ((6 : Int32) * J 292 19).toInt = 6 * s := by rw [i_mul (by rw [show (6 : Int32).toInt = 6 from rfl]; omega) (by rw [show (6 : Int32).toInt = 6 from rfl]; omega), show (6 : Int32).toInt = 6 from rfl, a]
    rw [i_add (by omega) (by omega), e6]
    omega
  refine w_X9_tellOne_209 hR v2 (rBounded (d := d + 1) hR h2.2.1.1 g2) (fun y' I3 L3 hq => ?_)
  obtain ⟨rfl, hN3, g3⟩ := hq
  have h3 := yPS_s h2 hN3.1
  rw [w2]
  have i2 := ix _ h2
  have h4 := yPS_w (k := 305) (i := (6 * I2 292 19 + I2 304 s).toNatClampNeg) (x := y') (by omega) h3
  obtain ⟨v4, w4⟩ := v19 _ _ _ _ _ h4
  refine w_X9_tellOne_238 hR (vin (by omega) (by omega)) v4 (rBounded (d := d + 1) hR h4.2.1.1 (rG_c (by omega) g3)) (fun y2 I5 L5 hq => ?_)
  obtain ⟨rfl, hN5, g5⟩ := hq
  rw [w4]
  have i4 := ix _ h4
  have h5 := yPS_s h4 hN5.1
  have h6 := yPS_w (k := 306) (i := (6 * (qUp I3 305 (6 * I2 292 19 + I2 304 s).toNatClampNeg y') 292 19 + (qUp I3 305 (6 * I2 292 19 + I2 304 s).toNatClampNeg y') 304 s).toNatClampNeg) (x := y2) (by omega) h5
  have g6 : rG T K S N _ L5 (zStand K S N false y) := rG_z (rG_c (k := 306) (i := (6 * (qUp I3 305 (6 * I2 292 19 + I2 304 s).toNatClampNeg y') 292 19 + (qUp I3 305 (6 * I2 292 19 + I2 304 s).toNatClampNeg y') 304 s).toNatClampNeg) (x := y2) (by omega) g5) zStand_false.1 zStand_false.2
  refine w_X9_tellOne_268 (vin (by omega) (by omega)) (rEnds (d := d) hR h6.2.1.1 (yOk_t h1.2.1.1) (fun x => ?_) g6) (fun I7 L7 hq => ?_)
  · have a := (h6.2.2.2.2.2 x).1
    have b := h6.2.2.2.1
    exact vin (by omega) (by omega)
  obtain ⟨g7, hq⟩ := hq
  rcases hq with ⟨q1, q2, rfl⟩ | ⟨q1, ⟨J, q2, q3, q4⟩, qL⟩
  · exact w_X9_tellOne_274 (fun _ => w_X9_tellOne_427 ⟨rfl, rfl, rfl, c, br, th, se, ⟨yPS_s h6 q2, g7, hL0, fun x => absurd (g7.2.1.trans x) q1⟩, fun x => absurd x q1⟩) (fun x => absurd x q1)
  · have hJ := yPS_s h6 q2.1
    refine w_X9_tellOne_274 (fun x => absurd q1 x) (fun _ => ?_)
    have o7 : ∀ k, k ≠ 292 → I7 k = J k := fun k a => by rw [q4]; exact funext fun i => qUp_ne (fun q => a q.1)
    have f7 : ∀ j, j ≠ 20 → I7 292 j = J 292 j := fun j a => by rw [q4]; exact qUp_ne (fun q => a q.2)
    have e7 : (I7 292 19).toInt = s := by rw [f7 19 (by decide)]; exact e19 _ _ _ _ _ hJ
    have v7 : vp_in (I7 292 19) 2 := vin (by omega) (by omega)
    have w7 : (I7 292 19).toNatClampNeg = s := by rw [tcn]; omega
    have m0 : pf (zMust K S 59 (zStand K S N false y)) = 0 := by rw [← g7.2.1]; exact q1
    have m1 : pf (zStand K S N false y) = 0 := zMust_0 m0
    obtain ⟨-, yk, ym⟩ := zName_0 (zStand_0 m1)
    have mc := (zStand_c m1).2
    have e20z : (I7 292 20).toInt = (I 292 20).toInt + 1 := by
      rw [q4, qUp_at, if_pos ⟨rfl, rfl⟩, i_s (by have := h6.2.2.2.2.1; omega)]
      rw [qUp_ne (by omega), hN5.1.1.2 20 (by decide) (by decide) (by decide) (by decide) (by decide), qUp_ne (by omega), hN3.1.1.2 20 (by decide) (by decide) (by decide) (by decide) (by decide), hN2.1.1.2 20 (by decide) (by decide) (by decide) (by decide) (by decide), e20]
    have tkv : (I1 292 11).toNatClampNeg = pt y := (rAt g1.w y0).1
    have nv : L5 298 (I1 292 11).toNatClampNeg = N (pt y) := by rw [tkv]; exact (g1.1.2.1 _ (rAt g1.w y0).2.1).2.2.2.2 yk
    refine w_X9_tellOne_281 hR v7 v7 (w_X9_tellOne_427 ⟨rfl, rfl, rfl, c, br, th, (se + 1), ⟨?_, ?_, ?_, fun _ => ⟨⟨?_, ?_⟩, ?_⟩⟩, fun _ => ?_⟩)
    · rw [w7]
      have hCt : (J 304 s).toInt = se := by have := hJ.2.2.2.1; omega
      have fz : ∀ j, (qUp I7 304 s (I7 304 s + 1)) 292 j = I7 292 j := fun j => qUp_ne (by omega)
      have oz : ∀ k, k ≠ 292 → k ≠ 304 → (qUp I7 304 s (I7 304 s + 1)) k = J k := fun k a b => (funext fun i => qUp_ne (fun q => b q.1)).trans (o7 k a)
      have eC : ((qUp I7 304 s (I7 304 s + 1)) 304 s).toInt = se + 1 := by rw [qUp_at, if_pos ⟨rfl, rfl⟩, o7 304 (by decide), i_s (by omega), hCt]
      obtain ⟨j1, j2, j3, j4, j5, j6⟩ := hJ
      obtain ⟨x1, x2, x3, x4⟩ := j6 q3
      have e20 : (I7 292 20).toInt = th + se + 1 := by
        rw [q4, qUp_at, if_pos ⟨rfl, rfl⟩, i_s (by have := h6.2.2.2.2.1; omega)]
        have := (h6.2.2.2.2.2 (yS_f0 q2.1 q3)).1
        omega
      refine ⟨yF_tr j1 (yF_tr (by rw [q4]; exact yF_up (by omega)) (yF_up (by omega))), yCS_of j2 (fun j hj => by rw [fz, f7 j (by omega)]), by rw [fz, f7 34 (by decide)]; exact j3, ?_, by rw [fz]; omega, fun _ => ⟨by rw [fz, e20]; omega, by rw [fz, f7 11 (by decide)]; exact x2, fun b b1 b2 => ?_, fun k hk => by rw [oz 311 (by decide) (by decide), oz 312 (by decide) (by decide)]; exact x4 k hk⟩⟩
      · rw [eC, oz 301 (by decide) (by decide)]
        omega
      · exact yB_congr (Nat.le_refl _) (fun i _ => ⟨by rw [oz 318 (by decide) (by decide)], by rw [oz 319 (by decide) (by decide)]⟩) ⟨by rw [oz 313 (by decide) (by decide)], by rw [oz 314 (by decide) (by decide)], by rw [oz 315 (by decide) (by decide)], by rw [oz 316 (by decide) (by decide)], by rw [oz 317 (by decide) (by decide)]⟩ (x3 b b1 b2)
    · exact rG_c (by omega) g7
    · intro k hk
      rw [qL]
      exact (funext fun i => by rw [qUpL_at, if_neg (fun x => hk x.1)]).trans (hL0 k hk)
    · show th = (zMust K S 59 (zStand K S N false y)).2.2.2.1
      rw [zMust_2, mc, y3, zt]
      rfl
    · show (se + 1) = (zMust K S 59 (zStand K S N false y)).2.2.2.2
      rw [zMust_2, mc, y3, zs]
      rfl
    · intro x
      rw [zMust_2, zStand_1.2.2, ym, y3, hnm x, qUp_ne (by omega), e20z, qL]
      have e20n : ((qUp I5 306 (6 * (qUp I3 305 (6 * I2 292 19 + I2 304 s).toNatClampNeg y') 292 19 + (qUp I3 305 (6 * I2 292 19 + I2 304 s).toNatClampNeg y') 304 s).toNatClampNeg y2) 292 20) = I 292 20 := by
        rw [qUp_ne (by omega), hN5.1.1.2 20 (by decide) (by decide) (by decide) (by decide) (by decide), qUp_ne (by omega), hN3.1.1.2 20 (by decide) (by decide) (by decide) (by decide) (by decide), hN2.1.1.2 20 (by decide) (by decide) (by decide) (by decide) (by decide), e20]
      rw [e20n, nv]
      have n0 := h.2.2.2.2.1.1
      constructor
      · rintro (q | ⟨k, k1, k2⟩)
        · exact ⟨(I 292 20).toNatClampNeg, by rw [tcn]; omega, by rw [qUpL_at, if_pos ⟨rfl, rfl⟩]; exact q.symm⟩
        · exact ⟨k, by omega, by rw [qUpL_at, if_neg (fun x => by have := x.2; rw [tcn] at this; omega)]; exact k2⟩
      · rintro ⟨k, k1, k2⟩
        rw [qUpL_at] at k2
        by_cases q : k = (I 292 20).toNatClampNeg
        · rw [if_pos ⟨rfl, q⟩] at k2; exact Or.inl k2.symm
        · rw [if_neg (fun x => q x.2)] at k2
          exact Or.inr ⟨k, by rw [tcn] at q; omega, k2⟩
    · rw [qUp_ne (by omega), f7 11 (by decide)]
      have t1 := hN1.2 g1'
      have t2 := hN2.1.2.2.1
      have t3 := hN3.1.2.2.1
      have t5 := hN5.1.2.2.1
      have t7 := q2.1.2.2.1
      rw [qUp_ne (by omega)] at t5 t7
      omega
end
