/-! ===== the reference's reading, exact ===== -/
def zW (z : pZ) : Prop := z.2.1.1 = 0 ∨ z.2.1.1 = 3 ∨ z.2.1.1 = 5
section
variable {K S : Nat → Int32} {N : Nat → Int64}
theorem zW_of {z z' : pZ} (h : zW z) (e : z'.2.1 = z.2.1) : zW z' := by unfold zW; rw [e]; exact h
theorem zNote_w {w p : Int32} {z : pZ} (h : zW z) (hw : w = 3 ∨ w = 5) : zW (zNote w p z) := by
  unfold zNote
  split
  · exact Or.inr hw
  · exact h
theorem zInt_w {a b : Int32} {z : pZ} (h : zW z) : zW (zInt K S N a b z) := by
  have h1 : zW (zTake S (decide (K (pt z) = 3)) z) := zW_of h (by rw [zTake_2])
  unfold zInt
  split
  · exact zNote_w h1 (Or.inr rfl)
  · exact h1
theorem zName_w {z : pZ} (h : zW z) : zW (zName K S N z) := by
  have h1 : zW (zTake S (decide (K (pt z) = 2)) z) := zW_of h (by rw [zTake_2])
  unfold zName
  split
  · split
    · exact zNote_w h1 (Or.inl rfl)
    · exact zW_of h rfl
  · exact h1
theorem zStand_w {b : Bool} {z : pZ} (h : zW z) : zW (zStand K S N b z) := by
  refine zW_of (z := if b = true then zInt K S N 1 9 (zInt K S N 0 19 (zName K S N z)) else zInt K S N 0 999 (zInt K S N 0 19 (zName K S N z))) ?_ zStand_1.2.1
  split <;> exact zInt_w (zInt_w (zName_w h))
theorem zSet_w {k : Int32} {z : pZ} (h : zW z) : zW (zSet K S N k z) := by
  unfold zSet
  split
  · exact zInt_w h
  · split
    · exact zInt_w h
    · split
      · exact zInt_w h
      · split
        · exact zInt_w h
        · exact zW_of h (by rw [zFail_2])
theorem zTell_w {z : pZ} (h : zW z) : zW (zTell K S N z) := by
  rw [zTell_eq]
  have h1 : zW (zTake S (decide (128 ≤ K (pt z) ∧ K (pt z) ≤ 138)) (if (K (pt z) = 128 ∧ 6 ≤ z.2.2.2.1) ∨ (K (pt z) = 129 ∧ 6 ≤ z.2.2.2.2) then zFail S 2 z else z)) := by
    refine zW_of (z := if (K (pt z) = 128 ∧ 6 ≤ z.2.2.2.1) ∨ (K (pt z) = 129 ∧ 6 ≤ z.2.2.2.2) then zFail S 2 z else z) ?_ (by rw [zTake_2])
    split
    · exact zW_of h (by rw [zFail_2])
    · exact h
  generalize zTake S (decide (128 ≤ K (pt z) ∧ K (pt z) ≤ 138)) (if (K (pt z) = 128 ∧ 6 ≤ z.2.2.2.1) ∨ (K (pt z) = 129 ∧ 6 ≤ z.2.2.2.2) then zFail S 2 z else z) = y at h1
  have key : ∀ x : pZ, zW x → zW (zMust K S 59 x) := fun x hx => zW_of hx (by rw [zMust_2])
  refine key _ ?_
  split
  · exact zStand_w h1
  · split
    · exact zStand_w h1
    · split
      · exact zW_of h1 (by rw [zLaw_2])
      · exact zSet_w h1
end
theorem pWf_v {w : Nat → Int64} {key : Int64} : ∀ (m : Nat) (k : Int32), 0 ≤ k.toInt → k.toInt + m ≤ 23 → pWf w key m k ∈ pVk
  | 0, _, _, _ => by show (2 : Int32) ∈ pVk; decide
  | m + 1, k, h0, h1 => by
    rw [pWf]
    split
    · have : ∀ a, a < 23 → (128 + Int32.ofNat a) ∈ pVk := by decide +kernel
      have e : k = Int32.ofNat k.toInt.toNat := i_eq.mpr (by rw [Int32.toInt_ofNat_of_lt (by omega)]; omega)
      rw [e]
      exact this _ (by omega)
    · exact pWf_v m (k + 1) (by rw [i_s (by omega)]; omega) (by rw [i_s (by omega)]; omega)
theorem pKd_v {w : Nat → Int64} {c : Nat → Int32} {n i : Nat} : pKd w c n i ∈ pVk := by
  unfold pKd
  split
  · decide
  · split
    · split
      · decide
      · exact pWf_v 23 0 (by decide) (by decide)
    · split
      · split <;> decide
      · split
        · rename_i q
          rcases of_decide_eq_true q with q | q | q | q | q | q | q | q | q <;> rw [q] <;> decide
        · decide
/-- what reading answers, and leaves of what other calls ask for -/
def rRd (K S : Nat → Int32) (N : Nat → Int64) (I : qMI) (L0 : qML) (y : Int32) (I' : qMI) (L' : qML) : Prop := y = zAns (zText K S N) ∧ I' 292 17 = zPlc (zText K S N) ∧ (∀ k, k ≠ 298 → k ≠ 300 → L' k = L0 k) ∧ (zAns (zText K S N) = 0 → I' 292 51 = 0 ∧ I' 292 58 = 0 ∧ ∀ i, i < 3 → I' 334 i = 0) ∧ (zAns (zText K S N) ≠ 0 → I' 292 51 = I 292 51 ∧ I' 292 58 = I 292 58 ∧ I' 334 = I 334)
section
variable {l : Launch} {G : qG} {d : Nat} {I J : qMI} {L0 Lc : qML} {R : qMR} {s v : Nat} {T : Nat} {K S : Nat → Int32} {N : Nat → Int64}
/-- behind the telling -/
theorem rReadEnd (hR : wkR R) (h : yRs s v I J) {M : qMI} {L : qML} {a : Int32} {c br th se : Nat} {z : pZ} (hLC : ∀ k, k ≠ 298 → k ≠ 300 → Lc k = L0 k) (hQ : rQs T K S N s J Lc M L z c br th se) (hw3 : zW z) (hz : z = zText K S N) : wkB l G (d + 7 + 1) n_X9_read (wkPI R (fun y I' L' => yRp I I' ∧ rRd K S N I L0 y I' L')) 134 [.ref 292, .int a] [] M L R := by
  obtain ⟨g, gz, hL0, hZ⟩ := hQ
  have hv := h.1.2.1
  have hs := h.1.1
  have hok := g.2.1.1
  have gf := yPS_fields g
  have e18 : M 292 18 = J 292 18 := gf 18 (by decide) (by decide) (by decide) (by decide) (by decide) (by decide) (by decide) (by decide) (by decide) (by decide)
  have e19 : M 292 19 = J 292 19 := gf 19 (by decide) (by decide) (by decide) (by decide) (by decide) (by decide) (by decide) (by decide) (by decide) (by decide)
  obtain ⟨x19, x18⟩ := h.2.2.2.2.2.2.2.1
  have old : zside M v ∧ zreg M v := yF_side h.1.2.2 g.1 h.2.2.2.2.2.2.2.2.2
  have m51 : M 292 51 = I 292 51 := (gf 51 (by decide) (by decide) (by decide) (by decide) (by decide) (by decide) (by decide) (by decide) (by decide) (by decide)).trans (h.2.2.1 51 (by omega))
  have m58 : M 292 58 = I 292 58 := (gf 58 (by decide) (by decide) (by decide) (by decide) (by decide) (by decide) (by decide) (by decide) (by decide) (by decide)).trans (h.2.2.1 58 (by omega))
  have m334 : M 334 = I 334 := (g.1.1 334 (by decide) (by decide)).trans (h.2.1 334 (by decide) (by decide))
  have e13 : M 292 13 = pf z := gz.2.1
  have badz : ∀ (x y : Int32), x = zPlc z → y = zAns z → zAns z ≠ 0 → rRd K S N I L0 y (qUp M 292 17 x) L := fun x y ex ey hn => by
    refine ⟨by rw [← hz]; exact ey, by rw [qUp_at, if_pos ⟨rfl, rfl⟩, ← hz]; exact ex, fun k k1 k2 => (hL0 k k2).trans (hLC k k1 k2), fun q => absurd (by rw [hz]; exact q) hn, fun _ => ⟨by rw [qUp_ne (by omega)]; exact m51, by rw [qUp_ne (by omega)]; exact m58, ?_⟩⟩
    exact (funext fun i => qUp_ne (by omega)).trans m334
  have bad : ∀ x : Int32, yRp I (qUp M 292 17 x) := fun x => yRend (x1 := 0) (w := v) h g (fun k b _ _ _ => funext fun i => qUp_ne (fun q => b q.1)) (fun j b _ _ _ _ => qUp_ne (fun q => b q.2)) ⟨hv, by rw [qUp_ne (by omega), e18]; exact x18, old⟩ (Or.inl (qUp_ne (by omega))) (Or.inl (qUp_ne (by omega)))
  have tail : ∀ x : Int32, x = zPlc z → wkB l G (d + 7 + 1) n_X9_read (wkPI R (fun y I' L' => yRp I I' ∧ rRd K S N I L0 y I' L')) 164 [.ref 292, .int a] [.int x, .ref 292] M L R := fun x hx => by
    refine w_X9_read_164 (fun f0 => ?_) (fun f1 => w_X9_read_174 ⟨rfl, rfl, _, rfl, bad x, badz _ _ hx ?_ ?_⟩)
    rotate_left
    · rw [qUp_ne (by omega), e13] at f1 ⊢
      unfold zAns
      rw [if_neg (fun q => f1 (by rw [q]; decide))]
    · rw [qUp_ne (by omega), e13] at f1
      have hp : pf z ≠ 0 := fun q => f1 (by rw [q]; decide)
      unfold zAns
      rw [if_neg hp]
      exact hp
    rw [qUp_ne (by omega)] at f0
    have f0 := yf0 hok f0
    have z0 : pf z = 0 := by rw [← e13]; exact f0
    have e15 : M 292 15 = z.2.1.1 := (gz.2.2.2 z0).2.1
    have an : zAns z = z.2.1.1 := by unfold zAns; rw [if_pos z0]
    refine w_X9_read_179 (fun w0 => ?_) (fun w1 => w_X9_read_186 ⟨rfl, rfl, _, rfl, bad x, badz _ _ hx ?_ ?_⟩)
    rotate_left
    · rw [qUp_ne (by omega), e15, an]
    · rw [qUp_ne (by omega), e15] at w1
      rw [an]
      exact fun q => w1 (by rw [q]; decide)
    rw [qUp_ne (by omega), e15] at w0
    have an0 : zAns z = 0 := by
      rw [an]
      rcases hw3 with q | q | q
      · exact q
      · rw [q] at w0; exact absurd w0 (by decide)
      · rw [q] at w0; exact absurd w0 (by decide)
    have pl0 : x = -1 := by
      rw [hx]; unfold zPlc; rw [if_pos z0, if_pos (by rw [← an]; exact an0)]
    have new := yPS_side hs g f0
    have d18 : (qUp (qUp M 292 17 x) 292 18 ((qUp M 292 17 x) 292 19)) 292 18 = M 292 19 := by rw [qUp_at, if_pos ⟨rfl, rfl⟩, qUp_ne (by omega)]
    have d304 : (qUp (qUp M 292 17 x) 292 18 ((qUp M 292 17 x) 292 19)) 304 = M 304 := funext fun i => by rw [qUp_ne (by omega), qUp_ne (by omega)]
    refine w_X9_read_191 (yBegins (d := d + 6) hR hs (by rw [d18, e19]; exact x19) (by rw [d304]; have := g.2.2.2.1; omega)) (fun I1 L1 hq => ?_)
    obtain ⟨rfl, q1⟩ := hq
    refine w_X9_read_203 (yKeeps (d := d + 6) hR) (fun I2 L2 hq => ?_)
    obtain ⟨rfl, q2⟩ := hq
    have t17 : ∀ K2 : qMI, yBg (qUp (qUp I2 292 51 0) 292 58 0) K2 → K2 292 17 = x := fun K2 q3 => by
      rw [q3.2 17 (by decide) (by decide) (by decide), qUp_ne (by omega), qUp_ne (by omega), q2.2 17 (by decide) (by decide) (by decide), q1.2 17 (by decide) (by decide) (by decide), qUp_ne (by omega), qUp_at, if_pos ⟨rfl, rfl⟩]
    have goodz : ∀ K2 : qMI, yBg (qUp (qUp I2 292 51 0) 292 58 0) K2 → K2 292 51 = 0 → K2 292 58 = 0 → (∀ i, i < 3 → K2 334 i = 0) → rRd K S N I L0 0 K2 L2 := fun K2 q3 z1 z2 z3 => ⟨by rw [← hz]; exact an0.symm, by rw [t17 K2 q3, hx, hz], fun k k1 k2 => (hL0 k k2).trans (hLC k k1 k2), fun _ => ⟨z1, z2, z3⟩, fun q => absurd (by rw [← hz]; exact an0) q⟩
    have good : ∀ K2 : qMI, yBg (qUp (qUp I2 292 51 0) 292 58 0) K2 → K2 292 51 = 0 → K2 292 58 = 0 → yRp I K2 := fun K2 q3 z1 z2 => by
      have t : yBg (qUp (qUp M 292 17 x) 292 18 ((qUp M 292 17 x) 292 19)) K2 := yBg_tr q1 (yBg_tr q2 (yBg_tr (yBg_tr (yBg_up (Or.inr (Or.inr (Or.inr ⟨rfl, Or.inr (Or.inl rfl)⟩)))) (yBg_up (Or.inr (Or.inr (Or.inr ⟨rfl, Or.inr (Or.inr rfl)⟩))))) q3))
      exact yRend (x1 := 0) (w := s) h g (fun k b1 b2 b3 b4 => (t.1 k b1 b2 b3 b4).trans (funext fun i => by rw [qUp_ne (fun q => b1 q.1), qUp_ne (fun q => b1 q.1)])) (fun j b1 b2 b3 b4 b5 => (t.2 j b3 b4 b5).trans (by rw [qUp_ne (fun q => b2 q.2), qUp_ne (fun q => b1 q.2)])) ⟨hs, by rw [t.2 18 (by decide) (by decide) (by decide), d18, e19]; exact x19, new⟩ (Or.inr z1) (Or.inr z2)
    have loop : ∀ (m : Nat) (K2 : qMI) (n : Int32), (3 - n.toInt).toNat = m → 0 ≤ n.toInt → yBg (qUp (qUp I2 292 51 0) 292 58 0) K2 → K2 292 51 = 0 → K2 292 58 = 0 → (∀ i : Nat, (i : Int) < n.toInt → K2 334 i = 0) → wkB l G (d + 7 + 1) n_X9_read (wkPI R (fun y I' L' => yRp I I' ∧ rRd K S N I L0 y I' L')) 219 [.ref 292, .int n] [] K2 L2 R := by
      intro m
      induction m with
      | zero =>
        intro K2 n hm n0 q3 z1 z2 z3
        exact w_X9_read_219 (fun _ => w_X9_read_237 ⟨rfl, rfl, _, rfl, good K2 q3 z1 z2, goodz K2 q3 z1 z2 (fun i hi => z3 i (by omega))⟩) (fun q => absurd (i_le.mpr (by rw [show (3 : Int32).toInt = 3 from rfl]; omega)) q)
      | succ m ih =>
        intro K2 n hm n0 q3 z1 z2 z3
        refine w_X9_read_219 (fun q => w_X9_read_237 ⟨rfl, rfl, _, rfl, good K2 q3 z1 z2, goodz K2 q3 z1 z2 (fun i hi => z3 i (by have := i_le.mp q; rw [show (3 : Int32).toInt = 3 from rfl] at this; omega))⟩) (fun q => ?_)
        have sn : (n + 1).toInt = n.toInt + 1 := i_s (by omega)
        refine w_X9_read_224 hR (vin n0 (by omega)) (ih _ (n + 1) (by omega) (by omega) (yBg_tr q3 (yBg_up (Or.inr (Or.inr (Or.inl rfl))))) (by rw [qUp_ne (by omega)]; exact z1) (by rw [qUp_ne (by omega)]; exact z2) (fun i hi => ?_))
        rw [qUp_at]
        by_cases q4 : i = n.toNatClampNeg
        · rw [if_pos ⟨rfl, q4⟩]; rfl
        · rw [if_neg (fun x => q4 x.2)]
          exact z3 i (by rw [tcn] at q4; omega)
    exact w_X9_read_207 (loop _ _ 0 rfl (by decide) (yBg_rf _) (by rw [qUp_ne (by omega), qUp_at, if_pos ⟨rfl, rfl⟩]) (by rw [qUp_at, if_pos ⟨rfl, rfl⟩]) (fun i hi => absurd hi (by rw [show (0 : Int32).toInt = 0 from rfl]; omega)))
  refine w_X9_read_134 (fun q => ?_) (fun q => w_X9_read_142 (tail _ ?_))
  · have z0 : pf z = 0 := by rw [← e13]; exact yf0 hok q
    obtain ⟨-, e15, e16⟩ := gz.2.2.2 z0
    refine w_X9_read_149 (fun w0 => w_X9_read_163 (tail _ ?_)) (fun w1 => w_X9_read_156 (tail _ ?_))
    · rw [e15] at w0
      unfold zPlc
      rw [if_pos z0, if_pos]
      rcases hw3 with q | q | q
      · exact q
      · rw [q] at w0; exact absurd w0 (by decide)
      · rw [q] at w0; exact absurd w0 (by decide)
    · rw [e15] at w1
      have n0 : z.2.1.1 ≠ 0 := fun q => w1 (by rw [q]; decide)
      unfold zPlc
      rw [if_pos z0, if_neg n0]
      exact (e16 n0).1
  · have hp : pf z ≠ 0 := fun x => q (by rw [e13, x]; decide)
    unfold zPlc
    rw [if_neg hp]
    exact gz.2.2.1 hp
theorem rReadLoop (hR : wkR R) (h : yRs s v I J) (hLC : ∀ k, k ≠ 298 → k ≠ 300 → Lc k = L0 k) {a : Int32} : ∀ (m : Nat) (M : qMI) (L : qML) (c br th se : Nat) (z : pZ) (f : Nat), (400 - (M 292 11).toInt).toNat = m → rQs T K S N s J Lc M L z c br th se → zW z → zAll K S N f z = zText K S N → (pf z = 0 → 401 ≤ f + pt z) → wkB l G (d + 7 + 1) n_X9_read (wkPI R (fun y I' L' => yRp I I' ∧ rRd K S N I L0 y I' L')) 112 [.ref 292, .int a] [] M L R := by
  intro m
  induction m using Nat.strongRecOn with
  | ind m ih =>
    intro M L c br th se z f hm hQ hw3 hF hf
    obtain ⟨g, gz, hL0, hZ⟩ := id hQ
    have stop : ¬ (pf z = 0 ∧ ¬ K (pt z) = 0) → z = zText K S N := fun q => by
      rw [← hF]
      cases f with
      | zero => rfl
      | succ f => rw [zAll, if_neg q]
    refine w_X9_read_112 (fun q => rReadEnd hR h hLC hQ hw3 (stop (fun x => q (by rw [gz.2.1]; exact x.1)))) (fun f0 => w_X9_read_119 (P := fun y I' L' => L' = L ∧ I' = M ∧ ((y = 1 ∧ pf z = 0 ∧ K (pt z) = 0) ∨ (y = 0 ∧ ¬ (pf z = 0 ∧ K (pt z) = 0)))) (by have := rIs (l := l) (G := G) (k := 0) (d := d + 6) hR g.2.1.1 gz (by decide); rw [show rK 0 = 0 from rfl] at this; exact this) (fun y I1 L1 hq => ?_))
    obtain ⟨rfl, rfl, hy⟩ := hq
    have z0 : pf z = 0 := by rw [← gz.2.1]; exact f0
    rcases hy with ⟨rfl, -, k0⟩ | ⟨rfl, kn⟩
    · exact w_X9_read_124 (fun _ => rReadEnd hR h hLC hQ hw3 (stop (fun x => x.2 k0))) (fun q => absurd q (by decide))
    have kn : K (pt z) ≠ 0 := fun x => kn ⟨z0, x⟩
    refine w_X9_read_124 (fun q => absurd rfl q) (fun _ => w_X9_read_127 (rTellOne (d := d) hR h.1.1 h.2.2.2.2.2.2.2.1.1 hQ z0 kn) (fun I2 L2 hq => w_X9_read_131 ?_))
    obtain ⟨c', br', th', se', hQ', t⟩ := hq
    obtain ⟨f', rfl⟩ : ∃ f', f = f' + 1 := by
      have h1 := hf z0
      have h2 := (gz.2.2.2 z0).1.2
      have h3 := gz.1.1.2.1
      exact ⟨f - 1, by omega⟩
    rw [zAll, if_pos ⟨z0, kn⟩] at hF
    have hw' := zTell_w (K := K) (S := S) (N := N) hw3
    have hf' : pf (zTell K S N z) = 0 → 401 ≤ f' + pt (zTell K S N z) := fun q => by
      have h1 := hf z0
      have h2 := (hQ'.2.1.2.2.2 q).1.1
      have h3 := (gz.2.2.2 z0).1.1
      have h4 := t (by rw [hQ'.2.1.2.1]; exact q)
      omega
    by_cases x : I2 292 13 = 0
    · have := t x
      have := hQ'.1.2.1.1.1
      exact ih _ (by omega) I2 L2 c' br' th' se' _ f' rfl hQ' hw' hF hf'
    · refine w_X9_read_112 (fun _ => rReadEnd hR h hLC hQ' hw' ?_) (fun q => absurd q x)
      have xp : pf (zTell K S N z) ≠ 0 := by rw [← hQ'.2.1.2.1]; exact x
      rw [← hF]
      cases f' with
      | zero => rfl
      | succ f' => rw [zAll, if_neg (fun q => xp q.1)]
end
section
variable {l : Launch} {G : qG} {d : Nat} {I : qMI} {L L0 : qML} {R : qMR} {T : Nat} {K S : Nat → Int32} {N : Nat → Int64}
/-- behind the cutting -/
theorem rReadMid (hR : wkR R) (h : yRi I) {C : qMI} {L : qML} (hT : rT T K S N C L) (hLC : ∀ k, k ≠ 298 → k ≠ 300 → L k = L0 k) {a : Int32} (oC : ∀ k, k ≠ 292 → k ≠ 294 → k ≠ 295 → k ≠ 296 → k ≠ 297 → C k = I k) (jC : ∀ j, j ≠ 2 → j ≠ 4 → j ≠ 10 → C 292 j = I 292 j) (c2 : C 292 2 = 0) (c4 : C 292 4 = I 292 2) (c10 : 0 ≤ (C 292 10).toInt ∧ (C 292 10).toInt ≤ 401) (ck : ∀ i, i < 403 → 0 ≤ (C 295 i).toInt ∧ (C 295 i).toInt ≤ 42) : wkB l G (d + 7 + 1) n_X9_read (wkPI R (fun y I' L' => yRp I I' ∧ rRd K S N I L0 y I' L')) 45 [.ref 292, .int a] [] C L R := by
  obtain ⟨h1, -, h3, v, hv, h4, h5⟩ := h
  have c18 : C 292 18 = I 292 18 := jC 18 (by decide) (by decide) (by decide)
  obtain ⟨s, hs, hsv⟩ : ∃ s : Nat, (s = 0 ∨ s = 1) ∧ s + v = 1 := ⟨1 - v, by omega, by omega⟩
  have e18 : (qUp (qUp (qUp (qUp C 292 11 0) 292 12 0) 292 13 0) 292 15 0) 292 18 = I 292 18 := by rw [qUp_ne (by omega), qUp_ne (by omega), qUp_ne (by omega), qUp_ne (by omega)]; exact c18
  have e1 : ((1 : Int32) - I 292 18).toInt = s := by
    rw [i_sub (by rw [show (1 : Int32).toInt = 1 from rfl]; omega) (by rw [show (1 : Int32).toInt = 1 from rfl]; omega), show (1 : Int32).toInt = 1 from rfl]; omega
  -- what stands before plain
  have key : ∀ D : qMI, (∀ k, k ≠ 292 → D k = C k) → (∀ j, j ≠ 11 → j ≠ 12 → j ≠ 13 → j ≠ 15 → j ≠ 19 → j ≠ 20 → D 292 j = C 292 j) → D 292 11 = 0 → D 292 12 = 0 → D 292 13 = 0 → D 292 20 = 0 → (D 292 19).toInt = s → D 292 15 = 0 → ∀ E : qMI, ∀ L1 : qML, L1 = L → yPl s D E → wkB l G (d + 7 + 1) n_X9_read (wkPI R (fun y I' L' => yRp I I' ∧ rRd K S N I L0 y I' L')) 88 [.ref 292, .int a] [] E L1 R := by
    intro D o f f11 f12 f13 f20 f19 f15 E L1 eL p
    obtain ⟨p1, p2, p3, p4, p5⟩ := p
    have e19 : E 292 19 = D 292 19 := p2 19
    have m130 : ((130 : Int32) * E 292 19).toInt = 130 * (s : Int) := by rw [i_mul (by rw [e19, f19, show (130 : Int32).toInt = 130 from rfl]; omega) (by rw [e19, f19, show (130 : Int32).toInt = 130 from rfl]; omega), e19, f19]; rfl
    have m420 : ((420 : Int32) * E 292 19).toInt = 420 * (s : Int) := by rw [i_mul (by rw [e19, f19, show (420 : Int32).toInt = 420 from rfl]; omega) (by rw [e19, f19, show (420 : Int32).toInt = 420 from rfl]; omega), e19, f19]; rfl
    refine w_X9_read_88 ?_
    rw [show (qUp E 292 34 (130 * (E 292 19))) 292 19 = E 292 19 from qUp_ne (by omega)]
    generalize hF : qUp (qUp E 292 34 (130 * (E 292 19))) 292 40 (420 * (E 292 19)) = F
    have oF : ∀ k, k ≠ 292 → F k = E k := fun k b => by rw [← hF]; exact funext fun i => by rw [qUp_ne (fun q => b q.1), qUp_ne (fun q => b q.1)]
    have jF : ∀ j, j ≠ 34 → j ≠ 40 → F 292 j = D 292 j := fun j b1 b2 => by rw [← hF, qUp_ne (fun q => b2 q.2), qUp_ne (fun q => b1 q.2)]; exact p2 j
    have jFC : ∀ j, j ≠ 34 → j ≠ 40 → j ≠ 11 → j ≠ 12 → j ≠ 13 → j ≠ 15 → j ≠ 19 → j ≠ 20 → F 292 j = C 292 j := fun j b1 b2 b3 b4 b5 b6 b7 b8 => (jF j b1 b2).trans (f j b3 b4 b5 b6 b7 b8)
    have F34 : (F 292 34).toInt = (130 * s : Nat) := by rw [← hF, qUp_ne (by omega), qUp_at, if_pos ⟨rfl, rfl⟩, m130]; omega
    have F40 : (F 292 40).toInt = (420 * s : Nat) := by rw [← hF, qUp_at, if_pos ⟨rfl, rfl⟩, m420]; omega
    have hu : ∀ x ∈ zUN, D x = I x := fun x hx => by
      simp only [zUN, List.mem_cons, List.not_mem_nil, or_false] at hx
      exact (o x (by omega)).trans (oC x (by omega) (by omega) (by omega) (by omega) (by omega))
    have huF : ∀ x ∈ zUN, F x = E x := fun x hx => by
      simp only [zUN, List.mem_cons, List.not_mem_nil, or_false] at hx
      exact oF x (by omega)
    have gE := yF_side (s := s) (s' := v) (by omega) p1 ⟨zside_congr hu h5.1, zreg_congr hu h5.2⟩
    have k301 : F 301 v = I 301 v := by rw [oF 301 (by decide), (p1.2.1 v (by omega)).1, o 301 (by decide), oC 301 (by decide) (by decide) (by decide) (by decide) (by decide)]
    have k304 : F 304 v = I 304 v := by rw [oF 304 (by decide), (p1.2.1 v (by omega)).2, o 304 (by decide), oC 304 (by decide) (by decide) (by decide) (by decide) (by decide)]
    have k295 : F 295 = C 295 := by rw [oF 295 (by decide), p1.1 295 (by decide) (by decide), o 295 (by decide)]
    have F2 : F 292 2 = C 292 2 := jFC 2 (by decide) (by decide) (by decide) (by decide) (by decide) (by decide) (by decide) (by decide)
    have F4 : F 292 4 = C 292 4 := jFC 4 (by decide) (by decide) (by decide) (by decide) (by decide) (by decide) (by decide) (by decide)
    have F10 : F 292 10 = C 292 10 := jFC 10 (by decide) (by decide) (by decide) (by decide) (by decide) (by decide) (by decide) (by decide)
    have F18 : F 292 18 = C 292 18 := jFC 18 (by decide) (by decide) (by decide) (by decide) (by decide) (by decide) (by decide) (by decide)
    refine rReadLoop (T := T) (K := K) (S := S) (N := N) (L0 := L0) (Lc := L) (s := s) (v := v) (J := F) hR ⟨⟨hs, hv, by omega⟩, fun k b1 b2 => ?_, fun j b => ?_, F2.trans c2, by rw [F4, c4]; exact h1, by rw [F10]; exact c10, by rw [k295]; exact ck, ⟨by rw [jF 19 (by decide) (by decide)]; exact f19, by rw [F18, c18]; exact h4⟩, by rw [k301, k304]; exact h3 v (by omega), zside_congr huF gE.1, zreg_congr huF gE.2⟩ hLC _ F L1 0 (130 * s) 0 0 ((0, 0, 0), (0, 0), [], 0, 0) 401 rfl ⟨(yPS_go (yF_rf s F) (by rw [jF 11 (by decide) (by decide)]; exact f11) (by rw [jF 12 (by decide) (by decide)]; exact f12) (by rw [jF 13 (by decide) (by decide)]; exact f13) (by rw [jF 20 (by decide) (by decide)]; exact f20) F34 F40 (by rw [oF 301 (by decide)]; exact p3) (by rw [oF 304 (by decide)]; exact p4) (fun k hk => by rw [oF 311 (by decide), oF 312 (by decide)]; exact p5 k hk)), ?_, fun k hk => ?_, fun _ => ⟨⟨rfl, rfl⟩, fun x => ⟨fun q => (by simp at q), fun ⟨k, q, _⟩ => absurd q (by rw [jF 20 (by decide) (by decide), f20, show (0 : Int32).toInt = 0 from rfl]; omega)⟩⟩⟩ (Or.inl rfl) rfl (fun _ => by show 401 ≤ 401 + 0; omega)
    · exact (oF k b1).trans ((p1.1 k b1 (by omega)).trans ((o k b1).trans (oC k b1 (by omega) (by omega) (by omega) (by omega))))
    · unfold yRj at b
      exact (jFC j (by omega) (by omega) (by omega) (by omega) (by omega) (by omega) (by omega) (by omega)).trans (jC j (by omega) (by omega) (by omega))
    · have k296 : F 296 = C 296 := by rw [oF 296 (by decide), p1.1 296 (by decide) (by decide), o 296 (by decide)]
      have k297 : F 297 = C 297 := by rw [oF 297 (by decide), p1.1 297 (by decide) (by decide), o 297 (by decide)]
      refine ⟨rT_of hT k295 k296 k297 (by rw [eL]), (jF 13 (by decide) (by decide)).trans f13, fun q => absurd rfl q, fun _ => ⟨⟨by rw [jF 11 (by decide) (by decide), f11]; rfl, hT.1.1⟩, (jF 15 (by decide) (by decide)).trans f15, fun q => absurd rfl q⟩⟩
    · rw [eL]
  refine w_X9_read_45 (yPlain (d := d + 6) (s := s) hR hs (by rw [qUp_ne (by omega), qUp_at, if_pos ⟨rfl, rfl⟩, e18]; exact e1)) (fun E L1 p => key _ (fun k b => ?_) (fun j b1 b2 b3 b4 b5 b6 => ?_) ?_ ?_ ?_ ?_ ?_ ?_ E L1 p.1 p.2)
  · exact funext fun i => by rw [qUp_ne (fun q => b q.1), qUp_ne (fun q => b q.1), qUp_ne (fun q => b q.1), qUp_ne (fun q => b q.1), qUp_ne (fun q => b q.1), qUp_ne (fun q => b q.1)]
  · rw [qUp_ne (fun q => b6 q.2), qUp_ne (fun q => b5 q.2), qUp_ne (fun q => b4 q.2), qUp_ne (fun q => b3 q.2), qUp_ne (fun q => b2 q.2), qUp_ne (fun q => b1 q.2)]
  · rw [qUp_ne (by omega), qUp_ne (by omega), qUp_ne (by omega), qUp_ne (by omega), qUp_ne (by omega), qUp_at, if_pos ⟨rfl, rfl⟩]
  · rw [qUp_ne (by omega), qUp_ne (by omega), qUp_ne (by omega), qUp_ne (by omega), qUp_at, if_pos ⟨rfl, rfl⟩]
  · rw [qUp_ne (by omega), qUp_ne (by omega), qUp_ne (by omega), qUp_at, if_pos ⟨rfl, rfl⟩]
  · rw [qUp_at, if_pos ⟨rfl, rfl⟩]
  · rw [qUp_ne (by omega), qUp_at, if_pos ⟨rfl, rfl⟩, e18]; exact e1
  · rw [qUp_ne (by omega), qUp_ne (by omega), qUp_at, if_pos ⟨rfl, rfl⟩]
theorem rRead (hR : wkR R) {w : Nat → Int64} (hw : ∀ a b, a < 23 → b < 23 → w a = w b → a = b) (hk9 : ∀ j, j < 23 → L 299 j = w j) (hS : pSpec w (fun i => vp_nar .byte (I 293 i) &&& 255) (I 292 2).toInt.toNat K S N) (h : yRi I) : wkI l G (d + 8) n_X9_read [.ref 292] I L R (fun y I' L' => yRp I I' ∧ rRd K S N I L y I' L') := by
  obtain ⟨h1, h2, -⟩ := id h
  have loop : ∀ (m : Nat) (J : qMI) (n : Int32), ((I 292 2).toInt - n.toInt).toNat = m → 0 ≤ n.toInt → (∀ k, k ≠ 294 → J k = (qUp I 292 4 (I 292 2)) k) → (∀ i : Nat, (i : Int) < n.toInt → J 294 i = vp_nar .byte (I 293 i)) → wkB l G (d + 7 + 1) n_X9_read (wkPI R (fun y I' L' => yRp I I' ∧ rRd K S N I L y I' L')) 10 [.ref 292, .int n] [] J L R := by
    intro m
    induction m using Nat.strongRecOn with
    | ind m ih =>
      intro J n hm n0 o hb
      have o292 : J 292 = (qUp I 292 4 (I 292 2)) 292 := o 292 (by decide)
      have j4 : J 292 4 = I 292 2 := by rw [o292, qUp_at, if_pos ⟨rfl, rfl⟩]
      have oJ : ∀ k, k ≠ 292 → k ≠ 294 → J k = I k := fun k b1 b2 => by rw [o k b2]; exact funext fun i => qUp_ne (fun q => b1 q.1)
      refine w_X9_read_10 (fun q => ?_) (fun q => ?_)
      · have q := i_le.mp q
        rw [j4] at q
        have esz : rSz (qUp J 292 2 0) = (I 292 2).toInt.toNat := by
          unfold rSz
          rw [qUp_ne (by omega), j4]
        have eby : ∀ i, i < (I 292 2).toInt.toNat → rBy (qUp J 292 2 0) i = vp_nar .byte (I 293 i) &&& 255 := fun i hi => by
          unfold rBy
          rw [qUp_ne (by omega), hb i (by omega)]
        have hS' : pSpec w (rBy (qUp J 292 2 0)) (rSz (qUp J 292 2 0)) K S N := by
          rw [esz]
          exact pSpec_congr (fun _ _ => rfl) eby hS
        refine w_X9_read_36 (rCut (d := d + 4) (w := w) hR hw hk9 (by rw [qUp_ne (by omega), j4]; exact h1) (fun i hi => by rw [qUp_ne (by omega), oJ 295 (by decide) (by decide)]; exact h2 i hi)) (fun C L1 hq => ?_)
        obtain ⟨k, ⟨⟨q1, q2, q3⟩, qL, q10, qT⟩, k1, k4, kE⟩ := hq
        obtain ⟨T, ⟨t1, t2⟩, t3, t4⟩ := pFirst k k1 k4 kE
        refine rReadMid (d := d) (T := T) (K := K) (S := S) (N := N) (L0 := L) hR h ?_ (fun k b1 _ => qL k b1) (fun k b1 b2 b3 b4 b5 => ?_) (fun j b1 b2 b3 => ?_) ?_ ?_ (by omega) q3
        · refine ⟨⟨t1, by omega, t3.imp id (fun x => ?_)⟩, fun j hj => ?_, fun j hj => ?_⟩
          · rw [(hS' (T - 1) (by omega)).1, x]
            exact pKd_end (Nat.le_refl _)
          · obtain ⟨a1, a2, a3, a4⟩ := qT j (by omega)
            obtain ⟨b1, b2, b3⟩ := hS' j (by omega)
            rw [← b1] at a1 a3 a4
            refine ⟨by rw [b1]; exact pKd_v, a1, i_eq.mpr (by rw [a2, b2]), fun x => ?_, fun x => ?_⟩
            · rw [a3 x, b3 (Or.inl x)]
            · rw [a4 x, b3 (Or.inr x)]
          · have x := pSt_lt (t4 j hj)
            rw [(hS' j (by omega)).2.1, (hS' (j + 1) (by omega)).2.1]
            omega
        · rw [q1 k b1 b3 b4 b5, ← oJ k b1 b2]
          exact funext fun i => qUp_ne (fun q => b1 q.1)
        · rw [q2 j b3, qUp_ne (fun q => b1 q.2), o292, qUp_ne (fun q => b2 q.2)]
        · rw [q2 2 (by decide), qUp_at, if_pos ⟨rfl, rfl⟩]
        · rw [q2 4 (by decide), qUp_ne (by omega)]; exact j4
      · have lt : n.toInt < (I 292 2).toInt := by
          have : ¬ _ := fun z => q (i_le.mpr z)
          rw [j4] at this
          omega
        have vn : vp_in n 2000 := vin n0 (by omega)
        have sn : (n + 1).toInt = n.toInt + 1 := i_s (by omega)
        refine w_X9_read_18 hR vn vn (ih _ (by omega) _ (n + 1) rfl (by omega) (fun k b => by rw [← o k b]; exact funext fun i => qUp_ne (fun q => b q.1)) (fun i hi => ?_))
        rw [qUp_at, oJ 293 (by decide) (by decide)]
        by_cases x : i = n.toNatClampNeg
        · rw [if_pos ⟨rfl, x⟩, x]
        · rw [if_neg (fun y => x y.2)]
          exact hb i (by rw [tcn] at x; omega)
  exact wkC_of 1 (by decide) (Nat.le_of_ble_eq_true rfl) (w_X9_read_0 (loop _ _ 0 rfl (by decide) (fun _ _ => rfl) (fun i hi => absurd hi (by rw [show (0 : Int32).toInt = 0 from rfl]; omega))))
end
