section
/-! ===== the reference reckons a term ===== -/
theorem pS_last {m : Nat → Int32} : ∀ {st : List Int32} {x : Int32}, pS m st → st.getLast? = some x → m 0 = x
  | [], x, _, h => by cases h
  | [y], x, h, g => by
    injection g with g
    rw [← g]
    exact h.1
  | y :: a :: r, x, h, g => by
    rw [List.getLast?_cons_cons] at g
    exact pS_last h.2 g
theorem qUp_tU {I : qMI} {k n : Nat} {x : Int32} : (qUp I k n x) k = tU (I k) n x := funext fun i => by
  rw [qUp_at]
  unfold tU
  by_cases q : i = n
  · rw [if_pos ⟨rfl, q⟩, if_pos q]
  · rw [if_neg (fun x => q x.2), if_neg q]
/-- what a term's reckoning comes to -/
def eRt (I : qMI) (o : Option (List Int32)) (y : Int32) (I' : qMI) : Prop := (o = none → y = 0 ∧ I' 292 47 = 1) ∧ ∀ st, o = some st → I' 292 47 = I 292 47 ∧ ∀ x, st.getLast? = some x → y = x
section
variable {l : Launch} {G : qG} {d : Nat} {I : qMI} {L : qML} {R : qMR}
theorem eTermLoop (hR : wkR R) {f t : Int32} (ht : t.toInt ≤ 840) : ∀ (w : pC) (c top : Int32) (J : qMI) (st : List Int32), 0 ≤ c.toInt → t.toInt = c.toInt + w.length → zrpn (I 318) (I 319) w.length c.toInt.toNat top.toInt.toNat → top.toInt = st.length → top.toInt ≤ 400 → yFr I J → J 292 47 = I 292 47 → rEm c.toInt.toNat I w → (∀ x ∈ w, aC x) → pS (J 322) st →
    wkB l G (d + 1) n_X9_termOf (wkPI R (fun y I' L' => L' = L ∧ yFr I I' ∧ eRt I (aEv (I 321) w st) y I')) 5 [.ref 292, .int f, .int t, .int top, .int c, wkU, wkU, wkU] [] J L R
  | [], c, top, J, st, h0, hn, hz, ht0, ht4, hJ, h47, hE, hC, hp => by
    refine w_X9_termOf_5 (fun _ => ?_) (fun h => absurd (i_le.mpr (by rw [List.length_nil] at hn; omega)) h)
    refine w_X9_termOf_165 hR (vin (by decide) (by decide)) ⟨rfl, rfl, _, rfl, rfl, hJ, (fun q => by cases q), (fun s q => ⟨h47, fun x hx => by
      injection q with q
      rw [← q] at hx
      exact pS_last hp hx⟩)⟩
  | (k, v) :: w, c, top, J, st, h0, hn, hz, ht0, ht4, hJ, h47, hE, hC, hp => by
    rw [List.length_cons] at hn hz
    refine w_X9_termOf_5 (fun h => absurd (i_le.mp h) (by omega)) (fun _ => ?_)
    have hc : vp_in c 840 := vin h0 (by omega)
    have e8 : J 318 = I 318 := hJ.1 318 (by decide) (by decide)
    have e9 : J 319 = I 319 := hJ.1 319 (by decide) (by decide)
    have e321 : J 321 = I 321 := hJ.1 321 (by decide) (by decide)
    have hs : (c + 1).toInt = c.toInt + 1 := i_s (by omega)
    obtain ⟨k8, k9⟩ := hE 0 (k, v) rfl
    rw [Nat.add_zero] at k8 k9
    have k8 : I 318 c.toInt.toNat = k := k8
    have k9 : I 319 c.toInt.toNat = v := k9
    have hE' : rEm (c + 1).toInt.toNat I w := fun i p q => by
      have := hE (i + 1) p q
      rw [hs, show (c.toInt + 1).toNat + i = c.toInt.toNat + (i + 1) by omega]
      exact this
    have hC' : ∀ x ∈ w, aC x := fun x hx => hC x (List.mem_cons_of_mem _ hx)
    have hCk : aC (k, v) := hC _ List.mem_cons_self
    refine w_X9_termOf_11 hR hc (fun h2 => ?_) (fun h2 => ?_)
    · rw [e8, tcn, k8] at h2 ⊢
      unfold zrpn at hz
      rw [k8, if_neg (fun q => by have := i_lt.mp q; have := i_le.mp h2; omega)] at hz
      obtain ⟨g1, g2, g3⟩ := hz
      have n0 : ¬ k = 0 := fun q => by rw [q] at h2; exact absurd h2 (by decide)
      have n1 : ¬ k = 1 := fun q => by rw [q] at h2; exact absurd h2 (by decide)
      have hp' : (top + (-1)).toInt = top.toInt - 1 := i_p (by omega)
      have hp2 : (top + (-1) - 1).toInt = top.toInt - 2 := by rw [i_p' (by omega)]; omega
      generalize hq : top + (-1) = top1 at hp' hp2 ⊢
      match st, ht0, hp with
      | [], ht0, _ => exact absurd ht0 (by rw [List.length_nil]; omega)
      | [_], ht0, _ => exact absurd ht0 (by rw [List.length_singleton]; omega)
      | b :: a :: r, ht0, hp =>
        rw [List.length_cons, List.length_cons] at ht0
        have eb : J 322 top1.toNatClampNeg = b := by rw [tcn, hp', show (top.toInt - 1).toNat = (a :: r).length by rw [List.length_cons]; omega]; exact hp.1
        have ea : J 322 (top1 - 1).toNatClampNeg = a := by rw [tcn, hp2, show (top.toInt - 2).toNat = r.length by omega]; exact hp.2.1
        have est : aSt (I 321) (k, v) (b :: a :: r) = if k = 5 ∧ b = 0 then none else some (aOp k a b :: r) := by
          unfold aSt
          rw [if_neg n0, if_neg n1]
        have go : ∀ u : Int32, ¬ (k = 5 ∧ b = 0) → u = aOp k a b → wkB l G (d + 1) n_X9_termOf (wkPI R (fun y I' L' => L' = L ∧ yFr I I' ∧ eRt I (aEv (I 321) ((k, v) :: w) (b :: a :: r)) y I')) 158 [.ref 292, .int f, .int t, .int top1, .int c, .int k, .int a, .int b] [.int u, .int (top1 - 1), .ref 322] J L R := by
          intro u hu eu
          have hx : pS ((qUp J 322 (top1 - 1).toNatClampNeg u) 322) (u :: r) := by
            rw [qUp_tU, show (top1 - 1).toNatClampNeg = r.length by rw [tcn, hp2]; omega]
            exact pS_push hp.2.2
          rw [aEv, est, if_neg hu]
          show wkB l G (d + 1) n_X9_termOf (wkPI R (fun y I' L' => L' = L ∧ yFr I I' ∧ eRt I (aEv (I 321) w (aOp k a b :: r)) y I')) 158 _ _ _ _ _
          rw [← eu]
          refine w_X9_termOf_158 (vin (by omega) (by omega)) (w_X9_termOf_159 (eTermLoop hR ht w (c + 1) top1 _ (u :: r) (by omega) (by omega) ?_ (by rw [List.length_cons, hp']; omega) (by omega) (yFr_pile hJ) (by rw [qUp_ne (by omega)]; exact h47) hE' hC' hx))
          rw [hs, show (c.toInt + 1).toNat = c.toInt.toNat + 1 by omega, hp', show (top.toInt - 1).toNat = top.toInt.toNat - 1 by omega]
          exact g3
        have fork : ¬ (k = 5 ∧ b = 0) → wkB l G (d + 1) n_X9_termOf (wkPI R (fun y I' L' => L' = L ∧ yFr I I' ∧ eRt I (aEv (I 321) ((k, v) :: w) (b :: a :: r)) y I')) 104 [.ref 292, .int f, .int t, .int top1, .int c, .int k, .int a, .int b] [] J L R := by
          intro hxy
          have k5 : ¬ k = 2 → ¬ k = 3 → ¬ k = 4 → k = 5 := fun n2 n3 n4 => by
            have a1 := i_le.mp h2
            have a2 := i_le.mp g2
            have a3 : ¬ k.toInt = 2 := fun q => n2 (i_eq.mpr q)
            have a4 : ¬ k.toInt = 3 := fun q => n3 (i_eq.mpr q)
            have a5 : ¬ k.toInt = 4 := fun q => n4 (i_eq.mpr q)
            rw [show (2 : Int32).toInt = 2 from rfl] at a1
            rw [show (5 : Int32).toInt = 5 from rfl] at a2
            exact i_eq.mpr (by rw [show (5 : Int32).toInt = 5 from rfl]; omega)
          refine w_X9_termOf_104 hR (fun n2 => w_X9_termOf_125 (fun n3 => w_X9_termOf_139 (fun n4 => w_X9_termOf_153 (fun q => hxy ⟨k5 n2 n3 n4, q⟩) (go _ hxy ?_)) (fun q4 => w_X9_termOf_145 (go _ hxy ?_))) (fun q3 => w_X9_termOf_131 (go _ hxy ?_))) (fun q2 => w_X9_termOf_117 (go _ hxy ?_))
          · unfold aOp; rw [if_neg n2, if_neg n3, if_neg n4]
          · unfold aOp; rw [if_neg n2, if_neg n3, if_pos q4]
          · unfold aOp; rw [if_neg n2, if_pos q3]
          · unfold aOp; rw [if_pos q2]
        refine w_X9_termOf_65 (a3 := top) hR (by rw [hq]; exact vin (by omega) (by omega)) (by rw [hq]; exact vin (by omega) (by omega)) (fun h5 => ?_) (fun h5 => w_X9_termOf_92 (fun h => ?_) (fun h => w_X9_termOf_97 ⟨rfl, rfl, _, rfl, rfl, yFr_brk (Or.inr rfl) hJ, ?_⟩))
        · rw [hq, ea, eb]; exact fork (fun x => h5 x.1)
        · rw [hq, eb] at h; rw [hq, ea, eb]; exact fork (fun x => h x.2)
        · rw [hq, eb] at h
          rw [aEv, est, if_pos ⟨h5, h⟩]
          exact ⟨fun _ => ⟨rfl, by rw [qUp_at, if_pos ⟨rfl, rfl⟩]⟩, fun s q => by cases q⟩
    · rw [e8, tcn, k8] at h2 ⊢
      unfold zrpn at hz
      have h2' : k < 2 := i_lt.mpr (by have : ¬ _ := fun q => h2 (i_le.mpr q); omega)
      rw [k8, if_pos h2'] at hz
      obtain ⟨⟨g1, g2⟩, g3⟩ := hz
      have ht1 : (top + 1).toInt = top.toInt + 1 := i_s (by omega)
      have htop : vp_in top 400 := vin (by omega) (by omega)
      have go : ∀ u : Int32, aSt (I 321) (k, v) st = some (u :: st) → wkB l G (d + 1) n_X9_termOf (wkPI R (fun y I' L' => L' = L ∧ yFr I I' ∧ eRt I (aEv (I 321) ((k, v) :: w) st) y I')) 58 [.ref 292, .int f, .int t, .int top, .int c, .int k, wkU, wkU] [.int u, .int top, .ref 322] J L R := by
        intro u eu
        have hx : pS ((qUp J 322 top.toNatClampNeg u) 322) (u :: st) := by
          rw [qUp_tU, show top.toNatClampNeg = st.length by rw [tcn]; omega]
          exact pS_push hp
        rw [aEv, eu]
        show wkB l G (d + 1) n_X9_termOf (wkPI R (fun y I' L' => L' = L ∧ yFr I I' ∧ eRt I (aEv (I 321) w (u :: st)) y I')) 58 _ _ _ _ _
        refine w_X9_termOf_58 htop (w_X9_termOf_159 (eTermLoop hR ht w (c + 1) (top + 1) _ (u :: st) (by omega) (by omega) ?_ (by rw [List.length_cons, ht1]; omega) (by omega) (yFr_pile hJ) (by rw [qUp_ne (by omega)]; exact h47) hE' hC' hx))
        rw [hs, show (c.toInt + 1).toNat = c.toInt.toNat + 1 by omega, ht1, show (top.toInt + 1).toNat = top.toInt.toNat + 1 by omega]
        exact g3
      refine w_X9_termOf_26 hR (fun n0 => w_X9_termOf_46 hR hc (by rw [e9, tcn]; exact g2 n0) (go _ ?_)) (fun q0 => w_X9_termOf_36 hR hc (go _ ?_))
      · have k1 : k = 1 := by
          rcases hCk with q | q | q
          · exact absurd q n0
          · exact q.1
          · have q := q.1
            have := i_lt.mp h2'
            rw [show (2 : Int32).toInt = 2 from rfl] at this
            have q : 2 ≤ k.toInt := q
            omega
        unfold aSt
        rw [if_neg n0, if_pos k1, e9, e321, tcn c, k9]; rfl
      · unfold aSt
        rw [if_pos q0, e9, tcn, k9]
/-- a term's row of steps -/
theorem eTermOf (hR : wkR R) {f t : Int32} {w : pC} (hg : zseg I f t) (hw : rSeg I f t w) (hC : ∀ x ∈ w, aC x) (hne : w ≠ []) : wkI l G (d + 1) n_X9_termOf [.ref 292, .int f, .int t] I L R (fun y I' L' => L' = L ∧ yFr I I' ∧ eRt I (aEv (I 321) w []) y I') := by
  obtain ⟨h1, h2, h3⟩ := hw
  have hl : 0 < w.length := List.length_pos_iff.mpr hne
  have hlt : f < t := i_lt.mpr (by omega)
  obtain ⟨⟨a1, a2⟩, a3⟩ := hg hlt
  rw [show (t.toInt - f.toInt).toNat = w.length by omega] at a3
  exact wkC_of 5 (by decide) (Nat.le_of_ble_eq_true rfl) (w_X9_termOf_0 (eTermLoop hR a2 w f 0 I [] h1 h2 a3 rfl (by decide) (yFr_rf I) rfl h3 hC trivial))
end
end
section
/-! ===== the reference reckons a law ===== -/
theorem eRt_X {I I' : qMI} {w : pC} {n : Nat} {f : (Nat → Int32) → Option Int32} {y : Int32} (e : Nat → Int32) (hx : aX w n f) (h : eRt I (aEv e w []) y I') : (aVal e w = none ∧ I' 292 47 = 1) ∨ (∃ x, aVal e w = some x ∧ y = x ∧ I' 292 47 = I 292 47) := by
  have e0 := (aX_val hx e).2 []
  rw [e0] at h
  cases hv : aVal e w with
  | none =>
    rw [hv] at h
    exact Or.inl ⟨rfl, (h.1 rfl).2⟩
  | some x =>
    rw [hv] at h
    obtain ⟨h1, h2⟩ := h.2 [x] rfl
    exact Or.inr ⟨x, rfl, h2 x rfl, h1⟩
theorem aX_ne {w : pC} {n : Nat} {f : (Nat → Int32) → Option Int32} (hx : aX w n f) : w ≠ [] := fun q => by
  have := hx.2.1
  rw [q, aG] at this
  exact absurd this (by decide)
theorem rSeg_fr {I J : qMI} {f t : Int32} {w : pC} (h : yFr I J) (g : rSeg I f t w) : rSeg J f t w := by
  obtain ⟨g1, g2, g3⟩ := g
  exact ⟨g1, g2, rEm_of g3 (h.1 318 (by decide) (by decide)) (h.1 319 (by decide) (by decide))⟩
section
variable {l : Launch} {G : qG} {d : Nat} {I : qMI} {L : qML} {R : qMR}
theorem eLawLoop (hR : wkR R) {k p at_ : Int32} (ha : vp_in at_ 10) (hl : zlaw I at_.toNatClampNeg) {C : Nat} {w : pC} (hw : ∃ f, aX w 15 f) : ∀ (r : List (pC × pC × pC)) (b : Int32) (J : qMI), (I 311 at_.toNatClampNeg).toInt ≤ b.toInt → (I 312 at_.toNatClampNeg).toInt = b.toInt + r.length + 1 → yFr I J → J 292 47 = 0 → (∀ q ∈ r, (∃ f, aX q.1 15 f) ∧ (∃ f, aX q.2.1 15 f) ∧ ∃ f, aX q.2.2 15 f) → (∀ j q, r[j]? = some q → rBt I (b.toInt.toNat + j) C q) → rBl I (b.toInt.toNat + r.length) C w →
    wkB l G (d + 1 + 1) n_X9_lawTells (wkPI R (fun y I' L' => L' = L ∧ yFr I I' ∧ y = aRun (I 321) r w)) 39 [.ref 292, .int k, .int p, .int at_, .int b, wkU, wkU] [] J L R := by
  intro r
  induction r with
  | nil =>
    intro b J hb hn hJ h47 hX hB hL
    have hlt : I 311 at_.toNatClampNeg < I 312 at_.toNatClampNeg := i_lt.mpr (by rw [List.length_nil] at hn; omega)
    obtain ⟨⟨g1, g2⟩, g3⟩ := hl hlt
    have g1 := i_le.mp g1
    rw [show (0 : Int32).toInt = 0 from rfl] at g1
    rw [List.length_nil] at hn hL
    rw [Nat.add_zero] at hL
    refine w_X9_lawTells_39 hR ha (fun h => ?_) (fun _ => ?_)
    · rw [hJ.1 312 (by decide) (by decide)] at h
      have := i_le.mp h
      omega
    have hbi : vp_in b 260 := vin (by omega) (by omega)
    obtain ⟨s1, s2⟩ := g3 b.toInt.toNat (by omega) (by omega)
    obtain ⟨l1, l2, l3⟩ := hL
    obtain ⟨f, hf⟩ := hw
    have e3 : J 313 = I 313 := hJ.1 313 (by decide) (by decide)
    have e6 : J 316 = I 316 := hJ.1 316 (by decide) (by decide)
    have e7 : J 317 = I 317 := hJ.1 317 (by decide) (by decide)
    have e21 : J 321 = I 321 := hJ.1 321 (by decide) (by decide)
    refine w_X9_lawTells_50 hR hbi (fun _ => ?_) (fun h => absurd (by rw [e3, tcn]; exact l1) h)
    refine w_X9_lawTells_119 hR hbi hbi (eTermOf (d := d) (w := w) hR (yFr_seg hJ (by rw [e6, e7, tcn]; exact s2)) (rSeg_fr hJ (by rw [e6, e7, tcn]; exact l2)) hf.1 (aX_ne hf)) (fun y I1 L1 hq => ?_)
    obtain ⟨rfl, hF, hE⟩ := hq
    rw [e21] at hE
    have hF := yFr_tr hJ hF
    rw [aRun]
    rcases eRt_X _ hf hE with ⟨v1, v2⟩ | ⟨x, v1, v2, v3⟩
    · refine w_X9_lawTells_137 (fun q => absurd (v2.symm.trans q) (by decide)) (fun _ => w_X9_lawTells_146 (w_X9_lawTells_152 ⟨rfl, rfl, _, rfl, rfl, hF, by rw [v1]; rfl⟩))
    · refine w_X9_lawTells_137 (fun _ => w_X9_lawTells_150 (w_X9_lawTells_152 ⟨rfl, rfl, _, rfl, rfl, hF, by rw [v1]; exact v2⟩)) (fun q => absurd (v3.trans h47) q)
  | cons q r ih =>
    intro b J hb hn hJ h47 hX hB hL
    rw [List.length_cons] at hn hL
    have hlt : I 311 at_.toNatClampNeg < I 312 at_.toNatClampNeg := i_lt.mpr (by omega)
    obtain ⟨⟨g1, g2⟩, g3⟩ := hl hlt
    have g1 := i_le.mp g1
    rw [show (0 : Int32).toInt = 0 from rfl] at g1
    refine w_X9_lawTells_39 hR ha (fun h => ?_) (fun _ => ?_)
    · rw [hJ.1 312 (by decide) (by decide)] at h
      have := i_le.mp h
      omega
    have hbi : vp_in b 260 := vin (by omega) (by omega)
    obtain ⟨s1, s2⟩ := g3 b.toInt.toNat (by omega) (by omega)
    obtain ⟨t1, t2, t3, t4, t5⟩ := hB 0 q rfl
    rw [Nat.add_zero] at t1 t2 t3 t4 t5
    obtain ⟨⟨f1, hf1⟩, ⟨f2, hf2⟩, f3, hf3⟩ := hX q List.mem_cons_self
    have sb : (b + 1).toInt = b.toInt + 1 := i_s (by omega)
    have next : ∀ (J' : qMI), yFr I J' → J' 292 47 = 0 → wkB l G (d + 1 + 1) n_X9_lawTells (wkPI R (fun y I' L' => L' = L ∧ yFr I I' ∧ y = aRun (I 321) r w)) 39 [.ref 292, .int k, .int p, .int at_, .int (b + 1), wkU, wkU] [] J' L R := fun J' hJ' h47' => ih (b + 1) J' (by omega) (by omega) hJ' h47' (fun x hx => hX x (List.mem_cons_of_mem _ hx)) (fun j x hx => by
      have := hB (j + 1) x hx
      rw [sb, show (b.toInt + 1).toNat + j = b.toInt.toNat + (j + 1) by omega]
      exact this) (by rw [sb, show (b.toInt + 1).toNat + r.length = b.toInt.toNat + (r.length + 1) by omega]; exact hL)
    have e : ∀ (J' : qMI), yFr I J' → J' 313 = I 313 ∧ J' 314 = I 314 ∧ J' 315 = I 315 ∧ J' 316 = I 316 ∧ J' 317 = I 317 := fun J' h => ⟨h.1 313 (by decide) (by decide), h.1 314 (by decide) (by decide), h.1 315 (by decide) (by decide), h.1 316 (by decide) (by decide), h.1 317 (by decide) (by decide)⟩
    have e21 : ∀ (J' : qMI), yFr I J' → J' 321 = I 321 := fun J' h => h.1 321 (by decide) (by decide)
    have tail : ∀ (J' : qMI) (z : Int32), yFr I J' → J' 292 47 = 0 → z = (aVal (I 321) q.2.2).getD 0 → wkB l G (d + 1 + 1) n_X9_lawTells (wkPI R (fun y I' L' => L' = L ∧ yFr I I' ∧ y = z)) 119 [.ref 292, .int k, .int p, .int at_, .int b, wkU, wkU] [] J' L R := by
      intro J' z hJ' h47' hz
      obtain ⟨-, -, -, e6, e7⟩ := e J' hJ'
      refine w_X9_lawTells_119 hR hbi hbi (eTermOf (d := d) (w := q.2.2) hR (yFr_seg hJ' (by rw [e6, e7, tcn]; exact s2)) (rSeg_fr hJ' (by rw [e6, e7, tcn]; exact t4)) hf3.1 (aX_ne hf3)) (fun y I1 L1 hq => ?_)
      obtain ⟨rfl, hF, hE⟩ := hq
      rw [e21 J' hJ'] at hE
      have hF := yFr_tr hJ' hF
      rw [hz]
      rcases eRt_X _ hf3 hE with ⟨v1, v2⟩ | ⟨x, v1, v2, v3⟩
      · exact w_X9_lawTells_137 (fun q => absurd (v2.symm.trans q) (by decide)) (fun _ => w_X9_lawTells_146 (w_X9_lawTells_152 ⟨rfl, rfl, _, rfl, rfl, hF, by rw [v1]; rfl⟩))
      · exact w_X9_lawTells_137 (fun _ => w_X9_lawTells_150 (w_X9_lawTells_152 ⟨rfl, rfl, _, rfl, rfl, hF, by rw [v1]; exact v2⟩)) (fun q => absurd (v3.trans h47') q)
    obtain ⟨e3, e4, e5, e6, e7⟩ := e J hJ
    refine w_X9_lawTells_50 hR hbi (fun h => absurd (by rw [e3, tcn] at h; exact h) t1) (fun h => ?_)
    rw [e3, tcn] at h
    obtain ⟨u1, u2⟩ := s1 h
    refine w_X9_lawTells_60 hR hbi hbi (eTermOf (d := d) (w := q.1) hR (yFr_seg hJ (by rw [e4, e5, tcn]; exact u1)) (rSeg_fr hJ (by rw [e4, e5, tcn]; exact t2)) hf1.1 (aX_ne hf1)) (fun y I1 L1 hq => ?_)
    obtain ⟨rfl, hF, hE1⟩ := hq
    rw [e21 J hJ] at hE1
    have hF := yFr_tr hJ hF
    obtain ⟨-, -, e5, e6, -⟩ := e I1 hF
    refine w_X9_lawTells_78 hR hbi hbi (eTermOf (d := d) (w := q.2.1) hR (yFr_seg hF (by rw [e5, e6, tcn]; exact u2)) (rSeg_fr hF (by rw [e5, e6, tcn]; exact t3)) hf2.1 (aX_ne hf2)) (fun y2 I2 L2 hq => ?_)
    obtain ⟨rfl, hF2, hE2⟩ := hq
    rw [e21 I1 hF] at hE2
    have hF2 := yFr_tr hF hF2
    rw [aRun]
    have bad : ∀ z : Int32, I2 292 47 = 1 → z = 0 → wkB l G (d + 1 + 1) n_X9_lawTells (wkPI R (fun y I' L' => L' = L2 ∧ yFr I I' ∧ y = z)) 98 [.ref 292, .int k, .int p, .int at_, .int b, .int y, wkU] [.int y2] I2 L2 R := fun z v hz => w_X9_lawTells_98 (fun q => absurd (v.symm.trans q) (by decide)) (fun _ => w_X9_lawTells_107 ⟨rfl, rfl, _, rfl, rfl, hF2, hz.symm⟩)
    rcases eRt_X _ hf2 hE2 with ⟨v1, v2⟩ | ⟨x2, v1, v2, v3⟩
    · rcases eRt_X _ hf1 hE1 with ⟨u1', -⟩ | ⟨x1, u1', -, -⟩
      · exact bad _ v2 (by rw [v1, u1'])
      · exact bad _ v2 (by rw [v1, u1'])
    · rcases eRt_X _ hf1 hE1 with ⟨u1', u2'⟩ | ⟨x1, u1', u2', u3'⟩
      · exact bad _ (v3.trans u2') (by rw [v1, u1'])
      · have z47 : I2 292 47 = 0 := v3.trans (u3'.trans h47)
        rw [v1, u1']
        refine w_X9_lawTells_98 (fun _ => w_X9_lawTells_109 (fun lt => ?_) (fun ge => w_X9_lawTells_116 (w_X9_lawTells_153 ?_))) (fun q => absurd z47 q)
        · rw [u2', v2] at lt
          show wkB l G (d + 1 + 1) n_X9_lawTells (wkPI R (fun y I' L' => L' = L2 ∧ yFr I I' ∧ y = if x1 < x2 then (aVal (I 321) q.2.2).getD 0 else aRun (I 321) r w)) 119 _ _ _ _ _
          rw [if_pos lt]
          exact tail I2 _ hF2 z47 rfl
        · rw [u2', v2] at ge
          show wkB l G (d + 1 + 1) n_X9_lawTells (wkPI R (fun y I' L' => L' = L2 ∧ yFr I I' ∧ y = if x1 < x2 then (aVal (I 321) q.2.2).getD 0 else aRun (I 321) r w)) 39 _ _ _ _ _
          rw [if_neg ge]
          exact next I2 hF2 z47
theorem eLawTells (hR : wkR R) {v : Nat} (hv : v = 0 ∨ v = 1) (h18 : (I 292 18).toInt = v) (hside : zside I v) {A : aD} (hA : rDf v I A) {k p : Int32} {n : Nat} (hk : k.toInt = n) (hk5 : n < 5) (hW : aWf (A.2.2.2 n)) (hp : A.2.2.2 n = aLaw0 n → p = aRun (I 321) (aLaw0 n).1 (aLaw0 n).2) : wkI l G (d + 2) n_X9_lawTells [.ref 292, .int k, .int p] I L R (fun y I' L' => L' = L ∧ yFr I I' ∧ y = aRun (I 321) (A.2.2.2 n).1 (A.2.2.2 n).2) := by
  have m5 : ((5 : Int32) * I 292 18).toInt = 5 * (v : Int) := by
    rw [i_mul (by rw [show (5 : Int32).toInt = 5 from rfl]; omega) (by rw [show (5 : Int32).toInt = 5 from rfl]; omega), h18]; rfl
  have ea : ((5 * I 292 18) + k).toInt = 5 * v + n := by rw [i_add (by omega) (by omega), m5, hk]
  have hin : vp_in ((5 * I 292 18) + k) 10 := vin (by omega) (by omega)
  have ec : ((5 * I 292 18) + k).toNatClampNeg = 5 * v + n := by rw [tcn]; omega
  have hl : zlaw I ((5 * I 292 18) + k).toNatClampNeg := by rw [ec]; exact hside n hk5
  refine wkC_of 4 (by decide) (Nat.le_of_ble_eq_true rfl) (w_X9_lawTells_0 hR hin hin (fun hne => ?_) (fun he => w_X9_lawTells_24 ⟨rfl, rfl, _, rfl, rfl, yFr_rf I, ?_⟩))
  · rw [ec] at hne
    rcases hA.2.2.2 n hk5 with ⟨q, -⟩ | ⟨b0, q1, q2, q3, q4, q5⟩
    · exact absurd q hne
    have hB := yFr_brk (x := 0) (Or.inl rfl) (yFr_rf I)
    refine w_X9_lawTells_26 hR hin ?_
    rw [hB.1 311 (by decide) (by decide)]
    have e0 : (I 311 ((5 * I 292 18) + k).toNatClampNeg).toInt.toNat = b0 := by rw [ec, q1]; rfl
    refine eLawLoop (C := 420 * v + 420) hR hin hl hW.2 (A.2.2.2 n).1 _ _ (Int.le_refl _) ?_ hB (by rw [qUp_at, if_pos ⟨rfl, rfl⟩]) hW.1 (fun j q hq => ?_) ?_
    · rw [ec, q1, q2]; omega
    · rw [e0]; exact q4 j q hq
    · rw [e0]; exact q5
  · rw [ec] at he
    rcases hA.2.2.2 n hk5 with ⟨-, q⟩ | ⟨b0, q1, q2, q3, q4, q5⟩
    · rw [hp q, q]
    · exfalso
      rw [he] at q1
      omega
end
end
section
/-! ===== the laws that may be told are reckoned without a fault of the pile ===== -/
section
variable {K S : Nat → Int32} {N : Nat → Int64}
/-- within the tokens -/
def pB (z : pZ) : Prop := pf z = 0 → pt z ≤ 400
theorem pB_take {b : Bool} {z : pZ} (h : pB z) : pB (zTake S b z) := fun q => (zTake_pg h q).2.2
theorem pB_must {k : Int32} {z : pZ} (h : pB z) : pB (zMust K S k z) := pB_take h
theorem pB_ex {z : pZ} (h : pB z) : pB (zEx K S z) := fun q => (zEx_pg z h q).2.2
theorem pB_fail {w : Int32} {z : pZ} (h : pB z) : pB (zFail S w z) := fun q => by
  unfold zFail at q ⊢
  split
  · rename_i c
    rw [if_pos c] at q
    exact h c
  · rename_i c
    rw [if_neg c] at q
    exact absurd q c
theorem pB_if {z : pZ} (h : pB z) : pB (zIf K S z) := pB_must (pB_ex (pB_must (pB_ex (pB_must (pB_ex (pB_take h))))))
theorem pB_ifs : ∀ (n : Nat) {z : pZ}, pB z → pB (zIfs K S n z)
  | 0, z, h => by
    rw [zIfs]
    split
    · exact pB_if (pB_fail h)
    · exact h
  | n + 1, z, h => by
    rw [zIfs]
    split
    · exact pB_ifs n (pB_if h)
    · exact h
theorem pB_law {z : pZ} (h : pB z) : pB (zLaw K S z) := pB_ex (pB_ifs 4 (pB_must h))
theorem pB_1 {z z' : pZ} (e : z'.1 = z.1) (h : pB z) : pB z' := by
  unfold pB
  show z'.1.2.1 = 0 → z'.1.1 ≤ 400
  rw [e]
  exact h
theorem pB_note {w p : Int32} {z : pZ} (h : pB z) : pB (zNote w p z) := pB_1 zNote_1.1 h
theorem pB_int {a b : Int32} {z : pZ} (h : pB z) : pB (zInt K S N a b z) := by
  unfold zInt
  split
  · exact pB_note (pB_take h)
  · exact pB_take h
theorem pB_name {z : pZ} (h : pB z) : pB (zName K S N z) := by
  unfold zName
  split
  · split
    · exact pB_note (pB_take h)
    · exact pB_1 (z := zTake S (decide (K (pt z) = 2)) z) rfl (pB_take h)
  · exact pB_take h
theorem pB_stand {b : Bool} {z : pZ} (h : pB z) : pB (zStand K S N b z) := by
  refine pB_1 (zStand_1 (K := K) (S := S) (N := N)).1 ?_
  split
  · exact pB_int (pB_int (pB_name h))
  · exact pB_int (pB_int (pB_name h))
theorem pB_set {k : Int32} {z : pZ} (h : pB z) : pB (zSet K S N k z) := by
  unfold zSet
  split
  · exact pB_int h
  · split
    · exact pB_int h
    · split
      · exact pB_int h
      · split
        · exact pB_int h
        · exact pB_fail h
theorem pB_tell {z : pZ} (h : pB z) : pB (zTell K S N z) := by
  rw [zTell_eq]
  have h1 : pB (zTake S (decide (128 ≤ K (pt z) ∧ K (pt z) ≤ 138)) (if (K (pt z) = 128 ∧ 6 ≤ z.2.2.2.1) ∨ (K (pt z) = 129 ∧ 6 ≤ z.2.2.2.2) then zFail S 2 z else z)) := by
    refine pB_take ?_
    split
    · exact pB_fail h
    · exact h
  refine pB_must ?_
  split
  · exact pB_stand h1
  · split
    · exact pB_stand h1
    · split
      · exact pB_law h1
      · exact pB_set h1
theorem yIfs_wf : ∀ (n : Nat) (z : pZ), pB z → pf (zIfs K S n z) = 0 → ∀ b ∈ yIfs K S N n z, (∃ f, aX b.1 15 f) ∧ (∃ f, aX b.2.1 15 f) ∧ ∃ f, aX b.2.2 15 f
  | 0, z, _, _, b, hb => by rw [yIfs] at hb; cases hb
  | n + 1, z, h, h0, b, hb => by
    rw [yIfs] at hb
    rw [zIfs] at h0
    by_cases c : pf z = 0 ∧ K (pt z) = 139
    · rw [if_pos c] at hb h0
      rcases List.mem_cons.mp hb with rfl | hb
      · have p6 : pf (zMust K S 141 (zEx K S (zMust K S 140 (zEx K S (zMust K S 60 (zEx K S (zTake S true z))))))) = 0 := zIfs_0 h0
        have p5 := zMust_0 p6
        have p4 := zEx_0 p5
        have p3 := zMust_0 p4
        have p2 := zEx_0 p3
        have p1 := zMust_0 p2
        have q0 := pB_take (S := S) (b := true) h
        have q1 := pB_must (K := K) (S := S) (k := 60) (pB_ex (K := K) (S := S) q0)
        have q2 := pB_must (K := K) (S := S) (k := 140) (pB_ex (K := K) (S := S) q1)
        exact ⟨xEx_X q0 p1, xEx_X q1 p3, xEx_X q2 p5⟩
      · exact yIfs_wf n _ (pB_if h) h0 b hb
    · rw [if_neg c] at hb; cases hb
theorem yLaw_wf {z : pZ} (h : pB z) (h0 : pf (zLaw K S z) = 0) : aWf (yLaw K S N z) := by
  unfold zLaw at h0
  exact ⟨yIfs_wf 4 _ (pB_must h) (zEx_0 h0), xEx_X (pB_ifs 4 (pB_must h)) h0⟩
theorem aX_up {w : pC} {n m : Nat} (hm : n ≤ m) (h : ∃ f, aX w n f) : ∃ f, aX w m f := by
  obtain ⟨f, h1, h2, h3, h4⟩ := h
  exact ⟨f, h1, h2, fun p s q => by have := h3 p s q; omega, h4⟩
theorem aLaw0_wf (k : Nat) : aWf (aLaw0 k) := by
  refine ⟨(fun b hb => by cases hb), ?_⟩
  unfold aLaw0
  show ∃ f, aX (if k = 0 then [(1, 0)] else if k = 1 then [(1, 2), (1, 3), (3, 0)] else if k = 3 then [(1, 4)] else [(0, 0)]) 15 f
  have v : ∀ j : Int32, 0 ≤ j.toInt ∧ j.toInt < 9 → ∃ f, aX [((1 : Int32), j)] 15 f := fun j hj => aX_up (by decide) ⟨_, aX_lf (Or.inr (Or.inl ⟨rfl, hj.1, hj.2⟩)) (Or.inr rfl)⟩
  split
  · exact v 0 (by decide)
  · split
    · obtain ⟨f, hf⟩ := v 2 (by decide)
      obtain ⟨g, hg⟩ := aX_up (m := 14) (by decide) (⟨_, aX_lf (k := 1) (v := 3) (Or.inr (Or.inl ⟨rfl, by decide, by decide⟩)) (Or.inr rfl)⟩ : ∃ f, aX [((1 : Int32), (3 : Int32))] 1 f)
      exact ⟨_, aX_Y hf (aY_go (k := 3) (by decide) hg (aY_nil (n := 14)) (Nat.le_refl _)) (Nat.le_refl _)⟩
    · split
      · exact v 4 (by decide)
      · exact aX_up (by decide) ⟨_, aX_lf (k := 0) (v := 0) (Or.inl rfl) (Or.inl rfl)⟩
theorem zTell_n {z : pZ} (h : pf (zTell K S N z) = 0) (h1 : 130 ≤ K (pt z)) (h2 : K (pt z) < 135) : pf (zLaw K S (zTake S true z)) = 0 := by
  rw [zTell_law h1 h2] at h
  exact zMust_0 h
theorem zAll_0 : ∀ (n : Nat) (z : pZ), pf (zAll K S N n z) = 0 → pf z = 0
  | 0, _, h => h
  | n + 1, z, h => by
    rw [zAll] at h
    by_cases c : pf z = 0 ∧ ¬ K (pt z) = 0
    · exact c.1
    · rw [if_neg c] at h; exact h
theorem aTell_wf {z : pZ} {A : aD} (hb : pB z) (h0 : pf (zTell K S N z) = 0) (hA : ∀ k, aWf (A.2.2.2 k)) : ∀ k, aWf ((aTell K S N z A).2.2.2 k) := by
  intro k
  by_cases c : 130 ≤ K (pt z) ∧ K (pt z) < 135
  · rw [aTell_law c.1 c.2]
    show aWf (if k = (K (pt z) - 130).toInt.toNat then yLaw K S N (zTake S true z) else A.2.2.2 k)
    split
    · exact yLaw_wf (pB_take hb) (zTell_n h0 c.1 c.2)
    · exact hA k
  · unfold aTell
    split
    · exact hA k
    · split
      · exact hA k
      · first | (rw [if_neg c]; exact hA k) | exact hA k
theorem aAll_wf : ∀ (n : Nat) (z : pZ) (A : aD), pB z → pf (zAll K S N n z) = 0 → (∀ k, aWf (A.2.2.2 k)) → ∀ k, aWf ((aAll K S N n z A).2.2.2 k)
  | 0, _, A, _, _, hA, k => hA k
  | n + 1, z, A, hb, h0, hA, k => by
    rw [aAll]
    rw [zAll] at h0
    by_cases c : pf z = 0 ∧ ¬ K (pt z) = 0
    · rw [if_pos c] at h0 ⊢
      exact aAll_wf n _ _ (pB_tell hb) h0 (aTell_wf hb (zAll_0 n _ h0) hA) k
    · rw [if_neg c]; exact hA k
/-- all laws of a text without a fault -/
theorem aText_wf (h : pf (zText K S N) = 0) : ∀ k, aWf ((aText K S N).2.2.2 k) := aAll_wf 401 _ _ (fun _ => Nat.zero_le _) h aLaw0_wf
end
end
