section
/-! ===== the reference's expressions: what code they leave ===== -/
/-- the code from c0 on -/
def rEm (c0 : Nat) (I : qMI) (em : pC) : Prop := ∀ i p, em[i]? = some p → I 318 (c0 + i) = p.1 ∧ I 319 (c0 + i) = p.2
def rOp (x : Int32) : Int32 := if x = 8 then 2 else if x = 9 then 3 else if x = 10 then 4 else 5
/-- the levels of what waits -/
def rLev : List Int32 → (pC × pC) × List (pC × pC)
  | [] => (([], []), [])
  | x :: t => if x = 6 then (([], []), (rLev t).1 :: (rLev t).2) else if x = 8 ∨ x = 9 then (([(rOp x, 0)], []), (rLev t).2) else (((rLev t).1.1, [(rOp x, 0)]), (rLev t).2)
theorem rLev_6 {t : List Int32} : rLev (6 :: t) = (([], []), (rLev t).1 :: (rLev t).2) := by rw [rLev, if_pos rfl]
theorem rLev_p {x : Int32} {t : List Int32} (h : x = 8 ∨ x = 9) : rLev (x :: t) = (([(rOp x, 0)], []), (rLev t).2) := by
  rw [rLev, if_neg (fun q => by rcases h with rfl | rfl <;> exact absurd q (by decide)), if_pos h]
theorem rLev_m {x : Int32} {t : List Int32} (h6 : x ≠ 6) (h : ¬ (x = 8 ∨ x = 9)) : rLev (x :: t) = (((rLev t).1.1, [(rOp x, 0)]), (rLev t).2) := by rw [rLev, if_neg h6, if_neg h]
theorem rLev_len : ∀ ws : List Int32, (rLev ws).2.length = yOpn ws
  | [] => rfl
  | x :: t => by
    by_cases h6 : x = 6
    · subst h6
      rw [rLev_6, yOpn_6]
      show (rLev t).2.length + 1 = _
      rw [rLev_len t]
    · rw [yOpn_c h6, ← rLev_len t]
      by_cases h : x = 8 ∨ x = 9
      · rw [rLev_p h]
      · rw [rLev_m h6 h]
theorem rLev_gp : ∀ {ws : List Int32}, yGp ws → (rLev ws).1 = ([], [])
  | [], _ => rfl
  | x :: t, h => by
    have e : x = 6 := h
    rw [e, rLev_6]
theorem rLev_gm : ∀ {ws : List Int32}, yGm ws → (rLev ws).1.2 = []
  | [], _ => rfl
  | x :: t, h => by
    have e : x = 6 ∨ x = 8 ∨ x = 9 := h
    rcases e with e | e
    · rw [e, rLev_6]
    · rw [rLev_p e]
/-- all that a level still gives -/
def rFl (ws : List Int32) : pC := (rLev ws).1.2 ++ (rLev ws).1.1
theorem rFl_pop {w : Int32} {r : List Int32} (h : yOkw (w :: r)) (h6 : w ≠ 6) : rFl (w :: r) = (rOp w, 0) :: rFl r ∧ (rLev (w :: r)).2 = (rLev r).2 := by
  obtain ⟨h1, -⟩ := h
  unfold rFl
  by_cases hp : w = 8 ∨ w = 9
  · have hg : yGp r := by
      rcases h1 with q | q | q
      · exact absurd q h6
      · exact q.2
      · rcases hp with rfl | rfl <;> rcases q.1 with q | q <;> exact absurd q (by decide)
    rw [rLev_p hp, rLev_gp hg]
    exact ⟨rfl, rfl⟩
  · have hg : yGm r := by
      rcases h1 with q | q | q
      · exact absurd q h6
      · exact absurd q.1 hp
      · exact q.2
    rw [rLev_m h6 hp, rLev_gm hg]
    exact ⟨rfl, rfl⟩
theorem rEm_of {c0 : Nat} {I J : qMI} {em : pC} (h : rEm c0 I em) (e1 : J 318 = I 318) (e2 : J 319 = I 319) : rEm c0 J em := by
  unfold rEm
  rw [e1, e2]
  exact h
theorem rEm_em {c0 n : Nat} {I : qMI} {em : pC} {k v : Int32} (h : rEm c0 I em) (hn : em.length = n) (hc : (I 292 40).toNatClampNeg = c0 + n) : rEm c0 (yEm k v I) (em ++ [(k, v)]) := by
  intro i p hp
  rw [yEm_318, yEm_319, hc]
  by_cases hi : i = n
  · subst hi
    rw [if_pos rfl, if_pos rfl]
    rw [List.getElem?_append_right (by omega), hn, Nat.sub_self] at hp
    injection hp with hp
    rw [← hp]
    exact ⟨rfl, rfl⟩
  · rw [if_neg (by omega), if_neg (by omega)]
    by_cases hl : i < em.length
    · rw [List.getElem?_append_left hl] at hp
      exact h i p hp
    · rw [List.getElem?_append_right (by omega), List.getElem?_eq_none (by rw [List.length_singleton]; omega)] at hp
      cases hp
theorem rK_sub : ∀ a ∈ pVk, (142 ≤ a ∧ a < 151) → rK a - 34 = a - 142 := by decide +kernel
section
variable {l : Launch} {G : qG} {d : Nat} {I I0 : qMI} {L : qML} {R : qMR} {sb c0 base : Nat} {T : Nat} {K S : Nat → Int32} {N : Nat → Int64} {z : pZ}
/-- behind comesOut -/
def uO (sb c0 base : Nat) (I0 I : qMI) (ws : List Int32) (em : pC) (strong : Int32) (I' : qMI) : Prop := ∃ ws' n', yX sb c0 base I0 I' ws' n' 1 ∧ yOpn ws' = yOpn ws ∧ (strong = 0 → yGp ws') ∧ (strong ≠ 0 → yGm ws') ∧ (∀ j, j ≠ 40 → j ≠ 44 → I' 292 j = I 292 j) ∧ ∃ em', em'.length = n' ∧ rEm c0 I' em' ∧ em' ++ rFl ws' = em ++ rFl ws ∧ (rLev ws').2 = (rLev ws).2 ∧ (strong ≠ 0 → (rLev ws').1.1 = (rLev ws).1.1)
theorem uOutLoop (hR : wkR R) (hsb : sb = 0 ∨ sb = 420) {strong : Int32} {J : qMI} {ws0 : List Int32} {em0 : pC} : ∀ (ws : List Int32) (n : Nat) (I : qMI) (em : pC), yX sb c0 base I0 I ws n 1 → yOpn ws = yOpn ws0 → (∀ j, j ≠ 40 → j ≠ 44 → I 292 j = J 292 j) → em.length = n → rEm c0 I em → em ++ rFl ws = em0 ++ rFl ws0 → (rLev ws).2 = (rLev ws0).2 → (strong ≠ 0 → (rLev ws).1.1 = (rLev ws0).1.1) →
    wkB l G (d + 1 + 1) n_X9_comesOut (wkPV R (fun I' L' => L' = L ∧ uO sb c0 base I0 J ws0 em0 strong I')) 0 [.ref 292, .int strong, wkU] [] I L R := by
  intro ws
  induction ws with
  | nil =>
    intro n I em h ho e1 m1 m2 m3 m4 m5
    refine w_X9_comesOut_0 (fun _ => w_X9_comesOut_91 ⟨rfl, rfl, rfl, rfl, [], n, h, ho, fun _ => trivial, fun _ => trivial, e1, em, m1, m2, m3, m4, m5⟩) (fun q => absurd (i_le.mpr ?_) q)
    rw [h.2.2.1.2.1]
    decide
  | cons w r ih =>
    intro n I em h ho e1 m1 m2 m3 m4 m5
    have h4 := h.2.2.1.2.1
    rw [List.length_cons] at h4
    have hlen := yX_len h
    rw [List.length_cons] at hlen
    have ei : (I 292 44 - 1).toInt = r.length := by rw [i_p' (by omega), h4]; omega
    have ew : I 320 (I 292 44 - 1).toNatClampNeg = w := by rw [tcn, ei]; exact h.2.2.1.1.1
    refine w_X9_comesOut_0 (fun q => absurd (i_le.mp q) (by rw [h4, show (0 : Int32).toInt = 0 from rfl]; omega)) (fun _ => w_X9_comesOut_7 hR (vin (by omega) (by omega)) (fun q => ?_) (fun q => ?_))
    · rw [ew] at q ⊢
      exact w_X9_comesOut_41 ⟨rfl, rfl, rfl, rfl, w :: r, n, h, ho, fun _ => q, fun _ => Or.inl q, e1, em, m1, m2, m3, m4, m5⟩
    · rw [ew] at q ⊢
      have en : yOpn r = yOpn ws0 := by rw [← ho, yOpn_c q]
      obtain ⟨p1, p2⟩ := rFl_pop h.2.2.1.2.2 q
      have go : ∀ k : Int32, (2 ≤ k.toInt ∧ k.toInt ≤ 5) → rOp w = k → (strong = 0 ∨ ¬ (w = 8 ∨ w = 9)) → wkB l G (d + 1 + 1) n_X9_comesOut (wkPV R (fun I' L' => L' = L ∧ uO sb c0 base I0 J ws0 em0 strong I')) 84 [.ref 292, .int strong, .int w] [.int k, .ref 292] (qUp I 292 44 (I 292 44 - 1)) L R := by
        intro k hk ek hs
        have hx := yX_pop hsb h q hk
        have h40 : (qUp I 292 44 (I 292 44 - 1)) 292 40 = I 292 40 := qUp_ne (by omega)
        have hc := yX_c hsb h
        refine w_X9_comesOut_84 (yEmit (d := d) hR (by rw [h40]; exact hc.1)) (fun I1 L1 hq => ?_)
        obtain ⟨rfl, rfl⟩ := hq
        refine w_X9_comesOut_88 (ih (n + 1) _ (em ++ [(k, 0)]) hx en (fun j a b => by rw [yEm_f a, qUp_ne (fun q => b q.2)]; exact e1 j a b) (by rw [List.length_append, m1]; rfl) (rEm_em (rEm_of m2 (funext fun i => qUp_ne (by omega)) (funext fun i => qUp_ne (by omega))) m1 (by rw [h40]; exact hc.2.1)) ?_ (by rw [← p2]; exact m4) (fun s => ?_))
        · rw [← m3, p1, ek, List.append_assoc]; rfl
        · rcases hs with hs | hs
          · exact absurd hs s
          · rw [← m5 s, rLev_m q hs]
      have pop : (strong = 0 ∨ ¬ (w = 8 ∨ w = 9)) → wkB l G (d + 1 + 1) n_X9_comesOut (wkPV R (fun I' L' => L' = L ∧ uO sb c0 base I0 J ws0 em0 strong I')) 42 [.ref 292, .int strong, .int w] [] I L R := fun hs => w_X9_comesOut_42 (fun q8 => w_X9_comesOut_63 (fun q9 => w_X9_comesOut_73 (fun q10 => w_X9_comesOut_83 (go 5 (by decide) (by unfold rOp; rw [if_neg q8, if_neg q9, if_neg q10]) hs)) (fun q10 => w_X9_comesOut_79 (go 4 (by decide) (by unfold rOp; rw [if_neg q8, if_neg q9, if_pos q10]) hs))) (fun q9 => w_X9_comesOut_69 (go 3 (by decide) (by unfold rOp; rw [if_neg q8, if_pos q9]) hs))) (fun q8 => w_X9_comesOut_59 (go 2 (by decide) (by unfold rOp; rw [if_pos q8]) hs))
      refine w_X9_comesOut_25 (fun q => pop (Or.inl q)) (fun s1 => w_X9_comesOut_29 (fun q8 => ?_) (fun q8 => w_X9_comesOut_35 (fun q9 => pop (Or.inr (fun x => x.elim q8 q9))) (fun q9 => ?_)))
      · exact w_X9_comesOut_41 ⟨rfl, rfl, rfl, rfl, w :: r, n, h, ho, fun z => absurd z s1, fun _ => Or.inr (Or.inl q8), e1, em, m1, m2, m3, m4, m5⟩
      · exact w_X9_comesOut_41 ⟨rfl, rfl, rfl, rfl, w :: r, n, h, ho, fun z => absurd z s1, fun _ => Or.inr (Or.inr q9), e1, em, m1, m2, m3, m4, m5⟩
theorem uOut (hR : wkR R) (hsb : sb = 0 ∨ sb = 420) {strong : Int32} {ws : List Int32} {n : Nat} {em : pC} (h : yX sb c0 base I0 I ws n 1) (m1 : em.length = n) (m2 : rEm c0 I em) : wkV l G (d + 2) n_X9_comesOut [.ref 292, .int strong] I L R (fun I' L' => L' = L ∧ uO sb c0 base I0 I ws em strong I') :=
  wkC_of 1 (by decide) (Nat.le_of_ble_eq_true rfl) (uOutLoop (d := d) hR hsb ws n I em h rfl (fun _ _ _ => rfl) m1 m2 rfl rfl (fun _ => rfl))
/-- what a comesOut gives: all of a level, or its products alone -/
theorem uO_0 {ws ws' : List Int32} {em em' : pC} (h : em' ++ rFl ws' = em ++ rFl ws) (g : yGp ws') : em' = em ++ ((rLev ws).1.2 ++ (rLev ws).1.1) := by
  unfold rFl at h
  rw [rLev_gp g] at h
  simpa using h
theorem uO_1 {ws ws' : List Int32} {em em' : pC} (h : em' ++ rFl ws' = em ++ rFl ws) (g : yGm ws') (e : (rLev ws').1.1 = (rLev ws).1.1) : em' = em ++ (rLev ws).1.2 := by
  unfold rFl at h
  rw [rLev_gm g, e, List.nil_append, ← List.append_assoc] at h
  exact List.append_cancel_right h
/-- a unit's code -/
theorem uUnit (hR : wkR R) {ws : List Int32} {n : Nat} {em : pC} (hsb : sb = 0 ∨ sb = 420) (h : yX sb c0 base I0 I ws n 0) (g : rG T K S N I L z) (hn : ¬ (pf z = 0 ∧ K (pt z) = 40)) {e : Nat} (m1 : em.length = n) (m2 : rEm c0 I em) : wkV l G (d + 3) n_X9_unit [.ref 292] I L R (fun I' L' => L' = L ∧ ((I' 292 13 ≠ 0 ∧ (∃ n' fl', yX sb c0 base I0 I' ws n' fl')) ∨ (I' 292 13 = 0 ∧ (I' 292 11).toInt = (I 292 11).toInt + 1 ∧ yX sb c0 base I0 I' ws (n + 1) 1 ∧ (em ++ xUn K S N e z).length = n + 1 ∧ rEm c0 I' (em ++ xUn K S N e z))) ∧ rG T K S N I' L' (zUn K S e z)) := by
  have hk := h.2.1
  have bad : ¬ (pf z = 0 ∧ (K (pt z) = 3 ∨ (142 ≤ K (pt z) ∧ K (pt z) < 151))) → wkB l G (d + 2 + 1) n_X9_unit (wkPV R (fun I' L' => L' = L ∧ ((I' 292 13 ≠ 0 ∧ (∃ n' fl', yX sb c0 base I0 I' ws n' fl')) ∨ (I' 292 13 = 0 ∧ (I' 292 11).toInt = (I 292 11).toInt + 1 ∧ yX sb c0 base I0 I' ws (n + 1) 1 ∧ (em ++ xUn K S N e z).length = n + 1 ∧ rEm c0 I' (em ++ xUn K S N e z))) ∧ rG T K S N I' L' (zUn K S e z))) 88 [.ref 292] [] I L R := fun c => w_X9_unit_88 (rFail (d := d + 1) hR hk g.w (by decide) (by decide)) (fun I1 L1 hq => by
    obtain ⟨rfl, q1, q2, -, q4⟩ := hq
    refine w_X9_unit_93 ⟨rfl, rfl, rfl, rfl, Or.inl ⟨q2, n, 0, yX_s h q1⟩, ?_⟩
    have ez : zUn K S e z = zFail S 1 z := by
      by_cases hf : pf z = 0
      · exact zUn_n hf (fun x => c ⟨hf, x⟩) (fun x => hn ⟨hf, x⟩)
      · rw [zUn_f hf, zFail_f hf]
    rw [ez]
    exact q4)
  have xun : (K (pt z) = 3 ∨ (142 ≤ K (pt z) ∧ K (pt z) < 151)) → xUn K S N e z = xLf K N z := fun q => by
    cases e with
    | zero => rw [xUn]
    | succ e => rw [xUn, if_pos q]
  have hc := yX_c hsb h
  have good : ∀ (k v : Int32), I 292 13 = 0 → (k = 0 ∨ (k = 1 ∧ vp_in v 9)) → xUn K S N e z = [(k, v)] → ∀ I2 : qMI, yN (yEm k v I) I2 → (I2 292 13 ≠ 0 ∧ (∃ n' fl', yX sb c0 base I0 I2 ws n' fl')) ∨ (I2 292 13 = 0 ∧ (I2 292 11).toInt = (I 292 11).toInt + 1 ∧ yX sb c0 base I0 I2 ws (n + 1) 1 ∧ (em ++ xUn K S N e z).length = n + 1 ∧ rEm c0 I2 (em ++ xUn K S N e z)) := by
    intro k v hf hkv ex I2 hN
    have hx := yX_unit hsb h hf hkv hN
    by_cases q : I2 292 13 = 0
    · refine Or.inr ⟨q, by rw [hN.2 q, yEm_f (by decide)], hx, by rw [ex, List.length_append, m1]; rfl, ?_⟩
      rw [ex]
      exact rEm_of (rEm_em m2 m1 hc.2.1) (hN.1.1.1 318 (by decide)) (hN.1.1.1 319 (by decide))
    · exact Or.inl ⟨q, _, _, hx⟩
  have ok2 : ∀ k v : Int32, yOk (yEm k v I) := fun k v => by
    unfold yOk
    rw [yEm_f (by decide), yEm_f (by decide)]
    exact hk
  refine wkC_of 0 (by decide) (Nat.le_of_ble_eq_true rfl) (w_X9_unit_0 (rIs (k := 3) (d := d + 1) hR hk g (by decide)) (fun y I' L' hq => ?_))
  obtain ⟨rfl, rfl, hy⟩ := hq
  rcases hy with ⟨rfl, f0, k3⟩ | ⟨rfl, c3⟩
  · have f00 : I' 292 13 = 0 := by rw [g.2.1]; exact f0
    refine w_X9_unit_5 (fun q => absurd q (by decide)) (fun _ => w_X9_unit_8 hR (yOk_t hk) (yEmit (d := d + 1) hR (yX_c hsb h).1) (fun I1 L1 hq => ?_))
    obtain ⟨rfl, rfl⟩ := hq
    refine w_X9_unit_22 (rGoes (d := d) hR (ok2 _ _) (rG_em g).w (fun _ => by rw [k3]; decide)) (fun I2 L2 hq => ?_)
    obtain ⟨rfl, hN, g2⟩ := hq
    refine w_X9_unit_26 (w_X9_unit_93 ⟨rfl, rfl, rfl, rfl, good _ _ f00 (Or.inl rfl) ?_ I2 hN, by rw [zUn_t f0 (Or.inl k3)]; exact g2⟩)
    obtain ⟨a1, a2, a3, a4, a5⟩ := rAt g.w f0
    rw [xun (Or.inl k3), a1, (g.1.2.1 (pt z) a2).2.2.2.1 k3]
    unfold xLf
    rw [if_pos k3]
  · have nov : ∀ (P : Prop), (pf z = 0 → ¬ P) → (∀ x : pf z = 0, (142 ≤ K (pt z) ∧ K (pt z) < 151) → P) → ¬ (pf z = 0 ∧ (K (pt z) = 3 ∨ (142 ≤ K (pt z) ∧ K (pt z) < 151))) := fun P a b c => by
      rcases c.2 with x | x
      · exact c3 ⟨c.1, x⟩
      · exact a c.1 (b c.1 x)
    have kv : pf z = 0 → I' 295 (I' 292 11).toNatClampNeg = rK (K (pt z)) ∧ K (pt z) ∈ pVk := fun x => by
      obtain ⟨a1, a2, a3, a4, a5⟩ := rAt g.w x
      rw [a1]
      exact ⟨a4, a3⟩
    refine w_X9_unit_5 (fun _ => w_X9_unit_29 (fun q => bad (fun c => q (by rw [g.2.1]; exact c.1))) (fun f0 => w_X9_unit_36 hR (yOk_t hk) (fun q => bad (nov _ (fun x y => ?_) (fun x y => ((rK_var _ (kv x).2).mpr y).1))) (fun g1 => w_X9_unit_50 hR (yOk_t hk) (fun q => bad (nov _ (fun x y => ?_) (fun x y => ((rK_var _ (kv x).2).mpr y).2))) (fun g2 => w_X9_unit_64 hR (yOk_t hk) (yEmit (d := d + 1) hR (yX_c hsb h).1) (fun I1 L1 hq => ?_))))) (fun q => absurd rfl q)
    · rw [(kv x).1] at q
      have := i_lt.mp q
      rw [show (34 : Int32).toInt = 34 from rfl] at this
      omega
    · rw [(kv x).1] at q
      have := i_lt.mp q
      rw [show (42 : Int32).toInt = 42 from rfl] at this
      omega
    obtain ⟨rfl, rfl⟩ := hq
    have a1 : ¬ _ := fun q => g1 (i_lt.mpr q)
    have a2 : ¬ _ := fun q => g2 (i_lt.mpr q)
    rw [show (34 : Int32).toInt = 34 from rfl] at a1
    rw [show (42 : Int32).toInt = 42 from rfl] at a2
    have e' := i_sub (x := I' 295 (I' 292 11).toNatClampNeg) (y := 34) (by rw [show (34 : Int32).toInt = 34 from rfl]; omega) (by rw [show (34 : Int32).toInt = 34 from rfl]; omega)
    rw [show (34 : Int32).toInt = 34 from rfl] at e'
    have f00 : pf z = 0 := by rw [← g.2.1]; exact f0
    have kz : 142 ≤ K (pt z) ∧ K (pt z) < 151 := (rK_var _ (kv f00).2).mp (by rw [← (kv f00).1]; omega)
    refine w_X9_unit_81 (rGoes (d := d) hR (ok2 _ _) (rG_em g).w (fun _ q => by rw [q] at kz; exact absurd kz (by decide))) (fun I2 L2 hq => ?_)
    obtain ⟨rfl, hN, g2'⟩ := hq
    refine w_X9_unit_85 (w_X9_unit_93 ⟨rfl, rfl, rfl, rfl, good _ _ f0 (Or.inr ⟨rfl, vin (by omega) (by omega)⟩) ?_ I2 hN, by rw [zUn_t f00 (Or.inr kz)]; exact g2'⟩)
    rw [xun (Or.inr kz), (kv f00).1, rK_sub _ (kv f00).2 kz]
    unfold xLf
    rw [if_neg (fun q => by rw [q] at kz; exact absurd kz (by decide))]
end
end
section
/-! ===== the reference's expressions: the loop, with the code ===== -/
section
variable {l : Launch} {G : qG} {d : Nat} {I0 : qMI} {L : qML} {R : qMR} {sb c0 base : Nat} {T : Nat} {K S : Nat → Int32} {N : Nat → Int64} {E : pZ} {X : pC}
/-- before a unit -/
def uU (K S : Nat → Int32) (N : Nat → Int64) (E : pZ) (X : pC) (c0 : Nat) (I : qMI) (n : Nat) (ws : List Int32) (z : pZ) : Prop := rU K S E ws z ∧ ∃ em : pC, em.length = n ∧ rEm c0 I em ∧ (pf E = 0 → em ++ (xUn K S N (6 - yOpn ws) z ++ xAO K S N (rLev ws).2 (rLev ws).1 (zUn K S (6 - yOpn ws) z)) = X)
/-- behind one -/
def uA (K S : Nat → Int32) (N : Nat → Int64) (E : pZ) (X : pC) (c0 : Nat) (I : qMI) (n : Nat) (ws : List Int32) (z : pZ) : Prop := zAO K S (yOpn ws) z = E ∧ ∃ em : pC, em.length = n ∧ rEm c0 I em ∧ (pf E = 0 → em ++ xAO K S N (rLev ws).2 (rLev ws).1 z = X)
/-- at the end -/
def uE (c0 : Nat) (I : qMI) (X : pC) : Prop := (I 292 40).toInt = (c0 + X.length : Nat) ∧ rEm c0 I X
theorem uU_of {I J : qMI} {n : Nat} {ws : List Int32} {z : pZ} (h : uU K S N E X c0 I n ws z) (e1 : J 318 = I 318) (e2 : J 319 = I 319) : uU K S N E X c0 J n ws z := by
  obtain ⟨h1, em, h2, h3, h4⟩ := h
  exact ⟨h1, em, h2, rEm_of h3 e1 e2, h4⟩
theorem uU_open {I : qMI} {n : Nat} {ws : List Int32} {z : pZ} (h6 : yOpn ws < 6) (hf : pf z = 0) (h : K (pt z) = 40) (hu : uU K S N E X c0 I n ws z) : uU K S N E X c0 I n (6 :: ws) (zTake S true z) := by
  obtain ⟨h1, em, h2, h3, h4⟩ := hu
  refine ⟨?_, em, h2, h3, fun q => ?_⟩
  · unfold rU at h1 ⊢
    rw [yOpn_6, ← zAO_open h6 hf h]
    exact h1
  · rw [← h4 q, rLev_6, yOpn_6]
    have e := xAO_open (K := K) (S := S) (N := N) (r := (rLev ws).2) (w := (rLev ws).1) (by rw [rLev_len]; exact h6) hf h
    rw [rLev_len] at e
    rw [e]
theorem uU_bad {I : qMI} {n : Nat} {ws ws' : List Int32} {z z' : pZ} (hf : pf z' ≠ 0) (hE : z' = E) (h : uU K S N E X c0 I n ws z) : uU K S N E X c0 I n ws' z' := by
  obtain ⟨h1, em, h2, h3, h4⟩ := h
  exact ⟨(rU_f hf).mpr hE, em, h2, h3, fun q => absurd q (by rw [← hE]; exact hf)⟩
theorem uA_close {I : qMI} {n1 : Nat} {ws r : List Int32} {z : pZ} {em em1 : pC} (e1 : yOpn (6 :: r) = yOpn ws) (h : K (pt z) = 41) (ha : zAO K S (yOpn ws) z = E) (m3 : pf E = 0 → em ++ xAO K S N (rLev ws).2 (rLev ws).1 z = X) (u1 : em1.length = n1) (u2 : rEm c0 I em1) (u3 : em1 ++ rFl (6 :: r) = em ++ rFl ws) (u4 : (rLev (6 :: r)).2 = (rLev ws).2) : uA K S N E X c0 I n1 r (zTake S true z) := by
  have ez : zMust K S 41 z = zTake S true z := by
    unfold zMust
    rw [decide_eq_true h]
  refine ⟨?_, em1, u1, u2, fun q => ?_⟩
  · rw [yOpn_6] at e1
    rw [← e1, zAO_close h, ez] at ha
    exact ha
  · have e2 := uO_0 u3 rfl
    rw [rLev_6] at u4
    rw [e2, ← m3 q, ← u4]
    rw [show (rLev ws).1 = ((rLev ws).1.1, (rLev ws).1.2) from rfl, xAO_close h, ez]
    simp only [List.append_assoc]
theorem uOpenLoop (hR : wkR R) {Q : qQ} {b more : Int32} {n : Nat} {tl : Int} (KK : ∀ (I' : qMI) (ws' : List Int32) (z' : pZ), yX sb c0 0 I0 I' ws' n 0 → tl ≤ (I' 292 11).toInt → rG T K S N I' L z' → uU K S N E X c0 I' n ws' z' → ¬ (pf z' = 0 ∧ K (pt z') = 40) → wkB l G (d + 2 + 1) n_X9_expression Q 84 [.ref 292, .int b, .int more] [] I' L R) : ∀ (m : Nat) (I : qMI) (ws : List Int32) (z : pZ), (400 - (I 292 11).toInt).toNat = m → yX sb c0 0 I0 I ws n 0 → tl ≤ (I 292 11).toInt → rG T K S N I L z → uU K S N E X c0 I n ws z → wkB l G (d + 2 + 1) n_X9_expression Q 23 [.ref 292, .int b, .int more] [] I L R := by
  intro m
  induction m using Nat.strongRecOn with
  | ind m ih =>
    intro I ws z hm h ht g hu
    refine w_X9_expression_23 (P := fun y I' L' => L' = L ∧ I' = I ∧ ((y = 1 ∧ pf z = 0 ∧ K (pt z) = 40) ∨ (y = 0 ∧ ¬ (pf z = 0 ∧ K (pt z) = 40)))) (by rw [← rK_vals.1]; exact rIs (k := 40) (d := d + 1) hR h.2.1 g (by decide)) (fun y I' L' hq => ?_)
    obtain ⟨rfl, rfl, hy⟩ := hq
    rcases hy with ⟨rfl, f0, k40⟩ | ⟨rfl, c40⟩
    case inr => exact w_X9_expression_29 (fun _ => KK I' ws z h ht g hu c40) (fun q => absurd rfl q)
    refine w_X9_expression_29 (fun q => absurd q (by decide)) (fun _ => ?_)
    have t0 := h.2.1.1
    have f00 : I' 292 13 = 0 := by rw [g.2.1]; exact f0
    have h8 := h.2.2.2.1.2.2 f00
    have h6 := h.2.2.2.1.1
    rw [Nat.zero_add] at h8 h6
    -- from 46 on
    have go : ∀ (I1 : qMI) (z1 : pZ), yX sb c0 0 I0 I1 ws n 0 → 0 + yOpn ws ≤ 6 → (I1 292 13 = 0 → 0 + yOpn ws ≤ 5) → I1 292 11 = I' 292 11 → rG T K S N I1 L' z1 → (pf z1 = 0 → K (pt z1) ≠ 0) → uU K S N E X c0 I1 n (6 :: ws) (zTake S true z1) → wkB l G (d + 2 + 1) n_X9_expression Q 46 [.ref 292, .int b, .int more] [] I1 L' R := by
      intro I1 z1 h1 hb hb0 e1 g1 hn1 hu1
      have ok2 : yOk (qUp I1 292 12 (I1 292 12 + 1)) := by
        unfold yOk
        rw [qUp_ne (by omega), qUp_ne (by omega)]
        exact h1.2.1
      refine w_X9_expression_46 (rGoes (d := d) hR ok2 (rG_f (by omega) g1).w hn1) (fun I2 L2 hq => ?_)
      obtain ⟨rfl, hN, g2⟩ := hq
      have hx := yX_open h1 hb hb0 hN
      have hl := yX_len h1
      have e44 : I2 292 44 = I1 292 44 := (hN.1.1.2 44 (by decide) (by decide) (by decide) (by decide) (by decide)).trans (qUp_ne (by omega))
      have hw : vp_in (I2 292 44) 64 := by
        have := h1.2.2.1.2.1
        rw [e44]
        exact vin (by omega) (by omega)
      refine w_X9_expression_60 hR hw ?_
      rw [yPush_eq]
      have p11 : yPush 6 I2 292 11 = I2 292 11 := yPush_f (by decide)
      have p13 : yPush 6 I2 292 13 = I2 292 13 := yPush_f (by decide)
      have s318 : yPush 6 I2 318 = I1 318 := by rw [yPush_o (by decide) (by decide), hN.1.1.1 318 (by decide)]; exact funext fun i => qUp_ne (by omega)
      have s319 : yPush 6 I2 319 = I1 319 := by rw [yPush_o (by decide) (by decide), hN.1.1.1 319 (by decide)]; exact funext fun i => qUp_ne (by omega)
      have t2 := hN.1.2.2.1
      rw [show (qUp I1 292 12 (I1 292 12 + 1)) 292 11 = I1 292 11 from qUp_ne (by omega), e1] at t2
      by_cases hf : I2 292 13 = 0
      · have := hN.2 hf
        rw [show (qUp I1 292 12 (I1 292 12 + 1)) 292 11 = I1 292 11 from qUp_ne (by omega), e1] at this
        have t3 := hN.1.2.1.1
        exact ih (400 - (yPush 6 I2 292 11).toInt).toNat (by rw [p11]; omega) (yPush 6 I2) (6 :: ws) _ rfl hx (by rw [p11]; omega) (rG_push g2) (uU_of hu1 s318 s319)
      · have hf2 : pf (zTake S true z1) ≠ 0 := by rw [← g2.2.1]; exact hf
        refine w_X9_expression_23 (P := fun y I' L' => L' = L2 ∧ I' = yPush 6 I2 ∧ ((y = 1 ∧ pf (zTake S true z1) = 0 ∧ K (pt (zTake S true z1)) = 40) ∨ (y = 0 ∧ ¬ (pf (zTake S true z1) = 0 ∧ K (pt (zTake S true z1)) = 40)))) (by rw [← rK_vals.1]; exact rIs (k := 40) (d := d + 1) hR hx.2.1 (rG_push g2) (by decide)) (fun y I3 L3 hq => ?_)
        obtain ⟨rfl, rfl, hy⟩ := hq
        rcases hy with ⟨-, q, -⟩ | ⟨rfl, q⟩
        · exact absurd q hf2
        · exact w_X9_expression_29 (fun _ => KK _ (6 :: ws) _ hx (by rw [p11]; omega) (rG_push g2) (uU_of hu1 s318 s319) q) (fun q => absurd rfl q)
    refine w_X9_expression_32 (fun q => ?_) (fun q => w_X9_expression_41 (rFail (d := d + 1) hR h.2.1 g.w (by decide) (by decide)) (fun I1 L1 hq => ?_))
    · have : ¬ (I' 292 12).toInt = 6 := fun x => q (i_eq.mpr x)
      refine go I' z h (by omega) (fun _ => by omega) rfl g (fun _ => by rw [k40]; decide) ?_
      exact uU_open (by omega) f0 k40 hu
    · obtain ⟨rfl, q1, q2, q3, q4⟩ := hq
      have hF : pf (zFail S 2 z) ≠ 0 := zFail_n (by decide)
      refine go I1 (zFail S 2 z) (yX_s h q1) (by omega) (fun x => absurd x q2) q3 q4 (fun x => absurd x hF) ?_
      rw [zTake_f hF]
      refine uU_bad hF ?_ (uU_of hu (q1.1.1 318 (by decide)) (q1.1.1 319 (by decide)))
      have hu := hu.1
      have e6 : yOpn ws = 6 := by
        have := i_eq.mp q
        rw [show (6 : Int32).toInt = 6 from rfl] at this
        omega
      unfold rU at hu
      rw [e6, show 6 - 6 = 0 from rfl, zUn_full f0 k40, zAO_f _ hF] at hu
      exact hu
theorem uCloseLoop (hR : wkR R) (hsb : sb = 0 ∨ sb = 420) {Q : qQ} {b more : Int32} (hb : b.toInt = 0) {tl : Int} (KK : ∀ (I' : qMI) (ws' : List Int32) (n' : Nat) (z' : pZ), yX sb c0 0 I0 I' ws' n' 1 → tl ≤ (I' 292 11).toInt → rG T K S N I' L z' → uA K S N E X c0 I' n' ws' z' → (¬ (pf z' = 0 ∧ K (pt z') = 41) ∨ yOpn ws' = 0) → wkB l G (d + 2 + 1) n_X9_expression Q 145 [.ref 292, .int b, .int more] [] I' L R) : ∀ (m : Nat) (I : qMI) (ws : List Int32) (n : Nat) (z : pZ), (400 - (I 292 11).toInt).toNat = m → yX sb c0 0 I0 I ws n 1 → tl ≤ (I 292 11).toInt → rG T K S N I L z → uA K S N E X c0 I n ws z → wkB l G (d + 2 + 1) n_X9_expression Q 96 [.ref 292, .int b, .int more] [] I L R := by
  intro m
  induction m using Nat.strongRecOn with
  | ind m ih =>
    intro I ws n z hm h ht g ha
    refine w_X9_expression_96 (P := fun y I' L' => L' = L ∧ I' = I ∧ ((y = 1 ∧ pf z = 0 ∧ K (pt z) = 41) ∨ (y = 0 ∧ ¬ (pf z = 0 ∧ K (pt z) = 41)))) (by rw [← rK_vals.2.1]; exact rIs (k := 41) (d := d + 1) hR h.2.1 g (by decide)) (fun y I' L' hq => ?_)
    obtain ⟨rfl, rfl, hy⟩ := hq
    rcases hy with ⟨rfl, f0, k41⟩ | ⟨rfl, c41⟩
    case inr => exact w_X9_expression_102 (fun _ => KK I' ws n z h ht g ha (Or.inl c41)) (fun q => absurd rfl q)
    have h6 := h.2.2.2.1.1
    rw [Nat.zero_add] at h6
    refine w_X9_expression_102 (fun q => absurd q (by decide)) (fun _ => w_X9_expression_105 (fun q => KK I' ws n z h ht g ha (Or.inr (by have := i_le.mp q; omega))) (fun hop => ?_))
    obtain ⟨haz, em, m1, m2, m3⟩ := ha
    refine w_X9_expression_113 (uOut (d := d) hR hsb h m1 m2) (fun I1 L1 hq => ?_)
    obtain ⟨rfl, ws1, n1, h1, e1, e2, -, e3, em1, u1, u2, u3, u4, -⟩ := hq
    have g1 : rG T K S N I1 L1 z := rG_e g h.1 h1.1 rfl (fun j hj => e3 j (by omega) (by omega))
    have hop : ¬ _ := fun q => hop (i_le.mpr q)
    rw [h6, hb] at hop
    have hpos : 0 < yOpn ws1 := by omega
    cases ws1 with
    | nil => exact absurd hpos (by decide)
    | cons w r =>
      have hw : w = 6 := e2 rfl
      subst hw
      have hx := yX_close h1
      have e12 : (qUp I1 292 44 (I1 292 44 - 1)) 292 12 = I1 292 12 := qUp_ne (by omega)
      refine w_X9_expression_118 (P := fun I2 L2 => L2 = L1 ∧ yN (qUp (qUp I1 292 44 (I1 292 44 - 1)) 292 12 (I1 292 12 - 1)) I2 ∧ rG T K S N I2 L2 (zTake S true z)) (by rw [e12]; exact rGoes (d := d) hR hx.2.1 (rG_f (by omega) (rG_f (by omega) g1)).w (fun _ => by rw [k41]; decide)) (fun I2 L2 hq => ?_)
      obtain ⟨rfl, hN, g2⟩ := hq
      have hx2 := yX_s hx hN.1
      have e11 : (qUp (qUp I1 292 44 (I1 292 44 - 1)) 292 12 (I1 292 12 - 1)) 292 11 = I' 292 11 := by rw [qUp_ne (by omega), qUp_ne (by omega), e3 11 (by decide) (by decide)]
      have t2 := hN.1.2.2.1
      rw [e11] at t2
      have t3 := hN.1.2.1.1
      have t0 := h.2.1.1
      have ha2 : uA K S N E X c0 I2 n1 r (zTake S true z) := uA_close e1 k41 haz m3 u1 (rEm_of u2 (by rw [hN.1.1.1 318 (by decide)]; exact funext fun i => by rw [qUp_ne (by omega), qUp_ne (by omega)]) (by rw [hN.1.1.1 319 (by decide)]; exact funext fun i => by rw [qUp_ne (by omega), qUp_ne (by omega)])) u3 u4
      refine w_X9_expression_142 ?_
      by_cases hf : I2 292 13 = 0
      · have := hN.2 hf
        rw [e11] at this
        exact ih (400 - (I2 292 11).toInt).toNat (by omega) I2 r n1 _ rfl hx2 (by omega) g2 ha2
      · have hf2 : pf (zTake S true z) ≠ 0 := by rw [← g2.2.1]; exact hf
        refine w_X9_expression_96 (P := fun y I' L' => L' = L2 ∧ I' = I2 ∧ ((y = 1 ∧ pf (zTake S true z) = 0 ∧ K (pt (zTake S true z)) = 41) ∨ (y = 0 ∧ ¬ (pf (zTake S true z) = 0 ∧ K (pt (zTake S true z)) = 41)))) (by rw [← rK_vals.2.1]; exact rIs (k := 41) (d := d + 1) hR hx2.2.1 g2 (by decide)) (fun y I3 L3 hq => ?_)
        obtain ⟨rfl, rfl, hy⟩ := hq
        rcases hy with ⟨-, q, -⟩ | ⟨rfl, q⟩
        · exact absurd q hf2
        · exact w_X9_expression_102 (fun _ => KK I3 r n1 _ hx2 (by omega) g2 ha2 (Or.inl q)) (fun q => absurd rfl q)
end
/-! ===== the reference's expressions, with the code: all of it ===== -/
section
variable {l : Launch} {G : qG} {d : Nat} {I0 : qMI} {L : qML} {R : qMR} {sb c0 base : Nat} {T : Nat} {K S : Nat → Int32} {N : Nat → Int64} {E : pZ} {X : pC}
theorem rOp_K : ∀ a ∈ [(43 : Int32), 45, 42, 47], rOp (rK a) = zOp a ∧ rK a ≠ 6 := by decide +kernel
theorem rK_pm : (rK 43 = 8 ∨ rK 43 = 9) ∧ (rK 45 = 8 ∨ rK 45 = 9) ∧ ¬ (rK 42 = 8 ∨ rK 42 = 9) ∧ ¬ (rK 47 = 8 ∨ rK 47 = 9) := by decide +kernel
theorem uU_push {I3 : qMI} {n2 : Nat} {ws1 ws2 : List Int32} {em em2 : pC} {s : Int32} {z1 : pZ} (f1 : pf z1 = 0) (h4 : pt z1 ≤ 400) (h6 : yOpn ws1 ≤ 6) (hop : K (pt z1) = 43 ∨ K (pt z1) = 45 ∨ K (pt z1) = 42 ∨ K (pt z1) = 47) (hs0 : s = 0 → (K (pt z1) = 43 ∨ K (pt z1) = 45)) (hs1 : s ≠ 0 → (K (pt z1) = 42 ∨ K (pt z1) = 47)) (ha : zAO K S (yOpn ws1) z1 = E) (m3 : pf E = 0 → em ++ xAO K S N (rLev ws1).2 (rLev ws1).1 z1 = X) (eo : yOpn ws2 = yOpn ws1) (u1 : em2.length = n2) (u2 : rEm c0 I3 em2) (u3 : em2 ++ rFl ws2 = em ++ rFl ws1) (u4 : (rLev ws2).2 = (rLev ws1).2) (u5 : s ≠ 0 → (rLev ws2).1.1 = (rLev ws1).1.1) (g0 : s = 0 → yGp ws2) (g1 : s ≠ 0 → yGm ws2) : uU K S N E X c0 I3 n2 (rK (K (pt z1)) :: ws2) (zTake S true z1) := by
  have hK := rOp_K (K (pt z1)) (by rcases hop with q | q | q | q <;> rw [q] <;> decide)
  have ho : yOpn (rK (K (pt z1)) :: ws2) = yOpn ws1 := by rw [yOpn_c hK.2]; exact eo
  refine ⟨?_, em2, u1, u2, fun q => ?_⟩
  · unfold rU
    rw [ho, ← zAO_op h6 f1 h4 (by rcases hop with q | q | q | q <;> rw [q] <;> decide)]
    exact ha
  · have hl : (rLev ws1).2.length = yOpn ws1 := rLev_len ws1
    rw [ho, ← m3 q]
    by_cases hs : s = 0
    · have hpm : rK (K (pt z1)) = 8 ∨ rK (K (pt z1)) = 9 := by
        rcases hs0 hs with q | q <;> rw [q]
        · exact rK_pm.1
        · exact rK_pm.2.1
      have e := xAO_add (K := K) (S := S) (N := N) (r := (rLev ws1).2) (a := (rLev ws1).1.1) (m := (rLev ws1).1.2) (by omega) f1 h4 (by rcases hs0 hs with q | q <;> rw [q] <;> decide) (by rcases hs0 hs with q | q <;> rw [q] <;> decide)
      rw [show (rLev ws1).1 = ((rLev ws1).1.1, (rLev ws1).1.2) from rfl, e, uO_0 u3 (g0 hs), rLev_p hpm, u4, hK.1, hl]
      simp only [List.append_assoc]
    · have hpm : ¬ (rK (K (pt z1)) = 8 ∨ rK (K (pt z1)) = 9) := by
        rcases hs1 hs with q | q <;> rw [q]
        · exact rK_pm.2.2.1
        · exact rK_pm.2.2.2
      have e := xAO_mul (K := K) (S := S) (N := N) (r := (rLev ws1).2) (a := (rLev ws1).1.1) (m := (rLev ws1).1.2) (by omega) f1 h4 (by rcases hs1 hs with q | q <;> rw [q] <;> decide)
      rw [show (rLev ws1).1 = ((rLev ws1).1.1, (rLev ws1).1.2) from rfl, e, uO_1 u3 (g1 hs) (u5 hs), rLev_m hK.2 hpm, u4, u5 hs, hK.1, hl]
      simp only [List.append_assoc]
theorem uE_end {ws1 : List Int32} {em : pC} {z1 : pZ} (o0 : yOpn ws1 = 0) (h1 : ¬ zMul (K (pt z1)) = true) (h2 : ¬ zAdd (K (pt z1)) = true) (m3 : em ++ xAO K S N (rLev ws1).2 (rLev ws1).1 z1 = X) : em ++ rFl ws1 = X := by
  have hl := rLev_len ws1
  rw [o0] at hl
  rw [List.length_eq_zero_iff.mp hl, show (rLev ws1).1 = ((rLev ws1).1.1, (rLev ws1).1.2) from rfl, xAO_end0 h1 h2] at m3
  exact m3
theorem uExprLoop (hR : wkR R) (hsb : sb = 0 ∨ sb = 420) {b : Int32} (hb : b.toInt = 0) : ∀ (m : Nat) (I : qMI) (ws : List Int32) (n : Nat) (z : pZ), (400 - (I 292 11).toInt).toNat = m → yX sb c0 0 I0 I ws n 0 → rG T K S N I L z → uU K S N E X c0 I n ws z → wkB l G (d + 3 + 1) n_X9_expression (wkPV R (fun I' L' => L' = L ∧ yXP sb c0 0 I0 I' ∧ rG T K S N I' L' E ∧ (pf E = 0 → uE c0 I' X))) 12 [.ref 292, .int b, .int 1] [] I L R := by
  intro m
  induction m using Nat.strongRecOn with
  | ind m ih =>
    intro I ws n z hm h g hu
    refine w_X9_expression_12 (fun q => absurd q (by decide)) (fun _ => w_X9_expression_16 (fun q => w_X9_expression_272 ⟨rfl, rfl, rfl, rfl, ⟨ws, n, 0, h, fun x => absurd x q⟩, ?_⟩) (fun f0 => ?_))
    · rw [← (rU_f (by rw [← g.2.1]; exact q)).mp hu.1]
      exact ⟨g, fun x => absurd (g.2.1.trans x) q⟩
    have t0 := h.2.1.1
    have ti := h.2.2.2.2.2.2.1
    -- not more: the end
    have stop : ∀ (I1 : qMI) (ws1 : List Int32) (n1 : Nat) (z1 : pZ), yX sb c0 0 I0 I1 ws1 n1 1 → (I 292 11).toInt + 1 ≤ (I1 292 11).toInt → rG T K S N I1 L z1 → uA K S N E X c0 I1 n1 ws1 z1 → (¬ (pf z1 = 0 ∧ K (pt z1) = 41) ∨ yOpn ws1 = 0) → (pf z1 = 0 → ¬ zMul (K (pt z1)) = true ∧ ¬ zAdd (K (pt z1)) = true) → wkB l G (d + 3 + 1) n_X9_expression (wkPV R (fun I' L' => L' = L ∧ yXP sb c0 0 I0 I' ∧ rG T K S N I' L' E ∧ (pf E = 0 → uE c0 I' X))) 191 [.ref 292, .int b, .int 0] [] I1 L R := by
      intro I1 ws1 n1 z1 h1 t1 g1 ha hcl hno
      have fin : ∀ I2 : qMI, yX sb c0 0 I0 I2 ws1 n1 1 → (I2 292 13 = 0 → yOpn ws1 = 0) → (I 292 11).toInt + 1 ≤ (I2 292 11).toInt → rG T K S N I2 L E → (∃ em : pC, em.length = n1 ∧ rEm c0 I2 em ∧ (pf E = 0 → em ++ rFl ws1 = X)) → wkB l G (d + 3 + 1) n_X9_expression (wkPV R (fun I' L' => L' = L ∧ yXP sb c0 0 I0 I' ∧ rG T K S N I' L' E ∧ (pf E = 0 → uE c0 I' X))) 204 [.ref 292, .int b, .int 0] [] I2 L R := by
        intro I2 h2 ho t2 g2 hem
        obtain ⟨em, m1, m2, m3⟩ := hem
        refine w_X9_expression_204 (uOut (d := d + 1) hR hsb h2 m1 m2) (fun I3 L3 hq => ?_)
        obtain ⟨rfl, ws3, n3, h3, e1, e2, -, e3, em3, u1, u2, u3, -, -⟩ := hq
        refine w_X9_expression_209 ⟨rfl, rfl, rfl, rfl, ⟨ws3, n3, 1, h3, fun x => ⟨yGp_nil (e2 rfl) (by rw [e1]; exact ho (by rw [← e3 13 (by decide) (by decide)]; exact x)), rfl, ?_⟩⟩, rG_e g2 h2.1 h3.1 rfl (fun j hj => e3 j (by omega) (by omega)), fun pE => ?_⟩
        · rw [e3 11 (by decide) (by decide)]
          omega
        · have ex : em3 = X := by rw [uO_0 u3 (e2 rfl)]; exact m3 pE
          rw [← ex]
          exact ⟨by rw [h3.2.2.2.2.1.1, u1], u2⟩
      have h6 := h1.2.2.2.1.1
      rw [Nat.zero_add] at h6
      refine w_X9_expression_191 (fun q => ?_) (fun q => w_X9_expression_199 (rFail (d := d + 2) hR h1.2.1 g1.w (by decide) (by decide)) (fun I2 L2 hq => ?_))
      · have o0 : yOpn ws1 = 0 := by have := i_le.mp q; omega
        obtain ⟨ha, em, m1, m2, m3⟩ := ha
        rw [o0] at ha
        by_cases hf : pf z1 = 0
        · rw [zAO_end0 (hno hf).1 (hno hf).2] at ha
          exact fin I1 h1 (fun _ => o0) t1 (by rw [← ha]; exact g1) ⟨em, m1, m2, fun q => uE_end o0 (hno hf).1 (hno hf).2 (m3 q)⟩
        · rw [zAO_f _ hf] at ha
          exact fin I1 h1 (fun _ => o0) t1 (by rw [← ha]; exact g1) ⟨em, m1, m2, fun q => absurd q (by rw [← ha]; exact hf)⟩
      · obtain ⟨rfl, q1, q2, q3, q4⟩ := hq
        obtain ⟨ha, em, m1, m2, m3⟩ := ha
        suffices hs : rG T K S N I2 L2 E by
          exact fin I2 (yX_s h1 q1) (fun x => absurd x q2) (by rw [q3]; exact t1) hs ⟨em, m1, rEm_of m2 (q1.1.1 318 (by decide)) (q1.1.1 319 (by decide)), fun q => absurd (hs.2.1.trans q) q2⟩
        have op : ¬ yOpn ws1 = 0 := fun x => q (i_le.mpr (by omega))
        by_cases hf : pf z1 = 0
        · obtain ⟨o, ho⟩ : ∃ o, yOpn ws1 = o + 1 := ⟨yOpn ws1 - 1, by omega⟩
          rw [ho, zAO_end hf (fun x => hcl.elim (fun y => y ⟨hf, x⟩) op) (hno hf).1 (hno hf).2] at ha
          rw [← ha]; exact q4
        · rw [zAO_f _ hf] at ha
          rw [← ha]
          rw [zFail_f hf] at q4
          exact q4
    -- an operator: on
    have go : ∀ (I1 : qMI) (ws1 : List Int32) (n1 : Nat) (z1 : pZ), yX sb c0 0 I0 I1 ws1 n1 1 → (I 292 11).toInt + 1 ≤ (I1 292 11).toInt → rG T K S N I1 L z1 → uA K S N E X c0 I1 n1 ws1 z1 → pf z1 = 0 → (K (pt z1) = 43 ∨ K (pt z1) = 45 ∨ K (pt z1) = 42 ∨ K (pt z1) = 47) → wkB l G (d + 3 + 1) n_X9_expression (wkPV R (fun I' L' => L' = L ∧ yXP sb c0 0 I0 I' ∧ rG T K S N I' L' E ∧ (pf E = 0 → uE c0 I' X))) 210 [.ref 292, .int b, .int 1] [] I1 L R := by
      intro I1 ws1 n1 z1 h1 t1 g1 ha f1 hop
      have f10 : I1 292 13 = 0 := by rw [g1.2.1]; exact f1
      obtain ⟨k1', k2', k3', k4', k5'⟩ := rAt g1.w f1
      have kz : I1 295 (I1 292 11).toNatClampNeg = rK (K (pt z1)) := by rw [k1']; exact k4'
      have h8 := h1.2.2.2.1.2.2 f10
      obtain ⟨haz, em, m1, m2, m3⟩ := ha
      have out : ∀ s : Int32, (s = 0 → (K (pt z1) = 43 ∨ K (pt z1) = 45)) → (s ≠ 0 → (K (pt z1) = 42 ∨ K (pt z1) = 47)) → wkB l G (d + 3 + 1) n_X9_expression (wkPV R (fun I' L' => L' = L ∧ yXP sb c0 0 I0 I' ∧ rG T K S N I' L' E ∧ (pf E = 0 → uE c0 I' X))) 234 [.ref 292, .int b, .int 1] [.int s, .ref 292] I1 L R := by
        intro s hs0 hs1
        refine w_X9_expression_234 (uOut (d := d + 1) hR hsb h1 m1 m2) (fun I2 L2 hq => ?_)
        obtain ⟨rfl, ws2, n2, h2, e1, e2, e3, e4, em2, u1, u2, u3, u4, u5⟩ := hq
        have g2 : rG T K S N I2 L2 z1 := rG_e g1 h1.1 h2.1 rfl (fun j hj => e4 j (by omega) (by omega))
        have hl := yX_len h2
        have h44 := h2.2.2.1.2.1
        have e295 : I2 295 = I1 295 := by rw [h2.1.1 295 (by decide) (by decide) (by decide) (by decide), h1.1.1 295 (by decide) (by decide) (by decide) (by decide)]
        have hw2 : I2 295 (I2 292 11).toNatClampNeg = rK (K (pt z1)) := by rw [e4 11 (by decide) (by decide), e295]; exact kz
        have hw6 : rK (K (pt z1)) ≠ 6 := by rcases hop with q | q | q | q <;> rw [q] <;> decide
        have hok : yOkw (rK (K (pt z1)) :: ws2) := by
          refine ⟨?_, h2.2.2.1.2.2⟩
          by_cases hs : s = 0
          · refine Or.inr (Or.inl ⟨?_, e2 hs⟩)
            rcases hs0 hs with q | q <;> rw [q] <;> decide
          · refine Or.inr (Or.inr ⟨?_, e3 hs⟩)
            rcases hs1 hs with q | q <;> rw [q] <;> decide
        have okP : yOk (yPush (rK (K (pt z1))) I2) := by
          unfold yOk
          rw [yPush_f (by decide), yPush_f (by decide)]
          exact h2.2.1
        refine w_X9_expression_237 (P := fun I3 L3 => L3 = L2 ∧ yN (yPush (rK (K (pt z1))) I2) I3 ∧ rG T K S N I3 L3 (zTake S true z1)) hR (yOk_t h2.2.1) (vin (by omega) (by omega)) ?_ (fun I3 L3 hq => ?_)
        · rw [hw2, yPush_eq]
          exact rGoes (d := d + 1) hR okP (rG_push g2).w (fun _ => by rcases hop with q | q | q | q <;> rw [q] <;> decide)
        · obtain ⟨rfl, hN, g3⟩ := hq
          have hx := yX_push h2 (by rw [e4 13 (by decide) (by decide)]; exact f10) hw6 hok hN
          have t3 := hN.1.2.2.1
          rw [yPush_f (by decide), e4 11 (by decide) (by decide)] at t3
          have t4 := hN.1.2.1.1
          exact w_X9_expression_269 (ih (400 - (I3 292 11).toInt).toNat (by omega) I3 (rK (K (pt z1)) :: ws2) n2 _ rfl hx g3 (uU_push (s := s) (em := em) f1 (by have := (g1.2.2.2 f1).1; have := g1.1.1.2.1; omega) (by omega) hop hs0 hs1 haz m3 e1 u1 (rEm_of u2 (by rw [hN.1.1.1 318 (by decide), yPush_o (by decide) (by decide)]) (by rw [hN.1.1.1 319 (by decide), yPush_o (by decide) (by decide)])) u3 u4 u5 e2 e3))
      refine w_X9_expression_210 (P := fun y I' L' => L' = L ∧ I' = I1 ∧ ((y = 1 ∧ pf z1 = 0 ∧ K (pt z1) = 42) ∨ (y = 0 ∧ ¬ (pf z1 = 0 ∧ K (pt z1) = 42)))) (by rw [← rK_vals.2.2.2.2.1]; exact rIs (k := 42) (d := d + 2) hR h1.2.1 g1 (by decide)) (fun y I2 L2 hq => ?_)
      obtain ⟨rfl, rfl, hy⟩ := hq
      rcases hy with ⟨rfl, -, k1⟩ | ⟨rfl, k1⟩
      · exact w_X9_expression_217 (fun _ => w_X9_expression_229 (out 1 (fun q => absurd q (by decide)) (fun _ => Or.inl k1))) (fun q => absurd q (by decide))
      · refine w_X9_expression_217 (fun q => absurd rfl q) (fun _ => w_X9_expression_220 (P := fun y I' L' => L' = L2 ∧ I' = I2 ∧ ((y = 1 ∧ pf z1 = 0 ∧ K (pt z1) = 47) ∨ (y = 0 ∧ ¬ (pf z1 = 0 ∧ K (pt z1) = 47)))) (by rw [← rK_vals.2.2.2.2.2.1]; exact rIs (k := 47) (d := d + 2) hR h1.2.1 g1 (by decide)) (fun y I3 L3 hq => ?_))
        obtain ⟨rfl, rfl, hy⟩ := hq
        rcases hy with ⟨rfl, -, k2⟩ | ⟨rfl, k2⟩
        · exact w_X9_expression_226 (fun q => absurd q (by decide)) (fun _ => w_X9_expression_229 (out 1 (fun q => absurd q (by decide)) (fun _ => Or.inr k2)))
        · refine w_X9_expression_226 (fun _ => w_X9_expression_233 (out 0 (fun _ => ?_) (fun q => absurd rfl q))) (fun q => absurd rfl q)
          rcases hop with q | q | q | q
          · exact Or.inl q
          · exact Or.inr q
          · exact absurd ⟨f1, q⟩ k1
          · exact absurd ⟨f1, q⟩ k2
    -- which it is
    have more : ∀ (I1 : qMI) (ws1 : List Int32) (n1 : Nat) (z1 : pZ), yX sb c0 0 I0 I1 ws1 n1 1 → (I 292 11).toInt + 1 ≤ (I1 292 11).toInt → rG T K S N I1 L z1 → uA K S N E X c0 I1 n1 ws1 z1 → (¬ (pf z1 = 0 ∧ K (pt z1) = 41) ∨ yOpn ws1 = 0) → wkB l G (d + 3 + 1) n_X9_expression (wkPV R (fun I' L' => L' = L ∧ yXP sb c0 0 I0 I' ∧ rG T K S N I' L' E ∧ (pf E = 0 → uE c0 I' X))) 145 [.ref 292, .int b, .int 1] [] I1 L R := by
      intro I1 ws1 n1 z1 h1 t1 g1 ha hcl
      have yes : pf z1 = 0 → (K (pt z1) = 43 ∨ K (pt z1) = 45 ∨ K (pt z1) = 42 ∨ K (pt z1) = 47) → wkB l G (d + 3 + 1) n_X9_expression (wkPV R (fun I' L' => L' = L ∧ yXP sb c0 0 I0 I' ∧ rG T K S N I' L' E ∧ (pf E = 0 → uE c0 I' X))) 181 [.ref 292, .int b, .int 1] [] I1 L R := fun f1 hop => w_X9_expression_181 (w_X9_expression_186 (fun _ => go I1 ws1 n1 z1 h1 t1 g1 ha f1 hop) (fun q => absurd q (by decide)))
      refine w_X9_expression_145 (P := fun y I' L' => L' = L ∧ I' = I1 ∧ ((y = 1 ∧ pf z1 = 0 ∧ K (pt z1) = 43) ∨ (y = 0 ∧ ¬ (pf z1 = 0 ∧ K (pt z1) = 43)))) (by rw [← rK_vals.2.2.1]; exact rIs (k := 43) (d := d + 2) hR h1.2.1 g1 (by decide)) (fun y I2 L2 hq => ?_)
      obtain ⟨rfl, rfl, hy⟩ := hq
      rcases hy with ⟨rfl, f1, k1⟩ | ⟨rfl, c1⟩
      · exact w_X9_expression_151 (fun _ => yes f1 (Or.inl k1)) (fun q => absurd q (by decide))
      refine w_X9_expression_151 (fun q => absurd rfl q) (fun _ => w_X9_expression_154 (P := fun y I' L' => L' = L2 ∧ I' = I2 ∧ ((y = 1 ∧ pf z1 = 0 ∧ K (pt z1) = 45) ∨ (y = 0 ∧ ¬ (pf z1 = 0 ∧ K (pt z1) = 45)))) (by rw [← rK_vals.2.2.2.1]; exact rIs (k := 45) (d := d + 2) hR h1.2.1 g1 (by decide)) (fun y I3 L3 hq => ?_))
      obtain ⟨rfl, rfl, hy⟩ := hq
      rcases hy with ⟨rfl, f1, k1⟩ | ⟨rfl, c2⟩
      · exact w_X9_expression_160 (fun _ => yes f1 (Or.inr (Or.inl k1))) (fun q => absurd q (by decide))
      refine w_X9_expression_160 (fun q => absurd rfl q) (fun _ => w_X9_expression_163 (P := fun y I' L' => L' = L3 ∧ I' = I3 ∧ ((y = 1 ∧ pf z1 = 0 ∧ K (pt z1) = 42) ∨ (y = 0 ∧ ¬ (pf z1 = 0 ∧ K (pt z1) = 42)))) (by rw [← rK_vals.2.2.2.2.1]; exact rIs (k := 42) (d := d + 2) hR h1.2.1 g1 (by decide)) (fun y I4 L4 hq => ?_))
      obtain ⟨rfl, rfl, hy⟩ := hq
      rcases hy with ⟨rfl, f1, k1⟩ | ⟨rfl, c3⟩
      · exact w_X9_expression_169 (fun _ => yes f1 (Or.inr (Or.inr (Or.inl k1)))) (fun q => absurd q (by decide))
      refine w_X9_expression_169 (fun q => absurd rfl q) (fun _ => w_X9_expression_172 (P := fun y I' L' => L' = L4 ∧ I' = I4 ∧ ((y = 1 ∧ pf z1 = 0 ∧ K (pt z1) = 47) ∨ (y = 0 ∧ ¬ (pf z1 = 0 ∧ K (pt z1) = 47)))) (by rw [← rK_vals.2.2.2.2.2.1]; exact rIs (k := 47) (d := d + 2) hR h1.2.1 g1 (by decide)) (fun y I5 L5 hq => ?_))
      obtain ⟨rfl, rfl, hy⟩ := hq
      rcases hy with ⟨rfl, f1, k1⟩ | ⟨rfl, c4⟩
      · exact w_X9_expression_178 (fun q => absurd q (by decide)) (fun _ => yes f1 (Or.inr (Or.inr (Or.inr k1))))
      · refine w_X9_expression_178 (fun _ => w_X9_expression_185 (w_X9_expression_186 (fun q => absurd rfl q) (fun _ => stop I5 ws1 n1 z1 h1 t1 g1 ha hcl (fun f1 => ⟨fun x => ?_, fun x => ?_⟩)))) (fun q => absurd rfl q)
        · rcases of_decide_eq_true x with x | x
          · exact c3 ⟨f1, x⟩
          · exact c4 ⟨f1, x⟩
        · rcases of_decide_eq_true x with x | x
          · exact c1 ⟨f1, x⟩
          · exact c2 ⟨f1, x⟩
    refine uOpenLoop (d := d + 1) (tl := (I 292 11).toInt) (T := T) (K := K) (S := S) (N := N) (E := E) (X := X) hR (fun I1 ws1 z1 h1 t1 g1 hu1 hn1 => ?_) _ I ws z rfl h (Int.le_refl _) g hu
    obtain ⟨hu1, em, m1, m2, m3⟩ := hu1
    refine w_X9_expression_84 (uUnit (d := d) (e := 6 - yOpn ws1) hR hsb h1 g1 hn1 m1 m2) (fun I2 L2 hq => ?_)
    obtain ⟨rfl, hq, g2⟩ := hq
    rcases hq with ⟨q1, n2, fl2, h2⟩ | ⟨q1, q2, h2, u1, u2⟩
    · refine w_X9_expression_88 (fun q => ?_) (fun _ => w_X9_expression_95 ⟨rfl, rfl, rfl, rfl, ⟨ws1, n2, fl2, h2, fun x => absurd x q1⟩, ?_⟩)
      · exfalso
        have a := h2.2.1.2.1
        have b' := i_le.mp q
        rw [show (0 : Int32).toInt = 0 from rfl] at b'
        exact q1 (i_eq.mpr (by rw [show (0 : Int32).toInt = 0 from rfl]; omega))
      · unfold rU at hu1
        rw [zAO_f _ (by rw [← g2.2.1]; exact q1)] at hu1
        rw [← hu1]
        exact ⟨g2, fun x => absurd (g2.2.1.trans x) q1⟩
    · refine w_X9_expression_88 (fun _ => ?_) (fun q => absurd (by rw [q1]; decide) q)
      exact uCloseLoop (d := d + 1) (tl := (I 292 11).toInt + 1) (T := T) (K := K) (S := S) (N := N) (E := E) (X := X) hR hsb hb (fun I3 ws3 n3 z3 h3 t3 g3 a3 c3 => more I3 ws3 n3 z3 h3 t3 g3 a3 c3) _ I2 ws1 (n + 1) _ rfl h2 (by omega) g2 ⟨hu1, em ++ xUn K S N (6 - yOpn ws1) _, u1, u2, fun q => by rw [List.append_assoc]; exact m3 q⟩
theorem uExprC (hR : wkR R) (hsb : sb = 0 ∨ sb = 420) {c : Nat} {I : qMI} {z : pZ} (h : yCS sb c I) (g : rG T K S N I L z) : wkV l G (d + 4) n_X9_expression [.ref 292] I L R (fun I' L' => L' = L ∧ yE sb (sb + c) I I' ∧ yM I I' ∧ (∃ c', c ≤ c' ∧ yCS sb c' I' ∧ (I' 292 13 = 0 → (I 292 11).toInt + 1 ≤ (I' 292 11).toInt ∧ zseg I' (I 292 40) (I' 292 40))) ∧ rG T K S N I' L' (zEx K S z) ∧ (pf (zEx K S z) = 0 → uE (sb + c) I' (xEx K S N z))) := by
  obtain ⟨h1, ⟨h2, h3, h4⟩, ⟨h5, h6, h7⟩⟩ := h
  have e12 : (qUp I 292 44 0) 292 12 = I 292 12 := qUp_ne (by omega)
  have f : ∀ j, j ≠ 44 → (qUp I 292 44 0) 292 j = I 292 j := fun j a => qUp_ne (fun q => a q.2)
  have hk1 : yOk (qUp I 292 44 0) := by unfold yOk; rw [f 11 (by decide), f 13 (by decide)]; exact h1
  have key : wkV l G (d + 4) n_X9_expression [.ref 292] I L R (fun I' L' => L' = L ∧ yXP sb (sb + c) (I 292 12).toInt.toNat I I' ∧ rG T K S N I' L' (zEx K S z) ∧ (pf (zEx K S z) = 0 → uE (sb + c) I' (xEx K S N z))) := by
    have hx : yX sb (sb + c) (I 292 12).toInt.toNat I (qUp I 292 44 0) [] 0 0 := by
      refine ⟨yE_f (j := 44) (by omega), hk1, ⟨trivial, ?_, trivial⟩, ⟨?_, by show (I 292 12).toInt.toNat + 0 ≤ 7; omega, fun q => ?_⟩, ⟨?_, fun q => ?_, by show sb + c + 0 + 0 ≤ _; omega⟩, fun _ => yR_0 _ _ _, ?_, ?_⟩
      · rw [qUp_at, if_pos ⟨rfl, rfl⟩]; rfl
      · rw [f 12 (by decide)]; show _ = (((I 292 12).toInt.toNat + 0 : Nat) : Int); omega
      · have := h4 (by rw [← f 13 (by decide)]; exact q)
        show (I 292 12).toInt.toNat + 0 ≤ 6
        omega
      · rw [f 40 (by decide)]; exact h5
      · rw [f 11 (by decide)]
        have := h7 (by rw [← f 13 (by decide)]; exact q)
        show ((sb + c + 0 + 0 : Nat) : Int) ≤ _
        omega
      · rw [f 11 (by decide)]; exact Int.le_refl _
      · rw [f 13 (by decide)]; exact id
    refine wkC_of 2 (by decide) (Nat.le_of_ble_eq_true rfl) (w_X9_expression_0 ?_)
    rw [e12]
    by_cases hf : I 292 13 = 0
    · have hb := h4 hf
      rw [hb] at hx ⊢
      exact uExprLoop (d := d) (E := zEx K S z) (X := xEx K S N z) hR hsb hb _ _ [] 0 z rfl hx (rG_f (by omega) g) ⟨(zEx_AO z).symm, [], rfl, (fun i p q => by cases q), (fun _ => (xEx_AO z).symm)⟩
    · refine w_X9_expression_12 (fun q => absurd q (by decide)) (fun _ => w_X9_expression_16 (fun q => w_X9_expression_272 ⟨rfl, rfl, rfl, rfl, ⟨[], 0, 0, hx, fun x => absurd x q⟩, ?_⟩) (fun q => absurd (by rw [← f 13 (by decide)]; exact q) hf))
      rw [zEx_f (by rw [← g.2.1]; exact hf)]
      exact ⟨rG_f (by omega) g, fun x => absurd (g.2.1.trans x) hf⟩
  refine wkV.mono key ?_
  intro I' L' hq
  obtain ⟨rfl, ⟨ws, n, fl, hx, hf⟩, hg⟩ := hq
  obtain ⟨x1, x2, ⟨x3, x4, x5⟩, ⟨x6, x7, x8⟩, ⟨x9, x10, x11⟩, x12, x13, x14⟩ := hx
  refine ⟨rfl, x1, ⟨x13, x14⟩, ⟨c + n, by omega, ⟨x2, ⟨by omega, by omega, fun q => ?_⟩, ⟨by rw [x9]; omega, by omega, fun q => ?_⟩⟩, fun q => ⟨by have := (hf q).2.2; omega, fun hlt => ⟨⟨i_le.mpr (by rw [h5, show (0 : Int32).toInt = 0 from rfl]; omega), by omega⟩, ?_⟩⟩⟩, hg⟩
  · obtain ⟨w1, -, -⟩ := hf q
    have w2 := h4 (Decidable.byContradiction fun z => x14 z q)
    subst w1
    have : yOpn [] = 0 := rfl
    omega
  · have := x10 q
    omega
  · have hr := yR_rpn (x12 q)
    rw [x9, h5]
    rw [show (((sb + c + n : Nat) : Int) - ((sb + c : Nat) : Int)).toNat = n by omega, Int.toNat_natCast]
    exact hr
end
end
