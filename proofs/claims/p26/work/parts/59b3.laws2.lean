section
/-! ===== the class's laws: a law is told ===== -/
section
variable {l : Launch} {G : qG} {d : Nat} {I : qMI} {L : qML} {R : qMR} {o : Nat} {z : pZ} {K S : Nat → Int32} {N : Nat → Int64}
theorem cH_4 (h : cH o K S N I L z) (hf : pf z = 0) : pt z ≤ 400 := by
  have := (h.2.2.2.2.1 hf).1.1
  have := (cH_b h).1.2
  omega
theorem zEx_pg : pPg (zEx K S) := zSu_pg (zUn_pg 6)
theorem xEx_ln : pLn (zEx K S) (xEx K S N) := xSu_ln (zUn_pg 6) (xUn_ln 6)
theorem zMust_pg {k : Int32} {y : pZ} (h : pf y = 0 → pt y ≤ 400) (h0 : pf (zMust K S k y) = 0) : pf y = 0 ∧ pt (zMust K S k y) = pt y + 1 ∧ pt (zMust K S k y) ≤ 400 := zTake_pg h h0
theorem i_nat {x : Int32} {n : Nat} (h : x.toInt = n) : x = Int32.ofNat n := by
  refine i_eq.mpr ?_
  rw [h, Int32.toInt_ofNat_of_lt]
  have := i_hi x
  omega
theorem zIf_f (h : pf z ≠ 0) : zIf K S z = z := by
  unfold zIf zMust
  rw [zTake_f h, zEx_f h, zTake_f h, zEx_f h, zTake_f h, zEx_f h, zTake_f h]
theorem zEx_0 (h : pf (zEx K S z) = 0) : pf z = 0 := Decidable.byContradiction fun q => by rw [zEx_f q] at h; exact q h
theorem zIfs_f (h : pf z ≠ 0) : ∀ n, zIfs K S n z = z
  | 0 => by rw [zIfs, if_neg (fun q => h q.1)]
  | n + 1 => by rw [zIfs, if_neg (fun q => h q.1)]
theorem zIfs_0 {n : Nat} (h : pf (zIfs K S n z) = 0) : pf z = 0 := Decidable.byContradiction fun q => by rw [zIfs_f q] at h; exact q h
/-- the state of a law under way: its steps since it was opened, and how much room there is -/
def cUv (o : Nat) (B J : qMI) (y : pZ) (w : pC) (s : Nat) : Prop := pf y = 0 → cEm o B J w ∧ (J (o + 6) 2).toInt + s ≤ 14 + pt y
theorem cUv_le {B J : qMI} {y : pZ} {w : pC} {s t : Nat} (h : cUv o B J y w s) (ht : t ≤ s) : cUv o B J y w t := fun q => ⟨(h q).1, by have := (h q).2; omega⟩
theorem cTakeU (ho : o = 9 ∨ o = 259) (hR : cRf R o) {B J : qMI} {M : qML} {y : pZ} {w : pC} {s : Nat} (h : cH o K S N J M y) (hu : cUv o B J y w s) {b : Int32} (hb : b = 0 ∨ b = 1) {c : Bool} (hc : pf y = 0 → decide (b = 1) = c) : wkCv l G (d + 1) n_X1_take [.ref 3, .int b] J M R (fun J' M' R' => cPo o K S N J M R (zTake S c y) J' M' R' ∧ cUv o B J' (zTake S c y) w (s + 1)) := by
  refine wkCv.mono (cTakeW ho hR h hb hc) (fun J' M' R' hq => ⟨hq.1, fun q => ?_⟩)
  obtain ⟨⟨-, -, g⟩, m⟩ := hq
  obtain ⟨t1, t2, -⟩ := zTake_pg (fun w => cH_4 h w) q
  obtain ⟨u1, u2⟩ := hu t1
  have sz := cEm_sz h g m
  rw [List.length_nil] at sz
  have em := cEm_tr u1 m
  rw [List.append_nil] at em
  exact ⟨em, by omega⟩
theorem cMustU (ho : o = 9 ∨ o = 259) (hR : cRf R o) {B J : qMI} {M : qML} {y : pZ} {w : pC} {s : Nat} (h : cH o K S N J M y) (hu : cUv o B J y w s) {b : Int32} (hb : b = 0 ∨ b = 1) {k : Int32} (hc : pf y = 0 → decide (b = 1) = decide (K (pt y) = k)) : wkCv l G (d + 1) n_X1_take [.ref 3, .int b] J M R (fun J' M' R' => cPo o K S N J M R (zMust K S k y) J' M' R' ∧ cUv o B J' (zMust K S k y) w (s + 1)) := cTakeU ho hR h hu hb hc
theorem cExprU (ho : o = 9 ∨ o = 259) (hR : cRf R o) {B J : qMI} {M : qML} {y : pZ} {w : pC} {s : Nat} (h : cH o K S N J M y) (hu : cUv o B J y w s) : wkCv l G (d + 22) n_X1_takeSum [.ref 3, .int 0] J M R (fun J' M' R' => cPo o K S N J M R (zEx K S y) J' M' R' ∧ cUv o B J' (zEx K S y) (w ++ xEx K S N y) s) := by
  refine wkCv.mono (cExprW ho hR h (fun q => by have := (hu q).2; omega)) (fun J' M' R' hq => ⟨hq.1, fun q => ?_⟩)
  obtain ⟨⟨-, -, g⟩, m⟩ := hq
  have p1 := zEx_pg (K := K) (S := S) y (fun w => cH_4 h w) q
  have ln := xEx_ln (K := K) (S := S) (N := N) y (fun w => cH_4 h w) q
  obtain ⟨u1, u2⟩ := hu p1.1
  have sz := cEm_sz h g (m q)
  exact ⟨cEm_tr u1 (m q), by omega⟩
theorem cEmitU (ho : o = 9 ∨ o = 259) (hR : cRf R o) {B J : qMI} {M M0 : qML} {y yB : pZ} {w : pC} {s : Nat} (gB : cH o K S N B M0 yB) (h : cH o K S N J M y) (hu : cUv o B J y w (s + 1)) {a b : Int32} : wkCi l G (d + 1) n_X2_emit [.ref (o + 6), .int a, .int b] J M R (fun sk J' M' R' => cPo o K S N J M R y J' M' R' ∧ cUv o B J' y (w ++ [(a, b)]) s ∧ (pf y = 0 → sk.toInt = (B (o + 6) 2).toInt + w.length)) := by
  refine wkCi.mono (cEmitM ho hR h) (fun sk J' M' R' hq => ?_)
  obtain ⟨⟨e, f, g⟩, m⟩ := hq
  have go : pf y = 0 → (cEm o B J' (w ++ [(a, b)]) ∧ (J' (o + 6) 2).toInt + s ≤ 14 + pt y) ∧ sk.toInt = (B (o + 6) 2).toInt + w.length := fun q => by
    obtain ⟨u1, u2⟩ := hu q
    have := cH_4 h q
    obtain ⟨m1, e1⟩ := m (by omega)
    have sz := cEm_sz h g m1
    have szB := cEm_sz gB h u1
    rw [List.length_singleton] at sz
    exact ⟨⟨cEm_tr u1 m1, by omega⟩, by rw [e1]; exact szB⟩
  exact ⟨⟨e, f, g⟩, fun q => (go q).1, fun q => (go q).2⟩
theorem cLeadU (ho : o = 9 ∨ o = 259) (hR : cRf R o) {B J : qMI} {M M0 : qML} {y yB : pZ} {w1 w2 : pC} {s : Nat} {sk a b : Int32} (gB : cH o K S N B M0 yB) (h : cH o K S N J M y) (hu : cUv o B J y (w1 ++ (a, b) :: w2) s) (hk : pf y = 0 → sk.toInt = (B (o + 6) 2).toInt + w1.length) : wkCv l G (d + 1) n_X2_leadOnFrom [.ref (o + 6), .int sk] J M R (fun J' M' R' => cPo o K S N J M R y J' M' R' ∧ cUv o B J' y (w1 ++ (a, Int32.ofNat ((B (o + 6) 2).toInt.toNat + w1.length + w2.length + 1)) :: w2) s) := by
  refine wkCv.mono (cLeadM ho hR h) (fun J' M' R' hq => ⟨hq.1, fun q => ?_⟩)
  obtain ⟨⟨-, -, g⟩, m⟩ := hq
  obtain ⟨u1, u2⟩ := hu q
  have fin := m B _ _ _ _ (cH_b gB).2.1 u1 (hk q)
  have szJ := cEm_sz gB h u1
  have szJ' := cEm_sz gB g fin
  rw [List.length_append, List.length_cons] at szJ szJ'
  have := (cH_b gB).2.1
  rw [i_nat (x := J (o + 6) 2) (n := (B (o + 6) 2).toInt.toNat + w1.length + w2.length + 1) (by omega)] at fin
  exact ⟨fin, by omega⟩
theorem cB_asm {s : Nat} {acc u v w : pC} : (acc ++ u ++ v) ++ (6, Int32.ofNat (s + (acc ++ u ++ v).length + (w ++ [((7 : Int32), (0 : Int32))]).length + 1)) :: (w ++ [(7, 0)]) = acc ++ cB (s + acc.length) (u, v, w) := by
  unfold cB
  have e : s + (acc ++ u ++ v).length + (w ++ [((7 : Int32), (0 : Int32))]).length + 1 = s + acc.length + u.length + v.length + w.length + 2 := by
    simp only [List.length_append, List.length_singleton]
    omega
  rw [e]
  simp only [List.append_assoc]
theorem cLawBody (ho : o = 9 ∨ o = 259) (hR : cRf R o) {Q : qQ} {B : qMI} {M0 : qML} {yB : pZ} (gB : cH o K S N B M0 yB) {a1 a2 : Int32} {J : qMI} {M : qML} {y : pZ} {acc : pC} {s : Nat} (f : cF o I L J M) (g : cH o K S N J M y) (hu : cUv o B J y acc s) (next : ∀ (J' : qMI) (M' : qML), cF o I L J' M' → cH o K S N J' M' (zIf K S y) → cUv o B J' (zIf K S y) (acc ++ cB ((B (o + 6) 2).toInt.toNat + acc.length) (yIf K S N y)) (s + 2) → wkB l G (d + 22 + 1) n_X1_takeLaw Q 31 [.ref 3, .int a1, .int (a2 + 1), wkU] [] J' M' R) : wkB l G (d + 22 + 1) n_X1_takeLaw Q 63 [.ref 3, .int a1, .int a2, wkU] [] J M R := by
  refine w_X1_takeLaw_63 (cTakeU (d := d + 21) ho hR g hu (Or.inr rfl) (c := true) (fun _ => rfl)) (fun I1 L1 R1 hq => ?_)
  obtain ⟨⟨rfl, f1, g1⟩, u1⟩ := hq
  refine w_X1_takeLaw_68 (cExprU (d := d) ho hR g1 u1) (fun I2 L2 R2 hq => ?_)
  obtain ⟨⟨rfl, f2, g2⟩, u2⟩ := hq
  have s1 : ∀ b : Int32, (b = 0 ∨ b = 1) → (pf (zEx K S (zTake S true y)) = 0 → decide (b = 1) = decide (K (pt (zEx K S (zTake S true y))) = 60)) → wkB l G (d + 22 + 1) n_X1_takeLaw Q 88 [.ref 3, .int a1, .int a2, wkU] [.int b, .ref 3] I2 L2 R := by
    intro b hb hc
    refine w_X1_takeLaw_88 (cMustU (d := d + 21) ho hR g2 u2 hb hc) (fun I3 L3 R3 hq => ?_)
    obtain ⟨⟨rfl, f3, g3⟩, u3⟩ := hq
    refine w_X1_takeLaw_91 (cExprU (d := d) ho hR g3 u3) (fun I4 L4 R4 hq => ?_)
    obtain ⟨⟨rfl, f4, g4⟩, u4⟩ := hq
    have s2 : ∀ b : Int32, (b = 0 ∨ b = 1) → (pf (zEx K S (zMust K S 60 (zEx K S (zTake S true y)))) = 0 → decide (b = 1) = decide (K (pt (zEx K S (zMust K S 60 (zEx K S (zTake S true y))))) = 140)) → wkB l G (d + 22 + 1) n_X1_takeLaw Q 112 [.ref 3, .int a1, .int a2, wkU] [.int b, .ref 3] I4 L4 R := by
      intro b hb hc
      refine w_X1_takeLaw_112 (cMustU (d := d + 21) ho hR g4 u4 hb hc) (fun I5 L5 R5 hq => ?_)
      obtain ⟨⟨rfl, f5, g5⟩, u5⟩ := hq
      refine w_X1_takeLaw_115 ho hR.1.2 hR.2.2.1.2.2.2.2.2 (cEmitU (d := d + 21) ho hR gB g5 u5) (fun sk I6 L6 R6 hq => ?_)
      obtain ⟨⟨rfl, f6, g6⟩, u6, hk⟩ := hq
      refine w_X1_takeLaw_128 (cExprU (d := d) ho hR g6 u6) (fun I7 L7 R7 hq => ?_)
      obtain ⟨⟨rfl, f7, g7⟩, u7⟩ := hq
      have s3 : ∀ b : Int32, (b = 0 ∨ b = 1) → (pf (zEx K S (zMust K S 140 (zEx K S (zMust K S 60 (zEx K S (zTake S true y)))))) = 0 → decide (b = 1) = decide (K (pt (zEx K S (zMust K S 140 (zEx K S (zMust K S 60 (zEx K S (zTake S true y))))))) = 141)) → wkB l G (d + 22 + 1) n_X1_takeLaw Q 150 [.ref 3, .int a1, .int a2, .int sk] [.int b, .ref 3] I7 L7 R := by
        intro b hb hc
        refine w_X1_takeLaw_150 (cMustU (d := d + 21) ho hR g7 u7 hb hc) (fun I8 L8 R8 hq => ?_)
        obtain ⟨⟨rfl, f8, g8⟩, u8⟩ := hq
        refine w_X1_takeLaw_153 ho hR.1.2 hR.2.2.1.2.2.2.2.2 (cEmitU (d := d + 21) ho hR gB g8 u8) (fun y9 I9 L9 R9 hq => ?_)
        obtain ⟨⟨rfl, f9, g9⟩, u9, -⟩ := hq
        rw [List.append_assoc, List.append_assoc, List.singleton_append] at u9
        refine w_X1_takeLaw_166 ho hR.1.2 hR.2.2.1.2.2.2.2.2 (cLeadU (d := d + 21) ho hR gB g9 u9 (fun q => hk (zEx_0 (zMust_0 q)))) (fun IA LA RA hq => ?_)
        obtain ⟨⟨rfl, fA, gA⟩, uA⟩ := hq
        refine w_X1_takeLaw_178 (next IA LA (cF_tr f (cF_tr f1 (cF_tr f2 (cF_tr f3 (cF_tr f4 (cF_tr f5 (cF_tr f6 (cF_tr f7 (cF_tr f8 (cF_tr f9 fA)))))))))) gA ?_)
        have e := cB_asm (s := (B (o + 6) 2).toInt.toNat) (acc := acc) (u := xEx K S N (zTake S true y)) (v := xEx K S N (zMust K S 60 (zEx K S (zTake S true y)))) (w := xEx K S N (zMust K S 140 (zEx K S (zMust K S 60 (zEx K S (zTake S true y))))))
        unfold yIf
        rw [← e]
        exact uA
      exact w_X1_takeLaw_134 (fun q => w_X1_takeLaw_149 (s3 0 (Or.inl rfl) (fun hf => cMustN g7 hf q))) (fun q => w_X1_takeLaw_145 (s3 1 (Or.inr rfl) (fun hf => cMustB g7 hf q)))
    exact w_X1_takeLaw_96 (fun q => w_X1_takeLaw_111 (s2 0 (Or.inl rfl) (fun hf => cMustN g4 hf q))) (fun q => w_X1_takeLaw_107 (s2 1 (Or.inr rfl) (fun hf => cMustB g4 hf q)))
  exact w_X1_takeLaw_73 (fun q => w_X1_takeLaw_87 (s1 0 (Or.inl rfl) (fun hf => cMustN g2 hf q))) (fun q => w_X1_takeLaw_83 (s1 1 (Or.inr rfl) (fun hf => cMustB g2 hf q)))
end
end
section
abbrev cLq (o : Nat) (K S : Nat → Int32) (N : Nat → Int64) (I : qMI) (L : qML) (R : qMR) (z : pZ) (k : Nat) : qQ := fun r t I' L' R' => t = 336 ∧ r = none ∧ cPo o K S N I L R (zLaw K S z) I' L' R' ∧ (pf (zLaw K S z) = 0 → cLg o k I I' (cmpl (I (o + 6) 2).toInt.toNat (yLaw K S N z).1 (yLaw K S N z).2) ∧ (I' (o + 6) 2).toInt ≤ 14 + pt (zLaw K S z))
section
variable {l : Launch} {G : qG} {d : Nat} {I : qMI} {L : qML} {R : qMR} {o : Nat} {z : pZ} {K S : Nat → Int32} {N : Nat → Int64}
theorem cLawW (ho : o = 9 ∨ o = 259) (hR : cRf R o) (h : cH o K S N I L z) {a1 : Int32} (ha : 0 ≤ a1.toInt ∧ a1.toInt < 5) (hs : pf z = 0 → (I (o + 6) 2).toInt ≤ 14 + pt z) : wkCv l G (d + 23) n_X1_takeLaw [.ref 3, .int a1] I L R (fun I' L' R' => cPo o K S N I L R (zLaw K S z) I' L' R' ∧ (pf (zLaw K S z) = 0 → cLg o a1.toInt.toNat I I' (cmpl (I (o + 6) 2).toInt.toNat (yLaw K S N z).1 (yLaw K S N z).2) ∧ (I' (o + 6) 2).toInt ≤ 14 + pt (zLaw K S z))) := by
  -- behind the opening: B
  have main : ∀ (B : qMI) (M0 : qML), cF o I L B M0 → cH o K S N B M0 (zMust K S 61 z) → (pf (zMust K S 61 z) = 0 → cLg o a1.toInt.toNat I B [] ∧ (B (o + 6) 2).toInt = (I (o + 6) 2).toInt) → wkB l G (d + 22 + 1) n_X1_takeLaw (cLq o K S N I L R z a1.toInt.toNat) 29 [.ref 3, .int a1, wkU, wkU] [] B M0 R := by
    intro B M0 fB gB hB
    have hBb := (cH_b gB).2
    have last : ∀ (a2 : Int32) (J : qMI) (M : qML) (y : pZ) (acc : pC), cF o I L J M → cH o K S N J M y → zEx K S y = zLaw K S z → cUv o B J y acc 1 → (pf (zLaw K S z) = 0 → pf (zMust K S 61 z) = 0 ∧ acc ++ (xEx K S N y ++ [(7, 0)]) = cmpl (I (o + 6) 2).toInt.toNat (yLaw K S N z).1 (yLaw K S N z).2) → wkB l G (d + 22 + 1) n_X1_takeLaw (cLq o K S N I L R z a1.toInt.toNat) 184 [.ref 3, .int a1, .int a2, wkU] [] J M R := by
      intro a2 J M y acc f g e hu hc
      refine w_X1_takeLaw_184 (cExprU (d := d) ho hR g hu) (fun I1 L1 R1 hq => ?_)
      obtain ⟨⟨rfl, f1, g1⟩, u1⟩ := hq
      rw [e] at g1 u1
      refine w_X1_takeLaw_189 ho hR.1.2 hR.2.2.1.2.2.2.2.2 (cEmitU (d := d + 21) ho hR gB g1 u1) (fun y3 I3 L3 R3 hq => ?_)
      obtain ⟨⟨rfl, f3, g3⟩, u3, -⟩ := hq
      refine w_X1_takeLaw_202 ⟨rfl, rfl, ⟨rfl, cF_tr f (cF_tr f1 f3), g3⟩, fun q => ?_⟩
      obtain ⟨em, sz⟩ := u3 q
      obtain ⟨c0, c1⟩ := hc q
      obtain ⟨⟨b1, b2, b3⟩, b4⟩ := hB c0
      rw [List.append_assoc] at em
      refine ⟨⟨?_, ?_, fun k' j q1 q2 => ?_⟩, by omega⟩
      · rw [em.1, b1, List.append_nil, ← c1]
      · rw [em.2 (o + 9) _ (Or.inr (Or.inr ⟨rfl, by omega⟩)), b2]
      · rw [em.2 k' j q1, b3 k' j q1 q2]
    have loop : ∀ (n : Nat) (a2 : Int32) (J : qMI) (M : qML) (y : pZ) (acc : pC), a2.toInt = 4 - n → n ≤ 4 → cF o I L J M → cH o K S N J M y → zEx K S (zIfs K S n y) = zLaw K S z → cUv o B J y acc 1 → (pf (zLaw K S z) = 0 → pf (zMust K S 61 z) = 0 ∧ acc ++ cmpl ((B (o + 6) 2).toInt.toNat + acc.length) (yIfs K S N n y) (xEx K S N (zIfs K S n y)) = cmpl (I (o + 6) 2).toInt.toNat (yLaw K S N z).1 (yLaw K S N z).2) → wkB l G (d + 22 + 1) n_X1_takeLaw (cLq o K S N I L R z a1.toInt.toNat) 31 [.ref 3, .int a1, .int a2, wkU] [] J M R := by
      intro n
      induction n with
      | zero =>
        intro a2 J M y acc ha2 hn f g e hu hc
        obtain ⟨-, h4, hz⟩ := cAt g
        have stop : ¬ (pf y = 0 ∧ K (pt y) = 139) → zIfs K S 0 y = y := fun q => by rw [zIfs, if_neg q]
        have lst : ¬ (pf y = 0 ∧ K (pt y) = 139) → wkB l G (d + 22 + 1) n_X1_takeLaw _ 184 [.ref 3, .int a1, .int a2, wkU] [] J M R := fun q => last a2 J M y acc f g (by rw [stop q] at e; exact e) hu (fun w => by
          have := hc w
          rw [stop q, yIfs, cmpl] at this
          exact this)
        refine w_X1_takeLaw_31 (fun q => absurd (i_lt.mp q) (by rw [show (4 : Int32).toInt = 4 from rfl]; omega)) (fun _ => w_X1_takeLaw_36 (fun q => lst (fun w => q (by rw [h4]; exact w.1))) (fun q => ?_))
        have hf : pf y = 0 := by rw [← h4]; exact q
        have ek := (hz hf).2
        refine w_X1_takeLaw_43 (fun q1 => lst (fun w => q1 (ek.trans w.2))) (fun q1 => ?_)
        have e4 : a2 = 4 := i_eq.mpr (by rw [show (4 : Int32).toInt = 4 from rfl]; omega)
        rw [zIfs, if_pos ⟨hf, ek.symm.trans q1⟩] at e
        have bad : pf (zFail S 2 y) ≠ 0 := zFail_n (by decide)
        have badI : ¬ pf (zIf K S (zFail S 2 y)) = 0 := fun w => by
          rw [zIf_f bad] at w
          exact bad w
        have badL : ¬ pf (zLaw K S z) = 0 := fun w => by
          rw [← e, zIf_f bad, zEx_f bad] at w
          exact bad w
        refine w_X1_takeLaw_53 (fun q2 => absurd e4 q2) (fun _ => w_X1_takeLaw_58 (cFailW (d := d + 21) ho hR g (by decide)) (fun I1 L1 R1 hq => ?_))
        obtain ⟨⟨rfl, f1, g1⟩, m1⟩ := hq
        refine cLawBody (d := d) (s := 1) ho hR gB (acc := acc) (cF_tr f f1) g1 (fun w => absurd w bad) (fun J' M' f' g' hu' => ?_)
        exact w_X1_takeLaw_31 (fun _ => last _ J' M' _ acc f' g' e (fun w => absurd w badI) (fun w => absurd w badL)) (fun q2 => absurd (i_lt.mpr (by rw [show (4 : Int32).toInt = 4 from rfl, i_s (by omega)]; omega)) q2)
      | succ n ih =>
        intro a2 J M y acc ha2 hn f g e hu hc
        obtain ⟨-, h4, hz⟩ := cAt g
        have stop : ¬ (pf y = 0 ∧ K (pt y) = 139) → zIfs K S (n + 1) y = y ∧ yIfs K S N (n + 1) y = [] := fun q => ⟨by rw [zIfs, if_neg q], by rw [yIfs, if_neg q]⟩
        have lst : ¬ (pf y = 0 ∧ K (pt y) = 139) → wkB l G (d + 22 + 1) n_X1_takeLaw _ 184 [.ref 3, .int a1, .int a2, wkU] [] J M R := fun q => last a2 J M y acc f g (by rw [(stop q).1] at e; exact e) hu (fun w => by
          have := hc w
          rw [(stop q).1, (stop q).2, cmpl] at this
          exact this)
        refine w_X1_takeLaw_31 (fun q => absurd (i_lt.mp q) (by rw [show (4 : Int32).toInt = 4 from rfl]; omega)) (fun _ => w_X1_takeLaw_36 (fun q => lst (fun w => q (by rw [h4]; exact w.1))) (fun q => ?_))
        have hf : pf y = 0 := by rw [← h4]; exact q
        have ek := (hz hf).2
        refine w_X1_takeLaw_43 (fun q1 => lst (fun w => q1 (ek.trans w.2))) (fun q1 => ?_)
        have hgo : pf y = 0 ∧ K (pt y) = 139 := ⟨hf, ek.symm.trans q1⟩
        rw [zIfs, if_pos hgo] at e
        refine w_X1_takeLaw_53 (fun _ => cLawBody (d := d) ho hR gB f g hu (fun J' M' f' g' hu' => ih (a2 + 1) J' M' _ _ (by rw [i_s (by omega)]; omega) (by omega) f' g' e (cUv_le hu' (by decide)) (fun w => ?_))) (fun q2 => absurd (i_eq.mp q2) (by rw [show (4 : Int32).toInt = 4 from rfl]; omega))
        obtain ⟨c0, c1⟩ := hc w
        refine ⟨c0, ?_⟩
        rw [yIfs, if_pos hgo, zIfs, if_pos hgo, cmpl] at c1
        have el : (B (o + 6) 2).toInt.toNat + (acc ++ cB ((B (o + 6) 2).toInt.toNat + acc.length) (yIf K S N y)).length = (B (o + 6) 2).toInt.toNat + acc.length + (yIf K S N y).1.length + (yIf K S N y).2.1.length + (yIf K S N y).2.2.length + 2 := by
          rw [List.length_append, cB_len]
          omega
        rw [el, List.append_assoc]
        exact c1
    refine w_X1_takeLaw_29 (loop 4 0 B M0 _ [] (by rfl) (Nat.le_refl _) fB gB (by unfold zLaw; simp only) (fun q => ⟨cEm_rf o B, ?_⟩) (fun q => ⟨?_, ?_⟩))
    · have := (hB q).2
      obtain ⟨q1, q2, -⟩ := zMust_pg (fun w => cH_4 h w) q
      have := hs q1
      omega
    · have q' : pf (zEx K S (zIfs K S 4 (zMust K S 61 z))) = 0 := by unfold zLaw at q; exact q
      exact zIfs_0 (K := K) (S := S) (n := 4) (zEx_0 (K := K) (S := S) q')
    · have q' : pf (zEx K S (zIfs K S 4 (zMust K S 61 z))) = 0 := by unfold zLaw at q; exact q
      have c0 := zIfs_0 (K := K) (S := S) (n := 4) (zEx_0 (K := K) (S := S) q')
      rw [List.nil_append, List.length_nil, Nat.add_zero, (hB c0).2]
      unfold yLaw
      simp only
  have first : ∀ b : Int32, (b = 0 ∨ b = 1) → (pf z = 0 → decide (b = 1) = decide (K (pt z) = 61)) → wkB l G (d + 22 + 1) n_X1_takeLaw (cLq o K S N I L R z a1.toInt.toNat) 15 [.ref 3, .int a1, wkU, wkU] [.int b, .ref 3] I L R := by
    intro b hb hc
    refine w_X1_takeLaw_15 (cTakeW (d := d + 21) ho hR h hb hc) (fun I1 L1 R1 hq => ?_)
    obtain ⟨⟨rfl, f1, g1⟩, m1⟩ := hq
    refine w_X1_takeLaw_18 ho hR.1.2 hR.2.2.1.2.2.2.2.2 (cOpenM (d := d + 21) ho hR g1 ha) (fun I2 L2 R2 hq => ?_)
    obtain ⟨⟨rfl, f2, g2⟩, m2⟩ := hq
    have sz1 := cEm_sz h g1 m1
    rw [List.length_nil] at sz1
    have e1 : I1 (o + 6) 2 = I (o + 6) 2 := i_eq.mpr (by omega)
    refine main I2 L2 (cF_tr f1 f2) g2 (fun _ => ⟨⟨?_, ?_, fun k' j q nq => ?_⟩, ?_⟩)
    · rw [m2.1, m1.1, List.append_nil]
    · rw [m2.2.1, e1]
    · rw [m2.2.2 k' j q nq, m1.2 k' j q]
    · have := congrArg List.length m2.1
      rw [List.append_nil, cCd_len, cCd_len] at this
      have := (cH_b g1).2.1
      have := (cH_b g2).2.1
      omega
  exact wkC_of 2 (by decide) (Nat.le_of_ble_eq_true rfl) (w_X1_takeLaw_0 (fun q => w_X1_takeLaw_14 (first 0 (Or.inl rfl) (fun hf => cMustN h hf q))) (fun q => w_X1_takeLaw_10 (first 1 (Or.inr rfl) (fun hf => cMustB h hf q))))
end
end
section
/-! ===== the class's things, seats, settings: what is told ===== -/
/-- the rest is as it was: all but these two rows and this count -/
def cSd (o a b c : Nat) (I I' : qMI) (x v : Int32) : Prop := cCd o I' = cCd o I ∧ ((I' o c).toInt = (I o c).toInt + 1 ∧ (∀ i, i < 6 → I' a i = if i = (I o c).toInt.toNat then x else I a i) ∧ ∀ i, i < 6 → I' b i = if i = (I o c).toInt.toNat then v else I b i) ∧ ∀ k j, cIn o k j → ¬ (k = o ∧ j = c) → k ≠ a → k ≠ b → I' k j = I k j
section
variable {l : Launch} {G : qG} {d : Nat} {I : qMI} {L : qML} {R : qMR} {o : Nat} {z : pZ} {K S : Nat → Int32} {N : Nat → Int64}
theorem cInt3 (hR : cRf R o) (h1 : 0 ≤ (I 3 2).toInt ∧ (I 3 2).toInt ≤ 400) {lo hi : Int32} : wkCi l G (d + 2) n_X1_takeInt [.ref 3, .int lo, .int hi] I L R (fun y I' _ _ => (∀ k, k ≠ 3 → I' k = I k) ∧ y = (L 8 (I 3 2).toNatClampNeg).toInt32) := by
  have v1 : vp_in (I 3 2) 401 := vin h1.1 (by omega)
  have fin : ∀ b : Int32, wkB l G (d + 1 + 1) n_X1_takeInt (fun r t I' L' R' => t = 336 ∧ ∃ y, r = some (.int y) ∧ (∀ k, k ≠ 3 → I' k = I k) ∧ y = (L 8 (I 3 2).toNatClampNeg).toInt32) 42 [.ref 3, .int lo, .int hi, .int (I 7 (I 3 2).toNatClampNeg), .int ((L 8 (I 3 2).toNatClampNeg).toInt32)] [.int b, .ref 3] I L R := fun b => by
    refine w_X1_takeInt_42 (cTake3 (d := d) hR h1) (fun I1 L1 R1 f1 => ?_)
    have nt : wkB l G (d + 1 + 1) n_X1_takeInt (fun r t I' L' R' => t = 336 ∧ ∃ y, r = some (.int y) ∧ (∀ k, k ≠ 3 → I' k = I k) ∧ y = (L 8 (I 3 2).toNatClampNeg).toInt32) 64 [.ref 3, .int lo, .int hi, .int (I 7 (I 3 2).toNatClampNeg), .int ((L 8 (I 3 2).toNatClampNeg).toInt32)] [] I1 L1 R1 := w_X1_takeInt_64 (cNote3 (d := d)) (fun I2 L2 R2 f2 => w_X1_takeInt_70 ⟨rfl, _, rfl, fun k q => (f2 k q).trans (f1 k q), rfl⟩)
    exact w_X1_takeInt_45 (fun _ => w_X1_takeInt_70 ⟨rfl, _, rfl, f1, rfl⟩) (fun _ => w_X1_takeInt_52 (fun _ => nt) (fun _ => w_X1_takeInt_58 (fun _ => w_X1_takeInt_70 ⟨rfl, _, rfl, f1, rfl⟩) (fun _ => nt)))
  exact wkC_of 2 (by decide) (Nat.le_of_ble_eq_true rfl) (w_X1_takeInt_0 hR.1.1 hR.2.1.2.2.1 v1 hR.1.1 hR.2.1.2.2.2 v1 (fun _ => w_X1_takeInt_41 (fin 0)) (fun _ => w_X1_takeInt_37 (fin 1)))
theorem cIntW (ho : o = 9 ∨ o = 259) (hR : cRf R o) (h : cH o K S N I L z) {lo hi : Int32} : wkCi l G (d + 2) n_X1_takeInt [.ref 3, .int lo, .int hi] I L R (fun y I' L' R' => cPw o K S N I L R (zInt K S N lo hi z) [] I' L' R' ∧ (pf z = 0 → y = (N (pt z)).toInt32)) := by
  refine wkCi.mono (wkCi_and (cInt ho hR h) (cInt3 hR h.2.1)) (fun y I' L' R' hq => ?_)
  obtain ⟨hp, I2, L2, R2, ⟨h3, h5⟩, sm⟩ := hq
  refine ⟨⟨hp, cEm_sm ho sm (by rw [h3 (o + 6) (by omega)]; exact (cH_b h).2.2) (cEm_3 ho h3)⟩, fun q => ?_⟩
  rw [h5, ((cAt h).2.2 q).1, h.1.2.2]
theorem cName3 (ho : o = 9 ∨ o = 259) (hR : cRf R o) (hb : 0 ≤ (I o 1).toInt ∧ (I o 1).toInt ≤ 12) {key : Int64} : wkCi l G (d + 1) n_X0_addName [.ref o, .long key] I L R (fun _ I' _ _ => (∀ k, k ≠ o → I' k = I k) ∧ ∀ j, j ≠ 1 → I' o j = I o j) := by
  have loop : ∀ (m : Nat) (a : Int32), (I o 1).toInt - a.toInt ≤ m → 0 ≤ a.toInt → wkB l G (d + 1) n_X0_addName (fun r t I' L' R' => t = 336 ∧ ∃ y, r = some (.int y) ∧ (∀ k, k ≠ o → I' k = I k) ∧ ∀ j, j ≠ 1 → I' o j = I o j) 2 [.ref o, .long key, wkU, .int a] [] I L R := by
    intro m
    have done : ∀ a : Int32, wkB l G (d + 1) n_X0_addName (fun r t I' L' R' => t = 336 ∧ ∃ y, r = some (.int y) ∧ (∀ k, k ≠ o → I' k = I k) ∧ ∀ j, j ≠ 1 → I' o j = I o j) 29 [.ref o, .long key, wkU, .int a] [] I L R := fun a => by
      refine w_X0_addName_29 ho hR.2.2.1.1 (fun _ => w_X0_addName_61 ho ⟨rfl, _, rfl, fun _ _ => rfl, fun _ _ => rfl⟩) (fun q => ?_)
      have q : ¬ _ := fun w => q (i_le.mpr w)
      rw [show (12 : Int32).toInt = 12 from rfl] at q
      exact w_X0_addName_41 ho hR.2.2.1.1 (vin hb.1 (by omega)) (w_X0_addName_61 ho ⟨rfl, _, rfl, fun k q => qUp_ro q, fun j q => qUp_ne (fun w => q w.2)⟩)
    induction m with
    | zero =>
      intro a hm h0
      exact w_X0_addName_2 ho (fun _ => done a) (fun q => absurd (i_le.mpr (by omega)) q)
    | succ m ih =>
      intro a hm h0
      refine w_X0_addName_2 ho (fun _ => done a) (fun q => ?_)
      have q : ¬ _ := fun w => q (i_le.mpr w)
      have e1 : (a + 1).toInt = a.toInt + 1 := i_s (by omega)
      exact w_X0_addName_10 ho hR.2.2.1.1 (vin h0 (by omega)) (fun _ => w_X0_addName_23 ho (ih (a + 1) (by omega) (by omega))) (fun _ => w_X0_addName_21 ho ⟨rfl, _, rfl, fun _ _ => rfl, fun _ _ => rfl⟩)
  exact wkC_of 1 (by decide) (Nat.le_of_ble_eq_true rfl) (w_X0_addName_0 ho (loop 12 0 (by rw [show (0 : Int32).toInt = 0 from rfl]; omega) (by decide)))
theorem cEm_n {o : Nat} (ho : o = 9 ∨ o = 259) {I I' : qMI} (h : ∀ k, k ≠ o → I' k = I k) (h2 : ∀ j, j ≠ 1 → I' o j = I o j) : cEm o I I' [] := by
  refine ⟨?_, fun k j q => ?_⟩
  · rw [List.append_nil]
    exact cCd_cg (by rw [h (o + 6) (by omega)]) (fun i _ => ⟨by rw [h (o + 7) (by omega)], by rw [h (o + 8) (by omega)]⟩)
  · by_cases e : k = o
    · subst e
      exact h2 j (by unfold cIn at q; omega)
    · rw [h k e]
/-- one more -/
theorem cSt3 (ho : o = 9 ∨ o = 259) (hR : cRf R o) {b x v : Int32} (hb : (b = 1 ∧ 0 ≤ (I o 2).toInt ∧ (I o 2).toInt < 6) ∨ (b = 0 ∧ 0 ≤ (I o 5).toInt ∧ (I o 5).toInt < 6)) : wkCv l G (d + 1) n_X0_addStander [.ref o, .int b, .int x, .int v] I L R (fun I' _ _ => (b = 1 → cSd o (o + 2) (o + 3) 2 I I' x v) ∧ (b = 0 → cSd o (o + 4) (o + 5) 5 I I' x v)) := by
  have go : ∀ (a c n : Nat) (J : qMI), (n = 2 ∧ a = o + 2 ∧ c = o + 3) ∨ (n = 5 ∧ a = o + 4 ∧ c = o + 5) → 0 ≤ (I o n).toInt → (I o n).toInt < 6 → J = qUp (qUp (qUp I a (I o n).toNatClampNeg x) c (I o n).toNatClampNeg v) o n (I o n + 1) → cSd o a c n I J x v := by
    intro a c n J hn h0 h6 eJ
    have s1 : (I o n + 1).toInt = (I o n).toInt + 1 := i_s (by omega)
    have ro : ∀ k, k ≠ o → k ≠ a → k ≠ c → J k = I k := fun k q1 q2 q3 => by rw [eJ, qUp_ro q1, qUp_ro q3, qUp_ro q2]
    refine ⟨?_, ⟨?_, fun i _ => ?_, fun i _ => ?_⟩, fun k j q n1 n2 n3 => ?_⟩
    · exact cCd_cg (by rw [ro (o + 6) (by omega) (by omega) (by omega)]) (fun i _ => ⟨by rw [ro (o + 7) (by omega) (by omega) (by omega)], by rw [ro (o + 8) (by omega) (by omega) (by omega)]⟩)
    · rw [eJ, qUp_at, if_pos ⟨rfl, rfl⟩, s1]
    · rw [eJ, qUp_ro (by omega), qUp_ro (by omega), qUp_row, tcn]
      rfl
    · rw [eJ, qUp_ro (by omega), qUp_row, qUp_ro (by omega), tcn]
      rfl
    · by_cases e : k = o
      · subst e
        rw [eJ, qUp_ne (fun w => n1 ⟨rfl, w.2⟩), qUp_ro n3, qUp_ro n2]
      · rw [ro k e n2 n3]
  rcases hb with ⟨rfl, h0, h6⟩ | ⟨rfl, h0, h6⟩
  · have e2 : ∀ y1, (qUp I (o + 2) y1 x) o 2 = I o 2 := fun y1 => qUp_ne (by omega)
    have e3 : ∀ y1 y2, (qUp (qUp I (o + 2) y1 x) (o + 3) y2 v) o 2 = I o 2 := fun y1 y2 => by rw [qUp_ne (by omega), e2]
    refine wkC_of 0 (by decide) (Nat.le_of_ble_eq_true rfl) (w_X0_addStander_0 ho (fun q => absurd q (by decide)) (fun _ => w_X0_addStander_4 ho (fun q => absurd (i_le.mp q) (by rw [show (6 : Int32).toInt = 6 from rfl]; omega)) (fun _ => w_X0_addStander_13 ho hR.2.2.1.2.1 (vin h0 (by omega)) hR.2.2.1.2.2.1 (by rw [e2]; exact vin h0 (by omega)) (w_X0_addStander_89 ho ⟨rfl, rfl, fun _ => ?_, fun w => absurd w (by decide)⟩))))
    rw [e3, e2]
    exact go _ _ 2 _ (Or.inl ⟨rfl, rfl, rfl⟩) h0 h6 rfl
  · have e2 : ∀ y1, (qUp I (o + 4) y1 x) o 5 = I o 5 := fun y1 => qUp_ne (by omega)
    have e3 : ∀ y1 y2, (qUp (qUp I (o + 4) y1 x) (o + 5) y2 v) o 5 = I o 5 := fun y1 y2 => by rw [qUp_ne (by omega), e2]
    refine wkC_of 0 (by decide) (Nat.le_of_ble_eq_true rfl) (w_X0_addStander_0 ho (fun _ => w_X0_addStander_46 ho (fun q => absurd rfl q) (fun _ => w_X0_addStander_50 ho (fun q => absurd (i_le.mp q) (by rw [show (6 : Int32).toInt = 6 from rfl]; omega)) (fun _ => w_X0_addStander_59 ho hR.2.2.1.2.2.2.1 (vin h0 (by omega)) hR.2.2.1.2.2.2.2.1 (by rw [e2]; exact vin h0 (by omega)) (w_X0_addStander_89 ho ⟨rfl, rfl, fun w => absurd w (by decide), fun _ => ?_⟩)))) (fun q => absurd rfl q))
    rw [e3, e2]
    exact go _ _ 5 _ (Or.inr ⟨rfl, rfl, rfl⟩) h0 h6 rfl
end
end
section
/-! ===== the class: a thing or a seat is told ===== -/
theorem cSd_tr {o a b c : Nat} {I J J' I' : qMI} {x v : Int32} (hc : (c = 2 ∧ a = o + 2 ∧ b = o + 3) ∨ (c = 5 ∧ a = o + 4 ∧ b = o + 5)) (h : cEm o I J []) (g : cSd o a b c J J' x v) (k : cEm o J' I' []) : cSd o a b c I I' x v := by
  obtain ⟨g1, ⟨g2, g3, g4⟩, g5⟩ := g
  have c0 : cIn o o c := Or.inl ⟨rfl, by omega⟩
  have ia : ∀ i, i < 6 → cIn o a i := fun i hi => Or.inr (Or.inl ⟨by omega, by omega, hi⟩)
  have ib : ∀ i, i < 6 → cIn o b i := fun i hi => Or.inr (Or.inl ⟨by omega, by omega, hi⟩)
  refine ⟨?_, ⟨?_, fun i hi => ?_, fun i hi => ?_⟩, fun k' j q n1 n2 n3 => ?_⟩
  · rw [k.1, List.append_nil, g1, h.1, List.append_nil]
  · rw [k.2 o c c0, g2, h.2 o c c0]
  · rw [k.2 a i (ia i hi), g3 i hi, h.2 o c c0, h.2 a i (ia i hi)]
  · rw [k.2 b i (ib i hi), g4 i hi, h.2 o c c0, h.2 b i (ib i hi)]
  · rw [k.2 k' j q, g5 k' j q n1 n2 n3, h.2 k' j q]
section
variable {K S : Nat → Int32} {N : Nat → Int64} {z : pZ}
theorem zInt_pt {lo hi : Int32} (h : pf z = 0 → pt z ≤ 400) (h0 : pf (zInt K S N lo hi z) = 0) : pt (zInt K S N lo hi z) = pt z + 1 := by
  have e1 : (zInt K S N lo hi z).1 = (zTake S (decide (K (pt z) = 3)) z).1 := by
    unfold zInt
    split
    · exact zNote_1.1
    · rfl
  have h1 : pf (zTake S (decide (K (pt z) = 3)) z) = 0 := by
    have : (zInt K S N lo hi z).1.2.1 = 0 := h0
    rw [e1] at this
    exact this
  show (zInt K S N lo hi z).1.1 = _
  rw [e1]
  exact (zTake_pg h h1).2.1
theorem zName_pt (h : pf z = 0 → pt z ≤ 400) (h0 : pf (zName K S N z) = 0) : pt (zName K S N z) = pt z + 1 := by
  have e1 : (zName K S N z).1 = (zTake S (decide (K (pt z) = 2)) z).1 := by
    unfold zName
    split
    · split
      · exact zNote_1.1
      · rfl
    · rfl
  have h1 : pf (zTake S (decide (K (pt z) = 2)) z) = 0 := by
    have : (zName K S N z).1.2.1 = 0 := h0
    rw [e1] at this
    exact this
  show (zName K S N z).1.1 = _
  rw [e1]
  exact (zTake_pg h h1).2.1
end
def cSv (o : Nat) (b : Int32) (I I' : qMI) (x v : Int32) : Prop := (b = 1 → cSd o (o + 2) (o + 3) 2 I I' x v) ∧ (b = 0 → cSd o (o + 4) (o + 5) 5 I I' x v)
abbrev cSq (o : Nat) (K S : Nat → Int32) (N : Nat → Int64) (I : qMI) (L : qML) (R : qMR) (z : pZ) (b : Int32) : qMI → qML → qMR → Prop := fun I' L' R' => cPo o K S N I L R (zStand K S N (decide (b = 1)) z) I' L' R' ∧ (pf (zStand K S N (decide (b = 1)) z) = 0 → cSv o b I I' (N (pt z + 1)).toInt32 (N (pt z + 2)).toInt32 ∧ pt (zStand K S N (decide (b = 1)) z) = pt z + 3)
section
variable {l : Launch} {G : qG} {d : Nat} {I : qMI} {L : qML} {R : qMR} {o : Nat} {z : pZ} {K S : Nat → Int32} {N : Nat → Int64}
theorem cStandW (ho : o = 9 ∨ o = 259) (hR : cRf R o) (h : cH o K S N I L z) {b : Int32} (hb : b = 0 ∨ b = 1) (hc : pf z = 0 → z.2.2.1.length ≤ 11 ∧ (b = 1 → z.2.2.2.1 < 6) ∧ (b = 0 → z.2.2.2.2 < 6)) : wkCv l G (d + 3) n_X1_takeStander [.ref 3, .int b] I L R (cSq o K S N I L R z b) := by
  obtain ⟨v1, hf4, hz⟩ := cAt h
  obtain ⟨⟨e6, e7, e8⟩, -⟩ := id h
  have fin : ∀ (I1 : qMI) (L1 : qML) (z1 : pZ) (a2 : Int32) (a3 : Int64), cF o I L I1 L1 → cH o K S N I1 L1 z1 → cEm o I I1 [] → z1 = zName K S N z → wkB l G (d + 2 + 1) n_X1_takeStander (fun r t I' L' R' => t = 336 ∧ r = none ∧ cSq o K S N I L R z b I' L' R') 67 [.ref 3, .int b, .int a2, .long a3, wkU, wkU, wkU] [] I1 L1 R := by
    intro I1 L1 z1 a2 a3 f1 g1 m1 e1
    subst e1
    have end_ : ∀ (I3 : qMI) (L3 : qML) (z3 : pZ) (a5 s0 : Int32), cF o I L I3 L3 → cH o K S N I3 L3 z3 → cEm o I I3 [] → (pf z3 = 0 → a5 = (N (pt z + 1)).toInt32 ∧ s0 = (N (pt z + 2)).toInt32 ∧ pt z3 = pt z + 3) → z3 = (if decide (b = 1) = true then zInt K S N 1 9 (zInt K S N 0 19 (zName K S N z)) else zInt K S N 0 999 (zInt K S N 0 19 (zName K S N z))) → wkB l G (d + 2 + 1) n_X1_takeStander (fun r t I' L' R' => t = 336 ∧ r = none ∧ cSq o K S N I L R z b I' L' R') 98 [.ref 3, .int b, .int a2, .long a3, wkU, .int a5, wkU] [.int s0] I3 L3 R := by
      intro I3 L3 z3 a5 s0 f3 g3 m3 hv e3
      have ez : zStand K S N (decide (b = 1)) z = (if pf z3 = 0 then (if decide (b = 1) = true then (z3.1, z3.2.1, z3.2.2.1, z3.2.2.2.1 + 1, z3.2.2.2.2) else (z3.1, z3.2.1, z3.2.2.1, z3.2.2.2.1, z3.2.2.2.2 + 1)) else z3) := by
        rw [e3]; rfl
      obtain ⟨-, h34, -⟩ := cAt g3
      have z3c : z3.2.2.2 = z.2.2.2 := by
        rw [e3]
        split
        · rw [zInt_3, zInt_3]; exact zName_c.1
        · rw [zInt_3, zInt_3]; exact zName_c.1
      have z30 : pf z3 = 0 → pf z = 0 := fun q => by
        refine Decidable.byContradiction fun n => ?_
        rw [e3, zName_f n] at q
        split at q
        · exact n (zInt_0 (zInt_0 q))
        · exact n (zInt_0 (zInt_0 q))
      refine w_X1_takeStander_98 (fun q => w_X1_takeStander_119 ⟨rfl, rfl, ⟨rfl, f3, ?_⟩, fun w => ?_⟩) (fun q => ?_)
      · rw [ez, if_neg (fun e => q (by rw [h34]; exact e))]
        exact g3
      · rw [ez, if_neg (fun e => q (by rw [h34]; exact e))] at w
        exact absurd (by rw [h34]; exact w) q
      · have hf3 : pf z3 = 0 := by rw [← h34]; exact q
        obtain ⟨c1, c2, c3⟩ := hc (z30 hf3)
        refine w_X1_takeStander_107 ho hR.1.2 (wkCv_and (cAddSt (d := d + 1) ho hR g3 hf3 ?_) (cSt3 (d := d + 1) ho hR ?_)) (fun I4 L4 R4 hq => ?_)
        · rw [z3c]
          rcases hb with rfl | rfl
          · exact Or.inr ⟨rfl, c3 rfl⟩
          · exact Or.inl ⟨rfl, c2 rfl⟩
        · obtain ⟨-, -, -, -, n3, n4⟩ := g3.2.2.2.2.1 hf3
          rcases hb with rfl | rfl
          · have := c3 rfl
            rw [z3c] at n4
            exact Or.inr ⟨rfl, by omega, by omega⟩
          · have := c2 rfl
            rw [z3c] at n3
            exact Or.inl ⟨rfl, by omega, by omega⟩
        · obtain ⟨⟨rfl, f4, g4⟩, I5, L5, R5, ⟨k1, k2⟩, sm⟩ := hq
          obtain ⟨v1, v2, v3⟩ := hv hf3
          have hz4 : zStand K S N (decide (b = 1)) z = (if decide (b = 1) = true then (z3.1, z3.2.1, z3.2.2.1, z3.2.2.2.1 + 1, z3.2.2.2.2) else (z3.1, z3.2.1, z3.2.2.1, z3.2.2.2.1, z3.2.2.2.2 + 1)) := by rw [ez, if_pos hf3]
          have hb5 : (I5 (o + 6) 2).toInt ≤ 420 := by
            have a := (cH_b g3).2
            have e : (cCd o I5).length = (cCd o I3).length := by
              rcases hb with rfl | rfl
              · rw [(k2 rfl).1]
              · rw [(k1 rfl).1]
            rw [cCd_len, cCd_len] at e
            omega
          have m5 : cEm o I5 I4 [] := cEm_sm ho sm hb5 (cEm_rf o I5)
          refine w_X1_takeStander_119 ⟨rfl, rfl, ⟨rfl, cF_tr f3 f4, ?_⟩, fun _ => ⟨⟨fun w => ?_, fun w => ?_⟩, ?_⟩⟩
          · rw [hz4]
            exact g4
          · rw [← v1, ← v2]
            exact cSd_tr (Or.inl ⟨rfl, rfl, rfl⟩) m3 (k1 w) m5
          · rw [← v1, ← v2]
            exact cSd_tr (Or.inr ⟨rfl, rfl, rfl⟩) m3 (k2 w) m5
          · rw [hz4]
            split <;> exact v3
    have p1 := fun w => cH_4 g1 w
    refine w_X1_takeStander_67 (cIntW (d := d) ho hR g1) (fun y I2 L2 R2 hq => ?_)
    obtain ⟨⟨⟨rfl, f2, g2⟩, m2⟩, y1⟩ := hq
    have p2 := fun w => cH_4 g2 w
    have vals : ∀ (lo hi : Int32) (y2 : Int32), (pf (zInt K S N 0 19 (zName K S N z)) = 0 → y2 = (N (pt (zInt K S N 0 19 (zName K S N z)))).toInt32) → pf (zInt K S N lo hi (zInt K S N 0 19 (zName K S N z))) = 0 → y = (N (pt z + 1)).toInt32 ∧ y2 = (N (pt z + 2)).toInt32 ∧ pt (zInt K S N lo hi (zInt K S N 0 19 (zName K S N z))) = pt z + 3 := fun lo hi y2 h2 q => by
      have q1 := zInt_0 q
      have q2 := zInt_0 q1
      have a1 := zInt_pt p2 q
      have a2 := zInt_pt p1 q1
      have a3 := zName_pt (fun w => cH_4 h w) q2
      rw [a1, h2 q1, y1 q2, a2, a3]
      exact ⟨rfl, rfl, rfl⟩
    refine w_X1_takeStander_74 (fun q => ?_) (fun q => ?_)
    · refine w_X1_takeStander_90 (cIntW (d := d) ho hR g2) (fun y2 I3 L3 R3 hq => ?_)
      obtain ⟨⟨⟨rfl, f3, g3⟩, m3⟩, y3⟩ := hq
      exact end_ I3 L3 _ _ _ (cF_tr f1 (cF_tr f2 f3)) g3 (cEm_tr m1 (cEm_tr m2 m3)) (vals _ _ _ y3) (by rw [q, if_neg (by decide)])
    · have hb1 : b = 1 := hb.resolve_left q
      refine w_X1_takeStander_80 (cIntW (d := d) ho hR g2) (fun y2 I3 L3 R3 hq => ?_)
      obtain ⟨⟨⟨rfl, f3, g3⟩, m3⟩, y3⟩ := hq
      exact w_X1_takeStander_87 (end_ I3 L3 _ _ _ (cF_tr f1 (cF_tr f2 f3)) g3 (cEm_tr m1 (cEm_tr m2 m3)) (vals _ _ _ y3) (by rw [hb1, if_pos (by decide)]))
  have tk : ∀ c : Int32, (c = 0 ∨ c = 1) → (pf z = 0 → decide (c = 1) = decide (K (pt z) = 2)) → wkB l G (d + 2 + 1) n_X1_takeStander (fun r t I' L' R' => t = 336 ∧ r = none ∧ cSq o K S N I L R z b I' L' R') 40 [.ref 3, .int b, .int (I 7 (I 3 2).toNatClampNeg), .long (L 8 (I 3 2).toNatClampNeg), wkU, wkU, wkU] [.int c, .ref 3] I L R := by
    intro c hc0 hc1
    refine w_X1_takeStander_40 (cTakeW (d := d + 1) ho hR h hc0 hc1) (fun I1 L1 R1 hq => ?_)
    obtain ⟨⟨rfl, f1, g1⟩, m1⟩ := hq
    obtain ⟨-, h14, -⟩ := cAt g1
    refine w_X1_takeStander_43 (fun q => fin I1 L1 _ _ _ f1 g1 m1 ?_) (fun q => ?_)
    · unfold zName
      rw [if_neg (fun e => q (by rw [h14]; exact e))]
    · have hf1 : pf (zTake S (decide (K (pt z) = 2)) z) = 0 := by rw [← h14]; exact q
      have hf0 := zTake_0 hf1
      obtain ⟨c1, c2⟩ := hz hf0
      refine w_X1_takeStander_50 ho hR.1.2 (wkCi_and (cAddName (d := d + 1) ho hR g1 hf1 (by rw [zTake_2]; exact (hc hf0).1)) (cName3 (d := d + 1) ho hR g1.2.2.2.2.2.1)) (fun y I2 L2 R2 hq => ?_)
      obtain ⟨hq, J2, M2, S2, ⟨k1, k2⟩, sm⟩ := hq
      have m2 : cEm o I1 I2 [] := cEm_sm ho sm (by rw [k1 (o + 6) (by omega)]; exact (cH_b g1).2.2) (cEm_n ho k1 k2)
      rw [zTake_2, e8, c1] at hq
      rcases hq with ⟨n1, rfl, rfl, f2, g2⟩ | ⟨n1, rfl, rfl, f2, g2⟩
      · refine w_X1_takeStander_58 (fun q => absurd rfl q) (fun _ => w_X1_takeStander_61 (wkCv_and (cNoteH (d := d + 1) ho g2 hf1 (by decide)) (cNote3 (d := d + 1))) (fun I3 L3 R3 hq => ?_))
        obtain ⟨⟨rfl, f3, g3⟩, J3, M3, S3, k3, sm3⟩ := hq
        have m3 : cEm o I2 I3 [] := cEm_sm ho sm3 (by rw [k3 (o + 6) (by omega)]; exact (cH_b g2).2.2) (cEm_3 ho k3)
        refine fin I3 L3 _ _ _ (cF_tr f1 (cF_tr f2 f3)) g3 (cEm_tr m1 (cEm_tr m2 m3)) ?_
        unfold zName
        rw [if_pos hf1, if_pos n1, c1, e7]
      · refine w_X1_takeStander_58 (fun _ => ?_) (fun q => absurd q (by decide))
        refine fin I2 L2 _ _ _ (cF_tr f1 f2) g2 (cEm_tr m1 m2) ?_
        unfold zName
        rw [if_pos hf1, if_neg n1]
  refine wkC_of 5 (by decide) (Nat.le_of_ble_eq_true rfl) (w_X1_takeStander_0 hR.1.1 hR.2.1.2.2.1 v1 hR.1.1 hR.2.1.2.2.2 v1 (fun q => w_X1_takeStander_39 (tk 0 (Or.inl rfl) (fun hf => ?_))) (fun q => w_X1_takeStander_35 (tk 1 (Or.inr rfl) (fun hf => ?_))))
  · rw [← (hz hf).2, decide_eq_false q]
    rfl
  · rw [← (hz hf).2, decide_eq_true q]
    rfl
end
end
section
/-! ===== the class's settings; what a flat comes to ===== -/
def cSg (o n : Nat) (I I' : qMI) (v : Int32) : Prop := cCd o I' = cCd o I ∧ I' o n = v ∧ ∀ k j, cIn o k j → ¬ (k = o ∧ j = n) → I' k j = I k j
def sIx (k : Int32) : Nat := (k.toInt - 127).toNat
abbrev cGq (o : Nat) (K S : Nat → Int32) (N : Nat → Int64) (I : qMI) (L : qML) (R : qMR) (z : pZ) (k : Int32) : qMI → qML → qMR → Prop := fun I' L' R' => cPo o K S N I L R (zSet K S N k z) I' L' R' ∧ (pf (zSet K S N k z) = 0 → cSg o (sIx k) I I' (N (pt z)).toInt32 ∧ pt (zSet K S N k z) = pt z + 1 ∧ 8 ≤ sIx k ∧ sIx k ≤ 11)
section
variable {l : Launch} {G : qG} {d : Nat} {I : qMI} {L : qML} {R : qMR} {o : Nat} {z : pZ} {K S : Nat → Int32} {N : Nat → Int64}
theorem cSetW (ho : o = 9 ∨ o = 259) (hR : cRf R o) (h : cH o K S N I L z) {k : Int32} : wkCv l G (d + 3) n_X1_takeSetting [.ref 3, .int k] I L R (cGq o K S N I L R z k) := by
  have fin : ∀ (i : Nat) (v lo hi : Int32) (I1 : qMI) (L1 : qML), 8 ≤ i ∧ i ≤ 11 → zSet K S N k z = zInt K S N lo hi z → sIx k = i → cF o I L I1 L1 → cH o K S N I1 L1 (zInt K S N lo hi z) → cEm o I I1 [] → (pf z = 0 → v = (N (pt z)).toInt32) → wkB l G (d + 2 + 1) n_X1_takeSetting (fun r t I' L' R' => t = 336 ∧ r = none ∧ cGq o K S N I L R z k I' L' R') 106 [.ref 3, .int k] [] (qUp I1 o i v) L1 R := by
    intro i v lo hi I1 L1 hi' e ei f g m hv
    obtain ⟨f2, g2⟩ := cH_w (x := v) (i := i) (k := o) ho (Or.inl ⟨rfl, hi'.1, by omega⟩) g
    refine w_X1_takeSetting_106 ⟨rfl, rfl, ⟨rfl, cF_tr f f2, by rw [e]; exact g2⟩, fun q => ?_⟩
    rw [e] at q ⊢
    have q0 := zInt_0 q
    refine ⟨⟨?_, ?_, fun k' j q1 q2 => ?_⟩, zInt_pt (fun w => cH_4 h w) q, by omega, by omega⟩
    · have m1 := m.1
      rw [List.append_nil] at m1
      rw [← m1]
      exact cCd_cg (by rw [qUp_ro (by omega)]) (fun i _ => ⟨by rw [qUp_ro (by omega)], by rw [qUp_ro (by omega)]⟩)
    · rw [ei, qUp_at, if_pos ⟨rfl, rfl⟩, hv q0]
    · rw [ei] at q2
      rw [qUp_ne q2, m.2 k' j q1]
  refine wkC_of 0 (by decide) (Nat.le_of_ble_eq_true rfl) (w_X1_takeSetting_0 (qSwt_e (fun q => ?_) (fun n1 => qSwt_e (fun q => ?_) (fun n2 => qSwt_e (fun q => ?_) (fun n3 => qSwt_e (fun q => ?_) (fun n4 => qSwt_d ?_))))))
  · refine w_X1_takeSetting_32 ho hR.1.2 (cIntW (d := d) ho hR h) (fun y I1 L1 R1 hq => ?_)
    obtain ⟨⟨⟨rfl, f, g⟩, m⟩, y1⟩ := hq
    exact w_X1_takeSetting_43 ho (fin 8 y _ _ I1 L1 (by decide) (by unfold zSet; rw [if_pos q]) (by rw [q]; decide) f g m y1)
  · refine w_X1_takeSetting_49 ho hR.1.2 (cIntW (d := d) ho hR h) (fun y I1 L1 R1 hq => ?_)
    obtain ⟨⟨⟨rfl, f, g⟩, m⟩, y1⟩ := hq
    have q : k = 136 := q
    exact w_X1_takeSetting_60 ho (fin 9 y _ _ I1 L1 (by decide) (by unfold zSet; rw [if_neg (by rw [q]; decide), if_pos q]) (by rw [q]; decide) f g m y1)
  · refine w_X1_takeSetting_66 ho hR.1.2 (cIntW (d := d) ho hR h) (fun y I1 L1 R1 hq => ?_)
    obtain ⟨⟨⟨rfl, f, g⟩, m⟩, y1⟩ := hq
    have q : k = 137 := q
    exact w_X1_takeSetting_77 ho (fin 10 y _ _ I1 L1 (by decide) (by unfold zSet; rw [if_neg (by rw [q]; decide), if_neg (by rw [q]; decide), if_pos q]) (by rw [q]; decide) f g m y1)
  · refine w_X1_takeSetting_83 ho hR.1.2 (cIntW (d := d) ho hR h) (fun y I1 L1 R1 hq => ?_)
    obtain ⟨⟨⟨rfl, f, g⟩, m⟩, y1⟩ := hq
    have q : k = 138 := q
    exact w_X1_takeSetting_95 ho (fin 11 y _ _ I1 L1 (by decide) (by unfold zSet; rw [if_neg (by rw [q]; decide), if_neg (by rw [q]; decide), if_neg (by rw [q]; decide), if_pos q]) (by rw [q]; decide) f g m y1)
  · have n2 : ¬ k = 136 := n2
    have n3 : ¬ k = 137 := n3
    have n4 : ¬ k = 138 := n4
    have ez : zSet K S N k z = zFail S 1 z := by unfold zSet; rw [if_neg n1, if_neg n2, if_neg n3, if_neg n4]
    refine w_X1_takeSetting_101 (cFailH (d := d + 1) ho hR h (by decide)) (fun I1 L1 R1 hq => ?_)
    obtain ⟨rfl, f, g⟩ := hq
    refine w_X1_takeSetting_106 ⟨rfl, rfl, ⟨rfl, f, by rw [ez]; exact g⟩, fun q => ?_⟩
    rw [ez] at q
    exact absurd q (zFail_n (by decide))
end
/-! what a text tells of a flat: things, seats, settings, laws -/
abbrev aLw : Type := List (pC × pC × pC) × pC
abbrev aD : Type := List (Int32 × Int32) × List (Int32 × Int32) × (Nat → Int32) × (Nat → aLw)
section
variable (K S : Nat → Int32) (N : Nat → Int64)
def aTell (z : pZ) (A : aD) : aD :=
  if K (pt z) = 128 then (A.1 ++ [((N (pt z + 2)).toInt32, (N (pt z + 3)).toInt32)], A.2)
  else if K (pt z) = 129 then (A.1, A.2.1 ++ [((N (pt z + 2)).toInt32, (N (pt z + 3)).toInt32)], A.2.2)
  else if 130 ≤ K (pt z) ∧ K (pt z) < 135 then (A.1, A.2.1, A.2.2.1, fun k => if k = (K (pt z) - 130).toInt.toNat then yLaw K S N (zTake S true z) else A.2.2.2 k)
  else (A.1, A.2.1, (fun j => if j = sIx (K (pt z)) then (N (pt z + 1)).toInt32 else A.2.2.1 j), A.2.2.2)
def aAll : Nat → pZ → aD → aD
  | 0, _, A => A
  | n + 1, z, A => if pf z = 0 ∧ ¬ K (pt z) = 0 then aAll n (zTell K S N z) (aTell K S N z A) else A
end
def aLaw0 (k : Nat) : aLw := ([], if k = 0 then [(1, 0)] else if k = 1 then [(1, 2), (1, 3), (3, 0)] else if k = 3 then [(1, 4)] else [(0, 0)])
def cRow (o c a b : Nat) (I : qMI) (w : List (Int32 × Int32)) : Prop := ((I o c).toInt = w.length ∧ w.length ≤ 6) ∧ ∀ i p, w[i]? = some p → I a i = p.1 ∧ I b i = p.2
def cPrg (o : Nat) (I : qMI) (k : Nat) (w : aLw) : Prop := ∃ pre suf, cCd o I = pre ++ (cmpl pre.length w.1 w.2 ++ suf) ∧ I (o + 9) k = Int32.ofNat pre.length
def cDt (o : Nat) (I : qMI) (A : aD) : Prop := cRow o 2 (o + 2) (o + 3) I A.1 ∧ cRow o 5 (o + 4) (o + 5) I A.2.1 ∧ (∀ j, 8 ≤ j → j ≤ 11 → I o j = A.2.2.1 j) ∧ ∀ k, k < 5 → cPrg o I k (A.2.2.2 k)
section
variable {o : Nat} {I I' : qMI} {A : aD}
theorem cRow_cg {c a b : Nat} {w : List (Int32 × Int32)} (hc : (c = 2 ∧ a = o + 2 ∧ b = o + 3) ∨ (c = 5 ∧ a = o + 4 ∧ b = o + 5)) (h : ∀ k j, cIn o k j → (k = o ∧ j = c) ∨ k = a ∨ k = b → I' k j = I k j) (g : cRow o c a b I w) : cRow o c a b I' w := by
  obtain ⟨⟨g1, g2⟩, g3⟩ := g
  refine ⟨⟨by rw [h o c (Or.inl ⟨rfl, by omega⟩) (Or.inl ⟨rfl, rfl⟩)]; exact g1, g2⟩, fun i p q => ?_⟩
  have hi : i < w.length := (List.getElem?_eq_some_iff.mp q).1
  rw [h a i (Or.inr (Or.inl ⟨by omega, by omega, by omega⟩)) (Or.inr (Or.inl rfl)), h b i (Or.inr (Or.inl ⟨by omega, by omega, by omega⟩)) (Or.inr (Or.inr rfl))]
  exact g3 i p q
theorem cPrg_cg {k : Nat} {w : aLw} {v : pC} (h1 : cCd o I' = cCd o I ++ v) (h2 : I' (o + 9) k = I (o + 9) k) (g : cPrg o I k w) : cPrg o I' k w := by
  obtain ⟨pre, suf, e1, e2⟩ := g
  exact ⟨pre, suf ++ v, by rw [h1, e1, List.append_assoc, List.append_assoc], by rw [h2]; exact e2⟩
theorem cDt_em {v : pC} (h : cEm o I I' v) (g : cDt o I A) : cDt o I' A := by
  obtain ⟨g1, g2, g3, g4⟩ := g
  exact ⟨cRow_cg (Or.inl ⟨rfl, rfl, rfl⟩) (fun k j q _ => h.2 k j q) g1, cRow_cg (Or.inr ⟨rfl, rfl, rfl⟩) (fun k j q _ => h.2 k j q) g2, fun j a b => by rw [h.2 o j (Or.inl ⟨rfl, by omega⟩)]; exact g3 j a b, fun k hk => cPrg_cg h.1 (h.2 (o + 9) k (Or.inr (Or.inr ⟨rfl, hk⟩))) (g4 k hk)⟩
theorem cRow_add {c a b : Nat} {w : List (Int32 × Int32)} {x v : Int32} (hc : (c = 2 ∧ a = o + 2 ∧ b = o + 3) ∨ (c = 5 ∧ a = o + 4 ∧ b = o + 5)) (h : cSd o a b c I I' x v) (g : cRow o c a b I w) (hw : w.length < 6) : cRow o c a b I' (w ++ [(x, v)]) := by
  obtain ⟨-, ⟨h2, h3, h4⟩, -⟩ := h
  obtain ⟨⟨g1, g2⟩, g3⟩ := g
  have en : (I o c).toInt.toNat = w.length := by omega
  rw [en] at h3 h4
  refine ⟨⟨by rw [h2, g1, List.length_append, List.length_singleton]; omega, by rw [List.length_append, List.length_singleton]; omega⟩, fun i p q => ?_⟩
  have hi : i < (w ++ [(x, v)]).length := (List.getElem?_eq_some_iff.mp q).1
  rw [List.length_append, List.length_singleton] at hi
  rw [h3 i (by omega), h4 i (by omega)]
  by_cases e : i = w.length
  · rw [if_pos e, if_pos e]
    rw [e, List.getElem?_append_right (Nat.le_refl _), Nat.sub_self] at q
    have q : some (x, v) = some p := q
    injection q with q
    rw [← q]
    exact ⟨rfl, rfl⟩
  · rw [if_neg e, if_neg e]
    rw [List.getElem?_append_left (by omega)] at q
    exact g3 i p q
theorem cDt_th {x v : Int32} (h : cSd o (o + 2) (o + 3) 2 I I' x v) (g : cDt o I A) (hw : A.1.length < 6) : cDt o I' (A.1 ++ [(x, v)], A.2) := by
  obtain ⟨g1, g2, g3, g4⟩ := g
  have h5 := h.2.2
  have e1 : cCd o I' = cCd o I ++ [] := by rw [List.append_nil]; exact h.1
  exact ⟨cRow_add (Or.inl ⟨rfl, rfl, rfl⟩) h g1 hw, cRow_cg (Or.inr ⟨rfl, rfl, rfl⟩) (fun k j q w => h5 k j q (by omega) (by omega) (by omega)) g2, fun j a b => by rw [h5 o j (Or.inl ⟨rfl, by omega⟩) (by omega) (by omega) (by omega)]; exact g3 j a b, fun k hk => cPrg_cg e1 (h5 (o + 9) k (Or.inr (Or.inr ⟨rfl, hk⟩)) (by omega) (by omega) (by omega)) (g4 k hk)⟩
theorem cDt_se {x v : Int32} (h : cSd o (o + 4) (o + 5) 5 I I' x v) (g : cDt o I A) (hw : A.2.1.length < 6) : cDt o I' (A.1, A.2.1 ++ [(x, v)], A.2.2) := by
  obtain ⟨g1, g2, g3, g4⟩ := g
  have h5 := h.2.2
  have e1 : cCd o I' = cCd o I ++ [] := by rw [List.append_nil]; exact h.1
  exact ⟨cRow_cg (Or.inl ⟨rfl, rfl, rfl⟩) (fun k j q w => h5 k j q (by omega) (by omega) (by omega)) g1, cRow_add (Or.inr ⟨rfl, rfl, rfl⟩) h g2 hw, fun j a b => by rw [h5 o j (Or.inl ⟨rfl, by omega⟩) (by omega) (by omega) (by omega)]; exact g3 j a b, fun k hk => cPrg_cg e1 (h5 (o + 9) k (Or.inr (Or.inr ⟨rfl, hk⟩)) (by omega) (by omega) (by omega)) (g4 k hk)⟩
theorem cDt_sg {n : Nat} {v : Int32} (hn : 8 ≤ n ∧ n ≤ 11) (h : cSg o n I I' v) (g : cDt o I A) : cDt o I' (A.1, A.2.1, (fun j => if j = n then v else A.2.2.1 j), A.2.2.2) := by
  obtain ⟨g1, g2, g3, g4⟩ := g
  obtain ⟨h1, h2, h5⟩ := h
  have e1 : cCd o I' = cCd o I ++ [] := by rw [List.append_nil]; exact h1
  refine ⟨cRow_cg (Or.inl ⟨rfl, rfl, rfl⟩) (fun k j q w => h5 k j q (by omega)) g1, cRow_cg (Or.inr ⟨rfl, rfl, rfl⟩) (fun k j q w => h5 k j q (by omega)) g2, fun j a b => ?_, fun k hk => cPrg_cg e1 (h5 (o + 9) k (Or.inr (Or.inr ⟨rfl, hk⟩)) (by omega)) (g4 k hk)⟩
  show I' o j = if j = n then v else A.2.2.1 j
  by_cases e : j = n
  · rw [if_pos e, e]; exact h2
  · rw [if_neg e, h5 o j (Or.inl ⟨rfl, by omega⟩) (fun w => e w.2)]
    exact g3 j a b
theorem cDt_lg {n : Nat} {w : aLw} (hn : n < 5) (h0 : 0 ≤ (I (o + 6) 2).toInt) (h : cLg o n I I' (cmpl (I (o + 6) 2).toInt.toNat w.1 w.2)) (g : cDt o I A) : cDt o I' (A.1, A.2.1, A.2.2.1, fun k => if k = n then w else A.2.2.2 k) := by
  obtain ⟨g1, g2, g3, g4⟩ := g
  obtain ⟨h1, h2, h5⟩ := h
  refine ⟨cRow_cg (Or.inl ⟨rfl, rfl, rfl⟩) (fun k j q w => h5 k j q (by omega)) g1, cRow_cg (Or.inr ⟨rfl, rfl, rfl⟩) (fun k j q w => h5 k j q (by omega)) g2, fun j a b => by rw [h5 o j (Or.inl ⟨rfl, by omega⟩) (by omega)]; exact g3 j a b, fun k hk => ?_⟩
  show cPrg o I' k (if k = n then w else A.2.2.2 k)
  by_cases e : k = n
  · rw [if_pos e, e]
    refine ⟨cCd o I, [], ?_, ?_⟩
    · rw [h1, cCd_len, List.append_nil]
    · rw [h2, cCd_len]
      exact i_nat (by omega)
  · rw [if_neg e]
    exact cPrg_cg h1 (h5 (o + 9) k (Or.inr (Or.inr ⟨rfl, hk⟩)) (fun w => e w.2)) (g4 k hk)
end
end
