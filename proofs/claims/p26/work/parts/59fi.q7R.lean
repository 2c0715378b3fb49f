/-! ===== clash: the reference's ===== -/
def sgL (A : aD) (f : Nat → Int32) (b c : Nat) : Int32 := if spL A f b c = -1 then -2 else spL A f b c
theorem spL_b {A : aD} {f : Nat → Int32} {b c : Nat} (h : ¬ spL A f b c = -1) : 0 ≤ (spL A f b c).toInt := by
  unfold spL at h ⊢
  split
  · rename_i q
    rw [if_pos q] at h
    exact absurd rfl h
  · rename_i q
    rw [if_neg q] at h
    exact (pSp_b h).1
theorem sgL_z {A : aD} {f : Nat → Int32} {b c : Nat} (h : f (24 + (6 * b + c)) = 0) : sgL A f b c = -2 := by
  unfold sgL spL
  rw [if_pos h, if_pos rfl]
theorem sgL_s {A : aD} {f : Nat → Int32} {b c : Nat} (h : ¬ f (24 + (6 * b + c)) = 0) : sgL A f b c = pSight A (f 96) (f b) c := by
  unfold sgL spL pSight
  rw [if_neg h]
section
variable {l : Launch} {G : qG} {d : Nat} {I : qMI} {L : qML} {R : qMR} {v n : Nat} {A : aD} {f : Nat → Int32} {h sl : Nat → Nat → Int32}
theorem uDoJ (hR : wkR R) (hL : rHas v I A) (hA : aOk A) (hf : fOk A f) (hs : rEq I 324 f) {Q : qQ} {x y t : Int32} {a b i : Nat} (hy : y.toInt = b) (hB : b < A.2.1.length) (ht : t.toInt = i) : ∀ (m j : Nat) (u : Int32) (J : qMI), j + m = A.1.length → u.toInt = j → rW I J → (clJ A f a b i m j = true → ∀ J' : qMI, rW I J' → Q (some (.int 1)) 336 J' L R) → (∀ (u' : Int32) (J' : qMI), rW I J' → clJ A f a b i m j = false → wkB l G (d + 7 + 1) n_X9_doClash Q 135 [.ref 292, .int x, .int y, .int t, .int (sgL A f a i), .int u'] [] J' L R) → wkB l G (d + 7 + 1) n_X9_doClash Q 60 [.ref 292, .int x, .int y, .int t, .int (sgL A f a i), .int u] [] J L R := by
  have n6 := hA.1
  have hv := hL.1.1
  have z0 : (0 : Int32).toInt = 0 := rfl
  intro m
  induction m with
  | zero =>
    intro j u J hn hu hJ k1 k2
    have hLJ := rHas_q hJ hL
    have h18' := hLJ.1.2
    have cl : (J 292 18).toNatClampNeg = v := by rw [tcn]; omega
    have hn2 := (rHas_n hLJ).1.1
    exact w_X9_doClash_60 hR (vin (by omega) (by omega)) (fun _ => k2 u J hJ rfl) (fun q => absurd (i_le.mpr (by rw [cl]; omega)) q)
  | succ m ih =>
    intro j u J hn hu hJ k1 k2
    have hLJ := rHas_q hJ hL
    have h18' := hLJ.1.2
    have cl : (J 292 18).toNatClampNeg = v := by rw [tcn]; omega
    have hn2 := (rHas_n hLJ).1.1
    have u1 : (u + 1).toInt = ((j + 1 : Nat) : Int) := by rw [i_s (by omega)]; omega
    have la := ln_t hy hu (by omega) (by omega)
    have c24 : ((24 + (6 * y)) + u).toNatClampNeg = 24 + (6 * b + j) := by rw [tcn]; omega
    have cy : y.toNatClampNeg = b := by rw [tcn]; omega
    have e2 := rEq_w hJ hs
    have lb := (hf.2.2.1 (6 * b + j) (by omega)).1
    have skip : ∀ K : qMI, rW I K → ¬ clP A f a b i j → wkB l G (d + 7 + 1) n_X9_doClash Q 129 [.ref 292, .int x, .int y, .int t, .int (sgL A f a i), .int u] [] K L R := fun K jk c => w_X9_doClash_129 (ih (j + 1) _ K (by omega) u1 jk (fun z => k1 (by rw [clJ, if_neg c]; exact z)) (fun u' J' j' z => k2 u' J' j' (by rw [clJ, if_neg c]; exact z)))
    refine w_X9_doClash_60 hR (vin (by omega) (by omega)) (fun q => absurd (i_le.mp q) (by rw [cl]; omega)) (fun _ => ?_)
    by_cases sa : spL A f a i = -1
    · have es : sgL A f a i = -2 := by unfold sgL; rw [if_pos sa]
      rw [es] at k2 ⊢
      exact w_X9_doClash_74 (fun _ => k2 u J hJ (clJ_n sa _ _)) (fun q => absurd (by decide) q)
    · have es : sgL A f a i = spL A f a i := by unfold sgL; rw [if_neg sa]
      have s0 := spL_b sa
      refine w_X9_doClash_74 (fun q => absurd (i_lt.mp q) (by rw [es, z0]; omega)) (fun _ => w_X9_doClash_79 (fun q2 => skip J hJ (fun z => z.1 ?_)) (fun q2 => w_X9_doClash_85 hR (vin (by omega) (by omega)) (fun q3 => skip J hJ (fun z => ?_)) (fun q3 => w_X9_doClash_103 hR (vin (by omega) (by omega)) (vin (by decide) (by decide)) (P := fun z I' L' => L' = L ∧ rW J I' ∧ z = pSight A (f 96) (f b) j) (by rw [cy, show (96 : Int32).toNatClampNeg = 96 from rfl, e2 96 (by omega), e2 b (by omega)]; exact uSightOf (d := d) hR hLJ (hf.1 b (by omega)) hu (by omega) (hA.2.1 j (by omega))) (fun z I3 L3 hq => ?_))))
      · have := congrArg Int32.toInt q2
        omega
      · rw [c24, e2 _ (by omega)] at q3
        have f0 := (le0 lb).mp q3
        have : spL A f b j = -1 := by unfold spL; rw [if_pos f0]
        exact sa (z.2.2.symm.trans this)
      · obtain ⟨rfl, f1, rfl⟩ := hq
        rw [c24, e2 _ (by omega)] at q3
        have f0 : ¬ f (24 + (6 * b + j)) = 0 := fun z => q3 ((le0 lb).mpr z)
        have j1 := rW_tr hJ f1
        rw [← sgL_s f0]
        have key : sgL A f b j = sgL A f a i ↔ spL A f b j = spL A f a i := by
          rw [es]
          unfold sgL
          split
          · rename_i c
            rw [c]
            exact ⟨fun z => by rw [← z] at s0; exact absurd s0 (by decide), fun z => absurd z.symm sa⟩
          · exact Iff.rfl
        refine w_X9_doClash_122 (fun q4 => skip I3 j1 (fun z => q4 (key.mpr z.2.2))) (fun q4 => w_X9_doClash_127 (k1 ?_ I3 j1))
        rw [clJ, if_pos ⟨fun z => q2 (i_eq.mpr (by rw [hu, ht, z])), sa, key.mp q4⟩]
theorem uDoI (hR : wkR R) (hL : rHas v I A) (hA : aOk A) (hf : fOk A f) (hs : rEq I 324 f) {Q : qQ} {x y : Int32} {a b : Nat} (hx : x.toInt = a) (hA1 : a < A.2.1.length) (hy : y.toInt = b) (hB : b < A.2.1.length) : ∀ (m i : Nat) (t : Int32) (J : qMI), i + m = A.1.length → t.toInt = i → rW I J → (∀ J' : qMI, rW I J' → Q (some (.int (if clI A f a b m i = true then 1 else 0))) 336 J' L R) → wkB l G (d + 7 + 1) n_X9_doClash Q 2 [.ref 292, .int x, .int y, .int t, wkU, wkU] [] J L R := by
  have n6 := hA.1
  have hv := hL.1.1
  intro m
  induction m with
  | zero =>
    intro i t J hn ht hJ k
    have hLJ := rHas_q hJ hL
    have h18' := hLJ.1.2
    have cl : (J 292 18).toNatClampNeg = v := by rw [tcn]; omega
    have hn2 := (rHas_n hLJ).1.1
    exact w_X9_doClash_2 hR (vin (by omega) (by omega)) (fun _ => w_X9_doClash_141 (k J hJ)) (fun q => absurd (i_le.mpr (by rw [cl]; omega)) q)
  | succ m ih =>
    intro i t J hn ht hJ k
    have hLJ := rHas_q hJ hL
    have h18' := hLJ.1.2
    have cl : (J 292 18).toNatClampNeg = v := by rw [tcn]; omega
    have hn2 := (rHas_n hLJ).1.1
    have t1 : (t + 1).toInt = ((i + 1 : Nat) : Int) := by rw [i_s (by omega)]; omega
    have la := ln_t hx ht (by omega) (by omega)
    have c24 : ((24 + (6 * x)) + t).toNatClampNeg = 24 + (6 * a + i) := by rw [tcn]; omega
    have cx : x.toNatClampNeg = a := by rw [tcn]; omega
    have e2 := rEq_w hJ hs
    have lb := (hf.2.2.1 (6 * a + i) (by omega)).1
    have go : ∀ K : qMI, rW I K → wkB l G (d + 7 + 1) n_X9_doClash Q 55 [.ref 292, .int x, .int y, .int t, wkU, wkU] [.int (sgL A f a i)] K L R := fun K jk => by
      refine w_X9_doClash_55 (uDoJ (d := d) hR hL hA hf hs hy hB ht A.1.length 0 0 K (by omega) rfl jk (fun z J' j' => ?_) (fun u' J' j' z => w_X9_doClash_135 (ih (i + 1) _ J' (by omega) t1 j' (fun J2 j2 => ?_))))
      · have := k J' j'
        rw [clI_t z] at this
        exact this
      · have := k J2 j2
        rw [clI_f z] at this
        exact this
    refine w_X9_doClash_2 hR (vin (by omega) (by omega)) (fun q => absurd (i_le.mp q) (by rw [cl]; omega)) (fun _ => w_X9_doClash_15 hR (vin (by omega) (by omega)) (fun q => w_X9_doClash_53 ?_) (fun q => w_X9_doClash_32 hR (vin (by omega) (by omega)) (vin (by decide) (by decide)) (P := fun z I' L' => L' = L ∧ rW J I' ∧ z = pSight A (f 96) (f a) i) (by rw [cx, show (96 : Int32).toNatClampNeg = 96 from rfl, e2 96 (by omega), e2 a (by omega)]; exact uSightOf (d := d) hR hLJ (hf.1 a (by omega)) ht (by omega) (hA.2.1 i (by omega))) (fun z I3 L3 hq => ?_)))
    · rw [c24, e2 _ (by omega)] at q
      have := go J hJ
      rw [sgL_z ((le0 lb).mp q)] at this
      exact this
    · obtain ⟨rfl, f1, rfl⟩ := hq
      rw [c24, e2 _ (by omega)] at q
      have := go I3 (rW_tr hJ f1)
      rw [sgL_s (fun z => q ((le0 lb).mpr z))] at this
      exact w_X9_doClash_50 this
theorem uDo (hR : wkR R) (hL : rHas v I A) (hA : aOk A) (hf : fOk A f) (hs : rEq I 324 f) {x y : Int32} {a b : Nat} (hx : x.toInt = a) (hA1 : a < A.2.1.length) (hy : y.toInt = b) (hB : b < A.2.1.length) : wkI l G (d + 8) n_X9_doClash [.ref 292, .int x, .int y] I L R (fun z I' L' => L' = L ∧ rW I I' ∧ z = if clB A f a b = true then 1 else 0) :=
  wkC_of 3 (by decide) (Nat.le_of_ble_eq_true rfl) (w_X9_doClash_0 (uDoI (d := d) hR hL hA hf hs hx hA1 hy hB A.1.length 0 0 I (by omega) rfl (rW_rf I) (fun J' j => ⟨rfl, rfl, _, rfl, rfl, j, rfl⟩)))
/-- pairs so far, and the first -/
def clK (N : Nat) (c : Int32 × Int32) : Prop := (c.1 = 0 ∧ c.2 = -2) ∨ (0 < c.1.toInt ∧ c.1.toInt ≤ N ∧ 0 ≤ c.2.toInt)
theorem uClB (hR : wkR R) (hL : rHas v I A) (hA : aOk A) (hf : fOk A f) (hs : rEq I 324 f) {Q : qQ} {w s : Int32} {a : Nat} (hx : s.toInt = a) (hA1 : a < A.2.1.length) : ∀ (m b : Nat) (y : Int32) (c : Int32 × Int32) (J : qMI), b + m = A.2.1.length → y.toInt = b → clK (20 * a + b) c → rW I J → (∀ (y' : Int32) (J' : qMI), rW I J' → clK (20 * a + 6) (qCp A f a s m b y c) → wkB l G (d + 8 + 1) n_X9_clash Q 93 [.ref 292, .int w, .int (qCp A f a s m b y c).1, .int (qCp A f a s m b y c).2, .int s, .int y'] [] J' L R) → wkB l G (d + 8 + 1) n_X9_clash Q 43 [.ref 292, .int w, .int c.1, .int c.2, .int s, .int y] [] J L R := by
  have n6 := hA.1
  have hv := hL.1.1
  have z0 : (0 : Int32).toInt = 0 := rfl
  have z2 : (-2 : Int32).toInt = -2 := rfl
  have z10 : (10 : Int32).toInt = 10 := rfl
  intro m
  induction m with
  | zero =>
    intro b y c J hn hy hc hJ k
    have hLJ := rHas_q hJ hL
    have h18' := hLJ.1.2
    have cl : (J 292 18).toNatClampNeg = v := by rw [tcn]; omega
    have hn2 := (rHas_n hLJ).2.1
    refine w_X9_clash_43 hR (vin (by omega) (by omega)) (fun _ => k y J hJ ?_) (fun q => absurd (i_le.mpr (by rw [cl]; omega)) q)
    rw [qCp]
    rcases hc with hc | ⟨c1, c2, c3⟩
    · exact Or.inl hc
    · exact Or.inr ⟨c1, by omega, c3⟩
  | succ m ih =>
    intro b y c J hn hy hc hJ k
    have hLJ := rHas_q hJ hL
    have h18' := hLJ.1.2
    have cl : (J 292 18).toNatClampNeg = v := by rw [tcn]; omega
    have hn2 := (rHas_n hLJ).2.1
    have y1 : (y + 1).toInt = ((b + 1 : Nat) : Int) := by rw [i_s (by omega)]; omega
    refine w_X9_clash_43 hR (vin (by omega) (by omega)) (fun q => absurd (i_le.mp q) (by rw [cl]; omega)) (fun _ => w_X9_clash_57 (uDo (d := d) hR hLJ hA hf (rEq_w hJ hs) hx hA1 hy (by omega)) (fun z I3 L3 hq => ?_))
    obtain ⟨rfl, f1, rfl⟩ := hq
    have j1 := rW_tr hJ f1
    refine w_X9_clash_65 (fun q => ?_) (fun q => w_X9_clash_68 (w_X9_clash_87 (ih (b + 1) _ c _ (by omega) y1 ?_ j1 ?_)))
    · have cb := if1.2 q
      rw [qCp, if_pos cb] at k
      have e10 : (10 * s + y).toInt = 10 * a + b := by
        have m10 : (10 * s).toInt = 10 * a := by rw [i_mul (by rw [z10]; omega) (by rw [z10]; omega), z10, hx]
        rw [i_add (by omega) (by omega), m10, hy]
      have c11 : c.1 = 0 → (c.1 + 1).toInt = 1 := fun z => by rw [z]; rfl
      rcases hc with ⟨c1, c2⟩ | ⟨c1, c2, c3⟩
      · refine w_X9_clash_71 (fun q2 => absurd (i_le.mp q2) (by rw [c2, z2, z0]; omega)) (fun _ => w_X9_clash_78 (w_X9_clash_87 ?_))
        have := ih (b + 1) (y + 1) (c.1 + 1, (10 * s) + y) I3 (by omega) y1 (Or.inr ⟨by show 0 < (c.1 + 1).toInt; rw [c11 c1]; omega, by show (c.1 + 1).toInt ≤ _; rw [c11 c1]; omega, by show 0 ≤ (10 * s + y).toInt; omega⟩) j1
        rw [if_pos c1] at k
        exact this k
      · have n0 : ¬ c.1 = 0 := fun z => by rw [z, z0] at c1; omega
        have e1 : (c.1 + 1).toInt = c.1.toInt + 1 := i_s (by omega)
        refine w_X9_clash_71 (fun _ => w_X9_clash_87 ?_) (fun q2 => absurd (i_le.mpr (by rw [z0]; exact c3)) q2)
        have := ih (b + 1) (y + 1) (c.1 + 1, c.2) I3 (by omega) y1 (Or.inr ⟨by show 0 < (c.1 + 1).toInt; omega, by show (c.1 + 1).toInt ≤ _; omega, c3⟩) j1
        rw [if_neg n0] at k
        exact this k
    · rcases hc with hc | ⟨c1, c2, c3⟩
      · exact Or.inl hc
      · exact Or.inr ⟨c1, by omega, c3⟩
    · rw [qCp, if_neg (if1.1 q)] at k
      exact k
theorem uClA (hR : wkR R) (hL : rHas v I A) (hA : aOk A) (hf : fOk A f) (hs : rEq I 324 f) {Q : qQ} {w : Int32} : ∀ (m a : Nat) (s : Int32) (c : Int32 × Int32) (J : qMI), a + m = A.2.1.length → s.toInt = a → clK (20 * a) c → rW I J → (∀ J' : qMI, rW I J' → Q (some (.int (if w = 0 then (qCq A f m a s c).1 else (qCq A f m a s c).2))) 336 J' L R) → wkB l G (d + 8 + 1) n_X9_clash Q 23 [.ref 292, .int w, .int c.1, .int c.2, .int s, wkU] [] J L R := by
  have n6 := hA.1
  have hv := hL.1.1
  intro m
  induction m with
  | zero =>
    intro a s c J hn hy hc hJ q0
    have hLJ := rHas_q hJ hL
    have h18' := hLJ.1.2
    have cl : (J 292 18).toNatClampNeg = v := by rw [tcn]; omega
    have hn2 := (rHas_n hLJ).2.1
    have k := q0 J hJ
    rw [qCq] at k
    refine w_X9_clash_23 hR (vin (by omega) (by omega)) (fun _ => w_X9_clash_99 (fun q => w_X9_clash_107 (w_X9_clash_108 ?_)) (fun q => w_X9_clash_103 (w_X9_clash_108 ?_))) (fun q => absurd (i_le.mpr (by rw [cl]; omega)) q)
    · rw [if_neg q] at k
      exact k
    · rw [if_pos q] at k
      exact k
  | succ m ih =>
    intro a s c J hn hy hc hJ q0
    have hLJ := rHas_q hJ hL
    have h18' := hLJ.1.2
    have cl : (J 292 18).toNatClampNeg = v := by rw [tcn]; omega
    have hn2 := (rHas_n hLJ).2.1
    have s1 : (s + 1).toInt = ((a + 1 : Nat) : Int) := by rw [i_s (by omega)]; omega
    refine w_X9_clash_23 hR (vin (by omega) (by omega)) (fun q => absurd (i_le.mp q) (by rw [cl]; omega)) (fun _ => w_X9_clash_37 (uClB (d := d) hR hL hA hf hs hy (by omega) m (a + 1) (s + 1) c J (by omega) s1 ?_ hJ (fun y' J' j c' => w_X9_clash_93 (ih (a + 1) _ _ J' (by omega) s1 ?_ j (fun J2 j2 => ?_)))))
    · rcases hc with hc | ⟨c1, c2, c3⟩
      · exact Or.inl hc
      · exact Or.inr ⟨c1, by omega, c3⟩
    · rcases c' with hc | ⟨c1, c2, c3⟩
      · exact Or.inl hc
      · exact Or.inr ⟨c1, by omega, c3⟩
    · have := q0 J2 j2
      rw [qCq] at this
      exact this
theorem uClash (hR : wkR R) (hs : rS v A f n h sl I) (hA : aOk A) (hf : fOk A f) {w : Int32} : wkI l G (d + 9) n_X9_clash [.ref 292, .int w] I L R (fun z I' L' => L' = L ∧ z = qClash A f w ∧ rS v A f n h sl I' ∧ rMf I I') := by
  obtain ⟨hL, s1, s2, s3⟩ := id hs
  refine wkC_of 4 (by decide) (Nat.le_of_ble_eq_true rfl) (w_X9_clash_0 (uIn (d := d + 7)) (fun z I1 L1 hq => ?_))
  obtain ⟨rfl, rfl, rfl⟩ := hq
  refine w_X9_clash_6 (fun q => ?_) (fun q => w_X9_clash_9 ⟨rfl, rfl, _, rfl, rfl, ?_, hs, rMf_rf _⟩)
  · have c0 := if1.2 q
    rw [show (0 : Int32).toInt = 0 from rfl, show (1 : Int32).toInt = 1 from rfl] at c0
    refine w_X9_clash_11 (uCopies (d := d + 7) hR hL s1) (fun I2 L2 hq => ?_)
    obtain ⟨rfl, f2, g2, -, e2⟩ := hq
    have hs2 := rS_cp hs f2 g2
    refine w_X9_clash_15 (uClA (d := d) hR hs2.1 hA hf e2 A.2.1.length 0 0 (0, -2) I2 (by omega) rfl (Or.inl ⟨rfl, rfl⟩) (rW_rf I2) (fun J' j => ⟨rfl, rfl, _, rfl, rfl, ?_, rS_g hs2 (rFg_w j), rMf_tr (rMf_cp g2) (rMf_g (rFg_w j))⟩))
    unfold qClash
    rw [if_neg (show ¬ ¬ (0 ≤ w.toInt ∧ w.toInt ≤ 1) from fun z => z c0)]
  · have c0 := if1.1 q
    rw [show (0 : Int32).toInt = 0 from rfl, show (1 : Int32).toInt = 1 from rfl] at c0
    unfold qClash
    rw [if_pos c0]
end
