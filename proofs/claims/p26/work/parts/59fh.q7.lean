/-! ===== clash: purely; the class's ===== -/
/-- where a loan's thing is seen from its seat: -1 where none is lent or it isn't seen -/
def spL (A : aD) (f : Nat → Int32) (b c : Nat) : Int32 := if f (24 + (6 * b + c)) = 0 then -1 else pSp A (f 96) (pHt A (f 96)) (f b) (tX A c) (tT A c)
abbrev clP (A : aD) (f : Nat → Int32) (a b i j : Nat) : Prop := ¬ j = i ∧ ¬ spL A f a i = -1 ∧ spL A f b j = spL A f a i
def clJ (A : aD) (f : Nat → Int32) (a b i : Nat) : Nat → Nat → Bool
  | 0, _ => false
  | m + 1, j => if clP A f a b i j then true else clJ A f a b i m (j + 1)
def clI (A : aD) (f : Nat → Int32) (a b : Nat) : Nat → Nat → Bool
  | 0, _ => false
  | m + 1, i => if clJ A f a b i A.1.length 0 = true then true else clI A f a b m (i + 1)
def clB (A : aD) (f : Nat → Int32) (a b : Nat) : Bool := clI A f a b A.1.length 0
theorem clJ_n {A : aD} {f : Nat → Int32} {a b i : Nat} (h : spL A f a i = -1) : ∀ (m j : Nat), clJ A f a b i m j = false
  | 0, _ => rfl
  | m + 1, j => by rw [clJ, if_neg (fun z => z.2.1 h), clJ_n h m (j + 1)]
theorem clI_f {A : aD} {f : Nat → Int32} {a b i m : Nat} (h : clJ A f a b i A.1.length 0 = false) : clI A f a b (m + 1) i = clI A f a b m (i + 1) := by
  rw [clI, if_neg (by rw [h]; decide)]
theorem clI_t {A : aD} {f : Nat → Int32} {a b i m : Nat} (h : clJ A f a b i A.1.length 0 = true) : clI A f a b (m + 1) i = true := by
  rw [clI, if_pos h]
def qCp (A : aD) (f : Nat → Int32) (a : Nat) (s : Int32) : Nat → Nat → Int32 → Int32 × Int32 → Int32 × Int32
  | 0, _, _, c => c
  | m + 1, b, y, c => qCp A f a s m (b + 1) (y + 1) (if clB A f a b = true then (c.1 + 1, if c.1 = 0 then (10 * s) + y else c.2) else c)
def qCq (A : aD) (f : Nat → Int32) : Nat → Nat → Int32 → Int32 × Int32 → Int32 × Int32
  | 0, _, _, c => c
  | m + 1, a, s, c => qCq A f m (a + 1) (s + 1) (qCp A f a s m (a + 1) (s + 1) c)
def qClash (A : aD) (f : Nat → Int32) (w : Int32) : Int32 :=
  if ¬ (0 ≤ w.toInt ∧ w.toInt ≤ 1) then -1
  else if w = 0 then (qCq A f A.2.1.length 0 0 (0, -2)).1 else (qCq A f A.2.1.length 0 0 (0, -2)).2
section
variable {l : Launch} {G : qG} {d : Nat} {I : qMI} {L : qML} {R : qMR} {o n : Nat} {A : aD} {f : Nat → Int32} {h sl : Nat → Nat → Int32}
/-- what finding the spots leaves alone -/
def cQ6 (o : Nat) (I J : qMI) : Prop := ∀ k, k ≠ o + 10 → k ≠ o + 11 → k ≠ 256 → J k = I k
theorem cQ6_tr {I J K : qMI} (h : cQ6 o I J) (g : cQ6 o J K) : cQ6 o I K := fun k a b c => (g k a b c).trans (h k a b c)
theorem cQ6_q {I J : qMI} (h : cQ o I J) : cQ6 o I J := fun k a b _ => h k a b
theorem cS_q6 {J : qMI} (s : cS o A f n h sl I R) (e : cQ6 o I J) : cS o A f n h sl J R := by
  have ho := s.1.1.1
  exact cS_of s (fun k a => e k (by omega) (by omega) (by omega))
theorem sFindT (hs : cS o A f n h sl I R) (r9 : R 0 9 = some 256) {Q : qQ} {w s : Int32} {a : Nat} (ha : s.toInt = a) (hA : a < A.2.1.length) (hw : w = pHt A (f 96)) : ∀ (m e : Nat) (y : Int32) (J : qMI), e + m = A.1.length → y.toInt = e → cQ6 o I J → (∀ (y' : Int32) (J' : qMI), cQ6 o I J' → (∀ k, (k < 6 * a + e ∨ 6 * a + 6 ≤ k) → J' 256 k = J 256 k) → (∀ c, e ≤ c → c < A.1.length → J' 256 (6 * a + c) = spL A f a c) → wkB l G (d + 5 + 1) n_X8_findSpotsLentOn Q 103 [.ref 0, .int w, .int s, .int y', wkU] [] J' L R) → wkB l G (d + 5 + 1) n_X8_findSpotsLentOn Q 30 [.ref 0, .int w, .int s, .int y, wkU] [] J L R := by
  have hR := hs.1.2.1
  have h12 := hs.1.2.2
  have ho := hs.1.1.1
  have rb := hR.2.2.2.2 21 bNow
  intro m
  induction m with
  | zero =>
    intro e y J hn hy hJ q0
    have hsJ := cS_q6 hs hJ
    have hn2 := (cHas_n hsJ.1.1).1.1
    exact w_X8_findSpotsLentOn_30 ho h12 (fun _ => q0 y J hJ (fun _ _ => rfl) (fun c a b => by omega)) (fun q => absurd (i_le.mpr (by omega)) q)
  | succ m ih =>
    intro e y J hn hy hJ q0
    have hsJ := cS_q6 hs hJ
    have hLJ := hsJ.1.1
    have hn2 := (cHas_n hLJ).1
    have hn3 := (cHas_n hLJ).2.2
    have y1 : (y + 1).toInt = ((e + 1 : Nat) : Int) := by rw [i_s (by omega)]; omega
    have la := loan_t ha hy (by omega) (by omega)
    have ca : (s * 6 + y).toNatClampNeg = 6 * a + e := by rw [tcn]; omega
    have v36 : vp_in (s * 6 + y) 36 := vin (by omega) (by omega)
    have cs : s.toNatClampNeg = a := by rw [tcn]; omega
    have e0 : J 21 0 = f 96 := sEq_at hsJ.2.1 (by omega) sI0
    have e1 : J 22 s.toNatClampNeg = f a := by rw [cs]; exact sEq_at hsJ.2.1 (by omega) (sI1 (by omega))
    have el : J 26 (6 * a + e) = f (24 + (6 * a + e)) := sEq_at hsJ.2.1 (by omega) (sI5 (by omega))
    have fin : ∀ (K : qMI) (z : Int32), cQ6 o J K → K 256 = J 256 → z = spL A f a e → wkB l G (d + 5 + 1) n_X8_findSpotsLentOn Q 96 [.ref 0, .int w, .int s, .int y, .int (s * 6 + y)] [.int z, .int (s * 6 + y), .ref 256] K L R := fun K z jk e256 ez => by
      refine w_X8_findSpotsLentOn_96 v36 (ih (e + 1) _ _ (by omega) y1 (cQ6_tr hJ (cQ6_tr jk (fun k _ _ c => qUp_ro c))) (fun y' J' j g1 g2 => q0 y' J' j (fun k hk => ?_) (fun c c1 c2 => ?_)))
      · rw [g1 k (by omega), qUp_row, e256]
        unfold tU
        rw [if_neg (by rw [ca]; omega)]
      · by_cases ec : c = e
        · subst ec
          rw [g1 _ (by omega), qUp_row]
          unfold tU
          rw [if_pos ca.symm, ez]
        · exact g2 c (by omega) c2
    refine w_X8_findSpotsLentOn_30 ho h12 (fun q => absurd (i_le.mp q) (by omega)) (fun _ => w_X8_findSpotsLentOn_41 (sLoanOf (d := d + 4)) (fun z I1 L1 R1 hq => ?_))
    obtain ⟨rfl, rfl, rfl, rfl⟩ := hq
    refine w_X8_findSpotsLentOn_46 r9 hR.1.1 (rb 5 (by decide) (by decide)) v36 (fun q => w_X8_findSpotsLentOn_71 ho h12 hR.1.1 (rb 1 (by decide) (by decide)) (vin (by omega) (by omega)) hR.1.1 (P := fun z I' L' R' => R' = R1 ∧ L' = L1 ∧ cQ o I1 I' ∧ z = pSp A (f 96) w (f a) (tX A e) (tT A e)) (by rw [e1, e0]; exact sSpotFrom (d := d) hLJ hy (by omega)) (fun z I2 L2 R2 hq => ?_)) (fun q => w_X8_findSpotsLentOn_67 (fin _ _ (fun _ _ _ _ => rfl) rfl ?_))
    · obtain ⟨rfl, rfl, f2, rfl⟩ := hq
      refine fin _ _ (cQ6_q f2) (f2 256 (by omega) (by omega)) ?_
      rw [ca, el] at q
      unfold spL
      rw [if_neg q, hw]
    · rw [ca, el] at q
      unfold spL
      rw [if_pos q]
theorem sFindL (hs : cS o A f n h sl I R) (r9 : R 0 9 = some 256) {Q : qQ} {w : Int32} (hw : w = pHt A (f 96)) : ∀ (m a : Nat) (s : Int32) (J : qMI), a + m = A.2.1.length → s.toInt = a → cQ6 o I J → (∀ b c, b < a → c < A.1.length → J 256 (6 * b + c) = spL A f b c) → (∀ J' : qMI, cQ6 o I J' → (∀ b c, b < A.2.1.length → c < A.1.length → J' 256 (6 * b + c) = spL A f b c) → Q none 336 J' L R) → wkB l G (d + 5 + 1) n_X8_findSpotsLentOn Q 17 [.ref 0, .int w, .int s, wkU, wkU] [] J L R := by
  have h12 := hs.1.2.2
  have ho := hs.1.1.1
  intro m
  induction m with
  | zero =>
    intro a s J hn hy hJ hp q0
    have hsJ := cS_q6 hs hJ
    have hn2 := (cHas_n hsJ.1.1).2.1
    exact w_X8_findSpotsLentOn_17 ho h12 (fun _ => w_X8_findSpotsLentOn_109 (q0 J hJ (fun b c p q => hp b c (by omega) q))) (fun q => absurd (i_le.mpr (by omega)) q)
  | succ m ih =>
    intro a s J hn hy hJ hp q0
    have hsJ := cS_q6 hs hJ
    have hn2 := (cHas_n hsJ.1.1).2
    have hn1 := (cHas_n hsJ.1.1).1.2
    have s1 : (s + 1).toInt = ((a + 1 : Nat) : Int) := by rw [i_s (by omega)]; omega
    refine w_X8_findSpotsLentOn_17 ho h12 (fun q => absurd (i_le.mp q) (by omega)) (fun _ => w_X8_findSpotsLentOn_28 (sFindT (d := d) hs r9 hy (by omega) hw A.1.length 0 0 J (by omega) rfl hJ (fun y' J' j g1 g2 => ?_)))
    refine w_X8_findSpotsLentOn_103 (ih (a + 1) _ J' (by omega) s1 j (fun b c p q => ?_) q0)
    by_cases eb : b = a
    · rw [eb]
      exact g2 c (by omega) q
    · rw [g1 _ (by omega)]
      exact hp b c (by omega) q
theorem sFind (hs : cS o A f n h sl I R) (r9 : R 0 9 = some 256) : wkCv l G (d + 6) n_X8_findSpotsLentOn [.ref 0] I L R (fun I' L' R' => R' = R ∧ L' = L ∧ cQ6 o I I' ∧ ∀ b c, b < A.2.1.length → c < A.1.length → I' 256 (6 * b + c) = spL A f b c) := by
  obtain ⟨⟨hL, hR, h12⟩, s1, -, -⟩ := id hs
  have e0 : I 21 0 = f 96 := sEq_at s1 (by omega) sI0
  refine wkC_of 4 (by decide) (Nat.le_of_ble_eq_true rfl) (w_X8_findSpotsLentOn_0 hL.1 h12 hR.1.1 (sHeat (d := d + 1) hL) (fun z I1 L1 R1 hq => ?_))
  obtain ⟨rfl, rfl, f1, rfl⟩ := hq
  rw [e0]
  exact w_X8_findSpotsLentOn_14 (sFindL (d := d) (cS_q hs f1) r9 rfl A.2.1.length 0 0 I1 (by omega) rfl (fun _ _ _ _ => rfl) (fun b c p _ => absurd p (Nat.not_lt_zero b)) (fun J' j g => ⟨rfl, rfl, rfl, rfl, cQ6_tr (cQ6_q f1) j, g⟩))
theorem sTitJ (hL : cHas o I R A) (h12 : R 0 12 = some o) (r9 : R 0 9 = some 256) (hp : ∀ b c, b < A.2.1.length → c < A.1.length → I 256 (6 * b + c) = spL A f b c) {Q : qQ} {x y t : Int32} {a b i : Nat} (hy : y.toInt = b) (hB : b < A.2.1.length) (ht : t.toInt = i) : ∀ (m j : Nat) (u : Int32), j + m = A.1.length → u.toInt = j → (clJ A f a b i m j = true → Q (some (.int 1)) 336 I L R) → (∀ u' : Int32, clJ A f a b i m j = false → wkB l G (d + 1 + 1) n_X8_titlesClash Q 76 [.ref 0, .int x, .int y, .int t, .int (spL A f a i), .int u'] [] I L R) → wkB l G (d + 1 + 1) n_X8_titlesClash Q 28 [.ref 0, .int x, .int y, .int t, .int (spL A f a i), .int u] [] I L R := by
  have ho := hL.1
  obtain ⟨hn1, hn2⟩ := cHas_n hL
  intro m
  induction m with
  | zero =>
    intro j u hn hu k1 k2
    exact w_X8_titlesClash_28 ho h12 (fun _ => k2 u rfl) (fun q => absurd (i_le.mpr (by omega)) q)
  | succ m ih =>
    intro j u hn hu k1 k2
    have u1 : (u + 1).toInt = ((j + 1 : Nat) : Int) := by rw [i_s (by omega)]; omega
    have la := loan_t hy hu (by omega) (by omega)
    have ca : (y * 6 + u).toNatClampNeg = 6 * b + j := by rw [tcn]; omega
    have skip : ¬ clP A f a b i j → wkB l G (d + 1 + 1) n_X8_titlesClash Q 70 [.ref 0, .int x, .int y, .int t, .int (spL A f a i), .int u] [] I L R := fun c => w_X8_titlesClash_70 (ih (j + 1) _ (by omega) u1 (fun z => k1 (by rw [clJ, if_neg c]; exact z)) (fun u' z => k2 u' (by rw [clJ, if_neg c]; exact z)))
    refine w_X8_titlesClash_28 ho h12 (fun q => absurd (i_le.mp q) (by omega)) (fun _ => w_X8_titlesClash_40 (fun q => k2 u (clJ_n q _ _)) (fun q => w_X8_titlesClash_46 (fun q2 => skip (fun z => z.1 ?_)) (fun q2 => w_X8_titlesClash_52 r9 (sLoanOf (d := d)) (fun z I1 L1 R1 hq => ?_))))
    · have := congrArg Int32.toInt q2
      omega
    obtain ⟨rfl, rfl, rfl, rfl⟩ := hq
    refine w_X8_titlesClash_62 (vin (by omega) (by omega)) (fun q3 => skip (fun z => q3 ?_)) (fun q3 => w_X8_titlesClash_68 (k1 ?_))
    · rw [ca, hp b j hB (by omega)]
      exact z.2.2
    · rw [ca, hp b j hB (by omega)] at q3
      rw [clJ, if_pos ⟨fun z => q2 (i_eq.mpr (by rw [hu, ht, z])), q, q3⟩]
theorem sTitI (hL : cHas o I R A) (h12 : R 0 12 = some o) (r9 : R 0 9 = some 256) (hp : ∀ b c, b < A.2.1.length → c < A.1.length → I 256 (6 * b + c) = spL A f b c) {Q : qQ} {x y : Int32} {a b : Nat} (hx : x.toInt = a) (hA : a < A.2.1.length) (hy : y.toInt = b) (hB : b < A.2.1.length) : ∀ (m i : Nat) (t : Int32), i + m = A.1.length → t.toInt = i → Q (some (.int (if clI A f a b m i = true then 1 else 0))) 336 I L R → wkB l G (d + 1 + 1) n_X8_titlesClash Q 2 [.ref 0, .int x, .int y, .int t, wkU, wkU] [] I L R := by
  have ho := hL.1
  obtain ⟨hn1, hn2⟩ := cHas_n hL
  intro m
  induction m with
  | zero =>
    intro i t hn ht k
    exact w_X8_titlesClash_2 ho h12 (fun _ => w_X8_titlesClash_82 k) (fun q => absurd (i_le.mpr (by omega)) q)
  | succ m ih =>
    intro i t hn ht k
    have t1 : (t + 1).toInt = ((i + 1 : Nat) : Int) := by rw [i_s (by omega)]; omega
    have la := loan_t hx ht (by omega) (by omega)
    have ca : (x * 6 + t).toNatClampNeg = 6 * a + i := by rw [tcn]; omega
    refine w_X8_titlesClash_2 ho h12 (fun q => absurd (i_le.mp q) (by omega)) (fun _ => w_X8_titlesClash_13 r9 (sLoanOf (d := d)) (fun z I1 L1 R1 hq => ?_))
    obtain ⟨rfl, rfl, rfl, rfl⟩ := hq
    refine w_X8_titlesClash_22 (vin (by omega) (by omega)) ?_
    rw [ca, hp a i hA (by omega)]
    refine sTitJ (d := d) hL h12 r9 hp hy hB ht A.1.length 0 0 (by omega) rfl (fun z => ?_) (fun u' z => w_X8_titlesClash_76 (ih (i + 1) _ (by omega) t1 ?_))
    · rw [clI_t z] at k
      exact k
    · rw [clI_f z] at k
      exact k
theorem sTit (hL : cHas o I R A) (h12 : R 0 12 = some o) (r9 : R 0 9 = some 256) (hp : ∀ b c, b < A.2.1.length → c < A.1.length → I 256 (6 * b + c) = spL A f b c) {x y : Int32} {a b : Nat} (hx : x.toInt = a) (hA : a < A.2.1.length) (hy : y.toInt = b) (hB : b < A.2.1.length) : wkCi l G (d + 2) n_X8_titlesClash [.ref 0, .int x, .int y] I L R (fun z I' L' R' => R' = R ∧ L' = L ∧ I' = I ∧ z = if clB A f a b = true then 1 else 0) :=
  wkC_of 3 (by decide) (Nat.le_of_ble_eq_true rfl) (w_X8_titlesClash_0 (sTitI (d := d) hL h12 r9 hp hx hA hy hB A.1.length 0 0 (by omega) rfl ⟨rfl, _, rfl, rfl, rfl, rfl, rfl⟩))
theorem sClB (hL : cHas o I R A) (h12 : R 0 12 = some o) (r9 : R 0 9 = some 256) (hp : ∀ b c, b < A.2.1.length → c < A.1.length → I 256 (6 * b + c) = spL A f b c) {Q : qQ} {w s : Int32} {a : Nat} (hs : s.toInt = a) (hA : a < A.2.1.length) : ∀ (m b : Nat) (y : Int32) (c : Int32 × Int32), b + m = A.2.1.length → y.toInt = b → (∀ y' : Int32, wkB l G (d + 2 + 1) n_X8_clash Q 90 [.ref 0, .int w, .int (qCp A f a s m b y c).1, .int (qCp A f a s m b y c).2, .int s, .int y'] [] I L R) → wkB l G (d + 2 + 1) n_X8_clash Q 41 [.ref 0, .int w, .int c.1, .int c.2, .int s, .int y] [] I L R := by
  have ho := hL.1
  obtain ⟨hn1, hn2⟩ := cHas_n hL
  intro m
  induction m with
  | zero =>
    intro b y c hn hy k
    exact w_X8_clash_41 ho h12 (fun _ => k y) (fun q => absurd (i_le.mpr (by omega)) q)
  | succ m ih =>
    intro b y c hn hy k
    have y1 : (y + 1).toInt = ((b + 1 : Nat) : Int) := by rw [i_s (by omega)]; omega
    refine w_X8_clash_41 ho h12 (fun q => absurd (i_le.mp q) (by omega)) (fun _ => w_X8_clash_53 (sTit (d := d) hL h12 r9 hp hs hA hy (by omega)) (fun z I1 L1 R1 hq => ?_))
    obtain ⟨rfl, rfl, rfl, rfl⟩ := hq
    have go : clB A f a b = true → ∀ v : Int32, v = (if c.1 = 0 then (10 * s) + y else c.2) → wkB l G (d + 2 + 1) n_X8_clash Q 80 [.ref 0, .int w, .int c.1, .int c.2, .int s, .int y] [.int v] I1 L1 R1 := fun cb v ev => by
      rw [qCp, if_pos cb] at k
      rw [ev]
      exact w_X8_clash_80 (w_X8_clash_84 (ih (b + 1) _ (c.1 + 1, if c.1 = 0 then (10 * s) + y else c.2) (by omega) y1 k))
    refine w_X8_clash_61 (fun q => w_X8_clash_84 (ih (b + 1) _ c (by omega) y1 ?_)) (fun q => w_X8_clash_64 (fun q2 => w_X8_clash_79 (go (if1.2 q) _ (by rw [if_neg q2]))) (fun q2 => w_X8_clash_68 (go (if1.2 q) _ (by rw [if_pos q2]))))
    rw [qCp, if_neg (if1.1 q)] at k
    exact k
theorem sClA (hL : cHas o I R A) (h12 : R 0 12 = some o) (r9 : R 0 9 = some 256) (hp : ∀ b c, b < A.2.1.length → c < A.1.length → I 256 (6 * b + c) = spL A f b c) {Q : qQ} {w : Int32} : ∀ (m a : Nat) (s : Int32) (c : Int32 × Int32), a + m = A.2.1.length → s.toInt = a → Q (some (.int (if w = 0 then (qCq A f m a s c).1 else (qCq A f m a s c).2))) 336 I L R → wkB l G (d + 2 + 1) n_X8_clash Q 23 [.ref 0, .int w, .int c.1, .int c.2, .int s, wkU] [] I L R := by
  have ho := hL.1
  obtain ⟨hn1, hn2⟩ := cHas_n hL
  intro m
  induction m with
  | zero =>
    intro a s c hn hy k
    rw [qCq] at k
    refine w_X8_clash_23 ho h12 (fun _ => w_X8_clash_96 (fun q => w_X8_clash_104 (w_X8_clash_105 ?_)) (fun q => w_X8_clash_100 (w_X8_clash_105 ?_))) (fun q => absurd (i_le.mpr (by omega)) q)
    · rw [if_neg q] at k
      exact k
    · rw [if_pos q] at k
      exact k
  | succ m ih =>
    intro a s c hn hy k
    have s1 : (s + 1).toInt = ((a + 1 : Nat) : Int) := by rw [i_s (by omega)]; omega
    refine w_X8_clash_23 ho h12 (fun q => absurd (i_le.mp q) (by omega)) (fun _ => w_X8_clash_35 (sClB (d := d) hL h12 r9 hp hy (by omega) m (a + 1) (s + 1) c (by omega) s1 (fun y' => w_X8_clash_90 (ih (a + 1) _ _ (by omega) s1 ?_))))
    rw [qCq] at k
    exact k
theorem sClash (hs : cS o A f n h sl I R) (r9 : R 0 9 = some 256) {w : Int32} : wkCi l G (d + 7) n_X8_clash [.ref 0, .int w] I L R (fun z I' L' R' => R' = R ∧ L' = L ∧ z = qClash A f w ∧ cS o A f n h sl I' R') := by
  have z0 : (0 : Int32).toInt = 0 := rfl
  have z1 : (1 : Int32).toInt = 1 := rfl
  have bad : ¬ (0 ≤ w.toInt ∧ w.toInt ≤ 1) → wkB l G (d + 6 + 1) n_X8_clash (fun r t' I' L' R' => t' = 336 ∧ ∃ z, r = some (.int z) ∧ R' = R ∧ L' = L ∧ z = qClash A f w ∧ cS o A f n h sl I' R') 9 [.ref 0, .int w, wkU, wkU, wkU, wkU] [] I L R := fun c => w_X8_clash_9 ⟨rfl, _, rfl, rfl, rfl, by unfold qClash; rw [if_pos c], hs⟩
  refine wkC_of 4 (by decide) (Nat.le_of_ble_eq_true rfl) (w_X8_clash_0 (fun q => bad (fun c => ?_)) (fun q => w_X8_clash_4 (fun q2 => w_X8_clash_11 (sFind (d := d) hs r9) (fun I1 L1 R1 hq => ?_)) (fun q2 => bad (fun c => q2 (i_le.mpr (by rw [z1]; exact c.2))))))
  · have q := i_lt.mp q
    rw [z0] at q
    have := c.1
    omega
  obtain ⟨rfl, rfl, f1, g1⟩ := hq
  have q := nlt q
  rw [z0] at q
  have q2 := i_le.mp q2
  rw [z1] at q2
  have c0 : 0 ≤ w.toInt ∧ w.toInt ≤ 1 := ⟨by omega, q2⟩
  have hs1 := cS_q6 hs f1
  refine w_X8_clash_15 (sClA (d := d + 4) hs1.1.1 hs1.1.2.2 r9 g1 A.2.1.length 0 0 (0, -2) (by omega) rfl ⟨rfl, _, rfl, rfl, rfl, ?_, hs1⟩)
  unfold qClash
  rw [if_neg (show ¬ ¬ (0 ≤ w.toInt ∧ w.toInt ≤ 1) from fun z => z c0)]
end
