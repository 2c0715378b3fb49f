/-! ===== hidden: purely; the class's ===== -/
/-- some seat from a on sees a party of a tall at a place -/
def hWa (A : aD) (f : Nat → Int32) (t hr x : Int32) : Nat → Nat → Bool
  | 0, _ => false
  | m + 1, a => if pSe A hr (pHt A hr) (f a) x t then true else hWa A f t hr x m (a + 1)
theorem hWa_t {A : aD} {f : Nat → Int32} {t hr x : Int32} {m a : Nat} (h : pSe A hr (pHt A hr) (f a) x t) : hWa A f t hr x (m + 1) a = true := by
  rw [hWa, if_pos h]
theorem hWa_f {A : aD} {f : Nat → Int32} {t hr x : Int32} {m a : Nat} (h : ¬ pSe A hr (pHt A hr) (f a) x t) : hWa A f t hr x (m + 1) a = hWa A f t hr x m (a + 1) := by
  rw [hWa, if_neg h]
def hWt (A : aD) (f : Nat → Int32) (t hr : Int32) (x : Nat) : Bool := hWa A f t hr (Int32.ofNat x) A.2.1.length 0
def hNb (g : Nat → Bool) (x : Nat) : Bool := (decide (1 ≤ x) && g (x - 1)) || g x || (decide (x + 1 < 20) && g (x + 1))
def hSt (A : aD) (f : Nat → Int32) (t hr : Int32) (g : Nat → Bool) (x : Nat) : Bool := hNb g x && !hWt A f t hr x
def hLp (A : aD) (f : Nat → Int32) (t : Int32) (to : Nat) : Nat → Int32 → (Nat → Bool) → Int32
  | 0, _, _ => -2
  | m + 1, y, g => if g to = true then y else hLp A f t to m (y + 1) (hSt A f t ((f 96 + y) + 1) g)
theorem hLp_t {A : aD} {f : Nat → Int32} {t : Int32} {to m : Nat} {y : Int32} {g : Nat → Bool} (h : g to = true) : hLp A f t to (m + 1) y g = y := by
  rw [hLp, if_pos h]
theorem hLp_f {A : aD} {f : Nat → Int32} {t : Int32} {to m : Nat} {y : Int32} {g : Nat → Bool} (h : g to = false) : hLp A f t to (m + 1) y g = hLp A f t to m (y + 1) (hSt A f t ((f 96 + y) + 1) g) := by
  rw [hLp, if_neg (by rw [h]; decide)]
def h0 (A : aD) (f : Nat → Int32) (t : Int32) (x : Nat) (i : Nat) : Bool := decide (i = x) && !hWt A f t (f 96) i
def qHid (A : aD) (f : Nat → Int32) (x y t : Int32) : Int32 :=
  if ¬ (okX x ∧ okX y ∧ 1 ≤ t.toInt ∧ t.toInt ≤ 9) then -1
  else hLp A f t y.toInt.toNat 49 0 (h0 A f t x.toInt.toNat)
/-! bits of a word -/
abbrev gb (r : Int32) (i : Nat) : Bool := r.toBitVec.getLsbD i
theorem gb_x {x y : Int32} (h : ∀ i, i < 32 → gb x i = gb y i) : x = y := Int32.toBitVec_inj.mp (BitVec.eq_of_getLsbD_eq (fun i hi => h i hi))
theorem gb_or (x y : Int32) (i : Nat) : gb (x ||| y) i = (gb x i || gb y i) := by unfold gb; rw [Int32.toBitVec_or, BitVec.getLsbD_or]
theorem gb_and (x y : Int32) (i : Nat) : gb (x &&& y) i = (gb x i && gb y i) := by unfold gb; rw [Int32.toBitVec_and, BitVec.getLsbD_and]
theorem gb_xor (x y : Int32) (i : Nat) : gb (x ^^^ y) i = (gb x i ^^ gb y i) := by unfold gb; rw [Int32.toBitVec_xor, BitVec.getLsbD_xor]
theorem gb_amt : ∀ n, n < 32 → ((Int32.ofNat n &&& 31).toBitVec.smod 32).toNat = n := by decide +kernel
theorem gb_sar {n : Nat} (hn : n < 32) (x : Int32) {i : Nat} (hi : i < 32) : gb (x >>> (Int32.ofNat n &&& 31)) i = if n + i < 32 then gb x (n + i) else gb x 31 := by
  have e : (x >>> (Int32.ofNat n &&& 31)).toBitVec = x.toBitVec.sshiftRight n := by
    rw [Int32.toBitVec_shiftRight]
    show x.toBitVec.sshiftRight ((Int32.ofNat n &&& 31).toBitVec.smod 32).toNat = _
    rw [gb_amt n hn]
  unfold gb
  rw [e, BitVec.getLsbD_sshiftRight, BitVec.msb_eq_getLsbD_last]
  simp [hi]
theorem gb_sal {n : Nat} (hn : n < 32) (x : Int32) {i : Nat} (hi : i < 32) : gb (x <<< (Int32.ofNat n &&& 31)) i = (decide (n ≤ i) && gb x (i - n)) := by
  have e : (x <<< (Int32.ofNat n &&& 31)).toBitVec = x.toBitVec <<< n := by
    rw [Int32.toBitVec_shiftLeft]
    show x.toBitVec <<< ((Int32.ofNat n &&& 31).toBitVec.smod 32).toNat = _
    rw [gb_amt n hn]
  unfold gb
  rw [e, BitVec.getLsbD_shiftLeft]
  rcases Nat.lt_or_ge i n with q | q
  · simp [q, Nat.not_le.mpr q]
  · simp [hi, q, Nat.not_lt.mpr q]
theorem gb_1 : ∀ i, i < 32 → gb 1 i = decide (i = 0) := by decide +kernel
theorem gb_0 : ∀ i, i < 32 → gb 0 i = false := by decide +kernel
theorem gb_m1 : ∀ i, i < 32 → gb (-1) i = true := by decide +kernel
theorem gb_20 : ∀ i, i < 32 → gb 1048575 i = decide (i < 20) := by decide +kernel
theorem gb_one : ∀ n, n < 20 → ∀ i, i < 32 → gb ((1 : Int32) <<< (Int32.ofNat n &&& 31)) i = decide (i = n) := by decide +kernel
/-- a word of twenty bits -/
def hBt (r : Int32) (g : Nat → Bool) : Prop := ∀ i, i < 32 → gb r i = (decide (i < 20) && g i)
theorem hBt_cg {r : Int32} {g k : Nat → Bool} (h : hBt r g) (e : ∀ i, i < 20 → g i = k i) : hBt r k := by
  intro i hi
  rw [h i hi]
  by_cases c : i < 20
  · rw [e i c]
  · rw [decide_eq_false c, Bool.false_and, Bool.false_and]
theorem hBt_at {r x : Int32} {g : Nat → Bool} {n : Nat} (h : hBt r g) (hx : x.toInt = n) (hn : n < 20) : ((r >>> (x &&& 31)) &&& 1) = 0 ↔ g n = false := by
  have ex : x = Int32.ofNat n := ofN hx (by omega)
  subst ex
  have e0 : gb (r >>> (Int32.ofNat n &&& 31)) 0 = g n := by
    rw [gb_sar (by omega) r (by decide), if_pos (by omega), Nat.add_zero, h n (by omega), decide_eq_true hn, Bool.true_and]
  constructor
  · intro q
    have z : gb ((r >>> (Int32.ofNat n &&& 31)) &&& 1) 0 = false := by rw [q]; exact gb_0 0 (by decide)
    rw [gb_and, gb_1 0 (by decide), e0] at z
    simpa using z
  · intro q
    refine gb_x (fun i hi => ?_)
    rw [gb_and, gb_1 i hi, gb_0 i hi]
    by_cases c : i = 0
    · rw [c, e0, q, Bool.false_and]
    · rw [decide_eq_false c, Bool.and_false]
theorem hBt_1 {x : Int32} {n : Nat} (hx : x.toInt = n) (hn : n < 20) : hBt ((1 : Int32) <<< (x &&& 31)) (fun i => decide (i = n)) := by
  have ex : x = Int32.ofNat n := ofN hx (by omega)
  subst ex
  intro i hi
  rw [gb_one n hn i hi]
  show decide (i = n) = (decide (i < 20) && decide (i = n))
  by_cases c : i = n
  · rw [decide_eq_true c, decide_eq_true (show i < 20 by omega)]
    rfl
  · rw [decide_eq_false c, Bool.and_false]
theorem hBt_nx {r : Int32} {g : Nat → Bool} (h : hBt r g) : hBt (((r ||| (r <<< (1 &&& 31))) ||| (r >>> (1 &&& 31))) &&& 1048575) (hNb g) := by
  intro i hi
  rw [gb_and, gb_20 i hi, gb_or, gb_or]
  have a : gb (r <<< ((1 : Int32) &&& 31)) i = (decide (1 ≤ i) && gb r (i - 1)) := gb_sal (n := 1) (by decide) r hi
  have b : gb (r >>> ((1 : Int32) &&& 31)) i = if 1 + i < 32 then gb r (1 + i) else gb r 31 := gb_sar (n := 1) (by decide) r hi
  rw [a, b]
  by_cases c : i < 20
  · rw [decide_eq_true c, Bool.and_true, Bool.true_and, if_pos (by omega), h i hi, h (i - 1) (by omega), h (1 + i) (by omega), decide_eq_true c, decide_eq_true (show i - 1 < 20 by omega), Bool.true_and, Bool.true_and, Nat.add_comm 1 i]
    unfold hNb
    rw [Bool.or_comm (g i)]
  · rw [decide_eq_false c, Bool.and_false, Bool.false_and]
theorem hBt_clr {r x : Int32} {g : Nat → Bool} {n : Nat} (h : hBt r g) (hx : x.toInt = n) (hn : n < 20) : hBt (r &&& ((1 <<< (x &&& 31)) ^^^ (-1))) (fun i => if i = n then false else g i) := by
  have ex : x = Int32.ofNat n := ofN hx (by omega)
  subst ex
  intro i hi
  rw [gb_and, gb_xor, gb_one n hn i hi, gb_m1 i hi, h i hi]
  show (decide (i < 20) && g i && (decide (i = n) ^^ true)) = (decide (i < 20) && (if i = n then false else g i))
  by_cases c : i = n
  · rw [if_pos c, decide_eq_true c]
    simp
  · rw [if_neg c, decide_eq_false c]
    simp
section
variable {l : Launch} {G : qG} {d : Nat} {I : qMI} {L : qML} {R : qMR} {o n : Nat} {A : aD} {f : Nat → Int32} {h sl : Nat → Nat → Int32}
theorem sUnT (hs : cS o A f n h sl I R) {Q : qQ} {p t hr x : Int32} {i : Nat} (hx : x.toInt = i) (hi : i < 20) : ∀ (m a : Nat) (y r : Int32) (u : Nat → Bool) (J : qMI), a + m = A.2.1.length → y.toInt = a → cQ o I J → hBt r u → (∀ (r' y' : Int32) (J' : qMI), cQ o I J' → hBt r' (fun j => if j = i then u i && !hWa A f t hr x m a else u j) → wkB l G (d + 4 + 1) n_X8_unseenOf Q 104 [.ref 0, .int p, .int t, .int hr, .int (pHt A hr), .int r', .int x, .int y'] [] J' L R) → wkB l G (d + 4 + 1) n_X8_unseenOf Q 26 [.ref 0, .int p, .int t, .int hr, .int (pHt A hr), .int r, .int x, .int y] [] J L R := by
  have hR := hs.1.2.1
  have h12 := hs.1.2.2
  have ho := hs.1.1.1
  have rb := hR.2.2.2.2 21 bNow
  intro m
  induction m with
  | zero =>
    intro a y r u J hn hy hJ hb q0
    have hsJ := cS_q hs hJ
    have hn2 := (cHas_n hsJ.1.1).2.1
    refine w_X8_unseenOf_26 ho h12 (fun _ => q0 r y J hJ (hBt_cg hb (fun j _ => ?_))) (fun q => absurd (i_le.mpr (by omega)) q)
    by_cases c : j = i
    · rw [if_pos c, c, hWa, Bool.not_false, Bool.and_true]
    · rw [if_neg c]
  | succ m ih =>
    intro a y r u J hn hy hJ hb q0
    have hsJ := cS_q hs hJ
    have hLJ := hsJ.1.1
    have hn2 := (cHas_n hLJ).2.1
    have hn3 := (cHas_n hLJ).2.2
    have y1 : (y + 1).toInt = ((a + 1 : Nat) : Int) := by rw [i_s (by omega)]; omega
    have cy : y.toNatClampNeg = a := by rw [tcn]; omega
    have e1 : J 22 y.toNatClampNeg = f a := by rw [cy]; exact sEq_at hsJ.2.1 (by omega) (sI1 (by omega))
    refine w_X8_unseenOf_26 ho h12 (fun q => absurd (i_le.mp q) (by omega)) (fun _ => w_X8_unseenOf_38 (fun q => q0 r y J hJ (hBt_cg hb (fun j _ => ?_))) (fun q => w_X8_unseenOf_48 ho h12 hLJ.2.2.1.1 hR.1.1 (rb 1 (by decide) (by decide)) (vin (by omega) (by omega)) (sAim (d := d + 3) ho hLJ.2.1.2.1) (fun I2 L2 R2 hq => ?_)))
    · have q := (hBt_at hb hx hi).mp q
      by_cases c : j = i
      · rw [if_pos c, c, q, Bool.false_and]
      · rw [if_neg c]
    have q := fun z => q ((hBt_at hb hx hi).mpr z)
    have ui : u i = true := by
      rcases e : u i with _ | _
      · exact absurd e q
      · rfl
    obtain ⟨rfl, rfl, f2, v2⟩ := hq
    rw [e1] at v2
    have j2 := cQ_tr hJ (cV_q f2)
    refine w_X8_unseenOf_74 ho h12 hLJ.2.2.1.1 (sSeen2 (d := d + 1) (cHas_q (cV_q f2) hLJ) v2) (fun z I3 L3 R3 hq => ?_)
    obtain ⟨rfl, rfl, f3, rfl⟩ := hq
    have j3 := cQ_tr j2 (cRk_q f3)
    refine w_X8_unseenOf_84 (fun q2 => w_X8_unseenOf_98 (ih (a + 1) _ r u _ (by omega) y1 j3 hb (fun r' y' J' j b => q0 r' y' J' j ?_))) (fun q2 => w_X8_unseenOf_87 (w_X8_unseenOf_98 (ih (a + 1) _ _ _ _ (by omega) y1 j3 (hBt_clr hb hx hi) (fun r' y' J' j b => q0 r' y' J' j (hBt_cg b (fun k _ => ?_))))))
    · rw [hWa_f (if1.1 q2)]
      exact b
    · rw [hWa_t (if1.2 q2)]
      by_cases c : k = i
      · rw [if_pos c, if_pos c, if_pos rfl, Bool.not_true, Bool.and_false, Bool.false_and]
      · rw [if_neg c, if_neg c, if_neg c]
theorem sUnX (hs : cS o A f n h sl I R) {Q : qQ} {p t hr : Int32} {g : Nat → Bool} : ∀ (m i : Nat) (x r : Int32) (J : qMI), i + m = 20 → x.toInt = i → cQ o I J → hBt r (fun j => if j < i then g j && !hWt A f t hr j else g j) → (∀ (r' : Int32) (J' : qMI), cQ o I J' → hBt r' (fun j => g j && !hWt A f t hr j) → Q (some (.int r')) 336 J' L R) → wkB l G (d + 4 + 1) n_X8_unseenOf Q 16 [.ref 0, .int p, .int t, .int hr, .int (pHt A hr), .int r, .int x, wkU] [] J L R := by
  have z20 : (20 : Int32).toInt = 20 := rfl
  intro m
  induction m with
  | zero =>
    intro i x r J hn hx hJ hb q0
    exact w_X8_unseenOf_16 (fun _ => w_X8_unseenOf_110 (q0 r J hJ (hBt_cg hb (fun j hj => by rw [if_pos (by omega)])))) (fun q => absurd (i_le.mpr (by omega)) q)
  | succ m ih =>
    intro i x r J hn hx hJ hb q0
    have x1 : (x + 1).toInt = ((i + 1 : Nat) : Int) := by rw [i_s (by omega)]; omega
    have ex : x = Int32.ofNat i := ofN hx (by omega)
    refine w_X8_unseenOf_16 (fun q => absurd (i_le.mp q) (by omega)) (fun _ => w_X8_unseenOf_23 (sUnT (d := d) hs hx (by omega) A.2.1.length 0 0 r _ J (by omega) rfl hJ hb (fun r' y' J' j b => w_X8_unseenOf_104 (ih (i + 1) _ r' J' (by omega) x1 j (hBt_cg b (fun k _ => ?_)) q0))))
    by_cases c : k = i
    · rw [if_pos c, if_neg (Nat.lt_irrefl i), if_pos (by omega), c, ex]
      rfl
    · rw [if_neg c]
      by_cases c2 : k < i
      · rw [if_pos c2, if_pos (by omega)]
      · rw [if_neg c2, if_neg (by omega)]
theorem sUnOf (hs : cS o A f n h sl I R) {p t hr : Int32} {g : Nat → Bool} (hb : hBt p g) : wkCi l G (d + 5) n_X8_unseenOf [.ref 0, .int p, .int t, .int hr] I L R (fun z I' L' R' => R' = R ∧ L' = L ∧ cQ o I I' ∧ hBt z (fun j => g j && !hWt A f t hr j)) := by
  obtain ⟨⟨hL, hR, h12⟩, s1, -, -⟩ := id hs
  refine wkC_of 4 (by decide) (Nat.le_of_ble_eq_true rfl) (w_X8_unseenOf_0 hL.1 h12 (sHeat (d := d) hL) (fun z I1 L1 R1 hq => ?_))
  obtain ⟨rfl, rfl, f1, rfl⟩ := hq
  exact w_X8_unseenOf_8 (sUnX (d := d) hs 20 0 0 p I1 (by omega) rfl f1 (hBt_cg hb (fun j _ => by rw [if_neg (Nat.not_lt_zero j)])) (fun r' J' j b => ⟨rfl, _, rfl, rfl, rfl, j, b⟩))
theorem sHidL (hs : cS o A f n h sl I R) {Q : qQ} {x to t : Int32} {b : Nat} (ht : to.toInt = b) (hb : b < 20) : ∀ (m k : Nat) (y r : Int32) (g : Nat → Bool) (J : qMI), k + m = 49 → y.toInt = k → cQ o I J → hBt r g → (∀ J' : qMI, cQ o I J' → Q (some (.int (hLp A f t b m y g))) 336 J' L R) → wkB l G (d + 5 + 1) n_X8_hidden Q 47 [.ref 0, .int x, .int to, .int t, .int r, .int y, wkU] [] J L R := by
  have z48 : (48 : Int32).toInt = 48 := rfl
  intro m
  induction m with
  | zero =>
    intro k y r g J hn hy hJ hg q0
    exact w_X8_hidden_47 (fun _ => w_X8_hidden_111 (q0 J hJ)) (fun q => absurd (i_lt.mpr (by omega)) q)
  | succ m ih =>
    intro k y r g J hn hy hJ hg q0
    have hsJ := cS_q hs hJ
    have e0 : J 21 0 = f 96 := sEq_at hsJ.2.1 (by omega) sI0
    have y1 : (y + 1).toInt = ((k + 1 : Nat) : Int) := by rw [i_s (by omega)]; omega
    refine w_X8_hidden_47 (fun q => absurd (i_lt.mp q) (by omega)) (fun _ => w_X8_hidden_54 (fun q => ?_) (fun q => w_X8_hidden_63 ?_))
    · have q := (hBt_at hg ht hb).mp q
      refine w_X8_hidden_66 hsJ.1.2.1.1.1 (sUnOf (d := d) hsJ (hBt_nx hg)) (fun z I1 L1 R1 hq => ?_)
      obtain ⟨rfl, rfl, f1, b1⟩ := hq
      rw [e0] at b1
      refine w_X8_hidden_103 (ih (k + 1) _ _ (hSt A f t ((f 96 + y) + 1) g) I1 (by omega) y1 (cQ_tr hJ f1) b1 (fun J' j => ?_))
      have := q0 J' j
      rw [hLp_f q] at this
      exact this
    · have gt : g b = true := by
        rcases e : g b with _ | _
        · exact absurd ((hBt_at hg ht hb).mpr e) q
        · rfl
      have := q0 J hJ
      rw [hLp_t gt] at this
      exact this
theorem sHid (hs : cS o A f n h sl I R) {x to t : Int32} : wkCi l G (d + 6) n_X8_hidden [.ref 0, .int x, .int to, .int t] I L R (fun z I' L' R' => R' = R ∧ L' = L ∧ z = qHid A f x to t ∧ cS o A f n h sl I' R') := by
  obtain ⟨⟨hL, hR, h12⟩, s1, s2, s3⟩ := id hs
  have e0 : I 21 0 = f 96 := sEq_at s1 (by omega) sI0
  have o1 : (1 : Int32).toInt = 1 := rfl
  have o9 : (9 : Int32).toInt = 9 := rfl
  have bad : ¬ (okX x ∧ okX to ∧ 1 ≤ t.toInt ∧ t.toInt ≤ 9) → wkB l G (d + 5 + 1) n_X8_hidden (fun r t' I' L' R' => t' = 336 ∧ ∃ z, r = some (.int z) ∧ R' = R ∧ L' = L ∧ z = qHid A f x to t ∧ cS o A f n h sl I' R') 25 [.ref 0, .int x, .int to, .int t, wkU, wkU, wkU] [] I L R := fun c => w_X8_hidden_25 ⟨rfl, _, rfl, rfl, rfl, by unfold qHid; rw [if_pos c], hs⟩
  refine wkC_of 3 (by decide) (Nat.le_of_ble_eq_true rfl) (w_X8_hidden_0 (sIsX (d := d + 4)) (fun z I1 L1 R1 hq => ?_))
  obtain ⟨rfl, rfl, rfl, rfl⟩ := hq
  refine w_X8_hidden_4 (fun q => bad (fun c => if1.1 q c.1)) (fun q => w_X8_hidden_7 (sIsX (d := d + 4)) (fun z I1 L1 R1 hq => ?_))
  obtain ⟨rfl, rfl, rfl, rfl⟩ := hq
  refine w_X8_hidden_11 (fun q2 => bad (fun c => if1.1 q2 c.2.1)) (fun q2 => w_X8_hidden_14 (fun q3 => bad (fun c => ?_)) (fun q3 => w_X8_hidden_19 (fun q4 => ?_) (fun q4 => bad (fun c => q4 (i_le.mpr (by omega))))))
  · have := i_lt.mp q3
    omega
  have q3 := nlt q3
  have q4 := i_le.mp q4
  have c0 : okX x ∧ okX to ∧ 1 ≤ t.toInt ∧ t.toInt ≤ 9 := ⟨if1.2 q, if1.2 q2, by omega, by omega⟩
  obtain ⟨cx, ct, -⟩ := id c0
  have hx : x.toInt = (x.toInt.toNat : Nat) := by omega
  have ht : to.toInt = (to.toInt.toNat : Nat) := by omega
  refine w_X8_hidden_27 hR.1.1 (sUnOf (d := d) hs (hBt_1 hx (by omega))) (fun z I2 L2 R2 hq => ?_)
  obtain ⟨rfl, rfl, f2, b2⟩ := hq
  rw [e0] at b2
  refine w_X8_hidden_42 (sHidL (d := d) hs ht (by omega) 49 0 0 z (h0 A f t x.toInt.toNat) I2 (by omega) rfl f2 b2 (fun J' j => ⟨rfl, _, rfl, rfl, rfl, ?_, cS_q hs j⟩))
  unfold qHid
  rw [if_neg (fun z => z c0)]
end
