/-! ===== the class reads: what goes on then ===== -/
/-- the draft o, and the way to it -/
def cDr (o : Nat) (R : qMR) : Prop := cRf R o ∧ (R (o + 6) 4 = some (o + 10) ∧ R (o + 6) 5 = some (o + 11)) ∧ R 0 0 = some 1 ∧ R 0 1 = some 3 ∧ R 1 0 = some 2
theorem bb_putr {l : Launch} {G : qG} {d : Nat} {M : qMn} {Q : qQ} {pc : Nat} {vs st : List Value} {I : qMI} {L : qML} {R : qMR} {k ci j idx a : Nat} (hd : decode M.2.1 pc = .ok (.putfield idx, 3)) (hk : k < 336) (hs : (qSh k).1 = ci) (hc : ci < 10) (hj : j < qNF ci) (hw : Cond.fieldLink M.1.cls idx (qT ci j).1 (qT ci j).2.1 (qT ci j).2.2.1 ∈ gw) (hfin : (qT ci j).2.2.2 = false) (hn : ∀ r, narrow (qTy ci j) (va_rf r) = va_rf r) (hfit : ∀ r, fits (qTy ci j) (va_rf r) = true) (hq : qIsR (qTy ci j) = true) (kk : wkB l G d M Q (pc + 3) vs st I L (qUpR R k j (some a))) : wkB l G d M Q pc vs (.ref a :: .ref k :: st) I L R := fun lv hl => q_putr (x := some a) hd hk hs hc hj hw (Or.inl hfin) hn hfit hq (kk lv hl)
theorem bb_astore_n {l : Launch} {G : qG} {d : Nat} {M : qMn} {Q : qQ} {pc : Nat} {vs st : List Value} {I : qMI} {L : qML} {R : qMR} {n : Fin 4} {i a : Nat} (hd : decode M.2.1 pc = .ok (.astore_n n, 1)) (hi : (n : Nat) = i) (hn : i < M.2.2.1) (hp : wkNl vs i) (k : wkB l G d M Q (pc + 1) (vs.set i (.ref a)) st I L R) : wkB l G d M Q pc vs (.ref a :: st) I L R := fun lv hl => q_astore_n hd hi hn (k _ (wkHas_st hl hp))
theorem qUpR_at (R : qMR) (a j : Nat) (x : Option Nat) (b k : Nat) : qUpR R a j x b k = if b = a ∧ k = j then x else R b k := by
  unfold qUpR qUpRF va_up
  by_cases h : b = a
  · rw [if_pos h]
    by_cases g : k = j
    · rw [if_pos g, if_pos ⟨h, g⟩]
    · rw [if_neg g, if_neg (fun z => g z.2), h]
  · rw [if_neg h, if_neg (fun z => h z.1)]
section
variable {l : Launch} {G : qG} {d : Nat} {I : qMI} {L : qML} {R : qMR} {o n : Nat} {A : aD} {f : Nat → Int32} {h sl : Nat → Nat → Int32}
theorem w_X1_handOver_0 {Q : qQ} {a o : Nat} (h1 : R 3 1 = some a) (hQ : Q (some (.ref a)) 336 I L (qUpR R 3 1 (some o))) : wkB l G (d + 1) n_X1_handOver Q 0 [.ref 3, .ref o, wkU] [] I L R :=
  bb_aload_n (n := 0) (i := 0) (zd (i := .aload_n 0) (n := 1) (by decide +kernel)) rfl rfl <|
  bb_getr (k := 3) (ci := 1) (j := 1) (idx := 21) (a := a) (zd (i := .getfield 21) (n := 3) (by decide +kernel)) (by decide +kernel) (by decide +kernel) (by decide +kernel) (by decide +kernel) rfl g336 h1 <|
  bb_astore_n (n := 2) (i := 2) (zd (i := .astore_n 2) (n := 1) (by decide +kernel)) rfl (by decide +kernel) (wkNl_r rfl) <|
  bb_aload_n (n := 0) (i := 0) (zd (i := .aload_n 0) (n := 1) (by decide +kernel)) rfl rfl <|
  bb_aload_n (n := 1) (i := 1) (zd (i := .aload_n 1) (n := 1) (by decide +kernel)) rfl rfl <|
  bb_putr (k := 3) (ci := 1) (j := 1) (idx := 21) (zd (i := .putfield 21) (n := 3) (by decide +kernel)) (by decide +kernel) (by decide +kernel) (by decide +kernel) (by decide +kernel) g336 rfl (fun r => by cases r <;> rfl) (fun r => by cases r <;> rfl) rfl <|
  bb_aload_n (n := 2) (i := 2) (zd (i := .aload_n 2) (n := 1) (by decide +kernel)) rfl rfl <|
  (fun lv _ => q_aret (zd (i := .areturn) (n := 1) (by decide +kernel)) rfl (Nat.le_refl _) (Nat.le_refl _) hQ)
theorem w_X8_read_42 {Q : qQ} {a1 : Int32} {o' : Nat} (h1 : R 0 1 = some 3) (h2 : R 0 12 = some o') {P : Option Value → qMI → qML → qMR → Prop} (hc : wkC l G d n_X1_handOver [.ref 3, .ref o'] I L R P) (kk : ∀ r I' L' R', P r I' L' R' → wkB l G (d + 1) n_X8_read Q 54 [.ref 0, .int a1] (r.toList ++ [.ref 0]) I' L' R') : wkB l G (d + 1) n_X8_read Q 42 [.ref 0, .int a1] [] I L R :=
  bb_aload_n (n := 0) (i := 0) (zd (i := .aload_n 0) (n := 1) (by decide +kernel)) rfl rfl <|
  bb_aload_n (n := 0) (i := 0) (zd (i := .aload_n 0) (n := 1) (by decide +kernel)) rfl rfl <|
  bb_getr (k := 0) (ci := 8) (j := 1) (idx := 19) (a := 3) (zd (i := .getfield 19) (n := 3) (by decide +kernel)) (by decide +kernel) (by decide +kernel) (by decide +kernel) (by decide +kernel) rfl g453 h1 <|
  bb_aload_n (n := 0) (i := 0) (zd (i := .aload_n 0) (n := 1) (by decide +kernel)) rfl rfl <|
  bb_getr (k := 0) (ci := 8) (j := 12) (idx := 71) (a := o') (zd (i := .getfield 71) (n := 3) (by decide +kernel)) (by decide +kernel) (by decide +kernel) (by decide +kernel) (by decide +kernel) rfl g464 h2 <|
  bb_callV (idx := 100) (k := 3) (ci := 1) (N := n_X1_handOver) (As := [.ref o']) (st := [.ref 0]) (zd (i := .invokevirtual 100) (n := 3) (by decide +kernel)) to_X1_handOver g676 g677 g678 (Nat.le_of_ble_eq_true rfl) (by decide +kernel) (by decide +kernel) (by decide +kernel) rfl rfl rfl hc kk
theorem w_X8_read_54 {Q : qQ} {a1 : Int32} {a : Nat} {P : qMI → qML → qMR → Prop} (hc : wkCv l G d n_X8_beginAnew [.ref 0] I L (qUpR R 0 12 (some a)) P) (kk : ∀ I' L' R', P I' L' R' → wkB l G (d + 1) n_X8_read Q 61 [.ref 0, .int a1] [] I' L' R') : wkB l G (d + 1) n_X8_read Q 54 [.ref 0, .int a1] [.ref a, .ref 0] I L R :=
  bb_putr (k := 0) (ci := 8) (j := 12) (idx := 71) (zd (i := .putfield 71) (n := 3) (by decide +kernel)) (by decide +kernel) (by decide +kernel) (by decide +kernel) (by decide +kernel) g464 rfl (fun r => by cases r <;> rfl) (fun r => by cases r <;> rfl) rfl <|
  bb_aload_n (n := 0) (i := 0) (zd (i := .aload_n 0) (n := 1) (by decide +kernel)) rfl rfl <|
  bb_callV (idx := 104) (k := 0) (ci := 8) (N := n_X8_beginAnew) (As := []) (st := []) (zd (i := .invokevirtual 104) (n := 3) (by decide +kernel)) to_X8_beginAnew g680 g682 g16 (Nat.le_of_ble_eq_true rfl) (by decide +kernel) (by decide +kernel) (by decide +kernel) rfl rfl rfl hc (fun r I' L' R' hq => by obtain ⟨rfl, hp⟩ := hq; exact kk I' L' R' hp)
/-- the beginning, seats below m told -/
def gB (A : aD) (m : Nat) (f : Nat → Int32) (k : Nat) : Int32 := if k = 96 ∨ (k < 24 ∧ k % 6 < m) then bX A k else f k
theorem bX_x {A : aD} {a : Nat} (h : a < 6) : bX A a = if a < A.2.1.length then (A.2.1.getD a (0, 0)).1 else 0 := by
  unfold bX
  rw [if_neg (by omega), if_pos h]
  by_cases c : a < A.2.1.length
  · rw [if_pos c, List.getD_eq_getElem?_getD, List.getElem?_eq_getElem c]
    rfl
  · rw [if_neg c, List.getElem?_eq_none (by omega)]
    rfl
theorem bX_c {A : aD} {a : Nat} (h : a < 6) : bX A (6 + a) = if a < A.2.1.length then (A.2.1.getD a (0, 0)).2 else 0 := by
  unfold bX
  rw [if_neg (by omega), if_neg (by omega), if_pos (by omega), show 6 + a - 6 = a by omega]
  by_cases c : a < A.2.1.length
  · rw [if_pos c, List.getD_eq_getElem?_getD, List.getElem?_eq_getElem c]
    rfl
  · rw [if_neg c, List.getElem?_eq_none (by omega)]
    rfl
theorem bX_0 {A : aD} {k : Nat} (h : 12 ≤ k) (h2 : k ≠ 96) : bX A k = 0 := by
  unfold bX
  rw [if_neg h2, if_neg (by omega), if_neg (by omega)]
theorem bX_96 {A : aD} : bX A 96 = A.2.2.1 10 := by
  unfold bX
  rw [if_pos rfl]
theorem sBegin (hL : cHas o I R A) (hB : cSt R 21) (hs : sEq I 21 f) : wkCv l G (d + 3) n_X4_begin [.ref 21, .ref o] I L R (fun I' L' R' => R' = R ∧ L' = L ∧ (∀ k, (k < 21 ∨ 27 < k) → I' k = I k) ∧ sEq I' 21 (bX A)) := by
  have hb := bNow
  have ho := hL.1
  have hF := hL.2.2.1
  have hD := hL.2.2.2.2.1
  have loop : ∀ (j m : Nat) (y : Int32) (J : qMI), 6 - m = j → m ≤ 6 → y.toInt = m → (∀ k, (k < 21 ∨ 27 < k) → J k = I k) → sEq J 21 (gB A m f) → wkB l G (d + 2 + 1) n_X4_begin (fun r t I' L' R' => t = 336 ∧ r = none ∧ R' = R ∧ L' = L ∧ (∀ k, (k < 21 ∨ 27 < k) → I' k = I k) ∧ sEq I' 21 (bX A)) 10 [.ref 21, .ref o, .int y] [] J L R := by
    intro j
    induction j with
    | zero =>
      intro m y J hj hm hy hJ hsJ
      obtain rfl : m = 6 := by omega
      refine w_X4_begin_10 ho hb (fun _ => w_X4_begin_84 ho hb (sKeep (d := d) (n := -1) hb hB hsJ (by decide)) (fun I1 L1 R1 hq => ?_)) (fun q => absurd (i_le.mpr (by rw [show (6 : Int32).toInt = 6 from rfl]; omega)) q)
      obtain ⟨rfl, rfl, f1, s1⟩ := hq
      refine w_X4_begin_89 ho hb ⟨rfl, rfl, rfl, rfl, fun k a => (f1 k (by omega)).trans (hJ k a), sEq_eq s1 (fun k hk => ?_)⟩
      unfold sKm
      by_cases c : (24 ≤ k ∧ k < 24 + 36 ∧ ((k : Int) - 24) ≠ -1) ∨ (60 ≤ k ∧ k < 60 + 36 ∧ ((k : Int) - 60) ≠ -1)
      · rw [if_pos c, bX_0 (by omega) (by omega)]
      · rw [if_neg c]
        unfold gB
        rw [if_pos (by omega)]
    | succ j ih =>
      intro m y J hj hm hy hJ hsJ
      have hLJ : cHas o J R A := cHas_fr (fun k a b => hJ k (by omega)) hL
      have cy : y.toNatClampNeg = m := by rw [tcn]; omega
      have vy : vp_in y 6 := vin (by omega) (by omega)
      have hn5 := (cHas_n hLJ).2.1
      have sy : (y + 1).toInt = (m + 1 : Nat) := by rw [i_s (by omega)]; omega
      have lastly : ∀ (J2 : qMI), (∀ k, (k < 21 ∨ 27 < k) → J2 k = I k) → sEq J2 21 (tU (gB A m f) m (bX A m)) → wkB l G (d + 2 + 1) n_X4_begin (fun r t I' L' R' => t = 336 ∧ r = none ∧ R' = R ∧ L' = L ∧ (∀ k, (k < 21 ∨ 27 < k) → I' k = I k) ∧ sEq I' 21 (bX A)) 63 [.ref 21, .ref o, .int y] [.int (bX A (6 + m)), .int y, .ref (21 + 2)] J2 L R := by
        intro J2 hJ2 hs2
        refine w_X4_begin_63 ho hb vy (hB 3 (by decide) (by decide)) vy (hB 4 (by decide) (by decide)) vy (ih (m + 1) _ _ (by omega) (by omega) sy (fun k a => by rw [qUp_ro (by omega), qUp_ro (by omega), qUp_ro (by omega)]; exact hJ2 k a) ?_)
        rw [cy]
        refine sEq_eq (sEq_up (x := 0) (sEq_up (x := 0) (sEq_up (x := bX A (6 + m)) hs2 (k := 6 + m) (by omega) (sI2 (by omega))) (k := 12 + m) (by omega) (sI3 (by omega))) (k := 18 + m) (by omega) (sI4 (by omega))) (fun k hk => ?_)
        by_cases c4 : k = 18 + m
        · rw [c4, tU_s]
          unfold gB
          rw [if_pos (by omega), bX_0 (by omega) (by omega)]
        rw [tU_o c4]
        by_cases c3 : k = 12 + m
        · rw [c3, tU_s]
          unfold gB
          rw [if_pos (by omega), bX_0 (by omega) (by omega)]
        rw [tU_o c3]
        by_cases c2 : k = 6 + m
        · rw [c2, tU_s]
          unfold gB
          rw [if_pos (by omega)]
        rw [tU_o c2]
        by_cases c1 : k = m
        · rw [c1, tU_s]
          unfold gB
          rw [if_pos (by omega)]
        rw [tU_o c1]
        unfold gB
        by_cases c : k = 96 ∨ (k < 24 ∧ k % 6 < m)
        · rw [if_pos c, if_pos (by omega)]
        · rw [if_neg c, if_neg (by omega)]
      have mid : ∀ (J2 : qMI), (∀ k, (k < 21 ∨ 27 < k) → J2 k = I k) → sEq J2 21 (gB A m f) → wkB l G (d + 2 + 1) n_X4_begin (fun r t I' L' R' => t = 336 ∧ r = none ∧ R' = R ∧ L' = L ∧ (∀ k, (k < 21 ∨ 27 < k) → I' k = I k) ∧ sEq I' 21 (bX A)) 39 [.ref 21, .ref o, .int y] [.int (bX A m), .int y, .ref (21 + 1)] J2 L R := by
        intro J2 hJ2 hs2
        have e5 : ∀ x : Int32, (qUp J2 (21 + 1) m x) o 5 = I o 5 := fun x => by rw [qUp_ro (by omega), hJ2 o (by omega)]
        have hnI := (cHas_n hL).2.1
        have hsu := sEq_up (x := bX A m) hs2 (k := m) (by omega) (sI1 (by omega))
        have fru : ∀ k, (k < 21 ∨ 27 < k) → (qUp J2 (21 + 1) m (bX A m)) k = I k := fun k a => by rw [qUp_ro (by omega)]; exact hJ2 k a
        refine w_X4_begin_39 ho hb vy (hB 2 (by decide) (by decide)) (fun q => ?_) (fun q => ?_)
        · rw [cy] at q ⊢
          rw [e5] at q
          have q := i_le.mp q
          have k := lastly _ fru hsu
          rw [bX_c (by omega), if_neg (by omega)] at k
          exact w_X4_begin_62 ho hb k
        · rw [cy] at q ⊢
          rw [e5] at q
          have q := nle q
          have k := lastly _ fru hsu
          rw [bX_c (by omega), if_pos (by omega)] at k
          refine w_X4_begin_53 ho hb hF.2.2.2.2 vy ?_
          rw [cy, qUp_ro (by omega), hJ2 (o + 5) (by omega), (cRow_x hD.2.1 (by omega)).2]
          exact k
      refine w_X4_begin_10 ho hb (fun q => absurd (i_le.mp q) (by rw [show (6 : Int32).toInt = 6 from rfl]; omega)) (fun _ => w_X4_begin_16 ho hb (hB 1 (by decide) (by decide)) (fun q => ?_) (fun q => ?_))
      · have q := i_le.mp q
        have k := mid J hJ hsJ
        rw [bX_x (by omega), if_neg (by omega)] at k
        exact w_X4_begin_38 ho hb k
      · have q := nle q
        have k := mid J hJ hsJ
        rw [bX_x (by omega), if_pos (by omega)] at k
        refine w_X4_begin_29 ho hb hF.2.2.2.1 vy ?_
        rw [cy, hJ (o + 4) (by omega), (cRow_x hD.2.1 (by omega)).1]
        exact k
  refine wkC_of 1 (by decide) (Nat.le_of_ble_eq_true rfl) (w_X4_begin_0 ho hb (loop 6 0 0 _ rfl (by decide) rfl (fun k a => qUp_ro (by omega)) (sEq_eq (sEq_up (x := I o 10) hs (k := 96) (by omega) sI0) (fun k hk => ?_))))
  unfold gB
  by_cases c : k = 96
  · rw [c, tU_s, if_pos (Or.inl rfl), bX_96]
    exact hD.2.2.1 10 (by decide) (by decide)
  · rw [tU_o c, if_neg (by omega)]
end
