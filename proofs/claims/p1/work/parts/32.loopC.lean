/-! ===== the class's loop over where it can stand ===== -/
/-- the most so far, and how many at each -/
noncomputable def ziC (f w s : Nat) : Nat × List Nat := Nat.rec (motive := fun _ => Nat × List Nat) (0, []) (fun s q => (max q.1 (Nat.succ (zn 0 q.2 (zsC f (Nat.div s 9) w))), zs 0 q.2 (zsC f (Nat.div s 9) w) (Nat.succ (zn 0 q.2 (zsC f (Nat.div s 9) w))))) s
theorem ziC_s (f w s : Nat) : ziC f w (s + 1) = (max (ziC f w s).1 (zn 0 (ziC f w s).2 (zsC f (s / 9) w) + 1), zs 0 (ziC f w s).2 (zsC f (s / 9) w) (zn 0 (ziC f w s).2 (zsC f (s / 9) w) + 1)) := rfl
theorem ziC_le (f w : Nat) : ∀ s, (ziC f w s).1 ≤ s ∧ ∀ j, zn 0 (ziC f w s).2 j ≤ s
  | 0 => ⟨Nat.le_refl 0, fun j => Nat.le_refl 0⟩
  | s + 1 => by
    obtain ⟨h1, h2⟩ := ziC_le f w s
    rw [ziC_s]
    have h3 := h2 (zsC f (s / 9) w)
    refine ⟨Nat.max_le.mpr ⟨by omega, by omega⟩, fun j => ?_⟩
    show zn 0 (zs 0 (ziC f w s).2 _ _) j ≤ s + 1
    rw [zn_zs]
    have h4 := h2 j
    split <;> omega
theorem zsC_lt {x y w : Nat} (hy : y < 20) : zsC x y w < 21 := by
  unfold zsC
  cases Nat.ble w (zds x y) with
  | true => rw [cond_true]; omega
  | false => rw [cond_false]; omega
def zLvC (lv : qLv) (f h w u s : Int32) : Prop := qLk 0 lv = some (.ref 249) ∧ qLk 1 lv = some (.ref 259) ∧ qLk 2 lv = some (.int f) ∧ qLk 3 lv = some (.int h) ∧ qLk 4 lv = some (.int w) ∧ qLk 5 lv = some (.int u) ∧ qLk 6 lv = some (.int s)
/-- the cells that a run of it may change: the laws' two, and the split -/
def zFrC (I0 : qMI) (L0 : qML) (R0 : qMR) (I : qMI) (L : qML) (R : qMR) : Prop := (∀ k, zcell (zP zLC) k = 31 → k ≠ 254 → I k = I0 k) ∧ (∀ k, zcell (zP zLC) k = 31 → R k = R0 k) ∧ ∀ k, zcell (zP zLC) k = 31 → L k = L0 k
theorem zLC_n {k : Nat} (h : k < 265 ∨ 270 < k) : zcell (zP zLC) k = 31 := by
  have e : ∀ q : List (Nat × Nat), (∀ x ∈ q, x.1 ≠ k) → zcell (zP q) k = 31 := by
    intro q
    induction q with
    | nil => intro _; rfl
    | cons x q ih =>
      intro hq
      have e1 : zP (x :: q) = zput (zP q) x.1 x.2 := rfl
      rw [e1, zcell_put, if_neg (fun e => hq x List.mem_cons_self e.symm)]
      exact ih (fun y hy => hq y (List.mem_cons_of_mem _ hy))
  refine e zLC (fun x hx => ?_)
  simp only [zLC, List.mem_cons, List.not_mem_nil, or_false] at hx
  rcases hx with rfl | rfl | rfl | rfl | rfl | rfl
  all_goals (show _ ≠ k; omega)
section ZLC
variable {l : Launch} {G : qG} {d : Nat} {Q : qQ}
theorem zM_part254 {g0 : zGh} {I : qMI} {L : qML} {R : qMR} {j : Nat} {x : Int32} (h : zM g0 336 (zP zLC) I L R) : zM (qUp I 254 j x, L, R) 336 (zP zLC) (qUp I 254 j x) L R := by
  refine ⟨fun k hk => ?_, fun _ _ => ⟨rfl, rfl, rfl⟩⟩
  have hne : k ≠ 254 := fun e => by
    subst e
    exact absurd hk (zn15 (zLC_n (by omega)))
  obtain ⟨h1, h2, h3, h4⟩ := h.1 k hk
  refine ⟨h1, h2, h3, fun i => ?_⟩
  rw [zup_o (fun q => hne q.1)]
  exact h4 i
theorem zstepC {f w h s : Nat} {I0 : qMI} {L0 : qML} {R0 : qMR} (hf : f < 20) (hw : w < 24) (hh : h ≤ 24) (hs : s < 180) (a4 : R0 249 4 = some 253) (a5 : R0 249 5 = some 254) (a12 : R0 259 12 = some 265) (a253 : ∀ j, j < 180 → I0 253 j = 1)
    (ih : ∀ (lv : qLv) (I : qMI) (L : qML) (R : qMR), zLvC lv (nI f) (nI h) (nI w) (nI (ziC f w (s + 1)).1) (nI (s + 1)) → zM (I, L, R) 336 (zP zLC) I L R → zFrC I0 L0 R0 I L R → (∀ j, I 254 j = nI (zn 0 (ziC f w (s + 1)).2 j)) → qAb l G (d + 5) n_X7_worstLeft Q 30 lv [] 0 0 336 I L R)
    (lv : qLv) (I : qMI) (L : qML) (R : qMR) (hv : zLvC lv (nI f) (nI h) (nI w) (nI (ziC f w s).1) (nI s)) (hm : zM (I, L, R) 336 (zP zLC) I L R) (hF : zFrC I0 L0 R0 I L R) (hI : ∀ j, I 254 j = nI (zn 0 (ziC f w s).2 j)) : qAb l G (d + 5) n_X7_worstLeft Q 30 lv [] 0 0 336 I L R := by
  obtain ⟨v0, v1, v2, v3, v4, v5, v6⟩ := hv
  obtain ⟨b1, b2⟩ := ziC_le f w s
  have r4 : R 249 4 = some 253 := by rw [hF.2.1 249 (zLC_n (by omega))]; exact a4
  have r5 : R 249 5 = some 254 := by rw [hF.2.1 249 (zLC_n (by omega))]; exact a5
  have r12 : R 259 12 = some 265 := by rw [hF.2.1 259 (zLC_n (by omega))]; exact a12
  have r253 : I 253 s = 1 := by rw [hF.1 253 (zLC_n (by omega)) (by omega)]; exact a253 s hs
  refine q_iload (i := 6) (zd (i := .iload 6) (n := 2) (by decide +kernel)) v6 ?_
  refine q_sipush (n := 180) (v := 180) (zd (i := .sipush (180)) (n := 3) (by decide +kernel)) (by decide) ?_
  refine q_icmp_ge (off := 76) (tgt := 111) (zd (i := .if_icmp .ge (76)) (n := 3) (by decide +kernel)) (by decide) (fun q => absurd q ?_) (fun _ => ?_)
  · exact fun q => by have := (zI_le (a := 180) (b := s) (by omega) (by omega)).mp q; omega
  refine q_aload_n (n := 0) (i := 0) (zd (i := .aload_n 0) (n := 1) (by decide +kernel)) rfl v0 rfl ?_
  refine q_getf (k := 249) (ci := 7) (j := 4) (idx := 25) (zd (i := .getfield 25) (n := 3) (by decide +kernel)) (by omega) (by decide +kernel) (by omega) (by decide) g434 ?_
  rw [if_pos (show qIsR (qTy 7 4) = true from rfl), r4]
  refine q_iload (i := 6) (zd (i := .iload 6) (n := 2) (by decide +kernel)) v6 ?_
  refine q_zald (k := 253) (zd (i := .baload) (n := 1) (by decide +kernel)) (by omega) (by decide +kernel) (zI_in (by omega) (by show s < 180; exact hs)) ?_
  rw [nI_clamp (by omega), r253]
  refine q_if_eq (off := 60) (tgt := 105) (zd (i := .ifCond .eq (60)) (n := 3) (by decide +kernel)) (by decide) (fun q => absurd q (by decide)) (fun _ => ?_)
  refine q_aload_n (n := 1) (i := 1) (zd (i := .aload_n 1) (n := 1) (by decide +kernel)) rfl v1 rfl ?_
  refine q_getf (k := 259) (ci := 0) (j := 12) (idx := 42) (zd (i := .getfield 42) (n := 3) (by decide +kernel)) (by omega) (by decide +kernel) (by omega) (by decide) g305 ?_
  rw [if_pos (show qIsR (qTy 0 12) = true from rfl), r12]
  refine q_iload_n (n := 3) (i := 3) (zd (i := .iload_n 3) (n := 1) (by decide +kernel)) rfl v3 ?_
  refine q_iload (i := 4) (zd (i := .iload 4) (n := 2) (by decide +kernel)) v4 ?_
  refine q_iload_n (n := 2) (i := 2) (zd (i := .iload_n 2) (n := 1) (by decide +kernel)) rfl v2 ?_
  refine q_iload (i := 6) (zd (i := .iload 6) (n := 2) (by decide +kernel)) v6 ?_
  refine q_callS (N := n_X7_xOf) (As := [.int (nI s)]) (st := [.int (nI f), .int (nI w), .int (nI h), .ref 265]) (zd (i := .invokestatic 46) (n := 3) (by decide +kernel)) to_X7_xOf g1051 g1052 (Nat.le_of_ble_eq_true rfl) (Nat.le_refl 0) (Nat.le_refl 0) (zxOf hs) ?_
  intro r t I1 L1 R1 hq
  obtain ⟨rfl, rfl, rfl, rfl, rfl⟩ := hq
  refine q_iload (i := 6) (zd (i := .iload 6) (n := 2) (by decide +kernel)) v6 ?_
  refine q_callS (N := n_X7_tallOf) (As := [.int (nI s)]) (st := [.int (nI (s / 9)), .int (nI f), .int (nI w), .int (nI h), .ref 265]) (zd (i := .invokestatic 49) (n := 3) (by decide +kernel)) to_X7_tallOf g1054 g1055 (Nat.le_of_ble_eq_true rfl) (Nat.le_refl 0) (Nat.le_refl 0) (ztallOf hs) ?_
  intro r t I2 L2 R2 hq
  obtain ⟨rfl, rfl, rfl, rfl, rfl⟩ := hq
  refine q_callV (N := n_X2_aim) (As := [.int (nI h), .int (nI w), .int (nI f), .int (nI (s / 9)), .int (nI (s % 9 + 1))]) (st := []) (b := .ref 265) (a := G.1 + 265) (zd (i := .invokevirtual 52) (n := 3) (by decide +kernel)) to_X2_aim g1057 g750 g751 (Nat.le_of_ble_eq_true rfl) (Nat.le_refl 0) (Nat.le_refl 0) rfl (qRecv (ci := 2) (by omega) (by decide +kernel) (by omega) rfl) (zaimspot (x := f) (y := s / 9) (w := w) (h := h) hf (by omega) hw hh ⟨by rw [zb_nIs (by omega)]; show 2147483649 ≤ _; omega, by rw [zb_nIs (by omega)]; show _ ≤ 2147483657; omega⟩ hm) ?_
  intro r t I1 L1 R1 hq
  obtain ⟨rfl, rfl, hm1, hq2⟩ := hq
  have r12 : R1 259 12 = some 265 := by rw [(hm1.2 259 (zn15 (zLC_n (by omega)))).2.2]; exact r12
  refine q_aload_n (n := 1) (i := 1) (zd (i := .aload_n 1) (n := 1) (by decide +kernel)) rfl v1 rfl ?_
  refine q_getf (k := 259) (ci := 0) (j := 12) (idx := 42) (zd (i := .getfield 42) (n := 3) (by decide +kernel)) (by omega) (by decide +kernel) (by omega) (by decide) g305 ?_
  rw [if_pos (show qIsR (qTy 0 12) = true from rfl), r12]
  refine q_callV (N := n_X2_spot) (As := []) (st := []) (b := .ref 265) (a := G.1 + 265) (zd (i := .invokevirtual 58) (n := 3) (by decide +kernel)) to_X2_spot g1058 g906 g907 (Nat.le_of_ble_eq_true rfl) (Nat.le_refl 0) (Nat.le_refl 0) rfl (qRecv (ci := 2) (by omega) (by decide +kernel) (by omega) rfl) hq2 ?_
  intro r t I2 L2 R2 hq
  obtain ⟨⟨v, rfl, hv⟩, rfl, hm2⟩ := hq
  have fr : ∀ k, (k < 265 ∨ 270 < k) → I2 k = I k ∧ R2 k = R k := fun k hk => ⟨(hm2.2 k (zn15 (zLC_n hk))).1, (hm2.2 k (zn15 (zLC_n hk))).2.2⟩
  have r5 : R2 249 5 = some 254 := by rw [(fr 249 (by omega)).2]; exact r5
  have hj := zsC_lt (x := f) (y := s / 9) (w := w) (by omega)
  refine q_iconst (n := 1) (v := 1) (zd (i := .iconst (1)) (n := 1) (by decide +kernel)) (by decide) ?_
  refine q_iadd (zd (i := .iadd) (n := 1) (by decide +kernel)) ?_
  rw [hv]
  refine q_istore (i := 7) (zd (i := .istore 7) (n := 2) (by decide +kernel)) (by decide) ?_
  refine q_aload_n (n := 0) (i := 0) (zd (i := .aload_n 0) (n := 1) (by decide +kernel)) rfl (qLk_st v0 (by decide) rfl) rfl ?_
  refine q_getf (k := 249) (ci := 7) (j := 5) (idx := 29) (zd (i := .getfield 29) (n := 3) (by decide +kernel)) (by omega) (by decide +kernel) (by omega) (by decide) g435 ?_
  rw [if_pos (show qIsR (qTy 7 5) = true from rfl), r5]
  refine q_iload (i := 7) (zd (i := .iload 7) (n := 2) (by decide +kernel)) qLk_s0 ?_
  refine q_dup2 (zd (i := .dup2) (n := 1) (by decide +kernel)) rfl rfl ?_
  refine q_iald (k := 254) (zd (i := .iaload) (n := 1) (by decide +kernel)) (by omega) (by decide +kernel) (zI_in (by omega) (by show zsC f (s / 9) w < 21; exact hj)) ?_
  rw [nI_clamp (by omega), (fr 254 (by omega)).1, hI, show nI (zn 0 (ziC f w s).2 (zsC f (s / 9) w)) = nI (zn 0 (ziC f w s).2 (zsC f (s / 9) w)) from rfl]
  refine q_iconst (n := 1) (v := 1) (zd (i := .iconst (1)) (n := 1) (by decide +kernel)) (by decide) ?_
  refine q_iadd (zd (i := .iadd) (n := 1) (by decide +kernel)) ?_
  rw [← nI_succ]
  refine q_iast (k := 254) (zd (i := .iastore) (n := 1) (by decide +kernel)) (by omega) (by decide +kernel) (zI_in (by omega) (by show zsC f (s / 9) w < 21; exact hj)) ?_
  rw [nI_clamp (by omega)]
  refine q_iload (i := 5) (zd (i := .iload 5) (n := 2) (by decide +kernel)) (qLk_st v5 (by decide) rfl) ?_
  refine q_aload_n (n := 0) (i := 0) (zd (i := .aload_n 0) (n := 1) (by decide +kernel)) rfl (qLk_st v0 (by decide) rfl) rfl ?_
  refine q_getf (k := 249) (ci := 7) (j := 5) (idx := 29) (zd (i := .getfield 29) (n := 3) (by decide +kernel)) (by omega) (by decide +kernel) (by omega) (by decide) g435 ?_
  rw [if_pos (show qIsR (qTy 7 5) = true from rfl), r5]
  refine q_iload (i := 7) (zd (i := .iload 7) (n := 2) (by decide +kernel)) qLk_s0 ?_
  refine q_iald (k := 254) (zd (i := .iaload) (n := 1) (by decide +kernel)) (by omega) (by decide +kernel) (zI_in (by omega) (by show zsC f (s / 9) w < 21; exact hj)) ?_
  rw [nI_clamp (by omega), zup_s]
  refine q_max (idx := 66) (zd (i := .invokestatic 66) (n := 3) (by decide +kernel)) g1079 g575 g111 g576 (Nat.le_of_ble_eq_true rfl) (Nat.le_refl 0) (Nat.le_refl 0) ?_
  rw [zI_max (by omega) (by have := b2 (zsC f (s / 9) w); omega)]
  refine q_istore (i := 5) (zd (i := .istore 5) (n := 2) (by decide +kernel)) (by decide) ?_
  refine q_iinc (i := 6) (n := 1) (v := 1) (zd (i := .iinc 6 (1)) (n := 3) (by decide +kernel)) (qLk_st (qLk_st v6 (by decide) rfl) (by decide) rfl) (by decide) (by decide) ?_
  refine q_goto (off := -78) (tgt := 30) (zd (i := .goto (-78)) (n := 3) (by decide +kernel)) (by decide) ?_
  refine ih _ _ _ _ ?_ (zM_part254 hm2) ⟨fun k h1 h2 => ?_, fun k h1 => ?_, fun k h1 => ?_⟩ (fun j => ?_)
  · refine ⟨qLk_st (qLk_st (qLk_st v0 (by decide) rfl) (by decide) rfl) (by decide) rfl, qLk_st (qLk_st (qLk_st v1 (by decide) rfl) (by decide) rfl) (by decide) rfl, qLk_st (qLk_st (qLk_st v2 (by decide) rfl) (by decide) rfl) (by decide) rfl, qLk_st (qLk_st (qLk_st v3 (by decide) rfl) (by decide) rfl) (by decide) rfl, qLk_st (qLk_st (qLk_st v4 (by decide) rfl) (by decide) rfl) (by decide) rfl, qLk_st qLk_s0 (by decide) rfl, ?_⟩
    rw [nI_succ s]
    exact qLk_s0
  · rw [show qUp I2 254 (zsC f (s / 9) w) (nI (zn 0 (ziC f w s).2 (zsC f (s / 9) w) + 1)) k = I2 k from funext fun i => zup_o (fun q => h2 q.1)]
    rw [(hm2.2 k (zn15 h1)).1]
    exact hF.1 k h1 h2
  · rw [(hm2.2 k (zn15 h1)).2.2]
    exact hF.2.1 k h1
  · rw [(hm2.2 k (zn15 h1)).2.1]
    exact hF.2.2 k h1
  · rw [ziC_s]
    show _ = nI (zn 0 (zs 0 _ _ _) j)
    rw [zn_zs]
    by_cases hjj : j = zsC f (s / 9) w
    · rw [if_pos hjj, hjj, zup_s]
    · rw [if_neg hjj, zup_o (fun q => hjj q.2), (fr 254 (by omega)).1]
      exact hI j
theorem zloopC {f w h : Nat} {I0 : qMI} {L0 : qML} {R0 : qMR} (hf : f < 20) (hw : w < 24) (hh : h ≤ 24) (a4 : R0 249 4 = some 253) (a5 : R0 249 5 = some 254) (a12 : R0 259 12 = some 265) (a253 : ∀ j, j < 180 → I0 253 j = 1)
    (he : ∀ (I : qMI) (L : qML) (R : qMR), zM (I, L, R) 336 (zP zLC) I L R → zFrC I0 L0 R0 I L R → (∀ j, I 254 j = nI (zn 0 (ziC f w 180).2 j)) → Q (some (.int (nI (ziC f w 180).1))) 336 I L R) : ∀ (n s : Nat), n + s = 180 → ∀ (lv : qLv) (I : qMI) (L : qML) (R : qMR), zLvC lv (nI f) (nI h) (nI w) (nI (ziC f w s).1) (nI s) → zM (I, L, R) 336 (zP zLC) I L R → zFrC I0 L0 R0 I L R → (∀ j, I 254 j = nI (zn 0 (ziC f w s).2 j)) → qAb l G (d + 5) n_X7_worstLeft Q 30 lv [] 0 0 336 I L R
  | 0, s, hns, lv, I, L, R, hv, hm, hF, hI => by
    obtain rfl : s = 180 := by omega
    obtain ⟨v0, v1, v2, v3, v4, v5, v6⟩ := hv
    refine q_iload (i := 6) (zd (i := .iload 6) (n := 2) (by decide +kernel)) v6 ?_
    refine q_sipush (n := 180) (v := 180) (zd (i := .sipush 180) (n := 3) (by decide +kernel)) (by decide) ?_
    refine q_icmp_ge (off := 76) (tgt := 111) (zd (i := .if_icmp .ge 76) (n := 3) (by decide +kernel)) (by decide) (fun _ => ?_) (fun q => absurd ((zI_le (a := 180) (b := 180) (by omega) (by omega)).mpr (Nat.le_refl _)) q)
    refine q_iload (i := 5) (zd (i := .iload 5) (n := 2) (by decide +kernel)) v5 ?_
    exact q_iret (zd (i := .ireturn) (n := 1) (by decide +kernel)) rfl rfl (Nat.le_refl 0) (Nat.le_refl 0) (he I L R hm hF hI)
  | n + 1, s, hns, lv, I, L, R, hv, hm, hF, hI => zstepC hf hw hh (by omega) a4 a5 a12 a253 (fun lv I L R => zloopC hf hw hh a4 a5 a12 a253 he n (s + 1) (by omega) lv I L R) lv I L R hv hm hF hI
end ZLC
/-! facts out of a cell that is known -/
theorem zcR {gh : zGh} {t k m j : Nat} {A : zAm} {I : qMI} {L : qML} {R : qMR} (hm : zM gh t A I L R) (h : Nat.beq (zcell A k) m = true) (ht : ztag m < 15) (hd : zkd (ztag m) j = 2) : R k j = zdr (zraw m j) := by
  have e := Nat.eq_of_beq_eq_true h
  subst e
  exact ((hm.1 k ht).2.2.2 j).2.2 hd
theorem zcI {gh : zGh} {t k m j : Nat} {A : zAm} {I : qMI} {L : qML} {R : qMR} (hm : zM gh t A I L R) (h : Nat.beq (zcell A k) m = true) (ht : ztag m < 15) (hd : zkd (ztag m) j = 0) {c : Nat} (hc : Nat.xor (zraw m j) 2147483648 = c) (hk : zk c = true) : I k j = zc c := by
  have e := Nat.eq_of_beq_eq_true h
  subst e
  have h1 := ((hm.1 k ht).2.2.2 j).1 hd
  rw [hc] at h1
  rw [← zk_in hk h1, zc_zb]
theorem ziC_0 {f w : Nat} : ∀ s, s ≤ 180 → ∀ j, 21 ≤ j → zn 0 (ziC f w s).2 j = 0
  | 0, _, _, _ => rfl
  | s + 1, hs, j, hj => by
    rw [ziC_s]
    show zn 0 (zs 0 _ _ _) j = 0
    have := zsC_lt (x := f) (y := s / 9) (w := w) (by omega)
    rw [zn_zs, if_neg (by omega)]
    exact ziC_0 s (by omega) j hj
def zLC2 : List (Nat × Nat) := (254, 603956061934804634451453733175096387923440081337503777572349811074072523644317239769846874534006866792888139351298171136597960160418760712071422776488729266276345352431776733681456162498534233747613682707758185347764973732510337285842270846252736433119026342641624458765085932960293790280651038254702767666676401078322919902135002149605301450001911836098646799864617153444361279084628960808394755696681841328810) :: zLC
def zT249 : Nat := 74859794825915934140998315655429490661373921634975688667909032746616141081831220404659388062056476893520068807
def zT259 : Nat := 7265041773142184906363865400655276335269911403462785313445497151198142075942871930486152481428291654254341677436991893846909972086604171754228044120474053822579757335666472872732344014006782763708984028793680674114037109494302574299789388735840672
def zT253 : Nat := 130905957507887367200600225863569870213545349011568297669436394522560306240962644588750804762352247275886320379261665776845126681325500249596990675753089189605967111012124474915585395691468424578769125477897501196886919024411668584711844542374849602916727926389964475093842216873920002161974246102533710546884043898630222908516572388956767018163954916384681758200653710923728562635075301376062453170440375900883177701763489137871483402838497502072389934346648836442339455826789391022115541333092181064406769279538243975806261340432951570809806585603906574184862145268399958852709733166805723374260126357038326200213283911727869338769948592141397286121956586537915016661100612916371341726677252613792684065395797852694576532248243214470133415478341244085060769119766182143783346393202129175080090411183448482967887035930353972923518857880753551553103433235285525029838795657225022338200197671503452160663967924381115825171857820088621710376169199804885528956401531410796954982632920913451742489874865792124229815900152621595828551078315471750755782932251380347970360103840087101395696738036080501264500620749550350831310106018310477237461058496151825344944757875876076346157592880196656800884527716026446708597213140553091614234960615285494871071025644721476866284062673742278810387121153360846008995168866281213323664583360720005057241563098047098237975229582073776883576887732173013929282326867279435348989067436982752888690344748443582634278881778263621425466008458491785310464906427938321396553426306777151887182947536952836337933757468091025810849156063775087117176366442856452537075856338388197324301965652833979258998323048437300182581408855285191507535671496366604930955455054796330542146956748909390241610182125546044355368008088997302848329171107121609543842038382036977933017046738595546839427282094282382895876826157917216663183419772783983226539025276418185473608399032542707169178254205607278264175877943245285794615039717207541066831081273082736074894720806580128520207596911816169507587383311089736818527518821348090065445463512091858980702575772113156076225725225534268111750270281584989008513363902375392485612724542897233651946453433975675954289628991705009763958829325763883980252747530258327559947328876058596253486187973971918468601004049046475502655649609707616191994327474111071005908710865895103790969329436435587268990701649004789821507381358087257256467726541511799609149952469364232691740414019188380332436410013091468204996063534388422790087818712715051527113254325476646030668564456992101105026926363631700271578048865950984287064243038988379838371347056589011487339490235773347956328158245765542576736731211329413743477017040798283243985134781636932015466945413347805061504829003601540444605434054028663266470653202780076596171249414902451648505222610561484947918931676654141184985579876475989676301172402253669989713129417429193129724609200682586781462722635769034461674404043752486208013670697313616408066451374896475350177743556571215108033111342080619443098428533062001408131158880464386254663010868038306892055679046839056689682828331745764104742600326355955939658281695149427346094396722678683031512239844012869757465605509676015994790852358026934946516768228066646097816971477702185513153737271090150128162282709422048469936441212696493050724978827208541853564835228900032385314412287245996764037989243637481957827213185276062103849293898239089580414004700334268749693864226324414964806933492419649320790410327574245083753093494662141313886354547474570762384343155880230917772
def zT254 : Nat := 682
/-- a known int less than a bound, as a number from 0 on -/
noncomputable def zkn (x : zX) (n : Nat) (g : Nat → Bool) : Bool := zI x (fun c => bif zk c then (bif Nat.ble 2147483648 c then (bif Nat.ble (Nat.succ (Nat.sub c 2147483648)) n then g (Nat.sub c 2147483648) else false) else false) else false)
theorem zkn_t {x : zX} {n : Nat} {g : Nat → Bool} {v : Value} (h : zkn x n g = true) (hg : zg x v) (hn : n < 2 ^ 31) : ∃ a, a < n ∧ v = .int (nI a) ∧ g a = true := by
  obtain ⟨c, y, rfl, h1, h2⟩ := zI_t h hg
  obtain ⟨h3, h4⟩ := zand h2
  obtain ⟨h5, h6⟩ := zand h4
  obtain ⟨h7, h8⟩ := zand h6
  have e3 := zk_in h3 h1
  have e5 := Nat.le_of_ble_eq_true h5
  have e7 := Nat.le_of_ble_eq_true h7
  rw [zsub_e] at e7 h8
  refine ⟨c - 2147483648, by omega, ?_, h8⟩
  rw [show y = nI (c - 2147483648) from zb_inj (by rw [e3, zb_nIs (by omega)]; omega)]
theorem zkn_nd {x : zX} {n : Nat} {g : Nat → Bool} (h : zkn x n g = true) : x ≠ zdum := fun e => by subst e; cases h
theorem zR_nd {x : zX} {f : Nat → Bool} (h : zR x f = true) : x ≠ zdum := fun e => by subst e; cases h
noncomputable def gC : zBl := fun _ K lv st ce sl t A => zR (zn zdum lv 0) (fun a0 => zR (zn zdum lv 1) (fun a1 => zkn (zn zdum lv 2) 20 (fun f => zkn (zn zdum lv 3) 25 (fun _ => zkn (zn zdum lv 4) 24 (fun w => zkn (zn zdum lv 5) 1 (fun _ => zkn (zn zdum lv 6) 1 (fun _ => zE st (
  bif Nat.beq a0 249 then (bif Nat.beq a1 259 then (bif Nat.beq ce 0 then (bif Nat.beq sl 0 then (bif Nat.beq t 336 then (bif zhas A zLC2 then (bif Nat.beq (zcell A 249) zT249 then (bif Nat.beq (zcell A 259) zT259 then (bif Nat.beq (zcell A 253) zT253 then (bif Nat.beq (zcell A 254) zT254 then
  K (some (.inl (Nat.add (ziC f w 180).1 2147483648))) 336 (zmrg A zLC2) else false) else false) else false) else false) else false) else false) else false) else false) else false) else false))))))))
theorem zT253_1 : ∀ j, j < 180 → Nat.xor (zraw zT253 j) 2147483648 = 2147483649 := by decide +kernel
theorem gC_ok {l : Launch} {G : qG} {gh : zGh} {d : Nat} : zPb l G gh (d + 5) n_X7_worstLeft p_X7_worstLeft 30 gC := by
  intro K jp hj lv st ce sl t A h lv' st' I L R hl hs hm
  have x0 := zgl_get hl (zR_nd h)
  obtain ⟨v0, k0, z0⟩ := x0
  obtain ⟨a0, rfl, h⟩ := zR_t h z0
  obtain ⟨v1, k1, z1⟩ := zgl_get hl (zR_nd h)
  obtain ⟨a1, rfl, h⟩ := zR_t h z1
  obtain ⟨v2, k2, z2⟩ := zgl_get hl (zkn_nd h)
  obtain ⟨f, hf, rfl, h⟩ := zkn_t h z2 (by omega)
  obtain ⟨v3, k3, z3⟩ := zgl_get hl (zkn_nd h)
  obtain ⟨hr, hh, rfl, h⟩ := zkn_t h z3 (by omega)
  obtain ⟨v4, k4, z4⟩ := zgl_get hl (zkn_nd h)
  obtain ⟨w, hw, rfl, h⟩ := zkn_t h z4 (by omega)
  obtain ⟨v5, k5, z5⟩ := zgl_get hl (zkn_nd h)
  obtain ⟨u, hu, rfl, h⟩ := zkn_t h z5 (by omega)
  obtain ⟨v6, k6, z6⟩ := zgl_get hl (zkn_nd h)
  obtain ⟨s, hs6, rfl, h⟩ := zkn_t h z6 (by omega)
  obtain ⟨rfl, h⟩ := zE_t h hs
  obtain ⟨b1, h⟩ := zand h
  obtain ⟨b2, h⟩ := zand h
  obtain ⟨b3, h⟩ := zand h
  obtain ⟨b4, h⟩ := zand h
  obtain ⟨b5, h⟩ := zand h
  obtain ⟨b6, h⟩ := zand h
  obtain ⟨b7, h⟩ := zand h
  obtain ⟨b8, h⟩ := zand h
  obtain ⟨b9, h⟩ := zand h
  obtain ⟨b10, hK⟩ := zand h
  have e1 := Nat.eq_of_beq_eq_true b1
  have e2 := Nat.eq_of_beq_eq_true b2
  have e3 := Nat.eq_of_beq_eq_true b3
  have e4 := Nat.eq_of_beq_eq_true b4
  have e5 := Nat.eq_of_beq_eq_true b5
  subst e1 e2 e3 e4 e5
  obtain rfl : u = 0 := by omega
  obtain rfl : s = 0 := by omega
  have hP2 := zM_part hm.1 b6
  have hbC : zhas A zLC = true := (zand (zand (show (bif zrel (zcell A 254) 603956061934804634451453733175096387923440081337503777572349811074072523644317239769846874534006866792888139351298171136597960160418760712071422776488729266276345352431776733681456162498534233747613682707758185347764973732510337285842270846252736433119026342641624458765085932960293790280651038254702767666676401078322919902135002149605301450001911836098646799864617153444361279084628960808394755696681841328810 then (bif Nat.ble (ztag 603956061934804634451453733175096387923440081337503777572349811074072523644317239769846874534006866792888139351298171136597960160418760712071422776488729266276345352431776733681456162498534233747613682707758185347764973732510337285842270846252736433119026342641624458765085932960293790280651038254702767666676401078322919902135002149605301450001911836098646799864617153444361279084628960808394755696681841328810) 14 then zhas A zLC else false) else false) = true from b6)).2).2
  have hP := zM_part hm.1 hbC
  have a4 : R 249 4 = some 253 := (zcR hm.1 b7 (by decide +kernel) (by decide +kernel)).trans (by decide +kernel)
  have a5 : R 249 5 = some 254 := (zcR hm.1 b7 (by decide +kernel) (by decide +kernel)).trans (by decide +kernel)
  have a12 : R 259 12 = some 265 := (zcR hm.1 b8 (by decide +kernel) (by decide +kernel)).trans (by decide +kernel)
  have t253 : ztag zT253 = 12 := by decide +kernel
  have t254 : ztag zT254 = 10 := by decide +kernel
  have a253 : ∀ j, j < 180 → I 253 j = 1 := fun j hj => (zcI hm.1 b9 (by rw [t253]; omega) (by rw [t253]; rfl) (zT253_1 j hj) (by decide)).trans (by decide)
  have a254 : ∀ j, I 254 j = nI (zn 0 (ziC f w 0).2 j) := fun j => (zcI hm.1 b10 (by rw [t254]; omega) (by rw [t254]; rfl) (c := 2147483648) (by rw [show zraw zT254 j = 0 from zmk_raw (a := 10) (b := 21) (by omega) (by omega) j]; decide) (by decide)).trans (show zc 2147483648 = nI 0 by decide)
  refine zloopC (f := f) (w := w) (h := hr) (I0 := I) (L0 := L) (R0 := R) hf hw (by omega) a4 a5 a12 a253 ?_ 180 0 rfl lv' I L R ⟨k0, k1, k2, k3, k4, k5, k6⟩ hP ⟨fun _ _ _ => rfl, fun _ _ => rfl, fun _ _ => rfl⟩ a254
  intro I' L' R' hm' hF hI'
  have hb := (ziC_le f w 180).1
  refine ⟨some (.inl (Nat.add (ziC f w 180).1 2147483648)), _, ⟨_, rfl, zin_eq (zb_nIs (by omega))⟩, zM_mrg hm.1 b6 ?_, hK⟩
  have c254 : zcell (zP zLC2) 254 = 603956061934804634451453733175096387923440081337503777572349811074072523644317239769846874534006866792888139351298171136597960160418760712071422776488729266276345352431776733681456162498534233747613682707758185347764973732510337285842270846252736433119026342641624458765085932960293790280651038254702767666676401078322919902135002149605301450001911836098646799864617153444361279084628960808394755696681841328810 := by
    rw [show zP zLC2 = zput (zP zLC) 254 603956061934804634451453733175096387923440081337503777572349811074072523644317239769846874534006866792888139351298171136597960160418760712071422776488729266276345352431776733681456162498534233747613682707758185347764973732510337285842270846252736433119026342641624458765085932960293790280651038254702767666676401078322919902135002149605301450001911836098646799864617153444361279084628960808394755696681841328810 from rfl, zcell_put, if_pos rfl]
  have cN : ∀ k, k ≠ 254 → zcell (zP zLC2) k = zcell (zP zLC) k := fun k hk => by
    rw [show zP zLC2 = zput (zP zLC) 254 603956061934804634451453733175096387923440081337503777572349811074072523644317239769846874534006866792888139351298171136597960160418760712071422776488729266276345352431776733681456162498534233747613682707758185347764973732510337285842270846252736433119026342641624458765085932960293790280651038254702767666676401078322919902135002149605301450001911836098646799864617153444361279084628960808394755696681841328810 from rfl, zcell_put, if_neg hk]
  refine ⟨fun k hk => ?_, fun k hk => ?_⟩
  · by_cases hk4 : k = 254
    · subst hk4
      rw [c254]
      have et : 603956061934804634451453733175096387923440081337503777572349811074072523644317239769846874534006866792888139351298171136597960160418760712071422776488729266276345352431776733681456162498534233747613682707758185347764973732510337285842270846252736433119026342641624458765085932960293790280651038254702767666676401078322919902135002149605301450001911836098646799864617153444361279084628960808394755696681841328810 = ztcn 21 21 := by decide +kernel
      obtain ⟨t1, t2, t3⟩ := ztcn_t (len := 21) (by omega) 21
      rw [et, t1, t2]
      refine ⟨by omega, by decide +kernel, by decide +kernel, fun j => ⟨fun _ => ?_, fun q => (by cases q), fun q => (by cases q)⟩⟩
      rw [t3]
      by_cases hj : j < 21
      · rw [if_pos hj]; exact zin_top _
      · rw [if_neg hj, hI' j, ziC_0 180 (Nat.le_refl _) j (by omega)]
        exact zin_eq (by decide)
    · rw [cN k hk4] at hk ⊢
      exact hm'.1 k hk
  · by_cases hk4 : k = 254
    · subst hk4
      rw [c254] at hk
      exact absurd (by decide +kernel) hk
    · rw [cN k hk4] at hk
      have e31 : zcell (zP zLC) k = 31 := by
        rcases zkeys k hbC with ⟨e, -⟩ | ⟨-, e, -⟩
        · exact e
        · exact absurd e hk
      exact ⟨hF.1 k e31 hk4, hF.2.2 k e31, hF.2.1 k e31⟩
