/-! ===== the class's loop over where it can stand ===== -/
/-- the most so far, and how many at each -/
noncomputable def ziC (f w s : Nat) : Nat × List Nat := Nat.rec (motive := fun _ => Nat × List Nat) (0, []) (fun s q => (max q.1 (Nat.succ (zn 0 q.2 (zsC f (Nat.div s 9) w))), zs 0 q.2 (zsC f (Nat.div s 9) w) (Nat.succ (zn 0 q.2 (zsC f (Nat.div s 9) w))))) s
theorem ziC_s (f w s : Nat) : ziC f w (s + 1) = (max (ziC f w s).1 (zn 0 (ziC f w s).2 (zsC f (s / 9) w) + 1), zs 0 (ziC f w s).2 (zsC f (s / 9) w) (zn 0 (ziC f w s).2 (zsC f (s / 9) w) + 1)) := rfl
theorem ziC_le (f w : Nat) : ∀ s, (ziC f w s).1 ≤ s ∧ ∀ j, zn 0 (ziC f w s).2 j ≤ s
  | 0 => ⟨Nat.le_refl 0, fun j => Nat.le_refl 0⟩
  | s + 1 => by
    obtain ⟨h1, h2⟩ := ziC_le f w s
    rw [ziC_s]
    have h3 := h2 (zsC f (s / 9) w)
    refine ⟨Nat.max_le.mpr ⟨by omega, by omega⟩, fun j => ?_⟩
    show zn 0 (zs 0 (ziC f w s).2 _ _) j ≤ s + 1
    rw [zn_zs]
    have h4 := h2 j
    split <;> omega
theorem zsC_lt {x y w : Nat} (hy : y < 20) : zsC x y w < 21 := by
  unfold zsC
  cases Nat.ble w (zds x y) with
  | true => rw [cond_true]; omega
  | false => rw [cond_false]; omega
def zLvC (lv : qLv) (f h w u s : Int32) : Prop := qLk 0 lv = some (.ref 249) ∧ qLk 1 lv = some (.ref 259) ∧ qLk 2 lv = some (.int f) ∧ qLk 3 lv = some (.int h) ∧ qLk 4 lv = some (.int w) ∧ qLk 5 lv = some (.int u) ∧ qLk 6 lv = some (.int s)
/-- the cells that a run of it may change: the laws' two, and the split -/
def zFrC (I0 : qMI) (R0 : qMR) (I : qMI) (R : qMR) : Prop := (∀ k, zcell (zP zLC) k = 31 → k ≠ 254 → I k = I0 k) ∧ ∀ k, zcell (zP zLC) k = 31 → R k = R0 k
theorem zLC_n {k : Nat} (h : k < 265 ∨ 270 < k) : zcell (zP zLC) k = 31 := by
  have e : ∀ q : List (Nat × Nat), (∀ x ∈ q, x.1 ≠ k) → zcell (zP q) k = 31 := by
    intro q
    induction q with
    | nil => intro _; rfl
    | cons x q ih =>
      intro hq
      have e1 : zP (x :: q) = zput (zP q) x.1 x.2 := rfl
      rw [e1, zcell_put, if_neg (fun e => hq x List.mem_cons_self e.symm)]
      exact ih (fun y hy => hq y (List.mem_cons_of_mem _ hy))
  refine e zLC (fun x hx => ?_)
  simp only [zLC, List.mem_cons, List.not_mem_nil, or_false] at hx
  rcases hx with rfl | rfl | rfl | rfl | rfl | rfl
  all_goals (show _ ≠ k; omega)
section ZLC
variable {l : Launch} {G : qG} {d : Nat} {Q : qQ}
theorem zM_part254 {g0 : zGh} {I : qMI} {L : qML} {R : qMR} {j : Nat} {x : Int32} (h : zM g0 336 (zP zLC) I L R) : zM (qUp I 254 j x, L, R) 336 (zP zLC) (qUp I 254 j x) L R := by
  refine ⟨fun k hk => ?_, fun _ _ => ⟨rfl, rfl, rfl⟩⟩
  have hne : k ≠ 254 := fun e => by
    subst e
    exact absurd hk (zn15 (zLC_n (by omega)))
  obtain ⟨h1, h2, h3, h4⟩ := h.1 k hk
  refine ⟨h1, h2, h3, fun i => ?_⟩
  rw [zup_o (fun q => hne q.1)]
  exact h4 i
theorem zstepC {f w h s : Nat} {I0 : qMI} {R0 : qMR} (hf : f < 20) (hw : w < 24) (hh : h ≤ 24) (hs : s < 180) (a4 : R0 249 4 = some 253) (a5 : R0 249 5 = some 254) (a12 : R0 259 12 = some 265) (a253 : ∀ j, j < 180 → I0 253 j = 1)
    (ih : ∀ (lv : qLv) (I : qMI) (L : qML) (R : qMR), zLvC lv (nI f) (nI h) (nI w) (nI (ziC f w (s + 1)).1) (nI (s + 1)) → zM (I, L, R) 336 (zP zLC) I L R → zFrC I0 R0 I R → (∀ j, I 254 j = nI (zn 0 (ziC f w (s + 1)).2 j)) → qAb l G (d + 5) n_X7_worstLeft Q 30 lv [] 0 0 336 I L R)
    (lv : qLv) (I : qMI) (L : qML) (R : qMR) (hv : zLvC lv (nI f) (nI h) (nI w) (nI (ziC f w s).1) (nI s)) (hm : zM (I, L, R) 336 (zP zLC) I L R) (hF : zFrC I0 R0 I R) (hI : ∀ j, I 254 j = nI (zn 0 (ziC f w s).2 j)) : qAb l G (d + 5) n_X7_worstLeft Q 30 lv [] 0 0 336 I L R := by
  obtain ⟨v0, v1, v2, v3, v4, v5, v6⟩ := hv
  obtain ⟨b1, b2⟩ := ziC_le f w s
  have r4 : R 249 4 = some 253 := by rw [hF.2 249 (zLC_n (by omega))]; exact a4
  have r5 : R 249 5 = some 254 := by rw [hF.2 249 (zLC_n (by omega))]; exact a5
  have r12 : R 259 12 = some 265 := by rw [hF.2 259 (zLC_n (by omega))]; exact a12
  have r253 : I 253 s = 1 := by rw [hF.1 253 (zLC_n (by omega)) (by omega)]; exact a253 s hs
  refine q_iload (i := 6) (zd (i := .iload 6) (n := 2) (by decide +kernel)) v6 ?_
  refine q_sipush (n := 180) (v := 180) (zd (i := .sipush (180)) (n := 3) (by decide +kernel)) (by decide) ?_
  refine q_icmp_ge (off := 76) (tgt := 111) (zd (i := .if_icmp .ge (76)) (n := 3) (by decide +kernel)) (by decide) (fun q => absurd q ?_) (fun _ => ?_)
  · exact fun q => by have := (zI_le (a := 180) (b := s) (by omega) (by omega)).mp q; omega
  refine q_aload_n (n := 0) (i := 0) (zd (i := .aload_n 0) (n := 1) (by decide +kernel)) rfl v0 rfl ?_
  refine q_getf (k := 249) (ci := 7) (j := 4) (idx := 25) (zd (i := .getfield 25) (n := 3) (by decide +kernel)) (by omega) (by decide +kernel) (by omega) (by decide) g434 ?_
  rw [if_pos (show qIsR (qTy 7 4) = true from rfl), r4]
  refine q_iload (i := 6) (zd (i := .iload 6) (n := 2) (by decide +kernel)) v6 ?_
  refine q_zald (k := 253) (zd (i := .baload) (n := 1) (by decide +kernel)) (by omega) (by decide +kernel) (zI_in (by omega) (by show s < 180; exact hs)) ?_
  rw [nI_clamp (by omega), r253]
  refine q_if_eq (off := 60) (tgt := 105) (zd (i := .ifCond .eq (60)) (n := 3) (by decide +kernel)) (by decide) (fun q => absurd q (by decide)) (fun _ => ?_)
  refine q_aload_n (n := 1) (i := 1) (zd (i := .aload_n 1) (n := 1) (by decide +kernel)) rfl v1 rfl ?_
  refine q_getf (k := 259) (ci := 0) (j := 12) (idx := 42) (zd (i := .getfield 42) (n := 3) (by decide +kernel)) (by omega) (by decide +kernel) (by omega) (by decide) g305 ?_
  rw [if_pos (show qIsR (qTy 0 12) = true from rfl), r12]
  refine q_iload_n (n := 3) (i := 3) (zd (i := .iload_n 3) (n := 1) (by decide +kernel)) rfl v3 ?_
  refine q_iload (i := 4) (zd (i := .iload 4) (n := 2) (by decide +kernel)) v4 ?_
  refine q_iload_n (n := 2) (i := 2) (zd (i := .iload_n 2) (n := 1) (by decide +kernel)) rfl v2 ?_
  refine q_iload (i := 6) (zd (i := .iload 6) (n := 2) (by decide +kernel)) v6 ?_
  refine q_callS (N := n_X7_xOf) (As := [.int (nI s)]) (st := [.int (nI f), .int (nI w), .int (nI h), .ref 265]) (zd (i := .invokestatic 46) (n := 3) (by decide +kernel)) to_X7_xOf g1051 g1052 (Nat.le_of_ble_eq_true rfl) (Nat.le_refl 0) (Nat.le_refl 0) (zxOf hs) ?_
  intro r t I1 L1 R1 hq
  obtain ⟨rfl, rfl, rfl, rfl, rfl⟩ := hq
  refine q_iload (i := 6) (zd (i := .iload 6) (n := 2) (by decide +kernel)) v6 ?_
  refine q_callS (N := n_X7_tallOf) (As := [.int (nI s)]) (st := [.int (nI (s / 9)), .int (nI f), .int (nI w), .int (nI h), .ref 265]) (zd (i := .invokestatic 49) (n := 3) (by decide +kernel)) to_X7_tallOf g1054 g1055 (Nat.le_of_ble_eq_true rfl) (Nat.le_refl 0) (Nat.le_refl 0) (ztallOf hs) ?_
  intro r t I2 L2 R2 hq
  obtain ⟨rfl, rfl, rfl, rfl, rfl⟩ := hq
  refine q_callV (N := n_X2_aim) (As := [.int (nI h), .int (nI w), .int (nI f), .int (nI (s / 9)), .int (nI (s % 9 + 1))]) (st := []) (b := .ref 265) (a := G.1 + 265) (zd (i := .invokevirtual 52) (n := 3) (by decide +kernel)) to_X2_aim g1057 g750 g751 (Nat.le_of_ble_eq_true rfl) (Nat.le_refl 0) (Nat.le_refl 0) rfl (qRecv (ci := 2) (by omega) (by decide +kernel) (by omega) rfl) (zaimspot (x := f) (y := s / 9) (w := w) (h := h) hf (by omega) hw hh ⟨by rw [zb_nIs (by omega)]; show 2147483649 ≤ _; omega, by rw [zb_nIs (by omega)]; show _ ≤ 2147483657; omega⟩ hm) ?_
  intro r t I1 L1 R1 hq
  obtain ⟨rfl, rfl, hm1, hq2⟩ := hq
  have r12 : R1 259 12 = some 265 := by rw [(hm1.2 259 (zn15 (zLC_n (by omega)))).2.2]; exact r12
  refine q_aload_n (n := 1) (i := 1) (zd (i := .aload_n 1) (n := 1) (by decide +kernel)) rfl v1 rfl ?_
  refine q_getf (k := 259) (ci := 0) (j := 12) (idx := 42) (zd (i := .getfield 42) (n := 3) (by decide +kernel)) (by omega) (by decide +kernel) (by omega) (by decide) g305 ?_
  rw [if_pos (show qIsR (qTy 0 12) = true from rfl), r12]
  refine q_callV (N := n_X2_spot) (As := []) (st := []) (b := .ref 265) (a := G.1 + 265) (zd (i := .invokevirtual 58) (n := 3) (by decide +kernel)) to_X2_spot g1058 g906 g907 (Nat.le_of_ble_eq_true rfl) (Nat.le_refl 0) (Nat.le_refl 0) rfl (qRecv (ci := 2) (by omega) (by decide +kernel) (by omega) rfl) hq2 ?_
  intro r t I2 L2 R2 hq
  obtain ⟨⟨v, rfl, hv⟩, rfl, hm2⟩ := hq
  have fr : ∀ k, (k < 265 ∨ 270 < k) → I2 k = I k ∧ R2 k = R k := fun k hk => ⟨(hm2.2 k (zn15 (zLC_n hk))).1, (hm2.2 k (zn15 (zLC_n hk))).2.2⟩
  have r5 : R2 249 5 = some 254 := by rw [(fr 249 (by omega)).2]; exact r5
  have hj := zsC_lt (x := f) (y := s / 9) (w := w) (by omega)
  refine q_iconst (n := 1) (v := 1) (zd (i := .iconst (1)) (n := 1) (by decide +kernel)) (by decide) ?_
  refine q_iadd (zd (i := .iadd) (n := 1) (by decide +kernel)) ?_
  rw [hv]
  refine q_istore (i := 7) (zd (i := .istore 7) (n := 2) (by decide +kernel)) (by decide) ?_
  refine q_aload_n (n := 0) (i := 0) (zd (i := .aload_n 0) (n := 1) (by decide +kernel)) rfl (qLk_st v0 (by decide) rfl) rfl ?_
  refine q_getf (k := 249) (ci := 7) (j := 5) (idx := 29) (zd (i := .getfield 29) (n := 3) (by decide +kernel)) (by omega) (by decide +kernel) (by omega) (by decide) g435 ?_
  rw [if_pos (show qIsR (qTy 7 5) = true from rfl), r5]
  refine q_iload (i := 7) (zd (i := .iload 7) (n := 2) (by decide +kernel)) qLk_s0 ?_
  refine q_dup2 (zd (i := .dup2) (n := 1) (by decide +kernel)) rfl rfl ?_
  refine q_iald (k := 254) (zd (i := .iaload) (n := 1) (by decide +kernel)) (by omega) (by decide +kernel) (zI_in (by omega) (by show zsC f (s / 9) w < 21; exact hj)) ?_
  rw [nI_clamp (by omega), (fr 254 (by omega)).1, hI, show nI (zn 0 (ziC f w s).2 (zsC f (s / 9) w)) = nI (zn 0 (ziC f w s).2 (zsC f (s / 9) w)) from rfl]
  refine q_iconst (n := 1) (v := 1) (zd (i := .iconst (1)) (n := 1) (by decide +kernel)) (by decide) ?_
  refine q_iadd (zd (i := .iadd) (n := 1) (by decide +kernel)) ?_
  rw [← nI_succ]
  refine q_iast (k := 254) (zd (i := .iastore) (n := 1) (by decide +kernel)) (by omega) (by decide +kernel) (zI_in (by omega) (by show zsC f (s / 9) w < 21; exact hj)) ?_
  rw [nI_clamp (by omega)]
  refine q_iload (i := 5) (zd (i := .iload 5) (n := 2) (by decide +kernel)) (qLk_st v5 (by decide) rfl) ?_
  refine q_aload_n (n := 0) (i := 0) (zd (i := .aload_n 0) (n := 1) (by decide +kernel)) rfl (qLk_st v0 (by decide) rfl) rfl ?_
  refine q_getf (k := 249) (ci := 7) (j := 5) (idx := 29) (zd (i := .getfield 29) (n := 3) (by decide +kernel)) (by omega) (by decide +kernel) (by omega) (by decide) g435 ?_
  rw [if_pos (show qIsR (qTy 7 5) = true from rfl), r5]
  refine q_iload (i := 7) (zd (i := .iload 7) (n := 2) (by decide +kernel)) qLk_s0 ?_
  refine q_iald (k := 254) (zd (i := .iaload) (n := 1) (by decide +kernel)) (by omega) (by decide +kernel) (zI_in (by omega) (by show zsC f (s / 9) w < 21; exact hj)) ?_
  rw [nI_clamp (by omega), zup_s]
  refine q_max (idx := 66) (zd (i := .invokestatic 66) (n := 3) (by decide +kernel)) g1079 g575 g111 g576 (Nat.le_of_ble_eq_true rfl) (Nat.le_refl 0) (Nat.le_refl 0) ?_
  rw [zI_max (by omega) (by have := b2 (zsC f (s / 9) w); omega)]
  refine q_istore (i := 5) (zd (i := .istore 5) (n := 2) (by decide +kernel)) (by decide) ?_
  refine q_iinc (i := 6) (n := 1) (v := 1) (zd (i := .iinc 6 (1)) (n := 3) (by decide +kernel)) (qLk_st (qLk_st v6 (by decide) rfl) (by decide) rfl) (by decide) (by decide) ?_
  refine q_goto (off := -78) (tgt := 30) (zd (i := .goto (-78)) (n := 3) (by decide +kernel)) (by decide) ?_
  refine ih _ _ _ _ ?_ (zM_part254 hm2) ⟨fun k h1 h2 => ?_, fun k h1 => ?_⟩ (fun j => ?_)
  · refine ⟨qLk_st (qLk_st (qLk_st v0 (by decide) rfl) (by decide) rfl) (by decide) rfl, qLk_st (qLk_st (qLk_st v1 (by decide) rfl) (by decide) rfl) (by decide) rfl, qLk_st (qLk_st (qLk_st v2 (by decide) rfl) (by decide) rfl) (by decide) rfl, qLk_st (qLk_st (qLk_st v3 (by decide) rfl) (by decide) rfl) (by decide) rfl, qLk_st (qLk_st (qLk_st v4 (by decide) rfl) (by decide) rfl) (by decide) rfl, qLk_st qLk_s0 (by decide) rfl, ?_⟩
    rw [nI_succ s]
    exact qLk_s0
  · rw [show qUp I2 254 (zsC f (s / 9) w) (nI (zn 0 (ziC f w s).2 (zsC f (s / 9) w) + 1)) k = I2 k from funext fun i => zup_o (fun q => h2 q.1)]
    rw [(hm2.2 k (zn15 h1)).1]
    exact hF.1 k h1 h2
  · rw [(hm2.2 k (zn15 h1)).2.2]
    exact hF.2 k h1
  · rw [ziC_s]
    show _ = nI (zn 0 (zs 0 _ _ _) j)
    rw [zn_zs]
    by_cases hjj : j = zsC f (s / 9) w
    · rw [if_pos hjj, hjj, zup_s]
    · rw [if_neg hjj, zup_o (fun q => hjj q.2), (fr 254 (by omega)).1]
      exact hI j
theorem zloopC {f w h : Nat} {I0 : qMI} {R0 : qMR} (hf : f < 20) (hw : w < 24) (hh : h ≤ 24) (a4 : R0 249 4 = some 253) (a5 : R0 249 5 = some 254) (a12 : R0 259 12 = some 265) (a253 : ∀ j, j < 180 → I0 253 j = 1)
    (he : ∀ (I : qMI) (L : qML) (R : qMR), zM (I, L, R) 336 (zP zLC) I L R → zFrC I0 R0 I R → Q (some (.int (nI (ziC f w 180).1))) 336 I L R) : ∀ (n s : Nat), n + s = 180 → ∀ (lv : qLv) (I : qMI) (L : qML) (R : qMR), zLvC lv (nI f) (nI h) (nI w) (nI (ziC f w s).1) (nI s) → zM (I, L, R) 336 (zP zLC) I L R → zFrC I0 R0 I R → (∀ j, I 254 j = nI (zn 0 (ziC f w s).2 j)) → qAb l G (d + 5) n_X7_worstLeft Q 30 lv [] 0 0 336 I L R
  | 0, s, hns, lv, I, L, R, hv, hm, hF, hI => by
    obtain rfl : s = 180 := by omega
    obtain ⟨v0, v1, v2, v3, v4, v5, v6⟩ := hv
    refine q_iload (i := 6) (zd (i := .iload 6) (n := 2) (by decide +kernel)) v6 ?_
    refine q_sipush (n := 180) (v := 180) (zd (i := .sipush 180) (n := 3) (by decide +kernel)) (by decide) ?_
    refine q_icmp_ge (off := 76) (tgt := 111) (zd (i := .if_icmp .ge 76) (n := 3) (by decide +kernel)) (by decide) (fun _ => ?_) (fun q => absurd ((zI_le (a := 180) (b := 180) (by omega) (by omega)).mpr (Nat.le_refl _)) q)
    refine q_iload (i := 5) (zd (i := .iload 5) (n := 2) (by decide +kernel)) v5 ?_
    exact q_iret (zd (i := .ireturn) (n := 1) (by decide +kernel)) rfl rfl (Nat.le_refl 0) (Nat.le_refl 0) (he I L R hm hF)
  | n + 1, s, hns, lv, I, L, R, hv, hm, hF, hI => zstepC hf hw hh (by omega) a4 a5 a12 a253 (fun lv I L R => zloopC hf hw hh a4 a5 a12 a253 he n (s + 1) (by omega) lv I L R) lv I L R hv hm hF hI
end ZLC
