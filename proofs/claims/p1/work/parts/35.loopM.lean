/-! ===== the reference's loops ===== -/
/-- how many ways so far are counted there -/
def zcM (n x j : Nat) : Nat → Nat
  | 0 => 0
  | w + 1 => zcM n x j w + if zsM x (w / 9) n = j then 1 else 0
theorem zcM_le (n x j : Nat) : ∀ w, zcM n x j w ≤ w
  | 0 => Nat.le_refl 0
  | w + 1 => by
    have := zcM_le n x j w
    show zcM n x j w + _ ≤ w + 1
    split <;> omega
theorem zcM_s {n x j w : Nat} (h : zsM x (w / 9) n = j) : zcM n x j (w + 1) = zcM n x j w + 1 := by
  show zcM n x j w + _ = _
  rw [if_pos h]
theorem zcM_n {n x j w : Nat} (h : ¬ zsM x (w / 9) n = j) : zcM n x j (w + 1) = zcM n x j w := by
  show zcM n x j w + _ = _
  rw [if_neg h]
  rfl
/-- the counts, with x below x0 one way further -/
def zctM (n w x0 i : Nat) : Nat := if i < 420 then (if i / 21 < x0 then zcM n (i / 21) (i % 21) (w + 1) else zcM n (i / 21) (i % 21) w) else 0
theorem zctM_le {n w x0 i : Nat} : zctM n w x0 i ≤ w + 1 := by
  unfold zctM
  have h1 := zcM_le n (i / 21) (i % 21) (w + 1)
  have h2 := zcM_le n (i / 21) (i % 21) w
  split
  · split <;> omega
  · omega
theorem zctM_next {n w i : Nat} : zctM n w 20 i = zctM n (w + 1) 0 i := by
  unfold zctM
  by_cases hi : i < 420
  · rw [if_pos hi, if_pos hi, if_pos (by omega), if_neg (by omega)]
  · rw [if_neg hi, if_neg hi]
theorem zctM_0 {n i : Nat} : zctM n 0 0 i = 0 := by
  unfold zctM
  split
  · rw [if_neg (by omega)]; rfl
  · rfl
theorem zctM_s {n w x j : Nat} (hx : x < 20) (hj : j = zsM x (w / 9) n) (hj2 : j < 21) : zctM n w (x + 1) (21 * x + j) = zctM n w x (21 * x + j) + 1 := by
  unfold zctM
  rw [if_pos (by omega), if_pos (by omega), show (21 * x + j) / 21 = x by omega, show (21 * x + j) % 21 = j by omega, if_pos (by omega), if_neg (by omega)]
  exact zcM_s hj.symm
theorem zctM_n {n w x j i : Nat} (hj : j = zsM x (w / 9) n) (hj2 : j < 21) (hi : i ≠ 21 * x + j) : zctM n w (x + 1) i = zctM n w x i := by
  unfold zctM
  by_cases h4 : i < 420
  · rw [if_pos h4, if_pos h4]
    by_cases h : i / 21 < x
    · rw [if_pos (by omega), if_pos h]
    · rw [if_neg h]
      by_cases h2 : i / 21 < x + 1
      · rw [if_pos h2]
        have hxx : i / 21 = x := by omega
        rw [hxx]
        exact zcM_n (fun q => hi (by omega))
      · rw [if_neg h2]
  · rw [if_neg h4, if_neg h4]
theorem zdiv9 : ∀ w, w < 180 → nI w / 9 = nI (w / 9) := by decide +kernel
theorem zrem9 : ∀ w, w < 180 → nI w - nI w / 9 * 9 + 1 = nI (w % 9 + 1) := by decide +kernel
theorem zmul21 : ∀ x, x < 20 → 21 * nI x = nI (21 * x) := by decide +kernel
theorem zadd21 : ∀ x, x < 20 → ∀ j, j < 21 → nI (21 * x) + nI j = nI (21 * x + j) := by decide +kernel
def zLvM (lv : qLv) (n m w : Int32) : Prop := qLk 0 lv = some (.ref 292) ∧ qLk 1 lv = some (.int (nI 0)) ∧ qLk 2 lv = some (.int n) ∧ qLk 3 lv = some (.int m) ∧ qLk 4 lv = some (.int w)
def zFrM (I0 : qMI) (L0 : qML) (R0 : qMR) (I : qMI) (L : qML) (R : qMR) : Prop := (∀ k, zcell (zP zLM) k = 31 → k ≠ 333 → I k = I0 k) ∧ (∀ k, zcell (zP zLM) k = 31 → R k = R0 k) ∧ ∀ k, zcell (zP zLM) k = 31 → L k = L0 k
theorem zP_n {k : Nat} : ∀ q : List (Nat × Nat), (∀ x ∈ q, x.1 ≠ k) → zcell (zP q) k = 31
  | [], _ => rfl
  | x :: q, hq => by
    have e1 : zP (x :: q) = zput (zP q) x.1 x.2 := rfl
    rw [e1, zcell_put, if_neg (fun e => hq x List.mem_cons_self e.symm)]
    exact zP_n q (fun y hy => hq y (List.mem_cons_of_mem _ hy))
theorem zLM_n {k : Nat} (h : k = 323 ∨ k = 333) : zcell (zP zLM) k = 31 := by
  refine zP_n zLM (fun x hx => ?_)
  simp only [zLM, List.mem_cons, List.not_mem_nil, or_false] at hx
  rcases hx with rfl | rfl | rfl | rfl
  all_goals (show _ ≠ k; omega)
theorem zM_part333 {g0 : zGh} {I : qMI} {L : qML} {R : qMR} {j : Nat} {x : Int32} (h : zM g0 336 (zP zLM) I L R) : zM (qUp I 333 j x, L, R) 336 (zP zLM) (qUp I 333 j x) L R := by
  refine ⟨fun k hk => ?_, fun _ _ => ⟨rfl, rfl, rfl⟩⟩
  have hne : k ≠ 333 := fun e => by
    subst e
    exact absurd hk (zn15 (zLM_n (by omega)))
  obtain ⟨h1, h2, h3, h4⟩ := h.1 k hk
  refine ⟨h1, h2, h3, fun i => ?_⟩
  rw [zup_o (fun q => hne q.1)]
  exact h4 i
/-- of the object's references, out of its own cell -/
theorem zR292 {g0 : zGh} {I : qMI} {L : qML} {R : qMR} (h : zM g0 336 (zP zLM) I L R) : R 292 48 = some 323 ∧ R 292 62 = some 333 := by
  have hb : Nat.beq (zcell (zP zLM) 292) 27802324040296509319766169648491939646962842039046924021763329829305907705211017291570640864808568742298106745726551034486089476945565115512766770734799649072951452485217762040195842910404175586370117355600915686394191125632444843255078001713963773768968548640925882180148827549085352176677520601808040593749064537533313622702900781817694418008241201097333761711328307162448486901956853321938296065361174404947250676489563632505218088345413883813016005055347665524166303375749021487250648566051536894442144846104740469758858966591977999369532230275703470845063638852567387962365556313925963003529903164746114472864872296824346953783529073528742251803480586138543840017002354519294186687773540080369550179651208548330203669349519580338967229336684444578765169666941381834987836257321863219350718512347755724304010512198091667333981029497940499651727870587711186876798017863141778308466143813807535670315072863535343554086119261922502991253415970325221792286490475232555567858261363159557906403548535555951857252764419798991902633883570372340578130095315743458225550923441098691038018364783502755360293748169954349970426297660814553460974523347432052620796299315030042445771137567242909163754618043516191978608926622707618165885294446530654954781553731787506111744041 = true := by decide +kernel
  exact ⟨(zcR h hb (by decide +kernel) (by decide +kernel)).trans (by decide +kernel), (zcR h hb (by decide +kernel) (by decide +kernel)).trans (by decide +kernel)⟩
section ZLM
variable {l : Launch} {G : qG} {d : Nat} {Q : qQ}
theorem zz0 : ∀ n, n ≤ 24 → nI 0 + nI n = nI n := by
  intro n hn
  have : ∀ n, n < 25 → nI 0 + nI n = nI n := by decide +kernel
  exact this n (by omega)
theorem zstepM {n w x : Nat} {m : Int32} {I0 : qMI} {L0 : qML} {R0 : qMR} (hn : n ≤ 24) (hw : w < 180) (hx : x < 20) (a96 : I0 323 96 = nI 0)
    (ih : ∀ (lv : qLv) (I : qMI) (L : qML) (R : qMR), zLvM lv (nI n) m (nI w) → qLk 5 lv = some (.int (nI (x + 1))) → zM (I, L, R) 336 (zP zLM) I L R → zFrM I0 L0 R0 I L R → (∀ i, I 333 i = nI (zctM n w (x + 1) i)) → qAb l G (d + 6) n_X9_look Q 78 lv [] 0 0 336 I L R)
    (lv : qLv) (I : qMI) (L : qML) (R : qMR) (hv : zLvM lv (nI n) m (nI w)) (v5 : qLk 5 lv = some (.int (nI x))) (hm : zM (I, L, R) 336 (zP zLM) I L R) (hF : zFrM I0 L0 R0 I L R) (hI : ∀ i, I 333 i = nI (zctM n w x i)) : qAb l G (d + 6) n_X9_look Q 78 lv [] 0 0 336 I L R := by
  obtain ⟨v0, v1, v2, v3, v4⟩ := hv
  have hI96 : I 323 96 = nI 0 := by rw [hF.1 323 (zLM_n (by omega)) (by omega)]; exact a96
  refine q_iload (i := 5) (zd (i := .iload 5) (n := 2) (by decide +kernel)) v5 ?_
  refine q_bipush (n := 19) (v := 19) (zd (i := .bipush (19)) (n := 2) (by decide +kernel)) (by decide) ?_
  refine q_icmp_gt (off := 65) (tgt := 147) (zd (i := .if_icmp .gt (65)) (n := 3) (by decide +kernel)) (by decide) (fun q => absurd q ?_) (fun _ => ?_)
  · exact fun q => by have := (zI_lt (a := 19) (b := x) (by omega) (by omega)).mp q; omega
  refine q_aload_n (n := 0) (i := 0) (zd (i := .aload_n 0) (n := 1) (by decide +kernel)) rfl v0 rfl ?_
  refine q_iload (i := 5) (zd (i := .iload 5) (n := 2) (by decide +kernel)) v5 ?_
  refine q_iload (i := 4) (zd (i := .iload 4) (n := 2) (by decide +kernel)) v4 ?_
  refine q_bipush (n := 9) (v := 9) (zd (i := .bipush (9)) (n := 2) (by decide +kernel)) (by decide) ?_
  refine q_idiv (zd (i := .idiv) (n := 1) (by decide +kernel)) (by decide) ?_
  rw [zdiv9 w hw]
  refine q_iload (i := 4) (zd (i := .iload 4) (n := 2) (by decide +kernel)) v4 ?_
  refine q_bipush (n := 9) (v := 9) (zd (i := .bipush (9)) (n := 2) (by decide +kernel)) (by decide) ?_
  refine q_irem (zd (i := .irem) (n := 1) (by decide +kernel)) (by decide) ?_
  refine q_iconst (n := 1) (v := 1) (zd (i := .iconst (1)) (n := 1) (by decide +kernel)) (by decide) ?_
  refine q_iadd (zd (i := .iadd) (n := 1) (by decide +kernel)) ?_
  rw [zrem9 w hw]
  refine q_aload_n (n := 0) (i := 0) (zd (i := .aload_n 0) (n := 1) (by decide +kernel)) rfl v0 rfl ?_
  refine q_getf (k := 292) (ci := 9) (j := 48) (idx := 110) (zd (i := .getfield 110) (n := 3) (by decide +kernel)) (by omega) (by decide +kernel) (by omega) (by decide) g1176 ?_
  rw [if_pos (show qIsR (qTy 9 48) = true from rfl), (zR292 hm).1]
  refine q_bipush (n := 96) (v := 96) (zd (i := .bipush (96)) (n := 2) (by decide +kernel)) (by decide) ?_
  refine q_iald (k := 323) (zd (i := .iaload) (n := 1) (by decide +kernel)) (by omega) (by decide +kernel) (by rw [show (qSh 323).2 = 97 by decide +kernel]; unfold vp_in; decide) ?_
  rw [show (96 : Int32).toNatClampNeg = 96 by decide, hI96]
  refine q_iload_n (n := 2) (i := 2) (zd (i := .iload_n 2) (n := 1) (by decide +kernel)) rfl v2 ?_
  refine q_iadd (zd (i := .iadd) (n := 1) (by decide +kernel)) ?_
  rw [show nI 0 + nI n = nI n from zz0 n hn]
  refine q_callV (N := n_X9_seenAt) (As := [.int (nI x), .int (nI (w / 9)), .int (nI (w % 9 + 1)), .int (nI n)]) (st := []) (b := .ref 292) (a := G.1 + 292) (zd (i := .invokevirtual 345) (n := 3) (by decide +kernel)) to_X9_seenAt g1582 g1584 g88 (Nat.le_of_ble_eq_true rfl) (Nat.le_refl 0) (Nat.le_refl 0) rfl (qRecv (ci := 9) (by omega) (by decide +kernel) (by omega) rfl) (zseenAt (x := x) (y := w / 9) (n := n) hx (by omega) hn ⟨by rw [zb_nIs (by omega)]; show 2147483649 ≤ _; omega, by rw [zb_nIs (by omega)]; show _ ≤ 2147483657; omega⟩ hm) ?_
  intro r t I2 L2 R2 hq
  obtain ⟨⟨v, rfl, hv⟩, rfl, hm2⟩ := hq
  have hj := zsM_lt (x := x) (y := w / 9) (n := n) (by omega)
  have fr : ∀ k, (k = 323 ∨ k = 333) → I2 k = I k := fun k hk => (hm2.2 k (zn15 (zLM_n hk))).1
  have hfin : qAb l G (d + 6) n_X9_look Q 135 ((6, .int v) :: qDr 6 lv) [.int (nI (zsM x (w / 9) n)), .int (nI (21 * x)), .ref 333] 0 0 336 I2 L2 R2 := by
    refine q_iadd (zd (i := .iadd) (n := 1) (by decide +kernel)) ?_
    rw [zadd21 x hx _ hj]
    refine q_dup2 (zd (i := .dup2) (n := 1) (by decide +kernel)) rfl rfl ?_
    refine q_iald (k := 333) (zd (i := .iaload) (n := 1) (by decide +kernel)) (by omega) (by decide +kernel) (zI_in (by omega) (by rw [show (qSh 333).2 = 420 by decide +kernel]; omega)) ?_
    rw [nI_clamp (by omega), fr 333 (by omega), hI]
    refine q_iconst (n := 1) (v := 1) (zd (i := .iconst (1)) (n := 1) (by decide +kernel)) (by decide) ?_
    refine q_iadd (zd (i := .iadd) (n := 1) (by decide +kernel)) ?_
    rw [← nI_succ]
    refine q_iast (k := 333) (zd (i := .iastore) (n := 1) (by decide +kernel)) (by omega) (by decide +kernel) (zI_in (by omega) (by rw [show (qSh 333).2 = 420 by decide +kernel]; omega)) ?_
    rw [nI_clamp (by omega)]
    refine q_iinc (i := 5) (n := 1) (v := 1) (zd (i := .iinc 5 (1)) (n := 3) (by decide +kernel)) (qLk_st v5 (by decide) rfl) (by decide) (by decide) ?_
    refine q_goto (off := -66) (tgt := 78) (zd (i := .goto (-66)) (n := 3) (by decide +kernel)) (by decide) ?_
    refine ih _ _ _ _ ⟨qLk_st (qLk_st v0 (by decide) rfl) (by decide) rfl, qLk_st (qLk_st v1 (by decide) rfl) (by decide) rfl, qLk_st (qLk_st v2 (by decide) rfl) (by decide) rfl, qLk_st (qLk_st v3 (by decide) rfl) (by decide) rfl, qLk_st (qLk_st v4 (by decide) rfl) (by decide) rfl⟩ ?_ (zM_part333 hm2) ⟨fun k h1 h2 => ?_, fun k h1 => ?_, fun k h1 => ?_⟩ (fun i => ?_)
    · rw [nI_succ x]
      exact qLk_s0
    · rw [show qUp I2 333 (21 * x + zsM x (w / 9) n) (nI (zctM n w x (21 * x + zsM x (w / 9) n) + 1)) k = I2 k from funext fun i => zup_o (fun q => h2 q.1)]
      rw [(hm2.2 k (zn15 h1)).1]
      exact hF.1 k h1 h2
    · rw [(hm2.2 k (zn15 h1)).2.2]
      exact hF.2.1 k h1
    · rw [(hm2.2 k (zn15 h1)).2.1]
      exact hF.2.2 k h1
    · by_cases hii : i = 21 * x + zsM x (w / 9) n
      · rw [hii, zup_s, zctM_s hx rfl hj]
      · rw [zup_o (fun q => hii q.2), fr 333 (by omega), zctM_n rfl hj hii]
        exact hI i
  refine q_istore (i := 6) (zd (i := .istore 6) (n := 2) (by decide +kernel)) (by decide) ?_
  refine q_aload_n (n := 0) (i := 0) (zd (i := .aload_n 0) (n := 1) (by decide +kernel)) rfl (qLk_st v0 (by decide) rfl) rfl ?_
  refine q_getf (k := 292) (ci := 9) (j := 62) (idx := 140) (zd (i := .getfield 140) (n := 3) (by decide +kernel)) (by omega) (by decide +kernel) (by omega) (by decide) g1190 ?_
  rw [if_pos (show qIsR (qTy 9 62) = true from rfl), (zR292 hm2).2]
  refine q_bipush (n := 21) (v := 21) (zd (i := .bipush (21)) (n := 2) (by decide +kernel)) (by decide) ?_
  refine q_iload (i := 5) (zd (i := .iload 5) (n := 2) (by decide +kernel)) (qLk_st v5 (by decide) rfl) ?_
  refine q_imul (zd (i := .imul) (n := 1) (by decide +kernel)) ?_
  rw [zmul21 x hx]
  refine q_iload (i := 6) (zd (i := .iload 6) (n := 2) (by decide +kernel)) qLk_s0 ?_
  rcases hv with ⟨rfl, e20⟩ | ⟨rfl, ey⟩
  · rw [e20] at hfin
    refine q_if_ge (off := 8) (tgt := 133) (zd (i := .ifCond .ge (8)) (n := 3) (by decide +kernel)) (by decide) (fun q => absurd q (by decide)) (fun _ => ?_)
    refine q_bipush (n := 20) (v := 20) (zd (i := .bipush (20)) (n := 2) (by decide +kernel)) (by decide) ?_
    refine q_goto (off := 5) (tgt := 135) (zd (i := .goto (5)) (n := 3) (by decide +kernel)) (by decide) ?_
    exact hfin
  · rw [ey] at hfin
    refine q_if_ge (off := 8) (tgt := 133) (zd (i := .ifCond .ge (8)) (n := 3) (by decide +kernel)) (by decide) (fun _ => ?_) (fun q => absurd ((zI_le (a := 0) (b := w / 9) (by omega) (by omega)).mpr (Nat.zero_le _)) q)
    refine q_iload (i := 6) (zd (i := .iload 6) (n := 2) (by decide +kernel)) qLk_s0 ?_
    exact hfin
theorem zinM {n w : Nat} {m : Int32} {I0 : qMI} {L0 : qML} {R0 : qMR} (hn : n ≤ 24) (hw : w < 180) (a96 : I0 323 96 = nI 0)
    (he : ∀ (lv : qLv) (I : qMI) (L : qML) (R : qMR), zLvM lv (nI n) m (nI (w + 1)) → qLk 5 lv = some (.int (nI 20)) → zM (I, L, R) 336 (zP zLM) I L R → zFrM I0 L0 R0 I L R → (∀ i, I 333 i = nI (zctM n (w + 1) 0 i)) → qAb l G (d + 6) n_X9_look Q 51 lv [] 0 0 336 I L R) : ∀ (k x : Nat), k + x = 20 → ∀ (lv : qLv) (I : qMI) (L : qML) (R : qMR), zLvM lv (nI n) m (nI w) → qLk 5 lv = some (.int (nI x)) → zM (I, L, R) 336 (zP zLM) I L R → zFrM I0 L0 R0 I L R → (∀ i, I 333 i = nI (zctM n w x i)) → qAb l G (d + 6) n_X9_look Q 78 lv [] 0 0 336 I L R
  | 0, x, hkx, lv, I, L, R, hv, v5, hm, hF, hI => by
    obtain rfl : x = 20 := by omega
    obtain ⟨v0, v1, v2, v3, v4⟩ := hv
    refine q_iload (i := 5) (zd (i := .iload 5) (n := 2) (by decide +kernel)) v5 ?_
    refine q_bipush (n := 19) (v := 19) (zd (i := .bipush (19)) (n := 2) (by decide +kernel)) (by decide) ?_
    refine q_icmp_gt (off := 65) (tgt := 147) (zd (i := .if_icmp .gt (65)) (n := 3) (by decide +kernel)) (by decide) (fun _ => ?_) (fun q => absurd ((zI_lt (a := 19) (b := 20) (by omega) (by omega)).mpr (by omega)) q)
    refine q_iinc (i := 4) (n := 1) (v := 1) (zd (i := .iinc 4 (1)) (n := 3) (by decide +kernel)) v4 (by decide) (by decide) ?_
    refine q_goto (off := -99) (tgt := 51) (zd (i := .goto (-99)) (n := 3) (by decide +kernel)) (by decide) ?_
    exact he _ I L R ⟨qLk_st v0 (by decide) rfl, qLk_st v1 (by decide) rfl, qLk_st v2 (by decide) rfl, qLk_st v3 (by decide) rfl, by rw [nI_succ w]; exact qLk_s0⟩ (qLk_st v5 (by decide) rfl) hm hF (fun i => by rw [← zctM_next]; exact hI i)
  | k + 1, x, hkx, lv, I, L, R, hv, v5, hm, hF, hI => zstepM hn hw (by omega) a96 (fun lv I L R => zinM hn hw a96 he k (x + 1) (by omega) lv I L R) lv I L R hv v5 hm hF hI
theorem zoutM {n : Nat} {I0 : qMI} {L0 : qML} {R0 : qMR} (hn : n ≤ 24) (a96 : I0 323 96 = nI 0)
    (he : ∀ (lv : qLv) (I : qMI) (L : qML) (R : qMR), zLvM lv (nI n) (nI 180) (nI 180) → qLk 5 lv = some (.int (nI 20)) → zM (I, L, R) 336 (zP zLM) I L R → zFrM I0 L0 R0 I L R → (∀ i, I 333 i = nI (zctM n 180 0 i)) → qAb l G (d + 6) n_X9_look Q 153 lv [] 0 0 336 I L R) : ∀ (k w : Nat), k + w = 180 → ∀ (lv : qLv) (I : qMI) (L : qML) (R : qMR), zLvM lv (nI n) (nI w) (nI w) → (w = 0 ∨ qLk 5 lv = some (.int (nI 20))) → zM (I, L, R) 336 (zP zLM) I L R → zFrM I0 L0 R0 I L R → (∀ i, I 333 i = nI (zctM n w 0 i)) → qAb l G (d + 6) n_X9_look Q 51 lv [] 0 0 336 I L R
  | 0, w, hkw, lv, I, L, R, hv, v5, hm, hF, hI => by
    obtain rfl : w = 180 := by omega
    have hv0 := hv
    obtain ⟨v0, v1, v2, v3, v4⟩ := hv
    refine q_iload (i := 4) (zd (i := .iload 4) (n := 2) (by decide +kernel)) v4 ?_
    refine q_sipush (n := 180) (v := 180) (zd (i := .sipush (180)) (n := 3) (by decide +kernel)) (by decide) ?_
    refine q_icmp_ge (off := 97) (tgt := 153) (zd (i := .if_icmp .ge (97)) (n := 3) (by decide +kernel)) (by decide) (fun _ => ?_) (fun q => absurd ((zI_le (a := 180) (b := 180) (by omega) (by omega)).mpr (Nat.le_refl _)) q)
    exact he lv I L R hv0 (v5.resolve_left (by omega)) hm hF hI
  | k + 1, w, hkw, lv, I, L, R, hv, v5, hm, hF, hI => by
    obtain ⟨v0, v1, v2, v3, v4⟩ := hv
    refine q_iload (i := 4) (zd (i := .iload 4) (n := 2) (by decide +kernel)) v4 ?_
    refine q_sipush (n := 180) (v := 180) (zd (i := .sipush (180)) (n := 3) (by decide +kernel)) (by decide) ?_
    refine q_icmp_ge (off := 97) (tgt := 153) (zd (i := .if_icmp .ge (97)) (n := 3) (by decide +kernel)) (by decide) (fun q => absurd q ?_) (fun _ => ?_)
    · exact fun q => by have := (zI_le (a := 180) (b := w) (by omega) (by omega)).mp q; omega
    refine q_aload_n (n := 0) (i := 0) (zd (i := .aload_n 0) (n := 1) (by decide +kernel)) rfl v0 rfl ?_
    refine q_iload (i := 4) (zd (i := .iload 4) (n := 2) (by decide +kernel)) v4 ?_
    refine q_iload_n (n := 1) (i := 1) (zd (i := .iload_n 1) (n := 1) (by decide +kernel)) rfl v1 ?_
    refine q_callV (N := n_X9_isSo) (As := [.int (nI w), .int (nI 0)]) (st := []) (b := .ref 292) (a := G.1 + 292) (zd (i := .invokevirtual 428) (n := 3) (by decide +kernel)) to_X9_isSo g1685 g1687 g94 (Nat.le_of_ble_eq_true rfl) (Nat.le_refl 0) (Nat.le_refl 0) rfl (qRecv (ci := 9) (by omega) (by decide +kernel) (by omega) rfl) zisSo ?_
    intro r t I1 L1 R1 hq
    obtain ⟨rfl, rfl, rfl, rfl, rfl⟩ := hq
    refine q_if_ne (off := 6) (tgt := 72) (zd (i := .ifCond .ne (6)) (n := 3) (by decide +kernel)) (by decide) (fun _ => ?_) (fun q => absurd q (by decide))
    refine q_iinc (i := 3) (n := 1) (v := 1) (zd (i := .iinc 3 (1)) (n := 3) (by decide +kernel)) v3 (by decide) (by decide) ?_
    refine q_iconst (n := 0) (v := 0) (zd (i := .iconst (0)) (n := 1) (by decide +kernel)) (by decide) ?_
    refine q_istore (i := 5) (zd (i := .istore 5) (n := 2) (by decide +kernel)) (by decide) ?_
    refine zinM (m := nI (w + 1)) hn (by omega) a96 (fun lv I L R hv v5 hm hF hI => zoutM hn a96 he k (w + 1) (by omega) lv I L R hv (Or.inr v5) hm hF hI) 20 0 rfl _ I L R ⟨qLk_st (qLk_st v0 (by decide) rfl) (by decide) rfl, qLk_st (qLk_st v1 (by decide) rfl) (by decide) rfl, qLk_st (qLk_st v2 (by decide) rfl) (by decide) rfl, ?_, qLk_st (qLk_st v4 (by decide) rfl) (by decide) rfl⟩ qLk_s0 hm hF hI
    rw [nI_succ w]
    exact qLk_st qLk_s0 (by decide) rfl
end ZLM
