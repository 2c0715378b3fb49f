section QN
variable {l : Launch} {G : qG} {d : Nat} {M : qMn} {Q : qQ} {pc : Nat} {lv : qLv} {st : List Value} {ce sl t : Nat} {I : qMI} {L : qML} {R : qMR}
theorem qDef {ci : Nat} (h : ci < 10) : ∀ j, j < qNF ci → defaultValue (qTy ci j) = if qIsR (qTy ci j) = true then .null else .int 0 := by
  rcases (show ci = 0 ∨ ci = 1 ∨ ci = 2 ∨ ci = 3 ∨ ci = 4 ∨ ci = 5 ∨ ci = 6 ∨ ci = 7 ∨ ci = 8 ∨ ci = 9 by omega) with rfl | rfl | rfl | rfl | rfl | rfl | rfl | rfl | rfl | rfl <;> decide +kernel
/-- a cell more -/
theorem q_grow {H H1 : Heap} {I' : qMI} {L' : qML} {R' : qMR} (hz : H.size = G.1 + t) (hP : va_P (G.2.1, G.2.2.1) vwCl (qWd G t I L R) H) (o1 : ∀ q, q < H.size → H1[q]? = H[q]?) (hn : ∀ j, j < t → I' j = I j ∧ L' j = L j ∧ R' j = R j) (he : va_at (G.2.1, G.2.2.1) vwCl (G.1 + t, qCell G I' L' R' t) H1) : va_P (G.2.1, G.2.2.1) vwCl (qWd G (t + 1) I' L' R') H1 := by
  rw [qWd_succ hn]
  refine (hP.kept (fun k x hx => o1 x.1 ((hP k x hx).lt))).app (fun k x hx => ?_)
  have hz1 : k < 1 := (List.getElem?_eq_some_iff.mp hx).1
  rw [show k = 0 by omega] at hx
  cases hx
  exact he
theorem q_growS {H0 H H1 : Heap} {locs : List Loc} (hS : va_S (qA G) H0 H locs) (z1 : H1.size = H.size + 1) (o1 : ∀ q, q < H.size → H1[q]? = H[q]?) : va_S (qA G) H0 H1 locs :=
  ⟨Nat.le_trans hS.1 (by omega), fun x h1 h2 => (o1 x (Nat.lt_of_lt_of_le h1 hS.1)).trans (hS.2.1 x h1 h2), hS.2.2⟩
theorem q_new {idx ci : Nat} (hd : decode M.2.1 pc = .ok (.new idx, 3)) (hc : ci < 10) (hs : (qSh t).1 = ci) (h1 : Cond.classLink M.1.cls idx (qC ci) ∈ gw) (h2 : Cond.instantiable (qC ci) (qNF ci) ∈ gw) (h3 : Cond.initialized (qC ci) ∈ gw) (hce : ce + 1 ≤ M.2.2.2.2.1) (hsl : sl + qNF ci ≤ M.2.2.2.2.2)
    (kk : qAb l G d M Q (pc + 3) lv (.ref t :: st) (ce + 1) (sl + qNF ci) (t + 1) (qUpF I t (fun _ => 0)) L (qUpRF R t (fun _ => none))) : qAb l G d M Q pc lv st ce sl t I L R := by
  intro p e s m args below meth c C H locs ls hz hP hS hl
  obtain ⟨hx, hb, hr, hlk, hml, hown, hts, hC, hH, hB, hnm⟩ := id C
  have hKn := hC.1.1 ci _ (qCl hc)
  refine W.newcK hx hb hown (hts _ h1) (hts _ h2) (hts _ h3) rfl hd hce hsl hKn.2.1 (h := G.1 + t) hz fun H1 kC hkC e1 z1 o1 => ?_
  rw [← hz] at o1
  refine kk p e s m args below meth c C H1 locs ls (by rw [z1]; omega) (q_grow hz hP o1 (fun j hj => ⟨qUpF_n I _ (Nat.ne_of_lt hj), rfl, qUpRF_n R _ (Nat.ne_of_lt hj)⟩) ?_) (q_growS hS (by rw [z1, hz]) o1) hl
  rw [qCell_obj hs hc]
  refine ⟨_, qCl hc, (u_born (qTy ci) hts (qLays hc) hKn hkC e1 (qTyOk hc)).to (fun j hj => ?_)⟩
  show defaultValue (qTy ci j) = vp_V (qFs G.1 (qUpF I t (fun _ => 0)) (qUpRF R t (fun _ => none)) ci t) j
  unfold vp_V
  rw [List.getD_eq_getElem?_getD, qFs_at hj, qDef hc j hj, qUpF_s, qUpRF_s]
  rfl
theorem q_newI {n : Int32} {ty : Nat} {aty : ArrayType} (k0 : Nat) (hd : decode M.2.1 pc = .ok (.newarray aty, 2)) (hty : (qTys G.2.2.2.1)[k0]? = some (G.2.2.2.1 ty, newarray.typeOf aty)) (h10 : 10 ≤ ty) (h13 : ty < 13) (hdf : defaultValue (newarray.typeOf aty) = .int 0) (hno : ∀ U c, va_RA U c (newarray.typeOf aty) → U.vm.findClass ("[" ++ (newarray.typeOf aty).toString) = some c) (hs : (qSh t).1 = ty) (hn : ¬ n < 0) (hN : n.toNatClampNeg = (qSh t).2) (hby : (qSh t).2 * componentBytes (newarray.typeOf aty) ≤ 536870912) (h1 : Cond.arrayClass (newarray.typeOf aty) ∈ gw) (hce : ce + 1 ≤ M.2.2.2.2.1) (hsl : sl + (qSh t).2 ≤ M.2.2.2.2.2)
    (kk : qAb l G d M Q (pc + 2) lv (.ref t :: st) (ce + 1) (sl + (qSh t).2) (t + 1) (qUpF I t (fun _ => 0)) L R) : qAb l G d M Q pc lv (.int n :: st) ce sl t I L R := by
  intro p e s m args below meth c C H locs ls hz hP hS hl
  obtain ⟨hx, hb, hr, hlk, hml, hown, hts, hC, hH, hB, hnm⟩ := id C
  refine va_newaK (h := G.1 + t) hx hb (hts _ h1) rfl hd rfl hn hN hby hce hsl hz fun H1 cA e1 z1 o1 hAr hNm => ?_
  rw [← hz] at o1
  have hcA : cA = G.2.2.2.1 ty := Option.some.inj (hNm.symm.trans (hno s _ (hC.1.2 k0 _ hty).2))
  subst hcA
  refine kk p e s m args below meth c C H1 locs ls (by rw [z1]; omega) (q_grow hz hP o1 (fun j hj => ⟨qUpF_n I _ (Nat.ne_of_lt hj), rfl, rfl⟩) ?_) (q_growS hS (by rw [z1, hz]) o1) hl
  rw [qCell_i hs h10 h13, qUpF_s]
  show H1[G.1 + t]? = some (vp_cell _ _)
  rw [e1, vp_cell_i, hdf]
theorem q_newL {n : Int32} (hd : decode M.2.1 pc = .ok (.newarray .long, 2)) (hs : (qSh t).1 = 13) (hn : ¬ n < 0) (hN : n.toNatClampNeg = (qSh t).2) (hby : (qSh t).2 * 8 ≤ 536870912) (h1 : Cond.arrayClass .long ∈ gw) (hce : ce + 1 ≤ M.2.2.2.2.1) (hsl : sl + (qSh t).2 ≤ M.2.2.2.2.2)
    (kk : qAb l G d M Q (pc + 2) lv (.ref t :: st) (ce + 1) (sl + (qSh t).2) (t + 1) I (qUpLF L t (fun _ => 0)) R) : qAb l G d M Q pc lv (.int n :: st) ce sl t I L R := by
  intro p e s m args below meth c C H locs ls hz hP hS hl
  obtain ⟨hx, hb, hr, hlk, hml, hown, hts, hC, hH, hB, hnm⟩ := id C
  refine va_newaK (atype := .long) (h := G.1 + t) hx hb (hts _ h1) rfl hd rfl hn hN hby hce hsl hz fun H1 cA e1 z1 o1 hAr hNm => ?_
  rw [← hz] at o1
  have hcA : cA = G.2.2.2.1 13 := Option.some.inj (hNm.symm.trans (hC.1.2 3 _ (qTys_l _)).2)
  subst hcA
  refine kk p e s m args below meth c C H1 locs ls (by rw [z1]; omega) (q_grow hz hP o1 (fun j hj => ⟨rfl, qUpLF_n L _ (Nat.ne_of_lt hj), rfl⟩) ?_) (q_growS hS (by rw [z1, hz]) o1) hl
  rw [qCell_l hs, qUpLF_s]
  show H1[G.1 + t]? = some (vp_cell _ _)
  rw [e1, vp_cell_l]
  rfl
theorem q_newR {n : Int32} {idx : Nat} (hd : decode M.2.1 pc = .ok (.anewarray idx, 3)) (hs : (qSh t).1 = 14) (hn : ¬ n < 0) (hN : n.toNatClampNeg = (qSh t).2) (hby : (qSh t).2 * 4 ≤ 536870912) (h1 : Cond.classLink M.1.cls idx "MirageLoans$State" ∈ gw) (hce : ce + 1 ≤ M.2.2.2.2.1) (hsl : sl + (qSh t).2 ≤ M.2.2.2.2.2)
    (kk : qAb l G d M Q (pc + 3) lv (.ref t :: st) (ce + 1) (sl + (qSh t).2) (t + 1) I L (qUpRF R t (fun _ => none))) : qAb l G d M Q pc lv (.int n :: st) ce sl t I L R := by
  intro p e s m args below meth c C H locs ls hz hP hS hl
  obtain ⟨hx, hb, hr, hlk, hml, hown, hts, hC, hH, hB, hnm⟩ := id C
  rw [← hN] at hby hsl kk
  refine W.anew hx hb hown (hts _ h1) (va_AO.use hC.2.1) rfl hd rfl hn hby hce hsl fun cA kA comp f1 f2 f3 f4 => ?_
  generalize hH1 : H.push ({ cls := cA, slots := Array.replicate n.toNatClampNeg .null, vm := .none } : Cell) = H1
  have z1 : H1.size = H.size + 1 := by rw [← hH1, Array.size_push]
  have e1 : H1[H.size]? = some (arrV cA n.toNatClampNeg (fun _ => .null)) := by rw [← hH1, Array.getElem?_push_size, ← arrV_new]
  have o1 : ∀ q : Nat, q < H.size → H1[q]? = H[q]? := fun q hq => by rw [← hH1, Array.getElem?_push, if_neg (Nat.ne_of_lt hq)]
  obtain ⟨-, -, -, -, -, hNm⟩ := (hC.1.2 4 _ (qTys_r _)).2
  have hcA : cA = G.2.2.2.1 14 := Option.some.inj (f1.symm.trans hNm)
  subst hcA
  have h := kk p e s m args below meth c C H1 locs ls (by rw [z1, hz]; omega) (q_grow hz hP o1 (fun j hj => ⟨rfl, rfl, qUpRF_n R _ (Nat.ne_of_lt hj)⟩) (by
    rw [qCell_r hs, qUpRF_s]
    show H1[G.1 + t]? = some (vp_cell _ _)
    rw [← hz, e1, vp_cell_q, hN]
    rfl)) (q_growS hS z1 o1) hl
  rw [hz]
  exact h
theorem q_aast {k v : Nat} {i : Int32} (hd : decode M.2.1 pc = .ok (.aastore, 1)) (hk : k < t) (hs : (qSh k).1 = 14) (hin : vp_in i (qSh k).2) (hv : v < t) (hsv : (qSh v).1 = 4) (kk : qAb l G d M Q (pc + 1) lv st ce sl t I L (qUpR R k i.toNatClampNeg (some v))) : qAb l G d M Q pc lv (.ref v :: .int i :: .ref k :: st) ce sl t I L R := by
  intro p e s m args below meth c C H locs ls hz hP hS hl
  obtain ⟨hx, hb, hr, hlk, hml, hown, hts, hC, -⟩ := id C
  have hc : H[G.1 + k]? = some (vp_cell (G.2.2.2.1 14) ((qSh k).2, .inr (.inr (.inr (.inr (fun j => qRf G.1 (R k j))))))) := hP k (G.1 + k, .inl (G.2.2.2.1 14, (qSh k).2, .inr (.inr (.inr (.inr (fun j => qRf G.1 (R k j))))))) (by rw [qWd_at hk, qCell_r hs])
  have hlt : i.toNatClampNeg < (qSh k).2 := Nat.not_le.mp fun q => hin (Or.inr q)
  have h0 : ¬ i < 0 := fun q => hin (Or.inl q)
  obtain ⟨r', hr', cellV, g1, g2, g3, -⟩ := hP v (G.1 + v, .inr (4, qFs G.1 I R 4 v)) (by rw [qWd_at hv, qCell_obj hsv (by omega)])
  have hcls := (hC.1.1 4 _ (qCl (by omega))).2
  obtain ⟨kA, comp, k1, k2, k3, -⟩ := (hC.1.2 4 _ (qTys_r _)).2
  have hcomp : comp = G.2.1 4 := Option.some.inj (k3.symm.trans hcls.1)
  subst hcomp
  obtain ⟨kC, hkC, -⟩ := id hcls.2
  refine W.aast hx hb hc (fun q h => by cases h) (fun h => by cases h) k1 k2 rfl hkC ⟨h0, by show _ < (arrV _ _ _).slots.size; rw [arrV_size]; exact hlt⟩ g1 (fun q h => by rw [g3] at h; cases h) (by rw [g2]; exact hkC) (by rw [g2]; exact va_assign hcls) rfl rfl hd fun H1 e1 z oq => ?_
  have h := hP.set qWd_D (e := .inl (G.2.2.2.1 14, (qSh k).2, .inr (.inr (.inr (.inr (fun j => qRf G.1 (va_up (R k) i.toNatClampNeg (some v) j))))))) (by rw [qWd_at hk]) (show H1[G.1 + k]? = some (vp_cell _ _) from ?_) oq
  · rw [qWd_set (I' := I) (L' := L) (R' := qUpR R k i.toNatClampNeg (some v)) hk (by rw [qCell_r hs, qUpR, qUpRF_s]) (fun a ha => ⟨rfl, rfl, qUpRF_n R _ ha⟩)] at h
    exact kk p e s m args below meth c C H1 _ ls (z.trans hz) h (hS.put z oq (Nat.le_add_right _ _)) hl
  · rw [e1, vp_cell_q, vp_cell_q, arrV_store]
    congr 2
    funext q
    by_cases hq : q = i.toNatClampNeg
    · subst hq
      simp [updV, va_up, va_rf, qRf]
    · simp [updV, va_up, hq]
/-! texts -/
theorem q_ldcS {idx : Nat} {b : UInt32} (hd : decode M.2.1 pc = .ok (.ldc idx, 2)) (ho : M.1.cls = "MirageLoans$Tokens") (hb2 : (b.toNat = 0 ∧ idx = qTx0) ∨ (b.toNat = 1 ∧ idx = qTx1)) (kk : qAb l G d M Q (pc + 2) lv (.float b :: st) ce sl t I L R) : qAb l G d M Q pc lv st ce sl t I L R := by
  intro p e s m args below meth c C H locs ls hz hP hS hl
  obtain ⟨hx, hb, hr, hlk, hml, hown, hts, hC, -⟩ := id C
  have kk := kk p e s m args below meth c C H locs ls hz hP hS hl
  rw [ho] at hown
  rw [List.map_cons, qTv_float] at kk
  rcases hb2 with ⟨h1, rfl⟩ | ⟨h1, rfl⟩
  · rw [h1, if_pos (by omega)] at kk
    exact va_ldcS hx hb hown hC.2.2.2.1 hd kk
  · rw [h1, if_pos (by omega)] at kk
    exact va_ldcS hx hb hown hC.2.2.2.2 hd kk
theorem q_sVal {idx : Nat} {b b2 : UInt32} (hd : decode M.2.1 pc = .ok (.getfield idx, 3)) (h1 : Cond.fieldLink M.1.cls idx "java/lang/String" "value" "[B" ∈ gw) (hb1 : b.toNat < 2) (hb2 : b2.toNat = b.toNat + 2) (kk : qAb l G d M Q (pc + 3) lv (.float b2 :: st) ce sl t I L R) : qAb l G d M Q pc lv (.float b :: st) ce sl t I L R := by
  intro p e s m args below meth c C H locs ls hz hP hS hl
  obtain ⟨hx, hb, hr, hlk, hml, hown, hts, hC, hH, -⟩ := id C
  have kk := kk p e s m args below meth c C H locs ls hz hP hS hl
  rw [List.map_cons, qTv_float, hb2, if_neg (by omega), if_pos (by omega), Nat.add_sub_cancel] at kk
  rw [List.map_cons, qTv_float, if_pos hb1]
  exact vk_getf hx hb (hH.1.1 b.toNat hb1).2.2.1 hS hown (hts _ h1) (fun _ h => h) hd kk
theorem q_sCod {idx : Nat} {b : UInt32} (hd : decode M.2.1 pc = .ok (.getfield idx, 3)) (h1 : Cond.fieldLink M.1.cls idx "java/lang/String" "coder" "B" ∈ gw) (hb1 : b.toNat < 2) (kk : qAb l G d M Q (pc + 3) lv (.int 0 :: st) ce sl t I L R) : qAb l G d M Q pc lv (.float b :: st) ce sl t I L R := by
  intro p e s m args below meth c C H locs ls hz hP hS hl
  obtain ⟨hx, hb, hr, hlk, hml, hown, hts, hC, hH, -⟩ := id C
  rw [List.map_cons, qTv_float, if_pos hb1]
  exact vk_getf hx hb (hH.1.1 b.toNat hb1).2.1 hS hown (hts _ h1) (fun _ h => h) hd (kk p e s m args below meth c C H locs ls hz hP hS hl)
theorem q_sCom {idx : Nat} (hd : decode M.2.1 pc = .ok (.getstatic idx, 3)) (h1 : Cond.fieldLink M.1.cls idx "java/lang/String" "COMPACT_STRINGS" "Z" ∈ gw) (kk : qAb l G d M Q (pc + 3) lv (.int 1 :: st) ce sl t I L R) : qAb l G d M Q pc lv st ce sl t I L R := by
  intro p e s m args below meth c C H locs ls hz hP hS hl
  obtain ⟨hx, hb, hr, hlk, hml, hown, hts, hC, hH, -⟩ := id C
  exact va_gets hx hb hH.2.1 hS hown (hts _ h1) (fun _ h => h) hd (kk p e s m args below meth c C H locs ls hz hP hS hl)
theorem q_sFmt {idx : Nat} (hd : decode M.2.1 pc = .ok (.getstatic idx, 3)) (h1 : Cond.fieldLink M.1.cls idx "jdk/internal/util/Preconditions" "SIOOBE_FORMATTER" "Ljava/util/function/BiFunction;" ∈ gw) (kk : qAb l G d M Q (pc + 3) lv (.float 4 :: st) ce sl t I L R) : qAb l G d M Q pc lv st ce sl t I L R := by
  intro p e s m args below meth c C H locs ls hz hP hS hl
  obtain ⟨hx, hb, hr, hlk, hml, hown, hts, hC, hH, -⟩ := id C
  exact va_gets hx hb hH.2.2 hS hown (hts _ h1) (fun _ h => h) hd (kk p e s m args below meth c C H locs ls hz hP hS hl)
theorem q_sLen {b : UInt32} (hd : decode M.2.1 pc = .ok (.arraylength, 1)) (hb1 : 2 ≤ b.toNat) (hb2 : b.toNat < 4) (kk : qAb l G d M Q (pc + 1) lv (.int (nI (qLen.getD (b.toNat - 2) 0)) :: st) ce sl t I L R) : qAb l G d M Q pc lv (.float b :: st) ce sl t I L R := by
  intro p e s m args below meth c C H locs ls hz hP hS hl
  obtain ⟨hx, hb, hr, hlk, hml, hown, hts, hC, hH, -⟩ := id C
  rw [List.map_cons, qTv_float, if_neg (by omega), if_pos hb2]
  exact va_tlen hx hb (hH.1.1 (b.toNat - 2) (by omega)).2.2.2 hS rfl hd (kk p e s m args below meth c C H locs ls hz hP hS hl)
theorem q_sBal {b : UInt32} {i : Int32} (hd : decode M.2.1 pc = .ok (.baload, 1)) (hb1 : 2 ≤ b.toNat) (hb2 : b.toNat < 4) (hin : vp_in i (qLen.getD (b.toNat - 2) 0)) (kk : qAb l G d M Q (pc + 1) lv (.int ((qByt.getD (b.toNat - 2) []).getD i.toNatClampNeg 0) :: st) ce sl t I L R) : qAb l G d M Q pc lv (.int i :: .float b :: st) ce sl t I L R := by
  intro p e s m args below meth c C H locs ls hz hP hS hl
  obtain ⟨hx, hb, hr, hlk, hml, hown, hts, hC, hH, -⟩ := id C
  rw [List.map_cons, List.map_cons, qTv_float, if_neg (by omega), if_pos hb2]
  exact va_tb hx hb (hH.1.1 (b.toNat - 2) (by omega)).2.2.2 hS hin rfl hd (kk p e s m args below meth c C H locs ls hz hP hS hl)
/-! switches -/
def qSwt (J : Nat → Prop) (x : Int32) : Int32 → List Nat → Nat → Prop
  | _, [], df => J df
  | v, tg :: l, df => if x = v then J tg else qSwt J x (v + 1) l df
theorem qSwt_out {J : Nat → Prop} {x : Int32} {df : Nat} : ∀ (l : List Nat) (v : Int32), v.toInt + l.length < 2 ^ 31 → (x.toInt < v.toInt ∨ v.toInt + l.length ≤ x.toInt) → qSwt J x v l df → J df
  | [], _, _, _, h => h
  | tg :: l, v, hs, ho, h => by
    have hl : ((tg :: l).length : Int) = l.length + 1 := by simp
    have hv1 : (v + 1).toInt = v.toInt + 1 := by
      have := Int32.le_toInt v
      exact Jvm.Kit.i32_add (x := v) (y := 1) (by rw [show (1 : Int32).toInt = 1 from rfl]; omega) (by rw [show (1 : Int32).toInt = 1 from rfl]; omega)
    unfold qSwt at h
    rw [if_neg (fun e => by rw [e] at ho; omega)] at h
    exact qSwt_out l (v + 1) (by rw [hv1]; omega) (by rw [hv1]; omega) h
theorem qSwt_in {J : Nat → Prop} {x : Int32} {df : Nat} : ∀ (l : List Nat) (v : Int32) (i : Nat) (tg : Nat), v.toInt + l.length < 2 ^ 31 → x.toInt = v.toInt + i → l[i]? = some tg → qSwt J x v l df → J tg
  | [], _, _, _, _, _, ht, _ => by simp at ht
  | t0 :: l, v, i, tg, hs, hi, ht, h => by
    have hl : ((t0 :: l).length : Int) = l.length + 1 := by simp
    have hv1 : (v + 1).toInt = v.toInt + 1 := by
      have := Int32.le_toInt v
      exact Jvm.Kit.i32_add (x := v) (y := 1) (by rw [show (1 : Int32).toInt = 1 from rfl]; omega) (by rw [show (1 : Int32).toInt = 1 from rfl]; omega)
    unfold qSwt at h
    cases i with
    | zero =>
      rw [if_pos (Int32.toInt_inj.mp (by rw [hi]; simp))] at h
      simp at ht
      exact ht ▸ h
    | succ i =>
      rw [if_neg (fun e => by rw [e] at hi; omega)] at h
      exact qSwt_in l (v + 1) i tg (by rw [hv1]; omega) (by rw [hv1]; omega) (by simpa using ht) h
theorem q_table {x v : Int32} {dflt lo hi : Int} {offs : Array Int} {len df : Nat} {tgts : List Nat} (hd : decode M.2.1 pc = .ok (.tableswitch dflt lo hi offs, len)) (hlo : v.toInt = lo) (hhi : hi = lo + tgts.length - 1) (hsm : lo + tgts.length < 2 ^ 31) (hdf : (pc : Int) + dflt = (df : Int)) (hof : offs.toList.map (fun o => (pc : Int) + o) = tgts.map (fun (n : Nat) => (n : Int)))
    (h : qSwt (fun tg => qAb l G d M Q tg lv st ce sl t I L R) x v tgts df) : qAb l G d M Q pc lv (.int x :: st) ce sl t I L R := by
  intro p e s m args below meth c C H locs ls hz hP hS hl
  subst hlo
  by_cases ho : x.toInt < v.toInt ∨ v.toInt + tgts.length ≤ x.toInt
  · exact lv_tableOut C.1 C.2.1 hd (by omega) hdf (qSwt_out tgts v hsm ho h p e s m args below meth c C H locs ls hz hP hS hl)
  · have hi1 : x.toInt = v.toInt + ((x.toInt - v.toInt).toNat : Int) := by omega
    have hi2 : (x.toInt - v.toInt).toNat < tgts.length := by omega
    generalize (x.toInt - v.toInt).toNat = i at hi1 hi2
    have ht : tgts[i]? = some tgts[i] := List.getElem?_eq_getElem hi2
    have ho2 : ∃ off, offs[i]? = some off ∧ (pc : Int) + off = (tgts[i] : Int) := by
      have h1 := congrArg (fun l : List Int => l[i]?) hof
      simp only [List.getElem?_map, ht, Option.map_some] at h1
      cases hq : offs.toList[i]? with
      | none => rw [hq] at h1; cases h1
      | some off =>
        rw [hq] at h1
        exact ⟨off, by rw [← Array.getElem?_toList]; exact hq, Option.some.inj h1⟩
    obtain ⟨off, ho3, ho4⟩ := ho2
    exact lv_tableIn C.1 C.2.1 hd (by omega) (by omega) (by rw [show (x.toInt - v.toInt).toNat = i by omega]; exact ho3) ho4 (qSwt_in tgts v i _ hsm hi1 ht h p e s m args below meth c C H locs ls hz hP hS hl)
end QN
