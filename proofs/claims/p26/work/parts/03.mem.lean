section QM
variable {l : Launch} {G : qG} {d : Nat} {M : qMn} {Q : qQ} {pc : Nat} {lv : qLv} {st : List Value} {ce sl t : Nat} {I : qMI} {L : qML} {R : qMR}
theorem qFs_at {B : Nat} {I : qMI} {R : qMR} {ci k j : Nat} (hj : j < qNF ci) : (qFs B I R ci k)[j]? = some (if qIsR (qTy ci j) = true then va_rf (qRf B (R k j)) else .int (I k j)) := by
  unfold qFs
  rw [List.getElem?_map, List.getElem?_range hj]
  rfl
theorem qFs_len {B : Nat} {I : qMI} {R : qMR} {ci k : Nat} : (qFs B I R ci k).length = qNF ci := by
  unfold qFs
  rw [List.length_map, List.length_range]
theorem qFs_set {B : Nat} {I I' : qMI} {R R' : qMR} {ci k j : Nat} {v : Value} (hj : j < qNF ci) (hv : v = if qIsR (qTy ci j) = true then va_rf (qRf B (R' k j)) else .int (I' k j)) (ho : ∀ i, i ≠ j → I' k i = I k i ∧ R' k i = R k i) : (qFs B I R ci k).set j v = qFs B I' R' ci k := by
  apply List.ext_getElem?
  intro i
  rw [List.getElem?_set]
  by_cases hij : j = i
  · subst hij
    rw [if_pos rfl, if_pos (by rw [qFs_len]; exact hj), qFs_at hj, hv]
  · rw [if_neg hij]
    by_cases hi : i < qNF ci
    · rw [qFs_at hi, qFs_at hi, (ho i (fun e => hij e.symm)).1, (ho i (fun e => hij e.symm)).2]
    · rw [List.getElem?_eq_none_iff.mpr (by rw [qFs_len]; omega), List.getElem?_eq_none_iff.mpr (by rw [qFs_len]; omega)]
theorem qCell_obj {k ci : Nat} {I : qMI} {L : qML} {R : qMR} (hs : (qSh k).1 = ci) (hc : ci < 10) : qCell G I L R k = .inr (ci, qFs G.1 I R ci k) := by
  unfold qCell
  rw [hs, if_pos hc]
theorem qCell_i {k ty : Nat} {I : qMI} {L : qML} {R : qMR} (hs : (qSh k).1 = ty) (h1 : 10 ≤ ty) (h2 : ty < 13) : qCell G I L R k = .inl (G.2.2.2.1 ty, (qSh k).2, .inl (I k)) := by
  unfold qCell
  rw [hs, if_neg (by omega), if_pos h2]
theorem qCell_l {k : Nat} {I : qMI} {L : qML} {R : qMR} (hs : (qSh k).1 = 13) : qCell G I L R k = .inl (G.2.2.2.1 13, (qSh k).2, .inr (.inl (L k))) := by
  unfold qCell
  rw [hs, if_neg (by omega), if_neg (by omega), if_pos rfl]
theorem qCell_r {k : Nat} {I : qMI} {L : qML} {R : qMR} (hs : (qSh k).1 = 14) : qCell G I L R k = .inl (G.2.2.2.1 14, (qSh k).2, .inr (.inr (.inr (.inr (fun j => qRf G.1 (R k j)))))) := by
  unfold qCell
  rw [hs, if_neg (by omega), if_neg (by omega), if_neg (by omega)]
theorem q_getf {k ci j idx : Nat} (hd : decode M.2.1 pc = .ok (.getfield idx, 3)) (hk : k < t) (hs : (qSh k).1 = ci) (hc : ci < 10) (hj : j < qNF ci) (hw : Cond.fieldLink M.1.cls idx (qT ci j).1 (qT ci j).2.1 (qT ci j).2.2.1 ∈ gw)
    (kk : qAb l G d M Q (pc + 3) lv ((if qIsR (qTy ci j) = true then qRv (R k j) else .int (I k j)) :: st) ce sl t I L R) : qAb l G d M Q pc lv (.ref k :: st) ce sl t I L R := by
  intro p e s m args below meth c C H locs ls hz hP hS hl
  obtain ⟨hx, hb, hr, hlk, hml, hown, hts, hC, -⟩ := id C
  have hcell : (qWd G t I L R)[k]? = some (G.1 + k, .inr (ci, qFs G.1 I R ci k)) := by rw [qWd_at hk, qCell_obj hs hc]
  refine va_get (ref := (qT ci j).1) hx hb hts (qLays hc) hown hC.1 hP k hcell (qCl hc) j hj (hts _ hw) (fun _ h => h) (qFs_at hj) hd ?_
  have := kk p e s m args below meth c C H locs ls hz hP hS hl
  rw [List.map_cons] at this
  have e1 : qTv G (if qIsR (qTy ci j) = true then qRv (R k j) else .int (I k j)) = (if qIsR (qTy ci j) = true then va_rf (qRf G.1 (R k j)) else .int (I k j)) := by
    split
    · exact qTv_rv G _
    · rfl
  rw [e1] at this
  exact this
/-- a field is written: what it was made of before, what behind -/
theorem q_putG {k ci j idx : Nat} {v w : Value} {I' : qMI} {R' : qMR} (hd : decode M.2.1 pc = .ok (.putfield idx, 3)) (hk : k < t) (hs : (qSh k).1 = ci) (hc : ci < 10) (hj : j < qNF ci) (hw : Cond.fieldLink M.1.cls idx (qT ci j).1 (qT ci j).2.1 (qT ci j).2.2.1 ∈ gw)
    (hfin : (qT ci j).2.2.2 = false ∨ (M.1.name = "<init>" ∧ (qT ci j).1 = M.1.cls)) (hvw : qTv G w = v) (hn : narrow (qTy ci j) v = v) (hfit : fits (qTy ci j) v = true) (hv : v = if qIsR (qTy ci j) = true then va_rf (qRf G.1 (R' k j)) else .int (I' k j)) (ho : ∀ i, i ≠ j → I' k i = I k i ∧ R' k i = R k i) (ho2 : ∀ a, a ≠ k → I' a = I a ∧ L a = L a ∧ R' a = R a)
    (kk : qAb l G d M Q (pc + 3) lv st ce sl t I' L R') : qAb l G d M Q pc lv (w :: .ref k :: st) ce sl t I L R := by
  intro p e s m args below meth c C H locs ls hz hP hS hl
  obtain ⟨hx, hb, hr, hlk, hml, hown, hts, hC, hH, hB, hnm⟩ := id C
  have hcell : (qWd G t I L R)[k]? = some (G.1 + k, .inr (ci, qFs G.1 I R ci k)) := by rw [qWd_at hk, qCell_obj hs hc]
  have hap := va_apart (own := M.1.cls) hts (qLays hc) (qTy ci) (qTyOk hc) (qNm hc) hC.1 (qCl hc)
  obtain ⟨r, h1, cell, q1, q2, q3, q4⟩ := hP k _ hcell
  have hr' : r = (qC ci, qT ci, qNF ci) := Option.some.inj (h1.symm.trans (qCl hc))
  subst hr'
  obtain ⟨hS', hfc, kC, hkC, hkind⟩ := hC.1.1 ci _ (qCl hc)
  obtain ⟨cf, kf, fi, f, hi, hsl⟩ := hS' j hj
  have hlay := hts _ (qLays hc _ (u_in_lay hj))
  have hst := (u_facts hfc hkC (u_lays hts (qLays hc) hj) hi).1
  have done : ∀ (H' : Heap), H'[G.1 + k]? = some (cell.setSlot (G.2.2.1 ci j) v) → H'.size = H.size → (∀ q, q ≠ G.1 + k → H'[q]? = H[q]?) → ∀ z, W p l e (qRm d M.2.2.2.2.1 M.2.2.2.2.2) s m args below meth c H' (locs ++ [⟨G.1 + k, z⟩]) ce sl (MQ below (qQc G Q) args s M.2.2.2.2.1 M.2.2.2.2.2 (qA G)) (F0 m (pc + 3) ls (st.map (qTv G))) := by
    intro H' e1 e2 e3 z
    have hset := hP.set qWd_D hcell (e := .inr (ci, (qFs G.1 I R ci k).set j v)) ⟨_, qCl hc, t_OB.to (V := updV (vp_V (qFs G.1 I R ci k)) j v) ⟨_, e1, q2, q3, t_set q4 hap hj v⟩ (fun j' _ => vp_updV_set (by rw [qFs_len]; exact hj) v j')⟩ e3
    rw [qFs_set hj hv ho, qWd_set (I' := I') (L' := L) (R' := R') hk (by rw [qCell_obj hs hc]) ho2] at hset
    exact kk p e s m args below meth c C H' _ ls (e2.trans hz) hset (hS.put e2 e3 (Nat.le_add_right _ _)) hl
  show W p l e _ s m args below meth c H locs ce sl _ (F0 m pc ls (qTv G w :: .ref (G.1 + k) :: st.map (qTv G)))
  rw [hvw]
  rcases hfin with hfin | ⟨hi1, hi2⟩
  · unfold u_lay at hlay
    rcases Bool.eq_false_or_eq_true (qT ci j).2.2.2 with hb2 | hb2
    · rw [hb2] at hfin
      cases hfin
    rw [if_neg (by rw [hb2]; decide)] at hlay
    have h6 := u_store hfc hkC hkind hlay hi (qTyOk hc j hj) hn hfit
    refine W.putK hx hb (f := f) ⟨hown, hts _ hw, ⟨_, _, _, hi⟩, hst⟩ (by rw [q2]; exact h6) q1 q3 (by rw [hsl]; exact k2_hasslot (q4 j hj)) rfl rfl hd fun H' e1 e2 e3 => ?_
    rw [hsl] at e1 ⊢
    exact done H' e1 e2 e3 _
  · rcases Bool.eq_false_or_eq_true (qT ci j).2.2.2 with hb2 | hb2
    · unfold u_lay at hlay
      rw [if_pos hb2] at hlay
      have hcf : m.cls = cf := by
        obtain ⟨_, _, c', _, _, _, -, -, hf', -, -, -, hown2, -⟩ := Cond.laysFinal_spec hlay
        have e1 : c' = cf := by have := hi.symm.trans hf'; simp at this; exact this.1.symm
        rw [hi2] at hown2
        rw [← e1]; exact Option.some.inj (hown.symm.trans hown2)
      have h6 := u_fits hfc hkC hkind (Or.inr hlay) hi (qTyOk hc j hj) hn hfit
      refine W.putFinK hx hb hown (hts _ hw) hi hst hcf (hnm.trans hi1) (by rw [q2]; exact h6) q1 q3 (by rw [hsl]; exact k2_hasslot (q4 j hj)) rfl rfl hd fun H' e1 e2 e3 => ?_
      rw [hsl] at e1 ⊢
      exact done H' e1 e2 e3 _
    · unfold u_lay at hlay
      rw [if_neg (by rw [hb2]; decide)] at hlay
      have h6 := u_store hfc hkC hkind hlay hi (qTyOk hc j hj) hn hfit
      refine W.putK hx hb (f := f) ⟨hown, hts _ hw, ⟨_, _, _, hi⟩, hst⟩ (by rw [q2]; exact h6) q1 q3 (by rw [hsl]; exact k2_hasslot (q4 j hj)) rfl rfl hd fun H' e1 e2 e3 => ?_
      rw [hsl] at e1 ⊢
      exact done H' e1 e2 e3 _
theorem q_puti {k ci j idx : Nat} {x : Int32} (hd : decode M.2.1 pc = .ok (.putfield idx, 3)) (hk : k < t) (hs : (qSh k).1 = ci) (hc : ci < 10) (hj : j < qNF ci) (hw : Cond.fieldLink M.1.cls idx (qT ci j).1 (qT ci j).2.1 (qT ci j).2.2.1 ∈ gw)
    (hfin : (qT ci j).2.2.2 = false ∨ (M.1.name = "<init>" ∧ (qT ci j).1 = M.1.cls)) (hn : narrow (qTy ci j) (.int x) = .int x) (hfit : fits (qTy ci j) (.int x) = true) (hq : qIsR (qTy ci j) = false)
    (kk : qAb l G d M Q (pc + 3) lv st ce sl t (qUp I k j x) L R) : qAb l G d M Q pc lv (.int x :: .ref k :: st) ce sl t I L R := by
  refine q_putG (v := .int x) (I' := qUp I k j x) (R' := R) hd hk hs hc hj hw hfin rfl hn hfit ?_ (fun i hi => ⟨?_, rfl⟩) (fun a ha => ⟨?_, rfl, rfl⟩) kk
  · rw [hq, if_neg (by decide), qUp, qUpF_s, upd, if_pos rfl]
  · rw [qUp, qUpF_s, upd, if_neg hi]
  · rw [qUp, qUpF_n I _ ha]
theorem q_putr {k ci j idx : Nat} {x : Option Nat} (hd : decode M.2.1 pc = .ok (.putfield idx, 3)) (hk : k < t) (hs : (qSh k).1 = ci) (hc : ci < 10) (hj : j < qNF ci) (hw : Cond.fieldLink M.1.cls idx (qT ci j).1 (qT ci j).2.1 (qT ci j).2.2.1 ∈ gw)
    (hfin : (qT ci j).2.2.2 = false ∨ (M.1.name = "<init>" ∧ (qT ci j).1 = M.1.cls)) (hn : ∀ r, narrow (qTy ci j) (va_rf r) = va_rf r) (hfit : ∀ r, fits (qTy ci j) (va_rf r) = true) (hq : qIsR (qTy ci j) = true)
    (kk : qAb l G d M Q (pc + 3) lv st ce sl t I L (qUpR R k j x)) : qAb l G d M Q pc lv (qRv x :: .ref k :: st) ce sl t I L R := by
  refine q_putG (I' := I) (R' := qUpR R k j x) hd hk hs hc hj hw hfin (qTv_rv G x) (hn _) (hfit _) ?_ (fun i hi => ⟨rfl, ?_⟩) (fun a ha => ⟨rfl, rfl, ?_⟩) kk
  · rw [hq, if_pos rfl, qUpR, qUpRF_s, va_up, if_pos rfl]
  · rw [qUpR, qUpRF_s, va_up, if_neg hi]
  · rw [qUpR, qUpRF_n R _ ha]
/-! arrays -/
theorem qTys_i (dA : Nat → ClassId) : (qTys dA)[0]? = some (dA 10, .int) := rfl
theorem qTys_b (dA : Nat → ClassId) : (qTys dA)[1]? = some (dA 11, .byte) := rfl
theorem qTys_z (dA : Nat → ClassId) : (qTys dA)[2]? = some (dA 12, .boolean) := rfl
theorem qTys_l (dA : Nat → ClassId) : (qTys dA)[3]? = some (dA 13, .long) := rfl
theorem qTys_r (dA : Nat → ClassId) : (qTys dA)[4]? = some (dA 14, .object "MirageLoans$State") := rfl
theorem q_iald {k : Nat} {i : Int32} (hd : decode M.2.1 pc = .ok (.iaload, 1)) (hk : k < t) (hs : (qSh k).1 = 10) (hin : vp_in i (qSh k).2) (kk : qAb l G d M Q (pc + 1) lv (.int (I k i.toNatClampNeg) :: st) ce sl t I L R) : qAb l G d M Q pc lv (.int i :: .ref k :: st) ce sl t I L R := by
  intro p e s m args below meth c C H locs ls hz hP hS hl
  obtain ⟨hx, hb, hr, hlk, hml, hown, hts, hC, -⟩ := id C
  exact va_iald hx hb hC.1 hP k 0 (by rw [qWd_at hk, qCell_i hs (by omega) (by omega)]) (qTys_i _) hin hd (kk p e s m args below meth c C H locs ls hz hP hS hl)
theorem q_bald {k : Nat} {i : Int32} (hd : decode M.2.1 pc = .ok (.baload, 1)) (hk : k < t) (hs : (qSh k).1 = 11) (hin : vp_in i (qSh k).2) (kk : qAb l G d M Q (pc + 1) lv (.int (I k i.toNatClampNeg) :: st) ce sl t I L R) : qAb l G d M Q pc lv (.int i :: .ref k :: st) ce sl t I L R := by
  intro p e s m args below meth c C H locs ls hz hP hS hl
  obtain ⟨hx, hb, hr, hlk, hml, hown, hts, hC, -⟩ := id C
  exact va_bald hx hb hC.1 hP k 1 (by rw [qWd_at hk, qCell_i hs (by omega) (by omega)]) (qTys_b _) hin hd (kk p e s m args below meth c C H locs ls hz hP hS hl)
theorem q_zald {k : Nat} {i : Int32} (hd : decode M.2.1 pc = .ok (.baload, 1)) (hk : k < t) (hs : (qSh k).1 = 12) (hin : vp_in i (qSh k).2) (kk : qAb l G d M Q (pc + 1) lv (.int (I k i.toNatClampNeg) :: st) ce sl t I L R) : qAb l G d M Q pc lv (.int i :: .ref k :: st) ce sl t I L R := by
  intro p e s m args below meth c C H locs ls hz hP hS hl
  obtain ⟨hx, hb, hr, hlk, hml, hown, hts, hC, -⟩ := id C
  exact va_zald hx hb hC.1 hP k 2 (by rw [qWd_at hk, qCell_i hs (by omega) (by omega)]) (qTys_z _) hin hd (kk p e s m args below meth c C H locs ls hz hP hS hl)
theorem q_lald {k : Nat} {i : Int32} (hd : decode M.2.1 pc = .ok (.laload, 1)) (hk : k < t) (hs : (qSh k).1 = 13) (hin : vp_in i (qSh k).2) (kk : qAb l G d M Q (pc + 1) lv (.long (L k i.toNatClampNeg) :: st) ce sl t I L R) : qAb l G d M Q pc lv (.int i :: .ref k :: st) ce sl t I L R := by
  intro p e s m args below meth c C H locs ls hz hP hS hl
  obtain ⟨hx, hb, hr, hlk, hml, hown, hts, hC, -⟩ := id C
  exact va_lald hx hb hC.1 hP k 3 (by rw [qWd_at hk, qCell_l hs]) (qTys_l _) hin hd (kk p e s m args below meth c C H locs ls hz hP hS hl)
theorem q_aald {k : Nat} {i : Int32} (hd : decode M.2.1 pc = .ok (.aaload, 1)) (hk : k < t) (hs : (qSh k).1 = 14) (hin : vp_in i (qSh k).2) (kk : qAb l G d M Q (pc + 1) lv (qRv (R k i.toNatClampNeg) :: st) ce sl t I L R) : qAb l G d M Q pc lv (.int i :: .ref k :: st) ce sl t I L R := by
  intro p e s m args below meth c C H locs ls hz hP hS hl
  obtain ⟨hx, hb, hr, hlk, hml, hown, hts, hC, -⟩ := id C
  have := kk p e s m args below meth c C H locs ls hz hP hS hl
  rw [List.map_cons, qTv_rv] at this
  exact va_aldq hx hb hC.1 hP k 4 (by rw [qWd_at hk, qCell_r hs]) (qTys_r _) hin hd this
theorem q_alen {k : Nat} (hd : decode M.2.1 pc = .ok (.arraylength, 1)) (hk : k < t) (h1 : 10 ≤ (qSh k).1) (h2 : (qSh k).1 ≤ 14) (kk : qAb l G d M Q (pc + 1) lv (.int (nI (qSh k).2) :: st) ce sl t I L R) : qAb l G d M Q pc lv (.ref k :: st) ce sl t I L R := by
  intro p e s m args below meth c C H locs ls hz hP hS hl
  obtain ⟨hx, hb, hr, hlk, hml, hown, hts, hC, -⟩ := id C
  have kk := kk p e s m args below meth c C H locs ls hz hP hS hl
  rcases (show (qSh k).1 = 10 ∨ (qSh k).1 = 11 ∨ (qSh k).1 = 12 ∨ (qSh k).1 = 13 ∨ (qSh k).1 = 14 by omega) with hs | hs | hs | hs | hs
  · exact va_alen (x := ((qSh k).2, .inl (I k))) hx hb hC.1 hP k 0 (by rw [qWd_at hk, qCell_i hs (by omega) (by omega)]) (qTys_i _) rfl hd kk
  · exact va_alen (x := ((qSh k).2, .inl (I k))) hx hb hC.1 hP k 1 (by rw [qWd_at hk, qCell_i hs (by omega) (by omega)]) (qTys_b _) rfl hd kk
  · exact va_alen (x := ((qSh k).2, .inl (I k))) hx hb hC.1 hP k 2 (by rw [qWd_at hk, qCell_i hs (by omega) (by omega)]) (qTys_z _) rfl hd kk
  · exact va_alen (x := ((qSh k).2, .inr (.inl (L k)))) hx hb hC.1 hP k 3 (by rw [qWd_at hk, qCell_l hs]) (qTys_l _) rfl hd kk
  · exact va_alen (x := ((qSh k).2, .inr (.inr (.inr (.inr (fun j => qRf G.1 (R k j))))))) hx hb hC.1 hP k 4 (by rw [qWd_at hk, qCell_r hs]) (qTys_r _) rfl hd kk
/-- an int array's cell is another: the world of the new memory -/
theorem q_setI {k ty : Nat} {H H1 : Heap} {f : Nat → Int32} {L : qML} (hk : k < t) (hs : (qSh k).1 = ty) (h1 : 10 ≤ ty) (h2 : ty < 13) (hP : va_P (G.2.1, G.2.2.1) vwCl (qWd G t I L R) H) (e : H1[G.1 + k]? = some (vp_cell (G.2.2.2.1 ty) ((qSh k).2, .inl f))) (oq : ∀ q, q ≠ G.1 + k → H1[q]? = H[q]?) : va_P (G.2.1, G.2.2.1) vwCl (qWd G t (qUpF I k f) L R) H1 := by
  have h := hP.set qWd_D (e := .inl (G.2.2.2.1 ty, (qSh k).2, .inl f)) (by rw [qWd_at hk]) e oq
  rw [qWd_set (I' := qUpF I k f) (L' := L) (R' := R) hk (by rw [qCell_i hs h1 h2, qUpF_s]) (fun a ha => ⟨qUpF_n I f ha, rfl, rfl⟩)] at h
  exact h
theorem q_iast {k : Nat} {i x : Int32} (hd : decode M.2.1 pc = .ok (.iastore, 1)) (hk : k < t) (hs : (qSh k).1 = 10) (hin : vp_in i (qSh k).2) (kk : qAb l G d M Q (pc + 1) lv st ce sl t (qUp I k i.toNatClampNeg x) L R) : qAb l G d M Q pc lv (.int x :: .int i :: .ref k :: st) ce sl t I L R := by
  intro p e s m args below meth c C H locs ls hz hP hS hl
  obtain ⟨hx, hb, hr, hlk, hml, hown, hts, hC, -⟩ := id C
  have hc : H[G.1 + k]? = some (vp_cell (G.2.2.2.1 10) ((qSh k).2, .inl (I k))) := hP k (G.1 + k, .inl (G.2.2.2.1 10, (qSh k).2, .inl (I k))) (by rw [qWd_at hk, qCell_i hs (by omega) (by omega)])
  refine W.iast hx hb hc ((hC.1.2 0 _ (qTys_i _)).1 (qSh k).2 (fun j => .int (I k j))) (fun q => by cases q) (by show ¬ (i < 0 ∨ (arrV _ _ _).slots.size ≤ _); rw [arrV_size]; exact hin) rfl rfl hd fun H1 e1 z oq => ?_
  refine kk p e s m args below meth c C H1 _ ls (z.trans hz) (q_setI hk hs (by omega) (by omega) hP ?_ oq) (hS.put z oq (Nat.le_add_right _ _)) hl
  rw [e1, vp_cell_i, vp_cell_i, arrV_store]
  congr 2
  funext q
  by_cases hq : q = i.toNatClampNeg
  · subst hq
    simp [updV, upd]
  · simp [updV, upd, hq]
theorem q_bast {k : Nat} {i x : Int32} (hd : decode M.2.1 pc = .ok (.bastore, 1)) (hk : k < t) (hs : (qSh k).1 = 11) (hin : vp_in i (qSh k).2) (kk : qAb l G d M Q (pc + 1) lv st ce sl t (qUp I k i.toNatClampNeg (vp_nar .byte x)) L R) : qAb l G d M Q pc lv (.int x :: .int i :: .ref k :: st) ce sl t I L R := by
  intro p e s m args below meth c C H locs ls hz hP hS hl
  obtain ⟨hx, hb, hr, hlk, hml, hown, hts, hC, -⟩ := id C
  have hc : H[G.1 + k]? = some (vp_cell (G.2.2.2.1 11) ((qSh k).2, .inl (I k))) := hP k (G.1 + k, .inl (G.2.2.2.1 11, (qSh k).2, .inl (I k))) (by rw [qWd_at hk, qCell_i hs (by omega) (by omega)])
  refine W.bast hx hb hc ((hC.1.2 1 _ (qTys_b _)).1 (qSh k).2 (fun j => .int (I k j))) (fun q => by cases q) (by show ¬ (i < 0 ∨ (arrV _ _ _).slots.size ≤ _); rw [arrV_size]; exact hin) rfl rfl hd fun H1 e1 z oq => ?_
  refine kk p e s m args below meth c C H1 _ ls (z.trans hz) (q_setI hk hs (by omega) (by omega) hP ?_ oq) (hS.put z oq (Nat.le_add_right _ _)) hl
  rw [e1, vp_cell_i, vp_cell_i, arrV_store]
  congr 2
  funext q
  by_cases hq : q = i.toNatClampNeg
  · subst hq
    simp [updV, upd, vp_nar]
    try rfl
  · simp [updV, upd, hq]
theorem q_zast {k : Nat} {i x : Int32} (hd : decode M.2.1 pc = .ok (.bastore, 1)) (hk : k < t) (hs : (qSh k).1 = 12) (hin : vp_in i (qSh k).2) (kk : qAb l G d M Q (pc + 1) lv st ce sl t (qUp I k i.toNatClampNeg (vp_nar .boolean x)) L R) : qAb l G d M Q pc lv (.int x :: .int i :: .ref k :: st) ce sl t I L R := by
  intro p e s m args below meth c C H locs ls hz hP hS hl
  obtain ⟨hx, hb, hr, hlk, hml, hown, hts, hC, -⟩ := id C
  have hc : H[G.1 + k]? = some (vp_cell (G.2.2.2.1 12) ((qSh k).2, .inl (I k))) := hP k (G.1 + k, .inl (G.2.2.2.1 12, (qSh k).2, .inl (I k))) (by rw [qWd_at hk, qCell_i hs (by omega) (by omega)])
  refine W.zast hx hb hc ((hC.1.2 2 _ (qTys_z _)).1 (qSh k).2 (fun j => .int (I k j))) (fun q => by cases q) (by show ¬ (i < 0 ∨ (arrV _ _ _).slots.size ≤ _); rw [arrV_size]; exact hin) rfl rfl hd fun H1 e1 z oq => ?_
  refine kk p e s m args below meth c C H1 _ ls (z.trans hz) (q_setI hk hs (by omega) (by omega) hP ?_ oq) (hS.put z oq (Nat.le_add_right _ _)) hl
  rw [e1, vp_cell_i, vp_cell_i, arrV_store]
  congr 2
  funext q
  by_cases hq : q = i.toNatClampNeg
  · subst hq
    simp [updV, upd, vp_nar]
    try rfl
  · simp [updV, upd, hq]
theorem q_last {k : Nat} {i : Int32} {x : Int64} (hd : decode M.2.1 pc = .ok (.lastore, 1)) (hk : k < t) (hs : (qSh k).1 = 13) (hin : vp_in i (qSh k).2) (kk : qAb l G d M Q (pc + 1) lv st ce sl t I (qUpL L k i.toNatClampNeg x) R) : qAb l G d M Q pc lv (.long x :: .int i :: .ref k :: st) ce sl t I L R := by
  intro p e s m args below meth c C H locs ls hz hP hS hl
  obtain ⟨hx, hb, hr, hlk, hml, hown, hts, hC, -⟩ := id C
  have hc : H[G.1 + k]? = some (vp_cell (G.2.2.2.1 13) ((qSh k).2, .inr (.inl (L k)))) := hP k (G.1 + k, .inl (G.2.2.2.1 13, (qSh k).2, .inr (.inl (L k)))) (by rw [qWd_at hk, qCell_l hs])
  refine W.last hx hb hc ((hC.1.2 3 _ (qTys_l _)).1 (qSh k).2 (fun j => .long (L k j))) (fun q => by cases q) (by show ¬ (i < 0 ∨ (arrV _ _ _).slots.size ≤ _); rw [arrV_size]; exact hin) rfl rfl hd fun H1 e1 z oq => ?_
  have h := hP.set qWd_D (e := .inl (G.2.2.2.1 13, (qSh k).2, .inr (.inl (vp_updL (L k) i.toNatClampNeg x)))) (by rw [qWd_at hk]) (show H1[G.1 + k]? = some (vp_cell _ _) from ?_) oq
  · rw [qWd_set (I' := I) (L' := qUpL L k i.toNatClampNeg x) (R' := R) hk (by rw [qCell_l hs, qUpL, qUpLF_s]) (fun a ha => ⟨rfl, qUpLF_n L _ ha, rfl⟩)] at h
    exact kk p e s m args below meth c C H1 _ ls (z.trans hz) h (hS.put z oq (Nat.le_add_right _ _)) hl
  · rw [e1, vp_cell_l, vp_cell_l, arrV_store]
    congr 2
    funext q
    by_cases hq : q = i.toNatClampNeg
    · subst hq
      simp [updV, vp_updL]
    · simp [updV, vp_updL, hq]
end QM
