/-! ===== two contracts of one call: both hold, of the same end ===== -/
theorem ended_not {t : State} {below : List Frame} {v : Option Value} (h : Ended t below (.returned v)) : ¬ Within t below := by
  rintro ⟨above, e, hne, -⟩
  have len : t.frames.length = below.length := by
    cases below with
    | nil => rw [h.2]
    | cons f r =>
      cases f with
      | java g =>
        obtain ⟨c, i, len, -, -, hf⟩ := h
        rw [hf]; rfl
      | native g => rw [show t.frames = _ from h]; rfl
      | proc g => rw [show t.frames = _ from h]; rfl
      | _ => rw [h.2]
  rw [e, List.length_append] at len
  exact hne (List.length_eq_zero_iff.mp (by omega))
theorem ended_inj {t : State} {below : List Frame} {v w : Option Value} (h : Ended t below (.returned v)) (g : Ended t below (.returned w)) : v = w := by
  cases below with
  | nil => rw [h.1, g.1]
  | cons f r =>
    cases f with
    | java k =>
      obtain ⟨c, i, len, -, -, hf⟩ := h
      obtain ⟨c2, i2, len2, -, -, gf⟩ := g
      rw [hf] at gf
      have e := congrArg (fun q => match q with | .java g :: _ => g.stack | _ => []) gf
      have e : v.toList ++ k.stack = w.toList ++ k.stack := e
      have e := List.append_cancel_right e
      cases v with
      | none => cases w with
        | none => rfl
        | some y => exact absurd e (by simp)
      | some x => cases w with
        | none => exact absurd e (by simp)
        | some y => simp at e; rw [e]
    | native k =>
      have hf : t.frames = _ := h
      have gf : t.frames = _ := g
      rw [hf] at gf
      have e := congrArg (fun q => match q with | .native g :: _ => g.answer | _ => none) gf
      have e : some (Outcome.returned v) = some (Outcome.returned w) := e
      injection e with e
      injection e
    | proc k =>
      have hf : t.frames = _ := h
      have gf : t.frames = _ := g
      rw [hf] at gf
      have e := congrArg (fun q => match q with | .proc g :: _ => g.answer | _ => none) gf
      have e : some (Outcome.returned v) = some (Outcome.returned w) := e
      injection e with e
      injection e
    | _ => rw [h.1, g.1]
def qSm (t : Nat) (I : qMI) (L : qML) (I2 : qMI) (L2 : qML) : Prop := (∀ k, k < t → 10 ≤ (qSh k).1 → (qSh k).1 < 13 → ∀ j, j < (qSh k).2 → I k j = I2 k j) ∧ (∀ k, k < t → (qSh k).1 = 13 → ∀ j, j < (qSh k).2 → L k j = L2 k j) ∧ ∀ k, k < t → (qSh k).1 < 10 → ∀ j, j < qNF (qSh k).1 → qIsR (qTy (qSh k).1 j) = false → I k j = I2 k j
theorem qFs_v {B : Nat} {I : qMI} {R : qMR} {ci k j : Nat} (hj : j < qNF ci) (hr : qIsR (qTy ci j) = false) : vp_V (qFs B I R ci k) j = .int (I k j) := by
  unfold vp_V qFs
  rw [List.getD_eq_getElem?_getD, List.getElem?_map, List.getElem?_range hj]
  simp [hr]
theorem qSm_of {G : qG} {t : Nat} {I I2 : qMI} {L L2 : qML} {R R2 : qMR} {H : Heap} (h1 : va_P (G.2.1, G.2.2.1) vwCl (qWd G t I L R) H) (h2 : va_P (G.2.1, G.2.2.1) vwCl (qWd G t I2 L2 R2) H) : qSm t I L I2 L2 := by
  refine ⟨fun k hk a b j hj => ?_, fun k hk a j hj => ?_, fun k hk a j hj hr => ?_⟩
  · have e1 := h1 k _ (qWd_at hk)
    have e2 := h2 k _ (qWd_at hk)
    unfold qCell at e1 e2
    rw [if_neg (by omega), if_pos b] at e1 e2
    have e1 : H[G.1 + k]? = some (arrV _ (qSh k).2 (fun j => .int (I k j))) := e1
    have e2 : H[G.1 + k]? = some (arrV _ (qSh k).2 (fun j => .int (I2 k j))) := e2
    rw [e1] at e2
    injection e2 with e2
    have e3 := congrArg (fun c => c.slots[j]?) e2
    simp only [arrV_read _ _ hj] at e3
    injection e3 with e3
    injection e3
  · have e1 := h1 k _ (qWd_at hk)
    have e2 := h2 k _ (qWd_at hk)
    unfold qCell at e1 e2
    rw [if_neg (by omega), if_neg (by omega), if_pos a] at e1 e2
    have e1 : H[G.1 + k]? = some (arrV _ (qSh k).2 (fun j => .long (L k j))) := e1
    have e2 : H[G.1 + k]? = some (arrV _ (qSh k).2 (fun j => .long (L2 k j))) := e2
    rw [e1] at e2
    injection e2 with e2
    have e3 := congrArg (fun c => c.slots[j]?) e2
    simp only [arrV_read _ _ hj] at e3
    injection e3 with e3
    injection e3
  · have e1 := h1 k _ (qWd_at hk)
    have e2 := h2 k _ (qWd_at hk)
    unfold qCell at e1 e2
    rw [if_pos a] at e1 e2
    obtain ⟨r1, c1, cell, d1, -, -, d4⟩ := e1
    obtain ⟨r2, c2, cell2, f1, -, -, f4⟩ := e2
    rw [qCl a] at c1 c2
    injection c1 with c1
    injection c2 with c2
    subst c1 c2
    rw [d1] at f1
    injection f1 with f1
    subst f1
    have g1 := d4 j hj
    have g2 := f4 j hj
    rw [g1] at g2
    injection g2 with g2
    rw [qFs_v hj hr, qFs_v hj hr] at g2
    injection g2
theorem qCall_and {l : Launch} {G : qG} {d : Nat} {M : qMn} {as : List Value} {t : Nat} {I : qMI} {L : qML} {R : qMR} {Q Q2 : qQ} (h : qCall l G d M as t I L R Q) (g : qCall l G d M as t I L R Q2) : qCall l G d M as t I L R (fun r t' I' L' R' => Q r t' I' L' R' ∧ ∃ r2 I2 L2 R2, Q2 r2 t' I2 L2 R2 ∧ r.map (qTv G) = r2.map (qTv G) ∧ qSm t' I' L' I2 L2) := by
  intro p e ha hc hk s m args below hf happ hpre hK
  obtain ⟨k1, o, h1, h2, h3, ⟨⟨⟨r, t', I', L', R', e1, e2, e3⟩, hF⟩, hL⟩⟩ := h p e ha hc hk s m args below hf happ hpre hK
  obtain ⟨k2, o2, g1, g2, g3, ⟨⟨⟨r2, t2, I2, L2, R2, d1, d2, d3⟩, -⟩, -⟩⟩ := g p e ha hc hk s m args below hf happ hpre hK
  subst e1 d1
  have ek : k1 = k2 := by
    rcases Nat.lt_trichotomy k1 k2 with q | q | q
    · exact absurd (g1 k1 q) (ended_not h3)
    · exact q
    · exact absurd (h1 k2 q) (ended_not g3)
  subst ek
  have er := ended_inj h3 g3
  have et : t' = t2 := by
    have a := e3.1
    have b := d3.1
    omega
  subst et
  exact ⟨k1, _, h1, h2, h3, ⟨⟨⟨r, t', I', L', R', rfl, ⟨e2, r2, I2, L2, R2, d2, er, qSm_of e3.2.1 d3.2.1⟩, e3⟩, hF⟩, hL⟩⟩
section
variable {l : Launch} {G : qG} {d : Nat} {M : qMn} {Q : qQ} {pc : Nat} {vs st : List Value} {I : qMI} {L : qML} {R : qMR}
theorem bb_aald {k a : Nat} {i : Int32} (hd : decode M.2.1 pc = .ok (.aaload, 1)) (hk : k < 336) (hs : (qSh k).1 = 14) (hin : vp_in i (qSh k).2) (hr : R k i.toNatClampNeg = some a) (kk : wkB l G d M Q (pc + 1) vs (.ref a :: st) I L R) : wkB l G d M Q pc vs (.int i :: .ref k :: st) I L R := fun lv hl => q_aald hd hk hs hin (by rw [hr]; exact kk lv hl)
end
section
variable {l : Launch} {G : qG} {d : Nat}
theorem w_X8_hold0_0 {Q : qQ} {I : qMI} {L : qML} {R : qMR} {a1 : Int32} (kt : a1 < 0 → wkB l G (d + 1) n_X8_hold Q 9 [.ref 0, .int a1] [] I L R) (kf : ¬ a1 < 0 → wkB l G (d + 1) n_X8_hold Q 4 [.ref 0, .int a1] [] I L R) : wkB l G (d + 1) n_X8_hold Q 0 [.ref 0, .int a1] [] I L R :=
  bb_iload_n (n := 1) (i := 1) (zd (i := .iload_n 1) (n := 1) (by decide +kernel)) rfl rfl <|
  (fun lv hl => q_if_lt (off := 8) (tgt := 9) (zd (i := .ifCond .lt (8)) (n := 3) (by decide +kernel)) (by decide) (fun h => (kt h) lv hl) (fun h => (kf h) lv hl))
theorem w_X8_hold0_4 {Q : qQ} {I : qMI} {L : qML} {R : qMR} {a1 : Int32} (kt : a1 < 3 → wkB l G (d + 1) n_X8_hold Q 11 [.ref 0, .int a1] [] I L R) (kf : ¬ a1 < 3 → wkB l G (d + 1) n_X8_hold Q 9 [.ref 0, .int a1] [] I L R) : wkB l G (d + 1) n_X8_hold Q 4 [.ref 0, .int a1] [] I L R :=
  bb_iload_n (n := 1) (i := 1) (zd (i := .iload_n 1) (n := 1) (by decide +kernel)) rfl rfl <|
  bb_lift (fun _ => q_iconst (n := 3) (zd (i := .iconst (3)) (n := 1) (by decide +kernel)) rfl) <|
  (fun lv hl => q_icmp_lt (off := 5) (tgt := 11) (zd (i := .if_icmp .lt (5)) (n := 3) (by decide +kernel)) (by decide) (fun h => (kt h) lv hl) (fun h => (kf h) lv hl))
theorem w_X8_hold0_9 {Q : qQ} {I : qMI} {L : qML} {R : qMR} {a1 : Int32} (hQ : Q (some (.int 0)) 336 I L R) : wkB l G (d + 1) n_X8_hold Q 9 [.ref 0, .int a1] [] I L R :=
  bb_lift (fun _ => q_iconst (n := 0) (zd (i := .iconst (0)) (n := 1) (by decide +kernel)) rfl) <|
  (fun lv hl => q_iret (zd (i := .ireturn) (n := 1) (by decide +kernel)) rfl rfl (Nat.le_refl _) (Nat.le_refl _) hQ)
theorem w_X8_hold0_11 {Q : qQ} {I : qMI} {L : qML} {R : qMR} {a1 : Int32} (h1 : R 0 5 = some 247) (h2 : vp_in a1 3) (h3 : R 247 a1.toNatClampNeg = some 271) (h4 : R 0 2 = some 21) {P : qMI → qML → qMR → Prop} (hc : wkCv l G d n_X4_copy [.ref 271, .ref 21] I L R P) (kk : ∀ I' L' R', P I' L' R' → wkB l G (d + 1) n_X8_hold Q 24 [.ref 0, .int a1] [] I' L' R') : wkB l G (d + 1) n_X8_hold Q 11 [.ref 0, .int a1] [] I L R :=
  bb_aload_n (n := 0) (i := 0) (zd (i := .aload_n 0) (n := 1) (by decide +kernel)) rfl rfl <|
  bb_getr (k := 0) (ci := 8) (j := 5) (idx := 40) (a := 247) (zd (i := .getfield 40) (n := 3) (by decide +kernel)) (by decide +kernel) (by decide +kernel) (by decide +kernel) (by decide +kernel) rfl g457 h1 <|
  bb_iload_n (n := 1) (i := 1) (zd (i := .iload_n 1) (n := 1) (by decide +kernel)) rfl rfl <|
  bb_aald (k := 247) (a := 271) (zd (i := .aaload) (n := 1) (by decide +kernel)) (by decide +kernel) (by decide +kernel) h2 h3 <|
  bb_aload_n (n := 0) (i := 0) (zd (i := .aload_n 0) (n := 1) (by decide +kernel)) rfl rfl <|
  bb_getr (k := 0) (ci := 8) (j := 2) (idx := 26) (a := 21) (zd (i := .getfield 26) (n := 3) (by decide +kernel)) (by decide +kernel) (by decide +kernel) (by decide +kernel) (by decide +kernel) rfl g454 h4 <|
  bb_callV (idx := 258) (k := 271) (ci := 4) (N := n_X4_copy) (As := [.ref 21]) (st := []) (zd (i := .invokevirtual 258) (n := 3) (by decide +kernel)) to_X4_copy g956 g841 g842 (Nat.le_of_ble_eq_true rfl) (by decide +kernel) (by decide +kernel) (by decide +kernel) rfl rfl rfl hc (fun r I' L' R' hq => by obtain ⟨rfl, hp⟩ := hq; exact kk I' L' R' hp)
theorem w_X8_hold0_24 {Q : qQ} {I : qMI} {L : qML} {R : qMR} {a1 : Int32} (h1 : R 0 6 = some 248) (h2 : vp_in a1 3) (hQ : Q (some (.int 1)) 336 (qUp I 248 a1.toNatClampNeg (vp_nar .boolean 1)) L R) : wkB l G (d + 1) n_X8_hold Q 24 [.ref 0, .int a1] [] I L R :=
  bb_aload_n (n := 0) (i := 0) (zd (i := .aload_n 0) (n := 1) (by decide +kernel)) rfl rfl <|
  bb_getr (k := 0) (ci := 8) (j := 6) (idx := 44) (a := 248) (zd (i := .getfield 44) (n := 3) (by decide +kernel)) (by decide +kernel) (by decide +kernel) (by decide +kernel) (by decide +kernel) rfl g458 h1 <|
  bb_iload_n (n := 1) (i := 1) (zd (i := .iload_n 1) (n := 1) (by decide +kernel)) rfl rfl <|
  bb_lift (fun _ => q_iconst (n := 1) (zd (i := .iconst (1)) (n := 1) (by decide +kernel)) rfl) <|
  bb_lift (fun _ => q_zast (k := 248) (zd (i := .bastore) (n := 1) (by decide +kernel)) (by decide +kernel) (by decide +kernel) h2) <|
  bb_lift (fun _ => q_iconst (n := 1) (zd (i := .iconst (1)) (n := 1) (by decide +kernel)) rfl) <|
  (fun lv hl => q_iret (zd (i := .ireturn) (n := 1) (by decide +kernel)) rfl rfl (Nat.le_refl _) (Nat.le_refl _) hQ)
theorem w_X8_restore0_0 {Q : qQ} {I : qMI} {L : qML} {R : qMR} {a1 : Int32} (kt : a1 < 0 → wkB l G (d + 1) n_X8_restore Q 18 [.ref 0, .int a1] [] I L R) (kf : ¬ a1 < 0 → wkB l G (d + 1) n_X8_restore Q 4 [.ref 0, .int a1] [] I L R) : wkB l G (d + 1) n_X8_restore Q 0 [.ref 0, .int a1] [] I L R :=
  bb_iload_n (n := 1) (i := 1) (zd (i := .iload_n 1) (n := 1) (by decide +kernel)) rfl rfl <|
  (fun lv hl => q_if_lt (off := 17) (tgt := 18) (zd (i := .ifCond .lt (17)) (n := 3) (by decide +kernel)) (by decide) (fun h => (kt h) lv hl) (fun h => (kf h) lv hl))
theorem w_X8_restore0_4 {Q : qQ} {I : qMI} {L : qML} {R : qMR} {a1 : Int32} (kt : 3 ≤ a1 → wkB l G (d + 1) n_X8_restore Q 18 [.ref 0, .int a1] [] I L R) (kf : ¬ 3 ≤ a1 → wkB l G (d + 1) n_X8_restore Q 9 [.ref 0, .int a1] [] I L R) : wkB l G (d + 1) n_X8_restore Q 4 [.ref 0, .int a1] [] I L R :=
  bb_iload_n (n := 1) (i := 1) (zd (i := .iload_n 1) (n := 1) (by decide +kernel)) rfl rfl <|
  bb_lift (fun _ => q_iconst (n := 3) (zd (i := .iconst (3)) (n := 1) (by decide +kernel)) rfl) <|
  (fun lv hl => q_icmp_ge (off := 12) (tgt := 18) (zd (i := .if_icmp .ge (12)) (n := 3) (by decide +kernel)) (by decide) (fun h => (kt h) lv hl) (fun h => (kf h) lv hl))
theorem w_X8_restore0_9 {Q : qQ} {I : qMI} {L : qML} {R : qMR} {a1 : Int32} (h1 : R 0 6 = some 248) (h2 : vp_in a1 3) (kt : ¬ (I 248 a1.toNatClampNeg) = 0 → wkB l G (d + 1) n_X8_restore Q 20 [.ref 0, .int a1] [] I L R) (kf : (I 248 a1.toNatClampNeg) = 0 → wkB l G (d + 1) n_X8_restore Q 18 [.ref 0, .int a1] [] I L R) : wkB l G (d + 1) n_X8_restore Q 9 [.ref 0, .int a1] [] I L R :=
  bb_aload_n (n := 0) (i := 0) (zd (i := .aload_n 0) (n := 1) (by decide +kernel)) rfl rfl <|
  bb_getr (k := 0) (ci := 8) (j := 6) (idx := 44) (a := 248) (zd (i := .getfield 44) (n := 3) (by decide +kernel)) (by decide +kernel) (by decide +kernel) (by decide +kernel) (by decide +kernel) rfl g458 h1 <|
  bb_iload_n (n := 1) (i := 1) (zd (i := .iload_n 1) (n := 1) (by decide +kernel)) rfl rfl <|
  bb_lift (fun _ => q_zald (k := 248) (zd (i := .baload) (n := 1) (by decide +kernel)) (by decide +kernel) (by decide +kernel) h2) <|
  (fun lv hl => q_if_ne (off := 5) (tgt := 20) (zd (i := .ifCond .ne (5)) (n := 3) (by decide +kernel)) (by decide) (fun h => (kt h) lv hl) (fun h => (kf h) lv hl))
theorem w_X8_restore0_18 {Q : qQ} {I : qMI} {L : qML} {R : qMR} {a1 : Int32} (hQ : Q (some (.int 0)) 336 I L R) : wkB l G (d + 1) n_X8_restore Q 18 [.ref 0, .int a1] [] I L R :=
  bb_lift (fun _ => q_iconst (n := 0) (zd (i := .iconst (0)) (n := 1) (by decide +kernel)) rfl) <|
  (fun lv hl => q_iret (zd (i := .ireturn) (n := 1) (by decide +kernel)) rfl rfl (Nat.le_refl _) (Nat.le_refl _) hQ)
theorem w_X8_restore0_20 {Q : qQ} {I : qMI} {L : qML} {R : qMR} {a1 : Int32} (h1 : R 0 2 = some 21) (h2 : R 0 5 = some 247) (h3 : vp_in a1 3) (h4 : R 247 a1.toNatClampNeg = some 271) {P : qMI → qML → qMR → Prop} (hc : wkCv l G d n_X4_copy [.ref 21, .ref 271] I L R P) (kk : ∀ I' L' R', P I' L' R' → wkB l G (d + 1) n_X8_restore Q 33 [.ref 0, .int a1] [] I' L' R') : wkB l G (d + 1) n_X8_restore Q 20 [.ref 0, .int a1] [] I L R :=
  bb_aload_n (n := 0) (i := 0) (zd (i := .aload_n 0) (n := 1) (by decide +kernel)) rfl rfl <|
  bb_getr (k := 0) (ci := 8) (j := 2) (idx := 26) (a := 21) (zd (i := .getfield 26) (n := 3) (by decide +kernel)) (by decide +kernel) (by decide +kernel) (by decide +kernel) (by decide +kernel) rfl g454 h1 <|
  bb_aload_n (n := 0) (i := 0) (zd (i := .aload_n 0) (n := 1) (by decide +kernel)) rfl rfl <|
  bb_getr (k := 0) (ci := 8) (j := 5) (idx := 40) (a := 247) (zd (i := .getfield 40) (n := 3) (by decide +kernel)) (by decide +kernel) (by decide +kernel) (by decide +kernel) (by decide +kernel) rfl g457 h2 <|
  bb_iload_n (n := 1) (i := 1) (zd (i := .iload_n 1) (n := 1) (by decide +kernel)) rfl rfl <|
  bb_aald (k := 247) (a := 271) (zd (i := .aaload) (n := 1) (by decide +kernel)) (by decide +kernel) (by decide +kernel) h3 h4 <|
  bb_callV (idx := 258) (k := 21) (ci := 4) (N := n_X4_copy) (As := [.ref 271]) (st := []) (zd (i := .invokevirtual 258) (n := 3) (by decide +kernel)) to_X4_copy g956 g841 g842 (Nat.le_of_ble_eq_true rfl) (by decide +kernel) (by decide +kernel) (by decide +kernel) rfl rfl rfl hc (fun r I' L' R' hq => by obtain ⟨rfl, hp⟩ := hq; exact kk I' L' R' hp)
theorem w_X8_restore0_33 {Q : qQ} {I : qMI} {L : qML} {R : qMR} {a1 : Int32} (h1 : R 0 4 = some 35) {P : qMI → qML → qMR → Prop} (hc : wkCv l G d n_X3_clear [.ref 35] I L R P) (kk : ∀ I' L' R', P I' L' R' → wkB l G (d + 1) n_X8_restore Q 40 [.ref 0, .int a1] [] I' L' R') : wkB l G (d + 1) n_X8_restore Q 33 [.ref 0, .int a1] [] I L R :=
  bb_aload_n (n := 0) (i := 0) (zd (i := .aload_n 0) (n := 1) (by decide +kernel)) rfl rfl <|
  bb_getr (k := 0) (ci := 8) (j := 4) (idx := 36) (a := 35) (zd (i := .getfield 36) (n := 3) (by decide +kernel)) (by decide +kernel) (by decide +kernel) (by decide +kernel) (by decide +kernel) rfl g456 h1 <|
  bb_callV (idx := 111) (k := 35) (ci := 3) (N := n_X3_clear) (As := []) (st := []) (zd (i := .invokevirtual 111) (n := 3) (by decide +kernel)) to_X3_clear g696 g697 g698 (Nat.le_of_ble_eq_true rfl) (by decide +kernel) (by decide +kernel) (by decide +kernel) rfl rfl rfl hc (fun r I' L' R' hq => by obtain ⟨rfl, hp⟩ := hq; exact kk I' L' R' hp)
theorem w_X8_restore0_40 {Q : qQ} {I : qMI} {L : qML} {R : qMR} {a1 : Int32} (hQ : Q (some (.int 1)) 336 I L R) : wkB l G (d + 1) n_X8_restore Q 40 [.ref 0, .int a1] [] I L R :=
  bb_lift (fun _ => q_iconst (n := 1) (zd (i := .iconst (1)) (n := 1) (by decide +kernel)) rfl) <|
  (fun lv hl => q_iret (zd (i := .ireturn) (n := 1) (by decide +kernel)) rfl rfl (Nat.le_refl _) (Nat.le_refl _) hQ)
theorem w_X8_hold1_11 {Q : qQ} {I : qMI} {L : qML} {R : qMR} {a1 : Int32} (h1 : R 0 5 = some 247) (h2 : vp_in a1 3) (h3 : R 247 a1.toNatClampNeg = some 278) (h4 : R 0 2 = some 21) {P : qMI → qML → qMR → Prop} (hc : wkCv l G d n_X4_copy [.ref 278, .ref 21] I L R P) (kk : ∀ I' L' R', P I' L' R' → wkB l G (d + 1) n_X8_hold Q 24 [.ref 0, .int a1] [] I' L' R') : wkB l G (d + 1) n_X8_hold Q 11 [.ref 0, .int a1] [] I L R :=
  bb_aload_n (n := 0) (i := 0) (zd (i := .aload_n 0) (n := 1) (by decide +kernel)) rfl rfl <|
  bb_getr (k := 0) (ci := 8) (j := 5) (idx := 40) (a := 247) (zd (i := .getfield 40) (n := 3) (by decide +kernel)) (by decide +kernel) (by decide +kernel) (by decide +kernel) (by decide +kernel) rfl g457 h1 <|
  bb_iload_n (n := 1) (i := 1) (zd (i := .iload_n 1) (n := 1) (by decide +kernel)) rfl rfl <|
  bb_aald (k := 247) (a := 278) (zd (i := .aaload) (n := 1) (by decide +kernel)) (by decide +kernel) (by decide +kernel) h2 h3 <|
  bb_aload_n (n := 0) (i := 0) (zd (i := .aload_n 0) (n := 1) (by decide +kernel)) rfl rfl <|
  bb_getr (k := 0) (ci := 8) (j := 2) (idx := 26) (a := 21) (zd (i := .getfield 26) (n := 3) (by decide +kernel)) (by decide +kernel) (by decide +kernel) (by decide +kernel) (by decide +kernel) rfl g454 h4 <|
  bb_callV (idx := 258) (k := 278) (ci := 4) (N := n_X4_copy) (As := [.ref 21]) (st := []) (zd (i := .invokevirtual 258) (n := 3) (by decide +kernel)) to_X4_copy g956 g841 g842 (Nat.le_of_ble_eq_true rfl) (by decide +kernel) (by decide +kernel) (by decide +kernel) rfl rfl rfl hc (fun r I' L' R' hq => by obtain ⟨rfl, hp⟩ := hq; exact kk I' L' R' hp)
theorem w_X8_restore1_20 {Q : qQ} {I : qMI} {L : qML} {R : qMR} {a1 : Int32} (h1 : R 0 2 = some 21) (h2 : R 0 5 = some 247) (h3 : vp_in a1 3) (h4 : R 247 a1.toNatClampNeg = some 278) {P : qMI → qML → qMR → Prop} (hc : wkCv l G d n_X4_copy [.ref 21, .ref 278] I L R P) (kk : ∀ I' L' R', P I' L' R' → wkB l G (d + 1) n_X8_restore Q 33 [.ref 0, .int a1] [] I' L' R') : wkB l G (d + 1) n_X8_restore Q 20 [.ref 0, .int a1] [] I L R :=
  bb_aload_n (n := 0) (i := 0) (zd (i := .aload_n 0) (n := 1) (by decide +kernel)) rfl rfl <|
  bb_getr (k := 0) (ci := 8) (j := 2) (idx := 26) (a := 21) (zd (i := .getfield 26) (n := 3) (by decide +kernel)) (by decide +kernel) (by decide +kernel) (by decide +kernel) (by decide +kernel) rfl g454 h1 <|
  bb_aload_n (n := 0) (i := 0) (zd (i := .aload_n 0) (n := 1) (by decide +kernel)) rfl rfl <|
  bb_getr (k := 0) (ci := 8) (j := 5) (idx := 40) (a := 247) (zd (i := .getfield 40) (n := 3) (by decide +kernel)) (by decide +kernel) (by decide +kernel) (by decide +kernel) (by decide +kernel) rfl g457 h2 <|
  bb_iload_n (n := 1) (i := 1) (zd (i := .iload_n 1) (n := 1) (by decide +kernel)) rfl rfl <|
  bb_aald (k := 247) (a := 278) (zd (i := .aaload) (n := 1) (by decide +kernel)) (by decide +kernel) (by decide +kernel) h3 h4 <|
  bb_callV (idx := 258) (k := 21) (ci := 4) (N := n_X4_copy) (As := [.ref 278]) (st := []) (zd (i := .invokevirtual 258) (n := 3) (by decide +kernel)) to_X4_copy g956 g841 g842 (Nat.le_of_ble_eq_true rfl) (by decide +kernel) (by decide +kernel) (by decide +kernel) rfl rfl rfl hc (fun r I' L' R' hq => by obtain ⟨rfl, hp⟩ := hq; exact kk I' L' R' hp)
theorem w_X8_hold2_11 {Q : qQ} {I : qMI} {L : qML} {R : qMR} {a1 : Int32} (h1 : R 0 5 = some 247) (h2 : vp_in a1 3) (h3 : R 247 a1.toNatClampNeg = some 285) (h4 : R 0 2 = some 21) {P : qMI → qML → qMR → Prop} (hc : wkCv l G d n_X4_copy [.ref 285, .ref 21] I L R P) (kk : ∀ I' L' R', P I' L' R' → wkB l G (d + 1) n_X8_hold Q 24 [.ref 0, .int a1] [] I' L' R') : wkB l G (d + 1) n_X8_hold Q 11 [.ref 0, .int a1] [] I L R :=
  bb_aload_n (n := 0) (i := 0) (zd (i := .aload_n 0) (n := 1) (by decide +kernel)) rfl rfl <|
  bb_getr (k := 0) (ci := 8) (j := 5) (idx := 40) (a := 247) (zd (i := .getfield 40) (n := 3) (by decide +kernel)) (by decide +kernel) (by decide +kernel) (by decide +kernel) (by decide +kernel) rfl g457 h1 <|
  bb_iload_n (n := 1) (i := 1) (zd (i := .iload_n 1) (n := 1) (by decide +kernel)) rfl rfl <|
  bb_aald (k := 247) (a := 285) (zd (i := .aaload) (n := 1) (by decide +kernel)) (by decide +kernel) (by decide +kernel) h2 h3 <|
  bb_aload_n (n := 0) (i := 0) (zd (i := .aload_n 0) (n := 1) (by decide +kernel)) rfl rfl <|
  bb_getr (k := 0) (ci := 8) (j := 2) (idx := 26) (a := 21) (zd (i := .getfield 26) (n := 3) (by decide +kernel)) (by decide +kernel) (by decide +kernel) (by decide +kernel) (by decide +kernel) rfl g454 h4 <|
  bb_callV (idx := 258) (k := 285) (ci := 4) (N := n_X4_copy) (As := [.ref 21]) (st := []) (zd (i := .invokevirtual 258) (n := 3) (by decide +kernel)) to_X4_copy g956 g841 g842 (Nat.le_of_ble_eq_true rfl) (by decide +kernel) (by decide +kernel) (by decide +kernel) rfl rfl rfl hc (fun r I' L' R' hq => by obtain ⟨rfl, hp⟩ := hq; exact kk I' L' R' hp)
theorem w_X8_restore2_20 {Q : qQ} {I : qMI} {L : qML} {R : qMR} {a1 : Int32} (h1 : R 0 2 = some 21) (h2 : R 0 5 = some 247) (h3 : vp_in a1 3) (h4 : R 247 a1.toNatClampNeg = some 285) {P : qMI → qML → qMR → Prop} (hc : wkCv l G d n_X4_copy [.ref 21, .ref 285] I L R P) (kk : ∀ I' L' R', P I' L' R' → wkB l G (d + 1) n_X8_restore Q 33 [.ref 0, .int a1] [] I' L' R') : wkB l G (d + 1) n_X8_restore Q 20 [.ref 0, .int a1] [] I L R :=
  bb_aload_n (n := 0) (i := 0) (zd (i := .aload_n 0) (n := 1) (by decide +kernel)) rfl rfl <|
  bb_getr (k := 0) (ci := 8) (j := 2) (idx := 26) (a := 21) (zd (i := .getfield 26) (n := 3) (by decide +kernel)) (by decide +kernel) (by decide +kernel) (by decide +kernel) (by decide +kernel) rfl g454 h1 <|
  bb_aload_n (n := 0) (i := 0) (zd (i := .aload_n 0) (n := 1) (by decide +kernel)) rfl rfl <|
  bb_getr (k := 0) (ci := 8) (j := 5) (idx := 40) (a := 247) (zd (i := .getfield 40) (n := 3) (by decide +kernel)) (by decide +kernel) (by decide +kernel) (by decide +kernel) (by decide +kernel) rfl g457 h2 <|
  bb_iload_n (n := 1) (i := 1) (zd (i := .iload_n 1) (n := 1) (by decide +kernel)) rfl rfl <|
  bb_aald (k := 247) (a := 285) (zd (i := .aaload) (n := 1) (by decide +kernel)) (by decide +kernel) (by decide +kernel) h3 h4 <|
  bb_callV (idx := 258) (k := 21) (ci := 4) (N := n_X4_copy) (As := [.ref 285]) (st := []) (zd (i := .invokevirtual 258) (n := 3) (by decide +kernel)) to_X4_copy g956 g841 g842 (Nat.le_of_ble_eq_true rfl) (by decide +kernel) (by decide +kernel) (by decide +kernel) rfl rfl rfl hc (fun r I' L' R' hq => by obtain ⟨rfl, hp⟩ := hq; exact kk I' L' R' hp)
theorem w_X9_hold_0 {Q : qQ} {I : qMI} {L : qML} {R : qMR} {a1 : Int32} {P : Int32 → qMI → qML → Prop} (hc : wkI l G d n_X9_in [.int a1, .int 0, .int 2] I L R P) (kk : ∀ y I' L', P y I' L' → wkB l G (d + 1) n_X9_hold Q 6 [.ref 292, .int a1, wkU] [.int y] I' L' R) : wkB l G (d + 1) n_X9_hold Q 0 [.ref 292, .int a1, wkU] [] I L R :=
  bb_iload_n (n := 1) (i := 1) (zd (i := .iload_n 1) (n := 1) (by decide +kernel)) rfl rfl <|
  bb_lift (fun _ => q_iconst (n := 0) (zd (i := .iconst (0)) (n := 1) (by decide +kernel)) rfl) <|
  bb_lift (fun _ => q_iconst (n := 2) (zd (i := .iconst (2)) (n := 1) (by decide +kernel)) rfl) <|
  bb_callSI (idx := 304) (N := n_X9_in) (As := [.int a1, .int 0, .int 2]) (st := []) (zd (i := .invokestatic 304) (n := 3) (by decide +kernel)) to_X9_in g1442 g1443 (Nat.le_of_ble_eq_true rfl) rfl rfl hc kk
theorem w_X9_hold_6 {Q : qQ} {I : qMI} {L : qML} {R : qMR} {a1 : Int32} {s0 : Int32} (kt : ¬ s0 = 0 → wkB l G (d + 1) n_X9_hold Q 11 [.ref 292, .int a1, wkU] [] I L R) (kf : s0 = 0 → wkB l G (d + 1) n_X9_hold Q 9 [.ref 292, .int a1, wkU] [] I L R) : wkB l G (d + 1) n_X9_hold Q 6 [.ref 292, .int a1, wkU] [.int s0] I L R :=
  (fun lv hl => q_if_ne (off := 5) (tgt := 11) (zd (i := .ifCond .ne (5)) (n := 3) (by decide +kernel)) (by decide) (fun h => (kt h) lv hl) (fun h => (kf h) lv hl))
theorem w_X9_hold_9 {Q : qQ} {I : qMI} {L : qML} {R : qMR} {a1 : Int32} (hQ : Q (some (.int 0)) 336 I L R) : wkB l G (d + 1) n_X9_hold Q 9 [.ref 292, .int a1, wkU] [] I L R :=
  bb_lift (fun _ => q_iconst (n := 0) (zd (i := .iconst (0)) (n := 1) (by decide +kernel)) rfl) <|
  (fun lv hl => q_iret (zd (i := .ireturn) (n := 1) (by decide +kernel)) rfl rfl (Nat.le_refl _) (Nat.le_refl _) hQ)
theorem w_X9_hold_11 {Q : qQ} {I : qMI} {L : qML} {R : qMR} (hR : wkR R) {a1 : Int32} (h1 : vp_in a1 3) (k : wkB l G (d + 1) n_X9_hold Q 20 [.ref 292, .int a1, .int 0] [] (qUp I 334 a1.toNatClampNeg (vp_nar .boolean 1)) L R) : wkB l G (d + 1) n_X9_hold Q 11 [.ref 292, .int a1, wkU] [] I L R :=
  bb_aload_n (n := 0) (i := 0) (zd (i := .aload_n 0) (n := 1) (by decide +kernel)) rfl rfl <|
  bb_getr (k := 292) (ci := 9) (j := 63) (idx := 143) (a := 334) (zd (i := .getfield 143) (n := 3) (by decide +kernel)) (by decide +kernel) (by decide +kernel) (by decide +kernel) (by decide +kernel) rfl g1191 (hR 63 (by decide)) <|
  bb_iload_n (n := 1) (i := 1) (zd (i := .iload_n 1) (n := 1) (by decide +kernel)) rfl rfl <|
  bb_lift (fun _ => q_iconst (n := 1) (zd (i := .iconst (1)) (n := 1) (by decide +kernel)) rfl) <|
  bb_lift (fun _ => q_zast (k := 334) (zd (i := .bastore) (n := 1) (by decide +kernel)) (by decide +kernel) (by decide +kernel) h1) <|
  bb_lift (fun _ => q_iconst (n := 0) (zd (i := .iconst (0)) (n := 1) (by decide +kernel)) rfl) <|
  bb_istore_n (n := 2) (i := 2) (zd (i := .istore_n 2) (n := 1) (by decide +kernel)) rfl (by decide +kernel) (wkNl_i rfl) <|
  k
theorem w_X9_hold_20 {Q : qQ} {I : qMI} {L : qML} {R : qMR} {a1 : Int32} {a2 : Int32} (kt : 97 ≤ a2 → wkB l G (d + 1) n_X9_hold Q 49 [.ref 292, .int a1, .int a2] [] I L R) (kf : ¬ 97 ≤ a2 → wkB l G (d + 1) n_X9_hold Q 26 [.ref 292, .int a1, .int a2] [] I L R) : wkB l G (d + 1) n_X9_hold Q 20 [.ref 292, .int a1, .int a2] [] I L R :=
  bb_iload_n (n := 2) (i := 2) (zd (i := .iload_n 2) (n := 1) (by decide +kernel)) rfl rfl <|
  bb_lift (fun _ => q_bipush (n := 97) (zd (i := .bipush (97)) (n := 2) (by decide +kernel)) rfl) <|
  (fun lv hl => q_icmp_ge (off := 26) (tgt := 49) (zd (i := .if_icmp .ge (26)) (n := 3) (by decide +kernel)) (by decide) (fun h => (kt h) lv hl) (fun h => (kf h) lv hl))
theorem w_X9_hold_26 {Q : qQ} {I : qMI} {L : qML} {R : qMR} (hR : wkR R) {a1 : Int32} {a2 : Int32} (h1 : vp_in a2 97) (h2 : vp_in ((97 * a1) + a2) 291) (k : wkB l G (d + 1) n_X9_hold Q 20 [.ref 292, .int a1, .int (a2 + 1)] [] (qUp I 335 ((97 * a1) + a2).toNatClampNeg (I 323 a2.toNatClampNeg)) L R) : wkB l G (d + 1) n_X9_hold Q 26 [.ref 292, .int a1, .int a2] [] I L R :=
  bb_aload_n (n := 0) (i := 0) (zd (i := .aload_n 0) (n := 1) (by decide +kernel)) rfl rfl <|
  bb_getr (k := 292) (ci := 9) (j := 64) (idx := 146) (a := 335) (zd (i := .getfield 146) (n := 3) (by decide +kernel)) (by decide +kernel) (by decide +kernel) (by decide +kernel) (by decide +kernel) rfl g1192 (hR 64 (by decide)) <|
  bb_lift (fun _ => q_bipush (n := 97) (zd (i := .bipush (97)) (n := 2) (by decide +kernel)) rfl) <|
  bb_iload_n (n := 1) (i := 1) (zd (i := .iload_n 1) (n := 1) (by decide +kernel)) rfl rfl <|
  bb_lift (fun _ => q_imul (zd (i := .imul) (n := 1) (by decide +kernel))) <|
  bb_iload_n (n := 2) (i := 2) (zd (i := .iload_n 2) (n := 1) (by decide +kernel)) rfl rfl <|
  bb_lift (fun _ => q_iadd (zd (i := .iadd) (n := 1) (by decide +kernel))) <|
  bb_aload_n (n := 0) (i := 0) (zd (i := .aload_n 0) (n := 1) (by decide +kernel)) rfl rfl <|
  bb_getr (k := 292) (ci := 9) (j := 48) (idx := 110) (a := 323) (zd (i := .getfield 110) (n := 3) (by decide +kernel)) (by decide +kernel) (by decide +kernel) (by decide +kernel) (by decide +kernel) rfl g1176 (hR 48 (by decide)) <|
  bb_iload_n (n := 2) (i := 2) (zd (i := .iload_n 2) (n := 1) (by decide +kernel)) rfl rfl <|
  bb_lift (fun _ => q_iald (k := 323) (zd (i := .iaload) (n := 1) (by decide +kernel)) (by decide +kernel) (by decide +kernel) h1) <|
  bb_lift (fun _ => q_iast (k := 335) (zd (i := .iastore) (n := 1) (by decide +kernel)) (by decide +kernel) (by decide +kernel) h2) <|
  bb_iinc (i := 2) (n := 1) (zd (i := .iinc 2 (1)) (n := 3) (by decide +kernel)) rfl rfl (by decide +kernel) (wkNl_i rfl) <|
  bb_lift (fun _ => q_goto (off := -26) (tgt := 20) (zd (i := .goto (-26)) (n := 3) (by decide +kernel)) (by decide)) k
theorem w_X9_hold_49 {Q : qQ} {I : qMI} {L : qML} {R : qMR} {a1 : Int32} {a2 : Int32} (hQ : Q (some (.int 1)) 336 I L R) : wkB l G (d + 1) n_X9_hold Q 49 [.ref 292, .int a1, .int a2] [] I L R :=
  bb_lift (fun _ => q_iconst (n := 1) (zd (i := .iconst (1)) (n := 1) (by decide +kernel)) rfl) <|
  (fun lv hl => q_iret (zd (i := .ireturn) (n := 1) (by decide +kernel)) rfl rfl (Nat.le_refl _) (Nat.le_refl _) hQ)
theorem w_X9_restore_0 {Q : qQ} {I : qMI} {L : qML} {R : qMR} {a1 : Int32} {P : Int32 → qMI → qML → Prop} (hc : wkI l G d n_X9_in [.int a1, .int 0, .int 2] I L R P) (kk : ∀ y I' L', P y I' L' → wkB l G (d + 1) n_X9_restore Q 6 [.ref 292, .int a1, wkU] [.int y] I' L' R) : wkB l G (d + 1) n_X9_restore Q 0 [.ref 292, .int a1, wkU] [] I L R :=
  bb_iload_n (n := 1) (i := 1) (zd (i := .iload_n 1) (n := 1) (by decide +kernel)) rfl rfl <|
  bb_lift (fun _ => q_iconst (n := 0) (zd (i := .iconst (0)) (n := 1) (by decide +kernel)) rfl) <|
  bb_lift (fun _ => q_iconst (n := 2) (zd (i := .iconst (2)) (n := 1) (by decide +kernel)) rfl) <|
  bb_callSI (idx := 304) (N := n_X9_in) (As := [.int a1, .int 0, .int 2]) (st := []) (zd (i := .invokestatic 304) (n := 3) (by decide +kernel)) to_X9_in g1442 g1443 (Nat.le_of_ble_eq_true rfl) rfl rfl hc kk
theorem w_X9_restore_6 {Q : qQ} {I : qMI} {L : qML} {R : qMR} {a1 : Int32} {s0 : Int32} (kt : s0 = 0 → wkB l G (d + 1) n_X9_restore Q 18 [.ref 292, .int a1, wkU] [] I L R) (kf : ¬ s0 = 0 → wkB l G (d + 1) n_X9_restore Q 9 [.ref 292, .int a1, wkU] [] I L R) : wkB l G (d + 1) n_X9_restore Q 6 [.ref 292, .int a1, wkU] [.int s0] I L R :=
  (fun lv hl => q_if_eq (off := 12) (tgt := 18) (zd (i := .ifCond .eq (12)) (n := 3) (by decide +kernel)) (by decide) (fun h => (kt h) lv hl) (fun h => (kf h) lv hl))
theorem w_X9_restore_9 {Q : qQ} {I : qMI} {L : qML} {R : qMR} (hR : wkR R) {a1 : Int32} (h1 : vp_in a1 3) (kt : ¬ (I 334 a1.toNatClampNeg) = 0 → wkB l G (d + 1) n_X9_restore Q 20 [.ref 292, .int a1, wkU] [] I L R) (kf : (I 334 a1.toNatClampNeg) = 0 → wkB l G (d + 1) n_X9_restore Q 18 [.ref 292, .int a1, wkU] [] I L R) : wkB l G (d + 1) n_X9_restore Q 9 [.ref 292, .int a1, wkU] [] I L R :=
  bb_aload_n (n := 0) (i := 0) (zd (i := .aload_n 0) (n := 1) (by decide +kernel)) rfl rfl <|
  bb_getr (k := 292) (ci := 9) (j := 63) (idx := 143) (a := 334) (zd (i := .getfield 143) (n := 3) (by decide +kernel)) (by decide +kernel) (by decide +kernel) (by decide +kernel) (by decide +kernel) rfl g1191 (hR 63 (by decide)) <|
  bb_iload_n (n := 1) (i := 1) (zd (i := .iload_n 1) (n := 1) (by decide +kernel)) rfl rfl <|
  bb_lift (fun _ => q_zald (k := 334) (zd (i := .baload) (n := 1) (by decide +kernel)) (by decide +kernel) (by decide +kernel) h1) <|
  (fun lv hl => q_if_ne (off := 5) (tgt := 20) (zd (i := .ifCond .ne (5)) (n := 3) (by decide +kernel)) (by decide) (fun h => (kt h) lv hl) (fun h => (kf h) lv hl))
theorem w_X9_restore_18 {Q : qQ} {I : qMI} {L : qML} {R : qMR} {a1 : Int32} (hQ : Q (some (.int 0)) 336 I L R) : wkB l G (d + 1) n_X9_restore Q 18 [.ref 292, .int a1, wkU] [] I L R :=
  bb_lift (fun _ => q_iconst (n := 0) (zd (i := .iconst (0)) (n := 1) (by decide +kernel)) rfl) <|
  (fun lv hl => q_iret (zd (i := .ireturn) (n := 1) (by decide +kernel)) rfl rfl (Nat.le_refl _) (Nat.le_refl _) hQ)
theorem w_X9_restore_20 {Q : qQ} {I : qMI} {L : qML} {R : qMR} {a1 : Int32} (k : wkB l G (d + 1) n_X9_restore Q 22 [.ref 292, .int a1, .int 0] [] I L R) : wkB l G (d + 1) n_X9_restore Q 20 [.ref 292, .int a1, wkU] [] I L R :=
  bb_lift (fun _ => q_iconst (n := 0) (zd (i := .iconst (0)) (n := 1) (by decide +kernel)) rfl) <|
  bb_istore_n (n := 2) (i := 2) (zd (i := .istore_n 2) (n := 1) (by decide +kernel)) rfl (by decide +kernel) (wkNl_i rfl) <|
  k
theorem w_X9_restore_22 {Q : qQ} {I : qMI} {L : qML} {R : qMR} {a1 : Int32} {a2 : Int32} (kt : 97 ≤ a2 → wkB l G (d + 1) n_X9_restore Q 51 [.ref 292, .int a1, .int a2] [] I L R) (kf : ¬ 97 ≤ a2 → wkB l G (d + 1) n_X9_restore Q 28 [.ref 292, .int a1, .int a2] [] I L R) : wkB l G (d + 1) n_X9_restore Q 22 [.ref 292, .int a1, .int a2] [] I L R :=
  bb_iload_n (n := 2) (i := 2) (zd (i := .iload_n 2) (n := 1) (by decide +kernel)) rfl rfl <|
  bb_lift (fun _ => q_bipush (n := 97) (zd (i := .bipush (97)) (n := 2) (by decide +kernel)) rfl) <|
  (fun lv hl => q_icmp_ge (off := 26) (tgt := 51) (zd (i := .if_icmp .ge (26)) (n := 3) (by decide +kernel)) (by decide) (fun h => (kt h) lv hl) (fun h => (kf h) lv hl))
theorem w_X9_restore_28 {Q : qQ} {I : qMI} {L : qML} {R : qMR} (hR : wkR R) {a1 : Int32} {a2 : Int32} (h1 : vp_in ((97 * a1) + a2) 291) (h2 : vp_in a2 97) (k : wkB l G (d + 1) n_X9_restore Q 22 [.ref 292, .int a1, .int (a2 + 1)] [] (qUp I 323 a2.toNatClampNeg (I 335 ((97 * a1) + a2).toNatClampNeg)) L R) : wkB l G (d + 1) n_X9_restore Q 28 [.ref 292, .int a1, .int a2] [] I L R :=
  bb_aload_n (n := 0) (i := 0) (zd (i := .aload_n 0) (n := 1) (by decide +kernel)) rfl rfl <|
  bb_getr (k := 292) (ci := 9) (j := 48) (idx := 110) (a := 323) (zd (i := .getfield 110) (n := 3) (by decide +kernel)) (by decide +kernel) (by decide +kernel) (by decide +kernel) (by decide +kernel) rfl g1176 (hR 48 (by decide)) <|
  bb_iload_n (n := 2) (i := 2) (zd (i := .iload_n 2) (n := 1) (by decide +kernel)) rfl rfl <|
  bb_aload_n (n := 0) (i := 0) (zd (i := .aload_n 0) (n := 1) (by decide +kernel)) rfl rfl <|
  bb_getr (k := 292) (ci := 9) (j := 64) (idx := 146) (a := 335) (zd (i := .getfield 146) (n := 3) (by decide +kernel)) (by decide +kernel) (by decide +kernel) (by decide +kernel) (by decide +kernel) rfl g1192 (hR 64 (by decide)) <|
  bb_lift (fun _ => q_bipush (n := 97) (zd (i := .bipush (97)) (n := 2) (by decide +kernel)) rfl) <|
  bb_iload_n (n := 1) (i := 1) (zd (i := .iload_n 1) (n := 1) (by decide +kernel)) rfl rfl <|
  bb_lift (fun _ => q_imul (zd (i := .imul) (n := 1) (by decide +kernel))) <|
  bb_iload_n (n := 2) (i := 2) (zd (i := .iload_n 2) (n := 1) (by decide +kernel)) rfl rfl <|
  bb_lift (fun _ => q_iadd (zd (i := .iadd) (n := 1) (by decide +kernel))) <|
  bb_lift (fun _ => q_iald (k := 335) (zd (i := .iaload) (n := 1) (by decide +kernel)) (by decide +kernel) (by decide +kernel) h1) <|
  bb_lift (fun _ => q_iast (k := 323) (zd (i := .iastore) (n := 1) (by decide +kernel)) (by decide +kernel) (by decide +kernel) h2) <|
  bb_iinc (i := 2) (n := 1) (zd (i := .iinc 2 (1)) (n := 3) (by decide +kernel)) rfl rfl (by decide +kernel) (wkNl_i rfl) <|
  bb_lift (fun _ => q_goto (off := -26) (tgt := 22) (zd (i := .goto (-26)) (n := 3) (by decide +kernel)) (by decide)) k
theorem w_X9_restore_51 {Q : qQ} {I : qMI} {L : qML} {R : qMR} {a1 : Int32} {a2 : Int32} (hQ : Q (some (.int 1)) 336 (qUp I 292 51 0) L R) : wkB l G (d + 1) n_X9_restore Q 51 [.ref 292, .int a1, .int a2] [] I L R :=
  bb_aload_n (n := 0) (i := 0) (zd (i := .aload_n 0) (n := 1) (by decide +kernel)) rfl rfl <|
  bb_lift (fun _ => q_iconst (n := 0) (zd (i := .iconst (0)) (n := 1) (by decide +kernel)) rfl) <|
  bb_puti (k := 292) (ci := 9) (j := 51) (idx := 248) (zd (i := .putfield 248) (n := 3) (by decide +kernel)) (by decide +kernel) (by decide +kernel) (by decide +kernel) (by decide +kernel) g1179 rfl rfl <|
  bb_lift (fun _ => q_iconst (n := 1) (zd (i := .iconst (1)) (n := 1) (by decide +kernel)) rfl) <|
  (fun lv hl => q_iret (zd (i := .ireturn) (n := 1) (by decide +kernel)) rfl rfl (Nat.le_refl _) (Nat.le_refl _) hQ)
end
/-! ===== which slots are held ===== -/
def oS (x : Int32) : Prop := 0 ≤ x.toInt ∧ x.toInt < 3
noncomputable def kCp (q : List (Nat × Nat)) : zKr := fun r t A => bif Nat.beq t 336 then (Option.rec (motive := fun _ => Bool) (bif zhas A q then zunk A [0, 248] else false) (fun _ => false) r) else false
theorem kCp_t {I I' : qMI} {L L' : qML} {R R' : qMR} {q : List (Nat × Nat)} {r0 : Option zX} {r : Option Value} {t : Nat} {A : zAm} (h : kCp q r0 t A = true) (q1 : zgo r0 r) (q2 : zM (I, L, R) t A I' L' R') : t = 336 ∧ r = none ∧ I' 248 = I 248 ∧ R' 0 = R 0 ∧ zM (I', L', R') t (zP q) I' L' R' := by
  obtain ⟨h1, h⟩ := zand h
  have e1 := Nat.eq_of_beq_eq_true h1
  cases r0 with
  | some x => exact Bool.noConfusion (show false = true from h)
  | none =>
    cases r with
    | some v => exact q1.elim
    | none =>
      obtain ⟨h2, h3⟩ := zand (show (bif zhas A q then zunk A [0, 248] else false) = true from h)
      exact ⟨e1, rfl, (q2.2.1 248 (zunk_t h3 248 (by decide))).1, (q2.2.1 0 (zunk_t h3 0 (by decide))).2.2, zM_part q2 h2⟩
section
variable {l : Launch} {G : qG} {d : Nat} {I : qMI} {L : qML} {R : qMR}
theorem cCp {A : zAm} {q : List (Nat × Nat)} {N1 N2 : Nat} (hm : zM (I, L, R) 336 A I L R) (hk : f_X4_copy [.inr (.ref N1), .inr (.ref N2)] 336 A (kCp q) = true) : wkCv l G (d + 1) n_X4_copy [.ref N1, .ref N2] I L R (fun I' L' R' => I' 248 = I 248 ∧ R' 0 = R 0 ∧ zM (I', L', R') 336 (zP q) I' L' R') := by
  refine qCall_mono (c_X4_copy (gh := (I, L, R)) d _ 336 A _ hk [.ref N1, .ref N2] I L R ⟨⟨rfl, rfl⟩, ⟨rfl, rfl⟩, trivial⟩ hm) ?_
  intro r t I' L' R' hq
  obtain ⟨r0, A', q1, q2, q3⟩ := hq
  obtain ⟨rfl, e1, e2, e3, e4⟩ := kCp_t q3 q1 q2
  exact ⟨rfl, e1, e2, e3, e4⟩
theorem cClr {A : zAm} {q : List (Nat × Nat)} (hm : zM (I, L, R) 336 A I L R) (hk : f_X3_clear [.inr (.ref 35)] 336 A (kCp q) = true) : wkCv l G (d + 1) n_X3_clear [.ref 35] I L R (fun _ _ _ => True) := by
  refine qCall_mono (c_X3_clear (gh := (I, L, R)) d _ 336 A _ hk [.ref 35] I L R ⟨⟨rfl, rfl⟩, trivial⟩ hm) ?_
  intro r t I' L' R' hq
  obtain ⟨r0, A', q1, q2, q3⟩ := hq
  obtain ⟨rfl, e1, -⟩ := kCp_t q3 q1 q2
  exact ⟨rfl, e1, trivial⟩
theorem oS_cases {x : Int32} (h : oS x) : x = 0 ∨ x = 1 ∨ x = 2 := by
  have := h.1
  have := h.2
  rcases (show x.toInt = 0 ∨ x.toInt = 1 ∨ x.toInt = 2 by omega) with e | e | e
  · exact Or.inl (i_eq.mpr e)
  · exact Or.inr (Or.inl (i_eq.mpr e))
  · exact Or.inr (Or.inr (i_eq.mpr e))
theorem eHold (hR : wkR R) {x : Int32} : wkI l G (d + 2) n_X9_hold [.ref 292, .int x] I L R (fun y I' L' => (oS x → I' 334 = tU (I 334) x.toInt.toNat (vp_nar .boolean 1)) ∧ (¬ oS x → I' 334 = I 334)) := by
  refine wkC_of 1 (by decide) (Nat.le_of_ble_eq_true rfl) (w_X9_hold_0 (eIn (d := d)) (fun y I1 L1 hq => ?_))
  obtain ⟨rfl, rfl, hy⟩ := hq
  rw [show (0 : Int32).toInt = 0 from rfl, show (2 : Int32).toInt = 2 from rfl] at hy
  refine w_X9_hold_6 (fun q => ?_) (fun q => w_X9_hold_9 ⟨rfl, rfl, _, rfl, fun z => ?_, fun _ => rfl⟩)
  · have ho : oS x := by
      rcases hy with ⟨-, b1, b2⟩ | ⟨b, -⟩
      · exact ⟨b1, by omega⟩
      · exact absurd b q
    have h1 := ho.1
    have h2 := ho.2
    have loop : ∀ (m : Nat) (n : Int32) (J : qMI), (97 - n.toInt).toNat = m → 0 ≤ n.toInt → J 334 = tU (I1 334) x.toInt.toNat (vp_nar .boolean 1) → wkB l G (d + 1 + 1) n_X9_hold (wkPI R (fun y I' L' => (oS x → I' 334 = tU (I1 334) x.toInt.toNat (vp_nar .boolean 1)) ∧ (¬ oS x → I' 334 = I1 334))) 20 [.ref 292, .int x, .int n] [] J L1 R := by
      intro m
      induction m with
      | zero =>
        intro n J hm n0 j
        exact w_X9_hold_20 (fun _ => w_X9_hold_49 ⟨rfl, rfl, _, rfl, fun _ => j, fun z => absurd ho z⟩) (fun q => absurd (i_le.mpr (by rw [show (97 : Int32).toInt = 97 from rfl]; omega)) q)
      | succ m ih =>
        intro n J hm n0 j
        refine w_X9_hold_20 (fun _ => w_X9_hold_49 ⟨rfl, rfl, _, rfl, fun _ => j, fun z => absurd ho z⟩) (fun q => ?_)
        have q : ¬ _ := fun z => q (i_le.mpr z)
        rw [show (97 : Int32).toInt = 97 from rfl] at q
        have e1 : (97 * x).toInt = 97 * x.toInt := by
          rcases oS_cases ho with rfl | rfl | rfl <;> rfl
        have e2 : (97 * x + n).toInt = 97 * x.toInt + n.toInt := by rw [i_add (by omega) (by omega), e1]
        have sn : (n + 1).toInt = n.toInt + 1 := i_s (by omega)
        refine w_X9_hold_26 hR (vin n0 (by omega)) (vin (by omega) (by omega)) (ih (n + 1) _ (by omega) (by omega) ?_)
        rw [qUp_ro (by decide)]
        exact j
    refine w_X9_hold_11 hR (vin h1 (by omega)) (loop 97 0 _ (by rfl) (by decide) ?_)
    rw [qUp_row, tcn]
  · rcases hy with ⟨b, -⟩ | ⟨-, b⟩
    · rw [b] at q; exact absurd q (by decide)
    · exact absurd ⟨z.1, by have := z.2; omega⟩ b
def oR (x : Int32) (f : Nat → Int32) : Prop := oS x ∧ ¬ f x.toInt.toNat = 0
theorem eRest (hR : wkR R) {x : Int32} : wkI l G (d + 2) n_X9_restore [.ref 292, .int x] I L R (fun y I' L' => (oR x (I 334) ∧ y = 1) ∨ (¬ oR x (I 334) ∧ y = 0)) := by
  refine wkC_of 1 (by decide) (Nat.le_of_ble_eq_true rfl) (w_X9_restore_0 (eIn (d := d)) (fun y I1 L1 hq => ?_))
  obtain ⟨rfl, rfl, hy⟩ := hq
  rw [show (0 : Int32).toInt = 0 from rfl, show (2 : Int32).toInt = 2 from rfl] at hy
  refine w_X9_restore_6 (fun q => w_X9_restore_18 ⟨rfl, rfl, _, rfl, Or.inr ⟨fun z => ?_, rfl⟩⟩) (fun q => ?_)
  · rcases hy with ⟨b, -⟩ | ⟨-, b⟩
    · rw [b] at q; exact absurd q (by decide)
    · exact absurd ⟨z.1.1, by have := z.1.2; omega⟩ b
  · have ho : oS x := by
      rcases hy with ⟨-, b1, b2⟩ | ⟨b, -⟩
      · exact ⟨b1, by omega⟩
      · exact absurd b q
    have h1 := ho.1
    have h2 := ho.2
    refine w_X9_restore_9 hR (vin h1 (by omega)) (fun hf => ?_) (fun hf => w_X9_restore_18 ⟨rfl, rfl, _, rfl, Or.inr ⟨fun z => z.2 hf, rfl⟩⟩)
    have hor : oR x (I1 334) := ⟨ho, hf⟩
    have loop : ∀ (m : Nat) (n : Int32) (J : qMI), (97 - n.toInt).toNat = m → 0 ≤ n.toInt → wkB l G (d + 1 + 1) n_X9_restore (wkPI R (fun y I' L' => (oR x (I1 334) ∧ y = 1) ∨ (¬ oR x (I1 334) ∧ y = 0))) 22 [.ref 292, .int x, .int n] [] J L1 R := by
      intro m
      induction m with
      | zero =>
        intro n J hm n0
        exact w_X9_restore_22 (fun _ => w_X9_restore_51 ⟨rfl, rfl, _, rfl, Or.inl ⟨hor, rfl⟩⟩) (fun q => absurd (i_le.mpr (by rw [show (97 : Int32).toInt = 97 from rfl]; omega)) q)
      | succ m ih =>
        intro n J hm n0
        refine w_X9_restore_22 (fun _ => w_X9_restore_51 ⟨rfl, rfl, _, rfl, Or.inl ⟨hor, rfl⟩⟩) (fun q => ?_)
        have q : ¬ _ := fun z => q (i_le.mpr z)
        rw [show (97 : Int32).toInt = 97 from rfl] at q
        have e1 : (97 * x).toInt = 97 * x.toInt := by
          rcases oS_cases ho with rfl | rfl | rfl <;> rfl
        have e2 : (97 * x + n).toInt = 97 * x.toInt + n.toInt := by rw [i_add (by omega) (by omega), e1]
        have sn : (n + 1).toInt = n.toInt + 1 := i_s (by omega)
        exact w_X9_restore_28 hR (vin (by omega) (by omega)) (vin n0 (by omega)) (ih (n + 1) _ (by omega) (by omega))
    exact w_X9_restore_20 (loop 97 0 _ (by rfl) (by decide))
end
section
variable {l : Launch} {G : qG} {I : qMI} {L : qML} {R : qMR}
theorem kCa0_0 : f_X4_copy [.inr (.ref 271), .inr (.ref 21)] 336 zAi0 (kCp zqi0) = true := by decide +kernel
theorem kCa0_1 : f_X4_copy [.inr (.ref 278), .inr (.ref 21)] 336 zAi0 (kCp zqi0) = true := by decide +kernel
theorem kCa0_2 : f_X4_copy [.inr (.ref 285), .inr (.ref 21)] 336 zAi0 (kCp zqi0) = true := by decide +kernel
theorem kCb0_0 : f_X4_copy [.inr (.ref 21), .inr (.ref 271)] 336 zAi0 (kCp zqi0) = true := by decide +kernel
theorem kCb0_1 : f_X4_copy [.inr (.ref 21), .inr (.ref 278)] 336 zAi0 (kCp zqi0) = true := by decide +kernel
theorem kCb0_2 : f_X4_copy [.inr (.ref 21), .inr (.ref 285)] 336 zAi0 (kCp zqi0) = true := by decide +kernel
theorem kCc0 : f_X3_clear [.inr (.ref 35)] 336 zAi0 (kCp zqi0) = true := by decide +kernel
theorem cHold0 (hm : zM (I, L, R) 336 zAi0 I L R) (x : Int32) : qCall l G 26 n_X8_hold [.ref 0, .int x] 336 I L R (fun r t I' L' R' => t = 336 ∧ (oS x → I' 248 = tU (I 248) x.toInt.toNat (vp_nar .boolean 1)) ∧ (¬ oS x → I' 248 = I 248)) := by
  have r5 : R 0 5 = some 247 := vRef hm (by decide +kernel) (by decide +kernel) (by decide +kernel)
  have r2 : R 0 2 = some 21 := vRef hm (by decide +kernel) (by decide +kernel) (by decide +kernel)
  have r6 : R 0 6 = some 248 := vRef hm (by decide +kernel) (by decide +kernel) (by decide +kernel)
  have last : ∀ (I1 : qMI) (L1 : qML) (R1 : qMR), oS x → I1 248 = I 248 → R1 0 = R 0 → wkB l G 26 n_X8_hold (fun r t I' L' R' => t = 336 ∧ (oS x → I' 248 = tU (I 248) x.toInt.toNat (vp_nar .boolean 1)) ∧ (¬ oS x → I' 248 = I 248)) 24 [.ref 0, .int x] [] I1 L1 R1 := fun I1 L1 R1 ho e1 e2 => by
    refine w_X8_hold0_24 (d := 25) (by rw [e2]; exact r6) (vin ho.1 (by have := ho.2; omega)) ⟨rfl, fun _ => ?_, fun z => absurd ho z⟩
    rw [qUp_row, e1, tcn]
  refine wkC_of 0 (by decide) (Nat.le_of_ble_eq_true rfl) (w_X8_hold0_0 (d := 25) (fun q => w_X8_hold0_9 (d := 25) ⟨rfl, fun z => ?_, fun _ => rfl⟩) (fun q => w_X8_hold0_4 (d := 25) (fun q2 => ?_) (fun q2 => w_X8_hold0_9 (d := 25) ⟨rfl, fun z => ?_, fun _ => rfl⟩)))
  · have q := i_lt.mp q
    rw [show (0 : Int32).toInt = 0 from rfl] at q
    have := z.1
    omega
  · have q : ¬ _ := fun z => q (i_lt.mpr z)
    rw [show (0 : Int32).toInt = 0 from rfl] at q
    have q2 := i_lt.mp q2
    rw [show (3 : Int32).toInt = 3 from rfl] at q2
    have ho : oS x := ⟨by omega, q2⟩
    have v : vp_in x 3 := vin (by omega) (by omega)
    rcases oS_cases ho with rfl | rfl | rfl
    · exact w_X8_hold0_11 (d := 25) r5 v (vRef hm (by decide +kernel) (by decide +kernel) (by decide +kernel)) r2 (cCp (d := 24) hm kCa0_0) (fun I1 L1 R1 h => last I1 L1 R1 ho h.1 h.2.1)
    · exact w_X8_hold1_11 (d := 25) r5 v (vRef hm (by decide +kernel) (by decide +kernel) (by decide +kernel)) r2 (cCp (d := 24) hm kCa0_1) (fun I1 L1 R1 h => last I1 L1 R1 ho h.1 h.2.1)
    · exact w_X8_hold2_11 (d := 25) r5 v (vRef hm (by decide +kernel) (by decide +kernel) (by decide +kernel)) r2 (cCp (d := 24) hm kCa0_2) (fun I1 L1 R1 h => last I1 L1 R1 ho h.1 h.2.1)
  · have q2 : ¬ _ := fun w => q2 (i_lt.mpr w)
    rw [show (3 : Int32).toInt = 3 from rfl] at q2
    have := z.2
    omega
theorem cRest0 (hm : zM (I, L, R) 336 zAi0 I L R) (x : Int32) : qCall l G 26 n_X8_restore [.ref 0, .int x] 336 I L R (fun r t I' L' R' => t = 336 ∧ ∃ y, r = some (.int y) ∧ ((oR x (I 248) ∧ y = 1) ∨ (¬ oR x (I 248) ∧ y = 0))) := by
  have r5 : R 0 5 = some 247 := vRef hm (by decide +kernel) (by decide +kernel) (by decide +kernel)
  have r2 : R 0 2 = some 21 := vRef hm (by decide +kernel) (by decide +kernel) (by decide +kernel)
  have r6 : R 0 6 = some 248 := vRef hm (by decide +kernel) (by decide +kernel) (by decide +kernel)
  have r4 : R 0 4 = some 35 := vRef hm (by decide +kernel) (by decide +kernel) (by decide +kernel)
  have last : ∀ (I1 : qMI) (L1 : qML) (R1 : qMR), oR x (I 248) → R1 0 = R 0 → zM (I1, L1, R1) 336 (zP zqi0) I1 L1 R1 → wkB l G 26 n_X8_restore (fun r t I' L' R' => t = 336 ∧ ∃ y, r = some (.int y) ∧ ((oR x (I 248) ∧ y = 1) ∨ (¬ oR x (I 248) ∧ y = 0))) 33 [.ref 0, .int x] [] I1 L1 R1 := fun I1 L1 R1 ho e2 hm1 => by
    rw [zAi0_e] at hm1
    exact w_X8_restore0_33 (d := 25) (by rw [e2]; exact r4) (cClr (d := 24) hm1 kCc0) (fun I2 L2 R2 _ => w_X8_restore0_40 (d := 25) ⟨rfl, _, rfl, Or.inl ⟨ho, rfl⟩⟩)
  refine wkC_of 0 (by decide) (Nat.le_of_ble_eq_true rfl) (w_X8_restore0_0 (d := 25) (fun q => w_X8_restore0_18 (d := 25) ⟨rfl, _, rfl, Or.inr ⟨fun z => ?_, rfl⟩⟩) (fun q => w_X8_restore0_4 (d := 25) (fun q2 => w_X8_restore0_18 (d := 25) ⟨rfl, _, rfl, Or.inr ⟨fun z => ?_, rfl⟩⟩) (fun q2 => ?_)))
  · have q := i_lt.mp q
    rw [show (0 : Int32).toInt = 0 from rfl] at q
    have := z.1.1
    omega
  · have q2 := i_le.mp q2
    rw [show (3 : Int32).toInt = 3 from rfl] at q2
    have := z.1.2
    omega
  · have q : ¬ _ := fun z => q (i_lt.mpr z)
    rw [show (0 : Int32).toInt = 0 from rfl] at q
    have q2 : ¬ _ := fun z => q2 (i_le.mpr z)
    rw [show (3 : Int32).toInt = 3 from rfl] at q2
    have ho : oS x := ⟨by omega, by omega⟩
    have v : vp_in x 3 := vin (by omega) (by omega)
    refine w_X8_restore0_9 (d := 25) r6 v (fun hf => ?_) (fun hf => w_X8_restore0_18 (d := 25) ⟨rfl, _, rfl, Or.inr ⟨fun z => z.2 hf, rfl⟩⟩)
    have hor : oR x (I 248) := ⟨ho, hf⟩
    rcases oS_cases ho with rfl | rfl | rfl
    · exact w_X8_restore0_20 (d := 25) r2 r5 v (vRef hm (by decide +kernel) (by decide +kernel) (by decide +kernel)) (cCp (d := 24) hm kCb0_0) (fun I1 L1 R1 h => last I1 L1 R1 hor h.2.1 h.2.2)
    · exact w_X8_restore1_20 (d := 25) r2 r5 v (vRef hm (by decide +kernel) (by decide +kernel) (by decide +kernel)) (cCp (d := 24) hm kCb0_1) (fun I1 L1 R1 h => last I1 L1 R1 hor h.2.1 h.2.2)
    · exact w_X8_restore2_20 (d := 25) r2 r5 v (vRef hm (by decide +kernel) (by decide +kernel) (by decide +kernel)) (cCp (d := 24) hm kCb0_2) (fun I1 L1 R1 h => last I1 L1 R1 hor h.2.1 h.2.2)
end

section
variable {l : Launch} {G : qG} {I : qMI} {L : qML} {R : qMR}
theorem kCa1_0 : f_X4_copy [.inr (.ref 271), .inr (.ref 21)] 336 zAi1 (kCp zqi1) = true := by decide +kernel
theorem kCa1_1 : f_X4_copy [.inr (.ref 278), .inr (.ref 21)] 336 zAi1 (kCp zqi1) = true := by decide +kernel
theorem kCa1_2 : f_X4_copy [.inr (.ref 285), .inr (.ref 21)] 336 zAi1 (kCp zqi1) = true := by decide +kernel
theorem kCb1_0 : f_X4_copy [.inr (.ref 21), .inr (.ref 271)] 336 zAi1 (kCp zqi1) = true := by decide +kernel
theorem kCb1_1 : f_X4_copy [.inr (.ref 21), .inr (.ref 278)] 336 zAi1 (kCp zqi1) = true := by decide +kernel
theorem kCb1_2 : f_X4_copy [.inr (.ref 21), .inr (.ref 285)] 336 zAi1 (kCp zqi1) = true := by decide +kernel
theorem kCc1 : f_X3_clear [.inr (.ref 35)] 336 zAi1 (kCp zqi1) = true := by decide +kernel
theorem cHold1 (hm : zM (I, L, R) 336 zAi1 I L R) (x : Int32) : qCall l G 26 n_X8_hold [.ref 0, .int x] 336 I L R (fun r t I' L' R' => t = 336 ∧ (oS x → I' 248 = tU (I 248) x.toInt.toNat (vp_nar .boolean 1)) ∧ (¬ oS x → I' 248 = I 248)) := by
  have r5 : R 0 5 = some 247 := vRef hm (by decide +kernel) (by decide +kernel) (by decide +kernel)
  have r2 : R 0 2 = some 21 := vRef hm (by decide +kernel) (by decide +kernel) (by decide +kernel)
  have r6 : R 0 6 = some 248 := vRef hm (by decide +kernel) (by decide +kernel) (by decide +kernel)
  have last : ∀ (I1 : qMI) (L1 : qML) (R1 : qMR), oS x → I1 248 = I 248 → R1 0 = R 0 → wkB l G 26 n_X8_hold (fun r t I' L' R' => t = 336 ∧ (oS x → I' 248 = tU (I 248) x.toInt.toNat (vp_nar .boolean 1)) ∧ (¬ oS x → I' 248 = I 248)) 24 [.ref 0, .int x] [] I1 L1 R1 := fun I1 L1 R1 ho e1 e2 => by
    refine w_X8_hold0_24 (d := 25) (by rw [e2]; exact r6) (vin ho.1 (by have := ho.2; omega)) ⟨rfl, fun _ => ?_, fun z => absurd ho z⟩
    rw [qUp_row, e1, tcn]
  refine wkC_of 0 (by decide) (Nat.le_of_ble_eq_true rfl) (w_X8_hold0_0 (d := 25) (fun q => w_X8_hold0_9 (d := 25) ⟨rfl, fun z => ?_, fun _ => rfl⟩) (fun q => w_X8_hold0_4 (d := 25) (fun q2 => ?_) (fun q2 => w_X8_hold0_9 (d := 25) ⟨rfl, fun z => ?_, fun _ => rfl⟩)))
  · have q := i_lt.mp q
    rw [show (0 : Int32).toInt = 0 from rfl] at q
    have := z.1
    omega
  · have q : ¬ _ := fun z => q (i_lt.mpr z)
    rw [show (0 : Int32).toInt = 0 from rfl] at q
    have q2 := i_lt.mp q2
    rw [show (3 : Int32).toInt = 3 from rfl] at q2
    have ho : oS x := ⟨by omega, q2⟩
    have v : vp_in x 3 := vin (by omega) (by omega)
    rcases oS_cases ho with rfl | rfl | rfl
    · exact w_X8_hold0_11 (d := 25) r5 v (vRef hm (by decide +kernel) (by decide +kernel) (by decide +kernel)) r2 (cCp (d := 24) hm kCa1_0) (fun I1 L1 R1 h => last I1 L1 R1 ho h.1 h.2.1)
    · exact w_X8_hold1_11 (d := 25) r5 v (vRef hm (by decide +kernel) (by decide +kernel) (by decide +kernel)) r2 (cCp (d := 24) hm kCa1_1) (fun I1 L1 R1 h => last I1 L1 R1 ho h.1 h.2.1)
    · exact w_X8_hold2_11 (d := 25) r5 v (vRef hm (by decide +kernel) (by decide +kernel) (by decide +kernel)) r2 (cCp (d := 24) hm kCa1_2) (fun I1 L1 R1 h => last I1 L1 R1 ho h.1 h.2.1)
  · have q2 : ¬ _ := fun w => q2 (i_lt.mpr w)
    rw [show (3 : Int32).toInt = 3 from rfl] at q2
    have := z.2
    omega
theorem cRest1 (hm : zM (I, L, R) 336 zAi1 I L R) (x : Int32) : qCall l G 26 n_X8_restore [.ref 0, .int x] 336 I L R (fun r t I' L' R' => t = 336 ∧ ∃ y, r = some (.int y) ∧ ((oR x (I 248) ∧ y = 1) ∨ (¬ oR x (I 248) ∧ y = 0))) := by
  have r5 : R 0 5 = some 247 := vRef hm (by decide +kernel) (by decide +kernel) (by decide +kernel)
  have r2 : R 0 2 = some 21 := vRef hm (by decide +kernel) (by decide +kernel) (by decide +kernel)
  have r6 : R 0 6 = some 248 := vRef hm (by decide +kernel) (by decide +kernel) (by decide +kernel)
  have r4 : R 0 4 = some 35 := vRef hm (by decide +kernel) (by decide +kernel) (by decide +kernel)
  have last : ∀ (I1 : qMI) (L1 : qML) (R1 : qMR), oR x (I 248) → R1 0 = R 0 → zM (I1, L1, R1) 336 (zP zqi1) I1 L1 R1 → wkB l G 26 n_X8_restore (fun r t I' L' R' => t = 336 ∧ ∃ y, r = some (.int y) ∧ ((oR x (I 248) ∧ y = 1) ∨ (¬ oR x (I 248) ∧ y = 0))) 33 [.ref 0, .int x] [] I1 L1 R1 := fun I1 L1 R1 ho e2 hm1 => by
    rw [zAi1_e] at hm1
    exact w_X8_restore0_33 (d := 25) (by rw [e2]; exact r4) (cClr (d := 24) hm1 kCc1) (fun I2 L2 R2 _ => w_X8_restore0_40 (d := 25) ⟨rfl, _, rfl, Or.inl ⟨ho, rfl⟩⟩)
  refine wkC_of 0 (by decide) (Nat.le_of_ble_eq_true rfl) (w_X8_restore0_0 (d := 25) (fun q => w_X8_restore0_18 (d := 25) ⟨rfl, _, rfl, Or.inr ⟨fun z => ?_, rfl⟩⟩) (fun q => w_X8_restore0_4 (d := 25) (fun q2 => w_X8_restore0_18 (d := 25) ⟨rfl, _, rfl, Or.inr ⟨fun z => ?_, rfl⟩⟩) (fun q2 => ?_)))
  · have q := i_lt.mp q
    rw [show (0 : Int32).toInt = 0 from rfl] at q
    have := z.1.1
    omega
  · have q2 := i_le.mp q2
    rw [show (3 : Int32).toInt = 3 from rfl] at q2
    have := z.1.2
    omega
  · have q : ¬ _ := fun z => q (i_lt.mpr z)
    rw [show (0 : Int32).toInt = 0 from rfl] at q
    have q2 : ¬ _ := fun z => q2 (i_le.mpr z)
    rw [show (3 : Int32).toInt = 3 from rfl] at q2
    have ho : oS x := ⟨by omega, by omega⟩
    have v : vp_in x 3 := vin (by omega) (by omega)
    refine w_X8_restore0_9 (d := 25) r6 v (fun hf => ?_) (fun hf => w_X8_restore0_18 (d := 25) ⟨rfl, _, rfl, Or.inr ⟨fun z => z.2 hf, rfl⟩⟩)
    have hor : oR x (I 248) := ⟨ho, hf⟩
    rcases oS_cases ho with rfl | rfl | rfl
    · exact w_X8_restore0_20 (d := 25) r2 r5 v (vRef hm (by decide +kernel) (by decide +kernel) (by decide +kernel)) (cCp (d := 24) hm kCb1_0) (fun I1 L1 R1 h => last I1 L1 R1 hor h.2.1 h.2.2)
    · exact w_X8_restore1_20 (d := 25) r2 r5 v (vRef hm (by decide +kernel) (by decide +kernel) (by decide +kernel)) (cCp (d := 24) hm kCb1_1) (fun I1 L1 R1 h => last I1 L1 R1 hor h.2.1 h.2.2)
    · exact w_X8_restore2_20 (d := 25) r2 r5 v (vRef hm (by decide +kernel) (by decide +kernel) (by decide +kernel)) (cCp (d := 24) hm kCb1_2) (fun I1 L1 R1 h => last I1 L1 R1 hor h.2.1 h.2.2)
end
