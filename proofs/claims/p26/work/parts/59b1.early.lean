/-! ===== early lemmas ===== -/
def tU (c : Nat → Int32) (s : Nat) (v : Int32) : Nat → Int32 := fun i => if i = s then v else c i
theorem qUp_row {I : qMI} {k i : Nat} {x : Int32} : (qUp I k i x) k = tU (I k) i x := funext fun j => by
  unfold tU
  rw [qUp_at]
  by_cases h : j = i
  · rw [if_pos ⟨rfl, h⟩, if_pos h]
  · rw [if_neg (fun q => h q.2), if_neg h]
theorem qUp_ro {I : qMI} {k i a : Nat} {x : Int32} (h : a ≠ k) : (qUp I k i x) a = I a := funext fun j => qUp_ne (fun q => h q.1)
/-! ===== two contracts of one call: both hold, of the same end ===== -/
theorem ended_not {t : State} {below : List Frame} {v : Option Value} (h : Ended t below (.returned v)) : ¬ Within t below := by
  rintro ⟨above, e, hne, -⟩
  have len : t.frames.length = below.length := by
    cases below with
    | nil => rw [h.2]
    | cons f r =>
      cases f with
      | java g =>
        obtain ⟨c, i, len, -, -, hf⟩ := h
        rw [hf]; rfl
      | native g => rw [show t.frames = _ from h]; rfl
      | proc g => rw [show t.frames = _ from h]; rfl
      | _ => rw [h.2]
  rw [e, List.length_append] at len
  exact hne (List.length_eq_zero_iff.mp (by omega))
theorem ended_inj {t : State} {below : List Frame} {v w : Option Value} (h : Ended t below (.returned v)) (g : Ended t below (.returned w)) : v = w := by
  cases below with
  | nil => rw [h.1, g.1]
  | cons f r =>
    cases f with
    | java k =>
      obtain ⟨c, i, len, -, -, hf⟩ := h
      obtain ⟨c2, i2, len2, -, -, gf⟩ := g
      rw [hf] at gf
      have e := congrArg (fun q => match q with | .java g :: _ => g.stack | _ => []) gf
      have e : v.toList ++ k.stack = w.toList ++ k.stack := e
      have e := List.append_cancel_right e
      cases v with
      | none => cases w with
        | none => rfl
        | some y => exact absurd e (by simp)
      | some x => cases w with
        | none => exact absurd e (by simp)
        | some y => simp at e; rw [e]
    | native k =>
      have hf : t.frames = _ := h
      have gf : t.frames = _ := g
      rw [hf] at gf
      have e := congrArg (fun q => match q with | .native g :: _ => g.answer | _ => none) gf
      have e : some (Outcome.returned v) = some (Outcome.returned w) := e
      injection e with e
      injection e
    | proc k =>
      have hf : t.frames = _ := h
      have gf : t.frames = _ := g
      rw [hf] at gf
      have e := congrArg (fun q => match q with | .proc g :: _ => g.answer | _ => none) gf
      have e : some (Outcome.returned v) = some (Outcome.returned w) := e
      injection e with e
      injection e
    | _ => rw [h.1, g.1]
def qSm (t : Nat) (I : qMI) (L : qML) (I2 : qMI) (L2 : qML) : Prop := (∀ k, k < t → 10 ≤ (qSh k).1 → (qSh k).1 < 13 → ∀ j, j < (qSh k).2 → I k j = I2 k j) ∧ (∀ k, k < t → (qSh k).1 = 13 → ∀ j, j < (qSh k).2 → L k j = L2 k j) ∧ ∀ k, k < t → (qSh k).1 < 10 → ∀ j, j < qNF (qSh k).1 → qIsR (qTy (qSh k).1 j) = false → I k j = I2 k j
theorem qFs_v {B : Nat} {I : qMI} {R : qMR} {ci k j : Nat} (hj : j < qNF ci) (hr : qIsR (qTy ci j) = false) : vp_V (qFs B I R ci k) j = .int (I k j) := by
  unfold vp_V qFs
  rw [List.getD_eq_getElem?_getD, List.getElem?_map, List.getElem?_range hj]
  simp [hr]
theorem qSm_of {G : qG} {t : Nat} {I I2 : qMI} {L L2 : qML} {R R2 : qMR} {H : Heap} (h1 : va_P (G.2.1, G.2.2.1) vwCl (qWd G t I L R) H) (h2 : va_P (G.2.1, G.2.2.1) vwCl (qWd G t I2 L2 R2) H) : qSm t I L I2 L2 := by
  refine ⟨fun k hk a b j hj => ?_, fun k hk a j hj => ?_, fun k hk a j hj hr => ?_⟩
  · have e1 := h1 k _ (qWd_at hk)
    have e2 := h2 k _ (qWd_at hk)
    unfold qCell at e1 e2
    rw [if_neg (by omega), if_pos b] at e1 e2
    have e1 : H[G.1 + k]? = some (arrV _ (qSh k).2 (fun j => .int (I k j))) := e1
    have e2 : H[G.1 + k]? = some (arrV _ (qSh k).2 (fun j => .int (I2 k j))) := e2
    rw [e1] at e2
    injection e2 with e2
    have e3 := congrArg (fun c => c.slots[j]?) e2
    simp only [arrV_read _ _ hj] at e3
    injection e3 with e3
    injection e3
  · have e1 := h1 k _ (qWd_at hk)
    have e2 := h2 k _ (qWd_at hk)
    unfold qCell at e1 e2
    rw [if_neg (by omega), if_neg (by omega), if_pos a] at e1 e2
    have e1 : H[G.1 + k]? = some (arrV _ (qSh k).2 (fun j => .long (L k j))) := e1
    have e2 : H[G.1 + k]? = some (arrV _ (qSh k).2 (fun j => .long (L2 k j))) := e2
    rw [e1] at e2
    injection e2 with e2
    have e3 := congrArg (fun c => c.slots[j]?) e2
    simp only [arrV_read _ _ hj] at e3
    injection e3 with e3
    injection e3
  · have e1 := h1 k _ (qWd_at hk)
    have e2 := h2 k _ (qWd_at hk)
    unfold qCell at e1 e2
    rw [if_pos a] at e1 e2
    obtain ⟨r1, c1, cell, d1, -, -, d4⟩ := e1
    obtain ⟨r2, c2, cell2, f1, -, -, f4⟩ := e2
    rw [qCl a] at c1 c2
    injection c1 with c1
    injection c2 with c2
    subst c1 c2
    rw [d1] at f1
    injection f1 with f1
    subst f1
    have g1 := d4 j hj
    have g2 := f4 j hj
    rw [g1] at g2
    injection g2 with g2
    rw [qFs_v hj hr, qFs_v hj hr] at g2
    injection g2
theorem qCall_and {l : Launch} {G : qG} {d : Nat} {M : qMn} {as : List Value} {t : Nat} {I : qMI} {L : qML} {R : qMR} {Q Q2 : qQ} (h : qCall l G d M as t I L R Q) (g : qCall l G d M as t I L R Q2) : qCall l G d M as t I L R (fun r t' I' L' R' => Q r t' I' L' R' ∧ ∃ r2 I2 L2 R2, Q2 r2 t' I2 L2 R2 ∧ r.map (qTv G) = r2.map (qTv G) ∧ qSm t' I' L' I2 L2) := by
  intro p e ha hc hk s m args below hf happ hpre hK
  obtain ⟨k1, o, h1, h2, h3, ⟨⟨⟨r, t', I', L', R', e1, e2, e3⟩, hF⟩, hL⟩⟩ := h p e ha hc hk s m args below hf happ hpre hK
  obtain ⟨k2, o2, g1, g2, g3, ⟨⟨⟨r2, t2, I2, L2, R2, d1, d2, d3⟩, -⟩, -⟩⟩ := g p e ha hc hk s m args below hf happ hpre hK
  subst e1 d1
  have ek : k1 = k2 := by
    rcases Nat.lt_trichotomy k1 k2 with q | q | q
    · exact absurd (g1 k1 q) (ended_not h3)
    · exact q
    · exact absurd (h1 k2 q) (ended_not g3)
  subst ek
  have er := ended_inj h3 g3
  have et : t' = t2 := by
    have a := e3.1
    have b := d3.1
    omega
  subst et
  exact ⟨k1, _, h1, h2, h3, ⟨⟨⟨r, t', I', L', R', rfl, ⟨e2, r2, I2, L2, R2, d2, er, qSm_of e3.2.1 d3.2.1⟩, e3⟩, hF⟩, hL⟩⟩
