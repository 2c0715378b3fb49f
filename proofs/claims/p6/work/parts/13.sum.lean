/-! ===== a method's summary, out of its cuts ===== -/
noncomputable def zrw (r p : Option zX) : Bool := Option.rec (motive := fun _ => Bool) (Option.rec (motive := fun _ => Bool) true (fun _ => false) p) (fun x => Option.rec (motive := fun _ => Bool) false (fun y => zxw x y) p) r
theorem zrw_t {r p : Option zX} {v : Option Value} (h : zrw r p = true) (hg : zgo r v) : zgo p v := by
  cases r with
  | none =>
    cases p with
    | some y => cases h
    | none => exact hg
  | some x =>
    cases p with
    | none => cases h
    | some y =>
      cases v with
      | none => exact hg.elim
      | some v => exact zxw_t h hg
/-- ends in one of these ways: what is given back, the memory -/
abbrev zAl : Type := List (Option zX × zAm)
noncomputable def zpost (al : zAl) : zKr := fun r t A => bif Nat.beq t 336 then List.rec (motive := fun _ => Bool) false (fun a _ ih => bif (bif zrw r a.1 then zAw A a.2 else false) then true else ih) al else false
noncomputable def zeach (al : zAl) (K : zKr) : Bool := List.rec (motive := fun _ => Bool) true (fun a _ ih => bif K a.1 336 a.2 then ih else false) al
theorem zpost_t {gh : zGh} {K : zKr} {r0 : Option zX} {r : Option Value} {A : zAm} {I : qMI} {L : qML} {R : qMR} : ∀ {al : zAl}, zeach al K = true → List.rec (motive := fun _ => Bool) false (fun a _ ih => bif (bif zrw r0 a.1 then zAw A a.2 else false) then true else ih) al = true → zgo r0 r → zM gh 336 A I L R → zQ gh K r 336 I L R
  | [], _, h, _, _ => by cases h
  | a :: al, he, h, hg, hm => by
    obtain ⟨h1, h2⟩ := zand (show (bif K a.1 336 a.2 then zeach al K else false) = true from he)
    rcases zelse (show (bif (bif zrw r0 a.1 then zAw A a.2 else false) then true else List.rec (motive := fun _ => Bool) false (fun a _ ih => bif (bif zrw r0 a.1 then zAw A a.2 else false) then true else ih) al) = true from h) with ⟨h3, -⟩ | h3
    · obtain ⟨h4, h5⟩ := zand h3
      exact ⟨a.1, a.2, zrw_t h4 hg, zM_w hm h5, h1⟩
    · exact zpost_t h2 h3 hg hm
/-- the summary: within the entry's cut it ends in one of the ways -/
noncomputable def zgm (mx : Nat) (ce : zCt) (al : zAl) : zMt := fun as t A K => bif Nat.ble (zcat as) mx then (bif Nat.beq t 336 then (bif zwc ce 0 (zlvs as) [] 0 0 t A then zeach al K else false) else false) else false
theorem zgm_ok {l : Launch} {G : qG} {gh : zGh} {d : Nat} {N : qMn} {mx : Nat} {pcs : List Nat} {ce : zCt} {al : zAl} (hy : plainName N.1.cls = true) (hx : N.2.2.1 = mx) (h0 : zn 0 pcs 0 = 0) (hc : zS l G gh d (zpost al) N (zn 0 pcs 0) (zwc ce 0)) : zC l G gh d N (zgm mx ce al) := by
  intro as t A K hr as' I L R hs hm
  obtain ⟨h1, h2⟩ := zand hr
  obtain ⟨h3, h4⟩ := zand h2
  obtain ⟨h5, h6⟩ := zand h4
  have e1 := Nat.le_of_ble_eq_true h1
  have e3 := Nat.eq_of_beq_eq_true h3
  subst e3
  obtain ⟨lv, a1, a2, -⟩ := zlv_args (G := G) hs 0
  rw [h0] at hc
  refine qCall_mono (Q := zQ gh (zpost al)) (qCall_of hy (by rw [zsl_len hs, hx]; exact e1) lv a1 (hc (zlvs as) [] 0 0 336 A h5 lv [] I L R (fun j => by have := a2 j; rwa [Nat.zero_add] at this) trivial ⟨hm, Nat.zero_le _, Nat.zero_le _⟩)) ?_
  intro r t I1 L1 R1 hq
  obtain ⟨r0, A1, q1, q2, q3⟩ := hq
  obtain ⟨q4, q5⟩ := zand q3
  have e4 := Nat.eq_of_beq_eq_true q4
  subst e4
  exact zpost_t h6 q5 q1 q2
