/-! ===== the second form: runs over a part of the memory ===== -/
noncomputable def zP (q : List (Nat × Nat)) : zAm := List.rec (motive := fun _ => zAm) [] (fun x _ ih => zput ih x.1 x.2) q
/-- what comes back: cells that are as they were stay; of the rest what it says -/
noncomputable def zmr1 (A : zAm) (k m : Nat) : zAm := bif zfr m then A else (bif zfp m then (bif (bif zfr (zcell A k) then true else zfp (zcell A k)) then zput A k m else zput A k (zcl m)) else zput A k m)
noncomputable def zmrg (A : zAm) (q : List (Nat × Nat)) : zAm := List.rec (motive := fun _ => zAm) A (fun x _ ih => zmr1 ih x.1 x.2) q
noncomputable def zhas (A : zAm) (q : List (Nat × Nat)) : Bool := List.rec (motive := fun _ => Bool) true (fun x _ ih => bif zcv (zcell A x.1) x.2 then (bif Nat.ble (ztag x.2) 19 then ih else false) else false) q
theorem zn31 {A : zAm} {k : Nat} (e : zcell A k = 31) : 20 ≤ ztag (zcell A k) := by rw [e]; decide
theorem zkeys {A : zAm} (k : Nat) : ∀ {q : List (Nat × Nat)}, zhas A q = true → zcell (zP q) k = 31 ∨ (ztag (zcell (zP q) k) < 20 ∧ zcv (zcell A k) (zcell (zP q) k) = true)
  | [], _ => Or.inl rfl
  | x :: q, h => by
    have e1 : zP (x :: q) = zput (zP q) x.1 x.2 := rfl
    have h : (bif zcv (zcell A x.1) x.2 then (bif Nat.ble (ztag x.2) 19 then zhas A q else false) else false) = true := h
    obtain ⟨h1, h2⟩ := zand h
    obtain ⟨h3, h4⟩ := zand h2
    rw [e1, zcell_put]
    by_cases hk : k = x.1
    · subst hk
      rw [if_pos rfl]
      exact Or.inr ⟨by have := Nat.le_of_ble_eq_true h3; omega, h1⟩
    · rw [if_neg hk]
      exact zkeys k h4
theorem zM_part {gh : zGh} {t : Nat} {A : zAm} {I : qMI} {L : qML} {R : qMR} {q : List (Nat × Nat)} (hm : zM gh t A I L R) (h : zhas A q = true) : zM (I, L, R) t (zP q) I L R := by
  refine ⟨⟨fun k hk => ?_, fun k hk hk2 => ?_⟩, fun k _ => ⟨rfl, rfl, rfl⟩, fun _ _ _ _ => rfl⟩
  · rcases zkeys k h with h1 | ⟨-, h1⟩
    · have := zn31 h1; omega
    · obtain ⟨e1, e2, e3, -⟩ := zcv_known h1
      obtain ⟨g1, g2, g3, g4⟩ := hm.1.1 k (by rw [e1]; exact hk)
      rw [e1] at g2 g4
      rw [e2] at g3
      exact ⟨g1, g2, g3, fun j => e3 hk j _ _ _ (g4 j)⟩
  · rcases zkeys k h with h1 | ⟨-, h1⟩
    · have := zn31 h1; omega
    · obtain ⟨e1, e2, -, e4⟩ := zcv_known h1
      obtain ⟨g1, g2, g3, g4⟩ := hm.1.2 k (by rw [e1]; exact hk) (by rw [e1]; exact hk2)
      rw [e1] at g2 g4
      rw [e2] at g3 g4
      exact ⟨g1, g2, g3, fun w j hj => e4 hk w _ (g4 w j hj)⟩
/-- the keys of one list are those of the other, in their order, and each but once -/
noncomputable def znk (k : Nat) (q : List (Nat × Nat)) : Bool := List.rec (motive := fun _ => Bool) true (fun x _ ih => bif Nat.beq k x.1 then false else ih) q
noncomputable def zonce (q : List (Nat × Nat)) : Bool := List.rec (motive := fun _ => Bool) true (fun x l ih => bif Nat.ble (ztag x.2) 19 then (bif znk x.1 l then ih else false) else false) q
theorem znk_m {A : zAm} {k : Nat} : ∀ {q : List (Nat × Nat)}, znk k q = true → zcell (zmrg A q) k = zcell A k
  | [], _ => rfl
  | x :: q, h => by
    have h : (bif Nat.beq k x.1 then false else znk k q) = true := h
    obtain ⟨h1, h2⟩ := znot h
    have hne : k ≠ x.1 := fun e => by rw [e, show Nat.beq x.1 x.1 = true from Nat.beq_refl _] at h1; cases h1
    have ih := znk_m (A := A) h2
    show zcell (zmr1 (zmrg A q) x.1 x.2) k = _
    unfold zmr1
    cases zfr x.2 with
    | true => exact ih
    | false =>
      cases zfp x.2 with
      | false => rw [cond_false, cond_false, zcell_put, if_neg hne]; exact ih
      | true =>
        rw [cond_false, cond_true]
        cases (bif zfr (zcell (zmrg A q) x.1) then true else zfp (zcell (zmrg A q) x.1)) with
        | true => rw [cond_true, zcell_put, if_neg hne]; exact ih
        | false => rw [cond_false, zcell_put, if_neg hne]; exact ih
/-- a cell of what comes back: as it was before (and unchanged), or what it says, or that without its mark -/
theorem zmrg_k {A : zAm} (k : Nat) : ∀ {p : List (Nat × Nat)}, zonce p = true → (zcell (zP p) k = 31 ∧ zcell (zmrg A p) k = zcell A k) ∨ (ztag (zcell (zP p) k) < 20 ∧ ((zfr (zcell (zP p) k) = true ∧ zcell (zmrg A p) k = zcell A k) ∨ (¬ zfr (zcell (zP p) k) = true ∧ zcell (zmrg A p) k = zcell (zP p) k ∧ (zfp (zcell (zP p) k) = true → zfr (zcell A k) = true ∨ zfp (zcell A k) = true)) ∨ zcell (zmrg A p) k = zcl (zcell (zP p) k)))
  | [], _ => Or.inl ⟨rfl, rfl⟩
  | y :: p, h => by
    have h : (bif Nat.ble (ztag y.2) 19 then (bif znk y.1 p then zonce p else false) else false) = true := h
    obtain ⟨h1, h⟩ := zand h
    obtain ⟨h2, h3⟩ := zand h
    have e2 : zP (y :: p) = zput (zP p) y.1 y.2 := rfl
    have e3 : zmrg A (y :: p) = zmr1 (zmrg A p) y.1 y.2 := rfl
    rw [e2, e3, zcell_put]
    by_cases hk : k = y.1
    · subst hk
      rw [if_pos rfl]
      have e4 := znk_m (A := A) h2
      refine Or.inr ⟨by have := Nat.le_of_ble_eq_true h1; omega, ?_⟩
      unfold zmr1
      cases hf : zfr y.2 with
      | true => exact Or.inl ⟨rfl, e4⟩
      | false =>
        refine Or.inr ?_
        cases hp : zfp y.2 with
        | false =>
          rw [cond_false, cond_false, zcell_put, if_pos rfl]
          exact Or.inl ⟨by decide, rfl, fun q => by cases q⟩
        | true =>
          rw [cond_false, cond_true, e4]
          cases hq : (bif zfr (zcell A y.1) then true else zfp (zcell A y.1)) with
          | true =>
            rw [cond_true, zcell_put, if_pos rfl]
            refine Or.inl ⟨by decide, rfl, fun _ => ?_⟩
            rcases zelse hq with ⟨q, -⟩ | q
            · exact Or.inl q
            · exact Or.inr q
          | false =>
            rw [cond_false, zcell_put, if_pos rfl]
            exact Or.inr rfl
    · rw [if_neg hk]
      have e5 : zcell (zmr1 (zmrg A p) y.1 y.2) k = zcell (zmrg A p) k := by
        unfold zmr1
        cases zfr y.2 with
        | true => rfl
        | false =>
          cases zfp y.2 with
          | false => rw [cond_false, cond_false, zcell_put, if_neg hk]
          | true =>
            rw [cond_false, cond_true]
            cases (bif zfr (zcell (zmrg A p) y.1) then true else zfp (zcell (zmrg A p) y.1)) with
            | true => rw [cond_true, zcell_put, if_neg hk]
            | false => rw [cond_false, zcell_put, if_neg hk]
      rw [e5]
      exact zmrg_k k h3
theorem zM_mrg {gh : zGh} {t : Nat} {A : zAm} {I I' : qMI} {L L' : qML} {R R' : qMR} {p : List (Nat × Nat)} (hm : zM gh t A I L R) (hk : zonce p = true) (h' : zM (I, L, R) t (zP p) I' L' R') : zM gh t (zmrg A p) I' L' R' := by
  have un : ∀ k, (20 ≤ ztag (zcell (zP p) k) ∨ zfr (zcell (zP p) k) = true) → I' k = I k ∧ L' k = L k ∧ R' k = R k := fun k e => h'.2.1 k e
  refine ⟨⟨fun k h1 => ?_, fun k h1 h2 => ?_⟩, fun k h1 => ?_, fun k h1 j hj => ?_⟩ <;> rcases zmrg_k (A := A) k hk with ⟨e1, e2⟩ | ⟨e0, ⟨e1, e2⟩ | ⟨e1, e2, e3⟩ | e2⟩
  · rw [e2] at h1 ⊢
    obtain ⟨o1, o2, o3⟩ := un k (Or.inl (zn31 e1))
    rw [o1, o2, o3]
    exact hm.1.1 k h1
  · rw [e2] at h1 ⊢
    obtain ⟨o1, o2, o3⟩ := un k (Or.inr e1)
    rw [o1, o2, o3]
    exact hm.1.1 k h1
  · rw [e2] at h1 ⊢
    exact h'.1.1 k h1
  · rw [e2, zcl_tag] at h1
    rw [e2, zcl_tag, zcl_len]
    simp only [zcl_raw]
    exact h'.1.1 k h1
  · rw [e2] at h1 h2 ⊢
    rw [(un k (Or.inl (zn31 e1))).1]
    exact hm.1.2 k h1 h2
  · rw [e2] at h1 h2 ⊢
    rw [(un k (Or.inr e1)).1]
    exact hm.1.2 k h1 h2
  · rw [e2] at h1 h2 ⊢
    exact h'.1.2 k h1 h2
  · rw [e2, zcl_tag] at h1 h2
    rw [e2, zcl_tag, zcl_len, zcl_raw]
    exact h'.1.2 k h1 h2
  · rw [e2] at h1
    obtain ⟨o1, o2, o3⟩ := un k (Or.inl (zn31 e1))
    obtain ⟨p1, p2, p3⟩ := hm.2.1 k h1
    exact ⟨o1.trans p1, o2.trans p2, o3.trans p3⟩
  · rw [e2] at h1
    obtain ⟨o1, o2, o3⟩ := un k (Or.inr e1)
    obtain ⟨p1, p2, p3⟩ := hm.2.1 k h1
    exact ⟨o1.trans p1, o2.trans p2, o3.trans p3⟩
  · rw [e2] at h1
    rcases h1 with h1 | h1
    · omega
    · exact absurd h1 e1
  · rw [e2, zcl_tag] at h1
    rcases h1 with h1 | h1
    · omega
    · exact absurd h1 (zcl_fr _)
  · rw [e2] at h1
    rw [(un k (Or.inl (zn31 e1))).1]
    exact hm.2.2 k h1 j hj
  · rw [e2] at h1
    rw [(un k (Or.inr e1)).1]
    exact hm.2.2 k h1 j hj
  · rw [e2] at h1
    have o := h'.2.2 k h1 j hj
    rw [o]
    rcases e3 h1 with q | q
    · show I k j = _
      rw [(hm.2.1 k (Or.inr q)).1]
    · exact hm.2.2 k q j hj
  · rw [e2] at h1
    exact absurd h1 (zcl_fp _)
/-- a summary over some cells alone: within them it ends in one of the ways, each of which says what they are then -/
abbrev zAq : Type := List (Option zX × List (Nat × Nat))
noncomputable def zAlq (al : zAq) : zAl := al.map (fun a => (a.1, zP a.2))
noncomputable def zeachq (al : zAq) (A : zAm) (K : zKr) : Bool := List.rec (motive := fun _ => Bool) true (fun a _ ih => bif K a.1 336 (zmrg A a.2) then ih else false) al
/-- these cells the runner doesn't know -/
noncomputable def zunk (A : zAm) (un : List Nat) : Bool := List.rec (motive := fun _ => Bool) true (fun x _ ih => bif (bif Nat.ble 20 (ztag (zcell A x)) then true else zfr (zcell A x)) then ih else false) un
theorem zunk_t {A : zAm} : ∀ {un : List Nat}, zunk A un = true → ∀ x ∈ un, 20 ≤ ztag (zcell A x) ∨ zfr (zcell A x) = true
  | [], _, x, hx => by cases hx
  | y :: un, h, x, hx => by
    obtain ⟨h1, h2⟩ := zand (show (bif (bif Nat.ble 20 (ztag (zcell A y)) then true else zfr (zcell A y)) then zunk A un else false) = true from h)
    rcases List.mem_cons.mp hx with rfl | hx
    · rcases zelse h1 with ⟨q, -⟩ | q
      · exact Or.inl (Nat.le_of_ble_eq_true q)
      · exact Or.inr q
    · exact zunk_t h2 x hx
/-- the reference's own object is as it was, but for what doesn't count -/
noncomputable def zunp (A : zAm) : Bool := bif Nat.ble 20 (ztag (zcell A 292)) then true else (bif zfr (zcell A 292) then true else zfp (zcell A 292))
theorem zunp_t {gh : zGh} {t : Nat} {A : zAm} {I : qMI} {L : qML} {R : qMR} (h : zunp A = true) (hm : zM gh t A I L R) : ∀ j, zscr j = false → I 292 j = gh.1 292 j := by
  intro j hj
  rcases zelse h with ⟨q, -⟩ | h
  · rw [(hm.2.1 292 (Or.inl (Nat.le_of_ble_eq_true q))).1]
  · rcases zelse h with ⟨q, -⟩ | q
    · rw [(hm.2.1 292 (Or.inr q)).1]
    · exact hm.2.2 292 q j hj
noncomputable def zgq (ck : Bool) (un : List Nat) (mx : Nat) (lv : List zX) (q : List (Nat × Nat)) (al : zAq) : zMt := fun as t A K => bif Nat.ble (zcat as) mx then (bif Nat.beq t 336 then (bif zlw (zlvs as) lv then (bif zhas A q then (bif (bif ck then (bif zunk A un then zunp A else false) else true) then zeachq al A K else false) else false) else false) else false) else false
theorem zpostq_t {gh : zGh} {K : zKr} {r0 : Option zX} {r : Option Value} {A A1 : zAm} {I0 I : qMI} {L0 L : qML} {R0 R : qMR} (hm0 : zM gh 336 A I0 L0 R0) : ∀ {al : zAq}, (∀ a ∈ al, zonce a.2 = true) → zeachq al A K = true → List.rec (motive := fun _ => Bool) false (fun a _ ih => bif (bif zrw r0 a.1 then zAw A1 a.2 else false) then true else ih) (zAlq al) = true → zgo r0 r → zM (I0, L0, R0) 336 A1 I L R → zQ gh K r 336 I L R
  | [], _, _, h, _, _ => by cases h
  | a :: al, hk, he, h, hg, hm => by
    obtain ⟨h1, h2⟩ := zand (show (bif K a.1 336 (zmrg A a.2) then zeachq al A K else false) = true from he)
    rcases zelse (show (bif (bif zrw r0 a.1 then zAw A1 (zP a.2) else false) then true else List.rec (motive := fun _ => Bool) false (fun a _ ih => bif (bif zrw r0 a.1 then zAw A1 a.2 else false) then true else ih) (zAlq al)) = true from h) with ⟨h3, -⟩ | h3
    · obtain ⟨h4, h5⟩ := zand h3
      exact ⟨a.1, zmrg A a.2, zrw_t h4 hg, zM_mrg hm0 (hk a List.mem_cons_self) (zM_w hm h5), h1⟩
    · exact zpostq_t hm0 (fun b hb => hk b (List.mem_cons_of_mem _ hb)) h2 h3 hg hm
/-- the ghosts that are good stay so where the runner doesn't know these cells -/
def zGd (un : List Nat) (Gd : zGh → Prop) : Prop := ∀ gh I L R, Gd gh → (∀ x ∈ un, I x = gh.1 x ∧ L x = gh.2.1 x ∧ R x = gh.2.2 x) → (∀ j, zscr j = false → I 292 j = gh.1 292 j) → Gd (I, L, R)
theorem zgq_okG {l : Launch} {G : qG} {d : Nat} {N : qMn} {mx : Nat} {pcs : List Nat} {lv0 : List zX} {q : List (Nat × Nat)} {al : zAq} {ck : Bool} {un : List Nat} {Gd : zGh → Prop} {gh : zGh} (hGd : ∀ A I L R, (bif ck then (bif zunk A un then zunp A else false) else true) = true → zM gh 336 A I L R → Gd (I, L, R)) (hy : plainName N.1.cls = true) (hx : N.2.2.1 = mx) (h0 : zn 0 pcs 0 = 0) (hk : ∀ a ∈ al, zonce a.2 = true) (hc : ∀ gh, Gd gh → zS l G gh d (zpost (zAlq al)) N (zn 0 pcs 0) (zwc (0, lv0, zP q) 0)) (hself : zAw (zP q) (zP q) = true) : zC l G gh d N (zgq ck un mx lv0 q al) := by
  intro as t A K hr as' I L R hs hm
  obtain ⟨h1, h2⟩ := zand hr
  obtain ⟨h3, h4⟩ := zand h2
  obtain ⟨h5, h6⟩ := zand h4
  obtain ⟨h7, h8⟩ := zand h6
  obtain ⟨h9, h8⟩ := zand h8
  have e1 := Nat.le_of_ble_eq_true h1
  have e3 := Nat.eq_of_beq_eq_true h3
  subst e3
  obtain ⟨lv, a1, a2, -⟩ := zlv_args (G := G) hs 0
  have hc := hc (I, L, R) (hGd A I L R h9 hm)
  rw [h0] at hc
  have hw : zwc (0, lv0, zP q) 0 (zlvs as) [] 0 0 336 (zP q) = true := by
    show (bif Nat.beq 0 0 then (bif zlw (zlvs as) lv0 then zE [] (bif Nat.beq 0 0 then (bif Nat.beq 0 0 then (bif Nat.beq 336 336 then zAw (zP q) (zP q) else false) else false) else false) else false) else false) = true
    rw [h5, hself]
    rfl
  refine qCall_mono (Q := zQ (I, L, R) (zpost (zAlq al))) (qCall_of hy (by rw [zsl_len hs, hx]; exact e1) lv a1 (hc (zlvs as) [] 0 0 336 (zP q) hw lv [] I L R (fun j => by have := a2 j; rwa [Nat.zero_add] at this) trivial ⟨zM_part hm h7, Nat.zero_le _, Nat.zero_le _⟩)) ?_
  intro r t I1 L1 R1 hq
  obtain ⟨r0, A1, q1, q2, q3⟩ := hq
  obtain ⟨q4, q5⟩ := zand q3
  have e4 := Nat.eq_of_beq_eq_true q4
  subst e4
  exact zpostq_t hm hk h8 q5 q1 q2
theorem zgq_ok0 {l : Launch} {G : qG} {d : Nat} {N : qMn} {mx : Nat} {pcs : List Nat} {lv0 : List zX} {q : List (Nat × Nat)} {al : zAq} (hy : plainName N.1.cls = true) (hx : N.2.2.1 = mx) (h0 : zn 0 pcs 0 = 0) (hk : ∀ a ∈ al, zonce a.2 = true) (hc : ∀ gh, zS l G gh d (zpost (zAlq al)) N (zn 0 pcs 0) (zwc (0, lv0, zP q) 0)) (hself : zAw (zP q) (zP q) = true) {gh : zGh} : zC l G gh d N (zgq false [] mx lv0 q al) :=
  zgq_okG (Gd := fun _ => True) (fun A I L R _ _ => trivial) hy hx h0 hk (fun gh _ => hc gh) hself
/-- one summary, or else the other -/
noncomputable def zor (g h : zMt) : zMt := fun as t A K => bif g as t A K then true else h as t A K
theorem zor_ok {l : Launch} {G : qG} {gh : zGh} {d : Nat} {N : qMn} {g h : zMt} (hg : zC l G gh d N g) (hh : zC l G gh d N h) : zC l G gh d N (zor g h) := by
  intro as t A K hr as' I L R hs hm
  have hr : (bif g as t A K then true else h as t A K) = true := hr
  cases hb : g as t A K with
  | true => exact hg as t A K hb as' I L R hs hm
  | false =>
    rw [hb, cond_false] at hr
    exact hh as t A K hr as' I L R hs hm
