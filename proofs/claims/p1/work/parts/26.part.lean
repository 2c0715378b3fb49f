/-! ===== runs over a part of the memory ===== -/
def ztr : Nat := 6442450943
noncomputable def ztcn (len n : Nat) : Nat := Nat.rec (motive := fun _ => Nat) (zmk 10 len) (fun j m => zupd m j ztr) n
theorem ztcn_t {len : Nat} (hl : len < 4096) : ∀ n, ztag (ztcn len n) = 10 ∧ zlen (ztcn len n) = len ∧ ∀ j, zraw (ztcn len n) j = if j < n then ztr else 0
  | 0 => ⟨zmk_tag (by omega), zmk_len (by omega) hl, fun j => by rw [if_neg (by omega)]; exact zmk_raw (by omega) hl j⟩
  | n + 1 => by
    obtain ⟨h1, h2, h3⟩ := ztcn_t hl n
    have e : ztcn len (n + 1) = zupd (ztcn len n) n ztr := rfl
    rw [e, ztag_u, zlen_u]
    refine ⟨h1, h2, fun j => ?_⟩
    by_cases hj : j = n
    · subst hj
      rw [zraw_s (by decide), if_pos (by omega)]
    · rw [zraw_n (by decide) hj, h3]
      by_cases h : j < n
      · rw [if_pos h, if_pos (by omega)]
      · rw [if_neg h, if_neg (by omega)]
/-- the first is known as well as the second, or better -/
noncomputable def zrel (a m : Nat) : Bool := bif Nat.beq a m then true else (bif Nat.beq m (ztcn (zlen m) (zlen m)) then (bif Nat.beq (ztag a) 10 then (bif Nat.beq (zlen a) (zlen m) then Nat.beq (Nat.shiftRight a (Nat.add 32 (Nat.mul 65 (zlen m)))) 0 else false) else false) else false)
theorem zlen_lt (m : Nat) : zlen m < 4096 := Nat.mod_lt _ (by decide)
theorem zrel_t {a m : Nat} (h : zrel a m = true) : ztag a = ztag m ∧ zlen a = zlen m ∧ ∀ j i x r, zSl (zkd (ztag m) j) (zraw a j) i x r → zSl (zkd (ztag m) j) (zraw m j) i x r := by
  unfold zrel at h
  cases h1 : Nat.beq a m with
  | true =>
    have e := Nat.eq_of_beq_eq_true h1
    subst e
    exact ⟨rfl, rfl, fun j i x r q => q⟩
  | false =>
    rw [h1, cond_false] at h
    obtain ⟨h2, h3⟩ := zand h
    obtain ⟨h4, h5⟩ := zand h3
    obtain ⟨h6, h7⟩ := zand h5
    have e2 := Nat.eq_of_beq_eq_true h2
    have e4 := Nat.eq_of_beq_eq_true h4
    have e6 := Nat.eq_of_beq_eq_true h6
    have e7 := Nat.eq_of_beq_eq_true h7
    obtain ⟨t1, t2, t3⟩ := ztcn_t (zlen_lt m) (zlen m)
    rw [← e2] at t1 t3
    refine ⟨by rw [e4, t1], e6, fun j i x r q => ?_⟩
    rw [t1] at q ⊢
    refine ⟨fun _ => ?_, fun k => (by cases k), fun k => (by cases k)⟩
    rw [t3]
    by_cases hj : j < zlen m
    · rw [if_pos hj]
      exact zin_top i
    · rw [if_neg hj]
      have e8 : zraw a j = 0 := by
        rw [zraw_eq]
        have : a >>> (32 + 65 * j) = 0 := by
          have e9 : a >>> (32 + 65 * zlen m) = 0 := e7
          rw [show 32 + 65 * j = (32 + 65 * zlen m) + 65 * (j - zlen m) by omega, Nat.shiftRight_add, e9, Nat.zero_shiftRight]
        rw [this]
      have := q.1 rfl
      rw [e8] at this
      exact this
theorem zleq_n {α : Type} {e : α → α → Bool} {d : α} (hd : e d d = true) : ∀ {l m : List α}, zleq e l m = true → ∀ i, e (zn d l i) (zn d m i) = true
  | [], [], _, _ => hd
  | [], _ :: _, h, _ => by cases h
  | _ :: _, [], h, _ => by cases h
  | x :: l, y :: m, h, i => by
    have h : (bif e x y then zleq e l m else false) = true := h
    obtain ⟨h1, h2⟩ := zand h
    cases i with
    | zero => exact h1
    | succ i => exact zleq_n hd h2 i
noncomputable def zsubA (A' A : zAm) : Bool := zleq (zleq (zleq zrel)) A' A
theorem zsubA_t {A' A : zAm} (h : zsubA A' A = true) (k : Nat) : zrel (zcell A' k) (zcell A k) = true := by
  have h1 := zleq_n (e := zleq (zleq zrel)) (d := []) rfl h (Nat.div k 64)
  have h2 := zleq_n (e := zleq zrel) (d := []) rfl h1 (Nat.mod (Nat.div k 8) 8)
  exact zleq_n (e := zrel) (d := 31) rfl h2 (Nat.mod k 8)
theorem zM_sub {gh : zGh} {t : Nat} {A' A : zAm} {I : qMI} {L : qML} {R : qMR} (hm : zM gh t A' I L R) (h : zsubA A' A = true) : zM gh t A I L R := by
  refine ⟨fun k hk => ?_, fun k hk => ?_⟩
  · obtain ⟨e1, e2, e3⟩ := zrel_t (zsubA_t h k)
    rw [← e1] at hk
    obtain ⟨h1, h2, h3, h4⟩ := hm.1 k hk
    rw [e1] at h2 h4
    rw [e2] at h3
    exact ⟨h1, h2, h3, fun j => e3 j _ _ _ (h4 j)⟩
  · obtain ⟨e1, e2, e3⟩ := zrel_t (zsubA_t h k)
    rw [← e1] at hk
    exact hm.2 k hk
/-- a memory of these cells alone -/
noncomputable def zP (q : List (Nat × Nat)) : zAm := List.rec (motive := fun _ => zAm) [] (fun x _ ih => zput ih x.1 x.2) q
noncomputable def zmrg (A : zAm) (q : List (Nat × Nat)) : zAm := List.rec (motive := fun _ => zAm) A (fun x _ ih => zput ih x.1 x.2) q
noncomputable def zhas (A : zAm) (q : List (Nat × Nat)) : Bool := List.rec (motive := fun _ => Bool) true (fun x _ ih => bif zrel (zcell A x.1) x.2 then (bif Nat.ble (ztag x.2) 14 then ih else false) else false) q
theorem zkeys {A : zAm} (k : Nat) : ∀ {q : List (Nat × Nat)}, zhas A q = true → (zcell (zP q) k = 31 ∧ zcell (zmrg A q) k = zcell A k) ∨ (zcell (zmrg A q) k = zcell (zP q) k ∧ ztag (zcell (zP q) k) < 15 ∧ zrel (zcell A k) (zcell (zP q) k) = true)
  | [], _ => Or.inl ⟨rfl, rfl⟩
  | x :: q, h => by
    have e1 : zP (x :: q) = zput (zP q) x.1 x.2 := rfl
    have e2 : zmrg A (x :: q) = zput (zmrg A q) x.1 x.2 := rfl
    have h : (bif zrel (zcell A x.1) x.2 then (bif Nat.ble (ztag x.2) 14 then zhas A q else false) else false) = true := h
    obtain ⟨h1, h2⟩ := zand h
    obtain ⟨h3, h4⟩ := zand h2
    rw [e1, e2, zcell_put, zcell_put]
    by_cases hk : k = x.1
    · subst hk
      rw [if_pos rfl, if_pos rfl]
      exact Or.inr ⟨rfl, by have := Nat.le_of_ble_eq_true h3; omega, h1⟩
    · rw [if_neg hk, if_neg hk]
      exact zkeys k h4
theorem zn15 {A : zAm} {k : Nat} (e : zcell A k = 31) : ¬ ztag (zcell A k) < 15 := by rw [e]; decide
theorem zM_part {gh : zGh} {t : Nat} {A : zAm} {I : qMI} {L : qML} {R : qMR} {q : List (Nat × Nat)} (hm : zM gh t A I L R) (h : zhas A q = true) : zM (I, L, R) t (zP q) I L R := by
  refine ⟨fun k hk => ?_, fun k _ => ⟨rfl, rfl, rfl⟩⟩
  rcases zkeys k h with ⟨h1, -⟩ | ⟨-, h2, h1⟩
  · exact absurd hk (zn15 h1)
  · obtain ⟨e1, e2, e3⟩ := zrel_t h1
    obtain ⟨g1, g2, g3, g4⟩ := hm.1 k (by rw [e1]; exact h2)
    rw [e1] at g2 g4
    rw [e2] at g3
    exact ⟨g1, g2, g3, fun j => e3 j _ _ _ (g4 j)⟩
theorem zM_mrg {gh : zGh} {t : Nat} {A : zAm} {I I' : qMI} {L L' : qML} {R R' : qMR} {q : List (Nat × Nat)} (hm : zM gh t A I L R) (h : zhas A q = true) (h' : zM (I, L, R) t (zP q) I' L' R') : zM gh t (zmrg A q) I' L' R' := by
  refine ⟨fun k hk => ?_, fun k hk => ?_⟩
  · rcases zkeys k h with ⟨e1, e2⟩ | ⟨e2, -⟩
    · rw [e2] at hk ⊢
      obtain ⟨o1, o2, o3⟩ := h'.2 k (zn15 e1)
      have o1 : I' k = I k := o1
      have o2 : L' k = L k := o2
      have o3 : R' k = R k := o3
      rw [o1, o2, o3]
      exact hm.1 k hk
    · rw [e2] at hk ⊢
      exact h'.1 k hk
  · rcases zkeys k h with ⟨e1, e2⟩ | ⟨e2, h2, -⟩
    · rw [e2] at hk
      obtain ⟨o1, o2, o3⟩ := h'.2 k (zn15 e1)
      obtain ⟨p1, p2, p3⟩ := hm.2 k hk
      exact ⟨o1.trans p1, o2.trans p2, o3.trans p3⟩
    · rw [e2] at hk
      exact absurd h2 hk
/-- ends with this int, the cells known as before -/
noncomputable def zchk (c : Nat) (q : List (Nat × Nat)) : zKr := fun r t A => Option.rec (motive := fun _ => Bool) false (fun x => zI x (fun a => bif Nat.beq a c then (bif zk c then (bif Nat.beq t 336 then zsubA A (zP q) else false) else false) else false)) r
theorem zchk_t {gh : zGh} {c t : Nat} {q : List (Nat × Nat)} {r0 : Option zX} {r : Option Value} {A : zAm} {I : qMI} {L : qML} {R : qMR} (h : zchk c q r0 t A = true) (hg : zgo r0 r) (hm : zM gh t A I L R) : r = some (.int (zc c)) ∧ t = 336 ∧ zM gh 336 (zP q) I L R := by
  cases r0 with
  | none => cases h
  | some x =>
    cases r with
    | none => exact hg.elim
    | some v =>
      obtain ⟨a, y, rfl, h1, h2⟩ := zI_t (f := fun a => bif Nat.beq a c then (bif zk c then (bif Nat.beq t 336 then zsubA A (zP q) else false) else false) else false) h hg
      obtain ⟨h3, h4⟩ := zand h2
      obtain ⟨h5, h6⟩ := zand h4
      obtain ⟨h7, h8⟩ := zand h6
      have e := Nat.eq_of_beq_eq_true h3
      have e2 := Nat.eq_of_beq_eq_true h7
      subst e
      subst e2
      have e3 := zk_in h5 h1
      exact ⟨by rw [← e3, zc_zb], rfl, zM_sub hm h8⟩
theorem zcall {l : Launch} {G : qG} {d : Nat} {N : qMn} {f : zMt} {as : List zX} {as' : List Value} {I : qMI} {L : qML} {R : qMR} {q : List (Nat × Nat)} {c : Nat} (hc : zC l G (I, L, R) d N f) (hr : f as 336 (zP q) (zchk c q) = true) (hs : zgs as as') (hm : zM (I, L, R) 336 (zP q) I L R) : qCall l G d N as' 336 I L R (fun r t I' L' R' => r = some (.int (zc c)) ∧ t = 336 ∧ zM (I, L, R) 336 (zP q) I' L' R') := by
  refine qCall_mono (hc as 336 (zP q) _ hr as' I L R hs hm) ?_
  intro r t I1 L1 R1 hq
  obtain ⟨r0, A, q1, q2, q3⟩ := hq
  exact zchk_t q3 q1 q2
theorem zM_rf {t : Nat} {A : zAm} {gh : zGh} {I : qMI} {L : qML} {R : qMR} (h : zM gh t A I L R) : zM (I, L, R) t A I L R := ⟨h.1, fun _ _ => ⟨rfl, rfl, rfl⟩⟩
theorem zM_nil (t : Nat) (I : qMI) (L : qML) (R : qMR) : zM (I, L, R) t (zP []) I L R := ⟨fun k hk => absurd hk (zn15 rfl), fun _ _ => ⟨rfl, rfl, rfl⟩⟩
theorem zM_nil_eq {t : Nat} {I I' : qMI} {L L' : qML} {R R' : qMR} (h : zM (I, L, R) t (zP []) I' L' R') : I' = I ∧ L' = L ∧ R' = R := ⟨funext fun k => (h.2 k (zn15 rfl)).1, funext fun k => (h.2 k (zn15 rfl)).2.1, funext fun k => (h.2 k (zn15 rfl)).2.2⟩
theorem qLk_st {i j : Nat} {v x : Value} {lv : qLv} (h : qLk j lv = some v) (hj : j ≠ i) (hc : v.category = 1) : qLk j ((i, x) :: qDr i lv) = some v := by
  unfold qLk
  rw [if_neg (fun e => hj e.symm)]
  exact qLk_dr h hj (fun _ => by rw [hc]; decide)
theorem qLk_s0 {i : Nat} {x : Value} {lv : qLv} : qLk i ((i, x) :: qDr i lv) = some x := by
  unfold qLk
  rw [if_pos rfl]
/-- numbers -/
theorem zb_nIs {n : Nat} (h : n < 2 ^ 31) : zb (nI n) = n + 2147483648 := by
  have e := zb_int (nI n)
  rw [nI_toInt h] at e
  omega
theorem zc_nI {n : Nat} (h : n < 2 ^ 31) : zc (n + 2147483648) = nI n := by rw [← zb_nIs h, zc_zb]
theorem zI_lt {a b : Nat} (ha : a < 2 ^ 31) (hb : b < 2 ^ 31) : nI a < nI b ↔ a < b := by rw [zlt_iff, zb_nIs ha, zb_nIs hb]; omega
theorem zI_le {a b : Nat} (ha : a < 2 ^ 31) (hb : b < 2 ^ 31) : nI a ≤ nI b ↔ a ≤ b := by rw [zle_iff, zb_nIs ha, zb_nIs hb]; omega
theorem zI_in {a n : Nat} (ha : a < 2 ^ 31) (h : a < n) : vp_in (nI a) n := by
  intro q
  rcases q with q | q
  · have := zlt_iff.mp q
    rw [zb_nIs ha, show zb 0 = 2147483648 by decide] at this
    omega
  · rw [nI_clamp ha] at q
    omega
theorem zI_max {a b : Nat} (ha : a < 2 ^ 31) (hb : b < 2 ^ 31) : (if nI a < nI b then nI b else nI a) = nI (max a b) := by
  by_cases h : a < b
  · rw [if_pos ((zI_lt ha hb).mpr h), Nat.max_eq_right (by omega)]
  · rw [if_neg (fun q => h ((zI_lt ha hb).mp q)), Nat.max_eq_left (by omega)]
