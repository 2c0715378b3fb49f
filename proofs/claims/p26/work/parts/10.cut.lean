noncomputable def zleq {α : Type} (e : α → α → Bool) (l m : List α) : Bool := List.rec (motive := fun _ => List α → Bool) (fun m => List.rec (motive := fun _ => Bool) true (fun _ _ _ => false) m) (fun x _ ih m => List.rec (motive := fun _ => Bool) false (fun y m' _ => bif e x y then ih m' else false) m) l m
theorem zleq_t {α : Type} {e : α → α → Bool} (he : ∀ x y, e x y = true → x = y) : ∀ {l m : List α}, zleq e l m = true → l = m
  | [], [], _ => rfl
  | [], _ :: _, h => by cases h
  | _ :: _, [], h => by cases h
  | x :: l, y :: m, h => by
    have h : (bif e x y then zleq e l m else false) = true := h
    obtain ⟨h1, h2⟩ := zand h
    rw [he x y h1, zleq_t he h2]
/-! ===== a state within another; cuts ===== -/
/-- a value within another -/
noncomputable def zxw (x y : zX) : Bool := Sum.rec (motive := fun _ => Bool) (fun c => zI y (fun m => zwi c m)) (fun v => Sum.rec (motive := fun _ => Bool) (fun _ => false) (fun w => bif decide (v = w) then true else (bif zisL (.inr v) then Value.rec (motive := fun _ => Bool) (fun _ => false) (fun _ => false) (fun _ => false) (fun _ => true) false (fun _ => false) (fun _ => false) w else false)) y) x
theorem zxw_t {x y : zX} {v : Value} (h : zxw x y = true) (hg : zg x v) : zg y v := by
  cases x with
  | inl c =>
    cases y with
    | inr w => cases h
    | inl m =>
      obtain ⟨z, rfl, hz⟩ := hg
      exact ⟨z, rfl, zwi_t h hz⟩
  | inr a =>
    cases y with
    | inl m => cases h
    | inr w =>
      have h : (bif decide (a = w) then true else (bif zisL (.inr a) then Value.rec (motive := fun _ => Bool) (fun _ => false) (fun _ => false) (fun _ => false) (fun _ => true) false (fun _ => false) (fun _ => false) w else false)) = true := h
      cases hd : decide (a = w) with
      | true =>
        have e := of_decide_eq_true hd
        subst e
        exact hg
      | false =>
        rw [hd, cond_false] at h
        obtain ⟨h1, h2⟩ := zand h
        obtain ⟨y, rfl⟩ := zisL_l h1 hg
        cases w with
        | double b => exact ⟨y, rfl⟩
        | _ => cases h2
/-- locals: what the second doesn't know may be anything -/
noncomputable def zlw (l m : List zX) : Bool := List.rec (motive := fun _ => List zX → Bool) (fun l => true) (fun y _ ih l => bif (bif decide (y = zdum) then true else zxw (zn zdum l 0) y) then ih (List.rec (motive := fun _ => List zX) [] (fun _ r _ => r) l) else false) m l
theorem zlw_s (l : List zX) (y : zX) (m : List zX) : zlw l (y :: m) = bif (bif decide (y = zdum) then true else zxw (zn zdum l 0) y) then zlw (List.rec (motive := fun _ => List zX) [] (fun _ r _ => r) l) m else false := rfl
theorem zn_tl (l : List zX) (i : Nat) : zn zdum (List.rec (motive := fun _ => List zX) [] (fun _ r _ => r) l) i = zn zdum l (i + 1) := by cases l <;> rfl
theorem zxw_nd {x y : zX} (h : zxw x y = true) (hy : y ≠ zdum) : x ≠ zdum := by
  intro e
  subst e
  cases y with
  | inl c => cases h
  | inr w =>
    have h : (bif decide (Value.retAddr 0 = w) then true else false) = true := h
    cases hd : decide (Value.retAddr 0 = w) with
    | true => exact hy (by rw [← of_decide_eq_true hd]; rfl)
    | false => rw [hd] at h; cases h
theorem zlw_n : ∀ {m l : List zX}, zlw l m = true → ∀ i, zn zdum m i = zdum ∨ zxw (zn zdum l i) (zn zdum m i) = true
  | [], _, _, _ => Or.inl rfl
  | y :: m, l, h, i => by
    rw [zlw_s] at h
    obtain ⟨h1, h2⟩ := zand h
    cases i with
    | zero =>
      show y = zdum ∨ _
      cases hd : decide (y = zdum) with
      | true => exact Or.inl (of_decide_eq_true hd)
      | false => rw [hd, cond_false] at h1; exact Or.inr h1
    | succ i =>
      have := zlw_n h2 i
      rw [zn_tl] at this
      exact this
theorem zlw_t {l m : List zX} {lv' : qLv} (h : zlw l m = true) (hl : zgl l lv') : zgl m lv' := by
  intro i
  rcases zlw_n h i with e | e
  · exact Or.inl e
  · by_cases hd : zn zdum m i = zdum
    · exact Or.inl hd
    · obtain ⟨v, h1, h2⟩ := zgl_get hl (zxw_nd e hd)
      exact Or.inr ⟨v, h1, zxw_t e h2⟩
/-- an object's places, one by one -/
noncomputable def zow (tg a m n : Nat) : Bool := Nat.rec (motive := fun _ => Bool) true (fun j ih => bif ih then (bif qIsR (qTy tg j) then Nat.beq (zraw a j) (zraw m j) else zwi (Nat.xor (zraw a j) 2147483648) (Nat.xor (zraw m j) 2147483648)) else false) n
theorem zow_t {tg a m : Nat} : ∀ {n : Nat}, zow tg a m n = true → ∀ j, j < n → (bif qIsR (qTy tg j) then Nat.beq (zraw a j) (zraw m j) else zwi (Nat.xor (zraw a j) 2147483648) (Nat.xor (zraw m j) 2147483648)) = true
  | 0, _, j, hj => by omega
  | n + 1, h, j, hj => by
    obtain ⟨h1, h2⟩ := zand (show (bif zow tg a m n then (bif qIsR (qTy tg n) then Nat.beq (zraw a n) (zraw m n) else zwi (Nat.xor (zraw a n) 2147483648) (Nat.xor (zraw m n) 2147483648)) else false) = true from h)
    by_cases hjn : j = n
    · subst hjn
      exact h2
    · exact zow_t h1 j (by omega)
noncomputable def zow0 (a m n : Nat) : Bool := Nat.rec (motive := fun _ => Bool) true (fun j ih => bif ih then zwi (Nat.xor (zraw a j) 2147483648) (Nat.xor (zraw m j) 2147483648) else false) n
theorem zow0_t {a m : Nat} : ∀ {n : Nat}, zow0 a m n = true → ∀ j, j < n → zwi (Nat.xor (zraw a j) 2147483648) (Nat.xor (zraw m j) 2147483648) = true
  | 0, _, j, hj => by omega
  | n + 1, h, j, hj => by
    obtain ⟨h1, h2⟩ := zand (show (bif zow0 a m n then zwi (Nat.xor (zraw a n) 2147483648) (Nat.xor (zraw m n) 2147483648) else false) = true from h)
    by_cases hjn : j = n
    · subst hjn
      exact h2
    · exact zow0_t h1 j (by omega)
/-- a cell within another, whatever the marks: the same; an object by its places; arrays of one bound -/
noncomputable def zcv (a m : Nat) : Bool := bif Nat.beq a m then true else (bif Nat.beq (ztag a) (ztag m) then (bif Nat.beq (zlen a) (zlen m) then (
  bif Nat.ble (ztag m) 9 then (bif zow (ztag m) a m (zlen m) then Nat.beq (Nat.shiftRight a (Nat.add 32 (Nat.mul 65 (zlen m)))) (Nat.shiftRight m (Nat.add 32 (Nat.mul 65 (zlen m)))) else false)
  else (bif Nat.ble 16 (ztag m) then (bif Nat.ble (ztag m) 18 then zwi (Nat.xor (zraw a 0) 2147483648) (Nat.xor (zraw m 0) 2147483648) else Nat.beq (ztag m) 19) else (bif Nat.beq (Nat.div a 4294967296) (Nat.div m 4294967296) then true else (bif Nat.beq (ztag m) 10 then (bif zow0 a m (zlen m) then Nat.beq (Nat.shiftRight a (Nat.add 32 (Nat.mul 65 (zlen m)))) (Nat.shiftRight m (Nat.add 32 (Nat.mul 65 (zlen m)))) else false) else false)))) else false) else false)
theorem zcv_known {a m : Nat} (h : zcv a m = true) : ztag a = ztag m ∧ zlen a = zlen m ∧ (ztag m < 15 → ∀ j i x r, zSl (zkd (ztag m) j) (zraw a j) i x r → zSl (zkd (ztag m) j) (zraw m j) i x r) ∧ (16 ≤ ztag m → ztag m < 19 → ∀ i, zin (Nat.xor (zraw a 0) 2147483648) i → zin (Nat.xor (zraw m 0) 2147483648) i) := by
  unfold zcv at h
  cases h0 : Nat.beq a m with
  | true =>
    have e := Nat.eq_of_beq_eq_true h0
    subst e
    exact ⟨rfl, rfl, fun _ j i x r q => q, fun _ _ i q => q⟩
  | false =>
    rw [h0, cond_false] at h
    obtain ⟨h1, h⟩ := zand h
    obtain ⟨h2, h⟩ := zand h
    have e1 := Nat.eq_of_beq_eq_true h1
    have e2 := Nat.eq_of_beq_eq_true h2
    refine ⟨e1, e2, fun ht j i x r q => ?_, fun h16 h19 i q => ?_⟩
    · rcases zelse h with ⟨h3, h4⟩ | h4
      · obtain ⟨h5, h6⟩ := zand h4
        have e3 := Nat.le_of_ble_eq_true h3
        have e6 := Nat.eq_of_beq_eq_true h6
        by_cases hj : j < zlen m
        · have h7 := zow_t h5 j hj
          cases hq : qIsR (qTy (ztag m) j) with
          | true =>
            rw [hq, cond_true] at h7
            rw [← Nat.eq_of_beq_eq_true h7]
            exact q
          | false =>
            rw [hq, cond_false] at h7
            have hk := zkd_I (ci := ztag m) (j := j) (by omega) hq
            rw [hk] at q ⊢
            exact ⟨fun _ => zwi_t h7 (q.1 rfl), fun k => (by cases k), fun k => (by cases k)⟩
        · have e7 : zraw a j = zraw m j := by
            have e8 : a >>> (32 + 65 * zlen m) = m >>> (32 + 65 * zlen m) := e6
            rw [zraw_eq, zraw_eq, show 32 + 65 * j = (32 + 65 * zlen m) + 65 * (j - zlen m) by omega, Nat.shiftRight_add a (32 + 65 * zlen m), Nat.shiftRight_add m (32 + 65 * zlen m), e8]
          rw [← e7]
          exact q
      · rcases zelse h4 with ⟨h5, -⟩ | h5
        · have := Nat.le_of_ble_eq_true h5
          omega
        · rcases zelse h5 with ⟨h6, -⟩ | h6
          · rw [← zraw_hi (show a / 4294967296 = m / 4294967296 from Nat.eq_of_beq_eq_true h6) j]
            exact q
          · obtain ⟨h7, h8⟩ := zand h6
            obtain ⟨h9, h10⟩ := zand h8
            have e7 := Nat.eq_of_beq_eq_true h7
            have e10 := Nat.eq_of_beq_eq_true h10
            by_cases hj : j < zlen m
            · have h11 := zow0_t h9 j hj
              rw [e7] at q ⊢
              exact ⟨fun _ => zwi_t h11 (q.1 rfl), fun k => (by cases k), fun k => (by cases k)⟩
            · have e11 : zraw a j = zraw m j := by
                have e8 : a >>> (32 + 65 * zlen m) = m >>> (32 + 65 * zlen m) := e10
                rw [zraw_eq, zraw_eq, show 32 + 65 * j = (32 + 65 * zlen m) + 65 * (j - zlen m) by omega, Nat.shiftRight_add a (32 + 65 * zlen m), Nat.shiftRight_add m (32 + 65 * zlen m), e8]
              rw [← e11]
              exact q
    · rcases zelse h with ⟨h3, h4⟩ | h4
      · have := Nat.le_of_ble_eq_true h3
        omega
      · rcases zelse h4 with ⟨h5, h6⟩ | h6
        · rcases zelse h6 with ⟨h7, h8⟩ | h8
          · exact zwi_t h8 q
          · have := Nat.eq_of_beq_eq_true h8
            omega
        · rcases zelse h6 with ⟨h7, -⟩ | h7
          · rw [← zraw_hi (show a / 4294967296 = m / 4294967296 from Nat.eq_of_beq_eq_true h7) 0]
            exact q
          · have := Nat.eq_of_beq_eq_true (zand h7).1
            omega
/-- and with marks that say no more -/
noncomputable def zcw (a m : Nat) : Bool := bif Nat.beq a m then true else (bif zcv a m then (bif (bif zfr m then zfr a else true) then (bif zfp m then (bif zfp a then true else zfr a) else true) else false) else false)
theorem zcv_self (a : Nat) : zcv a a = true := by
  unfold zcv
  rw [show Nat.beq a a = true from Nat.beq_refl a]
  rfl
theorem zcw_v {a m : Nat} (h : zcw a m = true) : zcv a m = true ∧ (zfr m = true → zfr a = true) ∧ (zfp m = true → zfp a = true ∨ zfr a = true) := by
  unfold zcw at h
  cases h0 : Nat.beq a m with
  | true =>
    have e := Nat.eq_of_beq_eq_true h0
    subst e
    exact ⟨zcv_self a, id, Or.inl⟩
  | false =>
    rw [h0, cond_false] at h
    obtain ⟨h1, h⟩ := zand h
    obtain ⟨h2, h3⟩ := zand h
    refine ⟨h1, fun q => ?_, fun q => ?_⟩
    · rw [q, cond_true] at h2; exact h2
    · rw [q, cond_true] at h3
      rcases zelse h3 with ⟨h4, -⟩ | h4
      · exact Or.inl h4
      · exact Or.inr h4
theorem zleq_n {α : Type} {e : α → α → Bool} {d : α} (hd : e d d = true) : ∀ {l m : List α}, zleq e l m = true → ∀ i, e (zn d l i) (zn d m i) = true
  | [], [], _, _ => hd
  | [], _ :: _, h, _ => by cases h
  | _ :: _, [], h, _ => by cases h
  | x :: l, y :: m, h, i => by
    have h : (bif e x y then zleq e l m else false) = true := h
    obtain ⟨h1, h2⟩ := zand h
    cases i with
    | zero => exact h1
    | succ i => exact zleq_n hd h2 i
noncomputable def zAw (A' A : zAm) : Bool := zleq (zleq (zleq zcw)) A' A
theorem zAw_t {A' A : zAm} (h : zAw A' A = true) (k : Nat) : zcw (zcell A' k) (zcell A k) = true := by
  have h1 := zleq_n (e := zleq (zleq zcw)) (d := []) rfl h (Nat.div k 64)
  have h2 := zleq_n (e := zleq zcw) (d := []) rfl h1 (Nat.mod (Nat.div k 8) 8)
  exact zleq_n (e := zcw) (d := 31) rfl h2 (Nat.mod k 8)
theorem zM_w {gh : zGh} {t : Nat} {A' A : zAm} {I : qMI} {L : qML} {R : qMR} (hm : zM gh t A' I L R) (h : zAw A' A = true) : zM gh t A I L R := by
  refine ⟨⟨fun k hk => ?_, fun k hk hk2 => ?_⟩, fun k hk => ?_, fun k hk j hj => ?_⟩
  · obtain ⟨e1, e2, e3, -⟩ := zcv_known (zcw_v (zAw_t h k)).1
    obtain ⟨h1, h2, h3, h4⟩ := hm.1.1 k (by rw [e1]; exact hk)
    rw [e1] at h2 h4
    rw [e2] at h3
    exact ⟨h1, h2, h3, fun j => e3 hk j _ _ _ (h4 j)⟩
  · obtain ⟨e1, e2, -, e4⟩ := zcv_known (zcw_v (zAw_t h k)).1
    obtain ⟨h1, h2, h3, h4⟩ := hm.1.2 k (by rw [e1]; exact hk) (by rw [e1]; exact hk2)
    rw [e1] at h2 h4
    rw [e2] at h3 h4
    exact ⟨h1, h2, h3, fun q j hj => e4 hk q _ (h4 q j hj)⟩
  · obtain ⟨e1, -⟩ := zcv_known (zcw_v (zAw_t h k)).1
    rw [← e1] at hk
    exact hm.2.1 k (hk.imp id (zcw_v (zAw_t h k)).2.1)
  · rcases (zcw_v (zAw_t h k)).2.2 hk with q | q
    · exact hm.2.2 k q j hj
    · rw [(hm.2.1 k (Or.inr q)).1]
/-! cuts: from cut r on only cuts below r are come to -/
section ZCUT
variable {l : Launch} {G : qG} {gh : zGh} {d : Nat} {N : qMn} {K : zKr}
/-- a cut: its block, its locals, its memory (nothing on the stack, no cell made so far) -/
abbrev zCt : Type := Nat × List zX × zAm
noncomputable def zwc (q : zCt) (b : Nat) : zK := fun lv st ce sl t A => bif Nat.beq q.1 b then (bif zlw lv q.2.1 then zE st (bif Nat.beq ce 0 then (bif Nat.beq sl 0 then (bif Nat.beq t 336 then zAw A q.2.2 else false) else false) else false) else false) else false
/-- runs on, but stops where 'look' says that a cut below is come to -/
noncomputable def zjc (n : Nat) (tab : List zBl) (look : Nat → zK) : Nat → zK := Nat.rec (motive := fun _ => Nat → zK) (fun _ => oFail) (fun _ ih b lv st ce sl t A => bif look b lv st ce sl t A then true else zn zfl tab b ih K lv st ce sl t A) n
theorem zjc_ok {tab : List zBl} {pcs : List Nat} (h : zT (zPb l G gh d N pcs) tab pcs) {look : Nat → zK} (hl : ∀ b, zS l G gh d K N (zn 0 pcs b) (look b)) : ∀ n b, zS l G gh d K N (zn 0 pcs b) (zjc (K := K) n tab look b)
  | 0, _ => z_fail
  | n + 1, b => by
    intro lv st ce sl t A hr lv' st' I L R h1 h2 h3
    have hr : (bif look b lv st ce sl t A then true else zn zfl tab b (zjc (K := K) n tab look) K lv st ce sl t A) = true := hr
    cases hb : look b lv st ce sl t A with
    | true => exact hl b lv st ce sl t A hb lv' st' I L R h1 h2 h3
    | false =>
      rw [hb, cond_false] at hr
      exact zT_all (P := zPb l G gh d N pcs) (fun _ _ _ _ => z_fail) h b K (zjc (K := K) n tab look) (zjc_ok h hl n) lv st ce sl t A hr lv' st' I L R h1 h2 h3
end ZCUT
