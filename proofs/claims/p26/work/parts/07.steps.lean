/-! ===== what the runner's numbers stand for ===== -/
abbrev zX : Type := Nat ⊕ Value
def zdum : zX := .inr (.retAddr 0)
def zok : Value → Bool
  | .int _ => false
  | .retAddr _ => false
  | .double _ => false
  | _ => true
def zgv (w v : Value) : Prop := match w with
  | .double _ => ∃ y, v = .long y
  | w => v = w ∧ zok w = true
theorem zgv_self {v : Value} (h : qIsV v = true) : zgv v v := by
  cases v with
  | ref a => exact ⟨rfl, rfl⟩
  | null => exact ⟨rfl, rfl⟩
  | float a => exact ⟨rfl, rfl⟩
  | _ => cases h
def zg (x : zX) (v : Value) : Prop := match x with
  | .inl c => ∃ y, v = .int y ∧ zin c y
  | .inr w => zgv w v
def zgs : List zX → List Value → Prop
  | [], [] => True
  | x :: l, v :: m => zg x v ∧ zgs l m
  | _, _ => False
def zgl (lv : List zX) (lv' : qLv) : Prop := ∀ i, zn zdum lv i = zdum ∨ ∃ v, qLk i lv' = some v ∧ zg (zn zdum lv i) v
def zdr : Nat → Option Nat
  | 0 => none
  | n + 1 => some n
def zkd (tag j : Nat) : Nat := if tag < 10 then (if qIsR (qTy tag j) = true then 2 else 0) else if tag < 13 then 0 else if tag = 13 then 1 else 2
def zSl (kd raw : Nat) (i : Int32) (x : Int64) (r : Option Nat) : Prop := (kd = 0 → zin (Nat.xor raw 2147483648) i) ∧ (kd = 1 → x = Int64.ofNat raw) ∧ (kd = 2 → r = zdr raw)
/-- what the memory was at first: cells that the runner doesn't know stay so, and some fields of the cell 292 -/
abbrev zGh : Type := qMI × qML × qMR
/-- two marks of a cell's number: it is as it was; all of it but some fields is -/
def zfr (m : Nat) : Bool := Nat.beq (Nat.mod (Nat.div m 131072) 2) 1
def zfp (m : Nat) : Bool := Nat.beq (Nat.mod (Nat.div m 262144) 2) 1
def zscr (j : Nat) : Bool := bif Nat.beq j 47 then true else (bif Nat.beq j 50 then true else Nat.beq j 55)
def zM (gh : zGh) (t : Nat) (A : zAm) (I : qMI) (L : qML) (R : qMR) : Prop := ((∀ k, ztag (zcell A k) < 15 → k < t ∧ (qSh k).1 = ztag (zcell A k) ∧ (qSh k).2 = zlen (zcell A k) ∧ ∀ j, zSl (zkd (ztag (zcell A k)) j) (zraw (zcell A k) j) (I k j) (L k j) (R k j)) ∧ ∀ k, 16 ≤ ztag (zcell A k) → ztag (zcell A k) < 20 → k < t ∧ (qSh k).1 = ztag (zcell A k) - 6 ∧ (qSh k).2 = zlen (zcell A k) ∧ (ztag (zcell A k) < 19 → ∀ j, j < zlen (zcell A k) → zin (Nat.xor (zraw (zcell A k) 0) 2147483648) (I k j))) ∧ (∀ k, (20 ≤ ztag (zcell A k) ∨ zfr (zcell A k) = true) → I k = gh.1 k ∧ L k = gh.2.1 k ∧ R k = gh.2.2 k) ∧ ∀ k, zfp (zcell A k) = true → ∀ j, zscr j = false → I k j = gh.1 k j
abbrev zK : Type := List zX → List zX → Nat → Nat → Nat → zAm → Bool
abbrev zKr : Type := Option zX → Nat → zAm → Bool
def zgo (x : Option zX) (v : Option Value) : Prop := match x, v with
  | none, none => True
  | some x, some v => zg x v
  | _, _ => False
def zQ (gh : zGh) (K : zKr) : qQ := fun r t I L R => ∃ r' A, zgo r' r ∧ zM gh t A I L R ∧ K r' t A = true
def zMm (gh : zGh) (M : qMn) (ce sl t : Nat) (A : zAm) (I : qMI) (L : qML) (R : qMR) : Prop := zM gh t A I L R ∧ ce ≤ M.2.2.2.2.1 ∧ sl ≤ M.2.2.2.2.2
def zS (l : Launch) (G : qG) (gh : zGh) (d : Nat) (K : zKr) (M : qMn) (pc : Nat) (f : zK) : Prop := ∀ lv st ce sl t A, f lv st ce sl t A = true → ∀ lv' st' I L R, zgl lv lv' → zgs st st' → zMm gh M ce sl t A I L R → qAb l G d M (zQ gh K) pc lv' st' ce sl t I L R
/-! taking values -/
noncomputable def zp (st : List zX) (f : zX → List zX → Bool) : Bool := List.rec (motive := fun _ => Bool) false (fun x l _ => f x l) st
noncomputable def zI (x : zX) (f : Nat → Bool) : Bool := Sum.rec (motive := fun _ => Bool) f (fun _ => false) x
noncomputable def zR (x : zX) (f : Nat → Bool) : Bool := Sum.rec (motive := fun _ => Bool) (fun _ => false) (fun v => Value.rec (motive := fun _ => Bool) (fun _ => false) (fun _ => false) (fun _ => false) (fun _ => false) false f (fun _ => false) v) x
noncomputable def zJ (x : zX) (f : Int64 → Bool) : Bool := Sum.rec (motive := fun _ => Bool) (fun _ => false) (fun v => Value.rec (motive := fun _ => Bool) (fun _ => false) f (fun _ => false) (fun _ => false) false (fun _ => false) (fun _ => false) v) x
noncomputable def zF (x : zX) (f : UInt32 → Bool) : Bool := Sum.rec (motive := fun _ => Bool) (fun _ => false) (fun v => Value.rec (motive := fun _ => Bool) (fun _ => false) (fun _ => false) f (fun _ => false) false (fun _ => false) (fun _ => false) v) x
noncomputable def zV (x : zX) (f : Value → Bool) : Bool := Sum.rec (motive := fun _ => Bool) (fun _ => false) (fun v => Value.rec (motive := fun _ => Bool) (fun _ => false) (fun _ => false) (fun b => f (.float b)) (fun _ => false) (f .null) (fun a => f (.ref a)) (fun _ => false) v) x
/-- a reference as a number: 0 null -/
noncomputable def zN (x : zX) (f : Nat → Bool) : Bool := Sum.rec (motive := fun _ => Bool) (fun _ => false) (fun v => Value.rec (motive := fun _ => Bool) (fun _ => false) (fun _ => false) (fun _ => false) (fun _ => false) (f 0) (fun a => f (Nat.succ a)) (fun _ => false) v) x
noncomputable def zisL (x : zX) : Bool := Sum.rec (motive := fun _ => Bool) (fun _ => false) (fun v => Value.rec (motive := fun _ => Bool) (fun _ => false) (fun _ => true) (fun _ => false) (fun _ => true) false (fun _ => false) (fun _ => false) v) x
theorem zp_t {st : List zX} {f : zX → List zX → Bool} {st' : List Value} (h : zp st f = true) (hs : zgs st st') : ∃ x st1 v st2, st' = v :: st2 ∧ zg x v ∧ zgs st1 st2 ∧ f x st1 = true := by
  cases st with
  | nil => cases h
  | cons x st1 =>
    cases st' with
    | nil => exact hs.elim
    | cons v st2 => exact ⟨x, st1, v, st2, rfl, hs.1, hs.2, h⟩
theorem zI_t {x : zX} {f : Nat → Bool} {v : Value} (h : zI x f = true) (hg : zg x v) : ∃ c y, v = .int y ∧ zin c y ∧ f c = true := by
  cases x with
  | inl c => obtain ⟨y, e, hi⟩ := hg; exact ⟨c, y, e, hi, h⟩
  | inr w => cases h
theorem zR_t {x : zX} {f : Nat → Bool} {v : Value} (h : zR x f = true) (hg : zg x v) : ∃ a, v = .ref a ∧ f a = true := by
  cases x with
  | inl c => cases h
  | inr w =>
    cases w with
    | ref a => obtain ⟨rfl, -⟩ := hg; exact ⟨a, rfl, h⟩
    | _ => cases h
theorem zJ_t {x : zX} {f : Int64 → Bool} {v : Value} (h : zJ x f = true) (hg : zg x v) : ∃ a, v = .long a ∧ f a = true := by
  cases x with
  | inl c => cases h
  | inr w =>
    cases w with
    | long a => obtain ⟨rfl, -⟩ := hg; exact ⟨a, rfl, h⟩
    | _ => cases h
theorem zF_t {x : zX} {f : UInt32 → Bool} {v : Value} (h : zF x f = true) (hg : zg x v) : ∃ a, v = .float a ∧ f a = true := by
  cases x with
  | inl c => cases h
  | inr w =>
    cases w with
    | float a => obtain ⟨rfl, -⟩ := hg; exact ⟨a, rfl, h⟩
    | _ => cases h
theorem zV_t {x : zX} {f : Value → Bool} {v : Value} (h : zV x f = true) (hg : zg x v) : qIsV v = true ∧ zok v = true ∧ f v = true := by
  cases x with
  | inl c => cases h
  | inr w =>
    cases w with
    | float a => obtain ⟨rfl, -⟩ := hg; exact ⟨rfl, rfl, h⟩
    | null => obtain ⟨rfl, -⟩ := hg; exact ⟨rfl, rfl, h⟩
    | ref a => obtain ⟨rfl, -⟩ := hg; exact ⟨rfl, rfl, h⟩
    | _ => cases h
theorem zN_t {x : zX} {f : Nat → Bool} {v : Value} (h : zN x f = true) (hg : zg x v) : ∃ n, v = qRv (zdr n) ∧ f n = true := by
  cases x with
  | inl c => cases h
  | inr w =>
    cases w with
    | null => obtain ⟨rfl, -⟩ := hg; exact ⟨0, rfl, h⟩
    | ref a => obtain ⟨rfl, -⟩ := hg; exact ⟨a + 1, rfl, h⟩
    | _ => cases h
theorem zisL_t {x : zX} {v : Value} (h : zisL x = false) (hg : zg x v) : v.category = 1 := by
  cases x with
  | inl c => obtain ⟨y, rfl, -⟩ := hg; rfl
  | inr w =>
    cases w with
    | long a => cases h
    | double a => cases h
    | int a => obtain ⟨rfl, h2⟩ := hg; cases h2
    | retAddr a => obtain ⟨rfl, h2⟩ := hg; cases h2
    | _ => obtain ⟨rfl, h2⟩ := hg; rfl
theorem zisL_l {x : zX} {v : Value} (h : zisL x = true) (hg : zg x v) : ∃ y, v = .long y := by
  cases x with
  | inl c => cases h
  | inr w =>
    cases w with
    | long a => obtain ⟨rfl, -⟩ := hg; exact ⟨a, rfl⟩
    | double a => exact hg
    | _ => cases h
theorem zisL_nd {x : zX} (h : zisL x = true) : x ≠ zdum := fun e => by subst e; cases h
noncomputable def zpI (st : List zX) (f : Nat → List zX → Bool) : Bool := zp st (fun x l => zI x (fun c => f c l))
noncomputable def zpR (st : List zX) (f : Nat → List zX → Bool) : Bool := zp st (fun x l => zR x (fun c => f c l))
noncomputable def zpF (st : List zX) (f : UInt32 → List zX → Bool) : Bool := zp st (fun x l => zF x (fun c => f c l))
theorem zpI_t {st : List zX} {f : Nat → List zX → Bool} {st' : List Value} (h : zpI st f = true) (hs : zgs st st') : ∃ c st1 x st2, st' = .int x :: st2 ∧ zin c x ∧ zgs st1 st2 ∧ f c st1 = true := by
  obtain ⟨x, st1, v, st2, rfl, h1, h2, h3⟩ := zp_t h hs
  obtain ⟨c, y, rfl, h4, h5⟩ := zI_t h3 h1
  exact ⟨c, st1, y, st2, rfl, h4, h2, h5⟩
theorem zpR_t {st : List zX} {f : Nat → List zX → Bool} {st' : List Value} (h : zpR st f = true) (hs : zgs st st') : ∃ a st1 st2, st' = .ref a :: st2 ∧ zgs st1 st2 ∧ f a st1 = true := by
  obtain ⟨x, st1, v, st2, rfl, h1, h2, h3⟩ := zp_t h hs
  obtain ⟨c, rfl, h5⟩ := zR_t h3 h1
  exact ⟨c, st1, st2, rfl, h2, h5⟩
theorem zpF_t {st : List zX} {f : UInt32 → List zX → Bool} {st' : List Value} (h : zpF st f = true) (hs : zgs st st') : ∃ a st1 st2, st' = .float a :: st2 ∧ zgs st1 st2 ∧ f a st1 = true := by
  obtain ⟨x, st1, v, st2, rfl, h1, h2, h3⟩ := zp_t h hs
  obtain ⟨c, rfl, h5⟩ := zF_t h3 h1
  exact ⟨c, st1, st2, rfl, h2, h5⟩
theorem zand {a b : Bool} (h : (bif a then b else false) = true) : a = true ∧ b = true := by
  cases a with
  | false => cases h
  | true => exact ⟨rfl, h⟩
/-! locals -/
noncomputable def zst (lv : List zX) (i : Nat) (x : zX) : List zX := bif zisL (zn zdum lv (Nat.sub i 1)) then zs zdum (zs zdum lv (Nat.sub i 1) zdum) i x else zs zdum lv i x
theorem qLk_dr {i j : Nat} {w : Value} : ∀ {lv : qLv}, qLk j lv = some w → j ≠ i → (j + 1 = i → w.category ≠ 2) → qLk j (qDr i lv) = some w
  | [], h, _, _ => by cases h
  | (a, v) :: lv, h, hj, hc => by
    unfold qLk at h
    unfold qDr
    by_cases ha : a = j
    · rw [if_pos ha] at h
      cases h
      subst ha
      rw [if_neg hj]
      by_cases h2 : a + 1 = i
      · rw [if_pos h2, if_neg (hc h2)]
        unfold qLk
        rw [if_pos rfl]
      · rw [if_neg h2]
        unfold qLk
        rw [if_pos rfl]
    · rw [if_neg ha] at h
      have ih := qLk_dr h hj hc
      by_cases h1 : a = i
      · rw [if_pos h1]
        exact ih
      · rw [if_neg h1]
        by_cases h2 : a + 1 = i
        · rw [if_pos h2]
          by_cases h3 : v.category = 2
          · rw [if_pos h3]
            exact ih
          · rw [if_neg h3]
            unfold qLk
            rw [if_neg ha]
            exact ih
        · rw [if_neg h2]
          unfold qLk
          rw [if_neg ha]
          exact ih
theorem qLk_dr2 {i j : Nat} {w : Value} : ∀ {lv : qLv}, qLk j lv = some w → j ≠ i + 1 → qLk j (qDr2 i lv) = some w
  | [], h, _ => by cases h
  | (a, v) :: lv, h, hj => by
    unfold qLk at h
    unfold qDr2
    by_cases ha : a = j
    · rw [if_pos ha] at h
      cases h
      subst ha
      rw [if_neg hj]
      unfold qLk
      rw [if_pos rfl]
    · rw [if_neg ha] at h
      have ih := qLk_dr2 h hj
      by_cases h1 : a = i + 1
      · rw [if_pos h1]
        exact ih
      · rw [if_neg h1]
        unfold qLk
        rw [if_neg ha]
        exact ih
theorem zn_zst (lv : List zX) (i : Nat) (x : zX) (j : Nat) : zn zdum (zst lv i x) j = if j = i then x else if zisL (zn zdum lv (i - 1)) = true ∧ j = i - 1 then zdum else zn zdum lv j := by
  unfold zst
  rw [zsub_e]
  cases h : zisL (zn zdum lv (i - 1)) with
  | false =>
    rw [cond_false, zn_zs]
    by_cases hj : j = i
    · rw [if_pos hj, if_pos hj]
    · rw [if_neg hj, if_neg hj, if_neg (fun e => by cases e.1)]
  | true =>
    rw [cond_true, zn_zs]
    by_cases hj : j = i
    · rw [if_pos hj, if_pos hj]
    · rw [if_neg hj, if_neg hj, zn_zs]
      by_cases h2 : j = i - 1
      · rw [if_pos h2, if_pos ⟨rfl, h2⟩]
      · rw [if_neg h2, if_neg (fun e => h2 e.2)]
theorem zgl_st {lv : List zX} {lv' : qLv} {i : Nat} {x : zX} {v : Value} (h : zgl lv lv') (hg : zg x v) : zgl (zst lv i x) ((i, v) :: qDr i lv') := by
  intro j
  rw [zn_zst]
  by_cases hj : j = i
  · rw [if_pos hj]
    refine Or.inr ⟨v, ?_, hg⟩
    subst hj
    unfold qLk
    rw [if_pos rfl]
  · rw [if_neg hj]
    by_cases h2 : zisL (zn zdum lv (i - 1)) = true ∧ j = i - 1
    · rw [if_pos h2]
      exact Or.inl rfl
    · rw [if_neg h2]
      rcases h j with h3 | ⟨w, h3, h4⟩
      · exact Or.inl h3
      · refine Or.inr ⟨w, ?_, h4⟩
        unfold qLk
        rw [if_neg (fun e => hj e.symm)]
        refine qLk_dr h3 hj (fun e => ?_)
        have e1 : j = i - 1 := by omega
        have e2 : zisL (zn zdum lv j) = false := by
          cases hq : zisL (zn zdum lv j) with
          | false => rfl
          | true => exact absurd ⟨by rw [← e1]; exact hq, e1⟩ h2
        rw [zisL_t e2 h4]
        decide
theorem zgl_st2 {lv : List zX} {lv' : qLv} {i : Nat} {x : zX} {v : Value} (h : zgl lv lv') (hg : zg x v) : zgl (zst (zs zdum lv (Nat.add i 1) zdum) i x) ((i, v) :: qDr i (qDr2 i lv')) := by
  refine zgl_st (fun j => ?_) hg
  rw [zn_zs]
  by_cases hj : j = Nat.add i 1
  · rw [if_pos hj]
    exact Or.inl rfl
  · rw [if_neg hj]
    rcases h j with h3 | ⟨w, h3, h4⟩
    · exact Or.inl h3
    · exact Or.inr ⟨w, qLk_dr2 h3 hj, h4⟩
theorem zgl_get {lv : List zX} {lv' : qLv} {i : Nat} (h : zgl lv lv') (hn : zn zdum lv i ≠ zdum) : ∃ v, qLk i lv' = some v ∧ zg (zn zdum lv i) v := (h i).resolve_left hn
theorem zI_nd {x : zX} {f : Nat → Bool} (h : zI x f = true) : x ≠ zdum := fun e => by subst e; cases h
theorem zV_nd {x : zX} {f : Value → Bool} (h : zV x f = true) : x ≠ zdum := fun e => by subst e; cases h
noncomputable def zcat (st : List zX) : Nat := List.rec (motive := fun _ => Nat) 0 (fun x _ ih => bif zisL x then Nat.add ih 2 else Nat.add ih 1) st
theorem zcat_t : ∀ {st : List zX} {st' : List Value}, zgs st st' → qCat st' = zcat st
  | [], [], _ => rfl
  | x :: l, v :: m, h => by
    have ih := zcat_t h.2
    have e1 : qCat (v :: m) = v.category + qCat m := rfl
    have e2 : zcat (x :: l) = bif zisL x then zcat l + 2 else zcat l + 1 := rfl
    rw [e1, e2, ih]
    cases hx : zisL x with
    | false => rw [zisL_t hx h.1, cond_false]; omega
    | true =>
      have : v.category = 2 := by
        obtain ⟨y, rfl⟩ := zisL_l hx h.1
        rfl
      rw [this, cond_true]
      omega
  | [], _ :: _, h => h.elim
  | _ :: _, [], h => h.elim
section ZS
variable {l : Launch} {G : qG} {gh : zGh} {d : Nat} {K : zKr} {M : qMn} {pc : Nat} {k kt kf : zK}
/-! ===== steps ===== -/
def oFail : zK := fun _ _ _ _ _ _ => false
theorem z_fail : zS l G gh d K M pc oFail := fun _ _ _ _ _ _ h => by cases h
def oInt (c : Nat) (k : zK) : zK := fun lv st ce sl t A => k lv (.inl c :: st) ce sl t A
theorem z_iconst {n : Int} {c : Nat} (hd : decode M.2.1 pc = .ok (.iconst n, 1)) (hc : zb (Int32.ofInt n) = c) (hk : zS l G gh d K M (pc + 1) k) : zS l G gh d K M pc (oInt c k) := fun lv st ce sl t A h lv' st' I L R hl hs hm => q_iconst hd rfl (hk lv _ ce sl t A h lv' _ I L R hl ⟨⟨_, rfl, zin_eq hc⟩, hs⟩ hm)
theorem z_bipush {n : Int} {c : Nat} (hd : decode M.2.1 pc = .ok (.bipush n, 2)) (hc : zb ((Int8.ofInt n).toInt32) = c) (hk : zS l G gh d K M (pc + 2) k) : zS l G gh d K M pc (oInt c k) := fun lv st ce sl t A h lv' st' I L R hl hs hm => q_bipush hd rfl (hk lv _ ce sl t A h lv' _ I L R hl ⟨⟨_, rfl, zin_eq hc⟩, hs⟩ hm)
theorem z_sipush {n : Int} {c : Nat} (hd : decode M.2.1 pc = .ok (.sipush n, 3)) (hc : zb ((Int16.ofInt n).toInt32) = c) (hk : zS l G gh d K M (pc + 3) k) : zS l G gh d K M pc (oInt c k) := fun lv st ce sl t A h lv' st' I L R hl hs hm => q_sipush hd rfl (hk lv _ ce sl t A h lv' _ I L R hl ⟨⟨_, rfl, zin_eq hc⟩, hs⟩ hm)
def oLng (x : Int64) (k : zK) : zK := fun lv st ce sl t A => k lv (.inr (.long x) :: st) ce sl t A
theorem z_lconst {n : Fin 2} {x : Int64} (hd : decode M.2.1 pc = .ok (.lconst n, 1)) (hc : Int64.ofNat (n : Nat) = x) (hk : zS l G gh d K M (pc + 1) k) : zS l G gh d K M pc (oLng x k) := fun lv st ce sl t A h lv' st' I L R hl hs hm => q_lconst hd hc (hk lv _ ce sl t A h lv' _ I L R hl ⟨⟨rfl, rfl⟩, hs⟩ hm)
theorem z_ldc2 {n : Nat} {x : Int64} (hd : decode M.2.1 pc = .ok (.ldc2_w n, 3)) (hw : Cond.constantLong M.1.cls n x ∈ gw) (hk : zS l G gh d K M (pc + 3) k) : zS l G gh d K M pc (oLng x k) := fun lv st ce sl t A h lv' st' I L R hl hs hm => q_ldc2 hd hw (hk lv _ ce sl t A h lv' _ I L R hl ⟨⟨rfl, rfl⟩, hs⟩ hm)
noncomputable def oIld (i : Nat) (k : zK) : zK := fun lv st ce sl t A => zI (zn zdum lv i) (fun c => k lv (.inl c :: st) ce sl t A)
noncomputable def oLld (i : Nat) (k : zK) : zK := fun lv st ce sl t A => bif zisL (zn zdum lv i) then k lv (zn zdum lv i :: st) ce sl t A else false
noncomputable def oAld (i : Nat) (k : zK) : zK := fun lv st ce sl t A => zV (zn zdum lv i) (fun c => k lv (.inr c :: st) ce sl t A)
theorem z_iload_n {n : Fin 4} {i : Nat} (hd : decode M.2.1 pc = .ok (.iload_n n, 1)) (hi : (n : Nat) = i) (hk : zS l G gh d K M (pc + 1) k) : zS l G gh d K M pc (oIld i k) := by
  intro lv st ce sl t A h lv' st' I L R hl hs hm
  obtain ⟨v, h1, h2⟩ := zgl_get hl (zI_nd h)
  obtain ⟨c, y, rfl, h3, h4⟩ := zI_t h h2
  exact q_iload_n hd hi h1 (hk lv _ ce sl t A h4 lv' _ I L R hl ⟨⟨_, rfl, h3⟩, hs⟩ hm)
theorem z_iload {i : Nat} (hd : decode M.2.1 pc = .ok (.iload i, 2)) (hk : zS l G gh d K M (pc + 2) k) : zS l G gh d K M pc (oIld i k) := by
  intro lv st ce sl t A h lv' st' I L R hl hs hm
  obtain ⟨v, h1, h2⟩ := zgl_get hl (zI_nd h)
  obtain ⟨c, y, rfl, h3, h4⟩ := zI_t h h2
  exact q_iload hd h1 (hk lv _ ce sl t A h4 lv' _ I L R hl ⟨⟨_, rfl, h3⟩, hs⟩ hm)
theorem z_lload_n {n : Fin 4} {i : Nat} (hd : decode M.2.1 pc = .ok (.lload_n n, 1)) (hi : (n : Nat) = i) (hk : zS l G gh d K M (pc + 1) k) : zS l G gh d K M pc (oLld i k) := by
  intro lv st ce sl t A h lv' st' I L R hl hs hm
  obtain ⟨h3, h4⟩ := zand h
  obtain ⟨v, h1, h2⟩ := zgl_get hl (zisL_nd h3)
  obtain ⟨c, rfl⟩ := zisL_l h3 h2
  exact q_lload_n hd hi h1 (hk lv _ ce sl t A h4 lv' _ I L R hl ⟨h2, hs⟩ hm)
theorem z_aload_n {n : Fin 4} {i : Nat} (hd : decode M.2.1 pc = .ok (.aload_n n, 1)) (hi : (n : Nat) = i) (hk : zS l G gh d K M (pc + 1) k) : zS l G gh d K M pc (oAld i k) := by
  intro lv st ce sl t A h lv' st' I L R hl hs hm
  obtain ⟨v, h1, h2⟩ := zgl_get hl (zV_nd h)
  obtain ⟨h3, h4, h5⟩ := zV_t h h2
  exact q_aload_n hd hi h1 h3 (hk lv _ ce sl t A h5 lv' _ I L R hl ⟨zgv_self h3, hs⟩ hm)
noncomputable def oIst (i : Nat) (k : zK) : zK := fun lv st ce sl t A => zpI st (fun c st => k (zst lv i (.inl c)) st ce sl t A)
noncomputable def oLst (i : Nat) (k : zK) : zK := fun lv st ce sl t A => zp st (fun c st => bif zisL c then k (zst (zs zdum lv (Nat.add i 1) zdum) i c) st ce sl t A else false)
noncomputable def oAst (i : Nat) (k : zK) : zK := fun lv st ce sl t A => zpR st (fun c st => k (zst lv i (.inr (.ref c))) st ce sl t A)
theorem z_istore_n {n : Fin 4} {i : Nat} (hd : decode M.2.1 pc = .ok (.istore_n n, 1)) (hi : (n : Nat) = i) (hn : i < M.2.2.1) (hk : zS l G gh d K M (pc + 1) k) : zS l G gh d K M pc (oIst i k) := by
  intro lv st ce sl t A h lv' st' I L R hl hs hm
  obtain ⟨c, st1, x, st2, rfl, h1, h2, h3⟩ := zpI_t h hs
  exact q_istore_n hd hi hn (hk _ st1 ce sl t A h3 _ st2 I L R (zgl_st hl ⟨x, rfl, h1⟩) h2 hm)
theorem z_istore {i : Nat} (hd : decode M.2.1 pc = .ok (.istore i, 2)) (hn : i < M.2.2.1) (hk : zS l G gh d K M (pc + 2) k) : zS l G gh d K M pc (oIst i k) := by
  intro lv st ce sl t A h lv' st' I L R hl hs hm
  obtain ⟨c, st1, x, st2, rfl, h1, h2, h3⟩ := zpI_t h hs
  exact q_istore hd hn (hk _ st1 ce sl t A h3 _ st2 I L R (zgl_st hl ⟨x, rfl, h1⟩) h2 hm)
theorem z_lstore_n {n : Fin 4} {i : Nat} (hd : decode M.2.1 pc = .ok (.lstore_n n, 1)) (hi : (n : Nat) = i) (hn : i + 1 < M.2.2.1) (hk : zS l G gh d K M (pc + 1) k) : zS l G gh d K M pc (oLst i k) := by
  intro lv st ce sl t A h lv' st' I L R hl hs hm
  obtain ⟨c, st1, v, st2, rfl, h1, h2, h3⟩ := zp_t h hs
  obtain ⟨h4, h5⟩ := zand h3
  obtain ⟨y, rfl⟩ := zisL_l h4 h1
  exact q_lstore_n hd hi hn (hk _ st1 ce sl t A h5 _ st2 I L R (zgl_st2 hl h1) h2 hm)
theorem z_astore_n {n : Fin 4} {i : Nat} (hd : decode M.2.1 pc = .ok (.astore_n n, 1)) (hi : (n : Nat) = i) (hn : i < M.2.2.1) (hk : zS l G gh d K M (pc + 1) k) : zS l G gh d K M pc (oAst i k) := by
  intro lv st ce sl t A h lv' st' I L R hl hs hm
  obtain ⟨c, st1, st2, rfl, h2, h3⟩ := zpR_t h hs
  exact q_astore_n hd hi hn (hk _ st1 ce sl t A h3 _ st2 I L R (zgl_st hl ⟨rfl, rfl⟩) h2 hm)
noncomputable def oInc (i c : Nat) (k : zK) : zK := fun lv st ce sl t A => zI (zn zdum lv i) (fun a => k (zst lv i (.inl (zadd a c))) st ce sl t A)
theorem z_iinc {i c : Nat} {n : Int} (hd : decode M.2.1 pc = .ok (.iinc i n, 3)) (hc : zb (Int32.ofInt n) = c) (hn : i < M.2.2.1) (hk : zS l G gh d K M (pc + 3) k) : zS l G gh d K M pc (oInc i c k) := by
  intro lv st ce sl t A h lv' st' I L R hl hs hm
  obtain ⟨v, h1, h2⟩ := zgl_get hl (zI_nd h)
  obtain ⟨a, y, rfl, h3, h4⟩ := zI_t h h2
  exact q_iinc hd h1 rfl hn (hk _ st ce sl t A h4 _ st' I L R (zgl_st hl ⟨_, rfl, zadd_in h3 (zin_eq hc)⟩) hs hm)
noncomputable def oB2 (f : Nat → Nat → Nat) (k : zK) : zK := fun lv st ce sl t A => zpI st (fun b st => zpI st (fun a st => k lv (.inl (f a b) :: st) ce sl t A))
theorem z_iadd (hd : decode M.2.1 pc = .ok (.iadd, 1)) (hk : zS l G gh d K M (pc + 1) k) : zS l G gh d K M pc (oB2 zadd k) := by
  intro lv st ce sl t A h lv' st' I L R hl hs hm
  obtain ⟨b, st1, y, st2, rfl, h1, h2, h3⟩ := zpI_t h hs
  obtain ⟨a, st3, x, st4, rfl, h4, h5, h6⟩ := zpI_t h3 h2
  exact q_iadd hd (hk lv _ ce sl t A h6 lv' _ I L R hl ⟨⟨_, rfl, zadd_in h4 h1⟩, h5⟩ hm)
theorem z_isub (hd : decode M.2.1 pc = .ok (.isub, 1)) (hk : zS l G gh d K M (pc + 1) k) : zS l G gh d K M pc (oB2 zsub k) := by
  intro lv st ce sl t A h lv' st' I L R hl hs hm
  obtain ⟨b, st1, y, st2, rfl, h1, h2, h3⟩ := zpI_t h hs
  obtain ⟨a, st3, x, st4, rfl, h4, h5, h6⟩ := zpI_t h3 h2
  exact q_isub hd (hk lv _ ce sl t A h6 lv' _ I L R hl ⟨⟨_, rfl, zsub_in h4 h1⟩, h5⟩ hm)
def zmulc (a b : Nat) : Bool := bif Nat.ble 2147483648 (zlo a) then (bif Nat.ble 2147483648 (zlo b) then Nat.ble (Nat.mul (Nat.sub (zhi a) 2147483648) (Nat.sub (zhi b) 2147483648)) 2147483647 else false) else false
def zimul (a b : Nat) : Nat := bif (bif zk a then zk b else false) then zop2 (fun x y => x * y) a b else (bif zmulc a b then zmkc (Nat.add (Nat.mul (Nat.sub (zlo a) 2147483648) (Nat.sub (zlo b) 2147483648)) 2147483648) (Nat.add (Nat.mul (Nat.sub (zhi a) 2147483648) (Nat.sub (zhi b) 2147483648)) 2147483648) else ztop)
theorem zmul_e (a b : Nat) : Nat.mul a b = a * b := rfl
theorem zimul_in {a b : Nat} {x y : Int32} (h : zin a x) (hy : zin b y) : zin (zimul a b) (x * y) := by
  unfold zimul
  cases h1 : (bif zk a then zk b else false) with
  | true => rw [cond_true]; exact zop2_in (f := fun x y => x * y) h hy
  | false =>
    rw [cond_false]
    cases h2 : zmulc a b with
    | false => exact zin_top _
    | true =>
      rw [cond_true]
      unfold zmulc at h2
      cases h3 : Nat.ble 2147483648 (zlo a) with
      | false => rw [h3] at h2; cases h2
      | true =>
        rw [h3, cond_true] at h2
        cases h4 : Nat.ble 2147483648 (zlo b) with
        | false => rw [h4] at h2; cases h2
        | true =>
          rw [h4, cond_true] at h2
          have e1 := Nat.le_of_ble_eq_true h3
          have e2 := Nat.le_of_ble_eq_true h4
          have e3 := Nat.le_of_ble_eq_true h2
          obtain ⟨a1, a2⟩ := h
          obtain ⟨b1, b2⟩ := hy
          have f1 := zb_int x
          have f2 := zb_int y
          have f3 := zb_int (x * y)
          simp only [zadd_e, zsub_e, zmul_e] at e3 ⊢
          obtain ⟨p, hp⟩ : ∃ p, p = zb x - 2147483648 := ⟨_, rfl⟩
          obtain ⟨q, hq⟩ : ∃ q, q = zb y - 2147483648 := ⟨_, rfl⟩
          obtain ⟨u1, hu1⟩ : ∃ u, u = zlo a - 2147483648 := ⟨_, rfl⟩
          obtain ⟨u2, hu2⟩ : ∃ u, u = zhi a - 2147483648 := ⟨_, rfl⟩
          obtain ⟨v1, hv1⟩ : ∃ u, u = zlo b - 2147483648 := ⟨_, rfl⟩
          obtain ⟨v2, hv2⟩ : ∃ u, u = zhi b - 2147483648 := ⟨_, rfl⟩
          rw [← hu2, ← hv2] at e3
          rw [← hu1, ← hu2, ← hv1, ← hv2]
          have m1 : u1 * v1 ≤ p * q := Nat.mul_le_mul (by omega) (by omega)
          have m2 : p * q ≤ u2 * v2 := Nat.mul_le_mul (by omega) (by omega)
          have g := zmuln (x := x) (y := y) (p := p) (q := q) (by omega) (by omega) (by omega)
          rw [g] at f3
          exact zmkc_in (by omega) (by omega) (by omega)
theorem z_imul (hd : decode M.2.1 pc = .ok (.imul, 1)) (hk : zS l G gh d K M (pc + 1) k) : zS l G gh d K M pc (oB2 zimul k) := by
  intro lv st ce sl t A h lv' st' I L R hl hs hm
  obtain ⟨b, st1, y, st2, rfl, h1, h2, h3⟩ := zpI_t h hs
  obtain ⟨a, st3, x, st4, rfl, h4, h5, h6⟩ := zpI_t h3 h2
  exact q_imul hd (hk lv _ ce sl t A h6 lv' _ I L R hl ⟨⟨_, rfl, zimul_in h4 h1⟩, h5⟩ hm)
theorem zand_le {x y : Int32} (hy : 2147483648 ≤ zb y) : 2147483648 ≤ zb (x &&& y) ∧ zb (x &&& y) ≤ zb y := by
  have e1 := zb_int y
  have e2 := zb_int (x &&& y)
  have hn : ∀ z : Int32, z.toInt = z.toBitVec.toInt := fun _ => rfl
  have h1 : (x &&& y).toBitVec = x.toBitVec &&& y.toBitVec := rfl
  have h2 : (x.toBitVec &&& y.toBitVec).toNat ≤ y.toBitVec.toNat := by
    rw [BitVec.toNat_and]
    exact Nat.and_le_right
  have h3 : y.toBitVec.toNat < 2 ^ 31 := by
    have h4 : 0 ≤ y.toBitVec.toInt := by rw [← hn]; omega
    rw [BitVec.toInt_eq_toNat_cond] at h4
    have h5 := y.toBitVec.isLt
    split at h4 <;> omega
  have t1 : y.toInt = (y.toBitVec.toNat : Int) := by
    rw [hn, BitVec.toInt_eq_toNat_cond, if_pos (by omega)]
  have t2 : (x &&& y).toInt = ((x.toBitVec &&& y.toBitVec).toNat : Int) := by
    rw [hn, h1, BitVec.toInt_eq_toNat_cond, if_pos (by omega)]
  omega
def ziand (a b : Nat) : Nat := bif zk a then zop2 (fun x y => x &&& y) a b else (bif zk b then (bif Nat.ble 2147483648 b then zmkc 2147483648 b else ztop) else ztop)
theorem ziand_in {a b : Nat} {x y : Int32} (h : zin a x) (hy : zin b y) : zin (ziand a b) (x &&& y) := by
  unfold ziand
  cases h0 : zk a with
  | true => rw [cond_true]; exact zop2_in (f := fun x y => x &&& y) h hy
  | false =>
    rw [cond_false]
    cases h1 : zk b with
    | false => exact zin_top _
    | true =>
      rw [cond_true]
      cases h2 : Nat.ble 2147483648 b with
      | false => exact zin_top _
      | true =>
        have e := zk_in h1 hy
        have h3 := Nat.le_of_ble_eq_true h2
        obtain ⟨g1, g2⟩ := zand_le (x := x) (y := y) (by omega)
        rw [cond_true]
        have h4 := zb_lt y
        exact zmkc_in (by omega) g1 (by omega)
theorem z_iand (hd : decode M.2.1 pc = .ok (.iand, 1)) (hk : zS l G gh d K M (pc + 1) k) : zS l G gh d K M pc (oB2 ziand k) := by
  intro lv st ce sl t A h lv' st' I L R hl hs hm
  obtain ⟨b, st1, y, st2, rfl, h1, h2, h3⟩ := zpI_t h hs
  obtain ⟨a, st3, x, st4, rfl, h4, h5, h6⟩ := zpI_t h3 h2
  exact q_iand hd (hk lv _ ce sl t A h6 lv' _ I L R hl ⟨⟨_, rfl, ziand_in h4 h1⟩, h5⟩ hm)
def zishr : Nat → Nat → Nat := zop2 (fun x y => x >>> (y &&& 31))
theorem z_ishr (hd : decode M.2.1 pc = .ok (.ishr, 1)) (hk : zS l G gh d K M (pc + 1) k) : zS l G gh d K M pc (oB2 zishr k) := by
  intro lv st ce sl t A h lv' st' I L R hl hs hm
  obtain ⟨b, st1, y, st2, rfl, h1, h2, h3⟩ := zpI_t h hs
  obtain ⟨a, st3, x, st4, rfl, h4, h5, h6⟩ := zpI_t h3 h2
  exact q_ishr hd (hk lv _ ce sl t A h6 lv' _ I L R hl ⟨⟨_, rfl, zop2_in (f := fun x y => x >>> (y &&& 31)) h4 h1⟩, h5⟩ hm)
noncomputable def oU (f : Nat → Nat) (k : zK) : zK := fun lv st ce sl t A => zpI st (fun a st => k lv (.inl (f a) :: st) ce sl t A)
def zi2b : Nat → Nat := zop1 (fun x => x.toInt8.toInt32)
theorem z_i2b (hd : decode M.2.1 pc = .ok (.i2b, 1)) (hk : zS l G gh d K M (pc + 1) k) : zS l G gh d K M pc (oU zi2b k) := by
  intro lv st ce sl t A h lv' st' I L R hl hs hm
  obtain ⟨a, st1, x, st2, rfl, h1, h2, h3⟩ := zpI_t h hs
  exact q_i2b hd (hk lv _ ce sl t A h3 lv' _ I L R hl ⟨⟨_, rfl, zop1_in (f := fun x => x.toInt8.toInt32) h1⟩, h2⟩ hm)
def zi2c : Nat → Nat := zop1 (fun x => (x.toUInt32 % 65536).toInt32)
theorem z_i2c (hd : decode M.2.1 pc = .ok (.i2c, 1)) (hk : zS l G gh d K M (pc + 1) k) : zS l G gh d K M pc (oU zi2c k) := by
  intro lv st ce sl t A h lv' st' I L R hl hs hm
  obtain ⟨a, st1, x, st2, rfl, h1, h2, h3⟩ := zpI_t h hs
  exact q_i2c hd (hk lv _ ce sl t A h3 lv' _ I L R hl ⟨⟨_, rfl, zop1_in (f := fun x => (x.toUInt32 % 65536).toInt32) h1⟩, h2⟩ hm)
noncomputable def oI2l (k : zK) : zK := fun lv st ce sl t A => zpI st (fun a st => bif zk a then k lv (.inr (.long (zc a).toInt64) :: st) ce sl t A else k lv (.inr (.double 0) :: st) ce sl t A)
theorem z_i2l (hd : decode M.2.1 pc = .ok (.i2l, 1)) (hk : zS l G gh d K M (pc + 1) k) : zS l G gh d K M pc (oI2l k) := by
  intro lv st ce sl t A h lv' st' I L R hl hs hm
  obtain ⟨a, st1, x, st2, rfl, h1, h2, h3⟩ := zpI_t h hs
  have h3 : (bif zk a then k lv (.inr (.long (zc a).toInt64) :: st1) ce sl t A else k lv (.inr (.double 0) :: st1) ce sl t A) = true := h3
  cases h4 : zk a with
  | false =>
    rw [h4, cond_false] at h3
    exact q_i2l hd (hk lv _ ce sl t A h3 lv' _ I L R hl ⟨⟨_, rfl⟩, h2⟩ hm)
  | true =>
  rw [h4, cond_true] at h3
  have h5 := h3
  have e := zk_in h4 h1
  subst e
  rw [zc_zb] at h5
  exact q_i2l hd (hk lv _ ce sl t A h5 lv' _ I L R hl ⟨⟨rfl, rfl⟩, h2⟩ hm)
noncomputable def zJ1 (x : zX) (f : Int64 → zX) : zX := Sum.rec (motive := fun _ => zX) (fun _ => .inr (.double 0)) (fun v => Value.rec (motive := fun _ => zX) (fun _ => .inr (.double 0)) f (fun _ => .inr (.double 0)) (fun _ => .inr (.double 0)) (.inr (.double 0)) (fun _ => .inr (.double 0)) (fun _ => .inr (.double 0)) v) x
theorem zJ1_t {x : zX} {f : Int64 → zX} {y z : Int64} (hg : zg x (.long y)) (hf : zg (f y) (.long z)) : zg (zJ1 x f) (.long z) := by
  cases x with
  | inl c => obtain ⟨q, e, -⟩ := hg; cases e
  | inr w =>
    cases w with
    | long a => obtain ⟨e, -⟩ := hg; cases e; exact hf
    | _ => exact ⟨z, rfl⟩
noncomputable def oJ2 (f : Int64 → Int64 → Int64) (k : zK) : zK := fun lv st ce sl t A => zp st (fun b st => zp st (fun a st => bif zisL b then (bif zisL a then k lv (zJ1 a (fun x => zJ1 b (fun y => .inr (.long (f x y)))) :: st) ce sl t A else false) else false))
theorem z_ladd (hd : decode M.2.1 pc = .ok (.ladd, 1)) (hk : zS l G gh d K M (pc + 1) k) : zS l G gh d K M pc (oJ2 Int64.add k) := by
  intro lv st ce sl t A h lv' st' I L R hl hs hm
  obtain ⟨b, st1, v, st2, rfl, h1, h2, h3⟩ := zp_t h hs
  obtain ⟨a, st3, v2, st4, rfl, h4, h5, h6⟩ := zp_t h3 h2
  obtain ⟨h7, h8⟩ := zand h6
  obtain ⟨h9, h10⟩ := zand h8
  obtain ⟨y, rfl⟩ := zisL_l h7 h1
  obtain ⟨x, rfl⟩ := zisL_l h9 h4
  exact q_ladd hd (hk lv _ ce sl t A h10 lv' _ I L R hl ⟨zJ1_t h4 (zJ1_t h1 ⟨rfl, rfl⟩), h5⟩ hm)
theorem z_lmul (hd : decode M.2.1 pc = .ok (.lmul, 1)) (hk : zS l G gh d K M (pc + 1) k) : zS l G gh d K M pc (oJ2 Int64.mul k) := by
  intro lv st ce sl t A h lv' st' I L R hl hs hm
  obtain ⟨b, st1, v, st2, rfl, h1, h2, h3⟩ := zp_t h hs
  obtain ⟨a, st3, v2, st4, rfl, h4, h5, h6⟩ := zp_t h3 h2
  obtain ⟨h7, h8⟩ := zand h6
  obtain ⟨h9, h10⟩ := zand h8
  obtain ⟨y, rfl⟩ := zisL_l h7 h1
  obtain ⟨x, rfl⟩ := zisL_l h9 h4
  exact q_lmul hd (hk lv _ ce sl t A h10 lv' _ I L R hl ⟨zJ1_t h4 (zJ1_t h1 ⟨rfl, rfl⟩), h5⟩ hm)
noncomputable def oDup (k : zK) : zK := fun lv st ce sl t A => zp st (fun x st => bif zisL x then false else k lv (x :: x :: st) ce sl t A)
theorem znot {a b : Bool} (h : (bif a then false else b) = true) : a = false ∧ b = true := by
  cases a with
  | true => cases h
  | false => exact ⟨rfl, h⟩
theorem z_dup (hd : decode M.2.1 pc = .ok (.dup, 1)) (hk : zS l G gh d K M (pc + 1) k) : zS l G gh d K M pc (oDup k) := by
  intro lv st ce sl t A h lv' st' I L R hl hs hm
  obtain ⟨x, st1, v, st2, rfl, h1, h2, h3⟩ := zp_t h hs
  obtain ⟨h4, h5⟩ := znot h3
  exact q_dup hd (zisL_t h4 h1) (hk lv _ ce sl t A h5 lv' _ I L R hl ⟨h1, h1, h2⟩ hm)
noncomputable def oPop (k : zK) : zK := fun lv st ce sl t A => zp st (fun x st => bif zisL x then false else k lv st ce sl t A)
theorem z_pop (hd : decode M.2.1 pc = .ok (.pop, 1)) (hk : zS l G gh d K M (pc + 1) k) : zS l G gh d K M pc (oPop k) := by
  intro lv st ce sl t A h lv' st' I L R hl hs hm
  obtain ⟨x, st1, v, st2, rfl, h1, h2, h3⟩ := zp_t h hs
  obtain ⟨h4, h5⟩ := znot h3
  exact q_pop hd (zisL_t h4 h1) (hk lv _ ce sl t A h5 lv' _ I L R hl h2 hm)
/-! branches: surely so, surely not, or both ways -/
def zlt (a b : Nat) : Bool := Nat.ble (Nat.succ (zhi a)) (zlo b)
def zle (a b : Nat) : Bool := Nat.ble (zhi a) (zlo b)
def zeq (a b : Nat) : Bool := bif Nat.beq a b then zk a else false
def zne (a b : Nat) : Bool := bif zlt a b then true else zlt b a
theorem zlt_t {a b : Nat} {x y : Int32} (h : zlt a b = true) (hx : zin a x) (hy : zin b y) : x < y := by
  have := Nat.le_of_ble_eq_true h
  have h1 := hx.2
  have h2 := hy.1
  exact zlt_iff.mpr (by omega)
theorem zle_t {a b : Nat} {x y : Int32} (h : zle a b = true) (hx : zin a x) (hy : zin b y) : x ≤ y := by
  have := Nat.le_of_ble_eq_true h
  have h1 := hx.2
  have h2 := hy.1
  exact zle_iff.mpr (by omega)
theorem zeq_t {a b : Nat} {x y : Int32} (h : zeq a b = true) (hx : zin a x) (hy : zin b y) : x = y := by
  obtain ⟨h1, h2⟩ := zand h
  have e := Nat.eq_of_beq_eq_true h1
  subst e
  exact zb_inj ((zk_in h2 hx).trans (zk_in h2 hy).symm)
theorem zne_t {a b : Nat} {x y : Int32} (h : zne a b = true) (hx : zin a x) (hy : zin b y) : ¬ x = y := by
  intro e
  subst e
  unfold zne at h
  cases hb : zlt a b with
  | true => have := zlt_iff.mp (zlt_t hb hx hy); omega
  | false =>
    rw [hb, cond_false] at h
    have := zlt_iff.mp (zlt_t h hy hx)
    omega
/-- yes: surely so; no: surely not -/
def zfork (yes no kt kf : Bool) : Bool := bif yes then kt else bif no then kf else (bif kt then kf else false)
theorem zfork_t {yes no kt kf : Bool} {P : Prop} (h : zfork yes no kt kf = true) (hy : yes = true → P) (hn : no = true → ¬ P) : (P → kt = true) ∧ (¬ P → kf = true) := by
  unfold zfork at h
  cases yes with
  | true => exact ⟨fun _ => h, fun hp => absurd (hy rfl) hp⟩
  | false =>
    rw [cond_false] at h
    cases no with
    | true => exact ⟨fun hp => absurd hp (hn rfl), fun _ => h⟩
    | false =>
      rw [cond_false] at h
      exact ⟨fun _ => (zand h).1, fun _ => (zand h).2⟩
noncomputable def oIc (yes no : Nat → Nat → Bool) (kt kf : zK) : zK := fun lv st ce sl t A => zpI st (fun b st => zpI st (fun a st => zfork (yes a b) (no a b) (kt lv st ce sl t A) (kf lv st ce sl t A)))
noncomputable def oIf (yes no : Nat → Nat → Bool) (kt kf : zK) : zK := fun lv st ce sl t A => zpI st (fun a st => zfork (yes a 2147483648) (no a 2147483648) (kt lv st ce sl t A) (kf lv st ce sl t A))
def zgt (a b : Nat) : Bool := zlt b a
def zge (a b : Nat) : Bool := zle b a
theorem zin0 : zin 2147483648 0 := zin_eq (by decide)
theorem z_if_eq {off : Int} {tgt : Nat} (hd : decode M.2.1 pc = .ok (.ifCond .eq off, 3)) (ht : (pc : Int) + off = (tgt : Int)) (h1 : zS l G gh d K M tgt kt) (h2 : zS l G gh d K M (pc + 3) kf) : zS l G gh d K M pc (oIf zeq zne kt kf) := by
  intro lv st ce sl t A h lv' st' I L R hl hs hm
  obtain ⟨a, st3, x, st4, rfl, g4, g5, g6⟩ := zpI_t h hs
  obtain ⟨e1, e2⟩ := zfork_t g6 (fun h => zeq_t h g4 zin0) (fun h => zne_t h g4 zin0)
  exact q_if_eq hd ht (fun p => h1 lv _ ce sl t A (e1 p) lv' _ I L R hl g5 hm) (fun p => h2 lv _ ce sl t A (e2 p) lv' _ I L R hl g5 hm)
theorem z_icmp_ne {off : Int} {tgt : Nat} (hd : decode M.2.1 pc = .ok (.if_icmp .ne off, 3)) (ht : (pc : Int) + off = (tgt : Int)) (h1 : zS l G gh d K M tgt kt) (h2 : zS l G gh d K M (pc + 3) kf) : zS l G gh d K M pc (oIc zne zeq kt kf) := by
  intro lv st ce sl t A h lv' st' I L R hl hs hm
  obtain ⟨b, st1, y, st2, rfl, g1, g2, g3⟩ := zpI_t h hs
  obtain ⟨a, st3, x, st4, rfl, g4, g5, g6⟩ := zpI_t g3 g2
  obtain ⟨e1, e2⟩ := zfork_t g6 (fun h => zne_t h g4 g1) (fun h => fun hp => hp (zeq_t h g4 g1))
  exact q_icmp_ne hd ht (fun p => h1 lv _ ce sl t A (e1 p) lv' _ I L R hl g5 hm) (fun p => h2 lv _ ce sl t A (e2 (fun q => q p)) lv' _ I L R hl g5 hm)
theorem z_if_ne {off : Int} {tgt : Nat} (hd : decode M.2.1 pc = .ok (.ifCond .ne off, 3)) (ht : (pc : Int) + off = (tgt : Int)) (h1 : zS l G gh d K M tgt kt) (h2 : zS l G gh d K M (pc + 3) kf) : zS l G gh d K M pc (oIf zne zeq kt kf) := by
  intro lv st ce sl t A h lv' st' I L R hl hs hm
  obtain ⟨a, st3, x, st4, rfl, g4, g5, g6⟩ := zpI_t h hs
  obtain ⟨e1, e2⟩ := zfork_t g6 (fun h => zne_t h g4 zin0) (fun h => fun hp => hp (zeq_t h g4 zin0))
  exact q_if_ne hd ht (fun p => h1 lv _ ce sl t A (e1 p) lv' _ I L R hl g5 hm) (fun p => h2 lv _ ce sl t A (e2 (fun q => q p)) lv' _ I L R hl g5 hm)
theorem z_icmp_lt {off : Int} {tgt : Nat} (hd : decode M.2.1 pc = .ok (.if_icmp .lt off, 3)) (ht : (pc : Int) + off = (tgt : Int)) (h1 : zS l G gh d K M tgt kt) (h2 : zS l G gh d K M (pc + 3) kf) : zS l G gh d K M pc (oIc zlt zge kt kf) := by
  intro lv st ce sl t A h lv' st' I L R hl hs hm
  obtain ⟨b, st1, y, st2, rfl, g1, g2, g3⟩ := zpI_t h hs
  obtain ⟨a, st3, x, st4, rfl, g4, g5, g6⟩ := zpI_t g3 g2
  obtain ⟨e1, e2⟩ := zfork_t g6 (fun h => zlt_t h g4 g1) (fun h => fun hp => absurd (zle_iff.mp (zle_t h g1 g4)) (by have := zlt_iff.mp hp; omega))
  exact q_icmp_lt hd ht (fun p => h1 lv _ ce sl t A (e1 p) lv' _ I L R hl g5 hm) (fun p => h2 lv _ ce sl t A (e2 p) lv' _ I L R hl g5 hm)
theorem z_if_lt {off : Int} {tgt : Nat} (hd : decode M.2.1 pc = .ok (.ifCond .lt off, 3)) (ht : (pc : Int) + off = (tgt : Int)) (h1 : zS l G gh d K M tgt kt) (h2 : zS l G gh d K M (pc + 3) kf) : zS l G gh d K M pc (oIf zlt zge kt kf) := by
  intro lv st ce sl t A h lv' st' I L R hl hs hm
  obtain ⟨a, st3, x, st4, rfl, g4, g5, g6⟩ := zpI_t h hs
  obtain ⟨e1, e2⟩ := zfork_t g6 (fun h => zlt_t h g4 zin0) (fun h => fun hp => absurd (zle_iff.mp (zle_t h zin0 g4)) (by have := zlt_iff.mp hp; omega))
  exact q_if_lt hd ht (fun p => h1 lv _ ce sl t A (e1 p) lv' _ I L R hl g5 hm) (fun p => h2 lv _ ce sl t A (e2 p) lv' _ I L R hl g5 hm)
theorem z_icmp_ge {off : Int} {tgt : Nat} (hd : decode M.2.1 pc = .ok (.if_icmp .ge off, 3)) (ht : (pc : Int) + off = (tgt : Int)) (h1 : zS l G gh d K M tgt kt) (h2 : zS l G gh d K M (pc + 3) kf) : zS l G gh d K M pc (oIc zge zlt kt kf) := by
  intro lv st ce sl t A h lv' st' I L R hl hs hm
  obtain ⟨b, st1, y, st2, rfl, g1, g2, g3⟩ := zpI_t h hs
  obtain ⟨a, st3, x, st4, rfl, g4, g5, g6⟩ := zpI_t g3 g2
  obtain ⟨e1, e2⟩ := zfork_t g6 (fun h => zle_t h g1 g4) (fun h => fun hp => absurd (zlt_iff.mp (zlt_t h g4 g1)) (by have := zle_iff.mp hp; omega))
  exact q_icmp_ge hd ht (fun p => h1 lv _ ce sl t A (e1 p) lv' _ I L R hl g5 hm) (fun p => h2 lv _ ce sl t A (e2 p) lv' _ I L R hl g5 hm)
theorem z_goto {off : Int} {tgt : Nat} (hd : decode M.2.1 pc = .ok (.goto off, 3)) (ht : (pc : Int) + off = (tgt : Int)) (hk : zS l G gh d K M tgt k) : zS l G gh d K M pc k := fun lv st ce sl t A h lv' st' I L R hl hs hm => q_goto hd ht (hk lv st ce sl t A h lv' st' I L R hl hs hm)
end ZS
