section
/-! ===== what a law's steps come to ===== -/
def aOp (k a b : Int32) : Int32 := if k = 2 then a + b else if k = 3 then a - b else if k = 4 then a * b else a / b
def aSt (e : Nat → Int32) (c : Int32 × Int32) (st : List Int32) : Option (List Int32) := if c.1 = 0 then some (c.2 :: st) else if c.1 = 1 then some (e c.2.toInt.toNat :: st) else match st with
  | b :: a :: r => if c.1 = 5 ∧ b = 0 then none else some (aOp c.1 a b :: r)
  | _ => none
def aEv (e : Nat → Int32) : pC → List Int32 → Option (List Int32)
  | [], st => some st
  | c :: w, st => (aSt e c st).bind (aEv e w)
theorem aEv_app (e : Nat → Int32) : ∀ (w v : pC) (st : List Int32), aEv e (w ++ v) st = (aEv e w st).bind (aEv e v)
  | [], v, st => rfl
  | c :: w, v, st => by
    rw [List.cons_append, aEv, aEv]
    cases aSt e c st with
    | none => rfl
    | some s => exact aEv_app e w v s
/-- a step of an expression: a number, a variable, a sign -/
def aC (c : Int32 × Int32) : Prop := c.1 = 0 ∨ (c.1 = 1 ∧ 0 ≤ c.2.toInt ∧ c.2.toInt < 9) ∨ (2 ≤ c.1.toInt ∧ c.1.toInt ≤ 5)
/-- how much the pile grows -/
def aG : pC → Int
  | [] => 0
  | c :: w => (if c.1 = 0 ∨ c.1 = 1 then 1 else -1) + aG w
theorem aG_app : ∀ (w v : pC), aG (w ++ v) = aG w + aG v
  | [], v => by rw [List.nil_append, aG]; omega
  | c :: w, v => by rw [List.cons_append, aG, aG, aG_app w v]; omega
/-- an expression's steps: one more on the pile, never more than n more; broken or a number -/
def aX (w : pC) (n : Nat) (f : (Nat → Int32) → Option Int32) : Prop := (∀ c ∈ w, aC c) ∧ aG w = 1 ∧ (∀ pre suf, w = pre ++ suf → aG pre ≤ n) ∧ ∀ e st, aEv e w st = (f e).map (fun x => x :: st)
/-- what comes behind a part: the pile as high as before -/
def aY (w : pC) (n : Nat) (g : (Nat → Int32) → Int32 → Option Int32) : Prop := (∀ c ∈ w, aC c) ∧ aG w = 0 ∧ (∀ pre suf, w = pre ++ suf → aG pre ≤ n) ∧ ∀ e x st, aEv e w (x :: st) = (g e x).map (fun y => y :: st)
theorem pre_app {w v pre suf : pC} (h : w ++ v = pre ++ suf) : (∃ s, w = pre ++ s) ∨ ∃ p s, pre = w ++ p ∧ v = p ++ s := by
  rcases List.append_eq_append_iff.mp h with ⟨a, h1, h2⟩ | ⟨a, h1, h2⟩
  · exact Or.inr ⟨a, suf, h1, h2⟩
  · exact Or.inl ⟨a, h1⟩
theorem aX_lf {k v : Int32} (h : aC (k, v)) (hk : k = 0 ∨ k = 1) : aX [(k, v)] 1 (fun e => some (if k = 0 then v else e v.toInt.toNat)) := by
  refine ⟨fun c hc => by rw [List.mem_singleton.mp hc]; exact h, by rw [aG, aG, if_pos hk]; rfl, fun pre suf q => ?_, fun e st => ?_⟩
  · cases pre with
    | nil => decide
    | cons c p =>
      rw [List.cons_append] at q
      injection q with q1 q2
      have : p = [] := by
        cases p with
        | nil => rfl
        | cons a b => rw [List.cons_append] at q2; cases q2
      rw [this, ← q1, aG, aG, if_pos hk]
      decide
  · rcases hk with rfl | rfl
    · rfl
    · rfl
theorem aY_nil {n : Nat} : aY [] n (fun _ x => some x) := ⟨fun c hc => (by cases hc), rfl, fun pre suf q => by
  have : pre = [] := by
    cases pre with
    | nil => rfl
    | cons a b => cases q
  rw [this, aG]; omega, fun e x st => rfl⟩
theorem aX_Y {w v : pC} {n m : Nat} {f : (Nat → Int32) → Option Int32} {g : (Nat → Int32) → Int32 → Option Int32} (h : aX w n f) (k : aY v m g) (hm : m + 1 ≤ n) : aX (w ++ v) n (fun e => (f e).bind (g e)) := by
  obtain ⟨h1, h2, h3, h4⟩ := h
  obtain ⟨k1, k2, k3, k4⟩ := k
  refine ⟨fun c hc => ?_, by rw [aG_app, h2, k2]; rfl, fun pre suf q => ?_, fun e st => ?_⟩
  · rcases List.mem_append.mp hc with hc | hc
    · exact h1 c hc
    · exact k1 c hc
  · rcases pre_app q with ⟨s, e⟩ | ⟨p, s, e1, e2⟩
    · exact h3 pre s e
    · rw [e1, aG_app, h2]
      have := k3 p s e2
      omega
  · rw [aEv_app, h4]
    show _ = Option.map _ ((f e).bind (g e))
    cases f e with
    | none => rfl
    | some x => exact k4 e x st
/-- a part, a sign, and what comes behind -/
theorem aY_go {w v : pC} {n m : Nat} {k : Int32} {f : (Nat → Int32) → Option Int32} {g : (Nat → Int32) → Int32 → Option Int32} (hk : 2 ≤ k.toInt ∧ k.toInt ≤ 5) (h : aX w n f) (h' : aY v m g) (hm : m ≤ n) : aY (w ++ (k, 0) :: v) n (fun e x => (f e).bind (fun y => if k = 5 ∧ y = 0 then none else g e (aOp k x y))) := by
  obtain ⟨h1, h2, h3, h4⟩ := h
  obtain ⟨k1, k2, k3, k4⟩ := h'
  have n0 : ¬ (k = 0 ∨ k = 1) := fun q => by
    rcases q with rfl | rfl
    · exact absurd hk.1 (by decide)
    · exact absurd hk.1 (by decide)
  refine ⟨fun c hc => ?_, ?_, fun pre suf q => ?_, fun e x st => ?_⟩
  · rcases List.mem_append.mp hc with hc | hc
    · exact h1 c hc
    · rcases List.mem_cons.mp hc with rfl | hc
      · exact Or.inr (Or.inr hk)
      · exact k1 c hc
  · rw [aG_app, h2, aG, if_neg n0, k2]; rfl
  · rcases pre_app q with ⟨s, e⟩ | ⟨p, s, e1, e2⟩
    · exact h3 pre s e
    · cases p with
      | nil => rw [e1, aG_app, h2, aG]; have := h3 w [] (by rw [List.append_nil]); omega
      | cons c p =>
        rw [List.cons_append] at e2
        injection e2 with e2 e3
        have := k3 p s e3
        rw [e1, aG_app, h2, aG, ← e2, if_neg n0]
        omega
  · rw [aEv_app, h4]
    show _ = Option.map _ ((f e).bind (fun y => if k = 5 ∧ y = 0 then none else g e (aOp k x y)))
    cases f e with
    | none => rfl
    | some y =>
      show aEv e ((k, 0) :: v) (y :: x :: st) = _
      rw [aEv]
      unfold aSt
      rw [if_neg (fun q => n0 (Or.inl q)), if_neg (fun q => n0 (Or.inr q))]
      show (if k = 5 ∧ y = 0 then none else some (aOp k x y :: st)).bind (aEv e v) = _
      by_cases q : k = 5 ∧ y = 0
      · rw [if_pos q]
        show none = ((if k = 5 ∧ y = 0 then none else g e (aOp k x y))).map _
        rw [if_pos q]; rfl
      · rw [if_neg q]
        show aEv e v (aOp k x y :: st) = ((if k = 5 ∧ y = 0 then none else g e (aOp k x y))).map _
        rw [if_neg q]
        exact k4 e _ st
theorem zOp_b (k : Int32) : 2 ≤ (zOp k).toInt ∧ (zOp k).toInt ≤ 5 := by
  unfold zOp
  repeat' split
  all_goals decide
section
variable {K S : Nat → Int32} {N : Nat → Int64}
theorem xLoop_Y {c : Int32 → Bool} {u : pZ → pZ} {x : pZ → pC} {n : Nat} (hx : ∀ y, (pf y = 0 → pt y ≤ 400) → pf (u y) = 0 → ∃ f, aX (x y) n f) (hu : pPg u) : ∀ (m : Nat) (y : pZ), (pf y = 0 → pt y ≤ 400) → pf (zLoop K S c u m y) = 0 → ∃ g, aY (xLoop K S c u x m y) n g
  | 0, y, _, _ => ⟨_, aY_nil⟩
  | m + 1, y, h, h0 => by
    rw [zLoop] at h0
    rw [xLoop]
    by_cases q : pf y = 0 ∧ c (K (pt y)) = true
    · rw [if_pos q] at h0 ⊢
      have ht : pf (zTake S true y) = 0 → pt (zTake S true y) ≤ 400 := fun z => (zTake_pg h z).2.2
      have hub : pf (u (zTake S true y)) = 0 → pt (u (zTake S true y)) ≤ 400 := fun z => (hu _ ht z).2.2
      obtain ⟨a1, -, -⟩ := zLoop_pg hu m _ hub h0
      obtain ⟨f, hf⟩ := hx _ ht a1
      obtain ⟨g, hg⟩ := xLoop_Y hx hu m _ hub h0
      exact ⟨_, aY_go (zOp_b _) hf hg (Nat.le_refl _)⟩
    · rw [if_neg q]
      exact ⟨_, aY_nil⟩
theorem xPr_X {u : pZ → pZ} {x : pZ → pC} {n : Nat} (hx : ∀ y, (pf y = 0 → pt y ≤ 400) → pf (u y) = 0 → ∃ f, aX (x y) n f) (hu : pPg u) : ∀ y, (pf y = 0 → pt y ≤ 400) → pf (zPr K S u y) = 0 → ∃ f, aX (xPr K S u x y) (n + 1) f := by
  intro y h h0
  have hub : pf (u y) = 0 → pt (u y) ≤ 400 := fun z => (hu _ h z).2.2
  obtain ⟨a1, -, -⟩ := zLoop_pg (K := K) (S := S) (c := zMul) hu 401 (u y) hub h0
  obtain ⟨f, hf1, hf2, hf3, hf4⟩ := hx y h a1
  obtain ⟨g, hg⟩ := xLoop_Y (K := K) (S := S) (c := zMul) hx hu 401 (u y) hub h0
  exact ⟨_, aX_Y (n := n + 1) (f := f) ⟨hf1, hf2, fun p s q => by have := hf3 p s q; omega, hf4⟩ hg (Nat.le_refl _)⟩
theorem xSu_X {u : pZ → pZ} {x : pZ → pC} {n : Nat} (hx : ∀ y, (pf y = 0 → pt y ≤ 400) → pf (u y) = 0 → ∃ f, aX (x y) n f) (hu : pPg u) : ∀ y, (pf y = 0 → pt y ≤ 400) → pf (zSu K S u y) = 0 → ∃ f, aX (xSu K S u x y) (n + 2) f := by
  intro y h h0
  have hp := zPr_pg (K := K) (S := S) hu
  have hub : pf (zPr K S u y) = 0 → pt (zPr K S u y) ≤ 400 := fun z => (hp _ h z).2.2
  obtain ⟨a1, -, -⟩ := zLoop_pg (K := K) (S := S) (c := zAdd) hp 401 (zPr K S u y) hub h0
  obtain ⟨f, hf1, hf2, hf3, hf4⟩ := xPr_X (K := K) (S := S) hx hu y h a1
  obtain ⟨g, hg⟩ := xLoop_Y (K := K) (S := S) (c := zAdd) (xPr_X (K := K) (S := S) hx hu) hp 401 (zPr K S u y) hub h0
  exact ⟨_, aX_Y (n := n + 2) (f := f) ⟨hf1, hf2, fun p s q => by have := hf3 p s q; omega, hf4⟩ hg (Nat.le_refl _)⟩
theorem xLf_X {y : pZ} (c : K (pt y) = 3 ∨ (142 ≤ K (pt y) ∧ K (pt y) < 151)) : ∃ f, aX (xLf K N y) 1 f := by
  unfold xLf
  by_cases e : K (pt y) = 3
  · rw [if_pos e]
    exact ⟨_, aX_lf (Or.inl rfl) (Or.inl rfl)⟩
  · rw [if_neg e]
    have c := c.resolve_left e
    have a1 := i_le.mp c.1
    have a2 := i_lt.mp c.2
    rw [show (142 : Int32).toInt = 142 from rfl] at a1
    rw [show (151 : Int32).toInt = 151 from rfl] at a2
    have a3 : (K (pt y) - 142).toInt = (K (pt y)).toInt - 142 := by
      rw [i_sub (y := 142) (by rw [show (142 : Int32).toInt = 142 from rfl]; omega) (by rw [show (142 : Int32).toInt = 142 from rfl]; omega)]
      rfl
    exact ⟨_, aX_lf (Or.inr (Or.inl ⟨rfl, by show 0 ≤ (K (pt y) - 142).toInt; omega, by show (K (pt y) - 142).toInt < 9; omega⟩)) (Or.inr rfl)⟩
theorem xUn_X : ∀ (e : Nat) (y : pZ), (pf y = 0 → pt y ≤ 400) → pf (zUn K S e y) = 0 → ∃ f, aX (xUn K S N e y) (2 * e + 1) f
  | 0, y, h, h0 => by
    rw [zUn] at h0
    rw [xUn]
    by_cases hf : pf y = 0
    · rw [if_pos hf] at h0
      split at h0
      · rename_i c
        exact xLf_X c
      · exact absurd h0 (zFail_n (by split <;> decide))
    · rw [if_neg hf] at h0; exact absurd h0 hf
  | e + 1, y, h, h0 => by
    rw [zUn] at h0
    rw [xUn]
    by_cases hf : pf y = 0
    · rw [if_pos hf] at h0
      by_cases c : K (pt y) = 3 ∨ (142 ≤ K (pt y) ∧ K (pt y) < 151)
      · rw [if_pos c]
        obtain ⟨f, a1, a2, a3, a4⟩ := xLf_X (N := N) c
        exact ⟨f, a1, a2, fun p s q => by have := a3 p s q; omega, a4⟩
      · rw [if_neg c] at h0 ⊢
        by_cases c2 : K (pt y) = 40
        · rw [if_pos c2] at h0
          have ht : pf (zTake S true y) = 0 → pt (zTake S true y) ≤ 400 := fun z => (zTake_pg h z).2.2
          exact xSu_X (K := K) (S := S) (xUn_X e) (zUn_pg (K := K) (S := S) e) (zTake S true y) ht (zTake_0 h0)
        · rw [if_neg c2] at h0
          exact absurd h0 (zFail_n (by decide))
    · rw [if_neg hf] at h0; exact absurd h0 hf
theorem xEx_X {y : pZ} (h : pf y = 0 → pt y ≤ 400) (h0 : pf (zEx K S y) = 0) : ∃ f, aX (xEx K S N y) 15 f := xSu_X (K := K) (S := S) (xUn_X 6) (zUn_pg (K := K) (S := S) 6) y h h0
end
end
section

section
variable {l : Launch} {G : qG} {d : Nat}
theorem w_X2_reckon_0 {Q : qQ} {I : qMI} {L : qML} {R : qMR} {o : Nat} (ho : o = 9 ∨ o = 259) {a1 : Int32} (h1 : R (o + 6) 3 = some (o + 9)) (h2 : vp_in a1 5) (k : wkB l G (d + 1) n_X2_reckon Q 9 [.ref (o + 6), .int a1, .int 0, .int (I (o + 9) a1.toNatClampNeg), wkU, wkU] [] I L R) : wkB l G (d + 1) n_X2_reckon Q 0 [.ref (o + 6), .int a1, wkU, wkU, wkU, wkU] [] I L R :=
  bb_lift (fun _ => q_iconst (n := 0) (zd (i := .iconst (0)) (n := 1) (by decide +kernel)) rfl) <|
  bb_istore_n (n := 2) (i := 2) (zd (i := .istore_n 2) (n := 1) (by decide +kernel)) rfl (by decide +kernel) (wkNl_i rfl) <|
  bb_aload_n (n := 0) (i := 0) (zd (i := .aload_n 0) (n := 1) (by decide +kernel)) rfl rfl <|
  bb_getr (k := (o + 6)) (ci := 2) (j := 3) (idx := 22) (a := (o + 9)) (zd (i := .getfield 22) (n := 3) (by decide +kernel)) (by rcases ho with rfl | rfl <;> decide +kernel) (by rcases ho with rfl | rfl <;> decide +kernel) (by decide +kernel) (by decide +kernel) rfl g240 h1 <|
  bb_iload_n (n := 1) (i := 1) (zd (i := .iload_n 1) (n := 1) (by decide +kernel)) rfl rfl <|
  bb_lift (fun _ => q_iald (k := (o + 9)) (zd (i := .iaload) (n := 1) (by decide +kernel)) (by rcases ho with rfl | rfl <;> decide +kernel) (by rcases ho with rfl | rfl <;> decide +kernel) (by have hz := h2; rcases ho with rfl | rfl <;> exact hz)) <|
  bb_istore_n (n := 3) (i := 3) (zd (i := .istore_n 3) (n := 1) (by decide +kernel)) rfl (by decide +kernel) (wkNl_i rfl) <|
  k
theorem w_X2_reckon_9 {Q : qQ} {I : qMI} {L : qML} {R : qMR} {o : Nat} (ho : o = 9 ∨ o = 259) {a1 : Int32} {a2 : Int32} {a3 : Int32} (kt : a3 < 0 → wkB l G (d + 1) n_X2_reckon Q 202 [.ref (o + 6), .int a1, .int a2, .int a3, wkU, wkU] [] I L R) (kf : ¬ a3 < 0 → wkB l G (d + 1) n_X2_reckon Q 13 [.ref (o + 6), .int a1, .int a2, .int a3, wkU, wkU] [] I L R) : wkB l G (d + 1) n_X2_reckon Q 9 [.ref (o + 6), .int a1, .int a2, .int a3, wkU, wkU] [] I L R :=
  bb_iload_n (n := 3) (i := 3) (zd (i := .iload_n 3) (n := 1) (by decide +kernel)) rfl rfl <|
  (fun lv hl => q_if_lt (off := 192) (tgt := 202) (zd (i := .ifCond .lt (192)) (n := 3) (by decide +kernel)) (by decide) (fun h => (kt h) lv hl) (fun h => (kf h) lv hl))
theorem w_X2_reckon_13 {Q : qQ} {I : qMI} {L : qML} {R : qMR} {o : Nat} (ho : o = 9 ∨ o = 259) {a1 : Int32} {a2 : Int32} {a3 : Int32} (kt : (I (o + 6) 2) ≤ a3 → wkB l G (d + 1) n_X2_reckon Q 202 [.ref (o + 6), .int a1, .int a2, .int a3, wkU, wkU] [] I L R) (kf : ¬ (I (o + 6) 2) ≤ a3 → wkB l G (d + 1) n_X2_reckon Q 21 [.ref (o + 6), .int a1, .int a2, .int a3, wkU, wkU] [] I L R) : wkB l G (d + 1) n_X2_reckon Q 13 [.ref (o + 6), .int a1, .int a2, .int a3, wkU, wkU] [] I L R :=
  bb_iload_n (n := 3) (i := 3) (zd (i := .iload_n 3) (n := 1) (by decide +kernel)) rfl rfl <|
  bb_aload_n (n := 0) (i := 0) (zd (i := .aload_n 0) (n := 1) (by decide +kernel)) rfl rfl <|
  bb_geti (k := (o + 6)) (ci := 2) (j := 2) (idx := 18) (zd (i := .getfield 18) (n := 3) (by decide +kernel)) (by rcases ho with rfl | rfl <;> decide +kernel) (by rcases ho with rfl | rfl <;> decide +kernel) (by decide +kernel) (by decide +kernel) rfl g239 <|
  (fun lv hl => q_icmp_ge (off := 184) (tgt := 202) (zd (i := .if_icmp .ge (184)) (n := 3) (by decide +kernel)) (by decide) (fun h => (kt h) lv hl) (fun h => (kf h) lv hl))
theorem w_X2_reckon_21 {Q : qQ} {I : qMI} {L : qML} {R : qMR} {o : Nat} (ho : o = 9 ∨ o = 259) {a1 : Int32} {a2 : Int32} {a3 : Int32} (h1 : R (o + 6) 0 = some (o + 7)) (h2 : vp_in a3 420) (h3 : R (o + 6) 1 = some (o + 8)) (h4 : vp_in a3 420) (kt : 1 < (I (o + 7) a3.toNatClampNeg) → wkB l G (d + 1) n_X2_reckon Q 82 [.ref (o + 6), .int a1, .int a2, .int (a3 + 1), .int (I (o + 7) a3.toNatClampNeg), .int (I (o + 8) a3.toNatClampNeg)] [] I L R) (kf : ¬ 1 < (I (o + 7) a3.toNatClampNeg) → wkB l G (d + 1) n_X2_reckon Q 46 [.ref (o + 6), .int a1, .int a2, .int (a3 + 1), .int (I (o + 7) a3.toNatClampNeg), .int (I (o + 8) a3.toNatClampNeg)] [] I L R) : wkB l G (d + 1) n_X2_reckon Q 21 [.ref (o + 6), .int a1, .int a2, .int a3, wkU, wkU] [] I L R :=
  bb_aload_n (n := 0) (i := 0) (zd (i := .aload_n 0) (n := 1) (by decide +kernel)) rfl rfl <|
  bb_getr (k := (o + 6)) (ci := 2) (j := 0) (idx := 11) (a := (o + 7)) (zd (i := .getfield 11) (n := 3) (by decide +kernel)) (by rcases ho with rfl | rfl <;> decide +kernel) (by rcases ho with rfl | rfl <;> decide +kernel) (by decide +kernel) (by decide +kernel) rfl g237 h1 <|
  bb_iload_n (n := 3) (i := 3) (zd (i := .iload_n 3) (n := 1) (by decide +kernel)) rfl rfl <|
  bb_lift (fun _ => q_iald (k := (o + 7)) (zd (i := .iaload) (n := 1) (by decide +kernel)) (by rcases ho with rfl | rfl <;> decide +kernel) (by rcases ho with rfl | rfl <;> decide +kernel) (by have hz := h2; rcases ho with rfl | rfl <;> exact hz)) <|
  bb_istore (i := 4) (zd (i := .istore 4) (n := 2) (by decide +kernel)) (by decide +kernel) (wkNl_i rfl) <|
  bb_aload_n (n := 0) (i := 0) (zd (i := .aload_n 0) (n := 1) (by decide +kernel)) rfl rfl <|
  bb_getr (k := (o + 6)) (ci := 2) (j := 1) (idx := 15) (a := (o + 8)) (zd (i := .getfield 15) (n := 3) (by decide +kernel)) (by rcases ho with rfl | rfl <;> decide +kernel) (by rcases ho with rfl | rfl <;> decide +kernel) (by decide +kernel) (by decide +kernel) rfl g238 h3 <|
  bb_iload_n (n := 3) (i := 3) (zd (i := .iload_n 3) (n := 1) (by decide +kernel)) rfl rfl <|
  bb_lift (fun _ => q_iald (k := (o + 8)) (zd (i := .iaload) (n := 1) (by decide +kernel)) (by rcases ho with rfl | rfl <;> decide +kernel) (by rcases ho with rfl | rfl <;> decide +kernel) (by have hz := h4; rcases ho with rfl | rfl <;> exact hz)) <|
  bb_istore (i := 5) (zd (i := .istore 5) (n := 2) (by decide +kernel)) (by decide +kernel) (wkNl_i rfl) <|
  bb_iinc (i := 3) (n := 1) (zd (i := .iinc 3 (1)) (n := 3) (by decide +kernel)) rfl rfl (by decide +kernel) (wkNl_i rfl) <|
  bb_iload (i := 4) (zd (i := .iload 4) (n := 2) (by decide +kernel)) rfl <|
  bb_lift (fun _ => q_iconst (n := 1) (zd (i := .iconst (1)) (n := 1) (by decide +kernel)) rfl) <|
  (fun lv hl => q_icmp_gt (off := 39) (tgt := 82) (zd (i := .if_icmp .gt (39)) (n := 3) (by decide +kernel)) (by decide) (fun h => (kt h) lv hl) (fun h => (kf h) lv hl))
theorem w_X2_reckon_46 {Q : qQ} {I : qMI} {L : qML} {R : qMR} {o : Nat} (ho : o = 9 ∨ o = 259) {a1 : Int32} {a2 : Int32} {a3 : Int32} {a4 : Int32} {a5 : Int32} (kt : a2 < 20 → wkB l G (d + 1) n_X2_reckon Q 54 [.ref (o + 6), .int a1, .int a2, .int a3, .int a4, .int a5] [] I L R) (kf : ¬ a2 < 20 → wkB l G (d + 1) n_X2_reckon Q 52 [.ref (o + 6), .int a1, .int a2, .int a3, .int a4, .int a5] [] I L R) : wkB l G (d + 1) n_X2_reckon Q 46 [.ref (o + 6), .int a1, .int a2, .int a3, .int a4, .int a5] [] I L R :=
  bb_iload_n (n := 2) (i := 2) (zd (i := .iload_n 2) (n := 1) (by decide +kernel)) rfl rfl <|
  bb_lift (fun _ => q_bipush (n := 20) (zd (i := .bipush (20)) (n := 2) (by decide +kernel)) rfl) <|
  (fun lv hl => q_icmp_lt (off := 5) (tgt := 54) (zd (i := .if_icmp .lt (5)) (n := 3) (by decide +kernel)) (by decide) (fun h => (kt h) lv hl) (fun h => (kf h) lv hl))
theorem w_X2_reckon_54 {Q : qQ} {I : qMI} {L : qML} {R : qMR} {o : Nat} (ho : o = 9 ∨ o = 259) {a1 : Int32} {a2 : Int32} {a3 : Int32} {a4 : Int32} {a5 : Int32} (h1 : R (o + 6) 5 = some (o + 11)) (kt : ¬ a4 = 0 → wkB l G (d + 1) n_X2_reckon Q 69 [.ref (o + 6), .int a1, .int a2, .int a3, .int a4, .int a5] [.int a2, .ref (o + 11)] I L R) (kf : a4 = 0 → wkB l G (d + 1) n_X2_reckon Q 64 [.ref (o + 6), .int a1, .int a2, .int a3, .int a4, .int a5] [.int a2, .ref (o + 11)] I L R) : wkB l G (d + 1) n_X2_reckon Q 54 [.ref (o + 6), .int a1, .int a2, .int a3, .int a4, .int a5] [] I L R :=
  bb_aload_n (n := 0) (i := 0) (zd (i := .aload_n 0) (n := 1) (by decide +kernel)) rfl rfl <|
  bb_getr (k := (o + 6)) (ci := 2) (j := 5) (idx := 28) (a := (o + 11)) (zd (i := .getfield 28) (n := 3) (by decide +kernel)) (by rcases ho with rfl | rfl <;> decide +kernel) (by rcases ho with rfl | rfl <;> decide +kernel) (by decide +kernel) (by decide +kernel) rfl g242 h1 <|
  bb_iload_n (n := 2) (i := 2) (zd (i := .iload_n 2) (n := 1) (by decide +kernel)) rfl rfl <|
  bb_iload (i := 4) (zd (i := .iload 4) (n := 2) (by decide +kernel)) rfl <|
  (fun lv hl => q_if_ne (off := 8) (tgt := 69) (zd (i := .ifCond .ne (8)) (n := 3) (by decide +kernel)) (by decide) (fun h => (kt h) lv hl) (fun h => (kf h) lv hl))
theorem w_X2_reckon_64 {Q : qQ} {I : qMI} {L : qML} {R : qMR} {o : Nat} (ho : o = 9 ∨ o = 259) {a1 : Int32} {a2 : Int32} {a3 : Int32} {a4 : Int32} {a5 : Int32} {s1 : Int32} (k : wkB l G (d + 1) n_X2_reckon Q 75 [.ref (o + 6), .int a1, .int a2, .int a3, .int a4, .int a5] [.int a5, .int s1, .ref (o + 11)] I L R) : wkB l G (d + 1) n_X2_reckon Q 64 [.ref (o + 6), .int a1, .int a2, .int a3, .int a4, .int a5] [.int s1, .ref (o + 11)] I L R :=
  bb_iload (i := 5) (zd (i := .iload 5) (n := 2) (by decide +kernel)) rfl <|
  bb_lift (fun _ => q_goto (off := 9) (tgt := 75) (zd (i := .goto (9)) (n := 3) (by decide +kernel)) (by decide)) k
theorem w_X2_reckon_69 {Q : qQ} {I : qMI} {L : qML} {R : qMR} {o : Nat} (ho : o = 9 ∨ o = 259) {a1 : Int32} {a2 : Int32} {a3 : Int32} {a4 : Int32} {a5 : Int32} {s1 : Int32} {P : Int32 → qMI → qML → qMR → Prop} (hc : wkCi l G d n_X2_variable [.ref (o + 6), .int a5] I L R P) (kk : ∀ y I' L' R', P y I' L' R' → wkB l G (d + 1) n_X2_reckon Q 75 [.ref (o + 6), .int a1, .int a2, .int a3, .int a4, .int a5] [.int y, .int s1, .ref (o + 11)] I' L' R') : wkB l G (d + 1) n_X2_reckon Q 69 [.ref (o + 6), .int a1, .int a2, .int a3, .int a4, .int a5] [.int s1, .ref (o + 11)] I L R :=
  bb_aload_n (n := 0) (i := 0) (zd (i := .aload_n 0) (n := 1) (by decide +kernel)) rfl rfl <|
  bb_iload (i := 5) (zd (i := .iload 5) (n := 2) (by decide +kernel)) rfl <|
  bb_callV (idx := 67) (k := (o + 6)) (ci := 2) (N := n_X2_variable) (As := [.int a5]) (st := [.int s1, .ref (o + 11)]) (zd (i := .invokevirtual 67) (n := 3) (by decide +kernel)) to_X2_variable g732 g734 g21 (Nat.le_of_ble_eq_true rfl) (by rcases ho with rfl | rfl <;> decide +kernel) (by rcases ho with rfl | rfl <;> decide +kernel) (by decide +kernel) rfl rfl rfl hc (fun r I' L' R' hq => by obtain ⟨y, rfl, hp⟩ := hq; exact kk y I' L' R' hp)
theorem w_X2_reckon_75 {Q : qQ} {I : qMI} {L : qML} {R : qMR} {o : Nat} (ho : o = 9 ∨ o = 259) {a1 : Int32} {a2 : Int32} {a3 : Int32} {a4 : Int32} {a5 : Int32} {s1 : Int32} {s2 : Int32} (h1 : vp_in s1 20) (k : wkB l G (d + 1) n_X2_reckon Q 199 [.ref (o + 6), .int a1, .int (a2 + 1), .int a3, .int a4, .int a5] [] (qUp I (o + 11) s1.toNatClampNeg s2) L R) : wkB l G (d + 1) n_X2_reckon Q 75 [.ref (o + 6), .int a1, .int a2, .int a3, .int a4, .int a5] [.int s2, .int s1, .ref (o + 11)] I L R :=
  bb_lift (fun _ => q_iast (k := (o + 11)) (zd (i := .iastore) (n := 1) (by decide +kernel)) (by rcases ho with rfl | rfl <;> decide +kernel) (by rcases ho with rfl | rfl <;> decide +kernel) (by have hz := h1; rcases ho with rfl | rfl <;> exact hz)) <|
  bb_iinc (i := 2) (n := 1) (zd (i := .iinc 2 (1)) (n := 3) (by decide +kernel)) rfl rfl (by decide +kernel) (wkNl_i rfl) <|
  bb_lift (fun _ => q_goto (off := 120) (tgt := 199) (zd (i := .goto (120)) (n := 3) (by decide +kernel)) (by decide)) k
theorem w_X2_reckon_82 {Q : qQ} {I : qMI} {L : qML} {R : qMR} {o : Nat} (ho : o = 9 ∨ o = 259) {a1 : Int32} {a2 : Int32} {a3 : Int32} {a4 : Int32} {a5 : Int32} (kt : ¬ a4 = 7 → wkB l G (d + 1) n_X2_reckon Q 106 [.ref (o + 6), .int a1, .int a2, .int a3, .int a4, .int a5] [] I L R) (kf : a4 = 7 → wkB l G (d + 1) n_X2_reckon Q 89 [.ref (o + 6), .int a1, .int a2, .int a3, .int a4, .int a5] [] I L R) : wkB l G (d + 1) n_X2_reckon Q 82 [.ref (o + 6), .int a1, .int a2, .int a3, .int a4, .int a5] [] I L R :=
  bb_iload (i := 4) (zd (i := .iload 4) (n := 2) (by decide +kernel)) rfl <|
  bb_lift (fun _ => q_bipush (n := 7) (zd (i := .bipush (7)) (n := 2) (by decide +kernel)) rfl) <|
  (fun lv hl => q_icmp_ne (off := 20) (tgt := 106) (zd (i := .if_icmp .ne (20)) (n := 3) (by decide +kernel)) (by decide) (fun h => (kt h) lv hl) (fun h => (kf h) lv hl))
theorem w_X2_reckon_89 {Q : qQ} {I : qMI} {L : qML} {R : qMR} {o : Nat} (ho : o = 9 ∨ o = 259) {a1 : Int32} {a2 : Int32} {a3 : Int32} {a4 : Int32} {a5 : Int32} (kt : a2 ≤ 0 → wkB l G (d + 1) n_X2_reckon Q 104 [.ref (o + 6), .int a1, .int a2, .int a3, .int a4, .int a5] [] I L R) (kf : ¬ a2 ≤ 0 → wkB l G (d + 1) n_X2_reckon Q 93 [.ref (o + 6), .int a1, .int a2, .int a3, .int a4, .int a5] [] I L R) : wkB l G (d + 1) n_X2_reckon Q 89 [.ref (o + 6), .int a1, .int a2, .int a3, .int a4, .int a5] [] I L R :=
  bb_iload_n (n := 2) (i := 2) (zd (i := .iload_n 2) (n := 1) (by decide +kernel)) rfl rfl <|
  (fun lv hl => q_if_le (off := 14) (tgt := 104) (zd (i := .ifCond .le (14)) (n := 3) (by decide +kernel)) (by decide) (fun h => (kt h) lv hl) (fun h => (kf h) lv hl))
theorem w_X2_reckon_93 {Q : qQ} {I : qMI} {L : qML} {R : qMR} {o : Nat} (ho : o = 9 ∨ o = 259) {a1 : Int32} {a2 : Int32} {a3 : Int32} {a4 : Int32} {a5 : Int32} (h1 : R (o + 6) 5 = some (o + 11)) (h2 : vp_in (a2 - 1) 20) (k : wkB l G (d + 1) n_X2_reckon Q 105 [.ref (o + 6), .int a1, .int a2, .int a3, .int a4, .int a5] [.int (I (o + 11) (a2 - 1).toNatClampNeg)] I L R) : wkB l G (d + 1) n_X2_reckon Q 93 [.ref (o + 6), .int a1, .int a2, .int a3, .int a4, .int a5] [] I L R :=
  bb_aload_n (n := 0) (i := 0) (zd (i := .aload_n 0) (n := 1) (by decide +kernel)) rfl rfl <|
  bb_getr (k := (o + 6)) (ci := 2) (j := 5) (idx := 28) (a := (o + 11)) (zd (i := .getfield 28) (n := 3) (by decide +kernel)) (by rcases ho with rfl | rfl <;> decide +kernel) (by rcases ho with rfl | rfl <;> decide +kernel) (by decide +kernel) (by decide +kernel) rfl g242 h1 <|
  bb_iload_n (n := 2) (i := 2) (zd (i := .iload_n 2) (n := 1) (by decide +kernel)) rfl rfl <|
  bb_lift (fun _ => q_iconst (n := 1) (zd (i := .iconst (1)) (n := 1) (by decide +kernel)) rfl) <|
  bb_lift (fun _ => q_isub (zd (i := .isub) (n := 1) (by decide +kernel))) <|
  bb_lift (fun _ => q_iald (k := (o + 11)) (zd (i := .iaload) (n := 1) (by decide +kernel)) (by rcases ho with rfl | rfl <;> decide +kernel) (by rcases ho with rfl | rfl <;> decide +kernel) (by have hz := h2; rcases ho with rfl | rfl <;> exact hz)) <|
  bb_lift (fun _ => q_goto (off := 4) (tgt := 105) (zd (i := .goto (4)) (n := 3) (by decide +kernel)) (by decide)) k
theorem w_X2_reckon_105 {Q : qQ} {I : qMI} {L : qML} {R : qMR} {o : Nat} (ho : o = 9 ∨ o = 259) {a1 : Int32} {a2 : Int32} {a3 : Int32} {a4 : Int32} {a5 : Int32} {s0 : Int32} (hQ : Q (some (.int s0)) 336 I L R) : wkB l G (d + 1) n_X2_reckon Q 105 [.ref (o + 6), .int a1, .int a2, .int a3, .int a4, .int a5] [.int s0] I L R :=
  (fun lv hl => q_iret (zd (i := .ireturn) (n := 1) (by decide +kernel)) rfl rfl (Nat.le_refl _) (Nat.le_refl _) hQ)
theorem w_X2_reckon_106 {Q : qQ} {I : qMI} {L : qML} {R : qMR} {o : Nat} (ho : o = 9 ∨ o = 259) {a1 : Int32} {a2 : Int32} {a3 : Int32} {a4 : Int32} {a5 : Int32} (kt : a2 < 2 → wkB l G (d + 1) n_X2_reckon Q 128 [.ref (o + 6), .int a1, .int a2, .int a3, .int a4, .int a5] [] I L R) (kf : ¬ a2 < 2 → wkB l G (d + 1) n_X2_reckon Q 111 [.ref (o + 6), .int a1, .int a2, .int a3, .int a4, .int a5] [] I L R) : wkB l G (d + 1) n_X2_reckon Q 106 [.ref (o + 6), .int a1, .int a2, .int a3, .int a4, .int a5] [] I L R :=
  bb_iload_n (n := 2) (i := 2) (zd (i := .iload_n 2) (n := 1) (by decide +kernel)) rfl rfl <|
  bb_lift (fun _ => q_iconst (n := 2) (zd (i := .iconst (2)) (n := 1) (by decide +kernel)) rfl) <|
  (fun lv hl => q_icmp_lt (off := 20) (tgt := 128) (zd (i := .if_icmp .lt (20)) (n := 3) (by decide +kernel)) (by decide) (fun h => (kt h) lv hl) (fun h => (kf h) lv hl))
theorem w_X2_reckon_111 {Q : qQ} {I : qMI} {L : qML} {R : qMR} {o : Nat} (ho : o = 9 ∨ o = 259) {a1 : Int32} {a2 : Int32} {a3 : Int32} {a4 : Int32} {a5 : Int32} (kt : ¬ a4 = 5 → wkB l G (d + 1) n_X2_reckon Q 130 [.ref (o + 6), .int a1, .int a2, .int a3, .int a4, .int a5] [] I L R) (kf : a4 = 5 → wkB l G (d + 1) n_X2_reckon Q 117 [.ref (o + 6), .int a1, .int a2, .int a3, .int a4, .int a5] [] I L R) : wkB l G (d + 1) n_X2_reckon Q 111 [.ref (o + 6), .int a1, .int a2, .int a3, .int a4, .int a5] [] I L R :=
  bb_iload (i := 4) (zd (i := .iload 4) (n := 2) (by decide +kernel)) rfl <|
  bb_lift (fun _ => q_iconst (n := 5) (zd (i := .iconst (5)) (n := 1) (by decide +kernel)) rfl) <|
  (fun lv hl => q_icmp_ne (off := 16) (tgt := 130) (zd (i := .if_icmp .ne (16)) (n := 3) (by decide +kernel)) (by decide) (fun h => (kt h) lv hl) (fun h => (kf h) lv hl))
theorem w_X2_reckon_117 {Q : qQ} {I : qMI} {L : qML} {R : qMR} {o : Nat} (ho : o = 9 ∨ o = 259) {a1 : Int32} {a2 : Int32} {a3 : Int32} {a4 : Int32} {a5 : Int32} (h1 : R (o + 6) 5 = some (o + 11)) (h2 : vp_in (a2 - 1) 20) (kt : ¬ (I (o + 11) (a2 - 1).toNatClampNeg) = 0 → wkB l G (d + 1) n_X2_reckon Q 130 [.ref (o + 6), .int a1, .int a2, .int a3, .int a4, .int a5] [] I L R) (kf : (I (o + 11) (a2 - 1).toNatClampNeg) = 0 → wkB l G (d + 1) n_X2_reckon Q 128 [.ref (o + 6), .int a1, .int a2, .int a3, .int a4, .int a5] [] I L R) : wkB l G (d + 1) n_X2_reckon Q 117 [.ref (o + 6), .int a1, .int a2, .int a3, .int a4, .int a5] [] I L R :=
  bb_aload_n (n := 0) (i := 0) (zd (i := .aload_n 0) (n := 1) (by decide +kernel)) rfl rfl <|
  bb_getr (k := (o + 6)) (ci := 2) (j := 5) (idx := 28) (a := (o + 11)) (zd (i := .getfield 28) (n := 3) (by decide +kernel)) (by rcases ho with rfl | rfl <;> decide +kernel) (by rcases ho with rfl | rfl <;> decide +kernel) (by decide +kernel) (by decide +kernel) rfl g242 h1 <|
  bb_iload_n (n := 2) (i := 2) (zd (i := .iload_n 2) (n := 1) (by decide +kernel)) rfl rfl <|
  bb_lift (fun _ => q_iconst (n := 1) (zd (i := .iconst (1)) (n := 1) (by decide +kernel)) rfl) <|
  bb_lift (fun _ => q_isub (zd (i := .isub) (n := 1) (by decide +kernel))) <|
  bb_lift (fun _ => q_iald (k := (o + 11)) (zd (i := .iaload) (n := 1) (by decide +kernel)) (by rcases ho with rfl | rfl <;> decide +kernel) (by rcases ho with rfl | rfl <;> decide +kernel) (by have hz := h2; rcases ho with rfl | rfl <;> exact hz)) <|
  (fun lv hl => q_if_ne (off := 5) (tgt := 130) (zd (i := .ifCond .ne (5)) (n := 3) (by decide +kernel)) (by decide) (fun h => (kt h) lv hl) (fun h => (kf h) lv hl))
theorem w_X2_reckon_128 {Q : qQ} {I : qMI} {L : qML} {R : qMR} {o : Nat} (ho : o = 9 ∨ o = 259) {a1 : Int32} {a2 : Int32} {a3 : Int32} {a4 : Int32} {a5 : Int32} (hQ : Q (some (.int 0)) 336 I L R) : wkB l G (d + 1) n_X2_reckon Q 128 [.ref (o + 6), .int a1, .int a2, .int a3, .int a4, .int a5] [] I L R :=
  bb_lift (fun _ => q_iconst (n := 0) (zd (i := .iconst (0)) (n := 1) (by decide +kernel)) rfl) <|
  (fun lv hl => q_iret (zd (i := .ireturn) (n := 1) (by decide +kernel)) rfl rfl (Nat.le_refl _) (Nat.le_refl _) hQ)
theorem w_X2_reckon_130 {Q : qQ} {I : qMI} {L : qML} {R : qMR} {o : Nat} (ho : o = 9 ∨ o = 259) {a1 : Int32} {a2 : Int32} {a3 : Int32} {a4 : Int32} {a5 : Int32} (kt : ¬ a4 = 6 → wkB l G (d + 1) n_X2_reckon Q 171 [.ref (o + 6), .int a1, .int (a2 + (-2)), .int a3, .int a4, .int a5] [] I L R) (kf : a4 = 6 → wkB l G (d + 1) n_X2_reckon Q 140 [.ref (o + 6), .int a1, .int (a2 + (-2)), .int a3, .int a4, .int a5] [] I L R) : wkB l G (d + 1) n_X2_reckon Q 130 [.ref (o + 6), .int a1, .int a2, .int a3, .int a4, .int a5] [] I L R :=
  bb_iinc (i := 2) (n := -2) (zd (i := .iinc 2 (-2)) (n := 3) (by decide +kernel)) rfl rfl (by decide +kernel) (wkNl_i rfl) <|
  bb_iload (i := 4) (zd (i := .iload 4) (n := 2) (by decide +kernel)) rfl <|
  bb_lift (fun _ => q_bipush (n := 6) (zd (i := .bipush (6)) (n := 2) (by decide +kernel)) rfl) <|
  (fun lv hl => q_icmp_ne (off := 34) (tgt := 171) (zd (i := .if_icmp .ne (34)) (n := 3) (by decide +kernel)) (by decide) (fun h => (kt h) lv hl) (fun h => (kf h) lv hl))
theorem w_X2_reckon_140 {Q : qQ} {I : qMI} {L : qML} {R : qMR} {o : Nat} (ho : o = 9 ∨ o = 259) {a1 : Int32} {a2 : Int32} {a3 : Int32} {a4 : Int32} {a5 : Int32} (h1 : R (o + 6) 5 = some (o + 11)) (h2 : vp_in a2 20) (h3 : R (o + 6) 5 = some (o + 11)) (h4 : vp_in (a2 + 1) 20) (kt : (I (o + 11) (a2 + 1).toNatClampNeg) ≤ (I (o + 11) a2.toNatClampNeg) → wkB l G (d + 1) n_X2_reckon Q 161 [.ref (o + 6), .int a1, .int a2, .int a3, .int a4, .int a5] [] I L R) (kf : ¬ (I (o + 11) (a2 + 1).toNatClampNeg) ≤ (I (o + 11) a2.toNatClampNeg) → wkB l G (d + 1) n_X2_reckon Q 157 [.ref (o + 6), .int a1, .int a2, .int a3, .int a4, .int a5] [] I L R) : wkB l G (d + 1) n_X2_reckon Q 140 [.ref (o + 6), .int a1, .int a2, .int a3, .int a4, .int a5] [] I L R :=
  bb_aload_n (n := 0) (i := 0) (zd (i := .aload_n 0) (n := 1) (by decide +kernel)) rfl rfl <|
  bb_getr (k := (o + 6)) (ci := 2) (j := 5) (idx := 28) (a := (o + 11)) (zd (i := .getfield 28) (n := 3) (by decide +kernel)) (by rcases ho with rfl | rfl <;> decide +kernel) (by rcases ho with rfl | rfl <;> decide +kernel) (by decide +kernel) (by decide +kernel) rfl g242 h1 <|
  bb_iload_n (n := 2) (i := 2) (zd (i := .iload_n 2) (n := 1) (by decide +kernel)) rfl rfl <|
  bb_lift (fun _ => q_iald (k := (o + 11)) (zd (i := .iaload) (n := 1) (by decide +kernel)) (by rcases ho with rfl | rfl <;> decide +kernel) (by rcases ho with rfl | rfl <;> decide +kernel) (by have hz := h2; rcases ho with rfl | rfl <;> exact hz)) <|
  bb_aload_n (n := 0) (i := 0) (zd (i := .aload_n 0) (n := 1) (by decide +kernel)) rfl rfl <|
  bb_getr (k := (o + 6)) (ci := 2) (j := 5) (idx := 28) (a := (o + 11)) (zd (i := .getfield 28) (n := 3) (by decide +kernel)) (by rcases ho with rfl | rfl <;> decide +kernel) (by rcases ho with rfl | rfl <;> decide +kernel) (by decide +kernel) (by decide +kernel) rfl g242 h3 <|
  bb_iload_n (n := 2) (i := 2) (zd (i := .iload_n 2) (n := 1) (by decide +kernel)) rfl rfl <|
  bb_lift (fun _ => q_iconst (n := 1) (zd (i := .iconst (1)) (n := 1) (by decide +kernel)) rfl) <|
  bb_lift (fun _ => q_iadd (zd (i := .iadd) (n := 1) (by decide +kernel))) <|
  bb_lift (fun _ => q_iald (k := (o + 11)) (zd (i := .iaload) (n := 1) (by decide +kernel)) (by rcases ho with rfl | rfl <;> decide +kernel) (by rcases ho with rfl | rfl <;> decide +kernel) (by have hz := h4; rcases ho with rfl | rfl <;> exact hz)) <|
  (fun lv hl => q_icmp_ge (off := 7) (tgt := 161) (zd (i := .if_icmp .ge (7)) (n := 3) (by decide +kernel)) (by decide) (fun h => (kt h) lv hl) (fun h => (kf h) lv hl))
theorem w_X2_reckon_157 {Q : qQ} {I : qMI} {L : qML} {R : qMR} {o : Nat} (ho : o = 9 ∨ o = 259) {a1 : Int32} {a2 : Int32} {a3 : Int32} {a4 : Int32} {a5 : Int32} (k : wkB l G (d + 1) n_X2_reckon Q 167 [.ref (o + 6), .int a1, .int a2, .int a3, .int a4, .int a5] [.int a3] I L R) : wkB l G (d + 1) n_X2_reckon Q 157 [.ref (o + 6), .int a1, .int a2, .int a3, .int a4, .int a5] [] I L R :=
  bb_iload_n (n := 3) (i := 3) (zd (i := .iload_n 3) (n := 1) (by decide +kernel)) rfl rfl <|
  bb_lift (fun _ => q_goto (off := 9) (tgt := 167) (zd (i := .goto (9)) (n := 3) (by decide +kernel)) (by decide)) k
theorem w_X2_reckon_161 {Q : qQ} {I : qMI} {L : qML} {R : qMR} {o : Nat} (ho : o = 9 ∨ o = 259) {a1 : Int32} {a2 : Int32} {a3 : Int32} {a4 : Int32} {a5 : Int32} (k : wkB l G (d + 1) n_X2_reckon Q 167 [.ref (o + 6), .int a1, .int a2, .int a3, .int a4, .int a5] [.int (if a3 < a5 then a5 else a3)] I L R) : wkB l G (d + 1) n_X2_reckon Q 161 [.ref (o + 6), .int a1, .int a2, .int a3, .int a4, .int a5] [] I L R :=
  bb_iload_n (n := 3) (i := 3) (zd (i := .iload_n 3) (n := 1) (by decide +kernel)) rfl rfl <|
  bb_iload (i := 5) (zd (i := .iload 5) (n := 2) (by decide +kernel)) rfl <|
  bb_lift (fun _ => q_max (idx := 70) (zd (i := .invokestatic 70) (n := 3) (by decide +kernel)) g736 g575 g111 g576 (Nat.le_of_ble_eq_true rfl) (Nat.le_refl _) (Nat.le_refl _)) <|
  k
theorem w_X2_reckon_167 {Q : qQ} {I : qMI} {L : qML} {R : qMR} {o : Nat} (ho : o = 9 ∨ o = 259) {a1 : Int32} {a2 : Int32} {a3 : Int32} {a4 : Int32} {a5 : Int32} {s0 : Int32} (k : wkB l G (d + 1) n_X2_reckon Q 199 [.ref (o + 6), .int a1, .int a2, .int s0, .int a4, .int a5] [] I L R) : wkB l G (d + 1) n_X2_reckon Q 167 [.ref (o + 6), .int a1, .int a2, .int a3, .int a4, .int a5] [.int s0] I L R :=
  bb_istore_n (n := 3) (i := 3) (zd (i := .istore_n 3) (n := 1) (by decide +kernel)) rfl (by decide +kernel) (wkNl_i rfl) <|
  bb_lift (fun _ => q_goto (off := 31) (tgt := 199) (zd (i := .goto (31)) (n := 3) (by decide +kernel)) (by decide)) k
theorem w_X2_reckon_171 {Q : qQ} {I : qMI} {L : qML} {R : qMR} {o : Nat} (ho : o = 9 ∨ o = 259) {a1 : Int32} {a2 : Int32} {a3 : Int32} {a4 : Int32} {a5 : Int32} (h1 : R (o + 6) 5 = some (o + 11)) (h2 : R (o + 6) 5 = some (o + 11)) (h3 : vp_in a2 20) (h4 : R (o + 6) 5 = some (o + 11)) (h5 : vp_in (a2 + 1) 20) {P : Int32 → qMI → qML → qMR → Prop} (hc : wkCi l G d n_X2_joined [.int a4, .int (I (o + 11) a2.toNatClampNeg), .int (I (o + 11) (a2 + 1).toNatClampNeg)] I L R P) (kk : ∀ y I' L' R', P y I' L' R' → wkB l G (d + 1) n_X2_reckon Q 195 [.ref (o + 6), .int a1, .int a2, .int a3, .int a4, .int a5] [.int y, .int a2, .ref (o + 11)] I' L' R') : wkB l G (d + 1) n_X2_reckon Q 171 [.ref (o + 6), .int a1, .int a2, .int a3, .int a4, .int a5] [] I L R :=
  bb_aload_n (n := 0) (i := 0) (zd (i := .aload_n 0) (n := 1) (by decide +kernel)) rfl rfl <|
  bb_getr (k := (o + 6)) (ci := 2) (j := 5) (idx := 28) (a := (o + 11)) (zd (i := .getfield 28) (n := 3) (by decide +kernel)) (by rcases ho with rfl | rfl <;> decide +kernel) (by rcases ho with rfl | rfl <;> decide +kernel) (by decide +kernel) (by decide +kernel) rfl g242 h1 <|
  bb_iload_n (n := 2) (i := 2) (zd (i := .iload_n 2) (n := 1) (by decide +kernel)) rfl rfl <|
  bb_iload (i := 4) (zd (i := .iload 4) (n := 2) (by decide +kernel)) rfl <|
  bb_aload_n (n := 0) (i := 0) (zd (i := .aload_n 0) (n := 1) (by decide +kernel)) rfl rfl <|
  bb_getr (k := (o + 6)) (ci := 2) (j := 5) (idx := 28) (a := (o + 11)) (zd (i := .getfield 28) (n := 3) (by decide +kernel)) (by rcases ho with rfl | rfl <;> decide +kernel) (by rcases ho with rfl | rfl <;> decide +kernel) (by decide +kernel) (by decide +kernel) rfl g242 h2 <|
  bb_iload_n (n := 2) (i := 2) (zd (i := .iload_n 2) (n := 1) (by decide +kernel)) rfl rfl <|
  bb_lift (fun _ => q_iald (k := (o + 11)) (zd (i := .iaload) (n := 1) (by decide +kernel)) (by rcases ho with rfl | rfl <;> decide +kernel) (by rcases ho with rfl | rfl <;> decide +kernel) (by have hz := h3; rcases ho with rfl | rfl <;> exact hz)) <|
  bb_aload_n (n := 0) (i := 0) (zd (i := .aload_n 0) (n := 1) (by decide +kernel)) rfl rfl <|
  bb_getr (k := (o + 6)) (ci := 2) (j := 5) (idx := 28) (a := (o + 11)) (zd (i := .getfield 28) (n := 3) (by decide +kernel)) (by rcases ho with rfl | rfl <;> decide +kernel) (by rcases ho with rfl | rfl <;> decide +kernel) (by decide +kernel) (by decide +kernel) rfl g242 h4 <|
  bb_iload_n (n := 2) (i := 2) (zd (i := .iload_n 2) (n := 1) (by decide +kernel)) rfl rfl <|
  bb_lift (fun _ => q_iconst (n := 1) (zd (i := .iconst (1)) (n := 1) (by decide +kernel)) rfl) <|
  bb_lift (fun _ => q_iadd (zd (i := .iadd) (n := 1) (by decide +kernel))) <|
  bb_lift (fun _ => q_iald (k := (o + 11)) (zd (i := .iaload) (n := 1) (by decide +kernel)) (by rcases ho with rfl | rfl <;> decide +kernel) (by rcases ho with rfl | rfl <;> decide +kernel) (by have hz := h5; rcases ho with rfl | rfl <;> exact hz)) <|
  bb_callS (idx := 73) (N := n_X2_joined) (As := [.int a4, .int (I (o + 11) a2.toNatClampNeg), .int (I (o + 11) (a2 + 1).toNatClampNeg)]) (st := [.int a2, .ref (o + 11)]) (zd (i := .invokestatic 73) (n := 3) (by decide +kernel)) to_X2_joined g737 g738 (Nat.le_of_ble_eq_true rfl) rfl rfl hc (fun r I' L' R' hq => by obtain ⟨y, rfl, hp⟩ := hq; exact kk y I' L' R' hp)
theorem w_X2_reckon_195 {Q : qQ} {I : qMI} {L : qML} {R : qMR} {o : Nat} (ho : o = 9 ∨ o = 259) {a1 : Int32} {a2 : Int32} {a3 : Int32} {a4 : Int32} {a5 : Int32} {s1 : Int32} {s2 : Int32} (h1 : vp_in s1 20) (k : wkB l G (d + 1) n_X2_reckon Q 199 [.ref (o + 6), .int a1, .int (a2 + 1), .int a3, .int a4, .int a5] [] (qUp I (o + 11) s1.toNatClampNeg s2) L R) : wkB l G (d + 1) n_X2_reckon Q 195 [.ref (o + 6), .int a1, .int a2, .int a3, .int a4, .int a5] [.int s2, .int s1, .ref (o + 11)] I L R :=
  bb_lift (fun _ => q_iast (k := (o + 11)) (zd (i := .iastore) (n := 1) (by decide +kernel)) (by rcases ho with rfl | rfl <;> decide +kernel) (by rcases ho with rfl | rfl <;> decide +kernel) (by have hz := h1; rcases ho with rfl | rfl <;> exact hz)) <|
  bb_iinc (i := 2) (n := 1) (zd (i := .iinc 2 (1)) (n := 3) (by decide +kernel)) rfl rfl (by decide +kernel) (wkNl_i rfl) <|
  k
theorem w_X2_reckon_199 {Q : qQ} {I : qMI} {L : qML} {R : qMR} {o : Nat} (ho : o = 9 ∨ o = 259) {a1 : Int32} {a2 : Int32} {a3 : Int32} {a4 : Int32} {a5 : Int32} (k : wkB l G (d + 1) n_X2_reckon Q 9 [.ref (o + 6), .int a1, .int a2, .int a3, wkU, wkU] [] I L R) : wkB l G (d + 1) n_X2_reckon Q 199 [.ref (o + 6), .int a1, .int a2, .int a3, .int a4, .int a5] [] I L R :=
  bb_lift (fun _ => q_goto (off := -190) (tgt := 9) (zd (i := .goto (-190)) (n := 3) (by decide +kernel)) (by decide)) (wkB_le (vs := [.ref (o + 6), .int a1, .int a2, .int a3, wkU, wkU]) (ws := [.ref (o + 6), .int a1, .int a2, .int a3, .int a4, .int a5]) ⟨Or.inr rfl, Or.inr rfl, Or.inr rfl, Or.inr rfl, Or.inl rfl, Or.inl rfl, trivial⟩ (k))
theorem w_X2_variable_0 {Q : qQ} {I : qMI} {L : qML} {R : qMR} {o : Nat} (ho : o = 9 ∨ o = 259) {a1 : Int32} (kt : a1 < 0 → wkB l G (d + 1) n_X2_variable Q 19 [.ref (o + 6), .int a1] [] I L R) (kf : ¬ a1 < 0 → wkB l G (d + 1) n_X2_variable Q 4 [.ref (o + 6), .int a1] [] I L R) : wkB l G (d + 1) n_X2_variable Q 0 [.ref (o + 6), .int a1] [] I L R :=
  bb_iload_n (n := 1) (i := 1) (zd (i := .iload_n 1) (n := 1) (by decide +kernel)) rfl rfl <|
  (fun lv hl => q_if_lt (off := 18) (tgt := 19) (zd (i := .ifCond .lt (18)) (n := 3) (by decide +kernel)) (by decide) (fun h => (kt h) lv hl) (fun h => (kf h) lv hl))
theorem w_X2_variable_4 {Q : qQ} {I : qMI} {L : qML} {R : qMR} {o : Nat} (ho : o = 9 ∨ o = 259) {a1 : Int32} (kt : 9 ≤ a1 → wkB l G (d + 1) n_X2_variable Q 19 [.ref (o + 6), .int a1] [] I L R) (kf : ¬ 9 ≤ a1 → wkB l G (d + 1) n_X2_variable Q 10 [.ref (o + 6), .int a1] [] I L R) : wkB l G (d + 1) n_X2_variable Q 4 [.ref (o + 6), .int a1] [] I L R :=
  bb_iload_n (n := 1) (i := 1) (zd (i := .iload_n 1) (n := 1) (by decide +kernel)) rfl rfl <|
  bb_lift (fun _ => q_bipush (n := 9) (zd (i := .bipush (9)) (n := 2) (by decide +kernel)) rfl) <|
  (fun lv hl => q_icmp_ge (off := 12) (tgt := 19) (zd (i := .if_icmp .ge (12)) (n := 3) (by decide +kernel)) (by decide) (fun h => (kt h) lv hl) (fun h => (kf h) lv hl))
theorem w_X2_variable_10 {Q : qQ} {I : qMI} {L : qML} {R : qMR} {o : Nat} (ho : o = 9 ∨ o = 259) {a1 : Int32} (h1 : R (o + 6) 4 = some (o + 10)) (h2 : vp_in a1 9) (k : wkB l G (d + 1) n_X2_variable Q 20 [.ref (o + 6), .int a1] [.int (I (o + 10) a1.toNatClampNeg)] I L R) : wkB l G (d + 1) n_X2_variable Q 10 [.ref (o + 6), .int a1] [] I L R :=
  bb_aload_n (n := 0) (i := 0) (zd (i := .aload_n 0) (n := 1) (by decide +kernel)) rfl rfl <|
  bb_getr (k := (o + 6)) (ci := 2) (j := 4) (idx := 25) (a := (o + 10)) (zd (i := .getfield 25) (n := 3) (by decide +kernel)) (by rcases ho with rfl | rfl <;> decide +kernel) (by rcases ho with rfl | rfl <;> decide +kernel) (by decide +kernel) (by decide +kernel) rfl g241 h1 <|
  bb_iload_n (n := 1) (i := 1) (zd (i := .iload_n 1) (n := 1) (by decide +kernel)) rfl rfl <|
  bb_lift (fun _ => q_iald (k := (o + 10)) (zd (i := .iaload) (n := 1) (by decide +kernel)) (by rcases ho with rfl | rfl <;> decide +kernel) (by rcases ho with rfl | rfl <;> decide +kernel) (by have hz := h2; rcases ho with rfl | rfl <;> exact hz)) <|
  bb_lift (fun _ => q_goto (off := 4) (tgt := 20) (zd (i := .goto (4)) (n := 3) (by decide +kernel)) (by decide)) k
theorem w_X2_variable_20 {Q : qQ} {I : qMI} {L : qML} {R : qMR} {o : Nat} (ho : o = 9 ∨ o = 259) {a1 : Int32} {s0 : Int32} (hQ : Q (some (.int s0)) 336 I L R) : wkB l G (d + 1) n_X2_variable Q 20 [.ref (o + 6), .int a1] [.int s0] I L R :=
  (fun lv hl => q_iret (zd (i := .ireturn) (n := 1) (by decide +kernel)) rfl rfl (Nat.le_refl _) (Nat.le_refl _) hQ)
theorem w_X2_joined_0 {Q : qQ} {I : qMI} {L : qML} {R : qMR} {a0 : Int32} {a1 : Int32} {a2 : Int32} (k : qSwt (fun tg => wkB l G (d + 1) n_X2_joined Q tg [.int a0, .int a1, .int a2] [] I L R) a0 2 [28, 32, 36] 40) : wkB l G (d + 1) n_X2_joined Q 0 [.int a0, .int a1, .int a2] [] I L R :=
  bb_iload_n (n := 0) (i := 0) (zd (i := .iload_n 0) (n := 1) (by decide +kernel)) rfl rfl <|
  bb_table (v := 2) (df := 40) (len := 27) (dflt := 39) (lo := 2) (hi := 4) (offs := #[27, 31, 35]) (tgts := [28, 32, 36]) (zd (i := .tableswitch (39) (2) (4) #[27, 31, 35]) (n := 27) (by decide +kernel)) rfl rfl (by decide +kernel) (by decide +kernel) (by decide +kernel) k
theorem w_X2_joined_28 {Q : qQ} {I : qMI} {L : qML} {R : qMR} {a0 : Int32} {a1 : Int32} {a2 : Int32} (hQ : Q (some (.int (a1 + a2))) 336 I L R) : wkB l G (d + 1) n_X2_joined Q 28 [.int a0, .int a1, .int a2] [] I L R :=
  bb_iload_n (n := 1) (i := 1) (zd (i := .iload_n 1) (n := 1) (by decide +kernel)) rfl rfl <|
  bb_iload_n (n := 2) (i := 2) (zd (i := .iload_n 2) (n := 1) (by decide +kernel)) rfl rfl <|
  bb_lift (fun _ => q_iadd (zd (i := .iadd) (n := 1) (by decide +kernel))) <|
  (fun lv hl => q_iret (zd (i := .ireturn) (n := 1) (by decide +kernel)) rfl rfl (Nat.le_refl _) (Nat.le_refl _) hQ)
theorem w_X2_joined_32 {Q : qQ} {I : qMI} {L : qML} {R : qMR} {a0 : Int32} {a1 : Int32} {a2 : Int32} (hQ : Q (some (.int (a1 - a2))) 336 I L R) : wkB l G (d + 1) n_X2_joined Q 32 [.int a0, .int a1, .int a2] [] I L R :=
  bb_iload_n (n := 1) (i := 1) (zd (i := .iload_n 1) (n := 1) (by decide +kernel)) rfl rfl <|
  bb_iload_n (n := 2) (i := 2) (zd (i := .iload_n 2) (n := 1) (by decide +kernel)) rfl rfl <|
  bb_lift (fun _ => q_isub (zd (i := .isub) (n := 1) (by decide +kernel))) <|
  (fun lv hl => q_iret (zd (i := .ireturn) (n := 1) (by decide +kernel)) rfl rfl (Nat.le_refl _) (Nat.le_refl _) hQ)
theorem w_X2_joined_36 {Q : qQ} {I : qMI} {L : qML} {R : qMR} {a0 : Int32} {a1 : Int32} {a2 : Int32} (hQ : Q (some (.int (a1 * a2))) 336 I L R) : wkB l G (d + 1) n_X2_joined Q 36 [.int a0, .int a1, .int a2] [] I L R :=
  bb_iload_n (n := 1) (i := 1) (zd (i := .iload_n 1) (n := 1) (by decide +kernel)) rfl rfl <|
  bb_iload_n (n := 2) (i := 2) (zd (i := .iload_n 2) (n := 1) (by decide +kernel)) rfl rfl <|
  bb_lift (fun _ => q_imul (zd (i := .imul) (n := 1) (by decide +kernel))) <|
  (fun lv hl => q_iret (zd (i := .ireturn) (n := 1) (by decide +kernel)) rfl rfl (Nat.le_refl _) (Nat.le_refl _) hQ)
theorem w_X2_joined_40 {Q : qQ} {I : qMI} {L : qML} {R : qMR} {a0 : Int32} {a1 : Int32} {a2 : Int32} (kt : ¬ a2 = 0 → wkB l G (d + 1) n_X2_joined Q 48 [.int a0, .int a1, .int a2] [] I L R) (kf : a2 = 0 → wkB l G (d + 1) n_X2_joined Q 44 [.int a0, .int a1, .int a2] [] I L R) : wkB l G (d + 1) n_X2_joined Q 40 [.int a0, .int a1, .int a2] [] I L R :=
  bb_iload_n (n := 2) (i := 2) (zd (i := .iload_n 2) (n := 1) (by decide +kernel)) rfl rfl <|
  (fun lv hl => q_if_ne (off := 7) (tgt := 48) (zd (i := .ifCond .ne (7)) (n := 3) (by decide +kernel)) (by decide) (fun h => (kt h) lv hl) (fun h => (kf h) lv hl))
theorem w_X2_joined_48 {Q : qQ} {I : qMI} {L : qML} {R : qMR} {a0 : Int32} {a1 : Int32} {a2 : Int32} (h1 : ¬ a2 = 0) (k : wkB l G (d + 1) n_X2_joined Q 51 [.int a0, .int a1, .int a2] [.int (a1 / a2)] I L R) : wkB l G (d + 1) n_X2_joined Q 48 [.int a0, .int a1, .int a2] [] I L R :=
  bb_iload_n (n := 1) (i := 1) (zd (i := .iload_n 1) (n := 1) (by decide +kernel)) rfl rfl <|
  bb_iload_n (n := 2) (i := 2) (zd (i := .iload_n 2) (n := 1) (by decide +kernel)) rfl rfl <|
  bb_lift (fun _ => q_idiv (zd (i := .idiv) (n := 1) (by decide +kernel)) h1) <|
  k
theorem w_X2_joined_51 {Q : qQ} {I : qMI} {L : qML} {R : qMR} {a0 : Int32} {a1 : Int32} {a2 : Int32} {s0 : Int32} (hQ : Q (some (.int s0)) 336 I L R) : wkB l G (d + 1) n_X2_joined Q 51 [.int a0, .int a1, .int a2] [.int s0] I L R :=
  (fun lv hl => q_iret (zd (i := .ireturn) (n := 1) (by decide +kernel)) rfl rfl (Nat.le_refl _) (Nat.le_refl _) hQ)
end
end
section
/-! ===== the class reckons a law ===== -/
/-- the pile's places, the last on top -/
def pS (m : Nat → Int32) : List Int32 → Prop
  | [] => True
  | x :: r => m r.length = x ∧ pS m r
theorem pS_up {m : Nat → Int32} {n : Nat} {v : Int32} : ∀ {r : List Int32}, r.length ≤ n → pS m r → pS (tU m n v) r
  | [], _, _ => trivial
  | x :: r, h, g => by
    rw [List.length_cons] at h
    refine ⟨?_, pS_up (by omega) g.2⟩
    unfold tU
    rw [if_neg (by omega)]
    exact g.1
theorem pS_push {m : Nat → Int32} {v : Int32} {r : List Int32} (h : pS m r) : pS (tU m r.length v) (v :: r) := ⟨by unfold tU; rw [if_pos rfl], pS_up (Nat.le_refl _) h⟩
/-- the flat's laws lie where they were made -/
def cRl (R : qMR) (o : Nat) : Prop := True ∧ True ∧ True ∧ (R (o + 6) 0 = some (o + 7) ∧ R (o + 6) 1 = some (o + 8) ∧ R (o + 6) 3 = some (o + 9))
def cRk (o : Nat) (I J : qMI) : Prop := ∀ k, k ≠ o + 11 → J k = I k
section
variable {l : Launch} {G : qG} {d : Nat} {I J : qMI} {L : qML} {R : qMR} {o : Nat}
theorem cVar (ho : o = 9 ∨ o = 259) (hR : R (o + 6) 4 = some (o + 10)) {v : Int32} (hv : 0 ≤ v.toInt ∧ v.toInt < 9) : wkCi l G (d + 1) n_X2_variable [.ref (o + 6), .int v] J L R (fun y J' L' R' => J' = J ∧ L' = L ∧ R' = R ∧ y = J (o + 10) v.toInt.toNat) := by
  refine wkC_of 0 (by decide) (Nat.le_of_ble_eq_true rfl) (w_X2_variable_0 ho (fun q => ?_) (fun _ => w_X2_variable_4 ho (fun q => ?_) (fun _ => w_X2_variable_10 ho hR (vin hv.1 (by omega)) (w_X2_variable_20 ho ⟨rfl, _, rfl, rfl, rfl, rfl, rfl⟩))))
  · have q := i_lt.mp q
    rw [show (0 : Int32).toInt = 0 from rfl] at q
    omega
  · have q := i_le.mp q
    rw [show (9 : Int32).toInt = 9 from rfl] at q
    omega
theorem cJoin {k a b : Int32} (hk : 2 ≤ k.toInt ∧ k.toInt ≤ 5) (hb : ¬ (k = 5 ∧ b = 0)) : wkCi l G (d + 1) n_X2_joined [.int k, .int a, .int b] J L R (fun y J' L' R' => J' = J ∧ L' = L ∧ R' = R ∧ y = aOp k a b) := by
  refine wkC_of 0 (by decide) (Nat.le_of_ble_eq_true rfl) (w_X2_joined_0 (qSwt_e (fun q => ?_) (fun n1 => qSwt_e (fun q => ?_) (fun n2 => qSwt_e (fun q => ?_) (fun n3 => qSwt_d ?_)))))
  · refine w_X2_joined_28 ⟨rfl, _, rfl, rfl, rfl, rfl, ?_⟩
    unfold aOp
    rw [if_pos q]
  · have q : k = 3 := q
    refine w_X2_joined_32 ⟨rfl, _, rfl, rfl, rfl, rfl, ?_⟩
    unfold aOp
    rw [if_neg n1, if_pos q]
  · have n2 : ¬ k = 3 := n2
    have q : k = 4 := q
    refine w_X2_joined_36 ⟨rfl, _, rfl, rfl, rfl, rfl, ?_⟩
    unfold aOp
    rw [if_neg n1, if_neg n2, if_pos q]
  · have n2 : ¬ k = 3 := n2
    have n3 : ¬ k = 4 := n3
    have k5 : k = 5 := by
      have m1 : k.toInt ≠ 2 := fun w => n1 (i_eq.mpr w)
      have m2 : k.toInt ≠ 3 := fun w => n2 (i_eq.mpr w)
      have m3 : k.toInt ≠ 4 := fun w => n3 (i_eq.mpr w)
      exact i_eq.mpr (by rw [show (5 : Int32).toInt = 5 from rfl]; omega)
    refine w_X2_joined_40 (fun q => w_X2_joined_48 q (w_X2_joined_51 ⟨rfl, _, rfl, rfl, rfl, rfl, ?_⟩)) (fun q => absurd ⟨k5, q⟩ hb)
    unfold aOp
    rw [if_neg n1, if_neg n2, if_neg n3]
/-- where the step is, and what -/
theorem rkAt (ho : o = 9 ∨ o = 259) (hR : cRl R o) {Q : qQ} {law a2 a3 k v : Int32} {n : Nat} (hb : 0 ≤ (I (o + 6) 2).toInt ∧ (I (o + 6) 2).toInt ≤ 420) (hJ : cRk o I J) (hn : a3.toInt = n) (hc : (cCd o I)[n]? = some (k, v)) (kt : 1 < k.toInt → wkB l G (d + 1) n_X2_reckon Q 82 [.ref (o + 6), .int law, .int a2, .int (a3 + 1), .int k, .int v] [] J L R) (kf : k.toInt ≤ 1 → wkB l G (d + 1) n_X2_reckon Q 46 [.ref (o + 6), .int law, .int a2, .int (a3 + 1), .int k, .int v] [] J L R) : wkB l G (d + 1) n_X2_reckon Q 9 [.ref (o + 6), .int law, .int a2, .int a3, wkU, wkU] [] J L R := by
  rw [cCd_at] at hc
  have hlt : n < (I (o + 6) 2).toInt.toNat := by
    refine Decidable.byContradiction fun q => ?_
    rw [if_neg q] at hc
    cases hc
  rw [if_pos hlt] at hc
  injection hc with hc
  have c1 : I (o + 7) n = k := congrArg Prod.fst hc
  have c2 : I (o + 8) n = v := congrArg Prod.snd hc
  have j6 : J (o + 6) = I (o + 6) := hJ (o + 6) (by omega)
  have e7 : J (o + 7) a3.toNatClampNeg = k := by rw [hJ (o + 7) (by omega), tcn, hn, Int.toNat_natCast]; exact c1
  have e8 : J (o + 8) a3.toNatClampNeg = v := by rw [hJ (o + 8) (by omega), tcn, hn, Int.toNat_natCast]; exact c2
  have v3 : vp_in a3 420 := vin (by omega) (by omega)
  refine w_X2_reckon_9 ho (fun q => ?_) (fun _ => w_X2_reckon_13 ho (fun q => ?_) (fun _ => w_X2_reckon_21 ho hR.2.2.2.1 v3 hR.2.2.2.2.1 v3 (fun q => ?_) (fun q => ?_)))
  · have q := i_lt.mp q
    rw [show (0 : Int32).toInt = 0 from rfl] at q
    omega
  · have q := i_le.mp q
    rw [j6] at q
    omega
  · rw [e7] at q
    rw [e7, e8]
    exact kt (by have := i_lt.mp q; rw [show (1 : Int32).toInt = 1 from rfl] at this; exact this)
  · rw [e7] at q
    rw [e7, e8]
    exact kf (by have : ¬ _ := fun w => q (i_lt.mpr w); rw [show (1 : Int32).toInt = 1 from rfl] at this; omega)
/-- a number or a variable -/
theorem rkPush (ho : o = 9 ∨ o = 259) (hR4 : R (o + 6) 4 = some (o + 10)) (hR5 : R (o + 6) 5 = some (o + 11)) {Q : qQ} {law a2 a3 k v : Int32} {st : List Int32} (hJ : cRk o I J) (hk : k = 0 ∨ (k = 1 ∧ 0 ≤ v.toInt ∧ v.toInt < 9)) (hs : pS (J (o + 11)) st) (ht : a2.toInt = st.length) (hl : st.length < 20) (kS : ∀ (J' : qMI) (t : Int32), cRk o I J' → pS (J' (o + 11)) ((if k = 0 then v else I (o + 10) v.toInt.toNat) :: st) → t.toInt = st.length + 1 → wkB l G (d + 1 + 1) n_X2_reckon Q 9 [.ref (o + 6), .int law, .int t, .int a3, wkU, wkU] [] J' L R) : wkB l G (d + 1 + 1) n_X2_reckon Q 46 [.ref (o + 6), .int law, .int a2, .int a3, .int k, .int v] [] J L R := by
  have j10 : J (o + 10) = I (o + 10) := hJ (o + 10) (by omega)
  have push : ∀ x : Int32, x = (if k = 0 then v else I (o + 10) v.toInt.toNat) → wkB l G (d + 1 + 1) n_X2_reckon Q 75 [.ref (o + 6), .int law, .int a2, .int a3, .int k, .int v] [.int x, .int a2, .ref (o + 11)] J L R := fun x e => by
    refine w_X2_reckon_75 ho (vin (by omega) (by omega)) (w_X2_reckon_199 ho (kS _ _ (fun k q => by rw [qUp_ro q]; exact hJ k q) ?_ (by rw [i_s (by omega)]; omega)))
    rw [qUp_row, tcn, ht, Int.toNat_natCast, e]
    exact pS_push hs
  refine w_X2_reckon_46 ho (fun _ => ?_) (fun q => absurd (i_lt.mpr (by rw [show (20 : Int32).toInt = 20 from rfl]; omega)) q)
  refine w_X2_reckon_54 ho hR5 (fun n0 => ?_) (fun k0 => w_X2_reckon_64 ho (push v (by rw [if_pos k0])))
  obtain ⟨k1, hv⟩ := hk.resolve_left n0
  refine w_X2_reckon_69 ho (cVar (d := d) ho hR4 hv) (fun y J' L' R' hy => ?_)
  obtain ⟨rfl, rfl, rfl, rfl⟩ := hy
  exact push _ (by rw [if_neg n0, j10])
/-- a sign -/
theorem rkOp (ho : o = 9 ∨ o = 259) (hR5 : R (o + 6) 5 = some (o + 11)) {Q : qQ} {law a2 a3 k v a b : Int32} {r : List Int32} (hJ : cRk o I J) (hk : 2 ≤ k.toInt ∧ k.toInt ≤ 5) (hs : pS (J (o + 11)) (b :: a :: r)) (ht : a2.toInt = r.length + 2) (h20 : r.length + 2 ≤ 20) (kN : k = 5 ∧ b = 0 → Q (some (.int 0)) 336 J L R) (kS : ¬ (k = 5 ∧ b = 0) → ∀ (J' : qMI) (t : Int32), cRk o I J' → pS (J' (o + 11)) (aOp k a b :: r) → t.toInt = r.length + 1 → wkB l G (d + 1 + 1) n_X2_reckon Q 9 [.ref (o + 6), .int law, .int t, .int a3, wkU, wkU] [] J' L R) : wkB l G (d + 1 + 1) n_X2_reckon Q 82 [.ref (o + 6), .int law, .int a2, .int a3, .int k, .int v] [] J L R := by
  have n7 : ¬ k = 7 := fun w => by rw [w] at hk; exact absurd hk.2 (by decide)
  have n6 : ¬ k = 6 := fun w => by rw [w] at hk; exact absurd hk.2 (by decide)
  obtain ⟨s1, s2, s3⟩ := hs
  rw [List.length_cons] at s1
  have t1 : (a2 - 1).toInt = r.length + 1 := by rw [i_sub (y := 1) (by rw [show (1 : Int32).toInt = 1 from rfl]; omega) (by rw [show (1 : Int32).toInt = 1 from rfl]; omega), show (1 : Int32).toInt = 1 from rfl]; omega
  have t2 : (a2 + (-2)).toInt = r.length := by rw [i_add (y := -2) (by rw [show (-2 : Int32).toInt = -2 from rfl]; omega) (by rw [show (-2 : Int32).toInt = -2 from rfl]; omega), show (-2 : Int32).toInt = -2 from rfl]; omega
  have t3 : (a2 + (-2) + 1).toInt = r.length + 1 := by rw [i_s (by omega)]; omega
  have ea : J (o + 11) (a2 + (-2)).toNatClampNeg = a := by rw [tcn, t2, Int.toNat_natCast]; exact s2
  have eb : J (o + 11) (a2 + (-2) + 1).toNatClampNeg = b := by rw [tcn, t3, show ((r.length : Int) + 1).toNat = r.length + 1 by omega]; exact s1
  have e1 : J (o + 11) (a2 - 1).toNatClampNeg = b := by rw [tcn, t1, show ((r.length : Int) + 1).toNat = r.length + 1 by omega]; exact s1
  have go : ¬ (k = 5 ∧ b = 0) → wkB l G (d + 1 + 1) n_X2_reckon Q 130 [.ref (o + 6), .int law, .int a2, .int a3, .int k, .int v] [] J L R := fun hq => by
    refine w_X2_reckon_130 ho (fun _ => ?_) (fun q => absurd q n6)
    refine w_X2_reckon_171 ho hR5 hR5 (vin (by omega) (by omega)) hR5 (vin (by omega) (by omega)) (P := fun y J' L' R' => J' = J ∧ L' = L ∧ R' = R ∧ y = aOp k a b) ?_ (fun y J' L' R' hy => ?_)
    · rw [ea, eb]
      exact cJoin (d := d) hk hq
    · obtain ⟨rfl, rfl, rfl, rfl⟩ := hy
      refine w_X2_reckon_195 ho (vin (by omega) (by omega)) (w_X2_reckon_199 ho (kS hq _ _ (fun k q => by rw [qUp_ro q]; exact hJ k q) ?_ t3))
      rw [qUp_row, tcn, t2, Int.toNat_natCast]
      exact pS_push s3
  refine w_X2_reckon_82 ho (fun _ => w_X2_reckon_106 ho (fun q => absurd (i_lt.mp q) (by rw [show (2 : Int32).toInt = 2 from rfl]; omega)) (fun _ => w_X2_reckon_111 ho (fun q5 => go (fun w => q5 w.1)) (fun q5 => w_X2_reckon_117 ho hR5 (vin (by omega) (by omega)) (fun qb => ?_) (fun qb => ?_)))) (fun q => absurd q n7)
  · rw [e1] at qb
    exact go (fun w => qb w.2)
  · rw [e1] at qb
    exact w_X2_reckon_128 ho (kN ⟨q5, qb⟩)
end
end
section
/-! ===== the class reckons a law: its parts one behind the other ===== -/
/-- what a law comes to -/
def aVal (e : Nat → Int32) (w : pC) : Option Int32 := match aEv e w [] with
  | some (x :: _) => some x
  | _ => none
def aRun (e : Nat → Int32) : List (pC × pC × pC) → pC → Int32
  | [], w => (aVal e w).getD 0
  | b :: r, w => match aVal e b.1, aVal e b.2.1 with
    | some x, some y => if x < y then (aVal e b.2.2).getD 0 else aRun e r w
    | _, _ => 0
theorem aX_val {w : pC} {n : Nat} {f : (Nat → Int32) → Option Int32} (h : aX w n f) (e : Nat → Int32) : aVal e w = f e ∧ ∀ st, aEv e w st = (aVal e w).map (fun x => x :: st) := by
  have e0 := h.2.2.2 e []
  have ev : aVal e w = f e := by
    unfold aVal
    rw [e0]
    cases f e <;> rfl
  exact ⟨ev, fun st => by rw [ev]; exact h.2.2.2 e st⟩
/-- a law that may be told -/
def aWf (w : aLw) : Prop := (∀ b ∈ w.1, (∃ f, aX b.1 15 f) ∧ (∃ f, aX b.2.1 15 f) ∧ ∃ f, aX b.2.2 15 f) ∧ ∃ f, aX w.2 15 f
section
variable {l : Launch} {G : qG} {d : Nat} {I : qMI} {L : qML} {R : qMR} {o : Nat}
theorem rkFew (ho : o = 9 ∨ o = 259) {Q : qQ} {J : qMI} {law a2 a3 k v : Int32} (hk : 2 ≤ k.toInt ∧ k.toInt ≤ 5) (ht : a2.toInt < 2) (kN : Q (some (.int 0)) 336 J L R) : wkB l G (d + 1 + 1) n_X2_reckon Q 82 [.ref (o + 6), .int law, .int a2, .int a3, .int k, .int v] [] J L R := by
  have n7 : ¬ k = 7 := fun w => by rw [w] at hk; exact absurd hk.2 (by decide)
  exact w_X2_reckon_82 ho (fun _ => w_X2_reckon_106 ho (fun _ => w_X2_reckon_128 ho kN) (fun q => absurd (i_lt.mpr (by rw [show (2 : Int32).toInt = 2 from rfl]; exact ht)) q)) (fun q => absurd q n7)
theorem rkW (ho : o = 9 ∨ o = 259) (hR : cRl R o) (hR4 : R (o + 6) 4 = some (o + 10)) (hR5 : R (o + 6) 5 = some (o + 11)) {Q : qQ} {law : Int32} (hb : 0 ≤ (I (o + 6) 2).toInt ∧ (I (o + 6) 2).toInt ≤ 420) : ∀ (w P T : pC) (st : List Int32) (J : qMI) (a2 a3 : Int32), cCd o I = P ++ (w ++ T) → a3.toInt = P.length → cRk o I J → pS (J (o + 11)) st → a2.toInt = st.length → (∀ c ∈ w, aC c) → (∀ pre suf, w = pre ++ suf → (st.length : Int) + aG pre ≤ 20) → (aEv (I (o + 10)) w st = none → ∀ J', cRk o I J' → Q (some (.int 0)) 336 J' L R) → (∀ (st' : List Int32) (J' : qMI) (t a : Int32), aEv (I (o + 10)) w st = some st' → cRk o I J' → pS (J' (o + 11)) st' → t.toInt = st'.length → a.toInt = P.length + w.length → wkB l G (d + 1 + 1) n_X2_reckon Q 9 [.ref (o + 6), .int law, .int t, .int a, wkU, wkU] [] J' L R) → wkB l G (d + 1 + 1) n_X2_reckon Q 9 [.ref (o + 6), .int law, .int a2, .int a3, wkU, wkU] [] J L R
  | [], P, T, st, J, a2, a3, _, h3, hJ, hs, ht, _, _, _, kS => kS st J a2 a3 rfl hJ hs ht (by rw [h3, List.length_nil]; omega)
  | (k, v) :: w, P, T, st, J, a2, a3, hc, h3, hJ, hs, ht, hC, hg, kN, kS => by
    have hat : (cCd o I)[P.length]? = some (k, v) := by
      rw [hc, List.getElem?_append_right (Nat.le_refl _), Nat.sub_self]
      rfl
    have hPl : P.length < (I (o + 6) 2).toInt.toNat := by
      have := (List.getElem?_eq_some_iff.mp hat).1
      rw [cCd_len] at this
      exact this
    have hc' : cCd o I = (P ++ [(k, v)]) ++ (w ++ T) := by rw [hc, List.append_assoc]; rfl
    have s3 : (a3 + 1).toInt = ((P ++ [(k, v)]).length : Nat) := by rw [i_s (by omega), h3, List.length_append, List.length_singleton]; omega
    have hC0 : aC (k, v) := hC (k, v) List.mem_cons_self
    have next : ∀ (s1 : List Int32) (J1 : qMI) (t1 : Int32), aSt (I (o + 10)) (k, v) st = some s1 → (s1.length : Int) = st.length + (if k = 0 ∨ k = 1 then 1 else -1) → cRk o I J1 → pS (J1 (o + 11)) s1 → t1.toInt = s1.length → wkB l G (d + 1 + 1) n_X2_reckon Q 9 [.ref (o + 6), .int law, .int t1, .int (a3 + 1), wkU, wkU] [] J1 L R := fun s1 J1 t1 e1 el j1 p1 q1 => by
      have eo : aEv (I (o + 10)) ((k, v) :: w) st = aEv (I (o + 10)) w s1 := by rw [aEv, e1]; rfl
      refine rkW ho hR hR4 hR5 hb w (P ++ [(k, v)]) T s1 J1 t1 (a3 + 1) hc' s3 j1 p1 q1 (fun c hx => hC c (List.mem_cons_of_mem _ hx)) (fun pre suf q => ?_) (fun q => kN (by rw [eo]; exact q)) (fun st' J' t a q => ?_)
      · have := hg ((k, v) :: pre) suf (by rw [q]; rfl)
        rw [aG] at this
        have this : (st.length : Int) + ((if k = 0 ∨ k = 1 then 1 else -1) + aG pre) ≤ 20 := this
        omega
      · intro x1 x2 x3 x4
        exact kS st' J' t a (by rw [eo]; exact q) x1 x2 x3 (by rw [x4, List.length_append, List.length_singleton, List.length_cons]; omega)
    have g0 : (st.length : Int) ≤ 20 := by
      have := hg [] ((k, v) :: w) rfl
      rw [aG] at this
      omega
    refine rkAt (d := d + 1) ho hR hb hJ h3 hat (fun q => ?_) (fun q => ?_)
    · have n0 : ¬ k = 0 := fun w => by rw [w] at q; exact absurd q (by decide)
      have n1 : ¬ k = 1 := fun w => by rw [w] at q; exact absurd q (by decide)
      have hk : 2 ≤ k.toInt ∧ k.toInt ≤ 5 := by
        rcases hC0 with h | h | h
        · exact absurd h n0
        · exact absurd h.1 n1
        · exact h
      have bad : aSt (I (o + 10)) (k, v) st = none → Q (some (.int 0)) 336 J L R := fun e => kN (by rw [aEv, e]; rfl) J hJ
      rcases st with _ | ⟨b, _ | ⟨a, r⟩⟩
      · exact rkFew ho hk (by rw [ht]; decide) (bad (by unfold aSt; rw [if_neg n0, if_neg n1]))
      · exact rkFew ho hk (by rw [ht, List.length_singleton]; decide) (bad (by unfold aSt; rw [if_neg n0, if_neg n1]))
      · have es : aSt (I (o + 10)) (k, v) (b :: a :: r) = if k = 5 ∧ b = 0 then none else some (aOp k a b :: r) := by
          unfold aSt
          rw [if_neg n0, if_neg n1]
        rw [List.length_cons, List.length_cons] at ht g0
        refine rkOp (d := d) ho hR5 hJ hk hs (by omega) (by omega) (fun w => bad (by rw [es, if_pos w])) (fun w J' t x1 x2 x3 => next _ J' t (by rw [es, if_neg w]) ?_ x1 x2 (by rw [x3, List.length_cons]; omega))
        rw [if_neg (fun w => w.elim n0 n1), List.length_cons, List.length_cons, List.length_cons]
        omega
    · have hk : k = 0 ∨ (k = 1 ∧ 0 ≤ v.toInt ∧ v.toInt < 9) := by
        rcases hC0 with h | h | h
        · exact Or.inl h
        · exact Or.inr h
        · have : 2 ≤ k.toInt := h.1
          omega
      have k01 : k = 0 ∨ k = 1 := hk.imp id (fun w => w.1)
      have hl : st.length < 20 := by
        have := hg [(k, v)] w rfl
        rw [aG, aG] at this
        have this : (st.length : Int) + ((if k = 0 ∨ k = 1 then 1 else -1) + 0) ≤ 20 := this
        rw [if_pos k01] at this
        omega
      refine rkPush (d := d) ho hR4 hR5 hJ hk hs ht hl (fun J' t x1 x2 x3 => next _ J' t ?_ ?_ x1 x2 (by rw [x3, List.length_cons]; omega))
      · unfold aSt
        by_cases k0 : k = 0
        · rw [if_pos k0, if_pos k0]
        · rw [if_neg k0, if_neg k0, if_pos (k01.resolve_left k0)]
      · rw [if_pos k01, List.length_cons]
        omega
/-- a test and what it leads to -/
theorem rkTest (ho : o = 9 ∨ o = 259) (hR5 : R (o + 6) 5 = some (o + 11)) {Q : qQ} {J : qMI} {law a2 a3 x y : Int32} {T : Nat} (hT : T ≤ 420) (h3 : 0 ≤ a3.toInt ∧ a3.toInt ≤ T) (hs : pS (J (o + 11)) [y, x]) (ht : a2.toInt = 2) (kt : x < y → wkB l G (d + 1 + 1) n_X2_reckon Q 9 [.ref (o + 6), .int law, .int (a2 + (-2)), .int a3, wkU, wkU] [] J L R) (kf : ¬ x < y → wkB l G (d + 1 + 1) n_X2_reckon Q 9 [.ref (o + 6), .int law, .int (a2 + (-2)), .int (Int32.ofNat T), wkU, wkU] [] J L R) : wkB l G (d + 1 + 1) n_X2_reckon Q 82 [.ref (o + 6), .int law, .int a2, .int a3, .int 6, .int (Int32.ofNat T)] [] J L R := by
  obtain ⟨s1, s2, -⟩ := hs
  have s1 : J (o + 11) 1 = y := s1
  have s2 : J (o + 11) 0 = x := s2
  have t2 : (a2 + (-2)).toInt = 0 := by rw [i_add (y := -2) (by rw [show (-2 : Int32).toInt = -2 from rfl]; omega) (by rw [show (-2 : Int32).toInt = -2 from rfl]; omega), show (-2 : Int32).toInt = -2 from rfl]; omega
  have t3 : (a2 + (-2) + 1).toInt = 1 := by rw [i_s (by omega)]; omega
  have ea : J (o + 11) (a2 + (-2)).toNatClampNeg = x := by rw [tcn, t2]; exact s2
  have eb : J (o + 11) (a2 + (-2) + 1).toNatClampNeg = y := by rw [tcn, t3]; exact s1
  have eT : (Int32.ofNat T).toInt = T := Int32.toInt_ofNat_of_lt (by omega)
  refine w_X2_reckon_82 ho (fun _ => w_X2_reckon_106 ho (fun q => absurd (i_lt.mp q) (by rw [show (2 : Int32).toInt = 2 from rfl]; omega)) (fun _ => w_X2_reckon_111 ho (fun _ => w_X2_reckon_130 ho (fun q => absurd rfl q) (fun _ => w_X2_reckon_140 ho hR5 (vin (by omega) (by omega)) hR5 (vin (by omega) (by omega)) (fun q => ?_) (fun q => ?_))) (fun q => absurd q (by decide)))) (fun q => absurd q (by decide))
  · rw [ea, eb] at q
    refine w_X2_reckon_161 ho (w_X2_reckon_167 ho (w_X2_reckon_199 ho ?_))
    have e : (if a3 < Int32.ofNat T then Int32.ofNat T else a3) = Int32.ofNat T := by
      by_cases c : a3 < Int32.ofNat T
      · rw [if_pos c]
      · rw [if_neg c]
        have c : ¬ _ := fun w => c (i_lt.mpr w)
        exact i_eq.mpr (by omega)
    rw [e]
    exact kf (Int32.not_lt.mpr q)
  · rw [ea, eb] at q
    exact w_X2_reckon_157 ho (w_X2_reckon_167 ho (w_X2_reckon_199 ho (kt (Int32.not_le.mp q))))
/-- the end of a law -/
theorem rkGive (ho : o = 9 ∨ o = 259) (hR5 : R (o + 6) 5 = some (o + 11)) {Q : qQ} {J : qMI} {law a2 a3 v x : Int32} (hs : pS (J (o + 11)) [x]) (ht : a2.toInt = 1) (k : Q (some (.int x)) 336 J L R) : wkB l G (d + 1 + 1) n_X2_reckon Q 82 [.ref (o + 6), .int law, .int a2, .int a3, .int 7, .int v] [] J L R := by
  have s1 : J (o + 11) 0 = x := hs.1
  have t1 : (a2 - 1).toInt = 0 := by rw [i_sub (y := 1) (by rw [show (1 : Int32).toInt = 1 from rfl]; omega) (by rw [show (1 : Int32).toInt = 1 from rfl]; omega), show (1 : Int32).toInt = 1 from rfl]; omega
  refine w_X2_reckon_82 ho (fun q => absurd rfl q) (fun _ => w_X2_reckon_89 ho (fun q => ?_) (fun _ => w_X2_reckon_93 ho hR5 (vin (by omega) (by omega)) (w_X2_reckon_105 ho ?_)))
  · have q := i_le.mp q
    rw [show (0 : Int32).toInt = 0 from rfl] at q
    omega
  · rw [tcn, t1]
    rw [show (0 : Int).toNat = 0 from rfl, s1]
    exact k
end
end
section
/-! ===== the class reckons a law, whole ===== -/
section
variable {l : Launch} {G : qG} {d : Nat} {I : qMI} {L : qML} {R : qMR} {o : Nat}
theorem rkLaw (ho : o = 9 ∨ o = 259) (hR : cRl R o) (hR4 : R (o + 6) 4 = some (o + 10)) (hR5 : R (o + 6) 5 = some (o + 11)) {law : Int32} (hb : 0 ≤ (I (o + 6) 2).toInt ∧ (I (o + 6) 2).toInt ≤ 420) {last : pC} (hl : ∃ f, aX last 15 f) {Q : qQ} : ∀ (brs : List (pC × pC × pC)) (P T : pC) (J : qMI) (a2 a3 : Int32), (∀ b ∈ brs, (∃ f, aX b.1 15 f) ∧ (∃ f, aX b.2.1 15 f) ∧ ∃ f, aX b.2.2 15 f) → cCd o I = P ++ (cmpl P.length brs last ++ T) → a3.toInt = P.length → cRk o I J → a2.toInt = 0 → (∀ J', cRk o I J' → Q (some (.int (aRun (I (o + 10)) brs last))) 336 J' L R) → wkB l G (d + 1 + 1) n_X2_reckon Q 9 [.ref (o + 6), .int law, .int a2, .int a3, wkU, wkU] [] J L R := by
  -- an expression, and the end behind it
  have give : ∀ (w P T : pC) (J : qMI) (a2 a3 : Int32), (∃ f, aX w 15 f) → cCd o I = P ++ (w ++ ((7, 0) :: T)) → a3.toInt = P.length → cRk o I J → a2.toInt = 0 → (∀ J', cRk o I J' → Q (some (.int ((aVal (I (o + 10)) w).getD 0))) 336 J' L R) → wkB l G (d + 1 + 1) n_X2_reckon Q 9 [.ref (o + 6), .int law, .int a2, .int a3, wkU, wkU] [] J L R := by
    intro w P T J a2 a3 hx hc h3 hJ h2 k
    obtain ⟨f, hx⟩ := hx
    obtain ⟨-, ev⟩ := aX_val hx (I (o + 10))
    refine rkW (d := d) ho hR hR4 hR5 hb w P ((7, 0) :: T) [] J a2 a3 hc h3 hJ trivial h2 hx.1 (fun pre suf q => by have := hx.2.2.1 pre suf q; rw [List.length_nil]; omega) (fun q J' j' => ?_) (fun st' J' t a q j' p' ht ha => ?_)
    · rw [ev []] at q
      have : aVal (I (o + 10)) w = none := by
        cases h : aVal (I (o + 10)) w with
        | none => rfl
        | some x => rw [h] at q; cases q
      have kk := k J' j'
      rw [this] at kk
      exact kk
    · rw [ev []] at q
      cases h : aVal (I (o + 10)) w with
      | none => rw [h] at q; cases q
      | some x =>
        rw [h] at q
        have q : some [x] = some st' := q
        injection q with q
        subst q
        have hat : (cCd o I)[(P ++ w).length]? = some (7, 0) := by
          rw [hc, ← List.append_assoc, List.getElem?_append_right (Nat.le_refl _), Nat.sub_self]
          rfl
        refine rkAt (d := d + 1) ho hR hb j' (n := (P ++ w).length) (by rw [ha, List.length_append]; omega) hat (fun _ => rkGive (d := d) ho hR5 p' (by rw [ht]; rfl) ?_) (fun w => absurd w (by decide))
        have kk := k J' j'
        rw [h] at kk
        exact kk
  intro brs
  induction brs with
  | nil =>
    intro P T J a2 a3 hB hc h3 hJ h2 k
    rw [cmpl, List.append_assoc] at hc
    exact give last P T J a2 a3 hl hc h3 hJ h2 k
  | cons b r ih =>
    intro P T J a2 a3 hB hc h3 hJ h2 k
    obtain ⟨⟨f1, x1⟩, ⟨f2, x2⟩, x3⟩ := hB b List.mem_cons_self
    obtain ⟨-, ev1⟩ := aX_val x1 (I (o + 10))
    obtain ⟨-, ev2⟩ := aX_val x2 (I (o + 10))
    rw [cmpl] at hc
    unfold cB at hc
    generalize hT : P.length + b.1.length + b.2.1.length + b.2.2.length + 2 = T0 at hc
    have hlen := congrArg List.length hc
    simp only [List.length_append, List.length_cons, List.length_nil, cCd_len] at hlen
    have hc1 : cCd o I = P ++ (b.1 ++ (b.2.1 ++ (6, Int32.ofNat T0) :: (b.2.2 ++ ((7, 0) :: (cmpl T0 r last ++ T))))) := by
      rw [hc]
      simp only [List.append_assoc, List.cons_append, List.nil_append]
    have hc2 : cCd o I = (P ++ b.1) ++ (b.2.1 ++ (6, Int32.ofNat T0) :: (b.2.2 ++ ((7, 0) :: (cmpl T0 r last ++ T)))) := by rw [hc1, List.append_assoc]
    have hc3 : cCd o I = ((P ++ b.1) ++ b.2.1) ++ (6, Int32.ofNat T0) :: (b.2.2 ++ ((7, 0) :: (cmpl T0 r last ++ T))) := by rw [hc2, ← List.append_assoc]
    have hc4 : cCd o I = (((P ++ b.1) ++ b.2.1) ++ [(6, Int32.ofNat T0)]) ++ (b.2.2 ++ ((7, 0) :: (cmpl T0 r last ++ T))) := by
      rw [hc3]
      simp only [List.append_assoc, List.cons_append, List.nil_append]
    have l5 : ((((P ++ b.1) ++ b.2.1) ++ [(6, Int32.ofNat T0)]) ++ (b.2.2 ++ [(7, 0)])).length = T0 := by
      simp only [List.length_append, List.length_cons, List.length_nil]
      omega
    have hc5 : cCd o I = ((((P ++ b.1) ++ b.2.1) ++ [(6, Int32.ofNat T0)]) ++ (b.2.2 ++ [(7, 0)])) ++ (cmpl ((((P ++ b.1) ++ b.2.1) ++ [(6, Int32.ofNat T0)]) ++ (b.2.2 ++ [(7, 0)])).length r last ++ T) := by
      rw [l5, hc4]
      simp only [List.append_assoc, List.cons_append, List.nil_append]
    have bad : aVal (I (o + 10)) b.1 = none ∨ aVal (I (o + 10)) b.2.1 = none → aRun (I (o + 10)) (b :: r) last = 0 := fun q => by
      rw [aRun]
      rcases q with q | q
      · rw [q]
      · rw [q]
        cases aVal (I (o + 10)) b.1 <;> rfl
    refine rkW (d := d) ho hR hR4 hR5 hb b.1 P _ [] J a2 a3 hc1 h3 hJ trivial h2 x1.1 (fun pre suf q => by have := x1.2.2.1 pre suf q; rw [List.length_nil]; omega) (fun q J' j' => ?_) (fun st' J1 t1 a1 q j1 p1 ht1 ha1 => ?_)
    · rw [ev1 []] at q
      have e : aVal (I (o + 10)) b.1 = none := by
        cases h : aVal (I (o + 10)) b.1 with
        | none => rfl
        | some x => rw [h] at q; cases q
      rw [← bad (Or.inl e)]
      exact k J' j'
    rw [ev1 []] at q
    cases e1 : aVal (I (o + 10)) b.1 with
    | none => rw [e1] at q; cases q
    | some x =>
      rw [e1] at q
      have q : some [x] = some st' := q
      injection q with q
      subst q
      refine rkW (d := d) ho hR hR4 hR5 hb b.2.1 (P ++ b.1) _ [x] J1 t1 a1 hc2 (by rw [ha1, List.length_append]; omega) j1 p1 ht1 x2.1 (fun pre suf q => by have := x2.2.2.1 pre suf q; rw [List.length_singleton]; omega) (fun q J' j' => ?_) (fun st' J2 t2 a4 q j2 p2 ht2 ha2 => ?_)
      · rw [ev2 [x]] at q
        have e : aVal (I (o + 10)) b.2.1 = none := by
          cases h : aVal (I (o + 10)) b.2.1 with
          | none => rfl
          | some y => rw [h] at q; cases q
        rw [← bad (Or.inr e)]
        exact k J' j'
      rw [ev2 [x]] at q
      cases e2 : aVal (I (o + 10)) b.2.1 with
      | none => rw [e2] at q; cases q
      | some y =>
        rw [e2] at q
        have q : some [y, x] = some st' := q
        injection q with q
        subst q
        have hat : (cCd o I)[((P ++ b.1) ++ b.2.1).length]? = some (6, Int32.ofNat T0) := by
          rw [hc3, List.getElem?_append_right (Nat.le_refl _), Nat.sub_self]
          rfl
        have ha4 : a4.toInt = ((P ++ b.1) ++ b.2.1).length := by rw [ha2]; simp only [List.length_append]; omega
        have l4 : ((P ++ b.1) ++ b.2.1).length = P.length + b.1.length + b.2.1.length := by simp only [List.length_append]
        have s4 : (a4 + 1).toInt = ((((P ++ b.1) ++ b.2.1) ++ [((6 : Int32), Int32.ofNat T0)]).length : Nat) := by
          rw [i_s (by omega), ha4, List.length_append (as := (P ++ b.1) ++ b.2.1), List.length_singleton]
          omega
        have t0 : (t2 + (-2)).toInt = 0 := by
          have ht2 : t2.toInt = 2 := ht2
          rw [i_add (y := -2) (by rw [show (-2 : Int32).toInt = -2 from rfl]; omega) (by rw [show (-2 : Int32).toInt = -2 from rfl]; omega), show (-2 : Int32).toInt = -2 from rfl]
          omega
        have er : aRun (I (o + 10)) (b :: r) last = if x < y then (aVal (I (o + 10)) b.2.2).getD 0 else aRun (I (o + 10)) r last := by
          rw [aRun, e1, e2]
        refine rkAt (d := d + 1) ho hR hb j2 (n := ((P ++ b.1) ++ b.2.1).length) ha4 hat (fun _ => rkTest (d := d) ho hR5 (T := T0) (by omega) (by rw [i_s (by omega)]; omega) p2 ht2 (fun c => ?_) (fun c => ?_)) (fun w => absurd w (by decide))
        · rw [er, if_pos c] at k
          exact give b.2.2 _ _ J2 _ _ x3 hc4 s4 j2 t0 k
        · rw [er, if_neg c] at k
          exact ih _ T J2 _ _ (fun b' hb' => hB b' (List.mem_cons_of_mem _ hb')) hc5 (by rw [l5]; exact Int32.toInt_ofNat_of_lt (by omega)) j2 t0 k
theorem cReckon (ho : o = 9 ∨ o = 259) (hR : cRl R o) (hR4 : R (o + 6) 4 = some (o + 10)) (hR5 : R (o + 6) 5 = some (o + 11)) {k : Int32} (hk : 0 ≤ k.toInt ∧ k.toInt < 5) (hb : 0 ≤ (I (o + 6) 2).toInt ∧ (I (o + 6) 2).toInt ≤ 420) {w : aLw} (hp : cPrg o I k.toInt.toNat w) (hw : aWf w) : wkCi l G (d + 2) n_X2_reckon [.ref (o + 6), .int k] I L R (fun y I' L' R' => R' = R ∧ L' = L ∧ cRk o I I' ∧ y = aRun (I (o + 10)) w.1 w.2) := by
  obtain ⟨pre, suf, e1, e2⟩ := hp
  have hlen := congrArg List.length e1
  rw [List.length_append, cCd_len] at hlen
  have ea : I (o + 9) k.toNatClampNeg = Int32.ofNat pre.length := by rw [tcn]; exact e2
  refine wkC_of 4 (by decide) (Nat.le_of_ble_eq_true rfl) (w_X2_reckon_0 ho hR.2.2.2.2.2 (vin hk.1 (by omega)) ?_)
  rw [ea]
  exact rkLaw (d := d) ho hR hR4 hR5 hb hw.2 w.1 pre suf I 0 _ hw.1 e1 (Int32.toInt_ofNat_of_lt (by omega)) (fun _ _ => rfl) rfl (fun J' j' => ⟨rfl, _, rfl, rfl, rfl, j', rfl⟩)
end
end
