/-! ===== walking by hand: locals by their places, contracts of one memory's size ===== -/
section QW
variable {l : Launch} {G : qG} {d : Nat} {M : qMn} {Q : qQ} {pc : Nat} {vs : List Value} {st : List Value} {I : qMI} {L : qML} {R : qMR}
/-- a local of which nothing is known -/
def wkU : Value := .retAddr 0
def wkHas (vs : List Value) (lv : qLv) : Prop := ∀ (i : Nat) v, vs[i]? = some v → v ≠ wkU → qLk i lv = some v
def wkB (l : Launch) (G : qG) (d : Nat) (M : qMn) (Q : qQ) (pc : Nat) (vs st : List Value) (I : qMI) (L : qML) (R : qMR) : Prop := ∀ lv, wkHas vs lv → qAb l G d M Q pc lv st 0 0 336 I L R
/-- contracts: nothing is made; what comes back, and the memory -/
def wkC (l : Launch) (G : qG) (d : Nat) (N : qMn) (as : List Value) (I : qMI) (L : qML) (R : qMR) (P : Option Value → qMI → qML → qMR → Prop) : Prop := qCall l G d N as 336 I L R (fun r t I' L' R' => t = 336 ∧ P r I' L' R')
def wkCi (l : Launch) (G : qG) (d : Nat) (N : qMn) (as : List Value) (I : qMI) (L : qML) (R : qMR) (P : Int32 → qMI → qML → qMR → Prop) : Prop := wkC l G d N as I L R (fun r I' L' R' => ∃ y, r = some (.int y) ∧ P y I' L' R')
def wkCl (l : Launch) (G : qG) (d : Nat) (N : qMn) (as : List Value) (I : qMI) (L : qML) (R : qMR) (P : Int64 → qMI → qML → qMR → Prop) : Prop := wkC l G d N as I L R (fun r I' L' R' => ∃ y, r = some (.long y) ∧ P y I' L' R')
def wkCv (l : Launch) (G : qG) (d : Nat) (N : qMn) (as : List Value) (I : qMI) (L : qML) (R : qMR) (P : qMI → qML → qMR → Prop) : Prop := wkC l G d N as I L R (fun r I' L' R' => r = none ∧ P I' L' R')
theorem wkC.mono {N : qMn} {as : List Value} {P P' : Option Value → qMI → qML → qMR → Prop} (h : wkC l G d N as I L R P) (k : ∀ r I' L' R', P r I' L' R' → P' r I' L' R') : wkC l G d N as I L R P' := qCall_mono h (fun r t' I' L' R' hq => ⟨hq.1, k _ _ _ _ hq.2⟩)
theorem wkCi.mono {N : qMn} {as : List Value} {P P' : Int32 → qMI → qML → qMR → Prop} (h : wkCi l G d N as I L R P) (k : ∀ r I' L' R', P r I' L' R' → P' r I' L' R') : wkCi l G d N as I L R P' := wkC.mono h (fun r I' L' R' hq => by obtain ⟨y, e, hp⟩ := hq; exact ⟨y, e, k _ _ _ _ hp⟩)
theorem wkCv.mono {N : qMn} {as : List Value} {P P' : qMI → qML → qMR → Prop} (h : wkCv l G d N as I L R P) (k : ∀ I' L' R', P I' L' R' → P' I' L' R') : wkCv l G d N as I L R P' := wkC.mono h (fun r I' L' R' hq => ⟨hq.1, k _ _ _ hq.2⟩)
/-- the arguments as locals -/
def wkAs : List Value → List Value
  | [] => []
  | v :: as => if v.category = 2 then v :: wkU :: wkAs as else v :: wkAs as
theorem wkAs_has (as : List Value) : ∀ i, ∃ lv, lv_args i (as.map (qTv G)) = qLm G lv ∧ (∀ j v, (wkAs as)[j]? = some v → v ≠ wkU → qLk (i + j) lv = some v) ∧ ∀ j, j < i → qLk j lv = none := by
  induction as with
  | nil => exact fun i => ⟨[], rfl, fun j v h => by simp [wkAs] at h, fun j _ => rfl⟩
  | cons v as ih =>
    intro i
    have e1 : lv_args i ((v :: as).map (qTv G)) = (i, qTv G v) :: lv_args (if v.category = 2 then i + 2 else i + 1) (as.map (qTv G)) := by
      show (i, qTv G v) :: lv_args (if (qTv G v).category = 2 then i + 2 else i + 1) (as.map (qTv G)) = _
      rw [qTv_cat]
    by_cases hc : v.category = 2
    · obtain ⟨lv, a1, a2, a3⟩ := ih (i + 2)
      refine ⟨(i, v) :: lv, by rw [e1, if_pos hc, a1]; rfl, fun j w hj hw => ?_, fun j hj => ?_⟩
      · unfold wkAs at hj
        rw [if_pos hc] at hj
        cases j with
        | zero =>
          simp at hj
          subst hj
          unfold qLk
          rw [if_pos (by omega)]
        | succ j =>
          cases j with
          | zero => simp at hj; exact absurd hj.symm hw
          | succ j =>
            unfold qLk
            rw [if_neg (by omega), show i + (j + 1 + 1) = i + 2 + j by omega]
            exact a2 j w (by simpa using hj) hw
      · unfold qLk
        rw [if_neg (by omega)]
        exact a3 j (by omega)
    · obtain ⟨lv, a1, a2, a3⟩ := ih (i + 1)
      refine ⟨(i, v) :: lv, by rw [e1, if_neg hc, a1]; rfl, fun j w hj hw => ?_, fun j hj => ?_⟩
      · unfold wkAs at hj
        rw [if_neg hc] at hj
        cases j with
        | zero =>
          simp at hj
          subst hj
          unfold qLk
          rw [if_pos (by omega)]
        | succ j =>
          unfold qLk
          rw [if_neg (by omega), show i + (j + 1) = i + 1 + j by omega]
          exact a2 j w (by simpa using hj) hw
      · unfold qLk
        rw [if_neg (by omega)]
        exact a3 j (by omega)
theorem wkAs_len (as : List Value) : (lg_sl (as.map (qTv G))).length = qCat as := by
  induction as with
  | nil => rfl
  | cons v as ih =>
    have e : qCat (v :: as) = v.category + qCat as := rfl
    rw [e, ← ih]
    unfold lg_sl
    rw [List.map_cons, List.flatMap_cons, List.length_append, qTv_cat]
    cases v <;> rfl
/-- fewer locals known -/
theorem wkB_sub {vs' : List Value} (h : ∀ (i : Nat) v, vs'[i]? = some v → v ≠ wkU → vs[i]? = some v) (k : wkB l G d M Q pc vs' st I L R) : wkB l G d M Q pc vs st I L R := fun lv hl => k lv (fun i v h1 h2 => hl i v (h i v h1 h2) h2)
/-- a contract out of the walk: the arguments, and as many unknown as there are more locals -/
theorem wkC_of {as : List Value} {P : Option Value → qMI → qML → qMR → Prop} (n : Nat) (hy : plainName M.1.cls = true) (hn : qCat as ≤ M.2.2.1) (h : wkB l G d M (fun r t I' L' R' => t = 336 ∧ P r I' L' R') 0 (wkAs as ++ List.replicate n wkU) [] I L R) : wkC l G d M as I L R P := by
  obtain ⟨lv, a1, a2, -⟩ := wkAs_has (G := G) as 0
  refine qCall_of hy (by rw [wkAs_len]; exact hn) lv a1 (h lv (fun j v hj hv => ?_))
  rw [List.getElem?_append] at hj
  by_cases hlt : j < (wkAs as).length
  · rw [if_pos hlt] at hj
    have := a2 j v hj hv
    rwa [Nat.zero_add] at this
  · rw [if_neg hlt] at hj
    have := List.mem_of_getElem? hj
    rw [List.mem_replicate] at this
    exact absurd this.2 hv
theorem bb_lift {pc' : Nat} {st' : List Value} {I' : qMI} {L' : qML} {R' : qMR} (f : ∀ lv, qAb l G d M Q pc' lv st' 0 0 336 I' L' R' → qAb l G d M Q pc lv st 0 0 336 I L R) (k : wkB l G d M Q pc' vs st' I' L' R') : wkB l G d M Q pc vs st I L R := fun lv hl => f lv (k lv hl)
theorem wkU_i (x : Int32) : Value.int x ≠ wkU := fun h => by cases h
theorem wkU_l (x : Int64) : Value.long x ≠ wkU := fun h => by cases h
theorem wkU_r (x : Nat) : Value.ref x ≠ wkU := fun h => by cases h
theorem bb_iload_n {n : Fin 4} {i : Nat} {x : Int32} (hd : decode M.2.1 pc = .ok (.iload_n n, 1)) (hi : (n : Nat) = i) (hv : vs[i]? = some (.int x)) (k : wkB l G d M Q (pc + 1) vs (.int x :: st) I L R) : wkB l G d M Q pc vs st I L R := fun lv hl => q_iload_n hd hi (hl i _ hv (wkU_i x)) (k lv hl)
theorem bb_iload {i : Nat} {x : Int32} (hd : decode M.2.1 pc = .ok (.iload i, 2)) (hv : vs[i]? = some (.int x)) (k : wkB l G d M Q (pc + 2) vs (.int x :: st) I L R) : wkB l G d M Q pc vs st I L R := fun lv hl => q_iload hd (hl i _ hv (wkU_i x)) (k lv hl)
theorem bb_aload_n {n : Fin 4} {i a : Nat} (hd : decode M.2.1 pc = .ok (.aload_n n, 1)) (hi : (n : Nat) = i) (hv : vs[i]? = some (.ref a)) (k : wkB l G d M Q (pc + 1) vs (.ref a :: st) I L R) : wkB l G d M Q pc vs st I L R := fun lv hl => q_aload_n hd hi (hl i _ hv (wkU_r a)) rfl (k lv hl)
theorem bb_lload_n {n : Fin 4} {i : Nat} {x : Int64} (hd : decode M.2.1 pc = .ok (.lload_n n, 1)) (hi : (n : Nat) = i) (hv : vs[i]? = some (.long x)) (k : wkB l G d M Q (pc + 1) vs (.long x :: st) I L R) : wkB l G d M Q pc vs st I L R := fun lv hl => q_lload_n hd hi (hl i _ hv (wkU_l x)) (k lv hl)
theorem bb_lload {i : Nat} {x : Int64} (hd : decode M.2.1 pc = .ok (.lload i, 2)) (hv : vs[i]? = some (.long x)) (k : wkB l G d M Q (pc + 2) vs (.long x :: st) I L R) : wkB l G d M Q pc vs st I L R := fun lv hl => q_lload hd (hl i _ hv (wkU_l x)) (k lv hl)
/-- no long lies just below -/
def wkNl (vs : List Value) (i : Nat) : Prop := ∀ w, i ≠ 0 → vs[i - 1]? = some w → w ≠ wkU → w.category ≠ 2
theorem wkHas_st {i : Nat} {v : Value} {lv : qLv} (hl : wkHas vs lv) (hp : wkNl vs i) : wkHas (vs.set i v) ((i, v) :: qDr i lv) := by
  intro j w hj hw
  rw [List.getElem?_set] at hj
  unfold qLk
  by_cases h : i = j
  · rw [if_pos h] at hj ⊢
    split at hj
    · exact hj
    · cases hj
  · rw [if_neg h] at hj ⊢
    exact qLk_dr (hl j w hj hw) (fun e => h e.symm) (fun e => hp w (by omega) (by rw [show i - 1 = j by omega]; exact hj) hw)
theorem bb_istore_n {n : Fin 4} {i : Nat} {x : Int32} (hd : decode M.2.1 pc = .ok (.istore_n n, 1)) (hi : (n : Nat) = i) (hn : i < M.2.2.1) (hp : wkNl vs i) (k : wkB l G d M Q (pc + 1) (vs.set i (.int x)) st I L R) : wkB l G d M Q pc vs (.int x :: st) I L R := fun lv hl => q_istore_n hd hi hn (k _ (wkHas_st hl hp))
theorem bb_istore {i : Nat} {x : Int32} (hd : decode M.2.1 pc = .ok (.istore i, 2)) (hn : i < M.2.2.1) (hp : wkNl vs i) (k : wkB l G d M Q (pc + 2) (vs.set i (.int x)) st I L R) : wkB l G d M Q pc vs (.int x :: st) I L R := fun lv hl => q_istore hd hn (k _ (wkHas_st hl hp))
theorem bb_iinc {i : Nat} {n : Int} {x v : Int32} (hd : decode M.2.1 pc = .ok (.iinc i n, 3)) (hv : Int32.ofInt n = v) (hx : vs[i]? = some (.int x)) (hn : i < M.2.2.1) (hp : wkNl vs i) (k : wkB l G d M Q (pc + 3) (vs.set i (.int (x + v))) st I L R) : wkB l G d M Q pc vs st I L R := fun lv hl => q_iinc hd (hl i _ hx (wkU_i x)) hv hn (k _ (wkHas_st hl hp))
theorem wkHas_st2 {i : Nat} {v : Value} {lv : qLv} (hl : wkHas vs lv) (hp : wkNl vs i) : wkHas ((vs.set (i + 1) wkU).set i v) ((i, v) :: qDr i (qDr2 i lv)) := by
  intro j w hj hw
  rw [List.getElem?_set] at hj
  unfold qLk
  by_cases h : i = j
  · rw [if_pos h] at hj ⊢
    split at hj
    · exact hj
    · cases hj
  · rw [if_neg h] at hj ⊢
    rw [List.getElem?_set] at hj
    by_cases h2 : i + 1 = j
    · rw [if_pos h2] at hj
      split at hj
      · exact absurd (Option.some.inj hj).symm hw
      · cases hj
    · rw [if_neg h2] at hj
      exact qLk_dr (qLk_dr2 (hl j w hj hw) (fun e => h2 e.symm)) (fun e => h e.symm) (fun e => hp w (by omega) (by rw [show i - 1 = j by omega]; exact hj) hw)
theorem bb_lstore_n {n : Fin 4} {i : Nat} {x : Int64} (hd : decode M.2.1 pc = .ok (.lstore_n n, 1)) (hi : (n : Nat) = i) (hn : i + 1 < M.2.2.1) (hp : wkNl vs i) (k : wkB l G d M Q (pc + 1) ((vs.set (i + 1) wkU).set i (.long x)) st I L R) : wkB l G d M Q pc vs (.long x :: st) I L R := fun lv hl => q_lstore_n hd hi hn (k _ (wkHas_st2 hl hp))
theorem bb_lstore {i : Nat} {x : Int64} (hd : decode M.2.1 pc = .ok (.lstore i, 2)) (hn : i + 1 < M.2.2.1) (hp : wkNl vs i) (k : wkB l G d M Q (pc + 2) ((vs.set (i + 1) wkU).set i (.long x)) st I L R) : wkB l G d M Q pc vs (.long x :: st) I L R := fun lv hl => q_lstore hd hn (k _ (wkHas_st2 hl hp))
end QW
