/-! ===== walking by hand: contracts of methods that leave the references alone; fields, arrays, branches, calls ===== -/
section QX
variable {l : Launch} {G : qG} {d : Nat} {M : qMn} {Q : qQ} {pc : Nat} {vs : List Value} {st : List Value} {I : qMI} {L : qML} {R : qMR}
def wkI (l : Launch) (G : qG) (d : Nat) (N : qMn) (as : List Value) (I : qMI) (L : qML) (R : qMR) (P : Int32 → qMI → qML → Prop) : Prop := wkC l G d N as I L R (fun r I' L' R' => R' = R ∧ ∃ y, r = some (.int y) ∧ P y I' L')
def wkJ (l : Launch) (G : qG) (d : Nat) (N : qMn) (as : List Value) (I : qMI) (L : qML) (R : qMR) (P : Int64 → qMI → qML → Prop) : Prop := wkC l G d N as I L R (fun r I' L' R' => R' = R ∧ ∃ y, r = some (.long y) ∧ P y I' L')
def wkV (l : Launch) (G : qG) (d : Nat) (N : qMn) (as : List Value) (I : qMI) (L : qML) (R : qMR) (P : qMI → qML → Prop) : Prop := wkC l G d N as I L R (fun r I' L' R' => R' = R ∧ r = none ∧ P I' L')
theorem wkI.mono {N : qMn} {as : List Value} {P P' : Int32 → qMI → qML → Prop} (h : wkI l G d N as I L R P) (k : ∀ r I' L', P r I' L' → P' r I' L') : wkI l G d N as I L R P' := wkC.mono h (fun r I' L' R' hq => by obtain ⟨h1, y, e, hp⟩ := hq; exact ⟨h1, y, e, k _ _ _ hp⟩)
theorem wkV.mono {N : qMn} {as : List Value} {P P' : qMI → qML → Prop} (h : wkV l G d N as I L R P) (k : ∀ I' L', P I' L' → P' I' L') : wkV l G d N as I L R P' := wkC.mono h (fun r I' L' R' hq => by obtain ⟨h1, e, hp⟩ := hq; exact ⟨h1, e, k _ _ hp⟩)
/-- the posts inside a method -/
abbrev wkPI (R : qMR) (P : Int32 → qMI → qML → Prop) : qQ := fun r t I' L' R' => t = 336 ∧ R' = R ∧ ∃ y, r = some (.int y) ∧ P y I' L'
abbrev wkPV (R : qMR) (P : qMI → qML → Prop) : qQ := fun r t I' L' R' => t = 336 ∧ R' = R ∧ r = none ∧ P I' L'
/-- the reference's rows lie where they were made -/
def wkRl : List Nat := [0, 293, 0, 294, 0, 295, 296, 297, 298, 299, 0, 0, 0, 0, 0, 0, 0, 0, 0, 0, 0, 300, 301, 302, 303, 304, 305, 306, 307, 308, 309, 310, 311, 312, 0, 313, 314, 315, 316, 317, 0, 318, 319, 320, 0, 321, 322, 0, 323, 324, 0, 0, 325, 326, 327, 0, 328, 329, 0, 330, 331, 332, 333, 334, 335]
def wkR (R : qMR) : Prop := ∀ j, wkRl.getD j 0 ≠ 0 → R 292 j = some (wkRl.getD j 0)
theorem bb_geti {k ci j idx : Nat} (hd : decode M.2.1 pc = .ok (.getfield idx, 3)) (hk : k < 336) (hs : (qSh k).1 = ci) (hc : ci < 10) (hj : j < qNF ci) (hq : qIsR (qTy ci j) = false) (hw : Cond.fieldLink M.1.cls idx (qT ci j).1 (qT ci j).2.1 (qT ci j).2.2.1 ∈ gw) (kk : wkB l G d M Q (pc + 3) vs (.int (I k j) :: st) I L R) : wkB l G d M Q pc vs (.ref k :: st) I L R := fun lv hl => q_getf hd hk hs hc hj hw (by rw [if_neg (by rw [hq]; decide)]; exact kk lv hl)
theorem bb_getr {k ci j idx a : Nat} (hd : decode M.2.1 pc = .ok (.getfield idx, 3)) (hk : k < 336) (hs : (qSh k).1 = ci) (hc : ci < 10) (hj : j < qNF ci) (hq : qIsR (qTy ci j) = true) (hw : Cond.fieldLink M.1.cls idx (qT ci j).1 (qT ci j).2.1 (qT ci j).2.2.1 ∈ gw) (hr : R k j = some a) (kk : wkB l G d M Q (pc + 3) vs (.ref a :: st) I L R) : wkB l G d M Q pc vs (.ref k :: st) I L R := fun lv hl => q_getf hd hk hs hc hj hw (by rw [if_pos hq, hr]; exact kk lv hl)
theorem bb_puti {k ci j idx : Nat} {x : Int32} (hd : decode M.2.1 pc = .ok (.putfield idx, 3)) (hk : k < 336) (hs : (qSh k).1 = ci) (hc : ci < 10) (hj : j < qNF ci) (hw : Cond.fieldLink M.1.cls idx (qT ci j).1 (qT ci j).2.1 (qT ci j).2.2.1 ∈ gw) (hfin : (qT ci j).2.2.2 = false) (hq : qTy ci j = .int) (kk : wkB l G d M Q (pc + 3) vs st (qUp I k j x) L R) : wkB l G d M Q pc vs (.int x :: .ref k :: st) I L R := fun lv hl => q_puti hd hk hs hc hj hw (Or.inl hfin) (by rw [hq]; rfl) (by rw [hq]; rfl) (by rw [hq]; rfl) (kk lv hl)
theorem bb_putz {k ci j idx : Nat} {x : Int32} (hd : decode M.2.1 pc = .ok (.putfield idx, 3)) (hk : k < 336) (hs : (qSh k).1 = ci) (hc : ci < 10) (hj : j < qNF ci) (hw : Cond.fieldLink M.1.cls idx (qT ci j).1 (qT ci j).2.1 (qT ci j).2.2.1 ∈ gw) (hfin : (qT ci j).2.2.2 = false) (hq : qTy ci j = .boolean) (h01 : x = 0 ∨ x = 1) (kk : wkB l G d M Q (pc + 3) vs st (qUp I k j x) L R) : wkB l G d M Q pc vs (.int x :: .ref k :: st) I L R := fun lv hl => q_puti hd hk hs hc hj hw (Or.inl hfin) (by rw [hq]; rcases h01 with rfl | rfl <;> rfl) (by rw [hq]; rcases h01 with rfl | rfl <;> rfl) (by rw [hq]; rfl) (kk lv hl)
theorem qSwt_mono {J J' : Nat → Prop} {x : Int32} {df : Nat} (h : ∀ t, J t → J' t) : ∀ {l : List Nat} {v : Int32}, qSwt J x v l df → qSwt J' x v l df
  | [], _, q => h _ q
  | tg :: l, v, q => by
    unfold qSwt at q ⊢
    split
    · rename_i e
      rw [if_pos e] at q
      exact h _ q
    · rename_i e
      rw [if_neg e] at q
      exact qSwt_mono h q
theorem bb_table {x v : Int32} {dflt lo hi : Int} {offs : Array Int} {len df : Nat} {tgts : List Nat} (hd : decode M.2.1 pc = .ok (.tableswitch dflt lo hi offs, len)) (hlo : v.toInt = lo) (hhi : hi = lo + tgts.length - 1) (hsm : lo + tgts.length < 2 ^ 31) (hdf : (pc : Int) + dflt = (df : Int)) (hof : offs.toList.map (fun o => (pc : Int) + o) = tgts.map (fun (n : Nat) => (n : Int)))
    (h : qSwt (fun tg => wkB l G d M Q tg vs st I L R) x v tgts df) : wkB l G d M Q pc vs (.int x :: st) I L R := fun lv hl => q_table hd hlo hhi hsm hdf hof (qSwt_mono (fun t k => k lv hl) h)
/-! calls -/
theorem bb_callV {idx k ci : Nat} {N : qMn} {As : List Value} {P : Option Value → qMI → qML → qMR → Prop} (hd : decode M.2.1 pc = .ok (.invokevirtual idx, 3)) (hN : qTo N As.length) (h1 : Cond.methodLink M.1.cls idx N.1 ∈ gw) (h2 : Cond.instanceMethod N.1 ∈ gw) (h3 : Cond.selects N.1.cls N.1 N.1 ∈ gw) (hcat : qCat st ≤ 8) (hk : k < 336) (hs : (qSh k).1 = ci) (hci : ci < 10) (hcl : qC ci = N.1.cls) (hmc : N.2.2.2.2.1 = 0) (hms : N.2.2.2.2.2 = 0)
    (hc : wkC l G d N (.ref k :: As) I L R P) (kk : ∀ r I' L' R', P r I' L' R' → wkB l G (d + 1) M Q (pc + 3) vs (r.toList ++ st) I' L' R') : wkB l G (d + 1) M Q pc vs (As.reverse ++ .ref k :: st) I L R := by
  intro lv hl
  refine q_callV (N := N) (As := As) (b := .ref k) (a := G.1 + k) hd hN h1 h2 h3 hcat (by rw [hmc]; exact Nat.zero_le _) (by rw [hms]; exact Nat.zero_le _) rfl (qRecv hk hs hci hcl) hc ?_
  intro r t' I' L' R' hq
  obtain ⟨rfl, hq⟩ := hq
  rw [hmc, hms]
  exact kk r I' L' R' hq lv hl
theorem bb_callS {idx : Nat} {N : qMn} {As : List Value} {P : Option Value → qMI → qML → qMR → Prop} (hd : decode M.2.1 pc = .ok (.invokestatic idx, 3)) (hN : qTo N As.length) (h1 : Cond.methodLink M.1.cls idx N.1 ∈ gw) (h2 : Cond.static N.1 ∈ gw) (hcat : qCat st ≤ 8) (hmc : N.2.2.2.2.1 = 0) (hms : N.2.2.2.2.2 = 0)
    (hc : wkC l G d N As I L R P) (kk : ∀ r I' L' R', P r I' L' R' → wkB l G (d + 1) M Q (pc + 3) vs (r.toList ++ st) I' L' R') : wkB l G (d + 1) M Q pc vs (As.reverse ++ st) I L R := by
  intro lv hl
  refine q_callS (N := N) (As := As) hd hN h1 h2 hcat (by rw [hmc]; exact Nat.zero_le _) (by rw [hms]; exact Nat.zero_le _) hc ?_
  intro r t' I' L' R' hq
  obtain ⟨rfl, hq⟩ := hq
  rw [hmc, hms]
  exact kk r I' L' R' hq lv hl
theorem bb_callVI {idx k ci : Nat} {N : qMn} {As : List Value} {P : Int32 → qMI → qML → Prop} (hd : decode M.2.1 pc = .ok (.invokevirtual idx, 3)) (hN : qTo N As.length) (h1 : Cond.methodLink M.1.cls idx N.1 ∈ gw) (h2 : Cond.instanceMethod N.1 ∈ gw) (h3 : Cond.selects N.1.cls N.1 N.1 ∈ gw) (hcat : qCat st ≤ 8) (hk : k < 336) (hs : (qSh k).1 = ci) (hci : ci < 10) (hcl : qC ci = N.1.cls) (hmc : N.2.2.2.2.1 = 0) (hms : N.2.2.2.2.2 = 0)
    (hc : wkI l G d N (.ref k :: As) I L R P) (kk : ∀ y I' L', P y I' L' → wkB l G (d + 1) M Q (pc + 3) vs (.int y :: st) I' L' R) : wkB l G (d + 1) M Q pc vs (As.reverse ++ .ref k :: st) I L R := bb_callV hd hN h1 h2 h3 hcat hk hs hci hcl hmc hms hc (fun r I' L' R' hq => by obtain ⟨rfl, y, rfl, hp⟩ := hq; exact kk y I' L' hp)
theorem bb_callVV {idx k ci : Nat} {N : qMn} {As : List Value} {P : qMI → qML → Prop} (hd : decode M.2.1 pc = .ok (.invokevirtual idx, 3)) (hN : qTo N As.length) (h1 : Cond.methodLink M.1.cls idx N.1 ∈ gw) (h2 : Cond.instanceMethod N.1 ∈ gw) (h3 : Cond.selects N.1.cls N.1 N.1 ∈ gw) (hcat : qCat st ≤ 8) (hk : k < 336) (hs : (qSh k).1 = ci) (hci : ci < 10) (hcl : qC ci = N.1.cls) (hmc : N.2.2.2.2.1 = 0) (hms : N.2.2.2.2.2 = 0)
    (hc : wkV l G d N (.ref k :: As) I L R P) (kk : ∀ I' L', P I' L' → wkB l G (d + 1) M Q (pc + 3) vs st I' L' R) : wkB l G (d + 1) M Q pc vs (As.reverse ++ .ref k :: st) I L R := bb_callV hd hN h1 h2 h3 hcat hk hs hci hcl hmc hms hc (fun r I' L' R' hq => by obtain ⟨rfl, rfl, hp⟩ := hq; exact kk I' L' hp)
theorem bb_callSI {idx : Nat} {N : qMn} {As : List Value} {P : Int32 → qMI → qML → Prop} (hd : decode M.2.1 pc = .ok (.invokestatic idx, 3)) (hN : qTo N As.length) (h1 : Cond.methodLink M.1.cls idx N.1 ∈ gw) (h2 : Cond.static N.1 ∈ gw) (hcat : qCat st ≤ 8) (hmc : N.2.2.2.2.1 = 0) (hms : N.2.2.2.2.2 = 0)
    (hc : wkI l G d N As I L R P) (kk : ∀ y I' L', P y I' L' → wkB l G (d + 1) M Q (pc + 3) vs (.int y :: st) I' L' R) : wkB l G (d + 1) M Q pc vs (As.reverse ++ st) I L R := bb_callS hd hN h1 h2 hcat hmc hms hc (fun r I' L' R' hq => by obtain ⟨rfl, y, rfl, hp⟩ := hq; exact kk y I' L' hp)
theorem bb_callSJ {idx : Nat} {N : qMn} {As : List Value} {P : Int64 → qMI → qML → Prop} (hd : decode M.2.1 pc = .ok (.invokestatic idx, 3)) (hN : qTo N As.length) (h1 : Cond.methodLink M.1.cls idx N.1 ∈ gw) (h2 : Cond.static N.1 ∈ gw) (hcat : qCat st ≤ 8) (hmc : N.2.2.2.2.1 = 0) (hms : N.2.2.2.2.2 = 0)
    (hc : wkJ l G d N As I L R P) (kk : ∀ y I' L', P y I' L' → wkB l G (d + 1) M Q (pc + 3) vs (.long y :: st) I' L' R) : wkB l G (d + 1) M Q pc vs (As.reverse ++ st) I L R := bb_callS hd hN h1 h2 hcat hmc hms hc (fun r I' L' R' hq => by obtain ⟨rfl, y, rfl, hp⟩ := hq; exact kk y I' L' hp)
/-! the memory that is read behind what is written -/
theorem qUp_at (I : qMI) (a j : Nat) (x : Int32) (b k : Nat) : qUp I a j x b k = if b = a ∧ k = j then x else I b k := by
  by_cases h : b = a ∧ k = j
  · obtain ⟨rfl, rfl⟩ := h
    rw [if_pos ⟨rfl, rfl⟩, zup_s]
  · rw [if_neg h, zup_o h]
theorem qUpL_at (I : qML) (a j : Nat) (x : Int64) (b k : Nat) : qUpL I a j x b k = if b = a ∧ k = j then x else I b k := by
  by_cases h : b = a ∧ k = j
  · obtain ⟨rfl, rfl⟩ := h
    rw [if_pos ⟨rfl, rfl⟩, zupL_s]
  · rw [if_neg h, zupL_o h]
theorem qUp_ne {I : qMI} {a j b k : Nat} {x : Int32} (h : ¬ (b = a ∧ k = j)) : qUp I a j x b k = I b k := zup_o h
end QX
/-! fewer locals known -/
def wkLe : List Value → List Value → Prop
  | [], _ => True
  | v :: r, w :: s => (v = wkU ∨ v = w) ∧ wkLe r s
  | _ :: _, [] => False
theorem wkLe_t : ∀ {vs ws : List Value}, wkLe vs ws → ∀ (i : Nat) v, vs[i]? = some v → v ≠ wkU → ws[i]? = some v
  | [], _, _, i, v, h, _ => by simp at h
  | _ :: _, [], h, _, _, _, _ => h.elim
  | v :: r, w :: s, h, 0, u, hu, hn => by
    simp at hu
    subst hu
    rcases h.1 with e | e
    · exact absurd e hn
    · rw [e]; rfl
  | v :: r, w :: s, h, i + 1, u, hu, hn => by
    simp at hu
    simpa using wkLe_t h.2 i u hu hn
theorem wkB_le {l : Launch} {G : qG} {d : Nat} {M : qMn} {Q : qQ} {pc : Nat} {vs ws st : List Value} {I : qMI} {L : qML} {R : qMR} (h : wkLe vs ws) (k : wkB l G d M Q pc vs st I L R) : wkB l G d M Q pc ws st I L R := wkB_sub (wkLe_t h) k
theorem wkNl_0 {vs : List Value} : wkNl vs 0 := fun _ h => absurd rfl h
theorem wkNl_i {vs : List Value} {i : Nat} {x : Int32} (h : vs[i - 1]? = some (.int x)) : wkNl vs i := fun w _ h1 _ => by
  rw [h] at h1
  cases h1
  show (1 : Nat) ≠ 2
  decide
theorem wkNl_r {vs : List Value} {i : Nat} {x : Nat} (h : vs[i - 1]? = some (.ref x)) : wkNl vs i := fun w _ h1 _ => by
  rw [h] at h1
  cases h1
  show (1 : Nat) ≠ 2
  decide
theorem wkNl_u {vs : List Value} {i : Nat} (h : vs[i - 1]? = some wkU) : wkNl vs i := fun w _ h1 h2 => by
  rw [h] at h1
  cases h1
  exact absurd rfl h2
