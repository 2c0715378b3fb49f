/-! ===== comparisons that narrow what they compare ===== -/
def zclip (c lo hi : Nat) : Nat := bif zk c then c else zmkc (bif Nat.ble lo (zlo c) then zlo c else lo) (bif Nat.ble hi (zhi c) then hi else zhi c)
theorem zclip_in {c lo hi : Nat} {x : Int32} (h : zin c x) (h1 : lo ≤ zb x) (h2 : zb x ≤ hi) : zin (zclip c lo hi) x := by
  unfold zclip
  cases hk : zk c with
  | true => exact h
  | false =>
    rw [cond_false]
    have h3 := zhi_lt c
    obtain ⟨a1, a2⟩ := h
    refine zmkc_in ?_ ?_ ?_
    · cases hb : Nat.ble hi (zhi c) with
      | true => rw [cond_true]; have := Nat.le_of_ble_eq_true hb; omega
      | false => rw [cond_false]; exact h3
    · cases hb : Nat.ble lo (zlo c) with
      | true => rw [cond_true]; exact a1
      | false => rw [cond_false]; exact h1
    · cases hb : Nat.ble hi (zhi c) with
      | true => rw [cond_true]; exact h2
      | false => rw [cond_false]; exact a2
def zMx : Nat := 4294967295
/-- what is left of the first, of the second -/
def zn1_lt (a b : Nat) : Nat := zclip a 0 (Nat.sub (zhi b) 1)
def zn2_lt (a b : Nat) : Nat := zclip b (Nat.succ (zlo a)) zMx
def zn1_ge (a b : Nat) : Nat := zclip a (zlo b) zMx
def zn2_ge (a b : Nat) : Nat := zclip b 0 (zhi a)
def zn1_gt (a b : Nat) : Nat := zclip a (Nat.succ (zlo b)) zMx
def zn2_gt (a b : Nat) : Nat := zclip b 0 (Nat.sub (zhi a) 1)
def zn1_le (a b : Nat) : Nat := zclip a 0 (zhi b)
def zn2_le (a b : Nat) : Nat := zclip b (zlo a) zMx
def zn1_eq (a b : Nat) : Nat := zclip a (zlo b) (zhi b)
def zn2_eq (a b : Nat) : Nat := zclip b (zlo a) (zhi a)
def zn1_ne (a b : Nat) : Nat := bif zk b then (bif Nat.beq (zlo a) b then zclip a (Nat.succ b) zMx else (bif Nat.beq (zhi a) b then zclip a 0 (Nat.sub b 1) else a)) else a
def zn2_ne (a b : Nat) : Nat := b
theorem zn_lt {a b : Nat} {x y : Int32} (h : x < y) (hx : zin a x) (hy : zin b y) : zin (zn1_lt a b) x ∧ zin (zn2_lt a b) y := by
  have h1 := zlt_iff.mp h
  have h2 := zb_lt x
  have h3 := zb_lt y
  obtain ⟨a1, a2⟩ := id hx
  obtain ⟨b1, b2⟩ := id hy
  refine ⟨zclip_in hx ?_ ?_, zclip_in hy ?_ ?_⟩ <;> (try unfold zMx) <;> (try rw [zsub_e]) <;> omega
theorem zn_ge {a b : Nat} {x y : Int32} (h : y ≤ x) (hx : zin a x) (hy : zin b y) : zin (zn1_ge a b) x ∧ zin (zn2_ge a b) y := by
  have h1 := zle_iff.mp h
  have h2 := zb_lt x
  have h3 := zb_lt y
  obtain ⟨a1, a2⟩ := id hx
  obtain ⟨b1, b2⟩ := id hy
  refine ⟨zclip_in hx ?_ ?_, zclip_in hy ?_ ?_⟩ <;> (try unfold zMx) <;> (try rw [zsub_e]) <;> omega
theorem zn_gt {a b : Nat} {x y : Int32} (h : y < x) (hx : zin a x) (hy : zin b y) : zin (zn1_gt a b) x ∧ zin (zn2_gt a b) y := by
  have h1 := zlt_iff.mp h
  have h2 := zb_lt x
  have h3 := zb_lt y
  obtain ⟨a1, a2⟩ := id hx
  obtain ⟨b1, b2⟩ := id hy
  refine ⟨zclip_in hx ?_ ?_, zclip_in hy ?_ ?_⟩ <;> (try unfold zMx) <;> (try rw [zsub_e]) <;> omega
theorem zn_le {a b : Nat} {x y : Int32} (h : x ≤ y) (hx : zin a x) (hy : zin b y) : zin (zn1_le a b) x ∧ zin (zn2_le a b) y := by
  have h1 := zle_iff.mp h
  have h2 := zb_lt x
  have h3 := zb_lt y
  obtain ⟨a1, a2⟩ := id hx
  obtain ⟨b1, b2⟩ := id hy
  refine ⟨zclip_in hx ?_ ?_, zclip_in hy ?_ ?_⟩ <;> (try unfold zMx) <;> (try rw [zsub_e]) <;> omega
theorem zn_eq {a b : Nat} {x y : Int32} (h : x = y) (hx : zin a x) (hy : zin b y) : zin (zn1_eq a b) x ∧ zin (zn2_eq a b) y := by
  subst h
  exact ⟨zclip_in hx hy.1 hy.2, zclip_in hy hx.1 hx.2⟩
theorem zn_ne {a b : Nat} {x y : Int32} (h : ¬ x = y) (hx : zin a x) (hy : zin b y) : zin (zn1_ne a b) x ∧ zin (zn2_ne a b) y := by
  refine ⟨?_, hy⟩
  have hne : ¬ zb x = zb y := fun e => h (zb_inj e)
  have h2 := zb_lt x
  obtain ⟨a1, a2⟩ := id hx
  unfold zn1_ne
  cases hk : zk b with
  | false => exact hx
  | true =>
    have e := zk_in hk hy
    rw [cond_true]
    cases h3 : Nat.beq (zlo a) b with
    | true =>
      have e3 := Nat.eq_of_beq_eq_true h3
      rw [cond_true]
      exact zclip_in hx (by omega) (by unfold zMx; omega)
    | false =>
      rw [cond_false]
      cases h4 : Nat.beq (zhi a) b with
      | true =>
        have e4 := Nat.eq_of_beq_eq_true h4
        rw [cond_true]
        exact zclip_in hx (Nat.zero_le _) (by rw [zsub_e]; omega)
      | false => exact hx
/-- another number for a local that is an int, as well known -/
theorem zgl_re {lv : List zX} {lv' : qLv} {i c : Nat} {x : Int32} (hl : zgl lv lv') (h : qLk i lv' = some (.int x)) (hc : zin c x) : zgl (zs zdum lv i (.inl c)) lv' := by
  intro j
  rw [zn_zs]
  by_cases hj : j = i
  · subst hj
    rw [if_pos rfl]
    exact Or.inr ⟨_, h, x, rfl, hc⟩
  · rw [if_neg hj]
    exact hl j
section ZNR
variable {l : Launch} {G : qG} {gh : zGh} {d : Nat} {K : zKr} {M : qMn} {pc : Nat} {kt kf : zK}
/-- at pc an int comes on the stack: a local's, a constant -/
def zLd (l : Launch) (G : qG) (gh : zGh) (d : Nat) (K : zKr) (M : qMn) (pc i n : Nat) : Prop := ∀ (lv : qLv) (st : List Value) (x : Int32) (ce sl t : Nat) (I : qMI) (L : qML) (R : qMR), qLk i lv = some (.int x) → qAb l G d M (zQ gh K) (pc + n) lv (.int x :: st) ce sl t I L R → qAb l G d M (zQ gh K) pc lv st ce sl t I L R
def zCn (l : Launch) (G : qG) (gh : zGh) (d : Nat) (K : zKr) (M : qMn) (pc c n : Nat) : Prop := ∃ v : Int32, zb v = c ∧ ∀ (lv : qLv) (st : List Value) (ce sl t : Nat) (I : qMI) (L : qML) (R : qMR), qAb l G d M (zQ gh K) (pc + n) lv (.int v :: st) ce sl t I L R → qAb l G d M (zQ gh K) pc lv st ce sl t I L R
theorem zLd_n {n : Fin 4} {i : Nat} (hd : decode M.2.1 pc = .ok (.iload_n n, 1)) (hi : (n : Nat) = i) : zLd l G gh d K M pc i 1 := fun _ _ _ _ _ _ _ _ _ h k => q_iload_n hd hi h k
theorem zLd_w {i : Nat} (hd : decode M.2.1 pc = .ok (.iload i, 2)) : zLd l G gh d K M pc i 2 := fun _ _ _ _ _ _ _ _ _ h k => q_iload hd h k
theorem zCn_c {n : Int} {c : Nat} (hd : decode M.2.1 pc = .ok (.iconst n, 1)) (hc : zb (Int32.ofInt n) = c) : zCn l G gh d K M pc c 1 := ⟨_, hc, fun _ _ _ _ _ _ _ _ k => q_iconst hd rfl k⟩
theorem zCn_b {n : Int} {c : Nat} (hd : decode M.2.1 pc = .ok (.bipush n, 2)) (hc : zb (Int8.ofInt n).toInt32 = c) : zCn l G gh d K M pc c 2 := ⟨_, hc, fun _ _ _ _ _ _ _ _ k => q_bipush hd rfl k⟩
theorem zCn_s {n : Int} {c : Nat} (hd : decode M.2.1 pc = .ok (.sipush n, 3)) (hc : zb (Int16.ofInt n).toInt32 = c) : zCn l G gh d K M pc c 3 := ⟨_, hc, fun _ _ _ _ _ _ _ _ k => q_sipush hd rfl k⟩
/-- a local against a constant; against another local; against 0 -/
noncomputable def oNLC (i c : Nat) (yes no n1 m1 : Nat → Nat → Nat) (kt kf : zK) : zK := fun lv st ce sl t A => zI (zn zdum lv i) (fun a => zfork (Nat.beq (yes a c) 1) (Nat.beq (no a c) 1) (kt (zs zdum lv i (.inl (n1 a c))) st ce sl t A) (kf (zs zdum lv i (.inl (m1 a c))) st ce sl t A))
noncomputable def oNLL (i j : Nat) (yes no n1 n2 m1 m2 : Nat → Nat → Nat) (kt kf : zK) : zK := fun lv st ce sl t A => zI (zn zdum lv i) (fun a => zI (zn zdum lv j) (fun b => zfork (Nat.beq (yes a b) 1) (Nat.beq (no a b) 1) (kt (zs zdum (zs zdum lv i (.inl (n1 a b))) j (.inl (n2 a b))) st ce sl t A) (kf (zs zdum (zs zdum lv i (.inl (m1 a b))) j (.inl (m2 a b))) st ce sl t A)))
def zeqN (a b : Nat) : Nat := bif zeq a b then 1 else 0
theorem zeqN_t {a b : Nat} (h : Nat.beq (zeqN a b) 1 = true) : zeq a b = true := by
  unfold zeqN at h
  cases hq : zeq a b with
  | true => rfl
  | false => rw [hq] at h; cases h
def zneN (a b : Nat) : Nat := bif zne a b then 1 else 0
theorem zneN_t {a b : Nat} (h : Nat.beq (zneN a b) 1 = true) : zne a b = true := by
  unfold zneN at h
  cases hq : zne a b with
  | true => rfl
  | false => rw [hq] at h; cases h
def zltN (a b : Nat) : Nat := bif zlt a b then 1 else 0
theorem zltN_t {a b : Nat} (h : Nat.beq (zltN a b) 1 = true) : zlt a b = true := by
  unfold zltN at h
  cases hq : zlt a b with
  | true => rfl
  | false => rw [hq] at h; cases h
def zgeN (a b : Nat) : Nat := bif zge a b then 1 else 0
theorem zgeN_t {a b : Nat} (h : Nat.beq (zgeN a b) 1 = true) : zge a b = true := by
  unfold zgeN at h
  cases hq : zge a b with
  | true => rfl
  | false => rw [hq] at h; cases h
def zgtN (a b : Nat) : Nat := bif zgt a b then 1 else 0
theorem zgtN_t {a b : Nat} (h : Nat.beq (zgtN a b) 1 = true) : zgt a b = true := by
  unfold zgtN at h
  cases hq : zgt a b with
  | true => rfl
  | false => rw [hq] at h; cases h
def zleN (a b : Nat) : Nat := bif zle a b then 1 else 0
theorem zleN_t {a b : Nat} (h : Nat.beq (zleN a b) 1 = true) : zle a b = true := by
  unfold zleN at h
  cases hq : zle a b with
  | true => rfl
  | false => rw [hq] at h; cases h
theorem z_nLL_eq {i j a1 a2 : Nat} {off : Int} {tgt : Nat} (hA : zLd l G gh d K M pc i a1) (hC : zLd l G gh d K M (pc + a1) j a2) (hd : decode M.2.1 (pc + a1 + a2) = .ok (.if_icmp .eq off, 3)) (ht : ((pc + a1 + a2 : Nat) : Int) + off = (tgt : Int)) (h1 : zS l G gh d K M tgt kt) (h2 : zS l G gh d K M (pc + a1 + a2 + 3) kf) : zS l G gh d K M pc (oNLL i j zeqN zneN zn1_eq zn2_eq zn1_ne zn2_ne kt kf) := by
  intro lv st ce sl t A h lv' st' I L R hl hs hm
  obtain ⟨v, k1, z1⟩ := zgl_get hl (zI_nd h)
  obtain ⟨a, x, rfl, g4, h⟩ := zI_t h z1
  obtain ⟨w, k2, z2⟩ := zgl_get hl (zI_nd h)
  obtain ⟨b, y, rfl, g1, g6⟩ := zI_t h z2
  obtain ⟨e1, e2⟩ := zfork_t g6 (fun h => zeq_t (zeqN_t h) g4 g1) (fun h => zne_t (zneN_t h) g4 g1)
  refine hA lv' st' x ce sl t I L R k1 (hC lv' _ y ce sl t I L R k2 ?_)
  exact q_icmp_eq hd ht (fun p => h1 _ _ ce sl t A (e1 p) lv' _ I L R (zgl_re (zgl_re hl k1 (zn_eq p g4 g1).1) k2 (zn_eq p g4 g1).2) hs hm) (fun p => h2 _ _ ce sl t A (e2 p) lv' _ I L R (zgl_re (zgl_re hl k1 (zn_ne p g4 g1).1) k2 (zn_ne p g4 g1).2) hs hm)
theorem z_nLL_lt {i j a1 a2 : Nat} {off : Int} {tgt : Nat} (hA : zLd l G gh d K M pc i a1) (hC : zLd l G gh d K M (pc + a1) j a2) (hd : decode M.2.1 (pc + a1 + a2) = .ok (.if_icmp .lt off, 3)) (ht : ((pc + a1 + a2 : Nat) : Int) + off = (tgt : Int)) (h1 : zS l G gh d K M tgt kt) (h2 : zS l G gh d K M (pc + a1 + a2 + 3) kf) : zS l G gh d K M pc (oNLL i j zltN zgeN zn1_lt zn2_lt zn1_ge zn2_ge kt kf) := by
  intro lv st ce sl t A h lv' st' I L R hl hs hm
  obtain ⟨v, k1, z1⟩ := zgl_get hl (zI_nd h)
  obtain ⟨a, x, rfl, g4, h⟩ := zI_t h z1
  obtain ⟨w, k2, z2⟩ := zgl_get hl (zI_nd h)
  obtain ⟨b, y, rfl, g1, g6⟩ := zI_t h z2
  obtain ⟨e1, e2⟩ := zfork_t g6 (fun h => zlt_t (zltN_t h) g4 g1) (fun h => fun hp => absurd (zle_iff.mp (zle_t (zgeN_t h) g1 g4)) (by have := zlt_iff.mp hp; omega))
  refine hA lv' st' x ce sl t I L R k1 (hC lv' _ y ce sl t I L R k2 ?_)
  exact q_icmp_lt hd ht (fun p => h1 _ _ ce sl t A (e1 p) lv' _ I L R (zgl_re (zgl_re hl k1 (zn_lt p g4 g1).1) k2 (zn_lt p g4 g1).2) hs hm) (fun p => h2 _ _ ce sl t A (e2 p) lv' _ I L R (zgl_re (zgl_re hl k1 (zn_ge (zle_iff.mpr (Nat.le_of_not_lt (fun q => p (zlt_iff.mpr q)))) g4 g1).1) k2 (zn_ge (zle_iff.mpr (Nat.le_of_not_lt (fun q => p (zlt_iff.mpr q)))) g4 g1).2) hs hm)
theorem z_nL0_lt {i a1 : Nat} {off : Int} {tgt : Nat} (hA : zLd l G gh d K M pc i a1) (hd : decode M.2.1 (pc + a1) = .ok (.ifCond .lt off, 3)) (ht : ((pc + a1 : Nat) : Int) + off = (tgt : Int)) (h1 : zS l G gh d K M tgt kt) (h2 : zS l G gh d K M (pc + a1 + 3) kf) : zS l G gh d K M pc (oNLC i 2147483648 zltN zgeN zn1_lt zn1_ge kt kf) := by
  intro lv st ce sl t A h lv' st' I L R hl hs hm
  obtain ⟨v, k1, z1⟩ := zgl_get hl (zI_nd h)
  obtain ⟨a, x, rfl, g4, g6⟩ := zI_t h z1
  obtain ⟨e1, e2⟩ := zfork_t g6 (fun h => zlt_t (zltN_t h) g4 zin0) (fun h => fun hp => absurd (zle_iff.mp (zle_t (zgeN_t h) zin0 g4)) (by have := zlt_iff.mp hp; omega))
  refine hA lv' st' x ce sl t I L R k1 ?_
  exact q_if_lt hd ht (fun p => h1 _ _ ce sl t A (e1 p) lv' _ I L R (zgl_re hl k1 (zn_lt p g4 zin0).1) hs hm) (fun p => h2 _ _ ce sl t A (e2 p) lv' _ I L R (zgl_re hl k1 (zn_ge (zle_iff.mpr (Nat.le_of_not_lt (fun q => p (zlt_iff.mpr q)))) g4 zin0).1) hs hm)
theorem z_nLC_ge {i c0 a1 a2 : Nat} {off : Int} {tgt : Nat} (hA : zLd l G gh d K M pc i a1) (hC : zCn l G gh d K M (pc + a1) c0 a2) (hd : decode M.2.1 (pc + a1 + a2) = .ok (.if_icmp .ge off, 3)) (ht : ((pc + a1 + a2 : Nat) : Int) + off = (tgt : Int)) (h1 : zS l G gh d K M tgt kt) (h2 : zS l G gh d K M (pc + a1 + a2 + 3) kf) : zS l G gh d K M pc (oNLC i c0 zgeN zltN zn1_ge zn1_lt kt kf) := by
  intro lv st ce sl t A h lv' st' I L R hl hs hm
  obtain ⟨v, k1, z1⟩ := zgl_get hl (zI_nd h)
  obtain ⟨a, x, rfl, g4, g6⟩ := zI_t h z1
  obtain ⟨y, hy, hC⟩ := hC
  have g1 : zin c0 y := zin_eq hy
  obtain ⟨e1, e2⟩ := zfork_t g6 (fun h => zle_t (zgeN_t h) g1 g4) (fun h => fun hp => absurd (zlt_iff.mp (zlt_t (zltN_t h) g4 g1)) (by have := zle_iff.mp hp; omega))
  refine hA lv' st' x ce sl t I L R k1 (hC lv' _ ce sl t I L R ?_)
  exact q_icmp_ge hd ht (fun p => h1 _ _ ce sl t A (e1 p) lv' _ I L R (zgl_re hl k1 (zn_ge p g4 g1).1) hs hm) (fun p => h2 _ _ ce sl t A (e2 p) lv' _ I L R (zgl_re hl k1 (zn_lt (zlt_iff.mpr (Nat.lt_of_not_le (fun q => p (zle_iff.mpr q)))) g4 g1).1) hs hm)
theorem z_nLL_ge {i j a1 a2 : Nat} {off : Int} {tgt : Nat} (hA : zLd l G gh d K M pc i a1) (hC : zLd l G gh d K M (pc + a1) j a2) (hd : decode M.2.1 (pc + a1 + a2) = .ok (.if_icmp .ge off, 3)) (ht : ((pc + a1 + a2 : Nat) : Int) + off = (tgt : Int)) (h1 : zS l G gh d K M tgt kt) (h2 : zS l G gh d K M (pc + a1 + a2 + 3) kf) : zS l G gh d K M pc (oNLL i j zgeN zltN zn1_ge zn2_ge zn1_lt zn2_lt kt kf) := by
  intro lv st ce sl t A h lv' st' I L R hl hs hm
  obtain ⟨v, k1, z1⟩ := zgl_get hl (zI_nd h)
  obtain ⟨a, x, rfl, g4, h⟩ := zI_t h z1
  obtain ⟨w, k2, z2⟩ := zgl_get hl (zI_nd h)
  obtain ⟨b, y, rfl, g1, g6⟩ := zI_t h z2
  obtain ⟨e1, e2⟩ := zfork_t g6 (fun h => zle_t (zgeN_t h) g1 g4) (fun h => fun hp => absurd (zlt_iff.mp (zlt_t (zltN_t h) g4 g1)) (by have := zle_iff.mp hp; omega))
  refine hA lv' st' x ce sl t I L R k1 (hC lv' _ y ce sl t I L R k2 ?_)
  exact q_icmp_ge hd ht (fun p => h1 _ _ ce sl t A (e1 p) lv' _ I L R (zgl_re (zgl_re hl k1 (zn_ge p g4 g1).1) k2 (zn_ge p g4 g1).2) hs hm) (fun p => h2 _ _ ce sl t A (e2 p) lv' _ I L R (zgl_re (zgl_re hl k1 (zn_lt (zlt_iff.mpr (Nat.lt_of_not_le (fun q => p (zle_iff.mpr q)))) g4 g1).1) k2 (zn_lt (zlt_iff.mpr (Nat.lt_of_not_le (fun q => p (zle_iff.mpr q)))) g4 g1).2) hs hm)
theorem z_nLC_gt {i c0 a1 a2 : Nat} {off : Int} {tgt : Nat} (hA : zLd l G gh d K M pc i a1) (hC : zCn l G gh d K M (pc + a1) c0 a2) (hd : decode M.2.1 (pc + a1 + a2) = .ok (.if_icmp .gt off, 3)) (ht : ((pc + a1 + a2 : Nat) : Int) + off = (tgt : Int)) (h1 : zS l G gh d K M tgt kt) (h2 : zS l G gh d K M (pc + a1 + a2 + 3) kf) : zS l G gh d K M pc (oNLC i c0 zgtN zleN zn1_gt zn1_le kt kf) := by
  intro lv st ce sl t A h lv' st' I L R hl hs hm
  obtain ⟨v, k1, z1⟩ := zgl_get hl (zI_nd h)
  obtain ⟨a, x, rfl, g4, g6⟩ := zI_t h z1
  obtain ⟨y, hy, hC⟩ := hC
  have g1 : zin c0 y := zin_eq hy
  obtain ⟨e1, e2⟩ := zfork_t g6 (fun h => zlt_t (zgtN_t h) g1 g4) (fun h => fun hp => absurd (zle_iff.mp (zle_t (zleN_t h) g4 g1)) (by have := zlt_iff.mp hp; omega))
  refine hA lv' st' x ce sl t I L R k1 (hC lv' _ ce sl t I L R ?_)
  exact q_icmp_gt hd ht (fun p => h1 _ _ ce sl t A (e1 p) lv' _ I L R (zgl_re hl k1 (zn_gt p g4 g1).1) hs hm) (fun p => h2 _ _ ce sl t A (e2 p) lv' _ I L R (zgl_re hl k1 (zn_le (zle_iff.mpr (Nat.le_of_not_lt (fun q => p (zlt_iff.mpr q)))) g4 g1).1) hs hm)
end ZNR
