/-! ===== a side made plain; sides and laws between readings ===== -/
/-- of a side's rows but what plain writes, nothing changes -/
def yPl (s : Nat) (I I' : qMI) : Prop := yF s I I' ∧ (∀ j, I' 292 j = I 292 j) ∧ I' 301 s = 0 ∧ I' 304 s = 0 ∧ ∀ k, k < 5 → I' 311 (5 * s + k) = 0 ∧ I' 312 (5 * s + k) = 0
section
variable {l : Launch} {G : qG} {d : Nat} {I I0 : qMI} {L : qML} {R : qMR} {s : Nat}
theorem yPlain (hR : wkR R) (hs : s = 0 ∨ s = 1) {a : Int32} (ha : a.toInt = s) : wkV l G (d + 1) n_X9_plain [.ref 292, .int a] I L R (fun I' L' => L' = L ∧ yPl s I I') := by
  have hv : vp_in a 2 := vin (by omega) (by omega)
  have ea : a.toNatClampNeg = s := by rw [tcn, ha]; rfl
  have m5 : ((5 : Int32) * a).toInt = 5 * (s : Int) := by
    rw [i_mul (by rw [show (5 : Int32).toInt = 5 from rfl]; omega) (by rw [show (5 : Int32).toInt = 5 from rfl]; omega), ha]; rfl
  have loop : ∀ (m : Nat) (J : qMI) (n : Int32), m + n.toInt.toNat = 5 → 0 ≤ n.toInt → yF s I J → (∀ j, J 292 j = I 292 j) → J 301 s = 0 → J 304 s = 0 → (∀ k : Nat, (k : Int) < n.toInt → J 311 (5 * s + k) = 0 ∧ J 312 (5 * s + k) = 0) → wkB l G (d + 1) n_X9_plain (wkPV R (fun I' L' => L' = L ∧ yPl s I I')) 45 [.ref 292, .int a, .int n] [] J L R := by
    intro m
    induction m with
    | zero =>
      intro J n hm n0 h1 h2 h3 h4 h5
      exact w_X9_plain_45 (fun _ => w_X9_plain_78 ⟨rfl, rfl, rfl, rfl, h1, h2, h3, h4, fun k hk => h5 k (by omega)⟩) (fun q => absurd (i_le.mpr (by rw [show (5 : Int32).toInt = 5 from rfl]; omega)) q)
    | succ m ih =>
      intro J n hm n0 h1 h2 h3 h4 h5
      refine w_X9_plain_45 (fun q => ?_) (fun _ => ?_)
      · have := i_le.mp q
        rw [show (5 : Int32).toInt = 5 from rfl] at this
        omega
      · have en : ((5 : Int32) * a + n).toInt = 5 * (s : Int) + n.toInt := by rw [i_add (by omega) (by omega), m5]
        have vn : vp_in ((5 : Int32) * a + n) 10 := vin (by omega) (by omega)
        have ec : ((5 : Int32) * a + n).toNatClampNeg = 5 * s + n.toInt.toNat := by rw [tcn, en]; omega
        have sn : (n + 1).toInt = n.toInt + 1 := i_s (by omega)
        refine w_X9_plain_50 hR vn vn ?_
        rw [ec]
        refine ih _ (n + 1) (by omega) (by omega) (yF_tr h1 (yF_tr (yF_up (by omega)) (yF_up (by omega)))) (fun j => by rw [qUp_ne (by omega), qUp_ne (by omega)]; exact h2 j) (by rw [qUp_ne (by omega), qUp_ne (by omega)]; exact h3) (by rw [qUp_ne (by omega), qUp_ne (by omega)]; exact h4) (fun k hk => ?_)
        by_cases z : k = n.toInt.toNat
        · subst z
          exact ⟨by rw [qUp_ne (by omega), qUp_at, if_pos ⟨rfl, rfl⟩], by rw [qUp_at, if_pos ⟨rfl, rfl⟩]⟩
        · exact ⟨by rw [qUp_ne (by omega), qUp_ne (by omega)]; exact (h5 k (by omega)).1, by rw [qUp_ne (by omega), qUp_ne (by omega)]; exact (h5 k (by omega)).2⟩
  refine wkC_of 1 (by decide) (Nat.le_of_ble_eq_true rfl) (w_X9_plain_0 hR hv hv hv hv hv hv ?_)
  rw [ea]
  refine loop 5 _ 0 (by decide) (by decide) (yF_tr (yF_up (by omega)) (yF_tr (yF_up (by omega)) (yF_tr (yF_up (by omega)) (yF_tr (yF_up (by omega)) (yF_tr (yF_up (by omega)) (yF_up (by omega))))))) (fun j => ?_) ?_ ?_ (fun k hk => ?_)
  · rw [qUp_ne (by omega), qUp_ne (by omega), qUp_ne (by omega), qUp_ne (by omega), qUp_ne (by omega), qUp_ne (by omega)]
  · rw [qUp_ne (by omega), qUp_ne (by omega), qUp_ne (by omega), qUp_ne (by omega), qUp_ne (by omega), qUp_at, if_pos ⟨rfl, rfl⟩]
  · rw [qUp_ne (by omega), qUp_ne (by omega), qUp_ne (by omega), qUp_ne (by omega), qUp_at, if_pos ⟨rfl, rfl⟩]
  · rw [show (0 : Int32).toInt = 0 from rfl] at hk
    omega
end
theorem zseg_reg {I J : qMI} {f t : Int32} {lo hi : Nat} (hf : (lo : Int) ≤ f.toInt) (ht : t.toInt ≤ hi) (h : ∀ i, lo ≤ i → i < hi → I 318 i = J 318 i ∧ I 319 i = J 319 i) (q : zseg J f t) : zseg I f t := by
  intro hlt
  obtain ⟨⟨h1, h2⟩, h3⟩ := q hlt
  have hlt' := i_lt.mp hlt
  exact ⟨⟨h1, h2⟩, zrpn_congr (fun i a b => h i (by omega) (by omega)) h3⟩
/-- the other side stays good -/
theorem yF_side {s s' : Nat} {I J : qMI} (hn : s ≠ s') (h : yF s J I) (g : zside J s' ∧ zreg J s') : zside I s' ∧ zreg I s' := by
  obtain ⟨-, -, h3, h4, h5, -⟩ := h
  obtain ⟨g1, g2⟩ := g
  have e : ∀ k, k < 5 → I 311 (5 * s' + k) = J 311 (5 * s' + k) ∧ I 312 (5 * s' + k) = J 312 (5 * s' + k) := fun k hk => h3 _ (by omega)
  have eb : ∀ b, 130 * s' ≤ b → b < 130 * s' + 130 → I 313 b = J 313 b ∧ I 314 b = J 314 b ∧ I 315 b = J 315 b ∧ I 316 b = J 316 b ∧ I 317 b = J 317 b := fun b b1 b2 => h4 b (by omega)
  have ec : ∀ i, 420 * s' ≤ i → i < 420 * s' + 420 → I 318 i = J 318 i ∧ I 319 i = J 319 i := fun i b1 b2 => h5 i (by omega)
  refine ⟨fun k hk => ?_, fun k hk => ?_⟩
  · obtain ⟨e1, e2⟩ := e k hk
    unfold zlaw
    rw [e1, e2]
    intro lt
    obtain ⟨x1, x2⟩ := g1 k hk lt
    obtain ⟨⟨y1, y2⟩, y3⟩ := g2 k hk lt
    refine ⟨x1, fun b b1 b2 => ?_⟩
    have z := y3 b b1 b2
    have w := x2 b b1 b2
    obtain ⟨a3, a4, a5, a6, a7⟩ := eb b (by omega) (by omega)
    unfold zbra
    rw [a3, a4, a5, a6, a7]
    exact ⟨fun q => ⟨zseg_reg (lo := 420 * s') (hi := 420 * s' + 420) (by have := (z.1 q).1.1; omega) (by have := (z.1 q).1.2; omega) ec (w.1 q).1, zseg_reg (lo := 420 * s') (hi := 420 * s' + 420) (by have := (z.1 q).2.1; omega) (by have := (z.1 q).2.2; omega) ec (w.1 q).2⟩, zseg_reg (lo := 420 * s') (hi := 420 * s' + 420) (by have := z.2.1; omega) (by have := z.2.2; omega) ec w.2⟩
  · obtain ⟨e1, e2⟩ := e k hk
    rw [e1, e2]
    intro lt
    obtain ⟨⟨y1, y2⟩, y3⟩ := g2 k hk lt
    refine ⟨⟨y1, y2⟩, fun b b1 b2 => ?_⟩
    obtain ⟨a3, a4, a5, a6, a7⟩ := eb b (by omega) (by omega)
    unfold zregB
    rw [a3, a4, a5, a6, a7]
    exact y3 b b1 b2
/-- a side that is told without a fault is good -/
theorem yPS_side {s c br th se : Nat} {I0 I : qMI} (hs : s = 0 ∨ s = 1) (h : yPS s I0 I c br th se) (f0 : I 292 13 = 0) : zside I s ∧ zreg I s := by
  obtain ⟨-, ⟨-, -, ⟨-, hc, -⟩⟩, ⟨-, b1, b2⟩, -, -, h6⟩ := h
  obtain ⟨-, -, h7, h8⟩ := h6 f0
  have r : ∀ k, k < 5 → I 311 (5 * s + k) < I 312 (5 * s + k) → ((130 * s : Nat) ≤ (I 311 (5 * s + k)).toInt ∧ (I 312 (5 * s + k)).toInt ≤ br) := fun k hk lt => by
    rcases h8 k hk with q | q
    · rw [q] at lt
      have := i_lt.mp lt
      omega
    · exact q
  refine ⟨fun k hk lt => ?_, fun k hk lt => ?_⟩
  · have := r k hk lt
    exact ⟨⟨i_le.mpr (by rw [show (0 : Int32).toInt = 0 from rfl]; omega), by omega⟩, fun b x1 x2 => yB_bra (h7 b (by omega) (by omega))⟩
  · have := r k hk lt
    refine ⟨⟨by omega, by omega⟩, fun b x1 x2 => ?_⟩
    have z := h7 b (by omega) (by omega)
    exact ⟨fun q => ⟨⟨by have := (z.1 q).1.2.1; omega, by have := (z.1 q).1.2.2; omega⟩, by have := (z.1 q).2.2.1; omega, by have := (z.1 q).2.2.2; omega⟩, by have := z.2.2.1; omega, by have := z.2.2.2; omega⟩
/-- what stands when telling begins -/
theorem yPS_go {s : Nat} {I0 I : qMI} (h : yF s I0 I) (e11 : I 292 11 = 0) (e12 : I 292 12 = 0) (e13 : I 292 13 = 0) (e20 : I 292 20 = 0) (e34 : (I 292 34).toInt = (130 * s : Nat)) (e40 : (I 292 40).toInt = (420 * s : Nat)) (e1 : I 301 s = 0) (e4 : I 304 s = 0) (el : ∀ k, k < 5 → I 311 (5 * s + k) = 0 ∧ I 312 (5 * s + k) = 0) : yPS s I0 I 0 (130 * s) 0 0 := by
  refine ⟨h, ⟨⟨by rw [e11]; decide, by rw [e13]; decide⟩, ⟨by rw [e12]; decide, by rw [e12]; decide, fun _ => by rw [e12]; decide⟩, e40, by omega, fun _ => by rw [e11]; decide⟩, ⟨e34, Nat.le_refl _, by omega⟩, ⟨by rw [e1]; decide, by rw [e4]; decide, by omega, by omega⟩, by rw [e20]; decide, fun _ => ⟨by rw [e20]; decide, by rw [e11, show (0 : Int32).toInt = 0 from rfl]; omega, fun b b1 b2 => by omega, fun k hk => Or.inl ((el k hk).1.trans (el k hk).2.symm)⟩⟩
