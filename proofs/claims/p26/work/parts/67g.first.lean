theorem zM_newO {gh : zGh} {t ci nf : Nat} {A : zAm} {I : qMI} {L : qML} {R : qMR} (hm : zM gh t A I L R) (hc : ci < 10) (hn : nf < 4096) (hs : qSh t = (ci, nf)) : zM gh (t + 1) (zput A t (zmk ci nf)) (qUpF I t (fun _ => 0)) L (qUpRF R t (fun _ => none)) := zM_new hm (by omega) hn hs (fun k hk => ⟨qUpF_n I _ hk, rfl, qUpRF_n R _ hk⟩) (fun j => ⟨fun _ => by rw [qUpF_s], fun q => absurd q (zkd_n1 hc), fun _ => by rw [qUpRF_s]⟩)
theorem zend_t {n t : Nat} {B A : zAm} {r0 : Option zX} {r : Option Value} (h : zend n B r0 t A = true) (hg : zgo r0 r) : r = none ∧ t = n ∧ A = B := by
  cases r0 with
  | some x => cases h
  | none =>
    obtain ⟨h1, h2⟩ := zand (show (bif Nat.beq t n then zAeq A B else false) = true from h)
    cases r with
    | some v => exact hg.elim
    | none => exact ⟨rfl, Nat.eq_of_beq_eq_true h1, zAeq_t h2⟩
/-! the start lies within what holds between two calls -/
noncomputable def zow1 (a m n : Nat) : Bool := Nat.rec (motive := fun _ => Bool) true (fun j ih => bif ih then zwi (Nat.xor (zraw a j) 2147483648) m else false) n
theorem zow1_t {a m : Nat} : ∀ {n : Nat}, zow1 a m n = true → ∀ j, j < n → zwi (Nat.xor (zraw a j) 2147483648) m = true
  | 0, _, j, hj => by omega
  | n + 1, h, j, hj => by
    obtain ⟨h1, h2⟩ := zand (show (bif zow1 a m n then zwi (Nat.xor (zraw a n) 2147483648) m else false) = true from h)
    by_cases hjn : j = n
    · subst hjn
      exact h2
    · exact zow1_t h1 j (by omega)
noncomputable def zcu (a m : Nat) : Bool := bif Nat.ble (ztag m) 15 then zcv a m else (bif Nat.beq (Nat.add (ztag a) 6) (ztag m) then (bif Nat.ble (ztag m) 19 then (bif Nat.beq (zlen a) (zlen m) then (bif Nat.beq (ztag m) 19 then true else (bif Nat.beq (Nat.xor (zraw m 0) 2147483648) ztop then true else zow1 a (Nat.xor (zraw m 0) 2147483648) (zlen m))) else false) else false) else false)
noncomputable def zhas1 (A : zAm) (q : List (Nat × Nat)) : Bool := List.rec (motive := fun _ => Bool) true (fun x _ ih => bif zcu (zcell A x.1) x.2 then (bif Nat.ble (ztag x.2) 19 then ih else false) else false) q
theorem zkeys1 {A : zAm} (k : Nat) : ∀ {q : List (Nat × Nat)}, zhas1 A q = true → zcell (zP q) k = 31 ∨ (ztag (zcell (zP q) k) < 20 ∧ zcu (zcell A k) (zcell (zP q) k) = true)
  | [], _ => Or.inl rfl
  | x :: q, h => by
    have e1 : zP (x :: q) = zput (zP q) x.1 x.2 := rfl
    have h : (bif zcu (zcell A x.1) x.2 then (bif Nat.ble (ztag x.2) 19 then zhas1 A q else false) else false) = true := h
    obtain ⟨h1, h2⟩ := zand h
    obtain ⟨h3, h4⟩ := zand h2
    rw [e1, zcell_put]
    by_cases hk : k = x.1
    · subst hk
      rw [if_pos rfl]
      exact Or.inr ⟨by have := Nat.le_of_ble_eq_true h3; omega, h1⟩
    · rw [if_neg hk]
      exact zkeys1 k h4
theorem zM_first {gh : zGh} {t : Nat} {A : zAm} {I : qMI} {L : qML} {R : qMR} {q : List (Nat × Nat)} (hm : zM gh t A I L R) (h : zhas1 A q = true) : zM (I, L, R) t (zP q) I L R := by
  refine ⟨⟨fun k hk => ?_, fun k hk hk2 => ?_⟩, fun k _ => ⟨rfl, rfl, rfl⟩, fun _ _ _ _ => rfl⟩
  · rcases zkeys1 k h with h1 | ⟨-, h1⟩
    · have := zn31 h1; omega
    · unfold zcu at h1
      rw [show Nat.ble (ztag (zcell (zP q) k)) 15 = true from Nat.ble_eq_true_of_le (by omega), cond_true] at h1
      obtain ⟨e1, e2, e3, -⟩ := zcv_known h1
      obtain ⟨g1, g2, g3, g4⟩ := hm.1.1 k (by rw [e1]; exact hk)
      rw [e1] at g2 g4
      rw [e2] at g3
      exact ⟨g1, g2, g3, fun j => e3 hk j _ _ _ (g4 j)⟩
  · rcases zkeys1 k h with h1 | ⟨-, h1⟩
    · have := zn31 h1; omega
    · unfold zcu at h1
      rw [show Nat.ble (ztag (zcell (zP q) k)) 15 = false from by
        cases e : Nat.ble (ztag (zcell (zP q) k)) 15 with
        | false => rfl
        | true => exact absurd (Nat.le_of_ble_eq_true e) (by omega), cond_false] at h1
      obtain ⟨h2, h1⟩ := zand h1
      obtain ⟨h3, h1⟩ := zand h1
      obtain ⟨h4, h1⟩ := zand h1
      have e2 := Nat.eq_of_beq_eq_true h2
      rw [zadd_e] at e2
      have e4 := Nat.eq_of_beq_eq_true h4
      obtain ⟨g1, g2, g3, g4⟩ := hm.1.1 k (by omega)
      refine ⟨g1, by omega, by rw [g3, e4], fun h19 j hj => ?_⟩
      rcases zelse h1 with ⟨q5, -⟩ | h1
      · have := Nat.eq_of_beq_eq_true q5
        omega
      · have g5 := (g4 j).1 (by unfold zkd; rw [if_neg (by omega), if_pos (by omega)])
        rcases zelse h1 with ⟨q6, -⟩ | h1
        · rw [Nat.eq_of_beq_eq_true q6]; exact zin_top _
        · exact zwi_t (zow1_t h1 j hj) g5
theorem zzero {gh : zGh} {t : Nat} {A : zAm} {I : qMI} {L : qML} {R : qMR} {k : Nat} (hm : zM gh t A I L R) (h1 : ztag (zcell A k) = 10) (h2 : zcell A k < 4294967296) (j : Nat) : I k j = 0 := by
  obtain ⟨-, -, -, g4⟩ := hm.1.1 k (by omega)
  have g5 := (g4 j).1 (by rw [h1]; rfl)
  have e : zraw (zcell A k) j = 0 := by
    rw [zraw_eq, Nat.shiftRight_eq_div_pow, Nat.div_eq_of_lt (Nat.lt_of_lt_of_le h2 (Nat.pow_le_pow_right (n := 2) (by omega) (show 32 ≤ 32 + 65 * j by omega)))]
  rw [e] at g5
  have := zin_b2 g5 (a := 2147483648) (b := 2147483648) (by decide) (by decide)
  exact i_eq.mpr (by rw [show (0 : Int32).toInt = 0 from rfl]; omega)
theorem zx_first : zhas1 zA0 zqi0 = true := by decide +kernel
theorem vFirst {gh : zGh} {I : qMI} {L : qML} {R : qMR} (hm : zM gh 336 zA0 I L R) : vInv I L R := by
  refine ⟨Or.inl (by have := zM_first hm zx_first; rw [zAi0_e] at this; exact this), Or.inl ⟨?_, ?_, ?_⟩⟩
  · obtain ⟨-, -, -, -, f5⟩ := zM_at hm (a := 292) (tg := 9) (by decide +kernel) (by omega)
    have g := (f5 18).1 (zkd_I (by decide) rfl)
    have := zin_b2 g (a := 2147483648) (b := 2147483648) (by decide +kernel) (by decide +kernel)
    exact i_eq.mpr (by rw [show (0 : Int32).toInt = 0 from rfl]; show (I 292 18).toInt = 0; omega)
  · intro k hk h
    have h : I 311 (5 * 0 + k) < I 312 (5 * 0 + k) := h
    rw [show I 311 (5 * 0 + k) = 0 from zzero hm (by decide +kernel) (by decide +kernel) _, show I 312 (5 * 0 + k) = 0 from zzero hm (by decide +kernel) (by decide +kernel) _] at h
    exact absurd h (by decide)
  · intro k hk h
    have h : I 311 (5 * 0 + k) < I 312 (5 * 0 + k) := h
    rw [show I 311 (5 * 0 + k) = 0 from zzero hm (by decide +kernel) (by decide +kernel) _, show I 312 (5 * 0 + k) = 0 from zzero hm (by decide +kernel) (by decide +kernel) _] at h
    exact absurd h (by decide)
