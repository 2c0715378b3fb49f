/-! ===== the reference's loops as a step ===== -/
/-- how many places of the first q are counted there -/
noncomputable def zdM (n x j q : Nat) : Nat := Nat.rec (motive := fun _ => Nat) 0 (fun y c => bif Nat.beq (zsM x y n) j then Nat.succ c else c) q
theorem zcM_9 (n x j q : Nat) : ∀ i, i ≤ 9 → zcM n x j (9 * q + i) = zcM n x j (9 * q) + i * (if zsM x q n = j then 1 else 0)
  | 0, _ => by rw [Nat.zero_mul]; rfl
  | i + 1, hi => by
    have ih := zcM_9 n x j q i (by omega)
    show zcM n x j (9 * q + i) + (if zsM x ((9 * q + i) / 9) n = j then 1 else 0) = _
    rw [ih, show (9 * q + i) / 9 = q by omega, Nat.add_mul, Nat.one_mul, Nat.add_assoc]
theorem zcM_d (n x j : Nat) : ∀ q, zcM n x j (9 * q) = 9 * zdM n x j q
  | 0 => rfl
  | q + 1 => by
    have h := zcM_9 n x j q 9 (Nat.le_refl 9)
    have ih := zcM_d n x j q
    have e : zdM n x j (q + 1) = bif Nat.beq (zsM x q n) j then zdM n x j q + 1 else zdM n x j q := rfl
    rw [show 9 * (q + 1) = 9 * q + 9 by omega, h, ih, e]
    by_cases hj : zsM x q n = j
    · rw [if_pos hj, hj, show Nat.beq j j = true from Nat.beq_refl j, cond_true]
      omega
    · rw [if_neg hj, show Nat.beq (zsM x q n) j = false from (by cases hb : Nat.beq (zsM x q n) j with | false => rfl | true => exact absurd (Nat.eq_of_beq_eq_true hb) hj), cond_false]
      omega
noncomputable def zvM (n i : Nat) : Nat := Nat.mul 9 (zdM n (Nat.div i 21) (Nat.mod i 21) 20)
noncomputable def zfM (n m : Nat) : Nat := Nat.rec (motive := fun _ => Nat) (zmk 10 420) (fun i a => zupd a i (Nat.xor (Nat.add (zvM n i) 2147483648) 2147483648)) m
theorem zvM_e {n i : Nat} (hi : i < 420) : zvM n i = zctM n 180 0 i := by
  unfold zctM
  rw [if_pos hi, if_neg (by omega)]
  exact (zcM_d n (i / 21) (i % 21) 20).symm
theorem zfM_t (n : Nat) : ∀ m, m ≤ 420 → ztag (zfM n m) = 10 ∧ zlen (zfM n m) = 420 ∧ ∀ j, zraw (zfM n m) j = if j < m then Nat.xor (Nat.add (zvM n j) 2147483648) 2147483648 else 0
  | 0, _ => ⟨zmk_tag (by omega), zmk_len (by omega) (by omega), fun j => by rw [if_neg (by omega)]; exact zmk_raw (by omega) (by omega) j⟩
  | m + 1, hm => by
    obtain ⟨h1, h2, h3⟩ := zfM_t n m (by omega)
    have e : zfM n (m + 1) = zupd (zfM n m) m (Nat.xor (Nat.add (zvM n m) 2147483648) 2147483648) := rfl
    have hb : Nat.xor (Nat.add (zvM n m) 2147483648) 2147483648 < 2 ^ 65 := by
      have := zctM_le (n := n) (w := 180) (x0 := 0) (i := m)
      refine zxor_lt ?_ (by decide)
      rw [zadd_e, zvM_e (by omega)]
      exact Nat.lt_of_le_of_lt (Nat.add_le_add_right this _) (by decide)
    rw [e, ztag_u, zlen_u]
    refine ⟨h1, h2, fun j => ?_⟩
    by_cases hj : j = m
    · subst hj
      rw [zraw_s hb, if_pos (by omega)]
    · rw [zraw_n hb hj, h3]
      by_cases h : j < m
      · rw [if_pos h, if_pos (by omega)]
      · rw [if_neg h, if_neg (by omega)]
theorem zM_putc {gh : zGh} {t k m : Nat} {A : zAm} {I : qMI} {L : qML} {R : qMR} (hm : zM gh t A I L R) (h1 : ztag (zcell A k) = 10) (h2 : ztag m = 10) (h3 : zlen m = zlen (zcell A k)) (h4 : ∀ j, zin (Nat.xor (zraw m j) 2147483648) (I k j)) : zM gh t (zput A k m) I L R := by
  refine ⟨fun q hq => ?_, fun q hq => ?_⟩
  · rw [zcell_put] at hq ⊢
    by_cases hqk : q = k
    · subst hqk
      rw [if_pos rfl] at hq ⊢
      obtain ⟨g1, g2, g3, g4⟩ := hm.1 q (by rw [h1]; omega)
      rw [h1] at g2
      rw [← h3] at g3
      rw [h2]
      exact ⟨g1, g2, g3, fun j => ⟨fun _ => h4 j, fun e => (by cases e), fun e => (by cases e)⟩⟩
    · rw [if_neg hqk] at hq ⊢
      exact hm.1 q hq
  · rw [zcell_put] at hq
    by_cases hqk : q = k
    · rw [if_pos hqk, h2] at hq
      exact absurd (by omega) hq
    · rw [if_neg hqk] at hq
      exact hm.2 q hq
theorem zP_c (q : List (Nat × Nat)) (k m j : Nat) : zcell (zP ((k, m) :: q)) j = if j = k then m else zcell (zP q) j := zcell_put (zP q) k m j
theorem zmrg_c (A : zAm) (q : List (Nat × Nat)) (k m j : Nat) : zcell (zmrg A ((k, m) :: q)) j = if j = k then m else zcell (zmrg A q) j := zcell_put (zmrg A q) k m j
theorem zhas_tl {A : zAm} {x : Nat × Nat} {q : List (Nat × Nat)} (h : zhas A (x :: q) = true) : zhas A q = true := by
  have h : (bif zrel (zcell A x.1) x.2 then (bif Nat.ble (ztag x.2) 14 then zhas A q else false) else false) = true := h
  exact (zand (zand h).2).2
noncomputable def zLM2 : List (Nat × Nat) := (333, ztcn 420 420) :: zLM
def zT323 : Nat := 3114
noncomputable def gM : zBl := fun jp _ lv st ce sl t A => zR (zn zdum lv 0) (fun a0 => zkn (zn zdum lv 1) 1 (fun _ => zkn (zn zdum lv 2) 25 (fun n => zkn (zn zdum lv 3) 1 (fun _ => zkn (zn zdum lv 4) 1 (fun _ => zE st (
  bif Nat.beq a0 292 then (bif Nat.beq ce 0 then (bif Nat.beq sl 0 then (bif Nat.beq t 336 then (bif zhas A zLM2 then (bif Nat.beq (zcell A 323) zT323 then (bif Nat.beq (zcell A 333) (zmk 10 420) then
  jp 16 [.inr (.ref 292), .inl 2147483648, .inl (Nat.add n 2147483648), .inl 2147483828, .inl 2147483828, .inl 2147483668] [] 0 0 336 (zput (zmrg A zLM2) 333 (zfM n 420)) else false) else false) else false) else false) else false) else false) else false))))))
theorem gM_ok {l : Launch} {G : qG} {gh : zGh} {d : Nat} : zPb l G gh (d + 6) n_X9_look p_X9_look 51 gM := by
  intro K jp hj lv st ce sl t A h lv' st' I L R hl hs hm
  obtain ⟨v0, k0, z0⟩ := zgl_get hl (zR_nd h)
  obtain ⟨a0, rfl, h⟩ := zR_t h z0
  obtain ⟨v1, k1, z1⟩ := zgl_get hl (zkn_nd h)
  obtain ⟨kk, hk1, rfl, h⟩ := zkn_t h z1 (by omega)
  obtain ⟨v2, k2, z2⟩ := zgl_get hl (zkn_nd h)
  obtain ⟨n, hn, rfl, h⟩ := zkn_t h z2 (by omega)
  obtain ⟨v3, k3, z3⟩ := zgl_get hl (zkn_nd h)
  obtain ⟨u, hu, rfl, h⟩ := zkn_t h z3 (by omega)
  obtain ⟨v4, k4, z4⟩ := zgl_get hl (zkn_nd h)
  obtain ⟨w, hw, rfl, h⟩ := zkn_t h z4 (by omega)
  obtain ⟨rfl, h⟩ := zE_t h hs
  obtain ⟨b1, h⟩ := zand h
  obtain ⟨b2, h⟩ := zand h
  obtain ⟨b3, h⟩ := zand h
  obtain ⟨b4, h⟩ := zand h
  obtain ⟨b5, h⟩ := zand h
  obtain ⟨b6, h⟩ := zand h
  obtain ⟨b7, hK⟩ := zand h
  have e1 := Nat.eq_of_beq_eq_true b1
  have e2 := Nat.eq_of_beq_eq_true b2
  have e3 := Nat.eq_of_beq_eq_true b3
  have e4 := Nat.eq_of_beq_eq_true b4
  subst e1 e2 e3 e4
  obtain rfl : kk = 0 := by omega
  obtain rfl : u = 0 := by omega
  obtain rfl : w = 0 := by omega
  have hbM : zhas A zLM = true := zhas_tl b5
  have hP := zM_part hm.1 hbM
  have t323 : ztag zT323 = 10 := by decide +kernel
  have a96 : I 323 96 = nI 0 := (zcI hm.1 b6 (by rw [t323]; omega) (by rw [t323]; rfl) (c := 2147483648) (by decide +kernel) (by decide)).trans (by decide)
  have tz : ztag (zmk 10 420) = 10 := zmk_tag (by omega)
  have a333 : ∀ i, I 333 i = nI (zctM n 0 0 i) := fun i => by
    rw [zctM_0]
    exact (zcI hm.1 b7 (by rw [tz]; omega) (by rw [tz]; rfl) (c := 2147483648) (by rw [zmk_raw (by omega) (by omega)]; decide) (by decide)).trans (show zc 2147483648 = nI 0 by decide)
  refine zoutM (n := n) (I0 := I) (L0 := L) (R0 := R) (by omega) a96 ?_ 180 0 rfl lv' I L R ⟨k0, k1, k2, k3, k4⟩ (Or.inl rfl) hP ⟨fun _ _ _ => rfl, fun _ _ => rfl, fun _ _ => rfl⟩ a333
  intro lv2 I' L' R' hv v5 hm' hF hI'
  have c333 : zcell (zP zLM2) 333 = ztcn 420 420 := by
    exact (zP_c zLM 333 (ztcn 420 420) 333).trans (if_pos rfl)
  have cN : ∀ k, k ≠ 333 → zcell (zP zLM2) k = zcell (zP zLM) k := fun k hk => by
    exact (zP_c zLM 333 (ztcn 420 420) k).trans (if_neg hk)
  obtain ⟨t1, t2, t3⟩ := ztcn_t (len := 420) (by omega) 420
  have hI2 : ∀ i, 420 ≤ i → I' 333 i = 0 := fun i hi => by
    rw [hI' i]
    unfold zctM
    rw [if_neg (by omega)]
    rfl
  have hmr : zM gh 336 (zmrg A zLM2) I' L' R' := by
    refine zM_mrg hm.1 b5 ⟨fun k hk => ?_, fun k hk => ?_⟩
    · by_cases hk4 : k = 333
      · subst hk4
        rw [c333, t1, t2]
        refine ⟨by omega, by decide +kernel, by decide +kernel, fun j => ⟨fun _ => ?_, fun q => (by cases q), fun q => (by cases q)⟩⟩
        rw [t3]
        by_cases hj : j < 420
        · rw [if_pos hj]; exact zin_top _
        · rw [if_neg hj, hI2 j (by omega)]
          exact zin0
      · rw [cN k hk4] at hk ⊢
        exact hm'.1 k hk
    · by_cases hk4 : k = 333
      · subst hk4
        rw [c333, t1] at hk
        exact absurd (by omega) hk
      · rw [cN k hk4] at hk
        have e31 : zcell (zP zLM) k = 31 := by
          rcases zkeys k hbM with ⟨e, -⟩ | ⟨-, e, -⟩
          · exact e
          · exact absurd e hk
        exact ⟨hF.1 k e31 hk4, hF.2.2 k e31, hF.2.1 k e31⟩
  have c2 : zcell (zmrg A zLM2) 333 = ztcn 420 420 := by
    exact (zmrg_c A zLM 333 (ztcn 420 420) 333).trans (if_pos rfl)
  obtain ⟨f1, f2, f3⟩ := zfM_t n 420 (Nat.le_refl _)
  have hmf : zM gh 336 (zput (zmrg A zLM2) 333 (zfM n 420)) I' L' R' := by
    refine zM_putc hmr (by rw [c2]; exact t1) f1 (by rw [c2, f2, t2]) (fun j => ?_)
    rw [f3]
    by_cases hj : j < 420
    · rw [if_pos hj, zxx, hI' j, zvM_e hj]
      have := zctM_le (n := n) (w := 180) (x0 := 0) (i := j)
      exact zin_eq (zb_nIs (by omega))
    · rw [if_neg hj, hI2 j (by omega)]
      exact zin0
  obtain ⟨w0, w1, w2, w3, w4⟩ := hv
  have hz := hj 16
  rw [show zn 0 p_X9_look 16 = 153 from rfl] at hz
  refine hz _ [] 0 0 336 _ hK lv2 [] I' L' R' (fun j => ?_) trivial ⟨hmf, Nat.zero_le _, Nat.zero_le _⟩
  match j with
  | 0 => exact Or.inr ⟨_, w0, rfl, rfl⟩
  | 1 => exact Or.inr ⟨_, w1, _, rfl, zin_eq (by decide)⟩
  | 2 => exact Or.inr ⟨_, w2, _, rfl, zin_eq (zb_nIs (by omega))⟩
  | 3 => exact Or.inr ⟨_, w3, _, rfl, zin_eq (by decide)⟩
  | 4 => exact Or.inr ⟨_, w4, _, rfl, zin_eq (by decide)⟩
  | 5 => exact Or.inr ⟨_, v5, _, rfl, zin_eq (by decide)⟩
  | j + 6 => exact Or.inl rfl
section
variable {l : Launch} {G : qG} {gh : zGh}
noncomputable def fv_X9_look : zMt := zmet 9 [b_X9_look_0, b_X9_look_1, b_X9_look_2, b_X9_look_3, b_X9_look_4, b_X9_look_5, b_X9_look_6, gM, b_X9_look_8, b_X9_look_9, b_X9_look_10, b_X9_look_11, b_X9_look_12, b_X9_look_13, b_X9_look_14, b_X9_look_15, b_X9_look_16, b_X9_look_17, b_X9_look_18, b_X9_look_19, b_X9_look_20, b_X9_look_21, b_X9_look_22, b_X9_look_23, b_X9_look_24, b_X9_look_25, b_X9_look_26, b_X9_look_27, b_X9_look_28, b_X9_look_29]
theorem cv_X9_look (d : Nat) : zC l G gh (d + 6) n_X9_look fv_X9_look := zmet_ok (pcs := p_X9_look) (by decide) rfl rfl ⟨s_X9_look_0 d, s_X9_look_1 d, s_X9_look_2 d, s_X9_look_3 d, s_X9_look_4 d, s_X9_look_5 d, s_X9_look_6 d, gM_ok, s_X9_look_8 d, s_X9_look_9 d, s_X9_look_10 d, s_X9_look_11 d, s_X9_look_12 d, s_X9_look_13 d, s_X9_look_14 d, s_X9_look_15 d, s_X9_look_16 d, s_X9_look_17 d, s_X9_look_18 d, s_X9_look_19 d, s_X9_look_20 d, s_X9_look_21 d, s_X9_look_22 d, s_X9_look_23 d, s_X9_look_24 d, s_X9_look_25 d, s_X9_look_26 d, s_X9_look_27 d, s_X9_look_28 d, s_X9_look_29 d, trivial⟩
end
