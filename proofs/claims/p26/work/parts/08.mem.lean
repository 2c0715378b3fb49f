/-! ===== memory, calls, ends ===== -/
theorem zM_at {gh : zGh} {t a tg : Nat} {A : zAm} {I : qMI} {L : qML} {R : qMR} (hm : zM gh t A I L R) (h : Nat.beq (ztag (zcell A a)) tg = true) (ht : tg < 15) : ztag (zcell A a) = tg ∧ a < t ∧ (qSh a).1 = tg ∧ (qSh a).2 = zlen (zcell A a) ∧ ∀ j, zSl (zkd tg j) (zraw (zcell A a) j) (I a j) (L a j) (R a j) := by
  have e := Nat.eq_of_beq_eq_true h
  obtain ⟨h1, h2, h3, h4⟩ := hm.1.1 a (by rw [e]; exact ht)
  rw [e] at h2 h4
  exact ⟨e, h1, h2, h3, h4⟩
/-! marks -/
def zcl (m : Nat) : Nat := Nat.sub m (Nat.mul (Nat.mod (Nat.div m 131072) 4) 131072)
theorem zcl_e (m : Nat) : zcl m = m - m / 131072 % 4 * 131072 := rfl
theorem zcl_tag (m : Nat) : ztag (zcl m) = ztag m := by
  show zcl m % 32 = m % 32
  rw [zcl_e]; omega
theorem zcl_len (m : Nat) : zlen (zcl m) = zlen m := by
  show zcl m / 32 % 4096 = m / 32 % 4096
  rw [zcl_e]; omega
theorem zraw_hi {a m : Nat} (h : a / 4294967296 = m / 4294967296) (j : Nat) : zraw a j = zraw m j := by
  have h2 : a >>> 32 = m >>> 32 := by rw [Nat.shiftRight_eq_div_pow, Nat.shiftRight_eq_div_pow]; exact h
  rw [zraw_eq, zraw_eq, Nat.shiftRight_add, Nat.shiftRight_add, h2]
theorem zcl_raw (m j : Nat) : zraw (zcl m) j = zraw m j := zraw_hi (by rw [zcl_e]; omega) j
theorem zfr_e (m : Nat) : zfr m = true ↔ m / 131072 % 2 = 1 := ⟨fun h => Nat.eq_of_beq_eq_true h, fun h => by unfold zfr; rw [show Nat.mod (Nat.div m 131072) 2 = 1 from h]; rfl⟩
theorem zfp_e (m : Nat) : zfp m = true ↔ m / 262144 % 2 = 1 := ⟨fun h => Nat.eq_of_beq_eq_true h, fun h => by unfold zfp; rw [show Nat.mod (Nat.div m 262144) 2 = 1 from h]; rfl⟩
theorem zcl_fr (m : Nat) : ¬ zfr (zcl m) = true := fun h => by
  rw [zfr_e, zcl_e] at h; omega
theorem zcl_fp (m : Nat) : ¬ zfp (zcl m) = true := fun h => by
  rw [zfp_e, zcl_e] at h; omega
/-- a field that doesn't count is written -/
def zcs (m : Nat) : Nat := bif zfr m then Nat.add (zcl m) 262144 else m
theorem zcs_cases (m : Nat) : (zfr m = true ∧ zcs m = zcl m + 262144) ∨ (¬ zfr m = true ∧ zcs m = m) := by
  unfold zcs
  cases h : zfr m with
  | true => exact Or.inl ⟨rfl, rfl⟩
  | false => exact Or.inr ⟨by decide, rfl⟩
theorem zcs_tag (m : Nat) : ztag (zcs m) = ztag m := by
  rcases zcs_cases m with ⟨_, e⟩ | ⟨_, e⟩
  · rw [e]
    show (zcl m + 262144) % 32 = m % 32
    rw [zcl_e]; omega
  · rw [e]
theorem zcs_len (m : Nat) : zlen (zcs m) = zlen m := by
  rcases zcs_cases m with ⟨_, e⟩ | ⟨_, e⟩
  · rw [e]
    show (zcl m + 262144) / 32 % 4096 = m / 32 % 4096
    rw [zcl_e]; omega
  · rw [e]
theorem zcs_raw (m j : Nat) : zraw (zcs m) j = zraw m j := by
  rcases zcs_cases m with ⟨_, e⟩ | ⟨_, e⟩
  · rw [e]
    exact zraw_hi (by rw [zcl_e]; omega) j
  · rw [e]
theorem zcs_fr (m : Nat) : ¬ zfr (zcs m) = true := by
  rcases zcs_cases m with ⟨_, e⟩ | ⟨h, e⟩
  · rw [e, zfr_e, zcl_e]; omega
  · rw [e]; exact h
theorem zcs_fp {m : Nat} (h : zfp (zcs m) = true) : zfr m = true ∨ zfp m = true := by
  rcases zcs_cases m with ⟨h1, _⟩ | ⟨_, e⟩
  · exact Or.inl h1
  · rw [e] at h; exact Or.inr h
theorem zu_lo (m j v : Nat) : zupd m j v % 4294967296 = m % 4294967296 := zhead m j v
theorem zfr_u (m j v : Nat) : zfr (zupd m j v) = zfr m := by
  have h := zu_lo m j v
  have : zupd m j v / 131072 % 2 = m / 131072 % 2 := by omega
  unfold zfr
  rw [show Nat.mod (Nat.div (zupd m j v) 131072) 2 = Nat.mod (Nat.div m 131072) 2 from this]
theorem zfp_u (m j v : Nat) : zfp (zupd m j v) = zfp m := by
  have h := zu_lo m j v
  have : zupd m j v / 262144 % 2 = m / 262144 % 2 := by omega
  unfold zfp
  rw [show Nat.mod (Nat.div (zupd m j v) 262144) 2 = Nat.mod (Nat.div m 262144) 2 from this]
/-- a number of the same sort, length and places: one place of it is written; its marks say no more than is so -/
theorem zM_set0 {gh : zGh} {t a tg j v n : Nat} {A : zAm} {I I' : qMI} {L L' : qML} {R R' : qMR} (hm : zM gh t A I L R) (e : ztag (zcell A a) = tg) (hv : v < 2 ^ 65) (hn : ztag n = tg ∧ zlen n = zlen (zcell A a) ∧ ∀ i, zraw n i = zraw (zcell A a) i) (hO : ∀ k i, ¬ (k = a ∧ i = j) → I' k i = I k i ∧ L' k i = L k i ∧ R' k i = R k i) (hN : zSl (zkd tg j) v (I' a j) (L' a j) (R' a j)) (htg : tg < 15) (hF : zfr n = true → I' a = gh.1 a ∧ L' a = gh.2.1 a ∧ R' a = gh.2.2 a) (hF2 : zfp n = true → ∀ i, zscr i = false → I' a i = gh.1 a i) : zM gh t (zput A a (zupd n j v)) I' L' R' := by
  obtain ⟨n1, n2, n3⟩ := hn
  refine ⟨⟨fun k hk => ?_, fun k hk hk2 => ?_⟩, fun k hk => ?_, fun k hk i hi => ?_⟩
  case refine_2 =>
    rw [zcell_put] at hk hk2 ⊢
    have hka : k ≠ a := fun q => by
      subst q
      rw [if_pos rfl, ztag_u, n1] at hk
      omega
    rw [if_neg hka] at hk hk2 ⊢
    rw [show I' k = I k from funext fun i => (hO k i (fun q => hka q.1)).1]
    exact hm.1.2 k hk hk2
  case refine_3 =>
    rw [zcell_put] at hk
    by_cases hka : k = a
    · subst hka
      rw [if_pos rfl, ztag_u, n1, zfr_u] at hk
      exact hF (hk.resolve_left (by omega))
    · rw [if_neg hka] at hk
      obtain ⟨o1, o2, o3⟩ := hm.2.1 k hk
      exact ⟨(funext fun i => (hO k i (fun q => hka q.1)).1).trans o1, (funext fun i => (hO k i (fun q => hka q.1)).2.1).trans o2, (funext fun i => (hO k i (fun q => hka q.1)).2.2).trans o3⟩
  case refine_4 =>
    rw [zcell_put] at hk
    by_cases hka : k = a
    · subst hka
      rw [if_pos rfl, zfp_u] at hk
      exact hF2 hk i hi
    · rw [if_neg hka] at hk
      exact ((hO k i (fun q => hka q.1)).1).trans (hm.2.2 k hk i hi)
  rw [zcell_put] at hk ⊢
  by_cases hka : k = a
  · subst hka
    rw [if_pos rfl] at hk ⊢
    rw [ztag_u, n1] at hk ⊢
    rw [zlen_u, n2]
    obtain ⟨h1, h2, h3, h4⟩ := hm.1.1 k (by rw [e]; exact hk)
    rw [e] at h2 h4
    refine ⟨h1, h2, h3, fun i => ?_⟩
    by_cases hij : i = j
    · subst hij
      rw [zraw_s hv]
      exact hN
    · obtain ⟨o1, o2, o3⟩ := hO k i (fun q => hij q.2)
      rw [zraw_n hv hij, n3, o1, o2, o3]
      exact h4 i
  · rw [if_neg hka] at hk ⊢
    obtain ⟨h1, h2, h3, h4⟩ := hm.1.1 k hk
    refine ⟨h1, h2, h3, fun i => ?_⟩
    obtain ⟨o1, o2, o3⟩ := hO k i (fun q => hka q.1)
    rw [o1, o2, o3]
    exact h4 i
/-- a place is written, the marks go -/
theorem zM_set {gh : zGh} {t a tg j v : Nat} {A : zAm} {I I' : qMI} {L L' : qML} {R R' : qMR} (hm : zM gh t A I L R) (e : ztag (zcell A a) = tg) (hv : v < 2 ^ 65) (hO : ∀ k i, ¬ (k = a ∧ i = j) → I' k i = I k i ∧ L' k i = L k i ∧ R' k i = R k i) (hN : zSl (zkd tg j) v (I' a j) (L' a j) (R' a j)) (htg : tg < 15) : zM gh t (zput A a (zupd (zcl (zcell A a)) j v)) I' L' R' :=
  zM_set0 hm e hv ⟨(zcl_tag _).trans e, zcl_len _, zcl_raw _⟩ hO hN htg (fun h => absurd h (zcl_fr _)) (fun h => absurd h (zcl_fp _))
def zcf (ci j m : Nat) : Nat := bif (bif Nat.beq ci 9 then zscr j else false) then zcs m else zcl m
theorem zcf_cases (ci j m : Nat) : (zscr j = true ∧ zcf ci j m = zcs m) ∨ zcf ci j m = zcl m := by
  unfold zcf
  cases h : (bif Nat.beq ci 9 then zscr j else false) with
  | true => exact Or.inl ⟨(zand h).2, rfl⟩
  | false => exact Or.inr rfl
theorem zM_new {gh : zGh} {t tg n : Nat} {A : zAm} {I I' : qMI} {L L' : qML} {R R' : qMR} (hm : zM gh t A I L R) (ht : tg < 15) (hn : n < 4096) (hs : qSh t = (tg, n)) (hO : ∀ k, k ≠ t → I' k = I k ∧ L' k = L k ∧ R' k = R k) (hN : ∀ j, (zkd tg j = 0 → I' t j = 0) ∧ (zkd tg j = 1 → L' t j = 0) ∧ (zkd tg j = 2 → R' t j = none)) : zM gh (t + 1) (zput A t (zmk tg n)) I' L' R' := by
  have fl : zmk tg n = tg + 32 * n := rfl
  refine ⟨⟨fun k hk => ?_, fun k hk hk2 => ?_⟩, fun k hk => ?_, fun k hk i hi => ?_⟩
  case refine_2 =>
    rw [zcell_put] at hk hk2 ⊢
    have hka : k ≠ t := fun q => by
      subst q
      rw [if_pos rfl, zmk_tag (by omega)] at hk
      omega
    rw [if_neg hka] at hk hk2 ⊢
    rw [(hO k hka).1]
    obtain ⟨g1, g2⟩ := hm.1.2 k hk hk2
    exact ⟨by omega, g2⟩
  case refine_3 =>
    rw [zcell_put] at hk
    have hka : k ≠ t := fun q => by
      subst q
      rw [if_pos rfl, zmk_tag (by omega), zfr_e, fl] at hk
      omega
    rw [if_neg hka] at hk
    obtain ⟨o1, o2, o3⟩ := hm.2.1 k hk
    obtain ⟨p1, p2, p3⟩ := hO k hka
    exact ⟨p1.trans o1, p2.trans o2, p3.trans o3⟩
  case refine_4 =>
    rw [zcell_put] at hk
    have hka : k ≠ t := fun q => by
      subst q
      rw [if_pos rfl, zfp_e, fl] at hk
      omega
    rw [if_neg hka] at hk
    rw [(hO k hka).1]
    exact hm.2.2 k hk i hi
  rw [zcell_put] at hk ⊢
  by_cases hka : k = t
  · subst hka
    rw [if_pos rfl] at hk ⊢
    rw [zmk_tag (by omega), zmk_len (by omega) hn, hs]
    refine ⟨by omega, rfl, rfl, fun i => ?_⟩
    rw [zmk_raw (by omega) hn]
    obtain ⟨o1, o2, o3⟩ := hN i
    refine ⟨fun q => ?_, fun q => ?_, fun q => ?_⟩
    · rw [o1 q]; exact zin0
    · rw [o2 q]; rfl
    · rw [o3 q]; rfl
  · rw [if_neg hka] at hk ⊢
    obtain ⟨h1, h2, h3, h4⟩ := hm.1.1 k hk
    obtain ⟨o1, o2, o3⟩ := hO k hka
    rw [o1, o2, o3]
    exact ⟨by omega, h2, h3, h4⟩
theorem zxx (c : Nat) : Nat.xor (Nat.xor c 2147483648) 2147483648 = c := by
  show c ^^^ 2147483648 ^^^ 2147483648 = c
  rw [Nat.xor_assoc, Nat.xor_self, Nat.xor_zero]
theorem zmx {c : Nat} (h : Nat.ble c 18446744073709551615 = true) : c < 2 ^ 65 := Nat.lt_of_le_of_lt (Nat.le_of_ble_eq_true h) (by decide)
theorem zmxx {c : Nat} (h : Nat.ble c 18446744073709551615 = true) : Nat.xor c 2147483648 < 2 ^ 65 := zxor_lt (zmx h) (by decide)
theorem zup_o {I : qMI} {a j k i : Nat} {x : Int32} (h : ¬ (k = a ∧ i = j)) : qUp I a j x k i = I k i := by
  unfold qUp qUpF
  by_cases hk : k = a
  · subst hk
    rw [if_pos rfl, upd, if_neg (fun e => h ⟨rfl, e⟩)]
  · rw [if_neg hk]
theorem zup_s {I : qMI} {a j : Nat} {x : Int32} : qUp I a j x a j = x := by
  unfold qUp qUpF
  rw [if_pos rfl, upd, if_pos rfl]
theorem zupL_o {I : qML} {a j k i : Nat} {x : Int64} (h : ¬ (k = a ∧ i = j)) : qUpL I a j x k i = I k i := by
  unfold qUpL qUpLF
  by_cases hk : k = a
  · subst hk
    rw [if_pos rfl, vp_updL, if_neg (fun e => h ⟨rfl, e⟩)]
  · rw [if_neg hk]
theorem zupL_s {I : qML} {a j : Nat} {x : Int64} : qUpL I a j x a j = x := by
  unfold qUpL qUpLF
  rw [if_pos rfl, vp_updL, if_pos rfl]
theorem zupR_o {I : qMR} {a j k i : Nat} {x : Option Nat} (h : ¬ (k = a ∧ i = j)) : qUpR I a j x k i = I k i := by
  unfold qUpR qUpRF
  by_cases hk : k = a
  · subst hk
    rw [if_pos rfl, va_up, if_neg (fun e => h ⟨rfl, e⟩)]
  · rw [if_neg hk]
theorem zupR_s {I : qMR} {a j : Nat} {x : Option Nat} : qUpR I a j x a j = x := by
  unfold qUpR qUpRF
  rw [if_pos rfl, va_up, if_pos rfl]
theorem zM_setF {gh : zGh} {t a ci j c : Nat} {A : zAm} {I : qMI} {L : qML} {R : qMR} {x : Int32} (hm : zM gh t A I L R) (e : ztag (zcell A a) = ci) (hd : zkd ci j = 0) (hc : Nat.ble c 18446744073709551615 = true) (hx : zin c x) (htg : ci < 15 := by omega) : zM gh t (zput A a (zupd (zcf ci j (zcell A a)) j (Nat.xor c 2147483648))) (qUp I a j x) L R := by
  have hO : ∀ k i, ¬ (k = a ∧ i = j) → qUp I a j x k i = I k i ∧ L k i = L k i ∧ R k i = R k i := fun k i h => ⟨zup_o h, rfl, rfl⟩
  have hN : zSl (zkd ci j) (Nat.xor c 2147483648) (qUp I a j x a j) (L a j) (R a j) := by
    refine ⟨fun _ => ?_, fun q => ?_, fun q => ?_⟩
    · rw [zxx, zup_s]; exact hx
    · rw [hd] at q; cases q
    · rw [hd] at q; cases q
  rcases zcf_cases ci j (zcell A a) with ⟨h1, h2⟩ | h2
  · rw [h2]
    refine zM_set0 hm e (zmxx hc) ⟨(zcs_tag _).trans e, zcs_len _, zcs_raw _⟩ hO hN htg (fun h => absurd h (zcs_fr _)) (fun h i hi => ?_)
    rw [zup_o (fun q => by rw [q.2, h1] at hi; cases hi)]
    rcases zcs_fp h with h3 | h3
    · rw [(hm.2.1 a (Or.inr h3)).1]
    · exact hm.2.2 a h3 i hi
  · rw [h2]
    exact zM_set hm e (zmxx hc) hO hN htg
theorem zM_setI {gh : zGh} {t a tg j c : Nat} {A : zAm} {I : qMI} {L : qML} {R : qMR} {x : Int32} (hm : zM gh t A I L R) (e : ztag (zcell A a) = tg) (hd : zkd tg j = 0) (hc : Nat.ble c 18446744073709551615 = true) (hx : zin c x) (htg : tg < 15 := by omega) : zM gh t (zput A a (zupd (zcl (zcell A a)) j (Nat.xor c 2147483648))) (qUp I a j x) L R := by
  refine zM_set hm e (zmxx hc) (fun k i h => ⟨zup_o h, rfl, rfl⟩) ⟨fun _ => ?_, fun q => ?_, fun q => ?_⟩ ?_
  · rw [zxx, zup_s]; exact hx
  · rw [hd] at q; cases q
  · rw [hd] at q; cases q
  · exact htg
theorem zM_setL {gh : zGh} {t a tg j : Nat} {A : zAm} {I : qMI} {L : qML} {R : qMR} {x : Int64} (hm : zM gh t A I L R) (e : ztag (zcell A a) = tg) (hd : zkd tg j = 1) (htg : tg < 15 := by omega) : zM gh t (zput A a (zupd (zcl (zcell A a)) j x.toUInt64.toNat)) I (qUpL L a j x) R := by
  refine zM_set hm e (Nat.lt_of_lt_of_le x.toUInt64.toNat_lt (by decide)) (fun k i h => ⟨rfl, zupL_o h, rfl⟩) ⟨fun q => ?_, fun q => ?_, fun q => ?_⟩ htg
  · rw [hd] at q; cases q
  · rw [zupL_s]
    show x = Int64.ofNat x.toUInt64.toNat
    exact Int64.toBitVec.inj (by show x.toBitVec = BitVec.ofNat 64 x.toBitVec.toNat; simp)
  · rw [hd] at q; cases q
theorem zM_setR {gh : zGh} {t a tg j n : Nat} {A : zAm} {I : qMI} {L : qML} {R : qMR} (hm : zM gh t A I L R) (e : ztag (zcell A a) = tg) (hd : zkd tg j = 2) (hc : Nat.ble n 18446744073709551615 = true) (htg : tg < 15 := by omega) : zM gh t (zput A a (zupd (zcl (zcell A a)) j n)) I L (qUpR R a j (zdr n)) := by
  refine zM_set hm e (zmx hc) (fun k i h => ⟨rfl, rfl, zupR_o h⟩) ⟨fun q => ?_, fun q => ?_, fun q => ?_⟩ htg
  · rw [hd] at q; cases q
  · rw [hd] at q; cases q
  · rw [zupR_s]
theorem zkd_I {ci j : Nat} (hc : ci < 10) (hq : qIsR (qTy ci j) = false) : zkd ci j = 0 := by
  unfold zkd
  rw [if_pos hc, if_neg (by rw [hq]; decide)]
theorem zkd_R {ci j : Nat} (hc : ci < 10) (hq : qIsR (qTy ci j) = true) : zkd ci j = 2 := by
  unfold zkd
  rw [if_pos hc, if_pos hq]
noncomputable def zrv (n : Nat) : zX := Nat.rec (motive := fun _ => zX) (.inr .null) (fun a _ => .inr (.ref a)) n
theorem zrv_t (n : Nat) : zg (zrv n) (qRv (zdr n)) := by
  cases n with
  | zero => exact ⟨rfl, rfl⟩
  | succ n => exact ⟨rfl, rfl⟩
section ZT
variable {l : Launch} {G : qG} {gh : zGh} {d : Nat} {K : zKr} {M : qMn} {pc : Nat} {k kt kf : zK}
/-! fields -/
noncomputable def oGetI (ci j : Nat) (k : zK) : zK := fun lv st ce sl t A => zpR st (fun a st => bif Nat.beq (ztag (zcell A a)) ci then k lv (.inl (Nat.xor (zraw (zcell A a) j) 2147483648) :: st) ce sl t A else false)
noncomputable def oGetR (ci j : Nat) (k : zK) : zK := fun lv st ce sl t A => zpR st (fun a st => bif Nat.beq (ztag (zcell A a)) ci then k lv (zrv (zraw (zcell A a) j) :: st) ce sl t A else false)
theorem z_getI {ci j idx : Nat} (hd : decode M.2.1 pc = .ok (.getfield idx, 3)) (hc : ci < 10) (hj : j < qNF ci) (hq : qIsR (qTy ci j) = false) (hw : Cond.fieldLink M.1.cls idx (qT ci j).1 (qT ci j).2.1 (qT ci j).2.2.1 ∈ gw) (hk : zS l G gh d K M (pc + 3) k) : zS l G gh d K M pc (oGetI ci j k) := by
  intro lv st ce sl t A h lv' st' I L R hl hs hm
  obtain ⟨a, st1, st2, rfl, h1, h2⟩ := zpR_t h hs
  obtain ⟨h3, h4⟩ := zand h2
  obtain ⟨g1, g2, g3, g4, g5⟩ := zM_at hm.1 h3 (by omega)
  refine q_getf hd g2 g3 hc hj hw ?_
  rw [if_neg (by rw [hq]; decide)]
  exact hk lv _ ce sl t A h4 lv' _ I L R hl ⟨⟨_, rfl, (g5 j).1 (zkd_I hc hq)⟩, h1⟩ hm
theorem z_getR {ci j idx : Nat} (hd : decode M.2.1 pc = .ok (.getfield idx, 3)) (hc : ci < 10) (hj : j < qNF ci) (hq : qIsR (qTy ci j) = true) (hw : Cond.fieldLink M.1.cls idx (qT ci j).1 (qT ci j).2.1 (qT ci j).2.2.1 ∈ gw) (hk : zS l G gh d K M (pc + 3) k) : zS l G gh d K M pc (oGetR ci j k) := by
  intro lv st ce sl t A h lv' st' I L R hl hs hm
  obtain ⟨a, st1, st2, rfl, h1, h2⟩ := zpR_t h hs
  obtain ⟨h3, h4⟩ := zand h2
  obtain ⟨g1, g2, g3, g4, g5⟩ := zM_at hm.1 h3 (by omega)
  refine q_getf hd g2 g3 hc hj hw ?_
  rw [if_pos hq, (g5 j).2.2 (zkd_R hc hq)]
  exact hk lv _ ce sl t A h4 lv' _ I L R hl ⟨zrv_t _, h1⟩ hm
noncomputable def oPutI (ci j : Nat) (k : zK) : zK := fun lv st ce sl t A => zpI st (fun c st => zpR st (fun a st => bif Nat.beq (ztag (zcell A a)) ci then (bif Nat.ble c 18446744073709551615 then k lv st ce sl t (zput A a (zupd (zcf ci j (zcell A a)) j (Nat.xor c 2147483648))) else false) else false))
theorem z_putI {ci j idx : Nat} (hd : decode M.2.1 pc = .ok (.putfield idx, 3)) (hc : ci < 10) (hj : j < qNF ci) (hq : qTy ci j = .int) (hw : Cond.fieldLink M.1.cls idx (qT ci j).1 (qT ci j).2.1 (qT ci j).2.2.1 ∈ gw) (hfin : (qT ci j).2.2.2 = false ∨ (M.1.name = "<init>" ∧ (qT ci j).1 = M.1.cls)) (hk : zS l G gh d K M (pc + 3) k) : zS l G gh d K M pc (oPutI ci j k) := by
  intro lv st ce sl t A h lv' st' I L R hl hs hm
  obtain ⟨c, st1, x, st2, rfl, h1, h2, h3⟩ := zpI_t h hs
  obtain ⟨a, st3, st4, rfl, h4, h5⟩ := zpR_t h3 h2
  obtain ⟨h6, h7⟩ := zand h5
  obtain ⟨h8, h9⟩ := zand h7
  obtain ⟨g1, g2, g3, g4, g5⟩ := zM_at hm.1 h6 (by omega)
  exact q_puti hd g2 g3 hc hj hw hfin (by rw [hq]; rfl) (by rw [hq]; rfl) (by rw [hq]; rfl) (hk lv _ ce sl t _ h9 lv' _ _ L R hl h4 ⟨zM_setF hm.1 g1 (zkd_I hc (by rw [hq]; rfl)) h8 h1, hm.2⟩)
/-- a value that is 0 or 1 -/
def z01 (c : Nat) : Bool := bif Nat.ble 2147483648 (zlo c) then Nat.ble (zhi c) 2147483649 else false
theorem z01_t {c : Nat} {x : Int32} (h : z01 c = true) (hx : zin c x) : x = 0 ∨ x = 1 := by
  obtain ⟨h1, h2⟩ := zand h
  have g1 := Nat.le_of_ble_eq_true h1
  have g2 := Nat.le_of_ble_eq_true h2
  obtain ⟨g3, g4⟩ := hx
  have e0 : zb 0 = 2147483648 := by decide
  have e1 : zb 1 = 2147483649 := by decide
  rcases (show zb x = 2147483648 ∨ zb x = 2147483649 by omega) with e | e
  · exact Or.inl (zb_inj (e.trans e0.symm))
  · exact Or.inr (zb_inj (e.trans e1.symm))
noncomputable def oPutR (ci j : Nat) (k : zK) : zK := fun lv st ce sl t A => zp st (fun x st => zN x (fun n => zpR st (fun a st => bif Nat.beq (ztag (zcell A a)) ci then (bif Nat.ble n 18446744073709551615 then k lv st ce sl t (zput A a (zupd (zcl (zcell A a)) j n)) else false) else false)))
theorem z_putR {ci j idx : Nat} (hd : decode M.2.1 pc = .ok (.putfield idx, 3)) (hc : ci < 10) (hj : j < qNF ci) (hn : ∀ r, narrow (qTy ci j) (va_rf r) = va_rf r) (hfit : ∀ r, fits (qTy ci j) (va_rf r) = true) (hq : qIsR (qTy ci j) = true) (hw : Cond.fieldLink M.1.cls idx (qT ci j).1 (qT ci j).2.1 (qT ci j).2.2.1 ∈ gw) (hfin : (qT ci j).2.2.2 = false ∨ (M.1.name = "<init>" ∧ (qT ci j).1 = M.1.cls)) (hk : zS l G gh d K M (pc + 3) k) : zS l G gh d K M pc (oPutR ci j k) := by
  intro lv st ce sl t A h lv' st' I L R hl hs hm
  obtain ⟨x, st1, v, st2, rfl, h1, h2, h3⟩ := zp_t h hs
  obtain ⟨n, rfl, h3⟩ := zN_t h3 h1
  obtain ⟨a, st3, st4, rfl, h4, h5⟩ := zpR_t h3 h2
  obtain ⟨h6, h7⟩ := zand h5
  obtain ⟨h8, h9⟩ := zand h7
  obtain ⟨g1, g2, g3, g4, g5⟩ := zM_at hm.1 h6 (by omega)
  exact q_putr hd g2 g3 hc hj hw hfin hn hfit hq (hk lv _ ce sl t _ h9 lv' _ I L _ hl h4 ⟨zM_setR hm.1 g1 (zkd_R hc hq) h8, hm.2⟩)
/-! arrays -/
def zix (i len : Nat) (f : Nat → Bool) : Bool := bif zk i then (bif Nat.ble 2147483648 i then (bif Nat.ble (Nat.succ (Nat.sub i 2147483648)) len then f (Nat.sub i 2147483648) else false) else false) else false
theorem zix_n {x : Int32} {n : Nat} (h : zb x = 2147483648 + n) : x.toNatClampNeg = n ∧ ¬ x < 0 := by
  have e := zb_int x
  refine ⟨?_, fun q => ?_⟩
  · show x.toInt.toNat = n
    omega
  · have := zlt_iff.mp q
    rw [show zb 0 = 2147483648 by decide] at this
    omega
theorem zix_t {i len : Nat} {f : Nat → Bool} {x : Int32} (h : zix i len f = true) (hx : zin i x) : vp_in x len ∧ f x.toNatClampNeg = true := by
  obtain ⟨h1, h2⟩ := zand h
  obtain ⟨h3, h4⟩ := zand h2
  obtain ⟨h5, h6⟩ := zand h4
  have e := zk_in h1 hx
  have g3 := Nat.le_of_ble_eq_true h3
  have g5 := Nat.le_of_ble_eq_true h5
  rw [zsub_e] at g5 h6
  obtain ⟨e1, e2⟩ := zix_n (x := x) (n := i - 2147483648) (by omega)
  rw [e1]
  refine ⟨fun q => ?_, h6⟩
  rcases q with q | q
  · exact e2 q
  · rw [e1] at q
    omega
/-! arrays all of whose places lie between the same two bounds -/
def zixu (i len : Nat) (f : Bool) : Bool := bif Nat.ble 2147483648 (zlo i) then (bif Nat.ble (Nat.succ (Nat.sub (zhi i) 2147483648)) len then f else false) else false
theorem zixu_t {i len : Nat} {f : Bool} {x : Int32} (h : zixu i len f = true) (hx : zin i x) : vp_in x len ∧ x.toNatClampNeg < len ∧ f = true := by
  obtain ⟨h1, h2⟩ := zand h
  obtain ⟨h3, h4⟩ := zand h2
  have g1 := Nat.le_of_ble_eq_true h1
  have g3 := Nat.le_of_ble_eq_true h3
  rw [zsub_e] at g3
  obtain ⟨a1, a2⟩ := hx
  obtain ⟨e1, e2⟩ := zix_n (x := x) (n := zb x - 2147483648) (by omega)
  refine ⟨fun q => ?_, by omega, h4⟩
  rcases q with q | q
  · exact e2 q
  · omega
def zwi (c m : Nat) : Bool := bif Nat.ble (zlo m) (zlo c) then Nat.ble (zhi c) (zhi m) else false
theorem zwi_t {c m : Nat} {x : Int32} (h : zwi c m = true) (hx : zin c x) : zin m x := by
  obtain ⟨h1, h2⟩ := zand h
  have g1 := Nat.le_of_ble_eq_true h1
  have g2 := Nat.le_of_ble_eq_true h2
  exact ⟨Nat.le_trans g1 hx.1, Nat.le_trans hx.2 g2⟩
theorem zM_u {gh : zGh} {t a tg : Nat} {A : zAm} {I : qMI} {L : qML} {R : qMR} (hm : zM gh t A I L R) (h : Nat.beq (ztag (zcell A a)) (Nat.add tg 6) = true) (h1 : 10 ≤ tg) (h2 : tg < 14) : a < t ∧ (qSh a).1 = tg ∧ (qSh a).2 = zlen (zcell A a) ∧ (tg < 13 → ∀ j, j < zlen (zcell A a) → zin (Nat.xor (zraw (zcell A a) 0) 2147483648) (I a j)) := by
  have e := Nat.eq_of_beq_eq_true h
  rw [zadd_e] at e
  obtain ⟨g1, g2, g3, g4⟩ := hm.1.2 a (by omega) (by omega)
  exact ⟨g1, by omega, g3, fun q => g4 (by omega)⟩
/-- an array of one bound loses its marks -/
noncomputable def zuc (A : zAm) (a : Nat) : zAm := bif Nat.beq (Nat.mod (Nat.div (zcell A a) 131072) 4) 0 then A else zput A a (zcl (zcell A a))
theorem zuc_cell (A : zAm) (a k : Nat) : zcell (zuc A a) k = if k = a then zcl (zcell A a) else zcell A k := by
  unfold zuc
  cases h : Nat.beq (Nat.mod (Nat.div (zcell A a) 131072) 4) 0 with
  | true =>
    have e : zcell A a / 131072 % 4 = 0 := Nat.eq_of_beq_eq_true h
    rw [cond_true]
    by_cases hk : k = a
    · subst hk
      rw [if_pos rfl, zcl_e, e]
      omega
    · rw [if_neg hk]
  | false => rw [cond_false, zcell_put]
/-- a place of such an array is written: all holds as before -/
theorem zM_uset {gh : zGh} {t a j tg : Nat} {A : zAm} {I : qMI} {L : qML} {R : qMR} {x : Int32} (hm : zM gh t A I L R) (h : Nat.beq (ztag (zcell A a)) (Nat.add tg 6) = true) (h1 : 10 ≤ tg) (h2 : tg < 14) (hx : zin (Nat.xor (zraw (zcell A a) 0) 2147483648) x) : zM gh t (zuc A a) (qUp I a j x) L R := by
  have e := Nat.eq_of_beq_eq_true h
  rw [zadd_e] at e
  refine ⟨⟨fun k hk => ?_, fun k hk hk2 => ?_⟩, fun k hk => ?_, fun k hk i hi => ?_⟩ <;> rw [zuc_cell] at hk
  · have hka : k ≠ a := fun q => by subst q; rw [if_pos rfl, zcl_tag] at hk; omega
    rw [if_neg hka] at hk
    rw [zuc_cell, if_neg hka, show qUp I a j x k = I k from funext fun i => zup_o (fun q => hka q.1)]
    exact hm.1.1 k hk
  · rw [zuc_cell] at hk2 ⊢
    by_cases hka : k = a
    · subst hka
      rw [if_pos rfl, zcl_tag] at hk hk2
      rw [if_pos rfl, zcl_tag, zcl_len, zcl_raw]
      obtain ⟨g1, g2, g3, g4⟩ := hm.1.2 k hk hk2
      refine ⟨g1, g2, g3, fun q i hi => ?_⟩
      by_cases hij : i = j
      · subst hij
        rw [zup_s]
        exact hx
      · rw [zup_o (fun q => hij q.2)]
        exact g4 q i hi
    · rw [if_neg hka] at hk hk2 ⊢
      rw [show qUp I a j x k = I k from funext fun i => zup_o (fun q => hka q.1)]
      exact hm.1.2 k hk hk2
  · have hka : k ≠ a := fun q => by
      subst q
      rw [if_pos rfl, zcl_tag] at hk
      rcases hk with hk | hk
      · omega
      · exact zcl_fr _ hk
    rw [if_neg hka] at hk
    rw [show qUp I a j x k = I k from funext fun i => zup_o (fun q => hka q.1)]
    exact hm.2.1 k hk
  · have hka : k ≠ a := fun q => by
      subst q
      rw [if_pos rfl] at hk
      exact zcl_fp _ hk
    rw [if_neg hka] at hk
    rw [zup_o (fun q => hka q.1)]
    exact hm.2.2 k hk i hi
theorem zM_usetL {gh : zGh} {t a j : Nat} {A : zAm} {I : qMI} {L : qML} {R : qMR} {x : Int64} (hm : zM gh t A I L R) (h : Nat.beq (ztag (zcell A a)) 19 = true) : zM gh t (zuc A a) I (qUpL L a j x) R := by
  have e := Nat.eq_of_beq_eq_true h
  refine ⟨⟨fun k hk => ?_, fun k hk hk2 => ?_⟩, fun k hk => ?_, fun k hk i hi => ?_⟩ <;> rw [zuc_cell] at hk
  · have hka : k ≠ a := fun q => by subst q; rw [if_pos rfl, zcl_tag] at hk; omega
    rw [if_neg hka] at hk
    rw [zuc_cell, if_neg hka, show qUpL L a j x k = L k from funext fun i => zupL_o (fun q => hka q.1)]
    exact hm.1.1 k hk
  · rw [zuc_cell] at hk2 ⊢
    by_cases hka : k = a
    · subst hka
      rw [if_pos rfl, zcl_tag] at hk hk2
      rw [if_pos rfl, zcl_tag, zcl_len, zcl_raw]
      exact hm.1.2 k hk hk2
    · rw [if_neg hka] at hk hk2 ⊢
      exact hm.1.2 k hk hk2
  · have hka : k ≠ a := fun q => by
      subst q
      rw [if_pos rfl, zcl_tag] at hk
      rcases hk with hk | hk
      · omega
      · exact zcl_fr _ hk
    rw [if_neg hka] at hk
    rw [show qUpL L a j x k = L k from funext fun i => zupL_o (fun q => hka q.1)]
    exact hm.2.1 k hk
  · have hka : k ≠ a := fun q => by
      subst q
      rw [if_pos rfl] at hk
      exact zcl_fp _ hk
    rw [if_neg hka] at hk
    exact hm.2.2 k hk i hi
theorem zelse {a b : Bool} {c : Bool} (h : (bif c then a else b) = true) : (c = true ∧ a = true) ∨ b = true := by
  cases c with
  | true => exact Or.inl ⟨rfl, h⟩
  | false => exact Or.inr h
noncomputable def oXald (tg : Nat) (k : zK) : zK := fun lv st ce sl t A => zpI st (fun i st => zpR st (fun a st => bif Nat.beq (ztag (zcell A a)) tg then zix i (zlen (zcell A a)) (fun n => k lv (.inl (Nat.xor (zraw (zcell A a) n) 2147483648) :: st) ce sl t A) else (bif Nat.beq (ztag (zcell A a)) (Nat.add tg 6) then zixu i (zlen (zcell A a)) (k lv (.inl (Nat.xor (zraw (zcell A a) 0) 2147483648) :: st) ce sl t A) else false)))
theorem z_iald (hd : decode M.2.1 pc = .ok (.iaload, 1)) (hk : zS l G gh d K M (pc + 1) k) : zS l G gh d K M pc (oXald 10 k) := by
  intro lv st ce sl t A h lv' st' I L R hl hs hm
  obtain ⟨i, st1, x, st2, rfl, h1, h2, h3⟩ := zpI_t h hs
  obtain ⟨a, st3, st4, rfl, h4, h5⟩ := zpR_t h3 h2
  rcases zelse h5 with ⟨h6, h7⟩ | h5
  case inr =>
    obtain ⟨h6, h7⟩ := zand h5
    obtain ⟨g2, g3, g4, g5⟩ := zM_u (tg := 10) hm.1 h6 (by omega) (by omega)
    obtain ⟨h8, h8b, h9⟩ := zixu_t h7 h1
    have h8' := h8
    rw [← g4] at h8'
    exact q_iald hd g2 g3 h8' (hk lv _ ce sl t A h9 lv' _ I L R hl ⟨⟨_, rfl, g5 (by omega) _ h8b⟩, h4⟩ hm)
  obtain ⟨g1, g2, g3, g4, g5⟩ := zM_at hm.1 h6 (by omega)
  obtain ⟨h8, h9⟩ := zix_t h7 h1
  rw [← g4] at h8
  exact q_iald hd g2 g3 h8 (hk lv _ ce sl t A h9 lv' _ I L R hl ⟨⟨_, rfl, (g5 _).1 (by rfl)⟩, h4⟩ hm)
noncomputable def oXast (tg : Nat) (f : Nat → Nat) (k : zK) : zK := fun lv st ce sl t A => zpI st (fun c st => zpI st (fun i st => zpR st (fun a st => bif Nat.beq (ztag (zcell A a)) tg then zix i (zlen (zcell A a)) (fun n => bif Nat.ble (f c) 18446744073709551615 then k lv st ce sl t (zput A a (zupd (zcl (zcell A a)) n (Nat.xor (f c) 2147483648))) else false) else (bif Nat.beq (ztag (zcell A a)) (Nat.add tg 6) then zixu i (zlen (zcell A a)) (bif zwi (f c) (Nat.xor (zraw (zcell A a) 0) 2147483648) then k lv st ce sl t (zuc A a) else false) else false))))
def zid (c : Nat) : Nat := c
def znz1 : Nat → Nat := zop1 (vp_nar .boolean)
theorem z_iast (hd : decode M.2.1 pc = .ok (.iastore, 1)) (hk : zS l G gh d K M (pc + 1) k) : zS l G gh d K M pc (oXast 10 zid k) := by
  intro lv st ce sl t A h lv' st' I L R hl hs hm
  obtain ⟨c, st0, y, st5, rfl, h1, h0, h⟩ := zpI_t h hs
  obtain ⟨i, st1, x, st2, rfl, hi, h2, h3⟩ := zpI_t h h0
  obtain ⟨a, st3, st4, rfl, h4, h5⟩ := zpR_t h3 h2
  rcases zelse h5 with ⟨h6, h7⟩ | h5
  case inr =>
    obtain ⟨h6, h7⟩ := zand h5
    obtain ⟨g2, g3, g4, g5⟩ := zM_u (tg := 10) hm.1 h6 (by omega) (by omega)
    obtain ⟨h8, h8b, h9⟩ := zixu_t h7 hi
    obtain ⟨h10, h11⟩ := zand h9
    rw [← g4] at h8
    exact q_iast hd g2 g3 h8 (hk lv _ ce sl t _ h11 lv' _ _ L R hl h4 ⟨zM_uset hm.1 h6 (by omega) (by omega) (zwi_t h10 h1), hm.2⟩)
  obtain ⟨g1, g2, g3, g4, g5⟩ := zM_at hm.1 h6 (by omega)
  obtain ⟨h8, h9⟩ := zix_t h7 hi
  obtain ⟨h10, h11⟩ := zand h9
  rw [← g4] at h8
  exact q_iast hd g2 g3 h8 (hk lv _ ce sl t _ h11 lv' _ _ L R hl h4 ⟨zM_setI hm.1 g1 (by rfl) h10 h1, hm.2⟩)
theorem z_zast (hd : decode M.2.1 pc = .ok (.bastore, 1)) (hk : zS l G gh d K M (pc + 1) k) : zS l G gh d K M pc (oXast 12 znz1 k) := by
  intro lv st ce sl t A h lv' st' I L R hl hs hm
  obtain ⟨c, st0, y, st5, rfl, h1, h0, h⟩ := zpI_t h hs
  obtain ⟨i, st1, x, st2, rfl, hi, h2, h3⟩ := zpI_t h h0
  obtain ⟨a, st3, st4, rfl, h4, h5⟩ := zpR_t h3 h2
  rcases zelse h5 with ⟨h6, h7⟩ | h5
  case inr =>
    obtain ⟨h6, h7⟩ := zand h5
    obtain ⟨g2, g3, g4, g5⟩ := zM_u (tg := 12) hm.1 h6 (by omega) (by omega)
    obtain ⟨h8, h8b, h9⟩ := zixu_t h7 hi
    obtain ⟨h10, h11⟩ := zand h9
    rw [← g4] at h8
    exact q_zast hd g2 g3 h8 (hk lv _ ce sl t _ h11 lv' _ _ L R hl h4 ⟨zM_uset hm.1 h6 (by omega) (by omega) (zwi_t h10 (zop1_in h1)), hm.2⟩)
  obtain ⟨g1, g2, g3, g4, g5⟩ := zM_at hm.1 h6 (by omega)
  obtain ⟨h8, h9⟩ := zix_t h7 hi
  obtain ⟨h10, h11⟩ := zand h9
  rw [← g4] at h8
  exact q_zast hd g2 g3 h8 (hk lv _ ce sl t _ h11 lv' _ _ L R hl h4 ⟨zM_setI hm.1 g1 (by rfl) h10 (zop1_in h1), hm.2⟩)
noncomputable def oLast (k : zK) : zK := fun lv st ce sl t A => zp st (fun c st => zpI st (fun i st => zpR st (fun a st => bif Nat.beq (ztag (zcell A a)) 13 then zJ c (fun c => zix i (zlen (zcell A a)) (fun n => k lv st ce sl t (zput A a (zupd (zcl (zcell A a)) n c.toUInt64.toNat)))) else (bif Nat.beq (ztag (zcell A a)) 19 then (bif zisL c then zixu i (zlen (zcell A a)) (k lv st ce sl t (zuc A a)) else false) else false))))
theorem z_last (hd : decode M.2.1 pc = .ok (.lastore, 1)) (hk : zS l G gh d K M (pc + 1) k) : zS l G gh d K M pc (oLast k) := by
  intro lv st ce sl t A h lv' st' I L R hl hs hm
  obtain ⟨c, st0, v, st5, rfl, hc, h0, h⟩ := zp_t h hs
  obtain ⟨i, st1, x, st2, rfl, hi, h2, h3⟩ := zpI_t h h0
  obtain ⟨a, st3, st4, rfl, h4, h5⟩ := zpR_t h3 h2
  rcases zelse h5 with ⟨h6, h7⟩ | h5
  case inr =>
    obtain ⟨h6, h7⟩ := zand h5
    obtain ⟨h7, h8⟩ := zand h7
    obtain ⟨y, rfl⟩ := zisL_l h7 hc
    obtain ⟨g2, g3, g4, -⟩ := zM_u (tg := 13) hm.1 h6 (by omega) (by omega)
    obtain ⟨h9, -, h10⟩ := zixu_t h8 hi
    rw [← g4] at h9
    exact q_last hd g2 g3 h9 (hk lv _ ce sl t _ h10 lv' _ I _ R hl h4 ⟨zM_usetL hm.1 h6, hm.2⟩)
  obtain ⟨g1, g2, g3, g4, g5⟩ := zM_at hm.1 h6 (by omega)
  obtain ⟨y, rfl, h7⟩ := zJ_t h7 hc
  obtain ⟨h8, h9⟩ := zix_t h7 hi
  rw [← g4] at h8
  exact q_last hd g2 g3 h8 (hk lv _ ce sl t _ h9 lv' _ I _ R hl h4 ⟨zM_setL hm.1 g1 (by rfl), hm.2⟩)
noncomputable def oAast (k : zK) : zK := fun lv st ce sl t A => zpR st (fun c st => zpI st (fun i st => zpR st (fun a st => bif Nat.beq (ztag (zcell A c)) 4 then (bif Nat.beq (ztag (zcell A a)) 14 then zix i (zlen (zcell A a)) (fun n => bif Nat.ble (Nat.succ c) 18446744073709551615 then k lv st ce sl t (zput A a (zupd (zcl (zcell A a)) n (Nat.succ c))) else false) else false) else false)))
theorem z_aast (hd : decode M.2.1 pc = .ok (.aastore, 1)) (hk : zS l G gh d K M (pc + 1) k) : zS l G gh d K M pc (oAast k) := by
  intro lv st ce sl t A h lv' st' I L R hl hs hm
  obtain ⟨c, st0, st5, rfl, h0, h⟩ := zpR_t h hs
  obtain ⟨i, st1, x, st2, rfl, hi, h2, h3⟩ := zpI_t h h0
  obtain ⟨a, st3, st4, rfl, h4, h5⟩ := zpR_t h3 h2
  obtain ⟨hc, h5⟩ := zand h5
  obtain ⟨h6, h7⟩ := zand h5
  obtain ⟨g1, g2, g3, g4, g5⟩ := zM_at hm.1 h6 (by omega)
  obtain ⟨f1, f2, f3, f4, f5⟩ := zM_at hm.1 hc (by omega)
  obtain ⟨h8, h9⟩ := zix_t h7 hi
  obtain ⟨h10, h11⟩ := zand h9
  rw [← g4] at h8
  exact q_aast hd g2 g3 h8 f2 f3 (hk lv _ ce sl t _ h11 lv' _ I L _ hl h4 ⟨zM_setR (n := c + 1) hm.1 g1 (by rfl) h10, hm.2⟩)
noncomputable def oAlen (k : zK) : zK := fun lv st ce sl t A => zpR st (fun a st => bif Nat.ble 10 (ztag (zcell A a)) then (bif Nat.ble (ztag (zcell A a)) 14 then k lv (.inl (Nat.add (zlen (zcell A a)) 2147483648) :: st) ce sl t A else (bif Nat.ble 16 (ztag (zcell A a)) then (bif Nat.ble (ztag (zcell A a)) 19 then k lv (.inl (Nat.add (zlen (zcell A a)) 2147483648) :: st) ce sl t A else false) else false)) else false)
theorem zb_nI {n : Nat} (h : n < 4096) : zb (nI n) = n + 2147483648 := by
  have e := zb_int (nI n)
  rw [nI_toInt (by omega)] at e
  omega
theorem z_alen (hd : decode M.2.1 pc = .ok (.arraylength, 1)) (hk : zS l G gh d K M (pc + 1) k) : zS l G gh d K M pc (oAlen k) := by
  intro lv st ce sl t A h lv' st' I L R hl hs hm
  obtain ⟨a, st3, st4, rfl, h4, h5⟩ := zpR_t h hs
  obtain ⟨h6, h7⟩ := zand h5
  rcases zelse h7 with ⟨h8, h9⟩ | h7
  case inr =>
    obtain ⟨h8, h9⟩ := zand h7
    obtain ⟨h10, h11⟩ := zand h9
    have e8 := Nat.le_of_ble_eq_true h8
    have e10 := Nat.le_of_ble_eq_true h10
    obtain ⟨g2, g3, g4, -⟩ := hm.1.1.2 a (by omega) (by omega)
    refine q_alen hd g2 (by omega) (by omega) ?_
    rw [g4]
    exact hk lv _ ce sl t A h11 lv' _ I L R hl ⟨⟨_, rfl, zin_eq (zb_nI (Nat.mod_lt _ (by decide)))⟩, h4⟩ hm
  have e6 := Nat.le_of_ble_eq_true h6
  have e8 := Nat.le_of_ble_eq_true h8
  obtain ⟨g2, g3, g4, g5⟩ := hm.1.1.1 a (by omega)
  refine q_alen hd g2 (by omega) (by omega) ?_
  rw [g4]
  exact hk lv _ ce sl t A h9 lv' _ I L R hl ⟨⟨_, rfl, zin_eq (zb_nI (Nat.mod_lt _ (by decide)))⟩, h4⟩ hm
/-! ends -/
noncomputable def zE (st : List zX) (f : Bool) : Bool := List.rec (motive := fun _ => Bool) f (fun _ _ _ => false) st
theorem zE_t {st : List zX} {f : Bool} {st' : List Value} (h : zE st f = true) (hs : zgs st st') : st' = [] ∧ f = true := by
  cases st with
  | cons => cases h
  | nil =>
    cases st' with
    | nil => exact ⟨rfl, h⟩
    | cons => exact hs.elim
noncomputable def oIret (K : zKr) : zK := fun _ st _ _ t A => zpI st (fun c st => zE st (K (some (.inl c)) t A))
theorem z_iret (hd : decode M.2.1 pc = .ok (.ireturn, 1)) (hty : M.2.2.2.1 = some .int) : zS l G gh d K M pc (oIret K) := by
  intro lv st ce sl t A h lv' st' I L R hl hs hm
  obtain ⟨c, st1, x, st2, rfl, h1, h2, h3⟩ := zpI_t h hs
  obtain ⟨rfl, h4⟩ := zE_t h3 h2
  exact q_iret hd hty rfl hm.2.1 hm.2.2 ⟨some (.inl c), A, ⟨x, rfl, h1⟩, hm.1, h4⟩
noncomputable def oZret (K : zKr) : zK := fun _ st _ _ t A => zpI st (fun c st => zE st (bif z01 c then K (some (.inl c)) t A else false))
theorem z_zret (hd : decode M.2.1 pc = .ok (.ireturn, 1)) (hty : M.2.2.2.1 = some .boolean) : zS l G gh d K M pc (oZret K) := by
  intro lv st ce sl t A h lv' st' I L R hl hs hm
  obtain ⟨c, st1, x, st2, rfl, h1, h2, h3⟩ := zpI_t h hs
  obtain ⟨rfl, h4⟩ := zE_t h3 h2
  obtain ⟨h5, h6⟩ := zand h4
  exact q_iret hd hty (by rcases z01_t h5 h1 with rfl | rfl <;> rfl) hm.2.1 hm.2.2 ⟨some (.inl c), A, ⟨x, rfl, h1⟩, hm.1, h6⟩
noncomputable def oNret (ty : FieldType) (K : zKr) : zK := fun _ st _ _ t A => zpI st (fun c st => zE st (bif zk c then (bif Nat.beq (zb (vp_nar ty (zc c))) c then K (some (.inl c)) t A else false) else false))
theorem z_nret {ty : FieldType} (hd : decode M.2.1 pc = .ok (.ireturn, 1)) (hty : M.2.2.2.1 = some ty) (hn : ∀ x, narrow ty (.int x) = .int (vp_nar ty x)) : zS l G gh d K M pc (oNret ty K) := by
  intro lv st ce sl t A h lv' st' I L R hl hs hm
  obtain ⟨c, st1, x, st2, rfl, h1, h2, h3⟩ := zpI_t h hs
  obtain ⟨rfl, h4⟩ := zE_t h3 h2
  obtain ⟨h5, h6⟩ := zand h4
  obtain ⟨h7, h8⟩ := zand h6
  have e := zk_in h5 h1
  have e2 := Nat.eq_of_beq_eq_true h7
  rw [← e, zc_zb] at e2
  exact q_iret hd hty (by rw [hn, zb_inj e2]) hm.2.1 hm.2.2 ⟨some (.inl c), A, ⟨x, rfl, h1⟩, hm.1, h8⟩
noncomputable def oLret (K : zKr) : zK := fun _ st _ _ t A => zp st (fun c st => bif zisL c then zE st (K (some c) t A) else false)
theorem z_lret (hd : decode M.2.1 pc = .ok (.lreturn, 1)) (hty : M.2.2.2.1 = some .long) : zS l G gh d K M pc (oLret K) := by
  intro lv st ce sl t A h lv' st' I L R hl hs hm
  obtain ⟨x, st1, v, st2, rfl, h1, h2, h3⟩ := zp_t h hs
  obtain ⟨h4, h5⟩ := zand h3
  obtain ⟨rfl, h6⟩ := zE_t h5 h2
  obtain ⟨y, rfl⟩ := zisL_l h4 h1
  exact q_lret hd hty hm.2.1 hm.2.2 ⟨some x, A, h1, hm.1, h6⟩
noncomputable def oAret (K : zKr) : zK := fun _ st _ _ t A => zpR st (fun c st => zE st (K (some (.inr (.ref c))) t A))
theorem z_aret {n : String} (hd : decode M.2.1 pc = .ok (.areturn, 1)) (hty : M.2.2.2.1 = some (.object n)) : zS l G gh d K M pc (oAret K) := by
  intro lv st ce sl t A h lv' st' I L R hl hs hm
  obtain ⟨c, st1, st2, rfl, h2, h3⟩ := zpR_t h hs
  obtain ⟨rfl, h4⟩ := zE_t h3 h2
  exact q_aret hd hty hm.2.1 hm.2.2 ⟨some (.inr (.ref c)), A, ⟨rfl, rfl⟩, hm.1, h4⟩
noncomputable def oVret (K : zKr) : zK := fun _ st _ _ t A => zE st (K none t A)
theorem z_vret (hd : decode M.2.1 pc = .ok (.return_, 1)) (hty : M.2.2.2.1 = none) : zS l G gh d K M pc (oVret K) := by
  intro lv st ce sl t A h lv' st' I L R hl hs hm
  obtain ⟨rfl, h4⟩ := zE_t h hs
  exact q_vret hd hty hm.2.1 hm.2.2 ⟨none, A, trivial, hm.1, h4⟩
/-! calls -/
abbrev zMt : Type := List zX → Nat → zAm → zKr → Bool
def zC (l : Launch) (G : qG) (gh : zGh) (d : Nat) (N : qMn) (g : zMt) : Prop := ∀ as t A K, g as t A K = true → ∀ as' I L R, zgs as as' → zM gh t A I L R → qCall l G d N as' t I L R (zQ gh K)
noncomputable def ztk (n : Nat) (st acc : List zX) (f : List zX → List zX → Bool) : Bool := Nat.rec (motive := fun _ => List zX → List zX → Bool) (fun st acc => f acc st) (fun _ ih st acc => zp st (fun x st => ih st (x :: acc))) n st acc
theorem ztk_t {f : List zX → List zX → Bool} : ∀ (n : Nat) {st acc : List zX} {st' acc' : List Value}, ztk n st acc f = true → zgs st st' → zgs acc acc' → ∃ as as' rest rest', st' = as'.reverse ++ rest' ∧ as'.length = n ∧ zgs rest rest' ∧ zgs (as ++ acc) (as' ++ acc') ∧ f (as ++ acc) rest = true
  | 0, st, acc, st', acc', h, hs, ha => ⟨[], [], st, st', rfl, rfl, hs, ha, h⟩
  | n + 1, st, acc, st', acc', h, hs, ha => by
    obtain ⟨x, st1, v, st2, rfl, h1, h2, h3⟩ := zp_t (f := fun x st => ztk n st (x :: acc) f) h hs
    obtain ⟨as, as', rest, rest', rfl, e2, h4, h5, h6⟩ := ztk_t n h3 h2 (acc' := v :: acc') ⟨h1, ha⟩
    refine ⟨as ++ [x], as' ++ [v], rest, rest', by simp, by simp [e2], h4, by simpa using h5, by simpa using h6⟩
noncomputable def zrs (r : Option zX) (st : List zX) : List zX := Option.rec (motive := fun _ => List zX) st (fun x => x :: st) r
theorem zrs_t {r : Option zX} {r' : Option Value} {st : List zX} {st' : List Value} (h : zgo r r') (hs : zgs st st') : zgs (zrs r st) (r'.toList ++ st') := by
  cases r with
  | none =>
    cases r' with
    | none => exact hs
    | some v => exact h.elim
  | some x =>
    cases r' with
    | none => exact h.elim
    | some v => exact ⟨h, hs⟩
noncomputable def oCv (ci n : Nat) (g : zMt) (k : zK) : zK := fun lv st ce sl t A => ztk n st [] (fun as st => zpR st (fun a st => bif Nat.beq (ztag (zcell A a)) ci then (bif Nat.ble (zcat st) 8 then g (.inr (.ref a) :: as) t A (fun r t A => k lv (zrs r st) ce sl t A) else false) else false))
theorem z_callV {idx ci n : Nat} {N : qMn} {g : zMt} (hd : decode M.2.1 pc = .ok (.invokevirtual idx, 3)) (hN : qTo N n) (h1 : Cond.methodLink M.1.cls idx N.1 ∈ gw) (h2 : Cond.instanceMethod N.1 ∈ gw) (h3 : Cond.selects N.1.cls N.1 N.1 ∈ gw) (hci : ci < 10) (hcl : qC ci = N.1.cls) (hmc : N.2.2.2.2.1 = 0) (hms : N.2.2.2.2.2 = 0) (hg : zC l G gh d N g) (hk : zS l G gh (d + 1) K M (pc + 3) k) : zS l G gh (d + 1) K M pc (oCv ci n g k) := by
  intro lv st ce sl t A h lv' st' I L R hl hs hm
  obtain ⟨as, as', rest, rest', rfl, e2, h4, h5, h6⟩ := ztk_t n h hs (acc' := []) trivial
  obtain ⟨a, st3, st4, rfl, h7, h8⟩ := zpR_t h6 h4
  obtain ⟨h9, h10⟩ := zand h8
  obtain ⟨h11, h12⟩ := zand h10
  obtain ⟨g1, g2, g3, g4, g5⟩ := zM_at hm.1 h9 (by omega)
  refine q_callV (N := N) (As := as') (b := .ref a) (a := G.1 + a) hd (by rw [e2]; exact hN) h1 h2 h3 (by rw [zcat_t h7]; exact Nat.le_of_ble_eq_true h11) (by rw [hmc]; exact hm.2.1) (by rw [hms]; exact hm.2.2) rfl (qRecv g2 g3 hci hcl) (hg _ t A _ h12 (.ref a :: as') I L R ⟨⟨rfl, rfl⟩, by simpa using h5⟩ hm.1) ?_
  intro r t' I' L' R' hq
  obtain ⟨r', A', q1, q2, q3⟩ := hq
  rw [hmc, hms]
  exact hk lv _ ce sl t' A' q3 lv' _ I' L' R' hl (zrs_t q1 h7) ⟨q2, hm.2⟩
/-- of a text -/
noncomputable def oCt (n : Nat) (g : zMt) (k : zK) : zK := fun lv st ce sl t A => ztk n st [] (fun as st => zpF st (fun b st => bif Nat.ble b.toNat 1 then (bif Nat.ble (zcat st) 8 then g (.inr (.float b) :: as) t A (fun r t A => k lv (zrs r st) ce sl t A) else false) else false))
theorem z_callT {idx n : Nat} {N : qMn} {g : zMt} (hd : decode M.2.1 pc = .ok (.invokevirtual idx, 3)) (hN : qTo N n) (h1 : Cond.methodLink M.1.cls idx N.1 ∈ gw) (h2 : Cond.instanceMethod N.1 ∈ gw) (h3 : Cond.selects N.1.cls N.1 N.1 ∈ gw) (hcl : N.1.cls = "java/lang/String") (hmc : N.2.2.2.2.1 = 0) (hms : N.2.2.2.2.2 = 0) (hg : zC l G gh d N g) (hk : zS l G gh (d + 1) K M (pc + 3) k) : zS l G gh (d + 1) K M pc (oCt n g k) := by
  intro lv st ce sl t A h lv' st' I L R hl hs hm
  obtain ⟨as, as', rest, rest', rfl, e2, h4, h5, h6⟩ := ztk_t n h hs (acc' := []) trivial
  obtain ⟨b, st3, st4, rfl, h7, h8⟩ := zpF_t h6 h4
  obtain ⟨h9, h10⟩ := zand h8
  obtain ⟨h11, h12⟩ := zand h10
  have hb := Nat.le_of_ble_eq_true h9
  refine q_callV (N := N) (As := as') (b := .float b) (a := G.2.2.2.2.1 b.toNat) hd (by rw [e2]; exact hN) h1 h2 h3 (by rw [zcat_t h7]; exact Nat.le_of_ble_eq_true h11) (by rw [hmc]; exact hm.2.1) (by rw [hms]; exact hm.2.2) (by rw [qTv_float, if_pos (by omega)]) (qRecvS (by omega) hcl) (hg _ t A _ h12 (.float b :: as') I L R ⟨⟨rfl, rfl⟩, by simpa using h5⟩ hm.1) ?_
  intro r t' I' L' R' hq
  obtain ⟨r', A', q1, q2, q3⟩ := hq
  rw [hmc, hms]
  exact hk lv _ ce sl t' A' q3 lv' _ I' L' R' hl (zrs_t q1 h7) ⟨q2, hm.2⟩
noncomputable def oCs (n : Nat) (g : zMt) (k : zK) : zK := fun lv st ce sl t A => ztk n st [] (fun as st => bif Nat.ble (zcat st) 8 then g as t A (fun r t A => k lv (zrs r st) ce sl t A) else false)
theorem z_callS {idx n : Nat} {N : qMn} {g : zMt} (hd : decode M.2.1 pc = .ok (.invokestatic idx, 3)) (hN : qTo N n) (h1 : Cond.methodLink M.1.cls idx N.1 ∈ gw) (h2 : Cond.static N.1 ∈ gw) (hmc : N.2.2.2.2.1 = 0) (hms : N.2.2.2.2.2 = 0) (hg : zC l G gh d N g) (hk : zS l G gh (d + 1) K M (pc + 3) k) : zS l G gh (d + 1) K M pc (oCs n g k) := by
  intro lv st ce sl t A h lv' st' I L R hl hs hm
  obtain ⟨as, as', rest, rest', rfl, e2, h7, h5, h8⟩ := ztk_t n h hs (acc' := []) trivial
  obtain ⟨h11, h12⟩ := zand h8
  refine q_callS (N := N) (As := as') hd (by rw [e2]; exact hN) h1 h2 (by rw [zcat_t h7]; exact Nat.le_of_ble_eq_true h11) (by rw [hmc]; exact hm.2.1) (by rw [hms]; exact hm.2.2) (hg _ t A _ h12 as' I L R (by simpa using h5) hm.1) ?_
  intro r t' I' L' R' hq
  obtain ⟨r', A', q1, q2, q3⟩ := hq
  rw [hmc, hms]
  exact hk lv _ ce sl t' A' q3 lv' _ I' L' R' hl (zrs_t q1 h7) ⟨q2, hm.2⟩
noncomputable def oCi (mc ms Mc Ms : Nat) (g : zMt) (k : zK) : zK := fun lv st ce sl t A => zpR st (fun a st => bif Nat.ble (zcat st) 8 then (bif Nat.ble (Nat.add ce mc) Mc then (bif Nat.ble (Nat.add sl ms) Ms then g [.inr (.ref a)] t A (fun r t A => k lv (zrs r st) (Nat.add ce mc) (Nat.add sl ms) t A) else false) else false) else false)
theorem z_callI {idx mc ms Mc Ms nL : Nat} {y : MethodName} {cc : ByteArray} {g : zMt} (hd : decode M.2.1 pc = .ok (.invokespecial idx, 3)) (hN : qTo (y, cc, nL, none, mc, ms) 0) (h1 : Cond.methodLink M.1.cls idx y ∈ gw ∨ ∃ host, (M.1.cls, idx, y, host) ∈ qNest) (h2 : Cond.instanceMethod y ∈ gw) (hnm : y.name = "<init>") (hMc : M.2.2.2.2.1 = Mc) (hMs : M.2.2.2.2.2 = Ms) (hg : zC l G gh d (y, cc, nL, none, mc, ms) g) (hk : zS l G gh (d + 1) K M (pc + 3) k) : zS l G gh (d + 1) K M pc (oCi mc ms Mc Ms g k) := by
  intro lv st ce sl t A h lv' st' I L R hl hs hm
  obtain ⟨a, st3, st4, rfl, h7, h8⟩ := zpR_t h hs
  obtain ⟨h9, h10⟩ := zand h8
  obtain ⟨h11, h12⟩ := zand h10
  obtain ⟨h13, h14⟩ := zand h12
  have e1 := Nat.le_of_ble_eq_true h11
  have e2 := Nat.le_of_ble_eq_true h13
  rw [← hMc] at e1
  rw [← hMs] at e2
  refine q_callI hd hN h1 h2 hnm (by rw [zcat_t h7]; exact Nat.le_of_ble_eq_true h9) e1 e2 (hg _ t A _ h14 [.ref a] I L R ⟨⟨rfl, rfl⟩, trivial⟩ hm.1) ?_
  intro r t' I' L' R' hq
  obtain ⟨r', A', q1, q2, q3⟩ := hq
  exact hk lv _ (ce + mc) (sl + ms) t' A' q3 lv' _ I' L' R' hl (zrs_t q1 h7) ⟨q2, e1, e2⟩
noncomputable def oObj (k : zK) : zK := fun lv st ce sl t A => zpR st (fun _ st => bif Nat.ble (zcat st) 8 then k lv st ce sl t A else false)
theorem z_obj {idx : Nat} (hd : decode M.2.1 pc = .ok (.invokespecial idx, 3)) (h1 : Cond.methodLink M.1.cls idx Lib.objectInit ∈ gw) (h2 : Cond.instanceMethod Lib.objectInit ∈ gw) (h3 : Cond.code Lib.objectInit ⟨#[0xb1]⟩ 1 none ∈ gw) (hk : zS l G gh (d + 1) K M (pc + 3) k) : zS l G gh (d + 1) K M pc (oObj k) := by
  intro lv st ce sl t A h lv' st' I L R hl hs hm
  obtain ⟨a, st3, st4, rfl, h7, h8⟩ := zpR_t h hs
  obtain ⟨h9, h10⟩ := zand h8
  exact q_objInit hd h1 h2 h3 (by rw [zcat_t h7]; exact Nat.le_of_ble_eq_true h9) (hk lv _ ce sl t A h10 lv' _ I L R hl h7 hm)
noncomputable def oM2 (f : Nat → Nat → Nat) (k : zK) : zK := fun lv st ce sl t A => zpI st (fun b st => zpI st (fun a st => bif Nat.ble (zcat st) 8 then k lv (.inl (f a b) :: st) ce sl t A else false))
def zmx2 (a b : Nat) : Nat := bif Nat.ble a b then b else a
def zmn2 (a b : Nat) : Nat := bif Nat.ble a b then a else b
theorem zmx2_e (a b : Nat) : zmx2 a b = if a ≤ b then b else a := by
  unfold zmx2
  by_cases h : a ≤ b
  · rw [if_pos h, Nat.ble_eq_true_of_le h]; rfl
  · rw [if_neg h]
    cases hb : Nat.ble a b with
    | false => rfl
    | true => exact absurd (Nat.le_of_ble_eq_true hb) h
theorem zmn2_e (a b : Nat) : zmn2 a b = if a ≤ b then a else b := by
  unfold zmn2
  by_cases h : a ≤ b
  · rw [if_pos h, Nat.ble_eq_true_of_le h]; rfl
  · rw [if_neg h]
    cases hb : Nat.ble a b with
    | false => rfl
    | true => exact absurd (Nat.le_of_ble_eq_true hb) h
theorem zhi_lt (c : Nat) : zhi c < 4294967296 := Nat.mod_lt _ (by decide)
def zmax (a b : Nat) : Nat := zmkc (zmx2 (zlo a) (zlo b)) (zmx2 (zhi a) (zhi b))
def zmin (a b : Nat) : Nat := zmkc (zmn2 (zlo a) (zlo b)) (zmn2 (zhi a) (zhi b))
theorem zmax_in {a b : Nat} {x y : Int32} (h : zin a x) (hy : zin b y) : zin (zmax a b) (if x < y then y else x) := by
  obtain ⟨h1, h2⟩ := h
  obtain ⟨h3, h4⟩ := hy
  have ha := zhi_lt a
  have hb := zhi_lt b
  refine zmkc_in ?_ ?_ ?_
  · rw [zmx2_e]; split <;> omega
  · rw [zmx2_e]
    by_cases hc : x < y
    · rw [if_pos hc]; have := zlt_iff.mp hc; split <;> omega
    · rw [if_neg hc]; have h9 : ¬ _ := fun q => hc (zlt_iff.mpr q); split <;> omega
  · rw [zmx2_e]
    by_cases hc : x < y
    · rw [if_pos hc]; have := zlt_iff.mp hc; split <;> omega
    · rw [if_neg hc]; have h9 : ¬ _ := fun q => hc (zlt_iff.mpr q); split <;> omega
theorem zmin_in {a b : Nat} {x y : Int32} (h : zin a x) (hy : zin b y) : zin (zmin a b) (if y < x then y else x) := by
  obtain ⟨h1, h2⟩ := h
  obtain ⟨h3, h4⟩ := hy
  have ha := zhi_lt a
  have hb := zhi_lt b
  refine zmkc_in ?_ ?_ ?_
  · rw [zmn2_e]; split <;> omega
  · rw [zmn2_e]
    by_cases hc : y < x
    · rw [if_pos hc]; have := zlt_iff.mp hc; split <;> omega
    · rw [if_neg hc]; have h9 : ¬ _ := fun q => hc (zlt_iff.mpr q); split <;> omega
  · rw [zmn2_e]
    by_cases hc : y < x
    · rw [if_pos hc]; have := zlt_iff.mp hc; split <;> omega
    · rw [if_neg hc]; have h9 : ¬ _ := fun q => hc (zlt_iff.mpr q); split <;> omega
theorem z_max {idx : Nat} (hd : decode M.2.1 pc = .ok (.invokestatic idx, 3)) (h1 : Cond.methodLink M.1.cls idx Lib.Math.max.name ∈ gw) (h2 : Cond.static Lib.Math.max.name ∈ gw) (h3 : Cond.initialized "java/lang/Math" ∈ gw) (h4 : Cond.code Lib.Math.max.name Lib.Math.max.code 2 (some .int) ∈ gw) (hk : zS l G gh (d + 1) K M (pc + 3) k) : zS l G gh (d + 1) K M pc (oM2 zmax k) := by
  intro lv st ce sl t A h lv' st' I L R hl hs hm
  obtain ⟨b, st1, y, st2, rfl, g1, g2, g3⟩ := zpI_t h hs
  obtain ⟨a, st3, x, st4, rfl, g4, g5, g6⟩ := zpI_t g3 g2
  obtain ⟨h9, h10⟩ := zand g6
  exact q_max hd h1 h2 h3 h4 (by rw [zcat_t g5]; exact Nat.le_of_ble_eq_true h9) hm.2.1 hm.2.2 (hk lv _ ce sl t A h10 lv' _ I L R hl ⟨⟨_, rfl, zmax_in g4 g1⟩, g5⟩ hm)
theorem z_min {idx : Nat} (hd : decode M.2.1 pc = .ok (.invokestatic idx, 3)) (h1 : Cond.methodLink M.1.cls idx Lib.Math.min.name ∈ gw) (h2 : Cond.static Lib.Math.min.name ∈ gw) (h3 : Cond.initialized "java/lang/Math" ∈ gw) (h4 : Cond.code Lib.Math.min.name Lib.Math.min.code 2 (some .int) ∈ gw) (hk : zS l G gh (d + 1) K M (pc + 3) k) : zS l G gh (d + 1) K M pc (oM2 zmin k) := by
  intro lv st ce sl t A h lv' st' I L R hl hs hm
  obtain ⟨b, st1, y, st2, rfl, g1, g2, g3⟩ := zpI_t h hs
  obtain ⟨a, st3, x, st4, rfl, g4, g5, g6⟩ := zpI_t g3 g2
  obtain ⟨h9, h10⟩ := zand g6
  exact q_min hd h1 h2 h3 h4 (by rw [zcat_t g5]; exact Nat.le_of_ble_eq_true h9) hm.2.1 hm.2.2 (hk lv _ ce sl t A h10 lv' _ I L R hl ⟨⟨_, rfl, zmin_in g4 g1⟩, g5⟩ hm)
end ZT
