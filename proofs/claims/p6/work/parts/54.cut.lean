/-! ===== the reference's tokens ===== -/
/-- what cutting may change: the tokens' rows, how many -/
def yQ (I0 I : qMI) : Prop := (∀ k, k ≠ 292 → k ≠ 295 → k ≠ 296 → k ≠ 297 → I k = I0 k) ∧ (∀ j, j ≠ 10 → I 292 j = I0 292 j) ∧ (∀ i, i < 403 → 0 ≤ (I 295 i).toInt ∧ (I 295 i).toInt ≤ 42)
section
variable {l : Launch} {G : qG} {d : Nat} {I I0 : qMI} {L : qML} {R : qMR}
theorem yByte (hR : wkR R) {i : Int32} (h0 : 0 ≤ i.toInt) (hs : (I 292 4).toInt ≤ 2000) : wkI l G (d + 1) n_X9_byteAt [.ref 292, .int i] I L R (fun y I' L' => L' = L ∧ I' = I ∧ ((I 292 4).toInt ≤ i.toInt → y = 0)) :=
  wkC_of 0 (by decide) (Nat.le_of_ble_eq_true rfl) (w_X9_byteAt_0 (fun _ => w_X9_byteAt_21 (w_X9_byteAt_22 ⟨rfl, rfl, _, rfl, rfl, rfl, fun _ => rfl⟩)) (fun q => w_X9_byteAt_8 hR (vin h0 (by have : ¬ _ := fun z => q (i_le.mpr z); omega)) (w_X9_byteAt_22 ⟨rfl, rfl, _, rfl, rfl, rfl, fun z => absurd (i_le.mpr z) q⟩)))
theorem yLetter {c : Int32} : wkI l G (d + 1) n_X9_isLetter [.int c] I L R (fun y I' L' => L' = L ∧ I' = I ∧ (c = 0 → y = 0)) :=
  wkC_of 0 (by decide) (Nat.le_of_ble_eq_true rfl) (w_X9_isLetter_0 (fun _ => w_X9_isLetter_16 (w_X9_isLetter_17 ⟨rfl, rfl, _, rfl, rfl, rfl, fun _ => rfl⟩ (Or.inl rfl))) (fun q => w_X9_isLetter_6 (fun _ => w_X9_isLetter_16 (w_X9_isLetter_17 ⟨rfl, rfl, _, rfl, rfl, rfl, fun _ => rfl⟩ (Or.inl rfl))) (fun _ => w_X9_isLetter_12 (w_X9_isLetter_17 ⟨rfl, rfl, _, rfl, rfl, rfl, fun z => absurd (by rw [z]; decide) q⟩ (Or.inr rfl)))))
theorem yDigit {c : Int32} : wkI l G (d + 1) n_X9_isDigit [.int c] I L R (fun y I' L' => L' = L ∧ I' = I ∧ (c = 0 → y = 0)) :=
  wkC_of 0 (by decide) (Nat.le_of_ble_eq_true rfl) (w_X9_isDigit_0 (fun _ => w_X9_isDigit_16 (w_X9_isDigit_17 ⟨rfl, rfl, _, rfl, rfl, rfl, fun _ => rfl⟩ (Or.inl rfl))) (fun q => w_X9_isDigit_6 (fun _ => w_X9_isDigit_16 (w_X9_isDigit_17 ⟨rfl, rfl, _, rfl, rfl, rfl, fun _ => rfl⟩ (Or.inl rfl))) (fun _ => w_X9_isDigit_12 (w_X9_isDigit_17 ⟨rfl, rfl, _, rfl, rfl, rfl, fun z => absurd (by rw [z]; decide) q⟩ (Or.inr rfl)))))
theorem yAppends {x : Int64} {c : Int32} : wkJ l G (d + 1) n_X9_appends [.long x, .int c] I L R (fun _ I' L' => L' = L ∧ I' = I) :=
  wkC_of 0 (by decide) (Nat.le_of_ble_eq_true rfl) (w_X9_appends_0 (fun _ => w_X9_appends_8 (w_X9_appends_21 ⟨rfl, rfl, _, rfl, rfl, rfl⟩)) (fun _ => w_X9_appends_4 (w_X9_appends_21 ⟨rfl, rfl, _, rfl, rfl, rfl⟩)))
theorem yToken (hR : wkR R) {k p v : Int32} {x : Int64} (h : yQ I0 I) (h0 : 0 ≤ (I 292 10).toInt) (h1 : (I 292 10).toInt ≤ 401) (hk : 0 ≤ k.toInt ∧ k.toInt ≤ 42) : wkV l G (d + 1) n_X9_token [.ref 292, .int k, .int p, .int v, .long x] I L R (fun I' _ => yQ I0 I' ∧ (I' 292 10).toInt = (I 292 10).toInt + 1) := by
  have hin : vp_in (I 292 10) 403 := vin h0 (by omega)
  have e1 : ∀ a, (qUp I 295 a k) 292 10 = I 292 10 := fun a => qUp_ne (by omega)
  have e2 : ∀ a b, (qUp (qUp I 295 a k) 296 b p) 292 10 = I 292 10 := fun a b => by rw [qUp_ne (by omega), qUp_ne (by omega)]
  have e3 : ∀ a b c, (qUp (qUp (qUp I 295 a k) 296 b p) 297 c v) 292 10 = I 292 10 := fun a b c => by rw [qUp_ne (by omega), qUp_ne (by omega), qUp_ne (by omega)]
  refine wkC_of 0 (by decide) (Nat.le_of_ble_eq_true rfl) (w_X9_token_0 hR hin (by rw [e1]; exact hin) (by rw [e2]; exact hin) (by rw [e3]; exact hin) ⟨rfl, rfl, rfl, ?_, ?_⟩)
  · rw [e3, e2, e1]
    refine ⟨fun a b c d e => ?_, fun j a => ?_, fun i hi => ?_⟩
    · rw [← h.1 a b c d e]
      exact funext fun i => by rw [qUp_ne (fun q => b q.1), qUp_ne (fun q => e q.1), qUp_ne (fun q => d q.1), qUp_ne (fun q => c q.1)]
    · rw [← h.2.1 j a, qUp_ne (fun q => a q.2), qUp_ne (by omega), qUp_ne (by omega), qUp_ne (by omega)]
    · rw [qUp_ne (by omega), qUp_ne (by omega), qUp_ne (by omega), qUp_at]
      by_cases z : 295 = 295 ∧ i = (I 292 10).toNatClampNeg
      · rw [if_pos z]; exact hk
      · rw [if_neg z]; exact h.2.2 i hi
  · rw [qUp_at, if_pos ⟨rfl, rfl⟩, e3, i_s (by omega)]
theorem ySign (hR : wkR R) {i c e : Int32} (h : yQ I0 I) (h0 : 0 ≤ (I 292 10).toInt) (h1 : (I 292 10).toInt ≤ 401) : wkI l G (d + 2) n_X9_sign [.ref 292, .int i, .int c, .int e] I L R (fun y I' _ => y = 1 ∧ yQ I0 I' ∧ (I' 292 10).toInt = (I 292 10).toInt + 1) := by
  have fin : ∀ k : Int32, (0 ≤ k.toInt ∧ k.toInt ≤ 42) → wkB l G (d + 1 + 1) n_X9_sign (wkPI R (fun y I' _ => y = 1 ∧ yQ I0 I' ∧ (I' 292 10).toInt = (I 292 10).toInt + 1)) 95 [.ref 292, .int i, .int c, .int e, .int k] [] I L R := fun k hk => w_X9_sign_95 (yToken (d := d) hR h h0 h1 hk) (fun I1 L1 hq => w_X9_sign_104 ⟨rfl, rfl, _, rfl, rfl, hq⟩)
  have s85 : ∀ k : Int32, (0 ≤ k.toInt ∧ k.toInt ≤ 42) → wkB l G (d + 1 + 1) n_X9_sign (wkPI R (fun y I' _ => y = 1 ∧ yQ I0 I' ∧ (I' 292 10).toInt = (I 292 10).toInt + 1)) 85 [.ref 292, .int i, .int c, .int e, .int k] [] I L R := fun k hk => w_X9_sign_85 (fun _ => fin k hk) (fun _ => w_X9_sign_91 (fin 13 (by decide)))
  have s75 : ∀ k : Int32, (0 ≤ k.toInt ∧ k.toInt ≤ 42) → wkB l G (d + 1 + 1) n_X9_sign (wkPI R (fun y I' _ => y = 1 ∧ yQ I0 I' ∧ (I' 292 10).toInt = (I 292 10).toInt + 1)) 75 [.ref 292, .int i, .int c, .int e, .int k] [] I L R := fun k hk => w_X9_sign_75 (fun _ => s85 k hk) (fun _ => w_X9_sign_81 (s85 15 (by decide)))
  have s65 : ∀ k : Int32, (0 ≤ k.toInt ∧ k.toInt ≤ 42) → wkB l G (d + 1 + 1) n_X9_sign (wkPI R (fun y I' _ => y = 1 ∧ yQ I0 I' ∧ (I' 292 10).toInt = (I 292 10).toInt + 1)) 65 [.ref 292, .int i, .int c, .int e, .int k] [] I L R := fun k hk => w_X9_sign_65 (fun _ => s75 k hk) (fun _ => w_X9_sign_71 (s75 10 (by decide)))
  have s55 : ∀ k : Int32, (0 ≤ k.toInt ∧ k.toInt ≤ 42) → wkB l G (d + 1 + 1) n_X9_sign (wkPI R (fun y I' _ => y = 1 ∧ yQ I0 I' ∧ (I' 292 10).toInt = (I 292 10).toInt + 1)) 55 [.ref 292, .int i, .int c, .int e, .int k] [] I L R := fun k hk => w_X9_sign_55 (fun _ => s65 k hk) (fun _ => w_X9_sign_61 (s65 9 (by decide)))
  have s43 : ∀ k : Int32, (0 ≤ k.toInt ∧ k.toInt ≤ 42) → wkB l G (d + 1 + 1) n_X9_sign (wkPI R (fun y I' _ => y = 1 ∧ yQ I0 I' ∧ (I' 292 10).toInt = (I 292 10).toInt + 1)) 43 [.ref 292, .int i, .int c, .int e, wkU] [.int k] I L R := fun k hk => w_X9_sign_43 (fun _ => s55 k hk) (fun _ => w_X9_sign_51 (s55 8 (by decide)))
  exact wkC_of 1 (by decide) (Nat.le_of_ble_eq_true rfl) (w_X9_sign_0 (fun _ => w_X9_sign_10 (fun _ => w_X9_sign_20 (fun _ => w_X9_sign_31 (fun _ => w_X9_sign_42 (s43 3 (by decide))) (fun _ => w_X9_sign_37 (s43 7 (by decide)))) (fun _ => w_X9_sign_26 (s43 6 (by decide)))) (fun _ => w_X9_sign_16 (s43 5 (by decide)))) (fun _ => w_X9_sign_6 (s43 4 (by decide))))
/-- the loop over what is fed -/
theorem yCutLoop (hR : wkR R) (hsz : 0 ≤ (I0 292 4).toInt ∧ (I0 292 4).toInt ≤ 2000) : ∀ (m : Nat) (I : qMI) (L : qML) (i : Int32), (401 - (I 292 10).toInt).toNat * 2001 + (2000 - i.toInt).toNat = m → yQ I0 I → 0 ≤ (I 292 10).toInt → (I 292 10).toInt ≤ 401 → 0 ≤ i.toInt → i.toInt ≤ 2000 →
    wkB l G (d + 2 + 1) n_X9_cut (wkPV R (fun I' _ => yQ I0 I' ∧ 0 ≤ (I' 292 10).toInt ∧ (I' 292 10).toInt ≤ 401)) 7 [.ref 292, .int i, wkU, wkU, wkU, wkU, wkU, wkU] [] I L R := by
  intro m
  induction m using Nat.strongRecOn with
  | ind m ih =>
    intro I L i hm h t0 t1 i0 i1
    have e4 : I 292 4 = I0 292 4 := h.2.1 4 (by decide)
    refine w_X9_cut_7 (fun _ => w_X9_cut_294 ⟨rfl, rfl, rfl, h, t0, t1⟩) (fun q => ?_)
    have t4 : (I 292 10).toInt ≤ 400 := by have : ¬ _ := fun z => q (i_lt.mpr z); rw [show (400 : Int32).toInt = 400 from rfl] at this; omega
    -- a token more, i anywhere
    have next : ∀ (I1 : qMI) (L1 : qML) (j : Int32), yQ I0 I1 → (I1 292 10).toInt = (I 292 10).toInt + 1 → 0 ≤ j.toInt → j.toInt ≤ 2000 → wkB l G (d + 2 + 1) n_X9_cut (wkPV R (fun I' _ => yQ I0 I' ∧ 0 ≤ (I' 292 10).toInt ∧ (I' 292 10).toInt ≤ 401)) 7 [.ref 292, .int j, wkU, wkU, wkU, wkU, wkU, wkU] [] I1 L1 R := fun I1 L1 j hq ht j0 j1 => ih _ (by rw [← hm, ht]; omega) I1 L1 j rfl hq (by omega) (by omega) j0 j1
    refine w_X9_cut_17 (yByte (d := d + 1) hR i0 (by rw [e4]; omega)) (fun c I' L' hq => ?_)
    obtain ⟨rfl, rfl, hc⟩ := hq
    refine w_X9_cut_22 (fun hlt => ?_) (fun _ => w_X9_cut_31 (yToken (d := d + 1) hR h t0 t1 (by decide)) (fun I1 L1 hq => w_X9_cut_42 ⟨rfl, rfl, rfl, hq.1, by have := hq.2; omega, by have := hq.2; omega⟩))
    have hlt := i_lt.mp hlt
    rw [e4] at hlt
    have si : (i + 1).toInt = i.toInt + 1 := i_s (by omega)
    have blank : wkB l G (d + 2 + 1) n_X9_cut (wkPV R (fun I' _ => yQ I0 I' ∧ 0 ≤ (I' 292 10).toInt ∧ (I' 292 10).toInt ≤ 401)) 67 [.ref 292, .int i, .int c, wkU, wkU, wkU, wkU, wkU] [] I' L' R := w_X9_cut_67 (w_X9_cut_291 (ih _ (by rw [← hm, si]; omega) I' L' (i + 1) rfl h t0 t1 (by omega) (by omega)))
    refine w_X9_cut_43 (fun _ => blank) (fun _ => w_X9_cut_49 (fun _ => blank) (fun _ => w_X9_cut_55 (fun _ => blank) (fun _ => w_X9_cut_61 (fun _ => w_X9_cut_73 (yLetter (d := d + 1)) (fun y I1 L1 hq => ?_)) (fun _ => blank))))
    obtain ⟨rfl, rfl, -⟩ := hq
    refine w_X9_cut_77 (fun _ => w_X9_cut_196 (yDigit (d := d + 1)) (fun y2 I2 L2 hq => ?_)) (fun _ => w_X9_cut_80 ?_)
    · obtain ⟨rfl, rfl, -⟩ := hq
      refine w_X9_cut_200 (fun _ => w_X9_cut_275 (yByte (d := d + 1) hR (by omega) (by rw [e4]; omega)) (fun y3 I3 L3 hq => ?_)) (fun _ => w_X9_cut_203 ?_)
      · obtain ⟨rfl, rfl, -⟩ := hq
        refine w_X9_cut_286 (ySign (d := d) hR h t0 t1) (fun y4 I4 L4 hq => ?_)
        obtain ⟨rfl, q1, q2⟩ := hq
        exact w_X9_cut_289 (w_X9_cut_291 (next I4 L4 (i + 1) q1 q2 (by omega) (by omega)))
      · -- digits
        have loop : ∀ (k : Nat) (n v : Int32), ((I0 292 4).toInt - i.toInt - n.toInt).toNat = k → 0 ≤ n.toInt → i.toInt + n.toInt ≤ (I0 292 4).toInt → wkB l G (d + 2 + 1) n_X9_cut (wkPV R (fun I' _ => yQ I0 I' ∧ 0 ≤ (I' 292 10).toInt ∧ (I' 292 10).toInt ≤ 401)) 208 [.ref 292, .int i, .int c, .int n, .int v, wkU, wkU, wkU] [] I2 L2 R := by
          intro k
          induction k with
          | zero =>
            intro n v hk n0 n1
            have ein : (i + n).toInt = i.toInt + n.toInt := i_add (by omega) (by omega)
            refine w_X9_cut_208 (yByte (d := d + 1) hR (by omega) (by rw [e4]; omega)) (fun y3 I3 L3 hq => ?_)
            obtain ⟨rfl, rfl, hb⟩ := hq
            refine w_X9_cut_215 (yDigit (d := d + 1)) (fun y4 I4 L4 hq => ?_)
            obtain ⟨rfl, rfl, hb2⟩ := hq
            have z : y4 = 0 := hb2 (hb (by rw [e4, ein]; omega))
            have tok : ∀ kk : Int32, (0 ≤ kk.toInt ∧ kk.toInt ≤ 42) → wkB l G (d + 2 + 1) n_X9_cut (wkPV R (fun I' _ => yQ I0 I' ∧ 0 ≤ (I' 292 10).toInt ∧ (I' 292 10).toInt ≤ 401)) 261 [.ref 292, .int i, .int c, .int n, .int v, wkU, wkU, wkU] [.int kk, .ref 292] I4 L4 R := fun kk hkk => w_X9_cut_261 (yToken (d := d + 1) hR h t0 t1 hkk) (fun I5 L5 hq => w_X9_cut_268 (w_X9_cut_291 (next I5 L5 (i + n) hq.1 hq.2 (by omega) (by omega))))
            exact w_X9_cut_218 (fun _ => w_X9_cut_250 (fun _ => w_X9_cut_260 (tok 2 (by decide))) (fun _ => w_X9_cut_256 (tok 3 (by decide)))) (fun q => absurd z q)
          | succ k ihk =>
            intro n v hk n0 n1
            have ein : (i + n).toInt = i.toInt + n.toInt := i_add (by omega) (by omega)
            have sn : (n + 1).toInt = n.toInt + 1 := i_s (by omega)
            refine w_X9_cut_208 (yByte (d := d + 1) hR (by omega) (by rw [e4]; omega)) (fun y3 I3 L3 hq => ?_)
            obtain ⟨rfl, rfl, hb⟩ := hq
            refine w_X9_cut_215 (yDigit (d := d + 1)) (fun y4 I4 L4 hq => ?_)
            obtain ⟨rfl, rfl, hb2⟩ := hq
            have tok : ∀ kk : Int32, (0 ≤ kk.toInt ∧ kk.toInt ≤ 42) → wkB l G (d + 2 + 1) n_X9_cut (wkPV R (fun I' _ => yQ I0 I' ∧ 0 ≤ (I' 292 10).toInt ∧ (I' 292 10).toInt ≤ 401)) 261 [.ref 292, .int i, .int c, .int n, .int v, wkU, wkU, wkU] [.int kk, .ref 292] I4 L4 R := fun kk hkk => w_X9_cut_261 (yToken (d := d + 1) hR h t0 t1 hkk) (fun I5 L5 hq => w_X9_cut_268 (w_X9_cut_291 (next I5 L5 (i + n) hq.1 hq.2 (by omega) (by omega))))
            refine w_X9_cut_218 (fun _ => w_X9_cut_250 (fun _ => w_X9_cut_260 (tok 2 (by decide))) (fun _ => w_X9_cut_256 (tok 3 (by decide)))) (fun q => ?_)
            have on : ∀ w : Int32, wkB l G (d + 2 + 1) n_X9_cut (wkPV R (fun I' _ => yQ I0 I' ∧ 0 ≤ (I' 292 10).toInt ∧ (I' 292 10).toInt ≤ 401)) 244 [.ref 292, .int i, .int c, .int n, .int w, wkU, wkU, wkU] [] I4 L4 R := fun w => w_X9_cut_244 (ihk (n + 1) w (by rw [sn]; omega) (by omega) (by omega))
            refine w_X9_cut_221 (fun _ => on v) (fun _ => w_X9_cut_226 (yByte (d := d + 1) hR (by omega) (by rw [e4]; omega)) (fun y5 I5 L5 hq => ?_))
            obtain ⟨rfl, rfl, -⟩ := hq
            exact w_X9_cut_238 (on _)
        exact loop _ 0 0 rfl (by decide) (by rw [show (0 : Int32).toInt = 0 from rfl]; omega)
    · -- letters
      have keys : ∀ (n : Int32) (x : Int64), 0 ≤ n.toInt → i.toInt + n.toInt ≤ (I0 292 4).toInt → ∀ (k : Nat) (kk j : Int32), (23 - j.toInt).toNat = k → 0 ≤ j.toInt → j.toInt ≤ 23 → (0 ≤ kk.toInt ∧ kk.toInt ≤ 42) → wkB l G (d + 2 + 1) n_X9_cut (wkPV R (fun I' _ => yQ I0 I' ∧ 0 ≤ (I' 292 10).toInt ∧ (I' 292 10).toInt ≤ 401)) 146 [.ref 292, .int i, .int c, .int n, .long x, wkU, .int kk, .int j] [] I1 L1 R := by
        intro n x n0 n1 k
        have ein : (i + n).toInt = i.toInt + n.toInt := i_add (by omega) (by omega)
        induction k with
        | zero =>
          intro kk j hk j0 j1 hkk
          exact w_X9_cut_146 (fun _ => w_X9_cut_179 (yToken (d := d + 1) hR h t0 t1 hkk) (fun I5 L5 hq => w_X9_cut_189 (w_X9_cut_291 (next I5 L5 (i + n) hq.1 hq.2 (by omega) (by omega))))) (fun q => absurd (i_le.mpr (by rw [show (23 : Int32).toInt = 23 from rfl]; omega)) q)
        | succ k ihk =>
          intro kk j hk j0 j1 hkk
          have sj : (j + 1).toInt = j.toInt + 1 := i_s (by omega)
          refine w_X9_cut_146 (fun _ => w_X9_cut_179 (yToken (d := d + 1) hR h t0 t1 hkk) (fun I5 L5 hq => w_X9_cut_189 (w_X9_cut_291 (next I5 L5 (i + n) hq.1 hq.2 (by omega) (by omega))))) (fun q => w_X9_cut_153 hR (vin j0 (by omega)) (fun _ => w_X9_cut_173 (ihk kk (j + 1) (by rw [sj]; omega) (by omega) (by omega) hkk)) (fun _ => w_X9_cut_166 (w_X9_cut_173 (ihk (20 + j) (j + 1) (by rw [sj]; omega) (by omega) (by omega) ?_))))
          rw [i_add (by rw [show (20 : Int32).toInt = 20 from rfl]; omega) (by rw [show (20 : Int32).toInt = 20 from rfl]; omega), show (20 : Int32).toInt = 20 from rfl]
          omega
      have tokL : ∀ (n : Int32) (x : Int64) (kk : Int32), 0 ≤ n.toInt → i.toInt + n.toInt ≤ (I0 292 4).toInt → (0 ≤ kk.toInt ∧ kk.toInt ≤ 42) → wkB l G (d + 2 + 1) n_X9_cut (wkPV R (fun I' _ => yQ I0 I' ∧ 0 ≤ (I' 292 10).toInt ∧ (I' 292 10).toInt ≤ 401)) 135 [.ref 292, .int i, .int c, .int n, .long x, wkU, wkU, wkU] [.int kk] I1 L1 R := by
        intro n x kk n0 n1 hkk
        have ein : (i + n).toInt = i.toInt + n.toInt := i_add (by omega) (by omega)
        exact w_X9_cut_135 (fun _ => w_X9_cut_179 (yToken (d := d + 1) hR h t0 t1 hkk) (fun I5 L5 hq => w_X9_cut_189 (w_X9_cut_291 (next I5 L5 (i + n) hq.1 hq.2 (by omega) (by omega))))) (fun _ => w_X9_cut_143 (keys n x n0 n1 _ kk 0 rfl (by decide) (by decide) hkk))
      have loop : ∀ (k : Nat) (n : Int32) (x : Int64), ((I0 292 4).toInt - i.toInt - n.toInt).toNat = k → 0 ≤ n.toInt → i.toInt + n.toInt ≤ (I0 292 4).toInt → wkB l G (d + 2 + 1) n_X9_cut (wkPV R (fun I' _ => yQ I0 I' ∧ 0 ≤ (I' 292 10).toInt ∧ (I' 292 10).toInt ≤ 401)) 85 [.ref 292, .int i, .int c, .int n, .long x, wkU, wkU, wkU] [] I1 L1 R := by
        intro k
        induction k with
        | zero =>
          intro n x hk n0 n1
          have ein : (i + n).toInt = i.toInt + n.toInt := i_add (by omega) (by omega)
          refine w_X9_cut_85 (yByte (d := d + 1) hR (by omega) (by rw [e4]; omega)) (fun y3 I3 L3 hq => ?_)
          obtain ⟨rfl, rfl, hb⟩ := hq
          refine w_X9_cut_92 (yLetter (d := d + 1)) (fun y4 I4 L4 hq => ?_)
          obtain ⟨rfl, rfl, hb2⟩ := hq
          have z : y4 = 0 := hb2 (hb (by rw [e4, ein]; omega))
          exact w_X9_cut_95 (fun _ => w_X9_cut_124 (fun _ => w_X9_cut_134 (tokL n x 1 n0 n1 (by decide))) (fun _ => w_X9_cut_130 (tokL n x 3 n0 n1 (by decide)))) (fun q => absurd z q)
        | succ k ihk =>
          intro n x hk n0 n1
          have ein : (i + n).toInt = i.toInt + n.toInt := i_add (by omega) (by omega)
          have sn : (n + 1).toInt = n.toInt + 1 := i_s (by omega)
          refine w_X9_cut_85 (yByte (d := d + 1) hR (by omega) (by rw [e4]; omega)) (fun y3 I3 L3 hq => ?_)
          obtain ⟨rfl, rfl, hb⟩ := hq
          refine w_X9_cut_92 (yLetter (d := d + 1)) (fun y4 I4 L4 hq => ?_)
          obtain ⟨rfl, rfl, hb2⟩ := hq
          refine w_X9_cut_95 (fun _ => w_X9_cut_124 (fun _ => w_X9_cut_134 (tokL n x 1 n0 n1 (by decide))) (fun _ => w_X9_cut_130 (tokL n x 3 n0 n1 (by decide)))) (fun q => ?_)
          have on : ∀ w : Int64, wkB l G (d + 2 + 1) n_X9_cut (wkPV R (fun I' _ => yQ I0 I' ∧ 0 ≤ (I' 292 10).toInt ∧ (I' 292 10).toInt ≤ 401)) 118 [.ref 292, .int i, .int c, .int n, .long w, wkU, wkU, wkU] [] I4 L4 R := fun w => w_X9_cut_118 (ihk (n + 1) w (by rw [sn]; omega) (by omega) (by omega))
          refine w_X9_cut_98 (fun _ => on x) (fun _ => w_X9_cut_104 (yByte (d := d + 1) hR (by omega) (by rw [e4]; omega)) (fun y5 I5 L5 hq => ?_))
          obtain ⟨rfl, rfl, -⟩ := hq
          refine w_X9_cut_113 (yAppends (d := d + 1)) (fun y6 I6 L6 hq => ?_)
          obtain ⟨rfl, rfl⟩ := hq
          exact w_X9_cut_116 (on _)
      exact loop _ 0 0 rfl (by decide) (by rw [show (0 : Int32).toInt = 0 from rfl]; omega)
theorem yCut (hR : wkR R) (hsz : 0 ≤ (I 292 4).toInt ∧ (I 292 4).toInt ≤ 2000) (hkd : ∀ i, i < 403 → 0 ≤ (I 295 i).toInt ∧ (I 295 i).toInt ≤ 42) : wkV l G (d + 3) n_X9_cut [.ref 292] I L R (fun I' _ => yQ I I' ∧ 0 ≤ (I' 292 10).toInt ∧ (I' 292 10).toInt ≤ 401) := by
  have e10 : (qUp I 292 10 0) 292 10 = 0 := by rw [qUp_at, if_pos ⟨rfl, rfl⟩]
  refine wkC_of 7 (by decide) (Nat.le_of_ble_eq_true rfl) (w_X9_cut_0 (yCutLoop (d := d) hR hsz _ _ L 0 rfl ⟨fun k a _ _ _ => funext fun i => qUp_ne (fun q => a q.1), fun j a => qUp_ne (fun q => a q.2), fun i hi => by rw [qUp_ne (by omega)]; exact hkd i hi⟩ (by rw [e10]; decide) (by rw [e10]; decide) (by decide) (by decide)))
end
