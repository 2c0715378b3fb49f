/-! ===== the reference's names, exact ===== -/
/-- it doesn't hang on the names and the counts -/
theorem rG_z {T : Nat} {K S : Nat → Int32} {N : Nat → Int64} {I : qMI} {L : qML} {z z' : pZ} (h : rG T K S N I L z) (e1 : z'.1 = z.1) (e2 : z'.2.1 = z.2.1) : rG T K S N I L z' := by
  obtain ⟨h1, h2, h3, h4⟩ := h
  refine ⟨h1, ?_⟩
  show I 292 13 = z'.1.2.1 ∧ (z'.1.2.1 ≠ 0 → I 292 14 = z'.1.2.2) ∧ (z'.1.2.1 = 0 → ((I 292 11).toInt = z'.1.1 ∧ z'.1.1 < T) ∧ I 292 15 = z'.2.1.1 ∧ (z'.2.1.1 ≠ 0 → I 292 16 = z'.2.1.2 ∧ z'.2.1.2.toInt < (S z'.1.1).toInt))
  rw [e1, e2]
  exact ⟨h2, h3, h4⟩
theorem zNote_i {p : Int32} {z : pZ} : zNote 3 p (zNote 3 p z) = zNote 3 p z := by
  unfold zNote
  by_cases q : z.2.1.1 = 0
  · rw [if_pos q, if_neg (by show ¬ (3 : Int32) = 0; decide)]
  · rw [if_neg q, if_neg q]
/-- the names so far -/
def rNm (I : qMI) (L : qML) (ns : List Int64) : Prop := ∀ x, x ∈ ns ↔ ∃ k : Nat, (k : Int) < (I 292 20).toInt ∧ L 300 k = x
section
variable {l : Launch} {G : qG} {d : Nat} {I : qMI} {L : qML} {R : qMR} {T : Nat} {K S : Nat → Int32} {N : Nat → Int64} {z : pZ}
theorem rNamedLoop (hR : wkR R) {tk : Int32} {y1 : pZ} {E : pZ} (a : Nat) (htk : tk.toInt = a) (haT : a < T) (hT4 : T ≤ 401) (hn : (I 292 20).toInt ≤ 12) (h0 : pf y1 = 0) (hp : pt y1 = a + 1) (hpT : a + 1 < T) (hw : y1.2.1.1 ≠ 0 → y1.2.1.2.toInt < (S a).toInt) (hSt : (S a).toInt < (S (a + 1)).toInt) (hNa : L 298 a = N a)
    (hE : ∀ b : Bool, (b = true ↔ ∃ i : Nat, (i : Int) < (I 292 20).toInt ∧ L 300 i = N a) → E.1 = (if b = true then zNote 3 (S a) y1 else y1).1 ∧ E.2.1 = (if b = true then zNote 3 (S a) y1 else y1).2.1) : ∀ (m : Nat) (J : qMI) (k : Int32) (j : Nat) (b : Bool), (12 - k.toInt).toNat = m → k.toInt = j → (j : Int) ≤ (I 292 20).toInt → yN I J → rG T K S N J L (if b = true then zNote 3 (S a) y1 else y1) → (b = true ↔ ∃ i : Nat, i < j ∧ L 300 i = N a) → wkB l G (d + 3 + 1) n_X9_named (wkPI R (fun y I' L' => L' = L ∧ y = tk ∧ yN I I' ∧ rG T K S N I' L' E)) 12 [.ref 292, .int tk, .int k] [] J L R := by
  have vtk : vp_in tk 403 := vin (by omega) (by omega)
  intro m
  induction m with
  | zero =>
    intro J k j b hm hk hj hJ g hb
    have e20 : J 292 20 = I 292 20 := hJ.1.1.2 20 (by decide) (by decide) (by decide) (by decide) (by decide)
    have hj' : (j : Int) = (I 292 20).toInt := by omega
    have := hE b (by rw [hb]; exact ⟨fun ⟨i, x, y⟩ => ⟨i, by omega, y⟩, fun ⟨i, x, y⟩ => ⟨i, by omega, y⟩⟩)
    exact w_X9_named_12 (fun _ => w_X9_named_55 ⟨rfl, rfl, _, rfl, rfl, rfl, hJ, rG_z g this.1 this.2⟩) (fun q => absurd (i_le.mpr (by rw [e20]; omega)) q)
  | succ m ih =>
    intro J k j b hm hk hj hJ g hb
    have e20 : J 292 20 = I 292 20 := hJ.1.1.2 20 (by decide) (by decide) (by decide) (by decide) (by decide)
    have ewf : pf (if b = true then zNote 3 (S a) y1 else y1) = 0 := by
      cases b with
      | true => rw [if_pos rfl]; show (zNote 3 (S a) y1).1.2.1 = 0; rw [zNote_1.1]; exact h0
      | false => rw [if_neg (by decide)]; exact h0
    have ewp : pt (if b = true then zNote 3 (S a) y1 else y1) = a + 1 := by
      cases b with
      | true => rw [if_pos rfl]; show (zNote 3 (S a) y1).1.1 = a + 1; rw [zNote_1.1]; exact hp
      | false => rw [if_neg (by decide)]; exact hp
    have hws : (if b = true then zNote 3 (S a) y1 else y1).2.1.1 ≠ 0 → (if b = true then zNote 3 (S a) y1 else y1).2.1.2.toInt < (S a).toInt ∨ ((if b = true then zNote 3 (S a) y1 else y1).2.1.2.toInt = (S a).toInt ∧ (if b = true then zNote 3 (S a) y1 else y1).2.1.1.toInt ≤ (3 : Int32).toInt) := by
      cases b with
      | true =>
        rw [if_pos rfl]
        unfold zNote
        by_cases q : y1.2.1.1 = 0
        · rw [if_pos q]; exact fun _ => Or.inr ⟨rfl, by show (3 : Int32).toInt ≤ _; exact Int.le_refl _⟩
        · rw [if_neg q]; exact fun _ => Or.inl (hw q)
      | false => rw [if_neg (by decide)]; exact fun q => Or.inl (hw q)
    refine w_X9_named_12 (fun q => ?_) (fun q => ?_)
    · rw [e20] at q
      have q' := i_le.mp q
      have hj' : (j : Int) = (I 292 20).toInt := by omega
      have := hE b (by rw [hb]; exact ⟨fun ⟨i, x, y⟩ => ⟨i, by omega, y⟩, fun ⟨i, x, y⟩ => ⟨i, by omega, y⟩⟩)
      exact w_X9_named_55 ⟨rfl, rfl, _, rfl, rfl, rfl, hJ, rG_z g this.1 this.2⟩
    · rw [e20] at q
      have q' : ¬ _ := fun x => q (i_le.mpr x)
      have ek : (k + 1).toInt = ((j + 1 : Nat) : Int) := by rw [i_s (by omega), hk]; rfl
      have em : (12 - (k + 1).toInt).toNat = m := by rw [ek]; clear hb hE ih hws; omega
      have ej : ((j + 1 : Nat) : Int) ≤ (I 292 20).toInt := by clear hb hE ih hws; omega
      have kj : k.toNatClampNeg = j := by rw [tcn]; omega
      have next : ∀ J' b', yN I J' → rG T K S N J' L (if b' = true then zNote 3 (S a) y1 else y1) → (b' = true ↔ ∃ i : Nat, i < j + 1 ∧ L 300 i = N a) → wkB l G (d + 3 + 1) n_X9_named (wkPI R (fun y I' L' => L' = L ∧ y = tk ∧ yN I I' ∧ rG T K S N I' L' E)) 49 [.ref 292, .int tk, .int k] [] J' L R := fun J' b' hJ' g' hb' => w_X9_named_49 (ih J' (k + 1) (j + 1) b' em ek ej hJ' g' hb')
      have f13 : J 292 13 = 0 := by rw [g.2.1]; exact ewf
      have ta : tk.toNatClampNeg = a := by rw [tcn]; omega
      refine w_X9_named_20 (fun x => absurd f13 x) (fun _ => w_X9_named_27 hR (vin (by omega) (by omega)) vtk (fun c => ?_) (fun c => w_X9_named_43 (rWrong (d := d + 2) hR hJ.1.2.1 g ewf (by decide) htk haT hws) (fun J1 L1 hq => ?_)))
      · rw [kj, ta, hNa, lg_cmp0] at c
        refine next J b hJ g (hb.trans ⟨fun ⟨i, x, y⟩ => ⟨i, by omega, y⟩, fun ⟨i, x, y⟩ => ⟨i, ?_, y⟩⟩)
        by_cases hi : i = j
        · rw [hi] at y; exact absurd y c
        · omega
      · rw [kj, ta, hNa, lg_cmp0] at c
        obtain ⟨rfl, q1, q2, q3, q4, q5, q6⟩ := hq
        have ez : zNote 3 (S a) (if b = true then zNote 3 (S a) y1 else y1) = zNote 3 (S a) y1 := by
          cases b with
          | true => rw [if_pos rfl]; exact zNote_i
          | false => rw [if_neg (by decide)]
        rw [ez] at q5 q6
        refine next J1 true ⟨yS_tr hJ.1 q1, fun x => ?_⟩ ?_ ⟨fun _ => ⟨j, by omega, c⟩, fun _ => rfl⟩
        · rw [q2]; exact hJ.2 f13
        · rw [if_pos rfl]
          have e1 := zNote_1 (w := 3) (p := S a) (z := y1)
          have n0 : pf (zNote 3 (S a) y1) = 0 := by show (zNote 3 (S a) y1).1.2.1 = 0; rw [e1.1]; exact h0
          have n1 : pt (zNote 3 (S a) y1) = a + 1 := by show (zNote 3 (S a) y1).1.1 = _; rw [e1.1]; exact hp
          refine ⟨q4, by rw [q3, n0]; exact f13, fun x => absurd n0 x, fun _ => ⟨⟨?_, by rw [n1]; exact hpT⟩, q5, fun x => ⟨q6 x, ?_⟩⟩⟩
          · rw [q2, n1]
            have := (g.2.2.2 ewf).1.1
            rw [ewp] at this
            exact this
          · rw [n1]
            unfold zNote
            by_cases q : y1.2.1.1 = 0
            · rw [if_pos q]; exact hSt
            · rw [if_neg q]; have := hw q; omega
theorem rNamed (hR : wkR R) (hk : yOk I) (hn : (I 292 20).toInt ≤ 12) (h20 : 0 ≤ (I 292 20).toInt) (g : rG T K S N I L z) (hf : pf z = 0) (hnm : rNm I L z.2.2.1) : wkI l G (d + 4) n_X9_named [.ref 292] I L R (fun y I' L' => L' = L ∧ y = I 292 11 ∧ yN I I' ∧ rG T K S N I' L' (zName K S N z)) := by
  refine wkC_of 2 (by decide) (Nat.le_of_ble_eq_true rfl) (w_X9_named_0 (rMust (k := 2) (d := d) hR hk g (by decide) (by decide)) (fun I1 L1 hq => ?_))
  obtain ⟨rfl, h1, -, g1⟩ := hq
  have e20 : I1 292 20 = I 292 20 := h1.1.1.2 20 (by decide) (by decide) (by decide) (by decide) (by decide)
  have g1 : rG T K S N I1 L1 (zTake S (decide (K (pt z) = 2)) z) := g1
  refine w_X9_named_10 ?_
  by_cases h0 : pf (zTake S (decide (K (pt z) = 2)) z) = 0
  · have hk2 : K (pt z) = 2 := by
      by_cases c : K (pt z) = 2
      · exact c
      · rw [decide_eq_false c] at h0
        unfold zTake at h0
        rw [if_pos hf, if_neg (by decide)] at h0
        exact absurd h0 (by show ¬ (1 : Int32) = 0; decide)
    obtain ⟨a1, a2, a3⟩ := zTake_pg (S := S) (b := decide (K (pt z) = 2)) (y := z) (fun _ => by have := (g.2.2.2 hf).1.2; have := g.1.1.2.1; omega) h0
    obtain ⟨⟨b1, b2⟩, b3, b4⟩ := g.2.2.2 hf
    have t1 : pt z + 1 < T := by have := (g1.2.2.2 h0).1.2; omega
    refine rNamedLoop (d := d) (I := I) (y1 := zTake S (decide (K (pt z) = 2)) z) (E := zName K S N z) hR (pt z) b1 b2 g.1.1.2.1 hn h0 a2 t1 (fun q => ?_) (g.1.2.2 _ t1) ((g.1.2.1 _ b2).2.2.2.2 hk2) (fun b hb => ?_) _ I1 0 0 false rfl rfl h20 h1 g1 ⟨fun q => absurd q (by decide), fun ⟨i, x, _⟩ => absurd x (by omega)⟩
    · rw [zTake_2] at q ⊢
      exact (b4 q).2
    · have hm := hnm (N (pt z))
      unfold zName
      rw [if_pos h0]
      by_cases c : N (pt z) ∈ z.2.2.1
      · rw [if_pos c, if_pos (hb.mpr (hm.mp c))]
        exact ⟨rfl, rfl⟩
      · rw [if_neg c, if_neg (fun x => c (hm.mpr (hb.mp x)))]
        exact ⟨rfl, by rw [zTake_2]⟩
  · have hE : zName K S N z = zTake S (decide (K (pt z) = 2)) z := by unfold zName; rw [if_neg h0]
    have hx : wkB l G (d + 3 + 1) n_X9_named (wkPI R (fun y I' L' => L' = L1 ∧ y = I 292 11 ∧ yN I I' ∧ rG T K S N I' L' (zName K S N z))) 55 [.ref 292, .int (I 292 11), .int 0] [] I1 L1 R := w_X9_named_55 ⟨rfl, rfl, _, rfl, rfl, rfl, h1, by rw [hE]; exact g1⟩
    exact w_X9_named_12 (fun _ => hx) (fun _ => w_X9_named_20 (fun _ => hx) (fun q => absurd (by rw [← g1.2.1]; exact q) h0))
theorem rEnds (hR : wkR R) (hk : yOk I) {tk : Int32} (htk : vp_in tk 403) (hn : I 292 13 = 0 → vp_in (I 292 20) 12) (g : rG T K S N I L z) : wkV l G (d + 4) n_X9_ends [.ref 292, .int tk] I L R (fun I' L' => rG T K S N I' L' (zMust K S 59 z) ∧ ((I' 292 13 ≠ 0 ∧ yS I I' ∧ L' = L) ∨ (I' 292 13 = 0 ∧ (∃ J, yN I J ∧ J 292 13 = 0 ∧ I' = qUp J 292 20 (I 292 20 + 1)) ∧ L' = qUpL L 300 (I 292 20).toNatClampNeg (L 298 tk.toNatClampNeg)))) := by
  refine wkC_of 0 (by decide) (Nat.le_of_ble_eq_true rfl) (w_X9_ends_0 (rMust (k := 59) (d := d) hR hk g (by decide) (by decide)) (fun I1 L1 hq => ?_))
  obtain ⟨rfl, h1, -, g1⟩ := hq
  have e20 : I1 292 20 = I 292 20 := h1.1.1.2 20 (by decide) (by decide) (by decide) (by decide) (by decide)
  refine w_X9_ends_5 (fun q => ?_) (fun q => w_X9_ends_12 ⟨rfl, rfl, rfl, g1, Or.inl ⟨fun x => q (by rw [x]; decide), h1.1, rfl⟩⟩)
  have f1 : I1 292 13 = 0 := by
    have a := h1.1.2.1.2.1
    have b := i_le.mp q
    rw [show (0 : Int32).toInt = 0 from rfl] at b
    exact i_eq.mpr (by rw [show (0 : Int32).toInt = 0 from rfl]; omega)
  refine w_X9_ends_13 hR htk (by rw [e20]; exact hn (yS_f0 h1.1 f1)) ⟨rfl, rfl, rfl, ?_, Or.inr ⟨?_, ⟨I1, h1, f1, by rw [e20]⟩, by rw [e20]⟩⟩
  · refine rG_of (rG_f (I := I1) (L := L1) (by omega) g1) ⟨rfl, rfl, rfl, ?_⟩ (fun j _ => rfl)
    exact funext fun i => by rw [qUpL_at, if_neg (by omega)]
  · rw [qUp_ne (by omega)]
    exact f1
end
