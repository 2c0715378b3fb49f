/-! ===== lawTells as the runner's step ===== -/
/-- an array of one bound that says nothing: all of it may be another -/
theorem zM_any {gh : zGh} {t a tg : Nat} {A : zAm} {I : qMI} {L : qML} {R : qMR} {f : Nat → Int32} (hm : zM gh t A I L R) (h : Nat.beq (ztag (zcell A a)) (Nat.add tg 6) = true) (h1 : 10 ≤ tg) (h2 : tg < 14) (hx : Nat.beq (Nat.xor (zraw (zcell A a) 0) 2147483648) ztop = true) : zM gh t (zuc A a) (qUpF I a f) L R := by
  have e := Nat.eq_of_beq_eq_true h
  rw [zadd_e] at e
  have ex := Nat.eq_of_beq_eq_true hx
  refine ⟨⟨fun k hk => ?_, fun k hk hk2 => ?_⟩, fun k hk => ?_, fun k hk i hi => ?_⟩ <;> rw [zuc_cell] at hk
  · have hka : k ≠ a := fun q => by subst q; rw [if_pos rfl, zcl_tag] at hk; omega
    rw [if_neg hka] at hk
    rw [zuc_cell, if_neg hka, qUpF_n I f hka]
    exact hm.1.1 k hk
  · rw [zuc_cell] at hk2 ⊢
    by_cases hka : k = a
    · subst hka
      rw [if_pos rfl, zcl_tag] at hk hk2
      rw [if_pos rfl, zcl_tag, zcl_len, zcl_raw]
      obtain ⟨g1, g2, g3, g4⟩ := hm.1.2 k hk hk2
      refine ⟨g1, g2, g3, fun q i hi => ?_⟩
      rw [ex]
      exact zin_top _
    · rw [if_neg hka] at hk hk2 ⊢
      rw [qUpF_n I f hka]
      exact hm.1.2 k hk hk2
  · have hka : k ≠ a := fun q => by
      subst q
      rw [if_pos rfl, zcl_tag] at hk
      rcases hk with hk | hk
      · omega
      · exact zcl_fr _ hk
    rw [if_neg hka] at hk
    rw [qUpF_n I f hka]
    exact hm.2.1 k hk
  · have hka : k ≠ a := fun q => by
      subst q
      rw [if_pos rfl] at hk
      exact zcl_fp _ hk
    rw [if_neg hka] at hk
    rw [qUpF_n I f hka]
    exact hm.2.2 k hk i hi
/-- the reference's rows lie where they were made, by the runner's cell -/
noncomputable def zRr (m n : Nat) : Bool := Nat.rec (motive := fun _ => Bool) true (fun j ih => bif ih then (bif Nat.beq (zn 0 wkRl j) 0 then true else Nat.beq (zraw m j) (Nat.succ (zn 0 wkRl j))) else false) n
theorem zRr_t {m : Nat} : ∀ {n : Nat}, zRr m n = true → ∀ j, j < n → zn 0 wkRl j ≠ 0 → zraw m j = zn 0 wkRl j + 1
  | 0, _, j, hj, _ => by omega
  | n + 1, h, j, hj, hz => by
    obtain ⟨h1, h2⟩ := zand (show (bif zRr m n then (bif Nat.beq (zn 0 wkRl n) 0 then true else Nat.beq (zraw m n) (Nat.succ (zn 0 wkRl n))) else false) = true from h)
    by_cases e : j = n
    · subst e
      rcases zelse h2 with ⟨q, -⟩ | q
      · exact absurd (Nat.eq_of_beq_eq_true q) hz
      · exact Nat.eq_of_beq_eq_true q
    · exact zRr_t h1 j (by omega) hz
theorem zn_getD {α : Type} (d : α) : ∀ (l : List α) (i : Nat), zn d l i = l.getD i d
  | [], i => by simp [zn_nil]
  | x :: l, 0 => rfl
  | x :: l, i + 1 => by rw [zn_s, zn_getD d l i]; simp
theorem wkRl_R : ∀ j, j < 65 → wkRl.getD j 0 ≠ 0 → qIsR (qTy 9 j) = true := by decide +kernel
theorem zRr_R {gh : zGh} {t : Nat} {A : zAm} {I : qMI} {L : qML} {R : qMR} (hm : zM gh t A I L R) (h : Nat.beq (ztag (zcell A 292)) 9 = true) (hr : zRr (zcell A 292) 65 = true) : wkR R := by
  obtain ⟨e, h1, h2, h3, h4⟩ := zM_at hm h (by omega)
  intro j hj
  have hj65 : j < 65 := by
    apply Nat.lt_of_not_le
    intro q
    apply hj
    rw [List.getD_eq_getElem?_getD, List.getElem?_eq_none (by exact q)]
    rfl
  have hz := zRr_t hr j hj65 (by rw [zn_getD]; exact hj)
  have h5 := (h4 j).2.2 (zkd_R (by omega) (wkRl_R j hj65 hj))
  rw [h5, hz, zn_getD]
  rfl
noncomputable def zLt (A : zAm) : zAm := zput (zuc A 322) 292 (zupd (zcf 9 47 (zcell (zuc A 322) 292)) 47 (Nat.xor 9223372043297226753 2147483648))
noncomputable def gs_X9_lawTells : zMt := fun as t A K => zp as (fun x as => zR x (fun o => bif Nat.beq o 292 then zpI as (fun k as => zpI as (fun _ as => zE as (
  bif Nat.beq t 336 then (bif zwi k 9223372043297226756 then (bif Nat.beq (ztag (zcell A 292)) 9 then (bif Nat.beq (ztag (zcell A 322)) 16 then (bif Nat.beq (Nat.xor (zraw (zcell A 322) 0) 2147483648) ztop then (bif zwi (Nat.xor (zraw (zcell A 292) 47) 2147483648) 9223372043297226753 then (bif zRr (zcell A 292) 65 then (bif zunk A zUN then (bif zunp A then K (some (.inl ztop)) 336 (zLt A) else false) else false) else false) else false) else false) else false) else false) else false) else false))) else false))
theorem cs_X9_lawTells {l : Launch} {G : qG} {gh : zGh} (d : Nat) (hG : zGood gh) : zC l G gh (d + 2) n_X9_lawTells gs_X9_lawTells := by
  intro as t A K hr as' I L R hs hm
  obtain ⟨x, as1, v, as2, rfl, a1, hs1, hr⟩ := zp_t hr hs
  obtain ⟨o, rfl, hr⟩ := zR_t hr a1
  obtain ⟨b1, hr⟩ := zand hr
  have eo := Nat.eq_of_beq_eq_true b1
  subst eo
  obtain ⟨k, as3, y, as4, rfl, f1, hs2, hr⟩ := zpI_t hr hs1
  obtain ⟨p, as5, z, as6, rfl, f2, hs3, hr⟩ := zpI_t hr hs2
  obtain ⟨rfl, hr⟩ := zE_t hr hs3
  obtain ⟨b2, hr2⟩ := zand hr
  have et := Nat.eq_of_beq_eq_true b2
  subst et
  obtain ⟨b3, hr3⟩ := zand hr2
  obtain ⟨b4, hr4⟩ := zand hr3
  obtain ⟨b5, hr5⟩ := zand hr4
  obtain ⟨b6, hr6⟩ := zand hr5
  obtain ⟨b7, hr7⟩ := zand hr6
  obtain ⟨b8, hr8⟩ := zand hr7
  obtain ⟨b9, hr9⟩ := zand hr8
  obtain ⟨b10, hr10⟩ := zand hr9
  have hk := zwi_t b3 f1
  have hk1 : 2147483648 ≤ zb y := hk.1
  have hk2 : zb y ≤ 2147483652 := hk.2
  have ey := zb_int y
  have hgd := zGood_ok gh I L R hG (fun x hx => hm.2.1 x (zunk_t b9 x hx)) (zunp_t b10 hm)
  have hR := zRr_R hm b4 b8
  obtain ⟨e9, -, -, -, e5⟩ := zM_at hm b4 (by omega)
  have h47 := zwi_t b7 ((e5 47).1 (zkd_I (by omega) rfl))
  refine qCall_mono (yLawTells (d := d) hR (k := y) (p := z) (by omega) (by omega) hgd) ?_
  intro r t' I' L' R' hq
  obtain ⟨rfl, rfl, w, rfl, rfl, hF⟩ := hq
  refine ⟨some (.inl ztop), zLt A, ⟨w, rfl, zin_top w⟩, ?_, hr10⟩
  have hm1 := zM_any (f := I' 322) (tg := 10) hm b5 (by omega) (by omega) b6
  have c292 : zcell (zuc A 322) 292 = zcell A 292 := by rw [zuc_cell, if_neg (by omega)]
  have hx : zin 9223372043297226753 (I' 292 47) := by
    rcases hF.2.2 with q | q | q
    · rw [q]; exact h47
    · rw [q]; exact ⟨by decide, by decide⟩
    · rw [q]; exact ⟨by decide, by decide⟩
  have hm2 := zM_setF (ci := 9) (j := 47) (c := 9223372043297226753) (x := I' 292 47) hm1 (by rw [c292]; exact e9) (zkd_I (by omega) rfl) (Nat.ble_eq_true_of_le (Nat.le_of_ble_eq_true rfl)) hx (by omega)
  have eI : I' = qUp (qUpF I 322 (I' 322)) 292 47 (I' 292 47) := by
    funext a j
    rw [qUp_at]
    by_cases h1 : a = 292 ∧ j = 47
    · obtain ⟨rfl, rfl⟩ := h1
      rw [if_pos ⟨rfl, rfl⟩]
    · rw [if_neg h1]
      by_cases h2 : a = 322
      · subst h2
        rw [qUpF_s]
      · rw [qUpF_n I _ h2]
        by_cases h3 : a = 292
        · subst h3
          exact hF.2.1 j (fun q => h1 ⟨rfl, q⟩)
        · rw [hF.1 a h2 h3]
  rw [eI]
  exact hm2
