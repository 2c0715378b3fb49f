/-! ===== the reference's expressions: the loop ===== -/
def yPush (w : Int32) (I : qMI) : qMI := qUp (qUp I 320 (I 292 44).toNatClampNeg w) 292 44 (I 292 44 + 1)
theorem yPush_f {w : Int32} {I : qMI} {j : Nat} (h : j ≠ 44) : yPush w I 292 j = I 292 j := by unfold yPush; rw [qUp_ne (fun q => h q.2), qUp_ne (fun q => by omega)]
theorem yPush_44 {w : Int32} {I : qMI} : yPush w I 292 44 = I 292 44 + 1 := by unfold yPush; rw [qUp_at, if_pos ⟨rfl, rfl⟩]
theorem yPush_o {w : Int32} {I : qMI} {k : Nat} (h1 : k ≠ 292) (h2 : k ≠ 320) : yPush w I k = I k := funext fun i => by unfold yPush; rw [qUp_ne (fun q => h1 q.1), qUp_ne (fun q => h2 q.1)]
theorem yPush_w {w : Int32} {I : qMI} {i : Nat} : yPush w I 320 i = if i = (I 292 44).toNatClampNeg then w else I 320 i := by
  unfold yPush
  rw [qUp_ne (fun q => by omega), qUp_at]
  simp
theorem yPush_eq {w : Int32} {I : qMI} : qUp (qUp I 320 (I 292 44).toNatClampNeg w) 292 44 ((qUp I 320 (I 292 44).toNatClampNeg w) 292 44 + 1) = yPush w I := by
  rw [qUp_ne (I := I) (by omega)]
  rfl
theorem yE_push {sb c0 : Nat} {w : Int32} {I : qMI} : yE sb c0 I (yPush w I) := yE_tr yE_w (yE_f (j := 44) (by omega))
section
variable {l : Launch} {G : qG} {d : Nat} {I0 : qMI} {L : qML} {R : qMR} {sb c0 base : Nat}
theorem yW_push {w : Int32} {I : qMI} {ws : List Int32} (h : yW (I 320) ws) (h4 : (I 292 44).toInt = ws.length) : yW (yPush w I 320) (w :: ws) := by
  have e : (I 292 44).toNatClampNeg = ws.length := by rw [tcn, h4]; rfl
  refine ⟨by rw [yPush_w, if_pos e.symm], yW_congr (fun i hi => ?_) h⟩
  rw [yPush_w, if_neg (by omega)]
/-- one more is opened -/
theorem yX_open {I I3 : qMI} {ws : List Int32} {n : Nat} (h : yX sb c0 base I0 I ws n 0) (hb : base + yOpn ws ≤ 6) (hb0 : I 292 13 = 0 → base + yOpn ws ≤ 5) (g : yN (qUp I 292 12 (I 292 12 + 1)) I3) : yX sb c0 base I0 (yPush 6 I3) (6 :: ws) n 0 := by
  have hlen := yX_len h
  obtain ⟨h1, h2, ⟨h3, h4, h5⟩, ⟨h6, h7, h8⟩, ⟨h9, h10, h11⟩, h12, h13, h14⟩ := h
  obtain ⟨g1, g2⟩ := g
  have o : ∀ k, k ≠ 292 → I3 k = I k := fun k a => (g1.1.1 k a).trans (funext fun i => qUp_ne (fun q => a q.1))
  have f : ∀ j, j ≠ 11 → j ≠ 12 → j ≠ 13 → j ≠ 14 → j ≠ 15 → j ≠ 16 → I3 292 j = I 292 j := fun j a b c d e f => (g1.1.2 j a c d e f).trans (qUp_ne (fun q => b q.2))
  have f12 : I3 292 12 = I 292 12 + 1 := (g1.1.2 12 (by decide) (by decide) (by decide) (by decide) (by decide)).trans (by rw [qUp_at, if_pos ⟨rfl, rfl⟩])
  have e13 : (qUp I 292 12 (I 292 12 + 1)) 292 13 = I 292 13 := qUp_ne (by omega)
  have e11 : (qUp I 292 12 (I 292 12 + 1)) 292 11 = I 292 11 := qUp_ne (by omega)
  have f0 : I3 292 13 = 0 → I 292 13 = 0 := fun q => by rw [← e13]; exact yS_f0 g1 q
  have t3 := g1.2.2.1
  rw [e11] at t3
  have f44 := f 44 (by decide) (by decide) (by decide) (by decide) (by decide) (by decide)
  have f40 := f 40 (by decide) (by decide) (by decide) (by decide) (by decide) (by decide)
  have p13 : yPush 6 I3 292 13 = I3 292 13 := yPush_f (by decide)
  have p11 : yPush 6 I3 292 11 = I3 292 11 := yPush_f (by decide)
  refine ⟨yE_tr h1 (yE_tr (yE_f (j := 12) (by omega)) (yE_tr (yE_t g1.1) yE_push)), ?_, ⟨?_, ?_, ⟨Or.inl rfl, h5⟩⟩, ⟨?_, ?_, fun q => ?_⟩, ⟨?_, fun q => ?_, ?_⟩, fun q => ?_, ?_, ?_⟩
  · unfold yOk; rw [p11, p13]; exact g1.2.1
  · exact yW_push (by rw [o 320 (by decide)]; exact h3) (by rw [f44]; exact h4)
  · rw [yPush_44, f44, i_s (by omega), h4, List.length_cons]; omega
  · rw [yPush_f (by decide), f12, i_s (by omega), h6, yOpn_6]; omega
  · rw [yOpn_6]; omega
  · rw [yOpn_6]
    have := hb0 (f0 (by rw [← p13]; exact q))
    omega
  · rw [yPush_f (by decide), f40]; exact h9
  · rw [yOps_6, p11]
    have := h10 (f0 (by rw [← p13]; exact q))
    omega
  · rw [yOps_6]; exact h11
  · rw [yPush_o (by decide) (by decide), yPush_o (by decide) (by decide), o 318 (by decide), o 319 (by decide), yOps_6]
    exact h12 (f0 (by rw [← p13]; exact q))
  · rw [p11]; omega
  · intro q
    rw [p13]
    exact g1.2.2.2 (by rw [e13]; exact h14 q)
/-- an operator waits -/
theorem yX_push {I I2 : qMI} {ws : List Int32} {n : Nat} {w : Int32} (h : yX sb c0 base I0 I ws n 1) (hf : I 292 13 = 0) (hw : w ≠ 6) (hok : yOkw (w :: ws)) (g : yN (yPush w I) I2) : yX sb c0 base I0 I2 (w :: ws) n 0 := by
  have hlen := yX_len h
  obtain ⟨h1, h2, ⟨h3, h4, h5⟩, ⟨h6, h7, h8⟩, ⟨h9, h10, h11⟩, h12, h13, h14⟩ := h
  obtain ⟨g1, g2⟩ := g
  have f : ∀ j, j ≠ 11 → j ≠ 13 → j ≠ 14 → j ≠ 15 → j ≠ 16 → I2 292 j = yPush w I 292 j := g1.1.2
  have o : ∀ k, k ≠ 292 → I2 k = yPush w I k := g1.1.1
  have p11 : yPush w I 292 11 = I 292 11 := yPush_f (by decide)
  have t3 := g1.2.2.1
  rw [p11] at t3
  have b0 := h10 hf
  have t4 := h2.1.2
  refine ⟨yE_tr h1 (yE_tr yE_push (yE_t g1.1)), g1.2.1, ⟨?_, ?_, hok⟩, ⟨?_, by rw [yOpn_c hw]; exact h7, fun _ => by rw [yOpn_c hw]; exact h8 hf⟩, ⟨?_, fun q => ?_, by rw [yOps_c hw]; omega⟩, fun q => ?_, by omega, fun q => absurd hf (h14 q)⟩
  · rw [o 320 (by decide)]; exact yW_push h3 h4
  · rw [f 44 (by decide) (by decide) (by decide) (by decide) (by decide), yPush_44, i_s (by omega), h4, List.length_cons]; omega
  · rw [f 12 (by decide) (by decide) (by decide) (by decide) (by decide), yPush_f (by decide), yOpn_c hw]; exact h6
  · rw [f 40 (by decide) (by decide) (by decide) (by decide) (by decide), yPush_f (by decide)]; exact h9
  · have := g2 q
    rw [p11] at this
    rw [yOps_c hw]
    omega
  · rw [o 318 (by decide), o 319 (by decide), yPush_o (by decide) (by decide), yPush_o (by decide) (by decide), yOps_c hw]
    exact h12 hf
/-- one is closed -/
theorem yX_close {I : qMI} {ws : List Int32} {n : Nat} (h : yX sb c0 base I0 I (6 :: ws) n 1) : yX sb c0 base I0 (qUp (qUp I 292 44 (I 292 44 - 1)) 292 12 (I 292 12 - 1)) ws n 1 := by
  obtain ⟨h1, h2, ⟨h3, h4, h5⟩, ⟨h6, h7, h8⟩, ⟨h9, h10, h11⟩, h12, h13, h14⟩ := h
  rw [yOpn_6] at h6 h7 h8
  rw [yOps_6] at h10 h11 h12
  rw [List.length_cons] at h4
  have f : ∀ j, j ≠ 12 → j ≠ 44 → (qUp (qUp I 292 44 (I 292 44 - 1)) 292 12 (I 292 12 - 1)) 292 j = I 292 j := fun j a b => by rw [qUp_ne (fun q => a q.2), qUp_ne (fun q => b q.2)]
  have o : ∀ k, k ≠ 292 → (qUp (qUp I 292 44 (I 292 44 - 1)) 292 12 (I 292 12 - 1)) k = I k := fun k a => funext fun i => by rw [qUp_ne (fun q => a q.1), qUp_ne (fun q => a q.1)]
  have f11 := f 11 (by decide) (by decide)
  have f13 := f 13 (by decide) (by decide)
  refine ⟨yE_tr h1 (yE_tr (yE_f (j := 44) (by omega)) (yE_f (j := 12) (by omega))), ?_, ⟨?_, ?_, h5.2⟩, ⟨?_, by omega, fun q => ?_⟩, ⟨?_, fun q => ?_, h11⟩, fun q => ?_, ?_, ?_⟩
  · unfold yOk; rw [f11, f13]; exact h2
  · rw [o 320 (by decide)]; exact h3.2
  · rw [qUp_ne (fun q => by omega), qUp_at, if_pos ⟨rfl, rfl⟩, i_p' (by omega), h4]; omega
  · rw [qUp_at, if_pos ⟨rfl, rfl⟩, i_p' (by omega), h6]; omega
  · have := h8 (by rw [← f13]; exact q); omega
  · rw [f 40 (by decide) (by decide)]; exact h9
  · rw [f11]; exact h10 (by rw [← f13]; exact q)
  · rw [o 318 (by decide), o 319 (by decide)]; exact h12 (by rw [← f13]; exact q)
  · rw [f11]; exact h13
  · rw [f13]; exact h14
/-- behind an expression -/
def yXP (sb c0 base : Nat) (I0 I' : qMI) : Prop := ∃ ws n fl, yX sb c0 base I0 I' ws n fl ∧ (I' 292 13 = 0 → ws = [] ∧ fl = 1 ∧ (I0 292 11).toInt < (I' 292 11).toInt)
theorem yGp_nil : ∀ {ws : List Int32}, yGp ws → yOpn ws = 0 → ws = []
  | [], _, _ => rfl
  | w :: r, h, q => by
    have hw : w = 6 := h
    subst hw
    rw [yOpn_6] at q
    omega
end
