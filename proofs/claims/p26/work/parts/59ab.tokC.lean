/-! ===== the class's tokens ===== -/
theorem bb_callT {l : Launch} {G : qG} {d : Nat} {M : qMn} {Q : qQ} {pc : Nat} {vs st : List Value} {I : qMI} {L : qML} {R : qMR} {idx : Nat} {b : UInt32} {N : qMn} {As : List Value} {P : Option Value → qMI → qML → qMR → Prop} (hd : decode M.2.1 pc = .ok (.invokevirtual idx, 3)) (hN : qTo N As.length) (h1 : Cond.methodLink M.1.cls idx N.1 ∈ gw) (h2 : Cond.instanceMethod N.1 ∈ gw) (h3 : Cond.selects N.1.cls N.1 N.1 ∈ gw) (hcat : qCat st ≤ 8) (hb : b.toNat < 2) (hcl : N.1.cls = "java/lang/String") (hmc : N.2.2.2.2.1 = 0) (hms : N.2.2.2.2.2 = 0)
    (hc : wkC l G d N (.float b :: As) I L R P) (kk : ∀ r I' L' R', P r I' L' R' → wkB l G (d + 1) M Q (pc + 3) vs (r.toList ++ st) I' L' R') : wkB l G (d + 1) M Q pc vs (As.reverse ++ .float b :: st) I L R := by
  intro lv hl
  refine q_callV (N := N) (As := As) (b := .float b) (a := G.2.2.2.2.1 b.toNat) hd hN h1 h2 h3 hcat (by rw [hmc]; exact Nat.zero_le _) (by rw [hms]; exact Nat.zero_le _) (by rw [qTv_float, if_pos hb]) (qRecvS hb hcl) hc ?_
  intro r t' I' L' R' hq
  obtain ⟨rfl, hq⟩ := hq
  rw [hmc, hms]
  exact kk r I' L' R' hq lv hl
