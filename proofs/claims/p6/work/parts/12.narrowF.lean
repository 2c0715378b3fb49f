/-! ===== a field against a constant, against 0; a local against a field ===== -/
theorem zM_re {gh : zGh} {t a ci j c : Nat} {A : zAm} {I : qMI} {L : qML} {R : qMR} (hm : zM gh t A I L R) (h : ztag (zcell A a) = ci) (hc : ci < 10) (hq : qIsR (qTy ci j) = false) (hb : Nat.ble c 18446744073709551615 = true) (hx : zin c (I a j)) : zM gh t (zput A a (zupd (zcell A a) j (Nat.xor c 2147483648))) I L R := by
  refine zM_set0 hm h (zmxx hb) ⟨h, rfl, fun _ => rfl⟩ (fun k i _ => ⟨rfl, rfl, rfl⟩) ⟨fun _ => ?_, fun q => ?_, fun q => ?_⟩ (by omega) (fun q => hm.2.1 a (Or.inr q)) (fun q => hm.2.2 a q)
  · rw [zxx]; exact hx
  · rw [zkd_I hc hq] at q; cases q
  · rw [zkd_I hc hq] at q; cases q
section ZNF
variable {l : Launch} {G : qG} {gh : zGh} {d : Nat} {K : zKr} {M : qMn} {pc : Nat} {kt kf : zK}
def zFd (l : Launch) (G : qG) (gh : zGh) (d : Nat) (K : zKr) (M : qMn) (pc r ci j n : Nat) : Prop := ∀ (lv : qLv) (st : List Value) (a ce sl t : Nat) (I : qMI) (L : qML) (R : qMR), qLk r lv = some (.ref a) → a < t → (qSh a).1 = ci → qAb l G d M (zQ gh K) (pc + n) lv (.int (I a j) :: st) ce sl t I L R → qAb l G d M (zQ gh K) pc lv st ce sl t I L R
theorem zFd_n {n : Fin 4} {r ci j idx : Nat} (hd : decode M.2.1 pc = .ok (.aload_n n, 1)) (hi : (n : Nat) = r) (hd2 : decode M.2.1 (pc + 1) = .ok (.getfield idx, 3)) (hc : ci < 10) (hj : j < qNF ci) (hq : qIsR (qTy ci j) = false) (hw : Cond.fieldLink M.1.cls idx (qT ci j).1 (qT ci j).2.1 (qT ci j).2.2.1 ∈ gw) : zFd l G gh d K M pc r ci j 4 := by
  intro lv st a ce sl t I L R h1 h2 h3 k
  refine q_aload_n hd hi h1 rfl (q_getf hd2 h2 h3 hc hj hw ?_)
  rw [if_neg (by rw [hq]; decide)]
  exact k
noncomputable def oNFC (r ci j c : Nat) (yes no n1 m1 : Nat → Nat → Nat) (kt kf : zK) : zK := fun lv st ce sl t A => zR (zn zdum lv r) (fun a => bif Nat.beq (ztag (zcell A a)) ci then (
  bif Nat.ble (n1 (Nat.xor (zraw (zcell A a) j) 2147483648) c) 18446744073709551615 then (bif Nat.ble (m1 (Nat.xor (zraw (zcell A a) j) 2147483648) c) 18446744073709551615 then
  zfork (Nat.beq (yes (Nat.xor (zraw (zcell A a) j) 2147483648) c) 1) (Nat.beq (no (Nat.xor (zraw (zcell A a) j) 2147483648) c) 1) (kt lv st ce sl t (zput A a (zupd (zcell A a) j (Nat.xor (n1 (Nat.xor (zraw (zcell A a) j) 2147483648) c) 2147483648)))) (kf lv st ce sl t (zput A a (zupd (zcell A a) j (Nat.xor (m1 (Nat.xor (zraw (zcell A a) j) 2147483648) c) 2147483648)))) else false) else false) else false)
noncomputable def oNLF (i r ci j : Nat) (yes no n1 m1 : Nat → Nat → Nat) (kt kf : zK) : zK := fun lv st ce sl t A => zI (zn zdum lv i) (fun a => zR (zn zdum lv r) (fun o => bif Nat.beq (ztag (zcell A o)) ci then zfork (Nat.beq (yes a (Nat.xor (zraw (zcell A o) j) 2147483648)) 1) (Nat.beq (no a (Nat.xor (zraw (zcell A o) j) 2147483648)) 1) (kt (zs zdum lv i (.inl (n1 a (Nat.xor (zraw (zcell A o) j) 2147483648)))) st ce sl t A) (kf (zs zdum lv i (.inl (m1 a (Nat.xor (zraw (zcell A o) j) 2147483648)))) st ce sl t A) else false))
theorem zRn {x : zX} {f : Nat → Bool} (h : zR x f = true) : x ≠ zdum := fun e => by subst e; cases h
theorem z_nFC_eq {r ci j a1 c0 a2 : Nat} {off : Int} {tgt : Nat} (hA : zFd l G gh d K M pc r ci j a1) (hc : ci < 10) (hq : qIsR (qTy ci j) = false) (hC : zCn l G gh d K M (pc + a1) c0 a2) (hd : decode M.2.1 (pc + a1 + a2) = .ok (.if_icmp .eq off, 3)) (ht : ((pc + a1 + a2 : Nat) : Int) + off = (tgt : Int)) (h1 : zS l G gh d K M tgt kt) (h2 : zS l G gh d K M (pc + a1 + a2 + 3) kf) : zS l G gh d K M pc (oNFC r ci j c0 zeqN zneN zn1_eq zn1_ne kt kf) := by
  intro lv st ce sl t A h lv' st' I L R hl hs hm
  obtain ⟨v, k1, z1⟩ := zgl_get hl (zRn h)
  obtain ⟨a, rfl, h⟩ := zR_t h z1
  obtain ⟨b1, h⟩ := zand h
  obtain ⟨b2, h⟩ := zand h
  obtain ⟨b3, g6⟩ := zand h
  obtain ⟨f1, f2, f3, f4, f5⟩ := zM_at hm.1 b1 (by omega)
  have g4 := (f5 j).1 (zkd_I hc hq)
  obtain ⟨y, hy, hC⟩ := hC
  have g1 : zin c0 y := zin_eq hy
  obtain ⟨e1, e2⟩ := zfork_t g6 (fun h => zeq_t (zeqN_t h) g4 g1) (fun h => zne_t (zneN_t h) g4 g1)
  refine hA lv' st' a ce sl t I L R k1 f2 f3 (hC lv' _ ce sl t I L R ?_)
  exact q_icmp_eq hd ht (fun p => h1 _ _ ce sl t _ (e1 p) lv' _ I L R hl hs ⟨zM_re hm.1 f1 hc hq b2 (zn_eq p g4 g1).1, hm.2⟩) (fun p => h2 _ _ ce sl t _ (e2 p) lv' _ I L R hl hs ⟨zM_re hm.1 f1 hc hq b3 (zn_ne p g4 g1).1, hm.2⟩)
theorem z_nF0_eq {r ci j a1 : Nat} {off : Int} {tgt : Nat} (hA : zFd l G gh d K M pc r ci j a1) (hc : ci < 10) (hq : qIsR (qTy ci j) = false) (hd : decode M.2.1 (pc + a1) = .ok (.ifCond .eq off, 3)) (ht : ((pc + a1 : Nat) : Int) + off = (tgt : Int)) (h1 : zS l G gh d K M tgt kt) (h2 : zS l G gh d K M (pc + a1 + 3) kf) : zS l G gh d K M pc (oNFC r ci j 2147483648 zeqN zneN zn1_eq zn1_ne kt kf) := by
  intro lv st ce sl t A h lv' st' I L R hl hs hm
  obtain ⟨v, k1, z1⟩ := zgl_get hl (zRn h)
  obtain ⟨a, rfl, h⟩ := zR_t h z1
  obtain ⟨b1, h⟩ := zand h
  obtain ⟨b2, h⟩ := zand h
  obtain ⟨b3, g6⟩ := zand h
  obtain ⟨f1, f2, f3, f4, f5⟩ := zM_at hm.1 b1 (by omega)
  have g4 := (f5 j).1 (zkd_I hc hq)
  obtain ⟨e1, e2⟩ := zfork_t g6 (fun h => zeq_t (zeqN_t h) g4 zin0) (fun h => zne_t (zneN_t h) g4 zin0)
  refine hA lv' st' a ce sl t I L R k1 f2 f3 ?_
  exact q_if_eq hd ht (fun p => h1 _ _ ce sl t _ (e1 p) lv' _ I L R hl hs ⟨zM_re hm.1 f1 hc hq b2 (zn_eq p g4 zin0).1, hm.2⟩) (fun p => h2 _ _ ce sl t _ (e2 p) lv' _ I L R hl hs ⟨zM_re hm.1 f1 hc hq b3 (zn_ne p g4 zin0).1, hm.2⟩)
theorem z_nLF_eq {i r ci j a1 a2 : Nat} {off : Int} {tgt : Nat} (hA : zLd l G gh d K M pc i a1) (hF : zFd l G gh d K M (pc + a1) r ci j a2) (hc : ci < 10) (hq : qIsR (qTy ci j) = false) (hd : decode M.2.1 (pc + a1 + a2) = .ok (.if_icmp .eq off, 3)) (ht : ((pc + a1 + a2 : Nat) : Int) + off = (tgt : Int)) (h1 : zS l G gh d K M tgt kt) (h2 : zS l G gh d K M (pc + a1 + a2 + 3) kf) : zS l G gh d K M pc (oNLF i r ci j zeqN zneN zn1_eq zn1_ne kt kf) := by
  intro lv st ce sl t A h lv' st' I L R hl hs hm
  obtain ⟨v, k0, z0⟩ := zgl_get hl (zI_nd h)
  obtain ⟨a, x, rfl, g4, h⟩ := zI_t h z0
  obtain ⟨w, k1, z1⟩ := zgl_get hl (zRn h)
  obtain ⟨o, rfl, h⟩ := zR_t h z1
  obtain ⟨b1, g6⟩ := zand h
  obtain ⟨f1, f2, f3, f4, f5⟩ := zM_at hm.1 b1 (by omega)
  have g1 := (f5 j).1 (zkd_I hc hq)
  obtain ⟨e1, e2⟩ := zfork_t g6 (fun h => zeq_t (zeqN_t h) g4 g1) (fun h => zne_t (zneN_t h) g4 g1)
  refine hA lv' st' x ce sl t I L R k0 (hF lv' _ o ce sl t I L R k1 f2 f3 ?_)
  exact q_icmp_eq hd ht (fun p => h1 _ _ ce sl t A (e1 p) lv' _ I L R (zgl_re hl k0 (zn_eq p g4 g1).1) hs hm) (fun p => h2 _ _ ce sl t A (e2 p) lv' _ I L R (zgl_re hl k0 (zn_ne p g4 g1).1) hs hm)
theorem z_nFC_ne {r ci j a1 c0 a2 : Nat} {off : Int} {tgt : Nat} (hA : zFd l G gh d K M pc r ci j a1) (hc : ci < 10) (hq : qIsR (qTy ci j) = false) (hC : zCn l G gh d K M (pc + a1) c0 a2) (hd : decode M.2.1 (pc + a1 + a2) = .ok (.if_icmp .ne off, 3)) (ht : ((pc + a1 + a2 : Nat) : Int) + off = (tgt : Int)) (h1 : zS l G gh d K M tgt kt) (h2 : zS l G gh d K M (pc + a1 + a2 + 3) kf) : zS l G gh d K M pc (oNFC r ci j c0 zneN zeqN zn1_ne zn1_eq kt kf) := by
  intro lv st ce sl t A h lv' st' I L R hl hs hm
  obtain ⟨v, k1, z1⟩ := zgl_get hl (zRn h)
  obtain ⟨a, rfl, h⟩ := zR_t h z1
  obtain ⟨b1, h⟩ := zand h
  obtain ⟨b2, h⟩ := zand h
  obtain ⟨b3, g6⟩ := zand h
  obtain ⟨f1, f2, f3, f4, f5⟩ := zM_at hm.1 b1 (by omega)
  have g4 := (f5 j).1 (zkd_I hc hq)
  obtain ⟨y, hy, hC⟩ := hC
  have g1 : zin c0 y := zin_eq hy
  obtain ⟨e1, e2⟩ := zfork_t g6 (fun h => zne_t (zneN_t h) g4 g1) (fun h => fun hp => hp (zeq_t (zeqN_t h) g4 g1))
  refine hA lv' st' a ce sl t I L R k1 f2 f3 (hC lv' _ ce sl t I L R ?_)
  exact q_icmp_ne hd ht (fun p => h1 _ _ ce sl t _ (e1 p) lv' _ I L R hl hs ⟨zM_re hm.1 f1 hc hq b2 (zn_ne p g4 g1).1, hm.2⟩) (fun p => h2 _ _ ce sl t _ (e2 (fun q => q p)) lv' _ I L R hl hs ⟨zM_re hm.1 f1 hc hq b3 (zn_eq p g4 g1).1, hm.2⟩)
theorem z_nF0_ne {r ci j a1 : Nat} {off : Int} {tgt : Nat} (hA : zFd l G gh d K M pc r ci j a1) (hc : ci < 10) (hq : qIsR (qTy ci j) = false) (hd : decode M.2.1 (pc + a1) = .ok (.ifCond .ne off, 3)) (ht : ((pc + a1 : Nat) : Int) + off = (tgt : Int)) (h1 : zS l G gh d K M tgt kt) (h2 : zS l G gh d K M (pc + a1 + 3) kf) : zS l G gh d K M pc (oNFC r ci j 2147483648 zneN zeqN zn1_ne zn1_eq kt kf) := by
  intro lv st ce sl t A h lv' st' I L R hl hs hm
  obtain ⟨v, k1, z1⟩ := zgl_get hl (zRn h)
  obtain ⟨a, rfl, h⟩ := zR_t h z1
  obtain ⟨b1, h⟩ := zand h
  obtain ⟨b2, h⟩ := zand h
  obtain ⟨b3, g6⟩ := zand h
  obtain ⟨f1, f2, f3, f4, f5⟩ := zM_at hm.1 b1 (by omega)
  have g4 := (f5 j).1 (zkd_I hc hq)
  obtain ⟨e1, e2⟩ := zfork_t g6 (fun h => zne_t (zneN_t h) g4 zin0) (fun h => fun hp => hp (zeq_t (zeqN_t h) g4 zin0))
  refine hA lv' st' a ce sl t I L R k1 f2 f3 ?_
  exact q_if_ne hd ht (fun p => h1 _ _ ce sl t _ (e1 p) lv' _ I L R hl hs ⟨zM_re hm.1 f1 hc hq b2 (zn_ne p g4 zin0).1, hm.2⟩) (fun p => h2 _ _ ce sl t _ (e2 (fun q => q p)) lv' _ I L R hl hs ⟨zM_re hm.1 f1 hc hq b3 (zn_eq p g4 zin0).1, hm.2⟩)
theorem z_nLF_ne {i r ci j a1 a2 : Nat} {off : Int} {tgt : Nat} (hA : zLd l G gh d K M pc i a1) (hF : zFd l G gh d K M (pc + a1) r ci j a2) (hc : ci < 10) (hq : qIsR (qTy ci j) = false) (hd : decode M.2.1 (pc + a1 + a2) = .ok (.if_icmp .ne off, 3)) (ht : ((pc + a1 + a2 : Nat) : Int) + off = (tgt : Int)) (h1 : zS l G gh d K M tgt kt) (h2 : zS l G gh d K M (pc + a1 + a2 + 3) kf) : zS l G gh d K M pc (oNLF i r ci j zneN zeqN zn1_ne zn1_eq kt kf) := by
  intro lv st ce sl t A h lv' st' I L R hl hs hm
  obtain ⟨v, k0, z0⟩ := zgl_get hl (zI_nd h)
  obtain ⟨a, x, rfl, g4, h⟩ := zI_t h z0
  obtain ⟨w, k1, z1⟩ := zgl_get hl (zRn h)
  obtain ⟨o, rfl, h⟩ := zR_t h z1
  obtain ⟨b1, g6⟩ := zand h
  obtain ⟨f1, f2, f3, f4, f5⟩ := zM_at hm.1 b1 (by omega)
  have g1 := (f5 j).1 (zkd_I hc hq)
  obtain ⟨e1, e2⟩ := zfork_t g6 (fun h => zne_t (zneN_t h) g4 g1) (fun h => fun hp => hp (zeq_t (zeqN_t h) g4 g1))
  refine hA lv' st' x ce sl t I L R k0 (hF lv' _ o ce sl t I L R k1 f2 f3 ?_)
  exact q_icmp_ne hd ht (fun p => h1 _ _ ce sl t A (e1 p) lv' _ I L R (zgl_re hl k0 (zn_ne p g4 g1).1) hs hm) (fun p => h2 _ _ ce sl t A (e2 (fun q => q p)) lv' _ I L R (zgl_re hl k0 (zn_eq p g4 g1).1) hs hm)
theorem z_nFC_lt {r ci j a1 c0 a2 : Nat} {off : Int} {tgt : Nat} (hA : zFd l G gh d K M pc r ci j a1) (hc : ci < 10) (hq : qIsR (qTy ci j) = false) (hC : zCn l G gh d K M (pc + a1) c0 a2) (hd : decode M.2.1 (pc + a1 + a2) = .ok (.if_icmp .lt off, 3)) (ht : ((pc + a1 + a2 : Nat) : Int) + off = (tgt : Int)) (h1 : zS l G gh d K M tgt kt) (h2 : zS l G gh d K M (pc + a1 + a2 + 3) kf) : zS l G gh d K M pc (oNFC r ci j c0 zltN zgeN zn1_lt zn1_ge kt kf) := by
  intro lv st ce sl t A h lv' st' I L R hl hs hm
  obtain ⟨v, k1, z1⟩ := zgl_get hl (zRn h)
  obtain ⟨a, rfl, h⟩ := zR_t h z1
  obtain ⟨b1, h⟩ := zand h
  obtain ⟨b2, h⟩ := zand h
  obtain ⟨b3, g6⟩ := zand h
  obtain ⟨f1, f2, f3, f4, f5⟩ := zM_at hm.1 b1 (by omega)
  have g4 := (f5 j).1 (zkd_I hc hq)
  obtain ⟨y, hy, hC⟩ := hC
  have g1 : zin c0 y := zin_eq hy
  obtain ⟨e1, e2⟩ := zfork_t g6 (fun h => zlt_t (zltN_t h) g4 g1) (fun h => fun hp => absurd (zle_iff.mp (zle_t (zgeN_t h) g1 g4)) (by have := zlt_iff.mp hp; omega))
  refine hA lv' st' a ce sl t I L R k1 f2 f3 (hC lv' _ ce sl t I L R ?_)
  exact q_icmp_lt hd ht (fun p => h1 _ _ ce sl t _ (e1 p) lv' _ I L R hl hs ⟨zM_re hm.1 f1 hc hq b2 (zn_lt p g4 g1).1, hm.2⟩) (fun p => h2 _ _ ce sl t _ (e2 p) lv' _ I L R hl hs ⟨zM_re hm.1 f1 hc hq b3 (zn_ge (zle_iff.mpr (Nat.le_of_not_lt (fun q => p (zlt_iff.mpr q)))) g4 g1).1, hm.2⟩)
theorem z_nF0_lt {r ci j a1 : Nat} {off : Int} {tgt : Nat} (hA : zFd l G gh d K M pc r ci j a1) (hc : ci < 10) (hq : qIsR (qTy ci j) = false) (hd : decode M.2.1 (pc + a1) = .ok (.ifCond .lt off, 3)) (ht : ((pc + a1 : Nat) : Int) + off = (tgt : Int)) (h1 : zS l G gh d K M tgt kt) (h2 : zS l G gh d K M (pc + a1 + 3) kf) : zS l G gh d K M pc (oNFC r ci j 2147483648 zltN zgeN zn1_lt zn1_ge kt kf) := by
  intro lv st ce sl t A h lv' st' I L R hl hs hm
  obtain ⟨v, k1, z1⟩ := zgl_get hl (zRn h)
  obtain ⟨a, rfl, h⟩ := zR_t h z1
  obtain ⟨b1, h⟩ := zand h
  obtain ⟨b2, h⟩ := zand h
  obtain ⟨b3, g6⟩ := zand h
  obtain ⟨f1, f2, f3, f4, f5⟩ := zM_at hm.1 b1 (by omega)
  have g4 := (f5 j).1 (zkd_I hc hq)
  obtain ⟨e1, e2⟩ := zfork_t g6 (fun h => zlt_t (zltN_t h) g4 zin0) (fun h => fun hp => absurd (zle_iff.mp (zle_t (zgeN_t h) zin0 g4)) (by have := zlt_iff.mp hp; omega))
  refine hA lv' st' a ce sl t I L R k1 f2 f3 ?_
  exact q_if_lt hd ht (fun p => h1 _ _ ce sl t _ (e1 p) lv' _ I L R hl hs ⟨zM_re hm.1 f1 hc hq b2 (zn_lt p g4 zin0).1, hm.2⟩) (fun p => h2 _ _ ce sl t _ (e2 p) lv' _ I L R hl hs ⟨zM_re hm.1 f1 hc hq b3 (zn_ge (zle_iff.mpr (Nat.le_of_not_lt (fun q => p (zlt_iff.mpr q)))) g4 zin0).1, hm.2⟩)
theorem z_nLF_lt {i r ci j a1 a2 : Nat} {off : Int} {tgt : Nat} (hA : zLd l G gh d K M pc i a1) (hF : zFd l G gh d K M (pc + a1) r ci j a2) (hc : ci < 10) (hq : qIsR (qTy ci j) = false) (hd : decode M.2.1 (pc + a1 + a2) = .ok (.if_icmp .lt off, 3)) (ht : ((pc + a1 + a2 : Nat) : Int) + off = (tgt : Int)) (h1 : zS l G gh d K M tgt kt) (h2 : zS l G gh d K M (pc + a1 + a2 + 3) kf) : zS l G gh d K M pc (oNLF i r ci j zltN zgeN zn1_lt zn1_ge kt kf) := by
  intro lv st ce sl t A h lv' st' I L R hl hs hm
  obtain ⟨v, k0, z0⟩ := zgl_get hl (zI_nd h)
  obtain ⟨a, x, rfl, g4, h⟩ := zI_t h z0
  obtain ⟨w, k1, z1⟩ := zgl_get hl (zRn h)
  obtain ⟨o, rfl, h⟩ := zR_t h z1
  obtain ⟨b1, g6⟩ := zand h
  obtain ⟨f1, f2, f3, f4, f5⟩ := zM_at hm.1 b1 (by omega)
  have g1 := (f5 j).1 (zkd_I hc hq)
  obtain ⟨e1, e2⟩ := zfork_t g6 (fun h => zlt_t (zltN_t h) g4 g1) (fun h => fun hp => absurd (zle_iff.mp (zle_t (zgeN_t h) g1 g4)) (by have := zlt_iff.mp hp; omega))
  refine hA lv' st' x ce sl t I L R k0 (hF lv' _ o ce sl t I L R k1 f2 f3 ?_)
  exact q_icmp_lt hd ht (fun p => h1 _ _ ce sl t A (e1 p) lv' _ I L R (zgl_re hl k0 (zn_lt p g4 g1).1) hs hm) (fun p => h2 _ _ ce sl t A (e2 p) lv' _ I L R (zgl_re hl k0 (zn_ge (zle_iff.mpr (Nat.le_of_not_lt (fun q => p (zlt_iff.mpr q)))) g4 g1).1) hs hm)
theorem z_nFC_ge {r ci j a1 c0 a2 : Nat} {off : Int} {tgt : Nat} (hA : zFd l G gh d K M pc r ci j a1) (hc : ci < 10) (hq : qIsR (qTy ci j) = false) (hC : zCn l G gh d K M (pc + a1) c0 a2) (hd : decode M.2.1 (pc + a1 + a2) = .ok (.if_icmp .ge off, 3)) (ht : ((pc + a1 + a2 : Nat) : Int) + off = (tgt : Int)) (h1 : zS l G gh d K M tgt kt) (h2 : zS l G gh d K M (pc + a1 + a2 + 3) kf) : zS l G gh d K M pc (oNFC r ci j c0 zgeN zltN zn1_ge zn1_lt kt kf) := by
  intro lv st ce sl t A h lv' st' I L R hl hs hm
  obtain ⟨v, k1, z1⟩ := zgl_get hl (zRn h)
  obtain ⟨a, rfl, h⟩ := zR_t h z1
  obtain ⟨b1, h⟩ := zand h
  obtain ⟨b2, h⟩ := zand h
  obtain ⟨b3, g6⟩ := zand h
  obtain ⟨f1, f2, f3, f4, f5⟩ := zM_at hm.1 b1 (by omega)
  have g4 := (f5 j).1 (zkd_I hc hq)
  obtain ⟨y, hy, hC⟩ := hC
  have g1 : zin c0 y := zin_eq hy
  obtain ⟨e1, e2⟩ := zfork_t g6 (fun h => zle_t (zgeN_t h) g1 g4) (fun h => fun hp => absurd (zlt_iff.mp (zlt_t (zltN_t h) g4 g1)) (by have := zle_iff.mp hp; omega))
  refine hA lv' st' a ce sl t I L R k1 f2 f3 (hC lv' _ ce sl t I L R ?_)
  exact q_icmp_ge hd ht (fun p => h1 _ _ ce sl t _ (e1 p) lv' _ I L R hl hs ⟨zM_re hm.1 f1 hc hq b2 (zn_ge p g4 g1).1, hm.2⟩) (fun p => h2 _ _ ce sl t _ (e2 p) lv' _ I L R hl hs ⟨zM_re hm.1 f1 hc hq b3 (zn_lt (zlt_iff.mpr (Nat.lt_of_not_le (fun q => p (zle_iff.mpr q)))) g4 g1).1, hm.2⟩)
theorem z_nF0_ge {r ci j a1 : Nat} {off : Int} {tgt : Nat} (hA : zFd l G gh d K M pc r ci j a1) (hc : ci < 10) (hq : qIsR (qTy ci j) = false) (hd : decode M.2.1 (pc + a1) = .ok (.ifCond .ge off, 3)) (ht : ((pc + a1 : Nat) : Int) + off = (tgt : Int)) (h1 : zS l G gh d K M tgt kt) (h2 : zS l G gh d K M (pc + a1 + 3) kf) : zS l G gh d K M pc (oNFC r ci j 2147483648 zgeN zltN zn1_ge zn1_lt kt kf) := by
  intro lv st ce sl t A h lv' st' I L R hl hs hm
  obtain ⟨v, k1, z1⟩ := zgl_get hl (zRn h)
  obtain ⟨a, rfl, h⟩ := zR_t h z1
  obtain ⟨b1, h⟩ := zand h
  obtain ⟨b2, h⟩ := zand h
  obtain ⟨b3, g6⟩ := zand h
  obtain ⟨f1, f2, f3, f4, f5⟩ := zM_at hm.1 b1 (by omega)
  have g4 := (f5 j).1 (zkd_I hc hq)
  obtain ⟨e1, e2⟩ := zfork_t g6 (fun h => zle_t (zgeN_t h) zin0 g4) (fun h => fun hp => absurd (zlt_iff.mp (zlt_t (zltN_t h) g4 zin0)) (by have := zle_iff.mp hp; omega))
  refine hA lv' st' a ce sl t I L R k1 f2 f3 ?_
  exact q_if_ge hd ht (fun p => h1 _ _ ce sl t _ (e1 p) lv' _ I L R hl hs ⟨zM_re hm.1 f1 hc hq b2 (zn_ge p g4 zin0).1, hm.2⟩) (fun p => h2 _ _ ce sl t _ (e2 p) lv' _ I L R hl hs ⟨zM_re hm.1 f1 hc hq b3 (zn_lt (zlt_iff.mpr (Nat.lt_of_not_le (fun q => p (zle_iff.mpr q)))) g4 zin0).1, hm.2⟩)
theorem z_nLF_ge {i r ci j a1 a2 : Nat} {off : Int} {tgt : Nat} (hA : zLd l G gh d K M pc i a1) (hF : zFd l G gh d K M (pc + a1) r ci j a2) (hc : ci < 10) (hq : qIsR (qTy ci j) = false) (hd : decode M.2.1 (pc + a1 + a2) = .ok (.if_icmp .ge off, 3)) (ht : ((pc + a1 + a2 : Nat) : Int) + off = (tgt : Int)) (h1 : zS l G gh d K M tgt kt) (h2 : zS l G gh d K M (pc + a1 + a2 + 3) kf) : zS l G gh d K M pc (oNLF i r ci j zgeN zltN zn1_ge zn1_lt kt kf) := by
  intro lv st ce sl t A h lv' st' I L R hl hs hm
  obtain ⟨v, k0, z0⟩ := zgl_get hl (zI_nd h)
  obtain ⟨a, x, rfl, g4, h⟩ := zI_t h z0
  obtain ⟨w, k1, z1⟩ := zgl_get hl (zRn h)
  obtain ⟨o, rfl, h⟩ := zR_t h z1
  obtain ⟨b1, g6⟩ := zand h
  obtain ⟨f1, f2, f3, f4, f5⟩ := zM_at hm.1 b1 (by omega)
  have g1 := (f5 j).1 (zkd_I hc hq)
  obtain ⟨e1, e2⟩ := zfork_t g6 (fun h => zle_t (zgeN_t h) g1 g4) (fun h => fun hp => absurd (zlt_iff.mp (zlt_t (zltN_t h) g4 g1)) (by have := zle_iff.mp hp; omega))
  refine hA lv' st' x ce sl t I L R k0 (hF lv' _ o ce sl t I L R k1 f2 f3 ?_)
  exact q_icmp_ge hd ht (fun p => h1 _ _ ce sl t A (e1 p) lv' _ I L R (zgl_re hl k0 (zn_ge p g4 g1).1) hs hm) (fun p => h2 _ _ ce sl t A (e2 p) lv' _ I L R (zgl_re hl k0 (zn_lt (zlt_iff.mpr (Nat.lt_of_not_le (fun q => p (zle_iff.mpr q)))) g4 g1).1) hs hm)
theorem z_nFC_gt {r ci j a1 c0 a2 : Nat} {off : Int} {tgt : Nat} (hA : zFd l G gh d K M pc r ci j a1) (hc : ci < 10) (hq : qIsR (qTy ci j) = false) (hC : zCn l G gh d K M (pc + a1) c0 a2) (hd : decode M.2.1 (pc + a1 + a2) = .ok (.if_icmp .gt off, 3)) (ht : ((pc + a1 + a2 : Nat) : Int) + off = (tgt : Int)) (h1 : zS l G gh d K M tgt kt) (h2 : zS l G gh d K M (pc + a1 + a2 + 3) kf) : zS l G gh d K M pc (oNFC r ci j c0 zgtN zleN zn1_gt zn1_le kt kf) := by
  intro lv st ce sl t A h lv' st' I L R hl hs hm
  obtain ⟨v, k1, z1⟩ := zgl_get hl (zRn h)
  obtain ⟨a, rfl, h⟩ := zR_t h z1
  obtain ⟨b1, h⟩ := zand h
  obtain ⟨b2, h⟩ := zand h
  obtain ⟨b3, g6⟩ := zand h
  obtain ⟨f1, f2, f3, f4, f5⟩ := zM_at hm.1 b1 (by omega)
  have g4 := (f5 j).1 (zkd_I hc hq)
  obtain ⟨y, hy, hC⟩ := hC
  have g1 : zin c0 y := zin_eq hy
  obtain ⟨e1, e2⟩ := zfork_t g6 (fun h => zlt_t (zgtN_t h) g1 g4) (fun h => fun hp => absurd (zle_iff.mp (zle_t (zleN_t h) g4 g1)) (by have := zlt_iff.mp hp; omega))
  refine hA lv' st' a ce sl t I L R k1 f2 f3 (hC lv' _ ce sl t I L R ?_)
  exact q_icmp_gt hd ht (fun p => h1 _ _ ce sl t _ (e1 p) lv' _ I L R hl hs ⟨zM_re hm.1 f1 hc hq b2 (zn_gt p g4 g1).1, hm.2⟩) (fun p => h2 _ _ ce sl t _ (e2 p) lv' _ I L R hl hs ⟨zM_re hm.1 f1 hc hq b3 (zn_le (zle_iff.mpr (Nat.le_of_not_lt (fun q => p (zlt_iff.mpr q)))) g4 g1).1, hm.2⟩)
theorem z_nF0_gt {r ci j a1 : Nat} {off : Int} {tgt : Nat} (hA : zFd l G gh d K M pc r ci j a1) (hc : ci < 10) (hq : qIsR (qTy ci j) = false) (hd : decode M.2.1 (pc + a1) = .ok (.ifCond .gt off, 3)) (ht : ((pc + a1 : Nat) : Int) + off = (tgt : Int)) (h1 : zS l G gh d K M tgt kt) (h2 : zS l G gh d K M (pc + a1 + 3) kf) : zS l G gh d K M pc (oNFC r ci j 2147483648 zgtN zleN zn1_gt zn1_le kt kf) := by
  intro lv st ce sl t A h lv' st' I L R hl hs hm
  obtain ⟨v, k1, z1⟩ := zgl_get hl (zRn h)
  obtain ⟨a, rfl, h⟩ := zR_t h z1
  obtain ⟨b1, h⟩ := zand h
  obtain ⟨b2, h⟩ := zand h
  obtain ⟨b3, g6⟩ := zand h
  obtain ⟨f1, f2, f3, f4, f5⟩ := zM_at hm.1 b1 (by omega)
  have g4 := (f5 j).1 (zkd_I hc hq)
  obtain ⟨e1, e2⟩ := zfork_t g6 (fun h => zlt_t (zgtN_t h) zin0 g4) (fun h => fun hp => absurd (zle_iff.mp (zle_t (zleN_t h) g4 zin0)) (by have := zlt_iff.mp hp; omega))
  refine hA lv' st' a ce sl t I L R k1 f2 f3 ?_
  exact q_if_gt hd ht (fun p => h1 _ _ ce sl t _ (e1 p) lv' _ I L R hl hs ⟨zM_re hm.1 f1 hc hq b2 (zn_gt p g4 zin0).1, hm.2⟩) (fun p => h2 _ _ ce sl t _ (e2 p) lv' _ I L R hl hs ⟨zM_re hm.1 f1 hc hq b3 (zn_le (zle_iff.mpr (Nat.le_of_not_lt (fun q => p (zlt_iff.mpr q)))) g4 zin0).1, hm.2⟩)
theorem z_nLF_gt {i r ci j a1 a2 : Nat} {off : Int} {tgt : Nat} (hA : zLd l G gh d K M pc i a1) (hF : zFd l G gh d K M (pc + a1) r ci j a2) (hc : ci < 10) (hq : qIsR (qTy ci j) = false) (hd : decode M.2.1 (pc + a1 + a2) = .ok (.if_icmp .gt off, 3)) (ht : ((pc + a1 + a2 : Nat) : Int) + off = (tgt : Int)) (h1 : zS l G gh d K M tgt kt) (h2 : zS l G gh d K M (pc + a1 + a2 + 3) kf) : zS l G gh d K M pc (oNLF i r ci j zgtN zleN zn1_gt zn1_le kt kf) := by
  intro lv st ce sl t A h lv' st' I L R hl hs hm
  obtain ⟨v, k0, z0⟩ := zgl_get hl (zI_nd h)
  obtain ⟨a, x, rfl, g4, h⟩ := zI_t h z0
  obtain ⟨w, k1, z1⟩ := zgl_get hl (zRn h)
  obtain ⟨o, rfl, h⟩ := zR_t h z1
  obtain ⟨b1, g6⟩ := zand h
  obtain ⟨f1, f2, f3, f4, f5⟩ := zM_at hm.1 b1 (by omega)
  have g1 := (f5 j).1 (zkd_I hc hq)
  obtain ⟨e1, e2⟩ := zfork_t g6 (fun h => zlt_t (zgtN_t h) g1 g4) (fun h => fun hp => absurd (zle_iff.mp (zle_t (zleN_t h) g4 g1)) (by have := zlt_iff.mp hp; omega))
  refine hA lv' st' x ce sl t I L R k0 (hF lv' _ o ce sl t I L R k1 f2 f3 ?_)
  exact q_icmp_gt hd ht (fun p => h1 _ _ ce sl t A (e1 p) lv' _ I L R (zgl_re hl k0 (zn_gt p g4 g1).1) hs hm) (fun p => h2 _ _ ce sl t A (e2 p) lv' _ I L R (zgl_re hl k0 (zn_le (zle_iff.mpr (Nat.le_of_not_lt (fun q => p (zlt_iff.mpr q)))) g4 g1).1) hs hm)
theorem z_nFC_le {r ci j a1 c0 a2 : Nat} {off : Int} {tgt : Nat} (hA : zFd l G gh d K M pc r ci j a1) (hc : ci < 10) (hq : qIsR (qTy ci j) = false) (hC : zCn l G gh d K M (pc + a1) c0 a2) (hd : decode M.2.1 (pc + a1 + a2) = .ok (.if_icmp .le off, 3)) (ht : ((pc + a1 + a2 : Nat) : Int) + off = (tgt : Int)) (h1 : zS l G gh d K M tgt kt) (h2 : zS l G gh d K M (pc + a1 + a2 + 3) kf) : zS l G gh d K M pc (oNFC r ci j c0 zleN zgtN zn1_le zn1_gt kt kf) := by
  intro lv st ce sl t A h lv' st' I L R hl hs hm
  obtain ⟨v, k1, z1⟩ := zgl_get hl (zRn h)
  obtain ⟨a, rfl, h⟩ := zR_t h z1
  obtain ⟨b1, h⟩ := zand h
  obtain ⟨b2, h⟩ := zand h
  obtain ⟨b3, g6⟩ := zand h
  obtain ⟨f1, f2, f3, f4, f5⟩ := zM_at hm.1 b1 (by omega)
  have g4 := (f5 j).1 (zkd_I hc hq)
  obtain ⟨y, hy, hC⟩ := hC
  have g1 : zin c0 y := zin_eq hy
  obtain ⟨e1, e2⟩ := zfork_t g6 (fun h => zle_t (zleN_t h) g4 g1) (fun h => fun hp => absurd (zlt_iff.mp (zlt_t (zgtN_t h) g1 g4)) (by have := zle_iff.mp hp; omega))
  refine hA lv' st' a ce sl t I L R k1 f2 f3 (hC lv' _ ce sl t I L R ?_)
  exact q_icmp_le hd ht (fun p => h1 _ _ ce sl t _ (e1 p) lv' _ I L R hl hs ⟨zM_re hm.1 f1 hc hq b2 (zn_le p g4 g1).1, hm.2⟩) (fun p => h2 _ _ ce sl t _ (e2 p) lv' _ I L R hl hs ⟨zM_re hm.1 f1 hc hq b3 (zn_gt (zlt_iff.mpr (Nat.lt_of_not_le (fun q => p (zle_iff.mpr q)))) g4 g1).1, hm.2⟩)
theorem z_nF0_le {r ci j a1 : Nat} {off : Int} {tgt : Nat} (hA : zFd l G gh d K M pc r ci j a1) (hc : ci < 10) (hq : qIsR (qTy ci j) = false) (hd : decode M.2.1 (pc + a1) = .ok (.ifCond .le off, 3)) (ht : ((pc + a1 : Nat) : Int) + off = (tgt : Int)) (h1 : zS l G gh d K M tgt kt) (h2 : zS l G gh d K M (pc + a1 + 3) kf) : zS l G gh d K M pc (oNFC r ci j 2147483648 zleN zgtN zn1_le zn1_gt kt kf) := by
  intro lv st ce sl t A h lv' st' I L R hl hs hm
  obtain ⟨v, k1, z1⟩ := zgl_get hl (zRn h)
  obtain ⟨a, rfl, h⟩ := zR_t h z1
  obtain ⟨b1, h⟩ := zand h
  obtain ⟨b2, h⟩ := zand h
  obtain ⟨b3, g6⟩ := zand h
  obtain ⟨f1, f2, f3, f4, f5⟩ := zM_at hm.1 b1 (by omega)
  have g4 := (f5 j).1 (zkd_I hc hq)
  obtain ⟨e1, e2⟩ := zfork_t g6 (fun h => zle_t (zleN_t h) g4 zin0) (fun h => fun hp => absurd (zlt_iff.mp (zlt_t (zgtN_t h) zin0 g4)) (by have := zle_iff.mp hp; omega))
  refine hA lv' st' a ce sl t I L R k1 f2 f3 ?_
  exact q_if_le hd ht (fun p => h1 _ _ ce sl t _ (e1 p) lv' _ I L R hl hs ⟨zM_re hm.1 f1 hc hq b2 (zn_le p g4 zin0).1, hm.2⟩) (fun p => h2 _ _ ce sl t _ (e2 p) lv' _ I L R hl hs ⟨zM_re hm.1 f1 hc hq b3 (zn_gt (zlt_iff.mpr (Nat.lt_of_not_le (fun q => p (zle_iff.mpr q)))) g4 zin0).1, hm.2⟩)
theorem z_nLF_le {i r ci j a1 a2 : Nat} {off : Int} {tgt : Nat} (hA : zLd l G gh d K M pc i a1) (hF : zFd l G gh d K M (pc + a1) r ci j a2) (hc : ci < 10) (hq : qIsR (qTy ci j) = false) (hd : decode M.2.1 (pc + a1 + a2) = .ok (.if_icmp .le off, 3)) (ht : ((pc + a1 + a2 : Nat) : Int) + off = (tgt : Int)) (h1 : zS l G gh d K M tgt kt) (h2 : zS l G gh d K M (pc + a1 + a2 + 3) kf) : zS l G gh d K M pc (oNLF i r ci j zleN zgtN zn1_le zn1_gt kt kf) := by
  intro lv st ce sl t A h lv' st' I L R hl hs hm
  obtain ⟨v, k0, z0⟩ := zgl_get hl (zI_nd h)
  obtain ⟨a, x, rfl, g4, h⟩ := zI_t h z0
  obtain ⟨w, k1, z1⟩ := zgl_get hl (zRn h)
  obtain ⟨o, rfl, h⟩ := zR_t h z1
  obtain ⟨b1, g6⟩ := zand h
  obtain ⟨f1, f2, f3, f4, f5⟩ := zM_at hm.1 b1 (by omega)
  have g1 := (f5 j).1 (zkd_I hc hq)
  obtain ⟨e1, e2⟩ := zfork_t g6 (fun h => zle_t (zleN_t h) g4 g1) (fun h => fun hp => absurd (zlt_iff.mp (zlt_t (zgtN_t h) g1 g4)) (by have := zle_iff.mp hp; omega))
  refine hA lv' st' x ce sl t I L R k0 (hF lv' _ o ce sl t I L R k1 f2 f3 ?_)
  exact q_icmp_le hd ht (fun p => h1 _ _ ce sl t A (e1 p) lv' _ I L R (zgl_re hl k0 (zn_le p g4 g1).1) hs hm) (fun p => h2 _ _ ce sl t A (e2 p) lv' _ I L R (zgl_re hl k0 (zn_gt (zlt_iff.mpr (Nat.lt_of_not_le (fun q => p (zle_iff.mpr q)))) g4 g1).1) hs hm)
end ZNF
