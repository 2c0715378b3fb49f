/-! ===== a field against a constant, against 0; a local against a field ===== -/
section ZNF
variable {l : Launch} {G : qG} {gh : zGh} {d : Nat} {K : zKr} {M : qMn} {pc : Nat} {kt kf : zK}
def zFd (l : Launch) (G : qG) (gh : zGh) (d : Nat) (K : zKr) (M : qMn) (pc r ci j n : Nat) : Prop := ∀ (lv : qLv) (st : List Value) (a ce sl t : Nat) (I : qMI) (L : qML) (R : qMR), qLk r lv = some (.ref a) → a < t → (qSh a).1 = ci → qAb l G d M (zQ gh K) (pc + n) lv (.int (I a j) :: st) ce sl t I L R → qAb l G d M (zQ gh K) pc lv st ce sl t I L R
theorem zFd_n {n : Fin 4} {r ci j idx : Nat} (hd : decode M.2.1 pc = .ok (.aload_n n, 1)) (hi : (n : Nat) = r) (hd2 : decode M.2.1 (pc + 1) = .ok (.getfield idx, 3)) (hc : ci < 10) (hj : j < qNF ci) (hq : qIsR (qTy ci j) = false) (hw : Cond.fieldLink M.1.cls idx (qT ci j).1 (qT ci j).2.1 (qT ci j).2.2.1 ∈ gw) : zFd l G gh d K M pc r ci j 4 := by
  intro lv st a ce sl t I L R h1 h2 h3 k
  refine q_aload_n hd hi h1 rfl (q_getf hd2 h2 h3 hc hj hw ?_)
  rw [if_neg (by rw [hq]; decide)]
  exact k
noncomputable def oNLF (i r ci j : Nat) (yes no n1 m1 : Nat → Nat → Nat) (kt kf : zK) : zK := fun lv st ce sl t A => zI (zn zdum lv i) (fun a => zR (zn zdum lv r) (fun o => bif Nat.beq (ztag (zcell A o)) ci then zfork (Nat.beq (yes a (Nat.xor (zraw (zcell A o) j) 2147483648)) 1) (Nat.beq (no a (Nat.xor (zraw (zcell A o) j) 2147483648)) 1) (kt (zs zdum lv i (.inl (n1 a (Nat.xor (zraw (zcell A o) j) 2147483648)))) st ce sl t A) (kf (zs zdum lv i (.inl (m1 a (Nat.xor (zraw (zcell A o) j) 2147483648)))) st ce sl t A) else false))
theorem zRn {x : zX} {f : Nat → Bool} (h : zR x f = true) : x ≠ zdum := fun e => by subst e; cases h
theorem z_nLF_ge {i r ci j a1 a2 : Nat} {off : Int} {tgt : Nat} (hA : zLd l G gh d K M pc i a1) (hF : zFd l G gh d K M (pc + a1) r ci j a2) (hc : ci < 10) (hq : qIsR (qTy ci j) = false) (hd : decode M.2.1 (pc + a1 + a2) = .ok (.if_icmp .ge off, 3)) (ht : ((pc + a1 + a2 : Nat) : Int) + off = (tgt : Int)) (h1 : zS l G gh d K M tgt kt) (h2 : zS l G gh d K M (pc + a1 + a2 + 3) kf) : zS l G gh d K M pc (oNLF i r ci j zgeN zltN zn1_ge zn1_lt kt kf) := by
  intro lv st ce sl t A h lv' st' I L R hl hs hm
  obtain ⟨v, k0, z0⟩ := zgl_get hl (zI_nd h)
  obtain ⟨a, x, rfl, g4, h⟩ := zI_t h z0
  obtain ⟨w, k1, z1⟩ := zgl_get hl (zRn h)
  obtain ⟨o, rfl, h⟩ := zR_t h z1
  obtain ⟨b1, g6⟩ := zand h
  obtain ⟨f1, f2, f3, f4, f5⟩ := zM_at hm.1 b1 (by omega)
  have g1 := (f5 j).1 (zkd_I hc hq)
  obtain ⟨e1, e2⟩ := zfork_t g6 (fun h => zle_t (zgeN_t h) g1 g4) (fun h => fun hp => absurd (zlt_iff.mp (zlt_t (zltN_t h) g4 g1)) (by have := zle_iff.mp hp; omega))
  refine hA lv' st' x ce sl t I L R k0 (hF lv' _ o ce sl t I L R k1 f2 f3 ?_)
  exact q_icmp_ge hd ht (fun p => h1 _ _ ce sl t A (e1 p) lv' _ I L R (zgl_re hl k0 (zn_ge p g4 g1).1) hs hm) (fun p => h2 _ _ ce sl t A (e2 p) lv' _ I L R (zgl_re hl k0 (zn_lt (zlt_iff.mpr (Nat.lt_of_not_le (fun q => p (zle_iff.mpr q)))) g4 g1).1) hs hm)
end ZNF
