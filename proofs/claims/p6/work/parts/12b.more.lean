/-! ===== a field against a field, against an array's length; a field's values one by one ===== -/
theorem zmkc_ble {lo z : Nat} (hl : lo < 4294967295) (hz : z < 4294967296) : Nat.ble (zmkc lo z) 18446744073709551615 = true := by
  unfold zmkc
  cases hb : Nat.beq lo z with
  | true => rw [cond_true]; exact Nat.ble_eq_true_of_le (by omega)
  | false =>
    rw [cond_false, zadd_e, show Nat.mul (Nat.succ lo) 4294967296 = (lo + 1) * 4294967296 from rfl]
    exact Nat.ble_eq_true_of_le (by omega)
section ZNG
variable {l : Launch} {G : qG} {gh : zGh} {d : Nat} {K : zKr} {M : qMn} {pc : Nat} {k kt kf : zK}
noncomputable def oNFF (r ci j r2 ci2 j2 : Nat) (yes no n1 m1 : Nat → Nat → Nat) (kt kf : zK) : zK := fun lv st ce sl t A => zR (zn zdum lv r2) (fun o => bif Nat.beq (ztag (zcell A o)) ci2 then oNFC r ci j (Nat.xor (zraw (zcell A o) j2) 2147483648) yes no n1 m1 kt kf lv st ce sl t A else false)
theorem z_nFF_ge {r ci j a1 r2 ci2 j2 a2 : Nat} {off : Int} {tgt : Nat} (hA : zFd l G gh d K M pc r ci j a1) (hc : ci < 10) (hq : qIsR (qTy ci j) = false) (hB : zFd l G gh d K M (pc + a1) r2 ci2 j2 a2) (hc2 : ci2 < 10) (hq2 : qIsR (qTy ci2 j2) = false) (hd : decode M.2.1 (pc + a1 + a2) = .ok (.if_icmp .ge off, 3)) (ht : ((pc + a1 + a2 : Nat) : Int) + off = (tgt : Int)) (h1 : zS l G gh d K M tgt kt) (h2 : zS l G gh d K M (pc + a1 + a2 + 3) kf) : zS l G gh d K M pc (oNFF r ci j r2 ci2 j2 zgeN zltN zn1_ge zn1_lt kt kf) := by
  intro lv st ce sl t A h lv' st' I L R hl hs hm
  obtain ⟨v2, k2, z2⟩ := zgl_get hl (zRn h)
  obtain ⟨o, rfl, h⟩ := zR_t h z2
  obtain ⟨b0, h⟩ := zand h
  obtain ⟨u1, u2, u3, u4, u5⟩ := zM_at hm.1 b0 (by omega)
  have g1 := (u5 j2).1 (zkd_I hc2 hq2)
  obtain ⟨v, k1, z1⟩ := zgl_get hl (zRn h)
  obtain ⟨a, rfl, h⟩ := zR_t h z1
  obtain ⟨b1, h⟩ := zand h
  obtain ⟨b2, h⟩ := zand h
  obtain ⟨b3, g6⟩ := zand h
  obtain ⟨f1, f2, f3, f4, f5⟩ := zM_at hm.1 b1 (by omega)
  have g4 := (f5 j).1 (zkd_I hc hq)
  obtain ⟨e1, e2⟩ := zfork_t g6 (fun h => zle_t (zgeN_t h) g1 g4) (fun h => Int32.not_le.mpr (zlt_t (zltN_t h) g4 g1))
  refine hA lv' st' a ce sl t I L R k1 f2 f3 (hB lv' _ o ce sl t I L R k2 u2 u3 ?_)
  exact q_icmp_ge hd ht (fun p => h1 _ _ ce sl t _ (e1 p) lv' _ I L R hl hs ⟨zM_re hm.1 f1 hc hq b2 (zn_ge p g4 g1).1, hm.2⟩) (fun p => h2 _ _ ce sl t _ (e2 p) lv' _ I L R hl hs ⟨zM_re hm.1 f1 hc hq b3 (zn_lt (Int32.not_le.mp p) g4 g1).1, hm.2⟩)
noncomputable def oNFA (r ci j r2 ci2 j2 : Nat) (yes no n1 m1 : Nat → Nat → Nat) (kt kf : zK) : zK := fun lv st ce sl t A => zR (zn zdum lv r2) (fun o => bif Nat.beq (ztag (zcell A o)) ci2 then zR (zrv (zraw (zcell A o) j2)) (fun ar => bif Nat.beq (ztag (zcell A ar)) 19 then oNFC r ci j (Nat.add (zlen (zcell A ar)) 2147483648) yes no n1 m1 kt kf lv st ce sl t A else false) else false)
theorem z_nFA_ge {r ci j a1 r2 ci2 j2 idx2 : Nat} {n2 : Fin 4} {off : Int} {tgt : Nat} (hA : zFd l G gh d K M pc r ci j a1) (hc : ci < 10) (hq : qIsR (qTy ci j) = false) (hd1 : decode M.2.1 (pc + a1) = .ok (.aload_n n2, 1)) (hi2 : (n2 : Nat) = r2) (hd2 : decode M.2.1 (pc + a1 + 1) = .ok (.getfield idx2, 3)) (hc2 : ci2 < 10) (hj2 : j2 < qNF ci2) (hq2 : qIsR (qTy ci2 j2) = true) (hw2 : Cond.fieldLink M.1.cls idx2 (qT ci2 j2).1 (qT ci2 j2).2.1 (qT ci2 j2).2.2.1 ∈ gw) (hd3 : decode M.2.1 (pc + a1 + 1 + 3) = .ok (.arraylength, 1)) (hd : decode M.2.1 (pc + a1 + 1 + 3 + 1) = .ok (.if_icmp .ge off, 3)) (ht : ((pc + a1 + 1 + 3 + 1 : Nat) : Int) + off = (tgt : Int)) (h1 : zS l G gh d K M tgt kt) (h2 : zS l G gh d K M (pc + a1 + 1 + 3 + 1 + 3) kf) : zS l G gh d K M pc (oNFA r ci j r2 ci2 j2 zgeN zltN zn1_ge zn1_lt kt kf) := by
  intro lv st ce sl t A h lv' st' I L R hl hs hm
  obtain ⟨v2, k2, z2⟩ := zgl_get hl (zRn h)
  obtain ⟨o, rfl, h⟩ := zR_t h z2
  obtain ⟨b0, h⟩ := zand h
  obtain ⟨u1, u2, u3, u4, u5⟩ := zM_at hm.1 b0 (by omega)
  obtain ⟨ar, ha, h⟩ := zR_t h (zrv_t _)
  have hr : R o j2 = zdr (zraw (zcell A o) j2) := (u5 j2).2.2 (zkd_R hc2 hq2)
  obtain ⟨c0, h⟩ := zand h
  obtain ⟨y1, y2, y3, -⟩ := zM_u (tg := 13) hm.1 c0 (by omega) (by omega)
  obtain ⟨v, k1, z1⟩ := zgl_get hl (zRn h)
  obtain ⟨a, rfl, h⟩ := zR_t h z1
  obtain ⟨b1, h⟩ := zand h
  obtain ⟨b2, h⟩ := zand h
  obtain ⟨b3, g6⟩ := zand h
  obtain ⟨f1, f2, f3, f4, f5⟩ := zM_at hm.1 b1 (by omega)
  have g4 := (f5 j).1 (zkd_I hc hq)
  have hl4 : zlen (zcell A ar) < 4096 := Nat.mod_lt _ (by decide)
  have g1 : zin (Nat.add (zlen (zcell A ar)) 2147483648) (nI (qSh ar).2) := zin_eq (by rw [y3]; exact zb_nI hl4)
  obtain ⟨e1, e2⟩ := zfork_t g6 (fun h => zle_t (zgeN_t h) g1 g4) (fun h => Int32.not_le.mpr (zlt_t (zltN_t h) g4 g1))
  refine hA lv' st' a ce sl t I L R k1 f2 f3 (q_aload_n hd1 hi2 k2 rfl (q_getf hd2 u2 u3 hc2 hj2 hw2 ?_))
  rw [if_pos hq2, hr, ha]
  refine q_alen hd3 y1 (by omega) (by omega) ?_
  exact q_icmp_ge hd ht (fun p => h1 _ _ ce sl t _ (e1 p) lv' _ I L R hl hs ⟨zM_re hm.1 f1 hc hq b2 (zn_ge p g4 g1).1, hm.2⟩) (fun p => h2 _ _ ce sl t _ (e2 p) lv' _ I L R hl hs ⟨zM_re hm.1 f1 hc hq b3 (zn_lt (Int32.not_le.mp p) g4 g1).1, hm.2⟩)
/-- all values from lo on, so many -/
noncomputable def zup (lo n : Nat) (f : Nat → Bool) : Bool := Nat.rec (motive := fun _ => Bool) true (fun k ih => bif ih then f (Nat.add lo k) else false) n
theorem zup_t {lo : Nat} {f : Nat → Bool} : ∀ {n : Nat}, zup lo n f = true → ∀ v, lo ≤ v → v < lo + n → f v = true
  | 0, _, v, h1, h2 => by omega
  | n + 1, h, v, h1, h2 => by
    obtain ⟨g1, g2⟩ := zand (show (bif zup lo n f then f (Nat.add lo n) else false) = true from h)
    by_cases e : v = lo + n
    · subst e; exact g2
    · exact zup_t g1 v h1 (by omega)
noncomputable def oSpF (r ci j n : Nat) (k : zK) : zK := fun lv st ce sl t A => zR (zn zdum lv r) (fun a => bif Nat.beq (ztag (zcell A a)) ci then (bif Nat.ble (Nat.succ (zhi (Nat.xor (zraw (zcell A a) j) 2147483648))) (Nat.add (zlo (Nat.xor (zraw (zcell A a) j) 2147483648)) n) then zup (zlo (Nat.xor (zraw (zcell A a) j) 2147483648)) n (fun v => k lv st ce sl t (zput A a (zupd (zcell A a) j (Nat.xor v 2147483648)))) else false) else false)
theorem z_spF {r ci j n : Nat} (hc : ci < 10) (hq : qIsR (qTy ci j) = false) (hk : zS l G gh d K M pc k) : zS l G gh d K M pc (oSpF r ci j n k) := by
  intro lv st ce sl t A h lv' st' I L R hl hs hm
  obtain ⟨v, k1, z1⟩ := zgl_get hl (zRn h)
  obtain ⟨a, rfl, h⟩ := zR_t h z1
  obtain ⟨b1, h⟩ := zand h
  obtain ⟨b2, h⟩ := zand h
  obtain ⟨f1, f2, f3, f4, f5⟩ := zM_at hm.1 b1 (by omega)
  have g4 := (f5 j).1 (zkd_I hc hq)
  have e2 := Nat.le_of_ble_eq_true b2
  rw [zadd_e] at e2
  have hv := zup_t h (zb (I a j)) g4.1 (by have := g4.2; omega)
  exact hk lv st ce sl t _ hv lv' st' I L R hl hs ⟨zM_re hm.1 f1 hc hq (Nat.ble_eq_true_of_le (by have := zb_lt (I a j); omega)) (zin_b _), hm.2⟩
/-- a field below a number, or not: both ways one by one -/
noncomputable def oNFC_ (r ci j c : Nat) (k : zK) : zK := oNFC r ci j c zltN zgeN zn1_lt zn1_ge k k
theorem z_spC {r ci j c0 : Nat} (hc : ci < 10) (hq : qIsR (qTy ci j) = false) (y : Int32) (hy : zb y = c0) (hk : zS l G gh d K M pc k) : zS l G gh d K M pc (oNFC_ r ci j c0 k) := by
  intro lv st ce sl t A h lv' st' I L R hl hs hm
  obtain ⟨v, k1, z1⟩ := zgl_get hl (zRn h)
  obtain ⟨a, rfl, h⟩ := zR_t h z1
  obtain ⟨b1, h⟩ := zand h
  obtain ⟨b2, h⟩ := zand h
  obtain ⟨b3, g6⟩ := zand h
  obtain ⟨f1, f2, f3, f4, f5⟩ := zM_at hm.1 b1 (by omega)
  have g4 := (f5 j).1 (zkd_I hc hq)
  have g1 : zin c0 y := zin_eq hy
  obtain ⟨e1, e2⟩ := zfork_t g6 (fun h => zlt_t (zltN_t h) g4 g1) (fun h => Int32.not_lt.mpr (zle_t (zgeN_t h) g1 g4))
  by_cases p : I a j < y
  · exact hk _ _ ce sl t _ (e1 p) lv' _ I L R hl hs ⟨zM_re hm.1 f1 hc hq b2 (zn_lt p g4 g1).1, hm.2⟩
  · exact hk _ _ ce sl t _ (e2 p) lv' _ I L R hl hs ⟨zM_re hm.1 f1 hc hq b3 (zn_ge (Int32.not_lt.mp p) g4 g1).1, hm.2⟩
end ZNG
