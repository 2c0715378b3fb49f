/-! ===== the law's own rows ===== -/
section LW
variable {p : Program} {l : Launch} {e : Env} {s : State} {m : MethodId} {below : List Frame} {meth : Method} {c : Code} {b L : Nat} {xs : Nat → Int32} {G : qG} {ce sl t pc : Nat} {I : qMI} {L1 : qML} {R : qMR} {H : Heap} {locs : List Loc} {ls : Array Slot} {st : List Value}
def lC (p : Program) (s : State) (m : MethodId) (meth : Method) (c : Code) (b L : Nat) (xs : Nat → Int32) (G : qG) : Prop := lw_At p s m meth c b L xs ∧ G.1 = s.heap.size ∧ qCx G s ∧ qHx G s s.heap
theorem l_end (C : lC p s m meth c b L xs G) (hS : va_S (qA G) s.heap H locs) (hce : ce ≤ 600000) (hsl : sl ≤ 7302250) : W p l e room_1 s m #[Value.ref b] below meth c H locs ce sl (lw_Z below #[Value.ref b] s) (F0 m 1403 ls []) := by
  obtain ⟨⟨hx, hb, hr, hml, hown, hts, hX, hbl, hlocks, hgv⟩, hG, hC, hH⟩ := C
  refine lv_iconst (v := 1) hx hb (zd (c := code) (pc := 1403) (i := .iconst 1) (n := 1) (by decide +kernel)) (by decide) ?_
  refine va_forget (fun q hq => by rw [← hG]; exact hS.2.2 q hq) ?_
  refine W.widen hce hsl ?_
  exact lw_ret hx hb hr hlocks (zd (c := code) (pc := 1404) (i := .ireturn) (n := 1) (by decide +kernel))
theorem l_top {i : Int32} (C : lC p s m meth c b L xs G) (hS : va_S (qA G) s.heap H locs) (hce : ce ≤ 600000) (hsl : sl ≤ 7302250) (hl : lv_has ls 4 [(3, .int i), (2, .ref (G.1 + 292)), (1, .ref (G.1 + 0)), (0, .ref b)]) (kf : ¬ (Int32.ofNat L - 6 < i) → W p l e room_1 s m #[Value.ref b] below meth c H locs ce sl (lw_Z below #[Value.ref b] s) (F0 m 27 ls [])) : W p l e room_1 s m #[Value.ref b] below meth c H locs ce sl (lw_Z below #[Value.ref b] s) (F0 m 18 ls []) := by
  obtain ⟨⟨hx, hb, hr, hml, hown, hts, hX, hbl, hlocks, hgv⟩, hG, hC, hH⟩ := id C
  refine lv_iload_n hx hb (zd (c := code) (pc := 18) (i := .iload_n 3) (n := 1) (by decide +kernel)) rfl (lv_at hl 0 rfl) ?_
  refine lv_aload_n hx hb (zd (c := code) (pc := 19) (i := .aload_n 0) (n := 1) (by decide +kernel)) rfl (lv_at hl 3 rfl) ?_
  refine va_slen hx hb hX hbl (A := qA G) (by show ¬ G.1 ≤ b; omega) hS (zd (c := code) (pc := 20) (i := .arraylength) (n := 1) (by decide +kernel)) ?_
  refine lv_bipush (v := 6) hx hb (zd (c := code) (pc := 21) (i := .bipush 6) (n := 2) (by decide +kernel)) (by decide) ?_
  refine lv_isub hx hb (zd (c := code) (pc := 23) (i := .isub) (n := 1) (by decide +kernel)) ?_
  exact lv_icmp_gt hx hb (tgt := 1403) (zd (c := code) (pc := 24) (i := .if_icmp .gt 1379) (n := 3) (by decide +kernel)) (by decide) (fun _ => l_end C hS hce hsl) kf
theorem l_push {i : Int32} {j : Nat} {v : Int32} (C : lC p s m meth c b L xs G) (hS : va_S (qA G) s.heap H locs) (hl : lv_has ls 4 [(3, .int i), (2, .ref (G.1 + 292)), (1, .ref (G.1 + 0)), (0, .ref b)]) (hv : Int32.ofInt (j : Int) = v) (hin : vp_in (i + v) L) (d0 : decode code pc = .ok (.aload_n 0, 1)) (d1 : decode code (pc + 1) = .ok (.iload_n 3, 1)) (d2 : decode code (pc + 2) = .ok (.iconst (j : Int), 1)) (d3 : decode code (pc + 3) = .ok (.iadd, 1)) (d4 : decode code (pc + 4) = .ok (.iaload, 1))
    (kk : W p l e room_1 s m #[Value.ref b] below meth c H locs ce sl (lw_Z below #[Value.ref b] s) (F0 m (pc + 5) ls (.int (xs (i + v).toNatClampNeg) :: st))) : W p l e room_1 s m #[Value.ref b] below meth c H locs ce sl (lw_Z below #[Value.ref b] s) (F0 m pc ls st) := by
  obtain ⟨⟨hx, hb, hr, hml, hown, hts, hX, hbl, hlocks, hgv⟩, hG, hC, hH⟩ := id C
  refine lv_aload_n hx hb d0 rfl (lv_at hl 3 rfl) ?_
  refine lv_iload_n hx hb d1 rfl (lv_at hl 0 rfl) ?_
  refine lv_iconst hx hb d2 hv ?_
  refine lv_iadd hx hb d3 ?_
  exact va_sld hx hb hX hbl (A := qA G) (by show ¬ G.1 ≤ b; omega) hS hin d4 kk
theorem l_callV {idx k ci n : Nat} {N : qMn} {As : List Value} {Q1 : qQ} (C : lC p s m meth c b L xs G) (hd : decode code pc = .ok (.invokevirtual idx, 3)) (hN : qTo N n) (hlen : As.length = n) (h1 : Cond.methodLink "MirageLoansLaw" idx N.1 ∈ gw) (h2 : Cond.instanceMethod N.1 ∈ gw) (h3 : Cond.selects N.1.cls N.1 N.1 ∈ gw) (hk : k < t) (hs : (qSh k).1 = ci) (hc : ci < 10) (hcl : qC ci = N.1.cls) (hmc : N.2.2.2.2.1 = 0) (hms : N.2.2.2.2.2 = 0) (hcat : (st.map fun v => v.category).sum ≤ 8) (hce : ce ≤ 600000) (hsl : sl ≤ 7302250)
    (hq : qCall l G 26 N (.ref k :: As) t I L1 R Q1) (hz : H.size = G.1 + t) (hP : va_P (G.2.1, G.2.2.1) vwCl (qWd G t I L1 R) H) (hS : va_S (qA G) s.heap H locs) (hl : ls.size = 4)
    (kk : ∀ (r : Option Value) (t' : Nat) (I' : qMI) (L' : qML) (R' : qMR) (H1 : Heap) (locs1 : List Loc), Q1 r t' I' L' R' → H1.size = G.1 + t' → va_P (G.2.1, G.2.2.1) vwCl (qWd G t' I' L' R') H1 → va_S (qA G) s.heap H1 locs1 → W p l e room_1 s m #[Value.ref b] below meth c H1 locs1 ce sl (lw_Z below #[Value.ref b] s) (F0 m (pc + 3) ls ((r.map (qTv G)).toList ++ st))) :
    W p l e room_1 s m #[Value.ref b] below meth c H locs ce sl (lw_Z below #[Value.ref b] s) (F0 m pc ls ((As.map (qTv G)).reverse ++ .ref (G.1 + k) :: st)) := by
  obtain ⟨⟨hx, hb, hr, hml, hown, hts, hX, hbl, hlocks, hgv⟩, hG, hC, hH⟩ := id C
  obtain ⟨n1, n2, n3, n4⟩ := hN
  have htg : ∀ w ∈ gw, w.before #[Value.ref b] s = true := fun w hw => hts w (gw_tbl hw)
  have hGd : GoodIn gw (wsV "MirageLoansLaw" idx N.1.cls N.1 (.code N.1 N.2.1 N.2.2.1 N.2.2.2.1 :: gw)) := gw_goodApp (gw_goodOf (by
    intro w hw
    simp only [List.mem_cons, List.not_mem_nil, or_false] at hw
    rcases hw with rfl | rfl | rfl | rfl <;> assumption)) (gw_goodCons n1)
  have hpre : PreV s H N.1.cls (G.1 + k) (qPc G (.ref k :: As) t I L1 R) (As.map (qTv G)) := ⟨qPc_blind, qRecv hk hs hc hcl s H locs hC hH hP hS, fun U hU hW => ⟨by rw [List.map_cons]; rfl, qRep_end hU hW hC hH hz hP hS⟩⟩
  refine q_after (va_runV (As := As.map (qTv G)) (rest := st) (b := G.1 + k) ⟨hx, hb, hml, hown, htg⟩ hq (cwV n htg hGd rfl rfl rfl ⟨rfl, n3⟩ ⟨by show 26 + 1 ≤ 2048; omega, by show 8 + (N.2.2.1 + 11) + 64 * 26 ≤ 84000; omega⟩) hpre rfl (by rw [List.length_map]; exact hlen) hl rfl (lv_room hcat) hd ⟨by rw [hmc]; exact hce, by rw [hms]; exact hsl⟩) hS ?_
  intro r t' I' L' R' H1 locs1 hq1 hz1 hP1 hS1
  rw [hmc, hms]
  exact kk r t' I' L' R' H1 locs1 hq1 hz1 hP1 hS1
theorem l_callI {idx k : Nat} {y : MethodName} {cc : ByteArray} {nL mc ms : Nat} {Q1 : qQ} (C : lC p s m meth c b L xs G) (hd : decode code pc = .ok (.invokespecial idx, 3)) (hN : qTo (y, cc, nL, none, mc, ms) 0) (h1 : Cond.methodLink "MirageLoansLaw" idx y ∈ gw) (h2 : Cond.instanceMethod y ∈ gw) (hnm0 : y.name = "<init>") (hcat : (st.map fun v => v.category).sum ≤ 8) (hce : ce + mc ≤ 600000) (hsl : sl + ms ≤ 7302250)
    (hq : qCall l G 26 (y, cc, nL, none, mc, ms) [.ref k] t I L1 R Q1) (hz : H.size = G.1 + t) (hP : va_P (G.2.1, G.2.2.1) vwCl (qWd G t I L1 R) H) (hS : va_S (qA G) s.heap H locs) (hl : ls.size = 4)
    (kk : ∀ (r : Option Value) (t' : Nat) (I' : qMI) (L' : qML) (R' : qMR) (H1 : Heap) (locs1 : List Loc), Q1 r t' I' L' R' → H1.size = G.1 + t' → va_P (G.2.1, G.2.2.1) vwCl (qWd G t' I' L' R') H1 → va_S (qA G) s.heap H1 locs1 → W p l e room_1 s m #[Value.ref b] below meth c H1 locs1 (ce + mc) (sl + ms) (lw_Z below #[Value.ref b] s) (F0 m (pc + 3) ls ((r.map (qTv G)).toList ++ st))) :
    W p l e room_1 s m #[Value.ref b] below meth c H locs ce sl (lw_Z below #[Value.ref b] s) (F0 m pc ls (.ref (G.1 + k) :: st)) := by
  obtain ⟨⟨hx, hb, hr, hml, hown, hts, hX, hbl, hlocks, hgv⟩, hG, hC, hH⟩ := id C
  obtain ⟨n1, n2, n3, n4⟩ := hN
  have htg : ∀ w ∈ gw, w.before #[Value.ref b] s = true := fun w hw => hts w (gw_tbl hw)
  have hpre : PreS s H (qPc G [.ref k] t I L1 R) [.ref (G.1 + k)] := ⟨qPc_blind, fun U hU hW => ⟨rfl, qRep_end hU hW hC hH hz hP hS⟩⟩
  exact q_after (va_runI (As := []) (rest := st) (b := G.1 + k) ⟨hx, hb, hml, hown, htg⟩ hq (cwI 0 htg (gw_goodCons n1) rfl rfl rfl (htg _ n2) (htg _ h1) (htg _ h2) hnm0 n3 ⟨by show 26 + 1 ≤ 2048; omega, by have n4' : nL ≤ 45 := n4; show 8 + (nL + 11) + 64 * 26 ≤ 84000; omega⟩) hpre rfl rfl hl rfl (lv_room hcat) hd ⟨hce, hsl⟩) hS kk
theorem l_new {idx ci : Nat} (C : lC p s m meth c b L xs G) (hd : decode code pc = .ok (.new idx, 3)) (hc : ci < 10) (hs : (qSh t).1 = ci) (h1 : Cond.classLink "MirageLoansLaw" idx (qC ci) ∈ gw) (h3 : Cond.initialized (qC ci) ∈ gw) (hce : ce + 1 ≤ 600000) (hsl : sl + qNF ci ≤ 7302250) (hz : H.size = G.1 + t) (hP : va_P (G.2.1, G.2.2.1) vwCl (qWd G t I L1 R) H) (hS : va_S (qA G) s.heap H locs)
    (kk : ∀ H1 : Heap, H1.size = G.1 + (t + 1) → va_P (G.2.1, G.2.2.1) vwCl (qWd G (t + 1) (qUpF I t (fun _ => 0)) L1 (qUpRF R t (fun _ => none))) H1 → va_S (qA G) s.heap H1 locs → W p l e room_1 s m #[Value.ref b] below meth c H1 locs (ce + 1) (sl + qNF ci) (lw_Z below #[Value.ref b] s) (F0 m (pc + 3) ls (.ref (G.1 + t) :: st))) :
    W p l e room_1 s m #[Value.ref b] below meth c H locs ce sl (lw_Z below #[Value.ref b] s) (F0 m pc ls st) := by
  obtain ⟨⟨hx, hb, hr, hml, hown, hts, hX, hbl, hlocks, hgv⟩, hG, hC, hH⟩ := id C
  have htg : ∀ w ∈ gw, w.before #[Value.ref b] s = true := fun w hw => hts w (gw_tbl hw)
  have hKn := hC.1.1 ci _ (qCl hc)
  refine W.newcK hx hb hown (htg _ h1) (htg _ (zinst hc)) (htg _ h3) rfl hd hce hsl hKn.2.1 (h := G.1 + t) hz fun H1 kC hkC e1 z1 o1 => ?_
  rw [← hz] at o1
  refine kk H1 (by rw [z1]; omega) (q_grow hz hP o1 (fun j hj => ⟨qUpF_n I _ (Nat.ne_of_lt hj), rfl, qUpRF_n R _ (Nat.ne_of_lt hj)⟩) ?_) (q_growS hS (by rw [z1, hz]) o1)
  rw [qCell_obj hs hc]
  refine ⟨_, qCl hc, (u_born (qTy ci) htg (qLays hc) hKn hkC e1 (qTyOk hc)).to (fun j hj => ?_)⟩
  show defaultValue (qTy ci j) = vp_V (qFs G.1 (qUpF I t (fun _ => 0)) (qUpRF R t (fun _ => none)) ci t) j
  unfold vp_V
  rw [List.getD_eq_getElem?_getD, qFs_at hj, qDef hc j hj, qUpF_s, qUpRF_s]
  rfl
end LW
