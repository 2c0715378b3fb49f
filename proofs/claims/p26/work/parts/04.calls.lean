section QC
variable {l : Launch} {G : qG} {d : Nat} {M : qMn} {Q : qQ} {pc : Nat} {lv : qLv} {st : List Value} {ce sl t : Nat} {I : qMI} {L : qML} {R : qMR}
/-! ends -/
theorem qRep_end {s t' : State} {H : Heap} {locs : List Loc} (ht : t'.heap = H) (hW : s.WarmedH t'.vm) (hC : qCx G s) (hH : qHx G s s.heap) (hz : H.size = G.1 + t) (hP : va_P (G.2.1, G.2.2.1) vwCl (qWd G t I L R) H) (hS : va_S (qA G) s.heap H locs) : qRep G t I L R t' :=
  ⟨by rw [ht]; exact hz, by rw [ht]; exact hP, qCx.warm hW hC, by rw [ht]; exact qHx.moved hW.alike (qHx.kept hS.2.1 hH)⟩
theorem q_iret {x : Int32} {ty : FieldType} (hd : decode M.2.1 pc = .ok (.ireturn, 1)) (hty : M.2.2.2.1 = some ty) (hn : narrow ty (.int x) = .int x) (hce : ce ≤ M.2.2.2.2.1) (hsl : sl ≤ M.2.2.2.2.2) (hQ : Q (some (.int x)) t I L R) : qAb l G d M Q pc lv [.int x] ce sl t I L R := by
  intro p e s m args below meth c C H locs ls hz hP hS hl
  obtain ⟨hx, hb, hr, hlk, hml, hown, hts, hC, hH, hB, hnm⟩ := id C
  refine W.widen hce hsl ?_
  exact W.zret hx hb (hr.trans hty) hn (fun t' ht hW => ⟨⟨some (.int x), t, I, L, R, rfl, hQ, qRep_end ht hW hC hH hz hP hS⟩, hS.F ht⟩) hS.2.2 hd hlk
theorem q_lret {x : Int64} (hd : decode M.2.1 pc = .ok (.lreturn, 1)) (hty : M.2.2.2.1 = some .long) (hce : ce ≤ M.2.2.2.2.1) (hsl : sl ≤ M.2.2.2.2.2) (hQ : Q (some (.long x)) t I L R) : qAb l G d M Q pc lv [.long x] ce sl t I L R := by
  intro p e s m args below meth c C H locs ls hz hP hS hl
  obtain ⟨hx, hb, hr, hlk, hml, hown, hts, hC, hH, hB, hnm⟩ := id C
  refine W.widen hce hsl ?_
  exact W.lret hx hb (hr.trans hty) (fun t' ht hW => ⟨⟨some (.long x), t, I, L, R, rfl, hQ, qRep_end ht hW hC hH hz hP hS⟩, hS.F ht⟩) hS.2.2 hd hlk
theorem q_vret (hd : decode M.2.1 pc = .ok (.return_, 1)) (hty : M.2.2.2.1 = none) (hce : ce ≤ M.2.2.2.2.1) (hsl : sl ≤ M.2.2.2.2.2) (hQ : Q none t I L R) : qAb l G d M Q pc lv [] ce sl t I L R := by
  intro p e s m args below meth c C H locs ls hz hP hS hl
  obtain ⟨hx, hb, hr, hlk, hml, hown, hts, hC, hH, hB, hnm⟩ := id C
  refine W.widen hce hsl ?_
  exact W.vret hx hb (hr.trans hty) (fun t' ht hW => ⟨⟨none, t, I, L, R, rfl, hQ, qRep_end ht hW hC hH hz hP hS⟩, hS.F ht⟩) hS.2.2 hd hlk
theorem q_aret {k : Nat} {n : String} (hd : decode M.2.1 pc = .ok (.areturn, 1)) (hty : M.2.2.2.1 = some (.object n)) (hce : ce ≤ M.2.2.2.2.1) (hsl : sl ≤ M.2.2.2.2.2) (hQ : Q (some (.ref k)) t I L R) : qAb l G d M Q pc lv [.ref k] ce sl t I L R := by
  intro p e s m args below meth c C H locs ls hz hP hS hl
  obtain ⟨hx, hb, hr, hlk, hml, hown, hts, hC, hH, hB, hnm⟩ := id C
  refine W.widen hce hsl ?_
  exact W.aret hx hb (hr.trans hty) (Or.inl ⟨n, rfl⟩) (Or.inr ⟨_, rfl⟩) (fun t' ht hW => ⟨⟨some (.ref k), t, I, L, R, rfl, hQ, qRep_end ht hW hC hH hz hP hS⟩, hS.F ht⟩) hS.2.2 hd hlk
/-! calls -/
def qCat (st : List Value) : Nat := (st.map fun v => v.category).sum
theorem qCat_map (st : List Value) : ((st.map (qTv G)).map fun v => v.category).sum = qCat st := by
  unfold qCat
  rw [List.map_map]
  congr 1
  apply List.map_congr_left
  intro v _
  exact qTv_cat G v
theorem q_after {p : Program} {e : Env} {R0 : Room} {s : State} {m : MethodId} {args a : Array Value} {below : List Frame} {meth : Method} {c : Code} {H : Heap} {locs : List Loc} {mc ms : Nat} {ls : Array Slot} {st0 rest : List Value} {Q1 : qQ} {Qw : State → Prop}
    (hr : va_Run p l e R0 s m args below meth c H locs ce sl mc ms (F0 m pc ls st0) rest (qQc G Q1 a) (qA G)) (hS : va_S (qA G) s.heap H locs)
    (kk : ∀ (r : Option Value) (t' : Nat) (I' : qMI) (L' : qML) (R' : qMR) (H1 : Heap) (locs1 : List Loc), Q1 r t' I' L' R' → H1.size = G.1 + t' → va_P (G.2.1, G.2.2.1) vwCl (qWd G t' I' L' R') H1 → va_S (qA G) s.heap H1 locs1 → W p l e R0 s m args below meth c H1 locs1 (ce + mc) (sl + ms) Qw (F0 m (pc + 3) ls ((r.map (qTv G)).toList ++ rest))) :
    W p l e R0 s m args below meth c H locs ce sl Qw (F0 m pc ls st0) := by
  intro T hT X
  obtain ⟨v, st₀, t, T', L, h0, X', hL, e1, e2, ⟨⟨r, t', I', L', R', hv, hq, hz1, hP1, -, -⟩, hz, hk⟩, st⟩ := hr T hT X
  cases hv
  rw [h0] at hz hk
  obtain ⟨t2, a1, b1⟩ := kk r t' I' L' R' T'.heap (locs ++ L) hq (by rw [e1]; exact hz1) (by rw [e1]; exact hP1)
    ⟨Nat.le_trans hS.1 (by rw [e1]; exact hz), fun q h1 h2 => by rw [e1, hk q (Nat.lt_of_lt_of_le h1 hS.1) h2]; exact hS.2.1 q h1 h2, fun q hq => by
      rcases List.mem_append.mp hq with h | h
      · exact hS.2.2 q h
      · exact hL q h⟩ T' rfl X'
  exact ⟨t2, st t2 a1, b1⟩
theorem qRet_app (r : Option Value) (st : List Value) : (r.map (qTv G)).toList ++ st.map (qTv G) = (r.toList ++ st).map (qTv G) := by cases r <;> rfl
/-- what a call of N wants of the tables, whatever its kind -/
def qTo (N : qMn) (n : Nat) : Prop := Cond.code N.1 N.2.1 N.2.2.1 N.2.2.2.1 ∈ gw ∧ Cond.initialized N.1.cls ∈ gw ∧ (N.1.cls ≠ "java/lang/invoke/MethodHandle" ∧ N.1.cls ≠ "java/lang/invoke/VarHandle" ∧ (parseMethodDescriptor N.1.desc).map (fun d => d.parameters.length) = some n) ∧ N.2.2.1 ≤ 45
theorem qRm_ok {N : qMn} {mc ms : Nat} (h : N.2.2.1 ≤ 45) : (qRm d N.2.2.2.2.1 N.2.2.2.2.2).frames + 1 ≤ (qRm (d + 1) mc ms).frames ∧ 8 + (N.2.2.1 + 11) + (qRm d N.2.2.2.2.1 N.2.2.2.2.2).locals ≤ (qRm (d + 1) mc ms).locals := by
  refine ⟨Nat.le_refl _, ?_⟩
  show 8 + (N.2.2.1 + 11) + 64 * d ≤ 64 * (d + 1)
  omega
theorem q_callV {idx a : Nat} {N : qMn} {b : Value} {As : List Value} {Q1 : qQ} (hd : decode M.2.1 pc = .ok (.invokevirtual idx, 3)) (hN : qTo N As.length) (h1 : Cond.methodLink M.1.cls idx N.1 ∈ gw) (h2 : Cond.instanceMethod N.1 ∈ gw) (h3 : Cond.selects N.1.cls N.1 N.1 ∈ gw)
    (hcat : qCat st ≤ 8) (hce : ce + N.2.2.2.2.1 ≤ M.2.2.2.2.1) (hsl : sl + N.2.2.2.2.2 ≤ M.2.2.2.2.2) (hb0 : qTv G b = .ref a)
    (hrc : ∀ (s : State) (H : Heap) (locs : List Loc), qCx G s → qHx G s s.heap → va_P (G.2.1, G.2.2.1) vwCl (qWd G t I L R) H → va_S (qA G) s.heap H locs → ∃ cell : Cell, H[a]? = some cell ∧ cell.vm.isStatics = false ∧ s.vm.findClass N.1.cls = some cell.cls)
    (hc : qCall l G d N (b :: As) t I L R Q1) (kk : ∀ r t' I' L' R', Q1 r t' I' L' R' → qAb l G (d + 1) M Q (pc + 3) lv (r.toList ++ st) (ce + N.2.2.2.2.1) (sl + N.2.2.2.2.2) t' I' L' R') : qAb l G (d + 1) M Q pc lv (As.reverse ++ b :: st) ce sl t I L R := by
  intro p e s m args below meth c C H locs ls hz hP hS hl
  obtain ⟨hx, hb, hr, hlk, hml, hown, hts, hC, hH, hB, hnm⟩ := id C
  obtain ⟨n1, n2, n3, n4⟩ := hN
  have hG : GoodIn gw (wsV M.1.cls idx N.1.cls N.1 (.code N.1 N.2.1 N.2.2.1 N.2.2.2.1 :: gw)) := gw_goodApp (gw_goodOf (by
    intro w hw
    simp only [List.mem_cons, List.not_mem_nil, or_false] at hw
    rcases hw with rfl | rfl | rfl | rfl <;> assumption)) (gw_goodCons n1)
  have hpre : PreV s H N.1.cls a (qPc G (b :: As) t I L R) (As.map (qTv G)) := ⟨qPc_blind, hrc s H locs hC hH hP hS, fun U hU hW => ⟨by rw [List.map_cons, hb0], qRep_end hU hW hC hH hz hP hS⟩⟩
  refine q_after (va_runV (As := As.map (qTv G)) (rest := st.map (qTv G)) (b := a) ⟨hx, hb, hml, hown, hts⟩ hc (cwV As.length hts hG rfl rfl rfl ⟨rfl, n3⟩ (qRm_ok n4)) hpre rfl (by rw [List.length_map]) hl.1 (by show ((As.reverse ++ b :: st).map (qTv G)) = _; rw [List.map_append, List.map_cons, hb0, List.map_reverse]) (lv_room (by rw [qCat_map]; exact hcat)) hd ⟨hce, hsl⟩) hS ?_
  intro r t' I' L' R' H1 locs1 hq hz1 hP1 hS1
  rw [qRet_app]
  exact kk r t' I' L' R' hq p e s m args below meth c C H1 locs1 ls hz1 hP1 hS1 hl
theorem qRecv {k ci : Nat} {N : qMn} (hk : k < t) (hs : (qSh k).1 = ci) (hc : ci < 10) (hN : qC ci = N.1.cls) : ∀ (s : State) (H : Heap) (locs : List Loc), qCx G s → qHx G s s.heap → va_P (G.2.1, G.2.2.1) vwCl (qWd G t I L R) H → va_S (qA G) s.heap H locs → ∃ cell : Cell, H[G.1 + k]? = some cell ∧ cell.vm.isStatics = false ∧ s.vm.findClass N.1.cls = some cell.cls := by
  intro s H locs hC hH hP hS
  rw [← hN]
  exact va_recv hC.1 hP (ci := ci) (q0 := k) (qCl hc) (by rw [qWd_at hk, qCell_obj hs hc])
theorem qRecvS {i : Nat} {N : qMn} (hi : i < 2) (hN : N.1.cls = "java/lang/String") : ∀ (s : State) (H : Heap) (locs : List Loc), qCx G s → qHx G s s.heap → va_P (G.2.1, G.2.2.1) vwCl (qWd G t I L R) H → va_S (qA G) s.heap H locs → ∃ cell : Cell, H[G.2.2.2.2.1 i]? = some cell ∧ cell.vm.isStatics = false ∧ s.vm.findClass N.1.cls = some cell.cls := by
  intro s H locs hC hH hP hS
  rw [hN]
  exact vk_recv hH.1 hi hS
theorem q_callS {idx : Nat} {N : qMn} {As : List Value} {Q1 : qQ} (hd : decode M.2.1 pc = .ok (.invokestatic idx, 3)) (hN : qTo N As.length) (h1 : Cond.methodLink M.1.cls idx N.1 ∈ gw) (h2 : Cond.static N.1 ∈ gw)
    (hcat : qCat st ≤ 8) (hce : ce + N.2.2.2.2.1 ≤ M.2.2.2.2.1) (hsl : sl + N.2.2.2.2.2 ≤ M.2.2.2.2.2)
    (hc : qCall l G d N As t I L R Q1) (kk : ∀ r t' I' L' R', Q1 r t' I' L' R' → qAb l G (d + 1) M Q (pc + 3) lv (r.toList ++ st) (ce + N.2.2.2.2.1) (sl + N.2.2.2.2.2) t' I' L' R') : qAb l G (d + 1) M Q pc lv (As.reverse ++ st) ce sl t I L R := by
  intro p e s m args below meth c C H locs ls hz hP hS hl
  obtain ⟨hx, hb, hr, hlk, hml, hown, hts, hC, hH, hB, hnm⟩ := id C
  obtain ⟨n1, n2, n3, n4⟩ := hN
  have hG : GoodIn gw (va_wsS M.1.cls idx N.1 (.code N.1 N.2.1 N.2.2.1 N.2.2.2.1 :: gw)) := gw_goodApp (gw_goodOf (by
    intro w hw
    simp only [List.mem_cons, List.not_mem_nil, or_false] at hw
    rcases hw with rfl | rfl | rfl <;> assumption)) (gw_goodCons n1)
  have hpre : PreS s H (qPc G As t I L R) (As.map (qTv G)) := ⟨qPc_blind, fun U hU hW => ⟨rfl, qRep_end hU hW hC hH hz hP hS⟩⟩
  refine q_after (va_runS (As := As.map (qTv G)) (rest := st.map (qTv G)) ⟨hx, hb, hml, hown, hts⟩ hc (va_cwS As.length hts hG rfl rfl rfl n3 (qRm_ok n4)) hpre rfl (by rw [List.length_map]) hl.1 (by show ((As.reverse ++ st).map (qTv G)) = _; rw [List.map_append, List.map_reverse]) (lv_room (by rw [qCat_map]; exact hcat)) hd ⟨hce, hsl⟩) hS ?_
  intro r t' I' L' R' H1 locs1 hq hz1 hP1 hS1
  rw [qRet_app]
  exact kk r t' I' L' R' hq p e s m args below meth c C H1 locs1 ls hz1 hP1 hS1 hl
theorem q_callSN {idx : Nat} {N : qMn} {As : List Value} {host : String} {Q1 : qQ} (hd : decode M.2.1 pc = .ok (.invokestatic idx, 3)) (hN : qTo N As.length) (h1 : (M.1.cls, idx, N.1, host) ∈ qNest) (h2 : Cond.static N.1 ∈ gw)
    (hcat : qCat st ≤ 8) (hce : ce + N.2.2.2.2.1 ≤ M.2.2.2.2.1) (hsl : sl + N.2.2.2.2.2 ≤ M.2.2.2.2.2)
    (hc : qCall l G d N As t I L R Q1) (kk : ∀ r t' I' L' R', Q1 r t' I' L' R' → qAb l G (d + 1) M Q (pc + 3) lv (r.toList ++ st) (ce + N.2.2.2.2.1) (sl + N.2.2.2.2.2) t' I' L' R') : qAb l G (d + 1) M Q pc lv (As.reverse ++ st) ce sl t I L R := by
  intro p e s m args below meth c C H locs ls hz hP hS hl
  obtain ⟨hx, hb, hr, hlk, hml, hown, hts, hC, hH, hB, hnm⟩ := id C
  obtain ⟨n1, n2, n3, n4⟩ := hN
  have hpre : PreS s H (qPc G As t I L R) (As.map (qTv G)) := ⟨qPc_blind, fun U hU hW => ⟨rfl, qRep_end hU hW hC hH hz hP hS⟩⟩
  refine q_after (va_runSN (As := As.map (qTv G)) (rest := st.map (qTv G)) ⟨hx, hb, hml, hown, hts⟩ hc ⟨va_cnB As.length hts (gw_goodCons n1) rfl rfl rfl (hC.2.2.1 _ h1) (hts _ n2) n3 (qRm_ok n4), hts _ h2, trivial⟩ hpre rfl (by rw [List.length_map]) hl.1 (by show ((As.reverse ++ st).map (qTv G)) = _; rw [List.map_append, List.map_reverse]) (lv_room (by rw [qCat_map]; exact hcat)) hd ⟨hce, hsl⟩) hS ?_
  intro r t' I' L' R' H1 locs1 hq hz1 hP1 hS1
  rw [qRet_app]
  exact kk r t' I' L' R' hq p e s m args below meth c C H1 locs1 ls hz1 hP1 hS1 hl
theorem q_callI {idx k : Nat} {y : MethodName} {cc : ByteArray} {nL mc ms : Nat} {Q1 : qQ} (hd : decode M.2.1 pc = .ok (.invokespecial idx, 3)) (hN : qTo (y, cc, nL, none, mc, ms) 0) (h1 : Cond.methodLink M.1.cls idx y ∈ gw ∨ ∃ host, (M.1.cls, idx, y, host) ∈ qNest) (h2 : Cond.instanceMethod y ∈ gw) (hnm0 : y.name = "<init>")
    (hcat : qCat st ≤ 8) (hce : ce + mc ≤ M.2.2.2.2.1) (hsl : sl + ms ≤ M.2.2.2.2.2)
    (hc : qCall l G d (y, cc, nL, none, mc, ms) [.ref k] t I L R Q1) (kk : ∀ r t' I' L' R', Q1 r t' I' L' R' → qAb l G (d + 1) M Q (pc + 3) lv (r.toList ++ st) (ce + mc) (sl + ms) t' I' L' R') : qAb l G (d + 1) M Q pc lv (.ref k :: st) ce sl t I L R := by
  intro p e s m args below meth c C H locs ls hz hP hS hl
  obtain ⟨hx, hb, hr, hlk, hml, hown, hts, hC, hH, hB, hnm⟩ := id C
  obtain ⟨n1, n2, n3, n4⟩ := hN
  have hpre : PreS s H (qPc G [.ref k] t I L R) [.ref (G.1 + k)] := ⟨qPc_blind, fun U hU hW => ⟨rfl, qRep_end hU hW hC hH hz hP hS⟩⟩
  have hrm := qRm_ok (d := d) (N := (y, cc, nL, none, mc, ms)) (mc := M.2.2.2.2.1) (ms := M.2.2.2.2.2) n4
  rcases h1 with h1 | ⟨host, h1⟩
  · refine q_after (va_runI (As := []) (rest := st.map (qTv G)) (b := G.1 + k) ⟨hx, hb, hml, hown, hts⟩ hc (cwI 0 hts (gw_goodCons n1) rfl rfl rfl (hts _ n2) (hts _ h1) (hts _ h2) hnm0 n3 hrm) hpre rfl rfl hl.1 rfl (lv_room (by rw [qCat_map]; exact hcat)) hd ⟨hce, hsl⟩) hS ?_
    intro r t' I' L' R' H1 locs1 hq hz1 hP1 hS1
    rw [qRet_app]
    exact kk r t' I' L' R' hq p e s m args below meth c C H1 locs1 ls hz1 hP1 hS1 hl
  · refine q_after (va_runIN (As := []) (rest := st.map (qTv G)) (b := G.1 + k) ⟨hx, hb, hml, hown, hts⟩ hc ⟨va_cnB 0 hts (gw_goodCons n1) rfl rfl rfl (hC.2.2.1 _ h1) (hts _ n2) n3 hrm, hnm0, hts _ h2⟩ hpre rfl rfl hl.1 rfl (lv_room (by rw [qCat_map]; exact hcat)) hd ⟨hce, hsl⟩) hS ?_
    intro r t' I' L' R' H1 locs1 hq hz1 hP1 hS1
    rw [qRet_app]
    exact kk r t' I' L' R' hq p e s m args below meth c C H1 locs1 ls hz1 hP1 hS1 hl
theorem q_objInit {idx k : Nat} (hd : decode M.2.1 pc = .ok (.invokespecial idx, 3)) (h1 : Cond.methodLink M.1.cls idx Lib.objectInit ∈ gw) (h2 : Cond.instanceMethod Lib.objectInit ∈ gw) (h3 : Cond.code Lib.objectInit ⟨#[0xb1]⟩ 1 none ∈ gw) (hcat : qCat st ≤ 8)
    (kk : qAb l G (d + 1) M Q (pc + 3) lv st ce sl t I L R) : qAb l G (d + 1) M Q pc lv (.ref k :: st) ce sl t I L R := by
  intro p e s m args below meth c C H locs ls hz hP hS hl
  obtain ⟨hx, hb, hr, hlk, hml, hown, hts, hC, hH, hB, hnm⟩ := id C
  exact W.objInit hx hb hown (hts _ h1) (hts _ h2) (hts _ h3) rfl (by rw [hml]; exact hl.1) rfl hd (by show 1 ≤ d + 1; omega) (by show 2 * 0 + _ + 12 ≤ 64 * (d + 1); rw [qCat_map]; omega) (kk p e s m args below meth c C H locs ls hz hP hS hl)
/-! the library's own -/
theorem q_max {idx : Nat} {x y : Int32} (hd : decode M.2.1 pc = .ok (.invokestatic idx, 3)) (h1 : Cond.methodLink M.1.cls idx Lib.Math.max.name ∈ gw) (h2 : Cond.static Lib.Math.max.name ∈ gw) (h3 : Cond.initialized "java/lang/Math" ∈ gw) (h4 : Cond.code Lib.Math.max.name Lib.Math.max.code 2 (some .int) ∈ gw) (hcat : qCat st ≤ 8) (hce : ce ≤ M.2.2.2.2.1) (hsl : sl ≤ M.2.2.2.2.2)
    (kk : qAb l G (d + 1) M Q (pc + 3) lv (.int (if x < y then y else x) :: st) ce sl t I L R) : qAb l G (d + 1) M Q pc lv (.int y :: .int x :: st) ce sl t I L R := by
  intro p e s m args below meth c C H locs ls hz hP hS hl
  obtain ⟨hx, hb, hr, hlk, hml, hown, hts, hC, hH, hB, hnm⟩ := id C
  exact va_mmax hx hb (hml.trans hl.1.symm) hown (hts _ h1) (hts _ h2) (hts _ h3) (hts _ h4) (by show 1 ≤ d + 1; omega) (by show _ + 13 ≤ 64 * (d + 1); rw [qCat_map]; omega) hce hsl hd (kk p e s m args below meth c C H locs ls hz hP hS hl)
theorem q_min {idx : Nat} {x y : Int32} (hd : decode M.2.1 pc = .ok (.invokestatic idx, 3)) (h1 : Cond.methodLink M.1.cls idx Lib.Math.min.name ∈ gw) (h2 : Cond.static Lib.Math.min.name ∈ gw) (h3 : Cond.initialized "java/lang/Math" ∈ gw) (h4 : Cond.code Lib.Math.min.name Lib.Math.min.code 2 (some .int) ∈ gw) (hcat : qCat st ≤ 8) (hce : ce ≤ M.2.2.2.2.1) (hsl : sl ≤ M.2.2.2.2.2)
    (kk : qAb l G (d + 1) M Q (pc + 3) lv (.int (if y < x then y else x) :: st) ce sl t I L R) : qAb l G (d + 1) M Q pc lv (.int y :: .int x :: st) ce sl t I L R := by
  intro p e s m args below meth c C H locs ls hz hP hS hl
  obtain ⟨hx, hb, hr, hlk, hml, hown, hts, hC, hH, hB, hnm⟩ := id C
  exact va_mmin hx hb (hml.trans hl.1.symm) hown (hts _ h1) (hts _ h2) (hts _ h3) (hts _ h4) (by show 1 ≤ d + 1; omega) (by show _ + 13 ≤ 64 * (d + 1); rw [qCat_map]; omega) hce hsl hd (kk p e s m args below meth c C H locs ls hz hP hS hl)
theorem q_abs {idx : Nat} {x : Int32} (hd : decode M.2.1 pc = .ok (.invokestatic idx, 3)) (h1 : Cond.methodLink M.1.cls idx Lib.Math.abs.name ∈ gw) (h2 : Cond.static Lib.Math.abs.name ∈ gw) (h3 : Cond.initialized "java/lang/Math" ∈ gw) (h4 : Cond.code Lib.Math.abs.name Lib.Math.abs.code 1 (some .int) ∈ gw) (hcat : qCat st ≤ 8) (hce : ce ≤ M.2.2.2.2.1) (hsl : sl ≤ M.2.2.2.2.2)
    (kk : qAb l G (d + 1) M Q (pc + 3) lv (.int (if 0 ≤ x then x else 0 - x) :: st) ce sl t I L R) : qAb l G (d + 1) M Q pc lv (.int x :: st) ce sl t I L R := by
  intro p e s m args below meth c C H locs ls hz hP hS hl
  obtain ⟨hx, hb, hr, hlk, hml, hown, hts, hC, hH, hB, hnm⟩ := id C
  exact va_mabs hx hb (hml.trans hl.1.symm) hown (hts _ h1) (hts _ h2) (hts _ h3) (hts _ h4) (by show 1 ≤ d + 1; omega) (by show _ + 13 ≤ 64 * (d + 1); rw [qCat_map]; omega) hce hsl hd (kk p e s m args below meth c C H locs ls hz hP hS hl)
end QC
