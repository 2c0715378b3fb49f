/-! THE CLAIM OUT OF ONE WALK OF THE LAW'S BODY. Your part is whole_start (and what it stands on); all else here is the same for every law, but numbers. -/
def R_law : String := "MirageLoansLaw"
def lw_P (b : Addr) (xs : List Int32) (args : Array Value) (s : State) : Prop := args = #[.ref b] ∧ s.IntsAt b xs ∧ xs.length ≤ 3072 ∧ (Jvm.Cond.and given_1 narrow_1).before args s = true
def lw_Q (_ : Array Value) (s : State) (o : Outcome) (t : State) : Prop := o = .returned (some (.int 1)) ∧ Framed s o t [] 600000 7302250
def lw_Z (below : List Frame) (a : Array Value) (s : State) : State → Prop := fun t => ∃ o, t.status = .running ∧ Ended t below o ∧ lw_Q a s o t
/-- the law's own end, with 1 on the stack, nothing written that was there before, its room as the claim has it -/
theorem lw_ret {p : Program} {l : Launch} {e : Env} {s : State} {m : MethodId} {below : List Frame} {meth : Method} {c : Code} {b : Nat} (hx : p.tables.exec = Jvm.exec) (hb : c.code = code) (hr : meth.sig.returnType = ret) (hlocks : meth.locks = false) {pc : Nat} {H : Heap} {ls : Array Slot} (hdg : decode code pc = .ok (.ireturn, 1)) : W p l e room_1 s m #[Value.ref b] below meth c H [] 600000 7302250 (lw_Z below #[Value.ref b] s) (F0 m pc ls [.int 1]) := by
  intro T hT X
  obtain ⟨fs, hret, hrun, hended, hW, hframe⟩ := X.leave (v := some (.int 1)) (hlocks := hlocks) (fun h => by rw [hr] at h; cases h)
  have hmeth' : T.vm.method? m = some meth := X.method'
  refine ⟨T.setFrames fs, ?_, .returned (some (.int 1)), hrun, hended, rfl, ⟨_, rfl⟩, hW, hframe⟩
  jvm_step X.here [X.here.top, hx, hb, hdg, hmeth', hr, ret, narrow_b1]
  (try refine ⟨rfl, ?_⟩); (try refine ⟨rfl, ?_⟩)
  first | (intro acts; rw [hret _ acts rfl rfl rfl]) | rw [hret _ _ rfl rfl rfl]
  exact Steps.refl _
/-- what holds at the law's entry: the machine, the code, the tables' words (any of lw_tbl by 'hts w (by decide +kernel)'), the script of L ints xs at the cell b, what the Statement gives of the start (any of its parts by flat_of_before) -/
def lw_At (p : Program) (s : State) (m : MethodId) (meth : Method) (c : Code) (b L : Nat) (xs : Nat → Int32) : Prop :=
  p.tables.exec = Jvm.exec ∧ c.code = code ∧ meth.sig.returnType = ret ∧ c.maxLocals = 4 ∧ s.vm.findClass R_law = some m.cls ∧ (∀ w ∈ lw_tbl, w.before #[Value.ref b] s = true) ∧ va_X b L xs s s.heap ∧ b < s.heap.size ∧ meth.locks = false ∧ (Jvm.Cond.and given_1 narrow_1).before #[Value.ref b] s = true

theorem gw_tbl {w : Cond} (h : w ∈ gw) : w ∈ lw_tbl := (List.mem_filter.mp h).1
/-! ===== what holds at the start ===== -/
def zFl : List Cond := flatC (Jvm.Cond.and given_1 narrow_1)
theorem zfl_at (i : Nat) {w : Cond} (h : zFl[i]? = some w) : w ∈ zFl := List.mem_of_getElem? h
theorem zfl_0 : ∀ j, j < 121 → zFl[13 + j]? = some (Cond.eq (.elem (.field (.string "MirageLoans$Tokens" 29) "java/lang/String" "value" "[B") (.int (Int32.ofNat j))) (.int ((qByt.getD 0 []).getD j 0))) := by decide +kernel
theorem zfl_1 : ∀ j, j < 9 → zFl[138 + j]? = some (Cond.eq (.elem (.field (.string "MirageLoans$Tokens" 71) "java/lang/String" "value" "[B") (.int (Int32.ofNat j))) (.int ((qByt.getD 1 []).getD j 0))) := by decide +kernel
def zTm (i : Nat) : Term := .string "MirageLoans$Tokens" (if i = 0 then 29 else 71)
theorem zinst {ci : Nat} (h : ci < 10) : Cond.instantiable (qC ci) (qNF ci) ∈ gw := by
  rcases (show ci = 0 ∨ ci = 1 ∨ ci = 2 ∨ ci = 3 ∨ ci = 4 ∨ ci = 5 ∨ ci = 6 ∨ ci = 7 ∨ ci = 8 ∨ ci = 9 by omega) with rfl | rfl | rfl | rfl | rfl | rfl | rfl | rfl | rfl | rfl
  · exact g226
  · exact g140
  · exact g232
  · exact g404
  · exact g362
  · exact g124
  · exact g146
  · exact g424
  · exact g116
  · exact g1105
theorem zW_ao : Cond.arrayOver (.object "MirageLoans$State") ∈ lw_tbl := List.mem_of_getElem? (i := 410) (by decide +kernel)
theorem zW_s1 : Cond.laysStatic "java/lang/String" "COMPACT_STRINGS" "Z" ∈ lw_tbl := List.mem_of_getElem? (i := 161) (by decide +kernel)
theorem zW_s2 : Cond.laysStatic "jdk/internal/util/Preconditions" "SIOOBE_FORMATTER" "Ljava/util/function/BiFunction;" ∈ lw_tbl := List.mem_of_getElem? (i := 177) (by decide +kernel)
theorem zW_t0 : Cond.stringRef "MirageLoans$Tokens" qTx0 qText0 ∈ lw_tbl := List.mem_of_getElem? (i := 151) (by decide +kernel)
theorem zW_t1 : Cond.stringRef "MirageLoans$Tokens" qTx1 qText1 ∈ lw_tbl := List.mem_of_getElem? (i := 558) (by decide +kernel)
theorem zW_n : ∀ q ∈ qNest, Cond.methodLinkNest q.1 q.2.1 q.2.2.1 q.2.2.2 ∈ lw_tbl := by
  intro q hq
  simp only [qNest, List.mem_cons, List.not_mem_nil, or_false] at hq
  rcases hq with rfl | rfl | rfl | rfl | rfl | rfl | rfl | rfl | rfl
  · exact List.mem_of_getElem? (i := 125) (by decide +kernel)
  · exact List.mem_of_getElem? (i := 141) (by decide +kernel)
  · exact List.mem_of_getElem? (i := 233) (by decide +kernel)
  · exact List.mem_of_getElem? (i := 363) (by decide +kernel)
  · exact List.mem_of_getElem? (i := 411) (by decide +kernel)
  · exact List.mem_of_getElem? (i := 425) (by decide +kernel)
  · exact List.mem_of_getElem? (i := 740) (by decide +kernel)
  · exact List.mem_of_getElem? (i := 792) (by decide +kernel)
  · exact List.mem_of_getElem? (i := 884) (by decide +kernel)
theorem zarr {args : Array Value} {s : State} {ty : FieldType} (h : (Cond.arrayClass ty).before args s = true) : ∃ c, ArrOfT s c ty ∧ s.vm.findClass ("[" ++ ty.toString) = some c := by
  obtain ⟨c, k, comp, h1, h2, h3⟩ := Cond.arrayClass_spec h
  exact ⟨c, fun n z => ⟨fun k q => (by cases q), k, h2, comp, h3⟩, h1⟩
theorem zctx {p : Program} {s : State} {m : MethodId} {meth : Method} {c : Code} {b L : Nat} {xs : Nat → Int32} (C0 : lw_At p s m meth c b L xs) : ∃ G : qG, G.1 = s.heap.size ∧ qCx G s ∧ qHx G s s.heap := by
  obtain ⟨hx, hb, hr, hml, hown, hts, hX, hbl, hlocks, hgv⟩ := id C0
  have hs : ∀ w ∈ zFl, w.before #[Value.ref b] s = true := flat_of_before _ hgv
  have h0 : ∀ ci : Nat, ∃ q : ClassId × (Nat → Nat), ci < 10 → u_Kn s (qC ci) (qT ci) (qNF ci) q.1 q.2 := by
    intro ci
    by_cases h : ci < 10
    · obtain ⟨cC, iS, hk⟩ := u_known (C := qC ci) (T := qT ci) (N := qNF ci) (n := qNF ci) hts (fun w hw => gw_tbl (qLays h w hw)) (hts _ (gw_tbl (zinst h)))
      exact ⟨(cC, iS), fun _ => hk⟩
    · exact ⟨(0, fun _ => 0), fun q => absurd q h⟩
  obtain ⟨cl, hcl⟩ := Classical.axiomOfChoice h0
  obtain ⟨a10, b10, n10⟩ := zarr (hts _ (gw_tbl g224))
  obtain ⟨a11, b11, n11⟩ := zarr (hts _ (gw_tbl g138))
  obtain ⟨a12, b12, n12⟩ := zarr (hts _ (gw_tbl g449))
  obtain ⟨a13, b13, n13⟩ := zarr (hts _ (gw_tbl g223))
  have hao := hts _ zW_ao
  obtain ⟨comp, a14, k14, r1, r2, r3, r4, r5⟩ := Cond.arrayOver_spec hao
  have hA : ∀ a : Nat, a < s.heap.size → ¬ (fun q => s.heap.size ≤ q) a := fun a h => Nat.not_le.mpr h
  obtain ⟨adK, adV, hS, hE⟩ := vk_Sof (args := #[Value.ref b]) (s := s) (N := 2) (tm := zTm) (len := qLen) (byt := qByt) (A := fun q => s.heap.size ≤ q)
    (fun i hi => by rcases (show i = 0 ∨ i = 1 by omega) with rfl | rfl <;> decide)
    (fun i hi => by
      rcases (show i = 0 ∨ i = 1 by omega) with rfl | rfl
      · exact hs _ (zfl_at 9 (by decide +kernel))
      · exact hs _ (zfl_at 134 (by decide +kernel)))
    (fun i hi => by
      rcases (show i = 0 ∨ i = 1 by omega) with rfl | rfl
      · exact hs _ (zfl_at 10 (by decide +kernel))
      · exact hs _ (zfl_at 135 (by decide +kernel)))
    (fun i hi => by
      rcases (show i = 0 ∨ i = 1 by omega) with rfl | rfl
      · exact hs _ (zfl_at 11 (by decide +kernel))
      · exact hs _ (zfl_at 136 (by decide +kernel)))
    (fun i hi => by
      rcases (show i = 0 ∨ i = 1 by omega) with rfl | rfl
      · exact hs _ (zfl_at 12 (by decide +kernel))
      · exact hs _ (zfl_at 137 (by decide +kernel)))
    (fun i hi j hj => by
      rcases (show i = 0 ∨ i = 1 by omega) with rfl | rfl
      · exact hs _ (zfl_at (13 + j) (zfl_0 j hj))
      · exact hs _ (zfl_at (138 + j) (zfl_1 j hj)))
    (fun i j hi hj hij => by
      rcases (show i = 0 ∨ i = 1 by omega) with rfl | rfl <;> rcases (show j = 0 ∨ j = 1 by omega) with rfl | rfl
      · exact absurd rfl hij
      · exact Or.inl (hs _ (zfl_at 147 (by decide +kernel)))
      · exact Or.inr (hs _ (zfl_at 147 (by decide +kernel)))
      · exact absurd rfl hij) hA
  have hZ1 := va_Zof (A := fun q => s.heap.size ≤ q) (hts _ zW_s1) (hts _ (gw_tbl g101)) (va_eqt (z := 1) (hs _ (zfl_at 4 (by decide +kernel)))) hA
  obtain ⟨v, hv1, hv2⟩ := Cond.isRef_spec (hs _ (zfl_at (w := Cond.isRef (.static "jdk/internal/util/Preconditions" "SIOOBE_FORMATTER" "Ljava/util/function/BiFunction;")) 5 (by decide +kernel)))
  have hv3 : ∃ o : Option Nat, v = va_rf o := by
    cases v with
    | null => exact ⟨none, rfl⟩
    | ref a => exact ⟨some a, rfl⟩
    | _ => cases hv2
  obtain ⟨o, rfl⟩ := hv3
  have hZ2 := va_Zof (A := fun q => s.heap.size ≤ q) (hts _ zW_s2) (hts _ (gw_tbl g103)) hv1 hA
  refine ⟨(s.heap.size, fun k => (cl k).1, fun k => (cl k).2, fun k => if k = 10 then a10 else if k = 11 then a11 else if k = 12 then a12 else if k = 13 then a13 else a14, adK, adV, o), rfl, ⟨⟨?_, ?_⟩, hao, fun q hq => hts _ (zW_n q hq), ⟨hts _ zW_t0, hE 0 (by omega)⟩, ⟨hts _ zW_t1, hE 1 (by omega)⟩⟩, hS, hZ1, hZ2⟩
  · intro k q hq
    have hk : k < 10 := (List.getElem?_eq_some_iff.mp hq).1
    rw [qCl hk] at hq
    cases hq
    exact hcl k hk
  · intro k q hq
    match k, hq with
    | 0, hq => cases hq; exact ⟨b10, n10⟩
    | 1, hq => cases hq; exact ⟨b11, n11⟩
    | 2, hq => cases hq; exact ⟨b12, n12⟩
    | 3, hq => cases hq; exact ⟨b13, n13⟩
    | 4, hq => cases hq; exact ⟨fun n z => ⟨fun k q => (by cases q), k14, r3, comp, r4⟩, k14, comp, r3, r4, r1, r5⟩
    | k + 5, hq => simp [qTys] at hq
