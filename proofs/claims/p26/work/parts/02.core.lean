/-! ===== the abstract machine: one memory of numbered cells; values with relative addresses ===== -/
abbrev qMI : Type := Nat → Nat → Int32
abbrev qML : Type := Nat → Nat → Int64
abbrev qMR : Type := Nat → Nat → Option Nat
/-- base, class numbers, slots, array classes, texts, their rows, the formatter -/
abbrev qG : Type := Nat × (Nat → ClassId) × (Nat → Nat → Nat) × (Nat → ClassId) × (Nat → Nat) × (Nat → Nat) × Option Nat
def qShL : List (Nat × Nat) := [(8, 14), (5, 2), (11, 2000), (1, 8), (6, 5), (13, 23), (10, 401), (10, 401), (13, 401), (0, 13), (13, 12), (10, 6), (10, 6), (10, 6), (10, 6), (2, 6), (10, 420), (10, 420), (10, 5), (10, 9), (10, 20), (4, 7), (10, 6), (10, 6), (10, 6), (10, 6), (10, 36), (10, 36), (4, 7), (10, 6), (10, 6), (10, 6), (10, 6), (10, 36), (10, 36), (3, 3), (14, 30), (4, 7), (10, 6), (10, 6), (10, 6), (10, 6), (10, 36), (10, 36), (4, 7), (10, 6), (10, 6), (10, 6), (10, 6), (10, 36), (10, 36), (4, 7), (10, 6), (10, 6), (10, 6), (10, 6), (10, 36), (10, 36), (4, 7), (10, 6), (10, 6), (10, 6), (10, 6), (10, 36), (10, 36), (4, 7), (10, 6), (10, 6), (10, 6), (10, 6), (10, 36), (10, 36), (4, 7), (10, 6), (10, 6), (10, 6), (10, 6), (10, 36), (10, 36), (4, 7), (10, 6), (10, 6), (10, 6), (10, 6), (10, 36), (10, 36), (4, 7), (10, 6), (10, 6), (10, 6), (10, 6), (10, 36), (10, 36), (4, 7), (10, 6), (10, 6), (10, 6), (10, 6), (10, 36), (10, 36), (4, 7), (10, 6), (10, 6), (10, 6), (10, 6), (10, 36), (10, 36), (4, 7), (10, 6), (10, 6), (10, 6), (10, 6), (10, 36), (10, 36), (4, 7), (10, 6), (10, 6), (10, 6), (10, 6), (10, 36), (10, 36), (4, 7), (10, 6), (10, 6), (10, 6), (10, 6), (10, 36), (10, 36), (4, 7), (10, 6), (10, 6), (10, 6), (10, 6), (10, 36), (10, 36), (4, 7), (10, 6), (10, 6), (10, 6), (10, 6), (10, 36), (10, 36), (4, 7), (10, 6), (10, 6), (10, 6), (10, 6), (10, 36), (10, 36), (4, 7), (10, 6), (10, 6), (10, 6), (10, 6), (10, 36), (10, 36), (4, 7), (10, 6), (10, 6), (10, 6), (10, 6), (10, 36), (10, 36), (4, 7), (10, 6), (10, 6), (10, 6), (10, 6), (10, 36), (10, 36), (4, 7), (10, 6), (10, 6), (10, 6), (10, 6), (10, 36), (10, 36), (4, 7), (10, 6), (10, 6), (10, 6), (10, 6), (10, 36), (10, 36), (4, 7), (10, 6), (10, 6), (10, 6), (10, 6), (10, 36), (10, 36), (4, 7), (10, 6), (10, 6), (10, 6), (10, 6), (10, 36), (10, 36), (4, 7), (10, 6), (10, 6), (10, 6), (10, 6), (10, 36), (10, 36), (4, 7), (10, 6), (10, 6), (10, 6), (10, 6), (10, 36), (10, 36), (4, 7), (10, 6), (10, 6), (10, 6), (10, 6), (10, 36), (10, 36), (4, 7), (10, 6), (10, 6), (10, 6), (10, 6), (10, 36), (10, 36), (4, 7), (10, 6), (10, 6), (10, 6), (10, 6), (10, 36), (10, 36), (4, 7), (10, 6), (10, 6), (10, 6), (10, 6), (10, 36), (10, 36), (4, 7), (10, 6), (10, 6), (10, 6), (10, 6), (10, 36), (10, 36), (14, 3), (12, 3), (7, 6), (10, 20), (10, 20), (10, 20), (12, 180), (10, 21), (10, 20), (10, 36), (10, 3), (10, 3), (0, 13), (13, 12), (10, 6), (10, 6), (10, 6), (10, 6), (2, 6), (10, 420), (10, 420), (10, 5), (10, 9), (10, 20), (4, 7), (10, 6), (10, 6), (10, 6), (10, 6), (10, 36), (10, 36), (4, 7), (10, 6), (10, 6), (10, 6), (10, 6), (10, 36), (10, 36), (4, 7), (10, 6), (10, 6), (10, 6), (10, 6), (10, 36), (10, 36), (9, 65), (11, 2000), (11, 2000), (10, 403), (10, 403), (10, 403), (13, 403), (13, 23), (13, 12), (10, 2), (10, 12), (10, 12), (10, 2), (10, 12), (10, 12), (10, 2), (10, 2), (10, 2), (10, 2), (10, 10), (10, 10), (12, 260), (10, 260), (10, 260), (10, 260), (10, 260), (10, 840), (10, 840), (10, 64), (10, 9), (10, 400), (10, 97), (10, 97), (10, 2910), (10, 20), (10, 3), (12, 22), (12, 22), (10, 20), (10, 20), (10, 20), (10, 420), (12, 3), (10, 291)]
def qSh (k : Nat) : Nat × Nat := qShL.getD k (99, 0)
def qNF (ci : Nat) : Nat := ([13, 8, 6, 3, 7, 2, 5, 6, 14, 65] : List Nat).getD ci 0
def qTy (ci : Nat) : Nat → FieldType := match ci with
  | 0 => tyX0 | 1 => tyX1 | 2 => tyX2 | 3 => tyX3 | 4 => tyX4 | 5 => tyX5 | 6 => tyX6 | 7 => tyX7 | 8 => tyX8 | _ => tyX9
def qT (ci : Nat) : u_T := match ci with
  | 0 => TX0 | 1 => TX1 | 2 => TX2 | 3 => TX3 | 4 => TX4 | 5 => TX5 | 6 => TX6 | 7 => TX7 | 8 => TX8 | _ => TX9
def qC (ci : Nat) : String := match ci with
  | 0 => RX0 | 1 => RX1 | 2 => RX2 | 3 => RX3 | 4 => RX4 | 5 => RX5 | 6 => RX6 | 7 => RX7 | 8 => RX8 | _ => RX9
def qIsR : FieldType → Bool
  | .object _ => true
  | .array _ => true
  | _ => false
theorem qCl {ci : Nat} (h : ci < 10) : vwCl[ci]? = some (qC ci, qT ci, qNF ci) := by
  rcases (show ci = 0 ∨ ci = 1 ∨ ci = 2 ∨ ci = 3 ∨ ci = 4 ∨ ci = 5 ∨ ci = 6 ∨ ci = 7 ∨ ci = 8 ∨ ci = 9 by omega) with rfl | rfl | rfl | rfl | rfl | rfl | rfl | rfl | rfl | rfl <;> rfl
theorem qTyOk {ci : Nat} (h : ci < 10) : ∀ k, k < qNF ci → parseFieldDescriptor (qT ci k).2.2.1 = some (qTy ci k) := by
  rcases (show ci = 0 ∨ ci = 1 ∨ ci = 2 ∨ ci = 3 ∨ ci = 4 ∨ ci = 5 ∨ ci = 6 ∨ ci = 7 ∨ ci = 8 ∨ ci = 9 by omega) with rfl | rfl | rfl | rfl | rfl | rfl | rfl | rfl | rfl | rfl
  · exact tyX0_ok
  · exact tyX1_ok
  · exact tyX2_ok
  · exact tyX3_ok
  · exact tyX4_ok
  · exact tyX5_ok
  · exact tyX6_ok
  · exact tyX7_ok
  · exact tyX8_ok
  · exact tyX9_ok
theorem qNm {ci : Nat} (h : ci < 10) : ∀ a, a < qNF ci → ∀ b, b < qNF ci → a ≠ b → (qT ci a).2.1 ≠ (qT ci b).2.1 := by
  rcases (show ci = 0 ∨ ci = 1 ∨ ci = 2 ∨ ci = 3 ∨ ci = 4 ∨ ci = 5 ∨ ci = 6 ∨ ci = 7 ∨ ci = 8 ∨ ci = 9 by omega) with rfl | rfl | rfl | rfl | rfl | rfl | rfl | rfl | rfl | rfl
  · exact nmX0
  · exact nmX1
  · exact nmX2
  · exact nmX3
  · exact nmX4
  · exact nmX5
  · exact nmX6
  · exact nmX7
  · exact nmX8
  · exact nmX9
/-- the words that every method takes along -/
def gw : List Cond := lw_tbl.filter goodWord
theorem gw_at {w : Cond} (i : Nat) (h : lw_tbl[i]? = some w) (hg : goodWord w = true) : w ∈ gw := List.mem_filter.mpr ⟨List.mem_of_getElem? h, hg⟩
theorem gw_good : GoodIn gw gw := fun w h => ⟨h, good_of_word (List.mem_filter.mp h).2⟩
theorem gw_goodApp {a b : List Cond} (ha : GoodIn gw a) (hb : GoodIn gw b) : GoodIn gw (a ++ b) := fun w h => (List.mem_append.mp h).elim (ha w) (hb w)
theorem gw_goodOf {a : List Cond} (h : ∀ w ∈ a, w ∈ gw) : GoodIn gw a := fun w hw => gw_good w (h w hw)
theorem gw_goodCons {c : Cond} (h : c ∈ gw) : GoodIn gw (c :: gw) := gw_goodOf (fun w hw => (List.mem_cons.mp hw).elim (fun e => e ▸ h) id)
theorem gw_places {ws : List Cond} (ps : List Nat) (hp : ws = ps.filterMap (fun i => lw_tbl[i]?)) (h : ws.all goodWord = true) : ∀ w ∈ ws, w ∈ gw := by
  intro w hw
  have h1 := List.all_eq_true.mp h w hw
  rw [hp] at hw
  obtain ⟨i, -, hi⟩ := List.mem_filterMap.mp hw
  exact gw_at i hi h1
set_option maxRecDepth 20000 in
theorem qLays0 : ∀ w ∈ u_ws RX0 TX0 13, w ∈ gw := gw_places [308, 310, 312, 314, 316, 318, 320, 322, 324, 326, 328, 330, 332] (by decide +kernel) (by decide +kernel)
set_option maxRecDepth 20000 in
theorem qLays1 : ∀ w ∈ u_ws RX1 TX1 8, w ∈ gw := gw_places [344, 346, 348, 350, 352, 354, 356, 358] (by decide +kernel) (by decide +kernel)
set_option maxRecDepth 20000 in
theorem qLays2 : ∀ w ∈ u_ws RX2 TX2 6, w ∈ gw := gw_places [243, 245, 247, 249, 251, 253] (by decide +kernel) (by decide +kernel)
set_option maxRecDepth 20000 in
theorem qLays3 : ∀ w ∈ u_ws RX3 TX3 3, w ∈ gw := gw_places [416, 418, 420] (by decide +kernel) (by decide +kernel)
set_option maxRecDepth 20000 in
theorem qLays4 : ∀ w ∈ u_ws RX4 TX4 7, w ∈ gw := gw_places [388, 390, 392, 394, 396, 398, 400] (by decide +kernel) (by decide +kernel)
set_option maxRecDepth 20000 in
theorem qLays5 : ∀ w ∈ u_ws RX5 TX5 2, w ∈ gw := gw_places [133, 135] (by decide +kernel) (by decide +kernel)
set_option maxRecDepth 20000 in
theorem qLays6 : ∀ w ∈ u_ws RX6 TX6 5, w ∈ gw := gw_places [212, 214, 216, 218, 220] (by decide +kernel) (by decide +kernel)
set_option maxRecDepth 20000 in
theorem qLays7 : ∀ w ∈ u_ws RX7 TX7 6, w ∈ gw := gw_places [436, 438, 440, 442, 444, 446] (by decide +kernel) (by decide +kernel)
set_option maxRecDepth 20000 in
theorem qLays8 : ∀ w ∈ u_ws RX8 TX8 14, w ∈ gw := gw_places [466, 468, 470, 472, 474, 476, 478, 480, 482, 484, 486, 488, 490, 492] (by decide +kernel) (by decide +kernel)
set_option maxRecDepth 20000 in
theorem qLays9 : ∀ w ∈ u_ws RX9 TX9 65, w ∈ gw := gw_places [1193, 1195, 1197, 1199, 1201, 1203, 1205, 1207, 1209, 1211, 1213, 1215, 1217, 1219, 1221, 1223, 1225, 1227, 1229, 1231, 1233, 1235, 1237, 1239, 1241, 1243, 1245, 1247, 1249, 1251, 1253, 1255, 1257, 1259, 1261, 1263, 1265, 1267, 1269, 1271, 1273, 1275, 1277, 1279, 1281, 1283, 1285, 1287, 1289, 1291, 1293, 1295, 1297, 1299, 1301, 1303, 1305, 1307, 1309, 1311, 1313, 1315, 1317, 1319, 1321] (by decide +kernel) (by decide +kernel)
theorem qLays {ci : Nat} (h : ci < 10) : ∀ w ∈ u_ws (qC ci) (qT ci) (qNF ci), w ∈ gw := by
  rcases (show ci = 0 ∨ ci = 1 ∨ ci = 2 ∨ ci = 3 ∨ ci = 4 ∨ ci = 5 ∨ ci = 6 ∨ ci = 7 ∨ ci = 8 ∨ ci = 9 by omega) with rfl | rfl | rfl | rfl | rfl | rfl | rfl | rfl | rfl | rfl
  · exact qLays0
  · exact qLays1
  · exact qLays2
  · exact qLays3
  · exact qLays4
  · exact qLays5
  · exact qLays6
  · exact qLays7
  · exact qLays8
  · exact qLays9
/-! memory -/
def qRf (B : Nat) (r : Option Nat) : Option Nat := r.map (fun a => B + a)
def qFs (B : Nat) (I : qMI) (R : qMR) (ci k : Nat) : List Value := (List.range (qNF ci)).map (fun j => if qIsR (qTy ci j) = true then va_rf (qRf B (R k j)) else .int (I k j))
def qCell (G : qG) (I : qMI) (L : qML) (R : qMR) (k : Nat) : va_E :=
  if (qSh k).1 < 10 then .inr ((qSh k).1, qFs G.1 I R (qSh k).1 k)
  else if (qSh k).1 < 13 then .inl (G.2.2.2.1 (qSh k).1, (qSh k).2, .inl (I k))
  else if (qSh k).1 = 13 then .inl (G.2.2.2.1 13, (qSh k).2, .inr (.inl (L k)))
  else .inl (G.2.2.2.1 14, (qSh k).2, .inr (.inr (.inr (.inr (fun j => qRf G.1 (R k j))))))
def qWd (G : qG) (t : Nat) (I : qMI) (L : qML) (R : qMR) : va_W := (List.range t).map (fun k => (G.1 + k, qCell G I L R k))
theorem qWd_at {G : qG} {t k : Nat} {I : qMI} {L : qML} {R : qMR} (h : k < t) : (qWd G t I L R)[k]? = some (G.1 + k, qCell G I L R k) := by
  unfold qWd
  rw [List.getElem?_map, List.getElem?_range h]
  rfl
theorem qWd_get {G : qG} {t k : Nat} {I : qMI} {L : qML} {R : qMR} {q : Nat × va_E} (h : (qWd G t I L R)[k]? = some q) : k < t ∧ q = (G.1 + k, qCell G I L R k) := by
  have hk : k < t := by
    have := (List.getElem?_eq_some_iff.mp h).1
    simpa [qWd] using this
  rw [qWd_at hk] at h
  exact ⟨hk, (Option.some.inj h).symm⟩
theorem qWd_D {G : qG} {t : Nat} {I : qMI} {L : qML} {R : qMR} : va_D (fun q => G.1 ≤ q) (qWd G t I L R) := by
  refine ⟨fun i j p q hi hj e => ?_, fun k q hk => ?_⟩
  · obtain ⟨-, rfl⟩ := qWd_get hi
    obtain ⟨-, rfl⟩ := qWd_get hj
    exact Nat.add_left_cancel e
  · obtain ⟨-, rfl⟩ := qWd_get hk
    exact Nat.le_add_right _ _
theorem qCell_congr {G : qG} {I I' : qMI} {L L' : qML} {R R' : qMR} {k : Nat} (hI : I' k = I k) (hL : L' k = L k) (hR : R' k = R k) : qCell G I' L' R' k = qCell G I L R k := by
  simp only [qCell, qFs, hI, hL, hR]
theorem qWd_set {G : qG} {t k : Nat} {I I' : qMI} {L L' : qML} {R R' : qMR} {e : va_E} (hk : k < t) (he : e = qCell G I' L' R' k) (h : ∀ j, j ≠ k → I' j = I j ∧ L' j = L j ∧ R' j = R j) : (qWd G t I L R).set k (G.1 + k, e) = qWd G t I' L' R' := by
  subst he
  apply List.ext_getElem?
  intro i
  rw [List.getElem?_set]
  by_cases hi : i < t
  · by_cases hik : k = i
    · subst hik
      rw [if_pos rfl, if_pos (by simpa [qWd] using hk), qWd_at hk]
    · rw [if_neg hik, qWd_at hi, qWd_at hi]
      obtain ⟨h1, h2, h3⟩ := h i (fun e => hik e.symm)
      rw [qCell_congr h1 h2 h3]
  · have h1 : ∀ (I : qMI) (L : qML) (R : qMR), (qWd G t I L R)[i]? = none := fun I L R => by
      rw [List.getElem?_eq_none_iff]
      simpa [qWd] using Nat.not_lt.mp hi
    rw [h1 I' L' R']
    by_cases hik : k = i
    · exact absurd (hik ▸ hk) hi
    · rw [if_neg hik, h1]
theorem qWd_succ {G : qG} {t : Nat} {I I' : qMI} {L L' : qML} {R R' : qMR} (h : ∀ j, j < t → I' j = I j ∧ L' j = L j ∧ R' j = R j) : qWd G (t + 1) I' L' R' = qWd G t I L R ++ [(G.1 + t, qCell G I' L' R' t)] := by
  unfold qWd
  rw [List.range_succ, List.map_append]
  congr 1
  apply List.map_congr_left
  intro j hj
  obtain ⟨h1, h2, h3⟩ := h j (List.mem_range.mp hj)
  rw [qCell_congr h1 h2 h3]
def qUpF (I : qMI) (a : Nat) (f : Nat → Int32) : qMI := fun a' => if a' = a then f else I a'
def qUp (I : qMI) (a j : Nat) (x : Int32) : qMI := qUpF I a (upd (I a) j x)
def qUpLF (L : qML) (a : Nat) (f : Nat → Int64) : qML := fun a' => if a' = a then f else L a'
def qUpL (L : qML) (a j : Nat) (x : Int64) : qML := qUpLF L a (vp_updL (L a) j x)
def qUpRF (R : qMR) (a : Nat) (f : Nat → Option Nat) : qMR := fun a' => if a' = a then f else R a'
def qUpR (R : qMR) (a j : Nat) (x : Option Nat) : qMR := qUpRF R a (va_up (R a) j x)
theorem qUpF_s (I : qMI) (a : Nat) (f : Nat → Int32) : qUpF I a f a = f := if_pos rfl
theorem qUpF_n (I : qMI) {a b : Nat} (f : Nat → Int32) (h : b ≠ a) : qUpF I a f b = I b := if_neg h
theorem qUpLF_s (L : qML) (a : Nat) (f : Nat → Int64) : qUpLF L a f a = f := if_pos rfl
theorem qUpLF_n (L : qML) {a b : Nat} (f : Nat → Int64) (h : b ≠ a) : qUpLF L a f b = L b := if_neg h
theorem qUpRF_s (R : qMR) (a : Nat) (f : Nat → Option Nat) : qUpRF R a f a = f := if_pos rfl
theorem qUpRF_n (R : qMR) {a b : Nat} (f : Nat → Option Nat) (h : b ≠ a) : qUpRF R a f b = R b := if_neg h
/-! values -/
def qTv (G : qG) : Value → Value
  | .ref k => .ref (G.1 + k)
  | .float b => if b.toNat < 2 then .ref (G.2.2.2.2.1 b.toNat) else if b.toNat < 4 then .ref (G.2.2.2.2.2.1 (b.toNat - 2)) else va_rf G.2.2.2.2.2.2
  | v => v
theorem qTv_float (G : qG) (b : UInt32) : qTv G (.float b) = if b.toNat < 2 then .ref (G.2.2.2.2.1 b.toNat) else if b.toNat < 4 then .ref (G.2.2.2.2.2.1 (b.toNat - 2)) else va_rf G.2.2.2.2.2.2 := rfl
theorem qTv_cat (G : qG) (v : Value) : (qTv G v).category = v.category := by
  cases v with
  | float b =>
    rw [qTv_float]
    by_cases h1 : b.toNat < 2
    · rw [if_pos h1]; rfl
    · rw [if_neg h1]
      by_cases h2 : b.toNat < 4
      · rw [if_pos h2]; rfl
      · rw [if_neg h2]
        cases G.2.2.2.2.2.2 <;> rfl
  | _ => rfl
def qRv : Option Nat → Value
  | some a => .ref a
  | none => .null
theorem qTv_rv (G : qG) (r : Option Nat) : qTv G (qRv r) = va_rf (qRf G.1 r) := by cases r <;> rfl
abbrev qLv : Type := List (Nat × Value)
def qLm (G : qG) (lv : qLv) : qLv := lv.map fun q => (q.1, qTv G q.2)
def qLk (n : Nat) : qLv → Option Value
  | [] => none
  | (i, v) :: l => if i = n then some v else qLk n l
theorem qLk_mem {n : Nat} {v : Value} : ∀ {lv : qLv}, qLk n lv = some v → (n, v) ∈ lv
  | [], h => by cases h
  | (i, w) :: l, h => by
    unfold qLk at h
    by_cases hi : i = n
    · rw [if_pos hi] at h
      cases h
      exact hi ▸ List.mem_cons_self
    · rw [if_neg hi] at h
      exact List.mem_cons_of_mem _ (qLk_mem h)
theorem qLk_has {G : qG} {ls : Array Slot} {nL n : Nat} {lv : qLv} {v : Value} (hl : lv_has ls nL (qLm G lv)) (h : qLk n lv = some v) : ls[n]? = some (.val (qTv G v)) :=
  hl.2.2 (n, qTv G v) (List.mem_map.mpr ⟨(n, v), qLk_mem h, rfl⟩)
def qDr (i : Nat) : qLv → qLv
  | [] => []
  | (j, v) :: l => if j = i then qDr i l else if j + 1 = i then (if v.category = 2 then qDr i l else (j, v) :: qDr i l) else (j, v) :: qDr i l
def qDr2 (i : Nat) : qLv → qLv
  | [] => []
  | (j, v) :: l => if j = i + 1 then qDr2 i l else (j, v) :: qDr2 i l
theorem qDr_eq (G : qG) (i : Nat) : ∀ lv : qLv, qLm G (qDr i lv) = (qLm G lv).filter (fun q => !(q.1 == i) && !(q.1 + 1 == i && q.2.category == 2))
  | [] => rfl
  | (j, v) :: l => by
    have ih := qDr_eq G i l
    show qLm G (qDr i ((j, v) :: l)) = ((j, qTv G v) :: qLm G l).filter _
    rw [List.filter_cons]
    unfold qDr
    by_cases h1 : j = i
    · simp only [if_pos h1]
      rw [ih]
      simp [h1]
    · by_cases h2 : j + 1 = i
      · by_cases h3 : v.category = 2
        · simp only [if_neg h1, if_pos h2, if_pos h3]
          rw [ih]
          simp [h2, qTv_cat, h3]
        · simp only [if_neg h1, if_pos h2, if_neg h3]
          show (j, qTv G v) :: qLm G (qDr i l) = _
          rw [ih]
          simp [h1, h2, qTv_cat, h3]
      · simp only [if_neg h1, if_neg h2]
        show (j, qTv G v) :: qLm G (qDr i l) = _
        rw [ih]
        simp [h1, h2]
theorem qDr2_eq (G : qG) (i : Nat) : ∀ lv : qLv, qLm G (qDr i (qDr2 i lv)) = (qLm G lv).filter (fun q => !(q.1 == i) && (!(q.1 == i + 1) && !(q.1 + 1 == i && q.2.category == 2)))
  | lv => by
    have e : ∀ lv : qLv, qLm G (qDr2 i lv) = (qLm G lv).filter (fun q => !(q.1 == i + 1)) := by
      intro lv
      induction lv with
      | nil => rfl
      | cons q l ih =>
        obtain ⟨j, v⟩ := q
        show qLm G (qDr2 i ((j, v) :: l)) = ((j, qTv G v) :: qLm G l).filter _
        rw [List.filter_cons]
        unfold qDr2
        by_cases h : j = i + 1
        · simp only [if_pos h]
          rw [ih]
          simp [h]
        · simp only [if_neg h]
          show (j, qTv G v) :: qLm G (qDr2 i l) = _
          rw [ih]
          simp [h]
    rw [qDr_eq, e, List.filter_filter]
    congr 1
    funext q
    cases (q.1 == i) <;> cases (q.1 == i + 1) <;> simp
/-- an abstract value that is a reference or null -/
def qIsV : Value → Bool
  | .ref _ => true
  | .null => true
  | .float _ => true
  | _ => false
theorem qTv_ref (G : qG) {v : Value} (h : qIsV v = true) : qTv G v = .null ∨ ∃ a, qTv G v = .ref a := by
  cases v with
  | ref k => exact Or.inr ⟨_, rfl⟩
  | null => exact Or.inl rfl
  | float b =>
    rw [qTv_float]
    by_cases h1 : b.toNat < 2
    · rw [if_pos h1]; exact Or.inr ⟨_, rfl⟩
    · rw [if_neg h1]
      by_cases h2 : b.toNat < 4
      · rw [if_pos h2]; exact Or.inr ⟨_, rfl⟩
      · rw [if_neg h2]
        cases G.2.2.2.2.2.2 with
        | none => exact Or.inl rfl
        | some a => exact Or.inr ⟨a, rfl⟩
  | _ => cases h
/-! ===== what holds around a method ===== -/
def qTys (dA : Nat → ClassId) : List (ClassId × FieldType) := [(dA 10, .int), (dA 11, .byte), (dA 12, .boolean), (dA 13, .long), (dA 14, .object "MirageLoans$State")]
abbrev qA (G : qG) : Nat → Prop := fun q => G.1 ≤ q
def qNest : List (String × Nat × MethodName × String) := [("MirageLoans", 11, yX5_init, "MirageLoans"), ("MirageLoans", 18, yX1_init, "MirageLoans"), ("MirageLoans$Flat", 52, yX2_init, "MirageLoans"), ("MirageLoans", 25, yX4_init, "MirageLoans"), ("MirageLoans$Past", 22, yX4_init, "MirageLoans"), ("MirageLoans", 50, yX7_init, "MirageLoans"), ("MirageLoans$Laws", 50, yX8_within, "MirageLoans"), ("MirageLoans$State", 59, yX8_loanOf, "MirageLoans"), ("MirageLoans$Flat", 109, yX8_loanOf, "MirageLoans")]
def qTx0 : Nat := 29
def qText0 : String := "thing seat heat seen moved rent interest grace winds begins seed if then else hour day warm far tall across lent side at "
def qTx1 : Nat := 71
def qText1 : String := ";=+-*/<()"
def qLen : List Nat := [121, 9]
def qByt : List (List Int32) := [[116, 104, 105, 110, 103, 32, 115, 101, 97, 116, 32, 104, 101, 97, 116, 32, 115, 101, 101, 110, 32, 109, 111, 118, 101, 100, 32, 114, 101, 110, 116, 32, 105, 110, 116, 101, 114, 101, 115, 116, 32, 103, 114, 97, 99, 101, 32, 119, 105, 110, 100, 115, 32, 98, 101, 103, 105, 110, 115, 32, 115, 101, 101, 100, 32, 105, 102, 32, 116, 104, 101, 110, 32, 101, 108, 115, 101, 32, 104, 111, 117, 114, 32, 100, 97, 121, 32, 119, 97, 114, 109, 32, 102, 97, 114, 32, 116, 97, 108, 108, 32, 97, 99, 114, 111, 115, 115, 32, 108, 101, 110, 116, 32, 115, 105, 100, 101, 32, 97, 116, 32], [59, 61, 43, 45, 42, 47, 60, 40, 41]]
/-- of the tables -/
def qCx (G : qG) (U : State) : Prop :=
  va_K (G.2.1, G.2.2.1) vwCl (qTys G.2.2.2.1) U ∧ va_AO "MirageLoans$State" U ∧ (∀ q ∈ qNest, va_Nw (.methodLinkNest q.1 q.2.1 q.2.2.1 q.2.2.2) U) ∧ vk_R "MirageLoans$Tokens" qTx0 qText0 (G.2.2.2.2.1 0) U ∧ vk_R "MirageLoans$Tokens" qTx1 qText1 (G.2.2.2.2.1 1) U
/-- of what lies below the base -/
def qHx (G : qG) (U : State) (H : Heap) : Prop :=
  vk_S 2 qLen qByt G.2.2.2.2.1 G.2.2.2.2.2.1 (qA G) U H ∧ va_Z "java/lang/String" "COMPACT_STRINGS" "Z" (.int 1) (qA G) U H ∧ va_Z "jdk/internal/util/Preconditions" "SIOOBE_FORMATTER" "Ljava/util/function/BiFunction;" (va_rf G.2.2.2.2.2.2) (qA G) U H
def qRep (G : qG) (t : Nat) (I : qMI) (L : qML) (R : qMR) (U : State) : Prop :=
  U.heap.size = G.1 + t ∧ va_P (G.2.1, G.2.2.1) vwCl (qWd G t I L R) U.heap ∧ qCx G U ∧ qHx G U U.heap
theorem qCx.warm {G : qG} {s U : State} (hW : s.WarmedH U.vm) (h : qCx G s) : qCx G U :=
  ⟨va_K.moved hW.alike h.1, va_AO.moved hW.alike h.2.1, fun q hq => va_Nw.warmM hW (h.2.2.1 q hq), vk_R.warm hW h.2.2.2.1, vk_R.warm hW h.2.2.2.2⟩
theorem qCx.same {G : qG} {s U : State} (hv : U.vm = s.vm) (h : qCx G s) : qCx G U :=
  ⟨va_K.moved (by rw [hv]; exact Vm.Alike.refl _) h.1, va_AO.moved (by rw [hv]; exact Vm.Alike.refl _) h.2.1, fun q hq => va_Nw.same rfl hv.symm (h.2.2.1 q hq), vk_R.same hv h.2.2.2.1, vk_R.same hv h.2.2.2.2⟩
theorem qHx.moved {G : qG} {s U : State} {H : Heap} (hv : s.vm.Alike U.vm) (h : qHx G s H) : qHx G U H := ⟨vk_S.moved hv h.1, va_Z.moved hv h.2.1, va_Z.moved hv h.2.2⟩
theorem qHx.kept {G : qG} {U : State} {H H1 : Heap} (hq : ∀ a : Nat, a < H.size → ¬ qA G a → H1[a]? = H[a]?) (h : qHx G U H) : qHx G U H1 := ⟨vk_S.kept h.1 hq, va_Z.kept h.2.1 hq, va_Z.kept h.2.2 hq⟩
/-! ===== contracts and the judgement inside a method ===== -/
/-- a method: name, bytes, locals, what it returns, cells and slots that it makes -/
abbrev qMn : Type := MethodName × ByteArray × Nat × Option FieldType × Nat × Nat
abbrev qQ : Type := Option Value → Nat → qMI → qML → qMR → Prop
def qRm (d mc ms : Nat) : Room := { frames := d, cells := mc, slots := ms, locals := 64 * d }
def qPc (G : qG) (as : List Value) (t : Nat) (I : qMI) (L : qML) (R : qMR) : Array Value → State → Prop := va_Pc (as.map (qTv G)) (qRep G t I L R)
def qQc (G : qG) (Q : qQ) : Array Value → State → Outcome → State → Prop := fun _ st o t =>
  (∃ (r : Option Value) (t' : Nat) (I' : qMI) (L' : qML) (R' : qMR), o = .returned (r.map (qTv G)) ∧ Q r t' I' L' R' ∧ qRep G t' I' L' R' t) ∧ va_F (qA G) st t
def qCall (l : Launch) (G : qG) (d : Nat) (M : qMn) (as : List Value) (t : Nat) (I : qMI) (L : qML) (R : qMR) (Q : qQ) : Prop :=
  Met l M.1 (.code M.1 M.2.1 M.2.2.1 M.2.2.2.1 :: gw) (qRm d M.2.2.2.2.1 M.2.2.2.2.2) (qPc G as t I L R) (qQc G Q) M.2.2.2.2.1 M.2.2.2.2.2 (qA G)
theorem qPc_blind {G : qG} {as : List Value} {t : Nat} {I : qMI} {L : qML} {R : qMR} : FrameBlind (qPc G as t I L R) := by
  intro a U g mk h
  obtain ⟨h0, h1, h2, h3, h4⟩ := h
  exact ⟨h0, h1, h2, qCx.same (s := U) rfl h3, qHx.moved (s := U) (Vm.Alike.refl U.vm) h4⟩
def qIn (G : qG) (M : qMn) (p : Program) (s : State) (m : MethodId) (args : Array Value) (meth : Method) (c : Code) : Prop :=
  p.tables.exec = Jvm.exec ∧ c.code = M.2.1 ∧ meth.sig.returnType = M.2.2.2.1 ∧ meth.locks = false ∧ c.maxLocals = M.2.2.1 ∧ s.vm.findClass M.1.cls = some m.cls ∧ (∀ w ∈ gw, w.before args s = true) ∧ qCx G s ∧ qHx G s s.heap ∧ G.1 ≤ s.heap.size ∧ meth.name = M.1.name
def qAb (l : Launch) (G : qG) (d : Nat) (M : qMn) (Q : qQ) (pc : Nat) (lv : qLv) (st : List Value) (ce sl t : Nat) (I : qMI) (L : qML) (R : qMR) : Prop :=
  ∀ (p : Program) (e : Env) (s : State) (m : MethodId) (args : Array Value) (below : List Frame) (meth : Method) (c : Code), qIn G M p s m args meth c →
    ∀ (H : Heap) (locs : List Loc) (ls : Array Slot), H.size = G.1 + t → va_P (G.2.1, G.2.2.1) vwCl (qWd G t I L R) H → va_S (qA G) s.heap H locs → lv_has ls M.2.2.1 (qLm G lv) →
      W p l e (qRm d M.2.2.2.2.1 M.2.2.2.2.2) s m args below meth c H locs ce sl (MQ below (qQc G Q) args s M.2.2.2.2.1 M.2.2.2.2.2 (qA G)) (F0 m pc ls (st.map (qTv G)))
theorem qCall_mono {l : Launch} {G : qG} {d : Nat} {M : qMn} {as : List Value} {t : Nat} {I : qMI} {L : qML} {R : qMR} {Q Q' : qQ} (h : qCall l G d M as t I L R Q) (k : ∀ r t' I' L' R', Q r t' I' L' R' → Q' r t' I' L' R') : qCall l G d M as t I L R Q' := by
  intro p e ha hc hk s m args below hf happ hpre hK
  obtain ⟨k1, o, h1, h2, h3, ⟨⟨⟨r, t', I', L', R', e1, e2, e3⟩, hF⟩, hL⟩⟩ := h p e ha hc hk s m args below hf happ hpre hK
  exact ⟨k1, o, h1, h2, h3, ⟨⟨⟨r, t', I', L', R', e1, k _ _ _ _ _ e2, e3⟩, hF⟩, hL⟩⟩
/-- a contract out of the walk of its body -/
theorem qCall_of {l : Launch} {G : qG} {d : Nat} {M : qMn} {as : List Value} {t : Nat} {I : qMI} {L : qML} {R : qMR} {Q : qQ} (hy : plainName M.1.cls = true) (hn : (lg_sl (as.map (qTv G))).length ≤ M.2.2.1) (lv : qLv) (hlv : lv_args 0 (as.map (qTv G)) = qLm G lv) (h : qAb l G d M Q 0 lv [] 0 0 t I L R) : qCall l G d M as t I L R Q := by
  refine Met.ofW (cc := M.2.1) (maxL := M.2.2.1) (ret := M.2.2.2.1) hy rfl ?_
  intro p e s m args below meth c s₁ B hml hv
  obtain ⟨rfl, hsz, hP, hC, hH⟩ := hv
  have hts := atoms_spec (ws := .code M.1 M.2.1 M.2.2.1 M.2.2.2.1 :: gw) B.pre
  have hown : s.vm.findClass M.1.cls = some m.cls := findClass_of_methodNamed B.named
  have hl := lv_entry (as.map (qTv G)) (n := M.2.2.1) hn
  rw [lg_entry_eq]
  rw [hlv] at hl
  exact h p e s m _ below meth c ⟨B.exec, B.bytes, B.returns, B.notSynchronized, hml, hown, fun w hw => hts w (List.mem_cons_of_mem _ hw), hC, hH, by rw [hsz]; exact Nat.le_add_right _ _, (name_of_methodNamed B.named B.method).1⟩ s.heap [] _ hsz hP va_S.rf hl
/-! ===== rows: an instruction each ===== -/
section QR
variable {l : Launch} {G : qG} {d : Nat} {M : qMn} {Q : qQ} {pc : Nat} {lv : qLv} {st : List Value} {ce sl t : Nat} {I : qMI} {L : qML} {R : qMR}
theorem q_iconst {n : Int} {v : Int32} (hd : decode M.2.1 pc = .ok (.iconst n, 1)) (hv : Int32.ofInt n = v) (k : qAb l G d M Q (pc + 1) lv (.int v :: st) ce sl t I L R) : qAb l G d M Q pc lv st ce sl t I L R := by
  intro p e s m args below meth c C H locs ls hz hP hS hl
  exact lv_iconst C.1 C.2.1 hd hv (k p e s m args below meth c C H locs ls hz hP hS hl)
theorem q_bipush {n : Int} {v : Int32} (hd : decode M.2.1 pc = .ok (.bipush n, 2)) (hv : (Int8.ofInt n).toInt32 = v) (k : qAb l G d M Q (pc + 2) lv (.int v :: st) ce sl t I L R) : qAb l G d M Q pc lv st ce sl t I L R := by
  intro p e s m args below meth c C H locs ls hz hP hS hl
  exact lv_bipush C.1 C.2.1 hd hv (k p e s m args below meth c C H locs ls hz hP hS hl)
theorem q_sipush {n : Int} {v : Int32} (hd : decode M.2.1 pc = .ok (.sipush n, 3)) (hv : (Int16.ofInt n).toInt32 = v) (k : qAb l G d M Q (pc + 3) lv (.int v :: st) ce sl t I L R) : qAb l G d M Q pc lv st ce sl t I L R := by
  intro p e s m args below meth c C H locs ls hz hP hS hl
  exact lv_sipush C.1 C.2.1 hd hv (k p e s m args below meth c C H locs ls hz hP hS hl)
theorem q_lconst {n : Fin 2} {v : Int64} (hd : decode M.2.1 pc = .ok (.lconst n, 1)) (hv : Int64.ofNat (n : Nat) = v) (k : qAb l G d M Q (pc + 1) lv (.long v :: st) ce sl t I L R) : qAb l G d M Q pc lv st ce sl t I L R := by
  intro p e s m args below meth c C H locs ls hz hP hS hl
  exact lv_lconst C.1 C.2.1 hd hv (k p e s m args below meth c C H locs ls hz hP hS hl)
theorem q_ldc {n : Nat} {v : Int32} (hd : decode M.2.1 pc = .ok (.ldc n, 2)) (hw : Cond.constant M.1.cls n v ∈ gw) (k : qAb l G d M Q (pc + 2) lv (.int v :: st) ce sl t I L R) : qAb l G d M Q pc lv st ce sl t I L R := by
  intro p e s m args below meth c C H locs ls hz hP hS hl
  obtain ⟨hx, hb, hr, hlk, hml, hown, hts, -⟩ := id C
  exact lv_ldc hx hb hown (hts _ hw) hd (k p e s m args below meth c C H locs ls hz hP hS hl)
theorem q_ldcw {n : Nat} {v : Int32} (hd : decode M.2.1 pc = .ok (.ldc_w n, 3)) (hw : Cond.constant M.1.cls n v ∈ gw) (k : qAb l G d M Q (pc + 3) lv (.int v :: st) ce sl t I L R) : qAb l G d M Q pc lv st ce sl t I L R := by
  intro p e s m args below meth c C H locs ls hz hP hS hl
  obtain ⟨hx, hb, hr, hlk, hml, hown, hts, -⟩ := id C
  exact lv_ldcw hx hb hown (hts _ hw) hd (k p e s m args below meth c C H locs ls hz hP hS hl)
theorem q_ldc2 {n : Nat} {v : Int64} (hd : decode M.2.1 pc = .ok (.ldc2_w n, 3)) (hw : Cond.constantLong M.1.cls n v ∈ gw) (k : qAb l G d M Q (pc + 3) lv (.long v :: st) ce sl t I L R) : qAb l G d M Q pc lv st ce sl t I L R := by
  intro p e s m args below meth c C H locs ls hz hP hS hl
  obtain ⟨hx, hb, hr, hlk, hml, hown, hts, -⟩ := id C
  exact lv_ldc2 hx hb hown (hts _ hw) hd (k p e s m args below meth c C H locs ls hz hP hS hl)
theorem q_iload_n {n : Fin 4} {i : Nat} {x : Int32} (hd : decode M.2.1 pc = .ok (.iload_n n, 1)) (hi : (n : Nat) = i) (hv : qLk i lv = some (.int x)) (k : qAb l G d M Q (pc + 1) lv (.int x :: st) ce sl t I L R) : qAb l G d M Q pc lv st ce sl t I L R := by
  intro p e s m args below meth c C H locs ls hz hP hS hl
  exact lv_iload_n C.1 C.2.1 hd hi (qLk_has hl hv) (k p e s m args below meth c C H locs ls hz hP hS hl)
theorem q_iload {i : Nat} {x : Int32} (hd : decode M.2.1 pc = .ok (.iload i, 2)) (hv : qLk i lv = some (.int x)) (k : qAb l G d M Q (pc + 2) lv (.int x :: st) ce sl t I L R) : qAb l G d M Q pc lv st ce sl t I L R := by
  intro p e s m args below meth c C H locs ls hz hP hS hl
  exact lv_iload C.1 C.2.1 hd (qLk_has hl hv) (k p e s m args below meth c C H locs ls hz hP hS hl)
theorem q_lload_n {n : Fin 4} {i : Nat} {x : Int64} (hd : decode M.2.1 pc = .ok (.lload_n n, 1)) (hi : (n : Nat) = i) (hv : qLk i lv = some (.long x)) (k : qAb l G d M Q (pc + 1) lv (.long x :: st) ce sl t I L R) : qAb l G d M Q pc lv st ce sl t I L R := by
  intro p e s m args below meth c C H locs ls hz hP hS hl
  exact lv_lload_n C.1 C.2.1 hd hi (qLk_has hl hv) (k p e s m args below meth c C H locs ls hz hP hS hl)
theorem q_lload {i : Nat} {x : Int64} (hd : decode M.2.1 pc = .ok (.lload i, 2)) (hv : qLk i lv = some (.long x)) (k : qAb l G d M Q (pc + 2) lv (.long x :: st) ce sl t I L R) : qAb l G d M Q pc lv st ce sl t I L R := by
  intro p e s m args below meth c C H locs ls hz hP hS hl
  exact lv_lload C.1 C.2.1 hd (qLk_has hl hv) (k p e s m args below meth c C H locs ls hz hP hS hl)
theorem q_aload_n {n : Fin 4} {i : Nat} {v : Value} (hd : decode M.2.1 pc = .ok (.aload_n n, 1)) (hi : (n : Nat) = i) (hv : qLk i lv = some v) (hq : qIsV v = true) (k : qAb l G d M Q (pc + 1) lv (v :: st) ce sl t I L R) : qAb l G d M Q pc lv st ce sl t I L R := by
  intro p e s m args below meth c C H locs ls hz hP hS hl
  have h1 := qLk_has hl hv
  rcases qTv_ref G hq with h | ⟨a, h⟩
  · rw [h] at h1
    have := k p e s m args below meth c C H locs ls hz hP hS hl
    rw [List.map_cons, h] at this
    exact lv_aload_nN C.1 C.2.1 hd hi h1 this
  · rw [h] at h1
    have := k p e s m args below meth c C H locs ls hz hP hS hl
    rw [List.map_cons, h] at this
    exact lv_aload_n C.1 C.2.1 hd hi h1 this
theorem q_istore_n {n : Fin 4} {i : Nat} {x : Int32} (hd : decode M.2.1 pc = .ok (.istore_n n, 1)) (hi : (n : Nat) = i) (hn : i < M.2.2.1) (k : qAb l G d M Q (pc + 1) ((i, .int x) :: qDr i lv) st ce sl t I L R) : qAb l G d M Q pc lv (.int x :: st) ce sl t I L R := by
  intro p e s m args below meth c C H locs ls hz hP hS hl
  exact lv_istore_n C.1 C.2.1 hd hi hl hn (lv' := qLm G ((i, .int x) :: qDr i lv)) (by show _ = (_, _) :: qLm G _; rw [qDr_eq]; rfl) (fun ls hl => k p e s m args below meth c C H locs ls hz hP hS hl)
theorem q_istore {i : Nat} {x : Int32} (hd : decode M.2.1 pc = .ok (.istore i, 2))  (hn : i < M.2.2.1) (k : qAb l G d M Q (pc + 2) ((i, .int x) :: qDr i lv) st ce sl t I L R) : qAb l G d M Q pc lv (.int x :: st) ce sl t I L R := by
  intro p e s m args below meth c C H locs ls hz hP hS hl
  exact lv_istore C.1 C.2.1 hd hl hn (lv' := qLm G ((i, .int x) :: qDr i lv)) (by show _ = (_, _) :: qLm G _; rw [qDr_eq]; rfl) (fun ls hl => k p e s m args below meth c C H locs ls hz hP hS hl)
theorem q_lstore_n {n : Fin 4} {i : Nat} {x : Int64} (hd : decode M.2.1 pc = .ok (.lstore_n n, 1)) (hi : (n : Nat) = i) (hn : i + 1 < M.2.2.1) (k : qAb l G d M Q (pc + 1) ((i, .long x) :: qDr i (qDr2 i lv)) st ce sl t I L R) : qAb l G d M Q pc lv (.long x :: st) ce sl t I L R := by
  intro p e s m args below meth c C H locs ls hz hP hS hl
  exact lv_lstore_n C.1 C.2.1 hd hi hl hn (lv' := qLm G ((i, .long x) :: qDr i (qDr2 i lv))) (by show _ = (_, _) :: qLm G _; rw [qDr2_eq]; rfl) (fun ls hl => k p e s m args below meth c C H locs ls hz hP hS hl)
theorem q_lstore {i : Nat} {x : Int64} (hd : decode M.2.1 pc = .ok (.lstore i, 2))  (hn : i + 1 < M.2.2.1) (k : qAb l G d M Q (pc + 2) ((i, .long x) :: qDr i (qDr2 i lv)) st ce sl t I L R) : qAb l G d M Q pc lv (.long x :: st) ce sl t I L R := by
  intro p e s m args below meth c C H locs ls hz hP hS hl
  exact lv_lstore C.1 C.2.1 hd hl hn (lv' := qLm G ((i, .long x) :: qDr i (qDr2 i lv))) (by show _ = (_, _) :: qLm G _; rw [qDr2_eq]; rfl) (fun ls hl => k p e s m args below meth c C H locs ls hz hP hS hl)
theorem q_astore_n {n : Fin 4} {i : Nat} {x : Nat} (hd : decode M.2.1 pc = .ok (.astore_n n, 1)) (hi : (n : Nat) = i) (hn : i < M.2.2.1) (k : qAb l G d M Q (pc + 1) ((i, .ref x) :: qDr i lv) st ce sl t I L R) : qAb l G d M Q pc lv (.ref x :: st) ce sl t I L R := by
  intro p e s m args below meth c C H locs ls hz hP hS hl
  exact lv_astore_n C.1 C.2.1 hd hi hl hn (lv' := qLm G ((i, .ref x) :: qDr i lv)) (by show _ = (_, _) :: qLm G _; rw [qDr_eq]; rfl) (fun ls hl => k p e s m args below meth c C H locs ls hz hP hS hl)
theorem q_iinc {i : Nat} {n : Int} {x v : Int32} (hd : decode M.2.1 pc = .ok (.iinc i n, 3)) (hx : qLk i lv = some (.int x)) (hv : Int32.ofInt n = v) (hn : i < M.2.2.1) (k : qAb l G d M Q (pc + 3) ((i, .int (x + v)) :: qDr i lv) st ce sl t I L R) : qAb l G d M Q pc lv st ce sl t I L R := by
  intro p e s m args below meth c C H locs ls hz hP hS hl
  obtain ⟨k0, hk0⟩ := List.getElem?_of_mem (List.mem_map.mpr ⟨(i, Value.int x), qLk_mem hx, rfl⟩ : (i, qTv G (.int x)) ∈ qLm G lv)
  exact lv_iinc C.1 C.2.1 hd hl (k := k0) hk0 (v := x + v) (by rw [hv]) hn (lv' := qLm G ((i, .int (x + v)) :: qDr i lv)) (by show _ = (_, _) :: qLm G _; rw [qDr_eq]; rfl) (fun ls hl => k p e s m args below meth c C H locs ls hz hP hS hl)
theorem q_iadd {x y : Int32} (hd : decode M.2.1 pc = .ok (.iadd, 1))  (k : qAb l G d M Q (pc + 1) lv (.int (x + y) :: st) ce sl t I L R) : qAb l G d M Q pc lv (.int y :: .int x :: st) ce sl t I L R := by
  intro p e s m args below meth c C H locs ls hz hP hS hl
  exact lv_iadd C.1 C.2.1 hd (k p e s m args below meth c C H locs ls hz hP hS hl)
theorem q_isub {x y : Int32} (hd : decode M.2.1 pc = .ok (.isub, 1))  (k : qAb l G d M Q (pc + 1) lv (.int (x - y) :: st) ce sl t I L R) : qAb l G d M Q pc lv (.int y :: .int x :: st) ce sl t I L R := by
  intro p e s m args below meth c C H locs ls hz hP hS hl
  exact lv_isub C.1 C.2.1 hd (k p e s m args below meth c C H locs ls hz hP hS hl)
theorem q_imul {x y : Int32} (hd : decode M.2.1 pc = .ok (.imul, 1))  (k : qAb l G d M Q (pc + 1) lv (.int (x * y) :: st) ce sl t I L R) : qAb l G d M Q pc lv (.int y :: .int x :: st) ce sl t I L R := by
  intro p e s m args below meth c C H locs ls hz hP hS hl
  exact lv_imul C.1 C.2.1 hd (k p e s m args below meth c C H locs ls hz hP hS hl)
theorem q_iand {x y : Int32} (hd : decode M.2.1 pc = .ok (.iand, 1))  (k : qAb l G d M Q (pc + 1) lv (.int (x &&& y) :: st) ce sl t I L R) : qAb l G d M Q pc lv (.int y :: .int x :: st) ce sl t I L R := by
  intro p e s m args below meth c C H locs ls hz hP hS hl
  exact lv_iand C.1 C.2.1 hd (k p e s m args below meth c C H locs ls hz hP hS hl)
theorem q_ior {x y : Int32} (hd : decode M.2.1 pc = .ok (.ior, 1))  (k : qAb l G d M Q (pc + 1) lv (.int (x ||| y) :: st) ce sl t I L R) : qAb l G d M Q pc lv (.int y :: .int x :: st) ce sl t I L R := by
  intro p e s m args below meth c C H locs ls hz hP hS hl
  exact lv_ior C.1 C.2.1 hd (k p e s m args below meth c C H locs ls hz hP hS hl)
theorem q_ixor {x y : Int32} (hd : decode M.2.1 pc = .ok (.ixor, 1))  (k : qAb l G d M Q (pc + 1) lv (.int (x ^^^ y) :: st) ce sl t I L R) : qAb l G d M Q pc lv (.int y :: .int x :: st) ce sl t I L R := by
  intro p e s m args below meth c C H locs ls hz hP hS hl
  exact lv_ixor C.1 C.2.1 hd (k p e s m args below meth c C H locs ls hz hP hS hl)
theorem q_idiv {x y : Int32} (hd : decode M.2.1 pc = .ok (.idiv, 1)) (h0 : ¬ y = 0) (k : qAb l G d M Q (pc + 1) lv (.int (x / y) :: st) ce sl t I L R) : qAb l G d M Q pc lv (.int y :: .int x :: st) ce sl t I L R := by
  intro p e s m args below meth c C H locs ls hz hP hS hl
  exact lv_idiv C.1 C.2.1 hd h0 (k p e s m args below meth c C H locs ls hz hP hS hl)
theorem q_irem {x y : Int32} (hd : decode M.2.1 pc = .ok (.irem, 1)) (h0 : ¬ y = 0) (k : qAb l G d M Q (pc + 1) lv (.int (x - x / y * y) :: st) ce sl t I L R) : qAb l G d M Q pc lv (.int y :: .int x :: st) ce sl t I L R := by
  intro p e s m args below meth c C H locs ls hz hP hS hl
  exact lv_irem C.1 C.2.1 hd h0 (k p e s m args below meth c C H locs ls hz hP hS hl)
theorem q_ishl {x y : Int32} (hd : decode M.2.1 pc = .ok (.ishl, 1))  (k : qAb l G d M Q (pc + 1) lv (.int (x <<< (y &&& 31)) :: st) ce sl t I L R) : qAb l G d M Q pc lv (.int y :: .int x :: st) ce sl t I L R := by
  intro p e s m args below meth c C H locs ls hz hP hS hl
  exact lv_ishl C.1 C.2.1 hd (k p e s m args below meth c C H locs ls hz hP hS hl)
theorem q_ishr {x y : Int32} (hd : decode M.2.1 pc = .ok (.ishr, 1))  (k : qAb l G d M Q (pc + 1) lv (.int (x >>> (y &&& 31)) :: st) ce sl t I L R) : qAb l G d M Q pc lv (.int y :: .int x :: st) ce sl t I L R := by
  intro p e s m args below meth c C H locs ls hz hP hS hl
  exact lv_ishr C.1 C.2.1 hd (k p e s m args below meth c C H locs ls hz hP hS hl)
theorem q_iushr {x y : Int32} (hd : decode M.2.1 pc = .ok (.iushr, 1))  (k : qAb l G d M Q (pc + 1) lv (.int ((x.toUInt32 >>> (y.toUInt32 &&& Int32.toUInt32 31)).toInt32) :: st) ce sl t I L R) : qAb l G d M Q pc lv (.int y :: .int x :: st) ce sl t I L R := by
  intro p e s m args below meth c C H locs ls hz hP hS hl
  exact lv_iushr C.1 C.2.1 hd rfl (k p e s m args below meth c C H locs ls hz hP hS hl)
theorem q_ladd {x y : Int64} (hd : decode M.2.1 pc = .ok (.ladd, 1))  (k : qAb l G d M Q (pc + 1) lv (.long (x + y) :: st) ce sl t I L R) : qAb l G d M Q pc lv (.long y :: .long x :: st) ce sl t I L R := by
  intro p e s m args below meth c C H locs ls hz hP hS hl
  exact lv_ladd C.1 C.2.1 hd (k p e s m args below meth c C H locs ls hz hP hS hl)
theorem q_lmul {x y : Int64} (hd : decode M.2.1 pc = .ok (.lmul, 1))  (k : qAb l G d M Q (pc + 1) lv (.long (x * y) :: st) ce sl t I L R) : qAb l G d M Q pc lv (.long y :: .long x :: st) ce sl t I L R := by
  intro p e s m args below meth c C H locs ls hz hP hS hl
  exact lv_lmul C.1 C.2.1 hd (k p e s m args below meth c C H locs ls hz hP hS hl)
theorem q_ineg {x : Int32} (hd : decode M.2.1 pc = .ok (.ineg, 1))  (k : qAb l G d M Q (pc + 1) lv (.int (-x) :: st) ce sl t I L R) : qAb l G d M Q pc lv (.int x :: st) ce sl t I L R := by
  intro p e s m args below meth c C H locs ls hz hP hS hl
  exact lv_ineg C.1 C.2.1 hd (k p e s m args below meth c C H locs ls hz hP hS hl)
theorem q_i2l {x : Int32} (hd : decode M.2.1 pc = .ok (.i2l, 1))  (k : qAb l G d M Q (pc + 1) lv (.long x.toInt64 :: st) ce sl t I L R) : qAb l G d M Q pc lv (.int x :: st) ce sl t I L R := by
  intro p e s m args below meth c C H locs ls hz hP hS hl
  exact lv_i2l C.1 C.2.1 hd rfl (k p e s m args below meth c C H locs ls hz hP hS hl)
theorem q_l2i {x : Int64} (hd : decode M.2.1 pc = .ok (.l2i, 1))  (k : qAb l G d M Q (pc + 1) lv (.int x.toInt32 :: st) ce sl t I L R) : qAb l G d M Q pc lv (.long x :: st) ce sl t I L R := by
  intro p e s m args below meth c C H locs ls hz hP hS hl
  exact lv_l2i C.1 C.2.1 hd rfl (k p e s m args below meth c C H locs ls hz hP hS hl)
theorem q_i2b {x : Int32} (hd : decode M.2.1 pc = .ok (.i2b, 1))  (k : qAb l G d M Q (pc + 1) lv (.int x.toInt8.toInt32 :: st) ce sl t I L R) : qAb l G d M Q pc lv (.int x :: st) ce sl t I L R := by
  intro p e s m args below meth c C H locs ls hz hP hS hl
  exact lv_i2b C.1 C.2.1 hd rfl (k p e s m args below meth c C H locs ls hz hP hS hl)
theorem q_i2c {x : Int32} (hd : decode M.2.1 pc = .ok (.i2c, 1))  (k : qAb l G d M Q (pc + 1) lv (.int (x.toUInt32 % 65536).toInt32 :: st) ce sl t I L R) : qAb l G d M Q pc lv (.int x :: st) ce sl t I L R := by
  intro p e s m args below meth c C H locs ls hz hP hS hl
  exact lv_i2c C.1 C.2.1 hd rfl (k p e s m args below meth c C H locs ls hz hP hS hl)
theorem q_lcmp {x y : Int64} (hd : decode M.2.1 pc = .ok (.lcmp, 1))  (k : qAb l G d M Q (pc + 1) lv (.int (lg_cmp x y) :: st) ce sl t I L R) : qAb l G d M Q pc lv (.long y :: .long x :: st) ce sl t I L R := by
  intro p e s m args below meth c C H locs ls hz hP hS hl
  exact W.lcmp C.1 C.2.1 hd (k p e s m args below meth c C H locs ls hz hP hS hl)
theorem q_dup {v : Value} (hd : decode M.2.1 pc = .ok (.dup, 1)) (hc : v.category = 1) (k : qAb l G d M Q (pc + 1) lv (v :: v :: st) ce sl t I L R) : qAb l G d M Q pc lv (v :: st) ce sl t I L R := by
  intro p e s m args below meth c C H locs ls hz hP hS hl
  exact lv_dup C.1 C.2.1 hd (by rw [qTv_cat]; exact hc) (k p e s m args below meth c C H locs ls hz hP hS hl)
theorem q_pop {v : Value} (hd : decode M.2.1 pc = .ok (.pop, 1)) (hc : v.category = 1) (k : qAb l G d M Q (pc + 1) lv st ce sl t I L R) : qAb l G d M Q pc lv (v :: st) ce sl t I L R := by
  intro p e s m args below meth c C H locs ls hz hP hS hl
  exact lv_pop C.1 C.2.1 hd (by rw [qTv_cat]; exact hc) (k p e s m args below meth c C H locs ls hz hP hS hl)
theorem q_dup2 {v w : Value} (hd : decode M.2.1 pc = .ok (.dup2, 1)) (hc : v.category = 1) (hc2 : w.category = 1) (k : qAb l G d M Q (pc + 1) lv (v :: w :: v :: w :: st) ce sl t I L R) : qAb l G d M Q pc lv (v :: w :: st) ce sl t I L R := by
  intro p e s m args below meth c C H locs ls hz hP hS hl
  exact lv_dup2_11 C.1 C.2.1 hd (by rw [qTv_cat]; exact hc) (by rw [qTv_cat]; exact hc2) (k p e s m args below meth c C H locs ls hz hP hS hl)
theorem q_if_eq {x : Int32} {off : Int} {tgt : Nat} (hd : decode M.2.1 pc = .ok (.ifCond .eq off, 3)) (ht : (pc : Int) + off = (tgt : Int)) (kt : x = 0 → qAb l G d M Q tgt lv st ce sl t I L R) (kf : ¬ x = 0 → qAb l G d M Q (pc + 3) lv st ce sl t I L R) : qAb l G d M Q pc lv (.int x :: st) ce sl t I L R := by
  intro p e s m args below meth c C H locs ls hz hP hS hl
  exact lv_if_eq C.1 C.2.1 hd ht (fun h => kt h p e s m args below meth c C H locs ls hz hP hS hl) (fun h => kf h p e s m args below meth c C H locs ls hz hP hS hl)
theorem q_icmp_eq {x y : Int32} {off : Int} {tgt : Nat} (hd : decode M.2.1 pc = .ok (.if_icmp .eq off, 3)) (ht : (pc : Int) + off = (tgt : Int)) (kt : x = y → qAb l G d M Q tgt lv st ce sl t I L R) (kf : ¬ x = y → qAb l G d M Q (pc + 3) lv st ce sl t I L R) : qAb l G d M Q pc lv (.int y :: .int x :: st) ce sl t I L R := by
  intro p e s m args below meth c C H locs ls hz hP hS hl
  exact lv_icmp_eq C.1 C.2.1 hd ht (fun h => kt h p e s m args below meth c C H locs ls hz hP hS hl) (fun h => kf h p e s m args below meth c C H locs ls hz hP hS hl)
theorem q_if_ne {x : Int32} {off : Int} {tgt : Nat} (hd : decode M.2.1 pc = .ok (.ifCond .ne off, 3)) (ht : (pc : Int) + off = (tgt : Int)) (kt : ¬ x = 0 → qAb l G d M Q tgt lv st ce sl t I L R) (kf : x = 0 → qAb l G d M Q (pc + 3) lv st ce sl t I L R) : qAb l G d M Q pc lv (.int x :: st) ce sl t I L R := by
  intro p e s m args below meth c C H locs ls hz hP hS hl
  exact lv_if_ne C.1 C.2.1 hd ht (fun h => kt h p e s m args below meth c C H locs ls hz hP hS hl) (fun h => kf h p e s m args below meth c C H locs ls hz hP hS hl)
theorem q_icmp_ne {x y : Int32} {off : Int} {tgt : Nat} (hd : decode M.2.1 pc = .ok (.if_icmp .ne off, 3)) (ht : (pc : Int) + off = (tgt : Int)) (kt : ¬ x = y → qAb l G d M Q tgt lv st ce sl t I L R) (kf : x = y → qAb l G d M Q (pc + 3) lv st ce sl t I L R) : qAb l G d M Q pc lv (.int y :: .int x :: st) ce sl t I L R := by
  intro p e s m args below meth c C H locs ls hz hP hS hl
  exact lv_icmp_ne C.1 C.2.1 hd ht (fun h => kt h p e s m args below meth c C H locs ls hz hP hS hl) (fun h => kf h p e s m args below meth c C H locs ls hz hP hS hl)
theorem q_if_lt {x : Int32} {off : Int} {tgt : Nat} (hd : decode M.2.1 pc = .ok (.ifCond .lt off, 3)) (ht : (pc : Int) + off = (tgt : Int)) (kt : x < 0 → qAb l G d M Q tgt lv st ce sl t I L R) (kf : ¬ x < 0 → qAb l G d M Q (pc + 3) lv st ce sl t I L R) : qAb l G d M Q pc lv (.int x :: st) ce sl t I L R := by
  intro p e s m args below meth c C H locs ls hz hP hS hl
  exact lv_if_lt C.1 C.2.1 hd ht (fun h => kt h p e s m args below meth c C H locs ls hz hP hS hl) (fun h => kf h p e s m args below meth c C H locs ls hz hP hS hl)
theorem q_icmp_lt {x y : Int32} {off : Int} {tgt : Nat} (hd : decode M.2.1 pc = .ok (.if_icmp .lt off, 3)) (ht : (pc : Int) + off = (tgt : Int)) (kt : x < y → qAb l G d M Q tgt lv st ce sl t I L R) (kf : ¬ x < y → qAb l G d M Q (pc + 3) lv st ce sl t I L R) : qAb l G d M Q pc lv (.int y :: .int x :: st) ce sl t I L R := by
  intro p e s m args below meth c C H locs ls hz hP hS hl
  exact lv_icmp_lt C.1 C.2.1 hd ht (fun h => kt h p e s m args below meth c C H locs ls hz hP hS hl) (fun h => kf h p e s m args below meth c C H locs ls hz hP hS hl)
theorem q_if_ge {x : Int32} {off : Int} {tgt : Nat} (hd : decode M.2.1 pc = .ok (.ifCond .ge off, 3)) (ht : (pc : Int) + off = (tgt : Int)) (kt : 0 ≤ x → qAb l G d M Q tgt lv st ce sl t I L R) (kf : ¬ 0 ≤ x → qAb l G d M Q (pc + 3) lv st ce sl t I L R) : qAb l G d M Q pc lv (.int x :: st) ce sl t I L R := by
  intro p e s m args below meth c C H locs ls hz hP hS hl
  exact lv_if_ge C.1 C.2.1 hd ht (fun h => kt h p e s m args below meth c C H locs ls hz hP hS hl) (fun h => kf h p e s m args below meth c C H locs ls hz hP hS hl)
theorem q_icmp_ge {x y : Int32} {off : Int} {tgt : Nat} (hd : decode M.2.1 pc = .ok (.if_icmp .ge off, 3)) (ht : (pc : Int) + off = (tgt : Int)) (kt : y ≤ x → qAb l G d M Q tgt lv st ce sl t I L R) (kf : ¬ y ≤ x → qAb l G d M Q (pc + 3) lv st ce sl t I L R) : qAb l G d M Q pc lv (.int y :: .int x :: st) ce sl t I L R := by
  intro p e s m args below meth c C H locs ls hz hP hS hl
  exact lv_icmp_ge C.1 C.2.1 hd ht (fun h => kt h p e s m args below meth c C H locs ls hz hP hS hl) (fun h => kf h p e s m args below meth c C H locs ls hz hP hS hl)
theorem q_if_gt {x : Int32} {off : Int} {tgt : Nat} (hd : decode M.2.1 pc = .ok (.ifCond .gt off, 3)) (ht : (pc : Int) + off = (tgt : Int)) (kt : 0 < x → qAb l G d M Q tgt lv st ce sl t I L R) (kf : ¬ 0 < x → qAb l G d M Q (pc + 3) lv st ce sl t I L R) : qAb l G d M Q pc lv (.int x :: st) ce sl t I L R := by
  intro p e s m args below meth c C H locs ls hz hP hS hl
  exact lv_if_gt C.1 C.2.1 hd ht (fun h => kt h p e s m args below meth c C H locs ls hz hP hS hl) (fun h => kf h p e s m args below meth c C H locs ls hz hP hS hl)
theorem q_icmp_gt {x y : Int32} {off : Int} {tgt : Nat} (hd : decode M.2.1 pc = .ok (.if_icmp .gt off, 3)) (ht : (pc : Int) + off = (tgt : Int)) (kt : y < x → qAb l G d M Q tgt lv st ce sl t I L R) (kf : ¬ y < x → qAb l G d M Q (pc + 3) lv st ce sl t I L R) : qAb l G d M Q pc lv (.int y :: .int x :: st) ce sl t I L R := by
  intro p e s m args below meth c C H locs ls hz hP hS hl
  exact lv_icmp_gt C.1 C.2.1 hd ht (fun h => kt h p e s m args below meth c C H locs ls hz hP hS hl) (fun h => kf h p e s m args below meth c C H locs ls hz hP hS hl)
theorem q_if_le {x : Int32} {off : Int} {tgt : Nat} (hd : decode M.2.1 pc = .ok (.ifCond .le off, 3)) (ht : (pc : Int) + off = (tgt : Int)) (kt : x ≤ 0 → qAb l G d M Q tgt lv st ce sl t I L R) (kf : ¬ x ≤ 0 → qAb l G d M Q (pc + 3) lv st ce sl t I L R) : qAb l G d M Q pc lv (.int x :: st) ce sl t I L R := by
  intro p e s m args below meth c C H locs ls hz hP hS hl
  exact lv_if_le C.1 C.2.1 hd ht (fun h => kt h p e s m args below meth c C H locs ls hz hP hS hl) (fun h => kf h p e s m args below meth c C H locs ls hz hP hS hl)
theorem q_icmp_le {x y : Int32} {off : Int} {tgt : Nat} (hd : decode M.2.1 pc = .ok (.if_icmp .le off, 3)) (ht : (pc : Int) + off = (tgt : Int)) (kt : x ≤ y → qAb l G d M Q tgt lv st ce sl t I L R) (kf : ¬ x ≤ y → qAb l G d M Q (pc + 3) lv st ce sl t I L R) : qAb l G d M Q pc lv (.int y :: .int x :: st) ce sl t I L R := by
  intro p e s m args below meth c C H locs ls hz hP hS hl
  exact lv_icmp_le C.1 C.2.1 hd ht (fun h => kt h p e s m args below meth c C H locs ls hz hP hS hl) (fun h => kf h p e s m args below meth c C H locs ls hz hP hS hl)
theorem q_goto {off : Int} {tgt : Nat} (hd : decode M.2.1 pc = .ok (.goto off, 3)) (ht : (pc : Int) + off = (tgt : Int)) (k : qAb l G d M Q tgt lv st ce sl t I L R) : qAb l G d M Q pc lv st ce sl t I L R := by
  intro p e s m args below meth c C H locs ls hz hP hS hl
  exact lv_goto C.1 C.2.1 hd ht (k p e s m args below meth c C H locs ls hz hP hS hl)

end QR
