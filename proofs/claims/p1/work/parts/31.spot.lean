/-! ===== where a THING is SEEN, by runs: the class ===== -/
def zLC : List (Nat × Nat) := [(265, 79556879991463600596904591597529070096520515461491309826281645800643980993649948780475637936627413737841623234), (266, 5182088206341248772641590318316229766276448436211450156977661720653780134530050651042428325397503083998828989486791006223554113762138526498953227947493534437099960989204611670611808263266053306683065202335307449691924559049866), (267, 58968162887836583628774290327941701420576894069006881693378223441337877537377325813845730080900918889874163371471040160259290571960934397804717212882639579416128140426), (268, 79571717825565862746586596290188975362966749132440832823624218894583364010618087698071722), (269, 94974874150930100359848121286500343220252555011281348541312973015555051168906109677311381961517547942178192414922093156611033153310440384478323417154540175843788800843818467626), (270, 16370261860887626327073989981991804685587234403397639348073873754502825763374006375415222980577059110130761598468688296242444387394969374179894106157284035921117657192806942492319028750468591294602138303518199049476542832355769503829982586909188799844322413999274695315188622207939664459390390881132986465581709926377088805874679773209144006886547662789068845620521213926904209912285364224650)]
def zds (x y : Nat) : Nat := Nat.add (Nat.sub x y) (Nat.sub y x)
/-- where it is seen, one more; 0: it is not -/
def zsC (x y w : Nat) : Nat := bif Nat.ble w (zds x y) then 0 else Nat.succ y
noncomputable def zrC (x y wp c : Nat) : Bool := f_X2_aim [.inr (.ref 265), .inl 9223372043297226776, .inl wp, .inl (Nat.add x 2147483648), .inl (Nat.add y 2147483648), .inl 9223372047592194057] 336 (zP zLC) (fun r t A => Option.rec (motive := fun _ => Bool) (bif Nat.beq t 336 then (bif zsubA A (zP zLC) then f_X2_spot [.inr (.ref 265)] t A (zchk c zLC) else false) else false) (fun _ => false) r)
noncomputable def zrC2 (x y : Nat) : Bool := bif zrC x y (zmkc 2147483648 (Nat.add (zds x y) 2147483648)) 2147483647 then zrC x y (zmkc (Nat.add (zds x y) 2147483649) 2147483747) (Nat.add y 2147483648) else false
theorem zrC_0 : zall [0, 1, 2, 3, 4] (fun x => zall [0, 1, 2, 3, 4, 5, 6, 7, 8, 9, 10, 11, 12, 13, 14, 15, 16, 17, 18, 19] (fun y => zrC2 x y)) = true := by decide +kernel
theorem zrC_1 : zall [5, 6, 7, 8, 9] (fun x => zall [0, 1, 2, 3, 4, 5, 6, 7, 8, 9, 10, 11, 12, 13, 14, 15, 16, 17, 18, 19] (fun y => zrC2 x y)) = true := by decide +kernel
theorem zrC_2 : zall [10, 11, 12, 13, 14] (fun x => zall [0, 1, 2, 3, 4, 5, 6, 7, 8, 9, 10, 11, 12, 13, 14, 15, 16, 17, 18, 19] (fun y => zrC2 x y)) = true := by decide +kernel
theorem zrC_3 : zall [15, 16, 17, 18, 19] (fun x => zall [0, 1, 2, 3, 4, 5, 6, 7, 8, 9, 10, 11, 12, 13, 14, 15, 16, 17, 18, 19] (fun y => zrC2 x y)) = true := by decide +kernel
theorem zlt20 {x : Nat} (h : x < 20) : x ∈ [0, 1, 2, 3, 4, 5, 6, 7, 8, 9, 10, 11, 12, 13, 14, 15, 16, 17, 18, 19] := by
  rcases (show x = 0 ∨ x = 1 ∨ x = 2 ∨ x = 3 ∨ x = 4 ∨ x = 5 ∨ x = 6 ∨ x = 7 ∨ x = 8 ∨ x = 9 ∨ x = 10 ∨ x = 11 ∨ x = 12 ∨ x = 13 ∨ x = 14 ∨ x = 15 ∨ x = 16 ∨ x = 17 ∨ x = 18 ∨ x = 19 by omega) with rfl | rfl | rfl | rfl | rfl | rfl | rfl | rfl | rfl | rfl | rfl | rfl | rfl | rfl | rfl | rfl | rfl | rfl | rfl | rfl <;> decide
theorem zrC_ok {x y : Nat} (hx : x < 20) (hy : y < 20) : zrC2 x y = true := by
  by_cases h1 : x < 5
  · exact zall_t (zall_t zrC_0 x (by rcases (show x = 0 ∨ x = 1 ∨ x = 2 ∨ x = 3 ∨ x = 4 by omega) with rfl | rfl | rfl | rfl | rfl <;> decide)) y (zlt20 hy)
  by_cases h2 : x < 10
  · exact zall_t (zall_t zrC_1 x (by rcases (show x = 5 ∨ x = 6 ∨ x = 7 ∨ x = 8 ∨ x = 9 by omega) with rfl | rfl | rfl | rfl | rfl <;> decide)) y (zlt20 hy)
  by_cases h3 : x < 15
  · exact zall_t (zall_t zrC_2 x (by rcases (show x = 10 ∨ x = 11 ∨ x = 12 ∨ x = 13 ∨ x = 14 by omega) with rfl | rfl | rfl | rfl | rfl <;> decide)) y (zlt20 hy)
  · exact zall_t (zall_t zrC_3 x (by rcases (show x = 15 ∨ x = 16 ∨ x = 17 ∨ x = 18 ∨ x = 19 by omega) with rfl | rfl | rfl | rfl | rfl <;> decide)) y (zlt20 hy)
theorem zds_le {x y : Nat} (hx : x < 20) (hy : y < 20) : zds x y < 20 := by
  unfold zds
  rw [zadd_e, zsub_e, zsub_e]
  omega
/-- the two calls, one behind the other -/
theorem zaimspot {l : Launch} {G : qG} {d : Nat} {x y w h : Nat} {tl : Int32} {I : qMI} {L : qML} {R : qMR} (hx : x < 20) (hy : y < 20) (hw : w < 24) (hh : h ≤ 24) (ht : zin 9223372047592194057 tl) (hm : zM (I, L, R) 336 (zP zLC) I L R) :
    qCall l G (d + 4) n_X2_aim [.ref 265, .int (nI h), .int (nI w), .int (nI x), .int (nI y), .int tl] 336 I L R (fun r t I1 L1 R1 => r = none ∧ t = 336 ∧ zM (I, L, R) 336 (zP zLC) I1 L1 R1 ∧ qCall l G (d + 4) n_X2_spot [.ref 265] 336 I1 L1 R1 (fun r t I2 L2 R2 => (∃ v, r = some (.int v) ∧ v + 1 = nI (zsC x y w)) ∧ t = 336 ∧ zM (I, L, R) 336 (zP zLC) I2 L2 R2)) := by
  have hr := zrC_ok hx hy
  have hds := zds_le hx hy
  have key : ∃ wp c, zin wp (nI w) ∧ zc c + 1 = nI (zsC x y w) ∧ zrC x y wp c = true := by
    obtain ⟨h1, h2⟩ := zand hr
    by_cases hc : w ≤ zds x y
    · refine ⟨_, _, zmkc_in ?_ ?_ ?_, ?_, h1⟩
      · rw [zadd_e]; omega
      · rw [zb_nIs (by omega)]; omega
      · rw [zb_nIs (by omega), zadd_e]; omega
      · unfold zsC
        rw [Nat.ble_eq_true_of_le hc, cond_true]
        decide
    · refine ⟨_, _, zmkc_in ?_ ?_ ?_, ?_, h2⟩
      · decide
      · rw [zb_nIs (by omega), zadd_e]; omega
      · rw [zb_nIs (by omega)]; omega
      · unfold zsC
        have hb : Nat.ble w (zds x y) = false := by
          cases hq : Nat.ble w (zds x y) with
          | false => rfl
          | true => exact absurd (Nat.le_of_ble_eq_true hq) hc
        rw [hb, cond_false, zadd_e, zc_nI (by omega), ← nI_succ]
  obtain ⟨wp, c, k1, k2, k3⟩ := key
  have hz : ∀ n, n < 2 ^ 31 → zin (Nat.add n 2147483648) (nI n) := fun n hn => zin_eq (zb_nIs hn)
  have hhp : zin 9223372043297226776 (nI h) := ⟨by rw [zb_nIs (by omega)]; show 2147483648 ≤ _; omega, by rw [zb_nIs (by omega)]; show _ ≤ 2147483672; omega⟩
  refine qCall_mono (c_X2_aim (d + 3) _ 336 (zP zLC) _ k3 [.ref 265, .int (nI h), .int (nI w), .int (nI x), .int (nI y), .int tl] I L R ⟨⟨rfl, rfl⟩, zg_i hhp, zg_i k1, zg_i (hz x (by omega)), zg_i (hz y (by omega)), zg_i ht, trivial⟩ hm) ?_
  intro r t I1 L1 R1 hq
  obtain ⟨r0, A, q1, q2, q3⟩ := hq
  cases r0 with
  | some v => cases q3
  | none =>
    cases r with
    | some v => exact q1.elim
    | none =>
      obtain ⟨p1, p2⟩ := zand (show (bif Nat.beq t 336 then (bif zsubA A (zP zLC) then f_X2_spot [.inr (.ref 265)] t A (zchk c zLC) else false) else false) = true from q3)
      obtain ⟨p3, p4⟩ := zand p2
      have e := Nat.eq_of_beq_eq_true p1
      subst e
      refine ⟨rfl, rfl, zM_sub q2 p3, ?_⟩
      refine qCall_mono (c_X2_spot d _ 336 A _ p4 [.ref 265] I1 L1 R1 ⟨⟨rfl, rfl⟩, trivial⟩ q2) ?_
      intro r t I2 L2 R2 hq2
      obtain ⟨r0, A2, s1, s2, s3⟩ := hq2
      obtain ⟨t1, t2, t3⟩ := zchk_t s3 s1 s2
      exact ⟨⟨_, t1, k2⟩, t2, t3⟩
theorem zxOf_r : zall [0, 1, 2, 3, 4, 5, 6, 7, 8, 9, 10, 11, 12, 13, 14, 15, 16, 17, 18, 19, 20, 21, 22, 23, 24, 25, 26, 27, 28, 29, 30, 31, 32, 33, 34, 35, 36, 37, 38, 39, 40, 41, 42, 43, 44, 45, 46, 47, 48, 49, 50, 51, 52, 53, 54, 55, 56, 57, 58, 59, 60, 61, 62, 63, 64, 65, 66, 67, 68, 69, 70, 71, 72, 73, 74, 75, 76, 77, 78, 79, 80, 81, 82, 83, 84, 85, 86, 87, 88, 89, 90, 91, 92, 93, 94, 95, 96, 97, 98, 99, 100, 101, 102, 103, 104, 105, 106, 107, 108, 109, 110, 111, 112, 113, 114, 115, 116, 117, 118, 119, 120, 121, 122, 123, 124, 125, 126, 127, 128, 129, 130, 131, 132, 133, 134, 135, 136, 137, 138, 139, 140, 141, 142, 143, 144, 145, 146, 147, 148, 149, 150, 151, 152, 153, 154, 155, 156, 157, 158, 159, 160, 161, 162, 163, 164, 165, 166, 167, 168, 169, 170, 171, 172, 173, 174, 175, 176, 177, 178, 179] (fun s => bif f_X7_xOf [.inl (Nat.add s 2147483648)] 336 (zP []) (zchk (Nat.add (Nat.div s 9) 2147483648) []) then f_X7_tallOf [.inl (Nat.add s 2147483648)] 336 (zP []) (zchk (Nat.add (Nat.succ (Nat.mod s 9)) 2147483648) []) else false) = true := by decide +kernel
theorem zrange180 {s : Nat} (h : s < 180) : s ∈ [0, 1, 2, 3, 4, 5, 6, 7, 8, 9, 10, 11, 12, 13, 14, 15, 16, 17, 18, 19, 20, 21, 22, 23, 24, 25, 26, 27, 28, 29, 30, 31, 32, 33, 34, 35, 36, 37, 38, 39, 40, 41, 42, 43, 44, 45, 46, 47, 48, 49, 50, 51, 52, 53, 54, 55, 56, 57, 58, 59, 60, 61, 62, 63, 64, 65, 66, 67, 68, 69, 70, 71, 72, 73, 74, 75, 76, 77, 78, 79, 80, 81, 82, 83, 84, 85, 86, 87, 88, 89, 90, 91, 92, 93, 94, 95, 96, 97, 98, 99, 100, 101, 102, 103, 104, 105, 106, 107, 108, 109, 110, 111, 112, 113, 114, 115, 116, 117, 118, 119, 120, 121, 122, 123, 124, 125, 126, 127, 128, 129, 130, 131, 132, 133, 134, 135, 136, 137, 138, 139, 140, 141, 142, 143, 144, 145, 146, 147, 148, 149, 150, 151, 152, 153, 154, 155, 156, 157, 158, 159, 160, 161, 162, 163, 164, 165, 166, 167, 168, 169, 170, 171, 172, 173, 174, 175, 176, 177, 178, 179] := by
  have : ∀ s, s < 180 → s ∈ [0, 1, 2, 3, 4, 5, 6, 7, 8, 9, 10, 11, 12, 13, 14, 15, 16, 17, 18, 19, 20, 21, 22, 23, 24, 25, 26, 27, 28, 29, 30, 31, 32, 33, 34, 35, 36, 37, 38, 39, 40, 41, 42, 43, 44, 45, 46, 47, 48, 49, 50, 51, 52, 53, 54, 55, 56, 57, 58, 59, 60, 61, 62, 63, 64, 65, 66, 67, 68, 69, 70, 71, 72, 73, 74, 75, 76, 77, 78, 79, 80, 81, 82, 83, 84, 85, 86, 87, 88, 89, 90, 91, 92, 93, 94, 95, 96, 97, 98, 99, 100, 101, 102, 103, 104, 105, 106, 107, 108, 109, 110, 111, 112, 113, 114, 115, 116, 117, 118, 119, 120, 121, 122, 123, 124, 125, 126, 127, 128, 129, 130, 131, 132, 133, 134, 135, 136, 137, 138, 139, 140, 141, 142, 143, 144, 145, 146, 147, 148, 149, 150, 151, 152, 153, 154, 155, 156, 157, 158, 159, 160, 161, 162, 163, 164, 165, 166, 167, 168, 169, 170, 171, 172, 173, 174, 175, 176, 177, 178, 179] := by decide +kernel
  exact this s h
theorem zxOf {l : Launch} {G : qG} {d s : Nat} {I : qMI} {L : qML} {R : qMR} (hs : s < 180) : qCall l G (d + 4) n_X7_xOf [.int (nI s)] 336 I L R (fun r t I' L' R' => r = some (.int (nI (s / 9))) ∧ t = 336 ∧ I = I' ∧ L = L' ∧ R = R') := by
  obtain ⟨h1, -⟩ := zand (zall_t zxOf_r s (zrange180 hs))
  refine qCall_mono (zcall (q := []) (c_X7_xOf (d + 3)) h1 ⟨zg_i (zin_eq (zb_nIs (by omega))), trivial⟩ (zM_nil 336 I L R)) ?_
  intro r t I' L' R' h
  obtain ⟨e1, e2, e3⟩ := h
  rw [zadd_e, zdiv_e, zc_nI (by omega)] at e1
  obtain ⟨z1, z2, z3⟩ := zM_nil_eq e3
  exact ⟨e1, e2, z1.symm, z2.symm, z3.symm⟩
theorem ztallOf {l : Launch} {G : qG} {d s : Nat} {I : qMI} {L : qML} {R : qMR} (hs : s < 180) : qCall l G (d + 4) n_X7_tallOf [.int (nI s)] 336 I L R (fun r t I' L' R' => r = some (.int (nI (s % 9 + 1))) ∧ t = 336 ∧ I = I' ∧ L = L' ∧ R = R') := by
  obtain ⟨-, h1⟩ := zand (zall_t zxOf_r s (zrange180 hs))
  refine qCall_mono (zcall (q := []) (c_X7_tallOf (d + 3)) h1 ⟨zg_i (zin_eq (zb_nIs (by omega))), trivial⟩ (zM_nil 336 I L R)) ?_
  intro r t I' L' R' h
  obtain ⟨e1, e2, e3⟩ := h
  rw [zadd_e, zmod_e, zc_nI (by show s % 9 + 1 < 2 ^ 31; omega)] at e1
  obtain ⟨z1, z2, z3⟩ := zM_nil_eq e3
  exact ⟨e1, e2, z1.symm, z2.symm, z3.symm⟩
