/-! ===== where a THING is SEEN, by runs: the reference ===== -/
def zLM : List (Nat × Nat) := [(292, 27802324040296509319766169648491939646962842039046924021763329829305907705211017291570640864808568742298106745726551034486089476945565115512766770734799649072951452485217762040195842910404175586370117355600915686394191125632444843255078001713963773768968548640925882180148827549085352176677520601808040593749064537533313622702900781817694418008241201097333761711328307162448486901956853321938296065361174404947250676489563632505218088345413883813016005055347665524166303375749021487250648566051536894442144846104740469758858966591977999369532230275703470845063638852567387962365556313925963003529903164746114472864872296824346953783529073528742251803480586138543840017002354519294186687773540080369550179651208548330203669349519580338967229336684444578765169666941381834987836257321863219350718512347755724304010512198091667333981029497940499651727870587711186876798017863141778308466143813807535670315072863535343554086119261922502991253415970325221792286490475232555567858261363159557906403548535555951857252764419798991902633883570372340578130095315743458225550923441098691038018364783502755360293748169954349970426297660814553460974523347432052620796299315030042445771137567242909163754618043516191978608926622707618165885294446530654954781553731787506111744041), (311, 330), (312, 330), (321, 94974874150930100359848121286500343220252555011281348541312973015555051168906109677311381961517547942178192414922093156611033153310440384478323417154540175843788800843818467626)]
/-- at which place it is counted; 20: it is not seen -/
def zsM (x y n : Nat) : Nat := bif Nat.ble (Nat.mod n 24) (zds x y) then 20 else y
noncomputable def zrM (x y hp c : Nat) : Bool := f_X9_seenAt [.inr (.ref 292), .inl (Nat.add x 2147483648), .inl (Nat.add y 2147483648), .inl 9223372047592194057, .inl hp] 336 (zP zLM) (zchk c zLM)
noncomputable def zrM2 (x y : Nat) : Bool := bif zrM x y (zmkc 2147483648 (Nat.add (zds x y) 2147483648)) 2147483646 then (bif zrM x y (zmkc (Nat.add (zds x y) 2147483649) 2147483671) (Nat.add y 2147483648) then zrM x y 2147483672 2147483646 else false) else false
theorem zrM_0 : zall [0, 1, 2, 3, 4, 5, 6, 7, 8, 9, 10, 11, 12, 13, 14, 15, 16, 17, 18, 19] (fun y => zrM2 0 y) = true := by decide +kernel
theorem zrM_1 : zall [0, 1, 2, 3, 4, 5, 6, 7, 8, 9, 10, 11, 12, 13, 14, 15, 16, 17, 18, 19] (fun y => zrM2 1 y) = true := by decide +kernel
theorem zrM_2 : zall [0, 1, 2, 3, 4, 5, 6, 7, 8, 9, 10, 11, 12, 13, 14, 15, 16, 17, 18, 19] (fun y => zrM2 2 y) = true := by decide +kernel
theorem zrM_3 : zall [0, 1, 2, 3, 4, 5, 6, 7, 8, 9, 10, 11, 12, 13, 14, 15, 16, 17, 18, 19] (fun y => zrM2 3 y) = true := by decide +kernel
theorem zrM_4 : zall [0, 1, 2, 3, 4, 5, 6, 7, 8, 9, 10, 11, 12, 13, 14, 15, 16, 17, 18, 19] (fun y => zrM2 4 y) = true := by decide +kernel
theorem zrM_5 : zall [0, 1, 2, 3, 4, 5, 6, 7, 8, 9, 10, 11, 12, 13, 14, 15, 16, 17, 18, 19] (fun y => zrM2 5 y) = true := by decide +kernel
theorem zrM_6 : zall [0, 1, 2, 3, 4, 5, 6, 7, 8, 9, 10, 11, 12, 13, 14, 15, 16, 17, 18, 19] (fun y => zrM2 6 y) = true := by decide +kernel
theorem zrM_7 : zall [0, 1, 2, 3, 4, 5, 6, 7, 8, 9, 10, 11, 12, 13, 14, 15, 16, 17, 18, 19] (fun y => zrM2 7 y) = true := by decide +kernel
theorem zrM_8 : zall [0, 1, 2, 3, 4, 5, 6, 7, 8, 9, 10, 11, 12, 13, 14, 15, 16, 17, 18, 19] (fun y => zrM2 8 y) = true := by decide +kernel
theorem zrM_9 : zall [0, 1, 2, 3, 4, 5, 6, 7, 8, 9, 10, 11, 12, 13, 14, 15, 16, 17, 18, 19] (fun y => zrM2 9 y) = true := by decide +kernel
theorem zrM_10 : zall [0, 1, 2, 3, 4, 5, 6, 7, 8, 9, 10, 11, 12, 13, 14, 15, 16, 17, 18, 19] (fun y => zrM2 10 y) = true := by decide +kernel
theorem zrM_11 : zall [0, 1, 2, 3, 4, 5, 6, 7, 8, 9, 10, 11, 12, 13, 14, 15, 16, 17, 18, 19] (fun y => zrM2 11 y) = true := by decide +kernel
theorem zrM_12 : zall [0, 1, 2, 3, 4, 5, 6, 7, 8, 9, 10, 11, 12, 13, 14, 15, 16, 17, 18, 19] (fun y => zrM2 12 y) = true := by decide +kernel
theorem zrM_13 : zall [0, 1, 2, 3, 4, 5, 6, 7, 8, 9, 10, 11, 12, 13, 14, 15, 16, 17, 18, 19] (fun y => zrM2 13 y) = true := by decide +kernel
theorem zrM_14 : zall [0, 1, 2, 3, 4, 5, 6, 7, 8, 9, 10, 11, 12, 13, 14, 15, 16, 17, 18, 19] (fun y => zrM2 14 y) = true := by decide +kernel
theorem zrM_15 : zall [0, 1, 2, 3, 4, 5, 6, 7, 8, 9, 10, 11, 12, 13, 14, 15, 16, 17, 18, 19] (fun y => zrM2 15 y) = true := by decide +kernel
theorem zrM_16 : zall [0, 1, 2, 3, 4, 5, 6, 7, 8, 9, 10, 11, 12, 13, 14, 15, 16, 17, 18, 19] (fun y => zrM2 16 y) = true := by decide +kernel
theorem zrM_17 : zall [0, 1, 2, 3, 4, 5, 6, 7, 8, 9, 10, 11, 12, 13, 14, 15, 16, 17, 18, 19] (fun y => zrM2 17 y) = true := by decide +kernel
theorem zrM_18 : zall [0, 1, 2, 3, 4, 5, 6, 7, 8, 9, 10, 11, 12, 13, 14, 15, 16, 17, 18, 19] (fun y => zrM2 18 y) = true := by decide +kernel
theorem zrM_19 : zall [0, 1, 2, 3, 4, 5, 6, 7, 8, 9, 10, 11, 12, 13, 14, 15, 16, 17, 18, 19] (fun y => zrM2 19 y) = true := by decide +kernel
theorem zrM_ok {x y : Nat} (hx : x < 20) (hy : y < 20) : zrM2 x y = true := by
  rcases (show x = 0 ∨ x = 1 ∨ x = 2 ∨ x = 3 ∨ x = 4 ∨ x = 5 ∨ x = 6 ∨ x = 7 ∨ x = 8 ∨ x = 9 ∨ x = 10 ∨ x = 11 ∨ x = 12 ∨ x = 13 ∨ x = 14 ∨ x = 15 ∨ x = 16 ∨ x = 17 ∨ x = 18 ∨ x = 19 by omega) with rfl | rfl | rfl | rfl | rfl | rfl | rfl | rfl | rfl | rfl | rfl | rfl | rfl | rfl | rfl | rfl | rfl | rfl | rfl | rfl
  · exact zall_t zrM_0 y (zlt20 hy)
  · exact zall_t zrM_1 y (zlt20 hy)
  · exact zall_t zrM_2 y (zlt20 hy)
  · exact zall_t zrM_3 y (zlt20 hy)
  · exact zall_t zrM_4 y (zlt20 hy)
  · exact zall_t zrM_5 y (zlt20 hy)
  · exact zall_t zrM_6 y (zlt20 hy)
  · exact zall_t zrM_7 y (zlt20 hy)
  · exact zall_t zrM_8 y (zlt20 hy)
  · exact zall_t zrM_9 y (zlt20 hy)
  · exact zall_t zrM_10 y (zlt20 hy)
  · exact zall_t zrM_11 y (zlt20 hy)
  · exact zall_t zrM_12 y (zlt20 hy)
  · exact zall_t zrM_13 y (zlt20 hy)
  · exact zall_t zrM_14 y (zlt20 hy)
  · exact zall_t zrM_15 y (zlt20 hy)
  · exact zall_t zrM_16 y (zlt20 hy)
  · exact zall_t zrM_17 y (zlt20 hy)
  · exact zall_t zrM_18 y (zlt20 hy)
  · exact zall_t zrM_19 y (zlt20 hy)
theorem zsM_lt {x y n : Nat} (hy : y < 20) : zsM x y n < 21 := by
  unfold zsM
  cases Nat.ble (Nat.mod n 24) (zds x y) with
  | true => rw [cond_true]; omega
  | false => rw [cond_false]; omega
theorem zseenAt {l : Launch} {G : qG} {d : Nat} {x y n : Nat} {tl : Int32} {I : qMI} {L : qML} {R : qMR} (hx : x < 20) (hy : y < 20) (hn : n ≤ 24) (ht : zin 9223372047592194057 tl) (hm : zM (I, L, R) 336 (zP zLM) I L R) :
    qCall l G (d + 5) n_X9_seenAt [.ref 292, .int (nI x), .int (nI y), .int tl, .int (nI n)] 336 I L R (fun r t I2 L2 R2 => (∃ v, r = some (.int v) ∧ ((v = -2 ∧ zsM x y n = 20) ∨ (v = nI y ∧ zsM x y n = y))) ∧ t = 336 ∧ zM (I, L, R) 336 (zP zLM) I2 L2 R2) := by
  have hr := zrM_ok hx hy
  have hds := zds_le hx hy
  have key : ∃ hp c, zin hp (nI n) ∧ ((zc c = -2 ∧ zsM x y n = 20) ∨ (zc c = nI y ∧ zsM x y n = y)) ∧ zrM x y hp c = true := by
    obtain ⟨h1, h2⟩ := zand hr
    obtain ⟨h2, h3⟩ := zand h2
    by_cases h24 : n = 24
    · subst h24
      refine ⟨_, _, zin_eq (zb_nIs (by omega)), Or.inl ⟨by decide, ?_⟩, h3⟩
      unfold zsM
      rw [Nat.ble_eq_true_of_le (Nat.zero_le _), cond_true]
    · have hmod : Nat.mod n 24 = n := Nat.mod_eq_of_lt (by omega)
      by_cases hc : n ≤ zds x y
      · refine ⟨_, _, zmkc_in ?_ ?_ ?_, Or.inl ⟨by decide, ?_⟩, h1⟩
        · rw [zadd_e]; omega
        · rw [zb_nIs (by omega)]; omega
        · rw [zb_nIs (by omega), zadd_e]; omega
        · unfold zsM
          rw [hmod, Nat.ble_eq_true_of_le hc, cond_true]
      · refine ⟨_, _, zmkc_in ?_ ?_ ?_, Or.inr ⟨?_, ?_⟩, h2⟩
        · decide
        · rw [zb_nIs (by omega), zadd_e]; omega
        · rw [zb_nIs (by omega)]; omega
        · rw [zadd_e, zc_nI (by omega)]
        · unfold zsM
          have hb : Nat.ble (Nat.mod n 24) (zds x y) = false := by
            rw [hmod]
            cases hq : Nat.ble n (zds x y) with
            | false => rfl
            | true => exact absurd (Nat.le_of_ble_eq_true hq) hc
          rw [hb, cond_false]
  obtain ⟨hp, c, k1, k2, k3⟩ := key
  have hz : ∀ n, n < 2 ^ 31 → zin (Nat.add n 2147483648) (nI n) := fun n hn => zin_eq (zb_nIs hn)
  refine qCall_mono (zcall (c_X9_seenAt d) k3 ⟨⟨rfl, rfl⟩, zg_i (hz x (by omega)), zg_i (hz y (by omega)), zg_i ht, zg_i k1, trivial⟩ hm) ?_
  intro r t I2 L2 R2 hq
  exact ⟨⟨_, hq.1, k2⟩, hq.2⟩
theorem zisSo_r : f_X9_isSo [.inr (.ref 292), .inl 8589934591, .inl 2147483648] 336 (zP []) (zchk 2147483649 []) = true := by decide +kernel
theorem zisSo {l : Launch} {G : qG} {d : Nat} {w : Int32} {I : qMI} {L : qML} {R : qMR} : qCall l G (d + 5) n_X9_isSo [.ref 292, .int w, .int (nI 0)] 336 I L R (fun r t I' L' R' => r = some (.int 1) ∧ t = 336 ∧ I = I' ∧ L = L' ∧ R = R') := by
  refine qCall_mono (zcall (q := []) (c_X9_isSo (d + 4)) zisSo_r ⟨⟨rfl, rfl⟩, zg_i (zin_top w), zg_i (zin_eq (by decide)), trivial⟩ (zM_nil 336 I L R)) ?_
  intro r t I' L' R' h
  obtain ⟨e1, e2, e3⟩ := h
  obtain ⟨z1, z2, z3⟩ := zM_nil_eq e3
  exact ⟨e1.trans (by decide), e2, z1.symm, z2.symm, z3.symm⟩
