theorem l_loop {p : Program} {l : Launch} {e : Env} {s : State} {m : MethodId} {below : List Frame} {meth : Method} {c : Code} {b L : Nat} {xs : Nat → Int32} {G : qG} {ce sl : Nat} (C : lC p s m meth c b L xs G) (hL : L ≤ 3072) (hce : ce ≤ 600000) (hsl : sl ≤ 7302250) : ∀ (n : Nat) {i : Int32} {I : qMI} {L1 : qML} {R : qMR} {H : Heap} {locs : List Loc} {ls : Array Slot}, (L : Int) - i.toInt < n → 0 ≤ i.toInt → i.toInt ≤ 3078 → wI I L1 R → H.size = G.1 + 336 → va_P (G.2.1, G.2.2.1) vwCl (qWd G 336 I L1 R) H → va_S (qA G) s.heap H locs → lv_has ls 4 [(3, .int i), (2, .ref (G.1 + 292)), (1, .ref (G.1 + 0)), (0, .ref b)] → W p l e room_1 s m #[Value.ref b] below meth c H locs ce sl (lw_Z below #[Value.ref b] s) (F0 m 18 ls []) := by
  intro n
  have eL : (Int32.ofNat L - 6).toInt = (L : Int) - 6 := by
    have e1 : (Int32.ofNat L).toInt = L := Int32.toInt_ofNat_of_lt (by omega)
    rw [i_sub (by rw [e1, show (6 : Int32).toInt = 6 from rfl]; omega) (by rw [e1, show (6 : Int32).toInt = 6 from rfl]; omega), e1]
    rfl
  induction n with
  | zero =>
    intro i I L1 R H locs ls h1 h2 h3 hv hz hP hS hl
    exact l_top C hS hce hsl hl (fun h => absurd (i_lt.mpr (by rw [eL]; omega)) h)
  | succ n ih =>
    intro i I L1 R H locs ls h1 h2 h3 hv hz hP hS hl
    refine l_top C hS hce hsl hl (fun h => ?_)
    have h : ¬ _ := fun q => h (i_lt.mpr q)
    rw [eL] at h
    obtain ⟨⟨hx, hb, hr, hml, hown, hts, hX, hbl, hlocks, hgv⟩, hG, hC, hH⟩ := id C
    have hix : ∀ v : Int32, 0 ≤ v.toInt → v.toInt ≤ 5 → vp_in (i + v) L := fun v a b => by
      have e1 := i_add (x := i) (y := v) (by omega) (by omega)
      exact vin (by omega) (by omega)
    have h0 : vp_in i L := vin (by omega) (by omega)
    have e6 : (i + 6).toInt = i.toInt + 6 := i_add (y := 6) (by rw [show (6 : Int32).toInt = 6 from rfl]; omega) (by rw [show (6 : Int32).toInt = 6 from rfl]; omega)
    have kt : ∀ (I : qMI) (L1 : qML) (R : qMR) (H : Heap) (locs : List Loc), wI I L1 R → H.size = G.1 + 336 → va_P (G.2.1, G.2.2.1) vwCl (qWd G 336 I L1 R) H → va_S (qA G) s.heap H locs → W p l e room_1 s m #[Value.ref b] below meth c H locs ce sl (lw_Z below #[Value.ref b] s) (F0 m 1397 ls []) := by
      intro I L1 R H locs hv hz hP hS
      refine lv_iinc (k := 0) (v := i + 6) (lv' := [(3, .int (i + 6)), (2, .ref (G.1 + 292)), (1, .ref (G.1 + 0)), (0, .ref b)]) hx hb (zd (c := code) (pc := 1397) (i := .iinc 3 6) (n := 3) (by decide +kernel)) hl rfl (by rfl) (by decide) rfl (fun ls hl => ?_)
      refine lv_goto hx hb (tgt := 18) (zd (c := code) (pc := 1400) (i := .goto (-1382)) (n := 3) (by decide +kernel)) (by decide) ?_
      exact ih (by omega) (by omega) (by omega) hv hz hP hS hl
    refine lv_aload_n hx hb (zd (c := code) (pc := 27) (i := .aload_n 0) (n := 1) (by decide +kernel)) rfl (lv_at hl 3 rfl) ?_
    refine lv_iload_n hx hb (zd (c := code) (pc := 28) (i := .iload_n 3) (n := 1) (by decide +kernel)) rfl (lv_at hl 0 rfl) ?_
    refine va_sld hx hb hX hbl (A := qA G) (by show ¬ G.1 ≤ b; omega) hS h0 (zd (c := code) (pc := 29) (i := .iaload) (n := 1) (by decide +kernel)) ?_
    refine lv_bipush (v := 63) hx hb (zd (c := code) (pc := 30) (i := .bipush 63) (n := 2) (by decide +kernel)) (by decide) ?_
    refine lv_iand hx hb (zd (c := code) (pc := 32) (i := .iand) (n := 1) (by decide +kernel)) ?_
    generalize xs (Int32.toNatClampNeg i) &&& 63 = x
    have hd33 := (zd (c := code) (pc := 33) (i := .tableswitch (1364) 0 36 #[163, 226, 249, 262, 275, 308, 341, 384, 437, 480, 513, 546, 569, 582, 625, 648, 691, 734, 767, 800, 823, 856, 889, 942, 975, 1018, 1031, 1054, 1097, 1150, 1193, 1206, 1229, 1262, 1295, 1318, 1341]) (n := 163) (by decide +kernel))
    by_cases ho : x.toInt < 0 ∨ 36 < x.toInt
    · exact lv_tableOut hx hb hd33 ho (tgt := 1397) (by decide) (kt _ _ _ _ _ hv hz hP hS)
    · have hk : x.toInt.toNat < 37 := by omega
      have hx0 : ¬ x.toInt < 0 := by omega
      have hx1 : ¬ 36 < x.toInt := by omega
      have hx2 : (x.toInt - 0).toNat = x.toInt.toNat := by omega
      generalize x.toInt.toNat = k at hk hx2
      rcases (show k = 0 ∨ k = 1 ∨ k = 2 ∨ k = 3 ∨ k = 4 ∨ k = 5 ∨ k = 6 ∨ k = 7 ∨ k = 8 ∨ k = 9 ∨ k = 10 ∨ k = 11 ∨ k = 12 ∨ k = 13 ∨ k = 14 ∨ k = 15 ∨ k = 16 ∨ k = 17 ∨ k = 18 ∨ k = 19 ∨ k = 20 ∨ k = 21 ∨ k = 22 ∨ k = 23 ∨ k = 24 ∨ k = 25 ∨ k = 26 ∨ k = 27 ∨ k = 28 ∨ k = 29 ∨ k = 30 ∨ k = 31 ∨ k = 32 ∨ k = 33 ∨ k = 34 ∨ k = 35 ∨ k = 36 by omega) with rfl | rfl | rfl | rfl | rfl | rfl | rfl | rfl | rfl | rfl | rfl | rfl | rfl | rfl | rfl | rfl | rfl | rfl | rfl | rfl | rfl | rfl | rfl | rfl | rfl | rfl | rfl | rfl | rfl | rfl | rfl | rfl | rfl | rfl | rfl | rfl | rfl
      · exact lv_tableIn hx hb hd33 hx0 hx1 (off := 163) (by rw [hx2]; rfl) (tgt := 196) (by decide) (lw_case_0 C hix hv hce hsl hz hP hS hl kt)
      · exact lv_tableIn hx hb hd33 hx0 hx1 (off := 226) (by rw [hx2]; rfl) (tgt := 259) (by decide) (lw_case_1 C hix hv hce hsl hz hP hS hl kt)
      · exact lv_tableIn hx hb hd33 hx0 hx1 (off := 249) (by rw [hx2]; rfl) (tgt := 282) (by decide) (lw_case_2 C hix hv hce hsl hz hP hS hl kt)
      · exact lv_tableIn hx hb hd33 hx0 hx1 (off := 262) (by rw [hx2]; rfl) (tgt := 295) (by decide) (lw_case_3 C hix hv hce hsl hz hP hS hl kt)
      · exact lv_tableIn hx hb hd33 hx0 hx1 (off := 275) (by rw [hx2]; rfl) (tgt := 308) (by decide) (lw_case_4 C hix hv hce hsl hz hP hS hl kt)
      · exact lv_tableIn hx hb hd33 hx0 hx1 (off := 308) (by rw [hx2]; rfl) (tgt := 341) (by decide) (lw_case_5 C hix hv hce hsl hz hP hS hl kt)
      · exact lv_tableIn hx hb hd33 hx0 hx1 (off := 341) (by rw [hx2]; rfl) (tgt := 374) (by decide) (lw_case_6 C hix hv hce hsl hz hP hS hl kt)
      · exact lv_tableIn hx hb hd33 hx0 hx1 (off := 384) (by rw [hx2]; rfl) (tgt := 417) (by decide) (lw_case_7 C hix hv hce hsl hz hP hS hl kt)
      · exact lv_tableIn hx hb hd33 hx0 hx1 (off := 437) (by rw [hx2]; rfl) (tgt := 470) (by decide) (lw_case_8 C hix hv hce hsl hz hP hS hl kt)
      · exact lv_tableIn hx hb hd33 hx0 hx1 (off := 480) (by rw [hx2]; rfl) (tgt := 513) (by decide) (lw_case_9 C hix hv hce hsl hz hP hS hl kt)
      · exact lv_tableIn hx hb hd33 hx0 hx1 (off := 513) (by rw [hx2]; rfl) (tgt := 546) (by decide) (lw_case_10 C hix hv hce hsl hz hP hS hl kt)
      · exact lv_tableIn hx hb hd33 hx0 hx1 (off := 546) (by rw [hx2]; rfl) (tgt := 579) (by decide) (lw_case_11 C hix hv hce hsl hz hP hS hl kt)
      · exact lv_tableIn hx hb hd33 hx0 hx1 (off := 569) (by rw [hx2]; rfl) (tgt := 602) (by decide) (lw_case_12 C hix hv hce hsl hz hP hS hl kt)
      · exact lv_tableIn hx hb hd33 hx0 hx1 (off := 582) (by rw [hx2]; rfl) (tgt := 615) (by decide) (lw_case_13 C hix hv hce hsl hz hP hS hl kt)
      · exact lv_tableIn hx hb hd33 hx0 hx1 (off := 625) (by rw [hx2]; rfl) (tgt := 658) (by decide) (lw_case_14 C hix hv hce hsl hz hP hS hl kt)
      · exact lv_tableIn hx hb hd33 hx0 hx1 (off := 648) (by rw [hx2]; rfl) (tgt := 681) (by decide) (lw_case_15 C hix hv hce hsl hz hP hS hl kt)
      · exact lv_tableIn hx hb hd33 hx0 hx1 (off := 691) (by rw [hx2]; rfl) (tgt := 724) (by decide) (lw_case_16 C hix hv hce hsl hz hP hS hl kt)
      · exact lv_tableIn hx hb hd33 hx0 hx1 (off := 734) (by rw [hx2]; rfl) (tgt := 767) (by decide) (lw_case_17 C hix hv hce hsl hz hP hS hl kt)
      · exact lv_tableIn hx hb hd33 hx0 hx1 (off := 767) (by rw [hx2]; rfl) (tgt := 800) (by decide) (lw_case_18 C hix hv hce hsl hz hP hS hl kt)
      · exact lv_tableIn hx hb hd33 hx0 hx1 (off := 800) (by rw [hx2]; rfl) (tgt := 833) (by decide) (lw_case_19 C hix hv hce hsl hz hP hS hl kt)
      · exact lv_tableIn hx hb hd33 hx0 hx1 (off := 823) (by rw [hx2]; rfl) (tgt := 856) (by decide) (lw_case_20 C hix hv hce hsl hz hP hS hl kt)
      · exact lv_tableIn hx hb hd33 hx0 hx1 (off := 856) (by rw [hx2]; rfl) (tgt := 889) (by decide) (lw_case_21 C hix hv hce hsl hz hP hS hl kt)
      · exact lv_tableIn hx hb hd33 hx0 hx1 (off := 889) (by rw [hx2]; rfl) (tgt := 922) (by decide) (lw_case_22 C hix hv hce hsl hz hP hS hl kt)
      · exact lv_tableIn hx hb hd33 hx0 hx1 (off := 942) (by rw [hx2]; rfl) (tgt := 975) (by decide) (lw_case_23 C hix hv hce hsl hz hP hS hl kt)
      · exact lv_tableIn hx hb hd33 hx0 hx1 (off := 975) (by rw [hx2]; rfl) (tgt := 1008) (by decide) (lw_case_24 C hix hv hce hsl hz hP hS hl kt)
      · exact lv_tableIn hx hb hd33 hx0 hx1 (off := 1018) (by rw [hx2]; rfl) (tgt := 1051) (by decide) (lw_case_25 C hix hv hce hsl hz hP hS hl kt)
      · exact lv_tableIn hx hb hd33 hx0 hx1 (off := 1031) (by rw [hx2]; rfl) (tgt := 1064) (by decide) (lw_case_26 C hix hv hce hsl hz hP hS hl kt)
      · exact lv_tableIn hx hb hd33 hx0 hx1 (off := 1054) (by rw [hx2]; rfl) (tgt := 1087) (by decide) (lw_case_27 C hix hv hce hsl hz hP hS hl kt)
      · exact lv_tableIn hx hb hd33 hx0 hx1 (off := 1097) (by rw [hx2]; rfl) (tgt := 1130) (by decide) (lw_case_28 C hix hv hce hsl hz hP hS hl kt)
      · exact lv_tableIn hx hb hd33 hx0 hx1 (off := 1150) (by rw [hx2]; rfl) (tgt := 1183) (by decide) (lw_case_29 C hix hv hce hsl hz hP hS hl kt)
      · exact lv_tableIn hx hb hd33 hx0 hx1 (off := 1193) (by rw [hx2]; rfl) (tgt := 1226) (by decide) (lw_case_30 C hix hv hce hsl hz hP hS hl kt)
      · exact lv_tableIn hx hb hd33 hx0 hx1 (off := 1206) (by rw [hx2]; rfl) (tgt := 1239) (by decide) (lw_case_31 C hix hv hce hsl hz hP hS hl kt)
      · exact lv_tableIn hx hb hd33 hx0 hx1 (off := 1229) (by rw [hx2]; rfl) (tgt := 1262) (by decide) (lw_case_32 C hix hv hce hsl hz hP hS hl kt)
      · exact lv_tableIn hx hb hd33 hx0 hx1 (off := 1262) (by rw [hx2]; rfl) (tgt := 1295) (by decide) (lw_case_33 C hix hv hce hsl hz hP hS hl kt)
      · exact lv_tableIn hx hb hd33 hx0 hx1 (off := 1295) (by rw [hx2]; rfl) (tgt := 1328) (by decide) (lw_case_34 C hix hv hce hsl hz hP hS hl kt)
      · exact lv_tableIn hx hb hd33 hx0 hx1 (off := 1318) (by rw [hx2]; rfl) (tgt := 1351) (by decide) (lw_case_35 C hix hv hce hsl hz hP hS hl kt)
      · exact lv_tableIn hx hb hd33 hx0 hx1 (off := 1341) (by rw [hx2]; rfl) (tgt := 1374) (by decide) (lw_case_36 C hix hv hce hsl hz hP hS hl kt)
theorem zzero2 {gh : zGh} {t : Nat} {A : zAm} {I : qMI} {L : qML} {R : qMR} {k : Nat} (hm : zM gh t A I L R) (h1 : ztag (zcell A k) = 11) (h2 : zcell A k < 4294967296) (j : Nat) : I k j = 0 := by
  obtain ⟨-, -, -, g4⟩ := hm.1.1 k (by omega)
  have g5 := (g4 j).1 (by rw [h1]; rfl)
  have e : zraw (zcell A k) j = 0 := by
    rw [zraw_eq, Nat.shiftRight_eq_div_pow, Nat.div_eq_of_lt (Nat.lt_of_lt_of_le h2 (Nat.pow_le_pow_right (n := 2) (by omega) (show 32 ≤ 32 + 65 * j by omega)))]
  rw [e] at g5
  have := zin_b2 g5 (a := 2147483648) (b := 2147483648) (by decide) (by decide)
  exact i_eq.mpr (by rw [show (0 : Int32).toInt = 0 from rfl]; omega)
theorem zzero3 {gh : zGh} {t : Nat} {A : zAm} {I : qMI} {L : qML} {R : qMR} {k : Nat} (hm : zM gh t A I L R) (h1 : ztag (zcell A k) = 12) (h2 : zcell A k < 4294967296) (j : Nat) : I k j = 0 := by
  obtain ⟨-, -, -, g4⟩ := hm.1.1 k (by omega)
  have g5 := (g4 j).1 (by rw [h1]; rfl)
  have e : zraw (zcell A k) j = 0 := by
    rw [zraw_eq, Nat.shiftRight_eq_div_pow, Nat.div_eq_of_lt (Nat.lt_of_lt_of_le h2 (Nat.pow_le_pow_right (n := 2) (by omega) (show 32 ≤ 32 + 65 * j by omega)))]
  rw [e] at g5
  have := zin_b2 g5 (a := 2147483648) (b := 2147483648) (by decide) (by decide)
  exact i_eq.mpr (by rw [show (0 : Int32).toInt = 0 from rfl]; omega)
theorem zword {gh : zGh} {t : Nat} {A : zAm} {I : qMI} {L : qML} {R : qMR} {k c : Nat} (hm : zM gh t A I L R) (e : zcell A k = c) (h1 : ztag c = 13) (j : Nat) : L k j = Int64.ofNat (zraw c j) := by
  obtain ⟨-, -, -, g4⟩ := hm.1.1 k (by rw [e]; omega)
  have := (g4 j).2.1 (by rw [e, h1]; rfl)
  rw [e] at this
  exact this
def zWc : Nat := 5997241238912102500848555436572085695719136337427711529299301362010516391140205087975551267893560448008543420521806391010018505269190422199097213511257287751886139439906392430931513717646410219287807799797885701378447848232179218494693664651208137604687577789964111334850197265614305447367201287264136188355120228387861319995230867655487294327682558030157656249065025482580302630995652347777033586044430918789168329565664368150985956583801581
theorem zWc_i : ∀ a, a < 23 → ∀ b, b < 23 → Int64.ofNat (zraw zWc a) = Int64.ofNat (zraw zWc b) → a = b := by decide +kernel
theorem vFirstI {gh : zGh} {I : qMI} {L : qML} {R : qMR} (hm : zM gh 336 zA0 I L R) : vI I L R := by
  obtain ⟨-, -, -, -, f5⟩ := zM_at hm (a := 292) (tg := 9) (by decide +kernel) (by omega)
  obtain ⟨-, -, -, -, g5⟩ := zM_at hm (a := 1) (tg := 5) (by decide +kernel) (by omega)
  obtain ⟨-, -, -, -, k5⟩ := zM_at hm (a := 0) (tg := 8) (by decide +kernel) (by omega)
  have h1 := zin_b2 ((f5 2).1 (zkd_I (by decide) rfl)) (a := 2147483648) (b := 2147483648) (by decide +kernel) (by decide +kernel)
  have h2 := zin_b2 ((g5 1).1 (zkd_I (by decide) rfl)) (a := 2147483648) (b := 2147483648) (by decide +kernel) (by decide +kernel)
  have h3 := zin_b2 ((f5 17).1 (zkd_I (by decide) rfl)) (a := 2147483647) (b := 2147483647) (by decide +kernel) (by decide +kernel)
  have h4 := zin_b2 ((k5 13).1 (zkd_I (by decide) rfl)) (a := 2147483647) (b := 2147483647) (by decide +kernel) (by decide +kernel)
  obtain ⟨-, -, -, -, m5⟩ := zM_at hm (a := 249) (tg := 7) (by decide +kernel) (by omega)
  have h5 := zin_b2 ((f5 58).1 (zkd_I (by decide) rfl)) (a := 2147483648) (b := 2147483648) (by decide +kernel) (by decide +kernel)
  have h6 := zin_b2 ((m5 0).1 (zkd_I (by decide) rfl)) (a := 2147483648) (b := 2147483648) (by decide +kernel) (by decide +kernel)
  have w9 := zword hm (k := 299) (c := zWc) (by decide +kernel) (by decide +kernel)
  have w5 := zword hm (k := 5) (c := zWc) (by decide +kernel) (by decide +kernel)
  refine ⟨vFirst hm, i_eq.mpr (by omega), funext fun j => ?_, ⟨funext fun j => by rw [w5, w9], fun a b ha hb q => zWc_i a ha b hb (by rw [← w9, ← w9]; exact q)⟩, i_eq.mpr (by omega), ⟨i_eq.mpr (show (I 249 0).toInt = (I 292 58).toInt by omega), fun i _ => by rw [zzero3 hm (by decide +kernel) (by decide +kernel) i, zzero3 hm (by decide +kernel) (by decide +kernel) i]⟩⟩
  rw [zzero2 hm (by decide +kernel) (by decide +kernel) j, zzero2 hm (by decide +kernel) (by decide +kernel) j]
theorem zval2 {gh : zGh} {t : Nat} {A : zAm} {I : qMI} {L : qML} {R : qMR} {k j : Nat} {v : Int32} (hm : zM gh t A I L R) (h1 : Nat.ble (ztag (zcell A k)) 14 = true) (h2 : zkd (ztag (zcell A k)) j = 0) (h3 : zlo (Nat.xor (zraw (zcell A k) j) 2147483648) = zb v) (h4 : zhi (Nat.xor (zraw (zcell A k) j) 2147483648) = zb v) : I k j = v := by
  have := Nat.le_of_ble_eq_true h1
  obtain ⟨-, -, -, g4⟩ := hm.1.1 k (by omega)
  have q := (g4 j).1 h2
  have q1 := q.1
  have q2 := q.2
  rw [h3] at q1
  rw [h4] at q2
  exact zb_inj (Nat.le_antisymm q2 q1)
theorem wFirst {gh : zGh} {I : qMI} {L : qML} {R : qMR} (hm : zM gh 336 zA0 I L R) : wI I L R := by
  have hv := vFirstI hm
  have o12 : R 0 12 = some 259 := vRef hm (by decide +kernel) (by decide +kernel) (by decide +kernel)
  obtain ⟨r1, r2, r3, r4⟩ := (vRp hv.1 o12).2.1
  have Z : ∀ b ∈ [21, 271, 278, 285], sEq I b (fun _ => 0) := fun b hb k hk => by
    have all : ∀ b ∈ [21, 271, 278, 285], ∀ k, k < 97 → Nat.ble (ztag (zcell zA0 (b + (sJx k).1))) 14 = true ∧ zkd (ztag (zcell zA0 (b + (sJx k).1))) (sJx k).2 = 0 ∧ zlo (Nat.xor (zraw (zcell zA0 (b + (sJx k).1)) (sJx k).2) 2147483648) = zb 0 ∧ zhi (Nat.xor (zraw (zcell zA0 (b + (sJx k).1)) (sJx k).2) 2147483648) = zb 0 := by decide +kernel
    obtain ⟨a1, a2, a3, a4⟩ := all b hb k hk
    exact zval2 hm a1 a2 a3 a4
  have C : ∀ i, i < 12 → I 266 i = (cC0.getD i (0, 0)).1 ∧ I 267 i = (cC0.getD i (0, 0)).2 := fun i hi => by
    have all : ∀ i, i < 12 → (Nat.ble (ztag (zcell zA0 266)) 14 = true ∧ zkd (ztag (zcell zA0 266)) i = 0 ∧ zlo (Nat.xor (zraw (zcell zA0 266) i) 2147483648) = zb (cC0.getD i (0, 0)).1 ∧ zhi (Nat.xor (zraw (zcell zA0 266) i) 2147483648) = zb (cC0.getD i (0, 0)).1) ∧ Nat.ble (ztag (zcell zA0 267)) 14 = true ∧ zkd (ztag (zcell zA0 267)) i = 0 ∧ zlo (Nat.xor (zraw (zcell zA0 267) i) 2147483648) = zb (cC0.getD i (0, 0)).2 ∧ zhi (Nat.xor (zraw (zcell zA0 267) i) 2147483648) = zb (cC0.getD i (0, 0)).2 := by decide +kernel
    obtain ⟨⟨a1, a2, a3, a4⟩, b1, b2, b3, b4⟩ := all i hi
    exact ⟨zval2 hm a1 a2 a3 a4, zval2 hm b1 b2 b3 b4⟩
  have v : ∀ {k j : Nat} {x : Int32}, Nat.ble (ztag (zcell zA0 k)) 14 = true → zkd (ztag (zcell zA0 k)) j = 0 → zlo (Nat.xor (zraw (zcell zA0 k) j) 2147483648) = zb x → zhi (Nat.xor (zraw (zcell zA0 k) j) 2147483648) = zb x → I k j = x := fun a b c d => zval2 hm a b c d
  have e265 : I 265 2 = 12 := v (by decide +kernel) (by decide +kernel) (by decide +kernel) (by decide +kernel)
  have cd : cCd 259 I = cC0 := by
    have e : cCd 259 I = (List.range 12).map (fun i => (I 266 i, I 267 i)) := by
      unfold cCd
      rw [show I (259 + 6) 2 = 12 from e265]
      rfl
    rw [e, List.map_congr_left (g := fun i => cC0.getD i (0, 0)) (fun i hi => by
      have := C i (List.mem_range.mp hi)
      rw [this.1, this.2])]
    rfl
  have s : ∀ j, (j = 2 ∨ j = 5 ∨ (8 ≤ j ∧ j ≤ 11)) → I 259 j = if j = 8 then 24 else 0 := fun j q => by
    have all : ∀ j, j < 12 → (j = 2 ∨ j = 5 ∨ (8 ≤ j ∧ j ≤ 11)) → Nat.ble (ztag (zcell zA0 259)) 14 = true ∧ zkd (ztag (zcell zA0 259)) j = 0 ∧ zlo (Nat.xor (zraw (zcell zA0 259) j) 2147483648) = zb (if j = 8 then 24 else 0) ∧ zhi (Nat.xor (zraw (zcell zA0 259) j) 2147483648) = zb (if j = 8 then 24 else 0) := by decide +kernel
    obtain ⟨a1, a2, a3, a4⟩ := all j (by omega) q
    exact zval2 hm a1 a2 a3 a4
  have hD : cDt 259 I aD0 := by
    refine ⟨⟨⟨by rw [s 2 (Or.inl rfl)]; rfl, by decide⟩, fun i p q => by cases q⟩, ⟨⟨by rw [s 5 (Or.inr (Or.inl rfl))]; rfl, by decide⟩, fun i p q => by cases q⟩, fun j a b => s j (Or.inr (Or.inr ⟨a, b⟩)), fun k hk => ?_⟩
    rcases (show k = 0 ∨ k = 1 ∨ k = 2 ∨ k = 3 ∨ k = 4 by omega) with rfl | rfl | rfl | rfl | rfl
    · exact ⟨[], _, cd.trans rfl, v (by decide +kernel) (by decide +kernel) (by decide +kernel) (by decide +kernel)⟩
    · exact ⟨[(1, 0), (7, 0)], _, cd.trans rfl, v (by decide +kernel) (by decide +kernel) (by decide +kernel) (by decide +kernel)⟩
    · exact ⟨[(1, 0), (7, 0), (1, 2), (1, 3), (3, 0), (7, 0)], _, cd.trans rfl, v (by decide +kernel) (by decide +kernel) (by decide +kernel) (by decide +kernel)⟩
    · exact ⟨[(1, 0), (7, 0), (1, 2), (1, 3), (3, 0), (7, 0), (0, 0), (7, 0)], _, cd.trans rfl, v (by decide +kernel) (by decide +kernel) (by decide +kernel) (by decide +kernel)⟩
    · exact ⟨[(1, 0), (7, 0), (1, 2), (1, 3), (3, 0), (7, 0), (0, 0), (7, 0), (1, 4), (7, 0)], [], cd.trans rfl, v (by decide +kernel) (by decide +kernel) (by decide +kernel) (by decide +kernel)⟩
  have e18 : I 292 18 = 0 := v (by decide +kernel) (by decide +kernel) (by decide +kernel) (by decide +kernel)
  have h18 : (I 292 18).toInt = (0 : Nat) := by rw [e18]; rfl
  have l10 : ∀ k, k < 5 → I 311 (5 * 0 + k) = 0 ∧ I 312 (5 * 0 + k) = 0 := fun k _ => ⟨zzero hm (by decide +kernel) (by decide +kernel) _, zzero hm (by decide +kernel) (by decide +kernel) _⟩
  have hR : rDf 0 I aD0 := rDt_f (by rw [show I 292 34 = 0 from v (by decide +kernel) (by decide +kernel) (by decide +kernel) (by decide +kernel)]; decide) (by rw [show I 292 40 = 0 from v (by decide +kernel) (by decide +kernel) (by decide +kernel) (by decide +kernel)]; decide) (rDt_0 (v (by decide +kernel) (by decide +kernel) (by decide +kernel) (by decide +kernel)) (v (by decide +kernel) (by decide +kernel) (by decide +kernel) (by decide +kernel)) ⟨v (by decide +kernel) (by decide +kernel) (by decide +kernel) (by decide +kernel), v (by decide +kernel) (by decide +kernel) (by decide +kernel) (by decide +kernel), v (by decide +kernel) (by decide +kernel) (by decide +kernel) (by decide +kernel), v (by decide +kernel) (by decide +kernel) (by decide +kernel) (by decide +kernel)⟩ l10)
  refine ⟨hv, 259, 0, 0, aD0, (fun _ => 0), (fun _ _ => 0), (fun _ _ => 0), ⟨⟨⟨Or.inr rfl, r1, r2, by rw [show I (259 + 6) 2 = 12 from e265]; decide, hD, aLaw0_wf⟩, r3, r4⟩, Z 21 (by decide), ⟨by rw [show I 35 2 = 0 from v (by decide +kernel) (by decide +kernel) (by decide +kernel) (by decide +kernel)]; rfl, by decide, 0, by rw [show I 35 1 = 0 from v (by decide +kernel) (by decide +kernel) (by decide +kernel) (by decide +kernel)]; rfl, by decide, fun i hi => absurd hi (by omega)⟩, fun i hi => ?_⟩, ⟨⟨⟨Or.inl rfl, h18⟩, zGood_v hv.1.2 h18, hR, aLaw0_wf⟩, fun k _ => zzero hm (by decide +kernel) (by decide +kernel) k, ⟨by rw [show I 292 51 = 0 from v (by decide +kernel) (by decide +kernel) (by decide +kernel) (by decide +kernel)]; rfl, by decide, fun i hi => absurd hi (by omega)⟩, fun i hi q => absurd (zzero3 hm (by decide +kernel) (by decide +kernel) i) q⟩, ⟨⟨by decide, by decide⟩, fun e he => absurd he (Nat.not_lt_zero _), fun p hp => (by cases hp), by decide, by decide⟩, ⟨fun _ _ => ⟨(by decide : 0 ≤ (0 : Int32).toInt), (by decide : (0 : Int32).toInt ≤ 19)⟩, fun _ _ => ⟨(by decide : 0 ≤ (0 : Int32).toInt), (by decide : (0 : Int32).toInt ≤ 99999)⟩, fun _ _ => ⟨(by decide : 0 ≤ (0 : Int32).toInt), (by decide : (0 : Int32).toInt ≤ 99999)⟩, fun _ _ _ => rfl, fun _ _ _ _ _ => rfl⟩, fun i hi => absurd hi (by omega), fun i hi q => absurd (zzero3 hm (by decide +kernel) (by decide +kernel) i) q⟩
  rcases (show i = 0 ∨ i = 1 ∨ i = 2 by omega) with rfl | rfl | rfl
  · exact Z 271 (by decide)
  · exact Z 278 (by decide)
  · exact Z 285 (by decide)
theorem whole_start {p : Program} {e : Env} {s : State} {m : MethodId} {below : List Frame} {meth : Method} {c : Code} (l : Launch) (hflags : l.flags = flags0) {b L : Nat} {xs : Nat → Int32} (hL : L ≤ 3072) (C0 : lw_At p s m meth c b L xs) : W p l e room_1 s m #[Value.ref b] below meth c s.heap [] 0 0 (lw_Z below #[Value.ref b] s) (entryFrame m ([Value.ref b] : List Value).toArray 4) := by
  obtain ⟨G, hG, hC, hH⟩ := zctx C0
  have C : lC p s m meth c b L xs G := ⟨C0, hG, hC, hH⟩
  obtain ⟨hx, hb, hr, hml, hown, hts, hX, hbl, hlocks, hgv⟩ := id C0
  have hS : va_S (qA G) s.heap s.heap [] := va_S.rf
  have hl := lv_entry ([.ref b]) (n := 4) (Nat.le_of_ble_eq_true rfl)
  rw [lg_entry_eq]
  generalize (lg_sl ([.ref b]) ++ List.replicate (4 - (lg_sl ([.ref b])).length) Slot.unset).toArray = ls at hl ⊢
  have hl : lv_has ls 4 [(0, .ref b)] := hl
  have hm0 : zM (fun _ _ => 0, fun _ _ => 0, fun _ _ => none) 0 [] (fun _ _ => 0) (fun _ _ => 0) (fun _ _ => none) := ⟨⟨fun k hk => absurd (show 31 < 15 from hk) (by decide), fun k _ hk => absurd (show 31 < 20 from hk) (by decide)⟩, fun k _ => ⟨rfl, rfl, rfl⟩, fun k _ j _ => rfl⟩
  have hP : va_P (G.2.1, G.2.2.1) vwCl (qWd G 0 (fun _ _ => 0) (fun _ _ => 0) (fun _ _ => none)) s.heap := fun k q h => by simp [qWd] at h
  refine l_new (ci := 8) C (zd (c := code) (pc := 0) (i := .new 7) (n := 3) (by decide +kernel)) (by omega) (by decide +kernel) g115 g97 (by decide) (by decide) (by omega) hP hS ?_
  intro H hz hP hS
  have hm1 := zM_newO (ci := 8) (nf := 14) hm0 (by omega) (by omega) (by decide +kernel)
  rw [show zput [] 0 (zmk 8 14) = zA1 from zAeq_t (by decide +kernel)] at hm1
  refine lv_dup hx hb (zd (c := code) (pc := 3) (i := .dup) (n := 1) (by decide +kernel)) rfl ?_
  refine l_callI (k := 0) C (zd (c := code) (pc := 4) (i := .invokespecial 9) (n := 3) (by decide +kernel)) to_X8_init g117 g118 rfl (Nat.le_of_ble_eq_true rfl) (by decide) (by decide) (c_X8_init 19 _ _ _ _ zx_init [.ref 0] _ _ _ ⟨⟨rfl, rfl⟩, trivial⟩ hm1) hz hP hS hl.1 ?_
  intro r t1 I1 L1 R1 H locs hq hz hP hS
  obtain ⟨r0, A, q1, q2, q3⟩ := hq
  obtain ⟨rfl, rfl, rfl⟩ := zend_t q3 q1
  refine lv_astore_n (lv' := [(1, .ref (G.1 + 0)), (0, .ref b)]) hx hb (zd (c := code) (pc := 7) (i := .astore_n 1) (n := 1) (by decide +kernel)) rfl hl (by decide) rfl (fun ls hl => ?_)
  refine l_new (ci := 9) C (zd (c := code) (pc := 8) (i := .new 10) (n := 3) (by decide +kernel)) (by omega) (by decide +kernel) g1104 g110 (by decide) (by decide) hz hP hS ?_
  intro H hz hP hS
  have hm2 := zM_newO (ci := 9) (nf := 65) q2 (by omega) (by omega) (by decide +kernel)
  rw [zx_new] at hm2
  refine lv_dup hx hb (zd (c := code) (pc := 11) (i := .dup) (n := 1) (by decide +kernel)) rfl ?_
  refine l_callI (k := 292) C (zd (c := code) (pc := 12) (i := .invokespecial 12) (n := 3) (by decide +kernel)) to_X9_init g1106 g1107 rfl (Nat.le_of_ble_eq_true rfl) (by decide) (by decide) (c_X9_init 23 _ _ _ _ zx_minit [.ref 292] _ _ _ ⟨⟨rfl, rfl⟩, trivial⟩ hm2) hz hP hS hl.1 ?_
  intro r t1 I1 L1 R1 H locs hq hz hP hS
  obtain ⟨r0, A, q1, q2, q3⟩ := hq
  obtain ⟨rfl, rfl, rfl⟩ := zend_t q3 q1
  refine lv_astore_n (lv' := [(2, .ref (G.1 + 292)), (1, .ref (G.1 + 0)), (0, .ref b)]) hx hb (zd (c := code) (pc := 15) (i := .astore_n 2) (n := 1) (by decide +kernel)) rfl hl (by decide) rfl (fun ls hl => ?_)
  refine lv_iconst (v := 0) hx hb (zd (c := code) (pc := 16) (i := .iconst 0) (n := 1) (by decide +kernel)) (by decide) ?_
  refine lv_istore_n (lv' := [(3, .int (0)), (2, .ref (G.1 + 292)), (1, .ref (G.1 + 0)), (0, .ref b)]) hx hb (zd (c := code) (pc := 17) (i := .istore_n 3) (n := 1) (by decide +kernel)) rfl hl (by decide) rfl (fun ls hl => ?_)
  exact l_loop C hL (by decide) (by decide) 3073 (by rw [show (0 : Int32).toInt = 0 from rfl]; omega) (by decide) (by decide) (wFirst q2) hz hP hS hl
set_option maxHeartbeats 4000000 in
theorem lw_walk (l : Launch) (hflags : l.flags = flags0) (b : Addr) (xs : List Int32) : MetFree l x (headSpec (Jvm.Cond.code x code maxLocals ret :: tables_1) room_1) (lw_P b xs) (fun _ _ _ _ _ => True) lw_Q := by
  refine MetFree.of_bodyS (code := code) (maxLocals := maxLocals) (ret := ret) (by decide) ?_ ?_
  · intro args s m h hn
    obtain ⟨meth, c, h1, h2, h3, h4, h5, h6, -, -⟩ := Cond.code_spec hn (atoms_spec (ws := Jvm.Cond.code x code maxLocals ret :: tables_1) h _ List.mem_cons_self)
    exact ⟨meth, c, h1, h2, h3, h4, h5, h6⟩
  · intro p e s m args below meth c s₁ B hml0 hP _
    obtain ⟨rfl, hx, hbd, hgv⟩ := hP
    obtain ⟨scr, harrAt, hlist, hof, hsmall⟩ := hx
    obtain ⟨hcb, hkn, -, -⟩ := State.arrayAt?_spec harrAt
    have hown : s.vm.findClass R_law = some m.cls := findClass_of_methodNamed B.named
    have hts0 : ∀ c ∈ (Jvm.Cond.code x code maxLocals ret :: tables_1), c.before #[Value.ref b] s = true := atoms_spec (ws := Jvm.Cond.code x code maxLocals ret :: tables_1) B.pre
    have hts : ∀ w ∈ lw_tbl, w.before #[Value.ref b] s = true := k2_hts_sels lw_privs (fun w hw => hts0 w (List.mem_cons_of_mem _ hw)) lw_privs_ok
    have hml : c.maxLocals = 4 := B.maxLocals_eq (hts0 _ List.mem_cons_self)
    have X₀ : Stand p l e room_1 s m #[Value.ref b] below meth c s₁ [] 0 0 := Stand.of_body B
    have hh0 : s₁.heap = s.heap := by rw [B.state]; rfl
    have hsz : scr.slots.size = xs.length := by rw [← Array.length_toList, hlist, List.length_map]
    have hval : ∀ j : Nat, j < xs.length → scr.slots[j]? = some (.int (xs.getD j 0)) := fun j hj => by
      rw [← Array.getElem?_toList, hlist]
      simp [hj]
    have hbl : b < s.heap.size := (Array.getElem?_eq_some_iff.mp hcb).1
    have hX : va_X b xs.length (fun j => xs.getD j 0) s s.heap := ⟨scr, hcb, hof, hkn, hsz, hval⟩
    have K : W p l e room_1 s m #[Value.ref b] below meth c s₁.heap [] 0 0 (lw_Z below #[Value.ref b] s) (entryFrame m ([Value.ref b] : List Value).toArray 4) := by
      rw [hh0]
      exact whole_start l hflags hbd ⟨B.exec, B.bytes, B.returns, hml, hown, hts, hX, hbl, B.notSynchronized, hgv⟩
    obtain ⟨t, a1, o, b1, b2, b3⟩ := K s₁ rfl X₀
    exact ⟨t, o, a1, b1, b2, b3⟩
theorem lw_pre_spec {args : Array Value} {s : State} (h : (Jvm.Cond.and given_1 narrow_1).before args s = true) (hr : rest_1_c.before args s = true) : ∃ (b : Addr) (xs : List Int32), lw_P b xs args s := by
  have hs := flat_of_before _ h
  have hq := flat_of_before _ hr
  have hc : (Cond.count 1).before args s = true := hs _ (by decide +kernel)
  have harr : (Cond.arrayOf (.arg 0) .int).before args s = true := hs _ (by decide +kernel)
  have hle : (Cond.le (.length (.arg 0)) (.int 3072)).before args s = true := hs _ (by decide +kernel)
  have hlen : (Cond.isInt (.length (.arg 0))).before args s = true := hq _ (by decide +kernel)
  have hall : (Cond.all (.arg 0) (.isInt (.elem (.arg 0) (.index 0)))).before args s = true := hq _ (by decide +kernel)
  obtain ⟨b, xs, hb, hx⟩ := State.ints_of_pre rfl harr hlen hall
  have hsm : xs.length < 2 ^ 31 := hx.choose_spec.2.2.2
  have hev : (Term.length (.arg 0)).eval args s none [] s = some (.int xs.length.toInt32) := hx.length_eval hb
  have hv := Cond.le_ints hev (show (Term.int 3072).eval args s none [] s = some (.int 3072) from rfl)
  have hd : xs.length.toInt32 ≤ 3072 := by
    simpa [Cond.before, Cond.holds, hv] using hle
  have hN : xs.length ≤ 3072 := (Int32.ofNat_le_ofNat hsm (by decide)).mp (show Int32.ofNat xs.length ≤ Int32.ofNat 3072 from hd)
  exact ⟨b, xs, Cond.one_arg hc (show args[0]? = some (.ref b) from hb), hx, hN, h⟩
theorem lw_comes (l : Launch) (hflags : l.flags = flags0) : Comes l x (Jvm.Cond.code x code maxLocals ret :: tables_1) room_1 (fun tb e args s => Calls_1 tb e args s ∧ rest_1 tb e args s ∧ Pre_1 tb e args s)
    (fun _ _ args s o t => lw_Q args s o t) := by
  intro p e ha hc hk s m args below hf hfit hheap happ hpre
  obtain ⟨b, xs, hP⟩ := lw_pre_spec hpre.2.2 hpre.2.1
  obtain ⟨k, o, h1, h2, h3, hQ⟩ := lw_walk l hflags b xs p e ha hc hk s m args below hf ((Spec.applies_iff_loose hf).mp happ).1 hP trivial
  exact ⟨k, o, h1, h2, h3, hQ⟩
theorem lw_frame {s t : State} {o : Outcome} {args : Array Value} (h : Framed s o t [] 600000 7302250) :
    Framed s o t (fieldLocs frame_1_writes args s ++ arrayLocs frame_1_arrays args s ++ staticLocs frame_1_statics s) 600000 7302250 := h
theorem lw_limb (L : Cond) (hL : ∀ (args : Array Value) (s t : State), L.after args s (.returned (some (.int 1))) t = true) :
    ArmFor flags0 classFile x code maxLocals ret World_1 tables_1 room_1 Calls_1 rest_1 Pre_1
      (fun tb e a s o t => postC L tb e a s o t ∧ Framed s o t (fieldLocs frame_1_writes a s ++ arrayLocs frame_1_arrays a s ++ staticLocs frame_1_statics s) 600000 7302250) := by
  intro l hflags _ _ p e ha hc hk s m args below hf hfit hheap happ hpre
  obtain ⟨k, o, h1, h2, h3, rfl, hF⟩ := lw_comes l hflags p e ha hc hk s m args below hf hfit hheap happ hpre
  exact ⟨k, _, h1, h2, h3, hL args s _, lw_frame hF⟩
theorem i_vc : Claimed_1_1 ∧ Claimed_1_2 := ⟨lw_limb limb_1_1 (fun args s t => by simp [limb_1_1, Cond.after, Cond.holds, Cond.value]), lw_limb limb_1_2 (fun args s t => Cond.after_iff.mpr (by
  first | (rw [show limb_1_2 = Cond.eq .result (.int 1) from rfl, Cond.eq_ints (x := 1) (y := 1) rfl rfl]; simp; done) | (simp [limb_1_2, Cond.value, Term.eval]; done)))⟩
