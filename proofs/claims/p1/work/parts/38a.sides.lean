/-! ===== each side by itself ===== -/
def zA4 : zAm := [[], [], [], [], [[], [], [], [], [31, 31, 31, 31, 27802324040296509319766169648491939646962842039046924021763329829305907705211017291570640864808568742298106745726551034486089476945565115512766770734799649072951452485217762040195842910404175586370117355600915686394191125632444843255078001713963773768968548640925882180148827549085352176677520601808040593749064537533313622702900781817694418008241201097333761711328307162448486901956853321938296065361174404947250676489563632505218088345413883813016005055347665524166303375749021487250648566051536894442144846104740469758858966591977999369532230275703470845063638852567387962365556313925963003529903164746114472864872296824346953783529073528742251803480586138543840017002354519294186687773540080369550179651208548330203669349519580338967229336684444578765169666941381834987836257321863219350718512347755724304010512198091667333981029497940499651727870587711186876798017863141778308466143813807535670315072863535343554086119261922502991253415970325221792286490475232555567858261363159557906403548535555951857252764419798991902633883570372340578130095315743458225550923441098691038018364783502755360293748169954349970426297660814553460974523347432052620796299315030042445771137567242909163754618043516191978608926622707618165885294446530654954781553731787506111744041, 64011, 64011, 12906], [12906, 12906, 12909, 5997241238912102500848555436572085695719136337427711529299301362010516391140205087975551267893560448008543420521806391010018505269190422199097213511257287751886139439906392430931513717646410219287807799797885701378447848232179218494693664651208137604687577789964111334850197265614305447367201287264136188355120228387861319995230867655487294327682558030157656249065025482580302630995652347777033586044430918789168329565664368150985956583801581, 397, 74, 394, 394], [74, 394, 394, 103079215178, 74, 74, 74, 330], [330, 8332, 8330, 8330, 8330, 8330, 26890, 26890]], [[2058, 298, 12810, 3114, 3114, 93130, 650, 106], [716, 716, 650, 650, 650, 13450, 108, 9322]]]
noncomputable def zpre (A P : zAm) : Bool := bif Nat.ble P.length 6 then zall (List.range 384) (fun k => bif Nat.beq (zcell P k) 31 then true else zrel (zcell A k) (zcell P k)) else false
theorem zn_out {α : Type} (d : α) : ∀ (l : List α) (i : Nat), l.length ≤ i → zn d l i = d
  | [], _, _ => rfl
  | _ :: _, 0, h => by simp at h
  | _ :: l, i + 1, h => zn_out d l i (by simpa using h)
theorem zpre_t {A P : zAm} (h : zpre A P = true) (k : Nat) : zcell P k = 31 ∨ zrel (zcell A k) (zcell P k) = true := by
  obtain ⟨h1, h2⟩ := zand h
  have h1 := Nat.le_of_ble_eq_true h1
  by_cases hk : k < 384
  · have h3 := zall_t h2 k (List.mem_range.mpr hk)
    cases h4 : Nat.beq (zcell P k) 31 with
    | true => exact Or.inl (Nat.eq_of_beq_eq_true h4)
    | false => rw [h4, cond_false] at h3; exact Or.inr h3
  · refine Or.inl ?_
    unfold zcell
    rw [zn_out [] P (Nat.div k 64) (by rw [zdiv_e]; omega)]
    rfl
theorem zM_pre {gh : zGh} {t : Nat} {A P : zAm} {I : qMI} {L : qML} {R : qMR} (hm : zM gh t A I L R) (h : zpre A P = true) : zM (I, L, R) t P I L R := by
  refine ⟨fun k hk => ?_, fun k _ => ⟨rfl, rfl, rfl⟩⟩
  rcases zpre_t h k with h1 | h1
  · exact absurd hk (zn15 h1)
  · obtain ⟨e1, e2, e3⟩ := zrel_t h1
    obtain ⟨g1, g2, g3, g4⟩ := hm.1 k (by rw [e1]; exact hk)
    rw [e1] at g2 g4
    rw [e2] at g3
    exact ⟨g1, g2, g3, fun j => e3 j _ _ _ (g4 j)⟩
theorem zpre_2 : zpre zA0 zA2 = true := by decide +kernel
theorem zpre_4 : zpre zA0 zA4 = true := by decide +kernel
/-- ends with this int; of the other side's cells nothing is known -/
noncomputable def zret (c : Nat) : zKr := fun r t A => Option.rec (motive := fun _ => Bool) false (fun x => zI x (fun a => bif Nat.beq a c then (bif zk c then (bif Nat.beq t 336 then zall (List.range 384) (fun k => bif Nat.ble k 291 then true else Nat.beq (zcell A k) 31) else false) else false) else false)) r
noncomputable def zret2 (c : Nat) : zKr := fun r _ _ => Option.rec (motive := fun _ => Bool) false (fun x => zI x (fun a => bif Nat.beq a c then zk c else false)) r
theorem zA4_out {k : Nat} (h : ztag (zcell zA4 k) < 15) : 291 < k ∧ k < 384 := by
  have e : ∀ k, k < 292 → zcell zA4 k = 31 := by decide +kernel
  refine ⟨?_, ?_⟩
  · by_cases hk : k < 292
    · exact absurd h (zn15 (e k hk))
    · omega
  · by_cases hk : k < 384
    · exact hk
    · have : zcell zA4 k = 31 := by
        unfold zcell
        rw [zn_out [] zA4 (Nat.div k 64) (by rw [zdiv_e]; show 6 ≤ _; omega)]
        rfl
      exact absurd h (zn15 this)
theorem zcase2 {l : Launch} {G : qG} {gh : zGh} {d : Nat} {N1 N2 : qMn} {f1 f2 : zMt} {as : List zX} {as' : List Value} {I : qMI} {L : qML} {R : qMR} {c : Nat} (hm : zM gh 336 zA0 I L R) (h1 : ∀ gh, zC l G gh d N1 f1) (h2 : ∀ gh, zC l G gh d N2 f2) (hr1 : f1 (.inr (.ref 0) :: as) 336 zA2 (zret c) = true) (hr2 : f2 (.inr (.ref 292) :: as) 336 zA4 (zret2 c) = true) (hs : zgs as as') : zH l G d N1 N2 as' I L R := by
  refine qCall_mono (h1 (I, L, R) _ 336 zA2 _ hr1 (.ref 0 :: as') I L R ⟨⟨rfl, rfl⟩, hs⟩ (zM_pre hm zpre_2)) ?_
  intro r t I1 L1 R1 hq
  obtain ⟨r0, A, q1, q2, q3⟩ := hq
  cases r0 with
  | none => cases q3
  | some y =>
    cases r with
    | none => exact q1.elim
    | some v =>
      obtain ⟨a, x, rfl, p1, p2⟩ := zI_t (f := fun a => bif Nat.beq a c then (bif zk c then (bif Nat.beq t 336 then zall (List.range 384) (fun k => bif Nat.ble k 291 then true else Nat.beq (zcell A k) 31) else false) else false) else false) q3 q1
      obtain ⟨p3, p4⟩ := zand p2
      obtain ⟨p5, p6⟩ := zand p4
      obtain ⟨p7, p8⟩ := zand p6
      have e1 := Nat.eq_of_beq_eq_true p3
      have e2 := Nat.eq_of_beq_eq_true p7
      subst e1
      subst e2
      refine ⟨rfl, ⟨x, rfl⟩, ?_⟩
      have hx := zk_in p5 p1
      have hun : ∀ k, 291 < k → k < 384 → I1 k = I k ∧ L1 k = L k ∧ R1 k = R k := fun k hk1 hk2 => by
        have h3 := zall_t p8 k (List.mem_range.mpr hk2)
        cases h4 : Nat.ble k 291 with
        | true => have := Nat.le_of_ble_eq_true h4; omega
        | false =>
          rw [h4, cond_false] at h3
          exact q2.2 k (zn15 (Nat.eq_of_beq_eq_true h3))
      have hm4 := zM_pre hm zpre_4
      have hm5 : zM (I1, L1, R1) 336 zA4 I1 L1 R1 := by
        refine ⟨fun k hk => ?_, fun k _ => ⟨rfl, rfl, rfl⟩⟩
        obtain ⟨k1, k2⟩ := zA4_out hk
        obtain ⟨o1, o2, o3⟩ := hun k k1 k2
        rw [o1, o2, o3]
        exact hm4.1 k hk
      refine qCall_mono (h2 (I1, L1, R1) _ 336 zA4 _ hr2 (.ref 292 :: as') I1 L1 R1 ⟨⟨rfl, rfl⟩, hs⟩ hm5) ?_
      intro r2 t2 I2 L2 R2 hq2
      obtain ⟨r3, A2, s1, s2, s3⟩ := hq2
      cases r3 with
      | none => cases s3
      | some y2 =>
        cases r2 with
        | none => exact s1.elim
        | some v2 =>
          obtain ⟨a2, x2, rfl, u1, u2⟩ := zI_t (f := fun b => bif Nat.beq b a then zk a else false) s3 s1
          obtain ⟨u3, u4⟩ := zand u2
          have e3 := Nat.eq_of_beq_eq_true u3
          subst e3
          exact ⟨x, rfl, by rw [zb_inj ((zk_in u4 u1).trans hx.symm)]⟩

