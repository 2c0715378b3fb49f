/-! ===== a place's values one by one ===== -/
section ZSPE
variable {l : Launch} {G : qG} {gh : zGh} {d : Nat} {K : zKr} {M : qMn} {pc : Nat} {k : zK}
noncomputable def oSpE (a i n : Nat) (k : zK) : zK := fun lv st ce sl t A => zI (zn zdum lv i) (fun c => bif Nat.beq (ztag (zcell A a)) 10 then (bif Nat.ble (Nat.succ (zhi (Nat.xor (zraw (zcell A a) (Nat.sub c 2147483648)) 2147483648))) (Nat.add (zlo (Nat.xor (zraw (zcell A a) (Nat.sub c 2147483648)) 2147483648)) n) then zup (zlo (Nat.xor (zraw (zcell A a) (Nat.sub c 2147483648)) 2147483648)) n (fun v => k lv st ce sl t (zput A a (zupd (zcell A a) (Nat.sub c 2147483648) (Nat.xor v 2147483648)))) else false) else false)
theorem z_spE {a i n : Nat} (hk : zS l G gh d K M pc k) : zS l G gh d K M pc (oSpE a i n k) := by
  intro lv st ce sl t A h lv' st' I L R hl hs hm
  obtain ⟨v, k1, z1⟩ := zgl_get hl (zI_nd h)
  obtain ⟨c, x, rfl, hx, h⟩ := zI_t h z1
  obtain ⟨b1, h⟩ := zand h
  obtain ⟨b2, h⟩ := zand h
  obtain ⟨f1, f2, f3, f4, f5⟩ := zM_at hm.1 b1 (by omega)
  generalize Nat.sub c 2147483648 = j at b2 h
  have hkd : zkd 10 j = 0 := rfl
  have g4 := (f5 j).1 hkd
  have e2 := Nat.le_of_ble_eq_true b2
  rw [zadd_e] at e2
  have hv := zup_t h (zb (I a j)) g4.1 (by have := g4.2; omega)
  refine hk lv st ce sl t _ hv lv' st' I L R hl hs ⟨?_, hm.2⟩
  refine zM_set0 hm.1 f1 (zmxx (Nat.ble_eq_true_of_le (by have := zb_lt (I a j); omega))) ⟨f1, rfl, fun _ => rfl⟩ (fun k i _ => ⟨rfl, rfl, rfl⟩) ⟨fun _ => ?_, fun q => ?_, fun q => ?_⟩ (by omega) (fun q => hm.1.2.1 a (Or.inr q)) (fun q => hm.1.2.2 a q)
  · rw [zxx]; exact zin_b _
  · rw [hkd] at q; cases q
  · rw [hkd] at q; cases q
end ZSPE
