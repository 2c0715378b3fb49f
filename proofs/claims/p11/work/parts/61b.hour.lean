/-! ===== loops from this hour on: calls that stay within one memory ===== -/
section ZHR
variable {l : Launch} {G : qG} {gh : zGh} {d : Nat}
theorem zcallA {N : qMn} {g : zMt} {as : List zX} {as' : List Value} {A A1 : zAm} {I : qMI} {L : qML} {R : qMR} (hc : zC l G gh d N g) (h : g as 336 A (zpost [(some (.inl ztop), A1)]) = true) (hs : zgs as as') (hm : zM gh 336 A I L R) : wkCi l G d N as' I L R (fun _ I' L' R' => zM gh 336 A1 I' L' R') := by
  refine qCall_mono (hc as 336 A _ h as' I L R hs hm) ?_
  intro r t I1 L1 R1 hq
  obtain ⟨r0, A', q1, q2, q3⟩ := hq
  obtain ⟨q4, q5⟩ := zand q3
  have e4 := Nat.eq_of_beq_eq_true q4
  subst e4
  rcases zelse (show (bif (bif zrw r0 (some (.inl ztop)) then zAw A' A1 else false) then true else false) = true from q5) with ⟨q6, -⟩ | q6
  · obtain ⟨q7, q8⟩ := zand q6
    have q9 := zrw_t q7 q1
    cases r with
    | none => exact q9.elim
    | some v =>
      obtain ⟨y, rfl, -⟩ := q9
      exact ⟨rfl, y, rfl, zM_w q2 q8⟩
  · cases q6
noncomputable def zucs (A : zAm) (ks : List Nat) : zAm := List.rec (motive := fun _ => zAm) A (fun k _ ih => zuc ih k) ks
/-- a memory that two calls stay within, this hour as it was -/
noncomputable def zhk (g h : zMt) (fl : Nat) (xs : List zX) (A : zAm) : Bool := bif Nat.beq (ztag (zcell A 0)) 8 then (bif Nat.beq (zraw (zcell A 0) 2) 22 then (bif Nat.beq (zraw (zcell A 0) 12) (Nat.succ fl) then (bif Nat.beq (ztag (zcell A fl)) 0 then (bif zfr (zcell A 21) then (bif g [.inr (.ref fl), .inl ztop] 336 A (zpost [(some (.inl ztop), A)]) then h (.inr (.ref fl) :: xs) 336 A (zpost [(some (.inl ztop), A)]) else false) else false) else false) else false) else false) else false
theorem zhk_t {g h : zMt} {fl : Nat} {xs : List zX} {A : zAm} (hk : zhk g h fl xs A = true) : (∀ I L R, zM gh 336 A I L R → R 0 2 = some 21 ∧ R 0 12 = some fl ∧ I 21 0 = gh.1 21 0 ∧ fl < 336 ∧ (qSh fl).1 = 0) ∧ g [.inr (.ref fl), .inl ztop] 336 A (zpost [(some (.inl ztop), A)]) = true ∧ h (.inr (.ref fl) :: xs) 336 A (zpost [(some (.inl ztop), A)]) = true := by
  obtain ⟨h1, hk⟩ := zand hk
  obtain ⟨h2, hk⟩ := zand hk
  obtain ⟨h3, hk⟩ := zand hk
  obtain ⟨h4, hk⟩ := zand hk
  obtain ⟨h5, hk⟩ := zand hk
  obtain ⟨h6, h7⟩ := zand hk
  refine ⟨fun I L R hm => ?_, h6, h7⟩
  obtain ⟨f1, f2, f3, f4, f5⟩ := zM_at hm h1 (by omega)
  obtain ⟨g1, g2, g3, g4, g5⟩ := zM_at hm h4 (by omega)
  have e2 := (f5 2).2.2 (zkd_R (by decide) rfl)
  have e3 := (f5 12).2.2 (zkd_R (by decide) rfl)
  rw [Nat.eq_of_beq_eq_true h2] at e2
  rw [Nat.eq_of_beq_eq_true h3] at e3
  exact ⟨e2, e3, by rw [(hm.2.1 21 (Or.inr h5)).1], g2, g3⟩
/-- an array's places of any value, unmarked: written, the memory is as it was -/
noncomputable def zfree (A : zAm) (a n : Nat) : Bool := bif Nat.beq (ztag (zcell A a)) 16 then (bif Nat.beq (zlen (zcell A a)) n then (bif Nat.beq (Nat.mod (Nat.div (zcell A a) 131072) 4) 0 then Nat.beq (Nat.xor (zraw (zcell A a) 0) 2147483648) ztop else false) else false) else false
theorem zfree_t {A : zAm} {a n : Nat} (h : zfree A a n = true) {I : qMI} {L : qML} {R : qMR} (hm : zM gh 336 A I L R) (j : Nat) (x : Int32) : zM gh 336 A (qUp I a j x) L R := by
  obtain ⟨h1, h⟩ := zand h
  obtain ⟨h2, h⟩ := zand h
  obtain ⟨h3, h4⟩ := zand h
  have := zM_uset (tg := 10) (j := j) (x := x) hm h1 (by omega) (by omega) (by rw [Nat.eq_of_beq_eq_true h4]; exact zin_top x)
  unfold zuc at this
  rw [h3] at this
  exact this
end ZHR
