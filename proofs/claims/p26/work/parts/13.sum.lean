/-! ===== a method's summary, out of its cuts ===== -/
noncomputable def zrw (r p : Option zX) : Bool := Option.rec (motive := fun _ => Bool) (Option.rec (motive := fun _ => Bool) true (fun _ => false) p) (fun x => Option.rec (motive := fun _ => Bool) false (fun y => zxw x y) p) r
theorem zrw_t {r p : Option zX} {v : Option Value} (h : zrw r p = true) (hg : zgo r v) : zgo p v := by
  cases r with
  | none =>
    cases p with
    | some y => cases h
    | none => exact hg
  | some x =>
    cases p with
    | none => cases h
    | some y =>
      cases v with
      | none => exact hg.elim
      | some v => exact zxw_t h hg
/-- ends in one of these ways: what is given back, the memory -/
abbrev zAl : Type := List (Option zX × zAm)
noncomputable def zpost (al : zAl) : zKr := fun r t A => bif Nat.beq t 336 then List.rec (motive := fun _ => Bool) false (fun a _ ih => bif (bif zrw r a.1 then zAw A a.2 else false) then true else ih) al else false
