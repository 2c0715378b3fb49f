/-! ===== a field against a field, against an array's length; a field's values one by one ===== -/
section ZNG
variable {l : Launch} {G : qG} {gh : zGh} {d : Nat} {K : zKr} {M : qMn} {pc : Nat} {k kt kf : zK}
/-- all values from lo on, so many -/
noncomputable def zup (lo n : Nat) (f : Nat → Bool) : Bool := Nat.rec (motive := fun _ => Bool) true (fun k ih => bif ih then f (Nat.add lo k) else false) n
theorem zup_t {lo : Nat} {f : Nat → Bool} : ∀ {n : Nat}, zup lo n f = true → ∀ v, lo ≤ v → v < lo + n → f v = true
  | 0, _, v, h1, h2 => by omega
  | n + 1, h, v, h1, h2 => by
    obtain ⟨g1, g2⟩ := zand (show (bif zup lo n f then f (Nat.add lo n) else false) = true from h)
    by_cases e : v = lo + n
    · subst e; exact g2
    · exact zup_t g1 v h1 (by omega)
end ZNG
