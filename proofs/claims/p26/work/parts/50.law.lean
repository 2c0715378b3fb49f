/-! ===== a law is told ===== -/
section
variable {l : Launch} {G : qG} {d : Nat} {I0 : qMI} {L : qML} {R : qMR} {sb bb : Nat}
/-- inside a law: br branches so far, those of this law (from b0 on) good -/
def yLI (sb bb c0 b0 : Nat) (I0 J : qMI) (c br : Nat) : Prop := yL sb bb (sb + c0) b0 I0 J ∧ yCS sb c J ∧ ((J 292 34).toInt = br ∧ b0 ≤ br ∧ br ≤ bb + 100) ∧ yM I0 J ∧ c0 ≤ c ∧ (J 292 13 = 0 → 4 * ((br : Int) - bb) + 2 ≤ (J 292 11).toInt ∧ (I0 292 11).toInt + 1 ≤ (J 292 11).toInt ∧ ∀ b, b0 ≤ b → b < br → yB sb J b (sb + c))
/-- behind a law -/
def yLP (sb bb c0 b0 at_ : Nat) (I0 I' : qMI) : Prop := ∃ (c' br' : Nat), yCS sb c' I' ∧ ((I' 292 34).toInt = br' ∧ b0 ≤ br' ∧ br' ≤ bb + 102) ∧ yM I0 I' ∧ c0 ≤ c' ∧ ((I' 292 13 ≠ 0 ∧ yL sb bb (sb + c0) b0 I0 I') ∨ (I' 292 13 = 0 ∧ (∃ J, yL sb bb (sb + c0) b0 I0 J ∧ I' = qUp (qUp J 311 at_ (I0 292 34)) 312 at_ (I' 292 34)) ∧ 4 * ((br' : Int) - bb) ≤ (I' 292 11).toInt ∧ (I0 292 11).toInt + 1 ≤ (I' 292 11).toInt ∧ ∀ b, b0 ≤ b → b < br' → yB sb I' b (sb + c')))
end
