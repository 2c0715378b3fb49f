/-! ===== the reference's tokens ===== -/
/-- what cutting may change: the tokens' rows, how many -/
def yQ (I0 I : qMI) : Prop := (∀ k, k ≠ 292 → k ≠ 295 → k ≠ 296 → k ≠ 297 → I k = I0 k) ∧ (∀ j, j ≠ 10 → I 292 j = I0 292 j) ∧ (∀ i, i < 403 → 0 ≤ (I 295 i).toInt ∧ (I 295 i).toInt ≤ 42)
section
variable {l : Launch} {G : qG} {d : Nat} {I I0 : qMI} {L : qML} {R : qMR}
end
