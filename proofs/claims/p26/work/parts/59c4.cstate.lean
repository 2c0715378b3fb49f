/-! ===== the class: states copied, cut down, begun; the hours; the ring of what was ===== -/
def cp0 (I : qMI) (b c : Nat) : qMI := qUp I b 0 (I c 0)
def cpS (M : qMI) (b c : Nat) (n : Int32) : qMI := qUpF M b (va_cpy (M c) (M b) (0 : Int32).toNatClampNeg (0 : Int32).toNatClampNeg n.toNatClampNeg)
def cpM (I : qMI) (b c : Nat) : qMI := cpS (cpS (cpS (cpS (cpS (cpS (cp0 I b c) (b + 1) (c + 1) 6) (b + 2) (c + 2) 6) (b + 3) (c + 3) 6) (b + 4) (c + 4) 6) (b + 5) (c + 5) 36) (b + 6) (c + 6) 36
theorem cpS_o {M : qMI} {b c k : Nat} {n : Int32} (h : k ≠ b) : cpS M b c n k = M k := by
  unfold cpS qUpF
  rw [if_neg h]
theorem cpS_s {M : qMI} {b c i : Nat} {n : Int32} (h : i < n.toNatClampNeg) : cpS M b c n b i = M c i := by
  unfold cpS qUpF va_cpy
  rw [if_pos rfl, show (0 : Int32).toNatClampNeg = 0 from rfl, if_pos ⟨Nat.zero_le _, by omega⟩, Nat.zero_add, Nat.sub_zero]
theorem cpM_fr {I : qMI} {b c k : Nat} (h : k < b ∨ b + 6 < k) : cpM I b c k = I k := by
  unfold cpM cp0
  rw [cpS_o (b := b + 6) (by omega), cpS_o (b := b + 5) (by omega), cpS_o (b := b + 4) (by omega), cpS_o (b := b + 3) (by omega), cpS_o (b := b + 2) (by omega), cpS_o (b := b + 1) (by omega), qUp_ro (by omega)]
theorem cpM_eq {I : qMI} {b c : Nat} {f : Nat → Int32} (hd : b + 6 < c ∨ c + 6 < b) (h : sEq I c f) : sEq (cpM I b c) b f := by
  have n6 : (6 : Int32).toNatClampNeg = 6 := rfl
  have n36 : (36 : Int32).toNatClampNeg = 36 := rfl
  intro k hk
  rw [← h k hk]
  by_cases h6 : k < 6
  · rw [sI1 h6]
    show cpM I b c (b + 1) k = I (c + 1) k
    unfold cpM cp0
    rw [cpS_o (b := b + 6) (by omega), cpS_o (b := b + 5) (by omega), cpS_o (b := b + 4) (by omega), cpS_o (b := b + 3) (by omega), cpS_o (b := b + 2) (by omega), cpS_s (by rw [n6]; exact h6), qUp_ro (by omega)]
  by_cases h12 : k < 12
  · obtain ⟨i, rfl⟩ : ∃ i, k = 6 + i := ⟨k - 6, by omega⟩
    rw [sI2 (by omega)]
    show cpM I b c (b + 2) i = I (c + 2) i
    unfold cpM cp0
    rw [cpS_o (b := b + 6) (by omega), cpS_o (b := b + 5) (by omega), cpS_o (b := b + 4) (by omega), cpS_o (b := b + 3) (by omega), cpS_s (by rw [n6]; omega), cpS_o (b := b + 1) (by omega), qUp_ro (by omega)]
  by_cases h18 : k < 18
  · obtain ⟨i, rfl⟩ : ∃ i, k = 12 + i := ⟨k - 12, by omega⟩
    rw [sI3 (by omega)]
    show cpM I b c (b + 3) i = I (c + 3) i
    unfold cpM cp0
    rw [cpS_o (b := b + 6) (by omega), cpS_o (b := b + 5) (by omega), cpS_o (b := b + 4) (by omega), cpS_s (by rw [n6]; omega), cpS_o (b := b + 2) (by omega), cpS_o (b := b + 1) (by omega), qUp_ro (by omega)]
  by_cases h24 : k < 24
  · obtain ⟨i, rfl⟩ : ∃ i, k = 18 + i := ⟨k - 18, by omega⟩
    rw [sI4 (by omega)]
    show cpM I b c (b + 4) i = I (c + 4) i
    unfold cpM cp0
    rw [cpS_o (b := b + 6) (by omega), cpS_o (b := b + 5) (by omega), cpS_s (by rw [n6]; omega), cpS_o (b := b + 3) (by omega), cpS_o (b := b + 2) (by omega), cpS_o (b := b + 1) (by omega), qUp_ro (by omega)]
  by_cases h60 : k < 60
  · obtain ⟨i, rfl⟩ : ∃ i, k = 24 + i := ⟨k - 24, by omega⟩
    rw [sI5 (by omega)]
    show cpM I b c (b + 5) i = I (c + 5) i
    unfold cpM cp0
    rw [cpS_o (b := b + 6) (by omega), cpS_s (by rw [n36]; omega), cpS_o (b := b + 4) (by omega), cpS_o (b := b + 3) (by omega), cpS_o (b := b + 2) (by omega), cpS_o (b := b + 1) (by omega), qUp_ro (by omega)]
  by_cases h96 : k < 96
  · obtain ⟨i, rfl⟩ : ∃ i, k = 60 + i := ⟨k - 60, by omega⟩
    rw [sI6 (by omega)]
    show cpM I b c (b + 6) i = I (c + 6) i
    unfold cpM cp0
    rw [cpS_s (by rw [n36]; omega), cpS_o (b := b + 5) (by omega), cpS_o (b := b + 4) (by omega), cpS_o (b := b + 3) (by omega), cpS_o (b := b + 2) (by omega), cpS_o (b := b + 1) (by omega), qUp_ro (by omega)]
  · obtain rfl : k = 96 := by omega
    show cpM I b c b 0 = I c 0
    unfold cpM cp0
    rw [cpS_o (b := b + 6) (by omega), cpS_o (b := b + 5) (by omega), cpS_o (b := b + 4) (by omega), cpS_o (b := b + 3) (by omega), cpS_o (b := b + 2) (by omega), cpS_o (b := b + 1) (by omega), qUp_at, if_pos ⟨rfl, rfl⟩]
/-- all but the loan n is over, of the first m -/
def sKm (m : Nat) (n : Int) (f : Nat → Int32) (k : Nat) : Int32 := if (24 ≤ k ∧ k < 24 + m ∧ ((k : Int) - 24) ≠ n) ∨ (60 ≤ k ∧ k < 60 + m ∧ ((k : Int) - 60) ≠ n) then 0 else f k
/-- the references of the state's objects -/
def cRs (R : qMR) : Prop := (R 0 2 = some 21 ∧ R 0 3 = some 28 ∧ R 0 4 = some 35 ∧ R 0 5 = some 247 ∧ R 0 6 = some 248 ∧ R 0 7 = some 249) ∧ R 35 0 = some 36 ∧ (∀ i, i < 30 → R 36 i = some (37 + 7 * i)) ∧ (∀ i, i < 3 → R 247 i = some (271 + 7 * i)) ∧ ∀ b ∈ bL, cSt R b
/-- what was, n of them, the oldest first -/
def pEq (I : qMI) (n : Nat) (h : Nat → Nat → Int32) : Prop := (I 35 2).toInt = n ∧ n ≤ 30 ∧ ∃ x : Nat, (I 35 1).toInt = x ∧ x < 30 ∧ ∀ i, i < n → sEq I (37 + 7 * ((x + 30 - n + i) % 30)) (h i)
def hN (n : Nat) : Nat := if n < 30 then n + 1 else 30
def hH (n : Nat) (h : Nat → Nat → Int32) (f : Nat → Int32) (i : Nat) : Nat → Int32 := if n < 30 then (if i = n then f else h i) else (if i = 29 then f else h (i + 1))
theorem bRing {i : Nat} (h : i < 30) : 37 + 7 * i ∈ bL := by
  have all : ∀ i, i < 30 → 37 + 7 * i ∈ bL := by decide +kernel
  exact all i h
theorem bSlot {i : Nat} (h : i < 3) : 271 + 7 * i ∈ bL := by
  have all : ∀ i, i < 3 → 271 + 7 * i ∈ bL := by decide +kernel
  exact all i h
theorem bNow : 21 ∈ bL := by decide +kernel
theorem bAhead : 28 ∈ bL := by decide +kernel
section
variable {l : Launch} {G : qG} {d : Nat} {I : qMI} {L : qML} {R : qMR} {o b c : Nat} {A : aD} {f : Nat → Int32}
theorem sCopy (hb : b ∈ bL) (hc : c ∈ bL) (hB : cSt R b) (hC : cSt R c) : wkCv l G (d + 1) n_X4_copy [.ref b, .ref c] I L R (fun I' L' R' => R' = R ∧ L' = L ∧ I' = cpM I b c) :=
  wkC_of 0 (by decide) (Nat.le_of_ble_eq_true rfl) (w_X4_copy_0 hb hc (hC 1 (by decide) (by decide)) (hB 1 (by decide) (by decide)) (hC 2 (by decide) (by decide)) (hB 2 (by decide) (by decide)) (hC 3 (by decide) (by decide)) (hB 3 (by decide) (by decide)) (hC 4 (by decide) (by decide)) (hB 4 (by decide) (by decide)) (hC 5 (by decide) (by decide)) (hB 5 (by decide) (by decide)) (hB 5 (by decide) (by decide)) (hC 6 (by decide) (by decide)) (hB 6 (by decide) (by decide)) (hB 6 (by decide) (by decide)) ⟨rfl, rfl, rfl, rfl, rfl⟩)
theorem sKeep (hb : b ∈ bL) (hB : cSt R b) (hs : sEq I b f) {x : Int32} {n : Int} (hx : x.toInt = n) : wkCv l G (d + 2) n_X4_keepOnly [.ref b, .int x] I L R (fun I' L' R' => R' = R ∧ L' = L ∧ (∀ k, (k < b ∨ b + 6 < k) → I' k = I k) ∧ sEq I' b (sKm 36 n f)) := by
  have hbo := bOk hb
  have loop : ∀ (j m : Nat) (y : Int32) (J : qMI), 36 - m = j → m ≤ 36 → y.toInt = m → (∀ k, (k < b ∨ b + 6 < k) → J k = I k) → sEq J b (sKm m n f) → wkB l G (d + 1 + 1) n_X4_keepOnly (fun r t I' L' R' => t = 336 ∧ r = none ∧ R' = R ∧ L' = L ∧ (∀ k, (k < b ∨ b + 6 < k) → I' k = I k) ∧ sEq I' b (sKm 36 n f)) 2 [.ref b, .int x, .int y] [] J L R := by
    intro j
    induction j with
    | zero =>
      intro m y J hj hm hy hJ hsJ
      obtain rfl : m = 36 := by omega
      exact w_X4_keepOnly_2 hb (hB 5 (by decide) (by decide)) (fun _ => w_X4_keepOnly_27 hb ⟨rfl, rfl, rfl, rfl, hJ, hsJ⟩) (fun q => absurd (i_le.mpr (by rw [show (36 : Int32).toInt = 36 from rfl]; omega)) q)
    | succ j ih =>
      intro m y J hj hm hy hJ hsJ
      have sy : (y + 1).toInt = (m + 1 : Nat) := by rw [i_s (by omega)]; omega
      refine w_X4_keepOnly_2 hb (hB 5 (by decide) (by decide)) (fun q => absurd (i_le.mp q) (by rw [show (36 : Int32).toInt = 36 from rfl]; omega)) (fun _ => w_X4_keepOnly_11 hb (fun q => ?_) (fun q => ?_))
      · refine w_X4_keepOnly_21 hb (ih (m + 1) _ J (by omega) (by omega) sy hJ (sEq_eq hsJ (fun k hk => ?_)))
        have hn : n = m := by rw [← hx, ← hy, q]
        unfold sKm
        by_cases c : (24 ≤ k ∧ k < 24 + m ∧ ((k : Int) - 24) ≠ n) ∨ (60 ≤ k ∧ k < 60 + m ∧ ((k : Int) - 60) ≠ n)
        · rw [if_pos c, if_pos (by omega)]
        · rw [if_neg c, if_neg (by omega)]
      · have hn : n ≠ m := fun z => q (i_eq.mpr (by omega))
        refine w_X4_keepOnly_16 hb (sEnd (d := d) (n := m) hB hb hy (by omega)) (fun I1 L1 R1 hq => ?_)
        obtain ⟨rfl, rfl, rfl⟩ := hq
        refine w_X4_keepOnly_21 hb (ih (m + 1) _ _ (by omega) (by omega) sy (fun k hk => by rw [qUp_ro (by omega), qUp_ro (by omega)]; exact hJ k hk) (sEq_eq (sEq_up (x := 0) (sEq_up (x := 0) hsJ (k := 24 + m) (by omega) (sI5 (by omega))) (k := 60 + m) (by omega) (sI6 (by omega))) (fun k hk => ?_)))
        unfold tU sKm
        by_cases c : (24 ≤ k ∧ k < 24 + (m + 1) ∧ ((k : Int) - 24) ≠ n) ∨ (60 ≤ k ∧ k < 60 + (m + 1) ∧ ((k : Int) - 60) ≠ n)
        · rw [if_pos c]
          by_cases k1 : k = 60 + m
          · rw [if_pos k1]
          · rw [if_neg k1]
            by_cases k2 : k = 24 + m
            · rw [if_pos k2]
            · rw [if_neg k2, if_pos (by omega)]
        · rw [if_neg c, if_neg (by omega), if_neg (by omega), if_neg (by omega)]
  refine wkC_of 1 (by decide) (Nat.le_of_ble_eq_true rfl) (w_X4_keepOnly_0 hb (loop 36 0 0 I rfl (by decide) rfl (fun _ _ => rfl) (sEq_eq hs (fun k hk => ?_))))
  unfold sKm
  rw [if_neg (by omega)]
end
