section
variable {l : Launch} {G : qG} {d : Nat}
def n_X6_isBlank : qMn := (yX6_isBlank, cX6_isBlank, 1, (some Jvm.ClassFile.FieldType.boolean), 0, 0)
theorem to_X6_isBlank : qTo n_X6_isBlank 1 := ⟨g538, g100, ⟨by decide, by decide, by decide +kernel⟩, by decide⟩
def n_X6_isLetter : qMn := (yX6_isLetter, cX6_isLetter, 1, (some Jvm.ClassFile.FieldType.boolean), 0, 0)
theorem to_X6_isLetter : qTo n_X6_isLetter 1 := ⟨g541, g100, ⟨by decide, by decide, by decide +kernel⟩, by decide⟩
def n_X6_isDigit : qMn := (yX6_isDigit, cX6_isDigit, 1, (some Jvm.ClassFile.FieldType.boolean), 0, 0)
theorem to_X6_isDigit : qTo n_X6_isDigit 1 := ⟨g552, g100, ⟨by decide, by decide, by decide +kernel⟩, by decide⟩
def n_X6_withLetter : qMn := (yX6_withLetter, cX6_withLetter, 3, (some Jvm.ClassFile.FieldType.long), 0, 0)
theorem to_X6_withLetter : qTo n_X6_withLetter 2 := ⟨g202, g100, ⟨by decide, by decide, by decide +kernel⟩, by decide⟩
def n_X6_skipBlanks : qMn := (yX6_skipBlanks, cX6_skipBlanks, 2, none, 0, 0)
theorem to_X6_skipBlanks : qTo n_X6_skipBlanks 1 := ⟨g531, g100, ⟨by decide, by decide, by decide +kernel⟩, by decide⟩
def n_X6_kindOf : qMn := (yX6_kindOf, cX6_kindOf, 4, (some Jvm.ClassFile.FieldType.int), 0, 0)
theorem to_X6_kindOf : qTo n_X6_kindOf 1 := ⟨g549, g100, ⟨by decide, by decide, by decide +kernel⟩, by decide⟩
def n_X6_scanLetters : qMn := (yX6_scanLetters, cX6_scanLetters, 6, none, 0, 0)
theorem to_X6_scanLetters : qTo n_X6_scanLetters 2 := ⟨g545, g100, ⟨by decide, by decide, by decide +kernel⟩, by decide⟩
def n_X6_scanDigits : qMn := (yX6_scanDigits, cX6_scanDigits, 6, none, 0, 0)
theorem to_X6_scanDigits : qTo n_X6_scanDigits 2 := ⟨g556, g100, ⟨by decide, by decide, by decide +kernel⟩, by decide⟩
def n_X6_scan : qMn := (yX6_scan, cX6_scan, 4, none, 0, 0)
theorem to_X6_scan : qTo n_X6_scan 1 := ⟨g527, g100, ⟨by decide, by decide, by decide +kernel⟩, by decide⟩
def n_X5_byteAt : qMn := (yX5_byteAt, cX5_byteAt, 2, (some Jvm.ClassFile.FieldType.int), 0, 0)
theorem to_X5_byteAt : qTo n_X5_byteAt 1 := ⟨g535, g98, ⟨by decide, by decide, by decide +kernel⟩, by decide⟩
theorem w_X6_isBlank_0 {Q : qQ} {I : qMI} {L : qML} {R : qMR} {a0 : Int32} (kt : a0 = 9 → wkB l G (d + 1) n_X6_isBlank Q 24 [.int a0] [] I L R) (kf : ¬ a0 = 9 → wkB l G (d + 1) n_X6_isBlank Q 6 [.int a0] [] I L R) : wkB l G (d + 1) n_X6_isBlank Q 0 [.int a0] [] I L R :=
  bb_iload_n (n := 0) (i := 0) (zd (i := .iload_n 0) (n := 1) (by decide +kernel)) rfl rfl <|
  bb_lift (fun _ => q_bipush (n := 9) (zd (i := .bipush (9)) (n := 2) (by decide +kernel)) rfl) <|
  (fun lv hl => q_icmp_eq (off := 21) (tgt := 24) (zd (i := .if_icmp .eq (21)) (n := 3) (by decide +kernel)) (by decide) (fun h => (kt h) lv hl) (fun h => (kf h) lv hl))
theorem w_X6_isBlank_6 {Q : qQ} {I : qMI} {L : qML} {R : qMR} {a0 : Int32} (kt : a0 = 10 → wkB l G (d + 1) n_X6_isBlank Q 24 [.int a0] [] I L R) (kf : ¬ a0 = 10 → wkB l G (d + 1) n_X6_isBlank Q 12 [.int a0] [] I L R) : wkB l G (d + 1) n_X6_isBlank Q 6 [.int a0] [] I L R :=
  bb_iload_n (n := 0) (i := 0) (zd (i := .iload_n 0) (n := 1) (by decide +kernel)) rfl rfl <|
  bb_lift (fun _ => q_bipush (n := 10) (zd (i := .bipush (10)) (n := 2) (by decide +kernel)) rfl) <|
  (fun lv hl => q_icmp_eq (off := 15) (tgt := 24) (zd (i := .if_icmp .eq (15)) (n := 3) (by decide +kernel)) (by decide) (fun h => (kt h) lv hl) (fun h => (kf h) lv hl))
theorem w_X6_isBlank_12 {Q : qQ} {I : qMI} {L : qML} {R : qMR} {a0 : Int32} (kt : a0 = 13 → wkB l G (d + 1) n_X6_isBlank Q 24 [.int a0] [] I L R) (kf : ¬ a0 = 13 → wkB l G (d + 1) n_X6_isBlank Q 18 [.int a0] [] I L R) : wkB l G (d + 1) n_X6_isBlank Q 12 [.int a0] [] I L R :=
  bb_iload_n (n := 0) (i := 0) (zd (i := .iload_n 0) (n := 1) (by decide +kernel)) rfl rfl <|
  bb_lift (fun _ => q_bipush (n := 13) (zd (i := .bipush (13)) (n := 2) (by decide +kernel)) rfl) <|
  (fun lv hl => q_icmp_eq (off := 9) (tgt := 24) (zd (i := .if_icmp .eq (9)) (n := 3) (by decide +kernel)) (by decide) (fun h => (kt h) lv hl) (fun h => (kf h) lv hl))
theorem w_X6_isBlank_18 {Q : qQ} {I : qMI} {L : qML} {R : qMR} {a0 : Int32} (kt : ¬ a0 = 32 → wkB l G (d + 1) n_X6_isBlank Q 28 [.int a0] [] I L R) (kf : a0 = 32 → wkB l G (d + 1) n_X6_isBlank Q 24 [.int a0] [] I L R) : wkB l G (d + 1) n_X6_isBlank Q 18 [.int a0] [] I L R :=
  bb_iload_n (n := 0) (i := 0) (zd (i := .iload_n 0) (n := 1) (by decide +kernel)) rfl rfl <|
  bb_lift (fun _ => q_bipush (n := 32) (zd (i := .bipush (32)) (n := 2) (by decide +kernel)) rfl) <|
  (fun lv hl => q_icmp_ne (off := 7) (tgt := 28) (zd (i := .if_icmp .ne (7)) (n := 3) (by decide +kernel)) (by decide) (fun h => (kt h) lv hl) (fun h => (kf h) lv hl))
theorem w_X6_isBlank_24 {Q : qQ} {I : qMI} {L : qML} {R : qMR} {a0 : Int32} (k : wkB l G (d + 1) n_X6_isBlank Q 29 [.int a0] [.int 1] I L R) : wkB l G (d + 1) n_X6_isBlank Q 24 [.int a0] [] I L R :=
  bb_lift (fun _ => q_iconst (n := 1) (zd (i := .iconst (1)) (n := 1) (by decide +kernel)) rfl) <|
  bb_lift (fun _ => q_goto (off := 4) (tgt := 29) (zd (i := .goto (4)) (n := 3) (by decide +kernel)) (by decide)) k
theorem w_X6_isBlank_28 {Q : qQ} {I : qMI} {L : qML} {R : qMR} {a0 : Int32} (k : wkB l G (d + 1) n_X6_isBlank Q 29 [.int a0] [.int 0] I L R) : wkB l G (d + 1) n_X6_isBlank Q 28 [.int a0] [] I L R :=
  bb_lift (fun _ => q_iconst (n := 0) (zd (i := .iconst (0)) (n := 1) (by decide +kernel)) rfl) <|
  k
theorem w_X6_isBlank_29 {Q : qQ} {I : qMI} {L : qML} {R : qMR} {a0 : Int32} {s0 : Int32} (hQ : Q (some (.int s0)) 336 I L R) (h1 : s0 = 0 ∨ s0 = 1) : wkB l G (d + 1) n_X6_isBlank Q 29 [.int a0] [.int s0] I L R :=
  (fun lv hl => q_iret (zd (i := .ireturn) (n := 1) (by decide +kernel)) rfl (by rcases h1 with e | e <;> rw [e] <;> rfl) (Nat.le_refl _) (Nat.le_refl _) hQ)
theorem w_X6_isLetter_0 {Q : qQ} {I : qMI} {L : qML} {R : qMR} {a0 : Int32} (kt : a0 < 97 → wkB l G (d + 1) n_X6_isLetter Q 16 [.int a0] [] I L R) (kf : ¬ a0 < 97 → wkB l G (d + 1) n_X6_isLetter Q 6 [.int a0] [] I L R) : wkB l G (d + 1) n_X6_isLetter Q 0 [.int a0] [] I L R :=
  bb_iload_n (n := 0) (i := 0) (zd (i := .iload_n 0) (n := 1) (by decide +kernel)) rfl rfl <|
  bb_lift (fun _ => q_bipush (n := 97) (zd (i := .bipush (97)) (n := 2) (by decide +kernel)) rfl) <|
  (fun lv hl => q_icmp_lt (off := 13) (tgt := 16) (zd (i := .if_icmp .lt (13)) (n := 3) (by decide +kernel)) (by decide) (fun h => (kt h) lv hl) (fun h => (kf h) lv hl))
theorem w_X6_isLetter_6 {Q : qQ} {I : qMI} {L : qML} {R : qMR} {a0 : Int32} (kt : 122 < a0 → wkB l G (d + 1) n_X6_isLetter Q 16 [.int a0] [] I L R) (kf : ¬ 122 < a0 → wkB l G (d + 1) n_X6_isLetter Q 12 [.int a0] [] I L R) : wkB l G (d + 1) n_X6_isLetter Q 6 [.int a0] [] I L R :=
  bb_iload_n (n := 0) (i := 0) (zd (i := .iload_n 0) (n := 1) (by decide +kernel)) rfl rfl <|
  bb_lift (fun _ => q_bipush (n := 122) (zd (i := .bipush (122)) (n := 2) (by decide +kernel)) rfl) <|
  (fun lv hl => q_icmp_gt (off := 7) (tgt := 16) (zd (i := .if_icmp .gt (7)) (n := 3) (by decide +kernel)) (by decide) (fun h => (kt h) lv hl) (fun h => (kf h) lv hl))
theorem w_X6_isLetter_12 {Q : qQ} {I : qMI} {L : qML} {R : qMR} {a0 : Int32} (k : wkB l G (d + 1) n_X6_isLetter Q 17 [.int a0] [.int 1] I L R) : wkB l G (d + 1) n_X6_isLetter Q 12 [.int a0] [] I L R :=
  bb_lift (fun _ => q_iconst (n := 1) (zd (i := .iconst (1)) (n := 1) (by decide +kernel)) rfl) <|
  bb_lift (fun _ => q_goto (off := 4) (tgt := 17) (zd (i := .goto (4)) (n := 3) (by decide +kernel)) (by decide)) k
theorem w_X6_isLetter_16 {Q : qQ} {I : qMI} {L : qML} {R : qMR} {a0 : Int32} (k : wkB l G (d + 1) n_X6_isLetter Q 17 [.int a0] [.int 0] I L R) : wkB l G (d + 1) n_X6_isLetter Q 16 [.int a0] [] I L R :=
  bb_lift (fun _ => q_iconst (n := 0) (zd (i := .iconst (0)) (n := 1) (by decide +kernel)) rfl) <|
  k
theorem w_X6_isLetter_17 {Q : qQ} {I : qMI} {L : qML} {R : qMR} {a0 : Int32} {s0 : Int32} (hQ : Q (some (.int s0)) 336 I L R) (h1 : s0 = 0 ∨ s0 = 1) : wkB l G (d + 1) n_X6_isLetter Q 17 [.int a0] [.int s0] I L R :=
  (fun lv hl => q_iret (zd (i := .ireturn) (n := 1) (by decide +kernel)) rfl (by rcases h1 with e | e <;> rw [e] <;> rfl) (Nat.le_refl _) (Nat.le_refl _) hQ)
theorem w_X6_isDigit_0 {Q : qQ} {I : qMI} {L : qML} {R : qMR} {a0 : Int32} (kt : a0 < 48 → wkB l G (d + 1) n_X6_isDigit Q 16 [.int a0] [] I L R) (kf : ¬ a0 < 48 → wkB l G (d + 1) n_X6_isDigit Q 6 [.int a0] [] I L R) : wkB l G (d + 1) n_X6_isDigit Q 0 [.int a0] [] I L R :=
  bb_iload_n (n := 0) (i := 0) (zd (i := .iload_n 0) (n := 1) (by decide +kernel)) rfl rfl <|
  bb_lift (fun _ => q_bipush (n := 48) (zd (i := .bipush (48)) (n := 2) (by decide +kernel)) rfl) <|
  (fun lv hl => q_icmp_lt (off := 13) (tgt := 16) (zd (i := .if_icmp .lt (13)) (n := 3) (by decide +kernel)) (by decide) (fun h => (kt h) lv hl) (fun h => (kf h) lv hl))
theorem w_X6_isDigit_6 {Q : qQ} {I : qMI} {L : qML} {R : qMR} {a0 : Int32} (kt : 57 < a0 → wkB l G (d + 1) n_X6_isDigit Q 16 [.int a0] [] I L R) (kf : ¬ 57 < a0 → wkB l G (d + 1) n_X6_isDigit Q 12 [.int a0] [] I L R) : wkB l G (d + 1) n_X6_isDigit Q 6 [.int a0] [] I L R :=
  bb_iload_n (n := 0) (i := 0) (zd (i := .iload_n 0) (n := 1) (by decide +kernel)) rfl rfl <|
  bb_lift (fun _ => q_bipush (n := 57) (zd (i := .bipush (57)) (n := 2) (by decide +kernel)) rfl) <|
  (fun lv hl => q_icmp_gt (off := 7) (tgt := 16) (zd (i := .if_icmp .gt (7)) (n := 3) (by decide +kernel)) (by decide) (fun h => (kt h) lv hl) (fun h => (kf h) lv hl))
theorem w_X6_isDigit_12 {Q : qQ} {I : qMI} {L : qML} {R : qMR} {a0 : Int32} (k : wkB l G (d + 1) n_X6_isDigit Q 17 [.int a0] [.int 1] I L R) : wkB l G (d + 1) n_X6_isDigit Q 12 [.int a0] [] I L R :=
  bb_lift (fun _ => q_iconst (n := 1) (zd (i := .iconst (1)) (n := 1) (by decide +kernel)) rfl) <|
  bb_lift (fun _ => q_goto (off := 4) (tgt := 17) (zd (i := .goto (4)) (n := 3) (by decide +kernel)) (by decide)) k
theorem w_X6_isDigit_16 {Q : qQ} {I : qMI} {L : qML} {R : qMR} {a0 : Int32} (k : wkB l G (d + 1) n_X6_isDigit Q 17 [.int a0] [.int 0] I L R) : wkB l G (d + 1) n_X6_isDigit Q 16 [.int a0] [] I L R :=
  bb_lift (fun _ => q_iconst (n := 0) (zd (i := .iconst (0)) (n := 1) (by decide +kernel)) rfl) <|
  k
theorem w_X6_isDigit_17 {Q : qQ} {I : qMI} {L : qML} {R : qMR} {a0 : Int32} {s0 : Int32} (hQ : Q (some (.int s0)) 336 I L R) (h1 : s0 = 0 ∨ s0 = 1) : wkB l G (d + 1) n_X6_isDigit Q 17 [.int a0] [.int s0] I L R :=
  (fun lv hl => q_iret (zd (i := .ireturn) (n := 1) (by decide +kernel)) rfl (by rcases h1 with e | e <;> rw [e] <;> rfl) (Nat.le_refl _) (Nat.le_refl _) hQ)
theorem w_X6_withLetter_0 {Q : qQ} {I : qMI} {L : qML} {R : qMR} {a0 : Int64} {a2 : Int32} (hQ : Q (some (.long ((a0 * 27) + (((a2 - 97) + 1).toInt64)))) 336 I L R) : wkB l G (d + 1) n_X6_withLetter Q 0 [.long a0, wkU, .int a2] [] I L R :=
  bb_lload_n (n := 0) (i := 0) (zd (i := .lload_n 0) (n := 1) (by decide +kernel)) rfl rfl <|
  bb_lift (fun _ => q_ldc2 (n := 45) (zd (i := .ldc2_w 45) (n := 3) (by decide +kernel)) g203) <|
  bb_lift (fun _ => q_lmul (zd (i := .lmul) (n := 1) (by decide +kernel))) <|
  bb_iload_n (n := 2) (i := 2) (zd (i := .iload_n 2) (n := 1) (by decide +kernel)) rfl rfl <|
  bb_lift (fun _ => q_bipush (n := 97) (zd (i := .bipush (97)) (n := 2) (by decide +kernel)) rfl) <|
  bb_lift (fun _ => q_isub (zd (i := .isub) (n := 1) (by decide +kernel))) <|
  bb_lift (fun _ => q_iconst (n := 1) (zd (i := .iconst (1)) (n := 1) (by decide +kernel)) rfl) <|
  bb_lift (fun _ => q_iadd (zd (i := .iadd) (n := 1) (by decide +kernel))) <|
  bb_lift (fun _ => q_i2l (zd (i := .i2l) (n := 1) (by decide +kernel))) <|
  bb_lift (fun _ => q_ladd (zd (i := .ladd) (n := 1) (by decide +kernel))) <|
  (fun lv hl => q_lret (zd (i := .lreturn) (n := 1) (by decide +kernel)) rfl (Nat.le_refl _) (Nat.le_refl _) hQ)
theorem w_X6_skipBlanks_0 {Q : qQ} {I : qMI} {L : qML} {R : qMR}  (kt : (I 1 1) ≤ (I 4 4) → wkB l G (d + 1) n_X6_skipBlanks Q 38 [.ref 4, .ref 1] [] I L R) (kf : ¬ (I 1 1) ≤ (I 4 4) → wkB l G (d + 1) n_X6_skipBlanks Q 11 [.ref 4, .ref 1] [] I L R) : wkB l G (d + 1) n_X6_skipBlanks Q 0 [.ref 4, .ref 1] [] I L R :=
  bb_aload_n (n := 0) (i := 0) (zd (i := .aload_n 0) (n := 1) (by decide +kernel)) rfl rfl <|
  bb_geti (k := 4) (ci := 6) (j := 4) (idx := 25) (zd (i := .getfield 25) (n := 3) (by decide +kernel)) (by decide +kernel) (by decide +kernel) (by decide +kernel) (by decide +kernel) rfl g211 <|
  bb_aload_n (n := 1) (i := 1) (zd (i := .aload_n 1) (n := 1) (by decide +kernel)) rfl rfl <|
  bb_geti (k := 1) (ci := 5) (j := 1) (idx := 76) (zd (i := .getfield 76) (n := 3) (by decide +kernel)) (by decide +kernel) (by decide +kernel) (by decide +kernel) (by decide +kernel) rfl g132 <|
  (fun lv hl => q_icmp_ge (off := 30) (tgt := 38) (zd (i := .if_icmp .ge (30)) (n := 3) (by decide +kernel)) (by decide) (fun h => (kt h) lv hl) (fun h => (kf h) lv hl))
theorem w_X6_skipBlanks_11 {Q : qQ} {I : qMI} {L : qML} {R : qMR}  {P : Int32 → qMI → qML → qMR → Prop} (hc : wkCi l G d n_X5_byteAt [.ref 1, .int (I 4 4)] I L R P) (kk : ∀ y I' L' R', P y I' L' R' → wkB l G (d + 1) n_X6_skipBlanks Q 19 [.ref 4, .ref 1] [.int y] I' L' R') : wkB l G (d + 1) n_X6_skipBlanks Q 11 [.ref 4, .ref 1] [] I L R :=
  bb_aload_n (n := 1) (i := 1) (zd (i := .aload_n 1) (n := 1) (by decide +kernel)) rfl rfl <|
  bb_aload_n (n := 0) (i := 0) (zd (i := .aload_n 0) (n := 1) (by decide +kernel)) rfl rfl <|
  bb_geti (k := 4) (ci := 6) (j := 4) (idx := 25) (zd (i := .getfield 25) (n := 3) (by decide +kernel)) (by decide +kernel) (by decide +kernel) (by decide +kernel) (by decide +kernel) rfl g211 <|
  bb_callV (idx := 51) (k := 1) (ci := 5) (N := n_X5_byteAt) (As := [.int (I 4 4)]) (st := []) (zd (i := .invokevirtual 51) (n := 3) (by decide +kernel)) to_X5_byteAt g532 g533 g534 (Nat.le_of_ble_eq_true rfl) (by decide +kernel) (by decide +kernel) (by decide +kernel) rfl rfl rfl hc (fun r I' L' R' hq => by obtain ⟨y, rfl, hp⟩ := hq; exact kk y I' L' R' hp)
theorem w_X6_skipBlanks_19 {Q : qQ} {I : qMI} {L : qML} {R : qMR} {s0 : Int32} {P : Int32 → qMI → qML → qMR → Prop} (hc : wkCi l G d n_X6_isBlank [.int s0] I L R P) (kk : ∀ y I' L' R', P y I' L' R' → wkB l G (d + 1) n_X6_skipBlanks Q 22 [.ref 4, .ref 1] [.int y] I' L' R') : wkB l G (d + 1) n_X6_skipBlanks Q 19 [.ref 4, .ref 1] [.int s0] I L R :=
  bb_callS (idx := 79) (N := n_X6_isBlank) (As := [.int s0]) (st := []) (zd (i := .invokestatic 79) (n := 3) (by decide +kernel)) to_X6_isBlank g536 g537 (Nat.le_of_ble_eq_true rfl) rfl rfl hc (fun r I' L' R' hq => by obtain ⟨y, rfl, hp⟩ := hq; exact kk y I' L' R' hp)
theorem w_X6_skipBlanks_22 {Q : qQ} {I : qMI} {L : qML} {R : qMR} {s0 : Int32} (kt : s0 = 0 → wkB l G (d + 1) n_X6_skipBlanks Q 38 [.ref 4, .ref 1] [] I L R) (kf : ¬ s0 = 0 → wkB l G (d + 1) n_X6_skipBlanks Q 25 [.ref 4, .ref 1] [] I L R) : wkB l G (d + 1) n_X6_skipBlanks Q 22 [.ref 4, .ref 1] [.int s0] I L R :=
  (fun lv hl => q_if_eq (off := 16) (tgt := 38) (zd (i := .ifCond .eq (16)) (n := 3) (by decide +kernel)) (by decide) (fun h => (kt h) lv hl) (fun h => (kf h) lv hl))
theorem w_X6_skipBlanks_25 {Q : qQ} {I : qMI} {L : qML} {R : qMR}  (k : wkB l G (d + 1) n_X6_skipBlanks Q 0 [.ref 4, .ref 1] [] (qUp I 4 4 ((I 4 4) + 1)) L R) : wkB l G (d + 1) n_X6_skipBlanks Q 25 [.ref 4, .ref 1] [] I L R :=
  bb_aload_n (n := 0) (i := 0) (zd (i := .aload_n 0) (n := 1) (by decide +kernel)) rfl rfl <|
  bb_lift (fun _ => q_dup (zd (i := .dup) (n := 1) (by decide +kernel)) rfl) <|
  bb_geti (k := 4) (ci := 6) (j := 4) (idx := 25) (zd (i := .getfield 25) (n := 3) (by decide +kernel)) (by decide +kernel) (by decide +kernel) (by decide +kernel) (by decide +kernel) rfl g211 <|
  bb_lift (fun _ => q_iconst (n := 1) (zd (i := .iconst (1)) (n := 1) (by decide +kernel)) rfl) <|
  bb_lift (fun _ => q_iadd (zd (i := .iadd) (n := 1) (by decide +kernel))) <|
  bb_puti (k := 4) (ci := 6) (j := 4) (idx := 25) (zd (i := .putfield 25) (n := 3) (by decide +kernel)) (by decide +kernel) (by decide +kernel) (by decide +kernel) (by decide +kernel) g211 rfl rfl <|
  bb_lift (fun _ => q_goto (off := -35) (tgt := 0) (zd (i := .goto (-35)) (n := 3) (by decide +kernel)) (by decide)) k
theorem w_X6_skipBlanks_38 {Q : qQ} {I : qMI} {L : qML} {R : qMR}  (hQ : Q none 336 I L R) : wkB l G (d + 1) n_X6_skipBlanks Q 38 [.ref 4, .ref 1] [] I L R :=
  (fun lv hl => q_vret (zd (i := .return_) (n := 1) (by decide +kernel)) rfl (Nat.le_refl _) (Nat.le_refl _) hQ)
theorem w_X6_kindOf_0 {Q : qQ} {I : qMI} {L : qML} {R : qMR} {a1 : Int64} (k : wkB l G (d + 1) n_X6_kindOf Q 2 [.ref 4, .long a1, wkU, .int 0] [] I L R) : wkB l G (d + 1) n_X6_kindOf Q 0 [.ref 4, .long a1, wkU, wkU] [] I L R :=
  bb_lift (fun _ => q_iconst (n := 0) (zd (i := .iconst (0)) (n := 1) (by decide +kernel)) rfl) <|
  bb_istore_n (n := 3) (i := 3) (zd (i := .istore_n 3) (n := 1) (by decide +kernel)) rfl (by decide +kernel) (wkNl_u rfl) <|
  k
theorem w_X6_kindOf_2 {Q : qQ} {I : qMI} {L : qML} {R : qMR} {a1 : Int64} {a3 : Int32} (kt : 23 ≤ a3 → wkB l G (d + 1) n_X6_kindOf Q 31 [.ref 4, .long a1, wkU, .int a3] [] I L R) (kf : ¬ 23 ≤ a3 → wkB l G (d + 1) n_X6_kindOf Q 8 [.ref 4, .long a1, wkU, .int a3] [] I L R) : wkB l G (d + 1) n_X6_kindOf Q 2 [.ref 4, .long a1, wkU, .int a3] [] I L R :=
  bb_iload_n (n := 3) (i := 3) (zd (i := .iload_n 3) (n := 1) (by decide +kernel)) rfl rfl <|
  bb_lift (fun _ => q_bipush (n := 23) (zd (i := .bipush (23)) (n := 2) (by decide +kernel)) rfl) <|
  (fun lv hl => q_icmp_ge (off := 26) (tgt := 31) (zd (i := .if_icmp .ge (26)) (n := 3) (by decide +kernel)) (by decide) (fun h => (kt h) lv hl) (fun h => (kf h) lv hl))
theorem w_X6_kindOf_8 {Q : qQ} {I : qMI} {L : qML} {R : qMR} {a1 : Int64} {a3 : Int32} (h1 : R 4 0 = some 5) (h2 : vp_in a3 23) (kt : ¬ (lg_cmp (L 5 a3.toNatClampNeg) a1) = 0 → wkB l G (d + 1) n_X6_kindOf Q 25 [.ref 4, .long a1, wkU, .int a3] [] I L R) (kf : (lg_cmp (L 5 a3.toNatClampNeg) a1) = 0 → wkB l G (d + 1) n_X6_kindOf Q 19 [.ref 4, .long a1, wkU, .int a3] [] I L R) : wkB l G (d + 1) n_X6_kindOf Q 8 [.ref 4, .long a1, wkU, .int a3] [] I L R :=
  bb_aload_n (n := 0) (i := 0) (zd (i := .aload_n 0) (n := 1) (by decide +kernel)) rfl rfl <|
  bb_getr (k := 4) (ci := 6) (j := 0) (idx := 9) (a := 5) (zd (i := .getfield 9) (n := 3) (by decide +kernel)) (by decide +kernel) (by decide +kernel) (by decide +kernel) (by decide +kernel) rfl g204 h1 <|
  bb_iload_n (n := 3) (i := 3) (zd (i := .iload_n 3) (n := 1) (by decide +kernel)) rfl rfl <|
  bb_lift (fun _ => q_lald (k := 5) (zd (i := .laload) (n := 1) (by decide +kernel)) (by decide +kernel) (by decide +kernel) h2) <|
  bb_lload_n (n := 1) (i := 1) (zd (i := .lload_n 1) (n := 1) (by decide +kernel)) rfl rfl <|
  bb_lift (fun _ => q_lcmp (zd (i := .lcmp) (n := 1) (by decide +kernel))) <|
  (fun lv hl => q_if_ne (off := 9) (tgt := 25) (zd (i := .ifCond .ne (9)) (n := 3) (by decide +kernel)) (by decide) (fun h => (kt h) lv hl) (fun h => (kf h) lv hl))
theorem w_X6_kindOf_19 {Q : qQ} {I : qMI} {L : qML} {R : qMR} {a1 : Int64} {a3 : Int32} (hQ : Q (some (.int (128 + a3))) 336 I L R) : wkB l G (d + 1) n_X6_kindOf Q 19 [.ref 4, .long a1, wkU, .int a3] [] I L R :=
  bb_lift (fun _ => q_sipush (n := 128) (zd (i := .sipush (128)) (n := 3) (by decide +kernel)) rfl) <|
  bb_iload_n (n := 3) (i := 3) (zd (i := .iload_n 3) (n := 1) (by decide +kernel)) rfl rfl <|
  bb_lift (fun _ => q_iadd (zd (i := .iadd) (n := 1) (by decide +kernel))) <|
  (fun lv hl => q_iret (zd (i := .ireturn) (n := 1) (by decide +kernel)) rfl rfl (Nat.le_refl _) (Nat.le_refl _) hQ)
theorem w_X6_kindOf_25 {Q : qQ} {I : qMI} {L : qML} {R : qMR} {a1 : Int64} {a3 : Int32} (k : wkB l G (d + 1) n_X6_kindOf Q 2 [.ref 4, .long a1, wkU, .int (a3 + 1)] [] I L R) : wkB l G (d + 1) n_X6_kindOf Q 25 [.ref 4, .long a1, wkU, .int a3] [] I L R :=
  bb_iinc (i := 3) (n := 1) (zd (i := .iinc 3 (1)) (n := 3) (by decide +kernel)) rfl rfl (by decide +kernel) (wkNl_u rfl) <|
  bb_lift (fun _ => q_goto (off := -26) (tgt := 2) (zd (i := .goto (-26)) (n := 3) (by decide +kernel)) (by decide)) k
theorem w_X6_kindOf_31 {Q : qQ} {I : qMI} {L : qML} {R : qMR} {a1 : Int64} {a3 : Int32} (hQ : Q (some (.int 2)) 336 I L R) : wkB l G (d + 1) n_X6_kindOf Q 31 [.ref 4, .long a1, wkU, .int a3] [] I L R :=
  bb_lift (fun _ => q_iconst (n := 2) (zd (i := .iconst (2)) (n := 1) (by decide +kernel)) rfl) <|
  (fun lv hl => q_iret (zd (i := .ireturn) (n := 1) (by decide +kernel)) rfl rfl (Nat.le_refl _) (Nat.le_refl _) hQ)
theorem w_X6_scanLetters_0 {Q : qQ} {I : qMI} {L : qML} {R : qMR} {a2 : Int32} (k : wkB l G (d + 1) n_X6_scanLetters Q 8 [.ref 4, .ref 1, .int a2, .int (I 4 4), .long 0, wkU] [] I L R) : wkB l G (d + 1) n_X6_scanLetters Q 0 [.ref 4, .ref 1, .int a2, wkU, wkU, wkU] [] I L R :=
  bb_aload_n (n := 0) (i := 0) (zd (i := .aload_n 0) (n := 1) (by decide +kernel)) rfl rfl <|
  bb_geti (k := 4) (ci := 6) (j := 4) (idx := 25) (zd (i := .getfield 25) (n := 3) (by decide +kernel)) (by decide +kernel) (by decide +kernel) (by decide +kernel) (by decide +kernel) rfl g211 <|
  bb_istore_n (n := 3) (i := 3) (zd (i := .istore_n 3) (n := 1) (by decide +kernel)) rfl (by decide +kernel) (wkNl_i rfl) <|
  bb_lift (fun _ => q_lconst (n := 0) (zd (i := .lconst 0) (n := 1) (by decide +kernel)) rfl) <|
  bb_lstore (i := 4) (zd (i := .lstore 4) (n := 2) (by decide +kernel)) (by decide +kernel) (wkNl_i rfl) <|
  k
theorem w_X6_scanLetters_8 {Q : qQ} {I : qMI} {L : qML} {R : qMR} {a2 : Int32} {a3 : Int32} {a4 : Int64} (kt : (I 1 1) ≤ (I 4 4) → wkB l G (d + 1) n_X6_scanLetters Q 61 [.ref 4, .ref 1, .int a2, .int a3, .long a4, wkU] [] I L R) (kf : ¬ (I 1 1) ≤ (I 4 4) → wkB l G (d + 1) n_X6_scanLetters Q 19 [.ref 4, .ref 1, .int a2, .int a3, .long a4, wkU] [] I L R) : wkB l G (d + 1) n_X6_scanLetters Q 8 [.ref 4, .ref 1, .int a2, .int a3, .long a4, wkU] [] I L R :=
  bb_aload_n (n := 0) (i := 0) (zd (i := .aload_n 0) (n := 1) (by decide +kernel)) rfl rfl <|
  bb_geti (k := 4) (ci := 6) (j := 4) (idx := 25) (zd (i := .getfield 25) (n := 3) (by decide +kernel)) (by decide +kernel) (by decide +kernel) (by decide +kernel) (by decide +kernel) rfl g211 <|
  bb_aload_n (n := 1) (i := 1) (zd (i := .aload_n 1) (n := 1) (by decide +kernel)) rfl rfl <|
  bb_geti (k := 1) (ci := 5) (j := 1) (idx := 76) (zd (i := .getfield 76) (n := 3) (by decide +kernel)) (by decide +kernel) (by decide +kernel) (by decide +kernel) (by decide +kernel) rfl g132 <|
  (fun lv hl => q_icmp_ge (off := 45) (tgt := 61) (zd (i := .if_icmp .ge (45)) (n := 3) (by decide +kernel)) (by decide) (fun h => (kt h) lv hl) (fun h => (kf h) lv hl))
theorem w_X6_scanLetters_19 {Q : qQ} {I : qMI} {L : qML} {R : qMR} {a2 : Int32} {a3 : Int32} {a4 : Int64} {P : Int32 → qMI → qML → qMR → Prop} (hc : wkCi l G d n_X5_byteAt [.ref 1, .int (I 4 4)] I L R P) (kk : ∀ y I' L' R', P y I' L' R' → wkB l G (d + 1) n_X6_scanLetters Q 27 [.ref 4, .ref 1, .int a2, .int a3, .long a4, wkU] [.int y] I' L' R') : wkB l G (d + 1) n_X6_scanLetters Q 19 [.ref 4, .ref 1, .int a2, .int a3, .long a4, wkU] [] I L R :=
  bb_aload_n (n := 1) (i := 1) (zd (i := .aload_n 1) (n := 1) (by decide +kernel)) rfl rfl <|
  bb_aload_n (n := 0) (i := 0) (zd (i := .aload_n 0) (n := 1) (by decide +kernel)) rfl rfl <|
  bb_geti (k := 4) (ci := 6) (j := 4) (idx := 25) (zd (i := .getfield 25) (n := 3) (by decide +kernel)) (by decide +kernel) (by decide +kernel) (by decide +kernel) (by decide +kernel) rfl g211 <|
  bb_callV (idx := 51) (k := 1) (ci := 5) (N := n_X5_byteAt) (As := [.int (I 4 4)]) (st := []) (zd (i := .invokevirtual 51) (n := 3) (by decide +kernel)) to_X5_byteAt g532 g533 g534 (Nat.le_of_ble_eq_true rfl) (by decide +kernel) (by decide +kernel) (by decide +kernel) rfl rfl rfl hc (fun r I' L' R' hq => by obtain ⟨y, rfl, hp⟩ := hq; exact kk y I' L' R' hp)
theorem w_X6_scanLetters_27 {Q : qQ} {I : qMI} {L : qML} {R : qMR} {a2 : Int32} {a3 : Int32} {a4 : Int64} {s0 : Int32} {P : Int32 → qMI → qML → qMR → Prop} (hc : wkCi l G d n_X6_isLetter [.int s0] I L R P) (kk : ∀ y I' L' R', P y I' L' R' → wkB l G (d + 1) n_X6_scanLetters Q 30 [.ref 4, .ref 1, .int a2, .int a3, .long a4, wkU] [.int y] I' L' R') : wkB l G (d + 1) n_X6_scanLetters Q 27 [.ref 4, .ref 1, .int a2, .int a3, .long a4, wkU] [.int s0] I L R :=
  bb_callS (idx := 57) (N := n_X6_isLetter) (As := [.int s0]) (st := []) (zd (i := .invokestatic 57) (n := 3) (by decide +kernel)) to_X6_isLetter g539 g540 (Nat.le_of_ble_eq_true rfl) rfl rfl hc (fun r I' L' R' hq => by obtain ⟨y, rfl, hp⟩ := hq; exact kk y I' L' R' hp)
theorem w_X6_scanLetters_30 {Q : qQ} {I : qMI} {L : qML} {R : qMR} {a2 : Int32} {a3 : Int32} {a4 : Int64} {s0 : Int32} (kt : s0 = 0 → wkB l G (d + 1) n_X6_scanLetters Q 61 [.ref 4, .ref 1, .int a2, .int a3, .long a4, wkU] [] I L R) (kf : ¬ s0 = 0 → wkB l G (d + 1) n_X6_scanLetters Q 33 [.ref 4, .ref 1, .int a2, .int a3, .long a4, wkU] [] I L R) : wkB l G (d + 1) n_X6_scanLetters Q 30 [.ref 4, .ref 1, .int a2, .int a3, .long a4, wkU] [.int s0] I L R :=
  (fun lv hl => q_if_eq (off := 31) (tgt := 61) (zd (i := .ifCond .eq (31)) (n := 3) (by decide +kernel)) (by decide) (fun h => (kt h) lv hl) (fun h => (kf h) lv hl))
theorem w_X6_scanLetters_33 {Q : qQ} {I : qMI} {L : qML} {R : qMR} {a2 : Int32} {a3 : Int32} {a4 : Int64} {P : Int32 → qMI → qML → qMR → Prop} (hc : wkCi l G d n_X5_byteAt [.ref 1, .int (I 4 4)] I L R P) (kk : ∀ y I' L' R', P y I' L' R' → wkB l G (d + 1) n_X6_scanLetters Q 43 [.ref 4, .ref 1, .int a2, .int a3, .long a4, wkU] [.int y, .long a4] I' L' R') : wkB l G (d + 1) n_X6_scanLetters Q 33 [.ref 4, .ref 1, .int a2, .int a3, .long a4, wkU] [] I L R :=
  bb_lload (i := 4) (zd (i := .lload 4) (n := 2) (by decide +kernel)) rfl <|
  bb_aload_n (n := 1) (i := 1) (zd (i := .aload_n 1) (n := 1) (by decide +kernel)) rfl rfl <|
  bb_aload_n (n := 0) (i := 0) (zd (i := .aload_n 0) (n := 1) (by decide +kernel)) rfl rfl <|
  bb_geti (k := 4) (ci := 6) (j := 4) (idx := 25) (zd (i := .getfield 25) (n := 3) (by decide +kernel)) (by decide +kernel) (by decide +kernel) (by decide +kernel) (by decide +kernel) rfl g211 <|
  bb_callV (idx := 51) (k := 1) (ci := 5) (N := n_X5_byteAt) (As := [.int (I 4 4)]) (st := [.long a4]) (zd (i := .invokevirtual 51) (n := 3) (by decide +kernel)) to_X5_byteAt g532 g533 g534 (Nat.le_of_ble_eq_true rfl) (by decide +kernel) (by decide +kernel) (by decide +kernel) rfl rfl rfl hc (fun r I' L' R' hq => by obtain ⟨y, rfl, hp⟩ := hq; exact kk y I' L' R' hp)
theorem w_X6_scanLetters_43 {Q : qQ} {I : qMI} {L : qML} {R : qMR} {a2 : Int32} {a3 : Int32} {a4 : Int64} {s0 : Int64} {s1 : Int32} {P : Int64 → qMI → qML → qMR → Prop} (hc : wkCl l G d n_X6_withLetter [.long s0, .int s1] I L R P) (kk : ∀ y I' L' R', P y I' L' R' → wkB l G (d + 1) n_X6_scanLetters Q 46 [.ref 4, .ref 1, .int a2, .int a3, .long a4, wkU] [.long y] I' L' R') : wkB l G (d + 1) n_X6_scanLetters Q 43 [.ref 4, .ref 1, .int a2, .int a3, .long a4, wkU] [.int s1, .long s0] I L R :=
  bb_callS (idx := 41) (N := n_X6_withLetter) (As := [.long s0, .int s1]) (st := []) (zd (i := .invokestatic 41) (n := 3) (by decide +kernel)) to_X6_withLetter g200 g201 (Nat.le_of_ble_eq_true rfl) rfl rfl hc (fun r I' L' R' hq => by obtain ⟨y, rfl, hp⟩ := hq; exact kk y I' L' R' hp)
theorem w_X6_scanLetters_46 {Q : qQ} {I : qMI} {L : qML} {R : qMR} {a2 : Int32} {a3 : Int32} {a4 : Int64} {s0 : Int64} (k : wkB l G (d + 1) n_X6_scanLetters Q 8 [.ref 4, .ref 1, .int a2, .int a3, .long s0, wkU] [] (qUp I 4 4 ((I 4 4) + 1)) L R) : wkB l G (d + 1) n_X6_scanLetters Q 46 [.ref 4, .ref 1, .int a2, .int a3, .long a4, wkU] [.long s0] I L R :=
  bb_lstore (i := 4) (zd (i := .lstore 4) (n := 2) (by decide +kernel)) (by decide +kernel) (wkNl_i rfl) <|
  bb_aload_n (n := 0) (i := 0) (zd (i := .aload_n 0) (n := 1) (by decide +kernel)) rfl rfl <|
  bb_lift (fun _ => q_dup (zd (i := .dup) (n := 1) (by decide +kernel)) rfl) <|
  bb_geti (k := 4) (ci := 6) (j := 4) (idx := 25) (zd (i := .getfield 25) (n := 3) (by decide +kernel)) (by decide +kernel) (by decide +kernel) (by decide +kernel) (by decide +kernel) rfl g211 <|
  bb_lift (fun _ => q_iconst (n := 1) (zd (i := .iconst (1)) (n := 1) (by decide +kernel)) rfl) <|
  bb_lift (fun _ => q_iadd (zd (i := .iadd) (n := 1) (by decide +kernel))) <|
  bb_puti (k := 4) (ci := 6) (j := 4) (idx := 25) (zd (i := .putfield 25) (n := 3) (by decide +kernel)) (by decide +kernel) (by decide +kernel) (by decide +kernel) (by decide +kernel) g211 rfl rfl <|
  bb_lift (fun _ => q_goto (off := -50) (tgt := 8) (zd (i := .goto (-50)) (n := 3) (by decide +kernel)) (by decide)) k
theorem w_X6_scanLetters_61 {Q : qQ} {I : qMI} {L : qML} {R : qMR} {a2 : Int32} {a3 : Int32} {a4 : Int64} (h1 : R 4 3 = some 8) (h2 : vp_in a2 401) (h3 : R 4 1 = some 6) (kt : ((I 4 4) - a3) ≤ 8 → wkB l G (d + 1) n_X6_scanLetters Q 89 [.ref 4, .ref 1, .int a2, .int a3, .long a4, wkU] [.int a2, .ref 6] I (qUpL L 8 a2.toNatClampNeg a4) R) (kf : ¬ ((I 4 4) - a3) ≤ 8 → wkB l G (d + 1) n_X6_scanLetters Q 85 [.ref 4, .ref 1, .int a2, .int a3, .long a4, wkU] [.int a2, .ref 6] I (qUpL L 8 a2.toNatClampNeg a4) R) : wkB l G (d + 1) n_X6_scanLetters Q 61 [.ref 4, .ref 1, .int a2, .int a3, .long a4, wkU] [] I L R :=
  bb_aload_n (n := 0) (i := 0) (zd (i := .aload_n 0) (n := 1) (by decide +kernel)) rfl rfl <|
  bb_getr (k := 4) (ci := 6) (j := 3) (idx := 22) (a := 8) (zd (i := .getfield 22) (n := 3) (by decide +kernel)) (by decide +kernel) (by decide +kernel) (by decide +kernel) (by decide +kernel) rfl g209 h1 <|
  bb_iload_n (n := 2) (i := 2) (zd (i := .iload_n 2) (n := 1) (by decide +kernel)) rfl rfl <|
  bb_lload (i := 4) (zd (i := .lload 4) (n := 2) (by decide +kernel)) rfl <|
  bb_lift (fun _ => q_last (k := 8) (zd (i := .lastore) (n := 1) (by decide +kernel)) (by decide +kernel) (by decide +kernel) h2) <|
  bb_aload_n (n := 0) (i := 0) (zd (i := .aload_n 0) (n := 1) (by decide +kernel)) rfl rfl <|
  bb_getr (k := 4) (ci := 6) (j := 1) (idx := 15) (a := 6) (zd (i := .getfield 15) (n := 3) (by decide +kernel)) (by decide +kernel) (by decide +kernel) (by decide +kernel) (by decide +kernel) rfl g205 h3 <|
  bb_iload_n (n := 2) (i := 2) (zd (i := .iload_n 2) (n := 1) (by decide +kernel)) rfl rfl <|
  bb_aload_n (n := 0) (i := 0) (zd (i := .aload_n 0) (n := 1) (by decide +kernel)) rfl rfl <|
  bb_geti (k := 4) (ci := 6) (j := 4) (idx := 25) (zd (i := .getfield 25) (n := 3) (by decide +kernel)) (by decide +kernel) (by decide +kernel) (by decide +kernel) (by decide +kernel) rfl g211 <|
  bb_iload_n (n := 3) (i := 3) (zd (i := .iload_n 3) (n := 1) (by decide +kernel)) rfl rfl <|
  bb_lift (fun _ => q_isub (zd (i := .isub) (n := 1) (by decide +kernel))) <|
  bb_lift (fun _ => q_bipush (n := 8) (zd (i := .bipush (8)) (n := 2) (by decide +kernel)) rfl) <|
  (fun lv hl => q_icmp_le (off := 7) (tgt := 89) (zd (i := .if_icmp .le (7)) (n := 3) (by decide +kernel)) (by decide) (fun h => (kt h) lv hl) (fun h => (kf h) lv hl))
theorem w_X6_scanLetters_85 {Q : qQ} {I : qMI} {L : qML} {R : qMR} {a2 : Int32} {a3 : Int32} {a4 : Int64} {s1 : Int32} (k : wkB l G (d + 1) n_X6_scanLetters Q 95 [.ref 4, .ref 1, .int a2, .int a3, .long a4, wkU] [.int 1, .int s1, .ref 6] I L R) : wkB l G (d + 1) n_X6_scanLetters Q 85 [.ref 4, .ref 1, .int a2, .int a3, .long a4, wkU] [.int s1, .ref 6] I L R :=
  bb_lift (fun _ => q_iconst (n := 1) (zd (i := .iconst (1)) (n := 1) (by decide +kernel)) rfl) <|
  bb_lift (fun _ => q_goto (off := 9) (tgt := 95) (zd (i := .goto (9)) (n := 3) (by decide +kernel)) (by decide)) k
theorem w_X6_scanLetters_89 {Q : qQ} {I : qMI} {L : qML} {R : qMR} {a2 : Int32} {a3 : Int32} {a4 : Int64} {s1 : Int32} {P : Int32 → qMI → qML → qMR → Prop} (hc : wkCi l G d n_X6_kindOf [.ref 4, .long a4] I L R P) (kk : ∀ y I' L' R', P y I' L' R' → wkB l G (d + 1) n_X6_scanLetters Q 95 [.ref 4, .ref 1, .int a2, .int a3, .long a4, wkU] [.int y, .int s1, .ref 6] I' L' R') : wkB l G (d + 1) n_X6_scanLetters Q 89 [.ref 4, .ref 1, .int a2, .int a3, .long a4, wkU] [.int s1, .ref 6] I L R :=
  bb_aload_n (n := 0) (i := 0) (zd (i := .aload_n 0) (n := 1) (by decide +kernel)) rfl rfl <|
  bb_lload (i := 4) (zd (i := .lload 4) (n := 2) (by decide +kernel)) rfl <|
  bb_callV (idx := 82) (k := 4) (ci := 6) (N := n_X6_kindOf) (As := [.long a4]) (st := [.int s1, .ref 6]) (zd (i := .invokevirtual 82) (n := 3) (by decide +kernel)) to_X6_kindOf g546 g548 g3 (Nat.le_of_ble_eq_true rfl) (by decide +kernel) (by decide +kernel) (by decide +kernel) rfl rfl rfl hc (fun r I' L' R' hq => by obtain ⟨y, rfl, hp⟩ := hq; exact kk y I' L' R' hp)
theorem w_X6_scanLetters_95 {Q : qQ} {I : qMI} {L : qML} {R : qMR} {a2 : Int32} {a3 : Int32} {a4 : Int64} {s1 : Int32} {s2 : Int32} (h1 : vp_in s1 401) (hQ : Q none 336 (qUp I 6 s1.toNatClampNeg s2) L R) : wkB l G (d + 1) n_X6_scanLetters Q 95 [.ref 4, .ref 1, .int a2, .int a3, .long a4, wkU] [.int s2, .int s1, .ref 6] I L R :=
  bb_lift (fun _ => q_iast (k := 6) (zd (i := .iastore) (n := 1) (by decide +kernel)) (by decide +kernel) (by decide +kernel) h1) <|
  (fun lv hl => q_vret (zd (i := .return_) (n := 1) (by decide +kernel)) rfl (Nat.le_refl _) (Nat.le_refl _) hQ)
theorem w_X6_scanDigits_0 {Q : qQ} {I : qMI} {L : qML} {R : qMR} {a2 : Int32} (k : wkB l G (d + 1) n_X6_scanDigits Q 8 [.ref 4, .ref 1, .int a2, .int (I 4 4), .long 0, wkU] [] I L R) : wkB l G (d + 1) n_X6_scanDigits Q 0 [.ref 4, .ref 1, .int a2, wkU, wkU, wkU] [] I L R :=
  bb_aload_n (n := 0) (i := 0) (zd (i := .aload_n 0) (n := 1) (by decide +kernel)) rfl rfl <|
  bb_geti (k := 4) (ci := 6) (j := 4) (idx := 25) (zd (i := .getfield 25) (n := 3) (by decide +kernel)) (by decide +kernel) (by decide +kernel) (by decide +kernel) (by decide +kernel) rfl g211 <|
  bb_istore_n (n := 3) (i := 3) (zd (i := .istore_n 3) (n := 1) (by decide +kernel)) rfl (by decide +kernel) (wkNl_i rfl) <|
  bb_lift (fun _ => q_lconst (n := 0) (zd (i := .lconst 0) (n := 1) (by decide +kernel)) rfl) <|
  bb_lstore (i := 4) (zd (i := .lstore 4) (n := 2) (by decide +kernel)) (by decide +kernel) (wkNl_i rfl) <|
  k
theorem w_X6_scanDigits_8 {Q : qQ} {I : qMI} {L : qML} {R : qMR} {a2 : Int32} {a3 : Int32} {a4 : Int64} (kt : (I 1 1) ≤ (I 4 4) → wkB l G (d + 1) n_X6_scanDigits Q 67 [.ref 4, .ref 1, .int a2, .int a3, .long a4, wkU] [] I L R) (kf : ¬ (I 1 1) ≤ (I 4 4) → wkB l G (d + 1) n_X6_scanDigits Q 19 [.ref 4, .ref 1, .int a2, .int a3, .long a4, wkU] [] I L R) : wkB l G (d + 1) n_X6_scanDigits Q 8 [.ref 4, .ref 1, .int a2, .int a3, .long a4, wkU] [] I L R :=
  bb_aload_n (n := 0) (i := 0) (zd (i := .aload_n 0) (n := 1) (by decide +kernel)) rfl rfl <|
  bb_geti (k := 4) (ci := 6) (j := 4) (idx := 25) (zd (i := .getfield 25) (n := 3) (by decide +kernel)) (by decide +kernel) (by decide +kernel) (by decide +kernel) (by decide +kernel) rfl g211 <|
  bb_aload_n (n := 1) (i := 1) (zd (i := .aload_n 1) (n := 1) (by decide +kernel)) rfl rfl <|
  bb_geti (k := 1) (ci := 5) (j := 1) (idx := 76) (zd (i := .getfield 76) (n := 3) (by decide +kernel)) (by decide +kernel) (by decide +kernel) (by decide +kernel) (by decide +kernel) rfl g132 <|
  (fun lv hl => q_icmp_ge (off := 51) (tgt := 67) (zd (i := .if_icmp .ge (51)) (n := 3) (by decide +kernel)) (by decide) (fun h => (kt h) lv hl) (fun h => (kf h) lv hl))
theorem w_X6_scanDigits_19 {Q : qQ} {I : qMI} {L : qML} {R : qMR} {a2 : Int32} {a3 : Int32} {a4 : Int64} {P : Int32 → qMI → qML → qMR → Prop} (hc : wkCi l G d n_X5_byteAt [.ref 1, .int (I 4 4)] I L R P) (kk : ∀ y I' L' R', P y I' L' R' → wkB l G (d + 1) n_X6_scanDigits Q 27 [.ref 4, .ref 1, .int a2, .int a3, .long a4, wkU] [.int y] I' L' R') : wkB l G (d + 1) n_X6_scanDigits Q 19 [.ref 4, .ref 1, .int a2, .int a3, .long a4, wkU] [] I L R :=
  bb_aload_n (n := 1) (i := 1) (zd (i := .aload_n 1) (n := 1) (by decide +kernel)) rfl rfl <|
  bb_aload_n (n := 0) (i := 0) (zd (i := .aload_n 0) (n := 1) (by decide +kernel)) rfl rfl <|
  bb_geti (k := 4) (ci := 6) (j := 4) (idx := 25) (zd (i := .getfield 25) (n := 3) (by decide +kernel)) (by decide +kernel) (by decide +kernel) (by decide +kernel) (by decide +kernel) rfl g211 <|
  bb_callV (idx := 51) (k := 1) (ci := 5) (N := n_X5_byteAt) (As := [.int (I 4 4)]) (st := []) (zd (i := .invokevirtual 51) (n := 3) (by decide +kernel)) to_X5_byteAt g532 g533 g534 (Nat.le_of_ble_eq_true rfl) (by decide +kernel) (by decide +kernel) (by decide +kernel) rfl rfl rfl hc (fun r I' L' R' hq => by obtain ⟨y, rfl, hp⟩ := hq; exact kk y I' L' R' hp)
theorem w_X6_scanDigits_27 {Q : qQ} {I : qMI} {L : qML} {R : qMR} {a2 : Int32} {a3 : Int32} {a4 : Int64} {s0 : Int32} {P : Int32 → qMI → qML → qMR → Prop} (hc : wkCi l G d n_X6_isDigit [.int s0] I L R P) (kk : ∀ y I' L' R', P y I' L' R' → wkB l G (d + 1) n_X6_scanDigits Q 30 [.ref 4, .ref 1, .int a2, .int a3, .long a4, wkU] [.int y] I' L' R') : wkB l G (d + 1) n_X6_scanDigits Q 27 [.ref 4, .ref 1, .int a2, .int a3, .long a4, wkU] [.int s0] I L R :=
  bb_callS (idx := 65) (N := n_X6_isDigit) (As := [.int s0]) (st := []) (zd (i := .invokestatic 65) (n := 3) (by decide +kernel)) to_X6_isDigit g550 g551 (Nat.le_of_ble_eq_true rfl) rfl rfl hc (fun r I' L' R' hq => by obtain ⟨y, rfl, hp⟩ := hq; exact kk y I' L' R' hp)
theorem w_X6_scanDigits_30 {Q : qQ} {I : qMI} {L : qML} {R : qMR} {a2 : Int32} {a3 : Int32} {a4 : Int64} {s0 : Int32} (kt : s0 = 0 → wkB l G (d + 1) n_X6_scanDigits Q 67 [.ref 4, .ref 1, .int a2, .int a3, .long a4, wkU] [] I L R) (kf : ¬ s0 = 0 → wkB l G (d + 1) n_X6_scanDigits Q 33 [.ref 4, .ref 1, .int a2, .int a3, .long a4, wkU] [] I L R) : wkB l G (d + 1) n_X6_scanDigits Q 30 [.ref 4, .ref 1, .int a2, .int a3, .long a4, wkU] [.int s0] I L R :=
  (fun lv hl => q_if_eq (off := 37) (tgt := 67) (zd (i := .ifCond .eq (37)) (n := 3) (by decide +kernel)) (by decide) (fun h => (kt h) lv hl) (fun h => (kf h) lv hl))
theorem w_X6_scanDigits_33 {Q : qQ} {I : qMI} {L : qML} {R : qMR} {a2 : Int32} {a3 : Int32} {a4 : Int64} {P : Int32 → qMI → qML → qMR → Prop} (hc : wkCi l G d n_X5_byteAt [.ref 1, .int (I 4 4)] I L R P) (kk : ∀ y I' L' R', P y I' L' R' → wkB l G (d + 1) n_X6_scanDigits Q 47 [.ref 4, .ref 1, .int a2, .int a3, .long a4, wkU] [.int y, .long (a4 * 10)] I' L' R') : wkB l G (d + 1) n_X6_scanDigits Q 33 [.ref 4, .ref 1, .int a2, .int a3, .long a4, wkU] [] I L R :=
  bb_lload (i := 4) (zd (i := .lload 4) (n := 2) (by decide +kernel)) rfl <|
  bb_lift (fun _ => q_ldc2 (n := 86) (zd (i := .ldc2_w 86) (n := 3) (by decide +kernel)) g557) <|
  bb_lift (fun _ => q_lmul (zd (i := .lmul) (n := 1) (by decide +kernel))) <|
  bb_aload_n (n := 1) (i := 1) (zd (i := .aload_n 1) (n := 1) (by decide +kernel)) rfl rfl <|
  bb_aload_n (n := 0) (i := 0) (zd (i := .aload_n 0) (n := 1) (by decide +kernel)) rfl rfl <|
  bb_geti (k := 4) (ci := 6) (j := 4) (idx := 25) (zd (i := .getfield 25) (n := 3) (by decide +kernel)) (by decide +kernel) (by decide +kernel) (by decide +kernel) (by decide +kernel) rfl g211 <|
  bb_callV (idx := 51) (k := 1) (ci := 5) (N := n_X5_byteAt) (As := [.int (I 4 4)]) (st := [.long (a4 * 10)]) (zd (i := .invokevirtual 51) (n := 3) (by decide +kernel)) to_X5_byteAt g532 g533 g534 (Nat.le_of_ble_eq_true rfl) (by decide +kernel) (by decide +kernel) (by decide +kernel) rfl rfl rfl hc (fun r I' L' R' hq => by obtain ⟨y, rfl, hp⟩ := hq; exact kk y I' L' R' hp)
theorem w_X6_scanDigits_47 {Q : qQ} {I : qMI} {L : qML} {R : qMR} {a2 : Int32} {a3 : Int32} {a4 : Int64} {s0 : Int64} {s1 : Int32} (k : wkB l G (d + 1) n_X6_scanDigits Q 8 [.ref 4, .ref 1, .int a2, .int a3, .long (s0 + ((s1 - 48).toInt64)), wkU] [] (qUp I 4 4 ((I 4 4) + 1)) L R) : wkB l G (d + 1) n_X6_scanDigits Q 47 [.ref 4, .ref 1, .int a2, .int a3, .long a4, wkU] [.int s1, .long s0] I L R :=
  bb_lift (fun _ => q_bipush (n := 48) (zd (i := .bipush (48)) (n := 2) (by decide +kernel)) rfl) <|
  bb_lift (fun _ => q_isub (zd (i := .isub) (n := 1) (by decide +kernel))) <|
  bb_lift (fun _ => q_i2l (zd (i := .i2l) (n := 1) (by decide +kernel))) <|
  bb_lift (fun _ => q_ladd (zd (i := .ladd) (n := 1) (by decide +kernel))) <|
  bb_lstore (i := 4) (zd (i := .lstore 4) (n := 2) (by decide +kernel)) (by decide +kernel) (wkNl_i rfl) <|
  bb_aload_n (n := 0) (i := 0) (zd (i := .aload_n 0) (n := 1) (by decide +kernel)) rfl rfl <|
  bb_lift (fun _ => q_dup (zd (i := .dup) (n := 1) (by decide +kernel)) rfl) <|
  bb_geti (k := 4) (ci := 6) (j := 4) (idx := 25) (zd (i := .getfield 25) (n := 3) (by decide +kernel)) (by decide +kernel) (by decide +kernel) (by decide +kernel) (by decide +kernel) rfl g211 <|
  bb_lift (fun _ => q_iconst (n := 1) (zd (i := .iconst (1)) (n := 1) (by decide +kernel)) rfl) <|
  bb_lift (fun _ => q_iadd (zd (i := .iadd) (n := 1) (by decide +kernel))) <|
  bb_puti (k := 4) (ci := 6) (j := 4) (idx := 25) (zd (i := .putfield 25) (n := 3) (by decide +kernel)) (by decide +kernel) (by decide +kernel) (by decide +kernel) (by decide +kernel) g211 rfl rfl <|
  bb_lift (fun _ => q_goto (off := -56) (tgt := 8) (zd (i := .goto (-56)) (n := 3) (by decide +kernel)) (by decide)) k
theorem w_X6_scanDigits_67 {Q : qQ} {I : qMI} {L : qML} {R : qMR} {a2 : Int32} {a3 : Int32} {a4 : Int64} (h1 : R 4 3 = some 8) (h2 : vp_in a2 401) (h3 : R 4 1 = some 6) (kt : ((I 4 4) - a3) ≤ 4 → wkB l G (d + 1) n_X6_scanDigits Q 94 [.ref 4, .ref 1, .int a2, .int a3, .long a4, wkU] [.int a2, .ref 6] I (qUpL L 8 a2.toNatClampNeg a4) R) (kf : ¬ ((I 4 4) - a3) ≤ 4 → wkB l G (d + 1) n_X6_scanDigits Q 90 [.ref 4, .ref 1, .int a2, .int a3, .long a4, wkU] [.int a2, .ref 6] I (qUpL L 8 a2.toNatClampNeg a4) R) : wkB l G (d + 1) n_X6_scanDigits Q 67 [.ref 4, .ref 1, .int a2, .int a3, .long a4, wkU] [] I L R :=
  bb_aload_n (n := 0) (i := 0) (zd (i := .aload_n 0) (n := 1) (by decide +kernel)) rfl rfl <|
  bb_getr (k := 4) (ci := 6) (j := 3) (idx := 22) (a := 8) (zd (i := .getfield 22) (n := 3) (by decide +kernel)) (by decide +kernel) (by decide +kernel) (by decide +kernel) (by decide +kernel) rfl g209 h1 <|
  bb_iload_n (n := 2) (i := 2) (zd (i := .iload_n 2) (n := 1) (by decide +kernel)) rfl rfl <|
  bb_lload (i := 4) (zd (i := .lload 4) (n := 2) (by decide +kernel)) rfl <|
  bb_lift (fun _ => q_last (k := 8) (zd (i := .lastore) (n := 1) (by decide +kernel)) (by decide +kernel) (by decide +kernel) h2) <|
  bb_aload_n (n := 0) (i := 0) (zd (i := .aload_n 0) (n := 1) (by decide +kernel)) rfl rfl <|
  bb_getr (k := 4) (ci := 6) (j := 1) (idx := 15) (a := 6) (zd (i := .getfield 15) (n := 3) (by decide +kernel)) (by decide +kernel) (by decide +kernel) (by decide +kernel) (by decide +kernel) rfl g205 h3 <|
  bb_iload_n (n := 2) (i := 2) (zd (i := .iload_n 2) (n := 1) (by decide +kernel)) rfl rfl <|
  bb_aload_n (n := 0) (i := 0) (zd (i := .aload_n 0) (n := 1) (by decide +kernel)) rfl rfl <|
  bb_geti (k := 4) (ci := 6) (j := 4) (idx := 25) (zd (i := .getfield 25) (n := 3) (by decide +kernel)) (by decide +kernel) (by decide +kernel) (by decide +kernel) (by decide +kernel) rfl g211 <|
  bb_iload_n (n := 3) (i := 3) (zd (i := .iload_n 3) (n := 1) (by decide +kernel)) rfl rfl <|
  bb_lift (fun _ => q_isub (zd (i := .isub) (n := 1) (by decide +kernel))) <|
  bb_lift (fun _ => q_iconst (n := 4) (zd (i := .iconst (4)) (n := 1) (by decide +kernel)) rfl) <|
  (fun lv hl => q_icmp_le (off := 7) (tgt := 94) (zd (i := .if_icmp .le (7)) (n := 3) (by decide +kernel)) (by decide) (fun h => (kt h) lv hl) (fun h => (kf h) lv hl))
theorem w_X6_scanDigits_90 {Q : qQ} {I : qMI} {L : qML} {R : qMR} {a2 : Int32} {a3 : Int32} {a4 : Int64} {s1 : Int32} (k : wkB l G (d + 1) n_X6_scanDigits Q 95 [.ref 4, .ref 1, .int a2, .int a3, .long a4, wkU] [.int 1, .int s1, .ref 6] I L R) : wkB l G (d + 1) n_X6_scanDigits Q 90 [.ref 4, .ref 1, .int a2, .int a3, .long a4, wkU] [.int s1, .ref 6] I L R :=
  bb_lift (fun _ => q_iconst (n := 1) (zd (i := .iconst (1)) (n := 1) (by decide +kernel)) rfl) <|
  bb_lift (fun _ => q_goto (off := 4) (tgt := 95) (zd (i := .goto (4)) (n := 3) (by decide +kernel)) (by decide)) k
theorem w_X6_scanDigits_94 {Q : qQ} {I : qMI} {L : qML} {R : qMR} {a2 : Int32} {a3 : Int32} {a4 : Int64} {s1 : Int32} (k : wkB l G (d + 1) n_X6_scanDigits Q 95 [.ref 4, .ref 1, .int a2, .int a3, .long a4, wkU] [.int 3, .int s1, .ref 6] I L R) : wkB l G (d + 1) n_X6_scanDigits Q 94 [.ref 4, .ref 1, .int a2, .int a3, .long a4, wkU] [.int s1, .ref 6] I L R :=
  bb_lift (fun _ => q_iconst (n := 3) (zd (i := .iconst (3)) (n := 1) (by decide +kernel)) rfl) <|
  k
theorem w_X6_scanDigits_95 {Q : qQ} {I : qMI} {L : qML} {R : qMR} {a2 : Int32} {a3 : Int32} {a4 : Int64} {s1 : Int32} {s2 : Int32} (h1 : vp_in s1 401) (hQ : Q none 336 (qUp I 6 s1.toNatClampNeg s2) L R) : wkB l G (d + 1) n_X6_scanDigits Q 95 [.ref 4, .ref 1, .int a2, .int a3, .long a4, wkU] [.int s2, .int s1, .ref 6] I L R :=
  bb_lift (fun _ => q_iast (k := 6) (zd (i := .iastore) (n := 1) (by decide +kernel)) (by decide +kernel) (by decide +kernel) h1) <|
  (fun lv hl => q_vret (zd (i := .return_) (n := 1) (by decide +kernel)) rfl (Nat.le_refl _) (Nat.le_refl _) hQ)
theorem w_X6_scan_0 {Q : qQ} {I : qMI} {L : qML} {R : qMR}  (k : wkB l G (d + 1) n_X6_scan Q 7 [.ref 4, .ref 1, .int 0, wkU] [] (qUp I 4 4 0) L R) : wkB l G (d + 1) n_X6_scan Q 0 [.ref 4, .ref 1, wkU, wkU] [] I L R :=
  bb_aload_n (n := 0) (i := 0) (zd (i := .aload_n 0) (n := 1) (by decide +kernel)) rfl rfl <|
  bb_lift (fun _ => q_iconst (n := 0) (zd (i := .iconst (0)) (n := 1) (by decide +kernel)) rfl) <|
  bb_puti (k := 4) (ci := 6) (j := 4) (idx := 25) (zd (i := .putfield 25) (n := 3) (by decide +kernel)) (by decide +kernel) (by decide +kernel) (by decide +kernel) (by decide +kernel) g211 rfl rfl <|
  bb_lift (fun _ => q_iconst (n := 0) (zd (i := .iconst (0)) (n := 1) (by decide +kernel)) rfl) <|
  bb_istore_n (n := 2) (i := 2) (zd (i := .istore_n 2) (n := 1) (by decide +kernel)) rfl (by decide +kernel) (wkNl_r rfl) <|
  k
theorem w_X6_scan_7 {Q : qQ} {I : qMI} {L : qML} {R : qMR} {a2 : Int32} (kt : 400 < a2 → wkB l G (d + 1) n_X6_scan Q 122 [.ref 4, .ref 1, .int a2, wkU] [] I L R) (kf : ¬ 400 < a2 → wkB l G (d + 1) n_X6_scan Q 14 [.ref 4, .ref 1, .int a2, wkU] [] I L R) : wkB l G (d + 1) n_X6_scan Q 7 [.ref 4, .ref 1, .int a2, wkU] [] I L R :=
  bb_iload_n (n := 2) (i := 2) (zd (i := .iload_n 2) (n := 1) (by decide +kernel)) rfl rfl <|
  bb_lift (fun _ => q_sipush (n := 400) (zd (i := .sipush (400)) (n := 3) (by decide +kernel)) rfl) <|
  (fun lv hl => q_icmp_gt (off := 111) (tgt := 122) (zd (i := .if_icmp .gt (111)) (n := 3) (by decide +kernel)) (by decide) (fun h => (kt h) lv hl) (fun h => (kf h) lv hl))
theorem w_X6_scan_14 {Q : qQ} {I : qMI} {L : qML} {R : qMR} {a2 : Int32} {P : qMI → qML → qMR → Prop} (hc : wkCv l G d n_X6_skipBlanks [.ref 4, .ref 1] I L R P) (kk : ∀ I' L' R', P I' L' R' → wkB l G (d + 1) n_X6_scan Q 19 [.ref 4, .ref 1, .int a2, wkU] [] I' L' R') : wkB l G (d + 1) n_X6_scan Q 14 [.ref 4, .ref 1, .int a2, wkU] [] I L R :=
  bb_aload_n (n := 0) (i := 0) (zd (i := .aload_n 0) (n := 1) (by decide +kernel)) rfl rfl <|
  bb_aload_n (n := 1) (i := 1) (zd (i := .aload_n 1) (n := 1) (by decide +kernel)) rfl rfl <|
  bb_callV (idx := 47) (k := 4) (ci := 6) (N := n_X6_skipBlanks) (As := [.ref 1]) (st := []) (zd (i := .invokevirtual 47) (n := 3) (by decide +kernel)) to_X6_skipBlanks g528 g530 g1 (Nat.le_of_ble_eq_true rfl) (by decide +kernel) (by decide +kernel) (by decide +kernel) rfl rfl rfl hc (fun r I' L' R' hq => by obtain ⟨rfl, hp⟩ := hq; exact kk I' L' R' hp)
theorem w_X6_scan_19 {Q : qQ} {I : qMI} {L : qML} {R : qMR} {a2 : Int32} (h1 : R 4 2 = some 7) (h2 : vp_in a2 401) {P : Int32 → qMI → qML → qMR → Prop} (hc : wkCi l G d n_X5_byteAt [.ref 1, .int ((qUp I 7 a2.toNatClampNeg (I 4 4)) 4 4)] (qUp I 7 a2.toNatClampNeg (I 4 4)) L R P) (kk : ∀ y I' L' R', P y I' L' R' → wkB l G (d + 1) n_X6_scan Q 37 [.ref 4, .ref 1, .int a2, wkU] [.int y] I' L' R') : wkB l G (d + 1) n_X6_scan Q 19 [.ref 4, .ref 1, .int a2, wkU] [] I L R :=
  bb_aload_n (n := 0) (i := 0) (zd (i := .aload_n 0) (n := 1) (by decide +kernel)) rfl rfl <|
  bb_getr (k := 4) (ci := 6) (j := 2) (idx := 19) (a := 7) (zd (i := .getfield 19) (n := 3) (by decide +kernel)) (by decide +kernel) (by decide +kernel) (by decide +kernel) (by decide +kernel) rfl g207 h1 <|
  bb_iload_n (n := 2) (i := 2) (zd (i := .iload_n 2) (n := 1) (by decide +kernel)) rfl rfl <|
  bb_aload_n (n := 0) (i := 0) (zd (i := .aload_n 0) (n := 1) (by decide +kernel)) rfl rfl <|
  bb_geti (k := 4) (ci := 6) (j := 4) (idx := 25) (zd (i := .getfield 25) (n := 3) (by decide +kernel)) (by decide +kernel) (by decide +kernel) (by decide +kernel) (by decide +kernel) rfl g211 <|
  bb_lift (fun _ => q_iast (k := 7) (zd (i := .iastore) (n := 1) (by decide +kernel)) (by decide +kernel) (by decide +kernel) h2) <|
  bb_aload_n (n := 1) (i := 1) (zd (i := .aload_n 1) (n := 1) (by decide +kernel)) rfl rfl <|
  bb_aload_n (n := 0) (i := 0) (zd (i := .aload_n 0) (n := 1) (by decide +kernel)) rfl rfl <|
  bb_geti (k := 4) (ci := 6) (j := 4) (idx := 25) (zd (i := .getfield 25) (n := 3) (by decide +kernel)) (by decide +kernel) (by decide +kernel) (by decide +kernel) (by decide +kernel) rfl g211 <|
  bb_callV (idx := 51) (k := 1) (ci := 5) (N := n_X5_byteAt) (As := [.int ((qUp I 7 a2.toNatClampNeg (I 4 4)) 4 4)]) (st := []) (zd (i := .invokevirtual 51) (n := 3) (by decide +kernel)) to_X5_byteAt g532 g533 g534 (Nat.le_of_ble_eq_true rfl) (by decide +kernel) (by decide +kernel) (by decide +kernel) rfl rfl rfl hc (fun r I' L' R' hq => by obtain ⟨y, rfl, hp⟩ := hq; exact kk y I' L' R' hp)
theorem w_X6_scan_37 {Q : qQ} {I : qMI} {L : qML} {R : qMR} {a2 : Int32} {s0 : Int32} (kt : ¬ s0 = (-1) → wkB l G (d + 1) n_X6_scan Q 53 [.ref 4, .ref 1, .int a2, .int s0] [] I L R) (kf : s0 = (-1) → wkB l G (d + 1) n_X6_scan Q 43 [.ref 4, .ref 1, .int a2, .int s0] [] I L R) : wkB l G (d + 1) n_X6_scan Q 37 [.ref 4, .ref 1, .int a2, wkU] [.int s0] I L R :=
  bb_istore_n (n := 3) (i := 3) (zd (i := .istore_n 3) (n := 1) (by decide +kernel)) rfl (by decide +kernel) (wkNl_i rfl) <|
  bb_iload_n (n := 3) (i := 3) (zd (i := .iload_n 3) (n := 1) (by decide +kernel)) rfl rfl <|
  bb_lift (fun _ => q_iconst (n := -1) (zd (i := .iconst (-1)) (n := 1) (by decide +kernel)) rfl) <|
  (fun lv hl => q_icmp_ne (off := 13) (tgt := 53) (zd (i := .if_icmp .ne (13)) (n := 3) (by decide +kernel)) (by decide) (fun h => (kt h) lv hl) (fun h => (kf h) lv hl))
theorem w_X6_scan_43 {Q : qQ} {I : qMI} {L : qML} {R : qMR} {a2 : Int32} {a3 : Int32} (h1 : R 4 1 = some 6) (h2 : vp_in a2 401) (k : wkB l G (d + 1) n_X6_scan Q 116 [.ref 4, .ref 1, .int a2, .int a3] [] (qUp I 6 a2.toNatClampNeg 0) L R) : wkB l G (d + 1) n_X6_scan Q 43 [.ref 4, .ref 1, .int a2, .int a3] [] I L R :=
  bb_aload_n (n := 0) (i := 0) (zd (i := .aload_n 0) (n := 1) (by decide +kernel)) rfl rfl <|
  bb_getr (k := 4) (ci := 6) (j := 1) (idx := 15) (a := 6) (zd (i := .getfield 15) (n := 3) (by decide +kernel)) (by decide +kernel) (by decide +kernel) (by decide +kernel) (by decide +kernel) rfl g205 h1 <|
  bb_iload_n (n := 2) (i := 2) (zd (i := .iload_n 2) (n := 1) (by decide +kernel)) rfl rfl <|
  bb_lift (fun _ => q_iconst (n := 0) (zd (i := .iconst (0)) (n := 1) (by decide +kernel)) rfl) <|
  bb_lift (fun _ => q_iast (k := 6) (zd (i := .iastore) (n := 1) (by decide +kernel)) (by decide +kernel) (by decide +kernel) h2) <|
  bb_lift (fun _ => q_goto (off := 66) (tgt := 116) (zd (i := .goto (66)) (n := 3) (by decide +kernel)) (by decide)) k
theorem w_X6_scan_53 {Q : qQ} {I : qMI} {L : qML} {R : qMR} {a2 : Int32} {a3 : Int32} {P : Int32 → qMI → qML → qMR → Prop} (hc : wkCi l G d n_X6_isLetter [.int a3] I L R P) (kk : ∀ y I' L' R', P y I' L' R' → wkB l G (d + 1) n_X6_scan Q 57 [.ref 4, .ref 1, .int a2, .int a3] [.int y] I' L' R') : wkB l G (d + 1) n_X6_scan Q 53 [.ref 4, .ref 1, .int a2, .int a3] [] I L R :=
  bb_iload_n (n := 3) (i := 3) (zd (i := .iload_n 3) (n := 1) (by decide +kernel)) rfl rfl <|
  bb_callS (idx := 57) (N := n_X6_isLetter) (As := [.int a3]) (st := []) (zd (i := .invokestatic 57) (n := 3) (by decide +kernel)) to_X6_isLetter g539 g540 (Nat.le_of_ble_eq_true rfl) rfl rfl hc (fun r I' L' R' hq => by obtain ⟨y, rfl, hp⟩ := hq; exact kk y I' L' R' hp)
theorem w_X6_scan_57 {Q : qQ} {I : qMI} {L : qML} {R : qMR} {a2 : Int32} {a3 : Int32} {s0 : Int32} (kt : s0 = 0 → wkB l G (d + 1) n_X6_scan Q 69 [.ref 4, .ref 1, .int a2, .int a3] [] I L R) (kf : ¬ s0 = 0 → wkB l G (d + 1) n_X6_scan Q 60 [.ref 4, .ref 1, .int a2, .int a3] [] I L R) : wkB l G (d + 1) n_X6_scan Q 57 [.ref 4, .ref 1, .int a2, .int a3] [.int s0] I L R :=
  (fun lv hl => q_if_eq (off := 12) (tgt := 69) (zd (i := .ifCond .eq (12)) (n := 3) (by decide +kernel)) (by decide) (fun h => (kt h) lv hl) (fun h => (kf h) lv hl))
theorem w_X6_scan_60 {Q : qQ} {I : qMI} {L : qML} {R : qMR} {a2 : Int32} {a3 : Int32} {P : qMI → qML → qMR → Prop} (hc : wkCv l G d n_X6_scanLetters [.ref 4, .ref 1, .int a2] I L R P) (kk : ∀ I' L' R', P I' L' R' → wkB l G (d + 1) n_X6_scan Q 66 [.ref 4, .ref 1, .int a2, .int a3] [] I' L' R') : wkB l G (d + 1) n_X6_scan Q 60 [.ref 4, .ref 1, .int a2, .int a3] [] I L R :=
  bb_aload_n (n := 0) (i := 0) (zd (i := .aload_n 0) (n := 1) (by decide +kernel)) rfl rfl <|
  bb_aload_n (n := 1) (i := 1) (zd (i := .aload_n 1) (n := 1) (by decide +kernel)) rfl rfl <|
  bb_iload_n (n := 2) (i := 2) (zd (i := .iload_n 2) (n := 1) (by decide +kernel)) rfl rfl <|
  bb_callV (idx := 61) (k := 4) (ci := 6) (N := n_X6_scanLetters) (As := [.ref 1, .int a2]) (st := []) (zd (i := .invokevirtual 61) (n := 3) (by decide +kernel)) to_X6_scanLetters g542 g544 g2 (Nat.le_of_ble_eq_true rfl) (by decide +kernel) (by decide +kernel) (by decide +kernel) rfl rfl rfl hc (fun r I' L' R' hq => by obtain ⟨rfl, hp⟩ := hq; exact kk I' L' R' hp)
theorem w_X6_scan_66 {Q : qQ} {I : qMI} {L : qML} {R : qMR} {a2 : Int32} {a3 : Int32} (k : wkB l G (d + 1) n_X6_scan Q 116 [.ref 4, .ref 1, .int a2, .int a3] [] I L R) : wkB l G (d + 1) n_X6_scan Q 66 [.ref 4, .ref 1, .int a2, .int a3] [] I L R :=
  bb_lift (fun _ => q_goto (off := 50) (tgt := 116) (zd (i := .goto (50)) (n := 3) (by decide +kernel)) (by decide)) k
theorem w_X6_scan_69 {Q : qQ} {I : qMI} {L : qML} {R : qMR} {a2 : Int32} {a3 : Int32} {P : Int32 → qMI → qML → qMR → Prop} (hc : wkCi l G d n_X6_isDigit [.int a3] I L R P) (kk : ∀ y I' L' R', P y I' L' R' → wkB l G (d + 1) n_X6_scan Q 73 [.ref 4, .ref 1, .int a2, .int a3] [.int y] I' L' R') : wkB l G (d + 1) n_X6_scan Q 69 [.ref 4, .ref 1, .int a2, .int a3] [] I L R :=
  bb_iload_n (n := 3) (i := 3) (zd (i := .iload_n 3) (n := 1) (by decide +kernel)) rfl rfl <|
  bb_callS (idx := 65) (N := n_X6_isDigit) (As := [.int a3]) (st := []) (zd (i := .invokestatic 65) (n := 3) (by decide +kernel)) to_X6_isDigit g550 g551 (Nat.le_of_ble_eq_true rfl) rfl rfl hc (fun r I' L' R' hq => by obtain ⟨y, rfl, hp⟩ := hq; exact kk y I' L' R' hp)
theorem w_X6_scan_73 {Q : qQ} {I : qMI} {L : qML} {R : qMR} {a2 : Int32} {a3 : Int32} {s0 : Int32} (kt : s0 = 0 → wkB l G (d + 1) n_X6_scan Q 85 [.ref 4, .ref 1, .int a2, .int a3] [] I L R) (kf : ¬ s0 = 0 → wkB l G (d + 1) n_X6_scan Q 76 [.ref 4, .ref 1, .int a2, .int a3] [] I L R) : wkB l G (d + 1) n_X6_scan Q 73 [.ref 4, .ref 1, .int a2, .int a3] [.int s0] I L R :=
  (fun lv hl => q_if_eq (off := 12) (tgt := 85) (zd (i := .ifCond .eq (12)) (n := 3) (by decide +kernel)) (by decide) (fun h => (kt h) lv hl) (fun h => (kf h) lv hl))
theorem w_X6_scan_76 {Q : qQ} {I : qMI} {L : qML} {R : qMR} {a2 : Int32} {a3 : Int32} {P : qMI → qML → qMR → Prop} (hc : wkCv l G d n_X6_scanDigits [.ref 4, .ref 1, .int a2] I L R P) (kk : ∀ I' L' R', P I' L' R' → wkB l G (d + 1) n_X6_scan Q 82 [.ref 4, .ref 1, .int a2, .int a3] [] I' L' R') : wkB l G (d + 1) n_X6_scan Q 76 [.ref 4, .ref 1, .int a2, .int a3] [] I L R :=
  bb_aload_n (n := 0) (i := 0) (zd (i := .aload_n 0) (n := 1) (by decide +kernel)) rfl rfl <|
  bb_aload_n (n := 1) (i := 1) (zd (i := .aload_n 1) (n := 1) (by decide +kernel)) rfl rfl <|
  bb_iload_n (n := 2) (i := 2) (zd (i := .iload_n 2) (n := 1) (by decide +kernel)) rfl rfl <|
  bb_callV (idx := 68) (k := 4) (ci := 6) (N := n_X6_scanDigits) (As := [.ref 1, .int a2]) (st := []) (zd (i := .invokevirtual 68) (n := 3) (by decide +kernel)) to_X6_scanDigits g553 g555 g4 (Nat.le_of_ble_eq_true rfl) (by decide +kernel) (by decide +kernel) (by decide +kernel) rfl rfl rfl hc (fun r I' L' R' hq => by obtain ⟨rfl, hp⟩ := hq; exact kk I' L' R' hp)
theorem w_X6_scan_82 {Q : qQ} {I : qMI} {L : qML} {R : qMR} {a2 : Int32} {a3 : Int32} (k : wkB l G (d + 1) n_X6_scan Q 116 [.ref 4, .ref 1, .int a2, .int a3] [] I L R) : wkB l G (d + 1) n_X6_scan Q 82 [.ref 4, .ref 1, .int a2, .int a3] [] I L R :=
  bb_lift (fun _ => q_goto (off := 34) (tgt := 116) (zd (i := .goto (34)) (n := 3) (by decide +kernel)) (by decide)) k
theorem w_X6_scan_85 {Q : qQ} {I : qMI} {L : qML} {R : qMR} {a2 : Int32} {a3 : Int32} (h1 : R 4 1 = some 6) {P : Int32 → qMI → qML → qMR → Prop} (hc : wkCi l G d n_J0_indexOf_0f7a4 [.float 1, .int ((a3.toUInt32 % 65536).toInt32)] I L R P) (kk : ∀ y I' L' R', P y I' L' R' → wkB l G (d + 1) n_X6_scan Q 97 [.ref 4, .ref 1, .int a2, .int a3] [.int y, .int a2, .ref 6] I' L' R') : wkB l G (d + 1) n_X6_scan Q 85 [.ref 4, .ref 1, .int a2, .int a3] [] I L R :=
  bb_aload_n (n := 0) (i := 0) (zd (i := .aload_n 0) (n := 1) (by decide +kernel)) rfl rfl <|
  bb_getr (k := 4) (ci := 6) (j := 1) (idx := 15) (a := 6) (zd (i := .getfield 15) (n := 3) (by decide +kernel)) (by decide +kernel) (by decide +kernel) (by decide +kernel) (by decide +kernel) rfl g205 h1 <|
  bb_iload_n (n := 2) (i := 2) (zd (i := .iload_n 2) (n := 1) (by decide +kernel)) rfl rfl <|
  bb_lift (fun _ => q_ldcS (b := 1) (idx := 71) (zd (i := .ldc 71) (n := 2) (by decide +kernel)) rfl (Or.inr ⟨rfl, rfl⟩)) <|
  bb_iload_n (n := 3) (i := 3) (zd (i := .iload_n 3) (n := 1) (by decide +kernel)) rfl rfl <|
  bb_lift (fun _ => q_i2c (zd (i := .i2c) (n := 1) (by decide +kernel))) <|
  bb_callT (idx := 73) (b := 1) (N := n_J0_indexOf_0f7a4) (As := [.int ((a3.toUInt32 % 65536).toInt32)]) (st := [.int a2, .ref 6]) (zd (i := .invokevirtual 73) (n := 3) (by decide +kernel)) to_J0_indexOf_0f7a4 g559 g560 g561 (Nat.le_of_ble_eq_true rfl) (by decide) rfl rfl rfl hc (fun r I' L' R' hq => by obtain ⟨y, rfl, hp⟩ := hq; exact kk y I' L' R' hp)
theorem w_X6_scan_97 {Q : qQ} {I : qMI} {L : qML} {R : qMR} {a2 : Int32} {a3 : Int32} {s1 : Int32} {s2 : Int32} (kt : s2 < 0 → wkB l G (d + 1) n_X6_scan Q 104 [.ref 4, .ref 1, .int a2, .int a3] [.int s1, .ref 6] I L R) (kf : ¬ s2 < 0 → wkB l G (d + 1) n_X6_scan Q 100 [.ref 4, .ref 1, .int a2, .int a3] [.int s1, .ref 6] I L R) : wkB l G (d + 1) n_X6_scan Q 97 [.ref 4, .ref 1, .int a2, .int a3] [.int s2, .int s1, .ref 6] I L R :=
  (fun lv hl => q_if_lt (off := 7) (tgt := 104) (zd (i := .ifCond .lt (7)) (n := 3) (by decide +kernel)) (by decide) (fun h => (kt h) lv hl) (fun h => (kf h) lv hl))
theorem w_X6_scan_100 {Q : qQ} {I : qMI} {L : qML} {R : qMR} {a2 : Int32} {a3 : Int32} {s1 : Int32} (k : wkB l G (d + 1) n_X6_scan Q 105 [.ref 4, .ref 1, .int a2, .int a3] [.int a3, .int s1, .ref 6] I L R) : wkB l G (d + 1) n_X6_scan Q 100 [.ref 4, .ref 1, .int a2, .int a3] [.int s1, .ref 6] I L R :=
  bb_iload_n (n := 3) (i := 3) (zd (i := .iload_n 3) (n := 1) (by decide +kernel)) rfl rfl <|
  bb_lift (fun _ => q_goto (off := 4) (tgt := 105) (zd (i := .goto (4)) (n := 3) (by decide +kernel)) (by decide)) k
theorem w_X6_scan_104 {Q : qQ} {I : qMI} {L : qML} {R : qMR} {a2 : Int32} {a3 : Int32} {s1 : Int32} (k : wkB l G (d + 1) n_X6_scan Q 105 [.ref 4, .ref 1, .int a2, .int a3] [.int 1, .int s1, .ref 6] I L R) : wkB l G (d + 1) n_X6_scan Q 104 [.ref 4, .ref 1, .int a2, .int a3] [.int s1, .ref 6] I L R :=
  bb_lift (fun _ => q_iconst (n := 1) (zd (i := .iconst (1)) (n := 1) (by decide +kernel)) rfl) <|
  k
theorem w_X6_scan_105 {Q : qQ} {I : qMI} {L : qML} {R : qMR} {a2 : Int32} {a3 : Int32} {s1 : Int32} {s2 : Int32} (h1 : vp_in s1 401) (k : wkB l G (d + 1) n_X6_scan Q 116 [.ref 4, .ref 1, .int a2, .int a3] [] (qUp (qUp I 6 s1.toNatClampNeg s2) 4 4 (((qUp I 6 s1.toNatClampNeg s2) 4 4) + 1)) L R) : wkB l G (d + 1) n_X6_scan Q 105 [.ref 4, .ref 1, .int a2, .int a3] [.int s2, .int s1, .ref 6] I L R :=
  bb_lift (fun _ => q_iast (k := 6) (zd (i := .iastore) (n := 1) (by decide +kernel)) (by decide +kernel) (by decide +kernel) h1) <|
  bb_aload_n (n := 0) (i := 0) (zd (i := .aload_n 0) (n := 1) (by decide +kernel)) rfl rfl <|
  bb_lift (fun _ => q_dup (zd (i := .dup) (n := 1) (by decide +kernel)) rfl) <|
  bb_geti (k := 4) (ci := 6) (j := 4) (idx := 25) (zd (i := .getfield 25) (n := 3) (by decide +kernel)) (by decide +kernel) (by decide +kernel) (by decide +kernel) (by decide +kernel) rfl g211 <|
  bb_lift (fun _ => q_iconst (n := 1) (zd (i := .iconst (1)) (n := 1) (by decide +kernel)) rfl) <|
  bb_lift (fun _ => q_iadd (zd (i := .iadd) (n := 1) (by decide +kernel))) <|
  bb_puti (k := 4) (ci := 6) (j := 4) (idx := 25) (zd (i := .putfield 25) (n := 3) (by decide +kernel)) (by decide +kernel) (by decide +kernel) (by decide +kernel) (by decide +kernel) g211 rfl rfl <|
  k
theorem w_X6_scan_116 {Q : qQ} {I : qMI} {L : qML} {R : qMR} {a2 : Int32} {a3 : Int32} (k : wkB l G (d + 1) n_X6_scan Q 7 [.ref 4, .ref 1, .int (a2 + 1), wkU] [] I L R) : wkB l G (d + 1) n_X6_scan Q 116 [.ref 4, .ref 1, .int a2, .int a3] [] I L R :=
  bb_iinc (i := 2) (n := 1) (zd (i := .iinc 2 (1)) (n := 3) (by decide +kernel)) rfl rfl (by decide +kernel) (wkNl_r rfl) <|
  bb_lift (fun _ => q_goto (off := -112) (tgt := 7) (zd (i := .goto (-112)) (n := 3) (by decide +kernel)) (by decide)) (wkB_le (vs := [.ref 4, .ref 1, .int (a2 + 1), wkU]) (ws := [.ref 4, .ref 1, .int (a2 + 1), .int a3]) ⟨Or.inr rfl, Or.inr rfl, Or.inr rfl, Or.inl rfl, trivial⟩ (k))
theorem w_X6_scan_122 {Q : qQ} {I : qMI} {L : qML} {R : qMR} {a2 : Int32} (hQ : Q none 336 I L R) : wkB l G (d + 1) n_X6_scan Q 122 [.ref 4, .ref 1, .int a2, wkU] [] I L R :=
  (fun lv hl => q_vret (zd (i := .return_) (n := 1) (by decide +kernel)) rfl (Nat.le_refl _) (Nat.le_refl _) hQ)
theorem w_X5_byteAt_0 {Q : qQ} {I : qMI} {L : qML} {R : qMR} {a1 : Int32} (kt : a1 < 0 → wkB l G (d + 1) n_X5_byteAt Q 25 [.ref 1, .int a1] [] I L R) (kf : ¬ a1 < 0 → wkB l G (d + 1) n_X5_byteAt Q 4 [.ref 1, .int a1] [] I L R) : wkB l G (d + 1) n_X5_byteAt Q 0 [.ref 1, .int a1] [] I L R :=
  bb_iload_n (n := 1) (i := 1) (zd (i := .iload_n 1) (n := 1) (by decide +kernel)) rfl rfl <|
  (fun lv hl => q_if_lt (off := 24) (tgt := 25) (zd (i := .ifCond .lt (24)) (n := 3) (by decide +kernel)) (by decide) (fun h => (kt h) lv hl) (fun h => (kf h) lv hl))
theorem w_X5_byteAt_4 {Q : qQ} {I : qMI} {L : qML} {R : qMR} {a1 : Int32} (kt : (I 1 1) ≤ a1 → wkB l G (d + 1) n_X5_byteAt Q 25 [.ref 1, .int a1] [] I L R) (kf : ¬ (I 1 1) ≤ a1 → wkB l G (d + 1) n_X5_byteAt Q 12 [.ref 1, .int a1] [] I L R) : wkB l G (d + 1) n_X5_byteAt Q 4 [.ref 1, .int a1] [] I L R :=
  bb_iload_n (n := 1) (i := 1) (zd (i := .iload_n 1) (n := 1) (by decide +kernel)) rfl rfl <|
  bb_aload_n (n := 0) (i := 0) (zd (i := .aload_n 0) (n := 1) (by decide +kernel)) rfl rfl <|
  bb_geti (k := 1) (ci := 5) (j := 1) (idx := 15) (zd (i := .getfield 15) (n := 3) (by decide +kernel)) (by decide +kernel) (by decide +kernel) (by decide +kernel) (by decide +kernel) rfl g130 <|
  (fun lv hl => q_icmp_ge (off := 16) (tgt := 25) (zd (i := .if_icmp .ge (16)) (n := 3) (by decide +kernel)) (by decide) (fun h => (kt h) lv hl) (fun h => (kf h) lv hl))
theorem w_X5_byteAt_12 {Q : qQ} {I : qMI} {L : qML} {R : qMR} {a1 : Int32} (h1 : R 1 0 = some 2) (h2 : vp_in a1 2000) (k : wkB l G (d + 1) n_X5_byteAt Q 26 [.ref 1, .int a1] [.int ((I 2 a1.toNatClampNeg) &&& 255)] I L R) : wkB l G (d + 1) n_X5_byteAt Q 12 [.ref 1, .int a1] [] I L R :=
  bb_aload_n (n := 0) (i := 0) (zd (i := .aload_n 0) (n := 1) (by decide +kernel)) rfl rfl <|
  bb_getr (k := 1) (ci := 5) (j := 0) (idx := 11) (a := 2) (zd (i := .getfield 11) (n := 3) (by decide +kernel)) (by decide +kernel) (by decide +kernel) (by decide +kernel) (by decide +kernel) rfl g129 h1 <|
  bb_iload_n (n := 1) (i := 1) (zd (i := .iload_n 1) (n := 1) (by decide +kernel)) rfl rfl <|
  bb_lift (fun _ => q_bald (k := 2) (zd (i := .baload) (n := 1) (by decide +kernel)) (by decide +kernel) (by decide +kernel) h2) <|
  bb_lift (fun _ => q_sipush (n := 255) (zd (i := .sipush (255)) (n := 3) (by decide +kernel)) rfl) <|
  bb_lift (fun _ => q_iand (zd (i := .iand) (n := 1) (by decide +kernel))) <|
  bb_lift (fun _ => q_goto (off := 4) (tgt := 26) (zd (i := .goto (4)) (n := 3) (by decide +kernel)) (by decide)) k
theorem w_X5_byteAt_25 {Q : qQ} {I : qMI} {L : qML} {R : qMR} {a1 : Int32} (k : wkB l G (d + 1) n_X5_byteAt Q 26 [.ref 1, .int a1] [.int (-1)] I L R) : wkB l G (d + 1) n_X5_byteAt Q 25 [.ref 1, .int a1] [] I L R :=
  bb_lift (fun _ => q_iconst (n := -1) (zd (i := .iconst (-1)) (n := 1) (by decide +kernel)) rfl) <|
  k
theorem w_X5_byteAt_26 {Q : qQ} {I : qMI} {L : qML} {R : qMR} {a1 : Int32} {s0 : Int32} (hQ : Q (some (.int s0)) 336 I L R) : wkB l G (d + 1) n_X5_byteAt Q 26 [.ref 1, .int a1] [.int s0] I L R :=
  (fun lv hl => q_iret (zd (i := .ireturn) (n := 1) (by decide +kernel)) rfl rfl (Nat.le_refl _) (Nat.le_refl _) hQ)
end
