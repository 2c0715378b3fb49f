/-! ===== cuts by families: a cut is a family's number and its counters; a measure falls ===== -/
theorem zj {l : Launch} {G : qG} {gh : zGh} {d : Nat} {K : zKr} {M : qMn} {p q : Nat} {f : zK} (h : zS l G gh d K M p f) (e : p = q) : zS l G gh d K M q f := e ▸ h
def zdec (c : ByteArray) (pc : Nat) (i : Instr) (n : Nat) : Bool := decide (decode c pc = .ok (i, n))
theorem zd {c : ByteArray} {pc : Nat} {i : Instr} {n : Nat} (h : zdec c pc i n = true) : decode c pc = .ok (i, n) := of_decide_eq_true h
section ZFAM
variable {l : Launch} {G : qG} {gh : zGh} {d : Nat} {N : qMn} {K : zKr}
theorem zcutsI {ι : Type} {tab : List zBl} {pcs : List Nat} (h : zT (zPb l G gh d N pcs) tab pcs) (ct : ι → zCt) (μ : ι → Nat) (ok : ι → Prop) (look : ι → Nat → zK) (hlook : ∀ i, ok i → ∀ b lv st ce sl t A, look i b lv st ce sl t A = true → ∃ j, ok j ∧ μ j < μ i ∧ zwc (ct j) b lv st ce sl t A = true)
    (n : Nat) (hrun : ∀ i, ok i → zn zfl tab (ct i).1 (zjc (K := K) n tab (look i)) K (ct i).2.1 [] 0 0 336 (ct i).2.2 = true) : ∀ i, ok i → ∀ b, zS l G gh d K N (zn 0 pcs b) (zwc (ct i) b) := by
  suffices hs : ∀ m i, μ i = m → ok i → ∀ b, zS l G gh d K N (zn 0 pcs b) (zwc (ct i) b) from fun i hi => hs (μ i) i rfl hi
  intro m
  induction m using Nat.strongRecOn with
  | ind m ih =>
    intro i hi ho b lv st ce sl t A hw lv' st' I L R h1 h2 h3
    obtain ⟨w1, hw⟩ := zand hw
    obtain ⟨w2, hw⟩ := zand hw
    obtain ⟨rfl, hw⟩ := zE_t hw h2
    obtain ⟨w3, hw⟩ := zand hw
    obtain ⟨w4, hw⟩ := zand hw
    obtain ⟨w5, w6⟩ := zand hw
    have e1 := Nat.eq_of_beq_eq_true w1
    have e3 := Nat.eq_of_beq_eq_true w3
    have e4 := Nat.eq_of_beq_eq_true w4
    have e5 := Nat.eq_of_beq_eq_true w5
    subst e1 e3 e4 e5
    have hlk : ∀ b, zS l G gh d K N (zn 0 pcs b) (look i b) := fun b lv st ce sl t A hq lv' st' I L R g1 g2 g3 => by
      obtain ⟨j, hj1, hj2, hj3⟩ := hlook i ho b lv st ce sl t A hq
      exact ih (μ j) (by omega) j rfl hj1 b lv st ce sl t A hj3 lv' st' I L R g1 g2 g3
    exact zT_all (P := zPb l G gh d N pcs) (fun _ _ _ _ => z_fail) h (ct i).1 K _ (zjc_ok h hlk n) _ [] 0 0 336 _ (hrun i ho) lv' [] I L R (zlw_t w2 h1) trivial ⟨zM_w h3.1 w6, h3.2⟩
/-- a family: its block; the locals that count, each with its bounds (2^31 more); its state by the counters; its measure by them -/
abbrev zFm : Type := Nat × List (Nat × Nat × Nat) × (List Nat → List zX) × (List Nat → zAm) × (List Nat → Nat)
/-- a counter: a local, or (from 1000000 on) a field of a cell -/
noncomputable def zcv1 (lv : List zX) (A : zAm) (l : Nat) (f : Nat → Bool) : Bool := bif Nat.ble 1000000 l then f (Nat.xor (zraw (zcell A (Nat.div (Nat.sub l 1000000) 100)) (Nat.mod (Nat.sub l 1000000) 100)) 2147483648) else zI (zn zdum lv l) f
theorem zcv1_t {lv : List zX} {A : zAm} {l : Nat} {f : Nat → Bool} (h : zcv1 lv A l f = true) : ∃ a, f a = true := by
  unfold zcv1 at h
  cases hb : Nat.ble 1000000 l with
  | true => rw [hb, cond_true] at h; exact ⟨_, h⟩
  | false =>
    rw [hb, cond_false] at h
    cases hx : zn zdum lv l with
    | inr w => rw [hx] at h; cases h
    | inl a => rw [hx] at h; exact ⟨a, h⟩
/-- the counters off the locals and the memory, if all lie within their bounds -/
noncomputable def zcnt (lv : List zX) (A : zAm) (cs : List (Nat × Nat × Nat)) (f : List Nat → Bool) : Bool := List.rec (motive := fun _ => (List Nat → Bool) → Bool) (fun f => f []) (fun c _ ih f => zcv1 lv A c.1 (fun a => bif Nat.ble c.2.1 (zlo a) then (bif Nat.ble (zlo a) c.2.2 then ih (fun vs => f (zlo a :: vs)) else false) else false)) cs f
/-- all values of the counters -/
noncomputable def zbox (cs : List (Nat × Nat × Nat)) (f : List Nat → Bool) : Bool := List.rec (motive := fun _ => (List Nat → Bool) → Bool) (fun f => f []) (fun c _ ih f => zup c.2.1 (Nat.sub (Nat.succ c.2.2) c.2.1) (fun v => ih (fun vs => f (v :: vs)))) cs f
def zinb : List (Nat × Nat × Nat) → List Nat → Prop
  | [], [] => True
  | c :: cs, v :: vs => (c.2.1 ≤ v ∧ v ≤ c.2.2) ∧ zinb cs vs
  | _, _ => False
theorem zbox_t : ∀ {cs : List (Nat × Nat × Nat)} {f : List Nat → Bool}, zbox cs f = true → ∀ vs, zinb cs vs → f vs = true
  | [], f, h, [], _ => h
  | [], f, h, _ :: _, hv => hv.elim
  | _ :: _, f, h, [], hv => hv.elim
  | c :: cs, f, h, v :: vs, hv => by
    have h : zup c.2.1 (Nat.sub (Nat.succ c.2.2) c.2.1) (fun v => zbox cs (fun vs => f (v :: vs))) = true := h
    have h1 := zup_t h v hv.1.1 (by have := hv.1.2; have := hv.1.1; show v < c.2.1 + (c.2.2 + 1 - c.2.1); omega)
    exact zbox_t h1 vs hv.2
theorem zcnt_t {lv : List zX} {A : zAm} : ∀ {cs : List (Nat × Nat × Nat)} {f : List Nat → Bool}, zcnt lv A cs f = true → ∃ vs, zinb cs vs ∧ f vs = true
  | [], f, h => ⟨[], trivial, h⟩
  | c :: cs, f, h => by
    have h : zcv1 lv A c.1 (fun a => bif Nat.ble c.2.1 (zlo a) then (bif Nat.ble (zlo a) c.2.2 then zcnt lv A cs (fun vs => f (zlo a :: vs)) else false) else false) = true := h
    obtain ⟨a, h⟩ := zcv1_t h
    obtain ⟨h1, h⟩ := zand h
    obtain ⟨h2, h⟩ := zand h
    obtain ⟨vs, g1, g2⟩ := zcnt_t h
    exact ⟨zlo a :: vs, ⟨⟨Nat.le_of_ble_eq_true h1, Nat.le_of_ble_eq_true h2⟩, g1⟩, g2⟩
def zfm0 : zFm := (99999, [], fun _ => [], fun _ => [], fun _ => 0)
noncomputable def zFct (fs : List zFm) (i : Nat × List Nat) : zCt := ((zn zfm0 fs i.1).1, (zn zfm0 fs i.1).2.2.1 i.2, (zn zfm0 fs i.1).2.2.2.1 i.2)
noncomputable def zFmu (fs : List zFm) (i : Nat × List Nat) : Nat := (zn zfm0 fs i.1).2.2.2.2 i.2
/-- which family a block is the head of: for each block its family's number and 1 more, or 0 -/
noncomputable def zFlk (fs : List zFm) (bf : List Nat) (i : Nat × List Nat) (b : Nat) : zK := fun lv st ce sl t A => Nat.rec (motive := fun _ => Bool) false (fun f _ => zcnt lv A (zn zfm0 fs f).2.1 (fun vs => bif Nat.ble (Nat.succ (zFmu fs (f, vs))) (zFmu fs i) then zwc (zFct fs (f, vs)) b lv st ce sl t A else false)) (zn 0 bf b)
def zFok (fs : List zFm) (i : Nat × List Nat) : Prop := i.1 < fs.length ∧ zinb (zn zfm0 fs i.1).2.1 i.2
/-- no family is counted by a block beyond them -/
noncomputable def zbfok (n : Nat) (bf : List Nat) : Bool := List.rec (motive := fun _ => Bool) true (fun x _ ih => bif Nat.ble x n then ih else false) bf
theorem zbfok_t {n : Nat} : ∀ {bf : List Nat}, zbfok n bf = true → ∀ b, zn 0 bf b ≤ n
  | [], _, _ => Nat.zero_le _
  | x :: bf, h, b => by
    obtain ⟨h1, h2⟩ := zand (show (bif Nat.ble x n then zbfok n bf else false) = true from h)
    cases b with
    | zero => exact Nat.le_of_ble_eq_true h1
    | succ b => exact zbfok_t h2 b
noncomputable def zFrun (K : zKr) (fuel : Nat) (tab : List zBl) (fs : List zFm) (bf : List Nat) (i : Nat × List Nat) : Bool := zn zfl tab (zFct fs i).1 (zjc (K := K) fuel tab (zFlk fs bf i)) K (zFct fs i).2.1 [] 0 0 336 (zFct fs i).2.2
theorem zfam {tab : List zBl} {pcs : List Nat} (h : zT (zPb l G gh d N pcs) tab pcs) (fs : List zFm) (bf : List Nat) (fuel : Nat) (hbf : zbfok fs.length bf = true) (hrun : ∀ f, f < fs.length → ∀ vs, zinb (zn zfm0 fs f).2.1 vs → zFrun K fuel tab fs bf (f, vs) = true) : ∀ i, zFok fs i → ∀ b, zS l G gh d K N (zn 0 pcs b) (zwc (zFct fs i) b) := by
  refine zcutsI h (zFct fs) (zFmu fs) (zFok fs) (zFlk fs bf) (fun i hi b lv st ce sl t A hq => ?_) fuel (fun i hi => hrun i.1 hi.1 i.2 hi.2)
  unfold zFlk at hq
  have hb := zbfok_t hbf b
  generalize zn 0 bf b = x at hq hb
  cases x with
  | zero => cases hq
  | succ f =>
    have hq : zcnt lv A (zn zfm0 fs f).2.1 (fun vs => bif Nat.ble (Nat.succ (zFmu fs (f, vs))) (zFmu fs i) then zwc (zFct fs (f, vs)) b lv st ce sl t A else false) = true := hq
    obtain ⟨vs, g1, g2⟩ := zcnt_t hq
    obtain ⟨g3, g4⟩ := zand g2
    exact ⟨(f, vs), ⟨by show f < _; omega, g1⟩, Nat.le_of_ble_eq_true g3, g4⟩
/-- the entry's cut -/
theorem zentry {tab : List zBl} {pcs : List Nat} (h : zT (zPb l G gh d N pcs) tab pcs) (fs : List zFm) (bf : List Nat) (fuel : Nat) (hbf : zbfok fs.length bf = true) {lv0 : List zX} {A0 : zAm} (he : zFct fs (0, []) = (0, lv0, A0)) (hok : zFok fs (0, [])) (hrun : ∀ f, f < fs.length → ∀ vs, zinb (zn zfm0 fs f).2.1 vs → zFrun K fuel tab fs bf (f, vs) = true) : zS l G gh d K N (zn 0 pcs 0) (zwc (0, lv0, A0) 0) := by
  have := zfam h fs bf fuel hbf hrun (0, []) hok 0
  rw [he] at this
  exact this
end ZFAM
