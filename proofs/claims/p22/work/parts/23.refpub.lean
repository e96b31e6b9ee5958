-- the reference: its calls
abbrev YD : Type := (Nat → Int32) × (Nat → Int32) × (Nat → Int32) × (Nat → Int32) × (Nat → Int32) × Nat × Nat
abbrev YD.all (Y : YD) : Nat → Int32 := Y.1
abbrev YD.H (Y : YD) : Nat → Int32 := Y.2.1
abbrev YD.slo (Y : YD) : Nat → Int32 := Y.2.2.1
abbrev YD.isv (Y : YD) : Nat → Int32 := Y.2.2.2.1
abbrev YD.pad (Y : YD) : Nat → Int32 := Y.2.2.2.2.1
abbrev YD.nh (Y : YD) : Nat := Y.2.2.2.2.2.1
abbrev YD.pn (Y : YD) : Nat := Y.2.2.2.2.2.2
abbrev SD : Type := (Nat → Int32) × (Nat → Int32) × (Nat → Int32) × (Nat → Int32) × (Nat → Int32) × Nat
abbrev SD.tree (c : SD) : Nat → Int32 := c.1
abbrev SD.tried (c : SD) : Nat → Int32 := c.2.1
abbrev SD.most (c : SD) : Nat → Int32 := c.2.2.1
abbrev SD.best (c : SD) : Nat → Int32 := c.2.2.2.1
abbrev SD.rd (c : SD) : Nat → Int32 := c.2.2.2.2.1
abbrev SD.sp (c : SD) : Nat := c.2.2.2.2.2
abbrev mw (T : Nat → ClassId) (z : Nat → Nat) (Y : YD) (c : SD) : va_W := [(z 0, .inr (7, [.ref (z 1), .ref (z 2), .int (nI Y.nh), .ref (z 3), .ref (z 4), .ref (z 5), .ref (z 6), .ref (z 7), .ref (z 8), .ref (z 9), .int (nI Y.pn), .int (nI c.sp), .ref (z 10)])), (z 1, .inl (T 0, 340, .inl Y.all)), (z 2, .inl (T 0, 2040, .inl Y.H)), (z 3, .inl (T 0, 680, .inl Y.slo)), (z 4, .inl (T 0, 2, .inl Y.isv)), (z 5, .inl (T 0, 280, .inl c.tree)), (z 6, .inl (T 0, 7, .inl c.tried)), (z 7, .inl (T 0, 7, .inl c.most)), (z 8, .inl (T 0, 7, .inl c.best)), (z 9, .inl (T 0, 60, .inl Y.pad)), (z 10, .inl (T 0, 15, .inl c.rd))]
abbrev GOK (g : Nat → Int32) : Prop := (∃ S, Iv S g) ∧ rng 1 9 (g 34)
abbrev YOK (Y : YD) : Prop := GOK Y.all ∧ Y.nh ≤ 6 ∧ Y.pn ≤ 60 ∧ (∀ i, i < Y.nh → GOK (fun j => Y.H (340 * i + j))) ∧ (∀ k, k < 2 → (Y.isv k = 0 ∨ Y.isv k = 1) ∧ (Y.isv k = 1 → GOK (fun j => Y.slo (340 * k + j))))
def recd (Y : YD) : YD := (Y.all, recH Y.H Y.all Y.nh, Y.slo, Y.isv, Y.pad, recN Y.nh, Y.pn)
theorem rng_nat {x : Int32} {b : Int} (h : rng 0 b x) : ∃ k : Nat, (k : Int) ≤ b ∧ k < 2 ^ 31 ∧ x = nI k ∧ x.toNatClampNeg = k := by
  obtain ⟨e1, e2⟩ := i_natN x h.1
  have e3 := i_nat x h.1
  have := h.2
  exact ⟨x.toNatClampNeg, by omega, e2, e1, rfl⟩
theorem rng_nat1 {x : Int32} {a b : Int} (h : rng a b x) (ha : 0 ≤ a) : ∃ k : Nat, a ≤ (k : Int) ∧ (k : Int) ≤ b ∧ k < 2 ^ 31 ∧ x = nI k ∧ x.toNatClampNeg = k := by
  have h1 := h.1
  obtain ⟨e1, e2⟩ := i_natN x (by omega)
  have e3 := i_nat x (by omega)
  have := h.2
  exact ⟨x.toNatClampNeg, by omega, by omega, e2, e1, rfl⟩
def ySet (Y : YD) (t v : Int32) : Int32 × YD := if isSet t v then (Y.all (34 + t.toNatClampNeg), (upd Y.all (34 + t.toNatClampNeg) v, (recd Y).2)) else (-2, Y)
def yBegin (Y : YD) : Int32 × YD := (Y.all 28, (anewM Y.all, (recd Y).2))
def yMove (Y : YD) (x : Int32) : Int32 × YD :=
  if rng 0 11 x then (if legM Y.all x.toNatClampNeg then (mkM Y.all (Y.all 28).toNatClampNeg x.toNatClampNeg 30, (mkM Y.all (Y.all 28).toNatClampNeg x.toNatClampNeg, (recd Y).2)) else (-5, Y)) else (-1, Y)
def yPlay (Y : YD) (x : Int32) : Int32 × YD :=
  if rng 1 4 x then (if Y.all 27 = 1 then (-5, Y) else (bhM x.toNatClampNeg Y.all, (mkM Y.all (Y.all 28).toNatClampNeg (bhM x.toNatClampNeg Y.all).toNatClampNeg, (recd Y).2))) else (-2, Y)
def yHouse (Y : YD) (x w : Int32) : Int32 × YD :=
  if rng 0 11 x then (if rng 0 2 w then ((if w = 0 then Y.all x.toNatClampNeg else if w = 1 then Y.all (12 + x.toNatClampNeg) else if Y.all 35 ≤ Y.all (12 + x.toNatClampNeg) then 1 else 0), Y) else (-2, Y)) else (-1, Y)
def yLast (Y : YD) (w : Int32) : Int32 × YD := if rng 0 4 w then (if Y.all 28 = 0 then (-6, Y) else (Y.all (29 + w.toNatClampNeg), Y)) else (-2, Y)
def yMoved (Y : YD) (x : Int32) : Int32 × YD := if rng 0 ((Y.all 28).toInt - 1) x then (Y.all (40 + x.toNatClampNeg), Y) else (-1, Y)
def yWorth (Y : YD) (x : Int32) : Int32 × YD := if rng 0 4 x then (valM x.toNatClampNeg Y.all + 10000, Y) else (-2, Y)
def yBest (Y : YD) (x : Int32) : Int32 × YD := if rng 1 4 x then (bhM x.toNatClampNeg Y.all, Y) else (-2, Y)
def yWipe (Y : YD) : Int32 × YD := (nI Y.pn, (Y.all, Y.H, Y.slo, Y.isv, Y.pad, Y.nh, 0))
def scY (Y : YD) : Int32 × (Nat → Int32) := scanF Y.pn 0 0 0 Y.pad (fun _ => 0)
def yFault (Y : YD) : Int32 × YD := ((scY Y).1, Y)
def ySave (Y : YD) (x : Int32) : Int32 × YD := if rng 0 1 x then (Y.all 28, (Y.all, Y.H, lay Y.slo (340 * x.toNatClampNeg) Y.all 340, upd Y.isv x.toNatClampNeg 1, Y.pad, Y.nh, Y.pn)) else (-2, Y)
def yUndo (Y : YD) : Int32 × YD := if Y.nh = 0 then (-5, Y) else (nI (Y.nh - 1), (fun j => Y.H (340 * (Y.nh - 1) + j), Y.H, Y.slo, Y.isv, Y.pad, Y.nh - 1, Y.pn))
def yRestore (Y : YD) (x : Int32) : Int32 × YD := if rng 0 1 x then (if Y.isv x.toNatClampNeg = 0 then (-5, Y) else (Y.slo (340 * x.toNatClampNeg + 28), (fun j => Y.slo (340 * x.toNatClampNeg + j), (recd Y).2))) else (-2, Y)
theorem bh_hou {S : Int} {P : Nat → Int32} (hI : Iv S P) {d : Nat} (hd : 0 < d) (h27 : P 27 = 0) : ∃ h, h < 12 ∧ legM P h ∧ bhM d P = nI h := by
  obtain ⟨d, rfl⟩ : ∃ y, d = y + 1 := ⟨d - 1, by omega⟩
  obtain ⟨h, hh, hl⟩ := hI.2.2.2.2.2.2 h27
  obtain ⟨q, hq⟩ := scan_some (v := vbM d P) 12 h hh hl
  obtain ⟨b1, b2, b3⟩ := scan_b (v := vbM d P) (fun h hh hl => vbM_b hI d hh hl) 12 (Nat.le_refl _) q hq
  refine ⟨q.1, b1, b2, ?_⟩
  rw [bhM, if_pos h27, hq]
  rfl
theorem lay_g (f : Nat → Int32) (b : Nat) (f2 : Nat → Int32) {j : Nat} (hj : j < 340) : lay f2 0 (fun j => f (b + j)) 340 j = f (b + j) := by
  unfold lay
  rw [if_pos (by omega), Nat.sub_zero]