-- the reference: its calls
abbrev YD : Type := (Nat → Int32) × (Nat → Int32) × (Nat → Int32) × (Nat → Int32) × (Nat → Int32) × Nat × Nat
abbrev YD.all (Y : YD) : Nat → Int32 := Y.1
abbrev YD.H (Y : YD) : Nat → Int32 := Y.2.1
abbrev YD.slo (Y : YD) : Nat → Int32 := Y.2.2.1
abbrev YD.isv (Y : YD) : Nat → Int32 := Y.2.2.2.1
abbrev YD.pad (Y : YD) : Nat → Int32 := Y.2.2.2.2.1
abbrev YD.nh (Y : YD) : Nat := Y.2.2.2.2.2.1
abbrev YD.pn (Y : YD) : Nat := Y.2.2.2.2.2.2
abbrev SD : Type := (Nat → Int32) × (Nat → Int32) × (Nat → Int32) × (Nat → Int32) × (Nat → Int32) × Nat
abbrev SD.tree (c : SD) : Nat → Int32 := c.1
abbrev SD.tried (c : SD) : Nat → Int32 := c.2.1
abbrev SD.most (c : SD) : Nat → Int32 := c.2.2.1
abbrev SD.best (c : SD) : Nat → Int32 := c.2.2.2.1
abbrev SD.rd (c : SD) : Nat → Int32 := c.2.2.2.2.1
abbrev SD.sp (c : SD) : Nat := c.2.2.2.2.2
abbrev mw (T : Nat → ClassId) (z : Nat → Nat) (Y : YD) (c : SD) : va_W := [(z 0, .inr (7, [.ref (z 1), .ref (z 2), .int (nI Y.nh), .ref (z 3), .ref (z 4), .ref (z 5), .ref (z 6), .ref (z 7), .ref (z 8), .ref (z 9), .int (nI Y.pn), .int (nI c.sp), .ref (z 10)])), (z 1, .inl (T 0, 340, .inl Y.all)), (z 2, .inl (T 0, 2040, .inl Y.H)), (z 3, .inl (T 0, 680, .inl Y.slo)), (z 4, .inl (T 0, 2, .inl Y.isv)), (z 5, .inl (T 0, 280, .inl c.tree)), (z 6, .inl (T 0, 7, .inl c.tried)), (z 7, .inl (T 0, 7, .inl c.most)), (z 8, .inl (T 0, 7, .inl c.best)), (z 9, .inl (T 0, 60, .inl Y.pad)), (z 10, .inl (T 0, 15, .inl c.rd))]
abbrev GOK (g : Nat → Int32) : Prop := (∃ S, Iv S g) ∧ rng 1 9 (g 34)
abbrev YOK (Y : YD) : Prop := GOK Y.all ∧ Y.nh ≤ 6 ∧ Y.pn ≤ 60 ∧ (∀ i, i < Y.nh → GOK (fun j => Y.H (340 * i + j))) ∧ (∀ k, k < 2 → (Y.isv k = 0 ∨ Y.isv k = 1) ∧ (Y.isv k = 1 → GOK (fun j => Y.slo (340 * k + j))))
def recd (Y : YD) : YD := (Y.all, recH Y.H Y.all Y.nh, Y.slo, Y.isv, Y.pad, recN Y.nh, Y.pn)
theorem rng_nat {x : Int32} {b : Int} (h : rng 0 b x) : ∃ k : Nat, (k : Int) ≤ b ∧ k < 2 ^ 31 ∧ x = nI k ∧ x.toNatClampNeg = k := by
  obtain ⟨e1, e2⟩ := i_natN x h.1
  have e3 := i_nat x h.1
  have := h.2
  exact ⟨x.toNatClampNeg, by omega, e2, e1, rfl⟩
theorem rng_nat1 {x : Int32} {a b : Int} (h : rng a b x) (ha : 0 ≤ a) : ∃ k : Nat, a ≤ (k : Int) ∧ (k : Int) ≤ b ∧ k < 2 ^ 31 ∧ x = nI k ∧ x.toNatClampNeg = k := by
  have h1 := h.1
  obtain ⟨e1, e2⟩ := i_natN x (by omega)
  have e3 := i_nat x (by omega)
  have := h.2
  exact ⟨x.toNatClampNeg, by omega, by omega, e2, e1, rfl⟩
def ySet (Y : YD) (t v : Int32) : Int32 × YD := if isSet t v then (Y.all (34 + t.toNatClampNeg), (upd Y.all (34 + t.toNatClampNeg) v, (recd Y).2)) else (-2, Y)
def yBegin (Y : YD) : Int32 × YD := (Y.all 28, (anewM Y.all, (recd Y).2))
def yMove (Y : YD) (x : Int32) : Int32 × YD :=
  if rng 0 11 x then (if legM Y.all x.toNatClampNeg then (mkM Y.all (Y.all 28).toNatClampNeg x.toNatClampNeg 30, (mkM Y.all (Y.all 28).toNatClampNeg x.toNatClampNeg, (recd Y).2)) else (-5, Y)) else (-1, Y)
def yPlay (Y : YD) (x : Int32) : Int32 × YD :=
  if rng 1 4 x then (if Y.all 27 = 1 then (-5, Y) else (bhM x.toNatClampNeg Y.all, (mkM Y.all (Y.all 28).toNatClampNeg (bhM x.toNatClampNeg Y.all).toNatClampNeg, (recd Y).2))) else (-2, Y)
def yHouse (Y : YD) (x w : Int32) : Int32 × YD :=
  if rng 0 11 x then (if rng 0 2 w then ((if w = 0 then Y.all x.toNatClampNeg else if w = 1 then Y.all (12 + x.toNatClampNeg) else if Y.all 35 ≤ Y.all (12 + x.toNatClampNeg) then 1 else 0), Y) else (-2, Y)) else (-1, Y)
def yLast (Y : YD) (w : Int32) : Int32 × YD := if rng 0 4 w then (if Y.all 28 = 0 then (-6, Y) else (Y.all (29 + w.toNatClampNeg), Y)) else (-2, Y)
def yMoved (Y : YD) (x : Int32) : Int32 × YD := if rng 0 ((Y.all 28).toInt - 1) x then (Y.all (40 + x.toNatClampNeg), Y) else (-1, Y)
def yWorth (Y : YD) (x : Int32) : Int32 × YD := if rng 0 4 x then (valM x.toNatClampNeg Y.all + 10000, Y) else (-2, Y)
def yBest (Y : YD) (x : Int32) : Int32 × YD := if rng 1 4 x then (bhM x.toNatClampNeg Y.all, Y) else (-2, Y)
def yWipe (Y : YD) : Int32 × YD := (nI Y.pn, (Y.all, Y.H, Y.slo, Y.isv, Y.pad, Y.nh, 0))
def scY (Y : YD) : Int32 × (Nat → Int32) := scanF Y.pn 0 0 0 Y.pad (fun _ => 0)
def yFault (Y : YD) : Int32 × YD := ((scY Y).1, Y)
def ySave (Y : YD) (x : Int32) : Int32 × YD := if rng 0 1 x then (Y.all 28, (Y.all, Y.H, lay Y.slo (340 * x.toNatClampNeg) Y.all 340, upd Y.isv x.toNatClampNeg 1, Y.pad, Y.nh, Y.pn)) else (-2, Y)
def yUndo (Y : YD) : Int32 × YD := if Y.nh = 0 then (-5, Y) else (nI (Y.nh - 1), (fun j => Y.H (340 * (Y.nh - 1) + j), Y.H, Y.slo, Y.isv, Y.pad, Y.nh - 1, Y.pn))
def yRestore (Y : YD) (x : Int32) : Int32 × YD := if rng 0 1 x then (if Y.isv x.toNatClampNeg = 0 then (-5, Y) else (Y.slo (340 * x.toNatClampNeg + 28), (fun j => Y.slo (340 * x.toNatClampNeg + j), (recd Y).2))) else (-2, Y)
theorem bh_hou {S : Int} {P : Nat → Int32} (hI : Iv S P) {d : Nat} (hd : 0 < d) (h27 : P 27 = 0) : ∃ h, h < 12 ∧ legM P h ∧ bhM d P = nI h := by
  obtain ⟨d, rfl⟩ : ∃ y, d = y + 1 := ⟨d - 1, by omega⟩
  obtain ⟨h, hh, hl⟩ := hI.2.2.2.2.2.2 h27
  obtain ⟨q, hq⟩ := scan_some (v := vbM d P) 12 h hh hl
  obtain ⟨b1, b2, b3⟩ := scan_b (v := vbM d P) (fun h hh hl => vbM_b hI d hh hl) 12 (Nat.le_refl _) q hq
  refine ⟨q.1, b1, b2, ?_⟩
  rw [bhM, if_pos h27, hq]
  rfl
theorem lay_g (f : Nat → Int32) (b : Nat) (f2 : Nat → Int32) {j : Nat} (hj : j < 340) : lay f2 0 (fun j => f (b + j)) 340 j = f (b + j) := by
  unfold lay
  rw [if_pos (by omega), Nat.sub_zero]
set_option maxHeartbeats 4000000 in
set_option maxRecDepth 100000 in
theorem y_set (l : Launch) (D : va_G) (T : Nat → ClassId) (z : Nat → Nat) (Y : YD) (c0 : SD) (hY : YOK Y) (t v : Int32) : KI (S := SD) l D T yX7_set cX7_set 4 (some .int) 6 [.ref (z 0), .int t, .int v] [(z 0, .inr (7, [.ref (z 1), .ref (z 2), .int (nI Y.nh), .ref (z 3), .ref (z 4), .ref (z 5), .ref (z 6), .ref (z 7), .ref (z 8), .ref (z 9), .int (nI Y.pn), .int (nI c0.sp), .ref (z 10)])), (z 1, .inl (T 0, 340, .inl Y.all)), (z 2, .inl (T 0, 2040, .inl Y.H)), (z 3, .inl (T 0, 680, .inl Y.slo)), (z 4, .inl (T 0, 2, .inl Y.isv)), (z 5, .inl (T 0, 280, .inl c0.tree)), (z 6, .inl (T 0, 7, .inl c0.tried)), (z 7, .inl (T 0, 7, .inl c0.most)), (z 8, .inl (T 0, 7, .inl c0.best)), (z 9, .inl (T 0, 60, .inl Y.pad)), (z 10, .inl (T 0, 15, .inl c0.rd))] (fun r _ => r = (ySet Y t v).1) (fun u => mw T z (ySet Y t v).2 u) := by
  refine KI.of (by decide +kernel) (Nat.le_of_ble_eq_true rfl) (fun p e s m below meth c A F hr hlk hW ls hl => ?_)
  have hx := F.1
  have hb := F.2.1
  have hl : lv_has ls 4 [(0, .ref (z 0)), (1, .int t), (2, .int v)] := hl
  obtain ⟨⟨⟨S0, hI⟩, h34⟩, hnh, hpn, hHi, hsl⟩ := hY
  have hI2 := hI
  obtain ⟨hJ, ⟨pl, hpl, h26⟩, h27, ⟨mk, h28, hm1, hm2⟩, h36, h37, hleg⟩ := hI2
  refine lv_iload_n hx hb dX7_set_0 rfl (lv_at hl 1 rfl) ?_
  refine lv_iload_n hx hb dX7_set_1 rfl (lv_at hl 2 rfl) ?_
  refine cRS (As := [.int t, .int v]) (rest := []) F hW hl cs526 (r_isSetting l D T t v) [] rfl rfl rfl rfl (Nat.le_of_ble_eq_true rfl) ⟨Nat.le_of_ble_eq_true rfl, Nat.le_of_ble_eq_true rfl⟩ ⟨Nat.zero_le _, Nat.zero_le _⟩ dX7_set_2 (fun r2 hr2 => ?_)
  subst hr2
  refine lv_if_ne (tgt := 11) hx hb dX7_set_5 (by decide) (fun h5 => ?_) (fun h5 => ?_)
  · have q : isSet t v := Decidable.not_not.mp (fun q => h5 (bz.mpr q))
    have q2 : rng 0 3 t := by
      rcases q with z | z | z
      · rcases z.1 with y | y <;> rw [y] <;> decide
      · rw [z.1]; decide
      · rw [z.1]; decide
    obtain ⟨k, kb, kl, ek, ck⟩ := rng_nat q2
    rw [ek] at hl
    refine lv_aload_n hx hb dX7_set_11 rfl (lv_at hl 0 rfl) ?_
    refine cVV (As := []) (rest := []) (wr := [(z 3, .inl (T 0, 680, .inl Y.slo)), (z 4, .inl (T 0, 2, .inl Y.isv)), (z 5, .inl (T 0, 280, .inl c0.tree)), (z 6, .inl (T 0, 7, .inl c0.tried)), (z 7, .inl (T 0, 7, .inl c0.most)), (z 8, .inl (T 0, 7, .inl c0.best)), (z 9, .inl (T 0, 60, .inl Y.pad)), (z 10, .inl (T 0, 15, .inl c0.rd))]) F hW hl cs535 (r_record l D T (z 0) (z 1) (z 2) (z 3) (z 4) (z 5) (z 6) (z 7) (z 8) (z 9) (z 10) (nI Y.pn) (nI c0.sp) Y.all Y.H (n := Y.nh) (by omega)) [0, 1, 2] [3, 4, 5, 6, 7, 8, 9, 10] rfl rfl rfl rfl (by decide) 0 7 rfl rfl rfl rfl rfl (Nat.le_of_ble_eq_true rfl) ⟨Nat.le_of_ble_eq_true rfl, Nat.le_of_ble_eq_true rfl⟩ ⟨Nat.zero_le _, Nat.zero_le _⟩ dX7_set_12 (fun u12 H locs hr12 hW => ?_)
    have hW := Wd.ord hW (ws' := [(z 0, .inr (7, [.ref (z 1), .ref (z 2), .int (nI (recN Y.nh)), .ref (z 3), .ref (z 4), .ref (z 5), .ref (z 6), .ref (z 7), .ref (z 8), .ref (z 9), .int (nI Y.pn), .int (nI c0.sp), .ref (z 10)])), (z 1, .inl (T 0, 340, .inl Y.all)), (z 2, .inl (T 0, 2040, .inl (recH Y.H Y.all Y.nh))), (z 3, .inl (T 0, 680, .inl Y.slo)), (z 4, .inl (T 0, 2, .inl Y.isv)), (z 5, .inl (T 0, 280, .inl c0.tree)), (z 6, .inl (T 0, 7, .inl c0.tried)), (z 7, .inl (T 0, 7, .inl c0.most)), (z 8, .inl (T 0, 7, .inl c0.best)), (z 9, .inl (T 0, 60, .inl Y.pad)), (z 10, .inl (T 0, 15, .inl c0.rd))]) [8, 9, 10, 0, 1, 2, 3, 4, 5, 6, 7] rfl rfl
    refine lv_aload_n hx hb dX7_set_15 rfl (lv_at hl 0 rfl) ?_
    refine gf482 F hW 0 rfl rfl dX7_set_16 ?_
    refine lv_bipush (v := nI 34) hx hb dX7_set_19 (by decide) ?_
    refine lv_iload_n hx hb dX7_set_21 rfl (lv_at hl 1 rfl) ?_
    refine iaddE (z := nI (34 + k)) hx hb dX7_set_22 (nI_add _ _) ?_
    refine ald F hW 1 rfl (x := Y.all (34 + k)) (34 + k) rfl (by omega) (by decide) rfl dX7_set_23 ?_
    refine lv_istore_n (lv' := [(3, .int (Y.all (34 + k))), (0, .ref (z 0)), (1, .int (nI k)), (2, .int v)]) hx hb dX7_set_24 rfl hl (by decide) rfl (fun ls hl => ?_)
    refine lv_aload_n hx hb dX7_set_25 rfl (lv_at hl 1 rfl) ?_
    refine gf482 F hW 0 rfl rfl dX7_set_26 ?_
    refine lv_bipush (v := nI 34) hx hb dX7_set_29 (by decide) ?_
    refine lv_iload_n hx hb dX7_set_31 rfl (lv_at hl 2 rfl) ?_
    refine iaddE (z := nI (34 + k)) hx hb dX7_set_32 (nI_add _ _) ?_
    refine lv_iload_n hx hb dX7_set_33 rfl (lv_at hl 3 rfl) ?_
    refine ast (ws' := [(z 0, .inr (7, [.ref (z 1), .ref (z 2), .int (nI (recN Y.nh)), .ref (z 3), .ref (z 4), .ref (z 5), .ref (z 6), .ref (z 7), .ref (z 8), .ref (z 9), .int (nI Y.pn), .int (nI c0.sp), .ref (z 10)])), (z 1, .inl (T 0, 340, .inl (upd Y.all (34 + k) v))), (z 2, .inl (T 0, 2040, .inl (recH Y.H Y.all Y.nh))), (z 3, .inl (T 0, 680, .inl Y.slo)), (z 4, .inl (T 0, 2, .inl Y.isv)), (z 5, .inl (T 0, 280, .inl c0.tree)), (z 6, .inl (T 0, 7, .inl c0.tried)), (z 7, .inl (T 0, 7, .inl c0.most)), (z 8, .inl (T 0, 7, .inl c0.best)), (z 9, .inl (T 0, 60, .inl Y.pad)), (z 10, .inl (T 0, 15, .inl c0.rd))]) F hW 1 (upd Y.all (34 + k) v) rfl (34 + k) rfl (by omega) (by decide) (fun _ _ => rfl) rfl dX7_set_34 (fun H locs hW => ?_)
    refine lv_iload_n hx hb dX7_set_35 rfl (lv_at hl 0 rfl) ?_
    have hy : ySet Y t v = (Y.all (34 + k), (upd Y.all (34 + k) v, (recd Y).2)) := by unfold ySet; rw [if_pos q, ck]
    exact retI F hr hlk rfl hW (⟨c0.tree, c0.tried, c0.most, c0.best, c0.rd, c0.sp⟩ : SD) (congrArg Prod.fst hy).symm (congrArg (fun q => mw T z q.2 (⟨c0.tree, c0.tried, c0.most, c0.best, c0.rd, c0.sp⟩ : SD)) hy).symm dX7_set_36
  · refine lv_bipush (v := -2) hx hb dX7_set_8 (by decide) ?_
    have hy : ySet Y t v = (-2, Y) := if_neg (bz.mp h5)
    exact retI F hr hlk rfl hW (⟨c0.tree, c0.tried, c0.most, c0.best, c0.rd, c0.sp⟩ : SD) (congrArg Prod.fst hy).symm (congrArg (fun q => mw T z q.2 (⟨c0.tree, c0.tried, c0.most, c0.best, c0.rd, c0.sp⟩ : SD)) hy).symm dX7_set_10
set_option maxHeartbeats 4000000 in
set_option maxRecDepth 100000 in
theorem y_begin (l : Launch) (D : va_G) (T : Nat → ClassId) (z : Nat → Nat) (Y : YD) (c0 : SD) (hY : YOK Y)  : KI (S := SD) l D T yX7_begin cX7_begin 2 (some .int) 6 [.ref (z 0)] [(z 0, .inr (7, [.ref (z 1), .ref (z 2), .int (nI Y.nh), .ref (z 3), .ref (z 4), .ref (z 5), .ref (z 6), .ref (z 7), .ref (z 8), .ref (z 9), .int (nI Y.pn), .int (nI c0.sp), .ref (z 10)])), (z 1, .inl (T 0, 340, .inl Y.all)), (z 2, .inl (T 0, 2040, .inl Y.H)), (z 3, .inl (T 0, 680, .inl Y.slo)), (z 4, .inl (T 0, 2, .inl Y.isv)), (z 5, .inl (T 0, 280, .inl c0.tree)), (z 6, .inl (T 0, 7, .inl c0.tried)), (z 7, .inl (T 0, 7, .inl c0.most)), (z 8, .inl (T 0, 7, .inl c0.best)), (z 9, .inl (T 0, 60, .inl Y.pad)), (z 10, .inl (T 0, 15, .inl c0.rd))] (fun r _ => r = (yBegin Y).1) (fun u => mw T z (yBegin Y).2 u) := by
  refine KI.of (by decide +kernel) (Nat.le_of_ble_eq_true rfl) (fun p e s m below meth c A F hr hlk hW ls hl => ?_)
  have hx := F.1
  have hb := F.2.1
  have hl : lv_has ls 2 [(0, .ref (z 0))] := hl
  obtain ⟨⟨⟨S0, hI⟩, h34⟩, hnh, hpn, hHi, hsl⟩ := hY
  have hI2 := hI
  obtain ⟨hJ, ⟨pl, hpl, h26⟩, h27, ⟨mk, h28, hm1, hm2⟩, h36, h37, hleg⟩ := hI2
  refine lv_aload_n hx hb dX7_begin_0 rfl (lv_at hl 0 rfl) ?_
  refine cVV (As := []) (rest := []) (wr := [(z 3, .inl (T 0, 680, .inl Y.slo)), (z 4, .inl (T 0, 2, .inl Y.isv)), (z 5, .inl (T 0, 280, .inl c0.tree)), (z 6, .inl (T 0, 7, .inl c0.tried)), (z 7, .inl (T 0, 7, .inl c0.most)), (z 8, .inl (T 0, 7, .inl c0.best)), (z 9, .inl (T 0, 60, .inl Y.pad)), (z 10, .inl (T 0, 15, .inl c0.rd))]) F hW hl cs535 (r_record l D T (z 0) (z 1) (z 2) (z 3) (z 4) (z 5) (z 6) (z 7) (z 8) (z 9) (z 10) (nI Y.pn) (nI c0.sp) Y.all Y.H (n := Y.nh) (by omega)) [0, 1, 2] [3, 4, 5, 6, 7, 8, 9, 10] rfl rfl rfl rfl (by decide) 0 7 rfl rfl rfl rfl rfl (Nat.le_of_ble_eq_true rfl) ⟨Nat.le_of_ble_eq_true rfl, Nat.le_of_ble_eq_true rfl⟩ ⟨Nat.zero_le _, Nat.zero_le _⟩ dX7_begin_1 (fun u1 H locs hr1 hW => ?_)
  have hW := Wd.ord hW (ws' := [(z 0, .inr (7, [.ref (z 1), .ref (z 2), .int (nI (recN Y.nh)), .ref (z 3), .ref (z 4), .ref (z 5), .ref (z 6), .ref (z 7), .ref (z 8), .ref (z 9), .int (nI Y.pn), .int (nI c0.sp), .ref (z 10)])), (z 1, .inl (T 0, 340, .inl Y.all)), (z 2, .inl (T 0, 2040, .inl (recH Y.H Y.all Y.nh))), (z 3, .inl (T 0, 680, .inl Y.slo)), (z 4, .inl (T 0, 2, .inl Y.isv)), (z 5, .inl (T 0, 280, .inl c0.tree)), (z 6, .inl (T 0, 7, .inl c0.tried)), (z 7, .inl (T 0, 7, .inl c0.most)), (z 8, .inl (T 0, 7, .inl c0.best)), (z 9, .inl (T 0, 60, .inl Y.pad)), (z 10, .inl (T 0, 15, .inl c0.rd))]) [8, 9, 10, 0, 1, 2, 3, 4, 5, 6, 7] rfl rfl
  refine lv_aload_n hx hb dX7_begin_4 rfl (lv_at hl 0 rfl) ?_
  refine gf482 F hW 0 rfl rfl dX7_begin_5 ?_
  refine lv_bipush (v := nI 28) hx hb dX7_begin_8 (by decide) ?_
  refine ald F hW 1 rfl (x := Y.all 28) 28 rfl (by omega) (by decide) rfl dX7_begin_10 ?_
  refine lv_istore_n (lv' := [(1, .int (Y.all 28)), (0, .ref (z 0))]) hx hb dX7_begin_11 rfl hl (by decide) rfl (fun ls hl => ?_)
  refine lv_aload_n hx hb dX7_begin_12 rfl (lv_at hl 1 rfl) ?_
  refine cVV (As := []) (rest := []) (wr := [(z 2, .inl (T 0, 2040, .inl (recH Y.H Y.all Y.nh))), (z 3, .inl (T 0, 680, .inl Y.slo)), (z 4, .inl (T 0, 2, .inl Y.isv)), (z 5, .inl (T 0, 280, .inl c0.tree)), (z 6, .inl (T 0, 7, .inl c0.tried)), (z 7, .inl (T 0, 7, .inl c0.most)), (z 8, .inl (T 0, 7, .inl c0.best)), (z 9, .inl (T 0, 60, .inl Y.pad)), (z 10, .inl (T 0, 15, .inl c0.rd))]) F hW hl cs474 (r_anew l D T (z 0) (z 1) (z 2) (z 3) (z 4) (z 5) (z 6) (z 7) (z 8) (z 9) (z 10) (nI (recN Y.nh)) (nI Y.pn) (nI c0.sp) Y.all) [0, 1] [2, 3, 4, 5, 6, 7, 8, 9, 10] rfl rfl rfl rfl (by decide) 0 7 rfl rfl rfl rfl rfl (Nat.le_of_ble_eq_true rfl) ⟨Nat.le_of_ble_eq_true rfl, Nat.le_of_ble_eq_true rfl⟩ ⟨Nat.zero_le _, Nat.zero_le _⟩ dX7_begin_13 (fun u13 H locs hr13 hW => ?_)
  have hW := Wd.ord hW (ws' := [(z 0, .inr (7, [.ref (z 1), .ref (z 2), .int (nI (recN Y.nh)), .ref (z 3), .ref (z 4), .ref (z 5), .ref (z 6), .ref (z 7), .ref (z 8), .ref (z 9), .int (nI Y.pn), .int (nI c0.sp), .ref (z 10)])), (z 1, .inl (T 0, 340, .inl (anewM Y.all))), (z 2, .inl (T 0, 2040, .inl (recH Y.H Y.all Y.nh))), (z 3, .inl (T 0, 680, .inl Y.slo)), (z 4, .inl (T 0, 2, .inl Y.isv)), (z 5, .inl (T 0, 280, .inl c0.tree)), (z 6, .inl (T 0, 7, .inl c0.tried)), (z 7, .inl (T 0, 7, .inl c0.most)), (z 8, .inl (T 0, 7, .inl c0.best)), (z 9, .inl (T 0, 60, .inl Y.pad)), (z 10, .inl (T 0, 15, .inl c0.rd))]) [9, 10, 0, 1, 2, 3, 4, 5, 6, 7, 8] rfl rfl
  refine lv_iload_n hx hb dX7_begin_16 rfl (lv_at hl 0 rfl) ?_
  have hy : yBegin Y = (Y.all 28, (anewM Y.all, (recd Y).2)) := rfl
  exact retI F hr hlk rfl hW (⟨c0.tree, c0.tried, c0.most, c0.best, c0.rd, c0.sp⟩ : SD) (congrArg Prod.fst hy).symm (congrArg (fun q => mw T z q.2 (⟨c0.tree, c0.tried, c0.most, c0.best, c0.rd, c0.sp⟩ : SD)) hy).symm dX7_begin_17
set_option maxHeartbeats 4000000 in
set_option maxRecDepth 100000 in
theorem y_move (l : Launch) (D : va_G) (T : Nat → ClassId) (z : Nat → Nat) (Y : YD) (c0 : SD) (hY : YOK Y) (x : Int32) : KI (S := SD) l D T yX7_move cX7_move 2 (some .int) 6 [.ref (z 0), .int x] [(z 0, .inr (7, [.ref (z 1), .ref (z 2), .int (nI Y.nh), .ref (z 3), .ref (z 4), .ref (z 5), .ref (z 6), .ref (z 7), .ref (z 8), .ref (z 9), .int (nI Y.pn), .int (nI c0.sp), .ref (z 10)])), (z 1, .inl (T 0, 340, .inl Y.all)), (z 2, .inl (T 0, 2040, .inl Y.H)), (z 3, .inl (T 0, 680, .inl Y.slo)), (z 4, .inl (T 0, 2, .inl Y.isv)), (z 5, .inl (T 0, 280, .inl c0.tree)), (z 6, .inl (T 0, 7, .inl c0.tried)), (z 7, .inl (T 0, 7, .inl c0.most)), (z 8, .inl (T 0, 7, .inl c0.best)), (z 9, .inl (T 0, 60, .inl Y.pad)), (z 10, .inl (T 0, 15, .inl c0.rd))] (fun r _ => r = (yMove Y x).1) (fun u => mw T z (yMove Y x).2 u) := by
  refine KI.of (by decide +kernel) (Nat.le_of_ble_eq_true rfl) (fun p e s m below meth c A F hr hlk hW ls hl => ?_)
  have hx := F.1
  have hb := F.2.1
  have hl : lv_has ls 2 [(0, .ref (z 0)), (1, .int x)] := hl
  obtain ⟨⟨⟨S0, hI⟩, h34⟩, hnh, hpn, hHi, hsl⟩ := hY
  have hI2 := hI
  obtain ⟨hJ, ⟨pl, hpl, h26⟩, h27, ⟨mk, h28, hm1, hm2⟩, h36, h37, hleg⟩ := hI2
  refine lv_iload_n hx hb dX7_move_0 rfl (lv_at hl 1 rfl) ?_
  refine cRS (As := [.int x]) (rest := []) F hW hl cs547 (r_isHouse l D T x) [] rfl rfl rfl rfl (Nat.le_of_ble_eq_true rfl) ⟨Nat.le_of_ble_eq_true rfl, Nat.le_of_ble_eq_true rfl⟩ ⟨Nat.zero_le _, Nat.zero_le _⟩ dX7_move_1 (fun r1 hr1 => ?_)
  subst hr1
  refine lv_if_ne (tgt := 9) hx hb dX7_move_4 (by decide) (fun h4 => ?_) (fun h4 => ?_)
  · have q : rng 0 11 x := Decidable.not_not.mp (fun q => h4 (bz.mpr q))
    obtain ⟨k, kb, kl, ek, ck⟩ := rng_nat q
    rw [ek] at hl
    have hW := Wd.arr hW 1 (put Y.all 0 Y.all) rfl (fun j _ => put_g Y.all j) (ws' := [(z 0, .inr (7, [.ref (z 1), .ref (z 2), .int (nI Y.nh), .ref (z 3), .ref (z 4), .ref (z 5), .ref (z 6), .ref (z 7), .ref (z 8), .ref (z 9), .int (nI Y.pn), .int (nI c0.sp), .ref (z 10)])), (z 1, .inl (T 0, 340, .inl (put Y.all 0 Y.all))), (z 2, .inl (T 0, 2040, .inl Y.H)), (z 3, .inl (T 0, 680, .inl Y.slo)), (z 4, .inl (T 0, 2, .inl Y.isv)), (z 5, .inl (T 0, 280, .inl c0.tree)), (z 6, .inl (T 0, 7, .inl c0.tried)), (z 7, .inl (T 0, 7, .inl c0.most)), (z 8, .inl (T 0, 7, .inl c0.best)), (z 9, .inl (T 0, 60, .inl Y.pad)), (z 10, .inl (T 0, 15, .inl c0.rd))]) rfl
    refine lv_aload_n hx hb dX7_move_9 rfl (lv_at hl 0 rfl) ?_
    refine gf482 F hW 0 rfl rfl dX7_move_10 ?_
    refine lv_iconst (v := nI 0) hx hb dX7_move_13 (by decide) ?_
    refine lv_iload_n hx hb dX7_move_14 rfl (lv_at hl 1 rfl) ?_
    refine cRS (As := [.ref (z 1), .int (nI 0), .int (nI k)]) (rest := []) F hW hl cs551 (r_canMove l D T (z 1) 340 0 (by omega) (by omega) Y.all Y.all (h := k) (by omega)) [1] rfl rfl rfl rfl (Nat.le_of_ble_eq_true rfl) ⟨Nat.le_of_ble_eq_true rfl, Nat.le_of_ble_eq_true rfl⟩ ⟨Nat.zero_le _, Nat.zero_le _⟩ dX7_move_15 (fun r15 hr15 => ?_)
    subst hr15
    refine lv_if_ne (tgt := 24) hx hb dX7_move_18 (by decide) (fun h18 => ?_) (fun h18 => ?_)
    · have q2 : legM Y.all k := Decidable.not_not.mp (fun q => h18 (bz.mpr q))
      have hW := Wd.arr hW 1 Y.all rfl (fun j _ => (put_g Y.all j).symm) (ws' := [(z 0, .inr (7, [.ref (z 1), .ref (z 2), .int (nI Y.nh), .ref (z 3), .ref (z 4), .ref (z 5), .ref (z 6), .ref (z 7), .ref (z 8), .ref (z 9), .int (nI Y.pn), .int (nI c0.sp), .ref (z 10)])), (z 1, .inl (T 0, 340, .inl Y.all)), (z 2, .inl (T 0, 2040, .inl Y.H)), (z 3, .inl (T 0, 680, .inl Y.slo)), (z 4, .inl (T 0, 2, .inl Y.isv)), (z 5, .inl (T 0, 280, .inl c0.tree)), (z 6, .inl (T 0, 7, .inl c0.tried)), (z 7, .inl (T 0, 7, .inl c0.most)), (z 8, .inl (T 0, 7, .inl c0.best)), (z 9, .inl (T 0, 60, .inl Y.pad)), (z 10, .inl (T 0, 15, .inl c0.rd))]) rfl
      have ek : (Y.all 28).toNatClampNeg = mk := by rw [h28, nI_clamp (by omega)]
      refine lv_aload_n hx hb dX7_move_24 rfl (lv_at hl 0 rfl) ?_
      refine cVV (As := []) (rest := []) (wr := [(z 3, .inl (T 0, 680, .inl Y.slo)), (z 4, .inl (T 0, 2, .inl Y.isv)), (z 5, .inl (T 0, 280, .inl c0.tree)), (z 6, .inl (T 0, 7, .inl c0.tried)), (z 7, .inl (T 0, 7, .inl c0.most)), (z 8, .inl (T 0, 7, .inl c0.best)), (z 9, .inl (T 0, 60, .inl Y.pad)), (z 10, .inl (T 0, 15, .inl c0.rd))]) F hW hl cs535 (r_record l D T (z 0) (z 1) (z 2) (z 3) (z 4) (z 5) (z 6) (z 7) (z 8) (z 9) (z 10) (nI Y.pn) (nI c0.sp) Y.all Y.H (n := Y.nh) (by omega)) [0, 1, 2] [3, 4, 5, 6, 7, 8, 9, 10] rfl rfl rfl rfl (by decide) 0 7 rfl rfl rfl rfl rfl (Nat.le_of_ble_eq_true rfl) ⟨Nat.le_of_ble_eq_true rfl, Nat.le_of_ble_eq_true rfl⟩ ⟨Nat.zero_le _, Nat.zero_le _⟩ dX7_move_25 (fun u25 H locs hr25 hW => ?_)
      have hW := Wd.ord hW (ws' := [(z 0, .inr (7, [.ref (z 1), .ref (z 2), .int (nI (recN Y.nh)), .ref (z 3), .ref (z 4), .ref (z 5), .ref (z 6), .ref (z 7), .ref (z 8), .ref (z 9), .int (nI Y.pn), .int (nI c0.sp), .ref (z 10)])), (z 1, .inl (T 0, 340, .inl Y.all)), (z 2, .inl (T 0, 2040, .inl (recH Y.H Y.all Y.nh))), (z 3, .inl (T 0, 680, .inl Y.slo)), (z 4, .inl (T 0, 2, .inl Y.isv)), (z 5, .inl (T 0, 280, .inl c0.tree)), (z 6, .inl (T 0, 7, .inl c0.tried)), (z 7, .inl (T 0, 7, .inl c0.most)), (z 8, .inl (T 0, 7, .inl c0.best)), (z 9, .inl (T 0, 60, .inl Y.pad)), (z 10, .inl (T 0, 15, .inl c0.rd))]) [8, 9, 10, 0, 1, 2, 3, 4, 5, 6, 7] rfl rfl
      refine lv_aload_n hx hb dX7_move_28 rfl (lv_at hl 0 rfl) ?_
      refine lv_iload_n hx hb dX7_move_29 rfl (lv_at hl 1 rfl) ?_
      refine cVV (As := [.int (nI k)]) (rest := []) (wr := [(z 2, .inl (T 0, 2040, .inl (recH Y.H Y.all Y.nh))), (z 3, .inl (T 0, 680, .inl Y.slo)), (z 4, .inl (T 0, 2, .inl Y.isv)), (z 5, .inl (T 0, 280, .inl c0.tree)), (z 6, .inl (T 0, 7, .inl c0.tried)), (z 7, .inl (T 0, 7, .inl c0.most)), (z 8, .inl (T 0, 7, .inl c0.best)), (z 9, .inl (T 0, 60, .inl Y.pad)), (z 10, .inl (T 0, 15, .inl c0.rd))]) F hW hl cs557 (r_makes l D T (z 0) (z 1) (z 2) (z 3) (z 4) (z 5) (z 6) (z 7) (z 8) (z 9) (z 10) (nI (recN Y.nh)) (nI Y.pn) (nI c0.sp) Y.all (h := k) (mk := mk) (pl := pl) (by omega) hpl h26 h28 (hm2 q2.1) h36 h37) [0, 1] [2, 3, 4, 5, 6, 7, 8, 9, 10] rfl rfl rfl rfl (by decide) 0 7 rfl rfl rfl rfl rfl (Nat.le_of_ble_eq_true rfl) ⟨Nat.le_of_ble_eq_true rfl, Nat.le_of_ble_eq_true rfl⟩ ⟨Nat.zero_le _, Nat.zero_le _⟩ dX7_move_30 (fun u30 H locs hr30 hW => ?_)
      have hW := Wd.ord hW (ws' := [(z 0, .inr (7, [.ref (z 1), .ref (z 2), .int (nI (recN Y.nh)), .ref (z 3), .ref (z 4), .ref (z 5), .ref (z 6), .ref (z 7), .ref (z 8), .ref (z 9), .int (nI Y.pn), .int (nI c0.sp), .ref (z 10)])), (z 1, .inl (T 0, 340, .inl (mkM Y.all mk k))), (z 2, .inl (T 0, 2040, .inl (recH Y.H Y.all Y.nh))), (z 3, .inl (T 0, 680, .inl Y.slo)), (z 4, .inl (T 0, 2, .inl Y.isv)), (z 5, .inl (T 0, 280, .inl c0.tree)), (z 6, .inl (T 0, 7, .inl c0.tried)), (z 7, .inl (T 0, 7, .inl c0.most)), (z 8, .inl (T 0, 7, .inl c0.best)), (z 9, .inl (T 0, 60, .inl Y.pad)), (z 10, .inl (T 0, 15, .inl c0.rd))]) [9, 10, 0, 1, 2, 3, 4, 5, 6, 7, 8] rfl rfl
      refine lv_aload_n hx hb dX7_move_33 rfl (lv_at hl 0 rfl) ?_
      refine gf482 F hW 0 rfl rfl dX7_move_34 ?_
      refine lv_bipush (v := nI 30) hx hb dX7_move_37 (by decide) ?_
      refine ald F hW 1 rfl (x := (mkM Y.all mk k) 30) 30 rfl (by omega) (by decide) rfl dX7_move_39 ?_
      have hy : yMove Y x = (mkM Y.all mk k 30, (mkM Y.all mk k, (recd Y).2)) := by unfold yMove; rw [if_pos q, ck, if_pos q2, ek]
      exact retI F hr hlk rfl hW (⟨c0.tree, c0.tried, c0.most, c0.best, c0.rd, c0.sp⟩ : SD) (congrArg Prod.fst hy).symm (congrArg (fun q => mw T z q.2 (⟨c0.tree, c0.tried, c0.most, c0.best, c0.rd, c0.sp⟩ : SD)) hy).symm dX7_move_40
    · have q2 : ¬ legM Y.all k := bz.mp h18
      have hW := Wd.arr hW 1 Y.all rfl (fun j _ => (put_g Y.all j).symm) (ws' := [(z 0, .inr (7, [.ref (z 1), .ref (z 2), .int (nI Y.nh), .ref (z 3), .ref (z 4), .ref (z 5), .ref (z 6), .ref (z 7), .ref (z 8), .ref (z 9), .int (nI Y.pn), .int (nI c0.sp), .ref (z 10)])), (z 1, .inl (T 0, 340, .inl Y.all)), (z 2, .inl (T 0, 2040, .inl Y.H)), (z 3, .inl (T 0, 680, .inl Y.slo)), (z 4, .inl (T 0, 2, .inl Y.isv)), (z 5, .inl (T 0, 280, .inl c0.tree)), (z 6, .inl (T 0, 7, .inl c0.tried)), (z 7, .inl (T 0, 7, .inl c0.most)), (z 8, .inl (T 0, 7, .inl c0.best)), (z 9, .inl (T 0, 60, .inl Y.pad)), (z 10, .inl (T 0, 15, .inl c0.rd))]) rfl
      refine lv_bipush (v := -5) hx hb dX7_move_21 (by decide) ?_
      have hy : yMove Y x = (-5, Y) := by unfold yMove; rw [if_pos q, ck, if_neg q2]
      exact retI F hr hlk rfl hW (⟨c0.tree, c0.tried, c0.most, c0.best, c0.rd, c0.sp⟩ : SD) (congrArg Prod.fst hy).symm (congrArg (fun q => mw T z q.2 (⟨c0.tree, c0.tried, c0.most, c0.best, c0.rd, c0.sp⟩ : SD)) hy).symm dX7_move_23
  · refine lv_iconst (v := -1) hx hb dX7_move_7 (by decide) ?_
    have hy : yMove Y x = (-1, Y) := if_neg (bz.mp h4)
    exact retI F hr hlk rfl hW (⟨c0.tree, c0.tried, c0.most, c0.best, c0.rd, c0.sp⟩ : SD) (congrArg Prod.fst hy).symm (congrArg (fun q => mw T z q.2 (⟨c0.tree, c0.tried, c0.most, c0.best, c0.rd, c0.sp⟩ : SD)) hy).symm dX7_move_8
set_option maxHeartbeats 4000000 in
set_option maxRecDepth 100000 in
theorem y_play (l : Launch) (D : va_G) (T : Nat → ClassId) (z : Nat → Nat) (Y : YD) (c0 : SD) (hY : YOK Y) (x : Int32) : KI (S := SD) l D T yX7_play cX7_play 3 (some .int) 6 [.ref (z 0), .int x] [(z 0, .inr (7, [.ref (z 1), .ref (z 2), .int (nI Y.nh), .ref (z 3), .ref (z 4), .ref (z 5), .ref (z 6), .ref (z 7), .ref (z 8), .ref (z 9), .int (nI Y.pn), .int (nI c0.sp), .ref (z 10)])), (z 1, .inl (T 0, 340, .inl Y.all)), (z 2, .inl (T 0, 2040, .inl Y.H)), (z 3, .inl (T 0, 680, .inl Y.slo)), (z 4, .inl (T 0, 2, .inl Y.isv)), (z 5, .inl (T 0, 280, .inl c0.tree)), (z 6, .inl (T 0, 7, .inl c0.tried)), (z 7, .inl (T 0, 7, .inl c0.most)), (z 8, .inl (T 0, 7, .inl c0.best)), (z 9, .inl (T 0, 60, .inl Y.pad)), (z 10, .inl (T 0, 15, .inl c0.rd))] (fun r _ => r = (yPlay Y x).1) (fun u => mw T z (yPlay Y x).2 u) := by
  refine KI.of (by decide +kernel) (Nat.le_of_ble_eq_true rfl) (fun p e s m below meth c A F hr hlk hW ls hl => ?_)
  have hx := F.1
  have hb := F.2.1
  have hl : lv_has ls 3 [(0, .ref (z 0)), (1, .int x)] := hl
  obtain ⟨⟨⟨S0, hI⟩, h34⟩, hnh, hpn, hHi, hsl⟩ := hY
  have hI2 := hI
  obtain ⟨hJ, ⟨pl, hpl, h26⟩, h27, ⟨mk, h28, hm1, hm2⟩, h36, h37, hleg⟩ := hI2
  refine lv_iload_n hx hb dX7_play_0 rfl (lv_at hl 1 rfl) ?_
  refine lv_i2l (v := x.toInt64) hx hb dX7_play_1 rfl ?_
  refine lv_lconst (v := 1) hx hb dX7_play_2 (by decide) ?_
  refine lv_ldc2 hx hb F.2.2.2.1 (F.2.2.2.2 _ m586) dX7_play_3 ?_
  refine cRS (As := [.long x.toInt64, .long 1, .long 4]) (rest := []) F hW hl cs530 (r_in l D T x.toInt64 1 4) [] rfl rfl rfl rfl (Nat.le_of_ble_eq_true rfl) ⟨Nat.le_of_ble_eq_true rfl, Nat.le_of_ble_eq_true rfl⟩ ⟨Nat.zero_le _, Nat.zero_le _⟩ dX7_play_6 (fun r6 hr6 => ?_)
  subst hr6
  refine lv_if_ne (tgt := 15) hx hb dX7_play_9 (by decide) (fun h9 => ?_) (fun h9 => ?_)
  · have q : rng 1 4 x := Decidable.not_not.mp (fun q => h9 ((in_if (a := 1) (b := 4) (la := 1) (lb := 4) x (by decide) (by decide)).trans (if_neg q)))
    obtain ⟨k, ka, kb, kl, ek, ck⟩ := rng_nat1 q (by decide)
    rw [ek] at hl
    refine lv_aload_n hx hb dX7_play_15 rfl (lv_at hl 0 rfl) ?_
    refine gf482 F hW 0 rfl rfl dX7_play_16 ?_
    refine lv_bipush (v := nI 27) hx hb dX7_play_19 (by decide) ?_
    refine ald F hW 1 rfl (x := Y.all 27) 27 rfl (by omega) (by decide) rfl dX7_play_21 ?_
    refine lv_iconst (v := nI 1) hx hb dX7_play_22 (by decide) ?_
    refine lv_icmp_ne (tgt := 29) hx hb dX7_play_23 (by decide) (fun h23 => ?_) (fun h23 => ?_)
    · have z27 : Y.all 27 = 0 := h27.resolve_right h23
      obtain ⟨b, hb12, hbl, hbe⟩ := bh_hou hI (d := k) (by omega) z27
      refine lv_aload_n hx hb dX7_play_29 rfl (lv_at hl 0 rfl) ?_
      refine cVV (As := []) (rest := []) (wr := [(z 3, .inl (T 0, 680, .inl Y.slo)), (z 4, .inl (T 0, 2, .inl Y.isv)), (z 5, .inl (T 0, 280, .inl c0.tree)), (z 6, .inl (T 0, 7, .inl c0.tried)), (z 7, .inl (T 0, 7, .inl c0.most)), (z 8, .inl (T 0, 7, .inl c0.best)), (z 9, .inl (T 0, 60, .inl Y.pad)), (z 10, .inl (T 0, 15, .inl c0.rd))]) F hW hl cs535 (r_record l D T (z 0) (z 1) (z 2) (z 3) (z 4) (z 5) (z 6) (z 7) (z 8) (z 9) (z 10) (nI Y.pn) (nI c0.sp) Y.all Y.H (n := Y.nh) (by omega)) [0, 1, 2] [3, 4, 5, 6, 7, 8, 9, 10] rfl rfl rfl rfl (by decide) 0 7 rfl rfl rfl rfl rfl (Nat.le_of_ble_eq_true rfl) ⟨Nat.le_of_ble_eq_true rfl, Nat.le_of_ble_eq_true rfl⟩ ⟨Nat.zero_le _, Nat.zero_le _⟩ dX7_play_30 (fun u30 H locs hr30 hW => ?_)
      have hW := Wd.ord hW (ws' := [(z 0, .inr (7, [.ref (z 1), .ref (z 2), .int (nI (recN Y.nh)), .ref (z 3), .ref (z 4), .ref (z 5), .ref (z 6), .ref (z 7), .ref (z 8), .ref (z 9), .int (nI Y.pn), .int (nI c0.sp), .ref (z 10)])), (z 1, .inl (T 0, 340, .inl Y.all)), (z 2, .inl (T 0, 2040, .inl (recH Y.H Y.all Y.nh))), (z 3, .inl (T 0, 680, .inl Y.slo)), (z 4, .inl (T 0, 2, .inl Y.isv)), (z 5, .inl (T 0, 280, .inl c0.tree)), (z 6, .inl (T 0, 7, .inl c0.tried)), (z 7, .inl (T 0, 7, .inl c0.most)), (z 8, .inl (T 0, 7, .inl c0.best)), (z 9, .inl (T 0, 60, .inl Y.pad)), (z 10, .inl (T 0, 15, .inl c0.rd))]) [8, 9, 10, 0, 1, 2, 3, 4, 5, 6, 7] rfl rfl
      have hW := Wd.arr hW 1 (put Y.all 0 Y.all) rfl (fun j _ => put_g Y.all j) (ws' := [(z 0, .inr (7, [.ref (z 1), .ref (z 2), .int (nI (recN Y.nh)), .ref (z 3), .ref (z 4), .ref (z 5), .ref (z 6), .ref (z 7), .ref (z 8), .ref (z 9), .int (nI Y.pn), .int (nI c0.sp), .ref (z 10)])), (z 1, .inl (T 0, 340, .inl (put Y.all 0 Y.all))), (z 2, .inl (T 0, 2040, .inl (recH Y.H Y.all Y.nh))), (z 3, .inl (T 0, 680, .inl Y.slo)), (z 4, .inl (T 0, 2, .inl Y.isv)), (z 5, .inl (T 0, 280, .inl c0.tree)), (z 6, .inl (T 0, 7, .inl c0.tried)), (z 7, .inl (T 0, 7, .inl c0.most)), (z 8, .inl (T 0, 7, .inl c0.best)), (z 9, .inl (T 0, 60, .inl Y.pad)), (z 10, .inl (T 0, 15, .inl c0.rd))]) rfl
      refine lv_aload_n hx hb dX7_play_33 rfl (lv_at hl 0 rfl) ?_
      refine lv_aload_n hx hb dX7_play_34 rfl (lv_at hl 0 rfl) ?_
      refine gf482 F hW 0 rfl rfl dX7_play_35 ?_
      refine lv_iconst (v := nI 0) hx hb dX7_play_38 (by decide) ?_
      refine lv_iconst (v := nI 0) hx hb dX7_play_39 (by decide) ?_
      refine cVV (As := [.ref (z 1), .int (nI 0), .int (nI 0)]) (rest := []) (wr := [(z 2, .inl (T 0, 2040, .inl (recH Y.H Y.all Y.nh))), (z 3, .inl (T 0, 680, .inl Y.slo)), (z 4, .inl (T 0, 2, .inl Y.isv)), (z 6, .inl (T 0, 7, .inl c0.tried)), (z 7, .inl (T 0, 7, .inl c0.most)), (z 8, .inl (T 0, 7, .inl c0.best)), (z 9, .inl (T 0, 60, .inl Y.pad)), (z 10, .inl (T 0, 15, .inl c0.rd))]) F hW hl cs587 (r_copyA l D T (z 0) (z 1) (z 2) (z 3) (z 4) (z 5) (z 6) (z 7) (z 8) (z 9) (z 10) (nI (recN Y.nh)) (nI Y.pn) (nI c0.sp) c0.tree Y.all Y.all) [0, 1, 5] [2, 3, 4, 6, 7, 8, 9, 10] rfl rfl rfl rfl (by decide) 0 7 rfl rfl rfl rfl rfl (Nat.le_of_ble_eq_true rfl) ⟨Nat.le_of_ble_eq_true rfl, Nat.le_of_ble_eq_true rfl⟩ ⟨Nat.zero_le _, Nat.zero_le _⟩ dX7_play_40 (fun u40 H locs hr40 hW => ?_)
      have hW := Wd.ord hW (ws' := [(z 0, .inr (7, [.ref (z 1), .ref (z 2), .int (nI (recN Y.nh)), .ref (z 3), .ref (z 4), .ref (z 5), .ref (z 6), .ref (z 7), .ref (z 8), .ref (z 9), .int (nI Y.pn), .int (nI c0.sp), .ref (z 10)])), (z 1, .inl (T 0, 340, .inl (put Y.all 0 Y.all))), (z 2, .inl (T 0, 2040, .inl (recH Y.H Y.all Y.nh))), (z 3, .inl (T 0, 680, .inl Y.slo)), (z 4, .inl (T 0, 2, .inl Y.isv)), (z 5, .inl (T 0, 280, .inl (put c0.tree 0 Y.all))), (z 6, .inl (T 0, 7, .inl c0.tried)), (z 7, .inl (T 0, 7, .inl c0.most)), (z 8, .inl (T 0, 7, .inl c0.best)), (z 9, .inl (T 0, 60, .inl Y.pad)), (z 10, .inl (T 0, 15, .inl c0.rd))]) [8, 9, 0, 1, 2, 10, 3, 4, 5, 6, 7] rfl rfl
      refine lv_aload_n hx hb dX7_play_43 rfl (lv_at hl 0 rfl) ?_
      refine lv_iconst (v := nI 0) hx hb dX7_play_44 (by decide) ?_
      refine lv_iload_n hx hb dX7_play_45 rfl (lv_at hl 1 rfl) ?_
      refine cIV (As := [.int (nI 0), .int (nI k)]) (rest := []) (wr := [(z 1, .inl (T 0, 340, .inl (put Y.all 0 Y.all))), (z 2, .inl (T 0, 2040, .inl (recH Y.H Y.all Y.nh))), (z 3, .inl (T 0, 680, .inl Y.slo)), (z 4, .inl (T 0, 2, .inl Y.isv)), (z 9, .inl (T 0, 60, .inl Y.pad)), (z 10, .inl (T 0, 15, .inl c0.rd))]) F hW hl cs591 (r_bestOf l D T (z 0) (z 1) (z 2) (z 3) (z 4) (z 5) (z 6) (z 7) (z 8) (z 9) (z 10) (nI (recN Y.nh)) (nI Y.pn) (nI c0.sp) c0.tree Y.all c0.tried c0.most c0.best (dd := k) (by omega) hI) [0, 5, 6, 7, 8] [1, 2, 3, 4, 9, 10] rfl rfl rfl rfl (by decide) 0 7 rfl rfl rfl rfl rfl (Nat.le_of_ble_eq_true rfl) ⟨Nat.le_of_ble_eq_true rfl, Nat.le_of_ble_eq_true rfl⟩ ⟨Nat.zero_le _, Nat.zero_le _⟩ dX7_play_46 (fun r46 u46 H locs hr46 hW => ?_)
      have hW := Wd.ord hW (ws' := [(z 0, .inr (7, [.ref (z 1), .ref (z 2), .int (nI (recN Y.nh)), .ref (z 3), .ref (z 4), .ref (z 5), .ref (z 6), .ref (z 7), .ref (z 8), .ref (z 9), .int (nI Y.pn), .int (nI c0.sp), .ref (z 10)])), (z 1, .inl (T 0, 340, .inl (put Y.all 0 Y.all))), (z 2, .inl (T 0, 2040, .inl (recH Y.H Y.all Y.nh))), (z 3, .inl (T 0, 680, .inl Y.slo)), (z 4, .inl (T 0, 2, .inl Y.isv)), (z 5, .inl (T 0, 280, .inl u46.1)), (z 6, .inl (T 0, 7, .inl u46.2.1)), (z 7, .inl (T 0, 7, .inl u46.2.2.1)), (z 8, .inl (T 0, 7, .inl u46.2.2.2)), (z 9, .inl (T 0, 60, .inl Y.pad)), (z 10, .inl (T 0, 15, .inl c0.rd))]) [6, 0, 1, 2, 3, 7, 8, 9, 10, 4, 5] rfl rfl
      obtain ⟨hr46, htr46⟩ := hr46
      subst hr46
      rw [hbe]
      have hW := Wd.arr hW 1 Y.all rfl (fun j _ => (put_g Y.all j).symm) (ws' := [(z 0, .inr (7, [.ref (z 1), .ref (z 2), .int (nI (recN Y.nh)), .ref (z 3), .ref (z 4), .ref (z 5), .ref (z 6), .ref (z 7), .ref (z 8), .ref (z 9), .int (nI Y.pn), .int (nI c0.sp), .ref (z 10)])), (z 1, .inl (T 0, 340, .inl Y.all)), (z 2, .inl (T 0, 2040, .inl (recH Y.H Y.all Y.nh))), (z 3, .inl (T 0, 680, .inl Y.slo)), (z 4, .inl (T 0, 2, .inl Y.isv)), (z 5, .inl (T 0, 280, .inl u46.1)), (z 6, .inl (T 0, 7, .inl u46.2.1)), (z 7, .inl (T 0, 7, .inl u46.2.2.1)), (z 8, .inl (T 0, 7, .inl u46.2.2.2)), (z 9, .inl (T 0, 60, .inl Y.pad)), (z 10, .inl (T 0, 15, .inl c0.rd))]) rfl
      have ek : (Y.all 28).toNatClampNeg = mk := by rw [h28, nI_clamp (by omega)]
      refine lv_istore_n (lv' := [(2, .int (nI b)), (0, .ref (z 0)), (1, .int (nI k))]) hx hb dX7_play_49 rfl hl (by decide) rfl (fun ls hl => ?_)
      refine lv_aload_n hx hb dX7_play_50 rfl (lv_at hl 1 rfl) ?_
      refine lv_iload_n hx hb dX7_play_51 rfl (lv_at hl 0 rfl) ?_
      refine cVV (As := [.int (nI b)]) (rest := []) (wr := [(z 2, .inl (T 0, 2040, .inl (recH Y.H Y.all Y.nh))), (z 3, .inl (T 0, 680, .inl Y.slo)), (z 4, .inl (T 0, 2, .inl Y.isv)), (z 5, .inl (T 0, 280, .inl u46.1)), (z 6, .inl (T 0, 7, .inl u46.2.1)), (z 7, .inl (T 0, 7, .inl u46.2.2.1)), (z 8, .inl (T 0, 7, .inl u46.2.2.2)), (z 9, .inl (T 0, 60, .inl Y.pad)), (z 10, .inl (T 0, 15, .inl c0.rd))]) F hW hl cs557 (r_makes l D T (z 0) (z 1) (z 2) (z 3) (z 4) (z 5) (z 6) (z 7) (z 8) (z 9) (z 10) (nI (recN Y.nh)) (nI Y.pn) (nI c0.sp) Y.all (h := b) (mk := mk) (pl := pl) (by omega) hpl h26 h28 (hm2 z27) h36 h37) [0, 1] [2, 3, 4, 5, 6, 7, 8, 9, 10] rfl rfl rfl rfl (by decide) 0 7 rfl rfl rfl rfl rfl (Nat.le_of_ble_eq_true rfl) ⟨Nat.le_of_ble_eq_true rfl, Nat.le_of_ble_eq_true rfl⟩ ⟨Nat.zero_le _, Nat.zero_le _⟩ dX7_play_52 (fun u52 H locs hr52 hW => ?_)
      have hW := Wd.ord hW (ws' := [(z 0, .inr (7, [.ref (z 1), .ref (z 2), .int (nI (recN Y.nh)), .ref (z 3), .ref (z 4), .ref (z 5), .ref (z 6), .ref (z 7), .ref (z 8), .ref (z 9), .int (nI Y.pn), .int (nI c0.sp), .ref (z 10)])), (z 1, .inl (T 0, 340, .inl (mkM Y.all mk b))), (z 2, .inl (T 0, 2040, .inl (recH Y.H Y.all Y.nh))), (z 3, .inl (T 0, 680, .inl Y.slo)), (z 4, .inl (T 0, 2, .inl Y.isv)), (z 5, .inl (T 0, 280, .inl u46.1)), (z 6, .inl (T 0, 7, .inl u46.2.1)), (z 7, .inl (T 0, 7, .inl u46.2.2.1)), (z 8, .inl (T 0, 7, .inl u46.2.2.2)), (z 9, .inl (T 0, 60, .inl Y.pad)), (z 10, .inl (T 0, 15, .inl c0.rd))]) [9, 10, 0, 1, 2, 3, 4, 5, 6, 7, 8] rfl rfl
      refine lv_iload_n hx hb dX7_play_55 rfl (lv_at hl 0 rfl) ?_
      have hy : yPlay Y x = (nI b, (mkM Y.all mk b, (recd Y).2)) := by unfold yPlay; rw [if_pos q, if_neg (show ¬ Y.all 27 = 1 from h23), ck, hbe, ek, nI_clamp (by omega)]
      exact retI F hr hlk rfl hW (⟨u46.1, u46.2.1, u46.2.2.1, u46.2.2.2, c0.rd, c0.sp⟩ : SD) (congrArg Prod.fst hy).symm (congrArg (fun q => mw T z q.2 (⟨u46.1, u46.2.1, u46.2.2.1, u46.2.2.2, c0.rd, c0.sp⟩ : SD)) hy).symm dX7_play_56
    · refine lv_bipush (v := -5) hx hb dX7_play_26 (by decide) ?_
      have hy : yPlay Y x = (-5, Y) := by unfold yPlay; rw [if_pos q, if_pos (show Y.all 27 = 1 from h23)]
      exact retI F hr hlk rfl hW (⟨c0.tree, c0.tried, c0.most, c0.best, c0.rd, c0.sp⟩ : SD) (congrArg Prod.fst hy).symm (congrArg (fun q => mw T z q.2 (⟨c0.tree, c0.tried, c0.most, c0.best, c0.rd, c0.sp⟩ : SD)) hy).symm dX7_play_28
  · have q : ¬ rng 1 4 x := fun q => absurd ((in_if (a := 1) (b := 4) (la := 1) (lb := 4) x (by decide) (by decide)).trans (if_pos q)) (by rw [h9]; decide)
    refine lv_bipush (v := -2) hx hb dX7_play_12 (by decide) ?_
    have hy : yPlay Y x = (-2, Y) := if_neg q
    exact retI F hr hlk rfl hW (⟨c0.tree, c0.tried, c0.most, c0.best, c0.rd, c0.sp⟩ : SD) (congrArg Prod.fst hy).symm (congrArg (fun q => mw T z q.2 (⟨c0.tree, c0.tried, c0.most, c0.best, c0.rd, c0.sp⟩ : SD)) hy).symm dX7_play_14
set_option maxHeartbeats 4000000 in
set_option maxRecDepth 100000 in
theorem y_house (l : Launch) (D : va_G) (T : Nat → ClassId) (z : Nat → Nat) (Y : YD) (c0 : SD) (hY : YOK Y) (x w : Int32) : KI (S := SD) l D T yX7_house cX7_house 3 (some .int) 6 [.ref (z 0), .int x, .int w] [(z 0, .inr (7, [.ref (z 1), .ref (z 2), .int (nI Y.nh), .ref (z 3), .ref (z 4), .ref (z 5), .ref (z 6), .ref (z 7), .ref (z 8), .ref (z 9), .int (nI Y.pn), .int (nI c0.sp), .ref (z 10)])), (z 1, .inl (T 0, 340, .inl Y.all)), (z 2, .inl (T 0, 2040, .inl Y.H)), (z 3, .inl (T 0, 680, .inl Y.slo)), (z 4, .inl (T 0, 2, .inl Y.isv)), (z 5, .inl (T 0, 280, .inl c0.tree)), (z 6, .inl (T 0, 7, .inl c0.tried)), (z 7, .inl (T 0, 7, .inl c0.most)), (z 8, .inl (T 0, 7, .inl c0.best)), (z 9, .inl (T 0, 60, .inl Y.pad)), (z 10, .inl (T 0, 15, .inl c0.rd))] (fun r _ => r = (yHouse Y x w).1) (fun u => mw T z (yHouse Y x w).2 u) := by
  refine KI.of (by decide +kernel) (Nat.le_of_ble_eq_true rfl) (fun p e s m below meth c A F hr hlk hW ls hl => ?_)
  have hx := F.1
  have hb := F.2.1
  have hl : lv_has ls 3 [(0, .ref (z 0)), (1, .int x), (2, .int w)] := hl
  obtain ⟨⟨⟨S0, hI⟩, h34⟩, hnh, hpn, hHi, hsl⟩ := hY
  have hI2 := hI
  obtain ⟨hJ, ⟨pl, hpl, h26⟩, h27, ⟨mk, h28, hm1, hm2⟩, h36, h37, hleg⟩ := hI2
  refine lv_iload_n hx hb dX7_house_0 rfl (lv_at hl 1 rfl) ?_
  refine cRS (As := [.int x]) (rest := []) F hW hl cs547 (r_isHouse l D T x) [] rfl rfl rfl rfl (Nat.le_of_ble_eq_true rfl) ⟨Nat.le_of_ble_eq_true rfl, Nat.le_of_ble_eq_true rfl⟩ ⟨Nat.zero_le _, Nat.zero_le _⟩ dX7_house_1 (fun r1 hr1 => ?_)
  subst hr1
  refine lv_if_ne (tgt := 9) hx hb dX7_house_4 (by decide) (fun h4 => ?_) (fun h4 => ?_)
  · have q : rng 0 11 x := Decidable.not_not.mp (fun q => h4 (bz.mpr q))
    obtain ⟨k, kb, kl, ek, ck⟩ := rng_nat q
    rw [ek] at hl
    refine lv_iload_n hx hb dX7_house_9 rfl (lv_at hl 2 rfl) ?_
    refine lv_i2l (v := w.toInt64) hx hb dX7_house_10 rfl ?_
    refine lv_lconst (v := 0) hx hb dX7_house_11 (by decide) ?_
    refine lv_ldc2 hx hb F.2.2.2.1 (F.2.2.2.2 _ m630) dX7_house_12 ?_
    refine cRS (As := [.long w.toInt64, .long 0, .long 2]) (rest := []) F hW hl cs530 (r_in l D T w.toInt64 0 2) [] rfl rfl rfl rfl (Nat.le_of_ble_eq_true rfl) ⟨Nat.le_of_ble_eq_true rfl, Nat.le_of_ble_eq_true rfl⟩ ⟨Nat.zero_le _, Nat.zero_le _⟩ dX7_house_15 (fun r15 hr15 => ?_)
    subst hr15
    refine lv_if_ne (tgt := 24) hx hb dX7_house_18 (by decide) (fun h18 => ?_) (fun h18 => ?_)
    · have q2 : rng 0 2 w := Decidable.not_not.mp (fun q => h18 ((in_if (a := 0) (b := 2) (la := 0) (lb := 2) w (by decide) (by decide)).trans (if_neg q)))
      refine lv_iload_n hx hb dX7_house_24 rfl (lv_at hl 2 rfl) ?_
      refine lv_if_ne (tgt := 39) hx hb dX7_house_25 (by decide) (fun h25 => ?_) (fun h25 => ?_)
      · refine lv_iload_n hx hb dX7_house_39 rfl (lv_at hl 2 rfl) ?_
        refine lv_iconst (v := nI 1) hx hb dX7_house_40 (by decide) ?_
        refine lv_icmp_ne (tgt := 56) hx hb dX7_house_41 (by decide) (fun h41 => ?_) (fun h41 => ?_)
        · have hW := Wd.arr hW 1 (put Y.all 0 Y.all) rfl (fun j _ => put_g Y.all j) (ws' := [(z 0, .inr (7, [.ref (z 1), .ref (z 2), .int (nI Y.nh), .ref (z 3), .ref (z 4), .ref (z 5), .ref (z 6), .ref (z 7), .ref (z 8), .ref (z 9), .int (nI Y.pn), .int (nI c0.sp), .ref (z 10)])), (z 1, .inl (T 0, 340, .inl (put Y.all 0 Y.all))), (z 2, .inl (T 0, 2040, .inl Y.H)), (z 3, .inl (T 0, 680, .inl Y.slo)), (z 4, .inl (T 0, 2, .inl Y.isv)), (z 5, .inl (T 0, 280, .inl c0.tree)), (z 6, .inl (T 0, 7, .inl c0.tried)), (z 7, .inl (T 0, 7, .inl c0.most)), (z 8, .inl (T 0, 7, .inl c0.best)), (z 9, .inl (T 0, 60, .inl Y.pad)), (z 10, .inl (T 0, 15, .inl c0.rd))]) rfl
          refine lv_aload_n hx hb dX7_house_56 rfl (lv_at hl 0 rfl) ?_
          refine gf482 F hW 0 rfl rfl dX7_house_57 ?_
          refine lv_iconst (v := nI 0) hx hb dX7_house_60 (by decide) ?_
          refine lv_iload_n hx hb dX7_house_61 rfl (lv_at hl 1 rfl) ?_
          refine cRS (As := [.ref (z 1), .int (nI 0), .int (nI k)]) (rest := []) F hW hl cs567 (r_isHostile l D T (z 1) 340 0 (by omega) (by omega) Y.all Y.all (h := k) (by omega)) [1] rfl rfl rfl rfl (Nat.le_of_ble_eq_true rfl) ⟨Nat.le_of_ble_eq_true rfl, Nat.le_of_ble_eq_true rfl⟩ ⟨Nat.zero_le _, Nat.zero_le _⟩ dX7_house_62 (fun r62 hr62 => ?_)
          subst hr62
          refine lv_if_eq (tgt := 72) hx hb dX7_house_65 (by decide) (fun h65 => ?_) (fun h65 => ?_)
          · have q3 : ¬ Y.all 35 ≤ Y.all (12 + k) := bz.mp h65
            have hW := Wd.arr hW 1 Y.all rfl (fun j _ => (put_g Y.all j).symm) (ws' := [(z 0, .inr (7, [.ref (z 1), .ref (z 2), .int (nI Y.nh), .ref (z 3), .ref (z 4), .ref (z 5), .ref (z 6), .ref (z 7), .ref (z 8), .ref (z 9), .int (nI Y.pn), .int (nI c0.sp), .ref (z 10)])), (z 1, .inl (T 0, 340, .inl Y.all)), (z 2, .inl (T 0, 2040, .inl Y.H)), (z 3, .inl (T 0, 680, .inl Y.slo)), (z 4, .inl (T 0, 2, .inl Y.isv)), (z 5, .inl (T 0, 280, .inl c0.tree)), (z 6, .inl (T 0, 7, .inl c0.tried)), (z 7, .inl (T 0, 7, .inl c0.most)), (z 8, .inl (T 0, 7, .inl c0.best)), (z 9, .inl (T 0, 60, .inl Y.pad)), (z 10, .inl (T 0, 15, .inl c0.rd))]) rfl
            refine lv_iconst (v := 0) hx hb dX7_house_72 (by decide) ?_
            have hy : yHouse Y x w = (0, Y) := by unfold yHouse; rw [if_pos q, if_pos q2, ck, if_neg h25, if_neg (show ¬ w = 1 from h41), if_neg q3]
            exact retI F hr hlk rfl hW (⟨c0.tree, c0.tried, c0.most, c0.best, c0.rd, c0.sp⟩ : SD) (congrArg Prod.fst hy).symm (congrArg (fun q => mw T z q.2 (⟨c0.tree, c0.tried, c0.most, c0.best, c0.rd, c0.sp⟩ : SD)) hy).symm dX7_house_73
          · have q3 : Y.all 35 ≤ Y.all (12 + k) := Decidable.not_not.mp (fun q => h65 (bz.mpr q))
            have hW := Wd.arr hW 1 Y.all rfl (fun j _ => (put_g Y.all j).symm) (ws' := [(z 0, .inr (7, [.ref (z 1), .ref (z 2), .int (nI Y.nh), .ref (z 3), .ref (z 4), .ref (z 5), .ref (z 6), .ref (z 7), .ref (z 8), .ref (z 9), .int (nI Y.pn), .int (nI c0.sp), .ref (z 10)])), (z 1, .inl (T 0, 340, .inl Y.all)), (z 2, .inl (T 0, 2040, .inl Y.H)), (z 3, .inl (T 0, 680, .inl Y.slo)), (z 4, .inl (T 0, 2, .inl Y.isv)), (z 5, .inl (T 0, 280, .inl c0.tree)), (z 6, .inl (T 0, 7, .inl c0.tried)), (z 7, .inl (T 0, 7, .inl c0.most)), (z 8, .inl (T 0, 7, .inl c0.best)), (z 9, .inl (T 0, 60, .inl Y.pad)), (z 10, .inl (T 0, 15, .inl c0.rd))]) rfl
            refine lv_iconst (v := 1) hx hb dX7_house_68 (by decide) ?_
            refine lv_goto (tgt := 73) hx hb dX7_house_69 (by decide) ?_
            have hy : yHouse Y x w = (1, Y) := by unfold yHouse; rw [if_pos q, if_pos q2, ck, if_neg h25, if_neg (show ¬ w = 1 from h41), if_pos q3]
            exact retI F hr hlk rfl hW (⟨c0.tree, c0.tried, c0.most, c0.best, c0.rd, c0.sp⟩ : SD) (congrArg Prod.fst hy).symm (congrArg (fun q => mw T z q.2 (⟨c0.tree, c0.tried, c0.most, c0.best, c0.rd, c0.sp⟩ : SD)) hy).symm dX7_house_73
        · refine lv_aload_n hx hb dX7_house_44 rfl (lv_at hl 0 rfl) ?_
          refine gf482 F hW 0 rfl rfl dX7_house_45 ?_
          refine lv_bipush (v := nI 12) hx hb dX7_house_48 (by decide) ?_
          refine lv_iload_n hx hb dX7_house_50 rfl (lv_at hl 1 rfl) ?_
          refine iaddE (z := nI (12 + k)) hx hb dX7_house_51 (nI_add _ _) ?_
          refine ald F hW 1 rfl (x := Y.all (12 + k)) (12 + k) rfl (by omega) (by decide) rfl dX7_house_52 ?_
          refine lv_goto (tgt := 73) hx hb dX7_house_53 (by decide) ?_
          have hy : yHouse Y x w = (Y.all (12 + k), Y) := by unfold yHouse; rw [if_pos q, if_pos q2, ck, if_neg h25, if_pos (show w = 1 from h41)]
          exact retI F hr hlk rfl hW (⟨c0.tree, c0.tried, c0.most, c0.best, c0.rd, c0.sp⟩ : SD) (congrArg Prod.fst hy).symm (congrArg (fun q => mw T z q.2 (⟨c0.tree, c0.tried, c0.most, c0.best, c0.rd, c0.sp⟩ : SD)) hy).symm dX7_house_73
      · refine lv_aload_n hx hb dX7_house_28 rfl (lv_at hl 0 rfl) ?_
        refine gf482 F hW 0 rfl rfl dX7_house_29 ?_
        refine lv_iconst (v := nI 0) hx hb dX7_house_32 (by decide) ?_
        refine lv_iload_n hx hb dX7_house_33 rfl (lv_at hl 1 rfl) ?_
        refine iaddE (z := nI k) hx hb dX7_house_34 ((nI_add _ _).trans (by rw [Nat.zero_add])) ?_
        refine ald F hW 1 rfl (x := Y.all k) k rfl (by omega) (by decide) rfl dX7_house_35 ?_
        refine lv_goto (tgt := 73) hx hb dX7_house_36 (by decide) ?_
        have hy : yHouse Y x w = (Y.all k, Y) := by unfold yHouse; rw [if_pos q, if_pos q2, ck, if_pos h25]
        exact retI F hr hlk rfl hW (⟨c0.tree, c0.tried, c0.most, c0.best, c0.rd, c0.sp⟩ : SD) (congrArg Prod.fst hy).symm (congrArg (fun q => mw T z q.2 (⟨c0.tree, c0.tried, c0.most, c0.best, c0.rd, c0.sp⟩ : SD)) hy).symm dX7_house_73
    · have q2 : ¬ rng 0 2 w := fun q => absurd ((in_if (a := 0) (b := 2) (la := 0) (lb := 2) w (by decide) (by decide)).trans (if_pos q)) (by rw [h18]; decide)
      refine lv_bipush (v := -2) hx hb dX7_house_21 (by decide) ?_
      have hy : yHouse Y x w = (-2, Y) := by unfold yHouse; rw [if_pos q, if_neg q2]
      exact retI F hr hlk rfl hW (⟨c0.tree, c0.tried, c0.most, c0.best, c0.rd, c0.sp⟩ : SD) (congrArg Prod.fst hy).symm (congrArg (fun q => mw T z q.2 (⟨c0.tree, c0.tried, c0.most, c0.best, c0.rd, c0.sp⟩ : SD)) hy).symm dX7_house_23
  · refine lv_iconst (v := -1) hx hb dX7_house_7 (by decide) ?_
    have hy : yHouse Y x w = (-1, Y) := if_neg (bz.mp h4)
    exact retI F hr hlk rfl hW (⟨c0.tree, c0.tried, c0.most, c0.best, c0.rd, c0.sp⟩ : SD) (congrArg Prod.fst hy).symm (congrArg (fun q => mw T z q.2 (⟨c0.tree, c0.tried, c0.most, c0.best, c0.rd, c0.sp⟩ : SD)) hy).symm dX7_house_8
set_option maxHeartbeats 4000000 in
set_option maxRecDepth 100000 in
theorem y_last (l : Launch) (D : va_G) (T : Nat → ClassId) (z : Nat → Nat) (Y : YD) (c0 : SD) (hY : YOK Y) (x : Int32) : KI (S := SD) l D T yX7_last cX7_last 2 (some .int) 6 [.ref (z 0), .int x] [(z 0, .inr (7, [.ref (z 1), .ref (z 2), .int (nI Y.nh), .ref (z 3), .ref (z 4), .ref (z 5), .ref (z 6), .ref (z 7), .ref (z 8), .ref (z 9), .int (nI Y.pn), .int (nI c0.sp), .ref (z 10)])), (z 1, .inl (T 0, 340, .inl Y.all)), (z 2, .inl (T 0, 2040, .inl Y.H)), (z 3, .inl (T 0, 680, .inl Y.slo)), (z 4, .inl (T 0, 2, .inl Y.isv)), (z 5, .inl (T 0, 280, .inl c0.tree)), (z 6, .inl (T 0, 7, .inl c0.tried)), (z 7, .inl (T 0, 7, .inl c0.most)), (z 8, .inl (T 0, 7, .inl c0.best)), (z 9, .inl (T 0, 60, .inl Y.pad)), (z 10, .inl (T 0, 15, .inl c0.rd))] (fun r _ => r = (yLast Y x).1) (fun u => mw T z (yLast Y x).2 u) := by
  refine KI.of (by decide +kernel) (Nat.le_of_ble_eq_true rfl) (fun p e s m below meth c A F hr hlk hW ls hl => ?_)
  have hx := F.1
  have hb := F.2.1
  have hl : lv_has ls 2 [(0, .ref (z 0)), (1, .int x)] := hl
  obtain ⟨⟨⟨S0, hI⟩, h34⟩, hnh, hpn, hHi, hsl⟩ := hY
  have hI2 := hI
  obtain ⟨hJ, ⟨pl, hpl, h26⟩, h27, ⟨mk, h28, hm1, hm2⟩, h36, h37, hleg⟩ := hI2
  refine lv_iload_n hx hb dX7_last_0 rfl (lv_at hl 1 rfl) ?_
  refine lv_i2l (v := x.toInt64) hx hb dX7_last_1 rfl ?_
  refine lv_lconst (v := 0) hx hb dX7_last_2 (by decide) ?_
  refine lv_ldc2 hx hb F.2.2.2.1 (F.2.2.2.2 _ m586) dX7_last_3 ?_
  refine cRS (As := [.long x.toInt64, .long 0, .long 4]) (rest := []) F hW hl cs530 (r_in l D T x.toInt64 0 4) [] rfl rfl rfl rfl (Nat.le_of_ble_eq_true rfl) ⟨Nat.le_of_ble_eq_true rfl, Nat.le_of_ble_eq_true rfl⟩ ⟨Nat.zero_le _, Nat.zero_le _⟩ dX7_last_6 (fun r6 hr6 => ?_)
  subst hr6
  refine lv_if_ne (tgt := 17) hx hb dX7_last_9 (by decide) (fun h9 => ?_) (fun h9 => ?_)
  · have q : rng 0 4 x := Decidable.not_not.mp (fun q => h9 ((in_if (a := 0) (b := 4) (la := 0) (lb := 4) x (by decide) (by decide)).trans (if_neg q)))
    obtain ⟨k, kb, kl, ek, ck⟩ := rng_nat q
    rw [ek] at hl
    refine lv_aload_n hx hb dX7_last_17 rfl (lv_at hl 0 rfl) ?_
    refine gf482 F hW 0 rfl rfl dX7_last_18 ?_
    refine lv_bipush (v := nI 28) hx hb dX7_last_21 (by decide) ?_
    refine ald F hW 1 rfl (x := Y.all 28) 28 rfl (by omega) (by decide) rfl dX7_last_23 ?_
    refine lv_if_ne (tgt := 32) hx hb dX7_last_24 (by decide) (fun h24 => ?_) (fun h24 => ?_)
    · refine lv_aload_n hx hb dX7_last_32 rfl (lv_at hl 0 rfl) ?_
      refine gf482 F hW 0 rfl rfl dX7_last_33 ?_
      refine lv_bipush (v := nI 29) hx hb dX7_last_36 (by decide) ?_
      refine lv_iload_n hx hb dX7_last_38 rfl (lv_at hl 1 rfl) ?_
      refine iaddE (z := nI (29 + k)) hx hb dX7_last_39 (nI_add _ _) ?_
      refine ald F hW 1 rfl (x := Y.all (29 + k)) (29 + k) rfl (by omega) (by decide) rfl dX7_last_40 ?_
      have hy : yLast Y x = (Y.all (29 + k), Y) := by unfold yLast; rw [if_pos q, if_neg h24, ck]
      exact retI F hr hlk rfl hW (⟨c0.tree, c0.tried, c0.most, c0.best, c0.rd, c0.sp⟩ : SD) (congrArg Prod.fst hy).symm (congrArg (fun q => mw T z q.2 (⟨c0.tree, c0.tried, c0.most, c0.best, c0.rd, c0.sp⟩ : SD)) hy).symm dX7_last_41
    · refine lv_bipush (v := -6) hx hb dX7_last_27 (by decide) ?_
      refine lv_goto (tgt := 41) hx hb dX7_last_29 (by decide) ?_
      have hy : yLast Y x = (-6, Y) := by unfold yLast; rw [if_pos q, if_pos h24]
      exact retI F hr hlk rfl hW (⟨c0.tree, c0.tried, c0.most, c0.best, c0.rd, c0.sp⟩ : SD) (congrArg Prod.fst hy).symm (congrArg (fun q => mw T z q.2 (⟨c0.tree, c0.tried, c0.most, c0.best, c0.rd, c0.sp⟩ : SD)) hy).symm dX7_last_41
  · have q : ¬ rng 0 4 x := fun q => absurd ((in_if (a := 0) (b := 4) (la := 0) (lb := 4) x (by decide) (by decide)).trans (if_pos q)) (by rw [h9]; decide)
    refine lv_bipush (v := -2) hx hb dX7_last_12 (by decide) ?_
    refine lv_goto (tgt := 41) hx hb dX7_last_14 (by decide) ?_
    have hy : yLast Y x = (-2, Y) := if_neg q
    exact retI F hr hlk rfl hW (⟨c0.tree, c0.tried, c0.most, c0.best, c0.rd, c0.sp⟩ : SD) (congrArg Prod.fst hy).symm (congrArg (fun q => mw T z q.2 (⟨c0.tree, c0.tried, c0.most, c0.best, c0.rd, c0.sp⟩ : SD)) hy).symm dX7_last_41
set_option maxHeartbeats 4000000 in
set_option maxRecDepth 100000 in
theorem y_moved (l : Launch) (D : va_G) (T : Nat → ClassId) (z : Nat → Nat) (Y : YD) (c0 : SD) (hY : YOK Y) (x : Int32) : KI (S := SD) l D T yX7_moved cX7_moved 2 (some .int) 6 [.ref (z 0), .int x] [(z 0, .inr (7, [.ref (z 1), .ref (z 2), .int (nI Y.nh), .ref (z 3), .ref (z 4), .ref (z 5), .ref (z 6), .ref (z 7), .ref (z 8), .ref (z 9), .int (nI Y.pn), .int (nI c0.sp), .ref (z 10)])), (z 1, .inl (T 0, 340, .inl Y.all)), (z 2, .inl (T 0, 2040, .inl Y.H)), (z 3, .inl (T 0, 680, .inl Y.slo)), (z 4, .inl (T 0, 2, .inl Y.isv)), (z 5, .inl (T 0, 280, .inl c0.tree)), (z 6, .inl (T 0, 7, .inl c0.tried)), (z 7, .inl (T 0, 7, .inl c0.most)), (z 8, .inl (T 0, 7, .inl c0.best)), (z 9, .inl (T 0, 60, .inl Y.pad)), (z 10, .inl (T 0, 15, .inl c0.rd))] (fun r _ => r = (yMoved Y x).1) (fun u => mw T z (yMoved Y x).2 u) := by
  refine KI.of (by decide +kernel) (Nat.le_of_ble_eq_true rfl) (fun p e s m below meth c A F hr hlk hW ls hl => ?_)
  have hx := F.1
  have hb := F.2.1
  have hl : lv_has ls 2 [(0, .ref (z 0)), (1, .int x)] := hl
  obtain ⟨⟨⟨S0, hI⟩, h34⟩, hnh, hpn, hHi, hsl⟩ := hY
  have hI2 := hI
  obtain ⟨hJ, ⟨pl, hpl, h26⟩, h27, ⟨mk, h28, hm1, hm2⟩, h36, h37, hleg⟩ := hI2
  refine lv_iload_n hx hb dX7_moved_0 rfl (lv_at hl 1 rfl) ?_
  refine lv_i2l (v := x.toInt64) hx hb dX7_moved_1 rfl ?_
  refine lv_lconst (v := 0) hx hb dX7_moved_2 (by decide) ?_
  refine lv_aload_n hx hb dX7_moved_3 rfl (lv_at hl 0 rfl) ?_
  refine gf482 F hW 0 rfl rfl dX7_moved_4 ?_
  refine lv_bipush (v := nI 28) hx hb dX7_moved_7 (by decide) ?_
  refine ald F hW 1 rfl (x := Y.all 28) 28 rfl (by omega) (by decide) rfl dX7_moved_9 ?_
  refine lv_i2l (v := (Y.all 28).toInt64) hx hb dX7_moved_10 rfl ?_
  refine lv_lconst (v := 1) hx hb dX7_moved_11 (by decide) ?_
  refine lsubE (z := (Y.all 28).toInt64 - 1) hx hb dX7_moved_12 rfl ?_
  refine cRS (As := [.long x.toInt64, .long 0, .long ((Y.all 28).toInt64 - 1)]) (rest := []) F hW hl cs530 (r_in l D T x.toInt64 0 ((Y.all 28).toInt64 - 1)) [] rfl rfl rfl rfl (Nat.le_of_ble_eq_true rfl) ⟨Nat.le_of_ble_eq_true rfl, Nat.le_of_ble_eq_true rfl⟩ ⟨Nat.zero_le _, Nat.zero_le _⟩ dX7_moved_13 (fun r13 hr13 => ?_)
  subst hr13
  have e64 : ((Y.all 28).toInt64 - 1).toInt = (Y.all 28).toInt - 1 := by
    have := i_rng (Y.all 28)
    rw [Int64.toInt_sub, Int32.toInt_toInt64, show (1 : Int64).toInt = 1 by decide, Int.bmod_eq_of_le (by omega) (by omega)]
  have e0 := in_if (a := 0) (b := (Y.all 28).toInt64 - 1) (la := 0) (lb := (Y.all 28).toInt - 1) x (by decide) e64
  refine lv_if_eq (tgt := 31) hx hb dX7_moved_16 (by decide) (fun h16 => ?_) (fun h16 => ?_)
  · have q : ¬ rng 0 ((Y.all 28).toInt - 1) x := fun q => absurd (e0.trans (if_pos q)) (by rw [h16]; decide)
    refine lv_iconst (v := -1) hx hb dX7_moved_31 (by decide) ?_
    have hy : yMoved Y x = (-1, Y) := if_neg q
    exact retI F hr hlk rfl hW (⟨c0.tree, c0.tried, c0.most, c0.best, c0.rd, c0.sp⟩ : SD) (congrArg Prod.fst hy).symm (congrArg (fun q => mw T z q.2 (⟨c0.tree, c0.tried, c0.most, c0.best, c0.rd, c0.sp⟩ : SD)) hy).symm dX7_moved_32
  · have q : rng 0 ((Y.all 28).toInt - 1) x := Decidable.not_not.mp (fun q => h16 (e0.trans (if_neg q)))
    obtain ⟨k, kb, kl, ek, ck⟩ := rng_nat q
    rw [ek] at hl
    have hk3 : k < 300 := by rw [h28, nI_toInt (by omega)] at kb; omega
    refine lv_aload_n hx hb dX7_moved_19 rfl (lv_at hl 0 rfl) ?_
    refine gf482 F hW 0 rfl rfl dX7_moved_20 ?_
    refine lv_bipush (v := nI 40) hx hb dX7_moved_23 (by decide) ?_
    refine lv_iload_n hx hb dX7_moved_25 rfl (lv_at hl 1 rfl) ?_
    refine iaddE (z := nI (40 + k)) hx hb dX7_moved_26 (nI_add _ _) ?_
    refine ald F hW 1 rfl (x := Y.all (40 + k)) (40 + k) rfl (by omega) (by decide) rfl dX7_moved_27 ?_
    refine lv_goto (tgt := 32) hx hb dX7_moved_28 (by decide) ?_
    have hy : yMoved Y x = (Y.all (40 + k), Y) := by unfold yMoved; rw [if_pos q, ck]
    exact retI F hr hlk rfl hW (⟨c0.tree, c0.tried, c0.most, c0.best, c0.rd, c0.sp⟩ : SD) (congrArg Prod.fst hy).symm (congrArg (fun q => mw T z q.2 (⟨c0.tree, c0.tried, c0.most, c0.best, c0.rd, c0.sp⟩ : SD)) hy).symm dX7_moved_32
set_option maxHeartbeats 4000000 in
set_option maxRecDepth 100000 in
theorem y_worth (l : Launch) (D : va_G) (T : Nat → ClassId) (z : Nat → Nat) (Y : YD) (c0 : SD) (hY : YOK Y) (x : Int32) : KI (S := SD) l D T yX7_worth cX7_worth 2 (some .int) 6 [.ref (z 0), .int x] [(z 0, .inr (7, [.ref (z 1), .ref (z 2), .int (nI Y.nh), .ref (z 3), .ref (z 4), .ref (z 5), .ref (z 6), .ref (z 7), .ref (z 8), .ref (z 9), .int (nI Y.pn), .int (nI c0.sp), .ref (z 10)])), (z 1, .inl (T 0, 340, .inl Y.all)), (z 2, .inl (T 0, 2040, .inl Y.H)), (z 3, .inl (T 0, 680, .inl Y.slo)), (z 4, .inl (T 0, 2, .inl Y.isv)), (z 5, .inl (T 0, 280, .inl c0.tree)), (z 6, .inl (T 0, 7, .inl c0.tried)), (z 7, .inl (T 0, 7, .inl c0.most)), (z 8, .inl (T 0, 7, .inl c0.best)), (z 9, .inl (T 0, 60, .inl Y.pad)), (z 10, .inl (T 0, 15, .inl c0.rd))] (fun r _ => r = (yWorth Y x).1) (fun u => mw T z (yWorth Y x).2 u) := by
  refine KI.of (by decide +kernel) (Nat.le_of_ble_eq_true rfl) (fun p e s m below meth c A F hr hlk hW ls hl => ?_)
  have hx := F.1
  have hb := F.2.1
  have hl : lv_has ls 2 [(0, .ref (z 0)), (1, .int x)] := hl
  obtain ⟨⟨⟨S0, hI⟩, h34⟩, hnh, hpn, hHi, hsl⟩ := hY
  have hI2 := hI
  obtain ⟨hJ, ⟨pl, hpl, h26⟩, h27, ⟨mk, h28, hm1, hm2⟩, h36, h37, hleg⟩ := hI2
  refine lv_iload_n hx hb dX7_worth_0 rfl (lv_at hl 1 rfl) ?_
  refine lv_i2l (v := x.toInt64) hx hb dX7_worth_1 rfl ?_
  refine lv_lconst (v := 0) hx hb dX7_worth_2 (by decide) ?_
  refine lv_ldc2 hx hb F.2.2.2.1 (F.2.2.2.2 _ m586) dX7_worth_3 ?_
  refine cRS (As := [.long x.toInt64, .long 0, .long 4]) (rest := []) F hW hl cs530 (r_in l D T x.toInt64 0 4) [] rfl rfl rfl rfl (Nat.le_of_ble_eq_true rfl) ⟨Nat.le_of_ble_eq_true rfl, Nat.le_of_ble_eq_true rfl⟩ ⟨Nat.zero_le _, Nat.zero_le _⟩ dX7_worth_6 (fun r6 hr6 => ?_)
  subst hr6
  refine lv_if_ne (tgt := 15) hx hb dX7_worth_9 (by decide) (fun h9 => ?_) (fun h9 => ?_)
  · have q : rng 0 4 x := Decidable.not_not.mp (fun q => h9 ((in_if (a := 0) (b := 4) (la := 0) (lb := 4) x (by decide) (by decide)).trans (if_neg q)))
    obtain ⟨k, kb, kl, ek, ck⟩ := rng_nat q
    rw [ek] at hl
    have hW := Wd.arr hW 1 (put Y.all 0 Y.all) rfl (fun j _ => put_g Y.all j) (ws' := [(z 0, .inr (7, [.ref (z 1), .ref (z 2), .int (nI Y.nh), .ref (z 3), .ref (z 4), .ref (z 5), .ref (z 6), .ref (z 7), .ref (z 8), .ref (z 9), .int (nI Y.pn), .int (nI c0.sp), .ref (z 10)])), (z 1, .inl (T 0, 340, .inl (put Y.all 0 Y.all))), (z 2, .inl (T 0, 2040, .inl Y.H)), (z 3, .inl (T 0, 680, .inl Y.slo)), (z 4, .inl (T 0, 2, .inl Y.isv)), (z 5, .inl (T 0, 280, .inl c0.tree)), (z 6, .inl (T 0, 7, .inl c0.tried)), (z 7, .inl (T 0, 7, .inl c0.most)), (z 8, .inl (T 0, 7, .inl c0.best)), (z 9, .inl (T 0, 60, .inl Y.pad)), (z 10, .inl (T 0, 15, .inl c0.rd))]) rfl
    refine lv_aload_n hx hb dX7_worth_15 rfl (lv_at hl 0 rfl) ?_
    refine lv_aload_n hx hb dX7_worth_16 rfl (lv_at hl 0 rfl) ?_
    refine gf482 F hW 0 rfl rfl dX7_worth_17 ?_
    refine lv_iconst (v := nI 0) hx hb dX7_worth_20 (by decide) ?_
    refine lv_iconst (v := nI 0) hx hb dX7_worth_21 (by decide) ?_
    refine cVV (As := [.ref (z 1), .int (nI 0), .int (nI 0)]) (rest := []) (wr := [(z 2, .inl (T 0, 2040, .inl Y.H)), (z 3, .inl (T 0, 680, .inl Y.slo)), (z 4, .inl (T 0, 2, .inl Y.isv)), (z 6, .inl (T 0, 7, .inl c0.tried)), (z 7, .inl (T 0, 7, .inl c0.most)), (z 8, .inl (T 0, 7, .inl c0.best)), (z 9, .inl (T 0, 60, .inl Y.pad)), (z 10, .inl (T 0, 15, .inl c0.rd))]) F hW hl cs587 (r_copyA l D T (z 0) (z 1) (z 2) (z 3) (z 4) (z 5) (z 6) (z 7) (z 8) (z 9) (z 10) (nI Y.nh) (nI Y.pn) (nI c0.sp) c0.tree Y.all Y.all) [0, 1, 5] [2, 3, 4, 6, 7, 8, 9, 10] rfl rfl rfl rfl (by decide) 0 7 rfl rfl rfl rfl rfl (Nat.le_of_ble_eq_true rfl) ⟨Nat.le_of_ble_eq_true rfl, Nat.le_of_ble_eq_true rfl⟩ ⟨Nat.zero_le _, Nat.zero_le _⟩ dX7_worth_22 (fun u22 H locs hr22 hW => ?_)
    have hW := Wd.ord hW (ws' := [(z 0, .inr (7, [.ref (z 1), .ref (z 2), .int (nI Y.nh), .ref (z 3), .ref (z 4), .ref (z 5), .ref (z 6), .ref (z 7), .ref (z 8), .ref (z 9), .int (nI Y.pn), .int (nI c0.sp), .ref (z 10)])), (z 1, .inl (T 0, 340, .inl (put Y.all 0 Y.all))), (z 2, .inl (T 0, 2040, .inl Y.H)), (z 3, .inl (T 0, 680, .inl Y.slo)), (z 4, .inl (T 0, 2, .inl Y.isv)), (z 5, .inl (T 0, 280, .inl (put c0.tree 0 Y.all))), (z 6, .inl (T 0, 7, .inl c0.tried)), (z 7, .inl (T 0, 7, .inl c0.most)), (z 8, .inl (T 0, 7, .inl c0.best)), (z 9, .inl (T 0, 60, .inl Y.pad)), (z 10, .inl (T 0, 15, .inl c0.rd))]) [8, 9, 0, 1, 2, 10, 3, 4, 5, 6, 7] rfl rfl
    refine lv_aload_n hx hb dX7_worth_25 rfl (lv_at hl 0 rfl) ?_
    refine lv_iconst (v := nI 0) hx hb dX7_worth_26 (by decide) ?_
    refine lv_iload_n hx hb dX7_worth_27 rfl (lv_at hl 1 rfl) ?_
    refine cIV (As := [.int (nI 0), .int (nI k)]) (rest := []) (wr := [(z 1, .inl (T 0, 340, .inl (put Y.all 0 Y.all))), (z 2, .inl (T 0, 2040, .inl Y.H)), (z 3, .inl (T 0, 680, .inl Y.slo)), (z 4, .inl (T 0, 2, .inl Y.isv)), (z 9, .inl (T 0, 60, .inl Y.pad)), (z 10, .inl (T 0, 15, .inl c0.rd))]) F hW hl cs595 (r_worthOf l D T (z 0) (z 1) (z 2) (z 3) (z 4) (z 5) (z 6) (z 7) (z 8) (z 9) (z 10) (nI Y.nh) (nI Y.pn) (nI c0.sp) c0.tree Y.all c0.tried c0.most c0.best (dd := k) (by omega) hI) [0, 5, 6, 7, 8] [1, 2, 3, 4, 9, 10] rfl rfl rfl rfl (by decide) 0 7 rfl rfl rfl rfl rfl (Nat.le_of_ble_eq_true rfl) ⟨Nat.le_of_ble_eq_true rfl, Nat.le_of_ble_eq_true rfl⟩ ⟨Nat.zero_le _, Nat.zero_le _⟩ dX7_worth_28 (fun r28 u28 H locs hr28 hW => ?_)
    have hW := Wd.ord hW (ws' := [(z 0, .inr (7, [.ref (z 1), .ref (z 2), .int (nI Y.nh), .ref (z 3), .ref (z 4), .ref (z 5), .ref (z 6), .ref (z 7), .ref (z 8), .ref (z 9), .int (nI Y.pn), .int (nI c0.sp), .ref (z 10)])), (z 1, .inl (T 0, 340, .inl (put Y.all 0 Y.all))), (z 2, .inl (T 0, 2040, .inl Y.H)), (z 3, .inl (T 0, 680, .inl Y.slo)), (z 4, .inl (T 0, 2, .inl Y.isv)), (z 5, .inl (T 0, 280, .inl u28.1)), (z 6, .inl (T 0, 7, .inl u28.2.1)), (z 7, .inl (T 0, 7, .inl u28.2.2.1)), (z 8, .inl (T 0, 7, .inl u28.2.2.2)), (z 9, .inl (T 0, 60, .inl Y.pad)), (z 10, .inl (T 0, 15, .inl c0.rd))]) [6, 0, 1, 2, 3, 7, 8, 9, 10, 4, 5] rfl rfl
    obtain ⟨hr28, hbr28, htr28⟩ := hr28
    subst hr28
    have hW := Wd.arr hW 1 Y.all rfl (fun j _ => (put_g Y.all j).symm) (ws' := [(z 0, .inr (7, [.ref (z 1), .ref (z 2), .int (nI Y.nh), .ref (z 3), .ref (z 4), .ref (z 5), .ref (z 6), .ref (z 7), .ref (z 8), .ref (z 9), .int (nI Y.pn), .int (nI c0.sp), .ref (z 10)])), (z 1, .inl (T 0, 340, .inl Y.all)), (z 2, .inl (T 0, 2040, .inl Y.H)), (z 3, .inl (T 0, 680, .inl Y.slo)), (z 4, .inl (T 0, 2, .inl Y.isv)), (z 5, .inl (T 0, 280, .inl u28.1)), (z 6, .inl (T 0, 7, .inl u28.2.1)), (z 7, .inl (T 0, 7, .inl u28.2.2.1)), (z 8, .inl (T 0, 7, .inl u28.2.2.2)), (z 9, .inl (T 0, 60, .inl Y.pad)), (z 10, .inl (T 0, 15, .inl c0.rd))]) rfl
    refine lv_sipush (v := nI 10000) hx hb dX7_worth_31 (by decide) ?_
    refine iaddE (z := valM k Y.all + 10000) hx hb dX7_worth_34 rfl ?_
    have hy : yWorth Y x = (valM k Y.all + 10000, Y) := by unfold yWorth; rw [if_pos q, ck]
    exact retI F hr hlk rfl hW (⟨u28.1, u28.2.1, u28.2.2.1, u28.2.2.2, c0.rd, c0.sp⟩ : SD) (congrArg Prod.fst hy).symm (congrArg (fun q => mw T z q.2 (⟨u28.1, u28.2.1, u28.2.2.1, u28.2.2.2, c0.rd, c0.sp⟩ : SD)) hy).symm dX7_worth_35
  · have q : ¬ rng 0 4 x := fun q => absurd ((in_if (a := 0) (b := 4) (la := 0) (lb := 4) x (by decide) (by decide)).trans (if_pos q)) (by rw [h9]; decide)
    refine lv_bipush (v := -2) hx hb dX7_worth_12 (by decide) ?_
    have hy : yWorth Y x = (-2, Y) := if_neg q
    exact retI F hr hlk rfl hW (⟨c0.tree, c0.tried, c0.most, c0.best, c0.rd, c0.sp⟩ : SD) (congrArg Prod.fst hy).symm (congrArg (fun q => mw T z q.2 (⟨c0.tree, c0.tried, c0.most, c0.best, c0.rd, c0.sp⟩ : SD)) hy).symm dX7_worth_14
set_option maxHeartbeats 4000000 in
set_option maxRecDepth 100000 in
theorem y_best (l : Launch) (D : va_G) (T : Nat → ClassId) (z : Nat → Nat) (Y : YD) (c0 : SD) (hY : YOK Y) (x : Int32) : KI (S := SD) l D T yX7_best cX7_best 2 (some .int) 6 [.ref (z 0), .int x] [(z 0, .inr (7, [.ref (z 1), .ref (z 2), .int (nI Y.nh), .ref (z 3), .ref (z 4), .ref (z 5), .ref (z 6), .ref (z 7), .ref (z 8), .ref (z 9), .int (nI Y.pn), .int (nI c0.sp), .ref (z 10)])), (z 1, .inl (T 0, 340, .inl Y.all)), (z 2, .inl (T 0, 2040, .inl Y.H)), (z 3, .inl (T 0, 680, .inl Y.slo)), (z 4, .inl (T 0, 2, .inl Y.isv)), (z 5, .inl (T 0, 280, .inl c0.tree)), (z 6, .inl (T 0, 7, .inl c0.tried)), (z 7, .inl (T 0, 7, .inl c0.most)), (z 8, .inl (T 0, 7, .inl c0.best)), (z 9, .inl (T 0, 60, .inl Y.pad)), (z 10, .inl (T 0, 15, .inl c0.rd))] (fun r _ => r = (yBest Y x).1) (fun u => mw T z (yBest Y x).2 u) := by
  refine KI.of (by decide +kernel) (Nat.le_of_ble_eq_true rfl) (fun p e s m below meth c A F hr hlk hW ls hl => ?_)
  have hx := F.1
  have hb := F.2.1
  have hl : lv_has ls 2 [(0, .ref (z 0)), (1, .int x)] := hl
  obtain ⟨⟨⟨S0, hI⟩, h34⟩, hnh, hpn, hHi, hsl⟩ := hY
  have hI2 := hI
  obtain ⟨hJ, ⟨pl, hpl, h26⟩, h27, ⟨mk, h28, hm1, hm2⟩, h36, h37, hleg⟩ := hI2
  refine lv_iload_n hx hb dX7_best_0 rfl (lv_at hl 1 rfl) ?_
  refine lv_i2l (v := x.toInt64) hx hb dX7_best_1 rfl ?_
  refine lv_lconst (v := 1) hx hb dX7_best_2 (by decide) ?_
  refine lv_ldc2 hx hb F.2.2.2.1 (F.2.2.2.2 _ m586) dX7_best_3 ?_
  refine cRS (As := [.long x.toInt64, .long 1, .long 4]) (rest := []) F hW hl cs530 (r_in l D T x.toInt64 1 4) [] rfl rfl rfl rfl (Nat.le_of_ble_eq_true rfl) ⟨Nat.le_of_ble_eq_true rfl, Nat.le_of_ble_eq_true rfl⟩ ⟨Nat.zero_le _, Nat.zero_le _⟩ dX7_best_6 (fun r6 hr6 => ?_)
  subst hr6
  refine lv_if_ne (tgt := 15) hx hb dX7_best_9 (by decide) (fun h9 => ?_) (fun h9 => ?_)
  · have q : rng 1 4 x := Decidable.not_not.mp (fun q => h9 ((in_if (a := 1) (b := 4) (la := 1) (lb := 4) x (by decide) (by decide)).trans (if_neg q)))
    obtain ⟨k, ka, kb, kl, ek, ck⟩ := rng_nat1 q (by decide)
    rw [ek] at hl
    have hW := Wd.arr hW 1 (put Y.all 0 Y.all) rfl (fun j _ => put_g Y.all j) (ws' := [(z 0, .inr (7, [.ref (z 1), .ref (z 2), .int (nI Y.nh), .ref (z 3), .ref (z 4), .ref (z 5), .ref (z 6), .ref (z 7), .ref (z 8), .ref (z 9), .int (nI Y.pn), .int (nI c0.sp), .ref (z 10)])), (z 1, .inl (T 0, 340, .inl (put Y.all 0 Y.all))), (z 2, .inl (T 0, 2040, .inl Y.H)), (z 3, .inl (T 0, 680, .inl Y.slo)), (z 4, .inl (T 0, 2, .inl Y.isv)), (z 5, .inl (T 0, 280, .inl c0.tree)), (z 6, .inl (T 0, 7, .inl c0.tried)), (z 7, .inl (T 0, 7, .inl c0.most)), (z 8, .inl (T 0, 7, .inl c0.best)), (z 9, .inl (T 0, 60, .inl Y.pad)), (z 10, .inl (T 0, 15, .inl c0.rd))]) rfl
    refine lv_aload_n hx hb dX7_best_15 rfl (lv_at hl 0 rfl) ?_
    refine lv_aload_n hx hb dX7_best_16 rfl (lv_at hl 0 rfl) ?_
    refine gf482 F hW 0 rfl rfl dX7_best_17 ?_
    refine lv_iconst (v := nI 0) hx hb dX7_best_20 (by decide) ?_
    refine lv_iconst (v := nI 0) hx hb dX7_best_21 (by decide) ?_
    refine cVV (As := [.ref (z 1), .int (nI 0), .int (nI 0)]) (rest := []) (wr := [(z 2, .inl (T 0, 2040, .inl Y.H)), (z 3, .inl (T 0, 680, .inl Y.slo)), (z 4, .inl (T 0, 2, .inl Y.isv)), (z 6, .inl (T 0, 7, .inl c0.tried)), (z 7, .inl (T 0, 7, .inl c0.most)), (z 8, .inl (T 0, 7, .inl c0.best)), (z 9, .inl (T 0, 60, .inl Y.pad)), (z 10, .inl (T 0, 15, .inl c0.rd))]) F hW hl cs587 (r_copyA l D T (z 0) (z 1) (z 2) (z 3) (z 4) (z 5) (z 6) (z 7) (z 8) (z 9) (z 10) (nI Y.nh) (nI Y.pn) (nI c0.sp) c0.tree Y.all Y.all) [0, 1, 5] [2, 3, 4, 6, 7, 8, 9, 10] rfl rfl rfl rfl (by decide) 0 7 rfl rfl rfl rfl rfl (Nat.le_of_ble_eq_true rfl) ⟨Nat.le_of_ble_eq_true rfl, Nat.le_of_ble_eq_true rfl⟩ ⟨Nat.zero_le _, Nat.zero_le _⟩ dX7_best_22 (fun u22 H locs hr22 hW => ?_)
    have hW := Wd.ord hW (ws' := [(z 0, .inr (7, [.ref (z 1), .ref (z 2), .int (nI Y.nh), .ref (z 3), .ref (z 4), .ref (z 5), .ref (z 6), .ref (z 7), .ref (z 8), .ref (z 9), .int (nI Y.pn), .int (nI c0.sp), .ref (z 10)])), (z 1, .inl (T 0, 340, .inl (put Y.all 0 Y.all))), (z 2, .inl (T 0, 2040, .inl Y.H)), (z 3, .inl (T 0, 680, .inl Y.slo)), (z 4, .inl (T 0, 2, .inl Y.isv)), (z 5, .inl (T 0, 280, .inl (put c0.tree 0 Y.all))), (z 6, .inl (T 0, 7, .inl c0.tried)), (z 7, .inl (T 0, 7, .inl c0.most)), (z 8, .inl (T 0, 7, .inl c0.best)), (z 9, .inl (T 0, 60, .inl Y.pad)), (z 10, .inl (T 0, 15, .inl c0.rd))]) [8, 9, 0, 1, 2, 10, 3, 4, 5, 6, 7] rfl rfl
    refine lv_aload_n hx hb dX7_best_25 rfl (lv_at hl 0 rfl) ?_
    refine lv_iconst (v := nI 0) hx hb dX7_best_26 (by decide) ?_
    refine lv_iload_n hx hb dX7_best_27 rfl (lv_at hl 1 rfl) ?_
    refine cIV (As := [.int (nI 0), .int (nI k)]) (rest := []) (wr := [(z 1, .inl (T 0, 340, .inl (put Y.all 0 Y.all))), (z 2, .inl (T 0, 2040, .inl Y.H)), (z 3, .inl (T 0, 680, .inl Y.slo)), (z 4, .inl (T 0, 2, .inl Y.isv)), (z 9, .inl (T 0, 60, .inl Y.pad)), (z 10, .inl (T 0, 15, .inl c0.rd))]) F hW hl cs591 (r_bestOf l D T (z 0) (z 1) (z 2) (z 3) (z 4) (z 5) (z 6) (z 7) (z 8) (z 9) (z 10) (nI Y.nh) (nI Y.pn) (nI c0.sp) c0.tree Y.all c0.tried c0.most c0.best (dd := k) (by omega) hI) [0, 5, 6, 7, 8] [1, 2, 3, 4, 9, 10] rfl rfl rfl rfl (by decide) 0 7 rfl rfl rfl rfl rfl (Nat.le_of_ble_eq_true rfl) ⟨Nat.le_of_ble_eq_true rfl, Nat.le_of_ble_eq_true rfl⟩ ⟨Nat.zero_le _, Nat.zero_le _⟩ dX7_best_28 (fun r28 u28 H locs hr28 hW => ?_)
    have hW := Wd.ord hW (ws' := [(z 0, .inr (7, [.ref (z 1), .ref (z 2), .int (nI Y.nh), .ref (z 3), .ref (z 4), .ref (z 5), .ref (z 6), .ref (z 7), .ref (z 8), .ref (z 9), .int (nI Y.pn), .int (nI c0.sp), .ref (z 10)])), (z 1, .inl (T 0, 340, .inl (put Y.all 0 Y.all))), (z 2, .inl (T 0, 2040, .inl Y.H)), (z 3, .inl (T 0, 680, .inl Y.slo)), (z 4, .inl (T 0, 2, .inl Y.isv)), (z 5, .inl (T 0, 280, .inl u28.1)), (z 6, .inl (T 0, 7, .inl u28.2.1)), (z 7, .inl (T 0, 7, .inl u28.2.2.1)), (z 8, .inl (T 0, 7, .inl u28.2.2.2)), (z 9, .inl (T 0, 60, .inl Y.pad)), (z 10, .inl (T 0, 15, .inl c0.rd))]) [6, 0, 1, 2, 3, 7, 8, 9, 10, 4, 5] rfl rfl
    obtain ⟨hr28, htr28⟩ := hr28
    subst hr28
    have hW := Wd.arr hW 1 Y.all rfl (fun j _ => (put_g Y.all j).symm) (ws' := [(z 0, .inr (7, [.ref (z 1), .ref (z 2), .int (nI Y.nh), .ref (z 3), .ref (z 4), .ref (z 5), .ref (z 6), .ref (z 7), .ref (z 8), .ref (z 9), .int (nI Y.pn), .int (nI c0.sp), .ref (z 10)])), (z 1, .inl (T 0, 340, .inl Y.all)), (z 2, .inl (T 0, 2040, .inl Y.H)), (z 3, .inl (T 0, 680, .inl Y.slo)), (z 4, .inl (T 0, 2, .inl Y.isv)), (z 5, .inl (T 0, 280, .inl u28.1)), (z 6, .inl (T 0, 7, .inl u28.2.1)), (z 7, .inl (T 0, 7, .inl u28.2.2.1)), (z 8, .inl (T 0, 7, .inl u28.2.2.2)), (z 9, .inl (T 0, 60, .inl Y.pad)), (z 10, .inl (T 0, 15, .inl c0.rd))]) rfl
    have hy : yBest Y x = (bhM k Y.all, Y) := by unfold yBest; rw [if_pos q, ck]
    exact retI F hr hlk rfl hW (⟨u28.1, u28.2.1, u28.2.2.1, u28.2.2.2, c0.rd, c0.sp⟩ : SD) (congrArg Prod.fst hy).symm (congrArg (fun q => mw T z q.2 (⟨u28.1, u28.2.1, u28.2.2.1, u28.2.2.2, c0.rd, c0.sp⟩ : SD)) hy).symm dX7_best_31
  · have q : ¬ rng 1 4 x := fun q => absurd ((in_if (a := 1) (b := 4) (la := 1) (lb := 4) x (by decide) (by decide)).trans (if_pos q)) (by rw [h9]; decide)
    refine lv_bipush (v := -2) hx hb dX7_best_12 (by decide) ?_
    have hy : yBest Y x = (-2, Y) := if_neg q
    exact retI F hr hlk rfl hW (⟨c0.tree, c0.tried, c0.most, c0.best, c0.rd, c0.sp⟩ : SD) (congrArg Prod.fst hy).symm (congrArg (fun q => mw T z q.2 (⟨c0.tree, c0.tried, c0.most, c0.best, c0.rd, c0.sp⟩ : SD)) hy).symm dX7_best_14
set_option maxHeartbeats 4000000 in
set_option maxRecDepth 100000 in
theorem y_wipe (l : Launch) (D : va_G) (T : Nat → ClassId) (z : Nat → Nat) (Y : YD) (c0 : SD) (hY : YOK Y)  : KI (S := SD) l D T yX7_wipe cX7_wipe 2 (some .int) 6 [.ref (z 0)] [(z 0, .inr (7, [.ref (z 1), .ref (z 2), .int (nI Y.nh), .ref (z 3), .ref (z 4), .ref (z 5), .ref (z 6), .ref (z 7), .ref (z 8), .ref (z 9), .int (nI Y.pn), .int (nI c0.sp), .ref (z 10)])), (z 1, .inl (T 0, 340, .inl Y.all)), (z 2, .inl (T 0, 2040, .inl Y.H)), (z 3, .inl (T 0, 680, .inl Y.slo)), (z 4, .inl (T 0, 2, .inl Y.isv)), (z 5, .inl (T 0, 280, .inl c0.tree)), (z 6, .inl (T 0, 7, .inl c0.tried)), (z 7, .inl (T 0, 7, .inl c0.most)), (z 8, .inl (T 0, 7, .inl c0.best)), (z 9, .inl (T 0, 60, .inl Y.pad)), (z 10, .inl (T 0, 15, .inl c0.rd))] (fun r _ => r = (yWipe Y).1) (fun u => mw T z (yWipe Y).2 u) := by
  refine KI.of (by decide +kernel) (Nat.le_of_ble_eq_true rfl) (fun p e s m below meth c A F hr hlk hW ls hl => ?_)
  have hx := F.1
  have hb := F.2.1
  have hl : lv_has ls 2 [(0, .ref (z 0))] := hl
  obtain ⟨⟨⟨S0, hI⟩, h34⟩, hnh, hpn, hHi, hsl⟩ := hY
  have hI2 := hI
  obtain ⟨hJ, ⟨pl, hpl, h26⟩, h27, ⟨mk, h28, hm1, hm2⟩, h36, h37, hleg⟩ := hI2
  refine lv_aload_n hx hb dX7_wipe_0 rfl (lv_at hl 0 rfl) ?_
  refine gf492 F hW 0 rfl rfl dX7_wipe_1 ?_
  refine lv_istore_n (lv' := [(1, .int (nI Y.pn)), (0, .ref (z 0))]) hx hb dX7_wipe_4 rfl hl (by decide) rfl (fun ls hl => ?_)
  refine lv_aload_n hx hb dX7_wipe_5 rfl (lv_at hl 1 rfl) ?_
  refine lv_iconst (v := nI 0) hx hb dX7_wipe_6 (by decide) ?_
  refine pf492 (ws' := [(z 0, .inr (7, [.ref (z 1), .ref (z 2), .int (nI Y.nh), .ref (z 3), .ref (z 4), .ref (z 5), .ref (z 6), .ref (z 7), .ref (z 8), .ref (z 9), .int (nI 0), .int (nI c0.sp), .ref (z 10)])), (z 1, .inl (T 0, 340, .inl Y.all)), (z 2, .inl (T 0, 2040, .inl Y.H)), (z 3, .inl (T 0, 680, .inl Y.slo)), (z 4, .inl (T 0, 2, .inl Y.isv)), (z 5, .inl (T 0, 280, .inl c0.tree)), (z 6, .inl (T 0, 7, .inl c0.tried)), (z 7, .inl (T 0, 7, .inl c0.most)), (z 8, .inl (T 0, 7, .inl c0.best)), (z 9, .inl (T 0, 60, .inl Y.pad)), (z 10, .inl (T 0, 15, .inl c0.rd))]) F hW 0 rfl rfl rfl dX7_wipe_7 (fun H locs hW => ?_)
  refine lv_iload_n hx hb dX7_wipe_10 rfl (lv_at hl 0 rfl) ?_
  have hy : yWipe Y = (nI Y.pn, (Y.all, Y.H, Y.slo, Y.isv, Y.pad, Y.nh, 0)) := rfl
  exact retI F hr hlk rfl hW (⟨c0.tree, c0.tried, c0.most, c0.best, c0.rd, c0.sp⟩ : SD) (congrArg Prod.fst hy).symm (congrArg (fun q => mw T z q.2 (⟨c0.tree, c0.tried, c0.most, c0.best, c0.rd, c0.sp⟩ : SD)) hy).symm dX7_wipe_11
set_option maxHeartbeats 4000000 in
set_option maxRecDepth 100000 in
theorem y_fault (l : Launch) (D : va_G) (T : Nat → ClassId) (z : Nat → Nat) (Y : YD) (c0 : SD) (hY : YOK Y)  : KI (S := SD) l D T yX7_fault cX7_fault 1 (some .int) 6 [.ref (z 0)] [(z 0, .inr (7, [.ref (z 1), .ref (z 2), .int (nI Y.nh), .ref (z 3), .ref (z 4), .ref (z 5), .ref (z 6), .ref (z 7), .ref (z 8), .ref (z 9), .int (nI Y.pn), .int (nI c0.sp), .ref (z 10)])), (z 1, .inl (T 0, 340, .inl Y.all)), (z 2, .inl (T 0, 2040, .inl Y.H)), (z 3, .inl (T 0, 680, .inl Y.slo)), (z 4, .inl (T 0, 2, .inl Y.isv)), (z 5, .inl (T 0, 280, .inl c0.tree)), (z 6, .inl (T 0, 7, .inl c0.tried)), (z 7, .inl (T 0, 7, .inl c0.most)), (z 8, .inl (T 0, 7, .inl c0.best)), (z 9, .inl (T 0, 60, .inl Y.pad)), (z 10, .inl (T 0, 15, .inl c0.rd))] (fun r _ => r = (yFault Y).1) (fun u => mw T z (yFault Y).2 u) := by
  refine KI.of (by decide +kernel) (Nat.le_of_ble_eq_true rfl) (fun p e s m below meth c A F hr hlk hW ls hl => ?_)
  have hx := F.1
  have hb := F.2.1
  have hl : lv_has ls 1 [(0, .ref (z 0))] := hl
  obtain ⟨⟨⟨S0, hI⟩, h34⟩, hnh, hpn, hHi, hsl⟩ := hY
  have hI2 := hI
  obtain ⟨hJ, ⟨pl, hpl, h26⟩, h27, ⟨mk, h28, hm1, hm2⟩, h36, h37, hleg⟩ := hI2
  refine lv_aload_n hx hb dX7_fault_0 rfl (lv_at hl 0 rfl) ?_
  refine cIV (As := []) (rest := []) (wr := [(z 1, .inl (T 0, 340, .inl Y.all)), (z 2, .inl (T 0, 2040, .inl Y.H)), (z 3, .inl (T 0, 680, .inl Y.slo)), (z 4, .inl (T 0, 2, .inl Y.isv)), (z 5, .inl (T 0, 280, .inl c0.tree)), (z 6, .inl (T 0, 7, .inl c0.tried)), (z 7, .inl (T 0, 7, .inl c0.most)), (z 8, .inl (T 0, 7, .inl c0.best))]) F hW hl cs607 (r_faultOf l D T (z 0) (z 1) (z 2) (z 3) (z 4) (z 5) (z 6) (z 7) (z 8) (z 9) (z 10) (nI Y.nh) Y.pad c0.rd (n := Y.pn) c0.sp (by omega)) [0, 9, 10] [1, 2, 3, 4, 5, 6, 7, 8] rfl rfl rfl rfl (by decide) 0 7 rfl rfl rfl rfl rfl (Nat.le_of_ble_eq_true rfl) ⟨Nat.le_of_ble_eq_true rfl, Nat.le_of_ble_eq_true rfl⟩ ⟨Nat.zero_le _, Nat.zero_le _⟩ dX7_fault_1 (fun r1 u1 H locs hr1 hW => ?_)
  have hW := Wd.ord hW (ws' := [(z 0, .inr (7, [.ref (z 1), .ref (z 2), .int (nI Y.nh), .ref (z 3), .ref (z 4), .ref (z 5), .ref (z 6), .ref (z 7), .ref (z 8), .ref (z 9), .int (nI Y.pn), .int (nI u1.1), .ref (z 10)])), (z 1, .inl (T 0, 340, .inl Y.all)), (z 2, .inl (T 0, 2040, .inl Y.H)), (z 3, .inl (T 0, 680, .inl Y.slo)), (z 4, .inl (T 0, 2, .inl Y.isv)), (z 5, .inl (T 0, 280, .inl c0.tree)), (z 6, .inl (T 0, 7, .inl c0.tried)), (z 7, .inl (T 0, 7, .inl c0.most)), (z 8, .inl (T 0, 7, .inl c0.best)), (z 9, .inl (T 0, 60, .inl Y.pad)), (z 10, .inl (T 0, 15, .inl u1.2))]) [8, 0, 1, 2, 3, 4, 5, 6, 7, 9, 10] rfl rfl
  obtain ⟨ubr1, hr1, urr1⟩ := hr1
  subst hr1
  have e1 := (scan_cg Y.pn 0 0 0 Y.pad c0.rd (fun _ => 0) (by omega) (by decide) (fun j hj => absurd hj (Nat.not_lt_zero j)) (fun h => absurd h (Nat.lt_irrefl 0))).1
  have hy : yFault Y = ((scanF Y.pn 0 0 0 Y.pad c0.rd).1, Y) := by unfold yFault scY; rw [e1]
  exact retI F hr hlk rfl hW (⟨c0.tree, c0.tried, c0.most, c0.best, u1.2, u1.1⟩ : SD) (congrArg Prod.fst hy).symm (congrArg (fun q => mw T z q.2 (⟨c0.tree, c0.tried, c0.most, c0.best, u1.2, u1.1⟩ : SD)) hy).symm dX7_fault_4
set_option maxHeartbeats 4000000 in
set_option maxRecDepth 100000 in
theorem y_save (l : Launch) (D : va_G) (T : Nat → ClassId) (z : Nat → Nat) (Y : YD) (c0 : SD) (hY : YOK Y) (x : Int32) : KI (S := SD) l D T yX7_save cX7_save 3 (some .int) 6 [.ref (z 0), .int x] [(z 0, .inr (7, [.ref (z 1), .ref (z 2), .int (nI Y.nh), .ref (z 3), .ref (z 4), .ref (z 5), .ref (z 6), .ref (z 7), .ref (z 8), .ref (z 9), .int (nI Y.pn), .int (nI c0.sp), .ref (z 10)])), (z 1, .inl (T 0, 340, .inl Y.all)), (z 2, .inl (T 0, 2040, .inl Y.H)), (z 3, .inl (T 0, 680, .inl Y.slo)), (z 4, .inl (T 0, 2, .inl Y.isv)), (z 5, .inl (T 0, 280, .inl c0.tree)), (z 6, .inl (T 0, 7, .inl c0.tried)), (z 7, .inl (T 0, 7, .inl c0.most)), (z 8, .inl (T 0, 7, .inl c0.best)), (z 9, .inl (T 0, 60, .inl Y.pad)), (z 10, .inl (T 0, 15, .inl c0.rd))] (fun r _ => r = (ySave Y x).1) (fun u => mw T z (ySave Y x).2 u) := by
  refine KI.of (by decide +kernel) (Nat.le_of_ble_eq_true rfl) (fun p e s m below meth c A F hr hlk hW ls hl => ?_)
  have hx := F.1
  have hb := F.2.1
  have hl : lv_has ls 3 [(0, .ref (z 0)), (1, .int x)] := hl
  obtain ⟨⟨⟨S0, hI⟩, h34⟩, hnh, hpn, hHi, hsl⟩ := hY
  have hI2 := hI
  obtain ⟨hJ, ⟨pl, hpl, h26⟩, h27, ⟨mk, h28, hm1, hm2⟩, h36, h37, hleg⟩ := hI2
  refine lv_iload_n hx hb dX7_save_0 rfl (lv_at hl 1 rfl) ?_
  refine lv_i2l (v := x.toInt64) hx hb dX7_save_1 rfl ?_
  refine lv_lconst (v := 0) hx hb dX7_save_2 (by decide) ?_
  refine lv_lconst (v := 1) hx hb dX7_save_3 (by decide) ?_
  refine cRS (As := [.long x.toInt64, .long 0, .long 1]) (rest := []) F hW hl cs530 (r_in l D T x.toInt64 0 1) [] rfl rfl rfl rfl (Nat.le_of_ble_eq_true rfl) ⟨Nat.le_of_ble_eq_true rfl, Nat.le_of_ble_eq_true rfl⟩ ⟨Nat.zero_le _, Nat.zero_le _⟩ dX7_save_4 (fun r4 hr4 => ?_)
  subst hr4
  refine lv_if_ne (tgt := 13) hx hb dX7_save_7 (by decide) (fun h7 => ?_) (fun h7 => ?_)
  · have q : rng 0 1 x := Decidable.not_not.mp (fun q => h7 ((in_if (a := 0) (b := 1) (la := 0) (lb := 1) x (by decide) (by decide)).trans (if_neg q)))
    obtain ⟨k, kb, kl, ek, ck⟩ := rng_nat q
    rw [ek] at hl
    refine lv_iconst (v := nI 0) hx hb dX7_save_13 (by decide) ?_
    refine lv_istore_n (lv' := [(2, .int (nI 0)), (0, .ref (z 0)), (1, .int (nI k))]) hx hb dX7_save_14 rfl hl (by decide) rfl (fun ls hl => ?_)
    have hW := Wd.arr hW 3 (lay Y.slo (340 * k) Y.all 0) rfl (fun j _ => lay_0 _ _ _ j) (ws' := [(z 0, .inr (7, [.ref (z 1), .ref (z 2), .int (nI Y.nh), .ref (z 3), .ref (z 4), .ref (z 5), .ref (z 6), .ref (z 7), .ref (z 8), .ref (z 9), .int (nI Y.pn), .int (nI c0.sp), .ref (z 10)])), (z 1, .inl (T 0, 340, .inl Y.all)), (z 2, .inl (T 0, 2040, .inl Y.H)), (z 3, .inl (T 0, 680, .inl (lay Y.slo (340 * k) Y.all 0))), (z 4, .inl (T 0, 2, .inl Y.isv)), (z 5, .inl (T 0, 280, .inl c0.tree)), (z 6, .inl (T 0, 7, .inl c0.tried)), (z 7, .inl (T 0, 7, .inl c0.most)), (z 8, .inl (T 0, 7, .inl c0.best)), (z 9, .inl (T 0, 60, .inl Y.pad)), (z 10, .inl (T 0, 15, .inl c0.rd))]) rfl
    refine W.loop (fun n H2 locs2 ls2 => ∃ i, i ≤ 340 ∧ n = 340 - i ∧ Wd D T A s [(z 0, .inr (7, [.ref (z 1), .ref (z 2), .int (nI Y.nh), .ref (z 3), .ref (z 4), .ref (z 5), .ref (z 6), .ref (z 7), .ref (z 8), .ref (z 9), .int (nI Y.pn), .int (nI c0.sp), .ref (z 10)])), (z 1, .inl (T 0, 340, .inl Y.all)), (z 2, .inl (T 0, 2040, .inl Y.H)), (z 3, .inl (T 0, 680, .inl (lay Y.slo (340 * k) Y.all i))), (z 4, .inl (T 0, 2, .inl Y.isv)), (z 5, .inl (T 0, 280, .inl c0.tree)), (z 6, .inl (T 0, 7, .inl c0.tried)), (z 7, .inl (T 0, 7, .inl c0.most)), (z 8, .inl (T 0, 7, .inl c0.best)), (z 9, .inl (T 0, 60, .inl Y.pad)), (z 10, .inl (T 0, 15, .inl c0.rd))] H2 locs2 ∧ lv_has ls2 3 [(0, .ref (z 0)), (1, .int (nI k)), (2, .int (nI i))]) ?_ 340 ⟨0, by omega, rfl, hW, lv_sub hl [1, 2, 0] rfl⟩
    rintro n H locs ls ⟨i, hi, rfl, hW, hl⟩ ih
    refine lv_iload_n hx hb dX7_save_15 rfl (lv_at hl 2 rfl) ?_
    refine lv_sipush (v := nI 340) hx hb dX7_save_16 (by decide) ?_
    refine lv_icmp_ge (tgt := 46) hx hb dX7_save_19 (by decide) (fun h19 => ?_) (fun h19 => ?_)
    · have h5q : i = 340 := by have := n_le h19 (by omega) (by omega); omega
      subst h5q
      refine lv_aload_n hx hb dX7_save_46 rfl (lv_at hl 0 rfl) ?_
      refine gf486 F hW 0 rfl rfl dX7_save_47 ?_
      refine lv_iload_n hx hb dX7_save_50 rfl (lv_at hl 1 rfl) ?_
      refine lv_iconst (v := 1) hx hb dX7_save_51 (by decide) ?_
      refine ast (ws' := [(z 0, .inr (7, [.ref (z 1), .ref (z 2), .int (nI Y.nh), .ref (z 3), .ref (z 4), .ref (z 5), .ref (z 6), .ref (z 7), .ref (z 8), .ref (z 9), .int (nI Y.pn), .int (nI c0.sp), .ref (z 10)])), (z 1, .inl (T 0, 340, .inl Y.all)), (z 2, .inl (T 0, 2040, .inl Y.H)), (z 3, .inl (T 0, 680, .inl (lay Y.slo (340 * k) Y.all 340))), (z 4, .inl (T 0, 2, .inl (upd Y.isv k 1))), (z 5, .inl (T 0, 280, .inl c0.tree)), (z 6, .inl (T 0, 7, .inl c0.tried)), (z 7, .inl (T 0, 7, .inl c0.most)), (z 8, .inl (T 0, 7, .inl c0.best)), (z 9, .inl (T 0, 60, .inl Y.pad)), (z 10, .inl (T 0, 15, .inl c0.rd))]) F hW 4 (upd Y.isv k 1) rfl k rfl (by omega) (by decide) (fun _ _ => rfl) rfl dX7_save_52 (fun H locs hW => ?_)
      refine lv_aload_n hx hb dX7_save_53 rfl (lv_at hl 0 rfl) ?_
      refine gf482 F hW 0 rfl rfl dX7_save_54 ?_
      refine lv_bipush (v := nI 28) hx hb dX7_save_57 (by decide) ?_
      refine ald F hW 1 rfl (x := Y.all 28) 28 rfl (by omega) (by decide) rfl dX7_save_59 ?_
      have hy : ySave Y x = (Y.all 28, (Y.all, Y.H, lay Y.slo (340 * k) Y.all 340, upd Y.isv k 1, Y.pad, Y.nh, Y.pn)) := by unfold ySave; rw [if_pos q, ck]
      exact retI F hr hlk rfl hW (⟨c0.tree, c0.tried, c0.most, c0.best, c0.rd, c0.sp⟩ : SD) (congrArg Prod.fst hy).symm (congrArg (fun q => mw T z q.2 (⟨c0.tree, c0.tried, c0.most, c0.best, c0.rd, c0.sp⟩ : SD)) hy).symm dX7_save_60
    · have h5q : i < 340 := n_nle h19 (by decide) (by omega)
      refine lv_aload_n hx hb dX7_save_22 rfl (lv_at hl 0 rfl) ?_
      refine gf485 F hW 0 rfl rfl dX7_save_23 ?_
      refine lv_sipush (v := nI 340) hx hb dX7_save_26 (by decide) ?_
      refine lv_iload_n hx hb dX7_save_29 rfl (lv_at hl 1 rfl) ?_
      refine imulE (z := nI (340 * k)) hx hb dX7_save_30 (pk_mul _ _) ?_
      refine lv_iload_n hx hb dX7_save_31 rfl (lv_at hl 2 rfl) ?_
      refine iaddE (z := nI ((340 * k) + i)) hx hb dX7_save_32 (nI_add _ _) ?_
      refine lv_aload_n hx hb dX7_save_33 rfl (lv_at hl 0 rfl) ?_
      refine gf482 F hW 0 rfl rfl dX7_save_34 ?_
      refine lv_iload_n hx hb dX7_save_37 rfl (lv_at hl 2 rfl) ?_
      refine ald F hW 1 rfl (x := Y.all i) i rfl (by omega) (by decide) rfl dX7_save_38 ?_
      refine ast (ws' := [(z 0, .inr (7, [.ref (z 1), .ref (z 2), .int (nI Y.nh), .ref (z 3), .ref (z 4), .ref (z 5), .ref (z 6), .ref (z 7), .ref (z 8), .ref (z 9), .int (nI Y.pn), .int (nI c0.sp), .ref (z 10)])), (z 1, .inl (T 0, 340, .inl Y.all)), (z 2, .inl (T 0, 2040, .inl Y.H)), (z 3, .inl (T 0, 680, .inl (lay Y.slo (340 * k) Y.all (i + 1)))), (z 4, .inl (T 0, 2, .inl Y.isv)), (z 5, .inl (T 0, 280, .inl c0.tree)), (z 6, .inl (T 0, 7, .inl c0.tried)), (z 7, .inl (T 0, 7, .inl c0.most)), (z 8, .inl (T 0, 7, .inl c0.best)), (z 9, .inl (T 0, 60, .inl Y.pad)), (z 10, .inl (T 0, 15, .inl c0.rd))]) F hW 3 (lay Y.slo (340 * k) Y.all (i + 1)) rfl ((340 * k) + i) rfl (by omega) (by decide) (fun j _ => lay_s j) rfl dX7_save_39 (fun H locs hW => ?_)
      refine lv_iinc (v := nI (i + 1)) (lv' := [(2, .int (nI (i + 1))), (0, .ref (z 0)), (1, .int (nI k))]) hx hb dX7_save_40 hl (k := 2) rfl (nI_add _ _) (by decide) rfl (fun ls hl => ?_)
      refine lv_goto (tgt := 15) hx hb dX7_save_43 (by decide) ?_
      exact ih (340 - (i + 1)) _ _ _ (by omega) ⟨i + 1, by omega, rfl, hW, lv_sub hl [1, 2, 0] rfl⟩
  · have q : ¬ rng 0 1 x := fun q => absurd ((in_if (a := 0) (b := 1) (la := 0) (lb := 1) x (by decide) (by decide)).trans (if_pos q)) (by rw [h7]; decide)
    refine lv_bipush (v := -2) hx hb dX7_save_10 (by decide) ?_
    have hy : ySave Y x = (-2, Y) := if_neg q
    exact retI F hr hlk rfl hW (⟨c0.tree, c0.tried, c0.most, c0.best, c0.rd, c0.sp⟩ : SD) (congrArg Prod.fst hy).symm (congrArg (fun q => mw T z q.2 (⟨c0.tree, c0.tried, c0.most, c0.best, c0.rd, c0.sp⟩ : SD)) hy).symm dX7_save_12
set_option maxHeartbeats 4000000 in
set_option maxRecDepth 100000 in
theorem y_undo (l : Launch) (D : va_G) (T : Nat → ClassId) (z : Nat → Nat) (Y : YD) (c0 : SD) (hY : YOK Y)  : KI (S := SD) l D T yX7_undo cX7_undo 2 (some .int) 6 [.ref (z 0)] [(z 0, .inr (7, [.ref (z 1), .ref (z 2), .int (nI Y.nh), .ref (z 3), .ref (z 4), .ref (z 5), .ref (z 6), .ref (z 7), .ref (z 8), .ref (z 9), .int (nI Y.pn), .int (nI c0.sp), .ref (z 10)])), (z 1, .inl (T 0, 340, .inl Y.all)), (z 2, .inl (T 0, 2040, .inl Y.H)), (z 3, .inl (T 0, 680, .inl Y.slo)), (z 4, .inl (T 0, 2, .inl Y.isv)), (z 5, .inl (T 0, 280, .inl c0.tree)), (z 6, .inl (T 0, 7, .inl c0.tried)), (z 7, .inl (T 0, 7, .inl c0.most)), (z 8, .inl (T 0, 7, .inl c0.best)), (z 9, .inl (T 0, 60, .inl Y.pad)), (z 10, .inl (T 0, 15, .inl c0.rd))] (fun r _ => r = (yUndo Y).1) (fun u => mw T z (yUndo Y).2 u) := by
  refine KI.of (by decide +kernel) (Nat.le_of_ble_eq_true rfl) (fun p e s m below meth c A F hr hlk hW ls hl => ?_)
  have hx := F.1
  have hb := F.2.1
  have hl : lv_has ls 2 [(0, .ref (z 0))] := hl
  obtain ⟨⟨⟨S0, hI⟩, h34⟩, hnh, hpn, hHi, hsl⟩ := hY
  have hI2 := hI
  obtain ⟨hJ, ⟨pl, hpl, h26⟩, h27, ⟨mk, h28, hm1, hm2⟩, h36, h37, hleg⟩ := hI2
  refine lv_aload_n hx hb dX7_undo_0 rfl (lv_at hl 0 rfl) ?_
  refine gf484 F hW 0 rfl rfl dX7_undo_1 ?_
  refine lv_if_ne (tgt := 10) hx hb dX7_undo_4 (by decide) (fun h4 => ?_) (fun h4 => ?_)
  · have q : ¬ Y.nh = 0 := fun q => h4 (by rw [q]; rfl)
    refine lv_aload_n hx hb dX7_undo_10 rfl (lv_at hl 0 rfl) ?_
    refine lv_dup hx hb dX7_undo_11 rfl ?_
    refine gf484 F hW 0 rfl rfl dX7_undo_12 ?_
    refine lv_iconst (v := nI 1) hx hb dX7_undo_15 (by decide) ?_
    refine isubE (z := nI (Y.nh - 1)) hx hb dX7_undo_16 (pk_sub (by omega)) ?_
    refine pf484 (ws' := [(z 0, .inr (7, [.ref (z 1), .ref (z 2), .int (nI (Y.nh - 1)), .ref (z 3), .ref (z 4), .ref (z 5), .ref (z 6), .ref (z 7), .ref (z 8), .ref (z 9), .int (nI Y.pn), .int (nI c0.sp), .ref (z 10)])), (z 1, .inl (T 0, 340, .inl Y.all)), (z 2, .inl (T 0, 2040, .inl Y.H)), (z 3, .inl (T 0, 680, .inl Y.slo)), (z 4, .inl (T 0, 2, .inl Y.isv)), (z 5, .inl (T 0, 280, .inl c0.tree)), (z 6, .inl (T 0, 7, .inl c0.tried)), (z 7, .inl (T 0, 7, .inl c0.most)), (z 8, .inl (T 0, 7, .inl c0.best)), (z 9, .inl (T 0, 60, .inl Y.pad)), (z 10, .inl (T 0, 15, .inl c0.rd))]) F hW 0 rfl rfl rfl dX7_undo_17 (fun H locs hW => ?_)
    refine lv_iconst (v := nI 0) hx hb dX7_undo_20 (by decide) ?_
    refine lv_istore_n (lv' := [(1, .int (nI 0)), (0, .ref (z 0))]) hx hb dX7_undo_21 rfl hl (by decide) rfl (fun ls hl => ?_)
    have hW := Wd.arr hW 1 (lay Y.all 0 (fun j => Y.H (340 * (Y.nh - 1) + j)) 0) rfl (fun j _ => lay_0 _ _ _ j) (ws' := [(z 0, .inr (7, [.ref (z 1), .ref (z 2), .int (nI (Y.nh - 1)), .ref (z 3), .ref (z 4), .ref (z 5), .ref (z 6), .ref (z 7), .ref (z 8), .ref (z 9), .int (nI Y.pn), .int (nI c0.sp), .ref (z 10)])), (z 1, .inl (T 0, 340, .inl (lay Y.all 0 (fun j => Y.H (340 * (Y.nh - 1) + j)) 0))), (z 2, .inl (T 0, 2040, .inl Y.H)), (z 3, .inl (T 0, 680, .inl Y.slo)), (z 4, .inl (T 0, 2, .inl Y.isv)), (z 5, .inl (T 0, 280, .inl c0.tree)), (z 6, .inl (T 0, 7, .inl c0.tried)), (z 7, .inl (T 0, 7, .inl c0.most)), (z 8, .inl (T 0, 7, .inl c0.best)), (z 9, .inl (T 0, 60, .inl Y.pad)), (z 10, .inl (T 0, 15, .inl c0.rd))]) rfl
    refine W.loop (fun n H2 locs2 ls2 => ∃ i, i ≤ 340 ∧ n = 340 - i ∧ Wd D T A s [(z 0, .inr (7, [.ref (z 1), .ref (z 2), .int (nI (Y.nh - 1)), .ref (z 3), .ref (z 4), .ref (z 5), .ref (z 6), .ref (z 7), .ref (z 8), .ref (z 9), .int (nI Y.pn), .int (nI c0.sp), .ref (z 10)])), (z 1, .inl (T 0, 340, .inl (lay Y.all 0 (fun j => Y.H (340 * (Y.nh - 1) + j)) i))), (z 2, .inl (T 0, 2040, .inl Y.H)), (z 3, .inl (T 0, 680, .inl Y.slo)), (z 4, .inl (T 0, 2, .inl Y.isv)), (z 5, .inl (T 0, 280, .inl c0.tree)), (z 6, .inl (T 0, 7, .inl c0.tried)), (z 7, .inl (T 0, 7, .inl c0.most)), (z 8, .inl (T 0, 7, .inl c0.best)), (z 9, .inl (T 0, 60, .inl Y.pad)), (z 10, .inl (T 0, 15, .inl c0.rd))] H2 locs2 ∧ lv_has ls2 2 [(0, .ref (z 0)), (1, .int (nI i))]) ?_ 340 ⟨0, by omega, rfl, hW, lv_sub hl [1, 0] rfl⟩
    rintro n H locs ls ⟨i, hi, rfl, hW, hl⟩ ih
    refine lv_iload_n hx hb dX7_undo_22 rfl (lv_at hl 1 rfl) ?_
    refine lv_sipush (v := nI 340) hx hb dX7_undo_23 (by decide) ?_
    refine lv_icmp_ge (tgt := 56) hx hb dX7_undo_26 (by decide) (fun h26 => ?_) (fun h26 => ?_)
    · have h5q : i = 340 := by have := n_le h26 (by omega) (by omega); omega
      subst h5q
      have hW := Wd.arr hW 1 (fun j => Y.H (340 * (Y.nh - 1) + j)) rfl (fun j hj => lay_g _ _ _ hj) (ws' := [(z 0, .inr (7, [.ref (z 1), .ref (z 2), .int (nI (Y.nh - 1)), .ref (z 3), .ref (z 4), .ref (z 5), .ref (z 6), .ref (z 7), .ref (z 8), .ref (z 9), .int (nI Y.pn), .int (nI c0.sp), .ref (z 10)])), (z 1, .inl (T 0, 340, .inl (fun j => Y.H (340 * (Y.nh - 1) + j)))), (z 2, .inl (T 0, 2040, .inl Y.H)), (z 3, .inl (T 0, 680, .inl Y.slo)), (z 4, .inl (T 0, 2, .inl Y.isv)), (z 5, .inl (T 0, 280, .inl c0.tree)), (z 6, .inl (T 0, 7, .inl c0.tried)), (z 7, .inl (T 0, 7, .inl c0.most)), (z 8, .inl (T 0, 7, .inl c0.best)), (z 9, .inl (T 0, 60, .inl Y.pad)), (z 10, .inl (T 0, 15, .inl c0.rd))]) rfl
      refine lv_aload_n hx hb dX7_undo_56 rfl (lv_at hl 0 rfl) ?_
      refine gf484 F hW 0 rfl rfl dX7_undo_57 ?_
      have hy : yUndo Y = (nI (Y.nh - 1), (fun j => Y.H (340 * (Y.nh - 1) + j), Y.H, Y.slo, Y.isv, Y.pad, Y.nh - 1, Y.pn)) := if_neg q
      exact retI F hr hlk rfl hW (⟨c0.tree, c0.tried, c0.most, c0.best, c0.rd, c0.sp⟩ : SD) (congrArg Prod.fst hy).symm (congrArg (fun q => mw T z q.2 (⟨c0.tree, c0.tried, c0.most, c0.best, c0.rd, c0.sp⟩ : SD)) hy).symm dX7_undo_60
    · have h5q : i < 340 := n_nle h26 (by decide) (by omega)
      refine lv_aload_n hx hb dX7_undo_29 rfl (lv_at hl 0 rfl) ?_
      refine gf482 F hW 0 rfl rfl dX7_undo_30 ?_
      refine lv_iload_n hx hb dX7_undo_33 rfl (lv_at hl 1 rfl) ?_
      refine lv_aload_n hx hb dX7_undo_34 rfl (lv_at hl 0 rfl) ?_
      refine gf483 F hW 0 rfl rfl dX7_undo_35 ?_
      refine lv_sipush (v := nI 340) hx hb dX7_undo_38 (by decide) ?_
      refine lv_aload_n hx hb dX7_undo_41 rfl (lv_at hl 0 rfl) ?_
      refine gf484 F hW 0 rfl rfl dX7_undo_42 ?_
      refine imulE (z := nI (340 * (Y.nh - 1))) hx hb dX7_undo_45 (pk_mul _ _) ?_
      refine lv_iload_n hx hb dX7_undo_46 rfl (lv_at hl 1 rfl) ?_
      refine iaddE (z := nI ((340 * (Y.nh - 1)) + i)) hx hb dX7_undo_47 (nI_add _ _) ?_
      refine ald F hW 2 rfl (x := Y.H ((340 * (Y.nh - 1)) + i)) ((340 * (Y.nh - 1)) + i) rfl (by omega) (by decide) rfl dX7_undo_48 ?_
      refine ast (ws' := [(z 0, .inr (7, [.ref (z 1), .ref (z 2), .int (nI (Y.nh - 1)), .ref (z 3), .ref (z 4), .ref (z 5), .ref (z 6), .ref (z 7), .ref (z 8), .ref (z 9), .int (nI Y.pn), .int (nI c0.sp), .ref (z 10)])), (z 1, .inl (T 0, 340, .inl (lay Y.all 0 (fun j => Y.H (340 * (Y.nh - 1) + j)) (i + 1)))), (z 2, .inl (T 0, 2040, .inl Y.H)), (z 3, .inl (T 0, 680, .inl Y.slo)), (z 4, .inl (T 0, 2, .inl Y.isv)), (z 5, .inl (T 0, 280, .inl c0.tree)), (z 6, .inl (T 0, 7, .inl c0.tried)), (z 7, .inl (T 0, 7, .inl c0.most)), (z 8, .inl (T 0, 7, .inl c0.best)), (z 9, .inl (T 0, 60, .inl Y.pad)), (z 10, .inl (T 0, 15, .inl c0.rd))]) F hW 1 (lay Y.all 0 (fun j => Y.H (340 * (Y.nh - 1) + j)) (i + 1)) rfl i rfl (by omega) (by decide) (fun j _ => by have := lay_s (H := Y.all) (g := fun j => Y.H (340 * (Y.nh - 1) + j)) (b := 0) (k := i) j; rw [Nat.zero_add] at this; exact this) rfl dX7_undo_49 (fun H locs hW => ?_)
      refine lv_iinc (v := nI (i + 1)) (lv' := [(1, .int (nI (i + 1))), (0, .ref (z 0))]) hx hb dX7_undo_50 hl (k := 1) rfl (nI_add _ _) (by decide) rfl (fun ls hl => ?_)
      refine lv_goto (tgt := 22) hx hb dX7_undo_53 (by decide) ?_
      exact ih (340 - (i + 1)) _ _ _ (by omega) ⟨i + 1, by omega, rfl, hW, lv_sub hl [1, 0] rfl⟩
  · have q : Y.nh = 0 := n_eq (b := 0) h4 (by omega) (by decide)
    refine lv_bipush (v := -5) hx hb dX7_undo_7 (by decide) ?_
    have hy : yUndo Y = (-5, Y) := if_pos q
    exact retI F hr hlk rfl hW (⟨c0.tree, c0.tried, c0.most, c0.best, c0.rd, c0.sp⟩ : SD) (congrArg Prod.fst hy).symm (congrArg (fun q => mw T z q.2 (⟨c0.tree, c0.tried, c0.most, c0.best, c0.rd, c0.sp⟩ : SD)) hy).symm dX7_undo_9
set_option maxHeartbeats 4000000 in
set_option maxRecDepth 100000 in
theorem y_restore (l : Launch) (D : va_G) (T : Nat → ClassId) (z : Nat → Nat) (Y : YD) (c0 : SD) (hY : YOK Y) (x : Int32) : KI (S := SD) l D T yX7_restore cX7_restore 3 (some .int) 6 [.ref (z 0), .int x] [(z 0, .inr (7, [.ref (z 1), .ref (z 2), .int (nI Y.nh), .ref (z 3), .ref (z 4), .ref (z 5), .ref (z 6), .ref (z 7), .ref (z 8), .ref (z 9), .int (nI Y.pn), .int (nI c0.sp), .ref (z 10)])), (z 1, .inl (T 0, 340, .inl Y.all)), (z 2, .inl (T 0, 2040, .inl Y.H)), (z 3, .inl (T 0, 680, .inl Y.slo)), (z 4, .inl (T 0, 2, .inl Y.isv)), (z 5, .inl (T 0, 280, .inl c0.tree)), (z 6, .inl (T 0, 7, .inl c0.tried)), (z 7, .inl (T 0, 7, .inl c0.most)), (z 8, .inl (T 0, 7, .inl c0.best)), (z 9, .inl (T 0, 60, .inl Y.pad)), (z 10, .inl (T 0, 15, .inl c0.rd))] (fun r _ => r = (yRestore Y x).1) (fun u => mw T z (yRestore Y x).2 u) := by
  refine KI.of (by decide +kernel) (Nat.le_of_ble_eq_true rfl) (fun p e s m below meth c A F hr hlk hW ls hl => ?_)
  have hx := F.1
  have hb := F.2.1
  have hl : lv_has ls 3 [(0, .ref (z 0)), (1, .int x)] := hl
  obtain ⟨⟨⟨S0, hI⟩, h34⟩, hnh, hpn, hHi, hsl⟩ := hY
  have hI2 := hI
  obtain ⟨hJ, ⟨pl, hpl, h26⟩, h27, ⟨mk, h28, hm1, hm2⟩, h36, h37, hleg⟩ := hI2
  refine lv_iload_n hx hb dX7_restore_0 rfl (lv_at hl 1 rfl) ?_
  refine lv_i2l (v := x.toInt64) hx hb dX7_restore_1 rfl ?_
  refine lv_lconst (v := 0) hx hb dX7_restore_2 (by decide) ?_
  refine lv_lconst (v := 1) hx hb dX7_restore_3 (by decide) ?_
  refine cRS (As := [.long x.toInt64, .long 0, .long 1]) (rest := []) F hW hl cs530 (r_in l D T x.toInt64 0 1) [] rfl rfl rfl rfl (Nat.le_of_ble_eq_true rfl) ⟨Nat.le_of_ble_eq_true rfl, Nat.le_of_ble_eq_true rfl⟩ ⟨Nat.zero_le _, Nat.zero_le _⟩ dX7_restore_4 (fun r4 hr4 => ?_)
  subst hr4
  refine lv_if_ne (tgt := 13) hx hb dX7_restore_7 (by decide) (fun h7 => ?_) (fun h7 => ?_)
  · have q : rng 0 1 x := Decidable.not_not.mp (fun q => h7 ((in_if (a := 0) (b := 1) (la := 0) (lb := 1) x (by decide) (by decide)).trans (if_neg q)))
    obtain ⟨k, kb, kl, ek, ck⟩ := rng_nat q
    rw [ek] at hl
    refine lv_aload_n hx hb dX7_restore_13 rfl (lv_at hl 0 rfl) ?_
    refine gf486 F hW 0 rfl rfl dX7_restore_14 ?_
    refine lv_iload_n hx hb dX7_restore_17 rfl (lv_at hl 1 rfl) ?_
    refine ald F hW 4 rfl (x := Y.isv k) k rfl (by omega) (by decide) rfl dX7_restore_18 ?_
    refine lv_if_ne (tgt := 25) hx hb dX7_restore_19 (by decide) (fun h19 => ?_) (fun h19 => ?_)
    · refine lv_aload_n hx hb dX7_restore_25 rfl (lv_at hl 0 rfl) ?_
      refine cVV (As := []) (rest := []) (wr := [(z 3, .inl (T 0, 680, .inl Y.slo)), (z 4, .inl (T 0, 2, .inl Y.isv)), (z 5, .inl (T 0, 280, .inl c0.tree)), (z 6, .inl (T 0, 7, .inl c0.tried)), (z 7, .inl (T 0, 7, .inl c0.most)), (z 8, .inl (T 0, 7, .inl c0.best)), (z 9, .inl (T 0, 60, .inl Y.pad)), (z 10, .inl (T 0, 15, .inl c0.rd))]) F hW hl cs535 (r_record l D T (z 0) (z 1) (z 2) (z 3) (z 4) (z 5) (z 6) (z 7) (z 8) (z 9) (z 10) (nI Y.pn) (nI c0.sp) Y.all Y.H (n := Y.nh) (by omega)) [0, 1, 2] [3, 4, 5, 6, 7, 8, 9, 10] rfl rfl rfl rfl (by decide) 0 7 rfl rfl rfl rfl rfl (Nat.le_of_ble_eq_true rfl) ⟨Nat.le_of_ble_eq_true rfl, Nat.le_of_ble_eq_true rfl⟩ ⟨Nat.zero_le _, Nat.zero_le _⟩ dX7_restore_26 (fun u26 H locs hr26 hW => ?_)
      have hW := Wd.ord hW (ws' := [(z 0, .inr (7, [.ref (z 1), .ref (z 2), .int (nI (recN Y.nh)), .ref (z 3), .ref (z 4), .ref (z 5), .ref (z 6), .ref (z 7), .ref (z 8), .ref (z 9), .int (nI Y.pn), .int (nI c0.sp), .ref (z 10)])), (z 1, .inl (T 0, 340, .inl Y.all)), (z 2, .inl (T 0, 2040, .inl (recH Y.H Y.all Y.nh))), (z 3, .inl (T 0, 680, .inl Y.slo)), (z 4, .inl (T 0, 2, .inl Y.isv)), (z 5, .inl (T 0, 280, .inl c0.tree)), (z 6, .inl (T 0, 7, .inl c0.tried)), (z 7, .inl (T 0, 7, .inl c0.most)), (z 8, .inl (T 0, 7, .inl c0.best)), (z 9, .inl (T 0, 60, .inl Y.pad)), (z 10, .inl (T 0, 15, .inl c0.rd))]) [8, 9, 10, 0, 1, 2, 3, 4, 5, 6, 7] rfl rfl
      refine lv_iconst (v := nI 0) hx hb dX7_restore_29 (by decide) ?_
      refine lv_istore_n (lv' := [(2, .int (nI 0)), (0, .ref (z 0)), (1, .int (nI k))]) hx hb dX7_restore_30 rfl hl (by decide) rfl (fun ls hl => ?_)
      have hW := Wd.arr hW 1 (lay Y.all 0 (fun j => Y.slo (340 * k + j)) 0) rfl (fun j _ => lay_0 _ _ _ j) (ws' := [(z 0, .inr (7, [.ref (z 1), .ref (z 2), .int (nI (recN Y.nh)), .ref (z 3), .ref (z 4), .ref (z 5), .ref (z 6), .ref (z 7), .ref (z 8), .ref (z 9), .int (nI Y.pn), .int (nI c0.sp), .ref (z 10)])), (z 1, .inl (T 0, 340, .inl (lay Y.all 0 (fun j => Y.slo (340 * k + j)) 0))), (z 2, .inl (T 0, 2040, .inl (recH Y.H Y.all Y.nh))), (z 3, .inl (T 0, 680, .inl Y.slo)), (z 4, .inl (T 0, 2, .inl Y.isv)), (z 5, .inl (T 0, 280, .inl c0.tree)), (z 6, .inl (T 0, 7, .inl c0.tried)), (z 7, .inl (T 0, 7, .inl c0.most)), (z 8, .inl (T 0, 7, .inl c0.best)), (z 9, .inl (T 0, 60, .inl Y.pad)), (z 10, .inl (T 0, 15, .inl c0.rd))]) rfl
      refine W.loop (fun n H2 locs2 ls2 => ∃ i, i ≤ 340 ∧ n = 340 - i ∧ Wd D T A s [(z 0, .inr (7, [.ref (z 1), .ref (z 2), .int (nI (recN Y.nh)), .ref (z 3), .ref (z 4), .ref (z 5), .ref (z 6), .ref (z 7), .ref (z 8), .ref (z 9), .int (nI Y.pn), .int (nI c0.sp), .ref (z 10)])), (z 1, .inl (T 0, 340, .inl (lay Y.all 0 (fun j => Y.slo (340 * k + j)) i))), (z 2, .inl (T 0, 2040, .inl (recH Y.H Y.all Y.nh))), (z 3, .inl (T 0, 680, .inl Y.slo)), (z 4, .inl (T 0, 2, .inl Y.isv)), (z 5, .inl (T 0, 280, .inl c0.tree)), (z 6, .inl (T 0, 7, .inl c0.tried)), (z 7, .inl (T 0, 7, .inl c0.most)), (z 8, .inl (T 0, 7, .inl c0.best)), (z 9, .inl (T 0, 60, .inl Y.pad)), (z 10, .inl (T 0, 15, .inl c0.rd))] H2 locs2 ∧ lv_has ls2 3 [(0, .ref (z 0)), (1, .int (nI k)), (2, .int (nI i))]) ?_ 340 ⟨0, by omega, rfl, hW, lv_sub hl [1, 2, 0] rfl⟩
      rintro n H locs ls ⟨i, hi, rfl, hW, hl⟩ ih
      refine lv_iload_n hx hb dX7_restore_31 rfl (lv_at hl 2 rfl) ?_
      refine lv_sipush (v := nI 340) hx hb dX7_restore_32 (by decide) ?_
      refine lv_icmp_ge (tgt := 62) hx hb dX7_restore_35 (by decide) (fun h35 => ?_) (fun h35 => ?_)
      · have h5q : i = 340 := by have := n_le h35 (by omega) (by omega); omega
        subst h5q
        have hW := Wd.arr hW 1 (fun j => Y.slo (340 * k + j)) rfl (fun j hj => lay_g _ _ _ hj) (ws' := [(z 0, .inr (7, [.ref (z 1), .ref (z 2), .int (nI (recN Y.nh)), .ref (z 3), .ref (z 4), .ref (z 5), .ref (z 6), .ref (z 7), .ref (z 8), .ref (z 9), .int (nI Y.pn), .int (nI c0.sp), .ref (z 10)])), (z 1, .inl (T 0, 340, .inl (fun j => Y.slo (340 * k + j)))), (z 2, .inl (T 0, 2040, .inl (recH Y.H Y.all Y.nh))), (z 3, .inl (T 0, 680, .inl Y.slo)), (z 4, .inl (T 0, 2, .inl Y.isv)), (z 5, .inl (T 0, 280, .inl c0.tree)), (z 6, .inl (T 0, 7, .inl c0.tried)), (z 7, .inl (T 0, 7, .inl c0.most)), (z 8, .inl (T 0, 7, .inl c0.best)), (z 9, .inl (T 0, 60, .inl Y.pad)), (z 10, .inl (T 0, 15, .inl c0.rd))]) rfl
        refine lv_aload_n hx hb dX7_restore_62 rfl (lv_at hl 0 rfl) ?_
        refine gf482 F hW 0 rfl rfl dX7_restore_63 ?_
        refine lv_bipush (v := nI 28) hx hb dX7_restore_66 (by decide) ?_
        refine ald F hW 1 rfl (x := Y.slo (340 * k + 28)) 28 rfl (by omega) (by decide) rfl dX7_restore_68 ?_
        have hy : yRestore Y x = (Y.slo (340 * k + 28), (fun j => Y.slo (340 * k + j), (recd Y).2)) := by unfold yRestore; rw [if_pos q, ck, if_neg h19]
        exact retI F hr hlk rfl hW (⟨c0.tree, c0.tried, c0.most, c0.best, c0.rd, c0.sp⟩ : SD) (congrArg Prod.fst hy).symm (congrArg (fun q => mw T z q.2 (⟨c0.tree, c0.tried, c0.most, c0.best, c0.rd, c0.sp⟩ : SD)) hy).symm dX7_restore_69
      · have h5q : i < 340 := n_nle h35 (by decide) (by omega)
        refine lv_aload_n hx hb dX7_restore_38 rfl (lv_at hl 0 rfl) ?_
        refine gf482 F hW 0 rfl rfl dX7_restore_39 ?_
        refine lv_iload_n hx hb dX7_restore_42 rfl (lv_at hl 2 rfl) ?_
        refine lv_aload_n hx hb dX7_restore_43 rfl (lv_at hl 0 rfl) ?_
        refine gf485 F hW 0 rfl rfl dX7_restore_44 ?_
        refine lv_sipush (v := nI 340) hx hb dX7_restore_47 (by decide) ?_
        refine lv_iload_n hx hb dX7_restore_50 rfl (lv_at hl 1 rfl) ?_
        refine imulE (z := nI (340 * k)) hx hb dX7_restore_51 (pk_mul _ _) ?_
        refine lv_iload_n hx hb dX7_restore_52 rfl (lv_at hl 2 rfl) ?_
        refine iaddE (z := nI ((340 * k) + i)) hx hb dX7_restore_53 (nI_add _ _) ?_
        refine ald F hW 3 rfl (x := Y.slo ((340 * k) + i)) ((340 * k) + i) rfl (by omega) (by decide) rfl dX7_restore_54 ?_
        refine ast (ws' := [(z 0, .inr (7, [.ref (z 1), .ref (z 2), .int (nI (recN Y.nh)), .ref (z 3), .ref (z 4), .ref (z 5), .ref (z 6), .ref (z 7), .ref (z 8), .ref (z 9), .int (nI Y.pn), .int (nI c0.sp), .ref (z 10)])), (z 1, .inl (T 0, 340, .inl (lay Y.all 0 (fun j => Y.slo (340 * k + j)) (i + 1)))), (z 2, .inl (T 0, 2040, .inl (recH Y.H Y.all Y.nh))), (z 3, .inl (T 0, 680, .inl Y.slo)), (z 4, .inl (T 0, 2, .inl Y.isv)), (z 5, .inl (T 0, 280, .inl c0.tree)), (z 6, .inl (T 0, 7, .inl c0.tried)), (z 7, .inl (T 0, 7, .inl c0.most)), (z 8, .inl (T 0, 7, .inl c0.best)), (z 9, .inl (T 0, 60, .inl Y.pad)), (z 10, .inl (T 0, 15, .inl c0.rd))]) F hW 1 (lay Y.all 0 (fun j => Y.slo (340 * k + j)) (i + 1)) rfl i rfl (by omega) (by decide) (fun j _ => by have := lay_s (H := Y.all) (g := (fun j => Y.slo (340 * k + j))) (b := 0) (k := i) j; rw [Nat.zero_add] at this; exact this) rfl dX7_restore_55 (fun H locs hW => ?_)
        refine lv_iinc (v := nI (i + 1)) (lv' := [(2, .int (nI (i + 1))), (0, .ref (z 0)), (1, .int (nI k))]) hx hb dX7_restore_56 hl (k := 2) rfl (nI_add _ _) (by decide) rfl (fun ls hl => ?_)
        refine lv_goto (tgt := 31) hx hb dX7_restore_59 (by decide) ?_
        exact ih (340 - (i + 1)) _ _ _ (by omega) ⟨i + 1, by omega, rfl, hW, lv_sub hl [1, 2, 0] rfl⟩
    · refine lv_bipush (v := -5) hx hb dX7_restore_22 (by decide) ?_
      have hy : yRestore Y x = (-5, Y) := by unfold yRestore; rw [if_pos q, ck, if_pos h19]
      exact retI F hr hlk rfl hW (⟨c0.tree, c0.tried, c0.most, c0.best, c0.rd, c0.sp⟩ : SD) (congrArg Prod.fst hy).symm (congrArg (fun q => mw T z q.2 (⟨c0.tree, c0.tried, c0.most, c0.best, c0.rd, c0.sp⟩ : SD)) hy).symm dX7_restore_24
  · have q : ¬ rng 0 1 x := fun q => absurd ((in_if (a := 0) (b := 1) (la := 0) (lb := 1) x (by decide) (by decide)).trans (if_pos q)) (by rw [h7]; decide)
    refine lv_bipush (v := -2) hx hb dX7_restore_10 (by decide) ?_
    have hy : yRestore Y x = (-2, Y) := if_neg q
    exact retI F hr hlk rfl hW (⟨c0.tree, c0.tried, c0.most, c0.best, c0.rd, c0.sp⟩ : SD) (congrArg Prod.fst hy).symm (congrArg (fun q => mw T z q.2 (⟨c0.tree, c0.tried, c0.most, c0.best, c0.rd, c0.sp⟩ : SD)) hy).symm dX7_restore_12
