-- the reference: its longer calls
def rdk (g nb : Nat → Int32) (k : Nat) : Nat → Int32 := fun j => if j < k then nb j else empM g j
theorem rdk_0 (g nb : Nat → Int32) (j : Nat) : empM g j = rdk g nb 0 j := (if_neg (by omega)).symm
theorem rdk_s {g nb : Nat → Int32} {k : Nat} (j : Nat) : upd (rdk g nb k) k (nb k) j = rdk g nb (k + 1) j := by
  unfold rdk
  by_cases q : j = k
  · rw [q, u_s, if_pos (by omega)]
  · rw [u_n q]
    by_cases q2 : j < k
    · rw [if_pos q2, if_pos (by omega)]
    · rw [if_neg q2, if_neg (by omega)]
def rdA (g nb : Nat → Int32) : Nat → Int32 := upd (upd (upd (rdk g nb 12) 24 (nb 12)) 25 (nb 13)) 26 (nb 14)
abbrev rdC (P : Nat → Int32) : Prop := ¬ overM P ∧ sm 0 (enM P) (6 * (P 26).toNatClampNeg) 6 = 0
def rdQ (P : Nat → Int32) : Nat → Int32 := if rdC P then upd (enM P) 26 (nI 1 - enM P 26) else enM P
theorem en_26 (P : Nat → Int32) : enM P 26 = P 26 := by
  by_cases h : overM P
  · rw [en_y h]; rfl
  · rw [en_n h, u_n (by decide)]
def yRead (Y : YD) : Int32 × YD :=
  if (scY Y).1 = -6 then (allM (rdQ (rdA Y.all (scY Y).2)), (put (rdA Y.all (scY Y).2) 0 (rdQ (rdA Y.all (scY Y).2)), recH Y.H Y.all Y.nh, Y.slo, Y.isv, Y.pad, recN Y.nh, 0)) else (-3, Y)
def cntN (Y : YD) (k : Nat) : Int32 :=
  if k = 0 then Y.all 26 else if k = 1 then Y.all 27 else if k = 2 then winM Y.all else if k = 3 then Y.all 24 else if k = 4 then Y.all 25 else if k = 5 then allM Y.all else if k = 6 then Y.all 28 else if k = 7 then Y.all 34 else if k = 8 then Y.all 35 else if k = 9 then Y.all 36 else if k = 10 then Y.all 37 else if k = 11 then hosM Y.all 12 else if k = 12 then nI Y.pn else nI Y.nh
def yCount (Y : YD) (w : Int32) : Int32 × YD := if rng 0 13 w then (cntN Y w.toNatClampNeg, Y) else (-2, Y)
def ifA (P Q : Nat → Int32) (k : Nat) : Int32 := if k < 4 then Q (30 + k) else if k = 4 then Q (24 + (P 26).toNatClampNeg) - P (24 + (P 26).toNatClampNeg) + 10000 else if k = 5 then Q 26 else Q 27
def yIfMove (Y : YD) (x w : Int32) : Int32 × YD :=
  if rng 0 11 x then (if legM Y.all x.toNatClampNeg then (if rng 0 6 w then (ifA Y.all (mvM Y.all x.toNatClampNeg) w.toNatClampNeg, Y) else (-2, Y)) else (-5, Y)) else (-1, Y)
/-- how many moves are left, always the best one by a depth -/
def mlF : Nat → Nat → (Nat → Int32) → Nat
  | 0, _, _ => 0
  | n + 1, d, P => if P 27 = 0 then 1 + mlF n d (mvM P (bhM d P).toNatClampNeg) else 0
def yMovesLeft (Y : YD) (x : Int32) : Int32 × YD := if rng 1 2 x then (nI (mlF 301 x.toNatClampNeg Y.all), Y) else (-2, Y)
def yPut (Y : YD) (x : Nat) : Int32 × YD :=
  if chF 8 x 0 = 0 then (-2, Y) else if 60 < Y.pn + chF 8 x 0 then (-4, Y) else (nI (Y.pn + chF 8 x 0), (Y.all, Y.H, Y.slo, Y.isv, apT Y.pad Y.pn (chF 8 x 0) x (chF 8 x 0), Y.nh, Y.pn + chF 8 x 0))
theorem mv_28 {S : Int} {P : Nat → Int32} (hI : Iv S P) {h mk : Nat} (hh : h < 12) (hl : legM P h) (h28 : P 28 = nI mk) : mvM P h 28 = nI (mk + 1) := by
  obtain ⟨-, k, hk, h26, e⟩ := hI.mv hh hl
  rw [e, gtM_hi _ _ (by decide), mvB_28 P hk hh, h28, nI_1]
theorem ch_le : ∀ (f x c : Nat), chF f x c ≤ c + f
  | 0, x, c => Nat.le_refl _
  | f + 1, x, c => by
    rw [chF]
    split
    · omega
    · split
      · omega
      · have := ch_le f (x / 256) (c + 1); omega
set_option maxHeartbeats 4000000 in
set_option maxRecDepth 100000 in
theorem y_read (l : Launch) (D : va_G) (T : Nat → ClassId) (z : Nat → Nat) (Y : YD) (c0 : SD) (hY : YOK Y)  : KI (S := SD) l D T yX7_read cX7_read 2 (some .int) 6 [.ref (z 0)] [(z 0, .inr (7, [.ref (z 1), .ref (z 2), .int (nI Y.nh), .ref (z 3), .ref (z 4), .ref (z 5), .ref (z 6), .ref (z 7), .ref (z 8), .ref (z 9), .int (nI Y.pn), .int (nI c0.sp), .ref (z 10)])), (z 1, .inl (T 0, 340, .inl Y.all)), (z 2, .inl (T 0, 2040, .inl Y.H)), (z 3, .inl (T 0, 680, .inl Y.slo)), (z 4, .inl (T 0, 2, .inl Y.isv)), (z 5, .inl (T 0, 280, .inl c0.tree)), (z 6, .inl (T 0, 7, .inl c0.tried)), (z 7, .inl (T 0, 7, .inl c0.most)), (z 8, .inl (T 0, 7, .inl c0.best)), (z 9, .inl (T 0, 60, .inl Y.pad)), (z 10, .inl (T 0, 15, .inl c0.rd))] (fun r _ => r = (yRead Y).1) (fun u => mw T z (yRead Y).2 u) := by
  refine KI.of (by decide +kernel) (Nat.le_of_ble_eq_true rfl) (fun p e s m below meth c A F hr hlk hW ls hl => ?_)
  have hx := F.1
  have hb := F.2.1
  have hl : lv_has ls 2 [(0, .ref (z 0))] := hl
  obtain ⟨⟨⟨S0, hI⟩, h34⟩, hnh, hpn, hHi, hsl⟩ := hY
  have hI2 := hI
  obtain ⟨hJ, ⟨pl, hpl, h26⟩, h27, ⟨mk, h28, hm1, hm2⟩, h36, h37, hleg⟩ := hI2
  refine lv_aload_n hx hb dX7_read_0 rfl (lv_at hl 0 rfl) ?_
  refine cIV (As := []) (rest := []) (wr := [(z 1, .inl (T 0, 340, .inl Y.all)), (z 2, .inl (T 0, 2040, .inl Y.H)), (z 3, .inl (T 0, 680, .inl Y.slo)), (z 4, .inl (T 0, 2, .inl Y.isv)), (z 5, .inl (T 0, 280, .inl c0.tree)), (z 6, .inl (T 0, 7, .inl c0.tried)), (z 7, .inl (T 0, 7, .inl c0.most)), (z 8, .inl (T 0, 7, .inl c0.best))]) F hW hl cs607 (r_faultOf l D T (z 0) (z 1) (z 2) (z 3) (z 4) (z 5) (z 6) (z 7) (z 8) (z 9) (z 10) (nI Y.nh) Y.pad c0.rd (n := Y.pn) c0.sp (by omega)) [0, 9, 10] [1, 2, 3, 4, 5, 6, 7, 8] rfl rfl rfl rfl (by decide) 0 7 rfl rfl rfl rfl rfl (Nat.le_of_ble_eq_true rfl) ⟨Nat.le_of_ble_eq_true rfl, Nat.le_of_ble_eq_true rfl⟩ ⟨Nat.zero_le _, Nat.zero_le _⟩ dX7_read_1 (fun r1 u1 H locs hr1 hW => ?_)
  have hW := Wd.ord hW (ws' := [(z 0, .inr (7, [.ref (z 1), .ref (z 2), .int (nI Y.nh), .ref (z 3), .ref (z 4), .ref (z 5), .ref (z 6), .ref (z 7), .ref (z 8), .ref (z 9), .int (nI Y.pn), .int (nI u1.1), .ref (z 10)])), (z 1, .inl (T 0, 340, .inl Y.all)), (z 2, .inl (T 0, 2040, .inl Y.H)), (z 3, .inl (T 0, 680, .inl Y.slo)), (z 4, .inl (T 0, 2, .inl Y.isv)), (z 5, .inl (T 0, 280, .inl c0.tree)), (z 6, .inl (T 0, 7, .inl c0.tried)), (z 7, .inl (T 0, 7, .inl c0.most)), (z 8, .inl (T 0, 7, .inl c0.best)), (z 9, .inl (T 0, 60, .inl Y.pad)), (z 10, .inl (T 0, 15, .inl u1.2))]) [8, 0, 1, 2, 3, 4, 5, 6, 7, 9, 10] rfl rfl
  obtain ⟨ubr1, hr1, urr1⟩ := hr1
  subst hr1
  have e1 := scan_cg Y.pn 0 0 0 Y.pad c0.rd (fun _ => 0) (by omega) (by decide) (fun j hj => absurd hj (Nat.not_lt_zero j)) (fun h => absurd h (Nat.lt_irrefl 0))
  have e2 := scan_rg Y.pn 0 0 0 Y.pad (fun _ => 0) (by omega) (by decide) (fun j hj => absurd hj (Nat.not_lt_zero j)) (Or.inl rfl)
  rw [show scanF Y.pn 0 0 0 Y.pad (fun _ => 0) = scY Y from rfl] at e1 e2
  refine lv_bipush (v := -6) hx hb dX7_read_4 (by decide) ?_
  refine lv_icmp_eq (tgt := 12) hx hb dX7_read_6 (by decide) (fun h6 => ?_) (fun h6 => ?_)
  · have q : (scY Y).1 = -6 := e1.1.symm.trans h6
    obtain ⟨nb, hnb⟩ : ∃ nb, nb = (scY Y).2 := ⟨_, rfl⟩
    have hu : ∀ j, j < 15 → u1.2 j = nb j := fun j hj => by rw [hnb]; exact (urr1 h6 j hj).trans (e1.2 h6 j hj)
    have h14 := (e2 q).2
    rw [← hnb] at h14
    obtain ⟨t, ht2, hbt⟩ : ∃ t, t < 2 ∧ nb 14 = nI t := h14.elim (fun z => ⟨0, by decide, z⟩) (fun z => ⟨1, by decide, z⟩)
    have hW := Wd.arr hW 10 nb rfl hu (ws' := [(z 0, .inr (7, [.ref (z 1), .ref (z 2), .int (nI Y.nh), .ref (z 3), .ref (z 4), .ref (z 5), .ref (z 6), .ref (z 7), .ref (z 8), .ref (z 9), .int (nI Y.pn), .int (nI u1.1), .ref (z 10)])), (z 1, .inl (T 0, 340, .inl Y.all)), (z 2, .inl (T 0, 2040, .inl Y.H)), (z 3, .inl (T 0, 680, .inl Y.slo)), (z 4, .inl (T 0, 2, .inl Y.isv)), (z 5, .inl (T 0, 280, .inl c0.tree)), (z 6, .inl (T 0, 7, .inl c0.tried)), (z 7, .inl (T 0, 7, .inl c0.most)), (z 8, .inl (T 0, 7, .inl c0.best)), (z 9, .inl (T 0, 60, .inl Y.pad)), (z 10, .inl (T 0, 15, .inl nb))]) rfl
    refine lv_aload_n hx hb dX7_read_12 rfl (lv_at hl 0 rfl) ?_
    refine cVV (As := []) (rest := []) (wr := [(z 3, .inl (T 0, 680, .inl Y.slo)), (z 4, .inl (T 0, 2, .inl Y.isv)), (z 5, .inl (T 0, 280, .inl c0.tree)), (z 6, .inl (T 0, 7, .inl c0.tried)), (z 7, .inl (T 0, 7, .inl c0.most)), (z 8, .inl (T 0, 7, .inl c0.best)), (z 9, .inl (T 0, 60, .inl Y.pad)), (z 10, .inl (T 0, 15, .inl nb))]) F hW hl cs535 (r_record l D T (z 0) (z 1) (z 2) (z 3) (z 4) (z 5) (z 6) (z 7) (z 8) (z 9) (z 10) (nI Y.pn) (nI u1.1) Y.all Y.H (n := Y.nh) (by omega)) [0, 1, 2] [3, 4, 5, 6, 7, 8, 9, 10] rfl rfl rfl rfl (by decide) 0 7 rfl rfl rfl rfl rfl (Nat.le_of_ble_eq_true rfl) ⟨Nat.le_of_ble_eq_true rfl, Nat.le_of_ble_eq_true rfl⟩ ⟨Nat.zero_le _, Nat.zero_le _⟩ dX7_read_13 (fun u13 H locs hr13 hW => ?_)
    have hW := Wd.ord hW (ws' := [(z 0, .inr (7, [.ref (z 1), .ref (z 2), .int (nI (recN Y.nh)), .ref (z 3), .ref (z 4), .ref (z 5), .ref (z 6), .ref (z 7), .ref (z 8), .ref (z 9), .int (nI Y.pn), .int (nI u1.1), .ref (z 10)])), (z 1, .inl (T 0, 340, .inl Y.all)), (z 2, .inl (T 0, 2040, .inl (recH Y.H Y.all Y.nh))), (z 3, .inl (T 0, 680, .inl Y.slo)), (z 4, .inl (T 0, 2, .inl Y.isv)), (z 5, .inl (T 0, 280, .inl c0.tree)), (z 6, .inl (T 0, 7, .inl c0.tried)), (z 7, .inl (T 0, 7, .inl c0.most)), (z 8, .inl (T 0, 7, .inl c0.best)), (z 9, .inl (T 0, 60, .inl Y.pad)), (z 10, .inl (T 0, 15, .inl nb))]) [8, 9, 10, 0, 1, 2, 3, 4, 5, 6, 7] rfl rfl
    refine lv_aload_n hx hb dX7_read_16 rfl (lv_at hl 0 rfl) ?_
    refine cVV (As := []) (rest := []) (wr := [(z 2, .inl (T 0, 2040, .inl (recH Y.H Y.all Y.nh))), (z 3, .inl (T 0, 680, .inl Y.slo)), (z 4, .inl (T 0, 2, .inl Y.isv)), (z 5, .inl (T 0, 280, .inl c0.tree)), (z 6, .inl (T 0, 7, .inl c0.tried)), (z 7, .inl (T 0, 7, .inl c0.most)), (z 8, .inl (T 0, 7, .inl c0.best)), (z 9, .inl (T 0, 60, .inl Y.pad)), (z 10, .inl (T 0, 15, .inl nb))]) F hW hl cs478 (r_empties l D T (z 0) (z 1) (z 2) (z 3) (z 4) (z 5) (z 6) (z 7) (z 8) (z 9) (z 10) (nI (recN Y.nh)) (nI Y.pn) (nI u1.1) Y.all) [0, 1] [2, 3, 4, 5, 6, 7, 8, 9, 10] rfl rfl rfl rfl (by decide) 0 7 rfl rfl rfl rfl rfl (Nat.le_of_ble_eq_true rfl) ⟨Nat.le_of_ble_eq_true rfl, Nat.le_of_ble_eq_true rfl⟩ ⟨Nat.zero_le _, Nat.zero_le _⟩ dX7_read_17 (fun u17 H locs hr17 hW => ?_)
    have hW := Wd.ord hW (ws' := [(z 0, .inr (7, [.ref (z 1), .ref (z 2), .int (nI (recN Y.nh)), .ref (z 3), .ref (z 4), .ref (z 5), .ref (z 6), .ref (z 7), .ref (z 8), .ref (z 9), .int (nI Y.pn), .int (nI u1.1), .ref (z 10)])), (z 1, .inl (T 0, 340, .inl (empM Y.all))), (z 2, .inl (T 0, 2040, .inl (recH Y.H Y.all Y.nh))), (z 3, .inl (T 0, 680, .inl Y.slo)), (z 4, .inl (T 0, 2, .inl Y.isv)), (z 5, .inl (T 0, 280, .inl c0.tree)), (z 6, .inl (T 0, 7, .inl c0.tried)), (z 7, .inl (T 0, 7, .inl c0.most)), (z 8, .inl (T 0, 7, .inl c0.best)), (z 9, .inl (T 0, 60, .inl Y.pad)), (z 10, .inl (T 0, 15, .inl nb))]) [9, 10, 0, 1, 2, 3, 4, 5, 6, 7, 8] rfl rfl
    refine lv_iconst (v := nI 0) hx hb dX7_read_20 (by decide) ?_
    refine lv_istore_n (lv' := [(1, .int (nI 0)), (0, .ref (z 0))]) hx hb dX7_read_21 rfl hl (by decide) rfl (fun ls hl => ?_)
    have hW := Wd.arr hW 1 (rdk Y.all nb 0) rfl (fun j _ => rdk_0 _ _ j) (ws' := [(z 0, .inr (7, [.ref (z 1), .ref (z 2), .int (nI (recN Y.nh)), .ref (z 3), .ref (z 4), .ref (z 5), .ref (z 6), .ref (z 7), .ref (z 8), .ref (z 9), .int (nI Y.pn), .int (nI u1.1), .ref (z 10)])), (z 1, .inl (T 0, 340, .inl (rdk Y.all nb 0))), (z 2, .inl (T 0, 2040, .inl (recH Y.H Y.all Y.nh))), (z 3, .inl (T 0, 680, .inl Y.slo)), (z 4, .inl (T 0, 2, .inl Y.isv)), (z 5, .inl (T 0, 280, .inl c0.tree)), (z 6, .inl (T 0, 7, .inl c0.tried)), (z 7, .inl (T 0, 7, .inl c0.most)), (z 8, .inl (T 0, 7, .inl c0.best)), (z 9, .inl (T 0, 60, .inl Y.pad)), (z 10, .inl (T 0, 15, .inl nb))]) rfl
    refine W.loop (fun n H2 locs2 ls2 => ∃ i, i ≤ 12 ∧ n = 12 - i ∧ Wd D T A s [(z 0, .inr (7, [.ref (z 1), .ref (z 2), .int (nI (recN Y.nh)), .ref (z 3), .ref (z 4), .ref (z 5), .ref (z 6), .ref (z 7), .ref (z 8), .ref (z 9), .int (nI Y.pn), .int (nI u1.1), .ref (z 10)])), (z 1, .inl (T 0, 340, .inl (rdk Y.all nb i))), (z 2, .inl (T 0, 2040, .inl (recH Y.H Y.all Y.nh))), (z 3, .inl (T 0, 680, .inl Y.slo)), (z 4, .inl (T 0, 2, .inl Y.isv)), (z 5, .inl (T 0, 280, .inl c0.tree)), (z 6, .inl (T 0, 7, .inl c0.tried)), (z 7, .inl (T 0, 7, .inl c0.most)), (z 8, .inl (T 0, 7, .inl c0.best)), (z 9, .inl (T 0, 60, .inl Y.pad)), (z 10, .inl (T 0, 15, .inl nb))] H2 locs2 ∧ lv_has ls2 2 [(0, .ref (z 0)), (1, .int (nI i))]) ?_ 12 ⟨0, by omega, rfl, hW, lv_sub hl [1, 0] rfl⟩
    rintro n H locs ls ⟨i, hi, rfl, hW, hl⟩ ih
    refine lv_iload_n hx hb dX7_read_22 rfl (lv_at hl 1 rfl) ?_
    refine lv_bipush (v := nI 12) hx hb dX7_read_23 (by decide) ?_
    refine lv_icmp_ge (tgt := 48) hx hb dX7_read_25 (by decide) (fun h25 => ?_) (fun h25 => ?_)
    · have h5q : i = 12 := by have := n_le h25 (by omega) (by omega); omega
      subst h5q
      refine lv_aload_n hx hb dX7_read_48 rfl (lv_at hl 0 rfl) ?_
      refine gf482 F hW 0 rfl rfl dX7_read_49 ?_
      refine lv_bipush (v := nI 24) hx hb dX7_read_52 (by decide) ?_
      refine lv_aload_n hx hb dX7_read_54 rfl (lv_at hl 0 rfl) ?_
      refine gf494 F hW 0 rfl rfl dX7_read_55 ?_
      refine lv_bipush (v := nI 12) hx hb dX7_read_58 (by decide) ?_
      refine ald F hW 10 rfl (x := nb 12) 12 rfl (by omega) (by decide) rfl dX7_read_60 ?_
      refine ast (ws' := [(z 0, .inr (7, [.ref (z 1), .ref (z 2), .int (nI (recN Y.nh)), .ref (z 3), .ref (z 4), .ref (z 5), .ref (z 6), .ref (z 7), .ref (z 8), .ref (z 9), .int (nI Y.pn), .int (nI u1.1), .ref (z 10)])), (z 1, .inl (T 0, 340, .inl (upd (rdk Y.all nb 12) 24 (nb 12)))), (z 2, .inl (T 0, 2040, .inl (recH Y.H Y.all Y.nh))), (z 3, .inl (T 0, 680, .inl Y.slo)), (z 4, .inl (T 0, 2, .inl Y.isv)), (z 5, .inl (T 0, 280, .inl c0.tree)), (z 6, .inl (T 0, 7, .inl c0.tried)), (z 7, .inl (T 0, 7, .inl c0.most)), (z 8, .inl (T 0, 7, .inl c0.best)), (z 9, .inl (T 0, 60, .inl Y.pad)), (z 10, .inl (T 0, 15, .inl nb))]) F hW 1 (upd (rdk Y.all nb 12) 24 (nb 12)) rfl 24 rfl (by omega) (by decide) (fun _ _ => rfl) rfl dX7_read_61 (fun H locs hW => ?_)
      refine lv_aload_n hx hb dX7_read_62 rfl (lv_at hl 0 rfl) ?_
      refine gf482 F hW 0 rfl rfl dX7_read_63 ?_
      refine lv_bipush (v := nI 25) hx hb dX7_read_66 (by decide) ?_
      refine lv_aload_n hx hb dX7_read_68 rfl (lv_at hl 0 rfl) ?_
      refine gf494 F hW 0 rfl rfl dX7_read_69 ?_
      refine lv_bipush (v := nI 13) hx hb dX7_read_72 (by decide) ?_
      refine ald F hW 10 rfl (x := nb 13) 13 rfl (by omega) (by decide) rfl dX7_read_74 ?_
      refine ast (ws' := [(z 0, .inr (7, [.ref (z 1), .ref (z 2), .int (nI (recN Y.nh)), .ref (z 3), .ref (z 4), .ref (z 5), .ref (z 6), .ref (z 7), .ref (z 8), .ref (z 9), .int (nI Y.pn), .int (nI u1.1), .ref (z 10)])), (z 1, .inl (T 0, 340, .inl (upd (upd (rdk Y.all nb 12) 24 (nb 12)) 25 (nb 13)))), (z 2, .inl (T 0, 2040, .inl (recH Y.H Y.all Y.nh))), (z 3, .inl (T 0, 680, .inl Y.slo)), (z 4, .inl (T 0, 2, .inl Y.isv)), (z 5, .inl (T 0, 280, .inl c0.tree)), (z 6, .inl (T 0, 7, .inl c0.tried)), (z 7, .inl (T 0, 7, .inl c0.most)), (z 8, .inl (T 0, 7, .inl c0.best)), (z 9, .inl (T 0, 60, .inl Y.pad)), (z 10, .inl (T 0, 15, .inl nb))]) F hW 1 (upd (upd (rdk Y.all nb 12) 24 (nb 12)) 25 (nb 13)) rfl 25 rfl (by omega) (by decide) (fun _ _ => rfl) rfl dX7_read_75 (fun H locs hW => ?_)
      refine lv_aload_n hx hb dX7_read_76 rfl (lv_at hl 0 rfl) ?_
      refine gf482 F hW 0 rfl rfl dX7_read_77 ?_
      refine lv_bipush (v := nI 26) hx hb dX7_read_80 (by decide) ?_
      refine lv_aload_n hx hb dX7_read_82 rfl (lv_at hl 0 rfl) ?_
      refine gf494 F hW 0 rfl rfl dX7_read_83 ?_
      refine lv_bipush (v := nI 14) hx hb dX7_read_86 (by decide) ?_
      refine ald F hW 10 rfl (x := nb 14) 14 rfl (by omega) (by decide) rfl dX7_read_88 ?_
      refine ast (ws' := [(z 0, .inr (7, [.ref (z 1), .ref (z 2), .int (nI (recN Y.nh)), .ref (z 3), .ref (z 4), .ref (z 5), .ref (z 6), .ref (z 7), .ref (z 8), .ref (z 9), .int (nI Y.pn), .int (nI u1.1), .ref (z 10)])), (z 1, .inl (T 0, 340, .inl (upd (upd (upd (rdk Y.all nb 12) 24 (nb 12)) 25 (nb 13)) 26 (nb 14)))), (z 2, .inl (T 0, 2040, .inl (recH Y.H Y.all Y.nh))), (z 3, .inl (T 0, 680, .inl Y.slo)), (z 4, .inl (T 0, 2, .inl Y.isv)), (z 5, .inl (T 0, 280, .inl c0.tree)), (z 6, .inl (T 0, 7, .inl c0.tried)), (z 7, .inl (T 0, 7, .inl c0.most)), (z 8, .inl (T 0, 7, .inl c0.best)), (z 9, .inl (T 0, 60, .inl Y.pad)), (z 10, .inl (T 0, 15, .inl nb))]) F hW 1 (upd (upd (upd (rdk Y.all nb 12) 24 (nb 12)) 25 (nb 13)) 26 (nb 14)) rfl 26 rfl (by omega) (by decide) (fun _ _ => rfl) rfl dX7_read_89 (fun H locs hW => ?_)
      refine lv_aload_n hx hb dX7_read_90 rfl (lv_at hl 0 rfl) ?_
      refine lv_iconst (v := nI 0) hx hb dX7_read_91 (by decide) ?_
      refine pf492 (ws' := [(z 0, .inr (7, [.ref (z 1), .ref (z 2), .int (nI (recN Y.nh)), .ref (z 3), .ref (z 4), .ref (z 5), .ref (z 6), .ref (z 7), .ref (z 8), .ref (z 9), .int (nI 0), .int (nI u1.1), .ref (z 10)])), (z 1, .inl (T 0, 340, .inl (upd (upd (upd (rdk Y.all nb 12) 24 (nb 12)) 25 (nb 13)) 26 (nb 14)))), (z 2, .inl (T 0, 2040, .inl (recH Y.H Y.all Y.nh))), (z 3, .inl (T 0, 680, .inl Y.slo)), (z 4, .inl (T 0, 2, .inl Y.isv)), (z 5, .inl (T 0, 280, .inl c0.tree)), (z 6, .inl (T 0, 7, .inl c0.tried)), (z 7, .inl (T 0, 7, .inl c0.most)), (z 8, .inl (T 0, 7, .inl c0.best)), (z 9, .inl (T 0, 60, .inl Y.pad)), (z 10, .inl (T 0, 15, .inl nb))]) F hW 0 rfl rfl rfl dX7_read_92 (fun H locs hW => ?_)
      obtain ⟨P0, hP0⟩ : ∃ P0, P0 = rdA Y.all nb := ⟨_, rfl⟩
      have hW := Wd.arr hW 1 P0 rfl (fun j _ => by rw [hP0]; rfl) (ws' := [(z 0, .inr (7, [.ref (z 1), .ref (z 2), .int (nI (recN Y.nh)), .ref (z 3), .ref (z 4), .ref (z 5), .ref (z 6), .ref (z 7), .ref (z 8), .ref (z 9), .int (nI 0), .int (nI u1.1), .ref (z 10)])), (z 1, .inl (T 0, 340, .inl P0)), (z 2, .inl (T 0, 2040, .inl (recH Y.H Y.all Y.nh))), (z 3, .inl (T 0, 680, .inl Y.slo)), (z 4, .inl (T 0, 2, .inl Y.isv)), (z 5, .inl (T 0, 280, .inl c0.tree)), (z 6, .inl (T 0, 7, .inl c0.tried)), (z 7, .inl (T 0, 7, .inl c0.most)), (z 8, .inl (T 0, 7, .inl c0.best)), (z 9, .inl (T 0, 60, .inl Y.pad)), (z 10, .inl (T 0, 15, .inl nb))]) rfl
      have p26 : P0 26 = nI t := by rw [hP0]; exact (u_s _ _ _).trans hbt
      have t26 : (P0 26).toNatClampNeg = t := by rw [p26, nI_clamp (by omega)]
      have hW := Wd.arr hW 1 (put P0 0 P0) rfl (fun j _ => put_g P0 j) (ws' := [(z 0, .inr (7, [.ref (z 1), .ref (z 2), .int (nI (recN Y.nh)), .ref (z 3), .ref (z 4), .ref (z 5), .ref (z 6), .ref (z 7), .ref (z 8), .ref (z 9), .int (nI 0), .int (nI u1.1), .ref (z 10)])), (z 1, .inl (T 0, 340, .inl (put P0 0 P0))), (z 2, .inl (T 0, 2040, .inl (recH Y.H Y.all Y.nh))), (z 3, .inl (T 0, 680, .inl Y.slo)), (z 4, .inl (T 0, 2, .inl Y.isv)), (z 5, .inl (T 0, 280, .inl c0.tree)), (z 6, .inl (T 0, 7, .inl c0.tried)), (z 7, .inl (T 0, 7, .inl c0.most)), (z 8, .inl (T 0, 7, .inl c0.best)), (z 9, .inl (T 0, 60, .inl Y.pad)), (z 10, .inl (T 0, 15, .inl nb))]) rfl
      refine lv_aload_n hx hb dX7_read_95 rfl (lv_at hl 0 rfl) ?_
      refine gf482 F hW 0 rfl rfl dX7_read_96 ?_
      refine lv_iconst (v := nI 0) hx hb dX7_read_99 (by decide) ?_
      refine cIS (As := [.ref (z 1), .int (nI 0)]) (rest := []) (wr := [(z 0, .inr (7, [.ref (z 1), .ref (z 2), .int (nI (recN Y.nh)), .ref (z 3), .ref (z 4), .ref (z 5), .ref (z 6), .ref (z 7), .ref (z 8), .ref (z 9), .int (nI 0), .int (nI u1.1), .ref (z 10)])), (z 2, .inl (T 0, 2040, .inl (recH Y.H Y.all Y.nh))), (z 3, .inl (T 0, 680, .inl Y.slo)), (z 4, .inl (T 0, 2, .inl Y.isv)), (z 5, .inl (T 0, 280, .inl c0.tree)), (z 6, .inl (T 0, 7, .inl c0.tried)), (z 7, .inl (T 0, 7, .inl c0.most)), (z 8, .inl (T 0, 7, .inl c0.best)), (z 9, .inl (T 0, 60, .inl Y.pad)), (z 10, .inl (T 0, 15, .inl nb))]) F hW hl cs573 (r_ends l D T (z 1) 340 0 (by omega) (by omega) P0 P0) [1] [0, 2, 3, 4, 5, 6, 7, 8, 9, 10] rfl rfl rfl rfl (by decide) rfl rfl (Nat.le_of_ble_eq_true rfl) ⟨Nat.le_of_ble_eq_true rfl, Nat.le_of_ble_eq_true rfl⟩ ⟨Nat.zero_le _, Nat.zero_le _⟩ dX7_read_100 (fun r100 u100 H locs hr100 hW => ?_)
      have hW := Wd.ord hW (ws' := [(z 0, .inr (7, [.ref (z 1), .ref (z 2), .int (nI (recN Y.nh)), .ref (z 3), .ref (z 4), .ref (z 5), .ref (z 6), .ref (z 7), .ref (z 8), .ref (z 9), .int (nI 0), .int (nI u1.1), .ref (z 10)])), (z 1, .inl (T 0, 340, .inl (put P0 0 (enM P0)))), (z 2, .inl (T 0, 2040, .inl (recH Y.H Y.all Y.nh))), (z 3, .inl (T 0, 680, .inl Y.slo)), (z 4, .inl (T 0, 2, .inl Y.isv)), (z 5, .inl (T 0, 280, .inl c0.tree)), (z 6, .inl (T 0, 7, .inl c0.tried)), (z 7, .inl (T 0, 7, .inl c0.most)), (z 8, .inl (T 0, 7, .inl c0.best)), (z 9, .inl (T 0, 60, .inl Y.pad)), (z 10, .inl (T 0, 15, .inl nb))]) [0, 10, 1, 2, 3, 4, 5, 6, 7, 8, 9] rfl rfl
      subst hr100
      refine lv_istore_n (lv' := [(1, .int (if overM P0 then 1 else 0)), (0, .ref (z 0))]) hx hb dX7_read_103 rfl hl (by decide) rfl (fun ls hl => ?_)
      refine lv_iload_n hx hb dX7_read_104 rfl (lv_at hl 0 rfl) ?_
      refine lv_if_ne (tgt := 142) hx hb dX7_read_105 (by decide) (fun h105 => ?_) (fun h105 => ?_)
      · have ho : overM P0 := Decidable.not_not.mp (fun q => h105 (bz.mpr q))
        refine lv_aload_n hx hb dX7_read_142 rfl (lv_at hl 1 rfl) ?_
        refine gf482 F hW 0 rfl rfl dX7_read_143 ?_
        refine lv_iconst (v := nI 0) hx hb dX7_read_146 (by decide) ?_
        refine cRS (As := [.ref (z 1), .int (nI 0)]) (rest := []) F hW hl cs576 (r_total l D T (z 1) 340 0 (by omega) (by omega) P0 (enM P0)) [1] rfl rfl rfl rfl (Nat.le_of_ble_eq_true rfl) ⟨Nat.le_of_ble_eq_true rfl, Nat.le_of_ble_eq_true rfl⟩ ⟨Nat.zero_le _, Nat.zero_le _⟩ dX7_read_147 (fun r147 hr147 => ?_)
        subst hr147
        have eQ : rdQ P0 = enM P0 := if_neg (fun z => z.1 ho)
        have hy : yRead Y = (allM (enM P0), (put P0 0 (enM P0), recH Y.H Y.all Y.nh, Y.slo, Y.isv, Y.pad, recN Y.nh, 0)) := by unfold yRead; rw [if_pos q, ← hnb, ← hP0, eQ]
        exact retI F hr hlk rfl hW (⟨c0.tree, c0.tried, c0.most, c0.best, nb, u1.1⟩ : SD) (congrArg Prod.fst hy).symm (congrArg (fun q => mw T z q.2 (⟨c0.tree, c0.tried, c0.most, c0.best, nb, u1.1⟩ : SD)) hy).symm dX7_read_150
      · have ho : ¬ overM P0 := bz.mp h105
        refine lv_aload_n hx hb dX7_read_108 rfl (lv_at hl 1 rfl) ?_
        refine gf482 F hW 0 rfl rfl dX7_read_109 ?_
        refine lv_iconst (v := nI 0) hx hb dX7_read_112 (by decide) ?_
        refine lv_aload_n hx hb dX7_read_113 rfl (lv_at hl 1 rfl) ?_
        refine gf482 F hW 0 rfl rfl dX7_read_114 ?_
        refine lv_bipush (v := nI 26) hx hb dX7_read_117 (by decide) ?_
        refine ald F hW 1 rfl (x := nI t) 26 rfl (by omega) (by omega) ((put_r (k := 26) (by omega) (by omega)).trans ((en_26 P0).trans p26)) dX7_read_119 ?_
        refine cRS (As := [.ref (z 1), .int (nI 0), .int (nI t)]) (rest := []) F hW hl cs579 (r_seedsOf l D T (z 1) 340 0 (by omega) (by omega) P0 (enM P0) (t := t) (by omega)) [1] rfl rfl rfl rfl (Nat.le_of_ble_eq_true rfl) ⟨Nat.le_of_ble_eq_true rfl, Nat.le_of_ble_eq_true rfl⟩ ⟨Nat.zero_le _, Nat.zero_le _⟩ dX7_read_120 (fun r120 hr120 => ?_)
        subst hr120
        refine lv_if_ne (tgt := 142) hx hb dX7_read_123 (by decide) (fun h123 => ?_) (fun h123 => ?_)
        · refine lv_aload_n hx hb dX7_read_142 rfl (lv_at hl 1 rfl) ?_
          refine gf482 F hW 0 rfl rfl dX7_read_143 ?_
          refine lv_iconst (v := nI 0) hx hb dX7_read_146 (by decide) ?_
          refine cRS (As := [.ref (z 1), .int (nI 0)]) (rest := []) F hW hl cs576 (r_total l D T (z 1) 340 0 (by omega) (by omega) P0 (enM P0)) [1] rfl rfl rfl rfl (Nat.le_of_ble_eq_true rfl) ⟨Nat.le_of_ble_eq_true rfl, Nat.le_of_ble_eq_true rfl⟩ ⟨Nat.zero_le _, Nat.zero_le _⟩ dX7_read_147 (fun r147 hr147 => ?_)
          subst hr147
          have eQ : rdQ P0 = enM P0 := if_neg (fun z => h123 (by rw [← t26]; exact z.2))
          have hy : yRead Y = (allM (enM P0), (put P0 0 (enM P0), recH Y.H Y.all Y.nh, Y.slo, Y.isv, Y.pad, recN Y.nh, 0)) := by unfold yRead; rw [if_pos q, ← hnb, ← hP0, eQ]
          exact retI F hr hlk rfl hW (⟨c0.tree, c0.tried, c0.most, c0.best, nb, u1.1⟩ : SD) (congrArg Prod.fst hy).symm (congrArg (fun q => mw T z q.2 (⟨c0.tree, c0.tried, c0.most, c0.best, nb, u1.1⟩ : SD)) hy).symm dX7_read_150
        · refine lv_aload_n hx hb dX7_read_126 rfl (lv_at hl 1 rfl) ?_
          refine gf482 F hW 0 rfl rfl dX7_read_127 ?_
          refine lv_bipush (v := nI 26) hx hb dX7_read_130 (by decide) ?_
          refine lv_iconst (v := nI 1) hx hb dX7_read_132 (by decide) ?_
          refine lv_aload_n hx hb dX7_read_133 rfl (lv_at hl 1 rfl) ?_
          refine gf482 F hW 0 rfl rfl dX7_read_134 ?_
          refine lv_bipush (v := nI 26) hx hb dX7_read_137 (by decide) ?_
          refine ald F hW 1 rfl (x := enM P0 26) 26 rfl (by omega) (by omega) (put_r (k := 26) (by omega) (by omega)) dX7_read_139 ?_
          refine isubE (z := (nI 1) - (enM P0 26)) hx hb dX7_read_140 rfl ?_
          refine ast (ws' := [(z 0, .inr (7, [.ref (z 1), .ref (z 2), .int (nI (recN Y.nh)), .ref (z 3), .ref (z 4), .ref (z 5), .ref (z 6), .ref (z 7), .ref (z 8), .ref (z 9), .int (nI 0), .int (nI u1.1), .ref (z 10)])), (z 1, .inl (T 0, 340, .inl (put P0 0 (upd (enM P0) 26 ((nI 1) - (enM P0 26)))))), (z 2, .inl (T 0, 2040, .inl (recH Y.H Y.all Y.nh))), (z 3, .inl (T 0, 680, .inl Y.slo)), (z 4, .inl (T 0, 2, .inl Y.isv)), (z 5, .inl (T 0, 280, .inl c0.tree)), (z 6, .inl (T 0, 7, .inl c0.tried)), (z 7, .inl (T 0, 7, .inl c0.most)), (z 8, .inl (T 0, 7, .inl c0.best)), (z 9, .inl (T 0, 60, .inl Y.pad)), (z 10, .inl (T 0, 15, .inl nb))]) F hW 1 (put P0 0 (upd (enM P0) 26 ((nI 1) - (enM P0 26)))) rfl 26 rfl (by omega) (by omega) (fun j _ => put_w (by omega) (by omega) j) rfl dX7_read_141 (fun H locs hW => ?_)
          refine lv_aload_n hx hb dX7_read_142 rfl (lv_at hl 1 rfl) ?_
          refine gf482 F hW 0 rfl rfl dX7_read_143 ?_
          refine lv_iconst (v := nI 0) hx hb dX7_read_146 (by decide) ?_
          refine cRS (As := [.ref (z 1), .int (nI 0)]) (rest := []) F hW hl cs576 (r_total l D T (z 1) 340 0 (by omega) (by omega) P0 (upd (enM P0) 26 ((nI 1) - (enM P0 26)))) [1] rfl rfl rfl rfl (Nat.le_of_ble_eq_true rfl) ⟨Nat.le_of_ble_eq_true rfl, Nat.le_of_ble_eq_true rfl⟩ ⟨Nat.zero_le _, Nat.zero_le _⟩ dX7_read_147 (fun r147 hr147 => ?_)
          subst hr147
          have eQ : rdQ P0 = upd (enM P0) 26 (nI 1 - enM P0 26) := if_pos ⟨ho, by rw [t26]; exact h123⟩
          have hy : yRead Y = (allM (upd (enM P0) 26 (nI 1 - enM P0 26)), (put P0 0 (upd (enM P0) 26 (nI 1 - enM P0 26)), recH Y.H Y.all Y.nh, Y.slo, Y.isv, Y.pad, recN Y.nh, 0)) := by unfold yRead; rw [if_pos q, ← hnb, ← hP0, eQ]
          exact retI F hr hlk rfl hW (⟨c0.tree, c0.tried, c0.most, c0.best, nb, u1.1⟩ : SD) (congrArg Prod.fst hy).symm (congrArg (fun q => mw T z q.2 (⟨c0.tree, c0.tried, c0.most, c0.best, nb, u1.1⟩ : SD)) hy).symm dX7_read_150
    · have h5q : i < 12 := n_nle h25 (by decide) (by omega)
      refine lv_aload_n hx hb dX7_read_28 rfl (lv_at hl 0 rfl) ?_
      refine gf482 F hW 0 rfl rfl dX7_read_29 ?_
      refine lv_iconst (v := nI 0) hx hb dX7_read_32 (by decide) ?_
      refine lv_iload_n hx hb dX7_read_33 rfl (lv_at hl 1 rfl) ?_
      refine iaddE (z := nI i) hx hb dX7_read_34 ((nI_add _ _).trans (by rw [Nat.zero_add])) ?_
      refine lv_aload_n hx hb dX7_read_35 rfl (lv_at hl 0 rfl) ?_
      refine gf494 F hW 0 rfl rfl dX7_read_36 ?_
      refine lv_iload_n hx hb dX7_read_39 rfl (lv_at hl 1 rfl) ?_
      refine ald F hW 10 rfl (x := nb i) i rfl (by omega) (by decide) rfl dX7_read_40 ?_
      refine ast (ws' := [(z 0, .inr (7, [.ref (z 1), .ref (z 2), .int (nI (recN Y.nh)), .ref (z 3), .ref (z 4), .ref (z 5), .ref (z 6), .ref (z 7), .ref (z 8), .ref (z 9), .int (nI Y.pn), .int (nI u1.1), .ref (z 10)])), (z 1, .inl (T 0, 340, .inl (rdk Y.all nb (i + 1)))), (z 2, .inl (T 0, 2040, .inl (recH Y.H Y.all Y.nh))), (z 3, .inl (T 0, 680, .inl Y.slo)), (z 4, .inl (T 0, 2, .inl Y.isv)), (z 5, .inl (T 0, 280, .inl c0.tree)), (z 6, .inl (T 0, 7, .inl c0.tried)), (z 7, .inl (T 0, 7, .inl c0.most)), (z 8, .inl (T 0, 7, .inl c0.best)), (z 9, .inl (T 0, 60, .inl Y.pad)), (z 10, .inl (T 0, 15, .inl nb))]) F hW 1 (rdk Y.all nb (i + 1)) rfl i rfl (by omega) (by decide) (fun j _ => rdk_s j) rfl dX7_read_41 (fun H locs hW => ?_)
      refine lv_iinc (v := nI (i + 1)) (lv' := [(1, .int (nI (i + 1))), (0, .ref (z 0))]) hx hb dX7_read_42 hl (k := 1) rfl (nI_add _ _) (by decide) rfl (fun ls hl => ?_)
      refine lv_goto (tgt := 22) hx hb dX7_read_45 (by decide) ?_
      exact ih (12 - (i + 1)) _ _ _ (by omega) ⟨i + 1, by omega, rfl, hW, lv_sub hl [1, 0] rfl⟩
  · refine lv_bipush (v := -3) hx hb dX7_read_9 (by decide) ?_
    have hy : yRead Y = (-3, Y) := if_neg (fun z => h6 (e1.1.trans z))
    exact retI F hr hlk rfl hW (⟨c0.tree, c0.tried, c0.most, c0.best, u1.2, u1.1⟩ : SD) (congrArg Prod.fst hy).symm (congrArg (fun q => mw T z q.2 (⟨c0.tree, c0.tried, c0.most, c0.best, u1.2, u1.1⟩ : SD)) hy).symm dX7_read_11
set_option maxHeartbeats 4000000 in
set_option maxRecDepth 100000 in
theorem y_count (l : Launch) (D : va_G) (T : Nat → ClassId) (z : Nat → Nat) (Y : YD) (c0 : SD) (hY : YOK Y) (x : Int32) : KI (S := SD) l D T yX7_count cX7_count 2 (some .int) 6 [.ref (z 0), .int x] [(z 0, .inr (7, [.ref (z 1), .ref (z 2), .int (nI Y.nh), .ref (z 3), .ref (z 4), .ref (z 5), .ref (z 6), .ref (z 7), .ref (z 8), .ref (z 9), .int (nI Y.pn), .int (nI c0.sp), .ref (z 10)])), (z 1, .inl (T 0, 340, .inl Y.all)), (z 2, .inl (T 0, 2040, .inl Y.H)), (z 3, .inl (T 0, 680, .inl Y.slo)), (z 4, .inl (T 0, 2, .inl Y.isv)), (z 5, .inl (T 0, 280, .inl c0.tree)), (z 6, .inl (T 0, 7, .inl c0.tried)), (z 7, .inl (T 0, 7, .inl c0.most)), (z 8, .inl (T 0, 7, .inl c0.best)), (z 9, .inl (T 0, 60, .inl Y.pad)), (z 10, .inl (T 0, 15, .inl c0.rd))] (fun r _ => r = (yCount Y x).1) (fun u => mw T z (yCount Y x).2 u) := by
  refine KI.of (by decide +kernel) (Nat.le_of_ble_eq_true rfl) (fun p e s m below meth c A F hr hlk hW ls hl => ?_)
  have hx := F.1
  have hb := F.2.1
  have hl : lv_has ls 2 [(0, .ref (z 0)), (1, .int x)] := hl
  obtain ⟨⟨⟨S0, hI⟩, h34⟩, hnh, hpn, hHi, hsl⟩ := hY
  have hI2 := hI
  obtain ⟨hJ, ⟨pl, hpl, h26⟩, h27, ⟨mk, h28, hm1, hm2⟩, h36, h37, hleg⟩ := hI2
  refine lv_iload_n hx hb dX7_count_0 rfl (lv_at hl 1 rfl) ?_
  refine lv_i2l (v := x.toInt64) hx hb dX7_count_1 rfl ?_
  refine lv_ldc2 hx hb F.2.2.2.1 (F.2.2.2.2 _ m635) dX7_count_2 ?_
  refine lv_ldc2 hx hb F.2.2.2.1 (F.2.2.2.2 _ m636) dX7_count_5 ?_
  refine cRS (As := [.long x.toInt64, .long 7, .long 10]) (rest := []) F hW hl cs530 (r_in l D T x.toInt64 7 10) [] rfl rfl rfl rfl (Nat.le_of_ble_eq_true rfl) ⟨Nat.le_of_ble_eq_true rfl, Nat.le_of_ble_eq_true rfl⟩ ⟨Nat.zero_le _, Nat.zero_le _⟩ dX7_count_8 (fun r8 hr8 => ?_)
  subst hr8
  refine lv_if_eq (tgt := 27) hx hb dX7_count_11 (by decide) (fun h11 => ?_) (fun h11 => ?_)
  · have q : ¬ rng 7 10 x := fun q => absurd ((in_if (a := 7) (b := 10) (la := 7) (lb := 10) x (by decide) (by decide)).trans (if_pos q)) (by rw [h11]; decide)
    by_cases q2 : rng 0 13 x
    · obtain ⟨k, kb, kl, ek, ck⟩ := rng_nat q2
      rw [ek] at hl
      have hk : k = 0 ∨ k = 1 ∨ k = 2 ∨ k = 3 ∨ k = 4 ∨ k = 5 ∨ k = 6 ∨ k = 11 ∨ k = 12 ∨ k = 13 := by
        have : ¬ (7 ≤ k ∧ k ≤ 10) := fun z => q (by rw [ek]; show (7 : Int) ≤ (nI k).toInt ∧ (nI k).toInt ≤ 10; rw [nI_toInt kl]; omega)
        omega
      rcases hk with rfl | rfl | rfl | rfl | rfl | rfl | rfl | rfl | rfl | rfl
      · refine lv_iload_n hx hb dX7_count_27 rfl (lv_at hl 1 rfl) ?_
        refine lv_tableIn (off := 72) (tgt := 100) hx hb dX7_count_28 (by decide) (by decide) (by decide) (by decide) ?_
        refine lv_aload_n hx hb dX7_count_100 rfl (lv_at hl 0 rfl) ?_
        refine gf482 F hW 0 rfl rfl dX7_count_101 ?_
        refine lv_bipush (v := nI 26) hx hb dX7_count_104 (by decide) ?_
        refine ald F hW 1 rfl (x := Y.all 26) 26 rfl (by omega) (by decide) rfl dX7_count_106 ?_
        have hy : yCount Y x = (Y.all 26, Y) := by unfold yCount; rw [if_pos q2, ck]; rfl
        exact retI F hr hlk rfl hW (⟨c0.tree, c0.tried, c0.most, c0.best, c0.rd, c0.sp⟩ : SD) (congrArg Prod.fst hy).symm (congrArg (fun q => mw T z q.2 (⟨c0.tree, c0.tried, c0.most, c0.best, c0.rd, c0.sp⟩ : SD)) hy).symm dX7_count_107
      · refine lv_iload_n hx hb dX7_count_27 rfl (lv_at hl 1 rfl) ?_
        refine lv_tableIn (off := 80) (tgt := 108) hx hb dX7_count_28 (by decide) (by decide) (by decide) (by decide) ?_
        refine lv_aload_n hx hb dX7_count_108 rfl (lv_at hl 0 rfl) ?_
        refine gf482 F hW 0 rfl rfl dX7_count_109 ?_
        refine lv_bipush (v := nI 27) hx hb dX7_count_112 (by decide) ?_
        refine ald F hW 1 rfl (x := Y.all 27) 27 rfl (by omega) (by decide) rfl dX7_count_114 ?_
        have hy : yCount Y x = (Y.all 27, Y) := by unfold yCount; rw [if_pos q2, ck]; rfl
        exact retI F hr hlk rfl hW (⟨c0.tree, c0.tried, c0.most, c0.best, c0.rd, c0.sp⟩ : SD) (congrArg Prod.fst hy).symm (congrArg (fun q => mw T z q.2 (⟨c0.tree, c0.tried, c0.most, c0.best, c0.rd, c0.sp⟩ : SD)) hy).symm dX7_count_115
      · refine lv_iload_n hx hb dX7_count_27 rfl (lv_at hl 1 rfl) ?_
        refine lv_tableIn (off := 88) (tgt := 116) hx hb dX7_count_28 (by decide) (by decide) (by decide) (by decide) ?_
        refine lv_aload_n hx hb dX7_count_116 rfl (lv_at hl 0 rfl) ?_
        refine cRV (As := []) (rest := []) F hW hl cs637 (r_winner l D T (z 0) (z 1) (z 2) (z 3) (z 4) (z 5) (z 6) (z 7) (z 8) (z 9) (z 10) (nI Y.nh) (nI Y.pn) (nI c0.sp) Y.all) [0, 1] rfl rfl 0 7 rfl rfl rfl rfl rfl (Nat.le_of_ble_eq_true rfl) ⟨Nat.le_of_ble_eq_true rfl, Nat.le_of_ble_eq_true rfl⟩ ⟨Nat.zero_le _, Nat.zero_le _⟩ dX7_count_117 (fun r117 hr117 => ?_)
        subst hr117
        have hy : yCount Y x = (winM Y.all, Y) := by unfold yCount; rw [if_pos q2, ck]; rfl
        exact retI F hr hlk rfl hW (⟨c0.tree, c0.tried, c0.most, c0.best, c0.rd, c0.sp⟩ : SD) (congrArg Prod.fst hy).symm (congrArg (fun q => mw T z q.2 (⟨c0.tree, c0.tried, c0.most, c0.best, c0.rd, c0.sp⟩ : SD)) hy).symm dX7_count_120
      · refine lv_iload_n hx hb dX7_count_27 rfl (lv_at hl 1 rfl) ?_
        refine lv_tableIn (off := 93) (tgt := 121) hx hb dX7_count_28 (by decide) (by decide) (by decide) (by decide) ?_
        refine lv_aload_n hx hb dX7_count_121 rfl (lv_at hl 0 rfl) ?_
        refine gf482 F hW 0 rfl rfl dX7_count_122 ?_
        refine lv_bipush (v := nI 24) hx hb dX7_count_125 (by decide) ?_
        refine lv_iload_n hx hb dX7_count_127 rfl (lv_at hl 1 rfl) ?_
        refine iaddE (z := nI (24 + 3)) hx hb dX7_count_128 (nI_add _ _) ?_
        refine lv_iconst (v := nI 3) hx hb dX7_count_129 (by decide) ?_
        refine isubE (z := nI 24) hx hb dX7_count_130 (pk_sub (by decide)) ?_
        refine ald F hW 1 rfl (x := Y.all 24) 24 rfl (by omega) (by decide) rfl dX7_count_131 ?_
        have hy : yCount Y x = (Y.all 24, Y) := by unfold yCount; rw [if_pos q2, ck]; rfl
        exact retI F hr hlk rfl hW (⟨c0.tree, c0.tried, c0.most, c0.best, c0.rd, c0.sp⟩ : SD) (congrArg Prod.fst hy).symm (congrArg (fun q => mw T z q.2 (⟨c0.tree, c0.tried, c0.most, c0.best, c0.rd, c0.sp⟩ : SD)) hy).symm dX7_count_132
      · refine lv_iload_n hx hb dX7_count_27 rfl (lv_at hl 1 rfl) ?_
        refine lv_tableIn (off := 93) (tgt := 121) hx hb dX7_count_28 (by decide) (by decide) (by decide) (by decide) ?_
        refine lv_aload_n hx hb dX7_count_121 rfl (lv_at hl 0 rfl) ?_
        refine gf482 F hW 0 rfl rfl dX7_count_122 ?_
        refine lv_bipush (v := nI 24) hx hb dX7_count_125 (by decide) ?_
        refine lv_iload_n hx hb dX7_count_127 rfl (lv_at hl 1 rfl) ?_
        refine iaddE (z := nI (24 + 4)) hx hb dX7_count_128 (nI_add _ _) ?_
        refine lv_iconst (v := nI 3) hx hb dX7_count_129 (by decide) ?_
        refine isubE (z := nI 25) hx hb dX7_count_130 (pk_sub (by decide)) ?_
        refine ald F hW 1 rfl (x := Y.all 25) 25 rfl (by omega) (by decide) rfl dX7_count_131 ?_
        have hy : yCount Y x = (Y.all 25, Y) := by unfold yCount; rw [if_pos q2, ck]; rfl
        exact retI F hr hlk rfl hW (⟨c0.tree, c0.tried, c0.most, c0.best, c0.rd, c0.sp⟩ : SD) (congrArg Prod.fst hy).symm (congrArg (fun q => mw T z q.2 (⟨c0.tree, c0.tried, c0.most, c0.best, c0.rd, c0.sp⟩ : SD)) hy).symm dX7_count_132
      · refine lv_iload_n hx hb dX7_count_27 rfl (lv_at hl 1 rfl) ?_
        refine lv_tableIn (off := 105) (tgt := 133) hx hb dX7_count_28 (by decide) (by decide) (by decide) (by decide) ?_
        have hW := Wd.arr hW 1 (put Y.all 0 Y.all) rfl (fun j _ => put_g Y.all j) (ws' := [(z 0, .inr (7, [.ref (z 1), .ref (z 2), .int (nI Y.nh), .ref (z 3), .ref (z 4), .ref (z 5), .ref (z 6), .ref (z 7), .ref (z 8), .ref (z 9), .int (nI Y.pn), .int (nI c0.sp), .ref (z 10)])), (z 1, .inl (T 0, 340, .inl (put Y.all 0 Y.all))), (z 2, .inl (T 0, 2040, .inl Y.H)), (z 3, .inl (T 0, 680, .inl Y.slo)), (z 4, .inl (T 0, 2, .inl Y.isv)), (z 5, .inl (T 0, 280, .inl c0.tree)), (z 6, .inl (T 0, 7, .inl c0.tried)), (z 7, .inl (T 0, 7, .inl c0.most)), (z 8, .inl (T 0, 7, .inl c0.best)), (z 9, .inl (T 0, 60, .inl Y.pad)), (z 10, .inl (T 0, 15, .inl c0.rd))]) rfl
        refine lv_aload_n hx hb dX7_count_133 rfl (lv_at hl 0 rfl) ?_
        refine gf482 F hW 0 rfl rfl dX7_count_134 ?_
        refine lv_iconst (v := nI 0) hx hb dX7_count_137 (by decide) ?_
        refine cRS (As := [.ref (z 1), .int (nI 0)]) (rest := []) F hW hl cs576 (r_total l D T (z 1) 340 0 (by omega) (by omega) Y.all Y.all) [1] rfl rfl rfl rfl (Nat.le_of_ble_eq_true rfl) ⟨Nat.le_of_ble_eq_true rfl, Nat.le_of_ble_eq_true rfl⟩ ⟨Nat.zero_le _, Nat.zero_le _⟩ dX7_count_138 (fun r138 hr138 => ?_)
        subst hr138
        have hW := Wd.arr hW 1 Y.all rfl (fun j _ => (put_g Y.all j).symm) (ws' := [(z 0, .inr (7, [.ref (z 1), .ref (z 2), .int (nI Y.nh), .ref (z 3), .ref (z 4), .ref (z 5), .ref (z 6), .ref (z 7), .ref (z 8), .ref (z 9), .int (nI Y.pn), .int (nI c0.sp), .ref (z 10)])), (z 1, .inl (T 0, 340, .inl Y.all)), (z 2, .inl (T 0, 2040, .inl Y.H)), (z 3, .inl (T 0, 680, .inl Y.slo)), (z 4, .inl (T 0, 2, .inl Y.isv)), (z 5, .inl (T 0, 280, .inl c0.tree)), (z 6, .inl (T 0, 7, .inl c0.tried)), (z 7, .inl (T 0, 7, .inl c0.most)), (z 8, .inl (T 0, 7, .inl c0.best)), (z 9, .inl (T 0, 60, .inl Y.pad)), (z 10, .inl (T 0, 15, .inl c0.rd))]) rfl
        have hy : yCount Y x = (allM Y.all, Y) := by unfold yCount; rw [if_pos q2, ck]; rfl
        exact retI F hr hlk rfl hW (⟨c0.tree, c0.tried, c0.most, c0.best, c0.rd, c0.sp⟩ : SD) (congrArg Prod.fst hy).symm (congrArg (fun q => mw T z q.2 (⟨c0.tree, c0.tried, c0.most, c0.best, c0.rd, c0.sp⟩ : SD)) hy).symm dX7_count_141
      · refine lv_iload_n hx hb dX7_count_27 rfl (lv_at hl 1 rfl) ?_
        refine lv_tableIn (off := 114) (tgt := 142) hx hb dX7_count_28 (by decide) (by decide) (by decide) (by decide) ?_
        refine lv_aload_n hx hb dX7_count_142 rfl (lv_at hl 0 rfl) ?_
        refine gf482 F hW 0 rfl rfl dX7_count_143 ?_
        refine lv_bipush (v := nI 28) hx hb dX7_count_146 (by decide) ?_
        refine ald F hW 1 rfl (x := Y.all 28) 28 rfl (by omega) (by decide) rfl dX7_count_148 ?_
        have hy : yCount Y x = (Y.all 28, Y) := by unfold yCount; rw [if_pos q2, ck]; rfl
        exact retI F hr hlk rfl hW (⟨c0.tree, c0.tried, c0.most, c0.best, c0.rd, c0.sp⟩ : SD) (congrArg Prod.fst hy).symm (congrArg (fun q => mw T z q.2 (⟨c0.tree, c0.tried, c0.most, c0.best, c0.rd, c0.sp⟩ : SD)) hy).symm dX7_count_149
      · refine lv_iload_n hx hb dX7_count_27 rfl (lv_at hl 1 rfl) ?_
        refine lv_tableIn (off := 122) (tgt := 150) hx hb dX7_count_28 (by decide) (by decide) (by decide) (by decide) ?_
        refine lv_aload_n hx hb dX7_count_150 rfl (lv_at hl 0 rfl) ?_
        refine cRV (As := []) (rest := []) F hW hl cs641 (r_hostiles l D T (z 0) (z 1) (z 2) (z 3) (z 4) (z 5) (z 6) (z 7) (z 8) (z 9) (z 10) (nI Y.nh) (nI Y.pn) (nI c0.sp) Y.all) [0, 1] rfl rfl 0 7 rfl rfl rfl rfl rfl (Nat.le_of_ble_eq_true rfl) ⟨Nat.le_of_ble_eq_true rfl, Nat.le_of_ble_eq_true rfl⟩ ⟨Nat.zero_le _, Nat.zero_le _⟩ dX7_count_151 (fun r151 hr151 => ?_)
        subst hr151
        have hy : yCount Y x = (hosM Y.all 12, Y) := by unfold yCount; rw [if_pos q2, ck]; rfl
        exact retI F hr hlk rfl hW (⟨c0.tree, c0.tried, c0.most, c0.best, c0.rd, c0.sp⟩ : SD) (congrArg Prod.fst hy).symm (congrArg (fun q => mw T z q.2 (⟨c0.tree, c0.tried, c0.most, c0.best, c0.rd, c0.sp⟩ : SD)) hy).symm dX7_count_154
      · refine lv_iload_n hx hb dX7_count_27 rfl (lv_at hl 1 rfl) ?_
        refine lv_tableIn (off := 127) (tgt := 155) hx hb dX7_count_28 (by decide) (by decide) (by decide) (by decide) ?_
        refine lv_aload_n hx hb dX7_count_155 rfl (lv_at hl 0 rfl) ?_
        refine gf492 F hW 0 rfl rfl dX7_count_156 ?_
        have hy : yCount Y x = (nI Y.pn, Y) := by unfold yCount; rw [if_pos q2, ck]; rfl
        exact retI F hr hlk rfl hW (⟨c0.tree, c0.tried, c0.most, c0.best, c0.rd, c0.sp⟩ : SD) (congrArg Prod.fst hy).symm (congrArg (fun q => mw T z q.2 (⟨c0.tree, c0.tried, c0.most, c0.best, c0.rd, c0.sp⟩ : SD)) hy).symm dX7_count_159
      · refine lv_iload_n hx hb dX7_count_27 rfl (lv_at hl 1 rfl) ?_
        refine lv_tableIn (off := 132) (tgt := 160) hx hb dX7_count_28 (by decide) (by decide) (by decide) (by decide) ?_
        refine lv_aload_n hx hb dX7_count_160 rfl (lv_at hl 0 rfl) ?_
        refine gf484 F hW 0 rfl rfl dX7_count_161 ?_
        have hy : yCount Y x = (nI Y.nh, Y) := by unfold yCount; rw [if_pos q2, ck]; rfl
        exact retI F hr hlk rfl hW (⟨c0.tree, c0.tried, c0.most, c0.best, c0.rd, c0.sp⟩ : SD) (congrArg Prod.fst hy).symm (congrArg (fun q => mw T z q.2 (⟨c0.tree, c0.tried, c0.most, c0.best, c0.rd, c0.sp⟩ : SD)) hy).symm dX7_count_164
    · refine lv_iload_n hx hb dX7_count_27 rfl (lv_at hl 1 rfl) ?_
      refine lv_tableOut (tgt := 165) hx hb dX7_count_28 (by have : ¬ rng 0 13 x := q2; unfold rng at this; omega) (by decide) ?_
      refine lv_bipush (v := -2) hx hb dX7_count_165 (by decide) ?_
      have hy : yCount Y x = (-2, Y) := if_neg q2
      exact retI F hr hlk rfl hW (⟨c0.tree, c0.tried, c0.most, c0.best, c0.rd, c0.sp⟩ : SD) (congrArg Prod.fst hy).symm (congrArg (fun q => mw T z q.2 (⟨c0.tree, c0.tried, c0.most, c0.best, c0.rd, c0.sp⟩ : SD)) hy).symm dX7_count_167
  · have q : rng 7 10 x := Decidable.not_not.mp (fun q => h11 ((in_if (a := 7) (b := 10) (la := 7) (lb := 10) x (by decide) (by decide)).trans (if_neg q)))
    have q2 : rng 0 13 x := ⟨by have := q.1; omega, by have := q.2; omega⟩
    obtain ⟨k, ka, kb, kl, ek, ck⟩ := rng_nat1 q (by decide)
    rw [ek] at hl
    refine lv_aload_n hx hb dX7_count_14 rfl (lv_at hl 0 rfl) ?_
    refine gf482 F hW 0 rfl rfl dX7_count_15 ?_
    refine lv_bipush (v := nI 34) hx hb dX7_count_18 (by decide) ?_
    refine lv_iload_n hx hb dX7_count_20 rfl (lv_at hl 1 rfl) ?_
    refine iaddE (z := nI (34 + k)) hx hb dX7_count_21 (nI_add _ _) ?_
    refine lv_bipush (v := nI 7) hx hb dX7_count_22 (by decide) ?_
    refine isubE (z := nI ((34 + k) - 7)) hx hb dX7_count_24 (pk_sub (by omega)) ?_
    refine ald F hW 1 rfl (x := Y.all ((34 + k) - 7)) ((34 + k) - 7) rfl (by omega) (by decide) rfl dX7_count_25 ?_
    have ea : Y.all (34 + k - 7) = cntN Y k := by
      rcases (show k = 7 ∨ k = 8 ∨ k = 9 ∨ k = 10 by omega) with rfl | rfl | rfl | rfl <;> rfl
    have hy : yCount Y x = (Y.all (34 + k - 7), Y) := by unfold yCount; rw [if_pos q2, ck, ea]
    exact retI F hr hlk rfl hW (⟨c0.tree, c0.tried, c0.most, c0.best, c0.rd, c0.sp⟩ : SD) (congrArg Prod.fst hy).symm (congrArg (fun q => mw T z q.2 (⟨c0.tree, c0.tried, c0.most, c0.best, c0.rd, c0.sp⟩ : SD)) hy).symm dX7_count_26
set_option maxHeartbeats 4000000 in
set_option maxRecDepth 100000 in
theorem y_ifMove (l : Launch) (D : va_G) (T : Nat → ClassId) (z : Nat → Nat) (Y : YD) (c0 : SD) (hY : YOK Y) (x w : Int32) : KI (S := SD) l D T yX7_ifMove cX7_ifMove 4 (some .int) 6 [.ref (z 0), .int x, .int w] [(z 0, .inr (7, [.ref (z 1), .ref (z 2), .int (nI Y.nh), .ref (z 3), .ref (z 4), .ref (z 5), .ref (z 6), .ref (z 7), .ref (z 8), .ref (z 9), .int (nI Y.pn), .int (nI c0.sp), .ref (z 10)])), (z 1, .inl (T 0, 340, .inl Y.all)), (z 2, .inl (T 0, 2040, .inl Y.H)), (z 3, .inl (T 0, 680, .inl Y.slo)), (z 4, .inl (T 0, 2, .inl Y.isv)), (z 5, .inl (T 0, 280, .inl c0.tree)), (z 6, .inl (T 0, 7, .inl c0.tried)), (z 7, .inl (T 0, 7, .inl c0.most)), (z 8, .inl (T 0, 7, .inl c0.best)), (z 9, .inl (T 0, 60, .inl Y.pad)), (z 10, .inl (T 0, 15, .inl c0.rd))] (fun r _ => r = (yIfMove Y x w).1) (fun u => mw T z (yIfMove Y x w).2 u) := by
  refine KI.of (by decide +kernel) (Nat.le_of_ble_eq_true rfl) (fun p e s m below meth c A F hr hlk hW ls hl => ?_)
  have hx := F.1
  have hb := F.2.1
  have hl : lv_has ls 4 [(0, .ref (z 0)), (1, .int x), (2, .int w)] := hl
  obtain ⟨⟨⟨S0, hI⟩, h34⟩, hnh, hpn, hHi, hsl⟩ := hY
  have hI2 := hI
  obtain ⟨hJ, ⟨pl, hpl, h26⟩, h27, ⟨mk, h28, hm1, hm2⟩, h36, h37, hleg⟩ := hI2
  refine lv_iload_n hx hb dX7_ifMove_0 rfl (lv_at hl 1 rfl) ?_
  refine cRS (As := [.int x]) (rest := []) F hW hl cs547 (r_isHouse l D T x) [] rfl rfl rfl rfl (Nat.le_of_ble_eq_true rfl) ⟨Nat.le_of_ble_eq_true rfl, Nat.le_of_ble_eq_true rfl⟩ ⟨Nat.zero_le _, Nat.zero_le _⟩ dX7_ifMove_1 (fun r1 hr1 => ?_)
  subst hr1
  refine lv_if_ne (tgt := 9) hx hb dX7_ifMove_4 (by decide) (fun h4 => ?_) (fun h4 => ?_)
  · have q : rng 0 11 x := Decidable.not_not.mp (fun q => h4 (bz.mpr q))
    obtain ⟨k, kb, kl, ek, ck⟩ := rng_nat q
    rw [ek] at hl
    have hW := Wd.arr hW 1 (put Y.all 0 Y.all) rfl (fun j _ => put_g Y.all j) (ws' := [(z 0, .inr (7, [.ref (z 1), .ref (z 2), .int (nI Y.nh), .ref (z 3), .ref (z 4), .ref (z 5), .ref (z 6), .ref (z 7), .ref (z 8), .ref (z 9), .int (nI Y.pn), .int (nI c0.sp), .ref (z 10)])), (z 1, .inl (T 0, 340, .inl (put Y.all 0 Y.all))), (z 2, .inl (T 0, 2040, .inl Y.H)), (z 3, .inl (T 0, 680, .inl Y.slo)), (z 4, .inl (T 0, 2, .inl Y.isv)), (z 5, .inl (T 0, 280, .inl c0.tree)), (z 6, .inl (T 0, 7, .inl c0.tried)), (z 7, .inl (T 0, 7, .inl c0.most)), (z 8, .inl (T 0, 7, .inl c0.best)), (z 9, .inl (T 0, 60, .inl Y.pad)), (z 10, .inl (T 0, 15, .inl c0.rd))]) rfl
    refine lv_aload_n hx hb dX7_ifMove_9 rfl (lv_at hl 0 rfl) ?_
    refine gf482 F hW 0 rfl rfl dX7_ifMove_10 ?_
    refine lv_iconst (v := nI 0) hx hb dX7_ifMove_13 (by decide) ?_
    refine lv_iload_n hx hb dX7_ifMove_14 rfl (lv_at hl 1 rfl) ?_
    refine cRS (As := [.ref (z 1), .int (nI 0), .int (nI k)]) (rest := []) F hW hl cs551 (r_canMove l D T (z 1) 340 0 (by omega) (by omega) Y.all Y.all (h := k) (by omega)) [1] rfl rfl rfl rfl (Nat.le_of_ble_eq_true rfl) ⟨Nat.le_of_ble_eq_true rfl, Nat.le_of_ble_eq_true rfl⟩ ⟨Nat.zero_le _, Nat.zero_le _⟩ dX7_ifMove_15 (fun r15 hr15 => ?_)
    subst hr15
    refine lv_if_ne (tgt := 24) hx hb dX7_ifMove_18 (by decide) (fun h18 => ?_) (fun h18 => ?_)
    · have q2 : legM Y.all k := Decidable.not_not.mp (fun q => h18 (bz.mpr q))
      refine lv_iload_n hx hb dX7_ifMove_24 rfl (lv_at hl 2 rfl) ?_
      refine lv_i2l (v := w.toInt64) hx hb dX7_ifMove_25 rfl ?_
      refine lv_lconst (v := 0) hx hb dX7_ifMove_26 (by decide) ?_
      refine lv_ldc2 hx hb F.2.2.2.1 (F.2.2.2.2 _ m657) dX7_ifMove_27 ?_
      refine cRS (As := [.long w.toInt64, .long 0, .long 6]) (rest := []) F hW hl cs530 (r_in l D T w.toInt64 0 6) [] rfl rfl rfl rfl (Nat.le_of_ble_eq_true rfl) ⟨Nat.le_of_ble_eq_true rfl, Nat.le_of_ble_eq_true rfl⟩ ⟨Nat.zero_le _, Nat.zero_le _⟩ dX7_ifMove_30 (fun r30 hr30 => ?_)
      subst hr30
      refine lv_if_ne (tgt := 39) hx hb dX7_ifMove_33 (by decide) (fun h33 => ?_) (fun h33 => ?_)
      · have q3 : rng 0 6 w := Decidable.not_not.mp (fun q => h33 ((in_if (a := 0) (b := 6) (la := 0) (lb := 6) w (by decide) (by decide)).trans (if_neg q)))
        obtain ⟨n, nb, nl, en, cn⟩ := rng_nat q3
        rw [en] at hl
        refine lv_aload_n hx hb dX7_ifMove_39 rfl (lv_at hl 0 rfl) ?_
        refine lv_aload_n hx hb dX7_ifMove_40 rfl (lv_at hl 0 rfl) ?_
        refine gf482 F hW 0 rfl rfl dX7_ifMove_41 ?_
        refine lv_iconst (v := nI 0) hx hb dX7_ifMove_44 (by decide) ?_
        refine lv_iconst (v := nI 0) hx hb dX7_ifMove_45 (by decide) ?_
        refine cVV (As := [.ref (z 1), .int (nI 0), .int (nI 0)]) (rest := []) (wr := [(z 2, .inl (T 0, 2040, .inl Y.H)), (z 3, .inl (T 0, 680, .inl Y.slo)), (z 4, .inl (T 0, 2, .inl Y.isv)), (z 6, .inl (T 0, 7, .inl c0.tried)), (z 7, .inl (T 0, 7, .inl c0.most)), (z 8, .inl (T 0, 7, .inl c0.best)), (z 9, .inl (T 0, 60, .inl Y.pad)), (z 10, .inl (T 0, 15, .inl c0.rd))]) F hW hl cs587 (r_copyA l D T (z 0) (z 1) (z 2) (z 3) (z 4) (z 5) (z 6) (z 7) (z 8) (z 9) (z 10) (nI Y.nh) (nI Y.pn) (nI c0.sp) c0.tree Y.all Y.all) [0, 1, 5] [2, 3, 4, 6, 7, 8, 9, 10] rfl rfl rfl rfl (by decide) 0 7 rfl rfl rfl rfl rfl (Nat.le_of_ble_eq_true rfl) ⟨Nat.le_of_ble_eq_true rfl, Nat.le_of_ble_eq_true rfl⟩ ⟨Nat.zero_le _, Nat.zero_le _⟩ dX7_ifMove_46 (fun u46 H locs hr46 hW => ?_)
        have hW := Wd.ord hW (ws' := [(z 0, .inr (7, [.ref (z 1), .ref (z 2), .int (nI Y.nh), .ref (z 3), .ref (z 4), .ref (z 5), .ref (z 6), .ref (z 7), .ref (z 8), .ref (z 9), .int (nI Y.pn), .int (nI c0.sp), .ref (z 10)])), (z 1, .inl (T 0, 340, .inl (put Y.all 0 Y.all))), (z 2, .inl (T 0, 2040, .inl Y.H)), (z 3, .inl (T 0, 680, .inl Y.slo)), (z 4, .inl (T 0, 2, .inl Y.isv)), (z 5, .inl (T 0, 280, .inl (put c0.tree 0 Y.all))), (z 6, .inl (T 0, 7, .inl c0.tried)), (z 7, .inl (T 0, 7, .inl c0.most)), (z 8, .inl (T 0, 7, .inl c0.best)), (z 9, .inl (T 0, 60, .inl Y.pad)), (z 10, .inl (T 0, 15, .inl c0.rd))]) [8, 9, 0, 1, 2, 10, 3, 4, 5, 6, 7] rfl rfl
        refine lv_aload_n hx hb dX7_ifMove_49 rfl (lv_at hl 0 rfl) ?_
        refine gf487 F hW 0 rfl rfl dX7_ifMove_50 ?_
        refine lv_iconst (v := nI 0) hx hb dX7_ifMove_53 (by decide) ?_
        refine lv_iload_n hx hb dX7_ifMove_54 rfl (lv_at hl 1 rfl) ?_
        refine cVS (As := [.ref (z 5), .int (nI 0), .int (nI k)]) (rest := []) (wr := [(z 0, .inr (7, [.ref (z 1), .ref (z 2), .int (nI Y.nh), .ref (z 3), .ref (z 4), .ref (z 5), .ref (z 6), .ref (z 7), .ref (z 8), .ref (z 9), .int (nI Y.pn), .int (nI c0.sp), .ref (z 10)])), (z 1, .inl (T 0, 340, .inl (put Y.all 0 Y.all))), (z 2, .inl (T 0, 2040, .inl Y.H)), (z 3, .inl (T 0, 680, .inl Y.slo)), (z 4, .inl (T 0, 2, .inl Y.isv)), (z 6, .inl (T 0, 7, .inl c0.tried)), (z 7, .inl (T 0, 7, .inl c0.most)), (z 8, .inl (T 0, 7, .inl c0.best)), (z 9, .inl (T 0, 60, .inl Y.pad)), (z 10, .inl (T 0, 15, .inl c0.rd))]) F hW hl cs561 (r_moves l D T (z 5) 280 0 (by omega) (by omega) c0.tree Y.all (fr := k) (pl := pl) (by omega) hpl h26 h36 h37) [5] [0, 1, 2, 3, 4, 6, 7, 8, 9, 10] rfl rfl rfl rfl (by decide) rfl rfl (Nat.le_of_ble_eq_true rfl) ⟨Nat.le_of_ble_eq_true rfl, Nat.le_of_ble_eq_true rfl⟩ ⟨Nat.zero_le _, Nat.zero_le _⟩ dX7_ifMove_55 (fun u55 H locs hr55 hW => ?_)
        have hW := Wd.ord hW (ws' := [(z 0, .inr (7, [.ref (z 1), .ref (z 2), .int (nI Y.nh), .ref (z 3), .ref (z 4), .ref (z 5), .ref (z 6), .ref (z 7), .ref (z 8), .ref (z 9), .int (nI Y.pn), .int (nI c0.sp), .ref (z 10)])), (z 1, .inl (T 0, 340, .inl (put Y.all 0 Y.all))), (z 2, .inl (T 0, 2040, .inl Y.H)), (z 3, .inl (T 0, 680, .inl Y.slo)), (z 4, .inl (T 0, 2, .inl Y.isv)), (z 5, .inl (T 0, 280, .inl (put c0.tree 0 (mvM Y.all k)))), (z 6, .inl (T 0, 7, .inl c0.tried)), (z 7, .inl (T 0, 7, .inl c0.most)), (z 8, .inl (T 0, 7, .inl c0.best)), (z 9, .inl (T 0, 60, .inl Y.pad)), (z 10, .inl (T 0, 15, .inl c0.rd))]) [0, 1, 2, 3, 4, 10, 5, 6, 7, 8, 9] rfl rfl
        have hW := Wd.arr hW 1 Y.all rfl (fun j _ => (put_g Y.all j).symm) (ws' := [(z 0, .inr (7, [.ref (z 1), .ref (z 2), .int (nI Y.nh), .ref (z 3), .ref (z 4), .ref (z 5), .ref (z 6), .ref (z 7), .ref (z 8), .ref (z 9), .int (nI Y.pn), .int (nI c0.sp), .ref (z 10)])), (z 1, .inl (T 0, 340, .inl Y.all)), (z 2, .inl (T 0, 2040, .inl Y.H)), (z 3, .inl (T 0, 680, .inl Y.slo)), (z 4, .inl (T 0, 2, .inl Y.isv)), (z 5, .inl (T 0, 280, .inl (put c0.tree 0 (mvM Y.all k)))), (z 6, .inl (T 0, 7, .inl c0.tried)), (z 7, .inl (T 0, 7, .inl c0.most)), (z 8, .inl (T 0, 7, .inl c0.best)), (z 9, .inl (T 0, 60, .inl Y.pad)), (z 10, .inl (T 0, 15, .inl c0.rd))]) rfl
        have ec : (Y.all 26).toNatClampNeg = pl := by rw [h26, nI_clamp (by omega)]
        refine lv_aload_n hx hb dX7_ifMove_58 rfl (lv_at hl 0 rfl) ?_
        refine gf482 F hW 0 rfl rfl dX7_ifMove_59 ?_
        refine lv_bipush (v := nI 26) hx hb dX7_ifMove_62 (by decide) ?_
        refine ald F hW 1 rfl (x := nI pl) 26 rfl (by omega) (by decide) h26 dX7_ifMove_64 ?_
        refine lv_istore_n (lv' := [(3, .int (nI pl)), (0, .ref (z 0)), (1, .int (nI k)), (2, .int (nI n))]) hx hb dX7_ifMove_65 rfl hl (by decide) rfl (fun ls hl => ?_)
        refine lv_iload_n hx hb dX7_ifMove_66 rfl (lv_at hl 3 rfl) ?_
        refine lv_iconst (v := nI 4) hx hb dX7_ifMove_67 (by decide) ?_
        refine lv_icmp_ge (tgt := 83) hx hb dX7_ifMove_68 (by decide) (fun h68 => ?_) (fun h68 => ?_)
        · have n4 : ¬ n < 4 := by have := n_le h68 (by decide) (by omega); omega
          refine lv_iload_n hx hb dX7_ifMove_83 rfl (lv_at hl 3 rfl) ?_
          refine lv_iconst (v := nI 4) hx hb dX7_ifMove_84 (by decide) ?_
          refine lv_icmp_ne (tgt := 114) hx hb dX7_ifMove_85 (by decide) (fun h85 => ?_) (fun h85 => ?_)
          · have n5 : ¬ n = 4 := n_ne h85
            refine lv_iload_n hx hb dX7_ifMove_114 rfl (lv_at hl 3 rfl) ?_
            refine lv_iconst (v := nI 5) hx hb dX7_ifMove_115 (by decide) ?_
            refine lv_icmp_ne (tgt := 129) hx hb dX7_ifMove_116 (by decide) (fun h116 => ?_) (fun h116 => ?_)
            · refine lv_aload_n hx hb dX7_ifMove_129 rfl (lv_at hl 1 rfl) ?_
              refine gf487 F hW 0 rfl rfl dX7_ifMove_130 ?_
              refine lv_bipush (v := nI 27) hx hb dX7_ifMove_133 (by decide) ?_
              refine ald F hW 5 rfl (x := (mvM Y.all k) 27) 27 rfl (by omega) (by omega) (put_r (by omega) (by omega)) dX7_ifMove_135 ?_
              have hy : yIfMove Y x w = ((mvM Y.all k) 27, Y) := by unfold yIfMove; rw [if_pos q, ck, if_pos q2, if_pos q3, cn]; unfold ifA; rw [if_neg n4, if_neg n5, if_neg (n_ne h116)]
              exact retI F hr hlk rfl hW (⟨put c0.tree 0 (mvM Y.all k), c0.tried, c0.most, c0.best, c0.rd, c0.sp⟩ : SD) (congrArg Prod.fst hy).symm (congrArg (fun q => mw T z q.2 (⟨put c0.tree 0 (mvM Y.all k), c0.tried, c0.most, c0.best, c0.rd, c0.sp⟩ : SD)) hy).symm dX7_ifMove_136
            · refine lv_aload_n hx hb dX7_ifMove_119 rfl (lv_at hl 1 rfl) ?_
              refine gf487 F hW 0 rfl rfl dX7_ifMove_120 ?_
              refine lv_bipush (v := nI 26) hx hb dX7_ifMove_123 (by decide) ?_
              refine ald F hW 5 rfl (x := (mvM Y.all k) 26) 26 rfl (by omega) (by omega) (put_r (by omega) (by omega)) dX7_ifMove_125 ?_
              refine lv_goto (tgt := 136) hx hb dX7_ifMove_126 (by decide) ?_
              have hy : yIfMove Y x w = ((mvM Y.all k) 26, Y) := by unfold yIfMove; rw [if_pos q, ck, if_pos q2, if_pos q3, cn]; unfold ifA; rw [if_neg n4, if_neg n5, if_pos (n_eq h116 (by omega) (by decide))]
              exact retI F hr hlk rfl hW (⟨put c0.tree 0 (mvM Y.all k), c0.tried, c0.most, c0.best, c0.rd, c0.sp⟩ : SD) (congrArg Prod.fst hy).symm (congrArg (fun q => mw T z q.2 (⟨put c0.tree 0 (mvM Y.all k), c0.tried, c0.most, c0.best, c0.rd, c0.sp⟩ : SD)) hy).symm dX7_ifMove_136
          · refine lv_aload_n hx hb dX7_ifMove_88 rfl (lv_at hl 1 rfl) ?_
            refine gf487 F hW 0 rfl rfl dX7_ifMove_89 ?_
            refine lv_bipush (v := nI 24) hx hb dX7_ifMove_92 (by decide) ?_
            refine lv_iload_n hx hb dX7_ifMove_94 rfl (lv_at hl 0 rfl) ?_
            refine iaddE (z := nI (24 + pl)) hx hb dX7_ifMove_95 (nI_add _ _) ?_
            refine ald F hW 5 rfl (x := (mvM Y.all k) (24 + pl)) (24 + pl) rfl (by omega) (by omega) (put_r (by omega) (by omega)) dX7_ifMove_96 ?_
            refine lv_aload_n hx hb dX7_ifMove_97 rfl (lv_at hl 1 rfl) ?_
            refine gf482 F hW 0 rfl rfl dX7_ifMove_98 ?_
            refine lv_bipush (v := nI 24) hx hb dX7_ifMove_101 (by decide) ?_
            refine lv_iload_n hx hb dX7_ifMove_103 rfl (lv_at hl 0 rfl) ?_
            refine iaddE (z := nI (24 + pl)) hx hb dX7_ifMove_104 (nI_add _ _) ?_
            refine ald F hW 1 rfl (x := Y.all (24 + pl)) (24 + pl) rfl (by omega) (by decide) rfl dX7_ifMove_105 ?_
            refine isubE (z := ((mvM Y.all k) (24 + pl)) - (Y.all (24 + pl))) hx hb dX7_ifMove_106 rfl ?_
            refine lv_sipush (v := nI 10000) hx hb dX7_ifMove_107 (by decide) ?_
            refine iaddE (z := (mvM Y.all k) (24 + pl) - Y.all (24 + pl) + 10000) hx hb dX7_ifMove_110 rfl ?_
            refine lv_goto (tgt := 136) hx hb dX7_ifMove_111 (by decide) ?_
            have hy : yIfMove Y x w = ((mvM Y.all k) (24 + pl) - Y.all (24 + pl) + 10000, Y) := by unfold yIfMove; rw [if_pos q, ck, if_pos q2, if_pos q3, cn]; unfold ifA; rw [if_neg n4, if_pos (n_eq h85 (by omega) (by decide)), ec]
            exact retI F hr hlk rfl hW (⟨put c0.tree 0 (mvM Y.all k), c0.tried, c0.most, c0.best, c0.rd, c0.sp⟩ : SD) (congrArg Prod.fst hy).symm (congrArg (fun q => mw T z q.2 (⟨put c0.tree 0 (mvM Y.all k), c0.tried, c0.most, c0.best, c0.rd, c0.sp⟩ : SD)) hy).symm dX7_ifMove_136
        · have n4 : n < 4 := n_nle h68 (by decide) (by omega)
          refine lv_aload_n hx hb dX7_ifMove_71 rfl (lv_at hl 1 rfl) ?_
          refine gf487 F hW 0 rfl rfl dX7_ifMove_72 ?_
          refine lv_bipush (v := nI 30) hx hb dX7_ifMove_75 (by decide) ?_
          refine lv_iload_n hx hb dX7_ifMove_77 rfl (lv_at hl 3 rfl) ?_
          refine iaddE (z := nI (30 + n)) hx hb dX7_ifMove_78 (nI_add _ _) ?_
          refine ald F hW 5 rfl (x := (mvM Y.all k) (30 + n)) (30 + n) rfl (by omega) (by omega) (put_r (by omega) (by omega)) dX7_ifMove_79 ?_
          refine lv_goto (tgt := 136) hx hb dX7_ifMove_80 (by decide) ?_
          have hy : yIfMove Y x w = ((mvM Y.all k) (30 + n), Y) := by unfold yIfMove; rw [if_pos q, ck, if_pos q2, if_pos q3, cn]; unfold ifA; rw [if_pos n4]
          exact retI F hr hlk rfl hW (⟨put c0.tree 0 (mvM Y.all k), c0.tried, c0.most, c0.best, c0.rd, c0.sp⟩ : SD) (congrArg Prod.fst hy).symm (congrArg (fun q => mw T z q.2 (⟨put c0.tree 0 (mvM Y.all k), c0.tried, c0.most, c0.best, c0.rd, c0.sp⟩ : SD)) hy).symm dX7_ifMove_136
      · have q3 : ¬ rng 0 6 w := fun q => absurd ((in_if (a := 0) (b := 6) (la := 0) (lb := 6) w (by decide) (by decide)).trans (if_pos q)) (by rw [h33]; decide)
        have hW := Wd.arr hW 1 Y.all rfl (fun j _ => (put_g Y.all j).symm) (ws' := [(z 0, .inr (7, [.ref (z 1), .ref (z 2), .int (nI Y.nh), .ref (z 3), .ref (z 4), .ref (z 5), .ref (z 6), .ref (z 7), .ref (z 8), .ref (z 9), .int (nI Y.pn), .int (nI c0.sp), .ref (z 10)])), (z 1, .inl (T 0, 340, .inl Y.all)), (z 2, .inl (T 0, 2040, .inl Y.H)), (z 3, .inl (T 0, 680, .inl Y.slo)), (z 4, .inl (T 0, 2, .inl Y.isv)), (z 5, .inl (T 0, 280, .inl c0.tree)), (z 6, .inl (T 0, 7, .inl c0.tried)), (z 7, .inl (T 0, 7, .inl c0.most)), (z 8, .inl (T 0, 7, .inl c0.best)), (z 9, .inl (T 0, 60, .inl Y.pad)), (z 10, .inl (T 0, 15, .inl c0.rd))]) rfl
        refine lv_bipush (v := -2) hx hb dX7_ifMove_36 (by decide) ?_
        have hy : yIfMove Y x w = (-2, Y) := by unfold yIfMove; rw [if_pos q, ck, if_pos q2, if_neg q3]
        exact retI F hr hlk rfl hW (⟨c0.tree, c0.tried, c0.most, c0.best, c0.rd, c0.sp⟩ : SD) (congrArg Prod.fst hy).symm (congrArg (fun q => mw T z q.2 (⟨c0.tree, c0.tried, c0.most, c0.best, c0.rd, c0.sp⟩ : SD)) hy).symm dX7_ifMove_38
    · have q2 : ¬ legM Y.all k := bz.mp h18
      have hW := Wd.arr hW 1 Y.all rfl (fun j _ => (put_g Y.all j).symm) (ws' := [(z 0, .inr (7, [.ref (z 1), .ref (z 2), .int (nI Y.nh), .ref (z 3), .ref (z 4), .ref (z 5), .ref (z 6), .ref (z 7), .ref (z 8), .ref (z 9), .int (nI Y.pn), .int (nI c0.sp), .ref (z 10)])), (z 1, .inl (T 0, 340, .inl Y.all)), (z 2, .inl (T 0, 2040, .inl Y.H)), (z 3, .inl (T 0, 680, .inl Y.slo)), (z 4, .inl (T 0, 2, .inl Y.isv)), (z 5, .inl (T 0, 280, .inl c0.tree)), (z 6, .inl (T 0, 7, .inl c0.tried)), (z 7, .inl (T 0, 7, .inl c0.most)), (z 8, .inl (T 0, 7, .inl c0.best)), (z 9, .inl (T 0, 60, .inl Y.pad)), (z 10, .inl (T 0, 15, .inl c0.rd))]) rfl
      refine lv_bipush (v := -5) hx hb dX7_ifMove_21 (by decide) ?_
      have hy : yIfMove Y x w = (-5, Y) := by unfold yIfMove; rw [if_pos q, ck, if_neg q2]
      exact retI F hr hlk rfl hW (⟨c0.tree, c0.tried, c0.most, c0.best, c0.rd, c0.sp⟩ : SD) (congrArg Prod.fst hy).symm (congrArg (fun q => mw T z q.2 (⟨c0.tree, c0.tried, c0.most, c0.best, c0.rd, c0.sp⟩ : SD)) hy).symm dX7_ifMove_23
  · refine lv_iconst (v := -1) hx hb dX7_ifMove_7 (by decide) ?_
    have hy : yIfMove Y x w = (-1, Y) := if_neg (bz.mp h4)
    exact retI F hr hlk rfl hW (⟨c0.tree, c0.tried, c0.most, c0.best, c0.rd, c0.sp⟩ : SD) (congrArg Prod.fst hy).symm (congrArg (fun q => mw T z q.2 (⟨c0.tree, c0.tried, c0.most, c0.best, c0.rd, c0.sp⟩ : SD)) hy).symm dX7_ifMove_8
set_option maxHeartbeats 4000000 in
set_option maxRecDepth 100000 in
theorem y_movesLeft (l : Launch) (D : va_G) (T : Nat → ClassId) (z : Nat → Nat) (Y : YD) (c0 : SD) (hY : YOK Y) (x : Int32) : KI (S := SD) l D T yX7_movesLeft cX7_movesLeft 3 (some .int) 6 [.ref (z 0), .int x] [(z 0, .inr (7, [.ref (z 1), .ref (z 2), .int (nI Y.nh), .ref (z 3), .ref (z 4), .ref (z 5), .ref (z 6), .ref (z 7), .ref (z 8), .ref (z 9), .int (nI Y.pn), .int (nI c0.sp), .ref (z 10)])), (z 1, .inl (T 0, 340, .inl Y.all)), (z 2, .inl (T 0, 2040, .inl Y.H)), (z 3, .inl (T 0, 680, .inl Y.slo)), (z 4, .inl (T 0, 2, .inl Y.isv)), (z 5, .inl (T 0, 280, .inl c0.tree)), (z 6, .inl (T 0, 7, .inl c0.tried)), (z 7, .inl (T 0, 7, .inl c0.most)), (z 8, .inl (T 0, 7, .inl c0.best)), (z 9, .inl (T 0, 60, .inl Y.pad)), (z 10, .inl (T 0, 15, .inl c0.rd))] (fun r _ => r = (yMovesLeft Y x).1) (fun u => mw T z (yMovesLeft Y x).2 u) := by
  refine KI.of (by decide +kernel) (Nat.le_of_ble_eq_true rfl) (fun p e s m below meth c A F hr hlk hW ls hl => ?_)
  have hx := F.1
  have hb := F.2.1
  have hl : lv_has ls 3 [(0, .ref (z 0)), (1, .int x)] := hl
  obtain ⟨⟨⟨S0, hI⟩, h34⟩, hnh, hpn, hHi, hsl⟩ := hY
  have hI2 := hI
  obtain ⟨hJ, ⟨pl, hpl, h26⟩, h27, ⟨mk, h28, hm1, hm2⟩, h36, h37, hleg⟩ := hI2
  refine lv_iload_n hx hb dX7_movesLeft_0 rfl (lv_at hl 1 rfl) ?_
  refine lv_i2l (v := x.toInt64) hx hb dX7_movesLeft_1 rfl ?_
  refine lv_lconst (v := 1) hx hb dX7_movesLeft_2 (by decide) ?_
  refine lv_ldc2 hx hb F.2.2.2.1 (F.2.2.2.2 _ m630) dX7_movesLeft_3 ?_
  refine cRS (As := [.long x.toInt64, .long 1, .long 2]) (rest := []) F hW hl cs530 (r_in l D T x.toInt64 1 2) [] rfl rfl rfl rfl (Nat.le_of_ble_eq_true rfl) ⟨Nat.le_of_ble_eq_true rfl, Nat.le_of_ble_eq_true rfl⟩ ⟨Nat.zero_le _, Nat.zero_le _⟩ dX7_movesLeft_6 (fun r6 hr6 => ?_)
  subst hr6
  refine lv_if_ne (tgt := 15) hx hb dX7_movesLeft_9 (by decide) (fun h9 => ?_) (fun h9 => ?_)
  · have q : rng 1 2 x := Decidable.not_not.mp (fun q => h9 ((in_if (a := 1) (b := 2) (la := 1) (lb := 2) x (by decide) (by decide)).trans (if_neg q)))
    obtain ⟨k, ka, kb, kl, ek, ck⟩ := rng_nat1 q (by decide)
    rw [ek] at hl
    have hW := Wd.arr hW 1 (put Y.all 0 Y.all) rfl (fun j _ => put_g Y.all j) (ws' := [(z 0, .inr (7, [.ref (z 1), .ref (z 2), .int (nI Y.nh), .ref (z 3), .ref (z 4), .ref (z 5), .ref (z 6), .ref (z 7), .ref (z 8), .ref (z 9), .int (nI Y.pn), .int (nI c0.sp), .ref (z 10)])), (z 1, .inl (T 0, 340, .inl (put Y.all 0 Y.all))), (z 2, .inl (T 0, 2040, .inl Y.H)), (z 3, .inl (T 0, 680, .inl Y.slo)), (z 4, .inl (T 0, 2, .inl Y.isv)), (z 5, .inl (T 0, 280, .inl c0.tree)), (z 6, .inl (T 0, 7, .inl c0.tried)), (z 7, .inl (T 0, 7, .inl c0.most)), (z 8, .inl (T 0, 7, .inl c0.best)), (z 9, .inl (T 0, 60, .inl Y.pad)), (z 10, .inl (T 0, 15, .inl c0.rd))]) rfl
    refine lv_aload_n hx hb dX7_movesLeft_15 rfl (lv_at hl 0 rfl) ?_
    refine lv_aload_n hx hb dX7_movesLeft_16 rfl (lv_at hl 0 rfl) ?_
    refine gf482 F hW 0 rfl rfl dX7_movesLeft_17 ?_
    refine lv_iconst (v := nI 0) hx hb dX7_movesLeft_20 (by decide) ?_
    refine lv_iconst (v := nI 0) hx hb dX7_movesLeft_21 (by decide) ?_
    refine cVV (As := [.ref (z 1), .int (nI 0), .int (nI 0)]) (rest := []) (wr := [(z 2, .inl (T 0, 2040, .inl Y.H)), (z 3, .inl (T 0, 680, .inl Y.slo)), (z 4, .inl (T 0, 2, .inl Y.isv)), (z 6, .inl (T 0, 7, .inl c0.tried)), (z 7, .inl (T 0, 7, .inl c0.most)), (z 8, .inl (T 0, 7, .inl c0.best)), (z 9, .inl (T 0, 60, .inl Y.pad)), (z 10, .inl (T 0, 15, .inl c0.rd))]) F hW hl cs587 (r_copyA l D T (z 0) (z 1) (z 2) (z 3) (z 4) (z 5) (z 6) (z 7) (z 8) (z 9) (z 10) (nI Y.nh) (nI Y.pn) (nI c0.sp) c0.tree Y.all Y.all) [0, 1, 5] [2, 3, 4, 6, 7, 8, 9, 10] rfl rfl rfl rfl (by decide) 0 7 rfl rfl rfl rfl rfl (Nat.le_of_ble_eq_true rfl) ⟨Nat.le_of_ble_eq_true rfl, Nat.le_of_ble_eq_true rfl⟩ ⟨Nat.zero_le _, Nat.zero_le _⟩ dX7_movesLeft_22 (fun u22 H locs hr22 hW => ?_)
    have hW := Wd.ord hW (ws' := [(z 0, .inr (7, [.ref (z 1), .ref (z 2), .int (nI Y.nh), .ref (z 3), .ref (z 4), .ref (z 5), .ref (z 6), .ref (z 7), .ref (z 8), .ref (z 9), .int (nI Y.pn), .int (nI c0.sp), .ref (z 10)])), (z 1, .inl (T 0, 340, .inl (put Y.all 0 Y.all))), (z 2, .inl (T 0, 2040, .inl Y.H)), (z 3, .inl (T 0, 680, .inl Y.slo)), (z 4, .inl (T 0, 2, .inl Y.isv)), (z 5, .inl (T 0, 280, .inl (put c0.tree 0 Y.all))), (z 6, .inl (T 0, 7, .inl c0.tried)), (z 7, .inl (T 0, 7, .inl c0.most)), (z 8, .inl (T 0, 7, .inl c0.best)), (z 9, .inl (T 0, 60, .inl Y.pad)), (z 10, .inl (T 0, 15, .inl c0.rd))]) [8, 9, 0, 1, 2, 10, 3, 4, 5, 6, 7] rfl rfl
    refine lv_iconst (v := nI 0) hx hb dX7_movesLeft_25 (by decide) ?_
    refine lv_istore_n (lv' := [(2, .int (nI 0)), (0, .ref (z 0)), (1, .int (nI k))]) hx hb dX7_movesLeft_26 rfl hl (by decide) rfl (fun ls hl => ?_)
    have hW := Wd.arr hW 1 Y.all rfl (fun j _ => (put_g Y.all j).symm) (ws' := [(z 0, .inr (7, [.ref (z 1), .ref (z 2), .int (nI Y.nh), .ref (z 3), .ref (z 4), .ref (z 5), .ref (z 6), .ref (z 7), .ref (z 8), .ref (z 9), .int (nI Y.pn), .int (nI c0.sp), .ref (z 10)])), (z 1, .inl (T 0, 340, .inl Y.all)), (z 2, .inl (T 0, 2040, .inl Y.H)), (z 3, .inl (T 0, 680, .inl Y.slo)), (z 4, .inl (T 0, 2, .inl Y.isv)), (z 5, .inl (T 0, 280, .inl (put c0.tree 0 Y.all))), (z 6, .inl (T 0, 7, .inl c0.tried)), (z 7, .inl (T 0, 7, .inl c0.most)), (z 8, .inl (T 0, 7, .inl c0.best)), (z 9, .inl (T 0, 60, .inl Y.pad)), (z 10, .inl (T 0, 15, .inl c0.rd))]) rfl
    refine W.loop (fun n H2 locs2 ls2 => ∃ (f P tr mo be : Nat → Int32) (i m2 : Nat), i + mlF n k P = mlF 301 k Y.all ∧ Iv S0 P ∧ P 28 = nI m2 ∧ m2 ≤ 300 ∧ 301 ≤ n + m2 ∧ Wd D T A s [(z 0, .inr (7, [.ref (z 1), .ref (z 2), .int (nI Y.nh), .ref (z 3), .ref (z 4), .ref (z 5), .ref (z 6), .ref (z 7), .ref (z 8), .ref (z 9), .int (nI Y.pn), .int (nI c0.sp), .ref (z 10)])), (z 1, .inl (T 0, 340, .inl Y.all)), (z 2, .inl (T 0, 2040, .inl Y.H)), (z 3, .inl (T 0, 680, .inl Y.slo)), (z 4, .inl (T 0, 2, .inl Y.isv)), (z 5, .inl (T 0, 280, .inl (put f 0 P))), (z 6, .inl (T 0, 7, .inl tr)), (z 7, .inl (T 0, 7, .inl mo)), (z 8, .inl (T 0, 7, .inl be)), (z 9, .inl (T 0, 60, .inl Y.pad)), (z 10, .inl (T 0, 15, .inl c0.rd))] H2 locs2 ∧ lv_has ls2 3 [(0, .ref (z 0)), (1, .int (nI k)), (2, .int (nI i))]) ?_ 301 ⟨c0.tree, Y.all, c0.tried, c0.most, c0.best, 0, mk, Nat.zero_add _, hI, h28, hm1, by omega, hW, lv_sub hl [1, 2, 0] rfl⟩
    rintro n H locs ls ⟨f, P, tr, mo, be, i, m2, hS, hIP, k28, km, hn3, hW, hl⟩ ih
    obtain ⟨n, rfl⟩ : ∃ y, n = y + 1 := ⟨n - 1, by omega⟩
    rw [mlF] at hS
    refine lv_aload_n hx hb dX7_movesLeft_27 rfl (lv_at hl 0 rfl) ?_
    refine gf487 F hW 0 rfl rfl dX7_movesLeft_28 ?_
    refine lv_bipush (v := nI 27) hx hb dX7_movesLeft_31 (by decide) ?_
    refine ald F hW 5 rfl (x := P 27) 27 rfl (by omega) (by omega) (put_r (by omega) (by omega)) dX7_movesLeft_33 ?_
    refine lv_if_ne (tgt := 57) hx hb dX7_movesLeft_34 (by decide) (fun h34 => ?_) (fun h34 => ?_)
    · rw [if_neg h34, Nat.add_zero] at hS
      refine lv_iload_n hx hb dX7_movesLeft_57 rfl (lv_at hl 2 rfl) ?_
      have hy : yMovesLeft Y x = (nI i, Y) := by unfold yMovesLeft; rw [if_pos q, ck, ← hS]
      exact retI F hr hlk rfl hW (⟨put f 0 P, tr, mo, be, c0.rd, c0.sp⟩ : SD) (congrArg Prod.fst hy).symm (congrArg (fun q => mw T z q.2 (⟨put f 0 P, tr, mo, be, c0.rd, c0.sp⟩ : SD)) hy).symm dX7_movesLeft_58
    · rw [if_pos h34] at hS
      have hIQ := hIP
      obtain ⟨-, ⟨pl2, hpl2, k26⟩, -, ⟨m3, k28b, -, hm3⟩, k36, k37, -⟩ := hIQ
      have em : m3 = m2 := n_eq (k28b.symm.trans k28) (by have := hm3 h34; omega) (by omega)
      have hm4 : m2 < 300 := by have := hm3 h34; omega
      obtain ⟨b, hb12, hbl, hbe⟩ := bh_hou hIP (d := k) (by omega) h34
      refine lv_aload_n hx hb dX7_movesLeft_37 rfl (lv_at hl 0 rfl) ?_
      refine gf487 F hW 0 rfl rfl dX7_movesLeft_38 ?_
      refine lv_iconst (v := nI 0) hx hb dX7_movesLeft_41 (by decide) ?_
      refine lv_aload_n hx hb dX7_movesLeft_42 rfl (lv_at hl 0 rfl) ?_
      refine lv_iconst (v := nI 0) hx hb dX7_movesLeft_43 (by decide) ?_
      refine lv_iload_n hx hb dX7_movesLeft_44 rfl (lv_at hl 1 rfl) ?_
      refine cIV (As := [.int (nI 0), .int (nI k)]) (rest := [.int (nI 0), .ref (z 5)]) (wr := [(z 1, .inl (T 0, 340, .inl Y.all)), (z 2, .inl (T 0, 2040, .inl Y.H)), (z 3, .inl (T 0, 680, .inl Y.slo)), (z 4, .inl (T 0, 2, .inl Y.isv)), (z 9, .inl (T 0, 60, .inl Y.pad)), (z 10, .inl (T 0, 15, .inl c0.rd))]) F hW hl cs591 (r_bestOf l D T (z 0) (z 1) (z 2) (z 3) (z 4) (z 5) (z 6) (z 7) (z 8) (z 9) (z 10) (nI Y.nh) (nI Y.pn) (nI c0.sp) f P tr mo be (dd := k) (by omega) hIP) [0, 5, 6, 7, 8] [1, 2, 3, 4, 9, 10] rfl rfl rfl rfl (by decide) 0 7 rfl rfl rfl rfl rfl (Nat.le_of_ble_eq_true rfl) ⟨Nat.le_of_ble_eq_true rfl, Nat.le_of_ble_eq_true rfl⟩ ⟨Nat.zero_le _, Nat.zero_le _⟩ dX7_movesLeft_45 (fun r45 u45 H locs hr45 hW => ?_)
      have hW := Wd.ord hW (ws' := [(z 0, .inr (7, [.ref (z 1), .ref (z 2), .int (nI Y.nh), .ref (z 3), .ref (z 4), .ref (z 5), .ref (z 6), .ref (z 7), .ref (z 8), .ref (z 9), .int (nI Y.pn), .int (nI c0.sp), .ref (z 10)])), (z 1, .inl (T 0, 340, .inl Y.all)), (z 2, .inl (T 0, 2040, .inl Y.H)), (z 3, .inl (T 0, 680, .inl Y.slo)), (z 4, .inl (T 0, 2, .inl Y.isv)), (z 5, .inl (T 0, 280, .inl u45.1)), (z 6, .inl (T 0, 7, .inl u45.2.1)), (z 7, .inl (T 0, 7, .inl u45.2.2.1)), (z 8, .inl (T 0, 7, .inl u45.2.2.2)), (z 9, .inl (T 0, 60, .inl Y.pad)), (z 10, .inl (T 0, 15, .inl c0.rd))]) [6, 0, 1, 2, 3, 7, 8, 9, 10, 4, 5] rfl rfl
      obtain ⟨hr45, htr45⟩ := hr45
      subst hr45
      rw [hbe]
      rw [hbe, nI_clamp (by omega)] at hS
      have hW := Wd.arr hW 5 (put u45.1 0 P) rfl (fun j _ => put_id (fun j hj => by rw [Nat.zero_add]; exact htr45 j hj) j) (ws' := [(z 0, .inr (7, [.ref (z 1), .ref (z 2), .int (nI Y.nh), .ref (z 3), .ref (z 4), .ref (z 5), .ref (z 6), .ref (z 7), .ref (z 8), .ref (z 9), .int (nI Y.pn), .int (nI c0.sp), .ref (z 10)])), (z 1, .inl (T 0, 340, .inl Y.all)), (z 2, .inl (T 0, 2040, .inl Y.H)), (z 3, .inl (T 0, 680, .inl Y.slo)), (z 4, .inl (T 0, 2, .inl Y.isv)), (z 5, .inl (T 0, 280, .inl (put u45.1 0 P))), (z 6, .inl (T 0, 7, .inl u45.2.1)), (z 7, .inl (T 0, 7, .inl u45.2.2.1)), (z 8, .inl (T 0, 7, .inl u45.2.2.2)), (z 9, .inl (T 0, 60, .inl Y.pad)), (z 10, .inl (T 0, 15, .inl c0.rd))]) rfl
      refine cVS (As := [.ref (z 5), .int (nI 0), .int (nI b)]) (rest := []) (wr := [(z 0, .inr (7, [.ref (z 1), .ref (z 2), .int (nI Y.nh), .ref (z 3), .ref (z 4), .ref (z 5), .ref (z 6), .ref (z 7), .ref (z 8), .ref (z 9), .int (nI Y.pn), .int (nI c0.sp), .ref (z 10)])), (z 1, .inl (T 0, 340, .inl Y.all)), (z 2, .inl (T 0, 2040, .inl Y.H)), (z 3, .inl (T 0, 680, .inl Y.slo)), (z 4, .inl (T 0, 2, .inl Y.isv)), (z 6, .inl (T 0, 7, .inl u45.2.1)), (z 7, .inl (T 0, 7, .inl u45.2.2.1)), (z 8, .inl (T 0, 7, .inl u45.2.2.2)), (z 9, .inl (T 0, 60, .inl Y.pad)), (z 10, .inl (T 0, 15, .inl c0.rd))]) F hW hl cs561 (r_moves l D T (z 5) 280 0 (by omega) (by omega) u45.1 P (fr := b) (pl := pl2) hb12 hpl2 k26 k36 k37) [5] [0, 1, 2, 3, 4, 6, 7, 8, 9, 10] rfl rfl rfl rfl (by decide) rfl rfl (Nat.le_of_ble_eq_true rfl) ⟨Nat.le_of_ble_eq_true rfl, Nat.le_of_ble_eq_true rfl⟩ ⟨Nat.zero_le _, Nat.zero_le _⟩ dX7_movesLeft_48 (fun u48 H locs hr48 hW => ?_)
      have hW := Wd.ord hW (ws' := [(z 0, .inr (7, [.ref (z 1), .ref (z 2), .int (nI Y.nh), .ref (z 3), .ref (z 4), .ref (z 5), .ref (z 6), .ref (z 7), .ref (z 8), .ref (z 9), .int (nI Y.pn), .int (nI c0.sp), .ref (z 10)])), (z 1, .inl (T 0, 340, .inl Y.all)), (z 2, .inl (T 0, 2040, .inl Y.H)), (z 3, .inl (T 0, 680, .inl Y.slo)), (z 4, .inl (T 0, 2, .inl Y.isv)), (z 5, .inl (T 0, 280, .inl (put u45.1 0 (mvM P b)))), (z 6, .inl (T 0, 7, .inl u45.2.1)), (z 7, .inl (T 0, 7, .inl u45.2.2.1)), (z 8, .inl (T 0, 7, .inl u45.2.2.2)), (z 9, .inl (T 0, 60, .inl Y.pad)), (z 10, .inl (T 0, 15, .inl c0.rd))]) [0, 1, 2, 3, 4, 10, 5, 6, 7, 8, 9] rfl rfl
      refine lv_iinc (v := nI (i + 1)) (lv' := [(2, .int (nI (i + 1))), (0, .ref (z 0)), (1, .int (nI k))]) hx hb dX7_movesLeft_51 hl (k := 2) rfl (nI_add _ _) (by decide) rfl (fun ls hl => ?_)
      refine lv_goto (tgt := 27) hx hb dX7_movesLeft_54 (by decide) ?_
      exact ih n _ _ _ (Nat.lt_succ_self n) ⟨u45.1, mvM P b, u45.2.1, u45.2.2.1, u45.2.2.2, i + 1, m2 + 1, by rw [← hS, Nat.add_assoc], (hIP.mv hb12 hbl).1, mv_28 hIP hb12 hbl k28, by omega, by omega, hW, lv_sub hl [1, 2, 0] rfl⟩
  · have q : ¬ rng 1 2 x := fun q => absurd ((in_if (a := 1) (b := 2) (la := 1) (lb := 2) x (by decide) (by decide)).trans (if_pos q)) (by rw [h9]; decide)
    refine lv_bipush (v := -2) hx hb dX7_movesLeft_12 (by decide) ?_
    have hy : yMovesLeft Y x = (-2, Y) := if_neg q
    exact retI F hr hlk rfl hW (⟨c0.tree, c0.tried, c0.most, c0.best, c0.rd, c0.sp⟩ : SD) (congrArg Prod.fst hy).symm (congrArg (fun q => mw T z q.2 (⟨c0.tree, c0.tried, c0.most, c0.best, c0.rd, c0.sp⟩ : SD)) hy).symm dX7_movesLeft_14
