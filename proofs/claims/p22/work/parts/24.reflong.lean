-- the reference: its longer calls
def rdk (g nb : Nat → Int32) (k : Nat) : Nat → Int32 := fun j => if j < k then nb j else empM g j
theorem rdk_0 (g nb : Nat → Int32) (j : Nat) : empM g j = rdk g nb 0 j := (if_neg (by omega)).symm
theorem rdk_s {g nb : Nat → Int32} {k : Nat} (j : Nat) : upd (rdk g nb k) k (nb k) j = rdk g nb (k + 1) j := by
  unfold rdk
  by_cases q : j = k
  · rw [q, u_s, if_pos (by omega)]
  · rw [u_n q]
    by_cases q2 : j < k
    · rw [if_pos q2, if_pos (by omega)]
    · rw [if_neg q2, if_neg (by omega)]
def rdA (g nb : Nat → Int32) : Nat → Int32 := upd (upd (upd (rdk g nb 12) 24 (nb 12)) 25 (nb 13)) 26 (nb 14)
abbrev rdC (P : Nat → Int32) : Prop := ¬ overM P ∧ sm 0 (enM P) (6 * (P 26).toNatClampNeg) 6 = 0
def rdQ (P : Nat → Int32) : Nat → Int32 := if rdC P then upd (enM P) 26 (nI 1 - enM P 26) else enM P
theorem en_26 (P : Nat → Int32) : enM P 26 = P 26 := by
  by_cases h : overM P
  · rw [en_y h]; rfl
  · rw [en_n h, u_n (by decide)]
def yRead (Y : YD) : Int32 × YD :=
  if (scY Y).1 = -6 then (allM (rdQ (rdA Y.all (scY Y).2)), (put (rdA Y.all (scY Y).2) 0 (rdQ (rdA Y.all (scY Y).2)), recH Y.H Y.all Y.nh, Y.slo, Y.isv, Y.pad, recN Y.nh, 0)) else (-3, Y)
def cntN (Y : YD) (k : Nat) : Int32 :=
  if k = 0 then Y.all 26 else if k = 1 then Y.all 27 else if k = 2 then winM Y.all else if k = 3 then Y.all 24 else if k = 4 then Y.all 25 else if k = 5 then allM Y.all else if k = 6 then Y.all 28 else if k = 7 then Y.all 34 else if k = 8 then Y.all 35 else if k = 9 then Y.all 36 else if k = 10 then Y.all 37 else if k = 11 then hosM Y.all 12 else if k = 12 then nI Y.pn else nI Y.nh
def yCount (Y : YD) (w : Int32) : Int32 × YD := if rng 0 13 w then (cntN Y w.toNatClampNeg, Y) else (-2, Y)
def ifA (P Q : Nat → Int32) (k : Nat) : Int32 := if k < 4 then Q (30 + k) else if k = 4 then Q (24 + (P 26).toNatClampNeg) - P (24 + (P 26).toNatClampNeg) + 10000 else if k = 5 then Q 26 else Q 27
def yIfMove (Y : YD) (x w : Int32) : Int32 × YD :=
  if rng 0 11 x then (if legM Y.all x.toNatClampNeg then (if rng 0 6 w then (ifA Y.all (mvM Y.all x.toNatClampNeg) w.toNatClampNeg, Y) else (-2, Y)) else (-5, Y)) else (-1, Y)
/-- how many moves are left, always the best one by a depth -/
def mlF : Nat → Nat → (Nat → Int32) → Nat
  | 0, _, _ => 0
  | n + 1, d, P => if P 27 = 0 then 1 + mlF n d (mvM P (bhM d P).toNatClampNeg) else 0
def yMovesLeft (Y : YD) (x : Int32) : Int32 × YD := if rng 1 2 x then (nI (mlF 301 x.toNatClampNeg Y.all), Y) else (-2, Y)
def yPut (Y : YD) (x : Nat) : Int32 × YD :=
  if chF 8 x 0 = 0 then (-2, Y) else if 60 < Y.pn + chF 8 x 0 then (-4, Y) else (nI (Y.pn + chF 8 x 0), (Y.all, Y.H, Y.slo, Y.isv, apT Y.pad Y.pn (chF 8 x 0) x (chF 8 x 0), Y.nh, Y.pn + chF 8 x 0))
theorem mv_28 {S : Int} {P : Nat → Int32} (hI : Iv S P) {h mk : Nat} (hh : h < 12) (hl : legM P h) (h28 : P 28 = nI mk) : mvM P h 28 = nI (mk + 1) := by
  obtain ⟨-, k, hk, h26, e⟩ := hI.mv hh hl
  rw [e, gtM_hi _ _ (by decide), mvB_28 P hk hh, h28, nI_1]
theorem ch_le : ∀ (f x c : Nat), chF f x c ≤ c + f
  | 0, x, c => Nat.le_refl _
  | f + 1, x, c => by
    rw [chF]
    split
    · omega
    · split
      · omega
      · have := ch_le f (x / 256) (c + 1); omega