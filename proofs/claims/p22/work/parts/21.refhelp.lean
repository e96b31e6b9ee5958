-- the reference: its small helpers
abbrev rng (a b : Int) (x : Int32) : Prop := a ≤ x.toInt ∧ x.toInt ≤ b
theorem in_if {a b : Int64} {la lb : Int} (x : Int32) (ha : a.toInt = la) (hb : b.toInt = lb) : (if a ≤ x.toInt64 ∧ x.toInt64 ≤ b then (1 : Int32) else 0) = if rng la lb x then 1 else 0 := by
  have e : (a ≤ x.toInt64 ∧ x.toInt64 ≤ b) ↔ rng la lb x := by
    rw [Int64.le_iff_toInt_le, Int64.le_iff_toInt_le, Int32.toInt_toInt64, ha, hb]
  by_cases h : rng la lb x
  · rw [if_pos h, if_pos (e.mpr h)]
  · rw [if_neg h, if_neg (fun q => h (e.mp q))]
abbrev isSet (t v : Int32) : Prop := ((t = 0 ∨ t = 1) ∧ rng 1 9 v) ∨ (t = 2 ∧ rng 0 20 v) ∨ (t = 3 ∧ rng 0 3 v)
theorem put_g (g : Nat → Int32) (j : Nat) : g j = put g 0 g j := put_id (fun j _ => by rw [Nat.zero_add]) j
def empM (g : Nat → Int32) : Nat → Int32 := fun j => if 34 ≤ j ∧ j < 40 then g j else 0
def empk (g : Nat → Int32) (k : Nat) : Nat → Int32 := fun j => if j < k ∧ ¬ (34 ≤ j ∧ j < 40) then 0 else g j
theorem empk_0 (g : Nat → Int32) (j : Nat) : g j = empk g 0 j := (if_neg (by omega)).symm
theorem empk_s {g : Nat → Int32} {k : Nat} (h : ¬ (34 ≤ k ∧ k < 40)) (j : Nat) : upd (empk g k) k 0 j = empk g (k + 1) j := by
  unfold empk
  by_cases q : j = k
  · rw [q, u_s, if_pos (by omega)]
  · rw [u_n q]
    by_cases q2 : j < k ∧ ¬ (34 ≤ j ∧ j < 40)
    · rw [if_pos q2, if_pos (by omega)]
    · rw [if_neg q2, if_neg (by omega)]
theorem empk_34 (g : Nat → Int32) (j : Nat) : empk g 34 j = empk g 40 j := by
  unfold empk
  by_cases q : j < 34 ∧ ¬ (34 ≤ j ∧ j < 40)
  · rw [if_pos q, if_pos (by omega)]
  · rw [if_neg q, if_neg (by omega)]
theorem empk_340 (g : Nat → Int32) {j : Nat} (hj : j < 340) : empk g 340 j = empM g j := by
  unfold empk empM
  by_cases q : 34 ≤ j ∧ j < 40
  · rw [if_neg (by omega), if_pos q]
  · rw [if_pos (by omega), if_neg q]
def anewM (g : Nat → Int32) : Nat → Int32 := fun j => if j < 12 then g 34 else empM g j
def anewk (g : Nat → Int32) (k : Nat) : Nat → Int32 := fun j => if j < k then g 34 else empM g j
theorem anewk_0 (g : Nat → Int32) (j : Nat) : empM g j = anewk g 0 j := (if_neg (by omega)).symm
theorem anewk_s {g : Nat → Int32} {k : Nat} (j : Nat) : upd (anewk g k) k (g 34) j = anewk g (k + 1) j := by
  unfold anewk
  by_cases q : j = k
  · rw [q, u_s, if_pos (by omega)]
  · rw [u_n q]
    by_cases q2 : j < k
    · rw [if_pos q2, if_pos (by omega)]
    · rw [if_neg q2, if_neg (by omega)]
theorem anewk_34 {g : Nat → Int32} {k : Nat} (hk : k ≤ 12) : anewk g k 34 = g 34 := by
  unfold anewk
  rw [if_neg (by omega)]
  rfl
def mkM (g : Nat → Int32) (mk h : Nat) : Nat → Int32 := put (upd g (40 + mk) (nI h)) 0 (mvM g h)
abbrev winM (g : Nat → Int32) : Int32 := if g 27 = 0 then -6 else if g 25 < g 24 then 0 else if g 24 < g 25 then 1 else 2
def hosM (g : Nat → Int32) : Nat → Int32
  | 0 => 0
  | k + 1 => hosM g k + if g 35 ≤ g (12 + k) then 1 else 0
def recH (H g : Nat → Int32) (n : Nat) : Nat → Int32 := fun j => if n = 6 then (if j < 1700 then H (j + 340) else g (j - 1700)) else if 340 * n ≤ j ∧ j < 340 * n + 340 then g (j - 340 * n) else H j
def recN (n : Nat) : Nat := if n = 6 then 6 else n + 1
def shk (H : Nat → Int32) (k : Nat) : Nat → Int32 := fun j => if j < k then H (j + 340) else H j
theorem shk_0 (H : Nat → Int32) (j : Nat) : H j = shk H 0 j := (if_neg (by omega)).symm
theorem shk_s {H : Nat → Int32} {k : Nat} (j : Nat) : upd (shk H k) k (H (k + 340)) j = shk H (k + 1) j := by
  unfold shk
  by_cases q : j = k
  · rw [q, u_s, if_pos (by omega)]
  · rw [u_n q]
    by_cases q2 : j < k
    · rw [if_pos q2, if_pos (by omega)]
    · rw [if_neg q2, if_neg (by omega)]
def lay (H : Nat → Int32) (b : Nat) (g : Nat → Int32) (k : Nat) : Nat → Int32 := fun j => if b ≤ j ∧ j < b + k then g (j - b) else H j
theorem lay_0 (H : Nat → Int32) (b : Nat) (g : Nat → Int32) (j : Nat) : H j = lay H b g 0 j := (if_neg (by omega)).symm
theorem lay_s {H g : Nat → Int32} {b k : Nat} (j : Nat) : upd (lay H b g k) (b + k) (g k) j = lay H b g (k + 1) j := by
  unfold lay
  by_cases q : j = b + k
  · rw [q, u_s, if_pos (by omega), show b + k - b = k by omega]
  · rw [u_n q]
    by_cases q2 : b ≤ j ∧ j < b + k
    · rw [if_pos q2, if_pos (by omega)]
    · rw [if_neg q2, if_neg (by omega)]
theorem rec_6 {H g : Nat → Int32} {j : Nat} (hj : j < 2040) : lay (shk H 1700) (340 * 5) g 340 j = recH H g 6 j := by
  unfold lay recH shk
  rw [if_pos rfl]
  by_cases q : j < 1700
  · rw [if_neg (by omega), if_pos q, if_pos q]
  · rw [if_pos (by omega), if_neg q]
theorem rec_n {H g : Nat → Int32} {n : Nat} (hn : ¬ n = 6) (j : Nat) : lay H (340 * n) g 340 j = recH H g n j := by
  unfold recH
  rw [if_neg hn]
  rfl