-- the reference: sowing, captures, a move
def clk (P : Nat → Int32) (k : Nat) : Nat → Int32 := fun j => if 29 ≤ j ∧ j < 29 + k then 0 else P j
theorem clk_s {P : Nat → Int32} {k : Nat} (j : Nat) : upd (clk P k) (29 + k) 0 j = clk P (k + 1) j := by
  unfold clk
  by_cases q : j = 29 + k
  · rw [q, u_s, if_pos (by omega)]
  · rw [u_n q]
    by_cases z : 29 ≤ j ∧ j < 29 + k
    · rw [if_pos z, if_pos (by omega)]
    · rw [if_neg z, if_neg (by omega)]
theorem en_y {B : Nat → Int32} (h : overM B) : enM B = endsM B := if_pos h
theorem en_n {B : Nat → Int32} (h : ¬ overM B) : enM B = upd B 27 0 := if_neg h
theorem fin_y {B : Nat → Int32} {pl : Nat} (h : overM B) : finM B pl = upd (enM B) 26 (nI (1 - pl)) := by rw [en_y h]; exact if_pos h
theorem fin_n {B : Nat → Int32} {pl : Nat} (h : ¬ overM B) : finM B pl = upd (enM B) 26 (turnM B pl) := by rw [en_n h]; exact if_neg h
theorem en_sm {B : Nat → Int32} {pl : Nat} (h : ¬ overM B) (hpl : pl < 2) : sm 0 (enM B) (6 * (1 - pl)) 6 = sm 0 B (6 * (1 - pl)) 6 := by
  rw [en_n h]
  exact sm_ext (fun j h1 h2 => u_n (by omega))