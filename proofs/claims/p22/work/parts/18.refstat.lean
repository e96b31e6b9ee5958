-- the reference: its static methods, over an int row with a position from A on
def put (f : Nat → Int32) (A : Nat) (P : Nat → Int32) : Nat → Int32 := fun j => if A ≤ j ∧ j < A + 40 then P (j - A) else f j
theorem put_r {f P : Nat → Int32} {A k j : Nat} (hk : k < 40) (hj : j = A + k) : put f A P j = P k := by
  subst hj
  unfold put
  rw [if_pos (by omega), show A + k - A = k by omega]
theorem put_w {f P : Nat → Int32} {A k i : Nat} {x : Int32} (hk : k < 40) (hi : i = A + k) (j : Nat) : upd (put f A P) i x j = put f A (upd P k x) j := by
  subst hi
  unfold put
  by_cases q : j = A + k
  · rw [q, u_s, if_pos (by omega), show A + k - A = k by omega, u_s]
  · rw [u_n q]
    by_cases q2 : A ≤ j ∧ j < A + 40
    · rw [if_pos q2, if_pos q2, u_n (by omega)]
    · rw [if_neg q2, if_neg q2]
theorem put_c {f P Q : Nat → Int32} {A : Nat} (h : ∀ j, j < 40 → P j = Q j) (j : Nat) : put f A P j = put f A Q j := by
  unfold put
  by_cases q2 : A ≤ j ∧ j < A + 40
  · rw [if_pos q2, if_pos q2, h _ (by omega)]
  · rw [if_neg q2, if_neg q2]
theorem put_wc {f P Q : Nat → Int32} {A k i : Nat} {x : Int32} (hk : k < 40) (hi : i = A + k) (h : ∀ j, j < 40 → upd P k x j = Q j) (j : Nat) : upd (put f A P) i x j = put f A Q j := (put_w hk hi j).trans (put_c h j)
def enM (P : Nat → Int32) : Nat → Int32 := if overM P then endsM P else upd P 27 0
/-- behind k houses of the ending -/
def stM (P : Nat → Int32) (k : Nat) : Nat → Int32 := fun j => if j < 12 ∧ j < k then 0 else if j = 24 then sm (P 24) P 0 (min k 6) else if j = 25 then sm (P 25) P 6 (k - 6) else P j
theorem stM_o {P : Nat → Int32} {k j : Nat} (h : ¬ (j < 12 ∧ j < k)) (h4 : j ≠ 24) (h5 : j ≠ 25) : stM P k j = P j := by
  unfold stM
  rw [if_neg h, if_neg h4, if_neg h5]
theorem stM_z {P : Nat → Int32} {k j : Nat} (h : j < 12 ∧ j < k) : stM P k j = 0 := if_pos h
theorem stM_24 (P : Nat → Int32) (k : Nat) : stM P k 24 = sm (P 24) P 0 (min k 6) := by
  unfold stM
  rw [if_neg (by omega), if_pos rfl]
theorem stM_25 (P : Nat → Int32) (k : Nat) : stM P k 25 = sm (P 25) P 6 (k - 6) := by
  unfold stM
  rw [if_neg (by omega), if_neg (by decide), if_pos rfl]
theorem stM_s {P : Nat → Int32} {k : Nat} (hk : k < 12) (j : Nat) : upd (upd (stM P k) (24 + own k) (stM P k (24 + own k) + stM P k k)) k 0 j = stM P (k + 1) j := by
  have ek : stM P k k = P k := stM_o (by omega) (by omega) (by omega)
  have eo : own k = k / 6 := rfl
  by_cases q : j = k
  · rw [q, u_s, stM_z ⟨hk, by omega⟩]
  · rw [u_n q, ek]
    rcases Nat.lt_or_ge k 6 with z | z
    · rw [show own k = 0 by omega]
      by_cases a : j = 24
      · rw [a, show 24 + 0 = 24 from rfl, u_s, stM_24, stM_24, show min k 6 = k by omega, show min (k + 1) 6 = k + 1 by omega, sm, Nat.zero_add]
      · rw [u_n a]
        by_cases b : j = 25
        · rw [b, stM_25, stM_25, show k - 6 = k + 1 - 6 by omega]
        · by_cases c : j < 12 ∧ j < k
          · rw [stM_z c, stM_z (by omega)]
          · rw [stM_o c a b, stM_o (by omega) a b]
    · rw [show own k = 1 by omega]
      by_cases a : j = 25
      · rw [a, show 24 + 1 = 25 from rfl, u_s, stM_25, stM_25, show k + 1 - 6 = (k - 6) + 1 by omega, sm, show 6 + (k - 6) = k by omega]
      · rw [u_n a]
        by_cases b : j = 24
        · rw [b, stM_24, stM_24, show min k 6 = min (k + 1) 6 by omega]
        · by_cases c : j < 12 ∧ j < k
          · rw [stM_z c, stM_z (by omega)]
          · rw [stM_o c b a, stM_o (by omega) b a]
theorem stM_0 (P : Nat → Int32) (j : Nat) : stM P 0 j = P j := by
  unfold stM
  rw [if_neg (by omega)]
  by_cases b : j = 24
  · rw [if_pos b, b]; rfl
  · rw [if_neg b]
    by_cases c : j = 25
    · rw [if_pos c, c]; rfl
    · rw [if_neg c]
theorem stM_e (P : Nat → Int32) (j : Nat) : upd (stM P 12) 27 1 j = endsM P j := by
  by_cases q : j = 27
  · rw [q, u_s]; rfl
  · rw [u_n q]
    unfold stM endsM
    by_cases a : j < 12
    · rw [if_pos ⟨a, a⟩, if_pos a]
    · rw [if_neg (by omega), if_neg a, if_neg q]
      rfl