-- the reference: its text
abbrev digP (t : Nat → Int32) (n i : Nat) : Prop := i < n ∧ 48 ≤ t i ∧ t i ≤ 57
abbrev two (t : Nat → Int32) (n i : Nat) : Prop := 0 < t i - 48 ∧ digP t n (i + 1)
/-- a number read from the digit at i on: where its reading stands, and the numbers -/
def numF (t : Nat → Int32) (n i : Nat) (nb : Nat → Int32) (f : Nat) : Nat × (Nat → Int32) :=
  if two t n i then (i + 2, upd (upd nb f (t i - 48)) f (10 * (t i - 48) + t (i + 1) - 48)) else (i + 1, upd nb f (t i - 48))
theorem num_y {t : Nat → Int32} {n i : Nat} {nb : Nat → Int32} {f : Nat} (h : two t n i) : numF t n i nb f = (i + 2, upd (upd nb f (t i - 48)) f (10 * (t i - 48) + t (i + 1) - 48)) := if_pos h
theorem num_n {t : Nat → Int32} {n i : Nat} {nb : Nat → Int32} {f : Nat} (h : ¬ two t n i) : numF t n i nb f = (i + 1, upd nb f (t i - 48)) := if_neg h
theorem num_b {t : Nat → Int32} {n i : Nat} {nb : Nat → Int32} {f : Nat} (h : digP t n i) : (numF t n i nb f).1 ≤ n := by
  by_cases q : two t n i
  · rw [num_y q]; have := q.2.1; show i + 2 ≤ n; omega
  · rw [num_n q]; have := h.1; show i + 1 ≤ n; omega
def rdF (t : Nat → Int32) (n i : Nat) (nb : Nat → Int32) (f : Nat) : Nat × (Nat → Int32) := if digP t n i then numF t n i nb f else (i, nb)
theorem rd_y {t : Nat → Int32} {n i : Nat} {nb : Nat → Int32} {f : Nat} (h : digP t n i) : rdF t n i nb f = numF t n i nb f := if_pos h
theorem rd_n {t : Nat → Int32} {n i : Nat} {nb : Nat → Int32} {f : Nat} (h : ¬ digP t n i) : rdF t n i nb f = (i, nb) := if_neg h
theorem rng_i {a b : Int32} {la lb : Int} {x : Int32} (ha : a.toInt = la) (hb : b.toInt = lb) : rng la lb x ↔ a ≤ x ∧ x ≤ b := by rw [i_le, i_le, ha, hb]
theorem scan_s {n i f d : Nat} {t nb : Nat → Int32} (h : i < n) : scanF (n - i) i f d t nb = if fitC (t i) f d nb then scanF (n - (i + 1)) (i + 1) f (d + 1) t (numC (t i) f d nb) else if 0 < d ∧ f < 14 ∧ t i = sgnC f then scanF (n - (i + 1)) (i + 1) (f + 1) 0 t nb else (nI i, nb) := by rw [show n - i = (n - (i + 1)) + 1 by omega, scanF]
theorem scan_e (f d : Nat) (t nb : Nat → Int32) {n j : Nat} (h : j = n) : scanF (n - j) j f d t nb = (if f = 14 ∧ 0 < d then -6 else nI j, nb) := by rw [h, Nat.sub_self, scanF]
theorem scan_tail {n j f d : Nat} {t nb : Nat → Int32} (hj : j ≤ n) (hf : f < 14) (hd : 0 < d) (hn : j < n → ¬ fitC (t j) f d nb) : scanF (n - j) j f d t nb = if j < n ∧ t j = sgnC f then scanF (n - (j + 1)) (j + 1) (f + 1) 0 t nb else (nI j, nb) := by
  rcases Nat.lt_or_ge j n with q | q
  · rw [scan_s q, if_neg (hn q)]
    by_cases z : t j = sgnC f
    · rw [if_pos ⟨hd, hf, z⟩, if_pos ⟨q, z⟩]
    · rw [if_neg (fun y => z y.2.2), if_neg (fun y => z y.2)]
  · rw [scan_e f d t nb (by omega), if_neg (by omega), if_neg (by omega)]
theorem numC_0 (x : Int32) (f : Nat) (nb : Nat → Int32) : numC x f 0 nb = upd nb f (x - 48) := by
  unfold numC
  rw [if_pos rfl, Int32.zero_add]
theorem numC_1 (x v : Int32) (f : Nat) (nb : Nat → Int32) : numC x f 1 (upd nb f v) = upd (upd nb f v) f (10 * v + x - 48) := by
  unfold numC
  rw [if_neg (by decide), u_s, Int32.mul_comm v 10]
theorem i48 : (48 : Int32).toInt = 48 := by decide
theorem i57 : (57 : Int32).toInt = 57 := by decide
theorem dig_v {x : Int32} (h : 48 ≤ x ∧ x ≤ 57) : (x - 48).toInt = x.toInt - 48 ∧ 0 ≤ x.toInt - 48 ∧ x.toInt - 48 ≤ 9 := by
  have h1 := (i_le _ _).mp h.1
  have h2 := (i_le _ _).mp h.2
  rw [i48] at h1
  rw [i57] at h2
  rw [i_sub (by rw [i48]; omega) (by rw [i48]; omega), i48]
  omega
theorem dig_pos {x : Int32} (h : 48 ≤ x ∧ x ≤ 57) : 0 < x - 48 ↔ ¬ x - 48 = 0 := by
  obtain ⟨e, h1, h2⟩ := dig_v h
  rw [i_lt, i_eq, i_0, e]
  omega
theorem scan_num {t : Nat → Int32} {n i f : Nat} {nb : Nat → Int32} (h : digP t n i) (hf : f < 14) : scanF (n - i) i f 0 t nb = if (numF t n i nb f).1 < n ∧ t (numF t n i nb f).1 = sgnC f then scanF (n - ((numF t n i nb f).1 + 1)) ((numF t n i nb f).1 + 1) (f + 1) 0 t (numF t n i nb f).2 else (nI (numF t n i nb f).1, (numF t n i nb f).2) := by
  obtain ⟨h1, h2⟩ := h
  rw [scan_s h1, if_pos (Or.inr ⟨by omega, h2, Or.inl rfl⟩), numC_0]
  by_cases q : two t n i
  · rw [num_y q]
    obtain ⟨q1, q2, q3⟩ := q
    rw [scan_s q2, if_pos (Or.inr ⟨by omega, q3, Or.inr ⟨rfl, by rw [u_s]; exact (dig_pos h2).mp q1⟩⟩), numC_1]
    exact scan_tail (j := i + 2) (d := 2) (by omega) hf (by decide) (fun _ z => by rcases z with z | z; (have := z.1; omega); (rcases z.2.2 with y | y; (omega); (have := y.1; omega)))
  · rw [num_n q]
    refine scan_tail (j := i + 1) (d := 1) (by omega) hf (by decide) (fun hj z => q ?_)
    rcases z with z | z
    · have := z.1; omega
    · rcases z.2.2 with y | y
      · omega
      · have y2 := y.2
        rw [u_s] at y2
        exact ⟨(dig_pos h2).mpr y2, hj, z.2.1⟩
theorem scan_nd {t : Nat → Int32} {n i f : Nat} {nb : Nat → Int32} (h : ¬ digP t n i) (hi : i ≤ n) (hf : f < 14) : scanF (n - i) i f 0 t nb = (nI i, nb) := by
  rcases Nat.lt_or_ge i n with q | q
  · rw [scan_s q, if_neg (fun z => by rcases z with z | z; (have := z.1; omega); (exact h ⟨q, z.2.1⟩)), if_neg (by omega)]
  · rw [scan_e f 0 t nb (by omega), if_neg (by omega)]
theorem scan_14n {t : Nat → Int32} {n i : Nat} {nb : Nat → Int32} (h : ¬ (i < n ∧ (t i = 48 ∨ t i = 49))) (hi : i ≤ n) : scanF (n - i) i 14 0 t nb = (nI i, nb) := by
  rcases Nat.lt_or_ge i n with q | q
  · rw [scan_s q, if_neg (fun z => by rcases z with z | z; (exact h ⟨q, z.2.2⟩); (exact z.1 rfl)), if_neg (by omega)]
  · rw [scan_e 14 0 t nb (by omega), if_neg (by omega)]
theorem scan_14y {t : Nat → Int32} {n i : Nat} {nb : Nat → Int32} (h : i < n) (h2 : t i = 48 ∨ t i = 49) : scanF (n - i) i 14 0 t nb = (if i + 1 = n then -6 else nI (i + 1), upd nb 14 (t i - 48)) := by
  rw [scan_s h, if_pos (Or.inl ⟨rfl, rfl, h2⟩), numC_0]
  rcases Nat.lt_or_ge (i + 1) n with q | q
  · rw [scan_s q, if_neg (fun z => by rcases z with z | z; (have := z.2.1; omega); (exact z.1 rfl)), if_neg (by omega), if_neg (by omega)]
  · rw [scan_e 14 1 t _ (by omega), if_pos (by omega), if_pos (by omega)]
theorem or_49 {x : Int32} : rng 48 49 x ↔ x = 48 ∨ x = 49 := by
  unfold rng
  rw [i_eq, i_eq, i48, show (49 : Int32).toInt = 49 by decide]
  omega
theorem ni_6 {i : Nat} (h : i < 2 ^ 31) : ¬ nI i = -6 := by
  intro z
  have := (i_eq _ _).mp z
  rw [nI_toInt h, show (-6 : Int32).toInt = -6 by decide] at this
  omega
/-- two runs that begin with other numbers -/
theorem scan_cg : ∀ (k i f d : Nat) (t nb nc : Nat → Int32), i + k < 2 ^ 31 → f ≤ 14 → (∀ j, j < f → nb j = nc j) → (0 < d → nb f = nc f) → (scanF k i f d t nb).1 = (scanF k i f d t nc).1 ∧ ((scanF k i f d t nb).1 = -6 → ∀ j, j < 15 → (scanF k i f d t nb).2 j = (scanF k i f d t nc).2 j)
  | 0, i, f, d, t, nb, nc, hi, hf, h1, h2 => by
    refine ⟨rfl, fun h j hj => ?_⟩
    rw [scanF] at h
    by_cases q : f = 14 ∧ 0 < d
    · show nb j = nc j
      rcases Nat.lt_or_ge j 14 with z | z
      · exact h1 j (by omega)
      · have e : j = f := by omega
        rw [e]; exact h2 q.2
    · rw [if_neg q] at h
      exact absurd h (ni_6 (by omega))
  | k + 1, i, f, d, t, nb, nc, hi, hf, h1, h2 => by
    have hfit : fitC (t i) f d nb ↔ fitC (t i) f d nc := by
      unfold fitC
      rcases Nat.eq_zero_or_pos d with z | z
      · rw [z]; simp
      · rw [h2 z]
    rw [scanF, scanF]
    by_cases q : fitC (t i) f d nb
    · rw [if_pos q, if_pos (hfit.mp q)]
      refine scan_cg k (i + 1) f (d + 1) t _ _ (by omega) hf (fun j hj => ?_) (fun _ => ?_)
      · unfold numC
        rw [u_n (by omega), u_n (by omega)]
        exact h1 j hj
      · unfold numC
        rw [u_s, u_s]
        by_cases z : d = 0
        · rw [if_pos z, if_pos z]
        · rw [if_neg z, if_neg z, h2 (by omega)]
    · rw [if_neg q, if_neg (fun z => q (hfit.mpr z))]
      by_cases z : 0 < d ∧ f < 14 ∧ t i = sgnC f
      · rw [if_pos z, if_pos z]
        refine scan_cg k (i + 1) (f + 1) 0 t _ _ (by omega) (by omega) (fun j hj => ?_) (fun y => absurd y (Nat.lt_irrefl 0))
        rcases Nat.lt_or_ge j f with y | y
        · exact h1 j y
        · have e : j = f := by omega
          rw [e]; exact h2 z.1
      · rw [if_neg z, if_neg z]
        exact ⟨rfl, fun h => absurd h (ni_6 (by omega))⟩
abbrev okN (x : Int32) : Prop := rng 0 99 x
/-- what is read lies in its range -/
theorem scan_rg : ∀ (k i f d : Nat) (t nb : Nat → Int32), i + k < 2 ^ 31 → f ≤ 14 → (∀ j, j < f → okN (nb j)) → (d = 0 ∨ (d = 1 ∧ rng 0 9 (nb f) ∧ (f = 14 → nb f = 0 ∨ nb f = 1)) ∨ (2 ≤ d ∧ f < 14 ∧ okN (nb f))) → (scanF k i f d t nb).1 = -6 → (∀ j, j < 14 → okN ((scanF k i f d t nb).2 j)) ∧ ((scanF k i f d t nb).2 14 = 0 ∨ (scanF k i f d t nb).2 14 = 1)
  | 0, i, f, d, t, nb, hi, hf, h1, h2, h => by
    rw [scanF] at h
    by_cases q : f = 14 ∧ 0 < d
    · rcases h2 with z | z | z
      · omega
      · refine ⟨fun j hj => h1 j (by omega), ?_⟩
        have e := z.2.2 q.1
        rw [q.1] at e
        exact e
      · omega
    · rw [if_neg q] at h
      exact absurd h (ni_6 (by omega))
  | k + 1, i, f, d, t, nb, hi, hf, h1, h2, h => by
    rw [scanF] at h ⊢
    by_cases q : fitC (t i) f d nb
    · rw [if_pos q] at h ⊢
      refine scan_rg k (i + 1) f (d + 1) t _ (by omega) hf (fun j hj => ?_) ?_ h
      · unfold numC
        rw [u_n (by omega)]
        exact h1 j hj
      · rcases q with q | q
        · obtain ⟨q1, q2, q3⟩ := q
          rw [q2, numC_0, u_s]
          refine Or.inr (Or.inl ⟨rfl, ?_, fun _ => ?_⟩)
          · rcases q3 with z | z <;> rw [z] <;> decide
          · rcases q3 with z | z <;> rw [z]
            · exact Or.inl (by decide)
            · exact Or.inr (by decide)
        · obtain ⟨q1, q2, q3⟩ := q
          obtain ⟨e, v1, v2⟩ := dig_v q2
          rcases q3 with z | z
          · rw [z, numC_0, u_s]
            exact Or.inr (Or.inl ⟨rfl, ⟨by rw [e]; exact v1, by rw [e]; exact v2⟩, fun y => absurd y q1⟩)
          · refine Or.inr (Or.inr ⟨by omega, by omega, ?_⟩)
            obtain ⟨r1, r2⟩ : rng 0 9 (nb f) := by rcases h2 with y | y | y; (omega); (exact y.2.1); (omega)
            have e10 : (10 : Int32).toInt = 10 := by decide
            have em : (nb f * 10).toInt = (nb f).toInt * 10 := by rw [Int32.toInt_mul, e10, i_bmod (by omega) (by omega)]
            unfold numC
            rw [u_s, if_neg (by omega)]
            have e2 : nb f * 10 + t i - 48 = nb f * 10 + (t i - 48) := by rw [Int32.sub_eq_add_neg, Int32.sub_eq_add_neg, Int32.add_assoc]
            show 0 ≤ _ ∧ _ ≤ (99 : Int)
            rw [e2, i_add (by rw [em, e]; omega) (by rw [em, e]; omega), em, e]
            omega
    · rw [if_neg q] at h ⊢
      by_cases z : 0 < d ∧ f < 14 ∧ t i = sgnC f
      · rw [if_pos z] at h ⊢
        refine scan_rg k (i + 1) (f + 1) 0 t _ (by omega) (by omega) (fun j hj => ?_) (Or.inl rfl) h
        rcases Nat.lt_or_ge j f with y | y
        · exact h1 j y
        · have e : j = f := by omega
          rw [e]
          rcases h2 with y | y | y
          · omega
          · exact ⟨y.2.1.1, by have := y.2.1.2; omega⟩
          · exact y.2.2
      · rw [if_neg z] at h
        exact absurd h (ni_6 (by omega))