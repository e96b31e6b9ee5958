-- the reference: its text
abbrev digP (t : Nat → Int32) (n i : Nat) : Prop := i < n ∧ 48 ≤ t i ∧ t i ≤ 57
abbrev two (t : Nat → Int32) (n i : Nat) : Prop := 0 < t i - 48 ∧ digP t n (i + 1)
/-- a number read from the digit at i on: where its reading stands, and the numbers -/
def numF (t : Nat → Int32) (n i : Nat) (nb : Nat → Int32) (f : Nat) : Nat × (Nat → Int32) :=
  if two t n i then (i + 2, upd (upd nb f (t i - 48)) f (10 * (t i - 48) + t (i + 1) - 48)) else (i + 1, upd nb f (t i - 48))
theorem num_y {t : Nat → Int32} {n i : Nat} {nb : Nat → Int32} {f : Nat} (h : two t n i) : numF t n i nb f = (i + 2, upd (upd nb f (t i - 48)) f (10 * (t i - 48) + t (i + 1) - 48)) := if_pos h
theorem num_n {t : Nat → Int32} {n i : Nat} {nb : Nat → Int32} {f : Nat} (h : ¬ two t n i) : numF t n i nb f = (i + 1, upd nb f (t i - 48)) := if_neg h
theorem num_b {t : Nat → Int32} {n i : Nat} {nb : Nat → Int32} {f : Nat} (h : digP t n i) : (numF t n i nb f).1 ≤ n := by
  by_cases q : two t n i
  · rw [num_y q]; have := q.2.1; show i + 2 ≤ n; omega
  · rw [num_n q]; have := h.1; show i + 1 ≤ n; omega
def rdF (t : Nat → Int32) (n i : Nat) (nb : Nat → Int32) (f : Nat) : Nat × (Nat → Int32) := if digP t n i then numF t n i nb f else (i, nb)
theorem rd_y {t : Nat → Int32} {n i : Nat} {nb : Nat → Int32} {f : Nat} (h : digP t n i) : rdF t n i nb f = numF t n i nb f := if_pos h
theorem rd_n {t : Nat → Int32} {n i : Nat} {nb : Nat → Int32} {f : Nat} (h : ¬ digP t n i) : rdF t n i nb f = (i, nb) := if_neg h
theorem rng_i {a b : Int32} {la lb : Int} {x : Int32} (ha : a.toInt = la) (hb : b.toInt = lb) : rng la lb x ↔ a ≤ x ∧ x ≤ b := by rw [i_le, i_le, ha, hb]
theorem scan_s {n i f d : Nat} {t nb : Nat → Int32} (h : i < n) : scanF (n - i) i f d t nb = if fitC (t i) f d nb then scanF (n - (i + 1)) (i + 1) f (d + 1) t (numC (t i) f d nb) else if 0 < d ∧ f < 14 ∧ t i = sgnC f then scanF (n - (i + 1)) (i + 1) (f + 1) 0 t nb else (nI i, nb) := by rw [show n - i = (n - (i + 1)) + 1 by omega, scanF]
theorem scan_e (f d : Nat) (t nb : Nat → Int32) {n j : Nat} (h : j = n) : scanF (n - j) j f d t nb = (if f = 14 ∧ 0 < d then -6 else nI j, nb) := by rw [h, Nat.sub_self, scanF]
theorem scan_tail {n j f d : Nat} {t nb : Nat → Int32} (hj : j ≤ n) (hf : f < 14) (hd : 0 < d) (hn : j < n → ¬ fitC (t j) f d nb) : scanF (n - j) j f d t nb = if j < n ∧ t j = sgnC f then scanF (n - (j + 1)) (j + 1) (f + 1) 0 t nb else (nI j, nb) := by
  rcases Nat.lt_or_ge j n with q | q
  · rw [scan_s q, if_neg (hn q)]
    by_cases z : t j = sgnC f
    · rw [if_pos ⟨hd, hf, z⟩, if_pos ⟨q, z⟩]
    · rw [if_neg (fun y => z y.2.2), if_neg (fun y => z y.2)]
  · rw [scan_e f d t nb (by omega), if_neg (by omega), if_neg (by omega)]
theorem numC_0 (x : Int32) (f : Nat) (nb : Nat → Int32) : numC x f 0 nb = upd nb f (x - 48) := by
  unfold numC
  rw [if_pos rfl, Int32.zero_add]
theorem numC_1 (x v : Int32) (f : Nat) (nb : Nat → Int32) : numC x f 1 (upd nb f v) = upd (upd nb f v) f (10 * v + x - 48) := by
  unfold numC
  rw [if_neg (by decide), u_s, Int32.mul_comm v 10]
theorem i48 : (48 : Int32).toInt = 48 := by decide
theorem i57 : (57 : Int32).toInt = 57 := by decide
theorem dig_v {x : Int32} (h : 48 ≤ x ∧ x ≤ 57) : (x - 48).toInt = x.toInt - 48 ∧ 0 ≤ x.toInt - 48 ∧ x.toInt - 48 ≤ 9 := by
  have h1 := (i_le _ _).mp h.1
  have h2 := (i_le _ _).mp h.2
  rw [i48] at h1
  rw [i57] at h2
  rw [i_sub (by rw [i48]; omega) (by rw [i48]; omega), i48]
  omega
theorem dig_pos {x : Int32} (h : 48 ≤ x ∧ x ≤ 57) : 0 < x - 48 ↔ ¬ x - 48 = 0 := by
  obtain ⟨e, h1, h2⟩ := dig_v h
  rw [i_lt, i_eq, i_0, e]
  omega
theorem scan_num {t : Nat → Int32} {n i f : Nat} {nb : Nat → Int32} (h : digP t n i) (hf : f < 14) : scanF (n - i) i f 0 t nb = if (numF t n i nb f).1 < n ∧ t (numF t n i nb f).1 = sgnC f then scanF (n - ((numF t n i nb f).1 + 1)) ((numF t n i nb f).1 + 1) (f + 1) 0 t (numF t n i nb f).2 else (nI (numF t n i nb f).1, (numF t n i nb f).2) := by
  obtain ⟨h1, h2⟩ := h
  rw [scan_s h1, if_pos (Or.inr ⟨by omega, h2, Or.inl rfl⟩), numC_0]
  by_cases q : two t n i
  · rw [num_y q]
    obtain ⟨q1, q2, q3⟩ := q
    rw [scan_s q2, if_pos (Or.inr ⟨by omega, q3, Or.inr ⟨rfl, by rw [u_s]; exact (dig_pos h2).mp q1⟩⟩), numC_1]
    exact scan_tail (j := i + 2) (d := 2) (by omega) hf (by decide) (fun _ z => by rcases z with z | z; (have := z.1; omega); (rcases z.2.2 with y | y; (omega); (have := y.1; omega)))
  · rw [num_n q]
    refine scan_tail (j := i + 1) (d := 1) (by omega) hf (by decide) (fun hj z => q ?_)
    rcases z with z | z
    · have := z.1; omega
    · rcases z.2.2 with y | y
      · omega
      · have y2 := y.2
        rw [u_s] at y2
        exact ⟨(dig_pos h2).mpr y2, hj, z.2.1⟩
theorem scan_nd {t : Nat → Int32} {n i f : Nat} {nb : Nat → Int32} (h : ¬ digP t n i) (hi : i ≤ n) (hf : f < 14) : scanF (n - i) i f 0 t nb = (nI i, nb) := by
  rcases Nat.lt_or_ge i n with q | q
  · rw [scan_s q, if_neg (fun z => by rcases z with z | z; (have := z.1; omega); (exact h ⟨q, z.2.1⟩)), if_neg (by omega)]
  · rw [scan_e f 0 t nb (by omega), if_neg (by omega)]
theorem scan_14n {t : Nat → Int32} {n i : Nat} {nb : Nat → Int32} (h : ¬ (i < n ∧ (t i = 48 ∨ t i = 49))) (hi : i ≤ n) : scanF (n - i) i 14 0 t nb = (nI i, nb) := by
  rcases Nat.lt_or_ge i n with q | q
  · rw [scan_s q, if_neg (fun z => by rcases z with z | z; (exact h ⟨q, z.2.2⟩); (exact z.1 rfl)), if_neg (by omega)]
  · rw [scan_e 14 0 t nb (by omega), if_neg (by omega)]
theorem scan_14y {t : Nat → Int32} {n i : Nat} {nb : Nat → Int32} (h : i < n) (h2 : t i = 48 ∨ t i = 49) : scanF (n - i) i 14 0 t nb = (if i + 1 = n then -6 else nI (i + 1), upd nb 14 (t i - 48)) := by
  rw [scan_s h, if_pos (Or.inl ⟨rfl, rfl, h2⟩), numC_0]
  rcases Nat.lt_or_ge (i + 1) n with q | q
  · rw [scan_s q, if_neg (fun z => by rcases z with z | z; (have := z.2.1; omega); (exact z.1 rfl)), if_neg (by omega), if_neg (by omega)]
  · rw [scan_e 14 1 t _ (by omega), if_pos (by omega), if_pos (by omega)]
theorem or_49 {x : Int32} : rng 48 49 x ↔ x = 48 ∨ x = 49 := by
  unfold rng
  rw [i_eq, i_eq, i48, show (49 : Int32).toInt = 49 by decide]
  omega
theorem ni_6 {i : Nat} (h : i < 2 ^ 31) : ¬ nI i = -6 := by
  intro z
  have := (i_eq _ _).mp z
  rw [nI_toInt h, show (-6 : Int32).toInt = -6 by decide] at this
  omega
/-- two runs that begin with other numbers -/
theorem scan_cg : ∀ (k i f d : Nat) (t nb nc : Nat → Int32), i + k < 2 ^ 31 → f ≤ 14 → (∀ j, j < f → nb j = nc j) → (0 < d → nb f = nc f) → (scanF k i f d t nb).1 = (scanF k i f d t nc).1 ∧ ((scanF k i f d t nb).1 = -6 → ∀ j, j < 15 → (scanF k i f d t nb).2 j = (scanF k i f d t nc).2 j)
  | 0, i, f, d, t, nb, nc, hi, hf, h1, h2 => by
    refine ⟨rfl, fun h j hj => ?_⟩
    rw [scanF] at h
    by_cases q : f = 14 ∧ 0 < d
    · show nb j = nc j
      rcases Nat.lt_or_ge j 14 with z | z
      · exact h1 j (by omega)
      · have e : j = f := by omega
        rw [e]; exact h2 q.2
    · rw [if_neg q] at h
      exact absurd h (ni_6 (by omega))
  | k + 1, i, f, d, t, nb, nc, hi, hf, h1, h2 => by
    have hfit : fitC (t i) f d nb ↔ fitC (t i) f d nc := by
      unfold fitC
      rcases Nat.eq_zero_or_pos d with z | z
      · rw [z]; simp
      · rw [h2 z]
    rw [scanF, scanF]
    by_cases q : fitC (t i) f d nb
    · rw [if_pos q, if_pos (hfit.mp q)]
      refine scan_cg k (i + 1) f (d + 1) t _ _ (by omega) hf (fun j hj => ?_) (fun _ => ?_)
      · unfold numC
        rw [u_n (by omega), u_n (by omega)]
        exact h1 j hj
      · unfold numC
        rw [u_s, u_s]
        by_cases z : d = 0
        · rw [if_pos z, if_pos z]
        · rw [if_neg z, if_neg z, h2 (by omega)]
    · rw [if_neg q, if_neg (fun z => q (hfit.mpr z))]
      by_cases z : 0 < d ∧ f < 14 ∧ t i = sgnC f
      · rw [if_pos z, if_pos z]
        refine scan_cg k (i + 1) (f + 1) 0 t _ _ (by omega) (by omega) (fun j hj => ?_) (fun y => absurd y (Nat.lt_irrefl 0))
        rcases Nat.lt_or_ge j f with y | y
        · exact h1 j y
        · have e : j = f := by omega
          rw [e]; exact h2 z.1
      · rw [if_neg z, if_neg z]
        exact ⟨rfl, fun h => absurd h (ni_6 (by omega))⟩
abbrev okN (x : Int32) : Prop := rng 0 99 x
/-- what is read lies in its range -/
theorem scan_rg : ∀ (k i f d : Nat) (t nb : Nat → Int32), i + k < 2 ^ 31 → f ≤ 14 → (∀ j, j < f → okN (nb j)) → (d = 0 ∨ (d = 1 ∧ rng 0 9 (nb f) ∧ (f = 14 → nb f = 0 ∨ nb f = 1)) ∨ (2 ≤ d ∧ f < 14 ∧ okN (nb f))) → (scanF k i f d t nb).1 = -6 → (∀ j, j < 14 → okN ((scanF k i f d t nb).2 j)) ∧ ((scanF k i f d t nb).2 14 = 0 ∨ (scanF k i f d t nb).2 14 = 1)
  | 0, i, f, d, t, nb, hi, hf, h1, h2, h => by
    rw [scanF] at h
    by_cases q : f = 14 ∧ 0 < d
    · rcases h2 with z | z | z
      · omega
      · refine ⟨fun j hj => h1 j (by omega), ?_⟩
        have e := z.2.2 q.1
        rw [q.1] at e
        exact e
      · omega
    · rw [if_neg q] at h
      exact absurd h (ni_6 (by omega))
  | k + 1, i, f, d, t, nb, hi, hf, h1, h2, h => by
    rw [scanF] at h ⊢
    by_cases q : fitC (t i) f d nb
    · rw [if_pos q] at h ⊢
      refine scan_rg k (i + 1) f (d + 1) t _ (by omega) hf (fun j hj => ?_) ?_ h
      · unfold numC
        rw [u_n (by omega)]
        exact h1 j hj
      · rcases q with q | q
        · obtain ⟨q1, q2, q3⟩ := q
          rw [q2, numC_0, u_s]
          refine Or.inr (Or.inl ⟨rfl, ?_, fun _ => ?_⟩)
          · rcases q3 with z | z <;> rw [z] <;> decide
          · rcases q3 with z | z <;> rw [z]
            · exact Or.inl (by decide)
            · exact Or.inr (by decide)
        · obtain ⟨q1, q2, q3⟩ := q
          obtain ⟨e, v1, v2⟩ := dig_v q2
          rcases q3 with z | z
          · rw [z, numC_0, u_s]
            exact Or.inr (Or.inl ⟨rfl, ⟨by rw [e]; exact v1, by rw [e]; exact v2⟩, fun y => absurd y q1⟩)
          · refine Or.inr (Or.inr ⟨by omega, by omega, ?_⟩)
            obtain ⟨r1, r2⟩ : rng 0 9 (nb f) := by rcases h2 with y | y | y; (omega); (exact y.2.1); (omega)
            have e10 : (10 : Int32).toInt = 10 := by decide
            have em : (nb f * 10).toInt = (nb f).toInt * 10 := by rw [Int32.toInt_mul, e10, i_bmod (by omega) (by omega)]
            unfold numC
            rw [u_s, if_neg (by omega)]
            have e2 : nb f * 10 + t i - 48 = nb f * 10 + (t i - 48) := by rw [Int32.sub_eq_add_neg, Int32.sub_eq_add_neg, Int32.add_assoc]
            show 0 ≤ _ ∧ _ ≤ (99 : Int)
            rw [e2, i_add (by rw [em, e]; omega) (by rw [em, e]; omega), em, e]
            omega
    · rw [if_neg q] at h ⊢
      by_cases z : 0 < d ∧ f < 14 ∧ t i = sgnC f
      · rw [if_pos z] at h ⊢
        refine scan_rg k (i + 1) (f + 1) 0 t _ (by omega) (by omega) (fun j hj => ?_) (Or.inl rfl) h
        rcases Nat.lt_or_ge j f with y | y
        · exact h1 j y
        · have e : j = f := by omega
          rw [e]
          rcases h2 with y | y | y
          · omega
          · exact ⟨y.2.1.1, by have := y.2.1.2; omega⟩
          · exact y.2.2
      · rw [if_neg z] at h
        exact absurd h (ni_6 (by omega))
set_option maxHeartbeats 4000000 in
set_option maxRecDepth 100000 in
theorem r_isDigit (l : Launch) (D : va_G) (T : Nat → ClassId) (z0 z1 z2 z3 z4 z5 z6 z7 z8 z9 z10 : Nat) (nh : Int32) (t : Nat → Int32) {n i : Nat} (hn : n ≤ 60) (hi : i ≤ n) : KR l D T yX7_isDigit cX7_isDigit 1 (some .boolean) 1 [.ref z0] [(z0, .inr (7, [.ref z1, .ref z2, .int nh, .ref z3, .ref z4, .ref z5, .ref z6, .ref z7, .ref z8, .ref z9, .int (nI n), .int (nI i), .ref z10])), (z9, .inl (T 0, 60, .inl t))] (fun r => r = if digP t n i then 1 else 0) := by
  refine KR.of (by decide +kernel) (Nat.le_of_ble_eq_true rfl) (fun p e s m below meth c F hr hlk hW ls hl => ?_)
  have hx := F.1
  have hb := F.2.1
  have hl : lv_has ls 1 [(0, .ref z0)] := hl
  refine lv_aload_n hx hb dX7_isDigit_0 rfl (lv_at hl 0 rfl) ?_
  refine gf493 F hW 0 rfl rfl dX7_isDigit_1 ?_
  refine lv_aload_n hx hb dX7_isDigit_4 rfl (lv_at hl 0 rfl) ?_
  refine gf492 F hW 0 rfl rfl dX7_isDigit_5 ?_
  refine lv_icmp_ge (tgt := 37) hx hb dX7_isDigit_8 (by decide) (fun h8 => ?_) (fun h8 => ?_)
  · refine lv_iconst (v := 0) hx hb dX7_isDigit_37 (by decide) ?_
    exact retR F hr hlk rfl (if_neg (show ¬ digP t n i from fun q => by have := n_le h8 (by omega) (by omega); have := q.1; omega)).symm dX7_isDigit_38
  · have h9q : i < n := n_nle h8 (by omega) (by omega)
    refine lv_aload_n hx hb dX7_isDigit_11 rfl (lv_at hl 0 rfl) ?_
    refine gf491 F hW 0 rfl rfl dX7_isDigit_12 ?_
    refine lv_aload_n hx hb dX7_isDigit_15 rfl (lv_at hl 0 rfl) ?_
    refine gf493 F hW 0 rfl rfl dX7_isDigit_16 ?_
    refine ald F hW 1 rfl (x := t i) i rfl (by omega) (by decide) rfl dX7_isDigit_19 ?_
    refine lv_i2l (v := (t i).toInt64) hx hb dX7_isDigit_20 rfl ?_
    refine lv_ldc2 hx hb F.2.2.2.1 (F.2.2.2.2 _ m619) dX7_isDigit_21 ?_
    refine lv_ldc2 hx hb F.2.2.2.1 (F.2.2.2.2 _ m620) dX7_isDigit_24 ?_
    refine cRS (As := [.long ((t i).toInt64), .long 48, .long 57]) (rest := []) F hW hl cs530 (r_in l D T ((t i).toInt64) 48 57) [] rfl rfl rfl rfl (Nat.le_of_ble_eq_true rfl) ⟨Nat.le_of_ble_eq_true rfl, Nat.le_of_ble_eq_true rfl⟩ ⟨Nat.zero_le _, Nat.zero_le _⟩ dX7_isDigit_27 (fun r27 hr27 => ?_)
    subst hr27
    have e0 := in_if (a := 48) (b := 57) (la := 48) (lb := 57) (t i) (by decide) (by decide)
    refine lv_if_eq (tgt := 37) hx hb dX7_isDigit_30 (by decide) (fun h30 => ?_) (fun h30 => ?_)
    · have q : ¬ rng 48 57 (t i) := fun q => absurd (e0.trans (if_pos q)) (by rw [h30]; decide)
      refine lv_iconst (v := 0) hx hb dX7_isDigit_37 (by decide) ?_
      exact retR F hr hlk rfl (if_neg (show ¬ digP t n i from fun z => q ((rng_i (by decide) (by decide)).mpr z.2))).symm dX7_isDigit_38
    · have q : rng 48 57 (t i) := Decidable.not_not.mp (fun q => h30 (e0.trans (if_neg q)))
      refine lv_iconst (v := 1) hx hb dX7_isDigit_33 (by decide) ?_
      refine lv_goto (tgt := 38) hx hb dX7_isDigit_34 (by decide) ?_
      exact retR F hr hlk rfl (if_pos (show digP t n i from ⟨h9q, (rng_i (by decide) (by decide)).mp q⟩)).symm dX7_isDigit_38
set_option maxHeartbeats 4000000 in
set_option maxRecDepth 100000 in
theorem r_takes (l : Launch) (D : va_G) (T : Nat → ClassId) (z0 z1 z2 z3 z4 z5 z6 z7 z8 z9 z10 : Nat) (nh : Int32) (t : Nat → Int32) (ch : Int32) {n i : Nat} (hn : n ≤ 60) (hi : i ≤ n) : KI (S := Unit) l D T yX7_takes cX7_takes 3 (some .boolean) 0 [.ref z0, .int ch] [(z0, .inr (7, [.ref z1, .ref z2, .int nh, .ref z3, .ref z4, .ref z5, .ref z6, .ref z7, .ref z8, .ref z9, .int (nI n), .int (nI i), .ref z10])), (z9, .inl (T 0, 60, .inl t))] (fun r _ => r = if i < n ∧ t i = ch then 1 else 0) (fun u => [(z0, .inr (7, [.ref z1, .ref z2, .int nh, .ref z3, .ref z4, .ref z5, .ref z6, .ref z7, .ref z8, .ref z9, .int (nI n), .int (nI (if i < n ∧ t i = ch then i + 1 else i)), .ref z10])), (z9, .inl (T 0, 60, .inl t))]) := by
  refine KI.of (by decide +kernel) (Nat.le_of_ble_eq_true rfl) (fun p e s m below meth c A F hr hlk hW ls hl => ?_)
  have hx := F.1
  have hb := F.2.1
  have hl : lv_has ls 3 [(0, .ref z0), (1, .int ch)] := hl
  refine W.fork (X := Int32) 29 (fun z => [.int z]) (fun z H2 locs2 ls2 => z = (if (i < n ∧ t i = ch) then 1 else 0) ∧ H2 = s.heap ∧ locs2 = [] ∧ lv_has ls2 3 [(0, .ref z0), (1, .int ch)]) (fun hJ => ?_) ?_
  · refine lv_aload_n hx hb dX7_takes_0 rfl (lv_at hl 0 rfl) ?_
    refine gf493 F hW 0 rfl rfl dX7_takes_1 ?_
    refine lv_aload_n hx hb dX7_takes_4 rfl (lv_at hl 0 rfl) ?_
    refine gf492 F hW 0 rfl rfl dX7_takes_5 ?_
    refine lv_icmp_ge (tgt := 28) hx hb dX7_takes_8 (by decide) (fun h8 => ?_) (fun h8 => ?_)
    · refine lv_iconst (v := 0) hx hb dX7_takes_28 (by decide) ?_
      exact hJ 0 _ _ _ ⟨(if_neg (fun q => by have := n_le h8 (by omega) (by omega); have := q.1; omega)).symm, rfl, rfl, hl⟩
    · have h9q : i < n := n_nle h8 (by omega) (by omega)
      refine lv_aload_n hx hb dX7_takes_11 rfl (lv_at hl 0 rfl) ?_
      refine gf491 F hW 0 rfl rfl dX7_takes_12 ?_
      refine lv_aload_n hx hb dX7_takes_15 rfl (lv_at hl 0 rfl) ?_
      refine gf493 F hW 0 rfl rfl dX7_takes_16 ?_
      refine ald F hW 1 rfl (x := t i) i rfl (by omega) (by decide) rfl dX7_takes_19 ?_
      refine lv_iload_n hx hb dX7_takes_20 rfl (lv_at hl 1 rfl) ?_
      refine lv_icmp_ne (tgt := 28) hx hb dX7_takes_21 (by decide) (fun h21 => ?_) (fun h21 => ?_)
      · refine lv_iconst (v := 0) hx hb dX7_takes_28 (by decide) ?_
        exact hJ 0 _ _ _ ⟨(if_neg (fun q => h21 q.2)).symm, rfl, rfl, hl⟩
      · refine lv_iconst (v := 1) hx hb dX7_takes_24 (by decide) ?_
        refine lv_goto (tgt := 29) hx hb dX7_takes_25 (by decide) ?_
        exact hJ 1 _ _ _ ⟨(if_pos ⟨h9q, h21⟩).symm, rfl, rfl, hl⟩
  · rintro z H2 locs2 ls ⟨hz, rfl, rfl, hl⟩
    refine lv_istore_n (lv' := [(2, .int z), (0, .ref z0), (1, .int ch)]) hx hb dX7_takes_29 rfl hl (by decide) rfl (fun ls hl => ?_)
    by_cases q : (i < n ∧ t i = ch)
    · have e1 : z = 1 := hz.trans (if_pos q)
      rw [e1] at hl
      refine lv_aload_n hx hb dX7_takes_30 rfl (lv_at hl 1 rfl) ?_
      refine lv_dup hx hb dX7_takes_31 rfl ?_
      refine gf493 F hW 0 rfl rfl dX7_takes_32 ?_
      refine lv_iload_n hx hb dX7_takes_35 rfl (lv_at hl 0 rfl) ?_
      refine lv_if_eq (tgt := 43) hx hb dX7_takes_36 (by decide) (fun h9 => absurd h9 (by decide)) (fun _ => ?_)
      refine lv_iconst (v := nI 1) hx hb dX7_takes_39 (by decide) ?_
      refine lv_goto (tgt := 44) hx hb dX7_takes_40 (by decide) ?_
      refine iaddE (z := nI (i + 1)) hx hb dX7_takes_44 (nI_add _ _) ?_
      refine pf493 (ws' := [(z0, .inr (7, [.ref z1, .ref z2, .int nh, .ref z3, .ref z4, .ref z5, .ref z6, .ref z7, .ref z8, .ref z9, .int (nI n), .int (nI (i + 1)), .ref z10])), (z9, .inl (T 0, 60, .inl t))]) F hW 0 rfl rfl rfl dX7_takes_45 (fun H locs hW => ?_)
      refine lv_iload_n hx hb dX7_takes_48 rfl (lv_at hl 0 rfl) ?_
      exact retI F hr hlk rfl hW () (if_pos q).symm (by rw [if_pos q]) dX7_takes_49
    · have e1 : z = 0 := hz.trans (if_neg q)
      rw [e1] at hl
      refine lv_aload_n hx hb dX7_takes_30 rfl (lv_at hl 1 rfl) ?_
      refine lv_dup hx hb dX7_takes_31 rfl ?_
      refine gf493 F hW 0 rfl rfl dX7_takes_32 ?_
      refine lv_iload_n hx hb dX7_takes_35 rfl (lv_at hl 0 rfl) ?_
      refine lv_if_eq (tgt := 43) hx hb dX7_takes_36 (by decide) (fun _ => ?_) (fun h9 => absurd rfl h9)
      refine lv_iconst (v := nI 0) hx hb dX7_takes_43 (by decide) ?_
      refine iaddE (z := nI i) hx hb dX7_takes_44 (nI_add i 0) ?_
      refine pf493 (ws' := [(z0, .inr (7, [.ref z1, .ref z2, .int nh, .ref z3, .ref z4, .ref z5, .ref z6, .ref z7, .ref z8, .ref z9, .int (nI n), .int (nI i), .ref z10])), (z9, .inl (T 0, 60, .inl t))]) F hW 0 rfl rfl rfl dX7_takes_45 (fun H locs hW => ?_)
      refine lv_iload_n hx hb dX7_takes_48 rfl (lv_at hl 0 rfl) ?_
      exact retI F hr hlk rfl hW () (if_neg q).symm (by rw [if_neg q]) dX7_takes_49
set_option maxHeartbeats 4000000 in
set_option maxRecDepth 100000 in
theorem r_readsNumber (l : Launch) (D : va_G) (T : Nat → ClassId) (z0 z1 z2 z3 z4 z5 z6 z7 z8 z9 z10 : Nat) (nh : Int32) (t nb : Nat → Int32) {n i f : Nat} (hn : n ≤ 60) (hi : i ≤ n) (hf : f < 15) : KI (S := Unit) l D T yX7_readsNumber cX7_readsNumber 2 (some .boolean) 2 [.ref z0, .int (nI f)] [(z0, .inr (7, [.ref z1, .ref z2, .int nh, .ref z3, .ref z4, .ref z5, .ref z6, .ref z7, .ref z8, .ref z9, .int (nI n), .int (nI i), .ref z10])), (z9, .inl (T 0, 60, .inl t)), (z10, .inl (T 0, 15, .inl nb))] (fun r _ => r = if digP t n i then 1 else 0) (fun u => [(z0, .inr (7, [.ref z1, .ref z2, .int nh, .ref z3, .ref z4, .ref z5, .ref z6, .ref z7, .ref z8, .ref z9, .int (nI n), .int (nI ((rdF t n i nb f).1)), .ref z10])), (z9, .inl (T 0, 60, .inl t)), (z10, .inl (T 0, 15, .inl ((rdF t n i nb f).2)))]) := by
  refine KI.of (by decide +kernel) (Nat.le_of_ble_eq_true rfl) (fun p e s m below meth c A F hr hlk hW ls hl => ?_)
  have hx := F.1
  have hb := F.2.1
  have hl : lv_has ls 2 [(0, .ref z0), (1, .int (nI f))] := hl
  refine lv_aload_n hx hb dX7_readsNumber_0 rfl (lv_at hl 0 rfl) ?_
  refine cRV (As := []) (rest := []) F hW hl cs615 (r_isDigit l D T z0 z1 z2 z3 z4 z5 z6 z7 z8 z9 z10 nh t (n := n) (i := i) (by omega) (by omega)) [0, 1] rfl rfl 0 7 rfl rfl rfl rfl rfl (Nat.le_of_ble_eq_true rfl) ⟨Nat.le_of_ble_eq_true rfl, Nat.le_of_ble_eq_true rfl⟩ ⟨Nat.zero_le _, Nat.zero_le _⟩ dX7_readsNumber_1 (fun r1 hr1 => ?_)
  subst hr1
  refine lv_if_ne (tgt := 9) hx hb dX7_readsNumber_4 (by decide) (fun h4 => ?_) (fun h4 => ?_)
  · have q : digP t n i := Decidable.not_not.mp (fun q => h4 (bz.mpr q))
    have q1 : i < n := q.1
    refine lv_aload_n hx hb dX7_readsNumber_9 rfl (lv_at hl 0 rfl) ?_
    refine gf494 F hW 0 rfl rfl dX7_readsNumber_10 ?_
    refine lv_iload_n hx hb dX7_readsNumber_13 rfl (lv_at hl 1 rfl) ?_
    refine lv_aload_n hx hb dX7_readsNumber_14 rfl (lv_at hl 0 rfl) ?_
    refine gf491 F hW 0 rfl rfl dX7_readsNumber_15 ?_
    refine lv_aload_n hx hb dX7_readsNumber_18 rfl (lv_at hl 0 rfl) ?_
    refine gf493 F hW 0 rfl rfl dX7_readsNumber_19 ?_
    refine ald F hW 1 rfl (x := t i) i rfl (by omega) (by decide) rfl dX7_readsNumber_22 ?_
    refine lv_bipush (v := nI 48) hx hb dX7_readsNumber_23 (by decide) ?_
    refine isubE (z := (t i) - (nI 48)) hx hb dX7_readsNumber_25 rfl ?_
    refine ast (ws' := [(z0, .inr (7, [.ref z1, .ref z2, .int nh, .ref z3, .ref z4, .ref z5, .ref z6, .ref z7, .ref z8, .ref z9, .int (nI n), .int (nI i), .ref z10])), (z9, .inl (T 0, 60, .inl t)), (z10, .inl (T 0, 15, .inl (upd nb f ((t i) - (nI 48)))))]) F hW 2 (upd nb f ((t i) - (nI 48))) rfl f rfl (by omega) (by decide) (fun _ _ => rfl) rfl dX7_readsNumber_26 (fun H locs hW => ?_)
    refine lv_aload_n hx hb dX7_readsNumber_27 rfl (lv_at hl 0 rfl) ?_
    refine lv_dup hx hb dX7_readsNumber_28 rfl ?_
    refine gf493 F hW 0 rfl rfl dX7_readsNumber_29 ?_
    refine lv_iconst (v := nI 1) hx hb dX7_readsNumber_32 (by decide) ?_
    refine iaddE (z := nI (i + 1)) hx hb dX7_readsNumber_33 (nI_add _ _) ?_
    refine pf493 (ws' := [(z0, .inr (7, [.ref z1, .ref z2, .int nh, .ref z3, .ref z4, .ref z5, .ref z6, .ref z7, .ref z8, .ref z9, .int (nI n), .int (nI (i + 1)), .ref z10])), (z9, .inl (T 0, 60, .inl t)), (z10, .inl (T 0, 15, .inl (upd nb f ((t i) - (nI 48)))))]) F hW 0 rfl rfl rfl dX7_readsNumber_34 (fun H locs hW => ?_)
    refine lv_aload_n hx hb dX7_readsNumber_37 rfl (lv_at hl 0 rfl) ?_
    refine gf494 F hW 0 rfl rfl dX7_readsNumber_38 ?_
    refine lv_iload_n hx hb dX7_readsNumber_41 rfl (lv_at hl 1 rfl) ?_
    refine ald F hW 2 rfl (x := (t i - 48)) f rfl (by omega) (by decide) (u_s _ _ _) dX7_readsNumber_42 ?_
    refine lv_if_le (tgt := 91) hx hb dX7_readsNumber_43 (by decide) (fun h43 => ?_) (fun h43 => ?_)
    · have e2 : ¬ two t n i := fun z => Int32.not_le.mpr z.1 h43
      refine lv_iconst (v := 1) hx hb dX7_readsNumber_91 (by decide) ?_
      exact retI F hr hlk rfl hW () (if_pos q).symm (by rw [rd_y q, num_n e2]; rfl) dX7_readsNumber_92
    · have e1 : 0 < t i - 48 := Int32.not_le.mp h43
      refine lv_aload_n hx hb dX7_readsNumber_46 rfl (lv_at hl 0 rfl) ?_
      refine cRV (As := []) (rest := []) F hW hl cs615 (r_isDigit l D T z0 z1 z2 z3 z4 z5 z6 z7 z8 z9 z10 nh t (n := n) (i := (i + 1)) (by omega) (by omega)) [0, 1] rfl rfl 0 7 rfl rfl rfl rfl rfl (Nat.le_of_ble_eq_true rfl) ⟨Nat.le_of_ble_eq_true rfl, Nat.le_of_ble_eq_true rfl⟩ ⟨Nat.zero_le _, Nat.zero_le _⟩ dX7_readsNumber_47 (fun r47 hr47 => ?_)
      subst hr47
      refine lv_if_eq (tgt := 91) hx hb dX7_readsNumber_50 (by decide) (fun h50 => ?_) (fun h50 => ?_)
      · have e2 : ¬ two t n i := fun z => bz.mp h50 z.2
        refine lv_iconst (v := 1) hx hb dX7_readsNumber_91 (by decide) ?_
        exact retI F hr hlk rfl hW () (if_pos q).symm (by rw [rd_y q, num_n e2]; rfl) dX7_readsNumber_92
      · have e2 : two t n i := ⟨e1, Decidable.not_not.mp (fun z => h50 (bz.mpr z))⟩
        have e3 : i + 1 < n := e2.2.1
        refine lv_aload_n hx hb dX7_readsNumber_53 rfl (lv_at hl 0 rfl) ?_
        refine gf494 F hW 0 rfl rfl dX7_readsNumber_54 ?_
        refine lv_iload_n hx hb dX7_readsNumber_57 rfl (lv_at hl 1 rfl) ?_
        refine lv_bipush (v := nI 10) hx hb dX7_readsNumber_58 (by decide) ?_
        refine lv_aload_n hx hb dX7_readsNumber_60 rfl (lv_at hl 0 rfl) ?_
        refine gf494 F hW 0 rfl rfl dX7_readsNumber_61 ?_
        refine lv_iload_n hx hb dX7_readsNumber_64 rfl (lv_at hl 1 rfl) ?_
        refine ald F hW 2 rfl (x := (t i - 48)) f rfl (by omega) (by decide) (u_s _ _ _) dX7_readsNumber_65 ?_
        refine imulE (z := (nI 10) * (t i - 48)) hx hb dX7_readsNumber_66 rfl ?_
        refine lv_aload_n hx hb dX7_readsNumber_67 rfl (lv_at hl 0 rfl) ?_
        refine gf491 F hW 0 rfl rfl dX7_readsNumber_68 ?_
        refine lv_aload_n hx hb dX7_readsNumber_71 rfl (lv_at hl 0 rfl) ?_
        refine gf493 F hW 0 rfl rfl dX7_readsNumber_72 ?_
        refine ald F hW 1 rfl (x := t (i + 1)) (i + 1) rfl (by omega) (by decide) rfl dX7_readsNumber_75 ?_
        refine iaddE (z := ((nI 10) * (t i - 48)) + (t (i + 1))) hx hb dX7_readsNumber_76 rfl ?_
        refine lv_bipush (v := nI 48) hx hb dX7_readsNumber_77 (by decide) ?_
        refine isubE (z := (((nI 10) * (t i - 48)) + (t (i + 1))) - (nI 48)) hx hb dX7_readsNumber_79 rfl ?_
        refine ast (ws' := [(z0, .inr (7, [.ref z1, .ref z2, .int nh, .ref z3, .ref z4, .ref z5, .ref z6, .ref z7, .ref z8, .ref z9, .int (nI n), .int (nI (i + 1)), .ref z10])), (z9, .inl (T 0, 60, .inl t)), (z10, .inl (T 0, 15, .inl (upd (upd nb f ((t i) - (nI 48))) f ((((nI 10) * (t i - 48)) + (t (i + 1))) - (nI 48)))))]) F hW 2 (upd (upd nb f ((t i) - (nI 48))) f ((((nI 10) * (t i - 48)) + (t (i + 1))) - (nI 48))) rfl f rfl (by omega) (by decide) (fun _ _ => rfl) rfl dX7_readsNumber_80 (fun H locs hW => ?_)
        refine lv_aload_n hx hb dX7_readsNumber_81 rfl (lv_at hl 0 rfl) ?_
        refine lv_dup hx hb dX7_readsNumber_82 rfl ?_
        refine gf493 F hW 0 rfl rfl dX7_readsNumber_83 ?_
        refine lv_iconst (v := nI 1) hx hb dX7_readsNumber_86 (by decide) ?_
        refine iaddE (z := nI ((i + 1) + 1)) hx hb dX7_readsNumber_87 (nI_add _ _) ?_
        refine pf493 (ws' := [(z0, .inr (7, [.ref z1, .ref z2, .int nh, .ref z3, .ref z4, .ref z5, .ref z6, .ref z7, .ref z8, .ref z9, .int (nI n), .int (nI ((i + 1) + 1)), .ref z10])), (z9, .inl (T 0, 60, .inl t)), (z10, .inl (T 0, 15, .inl (upd (upd nb f ((t i) - (nI 48))) f ((((nI 10) * (t i - 48)) + (t (i + 1))) - (nI 48)))))]) F hW 0 rfl rfl rfl dX7_readsNumber_88 (fun H locs hW => ?_)
        refine lv_iconst (v := 1) hx hb dX7_readsNumber_91 (by decide) ?_
        exact retI F hr hlk rfl hW () (if_pos q).symm (by rw [rd_y q, num_y e2]; rfl) dX7_readsNumber_92
  · have q : ¬ digP t n i := bz.mp h4
    refine lv_iconst (v := 0) hx hb dX7_readsNumber_7 (by decide) ?_
    exact retI F hr hlk rfl hW () (if_neg q).symm (by rw [rd_n q]) dX7_readsNumber_8
set_option maxHeartbeats 4000000 in
set_option maxRecDepth 100000 in
theorem r_faultOf (l : Launch) (D : va_G) (T : Nat → ClassId) (z0 z1 z2 z3 z4 z5 z6 z7 z8 z9 z10 : Nat) (nh : Int32) (t nb0 : Nat → Int32) {n : Nat} (i0 : Nat) (hn : n ≤ 60) : KI (S := Nat × (Nat → Int32)) l D T yX7_faultOf cX7_faultOf 2 (some .int) 3 [.ref z0] [(z0, .inr (7, [.ref z1, .ref z2, .int nh, .ref z3, .ref z4, .ref z5, .ref z6, .ref z7, .ref z8, .ref z9, .int (nI n), .int (nI i0), .ref z10])), (z9, .inl (T 0, 60, .inl t)), (z10, .inl (T 0, 15, .inl nb0))] (fun r u => u.1 ≤ 60 ∧ r = (scanF n 0 0 0 t nb0).1 ∧ (r = -6 → ∀ j, j < 15 → u.2 j = (scanF n 0 0 0 t nb0).2 j)) (fun u => [(z0, .inr (7, [.ref z1, .ref z2, .int nh, .ref z3, .ref z4, .ref z5, .ref z6, .ref z7, .ref z8, .ref z9, .int (nI n), .int (nI u.1), .ref z10])), (z9, .inl (T 0, 60, .inl t)), (z10, .inl (T 0, 15, .inl u.2))]) := by
  refine KI.of (by decide +kernel) (Nat.le_of_ble_eq_true rfl) (fun p e s m below meth c A F hr hlk hW ls hl => ?_)
  have hx := F.1
  have hb := F.2.1
  have hl : lv_has ls 2 [(0, .ref z0)] := hl
  refine lv_aload_n hx hb dX7_faultOf_0 rfl (lv_at hl 0 rfl) ?_
  refine lv_iconst (v := nI 0) hx hb dX7_faultOf_1 (by decide) ?_
  refine pf493 (ws' := [(z0, .inr (7, [.ref z1, .ref z2, .int nh, .ref z3, .ref z4, .ref z5, .ref z6, .ref z7, .ref z8, .ref z9, .int (nI n), .int (nI 0), .ref z10])), (z9, .inl (T 0, 60, .inl t)), (z10, .inl (T 0, 15, .inl nb0))]) F hW 0 rfl rfl rfl dX7_faultOf_2 (fun H locs hW => ?_)
  refine lv_iconst (v := nI 0) hx hb dX7_faultOf_5 (by decide) ?_
  refine lv_istore_n (lv' := [(1, .int (nI 0)), (0, .ref z0)]) hx hb dX7_faultOf_6 rfl hl (by decide) rfl (fun ls hl => ?_)
  refine W.loop (fun z H2 locs2 ls2 => ∃ (k i : Nat) (nb : Nat → Int32), k ≤ 14 ∧ i ≤ n ∧ z = 14 - k ∧ scanF (n - i) i k 0 t nb = scanF n 0 0 0 t nb0 ∧ Wd D T A s [(z0, .inr (7, [.ref z1, .ref z2, .int nh, .ref z3, .ref z4, .ref z5, .ref z6, .ref z7, .ref z8, .ref z9, .int (nI n), .int (nI i), .ref z10])), (z9, .inl (T 0, 60, .inl t)), (z10, .inl (T 0, 15, .inl nb))] H2 locs2 ∧ lv_has ls2 2 [(0, .ref z0), (1, .int (nI k))]) ?_ 14 ⟨0, 0, nb0, by omega, by omega, rfl, rfl, hW, lv_sub hl [1, 0] rfl⟩
  rintro z H locs ls ⟨k, i, nb, hk, hi, rfl, hS, hW, hl⟩ ih
  refine lv_iload_n hx hb dX7_faultOf_7 rfl (lv_at hl 1 rfl) ?_
  refine lv_bipush (v := nI 14) hx hb dX7_faultOf_8 (by decide) ?_
  refine lv_icmp_ge (tgt := 58) hx hb dX7_faultOf_10 (by decide) (fun h10 => ?_) (fun h10 => ?_)
  · have h5q : k = 14 := by have := n_le h10 (by omega) (by omega); omega
    subst h5q
    refine lv_aload_n hx hb dX7_faultOf_58 rfl (lv_at hl 0 rfl) ?_
    refine gf493 F hW 0 rfl rfl dX7_faultOf_59 ?_
    refine lv_aload_n hx hb dX7_faultOf_62 rfl (lv_at hl 0 rfl) ?_
    refine gf492 F hW 0 rfl rfl dX7_faultOf_63 ?_
    refine lv_icmp_eq (tgt := 91) hx hb dX7_faultOf_66 (by decide) (fun h66 => ?_) (fun h66 => ?_)
    · have e1 : i = n := n_eq h66 (by omega) (by omega)
      refine lv_aload_n hx hb dX7_faultOf_91 rfl (lv_at hl 0 rfl) ?_
      refine gf493 F hW 0 rfl rfl dX7_faultOf_92 ?_
      exact retI F hr hlk rfl hW (i, nb) ⟨by show i ≤ 60; omega, by rw [← hS, scan_14n (fun q => absurd q.1 (by omega)) hi], fun q => absurd q (ni_6 (by omega))⟩ rfl dX7_faultOf_95
    · have e1 : i < n := by have := n_ne h66; omega
      refine lv_aload_n hx hb dX7_faultOf_69 rfl (lv_at hl 0 rfl) ?_
      refine gf491 F hW 0 rfl rfl dX7_faultOf_70 ?_
      refine lv_aload_n hx hb dX7_faultOf_73 rfl (lv_at hl 0 rfl) ?_
      refine gf493 F hW 0 rfl rfl dX7_faultOf_74 ?_
      refine ald F hW 1 rfl (x := t i) i rfl (by omega) (by decide) rfl dX7_faultOf_77 ?_
      refine lv_i2l (v := (t i).toInt64) hx hb dX7_faultOf_78 rfl ?_
      refine lv_ldc2 hx hb F.2.2.2.1 (F.2.2.2.2 _ m619) dX7_faultOf_79 ?_
      refine lv_ldc2 hx hb F.2.2.2.1 (F.2.2.2.2 _ m625) dX7_faultOf_82 ?_
      refine cRS (As := [.long ((t i).toInt64), .long 48, .long 49]) (rest := []) F hW hl cs530 (r_in l D T ((t i).toInt64) 48 49) [] rfl rfl rfl rfl (Nat.le_of_ble_eq_true rfl) ⟨Nat.le_of_ble_eq_true rfl, Nat.le_of_ble_eq_true rfl⟩ ⟨Nat.zero_le _, Nat.zero_le _⟩ dX7_faultOf_85 (fun r85 hr85 => ?_)
      subst hr85
      have e0 := in_if (a := 48) (b := 49) (la := 48) (lb := 49) (t i) (by decide) (by decide)
      refine lv_if_ne (tgt := 96) hx hb dX7_faultOf_88 (by decide) (fun h88 => ?_) (fun h88 => ?_)
      · have q : t i = 48 ∨ t i = 49 := or_49.mp (Decidable.not_not.mp (fun q => h88 (e0.trans (if_neg q))))
        refine lv_aload_n hx hb dX7_faultOf_96 rfl (lv_at hl 0 rfl) ?_
        refine gf494 F hW 0 rfl rfl dX7_faultOf_97 ?_
        refine lv_bipush (v := nI 14) hx hb dX7_faultOf_100 (by decide) ?_
        refine lv_aload_n hx hb dX7_faultOf_102 rfl (lv_at hl 0 rfl) ?_
        refine gf491 F hW 0 rfl rfl dX7_faultOf_103 ?_
        refine lv_aload_n hx hb dX7_faultOf_106 rfl (lv_at hl 0 rfl) ?_
        refine gf493 F hW 0 rfl rfl dX7_faultOf_107 ?_
        refine ald F hW 1 rfl (x := t i) i rfl (by omega) (by decide) rfl dX7_faultOf_110 ?_
        refine lv_bipush (v := nI 48) hx hb dX7_faultOf_111 (by decide) ?_
        refine isubE (z := (t i) - (nI 48)) hx hb dX7_faultOf_113 rfl ?_
        refine ast (ws' := [(z0, .inr (7, [.ref z1, .ref z2, .int nh, .ref z3, .ref z4, .ref z5, .ref z6, .ref z7, .ref z8, .ref z9, .int (nI n), .int (nI i), .ref z10])), (z9, .inl (T 0, 60, .inl t)), (z10, .inl (T 0, 15, .inl (upd nb 14 ((t i) - (nI 48)))))]) F hW 2 (upd nb 14 ((t i) - (nI 48))) rfl 14 rfl (by omega) (by decide) (fun _ _ => rfl) rfl dX7_faultOf_114 (fun H locs hW => ?_)
        refine lv_aload_n hx hb dX7_faultOf_115 rfl (lv_at hl 0 rfl) ?_
        refine lv_dup hx hb dX7_faultOf_116 rfl ?_
        refine gf493 F hW 0 rfl rfl dX7_faultOf_117 ?_
        refine lv_iconst (v := nI 1) hx hb dX7_faultOf_120 (by decide) ?_
        refine iaddE (z := nI (i + 1)) hx hb dX7_faultOf_121 (nI_add _ _) ?_
        refine pf493 (ws' := [(z0, .inr (7, [.ref z1, .ref z2, .int nh, .ref z3, .ref z4, .ref z5, .ref z6, .ref z7, .ref z8, .ref z9, .int (nI n), .int (nI (i + 1)), .ref z10])), (z9, .inl (T 0, 60, .inl t)), (z10, .inl (T 0, 15, .inl (upd nb 14 ((t i) - (nI 48)))))]) F hW 0 rfl rfl rfl dX7_faultOf_122 (fun H locs hW => ?_)
        refine lv_aload_n hx hb dX7_faultOf_125 rfl (lv_at hl 0 rfl) ?_
        refine gf493 F hW 0 rfl rfl dX7_faultOf_126 ?_
        refine lv_aload_n hx hb dX7_faultOf_129 rfl (lv_at hl 0 rfl) ?_
        refine gf492 F hW 0 rfl rfl dX7_faultOf_130 ?_
        refine lv_icmp_ne (tgt := 141) hx hb dX7_faultOf_133 (by decide) (fun h133 => ?_) (fun h133 => ?_)
        · have e2 : ¬ i + 1 = n := n_ne h133
          refine lv_aload_n hx hb dX7_faultOf_141 rfl (lv_at hl 0 rfl) ?_
          refine gf493 F hW 0 rfl rfl dX7_faultOf_142 ?_
          exact retI F hr hlk rfl hW (i + 1, upd nb 14 (t i - 48)) ⟨by show i + 1 ≤ 60; omega, by rw [← hS, scan_14y e1 q, if_neg e2], fun q => absurd q (ni_6 (by omega))⟩ rfl dX7_faultOf_145
        · have e2 : i + 1 = n := n_eq h133 (by omega) (by omega)
          refine lv_bipush (v := -6) hx hb dX7_faultOf_136 (by decide) ?_
          refine lv_goto (tgt := 145) hx hb dX7_faultOf_138 (by decide) ?_
          exact retI F hr hlk rfl hW (i + 1, upd nb 14 (t i - 48)) ⟨by show i + 1 ≤ 60; omega, by rw [← hS, scan_14y e1 q, if_pos e2], fun _ j _ => by rw [← hS, scan_14y e1 q]⟩ rfl dX7_faultOf_145
      · have q : ¬ (t i = 48 ∨ t i = 49) := fun q => absurd (e0.trans (if_pos (or_49.mpr q))) (by rw [h88]; decide)
        refine lv_aload_n hx hb dX7_faultOf_91 rfl (lv_at hl 0 rfl) ?_
        refine gf493 F hW 0 rfl rfl dX7_faultOf_92 ?_
        exact retI F hr hlk rfl hW (i, nb) ⟨by show i ≤ 60; omega, by rw [← hS, scan_14n (fun z => q z.2) hi], fun q => absurd q (ni_6 (by omega))⟩ rfl dX7_faultOf_95
  · have h5q : k < 14 := n_nle h10 (by decide) (by omega)
    refine lv_aload_n hx hb dX7_faultOf_13 rfl (lv_at hl 0 rfl) ?_
    refine lv_iload_n hx hb dX7_faultOf_14 rfl (lv_at hl 1 rfl) ?_
    refine cIV (As := [.int (nI k)]) (rest := []) (wr := []) F hW hl cs611 (r_readsNumber l D T z0 z1 z2 z3 z4 z5 z6 z7 z8 z9 z10 nh t nb (n := n) (i := i) (f := k) (by omega) (by omega) (by omega)) [0, 1, 2] [] rfl rfl rfl rfl (by decide) 0 7 rfl rfl rfl rfl rfl (Nat.le_of_ble_eq_true rfl) ⟨Nat.le_of_ble_eq_true rfl, Nat.le_of_ble_eq_true rfl⟩ ⟨Nat.zero_le _, Nat.zero_le _⟩ dX7_faultOf_15 (fun r15 u15 H locs hr15 hW => ?_)
    have hW := Wd.ord hW (ws' := [(z0, .inr (7, [.ref z1, .ref z2, .int nh, .ref z3, .ref z4, .ref z5, .ref z6, .ref z7, .ref z8, .ref z9, .int (nI n), .int (nI ((rdF t n i nb k).1)), .ref z10])), (z9, .inl (T 0, 60, .inl t)), (z10, .inl (T 0, 15, .inl ((rdF t n i nb k).2)))]) [0, 1, 2] rfl rfl
    subst hr15
    refine lv_if_eq (tgt := 47) hx hb dX7_faultOf_18 (by decide) (fun h18 => ?_) (fun h18 => ?_)
    · have q : ¬ digP t n i := bz.mp h18
      rw [rd_n q] at hW
      refine lv_aload_n hx hb dX7_faultOf_47 rfl (lv_at hl 0 rfl) ?_
      refine gf493 F hW 0 rfl rfl dX7_faultOf_48 ?_
      exact retI F hr hlk rfl hW (i, nb) ⟨by show i ≤ 60; omega, by rw [← hS, scan_nd q hi h5q], fun q => absurd q (ni_6 (by omega))⟩ rfl dX7_faultOf_51
    · have q : digP t n i := Decidable.not_not.mp (fun q => h18 (bz.mpr q))
      rw [rd_y q] at hW
      rw [scan_num q h5q] at hS
      have hb2 := num_b (nb := nb) (f := k) q
      generalize (numF t n i nb k).1 = i2 at *
      generalize (numF t n i nb k).2 = nb2 at *
      refine lv_aload_n hx hb dX7_faultOf_21 rfl (lv_at hl 0 rfl) ?_
      refine lv_iload_n hx hb dX7_faultOf_22 rfl (lv_at hl 1 rfl) ?_
      refine W.fork (X := Unit) 41 (fun _ => [.int (sgnC k), .ref z0]) (fun _ H2 locs2 ls2 => H2 = H ∧ locs2 = locs ∧ lv_has ls2 2 [(0, .ref z0), (1, .int (nI k))]) (fun hJ => ?_) ?_
      · refine lv_bipush (v := nI 11) hx hb dX7_faultOf_23 (by decide) ?_
        refine lv_icmp_eq (tgt := 34) hx hb dX7_faultOf_25 (by decide) (fun h25 => ?_) (fun h25 => ?_)
        · refine lv_bipush (v := nI 47) hx hb dX7_faultOf_34 (by decide) ?_
          refine lv_goto (tgt := 41) hx hb dX7_faultOf_36 (by decide) ?_
          rw [show nI 47 = sgnC k from (if_pos (Or.inl (n_eq h25 (by omega) (by decide)))).symm]
          exact hJ () _ _ _ ⟨rfl, rfl, hl⟩
        · refine lv_iload_n hx hb dX7_faultOf_28 rfl (lv_at hl 1 rfl) ?_
          refine lv_bipush (v := nI 13) hx hb dX7_faultOf_29 (by decide) ?_
          refine lv_icmp_ne (tgt := 39) hx hb dX7_faultOf_31 (by decide) (fun h31 => ?_) (fun h31 => ?_)
          · refine lv_bipush (v := nI 44) hx hb dX7_faultOf_39 (by decide) ?_
            rw [show nI 44 = sgnC k from (if_neg (fun z => z.elim (n_ne h25) (n_ne h31))).symm]
            exact hJ () _ _ _ ⟨rfl, rfl, hl⟩
          · refine lv_bipush (v := nI 47) hx hb dX7_faultOf_34 (by decide) ?_
            refine lv_goto (tgt := 41) hx hb dX7_faultOf_36 (by decide) ?_
            rw [show nI 47 = sgnC k from (if_pos (Or.inr (n_eq h31 (by omega) (by decide)))).symm]
            exact hJ () _ _ _ ⟨rfl, rfl, hl⟩
      · rintro - H2 locs2 ls ⟨rfl, rfl, hl⟩
        refine cIV (As := [.int (sgnC k)]) (rest := []) (wr := [(z10, .inl (T 0, 15, .inl nb2))]) F hW hl cs621 (r_takes l D T z0 z1 z2 z3 z4 z5 z6 z7 z8 z9 z10 nh t (sgnC k) (n := n) (i := i2) (by omega) (by omega)) [0, 1] [2] rfl rfl rfl rfl (by decide) 0 7 rfl rfl rfl rfl rfl (Nat.le_of_ble_eq_true rfl) ⟨Nat.le_of_ble_eq_true rfl, Nat.le_of_ble_eq_true rfl⟩ ⟨Nat.zero_le _, Nat.zero_le _⟩ dX7_faultOf_41 (fun r41 u41 H locs hr41 hW => ?_)
        have hW := Wd.ord hW (ws' := [(z0, .inr (7, [.ref z1, .ref z2, .int nh, .ref z3, .ref z4, .ref z5, .ref z6, .ref z7, .ref z8, .ref z9, .int (nI n), .int (nI (if i2 < n ∧ t i2 = (sgnC k) then i2 + 1 else i2)), .ref z10])), (z9, .inl (T 0, 60, .inl t)), (z10, .inl (T 0, 15, .inl nb2))]) [1, 2, 0] rfl rfl
        subst hr41
        refine lv_if_ne (tgt := 52) hx hb dX7_faultOf_44 (by decide) (fun h44 => ?_) (fun h44 => ?_)
        · have q2 : i2 < n ∧ t i2 = sgnC k := Decidable.not_not.mp (fun q => h44 (bz.mpr q))
          rw [if_pos q2] at hS hW
          refine lv_iinc (v := nI (k + 1)) (lv' := [(1, .int (nI (k + 1))), (0, .ref z0)]) hx hb dX7_faultOf_52 hl (k := 1) rfl (nI_add _ _) (by decide) rfl (fun ls hl => ?_)
          refine lv_goto (tgt := 7) hx hb dX7_faultOf_55 (by decide) ?_
          exact ih (14 - (k + 1)) _ _ _ (by omega) ⟨k + 1, i2 + 1, nb2, by omega, by omega, rfl, hS, hW, lv_sub hl [1, 0] rfl⟩
        · have q2 : ¬ (i2 < n ∧ t i2 = sgnC k) := bz.mp h44
          rw [if_neg q2] at hS hW
          refine lv_aload_n hx hb dX7_faultOf_47 rfl (lv_at hl 0 rfl) ?_
          refine gf493 F hW 0 rfl rfl dX7_faultOf_48 ?_
          exact retI F hr hlk rfl hW (i2, nb2) ⟨by show i2 ≤ 60; omega, by rw [← hS], fun q => absurd q (ni_6 (by omega))⟩ rfl dX7_faultOf_51
