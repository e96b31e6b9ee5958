-- the reference: its static methods, over an int row with a position from A on
def put (f : Nat → Int32) (A : Nat) (P : Nat → Int32) : Nat → Int32 := fun j => if A ≤ j ∧ j < A + 40 then P (j - A) else f j
theorem put_r {f P : Nat → Int32} {A k j : Nat} (hk : k < 40) (hj : j = A + k) : put f A P j = P k := by
  subst hj
  unfold put
  rw [if_pos (by omega), show A + k - A = k by omega]
theorem put_w {f P : Nat → Int32} {A k i : Nat} {x : Int32} (hk : k < 40) (hi : i = A + k) (j : Nat) : upd (put f A P) i x j = put f A (upd P k x) j := by
  subst hi
  unfold put
  by_cases q : j = A + k
  · rw [q, u_s, if_pos (by omega), show A + k - A = k by omega, u_s]
  · rw [u_n q]
    by_cases q2 : A ≤ j ∧ j < A + 40
    · rw [if_pos q2, if_pos q2, u_n (by omega)]
    · rw [if_neg q2, if_neg q2]
theorem put_c {f P Q : Nat → Int32} {A : Nat} (h : ∀ j, j < 40 → P j = Q j) (j : Nat) : put f A P j = put f A Q j := by
  unfold put
  by_cases q2 : A ≤ j ∧ j < A + 40
  · rw [if_pos q2, if_pos q2, h _ (by omega)]
  · rw [if_neg q2, if_neg q2]
theorem put_wc {f P Q : Nat → Int32} {A k i : Nat} {x : Int32} (hk : k < 40) (hi : i = A + k) (h : ∀ j, j < 40 → upd P k x j = Q j) (j : Nat) : upd (put f A P) i x j = put f A Q j := (put_w hk hi j).trans (put_c h j)
def enM (P : Nat → Int32) : Nat → Int32 := if overM P then endsM P else upd P 27 0
/-- behind k houses of the ending -/
def stM (P : Nat → Int32) (k : Nat) : Nat → Int32 := fun j => if j < 12 ∧ j < k then 0 else if j = 24 then sm (P 24) P 0 (min k 6) else if j = 25 then sm (P 25) P 6 (k - 6) else P j
theorem stM_o {P : Nat → Int32} {k j : Nat} (h : ¬ (j < 12 ∧ j < k)) (h4 : j ≠ 24) (h5 : j ≠ 25) : stM P k j = P j := by
  unfold stM
  rw [if_neg h, if_neg h4, if_neg h5]
theorem stM_z {P : Nat → Int32} {k j : Nat} (h : j < 12 ∧ j < k) : stM P k j = 0 := if_pos h
theorem stM_24 (P : Nat → Int32) (k : Nat) : stM P k 24 = sm (P 24) P 0 (min k 6) := by
  unfold stM
  rw [if_neg (by omega), if_pos rfl]
theorem stM_25 (P : Nat → Int32) (k : Nat) : stM P k 25 = sm (P 25) P 6 (k - 6) := by
  unfold stM
  rw [if_neg (by omega), if_neg (by decide), if_pos rfl]
theorem stM_s {P : Nat → Int32} {k : Nat} (hk : k < 12) (j : Nat) : upd (upd (stM P k) (24 + own k) (stM P k (24 + own k) + stM P k k)) k 0 j = stM P (k + 1) j := by
  have ek : stM P k k = P k := stM_o (by omega) (by omega) (by omega)
  have eo : own k = k / 6 := rfl
  by_cases q : j = k
  · rw [q, u_s, stM_z ⟨hk, by omega⟩]
  · rw [u_n q, ek]
    rcases Nat.lt_or_ge k 6 with z | z
    · rw [show own k = 0 by omega]
      by_cases a : j = 24
      · rw [a, show 24 + 0 = 24 from rfl, u_s, stM_24, stM_24, show min k 6 = k by omega, show min (k + 1) 6 = k + 1 by omega, sm, Nat.zero_add]
      · rw [u_n a]
        by_cases b : j = 25
        · rw [b, stM_25, stM_25, show k - 6 = k + 1 - 6 by omega]
        · by_cases c : j < 12 ∧ j < k
          · rw [stM_z c, stM_z (by omega)]
          · rw [stM_o c a b, stM_o (by omega) a b]
    · rw [show own k = 1 by omega]
      by_cases a : j = 25
      · rw [a, show 24 + 1 = 25 from rfl, u_s, stM_25, stM_25, show k + 1 - 6 = (k - 6) + 1 by omega, sm, show 6 + (k - 6) = k by omega]
      · rw [u_n a]
        by_cases b : j = 24
        · rw [b, stM_24, stM_24, show min k 6 = min (k + 1) 6 by omega]
        · by_cases c : j < 12 ∧ j < k
          · rw [stM_z c, stM_z (by omega)]
          · rw [stM_o c b a, stM_o (by omega) b a]
theorem stM_0 (P : Nat → Int32) (j : Nat) : stM P 0 j = P j := by
  unfold stM
  rw [if_neg (by omega)]
  by_cases b : j = 24
  · rw [if_pos b, b]; rfl
  · rw [if_neg b]
    by_cases c : j = 25
    · rw [if_pos c, c]; rfl
    · rw [if_neg c]
theorem stM_e (P : Nat → Int32) (j : Nat) : upd (stM P 12) 27 1 j = endsM P j := by
  by_cases q : j = 27
  · rw [q, u_s]; rfl
  · rw [u_n q]
    unfold stM endsM
    by_cases a : j < 12
    · rw [if_pos ⟨a, a⟩, if_pos a]
    · rw [if_neg (by omega), if_neg a, if_neg q]
      rfl
set_option maxHeartbeats 4000000 in
set_option maxRecDepth 100000 in
theorem r_owner (l : Launch) (D : va_G) (T : Nat → ClassId) {h : Nat} (hh : h < 12) : KR l D T yX7_owner cX7_owner 1 (some .int) 0 [.int (nI h)] [] (fun r => r = nI (own h)) := by
  refine KR.of (by decide +kernel) (Nat.le_of_ble_eq_true rfl) (fun p e s m below meth c F hr hlk hW ls hl => ?_)
  have hx := F.1
  have hb := F.2.1
  have hl : lv_has ls 1 [(0, .int (nI h))] := hl
  refine lv_iload_n hx hb dX7_owner_0 rfl (lv_at hl 0 rfl) ?_
  refine lv_bipush (v := nI 6) hx hb dX7_owner_1 (by decide) ?_
  refine idivE (z := nI (own h)) hx hb dX7_owner_3 ⟨by decide, pk_div (by omega) (by decide) (by decide)⟩ ?_
  exact retR F hr hlk rfl rfl dX7_owner_4
set_option maxHeartbeats 4000000 in
set_option maxRecDepth 100000 in
theorem r_total (l : Launch) (D : va_G) (T : Nat → ClassId) (a N b0 : Nat) (hN : b0 + 40 ≤ N) (hN2 : N < 1048576) (f P : Nat → Int32) : KR l D T yX7_total cX7_total 4 (some .int) 0 [.ref a, .int (nI b0)] [(a, .inl (T 0, N, .inl (put f b0 P)))] (fun r => r = allM P) := by
  refine KR.of (by decide +kernel) (Nat.le_of_ble_eq_true rfl) (fun p e s m below meth c F hr hlk hW ls hl => ?_)
  have hx := F.1
  have hb := F.2.1
  have hl : lv_has ls 4 [(0, .ref a), (1, .int (nI b0))] := hl
  refine lv_aload_n hx hb dX7_total_0 rfl (lv_at hl 0 rfl) ?_
  refine lv_iload_n hx hb dX7_total_1 rfl (lv_at hl 1 rfl) ?_
  refine lv_bipush (v := nI 24) hx hb dX7_total_2 (by decide) ?_
  refine iaddE (z := nI (b0 + 24)) hx hb dX7_total_4 (nI_add _ _) ?_
  refine ald F hW 0 rfl (x := P 24) (b0 + 24) rfl (by omega) (by omega) (put_r (by omega) (by omega)) dX7_total_5 ?_
  refine lv_aload_n hx hb dX7_total_6 rfl (lv_at hl 0 rfl) ?_
  refine lv_iload_n hx hb dX7_total_7 rfl (lv_at hl 1 rfl) ?_
  refine lv_bipush (v := nI 24) hx hb dX7_total_8 (by decide) ?_
  refine iaddE (z := nI (b0 + 24)) hx hb dX7_total_10 (nI_add _ _) ?_
  refine lv_iconst (v := nI 1) hx hb dX7_total_11 (by decide) ?_
  refine iaddE (z := nI ((b0 + 24) + 1)) hx hb dX7_total_12 (nI_add _ _) ?_
  refine ald F hW 0 rfl (x := P 25) ((b0 + 24) + 1) rfl (by omega) (by omega) (put_r (by omega) (by omega)) dX7_total_13 ?_
  refine iaddE (z := (P 24) + (P 25)) hx hb dX7_total_14 rfl ?_
  refine lv_istore_n (lv' := [(2, .int ((P 24) + (P 25))), (0, .ref a), (1, .int (nI b0))]) hx hb dX7_total_15 rfl hl (by decide) rfl (fun ls hl => ?_)
  refine lv_iconst (v := nI 0) hx hb dX7_total_16 (by decide) ?_
  refine lv_istore_n (lv' := [(3, .int (nI 0)), (2, .int ((P 24) + (P 25))), (0, .ref a), (1, .int (nI b0))]) hx hb dX7_total_17 rfl hl (by decide) rfl (fun ls hl => ?_)
  refine W.loop (fun n H2 locs2 ls2 => H2 = s.heap ∧ locs2 = [] ∧ ∃ k, k ≤ 12 ∧ n = 12 - k ∧ lv_has ls2 4 [(0, .ref a), (1, .int (nI b0)), (2, .int (sm (P 24 + P 25) P 0 k)), (3, .int (nI k))]) ?_ 12 ⟨rfl, rfl, 0, by omega, rfl, lv_sub hl [2, 3, 1, 0] rfl⟩
  rintro n H2 locs2 ls ⟨rfl, rfl, k, hk, rfl, hl⟩ ih
  refine lv_iload_n hx hb dX7_total_18 rfl (lv_at hl 3 rfl) ?_
  refine lv_bipush (v := nI 12) hx hb dX7_total_19 (by decide) ?_
  refine lv_icmp_ge (tgt := 40) hx hb dX7_total_21 (by decide) (fun h21 => ?_) (fun h21 => ?_)
  · have h5 : k = 12 := by have := n_le h21 (by omega) (by omega); omega
    subst h5
    refine lv_iload_n hx hb dX7_total_40 rfl (lv_at hl 2 rfl) ?_
    exact retR F hr hlk rfl rfl dX7_total_41
  · have h5 : k < 12 := n_nle h21 (by decide) (by omega)
    refine lv_iload_n hx hb dX7_total_24 rfl (lv_at hl 2 rfl) ?_
    refine lv_aload_n hx hb dX7_total_25 rfl (lv_at hl 0 rfl) ?_
    refine lv_iload_n hx hb dX7_total_26 rfl (lv_at hl 1 rfl) ?_
    refine lv_iconst (v := nI 0) hx hb dX7_total_27 (by decide) ?_
    refine iaddE (z := nI (b0 + 0)) hx hb dX7_total_28 (nI_add _ _) ?_
    refine lv_iload_n hx hb dX7_total_29 rfl (lv_at hl 3 rfl) ?_
    refine iaddE (z := nI ((b0 + 0) + k)) hx hb dX7_total_30 (nI_add _ _) ?_
    refine ald F hW 0 rfl (x := P k) ((b0 + 0) + k) rfl (by omega) (by omega) (put_r (by omega) (by omega)) dX7_total_31 ?_
    refine iaddE (z := sm (P 24 + P 25) P 0 (k + 1)) hx hb dX7_total_32 (by rw [sm, Nat.zero_add]) ?_
    refine lv_istore_n (lv' := [(2, .int (sm (P 24 + P 25) P 0 (k + 1))), (0, .ref a), (1, .int (nI b0)), (3, .int (nI k))]) hx hb dX7_total_33 rfl hl (by decide) rfl (fun ls hl => ?_)
    refine lv_iinc (v := nI (k + 1)) (lv' := [(3, .int (nI (k + 1))), (2, .int (sm (P 24 + P 25) P 0 (k + 1))), (0, .ref a), (1, .int (nI b0))]) hx hb dX7_total_34 hl (k := 3) rfl (nI_add _ _) (by decide) rfl (fun ls hl => ?_)
    refine lv_goto (tgt := 18) hx hb dX7_total_37 (by decide) ?_
    exact ih (12 - (k + 1)) _ _ _ (by omega) ⟨rfl, rfl, k + 1, by omega, rfl, lv_sub hl [2, 3, 1, 0] rfl⟩
set_option maxHeartbeats 4000000 in
set_option maxRecDepth 100000 in
theorem r_seedsOf (l : Launch) (D : va_G) (T : Nat → ClassId) (a N b0 : Nat) (hN : b0 + 40 ≤ N) (hN2 : N < 1048576) (f P : Nat → Int32) {t : Nat} (ht : t < 2) : KR l D T yX7_seedsOf cX7_seedsOf 5 (some .int) 0 [.ref a, .int (nI b0), .int (nI t)] [(a, .inl (T 0, N, .inl (put f b0 P)))] (fun r => r = sm 0 P (6 * t) 6) := by
  refine KR.of (by decide +kernel) (Nat.le_of_ble_eq_true rfl) (fun p e s m below meth c F hr hlk hW ls hl => ?_)
  have hx := F.1
  have hb := F.2.1
  have hl : lv_has ls 5 [(0, .ref a), (1, .int (nI b0)), (2, .int (nI t))] := hl
  refine lv_iconst (v := 0) hx hb dX7_seedsOf_0 (by decide) ?_
  refine lv_istore_n (lv' := [(3, .int 0), (0, .ref a), (1, .int (nI b0)), (2, .int (nI t))]) hx hb dX7_seedsOf_1 rfl hl (by decide) rfl (fun ls hl => ?_)
  refine lv_bipush (v := nI 6) hx hb dX7_seedsOf_2 (by decide) ?_
  refine lv_iload_n hx hb dX7_seedsOf_4 rfl (lv_at hl 3 rfl) ?_
  refine imulE (z := nI (6 * t)) hx hb dX7_seedsOf_5 (pk_mul _ _) ?_
  refine lv_istore (lv' := [(4, .int (nI (6 * t))), (3, .int 0), (0, .ref a), (1, .int (nI b0)), (2, .int (nI t))]) hx hb dX7_seedsOf_6 hl (by decide) rfl (fun ls hl => ?_)
  refine W.loop (fun n H2 locs2 ls2 => H2 = s.heap ∧ locs2 = [] ∧ ∃ k, k ≤ 6 ∧ n = 6 - k ∧ lv_has ls2 5 [(0, .ref a), (1, .int (nI b0)), (2, .int (nI t)), (3, .int (sm 0 P (6 * t) k)), (4, .int (nI (6 * t + k)))]) ?_ 6 ⟨rfl, rfl, 0, by omega, rfl, lv_sub hl [2, 3, 4, 1, 0] rfl⟩
  rintro n H2 locs2 ls ⟨rfl, rfl, k, hk, rfl, hl⟩ ih
  refine lv_iload hx hb dX7_seedsOf_8 (lv_at hl 4 rfl) ?_
  refine lv_bipush (v := nI 6) hx hb dX7_seedsOf_10 (by decide) ?_
  refine lv_iload_n hx hb dX7_seedsOf_12 rfl (lv_at hl 2 rfl) ?_
  refine imulE (z := nI (6 * t)) hx hb dX7_seedsOf_13 (pk_mul _ _) ?_
  refine lv_bipush (v := nI 6) hx hb dX7_seedsOf_14 (by decide) ?_
  refine iaddE (z := nI ((6 * t) + 6)) hx hb dX7_seedsOf_16 (nI_add _ _) ?_
  refine lv_icmp_ge (tgt := 37) hx hb dX7_seedsOf_17 (by decide) (fun h17 => ?_) (fun h17 => ?_)
  · have h5 : k = 6 := by have := n_le h17 (by omega) (by omega); omega
    subst h5
    refine lv_iload_n hx hb dX7_seedsOf_37 rfl (lv_at hl 3 rfl) ?_
    exact retR F hr hlk rfl rfl dX7_seedsOf_38
  · have h5 : k < 6 := by have := n_nle h17 (by omega) (by omega); omega
    refine lv_iload_n hx hb dX7_seedsOf_20 rfl (lv_at hl 3 rfl) ?_
    refine lv_aload_n hx hb dX7_seedsOf_21 rfl (lv_at hl 0 rfl) ?_
    refine lv_iload_n hx hb dX7_seedsOf_22 rfl (lv_at hl 1 rfl) ?_
    refine lv_iconst (v := nI 0) hx hb dX7_seedsOf_23 (by decide) ?_
    refine iaddE (z := nI (b0 + 0)) hx hb dX7_seedsOf_24 (nI_add _ _) ?_
    refine lv_iload hx hb dX7_seedsOf_25 (lv_at hl 4 rfl) ?_
    refine iaddE (z := nI ((b0 + 0) + (6 * t + k))) hx hb dX7_seedsOf_27 (nI_add _ _) ?_
    refine ald F hW 0 rfl (x := P (6 * t + k)) ((b0 + 0) + (6 * t + k)) rfl (by omega) (by omega) (put_r (by omega) (by omega)) dX7_seedsOf_28 ?_
    refine iaddE (z := sm 0 P (6 * t) (k + 1)) hx hb dX7_seedsOf_29 rfl ?_
    refine lv_istore_n (lv' := [(3, .int (sm 0 P (6 * t) (k + 1))), (0, .ref a), (1, .int (nI b0)), (2, .int (nI t)), (4, .int (nI (6 * t + k)))]) hx hb dX7_seedsOf_30 rfl hl (by decide) rfl (fun ls hl => ?_)
    refine lv_iinc (v := nI (6 * t + (k + 1))) (lv' := [(4, .int (nI (6 * t + (k + 1)))), (3, .int (sm 0 P (6 * t) (k + 1))), (0, .ref a), (1, .int (nI b0)), (2, .int (nI t))]) hx hb dX7_seedsOf_31 hl (k := 4) rfl (nI_add _ _) (by decide) rfl (fun ls hl => ?_)
    refine lv_goto (tgt := 8) hx hb dX7_seedsOf_34 (by decide) ?_
    exact ih (6 - (k + 1)) _ _ _ (by omega) ⟨rfl, rfl, k + 1, by omega, rfl, lv_sub hl [2, 3, 4, 1, 0] rfl⟩
set_option maxHeartbeats 4000000 in
set_option maxRecDepth 100000 in
theorem r_isHostile (l : Launch) (D : va_G) (T : Nat → ClassId) (a N b0 : Nat) (hN : b0 + 40 ≤ N) (hN2 : N < 1048576) (f P : Nat → Int32) {h : Nat} (hh : h < 12) : KR l D T yX7_isHostile cX7_isHostile 3 (some .boolean) 0 [.ref a, .int (nI b0), .int (nI h)] [(a, .inl (T 0, N, .inl (put f b0 P)))] (fun r => r = if P 35 ≤ P (12 + h) then 1 else 0) := by
  refine KR.of (by decide +kernel) (Nat.le_of_ble_eq_true rfl) (fun p e s m below meth c F hr hlk hW ls hl => ?_)
  have hx := F.1
  have hb := F.2.1
  have hl : lv_has ls 3 [(0, .ref a), (1, .int (nI b0)), (2, .int (nI h))] := hl
  refine lv_aload_n hx hb dX7_isHostile_0 rfl (lv_at hl 0 rfl) ?_
  refine lv_iload_n hx hb dX7_isHostile_1 rfl (lv_at hl 1 rfl) ?_
  refine lv_bipush (v := nI 12) hx hb dX7_isHostile_2 (by decide) ?_
  refine iaddE (z := nI (b0 + 12)) hx hb dX7_isHostile_4 (nI_add _ _) ?_
  refine lv_iload_n hx hb dX7_isHostile_5 rfl (lv_at hl 2 rfl) ?_
  refine iaddE (z := nI ((b0 + 12) + h)) hx hb dX7_isHostile_6 (nI_add _ _) ?_
  refine ald F hW 0 rfl (x := P (12 + h)) ((b0 + 12) + h) rfl (by omega) (by omega) (put_r (by omega) (by omega)) dX7_isHostile_7 ?_
  refine lv_aload_n hx hb dX7_isHostile_8 rfl (lv_at hl 0 rfl) ?_
  refine lv_iload_n hx hb dX7_isHostile_9 rfl (lv_at hl 1 rfl) ?_
  refine lv_bipush (v := nI 34) hx hb dX7_isHostile_10 (by decide) ?_
  refine iaddE (z := nI (b0 + 34)) hx hb dX7_isHostile_12 (nI_add _ _) ?_
  refine lv_iconst (v := nI 1) hx hb dX7_isHostile_13 (by decide) ?_
  refine iaddE (z := nI ((b0 + 34) + 1)) hx hb dX7_isHostile_14 (nI_add _ _) ?_
  refine ald F hW 0 rfl (x := P 35) ((b0 + 34) + 1) rfl (by omega) (by omega) (put_r (by omega) (by omega)) dX7_isHostile_15 ?_
  refine lv_icmp_lt (tgt := 23) hx hb dX7_isHostile_16 (by decide) (fun h16 => ?_) (fun h16 => ?_)
  · refine lv_iconst (v := 0) hx hb dX7_isHostile_23 (by decide) ?_
    exact retR F hr hlk rfl (if_neg (Int32.not_le.mpr h16)).symm dX7_isHostile_24
  · refine lv_iconst (v := 1) hx hb dX7_isHostile_19 (by decide) ?_
    refine lv_goto (tgt := 24) hx hb dX7_isHostile_20 (by decide) ?_
    exact retR F hr hlk rfl (if_pos (Int32.not_lt.mp h16)).symm dX7_isHostile_24
set_option maxHeartbeats 4000000 in
set_option maxRecDepth 100000 in
theorem r_canMove (l : Launch) (D : va_G) (T : Nat → ClassId) (a N b0 : Nat) (hN : b0 + 40 ≤ N) (hN2 : N < 1048576) (f P : Nat → Int32) {h : Nat} (hh : h < 12) : KR l D T yX7_canMove cX7_canMove 3 (some .boolean) 1 [.ref a, .int (nI b0), .int (nI h)] [(a, .inl (T 0, N, .inl (put f b0 P)))] (fun r => r = if legM P h then 1 else 0) := by
  refine KR.of (by decide +kernel) (Nat.le_of_ble_eq_true rfl) (fun p e s m below meth c F hr hlk hW ls hl => ?_)
  have hx := F.1
  have hb := F.2.1
  have hl : lv_has ls 3 [(0, .ref a), (1, .int (nI b0)), (2, .int (nI h))] := hl
  refine lv_aload_n hx hb dX7_canMove_0 rfl (lv_at hl 0 rfl) ?_
  refine lv_iload_n hx hb dX7_canMove_1 rfl (lv_at hl 1 rfl) ?_
  refine lv_bipush (v := nI 27) hx hb dX7_canMove_2 (by decide) ?_
  refine iaddE (z := nI (b0 + 27)) hx hb dX7_canMove_4 (nI_add _ _) ?_
  refine ald F hW 0 rfl (x := P 27) (b0 + 27) rfl (by omega) (by omega) (put_r (by omega) (by omega)) dX7_canMove_5 ?_
  refine lv_if_ne (tgt := 36) hx hb dX7_canMove_6 (by decide) (fun h6 => ?_) (fun h6 => ?_)
  · refine lv_iconst (v := 0) hx hb dX7_canMove_36 (by decide) ?_
    exact retR F hr hlk rfl (if_neg (show ¬ legM P h from fun q => h6 q.1)).symm dX7_canMove_37
  · refine lv_iload_n hx hb dX7_canMove_9 rfl (lv_at hl 2 rfl) ?_
    refine cRS (As := [.int (nI h)]) (rest := []) F hW hl cs554 (r_owner l D T (h := h) (by omega)) [] rfl rfl rfl rfl (Nat.le_of_ble_eq_true rfl) ⟨Nat.le_of_ble_eq_true rfl, Nat.le_of_ble_eq_true rfl⟩ ⟨Nat.zero_le _, Nat.zero_le _⟩ dX7_canMove_10 (fun r10 hr10 => ?_)
    subst hr10
    refine lv_aload_n hx hb dX7_canMove_13 rfl (lv_at hl 0 rfl) ?_
    refine lv_iload_n hx hb dX7_canMove_14 rfl (lv_at hl 1 rfl) ?_
    refine lv_bipush (v := nI 26) hx hb dX7_canMove_15 (by decide) ?_
    refine iaddE (z := nI (b0 + 26)) hx hb dX7_canMove_17 (nI_add _ _) ?_
    refine ald F hW 0 rfl (x := P 26) (b0 + 26) rfl (by omega) (by omega) (put_r (by omega) (by omega)) dX7_canMove_18 ?_
    refine lv_icmp_ne (tgt := 36) hx hb dX7_canMove_19 (by decide) (fun h19 => ?_) (fun h19 => ?_)
    · refine lv_iconst (v := 0) hx hb dX7_canMove_36 (by decide) ?_
      exact retR F hr hlk rfl (if_neg (show ¬ legM P h from fun q => h19 q.2.1)).symm dX7_canMove_37
    · refine lv_aload_n hx hb dX7_canMove_22 rfl (lv_at hl 0 rfl) ?_
      refine lv_iload_n hx hb dX7_canMove_23 rfl (lv_at hl 1 rfl) ?_
      refine lv_iconst (v := nI 0) hx hb dX7_canMove_24 (by decide) ?_
      refine iaddE (z := nI (b0 + 0)) hx hb dX7_canMove_25 (nI_add _ _) ?_
      refine lv_iload_n hx hb dX7_canMove_26 rfl (lv_at hl 2 rfl) ?_
      refine iaddE (z := nI ((b0 + 0) + h)) hx hb dX7_canMove_27 (nI_add _ _) ?_
      refine ald F hW 0 rfl (x := P h) ((b0 + 0) + h) rfl (by omega) (by omega) (put_r (by omega) (by omega)) dX7_canMove_28 ?_
      refine lv_if_le (tgt := 36) hx hb dX7_canMove_29 (by decide) (fun h29 => ?_) (fun h29 => ?_)
      · refine lv_iconst (v := 0) hx hb dX7_canMove_36 (by decide) ?_
        exact retR F hr hlk rfl (if_neg (show ¬ legM P h from fun q => Int32.not_lt.mpr h29 q.2.2)).symm dX7_canMove_37
      · refine lv_iconst (v := 1) hx hb dX7_canMove_32 (by decide) ?_
        refine lv_goto (tgt := 37) hx hb dX7_canMove_33 (by decide) ?_
        exact retR F hr hlk rfl (if_pos (show legM P h from ⟨h6, h19, Int32.not_le.mp h29⟩)).symm dX7_canMove_37
set_option maxHeartbeats 4000000 in
set_option maxRecDepth 100000 in
theorem r_ends (l : Launch) (D : va_G) (T : Nat → ClassId) (a N b0 : Nat) (hN : b0 + 40 ≤ N) (hN2 : N < 1048576) (f P : Nat → Int32) : KI (S := Unit) l D T yX7_ends cX7_ends 5 (some .boolean) 1 [.ref a, .int (nI b0)] [(a, .inl (T 0, N, .inl (put f b0 P)))] (fun r _ => r = if overM P then 1 else 0) (fun u => [(a, .inl (T 0, N, .inl (put f b0 (enM P))))]) := by
  refine KI.of (by decide +kernel) (Nat.le_of_ble_eq_true rfl) (fun p e s m below meth c A F hr hlk hW ls hl => ?_)
  have hx := F.1
  have hb := F.2.1
  have hl : lv_has ls 5 [(0, .ref a), (1, .int (nI b0))] := hl
  refine lv_aload_n hx hb dX7_ends_0 rfl (lv_at hl 0 rfl) ?_
  refine lv_iload_n hx hb dX7_ends_1 rfl (lv_at hl 1 rfl) ?_
  refine cRS (As := [.ref a, .int (nI b0)]) (rest := []) F hW hl cs576 (r_total l D T a N b0 (by omega) (by omega) f P) [0] rfl rfl rfl rfl (Nat.le_of_ble_eq_true rfl) ⟨Nat.le_of_ble_eq_true rfl, Nat.le_of_ble_eq_true rfl⟩ ⟨Nat.zero_le _, Nat.zero_le _⟩ dX7_ends_2 (fun r2 hr2 => ?_)
  subst hr2
  refine lv_istore_n (lv' := [(2, .int (allM P)), (0, .ref a), (1, .int (nI b0))]) hx hb dX7_ends_5 rfl hl (by decide) rfl (fun ls hl => ?_)
  refine lv_aload_n hx hb dX7_ends_6 rfl (lv_at hl 1 rfl) ?_
  refine lv_iload_n hx hb dX7_ends_7 rfl (lv_at hl 2 rfl) ?_
  refine lv_iconst (v := nI 0) hx hb dX7_ends_8 (by decide) ?_
  refine cRS (As := [.ref a, .int (nI b0), .int (nI 0)]) (rest := []) F hW hl cs579 (r_seedsOf l D T a N b0 (by omega) (by omega) f P (t := 0) (by omega)) [0] rfl rfl rfl rfl (Nat.le_of_ble_eq_true rfl) ⟨Nat.le_of_ble_eq_true rfl, Nat.le_of_ble_eq_true rfl⟩ ⟨Nat.zero_le _, Nat.zero_le _⟩ dX7_ends_9 (fun r9 hr9 => ?_)
  subst hr9
  refine lv_aload_n hx hb dX7_ends_12 rfl (lv_at hl 1 rfl) ?_
  refine lv_iload_n hx hb dX7_ends_13 rfl (lv_at hl 2 rfl) ?_
  refine lv_iconst (v := nI 1) hx hb dX7_ends_14 (by decide) ?_
  refine cRS (As := [.ref a, .int (nI b0), .int (nI 1)]) (rest := [.int (sm 0 P (6 * 0) 6)]) F hW hl cs579 (r_seedsOf l D T a N b0 (by omega) (by omega) f P (t := 1) (by omega)) [0] rfl rfl rfl rfl (Nat.le_of_ble_eq_true rfl) ⟨Nat.le_of_ble_eq_true rfl, Nat.le_of_ble_eq_true rfl⟩ ⟨Nat.zero_le _, Nat.zero_le _⟩ dX7_ends_15 (fun r15 hr15 => ?_)
  subst hr15
  refine iaddE (z := (sm 0 P (6 * 0) 6) + (sm 0 P (6 * 1) 6)) hx hb dX7_ends_18 rfl ?_
  refine W.fork (X := Int32) 65 (fun ov => [.int ov]) (fun ov H2 locs2 ls2 => ov = (if overM P then (1 : Int32) else 0) ∧ H2 = s.heap ∧ locs2 = [] ∧ lv_has ls2 5 [(2, .int (allM P)), (0, .ref a), (1, .int (nI b0))]) (fun hJ => ?_) ?_
  · refine lv_if_eq (tgt := 60) hx hb dX7_ends_19 (by decide) (fun h19 => ?_) (fun h19 => ?_)
    · refine lv_iconst (v := 1) hx hb dX7_ends_60 (by decide) ?_
      refine lv_goto (tgt := 65) hx hb dX7_ends_61 (by decide) ?_
      exact hJ 1 _ _ _ ⟨(if_pos (show overM P from Or.inl h19)).symm, rfl, rfl, hl⟩
    · refine lv_aload_n hx hb dX7_ends_22 rfl (lv_at hl 1 rfl) ?_
      refine lv_iload_n hx hb dX7_ends_23 rfl (lv_at hl 2 rfl) ?_
      refine lv_bipush (v := nI 28) hx hb dX7_ends_24 (by decide) ?_
      refine iaddE (z := nI (b0 + 28)) hx hb dX7_ends_26 (nI_add _ _) ?_
      refine ald F hW 0 rfl (x := P 28) (b0 + 28) rfl (by omega) (by omega) (put_r (by omega) (by omega)) dX7_ends_27 ?_
      refine lv_sipush (v := nI 300) hx hb dX7_ends_28 (by decide) ?_
      refine lv_icmp_eq (tgt := 60) hx hb dX7_ends_31 (by decide) (fun h31 => ?_) (fun h31 => ?_)
      · refine lv_iconst (v := 1) hx hb dX7_ends_60 (by decide) ?_
        refine lv_goto (tgt := 65) hx hb dX7_ends_61 (by decide) ?_
        exact hJ 1 _ _ _ ⟨(if_pos (show overM P from Or.inr (Or.inl h31))).symm, rfl, rfl, hl⟩
      · refine lv_iconst (v := nI 2) hx hb dX7_ends_34 (by decide) ?_
        refine lv_aload_n hx hb dX7_ends_35 rfl (lv_at hl 1 rfl) ?_
        refine lv_iload_n hx hb dX7_ends_36 rfl (lv_at hl 2 rfl) ?_
        refine lv_bipush (v := nI 24) hx hb dX7_ends_37 (by decide) ?_
        refine iaddE (z := nI (b0 + 24)) hx hb dX7_ends_39 (nI_add _ _) ?_
        refine ald F hW 0 rfl (x := P 24) (b0 + 24) rfl (by omega) (by omega) (put_r (by omega) (by omega)) dX7_ends_40 ?_
        refine imulE (z := (nI 2) * (P 24)) hx hb dX7_ends_41 rfl ?_
        refine lv_iload_n hx hb dX7_ends_42 rfl (lv_at hl 0 rfl) ?_
        refine lv_icmp_gt (tgt := 60) hx hb dX7_ends_43 (by decide) (fun h43 => ?_) (fun h43 => ?_)
        · refine lv_iconst (v := 1) hx hb dX7_ends_60 (by decide) ?_
          refine lv_goto (tgt := 65) hx hb dX7_ends_61 (by decide) ?_
          exact hJ 1 _ _ _ ⟨(if_pos (show overM P from Or.inr (Or.inr (Or.inl h43)))).symm, rfl, rfl, hl⟩
        · refine lv_iconst (v := nI 2) hx hb dX7_ends_46 (by decide) ?_
          refine lv_aload_n hx hb dX7_ends_47 rfl (lv_at hl 1 rfl) ?_
          refine lv_iload_n hx hb dX7_ends_48 rfl (lv_at hl 2 rfl) ?_
          refine lv_bipush (v := nI 24) hx hb dX7_ends_49 (by decide) ?_
          refine iaddE (z := nI (b0 + 24)) hx hb dX7_ends_51 (nI_add _ _) ?_
          refine lv_iconst (v := nI 1) hx hb dX7_ends_52 (by decide) ?_
          refine iaddE (z := nI ((b0 + 24) + 1)) hx hb dX7_ends_53 (nI_add _ _) ?_
          refine ald F hW 0 rfl (x := P 25) ((b0 + 24) + 1) rfl (by omega) (by omega) (put_r (by omega) (by omega)) dX7_ends_54 ?_
          refine imulE (z := (nI 2) * (P 25)) hx hb dX7_ends_55 rfl ?_
          refine lv_iload_n hx hb dX7_ends_56 rfl (lv_at hl 0 rfl) ?_
          refine lv_icmp_le (tgt := 64) hx hb dX7_ends_57 (by decide) (fun h57 => ?_) (fun h57 => ?_)
          · refine lv_iconst (v := 0) hx hb dX7_ends_64 (by decide) ?_
            exact hJ 0 _ _ _ ⟨(if_neg (show ¬ overM P from fun q => q.elim h19 (fun q => q.elim h31 (fun q => q.elim h43 (Int32.not_lt.mpr h57))))).symm, rfl, rfl, hl⟩
          · refine lv_iconst (v := 1) hx hb dX7_ends_60 (by decide) ?_
            refine lv_goto (tgt := 65) hx hb dX7_ends_61 (by decide) ?_
            exact hJ 1 _ _ _ ⟨(if_pos (show overM P from Or.inr (Or.inr (Or.inr (Int32.not_le.mp h57))))).symm, rfl, rfl, hl⟩
  · rintro ov H2 locs2 ls ⟨hov, rfl, rfl, hl⟩
    refine lv_istore_n (lv' := [(3, .int ov), (2, .int (allM P)), (0, .ref a), (1, .int (nI b0))]) hx hb dX7_ends_65 rfl hl (by decide) rfl (fun ls hl => ?_)
    refine lv_iconst (v := nI 0) hx hb dX7_ends_66 (by decide) ?_
    refine lv_istore (lv' := [(4, .int (nI 0)), (3, .int ov), (2, .int (allM P)), (0, .ref a), (1, .int (nI b0))]) hx hb dX7_ends_67 hl (by decide) rfl (fun ls hl => ?_)
    by_cases ho : overM P
    · have e1 : ov = 1 := hov.trans (if_pos ho)
      rw [e1] at hl hov
      have hW := Wd.arr hW 0 (put f b0 (stM P 0)) rfl (fun j _ => put_c (fun j _ => (stM_0 P j).symm) j) (ws' := [(a, .inl (T 0, N, .inl (put f b0 (stM P 0))))]) rfl
      refine W.loop (fun n H2 locs2 ls2 => ∃ k, k ≤ 12 ∧ n = 12 - k ∧ Wd D T A s [(a, .inl (T 0, N, .inl (put f b0 (stM P k))))] H2 locs2 ∧ lv_has ls2 5 [(0, .ref a), (1, .int (nI b0)), (3, .int 1), (4, .int (nI k))]) ?_ 12 ⟨0, by omega, rfl, hW, lv_sub hl [3, 4, 1, 0] rfl⟩
      rintro n H locs ls ⟨k, hk, rfl, hW, hl⟩ ih
      refine lv_iload hx hb dX7_ends_69 (lv_at hl 3 rfl) ?_
      refine lv_bipush (v := nI 12) hx hb dX7_ends_71 (by decide) ?_
      refine lv_icmp_ge (tgt := 118) hx hb dX7_ends_73 (by decide) (fun h73 => ?_) (fun h73 => ?_)
      · have h5 : k = 12 := by have := n_le h73 (by omega) (by omega); omega
        subst h5
        refine lv_aload_n hx hb dX7_ends_118 rfl (lv_at hl 0 rfl) ?_
        refine lv_iload_n hx hb dX7_ends_119 rfl (lv_at hl 1 rfl) ?_
        refine lv_bipush (v := nI 27) hx hb dX7_ends_120 (by decide) ?_
        refine iaddE (z := nI (b0 + 27)) hx hb dX7_ends_122 (nI_add _ _) ?_
        refine lv_iload_n hx hb dX7_ends_123 rfl (lv_at hl 2 rfl) ?_
        refine lv_if_eq (tgt := 131) hx hb dX7_ends_124 (by decide) (fun h9 => absurd h9 (by decide)) (fun _ => ?_)
        refine lv_iconst (v := 1) hx hb dX7_ends_127 (by decide) ?_
        refine lv_goto (tgt := 132) hx hb dX7_ends_128 (by decide) ?_
        refine ast (ws' := [(a, .inl (T 0, N, .inl (put f b0 (endsM P))))]) F hW 0 (put f b0 (endsM P)) rfl (b0 + 27) rfl (by omega) (by omega) (fun j _ => put_wc (by omega) (by omega) (fun j _ => stM_e P j) j) rfl dX7_ends_132 (fun H locs hW => ?_)
        refine lv_iload_n hx hb dX7_ends_133 rfl (lv_at hl 2 rfl) ?_
        have e2 : enM P = endsM P := if_pos ho
        exact retI F hr hlk rfl hW () hov (by rw [e2]) dX7_ends_134
      · have h5 : k < 12 := n_nle h73 (by decide) (by omega)
        have hown := own_lt h5
        refine lv_iload_n hx hb dX7_ends_76 rfl (lv_at hl 2 rfl) ?_
        refine lv_if_eq (tgt := 118) hx hb dX7_ends_77 (by decide) (fun h9 => absurd h9 (by decide)) (fun _ => ?_)
        refine lv_aload_n hx hb dX7_ends_80 rfl (lv_at hl 0 rfl) ?_
        refine lv_iload_n hx hb dX7_ends_81 rfl (lv_at hl 1 rfl) ?_
        refine lv_bipush (v := nI 24) hx hb dX7_ends_82 (by decide) ?_
        refine iaddE (z := nI (b0 + 24)) hx hb dX7_ends_84 (nI_add _ _) ?_
        refine lv_iload hx hb dX7_ends_85 (lv_at hl 3 rfl) ?_
        refine cRS (As := [.int (nI k)]) (rest := [.int (nI (b0 + 24)), .ref a]) F hW hl cs554 (r_owner l D T (h := k) (by omega)) [] rfl rfl rfl rfl (Nat.le_of_ble_eq_true rfl) ⟨Nat.le_of_ble_eq_true rfl, Nat.le_of_ble_eq_true rfl⟩ ⟨Nat.zero_le _, Nat.zero_le _⟩ dX7_ends_87 (fun r87 hr87 => ?_)
        subst hr87
        refine iaddE (z := nI ((b0 + 24) + (own k))) hx hb dX7_ends_90 (nI_add _ _) ?_
        refine lv_dup2_11 hx hb dX7_ends_91 rfl rfl ?_
        refine ald F hW 0 rfl (x := (stM P k) (24 + (own k))) ((b0 + 24) + (own k)) rfl (by omega) (by omega) (put_r (by omega) (by omega)) dX7_ends_92 ?_
        refine lv_aload_n hx hb dX7_ends_93 rfl (lv_at hl 0 rfl) ?_
        refine lv_iload_n hx hb dX7_ends_94 rfl (lv_at hl 1 rfl) ?_
        refine lv_iconst (v := nI 0) hx hb dX7_ends_95 (by decide) ?_
        refine iaddE (z := nI (b0 + 0)) hx hb dX7_ends_96 (nI_add _ _) ?_
        refine lv_iload hx hb dX7_ends_97 (lv_at hl 3 rfl) ?_
        refine iaddE (z := nI ((b0 + 0) + k)) hx hb dX7_ends_99 (nI_add _ _) ?_
        refine ald F hW 0 rfl (x := (stM P k) k) ((b0 + 0) + k) rfl (by omega) (by omega) (put_r (by omega) (by omega)) dX7_ends_100 ?_
        refine iaddE (z := ((stM P k) (24 + (own k))) + ((stM P k) k)) hx hb dX7_ends_101 rfl ?_
        refine ast (ws' := [(a, .inl (T 0, N, .inl (put f b0 (upd (stM P k) (24 + (own k)) (((stM P k) (24 + (own k))) + ((stM P k) k))))))]) F hW 0 (put f b0 (upd (stM P k) (24 + (own k)) (((stM P k) (24 + (own k))) + ((stM P k) k)))) rfl ((b0 + 24) + (own k)) rfl (by omega) (by omega) (fun j _ => put_w (by omega) (by omega) j) rfl dX7_ends_102 (fun H locs hW => ?_)
        refine lv_aload_n hx hb dX7_ends_103 rfl (lv_at hl 0 rfl) ?_
        refine lv_iload_n hx hb dX7_ends_104 rfl (lv_at hl 1 rfl) ?_
        refine lv_iconst (v := nI 0) hx hb dX7_ends_105 (by decide) ?_
        refine iaddE (z := nI (b0 + 0)) hx hb dX7_ends_106 (nI_add _ _) ?_
        refine lv_iload hx hb dX7_ends_107 (lv_at hl 3 rfl) ?_
        refine iaddE (z := nI ((b0 + 0) + k)) hx hb dX7_ends_109 (nI_add _ _) ?_
        refine lv_iconst (v := nI 0) hx hb dX7_ends_110 (by decide) ?_
        refine ast (ws' := [(a, .inl (T 0, N, .inl (put f b0 (stM P (k + 1)))))]) F hW 0 (put f b0 (stM P (k + 1))) rfl ((b0 + 0) + k) rfl (by omega) (by omega) (fun j _ => put_wc (by omega) (by omega) (fun j _ => stM_s h5 j) j) rfl dX7_ends_111 (fun H locs hW => ?_)
        refine lv_iinc (v := nI (k + 1)) (lv' := [(4, .int (nI (k + 1))), (0, .ref a), (1, .int (nI b0)), (3, .int 1)]) hx hb dX7_ends_112 hl (k := 3) rfl (nI_add _ _) (by decide) rfl (fun ls hl => ?_)
        refine lv_goto (tgt := 69) hx hb dX7_ends_115 (by decide) ?_
        exact ih (12 - (k + 1)) _ _ _ (by omega) ⟨k + 1, by omega, rfl, hW, lv_sub hl [1, 2, 3, 0] rfl⟩
    · have e1 : ov = 0 := hov.trans (if_neg ho)
      rw [e1] at hl hov
      refine lv_iload hx hb dX7_ends_69 (lv_at hl 0 rfl) ?_
      refine lv_bipush (v := nI 12) hx hb dX7_ends_71 (by decide) ?_
      refine lv_icmp_ge (tgt := 118) hx hb dX7_ends_73 (by decide) (fun h9 => absurd h9 (by decide)) (fun _ => ?_)
      refine lv_iload_n hx hb dX7_ends_76 rfl (lv_at hl 1 rfl) ?_
      refine lv_if_eq (tgt := 118) hx hb dX7_ends_77 (by decide) (fun _ => ?_) (fun h9 => absurd rfl h9)
      refine lv_aload_n hx hb dX7_ends_118 rfl (lv_at hl 3 rfl) ?_
      refine lv_iload_n hx hb dX7_ends_119 rfl (lv_at hl 4 rfl) ?_
      refine lv_bipush (v := nI 27) hx hb dX7_ends_120 (by decide) ?_
      refine iaddE (z := nI (b0 + 27)) hx hb dX7_ends_122 (nI_add _ _) ?_
      refine lv_iload_n hx hb dX7_ends_123 rfl (lv_at hl 1 rfl) ?_
      refine lv_if_eq (tgt := 131) hx hb dX7_ends_124 (by decide) (fun _ => ?_) (fun h9 => absurd rfl h9)
      refine lv_iconst (v := 0) hx hb dX7_ends_131 (by decide) ?_
      refine ast (ws' := [(a, .inl (T 0, N, .inl (put f b0 (upd P 27 0))))]) F hW 0 (put f b0 (upd P 27 0)) rfl (b0 + 27) rfl (by omega) (by omega) (fun j _ => put_w (by omega) (by omega) j) rfl dX7_ends_132 (fun H locs hW => ?_)
      refine lv_iload_n hx hb dX7_ends_133 rfl (lv_at hl 1 rfl) ?_
      have e2 : enM P = upd P 27 0 := if_neg ho
      exact retI F hr hlk rfl hW () hov (by rw [e2]) dX7_ends_134
