-- Position: the methods that read alone
theorem own_lt {h : Nat} (hh : h < 12) : own h < 2 := by unfold own; omega
theorem bz {c : Prop} [Decidable c] : (if c then (1 : Int32) else 0) = 0 ↔ ¬ c := by by_cases h : c <;> simp [h]
theorem sm_nI (z : Int32) (f : Nat → Int32) (b k : Nat) : sm z f b k + f (b + k) = sm z f b (k + 1) := rfl
set_option maxHeartbeats 4000000 in
set_option maxRecDepth 100000 in
theorem c_ownerOf (l : Launch) (D : va_G) (T : Nat → ClassId) {h : Nat} (hh : h < 12) : KR l D T yX3_ownerOf cX3_ownerOf 1 (some .int) 0 [.int (nI h)] [] (fun r => r = nI (own h)) := by
  refine KR.of (by decide +kernel) (Nat.le_of_ble_eq_true rfl) (fun p e s m below meth c F hr hlk hW ls hl => ?_)
  have hx := F.1
  have hb := F.2.1
  have hl : lv_has ls 1 [(0, .int (nI h))] := hl
  refine lv_iload_n hx hb dX3_ownerOf_0 rfl (lv_at hl 0 rfl) ?_
  refine lv_bipush (v := nI 6) hx hb dX3_ownerOf_1 (by decide) ?_
  refine lv_icmp_ge (tgt := 10) hx hb dX3_ownerOf_3 (by decide) (fun h3 => ?_) (fun h3 => ?_)
  · have h4 : 6 ≤ h := (nI_leI (by decide) (by omega)).mp h3
    refine lv_iconst (v := nI 1) hx hb dX3_ownerOf_10 (by decide) ?_
    exact retR F hr hlk rfl (by rw [show own h = 1 by unfold own; omega]) dX3_ownerOf_11
  · have h4 : h < 6 := Nat.not_le.mp (fun q => h3 ((nI_leI (by decide) (by omega)).mpr q))
    refine lv_iconst (v := nI 0) hx hb dX3_ownerOf_6 (by decide) ?_
    refine lv_goto (tgt := 11) hx hb dX3_ownerOf_7 (by decide) ?_
    exact retR F hr hlk rfl (by rw [show own h = 0 by unfold own; omega]) dX3_ownerOf_11
set_option maxHeartbeats 4000000 in
set_option maxRecDepth 100000 in
theorem c_houseBehind (l : Launch) (D : va_G) (T : Nat → ClassId) {h : Nat} (hh : h < 12) : KR l D T yX3_houseBehind cX3_houseBehind 1 (some .int) 0 [.int (nI h)] [] (fun r => r = nI ((h + 1) % 12)) := by
  refine KR.of (by decide +kernel) (Nat.le_of_ble_eq_true rfl) (fun p e s m below meth c F hr hlk hW ls hl => ?_)
  have hx := F.1
  have hb := F.2.1
  have hl : lv_has ls 1 [(0, .int (nI h))] := hl
  refine lv_iload_n hx hb dX3_houseBehind_0 rfl (lv_at hl 0 rfl) ?_
  refine lv_bipush (v := nI 11) hx hb dX3_houseBehind_1 (by decide) ?_
  refine lv_icmp_ne (tgt := 10) hx hb dX3_houseBehind_3 (by decide) (fun h3 => ?_) (fun h3 => ?_)
  · have h4 : h ≠ 11 := fun q => h3 (by rw [q])
    refine lv_iload_n hx hb dX3_houseBehind_10 rfl (lv_at hl 0 rfl) ?_
    refine lv_iconst (v := nI 1) hx hb dX3_houseBehind_11 (by decide) ?_
    refine iaddE (z := nI (h + 1)) hx hb dX3_houseBehind_12 (nI_add _ _) ?_
    exact retR F hr hlk rfl (by rw [Nat.mod_eq_of_lt (show h + 1 < 12 by omega)]) dX3_houseBehind_13
  · have h4 : h = 11 := (nI_eq (by omega) (by decide)).mp h3
    refine lv_iconst (v := nI 0) hx hb dX3_houseBehind_6 (by decide) ?_
    refine lv_goto (tgt := 13) hx hb dX3_houseBehind_7 (by decide) ?_
    exact retR F hr hlk rfl (by rw [h4]) dX3_houseBehind_13
set_option maxHeartbeats 4000000 in
set_option maxRecDepth 100000 in
theorem c_isHostile (l : Launch) (D : va_G) (T : Nat → ClassId) (q0 q1 q2 q3 q4 : Nat) (pl ov mv : Int32) (fv E : Nat → Int32) {h : Nat} (hh : h < 12) : KR l D T yX3_isHostile cX3_isHostile 3 (some .boolean) 0 [.ref q0, .int (nI h), .ref q4] [(q0, .inr (3, [.ref q1, .ref q2, .ref q3, .int pl, .int ov, .int mv])), (q2, .inl (T 0, 12, .inl fv)), (q4, .inl (T 0, 4, .inl E))] (fun r => r = if E 1 ≤ fv h then 1 else 0) := by
  refine KR.of (by decide +kernel) (Nat.le_of_ble_eq_true rfl) (fun p e s m below meth c F hr hlk hW ls hl => ?_)
  have hx := F.1
  have hb := F.2.1
  have hl : lv_has ls 3 [(0, .ref q0), (1, .int (nI h)), (2, .ref q4)] := hl
  refine lv_aload_n hx hb dX3_isHostile_0 rfl (lv_at hl 0 rfl) ?_
  refine gf42 F hW 0 rfl rfl dX3_isHostile_1 ?_
  refine lv_iload_n hx hb dX3_isHostile_4 rfl (lv_at hl 1 rfl) ?_
  refine ald F hW 1 rfl (x := fv h) h rfl (by omega) (by decide) rfl dX3_isHostile_5 ?_
  refine lv_aload_n hx hb dX3_isHostile_6 rfl (lv_at hl 2 rfl) ?_
  refine lv_iconst (v := nI 1) hx hb dX3_isHostile_7 (by decide) ?_
  refine ald F hW 2 rfl (x := E 1) 1 rfl (by omega) (by decide) rfl dX3_isHostile_8 ?_
  refine lv_icmp_lt (tgt := 16) hx hb dX3_isHostile_9 (by decide) (fun h9 => ?_) (fun h9 => ?_)
  · refine lv_iconst (v := nI 0) hx hb dX3_isHostile_16 (by decide) ?_
    exact retR F hr hlk rfl (by rw [if_neg (Int32.not_le.mpr h9)]; rfl) dX3_isHostile_17
  · refine lv_iconst (v := nI 1) hx hb dX3_isHostile_12 (by decide) ?_
    refine lv_goto (tgt := 17) hx hb dX3_isHostile_13 (by decide) ?_
    exact retR F hr hlk rfl (by rw [if_pos (Int32.not_lt.mp h9)]; rfl) dX3_isHostile_17
set_option maxHeartbeats 4000000 in
set_option maxRecDepth 100000 in
theorem c_canMoveFrom (l : Launch) (D : va_G) (T : Nat → ClassId) (q0 q1 q2 q3 : Nat) (pl ov mv : Int32) (sd : Nat → Int32) {h : Nat} (hh : h < 12) : KR l D T yX3_canMoveFrom cX3_canMoveFrom 2 (some .boolean) 1 [.ref q0, .int (nI h)] [(q0, .inr (3, [.ref q1, .ref q2, .ref q3, .int pl, .int ov, .int mv])), (q1, .inl (T 0, 12, .inl sd))] (fun r => r = if ov = 0 ∧ nI (own h) = pl ∧ 0 < sd h then 1 else 0) := by
  refine KR.of (by decide +kernel) (Nat.le_of_ble_eq_true rfl) (fun p e s m below meth c F hr hlk hW ls hl => ?_)
  have hx := F.1
  have hb := F.2.1
  have hl : lv_has ls 2 [(0, .ref q0), (1, .int (nI h))] := hl
  refine lv_aload_n hx hb dX3_canMoveFrom_0 rfl (lv_at hl 0 rfl) ?_
  refine gf50 F hW 0 rfl rfl dX3_canMoveFrom_1 ?_
  refine lv_if_ne (tgt := 31) hx hb dX3_canMoveFrom_4 (by decide) (fun h4 => ?_) (fun h4 => ?_)
  · refine lv_iconst (v := nI 0) hx hb dX3_canMoveFrom_31 (by decide) ?_
    exact retR F hr hlk rfl (by rw [if_neg (fun z => h4 z.1)]; rfl) dX3_canMoveFrom_32
  · refine lv_iload_n hx hb dX3_canMoveFrom_7 rfl (lv_at hl 1 rfl) ?_
    refine cRS (As := [.int (nI h)]) (rest := []) F hW hl cs341 (c_ownerOf l D T (h := h) (by omega)) [] rfl rfl rfl rfl (Nat.le_of_ble_eq_true rfl) ⟨Nat.le_of_ble_eq_true rfl, Nat.le_of_ble_eq_true rfl⟩ ⟨Nat.zero_le _, Nat.zero_le _⟩ dX3_canMoveFrom_8 (fun r8 hr8 => ?_)
    subst hr8
    refine lv_aload_n hx hb dX3_canMoveFrom_11 rfl (lv_at hl 0 rfl) ?_
    refine gf46 F hW 0 rfl rfl dX3_canMoveFrom_12 ?_
    refine lv_icmp_ne (tgt := 31) hx hb dX3_canMoveFrom_15 (by decide) (fun h15 => ?_) (fun h15 => ?_)
    · refine lv_iconst (v := nI 0) hx hb dX3_canMoveFrom_31 (by decide) ?_
      exact retR F hr hlk rfl (by rw [if_neg (fun z => h15 z.2.1)]; rfl) dX3_canMoveFrom_32
    · refine lv_aload_n hx hb dX3_canMoveFrom_18 rfl (lv_at hl 0 rfl) ?_
      refine gf40 F hW 0 rfl rfl dX3_canMoveFrom_19 ?_
      refine lv_iload_n hx hb dX3_canMoveFrom_22 rfl (lv_at hl 1 rfl) ?_
      refine ald F hW 1 rfl (x := sd h) h rfl (by omega) (by decide) rfl dX3_canMoveFrom_23 ?_
      refine lv_if_le (tgt := 31) hx hb dX3_canMoveFrom_24 (by decide) (fun h24 => ?_) (fun h24 => ?_)
      · refine lv_iconst (v := nI 0) hx hb dX3_canMoveFrom_31 (by decide) ?_
        exact retR F hr hlk rfl (by rw [if_neg (fun z => Int32.not_lt.mpr h24 z.2.2)]; rfl) dX3_canMoveFrom_32
      · refine lv_iconst (v := nI 1) hx hb dX3_canMoveFrom_27 (by decide) ?_
        refine lv_goto (tgt := 32) hx hb dX3_canMoveFrom_28 (by decide) ?_
        exact retR F hr hlk rfl (by rw [if_pos ⟨h4, h15, Int32.not_le.mp h24⟩]; rfl) dX3_canMoveFrom_32
set_option maxHeartbeats 4000000 in
set_option maxRecDepth 100000 in
theorem c_seedsInHousesOf (l : Launch) (D : va_G) (T : Nat → ClassId) (q0 q1 q2 q3 : Nat) (pl ov mv : Int32) (sd : Nat → Int32) {o : Nat} (ho : o < 2) : KR l D T yX3_seedsInHousesOf cX3_seedsInHousesOf 4 (some .int) 0 [.ref q0, .int (nI o)] [(q0, .inr (3, [.ref q1, .ref q2, .ref q3, .int pl, .int ov, .int mv])), (q1, .inl (T 0, 12, .inl sd))] (fun r => r = sm 0 sd (6 * o) 6) := by
  refine KR.of (by decide +kernel) (Nat.le_of_ble_eq_true rfl) (fun p e s m below meth c F hr hlk hW ls hl => ?_)
  have hx := F.1
  have hb := F.2.1
  have hl : lv_has ls 4 [(0, .ref q0), (1, .int (nI o))] := hl
  refine lv_iconst (v := 0) hx hb dX3_seedsInHousesOf_0 (by decide) ?_
  refine lv_istore_n (lv' := [(2, .int 0), (0, .ref q0), (1, .int (nI o))]) hx hb dX3_seedsInHousesOf_1 rfl hl (by decide) rfl (fun ls hl => ?_)
  refine lv_iload_n hx hb dX3_seedsInHousesOf_2 rfl (lv_at hl 2 rfl) ?_
  refine lv_bipush (v := nI 6) hx hb dX3_seedsInHousesOf_3 (by decide) ?_
  refine imulE (z := nI (6 * o)) hx hb dX3_seedsInHousesOf_5 (by rw [pk_mul, Nat.mul_comm]) ?_
  refine lv_istore_n (lv' := [(3, .int (nI (6 * o))), (2, .int 0), (0, .ref q0), (1, .int (nI o))]) hx hb dX3_seedsInHousesOf_6 rfl hl (by decide) rfl (fun ls hl => ?_)
  refine W.loop (fun n H2 locs2 ls2 => H2 = s.heap ∧ locs2 = [] ∧ ∃ k, k ≤ 6 ∧ n = 6 - k ∧ lv_has ls2 4 [(0, .ref q0), (1, .int (nI o)), (2, .int (sm 0 sd (6 * o) k)), (3, .int (nI (6 * o + k)))]) ?_ 6 ⟨rfl, rfl, 0, by omega, rfl, lv_sub hl [2, 3, 1, 0] rfl⟩
  rintro n H2 locs2 ls ⟨rfl, rfl, k, hk, rfl, hl⟩ ih
  refine lv_iload_n hx hb dX3_seedsInHousesOf_7 rfl (lv_at hl 3 rfl) ?_
  refine lv_iload_n hx hb dX3_seedsInHousesOf_8 rfl (lv_at hl 1 rfl) ?_
  refine lv_iconst (v := nI 1) hx hb dX3_seedsInHousesOf_9 (by decide) ?_
  refine iaddE (z := nI (o + 1)) hx hb dX3_seedsInHousesOf_10 (nI_add _ _) ?_
  refine lv_bipush (v := nI 6) hx hb dX3_seedsInHousesOf_11 (by decide) ?_
  refine imulE (z := nI ((o + 1) * 6)) hx hb dX3_seedsInHousesOf_13 (pk_mul _ _) ?_
  refine lv_icmp_ge (tgt := 32) hx hb dX3_seedsInHousesOf_14 (by decide) (fun h14 => ?_) (fun h14 => ?_)
  · have h5 : k = 6 := by have := (nI_leI (by omega) (by omega)).mp h14; omega
    subst h5
    refine lv_iload_n hx hb dX3_seedsInHousesOf_32 rfl (lv_at hl 2 rfl) ?_
    exact retR F hr hlk rfl rfl dX3_seedsInHousesOf_33
  · have h5 : k < 6 := by have := n_nle h14 (by omega) (by omega); omega
    refine lv_iload_n hx hb dX3_seedsInHousesOf_17 rfl (lv_at hl 2 rfl) ?_
    refine lv_aload_n hx hb dX3_seedsInHousesOf_18 rfl (lv_at hl 0 rfl) ?_
    refine gf40 F hW 0 rfl rfl dX3_seedsInHousesOf_19 ?_
    refine lv_iload_n hx hb dX3_seedsInHousesOf_22 rfl (lv_at hl 3 rfl) ?_
    refine ald F hW 1 rfl (x := sd (6 * o + k)) (6 * o + k) rfl (by omega) (by decide) rfl dX3_seedsInHousesOf_23 ?_
    refine iaddE (z := sm 0 sd (6 * o) (k + 1)) hx hb dX3_seedsInHousesOf_24 rfl ?_
    refine lv_istore_n (lv' := [(2, .int (sm 0 sd (6 * o) (k + 1))), (0, .ref q0), (1, .int (nI o)), (3, .int (nI (6 * o + k)))]) hx hb dX3_seedsInHousesOf_25 rfl hl (by decide) rfl (fun ls hl => ?_)
    refine lv_iinc (v := nI (6 * o + (k + 1))) (lv' := [(3, .int (nI (6 * o + (k + 1)))), (2, .int (sm 0 sd (6 * o) (k + 1))), (0, .ref q0), (1, .int (nI o))]) hx hb dX3_seedsInHousesOf_26 hl (k := 3) rfl (nI_add _ _) (by decide) rfl (fun ls hl => ?_)
    refine lv_goto (tgt := 7) hx hb dX3_seedsInHousesOf_29 (by decide) ?_
    exact ih (6 - (k + 1)) _ _ _ (by omega) ⟨rfl, rfl, k + 1, by omega, rfl, lv_sub hl [2, 3, 1, 0] rfl⟩
set_option maxHeartbeats 4000000 in
set_option maxRecDepth 100000 in
theorem c_allSeeds (l : Launch) (D : va_G) (T : Nat → ClassId) (q0 q1 q2 q3 : Nat) (pl ov mv : Int32) (sd so : Nat → Int32) : KR l D T yX3_allSeeds cX3_allSeeds 1 (some .int) 1 [.ref q0] [(q0, .inr (3, [.ref q1, .ref q2, .ref q3, .int pl, .int ov, .int mv])), (q1, .inl (T 0, 12, .inl sd)), (q3, .inl (T 0, 2, .inl so))] (fun r => r = sm 0 sd 0 6 + sm 0 sd 6 6 + so 0 + so 1) := by
  refine KR.of (by decide +kernel) (Nat.le_of_ble_eq_true rfl) (fun p e s m below meth c F hr hlk hW ls hl => ?_)
  have hx := F.1
  have hb := F.2.1
  have hl : lv_has ls 1 [(0, .ref q0)] := hl
  refine lv_aload_n hx hb dX3_allSeeds_0 rfl (lv_at hl 0 rfl) ?_
  refine lv_iconst (v := nI 0) hx hb dX3_allSeeds_1 (by decide) ?_
  refine cRV (As := [.int (nI 0)]) (rest := []) F hW hl cs227 (c_seedsInHousesOf l D T q0 q1 q2 q3 pl ov mv sd (o := 0) (by omega)) [0, 1] rfl rfl 0 3 rfl rfl rfl rfl rfl (Nat.le_of_ble_eq_true rfl) ⟨Nat.le_of_ble_eq_true rfl, Nat.le_of_ble_eq_true rfl⟩ ⟨Nat.zero_le _, Nat.zero_le _⟩ dX3_allSeeds_2 (fun r2 hr2 => ?_)
  subst hr2
  refine lv_aload_n hx hb dX3_allSeeds_5 rfl (lv_at hl 0 rfl) ?_
  refine lv_iconst (v := nI 1) hx hb dX3_allSeeds_6 (by decide) ?_
  refine cRV (As := [.int (nI 1)]) (rest := [.int (sm 0 sd (6 * 0) 6)]) F hW hl cs227 (c_seedsInHousesOf l D T q0 q1 q2 q3 pl ov mv sd (o := 1) (by omega)) [0, 1] rfl rfl 0 3 rfl rfl rfl rfl rfl (Nat.le_of_ble_eq_true rfl) ⟨Nat.le_of_ble_eq_true rfl, Nat.le_of_ble_eq_true rfl⟩ ⟨Nat.zero_le _, Nat.zero_le _⟩ dX3_allSeeds_7 (fun r7 hr7 => ?_)
  subst hr7
  refine iaddE (z := (sm 0 sd (6 * 0) 6) + (sm 0 sd (6 * 1) 6)) hx hb dX3_allSeeds_10 rfl ?_
  refine lv_aload_n hx hb dX3_allSeeds_11 rfl (lv_at hl 0 rfl) ?_
  refine gf44 F hW 0 rfl rfl dX3_allSeeds_12 ?_
  refine lv_iconst (v := nI 0) hx hb dX3_allSeeds_15 (by decide) ?_
  refine ald F hW 2 rfl (x := so 0) 0 rfl (by omega) (by decide) rfl dX3_allSeeds_16 ?_
  refine iaddE (z := ((sm 0 sd (6 * 0) 6) + (sm 0 sd (6 * 1) 6)) + (so 0)) hx hb dX3_allSeeds_17 rfl ?_
  refine lv_aload_n hx hb dX3_allSeeds_18 rfl (lv_at hl 0 rfl) ?_
  refine gf44 F hW 0 rfl rfl dX3_allSeeds_19 ?_
  refine lv_iconst (v := nI 1) hx hb dX3_allSeeds_22 (by decide) ?_
  refine ald F hW 2 rfl (x := so 1) 1 rfl (by omega) (by decide) rfl dX3_allSeeds_23 ?_
  refine iaddE (z := (((sm 0 sd (6 * 0) 6) + (sm 0 sd (6 * 1) 6)) + (so 0)) + (so 1)) hx hb dX3_allSeeds_24 rfl ?_
  exact retR F hr hlk rfl rfl dX3_allSeeds_25
set_option maxHeartbeats 4000000 in
set_option maxRecDepth 100000 in
theorem c_winner (l : Launch) (D : va_G) (T : Nat → ClassId) (q0 q1 q2 q3 : Nat) (pl ov mv : Int32) (so : Nat → Int32) : KR l D T yX3_winner cX3_winner 1 (some .int) 0 [.ref q0] [(q0, .inr (3, [.ref q1, .ref q2, .ref q3, .int pl, .int ov, .int mv])), (q3, .inl (T 0, 2, .inl so))] (fun r => r = if so 0 = so 1 then 2 else if so 1 < so 0 then 0 else 1) := by
  refine KR.of (by decide +kernel) (Nat.le_of_ble_eq_true rfl) (fun p e s m below meth c F hr hlk hW ls hl => ?_)
  have hx := F.1
  have hb := F.2.1
  have hl : lv_has ls 1 [(0, .ref q0)] := hl
  refine lv_aload_n hx hb dX3_winner_0 rfl (lv_at hl 0 rfl) ?_
  refine gf44 F hW 0 rfl rfl dX3_winner_1 ?_
  refine lv_iconst (v := nI 0) hx hb dX3_winner_4 (by decide) ?_
  refine ald F hW 1 rfl (x := so 0) 0 rfl (by omega) (by decide) rfl dX3_winner_5 ?_
  refine lv_aload_n hx hb dX3_winner_6 rfl (lv_at hl 0 rfl) ?_
  refine gf44 F hW 0 rfl rfl dX3_winner_7 ?_
  refine lv_iconst (v := nI 1) hx hb dX3_winner_10 (by decide) ?_
  refine ald F hW 1 rfl (x := so 1) 1 rfl (by omega) (by decide) rfl dX3_winner_11 ?_
  refine lv_icmp_ne (tgt := 17) hx hb dX3_winner_12 (by decide) (fun h12 => ?_) (fun h12 => ?_)
  · refine lv_aload_n hx hb dX3_winner_17 rfl (lv_at hl 0 rfl) ?_
    refine gf44 F hW 0 rfl rfl dX3_winner_18 ?_
    refine lv_iconst (v := nI 0) hx hb dX3_winner_21 (by decide) ?_
    refine ald F hW 1 rfl (x := so 0) 0 rfl (by omega) (by decide) rfl dX3_winner_22 ?_
    refine lv_aload_n hx hb dX3_winner_23 rfl (lv_at hl 0 rfl) ?_
    refine gf44 F hW 0 rfl rfl dX3_winner_24 ?_
    refine lv_iconst (v := nI 1) hx hb dX3_winner_27 (by decide) ?_
    refine ald F hW 1 rfl (x := so 1) 1 rfl (by omega) (by decide) rfl dX3_winner_28 ?_
    refine lv_icmp_le (tgt := 36) hx hb dX3_winner_29 (by decide) (fun h29 => ?_) (fun h29 => ?_)
    · refine lv_iconst (v := nI 1) hx hb dX3_winner_36 (by decide) ?_
      exact retR F hr hlk rfl (by rw [if_neg h12, if_neg (Int32.not_lt.mpr h29)]; rfl) dX3_winner_37
    · refine lv_iconst (v := nI 0) hx hb dX3_winner_32 (by decide) ?_
      refine lv_goto (tgt := 37) hx hb dX3_winner_33 (by decide) ?_
      exact retR F hr hlk rfl (by rw [if_neg h12, if_pos (Int32.not_le.mp h29)]; rfl) dX3_winner_37
  · refine lv_iconst (v := nI 2) hx hb dX3_winner_15 (by decide) ?_
    exact retR F hr hlk rfl (by rw [if_pos h12]; rfl) dX3_winner_16
set_option maxHeartbeats 4000000 in
set_option maxRecDepth 100000 in
theorem c_lead (l : Launch) (D : va_G) (T : Nat → ClassId) (q0 q1 q2 q3 : Nat) {k : Nat} (hk : k < 2) (ov mv : Int32) (so : Nat → Int32) : KR l D T yX3_lead cX3_lead 1 (some .int) 0 [.ref q0] [(q0, .inr (3, [.ref q1, .ref q2, .ref q3, .int (nI k), .int ov, .int mv])), (q3, .inl (T 0, 2, .inl so))] (fun r => r = so k - so (1 - k)) := by
  refine KR.of (by decide +kernel) (Nat.le_of_ble_eq_true rfl) (fun p e s m below meth c F hr hlk hW ls hl => ?_)
  have hx := F.1
  have hb := F.2.1
  have hl : lv_has ls 1 [(0, .ref q0)] := hl
  refine lv_aload_n hx hb dX3_lead_0 rfl (lv_at hl 0 rfl) ?_
  refine gf44 F hW 0 rfl rfl dX3_lead_1 ?_
  refine lv_aload_n hx hb dX3_lead_4 rfl (lv_at hl 0 rfl) ?_
  refine gf46 F hW 0 rfl rfl dX3_lead_5 ?_
  refine ald F hW 1 rfl (x := so k) k rfl (by omega) (by decide) rfl dX3_lead_8 ?_
  refine lv_aload_n hx hb dX3_lead_9 rfl (lv_at hl 0 rfl) ?_
  refine gf44 F hW 0 rfl rfl dX3_lead_10 ?_
  refine lv_iconst (v := nI 1) hx hb dX3_lead_13 (by decide) ?_
  refine lv_aload_n hx hb dX3_lead_14 rfl (lv_at hl 0 rfl) ?_
  refine gf46 F hW 0 rfl rfl dX3_lead_15 ?_
  refine isubE (z := nI (1 - k)) hx hb dX3_lead_18 (pk_sub (by omega)) ?_
  refine ald F hW 1 rfl (x := so (1 - k)) (1 - k) rfl (by omega) (by decide) rfl dX3_lead_19 ?_
  refine isubE (z := (so k) - (so (1 - k))) hx hb dX3_lead_20 rfl ?_
  exact retR F hr hlk rfl rfl dX3_lead_21
def hosN (fv E : Nat → Int32) : Nat → Int32
  | 0 => 0
  | k + 1 => hosN fv E k + (if E 1 ≤ fv k then 1 else 0)
set_option maxHeartbeats 4000000 in
set_option maxRecDepth 100000 in
theorem c_hostileHouses (l : Launch) (D : va_G) (T : Nat → ClassId) (q0 q1 q2 q3 q4 : Nat) (pl ov mv : Int32) (fv E : Nat → Int32) : KR l D T yX3_hostileHouses cX3_hostileHouses 4 (some .int) 1 [.ref q0, .ref q4] [(q0, .inr (3, [.ref q1, .ref q2, .ref q3, .int pl, .int ov, .int mv])), (q2, .inl (T 0, 12, .inl fv)), (q4, .inl (T 0, 4, .inl E))] (fun r => r = hosN fv E 12) := by
  refine KR.of (by decide +kernel) (Nat.le_of_ble_eq_true rfl) (fun p e s m below meth c F hr hlk hW ls hl => ?_)
  have hx := F.1
  have hb := F.2.1
  have hl : lv_has ls 4 [(0, .ref q0), (1, .ref q4)] := hl
  refine lv_iconst (v := 0) hx hb dX3_hostileHouses_0 (by decide) ?_
  refine lv_istore_n (lv' := [(2, .int 0), (0, .ref q0), (1, .ref q4)]) hx hb dX3_hostileHouses_1 rfl hl (by decide) rfl (fun ls hl => ?_)
  refine lv_iconst (v := nI 0) hx hb dX3_hostileHouses_2 (by decide) ?_
  refine lv_istore_n (lv' := [(3, .int (nI 0)), (2, .int 0), (0, .ref q0), (1, .ref q4)]) hx hb dX3_hostileHouses_3 rfl hl (by decide) rfl (fun ls hl => ?_)
  refine W.loop (fun n H2 locs2 ls2 => H2 = s.heap ∧ locs2 = [] ∧ ∃ k, k ≤ 12 ∧ n = 12 - k ∧ lv_has ls2 4 [(0, .ref q0), (1, .ref q4), (2, .int (hosN fv E k)), (3, .int (nI k))]) ?_ 12 ⟨rfl, rfl, 0, by omega, rfl, lv_sub hl [2, 3, 1, 0] rfl⟩
  rintro n H2 locs2 ls ⟨rfl, rfl, k, hk, rfl, hl⟩ ih
  refine lv_iload_n hx hb dX3_hostileHouses_4 rfl (lv_at hl 3 rfl) ?_
  refine lv_bipush (v := nI 12) hx hb dX3_hostileHouses_5 (by decide) ?_
  refine lv_icmp_ge (tgt := 33) hx hb dX3_hostileHouses_7 (by decide) (fun h7 => ?_) (fun h7 => ?_)
  · have h5 : k = 12 := by have := (nI_leI (by omega) (by omega)).mp h7; omega
    subst h5
    refine lv_iload_n hx hb dX3_hostileHouses_33 rfl (lv_at hl 2 rfl) ?_
    exact retR F hr hlk rfl rfl dX3_hostileHouses_34
  · have h5 : k < 12 := by have := n_nle h7 (by omega) (by omega); omega
    refine lv_iload_n hx hb dX3_hostileHouses_10 rfl (lv_at hl 2 rfl) ?_
    refine lv_aload_n hx hb dX3_hostileHouses_11 rfl (lv_at hl 0 rfl) ?_
    refine lv_iload_n hx hb dX3_hostileHouses_12 rfl (lv_at hl 3 rfl) ?_
    refine lv_aload_n hx hb dX3_hostileHouses_13 rfl (lv_at hl 1 rfl) ?_
    refine cRV (As := [.int (nI k), .ref q4]) (rest := [.int (hosN fv E k)]) F hW hl cs235 (c_isHostile l D T q0 q1 q2 q3 q4 pl ov mv fv E (h := k) (by omega)) [0, 1, 2] rfl rfl 0 3 rfl rfl rfl rfl rfl (Nat.le_of_ble_eq_true rfl) ⟨Nat.le_of_ble_eq_true rfl, Nat.le_of_ble_eq_true rfl⟩ ⟨Nat.zero_le _, Nat.zero_le _⟩ dX3_hostileHouses_14 (fun r14 hr14 => ?_)
    subst hr14
    refine lv_if_eq (tgt := 24) hx hb dX3_hostileHouses_17 (by decide) (fun h17 => ?_) (fun h17 => ?_)
    · refine lv_iconst (v := 0) hx hb dX3_hostileHouses_24 (by decide) ?_
      refine iaddE (z := hosN fv E (k + 1)) hx hb dX3_hostileHouses_25 (by rw [hosN, if_neg (bz.mp h17)]) ?_
      refine lv_istore_n (lv' := [(2, .int (hosN fv E (k + 1))), (0, .ref q0), (1, .ref q4), (3, .int (nI k))]) hx hb dX3_hostileHouses_26 rfl hl (by decide) rfl (fun ls hl => ?_)
      refine lv_iinc (v := nI (k + 1)) (lv' := [(3, .int (nI (k + 1))), (2, .int (hosN fv E (k + 1))), (0, .ref q0), (1, .ref q4)]) hx hb dX3_hostileHouses_27 hl (k := 3) rfl (nI_add _ _) (by decide) rfl (fun ls hl => ?_)
      refine lv_goto (tgt := 4) hx hb dX3_hostileHouses_30 (by decide) ?_
      exact ih (12 - (k + 1)) _ _ _ (by omega) ⟨rfl, rfl, k + 1, by omega, rfl, lv_sub hl [2, 3, 1, 0] rfl⟩
    · refine lv_iconst (v := 1) hx hb dX3_hostileHouses_20 (by decide) ?_
      refine lv_goto (tgt := 25) hx hb dX3_hostileHouses_21 (by decide) ?_
      refine iaddE (z := hosN fv E (k + 1)) hx hb dX3_hostileHouses_25 (by rw [hosN, if_pos (Decidable.not_not.mp (fun q => h17 (bz.mpr q)))]) ?_
      refine lv_istore_n (lv' := [(2, .int (hosN fv E (k + 1))), (0, .ref q0), (1, .ref q4), (3, .int (nI k))]) hx hb dX3_hostileHouses_26 rfl hl (by decide) rfl (fun ls hl => ?_)
      refine lv_iinc (v := nI (k + 1)) (lv' := [(3, .int (nI (k + 1))), (2, .int (hosN fv E (k + 1))), (0, .ref q0), (1, .ref q4)]) hx hb dX3_hostileHouses_27 hl (k := 3) rfl (nI_add _ _) (by decide) rfl (fun ls hl => ?_)
      refine lv_goto (tgt := 4) hx hb dX3_hostileHouses_30 (by decide) ?_
      exact ih (12 - (k + 1)) _ _ _ (by omega) ⟨rfl, rfl, k + 1, by omega, rfl, lv_sub hl [2, 3, 1, 0] rfl⟩
abbrev decC (mv : Int32) (sd so : Nat → Int32) : Prop := sm 0 sd 0 6 + sm 0 sd 6 6 = 0 ∨ 300 ≤ mv ∨ sm 0 sd 0 6 + sm 0 sd 6 6 + so 0 + so 1 < 2 * so 0 ∨ sm 0 sd 0 6 + sm 0 sd 6 6 + so 0 + so 1 < 2 * so 1
set_option maxHeartbeats 4000000 in
set_option maxRecDepth 100000 in
theorem c_isDecided (l : Launch) (D : va_G) (T : Nat → ClassId) (q0 q1 q2 q3 : Nat) (pl ov mv : Int32) (sd so : Nat → Int32) : KR l D T yX3_isDecided cX3_isDecided 3 (some .boolean) 1 [.ref q0] [(q0, .inr (3, [.ref q1, .ref q2, .ref q3, .int pl, .int ov, .int mv])), (q1, .inl (T 0, 12, .inl sd)), (q3, .inl (T 0, 2, .inl so))] (fun r => r = if decC mv sd so then 1 else 0) := by
  refine KR.of (by decide +kernel) (Nat.le_of_ble_eq_true rfl) (fun p e s m below meth c F hr hlk hW ls hl => ?_)
  have hx := F.1
  have hb := F.2.1
  have hl : lv_has ls 3 [(0, .ref q0)] := hl
  refine lv_aload_n hx hb dX3_isDecided_0 rfl (lv_at hl 0 rfl) ?_
  refine lv_iconst (v := nI 0) hx hb dX3_isDecided_1 (by decide) ?_
  refine cRV (As := [.int (nI 0)]) (rest := []) F hW hl cs227 (c_seedsInHousesOf l D T q0 q1 q2 q3 pl ov mv sd (o := 0) (by omega)) [0, 1] rfl rfl 0 3 rfl rfl rfl rfl rfl (Nat.le_of_ble_eq_true rfl) ⟨Nat.le_of_ble_eq_true rfl, Nat.le_of_ble_eq_true rfl⟩ ⟨Nat.zero_le _, Nat.zero_le _⟩ dX3_isDecided_2 (fun r2 hr2 => ?_)
  subst hr2
  refine lv_aload_n hx hb dX3_isDecided_5 rfl (lv_at hl 0 rfl) ?_
  refine lv_iconst (v := nI 1) hx hb dX3_isDecided_6 (by decide) ?_
  refine cRV (As := [.int (nI 1)]) (rest := [.int (sm 0 sd (6 * 0) 6)]) F hW hl cs227 (c_seedsInHousesOf l D T q0 q1 q2 q3 pl ov mv sd (o := 1) (by omega)) [0, 1] rfl rfl 0 3 rfl rfl rfl rfl rfl (Nat.le_of_ble_eq_true rfl) ⟨Nat.le_of_ble_eq_true rfl, Nat.le_of_ble_eq_true rfl⟩ ⟨Nat.zero_le _, Nat.zero_le _⟩ dX3_isDecided_7 (fun r7 hr7 => ?_)
  subst hr7
  refine iaddE (z := (sm 0 sd (6 * 0) 6) + (sm 0 sd (6 * 1) 6)) hx hb dX3_isDecided_10 rfl ?_
  refine lv_istore_n (lv' := [(1, .int ((sm 0 sd (6 * 0) 6) + (sm 0 sd (6 * 1) 6))), (0, .ref q0)]) hx hb dX3_isDecided_11 rfl hl (by decide) rfl (fun ls hl => ?_)
  refine lv_iload_n hx hb dX3_isDecided_12 rfl (lv_at hl 0 rfl) ?_
  refine lv_aload_n hx hb dX3_isDecided_13 rfl (lv_at hl 1 rfl) ?_
  refine gf44 F hW 0 rfl rfl dX3_isDecided_14 ?_
  refine lv_iconst (v := nI 0) hx hb dX3_isDecided_17 (by decide) ?_
  refine ald F hW 2 rfl (x := so 0) 0 rfl (by omega) (by decide) rfl dX3_isDecided_18 ?_
  refine iaddE (z := ((sm 0 sd (6 * 0) 6) + (sm 0 sd (6 * 1) 6)) + (so 0)) hx hb dX3_isDecided_19 rfl ?_
  refine lv_aload_n hx hb dX3_isDecided_20 rfl (lv_at hl 1 rfl) ?_
  refine gf44 F hW 0 rfl rfl dX3_isDecided_21 ?_
  refine lv_iconst (v := nI 1) hx hb dX3_isDecided_24 (by decide) ?_
  refine ald F hW 2 rfl (x := so 1) 1 rfl (by omega) (by decide) rfl dX3_isDecided_25 ?_
  refine iaddE (z := (((sm 0 sd (6 * 0) 6) + (sm 0 sd (6 * 1) 6)) + (so 0)) + (so 1)) hx hb dX3_isDecided_26 rfl ?_
  refine lv_istore_n (lv' := [(2, .int ((((sm 0 sd (6 * 0) 6) + (sm 0 sd (6 * 1) 6)) + (so 0)) + (so 1))), (1, .int ((sm 0 sd (6 * 0) 6) + (sm 0 sd (6 * 1) 6))), (0, .ref q0)]) hx hb dX3_isDecided_27 rfl hl (by decide) rfl (fun ls hl => ?_)
  refine lv_iload_n hx hb dX3_isDecided_28 rfl (lv_at hl 1 rfl) ?_
  refine lv_if_eq (tgt := 66) hx hb dX3_isDecided_29 (by decide) (fun h29 => ?_) (fun h29 => ?_)
  · refine lv_iconst (v := nI 1) hx hb dX3_isDecided_66 (by decide) ?_
    refine lv_goto (tgt := 71) hx hb dX3_isDecided_67 (by decide) ?_
    exact retR F hr hlk rfl (if_pos (show decC mv sd so from Or.inl h29)).symm dX3_isDecided_71
  · refine lv_aload_n hx hb dX3_isDecided_32 rfl (lv_at hl 2 rfl) ?_
    refine gf52 F hW 0 rfl rfl dX3_isDecided_33 ?_
    refine lv_sipush (v := nI 300) hx hb dX3_isDecided_36 (by decide) ?_
    refine lv_icmp_ge (tgt := 66) hx hb dX3_isDecided_39 (by decide) (fun h39 => ?_) (fun h39 => ?_)
    · refine lv_iconst (v := nI 1) hx hb dX3_isDecided_66 (by decide) ?_
      refine lv_goto (tgt := 71) hx hb dX3_isDecided_67 (by decide) ?_
      exact retR F hr hlk rfl (if_pos (show decC mv sd so from Or.inr (Or.inl h39))).symm dX3_isDecided_71
    · refine lv_iconst (v := nI 2) hx hb dX3_isDecided_42 (by decide) ?_
      refine lv_aload_n hx hb dX3_isDecided_43 rfl (lv_at hl 2 rfl) ?_
      refine gf44 F hW 0 rfl rfl dX3_isDecided_44 ?_
      refine lv_iconst (v := nI 0) hx hb dX3_isDecided_47 (by decide) ?_
      refine ald F hW 2 rfl (x := so 0) 0 rfl (by omega) (by decide) rfl dX3_isDecided_48 ?_
      refine imulE (z := (nI 2) * (so 0)) hx hb dX3_isDecided_49 rfl ?_
      refine lv_iload_n hx hb dX3_isDecided_50 rfl (lv_at hl 0 rfl) ?_
      refine lv_icmp_gt (tgt := 66) hx hb dX3_isDecided_51 (by decide) (fun h51 => ?_) (fun h51 => ?_)
      · refine lv_iconst (v := nI 1) hx hb dX3_isDecided_66 (by decide) ?_
        refine lv_goto (tgt := 71) hx hb dX3_isDecided_67 (by decide) ?_
        exact retR F hr hlk rfl (if_pos (show decC mv sd so from Or.inr (Or.inr (Or.inl h51)))).symm dX3_isDecided_71
      · refine lv_iconst (v := nI 2) hx hb dX3_isDecided_54 (by decide) ?_
        refine lv_aload_n hx hb dX3_isDecided_55 rfl (lv_at hl 2 rfl) ?_
        refine gf44 F hW 0 rfl rfl dX3_isDecided_56 ?_
        refine lv_iconst (v := nI 1) hx hb dX3_isDecided_59 (by decide) ?_
        refine ald F hW 2 rfl (x := so 1) 1 rfl (by omega) (by decide) rfl dX3_isDecided_60 ?_
        refine imulE (z := (nI 2) * (so 1)) hx hb dX3_isDecided_61 rfl ?_
        refine lv_iload_n hx hb dX3_isDecided_62 rfl (lv_at hl 0 rfl) ?_
        refine lv_icmp_le (tgt := 70) hx hb dX3_isDecided_63 (by decide) (fun h63 => ?_) (fun h63 => ?_)
        · refine lv_iconst (v := nI 0) hx hb dX3_isDecided_70 (by decide) ?_
          exact retR F hr hlk rfl (by rw [if_neg (fun q => q.elim h29 (fun q => q.elim h39 (fun q => q.elim h51 (Int32.not_lt.mpr h63))))]; rfl) dX3_isDecided_71
        · refine lv_iconst (v := nI 1) hx hb dX3_isDecided_66 (by decide) ?_
          refine lv_goto (tgt := 71) hx hb dX3_isDecided_67 (by decide) ?_
          exact retR F hr hlk rfl (if_pos (show decC mv sd so from Or.inr (Or.inr (Or.inr (Int32.not_le.mp h63))))).symm dX3_isDecided_71
