-- the reference: its small helpers
abbrev rng (a b : Int) (x : Int32) : Prop := a ≤ x.toInt ∧ x.toInt ≤ b
theorem in_if {a b : Int64} {la lb : Int} (x : Int32) (ha : a.toInt = la) (hb : b.toInt = lb) : (if a ≤ x.toInt64 ∧ x.toInt64 ≤ b then (1 : Int32) else 0) = if rng la lb x then 1 else 0 := by
  have e : (a ≤ x.toInt64 ∧ x.toInt64 ≤ b) ↔ rng la lb x := by
    rw [Int64.le_iff_toInt_le, Int64.le_iff_toInt_le, Int32.toInt_toInt64, ha, hb]
  by_cases h : rng la lb x
  · rw [if_pos h, if_pos (e.mpr h)]
  · rw [if_neg h, if_neg (fun q => h (e.mp q))]
abbrev isSet (t v : Int32) : Prop := ((t = 0 ∨ t = 1) ∧ rng 1 9 v) ∨ (t = 2 ∧ rng 0 20 v) ∨ (t = 3 ∧ rng 0 3 v)
theorem put_g (g : Nat → Int32) (j : Nat) : g j = put g 0 g j := put_id (fun j _ => by rw [Nat.zero_add]) j
def empM (g : Nat → Int32) : Nat → Int32 := fun j => if 34 ≤ j ∧ j < 40 then g j else 0
def empk (g : Nat → Int32) (k : Nat) : Nat → Int32 := fun j => if j < k ∧ ¬ (34 ≤ j ∧ j < 40) then 0 else g j
theorem empk_0 (g : Nat → Int32) (j : Nat) : g j = empk g 0 j := (if_neg (by omega)).symm
theorem empk_s {g : Nat → Int32} {k : Nat} (h : ¬ (34 ≤ k ∧ k < 40)) (j : Nat) : upd (empk g k) k 0 j = empk g (k + 1) j := by
  unfold empk
  by_cases q : j = k
  · rw [q, u_s, if_pos (by omega)]
  · rw [u_n q]
    by_cases q2 : j < k ∧ ¬ (34 ≤ j ∧ j < 40)
    · rw [if_pos q2, if_pos (by omega)]
    · rw [if_neg q2, if_neg (by omega)]
theorem empk_34 (g : Nat → Int32) (j : Nat) : empk g 34 j = empk g 40 j := by
  unfold empk
  by_cases q : j < 34 ∧ ¬ (34 ≤ j ∧ j < 40)
  · rw [if_pos q, if_pos (by omega)]
  · rw [if_neg q, if_neg (by omega)]
theorem empk_340 (g : Nat → Int32) {j : Nat} (hj : j < 340) : empk g 340 j = empM g j := by
  unfold empk empM
  by_cases q : 34 ≤ j ∧ j < 40
  · rw [if_neg (by omega), if_pos q]
  · rw [if_pos (by omega), if_neg q]
def anewM (g : Nat → Int32) : Nat → Int32 := fun j => if j < 12 then g 34 else empM g j
def anewk (g : Nat → Int32) (k : Nat) : Nat → Int32 := fun j => if j < k then g 34 else empM g j
theorem anewk_0 (g : Nat → Int32) (j : Nat) : empM g j = anewk g 0 j := (if_neg (by omega)).symm
theorem anewk_s {g : Nat → Int32} {k : Nat} (j : Nat) : upd (anewk g k) k (g 34) j = anewk g (k + 1) j := by
  unfold anewk
  by_cases q : j = k
  · rw [q, u_s, if_pos (by omega)]
  · rw [u_n q]
    by_cases q2 : j < k
    · rw [if_pos q2, if_pos (by omega)]
    · rw [if_neg q2, if_neg (by omega)]
theorem anewk_34 {g : Nat → Int32} {k : Nat} (hk : k ≤ 12) : anewk g k 34 = g 34 := by
  unfold anewk
  rw [if_neg (by omega)]
  rfl
def mkM (g : Nat → Int32) (mk h : Nat) : Nat → Int32 := put (upd g (40 + mk) (nI h)) 0 (mvM g h)
abbrev winM (g : Nat → Int32) : Int32 := if g 27 = 0 then -6 else if g 25 < g 24 then 0 else if g 24 < g 25 then 1 else 2
def hosM (g : Nat → Int32) : Nat → Int32
  | 0 => 0
  | k + 1 => hosM g k + if g 35 ≤ g (12 + k) then 1 else 0
def recH (H g : Nat → Int32) (n : Nat) : Nat → Int32 := fun j => if n = 6 then (if j < 1700 then H (j + 340) else g (j - 1700)) else if 340 * n ≤ j ∧ j < 340 * n + 340 then g (j - 340 * n) else H j
def recN (n : Nat) : Nat := if n = 6 then 6 else n + 1
def shk (H : Nat → Int32) (k : Nat) : Nat → Int32 := fun j => if j < k then H (j + 340) else H j
theorem shk_0 (H : Nat → Int32) (j : Nat) : H j = shk H 0 j := (if_neg (by omega)).symm
theorem shk_s {H : Nat → Int32} {k : Nat} (j : Nat) : upd (shk H k) k (H (k + 340)) j = shk H (k + 1) j := by
  unfold shk
  by_cases q : j = k
  · rw [q, u_s, if_pos (by omega)]
  · rw [u_n q]
    by_cases q2 : j < k
    · rw [if_pos q2, if_pos (by omega)]
    · rw [if_neg q2, if_neg (by omega)]
def lay (H : Nat → Int32) (b : Nat) (g : Nat → Int32) (k : Nat) : Nat → Int32 := fun j => if b ≤ j ∧ j < b + k then g (j - b) else H j
theorem lay_0 (H : Nat → Int32) (b : Nat) (g : Nat → Int32) (j : Nat) : H j = lay H b g 0 j := (if_neg (by omega)).symm
theorem lay_s {H g : Nat → Int32} {b k : Nat} (j : Nat) : upd (lay H b g k) (b + k) (g k) j = lay H b g (k + 1) j := by
  unfold lay
  by_cases q : j = b + k
  · rw [q, u_s, if_pos (by omega), show b + k - b = k by omega]
  · rw [u_n q]
    by_cases q2 : b ≤ j ∧ j < b + k
    · rw [if_pos q2, if_pos (by omega)]
    · rw [if_neg q2, if_neg (by omega)]
theorem rec_6 {H g : Nat → Int32} {j : Nat} (hj : j < 2040) : lay (shk H 1700) (340 * 5) g 340 j = recH H g 6 j := by
  unfold lay recH shk
  rw [if_pos rfl]
  by_cases q : j < 1700
  · rw [if_neg (by omega), if_pos q, if_pos q]
  · rw [if_pos (by omega), if_neg q]
theorem rec_n {H g : Nat → Int32} {n : Nat} (hn : ¬ n = 6) (j : Nat) : lay H (340 * n) g 340 j = recH H g n j := by
  unfold recH
  rw [if_neg hn]
  rfl
set_option maxHeartbeats 4000000 in
set_option maxRecDepth 100000 in
theorem r_in (l : Launch) (D : va_G) (T : Nat → ClassId) (v a b : Int64) : KR l D T yX7_in cX7_in 6 (some .boolean) 0 [.long v, .long a, .long b] [] (fun r => r = if a ≤ v ∧ v ≤ b then 1 else 0) := by
  refine KR.of (by decide +kernel) (Nat.le_of_ble_eq_true rfl) (fun p e s m below meth c F hr hlk hW ls hl => ?_)
  have hx := F.1
  have hb := F.2.1
  have hl : lv_has ls 6 [(0, .long v), (2, .long a), (4, .long b)] := hl
  refine lv_lload_n hx hb dX7_in_0 rfl (lv_at hl 0 rfl) ?_
  refine lv_lload_n hx hb dX7_in_1 rfl (lv_at hl 1 rfl) ?_
  refine W.lcmp hx hb dX7_in_2 ?_
  refine lv_if_lt (tgt := 17) hx hb dX7_in_3 (by decide) (fun h3 => ?_) (fun h3 => ?_)
  · have q1 := (lg_cmp_lt _ _).mp h3
    refine lv_iconst (v := 0) hx hb dX7_in_17 (by decide) ?_
    exact retR F hr hlk rfl (if_neg (fun q => Int64.not_le.mpr q1 q.1)).symm dX7_in_18
  · have q1 : a ≤ v := Int64.not_lt.mp (fun q => h3 ((lg_cmp_lt _ _).mpr q))
    refine lv_lload_n hx hb dX7_in_6 rfl (lv_at hl 0 rfl) ?_
    refine lv_lload hx hb dX7_in_7 (lv_at hl 2 rfl) ?_
    refine W.lcmp hx hb dX7_in_9 ?_
    refine lv_if_gt (tgt := 17) hx hb dX7_in_10 (by decide) (fun h10 => ?_) (fun h10 => ?_)
    · have q2 := (lg_cmp_gt _ _).mp h10
      refine lv_iconst (v := 0) hx hb dX7_in_17 (by decide) ?_
      exact retR F hr hlk rfl (if_neg (fun q => Int64.not_le.mpr q2 q.2)).symm dX7_in_18
    · have q2 : v ≤ b := Int64.not_lt.mp (fun q => h10 ((lg_cmp_gt _ _).mpr q))
      refine lv_iconst (v := 1) hx hb dX7_in_13 (by decide) ?_
      refine lv_goto (tgt := 18) hx hb dX7_in_14 (by decide) ?_
      exact retR F hr hlk rfl (if_pos ⟨q1, q2⟩).symm dX7_in_18
set_option maxHeartbeats 4000000 in
set_option maxRecDepth 100000 in
theorem r_isHouse (l : Launch) (D : va_G) (T : Nat → ClassId) (x : Int32) : KR l D T yX7_isHouse cX7_isHouse 1 (some .boolean) 1 [.int x] [] (fun r => r = if rng 0 11 x then 1 else 0) := by
  refine KR.of (by decide +kernel) (Nat.le_of_ble_eq_true rfl) (fun p e s m below meth c F hr hlk hW ls hl => ?_)
  have hx := F.1
  have hb := F.2.1
  have hl : lv_has ls 1 [(0, .int x)] := hl
  refine lv_iload_n hx hb dX7_isHouse_0 rfl (lv_at hl 0 rfl) ?_
  refine lv_i2l (v := x.toInt64) hx hb dX7_isHouse_1 rfl ?_
  refine lv_lconst (v := 0) hx hb dX7_isHouse_2 (by decide) ?_
  refine lv_ldc2 hx hb F.2.2.2.1 (F.2.2.2.2 _ m550) dX7_isHouse_3 ?_
  refine cRS (As := [.long x.toInt64, .long 0, .long 11]) (rest := []) F hW hl cs530 (r_in l D T x.toInt64 0 11) [] rfl rfl rfl rfl (Nat.le_of_ble_eq_true rfl) ⟨Nat.le_of_ble_eq_true rfl, Nat.le_of_ble_eq_true rfl⟩ ⟨Nat.zero_le _, Nat.zero_le _⟩ dX7_isHouse_6 (fun r6 hr6 => ?_)
  subst hr6
  exact retR F hr hlk (by split <;> rfl) (in_if x (by decide) (by decide)) dX7_isHouse_9
set_option maxHeartbeats 4000000 in
set_option maxRecDepth 100000 in
theorem r_isSetting (l : Launch) (D : va_G) (T : Nat → ClassId) (t v : Int32) : KR l D T yX7_isSetting cX7_isSetting 2 (some .boolean) 1 [.int t, .int v] [] (fun r => r = if isSet t v then 1 else 0) := by
  refine KR.of (by decide +kernel) (Nat.le_of_ble_eq_true rfl) (fun p e s m below meth c F hr hlk hW ls hl => ?_)
  have hx := F.1
  have hb := F.2.1
  have hl : lv_has ls 2 [(0, .int t), (1, .int v)] := hl
  refine W.fork (X := Int32) 60 (fun z => [.int z]) (fun z H2 locs2 ls2 => z = (if isSet t v then 1 else 0) ∧ H2 = s.heap ∧ locs2 = []) (fun hJ => ?_) ?_
  · refine lv_iload_n hx hb dX7_isSetting_0 rfl (lv_at hl 0 rfl) ?_
    refine lv_if_eq (tgt := 9) hx hb dX7_isSetting_1 (by decide) (fun h1 => ?_) (fun h1 => ?_)
    · refine lv_iload_n hx hb dX7_isSetting_9 rfl (lv_at hl 1 rfl) ?_
      refine lv_i2l (v := v.toInt64) hx hb dX7_isSetting_10 rfl ?_
      refine lv_lconst (v := 1) hx hb dX7_isSetting_11 (by decide) ?_
      refine lv_ldc2 hx hb F.2.2.2.1 (F.2.2.2.2 _ m529) dX7_isSetting_12 ?_
      refine cRS (As := [.long v.toInt64, .long 1, .long 9]) (rest := []) F hW hl cs530 (r_in l D T v.toInt64 1 9) [] rfl rfl rfl rfl (Nat.le_of_ble_eq_true rfl) ⟨Nat.le_of_ble_eq_true rfl, Nat.le_of_ble_eq_true rfl⟩ ⟨Nat.zero_le _, Nat.zero_le _⟩ dX7_isSetting_15 (fun r15 hr15 => ?_)
      subst hr15
      refine lv_goto (tgt := 60) hx hb dX7_isSetting_18 (by decide) ?_
      rw [in_if (la := 1) (lb := 9) v (by decide) (by decide)]
      refine hJ _ _ _ _ ⟨?_, rfl, rfl⟩
      by_cases q : rng 1 9 v
      · rw [if_pos q, if_pos (show isSet t v from Or.inl ⟨Or.inl h1, q⟩)]
      · rw [if_neg q, if_neg (show ¬ isSet t v from (fun z => by
          rcases z with ⟨z, z2⟩ | ⟨z, z2⟩ | ⟨z, z2⟩
          · exact q z2
          · exact absurd (h1.symm.trans z) (by decide)
          · exact absurd (h1.symm.trans z) (by decide)))]
    · refine lv_iload_n hx hb dX7_isSetting_4 rfl (lv_at hl 0 rfl) ?_
      refine lv_iconst (v := nI 1) hx hb dX7_isSetting_5 (by decide) ?_
      refine lv_icmp_ne (tgt := 21) hx hb dX7_isSetting_6 (by decide) (fun h6 => ?_) (fun h6 => ?_)
      · refine lv_iload_n hx hb dX7_isSetting_21 rfl (lv_at hl 0 rfl) ?_
        refine lv_iconst (v := nI 2) hx hb dX7_isSetting_22 (by decide) ?_
        refine lv_icmp_ne (tgt := 38) hx hb dX7_isSetting_23 (by decide) (fun h23 => ?_) (fun h23 => ?_)
        · refine lv_iload_n hx hb dX7_isSetting_38 rfl (lv_at hl 0 rfl) ?_
          refine lv_iconst (v := nI 3) hx hb dX7_isSetting_39 (by decide) ?_
          refine lv_icmp_ne (tgt := 59) hx hb dX7_isSetting_40 (by decide) (fun h40 => ?_) (fun h40 => ?_)
          · refine lv_iconst (v := 0) hx hb dX7_isSetting_59 (by decide) ?_
            refine hJ 0 _ _ _ ⟨(if_neg (fun z => by
                rcases z with ⟨z, z2⟩ | ⟨z, z2⟩ | ⟨z, z2⟩
                · exact z.elim h1 h6
                · exact h23 z
                · exact h40 z)).symm, rfl, rfl⟩
          · refine lv_iload_n hx hb dX7_isSetting_43 rfl (lv_at hl 1 rfl) ?_
            refine lv_i2l (v := v.toInt64) hx hb dX7_isSetting_44 rfl ?_
            refine lv_lconst (v := 0) hx hb dX7_isSetting_45 (by decide) ?_
            refine lv_ldc2 hx hb F.2.2.2.1 (F.2.2.2.2 _ m534) dX7_isSetting_46 ?_
            refine cRS (As := [.long v.toInt64, .long 0, .long 3]) (rest := []) F hW hl cs530 (r_in l D T v.toInt64 0 3) [] rfl rfl rfl rfl (Nat.le_of_ble_eq_true rfl) ⟨Nat.le_of_ble_eq_true rfl, Nat.le_of_ble_eq_true rfl⟩ ⟨Nat.zero_le _, Nat.zero_le _⟩ dX7_isSetting_49 (fun r49 hr49 => ?_)
            subst hr49
            refine lv_if_eq (tgt := 59) hx hb dX7_isSetting_52 (by decide) (fun h52 => ?_) (fun h52 => ?_)
            · have q : ¬ rng 0 3 v := fun q => absurd ((in_if (a := 0) (b := 3) (la := 0) (lb := 3) v (by decide) (by decide)).trans (if_pos q)) (by rw [h52]; decide)
              refine lv_iconst (v := 0) hx hb dX7_isSetting_59 (by decide) ?_
              refine hJ 0 _ _ _ ⟨(if_neg (fun z => by
                  rcases z with ⟨z, z2⟩ | ⟨z, z2⟩ | ⟨z, z2⟩
                  · exact z.elim h1 h6
                  · exact h23 z
                  · exact q z2)).symm, rfl, rfl⟩
            · have q : rng 0 3 v := Decidable.not_not.mp (fun q => h52 ((in_if (a := 0) (b := 3) (la := 0) (lb := 3) v (by decide) (by decide)).trans (if_neg q)))
              refine lv_iconst (v := 1) hx hb dX7_isSetting_55 (by decide) ?_
              refine lv_goto (tgt := 60) hx hb dX7_isSetting_56 (by decide) ?_
              exact hJ 1 _ _ _ ⟨(if_pos (show isSet t v from Or.inr (Or.inr ⟨h40, q⟩))).symm, rfl, rfl⟩
        · refine lv_iload_n hx hb dX7_isSetting_26 rfl (lv_at hl 1 rfl) ?_
          refine lv_i2l (v := v.toInt64) hx hb dX7_isSetting_27 rfl ?_
          refine lv_lconst (v := 0) hx hb dX7_isSetting_28 (by decide) ?_
          refine lv_ldc2 hx hb F.2.2.2.1 (F.2.2.2.2 _ m533) dX7_isSetting_29 ?_
          refine cRS (As := [.long v.toInt64, .long 0, .long 20]) (rest := []) F hW hl cs530 (r_in l D T v.toInt64 0 20) [] rfl rfl rfl rfl (Nat.le_of_ble_eq_true rfl) ⟨Nat.le_of_ble_eq_true rfl, Nat.le_of_ble_eq_true rfl⟩ ⟨Nat.zero_le _, Nat.zero_le _⟩ dX7_isSetting_32 (fun r32 hr32 => ?_)
          subst hr32
          refine lv_goto (tgt := 60) hx hb dX7_isSetting_35 (by decide) ?_
          rw [in_if (la := 0) (lb := 20) v (by decide) (by decide)]
          refine hJ _ _ _ _ ⟨?_, rfl, rfl⟩
          by_cases q : rng 0 20 v
          · rw [if_pos q, if_pos (show isSet t v from Or.inr (Or.inl ⟨h23, q⟩))]
          · rw [if_neg q, if_neg (show ¬ isSet t v from (fun z => by
              rcases z with ⟨z, z2⟩ | ⟨z, z2⟩ | ⟨z, z2⟩
              · exact z.elim h1 h6
              · exact q z2
              · exact absurd (h23.symm.trans z) (by decide)))]
      · refine lv_iload_n hx hb dX7_isSetting_9 rfl (lv_at hl 1 rfl) ?_
        refine lv_i2l (v := v.toInt64) hx hb dX7_isSetting_10 rfl ?_
        refine lv_lconst (v := 1) hx hb dX7_isSetting_11 (by decide) ?_
        refine lv_ldc2 hx hb F.2.2.2.1 (F.2.2.2.2 _ m529) dX7_isSetting_12 ?_
        refine cRS (As := [.long v.toInt64, .long 1, .long 9]) (rest := []) F hW hl cs530 (r_in l D T v.toInt64 1 9) [] rfl rfl rfl rfl (Nat.le_of_ble_eq_true rfl) ⟨Nat.le_of_ble_eq_true rfl, Nat.le_of_ble_eq_true rfl⟩ ⟨Nat.zero_le _, Nat.zero_le _⟩ dX7_isSetting_15 (fun r15 hr15 => ?_)
        subst hr15
        refine lv_goto (tgt := 60) hx hb dX7_isSetting_18 (by decide) ?_
        rw [in_if (la := 1) (lb := 9) v (by decide) (by decide)]
        refine hJ _ _ _ _ ⟨?_, rfl, rfl⟩
        by_cases q : rng 1 9 v
        · rw [if_pos q, if_pos (show isSet t v from Or.inl ⟨Or.inr h6, q⟩)]
        · rw [if_neg q, if_neg (show ¬ isSet t v from (fun z => by
            rcases z with ⟨z, z2⟩ | ⟨z, z2⟩ | ⟨z, z2⟩
            · exact q z2
            · exact absurd (h6.symm.trans z) (by decide)
            · exact absurd (h6.symm.trans z) (by decide)))]
  · rintro z H2 locs2 ls ⟨hz, rfl, rfl⟩
    exact retR F hr hlk (by rw [hz]; split <;> rfl) hz dX7_isSetting_60
set_option maxHeartbeats 4000000 in
set_option maxRecDepth 100000 in
theorem r_empties (l : Launch) (D : va_G) (T : Nat → ClassId) (z0 z1 z2 z3 z4 z5 z6 z7 z8 z9 z10 : Nat) (nh pn sp : Int32) (g : Nat → Int32) : KV (S := Unit) l D T yX7_empties cX7_empties 2 0 [.ref z0] [(z0, .inr (7, [.ref z1, .ref z2, .int nh, .ref z3, .ref z4, .ref z5, .ref z6, .ref z7, .ref z8, .ref z9, .int pn, .int sp, .ref z10])), (z1, .inl (T 0, 340, .inl g))] (fun _ => True) (fun u => [(z0, .inr (7, [.ref z1, .ref z2, .int nh, .ref z3, .ref z4, .ref z5, .ref z6, .ref z7, .ref z8, .ref z9, .int pn, .int sp, .ref z10])), (z1, .inl (T 0, 340, .inl (empM g)))]) := by
  refine KV.of (by decide +kernel) (Nat.le_of_ble_eq_true rfl) (fun p e s m below meth c A F hr hlk hW ls hl => ?_)
  have hx := F.1
  have hb := F.2.1
  have hl : lv_has ls 2 [(0, .ref z0)] := hl
  refine lv_iconst (v := nI 0) hx hb dX7_empties_0 (by decide) ?_
  refine lv_istore_n (lv' := [(1, .int (nI 0)), (0, .ref z0)]) hx hb dX7_empties_1 rfl hl (by decide) rfl (fun ls hl => ?_)
  have hW := Wd.arr hW 1 (empk g 0) rfl (fun j _ => empk_0 g j) (ws' := [(z0, .inr (7, [.ref z1, .ref z2, .int nh, .ref z3, .ref z4, .ref z5, .ref z6, .ref z7, .ref z8, .ref z9, .int pn, .int sp, .ref z10])), (z1, .inl (T 0, 340, .inl (empk g 0)))]) rfl
  refine W.loop (fun n H2 locs2 ls2 => ∃ k, 0 ≤ k ∧ k ≤ 34 ∧ n = 34 - k ∧ Wd D T A s [(z0, .inr (7, [.ref z1, .ref z2, .int nh, .ref z3, .ref z4, .ref z5, .ref z6, .ref z7, .ref z8, .ref z9, .int pn, .int sp, .ref z10])), (z1, .inl (T 0, 340, .inl (empk g k)))] H2 locs2 ∧ lv_has ls2 2 [(0, .ref z0), (1, .int (nI k))]) ?_ 34 ⟨0, by omega, by omega, rfl, hW, lv_sub hl [1, 0] rfl⟩
  rintro n H locs ls ⟨k, hk0, hk, rfl, hW, hl⟩ ih
  refine lv_iload_n hx hb dX7_empties_2 rfl (lv_at hl 1 rfl) ?_
  refine lv_bipush (v := nI 34) hx hb dX7_empties_3 (by decide) ?_
  refine lv_icmp_ge (tgt := 21) hx hb dX7_empties_5 (by decide) (fun h5 => ?_) (fun h5 => ?_)
  · have h5q : k = 34 := by have := n_le h5 (by omega) (by omega); omega
    subst h5q
    clear ih
    refine lv_bipush (v := nI 40) hx hb dX7_empties_21 (by decide) ?_
    refine lv_istore_n (lv' := [(1, .int (nI 40)), (0, .ref z0)]) hx hb dX7_empties_23 rfl hl (by decide) rfl (fun ls hl => ?_)
    have hW := Wd.arr hW 1 (empk g 40) rfl (fun j _ => empk_34 g j) (ws' := [(z0, .inr (7, [.ref z1, .ref z2, .int nh, .ref z3, .ref z4, .ref z5, .ref z6, .ref z7, .ref z8, .ref z9, .int pn, .int sp, .ref z10])), (z1, .inl (T 0, 340, .inl (empk g 40)))]) rfl
    refine W.loop (fun n H2 locs2 ls2 => ∃ k, 40 ≤ k ∧ k ≤ 340 ∧ n = 340 - k ∧ Wd D T A s [(z0, .inr (7, [.ref z1, .ref z2, .int nh, .ref z3, .ref z4, .ref z5, .ref z6, .ref z7, .ref z8, .ref z9, .int pn, .int sp, .ref z10])), (z1, .inl (T 0, 340, .inl (empk g k)))] H2 locs2 ∧ lv_has ls2 2 [(0, .ref z0), (1, .int (nI k))]) ?_ 300 ⟨40, by omega, by omega, rfl, hW, lv_sub hl [1, 0] rfl⟩
    rintro n H locs ls ⟨k, hk0, hk, rfl, hW, hl⟩ ih
    refine lv_iload_n hx hb dX7_empties_24 rfl (lv_at hl 1 rfl) ?_
    refine lv_sipush (v := nI 340) hx hb dX7_empties_25 (by decide) ?_
    refine lv_icmp_ge (tgt := 44) hx hb dX7_empties_28 (by decide) (fun h28 => ?_) (fun h28 => ?_)
    · have h5q : k = 340 := by have := n_le h28 (by omega) (by omega); omega
      subst h5q
      have hW := Wd.arr hW 1 (empM g) rfl (fun j hj => empk_340 g hj) (ws' := [(z0, .inr (7, [.ref z1, .ref z2, .int nh, .ref z3, .ref z4, .ref z5, .ref z6, .ref z7, .ref z8, .ref z9, .int pn, .int sp, .ref z10])), (z1, .inl (T 0, 340, .inl (empM g)))]) rfl
      exact retV F hr hlk hW () trivial rfl dX7_empties_44
    · have h5q : k < 340 := n_nle h28 (by decide) (by omega)
      refine lv_aload_n hx hb dX7_empties_31 rfl (lv_at hl 0 rfl) ?_
      refine gf482 F hW 0 rfl rfl dX7_empties_32 ?_
      refine lv_iload_n hx hb dX7_empties_35 rfl (lv_at hl 1 rfl) ?_
      refine lv_iconst (v := 0) hx hb dX7_empties_36 (by decide) ?_
      refine ast (ws' := [(z0, .inr (7, [.ref z1, .ref z2, .int nh, .ref z3, .ref z4, .ref z5, .ref z6, .ref z7, .ref z8, .ref z9, .int pn, .int sp, .ref z10])), (z1, .inl (T 0, 340, .inl (empk g (k + 1))))]) F hW 1 (empk g (k + 1)) rfl k rfl (by omega) (by decide) (fun j _ => empk_s (by omega) j) rfl dX7_empties_37 (fun H locs hW => ?_)
      refine lv_iinc (v := nI (k + 1)) (lv' := [(1, .int (nI (k + 1))), (0, .ref z0)]) hx hb dX7_empties_38 hl (k := 1) rfl (nI_add _ _) (by decide) rfl (fun ls hl => ?_)
      refine lv_goto (tgt := 24) hx hb dX7_empties_41 (by decide) ?_
      exact ih (340 - (k + 1)) _ _ _ (by omega) ⟨k + 1, by omega, by omega, rfl, hW, lv_sub hl [1, 0] rfl⟩
  · have h5q : k < 34 := n_nle h5 (by decide) (by omega)
    refine lv_aload_n hx hb dX7_empties_8 rfl (lv_at hl 0 rfl) ?_
    refine gf482 F hW 0 rfl rfl dX7_empties_9 ?_
    refine lv_iload_n hx hb dX7_empties_12 rfl (lv_at hl 1 rfl) ?_
    refine lv_iconst (v := 0) hx hb dX7_empties_13 (by decide) ?_
    refine ast (ws' := [(z0, .inr (7, [.ref z1, .ref z2, .int nh, .ref z3, .ref z4, .ref z5, .ref z6, .ref z7, .ref z8, .ref z9, .int pn, .int sp, .ref z10])), (z1, .inl (T 0, 340, .inl (empk g (k + 1))))]) F hW 1 (empk g (k + 1)) rfl k rfl (by omega) (by decide) (fun j _ => empk_s (by omega) j) rfl dX7_empties_14 (fun H locs hW => ?_)
    refine lv_iinc (v := nI (k + 1)) (lv' := [(1, .int (nI (k + 1))), (0, .ref z0)]) hx hb dX7_empties_15 hl (k := 1) rfl (nI_add _ _) (by decide) rfl (fun ls hl => ?_)
    refine lv_goto (tgt := 2) hx hb dX7_empties_18 (by decide) ?_
    exact ih (34 - (k + 1)) _ _ _ (by omega) ⟨k + 1, by omega, by omega, rfl, hW, lv_sub hl [1, 0] rfl⟩
set_option maxHeartbeats 4000000 in
set_option maxRecDepth 100000 in
theorem r_anew (l : Launch) (D : va_G) (T : Nat → ClassId) (z0 z1 z2 z3 z4 z5 z6 z7 z8 z9 z10 : Nat) (nh pn sp : Int32) (g : Nat → Int32) : KV (S := Unit) l D T yX7_anew cX7_anew 2 1 [.ref z0] [(z0, .inr (7, [.ref z1, .ref z2, .int nh, .ref z3, .ref z4, .ref z5, .ref z6, .ref z7, .ref z8, .ref z9, .int pn, .int sp, .ref z10])), (z1, .inl (T 0, 340, .inl g))] (fun _ => True) (fun u => [(z0, .inr (7, [.ref z1, .ref z2, .int nh, .ref z3, .ref z4, .ref z5, .ref z6, .ref z7, .ref z8, .ref z9, .int pn, .int sp, .ref z10])), (z1, .inl (T 0, 340, .inl (anewM g)))]) := by
  refine KV.of (by decide +kernel) (Nat.le_of_ble_eq_true rfl) (fun p e s m below meth c A F hr hlk hW ls hl => ?_)
  have hx := F.1
  have hb := F.2.1
  have hl : lv_has ls 2 [(0, .ref z0)] := hl
  refine lv_aload_n hx hb dX7_anew_0 rfl (lv_at hl 0 rfl) ?_
  refine cVV (As := []) (rest := []) (wr := []) F hW hl cs478 (r_empties l D T z0 z1 z2 z3 z4 z5 z6 z7 z8 z9 z10 nh pn sp g) [0, 1] [] rfl rfl rfl rfl (by decide) 0 7 rfl rfl rfl rfl rfl (Nat.le_of_ble_eq_true rfl) ⟨Nat.le_of_ble_eq_true rfl, Nat.le_of_ble_eq_true rfl⟩ ⟨Nat.zero_le _, Nat.zero_le _⟩ dX7_anew_1 (fun u1 H locs hr1 hW => ?_)
  have hW := Wd.ord hW (ws' := [(z0, .inr (7, [.ref z1, .ref z2, .int nh, .ref z3, .ref z4, .ref z5, .ref z6, .ref z7, .ref z8, .ref z9, .int pn, .int sp, .ref z10])), (z1, .inl (T 0, 340, .inl (empM g)))]) [0, 1] rfl rfl
  refine lv_iconst (v := nI 0) hx hb dX7_anew_4 (by decide) ?_
  refine lv_istore_n (lv' := [(1, .int (nI 0)), (0, .ref z0)]) hx hb dX7_anew_5 rfl hl (by decide) rfl (fun ls hl => ?_)
  have hW := Wd.arr hW 1 (anewk g 0) rfl (fun j _ => anewk_0 g j) (ws' := [(z0, .inr (7, [.ref z1, .ref z2, .int nh, .ref z3, .ref z4, .ref z5, .ref z6, .ref z7, .ref z8, .ref z9, .int pn, .int sp, .ref z10])), (z1, .inl (T 0, 340, .inl (anewk g 0)))]) rfl
  refine W.loop (fun n H2 locs2 ls2 => ∃ k, 0 ≤ k ∧ k ≤ 12 ∧ n = 12 - k ∧ Wd D T A s [(z0, .inr (7, [.ref z1, .ref z2, .int nh, .ref z3, .ref z4, .ref z5, .ref z6, .ref z7, .ref z8, .ref z9, .int pn, .int sp, .ref z10])), (z1, .inl (T 0, 340, .inl (anewk g k)))] H2 locs2 ∧ lv_has ls2 2 [(0, .ref z0), (1, .int (nI k))]) ?_ 12 ⟨0, by omega, by omega, rfl, hW, lv_sub hl [1, 0] rfl⟩
  rintro n H locs ls ⟨k, hk0, hk, rfl, hW, hl⟩ ih
  refine lv_iload_n hx hb dX7_anew_6 rfl (lv_at hl 1 rfl) ?_
  refine lv_bipush (v := nI 12) hx hb dX7_anew_7 (by decide) ?_
  refine lv_icmp_ge (tgt := 33) hx hb dX7_anew_9 (by decide) (fun h9 => ?_) (fun h9 => ?_)
  · have h5q : k = 12 := by have := n_le h9 (by omega) (by omega); omega
    subst h5q
    exact retV F hr hlk hW () trivial rfl dX7_anew_33
  · have h5q : k < 12 := n_nle h9 (by decide) (by omega)
    refine lv_aload_n hx hb dX7_anew_12 rfl (lv_at hl 0 rfl) ?_
    refine gf482 F hW 0 rfl rfl dX7_anew_13 ?_
    refine lv_iconst (v := nI 0) hx hb dX7_anew_16 (by decide) ?_
    refine lv_iload_n hx hb dX7_anew_17 rfl (lv_at hl 1 rfl) ?_
    refine iaddE (z := nI k) hx hb dX7_anew_18 ((nI_add _ _).trans (by rw [Nat.zero_add])) ?_
    refine lv_aload_n hx hb dX7_anew_19 rfl (lv_at hl 0 rfl) ?_
    refine gf482 F hW 0 rfl rfl dX7_anew_20 ?_
    refine lv_bipush (v := nI 34) hx hb dX7_anew_23 (by decide) ?_
    refine ald F hW 1 rfl (x := g 34) 34 rfl (by omega) (by decide) (anewk_34 hk) dX7_anew_25 ?_
    refine ast (ws' := [(z0, .inr (7, [.ref z1, .ref z2, .int nh, .ref z3, .ref z4, .ref z5, .ref z6, .ref z7, .ref z8, .ref z9, .int pn, .int sp, .ref z10])), (z1, .inl (T 0, 340, .inl (anewk g (k + 1))))]) F hW 1 (anewk g (k + 1)) rfl k rfl (by omega) (by decide) (fun j _ => anewk_s j) rfl dX7_anew_26 (fun H locs hW => ?_)
    refine lv_iinc (v := nI (k + 1)) (lv' := [(1, .int (nI (k + 1))), (0, .ref z0)]) hx hb dX7_anew_27 hl (k := 1) rfl (nI_add _ _) (by decide) rfl (fun ls hl => ?_)
    refine lv_goto (tgt := 6) hx hb dX7_anew_30 (by decide) ?_
    exact ih (12 - (k + 1)) _ _ _ (by omega) ⟨k + 1, by omega, by omega, rfl, hW, lv_sub hl [1, 0] rfl⟩
set_option maxHeartbeats 4000000 in
set_option maxRecDepth 100000 in
theorem r_makes (l : Launch) (D : va_G) (T : Nat → ClassId) (z0 z1 z2 z3 z4 z5 z6 z7 z8 z9 z10 : Nat) (nh pn sp : Int32) (g : Nat → Int32) {h mk pl : Nat} (hh : h < 12) (hpl : pl < 2) (h26 : g 26 = nI pl) (h28 : g 28 = nI mk) (hmk : mk < 300) (h36 : 0 ≤ (g 36).toInt ∧ (g 36).toInt ≤ 20) (h37 : 0 ≤ (g 37).toInt) : KV (S := Unit) l D T yX7_makes cX7_makes 2 3 [.ref z0, .int (nI h)] [(z0, .inr (7, [.ref z1, .ref z2, .int nh, .ref z3, .ref z4, .ref z5, .ref z6, .ref z7, .ref z8, .ref z9, .int pn, .int sp, .ref z10])), (z1, .inl (T 0, 340, .inl g))] (fun _ => True) (fun u => [(z0, .inr (7, [.ref z1, .ref z2, .int nh, .ref z3, .ref z4, .ref z5, .ref z6, .ref z7, .ref z8, .ref z9, .int pn, .int sp, .ref z10])), (z1, .inl (T 0, 340, .inl (mkM g mk h)))]) := by
  refine KV.of (by decide +kernel) (Nat.le_of_ble_eq_true rfl) (fun p e s m below meth c A F hr hlk hW ls hl => ?_)
  have hx := F.1
  have hb := F.2.1
  have hl : lv_has ls 2 [(0, .ref z0), (1, .int (nI h))] := hl
  refine lv_aload_n hx hb dX7_makes_0 rfl (lv_at hl 0 rfl) ?_
  refine gf482 F hW 0 rfl rfl dX7_makes_1 ?_
  refine lv_bipush (v := nI 40) hx hb dX7_makes_4 (by decide) ?_
  refine lv_aload_n hx hb dX7_makes_6 rfl (lv_at hl 0 rfl) ?_
  refine gf482 F hW 0 rfl rfl dX7_makes_7 ?_
  refine lv_bipush (v := nI 28) hx hb dX7_makes_10 (by decide) ?_
  refine ald F hW 1 rfl (x := nI mk) 28 rfl (by omega) (by decide) h28 dX7_makes_12 ?_
  refine iaddE (z := nI (40 + mk)) hx hb dX7_makes_13 (nI_add _ _) ?_
  refine lv_iload_n hx hb dX7_makes_14 rfl (lv_at hl 1 rfl) ?_
  refine ast (ws' := [(z0, .inr (7, [.ref z1, .ref z2, .int nh, .ref z3, .ref z4, .ref z5, .ref z6, .ref z7, .ref z8, .ref z9, .int pn, .int sp, .ref z10])), (z1, .inl (T 0, 340, .inl (upd g (40 + mk) (nI h))))]) F hW 1 (upd g (40 + mk) (nI h)) rfl (40 + mk) rfl (by omega) (by decide) (fun _ _ => rfl) rfl dX7_makes_15 (fun H locs hW => ?_)
  have hW := Wd.arr hW 1 (put (upd g (40 + mk) (nI h)) 0 g) rfl (fun j _ => put_id (fun j _ => by rw [Nat.zero_add]; exact u_n (by omega)) j) (ws' := [(z0, .inr (7, [.ref z1, .ref z2, .int nh, .ref z3, .ref z4, .ref z5, .ref z6, .ref z7, .ref z8, .ref z9, .int pn, .int sp, .ref z10])), (z1, .inl (T 0, 340, .inl (put (upd g (40 + mk) (nI h)) 0 g)))]) rfl
  refine lv_aload_n hx hb dX7_makes_16 rfl (lv_at hl 0 rfl) ?_
  refine gf482 F hW 0 rfl rfl dX7_makes_17 ?_
  refine lv_iconst (v := nI 0) hx hb dX7_makes_20 (by decide) ?_
  refine lv_iload_n hx hb dX7_makes_21 rfl (lv_at hl 1 rfl) ?_
  refine cVS (As := [.ref z1, .int (nI 0), .int (nI h)]) (rest := []) (wr := [(z0, .inr (7, [.ref z1, .ref z2, .int nh, .ref z3, .ref z4, .ref z5, .ref z6, .ref z7, .ref z8, .ref z9, .int pn, .int sp, .ref z10]))]) F hW hl cs561 (r_moves l D T z1 340 0 (by omega) (by omega) (upd g (40 + mk) (nI h)) g (fr := h) (pl := pl) hh hpl h26 h36 h37) [1] [0] rfl rfl rfl rfl (by decide) rfl rfl (Nat.le_of_ble_eq_true rfl) ⟨Nat.le_of_ble_eq_true rfl, Nat.le_of_ble_eq_true rfl⟩ ⟨Nat.zero_le _, Nat.zero_le _⟩ dX7_makes_22 (fun u22 H locs hr22 hW => ?_)
  have hW := Wd.ord hW (ws' := [(z0, .inr (7, [.ref z1, .ref z2, .int nh, .ref z3, .ref z4, .ref z5, .ref z6, .ref z7, .ref z8, .ref z9, .int pn, .int sp, .ref z10])), (z1, .inl (T 0, 340, .inl (put (upd g (40 + mk) (nI h)) 0 (mvM g h))))]) [0, 1] rfl rfl
  exact retV F hr hlk hW () trivial rfl dX7_makes_25
set_option maxHeartbeats 4000000 in
set_option maxRecDepth 100000 in
theorem r_winner (l : Launch) (D : va_G) (T : Nat → ClassId) (z0 z1 z2 z3 z4 z5 z6 z7 z8 z9 z10 : Nat) (nh pn sp : Int32) (g : Nat → Int32) : KR l D T yX7_winner cX7_winner 1 (some .int) 0 [.ref z0] [(z0, .inr (7, [.ref z1, .ref z2, .int nh, .ref z3, .ref z4, .ref z5, .ref z6, .ref z7, .ref z8, .ref z9, .int pn, .int sp, .ref z10])), (z1, .inl (T 0, 340, .inl g))] (fun r => r = winM g) := by
  refine KR.of (by decide +kernel) (Nat.le_of_ble_eq_true rfl) (fun p e s m below meth c F hr hlk hW ls hl => ?_)
  have hx := F.1
  have hb := F.2.1
  have hl : lv_has ls 1 [(0, .ref z0)] := hl
  refine lv_aload_n hx hb dX7_winner_0 rfl (lv_at hl 0 rfl) ?_
  refine gf482 F hW 0 rfl rfl dX7_winner_1 ?_
  refine lv_bipush (v := nI 27) hx hb dX7_winner_4 (by decide) ?_
  refine ald F hW 1 rfl (x := g 27) 27 rfl (by omega) (by decide) rfl dX7_winner_6 ?_
  refine lv_if_ne (tgt := 13) hx hb dX7_winner_7 (by decide) (fun h7 => ?_) (fun h7 => ?_)
  · refine lv_aload_n hx hb dX7_winner_13 rfl (lv_at hl 0 rfl) ?_
    refine gf482 F hW 0 rfl rfl dX7_winner_14 ?_
    refine lv_bipush (v := nI 24) hx hb dX7_winner_17 (by decide) ?_
    refine ald F hW 1 rfl (x := g 24) 24 rfl (by omega) (by decide) rfl dX7_winner_19 ?_
    refine lv_aload_n hx hb dX7_winner_20 rfl (lv_at hl 0 rfl) ?_
    refine gf482 F hW 0 rfl rfl dX7_winner_21 ?_
    refine lv_bipush (v := nI 25) hx hb dX7_winner_24 (by decide) ?_
    refine ald F hW 1 rfl (x := g 25) 25 rfl (by omega) (by decide) rfl dX7_winner_26 ?_
    refine lv_icmp_le (tgt := 34) hx hb dX7_winner_27 (by decide) (fun h27 => ?_) (fun h27 => ?_)
    · refine lv_aload_n hx hb dX7_winner_34 rfl (lv_at hl 0 rfl) ?_
      refine gf482 F hW 0 rfl rfl dX7_winner_35 ?_
      refine lv_bipush (v := nI 24) hx hb dX7_winner_38 (by decide) ?_
      refine ald F hW 1 rfl (x := g 24) 24 rfl (by omega) (by decide) rfl dX7_winner_40 ?_
      refine lv_aload_n hx hb dX7_winner_41 rfl (lv_at hl 0 rfl) ?_
      refine gf482 F hW 0 rfl rfl dX7_winner_42 ?_
      refine lv_bipush (v := nI 25) hx hb dX7_winner_45 (by decide) ?_
      refine ald F hW 1 rfl (x := g 25) 25 rfl (by omega) (by decide) rfl dX7_winner_47 ?_
      refine lv_icmp_ge (tgt := 55) hx hb dX7_winner_48 (by decide) (fun h48 => ?_) (fun h48 => ?_)
      · refine lv_iconst (v := 2) hx hb dX7_winner_55 (by decide) ?_
        exact retR F hr hlk rfl ((if_neg h7).trans ((if_neg (Int32.not_lt.mpr h27)).trans (if_neg (Int32.not_lt.mpr h48)))).symm dX7_winner_56
      · refine lv_iconst (v := 1) hx hb dX7_winner_51 (by decide) ?_
        refine lv_goto (tgt := 56) hx hb dX7_winner_52 (by decide) ?_
        exact retR F hr hlk rfl ((if_neg h7).trans ((if_neg (Int32.not_lt.mpr h27)).trans (if_pos (Int32.not_le.mp h48)))).symm dX7_winner_56
    · refine lv_iconst (v := 0) hx hb dX7_winner_30 (by decide) ?_
      refine lv_goto (tgt := 56) hx hb dX7_winner_31 (by decide) ?_
      exact retR F hr hlk rfl ((if_neg h7).trans (if_pos (Int32.not_le.mp h27))).symm dX7_winner_56
  · refine lv_bipush (v := -6) hx hb dX7_winner_10 (by decide) ?_
    exact retR F hr hlk rfl (if_pos h7).symm dX7_winner_12
set_option maxHeartbeats 4000000 in
set_option maxRecDepth 100000 in
theorem r_hostiles (l : Launch) (D : va_G) (T : Nat → ClassId) (z0 z1 z2 z3 z4 z5 z6 z7 z8 z9 z10 : Nat) (nh pn sp : Int32) (g : Nat → Int32) : KR l D T yX7_hostiles cX7_hostiles 3 (some .int) 1 [.ref z0] [(z0, .inr (7, [.ref z1, .ref z2, .int nh, .ref z3, .ref z4, .ref z5, .ref z6, .ref z7, .ref z8, .ref z9, .int pn, .int sp, .ref z10])), (z1, .inl (T 0, 340, .inl g))] (fun r => r = hosM g 12) := by
  refine KR.of (by decide +kernel) (Nat.le_of_ble_eq_true rfl) (fun p e s m below meth c F hr hlk hW ls hl => ?_)
  have hx := F.1
  have hb := F.2.1
  have hl : lv_has ls 3 [(0, .ref z0)] := hl
  have hW := Wd.arr hW 1 (put g 0 g) rfl (fun j _ => put_g g j) (ws' := [(z0, .inr (7, [.ref z1, .ref z2, .int nh, .ref z3, .ref z4, .ref z5, .ref z6, .ref z7, .ref z8, .ref z9, .int pn, .int sp, .ref z10])), (z1, .inl (T 0, 340, .inl (put g 0 g)))]) rfl
  refine lv_iconst (v := 0) hx hb dX7_hostiles_0 (by decide) ?_
  refine lv_istore_n (lv' := [(1, .int 0), (0, .ref z0)]) hx hb dX7_hostiles_1 rfl hl (by decide) rfl (fun ls hl => ?_)
  refine lv_iconst (v := nI 0) hx hb dX7_hostiles_2 (by decide) ?_
  refine lv_istore_n (lv' := [(2, .int (nI 0)), (1, .int 0), (0, .ref z0)]) hx hb dX7_hostiles_3 rfl hl (by decide) rfl (fun ls hl => ?_)
  refine W.loop (fun n H2 locs2 ls2 => H2 = s.heap ∧ locs2 = [] ∧ ∃ k, k ≤ 12 ∧ n = 12 - k ∧ lv_has ls2 3 [(0, .ref z0), (1, .int (hosM g k)), (2, .int (nI k))]) ?_ 12 ⟨rfl, rfl, 0, by omega, rfl, lv_sub hl [2, 1, 0] rfl⟩
  rintro n H2 locs2 ls ⟨rfl, rfl, k, hk, rfl, hl⟩ ih
  refine lv_iload_n hx hb dX7_hostiles_4 rfl (lv_at hl 2 rfl) ?_
  refine lv_bipush (v := nI 12) hx hb dX7_hostiles_5 (by decide) ?_
  refine lv_icmp_ge (tgt := 36) hx hb dX7_hostiles_7 (by decide) (fun h7 => ?_) (fun h7 => ?_)
  · have h5q : k = 12 := by have := n_le h7 (by omega) (by omega); omega
    subst h5q
    refine lv_iload_n hx hb dX7_hostiles_36 rfl (lv_at hl 1 rfl) ?_
    exact retR F hr hlk rfl rfl dX7_hostiles_37
  · have h5q : k < 12 := n_nle h7 (by decide) (by omega)
    refine lv_iload_n hx hb dX7_hostiles_10 rfl (lv_at hl 1 rfl) ?_
    refine lv_aload_n hx hb dX7_hostiles_11 rfl (lv_at hl 0 rfl) ?_
    refine gf482 F hW 0 rfl rfl dX7_hostiles_12 ?_
    refine lv_iconst (v := nI 0) hx hb dX7_hostiles_15 (by decide) ?_
    refine lv_iload_n hx hb dX7_hostiles_16 rfl (lv_at hl 2 rfl) ?_
    refine cRS (As := [.ref z1, .int (nI 0), .int (nI k)]) (rest := [.int (hosM g k)]) F hW hl cs567 (r_isHostile l D T z1 340 0 (by omega) (by omega) g g (h := k) (by omega)) [1] rfl rfl rfl rfl (Nat.le_of_ble_eq_true rfl) ⟨Nat.le_of_ble_eq_true rfl, Nat.le_of_ble_eq_true rfl⟩ ⟨Nat.zero_le _, Nat.zero_le _⟩ dX7_hostiles_17 (fun r17 hr17 => ?_)
    subst hr17
    refine lv_if_eq (tgt := 27) hx hb dX7_hostiles_20 (by decide) (fun h20 => ?_) (fun h20 => ?_)
    · have e1 : ¬ g 35 ≤ g (12 + k) := bz.mp h20
      refine lv_iconst (v := 0) hx hb dX7_hostiles_27 (by decide) ?_
      refine iaddE (z := hosM g (k + 1)) hx hb dX7_hostiles_28 (by rw [hosM, if_neg e1]) ?_
      refine lv_istore_n (lv' := [(1, .int (hosM g (k + 1))), (0, .ref z0), (2, .int (nI k))]) hx hb dX7_hostiles_29 rfl hl (by decide) rfl (fun ls hl => ?_)
      refine lv_iinc (v := nI (k + 1)) (lv' := [(2, .int (nI (k + 1))), (1, .int (hosM g (k + 1))), (0, .ref z0)]) hx hb dX7_hostiles_30 hl (k := 2) rfl (nI_add _ _) (by decide) rfl (fun ls hl => ?_)
      refine lv_goto (tgt := 4) hx hb dX7_hostiles_33 (by decide) ?_
      exact ih (12 - (k + 1)) _ _ _ (by omega) ⟨rfl, rfl, k + 1, by omega, rfl, lv_sub hl [2, 1, 0] rfl⟩
    · have e1 : g 35 ≤ g (12 + k) := Decidable.not_not.mp (fun q => h20 (bz.mpr q))
      refine lv_iconst (v := 1) hx hb dX7_hostiles_23 (by decide) ?_
      refine lv_goto (tgt := 28) hx hb dX7_hostiles_24 (by decide) ?_
      refine iaddE (z := hosM g (k + 1)) hx hb dX7_hostiles_28 (by rw [hosM, if_pos e1]) ?_
      refine lv_istore_n (lv' := [(1, .int (hosM g (k + 1))), (0, .ref z0), (2, .int (nI k))]) hx hb dX7_hostiles_29 rfl hl (by decide) rfl (fun ls hl => ?_)
      refine lv_iinc (v := nI (k + 1)) (lv' := [(2, .int (nI (k + 1))), (1, .int (hosM g (k + 1))), (0, .ref z0)]) hx hb dX7_hostiles_30 hl (k := 2) rfl (nI_add _ _) (by decide) rfl (fun ls hl => ?_)
      refine lv_goto (tgt := 4) hx hb dX7_hostiles_33 (by decide) ?_
      exact ih (12 - (k + 1)) _ _ _ (by omega) ⟨rfl, rfl, k + 1, by omega, rfl, lv_sub hl [2, 1, 0] rfl⟩
set_option maxHeartbeats 4000000 in
set_option maxRecDepth 100000 in
theorem r_record (l : Launch) (D : va_G) (T : Nat → ClassId) (z0 z1 z2 z3 z4 z5 z6 z7 z8 z9 z10 : Nat) (pn sp : Int32) (g G : Nat → Int32) {n : Nat} (hn : n ≤ 6) : KV (S := Unit) l D T yX7_record cX7_record 2 0 [.ref z0] [(z0, .inr (7, [.ref z1, .ref z2, .int (nI n), .ref z3, .ref z4, .ref z5, .ref z6, .ref z7, .ref z8, .ref z9, .int pn, .int sp, .ref z10])), (z1, .inl (T 0, 340, .inl g)), (z2, .inl (T 0, 2040, .inl G))] (fun _ => True) (fun u => [(z0, .inr (7, [.ref z1, .ref z2, .int (nI (recN n)), .ref z3, .ref z4, .ref z5, .ref z6, .ref z7, .ref z8, .ref z9, .int pn, .int sp, .ref z10])), (z1, .inl (T 0, 340, .inl g)), (z2, .inl (T 0, 2040, .inl (recH G g n)))]) := by
  refine KV.of (by decide +kernel) (Nat.le_of_ble_eq_true rfl) (fun p e s m below meth c A F hr hlk hW ls hl => ?_)
  have hx := F.1
  have hb := F.2.1
  have hl : lv_has ls 2 [(0, .ref z0)] := hl
  refine lv_aload_n hx hb dX7_record_0 rfl (lv_at hl 0 rfl) ?_
  refine gf484 F hW 0 rfl rfl dX7_record_1 ?_
  refine lv_bipush (v := nI 6) hx hb dX7_record_4 (by decide) ?_
  refine W.fork (X := Nat × (Nat → Int32)) 50 (fun _ => []) (fun x H2 locs2 ls2 => x.1 < 6 ∧ recN n = x.1 + 1 ∧ (∀ j, j < 2040 → lay x.2 (340 * x.1) g 340 j = recH G g n j) ∧ Wd D T A s [(z0, .inr (7, [.ref z1, .ref z2, .int (nI x.1), .ref z3, .ref z4, .ref z5, .ref z6, .ref z7, .ref z8, .ref z9, .int pn, .int sp, .ref z10])), (z1, .inl (T 0, 340, .inl g)), (z2, .inl (T 0, 2040, .inl x.2))] H2 locs2 ∧ lv_has ls2 2 [(0, .ref z0)]) (fun hJ => ?_) ?_
  · refine lv_icmp_ne (tgt := 50) hx hb dX7_record_6 (by decide) (fun h6 => ?_) (fun h6 => ?_)
    · have e1 : ¬ n = 6 := n_ne h6
      exact hJ (n, G) _ _ _ ⟨by show n < 6; omega, if_neg e1, fun j _ => rec_n e1 j, hW, lv_sub hl [0] rfl⟩
    · have e1 : n = 6 := n_eq h6 (by omega) (by decide)
      subst e1
      refine lv_iconst (v := nI 0) hx hb dX7_record_9 (by decide) ?_
      refine lv_istore_n (lv' := [(1, .int (nI 0)), (0, .ref z0)]) hx hb dX7_record_10 rfl hl (by decide) rfl (fun ls hl => ?_)
      have hW := Wd.arr hW 2 (shk G 0) rfl (fun j _ => shk_0 G j) (ws' := [(z0, .inr (7, [.ref z1, .ref z2, .int (nI 6), .ref z3, .ref z4, .ref z5, .ref z6, .ref z7, .ref z8, .ref z9, .int pn, .int sp, .ref z10])), (z1, .inl (T 0, 340, .inl g)), (z2, .inl (T 0, 2040, .inl (shk G 0)))]) rfl
      refine W.loop (fun n H2 locs2 ls2 => ∃ k, 0 ≤ k ∧ k ≤ 1700 ∧ n = 1700 - k ∧ Wd D T A s [(z0, .inr (7, [.ref z1, .ref z2, .int (nI 6), .ref z3, .ref z4, .ref z5, .ref z6, .ref z7, .ref z8, .ref z9, .int pn, .int sp, .ref z10])), (z1, .inl (T 0, 340, .inl g)), (z2, .inl (T 0, 2040, .inl (shk G k)))] H2 locs2 ∧ lv_has ls2 2 [(0, .ref z0), (1, .int (nI k))]) ?_ 1700 ⟨0, by omega, by omega, rfl, hW, lv_sub hl [1, 0] rfl⟩
      rintro n H locs ls ⟨k, hk0, hk, rfl, hW, hl⟩ ih
      refine lv_iload_n hx hb dX7_record_11 rfl (lv_at hl 1 rfl) ?_
      refine lv_sipush (v := nI 1700) hx hb dX7_record_12 (by decide) ?_
      refine lv_icmp_ge (tgt := 40) hx hb dX7_record_15 (by decide) (fun h15 => ?_) (fun h15 => ?_)
      · have h5q : k = 1700 := by have := n_le h15 (by omega) (by omega); omega
        subst h5q
        refine lv_aload_n hx hb dX7_record_40 rfl (lv_at hl 0 rfl) ?_
        refine lv_dup hx hb dX7_record_41 rfl ?_
        refine gf484 F hW 0 rfl rfl dX7_record_42 ?_
        refine lv_iconst (v := nI 1) hx hb dX7_record_45 (by decide) ?_
        refine isubE (z := nI 5) hx hb dX7_record_46 (pk_sub (by decide)) ?_
        refine pf484 (ws' := [(z0, .inr (7, [.ref z1, .ref z2, .int (nI 5), .ref z3, .ref z4, .ref z5, .ref z6, .ref z7, .ref z8, .ref z9, .int pn, .int sp, .ref z10])), (z1, .inl (T 0, 340, .inl g)), (z2, .inl (T 0, 2040, .inl (shk G 1700)))]) F hW 0 rfl rfl rfl dX7_record_47 (fun H locs hW => ?_)
        exact hJ (5, shk G 1700) _ _ _ ⟨(by decide : 5 < 6), rfl, fun j hj => rec_6 hj, hW, lv_sub hl [0] rfl⟩
      · have h5q : k < 1700 := n_nle h15 (by decide) (by omega)
        refine lv_aload_n hx hb dX7_record_18 rfl (lv_at hl 0 rfl) ?_
        refine gf483 F hW 0 rfl rfl dX7_record_19 ?_
        refine lv_iload_n hx hb dX7_record_22 rfl (lv_at hl 1 rfl) ?_
        refine lv_aload_n hx hb dX7_record_23 rfl (lv_at hl 0 rfl) ?_
        refine gf483 F hW 0 rfl rfl dX7_record_24 ?_
        refine lv_iload_n hx hb dX7_record_27 rfl (lv_at hl 1 rfl) ?_
        refine lv_sipush (v := nI 340) hx hb dX7_record_28 (by decide) ?_
        refine iaddE (z := nI (k + 340)) hx hb dX7_record_31 (nI_add _ _) ?_
        refine ald F hW 2 rfl (x := G (k + 340)) (k + 340) rfl (by omega) (by decide) (if_neg (by omega)) dX7_record_32 ?_
        refine ast (ws' := [(z0, .inr (7, [.ref z1, .ref z2, .int (nI 6), .ref z3, .ref z4, .ref z5, .ref z6, .ref z7, .ref z8, .ref z9, .int pn, .int sp, .ref z10])), (z1, .inl (T 0, 340, .inl g)), (z2, .inl (T 0, 2040, .inl (shk G (k + 1))))]) F hW 2 (shk G (k + 1)) rfl k rfl (by omega) (by decide) (fun j _ => shk_s j) rfl dX7_record_33 (fun H locs hW => ?_)
        refine lv_iinc (v := nI (k + 1)) (lv' := [(1, .int (nI (k + 1))), (0, .ref z0)]) hx hb dX7_record_34 hl (k := 1) rfl (nI_add _ _) (by decide) rfl (fun ls hl => ?_)
        refine lv_goto (tgt := 11) hx hb dX7_record_37 (by decide) ?_
        exact ih (1700 - (k + 1)) _ _ _ (by omega) ⟨k + 1, by omega, by omega, rfl, hW, lv_sub hl [1, 0] rfl⟩
  · rintro ⟨i, G2⟩ H locs ls ⟨hi, hN, hG, hW, hl⟩
    dsimp only at hi hN hG hW
    refine lv_iconst (v := nI 0) hx hb dX7_record_50 (by decide) ?_
    refine lv_istore_n (lv' := [(1, .int (nI 0)), (0, .ref z0)]) hx hb dX7_record_51 rfl hl (by decide) rfl (fun ls hl => ?_)
    have hW := Wd.arr hW 2 (lay G2 (340 * i) g 0) rfl (fun j _ => lay_0 _ _ _ j) (ws' := [(z0, .inr (7, [.ref z1, .ref z2, .int (nI i), .ref z3, .ref z4, .ref z5, .ref z6, .ref z7, .ref z8, .ref z9, .int pn, .int sp, .ref z10])), (z1, .inl (T 0, 340, .inl g)), (z2, .inl (T 0, 2040, .inl (lay G2 (340 * i) g 0)))]) rfl
    refine W.loop (fun n H2 locs2 ls2 => ∃ k, 0 ≤ k ∧ k ≤ 340 ∧ n = 340 - k ∧ Wd D T A s [(z0, .inr (7, [.ref z1, .ref z2, .int (nI i), .ref z3, .ref z4, .ref z5, .ref z6, .ref z7, .ref z8, .ref z9, .int pn, .int sp, .ref z10])), (z1, .inl (T 0, 340, .inl g)), (z2, .inl (T 0, 2040, .inl (lay G2 (340 * i) g k)))] H2 locs2 ∧ lv_has ls2 2 [(0, .ref z0), (1, .int (nI k))]) ?_ 340 ⟨0, by omega, by omega, rfl, hW, lv_sub hl [1, 0] rfl⟩
    rintro n H locs ls ⟨k, hk0, hk, rfl, hW, hl⟩ ih
    refine lv_iload_n hx hb dX7_record_52 rfl (lv_at hl 1 rfl) ?_
    refine lv_sipush (v := nI 340) hx hb dX7_record_53 (by decide) ?_
    refine lv_icmp_ge (tgt := 86) hx hb dX7_record_56 (by decide) (fun h56 => ?_) (fun h56 => ?_)
    · have h5q : k = 340 := by have := n_le h56 (by omega) (by omega); omega
      subst h5q
      have hW := Wd.arr hW 2 (recH G g n) rfl hG (ws' := [(z0, .inr (7, [.ref z1, .ref z2, .int (nI i), .ref z3, .ref z4, .ref z5, .ref z6, .ref z7, .ref z8, .ref z9, .int pn, .int sp, .ref z10])), (z1, .inl (T 0, 340, .inl g)), (z2, .inl (T 0, 2040, .inl (recH G g n)))]) rfl
      refine lv_aload_n hx hb dX7_record_86 rfl (lv_at hl 0 rfl) ?_
      refine lv_dup hx hb dX7_record_87 rfl ?_
      refine gf484 F hW 0 rfl rfl dX7_record_88 ?_
      refine lv_iconst (v := nI 1) hx hb dX7_record_91 (by decide) ?_
      refine iaddE (z := nI (i + 1)) hx hb dX7_record_92 (nI_add _ _) ?_
      refine pf484 (ws' := [(z0, .inr (7, [.ref z1, .ref z2, .int (nI (i + 1)), .ref z3, .ref z4, .ref z5, .ref z6, .ref z7, .ref z8, .ref z9, .int pn, .int sp, .ref z10])), (z1, .inl (T 0, 340, .inl g)), (z2, .inl (T 0, 2040, .inl (recH G g n)))]) F hW 0 rfl rfl rfl dX7_record_93 (fun H locs hW => ?_)
      exact retV F hr hlk hW () trivial (by rw [hN]) dX7_record_96
    · have h5q : k < 340 := n_nle h56 (by decide) (by omega)
      refine lv_aload_n hx hb dX7_record_59 rfl (lv_at hl 0 rfl) ?_
      refine gf483 F hW 0 rfl rfl dX7_record_60 ?_
      refine lv_sipush (v := nI 340) hx hb dX7_record_63 (by decide) ?_
      refine lv_aload_n hx hb dX7_record_66 rfl (lv_at hl 0 rfl) ?_
      refine gf484 F hW 0 rfl rfl dX7_record_67 ?_
      refine imulE (z := nI (340 * i)) hx hb dX7_record_70 (pk_mul _ _) ?_
      refine lv_iload_n hx hb dX7_record_71 rfl (lv_at hl 1 rfl) ?_
      refine iaddE (z := nI ((340 * i) + k)) hx hb dX7_record_72 (nI_add _ _) ?_
      refine lv_aload_n hx hb dX7_record_73 rfl (lv_at hl 0 rfl) ?_
      refine gf482 F hW 0 rfl rfl dX7_record_74 ?_
      refine lv_iload_n hx hb dX7_record_77 rfl (lv_at hl 1 rfl) ?_
      refine ald F hW 1 rfl (x := g k) k rfl (by omega) (by decide) rfl dX7_record_78 ?_
      refine ast (ws' := [(z0, .inr (7, [.ref z1, .ref z2, .int (nI i), .ref z3, .ref z4, .ref z5, .ref z6, .ref z7, .ref z8, .ref z9, .int pn, .int sp, .ref z10])), (z1, .inl (T 0, 340, .inl g)), (z2, .inl (T 0, 2040, .inl (lay G2 (340 * i) g (k + 1))))]) F hW 2 (lay G2 (340 * i) g (k + 1)) rfl ((340 * i) + k) rfl (by omega) (by decide) (fun j _ => lay_s j) rfl dX7_record_79 (fun H locs hW => ?_)
      refine lv_iinc (v := nI (k + 1)) (lv' := [(1, .int (nI (k + 1))), (0, .ref z0)]) hx hb dX7_record_80 hl (k := 1) rfl (nI_add _ _) (by decide) rfl (fun ls hl => ?_)
      refine lv_goto (tgt := 52) hx hb dX7_record_83 (by decide) ?_
      exact ih (340 - (k + 1)) _ _ _ (by omega) ⟨k + 1, by omega, by omega, rfl, hW, lv_sub hl [1, 0] rfl⟩
