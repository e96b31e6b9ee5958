-- the reference: looking ahead
theorem W.rec {p : Program} {l : Launch} {e : Env} {R : Room} {s : State} {m : MethodId} {args : Array Value} {below : List Frame} {meth : Method} {c : Code} {cells slots : Nat} {Q : State → Prop} {pc : Nat} {st : List Value} {X : Type} (pc2 : Nat) (st2 : List Value) (pre post : Nat → X → Heap → List Loc → Array Slot → Prop)
    (step : ∀ (d : Nat) (x : X) (H2 : Heap) (locs2 : List Loc) (ls2 : Array Slot), pre d x H2 locs2 ls2 → (∀ (H3 : Heap) (locs3 : List Loc) (ls3 : Array Slot), post d x H3 locs3 ls3 → W p l e R s m args below meth c H3 locs3 cells slots Q (F0 m pc2 ls3 st2)) → (∀ (d3 : Nat) (x3 : X) (H3 : Heap) (locs3 : List Loc) (ls3 : Array Slot), d3 < d → pre d3 x3 H3 locs3 ls3 → (∀ (H4 : Heap) (locs4 : List Loc) (ls4 : Array Slot), post d3 x3 H4 locs4 ls4 → W p l e R s m args below meth c H4 locs4 cells slots Q (F0 m pc2 ls4 st2)) → W p l e R s m args below meth c H3 locs3 cells slots Q (F0 m pc ls3 st)) → W p l e R s m args below meth c H2 locs2 cells slots Q (F0 m pc ls2 st))
    (d : Nat) (x : X) {H : Heap} {locs : List Loc} {ls : Array Slot} (h : pre d x H locs ls) (hk : ∀ (H3 : Heap) (locs3 : List Loc) (ls3 : Array Slot), post d x H3 locs3 ls3 → W p l e R s m args below meth c H3 locs3 cells slots Q (F0 m pc2 ls3 st2)) : W p l e R s m args below meth c H locs cells slots Q (F0 m pc ls st) := by
  have key : ∀ (k d : Nat) (x : X) (H2 : Heap) (locs2 : List Loc) (ls2 : Array Slot), d < k → pre d x H2 locs2 ls2 → (∀ (H3 : Heap) (locs3 : List Loc) (ls3 : Array Slot), post d x H3 locs3 ls3 → W p l e R s m args below meth c H3 locs3 cells slots Q (F0 m pc2 ls3 st2)) → W p l e R s m args below meth c H2 locs2 cells slots Q (F0 m pc ls2 st) := by
    intro k
    induction k with
    | zero => exact fun d _ _ _ _ h => absurd h (Nat.not_lt_zero d)
    | succ k ih => exact fun d x H2 locs2 ls2 hd hp hk => step d x H2 locs2 ls2 hp hk (fun d3 x3 H3 locs3 ls3 h3 hp3 hk3 => ih d3 x3 H3 locs3 ls3 (by omega) hp3 hk3)
  exact key (d + 1) d x H locs ls (Nat.lt_succ_self d) h hk
theorem nI_down (n : Nat) : nI (n + 1) + Int32.ofInt (-1) = nI n := by
  rw [← nI_1, Int32.add_assoc, show (1 : Int32) + Int32.ofInt (-1) = 0 by decide, Int32.add_zero]
def putk (f : Nat → Int32) (A : Nat) (P : Nat → Int32) (k : Nat) : Nat → Int32 := fun j => if A ≤ j ∧ j < A + k then P (j - A) else f j
theorem putk_0 (f : Nat → Int32) (A : Nat) (P : Nat → Int32) (j : Nat) : f j = putk f A P 0 j := (if_neg (by omega)).symm
theorem putk_40 (f : Nat → Int32) (A : Nat) (P : Nat → Int32) (j : Nat) : putk f A P 40 j = put f A P j := rfl
theorem putk_s {f P : Nat → Int32} {A k : Nat} (j : Nat) : upd (putk f A P k) (A + k) (P k) j = putk f A P (k + 1) j := by
  unfold putk
  by_cases q : j = A + k
  · rw [q, u_s, if_pos (by omega), show A + k - A = k by omega]
  · rw [u_n q]
    by_cases q2 : A ≤ j ∧ j < A + k
    · rw [if_pos q2, if_pos (by omega)]
    · rw [if_neg q2, if_neg (by omega)]
theorem putk_n {f P : Nat → Int32} {A k j : Nat} (h : ¬ (A ≤ j ∧ j < A + k)) : putk f A P k j = f j := if_neg h
theorem put_n {f P : Nat → Int32} {A j : Nat} (h : ¬ (A ≤ j ∧ j < A + 40)) : put f A P j = f j := if_neg h
theorem put_id {f P : Nat → Int32} {A : Nat} (h : ∀ j, j < 40 → f (A + j) = P j) (j : Nat) : f j = put f A P j := by
  unfold put
  by_cases q : A ≤ j ∧ j < A + 40
  · rw [if_pos q, ← h (j - A) (by omega), show A + (j - A) = j by omega]
  · rw [if_neg q]
def bhM : Nat → (Nat → Int32) → Int32
  | 0, _ => -6
  | d + 1, P => if P 27 = 0 then houM (scanM P (vbM d P) 12) else -6
theorem scan_no {P v : Nat → Int32} {n : Nat} (h : ¬ legM P n) : scanM P v (n + 1) = scanM P v n := by
  rw [scanM]
  cases scanM P v n with
  | none => exact if_neg h
  | some q => exact if_neg (fun z => h z.1)
abbrev betM (q : Option (Nat × Int32)) (x : Int32) (m : Int32) : Prop := houM q = -6 ∨ m < x
theorem scan_b0 {P v : Nat → Int32} : ∀ n, ∀ q, scanM P v n = some q → q.1 < n
  | 0, q, h => by cases h
  | n + 1, q, h => by
    rw [scanM] at h
    cases hs : scanM P v n with
    | none =>
      rw [hs] at h
      dsimp only at h
      by_cases hl : legM P n
      · rw [if_pos hl] at h; cases h; exact Nat.lt_succ_self n
      · rw [if_neg hl] at h; cases h
    | some q2 =>
      rw [hs] at h
      dsimp only at h
      by_cases hl : legM P n ∧ q2.2 < v n
      · rw [if_pos hl] at h; cases h; exact Nat.lt_succ_self n
      · rw [if_neg hl] at h
        have e := Option.some.inj h
        have := scan_b0 n q2 hs
        rw [← e]; omega
theorem hou_some {q : Nat × Int32} (h : q.1 < 12) : ¬ houM (some q) = -6 := by
  obtain ⟨k, x⟩ := q
  show ¬ nI k = -6
  have : k < 12 := h
  intro z
  have := (i_eq _ _).mp z
  rw [nI_toInt (by omega), show (-6 : Int32).toInt = -6 by decide] at this
  omega
theorem bet_y {P v : Nat → Int32} {n : Nat} {m : Int32} (hn : n < 12) (hl : legM P n) (hm : ∀ q, scanM P v n = some q → m = q.2) (hb : betM (scanM P v n) (v n) m) : scanM P v (n + 1) = some (n, v n) := by
  rw [scanM]
  cases hs : scanM P v n with
  | none => exact if_pos hl
  | some q =>
    rw [hs] at hb
    have h1 : q.1 < 12 := by have := scan_b0 n q hs; omega
    refine if_pos ⟨hl, ?_⟩
    rw [← hm q hs]
    exact hb.resolve_left (hou_some h1)
theorem bet_n {P v : Nat → Int32} {n : Nat} {m : Int32} (hm : ∀ q, scanM P v n = some q → m = q.2) (hb : ¬ betM (scanM P v n) (v n) m) : scanM P v (n + 1) = scanM P v n := by
  rw [scanM]
  cases hs : scanM P v n with
  | none => rw [hs] at hb; exact absurd (Or.inl rfl) hb
  | some q =>
    refine if_neg (fun z => hb (Or.inr ?_))
    rw [hm q hs]
    exact z.2
set_option maxHeartbeats 4000000 in
set_option maxRecDepth 100000 in
theorem r_copyT (l : Launch) (D : va_G) (T : Nat → ClassId) (z0 z1 z2 z3 z4 z5 z6 z7 z8 z9 z10 : Nat) (nh pn sp : Int32) (f P : Nat → Int32) (fr to : Nat) (h1 : fr + 40 ≤ to) (h2 : to + 40 ≤ 280) : KV (S := Unit) l D T yX7_copy cX7_copy 5 0 [.ref z0, .ref z5, .int (nI fr), .int (nI to)] [(z0, .inr (7, [.ref z1, .ref z2, .int nh, .ref z3, .ref z4, .ref z5, .ref z6, .ref z7, .ref z8, .ref z9, .int pn, .int sp, .ref z10])), (z5, .inl (T 0, 280, .inl (put f fr P)))] (fun _ => True) (fun u => [(z0, .inr (7, [.ref z1, .ref z2, .int nh, .ref z3, .ref z4, .ref z5, .ref z6, .ref z7, .ref z8, .ref z9, .int pn, .int sp, .ref z10])), (z5, .inl (T 0, 280, .inl (put (put f fr P) to P)))]) := by
  refine KV.of (by decide +kernel) (Nat.le_of_ble_eq_true rfl) (fun p e s m below meth c A F hr hlk hW ls hl => ?_)
  have hx := F.1
  have hb := F.2.1
  have hl : lv_has ls 5 [(0, .ref z0), (1, .ref z5), (2, .int (nI fr)), (3, .int (nI to))] := hl
  refine lv_iconst (v := nI 0) hx hb dX7_copy_0 (by decide) ?_
  refine lv_istore (lv' := [(4, .int (nI 0)), (0, .ref z0), (1, .ref z5), (2, .int (nI fr)), (3, .int (nI to))]) hx hb dX7_copy_1 hl (by decide) rfl (fun ls hl => ?_)
  have hW := Wd.arr hW 1 (putk (put f fr P) to P 0) rfl (fun j _ => putk_0 _ _ _ j) (ws' := [(z0, .inr (7, [.ref z1, .ref z2, .int nh, .ref z3, .ref z4, .ref z5, .ref z6, .ref z7, .ref z8, .ref z9, .int pn, .int sp, .ref z10])), (z5, .inl (T 0, 280, .inl (putk (put f fr P) to P 0)))]) rfl
  refine W.loop (fun n H2 locs2 ls2 => ∃ k, k ≤ 40 ∧ n = 40 - k ∧ Wd D T A s [(z0, .inr (7, [.ref z1, .ref z2, .int nh, .ref z3, .ref z4, .ref z5, .ref z6, .ref z7, .ref z8, .ref z9, .int pn, .int sp, .ref z10])), (z5, .inl (T 0, 280, .inl (putk (put f fr P) to P k)))] H2 locs2 ∧ lv_has ls2 5 [(0, .ref z0), (1, .ref z5), (2, .int (nI fr)), (3, .int (nI to)), (4, .int (nI k))]) ?_ 40 ⟨0, by omega, rfl, hW, lv_sub hl [1, 2, 3, 4, 0] rfl⟩
  rintro n H locs ls ⟨k, hk, rfl, hW, hl⟩ ih
  refine lv_iload hx hb dX7_copy_3 (lv_at hl 4 rfl) ?_
  refine lv_bipush (v := nI 40) hx hb dX7_copy_5 (by decide) ?_
  refine lv_icmp_ge (tgt := 31) hx hb dX7_copy_7 (by decide) (fun h7 => ?_) (fun h7 => ?_)
  · have h5 : k = 40 := by have := n_le h7 (by omega) (by omega); omega
    subst h5
    exact retV F hr hlk hW () trivial rfl dX7_copy_31
  · have h5 : k < 40 := n_nle h7 (by decide) (by omega)
    refine lv_aload_n hx hb dX7_copy_10 rfl (lv_at hl 0 rfl) ?_
    refine gf487 F hW 0 rfl rfl dX7_copy_11 ?_
    refine lv_iload_n hx hb dX7_copy_14 rfl (lv_at hl 3 rfl) ?_
    refine lv_iload hx hb dX7_copy_15 (lv_at hl 4 rfl) ?_
    refine iaddE (z := nI (to + k)) hx hb dX7_copy_17 (nI_add _ _) ?_
    refine lv_aload_n hx hb dX7_copy_18 rfl (lv_at hl 1 rfl) ?_
    refine lv_iload_n hx hb dX7_copy_19 rfl (lv_at hl 2 rfl) ?_
    refine lv_iload hx hb dX7_copy_20 (lv_at hl 4 rfl) ?_
    refine iaddE (z := nI (fr + k)) hx hb dX7_copy_22 (nI_add _ _) ?_
    refine ald F hW 1 rfl (x := P k) (fr + k) rfl (by omega) (by decide) ((putk_n (by omega)).trans (put_r (by omega) rfl)) dX7_copy_23 ?_
    refine ast (ws' := [(z0, .inr (7, [.ref z1, .ref z2, .int nh, .ref z3, .ref z4, .ref z5, .ref z6, .ref z7, .ref z8, .ref z9, .int pn, .int sp, .ref z10])), (z5, .inl (T 0, 280, .inl (putk (put f fr P) to P (k + 1))))]) F hW 1 (putk (put f fr P) to P (k + 1)) rfl (to + k) rfl (by omega) (by decide) (fun j _ => putk_s j) rfl dX7_copy_24 (fun H locs hW => ?_)
    refine lv_iinc (v := nI (k + 1)) (lv' := [(4, .int (nI (k + 1))), (0, .ref z0), (1, .ref z5), (2, .int (nI fr)), (3, .int (nI to))]) hx hb dX7_copy_25 hl (k := 4) rfl (nI_add _ _) (by decide) rfl (fun ls hl => ?_)
    refine lv_goto (tgt := 3) hx hb dX7_copy_28 (by decide) ?_
    exact ih (40 - (k + 1)) _ _ _ (by omega) ⟨k + 1, by omega, rfl, hW, lv_sub hl [1, 2, 3, 4, 0] rfl⟩
set_option maxHeartbeats 4000000 in
set_option maxRecDepth 100000 in
theorem r_copyA (l : Launch) (D : va_G) (T : Nat → ClassId) (z0 z1 z2 z3 z4 z5 z6 z7 z8 z9 z10 : Nat) (nh pn sp : Int32) (t g P : Nat → Int32) : KV (S := Unit) l D T yX7_copy cX7_copy 5 0 [.ref z0, .ref z1, .int (nI 0), .int (nI 0)] [(z0, .inr (7, [.ref z1, .ref z2, .int nh, .ref z3, .ref z4, .ref z5, .ref z6, .ref z7, .ref z8, .ref z9, .int pn, .int sp, .ref z10])), (z1, .inl (T 0, 340, .inl (put g 0 P))), (z5, .inl (T 0, 280, .inl t))] (fun _ => True) (fun u => [(z0, .inr (7, [.ref z1, .ref z2, .int nh, .ref z3, .ref z4, .ref z5, .ref z6, .ref z7, .ref z8, .ref z9, .int pn, .int sp, .ref z10])), (z1, .inl (T 0, 340, .inl (put g 0 P))), (z5, .inl (T 0, 280, .inl (put t 0 P)))]) := by
  refine KV.of (by decide +kernel) (Nat.le_of_ble_eq_true rfl) (fun p e s m below meth c A F hr hlk hW ls hl => ?_)
  have hx := F.1
  have hb := F.2.1
  have hl : lv_has ls 5 [(0, .ref z0), (1, .ref z1), (2, .int (nI 0)), (3, .int (nI 0))] := hl
  refine lv_iconst (v := nI 0) hx hb dX7_copy_0 (by decide) ?_
  refine lv_istore (lv' := [(4, .int (nI 0)), (0, .ref z0), (1, .ref z1), (2, .int (nI 0)), (3, .int (nI 0))]) hx hb dX7_copy_1 hl (by decide) rfl (fun ls hl => ?_)
  have hW := Wd.arr hW 2 (putk t 0 P 0) rfl (fun j _ => putk_0 _ _ _ j) (ws' := [(z0, .inr (7, [.ref z1, .ref z2, .int nh, .ref z3, .ref z4, .ref z5, .ref z6, .ref z7, .ref z8, .ref z9, .int pn, .int sp, .ref z10])), (z1, .inl (T 0, 340, .inl (put g 0 P))), (z5, .inl (T 0, 280, .inl (putk t 0 P 0)))]) rfl
  refine W.loop (fun n H2 locs2 ls2 => ∃ k, k ≤ 40 ∧ n = 40 - k ∧ Wd D T A s [(z0, .inr (7, [.ref z1, .ref z2, .int nh, .ref z3, .ref z4, .ref z5, .ref z6, .ref z7, .ref z8, .ref z9, .int pn, .int sp, .ref z10])), (z1, .inl (T 0, 340, .inl (put g 0 P))), (z5, .inl (T 0, 280, .inl (putk t 0 P k)))] H2 locs2 ∧ lv_has ls2 5 [(0, .ref z0), (1, .ref z1), (2, .int (nI 0)), (3, .int (nI 0)), (4, .int (nI k))]) ?_ 40 ⟨0, by omega, rfl, hW, lv_sub hl [1, 2, 3, 4, 0] rfl⟩
  rintro n H locs ls ⟨k, hk, rfl, hW, hl⟩ ih
  refine lv_iload hx hb dX7_copy_3 (lv_at hl 4 rfl) ?_
  refine lv_bipush (v := nI 40) hx hb dX7_copy_5 (by decide) ?_
  refine lv_icmp_ge (tgt := 31) hx hb dX7_copy_7 (by decide) (fun h7 => ?_) (fun h7 => ?_)
  · have h5 : k = 40 := by have := n_le h7 (by omega) (by omega); omega
    subst h5
    exact retV F hr hlk hW () trivial rfl dX7_copy_31
  · have h5 : k < 40 := n_nle h7 (by decide) (by omega)
    refine lv_aload_n hx hb dX7_copy_10 rfl (lv_at hl 0 rfl) ?_
    refine gf487 F hW 0 rfl rfl dX7_copy_11 ?_
    refine lv_iload_n hx hb dX7_copy_14 rfl (lv_at hl 3 rfl) ?_
    refine lv_iload hx hb dX7_copy_15 (lv_at hl 4 rfl) ?_
    refine iaddE (z := nI (0 + k)) hx hb dX7_copy_17 (nI_add _ _) ?_
    refine lv_aload_n hx hb dX7_copy_18 rfl (lv_at hl 1 rfl) ?_
    refine lv_iload_n hx hb dX7_copy_19 rfl (lv_at hl 2 rfl) ?_
    refine lv_iload hx hb dX7_copy_20 (lv_at hl 4 rfl) ?_
    refine iaddE (z := nI (0 + k)) hx hb dX7_copy_22 (nI_add _ _) ?_
    refine ald F hW 1 rfl (x := P k) (0 + k) rfl (by omega) (by omega) (put_r (by omega) (by omega)) dX7_copy_23 ?_
    refine ast (ws' := [(z0, .inr (7, [.ref z1, .ref z2, .int nh, .ref z3, .ref z4, .ref z5, .ref z6, .ref z7, .ref z8, .ref z9, .int pn, .int sp, .ref z10])), (z1, .inl (T 0, 340, .inl (put g 0 P))), (z5, .inl (T 0, 280, .inl (putk t 0 P (k + 1))))]) F hW 2 (putk t 0 P (k + 1)) rfl (0 + k) rfl (by omega) (by decide) (fun j _ => putk_s j) rfl dX7_copy_24 (fun H locs hW => ?_)
    refine lv_iinc (v := nI (k + 1)) (lv' := [(4, .int (nI (k + 1))), (0, .ref z0), (1, .ref z1), (2, .int (nI 0)), (3, .int (nI 0))]) hx hb dX7_copy_25 hl (k := 4) rfl (nI_add _ _) (by decide) rfl (fun ls hl => ?_)
    refine lv_goto (tgt := 3) hx hb dX7_copy_28 (by decide) ?_
    exact ih (40 - (k + 1)) _ _ _ (by omega) ⟨k + 1, by omega, rfl, hW, lv_sub hl [1, 2, 3, 4, 0] rfl⟩
set_option maxHeartbeats 4000000 in
set_option maxRecDepth 100000 in
theorem r_ahead (l : Launch) (D : va_G) (T : Nat → ClassId) (z0 z1 z2 z3 z4 z5 z6 z7 z8 z9 z10 : Nat) (nh pn sp : Int32) (f P : Nat → Int32) {n pl : Nat} (hn : 40 * n + 40 ≤ 280) (hpl : pl < 2) (h26 : P 26 = nI pl) : KR l D T yX7_ahead cX7_ahead 4 (some .int) 0 [.ref z0, .int (nI n)] [(z0, .inr (7, [.ref z1, .ref z2, .int nh, .ref z3, .ref z4, .ref z5, .ref z6, .ref z7, .ref z8, .ref z9, .int pn, .int sp, .ref z10])), (z5, .inl (T 0, 280, .inl (put f (40 * n) P)))] (fun r => r = leadM P) := by
  refine KR.of (by decide +kernel) (Nat.le_of_ble_eq_true rfl) (fun p e s m below meth c F hr hlk hW ls hl => ?_)
  have hx := F.1
  have hb := F.2.1
  have hl : lv_has ls 4 [(0, .ref z0), (1, .int (nI n))] := hl
  refine lv_bipush (v := nI 40) hx hb dX7_ahead_0 (by decide) ?_
  refine lv_iload_n hx hb dX7_ahead_2 rfl (lv_at hl 1 rfl) ?_
  refine imulE (z := nI (40 * n)) hx hb dX7_ahead_3 (pk_mul _ _) ?_
  refine lv_istore_n (lv' := [(2, .int (nI (40 * n))), (0, .ref z0), (1, .int (nI n))]) hx hb dX7_ahead_4 rfl hl (by decide) rfl (fun ls hl => ?_)
  refine lv_aload_n hx hb dX7_ahead_5 rfl (lv_at hl 1 rfl) ?_
  refine gf487 F hW 0 rfl rfl dX7_ahead_6 ?_
  refine lv_iload_n hx hb dX7_ahead_9 rfl (lv_at hl 0 rfl) ?_
  refine lv_bipush (v := nI 26) hx hb dX7_ahead_10 (by decide) ?_
  refine iaddE (z := nI ((40 * n) + 26)) hx hb dX7_ahead_12 (nI_add _ _) ?_
  refine ald F hW 1 rfl (x := nI pl) ((40 * n) + 26) rfl (by omega) (by omega) ((put_r (k := 26) (by omega) (by omega)).trans h26) dX7_ahead_13 ?_
  refine lv_istore_n (lv' := [(3, .int (nI pl)), (2, .int (nI (40 * n))), (0, .ref z0), (1, .int (nI n))]) hx hb dX7_ahead_14 rfl hl (by decide) rfl (fun ls hl => ?_)
  refine lv_aload_n hx hb dX7_ahead_15 rfl (lv_at hl 2 rfl) ?_
  refine gf487 F hW 0 rfl rfl dX7_ahead_16 ?_
  refine lv_iload_n hx hb dX7_ahead_19 rfl (lv_at hl 1 rfl) ?_
  refine lv_bipush (v := nI 24) hx hb dX7_ahead_20 (by decide) ?_
  refine iaddE (z := nI ((40 * n) + 24)) hx hb dX7_ahead_22 (nI_add _ _) ?_
  refine lv_iload_n hx hb dX7_ahead_23 rfl (lv_at hl 0 rfl) ?_
  refine iaddE (z := nI (((40 * n) + 24) + pl)) hx hb dX7_ahead_24 (nI_add _ _) ?_
  refine ald F hW 1 rfl (x := P (24 + pl)) (((40 * n) + 24) + pl) rfl (by omega) (by omega) (put_r (by omega) (by omega)) dX7_ahead_25 ?_
  refine lv_aload_n hx hb dX7_ahead_26 rfl (lv_at hl 2 rfl) ?_
  refine gf487 F hW 0 rfl rfl dX7_ahead_27 ?_
  refine lv_iload_n hx hb dX7_ahead_30 rfl (lv_at hl 1 rfl) ?_
  refine lv_bipush (v := nI 24) hx hb dX7_ahead_31 (by decide) ?_
  refine iaddE (z := nI ((40 * n) + 24)) hx hb dX7_ahead_33 (nI_add _ _) ?_
  refine lv_iconst (v := nI 1) hx hb dX7_ahead_34 (by decide) ?_
  refine iaddE (z := nI (((40 * n) + 24) + 1)) hx hb dX7_ahead_35 (nI_add _ _) ?_
  refine lv_iload_n hx hb dX7_ahead_36 rfl (lv_at hl 0 rfl) ?_
  refine isubE (z := nI ((((40 * n) + 24) + 1) - pl)) hx hb dX7_ahead_37 (pk_sub (by omega)) ?_
  refine ald F hW 1 rfl (x := P (24 + (1 - pl))) ((((40 * n) + 24) + 1) - pl) rfl (by omega) (by omega) (put_r (by omega) (by omega)) dX7_ahead_38 ?_
  refine isubE (z := (P (24 + pl)) - (P (24 + (1 - pl)))) hx hb dX7_ahead_39 rfl ?_
  exact retR F hr hlk rfl (by unfold leadM; rw [h26, nI_clamp (by omega)]) dX7_ahead_40
set_option maxHeartbeats 4000000 in
set_option maxRecDepth 100000 in
theorem r_worthOf (l : Launch) (D : va_G) (T : Nat → ClassId) (z0 z1 z2 z3 z4 z5 z6 z7 z8 z9 z10 : Nat) (nh pn sp : Int32) (f P tr mo be : Nat → Int32) {dd : Nat} (hdd : dd ≤ 4) {S0 : Int} (hI : Iv S0 P) : KI (S := (Nat → Int32) × (Nat → Int32) × (Nat → Int32) × (Nat → Int32)) l D T yX7_worthOf cX7_worthOf 10 (some .int) 3 [.ref z0, .int (nI 0), .int (nI dd)] [(z0, .inr (7, [.ref z1, .ref z2, .int nh, .ref z3, .ref z4, .ref z5, .ref z6, .ref z7, .ref z8, .ref z9, .int pn, .int sp, .ref z10])), (z5, .inl (T 0, 280, .inl (put f 0 P))), (z6, .inl (T 0, 7, .inl tr)), (z7, .inl (T 0, 7, .inl mo)), (z8, .inl (T 0, 7, .inl be))] (fun r u => r = valM dd P ∧ u.2.2.2 0 = bhM dd P ∧ ∀ j, j < 40 → u.1 j = P j) (fun u => [(z0, .inr (7, [.ref z1, .ref z2, .int nh, .ref z3, .ref z4, .ref z5, .ref z6, .ref z7, .ref z8, .ref z9, .int pn, .int sp, .ref z10])), (z5, .inl (T 0, 280, .inl u.1)), (z6, .inl (T 0, 7, .inl u.2.1)), (z7, .inl (T 0, 7, .inl u.2.2.1)), (z8, .inl (T 0, 7, .inl u.2.2.2))]) := by
  refine KI.of (by decide +kernel) (Nat.le_of_ble_eq_true rfl) (fun p e s m below meth c A F hr hlk hW ls hl => ?_)
  have hx := F.1
  have hb := F.2.1
  have hl : lv_has ls 10 [(0, .ref z0), (1, .int (nI 0)), (2, .int (nI dd))] := hl
  refine lv_iload_n hx hb dX7_worthOf_0 rfl (lv_at hl 1 rfl) ?_
  refine lv_istore_n (lv' := [(3, .int (nI 0)), (0, .ref z0), (1, .int (nI 0)), (2, .int (nI dd))]) hx hb dX7_worthOf_1 rfl hl (by decide) rfl (fun ls hl => ?_)
  refine lv_aload_n hx hb dX7_worthOf_2 rfl (lv_at hl 1 rfl) ?_
  refine gf488 F hW 0 rfl rfl dX7_worthOf_3 ?_
  refine lv_iload_n hx hb dX7_worthOf_6 rfl (lv_at hl 0 rfl) ?_
  refine lv_iconst (v := -1) hx hb dX7_worthOf_7 (by decide) ?_
  refine ast (ws' := [(z0, .inr (7, [.ref z1, .ref z2, .int nh, .ref z3, .ref z4, .ref z5, .ref z6, .ref z7, .ref z8, .ref z9, .int pn, .int sp, .ref z10])), (z5, .inl (T 0, 280, .inl (put f 0 P))), (z6, .inl (T 0, 7, .inl (upd tr 0 (-1)))), (z7, .inl (T 0, 7, .inl mo)), (z8, .inl (T 0, 7, .inl be))]) F hW 2 (upd tr 0 (-1)) rfl 0 rfl (by omega) (by decide) (fun _ _ => rfl) rfl dX7_worthOf_8 (fun H locs hW => ?_)
  refine lv_aload_n hx hb dX7_worthOf_9 rfl (lv_at hl 1 rfl) ?_
  refine gf490 F hW 0 rfl rfl dX7_worthOf_10 ?_
  refine lv_iload_n hx hb dX7_worthOf_13 rfl (lv_at hl 0 rfl) ?_
  refine lv_bipush (v := -6) hx hb dX7_worthOf_14 (by decide) ?_
  refine ast (ws' := [(z0, .inr (7, [.ref z1, .ref z2, .int nh, .ref z3, .ref z4, .ref z5, .ref z6, .ref z7, .ref z8, .ref z9, .int pn, .int sp, .ref z10])), (z5, .inl (T 0, 280, .inl (put f 0 P))), (z6, .inl (T 0, 7, .inl (upd tr 0 (-1)))), (z7, .inl (T 0, 7, .inl mo)), (z8, .inl (T 0, 7, .inl (upd be 0 (-6))))]) F hW 4 (upd be 0 (-6)) rfl 0 rfl (by omega) (by decide) (fun _ _ => rfl) rfl dX7_worthOf_16 (fun H locs hW => ?_)
  refine W.rec (X := Nat × (Nat → Int32) × (Nat → Int32) × (Nat → Int32) × (Nat → Int32) × (Nat → Int32)) 184 [] (fun d x H2 locs2 ls2 => x.1 + d = dd ∧ Iv S0 x.2.1 ∧ (∀ j, j < 40 → x.2.2.1 (40 * x.1 + j) = x.2.1 j) ∧ x.2.2.2.1 x.1 = -1 ∧ x.2.2.2.2.2 x.1 = -6 ∧ Wd D T A s [(z0, .inr (7, [.ref z1, .ref z2, .int nh, .ref z3, .ref z4, .ref z5, .ref z6, .ref z7, .ref z8, .ref z9, .int pn, .int sp, .ref z10])), (z5, .inl (T 0, 280, .inl x.2.2.1)), (z6, .inl (T 0, 7, .inl x.2.2.2.1)), (z7, .inl (T 0, 7, .inl x.2.2.2.2.1)), (z8, .inl (T 0, 7, .inl x.2.2.2.2.2))] H2 locs2 ∧ lv_has ls2 10 [(0, .ref z0), (1, .int (nI 0)), (2, .int (nI dd)), (3, .int (nI x.1))]) (fun d x H2 locs2 ls2 => ∃ t1 tr1 mo1 be1, (∀ j, j < 40 * x.1 + 40 → t1 j = x.2.2.1 j) ∧ (∀ j, j < x.1 → tr1 j = x.2.2.2.1 j ∧ mo1 j = x.2.2.2.2.1 j ∧ be1 j = x.2.2.2.2.2 j) ∧ be1 x.1 = bhM d x.2.1 ∧ Wd D T A s [(z0, .inr (7, [.ref z1, .ref z2, .int nh, .ref z3, .ref z4, .ref z5, .ref z6, .ref z7, .ref z8, .ref z9, .int pn, .int sp, .ref z10])), (z5, .inl (T 0, 280, .inl t1)), (z6, .inl (T 0, 7, .inl tr1)), (z7, .inl (T 0, 7, .inl mo1)), (z8, .inl (T 0, 7, .inl be1))] H2 locs2 ∧ lv_has ls2 10 [(0, .ref z0), (1, .int (nI 0)), (2, .int (nI dd)), (3, .int (nI x.1)), (4, .int (nI (40 * x.1))), (7, .int (valM d x.2.1))]) ?_ dd (0, P, put f 0 P, upd tr 0 (-1), mo, upd be 0 (-6)) ⟨by omega, hI, fun j hj => put_r hj rfl, u_s tr 0 (-1), u_s be 0 (-6), hW, lv_sub hl [1, 2, 3, 0] rfl⟩ ?_
  · clear hl hW
    rintro d ⟨n, P, t, tr, mo, be⟩ H locs ls ⟨hnd, hI, ht, htr, hbe, hW, hl⟩ hK IH
    dsimp only at hnd hI ht htr hbe hW hl hK
    have hI2 := hI
    obtain ⟨hJ, ⟨pl, hpl, h26⟩, h27, -, h36, h37, hleg⟩ := hI2
    refine W.loop (fun nn H2 locs2 ls2 => ∃ (k : Nat) (t1 tr1 mo1 be1 : Nat → Int32), k ≤ 12 ∧ nn = 12 - k ∧ (∀ j, j < 40 * n + 40 → t1 j = t j) ∧ (∀ j, j < n → tr1 j = tr j ∧ mo1 j = mo j ∧ be1 j = be j) ∧ tr1 n + 1 = nI k ∧ be1 n = houM (scanM P (vbM (d - 1) P) k) ∧ (k ≠ 0 → P 27 = 0 ∧ 0 < d) ∧ (∀ q, scanM P (vbM (d - 1) P) k = some q → mo1 n = q.2) ∧ Wd D T A s [(z0, .inr (7, [.ref z1, .ref z2, .int nh, .ref z3, .ref z4, .ref z5, .ref z6, .ref z7, .ref z8, .ref z9, .int pn, .int sp, .ref z10])), (z5, .inl (T 0, 280, .inl t1)), (z6, .inl (T 0, 7, .inl tr1)), (z7, .inl (T 0, 7, .inl mo1)), (z8, .inl (T 0, 7, .inl be1))] H2 locs2 ∧ lv_has ls2 10 [(0, .ref z0), (1, .int (nI 0)), (2, .int (nI dd)), (3, .int (nI n))]) ?_ 12 ⟨0, t, tr, mo, be, by omega, rfl, fun _ _ => rfl, fun _ _ => ⟨rfl, rfl, rfl⟩, by rw [htr]; rfl, hbe, fun q => absurd rfl q, (fun q z => by cases z), hW, hl⟩
    clear hW hl htr hbe
    rintro nn H locs ls ⟨k, t1, tr1, mo1, be1, hk, rfl, ht1, hlo, htr, hbe, hk0, hmo, hW, hl⟩ ih
    have ht2 : ∀ j, j < 40 → t1 (40 * n + j) = P j := fun j hj => (ht1 _ (by omega)).trans (ht j hj)
    have hW := Wd.arr hW 1 (put t1 (40 * n) P) rfl (fun j _ => put_id ht2 j) (ws' := [(z0, .inr (7, [.ref z1, .ref z2, .int nh, .ref z3, .ref z4, .ref z5, .ref z6, .ref z7, .ref z8, .ref z9, .int pn, .int sp, .ref z10])), (z5, .inl (T 0, 280, .inl (put t1 (40 * n) P))), (z6, .inl (T 0, 7, .inl tr1)), (z7, .inl (T 0, 7, .inl mo1)), (z8, .inl (T 0, 7, .inl be1))]) rfl
    refine lv_bipush (v := nI 40) hx hb dX7_worthOf_17 (by decide) ?_
    refine lv_iload_n hx hb dX7_worthOf_19 rfl (lv_at hl 3 rfl) ?_
    refine imulE (z := nI (40 * n)) hx hb dX7_worthOf_20 (pk_mul _ _) ?_
    refine lv_istore (lv' := [(4, .int (nI (40 * n))), (0, .ref z0), (1, .int (nI 0)), (2, .int (nI dd)), (3, .int (nI n))]) hx hb dX7_worthOf_21 hl (by decide) rfl (fun ls hl => ?_)
    refine lv_aload_n hx hb dX7_worthOf_23 rfl (lv_at hl 1 rfl) ?_
    refine gf487 F hW 0 rfl rfl dX7_worthOf_24 ?_
    refine lv_iload hx hb dX7_worthOf_27 (lv_at hl 0 rfl) ?_
    refine lv_bipush (v := nI 27) hx hb dX7_worthOf_29 (by decide) ?_
    refine iaddE (z := nI ((40 * n) + 27)) hx hb dX7_worthOf_31 (nI_add _ _) ?_
    refine ald F hW 1 rfl (x := P 27) ((40 * n) + 27) rfl (by omega) (by omega) (put_r (by omega) (by omega)) dX7_worthOf_32 ?_
    refine lv_iconst (v := nI 1) hx hb dX7_worthOf_33 (by decide) ?_
    refine W.fork (X := Int32) 49 (fun z => [.int z]) (fun z H2 locs2 ls2 => z = (if (P 27 = 1 ∨ d = 0) then 1 else 0) ∧ H2 = H ∧ locs2 = locs ∧ lv_has ls2 10 [(4, .int (nI (40 * n))), (0, .ref z0), (1, .int (nI 0)), (2, .int (nI dd)), (3, .int (nI n))]) (fun hJo => ?_) ?_
    · refine lv_icmp_eq (tgt := 44) hx hb dX7_worthOf_34 (by decide) (fun h34 => ?_) (fun h34 => ?_)
      · refine lv_iconst (v := 1) hx hb dX7_worthOf_44 (by decide) ?_
        refine lv_goto (tgt := 49) hx hb dX7_worthOf_45 (by decide) ?_
        exact hJo 1 _ _ _ ⟨(if_pos (Or.inl h34)).symm, rfl, rfl, hl⟩
      · refine lv_iload_n hx hb dX7_worthOf_37 rfl (lv_at hl 4 rfl) ?_
        refine lv_iload_n hx hb dX7_worthOf_38 rfl (lv_at hl 2 rfl) ?_
        refine lv_iload_n hx hb dX7_worthOf_39 rfl (lv_at hl 3 rfl) ?_
        refine iaddE (z := nI (0 + dd)) hx hb dX7_worthOf_40 (nI_add _ _) ?_
        refine lv_icmp_ne (tgt := 48) hx hb dX7_worthOf_41 (by decide) (fun h41 => ?_) (fun h41 => ?_)
        · refine lv_iconst (v := 0) hx hb dX7_worthOf_48 (by decide) ?_
          exact hJo 0 _ _ _ ⟨(if_neg (fun z => z.elim h34 (fun z => n_ne h41 (by omega)))).symm, rfl, rfl, hl⟩
        · have e1 : d = 0 := by have := n_eq h41 (by omega) (by omega); omega
          refine lv_iconst (v := 1) hx hb dX7_worthOf_44 (by decide) ?_
          refine lv_goto (tgt := 49) hx hb dX7_worthOf_45 (by decide) ?_
          exact hJo 1 _ _ _ ⟨(if_pos (Or.inr e1)).symm, rfl, rfl, hl⟩
    · rintro en H2 locs2 ls ⟨hen, rfl, rfl, hl⟩
      refine lv_istore (lv' := [(5, .int en), (4, .int (nI (40 * n))), (0, .ref z0), (1, .int (nI 0)), (2, .int (nI dd)), (3, .int (nI n))]) hx hb dX7_worthOf_49 hl (by decide) rfl (fun ls hl => ?_)
      refine lv_aload_n hx hb dX7_worthOf_51 rfl (lv_at hl 2 rfl) ?_
      refine gf488 F hW 0 rfl rfl dX7_worthOf_52 ?_
      refine lv_iload_n hx hb dX7_worthOf_55 rfl (lv_at hl 5 rfl) ?_
      refine ald F hW 2 rfl (x := tr1 n) n rfl (by omega) (by decide) rfl dX7_worthOf_56 ?_
      refine lv_iconst (v := nI 1) hx hb dX7_worthOf_57 (by decide) ?_
      refine iaddE (z := nI k) hx hb dX7_worthOf_58 htr ?_
      refine lv_istore (lv' := [(6, .int (nI k)), (5, .int en), (4, .int (nI (40 * n))), (0, .ref z0), (1, .int (nI 0)), (2, .int (nI dd)), (3, .int (nI n))]) hx hb dX7_worthOf_59 hl (by decide) rfl (fun ls hl => ?_)
      by_cases hE : (P 27 = 1 ∨ d = 0)
      · have e1 : en = 1 := hen.trans (if_pos hE)
        rw [e1] at hl
        have hk1 : k = 0 := by
          rcases Nat.eq_zero_or_pos k with z | z
          · exact z
          · obtain ⟨z1, z2⟩ := hk0 (by omega)
            rcases hE with z3 | z3
            · rw [z1] at z3; exact absurd z3 (by decide)
            · omega
        refine lv_iload hx hb dX7_worthOf_61 (lv_at hl 1 rfl) ?_
        refine lv_if_ne (tgt := 93) hx hb dX7_worthOf_63 (by decide) (fun _ => ?_) (fun h9 => absurd h9 (by decide))
        refine lv_iload hx hb dX7_worthOf_93 (lv_at hl 1 rfl) ?_
        refine lv_if_ne (tgt := 163) hx hb dX7_worthOf_95 (by decide) (fun _ => ?_) (fun h9 => absurd h9 (by decide))
        refine lv_iload hx hb dX7_worthOf_163 (lv_at hl 1 rfl) ?_
        refine lv_if_eq (tgt := 176) hx hb dX7_worthOf_165 (by decide) (fun h9 => absurd h9 (by decide)) (fun _ => ?_)
        refine lv_aload_n hx hb dX7_worthOf_168 rfl (lv_at hl 3 rfl) ?_
        refine lv_iload_n hx hb dX7_worthOf_169 rfl (lv_at hl 6 rfl) ?_
        refine cRV (As := [.int (nI n)]) (rest := []) F hW hl cs599 (r_ahead l D T z0 z1 z2 z3 z4 z5 z6 z7 z8 z9 z10 nh pn sp t1 P (n := n) (pl := pl) (by omega) hpl h26) [0, 1] rfl rfl 0 7 rfl rfl rfl rfl rfl (Nat.le_of_ble_eq_true rfl) ⟨Nat.le_of_ble_eq_true rfl, Nat.le_of_ble_eq_true rfl⟩ ⟨Nat.zero_le _, Nat.zero_le _⟩ dX7_worthOf_170 (fun r170 hr170 => ?_)
        subst hr170
        refine lv_goto (tgt := 182) hx hb dX7_worthOf_173 (by decide) ?_
        refine lv_istore (lv' := [(7, .int (leadM P)), (6, .int (nI k)), (5, .int 1), (4, .int (nI (40 * n))), (0, .ref z0), (1, .int (nI 0)), (2, .int (nI dd)), (3, .int (nI n))]) hx hb dX7_worthOf_182 hl (by decide) rfl (fun ls hl => ?_)
        have eb : be1 n = bhM d P := by
          rw [hbe, hk1]
          cases d with
          | zero => rfl
          | succ d => rw [bhM, if_neg (fun z => by rcases hE with z3 | z3; (rw [z] at z3; exact absurd z3 (by decide)); (exact absurd z3 (Nat.succ_ne_zero d)))]; rfl
        have ev : valM d P = leadM P := by
          cases d with
          | zero => rfl
          | succ d => rw [valM_s, if_neg (fun z => by rcases hE with z3 | z3; (rw [z] at z3; exact absurd z3 (by decide)); (exact absurd z3 (Nat.succ_ne_zero d)))]
        have hW := Wd.arr hW 1 t1 rfl (fun j _ => (put_id ht2 j).symm) (ws' := [(z0, .inr (7, [.ref z1, .ref z2, .int nh, .ref z3, .ref z4, .ref z5, .ref z6, .ref z7, .ref z8, .ref z9, .int pn, .int sp, .ref z10])), (z5, .inl (T 0, 280, .inl t1)), (z6, .inl (T 0, 7, .inl tr1)), (z7, .inl (T 0, 7, .inl mo1)), (z8, .inl (T 0, 7, .inl be1))]) rfl
        exact hK _ _ _ ⟨t1, tr1, mo1, be1, ht1, hlo, eb, hW, by rw [ev]; exact lv_sub hl [4, 5, 6, 7, 3, 0] rfl⟩
      · have e1 : en = 0 := hen.trans (if_neg hE)
        rw [e1] at hl
        have hz27 : P 27 = 0 := h27.resolve_right (fun z => hE (Or.inl z))
        have hd0 : 0 < d := Nat.pos_of_ne_zero (fun z => hE (Or.inr z))
        refine W.loop (fun nn H3 locs3 ls2 => ∃ h, k ≤ h ∧ h ≤ 12 ∧ nn = 12 - h ∧ scanM P (vbM (d - 1) P) h = scanM P (vbM (d - 1) P) k ∧ H3 = H2 ∧ locs3 = locs2 ∧ lv_has ls2 10 [(0, .ref z0), (1, .int (nI 0)), (2, .int (nI dd)), (3, .int (nI n)), (4, .int (nI (40 * n))), (5, .int 0), (6, .int (nI h))]) ?_ (12 - k) ⟨k, by omega, hk, rfl, rfl, rfl, rfl, lv_sub hl [3, 4, 5, 6, 2, 1, 0] rfl⟩
        rintro nn H locs ls ⟨h, hkh, hh, rfl, hsc, rfl, rfl, hl⟩ ih2
        refine lv_iload hx hb dX7_worthOf_61 (lv_at hl 5 rfl) ?_
        refine lv_if_ne (tgt := 93) hx hb dX7_worthOf_63 (by decide) (fun h9 => absurd rfl h9) (fun _ => ?_)
        refine lv_iload hx hb dX7_worthOf_66 (lv_at hl 6 rfl) ?_
        refine lv_bipush (v := nI 12) hx hb dX7_worthOf_68 (by decide) ?_
        refine lv_icmp_ge (tgt := 93) hx hb dX7_worthOf_70 (by decide) (fun h70 => ?_) (fun h70 => ?_)
        · have h5 : h = 12 := by have := n_le h70 (by omega) (by omega); omega
          subst h5
          refine lv_iload hx hb dX7_worthOf_93 (lv_at hl 5 rfl) ?_
          refine lv_if_ne (tgt := 163) hx hb dX7_worthOf_95 (by decide) (fun h9 => absurd rfl h9) (fun _ => ?_)
          refine lv_iload hx hb dX7_worthOf_98 (lv_at hl 6 rfl) ?_
          refine lv_bipush (v := nI 12) hx hb dX7_worthOf_100 (by decide) ?_
          refine lv_icmp_ge (tgt := 163) hx hb dX7_worthOf_102 (by decide) (fun _ => ?_) (fun h9 => absurd (by decide) h9)
          refine lv_iload hx hb dX7_worthOf_163 (lv_at hl 5 rfl) ?_
          refine lv_if_eq (tgt := 176) hx hb dX7_worthOf_165 (by decide) (fun _ => ?_) (fun h9 => absurd rfl h9)
          obtain ⟨h0, hh0, hl0⟩ := hleg hz27
          obtain ⟨q0, hq0⟩ := scan_some (v := (vbM (d - 1) P)) 12 h0 hh0 hl0
          have em : mo1 n = valM d P := by
            obtain ⟨d, rfl⟩ : ∃ y, d = y + 1 := ⟨d - 1, by omega⟩
            rw [hmo q0 (hsc.symm.trans hq0), valM_s, if_pos hz27, show vbM d P = vbM (d + 1 - 1) P from rfl, hq0]
            rfl
          have eb : be1 n = bhM d P := by
            obtain ⟨d, rfl⟩ : ∃ y, d = y + 1 := ⟨d - 1, by omega⟩
            rw [hbe, ← hsc, bhM, if_pos hz27]
            rfl
          refine lv_aload_n hx hb dX7_worthOf_176 rfl (lv_at hl 0 rfl) ?_
          refine gf489 F hW 0 rfl rfl dX7_worthOf_177 ?_
          refine lv_iload_n hx hb dX7_worthOf_180 rfl (lv_at hl 3 rfl) ?_
          refine ald F hW 3 rfl (x := mo1 n) n rfl (by omega) (by decide) rfl dX7_worthOf_181 ?_
          refine lv_istore (lv' := [(7, .int (mo1 n)), (0, .ref z0), (1, .int (nI 0)), (2, .int (nI dd)), (3, .int (nI n)), (4, .int (nI (40 * n))), (5, .int 0), (6, .int (nI 12))]) hx hb dX7_worthOf_182 hl (by decide) rfl (fun ls hl => ?_)
          have hW := Wd.arr hW 1 t1 rfl (fun j _ => (put_id ht2 j).symm) (ws' := [(z0, .inr (7, [.ref z1, .ref z2, .int nh, .ref z3, .ref z4, .ref z5, .ref z6, .ref z7, .ref z8, .ref z9, .int pn, .int sp, .ref z10])), (z5, .inl (T 0, 280, .inl t1)), (z6, .inl (T 0, 7, .inl tr1)), (z7, .inl (T 0, 7, .inl mo1)), (z8, .inl (T 0, 7, .inl be1))]) rfl
          exact hK _ _ _ ⟨t1, tr1, mo1, be1, ht1, hlo, eb, hW, by rw [← em]; exact lv_sub hl [1, 2, 3, 4, 5, 0] rfl⟩
        · have h5 : h < 12 := n_nle h70 (by decide) (by omega)
          refine lv_aload_n hx hb dX7_worthOf_73 rfl (lv_at hl 0 rfl) ?_
          refine gf487 F hW 0 rfl rfl dX7_worthOf_74 ?_
          refine lv_iload hx hb dX7_worthOf_77 (lv_at hl 4 rfl) ?_
          refine lv_iload hx hb dX7_worthOf_79 (lv_at hl 6 rfl) ?_
          refine cRS (As := [.ref z5, .int (nI (40 * n)), .int (nI h)]) (rest := []) F hW hl cs551 (r_canMove l D T z5 280 (40 * n) (by omega) (by omega) t1 P (h := h) (by omega)) [1] rfl rfl rfl rfl (Nat.le_of_ble_eq_true rfl) ⟨Nat.le_of_ble_eq_true rfl, Nat.le_of_ble_eq_true rfl⟩ ⟨Nat.zero_le _, Nat.zero_le _⟩ dX7_worthOf_81 (fun r81 hr81 => ?_)
          subst hr81
          refine lv_if_ne (tgt := 93) hx hb dX7_worthOf_84 (by decide) (fun h84 => ?_) (fun h84 => ?_)
          · have hlg : legM P h := Decidable.not_not.mp (fun z => h84 (bz.mpr z))
            refine lv_iload hx hb dX7_worthOf_93 (lv_at hl 5 rfl) ?_
            refine lv_if_ne (tgt := 163) hx hb dX7_worthOf_95 (by decide) (fun h9 => absurd rfl h9) (fun _ => ?_)
            refine lv_iload hx hb dX7_worthOf_98 (lv_at hl 6 rfl) ?_
            refine lv_bipush (v := nI 12) hx hb dX7_worthOf_100 (by decide) ?_
            refine lv_icmp_ge (tgt := 163) hx hb dX7_worthOf_102 (by decide) (fun h9 => absurd h9 (fun z => absurd (n_le z (by decide) (by omega)) (by omega))) (fun _ => ?_)
            refine lv_aload_n hx hb dX7_worthOf_105 rfl (lv_at hl 0 rfl) ?_
            refine gf488 F hW 0 rfl rfl dX7_worthOf_106 ?_
            refine lv_iload_n hx hb dX7_worthOf_109 rfl (lv_at hl 3 rfl) ?_
            refine lv_iload hx hb dX7_worthOf_110 (lv_at hl 6 rfl) ?_
            refine ast (ws' := [(z0, .inr (7, [.ref z1, .ref z2, .int nh, .ref z3, .ref z4, .ref z5, .ref z6, .ref z7, .ref z8, .ref z9, .int pn, .int sp, .ref z10])), (z5, .inl (T 0, 280, .inl (put t1 (40 * n) P))), (z6, .inl (T 0, 7, .inl (upd tr1 n (nI h)))), (z7, .inl (T 0, 7, .inl mo1)), (z8, .inl (T 0, 7, .inl be1))]) F hW 2 (upd tr1 n (nI h)) rfl n rfl (by omega) (by decide) (fun _ _ => rfl) rfl dX7_worthOf_112 (fun H locs hW => ?_)
            refine lv_aload_n hx hb dX7_worthOf_113 rfl (lv_at hl 0 rfl) ?_
            refine lv_aload_n hx hb dX7_worthOf_114 rfl (lv_at hl 0 rfl) ?_
            refine gf487 F hW 0 rfl rfl dX7_worthOf_115 ?_
            refine lv_iload hx hb dX7_worthOf_118 (lv_at hl 4 rfl) ?_
            refine lv_iload hx hb dX7_worthOf_120 (lv_at hl 4 rfl) ?_
            refine lv_bipush (v := nI 40) hx hb dX7_worthOf_122 (by decide) ?_
            refine iaddE (z := nI ((40 * n) + 40)) hx hb dX7_worthOf_124 (nI_add _ _) ?_
            refine cVV (As := [.ref z5, .int (nI (40 * n)), .int (nI ((40 * n) + 40))]) (rest := []) (wr := [(z6, .inl (T 0, 7, .inl (upd tr1 n (nI h)))), (z7, .inl (T 0, 7, .inl mo1)), (z8, .inl (T 0, 7, .inl be1))]) F hW hl cs587 (r_copyT l D T z0 z1 z2 z3 z4 z5 z6 z7 z8 z9 z10 nh pn sp t1 P (40 * n) ((40 * n) + 40) (by omega) (by omega)) [0, 1] [2, 3, 4] rfl rfl rfl rfl (by decide) 0 7 rfl rfl rfl rfl rfl (Nat.le_of_ble_eq_true rfl) ⟨Nat.le_of_ble_eq_true rfl, Nat.le_of_ble_eq_true rfl⟩ ⟨Nat.zero_le _, Nat.zero_le _⟩ dX7_worthOf_125 (fun u125 H locs hr125 hW => ?_)
            have hW := Wd.ord hW (ws' := [(z0, .inr (7, [.ref z1, .ref z2, .int nh, .ref z3, .ref z4, .ref z5, .ref z6, .ref z7, .ref z8, .ref z9, .int pn, .int sp, .ref z10])), (z5, .inl (T 0, 280, .inl (put (put t1 (40 * n) P) ((40 * n) + 40) P))), (z6, .inl (T 0, 7, .inl (upd tr1 n (nI h)))), (z7, .inl (T 0, 7, .inl mo1)), (z8, .inl (T 0, 7, .inl be1))]) [3, 4, 0, 1, 2] rfl rfl
            refine lv_aload_n hx hb dX7_worthOf_128 rfl (lv_at hl 0 rfl) ?_
            refine gf487 F hW 0 rfl rfl dX7_worthOf_129 ?_
            refine lv_iload hx hb dX7_worthOf_132 (lv_at hl 4 rfl) ?_
            refine lv_bipush (v := nI 40) hx hb dX7_worthOf_134 (by decide) ?_
            refine iaddE (z := nI ((40 * n) + 40)) hx hb dX7_worthOf_136 (nI_add _ _) ?_
            refine lv_iload hx hb dX7_worthOf_137 (lv_at hl 6 rfl) ?_
            refine cVS (As := [.ref z5, .int (nI ((40 * n) + 40)), .int (nI h)]) (rest := []) (wr := [(z0, .inr (7, [.ref z1, .ref z2, .int nh, .ref z3, .ref z4, .ref z5, .ref z6, .ref z7, .ref z8, .ref z9, .int pn, .int sp, .ref z10])), (z6, .inl (T 0, 7, .inl (upd tr1 n (nI h)))), (z7, .inl (T 0, 7, .inl mo1)), (z8, .inl (T 0, 7, .inl be1))]) F hW hl cs561 (r_moves l D T z5 280 ((40 * n) + 40) (by omega) (by omega) (put t1 (40 * n) P) P (fr := h) (pl := pl) h5 hpl h26 h36 h37) [1] [0, 2, 3, 4] rfl rfl rfl rfl (by decide) rfl rfl (Nat.le_of_ble_eq_true rfl) ⟨Nat.le_of_ble_eq_true rfl, Nat.le_of_ble_eq_true rfl⟩ ⟨Nat.zero_le _, Nat.zero_le _⟩ dX7_worthOf_139 (fun u139 H locs hr139 hW => ?_)
            have hW := Wd.ord hW (ws' := [(z0, .inr (7, [.ref z1, .ref z2, .int nh, .ref z3, .ref z4, .ref z5, .ref z6, .ref z7, .ref z8, .ref z9, .int pn, .int sp, .ref z10])), (z5, .inl (T 0, 280, .inl (put (put t1 (40 * n) P) ((40 * n) + 40) (mvM P h)))), (z6, .inl (T 0, 7, .inl (upd tr1 n (nI h)))), (z7, .inl (T 0, 7, .inl mo1)), (z8, .inl (T 0, 7, .inl be1))]) [0, 4, 1, 2, 3] rfl rfl
            refine lv_iinc (v := nI (n + 1)) (lv' := [(3, .int (nI (n + 1))), (0, .ref z0), (1, .int (nI 0)), (2, .int (nI dd)), (4, .int (nI (40 * n))), (5, .int 0), (6, .int (nI h))]) hx hb dX7_worthOf_142 hl (k := 3) rfl (nI_add _ _) (by decide) rfl (fun ls hl => ?_)
            refine lv_aload_n hx hb dX7_worthOf_145 rfl (lv_at hl 1 rfl) ?_
            refine gf488 F hW 0 rfl rfl dX7_worthOf_146 ?_
            refine lv_iload_n hx hb dX7_worthOf_149 rfl (lv_at hl 0 rfl) ?_
            refine lv_iconst (v := -1) hx hb dX7_worthOf_150 (by decide) ?_
            refine ast (ws' := [(z0, .inr (7, [.ref z1, .ref z2, .int nh, .ref z3, .ref z4, .ref z5, .ref z6, .ref z7, .ref z8, .ref z9, .int pn, .int sp, .ref z10])), (z5, .inl (T 0, 280, .inl (put (put t1 (40 * n) P) ((40 * n) + 40) (mvM P h)))), (z6, .inl (T 0, 7, .inl (upd (upd tr1 n (nI h)) (n + 1) (-1)))), (z7, .inl (T 0, 7, .inl mo1)), (z8, .inl (T 0, 7, .inl be1))]) F hW 2 (upd (upd tr1 n (nI h)) (n + 1) (-1)) rfl (n + 1) rfl (by omega) (by decide) (fun _ _ => rfl) rfl dX7_worthOf_151 (fun H locs hW => ?_)
            refine lv_aload_n hx hb dX7_worthOf_152 rfl (lv_at hl 1 rfl) ?_
            refine gf490 F hW 0 rfl rfl dX7_worthOf_153 ?_
            refine lv_iload_n hx hb dX7_worthOf_156 rfl (lv_at hl 0 rfl) ?_
            refine lv_bipush (v := -6) hx hb dX7_worthOf_157 (by decide) ?_
            refine ast (ws' := [(z0, .inr (7, [.ref z1, .ref z2, .int nh, .ref z3, .ref z4, .ref z5, .ref z6, .ref z7, .ref z8, .ref z9, .int pn, .int sp, .ref z10])), (z5, .inl (T 0, 280, .inl (put (put t1 (40 * n) P) ((40 * n) + 40) (mvM P h)))), (z6, .inl (T 0, 7, .inl (upd (upd tr1 n (nI h)) (n + 1) (-1)))), (z7, .inl (T 0, 7, .inl mo1)), (z8, .inl (T 0, 7, .inl (upd be1 (n + 1) (-6))))]) F hW 4 (upd be1 (n + 1) (-6)) rfl (n + 1) rfl (by omega) (by decide) (fun _ _ => rfl) rfl dX7_worthOf_159 (fun H locs hW => ?_)
            refine lv_goto (tgt := 307) hx hb dX7_worthOf_160 (by decide) ?_
            refine lv_goto (tgt := 17) hx hb dX7_worthOf_307 (by decide) ?_
            have hI3 := (hI.mv h5 hlg).1
            have a3 : ∀ j, j < 40 * n + 40 → put (put t1 (40 * n) P) (40 * n + 40) (mvM P h) j = t1 j := fun j hj => (put_n (by omega)).trans (put_id ht2 j).symm
            refine IH (d - 1) (n + 1, mvM P h, (put (put t1 (40 * n) P) (40 * n + 40) (mvM P h)), (upd (upd tr1 n (nI h)) (n + 1) (-1)), mo1, (upd be1 (n + 1) (-6))) _ _ _ (by omega) ⟨by show n + 1 + (d - 1) = dd; omega, hI3, fun j hj => put_r hj (by show 40 * (n + 1) + j = _; omega), u_s (upd tr1 n (nI h)) (n + 1) (-1), u_s be1 (n + 1) (-6), hW, lv_sub hl [1, 2, 3, 0] rfl⟩ ?_
            clear hW hl ih2
            rintro H locs ls ⟨t3, tr3, mo3, be3, ht3, hlo3, -, hW, hl⟩
            dsimp only at ht3 hlo3 hW hl
            have f3 : ∀ j, j < 40 * n + 40 → t3 j = t j := fun j hj => (ht3 j (by omega)).trans ((a3 j hj).trans (ht1 j hj))
            have g3 : ∀ j, j < 40 → t3 (40 * n + j) = P j := fun j hj => (f3 _ (by omega)).trans (ht j hj)
            have m3 : ∀ j, j < 40 → t3 (40 * (n + 1) + j) = mvM P h j := fun j hj => (ht3 _ (by omega)).trans (put_r hj (by omega))
            obtain ⟨q1, q2, q3⟩ := hlo3 n (by omega)
            rw [u_n (by omega), u_s] at q1
            rw [u_n (by omega), hbe, ← hsc] at q3
            have lo3 : ∀ j, j < n → tr3 j = tr j ∧ mo3 j = mo j ∧ be3 j = be j := by
              intro j hj
              obtain ⟨w1, w2, w3⟩ := hlo3 j (by omega)
              obtain ⟨y1, y2, y3⟩ := hlo j hj
              rw [u_n (by omega), u_n (by omega)] at w1
              rw [u_n (by omega)] at w3
              exact ⟨w1.trans y1, w2.trans y2, w3.trans y3⟩
            have mo4 : ∀ q, scanM P (vbM (d - 1) P) h = some q → mo3 n = q.2 := fun q z => q2.trans (hmo q (hsc.symm.trans z))
            refine lv_iload_n hx hb dX7_worthOf_184 rfl (lv_at hl 3 rfl) ?_
            refine lv_iload_n hx hb dX7_worthOf_185 rfl (lv_at hl 1 rfl) ?_
            refine lv_icmp_ne (tgt := 192) hx hb dX7_worthOf_186 (by decide) (fun _ => ?_) (fun h9 => absurd h9 (fun z => absurd (n_eq z (by omega) (by decide)) (by omega)))
            refine lv_iinc (v := nI n) (lv' := [(3, .int (nI n)), (0, .ref z0), (1, .int (nI 0)), (2, .int (nI dd)), (4, .int (nI (40 * (n + 1)))), (7, .int (valM (d - 1) (mvM P h)))]) hx hb dX7_worthOf_192 hl (k := 3) rfl (nI_down n) (by decide) rfl (fun ls hl => ?_)
            refine lv_aload_n hx hb dX7_worthOf_195 rfl (lv_at hl 1 rfl) ?_
            refine gf487 F hW 0 rfl rfl dX7_worthOf_196 ?_
            refine lv_bipush (v := nI 40) hx hb dX7_worthOf_199 (by decide) ?_
            refine lv_iload_n hx hb dX7_worthOf_201 rfl (lv_at hl 0 rfl) ?_
            refine imulE (z := nI (40 * n)) hx hb dX7_worthOf_202 (pk_mul _ _) ?_
            refine lv_bipush (v := nI 26) hx hb dX7_worthOf_203 (by decide) ?_
            refine iaddE (z := nI ((40 * n) + 26)) hx hb dX7_worthOf_205 (nI_add _ _) ?_
            refine ald F hW 1 rfl (x := P 26) ((40 * n) + 26) rfl (by omega) (by decide) (g3 26 (by decide)) dX7_worthOf_206 ?_
            refine lv_aload_n hx hb dX7_worthOf_207 rfl (lv_at hl 1 rfl) ?_
            refine gf487 F hW 0 rfl rfl dX7_worthOf_208 ?_
            refine lv_iload hx hb dX7_worthOf_211 (lv_at hl 4 rfl) ?_
            refine lv_bipush (v := nI 26) hx hb dX7_worthOf_213 (by decide) ?_
            refine iaddE (z := nI ((40 * (n + 1)) + 26)) hx hb dX7_worthOf_215 (nI_add _ _) ?_
            refine ald F hW 1 rfl (x := mvM P h 26) ((40 * (n + 1)) + 26) rfl (by omega) (by decide) (m3 26 (by decide)) dX7_worthOf_216 ?_
            refine W.fork (X := Unit) 228 (fun _ => [.int (vbM (d - 1) P h)]) (fun _ H2 locs2 ls2 => H2 = H ∧ locs2 = locs ∧ lv_has ls2 10 [(3, .int (nI n)), (0, .ref z0), (1, .int (nI 0)), (2, .int (nI dd)), (4, .int (nI (40 * (n + 1)))), (7, .int (valM (d - 1) (mvM P h)))]) (fun hJo => ?_) ?_
            · refine lv_icmp_ne (tgt := 225) hx hb dX7_worthOf_217 (by decide) (fun h217 => ?_) (fun h217 => ?_)
              · refine lv_iload hx hb dX7_worthOf_225 (lv_at hl 5 rfl) ?_
                refine lv_ineg hx hb dX7_worthOf_227 ?_
                rw [show -(valM (d - 1) (mvM P h)) = vbM (d - 1) P h by unfold vbM; rw [if_neg (fun z => h217 z.symm)]]
                exact hJo () _ _ _ ⟨rfl, rfl, hl⟩
              · refine lv_iload hx hb dX7_worthOf_220 (lv_at hl 5 rfl) ?_
                refine lv_goto (tgt := 228) hx hb dX7_worthOf_222 (by decide) ?_
                have ev : valM (d - 1) (mvM P h) = vbM (d - 1) P h := by unfold vbM; rw [if_pos h217.symm]
                rw [ev] at hl ⊢
                exact hJo () _ _ _ ⟨rfl, rfl, by rw [ev]; exact hl⟩
            · rintro - H2 locs2 ls ⟨rfl, rfl, hl⟩
              refine lv_istore (lv' := [(8, .int (vbM (d - 1) P h)), (3, .int (nI n)), (0, .ref z0), (1, .int (nI 0)), (2, .int (nI dd)), (4, .int (nI (40 * (n + 1)))), (7, .int (valM (d - 1) (mvM P h)))]) hx hb dX7_worthOf_228 hl (by decide) rfl (fun ls hl => ?_)
              refine lv_aload_n hx hb dX7_worthOf_230 rfl (lv_at hl 2 rfl) ?_
              refine gf490 F hW 0 rfl rfl dX7_worthOf_231 ?_
              refine lv_iload_n hx hb dX7_worthOf_234 rfl (lv_at hl 1 rfl) ?_
              refine ald F hW 4 rfl (x := houM (scanM P (vbM (d - 1) P) h)) n rfl (by omega) (by decide) q3 dX7_worthOf_235 ?_
              refine lv_bipush (v := -6) hx hb dX7_worthOf_236 (by decide) ?_
              refine W.fork (X := Int32) 257 (fun z => [.int z]) (fun z H3 locs3 ls2 => z = (if betM (scanM P (vbM (d - 1) P) h) (vbM (d - 1) P h) (mo3 n) then 1 else 0) ∧ H3 = H2 ∧ locs3 = locs2 ∧ lv_has ls2 10 [(8, .int (vbM (d - 1) P h)), (3, .int (nI n)), (0, .ref z0), (1, .int (nI 0)), (2, .int (nI dd)), (4, .int (nI (40 * (n + 1)))), (7, .int (valM (d - 1) (mvM P h)))]) (fun hJo => ?_) ?_
              · refine lv_icmp_eq (tgt := 252) hx hb dX7_worthOf_238 (by decide) (fun h238 => ?_) (fun h238 => ?_)
                · refine lv_iconst (v := 1) hx hb dX7_worthOf_252 (by decide) ?_
                  refine lv_goto (tgt := 257) hx hb dX7_worthOf_253 (by decide) ?_
                  exact hJo 1 _ _ _ ⟨(if_pos (Or.inl h238)).symm, rfl, rfl, hl⟩
                · refine lv_iload hx hb dX7_worthOf_241 (lv_at hl 0 rfl) ?_
                  refine lv_aload_n hx hb dX7_worthOf_243 rfl (lv_at hl 2 rfl) ?_
                  refine gf489 F hW 0 rfl rfl dX7_worthOf_244 ?_
                  refine lv_iload_n hx hb dX7_worthOf_247 rfl (lv_at hl 1 rfl) ?_
                  refine ald F hW 3 rfl (x := mo3 n) n rfl (by omega) (by decide) rfl dX7_worthOf_248 ?_
                  refine lv_icmp_le (tgt := 256) hx hb dX7_worthOf_249 (by decide) (fun h249 => ?_) (fun h249 => ?_)
                  · refine lv_iconst (v := 0) hx hb dX7_worthOf_256 (by decide) ?_
                    exact hJo 0 _ _ _ ⟨(if_neg (fun z => z.elim h238 (Int32.not_lt.mpr h249))).symm, rfl, rfl, hl⟩
                  · refine lv_iconst (v := 1) hx hb dX7_worthOf_252 (by decide) ?_
                    refine lv_goto (tgt := 257) hx hb dX7_worthOf_253 (by decide) ?_
                    exact hJo 1 _ _ _ ⟨(if_pos (Or.inr (Int32.not_le.mp h249))).symm, rfl, rfl, hl⟩
              · rintro bt H3 locs3 ls ⟨hbt, rfl, rfl, hl⟩
                refine lv_istore (lv' := [(9, .int bt), (8, .int (vbM (d - 1) P h)), (3, .int (nI n)), (0, .ref z0), (1, .int (nI 0)), (2, .int (nI dd)), (4, .int (nI (40 * (n + 1)))), (7, .int (valM (d - 1) (mvM P h)))]) hx hb dX7_worthOf_257 hl (by decide) rfl (fun ls hl => ?_)
                by_cases hB : betM (scanM P (vbM (d - 1) P) h) (vbM (d - 1) P h) (mo3 n)
                · have e2 : bt = 1 := hbt.trans (if_pos hB)
                  rw [e2] at hl
                  have eS : scanM P (vbM (d - 1) P) (h + 1) = some (h, vbM (d - 1) P h) := bet_y h5 hlg mo4 hB
                  refine lv_aload_n hx hb dX7_worthOf_259 rfl (lv_at hl 3 rfl) ?_
                  refine gf489 F hW 0 rfl rfl dX7_worthOf_260 ?_
                  refine lv_iload_n hx hb dX7_worthOf_263 rfl (lv_at hl 2 rfl) ?_
                  refine lv_iload hx hb dX7_worthOf_264 (lv_at hl 0 rfl) ?_
                  refine lv_if_eq (tgt := 274) hx hb dX7_worthOf_266 (by decide) (fun h9 => absurd h9 (by decide)) (fun _ => ?_)
                  refine lv_iload hx hb dX7_worthOf_269 (lv_at hl 1 rfl) ?_
                  refine lv_goto (tgt := 280) hx hb dX7_worthOf_271 (by decide) ?_
                  refine ast (ws' := [(z0, .inr (7, [.ref z1, .ref z2, .int nh, .ref z3, .ref z4, .ref z5, .ref z6, .ref z7, .ref z8, .ref z9, .int pn, .int sp, .ref z10])), (z5, .inl (T 0, 280, .inl t3)), (z6, .inl (T 0, 7, .inl tr3)), (z7, .inl (T 0, 7, .inl (upd mo3 n (vbM (d - 1) P h)))), (z8, .inl (T 0, 7, .inl be3))]) F hW 3 (upd mo3 n (vbM (d - 1) P h)) rfl n rfl (by omega) (by decide) (fun _ _ => rfl) rfl dX7_worthOf_280 (fun H locs hW => ?_)
                  refine lv_aload_n hx hb dX7_worthOf_281 rfl (lv_at hl 3 rfl) ?_
                  refine gf490 F hW 0 rfl rfl dX7_worthOf_282 ?_
                  refine lv_iload_n hx hb dX7_worthOf_285 rfl (lv_at hl 2 rfl) ?_
                  refine lv_iload hx hb dX7_worthOf_286 (lv_at hl 0 rfl) ?_
                  refine lv_if_eq (tgt := 300) hx hb dX7_worthOf_288 (by decide) (fun h9 => absurd h9 (by decide)) (fun _ => ?_)
                  refine lv_aload_n hx hb dX7_worthOf_291 rfl (lv_at hl 3 rfl) ?_
                  refine gf488 F hW 0 rfl rfl dX7_worthOf_292 ?_
                  refine lv_iload_n hx hb dX7_worthOf_295 rfl (lv_at hl 2 rfl) ?_
                  refine ald F hW 2 rfl (x := nI h) n rfl (by omega) (by decide) q1 dX7_worthOf_296 ?_
                  refine lv_goto (tgt := 306) hx hb dX7_worthOf_297 (by decide) ?_
                  refine ast (ws' := [(z0, .inr (7, [.ref z1, .ref z2, .int nh, .ref z3, .ref z4, .ref z5, .ref z6, .ref z7, .ref z8, .ref z9, .int pn, .int sp, .ref z10])), (z5, .inl (T 0, 280, .inl t3)), (z6, .inl (T 0, 7, .inl tr3)), (z7, .inl (T 0, 7, .inl (upd mo3 n (vbM (d - 1) P h)))), (z8, .inl (T 0, 7, .inl (upd be3 n (nI h))))]) F hW 4 (upd be3 n (nI h)) rfl n rfl (by omega) (by decide) (fun _ _ => rfl) rfl dX7_worthOf_306 (fun H locs hW => ?_)
                  refine lv_goto (tgt := 17) hx hb dX7_worthOf_307 (by decide) ?_
                  exact ih (12 - (h + 1)) _ _ _ (by omega) ⟨h + 1, t3, tr3, upd mo3 n (vbM (d - 1) P h), upd be3 n (nI h), by omega, rfl, f3, fun j hj => ⟨(lo3 j hj).1, (u_n (by omega)).trans (lo3 j hj).2.1, (u_n (by omega)).trans (lo3 j hj).2.2⟩, by rw [q1, nI_1], by rw [u_s, eS]; rfl, fun _ => ⟨hz27, hd0⟩, (fun q z => by rw [eS] at z; cases z; exact u_s _ _ _), hW, lv_sub hl [3, 4, 5, 2] rfl⟩
                · have e2 : bt = 0 := hbt.trans (if_neg hB)
                  rw [e2] at hl
                  have eS : scanM P (vbM (d - 1) P) (h + 1) = scanM P (vbM (d - 1) P) h := bet_n mo4 hB
                  refine lv_aload_n hx hb dX7_worthOf_259 rfl (lv_at hl 3 rfl) ?_
                  refine gf489 F hW 0 rfl rfl dX7_worthOf_260 ?_
                  refine lv_iload_n hx hb dX7_worthOf_263 rfl (lv_at hl 2 rfl) ?_
                  refine lv_iload hx hb dX7_worthOf_264 (lv_at hl 0 rfl) ?_
                  refine lv_if_eq (tgt := 274) hx hb dX7_worthOf_266 (by decide) (fun _ => ?_) (fun h9 => absurd rfl h9)
                  refine lv_aload_n hx hb dX7_worthOf_274 rfl (lv_at hl 3 rfl) ?_
                  refine gf489 F hW 0 rfl rfl dX7_worthOf_275 ?_
                  refine lv_iload_n hx hb dX7_worthOf_278 rfl (lv_at hl 2 rfl) ?_
                  refine ald F hW 3 rfl (x := mo3 n) n rfl (by omega) (by decide) rfl dX7_worthOf_279 ?_
                  refine ast (ws' := [(z0, .inr (7, [.ref z1, .ref z2, .int nh, .ref z3, .ref z4, .ref z5, .ref z6, .ref z7, .ref z8, .ref z9, .int pn, .int sp, .ref z10])), (z5, .inl (T 0, 280, .inl t3)), (z6, .inl (T 0, 7, .inl tr3)), (z7, .inl (T 0, 7, .inl (upd mo3 n (mo3 n)))), (z8, .inl (T 0, 7, .inl be3))]) F hW 3 (upd mo3 n (mo3 n)) rfl n rfl (by omega) (by decide) (fun _ _ => rfl) rfl dX7_worthOf_280 (fun H locs hW => ?_)
                  refine lv_aload_n hx hb dX7_worthOf_281 rfl (lv_at hl 3 rfl) ?_
                  refine gf490 F hW 0 rfl rfl dX7_worthOf_282 ?_
                  refine lv_iload_n hx hb dX7_worthOf_285 rfl (lv_at hl 2 rfl) ?_
                  refine lv_iload hx hb dX7_worthOf_286 (lv_at hl 0 rfl) ?_
                  refine lv_if_eq (tgt := 300) hx hb dX7_worthOf_288 (by decide) (fun _ => ?_) (fun h9 => absurd rfl h9)
                  refine lv_aload_n hx hb dX7_worthOf_300 rfl (lv_at hl 3 rfl) ?_
                  refine gf490 F hW 0 rfl rfl dX7_worthOf_301 ?_
                  refine lv_iload_n hx hb dX7_worthOf_304 rfl (lv_at hl 2 rfl) ?_
                  refine ald F hW 4 rfl (x := be3 n) n rfl (by omega) (by decide) rfl dX7_worthOf_305 ?_
                  refine ast (ws' := [(z0, .inr (7, [.ref z1, .ref z2, .int nh, .ref z3, .ref z4, .ref z5, .ref z6, .ref z7, .ref z8, .ref z9, .int pn, .int sp, .ref z10])), (z5, .inl (T 0, 280, .inl t3)), (z6, .inl (T 0, 7, .inl tr3)), (z7, .inl (T 0, 7, .inl (upd mo3 n (mo3 n)))), (z8, .inl (T 0, 7, .inl (upd be3 n (be3 n))))]) F hW 4 (upd be3 n (be3 n)) rfl n rfl (by omega) (by decide) (fun _ _ => rfl) rfl dX7_worthOf_306 (fun H locs hW => ?_)
                  refine lv_goto (tgt := 17) hx hb dX7_worthOf_307 (by decide) ?_
                  exact ih (12 - (h + 1)) _ _ _ (by omega) ⟨h + 1, t3, tr3, upd mo3 n (mo3 n), upd be3 n (be3 n), by omega, rfl, f3, fun j hj => ⟨(lo3 j hj).1, (u_n (by omega)).trans (lo3 j hj).2.1, (u_n (by omega)).trans (lo3 j hj).2.2⟩, by rw [q1, nI_1], by rw [u_s, q3, eS], fun _ => ⟨hz27, hd0⟩, (fun q z => by rw [u_s]; rw [eS] at z; exact mo4 q z), hW, lv_sub hl [3, 4, 5, 2] rfl⟩
          · have hnl : ¬ legM P h := bz.mp h84
            refine lv_iinc (v := nI (h + 1)) (lv' := [(6, .int (nI (h + 1))), (0, .ref z0), (1, .int (nI 0)), (2, .int (nI dd)), (3, .int (nI n)), (4, .int (nI (40 * n))), (5, .int 0)]) hx hb dX7_worthOf_87 hl (k := 6) rfl (nI_add _ _) (by decide) rfl (fun ls hl => ?_)
            refine lv_goto (tgt := 61) hx hb dX7_worthOf_90 (by decide) ?_
            exact ih2 (12 - (h + 1)) _ _ _ (by omega) ⟨h + 1, by omega, by omega, rfl, (scan_no hnl).trans hsc, rfl, rfl, lv_sub hl [1, 2, 3, 4, 5, 6, 0] rfl⟩
  · rintro H locs ls ⟨t1, tr1, mo1, be1, ht1, -, hb1, hW, hl⟩
    dsimp only at ht1 hb1 hW hl
    refine lv_iload_n hx hb dX7_worthOf_184 rfl (lv_at hl 3 rfl) ?_
    refine lv_iload_n hx hb dX7_worthOf_185 rfl (lv_at hl 1 rfl) ?_
    refine lv_icmp_ne (tgt := 192) hx hb dX7_worthOf_186 (by decide) (fun h9 => absurd rfl h9) (fun _ => ?_)
    refine lv_iload hx hb dX7_worthOf_189 (lv_at hl 5 rfl) ?_
    exact retI F hr hlk rfl hW (t1, tr1, mo1, be1) ⟨rfl, hb1, fun j hj => (ht1 j (by omega)).trans (put_r hj (by omega))⟩ rfl dX7_worthOf_191
set_option maxHeartbeats 4000000 in
set_option maxRecDepth 100000 in
theorem r_bestOf (l : Launch) (D : va_G) (T : Nat → ClassId) (z0 z1 z2 z3 z4 z5 z6 z7 z8 z9 z10 : Nat) (nh pn sp : Int32) (f P tr mo be : Nat → Int32) {dd : Nat} (hdd : dd ≤ 4) {S0 : Int} (hI : Iv S0 P) : KI (S := (Nat → Int32) × (Nat → Int32) × (Nat → Int32) × (Nat → Int32)) l D T yX7_bestOf cX7_bestOf 4 (some .int) 4 [.ref z0, .int (nI 0), .int (nI dd)] [(z0, .inr (7, [.ref z1, .ref z2, .int nh, .ref z3, .ref z4, .ref z5, .ref z6, .ref z7, .ref z8, .ref z9, .int pn, .int sp, .ref z10])), (z5, .inl (T 0, 280, .inl (put f 0 P))), (z6, .inl (T 0, 7, .inl tr)), (z7, .inl (T 0, 7, .inl mo)), (z8, .inl (T 0, 7, .inl be))] (fun r u => r = bhM dd P ∧ ∀ j, j < 40 → u.1 j = P j) (fun u => [(z0, .inr (7, [.ref z1, .ref z2, .int nh, .ref z3, .ref z4, .ref z5, .ref z6, .ref z7, .ref z8, .ref z9, .int pn, .int sp, .ref z10])), (z5, .inl (T 0, 280, .inl u.1)), (z6, .inl (T 0, 7, .inl u.2.1)), (z7, .inl (T 0, 7, .inl u.2.2.1)), (z8, .inl (T 0, 7, .inl u.2.2.2))]) := by
  refine KI.of (by decide +kernel) (Nat.le_of_ble_eq_true rfl) (fun p e s m below meth c A F hr hlk hW ls hl => ?_)
  have hx := F.1
  have hb := F.2.1
  have hl : lv_has ls 4 [(0, .ref z0), (1, .int (nI 0)), (2, .int (nI dd))] := hl
  refine lv_aload_n hx hb dX7_bestOf_0 rfl (lv_at hl 0 rfl) ?_
  refine lv_iload_n hx hb dX7_bestOf_1 rfl (lv_at hl 1 rfl) ?_
  refine lv_iload_n hx hb dX7_bestOf_2 rfl (lv_at hl 2 rfl) ?_
  refine cIV (As := [.int (nI 0), .int (nI dd)]) (rest := []) (wr := []) F hW hl cs595 (r_worthOf l D T z0 z1 z2 z3 z4 z5 z6 z7 z8 z9 z10 nh pn sp f P tr mo be (dd := dd) (by omega) hI) [0, 1, 2, 3, 4] [] rfl rfl rfl rfl (by decide) 0 7 rfl rfl rfl rfl rfl (Nat.le_of_ble_eq_true rfl) ⟨Nat.le_of_ble_eq_true rfl, Nat.le_of_ble_eq_true rfl⟩ ⟨Nat.zero_le _, Nat.zero_le _⟩ dX7_bestOf_3 (fun r3 u3 H locs hr3 hW => ?_)
  have hW := Wd.ord hW (ws' := [(z0, .inr (7, [.ref z1, .ref z2, .int nh, .ref z3, .ref z4, .ref z5, .ref z6, .ref z7, .ref z8, .ref z9, .int pn, .int sp, .ref z10])), (z5, .inl (T 0, 280, .inl u3.1)), (z6, .inl (T 0, 7, .inl u3.2.1)), (z7, .inl (T 0, 7, .inl u3.2.2.1)), (z8, .inl (T 0, 7, .inl u3.2.2.2))]) [0, 1, 2, 3, 4] rfl rfl
  obtain ⟨hr3, hbr3, htr3⟩ := hr3
  subst hr3
  refine lv_istore_n (lv' := [(3, .int (valM dd P)), (0, .ref z0), (1, .int (nI 0)), (2, .int (nI dd))]) hx hb dX7_bestOf_6 rfl hl (by decide) rfl (fun ls hl => ?_)
  refine lv_aload_n hx hb dX7_bestOf_7 rfl (lv_at hl 1 rfl) ?_
  refine gf490 F hW 0 rfl rfl dX7_bestOf_8 ?_
  refine lv_iload_n hx hb dX7_bestOf_11 rfl (lv_at hl 2 rfl) ?_
  refine ald F hW 4 rfl (x := bhM dd P) 0 rfl (by omega) (by decide) hbr3 dX7_bestOf_12 ?_
  exact retI F hr hlk rfl hW u3 ⟨rfl, htr3⟩ rfl dX7_bestOf_13
