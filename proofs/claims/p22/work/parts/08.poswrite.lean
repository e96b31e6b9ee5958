-- Position: the methods that write; Report
def Agr (P sd vs so : Nat → Int32) : Prop := (∀ j, j < 12 → sd j = P j) ∧ (∀ j, j < 12 → vs j = P (12 + j)) ∧ (∀ j, j < 2 → so j = P (24 + j))
theorem u_s (f : Nat → Int32) (k : Nat) (x : Int32) : upd f k x k = x := by simp [upd]
theorem u_n {f : Nat → Int32} {k j : Nat} {x : Int32} (h : j ≠ k) : upd f k x j = f j := by simp [upd, h]
theorem nxt_lt (fr h : Nat) : nxt fr h < 12 := by unfold nxt; split <;> omega
theorem payP_y {P : Nat → Int32} {h pl : Nat} {hand : Int32} (hc : own h ≠ pl ∧ P 35 ≤ P (12 + h) ∧ P 37 < hand) : payP P h pl hand = upd (upd P (25 - pl) (P (25 - pl) + P 37)) 33 (P 33 + P 37) := if_pos hc
theorem payP_n {P : Nat → Int32} {h pl : Nat} {hand : Int32} (hc : ¬ (own h ≠ pl ∧ P 35 ≤ P (12 + h) ∧ P 37 < hand)) : payP P h pl hand = P := if_neg hc
theorem payH_y {P : Nat → Int32} {h pl : Nat} {hand : Int32} (hc : own h ≠ pl ∧ P 35 ≤ P (12 + h) ∧ P 37 < hand) : payH P h pl hand = hand - P 37 := if_pos hc
theorem payH_n {P : Nat → Int32} {h pl : Nat} {hand : Int32} (hc : ¬ (own h ≠ pl ∧ P 35 ≤ P (12 + h) ∧ P 37 < hand)) : payH P h pl hand = hand := if_neg hc
theorem payP_o (P : Nat → Int32) (h pl : Nat) (hand : Int32) {j : Nat} (hpl : pl < 2) (h1 : j ≠ 24) (h2 : j ≠ 25) (h3 : j ≠ 33) : payP P h pl hand j = P j := by
  unfold payP
  split
  · rw [u_n h3, u_n (by omega)]
  · rfl
theorem putS_o (P : Nat → Int32) {h j : Nat} (hj : j ≠ h) : putS P h j = P j := u_n hj
theorem pay_dec {P : Nat → Int32} {h pl : Nat} {hand : Int32} (h0 : 0 < hand) (ht : 0 ≤ (P 37).toInt) : (payH P h pl hand - 1).toNatClampNeg < hand.toNatClampNeg := by
  have h1 : 0 < hand.toInt := by have := (i_lt _ _).mp h0; rw [i_0] at this; exact this
  have hr := i_rng hand
  have hr2 := i_rng (P 37)
  have e1 := i_1
  have key : ∀ z : Int32, 0 < z.toInt → z.toInt ≤ hand.toInt → (z - 1).toNatClampNeg < hand.toNatClampNeg := by
    intro z h2 h3
    have hs : (z - 1).toInt = z.toInt - 1 := by rw [i_sub (by omega) (by omega), e1]
    have a1 := i_nat (z - 1) (by omega)
    have a2 := i_nat hand (by omega)
    omega
  unfold payH
  split
  · next hc =>
    have h2 := (i_lt _ _).mp hc.2.2
    have hs : (hand - P 37).toInt = hand.toInt - (P 37).toInt := i_sub (by omega) (by omega)
    exact key _ (by omega) (by omega)
  · exact key _ h1 (Int.le_refl _)
theorem pay_so {P : Nat → Int32} {g pl : Nat} {hand : Int32} (hc : own g ≠ pl ∧ P 35 ≤ P (12 + g) ∧ P 37 < hand) (hpl : pl < 2) : ∀ j, j < 2 → upd (fun j => P (24 + j)) (1 - pl) (P (24 + (1 - pl)) + P 37) j = payP P g pl hand (24 + j) := by
  intro j hj
  rw [payP_y hc, u_n (show 24 + j ≠ 33 by omega)]
  by_cases q : j = 1 - pl
  · rw [q, u_s, show 25 - pl = 24 + (1 - pl) by omega, u_s]
  · rw [u_n q, u_n (show 24 + j ≠ 25 - pl by omega)]
theorem sowF_end {n : Nat} {P : Nat → Int32} {h fr pl : Nat} {hand : Int32} (h0 : ¬ 0 < hand) : sowF n P h hand fr pl = (P, h) := by
  cases n with
  | zero => rfl
  | succ n => rw [sowF, if_neg h0]
theorem pos_fuel {n : Nat} {hand : Int32} (h0 : 0 < hand) (hn : hand.toNatClampNeg ≤ n) : ∃ k, n = k + 1 := by
  have h1 : 0 < hand.toInt := by have := (i_lt _ _).mp h0; rw [i_0] at this; exact this
  have a2 := i_nat hand (by omega)
  exact ⟨n - 1, by omega⟩
set_option maxHeartbeats 4000000 in
set_option maxRecDepth 100000 in
theorem c_clear (l : Launch) (D : va_G) (T : Nat → ClassId) (q5 : Nat) (x0 x1 x2 x3 x4 z : Int32) : KV (S := Unit) l D T yX4_clear cX4_clear 2 0 [.ref q5, .int z] [(q5, .inr (4, [.int x0, .int x1, .int x2, .int x3, .int x4]))] (fun _ => True) (fun u => [(q5, .inr (4, [.int z, .int 0, .int z, .int 0, .int 0]))]) := by
  refine KV.of (by decide +kernel) (Nat.le_of_ble_eq_true rfl) (fun p e s m below meth c A F hr hlk hW ls hl => ?_)
  have hx := F.1
  have hb := F.2.1
  have hl : lv_has ls 2 [(0, .ref q5), (1, .int z)] := hl
  refine lv_aload_n hx hb dX4_clear_0 rfl (lv_at hl 0 rfl) ?_
  refine lv_iload_n hx hb dX4_clear_1 rfl (lv_at hl 1 rfl) ?_
  refine pf84 (ws' := [(q5, .inr (4, [.int z, .int x1, .int x2, .int x3, .int x4]))]) F hW 0 rfl rfl rfl dX4_clear_2 (fun H locs hW => ?_)
  refine lv_aload_n hx hb dX4_clear_5 rfl (lv_at hl 0 rfl) ?_
  refine lv_iconst (v := 0) hx hb dX4_clear_6 (by decide) ?_
  refine pf86 (ws' := [(q5, .inr (4, [.int z, .int 0, .int x2, .int x3, .int x4]))]) F hW 0 rfl rfl rfl dX4_clear_7 (fun H locs hW => ?_)
  refine lv_aload_n hx hb dX4_clear_10 rfl (lv_at hl 0 rfl) ?_
  refine lv_iload_n hx hb dX4_clear_11 rfl (lv_at hl 1 rfl) ?_
  refine pf89 (ws' := [(q5, .inr (4, [.int z, .int 0, .int z, .int x3, .int x4]))]) F hW 0 rfl rfl rfl dX4_clear_12 (fun H locs hW => ?_)
  refine lv_aload_n hx hb dX4_clear_15 rfl (lv_at hl 0 rfl) ?_
  refine lv_iconst (v := 0) hx hb dX4_clear_16 (by decide) ?_
  refine pf92 (ws' := [(q5, .inr (4, [.int z, .int 0, .int z, .int 0, .int x4]))]) F hW 0 rfl rfl rfl dX4_clear_17 (fun H locs hW => ?_)
  refine lv_aload_n hx hb dX4_clear_20 rfl (lv_at hl 0 rfl) ?_
  refine lv_iconst (v := 0) hx hb dX4_clear_21 (by decide) ?_
  refine pf95 (ws' := [(q5, .inr (4, [.int z, .int 0, .int z, .int 0, .int 0]))]) F hW 0 rfl rfl rfl dX4_clear_22 (fun H locs hW => ?_)
  exact retV F hr hlk hW () trivial rfl dX4_clear_25
set_option maxHeartbeats 4000000 in
set_option maxRecDepth 100000 in
theorem c_repCopy (l : Launch) (D : va_G) (T : Nat → ClassId) (q5 q6 : Nat) (x0 x1 x2 x3 x4 y0 y1 y2 y3 y4 : Int32) : KV (S := Unit) l D T yX4_copyFrom cX4_copyFrom 2 0 [.ref q5, .ref q6] [(q5, .inr (4, [.int x0, .int x1, .int x2, .int x3, .int x4])), (q6, .inr (4, [.int y0, .int y1, .int y2, .int y3, .int y4]))] (fun _ => True) (fun u => [(q5, .inr (4, [.int y0, .int y1, .int y2, .int y3, .int y4])), (q6, .inr (4, [.int y0, .int y1, .int y2, .int y3, .int y4]))]) := by
  refine KV.of (by decide +kernel) (Nat.le_of_ble_eq_true rfl) (fun p e s m below meth c A F hr hlk hW ls hl => ?_)
  have hx := F.1
  have hb := F.2.1
  have hl : lv_has ls 2 [(0, .ref q5), (1, .ref q6)] := hl
  refine lv_aload_n hx hb dX4_copyFrom_0 rfl (lv_at hl 0 rfl) ?_
  refine lv_aload_n hx hb dX4_copyFrom_1 rfl (lv_at hl 1 rfl) ?_
  refine gf84 F hW 1 rfl rfl dX4_copyFrom_2 ?_
  refine pf84 (ws' := [(q5, .inr (4, [.int y0, .int x1, .int x2, .int x3, .int x4])), (q6, .inr (4, [.int y0, .int y1, .int y2, .int y3, .int y4]))]) F hW 0 rfl rfl rfl dX4_copyFrom_5 (fun H locs hW => ?_)
  refine lv_aload_n hx hb dX4_copyFrom_8 rfl (lv_at hl 0 rfl) ?_
  refine lv_aload_n hx hb dX4_copyFrom_9 rfl (lv_at hl 1 rfl) ?_
  refine gf86 F hW 1 rfl rfl dX4_copyFrom_10 ?_
  refine pf86 (ws' := [(q5, .inr (4, [.int y0, .int y1, .int x2, .int x3, .int x4])), (q6, .inr (4, [.int y0, .int y1, .int y2, .int y3, .int y4]))]) F hW 0 rfl rfl rfl dX4_copyFrom_13 (fun H locs hW => ?_)
  refine lv_aload_n hx hb dX4_copyFrom_16 rfl (lv_at hl 0 rfl) ?_
  refine lv_aload_n hx hb dX4_copyFrom_17 rfl (lv_at hl 1 rfl) ?_
  refine gf89 F hW 1 rfl rfl dX4_copyFrom_18 ?_
  refine pf89 (ws' := [(q5, .inr (4, [.int y0, .int y1, .int y2, .int x3, .int x4])), (q6, .inr (4, [.int y0, .int y1, .int y2, .int y3, .int y4]))]) F hW 0 rfl rfl rfl dX4_copyFrom_21 (fun H locs hW => ?_)
  refine lv_aload_n hx hb dX4_copyFrom_24 rfl (lv_at hl 0 rfl) ?_
  refine lv_aload_n hx hb dX4_copyFrom_25 rfl (lv_at hl 1 rfl) ?_
  refine gf92 F hW 1 rfl rfl dX4_copyFrom_26 ?_
  refine pf92 (ws' := [(q5, .inr (4, [.int y0, .int y1, .int y2, .int y3, .int x4])), (q6, .inr (4, [.int y0, .int y1, .int y2, .int y3, .int y4]))]) F hW 0 rfl rfl rfl dX4_copyFrom_29 (fun H locs hW => ?_)
  refine lv_aload_n hx hb dX4_copyFrom_32 rfl (lv_at hl 0 rfl) ?_
  refine lv_aload_n hx hb dX4_copyFrom_33 rfl (lv_at hl 1 rfl) ?_
  refine gf95 F hW 1 rfl rfl dX4_copyFrom_34 ?_
  refine pf95 (ws' := [(q5, .inr (4, [.int y0, .int y1, .int y2, .int y3, .int y4])), (q6, .inr (4, [.int y0, .int y1, .int y2, .int y3, .int y4]))]) F hW 0 rfl rfl rfl dX4_copyFrom_37 (fun H locs hW => ?_)
  exact retV F hr hlk hW () trivial rfl dX4_copyFrom_40
set_option maxHeartbeats 4000000 in
set_option maxRecDepth 100000 in
theorem c_sowHand (l : Launch) (D : va_G) (T : Nat → ClassId) (q0 q1 q2 q3 q4 q5 : Nat) {pl : Nat} (hpl : pl < 2) (ov mv : Int32) (sd vs so E : Nat → Int32) (x0 x1 x2 x3 : Int32) (P : Nat → Int32) (hA : Agr P sd vs so) (hE : ∀ j, j < 4 → E j = P (34 + j)) {fr : Nat} (hfr : fr < 12) (ht : 0 ≤ (P 37).toInt) : KI (S := Unit) l D T yX3_sowHand cX3_sowHand 7 (some .int) 1 [.ref q0, .int (nI fr), .ref q4, .ref q5] [(q0, .inr (3, [.ref q1, .ref q2, .ref q3, .int (nI pl), .int ov, .int mv])), (q1, .inl (T 0, 12, .inl sd)), (q2, .inl (T 0, 12, .inl vs)), (q3, .inl (T 0, 2, .inl so)), (q4, .inl (T 0, 4, .inl E)), (q5, .inr (4, [.int x0, .int x1, .int x2, .int x3, .int (P 33)]))] (fun r _ => r = nI (sowM P fr pl).2) (fun u => [(q0, .inr (3, [.ref q1, .ref q2, .ref q3, .int (nI pl), .int ov, .int mv])), (q1, .inl (T 0, 12, .inl (fun j => ((sowM P fr pl).1) j))), (q2, .inl (T 0, 12, .inl vs)), (q3, .inl (T 0, 2, .inl (fun j => ((sowM P fr pl).1) (24 + j)))), (q4, .inl (T 0, 4, .inl E)), (q5, .inr (4, [.int x0, .int x1, .int x2, .int x3, .int (((sowM P fr pl).1) 33)]))]) := by
  refine KI.of (by decide +kernel) (Nat.le_of_ble_eq_true rfl) (fun p e s m below meth c A F hr hlk hW ls hl => ?_)
  have hx := F.1
  have hb := F.2.1
  have hl : lv_has ls 7 [(0, .ref q0), (1, .int (nI fr)), (2, .ref q4), (3, .ref q5)] := hl
  refine lv_iconst (v := nI 0) hx hb dX3_sowHand_0 (by decide) ?_
  refine lv_aload_n hx hb dX3_sowHand_1 rfl (lv_at hl 2 rfl) ?_
  refine lv_iconst (v := nI 3) hx hb dX3_sowHand_2 (by decide) ?_
  refine ald F hW 4 rfl (x := P 37) 3 rfl (by omega) (by decide) (hE 3 (by decide)) dX3_sowHand_3 ?_
  refine vmax F hl m369 (Nat.le_of_ble_eq_true rfl) (Nat.le_of_ble_eq_true rfl) ⟨Nat.zero_le _, Nat.zero_le _⟩ (z := P 37) (max_0 ht) dX3_sowHand_4 ?_
  refine lv_istore (lv' := [(4, .int (P 37)), (0, .ref q0), (1, .int (nI fr)), (2, .ref q4), (3, .ref q5)]) hx hb dX3_sowHand_7 hl (by decide) rfl (fun ls hl => ?_)
  refine lv_aload_n hx hb dX3_sowHand_9 rfl (lv_at hl 1 rfl) ?_
  refine gf40 F hW 0 rfl rfl dX3_sowHand_10 ?_
  refine lv_iload_n hx hb dX3_sowHand_13 rfl (lv_at hl 2 rfl) ?_
  refine ald F hW 1 rfl (x := P fr) fr rfl (by omega) (by decide) (hA.1 fr hfr) dX3_sowHand_14 ?_
  refine lv_istore (lv' := [(5, .int (P fr)), (4, .int (P 37)), (0, .ref q0), (1, .int (nI fr)), (2, .ref q4), (3, .ref q5)]) hx hb dX3_sowHand_15 hl (by decide) rfl (fun ls hl => ?_)
  refine lv_aload_n hx hb dX3_sowHand_17 rfl (lv_at hl 2 rfl) ?_
  refine gf40 F hW 0 rfl rfl dX3_sowHand_18 ?_
  refine lv_iload_n hx hb dX3_sowHand_21 rfl (lv_at hl 3 rfl) ?_
  refine lv_iconst (v := 0) hx hb dX3_sowHand_22 (by decide) ?_
  refine ast (ws' := [(q0, .inr (3, [.ref q1, .ref q2, .ref q3, .int (nI pl), .int ov, .int mv])), (q1, .inl (T 0, 12, .inl (fun j => (upd P fr 0) j))), (q2, .inl (T 0, 12, .inl vs)), (q3, .inl (T 0, 2, .inl so)), (q4, .inl (T 0, 4, .inl E)), (q5, .inr (4, [.int x0, .int x1, .int x2, .int x3, .int (P 33)]))]) F hW 1 (fun j => (upd P fr 0) j) rfl fr rfl (by omega) (by decide) (fun j hj => by by_cases q : j = fr <;> simp [upd, q, hA.1 j hj]) rfl dX3_sowHand_23 (fun H locs hW => ?_)
  refine lv_iload_n hx hb dX3_sowHand_24 rfl (lv_at hl 3 rfl) ?_
  refine lv_istore (lv' := [(6, .int (nI fr)), (5, .int (P fr)), (4, .int (P 37)), (0, .ref q0), (1, .int (nI fr)), (2, .ref q4), (3, .ref q5)]) hx hb dX3_sowHand_25 hl (by decide) rfl (fun ls hl => ?_)
  have hW := Wd.arr hW 3 (fun j => (upd P fr 0) (24 + j)) rfl (fun j hj => (hA.2.2 j hj).trans (u_n (by omega)).symm) (ws' := [(q0, .inr (3, [.ref q1, .ref q2, .ref q3, .int (nI pl), .int ov, .int mv])), (q1, .inl (T 0, 12, .inl (fun j => (upd P fr 0) j))), (q2, .inl (T 0, 12, .inl vs)), (q3, .inl (T 0, 2, .inl (fun j => (upd P fr 0) (24 + j)))), (q4, .inl (T 0, 4, .inl E)), (q5, .inr (4, [.int x0, .int x1, .int x2, .int x3, .int (P 33)]))]) rfl
  have e33 : (upd P fr 0) 33 = P 33 := u_n (by omega)
  refine W.loop (fun n H2 locs2 ls2 => ∃ (Pc : Nat → Int32) (h : Nat) (hand : Int32), h < 12 ∧ sowF n Pc h hand fr pl = sowM P fr pl ∧ hand.toNatClampNeg ≤ n ∧ (∀ j, 12 ≤ j → j < 24 → Pc j = P j) ∧ Pc 35 = P 35 ∧ Pc 37 = P 37 ∧ Wd D T A s [(q0, .inr (3, [.ref q1, .ref q2, .ref q3, .int (nI pl), .int ov, .int mv])), (q1, .inl (T 0, 12, .inl (fun j => Pc j))), (q2, .inl (T 0, 12, .inl vs)), (q3, .inl (T 0, 2, .inl (fun j => Pc (24 + j)))), (q4, .inl (T 0, 4, .inl E)), (q5, .inr (4, [.int x0, .int x1, .int x2, .int x3, .int (Pc 33)]))] H2 locs2 ∧ lv_has ls2 7 [(0, .ref q0), (1, .int (nI fr)), (2, .ref q4), (3, .ref q5), (4, .int (P 37)), (5, .int hand), (6, .int (nI h))]) ?_ (P fr).toNatClampNeg ⟨upd P fr 0, fr, P fr, hfr, rfl, Nat.le_refl _, fun j h1 h2 => u_n (by omega), u_n (by omega), u_n (by omega), by rw [e33]; exact hW, lv_sub hl [3, 4, 5, 6, 2, 1, 0] rfl⟩
  rintro n H locs ls ⟨Pc, h, hand, hh, hS, hn, hv, h35, h37, hW, hl⟩ ih
  refine lv_iload hx hb dX3_sowHand_27 (lv_at hl 5 rfl) ?_
  refine lv_if_le (tgt := 132) hx hb dX3_sowHand_29 (by decide) (fun h29 => ?_) (fun h29 => ?_)
  · rw [sowF_end (Int32.not_lt.mpr h29)] at hS
    refine lv_iload hx hb dX3_sowHand_132 (lv_at hl 6 rfl) ?_
    exact retI F hr hlk rfl hW () (by rw [← hS]) (by rw [← hS]) dX3_sowHand_134
  · have h0 : 0 < hand := Int32.not_le.mp h29
    obtain ⟨n, rfl⟩ := pos_fuel h0 hn
    rw [sowF, if_pos h0] at hS
    refine lv_iload hx hb dX3_sowHand_32 (lv_at hl 6 rfl) ?_
    refine cRS (As := [.int (nI h)]) (rest := []) F hW hl cs372 (c_houseBehind l D T (h := h) (by omega)) [] rfl rfl rfl rfl (Nat.le_of_ble_eq_true rfl) ⟨Nat.le_of_ble_eq_true rfl, Nat.le_of_ble_eq_true rfl⟩ ⟨Nat.zero_le _, Nat.zero_le _⟩ dX3_sowHand_34 (fun r34 hr34 => ?_)
    subst hr34
    refine lv_istore (lv' := [(6, .int (nI ((h + 1) % 12))), (0, .ref q0), (1, .int (nI fr)), (2, .ref q4), (3, .ref q5), (4, .int (P 37)), (5, .int hand)]) hx hb dX3_sowHand_37 hl (by decide) rfl (fun ls hl => ?_)
    refine lv_iload hx hb dX3_sowHand_39 (lv_at hl 0 rfl) ?_
    refine lv_iload_n hx hb dX3_sowHand_41 rfl (lv_at hl 2 rfl) ?_
    refine W.fork (X := Unit) 52 (fun _ => []) (fun _ H2 locs2 ls2 => H2 = H ∧ locs2 = locs ∧ lv_has ls2 7 [(0, .ref q0), (1, .int (nI fr)), (2, .ref q4), (3, .ref q5), (4, .int (P 37)), (5, .int hand), (6, .int (nI (nxt fr h)))]) (fun hJ => ?_) ?_
    · refine lv_icmp_ne (tgt := 52) hx hb dX3_sowHand_42 (by decide) (fun h42 => ?_) (fun h42 => ?_)
      · have e1 : (h + 1) % 12 = nxt fr h := by unfold nxt; rw [if_neg (n_ne h42)]
        rw [e1] at hl
        exact hJ () _ _ _ ⟨rfl, rfl, lv_sub hl [1, 2, 3, 4, 5, 6, 0] rfl⟩
      · have e0 := n_eq h42 (by omega) (by omega)
        have e1 : ((h + 1) % 12 + 1) % 12 = nxt fr h := by unfold nxt; rw [if_pos e0]; omega
        refine lv_iload hx hb dX3_sowHand_45 (lv_at hl 0 rfl) ?_
        refine cRS (As := [.int (nI ((h + 1) % 12))]) (rest := []) F hW hl cs372 (c_houseBehind l D T (h := ((h + 1) % 12)) (by omega)) [] rfl rfl rfl rfl (Nat.le_of_ble_eq_true rfl) ⟨Nat.le_of_ble_eq_true rfl, Nat.le_of_ble_eq_true rfl⟩ ⟨Nat.zero_le _, Nat.zero_le _⟩ dX3_sowHand_47 (fun r47 hr47 => ?_)
        subst hr47
        refine lv_istore (lv' := [(6, .int (nI (((h + 1) % 12 + 1) % 12))), (0, .ref q0), (1, .int (nI fr)), (2, .ref q4), (3, .ref q5), (4, .int (P 37)), (5, .int hand)]) hx hb dX3_sowHand_50 hl (by decide) rfl (fun ls hl => ?_)
        rw [e1] at hl
        exact hJ () _ _ _ ⟨rfl, rfl, lv_sub hl [1, 2, 3, 4, 5, 6, 0] rfl⟩
    · rintro - H2 locs2 ls ⟨rfl, rfl, hl⟩
      have hg : nxt fr h < 12 := nxt_lt fr h
      generalize nxt fr h = g at hl hS hg
      have ev : vs g = Pc (12 + g) := (hA.2.1 g hg).trans (hv _ (by omega) (by omega)).symm
      have eE : E 1 = Pc 35 := (hE 1 (by decide)).trans h35.symm
      refine W.fork (X := Unit) 115 (fun _ => []) (fun _ H2 locs2 ls2 => Wd D T A s [(q0, .inr (3, [.ref q1, .ref q2, .ref q3, .int (nI pl), .int ov, .int mv])), (q1, .inl (T 0, 12, .inl (fun j => Pc j))), (q2, .inl (T 0, 12, .inl vs)), (q3, .inl (T 0, 2, .inl (fun j => (payP Pc g pl hand) (24 + j)))), (q4, .inl (T 0, 4, .inl E)), (q5, .inr (4, [.int x0, .int x1, .int x2, .int x3, .int ((payP Pc g pl hand) 33)]))] H2 locs2 ∧ lv_has ls2 7 [(0, .ref q0), (1, .int (nI fr)), (2, .ref q4), (3, .ref q5), (4, .int (P 37)), (5, .int (payH Pc g pl hand)), (6, .int (nI g))]) (fun hJ => ?_) ?_
      · refine lv_iload hx hb dX3_sowHand_52 (lv_at hl 5 rfl) ?_
        refine lv_iload hx hb dX3_sowHand_54 (lv_at hl 4 rfl) ?_
        refine lv_icmp_le (tgt := 115) hx hb dX3_sowHand_56 (by decide) (fun h56 => ?_) (fun h56 => ?_)
        · have hc : ¬ (own g ≠ pl ∧ Pc 35 ≤ Pc (12 + g) ∧ Pc 37 < hand) := fun q => Int32.not_lt.mpr h56 (h37 ▸ q.2.2)
          exact hJ () _ _ _ ⟨by rw [payP_n hc]; exact hW, by rw [payH_n hc]; exact lv_sub hl [0, 1, 2, 3, 4, 5, 6] rfl⟩
        · refine lv_iload hx hb dX3_sowHand_59 (lv_at hl 6 rfl) ?_
          refine cRS (As := [.int (nI g)]) (rest := []) F hW hl cs341 (c_ownerOf l D T (h := g) (by omega)) [] rfl rfl rfl rfl (Nat.le_of_ble_eq_true rfl) ⟨Nat.le_of_ble_eq_true rfl, Nat.le_of_ble_eq_true rfl⟩ ⟨Nat.zero_le _, Nat.zero_le _⟩ dX3_sowHand_61 (fun r61 hr61 => ?_)
          subst hr61
          refine lv_aload_n hx hb dX3_sowHand_64 rfl (lv_at hl 0 rfl) ?_
          refine gf46 F hW 0 rfl rfl dX3_sowHand_65 ?_
          refine lv_icmp_eq (tgt := 115) hx hb dX3_sowHand_68 (by decide) (fun h68 => ?_) (fun h68 => ?_)
          · have hc : ¬ (own g ≠ pl ∧ Pc 35 ≤ Pc (12 + g) ∧ Pc 37 < hand) := fun q => q.1 (n_eq h68 (by have := own_lt hg; omega) (by omega))
            exact hJ () _ _ _ ⟨by rw [payP_n hc]; exact hW, by rw [payH_n hc]; exact lv_sub hl [0, 1, 2, 3, 4, 5, 6] rfl⟩
          · refine lv_aload_n hx hb dX3_sowHand_71 rfl (lv_at hl 0 rfl) ?_
            refine lv_iload hx hb dX3_sowHand_72 (lv_at hl 6 rfl) ?_
            refine lv_aload_n hx hb dX3_sowHand_74 rfl (lv_at hl 2 rfl) ?_
            refine cRV (As := [.int (nI g), .ref q4]) (rest := []) F hW hl cs235 (c_isHostile l D T q0 q1 q2 q3 q4 (nI pl) ov mv vs E (h := g) (by omega)) [0, 2, 4] rfl rfl 0 3 rfl rfl rfl rfl rfl (Nat.le_of_ble_eq_true rfl) ⟨Nat.le_of_ble_eq_true rfl, Nat.le_of_ble_eq_true rfl⟩ ⟨Nat.zero_le _, Nat.zero_le _⟩ dX3_sowHand_75 (fun r75 hr75 => ?_)
            subst hr75
            refine lv_if_eq (tgt := 115) hx hb dX3_sowHand_78 (by decide) (fun h78 => ?_) (fun h78 => ?_)
            · have hc : ¬ (own g ≠ pl ∧ Pc 35 ≤ Pc (12 + g) ∧ Pc 37 < hand) := fun q => bz.mp h78 (by rw [eE, ev]; exact q.2.1)
              exact hJ () _ _ _ ⟨by rw [payP_n hc]; exact hW, by rw [payH_n hc]; exact lv_sub hl [0, 1, 2, 3, 4, 5, 6] rfl⟩
            · have hc : own g ≠ pl ∧ Pc 35 ≤ Pc (12 + g) ∧ Pc 37 < hand := ⟨n_ne h68, by have q := Decidable.not_not.mp (fun q => h78 (bz.mpr q)); rw [eE, ev] at q; exact q, by rw [h37]; exact Int32.not_le.mp h56⟩
              refine lv_iload hx hb dX3_sowHand_81 (lv_at hl 5 rfl) ?_
              refine lv_iload hx hb dX3_sowHand_83 (lv_at hl 4 rfl) ?_
              refine isubE (z := hand - (P 37)) hx hb dX3_sowHand_85 rfl ?_
              refine lv_istore (lv' := [(5, .int (hand - (P 37))), (0, .ref q0), (1, .int (nI fr)), (2, .ref q4), (3, .ref q5), (4, .int (P 37)), (6, .int (nI g))]) hx hb dX3_sowHand_86 hl (by decide) rfl (fun ls hl => ?_)
              refine lv_aload_n hx hb dX3_sowHand_88 rfl (lv_at hl 1 rfl) ?_
              refine gf44 F hW 0 rfl rfl dX3_sowHand_89 ?_
              refine lv_iconst (v := nI 1) hx hb dX3_sowHand_92 (by decide) ?_
              refine lv_aload_n hx hb dX3_sowHand_93 rfl (lv_at hl 1 rfl) ?_
              refine gf46 F hW 0 rfl rfl dX3_sowHand_94 ?_
              refine isubE (z := nI (1 - pl)) hx hb dX3_sowHand_97 (pk_sub (by omega)) ?_
              refine lv_dup2_11 hx hb dX3_sowHand_98 rfl rfl ?_
              refine ald F hW 3 rfl (x := Pc (24 + (1 - pl))) (1 - pl) rfl (by omega) (by decide) rfl dX3_sowHand_99 ?_
              refine lv_iload hx hb dX3_sowHand_100 (lv_at hl 5 rfl) ?_
              refine iaddE (z := Pc (24 + (1 - pl)) + P 37) hx hb dX3_sowHand_102 rfl ?_
              refine ast (ws' := [(q0, .inr (3, [.ref q1, .ref q2, .ref q3, .int (nI pl), .int ov, .int mv])), (q1, .inl (T 0, 12, .inl (fun j => Pc j))), (q2, .inl (T 0, 12, .inl vs)), (q3, .inl (T 0, 2, .inl (fun j => (payP Pc g pl hand) (24 + j)))), (q4, .inl (T 0, 4, .inl E)), (q5, .inr (4, [.int x0, .int x1, .int x2, .int x3, .int (Pc 33)]))]) F hW 3 (fun j => (payP Pc g pl hand) (24 + j)) rfl (1 - pl) rfl (by omega) (by decide) (by rw [← h37]; exact pay_so hc hpl) rfl dX3_sowHand_103 (fun H locs hW => ?_)
              refine lv_aload_n hx hb dX3_sowHand_104 rfl (lv_at hl 4 rfl) ?_
              refine lv_dup hx hb dX3_sowHand_105 rfl ?_
              refine gf97 F hW 5 rfl rfl dX3_sowHand_106 ?_
              refine lv_iload hx hb dX3_sowHand_109 (lv_at hl 5 rfl) ?_
              refine iaddE (z := (Pc 33) + (P 37)) hx hb dX3_sowHand_111 rfl ?_
              refine pf97 (ws' := [(q0, .inr (3, [.ref q1, .ref q2, .ref q3, .int (nI pl), .int ov, .int mv])), (q1, .inl (T 0, 12, .inl (fun j => Pc j))), (q2, .inl (T 0, 12, .inl vs)), (q3, .inl (T 0, 2, .inl (fun j => (payP Pc g pl hand) (24 + j)))), (q4, .inl (T 0, 4, .inl E)), (q5, .inr (4, [.int x0, .int x1, .int x2, .int x3, .int (Pc 33 + P 37)]))]) F hW 5 rfl rfl rfl dX3_sowHand_112 (fun H locs hW => ?_)
              have e3 : (payP Pc g pl hand) 33 = Pc 33 + P 37 := by rw [payP_y hc, u_s, h37]
              have e4 : payH Pc g pl hand = hand - P 37 := by rw [payH_y hc, h37]
              exact hJ () _ _ _ ⟨by rw [e3]; exact hW, by rw [e4]; exact lv_sub hl [1, 2, 3, 4, 5, 0, 6] rfl⟩
      · rintro - H locs ls ⟨hW, hl⟩
        refine lv_aload_n hx hb dX3_sowHand_115 rfl (lv_at hl 0 rfl) ?_
        refine gf40 F hW 0 rfl rfl dX3_sowHand_116 ?_
        refine lv_iload hx hb dX3_sowHand_119 (lv_at hl 6 rfl) ?_
        refine lv_dup2_11 hx hb dX3_sowHand_121 rfl rfl ?_
        refine ald F hW 1 rfl (x := Pc g) g rfl (by omega) (by decide) rfl dX3_sowHand_122 ?_
        refine lv_iconst (v := 1) hx hb dX3_sowHand_123 (by decide) ?_
        refine iaddE (z := (Pc g) + 1) hx hb dX3_sowHand_124 rfl ?_
        refine ast (ws' := [(q0, .inr (3, [.ref q1, .ref q2, .ref q3, .int (nI pl), .int ov, .int mv])), (q1, .inl (T 0, 12, .inl (fun j => (putS (payP Pc g pl hand) g) j))), (q2, .inl (T 0, 12, .inl vs)), (q3, .inl (T 0, 2, .inl (fun j => (payP Pc g pl hand) (24 + j)))), (q4, .inl (T 0, 4, .inl E)), (q5, .inr (4, [.int x0, .int x1, .int x2, .int x3, .int ((payP Pc g pl hand) 33)]))]) F hW 1 (fun j => (putS (payP Pc g pl hand) g) j) rfl g rfl (by omega) (by decide) (fun j hj => by by_cases q : j = g <;> simp [putS, upd, q, payP_o Pc g pl hand hpl (show g ≠ 24 by omega) (show g ≠ 25 by omega) (show g ≠ 33 by omega), payP_o Pc g pl hand hpl (show j ≠ 24 by omega) (show j ≠ 25 by omega) (show j ≠ 33 by omega)]) rfl dX3_sowHand_125 (fun H locs hW => ?_)
        refine lv_iinc (v := (payH Pc g pl hand) - 1) (lv' := [(5, .int ((payH Pc g pl hand) - 1)), (0, .ref q0), (1, .int (nI fr)), (2, .ref q4), (3, .ref q5), (4, .int (P 37)), (6, .int (nI g))]) hx hb dX3_sowHand_126 hl (k := 5) rfl (by rw [Int32.sub_eq_add_neg]; rfl) (by decide) rfl (fun ls hl => ?_)
        refine lv_goto (tgt := 27) hx hb dX3_sowHand_129 (by decide) ?_
        have hW := Wd.arr hW 3 (fun j => (putS (payP Pc g pl hand) g) (24 + j)) rfl (fun j hj => (putS_o _ (by omega)).symm) (ws' := [(q0, .inr (3, [.ref q1, .ref q2, .ref q3, .int (nI pl), .int ov, .int mv])), (q1, .inl (T 0, 12, .inl (fun j => (putS (payP Pc g pl hand) g) j))), (q2, .inl (T 0, 12, .inl vs)), (q3, .inl (T 0, 2, .inl (fun j => (putS (payP Pc g pl hand) g) (24 + j)))), (q4, .inl (T 0, 4, .inl E)), (q5, .inr (4, [.int x0, .int x1, .int x2, .int x3, .int ((payP Pc g pl hand) 33)]))]) rfl
        have e5 : (putS (payP Pc g pl hand) g) 33 = (payP Pc g pl hand) 33 := putS_o _ (by omega)
        exact ih n _ _ _ (Nat.lt_succ_self n) ⟨putS (payP Pc g pl hand) g, g, (payH Pc g pl hand) - 1, hg, hS, by have := pay_dec (P := Pc) (h := g) (pl := pl) h0 (by rw [h37]; exact ht); omega, fun j h1 h2 => (putS_o _ (by omega)).trans ((payP_o Pc g pl hand hpl (by omega) (by omega) (by omega)).trans (hv j h1 h2)), (putS_o _ (by omega)).trans ((payP_o Pc g pl hand hpl (by omega) (by omega) (by omega)).trans h35), (putS_o _ (by omega)).trans ((payP_o Pc g pl hand hpl (by omega) (by omega) (by omega)).trans h37), by rw [e5]; exact hW, lv_sub hl [1, 2, 3, 4, 5, 0, 6] rfl⟩
