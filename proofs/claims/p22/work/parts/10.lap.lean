-- Position: a lap
theorem sowF_o {fr pl j : Nat} (hpl : pl < 2) (h1 : 12 ≤ j) (h2 : j ≠ 24) (h3 : j ≠ 25) (h4 : j ≠ 33) : ∀ (n : Nat) (P : Nat → Int32) (h : Nat) (hand : Int32), (sowF n P h hand fr pl).1 j = P j
  | 0, _, _, _ => rfl
  | n + 1, P, h, hand => by
    rw [sowF]
    split
    · have hg := nxt_lt fr h
      rw [sowF_o hpl h1 h2 h3 h4 n, putS_o _ (by omega), payP_o _ _ _ _ hpl h2 h3 h4]
    · rfl
theorem sowF_lt {fr pl : Nat} : ∀ (n : Nat) (P : Nat → Int32) (h : Nat) (hand : Int32), h < 12 → (sowF n P h hand fr pl).2 < 12
  | 0, _, _, _, hh => hh
  | n + 1, P, h, hand, hh => by
    rw [sowF]
    split
    · exact sowF_lt n _ _ _ (nxt_lt fr h)
    · exact hh
theorem sowM_o {P : Nat → Int32} {fr pl j : Nat} (hpl : pl < 2) (hfr : fr < 12) (h1 : 12 ≤ j) (h2 : j ≠ 24) (h3 : j ≠ 25) (h4 : j ≠ 33) : (sowM P fr pl).1 j = P j := by
  unfold sowM
  rw [sowF_o hpl h1 h2 h3 h4, u_n (by omega)]
theorem sowM_lt {P : Nat → Int32} {fr pl : Nat} (hfr : fr < 12) : (sowM P fr pl).2 < 12 := sowF_lt _ _ _ _ hfr
theorem capM_30 (P : Nat → Int32) {h pl j : Nat} (hh : h < 12) (hpl : pl < 2) (h1 : 26 ≤ j) (h2 : j ≠ 32) : capM P h pl j = P j := by
  unfold capM
  rw [u_n h2, u_n (by omega), u_n (by omega), u_n (by omega), u_n (by omega)]
theorem endM_hi (P : Nat → Int32) {h pl j : Nat} (hh : h < 12) (hpl : pl < 2) (h1 : 26 ≤ j) (h2 : j ≠ 32) : endM P h pl j = visM P h j := by
  unfold endM
  split
  · exact capM_30 _ hh hpl h1 h2
  · rfl
theorem visM_o (P : Nat → Int32) {h j : Nat} (h1 : j ≠ 30) (h2 : j ≠ 12 + h) : visM P h j = P j := by
  unfold visM
  rw [u_n h2, u_n h1]
theorem visM_30 (P : Nat → Int32) {h : Nat} (hh : h < 12) : visM P h 30 = P 30 + 1 := by
  unfold visM
  rw [u_n (by omega), u_s]
theorem visM_h (P : Nat → Int32) {h : Nat} (hh : h < 12) : visM P h (12 + h) = P (12 + h) + 1 := by
  unfold visM
  rw [u_s]
theorem endM_n {P : Nat → Int32} {h pl : Nat} (hc : ¬ (¬ 1 < P h ∧ own h = pl ∧ 0 < P (11 - h))) : endM P h pl = visM P h := if_neg hc
theorem endM_c {P : Nat → Int32} {h pl : Nat} (hh : h < 12) (h1 : ¬ 1 < P h) (h2 : own h = pl) (h3 : 0 ≤ (P (11 - h)).toInt) (h4 : P 32 = 0) : capC (visM P h) h pl = endM P h pl := by
  have e1 : visM P h (11 - h) = P (11 - h) := visM_o _ (by omega) (by omega)
  have e2 : visM P h 32 = 0 := (visM_o _ (by omega) (by omega)).trans h4
  unfold capC
  rw [e1, e2]
  by_cases q : P (11 - h) = 0
  · rw [if_pos q, endM_n (fun z => by rw [q] at z; exact absurd z.2.2 (by decide))]
  · have q2 : 0 < P (11 - h) := by
      rw [i_lt, i_0]
      have : ¬ (P (11 - h)).toInt = 0 := fun z => q ((i_eq _ _).mpr (z.trans i_0.symm))
      omega
    rw [if_neg q, endM, if_pos ⟨h1, h2, q2⟩, Int32.zero_add]
    funext j
    by_cases z : j = 32
    · rw [z, u_s, capM, u_s, e1]
    · rw [u_n z]
theorem one_lt {x : Int32} (h : 1 ≤ x.toInt) : 1 < x ↔ ¬ x = 1 := by
  have e1 := i_1
  rw [i_lt, i_eq, e1]
  omega
set_option maxHeartbeats 4000000 in
set_option maxRecDepth 100000 in
theorem c_sowLap (l : Launch) (D : va_G) (T : Nat → ClassId) (q0 q1 q2 q3 q4 q5 : Nat) {pl : Nat} (hpl : pl < 2) (ov mv : Int32) (sd vs so E : Nat → Int32) (x0 x2 : Int32) (P : Nat → Int32) (hA : Agr P sd vs so) (hE : ∀ j, j < 4 → E j = P (34 + j)) {fr : Nat} (hfr : fr < 12) (ht : 0 ≤ (P 37).toInt) (hq1 : 1 ≤ ((sowM P fr pl).1 (sowM P fr pl).2).toInt) (hq2 : 0 ≤ ((sowM P fr pl).1 (11 - (sowM P fr pl).2)).toInt) (h32 : P 32 = 0) : KI (S := Unit) l D T yX3_sowLap cX3_sowLap 7 (some .boolean) 2 [.ref q0, .int (nI fr), .ref q4, .ref q5] [(q0, .inr (3, [.ref q1, .ref q2, .ref q3, .int (nI pl), .int ov, .int mv])), (q1, .inl (T 0, 12, .inl sd)), (q2, .inl (T 0, 12, .inl vs)), (q3, .inl (T 0, 2, .inl so)), (q4, .inl (T 0, 4, .inl E)), (q5, .inr (4, [.int x0, .int (P 30), .int x2, .int (P 32), .int (P 33)]))] (fun r _ => r = if goesM (sowM P fr pl).1 (sowM P fr pl).2 then 1 else 0) (fun u => [(q0, .inr (3, [.ref q1, .ref q2, .ref q3, .int (nI pl), .int ov, .int mv])), (q1, .inl (T 0, 12, .inl (fun j => (endM (sowM P fr pl).1 (sowM P fr pl).2 pl) j))), (q2, .inl (T 0, 12, .inl (fun j => (endM (sowM P fr pl).1 (sowM P fr pl).2 pl) (12 + j)))), (q3, .inl (T 0, 2, .inl (fun j => (endM (sowM P fr pl).1 (sowM P fr pl).2 pl) (24 + j)))), (q4, .inl (T 0, 4, .inl E)), (q5, .inr (4, [.int x0, .int ((endM (sowM P fr pl).1 (sowM P fr pl).2 pl) 30), .int (nI ((sowM P fr pl).2)), .int ((endM (sowM P fr pl).1 (sowM P fr pl).2 pl) 32), .int ((endM (sowM P fr pl).1 (sowM P fr pl).2 pl) 33)]))]) := by
  refine KI.of (by decide +kernel) (Nat.le_of_ble_eq_true rfl) (fun p e s m below meth c A F hr hlk hW ls hl => ?_)
  have hx := F.1
  have hb := F.2.1
  have hl : lv_has ls 7 [(0, .ref q0), (1, .int (nI fr)), (2, .ref q4), (3, .ref q5)] := hl
  refine lv_aload_n hx hb dX3_sowLap_0 rfl (lv_at hl 0 rfl) ?_
  refine lv_iload_n hx hb dX3_sowLap_1 rfl (lv_at hl 1 rfl) ?_
  refine lv_aload_n hx hb dX3_sowLap_2 rfl (lv_at hl 2 rfl) ?_
  refine lv_aload_n hx hb dX3_sowLap_3 rfl (lv_at hl 3 rfl) ?_
  refine cIV (As := [.int (nI fr), .ref q4, .ref q5]) (rest := []) (wr := []) F hW hl cs365 (c_sowHand l D T q0 q1 q2 q3 q4 q5 (pl := pl) (by omega) ov mv sd vs so E x0 (P 30) x2 (P 32) P hA hE (fr := fr) (by omega) ht) [0, 1, 2, 3, 4, 5] [] rfl rfl rfl rfl (by decide) 0 3 rfl rfl rfl rfl rfl (Nat.le_of_ble_eq_true rfl) ⟨Nat.le_of_ble_eq_true rfl, Nat.le_of_ble_eq_true rfl⟩ ⟨Nat.zero_le _, Nat.zero_le _⟩ dX3_sowLap_4 (fun r4 u4 H locs hr4 hW => ?_)
  have hW := Wd.ord hW (ws' := [(q0, .inr (3, [.ref q1, .ref q2, .ref q3, .int (nI pl), .int ov, .int mv])), (q1, .inl (T 0, 12, .inl (fun j => ((sowM P fr pl).1) j))), (q2, .inl (T 0, 12, .inl vs)), (q3, .inl (T 0, 2, .inl (fun j => ((sowM P fr pl).1) (24 + j)))), (q4, .inl (T 0, 4, .inl E)), (q5, .inr (4, [.int x0, .int (P 30), .int x2, .int (P 32), .int ((sowM P fr pl).1 33)]))]) [0, 1, 2, 3, 4, 5] rfl rfl
  subst hr4
  have oo : ∀ j, 12 ≤ j → j ≠ 24 → j ≠ 25 → j ≠ 33 → (sowM P fr pl).1 j = P j := fun j a b c d => sowM_o hpl hfr a b c d
  have hh : (sowM P fr pl).2 < 12 := sowM_lt hfr
  generalize (sowM P fr pl).1 = Q at *
  generalize (sowM P fr pl).2 = h at *
  refine lv_istore (lv' := [(4, .int (nI h)), (0, .ref q0), (1, .int (nI fr)), (2, .ref q4), (3, .ref q5)]) hx hb dX3_sowLap_7 hl (by decide) rfl (fun ls hl => ?_)
  refine lv_aload_n hx hb dX3_sowLap_9 rfl (lv_at hl 1 rfl) ?_
  refine gf40 F hW 0 rfl rfl dX3_sowLap_10 ?_
  refine lv_iload hx hb dX3_sowLap_13 (lv_at hl 0 rfl) ?_
  refine ald F hW 1 rfl (x := Q h) h rfl (by omega) (by decide) rfl dX3_sowLap_15 ?_
  refine lv_iconst (v := nI 1) hx hb dX3_sowLap_16 (by decide) ?_
  refine W.fork (X := Unit) 25 (fun _ => [.int (if Q h = 1 then 1 else 0)]) (fun _ H2 locs2 ls2 => H2 = H ∧ locs2 = locs ∧ lv_has ls2 7 [(4, .int (nI h)), (0, .ref q0), (1, .int (nI fr)), (2, .ref q4), (3, .ref q5)]) (fun hJ => ?_) ?_
  · refine lv_icmp_ne (tgt := 24) hx hb dX3_sowLap_17 (by decide) (fun h17 => ?_) (fun h17 => ?_)
    · refine lv_iconst (v := 0) hx hb dX3_sowLap_24 (by decide) ?_
      have e1 : (if Q h = 1 then (1 : Int32) else 0) = 0 := if_neg h17
      rw [e1] at hJ
      exact hJ () _ _ _ ⟨rfl, rfl, hl⟩
    · refine lv_iconst (v := 1) hx hb dX3_sowLap_20 (by decide) ?_
      refine lv_goto (tgt := 25) hx hb dX3_sowLap_21 (by decide) ?_
      have e1 : (if Q h = 1 then (1 : Int32) else 0) = 1 := if_pos h17
      rw [e1] at hJ
      exact hJ () _ _ _ ⟨rfl, rfl, hl⟩
  · rintro - H2 locs2 ls ⟨rfl, rfl, hl⟩
    have ev : vs h = Q (12 + h) := (hA.2.1 h hh).trans (oo _ (by omega) (by omega) (by omega) (by omega)).symm
    have eE : E 1 = Q 35 := (hE 1 (by decide)).trans (oo 35 (by decide) (by decide) (by decide) (by decide)).symm
    have e30 : P 30 = Q 30 := (oo 30 (by decide) (by decide) (by decide) (by decide)).symm
    have e32 : P 32 = Q 32 := (oo 32 (by decide) (by decide) (by decide) (by decide)).symm
    refine lv_istore (lv' := [(5, .int (if Q h = 1 then 1 else 0)), (4, .int (nI h)), (0, .ref q0), (1, .int (nI fr)), (2, .ref q4), (3, .ref q5)]) hx hb dX3_sowLap_25 hl (by decide) rfl (fun ls hl => ?_)
    refine lv_aload_n hx hb dX3_sowLap_27 rfl (lv_at hl 2 rfl) ?_
    refine lv_iload hx hb dX3_sowLap_28 (lv_at hl 1 rfl) ?_
    refine lv_aload_n hx hb dX3_sowLap_30 rfl (lv_at hl 4 rfl) ?_
    refine cRV (As := [.int (nI h), .ref q4]) (rest := []) F hW hl cs235 (c_isHostile l D T q0 q1 q2 q3 q4 (nI pl) ov mv vs E (h := h) (by omega)) [0, 2, 4] rfl rfl 0 3 rfl rfl rfl rfl rfl (Nat.le_of_ble_eq_true rfl) ⟨Nat.le_of_ble_eq_true rfl, Nat.le_of_ble_eq_true rfl⟩ ⟨Nat.zero_le _, Nat.zero_le _⟩ dX3_sowLap_31 (fun r31 hr31 => ?_)
    subst hr31
    refine lv_istore (lv' := [(6, .int (if E 1 ≤ vs h then 1 else 0)), (5, .int (if Q h = 1 then 1 else 0)), (4, .int (nI h)), (0, .ref q0), (1, .int (nI fr)), (2, .ref q4), (3, .ref q5)]) hx hb dX3_sowLap_34 hl (by decide) rfl (fun ls hl => ?_)
    refine lv_aload_n hx hb dX3_sowLap_36 rfl (lv_at hl 3 rfl) ?_
    refine gf42 F hW 0 rfl rfl dX3_sowLap_37 ?_
    refine lv_iload hx hb dX3_sowLap_40 (lv_at hl 2 rfl) ?_
    refine lv_dup2_11 hx hb dX3_sowLap_42 rfl rfl ?_
    refine ald F hW 2 rfl (x := Q (12 + h)) h rfl (by omega) (by decide) ev dX3_sowLap_43 ?_
    refine lv_iconst (v := 1) hx hb dX3_sowLap_44 (by decide) ?_
    refine iaddE (z := (Q (12 + h)) + 1) hx hb dX3_sowLap_45 rfl ?_
    refine ast (ws' := [(q0, .inr (3, [.ref q1, .ref q2, .ref q3, .int (nI pl), .int ov, .int mv])), (q1, .inl (T 0, 12, .inl (fun j => Q j))), (q2, .inl (T 0, 12, .inl (fun j => (visM Q h) (12 + j)))), (q3, .inl (T 0, 2, .inl (fun j => Q (24 + j)))), (q4, .inl (T 0, 4, .inl E)), (q5, .inr (4, [.int x0, .int (P 30), .int x2, .int (P 32), .int (Q 33)]))]) F hW 2 (fun j => (visM Q h) (12 + j)) rfl h rfl (by omega) (by decide) (fun j hj => by by_cases q : j = h; first | (subst q; rw [u_s, visM_h Q hh]) ; rw [u_n q, hA.2.1 j hj, visM_o Q (by omega) (by omega), oo _ (by omega) (by omega) (by omega) (by omega)]) rfl dX3_sowLap_46 (fun H locs hW => ?_)
    refine lv_aload_n hx hb dX3_sowLap_47 rfl (lv_at hl 6 rfl) ?_
    refine lv_dup hx hb dX3_sowLap_48 rfl ?_
    refine gf88 F hW 5 rfl rfl dX3_sowLap_49 ?_
    refine lv_iconst (v := 1) hx hb dX3_sowLap_52 (by decide) ?_
    refine iaddE (z := (visM Q h) 30) hx hb dX3_sowLap_53 (by rw [visM_30 Q hh, e30]) ?_
    refine pf88 (ws' := [(q0, .inr (3, [.ref q1, .ref q2, .ref q3, .int (nI pl), .int ov, .int mv])), (q1, .inl (T 0, 12, .inl (fun j => Q j))), (q2, .inl (T 0, 12, .inl (fun j => (visM Q h) (12 + j)))), (q3, .inl (T 0, 2, .inl (fun j => Q (24 + j)))), (q4, .inl (T 0, 4, .inl E)), (q5, .inr (4, [.int x0, .int ((visM Q h) 30), .int x2, .int (P 32), .int (Q 33)]))]) F hW 5 rfl rfl rfl dX3_sowLap_54 (fun H locs hW => ?_)
    refine lv_aload_n hx hb dX3_sowLap_57 rfl (lv_at hl 6 rfl) ?_
    refine lv_iload hx hb dX3_sowLap_58 (lv_at hl 2 rfl) ?_
    refine pf91 (ws' := [(q0, .inr (3, [.ref q1, .ref q2, .ref q3, .int (nI pl), .int ov, .int mv])), (q1, .inl (T 0, 12, .inl (fun j => Q j))), (q2, .inl (T 0, 12, .inl (fun j => (visM Q h) (12 + j)))), (q3, .inl (T 0, 2, .inl (fun j => Q (24 + j)))), (q4, .inl (T 0, 4, .inl E)), (q5, .inr (4, [.int x0, .int ((visM Q h) 30), .int (nI h), .int (P 32), .int (Q 33)]))]) F hW 5 rfl rfl rfl dX3_sowLap_60 (fun H locs hW => ?_)
    refine lv_iload hx hb dX3_sowLap_63 (lv_at hl 1 rfl) ?_
    have hW := Wd.arr hW 1 (fun j => (visM Q h) j) rfl (fun j hj => (visM_o Q (by omega) (by omega)).symm) (ws' := [(q0, .inr (3, [.ref q1, .ref q2, .ref q3, .int (nI pl), .int ov, .int mv])), (q1, .inl (T 0, 12, .inl (fun j => (visM Q h) j))), (q2, .inl (T 0, 12, .inl (fun j => (visM Q h) (12 + j)))), (q3, .inl (T 0, 2, .inl (fun j => Q (24 + j)))), (q4, .inl (T 0, 4, .inl E)), (q5, .inr (4, [.int x0, .int ((visM Q h) 30), .int (nI h), .int (P 32), .int (Q 33)]))]) rfl
    have hW := Wd.arr hW 3 (fun j => (visM Q h) (24 + j)) rfl (fun j hj => (visM_o Q (by omega) (by omega)).symm) (ws' := [(q0, .inr (3, [.ref q1, .ref q2, .ref q3, .int (nI pl), .int ov, .int mv])), (q1, .inl (T 0, 12, .inl (fun j => (visM Q h) j))), (q2, .inl (T 0, 12, .inl (fun j => (visM Q h) (12 + j)))), (q3, .inl (T 0, 2, .inl (fun j => (visM Q h) (24 + j)))), (q4, .inl (T 0, 4, .inl E)), (q5, .inr (4, [.int x0, .int ((visM Q h) 30), .int (nI h), .int (P 32), .int (Q 33)]))]) rfl
    have v32 : P 32 = (visM Q h) 32 := e32.trans (visM_o Q (by decide) (by omega)).symm
    have v33 : Q 33 = (visM Q h) 33 := (visM_o Q (by decide) (by omega)).symm
    rw [v32, v33] at hW
    refine W.fork (X := Unit) 87 (fun _ => []) (fun _ H2 locs2 ls2 => Wd D T A s [(q0, .inr (3, [.ref q1, .ref q2, .ref q3, .int (nI pl), .int ov, .int mv])), (q1, .inl (T 0, 12, .inl (fun j => (endM Q h pl) j))), (q2, .inl (T 0, 12, .inl (fun j => (endM Q h pl) (12 + j)))), (q3, .inl (T 0, 2, .inl (fun j => (endM Q h pl) (24 + j)))), (q4, .inl (T 0, 4, .inl E)), (q5, .inr (4, [.int x0, .int ((endM Q h pl) 30), .int (nI h), .int ((endM Q h pl) 32), .int ((endM Q h pl) 33)]))] H2 locs2 ∧ lv_has ls2 7 [(6, .int (if E 1 ≤ vs h then 1 else 0)), (5, .int (if Q h = 1 then 1 else 0)), (4, .int (nI h)), (0, .ref q0), (1, .int (nI fr)), (2, .ref q4), (3, .ref q5)]) (fun hJ => ?_) ?_
    · refine lv_if_eq (tgt := 87) hx hb dX3_sowLap_65 (by decide) (fun h65 => ?_) (fun h65 => ?_)
      · have hc : endM Q h pl = visM Q h := endM_n (fun q => q.1 ((one_lt hq1).mpr (bz.mp h65)))
        exact hJ () _ _ _ ⟨by rw [hc]; exact hW, hl⟩
      · have hone : Q h = 1 := Decidable.not_not.mp (fun q => h65 (bz.mpr q))
        refine lv_iload hx hb dX3_sowLap_68 (lv_at hl 2 rfl) ?_
        refine cRS (As := [.int (nI h)]) (rest := []) F hW hl cs341 (c_ownerOf l D T (h := h) (by omega)) [] rfl rfl rfl rfl (Nat.le_of_ble_eq_true rfl) ⟨Nat.le_of_ble_eq_true rfl, Nat.le_of_ble_eq_true rfl⟩ ⟨Nat.zero_le _, Nat.zero_le _⟩ dX3_sowLap_70 (fun r70 hr70 => ?_)
        subst hr70
        refine lv_aload_n hx hb dX3_sowLap_73 rfl (lv_at hl 3 rfl) ?_
        refine gf46 F hW 0 rfl rfl dX3_sowLap_74 ?_
        refine lv_icmp_ne (tgt := 87) hx hb dX3_sowLap_77 (by decide) (fun h77 => ?_) (fun h77 => ?_)
        · have hc : endM Q h pl = visM Q h := endM_n (fun q => n_ne h77 q.2.1)
          exact hJ () _ _ _ ⟨by rw [hc]; exact hW, hl⟩
        · have hown : own h = pl := n_eq h77 (by have := own_lt hh; omega) (by omega)
          refine lv_aload_n hx hb dX3_sowLap_80 rfl (lv_at hl 3 rfl) ?_
          refine lv_iload hx hb dX3_sowLap_81 (lv_at hl 2 rfl) ?_
          refine lv_aload_n hx hb dX3_sowLap_83 rfl (lv_at hl 6 rfl) ?_
          refine cVV (As := [.int (nI h), .ref q5]) (rest := []) (wr := [(q4, .inl (T 0, 4, .inl E))]) F hW hl cs375 (c_captureAcross l D T q0 q1 q2 q3 q5 (pl := pl) (by omega) ov mv (fun j => (visM Q h) j) (fun j => (visM Q h) (12 + j)) (fun j => (visM Q h) (24 + j)) x0 ((visM Q h) 30) (nI h) ((visM Q h) 33) (visM Q h) (by first | exact ⟨fun _ _ => rfl, fun _ _ => rfl, fun _ _ => rfl⟩ | assumption) (h := h) (by omega)) [0, 1, 2, 3, 5] [4] rfl rfl rfl rfl (by decide) 0 3 rfl rfl rfl rfl rfl (Nat.le_of_ble_eq_true rfl) ⟨Nat.le_of_ble_eq_true rfl, Nat.le_of_ble_eq_true rfl⟩ ⟨Nat.zero_le _, Nat.zero_le _⟩ dX3_sowLap_84 (fun u84 H locs hr84 hW => ?_)
          have hW := Wd.ord hW (ws' := [(q0, .inr (3, [.ref q1, .ref q2, .ref q3, .int (nI pl), .int ov, .int mv])), (q1, .inl (T 0, 12, .inl (fun j => (capC (visM Q h) h pl) j))), (q2, .inl (T 0, 12, .inl (fun j => (capC (visM Q h) h pl) (12 + j)))), (q3, .inl (T 0, 2, .inl (fun j => (capC (visM Q h) h pl) (24 + j)))), (q4, .inl (T 0, 4, .inl E)), (q5, .inr (4, [.int x0, .int ((visM Q h) 30), .int (nI h), .int ((capC (visM Q h) h pl) 32), .int ((visM Q h) 33)]))]) [1, 2, 3, 4, 0, 5] rfl rfl
          have hc : capC (visM Q h) h pl = endM Q h pl := endM_c hh (fun q => (one_lt hq1).mp q hone) hown hq2 (e32.symm.trans h32)
          rw [hc] at hW
          have w30 : (visM Q h) 30 = endM Q h pl 30 := (endM_hi Q hh hpl (by decide) (by decide)).symm
          have w33 : (visM Q h) 33 = endM Q h pl 33 := (endM_hi Q hh hpl (by decide) (by decide)).symm
          rw [w30, w33] at hW
          exact hJ () _ _ _ ⟨hW, hl⟩
    · rintro - H locs ls ⟨hW, hl⟩
      refine lv_iload hx hb dX3_sowLap_87 (lv_at hl 1 rfl) ?_
      refine lv_if_ne (tgt := 101) hx hb dX3_sowLap_89 (by decide) (fun h89 => ?_) (fun h89 => ?_)
      · refine lv_iconst (v := 0) hx hb dX3_sowLap_101 (by decide) ?_
        exact retI F hr hlk rfl hW () ((if_neg (fun q => h89 (if_neg ((one_lt hq1).mp q.1)))).symm) rfl dX3_sowLap_102
      · refine lv_iload hx hb dX3_sowLap_92 (lv_at hl 0 rfl) ?_
        refine lv_if_ne (tgt := 101) hx hb dX3_sowLap_94 (by decide) (fun h94 => ?_) (fun h94 => ?_)
        · refine lv_iconst (v := 0) hx hb dX3_sowLap_101 (by decide) ?_
          exact retI F hr hlk rfl hW () ((if_neg (fun q => h94 (if_neg (fun z => q.2 (by rw [← eE, ← ev]; exact z))))).symm) rfl dX3_sowLap_102
        · refine lv_iconst (v := 1) hx hb dX3_sowLap_97 (by decide) ?_
          refine lv_goto (tgt := 102) hx hb dX3_sowLap_98 (by decide) ?_
          exact retI F hr hlk rfl hW () ((if_pos ⟨(one_lt hq1).mpr (bz.mp h89), fun z => bz.mp h94 (by rw [eE, ev]; exact z)⟩).symm) rfl dX3_sowLap_102
