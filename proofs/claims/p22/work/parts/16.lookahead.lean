-- Lookahead
/-- the four cells of a Position -/
abbrev pblk (T : Nat → ClassId) (a : Nat → Nat) (f : Nat → Int32) : va_W := [(a 0, .inr (3, [.ref (a 1), .ref (a 2), .ref (a 3), .int (f 26), .int (f 27), .int (f 28)])), (a 1, .inl (T 0, 12, .inl (fun j => f j))), (a 2, .inl (T 0, 12, .inl (fun j => f (12 + j)))), (a 3, .inl (T 0, 2, .inl (fun j => f (24 + j))))]
theorem c_makeMoveP (l : Launch) (D : va_G) (T : Nat → ClassId) (q0 q1 q2 q3 q4 q5 : Nat) {pl : Nat} (hpl : pl < 2) (px : Int32) (hpx : px = nI pl) (ov mv : Int32) (sd vs so E : Nat → Int32) (x0 x1 x2 x3 x4 : Int32) (P : Nat → Int32) (hA : Agr P sd vs so) (hov : ov = P 27) (hmv : mv = P 28) (hE : ∀ j, j < 4 → E j = P (34 + j)) {fr : Nat} (hfr : fr < 12) {S : Int} (hJ : Jv S P 0) (h36 : 0 ≤ (P 36).toInt ∧ (P 36).toInt ≤ 20) (ht : 0 ≤ (P 37).toInt) (h0 : 1 ≤ (P fr).toInt) (h26 : P 26 = nI pl) (h27 : P 27 = 0) {mk : Nat} (h28 : P 28 = nI mk) (hmk : mk < 300) : KV (S := Unit) l D T yX3_makeMove cX3_makeMove 6 3 [.ref q0, .int (nI fr), .ref q4, .ref q5] [(q0, .inr (3, [.ref q1, .ref q2, .ref q3, .int px, .int ov, .int mv])), (q1, .inl (T 0, 12, .inl sd)), (q2, .inl (T 0, 12, .inl vs)), (q3, .inl (T 0, 2, .inl so)), (q4, .inl (T 0, 4, .inl E)), (q5, .inr (4, [.int x0, .int x1, .int x2, .int x3, .int x4]))] (fun _ => True) (fun u => [(q0, .inr (3, [.ref q1, .ref q2, .ref q3, .int ((mvM P fr) 26), .int ((mvM P fr) 27), .int ((mvM P fr) 28)])), (q1, .inl (T 0, 12, .inl (fun j => (mvM P fr) j))), (q2, .inl (T 0, 12, .inl (fun j => (mvM P fr) (12 + j)))), (q3, .inl (T 0, 2, .inl (fun j => (mvM P fr) (24 + j)))), (q4, .inl (T 0, 4, .inl E)), (q5, .inr (4, [.int ((mvM P fr) 29), .int ((mvM P fr) 30), .int ((mvM P fr) 31), .int ((mvM P fr) 32), .int ((mvM P fr) 33)]))]) := by
  subst hpx
  exact c_makeMove l D T q0 q1 q2 q3 q4 q5 hpl ov mv sd vs so E x0 x1 x2 x3 x4 P hA hov hmv hE hfr hJ h36 ht h0 h26 h27 h28 hmk
theorem c_leadP (l : Launch) (D : va_G) (T : Nat → ClassId) (q0 q1 q2 q3 : Nat) {k : Nat} (hk : k < 2) (px ov mv : Int32) (hpx : px = nI k) (so : Nat → Int32) : KR l D T yX3_lead cX3_lead 1 (some .int) 0 [.ref q0] [(q0, .inr (3, [.ref q1, .ref q2, .ref q3, .int px, .int ov, .int mv])), (q3, .inl (T 0, 2, .inl so))] (fun r => r = so k - so (1 - k)) := by
  subst hpx
  exact c_lead l D T q0 q1 q2 q3 hk ov mv so
theorem scan_0 (P v : Nat → Int32) : scanM P v 0 = none := rfl
theorem got_0 : gotM none = -10000 := rfl
theorem hou_0 : houM none = -6 := rfl
theorem got_s (n : Nat) (x : Int32) : gotM (some (n, x)) = x := rfl
theorem hou_s (n : Nat) (x : Int32) : houM (some (n, x)) = nI n := rfl
theorem lead_eq {P : Nat → Int32} {k : Nat} (hk : k < 2) (h26 : P 26 = nI k) : leadM P = P (24 + k) - P (24 + (1 - k)) := by
  unfold leadM
  rw [h26, nI_clamp (by omega)]
set_option maxHeartbeats 4000000 in
set_option maxRecDepth 100000 in
theorem c_valueOf0 (l : Launch) (D : va_G) (T : Nat → ClassId) (l0 tr rp bh q4 : Nat) (bd : Nat → Nat → Nat) (q : Nat → Nat) (bs : Nat → Nat → Int32) (rv E P : Nat → Int32) {S : Int} (hI : Iv S P) (hE : ∀ j, j < 4 → E j = P (34 + j)) : KI (S := (Nat → Nat → Int32) × (Nat → Int32)) l D T yX1_valueOf cX1_valueOf 6 (some .int) 1 [.ref l0, .ref (q 0), .ref q4, .int (nI 0)] ([(l0, .inr (1, [.ref tr, .ref rp, .ref bh])), (rp, .inr (4, [.int (rv 0), .int (rv 1), .int (rv 2), .int (rv 3), .int (rv 4)])), (bh, .inl (T 3, 5, .inr (.inr (.inr (.inr (fun j => some (bd j 0)))))))] ++ ((pblk T q P) ++ ([(q4, .inl (T 0, 4, .inl E))]))) (fun r _ => r = valM 0 P) (fun u => ([(l0, .inr (1, [.ref tr, .ref rp, .ref bh])), (rp, .inr (4, [.int (u.2 0), .int (u.2 1), .int (u.2 2), .int (u.2 3), .int (u.2 4)])), (bh, .inl (T 3, 5, .inr (.inr (.inr (.inr (fun j => some (bd j 0)))))))] ++ ((pblk T q P) ++ ([(q4, .inl (T 0, 4, .inl E))])))) := by
  refine KI.of (by decide +kernel) (Nat.le_of_ble_eq_true rfl) (fun p e s m below meth c A F hr hlk hW ls hl => ?_)
  have hx := F.1
  have hb := F.2.1
  have hl : lv_has ls 6 [(0, .ref l0), (1, .ref (q 0)), (2, .ref q4), (3, .int (nI 0))] := hl
  obtain ⟨hJ, ⟨k, hk, h26⟩, hov, ⟨mk, h28, hm1, hm2⟩, h36, h37, hex⟩ := id hI
  refine lv_aload_n hx hb dX1_valueOf_0 rfl (lv_at hl 1 rfl) ?_
  refine gf49 F hW 3 rfl rfl dX1_valueOf_1 ?_
  refine lv_if_ne (tgt := 11) hx hb dX1_valueOf_4 (by decide) (fun h4 => ?_) (fun h4 => ?_)
  · refine lv_aload_n hx hb dX1_valueOf_11 rfl (lv_at hl 1 rfl) ?_
    refine cRV (As := []) (rest := []) F hW hl cs348 (c_leadP l D T (q 0) (q 1) (q 2) (q 3) hk (P 26) (P 27) (P 28) h26 (fun j => P (24 + j))) [3, 6] rfl rfl 0 3 rfl rfl rfl rfl rfl (Nat.le_of_ble_eq_true rfl) ⟨Nat.le_of_ble_eq_true rfl, Nat.le_of_ble_eq_true rfl⟩ ⟨Nat.zero_le _, Nat.zero_le _⟩ dX1_valueOf_12 (fun r12 hr12 => ?_)
    subst hr12
    exact retI F hr hlk rfl hW (bs, rv) (by rw [valM, lead_eq hk h26]) rfl dX1_valueOf_15
  · refine lv_iload_n hx hb dX1_valueOf_7 rfl (lv_at hl 3 rfl) ?_
    refine lv_if_gt (tgt := 16) hx hb dX1_valueOf_8 (by decide) (fun h9 => absurd h9 (by decide)) (fun _ => ?_)
    refine lv_aload_n hx hb dX1_valueOf_11 rfl (lv_at hl 1 rfl) ?_
    refine cRV (As := []) (rest := []) F hW hl cs348 (c_leadP l D T (q 0) (q 1) (q 2) (q 3) hk (P 26) (P 27) (P 28) h26 (fun j => P (24 + j))) [3, 6] rfl rfl 0 3 rfl rfl rfl rfl rfl (Nat.le_of_ble_eq_true rfl) ⟨Nat.le_of_ble_eq_true rfl, Nat.le_of_ble_eq_true rfl⟩ ⟨Nat.zero_le _, Nat.zero_le _⟩ dX1_valueOf_12 (fun r12 hr12 => ?_)
    subst hr12
    exact retI F hr hlk rfl hW (bs, rv) (by rw [valM, lead_eq hk h26]) rfl dX1_valueOf_15
set_option maxHeartbeats 4000000 in
set_option maxRecDepth 100000 in
theorem c_valueBehind1 (l : Launch) (D : va_G) (T : Nat → ClassId) (l0 tr rp bh q4 : Nat) (bd : Nat → Nat → Nat) (q : Nat → Nat) (bs : Nat → Nat → Int32) (rv E P : Nat → Int32) {S : Int} (hI : Iv S P) (hE : ∀ j, j < 4 → E j = P (34 + j)) {h : Nat} (hh : h < 12) (hleg : legM P h) : KI (S := (Nat → Nat → Int32) × (Nat → Int32)) l D T yX1_valueBehind cX1_valueBehind 7 (some .int) 4 [.ref l0, .ref (q 0), .int (nI h), .ref q4, .int (nI 1)] ([(l0, .inr (1, [.ref tr, .ref rp, .ref bh])), (rp, .inr (4, [.int (rv 0), .int (rv 1), .int (rv 2), .int (rv 3), .int (rv 4)])), (bh, .inl (T 3, 5, .inr (.inr (.inr (.inr (fun j => some (bd j 0)))))))] ++ ((pblk T (bd 1) (bs 1)) ++ ((pblk T q P) ++ ([(q4, .inl (T 0, 4, .inl E))])))) (fun r _ => r = vbM 0 P h) (fun u => ([(l0, .inr (1, [.ref tr, .ref rp, .ref bh])), (rp, .inr (4, [.int (u.2 0), .int (u.2 1), .int (u.2 2), .int (u.2 3), .int (u.2 4)])), (bh, .inl (T 3, 5, .inr (.inr (.inr (.inr (fun j => some (bd j 0)))))))] ++ ((pblk T (bd 1) (u.1 1)) ++ ((pblk T q P) ++ ([(q4, .inl (T 0, 4, .inl E))]))))) := by
  refine KI.of (by decide +kernel) (Nat.le_of_ble_eq_true rfl) (fun p e s m below meth c A F hr hlk hW ls hl => ?_)
  have hx := F.1
  have hb := F.2.1
  have hl : lv_has ls 7 [(0, .ref l0), (1, .ref (q 0)), (2, .int (nI h)), (3, .ref q4), (4, .int (nI 1))] := hl
  obtain ⟨hJ, ⟨k, hk, h26⟩, hov, ⟨mk, h28, hm1, hm2⟩, h36, h37, hex⟩ := id hI
  have hI2 := (hI.mv hh hleg).1
  refine lv_iload hx hb dX1_valueBehind_0 (lv_at hl 4 rfl) ?_
  refine lv_iconst (v := nI 1) hx hb dX1_valueBehind_2 (by decide) ?_
  refine lv_icmp_lt (tgt := 12) hx hb dX1_valueBehind_3 (by decide) (fun h9 => absurd h9 (by decide)) (fun _ => ?_)
  refine lv_iload hx hb dX1_valueBehind_6 (lv_at hl 4 rfl) ?_
  refine lv_iconst (v := nI 4) hx hb dX1_valueBehind_8 (by decide) ?_
  refine lv_icmp_le (tgt := 17) hx hb dX1_valueBehind_9 (by decide) (fun _ => ?_) (fun h9 => absurd (by decide) h9)
  have hset : ∀ j, 34 ≤ j → mvM P h j = P j := fun j hj => mvM_set hI hh hleg hj
  refine lv_aload_n hx hb dX1_valueBehind_17 rfl (lv_at hl 0 rfl) ?_
  refine gf180 F hW 0 rfl rfl dX1_valueBehind_18 ?_
  refine lv_iload hx hb dX1_valueBehind_21 (lv_at hl 4 rfl) ?_
  refine aald F hW 2 3 rfl rfl (r := (bd 1) 0) 1 rfl (by omega) (by decide) rfl dX1_valueBehind_23 ?_
  refine lv_astore (lv' := [(5, .ref ((bd 1) 0)), (0, .ref l0), (1, .ref (q 0)), (2, .int (nI h)), (3, .ref q4), (4, .int (nI 1))]) hx hb dX1_valueBehind_24 hl (by decide) rfl (fun ls hl => ?_)
  refine lv_aload hx hb dX1_valueBehind_26 (lv_at hl 0 rfl) ?_
  refine lv_aload_n hx hb dX1_valueBehind_28 rfl (lv_at hl 2 rfl) ?_
  refine cVV (As := [.ref (q 0)]) (rest := []) (wr := [(l0, .inr (1, [.ref tr, .ref rp, .ref bh])), (rp, .inr (4, [.int (rv 0), .int (rv 1), .int (rv 2), .int (rv 3), .int (rv 4)])), (bh, .inl (T 3, 5, .inr (.inr (.inr (.inr (fun j => some (bd j 0))))))), (q4, .inl (T 0, 4, .inl E))]) F hW hl cs352 (c_posCopy l D T ((bd 1) 0) ((bd 1) 1) ((bd 1) 2) ((bd 1) 3) (q 0) (q 1) (q 2) (q 3) ((bs 1) 26) ((bs 1) 27) ((bs 1) 28) (P 26) (P 27) (P 28) (fun j => (bs 1) j) (fun j => (bs 1) (12 + j)) (fun j => (bs 1) (24 + j)) (fun j => P j) (fun j => P (12 + j)) (fun j => P (24 + j)) hov) [3, 4, 5, 6, 7, 8, 9, 10] [0, 1, 2, 11] rfl rfl rfl rfl (by decide) 0 3 rfl rfl rfl rfl rfl (Nat.le_of_ble_eq_true rfl) ⟨Nat.le_of_ble_eq_true rfl, Nat.le_of_ble_eq_true rfl⟩ ⟨Nat.zero_le _, Nat.zero_le _⟩ dX1_valueBehind_29 (fun u29 H locs hr29 hW => ?_)
  have hW := Wd.ord hW (ws' := ([(l0, .inr (1, [.ref tr, .ref rp, .ref bh])), (rp, .inr (4, [.int (rv 0), .int (rv 1), .int (rv 2), .int (rv 3), .int (rv 4)])), (bh, .inl (T 3, 5, .inr (.inr (.inr (.inr (fun j => some (bd j 0))))))), ((bd 1) 0, .inr (3, [.ref ((bd 1) 1), .ref ((bd 1) 2), .ref ((bd 1) 3), .int (P 26), .int (P 27), .int (P 28)])), ((bd 1) 1, .inl (T 0, 12, .inl (fun j => P j))), ((bd 1) 2, .inl (T 0, 12, .inl (fun j => P (12 + j)))), ((bd 1) 3, .inl (T 0, 2, .inl (fun j => P (24 + j))))] ++ ((pblk T q P) ++ ([(q4, .inl (T 0, 4, .inl E))])))) [0, 1, 2, 4, 5, 6, 7, 8, 9, 10, 11, 3] rfl rfl
  refine lv_aload hx hb dX1_valueBehind_32 (lv_at hl 0 rfl) ?_
  refine lv_iload_n hx hb dX1_valueBehind_34 rfl (lv_at hl 3 rfl) ?_
  refine lv_aload_n hx hb dX1_valueBehind_35 rfl (lv_at hl 4 rfl) ?_
  refine lv_aload_n hx hb dX1_valueBehind_36 rfl (lv_at hl 1 rfl) ?_
  refine gf178 F hW 0 rfl rfl dX1_valueBehind_37 ?_
  refine cVV (As := [.int (nI h), .ref q4, .ref rp]) (rest := []) (wr := ([(l0, .inr (1, [.ref tr, .ref rp, .ref bh])), (bh, .inl (T 3, 5, .inr (.inr (.inr (.inr (fun j => some (bd j 0)))))))] ++ ((pblk T q P)))) F hW hl cs353 (c_makeMoveP l D T ((bd 1) 0) ((bd 1) 1) ((bd 1) 2) ((bd 1) 3) q4 rp (pl := k) hk (P 26) h26 (P 27) (P 28) (fun j => P j) (fun j => P (12 + j)) (fun j => P (24 + j)) E (rv 0) (rv 1) (rv 2) (rv 3) (rv 4) P ⟨fun _ _ => rfl, fun _ _ => rfl, fun _ _ => rfl⟩ rfl rfl hE (fr := h) hh hJ h36 h37 (leg_pos hleg) h26 hleg.1 h28 (hm2 hleg.1)) [3, 4, 5, 6, 11, 1] [0, 2, 7, 8, 9, 10] rfl rfl rfl rfl (by decide) 0 3 rfl rfl rfl rfl rfl (Nat.le_of_ble_eq_true rfl) ⟨Nat.le_of_ble_eq_true rfl, Nat.le_of_ble_eq_true rfl⟩ ⟨Nat.zero_le _, Nat.zero_le _⟩ dX1_valueBehind_40 (fun u40 H locs hr40 hW => ?_)
  have hW := Wd.ord hW (ws' := ([(l0, .inr (1, [.ref tr, .ref rp, .ref bh])), (rp, .inr (4, [.int ((mvM P h) 29), .int ((mvM P h) 30), .int ((mvM P h) 31), .int ((mvM P h) 32), .int ((mvM P h) 33)])), (bh, .inl (T 3, 5, .inr (.inr (.inr (.inr (fun j => some (bd j 0))))))), ((bd 1) 0, .inr (3, [.ref ((bd 1) 1), .ref ((bd 1) 2), .ref ((bd 1) 3), .int ((mvM P h) 26), .int ((mvM P h) 27), .int ((mvM P h) 28)])), ((bd 1) 1, .inl (T 0, 12, .inl (fun j => (mvM P h) j))), ((bd 1) 2, .inl (T 0, 12, .inl (fun j => (mvM P h) (12 + j)))), ((bd 1) 3, .inl (T 0, 2, .inl (fun j => (mvM P h) (24 + j))))] ++ ((pblk T q P) ++ ([(q4, .inl (T 0, 4, .inl E))])))) [0, 11, 1, 6, 7, 8, 9, 2, 3, 4, 5, 10] rfl rfl
  obtain ⟨z, hz⟩ : ∃ z, mvM P h = z := ⟨_, rfl⟩
  rw [hz] at hW hI2 hset
  refine lv_aload_n hx hb dX1_valueBehind_43 rfl (lv_at hl 1 rfl) ?_
  refine lv_aload hx hb dX1_valueBehind_44 (lv_at hl 0 rfl) ?_
  refine lv_aload_n hx hb dX1_valueBehind_46 rfl (lv_at hl 4 rfl) ?_
  refine lv_iload hx hb dX1_valueBehind_47 (lv_at hl 5 rfl) ?_
  refine lv_iconst (v := nI 1) hx hb dX1_valueBehind_49 (by decide) ?_
  refine isubE (z := nI 0) hx hb dX1_valueBehind_50 (by decide) ?_
  refine cIV (As := [.ref ((bd 1) 0), .ref q4, .int (nI 0)]) (rest := []) (wr := (pblk T q P)) F hW hl cs379 (c_valueOf0 l D T l0 tr rp bh q4 bd (bd 1) bs (fun j => z (29 + j)) E z hI2 (fun j hj => (hE j hj).trans (hset (34 + j) (by omega)).symm)) [0, 1, 2, 3, 4, 5, 6, 11] [7, 8, 9, 10] rfl rfl rfl rfl (by decide) 0 1 rfl rfl rfl rfl rfl (Nat.le_of_ble_eq_true rfl) ⟨Nat.le_of_ble_eq_true rfl, Nat.le_of_ble_eq_true rfl⟩ ⟨Nat.zero_le _, Nat.zero_le _⟩ dX1_valueBehind_51 (fun r51 u51 H locs hr51 hW => ?_)
  have hW := Wd.ord hW (ws' := ([(l0, .inr (1, [.ref tr, .ref rp, .ref bh])), (rp, .inr (4, [.int (u51.2 0), .int (u51.2 1), .int (u51.2 2), .int (u51.2 3), .int (u51.2 4)])), (bh, .inl (T 3, 5, .inr (.inr (.inr (.inr (fun j => some (bd j 0)))))))] ++ ((pblk T (bd 1) z) ++ ((pblk T q P) ++ ([(q4, .inl (T 0, 4, .inl E))]))))) [4, 5, 6, 7, 8, 9, 10, 0, 1, 2, 3, 11] rfl rfl
  subst hr51
  refine lv_istore (lv' := [(6, .int (valM 0 z)), (5, .ref ((bd 1) 0)), (0, .ref l0), (1, .ref (q 0)), (2, .int (nI h)), (3, .ref q4), (4, .int (nI 1))]) hx hb dX1_valueBehind_54 hl (by decide) rfl (fun ls hl => ?_)
  refine lv_aload hx hb dX1_valueBehind_56 (lv_at hl 1 rfl) ?_
  refine gf47 F hW 3 rfl rfl dX1_valueBehind_58 ?_
  refine lv_aload_n hx hb dX1_valueBehind_61 rfl (lv_at hl 3 rfl) ?_
  refine gf47 F hW 7 rfl rfl dX1_valueBehind_62 ?_
  refine lv_icmp_ne (tgt := 73) hx hb dX1_valueBehind_65 (by decide) (fun h65 => ?_) (fun h65 => ?_)
  · refine lv_iload hx hb dX1_valueBehind_73 (lv_at hl 0 rfl) ?_
    refine lv_ineg hx hb dX1_valueBehind_75 ?_
    exact retI F hr hlk rfl hW (fun j => if j = 1 then z else u51.1 j, u51.2) (by unfold vbM; rw [hz, if_neg h65]) rfl dX1_valueBehind_76
  · refine lv_iload hx hb dX1_valueBehind_68 (lv_at hl 0 rfl) ?_
    refine lv_goto (tgt := 76) hx hb dX1_valueBehind_70 (by decide) ?_
    exact retI F hr hlk rfl hW (fun j => if j = 1 then z else u51.1 j, u51.2) (by unfold vbM; rw [hz, if_pos h65]) rfl dX1_valueBehind_76
set_option maxHeartbeats 4000000 in
set_option maxRecDepth 100000 in
theorem c_valueOf1 (l : Launch) (D : va_G) (T : Nat → ClassId) (l0 tr rp bh q4 : Nat) (bd : Nat → Nat → Nat) (q : Nat → Nat) (bs : Nat → Nat → Int32) (rv E P : Nat → Int32) {S : Int} (hI : Iv S P) (hE : ∀ j, j < 4 → E j = P (34 + j)) : KI (S := (Nat → Nat → Int32) × (Nat → Int32)) l D T yX1_valueOf cX1_valueOf 6 (some .int) 5 [.ref l0, .ref (q 0), .ref q4, .int (nI 1)] ([(l0, .inr (1, [.ref tr, .ref rp, .ref bh])), (rp, .inr (4, [.int (rv 0), .int (rv 1), .int (rv 2), .int (rv 3), .int (rv 4)])), (bh, .inl (T 3, 5, .inr (.inr (.inr (.inr (fun j => some (bd j 0)))))))] ++ ((pblk T (bd 1) (bs 1)) ++ ((pblk T q P) ++ ([(q4, .inl (T 0, 4, .inl E))])))) (fun r _ => r = valM 1 P) (fun u => ([(l0, .inr (1, [.ref tr, .ref rp, .ref bh])), (rp, .inr (4, [.int (u.2 0), .int (u.2 1), .int (u.2 2), .int (u.2 3), .int (u.2 4)])), (bh, .inl (T 3, 5, .inr (.inr (.inr (.inr (fun j => some (bd j 0)))))))] ++ ((pblk T (bd 1) (u.1 1)) ++ ((pblk T q P) ++ ([(q4, .inl (T 0, 4, .inl E))]))))) := by
  refine KI.of (by decide +kernel) (Nat.le_of_ble_eq_true rfl) (fun p e s m below meth c A F hr hlk hW ls hl => ?_)
  have hx := F.1
  have hb := F.2.1
  have hl : lv_has ls 6 [(0, .ref l0), (1, .ref (q 0)), (2, .ref q4), (3, .int (nI 1))] := hl
  obtain ⟨hJ, ⟨k, hk, h26⟩, hov, ⟨mk, h28, hm1, hm2⟩, h36, h37, hex⟩ := id hI
  refine lv_aload_n hx hb dX1_valueOf_0 rfl (lv_at hl 1 rfl) ?_
  refine gf49 F hW 7 rfl rfl dX1_valueOf_1 ?_
  refine lv_if_ne (tgt := 11) hx hb dX1_valueOf_4 (by decide) (fun h4 => ?_) (fun h4 => ?_)
  · refine lv_aload_n hx hb dX1_valueOf_11 rfl (lv_at hl 1 rfl) ?_
    refine cRV (As := []) (rest := []) F hW hl cs348 (c_leadP l D T (q 0) (q 1) (q 2) (q 3) hk (P 26) (P 27) (P 28) h26 (fun j => P (24 + j))) [7, 10] rfl rfl 0 3 rfl rfl rfl rfl rfl (Nat.le_of_ble_eq_true rfl) ⟨Nat.le_of_ble_eq_true rfl, Nat.le_of_ble_eq_true rfl⟩ ⟨Nat.zero_le _, Nat.zero_le _⟩ dX1_valueOf_12 (fun r12 hr12 => ?_)
    subst hr12
    exact retI F hr hlk rfl hW (bs, rv) (by rw [valM_s, if_neg h4, lead_eq hk h26]) rfl dX1_valueOf_15
  · refine lv_iload_n hx hb dX1_valueOf_7 rfl (lv_at hl 3 rfl) ?_
    refine lv_if_gt (tgt := 16) hx hb dX1_valueOf_8 (by decide) (fun _ => ?_) (fun h9 => absurd (by decide) h9)
    refine lv_sipush (v := -10000) hx hb dX1_valueOf_16 (by decide) ?_
    refine lv_istore (lv' := [(4, .int (-10000)), (0, .ref l0), (1, .ref (q 0)), (2, .ref q4), (3, .int (nI 1))]) hx hb dX1_valueOf_19 hl (by decide) rfl (fun ls hl => ?_)
    refine lv_iconst (v := nI 0) hx hb dX1_valueOf_21 (by decide) ?_
    refine lv_istore (lv' := [(5, .int (nI 0)), (4, .int (-10000)), (0, .ref l0), (1, .ref (q 0)), (2, .ref q4), (3, .int (nI 1))]) hx hb dX1_valueOf_22 hl (by decide) rfl (fun ls hl => ?_)
    have hv : ∀ h, h < 12 → legM P h → -2000 ≤ (vbM 0 P h).toInt ∧ (vbM 0 P h).toInt ≤ 2000 := fun h hh hl => vbM_b hI 0 hh hl
    refine W.loop (fun z H2 locs2 ls2 => ∃ (n : Nat) (bs : Nat → Nat → Int32) (rv : Nat → Int32), n ≤ 12 ∧ z = 12 - n ∧ Wd D T A s ([(l0, .inr (1, [.ref tr, .ref rp, .ref bh])), (rp, .inr (4, [.int (rv 0), .int (rv 1), .int (rv 2), .int (rv 3), .int (rv 4)])), (bh, .inl (T 3, 5, .inr (.inr (.inr (.inr (fun j => some (bd j 0)))))))] ++ ((pblk T (bd 1) (bs 1)) ++ ((pblk T q P) ++ ([(q4, .inl (T 0, 4, .inl E))])))) H2 locs2 ∧ lv_has ls2 6 [(0, .ref l0), (1, .ref (q 0)), (2, .ref q4), (3, .int (nI 1)), (4, .int (gotM (scanM P (vbM 0 P) n))), (5, .int (nI n))]) ?_ 12 ⟨0, bs, rv, by omega, rfl, hW, by rw [scan_0, got_0]; exact lv_sub hl [2, 3, 4, 5, 1, 0] rfl⟩
    rintro z H locs ls ⟨n, bs, rv, hn, rfl, hW, hl⟩ ih
    refine lv_iload hx hb dX1_valueOf_24 (lv_at hl 5 rfl) ?_
    refine lv_bipush (v := nI 12) hx hb dX1_valueOf_26 (by decide) ?_
    refine lv_icmp_ge (tgt := 62) hx hb dX1_valueOf_28 (by decide) (fun h28x => ?_) (fun h28x => ?_)
    · have h9 : n = 12 := by have := n_le h28x (by omega) (by omega); omega
      subst h9
      refine lv_iload hx hb dX1_valueOf_62 (lv_at hl 4 rfl) ?_
      exact retI F hr hlk rfl hW (bs, rv) (by rw [valM_s, if_pos h4]) rfl dX1_valueOf_64
    · have h9 : n < 12 := n_nle h28x (by decide) (by omega)
      refine lv_aload_n hx hb dX1_valueOf_31 rfl (lv_at hl 1 rfl) ?_
      refine lv_iload hx hb dX1_valueOf_32 (lv_at hl 5 rfl) ?_
      refine cRV (As := [.int (nI n)]) (rest := []) F hW hl cs337 (c_canMoveFrom l D T (q 0) (q 1) (q 2) (q 3) (P 26) (P 27) (P 28) (fun j => P j) (h := n) (by omega)) [7, 8] rfl rfl 0 3 rfl rfl rfl rfl rfl (Nat.le_of_ble_eq_true rfl) ⟨Nat.le_of_ble_eq_true rfl, Nat.le_of_ble_eq_true rfl⟩ ⟨Nat.zero_le _, Nat.zero_le _⟩ dX1_valueOf_34 (fun r34 hr34 => ?_)
      subst hr34
      refine lv_if_eq (tgt := 56) hx hb dX1_valueOf_37 (by decide) (fun h37 => ?_) (fun h37 => ?_)
      · have hn2 : ¬ legM P n := bz.mp h37
        rw [← got_skip (v := (vbM 0 P)) hn2] at hl
        refine lv_iinc (v := nI (n + 1)) (lv' := [(5, .int (nI (n + 1))), (0, .ref l0), (1, .ref (q 0)), (2, .ref q4), (3, .int (nI 1)), (4, .int (gotM (scanM P (vbM 0 P) (n + 1))))]) hx hb dX1_valueOf_56 hl (k := 5) rfl (nI_add _ _) (by decide) rfl (fun ls hl => ?_)
        refine lv_goto (tgt := 24) hx hb dX1_valueOf_59 (by decide) ?_
        exact ih (12 - (n + 1)) _ _ _ (by omega) ⟨n + 1, bs, rv, by omega, rfl, hW, lv_sub hl [1, 2, 3, 4, 5, 0] rfl⟩
      · have hleg : legM P n := Decidable.not_not.mp (fun q => h37 (bz.mpr q))
        refine lv_iload hx hb dX1_valueOf_40 (lv_at hl 4 rfl) ?_
        refine lv_aload_n hx hb dX1_valueOf_42 rfl (lv_at hl 0 rfl) ?_
        refine lv_aload_n hx hb dX1_valueOf_43 rfl (lv_at hl 1 rfl) ?_
        refine lv_iload hx hb dX1_valueOf_44 (lv_at hl 5 rfl) ?_
        refine lv_aload_n hx hb dX1_valueOf_46 rfl (lv_at hl 2 rfl) ?_
        refine lv_iload_n hx hb dX1_valueOf_47 rfl (lv_at hl 3 rfl) ?_
        refine cIV (As := [.ref (q 0), .int (nI n), .ref q4, .int (nI 1)]) (rest := [.int (gotM (scanM P (vbM 0 P) n))]) (wr := []) F hW hl cs344 (c_valueBehind1 l D T l0 tr rp bh q4 bd q bs rv E P hI hE (h := n) h9 hleg) [0, 1, 2, 3, 4, 5, 6, 7, 8, 9, 10, 11] [] rfl rfl rfl rfl (by decide) 0 1 rfl rfl rfl rfl rfl (Nat.le_of_ble_eq_true rfl) ⟨Nat.le_of_ble_eq_true rfl, Nat.le_of_ble_eq_true rfl⟩ ⟨Nat.zero_le _, Nat.zero_le _⟩ dX1_valueOf_48 (fun r48 u48 H locs hr48 hW => ?_)
        have hW := Wd.ord hW (ws' := ([(l0, .inr (1, [.ref tr, .ref rp, .ref bh])), (rp, .inr (4, [.int (u48.2 0), .int (u48.2 1), .int (u48.2 2), .int (u48.2 3), .int (u48.2 4)])), (bh, .inl (T 3, 5, .inr (.inr (.inr (.inr (fun j => some (bd j 0)))))))] ++ ((pblk T (bd 1) (u48.1 1)) ++ ((pblk T q P) ++ ([(q4, .inl (T 0, 4, .inl E))]))))) [0, 1, 2, 3, 4, 5, 6, 7, 8, 9, 10, 11] rfl rfl
        subst hr48
        refine vmax F hl m383 (Nat.le_of_ble_eq_true rfl) (Nat.le_of_ble_eq_true rfl) ⟨Nat.zero_le _, Nat.zero_le _⟩ (z := gotM (scanM P (vbM 0 P) (n + 1))) (got_step h9 hv hleg) dX1_valueOf_51 ?_
        refine lv_istore (lv' := [(4, .int (gotM (scanM P (vbM 0 P) (n + 1)))), (0, .ref l0), (1, .ref (q 0)), (2, .ref q4), (3, .int (nI 1)), (5, .int (nI n))]) hx hb dX1_valueOf_54 hl (by decide) rfl (fun ls hl => ?_)
        refine lv_iinc (v := nI (n + 1)) (lv' := [(5, .int (nI (n + 1))), (4, .int (gotM (scanM P (vbM 0 P) (n + 1)))), (0, .ref l0), (1, .ref (q 0)), (2, .ref q4), (3, .int (nI 1))]) hx hb dX1_valueOf_56 hl (k := 5) rfl (nI_add _ _) (by decide) rfl (fun ls hl => ?_)
        refine lv_goto (tgt := 24) hx hb dX1_valueOf_59 (by decide) ?_
        exact ih (12 - (n + 1)) _ _ _ (by omega) ⟨n + 1, u48.1, u48.2, by omega, rfl, hW, lv_sub hl [2, 3, 4, 5, 1, 0] rfl⟩
set_option maxHeartbeats 4000000 in
set_option maxRecDepth 100000 in
theorem c_valueBehind2 (l : Launch) (D : va_G) (T : Nat → ClassId) (l0 tr rp bh q4 : Nat) (bd : Nat → Nat → Nat) (q : Nat → Nat) (bs : Nat → Nat → Int32) (rv E P : Nat → Int32) {S : Int} (hI : Iv S P) (hE : ∀ j, j < 4 → E j = P (34 + j)) {h : Nat} (hh : h < 12) (hleg : legM P h) : KI (S := (Nat → Nat → Int32) × (Nat → Int32)) l D T yX1_valueBehind cX1_valueBehind 7 (some .int) 6 [.ref l0, .ref (q 0), .int (nI h), .ref q4, .int (nI 2)] ([(l0, .inr (1, [.ref tr, .ref rp, .ref bh])), (rp, .inr (4, [.int (rv 0), .int (rv 1), .int (rv 2), .int (rv 3), .int (rv 4)])), (bh, .inl (T 3, 5, .inr (.inr (.inr (.inr (fun j => some (bd j 0)))))))] ++ ((pblk T (bd 1) (bs 1)) ++ ((pblk T (bd 2) (bs 2)) ++ ((pblk T q P) ++ ([(q4, .inl (T 0, 4, .inl E))]))))) (fun r _ => r = vbM 1 P h) (fun u => ([(l0, .inr (1, [.ref tr, .ref rp, .ref bh])), (rp, .inr (4, [.int (u.2 0), .int (u.2 1), .int (u.2 2), .int (u.2 3), .int (u.2 4)])), (bh, .inl (T 3, 5, .inr (.inr (.inr (.inr (fun j => some (bd j 0)))))))] ++ ((pblk T (bd 1) (u.1 1)) ++ ((pblk T (bd 2) (u.1 2)) ++ ((pblk T q P) ++ ([(q4, .inl (T 0, 4, .inl E))])))))) := by
  refine KI.of (by decide +kernel) (Nat.le_of_ble_eq_true rfl) (fun p e s m below meth c A F hr hlk hW ls hl => ?_)
  have hx := F.1
  have hb := F.2.1
  have hl : lv_has ls 7 [(0, .ref l0), (1, .ref (q 0)), (2, .int (nI h)), (3, .ref q4), (4, .int (nI 2))] := hl
  obtain ⟨hJ, ⟨k, hk, h26⟩, hov, ⟨mk, h28, hm1, hm2⟩, h36, h37, hex⟩ := id hI
  have hI2 := (hI.mv hh hleg).1
  refine lv_iload hx hb dX1_valueBehind_0 (lv_at hl 4 rfl) ?_
  refine lv_iconst (v := nI 1) hx hb dX1_valueBehind_2 (by decide) ?_
  refine lv_icmp_lt (tgt := 12) hx hb dX1_valueBehind_3 (by decide) (fun h9 => absurd h9 (by decide)) (fun _ => ?_)
  refine lv_iload hx hb dX1_valueBehind_6 (lv_at hl 4 rfl) ?_
  refine lv_iconst (v := nI 4) hx hb dX1_valueBehind_8 (by decide) ?_
  refine lv_icmp_le (tgt := 17) hx hb dX1_valueBehind_9 (by decide) (fun _ => ?_) (fun h9 => absurd (by decide) h9)
  have hset : ∀ j, 34 ≤ j → mvM P h j = P j := fun j hj => mvM_set hI hh hleg hj
  refine lv_aload_n hx hb dX1_valueBehind_17 rfl (lv_at hl 0 rfl) ?_
  refine gf180 F hW 0 rfl rfl dX1_valueBehind_18 ?_
  refine lv_iload hx hb dX1_valueBehind_21 (lv_at hl 4 rfl) ?_
  refine aald F hW 2 3 rfl rfl (r := (bd 2) 0) 2 rfl (by omega) (by decide) rfl dX1_valueBehind_23 ?_
  refine lv_astore (lv' := [(5, .ref ((bd 2) 0)), (0, .ref l0), (1, .ref (q 0)), (2, .int (nI h)), (3, .ref q4), (4, .int (nI 2))]) hx hb dX1_valueBehind_24 hl (by decide) rfl (fun ls hl => ?_)
  refine lv_aload hx hb dX1_valueBehind_26 (lv_at hl 0 rfl) ?_
  refine lv_aload_n hx hb dX1_valueBehind_28 rfl (lv_at hl 2 rfl) ?_
  refine cVV (As := [.ref (q 0)]) (rest := []) (wr := ([(l0, .inr (1, [.ref tr, .ref rp, .ref bh])), (rp, .inr (4, [.int (rv 0), .int (rv 1), .int (rv 2), .int (rv 3), .int (rv 4)])), (bh, .inl (T 3, 5, .inr (.inr (.inr (.inr (fun j => some (bd j 0)))))))] ++ ((pblk T (bd 1) (bs 1)) ++ ([(q4, .inl (T 0, 4, .inl E))])))) F hW hl cs352 (c_posCopy l D T ((bd 2) 0) ((bd 2) 1) ((bd 2) 2) ((bd 2) 3) (q 0) (q 1) (q 2) (q 3) ((bs 2) 26) ((bs 2) 27) ((bs 2) 28) (P 26) (P 27) (P 28) (fun j => (bs 2) j) (fun j => (bs 2) (12 + j)) (fun j => (bs 2) (24 + j)) (fun j => P j) (fun j => P (12 + j)) (fun j => P (24 + j)) hov) [7, 8, 9, 10, 11, 12, 13, 14] [0, 1, 2, 3, 4, 5, 6, 15] rfl rfl rfl rfl (by decide) 0 3 rfl rfl rfl rfl rfl (Nat.le_of_ble_eq_true rfl) ⟨Nat.le_of_ble_eq_true rfl, Nat.le_of_ble_eq_true rfl⟩ ⟨Nat.zero_le _, Nat.zero_le _⟩ dX1_valueBehind_29 (fun u29 H locs hr29 hW => ?_)
  have hW := Wd.ord hW (ws' := ([(l0, .inr (1, [.ref tr, .ref rp, .ref bh])), (rp, .inr (4, [.int (rv 0), .int (rv 1), .int (rv 2), .int (rv 3), .int (rv 4)])), (bh, .inl (T 3, 5, .inr (.inr (.inr (.inr (fun j => some (bd j 0)))))))] ++ ((pblk T (bd 1) (bs 1)) ++ ([((bd 2) 0, .inr (3, [.ref ((bd 2) 1), .ref ((bd 2) 2), .ref ((bd 2) 3), .int (P 26), .int (P 27), .int (P 28)])), ((bd 2) 1, .inl (T 0, 12, .inl (fun j => P j))), ((bd 2) 2, .inl (T 0, 12, .inl (fun j => P (12 + j)))), ((bd 2) 3, .inl (T 0, 2, .inl (fun j => P (24 + j))))] ++ ((pblk T q P) ++ ([(q4, .inl (T 0, 4, .inl E))])))))) [0, 1, 2, 3, 4, 5, 6, 8, 9, 10, 11, 12, 13, 14, 15, 7] rfl rfl
  refine lv_aload hx hb dX1_valueBehind_32 (lv_at hl 0 rfl) ?_
  refine lv_iload_n hx hb dX1_valueBehind_34 rfl (lv_at hl 3 rfl) ?_
  refine lv_aload_n hx hb dX1_valueBehind_35 rfl (lv_at hl 4 rfl) ?_
  refine lv_aload_n hx hb dX1_valueBehind_36 rfl (lv_at hl 1 rfl) ?_
  refine gf178 F hW 0 rfl rfl dX1_valueBehind_37 ?_
  refine cVV (As := [.int (nI h), .ref q4, .ref rp]) (rest := []) (wr := ([(l0, .inr (1, [.ref tr, .ref rp, .ref bh])), (bh, .inl (T 3, 5, .inr (.inr (.inr (.inr (fun j => some (bd j 0)))))))] ++ ((pblk T (bd 1) (bs 1)) ++ ((pblk T q P))))) F hW hl cs353 (c_makeMoveP l D T ((bd 2) 0) ((bd 2) 1) ((bd 2) 2) ((bd 2) 3) q4 rp (pl := k) hk (P 26) h26 (P 27) (P 28) (fun j => P j) (fun j => P (12 + j)) (fun j => P (24 + j)) E (rv 0) (rv 1) (rv 2) (rv 3) (rv 4) P ⟨fun _ _ => rfl, fun _ _ => rfl, fun _ _ => rfl⟩ rfl rfl hE (fr := h) hh hJ h36 h37 (leg_pos hleg) h26 hleg.1 h28 (hm2 hleg.1)) [7, 8, 9, 10, 15, 1] [0, 2, 3, 4, 5, 6, 11, 12, 13, 14] rfl rfl rfl rfl (by decide) 0 3 rfl rfl rfl rfl rfl (Nat.le_of_ble_eq_true rfl) ⟨Nat.le_of_ble_eq_true rfl, Nat.le_of_ble_eq_true rfl⟩ ⟨Nat.zero_le _, Nat.zero_le _⟩ dX1_valueBehind_40 (fun u40 H locs hr40 hW => ?_)
  have hW := Wd.ord hW (ws' := ([(l0, .inr (1, [.ref tr, .ref rp, .ref bh])), (rp, .inr (4, [.int ((mvM P h) 29), .int ((mvM P h) 30), .int ((mvM P h) 31), .int ((mvM P h) 32), .int ((mvM P h) 33)])), (bh, .inl (T 3, 5, .inr (.inr (.inr (.inr (fun j => some (bd j 0)))))))] ++ ((pblk T (bd 1) (bs 1)) ++ ([((bd 2) 0, .inr (3, [.ref ((bd 2) 1), .ref ((bd 2) 2), .ref ((bd 2) 3), .int ((mvM P h) 26), .int ((mvM P h) 27), .int ((mvM P h) 28)])), ((bd 2) 1, .inl (T 0, 12, .inl (fun j => (mvM P h) j))), ((bd 2) 2, .inl (T 0, 12, .inl (fun j => (mvM P h) (12 + j)))), ((bd 2) 3, .inl (T 0, 2, .inl (fun j => (mvM P h) (24 + j))))] ++ ((pblk T q P) ++ ([(q4, .inl (T 0, 4, .inl E))])))))) [0, 15, 1, 2, 3, 4, 5, 10, 11, 12, 13, 6, 7, 8, 9, 14] rfl rfl
  obtain ⟨z, hz⟩ : ∃ z, mvM P h = z := ⟨_, rfl⟩
  rw [hz] at hW hI2 hset
  refine lv_aload_n hx hb dX1_valueBehind_43 rfl (lv_at hl 1 rfl) ?_
  refine lv_aload hx hb dX1_valueBehind_44 (lv_at hl 0 rfl) ?_
  refine lv_aload_n hx hb dX1_valueBehind_46 rfl (lv_at hl 4 rfl) ?_
  refine lv_iload hx hb dX1_valueBehind_47 (lv_at hl 5 rfl) ?_
  refine lv_iconst (v := nI 1) hx hb dX1_valueBehind_49 (by decide) ?_
  refine isubE (z := nI 1) hx hb dX1_valueBehind_50 (by decide) ?_
  refine cIV (As := [.ref ((bd 2) 0), .ref q4, .int (nI 1)]) (rest := []) (wr := (pblk T q P)) F hW hl cs379 (c_valueOf1 l D T l0 tr rp bh q4 bd (bd 2) bs (fun j => z (29 + j)) E z hI2 (fun j hj => (hE j hj).trans (hset (34 + j) (by omega)).symm)) [0, 1, 2, 3, 4, 5, 6, 7, 8, 9, 10, 15] [11, 12, 13, 14] rfl rfl rfl rfl (by decide) 0 1 rfl rfl rfl rfl rfl (Nat.le_of_ble_eq_true rfl) ⟨Nat.le_of_ble_eq_true rfl, Nat.le_of_ble_eq_true rfl⟩ ⟨Nat.zero_le _, Nat.zero_le _⟩ dX1_valueBehind_51 (fun r51 u51 H locs hr51 hW => ?_)
  have hW := Wd.ord hW (ws' := ([(l0, .inr (1, [.ref tr, .ref rp, .ref bh])), (rp, .inr (4, [.int (u51.2 0), .int (u51.2 1), .int (u51.2 2), .int (u51.2 3), .int (u51.2 4)])), (bh, .inl (T 3, 5, .inr (.inr (.inr (.inr (fun j => some (bd j 0)))))))] ++ ((pblk T (bd 1) (u51.1 1)) ++ ((pblk T (bd 2) z) ++ ((pblk T q P) ++ ([(q4, .inl (T 0, 4, .inl E))])))))) [4, 5, 6, 7, 8, 9, 10, 11, 12, 13, 14, 0, 1, 2, 3, 15] rfl rfl
  subst hr51
  refine lv_istore (lv' := [(6, .int (valM 1 z)), (5, .ref ((bd 2) 0)), (0, .ref l0), (1, .ref (q 0)), (2, .int (nI h)), (3, .ref q4), (4, .int (nI 2))]) hx hb dX1_valueBehind_54 hl (by decide) rfl (fun ls hl => ?_)
  refine lv_aload hx hb dX1_valueBehind_56 (lv_at hl 1 rfl) ?_
  refine gf47 F hW 7 rfl rfl dX1_valueBehind_58 ?_
  refine lv_aload_n hx hb dX1_valueBehind_61 rfl (lv_at hl 3 rfl) ?_
  refine gf47 F hW 11 rfl rfl dX1_valueBehind_62 ?_
  refine lv_icmp_ne (tgt := 73) hx hb dX1_valueBehind_65 (by decide) (fun h65 => ?_) (fun h65 => ?_)
  · refine lv_iload hx hb dX1_valueBehind_73 (lv_at hl 0 rfl) ?_
    refine lv_ineg hx hb dX1_valueBehind_75 ?_
    exact retI F hr hlk rfl hW (fun j => if j = 2 then z else u51.1 j, u51.2) (by unfold vbM; rw [hz, if_neg h65]) rfl dX1_valueBehind_76
  · refine lv_iload hx hb dX1_valueBehind_68 (lv_at hl 0 rfl) ?_
    refine lv_goto (tgt := 76) hx hb dX1_valueBehind_70 (by decide) ?_
    exact retI F hr hlk rfl hW (fun j => if j = 2 then z else u51.1 j, u51.2) (by unfold vbM; rw [hz, if_pos h65]) rfl dX1_valueBehind_76
set_option maxHeartbeats 4000000 in
set_option maxRecDepth 100000 in
theorem c_valueOf2 (l : Launch) (D : va_G) (T : Nat → ClassId) (l0 tr rp bh q4 : Nat) (bd : Nat → Nat → Nat) (q : Nat → Nat) (bs : Nat → Nat → Int32) (rv E P : Nat → Int32) {S : Int} (hI : Iv S P) (hE : ∀ j, j < 4 → E j = P (34 + j)) : KI (S := (Nat → Nat → Int32) × (Nat → Int32)) l D T yX1_valueOf cX1_valueOf 6 (some .int) 7 [.ref l0, .ref (q 0), .ref q4, .int (nI 2)] ([(l0, .inr (1, [.ref tr, .ref rp, .ref bh])), (rp, .inr (4, [.int (rv 0), .int (rv 1), .int (rv 2), .int (rv 3), .int (rv 4)])), (bh, .inl (T 3, 5, .inr (.inr (.inr (.inr (fun j => some (bd j 0)))))))] ++ ((pblk T (bd 1) (bs 1)) ++ ((pblk T (bd 2) (bs 2)) ++ ((pblk T q P) ++ ([(q4, .inl (T 0, 4, .inl E))]))))) (fun r _ => r = valM 2 P) (fun u => ([(l0, .inr (1, [.ref tr, .ref rp, .ref bh])), (rp, .inr (4, [.int (u.2 0), .int (u.2 1), .int (u.2 2), .int (u.2 3), .int (u.2 4)])), (bh, .inl (T 3, 5, .inr (.inr (.inr (.inr (fun j => some (bd j 0)))))))] ++ ((pblk T (bd 1) (u.1 1)) ++ ((pblk T (bd 2) (u.1 2)) ++ ((pblk T q P) ++ ([(q4, .inl (T 0, 4, .inl E))])))))) := by
  refine KI.of (by decide +kernel) (Nat.le_of_ble_eq_true rfl) (fun p e s m below meth c A F hr hlk hW ls hl => ?_)
  have hx := F.1
  have hb := F.2.1
  have hl : lv_has ls 6 [(0, .ref l0), (1, .ref (q 0)), (2, .ref q4), (3, .int (nI 2))] := hl
  obtain ⟨hJ, ⟨k, hk, h26⟩, hov, ⟨mk, h28, hm1, hm2⟩, h36, h37, hex⟩ := id hI
  refine lv_aload_n hx hb dX1_valueOf_0 rfl (lv_at hl 1 rfl) ?_
  refine gf49 F hW 11 rfl rfl dX1_valueOf_1 ?_
  refine lv_if_ne (tgt := 11) hx hb dX1_valueOf_4 (by decide) (fun h4 => ?_) (fun h4 => ?_)
  · refine lv_aload_n hx hb dX1_valueOf_11 rfl (lv_at hl 1 rfl) ?_
    refine cRV (As := []) (rest := []) F hW hl cs348 (c_leadP l D T (q 0) (q 1) (q 2) (q 3) hk (P 26) (P 27) (P 28) h26 (fun j => P (24 + j))) [11, 14] rfl rfl 0 3 rfl rfl rfl rfl rfl (Nat.le_of_ble_eq_true rfl) ⟨Nat.le_of_ble_eq_true rfl, Nat.le_of_ble_eq_true rfl⟩ ⟨Nat.zero_le _, Nat.zero_le _⟩ dX1_valueOf_12 (fun r12 hr12 => ?_)
    subst hr12
    exact retI F hr hlk rfl hW (bs, rv) (by rw [valM_s, if_neg h4, lead_eq hk h26]) rfl dX1_valueOf_15
  · refine lv_iload_n hx hb dX1_valueOf_7 rfl (lv_at hl 3 rfl) ?_
    refine lv_if_gt (tgt := 16) hx hb dX1_valueOf_8 (by decide) (fun _ => ?_) (fun h9 => absurd (by decide) h9)
    refine lv_sipush (v := -10000) hx hb dX1_valueOf_16 (by decide) ?_
    refine lv_istore (lv' := [(4, .int (-10000)), (0, .ref l0), (1, .ref (q 0)), (2, .ref q4), (3, .int (nI 2))]) hx hb dX1_valueOf_19 hl (by decide) rfl (fun ls hl => ?_)
    refine lv_iconst (v := nI 0) hx hb dX1_valueOf_21 (by decide) ?_
    refine lv_istore (lv' := [(5, .int (nI 0)), (4, .int (-10000)), (0, .ref l0), (1, .ref (q 0)), (2, .ref q4), (3, .int (nI 2))]) hx hb dX1_valueOf_22 hl (by decide) rfl (fun ls hl => ?_)
    have hv : ∀ h, h < 12 → legM P h → -2000 ≤ (vbM 1 P h).toInt ∧ (vbM 1 P h).toInt ≤ 2000 := fun h hh hl => vbM_b hI 1 hh hl
    refine W.loop (fun z H2 locs2 ls2 => ∃ (n : Nat) (bs : Nat → Nat → Int32) (rv : Nat → Int32), n ≤ 12 ∧ z = 12 - n ∧ Wd D T A s ([(l0, .inr (1, [.ref tr, .ref rp, .ref bh])), (rp, .inr (4, [.int (rv 0), .int (rv 1), .int (rv 2), .int (rv 3), .int (rv 4)])), (bh, .inl (T 3, 5, .inr (.inr (.inr (.inr (fun j => some (bd j 0)))))))] ++ ((pblk T (bd 1) (bs 1)) ++ ((pblk T (bd 2) (bs 2)) ++ ((pblk T q P) ++ ([(q4, .inl (T 0, 4, .inl E))]))))) H2 locs2 ∧ lv_has ls2 6 [(0, .ref l0), (1, .ref (q 0)), (2, .ref q4), (3, .int (nI 2)), (4, .int (gotM (scanM P (vbM 1 P) n))), (5, .int (nI n))]) ?_ 12 ⟨0, bs, rv, by omega, rfl, hW, by rw [scan_0, got_0]; exact lv_sub hl [2, 3, 4, 5, 1, 0] rfl⟩
    rintro z H locs ls ⟨n, bs, rv, hn, rfl, hW, hl⟩ ih
    refine lv_iload hx hb dX1_valueOf_24 (lv_at hl 5 rfl) ?_
    refine lv_bipush (v := nI 12) hx hb dX1_valueOf_26 (by decide) ?_
    refine lv_icmp_ge (tgt := 62) hx hb dX1_valueOf_28 (by decide) (fun h28x => ?_) (fun h28x => ?_)
    · have h9 : n = 12 := by have := n_le h28x (by omega) (by omega); omega
      subst h9
      refine lv_iload hx hb dX1_valueOf_62 (lv_at hl 4 rfl) ?_
      exact retI F hr hlk rfl hW (bs, rv) (by rw [valM_s, if_pos h4]) rfl dX1_valueOf_64
    · have h9 : n < 12 := n_nle h28x (by decide) (by omega)
      refine lv_aload_n hx hb dX1_valueOf_31 rfl (lv_at hl 1 rfl) ?_
      refine lv_iload hx hb dX1_valueOf_32 (lv_at hl 5 rfl) ?_
      refine cRV (As := [.int (nI n)]) (rest := []) F hW hl cs337 (c_canMoveFrom l D T (q 0) (q 1) (q 2) (q 3) (P 26) (P 27) (P 28) (fun j => P j) (h := n) (by omega)) [11, 12] rfl rfl 0 3 rfl rfl rfl rfl rfl (Nat.le_of_ble_eq_true rfl) ⟨Nat.le_of_ble_eq_true rfl, Nat.le_of_ble_eq_true rfl⟩ ⟨Nat.zero_le _, Nat.zero_le _⟩ dX1_valueOf_34 (fun r34 hr34 => ?_)
      subst hr34
      refine lv_if_eq (tgt := 56) hx hb dX1_valueOf_37 (by decide) (fun h37 => ?_) (fun h37 => ?_)
      · have hn2 : ¬ legM P n := bz.mp h37
        rw [← got_skip (v := (vbM 1 P)) hn2] at hl
        refine lv_iinc (v := nI (n + 1)) (lv' := [(5, .int (nI (n + 1))), (0, .ref l0), (1, .ref (q 0)), (2, .ref q4), (3, .int (nI 2)), (4, .int (gotM (scanM P (vbM 1 P) (n + 1))))]) hx hb dX1_valueOf_56 hl (k := 5) rfl (nI_add _ _) (by decide) rfl (fun ls hl => ?_)
        refine lv_goto (tgt := 24) hx hb dX1_valueOf_59 (by decide) ?_
        exact ih (12 - (n + 1)) _ _ _ (by omega) ⟨n + 1, bs, rv, by omega, rfl, hW, lv_sub hl [1, 2, 3, 4, 5, 0] rfl⟩
      · have hleg : legM P n := Decidable.not_not.mp (fun q => h37 (bz.mpr q))
        refine lv_iload hx hb dX1_valueOf_40 (lv_at hl 4 rfl) ?_
        refine lv_aload_n hx hb dX1_valueOf_42 rfl (lv_at hl 0 rfl) ?_
        refine lv_aload_n hx hb dX1_valueOf_43 rfl (lv_at hl 1 rfl) ?_
        refine lv_iload hx hb dX1_valueOf_44 (lv_at hl 5 rfl) ?_
        refine lv_aload_n hx hb dX1_valueOf_46 rfl (lv_at hl 2 rfl) ?_
        refine lv_iload_n hx hb dX1_valueOf_47 rfl (lv_at hl 3 rfl) ?_
        refine cIV (As := [.ref (q 0), .int (nI n), .ref q4, .int (nI 2)]) (rest := [.int (gotM (scanM P (vbM 1 P) n))]) (wr := []) F hW hl cs344 (c_valueBehind2 l D T l0 tr rp bh q4 bd q bs rv E P hI hE (h := n) h9 hleg) [0, 1, 2, 3, 4, 5, 6, 7, 8, 9, 10, 11, 12, 13, 14, 15] [] rfl rfl rfl rfl (by decide) 0 1 rfl rfl rfl rfl rfl (Nat.le_of_ble_eq_true rfl) ⟨Nat.le_of_ble_eq_true rfl, Nat.le_of_ble_eq_true rfl⟩ ⟨Nat.zero_le _, Nat.zero_le _⟩ dX1_valueOf_48 (fun r48 u48 H locs hr48 hW => ?_)
        have hW := Wd.ord hW (ws' := ([(l0, .inr (1, [.ref tr, .ref rp, .ref bh])), (rp, .inr (4, [.int (u48.2 0), .int (u48.2 1), .int (u48.2 2), .int (u48.2 3), .int (u48.2 4)])), (bh, .inl (T 3, 5, .inr (.inr (.inr (.inr (fun j => some (bd j 0)))))))] ++ ((pblk T (bd 1) (u48.1 1)) ++ ((pblk T (bd 2) (u48.1 2)) ++ ((pblk T q P) ++ ([(q4, .inl (T 0, 4, .inl E))])))))) [0, 1, 2, 3, 4, 5, 6, 7, 8, 9, 10, 11, 12, 13, 14, 15] rfl rfl
        subst hr48
        refine vmax F hl m383 (Nat.le_of_ble_eq_true rfl) (Nat.le_of_ble_eq_true rfl) ⟨Nat.zero_le _, Nat.zero_le _⟩ (z := gotM (scanM P (vbM 1 P) (n + 1))) (got_step h9 hv hleg) dX1_valueOf_51 ?_
        refine lv_istore (lv' := [(4, .int (gotM (scanM P (vbM 1 P) (n + 1)))), (0, .ref l0), (1, .ref (q 0)), (2, .ref q4), (3, .int (nI 2)), (5, .int (nI n))]) hx hb dX1_valueOf_54 hl (by decide) rfl (fun ls hl => ?_)
        refine lv_iinc (v := nI (n + 1)) (lv' := [(5, .int (nI (n + 1))), (4, .int (gotM (scanM P (vbM 1 P) (n + 1)))), (0, .ref l0), (1, .ref (q 0)), (2, .ref q4), (3, .int (nI 2))]) hx hb dX1_valueOf_56 hl (k := 5) rfl (nI_add _ _) (by decide) rfl (fun ls hl => ?_)
        refine lv_goto (tgt := 24) hx hb dX1_valueOf_59 (by decide) ?_
        exact ih (12 - (n + 1)) _ _ _ (by omega) ⟨n + 1, u48.1, u48.2, by omega, rfl, hW, lv_sub hl [2, 3, 4, 5, 1, 0] rfl⟩
set_option maxHeartbeats 4000000 in
set_option maxRecDepth 100000 in
theorem c_valueBehind3 (l : Launch) (D : va_G) (T : Nat → ClassId) (l0 tr rp bh q4 : Nat) (bd : Nat → Nat → Nat) (q : Nat → Nat) (bs : Nat → Nat → Int32) (rv E P : Nat → Int32) {S : Int} (hI : Iv S P) (hE : ∀ j, j < 4 → E j = P (34 + j)) {h : Nat} (hh : h < 12) (hleg : legM P h) : KI (S := (Nat → Nat → Int32) × (Nat → Int32)) l D T yX1_valueBehind cX1_valueBehind 7 (some .int) 8 [.ref l0, .ref (q 0), .int (nI h), .ref q4, .int (nI 3)] ([(l0, .inr (1, [.ref tr, .ref rp, .ref bh])), (rp, .inr (4, [.int (rv 0), .int (rv 1), .int (rv 2), .int (rv 3), .int (rv 4)])), (bh, .inl (T 3, 5, .inr (.inr (.inr (.inr (fun j => some (bd j 0)))))))] ++ ((pblk T (bd 1) (bs 1)) ++ ((pblk T (bd 2) (bs 2)) ++ ((pblk T (bd 3) (bs 3)) ++ ((pblk T q P) ++ ([(q4, .inl (T 0, 4, .inl E))])))))) (fun r _ => r = vbM 2 P h) (fun u => ([(l0, .inr (1, [.ref tr, .ref rp, .ref bh])), (rp, .inr (4, [.int (u.2 0), .int (u.2 1), .int (u.2 2), .int (u.2 3), .int (u.2 4)])), (bh, .inl (T 3, 5, .inr (.inr (.inr (.inr (fun j => some (bd j 0)))))))] ++ ((pblk T (bd 1) (u.1 1)) ++ ((pblk T (bd 2) (u.1 2)) ++ ((pblk T (bd 3) (u.1 3)) ++ ((pblk T q P) ++ ([(q4, .inl (T 0, 4, .inl E))]))))))) := by
  refine KI.of (by decide +kernel) (Nat.le_of_ble_eq_true rfl) (fun p e s m below meth c A F hr hlk hW ls hl => ?_)
  have hx := F.1
  have hb := F.2.1
  have hl : lv_has ls 7 [(0, .ref l0), (1, .ref (q 0)), (2, .int (nI h)), (3, .ref q4), (4, .int (nI 3))] := hl
  obtain ⟨hJ, ⟨k, hk, h26⟩, hov, ⟨mk, h28, hm1, hm2⟩, h36, h37, hex⟩ := id hI
  have hI2 := (hI.mv hh hleg).1
  refine lv_iload hx hb dX1_valueBehind_0 (lv_at hl 4 rfl) ?_
  refine lv_iconst (v := nI 1) hx hb dX1_valueBehind_2 (by decide) ?_
  refine lv_icmp_lt (tgt := 12) hx hb dX1_valueBehind_3 (by decide) (fun h9 => absurd h9 (by decide)) (fun _ => ?_)
  refine lv_iload hx hb dX1_valueBehind_6 (lv_at hl 4 rfl) ?_
  refine lv_iconst (v := nI 4) hx hb dX1_valueBehind_8 (by decide) ?_
  refine lv_icmp_le (tgt := 17) hx hb dX1_valueBehind_9 (by decide) (fun _ => ?_) (fun h9 => absurd (by decide) h9)
  have hset : ∀ j, 34 ≤ j → mvM P h j = P j := fun j hj => mvM_set hI hh hleg hj
  refine lv_aload_n hx hb dX1_valueBehind_17 rfl (lv_at hl 0 rfl) ?_
  refine gf180 F hW 0 rfl rfl dX1_valueBehind_18 ?_
  refine lv_iload hx hb dX1_valueBehind_21 (lv_at hl 4 rfl) ?_
  refine aald F hW 2 3 rfl rfl (r := (bd 3) 0) 3 rfl (by omega) (by decide) rfl dX1_valueBehind_23 ?_
  refine lv_astore (lv' := [(5, .ref ((bd 3) 0)), (0, .ref l0), (1, .ref (q 0)), (2, .int (nI h)), (3, .ref q4), (4, .int (nI 3))]) hx hb dX1_valueBehind_24 hl (by decide) rfl (fun ls hl => ?_)
  refine lv_aload hx hb dX1_valueBehind_26 (lv_at hl 0 rfl) ?_
  refine lv_aload_n hx hb dX1_valueBehind_28 rfl (lv_at hl 2 rfl) ?_
  refine cVV (As := [.ref (q 0)]) (rest := []) (wr := ([(l0, .inr (1, [.ref tr, .ref rp, .ref bh])), (rp, .inr (4, [.int (rv 0), .int (rv 1), .int (rv 2), .int (rv 3), .int (rv 4)])), (bh, .inl (T 3, 5, .inr (.inr (.inr (.inr (fun j => some (bd j 0)))))))] ++ ((pblk T (bd 1) (bs 1)) ++ ((pblk T (bd 2) (bs 2)) ++ ([(q4, .inl (T 0, 4, .inl E))]))))) F hW hl cs352 (c_posCopy l D T ((bd 3) 0) ((bd 3) 1) ((bd 3) 2) ((bd 3) 3) (q 0) (q 1) (q 2) (q 3) ((bs 3) 26) ((bs 3) 27) ((bs 3) 28) (P 26) (P 27) (P 28) (fun j => (bs 3) j) (fun j => (bs 3) (12 + j)) (fun j => (bs 3) (24 + j)) (fun j => P j) (fun j => P (12 + j)) (fun j => P (24 + j)) hov) [11, 12, 13, 14, 15, 16, 17, 18] [0, 1, 2, 3, 4, 5, 6, 7, 8, 9, 10, 19] rfl rfl rfl rfl (by decide) 0 3 rfl rfl rfl rfl rfl (Nat.le_of_ble_eq_true rfl) ⟨Nat.le_of_ble_eq_true rfl, Nat.le_of_ble_eq_true rfl⟩ ⟨Nat.zero_le _, Nat.zero_le _⟩ dX1_valueBehind_29 (fun u29 H locs hr29 hW => ?_)
  have hW := Wd.ord hW (ws' := ([(l0, .inr (1, [.ref tr, .ref rp, .ref bh])), (rp, .inr (4, [.int (rv 0), .int (rv 1), .int (rv 2), .int (rv 3), .int (rv 4)])), (bh, .inl (T 3, 5, .inr (.inr (.inr (.inr (fun j => some (bd j 0)))))))] ++ ((pblk T (bd 1) (bs 1)) ++ ((pblk T (bd 2) (bs 2)) ++ ([((bd 3) 0, .inr (3, [.ref ((bd 3) 1), .ref ((bd 3) 2), .ref ((bd 3) 3), .int (P 26), .int (P 27), .int (P 28)])), ((bd 3) 1, .inl (T 0, 12, .inl (fun j => P j))), ((bd 3) 2, .inl (T 0, 12, .inl (fun j => P (12 + j)))), ((bd 3) 3, .inl (T 0, 2, .inl (fun j => P (24 + j))))] ++ ((pblk T q P) ++ ([(q4, .inl (T 0, 4, .inl E))]))))))) [0, 1, 2, 3, 4, 5, 6, 7, 8, 9, 10, 12, 13, 14, 15, 16, 17, 18, 19, 11] rfl rfl
  refine lv_aload hx hb dX1_valueBehind_32 (lv_at hl 0 rfl) ?_
  refine lv_iload_n hx hb dX1_valueBehind_34 rfl (lv_at hl 3 rfl) ?_
  refine lv_aload_n hx hb dX1_valueBehind_35 rfl (lv_at hl 4 rfl) ?_
  refine lv_aload_n hx hb dX1_valueBehind_36 rfl (lv_at hl 1 rfl) ?_
  refine gf178 F hW 0 rfl rfl dX1_valueBehind_37 ?_
  refine cVV (As := [.int (nI h), .ref q4, .ref rp]) (rest := []) (wr := ([(l0, .inr (1, [.ref tr, .ref rp, .ref bh])), (bh, .inl (T 3, 5, .inr (.inr (.inr (.inr (fun j => some (bd j 0)))))))] ++ ((pblk T (bd 1) (bs 1)) ++ ((pblk T (bd 2) (bs 2)) ++ ((pblk T q P)))))) F hW hl cs353 (c_makeMoveP l D T ((bd 3) 0) ((bd 3) 1) ((bd 3) 2) ((bd 3) 3) q4 rp (pl := k) hk (P 26) h26 (P 27) (P 28) (fun j => P j) (fun j => P (12 + j)) (fun j => P (24 + j)) E (rv 0) (rv 1) (rv 2) (rv 3) (rv 4) P ⟨fun _ _ => rfl, fun _ _ => rfl, fun _ _ => rfl⟩ rfl rfl hE (fr := h) hh hJ h36 h37 (leg_pos hleg) h26 hleg.1 h28 (hm2 hleg.1)) [11, 12, 13, 14, 19, 1] [0, 2, 3, 4, 5, 6, 7, 8, 9, 10, 15, 16, 17, 18] rfl rfl rfl rfl (by decide) 0 3 rfl rfl rfl rfl rfl (Nat.le_of_ble_eq_true rfl) ⟨Nat.le_of_ble_eq_true rfl, Nat.le_of_ble_eq_true rfl⟩ ⟨Nat.zero_le _, Nat.zero_le _⟩ dX1_valueBehind_40 (fun u40 H locs hr40 hW => ?_)
  have hW := Wd.ord hW (ws' := ([(l0, .inr (1, [.ref tr, .ref rp, .ref bh])), (rp, .inr (4, [.int ((mvM P h) 29), .int ((mvM P h) 30), .int ((mvM P h) 31), .int ((mvM P h) 32), .int ((mvM P h) 33)])), (bh, .inl (T 3, 5, .inr (.inr (.inr (.inr (fun j => some (bd j 0)))))))] ++ ((pblk T (bd 1) (bs 1)) ++ ((pblk T (bd 2) (bs 2)) ++ ([((bd 3) 0, .inr (3, [.ref ((bd 3) 1), .ref ((bd 3) 2), .ref ((bd 3) 3), .int ((mvM P h) 26), .int ((mvM P h) 27), .int ((mvM P h) 28)])), ((bd 3) 1, .inl (T 0, 12, .inl (fun j => (mvM P h) j))), ((bd 3) 2, .inl (T 0, 12, .inl (fun j => (mvM P h) (12 + j)))), ((bd 3) 3, .inl (T 0, 2, .inl (fun j => (mvM P h) (24 + j))))] ++ ((pblk T q P) ++ ([(q4, .inl (T 0, 4, .inl E))]))))))) [0, 19, 1, 2, 3, 4, 5, 6, 7, 8, 9, 14, 15, 16, 17, 10, 11, 12, 13, 18] rfl rfl
  obtain ⟨z, hz⟩ : ∃ z, mvM P h = z := ⟨_, rfl⟩
  rw [hz] at hW hI2 hset
  refine lv_aload_n hx hb dX1_valueBehind_43 rfl (lv_at hl 1 rfl) ?_
  refine lv_aload hx hb dX1_valueBehind_44 (lv_at hl 0 rfl) ?_
  refine lv_aload_n hx hb dX1_valueBehind_46 rfl (lv_at hl 4 rfl) ?_
  refine lv_iload hx hb dX1_valueBehind_47 (lv_at hl 5 rfl) ?_
  refine lv_iconst (v := nI 1) hx hb dX1_valueBehind_49 (by decide) ?_
  refine isubE (z := nI 2) hx hb dX1_valueBehind_50 (by decide) ?_
  refine cIV (As := [.ref ((bd 3) 0), .ref q4, .int (nI 2)]) (rest := []) (wr := (pblk T q P)) F hW hl cs379 (c_valueOf2 l D T l0 tr rp bh q4 bd (bd 3) bs (fun j => z (29 + j)) E z hI2 (fun j hj => (hE j hj).trans (hset (34 + j) (by omega)).symm)) [0, 1, 2, 3, 4, 5, 6, 7, 8, 9, 10, 11, 12, 13, 14, 19] [15, 16, 17, 18] rfl rfl rfl rfl (by decide) 0 1 rfl rfl rfl rfl rfl (Nat.le_of_ble_eq_true rfl) ⟨Nat.le_of_ble_eq_true rfl, Nat.le_of_ble_eq_true rfl⟩ ⟨Nat.zero_le _, Nat.zero_le _⟩ dX1_valueBehind_51 (fun r51 u51 H locs hr51 hW => ?_)
  have hW := Wd.ord hW (ws' := ([(l0, .inr (1, [.ref tr, .ref rp, .ref bh])), (rp, .inr (4, [.int (u51.2 0), .int (u51.2 1), .int (u51.2 2), .int (u51.2 3), .int (u51.2 4)])), (bh, .inl (T 3, 5, .inr (.inr (.inr (.inr (fun j => some (bd j 0)))))))] ++ ((pblk T (bd 1) (u51.1 1)) ++ ((pblk T (bd 2) (u51.1 2)) ++ ((pblk T (bd 3) z) ++ ((pblk T q P) ++ ([(q4, .inl (T 0, 4, .inl E))]))))))) [4, 5, 6, 7, 8, 9, 10, 11, 12, 13, 14, 15, 16, 17, 18, 0, 1, 2, 3, 19] rfl rfl
  subst hr51
  refine lv_istore (lv' := [(6, .int (valM 2 z)), (5, .ref ((bd 3) 0)), (0, .ref l0), (1, .ref (q 0)), (2, .int (nI h)), (3, .ref q4), (4, .int (nI 3))]) hx hb dX1_valueBehind_54 hl (by decide) rfl (fun ls hl => ?_)
  refine lv_aload hx hb dX1_valueBehind_56 (lv_at hl 1 rfl) ?_
  refine gf47 F hW 11 rfl rfl dX1_valueBehind_58 ?_
  refine lv_aload_n hx hb dX1_valueBehind_61 rfl (lv_at hl 3 rfl) ?_
  refine gf47 F hW 15 rfl rfl dX1_valueBehind_62 ?_
  refine lv_icmp_ne (tgt := 73) hx hb dX1_valueBehind_65 (by decide) (fun h65 => ?_) (fun h65 => ?_)
  · refine lv_iload hx hb dX1_valueBehind_73 (lv_at hl 0 rfl) ?_
    refine lv_ineg hx hb dX1_valueBehind_75 ?_
    exact retI F hr hlk rfl hW (fun j => if j = 3 then z else u51.1 j, u51.2) (by unfold vbM; rw [hz, if_neg h65]) rfl dX1_valueBehind_76
  · refine lv_iload hx hb dX1_valueBehind_68 (lv_at hl 0 rfl) ?_
    refine lv_goto (tgt := 76) hx hb dX1_valueBehind_70 (by decide) ?_
    exact retI F hr hlk rfl hW (fun j => if j = 3 then z else u51.1 j, u51.2) (by unfold vbM; rw [hz, if_pos h65]) rfl dX1_valueBehind_76
set_option maxHeartbeats 4000000 in
set_option maxRecDepth 100000 in
theorem c_valueOf3 (l : Launch) (D : va_G) (T : Nat → ClassId) (l0 tr rp bh q4 : Nat) (bd : Nat → Nat → Nat) (q : Nat → Nat) (bs : Nat → Nat → Int32) (rv E P : Nat → Int32) {S : Int} (hI : Iv S P) (hE : ∀ j, j < 4 → E j = P (34 + j)) : KI (S := (Nat → Nat → Int32) × (Nat → Int32)) l D T yX1_valueOf cX1_valueOf 6 (some .int) 9 [.ref l0, .ref (q 0), .ref q4, .int (nI 3)] ([(l0, .inr (1, [.ref tr, .ref rp, .ref bh])), (rp, .inr (4, [.int (rv 0), .int (rv 1), .int (rv 2), .int (rv 3), .int (rv 4)])), (bh, .inl (T 3, 5, .inr (.inr (.inr (.inr (fun j => some (bd j 0)))))))] ++ ((pblk T (bd 1) (bs 1)) ++ ((pblk T (bd 2) (bs 2)) ++ ((pblk T (bd 3) (bs 3)) ++ ((pblk T q P) ++ ([(q4, .inl (T 0, 4, .inl E))])))))) (fun r _ => r = valM 3 P) (fun u => ([(l0, .inr (1, [.ref tr, .ref rp, .ref bh])), (rp, .inr (4, [.int (u.2 0), .int (u.2 1), .int (u.2 2), .int (u.2 3), .int (u.2 4)])), (bh, .inl (T 3, 5, .inr (.inr (.inr (.inr (fun j => some (bd j 0)))))))] ++ ((pblk T (bd 1) (u.1 1)) ++ ((pblk T (bd 2) (u.1 2)) ++ ((pblk T (bd 3) (u.1 3)) ++ ((pblk T q P) ++ ([(q4, .inl (T 0, 4, .inl E))]))))))) := by
  refine KI.of (by decide +kernel) (Nat.le_of_ble_eq_true rfl) (fun p e s m below meth c A F hr hlk hW ls hl => ?_)
  have hx := F.1
  have hb := F.2.1
  have hl : lv_has ls 6 [(0, .ref l0), (1, .ref (q 0)), (2, .ref q4), (3, .int (nI 3))] := hl
  obtain ⟨hJ, ⟨k, hk, h26⟩, hov, ⟨mk, h28, hm1, hm2⟩, h36, h37, hex⟩ := id hI
  refine lv_aload_n hx hb dX1_valueOf_0 rfl (lv_at hl 1 rfl) ?_
  refine gf49 F hW 15 rfl rfl dX1_valueOf_1 ?_
  refine lv_if_ne (tgt := 11) hx hb dX1_valueOf_4 (by decide) (fun h4 => ?_) (fun h4 => ?_)
  · refine lv_aload_n hx hb dX1_valueOf_11 rfl (lv_at hl 1 rfl) ?_
    refine cRV (As := []) (rest := []) F hW hl cs348 (c_leadP l D T (q 0) (q 1) (q 2) (q 3) hk (P 26) (P 27) (P 28) h26 (fun j => P (24 + j))) [15, 18] rfl rfl 0 3 rfl rfl rfl rfl rfl (Nat.le_of_ble_eq_true rfl) ⟨Nat.le_of_ble_eq_true rfl, Nat.le_of_ble_eq_true rfl⟩ ⟨Nat.zero_le _, Nat.zero_le _⟩ dX1_valueOf_12 (fun r12 hr12 => ?_)
    subst hr12
    exact retI F hr hlk rfl hW (bs, rv) (by rw [valM_s, if_neg h4, lead_eq hk h26]) rfl dX1_valueOf_15
  · refine lv_iload_n hx hb dX1_valueOf_7 rfl (lv_at hl 3 rfl) ?_
    refine lv_if_gt (tgt := 16) hx hb dX1_valueOf_8 (by decide) (fun _ => ?_) (fun h9 => absurd (by decide) h9)
    refine lv_sipush (v := -10000) hx hb dX1_valueOf_16 (by decide) ?_
    refine lv_istore (lv' := [(4, .int (-10000)), (0, .ref l0), (1, .ref (q 0)), (2, .ref q4), (3, .int (nI 3))]) hx hb dX1_valueOf_19 hl (by decide) rfl (fun ls hl => ?_)
    refine lv_iconst (v := nI 0) hx hb dX1_valueOf_21 (by decide) ?_
    refine lv_istore (lv' := [(5, .int (nI 0)), (4, .int (-10000)), (0, .ref l0), (1, .ref (q 0)), (2, .ref q4), (3, .int (nI 3))]) hx hb dX1_valueOf_22 hl (by decide) rfl (fun ls hl => ?_)
    have hv : ∀ h, h < 12 → legM P h → -2000 ≤ (vbM 2 P h).toInt ∧ (vbM 2 P h).toInt ≤ 2000 := fun h hh hl => vbM_b hI 2 hh hl
    refine W.loop (fun z H2 locs2 ls2 => ∃ (n : Nat) (bs : Nat → Nat → Int32) (rv : Nat → Int32), n ≤ 12 ∧ z = 12 - n ∧ Wd D T A s ([(l0, .inr (1, [.ref tr, .ref rp, .ref bh])), (rp, .inr (4, [.int (rv 0), .int (rv 1), .int (rv 2), .int (rv 3), .int (rv 4)])), (bh, .inl (T 3, 5, .inr (.inr (.inr (.inr (fun j => some (bd j 0)))))))] ++ ((pblk T (bd 1) (bs 1)) ++ ((pblk T (bd 2) (bs 2)) ++ ((pblk T (bd 3) (bs 3)) ++ ((pblk T q P) ++ ([(q4, .inl (T 0, 4, .inl E))])))))) H2 locs2 ∧ lv_has ls2 6 [(0, .ref l0), (1, .ref (q 0)), (2, .ref q4), (3, .int (nI 3)), (4, .int (gotM (scanM P (vbM 2 P) n))), (5, .int (nI n))]) ?_ 12 ⟨0, bs, rv, by omega, rfl, hW, by rw [scan_0, got_0]; exact lv_sub hl [2, 3, 4, 5, 1, 0] rfl⟩
    rintro z H locs ls ⟨n, bs, rv, hn, rfl, hW, hl⟩ ih
    refine lv_iload hx hb dX1_valueOf_24 (lv_at hl 5 rfl) ?_
    refine lv_bipush (v := nI 12) hx hb dX1_valueOf_26 (by decide) ?_
    refine lv_icmp_ge (tgt := 62) hx hb dX1_valueOf_28 (by decide) (fun h28x => ?_) (fun h28x => ?_)
    · have h9 : n = 12 := by have := n_le h28x (by omega) (by omega); omega
      subst h9
      refine lv_iload hx hb dX1_valueOf_62 (lv_at hl 4 rfl) ?_
      exact retI F hr hlk rfl hW (bs, rv) (by rw [valM_s, if_pos h4]) rfl dX1_valueOf_64
    · have h9 : n < 12 := n_nle h28x (by decide) (by omega)
      refine lv_aload_n hx hb dX1_valueOf_31 rfl (lv_at hl 1 rfl) ?_
      refine lv_iload hx hb dX1_valueOf_32 (lv_at hl 5 rfl) ?_
      refine cRV (As := [.int (nI n)]) (rest := []) F hW hl cs337 (c_canMoveFrom l D T (q 0) (q 1) (q 2) (q 3) (P 26) (P 27) (P 28) (fun j => P j) (h := n) (by omega)) [15, 16] rfl rfl 0 3 rfl rfl rfl rfl rfl (Nat.le_of_ble_eq_true rfl) ⟨Nat.le_of_ble_eq_true rfl, Nat.le_of_ble_eq_true rfl⟩ ⟨Nat.zero_le _, Nat.zero_le _⟩ dX1_valueOf_34 (fun r34 hr34 => ?_)
      subst hr34
      refine lv_if_eq (tgt := 56) hx hb dX1_valueOf_37 (by decide) (fun h37 => ?_) (fun h37 => ?_)
      · have hn2 : ¬ legM P n := bz.mp h37
        rw [← got_skip (v := (vbM 2 P)) hn2] at hl
        refine lv_iinc (v := nI (n + 1)) (lv' := [(5, .int (nI (n + 1))), (0, .ref l0), (1, .ref (q 0)), (2, .ref q4), (3, .int (nI 3)), (4, .int (gotM (scanM P (vbM 2 P) (n + 1))))]) hx hb dX1_valueOf_56 hl (k := 5) rfl (nI_add _ _) (by decide) rfl (fun ls hl => ?_)
        refine lv_goto (tgt := 24) hx hb dX1_valueOf_59 (by decide) ?_
        exact ih (12 - (n + 1)) _ _ _ (by omega) ⟨n + 1, bs, rv, by omega, rfl, hW, lv_sub hl [1, 2, 3, 4, 5, 0] rfl⟩
      · have hleg : legM P n := Decidable.not_not.mp (fun q => h37 (bz.mpr q))
        refine lv_iload hx hb dX1_valueOf_40 (lv_at hl 4 rfl) ?_
        refine lv_aload_n hx hb dX1_valueOf_42 rfl (lv_at hl 0 rfl) ?_
        refine lv_aload_n hx hb dX1_valueOf_43 rfl (lv_at hl 1 rfl) ?_
        refine lv_iload hx hb dX1_valueOf_44 (lv_at hl 5 rfl) ?_
        refine lv_aload_n hx hb dX1_valueOf_46 rfl (lv_at hl 2 rfl) ?_
        refine lv_iload_n hx hb dX1_valueOf_47 rfl (lv_at hl 3 rfl) ?_
        refine cIV (As := [.ref (q 0), .int (nI n), .ref q4, .int (nI 3)]) (rest := [.int (gotM (scanM P (vbM 2 P) n))]) (wr := []) F hW hl cs344 (c_valueBehind3 l D T l0 tr rp bh q4 bd q bs rv E P hI hE (h := n) h9 hleg) [0, 1, 2, 3, 4, 5, 6, 7, 8, 9, 10, 11, 12, 13, 14, 15, 16, 17, 18, 19] [] rfl rfl rfl rfl (by decide) 0 1 rfl rfl rfl rfl rfl (Nat.le_of_ble_eq_true rfl) ⟨Nat.le_of_ble_eq_true rfl, Nat.le_of_ble_eq_true rfl⟩ ⟨Nat.zero_le _, Nat.zero_le _⟩ dX1_valueOf_48 (fun r48 u48 H locs hr48 hW => ?_)
        have hW := Wd.ord hW (ws' := ([(l0, .inr (1, [.ref tr, .ref rp, .ref bh])), (rp, .inr (4, [.int (u48.2 0), .int (u48.2 1), .int (u48.2 2), .int (u48.2 3), .int (u48.2 4)])), (bh, .inl (T 3, 5, .inr (.inr (.inr (.inr (fun j => some (bd j 0)))))))] ++ ((pblk T (bd 1) (u48.1 1)) ++ ((pblk T (bd 2) (u48.1 2)) ++ ((pblk T (bd 3) (u48.1 3)) ++ ((pblk T q P) ++ ([(q4, .inl (T 0, 4, .inl E))]))))))) [0, 1, 2, 3, 4, 5, 6, 7, 8, 9, 10, 11, 12, 13, 14, 15, 16, 17, 18, 19] rfl rfl
        subst hr48
        refine vmax F hl m383 (Nat.le_of_ble_eq_true rfl) (Nat.le_of_ble_eq_true rfl) ⟨Nat.zero_le _, Nat.zero_le _⟩ (z := gotM (scanM P (vbM 2 P) (n + 1))) (got_step h9 hv hleg) dX1_valueOf_51 ?_
        refine lv_istore (lv' := [(4, .int (gotM (scanM P (vbM 2 P) (n + 1)))), (0, .ref l0), (1, .ref (q 0)), (2, .ref q4), (3, .int (nI 3)), (5, .int (nI n))]) hx hb dX1_valueOf_54 hl (by decide) rfl (fun ls hl => ?_)
        refine lv_iinc (v := nI (n + 1)) (lv' := [(5, .int (nI (n + 1))), (4, .int (gotM (scanM P (vbM 2 P) (n + 1)))), (0, .ref l0), (1, .ref (q 0)), (2, .ref q4), (3, .int (nI 3))]) hx hb dX1_valueOf_56 hl (k := 5) rfl (nI_add _ _) (by decide) rfl (fun ls hl => ?_)
        refine lv_goto (tgt := 24) hx hb dX1_valueOf_59 (by decide) ?_
        exact ih (12 - (n + 1)) _ _ _ (by omega) ⟨n + 1, u48.1, u48.2, by omega, rfl, hW, lv_sub hl [2, 3, 4, 5, 1, 0] rfl⟩
set_option maxHeartbeats 4000000 in
set_option maxRecDepth 100000 in
theorem c_valueBehind4 (l : Launch) (D : va_G) (T : Nat → ClassId) (l0 tr rp bh q4 : Nat) (bd : Nat → Nat → Nat) (q : Nat → Nat) (bs : Nat → Nat → Int32) (rv E P : Nat → Int32) {S : Int} (hI : Iv S P) (hE : ∀ j, j < 4 → E j = P (34 + j)) {h : Nat} (hh : h < 12) (hleg : legM P h) : KI (S := (Nat → Nat → Int32) × (Nat → Int32)) l D T yX1_valueBehind cX1_valueBehind 7 (some .int) 10 [.ref l0, .ref (q 0), .int (nI h), .ref q4, .int (nI 4)] ([(l0, .inr (1, [.ref tr, .ref rp, .ref bh])), (rp, .inr (4, [.int (rv 0), .int (rv 1), .int (rv 2), .int (rv 3), .int (rv 4)])), (bh, .inl (T 3, 5, .inr (.inr (.inr (.inr (fun j => some (bd j 0)))))))] ++ ((pblk T (bd 1) (bs 1)) ++ ((pblk T (bd 2) (bs 2)) ++ ((pblk T (bd 3) (bs 3)) ++ ((pblk T (bd 4) (bs 4)) ++ ((pblk T q P) ++ ([(q4, .inl (T 0, 4, .inl E))]))))))) (fun r _ => r = vbM 3 P h) (fun u => ([(l0, .inr (1, [.ref tr, .ref rp, .ref bh])), (rp, .inr (4, [.int (u.2 0), .int (u.2 1), .int (u.2 2), .int (u.2 3), .int (u.2 4)])), (bh, .inl (T 3, 5, .inr (.inr (.inr (.inr (fun j => some (bd j 0)))))))] ++ ((pblk T (bd 1) (u.1 1)) ++ ((pblk T (bd 2) (u.1 2)) ++ ((pblk T (bd 3) (u.1 3)) ++ ((pblk T (bd 4) (u.1 4)) ++ ((pblk T q P) ++ ([(q4, .inl (T 0, 4, .inl E))])))))))) := by
  refine KI.of (by decide +kernel) (Nat.le_of_ble_eq_true rfl) (fun p e s m below meth c A F hr hlk hW ls hl => ?_)
  have hx := F.1
  have hb := F.2.1
  have hl : lv_has ls 7 [(0, .ref l0), (1, .ref (q 0)), (2, .int (nI h)), (3, .ref q4), (4, .int (nI 4))] := hl
  obtain ⟨hJ, ⟨k, hk, h26⟩, hov, ⟨mk, h28, hm1, hm2⟩, h36, h37, hex⟩ := id hI
  have hI2 := (hI.mv hh hleg).1
  refine lv_iload hx hb dX1_valueBehind_0 (lv_at hl 4 rfl) ?_
  refine lv_iconst (v := nI 1) hx hb dX1_valueBehind_2 (by decide) ?_
  refine lv_icmp_lt (tgt := 12) hx hb dX1_valueBehind_3 (by decide) (fun h9 => absurd h9 (by decide)) (fun _ => ?_)
  refine lv_iload hx hb dX1_valueBehind_6 (lv_at hl 4 rfl) ?_
  refine lv_iconst (v := nI 4) hx hb dX1_valueBehind_8 (by decide) ?_
  refine lv_icmp_le (tgt := 17) hx hb dX1_valueBehind_9 (by decide) (fun _ => ?_) (fun h9 => absurd (by decide) h9)
  have hset : ∀ j, 34 ≤ j → mvM P h j = P j := fun j hj => mvM_set hI hh hleg hj
  refine lv_aload_n hx hb dX1_valueBehind_17 rfl (lv_at hl 0 rfl) ?_
  refine gf180 F hW 0 rfl rfl dX1_valueBehind_18 ?_
  refine lv_iload hx hb dX1_valueBehind_21 (lv_at hl 4 rfl) ?_
  refine aald F hW 2 3 rfl rfl (r := (bd 4) 0) 4 rfl (by omega) (by decide) rfl dX1_valueBehind_23 ?_
  refine lv_astore (lv' := [(5, .ref ((bd 4) 0)), (0, .ref l0), (1, .ref (q 0)), (2, .int (nI h)), (3, .ref q4), (4, .int (nI 4))]) hx hb dX1_valueBehind_24 hl (by decide) rfl (fun ls hl => ?_)
  refine lv_aload hx hb dX1_valueBehind_26 (lv_at hl 0 rfl) ?_
  refine lv_aload_n hx hb dX1_valueBehind_28 rfl (lv_at hl 2 rfl) ?_
  refine cVV (As := [.ref (q 0)]) (rest := []) (wr := ([(l0, .inr (1, [.ref tr, .ref rp, .ref bh])), (rp, .inr (4, [.int (rv 0), .int (rv 1), .int (rv 2), .int (rv 3), .int (rv 4)])), (bh, .inl (T 3, 5, .inr (.inr (.inr (.inr (fun j => some (bd j 0)))))))] ++ ((pblk T (bd 1) (bs 1)) ++ ((pblk T (bd 2) (bs 2)) ++ ((pblk T (bd 3) (bs 3)) ++ ([(q4, .inl (T 0, 4, .inl E))])))))) F hW hl cs352 (c_posCopy l D T ((bd 4) 0) ((bd 4) 1) ((bd 4) 2) ((bd 4) 3) (q 0) (q 1) (q 2) (q 3) ((bs 4) 26) ((bs 4) 27) ((bs 4) 28) (P 26) (P 27) (P 28) (fun j => (bs 4) j) (fun j => (bs 4) (12 + j)) (fun j => (bs 4) (24 + j)) (fun j => P j) (fun j => P (12 + j)) (fun j => P (24 + j)) hov) [15, 16, 17, 18, 19, 20, 21, 22] [0, 1, 2, 3, 4, 5, 6, 7, 8, 9, 10, 11, 12, 13, 14, 23] rfl rfl rfl rfl (by decide) 0 3 rfl rfl rfl rfl rfl (Nat.le_of_ble_eq_true rfl) ⟨Nat.le_of_ble_eq_true rfl, Nat.le_of_ble_eq_true rfl⟩ ⟨Nat.zero_le _, Nat.zero_le _⟩ dX1_valueBehind_29 (fun u29 H locs hr29 hW => ?_)
  have hW := Wd.ord hW (ws' := ([(l0, .inr (1, [.ref tr, .ref rp, .ref bh])), (rp, .inr (4, [.int (rv 0), .int (rv 1), .int (rv 2), .int (rv 3), .int (rv 4)])), (bh, .inl (T 3, 5, .inr (.inr (.inr (.inr (fun j => some (bd j 0)))))))] ++ ((pblk T (bd 1) (bs 1)) ++ ((pblk T (bd 2) (bs 2)) ++ ((pblk T (bd 3) (bs 3)) ++ ([((bd 4) 0, .inr (3, [.ref ((bd 4) 1), .ref ((bd 4) 2), .ref ((bd 4) 3), .int (P 26), .int (P 27), .int (P 28)])), ((bd 4) 1, .inl (T 0, 12, .inl (fun j => P j))), ((bd 4) 2, .inl (T 0, 12, .inl (fun j => P (12 + j)))), ((bd 4) 3, .inl (T 0, 2, .inl (fun j => P (24 + j))))] ++ ((pblk T q P) ++ ([(q4, .inl (T 0, 4, .inl E))])))))))) [0, 1, 2, 3, 4, 5, 6, 7, 8, 9, 10, 11, 12, 13, 14, 16, 17, 18, 19, 20, 21, 22, 23, 15] rfl rfl
  refine lv_aload hx hb dX1_valueBehind_32 (lv_at hl 0 rfl) ?_
  refine lv_iload_n hx hb dX1_valueBehind_34 rfl (lv_at hl 3 rfl) ?_
  refine lv_aload_n hx hb dX1_valueBehind_35 rfl (lv_at hl 4 rfl) ?_
  refine lv_aload_n hx hb dX1_valueBehind_36 rfl (lv_at hl 1 rfl) ?_
  refine gf178 F hW 0 rfl rfl dX1_valueBehind_37 ?_
  refine cVV (As := [.int (nI h), .ref q4, .ref rp]) (rest := []) (wr := ([(l0, .inr (1, [.ref tr, .ref rp, .ref bh])), (bh, .inl (T 3, 5, .inr (.inr (.inr (.inr (fun j => some (bd j 0)))))))] ++ ((pblk T (bd 1) (bs 1)) ++ ((pblk T (bd 2) (bs 2)) ++ ((pblk T (bd 3) (bs 3)) ++ ((pblk T q P))))))) F hW hl cs353 (c_makeMoveP l D T ((bd 4) 0) ((bd 4) 1) ((bd 4) 2) ((bd 4) 3) q4 rp (pl := k) hk (P 26) h26 (P 27) (P 28) (fun j => P j) (fun j => P (12 + j)) (fun j => P (24 + j)) E (rv 0) (rv 1) (rv 2) (rv 3) (rv 4) P ⟨fun _ _ => rfl, fun _ _ => rfl, fun _ _ => rfl⟩ rfl rfl hE (fr := h) hh hJ h36 h37 (leg_pos hleg) h26 hleg.1 h28 (hm2 hleg.1)) [15, 16, 17, 18, 23, 1] [0, 2, 3, 4, 5, 6, 7, 8, 9, 10, 11, 12, 13, 14, 19, 20, 21, 22] rfl rfl rfl rfl (by decide) 0 3 rfl rfl rfl rfl rfl (Nat.le_of_ble_eq_true rfl) ⟨Nat.le_of_ble_eq_true rfl, Nat.le_of_ble_eq_true rfl⟩ ⟨Nat.zero_le _, Nat.zero_le _⟩ dX1_valueBehind_40 (fun u40 H locs hr40 hW => ?_)
  have hW := Wd.ord hW (ws' := ([(l0, .inr (1, [.ref tr, .ref rp, .ref bh])), (rp, .inr (4, [.int ((mvM P h) 29), .int ((mvM P h) 30), .int ((mvM P h) 31), .int ((mvM P h) 32), .int ((mvM P h) 33)])), (bh, .inl (T 3, 5, .inr (.inr (.inr (.inr (fun j => some (bd j 0)))))))] ++ ((pblk T (bd 1) (bs 1)) ++ ((pblk T (bd 2) (bs 2)) ++ ((pblk T (bd 3) (bs 3)) ++ ([((bd 4) 0, .inr (3, [.ref ((bd 4) 1), .ref ((bd 4) 2), .ref ((bd 4) 3), .int ((mvM P h) 26), .int ((mvM P h) 27), .int ((mvM P h) 28)])), ((bd 4) 1, .inl (T 0, 12, .inl (fun j => (mvM P h) j))), ((bd 4) 2, .inl (T 0, 12, .inl (fun j => (mvM P h) (12 + j)))), ((bd 4) 3, .inl (T 0, 2, .inl (fun j => (mvM P h) (24 + j))))] ++ ((pblk T q P) ++ ([(q4, .inl (T 0, 4, .inl E))])))))))) [0, 23, 1, 2, 3, 4, 5, 6, 7, 8, 9, 10, 11, 12, 13, 18, 19, 20, 21, 14, 15, 16, 17, 22] rfl rfl
  obtain ⟨z, hz⟩ : ∃ z, mvM P h = z := ⟨_, rfl⟩
  rw [hz] at hW hI2 hset
  refine lv_aload_n hx hb dX1_valueBehind_43 rfl (lv_at hl 1 rfl) ?_
  refine lv_aload hx hb dX1_valueBehind_44 (lv_at hl 0 rfl) ?_
  refine lv_aload_n hx hb dX1_valueBehind_46 rfl (lv_at hl 4 rfl) ?_
  refine lv_iload hx hb dX1_valueBehind_47 (lv_at hl 5 rfl) ?_
  refine lv_iconst (v := nI 1) hx hb dX1_valueBehind_49 (by decide) ?_
  refine isubE (z := nI 3) hx hb dX1_valueBehind_50 (by decide) ?_
  refine cIV (As := [.ref ((bd 4) 0), .ref q4, .int (nI 3)]) (rest := []) (wr := (pblk T q P)) F hW hl cs379 (c_valueOf3 l D T l0 tr rp bh q4 bd (bd 4) bs (fun j => z (29 + j)) E z hI2 (fun j hj => (hE j hj).trans (hset (34 + j) (by omega)).symm)) [0, 1, 2, 3, 4, 5, 6, 7, 8, 9, 10, 11, 12, 13, 14, 15, 16, 17, 18, 23] [19, 20, 21, 22] rfl rfl rfl rfl (by decide) 0 1 rfl rfl rfl rfl rfl (Nat.le_of_ble_eq_true rfl) ⟨Nat.le_of_ble_eq_true rfl, Nat.le_of_ble_eq_true rfl⟩ ⟨Nat.zero_le _, Nat.zero_le _⟩ dX1_valueBehind_51 (fun r51 u51 H locs hr51 hW => ?_)
  have hW := Wd.ord hW (ws' := ([(l0, .inr (1, [.ref tr, .ref rp, .ref bh])), (rp, .inr (4, [.int (u51.2 0), .int (u51.2 1), .int (u51.2 2), .int (u51.2 3), .int (u51.2 4)])), (bh, .inl (T 3, 5, .inr (.inr (.inr (.inr (fun j => some (bd j 0)))))))] ++ ((pblk T (bd 1) (u51.1 1)) ++ ((pblk T (bd 2) (u51.1 2)) ++ ((pblk T (bd 3) (u51.1 3)) ++ ((pblk T (bd 4) z) ++ ((pblk T q P) ++ ([(q4, .inl (T 0, 4, .inl E))])))))))) [4, 5, 6, 7, 8, 9, 10, 11, 12, 13, 14, 15, 16, 17, 18, 19, 20, 21, 22, 0, 1, 2, 3, 23] rfl rfl
  subst hr51
  refine lv_istore (lv' := [(6, .int (valM 3 z)), (5, .ref ((bd 4) 0)), (0, .ref l0), (1, .ref (q 0)), (2, .int (nI h)), (3, .ref q4), (4, .int (nI 4))]) hx hb dX1_valueBehind_54 hl (by decide) rfl (fun ls hl => ?_)
  refine lv_aload hx hb dX1_valueBehind_56 (lv_at hl 1 rfl) ?_
  refine gf47 F hW 15 rfl rfl dX1_valueBehind_58 ?_
  refine lv_aload_n hx hb dX1_valueBehind_61 rfl (lv_at hl 3 rfl) ?_
  refine gf47 F hW 19 rfl rfl dX1_valueBehind_62 ?_
  refine lv_icmp_ne (tgt := 73) hx hb dX1_valueBehind_65 (by decide) (fun h65 => ?_) (fun h65 => ?_)
  · refine lv_iload hx hb dX1_valueBehind_73 (lv_at hl 0 rfl) ?_
    refine lv_ineg hx hb dX1_valueBehind_75 ?_
    exact retI F hr hlk rfl hW (fun j => if j = 4 then z else u51.1 j, u51.2) (by unfold vbM; rw [hz, if_neg h65]) rfl dX1_valueBehind_76
  · refine lv_iload hx hb dX1_valueBehind_68 (lv_at hl 0 rfl) ?_
    refine lv_goto (tgt := 76) hx hb dX1_valueBehind_70 (by decide) ?_
    exact retI F hr hlk rfl hW (fun j => if j = 4 then z else u51.1 j, u51.2) (by unfold vbM; rw [hz, if_pos h65]) rfl dX1_valueBehind_76
set_option maxHeartbeats 4000000 in
set_option maxRecDepth 100000 in
theorem c_valueOf4 (l : Launch) (D : va_G) (T : Nat → ClassId) (l0 tr rp bh q4 : Nat) (bd : Nat → Nat → Nat) (q : Nat → Nat) (bs : Nat → Nat → Int32) (rv E P : Nat → Int32) {S : Int} (hI : Iv S P) (hE : ∀ j, j < 4 → E j = P (34 + j)) : KI (S := (Nat → Nat → Int32) × (Nat → Int32)) l D T yX1_valueOf cX1_valueOf 6 (some .int) 11 [.ref l0, .ref (q 0), .ref q4, .int (nI 4)] ([(l0, .inr (1, [.ref tr, .ref rp, .ref bh])), (rp, .inr (4, [.int (rv 0), .int (rv 1), .int (rv 2), .int (rv 3), .int (rv 4)])), (bh, .inl (T 3, 5, .inr (.inr (.inr (.inr (fun j => some (bd j 0)))))))] ++ ((pblk T (bd 1) (bs 1)) ++ ((pblk T (bd 2) (bs 2)) ++ ((pblk T (bd 3) (bs 3)) ++ ((pblk T (bd 4) (bs 4)) ++ ((pblk T q P) ++ ([(q4, .inl (T 0, 4, .inl E))]))))))) (fun r _ => r = valM 4 P) (fun u => ([(l0, .inr (1, [.ref tr, .ref rp, .ref bh])), (rp, .inr (4, [.int (u.2 0), .int (u.2 1), .int (u.2 2), .int (u.2 3), .int (u.2 4)])), (bh, .inl (T 3, 5, .inr (.inr (.inr (.inr (fun j => some (bd j 0)))))))] ++ ((pblk T (bd 1) (u.1 1)) ++ ((pblk T (bd 2) (u.1 2)) ++ ((pblk T (bd 3) (u.1 3)) ++ ((pblk T (bd 4) (u.1 4)) ++ ((pblk T q P) ++ ([(q4, .inl (T 0, 4, .inl E))])))))))) := by
  refine KI.of (by decide +kernel) (Nat.le_of_ble_eq_true rfl) (fun p e s m below meth c A F hr hlk hW ls hl => ?_)
  have hx := F.1
  have hb := F.2.1
  have hl : lv_has ls 6 [(0, .ref l0), (1, .ref (q 0)), (2, .ref q4), (3, .int (nI 4))] := hl
  obtain ⟨hJ, ⟨k, hk, h26⟩, hov, ⟨mk, h28, hm1, hm2⟩, h36, h37, hex⟩ := id hI
  refine lv_aload_n hx hb dX1_valueOf_0 rfl (lv_at hl 1 rfl) ?_
  refine gf49 F hW 19 rfl rfl dX1_valueOf_1 ?_
  refine lv_if_ne (tgt := 11) hx hb dX1_valueOf_4 (by decide) (fun h4 => ?_) (fun h4 => ?_)
  · refine lv_aload_n hx hb dX1_valueOf_11 rfl (lv_at hl 1 rfl) ?_
    refine cRV (As := []) (rest := []) F hW hl cs348 (c_leadP l D T (q 0) (q 1) (q 2) (q 3) hk (P 26) (P 27) (P 28) h26 (fun j => P (24 + j))) [19, 22] rfl rfl 0 3 rfl rfl rfl rfl rfl (Nat.le_of_ble_eq_true rfl) ⟨Nat.le_of_ble_eq_true rfl, Nat.le_of_ble_eq_true rfl⟩ ⟨Nat.zero_le _, Nat.zero_le _⟩ dX1_valueOf_12 (fun r12 hr12 => ?_)
    subst hr12
    exact retI F hr hlk rfl hW (bs, rv) (by rw [valM_s, if_neg h4, lead_eq hk h26]) rfl dX1_valueOf_15
  · refine lv_iload_n hx hb dX1_valueOf_7 rfl (lv_at hl 3 rfl) ?_
    refine lv_if_gt (tgt := 16) hx hb dX1_valueOf_8 (by decide) (fun _ => ?_) (fun h9 => absurd (by decide) h9)
    refine lv_sipush (v := -10000) hx hb dX1_valueOf_16 (by decide) ?_
    refine lv_istore (lv' := [(4, .int (-10000)), (0, .ref l0), (1, .ref (q 0)), (2, .ref q4), (3, .int (nI 4))]) hx hb dX1_valueOf_19 hl (by decide) rfl (fun ls hl => ?_)
    refine lv_iconst (v := nI 0) hx hb dX1_valueOf_21 (by decide) ?_
    refine lv_istore (lv' := [(5, .int (nI 0)), (4, .int (-10000)), (0, .ref l0), (1, .ref (q 0)), (2, .ref q4), (3, .int (nI 4))]) hx hb dX1_valueOf_22 hl (by decide) rfl (fun ls hl => ?_)
    have hv : ∀ h, h < 12 → legM P h → -2000 ≤ (vbM 3 P h).toInt ∧ (vbM 3 P h).toInt ≤ 2000 := fun h hh hl => vbM_b hI 3 hh hl
    refine W.loop (fun z H2 locs2 ls2 => ∃ (n : Nat) (bs : Nat → Nat → Int32) (rv : Nat → Int32), n ≤ 12 ∧ z = 12 - n ∧ Wd D T A s ([(l0, .inr (1, [.ref tr, .ref rp, .ref bh])), (rp, .inr (4, [.int (rv 0), .int (rv 1), .int (rv 2), .int (rv 3), .int (rv 4)])), (bh, .inl (T 3, 5, .inr (.inr (.inr (.inr (fun j => some (bd j 0)))))))] ++ ((pblk T (bd 1) (bs 1)) ++ ((pblk T (bd 2) (bs 2)) ++ ((pblk T (bd 3) (bs 3)) ++ ((pblk T (bd 4) (bs 4)) ++ ((pblk T q P) ++ ([(q4, .inl (T 0, 4, .inl E))]))))))) H2 locs2 ∧ lv_has ls2 6 [(0, .ref l0), (1, .ref (q 0)), (2, .ref q4), (3, .int (nI 4)), (4, .int (gotM (scanM P (vbM 3 P) n))), (5, .int (nI n))]) ?_ 12 ⟨0, bs, rv, by omega, rfl, hW, by rw [scan_0, got_0]; exact lv_sub hl [2, 3, 4, 5, 1, 0] rfl⟩
    rintro z H locs ls ⟨n, bs, rv, hn, rfl, hW, hl⟩ ih
    refine lv_iload hx hb dX1_valueOf_24 (lv_at hl 5 rfl) ?_
    refine lv_bipush (v := nI 12) hx hb dX1_valueOf_26 (by decide) ?_
    refine lv_icmp_ge (tgt := 62) hx hb dX1_valueOf_28 (by decide) (fun h28x => ?_) (fun h28x => ?_)
    · have h9 : n = 12 := by have := n_le h28x (by omega) (by omega); omega
      subst h9
      refine lv_iload hx hb dX1_valueOf_62 (lv_at hl 4 rfl) ?_
      exact retI F hr hlk rfl hW (bs, rv) (by rw [valM_s, if_pos h4]) rfl dX1_valueOf_64
    · have h9 : n < 12 := n_nle h28x (by decide) (by omega)
      refine lv_aload_n hx hb dX1_valueOf_31 rfl (lv_at hl 1 rfl) ?_
      refine lv_iload hx hb dX1_valueOf_32 (lv_at hl 5 rfl) ?_
      refine cRV (As := [.int (nI n)]) (rest := []) F hW hl cs337 (c_canMoveFrom l D T (q 0) (q 1) (q 2) (q 3) (P 26) (P 27) (P 28) (fun j => P j) (h := n) (by omega)) [19, 20] rfl rfl 0 3 rfl rfl rfl rfl rfl (Nat.le_of_ble_eq_true rfl) ⟨Nat.le_of_ble_eq_true rfl, Nat.le_of_ble_eq_true rfl⟩ ⟨Nat.zero_le _, Nat.zero_le _⟩ dX1_valueOf_34 (fun r34 hr34 => ?_)
      subst hr34
      refine lv_if_eq (tgt := 56) hx hb dX1_valueOf_37 (by decide) (fun h37 => ?_) (fun h37 => ?_)
      · have hn2 : ¬ legM P n := bz.mp h37
        rw [← got_skip (v := (vbM 3 P)) hn2] at hl
        refine lv_iinc (v := nI (n + 1)) (lv' := [(5, .int (nI (n + 1))), (0, .ref l0), (1, .ref (q 0)), (2, .ref q4), (3, .int (nI 4)), (4, .int (gotM (scanM P (vbM 3 P) (n + 1))))]) hx hb dX1_valueOf_56 hl (k := 5) rfl (nI_add _ _) (by decide) rfl (fun ls hl => ?_)
        refine lv_goto (tgt := 24) hx hb dX1_valueOf_59 (by decide) ?_
        exact ih (12 - (n + 1)) _ _ _ (by omega) ⟨n + 1, bs, rv, by omega, rfl, hW, lv_sub hl [1, 2, 3, 4, 5, 0] rfl⟩
      · have hleg : legM P n := Decidable.not_not.mp (fun q => h37 (bz.mpr q))
        refine lv_iload hx hb dX1_valueOf_40 (lv_at hl 4 rfl) ?_
        refine lv_aload_n hx hb dX1_valueOf_42 rfl (lv_at hl 0 rfl) ?_
        refine lv_aload_n hx hb dX1_valueOf_43 rfl (lv_at hl 1 rfl) ?_
        refine lv_iload hx hb dX1_valueOf_44 (lv_at hl 5 rfl) ?_
        refine lv_aload_n hx hb dX1_valueOf_46 rfl (lv_at hl 2 rfl) ?_
        refine lv_iload_n hx hb dX1_valueOf_47 rfl (lv_at hl 3 rfl) ?_
        refine cIV (As := [.ref (q 0), .int (nI n), .ref q4, .int (nI 4)]) (rest := [.int (gotM (scanM P (vbM 3 P) n))]) (wr := []) F hW hl cs344 (c_valueBehind4 l D T l0 tr rp bh q4 bd q bs rv E P hI hE (h := n) h9 hleg) [0, 1, 2, 3, 4, 5, 6, 7, 8, 9, 10, 11, 12, 13, 14, 15, 16, 17, 18, 19, 20, 21, 22, 23] [] rfl rfl rfl rfl (by decide) 0 1 rfl rfl rfl rfl rfl (Nat.le_of_ble_eq_true rfl) ⟨Nat.le_of_ble_eq_true rfl, Nat.le_of_ble_eq_true rfl⟩ ⟨Nat.zero_le _, Nat.zero_le _⟩ dX1_valueOf_48 (fun r48 u48 H locs hr48 hW => ?_)
        have hW := Wd.ord hW (ws' := ([(l0, .inr (1, [.ref tr, .ref rp, .ref bh])), (rp, .inr (4, [.int (u48.2 0), .int (u48.2 1), .int (u48.2 2), .int (u48.2 3), .int (u48.2 4)])), (bh, .inl (T 3, 5, .inr (.inr (.inr (.inr (fun j => some (bd j 0)))))))] ++ ((pblk T (bd 1) (u48.1 1)) ++ ((pblk T (bd 2) (u48.1 2)) ++ ((pblk T (bd 3) (u48.1 3)) ++ ((pblk T (bd 4) (u48.1 4)) ++ ((pblk T q P) ++ ([(q4, .inl (T 0, 4, .inl E))])))))))) [0, 1, 2, 3, 4, 5, 6, 7, 8, 9, 10, 11, 12, 13, 14, 15, 16, 17, 18, 19, 20, 21, 22, 23] rfl rfl
        subst hr48
        refine vmax F hl m383 (Nat.le_of_ble_eq_true rfl) (Nat.le_of_ble_eq_true rfl) ⟨Nat.zero_le _, Nat.zero_le _⟩ (z := gotM (scanM P (vbM 3 P) (n + 1))) (got_step h9 hv hleg) dX1_valueOf_51 ?_
        refine lv_istore (lv' := [(4, .int (gotM (scanM P (vbM 3 P) (n + 1)))), (0, .ref l0), (1, .ref (q 0)), (2, .ref q4), (3, .int (nI 4)), (5, .int (nI n))]) hx hb dX1_valueOf_54 hl (by decide) rfl (fun ls hl => ?_)
        refine lv_iinc (v := nI (n + 1)) (lv' := [(5, .int (nI (n + 1))), (4, .int (gotM (scanM P (vbM 3 P) (n + 1)))), (0, .ref l0), (1, .ref (q 0)), (2, .ref q4), (3, .int (nI 4))]) hx hb dX1_valueOf_56 hl (k := 5) rfl (nI_add _ _) (by decide) rfl (fun ls hl => ?_)
        refine lv_goto (tgt := 24) hx hb dX1_valueOf_59 (by decide) ?_
        exact ih (12 - (n + 1)) _ _ _ (by omega) ⟨n + 1, u48.1, u48.2, by omega, rfl, hW, lv_sub hl [2, 3, 4, 5, 1, 0] rfl⟩
set_option maxHeartbeats 4000000 in
set_option maxRecDepth 100000 in
theorem c_bestHouse1 (l : Launch) (D : va_G) (T : Nat → ClassId) (l0 tr rp bh q4 : Nat) (bd : Nat → Nat → Nat) (q : Nat → Nat) (bs : Nat → Nat → Int32) (rv E P : Nat → Int32) {S : Int} (hI : Iv S P) (hE : ∀ j, j < 4 → E j = P (34 + j)) : KI (S := (Nat → Nat → Int32) × (Nat → Int32)) l D T yX1_bestHouse cX1_bestHouse 8 (some .int) 5 [.ref l0, .ref (q 0), .ref q4, .int (nI 1)] ([(l0, .inr (1, [.ref tr, .ref rp, .ref bh])), (rp, .inr (4, [.int (rv 0), .int (rv 1), .int (rv 2), .int (rv 3), .int (rv 4)])), (bh, .inl (T 3, 5, .inr (.inr (.inr (.inr (fun j => some (bd j 0)))))))] ++ ((pblk T (bd 1) (bs 1)) ++ ((pblk T q P) ++ ([(q4, .inl (T 0, 4, .inl E))])))) (fun r _ => r = houM (scanM P (vbM 0 P) 12)) (fun u => ([(l0, .inr (1, [.ref tr, .ref rp, .ref bh])), (rp, .inr (4, [.int (u.2 0), .int (u.2 1), .int (u.2 2), .int (u.2 3), .int (u.2 4)])), (bh, .inl (T 3, 5, .inr (.inr (.inr (.inr (fun j => some (bd j 0)))))))] ++ ((pblk T (bd 1) (u.1 1)) ++ ((pblk T q P) ++ ([(q4, .inl (T 0, 4, .inl E))]))))) := by
  refine KI.of (by decide +kernel) (Nat.le_of_ble_eq_true rfl) (fun p e s m below meth c A F hr hlk hW ls hl => ?_)
  have hx := F.1
  have hb := F.2.1
  have hl : lv_has ls 8 [(0, .ref l0), (1, .ref (q 0)), (2, .ref q4), (3, .int (nI 1))] := hl
  refine lv_bipush (v := -6) hx hb dX1_bestHouse_0 (by decide) ?_
  refine lv_istore (lv' := [(4, .int (-6)), (0, .ref l0), (1, .ref (q 0)), (2, .ref q4), (3, .int (nI 1))]) hx hb dX1_bestHouse_2 hl (by decide) rfl (fun ls hl => ?_)
  refine lv_sipush (v := -10000) hx hb dX1_bestHouse_4 (by decide) ?_
  refine lv_istore (lv' := [(5, .int (-10000)), (4, .int (-6)), (0, .ref l0), (1, .ref (q 0)), (2, .ref q4), (3, .int (nI 1))]) hx hb dX1_bestHouse_7 hl (by decide) rfl (fun ls hl => ?_)
  refine lv_iconst (v := nI 0) hx hb dX1_bestHouse_9 (by decide) ?_
  refine lv_istore (lv' := [(6, .int (nI 0)), (5, .int (-10000)), (4, .int (-6)), (0, .ref l0), (1, .ref (q 0)), (2, .ref q4), (3, .int (nI 1))]) hx hb dX1_bestHouse_10 hl (by decide) rfl (fun ls hl => ?_)
  have hv : ∀ h, h < 12 → legM P h → -2000 ≤ (vbM 0 P h).toInt ∧ (vbM 0 P h).toInt ≤ 2000 := fun h hh hl => vbM_b hI 0 hh hl
  refine W.loop (fun z H2 locs2 ls2 => ∃ (n : Nat) (bs : Nat → Nat → Int32) (rv : Nat → Int32), n ≤ 12 ∧ z = 12 - n ∧ Wd D T A s ([(l0, .inr (1, [.ref tr, .ref rp, .ref bh])), (rp, .inr (4, [.int (rv 0), .int (rv 1), .int (rv 2), .int (rv 3), .int (rv 4)])), (bh, .inl (T 3, 5, .inr (.inr (.inr (.inr (fun j => some (bd j 0)))))))] ++ ((pblk T (bd 1) (bs 1)) ++ ((pblk T q P) ++ ([(q4, .inl (T 0, 4, .inl E))])))) H2 locs2 ∧ lv_has ls2 8 [(0, .ref l0), (1, .ref (q 0)), (2, .ref q4), (3, .int (nI 1)), (4, .int (houM (scanM P (vbM 0 P) n))), (5, .int (gotM (scanM P (vbM 0 P) n))), (6, .int (nI n))]) ?_ 12 ⟨0, bs, rv, by omega, rfl, hW, by rw [scan_0, got_0, hou_0]; exact lv_sub hl [3, 4, 5, 6, 2, 1, 0] rfl⟩
  rintro z H locs ls ⟨n, bs, rv, hn, rfl, hW, hl⟩ ih
  refine lv_iload hx hb dX1_bestHouse_12 (lv_at hl 6 rfl) ?_
  refine lv_bipush (v := nI 12) hx hb dX1_bestHouse_14 (by decide) ?_
  refine lv_icmp_ge (tgt := 60) hx hb dX1_bestHouse_16 (by decide) (fun h16 => ?_) (fun h16 => ?_)
  · have h9 : n = 12 := by have := n_le h16 (by omega) (by omega); omega
    subst h9
    refine lv_iload hx hb dX1_bestHouse_60 (lv_at hl 4 rfl) ?_
    exact retI F hr hlk rfl hW (bs, rv) rfl rfl dX1_bestHouse_62
  · have h9 : n < 12 := n_nle h16 (by decide) (by omega)
    refine lv_aload_n hx hb dX1_bestHouse_19 rfl (lv_at hl 1 rfl) ?_
    refine lv_iload hx hb dX1_bestHouse_20 (lv_at hl 6 rfl) ?_
    refine cRV (As := [.int (nI n)]) (rest := []) F hW hl cs337 (c_canMoveFrom l D T (q 0) (q 1) (q 2) (q 3) (P 26) (P 27) (P 28) (fun j => P j) (h := n) (by omega)) [7, 8] rfl rfl 0 3 rfl rfl rfl rfl rfl (Nat.le_of_ble_eq_true rfl) ⟨Nat.le_of_ble_eq_true rfl, Nat.le_of_ble_eq_true rfl⟩ ⟨Nat.zero_le _, Nat.zero_le _⟩ dX1_bestHouse_22 (fun r22 hr22 => ?_)
    subst hr22
    refine lv_if_eq (tgt := 54) hx hb dX1_bestHouse_25 (by decide) (fun h25 => ?_) (fun h25 => ?_)
    · have hn2 : ¬ legM P n := bz.mp h25
      rw [← got_skip (v := (vbM 0 P)) hn2] at hl
      refine lv_iinc (v := nI (n + 1)) (lv' := [(6, .int (nI (n + 1))), (0, .ref l0), (1, .ref (q 0)), (2, .ref q4), (3, .int (nI 1)), (4, .int (houM (scanM P (vbM 0 P) (n + 1)))), (5, .int (gotM (scanM P (vbM 0 P) (n + 1))))]) hx hb dX1_bestHouse_54 hl (k := 6) rfl (nI_add _ _) (by decide) rfl (fun ls hl => ?_)
      refine lv_goto (tgt := 12) hx hb dX1_bestHouse_57 (by decide) ?_
      exact ih (12 - (n + 1)) _ _ _ (by omega) ⟨n + 1, bs, rv, by omega, rfl, hW, lv_sub hl [1, 2, 3, 4, 5, 6, 0] rfl⟩
    · have hleg : legM P n := Decidable.not_not.mp (fun q => h25 (bz.mpr q))
      refine lv_aload_n hx hb dX1_bestHouse_28 rfl (lv_at hl 0 rfl) ?_
      refine lv_aload_n hx hb dX1_bestHouse_29 rfl (lv_at hl 1 rfl) ?_
      refine lv_iload hx hb dX1_bestHouse_30 (lv_at hl 6 rfl) ?_
      refine lv_aload_n hx hb dX1_bestHouse_32 rfl (lv_at hl 2 rfl) ?_
      refine lv_iload_n hx hb dX1_bestHouse_33 rfl (lv_at hl 3 rfl) ?_
      refine cIV (As := [.ref (q 0), .int (nI n), .ref q4, .int (nI 1)]) (rest := []) (wr := []) F hW hl cs344 (c_valueBehind1 l D T l0 tr rp bh q4 bd q bs rv E P hI hE (h := n) h9 hleg) [0, 1, 2, 3, 4, 5, 6, 7, 8, 9, 10, 11] [] rfl rfl rfl rfl (by decide) 0 1 rfl rfl rfl rfl rfl (Nat.le_of_ble_eq_true rfl) ⟨Nat.le_of_ble_eq_true rfl, Nat.le_of_ble_eq_true rfl⟩ ⟨Nat.zero_le _, Nat.zero_le _⟩ dX1_bestHouse_34 (fun r34 u34 H locs hr34 hW => ?_)
      have hW := Wd.ord hW (ws' := ([(l0, .inr (1, [.ref tr, .ref rp, .ref bh])), (rp, .inr (4, [.int (u34.2 0), .int (u34.2 1), .int (u34.2 2), .int (u34.2 3), .int (u34.2 4)])), (bh, .inl (T 3, 5, .inr (.inr (.inr (.inr (fun j => some (bd j 0)))))))] ++ ((pblk T (bd 1) (u34.1 1)) ++ ((pblk T q P) ++ ([(q4, .inl (T 0, 4, .inl E))]))))) [0, 1, 2, 3, 4, 5, 6, 7, 8, 9, 10, 11] rfl rfl
      subst hr34
      refine lv_istore (lv' := [(7, .int (vbM 0 P n)), (0, .ref l0), (1, .ref (q 0)), (2, .ref q4), (3, .int (nI 1)), (4, .int (houM (scanM P (vbM 0 P) n))), (5, .int (gotM (scanM P (vbM 0 P) n))), (6, .int (nI n))]) hx hb dX1_bestHouse_37 hl (by decide) rfl (fun ls hl => ?_)
      refine lv_iload hx hb dX1_bestHouse_39 (lv_at hl 0 rfl) ?_
      refine lv_iload hx hb dX1_bestHouse_41 (lv_at hl 6 rfl) ?_
      refine lv_icmp_le (tgt := 54) hx hb dX1_bestHouse_43 (by decide) (fun h43 => ?_) (fun h43 => ?_)
      · have e9 := best_no h9 hv hleg (Int32.not_lt.mpr h43)
        rw [← e9] at hl
        refine lv_iinc (v := nI (n + 1)) (lv' := [(6, .int (nI (n + 1))), (7, .int (vbM 0 P n)), (0, .ref l0), (1, .ref (q 0)), (2, .ref q4), (3, .int (nI 1)), (4, .int (houM (scanM P (vbM 0 P) (n + 1)))), (5, .int (gotM (scanM P (vbM 0 P) (n + 1))))]) hx hb dX1_bestHouse_54 hl (k := 7) rfl (nI_add _ _) (by decide) rfl (fun ls hl => ?_)
        refine lv_goto (tgt := 12) hx hb dX1_bestHouse_57 (by decide) ?_
        exact ih (12 - (n + 1)) _ _ _ (by omega) ⟨n + 1, u34.1, u34.2, by omega, rfl, hW, lv_sub hl [2, 3, 4, 5, 6, 7, 0] rfl⟩
      · have e9 := best_yes hleg (Int32.not_le.mp h43)
        refine lv_iload hx hb dX1_bestHouse_46 (lv_at hl 7 rfl) ?_
        refine lv_istore (lv' := [(4, .int (nI n)), (7, .int (vbM 0 P n)), (0, .ref l0), (1, .ref (q 0)), (2, .ref q4), (3, .int (nI 1)), (5, .int (gotM (scanM P (vbM 0 P) n))), (6, .int (nI n))]) hx hb dX1_bestHouse_48 hl (by decide) rfl (fun ls hl => ?_)
        refine lv_iload hx hb dX1_bestHouse_50 (lv_at hl 1 rfl) ?_
        refine lv_istore (lv' := [(5, .int (vbM 0 P n)), (4, .int (nI n)), (7, .int (vbM 0 P n)), (0, .ref l0), (1, .ref (q 0)), (2, .ref q4), (3, .int (nI 1)), (6, .int (nI n))]) hx hb dX1_bestHouse_52 hl (by decide) rfl (fun ls hl => ?_)
        refine lv_iinc (v := nI (n + 1)) (lv' := [(6, .int (nI (n + 1))), (5, .int (vbM 0 P n)), (4, .int (nI n)), (7, .int (vbM 0 P n)), (0, .ref l0), (1, .ref (q 0)), (2, .ref q4), (3, .int (nI 1))]) hx hb dX1_bestHouse_54 hl (k := 7) rfl (nI_add _ _) (by decide) rfl (fun ls hl => ?_)
        refine lv_goto (tgt := 12) hx hb dX1_bestHouse_57 (by decide) ?_
        exact ih (12 - (n + 1)) _ _ _ (by omega) ⟨n + 1, u34.1, u34.2, by omega, rfl, hW, by rw [e9, got_s, hou_s]; exact lv_sub hl [4, 5, 6, 7, 2, 1, 0] rfl⟩
set_option maxHeartbeats 4000000 in
set_option maxRecDepth 100000 in
theorem c_bestHouse2 (l : Launch) (D : va_G) (T : Nat → ClassId) (l0 tr rp bh q4 : Nat) (bd : Nat → Nat → Nat) (q : Nat → Nat) (bs : Nat → Nat → Int32) (rv E P : Nat → Int32) {S : Int} (hI : Iv S P) (hE : ∀ j, j < 4 → E j = P (34 + j)) : KI (S := (Nat → Nat → Int32) × (Nat → Int32)) l D T yX1_bestHouse cX1_bestHouse 8 (some .int) 7 [.ref l0, .ref (q 0), .ref q4, .int (nI 2)] ([(l0, .inr (1, [.ref tr, .ref rp, .ref bh])), (rp, .inr (4, [.int (rv 0), .int (rv 1), .int (rv 2), .int (rv 3), .int (rv 4)])), (bh, .inl (T 3, 5, .inr (.inr (.inr (.inr (fun j => some (bd j 0)))))))] ++ ((pblk T (bd 1) (bs 1)) ++ ((pblk T (bd 2) (bs 2)) ++ ((pblk T q P) ++ ([(q4, .inl (T 0, 4, .inl E))]))))) (fun r _ => r = houM (scanM P (vbM 1 P) 12)) (fun u => ([(l0, .inr (1, [.ref tr, .ref rp, .ref bh])), (rp, .inr (4, [.int (u.2 0), .int (u.2 1), .int (u.2 2), .int (u.2 3), .int (u.2 4)])), (bh, .inl (T 3, 5, .inr (.inr (.inr (.inr (fun j => some (bd j 0)))))))] ++ ((pblk T (bd 1) (u.1 1)) ++ ((pblk T (bd 2) (u.1 2)) ++ ((pblk T q P) ++ ([(q4, .inl (T 0, 4, .inl E))])))))) := by
  refine KI.of (by decide +kernel) (Nat.le_of_ble_eq_true rfl) (fun p e s m below meth c A F hr hlk hW ls hl => ?_)
  have hx := F.1
  have hb := F.2.1
  have hl : lv_has ls 8 [(0, .ref l0), (1, .ref (q 0)), (2, .ref q4), (3, .int (nI 2))] := hl
  refine lv_bipush (v := -6) hx hb dX1_bestHouse_0 (by decide) ?_
  refine lv_istore (lv' := [(4, .int (-6)), (0, .ref l0), (1, .ref (q 0)), (2, .ref q4), (3, .int (nI 2))]) hx hb dX1_bestHouse_2 hl (by decide) rfl (fun ls hl => ?_)
  refine lv_sipush (v := -10000) hx hb dX1_bestHouse_4 (by decide) ?_
  refine lv_istore (lv' := [(5, .int (-10000)), (4, .int (-6)), (0, .ref l0), (1, .ref (q 0)), (2, .ref q4), (3, .int (nI 2))]) hx hb dX1_bestHouse_7 hl (by decide) rfl (fun ls hl => ?_)
  refine lv_iconst (v := nI 0) hx hb dX1_bestHouse_9 (by decide) ?_
  refine lv_istore (lv' := [(6, .int (nI 0)), (5, .int (-10000)), (4, .int (-6)), (0, .ref l0), (1, .ref (q 0)), (2, .ref q4), (3, .int (nI 2))]) hx hb dX1_bestHouse_10 hl (by decide) rfl (fun ls hl => ?_)
  have hv : ∀ h, h < 12 → legM P h → -2000 ≤ (vbM 1 P h).toInt ∧ (vbM 1 P h).toInt ≤ 2000 := fun h hh hl => vbM_b hI 1 hh hl
  refine W.loop (fun z H2 locs2 ls2 => ∃ (n : Nat) (bs : Nat → Nat → Int32) (rv : Nat → Int32), n ≤ 12 ∧ z = 12 - n ∧ Wd D T A s ([(l0, .inr (1, [.ref tr, .ref rp, .ref bh])), (rp, .inr (4, [.int (rv 0), .int (rv 1), .int (rv 2), .int (rv 3), .int (rv 4)])), (bh, .inl (T 3, 5, .inr (.inr (.inr (.inr (fun j => some (bd j 0)))))))] ++ ((pblk T (bd 1) (bs 1)) ++ ((pblk T (bd 2) (bs 2)) ++ ((pblk T q P) ++ ([(q4, .inl (T 0, 4, .inl E))]))))) H2 locs2 ∧ lv_has ls2 8 [(0, .ref l0), (1, .ref (q 0)), (2, .ref q4), (3, .int (nI 2)), (4, .int (houM (scanM P (vbM 1 P) n))), (5, .int (gotM (scanM P (vbM 1 P) n))), (6, .int (nI n))]) ?_ 12 ⟨0, bs, rv, by omega, rfl, hW, by rw [scan_0, got_0, hou_0]; exact lv_sub hl [3, 4, 5, 6, 2, 1, 0] rfl⟩
  rintro z H locs ls ⟨n, bs, rv, hn, rfl, hW, hl⟩ ih
  refine lv_iload hx hb dX1_bestHouse_12 (lv_at hl 6 rfl) ?_
  refine lv_bipush (v := nI 12) hx hb dX1_bestHouse_14 (by decide) ?_
  refine lv_icmp_ge (tgt := 60) hx hb dX1_bestHouse_16 (by decide) (fun h16 => ?_) (fun h16 => ?_)
  · have h9 : n = 12 := by have := n_le h16 (by omega) (by omega); omega
    subst h9
    refine lv_iload hx hb dX1_bestHouse_60 (lv_at hl 4 rfl) ?_
    exact retI F hr hlk rfl hW (bs, rv) rfl rfl dX1_bestHouse_62
  · have h9 : n < 12 := n_nle h16 (by decide) (by omega)
    refine lv_aload_n hx hb dX1_bestHouse_19 rfl (lv_at hl 1 rfl) ?_
    refine lv_iload hx hb dX1_bestHouse_20 (lv_at hl 6 rfl) ?_
    refine cRV (As := [.int (nI n)]) (rest := []) F hW hl cs337 (c_canMoveFrom l D T (q 0) (q 1) (q 2) (q 3) (P 26) (P 27) (P 28) (fun j => P j) (h := n) (by omega)) [11, 12] rfl rfl 0 3 rfl rfl rfl rfl rfl (Nat.le_of_ble_eq_true rfl) ⟨Nat.le_of_ble_eq_true rfl, Nat.le_of_ble_eq_true rfl⟩ ⟨Nat.zero_le _, Nat.zero_le _⟩ dX1_bestHouse_22 (fun r22 hr22 => ?_)
    subst hr22
    refine lv_if_eq (tgt := 54) hx hb dX1_bestHouse_25 (by decide) (fun h25 => ?_) (fun h25 => ?_)
    · have hn2 : ¬ legM P n := bz.mp h25
      rw [← got_skip (v := (vbM 1 P)) hn2] at hl
      refine lv_iinc (v := nI (n + 1)) (lv' := [(6, .int (nI (n + 1))), (0, .ref l0), (1, .ref (q 0)), (2, .ref q4), (3, .int (nI 2)), (4, .int (houM (scanM P (vbM 1 P) (n + 1)))), (5, .int (gotM (scanM P (vbM 1 P) (n + 1))))]) hx hb dX1_bestHouse_54 hl (k := 6) rfl (nI_add _ _) (by decide) rfl (fun ls hl => ?_)
      refine lv_goto (tgt := 12) hx hb dX1_bestHouse_57 (by decide) ?_
      exact ih (12 - (n + 1)) _ _ _ (by omega) ⟨n + 1, bs, rv, by omega, rfl, hW, lv_sub hl [1, 2, 3, 4, 5, 6, 0] rfl⟩
    · have hleg : legM P n := Decidable.not_not.mp (fun q => h25 (bz.mpr q))
      refine lv_aload_n hx hb dX1_bestHouse_28 rfl (lv_at hl 0 rfl) ?_
      refine lv_aload_n hx hb dX1_bestHouse_29 rfl (lv_at hl 1 rfl) ?_
      refine lv_iload hx hb dX1_bestHouse_30 (lv_at hl 6 rfl) ?_
      refine lv_aload_n hx hb dX1_bestHouse_32 rfl (lv_at hl 2 rfl) ?_
      refine lv_iload_n hx hb dX1_bestHouse_33 rfl (lv_at hl 3 rfl) ?_
      refine cIV (As := [.ref (q 0), .int (nI n), .ref q4, .int (nI 2)]) (rest := []) (wr := []) F hW hl cs344 (c_valueBehind2 l D T l0 tr rp bh q4 bd q bs rv E P hI hE (h := n) h9 hleg) [0, 1, 2, 3, 4, 5, 6, 7, 8, 9, 10, 11, 12, 13, 14, 15] [] rfl rfl rfl rfl (by decide) 0 1 rfl rfl rfl rfl rfl (Nat.le_of_ble_eq_true rfl) ⟨Nat.le_of_ble_eq_true rfl, Nat.le_of_ble_eq_true rfl⟩ ⟨Nat.zero_le _, Nat.zero_le _⟩ dX1_bestHouse_34 (fun r34 u34 H locs hr34 hW => ?_)
      have hW := Wd.ord hW (ws' := ([(l0, .inr (1, [.ref tr, .ref rp, .ref bh])), (rp, .inr (4, [.int (u34.2 0), .int (u34.2 1), .int (u34.2 2), .int (u34.2 3), .int (u34.2 4)])), (bh, .inl (T 3, 5, .inr (.inr (.inr (.inr (fun j => some (bd j 0)))))))] ++ ((pblk T (bd 1) (u34.1 1)) ++ ((pblk T (bd 2) (u34.1 2)) ++ ((pblk T q P) ++ ([(q4, .inl (T 0, 4, .inl E))])))))) [0, 1, 2, 3, 4, 5, 6, 7, 8, 9, 10, 11, 12, 13, 14, 15] rfl rfl
      subst hr34
      refine lv_istore (lv' := [(7, .int (vbM 1 P n)), (0, .ref l0), (1, .ref (q 0)), (2, .ref q4), (3, .int (nI 2)), (4, .int (houM (scanM P (vbM 1 P) n))), (5, .int (gotM (scanM P (vbM 1 P) n))), (6, .int (nI n))]) hx hb dX1_bestHouse_37 hl (by decide) rfl (fun ls hl => ?_)
      refine lv_iload hx hb dX1_bestHouse_39 (lv_at hl 0 rfl) ?_
      refine lv_iload hx hb dX1_bestHouse_41 (lv_at hl 6 rfl) ?_
      refine lv_icmp_le (tgt := 54) hx hb dX1_bestHouse_43 (by decide) (fun h43 => ?_) (fun h43 => ?_)
      · have e9 := best_no h9 hv hleg (Int32.not_lt.mpr h43)
        rw [← e9] at hl
        refine lv_iinc (v := nI (n + 1)) (lv' := [(6, .int (nI (n + 1))), (7, .int (vbM 1 P n)), (0, .ref l0), (1, .ref (q 0)), (2, .ref q4), (3, .int (nI 2)), (4, .int (houM (scanM P (vbM 1 P) (n + 1)))), (5, .int (gotM (scanM P (vbM 1 P) (n + 1))))]) hx hb dX1_bestHouse_54 hl (k := 7) rfl (nI_add _ _) (by decide) rfl (fun ls hl => ?_)
        refine lv_goto (tgt := 12) hx hb dX1_bestHouse_57 (by decide) ?_
        exact ih (12 - (n + 1)) _ _ _ (by omega) ⟨n + 1, u34.1, u34.2, by omega, rfl, hW, lv_sub hl [2, 3, 4, 5, 6, 7, 0] rfl⟩
      · have e9 := best_yes hleg (Int32.not_le.mp h43)
        refine lv_iload hx hb dX1_bestHouse_46 (lv_at hl 7 rfl) ?_
        refine lv_istore (lv' := [(4, .int (nI n)), (7, .int (vbM 1 P n)), (0, .ref l0), (1, .ref (q 0)), (2, .ref q4), (3, .int (nI 2)), (5, .int (gotM (scanM P (vbM 1 P) n))), (6, .int (nI n))]) hx hb dX1_bestHouse_48 hl (by decide) rfl (fun ls hl => ?_)
        refine lv_iload hx hb dX1_bestHouse_50 (lv_at hl 1 rfl) ?_
        refine lv_istore (lv' := [(5, .int (vbM 1 P n)), (4, .int (nI n)), (7, .int (vbM 1 P n)), (0, .ref l0), (1, .ref (q 0)), (2, .ref q4), (3, .int (nI 2)), (6, .int (nI n))]) hx hb dX1_bestHouse_52 hl (by decide) rfl (fun ls hl => ?_)
        refine lv_iinc (v := nI (n + 1)) (lv' := [(6, .int (nI (n + 1))), (5, .int (vbM 1 P n)), (4, .int (nI n)), (7, .int (vbM 1 P n)), (0, .ref l0), (1, .ref (q 0)), (2, .ref q4), (3, .int (nI 2))]) hx hb dX1_bestHouse_54 hl (k := 7) rfl (nI_add _ _) (by decide) rfl (fun ls hl => ?_)
        refine lv_goto (tgt := 12) hx hb dX1_bestHouse_57 (by decide) ?_
        exact ih (12 - (n + 1)) _ _ _ (by omega) ⟨n + 1, u34.1, u34.2, by omega, rfl, hW, by rw [e9, got_s, hou_s]; exact lv_sub hl [4, 5, 6, 7, 2, 1, 0] rfl⟩
set_option maxHeartbeats 4000000 in
set_option maxRecDepth 100000 in
theorem c_bestHouse3 (l : Launch) (D : va_G) (T : Nat → ClassId) (l0 tr rp bh q4 : Nat) (bd : Nat → Nat → Nat) (q : Nat → Nat) (bs : Nat → Nat → Int32) (rv E P : Nat → Int32) {S : Int} (hI : Iv S P) (hE : ∀ j, j < 4 → E j = P (34 + j)) : KI (S := (Nat → Nat → Int32) × (Nat → Int32)) l D T yX1_bestHouse cX1_bestHouse 8 (some .int) 9 [.ref l0, .ref (q 0), .ref q4, .int (nI 3)] ([(l0, .inr (1, [.ref tr, .ref rp, .ref bh])), (rp, .inr (4, [.int (rv 0), .int (rv 1), .int (rv 2), .int (rv 3), .int (rv 4)])), (bh, .inl (T 3, 5, .inr (.inr (.inr (.inr (fun j => some (bd j 0)))))))] ++ ((pblk T (bd 1) (bs 1)) ++ ((pblk T (bd 2) (bs 2)) ++ ((pblk T (bd 3) (bs 3)) ++ ((pblk T q P) ++ ([(q4, .inl (T 0, 4, .inl E))])))))) (fun r _ => r = houM (scanM P (vbM 2 P) 12)) (fun u => ([(l0, .inr (1, [.ref tr, .ref rp, .ref bh])), (rp, .inr (4, [.int (u.2 0), .int (u.2 1), .int (u.2 2), .int (u.2 3), .int (u.2 4)])), (bh, .inl (T 3, 5, .inr (.inr (.inr (.inr (fun j => some (bd j 0)))))))] ++ ((pblk T (bd 1) (u.1 1)) ++ ((pblk T (bd 2) (u.1 2)) ++ ((pblk T (bd 3) (u.1 3)) ++ ((pblk T q P) ++ ([(q4, .inl (T 0, 4, .inl E))]))))))) := by
  refine KI.of (by decide +kernel) (Nat.le_of_ble_eq_true rfl) (fun p e s m below meth c A F hr hlk hW ls hl => ?_)
  have hx := F.1
  have hb := F.2.1
  have hl : lv_has ls 8 [(0, .ref l0), (1, .ref (q 0)), (2, .ref q4), (3, .int (nI 3))] := hl
  refine lv_bipush (v := -6) hx hb dX1_bestHouse_0 (by decide) ?_
  refine lv_istore (lv' := [(4, .int (-6)), (0, .ref l0), (1, .ref (q 0)), (2, .ref q4), (3, .int (nI 3))]) hx hb dX1_bestHouse_2 hl (by decide) rfl (fun ls hl => ?_)
  refine lv_sipush (v := -10000) hx hb dX1_bestHouse_4 (by decide) ?_
  refine lv_istore (lv' := [(5, .int (-10000)), (4, .int (-6)), (0, .ref l0), (1, .ref (q 0)), (2, .ref q4), (3, .int (nI 3))]) hx hb dX1_bestHouse_7 hl (by decide) rfl (fun ls hl => ?_)
  refine lv_iconst (v := nI 0) hx hb dX1_bestHouse_9 (by decide) ?_
  refine lv_istore (lv' := [(6, .int (nI 0)), (5, .int (-10000)), (4, .int (-6)), (0, .ref l0), (1, .ref (q 0)), (2, .ref q4), (3, .int (nI 3))]) hx hb dX1_bestHouse_10 hl (by decide) rfl (fun ls hl => ?_)
  have hv : ∀ h, h < 12 → legM P h → -2000 ≤ (vbM 2 P h).toInt ∧ (vbM 2 P h).toInt ≤ 2000 := fun h hh hl => vbM_b hI 2 hh hl
  refine W.loop (fun z H2 locs2 ls2 => ∃ (n : Nat) (bs : Nat → Nat → Int32) (rv : Nat → Int32), n ≤ 12 ∧ z = 12 - n ∧ Wd D T A s ([(l0, .inr (1, [.ref tr, .ref rp, .ref bh])), (rp, .inr (4, [.int (rv 0), .int (rv 1), .int (rv 2), .int (rv 3), .int (rv 4)])), (bh, .inl (T 3, 5, .inr (.inr (.inr (.inr (fun j => some (bd j 0)))))))] ++ ((pblk T (bd 1) (bs 1)) ++ ((pblk T (bd 2) (bs 2)) ++ ((pblk T (bd 3) (bs 3)) ++ ((pblk T q P) ++ ([(q4, .inl (T 0, 4, .inl E))])))))) H2 locs2 ∧ lv_has ls2 8 [(0, .ref l0), (1, .ref (q 0)), (2, .ref q4), (3, .int (nI 3)), (4, .int (houM (scanM P (vbM 2 P) n))), (5, .int (gotM (scanM P (vbM 2 P) n))), (6, .int (nI n))]) ?_ 12 ⟨0, bs, rv, by omega, rfl, hW, by rw [scan_0, got_0, hou_0]; exact lv_sub hl [3, 4, 5, 6, 2, 1, 0] rfl⟩
  rintro z H locs ls ⟨n, bs, rv, hn, rfl, hW, hl⟩ ih
  refine lv_iload hx hb dX1_bestHouse_12 (lv_at hl 6 rfl) ?_
  refine lv_bipush (v := nI 12) hx hb dX1_bestHouse_14 (by decide) ?_
  refine lv_icmp_ge (tgt := 60) hx hb dX1_bestHouse_16 (by decide) (fun h16 => ?_) (fun h16 => ?_)
  · have h9 : n = 12 := by have := n_le h16 (by omega) (by omega); omega
    subst h9
    refine lv_iload hx hb dX1_bestHouse_60 (lv_at hl 4 rfl) ?_
    exact retI F hr hlk rfl hW (bs, rv) rfl rfl dX1_bestHouse_62
  · have h9 : n < 12 := n_nle h16 (by decide) (by omega)
    refine lv_aload_n hx hb dX1_bestHouse_19 rfl (lv_at hl 1 rfl) ?_
    refine lv_iload hx hb dX1_bestHouse_20 (lv_at hl 6 rfl) ?_
    refine cRV (As := [.int (nI n)]) (rest := []) F hW hl cs337 (c_canMoveFrom l D T (q 0) (q 1) (q 2) (q 3) (P 26) (P 27) (P 28) (fun j => P j) (h := n) (by omega)) [15, 16] rfl rfl 0 3 rfl rfl rfl rfl rfl (Nat.le_of_ble_eq_true rfl) ⟨Nat.le_of_ble_eq_true rfl, Nat.le_of_ble_eq_true rfl⟩ ⟨Nat.zero_le _, Nat.zero_le _⟩ dX1_bestHouse_22 (fun r22 hr22 => ?_)
    subst hr22
    refine lv_if_eq (tgt := 54) hx hb dX1_bestHouse_25 (by decide) (fun h25 => ?_) (fun h25 => ?_)
    · have hn2 : ¬ legM P n := bz.mp h25
      rw [← got_skip (v := (vbM 2 P)) hn2] at hl
      refine lv_iinc (v := nI (n + 1)) (lv' := [(6, .int (nI (n + 1))), (0, .ref l0), (1, .ref (q 0)), (2, .ref q4), (3, .int (nI 3)), (4, .int (houM (scanM P (vbM 2 P) (n + 1)))), (5, .int (gotM (scanM P (vbM 2 P) (n + 1))))]) hx hb dX1_bestHouse_54 hl (k := 6) rfl (nI_add _ _) (by decide) rfl (fun ls hl => ?_)
      refine lv_goto (tgt := 12) hx hb dX1_bestHouse_57 (by decide) ?_
      exact ih (12 - (n + 1)) _ _ _ (by omega) ⟨n + 1, bs, rv, by omega, rfl, hW, lv_sub hl [1, 2, 3, 4, 5, 6, 0] rfl⟩
    · have hleg : legM P n := Decidable.not_not.mp (fun q => h25 (bz.mpr q))
      refine lv_aload_n hx hb dX1_bestHouse_28 rfl (lv_at hl 0 rfl) ?_
      refine lv_aload_n hx hb dX1_bestHouse_29 rfl (lv_at hl 1 rfl) ?_
      refine lv_iload hx hb dX1_bestHouse_30 (lv_at hl 6 rfl) ?_
      refine lv_aload_n hx hb dX1_bestHouse_32 rfl (lv_at hl 2 rfl) ?_
      refine lv_iload_n hx hb dX1_bestHouse_33 rfl (lv_at hl 3 rfl) ?_
      refine cIV (As := [.ref (q 0), .int (nI n), .ref q4, .int (nI 3)]) (rest := []) (wr := []) F hW hl cs344 (c_valueBehind3 l D T l0 tr rp bh q4 bd q bs rv E P hI hE (h := n) h9 hleg) [0, 1, 2, 3, 4, 5, 6, 7, 8, 9, 10, 11, 12, 13, 14, 15, 16, 17, 18, 19] [] rfl rfl rfl rfl (by decide) 0 1 rfl rfl rfl rfl rfl (Nat.le_of_ble_eq_true rfl) ⟨Nat.le_of_ble_eq_true rfl, Nat.le_of_ble_eq_true rfl⟩ ⟨Nat.zero_le _, Nat.zero_le _⟩ dX1_bestHouse_34 (fun r34 u34 H locs hr34 hW => ?_)
      have hW := Wd.ord hW (ws' := ([(l0, .inr (1, [.ref tr, .ref rp, .ref bh])), (rp, .inr (4, [.int (u34.2 0), .int (u34.2 1), .int (u34.2 2), .int (u34.2 3), .int (u34.2 4)])), (bh, .inl (T 3, 5, .inr (.inr (.inr (.inr (fun j => some (bd j 0)))))))] ++ ((pblk T (bd 1) (u34.1 1)) ++ ((pblk T (bd 2) (u34.1 2)) ++ ((pblk T (bd 3) (u34.1 3)) ++ ((pblk T q P) ++ ([(q4, .inl (T 0, 4, .inl E))]))))))) [0, 1, 2, 3, 4, 5, 6, 7, 8, 9, 10, 11, 12, 13, 14, 15, 16, 17, 18, 19] rfl rfl
      subst hr34
      refine lv_istore (lv' := [(7, .int (vbM 2 P n)), (0, .ref l0), (1, .ref (q 0)), (2, .ref q4), (3, .int (nI 3)), (4, .int (houM (scanM P (vbM 2 P) n))), (5, .int (gotM (scanM P (vbM 2 P) n))), (6, .int (nI n))]) hx hb dX1_bestHouse_37 hl (by decide) rfl (fun ls hl => ?_)
      refine lv_iload hx hb dX1_bestHouse_39 (lv_at hl 0 rfl) ?_
      refine lv_iload hx hb dX1_bestHouse_41 (lv_at hl 6 rfl) ?_
      refine lv_icmp_le (tgt := 54) hx hb dX1_bestHouse_43 (by decide) (fun h43 => ?_) (fun h43 => ?_)
      · have e9 := best_no h9 hv hleg (Int32.not_lt.mpr h43)
        rw [← e9] at hl
        refine lv_iinc (v := nI (n + 1)) (lv' := [(6, .int (nI (n + 1))), (7, .int (vbM 2 P n)), (0, .ref l0), (1, .ref (q 0)), (2, .ref q4), (3, .int (nI 3)), (4, .int (houM (scanM P (vbM 2 P) (n + 1)))), (5, .int (gotM (scanM P (vbM 2 P) (n + 1))))]) hx hb dX1_bestHouse_54 hl (k := 7) rfl (nI_add _ _) (by decide) rfl (fun ls hl => ?_)
        refine lv_goto (tgt := 12) hx hb dX1_bestHouse_57 (by decide) ?_
        exact ih (12 - (n + 1)) _ _ _ (by omega) ⟨n + 1, u34.1, u34.2, by omega, rfl, hW, lv_sub hl [2, 3, 4, 5, 6, 7, 0] rfl⟩
      · have e9 := best_yes hleg (Int32.not_le.mp h43)
        refine lv_iload hx hb dX1_bestHouse_46 (lv_at hl 7 rfl) ?_
        refine lv_istore (lv' := [(4, .int (nI n)), (7, .int (vbM 2 P n)), (0, .ref l0), (1, .ref (q 0)), (2, .ref q4), (3, .int (nI 3)), (5, .int (gotM (scanM P (vbM 2 P) n))), (6, .int (nI n))]) hx hb dX1_bestHouse_48 hl (by decide) rfl (fun ls hl => ?_)
        refine lv_iload hx hb dX1_bestHouse_50 (lv_at hl 1 rfl) ?_
        refine lv_istore (lv' := [(5, .int (vbM 2 P n)), (4, .int (nI n)), (7, .int (vbM 2 P n)), (0, .ref l0), (1, .ref (q 0)), (2, .ref q4), (3, .int (nI 3)), (6, .int (nI n))]) hx hb dX1_bestHouse_52 hl (by decide) rfl (fun ls hl => ?_)
        refine lv_iinc (v := nI (n + 1)) (lv' := [(6, .int (nI (n + 1))), (5, .int (vbM 2 P n)), (4, .int (nI n)), (7, .int (vbM 2 P n)), (0, .ref l0), (1, .ref (q 0)), (2, .ref q4), (3, .int (nI 3))]) hx hb dX1_bestHouse_54 hl (k := 7) rfl (nI_add _ _) (by decide) rfl (fun ls hl => ?_)
        refine lv_goto (tgt := 12) hx hb dX1_bestHouse_57 (by decide) ?_
        exact ih (12 - (n + 1)) _ _ _ (by omega) ⟨n + 1, u34.1, u34.2, by omega, rfl, hW, by rw [e9, got_s, hou_s]; exact lv_sub hl [4, 5, 6, 7, 2, 1, 0] rfl⟩
set_option maxHeartbeats 4000000 in
set_option maxRecDepth 100000 in
theorem c_bestHouse4 (l : Launch) (D : va_G) (T : Nat → ClassId) (l0 tr rp bh q4 : Nat) (bd : Nat → Nat → Nat) (q : Nat → Nat) (bs : Nat → Nat → Int32) (rv E P : Nat → Int32) {S : Int} (hI : Iv S P) (hE : ∀ j, j < 4 → E j = P (34 + j)) : KI (S := (Nat → Nat → Int32) × (Nat → Int32)) l D T yX1_bestHouse cX1_bestHouse 8 (some .int) 11 [.ref l0, .ref (q 0), .ref q4, .int (nI 4)] ([(l0, .inr (1, [.ref tr, .ref rp, .ref bh])), (rp, .inr (4, [.int (rv 0), .int (rv 1), .int (rv 2), .int (rv 3), .int (rv 4)])), (bh, .inl (T 3, 5, .inr (.inr (.inr (.inr (fun j => some (bd j 0)))))))] ++ ((pblk T (bd 1) (bs 1)) ++ ((pblk T (bd 2) (bs 2)) ++ ((pblk T (bd 3) (bs 3)) ++ ((pblk T (bd 4) (bs 4)) ++ ((pblk T q P) ++ ([(q4, .inl (T 0, 4, .inl E))]))))))) (fun r _ => r = houM (scanM P (vbM 3 P) 12)) (fun u => ([(l0, .inr (1, [.ref tr, .ref rp, .ref bh])), (rp, .inr (4, [.int (u.2 0), .int (u.2 1), .int (u.2 2), .int (u.2 3), .int (u.2 4)])), (bh, .inl (T 3, 5, .inr (.inr (.inr (.inr (fun j => some (bd j 0)))))))] ++ ((pblk T (bd 1) (u.1 1)) ++ ((pblk T (bd 2) (u.1 2)) ++ ((pblk T (bd 3) (u.1 3)) ++ ((pblk T (bd 4) (u.1 4)) ++ ((pblk T q P) ++ ([(q4, .inl (T 0, 4, .inl E))])))))))) := by
  refine KI.of (by decide +kernel) (Nat.le_of_ble_eq_true rfl) (fun p e s m below meth c A F hr hlk hW ls hl => ?_)
  have hx := F.1
  have hb := F.2.1
  have hl : lv_has ls 8 [(0, .ref l0), (1, .ref (q 0)), (2, .ref q4), (3, .int (nI 4))] := hl
  refine lv_bipush (v := -6) hx hb dX1_bestHouse_0 (by decide) ?_
  refine lv_istore (lv' := [(4, .int (-6)), (0, .ref l0), (1, .ref (q 0)), (2, .ref q4), (3, .int (nI 4))]) hx hb dX1_bestHouse_2 hl (by decide) rfl (fun ls hl => ?_)
  refine lv_sipush (v := -10000) hx hb dX1_bestHouse_4 (by decide) ?_
  refine lv_istore (lv' := [(5, .int (-10000)), (4, .int (-6)), (0, .ref l0), (1, .ref (q 0)), (2, .ref q4), (3, .int (nI 4))]) hx hb dX1_bestHouse_7 hl (by decide) rfl (fun ls hl => ?_)
  refine lv_iconst (v := nI 0) hx hb dX1_bestHouse_9 (by decide) ?_
  refine lv_istore (lv' := [(6, .int (nI 0)), (5, .int (-10000)), (4, .int (-6)), (0, .ref l0), (1, .ref (q 0)), (2, .ref q4), (3, .int (nI 4))]) hx hb dX1_bestHouse_10 hl (by decide) rfl (fun ls hl => ?_)
  have hv : ∀ h, h < 12 → legM P h → -2000 ≤ (vbM 3 P h).toInt ∧ (vbM 3 P h).toInt ≤ 2000 := fun h hh hl => vbM_b hI 3 hh hl
  refine W.loop (fun z H2 locs2 ls2 => ∃ (n : Nat) (bs : Nat → Nat → Int32) (rv : Nat → Int32), n ≤ 12 ∧ z = 12 - n ∧ Wd D T A s ([(l0, .inr (1, [.ref tr, .ref rp, .ref bh])), (rp, .inr (4, [.int (rv 0), .int (rv 1), .int (rv 2), .int (rv 3), .int (rv 4)])), (bh, .inl (T 3, 5, .inr (.inr (.inr (.inr (fun j => some (bd j 0)))))))] ++ ((pblk T (bd 1) (bs 1)) ++ ((pblk T (bd 2) (bs 2)) ++ ((pblk T (bd 3) (bs 3)) ++ ((pblk T (bd 4) (bs 4)) ++ ((pblk T q P) ++ ([(q4, .inl (T 0, 4, .inl E))]))))))) H2 locs2 ∧ lv_has ls2 8 [(0, .ref l0), (1, .ref (q 0)), (2, .ref q4), (3, .int (nI 4)), (4, .int (houM (scanM P (vbM 3 P) n))), (5, .int (gotM (scanM P (vbM 3 P) n))), (6, .int (nI n))]) ?_ 12 ⟨0, bs, rv, by omega, rfl, hW, by rw [scan_0, got_0, hou_0]; exact lv_sub hl [3, 4, 5, 6, 2, 1, 0] rfl⟩
  rintro z H locs ls ⟨n, bs, rv, hn, rfl, hW, hl⟩ ih
  refine lv_iload hx hb dX1_bestHouse_12 (lv_at hl 6 rfl) ?_
  refine lv_bipush (v := nI 12) hx hb dX1_bestHouse_14 (by decide) ?_
  refine lv_icmp_ge (tgt := 60) hx hb dX1_bestHouse_16 (by decide) (fun h16 => ?_) (fun h16 => ?_)
  · have h9 : n = 12 := by have := n_le h16 (by omega) (by omega); omega
    subst h9
    refine lv_iload hx hb dX1_bestHouse_60 (lv_at hl 4 rfl) ?_
    exact retI F hr hlk rfl hW (bs, rv) rfl rfl dX1_bestHouse_62
  · have h9 : n < 12 := n_nle h16 (by decide) (by omega)
    refine lv_aload_n hx hb dX1_bestHouse_19 rfl (lv_at hl 1 rfl) ?_
    refine lv_iload hx hb dX1_bestHouse_20 (lv_at hl 6 rfl) ?_
    refine cRV (As := [.int (nI n)]) (rest := []) F hW hl cs337 (c_canMoveFrom l D T (q 0) (q 1) (q 2) (q 3) (P 26) (P 27) (P 28) (fun j => P j) (h := n) (by omega)) [19, 20] rfl rfl 0 3 rfl rfl rfl rfl rfl (Nat.le_of_ble_eq_true rfl) ⟨Nat.le_of_ble_eq_true rfl, Nat.le_of_ble_eq_true rfl⟩ ⟨Nat.zero_le _, Nat.zero_le _⟩ dX1_bestHouse_22 (fun r22 hr22 => ?_)
    subst hr22
    refine lv_if_eq (tgt := 54) hx hb dX1_bestHouse_25 (by decide) (fun h25 => ?_) (fun h25 => ?_)
    · have hn2 : ¬ legM P n := bz.mp h25
      rw [← got_skip (v := (vbM 3 P)) hn2] at hl
      refine lv_iinc (v := nI (n + 1)) (lv' := [(6, .int (nI (n + 1))), (0, .ref l0), (1, .ref (q 0)), (2, .ref q4), (3, .int (nI 4)), (4, .int (houM (scanM P (vbM 3 P) (n + 1)))), (5, .int (gotM (scanM P (vbM 3 P) (n + 1))))]) hx hb dX1_bestHouse_54 hl (k := 6) rfl (nI_add _ _) (by decide) rfl (fun ls hl => ?_)
      refine lv_goto (tgt := 12) hx hb dX1_bestHouse_57 (by decide) ?_
      exact ih (12 - (n + 1)) _ _ _ (by omega) ⟨n + 1, bs, rv, by omega, rfl, hW, lv_sub hl [1, 2, 3, 4, 5, 6, 0] rfl⟩
    · have hleg : legM P n := Decidable.not_not.mp (fun q => h25 (bz.mpr q))
      refine lv_aload_n hx hb dX1_bestHouse_28 rfl (lv_at hl 0 rfl) ?_
      refine lv_aload_n hx hb dX1_bestHouse_29 rfl (lv_at hl 1 rfl) ?_
      refine lv_iload hx hb dX1_bestHouse_30 (lv_at hl 6 rfl) ?_
      refine lv_aload_n hx hb dX1_bestHouse_32 rfl (lv_at hl 2 rfl) ?_
      refine lv_iload_n hx hb dX1_bestHouse_33 rfl (lv_at hl 3 rfl) ?_
      refine cIV (As := [.ref (q 0), .int (nI n), .ref q4, .int (nI 4)]) (rest := []) (wr := []) F hW hl cs344 (c_valueBehind4 l D T l0 tr rp bh q4 bd q bs rv E P hI hE (h := n) h9 hleg) [0, 1, 2, 3, 4, 5, 6, 7, 8, 9, 10, 11, 12, 13, 14, 15, 16, 17, 18, 19, 20, 21, 22, 23] [] rfl rfl rfl rfl (by decide) 0 1 rfl rfl rfl rfl rfl (Nat.le_of_ble_eq_true rfl) ⟨Nat.le_of_ble_eq_true rfl, Nat.le_of_ble_eq_true rfl⟩ ⟨Nat.zero_le _, Nat.zero_le _⟩ dX1_bestHouse_34 (fun r34 u34 H locs hr34 hW => ?_)
      have hW := Wd.ord hW (ws' := ([(l0, .inr (1, [.ref tr, .ref rp, .ref bh])), (rp, .inr (4, [.int (u34.2 0), .int (u34.2 1), .int (u34.2 2), .int (u34.2 3), .int (u34.2 4)])), (bh, .inl (T 3, 5, .inr (.inr (.inr (.inr (fun j => some (bd j 0)))))))] ++ ((pblk T (bd 1) (u34.1 1)) ++ ((pblk T (bd 2) (u34.1 2)) ++ ((pblk T (bd 3) (u34.1 3)) ++ ((pblk T (bd 4) (u34.1 4)) ++ ((pblk T q P) ++ ([(q4, .inl (T 0, 4, .inl E))])))))))) [0, 1, 2, 3, 4, 5, 6, 7, 8, 9, 10, 11, 12, 13, 14, 15, 16, 17, 18, 19, 20, 21, 22, 23] rfl rfl
      subst hr34
      refine lv_istore (lv' := [(7, .int (vbM 3 P n)), (0, .ref l0), (1, .ref (q 0)), (2, .ref q4), (3, .int (nI 4)), (4, .int (houM (scanM P (vbM 3 P) n))), (5, .int (gotM (scanM P (vbM 3 P) n))), (6, .int (nI n))]) hx hb dX1_bestHouse_37 hl (by decide) rfl (fun ls hl => ?_)
      refine lv_iload hx hb dX1_bestHouse_39 (lv_at hl 0 rfl) ?_
      refine lv_iload hx hb dX1_bestHouse_41 (lv_at hl 6 rfl) ?_
      refine lv_icmp_le (tgt := 54) hx hb dX1_bestHouse_43 (by decide) (fun h43 => ?_) (fun h43 => ?_)
      · have e9 := best_no h9 hv hleg (Int32.not_lt.mpr h43)
        rw [← e9] at hl
        refine lv_iinc (v := nI (n + 1)) (lv' := [(6, .int (nI (n + 1))), (7, .int (vbM 3 P n)), (0, .ref l0), (1, .ref (q 0)), (2, .ref q4), (3, .int (nI 4)), (4, .int (houM (scanM P (vbM 3 P) (n + 1)))), (5, .int (gotM (scanM P (vbM 3 P) (n + 1))))]) hx hb dX1_bestHouse_54 hl (k := 7) rfl (nI_add _ _) (by decide) rfl (fun ls hl => ?_)
        refine lv_goto (tgt := 12) hx hb dX1_bestHouse_57 (by decide) ?_
        exact ih (12 - (n + 1)) _ _ _ (by omega) ⟨n + 1, u34.1, u34.2, by omega, rfl, hW, lv_sub hl [2, 3, 4, 5, 6, 7, 0] rfl⟩
      · have e9 := best_yes hleg (Int32.not_le.mp h43)
        refine lv_iload hx hb dX1_bestHouse_46 (lv_at hl 7 rfl) ?_
        refine lv_istore (lv' := [(4, .int (nI n)), (7, .int (vbM 3 P n)), (0, .ref l0), (1, .ref (q 0)), (2, .ref q4), (3, .int (nI 4)), (5, .int (gotM (scanM P (vbM 3 P) n))), (6, .int (nI n))]) hx hb dX1_bestHouse_48 hl (by decide) rfl (fun ls hl => ?_)
        refine lv_iload hx hb dX1_bestHouse_50 (lv_at hl 1 rfl) ?_
        refine lv_istore (lv' := [(5, .int (vbM 3 P n)), (4, .int (nI n)), (7, .int (vbM 3 P n)), (0, .ref l0), (1, .ref (q 0)), (2, .ref q4), (3, .int (nI 4)), (6, .int (nI n))]) hx hb dX1_bestHouse_52 hl (by decide) rfl (fun ls hl => ?_)
        refine lv_iinc (v := nI (n + 1)) (lv' := [(6, .int (nI (n + 1))), (5, .int (vbM 3 P n)), (4, .int (nI n)), (7, .int (vbM 3 P n)), (0, .ref l0), (1, .ref (q 0)), (2, .ref q4), (3, .int (nI 4))]) hx hb dX1_bestHouse_54 hl (k := 7) rfl (nI_add _ _) (by decide) rfl (fun ls hl => ?_)
        refine lv_goto (tgt := 12) hx hb dX1_bestHouse_57 (by decide) ?_
        exact ih (12 - (n + 1)) _ _ _ (by omega) ⟨n + 1, u34.1, u34.2, by omega, rfl, hW, by rw [e9, got_s, hou_s]; exact lv_sub hl [4, 5, 6, 7, 2, 1, 0] rfl⟩
