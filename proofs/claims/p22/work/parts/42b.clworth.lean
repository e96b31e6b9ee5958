-- the class: worth
set_option maxHeartbeats 4000000 in
set_option maxRecDepth 100000 in
theorem x_worth (l : Launch) (D : va_G) (T : Nat → ClassId) (x h0 s0 v0 p0 l0 tr rp bh : Nat) (a : Nat → Nat) (bd : Nat → Nat → Nat) (Y : YD) (hY : YOK Y) (ra rc : Nat → Int32) (bs : Nat → Nat → Int32) (rv : Nat → Int32) (v : Int32) : KIg (S := (Nat → Nat → Int32) × (Nat → Int32)) l D T yX6_worth cX6_worth 2 (some .int) 12 [.ref x, .int v] ((nblk T a Y.all ra rc) ++ ([(x, .inr (6, [.ref (a 0), .ref h0, .ref s0, .ref v0, .ref p0, .ref l0])), (l0, .inr (1, [.ref tr, .ref rp, .ref bh])), (rp, .inr (4, [.int (rv 0), .int (rv 1), .int (rv 2), .int (rv 3), .int (rv 4)])), (bh, .inl (T 3, 5, .inr (.inr (.inr (.inr (fun j => some (bd j 0)))))))] ++ ((pblk T (bd 1) (bs 1)) ++ ((pblk T (bd 2) (bs 2)) ++ ((pblk T (bd 3) (bs 3)) ++ ((pblk T (bd 4) (bs 4)))))))) (fun r _ => r = (yWorth Y v).1) (fun u => ((nblk T a Y.all ra rc) ++ ([(x, .inr (6, [.ref (a 0), .ref h0, .ref s0, .ref v0, .ref p0, .ref l0])), (l0, .inr (1, [.ref tr, .ref rp, .ref bh])), (rp, .inr (4, [.int (u.2 0), .int (u.2 1), .int (u.2 2), .int (u.2 3), .int (u.2 4)])), (bh, .inl (T 3, 5, .inr (.inr (.inr (.inr (fun j => some (bd j 0)))))))] ++ ((pblk T (bd 1) (u.1 1)) ++ ((pblk T (bd 2) (u.1 2)) ++ ((pblk T (bd 3) (u.1 3)) ++ ((pblk T (bd 4) (u.1 4))))))))) := by
  refine KIg.of (by decide +kernel) (Nat.le_of_ble_eq_true rfl) (fun p e s m below meth c A F hr hlk hG hW ls hl => ?_)
  have hx := F.1
  have hb := F.2.1
  have hl : lv_has ls 2 [(0, .ref x), (1, .int v)] := hl
  obtain ⟨⟨⟨S0, hI⟩, h34⟩, hnh, hpn, hHi, hsl⟩ := hY
  have hI2 := hI
  obtain ⟨hJ, ⟨pl, hpl, h26⟩, h27, ⟨mk, h28, hm1, hm2⟩, h36, h37, hleg⟩ := hI2
  refine lv_iload_n hx hb dX6_worth_0 rfl (lv_at hl 1 rfl) ?_
  refine lv_if_lt (tgt := 9) hx hb dX6_worth_1 (by decide) (fun h1 => ?_) (fun h1 => ?_)
  · have q1 := (i_lt _ _).mp h1
    rw [i_0] at q1
    refine lv_bipush (v := -2) hx hb dX6_worth_9 (by decide) ?_
    exact retI F hr hlk rfl hW (bs, rv) (by unfold yWorth; rw [if_neg (fun q : rng 0 4 v => by have := q.1; omega)]) rfl dX6_worth_11
  · have q1 : ¬ v.toInt < 0 := fun z => h1 ((i_lt _ _).mpr (by rw [i_0]; exact z))
    refine lv_iload_n hx hb dX6_worth_4 rfl (lv_at hl 1 rfl) ?_
    refine lv_iconst (v := nI 4) hx hb dX6_worth_5 (by decide) ?_
    refine lv_icmp_le (tgt := 12) hx hb dX6_worth_6 (by decide) (fun h6 => ?_) (fun h6 => ?_)
    · have q2 := (i_le _ _).mp h6
      rw [nI_toInt (by decide)] at q2
      have q : rng 0 4 v := ⟨by omega, by omega⟩
      obtain ⟨k, kb, kl, ek, ck⟩ := rng_nat q
      rw [ek] at hl
      have hk : k = 0 ∨ k = 1 ∨ k = 2 ∨ k = 3 ∨ k = 4 := by omega
      rcases hk with rfl | rfl | rfl | rfl | rfl
      · refine lv_aload_n hx hb dX6_worth_12 rfl (lv_at hl 0 rfl) ?_
        refine gf201 F hW 8 rfl rfl dX6_worth_13 ?_
        refine lv_aload_n hx hb dX6_worth_16 rfl (lv_at hl 0 rfl) ?_
        refine gf196 F hW 8 rfl rfl dX6_worth_17 ?_
        refine gf110 F hW 0 rfl rfl dX6_worth_20 ?_
        refine lv_aload_n hx hb dX6_worth_23 rfl (lv_at hl 0 rfl) ?_
        refine gf196 F hW 8 rfl rfl dX6_worth_24 ?_
        refine gf112 F hW 0 rfl rfl dX6_worth_27 ?_
        refine lv_iload_n hx hb dX6_worth_30 rfl (lv_at hl 1 rfl) ?_
        refine cIVN (n := 3) (As := [.ref (a 1), .ref (a 5), .int (nI 0)]) (rest := []) (wr := ([(a 0, .inr (5, [.ref (a 1), .ref (a 5), .ref (a 6), .ref (a 7)])), (a 6, .inr (4, [.int (ra 0), .int (ra 1), .int (ra 2), .int (ra 3), .int (ra 4)])), (a 7, .inl (T 0, 300, .inl rc)), (x, .inr (6, [.ref (a 0), .ref h0, .ref s0, .ref v0, .ref p0, .ref l0]))] ++ ((pblk T (bd 1) (bs 1)) ++ ((pblk T (bd 2) (bs 2)) ++ ((pblk T (bd 3) (bs 3)) ++ ((pblk T (bd 4) (bs 4)))))))) F hW hl hG.1.2.2.2.2.2.2.2.2.2 m381 m17 m382 m8 (by decide +kernel) (c_valueOf0 l D T l0 tr rp bh (a 5) bd (fun j => a (j + 1)) bs rv (fun j => Y.all (34 + j)) Y.all hI (fun _ _ => rfl)) [9, 10, 11, 1, 2, 3, 4, 5] [0, 6, 7, 8, 12, 13, 14, 15, 16, 17, 18, 19, 20, 21, 22, 23, 24, 25, 26, 27] rfl rfl rfl rfl (by decide) 0 1 rfl rfl rfl rfl rfl (Nat.le_of_ble_eq_true rfl) ⟨Nat.le_of_ble_eq_true rfl, Nat.le_of_ble_eq_true rfl⟩ ⟨Nat.zero_le _, Nat.zero_le _⟩ dX6_worth_31 (fun r31 u31 H locs hr31 hW => ?_)
        have hW := Wd.ord hW (ws' := ((nblk T a Y.all ra rc) ++ ([(x, .inr (6, [.ref (a 0), .ref h0, .ref s0, .ref v0, .ref p0, .ref l0])), (l0, .inr (1, [.ref tr, .ref rp, .ref bh])), (rp, .inr (4, [.int (u31.2 0), .int (u31.2 1), .int (u31.2 2), .int (u31.2 3), .int (u31.2 4)])), (bh, .inl (T 3, 5, .inr (.inr (.inr (.inr (fun j => some (bd j 0)))))))] ++ ((pblk T (bd 1) (bs 1)) ++ ((pblk T (bd 2) (bs 2)) ++ ((pblk T (bd 3) (bs 3)) ++ ((pblk T (bd 4) (bs 4))))))))) [0, 23, 24, 25, 26, 27, 1, 2, 3, 20, 21, 22, 4, 5, 6, 7, 8, 9, 10, 11, 12, 13, 14, 15, 16, 17, 18, 19] rfl rfl
        subst hr31
        refine lv_sipush (v := nI 10000) hx hb dX6_worth_34 (by decide) ?_
        refine iaddE (z := valM 0 Y.all + 10000) hx hb dX6_worth_37 rfl ?_
        exact retI F hr hlk rfl hW (fun j => if j ≤ 0 then u31.1 j else bs j, u31.2) (by unfold yWorth; rw [if_pos q, ck]) rfl dX6_worth_38
      · refine lv_aload_n hx hb dX6_worth_12 rfl (lv_at hl 0 rfl) ?_
        refine gf201 F hW 8 rfl rfl dX6_worth_13 ?_
        refine lv_aload_n hx hb dX6_worth_16 rfl (lv_at hl 0 rfl) ?_
        refine gf196 F hW 8 rfl rfl dX6_worth_17 ?_
        refine gf110 F hW 0 rfl rfl dX6_worth_20 ?_
        refine lv_aload_n hx hb dX6_worth_23 rfl (lv_at hl 0 rfl) ?_
        refine gf196 F hW 8 rfl rfl dX6_worth_24 ?_
        refine gf112 F hW 0 rfl rfl dX6_worth_27 ?_
        refine lv_iload_n hx hb dX6_worth_30 rfl (lv_at hl 1 rfl) ?_
        refine cIVN (n := 3) (As := [.ref (a 1), .ref (a 5), .int (nI 1)]) (rest := []) (wr := ([(a 0, .inr (5, [.ref (a 1), .ref (a 5), .ref (a 6), .ref (a 7)])), (a 6, .inr (4, [.int (ra 0), .int (ra 1), .int (ra 2), .int (ra 3), .int (ra 4)])), (a 7, .inl (T 0, 300, .inl rc)), (x, .inr (6, [.ref (a 0), .ref h0, .ref s0, .ref v0, .ref p0, .ref l0]))] ++ ((pblk T (bd 2) (bs 2)) ++ ((pblk T (bd 3) (bs 3)) ++ ((pblk T (bd 4) (bs 4))))))) F hW hl hG.1.2.2.2.2.2.2.2.2.2 m381 m17 m382 m8 (by decide +kernel) (c_valueOf1 l D T l0 tr rp bh (a 5) bd (fun j => a (j + 1)) bs rv (fun j => Y.all (34 + j)) Y.all hI (fun _ _ => rfl)) [9, 10, 11, 12, 13, 14, 15, 1, 2, 3, 4, 5] [0, 6, 7, 8, 16, 17, 18, 19, 20, 21, 22, 23, 24, 25, 26, 27] rfl rfl rfl rfl (by decide) 0 1 rfl rfl rfl rfl rfl (Nat.le_of_ble_eq_true rfl) ⟨Nat.le_of_ble_eq_true rfl, Nat.le_of_ble_eq_true rfl⟩ ⟨Nat.zero_le _, Nat.zero_le _⟩ dX6_worth_31 (fun r31 u31 H locs hr31 hW => ?_)
        have hW := Wd.ord hW (ws' := ((nblk T a Y.all ra rc) ++ ([(x, .inr (6, [.ref (a 0), .ref h0, .ref s0, .ref v0, .ref p0, .ref l0])), (l0, .inr (1, [.ref tr, .ref rp, .ref bh])), (rp, .inr (4, [.int (u31.2 0), .int (u31.2 1), .int (u31.2 2), .int (u31.2 3), .int (u31.2 4)])), (bh, .inl (T 3, 5, .inr (.inr (.inr (.inr (fun j => some (bd j 0)))))))] ++ ((pblk T (bd 1) (u31.1 1)) ++ ((pblk T (bd 2) (bs 2)) ++ ((pblk T (bd 3) (bs 3)) ++ ((pblk T (bd 4) (bs 4))))))))) [0, 23, 24, 25, 26, 27, 1, 2, 3, 16, 17, 18, 19, 20, 21, 22, 4, 5, 6, 7, 8, 9, 10, 11, 12, 13, 14, 15] rfl rfl
        subst hr31
        refine lv_sipush (v := nI 10000) hx hb dX6_worth_34 (by decide) ?_
        refine iaddE (z := valM 1 Y.all + 10000) hx hb dX6_worth_37 rfl ?_
        exact retI F hr hlk rfl hW (fun j => if j ≤ 1 then u31.1 j else bs j, u31.2) (by unfold yWorth; rw [if_pos q, ck]) rfl dX6_worth_38
      · refine lv_aload_n hx hb dX6_worth_12 rfl (lv_at hl 0 rfl) ?_
        refine gf201 F hW 8 rfl rfl dX6_worth_13 ?_
        refine lv_aload_n hx hb dX6_worth_16 rfl (lv_at hl 0 rfl) ?_
        refine gf196 F hW 8 rfl rfl dX6_worth_17 ?_
        refine gf110 F hW 0 rfl rfl dX6_worth_20 ?_
        refine lv_aload_n hx hb dX6_worth_23 rfl (lv_at hl 0 rfl) ?_
        refine gf196 F hW 8 rfl rfl dX6_worth_24 ?_
        refine gf112 F hW 0 rfl rfl dX6_worth_27 ?_
        refine lv_iload_n hx hb dX6_worth_30 rfl (lv_at hl 1 rfl) ?_
        refine cIVN (n := 3) (As := [.ref (a 1), .ref (a 5), .int (nI 2)]) (rest := []) (wr := ([(a 0, .inr (5, [.ref (a 1), .ref (a 5), .ref (a 6), .ref (a 7)])), (a 6, .inr (4, [.int (ra 0), .int (ra 1), .int (ra 2), .int (ra 3), .int (ra 4)])), (a 7, .inl (T 0, 300, .inl rc)), (x, .inr (6, [.ref (a 0), .ref h0, .ref s0, .ref v0, .ref p0, .ref l0]))] ++ ((pblk T (bd 3) (bs 3)) ++ ((pblk T (bd 4) (bs 4)))))) F hW hl hG.1.2.2.2.2.2.2.2.2.2 m381 m17 m382 m8 (by decide +kernel) (c_valueOf2 l D T l0 tr rp bh (a 5) bd (fun j => a (j + 1)) bs rv (fun j => Y.all (34 + j)) Y.all hI (fun _ _ => rfl)) [9, 10, 11, 12, 13, 14, 15, 16, 17, 18, 19, 1, 2, 3, 4, 5] [0, 6, 7, 8, 20, 21, 22, 23, 24, 25, 26, 27] rfl rfl rfl rfl (by decide) 0 1 rfl rfl rfl rfl rfl (Nat.le_of_ble_eq_true rfl) ⟨Nat.le_of_ble_eq_true rfl, Nat.le_of_ble_eq_true rfl⟩ ⟨Nat.zero_le _, Nat.zero_le _⟩ dX6_worth_31 (fun r31 u31 H locs hr31 hW => ?_)
        have hW := Wd.ord hW (ws' := ((nblk T a Y.all ra rc) ++ ([(x, .inr (6, [.ref (a 0), .ref h0, .ref s0, .ref v0, .ref p0, .ref l0])), (l0, .inr (1, [.ref tr, .ref rp, .ref bh])), (rp, .inr (4, [.int (u31.2 0), .int (u31.2 1), .int (u31.2 2), .int (u31.2 3), .int (u31.2 4)])), (bh, .inl (T 3, 5, .inr (.inr (.inr (.inr (fun j => some (bd j 0)))))))] ++ ((pblk T (bd 1) (u31.1 1)) ++ ((pblk T (bd 2) (u31.1 2)) ++ ((pblk T (bd 3) (bs 3)) ++ ((pblk T (bd 4) (bs 4))))))))) [0, 23, 24, 25, 26, 27, 1, 2, 3, 12, 13, 14, 15, 16, 17, 18, 19, 20, 21, 22, 4, 5, 6, 7, 8, 9, 10, 11] rfl rfl
        subst hr31
        refine lv_sipush (v := nI 10000) hx hb dX6_worth_34 (by decide) ?_
        refine iaddE (z := valM 2 Y.all + 10000) hx hb dX6_worth_37 rfl ?_
        exact retI F hr hlk rfl hW (fun j => if j ≤ 2 then u31.1 j else bs j, u31.2) (by unfold yWorth; rw [if_pos q, ck]) rfl dX6_worth_38
      · refine lv_aload_n hx hb dX6_worth_12 rfl (lv_at hl 0 rfl) ?_
        refine gf201 F hW 8 rfl rfl dX6_worth_13 ?_
        refine lv_aload_n hx hb dX6_worth_16 rfl (lv_at hl 0 rfl) ?_
        refine gf196 F hW 8 rfl rfl dX6_worth_17 ?_
        refine gf110 F hW 0 rfl rfl dX6_worth_20 ?_
        refine lv_aload_n hx hb dX6_worth_23 rfl (lv_at hl 0 rfl) ?_
        refine gf196 F hW 8 rfl rfl dX6_worth_24 ?_
        refine gf112 F hW 0 rfl rfl dX6_worth_27 ?_
        refine lv_iload_n hx hb dX6_worth_30 rfl (lv_at hl 1 rfl) ?_
        refine cIVN (n := 3) (As := [.ref (a 1), .ref (a 5), .int (nI 3)]) (rest := []) (wr := ([(a 0, .inr (5, [.ref (a 1), .ref (a 5), .ref (a 6), .ref (a 7)])), (a 6, .inr (4, [.int (ra 0), .int (ra 1), .int (ra 2), .int (ra 3), .int (ra 4)])), (a 7, .inl (T 0, 300, .inl rc)), (x, .inr (6, [.ref (a 0), .ref h0, .ref s0, .ref v0, .ref p0, .ref l0]))] ++ ((pblk T (bd 4) (bs 4))))) F hW hl hG.1.2.2.2.2.2.2.2.2.2 m381 m17 m382 m8 (by decide +kernel) (c_valueOf3 l D T l0 tr rp bh (a 5) bd (fun j => a (j + 1)) bs rv (fun j => Y.all (34 + j)) Y.all hI (fun _ _ => rfl)) [9, 10, 11, 12, 13, 14, 15, 16, 17, 18, 19, 20, 21, 22, 23, 1, 2, 3, 4, 5] [0, 6, 7, 8, 24, 25, 26, 27] rfl rfl rfl rfl (by decide) 0 1 rfl rfl rfl rfl rfl (Nat.le_of_ble_eq_true rfl) ⟨Nat.le_of_ble_eq_true rfl, Nat.le_of_ble_eq_true rfl⟩ ⟨Nat.zero_le _, Nat.zero_le _⟩ dX6_worth_31 (fun r31 u31 H locs hr31 hW => ?_)
        have hW := Wd.ord hW (ws' := ((nblk T a Y.all ra rc) ++ ([(x, .inr (6, [.ref (a 0), .ref h0, .ref s0, .ref v0, .ref p0, .ref l0])), (l0, .inr (1, [.ref tr, .ref rp, .ref bh])), (rp, .inr (4, [.int (u31.2 0), .int (u31.2 1), .int (u31.2 2), .int (u31.2 3), .int (u31.2 4)])), (bh, .inl (T 3, 5, .inr (.inr (.inr (.inr (fun j => some (bd j 0)))))))] ++ ((pblk T (bd 1) (u31.1 1)) ++ ((pblk T (bd 2) (u31.1 2)) ++ ((pblk T (bd 3) (u31.1 3)) ++ ((pblk T (bd 4) (bs 4))))))))) [0, 23, 24, 25, 26, 27, 1, 2, 3, 8, 9, 10, 11, 12, 13, 14, 15, 16, 17, 18, 19, 20, 21, 22, 4, 5, 6, 7] rfl rfl
        subst hr31
        refine lv_sipush (v := nI 10000) hx hb dX6_worth_34 (by decide) ?_
        refine iaddE (z := valM 3 Y.all + 10000) hx hb dX6_worth_37 rfl ?_
        exact retI F hr hlk rfl hW (fun j => if j ≤ 3 then u31.1 j else bs j, u31.2) (by unfold yWorth; rw [if_pos q, ck]) rfl dX6_worth_38
      · refine lv_aload_n hx hb dX6_worth_12 rfl (lv_at hl 0 rfl) ?_
        refine gf201 F hW 8 rfl rfl dX6_worth_13 ?_
        refine lv_aload_n hx hb dX6_worth_16 rfl (lv_at hl 0 rfl) ?_
        refine gf196 F hW 8 rfl rfl dX6_worth_17 ?_
        refine gf110 F hW 0 rfl rfl dX6_worth_20 ?_
        refine lv_aload_n hx hb dX6_worth_23 rfl (lv_at hl 0 rfl) ?_
        refine gf196 F hW 8 rfl rfl dX6_worth_24 ?_
        refine gf112 F hW 0 rfl rfl dX6_worth_27 ?_
        refine lv_iload_n hx hb dX6_worth_30 rfl (lv_at hl 1 rfl) ?_
        refine cIVN (n := 3) (As := [.ref (a 1), .ref (a 5), .int (nI 4)]) (rest := []) (wr := [(a 0, .inr (5, [.ref (a 1), .ref (a 5), .ref (a 6), .ref (a 7)])), (a 6, .inr (4, [.int (ra 0), .int (ra 1), .int (ra 2), .int (ra 3), .int (ra 4)])), (a 7, .inl (T 0, 300, .inl rc)), (x, .inr (6, [.ref (a 0), .ref h0, .ref s0, .ref v0, .ref p0, .ref l0]))]) F hW hl hG.1.2.2.2.2.2.2.2.2.2 m381 m17 m382 m8 (by decide +kernel) (c_valueOf4 l D T l0 tr rp bh (a 5) bd (fun j => a (j + 1)) bs rv (fun j => Y.all (34 + j)) Y.all hI (fun _ _ => rfl)) [9, 10, 11, 12, 13, 14, 15, 16, 17, 18, 19, 20, 21, 22, 23, 24, 25, 26, 27, 1, 2, 3, 4, 5] [0, 6, 7, 8] rfl rfl rfl rfl (by decide) 0 1 rfl rfl rfl rfl rfl (Nat.le_of_ble_eq_true rfl) ⟨Nat.le_of_ble_eq_true rfl, Nat.le_of_ble_eq_true rfl⟩ ⟨Nat.zero_le _, Nat.zero_le _⟩ dX6_worth_31 (fun r31 u31 H locs hr31 hW => ?_)
        have hW := Wd.ord hW (ws' := ((nblk T a Y.all ra rc) ++ ([(x, .inr (6, [.ref (a 0), .ref h0, .ref s0, .ref v0, .ref p0, .ref l0])), (l0, .inr (1, [.ref tr, .ref rp, .ref bh])), (rp, .inr (4, [.int (u31.2 0), .int (u31.2 1), .int (u31.2 2), .int (u31.2 3), .int (u31.2 4)])), (bh, .inl (T 3, 5, .inr (.inr (.inr (.inr (fun j => some (bd j 0)))))))] ++ ((pblk T (bd 1) (u31.1 1)) ++ ((pblk T (bd 2) (u31.1 2)) ++ ((pblk T (bd 3) (u31.1 3)) ++ ((pblk T (bd 4) (u31.1 4))))))))) [0, 23, 24, 25, 26, 27, 1, 2, 3, 4, 5, 6, 7, 8, 9, 10, 11, 12, 13, 14, 15, 16, 17, 18, 19, 20, 21, 22] rfl rfl
        subst hr31
        refine lv_sipush (v := nI 10000) hx hb dX6_worth_34 (by decide) ?_
        refine iaddE (z := valM 4 Y.all + 10000) hx hb dX6_worth_37 rfl ?_
        exact retI F hr hlk rfl hW (fun j => if j ≤ 4 then u31.1 j else bs j, u31.2) (by unfold yWorth; rw [if_pos q, ck]) rfl dX6_worth_38
    · have q2 : ¬ v.toInt ≤ 4 := fun z => h6 ((i_le _ _).mpr (by rw [nI_toInt (by decide)]; exact z))
      refine lv_bipush (v := -2) hx hb dX6_worth_9 (by decide) ?_
      exact retI F hr hlk rfl hW (bs, rv) (by unfold yWorth; rw [if_neg (fun q : rng 0 4 v => q2 q.2)]) rfl dX6_worth_11
