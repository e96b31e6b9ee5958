-- the class: what a move would bring
set_option maxHeartbeats 4000000 in
set_option maxRecDepth 100000 in
theorem c_storeGain (l : Launch) (D : va_G) (T : Nat → ClassId) (q0 q1 q2 q3 r0 r1 r2 r3 : Nat) {k : Nat} (hk : k < 2) (px ov mv px2 ov2 mv2 : Int32) (hpx : px = nI k) (so so2 : Nat → Int32) : KR l D T yX6_storeGain cX6_storeGain 2 (some .int) 0 [.ref q0, .ref r0] [(q0, .inr (3, [.ref q1, .ref q2, .ref q3, .int px, .int ov, .int mv])), (q3, .inl (T 0, 2, .inl so)), (r0, .inr (3, [.ref r1, .ref r2, .ref r3, .int px2, .int ov2, .int mv2])), (r3, .inl (T 0, 2, .inl so2))] (fun r => r = so2 k - so k) := by
  refine KR.of (by decide +kernel) (Nat.le_of_ble_eq_true rfl) (fun p e s m below meth c F hr hlk hW ls hl => ?_)
  have hx := F.1
  have hb := F.2.1
  have hl : lv_has ls 2 [(0, .ref q0), (1, .ref r0)] := hl
  subst hpx
  refine lv_aload_n hx hb dX6_storeGain_0 rfl (lv_at hl 1 rfl) ?_
  refine gf45 F hW 2 rfl rfl dX6_storeGain_1 ?_
  refine lv_aload_n hx hb dX6_storeGain_4 rfl (lv_at hl 0 rfl) ?_
  refine gf48 F hW 0 rfl rfl dX6_storeGain_5 ?_
  refine ald F hW 3 rfl (x := so2 k) k rfl (by omega) (by decide) rfl dX6_storeGain_8 ?_
  refine lv_aload_n hx hb dX6_storeGain_9 rfl (lv_at hl 0 rfl) ?_
  refine gf45 F hW 0 rfl rfl dX6_storeGain_10 ?_
  refine lv_aload_n hx hb dX6_storeGain_13 rfl (lv_at hl 0 rfl) ?_
  refine gf48 F hW 0 rfl rfl dX6_storeGain_14 ?_
  refine ald F hW 1 rfl (x := so k) k rfl (by omega) (by decide) rfl dX6_storeGain_17 ?_
  refine isubE (z := (so2 k) - (so k)) hx hb dX6_storeGain_18 rfl ?_
  exact retR F hr hlk rfl rfl dX6_storeGain_19
set_option maxHeartbeats 4000000 in
set_option maxRecDepth 100000 in
theorem x_ifMove (l : Launch) (D : va_G) (T : Nat → ClassId) (x h0 s0 v0 p0 l0 rp bh : Nat) (a ta : Nat → Nat) (Y : YD) (hY : YOK Y) (ra rc tp rv : Nat → Int32) (v w : Int32) : KI (S := (Nat → Int32) × (Nat → Int32)) l D T yX6_ifMove cX6_ifMove 6 (some .int) 6 [.ref x, .int v, .int w] ((nblk T a Y.all ra rc) ++ ([(x, .inr (6, [.ref (a 0), .ref h0, .ref s0, .ref v0, .ref p0, .ref l0])), (l0, .inr (1, [.ref (ta 0), .ref rp, .ref bh])), (rp, .inr (4, [.int (rv 0), .int (rv 1), .int (rv 2), .int (rv 3), .int (rv 4)]))] ++ ((pblk T ta tp)))) (fun r _ => r = (yIfMove Y v w).1) (fun u => ((nblk T a Y.all ra rc) ++ ([(x, .inr (6, [.ref (a 0), .ref h0, .ref s0, .ref v0, .ref p0, .ref l0])), (l0, .inr (1, [.ref (ta 0), .ref rp, .ref bh])), (rp, .inr (4, [.int (u.2 0), .int (u.2 1), .int (u.2 2), .int (u.2 3), .int (u.2 4)]))] ++ ((pblk T ta u.1))))) := by
  refine KI.of (by decide +kernel) (Nat.le_of_ble_eq_true rfl) (fun p e s m below meth c A F hr hlk hW ls hl => ?_)
  have hx := F.1
  have hb := F.2.1
  have hl : lv_has ls 6 [(0, .ref x), (1, .int v), (2, .int w)] := hl
  obtain ⟨⟨⟨S0, hI⟩, h34⟩, hnh, hpn, hHi, hsl⟩ := hY
  have hI2 := hI
  obtain ⟨hJ, ⟨pl, hpl, h26⟩, h27, ⟨mk, h28, hm1, hm2⟩, h36, h37, hleg⟩ := hI2
  have hY : YOK Y := ⟨⟨⟨S0, hI⟩, h34⟩, hnh, hpn, hHi, hsl⟩
  refine lv_aload_n hx hb dX6_ifMove_0 rfl (lv_at hl 0 rfl) ?_
  refine lv_iload_n hx hb dX6_ifMove_1 rfl (lv_at hl 1 rfl) ?_
  refine cRV (As := [.int v]) (rest := []) F hW hl cs404 (x_errorOfMove l D T x h0 s0 v0 p0 l0 a Y hY ra rc v) [0, 1, 2, 3, 4, 5, 6, 7, 8] rfl rfl 8 6 rfl rfl rfl rfl rfl (Nat.le_of_ble_eq_true rfl) ⟨Nat.le_of_ble_eq_true rfl, Nat.le_of_ble_eq_true rfl⟩ ⟨Nat.zero_le _, Nat.zero_le _⟩ dX6_ifMove_2 (fun r2 hr2 => ?_)
  subst hr2
  refine lv_istore_n (lv' := [(3, .int (if rng 0 11 v then (if legM Y.all v.toNatClampNeg then 0 else -5) else -1)), (0, .ref x), (1, .int v), (2, .int w)]) hx hb dX6_ifMove_5 rfl hl (by decide) rfl (fun ls hl => ?_)
  refine lv_iload_n hx hb dX6_ifMove_6 rfl (lv_at hl 0 rfl) ?_
  refine lv_if_eq (tgt := 12) hx hb dX6_ifMove_7 (by decide) (fun h7 => ?_) (fun h7 => ?_)
  · have q : rng 0 11 v := Decidable.not_not.mp (fun q => by rw [if_neg q] at h7; exact absurd h7 (by decide))
    rw [if_pos q] at h7
    have q2 : legM Y.all v.toNatClampNeg := Decidable.not_not.mp (fun q => by rw [if_neg q] at h7; exact absurd h7 (by decide))
    have hl : lv_has ls _ [(0, .ref x), (1, .int v), (2, .int w)] := lv_sub hl [1, 2, 3] rfl
    obtain ⟨k, kb, kl, ek, ck⟩ := rng_nat q
    rw [ek] at hl
    rw [ck] at q2
    refine lv_iload_n hx hb dX6_ifMove_12 rfl (lv_at hl 2 rfl) ?_
    refine lv_if_lt (tgt := 22) hx hb dX6_ifMove_13 (by decide) (fun h13 => ?_) (fun h13 => ?_)
    · have q3 := (i_lt _ _).mp h13
      rw [i_0] at q3
      refine lv_bipush (v := -2) hx hb dX6_ifMove_22 (by decide) ?_
      exact retI F hr hlk rfl hW (tp, rv) (by unfold yIfMove; rw [if_pos q, ck, if_pos q2, if_neg (fun z : rng 0 6 w => by have := z.1; omega)]) rfl dX6_ifMove_24
    · have q3 := fun z => h13 ((i_lt w 0).mpr z)
      rw [i_0] at q3
      refine lv_iload_n hx hb dX6_ifMove_16 rfl (lv_at hl 2 rfl) ?_
      refine lv_bipush (v := nI 6) hx hb dX6_ifMove_17 (by decide) ?_
      refine lv_icmp_le (tgt := 25) hx hb dX6_ifMove_19 (by decide) (fun h19 => ?_) (fun h19 => ?_)
      · have q4 := (i_le _ _).mp h19
        rw [nI_toInt (by decide)] at q4
        have q5 : rng 0 6 w := ⟨Int.not_lt.mp q3, by omega⟩
        obtain ⟨n, nb, nl, en, cn⟩ := rng_nat q5
        rw [en] at hl
        refine lv_aload_n hx hb dX6_ifMove_25 rfl (lv_at hl 0 rfl) ?_
        refine gf201 F hW 8 rfl rfl dX6_ifMove_26 ?_
        refine gf177 F hW 9 rfl rfl dX6_ifMove_29 ?_
        refine lv_astore (lv' := [(4, .ref (ta 0)), (0, .ref x), (1, .int (nI k)), (2, .int (nI n))]) hx hb dX6_ifMove_32 hl (by decide) rfl (fun ls hl => ?_)
        refine lv_aload_n hx hb dX6_ifMove_34 rfl (lv_at hl 1 rfl) ?_
        refine gf201 F hW 8 rfl rfl dX6_ifMove_35 ?_
        refine gf179 F hW 9 rfl rfl dX6_ifMove_38 ?_
        refine lv_astore (lv' := [(5, .ref rp), (4, .ref (ta 0)), (0, .ref x), (1, .int (nI k)), (2, .int (nI n))]) hx hb dX6_ifMove_41 hl (by decide) rfl (fun ls hl => ?_)
        refine lv_aload hx hb dX6_ifMove_43 (lv_at hl 1 rfl) ?_
        refine lv_aload_n hx hb dX6_ifMove_45 rfl (lv_at hl 2 rfl) ?_
        refine gf196 F hW 8 rfl rfl dX6_ifMove_46 ?_
        refine gf110 F hW 0 rfl rfl dX6_ifMove_49 ?_
        refine cVV (As := [.ref (a 1)]) (rest := []) (wr := [(a 0, .inr (5, [.ref (a 1), .ref (a 5), .ref (a 6), .ref (a 7)])), (a 5, .inl (T 0, 4, .inl (fun j => Y.all (34 + j)))), (a 6, .inr (4, [.int (ra 0), .int (ra 1), .int (ra 2), .int (ra 3), .int (ra 4)])), (a 7, .inl (T 0, 300, .inl rc)), (x, .inr (6, [.ref (a 0), .ref h0, .ref s0, .ref v0, .ref p0, .ref l0])), (l0, .inr (1, [.ref (ta 0), .ref rp, .ref bh])), (rp, .inr (4, [.int (rv 0), .int (rv 1), .int (rv 2), .int (rv 3), .int (rv 4)]))]) F hW hl cs427 (c_posCopy l D T (ta 0) (ta 1) (ta 2) (ta 3) (a 1) (a 2) (a 3) (a 4) (tp 26) (tp 27) (tp 28) (Y.all 26) (Y.all 27) (Y.all 28) (fun j => tp j) (fun j => tp (12 + j)) (fun j => tp (24 + j)) (fun j => Y.all j) (fun j => Y.all (12 + j)) (fun j => Y.all (24 + j)) h27) [11, 12, 13, 14, 1, 2, 3, 4] [0, 5, 6, 7, 8, 9, 10] rfl rfl rfl rfl (by decide) 0 3 rfl rfl rfl rfl rfl (Nat.le_of_ble_eq_true rfl) ⟨Nat.le_of_ble_eq_true rfl, Nat.le_of_ble_eq_true rfl⟩ ⟨Nat.zero_le _, Nat.zero_le _⟩ dX6_ifMove_52 (fun u52 H locs hr52 hW => ?_)
        have hW := Wd.ord hW (ws' := ((nblk T a Y.all ra rc) ++ ([(x, .inr (6, [.ref (a 0), .ref h0, .ref s0, .ref v0, .ref p0, .ref l0])), (l0, .inr (1, [.ref (ta 0), .ref rp, .ref bh])), (rp, .inr (4, [.int (rv 0), .int (rv 1), .int (rv 2), .int (rv 3), .int (rv 4)])), (ta 0, .inr (3, [.ref (ta 1), .ref (ta 2), .ref (ta 3), .int (Y.all 26), .int (Y.all 27), .int (Y.all 28)])), (ta 1, .inl (T 0, 12, .inl (fun j => Y.all j))), (ta 2, .inl (T 0, 12, .inl (fun j => Y.all (12 + j)))), (ta 3, .inl (T 0, 2, .inl (fun j => Y.all (24 + j))))]))) [0, 11, 12, 13, 14, 1, 2, 3, 4, 5, 6, 7, 8, 9, 10] rfl rfl
        have hmk := hm2 q2.1
        refine lv_aload hx hb dX6_ifMove_55 (lv_at hl 1 rfl) ?_
        refine lv_iload_n hx hb dX6_ifMove_57 rfl (lv_at hl 3 rfl) ?_
        refine lv_aload_n hx hb dX6_ifMove_58 rfl (lv_at hl 2 rfl) ?_
        refine gf196 F hW 8 rfl rfl dX6_ifMove_59 ?_
        refine gf112 F hW 0 rfl rfl dX6_ifMove_62 ?_
        refine lv_aload hx hb dX6_ifMove_65 (lv_at hl 0 rfl) ?_
        refine cVV (As := [.int (nI k), .ref (a 5), .ref rp]) (rest := []) (wr := [(a 0, .inr (5, [.ref (a 1), .ref (a 5), .ref (a 6), .ref (a 7)])), (a 1, .inr (3, [.ref (a 2), .ref (a 3), .ref (a 4), .int (Y.all 26), .int (Y.all 27), .int (Y.all 28)])), (a 2, .inl (T 0, 12, .inl (fun j => Y.all j))), (a 3, .inl (T 0, 12, .inl (fun j => Y.all (12 + j)))), (a 4, .inl (T 0, 2, .inl (fun j => Y.all (24 + j)))), (a 6, .inr (4, [.int (ra 0), .int (ra 1), .int (ra 2), .int (ra 3), .int (ra 4)])), (a 7, .inl (T 0, 300, .inl rc)), (x, .inr (6, [.ref (a 0), .ref h0, .ref s0, .ref v0, .ref p0, .ref l0])), (l0, .inr (1, [.ref (ta 0), .ref rp, .ref bh]))]) F hW hl cs428 (c_makeMoveP l D T (ta 0) (ta 1) (ta 2) (ta 3) (a 5) rp (pl := pl) hpl (Y.all 26) h26 (Y.all 27) (Y.all 28) (fun j => Y.all j) (fun j => Y.all (12 + j)) (fun j => Y.all (24 + j)) (fun j => Y.all (34 + j)) (rv 0) (rv 1) (rv 2) (rv 3) (rv 4) Y.all ⟨fun _ _ => rfl, fun _ _ => rfl, fun _ _ => rfl⟩ rfl rfl (fun _ _ => rfl) (fr := k) (by omega) hJ h36 h37 (leg_pos q2) h26 q2.1 h28 hmk) [11, 12, 13, 14, 5, 10] [0, 1, 2, 3, 4, 6, 7, 8, 9] rfl rfl rfl rfl (by decide) 0 3 rfl rfl rfl rfl rfl (Nat.le_of_ble_eq_true rfl) ⟨Nat.le_of_ble_eq_true rfl, Nat.le_of_ble_eq_true rfl⟩ ⟨Nat.zero_le _, Nat.zero_le _⟩ dX6_ifMove_67 (fun u67 H locs hr67 hW => ?_)
        have hW := Wd.ord hW (ws' := [(a 0, .inr (5, [.ref (a 1), .ref (a 5), .ref (a 6), .ref (a 7)])), (a 1, .inr (3, [.ref (a 2), .ref (a 3), .ref (a 4), .int (Y.all 26), .int (Y.all 27), .int (Y.all 28)])), (a 2, .inl (T 0, 12, .inl (fun j => Y.all j))), (a 3, .inl (T 0, 12, .inl (fun j => Y.all (12 + j)))), (a 4, .inl (T 0, 2, .inl (fun j => Y.all (24 + j)))), (a 5, .inl (T 0, 4, .inl (fun j => Y.all (34 + j)))), (a 6, .inr (4, [.int (ra 0), .int (ra 1), .int (ra 2), .int (ra 3), .int (ra 4)])), (a 7, .inl (T 0, 300, .inl rc)), (x, .inr (6, [.ref (a 0), .ref h0, .ref s0, .ref v0, .ref p0, .ref l0])), (l0, .inr (1, [.ref (ta 0), .ref rp, .ref bh])), (rp, .inr (4, [.int ((mvM Y.all k) 29), .int ((mvM Y.all k) 30), .int ((mvM Y.all k) 31), .int ((mvM Y.all k) 32), .int ((mvM Y.all k) 33)])), (ta 0, .inr (3, [.ref (ta 1), .ref (ta 2), .ref (ta 3), .int ((mvM Y.all k) 26), .int ((mvM Y.all k) 27), .int ((mvM Y.all k) 28)])), (ta 1, .inl (T 0, 12, .inl (fun j => (mvM Y.all k) j))), (ta 2, .inl (T 0, 12, .inl (fun j => (mvM Y.all k) (12 + j)))), (ta 3, .inl (T 0, 2, .inl (fun j => (mvM Y.all k) (24 + j))))]) [0, 1, 2, 3, 4, 13, 5, 6, 7, 8, 14, 9, 10, 11, 12] rfl rfl
        have hI9 := (hI.mv (show k < 12 by omega) q2).1
        obtain ⟨z9, hz9⟩ : ∃ z, mvM Y.all k = z := ⟨_, rfl⟩
        rw [hz9] at hW hI9
        have hy : (yIfMove Y v w) = (ifA Y.all z9 n, Y) := by unfold yIfMove; rw [if_pos q, ck, if_pos q2, if_pos q5, cn, hz9]
        rw [hy]
        have hc : n = 0 ∨ n = 1 ∨ n = 2 ∨ n = 3 ∨ n = 4 ∨ n = 5 ∨ n = 6 := by omega
        rcases hc with rfl | rfl | rfl | rfl | rfl | rfl | rfl
        · refine lv_iload_n hx hb dX6_ifMove_70 rfl (lv_at hl 4 rfl) ?_
          refine lv_tableIn (off := 37) (tgt := 108) hx hb dX6_ifMove_71 (by decide) (by decide) (by decide) (by decide) ?_
          refine lv_aload hx hb dX6_ifMove_108 (lv_at hl 0 rfl) ?_
          refine gf87 F hW 10 rfl rfl dX6_ifMove_110 ?_
          exact retI F hr hlk rfl hW (z9, (fun j => z9 (29 + j))) (rfl) rfl dX6_ifMove_113
        · refine lv_iload_n hx hb dX6_ifMove_70 rfl (lv_at hl 4 rfl) ?_
          refine lv_tableIn (off := 43) (tgt := 114) hx hb dX6_ifMove_71 (by decide) (by decide) (by decide) (by decide) ?_
          refine lv_aload hx hb dX6_ifMove_114 (lv_at hl 0 rfl) ?_
          refine gf90 F hW 10 rfl rfl dX6_ifMove_116 ?_
          exact retI F hr hlk rfl hW (z9, (fun j => z9 (29 + j))) (rfl) rfl dX6_ifMove_119
        · refine lv_iload_n hx hb dX6_ifMove_70 rfl (lv_at hl 4 rfl) ?_
          refine lv_tableIn (off := 49) (tgt := 120) hx hb dX6_ifMove_71 (by decide) (by decide) (by decide) (by decide) ?_
          refine lv_aload hx hb dX6_ifMove_120 (lv_at hl 0 rfl) ?_
          refine gf93 F hW 10 rfl rfl dX6_ifMove_122 ?_
          exact retI F hr hlk rfl hW (z9, (fun j => z9 (29 + j))) (rfl) rfl dX6_ifMove_125
        · refine lv_iload_n hx hb dX6_ifMove_70 rfl (lv_at hl 4 rfl) ?_
          refine lv_tableIn (off := 55) (tgt := 126) hx hb dX6_ifMove_71 (by decide) (by decide) (by decide) (by decide) ?_
          refine lv_aload hx hb dX6_ifMove_126 (lv_at hl 0 rfl) ?_
          refine gf96 F hW 10 rfl rfl dX6_ifMove_128 ?_
          exact retI F hr hlk rfl hW (z9, (fun j => z9 (29 + j))) (rfl) rfl dX6_ifMove_131
        · refine lv_iload_n hx hb dX6_ifMove_70 rfl (lv_at hl 4 rfl) ?_
          refine lv_tableIn (off := 61) (tgt := 132) hx hb dX6_ifMove_71 (by decide) (by decide) (by decide) (by decide) ?_
          refine lv_aload_n hx hb dX6_ifMove_132 rfl (lv_at hl 2 rfl) ?_
          refine gf196 F hW 8 rfl rfl dX6_ifMove_133 ?_
          refine gf110 F hW 0 rfl rfl dX6_ifMove_136 ?_
          refine lv_aload hx hb dX6_ifMove_139 (lv_at hl 1 rfl) ?_
          refine cRS (As := [.ref (a 1), .ref (ta 0)]) (rest := []) F hW hl cs429 (c_storeGain l D T (a 1) (a 2) (a 3) (a 4) (ta 0) (ta 1) (ta 2) (ta 3) hpl (Y.all 26) (Y.all 27) (Y.all 28) (z9 26) (z9 27) (z9 28) h26 (fun j => Y.all (24 + j)) (fun j => z9 (24 + j))) [1, 4, 11, 14] rfl rfl rfl rfl (Nat.le_of_ble_eq_true rfl) ⟨Nat.le_of_ble_eq_true rfl, Nat.le_of_ble_eq_true rfl⟩ ⟨Nat.zero_le _, Nat.zero_le _⟩ dX6_ifMove_141 (fun r141 hr141 => ?_)
          subst hr141
          refine lv_sipush (v := nI 10000) hx hb dX6_ifMove_144 (by decide) ?_
          refine iaddE (z := z9 (24 + pl) - Y.all (24 + pl) + 10000) hx hb dX6_ifMove_147 rfl ?_
          exact retI F hr hlk rfl hW (z9, (fun j => z9 (29 + j))) (by show _ = ifA Y.all z9 4; unfold ifA; rw [if_neg (by decide), if_pos rfl, h26, nI_clamp (show pl < 2 ^ 31 by omega)]) rfl dX6_ifMove_148
        · refine lv_iload_n hx hb dX6_ifMove_70 rfl (lv_at hl 4 rfl) ?_
          refine lv_tableIn (off := 78) (tgt := 149) hx hb dX6_ifMove_71 (by decide) (by decide) (by decide) (by decide) ?_
          refine lv_aload hx hb dX6_ifMove_149 (lv_at hl 1 rfl) ?_
          refine gf48 F hW 11 rfl rfl dX6_ifMove_151 ?_
          exact retI F hr hlk rfl hW (z9, (fun j => z9 (29 + j))) (rfl) rfl dX6_ifMove_154
        · refine lv_iload_n hx hb dX6_ifMove_70 rfl (lv_at hl 4 rfl) ?_
          refine lv_tableOut (tgt := 155) hx hb dX6_ifMove_71 (Or.inr (by decide)) (by decide) ?_
          refine lv_aload hx hb dX6_ifMove_155 (lv_at hl 1 rfl) ?_
          refine gf51 F hW 11 rfl rfl dX6_ifMove_157 ?_
          refine lv_if_eq (tgt := 167) hx hb dX6_ifMove_160 (by decide) (fun h160 => ?_) (fun h160 => ?_)
          · refine lv_iconst (v := 0) hx hb dX6_ifMove_167 (by decide) ?_
            exact retI F hr hlk rfl hW (z9, (fun j => z9 (29 + j))) (h160.symm) rfl dX6_ifMove_168
          · refine lv_iconst (v := 1) hx hb dX6_ifMove_163 (by decide) ?_
            refine lv_goto (tgt := 168) hx hb dX6_ifMove_164 (by decide) ?_
            exact retI F hr hlk rfl hW (z9, (fun j => z9 (29 + j))) ((hI9.2.2.1.resolve_left h160).symm) rfl dX6_ifMove_168
      · have q4 : ¬ w.toInt ≤ 6 := fun z => h19 ((i_le _ _).mpr (by rw [nI_toInt (by decide)]; exact z))
        refine lv_bipush (v := -2) hx hb dX6_ifMove_22 (by decide) ?_
        exact retI F hr hlk rfl hW (tp, rv) (by unfold yIfMove; rw [if_pos q, ck, if_pos q2, if_neg (fun z : rng 0 6 w => q4 z.2)]) rfl dX6_ifMove_24
  · refine lv_iload_n hx hb dX6_ifMove_10 rfl (lv_at hl 0 rfl) ?_
    by_cases q : rng 0 11 v
    · rw [if_pos q] at h7 hl
      have q2 : ¬ legM Y.all v.toNatClampNeg := fun z => h7 (if_pos z)
      have ea : (if rng 0 11 v then (if legM Y.all v.toNatClampNeg then 0 else -5) else -1 : Int32) = -5 := by rw [if_pos q, if_neg q2]
      rw [ea]
      exact retI F hr hlk rfl hW (tp, rv) (by unfold yIfMove; rw [if_pos q, if_neg q2]) rfl dX6_ifMove_11
    · have ea : (if rng 0 11 v then (if legM Y.all v.toNatClampNeg then 0 else -5) else -1 : Int32) = -1 := if_neg q
      rw [ea]
      exact retI F hr hlk rfl hW (tp, rv) (by unfold yIfMove; rw [if_neg q]) rfl dX6_ifMove_11
