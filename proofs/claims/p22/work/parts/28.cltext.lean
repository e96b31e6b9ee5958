-- the class: counts and texts
theorem hos_eq (g : Nat → Int32) : ∀ k, hosN (fun j => g (12 + j)) (fun j => g (34 + j)) k = hosM g k
  | 0 => rfl
  | k + 1 => by rw [hosN, hosM, hos_eq g k]
theorem win_eq (g : Nat → Int32) (h : ¬ g 27 = 0) : (if g 24 = g 25 then (2 : Int32) else if g 25 < g 24 then 0 else 1) = winM g := by
  unfold winM
  rw [if_neg h]
  have e1 := i_eq (g 24) (g 25)
  have e2 := i_lt (g 25) (g 24)
  have e3 := i_lt (g 24) (g 25)
  by_cases q : g 24 = g 25
  · have := e1.mp q
    rw [if_pos q, if_neg (fun z => by have := e2.mp z; omega), if_neg (fun z => by have := e3.mp z; omega)]
  · rw [if_neg q]
    by_cases q2 : g 25 < g 24
    · rw [if_pos q2, if_pos q2]
    · rw [if_neg q2, if_neg q2]
      have q3 : ¬ (g 24).toInt = (g 25).toInt := fun z => q (e1.mpr z)
      have q4 : ¬ (g 25).toInt < (g 24).toInt := fun z => q2 (e2.mpr z)
      rw [if_pos (e3.mpr (by omega))]
set_option maxHeartbeats 4000000 in
set_option maxRecDepth 100000 in
theorem x_wipe (l : Launch) (D : va_G) (T : Nat → ClassId) (x h0 s0 v0 p0 l0 p1 p2 h1 : Nat) (a : Nat → Nat) (Y : YD) (hY : YOK Y)  : KI (S := Unit) l D T yX6_wipe cX6_wipe 2 (some .int) 4 [.ref x] [(x, .inr (6, [.ref (a 0), .ref h0, .ref s0, .ref v0, .ref p0, .ref l0])), (p0, .inr (2, [.ref p1, .ref p2, .int (nI Y.pn)]))] (fun r _ => r = (yWipe Y).1) (fun u => [(x, .inr (6, [.ref (a 0), .ref h0, .ref s0, .ref v0, .ref p0, .ref l0])), (p0, .inr (2, [.ref p1, .ref p2, .int (nI ((yWipe Y).2.pn))]))]) := by
  refine KI.of (by decide +kernel) (Nat.le_of_ble_eq_true rfl) (fun p e s m below meth c A F hr hlk hW ls hl => ?_)
  have hx := F.1
  have hb := F.2.1
  have hl : lv_has ls 2 [(0, .ref x)] := hl
  obtain ⟨⟨⟨S0, hI⟩, h34⟩, hnh, hpn, hHi, hsl⟩ := hY
  have hI2 := hI
  obtain ⟨hJ, ⟨pl, hpl, h26⟩, h27, ⟨mk, h28, hm1, hm2⟩, h36, h37, hleg⟩ := hI2
  refine lv_aload_n hx hb dX6_wipe_0 rfl (lv_at hl 0 rfl) ?_
  refine gf200 F hW 0 rfl rfl dX6_wipe_1 ?_
  refine gf155 F hW 1 rfl rfl dX6_wipe_4 ?_
  refine lv_istore_n (lv' := [(1, .int (nI Y.pn)), (0, .ref x)]) hx hb dX6_wipe_7 rfl hl (by decide) rfl (fun ls hl => ?_)
  refine lv_aload_n hx hb dX6_wipe_8 rfl (lv_at hl 1 rfl) ?_
  refine gf200 F hW 0 rfl rfl dX6_wipe_9 ?_
  refine lv_iconst (v := nI 0) hx hb dX6_wipe_12 (by decide) ?_
  refine pf155 (ws' := [(x, .inr (6, [.ref (a 0), .ref h0, .ref s0, .ref v0, .ref p0, .ref l0])), (p0, .inr (2, [.ref p1, .ref p2, .int (nI 0)]))]) F hW 1 rfl rfl rfl dX6_wipe_13 (fun H locs hW => ?_)
  refine lv_iload_n hx hb dX6_wipe_16 rfl (lv_at hl 0 rfl) ?_
  exact retI F hr hlk rfl hW () rfl rfl dX6_wipe_17
set_option maxHeartbeats 4000000 in
set_option maxRecDepth 100000 in
theorem x_put (l : Launch) (D : va_G) (T : Nat → ClassId) (x h0 s0 v0 p0 l0 p1 p2 h1 : Nat) (a : Nat → Nat) (Y : YD) (hY : YOK Y) {cx : Nat} (hx64 : cx < 2 ^ 64) : KI (S := Unit) l D T yX6_put cX6_put 4 (some .int) 4 [.ref x, .long (lN cx)] [(x, .inr (6, [.ref (a 0), .ref h0, .ref s0, .ref v0, .ref p0, .ref l0])), (p0, .inr (2, [.ref p1, .ref p2, .int (nI Y.pn)])), (p1, .inl (T 1, 60, .inl Y.pad))] (fun r _ => r = (yPut Y cx).1) (fun u => [(x, .inr (6, [.ref (a 0), .ref h0, .ref s0, .ref v0, .ref p0, .ref l0])), (p0, .inr (2, [.ref p1, .ref p2, .int (nI ((yPut Y cx).2.pn))])), (p1, .inl (T 1, 60, .inl ((yPut Y cx).2.pad)))]) := by
  refine KI.of (by decide +kernel) (Nat.le_of_ble_eq_true rfl) (fun p e s m below meth c A F hr hlk hW ls hl => ?_)
  have hx := F.1
  have hb := F.2.1
  have hl : lv_has ls 4 [(0, .ref x), (1, .long (lN cx))] := hl
  obtain ⟨⟨⟨S0, hI⟩, h34⟩, hnh, hpn, hHi, hsl⟩ := hY
  have hI2 := hI
  obtain ⟨hJ, ⟨pl, hpl, h26⟩, h27, ⟨mk, h28, hm1, hm2⟩, h36, h37, hleg⟩ := hI2
  have hc8 := ch_le 8 cx 0
  refine lv_lload_n hx hb dX6_put_0 rfl (lv_at hl 1 rfl) ?_
  refine cRS (As := [.long (lN cx)]) (rest := []) F hW hl cs261 (c_charactersIn l D T (x := cx) hx64) [] rfl rfl rfl rfl (Nat.le_of_ble_eq_true rfl) ⟨Nat.le_of_ble_eq_true rfl, Nat.le_of_ble_eq_true rfl⟩ ⟨Nat.zero_le _, Nat.zero_le _⟩ dX6_put_1 (fun r1 hr1 => ?_)
  subst hr1
  refine lv_istore_n (lv' := [(3, .int (nI (chF 8 cx 0))), (0, .ref x), (1, .long (lN cx))]) hx hb dX6_put_4 rfl hl (by decide) rfl (fun ls hl => ?_)
  refine lv_iload_n hx hb dX6_put_5 rfl (lv_at hl 0 rfl) ?_
  refine lv_if_ne (tgt := 12) hx hb dX6_put_6 (by decide) (fun h6 => ?_) (fun h6 => ?_)
  · have n0 : ¬ chF 8 cx 0 = 0 := fun z => h6 (by rw [z]; rfl)
    refine lv_aload_n hx hb dX6_put_12 rfl (lv_at hl 1 rfl) ?_
    refine gf200 F hW 0 rfl rfl dX6_put_13 ?_
    refine gf155 F hW 1 rfl rfl dX6_put_16 ?_
    refine lv_iload_n hx hb dX6_put_19 rfl (lv_at hl 0 rfl) ?_
    refine iaddE (z := nI (Y.pn + (chF 8 cx 0))) hx hb dX6_put_20 (nI_add _ _) ?_
    refine lv_bipush (v := nI 60) hx hb dX6_put_21 (by decide) ?_
    refine lv_icmp_le (tgt := 29) hx hb dX6_put_23 (by decide) (fun h23 => ?_) (fun h23 => ?_)
    · have hnc : Y.pn + chF 8 cx 0 ≤ 60 := n_le h23 (by omega) (by decide)
      refine lv_aload_n hx hb dX6_put_29 rfl (lv_at hl 1 rfl) ?_
      refine gf200 F hW 0 rfl rfl dX6_put_30 ?_
      refine lv_lload_n hx hb dX6_put_33 rfl (lv_at hl 2 rfl) ?_
      refine lv_iload_n hx hb dX6_put_34 rfl (lv_at hl 0 rfl) ?_
      refine cVV (As := [.long (lN cx), .int (nI (chF 8 cx 0))]) (rest := []) (wr := [(x, .inr (6, [.ref (a 0), .ref h0, .ref s0, .ref v0, .ref p0, .ref l0]))]) F hW hl cs267 (c_append l D T p0 p1 p2 Y.pad (n := Y.pn) (cn := (chF 8 cx 0)) (x := cx) hx64 (by omega) (by omega)) [1, 2] [0] rfl rfl rfl rfl (by decide) 0 2 rfl rfl rfl rfl rfl (Nat.le_of_ble_eq_true rfl) ⟨Nat.le_of_ble_eq_true rfl, Nat.le_of_ble_eq_true rfl⟩ ⟨Nat.zero_le _, Nat.zero_le _⟩ dX6_put_35 (fun u35 H locs hr35 hW => ?_)
      have hW := Wd.ord hW (ws' := [(x, .inr (6, [.ref (a 0), .ref h0, .ref s0, .ref v0, .ref p0, .ref l0])), (p0, .inr (2, [.ref p1, .ref p2, .int (nI (Y.pn + (chF 8 cx 0)))])), (p1, .inl (T 1, 60, .inl (apT Y.pad Y.pn (chF 8 cx 0) cx (chF 8 cx 0))))]) [0, 1, 2] rfl rfl
      refine lv_aload_n hx hb dX6_put_38 rfl (lv_at hl 1 rfl) ?_
      refine gf200 F hW 0 rfl rfl dX6_put_39 ?_
      refine gf155 F hW 1 rfl rfl dX6_put_42 ?_
      have hy : yPut Y cx = (nI (Y.pn + chF 8 cx 0), (Y.all, Y.H, Y.slo, Y.isv, apT Y.pad Y.pn (chF 8 cx 0) cx (chF 8 cx 0), Y.nh, Y.pn + chF 8 cx 0)) := by unfold yPut; rw [if_neg n0, if_neg (show ¬ 60 < Y.pn + chF 8 cx 0 by omega)]
      exact retI F hr hlk rfl hW () (congrArg Prod.fst hy).symm (by rw [hy]) dX6_put_45
    · have hnc : 60 < Y.pn + chF 8 cx 0 := n_nle h23 (by omega) (by decide)
      refine lv_bipush (v := -4) hx hb dX6_put_26 (by decide) ?_
      have hy : yPut Y cx = (-4, Y) := by unfold yPut; rw [if_neg n0, if_pos hnc]
      exact retI F hr hlk rfl hW () (congrArg Prod.fst hy).symm (by rw [hy]) dX6_put_28
  · have n0 : chF 8 cx 0 = 0 := n_eq (b := 0) h6 (by omega) (by decide)
    refine lv_bipush (v := -2) hx hb dX6_put_9 (by decide) ?_
    have hy : yPut Y cx = (-2, Y) := if_pos n0
    exact retI F hr hlk rfl hW () (congrArg Prod.fst hy).symm (by rw [hy]) dX6_put_11
set_option maxHeartbeats 4000000 in
set_option maxRecDepth 100000 in
theorem x_count (l : Launch) (D : va_G) (T : Nat → ClassId) (x h0 s0 v0 p0 l0 p1 p2 h1 : Nat) (a : Nat → Nat) (Y : YD) (hY : YOK Y) (ol : Nat) (ra rc : Nat → Int32) (v : Int32) : KR l D T yX6_count cX6_count 3 (some .int) 4 [.ref x, .int v] ((nblk T a Y.all ra rc) ++ ([(x, .inr (6, [.ref (a 0), .ref h0, .ref s0, .ref v0, .ref p0, .ref l0])), (p0, .inr (2, [.ref p1, .ref p2, .int (nI Y.pn)])), (h0, .inr (0, [.ref h1, .int (nI ol), .int (nI Y.nh)]))])) (fun r => r = (yCount Y v).1) := by
  refine KR.of (by decide +kernel) (Nat.le_of_ble_eq_true rfl) (fun p e s m below meth c F hr hlk hW ls hl => ?_)
  have hx := F.1
  have hb := F.2.1
  have hl : lv_has ls 3 [(0, .ref x), (1, .int v)] := hl
  obtain ⟨⟨⟨S0, hI⟩, h34⟩, hnh, hpn, hHi, hsl⟩ := hY
  have hI2 := hI
  obtain ⟨hJ, ⟨pl, hpl, h26⟩, h27, ⟨mk, h28, hm1, hm2⟩, h36, h37, hleg⟩ := hI2
  refine lv_aload_n hx hb dX6_count_0 rfl (lv_at hl 0 rfl) ?_
  refine gf196 F hW 8 rfl rfl dX6_count_1 ?_
  refine gf110 F hW 0 rfl rfl dX6_count_4 ?_
  refine lv_astore_n (lv' := [(2, .ref (a 1)), (0, .ref x), (1, .int v)]) hx hb dX6_count_7 rfl hl (by decide) rfl (fun ls hl => ?_)
  by_cases q : rng 0 13 v
  · obtain ⟨k, kb, kl, ek, ck⟩ := rng_nat q
    rw [ek] at hl
    have hk : k = 0 ∨ k = 1 ∨ k = 2 ∨ k = 3 ∨ k = 4 ∨ k = 5 ∨ k = 6 ∨ k = 7 ∨ k = 8 ∨ k = 9 ∨ k = 10 ∨ k = 11 ∨ k = 12 ∨ k = 13 := by omega
    rcases hk with rfl | rfl | rfl | rfl | rfl | rfl | rfl | rfl | rfl | rfl | rfl | rfl | rfl | rfl
    · refine lv_iload_n hx hb dX6_count_8 rfl (lv_at hl 2 rfl) ?_
      refine lv_tableIn (off := 71) (tgt := 80) hx hb dX6_count_9 (by decide) (by decide) (by decide) (by decide) ?_
      refine lv_aload_n hx hb dX6_count_80 rfl (lv_at hl 0 rfl) ?_
      refine gf48 F hW 1 rfl rfl dX6_count_81 ?_
      exact retR F hr hlk rfl (by unfold yCount; rw [if_pos q, ck]; rfl) dX6_count_84
    · refine lv_iload_n hx hb dX6_count_8 rfl (lv_at hl 2 rfl) ?_
      refine lv_tableIn (off := 76) (tgt := 85) hx hb dX6_count_9 (by decide) (by decide) (by decide) (by decide) ?_
      refine lv_aload_n hx hb dX6_count_85 rfl (lv_at hl 0 rfl) ?_
      refine gf51 F hW 1 rfl rfl dX6_count_86 ?_
      refine lv_if_eq (tgt := 96) hx hb dX6_count_89 (by decide) (fun h89 => ?_) (fun h89 => ?_)
      · refine lv_iconst (v := 0) hx hb dX6_count_96 (by decide) ?_
        exact retR F hr hlk rfl (by unfold yCount; rw [if_pos q, ck]; exact h89.symm) dX6_count_97
      · refine lv_iconst (v := 1) hx hb dX6_count_92 (by decide) ?_
        refine lv_goto (tgt := 97) hx hb dX6_count_93 (by decide) ?_
        exact retR F hr hlk rfl (by unfold yCount; rw [if_pos q, ck]; exact (h27.resolve_left h89).symm) dX6_count_97
    · refine lv_iload_n hx hb dX6_count_8 rfl (lv_at hl 2 rfl) ?_
      refine lv_tableIn (off := 89) (tgt := 98) hx hb dX6_count_9 (by decide) (by decide) (by decide) (by decide) ?_
      refine lv_aload_n hx hb dX6_count_98 rfl (lv_at hl 0 rfl) ?_
      refine gf51 F hW 1 rfl rfl dX6_count_99 ?_
      refine lv_if_eq (tgt := 112) hx hb dX6_count_102 (by decide) (fun h102 => ?_) (fun h102 => ?_)
      · refine lv_bipush (v := -6) hx hb dX6_count_112 (by decide) ?_
        exact retR F hr hlk rfl (by unfold yCount; rw [if_pos q, ck]; exact (if_pos h102).symm) dX6_count_114
      · refine lv_aload_n hx hb dX6_count_105 rfl (lv_at hl 0 rfl) ?_
        refine cRV (As := []) (rest := []) F hW hl cs219 (c_winner l D T (a 1) (a 2) (a 3) (a 4) (Y.all 26) (Y.all 27) (Y.all 28) (fun j => Y.all (24 + j))) [1, 4] rfl rfl 0 3 rfl rfl rfl rfl rfl (Nat.le_of_ble_eq_true rfl) ⟨Nat.le_of_ble_eq_true rfl, Nat.le_of_ble_eq_true rfl⟩ ⟨Nat.zero_le _, Nat.zero_le _⟩ dX6_count_106 (fun r106 hr106 => ?_)
        subst hr106
        refine lv_goto (tgt := 114) hx hb dX6_count_109 (by decide) ?_
        exact retR F hr hlk rfl (by unfold yCount; rw [if_pos q, ck]; exact win_eq Y.all h102) dX6_count_114
    · refine lv_iload_n hx hb dX6_count_8 rfl (lv_at hl 2 rfl) ?_
      refine lv_tableIn (off := 106) (tgt := 115) hx hb dX6_count_9 (by decide) (by decide) (by decide) (by decide) ?_
      refine lv_aload_n hx hb dX6_count_115 rfl (lv_at hl 0 rfl) ?_
      refine gf45 F hW 1 rfl rfl dX6_count_116 ?_
      refine lv_iconst (v := nI 0) hx hb dX6_count_119 (by decide) ?_
      refine ald F hW 4 rfl (x := Y.all (24 + 0)) 0 rfl (by omega) (by decide) rfl dX6_count_120 ?_
      exact retR F hr hlk rfl (by unfold yCount; rw [if_pos q, ck]; rfl) dX6_count_121
    · refine lv_iload_n hx hb dX6_count_8 rfl (lv_at hl 2 rfl) ?_
      refine lv_tableIn (off := 113) (tgt := 122) hx hb dX6_count_9 (by decide) (by decide) (by decide) (by decide) ?_
      refine lv_aload_n hx hb dX6_count_122 rfl (lv_at hl 0 rfl) ?_
      refine gf45 F hW 1 rfl rfl dX6_count_123 ?_
      refine lv_iconst (v := nI 1) hx hb dX6_count_126 (by decide) ?_
      refine ald F hW 4 rfl (x := Y.all (24 + 1)) 1 rfl (by omega) (by decide) rfl dX6_count_127 ?_
      exact retR F hr hlk rfl (by unfold yCount; rw [if_pos q, ck]; rfl) dX6_count_128
    · refine lv_iload_n hx hb dX6_count_8 rfl (lv_at hl 2 rfl) ?_
      refine lv_tableIn (off := 120) (tgt := 129) hx hb dX6_count_9 (by decide) (by decide) (by decide) (by decide) ?_
      refine lv_aload_n hx hb dX6_count_129 rfl (lv_at hl 0 rfl) ?_
      refine cRV (As := []) (rest := []) F hW hl cs223 (c_allSeeds l D T (a 1) (a 2) (a 3) (a 4) (Y.all 26) (Y.all 27) (Y.all 28) (fun j => Y.all j) (fun j => Y.all (24 + j))) [1, 2, 4] rfl rfl 0 3 rfl rfl rfl rfl rfl (Nat.le_of_ble_eq_true rfl) ⟨Nat.le_of_ble_eq_true rfl, Nat.le_of_ble_eq_true rfl⟩ ⟨Nat.zero_le _, Nat.zero_le _⟩ dX6_count_130 (fun r130 hr130 => ?_)
      subst hr130
      exact retR F hr hlk rfl (by unfold yCount; rw [if_pos q, ck]; exact (all_eq Y.all).symm) dX6_count_133
    · refine lv_iload_n hx hb dX6_count_8 rfl (lv_at hl 2 rfl) ?_
      refine lv_tableIn (off := 125) (tgt := 134) hx hb dX6_count_9 (by decide) (by decide) (by decide) (by decide) ?_
      refine lv_aload_n hx hb dX6_count_134 rfl (lv_at hl 0 rfl) ?_
      refine gf54 F hW 1 rfl rfl dX6_count_135 ?_
      exact retR F hr hlk rfl (by unfold yCount; rw [if_pos q, ck]; rfl) dX6_count_138
    · refine lv_iload_n hx hb dX6_count_8 rfl (lv_at hl 2 rfl) ?_
      refine lv_tableIn (off := 130) (tgt := 139) hx hb dX6_count_9 (by decide) (by decide) (by decide) (by decide) ?_
      refine lv_aload_n hx hb dX6_count_139 rfl (lv_at hl 1 rfl) ?_
      refine gf196 F hW 8 rfl rfl dX6_count_140 ?_
      refine gf112 F hW 0 rfl rfl dX6_count_143 ?_
      refine lv_iconst (v := nI 0) hx hb dX6_count_146 (by decide) ?_
      refine ald F hW 5 rfl (x := Y.all (34 + 0)) 0 rfl (by omega) (by decide) rfl dX6_count_147 ?_
      exact retR F hr hlk rfl (by unfold yCount; rw [if_pos q, ck]; rfl) dX6_count_148
    · refine lv_iload_n hx hb dX6_count_8 rfl (lv_at hl 2 rfl) ?_
      refine lv_tableIn (off := 140) (tgt := 149) hx hb dX6_count_9 (by decide) (by decide) (by decide) (by decide) ?_
      refine lv_aload_n hx hb dX6_count_149 rfl (lv_at hl 1 rfl) ?_
      refine gf196 F hW 8 rfl rfl dX6_count_150 ?_
      refine gf112 F hW 0 rfl rfl dX6_count_153 ?_
      refine lv_iconst (v := nI 1) hx hb dX6_count_156 (by decide) ?_
      refine ald F hW 5 rfl (x := Y.all (34 + 1)) 1 rfl (by omega) (by decide) rfl dX6_count_157 ?_
      exact retR F hr hlk rfl (by unfold yCount; rw [if_pos q, ck]; rfl) dX6_count_158
    · refine lv_iload_n hx hb dX6_count_8 rfl (lv_at hl 2 rfl) ?_
      refine lv_tableIn (off := 150) (tgt := 159) hx hb dX6_count_9 (by decide) (by decide) (by decide) (by decide) ?_
      refine lv_aload_n hx hb dX6_count_159 rfl (lv_at hl 1 rfl) ?_
      refine gf196 F hW 8 rfl rfl dX6_count_160 ?_
      refine gf112 F hW 0 rfl rfl dX6_count_163 ?_
      refine lv_iconst (v := nI 2) hx hb dX6_count_166 (by decide) ?_
      refine ald F hW 5 rfl (x := Y.all (34 + 2)) 2 rfl (by omega) (by decide) rfl dX6_count_167 ?_
      exact retR F hr hlk rfl (by unfold yCount; rw [if_pos q, ck]; rfl) dX6_count_168
    · refine lv_iload_n hx hb dX6_count_8 rfl (lv_at hl 2 rfl) ?_
      refine lv_tableIn (off := 160) (tgt := 169) hx hb dX6_count_9 (by decide) (by decide) (by decide) (by decide) ?_
      refine lv_aload_n hx hb dX6_count_169 rfl (lv_at hl 1 rfl) ?_
      refine gf196 F hW 8 rfl rfl dX6_count_170 ?_
      refine gf112 F hW 0 rfl rfl dX6_count_173 ?_
      refine lv_iconst (v := nI 3) hx hb dX6_count_176 (by decide) ?_
      refine ald F hW 5 rfl (x := Y.all (34 + 3)) 3 rfl (by omega) (by decide) rfl dX6_count_177 ?_
      exact retR F hr hlk rfl (by unfold yCount; rw [if_pos q, ck]; rfl) dX6_count_178
    · refine lv_iload_n hx hb dX6_count_8 rfl (lv_at hl 2 rfl) ?_
      refine lv_tableIn (off := 170) (tgt := 179) hx hb dX6_count_9 (by decide) (by decide) (by decide) (by decide) ?_
      refine lv_aload_n hx hb dX6_count_179 rfl (lv_at hl 0 rfl) ?_
      refine lv_aload_n hx hb dX6_count_180 rfl (lv_at hl 1 rfl) ?_
      refine gf196 F hW 8 rfl rfl dX6_count_181 ?_
      refine gf112 F hW 0 rfl rfl dX6_count_184 ?_
      refine cRV (As := [.ref (a 5)]) (rest := []) F hW hl cs231 (c_hostileHouses l D T (a 1) (a 2) (a 3) (a 4) (a 5) (Y.all 26) (Y.all 27) (Y.all 28) (fun j => Y.all (12 + j)) (fun j => Y.all (34 + j))) [1, 3, 5] rfl rfl 0 3 rfl rfl rfl rfl rfl (Nat.le_of_ble_eq_true rfl) ⟨Nat.le_of_ble_eq_true rfl, Nat.le_of_ble_eq_true rfl⟩ ⟨Nat.zero_le _, Nat.zero_le _⟩ dX6_count_187 (fun r187 hr187 => ?_)
      subst hr187
      exact retR F hr hlk rfl (by unfold yCount; rw [if_pos q, ck]; exact hos_eq Y.all 12) dX6_count_190
    · refine lv_iload_n hx hb dX6_count_8 rfl (lv_at hl 2 rfl) ?_
      refine lv_tableIn (off := 182) (tgt := 191) hx hb dX6_count_9 (by decide) (by decide) (by decide) (by decide) ?_
      refine lv_aload_n hx hb dX6_count_191 rfl (lv_at hl 1 rfl) ?_
      refine gf200 F hW 8 rfl rfl dX6_count_192 ?_
      refine gf155 F hW 9 rfl rfl dX6_count_195 ?_
      exact retR F hr hlk rfl (by unfold yCount; rw [if_pos q, ck]; rfl) dX6_count_198
    · refine lv_iload_n hx hb dX6_count_8 rfl (lv_at hl 2 rfl) ?_
      refine lv_tableIn (off := 190) (tgt := 199) hx hb dX6_count_9 (by decide) (by decide) (by decide) (by decide) ?_
      refine lv_aload_n hx hb dX6_count_199 rfl (lv_at hl 1 rfl) ?_
      refine gf197 F hW 8 rfl rfl dX6_count_200 ?_
      refine gf137 F hW 10 rfl rfl dX6_count_203 ?_
      exact retR F hr hlk rfl (by unfold yCount; rw [if_pos q, ck]; rfl) dX6_count_206
  · refine lv_iload_n hx hb dX6_count_8 rfl (lv_at hl 2 rfl) ?_
    refine lv_tableOut (tgt := 207) hx hb dX6_count_9 (by have : ¬ rng 0 13 v := q; unfold rng at this; omega) (by decide) ?_
    refine lv_bipush (v := -2) hx hb dX6_count_207 (by decide) ?_
    exact retR F hr hlk rfl (by unfold yCount; rw [if_neg q]) dX6_count_209
