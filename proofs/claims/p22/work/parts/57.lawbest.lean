-- the law: the best move brings what is told
set_option maxHeartbeats 4000000 in
set_option maxRecDepth 100000 in
theorem c_isBest (l : Launch) (D : va_G) (T : Nat → ClassId) {S : Int} (g g2 : GA) {Y Z : YD} {u v : UX} (hG0 : GR S Y Z) (hU : UR Y u) : KIg (S := YD × UX) l D T yL_isBest cL_isBest 7 (some .boolean) 13 [.ref (g.1 0)] (XG T g Y u ++ (XG T g2 Z v ++ [])) (fun r q => r = 1) (fun q => XG T g q.1 q.2 ++ (XG T g2 Z v ++ [])) := by
  refine KIg.of (by decide +kernel) (Nat.le_of_ble_eq_true rfl) (fun p e s m below meth c A F hr hlk hG hW ls hl => ?_)
  have hx := F.1
  have hb := F.2.1
  have hl : lv_has ls 7 [(0, .ref (g.1 0))] := hl
  have hY := hG0.1
  refine lv_aload_n hx hb dL_isBest_0 rfl (lv_at hl 0 rfl) ?_
  refine lv_iconst (v := nI 1) hx hb dL_isBest_1 (by decide) ?_
  refine cGR0 (As := [.int (nI 1)]) (rest := []) F (XG T g Y u) (XG T g2 Z v ++ []) hW hl cs215 (g_count l D T g hY hU (nI 1)) 8 6 (xg_at _ _ _ _) rfl rfl rfl rfl (Nat.le_of_ble_eq_true rfl) ⟨Nat.le_of_ble_eq_true rfl, Nat.le_of_ble_eq_true rfl⟩ ⟨Nat.zero_le _, Nat.zero_le _⟩ dL_isBest_2 (fun r2 hr2 => ?_)
  subst hr2
  refine lv_iconst (v := nI 1) hx hb dL_isBest_5 (by decide) ?_
  refine lv_icmp_ne (tgt := 52) hx hb dL_isBest_6 (by decide) (fun h6 => ?_) (fun h6 => ?_)
  · obtain ⟨h, k, hh, hk, b1, b2, b3, st, gn, wt, c1, c2, c3, c4, c5, c6, c7, c8, c9⟩ := bs_main hG0 h6
    refine lv_aload_n hx hb dL_isBest_52 rfl (lv_at hl 0 rfl) ?_
    refine lv_iconst (v := nI 0) hx hb dL_isBest_53 (by decide) ?_
    refine cGR0 (As := [.int (nI 0)]) (rest := []) F (XG T g Y u) (XG T g2 Z v ++ []) hW hl cs215 (g_count l D T g hY hU (nI 0)) 8 6 (xg_at _ _ _ _) rfl rfl rfl rfl (Nat.le_of_ble_eq_true rfl) ⟨Nat.le_of_ble_eq_true rfl, Nat.le_of_ble_eq_true rfl⟩ ⟨Nat.zero_le _, Nat.zero_le _⟩ dL_isBest_54 (fun r54 hr54 => ?_)
    have hr54 := (hr54.trans (b1)).symm
    subst hr54
    refine lv_istore_n (lv' := [(1, .int (nI k)), (0, .ref (g.1 0))]) hx hb dL_isBest_57 rfl hl (by decide) rfl (fun ls hl => ?_)
    refine lv_aload_n hx hb dL_isBest_58 rfl (lv_at hl 1 rfl) ?_
    refine lv_iconst (v := nI 1) hx hb dL_isBest_59 (by decide) ?_
    refine cGI0 (As := [.int (nI 1)]) (rest := []) F (XG T g Y u) (XG T g2 Z v ++ []) hW hl cs441 (g_best l D T g hY hU (nI 1)) 8 6 (xg_at _ _ _ _) rfl rfl rfl rfl (Nat.le_of_ble_eq_true rfl) ⟨Nat.le_of_ble_eq_true rfl, Nat.le_of_ble_eq_true rfl⟩ ⟨Nat.zero_le _, Nat.zero_le _⟩ dL_isBest_60 (fun r60 u60 H locs hp60 hW => ?_)
    obtain ⟨hr60, hU60⟩ := hp60
    have hr60 := (hr60.trans (b2)).symm
    subst hr60
    refine lv_istore_n (lv' := [(2, .int (nI h)), (1, .int (nI k)), (0, .ref (g.1 0))]) hx hb dL_isBest_63 rfl hl (by decide) rfl (fun ls hl => ?_)
    refine lv_aload_n hx hb dL_isBest_64 rfl (lv_at hl 2 rfl) ?_
    refine lv_iconst (v := nI 3) hx hb dL_isBest_65 (by decide) ?_
    refine lv_iload_n hx hb dL_isBest_66 rfl (lv_at hl 1 rfl) ?_
    refine iaddE (z := nI (3 + k)) hx hb dL_isBest_67 (nI_add _ _) ?_
    refine cGR0 (As := [.int (nI (3 + k))]) (rest := []) F (XG T g Y u60) (XG T g2 Z v ++ []) hW hl cs215 (g_count l D T g hY hU60 (nI (3 + k))) 8 6 (xg_at _ _ _ _) rfl rfl rfl rfl (Nat.le_of_ble_eq_true rfl) ⟨Nat.le_of_ble_eq_true rfl, Nat.le_of_ble_eq_true rfl⟩ ⟨Nat.zero_le _, Nat.zero_le _⟩ dL_isBest_68 (fun r68 hr68 => ?_)
    have hr68 := (hr68.trans (c1)).symm
    subst hr68
    refine lv_istore_n (lv' := [(3, .int st), (2, .int (nI h)), (1, .int (nI k)), (0, .ref (g.1 0))]) hx hb dL_isBest_71 rfl hl (by decide) rfl (fun ls hl => ?_)
    refine lv_aload_n hx hb dL_isBest_72 rfl (lv_at hl 3 rfl) ?_
    refine lv_iload_n hx hb dL_isBest_73 rfl (lv_at hl 1 rfl) ?_
    refine lv_iconst (v := nI 4) hx hb dL_isBest_74 (by decide) ?_
    refine cGI0 (As := [.int (nI h), .int (nI 4)]) (rest := []) F (XG T g Y u60) (XG T g2 Z v ++ []) hW hl cs423 (g_ifMove l D T g hY hU60 (nI h) (nI 4)) 8 6 (xg_at _ _ _ _) rfl rfl rfl rfl (Nat.le_of_ble_eq_true rfl) ⟨Nat.le_of_ble_eq_true rfl, Nat.le_of_ble_eq_true rfl⟩ ⟨Nat.zero_le _, Nat.zero_le _⟩ dL_isBest_75 (fun r75 u75 H locs hp75 hW => ?_)
    obtain ⟨hr75, hU75⟩ := hp75
    subst hr75
    refine lv_sipush (v := nI 10000) hx hb dL_isBest_78 (by decide) ?_
    refine isubE (z := gn) hx hb dL_isBest_81 c2 ?_
    refine lv_istore (lv' := [(4, .int gn), (3, .int st), (2, .int (nI h)), (1, .int (nI k)), (0, .ref (g.1 0))]) hx hb dL_isBest_82 hl (by decide) rfl (fun ls hl => ?_)
    refine lv_aload_n hx hb dL_isBest_84 rfl (lv_at hl 4 rfl) ?_
    refine lv_iconst (v := nI 1) hx hb dL_isBest_85 (by decide) ?_
    refine cGG0 (As := [.int (nI 1)]) (rest := []) F hG (XG T g Y u75) (XG T g2 Z v ++ []) hW hl cs436 (g_worth l D T g hY hU75 (nI 1)) 8 6 (xg_at _ _ _ _) rfl rfl rfl rfl (Nat.le_of_ble_eq_true rfl) ⟨Nat.le_of_ble_eq_true rfl, Nat.le_of_ble_eq_true rfl⟩ ⟨Nat.zero_le _, Nat.zero_le _⟩ dL_isBest_86 (fun r86 u86 H locs hp86 hW => ?_)
    obtain ⟨hr86, hU86⟩ := hp86
    subst hr86
    refine lv_sipush (v := nI 10000) hx hb dL_isBest_89 (by decide) ?_
    refine isubE (z := wt) hx hb dL_isBest_92 c3 ?_
    refine lv_istore (lv' := [(5, .int wt), (4, .int gn), (3, .int st), (2, .int (nI h)), (1, .int (nI k)), (0, .ref (g.1 0))]) hx hb dL_isBest_93 hl (by decide) rfl (fun ls hl => ?_)
    refine lv_aload_n hx hb dL_isBest_95 rfl (lv_at hl 5 rfl) ?_
    refine lv_iload_n hx hb dL_isBest_96 rfl (lv_at hl 3 rfl) ?_
    refine lv_bipush (v := nI 6) hx hb dL_isBest_97 (by decide) ?_
    refine cGI0 (As := [.int (nI h), .int (nI 6)]) (rest := []) F (XG T g Y u86) (XG T g2 Z v ++ []) hW hl cs423 (g_ifMove l D T g hY hU86 (nI h) (nI 6)) 8 6 (xg_at _ _ _ _) rfl rfl rfl rfl (Nat.le_of_ble_eq_true rfl) ⟨Nat.le_of_ble_eq_true rfl, Nat.le_of_ble_eq_true rfl⟩ ⟨Nat.zero_le _, Nat.zero_le _⟩ dL_isBest_99 (fun r99 u99 H locs hp99 hW => ?_)
    obtain ⟨hr99, hU99⟩ := hp99
    subst hr99
    refine lv_iconst (v := nI 1) hx hb dL_isBest_102 (by decide) ?_
    refine W.fork (X := Unit) 115 (fun _ => []) (fun _ H2 locs2 ls2 => H2 = H ∧ locs2 = locs ∧ lv_has ls2 7 [(5, .int wt), (4, .int gn), (3, .int st), (2, .int (nI h)), (1, .int (nI k)), (0, .ref (g.1 0))]) (fun hJ => ?_) ?_
    · refine lv_icmp_eq (tgt := 115) hx hb dL_isBest_103 (by decide) (fun h103 => ?_) (fun h103 => ?_)
      · exact hJ () _ _ _ ⟨rfl, rfl, hl⟩
      · refine lv_iload hx hb dL_isBest_106 (lv_at hl 0 rfl) ?_
        refine lv_iload_n hx hb dL_isBest_108 rfl (lv_at hl 2 rfl) ?_
        refine lv_iload hx hb dL_isBest_109 (lv_at hl 1 rfl) ?_
        refine iaddE (z := st + gn) hx hb dL_isBest_111 rfl ?_
        refine lv_icmp_gt (tgt := 119) hx hb dL_isBest_112 (by decide) (fun h9 => absurd h9 (Int32.not_lt.mpr c4)) (fun _ => ?_)
        exact hJ () _ _ _ ⟨rfl, rfl, hl⟩
    · rintro - H2 locs2 ls ⟨rfl, rfl, hl⟩
      refine lv_iconst (v := 1) hx hb dL_isBest_115 (by decide) ?_
      refine lv_goto (tgt := 120) hx hb dL_isBest_116 (by decide) ?_
      refine lv_istore (lv' := [(6, .int 1), (5, .int wt), (4, .int gn), (3, .int st), (2, .int (nI h)), (1, .int (nI k)), (0, .ref (g.1 0))]) hx hb dL_isBest_120 hl (by decide) rfl (fun ls hl => ?_)
      refine lv_iload hx hb dL_isBest_122 (lv_at hl 0 rfl) ?_
      refine lv_if_eq (tgt := 174) hx hb dL_isBest_124 (by decide) (fun h9 => absurd h9 (by decide)) (fun _ => ?_)
      refine lv_aload_n hx hb dL_isBest_127 rfl (lv_at hl 6 rfl) ?_
      refine lv_iconst (v := nI 1) hx hb dL_isBest_128 (by decide) ?_
      refine cGI0 (As := [.int (nI 1)]) (rest := []) F (XG T g Y u99) (XG T g2 Z v ++ []) hW hl cs329 (g_play l D T g hY hU99 (nI 1)) 8 6 (xg_at _ _ _ _) rfl rfl rfl rfl (Nat.le_of_ble_eq_true rfl) ⟨Nat.le_of_ble_eq_true rfl, Nat.le_of_ble_eq_true rfl⟩ ⟨Nat.zero_le _, Nat.zero_le _⟩ dL_isBest_129 (fun r129 u129 H locs hp129 hW => ?_)
      obtain ⟨hr129, hU129⟩ := hp129
      have hr129 := (hr129.trans (b3)).symm
      subst hr129
      refine lv_iload_n hx hb dL_isBest_132 rfl (lv_at hl 4 rfl) ?_
      refine lv_icmp_ne (tgt := 174) hx hb dL_isBest_133 (by decide) (fun h9 => absurd rfl h9) (fun _ => ?_)
      refine lv_aload_n hx hb dL_isBest_136 rfl (lv_at hl 6 rfl) ?_
      refine lv_iconst (v := nI 3) hx hb dL_isBest_137 (by decide) ?_
      refine lv_iload_n hx hb dL_isBest_138 rfl (lv_at hl 5 rfl) ?_
      refine iaddE (z := nI (3 + k)) hx hb dL_isBest_139 (nI_add _ _) ?_
      refine cGR0 (As := [.int (nI (3 + k))]) (rest := []) F (XG T g ((yPlay Y (nI 1)).2) u129) (XG T g2 Z v ++ []) hW hl cs215 (g_count l D T g (yok_play hY (nI 1)) hU129 (nI (3 + k))) 8 6 (xg_at _ _ _ _) rfl rfl rfl rfl (Nat.le_of_ble_eq_true rfl) ⟨Nat.le_of_ble_eq_true rfl, Nat.le_of_ble_eq_true rfl⟩ ⟨Nat.zero_le _, Nat.zero_le _⟩ dL_isBest_140 (fun r140 hr140 => ?_)
      subst hr140
      refine lv_iload_n hx hb dL_isBest_143 rfl (lv_at hl 3 rfl) ?_
      refine lv_iload hx hb dL_isBest_144 (lv_at hl 2 rfl) ?_
      refine iaddE (z := st + gn) hx hb dL_isBest_146 rfl ?_
      refine lv_icmp_ne (tgt := 174) hx hb dL_isBest_147 (by decide) (fun h9 => absurd c5 h9) (fun _ => ?_)
      refine lv_aload_n hx hb dL_isBest_150 rfl (lv_at hl 6 rfl) ?_
      refine lv_iconst (v := nI 3) hx hb dL_isBest_151 (by decide) ?_
      refine lv_iload_n hx hb dL_isBest_152 rfl (lv_at hl 5 rfl) ?_
      refine iaddE (z := nI (3 + k)) hx hb dL_isBest_153 (nI_add _ _) ?_
      refine cGR0 (As := [.int (nI (3 + k))]) (rest := []) F (XG T g ((yPlay Y (nI 1)).2) u129) (XG T g2 Z v ++ []) hW hl cs215 (g_count l D T g (yok_play hY (nI 1)) hU129 (nI (3 + k))) 8 6 (xg_at _ _ _ _) rfl rfl rfl rfl (Nat.le_of_ble_eq_true rfl) ⟨Nat.le_of_ble_eq_true rfl, Nat.le_of_ble_eq_true rfl⟩ ⟨Nat.zero_le _, Nat.zero_le _⟩ dL_isBest_154 (fun r154 hr154 => ?_)
      subst hr154
      refine lv_aload_n hx hb dL_isBest_157 rfl (lv_at hl 6 rfl) ?_
      refine lv_iconst (v := nI 4) hx hb dL_isBest_158 (by decide) ?_
      refine lv_iload_n hx hb dL_isBest_159 rfl (lv_at hl 5 rfl) ?_
      refine isubE (z := nI (4 - k)) hx hb dL_isBest_160 (pk_sub (by omega)) ?_
      refine cGR0 (As := [.int (nI (4 - k))]) (rest := [.int ((yCount ((yPlay Y (nI 1)).2) (nI (3 + k))).1)]) F (XG T g ((yPlay Y (nI 1)).2) u129) (XG T g2 Z v ++ []) hW hl cs215 (g_count l D T g (yok_play hY (nI 1)) hU129 (nI (4 - k))) 8 6 (xg_at _ _ _ _) rfl rfl rfl rfl (Nat.le_of_ble_eq_true rfl) ⟨Nat.le_of_ble_eq_true rfl, Nat.le_of_ble_eq_true rfl⟩ ⟨Nat.zero_le _, Nat.zero_le _⟩ dL_isBest_161 (fun r161 hr161 => ?_)
      subst hr161
      refine isubE (z := wt) hx hb dL_isBest_164 c6 ?_
      refine lv_iload hx hb dL_isBest_165 (lv_at hl 1 rfl) ?_
      refine lv_icmp_ne (tgt := 174) hx hb dL_isBest_167 (by decide) (fun h9 => absurd rfl h9) (fun _ => ?_)
      refine lv_iconst (v := 1) hx hb dL_isBest_170 (by decide) ?_
      refine lv_goto (tgt := 175) hx hb dL_isBest_171 (by decide) ?_
      refine lv_istore (lv' := [(6, .int 1), (5, .int wt), (4, .int gn), (3, .int st), (2, .int (nI h)), (1, .int (nI k)), (0, .ref (g.1 0))]) hx hb dL_isBest_175 hl (by decide) rfl (fun ls hl => ?_)
      refine lv_iload hx hb dL_isBest_177 (lv_at hl 0 rfl) ?_
      refine lv_if_eq (tgt := 213) hx hb dL_isBest_179 (by decide) (fun h9 => absurd h9 (by decide)) (fun _ => ?_)
      refine lv_aload_n hx hb dL_isBest_182 rfl (lv_at hl 6 rfl) ?_
      refine cGI0 (As := []) (rest := []) F (XG T g ((yPlay Y (nI 1)).2) u129) (XG T g2 Z v ++ []) hW hl cs392 (g_undo l D T g (yok_play hY (nI 1)) hU129) 8 6 (xg_at _ _ _ _) rfl rfl rfl rfl (Nat.le_of_ble_eq_true rfl) ⟨Nat.le_of_ble_eq_true rfl, Nat.le_of_ble_eq_true rfl⟩ ⟨Nat.zero_le _, Nat.zero_le _⟩ dL_isBest_183 (fun r183 u183 H locs hp183 hW => ?_)
      obtain ⟨hr183, hU183⟩ := hp183
      subst hr183
      refine lv_if_lt (tgt := 213) hx hb dL_isBest_186 (by decide) (fun h9 => absurd h9 (fun z => by have a1 := (i_lt _ _).mp z; rw [i_0] at a1; omega)) (fun _ => ?_)
      refine lv_aload_n hx hb dL_isBest_189 rfl (lv_at hl 6 rfl) ?_
      refine lv_iconst (v := nI 3) hx hb dL_isBest_190 (by decide) ?_
      refine lv_iload_n hx hb dL_isBest_191 rfl (lv_at hl 5 rfl) ?_
      refine iaddE (z := nI (3 + k)) hx hb dL_isBest_192 (nI_add _ _) ?_
      refine cGR0 (As := [.int (nI (3 + k))]) (rest := []) F (XG T g ((yUndo ((yPlay Y (nI 1)).2)).2) u183) (XG T g2 Z v ++ []) hW hl cs215 (g_count l D T g (yok_undo (yok_play hY (nI 1))) hU183 (nI (3 + k))) 8 6 (xg_at _ _ _ _) rfl rfl rfl rfl (Nat.le_of_ble_eq_true rfl) ⟨Nat.le_of_ble_eq_true rfl, Nat.le_of_ble_eq_true rfl⟩ ⟨Nat.zero_le _, Nat.zero_le _⟩ dL_isBest_193 (fun r193 hr193 => ?_)
      subst hr193
      refine lv_iload_n hx hb dL_isBest_196 rfl (lv_at hl 3 rfl) ?_
      refine lv_icmp_ne (tgt := 213) hx hb dL_isBest_197 (by decide) (fun h9 => absurd c8 h9) (fun _ => ?_)
      refine lv_aload_n hx hb dL_isBest_200 rfl (lv_at hl 6 rfl) ?_
      refine lv_iconst (v := nI 1) hx hb dL_isBest_201 (by decide) ?_
      refine cGI0 (As := [.int (nI 1)]) (rest := []) F (XG T g ((yUndo ((yPlay Y (nI 1)).2)).2) u183) (XG T g2 Z v ++ []) hW hl cs448 (g_movesLeft l D T g (yok_undo (yok_play hY (nI 1))) hU183 (nI 1)) 8 6 (xg_at _ _ _ _) rfl rfl rfl rfl (Nat.le_of_ble_eq_true rfl) ⟨Nat.le_of_ble_eq_true rfl, Nat.le_of_ble_eq_true rfl⟩ ⟨Nat.zero_le _, Nat.zero_le _⟩ dL_isBest_202 (fun r202 u202 H locs hp202 hW => ?_)
      obtain ⟨hr202, hU202⟩ := hp202
      subst hr202
      refine lv_iconst (v := nI 1) hx hb dL_isBest_205 (by decide) ?_
      refine lv_icmp_lt (tgt := 213) hx hb dL_isBest_206 (by decide) (fun h9 => absurd h9 (fun z => by have a1 := (i_lt _ _).mp z; rw [nI_toInt (by decide)] at a1; omega)) (fun _ => ?_)
      refine lv_iconst (v := 1) hx hb dL_isBest_209 (by decide) ?_
      refine lv_goto (tgt := 214) hx hb dL_isBest_210 (by decide) ?_
      exact retI F hr hlk rfl hW ((yUndo ((yPlay Y (nI 1)).2)).2, u202) rfl rfl dL_isBest_214
  · obtain ⟨b1, b2, b3⟩ := bs_over hG0 h6
    refine lv_aload_n hx hb dL_isBest_9 rfl (lv_at hl 0 rfl) ?_
    refine lv_iconst (v := nI 2) hx hb dL_isBest_10 (by decide) ?_
    refine cGI0 (As := [.int (nI 2)]) (rest := []) F (XG T g Y u) (XG T g2 Z v ++ []) hW hl cs448 (g_movesLeft l D T g hY hU (nI 2)) 8 6 (xg_at _ _ _ _) rfl rfl rfl rfl (Nat.le_of_ble_eq_true rfl) ⟨Nat.le_of_ble_eq_true rfl, Nat.le_of_ble_eq_true rfl⟩ ⟨Nat.zero_le _, Nat.zero_le _⟩ dL_isBest_11 (fun r11 u11 H locs hp11 hW => ?_)
    obtain ⟨hr11, hU11⟩ := hp11
    have hr11 := (hr11.trans (b1)).symm
    subst hr11
    refine lv_if_ne (tgt := 50) hx hb dL_isBest_14 (by decide) (fun h9 => absurd rfl h9) (fun _ => ?_)
    refine lv_aload_n hx hb dL_isBest_17 rfl (lv_at hl 0 rfl) ?_
    refine lv_iconst (v := nI 3) hx hb dL_isBest_18 (by decide) ?_
    refine cGR0 (As := [.int (nI 3)]) (rest := []) F (XG T g Y u11) (XG T g2 Z v ++ []) hW hl cs215 (g_count l D T g hY hU11 (nI 3)) 8 6 (xg_at _ _ _ _) rfl rfl rfl rfl (Nat.le_of_ble_eq_true rfl) ⟨Nat.le_of_ble_eq_true rfl, Nat.le_of_ble_eq_true rfl⟩ ⟨Nat.zero_le _, Nat.zero_le _⟩ dL_isBest_19 (fun r19 hr19 => ?_)
    subst hr19
    refine lv_aload_n hx hb dL_isBest_22 rfl (lv_at hl 0 rfl) ?_
    refine lv_iconst (v := nI 4) hx hb dL_isBest_23 (by decide) ?_
    refine cGR0 (As := [.int (nI 4)]) (rest := [.int ((yCount Y (nI 3)).1)]) F (XG T g Y u11) (XG T g2 Z v ++ []) hW hl cs215 (g_count l D T g hY hU11 (nI 4)) 8 6 (xg_at _ _ _ _) rfl rfl rfl rfl (Nat.le_of_ble_eq_true rfl) ⟨Nat.le_of_ble_eq_true rfl, Nat.le_of_ble_eq_true rfl⟩ ⟨Nat.zero_le _, Nat.zero_le _⟩ dL_isBest_24 (fun r24 hr24 => ?_)
    subst hr24
    refine iaddE (z := ((yCount Y (nI 3)).1) + ((yCount Y (nI 4)).1)) hx hb dL_isBest_27 rfl ?_
    refine lv_aload_n hx hb dL_isBest_28 rfl (lv_at hl 0 rfl) ?_
    refine lv_iconst (v := nI 5) hx hb dL_isBest_29 (by decide) ?_
    refine cGR0 (As := [.int (nI 5)]) (rest := [.int (((yCount Y (nI 3)).1) + ((yCount Y (nI 4)).1))]) F (XG T g Y u11) (XG T g2 Z v ++ []) hW hl cs215 (g_count l D T g hY hU11 (nI 5)) 8 6 (xg_at _ _ _ _) rfl rfl rfl rfl (Nat.le_of_ble_eq_true rfl) ⟨Nat.le_of_ble_eq_true rfl, Nat.le_of_ble_eq_true rfl⟩ ⟨Nat.zero_le _, Nat.zero_le _⟩ dL_isBest_30 (fun r30 hr30 => ?_)
    subst hr30
    refine lv_icmp_ne (tgt := 50) hx hb dL_isBest_33 (by decide) (fun h9 => absurd b2 h9) (fun _ => ?_)
    refine lv_aload_n hx hb dL_isBest_36 rfl (lv_at hl 0 rfl) ?_
    refine lv_iconst (v := nI 2) hx hb dL_isBest_37 (by decide) ?_
    refine cGR0 (As := [.int (nI 2)]) (rest := []) F (XG T g Y u11) (XG T g2 Z v ++ []) hW hl cs215 (g_count l D T g hY hU11 (nI 2)) 8 6 (xg_at _ _ _ _) rfl rfl rfl rfl (Nat.le_of_ble_eq_true rfl) ⟨Nat.le_of_ble_eq_true rfl, Nat.le_of_ble_eq_true rfl⟩ ⟨Nat.zero_le _, Nat.zero_le _⟩ dL_isBest_38 (fun r38 hr38 => ?_)
    subst hr38
    refine lv_bipush (v := -6) hx hb dL_isBest_41 (by decide) ?_
    refine lv_icmp_eq (tgt := 50) hx hb dL_isBest_43 (by decide) (fun h9 => absurd h9 b3) (fun _ => ?_)
    refine lv_iconst (v := 1) hx hb dL_isBest_46 (by decide) ?_
    refine lv_goto (tgt := 51) hx hb dL_isBest_47 (by decide) ?_
    exact retI F hr hlk rfl hW (Y, u11) rfl rfl dL_isBest_51
