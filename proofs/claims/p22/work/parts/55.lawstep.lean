-- the law: a step of both games
set_option maxHeartbeats 4000000 in
set_option maxRecDepth 100000 in
theorem c_isStep (l : Launch) (D : va_G) (T : Nat → ClassId) {S : Int} (g g2 : GA) (x : Int32) {Y Z : YD} {u v : UX} (hG0 : GR S Y Z) (hU : UR Y u) (hV : UR Z v) : KIg (S := YD × YD × UX × UX) l D T yL_isStep cL_isStep 6 (some .boolean) 13 [.ref (g.1 0), .ref (g2.1 0), .int x] (XG T g Y u ++ (XG T g2 Z v ++ [])) (fun r q => r = 1 ∧ GR S q.1 q.2.1 ∧ UR q.1 q.2.2.1 ∧ UR q.2.1 q.2.2.2) (fun q => XG T g q.1 q.2.2.1 ++ (XG T g2 q.2.1 q.2.2.2 ++ [])) := by
  refine KIg.of (by decide +kernel) (Nat.le_of_ble_eq_true rfl) (fun p e s m below meth c A F hr hlk hG hW ls hl => ?_)
  have hx := F.1
  have hb := F.2.1
  have hl : lv_has ls 6 [(0, .ref (g.1 0)), (1, .ref (g2.1 0)), (2, .int x)] := hl
  have hY := hG0.1
  have hZ := hG0.2.1
  refine lv_iload_n hx hb dL_isStep_0 rfl (lv_at hl 2 rfl) ?_
  refine lv_iconst (v := nI 4) hx hb dL_isStep_1 (by decide) ?_
  refine ishrX hx hb dL_isStep_2 (fun z2 => ?_)
  refine lv_istore_n (lv' := [(3, .int z2), (0, .ref (g.1 0)), (1, .ref (g2.1 0)), (2, .int x)]) hx hb dL_isStep_3 rfl hl (by decide) rfl (fun ls hl => ?_)
  refine lv_iload_n hx hb dL_isStep_4 rfl (lv_at hl 3 rfl) ?_
  refine lv_bipush (v := nI 12) hx hb dL_isStep_5 (by decide) ?_
  refine cRS (As := [.int x, .int (nI 12)]) (rest := []) F hW hl cs246 (c_up l D T x (n := 12) (by decide) (by decide)) [] rfl rfl rfl rfl (Nat.le_of_ble_eq_true rfl) ⟨Nat.le_of_ble_eq_true rfl, Nat.le_of_ble_eq_true rfl⟩ ⟨Nat.zero_le _, Nat.zero_le _⟩ dL_isStep_7 (fun r7 hr7 => ?_)
  obtain ⟨j7, hj7, rfl⟩ := hr7
  have hj : j7 = 0 ∨ j7 = 1 ∨ j7 = 2 ∨ 3 ≤ j7 := by omega
  rcases hj with rfl | rfl | rfl | hj
  · refine lv_tableIn (off := 26) (tgt := 36) hx hb dL_isStep_10 (by decide) (by decide) (by decide) (by decide) ?_
    refine lv_iload_n hx hb dL_isStep_36 rfl (lv_at hl 0 rfl) ?_
    refine lv_iconst (v := nI 4) hx hb dL_isStep_37 (by decide) ?_
    refine cRS (As := [.int z2, .int (nI 4)]) (rest := []) F hW hl cs246 (c_up l D T z2 (n := 4) (by decide) (by decide)) [] rfl rfl rfl rfl (Nat.le_of_ble_eq_true rfl) ⟨Nat.le_of_ble_eq_true rfl, Nat.le_of_ble_eq_true rfl⟩ ⟨Nat.zero_le _, Nat.zero_le _⟩ dL_isStep_38 (fun r38 hr38 => ?_)
    obtain ⟨j38, hj38, rfl⟩ := hr38
    refine lv_istore (lv' := [(4, .int (nI j38)), (3, .int z2), (0, .ref (g.1 0)), (1, .ref (g2.1 0)), (2, .int x)]) hx hb dL_isStep_41 hl (by decide) rfl (fun ls hl => ?_)
    refine lv_iload hx hb dL_isStep_43 (lv_at hl 0 rfl) ?_
    refine lv_iconst (v := nI 2) hx hb dL_isStep_45 (by decide) ?_
    refine W.fork (X := Int32) 68 (fun vv => [.int vv]) (fun vv H2 locs2 ls2 => H2 = s.heap ∧ locs2 = [] ∧ lv_has ls2 6 [(0, .ref (g.1 0)), (1, .ref (g2.1 0)), (2, .int x), (3, .int z2), (4, .int (nI j38))]) (fun hJ => ?_) ?_
    · refine lv_icmp_ge (tgt := 61) hx hb dL_isStep_46 (by decide) (fun h46 => ?_) (fun h46 => ?_)
      · refine lv_iload_n hx hb dL_isStep_61 rfl (lv_at hl 1 rfl) ?_
        refine lv_iconst (v := nI 2) hx hb dL_isStep_62 (by decide) ?_
        refine ishrX hx hb dL_isStep_63 (fun z63 => ?_)
        refine lv_iconst (v := nI 4) hx hb dL_isStep_64 (by decide) ?_
        refine cRS (As := [.int z63, .int (nI 4)]) (rest := []) F hW hl cs246 (c_up l D T z63 (n := 4) (by decide) (by decide)) [] rfl rfl rfl rfl (Nat.le_of_ble_eq_true rfl) ⟨Nat.le_of_ble_eq_true rfl, Nat.le_of_ble_eq_true rfl⟩ ⟨Nat.zero_le _, Nat.zero_le _⟩ dL_isStep_65 (fun r65 hr65 => ?_)
        obtain ⟨j65, hj65, rfl⟩ := hr65
        exact hJ _ _ _ _ ⟨rfl, rfl, lv_sub hl [2, 3, 4, 1, 0] rfl⟩
      · refine lv_iconst (v := nI 1) hx hb dL_isStep_49 (by decide) ?_
        refine lv_iload_n hx hb dL_isStep_50 rfl (lv_at hl 1 rfl) ?_
        refine lv_iconst (v := nI 2) hx hb dL_isStep_51 (by decide) ?_
        refine ishrX hx hb dL_isStep_52 (fun z52 => ?_)
        refine lv_iconst (v := nI 5) hx hb dL_isStep_53 (by decide) ?_
        refine cRS (As := [.int z52, .int (nI 5)]) (rest := [.int (nI 1)]) F hW hl cs246 (c_up l D T z52 (n := 5) (by decide) (by decide)) [] rfl rfl rfl rfl (Nat.le_of_ble_eq_true rfl) ⟨Nat.le_of_ble_eq_true rfl, Nat.le_of_ble_eq_true rfl⟩ ⟨Nat.zero_le _, Nat.zero_le _⟩ dL_isStep_54 (fun r54 hr54 => ?_)
        obtain ⟨j54, hj54, rfl⟩ := hr54
        refine iaddE (z := nI (1 + j54)) hx hb dL_isStep_57 (nI_add _ _) ?_
        refine lv_goto (tgt := 68) hx hb dL_isStep_58 (by decide) ?_
        exact hJ _ _ _ _ ⟨rfl, rfl, lv_sub hl [2, 3, 4, 1, 0] rfl⟩
    · rintro vv H2 locs2 ls ⟨rfl, rfl, hl⟩
      have hs := gr_set hG0 (nI j38) vv
      refine lv_istore (lv' := [(5, .int vv), (0, .ref (g.1 0)), (1, .ref (g2.1 0)), (2, .int x), (3, .int z2), (4, .int (nI j38))]) hx hb dL_isStep_68 hl (by decide) rfl (fun ls hl => ?_)
      refine lv_aload_n hx hb dL_isStep_70 rfl (lv_at hl 1 rfl) ?_
      refine lv_iload hx hb dL_isStep_71 (lv_at hl 5 rfl) ?_
      refine lv_iload hx hb dL_isStep_73 (lv_at hl 0 rfl) ?_
      refine cGG0 (As := [.int (nI j38), .int vv]) (rest := []) F hG (XG T g Y u) (XG T g2 Z v ++ []) hW hl cs321 (g_set l D T g hY hU (nI j38) vv) 8 6 (xg_at _ _ _ _) rfl rfl rfl rfl (Nat.le_of_ble_eq_true rfl) ⟨Nat.le_of_ble_eq_true rfl, Nat.le_of_ble_eq_true rfl⟩ ⟨Nat.zero_le _, Nat.zero_le _⟩ dL_isStep_75 (fun r75 u75 H locs hp75 hW => ?_)
      obtain ⟨hr75, hU75⟩ := hp75
      subst hr75
      refine lv_aload_n hx hb dL_isStep_78 rfl (lv_at hl 2 rfl) ?_
      refine lv_iload hx hb dL_isStep_79 (lv_at hl 5 rfl) ?_
      refine lv_iload hx hb dL_isStep_81 (lv_at hl 0 rfl) ?_
      refine cGG (As := [.int (nI j38), .int vv]) (rest := [.int ((ySet Y (nI j38) vv).1)]) F hG (XG T g ((ySet Y (nI j38) vv).2) u75) (XG T g2 Z v) [] hW hl cs321 (g_set l D T g2 hZ hV (nI j38) vv) 8 6 (xg_at _ _ _ _) rfl rfl rfl rfl (Nat.le_of_ble_eq_true rfl) ⟨Nat.le_of_ble_eq_true rfl, Nat.le_of_ble_eq_true rfl⟩ ⟨Nat.zero_le _, Nat.zero_le _⟩ dL_isStep_83 (fun r83 u83 H locs hp83 hW => ?_)
      obtain ⟨hr83, hU83⟩ := hp83
      subst hr83
      refine lv_icmp_ne (tgt := 93) hx hb dL_isStep_86 (by decide) (fun h9 => absurd hs.1.symm h9) (fun _ => ?_)
      refine lv_iconst (v := 1) hx hb dL_isStep_89 (by decide) ?_
      refine lv_goto (tgt := 94) hx hb dL_isStep_90 (by decide) ?_
      exact retI F hr hlk rfl hW ((ySet Y (nI j38) vv).2, (ySet Z (nI j38) vv).2, u75, u83) ⟨rfl, hs.2, hU75, hU83⟩ rfl dL_isStep_94
  · refine lv_tableIn (off := 85) (tgt := 95) hx hb dL_isStep_10 (by decide) (by decide) (by decide) (by decide) ?_
    refine lv_iconst (v := nI 1) hx hb dL_isStep_95 (by decide) ?_
    refine lv_iload_n hx hb dL_isStep_96 rfl (lv_at hl 0 rfl) ?_
    refine lv_iconst (v := nI 2) hx hb dL_isStep_97 (by decide) ?_
    refine cRS (As := [.int z2, .int (nI 2)]) (rest := [.int (nI 1)]) F hW hl cs246 (c_up l D T z2 (n := 2) (by decide) (by decide)) [] rfl rfl rfl rfl (Nat.le_of_ble_eq_true rfl) ⟨Nat.le_of_ble_eq_true rfl, Nat.le_of_ble_eq_true rfl⟩ ⟨Nat.zero_le _, Nat.zero_le _⟩ dL_isStep_98 (fun r98 hr98 => ?_)
    obtain ⟨j98, hj98, rfl⟩ := hr98
    refine iaddE (z := nI (1 + j98)) hx hb dL_isStep_101 (nI_add _ _) ?_
    refine lv_istore (lv' := [(4, .int (nI (1 + j98))), (3, .int z2), (0, .ref (g.1 0)), (1, .ref (g2.1 0)), (2, .int x)]) hx hb dL_isStep_102 hl (by decide) rfl (fun ls hl => ?_)
    have hs := gr_play hG0 (d := 1 + j98) (by omega) (by omega)
    refine lv_aload_n hx hb dL_isStep_104 rfl (lv_at hl 3 rfl) ?_
    refine lv_iload hx hb dL_isStep_105 (lv_at hl 0 rfl) ?_
    refine cGI (As := [.int (nI (1 + j98))]) (rest := []) F (XG T g Y u) (XG T g2 Z v) [] hW hl cs329 (g_play l D T g2 hZ hV (nI (1 + j98))) 8 6 (xg_at _ _ _ _) rfl rfl rfl rfl (Nat.le_of_ble_eq_true rfl) ⟨Nat.le_of_ble_eq_true rfl, Nat.le_of_ble_eq_true rfl⟩ ⟨Nat.zero_le _, Nat.zero_le _⟩ dL_isStep_107 (fun r107 u107 H locs hp107 hW => ?_)
    obtain ⟨hr107, hU107⟩ := hp107
    subst hr107
    refine lv_aload_n hx hb dL_isStep_110 rfl (lv_at hl 2 rfl) ?_
    refine lv_iload hx hb dL_isStep_111 (lv_at hl 0 rfl) ?_
    refine cGI0 (As := [.int (nI (1 + j98))]) (rest := [.int ((yPlay Z (nI (1 + j98))).1)]) F (XG T g Y u) (XG T g2 ((yPlay Z (nI (1 + j98))).2) u107 ++ []) hW hl cs329 (g_play l D T g hY hU (nI (1 + j98))) 8 6 (xg_at _ _ _ _) rfl rfl rfl rfl (Nat.le_of_ble_eq_true rfl) ⟨Nat.le_of_ble_eq_true rfl, Nat.le_of_ble_eq_true rfl⟩ ⟨Nat.zero_le _, Nat.zero_le _⟩ dL_isStep_113 (fun r113 u113 H locs hp113 hW => ?_)
    obtain ⟨hr113, hU113⟩ := hp113
    subst hr113
    refine cRS (As := [.int ((yPlay Y (nI (1 + j98))).1)]) (rest := [.int ((yPlay Z (nI (1 + j98))).1)]) F hW hl cs389 (c_other l D T ((yPlay Y (nI (1 + j98))).1)) [] rfl rfl rfl rfl (Nat.le_of_ble_eq_true rfl) ⟨Nat.le_of_ble_eq_true rfl, Nat.le_of_ble_eq_true rfl⟩ ⟨Nat.zero_le _, Nat.zero_le _⟩ dL_isStep_116 (fun r116 hr116 => ?_)
    subst hr116
    refine lv_icmp_ne (tgt := 126) hx hb dL_isStep_119 (by decide) (fun h9 => absurd hs.1 h9) (fun _ => ?_)
    refine lv_iconst (v := 1) hx hb dL_isStep_122 (by decide) ?_
    refine lv_goto (tgt := 127) hx hb dL_isStep_123 (by decide) ?_
    exact retI F hr hlk rfl hW ((yPlay Y (nI (1 + j98))).2, (yPlay Z (nI (1 + j98))).2, u113, u107) ⟨rfl, hs.2, hU113, hU107⟩ rfl dL_isStep_127
  · refine lv_tableIn (off := 118) (tgt := 128) hx hb dL_isStep_10 (by decide) (by decide) (by decide) (by decide) ?_
    obtain ⟨e13, l13⟩ := al_13 hG0
    refine lv_aload_n hx hb dL_isStep_128 rfl (lv_at hl 1 rfl) ?_
    refine lv_bipush (v := nI 13) hx hb dL_isStep_129 (by decide) ?_
    refine cGR0 (As := [.int (nI 13)]) (rest := []) F (XG T g Y u) (XG T g2 Z v ++ []) hW hl cs215 (g_count l D T g hY hU (nI 13)) 8 6 (xg_at _ _ _ _) rfl rfl rfl rfl (Nat.le_of_ble_eq_true rfl) ⟨Nat.le_of_ble_eq_true rfl, Nat.le_of_ble_eq_true rfl⟩ ⟨Nat.zero_le _, Nat.zero_le _⟩ dL_isStep_131 (fun r131 hr131 => ?_)
    have hr131 := hr131.trans (e13)
    subst hr131
    refine lv_iconst (v := nI 2) hx hb dL_isStep_134 (by decide) ?_
    refine lv_icmp_lt (tgt := 149) hx hb dL_isStep_135 (by decide) (fun h135 => ?_) (fun h135 => ?_)
    · refine lv_iconst (v := 1) hx hb dL_isStep_149 (by decide) ?_
      refine lv_goto (tgt := 154) hx hb dL_isStep_150 (by decide) ?_
      exact retI F hr hlk rfl hW (Y, Z, u, v) ⟨rfl, hG0, hU, hV⟩ rfl dL_isStep_154
    · have h2 := n_nlt h135 (by omega) (by decide)
      have hs := gr_undo hG0 h2
      refine lv_aload_n hx hb dL_isStep_138 rfl (lv_at hl 1 rfl) ?_
      refine cGI0 (As := []) (rest := []) F (XG T g Y u) (XG T g2 Z v ++ []) hW hl cs392 (g_undo l D T g hY hU) 8 6 (xg_at _ _ _ _) rfl rfl rfl rfl (Nat.le_of_ble_eq_true rfl) ⟨Nat.le_of_ble_eq_true rfl, Nat.le_of_ble_eq_true rfl⟩ ⟨Nat.zero_le _, Nat.zero_le _⟩ dL_isStep_139 (fun r139 u139 H locs hp139 hW => ?_)
      obtain ⟨hr139, hU139⟩ := hp139
      subst hr139
      refine lv_aload_n hx hb dL_isStep_142 rfl (lv_at hl 2 rfl) ?_
      refine cGI (As := []) (rest := [.int ((yUndo Y).1)]) F (XG T g ((yUndo Y).2) u139) (XG T g2 Z v) [] hW hl cs392 (g_undo l D T g2 hZ hV) 8 6 (xg_at _ _ _ _) rfl rfl rfl rfl (Nat.le_of_ble_eq_true rfl) ⟨Nat.le_of_ble_eq_true rfl, Nat.le_of_ble_eq_true rfl⟩ ⟨Nat.zero_le _, Nat.zero_le _⟩ dL_isStep_143 (fun r143 u143 H locs hp143 hW => ?_)
      obtain ⟨hr143, hU143⟩ := hp143
      subst hr143
      refine lv_icmp_ne (tgt := 153) hx hb dL_isStep_146 (by decide) (fun h9 => absurd hs.1.symm h9) (fun _ => ?_)
      refine lv_iconst (v := 1) hx hb dL_isStep_149 (by decide) ?_
      refine lv_goto (tgt := 154) hx hb dL_isStep_150 (by decide) ?_
      exact retI F hr hlk rfl hW ((yUndo Y).2, (yUndo Z).2, u139, u143) ⟨rfl, hs.2, hU139, hU143⟩ rfl dL_isStep_154
  · refine lv_tableOut (tgt := 155) hx hb dL_isStep_10 (Or.inr (by rw [nI_toInt (by omega)]; omega)) (by decide) ?_
    obtain ⟨k, hk, e0, -⟩ := al_0 hG0
    refine lv_iload_n hx hb dL_isStep_155 rfl (lv_at hl 0 rfl) ?_
    refine lv_bipush (v := nI 6) hx hb dL_isStep_156 (by decide) ?_
    refine cRS (As := [.int z2, .int (nI 6)]) (rest := []) F hW hl cs246 (c_up l D T z2 (n := 6) (by decide) (by decide)) [] rfl rfl rfl rfl (Nat.le_of_ble_eq_true rfl) ⟨Nat.le_of_ble_eq_true rfl, Nat.le_of_ble_eq_true rfl⟩ ⟨Nat.zero_le _, Nat.zero_le _⟩ dL_isStep_158 (fun r158 hr158 => ?_)
    obtain ⟨j158, hj158, rfl⟩ := hr158
    refine lv_bipush (v := nI 6) hx hb dL_isStep_161 (by decide) ?_
    refine lv_aload_n hx hb dL_isStep_163 rfl (lv_at hl 1 rfl) ?_
    refine lv_iconst (v := nI 0) hx hb dL_isStep_164 (by decide) ?_
    refine cGR0 (As := [.int (nI 0)]) (rest := [.int (nI 6), .int (nI j158)]) F (XG T g Y u) (XG T g2 Z v ++ []) hW hl cs215 (g_count l D T g hY hU (nI 0)) 8 6 (xg_at _ _ _ _) rfl rfl rfl rfl (Nat.le_of_ble_eq_true rfl) ⟨Nat.le_of_ble_eq_true rfl, Nat.le_of_ble_eq_true rfl⟩ ⟨Nat.zero_le _, Nat.zero_le _⟩ dL_isStep_165 (fun r165 hr165 => ?_)
    have hr165 := hr165.trans (e0)
    subst hr165
    refine imulE (z := nI (6 * k)) hx hb dL_isStep_168 (pk_mul _ _) ?_
    refine iaddE (z := nI (j158 + (6 * k))) hx hb dL_isStep_169 (nI_add _ _) ?_
    refine lv_istore (lv' := [(4, .int (nI (j158 + (6 * k)))), (3, .int z2), (0, .ref (g.1 0)), (1, .ref (g2.1 0)), (2, .int x)]) hx hb dL_isStep_170 hl (by decide) rfl (fun ls hl => ?_)
    have hh : j158 + 6 * k < 12 := by omega
    have hs := gr_move hG0 hh
    refine lv_aload_n hx hb dL_isStep_172 rfl (lv_at hl 2 rfl) ?_
    refine lv_iload hx hb dL_isStep_173 (lv_at hl 0 rfl) ?_
    refine cGI0 (As := [.int (nI (j158 + (6 * k)))]) (rest := []) F (XG T g Y u) (XG T g2 Z v ++ []) hW hl cs400 (g_move l D T g hY hU (nI (j158 + (6 * k)))) 8 6 (xg_at _ _ _ _) rfl rfl rfl rfl (Nat.le_of_ble_eq_true rfl) ⟨Nat.le_of_ble_eq_true rfl, Nat.le_of_ble_eq_true rfl⟩ ⟨Nat.zero_le _, Nat.zero_le _⟩ dL_isStep_175 (fun r175 u175 H locs hp175 hW => ?_)
    obtain ⟨hr175, hU175⟩ := hp175
    subst hr175
    refine lv_aload_n hx hb dL_isStep_178 rfl (lv_at hl 3 rfl) ?_
    refine lv_iload hx hb dL_isStep_179 (lv_at hl 0 rfl) ?_
    refine cRS (As := [.int (nI (j158 + (6 * k)))]) (rest := [.ref (g2.1 0), .int ((yMove Y (nI (j158 + (6 * k)))).1)]) F hW hl cs389 (c_other l D T (nI (j158 + (6 * k)))) [] rfl rfl rfl rfl (Nat.le_of_ble_eq_true rfl) ⟨Nat.le_of_ble_eq_true rfl, Nat.le_of_ble_eq_true rfl⟩ ⟨Nat.zero_le _, Nat.zero_le _⟩ dL_isStep_181 (fun r181 hr181 => ?_)
    have hr181 := hr181.trans (otI_n hh)
    subst hr181
    refine cGI (As := [.int (nI (sg (j158 + 6 * k)))]) (rest := [.int ((yMove Y (nI (j158 + (6 * k)))).1)]) F (XG T g ((yMove Y (nI (j158 + (6 * k)))).2) u175) (XG T g2 Z v) [] hW hl cs400 (g_move l D T g2 hZ hV (nI (sg (j158 + 6 * k)))) 8 6 (xg_at _ _ _ _) rfl rfl rfl rfl (Nat.le_of_ble_eq_true rfl) ⟨Nat.le_of_ble_eq_true rfl, Nat.le_of_ble_eq_true rfl⟩ ⟨Nat.zero_le _, Nat.zero_le _⟩ dL_isStep_184 (fun r184 u184 H locs hp184 hW => ?_)
    obtain ⟨hr184, hU184⟩ := hp184
    subst hr184
    refine lv_icmp_ne (tgt := 194) hx hb dL_isStep_187 (by decide) (fun h9 => absurd hs.1.symm h9) (fun _ => ?_)
    refine lv_iconst (v := 1) hx hb dL_isStep_190 (by decide) ?_
    refine lv_goto (tgt := 195) hx hb dL_isStep_191 (by decide) ?_
    exact retI F hr hlk rfl hW ((yMove Y (nI (j158 + (6 * k)))).2, (yMove Z (nI (sg (j158 + 6 * k)))).2, u175, u184) ⟨rfl, hs.2, hU175, hU184⟩ rfl dL_isStep_195
