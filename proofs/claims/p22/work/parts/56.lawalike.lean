-- the law: the two games are alike
set_option maxHeartbeats 4000000 in
set_option maxRecDepth 100000 in
theorem c_areAlike (l : Launch) (D : va_G) (T : Nat → ClassId) {S : Int} (g g2 : GA) (x all : Int32) (hall : all.toInt = S) {Y Z : YD} {u v : UX} (hG0 : GR S Y Z) (hU : UR Y u) (hV : UR Z v) : KIg (S := UX × UX) l D T yL_areAlike cL_areAlike 9 (some .boolean) 13 [.ref (g.1 0), .ref (g2.1 0), .int x, .int all] (XG T g Y u ++ (XG T g2 Z v ++ [])) (fun r q => r = 1 ∧ UR Y q.1 ∧ UR Z q.2) (fun q => XG T g Y q.1 ++ (XG T g2 Z q.2 ++ [])) := by
  refine KIg.of (by decide +kernel) (Nat.le_of_ble_eq_true rfl) (fun p e s m below meth c A F hr hlk hG hW ls hl => ?_)
  have hx := F.1
  have hb := F.2.1
  have hl : lv_has ls 9 [(0, .ref (g.1 0)), (1, .ref (g2.1 0)), (2, .int x), (3, .int all)] := hl
  have hY := hG0.1
  have hZ := hG0.2.1
  obtain ⟨k, hk, e0, e0z⟩ := al_0 hG0
  refine lv_aload_n hx hb dL_areAlike_0 rfl (lv_at hl 0 rfl) ?_
  refine lv_iconst (v := nI 0) hx hb dL_areAlike_1 (by decide) ?_
  refine cGR0 (As := [.int (nI 0)]) (rest := []) F (XG T g Y u) (XG T g2 Z v ++ []) hW hl cs215 (g_count l D T g hY hU (nI 0)) 8 6 (xg_at _ _ _ _) rfl rfl rfl rfl (Nat.le_of_ble_eq_true rfl) ⟨Nat.le_of_ble_eq_true rfl, Nat.le_of_ble_eq_true rfl⟩ ⟨Nat.zero_le _, Nat.zero_le _⟩ dL_areAlike_2 (fun r2 hr2 => ?_)
  have hr2 := hr2.trans (e0)
  subst hr2
  refine lv_iconst (v := nI 1) hx hb dL_areAlike_5 (by decide) ?_
  refine lv_aload_n hx hb dL_areAlike_6 rfl (lv_at hl 1 rfl) ?_
  refine lv_iconst (v := nI 0) hx hb dL_areAlike_7 (by decide) ?_
  refine cGR (As := [.int (nI 0)]) (rest := [.int (nI 1), .int (nI k)]) F (XG T g Y u) (XG T g2 Z v) [] hW hl cs215 (g_count l D T g2 hZ hV (nI 0)) 8 6 (xg_at _ _ _ _) rfl rfl rfl rfl (Nat.le_of_ble_eq_true rfl) ⟨Nat.le_of_ble_eq_true rfl, Nat.le_of_ble_eq_true rfl⟩ ⟨Nat.zero_le _, Nat.zero_le _⟩ dL_areAlike_8 (fun r8 hr8 => ?_)
  have hr8 := hr8.trans (e0z)
  subst hr8
  refine isubE (z := nI (1 - (1 - k))) hx hb dL_areAlike_11 (pk_sub (by omega)) ?_
  refine lv_icmp_ne (tgt := 113) hx hb dL_areAlike_12 (by decide) (fun h9 => absurd (congrArg nI (show k = 1 - (1 - k) by omega)) h9) (fun _ => ?_)
  refine lv_aload_n hx hb dL_areAlike_15 rfl (lv_at hl 0 rfl) ?_
  refine lv_iconst (v := nI 1) hx hb dL_areAlike_16 (by decide) ?_
  refine cGR0 (As := [.int (nI 1)]) (rest := []) F (XG T g Y u) (XG T g2 Z v ++ []) hW hl cs215 (g_count l D T g hY hU (nI 1)) 8 6 (xg_at _ _ _ _) rfl rfl rfl rfl (Nat.le_of_ble_eq_true rfl) ⟨Nat.le_of_ble_eq_true rfl, Nat.le_of_ble_eq_true rfl⟩ ⟨Nat.zero_le _, Nat.zero_le _⟩ dL_areAlike_17 (fun r17 hr17 => ?_)
  subst hr17
  refine lv_aload_n hx hb dL_areAlike_20 rfl (lv_at hl 1 rfl) ?_
  refine lv_iconst (v := nI 1) hx hb dL_areAlike_21 (by decide) ?_
  refine cGR (As := [.int (nI 1)]) (rest := [.int ((yCount Y (nI 1)).1)]) F (XG T g Y u) (XG T g2 Z v) [] hW hl cs215 (g_count l D T g2 hZ hV (nI 1)) 8 6 (xg_at _ _ _ _) rfl rfl rfl rfl (Nat.le_of_ble_eq_true rfl) ⟨Nat.le_of_ble_eq_true rfl, Nat.le_of_ble_eq_true rfl⟩ ⟨Nat.zero_le _, Nat.zero_le _⟩ dL_areAlike_22 (fun r22 hr22 => ?_)
  subst hr22
  refine lv_icmp_ne (tgt := 113) hx hb dL_areAlike_25 (by decide) (fun h9 => absurd (al_1 hG0) h9) (fun _ => ?_)
  refine lv_aload_n hx hb dL_areAlike_28 rfl (lv_at hl 0 rfl) ?_
  refine lv_iconst (v := nI 2) hx hb dL_areAlike_29 (by decide) ?_
  refine cGR0 (As := [.int (nI 2)]) (rest := []) F (XG T g Y u) (XG T g2 Z v ++ []) hW hl cs215 (g_count l D T g hY hU (nI 2)) 8 6 (xg_at _ _ _ _) rfl rfl rfl rfl (Nat.le_of_ble_eq_true rfl) ⟨Nat.le_of_ble_eq_true rfl, Nat.le_of_ble_eq_true rfl⟩ ⟨Nat.zero_le _, Nat.zero_le _⟩ dL_areAlike_30 (fun r30 hr30 => ?_)
  subst hr30
  refine lv_aload_n hx hb dL_areAlike_33 rfl (lv_at hl 1 rfl) ?_
  refine lv_iconst (v := nI 2) hx hb dL_areAlike_34 (by decide) ?_
  refine cGR (As := [.int (nI 2)]) (rest := [.int ((yCount Y (nI 2)).1)]) F (XG T g Y u) (XG T g2 Z v) [] hW hl cs215 (g_count l D T g2 hZ hV (nI 2)) 8 6 (xg_at _ _ _ _) rfl rfl rfl rfl (Nat.le_of_ble_eq_true rfl) ⟨Nat.le_of_ble_eq_true rfl, Nat.le_of_ble_eq_true rfl⟩ ⟨Nat.zero_le _, Nat.zero_le _⟩ dL_areAlike_35 (fun r35 hr35 => ?_)
  subst hr35
  refine cRS (As := [.int ((yCount Z (nI 2)).1)]) (rest := [.int ((yCount Y (nI 2)).1)]) F hW hl cs415 (c_turned l D T ((yCount Z (nI 2)).1)) [] rfl rfl rfl rfl (Nat.le_of_ble_eq_true rfl) ⟨Nat.le_of_ble_eq_true rfl, Nat.le_of_ble_eq_true rfl⟩ ⟨Nat.zero_le _, Nat.zero_le _⟩ dL_areAlike_38 (fun r38 hr38 => ?_)
  subst hr38
  refine lv_icmp_ne (tgt := 113) hx hb dL_areAlike_41 (by decide) (fun h9 => absurd (al_2 hG0) h9) (fun _ => ?_)
  refine lv_aload_n hx hb dL_areAlike_44 rfl (lv_at hl 0 rfl) ?_
  refine lv_iconst (v := nI 3) hx hb dL_areAlike_45 (by decide) ?_
  refine cGR0 (As := [.int (nI 3)]) (rest := []) F (XG T g Y u) (XG T g2 Z v ++ []) hW hl cs215 (g_count l D T g hY hU (nI 3)) 8 6 (xg_at _ _ _ _) rfl rfl rfl rfl (Nat.le_of_ble_eq_true rfl) ⟨Nat.le_of_ble_eq_true rfl, Nat.le_of_ble_eq_true rfl⟩ ⟨Nat.zero_le _, Nat.zero_le _⟩ dL_areAlike_46 (fun r46 hr46 => ?_)
  subst hr46
  refine lv_aload_n hx hb dL_areAlike_49 rfl (lv_at hl 1 rfl) ?_
  refine lv_iconst (v := nI 4) hx hb dL_areAlike_50 (by decide) ?_
  refine cGR (As := [.int (nI 4)]) (rest := [.int ((yCount Y (nI 3)).1)]) F (XG T g Y u) (XG T g2 Z v) [] hW hl cs215 (g_count l D T g2 hZ hV (nI 4)) 8 6 (xg_at _ _ _ _) rfl rfl rfl rfl (Nat.le_of_ble_eq_true rfl) ⟨Nat.le_of_ble_eq_true rfl, Nat.le_of_ble_eq_true rfl⟩ ⟨Nat.zero_le _, Nat.zero_le _⟩ dL_areAlike_51 (fun r51 hr51 => ?_)
  subst hr51
  refine lv_icmp_ne (tgt := 113) hx hb dL_areAlike_54 (by decide) (fun h9 => absurd (al_3 hG0) h9) (fun _ => ?_)
  refine lv_aload_n hx hb dL_areAlike_57 rfl (lv_at hl 0 rfl) ?_
  refine lv_iconst (v := nI 4) hx hb dL_areAlike_58 (by decide) ?_
  refine cGR0 (As := [.int (nI 4)]) (rest := []) F (XG T g Y u) (XG T g2 Z v ++ []) hW hl cs215 (g_count l D T g hY hU (nI 4)) 8 6 (xg_at _ _ _ _) rfl rfl rfl rfl (Nat.le_of_ble_eq_true rfl) ⟨Nat.le_of_ble_eq_true rfl, Nat.le_of_ble_eq_true rfl⟩ ⟨Nat.zero_le _, Nat.zero_le _⟩ dL_areAlike_59 (fun r59 hr59 => ?_)
  subst hr59
  refine lv_aload_n hx hb dL_areAlike_62 rfl (lv_at hl 1 rfl) ?_
  refine lv_iconst (v := nI 3) hx hb dL_areAlike_63 (by decide) ?_
  refine cGR (As := [.int (nI 3)]) (rest := [.int ((yCount Y (nI 4)).1)]) F (XG T g Y u) (XG T g2 Z v) [] hW hl cs215 (g_count l D T g2 hZ hV (nI 3)) 8 6 (xg_at _ _ _ _) rfl rfl rfl rfl (Nat.le_of_ble_eq_true rfl) ⟨Nat.le_of_ble_eq_true rfl, Nat.le_of_ble_eq_true rfl⟩ ⟨Nat.zero_le _, Nat.zero_le _⟩ dL_areAlike_64 (fun r64 hr64 => ?_)
  subst hr64
  refine lv_icmp_ne (tgt := 113) hx hb dL_areAlike_67 (by decide) (fun h9 => absurd (al_4 hG0) h9) (fun _ => ?_)
  refine lv_aload_n hx hb dL_areAlike_70 rfl (lv_at hl 0 rfl) ?_
  refine lv_iconst (v := nI 5) hx hb dL_areAlike_71 (by decide) ?_
  refine cGR0 (As := [.int (nI 5)]) (rest := []) F (XG T g Y u) (XG T g2 Z v ++ []) hW hl cs215 (g_count l D T g hY hU (nI 5)) 8 6 (xg_at _ _ _ _) rfl rfl rfl rfl (Nat.le_of_ble_eq_true rfl) ⟨Nat.le_of_ble_eq_true rfl, Nat.le_of_ble_eq_true rfl⟩ ⟨Nat.zero_le _, Nat.zero_le _⟩ dL_areAlike_72 (fun r72 hr72 => ?_)
  subst hr72
  refine lv_iload_n hx hb dL_areAlike_75 rfl (lv_at hl 3 rfl) ?_
  refine lv_icmp_ne (tgt := 113) hx hb dL_areAlike_76 (by decide) (fun h9 => absurd (al_5 hG0 hall) h9) (fun _ => ?_)
  refine lv_aload_n hx hb dL_areAlike_79 rfl (lv_at hl 0 rfl) ?_
  refine lv_bipush (v := nI 6) hx hb dL_areAlike_80 (by decide) ?_
  refine cGR0 (As := [.int (nI 6)]) (rest := []) F (XG T g Y u) (XG T g2 Z v ++ []) hW hl cs215 (g_count l D T g hY hU (nI 6)) 8 6 (xg_at _ _ _ _) rfl rfl rfl rfl (Nat.le_of_ble_eq_true rfl) ⟨Nat.le_of_ble_eq_true rfl, Nat.le_of_ble_eq_true rfl⟩ ⟨Nat.zero_le _, Nat.zero_le _⟩ dL_areAlike_82 (fun r82 hr82 => ?_)
  subst hr82
  refine lv_aload_n hx hb dL_areAlike_85 rfl (lv_at hl 1 rfl) ?_
  refine lv_bipush (v := nI 6) hx hb dL_areAlike_86 (by decide) ?_
  refine cGR (As := [.int (nI 6)]) (rest := [.int ((yCount Y (nI 6)).1)]) F (XG T g Y u) (XG T g2 Z v) [] hW hl cs215 (g_count l D T g2 hZ hV (nI 6)) 8 6 (xg_at _ _ _ _) rfl rfl rfl rfl (Nat.le_of_ble_eq_true rfl) ⟨Nat.le_of_ble_eq_true rfl, Nat.le_of_ble_eq_true rfl⟩ ⟨Nat.zero_le _, Nat.zero_le _⟩ dL_areAlike_88 (fun r88 hr88 => ?_)
  subst hr88
  refine lv_icmp_ne (tgt := 113) hx hb dL_areAlike_91 (by decide) (fun h9 => absurd (al_6 hG0) h9) (fun _ => ?_)
  refine lv_aload_n hx hb dL_areAlike_94 rfl (lv_at hl 0 rfl) ?_
  refine lv_bipush (v := nI 11) hx hb dL_areAlike_95 (by decide) ?_
  refine cGR0 (As := [.int (nI 11)]) (rest := []) F (XG T g Y u) (XG T g2 Z v ++ []) hW hl cs215 (g_count l D T g hY hU (nI 11)) 8 6 (xg_at _ _ _ _) rfl rfl rfl rfl (Nat.le_of_ble_eq_true rfl) ⟨Nat.le_of_ble_eq_true rfl, Nat.le_of_ble_eq_true rfl⟩ ⟨Nat.zero_le _, Nat.zero_le _⟩ dL_areAlike_97 (fun r97 hr97 => ?_)
  subst hr97
  refine lv_aload_n hx hb dL_areAlike_100 rfl (lv_at hl 1 rfl) ?_
  refine lv_bipush (v := nI 11) hx hb dL_areAlike_101 (by decide) ?_
  refine cGR (As := [.int (nI 11)]) (rest := [.int ((yCount Y (nI 11)).1)]) F (XG T g Y u) (XG T g2 Z v) [] hW hl cs215 (g_count l D T g2 hZ hV (nI 11)) 8 6 (xg_at _ _ _ _) rfl rfl rfl rfl (Nat.le_of_ble_eq_true rfl) ⟨Nat.le_of_ble_eq_true rfl, Nat.le_of_ble_eq_true rfl⟩ ⟨Nat.zero_le _, Nat.zero_le _⟩ dL_areAlike_103 (fun r103 hr103 => ?_)
  subst hr103
  refine lv_icmp_ne (tgt := 113) hx hb dL_areAlike_106 (by decide) (fun h9 => absurd (al_11 hG0) h9) (fun _ => ?_)
  refine lv_iconst (v := 1) hx hb dL_areAlike_109 (by decide) ?_
  refine lv_goto (tgt := 114) hx hb dL_areAlike_110 (by decide) ?_
  refine lv_istore (lv' := [(4, .int 1), (0, .ref (g.1 0)), (1, .ref (g2.1 0)), (2, .int x), (3, .int all)]) hx hb dL_areAlike_114 hl (by decide) rfl (fun ls hl => ?_)
  refine lv_iconst (v := nI 0) hx hb dL_areAlike_116 (by decide) ?_
  refine lv_istore (lv' := [(5, .int (nI 0)), (4, .int 1), (0, .ref (g.1 0)), (1, .ref (g2.1 0)), (2, .int x), (3, .int all)]) hx hb dL_areAlike_117 hl (by decide) rfl (fun ls hl => ?_)
  refine W.loop (fun n9 H2 locs2 ls2 => ∃ i : Nat, i ≤ 12 ∧ n9 = 12 - i ∧ H2 = s.heap ∧ locs2 = [] ∧ lv_has ls2 9 [(0, .ref (g.1 0)), (1, .ref (g2.1 0)), (2, .int x), (3, .int all), (4, .int 1), (5, .int (nI i))]) ?_ 12 ⟨0, by decide, rfl, rfl, rfl, lv_sub hl [2, 3, 4, 5, 1, 0] rfl⟩
  rintro n9 H2 locs2 ls ⟨i, hi, rfl, rfl, rfl, hl⟩ ih
  refine lv_iload hx hb dL_areAlike_119 (lv_at hl 5 rfl) ?_
  refine lv_bipush (v := nI 12) hx hb dL_areAlike_121 (by decide) ?_
  refine lv_icmp_ge (tgt := 186) hx hb dL_areAlike_123 (by decide) (fun h123 => ?_) (fun h123 => ?_)
  · refine lv_iload_n hx hb dL_areAlike_186 rfl (lv_at hl 2 rfl) ?_
    refine lv_bipush (v := nI 6) hx hb dL_areAlike_187 (by decide) ?_
    refine cRS (As := [.int x, .int (nI 6)]) (rest := []) F hW hl cs246 (c_up l D T x (n := 6) (by decide) (by decide)) [] rfl rfl rfl rfl (Nat.le_of_ble_eq_true rfl) ⟨Nat.le_of_ble_eq_true rfl, Nat.le_of_ble_eq_true rfl⟩ ⟨Nat.zero_le _, Nat.zero_le _⟩ dL_areAlike_189 (fun r189 hr189 => ?_)
    obtain ⟨j189, hj189, rfl⟩ := hr189
    refine lv_bipush (v := nI 6) hx hb dL_areAlike_192 (by decide) ?_
    refine lv_aload_n hx hb dL_areAlike_194 rfl (lv_at hl 0 rfl) ?_
    refine lv_iconst (v := nI 0) hx hb dL_areAlike_195 (by decide) ?_
    refine cGR0 (As := [.int (nI 0)]) (rest := [.int (nI 6), .int (nI j189)]) F (XG T g Y u) (XG T g2 Z v ++ []) hW hl cs215 (g_count l D T g hY hU (nI 0)) 8 6 (xg_at _ _ _ _) rfl rfl rfl rfl (Nat.le_of_ble_eq_true rfl) ⟨Nat.le_of_ble_eq_true rfl, Nat.le_of_ble_eq_true rfl⟩ ⟨Nat.zero_le _, Nat.zero_le _⟩ dL_areAlike_196 (fun r196 hr196 => ?_)
    have hr196 := hr196.trans (e0)
    subst hr196
    refine imulE (z := nI (6 * k)) hx hb dL_areAlike_199 (pk_mul _ _) ?_
    refine iaddE (z := nI (j189 + (6 * k))) hx hb dL_areAlike_200 (nI_add _ _) ?_
    refine lv_istore (lv' := [(5, .int (nI (j189 + (6 * k)))), (0, .ref (g.1 0)), (1, .ref (g2.1 0)), (2, .int x), (3, .int all), (4, .int 1)]) hx hb dL_areAlike_201 hl (by decide) rfl (fun ls hl => ?_)
    have hh : j189 + 6 * k < 12 := by omega
    refine lv_iconst (v := nI 0) hx hb dL_areAlike_203 (by decide) ?_
    refine lv_istore (lv' := [(6, .int (nI 0)), (5, .int (nI (j189 + (6 * k)))), (0, .ref (g.1 0)), (1, .ref (g2.1 0)), (2, .int x), (3, .int all), (4, .int 1)]) hx hb dL_areAlike_204 hl (by decide) rfl (fun ls hl => ?_)
    refine W.loop (fun n9 H2 locs2 ls2 => ∃ (i : Nat) (u1 v1 : UX), i ≤ 7 ∧ n9 = 7 - i ∧ UR Y u1 ∧ UR Z v1 ∧ Wd D T A s (XG T g Y u1 ++ (XG T g2 Z v1 ++ [])) H2 locs2 ∧ lv_has ls2 9 [(0, .ref (g.1 0)), (1, .ref (g2.1 0)), (2, .int x), (3, .int all), (4, .int 1), (5, .int (nI (j189 + 6 * k))), (6, .int (nI i))]) ?_ 7 ⟨0, u, v, by decide, rfl, hU, hV, hW, lv_sub hl [2, 3, 4, 5, 6, 1, 0] rfl⟩
    rintro n9 H locs ls ⟨i, u1, v1, hi, rfl, hU1, hV1, hW, hl⟩ ih
    refine lv_iload hx hb dL_areAlike_206 (lv_at hl 6 rfl) ?_
    refine lv_bipush (v := nI 7) hx hb dL_areAlike_208 (by decide) ?_
    refine lv_icmp_ge (tgt := 328) hx hb dL_areAlike_210 (by decide) (fun h210 => ?_) (fun h210 => ?_)
    · refine lv_iload hx hb dL_areAlike_328 (lv_at hl 4 rfl) ?_
      refine lv_if_eq (tgt := 408) hx hb dL_areAlike_330 (by decide) (fun h9 => absurd h9 (by decide)) (fun _ => ?_)
      refine lv_aload_n hx hb dL_areAlike_333 rfl (lv_at hl 0 rfl) ?_
      refine lv_iconst (v := nI 0) hx hb dL_areAlike_334 (by decide) ?_
      refine cGR0 (As := [.int (nI 0)]) (rest := []) F (XG T g Y u1) (XG T g2 Z v1 ++ []) hW hl cs432 (g_last l D T g hY hU1 (nI 0)) 8 6 (xg_at _ _ _ _) rfl rfl rfl rfl (Nat.le_of_ble_eq_true rfl) ⟨Nat.le_of_ble_eq_true rfl, Nat.le_of_ble_eq_true rfl⟩ ⟨Nat.zero_le _, Nat.zero_le _⟩ dL_areAlike_335 (fun r335 hr335 => ?_)
      subst hr335
      refine lv_aload_n hx hb dL_areAlike_338 rfl (lv_at hl 1 rfl) ?_
      refine lv_iconst (v := nI 0) hx hb dL_areAlike_339 (by decide) ?_
      refine cGR (As := [.int (nI 0)]) (rest := [.int ((yLast Y (nI 0)).1)]) F (XG T g Y u1) (XG T g2 Z v1) [] hW hl cs432 (g_last l D T g2 hZ hV1 (nI 0)) 8 6 (xg_at _ _ _ _) rfl rfl rfl rfl (Nat.le_of_ble_eq_true rfl) ⟨Nat.le_of_ble_eq_true rfl, Nat.le_of_ble_eq_true rfl⟩ ⟨Nat.zero_le _, Nat.zero_le _⟩ dL_areAlike_340 (fun r340 hr340 => ?_)
      subst hr340
      refine cRS (As := [.int ((yLast Z (nI 0)).1)]) (rest := [.int ((yLast Y (nI 0)).1)]) F hW hl cs389 (c_other l D T ((yLast Z (nI 0)).1)) [] rfl rfl rfl rfl (Nat.le_of_ble_eq_true rfl) ⟨Nat.le_of_ble_eq_true rfl, Nat.le_of_ble_eq_true rfl⟩ ⟨Nat.zero_le _, Nat.zero_le _⟩ dL_areAlike_343 (fun r343 hr343 => ?_)
      subst hr343
      refine lv_icmp_ne (tgt := 408) hx hb dL_areAlike_346 (by decide) (fun h9 => absurd (las_o hG0 (Or.inl rfl)) h9) (fun _ => ?_)
      refine lv_aload_n hx hb dL_areAlike_349 rfl (lv_at hl 0 rfl) ?_
      refine lv_iconst (v := nI 1) hx hb dL_areAlike_350 (by decide) ?_
      refine cGR0 (As := [.int (nI 1)]) (rest := []) F (XG T g Y u1) (XG T g2 Z v1 ++ []) hW hl cs432 (g_last l D T g hY hU1 (nI 1)) 8 6 (xg_at _ _ _ _) rfl rfl rfl rfl (Nat.le_of_ble_eq_true rfl) ⟨Nat.le_of_ble_eq_true rfl, Nat.le_of_ble_eq_true rfl⟩ ⟨Nat.zero_le _, Nat.zero_le _⟩ dL_areAlike_351 (fun r351 hr351 => ?_)
      subst hr351
      refine lv_aload_n hx hb dL_areAlike_354 rfl (lv_at hl 1 rfl) ?_
      refine lv_iconst (v := nI 1) hx hb dL_areAlike_355 (by decide) ?_
      refine cGR (As := [.int (nI 1)]) (rest := [.int ((yLast Y (nI 1)).1)]) F (XG T g Y u1) (XG T g2 Z v1) [] hW hl cs432 (g_last l D T g2 hZ hV1 (nI 1)) 8 6 (xg_at _ _ _ _) rfl rfl rfl rfl (Nat.le_of_ble_eq_true rfl) ⟨Nat.le_of_ble_eq_true rfl, Nat.le_of_ble_eq_true rfl⟩ ⟨Nat.zero_le _, Nat.zero_le _⟩ dL_areAlike_356 (fun r356 hr356 => ?_)
      subst hr356
      refine lv_icmp_ne (tgt := 408) hx hb dL_areAlike_359 (by decide) (fun h9 => absurd (las_e hG0 (Or.inl rfl)) h9) (fun _ => ?_)
      refine lv_aload_n hx hb dL_areAlike_362 rfl (lv_at hl 0 rfl) ?_
      refine lv_iconst (v := nI 2) hx hb dL_areAlike_363 (by decide) ?_
      refine cGR0 (As := [.int (nI 2)]) (rest := []) F (XG T g Y u1) (XG T g2 Z v1 ++ []) hW hl cs432 (g_last l D T g hY hU1 (nI 2)) 8 6 (xg_at _ _ _ _) rfl rfl rfl rfl (Nat.le_of_ble_eq_true rfl) ⟨Nat.le_of_ble_eq_true rfl, Nat.le_of_ble_eq_true rfl⟩ ⟨Nat.zero_le _, Nat.zero_le _⟩ dL_areAlike_364 (fun r364 hr364 => ?_)
      subst hr364
      refine lv_aload_n hx hb dL_areAlike_367 rfl (lv_at hl 1 rfl) ?_
      refine lv_iconst (v := nI 2) hx hb dL_areAlike_368 (by decide) ?_
      refine cGR (As := [.int (nI 2)]) (rest := [.int ((yLast Y (nI 2)).1)]) F (XG T g Y u1) (XG T g2 Z v1) [] hW hl cs432 (g_last l D T g2 hZ hV1 (nI 2)) 8 6 (xg_at _ _ _ _) rfl rfl rfl rfl (Nat.le_of_ble_eq_true rfl) ⟨Nat.le_of_ble_eq_true rfl, Nat.le_of_ble_eq_true rfl⟩ ⟨Nat.zero_le _, Nat.zero_le _⟩ dL_areAlike_369 (fun r369 hr369 => ?_)
      subst hr369
      refine cRS (As := [.int ((yLast Z (nI 2)).1)]) (rest := [.int ((yLast Y (nI 2)).1)]) F hW hl cs389 (c_other l D T ((yLast Z (nI 2)).1)) [] rfl rfl rfl rfl (Nat.le_of_ble_eq_true rfl) ⟨Nat.le_of_ble_eq_true rfl, Nat.le_of_ble_eq_true rfl⟩ ⟨Nat.zero_le _, Nat.zero_le _⟩ dL_areAlike_372 (fun r372 hr372 => ?_)
      subst hr372
      refine lv_icmp_ne (tgt := 408) hx hb dL_areAlike_375 (by decide) (fun h9 => absurd (las_o hG0 (Or.inr rfl)) h9) (fun _ => ?_)
      refine lv_aload_n hx hb dL_areAlike_378 rfl (lv_at hl 0 rfl) ?_
      refine lv_iconst (v := nI 3) hx hb dL_areAlike_379 (by decide) ?_
      refine cGR0 (As := [.int (nI 3)]) (rest := []) F (XG T g Y u1) (XG T g2 Z v1 ++ []) hW hl cs432 (g_last l D T g hY hU1 (nI 3)) 8 6 (xg_at _ _ _ _) rfl rfl rfl rfl (Nat.le_of_ble_eq_true rfl) ⟨Nat.le_of_ble_eq_true rfl, Nat.le_of_ble_eq_true rfl⟩ ⟨Nat.zero_le _, Nat.zero_le _⟩ dL_areAlike_380 (fun r380 hr380 => ?_)
      subst hr380
      refine lv_aload_n hx hb dL_areAlike_383 rfl (lv_at hl 1 rfl) ?_
      refine lv_iconst (v := nI 3) hx hb dL_areAlike_384 (by decide) ?_
      refine cGR (As := [.int (nI 3)]) (rest := [.int ((yLast Y (nI 3)).1)]) F (XG T g Y u1) (XG T g2 Z v1) [] hW hl cs432 (g_last l D T g2 hZ hV1 (nI 3)) 8 6 (xg_at _ _ _ _) rfl rfl rfl rfl (Nat.le_of_ble_eq_true rfl) ⟨Nat.le_of_ble_eq_true rfl, Nat.le_of_ble_eq_true rfl⟩ ⟨Nat.zero_le _, Nat.zero_le _⟩ dL_areAlike_385 (fun r385 hr385 => ?_)
      subst hr385
      refine lv_icmp_ne (tgt := 408) hx hb dL_areAlike_388 (by decide) (fun h9 => absurd (las_e hG0 (Or.inr (Or.inl rfl))) h9) (fun _ => ?_)
      refine lv_aload_n hx hb dL_areAlike_391 rfl (lv_at hl 0 rfl) ?_
      refine lv_iconst (v := nI 4) hx hb dL_areAlike_392 (by decide) ?_
      refine cGR0 (As := [.int (nI 4)]) (rest := []) F (XG T g Y u1) (XG T g2 Z v1 ++ []) hW hl cs432 (g_last l D T g hY hU1 (nI 4)) 8 6 (xg_at _ _ _ _) rfl rfl rfl rfl (Nat.le_of_ble_eq_true rfl) ⟨Nat.le_of_ble_eq_true rfl, Nat.le_of_ble_eq_true rfl⟩ ⟨Nat.zero_le _, Nat.zero_le _⟩ dL_areAlike_393 (fun r393 hr393 => ?_)
      subst hr393
      refine lv_aload_n hx hb dL_areAlike_396 rfl (lv_at hl 1 rfl) ?_
      refine lv_iconst (v := nI 4) hx hb dL_areAlike_397 (by decide) ?_
      refine cGR (As := [.int (nI 4)]) (rest := [.int ((yLast Y (nI 4)).1)]) F (XG T g Y u1) (XG T g2 Z v1) [] hW hl cs432 (g_last l D T g2 hZ hV1 (nI 4)) 8 6 (xg_at _ _ _ _) rfl rfl rfl rfl (Nat.le_of_ble_eq_true rfl) ⟨Nat.le_of_ble_eq_true rfl, Nat.le_of_ble_eq_true rfl⟩ ⟨Nat.zero_le _, Nat.zero_le _⟩ dL_areAlike_398 (fun r398 hr398 => ?_)
      subst hr398
      refine lv_icmp_ne (tgt := 408) hx hb dL_areAlike_401 (by decide) (fun h9 => absurd (las_e hG0 (Or.inr (Or.inr rfl))) h9) (fun _ => ?_)
      refine lv_iconst (v := 1) hx hb dL_areAlike_404 (by decide) ?_
      refine lv_goto (tgt := 409) hx hb dL_areAlike_405 (by decide) ?_
      refine lv_istore (lv' := [(4, .int 1), (0, .ref (g.1 0)), (1, .ref (g2.1 0)), (2, .int x), (3, .int all), (5, .int (nI (j189 + 6 * k))), (6, .int (nI i))]) hx hb dL_areAlike_409 hl (by decide) rfl (fun ls hl => ?_)
      refine lv_iconst (v := nI 1) hx hb dL_areAlike_411 (by decide) ?_
      refine lv_iload_n hx hb dL_areAlike_412 rfl (lv_at hl 3 rfl) ?_
      refine lv_iconst (v := nI 4) hx hb dL_areAlike_413 (by decide) ?_
      refine ishrX hx hb dL_areAlike_414 (fun z414 => ?_)
      refine lv_iconst (v := nI 2) hx hb dL_areAlike_415 (by decide) ?_
      refine cRS (As := [.int z414, .int (nI 2)]) (rest := [.int (nI 1)]) F hW hl cs246 (c_up l D T z414 (n := 2) (by decide) (by decide)) [] rfl rfl rfl rfl (Nat.le_of_ble_eq_true rfl) ⟨Nat.le_of_ble_eq_true rfl, Nat.le_of_ble_eq_true rfl⟩ ⟨Nat.zero_le _, Nat.zero_le _⟩ dL_areAlike_416 (fun r416 hr416 => ?_)
      obtain ⟨j416, hj416, rfl⟩ := hr416
      refine iaddE (z := nI (1 + j416)) hx hb dL_areAlike_419 (nI_add _ _) ?_
      refine lv_istore (lv' := [(6, .int (nI (1 + j416))), (4, .int 1), (0, .ref (g.1 0)), (1, .ref (g2.1 0)), (2, .int x), (3, .int all), (5, .int (nI (j189 + 6 * k)))]) hx hb dL_areAlike_420 hl (by decide) rfl (fun ls hl => ?_)
      refine lv_iload hx hb dL_areAlike_422 (lv_at hl 1 rfl) ?_
      refine lv_if_eq (tgt := 495) hx hb dL_areAlike_424 (by decide) (fun h9 => absurd h9 (by decide)) (fun _ => ?_)
      have hd1 : 1 ≤ 1 + j416 := by omega
      have hd2 : 1 + j416 ≤ 4 := by omega
      refine lv_aload_n hx hb dL_areAlike_427 rfl (lv_at hl 2 rfl) ?_
      refine lv_iload hx hb dL_areAlike_428 (lv_at hl 0 rfl) ?_
      refine cGG0 (As := [.int (nI (1 + j416))]) (rest := []) F hG (XG T g Y u1) (XG T g2 Z v1 ++ []) hW hl cs436 (g_worth l D T g hY hU1 (nI (1 + j416))) 8 6 (xg_at _ _ _ _) rfl rfl rfl rfl (Nat.le_of_ble_eq_true rfl) ⟨Nat.le_of_ble_eq_true rfl, Nat.le_of_ble_eq_true rfl⟩ ⟨Nat.zero_le _, Nat.zero_le _⟩ dL_areAlike_430 (fun r430 u430 H locs hp430 hW => ?_)
      obtain ⟨hr430, hU430⟩ := hp430
      subst hr430
      refine lv_aload_n hx hb dL_areAlike_433 rfl (lv_at hl 3 rfl) ?_
      refine lv_iload hx hb dL_areAlike_434 (lv_at hl 0 rfl) ?_
      refine cGG (As := [.int (nI (1 + j416))]) (rest := [.int ((yWorth Y (nI (1 + j416))).1)]) F hG (XG T g Y u430) (XG T g2 Z v1) [] hW hl cs436 (g_worth l D T g2 hZ hV1 (nI (1 + j416))) 8 6 (xg_at _ _ _ _) rfl rfl rfl rfl (Nat.le_of_ble_eq_true rfl) ⟨Nat.le_of_ble_eq_true rfl, Nat.le_of_ble_eq_true rfl⟩ ⟨Nat.zero_le _, Nat.zero_le _⟩ dL_areAlike_436 (fun r436 u436 H locs hp436 hW => ?_)
      obtain ⟨hr436, hU436⟩ := hp436
      subst hr436
      refine lv_icmp_ne (tgt := 495) hx hb dL_areAlike_439 (by decide) (fun h9 => absurd (wor_m hG0 hd2) h9) (fun _ => ?_)
      refine lv_aload_n hx hb dL_areAlike_442 rfl (lv_at hl 2 rfl) ?_
      refine lv_iload hx hb dL_areAlike_443 (lv_at hl 0 rfl) ?_
      refine cGI0 (As := [.int (nI (1 + j416))]) (rest := []) F (XG T g Y u430) (XG T g2 Z u436 ++ []) hW hl cs441 (g_best l D T g hY hU430 (nI (1 + j416))) 8 6 (xg_at _ _ _ _) rfl rfl rfl rfl (Nat.le_of_ble_eq_true rfl) ⟨Nat.le_of_ble_eq_true rfl, Nat.le_of_ble_eq_true rfl⟩ ⟨Nat.zero_le _, Nat.zero_le _⟩ dL_areAlike_445 (fun r445 u445 H locs hp445 hW => ?_)
      obtain ⟨hr445, hU445⟩ := hp445
      subst hr445
      refine lv_aload_n hx hb dL_areAlike_448 rfl (lv_at hl 3 rfl) ?_
      refine lv_iload hx hb dL_areAlike_449 (lv_at hl 0 rfl) ?_
      refine cGI (As := [.int (nI (1 + j416))]) (rest := [.int ((yBest Y (nI (1 + j416))).1)]) F (XG T g Y u445) (XG T g2 Z u436) [] hW hl cs441 (g_best l D T g2 hZ hU436 (nI (1 + j416))) 8 6 (xg_at _ _ _ _) rfl rfl rfl rfl (Nat.le_of_ble_eq_true rfl) ⟨Nat.le_of_ble_eq_true rfl, Nat.le_of_ble_eq_true rfl⟩ ⟨Nat.zero_le _, Nat.zero_le _⟩ dL_areAlike_451 (fun r451 u451 H locs hp451 hW => ?_)
      obtain ⟨hr451, hU451⟩ := hp451
      subst hr451
      refine cRS (As := [.int ((yBest Z (nI (1 + j416))).1)]) (rest := [.int ((yBest Y (nI (1 + j416))).1)]) F hW hl cs389 (c_other l D T ((yBest Z (nI (1 + j416))).1)) [] rfl rfl rfl rfl (Nat.le_of_ble_eq_true rfl) ⟨Nat.le_of_ble_eq_true rfl, Nat.le_of_ble_eq_true rfl⟩ ⟨Nat.zero_le _, Nat.zero_le _⟩ dL_areAlike_454 (fun r454 hr454 => ?_)
      subst hr454
      refine lv_icmp_ne (tgt := 495) hx hb dL_areAlike_457 (by decide) (fun h9 => absurd (bes_m hG0 hd1 hd2) h9) (fun _ => ?_)
      refine lv_aload_n hx hb dL_areAlike_460 rfl (lv_at hl 2 rfl) ?_
      refine lv_iload hx hb dL_areAlike_461 (lv_at hl 0 rfl) ?_
      refine cGI0 (As := [.int (nI (1 + j416))]) (rest := []) F (XG T g Y u445) (XG T g2 Z u451 ++ []) hW hl cs441 (g_best l D T g hY hU445 (nI (1 + j416))) 8 6 (xg_at _ _ _ _) rfl rfl rfl rfl (Nat.le_of_ble_eq_true rfl) ⟨Nat.le_of_ble_eq_true rfl, Nat.le_of_ble_eq_true rfl⟩ ⟨Nat.zero_le _, Nat.zero_le _⟩ dL_areAlike_463 (fun r463 u463 H locs hp463 hW => ?_)
      obtain ⟨hr463, hU463⟩ := hp463
      subst hr463
      rcases bes_s hG0 hd1 hd2 with ⟨s1, s2⟩ | ⟨s1, s2⟩
      · refine lv_if_ge (tgt := 473) hx hb dL_areAlike_466 (by decide) (fun h9 => absurd h9 (fun z => by have a1 := (i_le _ _).mp z; have a2 := (i_lt _ _).mp s1; omega)) (fun _ => ?_)
        refine lv_iconst (v := 1) hx hb dL_areAlike_469 (by decide) ?_
        refine lv_goto (tgt := 474) hx hb dL_areAlike_470 (by decide) ?_
        refine lv_aload_n hx hb dL_areAlike_474 rfl (lv_at hl 2 rfl) ?_
        refine lv_iconst (v := nI 1) hx hb dL_areAlike_475 (by decide) ?_
        refine cGR0 (As := [.int (nI 1)]) (rest := [.int 1]) F (XG T g Y u463) (XG T g2 Z u451 ++ []) hW hl cs215 (g_count l D T g hY hU463 (nI 1)) 8 6 (xg_at _ _ _ _) rfl rfl rfl rfl (Nat.le_of_ble_eq_true rfl) ⟨Nat.le_of_ble_eq_true rfl, Nat.le_of_ble_eq_true rfl⟩ ⟨Nat.zero_le _, Nat.zero_le _⟩ dL_areAlike_476 (fun r476 hr476 => ?_)
        subst hr476
        refine lv_iconst (v := nI 1) hx hb dL_areAlike_479 (by decide) ?_
        refine lv_icmp_ne (tgt := 487) hx hb dL_areAlike_480 (by decide) (fun h9 => absurd s2 h9) (fun _ => ?_)
        refine lv_iconst (v := 1) hx hb dL_areAlike_483 (by decide) ?_
        refine lv_goto (tgt := 488) hx hb dL_areAlike_484 (by decide) ?_
        refine lv_icmp_ne (tgt := 495) hx hb dL_areAlike_488 (by decide) (fun h9 => absurd rfl h9) (fun _ => ?_)
        refine lv_iconst (v := 1) hx hb dL_areAlike_491 (by decide) ?_
        refine lv_goto (tgt := 496) hx hb dL_areAlike_492 (by decide) ?_
        exact retI F hr hlk rfl hW (u463, u451) ⟨rfl, hU463, hU451⟩ rfl dL_areAlike_496
      · refine lv_if_ge (tgt := 473) hx hb dL_areAlike_466 (by decide) (fun _ => ?_) (fun h9 => absurd (by rw [i_le]; have a2 : ¬ (yBest Y (nI (1 + j416))).1.toInt < (0 : Int32).toInt := fun z => s1 ((i_lt _ _).mpr z); omega) h9)
        refine lv_iconst (v := 0) hx hb dL_areAlike_473 (by decide) ?_
        refine lv_aload_n hx hb dL_areAlike_474 rfl (lv_at hl 2 rfl) ?_
        refine lv_iconst (v := nI 1) hx hb dL_areAlike_475 (by decide) ?_
        refine cGR0 (As := [.int (nI 1)]) (rest := [.int 0]) F (XG T g Y u463) (XG T g2 Z u451 ++ []) hW hl cs215 (g_count l D T g hY hU463 (nI 1)) 8 6 (xg_at _ _ _ _) rfl rfl rfl rfl (Nat.le_of_ble_eq_true rfl) ⟨Nat.le_of_ble_eq_true rfl, Nat.le_of_ble_eq_true rfl⟩ ⟨Nat.zero_le _, Nat.zero_le _⟩ dL_areAlike_476 (fun r476 hr476 => ?_)
        subst hr476
        refine lv_iconst (v := nI 1) hx hb dL_areAlike_479 (by decide) ?_
        refine lv_icmp_ne (tgt := 487) hx hb dL_areAlike_480 (by decide) (fun _ => ?_) (fun h9 => absurd h9 s2)
        refine lv_iconst (v := 0) hx hb dL_areAlike_487 (by decide) ?_
        refine lv_icmp_ne (tgt := 495) hx hb dL_areAlike_488 (by decide) (fun h9 => absurd rfl h9) (fun _ => ?_)
        refine lv_iconst (v := 1) hx hb dL_areAlike_491 (by decide) ?_
        refine lv_goto (tgt := 496) hx hb dL_areAlike_492 (by decide) ?_
        exact retI F hr hlk rfl hW (u463, u451) ⟨rfl, hU463, hU451⟩ rfl dL_areAlike_496
    · have hi2 : i < 7 := by have := n_nle h210 (by omega) (by omega); omega
      have hif := ifm_m hG0 hh hi2
      refine lv_iload hx hb dL_areAlike_213 (lv_at hl 4 rfl) ?_
      refine lv_if_eq (tgt := 328) hx hb dL_areAlike_215 (by decide) (fun h9 => absurd h9 (by decide)) (fun _ => ?_)
      refine lv_aload_n hx hb dL_areAlike_218 rfl (lv_at hl 0 rfl) ?_
      refine lv_iload hx hb dL_areAlike_219 (lv_at hl 5 rfl) ?_
      refine lv_iload hx hb dL_areAlike_221 (lv_at hl 6 rfl) ?_
      refine cGI0 (As := [.int (nI (j189 + 6 * k)), .int (nI i)]) (rest := []) F (XG T g Y u1) (XG T g2 Z v1 ++ []) hW hl cs423 (g_ifMove l D T g hY hU1 (nI (j189 + 6 * k)) (nI i)) 8 6 (xg_at _ _ _ _) rfl rfl rfl rfl (Nat.le_of_ble_eq_true rfl) ⟨Nat.le_of_ble_eq_true rfl, Nat.le_of_ble_eq_true rfl⟩ ⟨Nat.zero_le _, Nat.zero_le _⟩ dL_areAlike_223 (fun r223 u223 H locs hp223 hW => ?_)
      obtain ⟨hr223, hU223⟩ := hp223
      subst hr223
      refine lv_istore (lv' := [(7, .int ((yIfMove Y (nI (j189 + 6 * k)) (nI i)).1)), (0, .ref (g.1 0)), (1, .ref (g2.1 0)), (2, .int x), (3, .int all), (4, .int 1), (5, .int (nI (j189 + 6 * k))), (6, .int (nI i))]) hx hb dL_areAlike_226 hl (by decide) rfl (fun ls hl => ?_)
      refine lv_aload_n hx hb dL_areAlike_228 rfl (lv_at hl 2 rfl) ?_
      refine lv_iload hx hb dL_areAlike_229 (lv_at hl 6 rfl) ?_
      refine cRS (As := [.int (nI (j189 + 6 * k))]) (rest := [.ref (g2.1 0)]) F hW hl cs389 (c_other l D T (nI (j189 + 6 * k))) [] rfl rfl rfl rfl (Nat.le_of_ble_eq_true rfl) ⟨Nat.le_of_ble_eq_true rfl, Nat.le_of_ble_eq_true rfl⟩ ⟨Nat.zero_le _, Nat.zero_le _⟩ dL_areAlike_231 (fun r231 hr231 => ?_)
      have hr231 := hr231.trans (otI_n hh)
      subst hr231
      refine lv_iload hx hb dL_areAlike_234 (lv_at hl 7 rfl) ?_
      refine cGI (As := [.int (nI (sg (j189 + 6 * k))), .int (nI i)]) (rest := []) F (XG T g Y u223) (XG T g2 Z v1) [] hW hl cs423 (g_ifMove l D T g2 hZ hV1 (nI (sg (j189 + 6 * k))) (nI i)) 8 6 (xg_at _ _ _ _) rfl rfl rfl rfl (Nat.le_of_ble_eq_true rfl) ⟨Nat.le_of_ble_eq_true rfl, Nat.le_of_ble_eq_true rfl⟩ ⟨Nat.zero_le _, Nat.zero_le _⟩ dL_areAlike_236 (fun r236 u236 H locs hp236 hW => ?_)
      obtain ⟨hr236, hU236⟩ := hp236
      subst hr236
      refine lv_istore (lv' := [(8, .int ((yIfMove Z (nI (sg (j189 + 6 * k))) (nI i)).1)), (7, .int ((yIfMove Y (nI (j189 + 6 * k)) (nI i)).1)), (0, .ref (g.1 0)), (1, .ref (g2.1 0)), (2, .int x), (3, .int all), (4, .int 1), (5, .int (nI (j189 + 6 * k))), (6, .int (nI i))]) hx hb dL_areAlike_239 hl (by decide) rfl (fun ls hl => ?_)
      generalize (yIfMove Y (nI (j189 + 6 * k)) (nI i)).1 = rv at hif hl
      generalize (yIfMove Z (nI (sg (j189 + 6 * k))) (nI i)).1 = tv at hif hl
      refine W.fork (X := Unit) 320 (fun _ => [.int 1]) (fun _ H2 locs2 ls2 => H2 = H ∧ locs2 = locs ∧ lv_has ls2 9 [(0, .ref (g.1 0)), (1, .ref (g2.1 0)), (2, .int x), (3, .int all), (4, .int 1), (5, .int (nI (j189 + 6 * k))), (6, .int (nI i))]) (fun hJ => ?_) ?_
      · rcases hif with ⟨i1, i2⟩ | ⟨i1, i2⟩
        · refine lv_iload hx hb dL_areAlike_241 (lv_at hl 1 rfl) ?_
          refine lv_if_ge (tgt := 261) hx hb dL_areAlike_243 (by decide) (fun h9 => absurd h9 (fun z => by have a1 := (i_le _ _).mp z; have a2 := (i_lt _ _).mp i1; omega)) (fun _ => ?_)
          refine lv_iload hx hb dL_areAlike_246 (lv_at hl 1 rfl) ?_
          refine lv_iload hx hb dL_areAlike_248 (lv_at hl 0 rfl) ?_
          refine lv_icmp_ne (tgt := 257) hx hb dL_areAlike_250 (by decide) (fun h9 => absurd i2 h9) (fun _ => ?_)
          refine lv_iconst (v := 1) hx hb dL_areAlike_253 (by decide) ?_
          refine lv_goto (tgt := 320) hx hb dL_areAlike_254 (by decide) ?_
          exact hJ () _ _ _ ⟨rfl, rfl, lv_sub hl [2, 3, 4, 5, 6, 7, 8] rfl⟩
        · refine lv_iload hx hb dL_areAlike_241 (lv_at hl 1 rfl) ?_
          refine lv_if_ge (tgt := 261) hx hb dL_areAlike_243 (by decide) (fun _ => ?_) (fun h9 => absurd (by rw [i_le]; have a2 : ¬ rv.toInt < (0 : Int32).toInt := fun z => i1 ((i_lt _ _).mpr z); omega) h9)
          rcases i2 with ⟨rfl, i3⟩ | ⟨rfl, i3⟩ | ⟨n1, n5, i3⟩
          · refine lv_iload hx hb dL_areAlike_261 (lv_at hl 8 rfl) ?_
            refine lv_iconst (v := nI 1) hx hb dL_areAlike_263 (by decide) ?_
            refine lv_icmp_ne (tgt := 285) hx hb dL_areAlike_264 (by decide) (fun h9 => absurd rfl h9) (fun _ => ?_)
            refine lv_iload hx hb dL_areAlike_267 (lv_at hl 1 rfl) ?_
            refine cRS (As := [.int rv]) (rest := []) F hW hl cs389 (c_other l D T rv) [] rfl rfl rfl rfl (Nat.le_of_ble_eq_true rfl) ⟨Nat.le_of_ble_eq_true rfl, Nat.le_of_ble_eq_true rfl⟩ ⟨Nat.zero_le _, Nat.zero_le _⟩ dL_areAlike_269 (fun r269 hr269 => ?_)
            subst hr269
            refine lv_iload hx hb dL_areAlike_272 (lv_at hl 0 rfl) ?_
            refine lv_icmp_ne (tgt := 281) hx hb dL_areAlike_274 (by decide) (fun h9 => absurd i3 h9) (fun _ => ?_)
            refine lv_iconst (v := 1) hx hb dL_areAlike_277 (by decide) ?_
            refine lv_goto (tgt := 320) hx hb dL_areAlike_278 (by decide) ?_
            exact hJ () _ _ _ ⟨rfl, rfl, lv_sub hl [2, 3, 4, 5, 6, 7, 8] rfl⟩
          · refine lv_iload hx hb dL_areAlike_261 (lv_at hl 8 rfl) ?_
            refine lv_iconst (v := nI 1) hx hb dL_areAlike_263 (by decide) ?_
            refine lv_icmp_ne (tgt := 285) hx hb dL_areAlike_264 (by decide) (fun _ => ?_) (fun h9 => absurd h9 (by decide))
            refine lv_iload hx hb dL_areAlike_285 (lv_at hl 8 rfl) ?_
            refine lv_iconst (v := nI 5) hx hb dL_areAlike_287 (by decide) ?_
            refine lv_icmp_ne (tgt := 308) hx hb dL_areAlike_288 (by decide) (fun h9 => absurd rfl h9) (fun _ => ?_)
            refine lv_iconst (v := nI 1) hx hb dL_areAlike_291 (by decide) ?_
            refine lv_iload hx hb dL_areAlike_292 (lv_at hl 1 rfl) ?_
            refine isubE (z := (nI 1) - rv) hx hb dL_areAlike_294 rfl ?_
            refine lv_iload hx hb dL_areAlike_295 (lv_at hl 0 rfl) ?_
            refine lv_icmp_ne (tgt := 304) hx hb dL_areAlike_297 (by decide) (fun h9 => absurd i3 h9) (fun _ => ?_)
            refine lv_iconst (v := 1) hx hb dL_areAlike_300 (by decide) ?_
            refine lv_goto (tgt := 320) hx hb dL_areAlike_301 (by decide) ?_
            exact hJ () _ _ _ ⟨rfl, rfl, lv_sub hl [2, 3, 4, 5, 6, 7, 8] rfl⟩
          · refine lv_iload hx hb dL_areAlike_261 (lv_at hl 8 rfl) ?_
            refine lv_iconst (v := nI 1) hx hb dL_areAlike_263 (by decide) ?_
            refine lv_icmp_ne (tgt := 285) hx hb dL_areAlike_264 (by decide) (fun _ => ?_) (fun h9 => absurd h9 (fun z => n1 (n_eq z (by omega) (by decide))))
            refine lv_iload hx hb dL_areAlike_285 (lv_at hl 8 rfl) ?_
            refine lv_iconst (v := nI 5) hx hb dL_areAlike_287 (by decide) ?_
            refine lv_icmp_ne (tgt := 308) hx hb dL_areAlike_288 (by decide) (fun _ => ?_) (fun h9 => absurd h9 (fun z => n5 (n_eq z (by omega) (by decide))))
            refine lv_iload hx hb dL_areAlike_308 (lv_at hl 1 rfl) ?_
            refine lv_iload hx hb dL_areAlike_310 (lv_at hl 0 rfl) ?_
            refine lv_icmp_ne (tgt := 319) hx hb dL_areAlike_312 (by decide) (fun h9 => absurd i3 h9) (fun _ => ?_)
            refine lv_iconst (v := 1) hx hb dL_areAlike_315 (by decide) ?_
            refine lv_goto (tgt := 320) hx hb dL_areAlike_316 (by decide) ?_
            exact hJ () _ _ _ ⟨rfl, rfl, lv_sub hl [2, 3, 4, 5, 6, 7, 8] rfl⟩
      · rintro - H2 locs2 ls ⟨rfl, rfl, hl⟩
        refine lv_istore (lv' := [(4, .int 1), (0, .ref (g.1 0)), (1, .ref (g2.1 0)), (2, .int x), (3, .int all), (5, .int (nI (j189 + 6 * k))), (6, .int (nI i))]) hx hb dL_areAlike_320 hl (by decide) rfl (fun ls hl => ?_)
        refine lv_iinc (v := nI (i + 1)) (lv' := [(6, .int (nI (i + 1))), (4, .int 1), (0, .ref (g.1 0)), (1, .ref (g2.1 0)), (2, .int x), (3, .int all), (5, .int (nI (j189 + 6 * k)))]) hx hb dL_areAlike_322 hl (k := 6) rfl (nI_add _ _) (by decide) rfl (fun ls hl => ?_)
        refine lv_goto (tgt := 206) hx hb dL_areAlike_325 (by decide) ?_
        exact ih (7 - (i + 1)) _ _ _ (by omega) ⟨i + 1, u223, u236, by omega, rfl, hU223, hU236, hW, lv_sub hl [2, 3, 4, 5, 1, 6, 0] rfl⟩
  · have hi2 : i < 12 := by have := n_nle h123 (by omega) (by omega); omega
    refine lv_iload hx hb dL_areAlike_126 (lv_at hl 4 rfl) ?_
    refine lv_if_eq (tgt := 186) hx hb dL_areAlike_128 (by decide) (fun h9 => absurd h9 (by decide)) (fun _ => ?_)
    refine lv_iconst (v := nI 0) hx hb dL_areAlike_131 (by decide) ?_
    refine lv_istore (lv' := [(6, .int (nI 0)), (0, .ref (g.1 0)), (1, .ref (g2.1 0)), (2, .int x), (3, .int all), (4, .int 1), (5, .int (nI i))]) hx hb dL_areAlike_132 hl (by decide) rfl (fun ls hl => ?_)
    refine W.loop (fun n9 H2 locs2 ls2 => ∃ j : Nat, j ≤ 3 ∧ n9 = 3 - j ∧ H2 = s.heap ∧ locs2 = [] ∧ lv_has ls2 9 [(0, .ref (g.1 0)), (1, .ref (g2.1 0)), (2, .int x), (3, .int all), (4, .int 1), (5, .int (nI i)), (6, .int (nI j))]) ?_ 3 ⟨0, by decide, rfl, rfl, rfl, lv_sub hl [1, 2, 3, 4, 5, 6, 0] rfl⟩
    rintro n9 H2 locs2 ls ⟨j, hj, rfl, rfl, rfl, hl⟩ ih2
    refine lv_iload hx hb dL_areAlike_134 (lv_at hl 6 rfl) ?_
    refine lv_iconst (v := nI 3) hx hb dL_areAlike_136 (by decide) ?_
    refine lv_icmp_ge (tgt := 180) hx hb dL_areAlike_137 (by decide) (fun h137 => ?_) (fun h137 => ?_)
    · refine lv_iinc (v := nI (i + 1)) (lv' := [(5, .int (nI (i + 1))), (0, .ref (g.1 0)), (1, .ref (g2.1 0)), (2, .int x), (3, .int all), (4, .int 1), (6, .int (nI j))]) hx hb dL_areAlike_180 hl (k := 5) rfl (nI_add _ _) (by decide) rfl (fun ls hl => ?_)
      refine lv_goto (tgt := 119) hx hb dL_areAlike_183 (by decide) ?_
      exact ih (12 - (i + 1)) _ _ _ (by omega) ⟨i + 1, by omega, rfl, rfl, rfl, lv_sub hl [1, 2, 3, 4, 5, 0] rfl⟩
    · have hj2 : j < 3 := by have := n_nle h137 (by omega) (by omega); omega
      refine lv_iload hx hb dL_areAlike_140 (lv_at hl 4 rfl) ?_
      refine lv_if_eq (tgt := 171) hx hb dL_areAlike_142 (by decide) (fun h9 => absurd h9 (by decide)) (fun _ => ?_)
      refine lv_aload_n hx hb dL_areAlike_145 rfl (lv_at hl 0 rfl) ?_
      refine lv_iload hx hb dL_areAlike_146 (lv_at hl 5 rfl) ?_
      refine lv_iload hx hb dL_areAlike_148 (lv_at hl 6 rfl) ?_
      refine cGR0 (As := [.int (nI i), .int (nI j)]) (rest := []) F (XG T g Y u) (XG T g2 Z v ++ []) hW hl cs418 (g_house l D T g hY hU (nI i) (nI j)) 8 6 (xg_at _ _ _ _) rfl rfl rfl rfl (Nat.le_of_ble_eq_true rfl) ⟨Nat.le_of_ble_eq_true rfl, Nat.le_of_ble_eq_true rfl⟩ ⟨Nat.zero_le _, Nat.zero_le _⟩ dL_areAlike_150 (fun r150 hr150 => ?_)
      subst hr150
      refine lv_aload_n hx hb dL_areAlike_153 rfl (lv_at hl 1 rfl) ?_
      refine lv_iload hx hb dL_areAlike_154 (lv_at hl 5 rfl) ?_
      refine cRS (As := [.int (nI i)]) (rest := [.ref (g2.1 0), .int ((yHouse Y (nI i) (nI j)).1)]) F hW hl cs389 (c_other l D T (nI i)) [] rfl rfl rfl rfl (Nat.le_of_ble_eq_true rfl) ⟨Nat.le_of_ble_eq_true rfl, Nat.le_of_ble_eq_true rfl⟩ ⟨Nat.zero_le _, Nat.zero_le _⟩ dL_areAlike_156 (fun r156 hr156 => ?_)
      have hr156 := hr156.trans (otI_n hi2)
      subst hr156
      refine lv_iload hx hb dL_areAlike_159 (lv_at hl 6 rfl) ?_
      refine cGR (As := [.int (nI (sg i)), .int (nI j)]) (rest := [.int ((yHouse Y (nI i) (nI j)).1)]) F (XG T g Y u) (XG T g2 Z v) [] hW hl cs418 (g_house l D T g2 hZ hV (nI (sg i)) (nI j)) 8 6 (xg_at _ _ _ _) rfl rfl rfl rfl (Nat.le_of_ble_eq_true rfl) ⟨Nat.le_of_ble_eq_true rfl, Nat.le_of_ble_eq_true rfl⟩ ⟨Nat.zero_le _, Nat.zero_le _⟩ dL_areAlike_161 (fun r161 hr161 => ?_)
      subst hr161
      refine lv_icmp_ne (tgt := 171) hx hb dL_areAlike_164 (by decide) (fun h9 => absurd (hou_m hG0 hi2 hj2) h9) (fun _ => ?_)
      refine lv_iconst (v := 1) hx hb dL_areAlike_167 (by decide) ?_
      refine lv_goto (tgt := 172) hx hb dL_areAlike_168 (by decide) ?_
      refine lv_istore (lv' := [(4, .int 1), (0, .ref (g.1 0)), (1, .ref (g2.1 0)), (2, .int x), (3, .int all), (5, .int (nI i)), (6, .int (nI j))]) hx hb dL_areAlike_172 hl (by decide) rfl (fun ls hl => ?_)
      refine lv_iinc (v := nI (j + 1)) (lv' := [(6, .int (nI (j + 1))), (4, .int 1), (0, .ref (g.1 0)), (1, .ref (g2.1 0)), (2, .int x), (3, .int all), (5, .int (nI i))]) hx hb dL_areAlike_174 hl (k := 6) rfl (nI_add _ _) (by decide) rfl (fun ls hl => ?_)
      refine lv_goto (tgt := 134) hx hb dL_areAlike_177 (by decide) ?_
      exact ih2 (3 - (j + 1)) _ _ _ (by omega) ⟨j + 1, by omega, rfl, rfl, rfl, lv_sub hl [2, 3, 4, 5, 1, 6, 0] rfl⟩
