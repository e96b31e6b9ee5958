-- the law from its entry
set_option maxHeartbeats 4000000 in
set_option maxRecDepth 100000 in
theorem whole_start {p : Program} {e : Env} {s : State} {m : MethodId} {below : List Frame} {meth : Method} {c : Code} (l : Launch) (hflags : l.flags = flags0) {b L : Nat} {xs : Nat → Int32} (hL : L ≤ 260) (C0 : lw_At p s m meth c b L xs) : W p l e room_1 s m #[Value.ref b] below meth c s.heap [] 0 0 (lw_Z below #[Value.ref b] s) (entryFrame m ([Value.ref b] : List Value).toArray 6) := by
  obtain ⟨hx, hb, hr, hml, hown, hts, hX, hbl, hlocks, hgv⟩ := id C0
  have hg : ∀ w ∈ gtbl, w.before #[Value.ref b] s = true := fun w hw => hts w (List.mem_filter.mp hw).1
  have hG := start_G hts hgv
  obtain ⟨D, T, hK⟩ := start_K hg hG.2.1.2 hG.2.1.1
  have F : CallFix p m c cL_law 6 s #[Value.ref b] gtbl RL := ⟨hx, hb, hml, hown, hg⟩
  have hbA : ¬ (fun q : Nat => s.heap.size ≤ q) b := Nat.not_le.mpr hbl
  have hL2 : L < 2 ^ 31 := by omega
  have hW : Wd D T (fun q : Nat => s.heap.size ≤ q) s [] s.heap [] := ⟨hK, fun k q h => by simp at h, ⟨fun i j p q h => by simp at h, fun k q h => by simp at h⟩, va_S.rf, fun _ h => h⟩
  have hl := lv_entry ([.ref b]) (n := 6) (Nat.le_of_ble_eq_true rfl)
  rw [lg_entry_eq]
  generalize (lg_sl ([.ref b]) ++ List.replicate (6 - (lg_sl ([.ref b])).length) Slot.unset).toArray = ls at hl ⊢
  have hl : lv_has ls 6 [(0, .ref b)] := hl
  refine wnew F hW 6 gX6 tyX6_ok m20 m21 m11 rfl [.null, .null, .null, .null, .null, .null] (fun j hj => by rcases (show j = 0 ∨ j = 1 ∨ j = 2 ∨ j = 3 ∨ j = 4 ∨ j = 5 by omega) with rfl | rfl | rfl | rfl | rfl | rfl <;> rfl) ⟨Nat.le_of_ble_eq_true rfl, Nat.le_of_ble_eq_true rfl⟩ dL_law_0 (fun n0 H hW => ?_)
  have hW := Wd.is hW (ws' := [(n0, .inr (6, [.null, .null, .null, .null, .null, .null]))]) rfl
  refine lv_dup hx hb dL_law_3 rfl ?_
  refine cNI (rest := [.ref n0]) (wr := []) F hG hW hl m22 m23 m11 m24 (by decide +kernel) (i_Game l D T n0) [0] [] rfl rfl rfl rfl (by decide) (Nat.le_of_ble_eq_true rfl) ⟨Nat.le_of_ble_eq_true rfl, Nat.le_of_ble_eq_true rfl⟩ ⟨Nat.le_of_ble_eq_true rfl, Nat.le_of_ble_eq_true rfl⟩ dL_law_4 (fun u4 H locs hu4 hV => ?_)
  subst hu4
  have hW := Wd.is hV (ws' := (xwF T u4.1 u4.2.1 u4.2.2.1 u4.2.2.2.1 u4.2.2.2.2.1 u4.2.2.2.2.2 Y0 u00)) rfl
  refine lv_astore_n (lv' := [(1, .ref (u4.1 0)), (0, .ref b)]) hx hb dL_law_7 rfl hl (by decide) rfl (fun ls hl => ?_)
  refine wnew F hW 6 gX6 tyX6_ok m20 m21 m11 rfl [.null, .null, .null, .null, .null, .null] (fun j hj => by rcases (show j = 0 ∨ j = 1 ∨ j = 2 ∨ j = 3 ∨ j = 4 ∨ j = 5 by omega) with rfl | rfl | rfl | rfl | rfl | rfl <;> rfl) ⟨Nat.le_of_ble_eq_true rfl, Nat.le_of_ble_eq_true rfl⟩ dL_law_8 (fun n8 H hW => ?_)
  have hW := Wd.is hW (ws' := ((xwF T u4.1 u4.2.1 u4.2.2.1 u4.2.2.2.1 u4.2.2.2.2.1 u4.2.2.2.2.2 Y0 u00) ++ ([(n8, .inr (6, [.null, .null, .null, .null, .null, .null]))]))) rfl
  refine lv_dup hx hb dL_law_11 rfl ?_
  refine cNI (rest := [.ref n8]) (wr := (xwF T u4.1 u4.2.1 u4.2.2.1 u4.2.2.2.1 u4.2.2.2.2.1 u4.2.2.2.2.2 Y0 u00)) F hG hW hl m22 m23 m11 m24 (by decide +kernel) (i_Game l D T n8) [103] [0, 1, 2, 3, 4, 5, 6, 7, 8, 9, 10, 11, 12, 13, 14, 15, 16, 17, 18, 19, 20, 21, 22, 23, 24, 25, 26, 27, 28, 29, 30, 31, 32, 33, 34, 35, 36, 37, 38, 39, 40, 41, 42, 43, 44, 45, 46, 47, 48, 49, 50, 51, 52, 53, 54, 55, 56, 57, 58, 59, 60, 61, 62, 63, 64, 65, 66, 67, 68, 69, 70, 71, 72, 73, 74, 75, 76, 77, 78, 79, 80, 81, 82, 83, 84, 85, 86, 87, 88, 89, 90, 91, 92, 93, 94, 95, 96, 97, 98, 99, 100, 101, 102] rfl rfl rfl rfl (by decide) (Nat.le_of_ble_eq_true rfl) ⟨Nat.le_of_ble_eq_true rfl, Nat.le_of_ble_eq_true rfl⟩ ⟨Nat.le_of_ble_eq_true rfl, Nat.le_of_ble_eq_true rfl⟩ dL_law_12 (fun u12 H locs hu12 hV => ?_)
  subst hu12
  have hW := Wd.is hV (ws' := ((xwF T u4.1 u4.2.1 u4.2.2.1 u4.2.2.2.1 u4.2.2.2.2.1 u4.2.2.2.2.2 Y0 u00) ++ ((xwF T u12.1 u12.2.1 u12.2.2.1 u12.2.2.2.1 u12.2.2.2.2.1 u12.2.2.2.2.2 Y0 u00)))) rfl
  refine lv_astore_n (lv' := [(2, .ref (u12.1 0)), (1, .ref (u4.1 0)), (0, .ref b)]) hx hb dL_law_15 rfl hl (by decide) rfl (fun ls hl => ?_)
  have hW : Wd D T (fun q : Nat => s.heap.size ≤ q) s (XG T u4 (pY Y0.pad 0) u00 ++ XG T u12 (pY Y0.pad 0) u00) H locs := hW
  have hW := Wd.is hW (ws' := XG T u4 (pY Y0.pad 0) u00 ++ (XG T u12 (pY Y0.pad 0) u00 ++ [])) (by rw [List.append_nil])
  refine lv_aload_n hx hb dL_law_16 rfl (lv_at hl 1 rfl) ?_
  refine lv_aload_n hx hb dL_law_17 rfl (lv_at hl 0 rfl) ?_
  refine lv_aload_n hx hb dL_law_18 rfl (lv_at hl 2 rfl) ?_
  refine lv_iconst (v := nI 0) hx hb dL_law_19 (by decide) ?_
  refine cCell F hX hbl hbA hL2 (k := 0) (by decide) hW hl cs239 (rest := [.ref (u12.1 0), .ref (u4.1 0)]) rfl (Nat.le_of_ble_eq_true rfl) ⟨Nat.le_of_ble_eq_true rfl, Nat.le_of_ble_eq_true rfl⟩ ⟨Nat.le_of_ble_eq_true rfl, Nat.le_of_ble_eq_true rfl⟩ dL_law_20 (fun r20 => ?_)
  refine lv_aload_n hx hb dL_law_23 rfl (lv_at hl 2 rfl) ?_
  refine lv_iconst (v := nI 1) hx hb dL_law_24 (by decide) ?_
  refine cCell F hX hbl hbA hL2 (k := 1) (by decide) hW hl cs239 (rest := [.int r20, .ref (u12.1 0), .ref (u4.1 0)]) rfl (Nat.le_of_ble_eq_true rfl) ⟨Nat.le_of_ble_eq_true rfl, Nat.le_of_ble_eq_true rfl⟩ ⟨Nat.le_of_ble_eq_true rfl, Nat.le_of_ble_eq_true rfl⟩ dL_law_25 (fun r25 => ?_)
  refine cSN (As := [.ref (u4.1 0), .ref (u12.1 0), .int r20, .int r25]) (rest := []) F hW hl cs243 (c_reads l D T u4 u12 (r20) (r25) ur_0 ur_0) rfl rfl (Nat.le_of_ble_eq_true rfl) ⟨Nat.le_of_ble_eq_true rfl, Nat.le_of_ble_eq_true rfl⟩ ⟨Nat.le_of_ble_eq_true rfl, Nat.le_of_ble_eq_true rfl⟩ dL_law_28 (fun r28 q28 H locs hp28 hW => ?_)
  obtain ⟨hr28, ⟨S, hGR⟩, hU28, hV28⟩ := hp28
  subst hr28
  obtain ⟨all, eall⟩ : ∃ z, z = (yCount q28.1 (nI 5)).1 := ⟨_, rfl⟩
  have hall : all.toInt = S := by rw [eall, cnt_v _ (by decide)]; exact all_S hGR.2.2.1.2.1
  refine lv_istore_n (lv' := [(3, .int 1), (2, .ref (u12.1 0)), (1, .ref (u4.1 0)), (0, .ref b)]) hx hb dL_law_31 rfl hl (by decide) rfl (fun ls hl => ?_)
  refine lv_aload_n hx hb dL_law_32 rfl (lv_at hl 2 rfl) ?_
  refine lv_iconst (v := nI 5) hx hb dL_law_33 (by decide) ?_
  refine cGR0 (As := [.int (nI 5)]) (rest := []) F (XG T u4 q28.1 q28.2.2.1) (XG T u12 q28.2.1 q28.2.2.2 ++ []) hW hl cs215 (g_count l D T u4 hGR.1 hU28 (nI 5)) 8 6 (xg_at _ _ _ _) rfl rfl rfl rfl (Nat.le_of_ble_eq_true rfl) ⟨Nat.le_of_ble_eq_true rfl, Nat.le_of_ble_eq_true rfl⟩ ⟨Nat.le_of_ble_eq_true rfl, Nat.le_of_ble_eq_true rfl⟩ dL_law_34 (fun r34 hr34 => ?_)
  have hr34 := (hr34.trans (eall.symm)).symm
  subst hr34
  refine lv_istore (lv' := [(4, .int all), (3, .int 1), (2, .ref (u12.1 0)), (1, .ref (u4.1 0)), (0, .ref b)]) hx hb dL_law_37 hl (by decide) rfl (fun ls hl => ?_)
  refine lv_iconst (v := nI 2) hx hb dL_law_39 (by decide) ?_
  refine lv_istore (lv' := [(5, .int (nI 2)), (4, .int all), (3, .int 1), (2, .ref (u12.1 0)), (1, .ref (u4.1 0)), (0, .ref b)]) hx hb dL_law_40 hl (by decide) rfl (fun ls hl => ?_)
  refine W.loop (fun n9 H2 locs2 ls2 => ∃ (k : Nat) (Y Z : YD) (u v : UX), 2 ≤ k ∧ k ≤ 34 ∧ n9 = 34 - k ∧ GR S Y Z ∧ UR Y u ∧ UR Z v ∧ Wd D T (fun q : Nat => s.heap.size ≤ q) s (XG T u4 Y u ++ (XG T u12 Z v ++ [])) H2 locs2 ∧ lv_has ls2 6 [(0, .ref b), (1, .ref (u4.1 0)), (2, .ref (u12.1 0)), (3, .int 1), (4, .int all), (5, .int (nI k))]) ?_ 32 ⟨2, q28.1, q28.2.1, q28.2.2.1, q28.2.2.2, by decide, by decide, rfl, hGR, hU28, hV28, hW, lv_sub hl [5, 4, 3, 2, 1, 0] rfl⟩
  rintro n9 H locs ls ⟨k, Y, Z, u, v, hk1, hk2, rfl, hGR, hU, hV, hW, hl⟩ ih
  refine lv_iload hx hb dL_law_42 (lv_at hl 5 rfl) ?_
  refine lv_bipush (v := nI 34) hx hb dL_law_44 (by decide) ?_
  refine lv_icmp_ge (tgt := 100) hx hb dL_law_46 (by decide) (fun h46 => ?_) (fun h46 => ?_)
  · refine lv_iload_n hx hb dL_law_100 rfl (lv_at hl 3 rfl) ?_
    refine lv_if_eq (tgt := 115) hx hb dL_law_101 (by decide) (fun h9 => absurd h9 (by decide)) (fun _ => ?_)
    refine lv_aload_n hx hb dL_law_104 rfl (lv_at hl 1 rfl) ?_
    refine cSG (As := [.ref (u4.1 0)]) (rest := []) F hG hW hl cs445 (c_isBest l D T u4 u12 hGR hU) rfl rfl (Nat.le_of_ble_eq_true rfl) ⟨Nat.le_of_ble_eq_true rfl, Nat.le_of_ble_eq_true rfl⟩ ⟨Nat.le_of_ble_eq_true rfl, Nat.le_of_ble_eq_true rfl⟩ dL_law_105 (fun r105 q105 H locs hp105 hW => ?_)
    have hr105 : r105 = 1 := hp105
    subst hr105
    refine lv_if_eq (tgt := 115) hx hb dL_law_108 (by decide) (fun h9 => absurd h9 (by decide)) (fun _ => ?_)
    refine lv_iconst (v := 1) hx hb dL_law_111 (by decide) ?_
    refine lv_goto (tgt := 116) hx hb dL_law_112 (by decide) ?_
    refine W.widen (k := 600000) (n := 7302250) (Nat.le_of_ble_eq_true rfl) (Nat.le_of_ble_eq_true rfl) ?_
    refine va_forget (fun q hq => hW.2.2.2.1.2.2 q hq) ?_
    exact lw_ret hx hb hr hlocks dL_law_116
  · have hk3 : k < 34 := by have := n_nle h46 (by omega) (by omega); omega
    refine lv_iload_n hx hb dL_law_49 rfl (lv_at hl 3 rfl) ?_
    refine lv_if_eq (tgt := 100) hx hb dL_law_50 (by decide) (fun h9 => absurd h9 (by decide)) (fun _ => ?_)
    refine lv_aload_n hx hb dL_law_53 rfl (lv_at hl 1 rfl) ?_
    refine lv_aload_n hx hb dL_law_54 rfl (lv_at hl 2 rfl) ?_
    refine lv_aload_n hx hb dL_law_55 rfl (lv_at hl 0 rfl) ?_
    refine lv_iload hx hb dL_law_56 (lv_at hl 5 rfl) ?_
    refine cCell F hX hbl hbA hL2 (k := k) (by omega) hW hl cs239 (rest := [.ref (u12.1 0), .ref (u4.1 0)]) rfl (Nat.le_of_ble_eq_true rfl) ⟨Nat.le_of_ble_eq_true rfl, Nat.le_of_ble_eq_true rfl⟩ ⟨Nat.le_of_ble_eq_true rfl, Nat.le_of_ble_eq_true rfl⟩ dL_law_58 (fun r58 => ?_)
    refine cSG (As := [.ref (u4.1 0), .ref (u12.1 0), .int r58]) (rest := []) F hG hW hl cs318 (c_isStep l D T u4 u12 (r58) hGR hU hV) rfl rfl (Nat.le_of_ble_eq_true rfl) ⟨Nat.le_of_ble_eq_true rfl, Nat.le_of_ble_eq_true rfl⟩ ⟨Nat.le_of_ble_eq_true rfl, Nat.le_of_ble_eq_true rfl⟩ dL_law_61 (fun r61 q61 H locs hp61 hW => ?_)
    obtain ⟨hr61, hGR61, hU61, hV61⟩ := hp61
    subst hr61
    refine lv_istore_n (lv' := [(3, .int 1), (0, .ref b), (1, .ref (u4.1 0)), (2, .ref (u12.1 0)), (4, .int all), (5, .int (nI k))]) hx hb dL_law_64 rfl hl (by decide) rfl (fun ls hl => ?_)
    refine lv_iload_n hx hb dL_law_65 rfl (lv_at hl 0 rfl) ?_
    refine lv_if_eq (tgt := 92) hx hb dL_law_66 (by decide) (fun h9 => absurd h9 (by decide)) (fun _ => ?_)
    refine lv_aload_n hx hb dL_law_69 rfl (lv_at hl 2 rfl) ?_
    refine lv_aload_n hx hb dL_law_70 rfl (lv_at hl 3 rfl) ?_
    refine lv_aload_n hx hb dL_law_71 rfl (lv_at hl 1 rfl) ?_
    refine lv_iload hx hb dL_law_72 (lv_at hl 5 rfl) ?_
    refine cCell F hX hbl hbA hL2 (k := k) (by omega) hW hl cs239 (rest := [.ref (u12.1 0), .ref (u4.1 0)]) rfl (Nat.le_of_ble_eq_true rfl) ⟨Nat.le_of_ble_eq_true rfl, Nat.le_of_ble_eq_true rfl⟩ ⟨Nat.le_of_ble_eq_true rfl, Nat.le_of_ble_eq_true rfl⟩ dL_law_74 (fun r74 => ?_)
    refine lv_bipush (v := nI 7) hx hb dL_law_77 (by decide) ?_
    refine ishrX hx hb dL_law_79 (fun z79 => ?_)
    refine lv_iload hx hb dL_law_80 (lv_at hl 4 rfl) ?_
    refine cSG (As := [.ref (u4.1 0), .ref (u12.1 0), .int z79, .int all]) (rest := []) F hG hW hl cs412 (c_areAlike l D T u4 u12 (z79) all hall hGR61 hU61 hV61) rfl rfl (Nat.le_of_ble_eq_true rfl) ⟨Nat.le_of_ble_eq_true rfl, Nat.le_of_ble_eq_true rfl⟩ ⟨Nat.le_of_ble_eq_true rfl, Nat.le_of_ble_eq_true rfl⟩ dL_law_82 (fun r82 q82 H locs hp82 hW => ?_)
    obtain ⟨hr82, hU82, hV82⟩ := hp82
    subst hr82
    refine lv_if_eq (tgt := 92) hx hb dL_law_85 (by decide) (fun h9 => absurd h9 (by decide)) (fun _ => ?_)
    refine lv_iconst (v := 1) hx hb dL_law_88 (by decide) ?_
    refine lv_goto (tgt := 93) hx hb dL_law_89 (by decide) ?_
    refine lv_istore_n (lv' := [(3, .int 1), (0, .ref b), (1, .ref (u4.1 0)), (2, .ref (u12.1 0)), (4, .int all), (5, .int (nI k))]) hx hb dL_law_93 rfl hl (by decide) rfl (fun ls hl => ?_)
    refine lv_iinc (v := nI (k + 1)) (lv' := [(5, .int (nI (k + 1))), (3, .int 1), (0, .ref b), (1, .ref (u4.1 0)), (2, .ref (u12.1 0)), (4, .int all)]) hx hb dL_law_94 hl (k := 5) rfl (nI_add _ _) (by decide) rfl (fun ls hl => ?_)
    refine lv_goto (tgt := 42) hx hb dL_law_97 (by decide) ?_
    exact ih (34 - (k + 1)) _ _ _ (by omega) ⟨k + 1, q61.1, q61.2.1, q82.1, q82.2, by omega, by omega, rfl, hGR61, hU82, hV82, hW, lv_sub hl [2, 3, 4, 1, 5, 0] rfl⟩
