-- Position: captures, the end of a move, laps, a whole move
theorem sm_z (z : Int32) (f : Nat → Int32) (b : Nat) : ∀ k, sm z f b k = z + sm 0 f b k
  | 0 => by rw [sm, sm, Int32.add_zero]
  | k + 1 => by rw [sm, sm, sm_z z f b k, Int32.add_assoc]
theorem sm_add (z : Int32) (f : Nat → Int32) (b k : Nat) : ∀ n, sm z f b (k + n) = sm (sm z f b k) f (b + k) n
  | 0 => rfl
  | n + 1 => by rw [← Nat.add_assoc, sm, sm, sm_add z f b k n, Nat.add_assoc]
theorem sm_ext {z : Int32} {f g : Nat → Int32} {b k : Nat} (h : ∀ j, b ≤ j → j < b + k → f j = g j) : sm z f b k = sm z g b k := sm_congr (fun j hj => h (b + j) (by omega) (by omega))
def capC (P : Nat → Int32) (h pl : Nat) : Nat → Int32 := if P (11 - h) = 0 then P else upd (capM P h pl) 32 (P 32 + (P h + P (11 - h)))
theorem cap_s {P sd : Nat → Int32} {h pl : Nat} {z : Int32} (hs : ∀ j, j < 12 → sd j = P j) : ∀ j, j < 12 → upd (upd sd h 0) (11 - h) 0 j = upd (capM P h pl) 32 z j := by
  intro j hj
  rw [u_n (show j ≠ 32 by omega)]
  unfold capM
  rw [u_n (show j ≠ 32 by omega), u_n (show j ≠ 12 + (11 - h) by omega)]
  by_cases q : j = 11 - h
  · rw [q, u_s, u_s]
  · rw [u_n q, u_n q]
    by_cases q2 : j = h
    · rw [q2, u_s, u_s]
    · rw [u_n q2, u_n q2, u_n (show j ≠ 24 + pl by omega), hs j hj]
theorem cap_v {P vs : Nat → Int32} {h pl : Nat} {z : Int32} (hh : h < 12) (hs : ∀ j, j < 12 → vs j = P (12 + j)) : ∀ j, j < 12 → upd vs (11 - h) 0 j = upd (capM P h pl) 32 z (12 + j) := by
  intro j hj
  rw [u_n (show 12 + j ≠ 32 by omega)]
  unfold capM
  rw [u_n (show 12 + j ≠ 32 by omega)]
  by_cases q : j = 11 - h
  · rw [q, u_s, u_s]
  · rw [u_n q, u_n (show 12 + j ≠ 12 + (11 - h) by omega), u_n (show 12 + j ≠ 11 - h by omega), u_n (show 12 + j ≠ h by omega), u_n (show 12 + j ≠ 24 + pl by omega), hs j hj]
theorem cap_o {P so : Nat → Int32} {h pl : Nat} {z c : Int32} (hh : h < 12) (hpl : pl < 2) (hs : ∀ j, j < 2 → so j = P (24 + j)) (hc : c = P h + P (11 - h)) : ∀ j, j < 2 → upd so pl (so pl + c) j = upd (capM P h pl) 32 z (24 + j) := by
  intro j hj
  subst hc
  rw [u_n (show 24 + j ≠ 32 by omega)]
  unfold capM
  rw [u_n (show 24 + j ≠ 32 by omega), u_n (show 24 + j ≠ 12 + (11 - h) by omega), u_n (show 24 + j ≠ 11 - h by omega), u_n (show 24 + j ≠ h by omega)]
  by_cases q : j = pl
  · rw [q, u_s, u_s, hs pl hpl]
  · rw [u_n q, u_n (show 24 + j ≠ 24 + pl by omega), hs j hj]
set_option maxHeartbeats 4000000 in
set_option maxRecDepth 100000 in
theorem c_captureAcross (l : Launch) (D : va_G) (T : Nat → ClassId) (q0 q1 q2 q3 q5 : Nat) {pl : Nat} (hpl : pl < 2) (ov mv : Int32) (sd vs so : Nat → Int32) (x0 x1 x2 x4 : Int32) (P : Nat → Int32) (hA : Agr P sd vs so) {h : Nat} (hh : h < 12) : KV (S := Unit) l D T yX3_captureAcross cX3_captureAcross 5 0 [.ref q0, .int (nI h), .ref q5] [(q0, .inr (3, [.ref q1, .ref q2, .ref q3, .int (nI pl), .int ov, .int mv])), (q1, .inl (T 0, 12, .inl sd)), (q2, .inl (T 0, 12, .inl vs)), (q3, .inl (T 0, 2, .inl so)), (q5, .inr (4, [.int x0, .int x1, .int x2, .int (P 32), .int x4]))] (fun _ => True) (fun u => [(q0, .inr (3, [.ref q1, .ref q2, .ref q3, .int (nI pl), .int ov, .int mv])), (q1, .inl (T 0, 12, .inl (fun j => (capC P h pl) j))), (q2, .inl (T 0, 12, .inl (fun j => (capC P h pl) (12 + j)))), (q3, .inl (T 0, 2, .inl (fun j => (capC P h pl) (24 + j)))), (q5, .inr (4, [.int x0, .int x1, .int x2, .int ((capC P h pl) 32), .int x4]))]) := by
  refine KV.of (by decide +kernel) (Nat.le_of_ble_eq_true rfl) (fun p e s m below meth c A F hr hlk hW ls hl => ?_)
  have hx := F.1
  have hb := F.2.1
  have hl : lv_has ls 5 [(0, .ref q0), (1, .int (nI h)), (2, .ref q5)] := hl
  refine lv_bipush (v := nI 11) hx hb dX3_captureAcross_0 (by decide) ?_
  refine lv_iload_n hx hb dX3_captureAcross_2 rfl (lv_at hl 1 rfl) ?_
  refine isubE (z := nI (11 - h)) hx hb dX3_captureAcross_3 (pk_sub (by omega)) ?_
  refine lv_istore_n (lv' := [(3, .int (nI (11 - h))), (0, .ref q0), (1, .int (nI h)), (2, .ref q5)]) hx hb dX3_captureAcross_4 rfl hl (by decide) rfl (fun ls hl => ?_)
  refine lv_aload_n hx hb dX3_captureAcross_5 rfl (lv_at hl 1 rfl) ?_
  refine gf40 F hW 0 rfl rfl dX3_captureAcross_6 ?_
  refine lv_iload_n hx hb dX3_captureAcross_9 rfl (lv_at hl 0 rfl) ?_
  refine ald F hW 1 rfl (x := sd (11 - h)) (11 - h) rfl (by omega) (by decide) rfl dX3_captureAcross_10 ?_
  refine lv_if_ne (tgt := 15) hx hb dX3_captureAcross_11 (by decide) (fun h11 => ?_) (fun h11 => ?_)
  · have e1 : capC P h pl = upd (capM P h pl) 32 (P 32 + (P h + P (11 - h))) := if_neg (fun q => h11 ((hA.1 _ (by omega)).trans q))
    refine lv_aload_n hx hb dX3_captureAcross_15 rfl (lv_at hl 1 rfl) ?_
    refine gf40 F hW 0 rfl rfl dX3_captureAcross_16 ?_
    refine lv_iload_n hx hb dX3_captureAcross_19 rfl (lv_at hl 2 rfl) ?_
    refine ald F hW 1 rfl (x := sd h) h rfl (by omega) (by decide) rfl dX3_captureAcross_20 ?_
    refine lv_aload_n hx hb dX3_captureAcross_21 rfl (lv_at hl 1 rfl) ?_
    refine gf40 F hW 0 rfl rfl dX3_captureAcross_22 ?_
    refine lv_iload_n hx hb dX3_captureAcross_25 rfl (lv_at hl 0 rfl) ?_
    refine ald F hW 1 rfl (x := sd (11 - h)) (11 - h) rfl (by omega) (by decide) rfl dX3_captureAcross_26 ?_
    refine iaddE (z := P h + P (11 - h)) hx hb dX3_captureAcross_27 (by rw [hA.1 h hh, hA.1 _ (by omega)]) ?_
    refine lv_istore (lv' := [(4, .int (P h + P (11 - h))), (3, .int (nI (11 - h))), (0, .ref q0), (1, .int (nI h)), (2, .ref q5)]) hx hb dX3_captureAcross_28 hl (by decide) rfl (fun ls hl => ?_)
    refine lv_aload_n hx hb dX3_captureAcross_30 rfl (lv_at hl 2 rfl) ?_
    refine gf40 F hW 0 rfl rfl dX3_captureAcross_31 ?_
    refine lv_iload_n hx hb dX3_captureAcross_34 rfl (lv_at hl 3 rfl) ?_
    refine lv_iconst (v := 0) hx hb dX3_captureAcross_35 (by decide) ?_
    refine ast (ws' := [(q0, .inr (3, [.ref q1, .ref q2, .ref q3, .int (nI pl), .int ov, .int mv])), (q1, .inl (T 0, 12, .inl (upd sd h 0))), (q2, .inl (T 0, 12, .inl vs)), (q3, .inl (T 0, 2, .inl so)), (q5, .inr (4, [.int x0, .int x1, .int x2, .int (P 32), .int x4]))]) F hW 1 (upd sd h 0) rfl h rfl (by omega) (by decide) (fun _ _ => rfl) rfl dX3_captureAcross_36 (fun H locs hW => ?_)
    refine lv_aload_n hx hb dX3_captureAcross_37 rfl (lv_at hl 2 rfl) ?_
    refine gf40 F hW 0 rfl rfl dX3_captureAcross_38 ?_
    refine lv_iload_n hx hb dX3_captureAcross_41 rfl (lv_at hl 1 rfl) ?_
    refine lv_iconst (v := 0) hx hb dX3_captureAcross_42 (by decide) ?_
    refine ast (ws' := [(q0, .inr (3, [.ref q1, .ref q2, .ref q3, .int (nI pl), .int ov, .int mv])), (q1, .inl (T 0, 12, .inl (upd (upd sd h 0) (11 - h) 0))), (q2, .inl (T 0, 12, .inl vs)), (q3, .inl (T 0, 2, .inl so)), (q5, .inr (4, [.int x0, .int x1, .int x2, .int (P 32), .int x4]))]) F hW 1 (upd (upd sd h 0) (11 - h) 0) rfl (11 - h) rfl (by omega) (by decide) (fun _ _ => rfl) rfl dX3_captureAcross_43 (fun H locs hW => ?_)
    refine lv_aload_n hx hb dX3_captureAcross_44 rfl (lv_at hl 2 rfl) ?_
    refine gf42 F hW 0 rfl rfl dX3_captureAcross_45 ?_
    refine lv_iload_n hx hb dX3_captureAcross_48 rfl (lv_at hl 1 rfl) ?_
    refine lv_iconst (v := 0) hx hb dX3_captureAcross_49 (by decide) ?_
    refine ast (ws' := [(q0, .inr (3, [.ref q1, .ref q2, .ref q3, .int (nI pl), .int ov, .int mv])), (q1, .inl (T 0, 12, .inl (upd (upd sd h 0) (11 - h) 0))), (q2, .inl (T 0, 12, .inl (upd vs (11 - h) 0))), (q3, .inl (T 0, 2, .inl so)), (q5, .inr (4, [.int x0, .int x1, .int x2, .int (P 32), .int x4]))]) F hW 2 (upd vs (11 - h) 0) rfl (11 - h) rfl (by omega) (by decide) (fun _ _ => rfl) rfl dX3_captureAcross_50 (fun H locs hW => ?_)
    refine lv_aload_n hx hb dX3_captureAcross_51 rfl (lv_at hl 2 rfl) ?_
    refine gf44 F hW 0 rfl rfl dX3_captureAcross_52 ?_
    refine lv_aload_n hx hb dX3_captureAcross_55 rfl (lv_at hl 2 rfl) ?_
    refine gf46 F hW 0 rfl rfl dX3_captureAcross_56 ?_
    refine lv_dup2_11 hx hb dX3_captureAcross_59 rfl rfl ?_
    refine ald F hW 3 rfl (x := so pl) pl rfl (by omega) (by decide) rfl dX3_captureAcross_60 ?_
    refine lv_iload hx hb dX3_captureAcross_61 (lv_at hl 0 rfl) ?_
    refine iaddE (z := (so pl) + (P h + P (11 - h))) hx hb dX3_captureAcross_63 rfl ?_
    refine ast (ws' := [(q0, .inr (3, [.ref q1, .ref q2, .ref q3, .int (nI pl), .int ov, .int mv])), (q1, .inl (T 0, 12, .inl (upd (upd sd h 0) (11 - h) 0))), (q2, .inl (T 0, 12, .inl (upd vs (11 - h) 0))), (q3, .inl (T 0, 2, .inl (upd so pl ((so pl) + (P h + P (11 - h)))))), (q5, .inr (4, [.int x0, .int x1, .int x2, .int (P 32), .int x4]))]) F hW 3 (upd so pl ((so pl) + (P h + P (11 - h)))) rfl pl rfl (by omega) (by decide) (fun _ _ => rfl) rfl dX3_captureAcross_64 (fun H locs hW => ?_)
    refine lv_aload_n hx hb dX3_captureAcross_65 rfl (lv_at hl 4 rfl) ?_
    refine lv_dup hx hb dX3_captureAcross_66 rfl ?_
    refine gf94 F hW 4 rfl rfl dX3_captureAcross_67 ?_
    refine lv_iload hx hb dX3_captureAcross_70 (lv_at hl 0 rfl) ?_
    refine iaddE (z := (P 32) + (P h + P (11 - h))) hx hb dX3_captureAcross_72 rfl ?_
    refine pf94 (ws' := [(q0, .inr (3, [.ref q1, .ref q2, .ref q3, .int (nI pl), .int ov, .int mv])), (q1, .inl (T 0, 12, .inl (upd (upd sd h 0) (11 - h) 0))), (q2, .inl (T 0, 12, .inl (upd vs (11 - h) 0))), (q3, .inl (T 0, 2, .inl (upd so pl ((so pl) + (P h + P (11 - h)))))), (q5, .inr (4, [.int x0, .int x1, .int x2, .int ((P 32) + (P h + P (11 - h))), .int x4]))]) F hW 4 rfl rfl rfl dX3_captureAcross_73 (fun H locs hW => ?_)
    have hW := Wd.arr hW 1 (fun j => (upd (capM P h pl) 32 (P 32 + (P h + P (11 - h)))) j) rfl (cap_s hA.1) (ws' := [(q0, .inr (3, [.ref q1, .ref q2, .ref q3, .int (nI pl), .int ov, .int mv])), (q1, .inl (T 0, 12, .inl (fun j => (upd (capM P h pl) 32 (P 32 + (P h + P (11 - h)))) j))), (q2, .inl (T 0, 12, .inl (upd vs (11 - h) 0))), (q3, .inl (T 0, 2, .inl (upd so pl ((so pl) + (P h + P (11 - h)))))), (q5, .inr (4, [.int x0, .int x1, .int x2, .int ((P 32) + (P h + P (11 - h))), .int x4]))]) rfl
    have hW := Wd.arr hW 2 (fun j => (upd (capM P h pl) 32 (P 32 + (P h + P (11 - h)))) (12 + j)) rfl (cap_v hh hA.2.1) (ws' := [(q0, .inr (3, [.ref q1, .ref q2, .ref q3, .int (nI pl), .int ov, .int mv])), (q1, .inl (T 0, 12, .inl (fun j => (upd (capM P h pl) 32 (P 32 + (P h + P (11 - h)))) j))), (q2, .inl (T 0, 12, .inl (fun j => (upd (capM P h pl) 32 (P 32 + (P h + P (11 - h)))) (12 + j)))), (q3, .inl (T 0, 2, .inl (upd so pl ((so pl) + (P h + P (11 - h)))))), (q5, .inr (4, [.int x0, .int x1, .int x2, .int ((P 32) + (P h + P (11 - h))), .int x4]))]) rfl
    have hW := Wd.arr hW 3 (fun j => (upd (capM P h pl) 32 (P 32 + (P h + P (11 - h)))) (24 + j)) rfl (cap_o hh hpl hA.2.2 rfl) (ws' := [(q0, .inr (3, [.ref q1, .ref q2, .ref q3, .int (nI pl), .int ov, .int mv])), (q1, .inl (T 0, 12, .inl (fun j => (upd (capM P h pl) 32 (P 32 + (P h + P (11 - h)))) j))), (q2, .inl (T 0, 12, .inl (fun j => (upd (capM P h pl) 32 (P 32 + (P h + P (11 - h)))) (12 + j)))), (q3, .inl (T 0, 2, .inl (fun j => (upd (capM P h pl) 32 (P 32 + (P h + P (11 - h)))) (24 + j)))), (q5, .inr (4, [.int x0, .int x1, .int x2, .int ((P 32) + (P h + P (11 - h))), .int x4]))]) rfl
    have e2 : (upd (capM P h pl) 32 (P 32 + (P h + P (11 - h)))) 32 = P 32 + (P h + P (11 - h)) := u_s _ _ _
    exact retV F hr hlk hW () trivial (by rw [e1, e2]) dX3_captureAcross_76
  · have e1 : capC P h pl = P := if_pos ((hA.1 _ (by omega)).symm.trans h11)
    have hW := Wd.arr hW 1 (fun j => P j) rfl (fun j hj => hA.1 j hj) (ws' := [(q0, .inr (3, [.ref q1, .ref q2, .ref q3, .int (nI pl), .int ov, .int mv])), (q1, .inl (T 0, 12, .inl (fun j => P j))), (q2, .inl (T 0, 12, .inl vs)), (q3, .inl (T 0, 2, .inl so)), (q5, .inr (4, [.int x0, .int x1, .int x2, .int (P 32), .int x4]))]) rfl
    have hW := Wd.arr hW 2 (fun j => P (12 + j)) rfl (fun j hj => hA.2.1 j hj) (ws' := [(q0, .inr (3, [.ref q1, .ref q2, .ref q3, .int (nI pl), .int ov, .int mv])), (q1, .inl (T 0, 12, .inl (fun j => P j))), (q2, .inl (T 0, 12, .inl (fun j => P (12 + j)))), (q3, .inl (T 0, 2, .inl so)), (q5, .inr (4, [.int x0, .int x1, .int x2, .int (P 32), .int x4]))]) rfl
    have hW := Wd.arr hW 3 (fun j => P (24 + j)) rfl (fun j hj => hA.2.2 j hj) (ws' := [(q0, .inr (3, [.ref q1, .ref q2, .ref q3, .int (nI pl), .int ov, .int mv])), (q1, .inl (T 0, 12, .inl (fun j => P j))), (q2, .inl (T 0, 12, .inl (fun j => P (12 + j)))), (q3, .inl (T 0, 2, .inl (fun j => P (24 + j)))), (q5, .inr (4, [.int x0, .int x1, .int x2, .int (P 32), .int x4]))]) rfl
    exact retV F hr hlk hW () trivial (by rw [e1]) dX3_captureAcross_14
abbrev decP (P : Nat → Int32) : Prop := decC (P 28) P (fun j => P (24 + j))
def gtM (P : Nat → Int32) (t : Nat) : Nat → Int32 := if decP P then upd (endsM P) 26 (nI t) else upd P 26 (if sm 0 P (6 * t) 6 = 0 then nI (1 - t) else nI t)
theorem gt_y {P : Nat → Int32} {t : Nat} (h : decP P) : gtM P t = upd (endsM P) 26 (nI t) := if_pos h
theorem gt_n {P : Nat → Int32} {t : Nat} (h : ¬ decP P) : gtM P t = upd P 26 (if sm 0 P (6 * t) 6 = 0 then nI (1 - t) else nI t) := if_neg h
theorem decC_congr {mv : Int32} {sd so P : Nat → Int32} (hs : ∀ j, j < 12 → sd j = P j) (ho : ∀ j, j < 2 → so j = P (24 + j)) (hm : mv = P 28) : decC mv sd so ↔ decP P := by
  unfold decP decC
  rw [sm_ext (g := P) (fun j h1 h2 => hs j (by omega)), sm_ext (b := 6) (g := P) (fun j h1 h2 => hs j (by omega)), ho 0 (by decide), ho 1 (by decide), hm]
theorem ends_lo {P : Nat → Int32} {x : Int32} {j : Nat} (hj : j < 12) : upd (endsM P) 26 x j = 0 := by rw [u_n (by omega)]; exact if_pos hj
set_option maxHeartbeats 4000000 in
set_option maxRecDepth 100000 in
theorem c_giveTurnTo (l : Launch) (D : va_G) (T : Nat → ClassId) (q0 q1 q2 q3 : Nat) (px ov mv : Int32) (sd so : Nat → Int32) (P : Nat → Int32) (hs : ∀ j, j < 12 → sd j = P j) (ho : ∀ j, j < 2 → so j = P (24 + j)) (hov : ov = P 27) (hmv : mv = P 28) {t : Nat} (ht : t < 2) : KV (S := Unit) l D T yX3_giveTurnTo cX3_giveTurnTo 3 2 [.ref q0, .int (nI t)] [(q0, .inr (3, [.ref q1, .ref q2, .ref q3, .int px, .int ov, .int mv])), (q1, .inl (T 0, 12, .inl sd)), (q3, .inl (T 0, 2, .inl so))] (fun _ => True) (fun u => [(q0, .inr (3, [.ref q1, .ref q2, .ref q3, .int ((gtM P t) 26), .int ((gtM P t) 27), .int mv])), (q1, .inl (T 0, 12, .inl (fun j => (gtM P t) j))), (q3, .inl (T 0, 2, .inl (fun j => (gtM P t) (24 + j))))]) := by
  refine KV.of (by decide +kernel) (Nat.le_of_ble_eq_true rfl) (fun p e s m below meth c A F hr hlk hW ls hl => ?_)
  have hx := F.1
  have hb := F.2.1
  have hl : lv_has ls 3 [(0, .ref q0), (1, .int (nI t))] := hl
  refine lv_aload_n hx hb dX3_giveTurnTo_0 rfl (lv_at hl 0 rfl) ?_
  refine lv_iload_n hx hb dX3_giveTurnTo_1 rfl (lv_at hl 1 rfl) ?_
  refine pf46 (ws' := [(q0, .inr (3, [.ref q1, .ref q2, .ref q3, .int (nI t), .int ov, .int mv])), (q1, .inl (T 0, 12, .inl sd)), (q3, .inl (T 0, 2, .inl so))]) F hW 0 rfl rfl rfl dX3_giveTurnTo_2 (fun H locs hW => ?_)
  refine lv_aload_n hx hb dX3_giveTurnTo_5 rfl (lv_at hl 0 rfl) ?_
  refine cRV (As := []) (rest := []) F hW hl cs314 (c_isDecided l D T q0 q1 q2 q3 (nI t) ov mv sd so) [0, 1, 2] rfl rfl 0 3 rfl rfl rfl rfl rfl (Nat.le_of_ble_eq_true rfl) ⟨Nat.le_of_ble_eq_true rfl, Nat.le_of_ble_eq_true rfl⟩ ⟨Nat.zero_le _, Nat.zero_le _⟩ dX3_giveTurnTo_6 (fun r6 hr6 => ?_)
  subst hr6
  refine lv_if_eq (tgt := 69) hx hb dX3_giveTurnTo_9 (by decide) (fun h9 => ?_) (fun h9 => ?_)
  · have hd : ¬ decP P := fun q => bz.mp h9 ((decC_congr hs ho hmv).mpr q)
    have e0 : sm 0 sd (6 * t) 6 = sm 0 P (6 * t) 6 := sm_ext (fun j h1 h2 => hs j (by omega))
    refine lv_aload_n hx hb dX3_giveTurnTo_69 rfl (lv_at hl 0 rfl) ?_
    refine lv_iload_n hx hb dX3_giveTurnTo_70 rfl (lv_at hl 1 rfl) ?_
    refine cRV (As := [.int (nI t)]) (rest := []) F hW hl cs227 (c_seedsInHousesOf l D T q0 q1 q2 q3 (nI t) ov mv sd (o := t) (by omega)) [0, 1] rfl rfl 0 3 rfl rfl rfl rfl rfl (Nat.le_of_ble_eq_true rfl) ⟨Nat.le_of_ble_eq_true rfl, Nat.le_of_ble_eq_true rfl⟩ ⟨Nat.zero_le _, Nat.zero_le _⟩ dX3_giveTurnTo_71 (fun r71 hr71 => ?_)
    subst hr71
    refine lv_if_ne (tgt := 84) hx hb dX3_giveTurnTo_74 (by decide) (fun h74 => ?_) (fun h74 => ?_)
    · have hW := Wd.arr hW 1 (fun j => (gtM P t) j) rfl (fun j hj => by rw [gt_n hd, u_n (by omega)]; exact hs j hj) (ws' := [(q0, .inr (3, [.ref q1, .ref q2, .ref q3, .int (nI t), .int ov, .int mv])), (q1, .inl (T 0, 12, .inl (fun j => (gtM P t) j))), (q3, .inl (T 0, 2, .inl so))]) rfl
      have hW := Wd.arr hW 2 (fun j => (gtM P t) (24 + j)) rfl (fun j hj => by rw [gt_n hd, u_n (by omega)]; exact ho j hj) (ws' := [(q0, .inr (3, [.ref q1, .ref q2, .ref q3, .int (nI t), .int ov, .int mv])), (q1, .inl (T 0, 12, .inl (fun j => (gtM P t) j))), (q3, .inl (T 0, 2, .inl (fun j => (gtM P t) (24 + j))))]) rfl
      have e1 : gtM P t 26 = nI t := by rw [gt_n hd, u_s, if_neg (fun q => h74 (e0.trans q))]
      have e2 : gtM P t 27 = ov := by rw [gt_n hd, u_n (by decide), hov]
      exact retV F hr hlk hW () trivial (by rw [e1, e2]) dX3_giveTurnTo_84
    · refine lv_aload_n hx hb dX3_giveTurnTo_77 rfl (lv_at hl 0 rfl) ?_
      refine lv_iconst (v := nI 1) hx hb dX3_giveTurnTo_78 (by decide) ?_
      refine lv_iload_n hx hb dX3_giveTurnTo_79 rfl (lv_at hl 1 rfl) ?_
      refine isubE (z := nI (1 - t)) hx hb dX3_giveTurnTo_80 (pk_sub (by omega)) ?_
      refine pf46 (ws' := [(q0, .inr (3, [.ref q1, .ref q2, .ref q3, .int (nI (1 - t)), .int ov, .int mv])), (q1, .inl (T 0, 12, .inl sd)), (q3, .inl (T 0, 2, .inl so))]) F hW 0 rfl rfl rfl dX3_giveTurnTo_81 (fun H locs hW => ?_)
      have hW := Wd.arr hW 1 (fun j => (gtM P t) j) rfl (fun j hj => by rw [gt_n hd, u_n (by omega)]; exact hs j hj) (ws' := [(q0, .inr (3, [.ref q1, .ref q2, .ref q3, .int (nI (1 - t)), .int ov, .int mv])), (q1, .inl (T 0, 12, .inl (fun j => (gtM P t) j))), (q3, .inl (T 0, 2, .inl so))]) rfl
      have hW := Wd.arr hW 2 (fun j => (gtM P t) (24 + j)) rfl (fun j hj => by rw [gt_n hd, u_n (by omega)]; exact ho j hj) (ws' := [(q0, .inr (3, [.ref q1, .ref q2, .ref q3, .int (nI (1 - t)), .int ov, .int mv])), (q1, .inl (T 0, 12, .inl (fun j => (gtM P t) j))), (q3, .inl (T 0, 2, .inl (fun j => (gtM P t) (24 + j))))]) rfl
      have e1 : gtM P t 26 = nI (1 - t) := by rw [gt_n hd, u_s, if_pos (e0.symm.trans h74)]
      have e2 : gtM P t 27 = ov := by rw [gt_n hd, u_n (by decide), hov]
      exact retV F hr hlk hW () trivial (by rw [e1, e2]) dX3_giveTurnTo_84
  · have hd : decP P := (decC_congr hs ho hmv).mp (Decidable.not_not.mp (fun q => h9 (bz.mpr q)))
    have s0 : sm 0 sd 0 6 = sm 0 P 0 6 := sm_ext (fun j h1 h2 => hs j (by omega))
    have s1 : sm 0 sd 6 6 = sm 0 P 6 6 := sm_ext (fun j h1 h2 => hs j (by omega))
    refine lv_aload_n hx hb dX3_giveTurnTo_12 rfl (lv_at hl 0 rfl) ?_
    refine gf44 F hW 0 rfl rfl dX3_giveTurnTo_13 ?_
    refine lv_iconst (v := nI 0) hx hb dX3_giveTurnTo_16 (by decide) ?_
    refine lv_dup2_11 hx hb dX3_giveTurnTo_17 rfl rfl ?_
    refine ald F hW 2 rfl (x := P 24) 0 rfl (by omega) (by decide) (ho 0 (by decide)) dX3_giveTurnTo_18 ?_
    refine lv_aload_n hx hb dX3_giveTurnTo_19 rfl (lv_at hl 0 rfl) ?_
    refine lv_iconst (v := nI 0) hx hb dX3_giveTurnTo_20 (by decide) ?_
    refine cRV (As := [.int (nI 0)]) (rest := [.int (P 24), .int (nI 0), .ref q3]) F hW hl cs227 (c_seedsInHousesOf l D T q0 q1 q2 q3 (nI t) ov mv sd (o := 0) (by omega)) [0, 1] rfl rfl 0 3 rfl rfl rfl rfl rfl (Nat.le_of_ble_eq_true rfl) ⟨Nat.le_of_ble_eq_true rfl, Nat.le_of_ble_eq_true rfl⟩ ⟨Nat.zero_le _, Nat.zero_le _⟩ dX3_giveTurnTo_21 (fun r21 hr21 => ?_)
    subst hr21
    refine iaddE (z := sm (P 24) P 0 6) hx hb dX3_giveTurnTo_24 (by rw [sm_z (P 24), ← s0]) ?_
    refine ast (ws' := [(q0, .inr (3, [.ref q1, .ref q2, .ref q3, .int (nI t), .int ov, .int mv])), (q1, .inl (T 0, 12, .inl sd)), (q3, .inl (T 0, 2, .inl (upd so 0 (sm (P 24) P 0 6))))]) F hW 2 (upd so 0 (sm (P 24) P 0 6)) rfl 0 rfl (by omega) (by decide) (fun _ _ => rfl) rfl dX3_giveTurnTo_25 (fun H locs hW => ?_)
    refine lv_aload_n hx hb dX3_giveTurnTo_26 rfl (lv_at hl 0 rfl) ?_
    refine gf44 F hW 0 rfl rfl dX3_giveTurnTo_27 ?_
    refine lv_iconst (v := nI 1) hx hb dX3_giveTurnTo_30 (by decide) ?_
    refine lv_dup2_11 hx hb dX3_giveTurnTo_31 rfl rfl ?_
    refine ald F hW 2 rfl (x := P 25) 1 rfl (by omega) (by decide) (by rw [u_n (by decide)]; exact ho 1 (by decide)) dX3_giveTurnTo_32 ?_
    refine lv_aload_n hx hb dX3_giveTurnTo_33 rfl (lv_at hl 0 rfl) ?_
    refine lv_iconst (v := nI 1) hx hb dX3_giveTurnTo_34 (by decide) ?_
    refine cRV (As := [.int (nI 1)]) (rest := [.int (P 25), .int (nI 1), .ref q3]) F hW hl cs227 (c_seedsInHousesOf l D T q0 q1 q2 q3 (nI t) ov mv sd (o := 1) (by omega)) [0, 1] rfl rfl 0 3 rfl rfl rfl rfl rfl (Nat.le_of_ble_eq_true rfl) ⟨Nat.le_of_ble_eq_true rfl, Nat.le_of_ble_eq_true rfl⟩ ⟨Nat.zero_le _, Nat.zero_le _⟩ dX3_giveTurnTo_35 (fun r35 hr35 => ?_)
    subst hr35
    refine iaddE (z := sm (P 25) P 6 6) hx hb dX3_giveTurnTo_38 (by rw [sm_z (P 25), ← s1]) ?_
    refine ast (ws' := [(q0, .inr (3, [.ref q1, .ref q2, .ref q3, .int (nI t), .int ov, .int mv])), (q1, .inl (T 0, 12, .inl sd)), (q3, .inl (T 0, 2, .inl (upd (upd so 0 (sm (P 24) P 0 6)) 1 (sm (P 25) P 6 6))))]) F hW 2 (upd (upd so 0 (sm (P 24) P 0 6)) 1 (sm (P 25) P 6 6)) rfl 1 rfl (by omega) (by decide) (fun _ _ => rfl) rfl dX3_giveTurnTo_39 (fun H locs hW => ?_)
    refine lv_iconst (v := nI 0) hx hb dX3_giveTurnTo_40 (by decide) ?_
    refine lv_istore_n (lv' := [(2, .int (nI 0)), (0, .ref q0), (1, .int (nI t))]) hx hb dX3_giveTurnTo_41 rfl hl (by decide) rfl (fun ls hl => ?_)
    have hW := Wd.arr hW 2 (fun j => (gtM P t) (24 + j)) rfl (fun j hj => by rw [gt_y hd, u_n (show 24 + j ≠ 26 by omega)]; rcases (show j = 0 ∨ j = 1 by omega) with rfl | rfl <;> simp [upd, endsM]) (ws' := [(q0, .inr (3, [.ref q1, .ref q2, .ref q3, .int (nI t), .int ov, .int mv])), (q1, .inl (T 0, 12, .inl sd)), (q3, .inl (T 0, 2, .inl (fun j => (gtM P t) (24 + j))))]) rfl
    have hW := Wd.arr hW 1 (fun j => if j < 0 then 0 else P j) rfl (fun j hj => by rw [if_neg (Nat.not_lt_zero j)]; exact hs j hj) (ws' := [(q0, .inr (3, [.ref q1, .ref q2, .ref q3, .int (nI t), .int ov, .int mv])), (q1, .inl (T 0, 12, .inl (fun j => if j < 0 then 0 else P j))), (q3, .inl (T 0, 2, .inl (fun j => (gtM P t) (24 + j))))]) rfl
    refine W.loop (fun n H2 locs2 ls2 => ∃ k, k ≤ 12 ∧ n = 12 - k ∧ Wd D T A s [(q0, .inr (3, [.ref q1, .ref q2, .ref q3, .int (nI t), .int ov, .int mv])), (q1, .inl (T 0, 12, .inl (fun j => if j < k then 0 else P j))), (q3, .inl (T 0, 2, .inl (fun j => (gtM P t) (24 + j))))] H2 locs2 ∧ lv_has ls2 3 [(0, .ref q0), (1, .int (nI t)), (2, .int (nI k))]) ?_ 12 ⟨0, by omega, rfl, hW, lv_sub hl [1, 2, 0] rfl⟩
    rintro n H locs ls ⟨k, hk, rfl, hW, hl⟩ ih
    refine lv_iload_n hx hb dX3_giveTurnTo_42 rfl (lv_at hl 2 rfl) ?_
    refine lv_bipush (v := nI 12) hx hb dX3_giveTurnTo_43 (by decide) ?_
    refine lv_icmp_ge (tgt := 61) hx hb dX3_giveTurnTo_45 (by decide) (fun h45 => ?_) (fun h45 => ?_)
    · have h5 : k = 12 := by have := n_le h45 (by omega) (by omega); omega
      subst h5
      refine lv_aload_n hx hb dX3_giveTurnTo_61 rfl (lv_at hl 0 rfl) ?_
      refine lv_iconst (v := 1) hx hb dX3_giveTurnTo_62 (by decide) ?_
      refine pf50 (ws' := [(q0, .inr (3, [.ref q1, .ref q2, .ref q3, .int (nI t), .int 1, .int mv])), (q1, .inl (T 0, 12, .inl (fun j => if j < 12 then 0 else P j))), (q3, .inl (T 0, 2, .inl (fun j => (gtM P t) (24 + j))))]) F hW 0 rfl rfl rfl rfl rfl dX3_giveTurnTo_63 (fun H locs hW => ?_)
      refine lv_goto (tgt := 84) hx hb dX3_giveTurnTo_66 (by decide) ?_
      have hW := Wd.arr hW 1 (fun j => (gtM P t) j) rfl (fun j hj => by rw [if_pos hj, gt_y hd, ends_lo hj]) (ws' := [(q0, .inr (3, [.ref q1, .ref q2, .ref q3, .int (nI t), .int 1, .int mv])), (q1, .inl (T 0, 12, .inl (fun j => (gtM P t) j))), (q3, .inl (T 0, 2, .inl (fun j => (gtM P t) (24 + j))))]) rfl
      have e1 : gtM P t 26 = nI t := by rw [gt_y hd, u_s]
      have e2 : gtM P t 27 = 1 := by rw [gt_y hd, u_n (by decide)]; rfl
      exact retV F hr hlk hW () trivial (by rw [e1, e2]) dX3_giveTurnTo_84
    · have h5 : k < 12 := by have := n_nle h45 (by omega) (by omega); omega
      refine lv_aload_n hx hb dX3_giveTurnTo_48 rfl (lv_at hl 0 rfl) ?_
      refine gf40 F hW 0 rfl rfl dX3_giveTurnTo_49 ?_
      refine lv_iload_n hx hb dX3_giveTurnTo_52 rfl (lv_at hl 2 rfl) ?_
      refine lv_iconst (v := 0) hx hb dX3_giveTurnTo_53 (by decide) ?_
      refine ast (ws' := [(q0, .inr (3, [.ref q1, .ref q2, .ref q3, .int (nI t), .int ov, .int mv])), (q1, .inl (T 0, 12, .inl (fun j => if j < k + 1 then 0 else P j))), (q3, .inl (T 0, 2, .inl (fun j => (gtM P t) (24 + j))))]) F hW 1 (fun j => if j < k + 1 then 0 else P j) rfl k rfl (by omega) (by decide) (fun j hj => by by_cases q : j = k <;> simp [upd, q] <;> (split <;> split <;> first | rfl | omega)) rfl dX3_giveTurnTo_54 (fun H locs hW => ?_)
      refine lv_iinc (v := nI (k + 1)) (lv' := [(2, .int (nI (k + 1))), (0, .ref q0), (1, .int (nI t))]) hx hb dX3_giveTurnTo_55 hl (k := 2) rfl (nI_add _ _) (by decide) rfl (fun ls hl => ?_)
      refine lv_goto (tgt := 42) hx hb dX3_giveTurnTo_58 (by decide) ?_
      exact ih (12 - (k + 1)) _ _ _ (by omega) ⟨k + 1, by omega, rfl, hW, lv_sub hl [1, 2, 0] rfl⟩
