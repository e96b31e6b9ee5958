-- the law's small methods
section ISHR
variable {p : Program} {l : Launch} {e : Env} {R : Room} {s : State} {m : MethodId} {args : Array Value} {below : List Frame} {meth : Method} {c : Code} {H : Heap} {locs : List Loc} {cells slots : Nat} {Q : State → Prop} {cc : ByteArray} {pc : Nat} {ls : Array Slot} {rest : List Value}
theorem ishrX (hexec : p.tables.exec = Jvm.exec) (hb : c.code = cc) {x y : Int32} (hdg : decode cc pc = .ok (.ishr, 1)) (kk : ∀ z : Int32, W p l e R s m args below meth c H locs cells slots Q (F0 m (pc + 1) ls (.int z :: rest))) : W p l e R s m args below meth c H locs cells slots Q (F0 m pc ls (.int y :: .int x :: rest)) := lv_ishr hexec hb hdg (kk _)
end ISHR
theorem k242 : (Cond.constant RL 7 (528734635 : Int32)) ∈ gtbl := List.mem_filter.mpr ⟨List.mem_of_getElem? (i := 242) (by decide +kernel), by decide +kernel⟩
theorem k249 : (Cond.constant RL 8 (2147483647 : Int32)) ∈ gtbl := List.mem_filter.mpr ⟨List.mem_of_getElem? (i := 249) (by decide +kernel), by decide +kernel⟩
set_option maxHeartbeats 4000000 in
theorem c_up (l : Launch) (D : va_G) (T : Nat → ClassId) (x : Int32) {n : Nat} (hn : 0 < n) (hn2 : n < 2 ^ 31) : KR l D T yL_up cL_up 2 (some .int) 0 [.int x, .int (nI n)] [] (fun r => ∃ j, j < n ∧ r = nI j) := by
  refine KR.of (by decide +kernel) (Nat.le_of_ble_eq_true rfl) (fun p e s m below meth c F hr hlk hW ls hl => ?_)
  have hx := F.1
  have hb := F.2.1
  have hl : lv_has ls 2 [(0, .int x), (1, .int (nI n))] := hl
  refine lv_iload_n hx hb dL_up_0 rfl (lv_at hl 0 rfl) ?_
  refine lv_ldc hx hb F.2.2.2.1 (F.2.2.2.2 _ k249) dL_up_1 ?_
  obtain ⟨a, ha, ea⟩ := pk_andE x (m := 2147483647) 31 (by decide)
  refine lv_iand hx hb dL_up_3 ?_
  rw [ea]
  refine lv_iload_n hx hb dL_up_4 rfl (lv_at hl 1 rfl) ?_
  refine iremE (z := nI (a % n)) hx hb dL_up_5 ⟨fun z => by have := n_eq (b := 0) z hn2 (by decide); omega, pk_rem ha hn hn2⟩ ?_
  exact retR F hr hlk rfl ⟨a % n, Nat.mod_lt _ hn, rfl⟩ dL_up_6
set_option maxHeartbeats 4000000 in
theorem c_other (l : Launch) (D : va_G) (T : Nat → ClassId) (x : Int32) : KR l D T yL_other cL_other 1 (some .int) 0 [.int x] [] (fun r => r = otI x) := by
  refine KR.of (by decide +kernel) (Nat.le_of_ble_eq_true rfl) (fun p e s m below meth c F hr hlk hW ls hl => ?_)
  have hx := F.1
  have hb := F.2.1
  have hl : lv_has ls 1 [(0, .int x)] := hl
  refine lv_iload_n hx hb dL_other_0 rfl (lv_at hl 0 rfl) ?_
  refine lv_if_lt (tgt := 10) hx hb dL_other_1 (by decide) (fun h1 => ?_) (fun h1 => ?_)
  · have q1 := (i_lt _ _).mp h1
    rw [i_0] at q1
    refine lv_iload_n hx hb dL_other_10 rfl (lv_at hl 0 rfl) ?_
    refine lv_goto (tgt := 21) hx hb dL_other_11 (by decide) ?_
    exact retR F hr hlk rfl (if_neg (fun z : rng 0 11 x => by have := z.1; omega)).symm dL_other_21
  · have q1 : ¬ x.toInt < 0 := fun z => h1 ((i_lt _ _).mpr (by rw [i_0]; exact z))
    refine lv_iload_n hx hb dL_other_4 rfl (lv_at hl 0 rfl) ?_
    refine lv_bipush (v := nI 11) hx hb dL_other_5 (by decide) ?_
    refine lv_icmp_le (tgt := 14) hx hb dL_other_7 (by decide) (fun h7 => ?_) (fun h7 => ?_)
    · have q2 := (i_le _ _).mp h7
      rw [nI_toInt (by decide)] at q2
      obtain ⟨k, kb, kl, ek, ck⟩ := rng_nat (x := x) (b := 11) ⟨by omega, by omega⟩
      rw [ek] at hl
      refine lv_iload_n hx hb dL_other_14 rfl (lv_at hl 0 rfl) ?_
      refine lv_bipush (v := nI 6) hx hb dL_other_15 (by decide) ?_
      refine iaddE (z := nI (k + 6)) hx hb dL_other_17 (nI_add _ _) ?_
      refine lv_bipush (v := nI 12) hx hb dL_other_18 (by decide) ?_
      refine iremE (z := nI (sg k)) hx hb dL_other_20 ⟨by decide, pk_rem (a := k + 6) (d := 12) (by omega) (by decide) (by decide)⟩ ?_
      exact retR F hr hlk rfl (by rw [ek, otI_n (by omega)]) dL_other_21
    · have q2 : ¬ x.toInt ≤ 11 := fun z => h7 ((i_le _ _).mpr (by rw [nI_toInt (by decide)]; exact z))
      refine lv_iload_n hx hb dL_other_10 rfl (lv_at hl 0 rfl) ?_
      refine lv_goto (tgt := 21) hx hb dL_other_11 (by decide) ?_
      exact retR F hr hlk rfl (if_neg (fun z : rng 0 11 x => by have := z.2; omega)).symm dL_other_21
set_option maxHeartbeats 4000000 in
theorem c_turned (l : Launch) (D : va_G) (T : Nat → ClassId) (x : Int32) : KR l D T yL_turned cL_turned 1 (some .int) 0 [.int x] [] (fun r => r = tuI x) := by
  refine KR.of (by decide +kernel) (Nat.le_of_ble_eq_true rfl) (fun p e s m below meth c F hr hlk hW ls hl => ?_)
  have hx := F.1
  have hb := F.2.1
  have hl : lv_has ls 1 [(0, .int x)] := hl
  refine lv_iload_n hx hb dL_turned_0 rfl (lv_at hl 0 rfl) ?_
  refine lv_if_eq (tgt := 9) hx hb dL_turned_1 (by decide) (fun h1 => ?_) (fun h1 => ?_)
  · refine lv_iconst (v := nI 1) hx hb dL_turned_9 (by decide) ?_
    refine lv_iload_n hx hb dL_turned_10 rfl (lv_at hl 0 rfl) ?_
    refine isubE (z := (nI 1) - x) hx hb dL_turned_11 rfl ?_
    refine lv_goto (tgt := 16) hx hb dL_turned_12 (by decide) ?_
    exact retR F hr hlk rfl (if_pos (Or.inl h1)).symm dL_turned_16
  · refine lv_iload_n hx hb dL_turned_4 rfl (lv_at hl 0 rfl) ?_
    refine lv_iconst (v := nI 1) hx hb dL_turned_5 (by decide) ?_
    refine lv_icmp_ne (tgt := 15) hx hb dL_turned_6 (by decide) (fun h6 => ?_) (fun h6 => ?_)
    · refine lv_iload_n hx hb dL_turned_15 rfl (lv_at hl 0 rfl) ?_
      exact retR F hr hlk rfl (if_neg (fun z => z.elim h1 (fun z2 => h6 z2))).symm dL_turned_16
    · refine lv_iconst (v := nI 1) hx hb dL_turned_9 (by decide) ?_
      refine lv_iload_n hx hb dL_turned_10 rfl (lv_at hl 0 rfl) ?_
      refine isubE (z := (nI 1) - x) hx hb dL_turned_11 rfl ?_
      refine lv_goto (tgt := 16) hx hb dL_turned_12 (by decide) ?_
      exact retR F hr hlk rfl (if_pos (Or.inr h6)).symm dL_turned_16
theorem blindX (av : List Value) (b L : Nat) (xs : Nat → Int32) : FrameBlind (va_Pc av (fun U => va_X b L xs U U.heap)) := fun a U g mk q => ⟨q.1, va_X.moved (u := U) (U := U.calling g mk a) (Vm.Alike.refl U.vm) q.2⟩
set_option maxHeartbeats 4000000 in
theorem c_cell (l : Launch) {b L k : Nat} {xs : Nat → Int32} (hL : L < 2 ^ 31) (hk : k < 2 ^ 31) : Met l yL_cell (.code yL_cell cL_cell 2 (some .int) :: gtbl) (gR 0 0 0) (va_Pc [.ref b, .int (nI k)] (fun U => va_X b L xs U U.heap)) (vp_Si (fun _ => True)) 0 0 (fun _ => False) := by
  refine Met.ofW (cc := cL_cell) (maxL := 2) (ret := (some .int)) (by decide +kernel) rfl ?_
  intro p e s m args below meth c s₁ B hml hv
  obtain ⟨rfl, hX⟩ := hv
  have hl0 := lv_entry [.ref b, .int (nI k)] (n := 2) (Nat.le_of_ble_eq_true rfl)
  rw [lg_entry_eq]
  have F : CallFix p m c cL_cell 2 s [.ref b, .int (nI k)].toArray gtbl RL := ⟨B.exec, B.bytes, hml, findClass_of_methodNamed B.named, hts_of B.pre⟩
  have hr := B.returns
  have hlk := B.notSynchronized
  have hx := F.1
  have hb := F.2.1
  have hbl : b < s.heap.size := by
    obtain ⟨scr, h1, -⟩ := hX
    exact (Array.getElem?_eq_some_iff.mp h1).1
  have body : ∀ ls : Array Slot, lv_has ls 2 [(0, .ref b), (1, .int (nI k))] → W p l e (gR 0 0 0) s m [.ref b, .int (nI k)].toArray below meth c s.heap [] 0 0 (MQ below (vp_Si (fun _ => True)) [.ref b, .int (nI k)].toArray s 0 0 (fun _ => False)) (F0 m 0 ls []) := by
    intro ls hl
    refine lv_iload_n hx hb dL_cell_0 rfl (lv_at hl 1 rfl) ?_
    refine lv_aload_n hx hb dL_cell_1 rfl (lv_at hl 0 rfl) ?_
    refine va_slen hx hb hX hbl (A := fun _ => False) (fun z => z) va_S.rf dL_cell_2 ?_
    refine lv_icmp_ge (tgt := 12) hx hb dL_cell_3 (by decide) (fun h3 => ?_) (fun h3 => ?_)
    · refine lv_ldc hx hb F.2.2.2.1 (F.2.2.2.2 _ k242) dL_cell_12 ?_
      refine lv_iload_n hx hb dL_cell_14 rfl (lv_at hl 1 rfl) ?_
      refine lv_sipush (v := nI 947) hx hb dL_cell_15 (by decide) ?_
      refine iaddE (z := nI (k + 947)) hx hb dL_cell_18 (nI_add _ _) ?_
      refine imulE (z := 528734635 * (nI (k + 947))) hx hb dL_cell_19 rfl ?_
      exact retR F hr hlk rfl trivial dL_cell_20
    · have hkl : k < L := n_nle h3 hL hk
      refine lv_aload_n hx hb dL_cell_6 rfl (lv_at hl 0 rfl) ?_
      refine lv_iload_n hx hb dL_cell_7 rfl (lv_at hl 1 rfl) ?_
      refine va_sld hx hb hX hbl (A := fun _ => False) (fun z => z) va_S.rf (vp_in_nI hkl hL) dL_cell_8 ?_
      refine lv_goto (tgt := 20) hx hb dL_cell_9 (by decide) ?_
      exact retR F hr hlk rfl trivial dL_cell_20
  exact body _ hl0
section CCELL
variable {p : Program} {l : Launch} {e : Env} {R : Room} {s : State} {m : MethodId} {args : Array Value} {below : List Frame} {meth : Method} {c : Code} {H : Heap} {locs : List Loc} {cells slots : Nat} {Q : State → Prop} {cc : ByteArray} {nL : Nat} {own : String} {D : va_G} {T : Nat → ClassId} {A : Nat → Prop} {ws : va_W} {pc idx : Nat} {ls : Array Slot} {rest st : List Value} {lv : List (Nat × Value)}
theorem cCell (F : CallFix p m c cc nL s args gtbl own) {b L k : Nat} {xs : Nat → Int32} (hX : va_X b L xs s s.heap) (hbl : b < s.heap.size) (hbA : ¬ A b) (hL : L < 2 ^ 31) (hk : k < 2 ^ 31) (hW : Wd D T A s ws H locs) (hl : lv_has ls nL lv) (cw : CalS own idx yL_cell cL_cell 2 (some .int) 2) (hst : st = .int (nI k) :: .ref b :: rest) (hroom : (rest.map fun v => v.category).sum ≤ 8) (hR : 0 + 1 ≤ R.frames ∧ 8 + (2 + 11) + 32 * 0 ≤ R.locals) (hcs : cells ≤ R.cells ∧ slots ≤ R.slots) (hdg : decode cc pc = .ok (.invokestatic idx, 3))
    (kk : ∀ r : Int32, W p l e R s m args below meth c H locs cells slots Q (F0 m (pc + 3) ls (.int r :: rest))) : W p l e R s m args below meth c H locs cells slots Q (F0 m pc ls st) := by
  subst hst
  refine csi (va_runS (As := [.ref b, .int (nI k)]) (rest := rest) F (c_cell l (b := b) (L := L) (xs := xs) hL hk) (va_cwS 2 F.2.2.2.2 (goodS cw) rfl rfl rfl cw.2 hR) ⟨blindX _ _ _ _, fun U hU hWm => ⟨rfl, ?_⟩⟩ rfl rfl hl.1 rfl (lv_room hroom) hdg hcs) (fun r _ => kk r)
  show va_X b L xs U U.heap
  rw [hU]
  exact (va_X.moved hWm.alike hX).kept (hW.2.2.2.1.2.1 b hbl hbA)
end CCELL
set_option maxHeartbeats 4000000 in
set_option maxRecDepth 100000 in
theorem c_number (l : Launch) (D : va_G) (T : Nat → ClassId) (L Z : va_W) (g : GA) (t : Nat → Int32) {n d b : Nat} {u : UX} (hU : UR (pY t n) u) (hd : d < 10) (hb1 : 33 ≤ b) (hb2 : b ≤ 126) (hn : n + 2 ≤ 60) : KI (S := UX) l D T yL_number cL_number 3 (some .boolean) 5 [.ref (g.1 0), .int (nI d), .int (nI b)] (L ++ (XG T g (pY t n) u ++ Z)) (fun r q => r = 1 ∧ UR (pY (padT t n d b) (n + 2)) q) (fun q => L ++ (XG T g (pY (padT t n d b) (n + 2)) q ++ Z)) := by
  refine KI.of (by decide +kernel) (Nat.le_of_ble_eq_true rfl) (fun p e s m below meth c A F hr hlk hW ls hl => ?_)
  have hx := F.1
  have hb := F.2.1
  have hl : lv_has ls 3 [(0, .ref (g.1 0)), (1, .int (nI d)), (2, .int (nI b))] := hl
  refine lv_iload_n hx hb dL_number_0 rfl (lv_at hl 1 rfl) ?_
  refine lv_bipush (v := nI 10) hx hb dL_number_1 (by decide) ?_
  refine lv_icmp_lt (tgt := 21) hx hb dL_number_3 (by decide) (fun _ => ?_) (fun h9 => absurd ((nI_ltI (by omega) (by decide)).mpr hd) h9)
  refine lv_aload_n hx hb dL_number_21 rfl (lv_at hl 0 rfl) ?_
  refine lv_bipush (v := nI 48) hx hb dL_number_22 (by decide) ?_
  refine lv_iload_n hx hb dL_number_24 rfl (lv_at hl 1 rfl) ?_
  refine lv_bipush (v := nI 10) hx hb dL_number_25 (by decide) ?_
  refine iremE (z := nI d) hx hb dL_number_27 ⟨by decide, (pk_rem (a := d) (d := 10) (by omega) (by decide) (by decide)).trans (congrArg nI (Nat.mod_eq_of_lt hd))⟩ ?_
  refine iaddE (z := nI (48 + d)) hx hb dL_number_28 (nI_add _ _) ?_
  refine lv_i2l (v := lN (48 + d)) hx hb dL_number_29 (nI_l (by omega)) ?_
  refine cGI (As := [.long (lN (48 + d))]) (rest := []) F L (XG T g (pY t n) u) Z hW hl cs257 (g_put1 l D T g t hU (by omega) (by omega) (by omega)) 8 6 (xg_at _ _ _ _) rfl rfl rfl rfl (Nat.le_of_ble_eq_true rfl) ⟨Nat.le_of_ble_eq_true rfl, Nat.le_of_ble_eq_true rfl⟩ ⟨Nat.zero_le _, Nat.zero_le _⟩ dL_number_30 (fun r30 u30 H locs hp30 hW => ?_)
  obtain ⟨hr30, hU30⟩ := hp30
  subst hr30
  refine lv_if_le (tgt := 49) hx hb dL_number_33 (by decide) (fun h9 => absurd h9 (fun z => by have h9 := n_le (b := 0) z (by omega) (by decide); omega)) (fun _ => ?_)
  refine lv_aload_n hx hb dL_number_36 rfl (lv_at hl 0 rfl) ?_
  refine lv_iload_n hx hb dL_number_37 rfl (lv_at hl 2 rfl) ?_
  refine lv_i2l (v := lN b) hx hb dL_number_38 (nI_l (by omega)) ?_
  refine cGI (As := [.long (lN b)]) (rest := []) F L (XG T g (pY (apT t n 1 (48 + d) 1) (n + 1)) u30) Z hW hl cs257 (g_put1 l D T g (apT t n 1 (48 + d) 1) hU30 (by omega) (by omega) (by omega)) 8 6 (xg_at _ _ _ _) rfl rfl rfl rfl (Nat.le_of_ble_eq_true rfl) ⟨Nat.le_of_ble_eq_true rfl, Nat.le_of_ble_eq_true rfl⟩ ⟨Nat.zero_le _, Nat.zero_le _⟩ dL_number_39 (fun r39 u39 H locs hp39 hW => ?_)
  obtain ⟨hr39, hU39⟩ := hp39
  subst hr39
  refine lv_if_le (tgt := 49) hx hb dL_number_42 (by decide) (fun h9 => absurd h9 (fun z => by have h9 := n_le (b := 0) z (by omega) (by decide); omega)) (fun _ => ?_)
  refine lv_iconst (v := 1) hx hb dL_number_45 (by decide) ?_
  refine lv_goto (tgt := 50) hx hb dL_number_46 (by decide) ?_
  exact retI F hr hlk rfl hW u39 ⟨rfl, hU39⟩ rfl dL_number_50
