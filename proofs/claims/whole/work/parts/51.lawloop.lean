-- the law's loop
set_option maxHeartbeats 4000000 in
set_option maxRecDepth 100000 in
theorem law_loop {p : Program} {l : Launch} {e : Env} {s : State} {m : MethodId} {below : List Frame} {meth : Method} {c : Code} {D : va_G} {T : Nat → ClassId} {b L : Nat} {xs : Nat → Int32} (hL : L ≤ 1536) (C0 : lw_At p s m meth c b L xs) (F : CallFix p m c cL_law 4 s #[Value.ref b] gtbl RL) (hG : GW (fun q : Nat => s.heap.size ≤ q) s s.heap) {n a : Nat → Nat} {hd sd bd : Nat → Nat → Nat} {ta z : Nat → Nat} : ∀ (w i : Nat) (H : Heap) (locs : List Loc) (ls : Array Slot), L + 3 ≤ i + w → i ≤ L + 3 → LI D T (fun q : Nat => s.heap.size ≤ q) s n a hd sd bd ta z H locs → lv_has ls 4 [(0, .ref b), (1, .ref (n 0)), (2, .ref (z 0)), (3, .int (nI i))] → W p l e room_1 s m #[Value.ref b] below meth c H locs 600000 7302250 (lw_Z below #[Value.ref b] s) (F0 m 18 ls []) := by
  obtain ⟨hx, hb, hr, hml, hown, hts, hX, hbl, hlocks, hgv⟩ := C0
  have hbA : ¬ (fun q : Nat => s.heap.size ≤ q) b := Nat.not_le.mpr hbl
  intro w
  induction w with
  | zero =>
    intro i H locs ls h1 h2 hLI hl
    have hi : i = L + 3 := by omega
    subst hi
    obtain ⟨Y, u, c0, hY, ⟨hn, hh, hs2⟩, hW⟩ := hLI
    refine lv_iload_n hx hb dL_law_18 rfl (lv_at hl 3 rfl) ?_
    refine lv_aload_n hx hb dL_law_19 rfl (lv_at hl 0 rfl) ?_
    refine va_slen hx hb hX hbl hbA hW.2.2.2.1 dL_law_20 ?_
    refine lv_iconst (v := nI 3) hx hb dL_law_21 (by decide) ?_
    refine isubE (z := nI L - nI 3) hx hb dL_law_22 rfl ?_
    have e0 : (nI L - nI 3).toInt = (L : Int) - 3 := by
      have a1 := nI_toInt (n := L) (by omega)
      have a2 := nI_toInt (n := 3) (by decide)
      rw [i_sub (by omega) (by omega), a1, a2]
      rfl
    refine lv_icmp_gt (tgt := 577) hx hb dL_law_23 (by decide) (fun h23 => ?_) (fun h23 => ?_)
    · refine lv_iconst (v := 1) hx hb dL_law_577 (by decide) ?_
      refine va_forget (fun q hq => hW.2.2.2.1.2.2 q hq) ?_
      exact lw_ret hx hb hr hlocks dL_law_578
    · exact absurd ((i_lt _ _).mpr (by rw [e0, nI_toInt (by omega)]; omega)) h23
  | succ w ih =>
    intro i H locs ls h1 h2 hLI hl
    have hLI2 := hLI
    obtain ⟨Y, u, c0, hY, ⟨hn, hh, hs2⟩, hW⟩ := hLI
    refine lv_iload_n hx hb dL_law_18 rfl (lv_at hl 3 rfl) ?_
    refine lv_aload_n hx hb dL_law_19 rfl (lv_at hl 0 rfl) ?_
    refine va_slen hx hb hX hbl hbA hW.2.2.2.1 dL_law_20 ?_
    refine lv_iconst (v := nI 3) hx hb dL_law_21 (by decide) ?_
    refine isubE (z := nI L - nI 3) hx hb dL_law_22 rfl ?_
    have e0 : (nI L - nI 3).toInt = (L : Int) - 3 := by
      have a1 := nI_toInt (n := L) (by omega)
      have a2 := nI_toInt (n := 3) (by decide)
      rw [i_sub (by omega) (by omega), a1, a2]
      rfl
    refine lv_icmp_gt (tgt := 577) hx hb dL_law_23 (by decide) (fun h23 => ?_) (fun h23 => ?_)
    · refine lv_iconst (v := 1) hx hb dL_law_577 (by decide) ?_
      refine va_forget (fun q hq => hW.2.2.2.1.2.2 q hq) ?_
      exact lw_ret hx hb hr hlocks dL_law_578
    · have hi : i + 2 < L := by
        rcases Nat.lt_or_ge (i + 2) L with q | q
        · exact q
        · exact absurd ((i_lt _ _).mpr (by rw [e0, nI_toInt (by omega)]; omega)) h23
      have kk : ∀ (H1 : Heap) (locs1 : List Loc), LI D T (fun q : Nat => s.heap.size ≤ q) s n a hd sd bd ta z H1 locs1 → W p l e room_1 s m #[Value.ref b] below meth c H1 locs1 600000 7302250 (lw_Z below #[Value.ref b] s) (F0 m 571 ls []) := by
        intro H1 locs1 hLI1
        refine lv_iinc (v := nI (i + 3)) (lv' := [(3, .int (nI (i + 3))), (0, .ref b), (1, .ref (n 0)), (2, .ref (z 0))]) hx hb dL_law_571 hl (k := 3) rfl (nI_add _ _) (by decide) rfl (fun ls hl => ?_)
        refine lv_goto (tgt := 18) hx hb dL_law_574 (by decide) ?_
        exact ih (i + 3) H1 locs1 ls (by omega) (by omega) hLI1 (lv_sub hl [1, 2, 3, 0] rfl)
      refine lv_aload_n hx hb dL_law_26 rfl (lv_at hl 0 rfl) ?_
      refine lv_iload_n hx hb dL_law_27 rfl (lv_at hl 3 rfl) ?_
      refine sld F hX hbl hbA hW (k := i) (by omega) hL dL_law_28 ?_
      refine lv_bipush (v := 31) hx hb dL_law_29 (by decide) ?_
      refine lv_iand hx hb dL_law_31 ?_
      obtain ⟨v9, hv9⟩ : ∃ y : Int32, y = xs i &&& 31 := ⟨_, rfl⟩
      rw [← hv9]
      by_cases q : rng 0 18 v9
      · obtain ⟨k, kb, kl, ek, ck⟩ := rng_nat q
        rw [ek]
        have hc : k = 0 ∨ k = 1 ∨ k = 2 ∨ k = 3 ∨ k = 4 ∨ k = 5 ∨ k = 6 ∨ k = 7 ∨ k = 8 ∨ k = 9 ∨ k = 10 ∨ k = 11 ∨ k = 12 ∨ k = 13 ∨ k = 14 ∨ k = 15 ∨ k = 16 ∨ k = 17 ∨ k = 18 := by omega
        rcases hc with rfl | rfl | rfl | rfl | rfl | rfl | rfl | rfl | rfl | rfl | rfl | rfl | rfl | rfl | rfl | rfl | rfl | rfl | rfl
        · refine lv_tableIn (off := 92) (tgt := 124) hx hb dL_law_32 (by decide) (by decide) (by decide) (by decide) ?_
          exact law_set hL F hG hX hbl hbA hY hn hh hs2 hW hi hl kk
        · refine lv_tableIn (off := 125) (tgt := 157) hx hb dL_law_32 (by decide) (by decide) (by decide) (by decide) ?_
          exact law_begin hL F hG hX hbl hbA hY hn hh hs2 hW hi hl kk
        · refine lv_tableIn (off := 138) (tgt := 170) hx hb dL_law_32 (by decide) (by decide) (by decide) (by decide) ?_
          exact law_move hL F hG hX hbl hbA hY hn hh hs2 hW hi hl kk
        · refine lv_tableIn (off := 161) (tgt := 193) hx hb dL_law_32 (by decide) (by decide) (by decide) (by decide) ?_
          exact law_play hL F hG hX hbl hbA hY hn hh hs2 hW hi hl kk
        · refine lv_tableIn (off := 184) (tgt := 216) hx hb dL_law_32 (by decide) (by decide) (by decide) (by decide) ?_
          exact law_read hL F hG hX hbl hbA hY hn hh hs2 hW hi hl kk
        · refine lv_tableIn (off := 197) (tgt := 229) hx hb dL_law_32 (by decide) (by decide) (by decide) (by decide) ?_
          exact law_house hL F hG hX hbl hbA hY hn hh hs2 hW hi hl kk
        · refine lv_tableIn (off := 230) (tgt := 262) hx hb dL_law_32 (by decide) (by decide) (by decide) (by decide) ?_
          exact law_count hL F hG hX hbl hbA hY hn hh hs2 hW hi hl kk
        · refine lv_tableIn (off := 253) (tgt := 285) hx hb dL_law_32 (by decide) (by decide) (by decide) (by decide) ?_
          exact law_last hL F hG hX hbl hbA hY hn hh hs2 hW hi hl kk
        · refine lv_tableIn (off := 276) (tgt := 308) hx hb dL_law_32 (by decide) (by decide) (by decide) (by decide) ?_
          exact law_moved hL F hG hX hbl hbA hY hn hh hs2 hW hi hl kk
        · refine lv_tableIn (off := 299) (tgt := 331) hx hb dL_law_32 (by decide) (by decide) (by decide) (by decide) ?_
          exact law_ifMove hL F hG hX hbl hbA hY hn hh hs2 hW hi hl kk
        · refine lv_tableIn (off := 332) (tgt := 364) hx hb dL_law_32 (by decide) (by decide) (by decide) (by decide) ?_
          exact law_worth hL F hG hX hbl hbA hY hn hh hs2 hW hi hl kk
        · refine lv_tableIn (off := 355) (tgt := 387) hx hb dL_law_32 (by decide) (by decide) (by decide) (by decide) ?_
          exact law_best hL F hG hX hbl hbA hY hn hh hs2 hW hi hl kk
        · refine lv_tableIn (off := 378) (tgt := 410) hx hb dL_law_32 (by decide) (by decide) (by decide) (by decide) ?_
          exact law_movesLeft hL F hG hX hbl hbA hY hn hh hs2 hW hi hl kk
        · refine lv_tableIn (off := 401) (tgt := 433) hx hb dL_law_32 (by decide) (by decide) (by decide) (by decide) ?_
          exact law_put hL F hG hX hbl hbA hY hn hh hs2 hW hi hl kk
        · refine lv_tableIn (off := 454) (tgt := 486) hx hb dL_law_32 (by decide) (by decide) (by decide) (by decide) ?_
          exact law_wipe hL F hG hX hbl hbA hY hn hh hs2 hW hi hl kk
        · refine lv_tableIn (off := 467) (tgt := 499) hx hb dL_law_32 (by decide) (by decide) (by decide) (by decide) ?_
          exact law_fault hL F hG hX hbl hbA hY hn hh hs2 hW hi hl kk
        · refine lv_tableIn (off := 480) (tgt := 512) hx hb dL_law_32 (by decide) (by decide) (by decide) (by decide) ?_
          exact law_undo hL F hG hX hbl hbA hY hn hh hs2 hW hi hl kk
        · refine lv_tableIn (off := 493) (tgt := 525) hx hb dL_law_32 (by decide) (by decide) (by decide) (by decide) ?_
          exact law_save hL F hG hX hbl hbA hY hn hh hs2 hW hi hl kk
        · refine lv_tableIn (off := 516) (tgt := 548) hx hb dL_law_32 (by decide) (by decide) (by decide) (by decide) ?_
          exact law_restore hL F hG hX hbl hbA hY hn hh hs2 hW hi hl kk
      · refine lv_tableOut (tgt := 571) hx hb dL_law_32 (by have : ¬ rng 0 18 v9 := q; unfold rng at this; omega) (by decide) ?_
        exact kk H locs hLI2
