-- the class: moves to the end
theorem ml_z {n d : Nat} {P : Nat → Int32} (h : ¬ P 27 = 0) : mlF n d P = 0 := by
  cases n with
  | zero => rfl
  | succ n => rw [mlF, if_neg h]
theorem ml_s {n d : Nat} {P : Nat → Int32} (h : P 27 = 0) : mlF (n + 1) d P = 1 + mlF n d (mvM P (bhM d P).toNatClampNeg) := by rw [mlF, if_pos h]
set_option maxHeartbeats 4000000 in
set_option maxRecDepth 100000 in
theorem c_movesToTheEnd1 (l : Launch) (D : va_G) (T : Nat → ClassId) (l0 rp bh q4 : Nat) (bd : Nat → Nat → Nat) (ta q : Nat → Nat) (bs : Nat → Nat → Int32) (rv tp E P : Nat → Int32) {S : Int} (hI : Iv S P) (hE : ∀ j, j < 4 → E j = P (34 + j)) : KI (S := (Nat → Nat → Int32) × (Nat → Int32) × (Nat → Int32)) l D T yX1_movesToTheEnd cX1_movesToTheEnd 6 (some .int) 6 [.ref l0, .ref (q 0), .ref q4, .int (nI 1)] ([(l0, .inr (1, [.ref (ta 0), .ref rp, .ref bh])), (rp, .inr (4, [.int (rv 0), .int (rv 1), .int (rv 2), .int (rv 3), .int (rv 4)])), (bh, .inl (T 3, 5, .inr (.inr (.inr (.inr (fun j => some (bd j 0)))))))] ++ ((pblk T (bd 1) (bs 1)) ++ ((pblk T ta tp) ++ ((pblk T q P) ++ ([(q4, .inl (T 0, 4, .inl E))]))))) (fun r _ => r = nI (mlF 301 1 P)) (fun u => ([(l0, .inr (1, [.ref (ta 0), .ref rp, .ref bh])), (rp, .inr (4, [.int (u.2.1 0), .int (u.2.1 1), .int (u.2.1 2), .int (u.2.1 3), .int (u.2.1 4)])), (bh, .inl (T 3, 5, .inr (.inr (.inr (.inr (fun j => some (bd j 0)))))))] ++ ((pblk T (bd 1) (u.1 1)) ++ ((pblk T ta u.2.2) ++ ((pblk T q P) ++ ([(q4, .inl (T 0, 4, .inl E))])))))) := by
  refine KI.of (by decide +kernel) (Nat.le_of_ble_eq_true rfl) (fun p e s m below meth c A F hr hlk hW ls hl => ?_)
  have hx := F.1
  have hb := F.2.1
  have hl : lv_has ls 6 [(0, .ref l0), (1, .ref (q 0)), (2, .ref q4), (3, .int (nI 1))] := hl
  obtain ⟨-, -, h27, ⟨mk, h28, hm1, -⟩, -⟩ := id hI
  refine lv_aload_n hx hb dX1_movesToTheEnd_0 rfl (lv_at hl 0 rfl) ?_
  refine gf176 F hW 0 rfl rfl dX1_movesToTheEnd_1 ?_
  refine lv_aload_n hx hb dX1_movesToTheEnd_4 rfl (lv_at hl 1 rfl) ?_
  refine cVV (As := [.ref (q 0)]) (rest := []) (wr := ([(l0, .inr (1, [.ref (ta 0), .ref rp, .ref bh])), (rp, .inr (4, [.int (rv 0), .int (rv 1), .int (rv 2), .int (rv 3), .int (rv 4)])), (bh, .inl (T 3, 5, .inr (.inr (.inr (.inr (fun j => some (bd j 0)))))))] ++ ((pblk T (bd 1) (bs 1)) ++ ([(q4, .inl (T 0, 4, .inl E))])))) F hW hl cs352 (c_posCopy l D T (ta 0) (ta 1) (ta 2) (ta 3) (q 0) (q 1) (q 2) (q 3) (tp 26) (tp 27) (tp 28) (P 26) (P 27) (P 28) (fun j => tp j) (fun j => tp (12 + j)) (fun j => tp (24 + j)) (fun j => P j) (fun j => P (12 + j)) (fun j => P (24 + j)) h27) [7, 8, 9, 10, 11, 12, 13, 14] [0, 1, 2, 3, 4, 5, 6, 15] rfl rfl rfl rfl (by decide) 0 3 rfl rfl rfl rfl rfl (Nat.le_of_ble_eq_true rfl) ⟨Nat.le_of_ble_eq_true rfl, Nat.le_of_ble_eq_true rfl⟩ ⟨Nat.zero_le _, Nat.zero_le _⟩ dX1_movesToTheEnd_5 (fun u5 H locs hr5 hW => ?_)
  have hW := Wd.ord hW (ws' := ([(l0, .inr (1, [.ref (ta 0), .ref rp, .ref bh])), (rp, .inr (4, [.int (rv 0), .int (rv 1), .int (rv 2), .int (rv 3), .int (rv 4)])), (bh, .inl (T 3, 5, .inr (.inr (.inr (.inr (fun j => some (bd j 0)))))))] ++ ((pblk T (bd 1) (bs 1)) ++ ([(ta 0, .inr (3, [.ref (ta 1), .ref (ta 2), .ref (ta 3), .int (P 26), .int (P 27), .int (P 28)])), (ta 1, .inl (T 0, 12, .inl (fun j => P j))), (ta 2, .inl (T 0, 12, .inl (fun j => P (12 + j)))), (ta 3, .inl (T 0, 2, .inl (fun j => P (24 + j))))] ++ ((pblk T q P) ++ ([(q4, .inl (T 0, 4, .inl E))])))))) [0, 1, 2, 3, 4, 5, 6, 8, 9, 10, 11, 12, 13, 14, 15, 7] rfl rfl
  refine lv_iconst (v := nI 0) hx hb dX1_movesToTheEnd_8 (by decide) ?_
  refine lv_istore (lv' := [(4, .int (nI 0)), (0, .ref l0), (1, .ref (q 0)), (2, .ref q4), (3, .int (nI 1))]) hx hb dX1_movesToTheEnd_9 hl (by decide) rfl (fun ls hl => ?_)
  refine W.loop (fun z H2 locs2 ls2 => ∃ (mv : Nat) (Pm : Nat → Int32) (bs : Nat → Nat → Int32) (rv : Nat → Int32), mv ≤ 300 ∧ z = 300 - mv ∧ Iv S Pm ∧ (∀ j, 34 ≤ j → Pm j = P j) ∧ Pm 28 = nI (mk + mv) ∧ mlF 301 1 P = mv + mlF (301 - mv) 1 Pm ∧ Wd D T A s ([(l0, .inr (1, [.ref (ta 0), .ref rp, .ref bh])), (rp, .inr (4, [.int (rv 0), .int (rv 1), .int (rv 2), .int (rv 3), .int (rv 4)])), (bh, .inl (T 3, 5, .inr (.inr (.inr (.inr (fun j => some (bd j 0)))))))] ++ ((pblk T (bd 1) (bs 1)) ++ ((pblk T ta Pm) ++ ((pblk T q P) ++ ([(q4, .inl (T 0, 4, .inl E))]))))) H2 locs2 ∧ lv_has ls2 6 [(0, .ref l0), (1, .ref (q 0)), (2, .ref q4), (3, .int (nI 1)), (4, .int (nI mv))]) ?_ 300 ⟨0, P, bs, rv, by omega, rfl, hI, fun _ _ => rfl, h28, (Nat.zero_add _).symm, hW, lv_sub hl [1, 2, 3, 4, 0] rfl⟩
  rintro z H locs ls ⟨mv, Pm, bs, rv, hmv, rfl, hIm, hset, hk28, hml, hW, hl⟩ ih
  obtain ⟨hJ, ⟨pl, hpl, h26⟩, g27, ⟨mk2, h28, hn1, hn2⟩, h36, h37, hleg⟩ := id hIm
  have hmk : mk + mv = mk2 := n_eq (hk28.symm.trans h28) (by omega) (by omega)
  refine lv_iload hx hb dX1_movesToTheEnd_11 (lv_at hl 4 rfl) ?_
  refine lv_sipush (v := nI 300) hx hb dX1_movesToTheEnd_13 (by decide) ?_
  refine lv_icmp_ge (tgt := 61) hx hb dX1_movesToTheEnd_16 (by decide) (fun h16 => ?_) (fun h16 => ?_)
  · have h9 : mv = 300 := by have := n_le h16 (by omega) (by omega); omega
    have z27 : ¬ Pm 27 = 0 := fun z => by have := hn2 z; omega
    have em : mlF 301 1 P = 300 := by rw [hml, ml_z z27]; omega
    refine lv_sipush (v := nI 300) hx hb dX1_movesToTheEnd_61 (by decide) ?_
    exact retI F hr hlk rfl hW (bs, rv, Pm) (by rw [em]) rfl dX1_movesToTheEnd_64
  · have h9 : mv < 300 := n_nle h16 (by decide) (by omega)
    refine lv_aload_n hx hb dX1_movesToTheEnd_19 rfl (lv_at hl 0 rfl) ?_
    refine lv_aload_n hx hb dX1_movesToTheEnd_20 rfl (lv_at hl 0 rfl) ?_
    refine gf176 F hW 0 rfl rfl dX1_movesToTheEnd_21 ?_
    refine lv_aload_n hx hb dX1_movesToTheEnd_24 rfl (lv_at hl 2 rfl) ?_
    refine lv_iload_n hx hb dX1_movesToTheEnd_25 rfl (lv_at hl 3 rfl) ?_
    refine cIV (As := [.ref (ta 0), .ref q4, .int (nI 1)]) (rest := []) (wr := (pblk T q P)) F hW hl cs456 (c_bestHouse1 l D T l0 (ta 0) rp bh q4 bd ta bs rv E Pm hIm (fun j hj => (hE j hj).trans (hset (34 + j) (by omega)).symm)) [0, 1, 2, 3, 4, 5, 6, 7, 8, 9, 10, 15] [11, 12, 13, 14] rfl rfl rfl rfl (by decide) 0 1 rfl rfl rfl rfl rfl (Nat.le_of_ble_eq_true rfl) ⟨Nat.le_of_ble_eq_true rfl, Nat.le_of_ble_eq_true rfl⟩ ⟨Nat.zero_le _, Nat.zero_le _⟩ dX1_movesToTheEnd_26 (fun r26 u26 H locs hr26 hW => ?_)
    have hW := Wd.ord hW (ws' := ([(l0, .inr (1, [.ref (ta 0), .ref rp, .ref bh])), (rp, .inr (4, [.int (u26.2 0), .int (u26.2 1), .int (u26.2 2), .int (u26.2 3), .int (u26.2 4)])), (bh, .inl (T 3, 5, .inr (.inr (.inr (.inr (fun j => some (bd j 0)))))))] ++ ((pblk T (bd 1) (u26.1 1)) ++ ((pblk T ta Pm) ++ ((pblk T q P) ++ ([(q4, .inl (T 0, 4, .inl E))])))))) [4, 5, 6, 7, 8, 9, 10, 11, 12, 13, 14, 0, 1, 2, 3, 15] rfl rfl
    subst hr26
    rw [bh_eq Pm 0]
    refine lv_istore (lv' := [(5, .int (bhM 1 Pm)), (0, .ref l0), (1, .ref (q 0)), (2, .ref q4), (3, .int (nI 1)), (4, .int (nI mv))]) hx hb dX1_movesToTheEnd_29 hl (by decide) rfl (fun ls hl => ?_)
    refine lv_iload hx hb dX1_movesToTheEnd_31 (lv_at hl 0 rfl) ?_
    refine lv_bipush (v := -6) hx hb dX1_movesToTheEnd_33 (by decide) ?_
    by_cases q9 : Pm 27 = 0
    · obtain ⟨b9, hb9, hbl, hbe⟩ := bh_hou hIm (d := 1) (by decide) q9
      rw [hbe] at hl
      rw [hbe]
      refine lv_icmp_ne (tgt := 41) hx hb dX1_movesToTheEnd_35 (by decide) (fun _ => ?_) (fun h9 => absurd h9 (ni_6 (by omega)))
      refine lv_aload_n hx hb dX1_movesToTheEnd_41 rfl (lv_at hl 1 rfl) ?_
      refine gf176 F hW 0 rfl rfl dX1_movesToTheEnd_42 ?_
      refine lv_iload hx hb dX1_movesToTheEnd_45 (lv_at hl 0 rfl) ?_
      refine lv_aload_n hx hb dX1_movesToTheEnd_47 rfl (lv_at hl 3 rfl) ?_
      refine lv_aload_n hx hb dX1_movesToTheEnd_48 rfl (lv_at hl 1 rfl) ?_
      refine gf178 F hW 0 rfl rfl dX1_movesToTheEnd_49 ?_
      refine cVV (As := [.int (nI b9), .ref q4, .ref rp]) (rest := []) (wr := ([(l0, .inr (1, [.ref (ta 0), .ref rp, .ref bh])), (bh, .inl (T 3, 5, .inr (.inr (.inr (.inr (fun j => some (bd j 0)))))))] ++ ((pblk T (bd 1) (u26.1 1)) ++ ((pblk T q P))))) F hW hl cs353 (c_makeMoveP l D T (ta 0) (ta 1) (ta 2) (ta 3) q4 rp (pl := pl) hpl (Pm 26) h26 (Pm 27) (Pm 28) (fun j => Pm j) (fun j => Pm (12 + j)) (fun j => Pm (24 + j)) E (u26.2 0) (u26.2 1) (u26.2 2) (u26.2 3) (u26.2 4) Pm ⟨fun _ _ => rfl, fun _ _ => rfl, fun _ _ => rfl⟩ rfl rfl (fun j hj => (hE j hj).trans (hset (34 + j) (by omega)).symm) (fr := b9) hb9 hJ h36 h37 (leg_pos hbl) h26 hbl.1 h28 (hn2 q9)) [7, 8, 9, 10, 15, 1] [0, 2, 3, 4, 5, 6, 11, 12, 13, 14] rfl rfl rfl rfl (by decide) 0 3 rfl rfl rfl rfl rfl (Nat.le_of_ble_eq_true rfl) ⟨Nat.le_of_ble_eq_true rfl, Nat.le_of_ble_eq_true rfl⟩ ⟨Nat.zero_le _, Nat.zero_le _⟩ dX1_movesToTheEnd_52 (fun u52 H locs hr52 hW => ?_)
      have hW := Wd.ord hW (ws' := ([(l0, .inr (1, [.ref (ta 0), .ref rp, .ref bh])), (rp, .inr (4, [.int ((mvM Pm b9) 29), .int ((mvM Pm b9) 30), .int ((mvM Pm b9) 31), .int ((mvM Pm b9) 32), .int ((mvM Pm b9) 33)])), (bh, .inl (T 3, 5, .inr (.inr (.inr (.inr (fun j => some (bd j 0)))))))] ++ ((pblk T (bd 1) (u26.1 1)) ++ ([(ta 0, .inr (3, [.ref (ta 1), .ref (ta 2), .ref (ta 3), .int ((mvM Pm b9) 26), .int ((mvM Pm b9) 27), .int ((mvM Pm b9) 28)])), (ta 1, .inl (T 0, 12, .inl (fun j => (mvM Pm b9) j))), (ta 2, .inl (T 0, 12, .inl (fun j => (mvM Pm b9) (12 + j)))), (ta 3, .inl (T 0, 2, .inl (fun j => (mvM Pm b9) (24 + j))))] ++ ((pblk T q P) ++ ([(q4, .inl (T 0, 4, .inl E))])))))) [0, 15, 1, 2, 3, 4, 5, 10, 11, 12, 13, 6, 7, 8, 9, 14] rfl rfl
      have hI9 := (hIm.mv hb9 hbl).1
      have hs9 : ∀ j, 34 ≤ j → mvM Pm b9 j = P j := fun j hj => (mvM_set hIm hb9 hbl hj).trans (hset j hj)
      have e28 : mvM Pm b9 28 = nI (mk + (mv + 1)) := (mv_28 hIm hb9 hbl h28).trans (by rw [← hmk, Nat.add_assoc])
      have em : mlF 301 1 P = (mv + 1) + mlF (301 - (mv + 1)) 1 (mvM Pm b9) := by rw [hml, show 301 - mv = (301 - (mv + 1)) + 1 by omega, ml_s q9, hbe, nI_clamp (show b9 < 2 ^ 31 by omega)]; omega
      obtain ⟨z9, hz9⟩ : ∃ z, mvM Pm b9 = z := ⟨_, rfl⟩
      rw [hz9] at hW hI9 hs9 e28 em
      refine lv_iinc (v := nI (mv + 1)) (lv' := [(4, .int (nI (mv + 1))), (5, .int (nI b9)), (0, .ref l0), (1, .ref (q 0)), (2, .ref q4), (3, .int (nI 1))]) hx hb dX1_movesToTheEnd_55 hl (k := 5) rfl (nI_add _ _) (by decide) rfl (fun ls hl => ?_)
      refine lv_goto (tgt := 11) hx hb dX1_movesToTheEnd_58 (by decide) ?_
      exact ih (300 - (mv + 1)) _ _ _ (by omega) ⟨mv + 1, z9, u26.1, (fun j => z9 (29 + j)), by omega, rfl, hI9, hs9, e28, em, hW, lv_sub hl [2, 3, 4, 5, 0] rfl⟩
    · have e9 : bhM 1 Pm = -6 := by rw [bhM, if_neg q9]
      rw [e9] at hl
      rw [e9]
      refine lv_icmp_ne (tgt := 41) hx hb dX1_movesToTheEnd_35 (by decide) (fun h9 => absurd rfl h9) (fun _ => ?_)
      have em : mlF 301 1 P = mv := by rw [hml, ml_z q9, Nat.add_zero]
      refine lv_iload hx hb dX1_movesToTheEnd_38 (lv_at hl 5 rfl) ?_
      exact retI F hr hlk rfl hW (u26.1, u26.2, Pm) (by rw [em]) rfl dX1_movesToTheEnd_40
set_option maxHeartbeats 4000000 in
set_option maxRecDepth 100000 in
theorem c_movesToTheEnd2 (l : Launch) (D : va_G) (T : Nat → ClassId) (l0 rp bh q4 : Nat) (bd : Nat → Nat → Nat) (ta q : Nat → Nat) (bs : Nat → Nat → Int32) (rv tp E P : Nat → Int32) {S : Int} (hI : Iv S P) (hE : ∀ j, j < 4 → E j = P (34 + j)) : KI (S := (Nat → Nat → Int32) × (Nat → Int32) × (Nat → Int32)) l D T yX1_movesToTheEnd cX1_movesToTheEnd 6 (some .int) 8 [.ref l0, .ref (q 0), .ref q4, .int (nI 2)] ([(l0, .inr (1, [.ref (ta 0), .ref rp, .ref bh])), (rp, .inr (4, [.int (rv 0), .int (rv 1), .int (rv 2), .int (rv 3), .int (rv 4)])), (bh, .inl (T 3, 5, .inr (.inr (.inr (.inr (fun j => some (bd j 0)))))))] ++ ((pblk T (bd 1) (bs 1)) ++ ((pblk T (bd 2) (bs 2)) ++ ((pblk T ta tp) ++ ((pblk T q P) ++ ([(q4, .inl (T 0, 4, .inl E))])))))) (fun r _ => r = nI (mlF 301 2 P)) (fun u => ([(l0, .inr (1, [.ref (ta 0), .ref rp, .ref bh])), (rp, .inr (4, [.int (u.2.1 0), .int (u.2.1 1), .int (u.2.1 2), .int (u.2.1 3), .int (u.2.1 4)])), (bh, .inl (T 3, 5, .inr (.inr (.inr (.inr (fun j => some (bd j 0)))))))] ++ ((pblk T (bd 1) (u.1 1)) ++ ((pblk T (bd 2) (u.1 2)) ++ ((pblk T ta u.2.2) ++ ((pblk T q P) ++ ([(q4, .inl (T 0, 4, .inl E))]))))))) := by
  refine KI.of (by decide +kernel) (Nat.le_of_ble_eq_true rfl) (fun p e s m below meth c A F hr hlk hW ls hl => ?_)
  have hx := F.1
  have hb := F.2.1
  have hl : lv_has ls 6 [(0, .ref l0), (1, .ref (q 0)), (2, .ref q4), (3, .int (nI 2))] := hl
  obtain ⟨-, -, h27, ⟨mk, h28, hm1, -⟩, -⟩ := id hI
  refine lv_aload_n hx hb dX1_movesToTheEnd_0 rfl (lv_at hl 0 rfl) ?_
  refine gf176 F hW 0 rfl rfl dX1_movesToTheEnd_1 ?_
  refine lv_aload_n hx hb dX1_movesToTheEnd_4 rfl (lv_at hl 1 rfl) ?_
  refine cVV (As := [.ref (q 0)]) (rest := []) (wr := ([(l0, .inr (1, [.ref (ta 0), .ref rp, .ref bh])), (rp, .inr (4, [.int (rv 0), .int (rv 1), .int (rv 2), .int (rv 3), .int (rv 4)])), (bh, .inl (T 3, 5, .inr (.inr (.inr (.inr (fun j => some (bd j 0)))))))] ++ ((pblk T (bd 1) (bs 1)) ++ ((pblk T (bd 2) (bs 2)) ++ ([(q4, .inl (T 0, 4, .inl E))]))))) F hW hl cs352 (c_posCopy l D T (ta 0) (ta 1) (ta 2) (ta 3) (q 0) (q 1) (q 2) (q 3) (tp 26) (tp 27) (tp 28) (P 26) (P 27) (P 28) (fun j => tp j) (fun j => tp (12 + j)) (fun j => tp (24 + j)) (fun j => P j) (fun j => P (12 + j)) (fun j => P (24 + j)) h27) [11, 12, 13, 14, 15, 16, 17, 18] [0, 1, 2, 3, 4, 5, 6, 7, 8, 9, 10, 19] rfl rfl rfl rfl (by decide) 0 3 rfl rfl rfl rfl rfl (Nat.le_of_ble_eq_true rfl) ⟨Nat.le_of_ble_eq_true rfl, Nat.le_of_ble_eq_true rfl⟩ ⟨Nat.zero_le _, Nat.zero_le _⟩ dX1_movesToTheEnd_5 (fun u5 H locs hr5 hW => ?_)
  have hW := Wd.ord hW (ws' := ([(l0, .inr (1, [.ref (ta 0), .ref rp, .ref bh])), (rp, .inr (4, [.int (rv 0), .int (rv 1), .int (rv 2), .int (rv 3), .int (rv 4)])), (bh, .inl (T 3, 5, .inr (.inr (.inr (.inr (fun j => some (bd j 0)))))))] ++ ((pblk T (bd 1) (bs 1)) ++ ((pblk T (bd 2) (bs 2)) ++ ([(ta 0, .inr (3, [.ref (ta 1), .ref (ta 2), .ref (ta 3), .int (P 26), .int (P 27), .int (P 28)])), (ta 1, .inl (T 0, 12, .inl (fun j => P j))), (ta 2, .inl (T 0, 12, .inl (fun j => P (12 + j)))), (ta 3, .inl (T 0, 2, .inl (fun j => P (24 + j))))] ++ ((pblk T q P) ++ ([(q4, .inl (T 0, 4, .inl E))]))))))) [0, 1, 2, 3, 4, 5, 6, 7, 8, 9, 10, 12, 13, 14, 15, 16, 17, 18, 19, 11] rfl rfl
  refine lv_iconst (v := nI 0) hx hb dX1_movesToTheEnd_8 (by decide) ?_
  refine lv_istore (lv' := [(4, .int (nI 0)), (0, .ref l0), (1, .ref (q 0)), (2, .ref q4), (3, .int (nI 2))]) hx hb dX1_movesToTheEnd_9 hl (by decide) rfl (fun ls hl => ?_)
  refine W.loop (fun z H2 locs2 ls2 => ∃ (mv : Nat) (Pm : Nat → Int32) (bs : Nat → Nat → Int32) (rv : Nat → Int32), mv ≤ 300 ∧ z = 300 - mv ∧ Iv S Pm ∧ (∀ j, 34 ≤ j → Pm j = P j) ∧ Pm 28 = nI (mk + mv) ∧ mlF 301 2 P = mv + mlF (301 - mv) 2 Pm ∧ Wd D T A s ([(l0, .inr (1, [.ref (ta 0), .ref rp, .ref bh])), (rp, .inr (4, [.int (rv 0), .int (rv 1), .int (rv 2), .int (rv 3), .int (rv 4)])), (bh, .inl (T 3, 5, .inr (.inr (.inr (.inr (fun j => some (bd j 0)))))))] ++ ((pblk T (bd 1) (bs 1)) ++ ((pblk T (bd 2) (bs 2)) ++ ((pblk T ta Pm) ++ ((pblk T q P) ++ ([(q4, .inl (T 0, 4, .inl E))])))))) H2 locs2 ∧ lv_has ls2 6 [(0, .ref l0), (1, .ref (q 0)), (2, .ref q4), (3, .int (nI 2)), (4, .int (nI mv))]) ?_ 300 ⟨0, P, bs, rv, by omega, rfl, hI, fun _ _ => rfl, h28, (Nat.zero_add _).symm, hW, lv_sub hl [1, 2, 3, 4, 0] rfl⟩
  rintro z H locs ls ⟨mv, Pm, bs, rv, hmv, rfl, hIm, hset, hk28, hml, hW, hl⟩ ih
  obtain ⟨hJ, ⟨pl, hpl, h26⟩, g27, ⟨mk2, h28, hn1, hn2⟩, h36, h37, hleg⟩ := id hIm
  have hmk : mk + mv = mk2 := n_eq (hk28.symm.trans h28) (by omega) (by omega)
  refine lv_iload hx hb dX1_movesToTheEnd_11 (lv_at hl 4 rfl) ?_
  refine lv_sipush (v := nI 300) hx hb dX1_movesToTheEnd_13 (by decide) ?_
  refine lv_icmp_ge (tgt := 61) hx hb dX1_movesToTheEnd_16 (by decide) (fun h16 => ?_) (fun h16 => ?_)
  · have h9 : mv = 300 := by have := n_le h16 (by omega) (by omega); omega
    have z27 : ¬ Pm 27 = 0 := fun z => by have := hn2 z; omega
    have em : mlF 301 2 P = 300 := by rw [hml, ml_z z27]; omega
    refine lv_sipush (v := nI 300) hx hb dX1_movesToTheEnd_61 (by decide) ?_
    exact retI F hr hlk rfl hW (bs, rv, Pm) (by rw [em]) rfl dX1_movesToTheEnd_64
  · have h9 : mv < 300 := n_nle h16 (by decide) (by omega)
    refine lv_aload_n hx hb dX1_movesToTheEnd_19 rfl (lv_at hl 0 rfl) ?_
    refine lv_aload_n hx hb dX1_movesToTheEnd_20 rfl (lv_at hl 0 rfl) ?_
    refine gf176 F hW 0 rfl rfl dX1_movesToTheEnd_21 ?_
    refine lv_aload_n hx hb dX1_movesToTheEnd_24 rfl (lv_at hl 2 rfl) ?_
    refine lv_iload_n hx hb dX1_movesToTheEnd_25 rfl (lv_at hl 3 rfl) ?_
    refine cIV (As := [.ref (ta 0), .ref q4, .int (nI 2)]) (rest := []) (wr := (pblk T q P)) F hW hl cs456 (c_bestHouse2 l D T l0 (ta 0) rp bh q4 bd ta bs rv E Pm hIm (fun j hj => (hE j hj).trans (hset (34 + j) (by omega)).symm)) [0, 1, 2, 3, 4, 5, 6, 7, 8, 9, 10, 11, 12, 13, 14, 19] [15, 16, 17, 18] rfl rfl rfl rfl (by decide) 0 1 rfl rfl rfl rfl rfl (Nat.le_of_ble_eq_true rfl) ⟨Nat.le_of_ble_eq_true rfl, Nat.le_of_ble_eq_true rfl⟩ ⟨Nat.zero_le _, Nat.zero_le _⟩ dX1_movesToTheEnd_26 (fun r26 u26 H locs hr26 hW => ?_)
    have hW := Wd.ord hW (ws' := ([(l0, .inr (1, [.ref (ta 0), .ref rp, .ref bh])), (rp, .inr (4, [.int (u26.2 0), .int (u26.2 1), .int (u26.2 2), .int (u26.2 3), .int (u26.2 4)])), (bh, .inl (T 3, 5, .inr (.inr (.inr (.inr (fun j => some (bd j 0)))))))] ++ ((pblk T (bd 1) (u26.1 1)) ++ ((pblk T (bd 2) (u26.1 2)) ++ ((pblk T ta Pm) ++ ((pblk T q P) ++ ([(q4, .inl (T 0, 4, .inl E))]))))))) [4, 5, 6, 7, 8, 9, 10, 11, 12, 13, 14, 15, 16, 17, 18, 0, 1, 2, 3, 19] rfl rfl
    subst hr26
    rw [bh_eq Pm 1]
    refine lv_istore (lv' := [(5, .int (bhM 2 Pm)), (0, .ref l0), (1, .ref (q 0)), (2, .ref q4), (3, .int (nI 2)), (4, .int (nI mv))]) hx hb dX1_movesToTheEnd_29 hl (by decide) rfl (fun ls hl => ?_)
    refine lv_iload hx hb dX1_movesToTheEnd_31 (lv_at hl 0 rfl) ?_
    refine lv_bipush (v := -6) hx hb dX1_movesToTheEnd_33 (by decide) ?_
    by_cases q9 : Pm 27 = 0
    · obtain ⟨b9, hb9, hbl, hbe⟩ := bh_hou hIm (d := 2) (by decide) q9
      rw [hbe] at hl
      rw [hbe]
      refine lv_icmp_ne (tgt := 41) hx hb dX1_movesToTheEnd_35 (by decide) (fun _ => ?_) (fun h9 => absurd h9 (ni_6 (by omega)))
      refine lv_aload_n hx hb dX1_movesToTheEnd_41 rfl (lv_at hl 1 rfl) ?_
      refine gf176 F hW 0 rfl rfl dX1_movesToTheEnd_42 ?_
      refine lv_iload hx hb dX1_movesToTheEnd_45 (lv_at hl 0 rfl) ?_
      refine lv_aload_n hx hb dX1_movesToTheEnd_47 rfl (lv_at hl 3 rfl) ?_
      refine lv_aload_n hx hb dX1_movesToTheEnd_48 rfl (lv_at hl 1 rfl) ?_
      refine gf178 F hW 0 rfl rfl dX1_movesToTheEnd_49 ?_
      refine cVV (As := [.int (nI b9), .ref q4, .ref rp]) (rest := []) (wr := ([(l0, .inr (1, [.ref (ta 0), .ref rp, .ref bh])), (bh, .inl (T 3, 5, .inr (.inr (.inr (.inr (fun j => some (bd j 0)))))))] ++ ((pblk T (bd 1) (u26.1 1)) ++ ((pblk T (bd 2) (u26.1 2)) ++ ((pblk T q P)))))) F hW hl cs353 (c_makeMoveP l D T (ta 0) (ta 1) (ta 2) (ta 3) q4 rp (pl := pl) hpl (Pm 26) h26 (Pm 27) (Pm 28) (fun j => Pm j) (fun j => Pm (12 + j)) (fun j => Pm (24 + j)) E (u26.2 0) (u26.2 1) (u26.2 2) (u26.2 3) (u26.2 4) Pm ⟨fun _ _ => rfl, fun _ _ => rfl, fun _ _ => rfl⟩ rfl rfl (fun j hj => (hE j hj).trans (hset (34 + j) (by omega)).symm) (fr := b9) hb9 hJ h36 h37 (leg_pos hbl) h26 hbl.1 h28 (hn2 q9)) [11, 12, 13, 14, 19, 1] [0, 2, 3, 4, 5, 6, 7, 8, 9, 10, 15, 16, 17, 18] rfl rfl rfl rfl (by decide) 0 3 rfl rfl rfl rfl rfl (Nat.le_of_ble_eq_true rfl) ⟨Nat.le_of_ble_eq_true rfl, Nat.le_of_ble_eq_true rfl⟩ ⟨Nat.zero_le _, Nat.zero_le _⟩ dX1_movesToTheEnd_52 (fun u52 H locs hr52 hW => ?_)
      have hW := Wd.ord hW (ws' := ([(l0, .inr (1, [.ref (ta 0), .ref rp, .ref bh])), (rp, .inr (4, [.int ((mvM Pm b9) 29), .int ((mvM Pm b9) 30), .int ((mvM Pm b9) 31), .int ((mvM Pm b9) 32), .int ((mvM Pm b9) 33)])), (bh, .inl (T 3, 5, .inr (.inr (.inr (.inr (fun j => some (bd j 0)))))))] ++ ((pblk T (bd 1) (u26.1 1)) ++ ((pblk T (bd 2) (u26.1 2)) ++ ([(ta 0, .inr (3, [.ref (ta 1), .ref (ta 2), .ref (ta 3), .int ((mvM Pm b9) 26), .int ((mvM Pm b9) 27), .int ((mvM Pm b9) 28)])), (ta 1, .inl (T 0, 12, .inl (fun j => (mvM Pm b9) j))), (ta 2, .inl (T 0, 12, .inl (fun j => (mvM Pm b9) (12 + j)))), (ta 3, .inl (T 0, 2, .inl (fun j => (mvM Pm b9) (24 + j))))] ++ ((pblk T q P) ++ ([(q4, .inl (T 0, 4, .inl E))]))))))) [0, 19, 1, 2, 3, 4, 5, 6, 7, 8, 9, 14, 15, 16, 17, 10, 11, 12, 13, 18] rfl rfl
      have hI9 := (hIm.mv hb9 hbl).1
      have hs9 : ∀ j, 34 ≤ j → mvM Pm b9 j = P j := fun j hj => (mvM_set hIm hb9 hbl hj).trans (hset j hj)
      have e28 : mvM Pm b9 28 = nI (mk + (mv + 1)) := (mv_28 hIm hb9 hbl h28).trans (by rw [← hmk, Nat.add_assoc])
      have em : mlF 301 2 P = (mv + 1) + mlF (301 - (mv + 1)) 2 (mvM Pm b9) := by rw [hml, show 301 - mv = (301 - (mv + 1)) + 1 by omega, ml_s q9, hbe, nI_clamp (show b9 < 2 ^ 31 by omega)]; omega
      obtain ⟨z9, hz9⟩ : ∃ z, mvM Pm b9 = z := ⟨_, rfl⟩
      rw [hz9] at hW hI9 hs9 e28 em
      refine lv_iinc (v := nI (mv + 1)) (lv' := [(4, .int (nI (mv + 1))), (5, .int (nI b9)), (0, .ref l0), (1, .ref (q 0)), (2, .ref q4), (3, .int (nI 2))]) hx hb dX1_movesToTheEnd_55 hl (k := 5) rfl (nI_add _ _) (by decide) rfl (fun ls hl => ?_)
      refine lv_goto (tgt := 11) hx hb dX1_movesToTheEnd_58 (by decide) ?_
      exact ih (300 - (mv + 1)) _ _ _ (by omega) ⟨mv + 1, z9, u26.1, (fun j => z9 (29 + j)), by omega, rfl, hI9, hs9, e28, em, hW, lv_sub hl [2, 3, 4, 5, 0] rfl⟩
    · have e9 : bhM 2 Pm = -6 := by rw [bhM, if_neg q9]
      rw [e9] at hl
      rw [e9]
      refine lv_icmp_ne (tgt := 41) hx hb dX1_movesToTheEnd_35 (by decide) (fun h9 => absurd rfl h9) (fun _ => ?_)
      have em : mlF 301 2 P = mv := by rw [hml, ml_z q9, Nat.add_zero]
      refine lv_iload hx hb dX1_movesToTheEnd_38 (lv_at hl 5 rfl) ?_
      exact retI F hr hlk rfl hW (u26.1, u26.2, Pm) (by rw [em]) rfl dX1_movesToTheEnd_40
set_option maxHeartbeats 4000000 in
set_option maxRecDepth 100000 in
theorem x_movesLeft (l : Launch) (D : va_G) (T : Nat → ClassId) (x h0 s0 v0 p0 l0 rp bh : Nat) (a ta : Nat → Nat) (bd : Nat → Nat → Nat) (Y : YD) (hY : YOK Y) (ra rc : Nat → Int32) (bs : Nat → Nat → Int32) (rv tp : Nat → Int32) (v : Int32) : KI (S := (Nat → Nat → Int32) × (Nat → Int32) × (Nat → Int32)) l D T yX6_movesLeft cX6_movesLeft 2 (some .int) 12 [.ref x, .int v] ((nblk T a Y.all ra rc) ++ ([(x, .inr (6, [.ref (a 0), .ref h0, .ref s0, .ref v0, .ref p0, .ref l0])), (l0, .inr (1, [.ref (ta 0), .ref rp, .ref bh])), (rp, .inr (4, [.int (rv 0), .int (rv 1), .int (rv 2), .int (rv 3), .int (rv 4)])), (bh, .inl (T 3, 5, .inr (.inr (.inr (.inr (fun j => some (bd j 0)))))))] ++ ((pblk T (bd 1) (bs 1)) ++ ((pblk T (bd 2) (bs 2)) ++ ((pblk T (bd 3) (bs 3)) ++ ((pblk T (bd 4) (bs 4)) ++ ((pblk T ta tp)))))))) (fun r _ => r = (yMovesLeft Y v).1) (fun u => ((nblk T a Y.all ra rc) ++ ([(x, .inr (6, [.ref (a 0), .ref h0, .ref s0, .ref v0, .ref p0, .ref l0])), (l0, .inr (1, [.ref (ta 0), .ref rp, .ref bh])), (rp, .inr (4, [.int (u.2.1 0), .int (u.2.1 1), .int (u.2.1 2), .int (u.2.1 3), .int (u.2.1 4)])), (bh, .inl (T 3, 5, .inr (.inr (.inr (.inr (fun j => some (bd j 0)))))))] ++ ((pblk T (bd 1) (u.1 1)) ++ ((pblk T (bd 2) (u.1 2)) ++ ((pblk T (bd 3) (u.1 3)) ++ ((pblk T (bd 4) (u.1 4)) ++ ((pblk T ta u.2.2))))))))) := by
  refine KI.of (by decide +kernel) (Nat.le_of_ble_eq_true rfl) (fun p e s m below meth c A F hr hlk hW ls hl => ?_)
  have hx := F.1
  have hb := F.2.1
  have hl : lv_has ls 2 [(0, .ref x), (1, .int v)] := hl
  obtain ⟨⟨⟨S0, hI⟩, h34⟩, hnh, hpn, hHi, hsl⟩ := hY
  have hI2 := hI
  obtain ⟨hJ, ⟨pl, hpl, h26⟩, h27, ⟨mk, h28, hm1, hm2⟩, h36, h37, hleg⟩ := hI2
  refine lv_iload_n hx hb dX6_movesLeft_0 rfl (lv_at hl 1 rfl) ?_
  refine lv_iconst (v := nI 1) hx hb dX6_movesLeft_1 (by decide) ?_
  refine lv_icmp_lt (tgt := 10) hx hb dX6_movesLeft_2 (by decide) (fun h2 => ?_) (fun h2 => ?_)
  · have q1 := (i_lt _ _).mp h2
    rw [nI_toInt (by decide)] at q1
    refine lv_bipush (v := -2) hx hb dX6_movesLeft_10 (by decide) ?_
    exact retI F hr hlk rfl hW (bs, rv, tp) (by unfold yMovesLeft; rw [if_neg (fun q : rng 1 2 v => by have := q.1; omega)]) rfl dX6_movesLeft_12
  · have q1 : ¬ v.toInt < 1 := fun z => h2 ((i_lt _ _).mpr (by rw [nI_toInt (by decide)]; exact z))
    refine lv_iload_n hx hb dX6_movesLeft_5 rfl (lv_at hl 1 rfl) ?_
    refine lv_iconst (v := nI 2) hx hb dX6_movesLeft_6 (by decide) ?_
    refine lv_icmp_le (tgt := 13) hx hb dX6_movesLeft_7 (by decide) (fun h7 => ?_) (fun h7 => ?_)
    · have q2 := (i_le _ _).mp h7
      rw [nI_toInt (by decide)] at q2
      have q : rng 1 2 v := ⟨by omega, by omega⟩
      obtain ⟨k, ka, kb, kl, ek, ck⟩ := rng_nat1 q (by decide)
      rw [ek] at hl
      have hk : k = 1 ∨ k = 2 := by omega
      rcases hk with rfl | rfl
      · refine lv_aload_n hx hb dX6_movesLeft_13 rfl (lv_at hl 0 rfl) ?_
        refine gf201 F hW 8 rfl rfl dX6_movesLeft_14 ?_
        refine lv_aload_n hx hb dX6_movesLeft_17 rfl (lv_at hl 0 rfl) ?_
        refine gf196 F hW 8 rfl rfl dX6_movesLeft_18 ?_
        refine gf110 F hW 0 rfl rfl dX6_movesLeft_21 ?_
        refine lv_aload_n hx hb dX6_movesLeft_24 rfl (lv_at hl 0 rfl) ?_
        refine gf196 F hW 8 rfl rfl dX6_movesLeft_25 ?_
        refine gf112 F hW 0 rfl rfl dX6_movesLeft_28 ?_
        refine lv_iload_n hx hb dX6_movesLeft_31 rfl (lv_at hl 1 rfl) ?_
        refine cIV (As := [.ref (a 1), .ref (a 5), .int (nI 1)]) (rest := []) (wr := ([(a 0, .inr (5, [.ref (a 1), .ref (a 5), .ref (a 6), .ref (a 7)])), (a 6, .inr (4, [.int (ra 0), .int (ra 1), .int (ra 2), .int (ra 3), .int (ra 4)])), (a 7, .inl (T 0, 300, .inl rc)), (x, .inr (6, [.ref (a 0), .ref h0, .ref s0, .ref v0, .ref p0, .ref l0]))] ++ ((pblk T (bd 2) (bs 2)) ++ ((pblk T (bd 3) (bs 3)) ++ ((pblk T (bd 4) (bs 4))))))) F hW hl cs452 (c_movesToTheEnd1 l D T l0 rp bh (a 5) bd ta (fun j => a (j + 1)) bs rv tp (fun j => Y.all (34 + j)) Y.all hI (fun _ _ => rfl)) [9, 10, 11, 12, 13, 14, 15, 28, 29, 30, 31, 1, 2, 3, 4, 5] [0, 6, 7, 8, 16, 17, 18, 19, 20, 21, 22, 23, 24, 25, 26, 27] rfl rfl rfl rfl (by decide) 0 1 rfl rfl rfl rfl rfl (Nat.le_of_ble_eq_true rfl) ⟨Nat.le_of_ble_eq_true rfl, Nat.le_of_ble_eq_true rfl⟩ ⟨Nat.zero_le _, Nat.zero_le _⟩ dX6_movesLeft_32 (fun r32 u32 H locs hr32 hW => ?_)
        have hW := Wd.ord hW (ws' := ((nblk T a Y.all ra rc) ++ ([(x, .inr (6, [.ref (a 0), .ref h0, .ref s0, .ref v0, .ref p0, .ref l0])), (l0, .inr (1, [.ref (ta 0), .ref rp, .ref bh])), (rp, .inr (4, [.int (u32.2.1 0), .int (u32.2.1 1), .int (u32.2.1 2), .int (u32.2.1 3), .int (u32.2.1 4)])), (bh, .inl (T 3, 5, .inr (.inr (.inr (.inr (fun j => some (bd j 0)))))))] ++ ((pblk T (bd 1) (u32.1 1)) ++ ((pblk T (bd 2) (bs 2)) ++ ((pblk T (bd 3) (bs 3)) ++ ((pblk T (bd 4) (bs 4)) ++ ((pblk T ta u32.2.2))))))))) [0, 27, 28, 29, 30, 31, 1, 2, 3, 16, 17, 18, 19, 20, 21, 22, 4, 5, 6, 7, 8, 9, 10, 11, 12, 13, 14, 15, 23, 24, 25, 26] rfl rfl
        subst hr32
        exact retI F hr hlk rfl hW ((fun j => if j ≤ 1 then u32.1 j else bs j), u32.2) (by unfold yMovesLeft; rw [if_pos q, ck]) rfl dX6_movesLeft_35
      · refine lv_aload_n hx hb dX6_movesLeft_13 rfl (lv_at hl 0 rfl) ?_
        refine gf201 F hW 8 rfl rfl dX6_movesLeft_14 ?_
        refine lv_aload_n hx hb dX6_movesLeft_17 rfl (lv_at hl 0 rfl) ?_
        refine gf196 F hW 8 rfl rfl dX6_movesLeft_18 ?_
        refine gf110 F hW 0 rfl rfl dX6_movesLeft_21 ?_
        refine lv_aload_n hx hb dX6_movesLeft_24 rfl (lv_at hl 0 rfl) ?_
        refine gf196 F hW 8 rfl rfl dX6_movesLeft_25 ?_
        refine gf112 F hW 0 rfl rfl dX6_movesLeft_28 ?_
        refine lv_iload_n hx hb dX6_movesLeft_31 rfl (lv_at hl 1 rfl) ?_
        refine cIV (As := [.ref (a 1), .ref (a 5), .int (nI 2)]) (rest := []) (wr := ([(a 0, .inr (5, [.ref (a 1), .ref (a 5), .ref (a 6), .ref (a 7)])), (a 6, .inr (4, [.int (ra 0), .int (ra 1), .int (ra 2), .int (ra 3), .int (ra 4)])), (a 7, .inl (T 0, 300, .inl rc)), (x, .inr (6, [.ref (a 0), .ref h0, .ref s0, .ref v0, .ref p0, .ref l0]))] ++ ((pblk T (bd 3) (bs 3)) ++ ((pblk T (bd 4) (bs 4)))))) F hW hl cs452 (c_movesToTheEnd2 l D T l0 rp bh (a 5) bd ta (fun j => a (j + 1)) bs rv tp (fun j => Y.all (34 + j)) Y.all hI (fun _ _ => rfl)) [9, 10, 11, 12, 13, 14, 15, 16, 17, 18, 19, 28, 29, 30, 31, 1, 2, 3, 4, 5] [0, 6, 7, 8, 20, 21, 22, 23, 24, 25, 26, 27] rfl rfl rfl rfl (by decide) 0 1 rfl rfl rfl rfl rfl (Nat.le_of_ble_eq_true rfl) ⟨Nat.le_of_ble_eq_true rfl, Nat.le_of_ble_eq_true rfl⟩ ⟨Nat.zero_le _, Nat.zero_le _⟩ dX6_movesLeft_32 (fun r32 u32 H locs hr32 hW => ?_)
        have hW := Wd.ord hW (ws' := ((nblk T a Y.all ra rc) ++ ([(x, .inr (6, [.ref (a 0), .ref h0, .ref s0, .ref v0, .ref p0, .ref l0])), (l0, .inr (1, [.ref (ta 0), .ref rp, .ref bh])), (rp, .inr (4, [.int (u32.2.1 0), .int (u32.2.1 1), .int (u32.2.1 2), .int (u32.2.1 3), .int (u32.2.1 4)])), (bh, .inl (T 3, 5, .inr (.inr (.inr (.inr (fun j => some (bd j 0)))))))] ++ ((pblk T (bd 1) (u32.1 1)) ++ ((pblk T (bd 2) (u32.1 2)) ++ ((pblk T (bd 3) (bs 3)) ++ ((pblk T (bd 4) (bs 4)) ++ ((pblk T ta u32.2.2))))))))) [0, 27, 28, 29, 30, 31, 1, 2, 3, 12, 13, 14, 15, 16, 17, 18, 19, 20, 21, 22, 4, 5, 6, 7, 8, 9, 10, 11, 23, 24, 25, 26] rfl rfl
        subst hr32
        exact retI F hr hlk rfl hW ((fun j => if j ≤ 2 then u32.1 j else bs j), u32.2) (by unfold yMovesLeft; rw [if_pos q, ck]) rfl dX6_movesLeft_35
    · have q2 : ¬ v.toInt ≤ 2 := fun z => h7 ((i_le _ _).mpr (by rw [nI_toInt (by decide)]; exact z))
      refine lv_bipush (v := -2) hx hb dX6_movesLeft_10 (by decide) ?_
      exact retI F hr hlk rfl hW (bs, rv, tp) (by unfold yMovesLeft; rw [if_neg (fun q : rng 1 2 v => q2 q.2)]) rfl dX6_movesLeft_12
