-- the reference: sowing, captures, a move
set_option maxHeartbeats 4000000 in
set_option maxRecDepth 100000 in
theorem r_sows (l : Launch) (D : va_G) (T : Nat → ClassId) (a N b0 : Nat) (hN : b0 + 40 ≤ N) (hN2 : N < 1048576) (f P : Nat → Int32) {fr pl : Nat} (hfr : fr < 12) (hpl : pl < 2) (ht : 0 ≤ (P 37).toInt) : KI (S := Unit) l D T yX7_sows cX7_sows 7 (some .int) 1 [.ref a, .int (nI b0), .int (nI fr), .int (nI pl)] [(a, .inl (T 0, N, .inl (put f b0 P)))] (fun r _ => r = nI (sowM P fr pl).2) (fun u => [(a, .inl (T 0, N, .inl (put f b0 ((sowM P fr pl).1))))]) := by
  refine KI.of (by decide +kernel) (Nat.le_of_ble_eq_true rfl) (fun p e s m below meth c A F hr hlk hW ls hl => ?_)
  have hx := F.1
  have hb := F.2.1
  have hl : lv_has ls 7 [(0, .ref a), (1, .int (nI b0)), (2, .int (nI fr)), (3, .int (nI pl))] := hl
  refine lv_aload_n hx hb dX7_sows_0 rfl (lv_at hl 0 rfl) ?_
  refine lv_iload_n hx hb dX7_sows_1 rfl (lv_at hl 1 rfl) ?_
  refine lv_iconst (v := nI 0) hx hb dX7_sows_2 (by decide) ?_
  refine iaddE (z := nI (b0 + 0)) hx hb dX7_sows_3 (nI_add _ _) ?_
  refine lv_iload_n hx hb dX7_sows_4 rfl (lv_at hl 2 rfl) ?_
  refine iaddE (z := nI ((b0 + 0) + fr)) hx hb dX7_sows_5 (nI_add _ _) ?_
  refine ald F hW 0 rfl (x := P fr) ((b0 + 0) + fr) rfl (by omega) (by omega) (put_r (by omega) (by omega)) dX7_sows_6 ?_
  refine lv_istore (lv' := [(4, .int (P fr)), (0, .ref a), (1, .int (nI b0)), (2, .int (nI fr)), (3, .int (nI pl))]) hx hb dX7_sows_7 hl (by decide) rfl (fun ls hl => ?_)
  refine lv_aload_n hx hb dX7_sows_9 rfl (lv_at hl 1 rfl) ?_
  refine lv_iload_n hx hb dX7_sows_10 rfl (lv_at hl 2 rfl) ?_
  refine lv_iconst (v := nI 0) hx hb dX7_sows_11 (by decide) ?_
  refine iaddE (z := nI (b0 + 0)) hx hb dX7_sows_12 (nI_add _ _) ?_
  refine lv_iload_n hx hb dX7_sows_13 rfl (lv_at hl 3 rfl) ?_
  refine iaddE (z := nI ((b0 + 0) + fr)) hx hb dX7_sows_14 (nI_add _ _) ?_
  refine lv_iconst (v := 0) hx hb dX7_sows_15 (by decide) ?_
  refine ast (ws' := [(a, .inl (T 0, N, .inl (put f b0 (upd P fr 0))))]) F hW 0 (put f b0 (upd P fr 0)) rfl ((b0 + 0) + fr) rfl (by omega) (by omega) (fun j _ => put_w (by omega) (by omega) j) rfl dX7_sows_16 (fun H locs hW => ?_)
  refine lv_iload_n hx hb dX7_sows_17 rfl (lv_at hl 3 rfl) ?_
  refine lv_istore (lv' := [(5, .int (nI fr)), (4, .int (P fr)), (0, .ref a), (1, .int (nI b0)), (2, .int (nI fr)), (3, .int (nI pl))]) hx hb dX7_sows_18 hl (by decide) rfl (fun ls hl => ?_)
  refine W.loop (fun z H2 locs2 ls2 => ∃ (n : Nat) (Pc : Nat → Int32) (h hp : Nat) (hand : Int32), h < 12 ∧ hp < 12 ∧ ((hp = h ∧ z = 2 * n + 1) ∨ (h = fr ∧ (hp + 1) % 12 = fr ∧ 0 < hand ∧ z = 2 * n)) ∧ sowF n Pc hp hand fr pl = sowM P fr pl ∧ hand.toNatClampNeg ≤ n ∧ Pc 37 = P 37 ∧ Wd D T A s [(a, .inl (T 0, N, .inl (put f b0 Pc)))] H2 locs2 ∧ lv_has ls2 7 [(0, .ref a), (1, .int (nI b0)), (2, .int (nI fr)), (3, .int (nI pl)), (4, .int hand), (5, .int (nI h))]) ?_ (2 * (P fr).toNatClampNeg + 1) ⟨(P fr).toNatClampNeg, upd P fr 0, fr, fr, P fr, hfr, hfr, Or.inl ⟨rfl, rfl⟩, rfl, Nat.le_refl _, u_n (by omega), hW, lv_sub hl [2, 3, 4, 5, 1, 0] rfl⟩
  rintro z H locs ls ⟨n, Pc, h, hp, hand, hh, hhp, hc, hS, hn, h37, hW, hl⟩ ih
  refine lv_iload hx hb dX7_sows_20 (lv_at hl 4 rfl) ?_
  refine lv_if_le (tgt := 129) hx hb dX7_sows_22 (by decide) (fun h22 => ?_) (fun h22 => ?_)
  · rw [sowF_end (Int32.not_lt.mpr h22)] at hS
    have e1 : hp = h := hc.elim (fun q => q.1) (fun q => absurd q.2.2.1 (Int32.not_lt.mpr h22))
    rw [e1] at hS
    refine lv_iload hx hb dX7_sows_129 (lv_at hl 5 rfl) ?_
    exact retI F hr hlk rfl hW () (by rw [← hS]) (by rw [← hS]) dX7_sows_131
  · have h0 : 0 < hand := Int32.not_le.mp h22
    refine lv_iload hx hb dX7_sows_25 (lv_at hl 5 rfl) ?_
    refine lv_iconst (v := nI 1) hx hb dX7_sows_27 (by decide) ?_
    refine iaddE (z := nI (h + 1)) hx hb dX7_sows_28 (nI_add _ _) ?_
    refine lv_bipush (v := nI 12) hx hb dX7_sows_29 (by decide) ?_
    refine iremE (z := nI ((h + 1) % 12)) hx hb dX7_sows_31 ⟨by decide, pk_rem (by omega) (by decide) (by decide)⟩ ?_
    refine lv_istore (lv' := [(5, .int (nI ((h + 1) % 12))), (0, .ref a), (1, .int (nI b0)), (2, .int (nI fr)), (3, .int (nI pl)), (4, .int hand)]) hx hb dX7_sows_32 hl (by decide) rfl (fun ls hl => ?_)
    refine lv_iload hx hb dX7_sows_34 (lv_at hl 0 rfl) ?_
    refine lv_iload_n hx hb dX7_sows_36 rfl (lv_at hl 3 rfl) ?_
    refine lv_icmp_eq (tgt := 20) hx hb dX7_sows_37 (by decide) (fun h37y => ?_) (fun h37y => ?_)
    · have e0 := n_eq h37y (by omega) (by omega)
      have e1 : hp = h ∧ z = 2 * n + 1 := hc.elim id (fun q => absurd e0 (by have := q.1; omega))
      exact ih (2 * n) _ _ _ (by omega) ⟨n, Pc, (h + 1) % 12, hp, hand, by omega, hhp, Or.inr ⟨e0, by rw [e1.1]; exact e0, h0, rfl⟩, hS, hn, h37, hW, lv_sub hl [1, 2, 3, 4, 5, 0] rfl⟩
    · have e0 := n_ne h37y
      have eg : nxt fr hp = (h + 1) % 12 := by
        unfold nxt
        rcases hc with q | q
        · rw [q.1, if_neg e0]
        · rw [if_pos q.2.1]
          have := q.1
          have := q.2.1
          omega
      obtain ⟨n, rfl⟩ := pos_fuel h0 hn
      rw [sowF, if_pos h0, eg] at hS
      have hz : 2 * n + 1 < z := by rcases hc with q | q; (have := q.2; omega); (have := q.2.2.2; omega)
      have hg : (h + 1) % 12 < 12 := Nat.mod_lt _ (by decide)
      generalize (h + 1) % 12 = g at hl hS hg
      refine lv_aload_n hx hb dX7_sows_40 rfl (lv_at hl 1 rfl) ?_
      refine lv_iload_n hx hb dX7_sows_41 rfl (lv_at hl 2 rfl) ?_
      refine lv_bipush (v := nI 34) hx hb dX7_sows_42 (by decide) ?_
      refine iaddE (z := nI (b0 + 34)) hx hb dX7_sows_44 (nI_add _ _) ?_
      refine lv_iconst (v := nI 3) hx hb dX7_sows_45 (by decide) ?_
      refine iaddE (z := nI ((b0 + 34) + 3)) hx hb dX7_sows_46 (nI_add _ _) ?_
      refine ald F hW 0 rfl (x := Pc 37) ((b0 + 34) + 3) rfl (by omega) (by omega) (put_r (by omega) (by omega)) dX7_sows_47 ?_
      refine lv_istore (lv' := [(6, .int (Pc 37)), (5, .int (nI g)), (0, .ref a), (1, .int (nI b0)), (2, .int (nI fr)), (3, .int (nI pl)), (4, .int hand)]) hx hb dX7_sows_48 hl (by decide) rfl (fun ls hl => ?_)
      refine W.fork (X := Unit) 111 (fun _ => []) (fun _ H2 locs2 ls2 => Wd D T A s [(a, .inl (T 0, N, .inl (put f b0 (payP Pc g pl hand))))] H2 locs2 ∧ lv_has ls2 7 [(0, .ref a), (1, .int (nI b0)), (2, .int (nI fr)), (3, .int (nI pl)), (4, .int (payH Pc g pl hand)), (5, .int (nI g))]) (fun hJ => ?_) ?_
      · refine lv_iload hx hb dX7_sows_50 (lv_at hl 1 rfl) ?_
        refine cRS (As := [.int (nI g)]) (rest := []) F hW hl cs554 (r_owner l D T (h := g) (by omega)) [] rfl rfl rfl rfl (Nat.le_of_ble_eq_true rfl) ⟨Nat.le_of_ble_eq_true rfl, Nat.le_of_ble_eq_true rfl⟩ ⟨Nat.zero_le _, Nat.zero_le _⟩ dX7_sows_52 (fun r52 hr52 => ?_)
        subst hr52
        refine lv_iload_n hx hb dX7_sows_55 rfl (lv_at hl 5 rfl) ?_
        refine lv_icmp_eq (tgt := 111) hx hb dX7_sows_56 (by decide) (fun h56 => ?_) (fun h56 => ?_)
        · have hc2 : ¬ (own g ≠ pl ∧ Pc 35 ≤ Pc (12 + g) ∧ Pc 37 < hand) := fun q => q.1 (n_eq h56 (by have := own_lt hg; omega) (by omega))
          exact hJ () _ _ _ ⟨by rw [payP_n hc2]; exact hW, by rw [payH_n hc2]; exact lv_sub hl [2, 3, 4, 5, 6, 1] rfl⟩
        · refine lv_aload_n hx hb dX7_sows_59 rfl (lv_at hl 2 rfl) ?_
          refine lv_iload_n hx hb dX7_sows_60 rfl (lv_at hl 3 rfl) ?_
          refine lv_iload hx hb dX7_sows_61 (lv_at hl 1 rfl) ?_
          refine cRS (As := [.ref a, .int (nI b0), .int (nI g)]) (rest := []) F hW hl cs567 (r_isHostile l D T a N b0 (by omega) (by omega) f Pc (h := g) (by omega)) [0] rfl rfl rfl rfl (Nat.le_of_ble_eq_true rfl) ⟨Nat.le_of_ble_eq_true rfl, Nat.le_of_ble_eq_true rfl⟩ ⟨Nat.zero_le _, Nat.zero_le _⟩ dX7_sows_63 (fun r63 hr63 => ?_)
          subst hr63
          refine lv_if_eq (tgt := 111) hx hb dX7_sows_66 (by decide) (fun h66 => ?_) (fun h66 => ?_)
          · have hc2 : ¬ (own g ≠ pl ∧ Pc 35 ≤ Pc (12 + g) ∧ Pc 37 < hand) := fun q => bz.mp h66 q.2.1
            exact hJ () _ _ _ ⟨by rw [payP_n hc2]; exact hW, by rw [payH_n hc2]; exact lv_sub hl [2, 3, 4, 5, 6, 1] rfl⟩
          · refine lv_iload hx hb dX7_sows_69 (lv_at hl 6 rfl) ?_
            refine lv_iload hx hb dX7_sows_71 (lv_at hl 0 rfl) ?_
            refine lv_icmp_le (tgt := 111) hx hb dX7_sows_73 (by decide) (fun h73 => ?_) (fun h73 => ?_)
            · have hc2 : ¬ (own g ≠ pl ∧ Pc 35 ≤ Pc (12 + g) ∧ Pc 37 < hand) := fun q => Int32.not_lt.mpr h73 q.2.2
              exact hJ () _ _ _ ⟨by rw [payP_n hc2]; exact hW, by rw [payH_n hc2]; exact lv_sub hl [2, 3, 4, 5, 6, 1] rfl⟩
            · have hc2 : own g ≠ pl ∧ Pc 35 ≤ Pc (12 + g) ∧ Pc 37 < hand := ⟨n_ne h56, Decidable.not_not.mp (fun q => h66 (bz.mpr q)), Int32.not_le.mp h73⟩
              refine lv_iload hx hb dX7_sows_76 (lv_at hl 6 rfl) ?_
              refine lv_iload hx hb dX7_sows_78 (lv_at hl 0 rfl) ?_
              refine isubE (z := hand - (Pc 37)) hx hb dX7_sows_80 rfl ?_
              refine lv_istore (lv' := [(4, .int (hand - (Pc 37))), (6, .int (Pc 37)), (5, .int (nI g)), (0, .ref a), (1, .int (nI b0)), (2, .int (nI fr)), (3, .int (nI pl))]) hx hb dX7_sows_81 hl (by decide) rfl (fun ls hl => ?_)
              refine lv_aload_n hx hb dX7_sows_83 rfl (lv_at hl 3 rfl) ?_
              refine lv_iload_n hx hb dX7_sows_84 rfl (lv_at hl 4 rfl) ?_
              refine lv_bipush (v := nI 24) hx hb dX7_sows_85 (by decide) ?_
              refine iaddE (z := nI (b0 + 24)) hx hb dX7_sows_87 (nI_add _ _) ?_
              refine lv_iconst (v := nI 1) hx hb dX7_sows_88 (by decide) ?_
              refine iaddE (z := nI ((b0 + 24) + 1)) hx hb dX7_sows_89 (nI_add _ _) ?_
              refine lv_iload_n hx hb dX7_sows_90 rfl (lv_at hl 6 rfl) ?_
              refine isubE (z := nI (((b0 + 24) + 1) - pl)) hx hb dX7_sows_91 (pk_sub (by omega)) ?_
              refine lv_dup2_11 hx hb dX7_sows_92 rfl rfl ?_
              refine ald F hW 0 rfl (x := Pc (25 - pl)) (((b0 + 24) + 1) - pl) rfl (by omega) (by omega) (put_r (by omega) (by omega)) dX7_sows_93 ?_
              refine lv_iload hx hb dX7_sows_94 (lv_at hl 1 rfl) ?_
              refine iaddE (z := (Pc (25 - pl)) + (Pc 37)) hx hb dX7_sows_96 rfl ?_
              refine ast (ws' := [(a, .inl (T 0, N, .inl (put f b0 (upd Pc (25 - pl) ((Pc (25 - pl)) + (Pc 37))))))]) F hW 0 (put f b0 (upd Pc (25 - pl) ((Pc (25 - pl)) + (Pc 37)))) rfl (((b0 + 24) + 1) - pl) rfl (by omega) (by omega) (fun j _ => put_w (by omega) (by omega) j) rfl dX7_sows_97 (fun H locs hW => ?_)
              refine lv_aload_n hx hb dX7_sows_98 rfl (lv_at hl 3 rfl) ?_
              refine lv_iload_n hx hb dX7_sows_99 rfl (lv_at hl 4 rfl) ?_
              refine lv_bipush (v := nI 29) hx hb dX7_sows_100 (by decide) ?_
              refine iaddE (z := nI (b0 + 29)) hx hb dX7_sows_102 (nI_add _ _) ?_
              refine lv_iconst (v := nI 4) hx hb dX7_sows_103 (by decide) ?_
              refine iaddE (z := nI ((b0 + 29) + 4)) hx hb dX7_sows_104 (nI_add _ _) ?_
              refine lv_dup2_11 hx hb dX7_sows_105 rfl rfl ?_
              refine ald F hW 0 rfl (x := Pc 33) ((b0 + 29) + 4) rfl (by omega) (by omega) ((put_r (k := 33) (by omega) (by omega)).trans (u_n (by omega))) dX7_sows_106 ?_
              refine lv_iload hx hb dX7_sows_107 (lv_at hl 1 rfl) ?_
              refine iaddE (z := (Pc 33) + (Pc 37)) hx hb dX7_sows_109 rfl ?_
              refine ast (ws' := [(a, .inl (T 0, N, .inl (put f b0 (upd (upd Pc (25 - pl) ((Pc (25 - pl)) + (Pc 37))) 33 ((Pc 33) + (Pc 37))))))]) F hW 0 (put f b0 (upd (upd Pc (25 - pl) ((Pc (25 - pl)) + (Pc 37))) 33 ((Pc 33) + (Pc 37)))) rfl ((b0 + 29) + 4) rfl (by omega) (by omega) (fun j _ => put_w (by omega) (by omega) j) rfl dX7_sows_110 (fun H locs hW => ?_)
              exact hJ () _ _ _ ⟨by rw [payP_y hc2]; exact hW, by rw [payH_y hc2]; exact lv_sub hl [3, 4, 5, 6, 0, 2] rfl⟩
      · rintro - H locs ls ⟨hW, hl⟩
        refine lv_aload_n hx hb dX7_sows_111 rfl (lv_at hl 0 rfl) ?_
        refine lv_iload_n hx hb dX7_sows_112 rfl (lv_at hl 1 rfl) ?_
        refine lv_iconst (v := nI 0) hx hb dX7_sows_113 (by decide) ?_
        refine iaddE (z := nI (b0 + 0)) hx hb dX7_sows_114 (nI_add _ _) ?_
        refine lv_iload hx hb dX7_sows_115 (lv_at hl 5 rfl) ?_
        refine iaddE (z := nI ((b0 + 0) + g)) hx hb dX7_sows_117 (nI_add _ _) ?_
        refine lv_dup2_11 hx hb dX7_sows_118 rfl rfl ?_
        refine ald F hW 0 rfl (x := (payP Pc g pl hand) g) ((b0 + 0) + g) rfl (by omega) (by omega) (put_r (by omega) (by omega)) dX7_sows_119 ?_
        refine lv_iconst (v := nI 1) hx hb dX7_sows_120 (by decide) ?_
        refine iaddE (z := ((payP Pc g pl hand) g) + (nI 1)) hx hb dX7_sows_121 rfl ?_
        refine ast (ws' := [(a, .inl (T 0, N, .inl (put f b0 (putS (payP Pc g pl hand) g))))]) F hW 0 (put f b0 (putS (payP Pc g pl hand) g)) rfl ((b0 + 0) + g) rfl (by omega) (by omega) (fun j _ => put_w (by omega) (by omega) j) rfl dX7_sows_122 (fun H locs hW => ?_)
        refine lv_iinc (v := (payH Pc g pl hand) - 1) (lv' := [(4, .int ((payH Pc g pl hand) - 1)), (0, .ref a), (1, .int (nI b0)), (2, .int (nI fr)), (3, .int (nI pl)), (5, .int (nI g))]) hx hb dX7_sows_123 hl (k := 4) rfl (by rw [Int32.sub_eq_add_neg]; rfl) (by decide) rfl (fun ls hl => ?_)
        refine lv_goto (tgt := 20) hx hb dX7_sows_126 (by decide) ?_
        exact ih (2 * n + 1) _ _ _ hz ⟨n, (putS (payP Pc g pl hand) g), g, g, (payH Pc g pl hand) - 1, hg, hg, Or.inl ⟨rfl, rfl⟩, hS, by have := pay_dec (P := Pc) (h := g) (pl := pl) h0 (by rw [h37]; exact ht); omega, (putS_o _ (by omega)).trans ((payP_o Pc g pl hand hpl (by omega) (by omega) (by omega)).trans h37), hW, lv_sub hl [1, 2, 3, 4, 0, 5] rfl⟩
set_option maxHeartbeats 4000000 in
set_option maxRecDepth 100000 in
theorem r_captures (l : Launch) (D : va_G) (T : Nat → ClassId) (a N b0 : Nat) (hN : b0 + 40 ≤ N) (hN2 : N < 1048576) (f P : Nat → Int32) {h pl : Nat} (hh : h < 12) (hpl : pl < 2) : KV (S := Unit) l D T yX7_captures cX7_captures 6 0 [.ref a, .int (nI b0), .int (nI h), .int (nI pl)] [(a, .inl (T 0, N, .inl (put f b0 P)))] (fun _ => True) (fun u => [(a, .inl (T 0, N, .inl (put f b0 (capM P h pl))))]) := by
  refine KV.of (by decide +kernel) (Nat.le_of_ble_eq_true rfl) (fun p e s m below meth c A F hr hlk hW ls hl => ?_)
  have hx := F.1
  have hb := F.2.1
  have hl : lv_has ls 6 [(0, .ref a), (1, .int (nI b0)), (2, .int (nI h)), (3, .int (nI pl))] := hl
  refine lv_bipush (v := nI 11) hx hb dX7_captures_0 (by decide) ?_
  refine lv_iload_n hx hb dX7_captures_2 rfl (lv_at hl 2 rfl) ?_
  refine isubE (z := nI (11 - h)) hx hb dX7_captures_3 (pk_sub (by omega)) ?_
  refine lv_istore (lv' := [(4, .int (nI (11 - h))), (0, .ref a), (1, .int (nI b0)), (2, .int (nI h)), (3, .int (nI pl))]) hx hb dX7_captures_4 hl (by decide) rfl (fun ls hl => ?_)
  refine lv_aload_n hx hb dX7_captures_6 rfl (lv_at hl 1 rfl) ?_
  refine lv_iload_n hx hb dX7_captures_7 rfl (lv_at hl 2 rfl) ?_
  refine lv_iconst (v := nI 0) hx hb dX7_captures_8 (by decide) ?_
  refine iaddE (z := nI (b0 + 0)) hx hb dX7_captures_9 (nI_add _ _) ?_
  refine lv_iload_n hx hb dX7_captures_10 rfl (lv_at hl 3 rfl) ?_
  refine iaddE (z := nI ((b0 + 0) + h)) hx hb dX7_captures_11 (nI_add _ _) ?_
  refine ald F hW 0 rfl (x := P h) ((b0 + 0) + h) rfl (by omega) (by omega) (put_r (by omega) (by omega)) dX7_captures_12 ?_
  refine lv_aload_n hx hb dX7_captures_13 rfl (lv_at hl 1 rfl) ?_
  refine lv_iload_n hx hb dX7_captures_14 rfl (lv_at hl 2 rfl) ?_
  refine lv_iconst (v := nI 0) hx hb dX7_captures_15 (by decide) ?_
  refine iaddE (z := nI (b0 + 0)) hx hb dX7_captures_16 (nI_add _ _) ?_
  refine lv_iload hx hb dX7_captures_17 (lv_at hl 0 rfl) ?_
  refine iaddE (z := nI ((b0 + 0) + (11 - h))) hx hb dX7_captures_19 (nI_add _ _) ?_
  refine ald F hW 0 rfl (x := P (11 - h)) ((b0 + 0) + (11 - h)) rfl (by omega) (by omega) (put_r (by omega) (by omega)) dX7_captures_20 ?_
  refine iaddE (z := (P h) + (P (11 - h))) hx hb dX7_captures_21 rfl ?_
  refine lv_istore (lv' := [(5, .int ((P h) + (P (11 - h)))), (4, .int (nI (11 - h))), (0, .ref a), (1, .int (nI b0)), (2, .int (nI h)), (3, .int (nI pl))]) hx hb dX7_captures_22 hl (by decide) rfl (fun ls hl => ?_)
  refine lv_aload_n hx hb dX7_captures_24 rfl (lv_at hl 2 rfl) ?_
  refine lv_iload_n hx hb dX7_captures_25 rfl (lv_at hl 3 rfl) ?_
  refine lv_bipush (v := nI 24) hx hb dX7_captures_26 (by decide) ?_
  refine iaddE (z := nI (b0 + 24)) hx hb dX7_captures_28 (nI_add _ _) ?_
  refine lv_iload_n hx hb dX7_captures_29 rfl (lv_at hl 5 rfl) ?_
  refine iaddE (z := nI ((b0 + 24) + pl)) hx hb dX7_captures_30 (nI_add _ _) ?_
  refine lv_dup2_11 hx hb dX7_captures_31 rfl rfl ?_
  refine ald F hW 0 rfl (x := P (24 + pl)) ((b0 + 24) + pl) rfl (by omega) (by omega) (put_r (by omega) (by omega)) dX7_captures_32 ?_
  refine lv_iload hx hb dX7_captures_33 (lv_at hl 0 rfl) ?_
  refine iaddE (z := (P (24 + pl)) + ((P h) + (P (11 - h)))) hx hb dX7_captures_35 rfl ?_
  refine ast (ws' := [(a, .inl (T 0, N, .inl (put f b0 (upd P (24 + pl) ((P (24 + pl)) + ((P h) + (P (11 - h))))))))]) F hW 0 (put f b0 (upd P (24 + pl) ((P (24 + pl)) + ((P h) + (P (11 - h)))))) rfl ((b0 + 24) + pl) rfl (by omega) (by omega) (fun j _ => put_w (by omega) (by omega) j) rfl dX7_captures_36 (fun H locs hW => ?_)
  refine lv_aload_n hx hb dX7_captures_37 rfl (lv_at hl 2 rfl) ?_
  refine lv_iload_n hx hb dX7_captures_38 rfl (lv_at hl 3 rfl) ?_
  refine lv_iconst (v := nI 0) hx hb dX7_captures_39 (by decide) ?_
  refine iaddE (z := nI (b0 + 0)) hx hb dX7_captures_40 (nI_add _ _) ?_
  refine lv_iload_n hx hb dX7_captures_41 rfl (lv_at hl 4 rfl) ?_
  refine iaddE (z := nI ((b0 + 0) + h)) hx hb dX7_captures_42 (nI_add _ _) ?_
  refine lv_iconst (v := 0) hx hb dX7_captures_43 (by decide) ?_
  refine ast (ws' := [(a, .inl (T 0, N, .inl (put f b0 (upd (upd P (24 + pl) ((P (24 + pl)) + ((P h) + (P (11 - h))))) h 0))))]) F hW 0 (put f b0 (upd (upd P (24 + pl) ((P (24 + pl)) + ((P h) + (P (11 - h))))) h 0)) rfl ((b0 + 0) + h) rfl (by omega) (by omega) (fun j _ => put_w (by omega) (by omega) j) rfl dX7_captures_44 (fun H locs hW => ?_)
  refine lv_aload_n hx hb dX7_captures_45 rfl (lv_at hl 2 rfl) ?_
  refine lv_iload_n hx hb dX7_captures_46 rfl (lv_at hl 3 rfl) ?_
  refine lv_iconst (v := nI 0) hx hb dX7_captures_47 (by decide) ?_
  refine iaddE (z := nI (b0 + 0)) hx hb dX7_captures_48 (nI_add _ _) ?_
  refine lv_iload hx hb dX7_captures_49 (lv_at hl 1 rfl) ?_
  refine iaddE (z := nI ((b0 + 0) + (11 - h))) hx hb dX7_captures_51 (nI_add _ _) ?_
  refine lv_iconst (v := 0) hx hb dX7_captures_52 (by decide) ?_
  refine ast (ws' := [(a, .inl (T 0, N, .inl (put f b0 (upd (upd (upd P (24 + pl) ((P (24 + pl)) + ((P h) + (P (11 - h))))) h 0) (11 - h) 0))))]) F hW 0 (put f b0 (upd (upd (upd P (24 + pl) ((P (24 + pl)) + ((P h) + (P (11 - h))))) h 0) (11 - h) 0)) rfl ((b0 + 0) + (11 - h)) rfl (by omega) (by omega) (fun j _ => put_w (by omega) (by omega) j) rfl dX7_captures_53 (fun H locs hW => ?_)
  refine lv_aload_n hx hb dX7_captures_54 rfl (lv_at hl 2 rfl) ?_
  refine lv_iload_n hx hb dX7_captures_55 rfl (lv_at hl 3 rfl) ?_
  refine lv_bipush (v := nI 12) hx hb dX7_captures_56 (by decide) ?_
  refine iaddE (z := nI (b0 + 12)) hx hb dX7_captures_58 (nI_add _ _) ?_
  refine lv_iload hx hb dX7_captures_59 (lv_at hl 1 rfl) ?_
  refine iaddE (z := nI ((b0 + 12) + (11 - h))) hx hb dX7_captures_61 (nI_add _ _) ?_
  refine lv_iconst (v := 0) hx hb dX7_captures_62 (by decide) ?_
  refine ast (ws' := [(a, .inl (T 0, N, .inl (put f b0 (upd (upd (upd (upd P (24 + pl) ((P (24 + pl)) + ((P h) + (P (11 - h))))) h 0) (11 - h) 0) (12 + (11 - h)) 0))))]) F hW 0 (put f b0 (upd (upd (upd (upd P (24 + pl) ((P (24 + pl)) + ((P h) + (P (11 - h))))) h 0) (11 - h) 0) (12 + (11 - h)) 0)) rfl ((b0 + 12) + (11 - h)) rfl (by omega) (by omega) (fun j _ => put_w (by omega) (by omega) j) rfl dX7_captures_63 (fun H locs hW => ?_)
  refine lv_aload_n hx hb dX7_captures_64 rfl (lv_at hl 2 rfl) ?_
  refine lv_iload_n hx hb dX7_captures_65 rfl (lv_at hl 3 rfl) ?_
  refine lv_bipush (v := nI 29) hx hb dX7_captures_66 (by decide) ?_
  refine iaddE (z := nI (b0 + 29)) hx hb dX7_captures_68 (nI_add _ _) ?_
  refine lv_iconst (v := nI 3) hx hb dX7_captures_69 (by decide) ?_
  refine iaddE (z := nI ((b0 + 29) + 3)) hx hb dX7_captures_70 (nI_add _ _) ?_
  refine lv_iload hx hb dX7_captures_71 (lv_at hl 0 rfl) ?_
  refine ast (ws' := [(a, .inl (T 0, N, .inl (put f b0 (upd (upd (upd (upd (upd P (24 + pl) ((P (24 + pl)) + ((P h) + (P (11 - h))))) h 0) (11 - h) 0) (12 + (11 - h)) 0) 32 ((P h) + (P (11 - h)))))))]) F hW 0 (put f b0 (upd (upd (upd (upd (upd P (24 + pl) ((P (24 + pl)) + ((P h) + (P (11 - h))))) h 0) (11 - h) 0) (12 + (11 - h)) 0) 32 ((P h) + (P (11 - h))))) rfl ((b0 + 29) + 3) rfl (by omega) (by omega) (fun j _ => put_w (by omega) (by omega) j) rfl dX7_captures_73 (fun H locs hW => ?_)
  exact retV F hr hlk hW () trivial rfl dX7_captures_74
def clk (P : Nat → Int32) (k : Nat) : Nat → Int32 := fun j => if 29 ≤ j ∧ j < 29 + k then 0 else P j
theorem clk_s {P : Nat → Int32} {k : Nat} (j : Nat) : upd (clk P k) (29 + k) 0 j = clk P (k + 1) j := by
  unfold clk
  by_cases q : j = 29 + k
  · rw [q, u_s, if_pos (by omega)]
  · rw [u_n q]
    by_cases z : 29 ≤ j ∧ j < 29 + k
    · rw [if_pos z, if_pos (by omega)]
    · rw [if_neg z, if_neg (by omega)]
theorem en_y {B : Nat → Int32} (h : overM B) : enM B = endsM B := if_pos h
theorem en_n {B : Nat → Int32} (h : ¬ overM B) : enM B = upd B 27 0 := if_neg h
theorem fin_y {B : Nat → Int32} {pl : Nat} (h : overM B) : finM B pl = upd (enM B) 26 (nI (1 - pl)) := by rw [en_y h]; exact if_pos h
theorem fin_n {B : Nat → Int32} {pl : Nat} (h : ¬ overM B) : finM B pl = upd (enM B) 26 (turnM B pl) := by rw [en_n h]; exact if_neg h
theorem en_sm {B : Nat → Int32} {pl : Nat} (h : ¬ overM B) (hpl : pl < 2) : sm 0 (enM B) (6 * (1 - pl)) 6 = sm 0 B (6 * (1 - pl)) 6 := by
  rw [en_n h]
  exact sm_ext (fun j h1 h2 => u_n (by omega))
set_option maxHeartbeats 4000000 in
set_option maxRecDepth 100000 in
theorem r_moves (l : Launch) (D : va_G) (T : Nat → ClassId) (a N b0 : Nat) (hN : b0 + 40 ≤ N) (hN2 : N < 1048576) (f P : Nat → Int32) {fr pl : Nat} (hfr : fr < 12) (hpl : pl < 2) (h26 : P 26 = nI pl) (h36 : 0 ≤ (P 36).toInt ∧ (P 36).toInt ≤ 20) (ht : 0 ≤ (P 37).toInt) : KV (S := Unit) l D T yX7_moves cX7_moves 8 2 [.ref a, .int (nI b0), .int (nI fr)] [(a, .inl (T 0, N, .inl (put f b0 P)))] (fun _ => True) (fun u => [(a, .inl (T 0, N, .inl (put f b0 (mvM P fr))))]) := by
  refine KV.of (by decide +kernel) (Nat.le_of_ble_eq_true rfl) (fun p e s m below meth c A F hr hlk hW ls hl => ?_)
  have hx := F.1
  have hb := F.2.1
  have hl : lv_has ls 8 [(0, .ref a), (1, .int (nI b0)), (2, .int (nI fr))] := hl
  refine lv_aload_n hx hb dX7_moves_0 rfl (lv_at hl 0 rfl) ?_
  refine lv_iload_n hx hb dX7_moves_1 rfl (lv_at hl 1 rfl) ?_
  refine lv_bipush (v := nI 26) hx hb dX7_moves_2 (by decide) ?_
  refine iaddE (z := nI (b0 + 26)) hx hb dX7_moves_4 (nI_add _ _) ?_
  refine ald F hW 0 rfl (x := nI pl) (b0 + 26) rfl (by omega) (by omega) ((put_r (k := 26) (by omega) (by omega)).trans h26) dX7_moves_5 ?_
  refine lv_istore_n (lv' := [(3, .int (nI pl)), (0, .ref a), (1, .int (nI b0)), (2, .int (nI fr))]) hx hb dX7_moves_6 rfl hl (by decide) rfl (fun ls hl => ?_)
  refine lv_iconst (v := nI 0) hx hb dX7_moves_7 (by decide) ?_
  refine lv_istore (lv' := [(4, .int (nI 0)), (3, .int (nI pl)), (0, .ref a), (1, .int (nI b0)), (2, .int (nI fr))]) hx hb dX7_moves_8 hl (by decide) rfl (fun ls hl => ?_)
  have hW := Wd.arr hW 0 (put f b0 (clk P 0)) rfl (fun j _ => put_c (fun j _ => (if_neg (by omega)).symm) j) (ws' := [(a, .inl (T 0, N, .inl (put f b0 (clk P 0))))]) rfl
  refine W.loop (fun n H2 locs2 ls2 => ∃ k, k ≤ 5 ∧ n = 5 - k ∧ Wd D T A s [(a, .inl (T 0, N, .inl (put f b0 (clk P k))))] H2 locs2 ∧ lv_has ls2 8 [(0, .ref a), (1, .int (nI b0)), (2, .int (nI fr)), (3, .int (nI pl)), (4, .int (nI k))]) ?_ 5 ⟨0, by omega, rfl, hW, lv_sub hl [2, 3, 4, 1, 0] rfl⟩
  rintro n H locs ls ⟨k, hk, rfl, hW, hl⟩ ih
  refine lv_iload hx hb dX7_moves_10 (lv_at hl 4 rfl) ?_
  refine lv_iconst (v := nI 5) hx hb dX7_moves_12 (by decide) ?_
  refine lv_icmp_ge (tgt := 32) hx hb dX7_moves_13 (by decide) (fun h13 => ?_) (fun h13 => ?_)
  · have h5 : k = 5 := by have := n_le h13 (by omega) (by omega); omega
    rw [h5] at hW
    have hW := Wd.arr hW 0 (put f b0 (clrL P)) rfl (fun j _ => put_c (fun j _ => rfl) j) (ws' := [(a, .inl (T 0, N, .inl (put f b0 (clrL P))))]) rfl
    refine lv_iload_n hx hb dX7_moves_32 rfl (lv_at hl 2 rfl) ?_
    refine lv_istore (lv' := [(4, .int (nI fr)), (0, .ref a), (1, .int (nI b0)), (2, .int (nI fr)), (3, .int (nI pl))]) hx hb dX7_moves_33 hl (by decide) rfl (fun ls hl => ?_)
    refine lv_iconst (v := 1) hx hb dX7_moves_35 (by decide) ?_
    refine lv_istore (lv' := [(5, .int 1), (4, .int (nI fr)), (0, .ref a), (1, .int (nI b0)), (2, .int (nI fr)), (3, .int (nI pl))]) hx hb dX7_moves_36 hl (by decide) rfl (fun ls hl => ?_)
    clear ih
    refine W.loop (fun n H2 locs2 ls2 => ∃ (k : Nat) (Pc : Nat → Int32) (h : Nat) (mo : Int32), k ≤ 21 ∧ n = 21 - k ∧ h < 12 ∧ Pc 30 = nI k ∧ Pc 36 = P 36 ∧ Pc 37 = P 37 ∧ ((mo = 1 ∧ k ≤ 20 ∧ lapsF (21 - k) Pc h pl = mvA P fr pl) ∨ (mo = 0 ∧ (Pc, h) = mvA P fr pl)) ∧ Wd D T A s [(a, .inl (T 0, N, .inl (put f b0 Pc)))] H2 locs2 ∧ lv_has ls2 8 [(0, .ref a), (1, .int (nI b0)), (2, .int (nI fr)), (3, .int (nI pl)), (4, .int (nI h)), (5, .int mo)]) ?_ 21 ⟨0, clrL P, fr, 1, by omega, rfl, hfr, clrL_z P (by decide) (by decide), clrL_o P (by decide), clrL_o P (by decide), Or.inl ⟨rfl, by omega, rfl⟩, hW, lv_sub hl [2, 3, 4, 5, 1, 0] rfl⟩
    rintro n H locs ls ⟨k2, Pc, h, mo, hk2, rfl, hh, h30, hP36, hP37, hc, hW, hl⟩ ih
    refine lv_iload hx hb dX7_moves_38 (lv_at hl 5 rfl) ?_
    refine lv_if_eq (tgt := 188) hx hb dX7_moves_40 (by decide) (fun h40 => ?_) (fun h40 => ?_)
    · have hA2 : (Pc, h) = mvA P fr pl := hc.elim (fun q => absurd (q.1.symm.trans h40) (by decide)) (fun q => q.2)
      have hB : mvB P fr pl = upd (upd (upd Pc 29 (nI fr)) 31 (nI h)) 28 (Pc 28 + 1) := by unfold mvB; rw [← hA2]
      have hM : mvM P fr = finM (mvB P fr pl) pl := by unfold mvM; rw [h26, nI_clamp (by omega)]
      refine lv_aload_n hx hb dX7_moves_188 rfl (lv_at hl 0 rfl) ?_
      refine lv_iload_n hx hb dX7_moves_189 rfl (lv_at hl 1 rfl) ?_
      refine lv_bipush (v := nI 29) hx hb dX7_moves_190 (by decide) ?_
      refine iaddE (z := nI (b0 + 29)) hx hb dX7_moves_192 (nI_add _ _) ?_
      refine lv_iload_n hx hb dX7_moves_193 rfl (lv_at hl 2 rfl) ?_
      refine ast (ws' := [(a, .inl (T 0, N, .inl (put f b0 (upd Pc 29 (nI fr)))))]) F hW 0 (put f b0 (upd Pc 29 (nI fr))) rfl (b0 + 29) rfl (by omega) (by omega) (fun j _ => put_w (by omega) (by omega) j) rfl dX7_moves_194 (fun H locs hW => ?_)
      refine lv_aload_n hx hb dX7_moves_195 rfl (lv_at hl 0 rfl) ?_
      refine lv_iload_n hx hb dX7_moves_196 rfl (lv_at hl 1 rfl) ?_
      refine lv_bipush (v := nI 29) hx hb dX7_moves_197 (by decide) ?_
      refine iaddE (z := nI (b0 + 29)) hx hb dX7_moves_199 (nI_add _ _) ?_
      refine lv_iconst (v := nI 2) hx hb dX7_moves_200 (by decide) ?_
      refine iaddE (z := nI ((b0 + 29) + 2)) hx hb dX7_moves_201 (nI_add _ _) ?_
      refine lv_iload hx hb dX7_moves_202 (lv_at hl 4 rfl) ?_
      refine ast (ws' := [(a, .inl (T 0, N, .inl (put f b0 (upd (upd Pc 29 (nI fr)) 31 (nI h)))))]) F hW 0 (put f b0 (upd (upd Pc 29 (nI fr)) 31 (nI h))) rfl ((b0 + 29) + 2) rfl (by omega) (by omega) (fun j _ => put_w (by omega) (by omega) j) rfl dX7_moves_204 (fun H locs hW => ?_)
      refine lv_aload_n hx hb dX7_moves_205 rfl (lv_at hl 0 rfl) ?_
      refine lv_iload_n hx hb dX7_moves_206 rfl (lv_at hl 1 rfl) ?_
      refine lv_bipush (v := nI 28) hx hb dX7_moves_207 (by decide) ?_
      refine iaddE (z := nI (b0 + 28)) hx hb dX7_moves_209 (nI_add _ _) ?_
      refine lv_dup2_11 hx hb dX7_moves_210 rfl rfl ?_
      refine ald F hW 0 rfl (x := Pc 28) (b0 + 28) rfl (by omega) (by omega) ((put_r (k := 28) (by omega) (by omega)).trans ((u_n (by omega)).trans (u_n (by omega)))) dX7_moves_211 ?_
      refine lv_iconst (v := nI 1) hx hb dX7_moves_212 (by decide) ?_
      refine iaddE (z := (Pc 28) + (nI 1)) hx hb dX7_moves_213 rfl ?_
      refine ast (ws' := [(a, .inl (T 0, N, .inl (put f b0 (mvB P fr pl))))]) F hW 0 (put f b0 (mvB P fr pl)) rfl (b0 + 28) rfl (by omega) (by omega) (by rw [hB]; exact fun j _ => put_w (by omega) (by omega) j) rfl dX7_moves_214 (fun H locs hW => ?_)
      generalize mvB P fr pl = B at hW hM
      refine lv_aload_n hx hb dX7_moves_215 rfl (lv_at hl 0 rfl) ?_
      refine lv_iload_n hx hb dX7_moves_216 rfl (lv_at hl 1 rfl) ?_
      refine cIS (As := [.ref a, .int (nI b0)]) (rest := []) (wr := []) F hW hl cs573 (r_ends l D T a N b0 (by omega) (by omega) f B) [0] [] rfl rfl rfl rfl (by decide) rfl rfl (Nat.le_of_ble_eq_true rfl) ⟨Nat.le_of_ble_eq_true rfl, Nat.le_of_ble_eq_true rfl⟩ ⟨Nat.zero_le _, Nat.zero_le _⟩ dX7_moves_217 (fun r217 u217 H locs hr217 hW => ?_)
      have hW := Wd.ord hW (ws' := [(a, .inl (T 0, N, .inl (put f b0 (enM B))))]) [0] rfl rfl
      subst hr217
      refine lv_istore (lv' := [(6, .int (if overM B then 1 else 0)), (0, .ref a), (1, .int (nI b0)), (2, .int (nI fr)), (3, .int (nI pl)), (4, .int (nI h)), (5, .int mo)]) hx hb dX7_moves_220 hl (by decide) rfl (fun ls hl => ?_)
      refine lv_aload_n hx hb dX7_moves_222 rfl (lv_at hl 1 rfl) ?_
      refine lv_iload_n hx hb dX7_moves_223 rfl (lv_at hl 2 rfl) ?_
      refine lv_bipush (v := nI 26) hx hb dX7_moves_224 (by decide) ?_
      refine iaddE (z := nI (b0 + 26)) hx hb dX7_moves_226 (nI_add _ _) ?_
      refine lv_iload hx hb dX7_moves_227 (lv_at hl 0 rfl) ?_
      refine W.fork (X := Int32) 250 (fun z => [.int z, .int (nI (b0 + 26)), .ref a]) (fun z H2 locs2 ls2 => finM B pl = upd (enM B) 26 z ∧ H2 = H ∧ locs2 = locs ∧ lv_has ls2 8 [(6, .int (if overM B then 1 else 0)), (0, .ref a), (1, .int (nI b0)), (2, .int (nI fr)), (3, .int (nI pl)), (4, .int (nI h)), (5, .int mo)]) (fun hJ => ?_) ?_
      · refine lv_if_ne (tgt := 243) hx hb dX7_moves_229 (by decide) (fun h229 => ?_) (fun h229 => ?_)
        · have ho : overM B := Decidable.not_not.mp (fun q => h229 (bz.mpr q))
          refine lv_iconst (v := nI 1) hx hb dX7_moves_243 (by decide) ?_
          refine lv_iload_n hx hb dX7_moves_244 rfl (lv_at hl 4 rfl) ?_
          refine isubE (z := nI (1 - pl)) hx hb dX7_moves_245 (pk_sub (by omega)) ?_
          refine lv_goto (tgt := 250) hx hb dX7_moves_246 (by decide) ?_
          exact hJ (nI (1 - pl)) _ _ _ ⟨fin_y ho, rfl, rfl, hl⟩
        · have ho : ¬ overM B := bz.mp h229
          refine lv_aload_n hx hb dX7_moves_232 rfl (lv_at hl 1 rfl) ?_
          refine lv_iload_n hx hb dX7_moves_233 rfl (lv_at hl 2 rfl) ?_
          refine lv_iconst (v := nI 1) hx hb dX7_moves_234 (by decide) ?_
          refine lv_iload_n hx hb dX7_moves_235 rfl (lv_at hl 4 rfl) ?_
          refine isubE (z := nI (1 - pl)) hx hb dX7_moves_236 (pk_sub (by omega)) ?_
          refine cRS (As := [.ref a, .int (nI b0), .int (nI (1 - pl))]) (rest := [.int (nI (b0 + 26)), .ref a]) F hW hl cs579 (r_seedsOf l D T a N b0 (by omega) (by omega) f (enM B) (t := (1 - pl)) (by omega)) [0] rfl rfl rfl rfl (Nat.le_of_ble_eq_true rfl) ⟨Nat.le_of_ble_eq_true rfl, Nat.le_of_ble_eq_true rfl⟩ ⟨Nat.zero_le _, Nat.zero_le _⟩ dX7_moves_237 (fun r237 hr237 => ?_)
          subst hr237
          refine lv_if_le (tgt := 249) hx hb dX7_moves_240 (by decide) (fun h240 => ?_) (fun h240 => ?_)
          · rw [en_sm ho hpl] at h240
            refine lv_iload_n hx hb dX7_moves_249 rfl (lv_at hl 4 rfl) ?_
            exact hJ (nI pl) _ _ _ ⟨by rw [fin_n ho]; unfold turnM; rw [if_neg (Int32.not_lt.mpr h240)], rfl, rfl, hl⟩
          · rw [en_sm ho hpl] at h240
            refine lv_iconst (v := nI 1) hx hb dX7_moves_243 (by decide) ?_
            refine lv_iload_n hx hb dX7_moves_244 rfl (lv_at hl 4 rfl) ?_
            refine isubE (z := nI (1 - pl)) hx hb dX7_moves_245 (pk_sub (by omega)) ?_
            refine lv_goto (tgt := 250) hx hb dX7_moves_246 (by decide) ?_
            exact hJ (nI (1 - pl)) _ _ _ ⟨by rw [fin_n ho]; unfold turnM; rw [if_pos (Int32.not_le.mp h240)], rfl, rfl, hl⟩
      · rintro z H2 locs2 ls ⟨hz, rfl, rfl, hl⟩
        refine ast (ws' := [(a, .inl (T 0, N, .inl (put f b0 (upd (enM B) 26 z))))]) F hW 0 (put f b0 (upd (enM B) 26 z)) rfl (b0 + 26) rfl (by omega) (by omega) (fun j _ => put_w (by omega) (by omega) j) rfl dX7_moves_250 (fun H locs hW => ?_)
        exact retV F hr hlk hW () trivial (by rw [hM, hz]) dX7_moves_251
    · have hc : k2 ≤ 20 ∧ lapsF (21 - k2) Pc h pl = mvA P fr pl := hc.elim (fun q => q.2) (fun q => absurd q.1 h40)
      obtain ⟨hk3, hL⟩ := hc
      have e21 : 21 - k2 = (21 - (k2 + 1)) + 1 := by omega
      rw [e21, lapsF] at hL
      refine lv_aload_n hx hb dX7_moves_43 rfl (lv_at hl 0 rfl) ?_
      refine lv_iload_n hx hb dX7_moves_44 rfl (lv_at hl 1 rfl) ?_
      refine lv_iload hx hb dX7_moves_45 (lv_at hl 4 rfl) ?_
      refine lv_iload_n hx hb dX7_moves_47 rfl (lv_at hl 3 rfl) ?_
      refine cIS (As := [.ref a, .int (nI b0), .int (nI h), .int (nI pl)]) (rest := []) (wr := []) F hW hl cs564 (r_sows l D T a N b0 (by omega) (by omega) f Pc (fr := h) (pl := pl) (by omega) (by omega) (by rw [hP37]; exact ht)) [0] [] rfl rfl rfl rfl (by decide) rfl rfl (Nat.le_of_ble_eq_true rfl) ⟨Nat.le_of_ble_eq_true rfl, Nat.le_of_ble_eq_true rfl⟩ ⟨Nat.zero_le _, Nat.zero_le _⟩ dX7_moves_48 (fun r48 u48 H locs hr48 hW => ?_)
      have hW := Wd.ord hW (ws' := [(a, .inl (T 0, N, .inl (put f b0 ((sowM Pc h pl).1))))]) [0] rfl rfl
      subst hr48
      have oo : ∀ j, 12 ≤ j → j ≠ 24 → j ≠ 25 → j ≠ 33 → (sowM Pc h pl).1 j = Pc j := fun j a b c d => sowM_o hpl hh a b c d
      have hg : (sowM Pc h pl).2 < 12 := sowM_lt hh
      generalize (sowM Pc h pl).1 = Q at *
      generalize (sowM Pc h pl).2 = g at *
      have q30 : Q 30 + 1 = nI (k2 + 1) := by rw [oo 30 (by decide) (by decide) (by decide) (by decide), h30, nI_1]
      have q36 : Q 36 = P 36 := (oo 36 (by decide) (by decide) (by decide) (by decide)).trans hP36
      have q37 : Q 37 = P 37 := (oo 37 (by decide) (by decide) (by decide) (by decide)).trans hP37
      rw [q30, q36] at hL
      refine lv_istore (lv' := [(4, .int (nI g)), (0, .ref a), (1, .int (nI b0)), (2, .int (nI fr)), (3, .int (nI pl)), (5, .int mo)]) hx hb dX7_moves_51 hl (by decide) rfl (fun ls hl => ?_)
      refine lv_aload_n hx hb dX7_moves_53 rfl (lv_at hl 1 rfl) ?_
      refine lv_iload_n hx hb dX7_moves_54 rfl (lv_at hl 2 rfl) ?_
      refine lv_bipush (v := nI 29) hx hb dX7_moves_55 (by decide) ?_
      refine iaddE (z := nI (b0 + 29)) hx hb dX7_moves_57 (nI_add _ _) ?_
      refine lv_iconst (v := nI 1) hx hb dX7_moves_58 (by decide) ?_
      refine iaddE (z := nI ((b0 + 29) + 1)) hx hb dX7_moves_59 (nI_add _ _) ?_
      refine lv_dup2_11 hx hb dX7_moves_60 rfl rfl ?_
      refine ald F hW 0 rfl (x := Q 30) ((b0 + 29) + 1) rfl (by omega) (by omega) (put_r (by omega) (by omega)) dX7_moves_61 ?_
      refine lv_iconst (v := 1) hx hb dX7_moves_62 (by decide) ?_
      refine iaddE (z := (Q 30) + 1) hx hb dX7_moves_63 rfl ?_
      refine ast (ws' := [(a, .inl (T 0, N, .inl (put f b0 (upd Q 30 ((Q 30) + 1)))))]) F hW 0 (put f b0 (upd Q 30 ((Q 30) + 1))) rfl ((b0 + 29) + 1) rfl (by omega) (by omega) (fun j _ => put_w (by omega) (by omega) j) rfl dX7_moves_64 (fun H locs hW => ?_)
      refine lv_aload_n hx hb dX7_moves_65 rfl (lv_at hl 1 rfl) ?_
      refine lv_iload_n hx hb dX7_moves_66 rfl (lv_at hl 2 rfl) ?_
      refine lv_iconst (v := nI 0) hx hb dX7_moves_67 (by decide) ?_
      refine iaddE (z := nI (b0 + 0)) hx hb dX7_moves_68 (nI_add _ _) ?_
      refine lv_iload hx hb dX7_moves_69 (lv_at hl 0 rfl) ?_
      refine iaddE (z := nI ((b0 + 0) + g)) hx hb dX7_moves_71 (nI_add _ _) ?_
      refine ald F hW 0 rfl (x := Q g) ((b0 + 0) + g) rfl (by omega) (by omega) ((put_r (k := g) (by omega) (by omega)).trans (u_n (by omega))) dX7_moves_72 ?_
      refine lv_iconst (v := nI 1) hx hb dX7_moves_73 (by decide) ?_
      refine W.fork (X := Int32) 82 (fun z => [.int z]) (fun z H2 locs2 ls2 => z = (if 1 < Q g then 1 else 0) ∧ H2 = H ∧ locs2 = locs ∧ lv_has ls2 8 [(4, .int (nI g)), (0, .ref a), (1, .int (nI b0)), (2, .int (nI fr)), (3, .int (nI pl)), (5, .int mo)]) (fun hJ => ?_) ?_
      · refine lv_icmp_le (tgt := 81) hx hb dX7_moves_74 (by decide) (fun h74 => ?_) (fun h74 => ?_)
        · refine lv_iconst (v := 0) hx hb dX7_moves_81 (by decide) ?_
          exact hJ 0 _ _ _ ⟨(if_neg (Int32.not_lt.mpr h74)).symm, rfl, rfl, hl⟩
        · refine lv_iconst (v := 1) hx hb dX7_moves_77 (by decide) ?_
          refine lv_goto (tgt := 82) hx hb dX7_moves_78 (by decide) ?_
          exact hJ 1 _ _ _ ⟨(if_pos (Int32.not_le.mp h74)).symm, rfl, rfl, hl⟩
      · rintro had H2 locs2 ls ⟨hhad, rfl, rfl, hl⟩
        refine lv_istore (lv' := [(6, .int had), (4, .int (nI g)), (0, .ref a), (1, .int (nI b0)), (2, .int (nI fr)), (3, .int (nI pl)), (5, .int mo)]) hx hb dX7_moves_82 hl (by decide) rfl (fun ls hl => ?_)
        refine lv_aload_n hx hb dX7_moves_84 rfl (lv_at hl 2 rfl) ?_
        refine lv_iload_n hx hb dX7_moves_85 rfl (lv_at hl 3 rfl) ?_
        refine lv_iload hx hb dX7_moves_86 (lv_at hl 1 rfl) ?_
        refine cRS (As := [.ref a, .int (nI b0), .int (nI g)]) (rest := []) F hW hl cs567 (r_isHostile l D T a N b0 (by omega) (by omega) f (upd Q 30 ((Q 30) + 1)) (h := g) (by omega)) [0] rfl rfl rfl rfl (Nat.le_of_ble_eq_true rfl) ⟨Nat.le_of_ble_eq_true rfl, Nat.le_of_ble_eq_true rfl⟩ ⟨Nat.zero_le _, Nat.zero_le _⟩ dX7_moves_88 (fun r88 hr88 => ?_)
        rw [show (upd Q 30 (Q 30 + 1)) 35 = Q 35 from u_n (by decide), show (upd Q 30 (Q 30 + 1)) (12 + g) = Q (12 + g) from u_n (by omega)] at hr88
        refine lv_istore (lv' := [(7, .int r88), (6, .int had), (4, .int (nI g)), (0, .ref a), (1, .int (nI b0)), (2, .int (nI fr)), (3, .int (nI pl)), (5, .int mo)]) hx hb dX7_moves_91 hl (by decide) rfl (fun ls hl => ?_)
        refine lv_aload_n hx hb dX7_moves_93 rfl (lv_at hl 3 rfl) ?_
        refine lv_iload_n hx hb dX7_moves_94 rfl (lv_at hl 4 rfl) ?_
        refine lv_bipush (v := nI 12) hx hb dX7_moves_95 (by decide) ?_
        refine iaddE (z := nI (b0 + 12)) hx hb dX7_moves_97 (nI_add _ _) ?_
        refine lv_iload hx hb dX7_moves_98 (lv_at hl 2 rfl) ?_
        refine iaddE (z := nI ((b0 + 12) + g)) hx hb dX7_moves_100 (nI_add _ _) ?_
        refine lv_dup2_11 hx hb dX7_moves_101 rfl rfl ?_
        refine ald F hW 0 rfl (x := Q (12 + g)) ((b0 + 12) + g) rfl (by omega) (by omega) ((put_r (k := 12 + g) (by omega) (by omega)).trans (u_n (by omega))) dX7_moves_102 ?_
        refine lv_iconst (v := 1) hx hb dX7_moves_103 (by decide) ?_
        refine iaddE (z := (Q (12 + g)) + 1) hx hb dX7_moves_104 rfl ?_
        refine ast (ws' := [(a, .inl (T 0, N, .inl (put f b0 (visM Q g))))]) F hW 0 (put f b0 (visM Q g)) rfl ((b0 + 12) + g) rfl (by omega) (by omega) (fun j _ => put_w (by omega) (by omega) j) rfl dX7_moves_105 (fun H locs hW => ?_)
        refine W.fork (X := Int32) 140 (fun z => [.int z]) (fun z H2 locs2 ls2 => z = (if (1 < Q g ∧ ¬ Q 35 ≤ Q (12 + g)) ∧ nI (k2 + 1) ≤ P 36 then 1 else 0) ∧ H2 = H ∧ locs2 = locs ∧ lv_has ls2 8 [(7, .int r88), (6, .int had), (4, .int (nI g)), (0, .ref a), (1, .int (nI b0)), (2, .int (nI fr)), (3, .int (nI pl)), (5, .int mo)]) (fun hJ => ?_) ?_
        · refine lv_iload hx hb dX7_moves_106 (lv_at hl 1 rfl) ?_
          refine lv_if_eq (tgt := 139) hx hb dX7_moves_108 (by decide) (fun h108 => ?_) (fun h108 => ?_)
          · refine lv_iconst (v := 0) hx hb dX7_moves_139 (by decide) ?_
            exact hJ 0 _ _ _ ⟨(if_neg (fun z => bz.mp (hhad.symm.trans h108) z.1.1)).symm, rfl, rfl, hl⟩
          · have g1 : 1 < Q g := Decidable.not_not.mp (fun z => h108 (hhad.trans (bz.mpr z)))
            refine lv_iload hx hb dX7_moves_111 (lv_at hl 0 rfl) ?_
            refine lv_if_ne (tgt := 139) hx hb dX7_moves_113 (by decide) (fun h113 => ?_) (fun h113 => ?_)
            · refine lv_iconst (v := 0) hx hb dX7_moves_139 (by decide) ?_
              exact hJ 0 _ _ _ ⟨(if_neg (fun z => h113 (hr88.trans (bz.mpr z.1.2)))).symm, rfl, rfl, hl⟩
            · have g2 : ¬ Q 35 ≤ Q (12 + g) := bz.mp (hr88.symm.trans h113)
              refine lv_aload_n hx hb dX7_moves_116 rfl (lv_at hl 3 rfl) ?_
              refine lv_iload_n hx hb dX7_moves_117 rfl (lv_at hl 4 rfl) ?_
              refine lv_bipush (v := nI 29) hx hb dX7_moves_118 (by decide) ?_
              refine iaddE (z := nI (b0 + 29)) hx hb dX7_moves_120 (nI_add _ _) ?_
              refine lv_iconst (v := nI 1) hx hb dX7_moves_121 (by decide) ?_
              refine iaddE (z := nI ((b0 + 29) + 1)) hx hb dX7_moves_122 (nI_add _ _) ?_
              refine ald F hW 0 rfl (x := nI (k2 + 1)) ((b0 + 29) + 1) rfl (by omega) (by omega) ((put_r (k := 30) (by omega) (by omega)).trans ((visM_30 Q hg).trans q30)) dX7_moves_123 ?_
              refine lv_aload_n hx hb dX7_moves_124 rfl (lv_at hl 3 rfl) ?_
              refine lv_iload_n hx hb dX7_moves_125 rfl (lv_at hl 4 rfl) ?_
              refine lv_bipush (v := nI 34) hx hb dX7_moves_126 (by decide) ?_
              refine iaddE (z := nI (b0 + 34)) hx hb dX7_moves_128 (nI_add _ _) ?_
              refine lv_iconst (v := nI 2) hx hb dX7_moves_129 (by decide) ?_
              refine iaddE (z := nI ((b0 + 34) + 2)) hx hb dX7_moves_130 (nI_add _ _) ?_
              refine ald F hW 0 rfl (x := P 36) ((b0 + 34) + 2) rfl (by omega) (by omega) ((put_r (k := 36) (by omega) (by omega)).trans ((visM_o Q (by decide) (by omega)).trans q36)) dX7_moves_131 ?_
              refine lv_icmp_gt (tgt := 139) hx hb dX7_moves_132 (by decide) (fun h132 => ?_) (fun h132 => ?_)
              · refine lv_iconst (v := 0) hx hb dX7_moves_139 (by decide) ?_
                exact hJ 0 _ _ _ ⟨(if_neg (fun z => Int32.not_lt.mpr z.2 h132)).symm, rfl, rfl, hl⟩
              · refine lv_iconst (v := 1) hx hb dX7_moves_135 (by decide) ?_
                refine lv_goto (tgt := 140) hx hb dX7_moves_136 (by decide) ?_
                exact hJ 1 _ _ _ ⟨(if_pos ⟨⟨g1, g2⟩, Int32.not_lt.mp h132⟩).symm, rfl, rfl, hl⟩
        · rintro mr H2 locs2 ls ⟨hmr, rfl, rfl, hl⟩
          refine lv_istore (lv' := [(5, .int mr), (7, .int r88), (6, .int had), (4, .int (nI g)), (0, .ref a), (1, .int (nI b0)), (2, .int (nI fr)), (3, .int (nI pl))]) hx hb dX7_moves_140 hl (by decide) rfl (fun ls hl => ?_)
          refine lv_iload hx hb dX7_moves_142 (lv_at hl 0 rfl) ?_
          refine W.fork (X := Unit) 185 (fun _ => []) (fun _ H2 locs2 ls2 => Wd D T A s [(a, .inl (T 0, N, .inl (put f b0 (endM Q g pl))))] H2 locs2 ∧ lv_has ls2 8 [(0, .ref a), (1, .int (nI b0)), (2, .int (nI fr)), (3, .int (nI pl)), (4, .int (nI g)), (5, .int mr)]) (fun hJ => ?_) ?_
          · refine lv_if_ne (tgt := 185) hx hb dX7_moves_144 (by decide) (fun h144 => ?_) (fun h144 => ?_)
            · have ee : endM Q g pl = visM Q g := endM_g (Decidable.not_not.mp (fun z => h144 (hmr.trans (if_neg (fun y => z y.1.1)))))
              exact hJ () _ _ _ ⟨by rw [ee]; exact hW, lv_sub hl [4, 5, 6, 7, 3, 0] rfl⟩
            · refine lv_iload hx hb dX7_moves_147 (lv_at hl 2 rfl) ?_
              refine lv_if_ne (tgt := 185) hx hb dX7_moves_149 (by decide) (fun h149 => ?_) (fun h149 => ?_)
              · have ee : endM Q g pl = visM Q g := endM_g (Decidable.not_not.mp (fun z => h149 (hhad.trans (if_neg z))))
                exact hJ () _ _ _ ⟨by rw [ee]; exact hW, lv_sub hl [4, 5, 6, 7, 3, 0] rfl⟩
              · have n1 : ¬ 1 < Q g := bz.mp (hhad.symm.trans h149)
                refine lv_iload hx hb dX7_moves_152 (lv_at hl 3 rfl) ?_
                refine cRS (As := [.int (nI g)]) (rest := []) F hW hl cs554 (r_owner l D T (h := g) (by omega)) [] rfl rfl rfl rfl (Nat.le_of_ble_eq_true rfl) ⟨Nat.le_of_ble_eq_true rfl, Nat.le_of_ble_eq_true rfl⟩ ⟨Nat.zero_le _, Nat.zero_le _⟩ dX7_moves_154 (fun r154 hr154 => ?_)
                subst hr154
                refine lv_iload_n hx hb dX7_moves_157 rfl (lv_at hl 7 rfl) ?_
                refine lv_icmp_ne (tgt := 185) hx hb dX7_moves_158 (by decide) (fun h158 => ?_) (fun h158 => ?_)
                · have ee : endM Q g pl = visM Q g := endM_n (fun z => n_ne h158 z.2.1)
                  exact hJ () _ _ _ ⟨by rw [ee]; exact hW, lv_sub hl [4, 5, 6, 7, 3, 0] rfl⟩
                · have eo : own g = pl := n_eq h158 (by have := own_lt hg; omega) (by omega)
                  refine lv_aload_n hx hb dX7_moves_161 rfl (lv_at hl 4 rfl) ?_
                  refine lv_iload_n hx hb dX7_moves_162 rfl (lv_at hl 5 rfl) ?_
                  refine lv_iconst (v := nI 0) hx hb dX7_moves_163 (by decide) ?_
                  refine iaddE (z := nI (b0 + 0)) hx hb dX7_moves_164 (nI_add _ _) ?_
                  refine lv_bipush (v := nI 12) hx hb dX7_moves_165 (by decide) ?_
                  refine iaddE (z := nI ((b0 + 0) + 12)) hx hb dX7_moves_167 (nI_add _ _) ?_
                  refine lv_iconst (v := nI 1) hx hb dX7_moves_168 (by decide) ?_
                  refine isubE (z := nI ((b0 + 0) + 11)) hx hb dX7_moves_169 (pk_sub (by omega)) ?_
                  refine lv_iload hx hb dX7_moves_170 (lv_at hl 3 rfl) ?_
                  refine isubE (z := nI ((b0 + 0) + (11 - g))) hx hb dX7_moves_172 (by rw [pk_sub (by omega), show b0 + 0 + 11 - g = b0 + 0 + (11 - g) by omega]) ?_
                  refine ald F hW 0 rfl (x := Q (11 - g)) ((b0 + 0) + (11 - g)) rfl (by omega) (by omega) ((put_r (k := 11 - g) (by omega) (by omega)).trans (visM_o Q (by omega) (by omega))) dX7_moves_173 ?_
                  refine lv_if_le (tgt := 185) hx hb dX7_moves_174 (by decide) (fun h174 => ?_) (fun h174 => ?_)
                  · have ee : endM Q g pl = visM Q g := endM_n (fun z => Int32.not_lt.mpr h174 z.2.2)
                    exact hJ () _ _ _ ⟨by rw [ee]; exact hW, lv_sub hl [4, 5, 6, 7, 3, 0] rfl⟩
                  · refine lv_aload_n hx hb dX7_moves_177 rfl (lv_at hl 4 rfl) ?_
                    refine lv_iload_n hx hb dX7_moves_178 rfl (lv_at hl 5 rfl) ?_
                    refine lv_iload hx hb dX7_moves_179 (lv_at hl 3 rfl) ?_
                    refine lv_iload_n hx hb dX7_moves_181 rfl (lv_at hl 7 rfl) ?_
                    refine cVS (As := [.ref a, .int (nI b0), .int (nI g), .int (nI pl)]) (rest := []) (wr := []) F hW hl cs570 (r_captures l D T a N b0 (by omega) (by omega) f (visM Q g) (h := g) (pl := pl) (by omega) (by omega)) [0] [] rfl rfl rfl rfl (by decide) rfl rfl (Nat.le_of_ble_eq_true rfl) ⟨Nat.le_of_ble_eq_true rfl, Nat.le_of_ble_eq_true rfl⟩ ⟨Nat.zero_le _, Nat.zero_le _⟩ dX7_moves_182 (fun u182 H locs hr182 hW => ?_)
                    have hW := Wd.ord hW (ws' := [(a, .inl (T 0, N, .inl (put f b0 (capM (visM Q g) g pl))))]) [0] rfl rfl
                    have ee : endM Q g pl = capM (visM Q g) g pl := if_pos ⟨n1, eo, Int32.not_le.mp h174⟩
                    exact hJ () _ _ _ ⟨by rw [ee]; exact hW, lv_sub hl [4, 5, 6, 7, 3, 0] rfl⟩
          · rintro - H locs ls ⟨hW, hl⟩
            have w30 : endM Q g pl 30 = nI (k2 + 1) := by rw [endM_hi Q hg hpl (by decide) (by decide), visM_30 Q hg, q30]
            have w36 : endM Q g pl 36 = P 36 := by rw [endM_hi Q hg hpl (by decide) (by decide), visM_o Q (by decide) (by omega), q36]
            have w37 : endM Q g pl 37 = P 37 := by rw [endM_hi Q hg hpl (by decide) (by decide), visM_o Q (by decide) (by omega), q37]
            refine lv_goto (tgt := 38) hx hb dX7_moves_185 (by decide) ?_
            refine ih (21 - (k2 + 1)) _ _ _ (by omega) ⟨k2 + 1, (endM Q g pl), g, mr, by omega, rfl, hg, w30, w36, w37, ?_, hW, lv_sub hl [0, 1, 2, 3, 4, 5] rfl⟩
            by_cases hmc : (1 < Q g ∧ ¬ Q 35 ≤ Q (12 + g)) ∧ nI (k2 + 1) ≤ P 36
            · rw [if_pos hmc] at hL hmr
              refine Or.inl ⟨hmr, ?_, by rw [endM_g hmc.1.1]; exact hL⟩
              have := (i_le _ _).mp hmc.2
              rw [nI_toInt (by omega)] at this
              omega
            · rw [if_neg hmc] at hL hmr
              exact Or.inr ⟨hmr, hL⟩
  · have h5 : k < 5 := n_nle h13 (by decide) (by omega)
    refine lv_aload_n hx hb dX7_moves_16 rfl (lv_at hl 0 rfl) ?_
    refine lv_iload_n hx hb dX7_moves_17 rfl (lv_at hl 1 rfl) ?_
    refine lv_bipush (v := nI 29) hx hb dX7_moves_18 (by decide) ?_
    refine iaddE (z := nI (b0 + 29)) hx hb dX7_moves_20 (nI_add _ _) ?_
    refine lv_iload hx hb dX7_moves_21 (lv_at hl 4 rfl) ?_
    refine iaddE (z := nI ((b0 + 29) + k)) hx hb dX7_moves_23 (nI_add _ _) ?_
    refine lv_iconst (v := 0) hx hb dX7_moves_24 (by decide) ?_
    refine ast (ws' := [(a, .inl (T 0, N, .inl (put f b0 (clk P (k + 1)))))]) F hW 0 (put f b0 (clk P (k + 1))) rfl ((b0 + 29) + k) rfl (by omega) (by omega) (fun j _ => put_wc (by omega) (by omega) (fun j _ => clk_s j) j) rfl dX7_moves_25 (fun H locs hW => ?_)
    refine lv_iinc (v := nI (k + 1)) (lv' := [(4, .int (nI (k + 1))), (0, .ref a), (1, .int (nI b0)), (2, .int (nI fr)), (3, .int (nI pl))]) hx hb dX7_moves_26 hl (k := 4) rfl (nI_add _ _) (by decide) rfl (fun ls hl => ?_)
    refine lv_goto (tgt := 10) hx hb dX7_moves_29 (by decide) ?_
    exact ih (5 - (k + 1)) _ _ _ (by omega) ⟨k + 1, by omega, rfl, hW, lv_sub hl [1, 2, 3, 4, 0] rfl⟩
