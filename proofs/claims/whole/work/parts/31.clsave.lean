-- the class: save
abbrev slrel (ss : Nat → Nat → Int32) (Y : YD) : Prop := (∀ k, k < 2 → ss k 27 = 0 ∨ ss k 27 = 1) ∧ ∀ k, k < 2 → Y.isv k = 1 → srel (ss k) (fun j => Y.slo (340 * k + j))
theorem slrel_save {ss : Nat → Nat → Int32} {Y : YD} {k : Nat} {f : Nat → Int32} (hk : k < 2) (h : slrel ss Y) (hY : YOK Y) (hf : f 27 = 0 ∨ f 27 = 1) (hs : srel f Y.all) : slrel (hsU ss k f) (Y.all, Y.H, lay Y.slo (340 * k) Y.all 340, upd Y.isv k 1, Y.pad, Y.nh, Y.pn) := by
  refine ⟨fun i hi => ?_, fun i hi h1 => ?_⟩
  · by_cases q : i = k
    · rw [q, hsU_s]; exact hf
    · rw [hsU_n q]; exact h.1 i hi
  · have h1 : upd Y.isv k 1 i = 1 := h1
    show srel _ (fun j => lay Y.slo (340 * k) Y.all 340 (340 * i + j))
    by_cases q : i = k
    · rw [q, hsU_s]
      refine srel_cg hs (fun j hj => ?_) (gok_28 hY.1)
      unfold lay
      rw [if_pos (by omega), show 340 * k + j - 340 * k = j by omega]
    · rw [hsU_n q]
      rw [u_n q] at h1
      refine srel_cg (h.2 i hi h1) (fun j hj => ?_) (gok_28 ((hY.2.2.2.2 i hi).2 h1))
      unfold lay
      rw [if_neg (by omega)]
set_option maxHeartbeats 4000000 in
set_option maxRecDepth 100000 in
theorem x_save (l : Launch) (D : va_G) (T : Nat → ClassId) (x h0 s0 v0 p0 l0 : Nat) (a : Nat → Nat) (sd : Nat → Nat → Nat) (Y : YD) (hY : YOK Y) (ra rc : Nat → Int32) (hn : nrel Y.all ra rc) (ss : Nat → Nat → Int32) (hs2 : slrel ss Y) (v : Int32) : KI (S := Nat → Nat → Int32) l D T yX6_save cX6_save 2 (some .int) 6 [.ref x, .int v] ((nblk T a Y.all ra rc) ++ ([(x, .inr (6, [.ref (a 0), .ref h0, .ref s0, .ref v0, .ref p0, .ref l0])), (s0, .inl (T 4, 2, .inr (.inr (.inr (.inr (fun j => some (sd j 0))))))), (v0, .inl (T 2, 2, .inl Y.isv))] ++ ((blk T (sd 0) (ss 0)) ++ ((blk T (sd 1) (ss 1)))))) (fun r u => r = (ySave Y v).1 ∧ slrel u (ySave Y v).2) (fun u => ((nblk T a Y.all ra rc) ++ ([(x, .inr (6, [.ref (a 0), .ref h0, .ref s0, .ref v0, .ref p0, .ref l0])), (s0, .inl (T 4, 2, .inr (.inr (.inr (.inr (fun j => some (sd j 0))))))), (v0, .inl (T 2, 2, .inl ((ySave Y v).2.isv)))] ++ ((blk T (sd 0) (u 0)) ++ ((blk T (sd 1) (u 1))))))) := by
  refine KI.of (by decide +kernel) (Nat.le_of_ble_eq_true rfl) (fun p e s m below meth c A F hr hlk hW ls hl => ?_)
  have hx := F.1
  have hb := F.2.1
  have hl : lv_has ls 2 [(0, .ref x), (1, .int v)] := hl
  have hY2 := hY
  obtain ⟨⟨⟨S0, hI⟩, h34⟩, hnh, hpn, hHi, hsl⟩ := hY
  have hI2 := hI
  obtain ⟨hJ, ⟨pl, hpl, h26⟩, h27, ⟨mk, h28, hm1, hm2⟩, h36, h37, hleg⟩ := hI2
  have hb27 : mixS Y.all ra rc 27 = 0 ∨ mixS Y.all ra rc 27 = 1 := by rw [← mix_g (g := Y.all) (Or.inl (by decide))]; exact h27
  refine lv_iload_n hx hb dX6_save_0 rfl (lv_at hl 1 rfl) ?_
  refine cRS (As := [.int v]) (rest := []) F hW hl cs460 (c_isSlot l D T v) [] rfl rfl rfl rfl (Nat.le_of_ble_eq_true rfl) ⟨Nat.le_of_ble_eq_true rfl, Nat.le_of_ble_eq_true rfl⟩ ⟨Nat.zero_le _, Nat.zero_le _⟩ dX6_save_1 (fun r1 hr1 => ?_)
  subst hr1
  refine lv_if_ne (tgt := 10) hx hb dX6_save_4 (by decide) (fun h4 => ?_) (fun h4 => ?_)
  · have q : rng 0 1 v := Decidable.not_not.mp (fun q => h4 (bz.mpr q))
    obtain ⟨k, kb, kl, ek, ck⟩ := rng_nat q
    rw [ek] at hl
    have hk : k = 0 ∨ k = 1 := by omega
    rcases hk with rfl | rfl
    · refine lv_aload_n hx hb dX6_save_10 rfl (lv_at hl 0 rfl) ?_
      refine gf214 F hW 8 rfl rfl dX6_save_11 ?_
      refine lv_iload_n hx hb dX6_save_14 rfl (lv_at hl 1 rfl) ?_
      refine aald F hW 9 4 rfl rfl (r := (sd 0) 0) 0 rfl (by omega) (by decide) rfl dX6_save_15 ?_
      refine lv_aload_n hx hb dX6_save_16 rfl (lv_at hl 0 rfl) ?_
      refine gf212 F hW 8 rfl rfl dX6_save_17 ?_
      have hW := Wd.n2b hW
      refine cVV (As := [.ref (a 0)]) (rest := []) (wr := ([(x, .inr (6, [.ref (a 0), .ref h0, .ref s0, .ref v0, .ref p0, .ref l0])), (s0, .inl (T 4, 2, .inr (.inr (.inr (.inr (fun j => some (sd j 0))))))), (v0, .inl (T 2, 2, .inl Y.isv))] ++ ((blk T (sd 1) (ss 1))))) F hW hl cs463 (c_stCopy l D T (sd 0) a (ss 0) (mixS Y.all ra rc) hb27) [11, 12, 13, 14, 15, 16, 17, 18, 0, 1, 2, 3, 4, 5, 6, 7] [8, 9, 10, 19, 20, 21, 22, 23, 24, 25, 26] rfl rfl rfl rfl (by decide) 0 5 rfl rfl rfl rfl rfl (Nat.le_of_ble_eq_true rfl) ⟨Nat.le_of_ble_eq_true rfl, Nat.le_of_ble_eq_true rfl⟩ ⟨Nat.zero_le _, Nat.zero_le _⟩ dX6_save_20 (fun u20 H locs hr20 hW => ?_)
      have hW := Wd.ord hW (ws' := ((blk T a (mixS Y.all ra rc)) ++ ([(x, .inr (6, [.ref (a 0), .ref h0, .ref s0, .ref v0, .ref p0, .ref l0])), (s0, .inl (T 4, 2, .inr (.inr (.inr (.inr (fun j => some (sd j 0))))))), (v0, .inl (T 2, 2, .inl Y.isv))] ++ ((blk T (sd 0) (mixS Y.all ra rc)) ++ ((blk T (sd 1) (ss 1))))))) [19, 20, 21, 22, 23, 24, 25, 26, 0, 1, 2, 11, 12, 13, 14, 15, 16, 17, 18, 3, 4, 5, 6, 7, 8, 9, 10] rfl rfl
      have hW := Wd.m2n hW
      refine lv_aload_n hx hb dX6_save_23 rfl (lv_at hl 0 rfl) ?_
      refine gf215 F hW 8 rfl rfl dX6_save_24 ?_
      refine lv_iload_n hx hb dX6_save_27 rfl (lv_at hl 1 rfl) ?_
      refine lv_iconst (v := 1) hx hb dX6_save_28 (by decide) ?_
      refine zast (ws' := ((nblk T a Y.all ra rc) ++ ([(x, .inr (6, [.ref (a 0), .ref h0, .ref s0, .ref v0, .ref p0, .ref l0])), (s0, .inl (T 4, 2, .inr (.inr (.inr (.inr (fun j => some (sd j 0))))))), (v0, .inl (T 2, 2, .inl (upd Y.isv 0 1)))] ++ ((blk T (sd 0) (mixS Y.all ra rc)) ++ ((blk T (sd 1) (ss 1))))))) F hW 10 (upd Y.isv 0 1) rfl 0 rfl (by omega) (by decide) rfl (fun _ _ => rfl) rfl dX6_save_29 (fun H locs hW => ?_)
      refine lv_aload_n hx hb dX6_save_30 rfl (lv_at hl 0 rfl) ?_
      refine gf212 F hW 8 rfl rfl dX6_save_31 ?_
      refine gf125 F hW 0 rfl rfl dX6_save_34 ?_
      refine gf69 F hW 1 rfl rfl dX6_save_37 ?_
      have hy : ySave Y v = (Y.all 28, (Y.all, Y.H, lay Y.slo (340 * 0) Y.all 340, upd Y.isv 0 1, Y.pad, Y.nh, Y.pn)) := by unfold ySave; rw [if_pos q, ck]
      exact retI F hr hlk rfl hW (hsU ss 0 (mixS Y.all ra rc)) (by rw [hy]; exact ⟨rfl, slrel_save (by decide) hs2 hY2 hb27 (srel_mix hn)⟩) (by rw [hy]; rfl) dX6_save_40
    · refine lv_aload_n hx hb dX6_save_10 rfl (lv_at hl 0 rfl) ?_
      refine gf214 F hW 8 rfl rfl dX6_save_11 ?_
      refine lv_iload_n hx hb dX6_save_14 rfl (lv_at hl 1 rfl) ?_
      refine aald F hW 9 4 rfl rfl (r := (sd 1) 0) 1 rfl (by omega) (by decide) rfl dX6_save_15 ?_
      refine lv_aload_n hx hb dX6_save_16 rfl (lv_at hl 0 rfl) ?_
      refine gf212 F hW 8 rfl rfl dX6_save_17 ?_
      have hW := Wd.n2b hW
      refine cVV (As := [.ref (a 0)]) (rest := []) (wr := ([(x, .inr (6, [.ref (a 0), .ref h0, .ref s0, .ref v0, .ref p0, .ref l0])), (s0, .inl (T 4, 2, .inr (.inr (.inr (.inr (fun j => some (sd j 0))))))), (v0, .inl (T 2, 2, .inl Y.isv))] ++ ((blk T (sd 0) (ss 0))))) F hW hl cs463 (c_stCopy l D T (sd 1) a (ss 1) (mixS Y.all ra rc) hb27) [19, 20, 21, 22, 23, 24, 25, 26, 0, 1, 2, 3, 4, 5, 6, 7] [8, 9, 10, 11, 12, 13, 14, 15, 16, 17, 18] rfl rfl rfl rfl (by decide) 0 5 rfl rfl rfl rfl rfl (Nat.le_of_ble_eq_true rfl) ⟨Nat.le_of_ble_eq_true rfl, Nat.le_of_ble_eq_true rfl⟩ ⟨Nat.zero_le _, Nat.zero_le _⟩ dX6_save_20 (fun u20 H locs hr20 hW => ?_)
      have hW := Wd.ord hW (ws' := ((blk T a (mixS Y.all ra rc)) ++ ([(x, .inr (6, [.ref (a 0), .ref h0, .ref s0, .ref v0, .ref p0, .ref l0])), (s0, .inl (T 4, 2, .inr (.inr (.inr (.inr (fun j => some (sd j 0))))))), (v0, .inl (T 2, 2, .inl Y.isv))] ++ ((blk T (sd 0) (ss 0)) ++ ((blk T (sd 1) (mixS Y.all ra rc))))))) [19, 20, 21, 22, 23, 24, 25, 26, 0, 1, 2, 3, 4, 5, 6, 7, 8, 9, 10, 11, 12, 13, 14, 15, 16, 17, 18] rfl rfl
      have hW := Wd.m2n hW
      refine lv_aload_n hx hb dX6_save_23 rfl (lv_at hl 0 rfl) ?_
      refine gf215 F hW 8 rfl rfl dX6_save_24 ?_
      refine lv_iload_n hx hb dX6_save_27 rfl (lv_at hl 1 rfl) ?_
      refine lv_iconst (v := 1) hx hb dX6_save_28 (by decide) ?_
      refine zast (ws' := ((nblk T a Y.all ra rc) ++ ([(x, .inr (6, [.ref (a 0), .ref h0, .ref s0, .ref v0, .ref p0, .ref l0])), (s0, .inl (T 4, 2, .inr (.inr (.inr (.inr (fun j => some (sd j 0))))))), (v0, .inl (T 2, 2, .inl (upd Y.isv 1 1)))] ++ ((blk T (sd 0) (ss 0)) ++ ((blk T (sd 1) (mixS Y.all ra rc))))))) F hW 10 (upd Y.isv 1 1) rfl 1 rfl (by omega) (by decide) rfl (fun _ _ => rfl) rfl dX6_save_29 (fun H locs hW => ?_)
      refine lv_aload_n hx hb dX6_save_30 rfl (lv_at hl 0 rfl) ?_
      refine gf212 F hW 8 rfl rfl dX6_save_31 ?_
      refine gf125 F hW 0 rfl rfl dX6_save_34 ?_
      refine gf69 F hW 1 rfl rfl dX6_save_37 ?_
      have hy : ySave Y v = (Y.all 28, (Y.all, Y.H, lay Y.slo (340 * 1) Y.all 340, upd Y.isv 1 1, Y.pad, Y.nh, Y.pn)) := by unfold ySave; rw [if_pos q, ck]
      exact retI F hr hlk rfl hW (hsU ss 1 (mixS Y.all ra rc)) (by rw [hy]; exact ⟨rfl, slrel_save (by decide) hs2 hY2 hb27 (srel_mix hn)⟩) (by rw [hy]; rfl) dX6_save_40
  · have q : ¬ rng 0 1 v := bz.mp h4
    refine lv_bipush (v := -2) hx hb dX6_save_7 (by decide) ?_
    have hy : ySave Y v = (-2, Y) := if_neg q
    exact retI F hr hlk rfl hW ss (by rw [hy]; exact ⟨rfl, hs2⟩) (by rw [hy]) dX6_save_9
