-- the class: undo
set_option maxHeartbeats 4000000 in
set_option maxRecDepth 100000 in
theorem x_undo (l : Launch) (D : va_G) (T : Nat → ClassId) (x h0 s0 v0 p0 l0 h1 : Nat) (a : Nat → Nat) (hd : Nat → Nat → Nat) (Y : YD) (hY : YOK Y) (u0 : HD) (hn : nrel Y.all u0.1 u0.2.1) (hh : hrel u0.2.2.1 u0.2.2.2 Y.H Y.nh)  : KI (S := HD) l D T yX6_undo cX6_undo 1 (some .int) 6 [.ref x] ((nblk T a Y.all u0.1 u0.2.1) ++ ([(x, .inr (6, [.ref (a 0), .ref h0, .ref s0, .ref v0, .ref p0, .ref l0])), (h0, .inr (0, [.ref h1, .int (nI u0.2.2.2), .int (nI Y.nh)])), (h1, .inl (T 4, 6, .inr (.inr (.inr (.inr (fun j => some (hd j 0)))))))] ++ ((blk T (hd 0) (u0.2.2.1 0)) ++ ((blk T (hd 1) (u0.2.2.1 1)) ++ ((blk T (hd 2) (u0.2.2.1 2)) ++ ((blk T (hd 3) (u0.2.2.1 3)) ++ ((blk T (hd 4) (u0.2.2.1 4)) ++ ((blk T (hd 5) (u0.2.2.1 5)))))))))) (fun r u => r = (yUndo Y).1 ∧ nrel (yUndo Y).2.all u.1 u.2.1 ∧ hrel u.2.2.1 u.2.2.2 (yUndo Y).2.H (yUndo Y).2.nh) (fun u => xwH T x h0 s0 v0 p0 l0 h1 a hd (yUndo Y).2 u) := by
  refine KI.of (by decide +kernel) (Nat.le_of_ble_eq_true rfl) (fun p e s m below meth c A F hr hlk hW ls hl => ?_)
  have hx := F.1
  have hb := F.2.1
  have hl : lv_has ls 1 [(0, .ref x)] := hl
  obtain ⟨⟨⟨S0, hI⟩, h34⟩, hnh, hpn, hHi, hsl⟩ := hY
  have hI2 := hI
  obtain ⟨hJ, ⟨pl, hpl, h26⟩, h27, ⟨mk, h28, hm1, hm2⟩, h36, h37, hleg⟩ := hI2
  have hYG : GOK Y.all := ⟨⟨S0, hI⟩, h34⟩
  have hb27 : mixS Y.all u0.1 u0.2.1 27 = 0 ∨ mixS Y.all u0.1 u0.2.1 27 = 1 := by rw [← mix_g (g := Y.all) (Or.inl (by decide))]; exact h27
  refine lv_aload_n hx hb dX6_undo_0 rfl (lv_at hl 0 rfl) ?_
  refine gf197 F hW 8 rfl rfl dX6_undo_1 ?_
  refine gf137 F hW 9 rfl rfl dX6_undo_4 ?_
  refine lv_if_ne (tgt := 13) hx hb dX6_undo_7 (by decide) (fun h7 => ?_) (fun h7 => ?_)
  · have q : ¬ Y.nh = 0 := fun z => h7 (by rw [z]; rfl)
    refine lv_aload_n hx hb dX6_undo_13 rfl (lv_at hl 0 rfl) ?_
    refine gf197 F hW 8 rfl rfl dX6_undo_14 ?_
    refine lv_aload_n hx hb dX6_undo_17 rfl (lv_at hl 0 rfl) ?_
    refine gf196 F hW 8 rfl rfl dX6_undo_18 ?_
    have hW := Wd.n2b hW
    refine cVV (As := [.ref (a 0)]) (rest := []) (wr := [(x, .inr (6, [.ref (a 0), .ref h0, .ref s0, .ref v0, .ref p0, .ref l0]))]) F hW hl cs396 (c_takeBack l D T h0 h1 hd a u0.2.2.1 (mixS Y.all u0.1 u0.2.1) (ol := u0.2.2.2) (sz := Y.nh) hh.1 hnh (Nat.pos_of_ne_zero q) hh.2.1) [9, 10, 11, 12, 13, 14, 15, 16, 17, 18, 19, 20, 21, 22, 23, 24, 25, 26, 27, 28, 29, 30, 31, 32, 33, 34, 35, 36, 37, 38, 39, 40, 41, 42, 43, 44, 45, 46, 47, 48, 49, 50, 51, 52, 53, 54, 55, 56, 57, 58, 0, 1, 2, 3, 4, 5, 6, 7] [8] rfl rfl rfl rfl (by decide) 0 0 rfl rfl rfl rfl rfl (Nat.le_of_ble_eq_true rfl) ⟨Nat.le_of_ble_eq_true rfl, Nat.le_of_ble_eq_true rfl⟩ ⟨Nat.zero_le _, Nat.zero_le _⟩ dX6_undo_21 (fun u21 H locs hr21 hW => ?_)
    have hW := Wd.ord hW (ws' := ((blk T a (u0.2.2.1 ((u0.2.2.2 + (Y.nh - 1)) % 6))) ++ ([(x, .inr (6, [.ref (a 0), .ref h0, .ref s0, .ref v0, .ref p0, .ref l0])), (h0, .inr (0, [.ref h1, .int (nI u0.2.2.2), .int (nI (Y.nh - 1))])), (h1, .inl (T 4, 6, .inr (.inr (.inr (.inr (fun j => some (hd j 0)))))))] ++ ((blk T (hd 0) (u0.2.2.1 0)) ++ ((blk T (hd 1) (u0.2.2.1 1)) ++ ((blk T (hd 2) (u0.2.2.1 2)) ++ ((blk T (hd 3) (u0.2.2.1 3)) ++ ((blk T (hd 4) (u0.2.2.1 4)) ++ ((blk T (hd 5) (u0.2.2.1 5))))))))))) [51, 52, 53, 54, 55, 56, 57, 58, 0, 1, 2, 3, 4, 5, 6, 7, 8, 9, 10, 11, 12, 13, 14, 15, 16, 17, 18, 19, 20, 21, 22, 23, 24, 25, 26, 27, 28, 29, 30, 31, 32, 33, 34, 35, 36, 37, 38, 39, 40, 41, 42, 43, 44, 45, 46, 47, 48, 49, 50] rfl rfl
    have hs9 := hh.2.2 (Y.nh - 1) (by omega)
    have hW := Wd.b2n hs9 hW
    refine lv_aload_n hx hb dX6_undo_24 rfl (lv_at hl 0 rfl) ?_
    refine gf197 F hW 8 rfl rfl dX6_undo_25 ?_
    refine gf137 F hW 9 rfl rfl dX6_undo_28 ?_
    have hy : yUndo Y = (nI (Y.nh - 1), ((fun j => Y.H (340 * (Y.nh - 1) + j)), Y.H, Y.slo, Y.isv, Y.pad, Y.nh - 1, Y.pn)) := if_neg q
    exact retI F hr hlk rfl hW ((fun k => (u0.2.2.1 ((u0.2.2.2 + (Y.nh - 1)) % 6)) (29 + k)), (fun j => (u0.2.2.1 ((u0.2.2.2 + (Y.nh - 1)) % 6)) (40 + j)), u0.2.2.1, u0.2.2.2) (by rw [hy]; exact ⟨rfl, nrel_of hs9, ⟨hh.1, hh.2.1, fun i hi => hh.2.2 i (by have : i < Y.nh - 1 := hi; omega)⟩⟩) (congrArg (fun q : Int32 × YD => xwH T x h0 s0 v0 p0 l0 h1 a hd q.2 ((fun k => (u0.2.2.1 ((u0.2.2.2 + (Y.nh - 1)) % 6)) (29 + k)), (fun j => (u0.2.2.1 ((u0.2.2.2 + (Y.nh - 1)) % 6)) (40 + j)), u0.2.2.1, u0.2.2.2)) hy).symm dX6_undo_31
  · have q : Y.nh = 0 := n_eq (b := 0) h7 (by omega) (by decide)
    refine lv_bipush (v := -5) hx hb dX6_undo_10 (by decide) ?_
    have hy : yUndo Y = (-5, Y) := if_pos q
    exact retI F hr hlk rfl hW (u0) (by rw [hy]; exact ⟨rfl, hn, hh⟩) (congrArg (fun q : Int32 × YD => xwH T x h0 s0 v0 p0 l0 h1 a hd q.2 (u0)) hy).symm dX6_undo_12
