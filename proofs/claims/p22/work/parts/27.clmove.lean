-- the class: its history of states, moves
theorem srel_cg {f g g' : Nat → Int32} (h : srel f g) (he : ∀ j, j < 340 → g j = g' j) (h3 : (g 28).toNatClampNeg ≤ 300) : srel f g' := by
  obtain ⟨a1, a2, a3, a4⟩ := h
  refine ⟨fun j hj => (a1 j hj).trans (he j (by omega)), fun j h1 h2 => (a2 j h1 h2).trans (he j (by omega)), fun hz j hj => (a3 (fun q => hz ((he 28 (by decide)).symm.trans q)) j hj).trans (he _ (by omega)), fun j hj => ?_⟩
  rw [← he 28 (by decide)] at hj
  exact (a4 j hj).trans (he _ (by omega))
theorem gok_28 {g : Nat → Int32} (h : GOK g) : (g 28).toNatClampNeg ≤ 300 := by
  obtain ⟨⟨S, hI⟩, -⟩ := h
  obtain ⟨-, -, -, ⟨mk, h28, hm, -⟩, -⟩ := hI
  rw [h28, nI_clamp (by omega)]
  exact hm
abbrev hrel (hs : Nat → Nat → Int32) (ol : Nat) (G : Nat → Int32) (n : Nat) : Prop := ol < 6 ∧ (∀ i, i < 6 → hs i 27 = 0 ∨ hs i 27 = 1) ∧ ∀ i, i < n → srel (hs ((ol + i) % 6)) (fun j => G (340 * i + j))
theorem hsU_s {hs : Nat → Nat → Int32} {k : Nat} {f : Nat → Int32} : hsU hs k f k = f := if_pos rfl
theorem hsU_n {hs : Nat → Nat → Int32} {k i : Nat} {f : Nat → Int32} (h : i ≠ k) : hsU hs k f i = hs i := if_neg h
theorem hrel_rec {hs : Nat → Nat → Int32} {ol : Nat} {G f g : Nat → Int32} {n : Nat} (h : hrel hs ol G n) (hn : n ≤ 6) (hs2 : srel f g) (hg : GOK g) (hG : ∀ i, i < n → GOK (fun j => G (340 * i + j))) (hf : f 27 = 0 ∨ f 27 = 1) : hrel (hsU hs ((ol + n) % 6) f) (if n < 6 then ol else (ol + 1) % 6) (recH G g n) (recN n) := by
  obtain ⟨ho, hb, hr⟩ := h
  refine ⟨by split <;> omega, fun i hi => ?_, fun i hi => ?_⟩
  · by_cases q : i = (ol + n) % 6
    · rw [q, hsU_s]; exact hf
    · rw [hsU_n q]; exact hb i hi
  · by_cases q : n = 6
    · subst q
      rw [if_neg (by decide)]
      unfold recN at hi
      rw [if_pos rfl] at hi
      by_cases q5 : i = 5
      · subst q5
        rw [show ((ol + 1) % 6 + 5) % 6 = (ol + 6) % 6 by omega, hsU_s]
        refine srel_cg hs2 (fun j hj => ?_) (gok_28 hg)
        unfold recH
        rw [if_pos rfl, if_neg (by omega), show 340 * 5 + j - 1700 = j by omega]
      · rw [hsU_n (by omega), show ((ol + 1) % 6 + i) % 6 = (ol + (i + 1)) % 6 by omega]
        refine srel_cg (hr (i + 1) (by omega)) (fun j hj => ?_) (gok_28 (hG (i + 1) (by omega)))
        unfold recH
        rw [if_pos rfl, if_pos (by omega), show 340 * i + j + 340 = 340 * (i + 1) + j by omega]
    · rw [if_pos (by omega)]
      unfold recN at hi
      rw [if_neg q] at hi
      by_cases qn : i = n
      · subst qn
        rw [hsU_s]
        refine srel_cg hs2 (fun j hj => ?_) (gok_28 hg)
        unfold recH
        rw [if_neg q, if_pos (by omega), show 340 * i + j - 340 * i = j by omega]
      · rw [hsU_n (by omega)]
        refine srel_cg (hr i (by omega)) (fun j hj => ?_) (gok_28 (hG i (by omega)))
        unfold recH
        rw [if_neg q, if_neg (by omega)]
theorem recN_e {n : Nat} (hn : n ≤ 6) : (if n < 6 then n + 1 else n) = recN n := by
  unfold recN
  by_cases q : n = 6
  · rw [if_neg (by omega), if_pos q, q]
  · rw [if_pos (by omega), if_neg q]
theorem Wd.gcg {D : va_G} {T : Nat → ClassId} {A : Nat → Prop} {s : State} {post : va_W} {H : Heap} {locs : List Loc} {a : Nat → Nat} {g g' ra rc : Nat → Int32} (hs : ∀ j, j < 38 → g j = g' j) (h : Wd D T A s (nblk T a g ra rc ++ post) H locs) : Wd D T A s (nblk T a g' ra rc ++ post) H locs := by
  have h2 := h.arr 2 (fun j => g' j) rfl (fun j hj => hs j (by omega)) rfl
  have h3 := h2.arr 3 (fun j => g' (12 + j)) rfl (fun j hj => hs (12 + j) (by omega)) rfl
  have h4 := h3.arr 4 (fun j => g' (24 + j)) rfl (fun j hj => hs (24 + j) (by omega)) rfl
  have h5 := h4.arr 5 (fun j => g' (34 + j)) rfl (fun j hj => hs (34 + j) (by omega)) rfl
  refine h5.is ?_
  show _ = nblk T a g' ra rc ++ post
  unfold nblk
  rw [← hs 26 (by decide), ← hs 27 (by decide), ← hs 28 (by decide)]
  rfl
abbrev HD : Type := (Nat → Int32) × (Nat → Int32) × (Nat → Nat → Int32) × Nat
abbrev xwH (T : Nat → ClassId) (x h0 s0 v0 p0 l0 h1 : Nat) (a : Nat → Nat) (hd : Nat → Nat → Nat) (Y : YD) (u : HD) : va_W := ((nblk T a Y.all u.1 u.2.1) ++ ([(x, .inr (6, [.ref (a 0), .ref h0, .ref s0, .ref v0, .ref p0, .ref l0])), (h0, .inr (0, [.ref h1, .int (nI u.2.2.2), .int (nI Y.nh)])), (h1, .inl (T 4, 6, .inr (.inr (.inr (.inr (fun j => some (hd j 0)))))))] ++ ((blk T (hd 0) (u.2.2.1 0)) ++ ((blk T (hd 1) (u.2.2.1 1)) ++ ((blk T (hd 2) (u.2.2.1 2)) ++ ((blk T (hd 3) (u.2.2.1 3)) ++ ((blk T (hd 4) (u.2.2.1 4)) ++ ((blk T (hd 5) (u.2.2.1 5))))))))))
theorem mkM_p {g : Nat → Int32} {mk h j : Nat} (hj : j < 40) : mvM g h j = mkM g mk h j := (put_r hj (by omega)).symm
theorem mkM_c {g : Nat → Int32} {mk h j : Nat} : mkM g mk h (40 + j) = upd g (40 + mk) (nI h) (40 + j) := put_n (by omega)
theorem nrel_mk {S : Int} {g ra rc : Nat → Int32} {mk k : Nat} (hI : Iv S g) (hk : k < 12) (hl : legM g k) (h28 : g 28 = nI mk) (hmk : mk < 300) (hn : nrel g ra rc) : nrel (mkM g mk k) (fun j => mvM g k (29 + j)) (upd rc mk (nI k)) := by
  refine ⟨fun _ j hj => mkM_p (by omega), fun j hj => ?_⟩
  rw [show mkM g mk k 28 = nI (mk + 1) from (mkM_p (by decide)).symm.trans (mv_28 hI hk hl h28), nI_clamp (by omega)] at hj
  rw [mkM_c]
  by_cases z : j = mk
  · rw [z, u_s, u_s]
  · rw [u_n z, u_n (by omega)]
    exact hn.2 j (by rw [h28, nI_clamp (by omega)]; omega)
set_option maxHeartbeats 4000000 in
set_option maxRecDepth 100000 in
theorem x_stMove (l : Launch) (D : va_G) (T : Nat → ClassId) (a : Nat → Nat) (g ra rc : Nat → Int32) {S : Int} (hI : Iv S g) {fr : Nat} (hfr : fr < 12) (hleg : legM g fr) {mk : Nat} (h28 : g 28 = nI mk) (hmk : mk < 300) : KV (S := Unit) l D T yX5_makeMove cX5_makeMove 3 4 [.ref (a 0), .int (nI fr)] (nblk T a g ra rc) (fun _ => True) (fun u => (nblk T a (mvM g fr) (fun j9 => mvM g fr (29 + j9)) (upd rc mk (nI fr)))) := by
  refine KV.of (by decide +kernel) (Nat.le_of_ble_eq_true rfl) (fun p e s m below meth c A F hr hlk hW ls hl => ?_)
  have hx := F.1
  have hb := F.2.1
  have hl : lv_has ls 3 [(0, .ref (a 0)), (1, .int (nI fr))] := hl
  have hI2 := hI
  obtain ⟨hJ, ⟨pl, hpl, h26⟩, -, -, h36, h37, -⟩ := hI2
  refine lv_aload_n hx hb dX5_makeMove_0 rfl (lv_at hl 0 rfl) ?_
  refine gf109 F hW 0 rfl rfl dX5_makeMove_1 ?_
  refine gf53 F hW 1 rfl rfl dX5_makeMove_4 ?_
  refine lv_istore_n (lv' := [(2, .int (g 28)), (0, .ref (a 0)), (1, .int (nI fr))]) hx hb dX5_makeMove_7 rfl hl (by decide) rfl (fun ls hl => ?_)
  refine lv_iload_n hx hb dX5_makeMove_8 rfl (lv_at hl 0 rfl) ?_
  refine lv_sipush (v := nI 300) hx hb dX5_makeMove_9 (by decide) ?_
  refine lv_icmp_ge (tgt := 22) hx hb dX5_makeMove_12 (by decide) (fun h9 => absurd h9 (by rw [h28]; exact nI_ge hmk (by decide))) (fun _ => ?_)
  refine lv_aload_n hx hb dX5_makeMove_15 rfl (lv_at hl 1 rfl) ?_
  refine gf115 F hW 0 rfl rfl dX5_makeMove_16 ?_
  refine lv_iload_n hx hb dX5_makeMove_19 rfl (lv_at hl 0 rfl) ?_
  refine lv_iload_n hx hb dX5_makeMove_20 rfl (lv_at hl 2 rfl) ?_
  refine ast (ws' := [(a 0, .inr (5, [.ref (a 1), .ref (a 5), .ref (a 6), .ref (a 7)])), (a 1, .inr (3, [.ref (a 2), .ref (a 3), .ref (a 4), .int (g 26), .int (g 27), .int (g 28)])), (a 2, .inl (T 0, 12, .inl (fun j => g j))), (a 3, .inl (T 0, 12, .inl (fun j => g (12 + j)))), (a 4, .inl (T 0, 2, .inl (fun j => g (24 + j)))), (a 5, .inl (T 0, 4, .inl (fun j => g (34 + j)))), (a 6, .inr (4, [.int (ra 0), .int (ra 1), .int (ra 2), .int (ra 3), .int (ra 4)])), (a 7, .inl (T 0, 300, .inl (upd rc mk (nI fr))))]) F hW 7 (upd rc mk (nI fr)) rfl mk h28 hmk (by decide) (fun _ _ => rfl) rfl dX5_makeMove_21 (fun H locs hW => ?_)
  refine lv_aload_n hx hb dX5_makeMove_22 rfl (lv_at hl 1 rfl) ?_
  refine gf109 F hW 0 rfl rfl dX5_makeMove_23 ?_
  refine lv_iload_n hx hb dX5_makeMove_26 rfl (lv_at hl 2 rfl) ?_
  refine lv_aload_n hx hb dX5_makeMove_27 rfl (lv_at hl 1 rfl) ?_
  refine gf111 F hW 0 rfl rfl dX5_makeMove_28 ?_
  refine lv_aload_n hx hb dX5_makeMove_31 rfl (lv_at hl 1 rfl) ?_
  refine gf113 F hW 0 rfl rfl dX5_makeMove_32 ?_
  refine cVV (As := [.int (nI fr), .ref (a 5), .ref (a 6)]) (rest := []) (wr := [(a 0, .inr (5, [.ref (a 1), .ref (a 5), .ref (a 6), .ref (a 7)])), (a 7, .inl (T 0, 300, .inl (upd rc mk (nI fr))))]) F hW hl cs388 (c_makeMoveP l D T (a 1) (a 2) (a 3) (a 4) (a 5) (a 6) (pl := pl) hpl (g 26) h26 (g 27) (g 28) (fun j => g j) (fun j => g (12 + j)) (fun j => g (24 + j)) (fun j => g (34 + j)) (ra 0) (ra 1) (ra 2) (ra 3) (ra 4) g ⟨fun _ _ => rfl, fun _ _ => rfl, fun _ _ => rfl⟩ rfl rfl (fun _ _ => rfl) (fr := fr) hfr hJ h36 h37 (leg_pos hleg) h26 hleg.1 h28 hmk) [1, 2, 3, 4, 5, 6] [0, 7] rfl rfl rfl rfl (by decide) 0 3 rfl rfl rfl rfl rfl (Nat.le_of_ble_eq_true rfl) ⟨Nat.le_of_ble_eq_true rfl, Nat.le_of_ble_eq_true rfl⟩ ⟨Nat.zero_le _, Nat.zero_le _⟩ dX5_makeMove_35 (fun u35 H locs hr35 hW => ?_)
  have hW := Wd.ord hW (ws' := [(a 0, .inr (5, [.ref (a 1), .ref (a 5), .ref (a 6), .ref (a 7)])), (a 1, .inr (3, [.ref (a 2), .ref (a 3), .ref (a 4), .int ((mvM g fr) 26), .int ((mvM g fr) 27), .int ((mvM g fr) 28)])), (a 2, .inl (T 0, 12, .inl (fun j => (mvM g fr) j))), (a 3, .inl (T 0, 12, .inl (fun j => (mvM g fr) (12 + j)))), (a 4, .inl (T 0, 2, .inl (fun j => (mvM g fr) (24 + j)))), (a 5, .inl (T 0, 4, .inl (fun j => g (34 + j)))), (a 6, .inr (4, [.int ((mvM g fr) 29), .int ((mvM g fr) 30), .int ((mvM g fr) 31), .int ((mvM g fr) 32), .int ((mvM g fr) 33)])), (a 7, .inl (T 0, 300, .inl (upd rc mk (nI fr))))]) [0, 2, 3, 4, 5, 6, 7, 1] rfl rfl
  have hW := Wd.arr hW 5 (fun j => (mvM g fr) (34 + j)) rfl (fun j hj => (mvM_set hI hfr hleg (by omega)).symm) (ws' := [(a 0, .inr (5, [.ref (a 1), .ref (a 5), .ref (a 6), .ref (a 7)])), (a 1, .inr (3, [.ref (a 2), .ref (a 3), .ref (a 4), .int ((mvM g fr) 26), .int ((mvM g fr) 27), .int ((mvM g fr) 28)])), (a 2, .inl (T 0, 12, .inl (fun j => (mvM g fr) j))), (a 3, .inl (T 0, 12, .inl (fun j => (mvM g fr) (12 + j)))), (a 4, .inl (T 0, 2, .inl (fun j => (mvM g fr) (24 + j)))), (a 5, .inl (T 0, 4, .inl (fun j => (mvM g fr) (34 + j)))), (a 6, .inr (4, [.int ((mvM g fr) 29), .int ((mvM g fr) 30), .int ((mvM g fr) 31), .int ((mvM g fr) 32), .int ((mvM g fr) 33)])), (a 7, .inl (T 0, 300, .inl (upd rc mk (nI fr))))]) rfl
  exact retV F hr hlk hW () trivial rfl dX5_makeMove_38
set_option maxHeartbeats 4000000 in
set_option maxRecDepth 100000 in
theorem x_move (l : Launch) (D : va_G) (T : Nat → ClassId) (x h0 s0 v0 p0 l0 h1 : Nat) (a : Nat → Nat) (hd : Nat → Nat → Nat) (Y : YD) (hY : YOK Y) (u0 : HD) (hn : nrel Y.all u0.1 u0.2.1) (hh : hrel u0.2.2.1 u0.2.2.2 Y.H Y.nh) (v : Int32) : KI (S := HD) l D T yX6_move cX6_move 3 (some .int) 6 [.ref x, .int v] ((nblk T a Y.all u0.1 u0.2.1) ++ ([(x, .inr (6, [.ref (a 0), .ref h0, .ref s0, .ref v0, .ref p0, .ref l0])), (h0, .inr (0, [.ref h1, .int (nI u0.2.2.2), .int (nI Y.nh)])), (h1, .inl (T 4, 6, .inr (.inr (.inr (.inr (fun j => some (hd j 0)))))))] ++ ((blk T (hd 0) (u0.2.2.1 0)) ++ ((blk T (hd 1) (u0.2.2.1 1)) ++ ((blk T (hd 2) (u0.2.2.1 2)) ++ ((blk T (hd 3) (u0.2.2.1 3)) ++ ((blk T (hd 4) (u0.2.2.1 4)) ++ ((blk T (hd 5) (u0.2.2.1 5)))))))))) (fun r u => r = (yMove Y v).1 ∧ nrel (yMove Y v).2.all u.1 u.2.1 ∧ hrel u.2.2.1 u.2.2.2 (yMove Y v).2.H (yMove Y v).2.nh) (fun u => xwH T x h0 s0 v0 p0 l0 h1 a hd (yMove Y v).2 u) := by
  refine KI.of (by decide +kernel) (Nat.le_of_ble_eq_true rfl) (fun p e s m below meth c A F hr hlk hW ls hl => ?_)
  have hx := F.1
  have hb := F.2.1
  have hl : lv_has ls 3 [(0, .ref x), (1, .int v)] := hl
  obtain ⟨⟨⟨S0, hI⟩, h34⟩, hnh, hpn, hHi, hsl⟩ := hY
  have hI2 := hI
  obtain ⟨hJ, ⟨pl, hpl, h26⟩, h27, ⟨mk, h28, hm1, hm2⟩, h36, h37, hleg⟩ := hI2
  have hYG : GOK Y.all := ⟨⟨S0, hI⟩, h34⟩
  have hb27 : mixS Y.all u0.1 u0.2.1 27 = 0 ∨ mixS Y.all u0.1 u0.2.1 27 = 1 := by rw [← mix_g (g := Y.all) (Or.inl (by decide))]; exact h27
  have hY : YOK Y := ⟨⟨⟨S0, hI⟩, h34⟩, hnh, hpn, hHi, hsl⟩
  refine lv_aload_n hx hb dX6_move_0 rfl (lv_at hl 0 rfl) ?_
  refine lv_iload_n hx hb dX6_move_1 rfl (lv_at hl 1 rfl) ?_
  refine cRV (As := [.int v]) (rest := []) F hW hl cs404 (x_errorOfMove l D T x h0 s0 v0 p0 l0 a Y hY u0.1 u0.2.1 v) [0, 1, 2, 3, 4, 5, 6, 7, 8] rfl rfl 8 6 rfl rfl rfl rfl rfl (Nat.le_of_ble_eq_true rfl) ⟨Nat.le_of_ble_eq_true rfl, Nat.le_of_ble_eq_true rfl⟩ ⟨Nat.zero_le _, Nat.zero_le _⟩ dX6_move_2 (fun r2 hr2 => ?_)
  subst hr2
  refine lv_istore_n (lv' := [(2, .int (if rng 0 11 v then (if legM Y.all v.toNatClampNeg then 0 else -5) else -1)), (0, .ref x), (1, .int v)]) hx hb dX6_move_5 rfl hl (by decide) rfl (fun ls hl => ?_)
  refine lv_iload_n hx hb dX6_move_6 rfl (lv_at hl 0 rfl) ?_
  refine lv_if_eq (tgt := 12) hx hb dX6_move_7 (by decide) (fun h7 => ?_) (fun h7 => ?_)
  · have q : rng 0 11 v := Decidable.not_not.mp (fun q => by rw [if_neg q] at h7; exact absurd h7 (by decide))
    rw [if_pos q] at h7
    have q2 : legM Y.all v.toNatClampNeg := Decidable.not_not.mp (fun q => by rw [if_neg q] at h7; exact absurd h7 (by decide))
    have hl : lv_has ls _ [(0, .ref x), (1, .int v)] := lv_sub hl [1, 2] rfl
    obtain ⟨k, kb, kl, ek, ck⟩ := rng_nat q
    rw [ek] at hl
    rw [ck] at q2
    refine lv_aload_n hx hb dX6_move_12 rfl (lv_at hl 0 rfl) ?_
    refine gf197 F hW 8 rfl rfl dX6_move_13 ?_
    refine lv_aload_n hx hb dX6_move_16 rfl (lv_at hl 0 rfl) ?_
    refine gf196 F hW 8 rfl rfl dX6_move_17 ?_
    have hW := Wd.n2b hW
    refine cVV (As := [.ref (a 0)]) (rest := []) (wr := [(x, .inr (6, [.ref (a 0), .ref h0, .ref s0, .ref v0, .ref p0, .ref l0]))]) F hW hl cs286 (c_remember l D T h0 h1 hd a u0.2.2.1 (mixS Y.all u0.1 u0.2.1) (ol := u0.2.2.2) (sz := Y.nh) hh.1 hnh hb27) [9, 10, 11, 12, 13, 14, 15, 16, 17, 18, 19, 20, 21, 22, 23, 24, 25, 26, 27, 28, 29, 30, 31, 32, 33, 34, 35, 36, 37, 38, 39, 40, 41, 42, 43, 44, 45, 46, 47, 48, 49, 50, 51, 52, 53, 54, 55, 56, 57, 58, 0, 1, 2, 3, 4, 5, 6, 7] [8] rfl rfl rfl rfl (by decide) 0 0 rfl rfl rfl rfl rfl (Nat.le_of_ble_eq_true rfl) ⟨Nat.le_of_ble_eq_true rfl, Nat.le_of_ble_eq_true rfl⟩ ⟨Nat.zero_le _, Nat.zero_le _⟩ dX6_move_20 (fun u20 H locs hr20 hW => ?_)
    have hW := Wd.ord hW (ws' := ((blk T a (mixS Y.all u0.1 u0.2.1)) ++ ([(x, .inr (6, [.ref (a 0), .ref h0, .ref s0, .ref v0, .ref p0, .ref l0])), (h0, .inr (0, [.ref h1, .int (nI (if Y.nh < 6 then u0.2.2.2 else (u0.2.2.2 + 1) % 6)), .int (nI (if Y.nh < 6 then Y.nh + 1 else Y.nh))])), (h1, .inl (T 4, 6, .inr (.inr (.inr (.inr (fun j => some (hd j 0)))))))] ++ ((blk T (hd 0) (hsU u0.2.2.1 ((u0.2.2.2 + Y.nh) % 6) (mixS Y.all u0.1 u0.2.1) 0)) ++ ((blk T (hd 1) (hsU u0.2.2.1 ((u0.2.2.2 + Y.nh) % 6) (mixS Y.all u0.1 u0.2.1) 1)) ++ ((blk T (hd 2) (hsU u0.2.2.1 ((u0.2.2.2 + Y.nh) % 6) (mixS Y.all u0.1 u0.2.1) 2)) ++ ((blk T (hd 3) (hsU u0.2.2.1 ((u0.2.2.2 + Y.nh) % 6) (mixS Y.all u0.1 u0.2.1) 3)) ++ ((blk T (hd 4) (hsU u0.2.2.1 ((u0.2.2.2 + Y.nh) % 6) (mixS Y.all u0.1 u0.2.1) 4)) ++ ((blk T (hd 5) (hsU u0.2.2.1 ((u0.2.2.2 + Y.nh) % 6) (mixS Y.all u0.1 u0.2.1) 5))))))))))) [51, 52, 53, 54, 55, 56, 57, 58, 0, 1, 2, 3, 4, 5, 6, 7, 8, 9, 10, 11, 12, 13, 14, 15, 16, 17, 18, 19, 20, 21, 22, 23, 24, 25, 26, 27, 28, 29, 30, 31, 32, 33, 34, 35, 36, 37, 38, 39, 40, 41, 42, 43, 44, 45, 46, 47, 48, 49, 50] rfl rfl
    have hW := Wd.m2n hW
    rw [recN_e hnh] at hW
    have hh2 := hrel_rec (f := (mixS Y.all u0.1 u0.2.1)) hh hnh (srel_mix hn) hYG hHi hb27
    have hmk := hm2 q2.1
    have ek : (Y.all 28).toNatClampNeg = mk := by rw [h28, nI_clamp (by omega)]
    refine lv_aload_n hx hb dX6_move_23 rfl (lv_at hl 0 rfl) ?_
    refine gf196 F hW 8 rfl rfl dX6_move_24 ?_
    refine lv_iload_n hx hb dX6_move_27 rfl (lv_at hl 1 rfl) ?_
    refine cVV (As := [.int (nI k)]) (rest := []) (wr := ([(x, .inr (6, [.ref (a 0), .ref h0, .ref s0, .ref v0, .ref p0, .ref l0])), (h0, .inr (0, [.ref h1, .int (nI (if Y.nh < 6 then u0.2.2.2 else (u0.2.2.2 + 1) % 6)), .int (nI (recN Y.nh))])), (h1, .inl (T 4, 6, .inr (.inr (.inr (.inr (fun j => some (hd j 0)))))))] ++ ((blk T (hd 0) (hsU u0.2.2.1 ((u0.2.2.2 + Y.nh) % 6) (mixS Y.all u0.1 u0.2.1) 0)) ++ ((blk T (hd 1) (hsU u0.2.2.1 ((u0.2.2.2 + Y.nh) % 6) (mixS Y.all u0.1 u0.2.1) 1)) ++ ((blk T (hd 2) (hsU u0.2.2.1 ((u0.2.2.2 + Y.nh) % 6) (mixS Y.all u0.1 u0.2.1) 2)) ++ ((blk T (hd 3) (hsU u0.2.2.1 ((u0.2.2.2 + Y.nh) % 6) (mixS Y.all u0.1 u0.2.1) 3)) ++ ((blk T (hd 4) (hsU u0.2.2.1 ((u0.2.2.2 + Y.nh) % 6) (mixS Y.all u0.1 u0.2.1) 4)) ++ ((blk T (hd 5) (hsU u0.2.2.1 ((u0.2.2.2 + Y.nh) % 6) (mixS Y.all u0.1 u0.2.1) 5)))))))))) F hW hl cs384 (x_stMove l D T a Y.all u0.1 u0.2.1 hI (fr := k) (by omega) q2 h28 hmk) [0, 1, 2, 3, 4, 5, 6, 7] [8, 9, 10, 11, 12, 13, 14, 15, 16, 17, 18, 19, 20, 21, 22, 23, 24, 25, 26, 27, 28, 29, 30, 31, 32, 33, 34, 35, 36, 37, 38, 39, 40, 41, 42, 43, 44, 45, 46, 47, 48, 49, 50, 51, 52, 53, 54, 55, 56, 57, 58] rfl rfl rfl rfl (by decide) 0 5 rfl rfl rfl rfl rfl (Nat.le_of_ble_eq_true rfl) ⟨Nat.le_of_ble_eq_true rfl, Nat.le_of_ble_eq_true rfl⟩ ⟨Nat.zero_le _, Nat.zero_le _⟩ dX6_move_28 (fun u28 H locs hr28 hW => ?_)
    have hW := Wd.ord hW (ws' := ((nblk T a (mvM Y.all k) (fun j9 => mvM Y.all k (29 + j9)) (upd u0.2.1 mk (nI k))) ++ ([(x, .inr (6, [.ref (a 0), .ref h0, .ref s0, .ref v0, .ref p0, .ref l0])), (h0, .inr (0, [.ref h1, .int (nI (if Y.nh < 6 then u0.2.2.2 else (u0.2.2.2 + 1) % 6)), .int (nI (recN Y.nh))])), (h1, .inl (T 4, 6, .inr (.inr (.inr (.inr (fun j => some (hd j 0)))))))] ++ ((blk T (hd 0) (hsU u0.2.2.1 ((u0.2.2.2 + Y.nh) % 6) (mixS Y.all u0.1 u0.2.1) 0)) ++ ((blk T (hd 1) (hsU u0.2.2.1 ((u0.2.2.2 + Y.nh) % 6) (mixS Y.all u0.1 u0.2.1) 1)) ++ ((blk T (hd 2) (hsU u0.2.2.1 ((u0.2.2.2 + Y.nh) % 6) (mixS Y.all u0.1 u0.2.1) 2)) ++ ((blk T (hd 3) (hsU u0.2.2.1 ((u0.2.2.2 + Y.nh) % 6) (mixS Y.all u0.1 u0.2.1) 3)) ++ ((blk T (hd 4) (hsU u0.2.2.1 ((u0.2.2.2 + Y.nh) % 6) (mixS Y.all u0.1 u0.2.1) 4)) ++ ((blk T (hd 5) (hsU u0.2.2.1 ((u0.2.2.2 + Y.nh) % 6) (mixS Y.all u0.1 u0.2.1) 5))))))))))) [51, 52, 53, 54, 55, 56, 57, 58, 0, 1, 2, 3, 4, 5, 6, 7, 8, 9, 10, 11, 12, 13, 14, 15, 16, 17, 18, 19, 20, 21, 22, 23, 24, 25, 26, 27, 28, 29, 30, 31, 32, 33, 34, 35, 36, 37, 38, 39, 40, 41, 42, 43, 44, 45, 46, 47, 48, 49, 50] rfl rfl
    refine lv_aload_n hx hb dX6_move_31 rfl (lv_at hl 0 rfl) ?_
    refine gf196 F hW 8 rfl rfl dX6_move_32 ?_
    refine gf114 F hW 0 rfl rfl dX6_move_35 ?_
    refine gf87 F hW 6 rfl rfl dX6_move_38 ?_
    have hW := Wd.gcg (g' := mkM Y.all mk k) (fun j hj => mkM_p (by omega)) hW
    have e28 : mkM Y.all mk k 28 = nI (mk + 1) := (mkM_p (by decide)).symm.trans (mv_28 hI (by omega) q2 h28)
    have hy : yMove Y v = (mkM Y.all mk k 30, (mkM Y.all mk k, (recd Y).2)) := by unfold yMove; rw [if_pos q, ck, if_pos q2, ek]
    exact retI F hr hlk rfl hW ((fun j => mvM Y.all k (29 + j)), (upd u0.2.1 mk (nI k)), (hsU u0.2.2.1 ((u0.2.2.2 + Y.nh) % 6) (mixS Y.all u0.1 u0.2.1)), (if Y.nh < 6 then u0.2.2.2 else (u0.2.2.2 + 1) % 6)) (by rw [hy]; exact ⟨mkM_p (g := Y.all) (mk := mk) (h := k) (j := 30) (by decide), nrel_mk hI (by omega) q2 h28 hmk hn, hh2⟩) (congrArg (fun q : Int32 × YD => xwH T x h0 s0 v0 p0 l0 h1 a hd q.2 ((fun j => mvM Y.all k (29 + j)), (upd u0.2.1 mk (nI k)), (hsU u0.2.2.1 ((u0.2.2.2 + Y.nh) % 6) (mixS Y.all u0.1 u0.2.1)), (if Y.nh < 6 then u0.2.2.2 else (u0.2.2.2 + 1) % 6))) hy).symm dX6_move_41
  · refine lv_iload_n hx hb dX6_move_10 rfl (lv_at hl 0 rfl) ?_
    by_cases q : rng 0 11 v
    · rw [if_pos q] at h7 hl
      have q2 : ¬ legM Y.all v.toNatClampNeg := fun z => h7 (if_pos z)
      have ea : (if rng 0 11 v then (if legM Y.all v.toNatClampNeg then 0 else -5) else -1 : Int32) = -5 := by rw [if_pos q, if_neg q2]
      rw [ea]
      have hy : yMove Y v = (-5, Y) := by unfold yMove; rw [if_pos q, if_neg q2]
      exact retI F hr hlk rfl hW (u0) (by rw [hy]; exact ⟨rfl, hn, hh⟩) (congrArg (fun q : Int32 × YD => xwH T x h0 s0 v0 p0 l0 h1 a hd q.2 (u0)) hy).symm dX6_move_11
    · have ea : (if rng 0 11 v then (if legM Y.all v.toNatClampNeg then 0 else -5) else -1 : Int32) = -1 := if_neg q
      rw [ea]
      have hy : yMove Y v = (-1, Y) := if_neg q
      exact retI F hr hlk rfl hW (u0) (by rw [hy]; exact ⟨rfl, hn, hh⟩) (congrArg (fun q : Int32 × YD => xwH T x h0 s0 v0 p0 l0 h1 a hd q.2 (u0)) hy).symm dX6_move_11
