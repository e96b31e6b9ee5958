-- the class: its calls that read
/-- the cells of the state now: numbers g, with a report and a record of its own -/
abbrev nblk (T : Nat → ClassId) (a : Nat → Nat) (g ra rc : Nat → Int32) : va_W := [(a 0, .inr (5, [.ref (a 1), .ref (a 5), .ref (a 6), .ref (a 7)])), (a 1, .inr (3, [.ref (a 2), .ref (a 3), .ref (a 4), .int (g 26), .int (g 27), .int (g 28)])), (a 2, .inl (T 0, 12, .inl (fun j => g j))), (a 3, .inl (T 0, 12, .inl (fun j => g (12 + j)))), (a 4, .inl (T 0, 2, .inl (fun j => g (24 + j)))), (a 5, .inl (T 0, 4, .inl (fun j => g (34 + j)))), (a 6, .inr (4, [.int (ra 0), .int (ra 1), .int (ra 2), .int (ra 3), .int (ra 4)])), (a 7, .inl (T 0, 300, .inl rc))]
def mixS (g ra rc : Nat → Int32) : Nat → Int32 := fun j => if j < 29 ∨ (34 ≤ j ∧ j < 40) then g j else if j < 34 then ra (j - 29) else rc (j - 40)
theorem mix_g {g ra rc : Nat → Int32} {j : Nat} (h : j < 29 ∨ (34 ≤ j ∧ j < 40)) : g j = mixS g ra rc j := (if_pos h).symm
theorem mix_p {g ra rc : Nat → Int32} {k : Nat} (h : k < 5) : ra k = mixS g ra rc (29 + k) := by
  unfold mixS
  rw [if_neg (by omega), if_pos (by omega), show 29 + k - 29 = k by omega]
theorem mix_c {g ra rc : Nat → Int32} {j : Nat} : rc j = mixS g ra rc (40 + j) := by
  unfold mixS
  rw [if_neg (by omega), if_neg (by omega), show 40 + j - 40 = j by omega]
/-- what a state's cells f tell of the numbers g -/
abbrev srel (f g : Nat → Int32) : Prop := (∀ j, j < 29 → f j = g j) ∧ (∀ j, 34 ≤ j → j < 38 → f j = g j) ∧ (¬ g 28 = 0 → ∀ j, j < 5 → f (29 + j) = g (29 + j)) ∧ (∀ j, j < (g 28).toNatClampNeg → f (40 + j) = g (40 + j))
abbrev nrel (g ra rc : Nat → Int32) : Prop := (¬ g 28 = 0 → ∀ j, j < 5 → ra j = g (29 + j)) ∧ (∀ j, j < (g 28).toNatClampNeg → rc j = g (40 + j))
theorem srel_mix {g ra rc : Nat → Int32} (h : nrel g ra rc) : srel (mixS g ra rc) g :=
  ⟨fun j hj => (mix_g (Or.inl hj)).symm, fun j h1 h2 => (mix_g (Or.inr ⟨h1, by omega⟩)).symm, fun hz j hj => (mix_p hj).symm.trans (h.1 hz j hj), fun j hj => mix_c.symm.trans (h.2 j hj)⟩
theorem nrel_of {f g : Nat → Int32} (h : srel f g) : nrel g (fun k => f (29 + k)) (fun j => f (40 + j)) := ⟨h.2.2.1, h.2.2.2⟩
theorem Wd.n2b {D : va_G} {T : Nat → ClassId} {A : Nat → Prop} {s : State} {post : va_W} {H : Heap} {locs : List Loc} {a : Nat → Nat} {g ra rc : Nat → Int32} (h : Wd D T A s (nblk T a g ra rc ++ post) H locs) : Wd D T A s (blk T a (mixS g ra rc) ++ post) H locs := by
  have h2 := h.arr 2 (fun j => mixS g ra rc j) rfl (fun j hj => mix_g (Or.inl (by omega))) rfl
  have h3 := h2.arr 3 (fun j => mixS g ra rc (12 + j)) rfl (fun j hj => mix_g (Or.inl (by omega))) rfl
  have h4 := h3.arr 4 (fun j => mixS g ra rc (24 + j)) rfl (fun j hj => mix_g (Or.inl (by omega))) rfl
  have h5 := h4.arr 5 (fun j => mixS g ra rc (34 + j)) rfl (fun j hj => mix_g (Or.inr ⟨by omega, by omega⟩)) rfl
  have h7 := h5.arr 7 (fun j => mixS g ra rc (40 + j)) rfl (fun j hj => mix_c) rfl
  exact h7
theorem Wd.m2n {D : va_G} {T : Nat → ClassId} {A : Nat → Prop} {s : State} {post : va_W} {H : Heap} {locs : List Loc} {a : Nat → Nat} {g ra rc : Nat → Int32} (h : Wd D T A s (blk T a (mixS g ra rc) ++ post) H locs) : Wd D T A s (nblk T a g ra rc ++ post) H locs := by
  have h2 := h.arr 2 (fun j => g j) rfl (fun j hj => (mix_g (Or.inl (by omega))).symm) rfl
  have h3 := h2.arr 3 (fun j => g (12 + j)) rfl (fun j hj => (mix_g (Or.inl (by omega))).symm) rfl
  have h4 := h3.arr 4 (fun j => g (24 + j)) rfl (fun j hj => (mix_g (Or.inl (by omega))).symm) rfl
  have h5 := h4.arr 5 (fun j => g (34 + j)) rfl (fun j hj => (mix_g (Or.inr ⟨by omega, by omega⟩)).symm) rfl
  have h7 := h5.arr 7 rc rfl (fun j hj => mix_c.symm) rfl
  exact h7
theorem Wd.b2n {D : va_G} {T : Nat → ClassId} {A : Nat → Prop} {s : State} {post : va_W} {H : Heap} {locs : List Loc} {a : Nat → Nat} {f g : Nat → Int32} (hs : srel f g) (h : Wd D T A s (blk T a f ++ post) H locs) : Wd D T A s (nblk T a g (fun k => f (29 + k)) (fun j => f (40 + j)) ++ post) H locs := by
  have h2 := h.arr 2 (fun j => g j) rfl (fun j hj => hs.1 j (by omega)) rfl
  have h3 := h2.arr 3 (fun j => g (12 + j)) rfl (fun j hj => hs.1 (12 + j) (by omega)) rfl
  have h4 := h3.arr 4 (fun j => g (24 + j)) rfl (fun j hj => hs.1 (24 + j) (by omega)) rfl
  have h5 := h4.arr 5 (fun j => g (34 + j)) rfl (fun j hj => hs.2.1 (34 + j) (by omega) (by omega)) rfl
  refine h5.is ?_
  show _ = nblk T a g (fun k => f (29 + k)) (fun j => f (40 + j)) ++ post
  unfold nblk
  rw [← hs.1 26 (by decide), ← hs.1 27 (by decide), ← hs.1 28 (by decide)]
  rfl
set_option maxHeartbeats 4000000 in
set_option maxRecDepth 100000 in
theorem c_isHouse (l : Launch) (D : va_G) (T : Nat → ClassId) (v : Int32) : KR l D T yX6_isHouse cX6_isHouse 1 (some .boolean) 0 [.int v] [] (fun r => r = if rng 0 11 v then 1 else 0) := by
  refine KR.of (by decide +kernel) (Nat.le_of_ble_eq_true rfl) (fun p e s m below meth c F hr hlk hW ls hl => ?_)
  have hx := F.1
  have hb := F.2.1
  have hl : lv_has ls 1 [(0, .int v)] := hl
  refine lv_iload_n hx hb dX6_isHouse_0 rfl (lv_at hl 0 rfl) ?_
  refine lv_if_lt (tgt := 14) hx hb dX6_isHouse_1 (by decide) (fun h1 => ?_) (fun h1 => ?_)
  · have q1 := (i_lt _ _).mp h1
    rw [i_0] at q1
    refine lv_iconst (v := 0) hx hb dX6_isHouse_14 (by decide) ?_
    exact retR F hr hlk rfl (if_neg (fun q : rng 0 11 v => by have := q.1; omega)).symm dX6_isHouse_15
  · have q1 := fun z => h1 ((i_lt v 0).mpr z)
    rw [i_0] at q1
    refine lv_iload_n hx hb dX6_isHouse_4 rfl (lv_at hl 0 rfl) ?_
    refine lv_bipush (v := nI 12) hx hb dX6_isHouse_5 (by decide) ?_
    refine lv_icmp_ge (tgt := 14) hx hb dX6_isHouse_7 (by decide) (fun h7 => ?_) (fun h7 => ?_)
    · have q2 := (i_le _ _).mp h7
      rw [nI_toInt (by decide)] at q2
      refine lv_iconst (v := 0) hx hb dX6_isHouse_14 (by decide) ?_
      exact retR F hr hlk rfl (if_neg (fun q : rng 0 11 v => by have := q.2; omega)).symm dX6_isHouse_15
    · have q2 : ¬ (12 : Int) ≤ v.toInt := fun z => h7 ((i_le _ _).mpr (by rw [nI_toInt (by decide)]; exact z))
      refine lv_iconst (v := 1) hx hb dX6_isHouse_10 (by decide) ?_
      refine lv_goto (tgt := 15) hx hb dX6_isHouse_11 (by decide) ?_
      exact retR F hr hlk rfl (if_pos (show rng 0 11 v from ⟨Int.not_lt.mp q1, by omega⟩)).symm dX6_isHouse_15
set_option maxHeartbeats 4000000 in
set_option maxRecDepth 100000 in
theorem x_errorOfMove (l : Launch) (D : va_G) (T : Nat → ClassId) (x h0 s0 v0 p0 l0 : Nat) (a : Nat → Nat) (Y : YD) (hY : YOK Y) (ra rc : Nat → Int32) (v : Int32) : KR l D T yX6_errorOfMove cX6_errorOfMove 2 (some .int) 2 [.ref x, .int v] ((nblk T a Y.all ra rc) ++ ([(x, .inr (6, [.ref (a 0), .ref h0, .ref s0, .ref v0, .ref p0, .ref l0]))])) (fun r => r = (if rng 0 11 v then (if legM Y.all v.toNatClampNeg then 0 else -5) else -1 : Int32)) := by
  refine KR.of (by decide +kernel) (Nat.le_of_ble_eq_true rfl) (fun p e s m below meth c F hr hlk hW ls hl => ?_)
  have hx := F.1
  have hb := F.2.1
  have hl : lv_has ls 2 [(0, .ref x), (1, .int v)] := hl
  refine lv_iload_n hx hb dX6_errorOfMove_0 rfl (lv_at hl 1 rfl) ?_
  refine cRS (As := [.int v]) (rest := []) F hW hl cs408 (c_isHouse l D T v) [] rfl rfl rfl rfl (Nat.le_of_ble_eq_true rfl) ⟨Nat.le_of_ble_eq_true rfl, Nat.le_of_ble_eq_true rfl⟩ ⟨Nat.zero_le _, Nat.zero_le _⟩ dX6_errorOfMove_1 (fun r1 hr1 => ?_)
  subst hr1
  refine lv_if_ne (tgt := 9) hx hb dX6_errorOfMove_4 (by decide) (fun h4 => ?_) (fun h4 => ?_)
  · have q : rng 0 11 v := Decidable.not_not.mp (fun q => h4 (bz.mpr q))
    obtain ⟨k, kb, kl, ek, ck⟩ := rng_nat q
    rw [ek] at hl
    refine lv_aload_n hx hb dX6_errorOfMove_9 rfl (lv_at hl 0 rfl) ?_
    refine gf196 F hW 8 rfl rfl dX6_errorOfMove_10 ?_
    refine gf110 F hW 0 rfl rfl dX6_errorOfMove_13 ?_
    refine lv_iload_n hx hb dX6_errorOfMove_16 rfl (lv_at hl 1 rfl) ?_
    refine cRV (As := [.int (nI k)]) (rest := []) F hW hl cs411 (c_canMoveFrom l D T (a 1) (a 2) (a 3) (a 4) (Y.all 26) (Y.all 27) (Y.all 28) (fun j => Y.all j) (h := k) (by omega)) [1, 2] rfl rfl 0 3 rfl rfl rfl rfl rfl (Nat.le_of_ble_eq_true rfl) ⟨Nat.le_of_ble_eq_true rfl, Nat.le_of_ble_eq_true rfl⟩ ⟨Nat.zero_le _, Nat.zero_le _⟩ dX6_errorOfMove_17 (fun r17 hr17 => ?_)
    subst hr17
    refine lv_if_eq (tgt := 27) hx hb dX6_errorOfMove_20 (by decide) (fun h20 => ?_) (fun h20 => ?_)
    · have q2 : ¬ legM Y.all k := bz.mp h20
      refine lv_bipush (v := -5) hx hb dX6_errorOfMove_27 (by decide) ?_
      exact retR F hr hlk rfl (by rw [if_pos q, ck, if_neg q2]) dX6_errorOfMove_29
    · have q2 : legM Y.all k := Decidable.not_not.mp (fun q => h20 (bz.mpr q))
      refine lv_iconst (v := 0) hx hb dX6_errorOfMove_23 (by decide) ?_
      refine lv_goto (tgt := 29) hx hb dX6_errorOfMove_24 (by decide) ?_
      exact retR F hr hlk rfl (by rw [if_pos q, ck, if_pos q2]) dX6_errorOfMove_29
  · refine lv_iconst (v := -1) hx hb dX6_errorOfMove_7 (by decide) ?_
    exact retR F hr hlk rfl (if_neg (bz.mp h4)).symm dX6_errorOfMove_8
set_option maxHeartbeats 4000000 in
set_option maxRecDepth 100000 in
theorem x_house (l : Launch) (D : va_G) (T : Nat → ClassId) (x h0 s0 v0 p0 l0 : Nat) (a : Nat → Nat) (Y : YD) (hY : YOK Y) (ra rc : Nat → Int32) (v w : Int32) : KR l D T yX6_house cX6_house 3 (some .int) 2 [.ref x, .int v, .int w] ((nblk T a Y.all ra rc) ++ ([(x, .inr (6, [.ref (a 0), .ref h0, .ref s0, .ref v0, .ref p0, .ref l0]))])) (fun r => r = (yHouse Y v w).1) := by
  refine KR.of (by decide +kernel) (Nat.le_of_ble_eq_true rfl) (fun p e s m below meth c F hr hlk hW ls hl => ?_)
  have hx := F.1
  have hb := F.2.1
  have hl : lv_has ls 3 [(0, .ref x), (1, .int v), (2, .int w)] := hl
  refine lv_iload_n hx hb dX6_house_0 rfl (lv_at hl 1 rfl) ?_
  refine cRS (As := [.int v]) (rest := []) F hW hl cs408 (c_isHouse l D T v) [] rfl rfl rfl rfl (Nat.le_of_ble_eq_true rfl) ⟨Nat.le_of_ble_eq_true rfl, Nat.le_of_ble_eq_true rfl⟩ ⟨Nat.zero_le _, Nat.zero_le _⟩ dX6_house_1 (fun r1 hr1 => ?_)
  subst hr1
  refine lv_if_ne (tgt := 9) hx hb dX6_house_4 (by decide) (fun h4 => ?_) (fun h4 => ?_)
  · have q : rng 0 11 v := Decidable.not_not.mp (fun q => h4 (bz.mpr q))
    obtain ⟨k, kb, kl, ek, ck⟩ := rng_nat q
    rw [ek] at hl
    by_cases q2 : rng 0 2 w
    · obtain ⟨n, nb, nl, en, cn⟩ := rng_nat q2
      rw [en] at hl
      have hc : n = 0 ∨ n = 1 ∨ n = 2 := by omega
      rcases hc with rfl | rfl | rfl
      · refine lv_iload_n hx hb dX6_house_9 rfl (lv_at hl 2 rfl) ?_
        refine lv_tableIn (off := 26) (tgt := 36) hx hb dX6_house_10 (by decide) (by decide) (by decide) (by decide) ?_
        refine lv_aload_n hx hb dX6_house_36 rfl (lv_at hl 0 rfl) ?_
        refine gf196 F hW 8 rfl rfl dX6_house_37 ?_
        refine gf110 F hW 0 rfl rfl dX6_house_40 ?_
        refine gf41 F hW 1 rfl rfl dX6_house_43 ?_
        refine lv_iload_n hx hb dX6_house_46 rfl (lv_at hl 1 rfl) ?_
        refine ald F hW 2 rfl (x := Y.all k) k rfl (by omega) (by decide) rfl dX6_house_47 ?_
        exact retR F hr hlk rfl (by unfold yHouse; rw [if_pos q, if_pos q2, ck, en]; rfl) dX6_house_48
      · refine lv_iload_n hx hb dX6_house_9 rfl (lv_at hl 2 rfl) ?_
        refine lv_tableIn (off := 39) (tgt := 49) hx hb dX6_house_10 (by decide) (by decide) (by decide) (by decide) ?_
        refine lv_aload_n hx hb dX6_house_49 rfl (lv_at hl 0 rfl) ?_
        refine gf196 F hW 8 rfl rfl dX6_house_50 ?_
        refine gf110 F hW 0 rfl rfl dX6_house_53 ?_
        refine gf43 F hW 1 rfl rfl dX6_house_56 ?_
        refine lv_iload_n hx hb dX6_house_59 rfl (lv_at hl 1 rfl) ?_
        refine ald F hW 3 rfl (x := Y.all (12 + k)) k rfl (by omega) (by decide) rfl dX6_house_60 ?_
        exact retR F hr hlk rfl (by unfold yHouse; rw [if_pos q, if_pos q2, ck, en]; rfl) dX6_house_61
      · refine lv_iload_n hx hb dX6_house_9 rfl (lv_at hl 2 rfl) ?_
        refine lv_tableIn (off := 52) (tgt := 62) hx hb dX6_house_10 (by decide) (by decide) (by decide) (by decide) ?_
        refine lv_aload_n hx hb dX6_house_62 rfl (lv_at hl 0 rfl) ?_
        refine gf196 F hW 8 rfl rfl dX6_house_63 ?_
        refine gf110 F hW 0 rfl rfl dX6_house_66 ?_
        refine lv_iload_n hx hb dX6_house_69 rfl (lv_at hl 1 rfl) ?_
        refine lv_aload_n hx hb dX6_house_70 rfl (lv_at hl 0 rfl) ?_
        refine gf196 F hW 8 rfl rfl dX6_house_71 ?_
        refine gf112 F hW 0 rfl rfl dX6_house_74 ?_
        refine cRV (As := [.int (nI k), .ref (a 5)]) (rest := []) F hW hl cs422 (c_isHostile l D T (a 1) (a 2) (a 3) (a 4) (a 5) (Y.all 26) (Y.all 27) (Y.all 28) (fun j => Y.all (12 + j)) (fun j => Y.all (34 + j)) (h := k) (by omega)) [1, 3, 5] rfl rfl 0 3 rfl rfl rfl rfl rfl (Nat.le_of_ble_eq_true rfl) ⟨Nat.le_of_ble_eq_true rfl, Nat.le_of_ble_eq_true rfl⟩ ⟨Nat.zero_le _, Nat.zero_le _⟩ dX6_house_77 (fun r77 hr77 => ?_)
        subst hr77
        refine lv_if_eq (tgt := 87) hx hb dX6_house_80 (by decide) (fun h80 => ?_) (fun h80 => ?_)
        · have q3 : ¬ Y.all 35 ≤ Y.all (12 + k) := bz.mp h80
          refine lv_iconst (v := 0) hx hb dX6_house_87 (by decide) ?_
          exact retR F hr hlk rfl (by unfold yHouse; rw [if_pos q, if_pos q2, ck, en]; exact (if_neg q3).symm) dX6_house_88
        · have q3 : Y.all 35 ≤ Y.all (12 + k) := Decidable.not_not.mp (fun q => h80 (bz.mpr q))
          refine lv_iconst (v := 1) hx hb dX6_house_83 (by decide) ?_
          refine lv_goto (tgt := 88) hx hb dX6_house_84 (by decide) ?_
          exact retR F hr hlk rfl (by unfold yHouse; rw [if_pos q, if_pos q2, ck, en]; exact (if_pos q3).symm) dX6_house_88
    · refine lv_iload_n hx hb dX6_house_9 rfl (lv_at hl 2 rfl) ?_
      refine lv_tableOut (tgt := 89) hx hb dX6_house_10 (by have : ¬ rng 0 2 w := q2; unfold rng at this; omega) (by decide) ?_
      refine lv_bipush (v := -2) hx hb dX6_house_89 (by decide) ?_
      exact retR F hr hlk rfl (by unfold yHouse; rw [if_pos q, if_neg q2]) dX6_house_91
  · refine lv_iconst (v := -1) hx hb dX6_house_7 (by decide) ?_
    exact retR F hr hlk rfl (by unfold yHouse; rw [if_neg (bz.mp h4)]) dX6_house_8
set_option maxHeartbeats 4000000 in
set_option maxRecDepth 100000 in
theorem x_last (l : Launch) (D : va_G) (T : Nat → ClassId) (x h0 s0 v0 p0 l0 : Nat) (a : Nat → Nat) (Y : YD) (hY : YOK Y) (ra rc : Nat → Int32) (hn : nrel Y.all ra rc) (v : Int32) : KR l D T yX6_last cX6_last 2 (some .int) 2 [.ref x, .int v] ((nblk T a Y.all ra rc) ++ ([(x, .inr (6, [.ref (a 0), .ref h0, .ref s0, .ref v0, .ref p0, .ref l0]))])) (fun r => r = (yLast Y v).1) := by
  refine KR.of (by decide +kernel) (Nat.le_of_ble_eq_true rfl) (fun p e s m below meth c F hr hlk hW ls hl => ?_)
  have hx := F.1
  have hb := F.2.1
  have hl : lv_has ls 2 [(0, .ref x), (1, .int v)] := hl
  have e26 : True := trivial
  refine lv_iload_n hx hb dX6_last_0 rfl (lv_at hl 1 rfl) ?_
  refine lv_if_lt (tgt := 9) hx hb dX6_last_1 (by decide) (fun h1 => ?_) (fun h1 => ?_)
  · have q1 := (i_lt _ _).mp h1
    rw [i_0] at q1
    refine lv_bipush (v := -2) hx hb dX6_last_9 (by decide) ?_
    exact retR F hr hlk rfl (by unfold yLast; rw [if_neg (fun q : rng 0 4 v => by have := q.1; omega)]) dX6_last_11
  · have q1 := fun z => h1 ((i_lt v 0).mpr z)
    rw [i_0] at q1
    refine lv_iload_n hx hb dX6_last_4 rfl (lv_at hl 1 rfl) ?_
    refine lv_iconst (v := nI 4) hx hb dX6_last_5 (by decide) ?_
    refine lv_icmp_le (tgt := 12) hx hb dX6_last_6 (by decide) (fun h6 => ?_) (fun h6 => ?_)
    · have q2 := (i_le _ _).mp h6
      rw [nI_toInt (by decide)] at q2
      have q : rng 0 4 v := ⟨Int.not_lt.mp q1, by omega⟩
      obtain ⟨k, kb, kl, ek, ck⟩ := rng_nat q
      rw [ek] at hl
      refine lv_aload_n hx hb dX6_last_12 rfl (lv_at hl 0 rfl) ?_
      refine gf196 F hW 8 rfl rfl dX6_last_13 ?_
      refine gf110 F hW 0 rfl rfl dX6_last_16 ?_
      refine gf54 F hW 1 rfl rfl dX6_last_19 ?_
      refine lv_if_ne (tgt := 28) hx hb dX6_last_22 (by decide) (fun h22 => ?_) (fun h22 => ?_)
      · have hc : k = 0 ∨ k = 1 ∨ k = 2 ∨ k = 3 ∨ k = 4 := by omega
        rcases hc with rfl | rfl | rfl | rfl | rfl
        · refine lv_iload_n hx hb dX6_last_28 rfl (lv_at hl 1 rfl) ?_
          refine lv_tableIn (off := 31) (tgt := 60) hx hb dX6_last_29 (by decide) (by decide) (by decide) (by decide) ?_
          refine lv_aload_n hx hb dX6_last_60 rfl (lv_at hl 0 rfl) ?_
          refine gf196 F hW 8 rfl rfl dX6_last_61 ?_
          refine gf114 F hW 0 rfl rfl dX6_last_64 ?_
          refine gf85 F hW 6 rfl rfl dX6_last_67 ?_
          exact retR F hr hlk rfl (by unfold yLast; rw [if_pos q, if_neg h22, ck]; exact hn.1 h22 0 (by decide)) dX6_last_70
        · refine lv_iload_n hx hb dX6_last_28 rfl (lv_at hl 1 rfl) ?_
          refine lv_tableIn (off := 42) (tgt := 71) hx hb dX6_last_29 (by decide) (by decide) (by decide) (by decide) ?_
          refine lv_aload_n hx hb dX6_last_71 rfl (lv_at hl 0 rfl) ?_
          refine gf196 F hW 8 rfl rfl dX6_last_72 ?_
          refine gf114 F hW 0 rfl rfl dX6_last_75 ?_
          refine gf87 F hW 6 rfl rfl dX6_last_78 ?_
          exact retR F hr hlk rfl (by unfold yLast; rw [if_pos q, if_neg h22, ck]; exact hn.1 h22 1 (by decide)) dX6_last_81
        · refine lv_iload_n hx hb dX6_last_28 rfl (lv_at hl 1 rfl) ?_
          refine lv_tableIn (off := 53) (tgt := 82) hx hb dX6_last_29 (by decide) (by decide) (by decide) (by decide) ?_
          refine lv_aload_n hx hb dX6_last_82 rfl (lv_at hl 0 rfl) ?_
          refine gf196 F hW 8 rfl rfl dX6_last_83 ?_
          refine gf114 F hW 0 rfl rfl dX6_last_86 ?_
          refine gf90 F hW 6 rfl rfl dX6_last_89 ?_
          exact retR F hr hlk rfl (by unfold yLast; rw [if_pos q, if_neg h22, ck]; exact hn.1 h22 2 (by decide)) dX6_last_92
        · refine lv_iload_n hx hb dX6_last_28 rfl (lv_at hl 1 rfl) ?_
          refine lv_tableIn (off := 64) (tgt := 93) hx hb dX6_last_29 (by decide) (by decide) (by decide) (by decide) ?_
          refine lv_aload_n hx hb dX6_last_93 rfl (lv_at hl 0 rfl) ?_
          refine gf196 F hW 8 rfl rfl dX6_last_94 ?_
          refine gf114 F hW 0 rfl rfl dX6_last_97 ?_
          refine gf93 F hW 6 rfl rfl dX6_last_100 ?_
          exact retR F hr hlk rfl (by unfold yLast; rw [if_pos q, if_neg h22, ck]; exact hn.1 h22 3 (by decide)) dX6_last_103
        · refine lv_iload_n hx hb dX6_last_28 rfl (lv_at hl 1 rfl) ?_
          refine lv_tableOut (tgt := 104) hx hb dX6_last_29 (Or.inr (by decide)) (by decide) ?_
          refine lv_aload_n hx hb dX6_last_104 rfl (lv_at hl 0 rfl) ?_
          refine gf196 F hW 8 rfl rfl dX6_last_105 ?_
          refine gf114 F hW 0 rfl rfl dX6_last_108 ?_
          refine gf96 F hW 6 rfl rfl dX6_last_111 ?_
          exact retR F hr hlk rfl (by unfold yLast; rw [if_pos q, if_neg h22, ck]; exact hn.1 h22 4 (by decide)) dX6_last_114
      · refine lv_bipush (v := -6) hx hb dX6_last_25 (by decide) ?_
        exact retR F hr hlk rfl (by unfold yLast; rw [if_pos q, if_pos h22]) dX6_last_27
    · have q2 : ¬ v.toInt ≤ 4 := fun z => h6 ((i_le _ _).mpr (by rw [nI_toInt (by decide)]; exact z))
      refine lv_bipush (v := -2) hx hb dX6_last_9 (by decide) ?_
      exact retR F hr hlk rfl (by unfold yLast; rw [if_neg (fun q : rng 0 4 v => q2 q.2)]) dX6_last_11