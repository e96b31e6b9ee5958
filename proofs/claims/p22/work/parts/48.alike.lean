-- what the two games answer
theorem rng_n {a b : Int} {k : Nat} (h : a ≤ (k : Int) ∧ (k : Int) ≤ b) (hk : k < 2 ^ 31) : rng a b (nI k) := by
  show a ≤ _ ∧ _
  rw [nI_toInt hk]
  exact h
theorem cnt_v (Y : YD) {k : Nat} (hk : k < 14) : (yCount Y (nI k)).1 = cntN Y k := by
  unfold yCount
  rw [if_pos (rng_n (by omega) (by omega)), nI_clamp (by omega)]
theorem hou_v (Y : YD) {h w : Nat} (hh : h < 12) (hw : w < 3) : (yHouse Y (nI h) (nI w)).1 = if nI w = 0 then Y.all h else if nI w = 1 then Y.all (12 + h) else if Y.all 35 ≤ Y.all (12 + h) then 1 else 0 := by
  unfold yHouse
  rw [if_pos (rng_n (by omega) (by omega)), if_pos (rng_n (by omega) (by omega)), nI_clamp (by omega)]
theorem hou_m {S : Int} {Y Z : YD} (G : GR S Y Z) {h w : Nat} (hh : h < 12) (hw : w < 3) : (yHouse Y (nI h) (nI w)).1 = (yHouse Z (nI (sg h)) (nI w)).1 := by
  have m := G.2.2.1.1.1
  rw [hou_v Y hh hw, hou_v Z (sg_lt h) hw, m.h hh, m.v hh, m.2 35 (by decide) (by decide) (by decide)]
theorem al_0 {S : Int} {Y Z : YD} (G : GR S Y Z) : ∃ k, k < 2 ∧ (yCount Y (nI 0)).1 = nI k ∧ (yCount Z (nI 0)).1 = nI (1 - k) := by
  obtain ⟨k, hk, a1, a2⟩ := G.2.2.1.1.2.1
  rw [cnt_v Y (by decide), cnt_v Z (by decide)]
  exact ⟨k, hk, a1, a2⟩
theorem al_1 {S : Int} {Y Z : YD} (G : GR S Y Z) : (yCount Y (nI 1)).1 = (yCount Z (nI 1)).1 := by
  rw [cnt_v Y (by decide), cnt_v Z (by decide)]
  exact G.2.2.1.1.2.2.1.symm
theorem al_2 {S : Int} {Y Z : YD} (G : GR S Y Z) : (yCount Y (nI 2)).1 = tuI (yCount Z (nI 2)).1 := by
  rw [cnt_v Y (by decide), cnt_v Z (by decide)]
  have m := G.2.2.1.1
  show winM Y.all = tuI (winM Z.all)
  have e27 := m.2.2.1
  have s0 := m.1.s0
  have s1 := m.1.s1
  show (if Y.all 27 = 0 then (-6 : Int32) else if Y.all 25 < Y.all 24 then 0 else if Y.all 24 < Y.all 25 then 1 else 2) = tuI (if Z.all 27 = 0 then (-6 : Int32) else if Z.all 25 < Z.all 24 then 0 else if Z.all 24 < Z.all 25 then 1 else 2)
  rw [e27, s0, s1]
  by_cases q : Y.all 27 = 0
  · rw [if_pos q, if_pos q]; decide
  · rw [if_neg q, if_neg q]
    by_cases a : Y.all 25 < Y.all 24
    · have b : ¬ Y.all 24 < Y.all 25 := fun z => by have h1 := (i_lt _ _).mp a; have h2 := (i_lt _ _).mp z; omega
      rw [if_pos a, if_neg b, if_pos a]; decide
    · rw [if_neg a]
      by_cases b : Y.all 24 < Y.all 25
      · rw [if_pos b, if_pos b]; decide
      · rw [if_neg b, if_neg b, if_neg a]; decide
theorem al_3 {S : Int} {Y Z : YD} (G : GR S Y Z) : (yCount Y (nI 3)).1 = (yCount Z (nI 4)).1 := by
  rw [cnt_v Y (by decide), cnt_v Z (by decide)]
  exact G.2.2.1.1.1.s0.symm
theorem al_4 {S : Int} {Y Z : YD} (G : GR S Y Z) : (yCount Y (nI 4)).1 = (yCount Z (nI 3)).1 := by
  rw [cnt_v Y (by decide), cnt_v Z (by decide)]
  exact G.2.2.1.1.1.s1.symm
theorem all_S {S : Int} {P : Nat → Int32} (hI : Iv S P) : (allM P).toInt = S := by
  obtain ⟨e0, n0, e2, e3⟩ := sm6 hI.1 (t := 0) (by decide)
  obtain ⟨e1, n1, -, -⟩ := sm6 hI.1 (t := 1) (by decide)
  rw [show 6 * 0 = 0 from rfl] at e0 n0
  rw [show 6 * 1 = 6 from rfl] at e1 n1
  obtain ⟨a1, a2, a3, a4, a5, a6⟩ := hI.1
  have z1 : (sm 0 P 0 6 + sm 0 P 6 6).toInt = si P 0 6 + si P 6 6 := by rw [i_add (by omega) (by omega), e0, e1]
  have z2 : (sm 0 P 0 6 + sm 0 P 6 6 + P 24).toInt = si P 0 6 + si P 6 6 + (P 24).toInt := by rw [i_add (by omega) (by omega), z1]
  rw [all_eq, i_add (by omega) (by omega), z2]
  omega
theorem al_5 {S : Int} {Y Z : YD} (G : GR S Y Z) {x : Int32} (hx : x.toInt = S) : (yCount Y (nI 5)).1 = x := by
  rw [cnt_v Y (by decide), i_eq, hx]
  exact all_S G.2.2.1.2.1
theorem al_6 {S : Int} {Y Z : YD} (G : GR S Y Z) : (yCount Y (nI 6)).1 = (yCount Z (nI 6)).1 := by
  rw [cnt_v Y (by decide), cnt_v Z (by decide)]
  exact G.2.2.1.1.2.2.2.1.symm
theorem al_11 {S : Int} {Y Z : YD} (G : GR S Y Z) : (yCount Y (nI 11)).1 = (yCount Z (nI 11)).1 := by
  rw [cnt_v Y (by decide), cnt_v Z (by decide)]
  exact (hos_m G.2.2.1.1.1).symm
theorem al_13 {S : Int} {Y Z : YD} (G : GR S Y Z) : (yCount Y (nI 13)).1 = nI Y.nh ∧ Y.nh < 7 := by
  rw [cnt_v Y (by decide)]
  exact ⟨rfl, Nat.lt_succ_of_le G.1.2.1⟩
theorem las_v (Y : YD) {w : Nat} (hw : w < 5) : (yLast Y (nI w)).1 = if Y.all 28 = 0 then -6 else Y.all (29 + w) := by
  unfold yLast
  rw [if_pos (rng_n (by omega) (by omega)), nI_clamp (by omega)]
  split <;> rfl
theorem las_o {S : Int} {Y Z : YD} (G : GR S Y Z) {w : Nat} (hw : w = 0 ∨ w = 2) : (yLast Y (nI w)).1 = otI (yLast Z (nI w)).1 := by
  rw [las_v Y (by omega), las_v Z (by omega)]
  obtain ⟨m, -, -, e28, r⟩ := G.2.2.1.1
  rw [e28]
  by_cases q : Y.all 28 = 0
  · rw [if_pos q, if_pos q]; exact otI_6.symm
  · rw [if_neg q, if_neg q]
    obtain ⟨a, b, ha, hb, r1, r2, r3, r4⟩ := r.elim (fun z => absurd z q) id
    rcases hw with rfl | rfl
    · show Y.all 29 = otI (Z.all 29)
      rw [r1, r2, otI_n (sg_lt a), sg_sg ha]
    · show Y.all 31 = otI (Z.all 31)
      rw [r3, r4, otI_n (sg_lt b), sg_sg hb]
theorem las_e {S : Int} {Y Z : YD} (G : GR S Y Z) {w : Nat} (hw : w = 1 ∨ w = 3 ∨ w = 4) : (yLast Y (nI w)).1 = (yLast Z (nI w)).1 := by
  rw [las_v Y (by omega), las_v Z (by omega)]
  obtain ⟨m, -, -, e28, r⟩ := G.2.2.1.1
  rw [e28, m.2 (29 + w) (by omega) (by omega) (by omega)]
theorem wor_m {S : Int} {Y Z : YD} (G : GR S Y Z) {d : Nat} (hd : d ≤ 4) : (yWorth Y (nI d)).1 = (yWorth Z (nI d)).1 := by
  unfold yWorth
  rw [if_pos (rng_n (by omega) (by omega)), if_pos (rng_n (by omega) (by omega)), nI_clamp (by omega)]
  show valM d Y.all + 10000 = valM d Z.all + 10000
  rw [val_m d _ _ G.2.2.1.1]
theorem bes_v (Y : YD) {d : Nat} (h1 : 1 ≤ d) (h2 : d ≤ 4) : (yBest Y (nI d)).1 = bhM d Y.all := by
  unfold yBest
  rw [if_pos (rng_n (by omega) (by omega)), nI_clamp (by omega)]
theorem bes_m {S : Int} {Y Z : YD} (G : GR S Y Z) {d : Nat} (h1 : 1 ≤ d) (h2 : d ≤ 4) : (yBest Y (nI d)).1 = otI (yBest Z (nI d)).1 := by
  rw [bes_v Y h1 h2, bes_v Z h1 h2]
  rcases bh_m G.2.2.1.1 d with ⟨a, b⟩ | ⟨h, hh, a, b⟩
  · rw [a, b]; exact otI_6.symm
  · rw [a, b, otI_n (sg_lt h), sg_sg hh]
theorem bes_s {S : Int} {Y Z : YD} (G : GR S Y Z) {d : Nat} (h1 : 1 ≤ d) (h2 : d ≤ 4) : ((yBest Y (nI d)).1 < 0 ∧ (yCount Y (nI 1)).1 = nI 1) ∨ (¬ (yBest Y (nI d)).1 < 0 ∧ ¬ (yCount Y (nI 1)).1 = nI 1) := by
  rw [bes_v Y h1 h2, cnt_v Y (by decide)]
  show (bhM d Y.all < 0 ∧ Y.all 27 = nI 1) ∨ (¬ bhM d Y.all < 0 ∧ ¬ Y.all 27 = nI 1)
  rcases G.2.2.1.c27 with q | q
  · obtain ⟨h, hh, -, e, -⟩ := ge_bh G.2.2.1 (d := d) (by omega) q
    rw [e, q]
    refine Or.inr ⟨fun z => ?_, by decide⟩
    have := (i_lt _ _).mp z
    rw [nI_toInt (by omega), i_0] at this
    omega
  · refine Or.inl ⟨?_, q⟩
    obtain ⟨d, rfl⟩ : ∃ y, d = y + 1 := ⟨d - 1, by omega⟩
    rw [bhM, if_neg (by rw [q]; decide)]
    decide
theorem ifm_v (Y : YD) {h w : Nat} (hh : h < 12) (hw : w < 7) : (yIfMove Y (nI h) (nI w)).1 = if legM Y.all h then ifA Y.all (mvM Y.all h) w else -5 := by
  unfold yIfMove
  rw [if_pos (rng_n (k := h) (by omega) (by omega)), if_pos (rng_n (k := w) (by omega) (by omega)), nI_clamp (show h < 2 ^ 31 by omega), nI_clamp (show w < 2 ^ 31 by omega)]
  split <;> rfl
theorem ifA_1 (P Q : Nat → Int32) : ifA P Q 1 = Q 31 := rfl
theorem ifA_5 (P Q : Nat → Int32) : ifA P Q 5 = Q 26 := rfl
theorem ifm_m {S : Int} {Y Z : YD} (G : GR S Y Z) {h w : Nat} (hh : h < 12) (hw : w < 7) : ((yIfMove Y (nI h) (nI w)).1 < 0 ∧ (yIfMove Y (nI h) (nI w)).1 = (yIfMove Z (nI (sg h)) (nI w)).1) ∨ (¬ (yIfMove Y (nI h) (nI w)).1 < 0 ∧ ((w = 1 ∧ otI (yIfMove Y (nI h) (nI w)).1 = (yIfMove Z (nI (sg h)) (nI w)).1) ∨ (w = 5 ∧ nI 1 - (yIfMove Y (nI h) (nI w)).1 = (yIfMove Z (nI (sg h)) (nI w)).1) ∨ (w ≠ 1 ∧ w ≠ 5 ∧ (yIfMove Y (nI h) (nI w)).1 = (yIfMove Z (nI (sg h)) (nI w)).1))) := by
  have hs := sg_lt h
  have g := G.2.2.1
  have lm := leg_m g.1 hh
  rw [ifm_v Y hh hw, ifm_v Z hs hw]
  by_cases q : legM Y.all h
  · rw [if_pos q, if_pos (lm.mpr q)]
    have gm := ge_mv g hh q
    obtain ⟨mk, h28, hmk, -⟩ := g.2.1.2.2.2.1
    have h29 := mv_28 g.2.1 hh q h28
    obtain ⟨m, ⟨k, hk, k1, k2⟩, -⟩ := g.1
    have n28 : ¬ mvM Y.all h 28 = 0 := fun z => by
      have z2 := (i_eq _ _).mp (h29.symm.trans z)
      rw [nI_toInt (by omega), i_0] at z2
      omega
    obtain ⟨P1, hP1⟩ : ∃ z, z = mvM Y.all h := ⟨_, rfl⟩
    obtain ⟨Q1, hQ1⟩ : ∃ z, z = mvM Z.all (sg h) := ⟨_, rfl⟩
    rw [← hP1] at n28 gm ⊢
    rw [← hQ1] at gm ⊢
    obtain ⟨mm, ⟨k', hk', k1', k2'⟩, e27, e28, r⟩ := gm.1
    have ev : w ≠ 1 → w ≠ 5 → ifA Y.all P1 w = ifA Z.all Q1 w := by
      intro n1 n5
      unfold ifA
      rcases (show w < 4 ∨ w = 4 ∨ w = 6 by omega) with z | z | z
      · rw [if_pos z, if_pos z]
        exact (mm.2 _ (by omega) (by omega) (by omega)).symm
      · rw [if_neg (by omega), if_pos z, if_neg (by omega), if_pos z, k1, k2, nI_clamp (by omega), nI_clamp (by omega)]
        rw [show 24 + (1 - k) = 25 - k by omega, mm.s hk, m.s hk]
      · rw [if_neg (by omega), if_neg (by omega), if_neg (by omega), if_neg (by omega), if_neg (by omega), if_neg (by omega)]
        exact e27.symm
    by_cases w1 : w = 1
    · subst w1
      obtain ⟨a, b, ha, hb, r1, r2, r3, r4⟩ := r.elim (fun z => absurd z n28) id
      rw [ifA_1, ifA_1, r3, r4]
      refine Or.inr ⟨fun z => ?_, Or.inl ⟨rfl, otI_n hb⟩⟩
      have := (i_lt _ _).mp z
      rw [nI_toInt (by omega), i_0] at this
      omega
    · by_cases w5 : w = 5
      · subst w5
        rw [ifA_5, ifA_5, k1', k2']
        refine Or.inr ⟨fun z => ?_, Or.inr (Or.inl ⟨rfl, pk_sub (by omega)⟩)⟩
        have := (i_lt _ _).mp z
        rw [nI_toInt (by omega), i_0] at this
        omega
      · by_cases z : ifA Y.all P1 w < 0
        · exact Or.inl ⟨z, ev w1 w5⟩
        · exact Or.inr ⟨z, Or.inr (Or.inr ⟨w1, w5, ev w1 w5⟩)⟩
  · rw [if_neg q, if_neg (fun z => q (lm.mp z))]
    exact Or.inl ⟨by show (-5 : Int32) < 0; decide, rfl⟩
