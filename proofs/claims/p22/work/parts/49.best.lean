-- the best move brings what is told; a game that is over
theorem sm_0 {P : Nat → Int32} {b : Nat} : ∀ n, (∀ j, b ≤ j → j < b + n → P j = 0) → sm 0 P b n = 0
  | 0, _ => rfl
  | n + 1, h => by rw [sm, sm_0 n (fun j a b => h j a (by omega)), h (b + n) (by omega) (by omega)]; rfl
theorem ml_v (Y : YD) {d : Nat} (h1 : 1 ≤ d) (h2 : d ≤ 2) : (yMovesLeft Y (nI d)).1 = nI (mlF 301 d Y.all) := by
  unfold yMovesLeft
  rw [if_pos (rng_n (by omega) (by omega)), nI_clamp (by omega)]
theorem ml_le : ∀ (n d : Nat) (P : Nat → Int32), mlF n d P ≤ n
  | 0, _, _ => Nat.le_refl 0
  | n + 1, d, P => by
    rw [mlF]
    split
    · have := ml_le n d (mvM P (bhM d P).toNatClampNeg)
      omega
    · omega
theorem bs_over {S : Int} {Y Z : YD} (G : GR S Y Z) (q : (yCount Y (nI 1)).1 = nI 1) : (yMovesLeft Y (nI 2)).1 = nI 0 ∧ (yCount Y (nI 3)).1 + (yCount Y (nI 4)).1 = (yCount Y (nI 5)).1 ∧ ¬ (yCount Y (nI 2)).1 = -6 := by
  rw [cnt_v Y (by decide)] at q
  have q : Y.all 27 = 1 := q
  have n0 : ¬ Y.all 27 = 0 := by rw [q]; decide
  have hz := G.2.2.1.2.2 q
  refine ⟨?_, ?_, ?_⟩
  · rw [ml_v Y (by decide) (by decide)]
    show nI (mlF (300 + 1) 2 Y.all) = nI 0
    rw [mlF, if_neg n0]
  · rw [cnt_v Y (by decide), cnt_v Y (by decide), cnt_v Y (by decide)]
    show Y.all 24 + Y.all 25 = allM Y.all
    rw [all_eq, sm_0 6 (fun j a b => hz j (by omega)), sm_0 6 (fun j a b => hz j (by omega))]
    show Y.all 24 + Y.all 25 = 0 + 0 + Y.all 24 + Y.all 25
    rw [Int32.add_zero, Int32.zero_add]
  · rw [cnt_v Y (by decide)]
    show ¬ (if Y.all 27 = 0 then (-6 : Int32) else if Y.all 25 < Y.all 24 then 0 else if Y.all 24 < Y.all 25 then 1 else 2) = -6
    rw [if_neg n0]
    split
    · decide
    · split <;> decide
/-- the best house by one move, with what it brings -/
theorem bs_v {S : Int} {P : Nat → Int32} (hI : Iv S P) (q : P 27 = 0) : ∃ h k, h < 12 ∧ k < 2 ∧ P 26 = nI k ∧ legM P h ∧ bhM 1 P = nI h ∧ valM 1 P = mvM P h (24 + k) - mvM P h (25 - k) ∧ 0 ≤ (mvM P h (25 - k)).toInt ∧ 0 ≤ (mvM P h (24 + k)).toInt ∧ (mvM P h (25 - k)).toInt ≤ 2000 ∧ (mvM P h (24 + k)).toInt ≤ 2000 := by
  obtain ⟨h0, hh0, hl0⟩ := hI.2.2.2.2.2.2 q
  obtain ⟨z, hz⟩ := scan_some (v := vbM 0 P) 12 h0 hh0 hl0
  obtain ⟨b1, b2, b3⟩ := scan_b (v := vbM 0 P) (fun h hh hl => vbM_b hI 0 hh hl) 12 (Nat.le_refl _) z hz
  obtain ⟨k, hk, k1⟩ := hI.2.1
  obtain ⟨hI2, -⟩ := hI.mv b1 b2
  obtain ⟨k', hk', k1'⟩ := hI2.2.1
  have s1 := hI2.1.store hk
  have s2 := hI2.1.store (t := 1 - k) (by omega)
  rw [show 24 + (1 - k) = 25 - k by omega] at s2
  refine ⟨z.1, k, b1, hk, k1, b2, ?_, ?_, s2.1, s1.1, by omega, by omega⟩
  · rw [bhM, if_pos q, hz]
    rfl
  · rw [valM_s, if_pos q, hz]
    show z.2 = _
    rw [b3]
    unfold vbM
    show (if mvM P z.1 26 = P 26 then leadM (mvM P z.1) else -(leadM (mvM P z.1))) = _
    unfold leadM
    rw [k1, k1', nI_clamp (by omega)]
    by_cases e : nI k' = nI k
    · have e2 := n_eq e (by omega) (by omega)
      rw [if_pos e, e2, show 24 + (1 - k) = 25 - k by omega]
    · have e2 : k' = 1 - k := by have := n_ne e; omega
      rw [if_neg e, e2, show 24 + (1 - k) = 25 - k by omega, show 24 + (1 - (1 - k)) = 24 + k by omega, i_eq]
      have d1 : (mvM P z.1 (25 - k) - mvM P z.1 (24 + k)).toInt = (mvM P z.1 (25 - k)).toInt - (mvM P z.1 (24 + k)).toInt := i_sub (by omega) (by omega)
      have d2 : (mvM P z.1 (24 + k) - mvM P z.1 (25 - k)).toInt = (mvM P z.1 (24 + k)).toInt - (mvM P z.1 (25 - k)).toInt := i_sub (by omega) (by omega)
      rw [i_neg (by rw [d1]; omega), d1, d2]
      omega
theorem sub_can (a b : Int32) : a + b - b = a := Int32.add_sub_cancel a b
theorem bs_main {S : Int} {Y Z : YD} (G : GR S Y Z) (q : ¬ (yCount Y (nI 1)).1 = nI 1) : ∃ h k, h < 12 ∧ k < 2 ∧ (yCount Y (nI 0)).1 = nI k ∧ (yBest Y (nI 1)).1 = nI h ∧ (yPlay Y (nI 1)).1 = nI h ∧
    ∃ st g w : Int32, (yCount Y (nI (3 + k))).1 = st ∧ (yIfMove Y (nI h) (nI 4)).1 - 10000 = g ∧ (yWorth Y (nI 1)).1 - 10000 = w ∧ w ≤ st + g ∧ (yCount (yPlay Y (nI 1)).2 (nI (3 + k))).1 = st + g ∧ (yCount (yPlay Y (nI 1)).2 (nI (3 + k))).1 - (yCount (yPlay Y (nI 1)).2 (nI (4 - k))).1 = w ∧
    0 ≤ ((yUndo (yPlay Y (nI 1)).2).1).toInt ∧ (yCount (yUndo (yPlay Y (nI 1)).2).2 (nI (3 + k))).1 = st ∧ 1 ≤ ((yMovesLeft (yUndo (yPlay Y (nI 1)).2).2 (nI 1)).1).toInt := by
  rw [cnt_v Y (by decide)] at q
  have q : ¬ Y.all 27 = 1 := q
  have q0 : Y.all 27 = 0 := G.2.2.1.c27.elim id (fun z => absurd z q)
  have hI := G.2.2.1.2.1
  obtain ⟨h, k, hh, hk, k1, hl, e1, e2, n1, n2, n3, n4⟩ := bs_v hI q0
  have hp : yPlay Y (nI 1) = (nI h, (mkM Y.all (Y.all 28).toNatClampNeg h, (recd Y).2)) := by
    unfold yPlay
    rw [if_pos (rng_n (by omega) (by omega)), if_neg q, nI_clamp (by decide), e1, nI_clamp (by omega)]
  have cs : ∀ (X : YD), (yCount X (nI (3 + k))).1 = X.all (24 + k) := by
    intro X
    rw [cnt_v X (by omega)]
    rcases (show k = 0 ∨ k = 1 by omega) with rfl | rfl <;> rfl
  have co : ∀ (X : YD), (yCount X (nI (4 - k))).1 = X.all (25 - k) := by
    intro X
    rw [cnt_v X (by omega)]
    rcases (show k = 0 ∨ k = 1 by omega) with rfl | rfl <;> rfl
  have mk : ∀ j, j < 40 → mkM Y.all (Y.all 28).toNatClampNeg h j = mvM Y.all h j := fun j hj => (mkM_p hj).symm
  have hun : yUndo (mkM Y.all (Y.all 28).toNatClampNeg h, (recd Y).2) = (nI (recN Y.nh - 1), (fun j => recH Y.H Y.all Y.nh (340 * (recN Y.nh - 1) + j), recH Y.H Y.all Y.nh, Y.slo, Y.isv, Y.pad, recN Y.nh - 1, Y.pn)) := by
    unfold yUndo
    refine if_neg ?_
    show ¬ recN Y.nh = 0
    unfold recN
    split <;> omega
  have hn6 := G.1.2.1
  have hr7 : recN Y.nh - 1 < 7 := by unfold recN; split <;> omega
  have hu : ∀ j, j < 340 → recH Y.H Y.all Y.nh (340 * (recN Y.nh - 1) + j) = Y.all j := by
    intro j hj
    unfold recH recN
    by_cases z : Y.nh = 6
    · rw [if_pos z, if_pos z, if_neg (by omega), show 340 * (6 - 1) + j - 1700 = j by omega]
    · rw [if_neg z, if_neg z, show Y.nh + 1 - 1 = Y.nh by omega, if_pos (by omega), show 340 * Y.nh + j - 340 * Y.nh = j by omega]
  refine ⟨h, k, hh, hk, ?_, ?_, by rw [hp], Y.all (24 + k), mvM Y.all h (24 + k) - Y.all (24 + k), valM 1 Y.all, cs Y, ?_, ?_, ?_, ?_, ?_, ?_, ?_, ?_⟩
  · rw [cnt_v Y (by decide)]; exact k1
  · rw [bes_v Y (by decide) (by decide)]; exact e1
  · unfold yIfMove
    rw [if_pos (rng_n (by omega) (by omega)), nI_clamp (show h < 2 ^ 31 by omega), if_pos hl, if_pos (rng_n (by omega) (by omega)), nI_clamp (by decide)]
    show mvM Y.all h (24 + (Y.all 26).toNatClampNeg) - Y.all (24 + (Y.all 26).toNatClampNeg) + 10000 - 10000 = _
    rw [k1, nI_clamp (by omega), sub_can]
  · unfold yWorth
    rw [if_pos (rng_n (by omega) (by omega)), nI_clamp (by decide)]
    exact sub_can _ _
  · rw [e2, i_le]
    have s1 := hI.1.store hk
    have d2 : (mvM Y.all h (24 + k) - mvM Y.all h (25 - k)).toInt = (mvM Y.all h (24 + k)).toInt - (mvM Y.all h (25 - k)).toInt := i_sub (by omega) (by omega)
    have d3 : (mvM Y.all h (24 + k) - Y.all (24 + k)).toInt = (mvM Y.all h (24 + k)).toInt - (Y.all (24 + k)).toInt := i_sub (by omega) (by omega)
    rw [d2, i_add (by rw [d3]; omega) (by rw [d3]; omega), d3]
    omega
  · rw [hp, cs]
    show mkM Y.all (Y.all 28).toNatClampNeg h (24 + k) = _
    rw [mk _ (by omega), i_eq]
    have s1 := hI.1.store hk
    have d3 : (mvM Y.all h (24 + k) - Y.all (24 + k)).toInt = (mvM Y.all h (24 + k)).toInt - (Y.all (24 + k)).toInt := i_sub (by omega) (by omega)
    rw [i_add (by rw [d3]; omega) (by rw [d3]; omega), d3]
    omega
  · rw [hp, cs, co, e2]
    show mkM Y.all (Y.all 28).toNatClampNeg h (24 + k) - mkM Y.all (Y.all 28).toNatClampNeg h (25 - k) = _
    rw [mk _ (by omega), mk _ (by omega)]
  · rw [hp]
    show 0 ≤ ((yUndo (mkM Y.all (Y.all 28).toNatClampNeg h, (recd Y).2)).1).toInt
    rw [hun]
    show 0 ≤ (nI (recN Y.nh - 1)).toInt
    rw [nI_toInt (by omega)]
    omega
  · rw [hp, cs]
    show (yUndo (mkM Y.all (Y.all 28).toNatClampNeg h, (recd Y).2)).2.all (24 + k) = _
    rw [hun]
    exact hu _ (by omega)
  · rw [hp, ml_v _ (by decide) (by decide)]
    show 1 ≤ (nI (mlF 301 1 (yUndo (mkM Y.all (Y.all 28).toNatClampNeg h, (recd Y).2)).2.all)).toInt
    rw [hun]
    show 1 ≤ (nI (mlF (300 + 1) 1 (fun j => recH Y.H Y.all Y.nh (340 * (recN Y.nh - 1) + j)))).toInt
    rw [mlF]
    rw [if_pos (show recH Y.H Y.all Y.nh (340 * (recN Y.nh - 1) + 27) = 0 by rw [hu 27 (by decide)]; exact q0)]
    generalize mvM _ _ = X
    have := ml_le 300 1 X
    rw [nI_toInt (by omega)]
    omega
