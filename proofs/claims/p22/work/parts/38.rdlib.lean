-- a position that is read: what it is as numbers
theorem rdA_lo (g nb : Nat → Int32) {j : Nat} (hj : j < 12) : rdA g nb j = nb j := by
  unfold rdA
  rw [u_n (by omega), u_n (by omega), u_n (by omega)]
  exact if_pos hj
theorem rdA_24 (g nb : Nat → Int32) : rdA g nb 24 = nb 12 := by
  unfold rdA
  rw [u_n (by decide), u_n (by decide), u_s]
theorem rdA_25 (g nb : Nat → Int32) : rdA g nb 25 = nb 13 := by
  unfold rdA
  rw [u_n (by decide), u_s]
theorem rdA_26 (g nb : Nat → Int32) : rdA g nb 26 = nb 14 := by
  unfold rdA
  rw [u_s]
theorem rdA_o (g nb : Nat → Int32) {j : Nat} (h : 12 ≤ j) (h4 : j ≠ 24) (h5 : j ≠ 25) (h6 : j ≠ 26) : rdA g nb j = empM g j := by
  unfold rdA
  rw [u_n h6, u_n h5, u_n h4]
  exact if_neg (by omega)
theorem emp_z (g : Nat → Int32) {j : Nat} (h : ¬ (34 ≤ j ∧ j < 40)) : empM g j = 0 := if_neg h
theorem emp_s (g : Nat → Int32) {j : Nat} (h : 34 ≤ j ∧ j < 40) : empM g j = g j := if_pos h
theorem i_1sub {t : Nat} (ht : t < 2) : nI 1 - nI t = nI (1 - t) := by
  rcases (show t = 0 ∨ t = 1 by omega) with rfl | rfl <;> decide
theorem ends_26 (P : Nat → Int32) : endsM P 26 = P 26 := by
  unfold endsM
  rw [if_neg (by decide), if_neg (by decide), if_neg (by decide), if_neg (by decide)]
theorem rdq_gt {P : Nat → Int32} {t : Nat} (ht : t < 2) (h26 : P 26 = nI t) (h27 : P 27 = 0) (h28 : P 28 = 0) : rdQ P = gtM P t := by
  have hod : overM P ↔ decP P := over_dec (k := 0) (by rw [h28]; rfl) (by decide)
  have hc : (P 26).toNatClampNeg = t := by rw [h26, nI_clamp (by omega)]
  have h0 : ∀ j, upd P 27 0 j = P j := by
    intro j
    by_cases q : j = 27
    · rw [q, u_s, h27]
    · exact u_n q
  funext j
  by_cases ho : overM P
  · have hr : ¬ rdC P := fun q => q.1 ho
    have e1 : enM P = endsM P := if_pos ho
    unfold rdQ
    rw [if_neg hr, e1, gt_y (hod.mp ho)]
    by_cases q : j = 26
    · rw [q, u_s, ends_26, h26]
    · rw [u_n q]
  · have e1 : enM P = upd P 27 0 := if_neg ho
    have hs : sm 0 (enM P) (6 * t) 6 = sm 0 P (6 * t) 6 := sm_congr (fun j _ => by rw [e1]; exact h0 _)
    rw [gt_n (fun q => ho (hod.mpr q))]
    unfold rdQ
    by_cases z : sm 0 P (6 * t) 6 = 0
    · have hr : rdC P := ⟨ho, by rw [hc, hs]; exact z⟩
      rw [if_pos hr, if_pos z, e1, h0, h26, i_1sub ht]
      by_cases q : j = 26
      · rw [q, u_s, u_s]
      · rw [u_n q, u_n q, h0]
    · have hr : ¬ rdC P := fun q => z (by rw [← hs, ← hc]; exact q.2)
      rw [if_neg hr, if_neg z, e1, h0]
      by_cases q : j = 26
      · rw [q, u_s, h26]
      · rw [u_n q]
theorem gtM_mid (P : Nat → Int32) (t : Nat) {j : Nat} (h1 : 12 ≤ j) (h2 : j < 24) : gtM P t j = P j := by
  unfold gtM
  split
  · rw [u_n (by omega)]
    unfold endsM
    rw [if_neg (by omega), if_neg (by omega), if_neg (by omega), if_neg (by omega)]
  · rw [u_n (by omega)]
theorem si_ub {P : Nat → Int32} {b : Nat} : ∀ {n : Nat}, (∀ j, b ≤ j → j < b + n → (P j).toInt ≤ 99) → si P b n ≤ n * 99
  | 0, _ => Int.le_refl 0
  | n + 1, h => by
    have a1 := si_ub (n := n) (fun j a b => h j a (by omega))
    have a2 := h (b + n) (by omega) (by omega)
    rw [si, Int.natCast_add]
    omega
theorem iv_read {g nb : Nat → Int32} {t : Nat} (hg : GOK g) (ht : t < 2) (hn : ∀ j, j < 14 → okN (nb j)) (h14 : nb 14 = nI t) : GOK (put (rdA g nb) 0 (gtM (rdA g nb) t)) := by
  obtain ⟨⟨S, hI⟩, h34⟩ := hg
  have h36 := hI.2.2.2.2.1
  have h37 := hI.2.2.2.2.2.1
  obtain ⟨P, hP⟩ : ∃ z, z = rdA g nb := ⟨_, rfl⟩
  have hlo : ∀ j, j < 12 → P j = nb j := fun j hj => by rw [hP]; exact rdA_lo g nb hj
  have p24 : P 24 = nb 12 := by rw [hP]; exact rdA_24 g nb
  have p25 : P 25 = nb 13 := by rw [hP]; exact rdA_25 g nb
  have p26 : P 26 = nI t := by rw [hP, rdA_26]; exact h14
  have p27 : P 27 = 0 := by rw [hP, rdA_o g nb (by decide) (by decide) (by decide) (by decide)]; exact emp_z g (by decide)
  have p28 : P 28 = 0 := by rw [hP, rdA_o g nb (by decide) (by decide) (by decide) (by decide)]; exact emp_z g (by decide)
  have ps : ∀ j, 34 ≤ j → j < 40 → P j = g j := fun j h1 h2 => by rw [hP, rdA_o g nb (by omega) (by omega) (by omega) (by omega)]; exact emp_s g ⟨h1, h2⟩
  rw [← hP]
  have n12 : 0 ≤ (nb 12).toInt ∧ (nb 12).toInt ≤ 99 := hn 12 (by decide)
  have n13 : 0 ≤ (nb 13).toInt ∧ (nb 13).toInt ≤ 99 := hn 13 (by decide)
  have hnn : ∀ j, j < 12 → 0 ≤ (P j).toInt := fun j hj => by rw [hlo j hj]; exact (hn j (by omega)).1
  have hub : si P 0 12 ≤ (12 : Nat) * 99 := si_ub (fun j _ hj => by rw [hlo j (by omega)]; exact (hn j (by omega)).2)
  have hJ : Jv (si P 0 12 + (P 24).toInt + (P 25).toInt) P 0 := ⟨hnn, by rw [p24]; exact n12.1, by rw [p25]; exact n13.1, Int.le_refl 0, by omega, by rw [p24, p25]; omega⟩
  have q : ∀ j, j < 40 → put P 0 (gtM P t) j = gtM P t j := fun j hj => put_r hj (by omega)
  refine ⟨⟨_, iv_cg (g := gtM P t) ⟨gtM_Jv hJ, gtM_26 P ht, ?_, ⟨0, by rw [gtM_hi P t (by decide), p28]; rfl, by decide, fun _ => by decide⟩, ?_, ?_, fun hz => ?_⟩ (fun j hj => q j (by omega))⟩, ?_⟩
  · by_cases hd : decP P
    · exact Or.inr ((gtM_27 p27).1 hd)
    · exact Or.inl ((gtM_27 p27).2 hd)
  · rw [gtM_hi P t (by decide), ps 36 (by decide) (by decide)]; exact h36
  · rw [gtM_hi P t (by decide), ps 37 (by decide) (by decide)]; exact h37
  · by_cases hd : decP P
    · rw [(gtM_27 p27).1 hd] at hz
      exact absurd hz (by decide)
    · exact gtM_leg hJ ht p27 hd
  · rw [q 34 (by decide), gtM_hi P t (by decide), ps 34 (by decide) (by decide)]; exact h34
/-- what the scan says of a good pad -/
theorem sc_ok {Y : YD} (hpn : Y.pn ≤ 60) (h : (scY Y).1 = -6) : (∀ j, j < 14 → okN ((scY Y).2 j)) ∧ ∃ t, t < 2 ∧ (scY Y).2 14 = nI t := by
  obtain ⟨a1, a2⟩ := scan_rg Y.pn 0 0 0 Y.pad (fun _ => 0) (by omega) (by decide) (fun j hj => absurd hj (Nat.not_lt_zero j)) (Or.inl rfl) h
  refine ⟨a1, ?_⟩
  rcases a2 with q | q
  · exact ⟨0, by decide, q⟩
  · exact ⟨1, by decide, q⟩
theorem rdA_26t {Y : YD} {t : Nat} (h : (scY Y).2 14 = nI t) : rdA Y.all (scY Y).2 26 = nI t := (rdA_26 _ _).trans h
theorem rdA_27z (g nb : Nat → Int32) : rdA g nb 27 = 0 := (rdA_o g nb (by decide) (by decide) (by decide) (by decide)).trans (emp_z g (by decide))
theorem rdA_28z (g nb : Nat → Int32) : rdA g nb 28 = 0 := (rdA_o g nb (by decide) (by decide) (by decide) (by decide)).trans (emp_z g (by decide))
theorem yok_read {Y : YD} (h : YOK Y) : YOK (yRead Y).2 := by
  unfold yRead
  by_cases q : (scY Y).1 = -6
  · rw [if_pos q]
    obtain ⟨a1, t, ht, a2⟩ := sc_ok h.2.2.1 q
    have h2 : GOK (put (rdA Y.all (scY Y).2) 0 (rdQ (rdA Y.all (scY Y).2))) := by
      rw [rdq_gt ht (rdA_26t a2) (rdA_27z _ _) (rdA_28z _ _)]
      exact iv_read h.1 ht a1 a2
    have h3 := yok_recd h h2
    exact ⟨h3.1, h3.2.1, Nat.zero_le 60, h3.2.2.2⟩
  · rw [if_neg q]; exact h
theorem nrel_z {g ra rc : Nat → Int32} (h : g 28 = 0) : nrel g ra rc := ⟨fun q => absurd h q, fun j hj => by rw [h] at hj; exact absurd hj (Nat.not_lt_zero j)⟩
theorem nrel_cg {g g' ra rc : Nat → Int32} (h : nrel g ra rc) (he : ∀ j, ¬ (34 ≤ j ∧ j < 38) → g' j = g j) : nrel g' ra rc := by
  refine ⟨fun hz j hj => ?_, fun j hj => ?_⟩
  · rw [he 28 (by omega)] at hz
    rw [he (29 + j) (by omega)]
    exact h.1 hz j hj
  · rw [he 28 (by omega)] at hj
    rw [he (40 + j) (by omega)]
    exact h.2 j hj
