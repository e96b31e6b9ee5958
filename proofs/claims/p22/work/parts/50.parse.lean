-- the text of fifteen numbers, one figure each; what is read of it
def tch (dg : Nat → Nat) (j : Nat) : Nat := if j % 2 = 0 then 48 + dg (j / 2) else if j = 23 ∨ j = 27 then 47 else 44
theorem tch_e (dg : Nat → Nat) (k : Nat) : tch dg (2 * k) = 48 + dg k := by
  unfold tch
  rw [if_pos (by omega), show 2 * k / 2 = k by omega]
theorem tch_o (dg : Nat → Nat) (k : Nat) : tch dg (2 * k + 1) = if k = 11 ∨ k = 13 then 47 else 44 := by
  unfold tch
  rw [if_neg (by omega)]
  by_cases q : k = 11 ∨ k = 13
  · rw [if_pos (by omega), if_pos q]
  · rw [if_neg (by omega), if_neg q]
theorem num_v {x : Nat} (f : Nat) (nb : Nat → Int32) : numC (nI (48 + x)) f 0 nb = upd nb f (nI x) := by
  unfold numC
  rw [if_pos rfl, Int32.zero_add]
  have e : nI (48 + x) - nI 48 = nI x := by
    rw [pk_sub (by omega), show 48 + x - 48 = x by omega]
  exact congrArg (upd nb f) e
theorem i_48 : (48 : Int32).toInt = 48 := by decide
theorem i_57 : (57 : Int32).toInt = 57 := by decide
theorem fit_d {x f : Nat} (nb : Nat → Int32) (hf : f < 14) (hx : x < 10) : fitC (nI (48 + x)) f 0 nb := by
  refine Or.inr ⟨by omega, ⟨?_, ?_⟩, Or.inl rfl⟩
  · rw [i_le, nI_toInt (by omega), i_48]
    omega
  · rw [i_le, nI_toInt (by omega), i_57]
    omega
theorem fit_p {x : Nat} (nb : Nat → Int32) (hx : x < 2) : fitC (nI (48 + x)) 14 0 nb := by
  refine Or.inl ⟨rfl, rfl, ?_⟩
  rcases (show x = 0 ∨ x = 1 by omega) with rfl | rfl
  · exact Or.inl rfl
  · exact Or.inr rfl
theorem fit_s {c f : Nat} (nb : Nat → Int32) (hf : f < 14) (hc : c < 48) : ¬ fitC (nI c) f 1 nb := by
  intro z
  rcases z with z | z
  · omega
  · have := (i_le _ _).mp z.2.1.1
    rw [nI_toInt (by omega), i_48] at this
    omega
theorem scan_t {t : Nat → Int32} {dg : Nat → Nat} (ht : ∀ j, j < 29 → t j = nI (tch dg j)) (hd : ∀ k, k < 14 → dg k < 10) (h14 : dg 14 < 2) : ∀ (m f : Nat), f + m = 14 → ∀ nb : Nat → Int32, (scanF (2 * m + 1) (2 * f) f 0 t nb).1 = -6 ∧ ∀ k, k < 15 → (scanF (2 * m + 1) (2 * f) f 0 t nb).2 k = if f ≤ k then nI (dg k) else nb k
  | 0, f, hf, nb => by
    have hf : f = 14 := by omega
    subst hf
    have e : t (2 * 14) = nI (48 + dg 14) := by rw [ht _ (by decide), tch_e]
    have hs : scanF (0 + 1) (2 * 14) 14 0 t nb = (-6, upd nb 14 (nI (dg 14))) := by
      rw [scanF, e, if_pos (fit_p nb h14), num_v, scanF, if_pos ⟨rfl, by omega⟩]
    show (scanF (0 + 1) (2 * 14) 14 0 t nb).1 = -6 ∧ ∀ k, k < 15 → (scanF (0 + 1) (2 * 14) 14 0 t nb).2 k = if 14 ≤ k then nI (dg k) else nb k
    rw [hs]
    refine ⟨rfl, fun k hk => ?_⟩
    show upd nb 14 (nI (dg 14)) k = _
    by_cases q : k = 14
    · rw [q, u_s, if_pos (by omega)]
    · rw [u_n q, if_neg (by omega)]
  | m + 1, f, hf, nb => by
    have e0 : t (2 * f) = nI (48 + dg f) := by rw [ht _ (by omega), tch_e]
    have e1 : t (2 * f + 1) = nI (if f = 11 ∨ f = 13 then 47 else 44) := by rw [ht _ (by omega), tch_o]
    have es : t (2 * f + 1) = sgnC f := by
      rw [e1]
      unfold sgnC
      split <;> rfl
    have hc : (if f = 11 ∨ f = 13 then 47 else 44) < 48 := by split <;> decide
    have hs : scanF (2 * (m + 1) + 1) (2 * f) f 0 t nb = scanF (2 * m + 1) (2 * (f + 1)) (f + 1) 0 t (upd nb f (nI (dg f))) := by
      show scanF (2 * m + 1 + 1 + 1) (2 * f) f 0 t nb = _
      rw [scanF, e0, if_pos (fit_d nb (by omega) (hd f (by omega))), num_v, scanF, if_neg (by rw [e1]; exact fit_s _ (by omega) hc), if_pos ⟨by omega, by omega, es⟩]
      rfl
    rw [hs]
    obtain ⟨i1, i2⟩ := scan_t ht hd h14 m (f + 1) (by omega) (upd nb f (nI (dg f)))
    refine ⟨i1, fun k hk => ?_⟩
    rw [i2 k hk]
    by_cases q : k = f
    · rw [q, if_neg (by omega), if_pos (Nat.le_refl f), u_s]
    · rw [u_n q]
      by_cases q2 : f ≤ k
      · rw [if_pos q2, if_pos (by omega)]
      · rw [if_neg q2, if_neg (by omega)]
def pY (t : Nat → Int32) (n : Nat) : YD := (Y0.all, Y0.H, Y0.slo, Y0.isv, t, Y0.nh, n)
theorem yok_p (t : Nat → Int32) {n : Nat} (hn : n ≤ 60) : YOK (pY t n) := ⟨yok0.1, yok0.2.1, hn, yok0.2.2.2⟩
theorem ch_1 {x : Nat} (h1 : 33 ≤ x) (h2 : x ≤ 126) : chF 8 x 0 = 1 := by
  show chF (7 + 1) x 0 = 1
  rw [chF, if_neg (by omega), if_neg (by omega), show x / 256 = 0 by omega]
  rfl
theorem put_1 (t : Nat → Int32) {n x : Nat} (h1 : 33 ≤ x) (h2 : x ≤ 126) (hn : n < 60) : yPut (pY t n) x = (nI (n + 1), pY (apT t n 1 x 1) (n + 1)) := by
  unfold yPut
  rw [ch_1 h1 h2, if_neg (by decide), if_neg (by show ¬ 60 < n + 1; omega)]
  rfl
theorem apT_1 (t : Nat → Int32) {n x : Nat} (hx : x ≤ 126) (j : Nat) : apT t n 1 x 1 j = if j = n then nI x else t j := by
  unfold apT
  by_cases q : j = n
  · subst q
    rw [if_pos ⟨Nat.le_refl j, Nat.lt_succ_self j⟩, if_pos rfl, show 8 * (1 - 1 - (j - j)) = 0 by omega, Nat.pow_zero, Nat.div_one, Nat.mod_eq_of_lt (by omega)]
  · rw [if_neg (by omega), if_neg q]
def TX (t : Nat → Int32) (n : Nat) (dg : Nat → Nat) : Prop := ∀ j, j < n → t j = nI (tch dg j)
/-- the pad behind a figure and a sign -/
def padT (t : Nat → Int32) (n d c : Nat) : Nat → Int32 := apT (apT t n 1 (48 + d) 1) (n + 1) 1 c 1
theorem tx_step {t : Nat → Int32} {k c : Nat} {dg : Nat → Nat} (h : TX t (2 * k) dg) (hd : dg k < 10) (hc : c = if k = 11 ∨ k = 13 then 47 else 44) : TX (padT t (2 * k) (dg k) c) (2 * k + 2) dg := by
  have hc2 : c ≤ 126 := by rw [hc]; split <;> decide
  intro j hj
  unfold padT
  rw [apT_1 _ hc2, apT_1 _ (by omega)]
  by_cases q : j = 2 * k + 1
  · rw [if_pos q, q, tch_o, hc]
  · rw [if_neg q]
    by_cases q2 : j = 2 * k
    · rw [if_pos q2, q2, tch_e]
    · rw [if_neg q2]
      exact h j (by omega)
theorem tx_last {t : Nat → Int32} {dg : Nat → Nat} (h : TX t 28 dg) (hd : dg 14 < 2) : TX (apT t 28 1 (48 + dg 14) 1) 29 dg := by
  intro j hj
  rw [apT_1 _ (by omega)]
  by_cases q : j = 28
  · rw [if_pos q, q]
    exact (congrArg nI (tch_e dg 14)).symm
  · rw [if_neg q]
    exact h j (by omega)
theorem gt_m {B C : Nat → Int32} (M : Ms B C) (e27 : C 27 = B 27) (e28 : C 28 = B 28) {k : Nat} (hk : k ≤ 300) (h28 : B 28 = nI k) (r : B 28 = 0 ∨ Rp B C) {t : Nat} (ht : t < 2) : Mp (gtM B t) (gtM C (1 - t)) := by
  have o1 := over_dec h28 hk
  have o2 := over_dec (e28.trans h28) hk
  have eo := over_m M e28
  by_cases q : decP B
  · have q2 : decP C := o2.mp (eo.mpr (o1.mpr q))
    rw [gt_y q, gt_y q2]
    refine ⟨(ends_m M).u2 (by decide) _ _ (Or.inl (by decide)), ⟨t, ht, u_s _ _ _, u_s _ _ _⟩, ?_, ?_, ?_⟩
    · rw [u_n (by decide), u_n (by decide)]
      rfl
    · rw [u_n (by decide), u_n (by decide), ends_o (by decide) (by decide) (by decide) (by decide), ends_o (by decide) (by decide) (by decide) (by decide)]
      exact e28
    · unfold Rp
      rw [u_n (by decide), u_n (by decide), u_n (by decide), u_n (by decide), u_n (by decide), ends_o (by decide) (by decide) (by decide) (by decide), ends_o (by decide) (by decide) (by decide) (by decide), ends_o (by decide) (by decide) (by decide) (by decide), ends_o (by decide) (by decide) (by decide) (by decide), ends_o (by decide) (by decide) (by decide) (by decide)]
      exact r
  · have q2 : ¬ decP C := fun z => q (o1.mp (eo.mp (o2.mpr z)))
    rw [gt_n q, gt_n q2]
    refine ⟨M.u2 (by decide) _ _ (Or.inl (by decide)), ?_, ?_, ?_, ?_⟩
    · rw [u_s, u_s]
      have es := sm_m M ht
      rw [es]
      by_cases z : sm 0 B (6 * t) 6 = 0
      · rw [if_pos z, if_pos z]
        exact ⟨1 - t, by omega, rfl, rfl⟩
      · rw [if_neg z, if_neg z]
        exact ⟨t, ht, rfl, rfl⟩
    · rw [u_n (by decide), u_n (by decide)]
      exact e27
    · rw [u_n (by decide), u_n (by decide)]
      exact e28
    · unfold Rp
      rw [u_n (by decide), u_n (by decide), u_n (by decide), u_n (by decide), u_n (by decide)]
      exact r
theorem ez_gt {P : Nat → Int32} {t : Nat} (h27 : P 27 = 0) : gtM P t 27 = 1 → ∀ j, j < 12 → gtM P t j = 0 := by
  by_cases q : decP P
  · rw [gt_y q]
    intro _ j hj
    exact ends_lo hj
  · rw [gt_n q, u_n (by decide), h27]
    intro z
    exact absurd z (by decide)
theorem rdA_m {g nb nb2 : Nat → Int32} (e : ∀ k, k < 12 → nb2 (sg k) = nb k) (e12 : nb2 12 = nb 13) (e13 : nb2 13 = nb 12) : Ms (rdA g nb) (rdA g nb2) := by
  refine ⟨fun j hj => ?_, fun j h1 h2 h3 => ?_⟩
  · rcases Nat.lt_or_ge j 12 with q | q
    · rw [mp_h q, rdA_lo _ _ (sg_lt j), rdA_lo _ _ q]
      exact e j q
    · rcases Nat.lt_or_ge j 24 with z | z
      · obtain ⟨i, rfl⟩ : ∃ i, j = 12 + i := ⟨j - 12, by omega⟩
        have := sg_lt i
        rw [mp_v (by omega), rdA_o _ _ (by omega) (by omega) (by omega) (by omega), rdA_o _ _ (by omega) (by omega) (by omega) (by omega), emp_z _ (by omega), emp_z _ (by omega)]
      · rcases (show j = 24 ∨ j = 25 by omega) with rfl | rfl
        · show rdA g nb2 25 = rdA g nb 24
          rw [rdA_25, rdA_24, e13]
        · show rdA g nb2 24 = rdA g nb 25
          rw [rdA_24, rdA_25, e12]
  · rw [rdA_o _ _ (by omega) (by omega) (by omega) (by omega), rdA_o _ _ (by omega) (by omega) (by omega) (by omega)]
theorem read_v {t : Nat → Int32} {dg : Nat → Nat} (ht : TX t 29 dg) (hd : ∀ k, k < 14 → dg k < 10) (h14 : dg 14 < 2) : ∃ nb : Nat → Int32, (∀ k, k < 15 → nb k = nI (dg k)) ∧ yRead (pY t 29) = (allM (gtM (rdA Y0.all nb) (dg 14)), (put (rdA Y0.all nb) 0 (gtM (rdA Y0.all nb) (dg 14)), recH Y0.H Y0.all Y0.nh, Y0.slo, Y0.isv, t, recN Y0.nh, 0)) := by
  obtain ⟨s1, s2⟩ := scan_t ht hd h14 14 0 rfl (fun _ => 0)
  have e : scY (pY t 29) = scanF (2 * 14 + 1) (2 * 0) 0 0 t (fun _ => 0) := rfl
  refine ⟨(scY (pY t 29)).2, fun k hk => ?_, ?_⟩
  · rw [e, s2 k hk, if_pos (Nat.zero_le k)]
  · have h26 : (scY (pY t 29)).2 14 = nI (dg 14) := by rw [e, s2 14 (by decide), if_pos (by decide)]
    have e6 : (scY (pY t 29)).1 = -6 := by rw [e]; exact s1
    have eq : rdQ (rdA (pY t 29).all (scY (pY t 29)).2) = gtM (rdA (pY t 29).all (scY (pY t 29)).2) (dg 14) := rdq_gt h14 (rdA_26t h26) (rdA_27z _ _) (rdA_28z _ _)
    unfold yRead
    rw [if_pos e6, eq]
    rfl
theorem read_m {t1 t2 : Nat → Int32} {d1 d2 : Nat → Nat} (h1 : TX t1 29 d1) (h2 : TX t2 29 d2) (hd : ∀ k, k < 14 → d1 k < 10) (h14 : d1 14 < 2) (e : ∀ k, k < 12 → d2 (sg k) = d1 k) (e12 : d2 12 = d1 13) (e13 : d2 13 = d1 12) (e14 : d2 14 = 1 - d1 14) : (yRead (pY t1 29)).1 = (yRead (pY t2 29)).1 ∧ ∃ S, GR S (yRead (pY t1 29)).2 (yRead (pY t2 29)).2 := by
  have hd2 : ∀ k, k < 14 → d2 k < 10 := by
    intro k hk
    rcases Nat.lt_or_ge k 12 with q | q
    · have := e (sg k) (sg_lt k)
      rw [sg_sg q] at this
      rw [this]
      exact hd _ (by have := sg_lt k; omega)
    · rcases (show k = 12 ∨ k = 13 by omega) with rfl | rfl
      · rw [e12]; exact hd 13 (by decide)
      · rw [e13]; exact hd 12 (by decide)
  have hy1 := yok_read (yok_p t1 (n := 29) (by decide))
  have hy2 := yok_read (yok_p t2 (n := 29) (by decide))
  obtain ⟨n1, a1, r1⟩ := read_v h1 hd h14
  obtain ⟨n2, a2, r2⟩ := read_v h2 hd2 (by omega)
  rw [r1] at hy1 ⊢
  rw [r2] at hy2 ⊢
  rw [e14] at hy2 ⊢
  have m : Ms (rdA Y0.all n1) (rdA Y0.all n2) := rdA_m (fun k hk => by rw [a1 k (by omega), a2 _ (by have := sg_lt k; omega), e k hk]) (by rw [a2 12 (by decide), a1 13 (by decide), e12]) (by rw [a2 13 (by decide), a1 12 (by decide), e13])
  have z27 : ∀ nb, rdA Y0.all nb 27 = 0 := fun nb => rdA_27z _ _
  have z28 : ∀ nb, rdA Y0.all nb 28 = 0 := fun nb => rdA_28z _ _
  have gm := gt_m m ((z27 n2).trans (z27 n1).symm) ((z28 n2).trans (z28 n1).symm) (k := 0) (by decide) (z28 n1) (Or.inl (z28 n1)) h14
  refine ⟨(all_m gm.1).2.2.symm, ?_⟩
  obtain ⟨⟨S, hI⟩, -⟩ := hy1.1
  have g : Ge S (put (rdA Y0.all n1) 0 (gtM (rdA Y0.all n1) (d1 14))) (put (rdA Y0.all n2) 0 (gtM (rdA Y0.all n2) (1 - d1 14))) := by
    refine ⟨gm.cg (fun j hj => put_r (by omega) (by omega)) (fun j hj => put_r (by omega) (by omega)), hI, ?_⟩
    intro z j hj
    rw [put_r (k := 27) (by decide) (by decide)] at z
    rw [put_r (k := j) (by omega) (by omega)]
    exact ez_gt (z27 n1) z j hj
  refine ⟨S, hy1, hy2, g, rfl, ?_, fun i h1 h2 => ?_⟩
  · show 1 ≤ recN 0
    decide
  · have h2 : i < recN 0 := h2
    have h3 : recN 0 = 1 := rfl
    omega
