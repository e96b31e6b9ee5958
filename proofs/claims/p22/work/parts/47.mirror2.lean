-- looking ahead, the calls: the same for the other player
theorem scan_skip {P v : Nat → Int32} {a : Nat} : ∀ n, (∀ i, a ≤ i → i < a + n → ¬ legM P i) → scanM P v (a + n) = scanM P v a
  | 0, _ => rfl
  | n + 1, h => by
    rw [← Nat.add_assoc, scan_no (h (a + n) (by omega) (by omega))]
    exact scan_skip n (fun i p q => h i p (by omega))
theorem scan_sh {P Q v w : Nat → Int32} {a b : Nat} {f : Nat → Nat} (h0 : scanM P v a = none) (h1 : scanM Q w b = none) (hl : ∀ i, i < 6 → (legM Q (b + i) ↔ legM P (a + i))) (hv : ∀ i, i < 6 → legM P (a + i) → w (b + i) = v (a + i)) (hf : ∀ i, i < 6 → f (a + i) = b + i) : ∀ n, n ≤ 6 → scanM Q w (b + n) = (scanM P v (a + n)).map (fun q => (f q.1, q.2))
  | 0, _ => by
    show scanM Q w b = (scanM P v a).map (fun q => (f q.1, q.2))
    rw [h0, h1]
    rfl
  | n + 1, hn => by
    have ih := scan_sh h0 h1 hl hv hf n (by omega)
    have lq := hl n (by omega)
    have vq := hv n (by omega)
    have fq := hf n (by omega)
    show scanM Q w (b + n + 1) = (scanM P v (a + n + 1)).map (fun q => (f q.1, q.2))
    cases hs : scanM P v (a + n) with
    | none =>
      have ih2 : scanM Q w (b + n) = none := by rw [ih, hs]; rfl
      by_cases l : legM P (a + n)
      · have eP : scanM P v (a + n + 1) = some (a + n, v (a + n)) := by rw [scanM, hs]; exact if_pos l
        have eQ : scanM Q w (b + n + 1) = some (b + n, w (b + n)) := by rw [scanM, ih2]; exact if_pos (lq.mpr l)
        rw [eP, eQ, vq l, ← fq]
        rfl
      · rw [scan_no l, scan_no (fun z => l (lq.mp z)), hs, ih2]
        rfl
    | some q =>
      have ih2 : scanM Q w (b + n) = some (f q.1, q.2) := by rw [ih, hs]; rfl
      by_cases l : legM P (a + n) ∧ q.2 < v (a + n)
      · have eP : scanM P v (a + n + 1) = some (a + n, v (a + n)) := by rw [scanM, hs]; exact if_pos l
        have eQ : scanM Q w (b + n + 1) = some (b + n, w (b + n)) := by
          rw [scanM, ih2]
          exact if_pos ⟨lq.mpr l.1, by rw [vq l.1]; exact l.2⟩
        rw [eP, eQ, vq l.1, ← fq]
        rfl
      · have eP : scanM P v (a + n + 1) = some q := by rw [scanM, hs]; exact if_neg l
        have eQ : scanM Q w (b + n + 1) = some (f q.1, q.2) := by
          rw [scanM, ih2]
          refine if_neg (fun z => l ⟨lq.mp z.1, ?_⟩)
          have z2 := z.2
          rw [vq (lq.mp z.1)] at z2
          exact z2
        rw [eP, eQ]
        rfl
theorem scan_m {P Q v w : Nat → Int32} (M : Mp P Q) (hv : ∀ h, h < 12 → legM P h → w (sg h) = v h) : scanM Q w 12 = (scanM P v 12).map (fun q => (sg q.1, q.2)) := by
  obtain ⟨k, hk, k1, k2⟩ := M.2.1
  have nl : ∀ i, i < 12 → own i ≠ k → ¬ legM P i := fun i hi h z => h (by have hz := z.2.1; rw [k1] at hz; have := own_lt hi; exact n_eq hz (by omega) (by omega))
  have nq : ∀ i, i < 12 → own i = k → ¬ legM Q i := fun i hi h z => by
    have hz := z.2.1
    rw [k2] at hz
    have h1 := own_lt hi
    have h2 := n_eq hz (by omega) (by omega)
    omega
  rcases (show k = 0 ∨ k = 1 by omega) with rfl | rfl
  · have q6 : scanM Q w 6 = none := scan_skip (P := Q) (v := w) (a := 0) 6 (fun i _ hi => nq i (by omega) (by unfold own; omega))
    have r := scan_sh (P := P) (Q := Q) (v := v) (w := w) (a := 0) (b := 6) (f := sg) rfl q6 (fun i hi => by have := leg_m M (h := 0 + i) (by omega); rw [show sg (0 + i) = 6 + i by unfold sg; omega] at this; exact this) (fun i hi l => by have := hv (0 + i) (by omega) l; rw [show sg (0 + i) = 6 + i by unfold sg; omega] at this; exact this) (fun i hi => by unfold sg; omega) 6 (Nat.le_refl 6)
    have p12 : scanM P v 12 = scanM P v 6 := scan_skip (P := P) (v := v) (a := 6) 6 (fun i h1 h2 => nl i (by omega) (by unfold own; omega))
    rw [p12]
    exact r
  · have p6 : scanM P v 6 = none := scan_skip (P := P) (v := v) (a := 0) 6 (fun i _ hi => nl i (by omega) (by unfold own; omega))
    have r := scan_sh (P := P) (Q := Q) (v := v) (w := w) (a := 6) (b := 0) (f := sg) p6 rfl (fun i hi => by have := leg_m M (h := 6 + i) (by omega); rw [show sg (6 + i) = 0 + i by unfold sg; omega] at this; exact this) (fun i hi l => by have := hv (6 + i) (by omega) l; rw [show sg (6 + i) = 0 + i by unfold sg; omega] at this; exact this) (fun i hi => by unfold sg; omega) 6 (Nat.le_refl 6)
    have q12 : scanM Q w 12 = scanM Q w 6 := scan_skip (P := Q) (v := w) (a := 6) 6 (fun i h1 h2 => nq i (by omega) (by unfold own; omega))
    rw [q12]
    exact r
theorem lead_m {P Q : Nat → Int32} (M : Mp P Q) : leadM Q = leadM P := by
  obtain ⟨m, ⟨k, hk, k1, k2⟩, -⟩ := M
  unfold leadM
  rw [k1, k2, nI_clamp (by omega), nI_clamp (by omega)]
  have a1 := m.s hk
  have a2 := m.s (t := 1 - k) (by omega)
  rw [show 24 + (1 - k) = 25 - k by omega, show 24 + (1 - (1 - k)) = 25 - (1 - k) by omega, a1, a2, show 24 + (1 - k) = 25 - k by omega]
theorem vbm_c {P Q : Nat → Int32} (M : Mp P Q) {h : Nat} (hh : h < 12) {d : Nat} (ih : valM d (mvM Q (sg h)) = valM d (mvM P h)) : vbM d Q (sg h) = vbM d P h := by
  obtain ⟨k, hk, k1, k2⟩ := M.2.1
  obtain ⟨k', hk', k1', k2'⟩ := (mv_m M hh).2.1
  have c : (mvM Q (sg h) 26 = Q 26) ↔ (mvM P h 26 = P 26) := by
    rw [k1, k2, k1', k2', nI_eq (by omega) (by omega), nI_eq (by omega) (by omega)]
    omega
  unfold vbM
  rw [ih]
  by_cases q : mvM P h 26 = P 26
  · rw [if_pos q, if_pos (c.mpr q)]
  · rw [if_neg q, if_neg (fun z => q (c.mp z))]
theorem val_m : ∀ (d : Nat) (P Q : Nat → Int32), Mp P Q → valM d Q = valM d P
  | 0, _, _, M => lead_m M
  | d + 1, P, Q, M => by
    rw [valM_s, valM_s, M.2.2.1]
    by_cases h27 : P 27 = 0
    · rw [if_pos h27, if_pos h27, scan_m M (v := vbM d P) (w := vbM d Q) (fun h hh _ => vbm_c M hh (val_m d _ _ (mv_m M hh)))]
      cases scanM P (vbM d P) 12 <;> rfl
    · rw [if_neg h27, if_neg h27]
      exact lead_m M
theorem bh_m {P Q : Nat → Int32} (M : Mp P Q) : ∀ d, (bhM d P = -6 ∧ bhM d Q = -6) ∨ ∃ h, h < 12 ∧ bhM d P = nI h ∧ bhM d Q = nI (sg h)
  | 0 => Or.inl ⟨rfl, rfl⟩
  | d + 1 => by
    rw [bhM, bhM, M.2.2.1]
    by_cases h27 : P 27 = 0
    · rw [if_pos h27, if_pos h27, scan_m M (v := vbM d P) (w := vbM d Q) (fun h hh _ => vbm_c M hh (val_m d _ _ (mv_m M hh)))]
      cases hs : scanM P (vbM d P) 12 with
      | none => exact Or.inl ⟨rfl, rfl⟩
      | some q => exact Or.inr ⟨q.1, scan_b0 12 q hs, rfl, rfl⟩
    · rw [if_neg h27, if_neg h27]
      exact Or.inl ⟨rfl, rfl⟩
theorem hos_sm (g : Nat → Int32) : ∀ k, hosM g k = sm 0 (fun j => if g 35 ≤ g (12 + j) then 1 else 0) 0 k
  | 0 => rfl
  | k + 1 => by rw [hosM, sm, hos_sm g k, Nat.zero_add]
theorem sm_12 (f : Nat → Int32) : sm 0 f 0 12 = sm 0 f 0 6 + sm 0 f 6 6 := (sm_add 0 f 0 6 6).trans (sm_z (sm 0 f 0 6) f (0 + 6) 6)
theorem hos_m {P Q : Nat → Int32} (M : Ms P Q) : hosM Q 12 = hosM P 12 := by
  have e35 := M.2 35 (by decide) (by decide) (by decide)
  have e1 : sm 0 (fun j => if Q 35 ≤ Q (12 + j) then 1 else 0) 0 6 = sm 0 (fun j => if P 35 ≤ P (12 + j) then 1 else 0) 6 6 := by
    refine sm_congr (fun j hj => ?_)
    have h := M.v (h := 6 + j) (by omega)
    rw [show sg (6 + j) = 0 + j by unfold sg; omega] at h
    show (if Q 35 ≤ Q (12 + (0 + j)) then (1 : Int32) else 0) = if P 35 ≤ P (12 + (6 + j)) then 1 else 0
    rw [e35, h]
  have e2 : sm 0 (fun j => if Q 35 ≤ Q (12 + j) then 1 else 0) 6 6 = sm 0 (fun j => if P 35 ≤ P (12 + j) then 1 else 0) 0 6 := by
    refine sm_congr (fun j hj => ?_)
    have h := M.v (h := 0 + j) (by omega)
    rw [show sg (0 + j) = 6 + j by unfold sg; omega] at h
    show (if Q 35 ≤ Q (12 + (6 + j)) then (1 : Int32) else 0) = if P 35 ≤ P (12 + (0 + j)) then 1 else 0
    rw [e35, h]
  rw [hos_sm, hos_sm, sm_12, sm_12, e1, e2, Int32.add_comm]
def otI (x : Int32) : Int32 := if rng 0 11 x then nI (sg x.toNatClampNeg) else x
theorem otI_n {h : Nat} (hh : h < 12) : otI (nI h) = nI (sg h) := by
  unfold otI
  rw [if_pos (by show (0 : Int) ≤ _ ∧ _; rw [nI_toInt (by omega)]; omega), nI_clamp (by omega)]
theorem otI_6 : otI (-6) = -6 := if_neg (by decide)
theorem otI_5 : otI (-5) = -5 := if_neg (by decide)
theorem otI_2 : otI (-2) = -2 := if_neg (by decide)
def tuI (x : Int32) : Int32 := if x = 0 ∨ x = 1 then 1 - x else x
def Ge (S : Int) (P Q : Nat → Int32) : Prop := Mp P Q ∧ Iv S P ∧ (P 27 = 1 → ∀ j, j < 12 → P j = 0)
theorem Ge.cg {S : Int} {P Q P2 Q2 : Nat → Int32} (M : Ge S P Q) (h1 : ∀ j, j < 38 → P2 j = P j) (h2 : ∀ j, j < 38 → Q2 j = Q j) : Ge S P2 Q2 :=
  ⟨M.1.cg h1 h2, iv_cg M.2.1 h1, fun z j hj => by rw [h1 27 (by decide)] at z; rw [h1 j (by omega)]; exact M.2.2 z j hj⟩
theorem ez_fin (B : Nat → Int32) (pl : Nat) : finM B pl 27 = 1 → ∀ j, j < 12 → finM B pl j = 0 := by
  by_cases q : overM B
  · have f1 : finM B pl = upd (endsM B) 26 (nI (1 - pl)) := if_pos q
    rw [f1]
    intro _ j hj
    rw [u_n (by omega)]
    exact ends_h hj
  · have f1 : finM B pl = upd (upd B 27 0) 26 (turnM B pl) := if_neg q
    rw [f1, u_n (by decide), u_s]
    intro z
    exact absurd z (by decide)
theorem ge_mv {S : Int} {P Q : Nat → Int32} (G : Ge S P Q) {h : Nat} (hh : h < 12) (hl : legM P h) : Ge S (mvM P h) (mvM Q (sg h)) := ⟨mv_m G.1 hh, (G.2.1.mv hh hl).1, ez_fin _ _⟩
theorem ge_mk {S : Int} {P Q : Nat → Int32} (G : Ge S P Q) {h : Nat} (hh : h < 12) (hl : legM P h) (mk mk2 : Nat) : Ge S (mkM P mk h) (mkM Q mk2 (sg h)) := (ge_mv G hh hl).cg (fun j hj => (mkM_p (by omega)).symm) (fun j hj => (mkM_p (by omega)).symm)
theorem Ge.c27 {S : Int} {P Q : Nat → Int32} (G : Ge S P Q) : P 27 = 0 ∨ P 27 = 1 := G.2.1.2.2.1
theorem ge_bh {S : Int} {P Q : Nat → Int32} (G : Ge S P Q) {d : Nat} (hd : 0 < d) (h27 : P 27 = 0) : ∃ h, h < 12 ∧ legM P h ∧ bhM d P = nI h ∧ bhM d Q = nI (sg h) := by
  obtain ⟨h, hh, hl, e⟩ := bh_hou G.2.1 hd h27
  rcases bh_m G.1 d with ⟨z, -⟩ | ⟨h2, hh2, z1, z2⟩
  · rw [e] at z
    exact absurd z (ni_6 (by omega))
  · rw [e] at z1
    have := n_eq z1 (by omega) (by omega)
    subst this
    exact ⟨h, hh, hl, e, z2⟩
def GR (S : Int) (Y Z : YD) : Prop := YOK Y ∧ YOK Z ∧ Ge S Y.all Z.all ∧ Z.nh = Y.nh ∧ 1 ≤ Y.nh ∧ ∀ i, 1 ≤ i → i < Y.nh → Ge S (fun j => Y.H (340 * i + j)) (fun j => Z.H (340 * i + j))
theorem gr_recd {S : Int} {Y Z : YD} {X X2 : Nat → Int32} (G : GR S Y Z) (hy : YOK (X, (recd Y).2)) (hz : YOK (X2, (recd Z).2)) (g : Ge S X X2) : GR S (X, (recd Y).2) (X2, (recd Z).2) := by
  obtain ⟨-, -, g0, en, e1, gh⟩ := G
  refine ⟨hy, hz, g, ?_, ?_, fun i h1 h2 => ?_⟩
  · show recN Z.nh = recN Y.nh
    rw [en]
  · show 1 ≤ recN Y.nh
    unfold recN
    split <;> omega
  · have hn := hy.2.1
    have h2 : i < recN Y.nh := h2
    show Ge S (fun j => recH Y.H Y.all Y.nh (340 * i + j)) (fun j => recH Z.H Z.all Z.nh (340 * i + j))
    rw [en]
    unfold recN at h2
    by_cases q : Y.nh = 6
    · rw [if_pos q] at h2
      by_cases q5 : i = 5
      · refine g0.cg (fun j hj => ?_) (fun j hj => ?_)
        · show recH Y.H Y.all Y.nh (340 * i + j) = Y.all j
          unfold recH
          rw [if_pos q, if_neg (by omega), q5, show 340 * 5 + j - 1700 = j by omega]
        · show recH Z.H Z.all Y.nh (340 * i + j) = Z.all j
          unfold recH
          rw [if_pos q, if_neg (by omega), q5, show 340 * 5 + j - 1700 = j by omega]
      · refine (gh (i + 1) (by omega) (by omega)).cg (fun j hj => ?_) (fun j hj => ?_)
        · show recH Y.H Y.all Y.nh (340 * i + j) = Y.H (340 * (i + 1) + j)
          unfold recH
          rw [if_pos q, if_pos (by omega), show 340 * i + j + 340 = 340 * (i + 1) + j by omega]
        · show recH Z.H Z.all Y.nh (340 * i + j) = Z.H (340 * (i + 1) + j)
          unfold recH
          rw [if_pos q, if_pos (by omega), show 340 * i + j + 340 = 340 * (i + 1) + j by omega]
    · rw [if_neg q] at h2
      by_cases qn : i = Y.nh
      · refine g0.cg (fun j hj => ?_) (fun j hj => ?_)
        · show recH Y.H Y.all Y.nh (340 * i + j) = Y.all j
          unfold recH
          rw [if_neg q, if_pos (by omega), qn, show 340 * Y.nh + j - 340 * Y.nh = j by omega]
        · show recH Z.H Z.all Y.nh (340 * i + j) = Z.all j
          unfold recH
          rw [if_neg q, if_pos (by omega), qn, show 340 * Y.nh + j - 340 * Y.nh = j by omega]
      · refine (gh i h1 (by omega)).cg (fun j hj => ?_) (fun j hj => ?_)
        · show recH Y.H Y.all Y.nh (340 * i + j) = Y.H (340 * i + j)
          unfold recH
          rw [if_neg q, if_neg (by omega)]
        · show recH Z.H Z.all Y.nh (340 * i + j) = Z.H (340 * i + j)
          unfold recH
          rw [if_neg q, if_neg (by omega)]
theorem gr_set {S : Int} {Y Z : YD} (G : GR S Y Z) (t v : Int32) : (ySet Z t v).1 = (ySet Y t v).1 ∧ GR S (ySet Y t v).2 (ySet Z t v).2 := by
  have hy := yok_set G.1 t v
  have hz := yok_set G.2.1 t v
  unfold ySet at *
  by_cases q : isSet t v
  · rw [if_pos q] at hy hz ⊢
    rw [if_pos q]
    obtain ⟨r1, r2⟩ := set_r q
    have e := i_nat t r1
    have ht : t.toNatClampNeg < 4 := by omega
    generalize t.toNatClampNeg = k at *
    have g := G.2.2.1
    obtain ⟨⟨m, ⟨pl, hp, a1, a2⟩, e27, e28, rp⟩, hI, hez⟩ := g
    refine ⟨m.2 _ (by omega) (by omega) (by omega), gr_recd G hy hz ⟨⟨m.u2 (by omega) _ _ (Or.inr (Or.inr rfl)), ⟨pl, hp, by rw [u_n (by omega)]; exact a1, by rw [u_n (by omega)]; exact a2⟩, by rw [u_n (by omega), u_n (by omega)]; exact e27, by rw [u_n (by omega), u_n (by omega)]; exact e28, ?_⟩, ?_, ?_⟩⟩
    · unfold Rp at rp ⊢
      rw [u_n (by omega), u_n (by omega), u_n (by omega), u_n (by omega), u_n (by omega)]
      exact rp
    · obtain ⟨⟨S2, hI2⟩, -⟩ := hy.1
      exact iv_set hI (fun j hj => u_n (by omega)) hI2.2.2.2.2.1 hI2.2.2.2.2.2.1
    · rw [u_n (by omega)]
      intro z j hj
      rw [u_n (by omega)]
      exact hez z j hj
  · rw [if_neg q] at hy hz ⊢
    rw [if_neg q]
    exact ⟨rfl, G⟩
theorem gr_play {S : Int} {Y Z : YD} (G : GR S Y Z) {d : Nat} (h1 : 1 ≤ d) (h2 : d ≤ 4) : (yPlay Z (nI d)).1 = otI (yPlay Y (nI d)).1 ∧ GR S (yPlay Y (nI d)).2 (yPlay Z (nI d)).2 := by
  have hy := yok_play G.1 (nI d)
  have hz := yok_play G.2.1 (nI d)
  have hr : rng 1 4 (nI d) := by
    show (1 : Int) ≤ _ ∧ _
    rw [nI_toInt (by omega)]
    omega
  unfold yPlay at *
  rw [if_pos hr] at hy hz ⊢
  rw [if_pos hr]
  have g := G.2.2.1
  have e27 := g.1.2.2.1
  by_cases q : Y.all 27 = 1
  · rw [if_pos q] at hy ⊢
    rw [if_pos (e27.trans q)] at hz ⊢
    exact ⟨otI_5.symm, G⟩
  · have q0 : Y.all 27 = 0 := g.c27.elim id (fun z => absurd z q)
    have qz : ¬ Z.all 27 = 1 := fun z => q (e27.symm.trans z)
    rw [if_neg q] at hy ⊢
    rw [if_neg qz] at hz ⊢
    rw [nI_clamp (by omega)] at hy hz ⊢
    obtain ⟨h, hh, hl, b1, b2⟩ := ge_bh g (d := d) (by omega) q0
    have hs := sg_lt h
    rw [b1, nI_clamp (by omega)] at hy ⊢
    rw [b2, nI_clamp (by omega)] at hz ⊢
    exact ⟨(otI_n hh).symm, gr_recd G hy hz (ge_mk g hh hl _ _)⟩
theorem gr_move {S : Int} {Y Z : YD} (G : GR S Y Z) {h : Nat} (hh : h < 12) : (yMove Z (nI (sg h))).1 = (yMove Y (nI h)).1 ∧ GR S (yMove Y (nI h)).2 (yMove Z (nI (sg h))).2 := by
  have hy := yok_move G.1 (nI h)
  have hz := yok_move G.2.1 (nI (sg h))
  have hs := sg_lt h
  have hr : rng 0 11 (nI h) := by
    show (0 : Int) ≤ _ ∧ _
    rw [nI_toInt (by omega)]
    omega
  have hr2 : rng 0 11 (nI (sg h)) := by
    show (0 : Int) ≤ _ ∧ _
    rw [nI_toInt (by omega)]
    omega
  unfold yMove at *
  rw [if_pos hr, nI_clamp (by omega)] at hy ⊢
  rw [if_pos hr2, nI_clamp (by omega)] at hz ⊢
  have g := G.2.2.1
  have lm := leg_m g.1 hh
  by_cases q : legM Y.all h
  · rw [if_pos q] at hy ⊢
    rw [if_pos (lm.mpr q)] at hz ⊢
    have gk := ge_mk g hh q (Y.all 28).toNatClampNeg (Z.all 28).toNatClampNeg
    have e30 := gk.1.1.2 30 (by decide) (by decide) (by decide)
    generalize mkM Y.all (Y.all 28).toNatClampNeg h = X1 at *
    generalize mkM Z.all (Z.all 28).toNatClampNeg (sg h) = X2 at *
    exact ⟨e30, gr_recd G hy hz gk⟩
  · rw [if_neg q] at hy ⊢
    rw [if_neg (fun z => q (lm.mp z))] at hz ⊢
    exact ⟨rfl, G⟩
theorem gr_undo {S : Int} {Y Z : YD} (G : GR S Y Z) (h2 : 2 ≤ Y.nh) : (yUndo Z).1 = (yUndo Y).1 ∧ GR S (yUndo Y).2 (yUndo Z).2 := by
  have hy := yok_undo G.1
  have hz := yok_undo G.2.1
  obtain ⟨-, -, g0, en, e1, gh⟩ := G
  unfold yUndo at *
  rw [if_neg (by omega)] at hy hz ⊢
  rw [if_neg (by omega)]
  refine ⟨by rw [en], hy, hz, ?_, ?_, ?_, fun i a b => ?_⟩
  · show Ge S (fun j => Y.H (340 * (Y.nh - 1) + j)) (fun j => Z.H (340 * (Z.nh - 1) + j))
    rw [en]
    exact gh _ (by omega) (by omega)
  · show Z.nh - 1 = Y.nh - 1
    rw [en]
  · show 1 ≤ Y.nh - 1
    omega
  · have b : i < Y.nh - 1 := b
    exact gh i a (by omega)
