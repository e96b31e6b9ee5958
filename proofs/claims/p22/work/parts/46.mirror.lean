-- the game seen by the other player: houses six on, stores and players changed about
def sg (h : Nat) : Nat := (h + 6) % 12
def mp (j : Nat) : Nat := if j < 12 then sg j else if j < 24 then 12 + sg (j - 12) else 49 - j
theorem sg_lt (h : Nat) : sg h < 12 := Nat.mod_lt _ (by decide)
theorem sg_sg {h : Nat} (hh : h < 12) : sg (sg h) = h := by unfold sg; omega
theorem mp_inj : ∀ i, i < 26 → ∀ j, j < 26 → mp i = mp j → i = j := by decide +kernel
theorem mp_lt : ∀ i, i < 26 → mp i < 26 := by decide +kernel
theorem mp_mp : ∀ i, i < 26 → mp (mp i) = i := by decide +kernel
theorem mp_h {h : Nat} (hh : h < 12) : mp h = sg h := if_pos hh
theorem mp_v {h : Nat} (hh : h < 12) : mp (12 + h) = 12 + sg h := by
  unfold mp
  rw [if_neg (by omega), if_pos (by omega), show 12 + h - 12 = h by omega]
theorem mp_s {t : Nat} (ht : t < 2) : mp (24 + t) = 25 - t := by
  unfold mp
  rw [if_neg (by omega), if_neg (by omega)]
  omega
theorem mp_a {h : Nat} (hh : h < 12) : sg (11 - h) = 11 - sg h := by unfold sg; omega
theorem own_sg {h : Nat} (hh : h < 12) : own (sg h) = 1 - own h := by unfold own sg; omega
theorem nxt_sg : ∀ fr, fr < 12 → ∀ h, h < 12 → nxt (sg fr) (sg h) = sg (nxt fr h) := by decide +kernel
def Ms (P Q : Nat → Int32) : Prop := (∀ j, j < 26 → Q (mp j) = P j) ∧ (∀ j, 30 ≤ j → j < 38 → j ≠ 31 → Q j = P j)
theorem Ms.h {P Q : Nat → Int32} (M : Ms P Q) {h : Nat} (hh : h < 12) : Q (sg h) = P h := by
  rw [← mp_h hh]
  exact M.1 h (by omega)
theorem Ms.v {P Q : Nat → Int32} (M : Ms P Q) {h : Nat} (hh : h < 12) : Q (12 + sg h) = P (12 + h) := by
  rw [← mp_v hh]
  exact M.1 _ (by omega)
theorem Ms.s {P Q : Nat → Int32} (M : Ms P Q) {t : Nat} (ht : t < 2) : Q (25 - t) = P (24 + t) := by
  rw [← mp_s ht]
  exact M.1 _ (by omega)
theorem Ms.s0 {P Q : Nat → Int32} (M : Ms P Q) : Q 25 = P 24 := M.1 24 (by decide)
theorem Ms.s1 {P Q : Nat → Int32} (M : Ms P Q) : Q 24 = P 25 := M.1 25 (by decide)
theorem Ms.u1 {P Q : Nat → Int32} (M : Ms P Q) {k : Nat} (hk : k < 26) (x : Int32) : Ms (upd P k x) (upd Q (mp k) x) := by
  refine ⟨fun j hj => ?_, fun j h1 h2 h3 => ?_⟩
  · by_cases q : j = k
    · rw [q, u_s, u_s]
    · rw [u_n q, u_n (fun z => q (mp_inj j hj k hk z))]
      exact M.1 j hj
  · have := mp_lt k hk
    rw [u_n (by omega), u_n (by omega)]
    exact M.2 j h1 h2 h3
theorem Ms.u2 {P Q : Nat → Int32} (M : Ms P Q) {k : Nat} (hk : 26 ≤ k) (x y : Int32) (hx : k < 30 ∨ k = 31 ∨ y = x) : Ms (upd P k x) (upd Q k y) := by
  refine ⟨fun j hj => ?_, fun j h1 h2 h3 => ?_⟩
  · have := mp_lt j hj
    rw [u_n (by omega), u_n (by omega)]
    exact M.1 j hj
  · by_cases q : j = k
    · rw [q, u_s, u_s]
      rcases hx with z | z | z
      · omega
      · omega
      · exact z
    · rw [u_n q, u_n q]
      exact M.2 j h1 h2 h3
theorem Ms.uh {P Q : Nat → Int32} (M : Ms P Q) {h : Nat} (hh : h < 12) (x : Int32) : Ms (upd P h x) (upd Q (sg h) x) := by
  have := M.u1 (k := h) (by omega) x
  rw [mp_h hh] at this
  exact this
theorem Ms.cg {P Q P2 Q2 : Nat → Int32} (M : Ms P Q) (h1 : ∀ j, j < 38 → P2 j = P j) (h2 : ∀ j, j < 38 → Q2 j = Q j) : Ms P2 Q2 :=
  ⟨fun j hj => by rw [h1 j (by omega), h2 _ (by have := mp_lt j hj; omega)]; exact M.1 j hj, fun j a b c => by rw [h1 j b, h2 j b]; exact M.2 j a b c⟩
theorem pay_m {P Q : Nat → Int32} (M : Ms P Q) {g pl : Nat} (hg : g < 12) (hpl : pl < 2) (hand : Int32) : Ms (payP P g pl hand) (payP Q (sg g) (1 - pl) hand) ∧ payH Q (sg g) (1 - pl) hand = payH P g pl hand := by
  have e35 := M.2 35 (by decide) (by decide) (by decide)
  have e37 := M.2 37 (by decide) (by decide) (by decide)
  have e33 := M.2 33 (by decide) (by decide) (by decide)
  have eo := own_sg hg
  have hl := own_lt hg
  have ev := M.v hg
  have es := M.s (t := 1 - pl) (by omega)
  have hcc : (own (sg g) ≠ 1 - pl ∧ Q 35 ≤ Q (12 + sg g) ∧ Q 37 < hand) ↔ (own g ≠ pl ∧ P 35 ≤ P (12 + g) ∧ P 37 < hand) := by
    rw [e35, e37, ev]
    exact and_congr (by omega) Iff.rfl
  have e0 : 25 - pl = 24 + (1 - pl) := by omega
  have e1 : 25 - (1 - pl) = mp (25 - pl) := by rw [e0, mp_s (t := 1 - pl) (by omega)]
  rw [← e0] at es
  by_cases hc : own g ≠ pl ∧ P 35 ≤ P (12 + g) ∧ P 37 < hand
  · have hd := hcc.mpr hc
    rw [payP_y hc, payP_y hd, payH_y hc, payH_y hd, e37, e33, es, e1]
    exact ⟨(M.u1 (by omega) _).u2 (by decide) _ _ (Or.inr (Or.inr rfl)), rfl⟩
  · have hd := fun z => hc (hcc.mp z)
    rw [payP_n hc, payP_n hd, payH_n hc, payH_n hd]
    exact ⟨M, rfl⟩
theorem sow_m {fr pl : Nat} (hfr : fr < 12) (hpl : pl < 2) : ∀ (n : Nat) (P Q : Nat → Int32) (h : Nat) (hand : Int32), h < 12 → Ms P Q → Ms (sowF n P h hand fr pl).1 (sowF n Q (sg h) hand (sg fr) (1 - pl)).1 ∧ (sowF n Q (sg h) hand (sg fr) (1 - pl)).2 = sg (sowF n P h hand fr pl).2
  | 0, _, _, _, _, _, M => ⟨M, rfl⟩
  | n + 1, P, Q, h, hand, hh, M => by
    by_cases h0 : 0 < hand
    · have hg := nxt_lt fr h
      obtain ⟨m1, e1⟩ := pay_m M hg hpl hand
      have m2 : Ms (putS (payP P (nxt fr h) pl hand) (nxt fr h)) (putS (payP Q (sg (nxt fr h)) (1 - pl) hand) (sg (nxt fr h))) := by
        unfold putS
        rw [m1.h hg]
        exact m1.uh hg _
      rw [sowF, if_pos h0, sowF, if_pos h0, nxt_sg fr hfr h hh, e1]
      exact sow_m hfr hpl n _ _ _ _ hg m2
    · rw [sowF_end h0, sowF_end h0]
      exact ⟨M, rfl⟩
theorem sowM_m {P Q : Nat → Int32} (M : Ms P Q) {fr pl : Nat} (hfr : fr < 12) (hpl : pl < 2) : Ms (sowM P fr pl).1 (sowM Q (sg fr) (1 - pl)).1 ∧ (sowM Q (sg fr) (1 - pl)).2 = sg (sowM P fr pl).2 := by
  unfold sowM
  rw [M.h hfr]
  exact sow_m hfr hpl _ _ _ _ _ hfr (M.uh hfr 0)
theorem Ms.a {P Q : Nat → Int32} (M : Ms P Q) {h : Nat} (hh : h < 12) : Q (11 - sg h) = P (11 - h) := by
  have e2 := M.h (h := 11 - h) (by omega)
  rw [mp_a hh] at e2
  exact e2
theorem cap_m {P Q : Nat → Int32} (M : Ms P Q) {h pl : Nat} (hh : h < 12) (hpl : pl < 2) : Ms (capM P h pl) (capM Q (sg h) (1 - pl)) := by
  have e1 := M.h hh
  have e2 := M.a hh
  have e3 := M.s hpl
  have e4 : 24 + (1 - pl) = 25 - pl := by omega
  unfold capM
  rw [e4, e1, e2, e3]
  have z1 := M.u1 (k := 24 + pl) (by omega) (P (24 + pl) + (P h + P (11 - h)))
  rw [mp_s hpl] at z1
  have z2 := z1.uh hh 0
  have z3 := z2.uh (h := 11 - h) (by omega) 0
  rw [mp_a hh] at z3
  have z4 := z3.u1 (k := 12 + (11 - h)) (by omega) 0
  rw [mp_v (h := 11 - h) (by omega), mp_a hh] at z4
  exact z4.u2 (by decide) _ _ (Or.inr (Or.inr rfl))
theorem vis_m {P Q : Nat → Int32} (M : Ms P Q) {h : Nat} (hh : h < 12) : Ms (visM P h) (visM Q (sg h)) := by
  have e1 := M.2 30 (by decide) (by decide) (by decide)
  have e2 := M.v hh
  unfold visM
  rw [e1, e2]
  have z1 := M.u2 (k := 30) (by decide) (P 30 + 1) (P 30 + 1) (Or.inr (Or.inr rfl))
  have z2 := z1.u1 (k := 12 + h) (by omega) (P (12 + h) + 1)
  rw [mp_v hh] at z2
  exact z2
theorem end_m {P Q : Nat → Int32} (M : Ms P Q) {h pl : Nat} (hh : h < 12) (hpl : pl < 2) : Ms (endM P h pl) (endM Q (sg h) (1 - pl)) := by
  have eo := own_sg hh
  have hl := own_lt hh
  have e : (¬ 1 < Q (sg h) ∧ own (sg h) = 1 - pl ∧ 0 < Q (11 - sg h)) ↔ (¬ 1 < P h ∧ own h = pl ∧ 0 < P (11 - h)) := by
    rw [M.h hh, M.a hh]
    exact and_congr Iff.rfl (and_congr (by omega) Iff.rfl)
  unfold endM
  by_cases q : ¬ 1 < P h ∧ own h = pl ∧ 0 < P (11 - h)
  · rw [if_pos q, if_pos (e.mpr q)]
    exact cap_m (vis_m M hh) hh hpl
  · rw [if_neg q, if_neg (fun z => q (e.mp z))]
    exact vis_m M hh
theorem laps_m {pl : Nat} (hpl : pl < 2) : ∀ (n : Nat) (P Q : Nat → Int32) (h : Nat), h < 12 → Ms P Q → Ms (lapsF n P h pl).1 (lapsF n Q (sg h) (1 - pl)).1 ∧ (lapsF n Q (sg h) (1 - pl)).2 = sg (lapsF n P h pl).2
  | 0, _, _, _, _, M => ⟨M, rfl⟩
  | n + 1, P, Q, h, hh, M => by
    obtain ⟨m1, e1⟩ := sowM_m M hh hpl
    have hg := sowM_lt (P := P) (pl := pl) hh
    rw [lapsF, lapsF]
    generalize sowM P h pl = A at *
    generalize sowM Q (sg h) (1 - pl) = B at *
    rw [e1]
    have c : ((1 < B.1 (sg A.2) ∧ ¬ B.1 35 ≤ B.1 (12 + sg A.2)) ∧ B.1 30 + 1 ≤ B.1 36) ↔ ((1 < A.1 A.2 ∧ ¬ A.1 35 ≤ A.1 (12 + A.2)) ∧ A.1 30 + 1 ≤ A.1 36) := by
      rw [m1.h hg, m1.v hg, m1.2 35 (by decide) (by decide) (by decide), m1.2 30 (by decide) (by decide) (by decide), m1.2 36 (by decide) (by decide) (by decide)]
    by_cases q : (1 < A.1 A.2 ∧ ¬ A.1 35 ≤ A.1 (12 + A.2)) ∧ A.1 30 + 1 ≤ A.1 36
    · rw [if_pos q, if_pos (c.mpr q)]
      exact laps_m hpl n _ _ _ hg (vis_m m1 hg)
    · rw [if_neg q, if_neg (fun z => q (c.mp z))]
      exact ⟨end_m m1 hg hpl, rfl⟩
theorem laps_lt {pl : Nat} : ∀ (n : Nat) (P : Nat → Int32) (h : Nat), h < 12 → (lapsF n P h pl).2 < 12
  | 0, _, _, hh => hh
  | n + 1, P, h, hh => by
    have hg := sowM_lt (P := P) (pl := pl) hh
    rw [lapsF]
    split
    · exact laps_lt n _ _ hg
    · exact hg
theorem clr_m {P Q : Nat → Int32} (M : Ms P Q) : Ms (clrL P) (clrL Q) := by
  refine ⟨fun j hj => ?_, fun j h1 h2 h3 => ?_⟩
  · have := mp_lt j hj
    rw [clrL_o _ (Or.inl (by omega)), clrL_o _ (Or.inl (by omega))]
    exact M.1 j hj
  · rcases Nat.lt_or_ge j 34 with q | q
    · rw [clrL_z _ (by omega) q, clrL_z _ (by omega) q]
    · rw [clrL_o _ (Or.inr q), clrL_o _ (Or.inr q)]
      exact M.2 j h1 h2 h3
theorem mvA_m {P Q : Nat → Int32} (M : Ms P Q) {fr pl : Nat} (hfr : fr < 12) (hpl : pl < 2) : Ms (mvA P fr pl).1 (mvA Q (sg fr) (1 - pl)).1 ∧ (mvA Q (sg fr) (1 - pl)).2 = sg (mvA P fr pl).2 := laps_m hpl 21 _ _ _ hfr (clr_m M)
theorem sm_m {P Q : Nat → Int32} (M : Ms P Q) {t : Nat} (ht : t < 2) : sm 0 Q (6 * (1 - t)) 6 = sm 0 P (6 * t) 6 := by
  refine sm_congr (fun j hj => ?_)
  have := M.h (h := 6 * t + j) (by omega)
  rw [← this, show sg (6 * t + j) = 6 * (1 - t) + j by unfold sg; omega]
theorem all_m {P Q : Nat → Int32} (M : Ms P Q) : sm 0 Q 0 6 = sm 0 P 6 6 ∧ sm 0 Q 6 6 = sm 0 P 0 6 ∧ allM Q = allM P := by
  have s0 : sm 0 Q 0 6 = sm 0 P 6 6 := sm_m M (t := 1) (by decide)
  have s1 : sm 0 Q 6 6 = sm 0 P 0 6 := sm_m M (t := 0) (by decide)
  refine ⟨s0, s1, ?_⟩
  rw [all_eq, all_eq, s0, s1, M.s0, M.s1, Int32.add_comm (sm 0 P 6 6), Int32.add_assoc, Int32.add_assoc, Int32.add_comm (P 25), ← Int32.add_assoc, ← Int32.add_assoc]
theorem over_m {P Q : Nat → Int32} (M : Ms P Q) (e28 : Q 28 = P 28) : overM Q ↔ overM P := by
  obtain ⟨s0, s1, s2⟩ := all_m M
  show (sm 0 Q 0 6 + sm 0 Q 6 6 = 0 ∨ Q 28 = 300 ∨ allM Q < 2 * Q 24 ∨ allM Q < 2 * Q 25) ↔ (sm 0 P 0 6 + sm 0 P 6 6 = 0 ∨ P 28 = 300 ∨ allM P < 2 * P 24 ∨ allM P < 2 * P 25)
  rw [s0, s1, s2, e28, M.s0, M.s1, Int32.add_comm (sm 0 P 6 6)]
  exact or_congr Iff.rfl (or_congr Iff.rfl or_comm)
theorem ends_h {P : Nat → Int32} {j : Nat} (hj : j < 12) : endsM P j = 0 := if_pos hj
theorem ends_24 (P : Nat → Int32) : endsM P 24 = P 24 + sm 0 P 0 6 := sm_z _ _ _ _
theorem ends_25 (P : Nat → Int32) : endsM P 25 = P 25 + sm 0 P 6 6 := sm_z _ _ _ _
theorem ends_o {P : Nat → Int32} {j : Nat} (h1 : 12 ≤ j) (h2 : j ≠ 24) (h3 : j ≠ 25) (h4 : j ≠ 27) : endsM P j = P j := by
  unfold endsM
  rw [if_neg (by omega), if_neg h2, if_neg h3, if_neg h4]
theorem ends_m {P Q : Nat → Int32} (M : Ms P Q) : Ms (endsM P) (endsM Q) := by
  obtain ⟨s0, s1, -⟩ := all_m M
  refine ⟨fun j hj => ?_, fun j h1 h2 h3 => ?_⟩
  · rcases Nat.lt_or_ge j 12 with q | q
    · rw [mp_h q, ends_h (sg_lt j), ends_h q]
    · rcases Nat.lt_or_ge j 24 with z | z
      · obtain ⟨i, rfl⟩ : ∃ i, j = 12 + i := ⟨j - 12, by omega⟩
        have := sg_lt i
        rw [mp_v (by omega), ends_o (by omega) (by omega) (by omega) (by omega), ends_o (by omega) (by omega) (by omega) (by omega)]
        exact M.v (by omega)
      · rcases (show j = 24 ∨ j = 25 by omega) with rfl | rfl
        · show endsM Q 25 = endsM P 24
          rw [ends_25, ends_24, M.s0, s1]
        · show endsM Q 24 = endsM P 25
          rw [ends_24, ends_25, M.s1, s0]
  · rw [ends_o (by omega) (by omega) (by omega) (by omega), ends_o (by omega) (by omega) (by omega) (by omega)]
    exact M.2 j h1 h2 h3
def Rp (P Q : Nat → Int32) : Prop := ∃ a b, a < 12 ∧ b < 12 ∧ P 29 = nI a ∧ Q 29 = nI (sg a) ∧ P 31 = nI b ∧ Q 31 = nI (sg b)
def Mp (P Q : Nat → Int32) : Prop := Ms P Q ∧ (∃ k, k < 2 ∧ P 26 = nI k ∧ Q 26 = nI (1 - k)) ∧ Q 27 = P 27 ∧ Q 28 = P 28 ∧ (P 28 = 0 ∨ Rp P Q)
theorem Mp.cg {P Q P2 Q2 : Nat → Int32} (M : Mp P Q) (h1 : ∀ j, j < 38 → P2 j = P j) (h2 : ∀ j, j < 38 → Q2 j = Q j) : Mp P2 Q2 := by
  obtain ⟨m, ⟨k, hk, a1, a2⟩, e27, e28, r⟩ := M
  refine ⟨m.cg h1 h2, ⟨k, hk, by rw [h1 26 (by decide)]; exact a1, by rw [h2 26 (by decide)]; exact a2⟩, by rw [h1 27 (by decide), h2 27 (by decide)]; exact e27, by rw [h1 28 (by decide), h2 28 (by decide)]; exact e28, ?_⟩
  rw [h1 28 (by decide)]
  unfold Rp
  rw [h1 29 (by decide), h1 31 (by decide), h2 29 (by decide), h2 31 (by decide)]
  exact r
theorem fin_m {B C : Nat → Int32} (M : Ms B C) (e28 : C 28 = B 28) (r : B 28 = 0 ∨ Rp B C) {pl : Nat} (hpl : pl < 2) : Mp (finM B pl) (finM C (1 - pl)) := by
  have eo := over_m M e28
  by_cases q : overM B
  · have f1 : finM B pl = upd (endsM B) 26 (nI (1 - pl)) := if_pos q
    have f2 : finM C (1 - pl) = upd (endsM C) 26 (nI (1 - (1 - pl))) := if_pos (eo.mpr q)
    rw [f1, f2]
    refine ⟨(ends_m M).u2 (by decide) _ _ (Or.inl (by decide)), ⟨1 - pl, by omega, u_s _ _ _, u_s _ _ _⟩, ?_, ?_, ?_⟩
    · rw [u_n (by decide), u_n (by decide)]
      rfl
    · rw [u_n (by decide), u_n (by decide), ends_o (by decide) (by decide) (by decide) (by decide), ends_o (by decide) (by decide) (by decide) (by decide)]
      exact e28
    · unfold Rp
      rw [u_n (by decide), u_n (by decide), u_n (by decide), u_n (by decide), u_n (by decide), ends_o (by decide) (by decide) (by decide) (by decide), ends_o (by decide) (by decide) (by decide) (by decide), ends_o (by decide) (by decide) (by decide) (by decide), ends_o (by decide) (by decide) (by decide) (by decide), ends_o (by decide) (by decide) (by decide) (by decide)]
      exact r
  · have f1 : finM B pl = upd (upd B 27 0) 26 (turnM B pl) := if_neg q
    have f2 : finM C (1 - pl) = upd (upd C 27 0) 26 (turnM C (1 - pl)) := if_neg (fun z => q (eo.mp z))
    rw [f1, f2]
    refine ⟨(M.u2 (by decide) _ _ (Or.inl (by decide))).u2 (by decide) _ _ (Or.inl (by decide)), ?_, ?_, ?_, ?_⟩
    · rw [u_s, u_s]
      have es := sm_m M (t := 1 - pl) (by omega)
      unfold turnM
      rw [es]
      by_cases z : 0 < sm 0 B (6 * (1 - pl)) 6
      · rw [if_pos z, if_pos z]
        exact ⟨1 - pl, by omega, rfl, rfl⟩
      · rw [if_neg z, if_neg z]
        exact ⟨pl, hpl, rfl, rfl⟩
    · rw [u_n (by decide), u_s, u_n (by decide), u_s]
    · rw [u_n (by decide), u_n (by decide), u_n (by decide), u_n (by decide)]
      exact e28
    · unfold Rp
      rw [u_n (by decide), u_n (by decide), u_n (by decide), u_n (by decide), u_n (by decide), u_n (by decide), u_n (by decide), u_n (by decide), u_n (by decide), u_n (by decide)]
      exact r
theorem mv_m {P Q : Nat → Int32} (M : Mp P Q) {h : Nat} (hh : h < 12) : Mp (mvM P h) (mvM Q (sg h)) := by
  obtain ⟨m, ⟨k, hk, k1, k2⟩, e27, e28, -⟩ := M
  obtain ⟨m1, e1⟩ := mvA_m m hh hk
  have hl : (mvA P h k).2 < 12 := laps_lt 21 _ _ hh
  have h28 : (mvA Q (sg h) (1 - k)).1 28 = (mvA P h k).1 28 := by
    rw [mvA_o P hk hh (by decide) (Or.inl (by decide)), mvA_o Q (pl := 1 - k) (by omega) (sg_lt h) (by decide) (Or.inl (by decide))]
    exact e28
  unfold mvM
  rw [k1, k2, nI_clamp (by omega), nI_clamp (by omega)]
  refine fin_m (((m1.u2 (by decide) _ _ (Or.inl (by decide))).u2 (by decide) _ _ (Or.inr (Or.inl rfl))).u2 (by decide) _ _ (Or.inl (by decide))) ?_ ?_ hk
  · show upd _ 28 _ 28 = upd _ 28 _ 28
    rw [u_s, u_s, h28]
  · refine Or.inr ⟨h, (mvA P h k).2, hh, hl, ?_, ?_, ?_, ?_⟩
    · rw [u_n (by decide), u_n (by decide), u_s]
    · rw [u_n (by decide), u_n (by decide), u_s]
    · rw [u_n (by decide), u_s]
    · rw [u_n (by decide), u_s, e1]
theorem leg_m {P Q : Nat → Int32} (M : Mp P Q) {h : Nat} (hh : h < 12) : legM Q (sg h) ↔ legM P h := by
  obtain ⟨m, ⟨k, hk, k1, k2⟩, e27, -⟩ := M
  have hl := own_lt hh
  have e3 : (nI (1 - own h) = nI (1 - k)) ↔ (nI (own h) = nI k) := by
    rw [nI_eq (by omega) (by omega), nI_eq (by omega) (by omega)]
    omega
  show (Q 27 = 0 ∧ nI (own (sg h)) = Q 26 ∧ 0 < Q (sg h)) ↔ (P 27 = 0 ∧ nI (own h) = P 26 ∧ 0 < P h)
  rw [e27, m.h hh, k1, k2, own_sg hh, e3]
