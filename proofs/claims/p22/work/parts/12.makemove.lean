-- Position: a whole move
theorem all_eq (P : Nat → Int32) : allM P = sm 0 P 0 6 + sm 0 P 6 6 + P 24 + P 25 := by
  unfold allM
  rw [sm_z, sm_add 0 P 0 6 6, sm_z (sm 0 P 0 6), Int32.add_comm, ← Int32.add_assoc]
theorem over_dec {P : Nat → Int32} {k : Nat} (h28 : P 28 = nI k) (hk : k ≤ 300) : overM P ↔ decP P := by
  have h3 : P 28 = 300 ↔ 300 ≤ P 28 := by
    rw [h28]
    constructor
    · intro h; rw [h]; exact Int32.le_refl _
    · intro h
      have h2 : 300 ≤ k := n_le (a := 300) h (by decide) (by omega)
      rw [show k = 300 by omega]; rfl
  unfold overM decP decC
  rw [all_eq, h3]
theorem fin_gt {S : Int} {B : Nat → Int32} {pl k : Nat} (hJ : Jv S B 0) (hpl : pl < 2) (h28 : B 28 = nI k) (hk : k ≤ 300) (h27 : B 27 = 0) : finM B pl = gtM B (1 - pl) := by
  unfold finM
  by_cases hd : decP B
  · rw [if_pos ((over_dec h28 hk).mpr hd), gt_y hd]
  · rw [if_neg (fun q => hd ((over_dec h28 hk).mp q)), gt_n hd]
    have hs : (sm 0 B (6 * (1 - pl)) 6).toInt = si B (6 * (1 - pl)) 6 ∧ 0 ≤ si B (6 * (1 - pl)) 6 := by
      have n1 := si_nn (P := B) (b := 0) (n := 6) (fun j _ b => hJ.1 j (by omega))
      have n2 := si_nn (P := B) (b := 6) (n := 6) (fun j _ b => hJ.1 j (by omega))
      have sp := si_split B 0 6 6
      obtain ⟨a1, a2, a3, a4, a5, a6⟩ := hJ
      rw [show 6 + 6 = 12 from rfl, show 0 + 6 = 6 from rfl] at sp
      rcases (show pl = 0 ∨ pl = 1 by omega) with rfl | rfl
      · exact ⟨sm_si (fun j _ b => a1 j (by omega)) (by show si B 6 6 ≤ 2000; omega), n2⟩
      · exact ⟨sm_si (fun j _ b => a1 j (by omega)) (by show si B 0 6 ≤ 2000; omega), n1⟩
    have e27 : upd B 27 0 = B := by
      funext j
      by_cases q : j = 27
      · rw [q, u_s, h27]
      · rw [u_n q]
    have et : turnM B pl = if sm 0 B (6 * (1 - pl)) 6 = 0 then nI (1 - (1 - pl)) else nI (1 - pl) := by
      unfold turnM
      by_cases q : sm 0 B (6 * (1 - pl)) 6 = 0
      · rw [if_pos q, if_neg (by rw [q]; decide), show 1 - (1 - pl) = pl by omega]
      · rw [if_neg q, if_pos (by
          rw [i_lt, i_0]
          have : ¬ (sm 0 B (6 * (1 - pl)) 6).toInt = 0 := fun z => q ((i_eq _ _).mpr (z.trans i_0.symm))
          omega)]
    rw [e27, et]
theorem clrL_o (P : Nat → Int32) {j : Nat} (h : j < 29 ∨ 34 ≤ j) : clrL P j = P j := if_neg (by omega)
theorem clrL_z (P : Nat → Int32) {j : Nat} (h1 : 29 ≤ j) (h2 : j < 34) : clrL P j = 0 := if_pos ⟨h1, h2⟩
theorem clrL_J {S : Int} {P : Nat → Int32} (hJ : Jv S P 0) : Jv S (clrL P) 0 := hJ.o (fun j hj => clrL_o _ (by omega)) (clrL_o _ (by omega)) (clrL_o _ (by omega))
theorem mvB_o (P : Nat → Int32) {fr pl j : Nat} (h1 : j ≠ 28) (h2 : j ≠ 29) (h3 : j ≠ 31) : mvB P fr pl j = (mvA P fr pl).1 j := by
  unfold mvB
  rw [u_n h1, u_n h3, u_n h2]
theorem mvA_o (P : Nat → Int32) {fr pl j : Nat} (hpl : pl < 2) (hfr : fr < 12) (h1 : 26 ≤ j) (h2 : j < 29 ∨ 34 ≤ j) : (mvA P fr pl).1 j = P j := by
  unfold mvA
  rw [lapsF_o hpl h1 (by omega) (by omega) (by omega) _ _ _ hfr, clrL_o _ h2]
theorem mvB_28 (P : Nat → Int32) {fr pl : Nat} (hpl : pl < 2) (hfr : fr < 12) : mvB P fr pl 28 = P 28 + 1 := by
  unfold mvB
  rw [u_s, mvA_o P hpl hfr (by decide) (by decide)]
theorem mvB_J {S : Int} {P : Nat → Int32} {fr pl : Nat} (hpl : pl < 2) (hfr : fr < 12) (hJ : Jv S P 0) (ht : 0 ≤ (P 37).toInt) (h0 : 1 ≤ (P fr).toInt) : Jv S (mvB P fr pl) 0 := by
  have h1 := (lapsF_J hpl 21 (clrL P) fr hfr (clrL_J hJ) (by rw [clrL_o _ (by omega)]; exact ht) (by rw [clrL_o _ (by omega)]; exact h0)).1
  exact h1.o (fun j hj => mvB_o _ (by omega) (by omega) (by omega)) (mvB_o _ (by omega) (by omega) (by omega)) (mvB_o _ (by omega) (by omega) (by omega))
theorem mvM_gt {S : Int} {P : Nat → Int32} {fr pl k : Nat} (hpl : pl < 2) (hfr : fr < 12) (hJ : Jv S P 0) (ht : 0 ≤ (P 37).toInt) (h0 : 1 ≤ (P fr).toInt) (h26 : P 26 = nI pl) (h27 : P 27 = 0) (h28 : P 28 = nI k) (hk : k < 300) : mvM P fr = gtM (mvB P fr pl) (1 - pl) := by
  unfold mvM
  rw [h26, nI_clamp (by omega)]
  refine fin_gt (k := k + 1) (mvB_J hpl hfr hJ ht h0) hpl (by rw [mvB_28 P hpl hfr, h28, nI_1]) (by omega) ?_
  rw [mvB_o _ (by decide) (by decide) (by decide), mvA_o P hpl hfr (by decide) (by decide), h27]
set_option maxHeartbeats 4000000 in
set_option maxRecDepth 100000 in
theorem c_makeMove (l : Launch) (D : va_G) (T : Nat → ClassId) (q0 q1 q2 q3 q4 q5 : Nat) {pl : Nat} (hpl : pl < 2) (ov mv : Int32) (sd vs so E : Nat → Int32) (x0 x1 x2 x3 x4 : Int32) (P : Nat → Int32) (hA : Agr P sd vs so) (hov : ov = P 27) (hmv : mv = P 28) (hE : ∀ j, j < 4 → E j = P (34 + j)) {fr : Nat} (hfr : fr < 12) {S : Int} (hJ : Jv S P 0) (h36 : 0 ≤ (P 36).toInt ∧ (P 36).toInt ≤ 20) (ht : 0 ≤ (P 37).toInt) (h0 : 1 ≤ (P fr).toInt) (h26 : P 26 = nI pl) (h27 : P 27 = 0) {mk : Nat} (h28 : P 28 = nI mk) (hmk : mk < 300) : KV (S := Unit) l D T yX3_makeMove cX3_makeMove 6 3 [.ref q0, .int (nI fr), .ref q4, .ref q5] [(q0, .inr (3, [.ref q1, .ref q2, .ref q3, .int (nI pl), .int ov, .int mv])), (q1, .inl (T 0, 12, .inl sd)), (q2, .inl (T 0, 12, .inl vs)), (q3, .inl (T 0, 2, .inl so)), (q4, .inl (T 0, 4, .inl E)), (q5, .inr (4, [.int x0, .int x1, .int x2, .int x3, .int x4]))] (fun _ => True) (fun u => [(q0, .inr (3, [.ref q1, .ref q2, .ref q3, .int ((mvM P fr) 26), .int ((mvM P fr) 27), .int ((mvM P fr) 28)])), (q1, .inl (T 0, 12, .inl (fun j => (mvM P fr) j))), (q2, .inl (T 0, 12, .inl (fun j => (mvM P fr) (12 + j)))), (q3, .inl (T 0, 2, .inl (fun j => (mvM P fr) (24 + j)))), (q4, .inl (T 0, 4, .inl E)), (q5, .inr (4, [.int ((mvM P fr) 29), .int ((mvM P fr) 30), .int ((mvM P fr) 31), .int ((mvM P fr) 32), .int ((mvM P fr) 33)]))]) := by
  refine KV.of (by decide +kernel) (Nat.le_of_ble_eq_true rfl) (fun p e s m below meth c A F hr hlk hW ls hl => ?_)
  have hx := F.1
  have hb := F.2.1
  have hl : lv_has ls 6 [(0, .ref q0), (1, .int (nI fr)), (2, .ref q4), (3, .ref q5)] := hl
  refine lv_aload_n hx hb dX3_makeMove_0 rfl (lv_at hl 3 rfl) ?_
  refine lv_iload_n hx hb dX3_makeMove_1 rfl (lv_at hl 1 rfl) ?_
  refine cVV (As := [.int (nI fr)]) (rest := []) (wr := [(q0, .inr (3, [.ref q1, .ref q2, .ref q3, .int (nI pl), .int ov, .int mv])), (q1, .inl (T 0, 12, .inl sd)), (q2, .inl (T 0, 12, .inl vs)), (q3, .inl (T 0, 2, .inl so)), (q4, .inl (T 0, 4, .inl E))]) F hW hl cs357 (c_clear l D T q5 x0 x1 x2 x3 x4 (nI fr)) [5] [0, 1, 2, 3, 4] rfl rfl rfl rfl (by decide) 0 4 rfl rfl rfl rfl rfl (Nat.le_of_ble_eq_true rfl) ⟨Nat.le_of_ble_eq_true rfl, Nat.le_of_ble_eq_true rfl⟩ ⟨Nat.zero_le _, Nat.zero_le _⟩ dX3_makeMove_2 (fun u2 H locs hr2 hW => ?_)
  have hW := Wd.ord hW (ws' := [(q0, .inr (3, [.ref q1, .ref q2, .ref q3, .int (nI pl), .int ov, .int mv])), (q1, .inl (T 0, 12, .inl sd)), (q2, .inl (T 0, 12, .inl vs)), (q3, .inl (T 0, 2, .inl so)), (q4, .inl (T 0, 4, .inl E)), (q5, .inr (4, [.int (nI fr), .int 0, .int (nI fr), .int 0, .int 0]))]) [0, 1, 2, 3, 4, 5] rfl rfl
  refine lv_iconst (v := nI 1) hx hb dX3_makeMove_5 (by decide) ?_
  refine lv_istore (lv' := [(4, .int (nI 1)), (0, .ref q0), (1, .int (nI fr)), (2, .ref q4), (3, .ref q5)]) hx hb dX3_makeMove_6 hl (by decide) rfl (fun ls hl => ?_)
  refine lv_iconst (v := nI 0) hx hb dX3_makeMove_8 (by decide) ?_
  refine lv_istore (lv' := [(5, .int (nI 0)), (4, .int (nI 1)), (0, .ref q0), (1, .int (nI fr)), (2, .ref q4), (3, .ref q5)]) hx hb dX3_makeMove_9 hl (by decide) rfl (fun ls hl => ?_)
  have hW := Wd.arr hW 1 (fun j => (clrL P) j) rfl (fun j hj => (hA.1 j hj).trans (clrL_o P (by omega)).symm) (ws' := [(q0, .inr (3, [.ref q1, .ref q2, .ref q3, .int (nI pl), .int ov, .int mv])), (q1, .inl (T 0, 12, .inl (fun j => (clrL P) j))), (q2, .inl (T 0, 12, .inl vs)), (q3, .inl (T 0, 2, .inl so)), (q4, .inl (T 0, 4, .inl E)), (q5, .inr (4, [.int (nI fr), .int 0, .int (nI fr), .int 0, .int 0]))]) rfl
  have hW := Wd.arr hW 2 (fun j => (clrL P) (12 + j)) rfl (fun j hj => (hA.2.1 j hj).trans (clrL_o P (by omega)).symm) (ws' := [(q0, .inr (3, [.ref q1, .ref q2, .ref q3, .int (nI pl), .int ov, .int mv])), (q1, .inl (T 0, 12, .inl (fun j => (clrL P) j))), (q2, .inl (T 0, 12, .inl (fun j => (clrL P) (12 + j)))), (q3, .inl (T 0, 2, .inl so)), (q4, .inl (T 0, 4, .inl E)), (q5, .inr (4, [.int (nI fr), .int 0, .int (nI fr), .int 0, .int 0]))]) rfl
  have hW := Wd.arr hW 3 (fun j => (clrL P) (24 + j)) rfl (fun j hj => (hA.2.2 j hj).trans (clrL_o P (by omega)).symm) (ws' := [(q0, .inr (3, [.ref q1, .ref q2, .ref q3, .int (nI pl), .int ov, .int mv])), (q1, .inl (T 0, 12, .inl (fun j => (clrL P) j))), (q2, .inl (T 0, 12, .inl (fun j => (clrL P) (12 + j)))), (q3, .inl (T 0, 2, .inl (fun j => (clrL P) (24 + j)))), (q4, .inl (T 0, 4, .inl E)), (q5, .inr (4, [.int (nI fr), .int 0, .int (nI fr), .int 0, .int 0]))]) rfl
  have e30 : (0 : Int32) = (clrL P) 30 := (clrL_z P (by decide) (by decide)).symm
  have e32 : (0 : Int32) = (clrL P) 32 := (clrL_z P (by decide) (by decide)).symm
  have e33 : (0 : Int32) = (clrL P) 33 := (clrL_z P (by decide) (by decide)).symm
  have hW : Wd D T A s [(q0, .inr (3, [.ref q1, .ref q2, .ref q3, .int (nI pl), .int ov, .int mv])), (q1, .inl (T 0, 12, .inl (fun j => (clrL P) j))), (q2, .inl (T 0, 12, .inl (fun j => (clrL P) (12 + j)))), (q3, .inl (T 0, 2, .inl (fun j => (clrL P) (24 + j)))), (q4, .inl (T 0, 4, .inl E)), (q5, .inr (4, [.int (nI fr), .int ((clrL P) 30), .int (nI fr), .int ((clrL P) 32), .int ((clrL P) 33)]))] H locs := by rw [← e30, ← e32, ← e33]; exact hW
  refine W.loop (fun m H2 locs2 ls2 => ∃ (k : Nat) (Pc : Nat → Int32) (h : Nat) (g : Int32), k ≤ 21 ∧ m = 21 - k ∧ h < 12 ∧ Pc 30 = nI k ∧ (∀ j, 26 ≤ j → j < 29 ∨ 34 ≤ j → Pc j = P j) ∧ ((g = 1 ∧ nI k ≤ P 36 ∧ lapsF (21 - k) Pc h pl = mvA P fr pl ∧ Jv S Pc 0 ∧ 1 ≤ (Pc h).toInt ∧ Pc 32 = 0) ∨ ((g = 0 ∨ ¬ nI k ≤ P 36) ∧ (Pc, h) = mvA P fr pl)) ∧ Wd D T A s [(q0, .inr (3, [.ref q1, .ref q2, .ref q3, .int (nI pl), .int ov, .int mv])), (q1, .inl (T 0, 12, .inl (fun j => Pc j))), (q2, .inl (T 0, 12, .inl (fun j => Pc (12 + j)))), (q3, .inl (T 0, 2, .inl (fun j => Pc (24 + j)))), (q4, .inl (T 0, 4, .inl E)), (q5, .inr (4, [.int (nI fr), .int (Pc 30), .int (nI h), .int (Pc 32), .int (Pc 33)]))] H2 locs2 ∧ lv_has ls2 6 [(0, .ref q0), (1, .int (nI fr)), (2, .ref q4), (3, .ref q5), (4, .int g), (5, .int (nI k))]) ?_ 21 ⟨0, clrL P, fr, 1, by omega, rfl, hfr, e30.symm, fun j a b => clrL_o P (by omega), Or.inl ⟨rfl, by rw [i_le]; exact h36.1, rfl, clrL_J hJ, by rw [clrL_o P (by omega)]; exact h0, e32.symm⟩, hW, lv_sub hl [2, 3, 4, 5, 1, 0] rfl⟩
  rintro mz H locs ls ⟨k, Pc, h, g, hk, rfl, hh, h30, ho, hc, hW, hl⟩ ih
  refine W.fork (X := Unit) 42 (fun _ => []) (fun _ H2 locs2 ls2 => H2 = H ∧ locs2 = locs ∧ (Pc, h) = mvA P fr pl ∧ lv_has ls2 6 [(0, .ref q0), (1, .int (nI fr)), (2, .ref q4), (3, .ref q5), (4, .int g), (5, .int (nI k))]) (fun hfin => ?_) ?_
  · refine lv_iload hx hb dX3_makeMove_11 (lv_at hl 4 rfl) ?_
    refine lv_if_eq (tgt := 42) hx hb dX3_makeMove_13 (by decide) (fun h13 => ?_) (fun h13 => ?_)
    · refine hfin () _ _ _ ⟨rfl, rfl, ?_, hl⟩
      rcases hc with hc | hc
      · exact absurd (hc.1.symm.trans h13) (by decide)
      · exact hc.2
    · refine lv_iload hx hb dX3_makeMove_16 (lv_at hl 5 rfl) ?_
      refine lv_aload_n hx hb dX3_makeMove_18 rfl (lv_at hl 2 rfl) ?_
      refine lv_iconst (v := nI 2) hx hb dX3_makeMove_19 (by decide) ?_
      refine ald F hW 4 rfl (x := P 36) 2 rfl (by omega) (by decide) (hE 2 (by decide)) dX3_makeMove_20 ?_
      refine lv_icmp_gt (tgt := 42) hx hb dX3_makeMove_21 (by decide) (fun h21 => ?_) (fun h21 => ?_)
      · refine hfin () _ _ _ ⟨rfl, rfl, ?_, hl⟩
        rcases hc with hc | hc
        · exact absurd hc.2.1 (Int32.not_le.mpr h21)
        · exact hc.2
      · have hc : nI k ≤ P 36 ∧ lapsF (21 - k) Pc h pl = mvA P fr pl ∧ Jv S Pc 0 ∧ 1 ≤ (Pc h).toInt ∧ Pc 32 = 0 := by
          rcases hc with hc | hc
          · exact hc.2
          · exact absurd hc.1 (fun q => q.elim h13 (fun q => q (Int32.not_lt.mp h21)))
        obtain ⟨hk2, hL, hJc, hh0, h32⟩ := hc
        have hk3 : k ≤ 20 := by rw [i_le, nI_toInt (by omega)] at hk2; omega
        have q37 : Pc 37 = P 37 := ho 37 (by decide) (by decide)
        obtain ⟨j1, j2⟩ := sowM_J hpl hh hJc (by rw [q37]; exact ht) hh0
        have hh2 := sowM_lt (P := Pc) (pl := pl) hh
        refine lv_aload_n hx hb dX3_makeMove_24 rfl (lv_at hl 0 rfl) ?_
        refine lv_aload_n hx hb dX3_makeMove_25 rfl (lv_at hl 3 rfl) ?_
        refine gf91 F hW 5 rfl rfl dX3_makeMove_26 ?_
        refine lv_aload_n hx hb dX3_makeMove_29 rfl (lv_at hl 2 rfl) ?_
        refine lv_aload_n hx hb dX3_makeMove_30 rfl (lv_at hl 3 rfl) ?_
        refine cIV (As := [.int (nI h), .ref q4, .ref q5]) (rest := []) (wr := []) F hW hl cs361 (c_sowLap l D T q0 q1 q2 q3 q4 q5 (pl := pl) (by omega) ov mv (fun j => Pc j) (fun j => Pc (12 + j)) (fun j => Pc (24 + j)) E (nI fr) (nI h) Pc ⟨fun _ _ => rfl, fun _ _ => rfl, fun _ _ => rfl⟩ (fun j hj => (hE j hj).trans (ho _ (by omega) (by omega)).symm) (fr := h) (by omega) (by rw [q37]; exact ht) j2 (j1.1 _ (by omega)) h32) [0, 1, 2, 3, 4, 5] [] rfl rfl rfl rfl (by decide) 0 3 rfl rfl rfl rfl rfl (Nat.le_of_ble_eq_true rfl) ⟨Nat.le_of_ble_eq_true rfl, Nat.le_of_ble_eq_true rfl⟩ ⟨Nat.zero_le _, Nat.zero_le _⟩ dX3_makeMove_31 (fun r31 u31 H locs hr31 hW => ?_)
        have hW := Wd.ord hW (ws' := [(q0, .inr (3, [.ref q1, .ref q2, .ref q3, .int (nI pl), .int ov, .int mv])), (q1, .inl (T 0, 12, .inl (fun j => (endM (sowM Pc h pl).1 (sowM Pc h pl).2 pl) j))), (q2, .inl (T 0, 12, .inl (fun j => (endM (sowM Pc h pl).1 (sowM Pc h pl).2 pl) (12 + j)))), (q3, .inl (T 0, 2, .inl (fun j => (endM (sowM Pc h pl).1 (sowM Pc h pl).2 pl) (24 + j)))), (q4, .inl (T 0, 4, .inl E)), (q5, .inr (4, [.int (nI fr), .int ((endM (sowM Pc h pl).1 (sowM Pc h pl).2 pl) 30), .int (nI ((sowM Pc h pl).2)), .int ((endM (sowM Pc h pl).1 (sowM Pc h pl).2 pl) 32), .int ((endM (sowM Pc h pl).1 (sowM Pc h pl).2 pl) 33)]))]) [0, 1, 2, 3, 4, 5] rfl rfl
        subst hr31
        refine lv_istore (lv' := [(4, .int (if goesM (sowM Pc h pl).1 (sowM Pc h pl).2 then 1 else 0)), (0, .ref q0), (1, .int (nI fr)), (2, .ref q4), (3, .ref q5), (5, .int (nI k))]) hx hb dX3_makeMove_34 hl (by decide) rfl (fun ls hl => ?_)
        refine lv_iinc (v := nI (k + 1)) (lv' := [(5, .int (nI (k + 1))), (4, .int (if goesM (sowM Pc h pl).1 (sowM Pc h pl).2 then 1 else 0)), (0, .ref q0), (1, .int (nI fr)), (2, .ref q4), (3, .ref q5)]) hx hb dX3_makeMove_36 hl (k := 5) rfl (nI_add _ _) (by decide) rfl (fun ls hl => ?_)
        refine lv_goto (tgt := 11) hx hb dX3_makeMove_39 (by decide) ?_
        have s30 : (endM (sowM Pc h pl).1 (sowM Pc h pl).2 pl) 30 = nI (k + 1) := by rw [endM_hi _ hh2 hpl (by decide) (by decide), visM_30 _ hh2, sowM_o hpl hh (by decide) (by decide) (by decide) (by decide), h30, nI_1]
        have so : ∀ j, 26 ≤ j → j < 29 ∨ 34 ≤ j → (endM (sowM Pc h pl).1 (sowM Pc h pl).2 pl) j = P j := fun j a b => by rw [endM_hi _ hh2 hpl a (by omega), visM_o _ (by omega) (by omega), sowM_o hpl hh (by omega) (by omega) (by omega) (by omega)]; exact ho j a b
        have e36 : (sowM Pc h pl).1 36 = P 36 := (sowM_o hpl hh (by decide) (by decide) (by decide) (by decide)).trans (ho 36 (by decide) (by decide))
        have e30 : (sowM Pc h pl).1 30 + 1 = nI (k + 1) := by rw [sowM_o hpl hh (by decide) (by decide) (by decide) (by decide), h30, nI_1]
        have e21 : 21 - k = (21 - (k + 1)) + 1 := by omega
        rw [e21, lapsF, e36, e30] at hL
        refine ih (21 - (k + 1)) _ _ _ (by omega) ⟨k + 1, (endM (sowM Pc h pl).1 (sowM Pc h pl).2 pl), (sowM Pc h pl).2, _, by omega, rfl, hh2, s30, so, ?_, hW, lv_sub hl [2, 3, 4, 5, 1, 0] rfl⟩
        by_cases hg : goesM (sowM Pc h pl).1 (sowM Pc h pl).2
        · rw [if_pos hg]
          by_cases hk4 : nI (k + 1) ≤ P 36
          · rw [if_pos ⟨hg, hk4⟩] at hL
            refine Or.inl ⟨rfl, hk4, ?_, endM_J hh2 hpl j1, ?_, ?_⟩
            · rw [endM_g hg.1]; exact hL
            · rw [endM_g hg.1, visM_o _ (by omega) (by omega)]; exact j2
            · rw [endM_g hg.1, visM_o _ (by decide) (by omega), sowM_o hpl hh (by decide) (by decide) (by decide) (by decide), h32]
          · rw [if_neg (fun q => hk4 q.2)] at hL
            exact Or.inr ⟨Or.inr hk4, hL⟩
        · rw [if_neg (fun q => hg q.1)] at hL
          rw [if_neg hg]
          exact Or.inr ⟨Or.inl rfl, hL⟩
  · rintro - H2 locs2 ls ⟨rfl, rfl, hA2, hl⟩
    have hB : mvB P fr pl = upd (upd (upd Pc 29 (nI fr)) 31 (nI h)) 28 (Pc 28 + 1) := by unfold mvB; rw [← hA2]
    have hM := mvM_gt hpl hfr hJ ht h0 h26 h27 h28 hmk
    have hb1 : ∀ j, j ≠ 28 → j ≠ 29 → j ≠ 31 → Pc j = mvB P fr pl j := fun j a b c => by rw [hB, u_n a, u_n c, u_n b]
    have hb28 : mvB P fr pl 28 = P 28 + 1 := mvB_28 P hpl hfr
    refine lv_aload_n hx hb dX3_makeMove_42 rfl (lv_at hl 0 rfl) ?_
    refine lv_dup hx hb dX3_makeMove_43 rfl ?_
    refine gf52 F hW 0 rfl rfl dX3_makeMove_44 ?_
    refine lv_iconst (v := 1) hx hb dX3_makeMove_47 (by decide) ?_
    refine iaddE (z := P 28 + 1) hx hb dX3_makeMove_48 (by rw [hmv]) ?_
    refine pf52 (ws' := [(q0, .inr (3, [.ref q1, .ref q2, .ref q3, .int (nI pl), .int ov, .int (P 28 + 1)])), (q1, .inl (T 0, 12, .inl (fun j => Pc j))), (q2, .inl (T 0, 12, .inl (fun j => Pc (12 + j)))), (q3, .inl (T 0, 2, .inl (fun j => Pc (24 + j)))), (q4, .inl (T 0, 4, .inl E)), (q5, .inr (4, [.int (nI fr), .int (Pc 30), .int (nI h), .int (Pc 32), .int (Pc 33)]))]) F hW 0 rfl rfl rfl dX3_makeMove_49 (fun H locs hW => ?_)
    refine lv_aload_n hx hb dX3_makeMove_52 rfl (lv_at hl 0 rfl) ?_
    refine lv_iconst (v := nI 1) hx hb dX3_makeMove_53 (by decide) ?_
    refine lv_aload_n hx hb dX3_makeMove_54 rfl (lv_at hl 0 rfl) ?_
    refine gf46 F hW 0 rfl rfl dX3_makeMove_55 ?_
    refine isubE (z := nI (1 - pl)) hx hb dX3_makeMove_58 (pk_sub (by omega)) ?_
    refine cVV (As := [.int (nI (1 - pl))]) (rest := []) (wr := [(q2, .inl (T 0, 12, .inl (fun j => Pc (12 + j)))), (q4, .inl (T 0, 4, .inl E)), (q5, .inr (4, [.int (nI fr), .int (Pc 30), .int (nI h), .int (Pc 32), .int (Pc 33)]))]) F hW hl cs310 (c_giveTurnTo l D T q0 q1 q2 q3 (nI pl) ov (P 28 + 1) (fun j => Pc j) (fun j => Pc (24 + j)) (mvB P fr pl) (fun j hj => hb1 j (by omega) (by omega) (by omega)) (fun j hj => hb1 _ (by omega) (by omega) (by omega)) (by rw [hov]; exact (ho 27 (by decide) (by decide)).symm.trans (hb1 27 (by decide) (by decide) (by decide))) (by rw [hb28]) (t := (1 - pl)) (by omega)) [0, 1, 3] [2, 4, 5] rfl rfl rfl rfl (by decide) 0 3 rfl rfl rfl rfl rfl (Nat.le_of_ble_eq_true rfl) ⟨Nat.le_of_ble_eq_true rfl, Nat.le_of_ble_eq_true rfl⟩ ⟨Nat.zero_le _, Nat.zero_le _⟩ dX3_makeMove_59 (fun u59 H locs hr59 hW => ?_)
    have hW := Wd.ord hW (ws' := [(q0, .inr (3, [.ref q1, .ref q2, .ref q3, .int ((gtM (mvB P fr pl) (1 - pl)) 26), .int ((gtM (mvB P fr pl) (1 - pl)) 27), .int (P 28 + 1)])), (q1, .inl (T 0, 12, .inl (fun j => (gtM (mvB P fr pl) (1 - pl)) j))), (q2, .inl (T 0, 12, .inl (fun j => Pc (12 + j)))), (q3, .inl (T 0, 2, .inl (fun j => (gtM (mvB P fr pl) (1 - pl)) (24 + j)))), (q4, .inl (T 0, 4, .inl E)), (q5, .inr (4, [.int (nI fr), .int (Pc 30), .int (nI h), .int (Pc 32), .int (Pc 33)]))]) [3, 4, 0, 5, 1, 2] rfl rfl
    have hg : ∀ j, j < 24 → 12 ≤ j → Pc j = mvM P fr j := fun j a b => by rw [hM]; unfold gtM; split; (rw [u_n (by omega)]; unfold endsM; rw [if_neg (by omega), if_neg (by omega), if_neg (by omega), if_neg (by omega)]; exact hb1 j (by omega) (by omega) (by omega)); (rw [u_n (by omega)]; exact hb1 j (by omega) (by omega) (by omega))
    have hg2 : ∀ j, 28 ≤ j → mvM P fr j = mvB P fr pl j := fun j a => by rw [hM]; unfold gtM; split; (rw [u_n (by omega)]; unfold endsM; rw [if_neg (by omega), if_neg (by omega), if_neg (by omega), if_neg (by omega)]); (rw [u_n (by omega)])
    have hW := Wd.arr hW 2 (fun j => (mvM P fr) (12 + j)) rfl (fun j hj => hg (12 + j) (by omega) (by omega)) (ws' := [(q0, .inr (3, [.ref q1, .ref q2, .ref q3, .int ((gtM (mvB P fr pl) (1 - pl)) 26), .int ((gtM (mvB P fr pl) (1 - pl)) 27), .int (P 28 + 1)])), (q1, .inl (T 0, 12, .inl (fun j => (gtM (mvB P fr pl) (1 - pl)) j))), (q2, .inl (T 0, 12, .inl (fun j => (mvM P fr) (12 + j)))), (q3, .inl (T 0, 2, .inl (fun j => (gtM (mvB P fr pl) (1 - pl)) (24 + j)))), (q4, .inl (T 0, 4, .inl E)), (q5, .inr (4, [.int (nI fr), .int (Pc 30), .int (nI h), .int (Pc 32), .int (Pc 33)]))]) rfl
    have r28 : P 28 + 1 = mvM P fr 28 := by rw [hg2 28 (by decide), hb28]
    have r29 : nI fr = mvM P fr 29 := by rw [hg2 29 (by decide), hB, u_n (by decide), u_n (by decide), u_s]
    have r30 : Pc 30 = mvM P fr 30 := by rw [hg2 30 (by decide)]; exact hb1 30 (by decide) (by decide) (by decide)
    have r31 : nI h = mvM P fr 31 := by rw [hg2 31 (by decide), hB, u_n (by decide), u_s]
    have r32 : Pc 32 = mvM P fr 32 := by rw [hg2 32 (by decide)]; exact hb1 32 (by decide) (by decide) (by decide)
    have r33 : Pc 33 = mvM P fr 33 := by rw [hg2 33 (by decide)]; exact hb1 33 (by decide) (by decide) (by decide)
    rw [← hM, r28, r29, r30, r31, r32, r33] at hW
    exact retV F hr hlk hW () trivial rfl dX3_makeMove_62
