-- the law's reads
def sepN (k : Nat) : Nat := if k = 11 ∨ k = 13 then 47 else 44
theorem sepN_b (k : Nat) : 33 ≤ sepN k ∧ sepN k ≤ 126 := by unfold sepN; split <;> decide
theorem dig_of {f : Nat → Int32} (h : ∀ j, j < 12 → ∃ d, d < 10 ∧ f j = nI d) : ∃ hh : Nat → Nat, (∀ j, j < 12 → hh j < 10) ∧ ∀ j, j < 12 → f j = nI (hh j) := by
  refine ⟨fun j => (f j).toNatClampNeg, fun j hj => ?_, fun j hj => ?_⟩
  · obtain ⟨d, hd, e⟩ := h j hj
    show (f j).toNatClampNeg < 10
    rw [e, nI_clamp (by omega)]
    exact hd
  · obtain ⟨d, hd, e⟩ := h j hj
    show f j = nI (f j).toNatClampNeg
    rw [e, nI_clamp (by omega)]
theorem dig_up {f : Nat → Int32} {i dd : Nat} (h : ∀ j, j < i → ∃ d, d < 10 ∧ f j = nI d) (hd : dd < 10) : ∀ j, j < i + 1 → ∃ d, d < 10 ∧ upd f i (nI dd) j = nI d := by
  intro j hj
  by_cases q : j = i
  · exact ⟨dd, hd, by rw [q, u_s]⟩
  · obtain ⟨d2, h1, h2⟩ := h j (by omega)
    exact ⟨d2, h1, by rw [u_n q]; exact h2⟩
def dgs (hh : Nat → Nat) (a b c k : Nat) : Nat := if k < 12 then hh k else if k = 12 then a else if k = 13 then b else c
theorem dgs_b {hh : Nat → Nat} {a b c : Nat} (h : ∀ k, k < 12 → hh k < 10) (ha : a < 10) (hb : b < 10) : ∀ k, k < 14 → dgs hh a b c k < 10 := by
  intro k hk
  unfold dgs
  by_cases q : k < 12
  · rw [if_pos q]
    exact h k q
  · rw [if_neg q]
    by_cases q2 : k = 12
    · rw [if_pos q2]
      exact ha
    · rw [if_neg q2, if_pos (by omega)]
      exact hb
theorem TX.cg {t : Nat → Int32} {d1 d2 : Nat → Nat} (h : TX t 24 d1) (e : ∀ k, k < 12 → d2 k = d1 k) : TX t 24 d2 := by
  intro j hj
  rw [h j hj]
  unfold tch
  by_cases q : j % 2 = 0
  · rw [if_pos q, if_pos q, e _ (by omega)]
  · rw [if_neg q, if_neg q]
theorem tx_all {t : Nat → Int32} {hh : Nat → Nat} {a b c : Nat} (h : TX t 24 hh) (ha : a < 10) (hb : b < 10) (hc : c < 2) : TX (apT (padT (padT t 24 a 44) 26 b 47) 28 1 (48 + c) 1) 29 (dgs hh a b c) := by
  have h0 : TX t (2 * 12) (dgs hh a b c) := h.cg (fun k hk => if_pos hk)
  have e12 : dgs hh a b c 12 = a := rfl
  have e13 : dgs hh a b c 13 = b := rfl
  have e14 : dgs hh a b c 14 = c := rfl
  have h1 := tx_step (c := 44) h0 (by rw [e12]; exact ha) (by decide)
  rw [e12] at h1
  have h2 := tx_step (k := 13) (c := 47) h1 (by rw [e13]; exact hb) (by decide)
  rw [e13] at h2
  have h3 := tx_last h2 (by rw [e14]; exact hc)
  rw [e14] at h3
  exact h3
set_option maxHeartbeats 4000000 in
set_option maxRecDepth 100000 in
theorem c_reads (l : Launch) (D : va_G) (T : Nat → ClassId) (g g2 : GA) (x y : Int32) {u v : UX} (hU : UR (pY Y0.pad 0) u) (hV : UR (pY Y0.pad 0) v) : KN (S := YD × YD × UX × UX) l D T yL_reads cL_reads 10 (some .boolean) 7 1 12 [.ref (g.1 0), .ref (g2.1 0), .int x, .int y] (XG T g (pY Y0.pad 0) u ++ (XG T g2 (pY Y0.pad 0) v ++ [])) (fun r q => r = 1 ∧ (∃ S, GR S q.1 q.2.1) ∧ UR q.1 q.2.2.1 ∧ UR q.2.1 q.2.2.2) (fun q => XG T g q.1 q.2.2.1 ++ (XG T g2 q.2.1 q.2.2.2 ++ [])) := by
  refine KN.of (by decide +kernel) (Nat.le_of_ble_eq_true rfl) (fun p e s m below meth c A F hr hlk hW ls hl => ?_)
  have hx := F.1
  have hb := F.2.1
  have hl : lv_has ls 10 [(0, .ref (g.1 0)), (1, .ref (g2.1 0)), (2, .int x), (3, .int y)] := hl
  refine lv_bipush (v := nI 12) hx hb dL_reads_0 (by decide) ?_
  refine wnewa F hW (atype := .int) (ty := .int) 0 rfl m68 rfl 12 (by decide) (fun _ => rfl) (by decide) ⟨Nat.le_of_ble_eq_true rfl, Nat.le_of_ble_eq_true rfl⟩ dL_reads_2 (fun ar H hW => ?_)
  have hW := hW.rot
  refine lv_astore (lv' := [(4, .ref ar), (0, .ref (g.1 0)), (1, .ref (g2.1 0)), (2, .int x), (3, .int y)]) hx hb dL_reads_4 hl (by decide) rfl (fun ls hl => ?_)
  refine lv_iconst (v := nI 2) hx hb dL_reads_6 (by decide) ?_
  refine lv_iload_n hx hb dL_reads_7 rfl (lv_at hl 3 rfl) ?_
  refine lv_bipush (v := nI 6) hx hb dL_reads_8 (by decide) ?_
  refine cRS (As := [.int x, .int (nI 6)]) (rest := [.int (nI 2)]) F hW hl cs246 (c_up l D T x (n := 6) (by decide) (by decide)) [] rfl rfl rfl rfl (Nat.le_of_ble_eq_true rfl) ⟨Nat.le_of_ble_eq_true rfl, Nat.le_of_ble_eq_true rfl⟩ ⟨Nat.le_of_ble_eq_true rfl, Nat.le_of_ble_eq_true rfl⟩ dL_reads_10 (fun r10 hr10 => ?_)
  obtain ⟨j10, hj10, rfl⟩ := hr10
  refine iaddE (z := nI (2 + j10)) hx hb dL_reads_13 (nI_add _ _) ?_
  refine lv_istore (lv' := [(5, .int (nI (2 + j10))), (4, .ref ar), (0, .ref (g.1 0)), (1, .ref (g2.1 0)), (2, .int x), (3, .int y)]) hx hb dL_reads_14 hl (by decide) rfl (fun ls hl => ?_)
  refine lv_iconst (v := nI 0) hx hb dL_reads_16 (by decide) ?_
  refine lv_istore (lv' := [(6, .int (nI 0)), (5, .int (nI (2 + j10))), (4, .ref ar), (0, .ref (g.1 0)), (1, .ref (g2.1 0)), (2, .int x), (3, .int y)]) hx hb dL_reads_17 hl (by decide) rfl (fun ls hl => ?_)
  refine W.loop (fun n9 H2 locs2 ls2 => ∃ (i : Nat) (f : Nat → Int32), i ≤ 12 ∧ n9 = 12 - i ∧ (∀ j, j < i → ∃ d, d < 10 ∧ f j = nI d) ∧ Wd D T A s ([(ar, .inl (T 0, 12, .inl f))] ++ (XG T g (pY Y0.pad 0) u ++ (XG T g2 (pY Y0.pad 0) v ++ []))) H2 locs2 ∧ lv_has ls2 10 [(0, .ref (g.1 0)), (1, .ref (g2.1 0)), (2, .int x), (3, .int y), (4, .ref ar), (5, .int (nI (2 + j10))), (6, .int (nI i))]) ?_ 12 ⟨0, fun _ => 0, by decide, rfl, fun j hj => absurd hj (Nat.not_lt_zero j), hW, lv_sub hl [3, 4, 5, 6, 2, 1, 0] rfl⟩
  rintro n9 H locs ls ⟨i, f, hi, rfl, hf, hW, hl⟩ ih
  refine lv_iload hx hb dL_reads_19 (lv_at hl 6 rfl) ?_
  refine lv_bipush (v := nI 12) hx hb dL_reads_21 (by decide) ?_
  refine lv_icmp_ge (tgt := 61) hx hb dL_reads_23 (by decide) (fun h23 => ?_) (fun h23 => ?_)
  · have hi2 : i = 12 := by have := n_le h23 (by omega) (by omega); omega
    subst hi2
    obtain ⟨hh, hhd, hhf⟩ := dig_of hf
    refine lv_aload_n hx hb dL_reads_61 rfl (lv_at hl 0 rfl) ?_
    refine cGI (As := []) (rest := []) F ([(ar, .inl (T 0, 12, .inl f))]) (XG T g (pY Y0.pad 0) u) (XG T g2 (pY Y0.pad 0) v ++ []) hW hl cs250 (g_wipe1 l D T g Y0.pad hU (by decide)) 8 6 (xg_at _ _ _ _) rfl rfl rfl rfl (Nat.le_of_ble_eq_true rfl) ⟨Nat.le_of_ble_eq_true rfl, Nat.le_of_ble_eq_true rfl⟩ ⟨Nat.le_of_ble_eq_true rfl, Nat.le_of_ble_eq_true rfl⟩ dL_reads_62 (fun r62 u62 H locs hp62 hW => ?_)
    obtain ⟨hr62, hU62⟩ := hp62
    subst hr62
    refine lv_if_lt (tgt := 79) hx hb dL_reads_65 (by decide) (fun h9 => absurd h9 (by decide)) (fun _ => ?_)
    refine lv_aload_n hx hb dL_reads_68 rfl (lv_at hl 1 rfl) ?_
    refine cGI2 (As := []) (rest := []) F ([(ar, .inl (T 0, 12, .inl f))]) (XG T g (pY Y0.pad 0) u62) (XG T g2 (pY Y0.pad 0) v) [] hW hl cs250 (g_wipe1 l D T g2 Y0.pad hV (by decide)) 8 6 (xg_at _ _ _ _) rfl rfl rfl rfl (Nat.le_of_ble_eq_true rfl) ⟨Nat.le_of_ble_eq_true rfl, Nat.le_of_ble_eq_true rfl⟩ ⟨Nat.le_of_ble_eq_true rfl, Nat.le_of_ble_eq_true rfl⟩ dL_reads_69 (fun r69 u69 H locs hp69 hW => ?_)
    obtain ⟨hr69, hU69⟩ := hp69
    subst hr69
    refine lv_if_lt (tgt := 79) hx hb dL_reads_72 (by decide) (fun h9 => absurd h9 (by decide)) (fun _ => ?_)
    refine lv_iconst (v := 1) hx hb dL_reads_75 (by decide) ?_
    refine lv_goto (tgt := 80) hx hb dL_reads_76 (by decide) ?_
    refine lv_istore (lv' := [(6, .int 1), (0, .ref (g.1 0)), (1, .ref (g2.1 0)), (2, .int x), (3, .int y), (4, .ref ar), (5, .int (nI (2 + j10)))]) hx hb dL_reads_80 hl (by decide) rfl (fun ls hl => ?_)
    refine lv_iconst (v := nI 0) hx hb dL_reads_82 (by decide) ?_
    refine lv_istore (lv' := [(7, .int (nI 0)), (6, .int 1), (0, .ref (g.1 0)), (1, .ref (g2.1 0)), (2, .int x), (3, .int y), (4, .ref ar), (5, .int (nI (2 + j10)))]) hx hb dL_reads_83 hl (by decide) rfl (fun ls hl => ?_)
    refine W.loop (fun n9 H2 locs2 ls2 => ∃ (k : Nat) (t1 t2 : Nat → Int32) (u1 u2 : UX), k ≤ 12 ∧ n9 = 12 - k ∧ TX t1 (2 * k) hh ∧ TX t2 (2 * k) (fun j => hh (sg j)) ∧ UR (pY t1 (2 * k)) u1 ∧ UR (pY t2 (2 * k)) u2 ∧ Wd D T A s ([(ar, .inl (T 0, 12, .inl f))] ++ (XG T g (pY t1 (2 * k)) u1 ++ (XG T g2 (pY t2 (2 * k)) u2 ++ []))) H2 locs2 ∧ lv_has ls2 10 [(0, .ref (g.1 0)), (1, .ref (g2.1 0)), (2, .int x), (3, .int y), (4, .ref ar), (6, .int 1), (7, .int (nI k))]) ?_ 12 ⟨0, Y0.pad, Y0.pad, u62, u69, by decide, rfl, fun j hj => absurd hj (Nat.not_lt_zero j), fun j hj => absurd hj (Nat.not_lt_zero j), hU62, hU69, hW, lv_sub hl [2, 3, 4, 5, 6, 1, 0] rfl⟩
    rintro n9 H locs ls ⟨k, t1, t2, u1, u2, hk, rfl, hT1, hT2, hU1, hU2, hW, hl⟩ ih2
    refine lv_iload hx hb dL_reads_85 (lv_at hl 6 rfl) ?_
    refine lv_bipush (v := nI 12) hx hb dL_reads_87 (by decide) ?_
    refine lv_icmp_ge (tgt := 168) hx hb dL_reads_89 (by decide) (fun h89 => ?_) (fun h89 => ?_)
    · have hk2 : k = 12 := by have := n_le h89 (by omega) (by omega); omega
      subst hk2
      have hW := Wd.is hW (ws' := [(ar, .inl (T 0, 12, .inl f))] ++ (XG T g (pY t1 24) u1 ++ (XG T g2 (pY t2 24) u2 ++ []))) rfl
      have hU1 : UR (pY t1 24) u1 := hU1
      have hU2 : UR (pY t2 24) u2 := hU2
      refine lv_iload_n hx hb dL_reads_168 rfl (lv_at hl 2 rfl) ?_
      refine lv_bipush (v := nI 13) hx hb dL_reads_169 (by decide) ?_
      refine ishrX hx hb dL_reads_171 (fun z171 => ?_)
      refine lv_bipush (v := nI 9) hx hb dL_reads_172 (by decide) ?_
      refine cRS (As := [.int z171, .int (nI 9)]) (rest := []) F hW hl cs246 (c_up l D T z171 (n := 9) (by decide) (by decide)) [] rfl rfl rfl rfl (Nat.le_of_ble_eq_true rfl) ⟨Nat.le_of_ble_eq_true rfl, Nat.le_of_ble_eq_true rfl⟩ ⟨Nat.le_of_ble_eq_true rfl, Nat.le_of_ble_eq_true rfl⟩ dL_reads_174 (fun r174 hr174 => ?_)
      obtain ⟨j174, hj174, rfl⟩ := hr174
      refine lv_istore (lv' := [(7, .int (nI j174)), (0, .ref (g.1 0)), (1, .ref (g2.1 0)), (2, .int x), (3, .int y), (4, .ref ar), (6, .int 1)]) hx hb dL_reads_177 hl (by decide) rfl (fun ls hl => ?_)
      refine lv_iload_n hx hb dL_reads_179 rfl (lv_at hl 4 rfl) ?_
      refine lv_bipush (v := nI 13) hx hb dL_reads_180 (by decide) ?_
      refine ishrX hx hb dL_reads_182 (fun z182 => ?_)
      refine lv_bipush (v := nI 9) hx hb dL_reads_183 (by decide) ?_
      refine cRS (As := [.int z182, .int (nI 9)]) (rest := []) F hW hl cs246 (c_up l D T z182 (n := 9) (by decide) (by decide)) [] rfl rfl rfl rfl (Nat.le_of_ble_eq_true rfl) ⟨Nat.le_of_ble_eq_true rfl, Nat.le_of_ble_eq_true rfl⟩ ⟨Nat.le_of_ble_eq_true rfl, Nat.le_of_ble_eq_true rfl⟩ dL_reads_185 (fun r185 hr185 => ?_)
      obtain ⟨j185, hj185, rfl⟩ := hr185
      refine lv_istore (lv' := [(8, .int (nI j185)), (7, .int (nI j174)), (0, .ref (g.1 0)), (1, .ref (g2.1 0)), (2, .int x), (3, .int y), (4, .ref ar), (6, .int 1)]) hx hb dL_reads_188 hl (by decide) rfl (fun ls hl => ?_)
      refine lv_iload hx hb dL_reads_190 (lv_at hl 7 rfl) ?_
      refine lv_if_eq (tgt := 243) hx hb dL_reads_192 (by decide) (fun h9 => absurd h9 (by decide)) (fun _ => ?_)
      refine lv_aload_n hx hb dL_reads_195 rfl (lv_at hl 2 rfl) ?_
      refine lv_iload hx hb dL_reads_196 (lv_at hl 1 rfl) ?_
      refine lv_bipush (v := nI 44) hx hb dL_reads_198 (by decide) ?_
      refine cSI (As := [.ref (g.1 0), .int (nI j174), .int (nI 44)]) (rest := []) F hW hl cs254 (c_number l D T ([(ar, .inl (T 0, 12, .inl f))]) ((XG T g2 (pY t2 24) u2) ++ []) g t1 (n := 24) hU1 (by omega) (by omega) (by omega) (by omega)) rfl rfl (Nat.le_of_ble_eq_true rfl) ⟨Nat.le_of_ble_eq_true rfl, Nat.le_of_ble_eq_true rfl⟩ ⟨Nat.le_of_ble_eq_true rfl, Nat.le_of_ble_eq_true rfl⟩ dL_reads_200 (fun r200 u200 H locs hp200 hW => ?_)
      obtain ⟨hr200, hU200⟩ := hp200
      subst hr200
      refine lv_if_eq (tgt := 243) hx hb dL_reads_203 (by decide) (fun h9 => absurd h9 (by decide)) (fun _ => ?_)
      refine lv_aload_n hx hb dL_reads_206 rfl (lv_at hl 2 rfl) ?_
      refine lv_iload hx hb dL_reads_207 (lv_at hl 0 rfl) ?_
      refine lv_bipush (v := nI 47) hx hb dL_reads_209 (by decide) ?_
      refine cSI (As := [.ref (g.1 0), .int (nI j185), .int (nI 47)]) (rest := []) F hW hl cs254 (c_number l D T ([(ar, .inl (T 0, 12, .inl f))]) ((XG T g2 (pY t2 24) u2) ++ []) g (padT t1 24 j174 44) (n := 26) hU200 (by omega) (by omega) (by omega) (by omega)) rfl rfl (Nat.le_of_ble_eq_true rfl) ⟨Nat.le_of_ble_eq_true rfl, Nat.le_of_ble_eq_true rfl⟩ ⟨Nat.le_of_ble_eq_true rfl, Nat.le_of_ble_eq_true rfl⟩ dL_reads_211 (fun r211 u211 H locs hp211 hW => ?_)
      obtain ⟨hr211, hU211⟩ := hp211
      subst hr211
      refine lv_if_eq (tgt := 243) hx hb dL_reads_214 (by decide) (fun h9 => absurd h9 (by decide)) (fun _ => ?_)
      refine lv_aload_n hx hb dL_reads_217 rfl (lv_at hl 3 rfl) ?_
      refine lv_iload hx hb dL_reads_218 (lv_at hl 0 rfl) ?_
      refine lv_bipush (v := nI 44) hx hb dL_reads_220 (by decide) ?_
      have hW := Wd.is hW (ws' := ([(ar, .inl (T 0, 12, .inl f))] ++ (XG T g (pY (padT (padT t1 24 j174 44) 26 j185 47) 28) u211)) ++ ((XG T g2 (pY t2 24) u2) ++ [])) (List.append_assoc _ _ _).symm
      refine cSI (As := [.ref (g2.1 0), .int (nI j185), .int (nI 44)]) (rest := []) F hW hl cs254 (c_number l D T ([(ar, .inl (T 0, 12, .inl f))] ++ (XG T g (pY (padT (padT t1 24 j174 44) 26 j185 47) 28) u211)) [] g2 t2 (n := 24) hU2 (by omega) (by omega) (by omega) (by omega)) rfl rfl (Nat.le_of_ble_eq_true rfl) ⟨Nat.le_of_ble_eq_true rfl, Nat.le_of_ble_eq_true rfl⟩ ⟨Nat.le_of_ble_eq_true rfl, Nat.le_of_ble_eq_true rfl⟩ dL_reads_222 (fun r222 u222 H locs hp222 hW => ?_)
      obtain ⟨hr222, hU222⟩ := hp222
      subst hr222
      have hW := Wd.is hW (ws' := [(ar, .inl (T 0, 12, .inl f))] ++ (XG T g (pY (padT (padT t1 24 j174 44) 26 j185 47) 28) u211 ++ (XG T g2 (pY (padT t2 24 j185 44) 26) u222 ++ []))) (List.append_assoc _ _ _)
      refine lv_if_eq (tgt := 243) hx hb dL_reads_225 (by decide) (fun h9 => absurd h9 (by decide)) (fun _ => ?_)
      refine lv_aload_n hx hb dL_reads_228 rfl (lv_at hl 3 rfl) ?_
      refine lv_iload hx hb dL_reads_229 (lv_at hl 1 rfl) ?_
      refine lv_bipush (v := nI 47) hx hb dL_reads_231 (by decide) ?_
      have hW := Wd.is hW (ws' := ([(ar, .inl (T 0, 12, .inl f))] ++ (XG T g (pY (padT (padT t1 24 j174 44) 26 j185 47) 28) u211)) ++ ((XG T g2 (pY (padT t2 24 j185 44) 26) u222) ++ [])) (List.append_assoc _ _ _).symm
      refine cSI (As := [.ref (g2.1 0), .int (nI j174), .int (nI 47)]) (rest := []) F hW hl cs254 (c_number l D T ([(ar, .inl (T 0, 12, .inl f))] ++ (XG T g (pY (padT (padT t1 24 j174 44) 26 j185 47) 28) u211)) [] g2 (padT t2 24 j185 44) (n := 26) hU222 (by omega) (by omega) (by omega) (by omega)) rfl rfl (Nat.le_of_ble_eq_true rfl) ⟨Nat.le_of_ble_eq_true rfl, Nat.le_of_ble_eq_true rfl⟩ ⟨Nat.le_of_ble_eq_true rfl, Nat.le_of_ble_eq_true rfl⟩ dL_reads_233 (fun r233 u233 H locs hp233 hW => ?_)
      obtain ⟨hr233, hU233⟩ := hp233
      subst hr233
      have hW := Wd.is hW (ws' := [(ar, .inl (T 0, 12, .inl f))] ++ (XG T g (pY (padT (padT t1 24 j174 44) 26 j185 47) 28) u211 ++ (XG T g2 (pY (padT (padT t2 24 j185 44) 26 j174 47) 28) u233 ++ []))) (List.append_assoc _ _ _)
      refine lv_if_eq (tgt := 243) hx hb dL_reads_236 (by decide) (fun h9 => absurd h9 (by decide)) (fun _ => ?_)
      refine lv_iconst (v := 1) hx hb dL_reads_239 (by decide) ?_
      refine lv_goto (tgt := 244) hx hb dL_reads_240 (by decide) ?_
      refine lv_istore (lv' := [(6, .int 1), (8, .int (nI j185)), (7, .int (nI j174)), (0, .ref (g.1 0)), (1, .ref (g2.1 0)), (2, .int x), (3, .int y), (4, .ref ar)]) hx hb dL_reads_244 hl (by decide) rfl (fun ls hl => ?_)
      refine lv_iload_n hx hb dL_reads_246 rfl (lv_at hl 6 rfl) ?_
      refine lv_bipush (v := nI 9) hx hb dL_reads_247 (by decide) ?_
      refine ishrX hx hb dL_reads_249 (fun z249 => ?_)
      refine lv_iconst (v := nI 2) hx hb dL_reads_250 (by decide) ?_
      refine cRS (As := [.int z249, .int (nI 2)]) (rest := []) F hW hl cs246 (c_up l D T z249 (n := 2) (by decide) (by decide)) [] rfl rfl rfl rfl (Nat.le_of_ble_eq_true rfl) ⟨Nat.le_of_ble_eq_true rfl, Nat.le_of_ble_eq_true rfl⟩ ⟨Nat.le_of_ble_eq_true rfl, Nat.le_of_ble_eq_true rfl⟩ dL_reads_251 (fun r251 hr251 => ?_)
      obtain ⟨j251, hj251, rfl⟩ := hr251
      refine lv_istore (lv' := [(9, .int (nI j251)), (6, .int 1), (8, .int (nI j185)), (7, .int (nI j174)), (0, .ref (g.1 0)), (1, .ref (g2.1 0)), (2, .int x), (3, .int y), (4, .ref ar)]) hx hb dL_reads_254 hl (by decide) rfl (fun ls hl => ?_)
      refine lv_iload hx hb dL_reads_256 (lv_at hl 1 rfl) ?_
      refine lv_if_eq (tgt := 299) hx hb dL_reads_258 (by decide) (fun h9 => absurd h9 (by decide)) (fun _ => ?_)
      refine lv_aload_n hx hb dL_reads_261 rfl (lv_at hl 4 rfl) ?_
      refine lv_bipush (v := nI 48) hx hb dL_reads_262 (by decide) ?_
      refine lv_iload hx hb dL_reads_264 (lv_at hl 0 rfl) ?_
      refine iaddE (z := nI (48 + j251)) hx hb dL_reads_266 (nI_add _ _) ?_
      refine lv_i2l (v := lN (48 + j251)) hx hb dL_reads_267 (nI_l (by omega)) ?_
      refine cGI (As := [.long (lN (48 + j251))]) (rest := []) F ([(ar, .inl (T 0, 12, .inl f))]) (XG T g (pY (padT (padT t1 24 j174 44) 26 j185 47) 28) u211) (XG T g2 (pY (padT (padT t2 24 j185 44) 26 j174 47) 28) u233 ++ []) hW hl cs257 (g_put1 l D T g (padT (padT t1 24 j174 44) 26 j185 47) hU211 (x := 48 + j251) (by omega) (by omega) (by decide)) 8 6 (xg_at _ _ _ _) rfl rfl rfl rfl (Nat.le_of_ble_eq_true rfl) ⟨Nat.le_of_ble_eq_true rfl, Nat.le_of_ble_eq_true rfl⟩ ⟨Nat.le_of_ble_eq_true rfl, Nat.le_of_ble_eq_true rfl⟩ dL_reads_268 (fun r268 u268 H locs hp268 hW => ?_)
      obtain ⟨hr268, hU268⟩ := hp268
      subst hr268
      refine lv_aload_n hx hb dL_reads_271 rfl (lv_at hl 5 rfl) ?_
      refine lv_bipush (v := nI 49) hx hb dL_reads_272 (by decide) ?_
      refine lv_iload hx hb dL_reads_274 (lv_at hl 0 rfl) ?_
      refine isubE (z := nI (48 + (1 - j251))) hx hb dL_reads_276 (by rw [pk_sub (by omega), show 49 - j251 = 48 + (1 - j251) by omega]) ?_
      refine lv_i2l (v := lN (48 + (1 - j251))) hx hb dL_reads_277 (nI_l (by omega)) ?_
      refine cGI2 (As := [.long (lN (48 + (1 - j251)))]) (rest := [.int (nI 29)]) F ([(ar, .inl (T 0, 12, .inl f))]) (XG T g (pY (apT (padT (padT t1 24 j174 44) 26 j185 47) 28 1 (48 + j251) 1) 29) u268) (XG T g2 (pY (padT (padT t2 24 j185 44) 26 j174 47) 28) u233) [] hW hl cs257 (g_put1 l D T g2 (padT (padT t2 24 j185 44) 26 j174 47) hU233 (x := 48 + (1 - j251)) (by omega) (by omega) (by decide)) 8 6 (xg_at _ _ _ _) rfl rfl rfl rfl (Nat.le_of_ble_eq_true rfl) ⟨Nat.le_of_ble_eq_true rfl, Nat.le_of_ble_eq_true rfl⟩ ⟨Nat.le_of_ble_eq_true rfl, Nat.le_of_ble_eq_true rfl⟩ dL_reads_278 (fun r278 u278 H locs hp278 hW => ?_)
      obtain ⟨hr278, hU278⟩ := hp278
      subst hr278
      refine lv_icmp_ne (tgt := 299) hx hb dL_reads_281 (by decide) (fun h9 => absurd rfl h9) (fun _ => ?_)
      have hT1 : TX t1 24 hh := hT1
      have hT2 : TX t2 24 (fun j => hh (sg j)) := hT2
      have hR1 := tx_all (a := j174) (b := j185) (c := j251) hT1 (by omega) (by omega) (by omega)
      have hR2 := tx_all (a := j185) (b := j174) (c := 1 - j251) hT2 (by omega) (by omega) (by omega)
      have hdg := dgs_b (a := j174) (b := j185) (c := j251) hhd (by omega) (by omega)
      have rm := read_m hR1 hR2 hdg (show j251 < 2 by omega) (fun k hk => by show dgs (fun j => hh (sg j)) j185 j174 (1 - j251) (sg k) = dgs hh j174 j185 j251 k; unfold dgs; rw [if_pos (sg_lt k), if_pos hk]; show hh (sg (sg k)) = hh k; rw [sg_sg hk]) rfl rfl rfl
      refine lv_aload_n hx hb dL_reads_284 rfl (lv_at hl 4 rfl) ?_
      refine cGI (As := []) (rest := []) F ([(ar, .inl (T 0, 12, .inl f))]) (XG T g (pY (apT (padT (padT t1 24 j174 44) 26 j185 47) 28 1 (48 + j251) 1) 29) u268) (XG T g2 (pY (apT (padT (padT t2 24 j185 44) 26 j174 47) 28 1 (48 + (1 - j251)) 1) 29) u278 ++ []) hW hl cs271 (g_read l D T g (yok_p _ (n := 29) (by decide)) hU268) 8 6 (xg_at _ _ _ _) rfl rfl rfl rfl (Nat.le_of_ble_eq_true rfl) ⟨Nat.le_of_ble_eq_true rfl, Nat.le_of_ble_eq_true rfl⟩ ⟨Nat.le_of_ble_eq_true rfl, Nat.le_of_ble_eq_true rfl⟩ dL_reads_285 (fun r285 u285 H locs hp285 hW => ?_)
      obtain ⟨hr285, hU285⟩ := hp285
      subst hr285
      refine lv_aload_n hx hb dL_reads_288 rfl (lv_at hl 5 rfl) ?_
      refine cGI2 (As := []) (rest := [.int ((yRead (pY (apT (padT (padT t1 24 j174 44) 26 j185 47) 28 1 (48 + j251) 1) 29)).1)]) F ([(ar, .inl (T 0, 12, .inl f))]) (XG T g ((yRead (pY (apT (padT (padT t1 24 j174 44) 26 j185 47) 28 1 (48 + j251) 1) 29)).2) u285) (XG T g2 (pY (apT (padT (padT t2 24 j185 44) 26 j174 47) 28 1 (48 + (1 - j251)) 1) 29) u278) [] hW hl cs271 (g_read l D T g2 (yok_p _ (n := 29) (by decide)) hU278) 8 6 (xg_at _ _ _ _) rfl rfl rfl rfl (Nat.le_of_ble_eq_true rfl) ⟨Nat.le_of_ble_eq_true rfl, Nat.le_of_ble_eq_true rfl⟩ ⟨Nat.le_of_ble_eq_true rfl, Nat.le_of_ble_eq_true rfl⟩ dL_reads_289 (fun r289 u289 H locs hp289 hW => ?_)
      obtain ⟨hr289, hU289⟩ := hp289
      subst hr289
      refine lv_icmp_ne (tgt := 299) hx hb dL_reads_292 (by decide) (fun h9 => absurd rm.1 h9) (fun _ => ?_)
      refine lv_iconst (v := 1) hx hb dL_reads_295 (by decide) ?_
      refine lv_goto (tgt := 300) hx hb dL_reads_296 (by decide) ?_
      have hW := hW.rot.fst
      exact retN F hr hlk rfl hW ⟨Nat.le_of_ble_eq_true rfl, Nat.le_of_ble_eq_true rfl⟩ ((yRead (pY (apT (padT (padT t1 24 j174 44) 26 j185 47) 28 1 (48 + j251) 1) 29)).2, (yRead (pY (apT (padT (padT t2 24 j185 44) 26 j174 47) 28 1 (48 + (1 - j251)) 1) 29)).2, u285, u289) ⟨rfl, rm.2, hU285, hU289⟩ rfl dL_reads_300
    · have hk2 : k < 12 := by have := n_nle h89 (by omega) (by omega); omega
      have hd1 := hhd k hk2
      have hsg := sg_lt k
      have hsep := sepN_b k
      refine lv_iload hx hb dL_reads_92 (lv_at hl 5 rfl) ?_
      refine lv_if_eq (tgt := 159) hx hb dL_reads_94 (by decide) (fun h9 => absurd h9 (by decide)) (fun _ => ?_)
      refine lv_aload_n hx hb dL_reads_97 rfl (lv_at hl 0 rfl) ?_
      refine lv_aload hx hb dL_reads_98 (lv_at hl 4 rfl) ?_
      refine lv_iload hx hb dL_reads_100 (lv_at hl 6 rfl) ?_
      refine ald F hW 0 rfl (x := nI (hh k)) k rfl (by omega) (by decide) (hhf k (by omega)) dL_reads_102 ?_
      refine lv_iload hx hb dL_reads_103 (lv_at hl 6 rfl) ?_
      refine lv_bipush (v := nI 11) hx hb dL_reads_105 (by decide) ?_
      refine W.fork (X := Unit) 117 (fun _ => [.int (nI (sepN k)), .int (nI (hh k)), .ref (g.1 0)]) (fun _ H2 locs2 ls2 => H2 = H ∧ locs2 = locs ∧ lv_has ls2 10 [(0, .ref (g.1 0)), (1, .ref (g2.1 0)), (2, .int x), (3, .int y), (4, .ref ar), (6, .int 1), (7, .int (nI k))]) (fun hJ => ?_) ?_
      · refine lv_icmp_ge (tgt := 115) hx hb dL_reads_107 (by decide) (fun h107 => ?_) (fun h107 => ?_)
        · have hc := n_le h107 (by omega) (by omega)
          have e9 : sepN k = 47 := if_pos (by omega)
          rw [e9] at hJ
          refine lv_bipush (v := nI 47) hx hb dL_reads_115 (by decide) ?_
          exact hJ () _ _ _ ⟨rfl, rfl, hl⟩
        · have hc := n_nle h107 (by omega) (by omega)
          have e9 : sepN k = 44 := if_neg (by omega)
          rw [e9] at hJ
          refine lv_bipush (v := nI 44) hx hb dL_reads_110 (by decide) ?_
          refine lv_goto (tgt := 117) hx hb dL_reads_112 (by decide) ?_
          exact hJ () _ _ _ ⟨rfl, rfl, hl⟩
      · rintro - H2 locs2 ls ⟨rfl, rfl, hl⟩
        refine cSI (As := [.ref (g.1 0), .int (nI (hh k)), .int (nI (sepN k))]) (rest := []) F hW hl cs254 (c_number l D T ([(ar, .inl (T 0, 12, .inl f))]) ((XG T g2 (pY t2 (2 * k)) u2) ++ []) g t1 (n := 2 * k) hU1 (by omega) (by omega) (by omega) (by omega)) rfl rfl (Nat.le_of_ble_eq_true rfl) ⟨Nat.le_of_ble_eq_true rfl, Nat.le_of_ble_eq_true rfl⟩ ⟨Nat.le_of_ble_eq_true rfl, Nat.le_of_ble_eq_true rfl⟩ dL_reads_117 (fun r117 u117 H locs hp117 hW => ?_)
        obtain ⟨hr117, hU117⟩ := hp117
        subst hr117
        refine lv_if_eq (tgt := 159) hx hb dL_reads_120 (by decide) (fun h9 => absurd h9 (by decide)) (fun _ => ?_)
        refine lv_aload_n hx hb dL_reads_123 rfl (lv_at hl 1 rfl) ?_
        refine lv_aload hx hb dL_reads_124 (lv_at hl 4 rfl) ?_
        refine lv_iload hx hb dL_reads_126 (lv_at hl 6 rfl) ?_
        refine lv_bipush (v := nI 6) hx hb dL_reads_128 (by decide) ?_
        refine iaddE (z := nI (k + 6)) hx hb dL_reads_130 (nI_add _ _) ?_
        refine lv_bipush (v := nI 12) hx hb dL_reads_131 (by decide) ?_
        refine iremE (z := nI (sg k)) hx hb dL_reads_133 ⟨by decide, pk_rem (a := k + 6) (d := 12) (by omega) (by decide) (by decide)⟩ ?_
        refine ald F hW 0 rfl (x := nI (hh (sg k))) (sg k) rfl (by omega) (by decide) (hhf _ hsg) dL_reads_134 ?_
        have hd2 := hhd _ hsg
        refine lv_iload hx hb dL_reads_135 (lv_at hl 6 rfl) ?_
        refine lv_bipush (v := nI 11) hx hb dL_reads_137 (by decide) ?_
        refine W.fork (X := Unit) 149 (fun _ => [.int (nI (sepN k)), .int (nI (hh (sg k))), .ref (g2.1 0)]) (fun _ H2 locs2 ls2 => H2 = H ∧ locs2 = locs ∧ lv_has ls2 10 [(0, .ref (g.1 0)), (1, .ref (g2.1 0)), (2, .int x), (3, .int y), (4, .ref ar), (6, .int 1), (7, .int (nI k))]) (fun hJ => ?_) ?_
        · refine lv_icmp_ge (tgt := 147) hx hb dL_reads_139 (by decide) (fun h139 => ?_) (fun h139 => ?_)
          · have hc := n_le h139 (by omega) (by omega)
            have e9 : sepN k = 47 := if_pos (by omega)
            rw [e9] at hJ
            refine lv_bipush (v := nI 47) hx hb dL_reads_147 (by decide) ?_
            exact hJ () _ _ _ ⟨rfl, rfl, hl⟩
          · have hc := n_nle h139 (by omega) (by omega)
            have e9 : sepN k = 44 := if_neg (by omega)
            rw [e9] at hJ
            refine lv_bipush (v := nI 44) hx hb dL_reads_142 (by decide) ?_
            refine lv_goto (tgt := 149) hx hb dL_reads_144 (by decide) ?_
            exact hJ () _ _ _ ⟨rfl, rfl, hl⟩
        · rintro - H2 locs2 ls ⟨rfl, rfl, hl⟩
          have hW := Wd.is hW (ws' := ([(ar, .inl (T 0, 12, .inl f))] ++ (XG T g (pY (padT t1 (2 * k) (hh k) (sepN k)) (2 * k + 2)) u117)) ++ ((XG T g2 (pY t2 (2 * k)) u2) ++ [])) (List.append_assoc _ _ _).symm
          refine cSI (As := [.ref (g2.1 0), .int (nI (hh (sg k))), .int (nI (sepN k))]) (rest := []) F hW hl cs254 (c_number l D T ([(ar, .inl (T 0, 12, .inl f))] ++ (XG T g (pY (padT t1 (2 * k) (hh k) (sepN k)) (2 * k + 2)) u117)) [] g2 t2 (n := 2 * k) hU2 (by omega) (by omega) (by omega) (by omega)) rfl rfl (Nat.le_of_ble_eq_true rfl) ⟨Nat.le_of_ble_eq_true rfl, Nat.le_of_ble_eq_true rfl⟩ ⟨Nat.le_of_ble_eq_true rfl, Nat.le_of_ble_eq_true rfl⟩ dL_reads_149 (fun r149 u149 H locs hp149 hW => ?_)
          obtain ⟨hr149, hU149⟩ := hp149
          subst hr149
          have hW := Wd.is hW (ws' := [(ar, .inl (T 0, 12, .inl f))] ++ (XG T g (pY (padT t1 (2 * k) (hh k) (sepN k)) (2 * k + 2)) u117 ++ (XG T g2 (pY (padT t2 (2 * k) (hh (sg k)) (sepN k)) (2 * k + 2)) u149 ++ []))) (List.append_assoc _ _ _)
          refine lv_if_eq (tgt := 159) hx hb dL_reads_152 (by decide) (fun h9 => absurd h9 (by decide)) (fun _ => ?_)
          refine lv_iconst (v := 1) hx hb dL_reads_155 (by decide) ?_
          refine lv_goto (tgt := 160) hx hb dL_reads_156 (by decide) ?_
          refine lv_istore (lv' := [(6, .int 1), (0, .ref (g.1 0)), (1, .ref (g2.1 0)), (2, .int x), (3, .int y), (4, .ref ar), (7, .int (nI k))]) hx hb dL_reads_160 hl (by decide) rfl (fun ls hl => ?_)
          refine lv_iinc (v := nI (k + 1)) (lv' := [(7, .int (nI (k + 1))), (6, .int 1), (0, .ref (g.1 0)), (1, .ref (g2.1 0)), (2, .int x), (3, .int y), (4, .ref ar)]) hx hb dL_reads_162 hl (k := 6) rfl (nI_add _ _) (by decide) rfl (fun ls hl => ?_)
          refine lv_goto (tgt := 85) hx hb dL_reads_165 (by decide) ?_
          exact ih2 (12 - (k + 1)) _ _ _ (by omega) ⟨k + 1, _, _, _, _, by omega, rfl, tx_step hT1 (hhd k hk2) rfl, tx_step (dg := fun j => hh (sg j)) hT2 hd2 rfl, hU117, hU149, hW, lv_sub hl [2, 3, 4, 5, 6, 1, 0] rfl⟩
  · have hi2 : i < 12 := by have := n_nle h23 (by omega) (by omega); omega
    refine lv_aload hx hb dL_reads_26 (lv_at hl 4 rfl) ?_
    refine lv_iload hx hb dL_reads_28 (lv_at hl 6 rfl) ?_
    refine lv_iload_n hx hb dL_reads_30 rfl (lv_at hl 3 rfl) ?_
    refine lv_iload hx hb dL_reads_31 (lv_at hl 6 rfl) ?_
    refine ishrX hx hb dL_reads_33 (fun z33 => ?_)
    refine lv_iconst (v := nI 4) hx hb dL_reads_34 (by decide) ?_
    refine cRS (As := [.int z33, .int (nI 4)]) (rest := [.int (nI i), .ref ar]) F hW hl cs246 (c_up l D T z33 (n := 4) (by decide) (by decide)) [] rfl rfl rfl rfl (Nat.le_of_ble_eq_true rfl) ⟨Nat.le_of_ble_eq_true rfl, Nat.le_of_ble_eq_true rfl⟩ ⟨Nat.le_of_ble_eq_true rfl, Nat.le_of_ble_eq_true rfl⟩ dL_reads_35 (fun r35 hr35 => ?_)
    obtain ⟨j35, hj35, rfl⟩ := hr35
    refine W.fork (X := Nat) 54 (fun dd => [.int (nI dd), .int (nI i), .ref ar]) (fun dd H2 locs2 ls2 => dd < 10 ∧ H2 = H ∧ locs2 = locs ∧ lv_has ls2 10 [(0, .ref (g.1 0)), (1, .ref (g2.1 0)), (2, .int x), (3, .int y), (4, .ref ar), (5, .int (nI (2 + j10))), (6, .int (nI i))]) (fun hJ => ?_) ?_
    · refine lv_if_ne (tgt := 45) hx hb dL_reads_38 (by decide) (fun h38 => ?_) (fun h38 => ?_)
      · refine lv_iload_n hx hb dL_reads_45 rfl (lv_at hl 2 rfl) ?_
        refine lv_iload hx hb dL_reads_46 (lv_at hl 6 rfl) ?_
        refine ishrX hx hb dL_reads_48 (fun z48 => ?_)
        refine lv_iload hx hb dL_reads_49 (lv_at hl 5 rfl) ?_
        refine cRS (As := [.int z48, .int (nI (2 + j10))]) (rest := [.int (nI i), .ref ar]) F hW hl cs246 (c_up l D T z48 (n := 2 + j10) (by omega) (by omega)) [] rfl rfl rfl rfl (Nat.le_of_ble_eq_true rfl) ⟨Nat.le_of_ble_eq_true rfl, Nat.le_of_ble_eq_true rfl⟩ ⟨Nat.le_of_ble_eq_true rfl, Nat.le_of_ble_eq_true rfl⟩ dL_reads_51 (fun r51 hr51 => ?_)
        obtain ⟨j51, hj51, rfl⟩ := hr51
        exact hJ j51 _ _ _ ⟨by omega, rfl, rfl, hl⟩
      · refine lv_iconst (v := nI 0) hx hb dL_reads_41 (by decide) ?_
        refine lv_goto (tgt := 54) hx hb dL_reads_42 (by decide) ?_
        exact hJ 0 _ _ _ ⟨by decide, rfl, rfl, hl⟩
    · rintro dd H2 locs2 ls ⟨hdd, rfl, rfl, hl⟩
      refine ast (ws' := [(ar, .inl (T 0, 12, .inl (upd f i (nI dd))))] ++ (XG T g (pY Y0.pad 0) u ++ (XG T g2 (pY Y0.pad 0) v ++ []))) F hW 0 (upd f i (nI dd)) rfl i rfl (by omega) (by decide) (fun _ _ => rfl) rfl dL_reads_54 (fun H locs hW => ?_)
      refine lv_iinc (v := nI (i + 1)) (lv' := [(6, .int (nI (i + 1))), (0, .ref (g.1 0)), (1, .ref (g2.1 0)), (2, .int x), (3, .int y), (4, .ref ar), (5, .int (nI (2 + j10)))]) hx hb dL_reads_55 hl (k := 6) rfl (nI_add _ _) (by decide) rfl (fun ls hl => ?_)
      refine lv_goto (tgt := 19) hx hb dL_reads_58 (by decide) ?_
      exact ih (12 - (i + 1)) _ _ _ (by omega) ⟨i + 1, upd f i (nI dd), by omega, rfl, dig_up hf hdd, hW, lv_sub hl [1, 2, 3, 4, 5, 6, 0] rfl⟩
