-- Pad; the rows wb_.. began as the starting texts of laws/BITS
theorem wb_tb (n : Nat) : (lN n).toBitVec = BitVec.ofNat 64 n := rfl
theorem wb_inj {a b : Int64} (h : a.toBitVec = b.toBitVec) : a = b := Int64.toBitVec_inj.mp h
theorem wb_tn {n : Nat} (h : n < 2 ^ 64) : (lN n).toBitVec.toNat = n := by rw [wb_tb, BitVec.toNat_ofNat, Nat.mod_eq_of_lt h]
theorem wb_of (x : Int64) : ∃ n, n < 2 ^ 64 ∧ x = lN n := ⟨x.toBitVec.toNat, x.toBitVec.isLt, wb_inj (by rw [wb_tb]; simp)⟩
theorem wb_of32 (x : Int32) : ∃ n, n < 2 ^ 32 ∧ x = nI n := ⟨x.toBitVec.toNat, x.toBitVec.isLt, Int32.toBitVec_inj.mp (by show _ = BitVec.ofNat 32 _; simp)⟩
theorem wb_c : ∀ k, k < 64 → ((nI k).toInt64 &&& 63) = lN k := by decide +kernel
theorem wb_cu : ∀ k, k < 64 → ((nI k).toInt64.toUInt64 &&& Int64.toUInt64 63) = UInt64.ofNat k := by decide +kernel
theorem wb_sm : ∀ k, k < 64 → (BitVec.ofNat 64 k).smod 64 = BitVec.ofNat 64 k := by decide +kernel
theorem wb_pw {a b : Nat} (h : a ≤ b) : 2 ^ b = 2 ^ a * 2 ^ (b - a) := by rw [← Nat.pow_add]; congr 1; omega
theorem wb_lt2 {a b : Nat} (h : a < b) : 2 ^ a < 2 ^ b := Nat.pow_lt_pow_right (by decide) h
theorem wb_mod (n : Nat) : lN n = lN (n % 2 ^ 64) := wb_inj (by rw [wb_tb, wb_tb]; apply BitVec.eq_of_toNat_eq; rw [BitVec.toNat_ofNat, BitVec.toNat_ofNat, Nat.mod_mod])
theorem wb_shr {n k : Nat} (hn : n < 2 ^ 64) (hk : k < 64) : ((lN n).toUInt64 >>> ((nI k).toInt64.toUInt64 &&& Int64.toUInt64 63)).toInt64 = lN (n / 2 ^ k) := by
  rw [wb_cu k hk]
  apply wb_inj
  apply BitVec.eq_of_toNat_eq
  show ((lN n).toUInt64 >>> UInt64.ofNat k).toNat = (BitVec.ofNat 64 _).toNat
  have h1 : (UInt64.ofNat k).toNat = k := by
    show (BitVec.ofNat 64 k).toNat = k
    rw [BitVec.toNat_ofNat, Nat.mod_eq_of_lt (by omega)]
  have h2 : (lN n).toUInt64.toNat = n := wb_tn hn
  rw [UInt64.toNat_shiftRight, h1, h2, Nat.mod_eq_of_lt hk, Nat.shiftRight_eq_div_pow, BitVec.toNat_ofNat, Nat.mod_eq_of_lt (Nat.lt_of_le_of_lt (Nat.div_le_self _ _) hn)]
theorem wb_shl (n : Nat) {k : Nat} (hk : k < 64) : lN n <<< ((nI k).toInt64 &&& 63) = lN (n * 2 ^ k) := by
  rw [wb_c k hk]
  apply wb_inj
  rw [Int64.toBitVec_shiftLeft, wb_tb, wb_tb, wb_tb, wb_sm k hk]
  apply BitVec.eq_of_toNat_eq
  rw [BitVec.shiftLeft_eq', BitVec.toNat_shiftLeft, BitVec.toNat_ofNat, BitVec.toNat_ofNat, BitVec.toNat_ofNat, Nat.mod_eq_of_lt (show k < 2 ^ 64 by omega), Nat.shiftLeft_eq, Nat.mul_mod, Nat.mod_mod, ← Nat.mul_mod]
theorem wb_and {a b : Nat} (ha : a < 2 ^ 64) (hb : b < 2 ^ 64) : lN a &&& lN b = lN (a &&& b) := by
  apply wb_inj
  rw [Int64.toBitVec_and, wb_tb, wb_tb, wb_tb]
  apply BitVec.eq_of_toNat_eq
  rw [BitVec.toNat_and, BitVec.toNat_ofNat, BitVec.toNat_ofNat, BitVec.toNat_ofNat, Nat.mod_eq_of_lt ha, Nat.mod_eq_of_lt hb, Nat.mod_eq_of_lt (Nat.and_lt_two_pow _ hb)]
theorem wb_or {a b : Nat} (ha : a < 2 ^ 64) (hb : b < 2 ^ 64) : lN a ||| lN b = lN (a ||| b) := by
  apply wb_inj
  rw [Int64.toBitVec_or, wb_tb, wb_tb, wb_tb]
  apply BitVec.eq_of_toNat_eq
  rw [BitVec.toNat_or, BitVec.toNat_ofNat, BitVec.toNat_ofNat, BitVec.toNat_ofNat, Nat.mod_eq_of_lt ha, Nat.mod_eq_of_lt hb, Nat.mod_eq_of_lt (Nat.or_lt_two_pow ha hb)]
theorem wb_mask {n k : Nat} (hn : n < 2 ^ 64) (hk : k < 64) : lN n &&& lN (2 ^ k - 1) = lN (n % 2 ^ k) := by
  rw [wb_and hn (by have := wb_lt2 hk; omega), Nat.and_two_pow_sub_one_eq_mod]
section LONGS
variable {p : Program} {l : Launch} {e : Env} {R : Room} {s : State} {m : MethodId} {args : Array Value} {below : List Frame} {meth : Method} {c : Code} {H : Heap} {locs : List Loc} {cells slots : Nat} {Q : State → Prop} {cc : ByteArray} {pc : Nat} {ls : Array Slot} {rest : List Value}
theorem landE (hexec : p.tables.exec = Jvm.exec) (hb : c.code = cc) {x y z : Int64} (hdg : decode cc pc = .ok (.land, 1)) (hz : x &&& y = z) (kk : W p l e R s m args below meth c H locs cells slots Q (F0 m (pc + 1) ls (.long z :: rest))) : W p l e R s m args below meth c H locs cells slots Q (F0 m pc ls (.long y :: .long x :: rest)) := by
  subst hz; exact lv_land hexec hb hdg kk
theorem lorE (hexec : p.tables.exec = Jvm.exec) (hb : c.code = cc) {x y z : Int64} (hdg : decode cc pc = .ok (.lor, 1)) (hz : x ||| y = z) (kk : W p l e R s m args below meth c H locs cells slots Q (F0 m (pc + 1) ls (.long z :: rest))) : W p l e R s m args below meth c H locs cells slots Q (F0 m pc ls (.long y :: .long x :: rest)) := by
  subst hz; exact lv_lor hexec hb hdg kk
theorem lsubE (hexec : p.tables.exec = Jvm.exec) (hb : c.code = cc) {x y z : Int64} (hdg : decode cc pc = .ok (.lsub, 1)) (hz : x - y = z) (kk : W p l e R s m args below meth c H locs cells slots Q (F0 m (pc + 1) ls (.long z :: rest))) : W p l e R s m args below meth c H locs cells slots Q (F0 m pc ls (.long y :: .long x :: rest)) := by
  subst hz; exact lv_lsub hexec hb hdg kk
end LONGS
abbrev fitC (c : Int32) (f d : Nat) (nb : Nat → Int32) : Prop := (f = 14 ∧ d = 0 ∧ (c = 48 ∨ c = 49)) ∨ (¬ f = 14 ∧ (48 ≤ c ∧ c ≤ 57) ∧ (d = 0 ∨ d = 1 ∧ ¬ nb f = 0))
def sgnC (f : Nat) : Int32 := if f = 11 ∨ f = 13 then 47 else 44
def numC (c : Int32) (f d : Nat) (nb : Nat → Int32) : Nat → Int32 := upd nb f ((if d = 0 then 0 else nb f * 10) + c - 48)
/-- the text t read from i on, k characters still to come, in the number f, behind d of its digits -/
def scanF : Nat → Nat → Nat → Nat → (Nat → Int32) → (Nat → Int32) → Int32 × (Nat → Int32)
  | 0, i, f, d, _, nb => (if f = 14 ∧ 0 < d then -6 else nI i, nb)
  | k + 1, i, f, d, t, nb => if fitC (t i) f d nb then scanF k (i + 1) f (d + 1) t (numC (t i) f d nb) else if 0 < d ∧ f < 14 ∧ t i = sgnC f then scanF k (i + 1) (f + 1) 0 t nb else (nI i, nb)
def chF : Nat → Nat → Nat → Nat
  | 0, _, c => c
  | n + 1, x, c => if x = 0 then c else if x % 256 < 33 ∨ 126 < x % 256 then 0 else chF n (x / 256) (c + 1)
def apT (t : Nat → Int32) (n c x m : Nat) : Nat → Int32 := fun j => if n ≤ j ∧ j < n + m then nI (x / 2 ^ (8 * (c - 1 - (j - n))) % 256) else t j
theorem lN_z {y : Nat} (hy : y < 2 ^ 64) : lN y = 0 ↔ y = 0 := by
  constructor
  · intro h
    have h2 : (lN y).toBitVec.toNat = (0 : Int64).toBitVec.toNat := congrArg (fun z : Int64 => z.toBitVec.toNat) h
    have e1 := wb_tn hy
    have e2 : (0 : Int64).toBitVec.toNat = 0 := by decide
    omega
  · intro h; rw [h]; rfl
theorem mask8 {y : Nat} (hy : y < 2 ^ 64) : lN y &&& 255 = lN (y % 256) := wb_mask (k := 8) hy (by decide)
theorem shr8 {y : Nat} (hy : y < 2 ^ 64) : ((lN y).toUInt64 >>> ((nI 8).toInt64.toUInt64 &&& Int64.toUInt64 63)).toInt64 = lN (y / 256) := wb_shr (k := 8) hy (by decide)
theorem nar_c {b : Nat} (hb : b < 65536) : vp_nar .char (nI b) = nI b := by unfold vp_nar; rw [(pk_charN hb).1]
set_option maxHeartbeats 4000000 in
set_option maxRecDepth 100000 in
theorem c_digitFits (l : Launch) (D : va_G) (T : Nat → ClassId) (p0 p1 p2 : Nat) (ln ch : Int32) (nb : Nat → Int32) {f d : Nat} (hf : f < 15) (hd : d < 2 ^ 31) : KR l D T yX2_digitFits cX2_digitFits 5 (some .boolean) 0 [.ref p0, .int ch, .int (nI f), .int (nI d)] [(p0, .inr (2, [.ref p1, .ref p2, .int ln])), (p2, .inl (T 0, 15, .inl nb))] (fun r => r = if fitC ch f d nb then 1 else 0) := by
  refine KR.of (by decide +kernel) (Nat.le_of_ble_eq_true rfl) (fun p e s m below meth c F hr hlk hW ls hl => ?_)
  have hx := F.1
  have hb := F.2.1
  have hl : lv_has ls 5 [(0, .ref p0), (1, .int ch), (2, .int (nI f)), (3, .int (nI d))] := hl
  refine lv_iload_n hx hb dX2_digitFits_0 rfl (lv_at hl 2 rfl) ?_
  refine lv_bipush (v := nI 14) hx hb dX2_digitFits_1 (by decide) ?_
  refine lv_icmp_ne (tgt := 28) hx hb dX2_digitFits_3 (by decide) (fun h3 => ?_) (fun h3 => ?_)
  · have f14 : ¬ f = 14 := n_ne h3
    refine lv_iload_n hx hb dX2_digitFits_28 rfl (lv_at hl 1 rfl) ?_
    refine lv_bipush (v := nI 48) hx hb dX2_digitFits_29 (by decide) ?_
    refine lv_icmp_lt (tgt := 44) hx hb dX2_digitFits_31 (by decide) (fun h31 => ?_) (fun h31 => ?_)
    · refine lv_iconst (v := 0) hx hb dX2_digitFits_44 (by decide) ?_
      refine lv_istore (lv' := [(4, .int 0), (0, .ref p0), (1, .int ch), (2, .int (nI f)), (3, .int (nI d))]) hx hb dX2_digitFits_45 hl (by decide) rfl (fun ls hl => ?_)
      refine lv_iload hx hb dX2_digitFits_47 (lv_at hl 0 rfl) ?_
      refine lv_if_eq (tgt := 74) hx hb dX2_digitFits_49 (by decide) (fun _ => ?_) (fun h9 => absurd rfl h9)
      refine lv_iconst (v := 0) hx hb dX2_digitFits_74 (by decide) ?_
      exact retR F hr hlk rfl (if_neg (show ¬ fitC ch f d nb from (fun q => q.elim (fun q => f14 q.1) (fun q => Int32.not_lt.mpr q.2.1.1 h31)))).symm dX2_digitFits_75
    · refine lv_iload_n hx hb dX2_digitFits_34 rfl (lv_at hl 1 rfl) ?_
      refine lv_bipush (v := nI 57) hx hb dX2_digitFits_35 (by decide) ?_
      refine lv_icmp_gt (tgt := 44) hx hb dX2_digitFits_37 (by decide) (fun h37 => ?_) (fun h37 => ?_)
      · refine lv_iconst (v := 0) hx hb dX2_digitFits_44 (by decide) ?_
        refine lv_istore (lv' := [(4, .int 0), (0, .ref p0), (1, .int ch), (2, .int (nI f)), (3, .int (nI d))]) hx hb dX2_digitFits_45 hl (by decide) rfl (fun ls hl => ?_)
        refine lv_iload hx hb dX2_digitFits_47 (lv_at hl 0 rfl) ?_
        refine lv_if_eq (tgt := 74) hx hb dX2_digitFits_49 (by decide) (fun _ => ?_) (fun h9 => absurd rfl h9)
        refine lv_iconst (v := 0) hx hb dX2_digitFits_74 (by decide) ?_
        exact retR F hr hlk rfl (if_neg (show ¬ fitC ch f d nb from (fun q => q.elim (fun q => f14 q.1) (fun q => Int32.not_lt.mpr q.2.1.2 h37)))).symm dX2_digitFits_75
      · have hdig : 48 ≤ ch ∧ ch ≤ 57 := ⟨Int32.not_lt.mp h31, Int32.not_lt.mp h37⟩
        refine lv_iconst (v := 1) hx hb dX2_digitFits_40 (by decide) ?_
        refine lv_goto (tgt := 45) hx hb dX2_digitFits_41 (by decide) ?_
        refine lv_istore (lv' := [(4, .int 1), (0, .ref p0), (1, .int ch), (2, .int (nI f)), (3, .int (nI d))]) hx hb dX2_digitFits_45 hl (by decide) rfl (fun ls hl => ?_)
        refine lv_iload hx hb dX2_digitFits_47 (lv_at hl 0 rfl) ?_
        refine lv_if_eq (tgt := 74) hx hb dX2_digitFits_49 (by decide) (fun h9 => absurd h9 (by decide)) (fun _ => ?_)
        refine lv_iload_n hx hb dX2_digitFits_52 rfl (lv_at hl 4 rfl) ?_
        refine lv_if_eq (tgt := 70) hx hb dX2_digitFits_53 (by decide) (fun h53 => ?_) (fun h53 => ?_)
        · refine lv_iconst (v := 1) hx hb dX2_digitFits_70 (by decide) ?_
          refine lv_goto (tgt := 75) hx hb dX2_digitFits_71 (by decide) ?_
          exact retR F hr hlk rfl (if_pos (show fitC ch f d nb from Or.inr ⟨f14, hdig, Or.inl (n_eq (b := 0) h53 (by omega) (by decide))⟩)).symm dX2_digitFits_75
        · have d0 : ¬ d = 0 := n_ne (b := 0) h53
          refine lv_iload_n hx hb dX2_digitFits_56 rfl (lv_at hl 4 rfl) ?_
          refine lv_iconst (v := nI 1) hx hb dX2_digitFits_57 (by decide) ?_
          refine lv_icmp_ne (tgt := 74) hx hb dX2_digitFits_58 (by decide) (fun h58 => ?_) (fun h58 => ?_)
          · refine lv_iconst (v := 0) hx hb dX2_digitFits_74 (by decide) ?_
            exact retR F hr hlk rfl (if_neg (show ¬ fitC ch f d nb from (fun q => q.elim (fun q => f14 q.1) (fun q => q.2.2.elim d0 (fun q => n_ne h58 q.1))))).symm dX2_digitFits_75
          · refine lv_aload_n hx hb dX2_digitFits_61 rfl (lv_at hl 1 rfl) ?_
            refine gf152 F hW 0 rfl rfl dX2_digitFits_62 ?_
            refine lv_iload_n hx hb dX2_digitFits_65 rfl (lv_at hl 3 rfl) ?_
            refine ald F hW 1 rfl (x := nb f) f rfl (by omega) (by decide) rfl dX2_digitFits_66 ?_
            refine lv_if_eq (tgt := 74) hx hb dX2_digitFits_67 (by decide) (fun h67 => ?_) (fun h67 => ?_)
            · refine lv_iconst (v := 0) hx hb dX2_digitFits_74 (by decide) ?_
              exact retR F hr hlk rfl (if_neg (show ¬ fitC ch f d nb from (fun q => q.elim (fun q => f14 q.1) (fun q => q.2.2.elim d0 (fun q => q.2 h67))))).symm dX2_digitFits_75
            · refine lv_iconst (v := 1) hx hb dX2_digitFits_70 (by decide) ?_
              refine lv_goto (tgt := 75) hx hb dX2_digitFits_71 (by decide) ?_
              exact retR F hr hlk rfl (if_pos (show fitC ch f d nb from Or.inr ⟨f14, hdig, Or.inr ⟨n_eq h58 (by omega) (by decide), h67⟩⟩)).symm dX2_digitFits_75
  · have f14 : f = 14 := n_eq h3 (by omega) (by decide)
    refine lv_iload_n hx hb dX2_digitFits_6 rfl (lv_at hl 3 rfl) ?_
    refine lv_if_ne (tgt := 26) hx hb dX2_digitFits_7 (by decide) (fun h7 => ?_) (fun h7 => ?_)
    · refine lv_iconst (v := 0) hx hb dX2_digitFits_26 (by decide) ?_
      exact retR F hr hlk rfl (if_neg (show ¬ fitC ch f d nb from (fun q => q.elim (fun q => n_ne (b := 0) h7 q.2.1) (fun q => q.1 f14)))).symm dX2_digitFits_27
    · have d0 : d = 0 := n_eq (b := 0) h7 (by omega) (by decide)
      refine lv_iload_n hx hb dX2_digitFits_10 rfl (lv_at hl 1 rfl) ?_
      refine lv_bipush (v := nI 48) hx hb dX2_digitFits_11 (by decide) ?_
      refine lv_icmp_eq (tgt := 22) hx hb dX2_digitFits_13 (by decide) (fun h13 => ?_) (fun h13 => ?_)
      · refine lv_iconst (v := 1) hx hb dX2_digitFits_22 (by decide) ?_
        refine lv_goto (tgt := 27) hx hb dX2_digitFits_23 (by decide) ?_
        exact retR F hr hlk rfl (if_pos (show fitC ch f d nb from Or.inl ⟨f14, d0, Or.inl h13⟩)).symm dX2_digitFits_27
      · refine lv_iload_n hx hb dX2_digitFits_16 rfl (lv_at hl 1 rfl) ?_
        refine lv_bipush (v := nI 49) hx hb dX2_digitFits_17 (by decide) ?_
        refine lv_icmp_ne (tgt := 26) hx hb dX2_digitFits_19 (by decide) (fun h19 => ?_) (fun h19 => ?_)
        · refine lv_iconst (v := 0) hx hb dX2_digitFits_26 (by decide) ?_
          exact retR F hr hlk rfl (if_neg (show ¬ fitC ch f d nb from (fun q => q.elim (fun q => q.2.2.elim h13 h19) (fun q => q.1 f14)))).symm dX2_digitFits_27
        · refine lv_iconst (v := 1) hx hb dX2_digitFits_22 (by decide) ?_
          refine lv_goto (tgt := 27) hx hb dX2_digitFits_23 (by decide) ?_
          exact retR F hr hlk rfl (if_pos (show fitC ch f d nb from Or.inl ⟨f14, d0, Or.inr h19⟩)).symm dX2_digitFits_27
set_option maxHeartbeats 4000000 in
set_option maxRecDepth 100000 in
theorem c_signBehind (l : Launch) (D : va_G) (T : Nat → ClassId) {f : Nat} (hf : f < 15) : KR l D T yX2_signBehind cX2_signBehind 1 (some .char) 0 [.int (nI f)] [] (fun r => r = sgnC f) := by
  refine KR.of (by decide +kernel) (Nat.le_of_ble_eq_true rfl) (fun p e s m below meth c F hr hlk hW ls hl => ?_)
  have hx := F.1
  have hb := F.2.1
  have hl : lv_has ls 1 [(0, .int (nI f))] := hl
  refine lv_iload_n hx hb dX2_signBehind_0 rfl (lv_at hl 0 rfl) ?_
  refine lv_bipush (v := nI 11) hx hb dX2_signBehind_1 (by decide) ?_
  refine lv_icmp_eq (tgt := 12) hx hb dX2_signBehind_3 (by decide) (fun h3 => ?_) (fun h3 => ?_)
  · refine lv_bipush (v := 47) hx hb dX2_signBehind_12 (by decide) ?_
    refine lv_goto (tgt := 19) hx hb dX2_signBehind_14 (by decide) ?_
    exact retR F hr hlk rfl (if_pos (Or.inl (n_eq h3 (by omega) (by decide)))).symm dX2_signBehind_19
  · refine lv_iload_n hx hb dX2_signBehind_6 rfl (lv_at hl 0 rfl) ?_
    refine lv_bipush (v := nI 13) hx hb dX2_signBehind_7 (by decide) ?_
    refine lv_icmp_ne (tgt := 17) hx hb dX2_signBehind_9 (by decide) (fun h9 => ?_) (fun h9 => ?_)
    · refine lv_bipush (v := 44) hx hb dX2_signBehind_17 (by decide) ?_
      exact retR F hr hlk rfl (if_neg (fun q => q.elim (n_ne h3) (n_ne h9))).symm dX2_signBehind_19
    · refine lv_bipush (v := 47) hx hb dX2_signBehind_12 (by decide) ?_
      refine lv_goto (tgt := 19) hx hb dX2_signBehind_14 (by decide) ?_
      exact retR F hr hlk rfl (if_pos (Or.inr (n_eq h9 (by omega) (by decide)))).symm dX2_signBehind_19
set_option maxHeartbeats 4000000 in
set_option maxRecDepth 100000 in
theorem c_scan (l : Launch) (D : va_G) (T : Nat → ClassId) (p0 p1 p2 : Nat) (t nb : Nat → Int32) {n : Nat} (hn : n ≤ 60) : KI (S := Unit) l D T yX2_scan cX2_scan 6 (some .int) 1 [.ref p0] [(p0, .inr (2, [.ref p1, .ref p2, .int (nI n)])), (p1, .inl (T 1, 60, .inl t)), (p2, .inl (T 0, 15, .inl nb))] (fun r _ => r = (scanF n 0 0 0 t nb).1) (fun u => [(p0, .inr (2, [.ref p1, .ref p2, .int (nI n)])), (p1, .inl (T 1, 60, .inl t)), (p2, .inl (T 0, 15, .inl ((scanF n 0 0 0 t nb).2)))]) := by
  refine KI.of (by decide +kernel) (Nat.le_of_ble_eq_true rfl) (fun p e s m below meth c A F hr hlk hW ls hl => ?_)
  have hx := F.1
  have hb := F.2.1
  have hl : lv_has ls 6 [(0, .ref p0)] := hl
  refine lv_iconst (v := nI 0) hx hb dX2_scan_0 (by decide) ?_
  refine lv_istore_n (lv' := [(1, .int (nI 0)), (0, .ref p0)]) hx hb dX2_scan_1 rfl hl (by decide) rfl (fun ls hl => ?_)
  refine lv_iconst (v := nI 0) hx hb dX2_scan_2 (by decide) ?_
  refine lv_istore_n (lv' := [(2, .int (nI 0)), (1, .int (nI 0)), (0, .ref p0)]) hx hb dX2_scan_3 rfl hl (by decide) rfl (fun ls hl => ?_)
  refine lv_iconst (v := nI 0) hx hb dX2_scan_4 (by decide) ?_
  refine lv_istore_n (lv' := [(3, .int (nI 0)), (2, .int (nI 0)), (1, .int (nI 0)), (0, .ref p0)]) hx hb dX2_scan_5 rfl hl (by decide) rfl (fun ls hl => ?_)
  refine W.loop (fun k H2 locs2 ls2 => ∃ (i f d : Nat) (nc : Nat → Int32), i + k = n ∧ f < 15 ∧ d ≤ i ∧ scanF k i f d t nc = (scanF n 0 0 0 t nb) ∧ Wd D T A s [(p0, .inr (2, [.ref p1, .ref p2, .int (nI n)])), (p1, .inl (T 1, 60, .inl t)), (p2, .inl (T 0, 15, .inl nc))] H2 locs2 ∧ lv_has ls2 6 [(0, .ref p0), (1, .int (nI f)), (2, .int (nI d)), (3, .int (nI i))]) ?_ n ⟨0, 0, 0, nb, by omega, by omega, by omega, rfl, hW, lv_sub hl [3, 2, 1, 0] rfl⟩
  rintro k H locs ls ⟨i, f, d, nc, hi, hf, hd, hS, hW, hl⟩ ih
  refine lv_iload_n hx hb dX2_scan_6 rfl (lv_at hl 3 rfl) ?_
  refine lv_aload_n hx hb dX2_scan_7 rfl (lv_at hl 0 rfl) ?_
  refine gf154 F hW 0 rfl rfl dX2_scan_8 ?_
  refine lv_icmp_ge (tgt := 107) hx hb dX2_scan_11 (by decide) (fun h11 => ?_) (fun h11 => ?_)
  · have hk : k = 0 := by have := n_le h11 (by omega) (by omega); omega
    subst hk
    have hin : i = n := by omega
    rw [scanF] at hS
    refine lv_iload_n hx hb dX2_scan_107 rfl (lv_at hl 1 rfl) ?_
    refine lv_bipush (v := nI 14) hx hb dX2_scan_108 (by decide) ?_
    refine lv_icmp_ne (tgt := 122) hx hb dX2_scan_110 (by decide) (fun h110 => ?_) (fun h110 => ?_)
    · refine lv_aload_n hx hb dX2_scan_122 rfl (lv_at hl 0 rfl) ?_
      refine gf154 F hW 0 rfl rfl dX2_scan_123 ?_
      exact retI F hr hlk rfl hW () (by rw [← hS]; dsimp only; rw [if_neg (fun q => n_ne h110 q.1), hin]) (by rw [← hS]) dX2_scan_126
    · refine lv_iload_n hx hb dX2_scan_113 rfl (lv_at hl 2 rfl) ?_
      refine lv_if_le (tgt := 122) hx hb dX2_scan_114 (by decide) (fun h114 => ?_) (fun h114 => ?_)
      · refine lv_aload_n hx hb dX2_scan_122 rfl (lv_at hl 0 rfl) ?_
        refine gf154 F hW 0 rfl rfl dX2_scan_123 ?_
        exact retI F hr hlk rfl hW () (by rw [← hS]; dsimp only; rw [if_neg (fun q => absurd h114 (Int32.not_le.mpr (nI_lt (a := 0) q.2 (by omega)))), hin]) (by rw [← hS]) dX2_scan_126
      · refine lv_bipush (v := -6) hx hb dX2_scan_117 (by decide) ?_
        refine lv_goto (tgt := 126) hx hb dX2_scan_119 (by decide) ?_
        exact retI F hr hlk rfl hW () (by rw [← hS]; dsimp only; rw [if_pos ⟨n_eq h110 (by omega) (by decide), by have : ¬ nI d ≤ nI 0 := h114; have := n_nle this (by omega) (by decide); omega⟩]) (by rw [← hS]) dX2_scan_126
  · have hlt : i < n := n_nle h11 (by omega) (by omega)
    obtain ⟨k, rfl⟩ : ∃ z, k = z + 1 := ⟨k - 1, by omega⟩
    rw [scanF] at hS
    refine lv_aload_n hx hb dX2_scan_14 rfl (lv_at hl 0 rfl) ?_
    refine gf151 F hW 0 rfl rfl dX2_scan_15 ?_
    refine lv_iload_n hx hb dX2_scan_18 rfl (lv_at hl 3 rfl) ?_
    refine cald F hW 1 rfl (x := t i) i rfl (by omega) (by decide) rfl dX2_scan_19 ?_
    refine lv_istore (lv' := [(4, .int (t i)), (0, .ref p0), (1, .int (nI f)), (2, .int (nI d)), (3, .int (nI i))]) hx hb dX2_scan_20 hl (by decide) rfl (fun ls hl => ?_)
    refine lv_aload_n hx hb dX2_scan_22 rfl (lv_at hl 1 rfl) ?_
    refine lv_iload hx hb dX2_scan_23 (lv_at hl 0 rfl) ?_
    refine lv_iload_n hx hb dX2_scan_25 rfl (lv_at hl 2 rfl) ?_
    refine lv_iload_n hx hb dX2_scan_26 rfl (lv_at hl 3 rfl) ?_
    refine cRV (As := [.int (t i), .int (nI f), .int (nI d)]) (rest := []) F hW hl cs279 (c_digitFits l D T p0 p1 p2 (nI n) (t i) nc (f := f) (d := d) (by omega) (by omega)) [0, 2] rfl rfl 0 2 rfl rfl rfl rfl rfl (Nat.le_of_ble_eq_true rfl) ⟨Nat.le_of_ble_eq_true rfl, Nat.le_of_ble_eq_true rfl⟩ ⟨Nat.zero_le _, Nat.zero_le _⟩ dX2_scan_27 (fun r27 hr27 => ?_)
    subst hr27
    refine lv_if_eq (tgt := 72) hx hb dX2_scan_30 (by decide) (fun h30 => ?_) (fun h30 => ?_)
    · have hn1 : ¬ fitC (t i) f d nc := bz.mp h30
      rw [if_neg hn1] at hS
      refine lv_iload_n hx hb dX2_scan_72 rfl (lv_at hl 3 rfl) ?_
      refine lv_if_le (tgt := 99) hx hb dX2_scan_73 (by decide) (fun h73 => ?_) (fun h73 => ?_)
      · have d0 : ¬ 0 < d := fun q => absurd h73 (Int32.not_le.mpr (nI_lt (a := 0) q (by omega)))
        rw [if_neg (fun q => d0 q.1)] at hS
        refine lv_iload_n hx hb dX2_scan_99 rfl (lv_at hl 4 rfl) ?_
        exact retI F hr hlk rfl hW () (by rw [← hS]) (by rw [← hS]) dX2_scan_100
      · have d0 : 0 < d := by have : ¬ nI d ≤ nI 0 := h73; have := n_nle this (by omega) (by decide); omega
        refine lv_iload_n hx hb dX2_scan_76 rfl (lv_at hl 2 rfl) ?_
        refine lv_bipush (v := nI 14) hx hb dX2_scan_77 (by decide) ?_
        refine lv_icmp_ge (tgt := 99) hx hb dX2_scan_79 (by decide) (fun h79 => ?_) (fun h79 => ?_)
        · rw [if_neg (fun q => by have := n_le h79 (by decide) (by omega); omega)] at hS
          refine lv_iload_n hx hb dX2_scan_99 rfl (lv_at hl 4 rfl) ?_
          exact retI F hr hlk rfl hW () (by rw [← hS]) (by rw [← hS]) dX2_scan_100
        · have f14 : f < 14 := n_nle h79 (by decide) (by omega)
          refine lv_iload hx hb dX2_scan_82 (lv_at hl 0 rfl) ?_
          refine lv_iload_n hx hb dX2_scan_84 rfl (lv_at hl 2 rfl) ?_
          refine cRS (As := [.int (nI f)]) (rest := [.int (t i)]) F hW hl cs283 (c_signBehind l D T (f := f) (by omega)) [] rfl rfl rfl rfl (Nat.le_of_ble_eq_true rfl) ⟨Nat.le_of_ble_eq_true rfl, Nat.le_of_ble_eq_true rfl⟩ ⟨Nat.zero_le _, Nat.zero_le _⟩ dX2_scan_85 (fun r85 hr85 => ?_)
          subst hr85
          refine lv_icmp_ne (tgt := 99) hx hb dX2_scan_88 (by decide) (fun h88 => ?_) (fun h88 => ?_)
          · rw [if_neg (fun q => h88 q.2.2)] at hS
            refine lv_iload_n hx hb dX2_scan_99 rfl (lv_at hl 4 rfl) ?_
            exact retI F hr hlk rfl hW () (by rw [← hS]) (by rw [← hS]) dX2_scan_100
          · rw [if_pos ⟨d0, f14, h88⟩] at hS
            refine lv_iinc (v := nI (f + 1)) (lv' := [(1, .int (nI (f + 1))), (4, .int (t i)), (0, .ref p0), (2, .int (nI d)), (3, .int (nI i))]) hx hb dX2_scan_91 hl (k := 2) rfl (nI_add _ _) (by decide) rfl (fun ls hl => ?_)
            refine lv_iconst (v := nI 0) hx hb dX2_scan_94 (by decide) ?_
            refine lv_istore_n (lv' := [(2, .int (nI 0)), (1, .int (nI (f + 1))), (4, .int (t i)), (0, .ref p0), (3, .int (nI i))]) hx hb dX2_scan_95 rfl hl (by decide) rfl (fun ls hl => ?_)
            refine lv_goto (tgt := 101) hx hb dX2_scan_96 (by decide) ?_
            refine lv_iinc (v := nI (i + 1)) (lv' := [(3, .int (nI (i + 1))), (2, .int (nI 0)), (1, .int (nI (f + 1))), (4, .int (t i)), (0, .ref p0)]) hx hb dX2_scan_101 hl (k := 4) rfl (nI_add _ _) (by decide) rfl (fun ls hl => ?_)
            refine lv_goto (tgt := 6) hx hb dX2_scan_104 (by decide) ?_
            exact ih k _ _ _ (Nat.lt_succ_self k) ⟨i + 1, f + 1, 0, nc, by omega, by omega, by omega, hS, hW, lv_sub hl [4, 2, 1, 0] rfl⟩
    · have hy1 : fitC (t i) f d nc := Decidable.not_not.mp (fun q => h30 (bz.mpr q))
      rw [if_pos hy1] at hS
      refine lv_iload_n hx hb dX2_scan_33 rfl (lv_at hl 3 rfl) ?_
      refine W.fork (X := Unit) 50 (fun _ => [.int (if d = 0 then 0 else nc f * 10)]) (fun _ H2 locs2 ls2 => H2 = H ∧ locs2 = locs ∧ lv_has ls2 6 [(4, .int (t i)), (0, .ref p0), (1, .int (nI f)), (2, .int (nI d)), (3, .int (nI i))]) (fun hJ => ?_) ?_
      · refine lv_if_ne (tgt := 41) hx hb dX2_scan_34 (by decide) (fun h34 => ?_) (fun h34 => ?_)
        · refine lv_aload_n hx hb dX2_scan_41 rfl (lv_at hl 1 rfl) ?_
          refine gf152 F hW 0 rfl rfl dX2_scan_42 ?_
          refine lv_iload_n hx hb dX2_scan_45 rfl (lv_at hl 2 rfl) ?_
          refine ald F hW 2 rfl (x := nc f) f rfl (by omega) (by decide) rfl dX2_scan_46 ?_
          refine lv_bipush (v := nI 10) hx hb dX2_scan_47 (by decide) ?_
          refine imulE (z := (nc f) * (nI 10)) hx hb dX2_scan_49 rfl ?_
          have e1 : (if d = 0 then 0 else nc f * 10) = nc f * 10 := if_neg (n_ne (b := 0) h34)
          rw [e1] at hJ
          exact hJ () _ _ _ ⟨rfl, rfl, hl⟩
        · refine lv_iconst (v := 0) hx hb dX2_scan_37 (by decide) ?_
          refine lv_goto (tgt := 50) hx hb dX2_scan_38 (by decide) ?_
          have e1 : (if d = 0 then 0 else nc f * 10) = 0 := if_pos (n_eq (b := 0) h34 (by omega) (by decide))
          rw [e1] at hJ
          exact hJ () _ _ _ ⟨rfl, rfl, hl⟩
      · rintro - H2 locs2 ls ⟨rfl, rfl, hl⟩
        refine lv_istore (lv' := [(5, .int (if d = 0 then 0 else nc f * 10)), (4, .int (t i)), (0, .ref p0), (1, .int (nI f)), (2, .int (nI d)), (3, .int (nI i))]) hx hb dX2_scan_50 hl (by decide) rfl (fun ls hl => ?_)
        refine lv_aload_n hx hb dX2_scan_52 rfl (lv_at hl 2 rfl) ?_
        refine gf152 F hW 0 rfl rfl dX2_scan_53 ?_
        refine lv_iload_n hx hb dX2_scan_56 rfl (lv_at hl 3 rfl) ?_
        refine lv_iload hx hb dX2_scan_57 (lv_at hl 0 rfl) ?_
        refine lv_iload hx hb dX2_scan_59 (lv_at hl 1 rfl) ?_
        refine iaddE (z := (if d = 0 then 0 else nc f * 10) + (t i)) hx hb dX2_scan_61 rfl ?_
        refine lv_bipush (v := nI 48) hx hb dX2_scan_62 (by decide) ?_
        refine isubE (z := ((if d = 0 then 0 else nc f * 10) + (t i)) - (nI 48)) hx hb dX2_scan_64 rfl ?_
        refine ast (ws' := [(p0, .inr (2, [.ref p1, .ref p2, .int (nI n)])), (p1, .inl (T 1, 60, .inl t)), (p2, .inl (T 0, 15, .inl (numC (t i) f d nc)))]) F hW 2 (numC (t i) f d nc) rfl f rfl (by omega) (by decide) (fun _ _ => rfl) rfl dX2_scan_65 (fun H locs hW => ?_)
        refine lv_iinc (v := nI (d + 1)) (lv' := [(2, .int (nI (d + 1))), (5, .int (if d = 0 then 0 else nc f * 10)), (4, .int (t i)), (0, .ref p0), (1, .int (nI f)), (3, .int (nI i))]) hx hb dX2_scan_66 hl (k := 4) rfl (nI_add _ _) (by decide) rfl (fun ls hl => ?_)
        refine lv_goto (tgt := 101) hx hb dX2_scan_69 (by decide) ?_
        refine lv_iinc (v := nI (i + 1)) (lv' := [(3, .int (nI (i + 1))), (2, .int (nI (d + 1))), (5, .int (if d = 0 then 0 else nc f * 10)), (4, .int (t i)), (0, .ref p0), (1, .int (nI f))]) hx hb dX2_scan_101 hl (k := 5) rfl (nI_add _ _) (by decide) rfl (fun ls hl => ?_)
        refine lv_goto (tgt := 6) hx hb dX2_scan_104 (by decide) ?_
        exact ih k _ _ _ (Nat.lt_succ_self k) ⟨i + 1, f, d + 1, _, by omega, hf, by omega, hS, hW, lv_sub hl [4, 5, 1, 0] rfl⟩
set_option maxHeartbeats 4000000 in
set_option maxRecDepth 100000 in
theorem c_charactersIn (l : Launch) (D : va_G) (T : Nat → ClassId) {x : Nat} (hx64 : x < 2 ^ 64) : KR l D T yX2_charactersIn cX2_charactersIn 7 (some .int) 0 [.long (lN x)] [] (fun r => r = nI (chF 8 x 0)) := by
  refine KR.of (by decide +kernel) (Nat.le_of_ble_eq_true rfl) (fun p e s m below meth c F hr hlk hW ls hl => ?_)
  have hx := F.1
  have hb := F.2.1
  have hl : lv_has ls 7 [(0, .long (lN x))] := hl
  refine lv_lload_n hx hb dX2_charactersIn_0 rfl (lv_at hl 0 rfl) ?_
  refine lv_lstore_n (lv' := [(2, .long (lN x)), (0, .long (lN x))]) hx hb dX2_charactersIn_1 rfl hl (by decide) rfl (fun ls hl => ?_)
  refine lv_iconst (v := nI 0) hx hb dX2_charactersIn_2 (by decide) ?_
  refine lv_istore (lv' := [(4, .int (nI 0)), (2, .long (lN x)), (0, .long (lN x))]) hx hb dX2_charactersIn_3 hl (by decide) rfl (fun ls hl => ?_)
  refine W.loop (fun k H2 locs2 ls2 => H2 = s.heap ∧ locs2 = [] ∧ ∃ (y c : Nat), c + k = 8 ∧ y < 2 ^ 64 ∧ chF k y c = chF 8 x 0 ∧ lv_has ls2 7 [(2, .long (lN y)), (4, .int (nI c))]) ?_ 8 ⟨rfl, rfl, x, 0, rfl, hx64, rfl, lv_sub hl [1, 0] rfl⟩
  rintro k H2 locs2 ls ⟨rfl, rfl, y, cn, hc, hy, hS, hl⟩ ih
  refine lv_lload_n hx hb dX2_charactersIn_5 rfl (lv_at hl 0 rfl) ?_
  refine lv_lconst (v := 0) hx hb dX2_charactersIn_6 (by decide) ?_
  refine W.lcmp hx hb dX2_charactersIn_7 ?_
  refine lv_if_eq (tgt := 56) hx hb dX2_charactersIn_8 (by decide) (fun h8 => ?_) (fun h8 => ?_)
  · have y0 : y = 0 := (lN_z hy).mp ((lg_cmp_eq _ _).mp h8)
    refine lv_iload hx hb dX2_charactersIn_56 (lv_at hl 1 rfl) ?_
    exact retR F hr hlk rfl (by rw [← hS, y0]; cases k <;> rfl) dX2_charactersIn_58
  · have y0 : ¬ y = 0 := fun q => h8 ((lg_cmp_eq _ _).mpr ((lN_z hy).mpr q))
    refine lv_iload hx hb dX2_charactersIn_11 (lv_at hl 1 rfl) ?_
    refine lv_bipush (v := nI 8) hx hb dX2_charactersIn_13 (by decide) ?_
    refine lv_icmp_ge (tgt := 56) hx hb dX2_charactersIn_15 (by decide) (fun h15 => ?_) (fun h15 => ?_)
    · have k0 : k = 0 := by have := n_le h15 (by decide) (by omega); omega
      subst k0
      refine lv_iload hx hb dX2_charactersIn_56 (lv_at hl 1 rfl) ?_
      exact retR F hr hlk rfl (by rw [← hS]; rfl) dX2_charactersIn_58
    · obtain ⟨k, rfl⟩ : ∃ z, k = z + 1 := ⟨k - 1, by have := n_nle h15 (by decide) (by omega); omega⟩
      rw [chF, if_neg y0] at hS
      have hb8 : y % 256 < 256 := Nat.mod_lt _ (by decide)
      refine lv_lload_n hx hb dX2_charactersIn_18 rfl (lv_at hl 0 rfl) ?_
      refine lv_ldc2 hx hb F.2.2.2.1 (F.2.2.2.2 _ m264) dX2_charactersIn_19 ?_
      refine landE (z := lN (y % 256)) hx hb dX2_charactersIn_22 (mask8 hy) ?_
      refine lv_lstore (lv' := [(5, .long (lN (y % 256))), (2, .long (lN y)), (4, .int (nI cn))]) hx hb dX2_charactersIn_23 hl (by decide) rfl (fun ls hl => ?_)
      refine lv_lload hx hb dX2_charactersIn_25 (lv_at hl 0 rfl) ?_
      refine lv_ldc2 hx hb F.2.2.2.1 (F.2.2.2.2 _ m265) dX2_charactersIn_27 ?_
      refine W.lcmp hx hb dX2_charactersIn_30 ?_
      refine lv_if_lt (tgt := 43) hx hb dX2_charactersIn_31 (by decide) (fun h31 => ?_) (fun h31 => ?_)
      · have q1 : y % 256 < 33 := (pk_lLT (b := 33) (by omega) (by decide)).mp ((lg_cmp_lt _ _).mp h31)
        rw [if_pos (Or.inl q1)] at hS
        refine lv_iconst (v := nI 0) hx hb dX2_charactersIn_43 (by decide) ?_
        exact retR F hr hlk rfl (by rw [← hS]) dX2_charactersIn_44
      · have q1 : ¬ y % 256 < 33 := fun q => h31 ((lg_cmp_lt _ _).mpr ((pk_lLT (b := 33) (by omega) (by decide)).mpr q))
        refine lv_lload hx hb dX2_charactersIn_34 (lv_at hl 0 rfl) ?_
        refine lv_ldc2 hx hb F.2.2.2.1 (F.2.2.2.2 _ m266) dX2_charactersIn_36 ?_
        refine W.lcmp hx hb dX2_charactersIn_39 ?_
        refine lv_if_le (tgt := 45) hx hb dX2_charactersIn_40 (by decide) (fun h40 => ?_) (fun h40 => ?_)
        · have q2 : ¬ 126 < y % 256 := by have := (pk_lLE (b := 126) (by omega) (by decide)).mp ((lg_cmp_le _ _).mp h40); omega
          rw [if_neg (fun q => q.elim q1 q2)] at hS
          refine lv_lload_n hx hb dX2_charactersIn_45 rfl (lv_at hl 1 rfl) ?_
          refine lv_bipush (v := nI 8) hx hb dX2_charactersIn_46 (by decide) ?_
          refine lv_lushr (v := lN (y / 256)) hx hb dX2_charactersIn_48 (shr8 hy) ?_
          refine lv_lstore_n (lv' := [(2, .long (lN (y / 256))), (5, .long (lN (y % 256))), (4, .int (nI cn))]) hx hb dX2_charactersIn_49 rfl hl (by decide) rfl (fun ls hl => ?_)
          refine lv_iinc (v := nI (cn + 1)) (lv' := [(4, .int (nI (cn + 1))), (2, .long (lN (y / 256))), (5, .long (lN (y % 256)))]) hx hb dX2_charactersIn_50 hl (k := 2) rfl (nI_add _ _) (by decide) rfl (fun ls hl => ?_)
          refine lv_goto (tgt := 5) hx hb dX2_charactersIn_53 (by decide) ?_
          exact ih k _ _ _ (Nat.lt_succ_self k) ⟨rfl, rfl, y / 256, cn + 1, by omega, by omega, hS, lv_sub hl [1, 0] rfl⟩
        · have q2 : 126 < y % 256 := by have := fun q => h40 ((lg_cmp_le _ _).mpr ((pk_lLE (a := y % 256) (b := 126) (by omega) (by decide)).mpr q)); exact Nat.not_le.mp this
          rw [if_pos (Or.inr q2)] at hS
          refine lv_iconst (v := nI 0) hx hb dX2_charactersIn_43 (by decide) ?_
          exact retR F hr hlk rfl (by rw [← hS]) dX2_charactersIn_44
set_option maxHeartbeats 4000000 in
set_option maxRecDepth 100000 in
theorem c_append (l : Launch) (D : va_G) (T : Nat → ClassId) (p0 p1 p2 : Nat) (t : Nat → Int32) {n cn x : Nat} (hx64 : x < 2 ^ 64) (hc8 : cn ≤ 8) (hnc : n + cn ≤ 60) : KV (S := Unit) l D T yX2_append cX2_append 5 0 [.ref p0, .long (lN x), .int (nI cn)] [(p0, .inr (2, [.ref p1, .ref p2, .int (nI n)])), (p1, .inl (T 1, 60, .inl t))] (fun _ => True) (fun u => [(p0, .inr (2, [.ref p1, .ref p2, .int (nI (n + cn))])), (p1, .inl (T 1, 60, .inl (apT t n cn x cn)))]) := by
  refine KV.of (by decide +kernel) (Nat.le_of_ble_eq_true rfl) (fun p e s m below meth c A F hr hlk hW ls hl => ?_)
  have hx := F.1
  have hb := F.2.1
  have hl : lv_has ls 5 [(0, .ref p0), (1, .long (lN x)), (3, .int (nI cn))] := hl
  refine lv_iload_n hx hb dX2_append_0 rfl (lv_at hl 2 rfl) ?_
  refine lv_iconst (v := nI 1) hx hb dX2_append_1 (by decide) ?_
  refine isubE (z := nI cn - 1) hx hb dX2_append_2 rfl ?_
  refine lv_istore (lv' := [(4, .int (nI cn - 1)), (0, .ref p0), (1, .long (lN x)), (3, .int (nI cn))]) hx hb dX2_append_3 hl (by decide) rfl (fun ls hl => ?_)
  have hW := Wd.arr hW 1 (apT t n cn x 0) rfl (fun j hj => (if_neg (by omega)).symm) (ws' := [(p0, .inr (2, [.ref p1, .ref p2, .int (nI n)])), (p1, .inl (T 1, 60, .inl (apT t n cn x 0)))]) rfl
  refine W.loop (fun r H2 locs2 ls2 => ∃ (m2 : Nat) (ix : Int32), m2 + r = cn ∧ ix = nI r - 1 ∧ Wd D T A s [(p0, .inr (2, [.ref p1, .ref p2, .int (nI (n + m2))])), (p1, .inl (T 1, 60, .inl (apT t n cn x m2)))] H2 locs2 ∧ lv_has ls2 5 [(0, .ref p0), (1, .long (lN x)), (4, .int ix)]) ?_ cn ⟨0, nI cn - 1, by omega, rfl, hW, lv_sub hl [1, 2, 0] rfl⟩
  rintro r H locs ls ⟨m2, ix, hr2, hix, hW, hl⟩ ih
  rcases r with - | r
  · have hix : ix = -1 := hix
    rw [hix] at hl
    have hm : m2 = cn := by omega
    rw [hm] at hW
    refine lv_iload hx hb dX2_append_5 (lv_at hl 2 rfl) ?_
    refine lv_if_lt (tgt := 57) hx hb dX2_append_7 (by decide) (fun _ => ?_) (fun h9 => absurd (by decide) h9)
    exact retV F hr hlk hW () trivial rfl dX2_append_57
  · rw [nI_pred] at hix
    rw [hix] at hl
    refine lv_iload hx hb dX2_append_5 (lv_at hl 2 rfl) ?_
    refine lv_if_lt (tgt := 57) hx hb dX2_append_7 (by decide) (fun h9 => absurd h9 (nI_pos (by omega))) (fun _ => ?_)
    refine lv_aload_n hx hb dX2_append_10 rfl (lv_at hl 0 rfl) ?_
    refine gf154 F hW 0 rfl rfl dX2_append_11 ?_
    refine lv_bipush (v := nI 60) hx hb dX2_append_14 (by decide) ?_
    refine lv_icmp_ge (tgt := 51) hx hb dX2_append_16 (by decide) (fun h9 => absurd h9 (by intro q; have := n_le q (by decide) (by omega); omega)) (fun _ => ?_)
    have hb8 : x / 2 ^ (8 * r) % 256 < 256 := Nat.mod_lt _ (by decide)
    have hx2 : x / 2 ^ (8 * r) < 2 ^ 64 := Nat.lt_of_le_of_lt (Nat.div_le_self _ _) hx64
    refine lv_aload_n hx hb dX2_append_19 rfl (lv_at hl 0 rfl) ?_
    refine gf151 F hW 0 rfl rfl dX2_append_20 ?_
    refine lv_aload_n hx hb dX2_append_23 rfl (lv_at hl 0 rfl) ?_
    refine gf154 F hW 0 rfl rfl dX2_append_24 ?_
    refine lv_lload_n hx hb dX2_append_27 rfl (lv_at hl 1 rfl) ?_
    refine lv_bipush (v := nI 8) hx hb dX2_append_28 (by decide) ?_
    refine lv_iload hx hb dX2_append_30 (lv_at hl 2 rfl) ?_
    refine imulE (z := nI (8 * r)) hx hb dX2_append_32 (pk_mul _ _) ?_
    refine lv_lushr (v := lN (x / 2 ^ (8 * r))) hx hb dX2_append_33 (wb_shr hx64 (by omega)) ?_
    refine lv_ldc2 hx hb F.2.2.2.1 (F.2.2.2.2 _ m264) dX2_append_34 ?_
    refine landE (z := lN (x / 2 ^ (8 * r) % 256)) hx hb dX2_append_37 (mask8 hx2) ?_
    refine lv_l2i (v := nI (x / 2 ^ (8 * r) % 256)) hx hb dX2_append_38 (lN_i _) ?_
    refine lv_i2c (v := nI (x / 2 ^ (8 * r) % 256)) hx hb dX2_append_39 (sb_byte _ hb8).2.1 ?_
    refine cast_ (ws' := [(p0, .inr (2, [.ref p1, .ref p2, .int (nI (n + m2))])), (p1, .inl (T 1, 60, .inl (apT t n cn x (m2 + 1))))]) F hW 1 (apT t n cn x (m2 + 1)) rfl (n + m2) rfl (by omega) (by decide) (nar_c (by omega)) (fun j hj => by unfold apT; by_cases q : j = n + m2; (rw [q, u_s, if_pos (by omega), show cn - 1 - (n + m2 - n) = r by omega]); (rw [u_n q]; by_cases q2 : n ≤ j ∧ j < n + m2; (rw [if_pos q2, if_pos (by omega)]); (rw [if_neg q2, if_neg (by omega)]))) rfl dX2_append_40 (fun H locs hW => ?_)
    refine lv_aload_n hx hb dX2_append_41 rfl (lv_at hl 0 rfl) ?_
    refine lv_dup hx hb dX2_append_42 rfl ?_
    refine gf154 F hW 0 rfl rfl dX2_append_43 ?_
    refine lv_iconst (v := nI 1) hx hb dX2_append_46 (by decide) ?_
    refine iaddE (z := nI (n + (m2 + 1))) hx hb dX2_append_47 (nI_add _ _) ?_
    refine pf154 (ws' := [(p0, .inr (2, [.ref p1, .ref p2, .int (nI (n + (m2 + 1)))])), (p1, .inl (T 1, 60, .inl (apT t n cn x (m2 + 1))))]) F hW 0 rfl rfl rfl dX2_append_48 (fun H locs hW => ?_)
    refine lv_iinc (v := nI r - 1) (lv' := [(4, .int (nI r - 1)), (0, .ref p0), (1, .long (lN x))]) hx hb dX2_append_51 hl (k := 2) rfl (by rw [Int32.sub_eq_add_neg]; rfl) (by decide) rfl (fun ls hl => ?_)
    refine lv_goto (tgt := 5) hx hb dX2_append_54 (by decide) ?_
    exact ih r _ _ _ (Nat.lt_succ_self r) ⟨m2 + 1, _, by omega, rfl, hW, lv_sub hl [1, 2, 0] rfl⟩
