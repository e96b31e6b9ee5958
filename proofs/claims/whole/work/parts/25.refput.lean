-- the reference: put
set_option maxHeartbeats 4000000 in
set_option maxRecDepth 100000 in
theorem y_put (l : Launch) (D : va_G) (T : Nat → ClassId) (z : Nat → Nat) (Y : YD) (c0 : SD) (hY : YOK Y) {x : Nat} (hx64 : x < 2 ^ 64) : KI (S := SD) l D T yX7_put cX7_put 8 (some .int) 6 [.ref (z 0), .long (lN x)] [(z 0, .inr (7, [.ref (z 1), .ref (z 2), .int (nI Y.nh), .ref (z 3), .ref (z 4), .ref (z 5), .ref (z 6), .ref (z 7), .ref (z 8), .ref (z 9), .int (nI Y.pn), .int (nI c0.sp), .ref (z 10)])), (z 1, .inl (T 0, 340, .inl Y.all)), (z 2, .inl (T 0, 2040, .inl Y.H)), (z 3, .inl (T 0, 680, .inl Y.slo)), (z 4, .inl (T 0, 2, .inl Y.isv)), (z 5, .inl (T 0, 280, .inl c0.tree)), (z 6, .inl (T 0, 7, .inl c0.tried)), (z 7, .inl (T 0, 7, .inl c0.most)), (z 8, .inl (T 0, 7, .inl c0.best)), (z 9, .inl (T 0, 60, .inl Y.pad)), (z 10, .inl (T 0, 15, .inl c0.rd))] (fun r _ => r = (yPut Y x).1) (fun u => mw T z (yPut Y x).2 u) := by
  refine KI.of (by decide +kernel) (Nat.le_of_ble_eq_true rfl) (fun p e s m below meth c A F hr hlk hW ls hl => ?_)
  have hx := F.1
  have hb := F.2.1
  have hl : lv_has ls 8 [(0, .ref (z 0)), (1, .long (lN x))] := hl
  obtain ⟨⟨⟨S0, hI⟩, h34⟩, hnh, hpn, hHi, hsl⟩ := hY
  have hI2 := hI
  obtain ⟨hJ, ⟨pl, hpl, h26⟩, h27, ⟨mk, h28, hm1, hm2⟩, h36, h37, hleg⟩ := hI2
  refine lv_iconst (v := nI 0) hx hb dX7_put_0 (by decide) ?_
  refine lv_istore_n (lv' := [(3, .int (nI 0)), (0, .ref (z 0)), (1, .long (lN x))]) hx hb dX7_put_1 rfl hl (by decide) rfl (fun ls hl => ?_)
  refine lv_iconst (v := 1) hx hb dX7_put_2 (by decide) ?_
  refine lv_istore (lv' := [(4, .int 1), (3, .int (nI 0)), (0, .ref (z 0)), (1, .long (lN x))]) hx hb dX7_put_3 hl (by decide) rfl (fun ls hl => ?_)
  refine lv_lload_n hx hb dX7_put_5 rfl (lv_at hl 3 rfl) ?_
  refine lv_lstore (lv' := [(5, .long (lN x)), (4, .int 1), (3, .int (nI 0)), (0, .ref (z 0)), (1, .long (lN x))]) hx hb dX7_put_6 hl (by decide) rfl (fun ls hl => ?_)
  refine W.fork (X := Nat × Nat × Int32) 68 (fun _ => []) (fun q H2 locs2 ls2 => q.1 ≤ 8 ∧ q.2.1 < 2 ^ 64 ∧ ((chF 8 x 0 = 0 ∧ (q.1 = 0 ∨ ¬ q.2.1 = 0 ∨ q.2.2 = 0)) ∨ (chF 8 x 0 = q.1 ∧ 0 < q.1 ∧ q.2.1 = 0 ∧ q.2.2 = 1)) ∧ H2 = s.heap ∧ locs2 = [] ∧ lv_has ls2 8 [(0, .ref (z 0)), (1, .long (lN x)), (3, .int (nI q.1)), (4, .int q.2.2), (5, .long (lN q.2.1))]) (fun hJ => ?_) ?_
  · refine W.loop (fun k H2 locs2 ls2 => ∃ (n y : Nat) (g : Int32), n + k = 8 ∧ y < 256 ^ k ∧ y < 2 ^ 64 ∧ ((g = 1 ∧ chF k y n = chF 8 x 0) ∨ (g = 0 ∧ chF 8 x 0 = 0)) ∧ H2 = s.heap ∧ locs2 = [] ∧ lv_has ls2 8 [(0, .ref (z 0)), (1, .long (lN x)), (3, .int (nI n)), (4, .int g), (5, .long (lN y))]) ?_ 8 ⟨0, x, 1, rfl, hx64, hx64, Or.inl ⟨rfl, rfl⟩, rfl, rfl, lv_sub hl [3, 4, 2, 1, 0] rfl⟩
    rintro k H2 locs2 ls ⟨n, y, g, hn, hy2, hy, hg, rfl, rfl, hl⟩ ih
    refine lv_iload_n hx hb dX7_put_8 rfl (lv_at hl 2 rfl) ?_
    refine lv_bipush (v := nI 8) hx hb dX7_put_9 (by decide) ?_
    refine lv_icmp_ge (tgt := 68) hx hb dX7_put_11 (by decide) (fun h11 => ?_) (fun h11 => ?_)
    · have h5q : k = 0 := by have := n_le h11 (by decide) (by omega); omega
      subst h5q
      have y0 : y = 0 := by have : y < 1 := hy2; omega
      refine hJ (n, y, g) _ _ _ ⟨by show n ≤ 8; omega, hy, ?_, rfl, rfl, hl⟩
      rcases hg with ⟨g1, hS⟩ | ⟨g0, hS⟩
      · exact Or.inr ⟨hS.symm, by show 0 < n; omega, y0, g1⟩
      · exact Or.inl ⟨hS, Or.inr (Or.inr g0)⟩
    · have h5q : n < 8 := n_nle h11 (by decide) (by omega)
      obtain ⟨k, rfl⟩ : ∃ z, k = z + 1 := ⟨k - 1, by omega⟩
      have hb8 : y % 256 < 256 := Nat.mod_lt _ (by decide)
      refine lv_lload hx hb dX7_put_14 (lv_at hl 4 rfl) ?_
      refine lv_ldc2 hx hb F.2.2.2.1 (F.2.2.2.2 _ m674) dX7_put_16 ?_
      refine landE (z := lN (y % 256)) hx hb dX7_put_19 (mask8 hy) ?_
      refine lv_lconst (v := 0) hx hb dX7_put_20 (by decide) ?_
      refine W.lcmp hx hb dX7_put_21 ?_
      refine lv_if_eq (tgt := 68) hx hb dX7_put_22 (by decide) (fun h22 => ?_) (fun h22 => ?_)
      · have y0 : y % 256 = 0 := (lN_z (by omega)).mp ((lg_cmp_eq _ _).mp h22)
        refine hJ (n, y, g) _ _ _ ⟨by show n ≤ 8; omega, hy, ?_, rfl, rfl, lv_sub hl [0, 1, 2, 3, 4] rfl⟩
        rcases hg with ⟨g1, hS⟩ | ⟨g0, hS⟩
        · rw [chF] at hS
          by_cases y1 : y = 0
          · rw [if_pos y1] at hS
            rcases Nat.eq_zero_or_pos n with z | z
            · exact Or.inl ⟨by rw [← hS, z], Or.inl z⟩
            · exact Or.inr ⟨hS.symm, z, y1, g1⟩
          · rw [if_neg y1, if_pos (Or.inl (by omega))] at hS
            exact Or.inl ⟨hS.symm, Or.inr (Or.inl y1)⟩
        · exact Or.inl ⟨hS, Or.inr (Or.inr g0)⟩
      · have y0 : ¬ y % 256 = 0 := fun q => h22 ((lg_cmp_eq _ _).mpr ((lN_z (by omega)).mpr q))
        have y1 : ¬ y = 0 := fun q => y0 (by rw [q])
        refine W.fork (X := Int32) 53 (fun gg => [.int gg]) (fun gg H2 locs2 ls2 => ((gg = 1 ∧ chF k (y / 256) (n + 1) = chF 8 x 0) ∨ (gg = 0 ∧ chF 8 x 0 = 0)) ∧ H2 = s.heap ∧ locs2 = [] ∧ lv_has ls2 8 [(0, .ref (z 0)), (1, .long (lN x)), (3, .int (nI n)), (4, .int g), (5, .long (lN y))]) (fun hJ2 => ?_) ?_
        · refine lv_iload hx hb dX7_put_25 (lv_at hl 3 rfl) ?_
          refine lv_if_eq (tgt := 52) hx hb dX7_put_27 (by decide) (fun h27 => ?_) (fun h27 => ?_)
          · have g0 : chF 8 x 0 = 0 := hg.elim (fun z => absurd (z.1.symm.trans h27) (by decide)) (fun z => z.2)
            refine lv_iconst (v := 0) hx hb dX7_put_52 (by decide) ?_
            exact hJ2 0 _ _ _ ⟨Or.inr ⟨rfl, g0⟩, rfl, rfl, hl⟩
          · have hS : chF (k + 1) y n = chF 8 x 0 := hg.elim (fun z => z.2) (fun z => absurd z.1 h27)
            rw [chF, if_neg y1] at hS
            refine lv_lload hx hb dX7_put_30 (lv_at hl 4 rfl) ?_
            refine lv_ldc2 hx hb F.2.2.2.1 (F.2.2.2.2 _ m674) dX7_put_32 ?_
            refine landE (z := lN (y % 256)) hx hb dX7_put_35 (mask8 hy) ?_
            refine lv_ldc2 hx hb F.2.2.2.1 (F.2.2.2.2 _ m675) dX7_put_36 ?_
            refine lv_ldc2 hx hb F.2.2.2.1 (F.2.2.2.2 _ m676) dX7_put_39 ?_
            refine cRS (As := [.long (lN (y % 256)), .long 33, .long 126]) (rest := []) F hW hl cs530 (r_in l D T (lN (y % 256)) 33 126) [] rfl rfl rfl rfl (Nat.le_of_ble_eq_true rfl) ⟨Nat.le_of_ble_eq_true rfl, Nat.le_of_ble_eq_true rfl⟩ ⟨Nat.zero_le _, Nat.zero_le _⟩ dX7_put_42 (fun r42 hr42 => ?_)
            subst hr42
            refine lv_if_eq (tgt := 52) hx hb dX7_put_45 (by decide) (fun h45 => ?_) (fun h45 => ?_)
            · have er : ((33 : Int64) ≤ lN (y % 256) ∧ lN (y % 256) ≤ 126) ↔ ¬ (y % 256 < 33 ∨ 126 < y % 256) := by
                have r1 := pk_lLE (a := 33) (b := y % 256) (by decide) (by omega)
                have r2 := pk_lLE (a := y % 256) (b := 126) (by omega) (by decide)
                constructor
                · intro z
                  have z1 := r1.mp z.1
                  have z2 := r2.mp z.2
                  omega
                · intro z
                  exact ⟨r1.mpr (by omega), r2.mpr (by omega)⟩
              have bad : y % 256 < 33 ∨ 126 < y % 256 := Decidable.not_not.mp (fun z => bz.mp h45 (er.mpr z))
              rw [if_pos bad] at hS
              refine lv_iconst (v := 0) hx hb dX7_put_52 (by decide) ?_
              exact hJ2 0 _ _ _ ⟨Or.inr ⟨rfl, hS.symm⟩, rfl, rfl, hl⟩
            · have er : ((33 : Int64) ≤ lN (y % 256) ∧ lN (y % 256) ≤ 126) ↔ ¬ (y % 256 < 33 ∨ 126 < y % 256) := by
                have r1 := pk_lLE (a := 33) (b := y % 256) (by decide) (by omega)
                have r2 := pk_lLE (a := y % 256) (b := 126) (by omega) (by decide)
                constructor
                · intro z
                  have z1 := r1.mp z.1
                  have z2 := r2.mp z.2
                  omega
                · intro z
                  exact ⟨r1.mpr (by omega), r2.mpr (by omega)⟩
              have good : ¬ (y % 256 < 33 ∨ 126 < y % 256) := er.mp (Decidable.not_not.mp (fun z => h45 (bz.mpr z)))
              rw [if_neg good] at hS
              refine lv_iconst (v := 1) hx hb dX7_put_48 (by decide) ?_
              refine lv_goto (tgt := 53) hx hb dX7_put_49 (by decide) ?_
              exact hJ2 1 _ _ _ ⟨Or.inl ⟨rfl, hS⟩, rfl, rfl, hl⟩
        · rintro g2 H2 locs2 ls ⟨hg2, rfl, rfl, hl⟩
          refine lv_istore (lv' := [(4, .int g2), (0, .ref (z 0)), (1, .long (lN x)), (3, .int (nI n)), (5, .long (lN y))]) hx hb dX7_put_53 hl (by decide) rfl (fun ls hl => ?_)
          refine lv_lload hx hb dX7_put_55 (lv_at hl 4 rfl) ?_
          refine lv_bipush (v := nI 8) hx hb dX7_put_57 (by decide) ?_
          refine lv_lushr (v := lN (y / 256)) hx hb dX7_put_59 (shr8 hy) ?_
          refine lv_lstore (lv' := [(5, .long (lN (y / 256))), (4, .int g2), (0, .ref (z 0)), (1, .long (lN x)), (3, .int (nI n))]) hx hb dX7_put_60 hl (by decide) rfl (fun ls hl => ?_)
          refine lv_iinc (v := nI (n + 1)) (lv' := [(3, .int (nI (n + 1))), (5, .long (lN (y / 256))), (4, .int g2), (0, .ref (z 0)), (1, .long (lN x))]) hx hb dX7_put_62 hl (k := 4) rfl (nI_add _ _) (by decide) rfl (fun ls hl => ?_)
          refine lv_goto (tgt := 8) hx hb dX7_put_65 (by decide) ?_
          exact ih k _ _ _ (Nat.lt_succ_self k) ⟨n + 1, y / 256, g2, by omega, Nat.div_lt_of_lt_mul (by rw [Nat.pow_succ, Nat.mul_comm] at hy2; exact hy2), by omega, hg2, rfl, rfl, lv_sub hl [3, 4, 0, 2, 1] rfl⟩
  · rintro ⟨n, y, g⟩ H2 locs2 ls ⟨hn8, hy, hc, rfl, rfl, hl⟩
    dsimp only at hn8 hy hc hl
    refine lv_iload_n hx hb dX7_put_68 rfl (lv_at hl 2 rfl) ?_
    refine lv_if_eq (tgt := 84) hx hb dX7_put_69 (by decide) (fun h69 => ?_) (fun h69 => ?_)
    · have cz : chF 8 x 0 = 0 := hc.elim (fun z => z.1) (fun z => absurd (n_eq (b := 0) h69 (by omega) (by decide)) (by have := z.2.1; omega))
      refine lv_bipush (v := -2) hx hb dX7_put_84 (by decide) ?_
      have hy : yPut Y x = (-2, Y) := if_pos cz
      exact retI F hr hlk rfl hW (⟨c0.tree, c0.tried, c0.most, c0.best, c0.rd, c0.sp⟩ : SD) (congrArg Prod.fst hy).symm (congrArg (fun q => mw T z q.2 (⟨c0.tree, c0.tried, c0.most, c0.best, c0.rd, c0.sp⟩ : SD)) hy).symm dX7_put_86
    · have n0 : ¬ n = 0 := fun z => h69 (by rw [z]; rfl)
      refine lv_lload hx hb dX7_put_72 (lv_at hl 4 rfl) ?_
      refine lv_lconst (v := 0) hx hb dX7_put_74 (by decide) ?_
      refine W.lcmp hx hb dX7_put_75 ?_
      refine lv_if_ne (tgt := 84) hx hb dX7_put_76 (by decide) (fun h76 => ?_) (fun h76 => ?_)
      · have cz : chF 8 x 0 = 0 := hc.elim (fun z => z.1) (fun z => absurd ((lg_cmp_eq _ _).mpr ((lN_z hy).mpr z.2.2.1)) h76)
        refine lv_bipush (v := -2) hx hb dX7_put_84 (by decide) ?_
        have hy : yPut Y x = (-2, Y) := if_pos cz
        exact retI F hr hlk rfl hW (⟨c0.tree, c0.tried, c0.most, c0.best, c0.rd, c0.sp⟩ : SD) (congrArg Prod.fst hy).symm (congrArg (fun q => mw T z q.2 (⟨c0.tree, c0.tried, c0.most, c0.best, c0.rd, c0.sp⟩ : SD)) hy).symm dX7_put_86
      · have y0 : y = 0 := (lN_z hy).mp ((lg_cmp_eq _ _).mp h76)
        refine lv_iload hx hb dX7_put_79 (lv_at hl 3 rfl) ?_
        refine lv_if_ne (tgt := 87) hx hb dX7_put_81 (by decide) (fun h81 => ?_) (fun h81 => ?_)
        · have ec : chF 8 x 0 = n := hc.elim (fun z => absurd z.2 (fun v => v.elim n0 (fun v => v.elim (fun v => v y0) h81))) (fun z => z.1)
          refine lv_aload_n hx hb dX7_put_87 rfl (lv_at hl 0 rfl) ?_
          refine gf492 F hW 0 rfl rfl dX7_put_88 ?_
          refine lv_iload_n hx hb dX7_put_91 rfl (lv_at hl 2 rfl) ?_
          refine iaddE (z := nI (Y.pn + n)) hx hb dX7_put_92 (nI_add _ _) ?_
          refine lv_bipush (v := nI 60) hx hb dX7_put_93 (by decide) ?_
          refine lv_icmp_le (tgt := 101) hx hb dX7_put_95 (by decide) (fun h95 => ?_) (fun h95 => ?_)
          · have hnc : Y.pn + n ≤ 60 := n_le h95 (by omega) (by decide)
            refine lv_iload_n hx hb dX7_put_101 rfl (lv_at hl 2 rfl) ?_
            refine lv_iconst (v := nI 1) hx hb dX7_put_102 (by decide) ?_
            refine isubE (z := nI n - 1) hx hb dX7_put_103 rfl ?_
            refine lv_istore (lv' := [(7, .int (nI n - 1)), (0, .ref (z 0)), (1, .long (lN x)), (3, .int (nI n)), (4, .int g), (5, .long (lN y))]) hx hb dX7_put_104 hl (by decide) rfl (fun ls hl => ?_)
            have hW := Wd.arr hW 9 (apT Y.pad Y.pn n x 0) rfl (fun j hj => (if_neg (by omega)).symm) (ws' := [(z 0, .inr (7, [.ref (z 1), .ref (z 2), .int (nI Y.nh), .ref (z 3), .ref (z 4), .ref (z 5), .ref (z 6), .ref (z 7), .ref (z 8), .ref (z 9), .int (nI Y.pn), .int (nI c0.sp), .ref (z 10)])), (z 1, .inl (T 0, 340, .inl Y.all)), (z 2, .inl (T 0, 2040, .inl Y.H)), (z 3, .inl (T 0, 680, .inl Y.slo)), (z 4, .inl (T 0, 2, .inl Y.isv)), (z 5, .inl (T 0, 280, .inl c0.tree)), (z 6, .inl (T 0, 7, .inl c0.tried)), (z 7, .inl (T 0, 7, .inl c0.most)), (z 8, .inl (T 0, 7, .inl c0.best)), (z 9, .inl (T 0, 60, .inl (apT Y.pad Y.pn n x 0))), (z 10, .inl (T 0, 15, .inl c0.rd))]) rfl
            refine W.loop (fun r H2 locs2 ls2 => ∃ (m2 : Nat) (ix : Int32), m2 + r = n ∧ ix = nI r - 1 ∧ Wd D T A s [(z 0, .inr (7, [.ref (z 1), .ref (z 2), .int (nI Y.nh), .ref (z 3), .ref (z 4), .ref (z 5), .ref (z 6), .ref (z 7), .ref (z 8), .ref (z 9), .int (nI (Y.pn + m2)), .int (nI c0.sp), .ref (z 10)])), (z 1, .inl (T 0, 340, .inl Y.all)), (z 2, .inl (T 0, 2040, .inl Y.H)), (z 3, .inl (T 0, 680, .inl Y.slo)), (z 4, .inl (T 0, 2, .inl Y.isv)), (z 5, .inl (T 0, 280, .inl c0.tree)), (z 6, .inl (T 0, 7, .inl c0.tried)), (z 7, .inl (T 0, 7, .inl c0.most)), (z 8, .inl (T 0, 7, .inl c0.best)), (z 9, .inl (T 0, 60, .inl (apT Y.pad Y.pn n x m2))), (z 10, .inl (T 0, 15, .inl c0.rd))] H2 locs2 ∧ lv_has ls2 8 [(0, .ref (z 0)), (1, .long (lN x)), (7, .int ix)]) ?_ n ⟨0, nI n - 1, by omega, rfl, hW, lv_sub hl [1, 2, 0] rfl⟩
            rintro r H locs ls ⟨m2, ix, hr2, hix, hW, hl⟩ ih
            rcases r with - | r
            · have hix : ix = -1 := hix
              rw [hix] at hl
              have hm : m2 = n := by omega
              rw [hm] at hW
              refine lv_iload hx hb dX7_put_106 (lv_at hl 2 rfl) ?_
              refine lv_if_lt (tgt := 148) hx hb dX7_put_108 (by decide) (fun _ => ?_) (fun h9 => absurd (by decide) h9)
              refine lv_aload_n hx hb dX7_put_148 rfl (lv_at hl 0 rfl) ?_
              refine gf492 F hW 0 rfl rfl dX7_put_149 ?_
              have hy : yPut Y x = (nI (Y.pn + n), (Y.all, Y.H, Y.slo, Y.isv, apT Y.pad Y.pn n x n, Y.nh, Y.pn + n)) := by unfold yPut; rw [ec, if_neg n0, if_neg (show ¬ 60 < Y.pn + n by omega)]
              exact retI F hr hlk rfl hW (⟨c0.tree, c0.tried, c0.most, c0.best, c0.rd, c0.sp⟩ : SD) (congrArg Prod.fst hy).symm (congrArg (fun q => mw T z q.2 (⟨c0.tree, c0.tried, c0.most, c0.best, c0.rd, c0.sp⟩ : SD)) hy).symm dX7_put_152
            · rw [nI_pred] at hix
              rw [hix] at hl
              refine lv_iload hx hb dX7_put_106 (lv_at hl 2 rfl) ?_
              refine lv_if_lt (tgt := 148) hx hb dX7_put_108 (by decide) (fun h9 => absurd h9 (nI_pos (by omega))) (fun _ => ?_)
              have hb8 : x / 2 ^ (8 * r) % 256 < 256 := Nat.mod_lt _ (by decide)
              have hx2 : x / 2 ^ (8 * r) < 2 ^ 64 := Nat.lt_of_le_of_lt (Nat.div_le_self _ _) hx64
              refine lv_aload_n hx hb dX7_put_111 rfl (lv_at hl 0 rfl) ?_
              refine gf491 F hW 0 rfl rfl dX7_put_112 ?_
              refine lv_aload_n hx hb dX7_put_115 rfl (lv_at hl 0 rfl) ?_
              refine gf492 F hW 0 rfl rfl dX7_put_116 ?_
              refine lv_lload_n hx hb dX7_put_119 rfl (lv_at hl 1 rfl) ?_
              refine lv_bipush (v := nI 8) hx hb dX7_put_120 (by decide) ?_
              refine lv_iload hx hb dX7_put_122 (lv_at hl 2 rfl) ?_
              refine imulE (z := nI (8 * r)) hx hb dX7_put_124 (pk_mul _ _) ?_
              refine lv_lushr (v := lN (x / 2 ^ (8 * r))) hx hb dX7_put_125 (wb_shr hx64 (by omega)) ?_
              refine lv_ldc2 hx hb F.2.2.2.1 (F.2.2.2.2 _ m674) dX7_put_126 ?_
              refine landE (z := lN (x / 2 ^ (8 * r) % 256)) hx hb dX7_put_129 (mask8 hx2) ?_
              refine lv_l2i (v := nI (x / 2 ^ (8 * r) % 256)) hx hb dX7_put_130 (lN_i _) ?_
              refine ast (ws' := [(z 0, .inr (7, [.ref (z 1), .ref (z 2), .int (nI Y.nh), .ref (z 3), .ref (z 4), .ref (z 5), .ref (z 6), .ref (z 7), .ref (z 8), .ref (z 9), .int (nI (Y.pn + m2)), .int (nI c0.sp), .ref (z 10)])), (z 1, .inl (T 0, 340, .inl Y.all)), (z 2, .inl (T 0, 2040, .inl Y.H)), (z 3, .inl (T 0, 680, .inl Y.slo)), (z 4, .inl (T 0, 2, .inl Y.isv)), (z 5, .inl (T 0, 280, .inl c0.tree)), (z 6, .inl (T 0, 7, .inl c0.tried)), (z 7, .inl (T 0, 7, .inl c0.most)), (z 8, .inl (T 0, 7, .inl c0.best)), (z 9, .inl (T 0, 60, .inl (apT Y.pad Y.pn n x (m2 + 1)))), (z 10, .inl (T 0, 15, .inl c0.rd))]) F hW 9 (apT Y.pad Y.pn n x (m2 + 1)) rfl (Y.pn + m2) rfl (by omega) (by decide) (fun j hj => by unfold apT; by_cases q : j = Y.pn + m2; (rw [q, u_s, if_pos (by omega), show n - 1 - (Y.pn + m2 - Y.pn) = r by omega]); (rw [u_n q]; by_cases q2 : Y.pn ≤ j ∧ j < Y.pn + m2; (rw [if_pos q2, if_pos (by omega)]); (rw [if_neg q2, if_neg (by omega)]))) rfl dX7_put_131 (fun H locs hW => ?_)
              refine lv_aload_n hx hb dX7_put_132 rfl (lv_at hl 0 rfl) ?_
              refine lv_dup hx hb dX7_put_133 rfl ?_
              refine gf492 F hW 0 rfl rfl dX7_put_134 ?_
              refine lv_iconst (v := nI 1) hx hb dX7_put_137 (by decide) ?_
              refine iaddE (z := nI (Y.pn + (m2 + 1))) hx hb dX7_put_138 (nI_add _ _) ?_
              refine pf492 (ws' := [(z 0, .inr (7, [.ref (z 1), .ref (z 2), .int (nI Y.nh), .ref (z 3), .ref (z 4), .ref (z 5), .ref (z 6), .ref (z 7), .ref (z 8), .ref (z 9), .int (nI (Y.pn + (m2 + 1))), .int (nI c0.sp), .ref (z 10)])), (z 1, .inl (T 0, 340, .inl Y.all)), (z 2, .inl (T 0, 2040, .inl Y.H)), (z 3, .inl (T 0, 680, .inl Y.slo)), (z 4, .inl (T 0, 2, .inl Y.isv)), (z 5, .inl (T 0, 280, .inl c0.tree)), (z 6, .inl (T 0, 7, .inl c0.tried)), (z 7, .inl (T 0, 7, .inl c0.most)), (z 8, .inl (T 0, 7, .inl c0.best)), (z 9, .inl (T 0, 60, .inl (apT Y.pad Y.pn n x (m2 + 1)))), (z 10, .inl (T 0, 15, .inl c0.rd))]) F hW 0 rfl rfl rfl dX7_put_139 (fun H locs hW => ?_)
              refine lv_iinc (v := nI r - 1) (lv' := [(7, .int (nI r - 1)), (0, .ref (z 0)), (1, .long (lN x))]) hx hb dX7_put_142 hl (k := 2) rfl (by rw [Int32.sub_eq_add_neg]; rfl) (by decide) rfl (fun ls hl => ?_)
              refine lv_goto (tgt := 106) hx hb dX7_put_145 (by decide) ?_
              exact ih r _ _ _ (Nat.lt_succ_self r) ⟨m2 + 1, _, by omega, rfl, hW, lv_sub hl [1, 2, 0] rfl⟩
          · have hnc : 60 < Y.pn + n := n_nle h95 (by omega) (by decide)
            refine lv_bipush (v := -4) hx hb dX7_put_98 (by decide) ?_
            have hy : yPut Y x = (-4, Y) := by unfold yPut; rw [ec, if_neg n0, if_pos hnc]
            exact retI F hr hlk rfl hW (⟨c0.tree, c0.tried, c0.most, c0.best, c0.rd, c0.sp⟩ : SD) (congrArg Prod.fst hy).symm (congrArg (fun q => mw T z q.2 (⟨c0.tree, c0.tried, c0.most, c0.best, c0.rd, c0.sp⟩ : SD)) hy).symm dX7_put_100
        · have cz : chF 8 x 0 = 0 := hc.elim (fun z => z.1) (fun z => absurd (z.2.2.2.symm.trans h81) (by decide))
          refine lv_bipush (v := -2) hx hb dX7_put_84 (by decide) ?_
          have hy : yPut Y x = (-2, Y) := if_pos cz
          exact retI F hr hlk rfl hW (⟨c0.tree, c0.tried, c0.most, c0.best, c0.rd, c0.sp⟩ : SD) (congrArg Prod.fst hy).symm (congrArg (fun q => mw T z q.2 (⟨c0.tree, c0.tried, c0.most, c0.best, c0.rd, c0.sp⟩ : SD)) hy).symm dX7_put_86
