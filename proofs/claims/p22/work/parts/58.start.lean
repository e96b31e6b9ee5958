-- the law's start
def R_law : String := "HostileHousesLaw"
def lw_P (b : Addr) (xs : List Int32) (args : Array Value) (s : State) : Prop := args = #[.ref b] ∧ s.IntsAt b xs ∧ xs.length ≤ 260 ∧ (Jvm.Cond.and given_1 narrow_1).before args s = true
def lw_Q (_ : Array Value) (s : State) (o : Outcome) (t : State) : Prop := o = .returned (some (.int 1)) ∧ Framed s o t [] 600000 7302250
def lw_Z (below : List Frame) (a : Array Value) (s : State) : State → Prop := fun t => ∃ o, t.status = .running ∧ Ended t below o ∧ lw_Q a s o t
/-- the law's own end, with 1 on the stack, nothing written that was there before, its room as the claim has it -/
theorem lw_ret {p : Program} {l : Launch} {e : Env} {s : State} {m : MethodId} {below : List Frame} {meth : Method} {c : Code} {b : Nat} (hx : p.tables.exec = Jvm.exec) (hb : c.code = code) (hr : meth.sig.returnType = ret) (hlocks : meth.locks = false) {pc : Nat} {H : Heap} {ls : Array Slot} (hdg : decode code pc = .ok (.ireturn, 1)) : W p l e room_1 s m #[Value.ref b] below meth c H [] 600000 7302250 (lw_Z below #[Value.ref b] s) (F0 m pc ls [.int 1]) := by
  intro T hT X
  obtain ⟨fs, hret, hrun, hended, hW, hframe⟩ := X.leave (v := some (.int 1)) (hlocks := hlocks) (fun h => by rw [hr] at h; cases h)
  have hmeth' : T.vm.method? m = some meth := X.method'
  refine ⟨T.setFrames fs, ?_, .returned (some (.int 1)), hrun, hended, rfl, ⟨_, rfl⟩, hW, hframe⟩
  jvm_step X.here [X.here.top, hx, hb, hdg, hmeth', hr, ret, narrow_b1]
  (try refine ⟨rfl, ?_⟩); (try refine ⟨rfl, ?_⟩)
  first | (intro acts; rw [hret _ acts rfl rfl rfl]) | rw [hret _ _ rfl rfl rfl]
  exact Steps.refl _
/-- what holds at the law's entry -/
def lw_At (p : Program) (s : State) (m : MethodId) (meth : Method) (c : Code) (b L : Nat) (xs : Nat → Int32) : Prop :=
  p.tables.exec = Jvm.exec ∧ c.code = code ∧ meth.sig.returnType = ret ∧ c.maxLocals = 6 ∧ s.vm.findClass R_law = some m.cls ∧ (∀ w ∈ lw_tbl, w.before #[Value.ref b] s = true) ∧ va_X b L xs s s.heap ∧ b < s.heap.size ∧ meth.locks = false ∧ (Jvm.Cond.and given_1 narrow_1).before #[Value.ref b] s = true
theorem ST.make {args : Array Value} {s : State} {nm : String} {f : Nat → Int32} {A : Nat → Prop} (hl : (Cond.laysStatic RX6 nm "[I").before args s = true) (hini : (Cond.initialized RX6).before args s = true) (harr : (Cond.arrayOf (.static RX6 nm "[I") .int).before args s = true) (hlen : (Cond.eq (.length (.static RX6 nm "[I")) (.int 4)).before args s = true) (hel : ∀ j : Nat, j < 4 → (Cond.eq (.elem (.static RX6 nm "[I") (.int (Int32.ofNat j))) (.int (f j))).before args s = true) (hex : (Cond.exactly (.static RX6 nm "[I") "[I").before args s = true) (hA : ∀ a : Nat, a < s.heap.size → ¬ A a) : ST nm f A s s.heap := by
  have hv := va_eqt hlen
  obtain ⟨t, ht, cell, h1, h2, h3, h4, h5, h6, h7⟩ := va_Tof (N := 4) (f := fun j => .int (f j)) (A := A) (by decide) harr hv (fun j hj => va_eqt (hel j hj)) hA
  obtain ⟨a2, c2, cell2, k2, e1, e2, e3, e4, e5, e6, -⟩ := Cond.exactly_spec hex
  cases ht.symm.trans e1
  cases h1.symm.trans e3
  have hs4 : cell.slots.size = 4 := by
    simp only [Term.eval, Option.bind_eq_bind] at hv
    have ht2 := ht
    simp only [Term.eval, Option.bind_eq_bind] at ht2
    rw [ht2] at hv
    simp only [Option.bind_some] at hv
    obtain ⟨cell3, g1, g2⟩ := Option.bind_eq_some_iff.mp hv
    cases h1.symm.trans (State.arrayAt?_spec g1).1
    by_cases hn : cell.slots.size < 2 ^ 31
    · rw [if_pos hn] at g2
      have g3 : nI cell.slots.size = nI 4 := Value.int.inj (Option.some.inj g2)
      exact n_eq g3 hn (by decide)
    · rw [if_neg hn] at g2
      cases g2
  exact ⟨t, cell, va_Zref hl hini ht hA, h1, h2, h3, hs4, h6, by rw [e6]; exact e2, h7⟩
theorem ArrOfT.of {s : State} {c : ClassId} {k : Class} {comp : ClassId} {ty : FieldType} (hk : s.vm.classes[c]? = some k) (hkind : k.kind = .array comp ty) : ArrOfT s c ty := fun n z => ⟨fun k h => (by cases h), k, hk, comp, hkind⟩
theorem start_K {args : Array Value} {s : State} (hg : ∀ w ∈ gtbl, w.before args s = true) (h3 : va_AO RX3 s) (h4 : va_AO RX5 s) : ∃ (D : va_G) (T : Nat → ClassId), va_K D vwCl (wtys T) s := by
  obtain ⟨c0, i0, k0⟩ := u_known (C := RX0) (T := TX0) (N := 3) (n := 3) hg gX0 (hg _ m126)
  obtain ⟨c1, i1, k1⟩ := u_known (C := RX1) (T := TX1) (N := 3) (n := 3) hg gX1 (hg _ m166)
  obtain ⟨c2, i2, k2⟩ := u_known (C := RX2) (T := TX2) (N := 3) (n := 3) hg gX2 (hg _ m146)
  obtain ⟨c3, i3, k3⟩ := u_known (C := RX3) (T := TX3) (N := 6) (n := 6) hg gX3 (hg _ m35)
  obtain ⟨c4, i4, k4⟩ := u_known (C := RX4) (T := TX4) (N := 5) (n := 5) hg gX4 (hg _ m79)
  obtain ⟨c5, i5, k5⟩ := u_known (C := RX5) (T := TX5) (N := 4) (n := 4) hg gX5 (hg _ m29)
  obtain ⟨c6, i6, k6⟩ := u_known (C := RX6) (T := TX6) (N := 6) (n := 6) hg gX6 (hg _ m21)
  obtain ⟨a0, j0, d0, f0, g0, h0⟩ := Cond.arrayClass_spec (hg _ m68)
  obtain ⟨a1, j1, d1, f1, g1, h1⟩ := Cond.arrayClass_spec (hg _ m164)
  obtain ⟨a2, j2, d2, f2, g2, h2⟩ := Cond.arrayClass_spec (hg _ m163)
  obtain ⟨d3, a3, j3, e3, -, f3, g3, q3⟩ := Cond.arrayOver_spec (va_AO.use (A := args) h3)
  obtain ⟨d4, a4, j4, e4, -, f4, g4, q4⟩ := Cond.arrayOver_spec (va_AO.use (A := args) h4)
  refine ⟨(fun k => ([c0, c1, c2, c3, c4, c5, c6] : List ClassId).getD k c0, fun k => ([i0, i1, i2, i3, i4, i5, i6] : List (Nat → Nat)).getD k i0), fun k => ([a0, a1, a2, a3, a4] : List ClassId).getD k a0, ?_, ?_⟩
  · intro k q hq
    match k, hq with
    | 0, hq => cases hq; exact k0
    | 1, hq => cases hq; exact k1
    | 2, hq => cases hq; exact k2
    | 3, hq => cases hq; exact k3
    | 4, hq => cases hq; exact k4
    | 5, hq => cases hq; exact k5
    | 6, hq => cases hq; exact k6
    | k + 7, hq => simp [vwCl] at hq
  · intro k q hq
    match k, hq with
    | 0, hq => cases hq; exact ⟨ArrOfT.of g0 h0, f0⟩
    | 1, hq => cases hq; exact ⟨ArrOfT.of g1 h1, f1⟩
    | 2, hq => cases hq; exact ⟨ArrOfT.of g2 h2, f2⟩
    | 3, hq => cases hq; exact ⟨ArrOfT.of f3 g3, j3, d3, f3, g3, e3, q3⟩
    | 4, hq => cases hq; exact ⟨ArrOfT.of f4 g4, j4, d4, f4, g4, e4, q4⟩
    | k + 5, hq => simp [wtys] at hq
theorem tb30 : (.methodLinkNest RX6 11 yX5_init RX6 : Cond) ∈ lw_tbl := List.mem_of_getElem? (i := 30) (by decide +kernel)
theorem tb36 : (.methodLinkNest RX5 11 yX3_init RX6 : Cond) ∈ lw_tbl := List.mem_of_getElem? (i := 36) (by decide +kernel)
theorem tb69 : (.fieldLinkNest RX5 18 RX6 "FIRST_VALUES" "[I" RX6 : Cond) ∈ lw_tbl := List.mem_of_getElem? (i := 69) (by decide +kernel)
theorem tb76 : (.castable "[I" "java/lang/Cloneable" : Cond) ∈ lw_tbl := List.mem_of_getElem? (i := 76) (by decide +kernel)
theorem tb80 : (.methodLinkNest RX5 32 yX4_init RX6 : Cond) ∈ lw_tbl := List.mem_of_getElem? (i := 80) (by decide +kernel)
theorem tb133 : (.methodLinkNest RX0 17 yX5_init RX6 : Cond) ∈ lw_tbl := List.mem_of_getElem? (i := 133) (by decide +kernel)
theorem tb147 : (.methodLinkNest RX6 33 yX2_init RX6 : Cond) ∈ lw_tbl := List.mem_of_getElem? (i := 147) (by decide +kernel)
theorem tb172 : (.methodLinkNest RX1 11 yX3_init RX6 : Cond) ∈ lw_tbl := List.mem_of_getElem? (i := 172) (by decide +kernel)
theorem tb174 : (.methodLinkNest RX1 20 yX4_init RX6 : Cond) ∈ lw_tbl := List.mem_of_getElem? (i := 174) (by decide +kernel)
theorem tb440 : (.methodLinkNest RX6 176 yX1_valueOf RX6 : Cond) ∈ lw_tbl := List.mem_of_getElem? (i := 440) (by decide +kernel)
theorem tb132 : (.arrayOver (.object RX5) : Cond) ∈ lw_tbl := List.mem_of_getElem? (i := 132) (by decide +kernel)
theorem tb175 : (.arrayOver (.object RX3) : Cond) ∈ lw_tbl := List.mem_of_getElem? (i := 175) (by decide +kernel)
theorem tb70 : (.laysStatic RX6 "FIRST_VALUES" "[I" : Cond) ∈ lw_tbl := List.mem_of_getElem? (i := 70) (by decide +kernel)
theorem tb326 : (.laysStatic RX6 "LOWEST_VALUES" "[I" : Cond) ∈ lw_tbl := List.mem_of_getElem? (i := 326) (by decide +kernel)
theorem tb328 : (.laysStatic RX6 "HIGHEST_VALUES" "[I" : Cond) ∈ lw_tbl := List.mem_of_getElem? (i := 328) (by decide +kernel)
theorem fl_fvI : (Cond.arrayOf (.static RX6 "FIRST_VALUES" "[I") .int) ∈ flatC (Jvm.Cond.and given_1 narrow_1) ∧ (Cond.eq (.length (.static RX6 "FIRST_VALUES" "[I")) (.int 4)) ∈ flatC (Jvm.Cond.and given_1 narrow_1) ∧ (Cond.exactly (.static RX6 "FIRST_VALUES" "[I") "[I") ∈ flatC (Jvm.Cond.and given_1 narrow_1) := by decide +kernel
theorem fe_fvI : ∀ j : Nat, j < 4 → (Cond.eq (.elem (.static RX6 "FIRST_VALUES" "[I") (.int (Int32.ofNat j))) (.int (fvI j))) ∈ flatC (Jvm.Cond.and given_1 narrow_1) := by decide +kernel
theorem fl_loI : (Cond.arrayOf (.static RX6 "LOWEST_VALUES" "[I") .int) ∈ flatC (Jvm.Cond.and given_1 narrow_1) ∧ (Cond.eq (.length (.static RX6 "LOWEST_VALUES" "[I")) (.int 4)) ∈ flatC (Jvm.Cond.and given_1 narrow_1) ∧ (Cond.exactly (.static RX6 "LOWEST_VALUES" "[I") "[I") ∈ flatC (Jvm.Cond.and given_1 narrow_1) := by decide +kernel
theorem fe_loI : ∀ j : Nat, j < 4 → (Cond.eq (.elem (.static RX6 "LOWEST_VALUES" "[I") (.int (Int32.ofNat j))) (.int (loI j))) ∈ flatC (Jvm.Cond.and given_1 narrow_1) := by decide +kernel
theorem fl_hiI : (Cond.arrayOf (.static RX6 "HIGHEST_VALUES" "[I") .int) ∈ flatC (Jvm.Cond.and given_1 narrow_1) ∧ (Cond.eq (.length (.static RX6 "HIGHEST_VALUES" "[I")) (.int 4)) ∈ flatC (Jvm.Cond.and given_1 narrow_1) ∧ (Cond.exactly (.static RX6 "HIGHEST_VALUES" "[I") "[I") ∈ flatC (Jvm.Cond.and given_1 narrow_1) := by decide +kernel
theorem fe_hiI : ∀ j : Nat, j < 4 → (Cond.eq (.elem (.static RX6 "HIGHEST_VALUES" "[I") (.int (Int32.ofNat j))) (.int (hiI j))) ∈ flatC (Jvm.Cond.and given_1 narrow_1) := by decide +kernel
theorem start_G {args : Array Value} {s : State} (hts : ∀ w ∈ lw_tbl, w.before args s = true) (hgv : (Jvm.Cond.and given_1 narrow_1).before args s = true) : GW (fun q : Nat => s.heap.size ≤ q) s s.heap := by
  have hs := flat_of_before _ hgv
  have hA : ∀ a : Nat, a < s.heap.size → ¬ (fun q : Nat => s.heap.size ≤ q) a := fun a h => Nat.not_le.mpr h
  have hini : (Cond.initialized RX6).before args s = true := hts _ (List.mem_filter.mp m11).1
  refine ⟨⟨va_Nw.of rfl (hts _ tb30), va_Nw.of rfl (hts _ tb36), va_Nw.of rfl (hts _ tb69), va_Nw.of rfl (hts _ tb76), va_Nw.of rfl (hts _ tb80), va_Nw.of rfl (hts _ tb133), va_Nw.of rfl (hts _ tb147), va_Nw.of rfl (hts _ tb172), va_Nw.of rfl (hts _ tb174), va_Nw.of rfl (hts _ tb440)⟩, ⟨va_AO.of (hts _ tb132), va_AO.of (hts _ tb175)⟩, ?_, ?_, ?_⟩
  · exact ST.make (hts _ tb70) hini (hs _ fl_fvI.1) (hs _ fl_fvI.2.1) (fun j hj => hs _ (fe_fvI j hj)) (hs _ fl_fvI.2.2) hA
  · exact ST.make (hts _ tb326) hini (hs _ fl_loI.1) (hs _ fl_loI.2.1) (fun j hj => hs _ (fe_loI j hj)) (hs _ fl_loI.2.2) hA
  · exact ST.make (hts _ tb328) hini (hs _ fl_hiI.1) (hs _ fl_hiI.2.1) (fun j hj => hs _ (fe_hiI j hj)) (hs _ fl_hiI.2.2) hA
theorem ur_0 : UR (pY Y0.pad 0) u00 := ⟨nrel_z rfl, ⟨by decide, fun i _ => Or.inl rfl, fun i hi => absurd hi (Nat.not_lt_zero i)⟩, ⟨fun k _ => Or.inl rfl, fun k _ h => absurd (show (0 : Int32) = 1 from h) (by decide)⟩⟩
