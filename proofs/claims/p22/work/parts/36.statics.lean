-- statics that nobody writes, links between nest mates; constructors: contracts, new cells
abbrev fvI : Nat → Int32 := fun j => if j = 0 then 4 else if j = 1 then 3 else if j = 2 then 6 else 1
abbrev loI : Nat → Int32 := fun j => if j = 0 then 1 else if j = 1 then 1 else 0
abbrev hiI : Nat → Int32 := fun j => if j = 0 then 9 else if j = 1 then 9 else if j = 2 then 20 else 3
def ST (n : String) (f : Nat → Int32) (A : Nat → Prop) (U : State) (H : Heap) : Prop := ∃ (t : Nat) (cell : Cell), va_Z RX6 n "[I" (.ref t) A U H ∧ H[t]? = some cell ∧ U.isArrayOf cell .int ∧ cell.vm ≠ .unknown ∧ cell.slots.size = 4 ∧ (∀ j, j < 4 → cell.slots[j]? = some (.int (f j))) ∧ U.vm.findClass "[I" = some cell.cls ∧ ¬ A t
theorem ST.moved {n : String} {f : Nat → Int32} {A : Nat → Prop} {u U : State} {H : Heap} (hvm : u.vm.Alike U.vm) (h : ST n f A u H) : ST n f A U H := by
  obtain ⟨t, cell, h1, h2, h3, h4, h5, h6, h7, h8⟩ := h
  exact ⟨t, cell, va_Z.moved hvm h1, h2, State.isArrayOf_alike hvm h3, h4, h5, h6, by rw [hvm.findClass]; exact h7, h8⟩
theorem ST.kept {n : String} {f : Nat → Int32} {A : Nat → Prop} {U : State} {H H1 : Heap} (h : ST n f A U H) (hq : ∀ a : Nat, a < H.size → ¬ A a → H1[a]? = H[a]?) : ST n f A U H1 := by
  obtain ⟨t, cell, h1, h2, h3, h4, h5, h6, h7, h8⟩ := h
  exact ⟨t, cell, va_Z.kept h1 hq, by rw [hq t (Array.getElem?_eq_some_iff.mp h2).1 h8]; exact h2, h3, h4, h5, h6, h7, h8⟩
theorem ST.narrow {n : String} {f : Nat → Int32} {A B : Nat → Prop} {U : State} {H : Heap} (h : ST n f A U H) (hAB : ∀ q, B q → A q) : ST n f B U H := by
  obtain ⟨t, cell, h1, h2, h3, h4, h5, h6, h7, h8⟩ := h
  exact ⟨t, cell, va_Z.narrow h1 hAB, h2, h3, h4, h5, h6, h7, fun z => h8 (hAB t z)⟩
def GW (A : Nat → Prop) (U : State) (H : Heap) : Prop :=
  (va_Nw (.methodLinkNest RX6 11 yX5_init RX6) U ∧ va_Nw (.methodLinkNest RX5 11 yX3_init RX6) U ∧ va_Nw (.fieldLinkNest RX5 18 RX6 "FIRST_VALUES" "[I" RX6) U ∧ va_Nw (.castable "[I" "java/lang/Cloneable") U ∧ va_Nw (.methodLinkNest RX5 32 yX4_init RX6) U ∧ va_Nw (.methodLinkNest RX0 17 yX5_init RX6) U ∧ va_Nw (.methodLinkNest RX6 33 yX2_init RX6) U ∧ va_Nw (.methodLinkNest RX1 11 yX3_init RX6) U ∧ va_Nw (.methodLinkNest RX1 20 yX4_init RX6) U ∧ va_Nw (.methodLinkNest RX6 176 yX1_valueOf RX6) U) ∧ (va_AO RX5 U ∧ va_AO RX3 U) ∧ ST "FIRST_VALUES" fvI A U H ∧ ST "LOWEST_VALUES" loI A U H ∧ ST "HIGHEST_VALUES" hiI A U H
theorem GW.warm {A : Nat → Prop} {s U : State} {H : Heap} (hW : s.WarmedH U.vm) (h : GW A s H) : GW A U H := by
  obtain ⟨⟨a1, a2, a3, a4, a5, a6, a7, a8, a9, a10⟩, ⟨b1, b2⟩, c1, c2, c3⟩ := h
  exact ⟨⟨va_Nw.warmM hW a1, va_Nw.warmM hW a2, va_Nw.warmF hW a3, va_Nw.warmC hW a4, va_Nw.warmM hW a5, va_Nw.warmM hW a6, va_Nw.warmM hW a7, va_Nw.warmM hW a8, va_Nw.warmM hW a9, va_Nw.warmM hW a10⟩, ⟨va_AO.moved hW.alike b1, va_AO.moved hW.alike b2⟩, c1.moved hW.alike, c2.moved hW.alike, c3.moved hW.alike⟩
theorem GW.same {A : Nat → Prop} {s U : State} {H : Heap} (hv : s.vm = U.vm) (h : GW A s H) : GW A U H := by
  have hA : s.vm.Alike U.vm := by rw [hv]; exact Vm.Alike.refl U.vm
  obtain ⟨⟨a1, a2, a3, a4, a5, a6, a7, a8, a9, a10⟩, ⟨b1, b2⟩, c1, c2, c3⟩ := h
  exact ⟨⟨va_Nw.same rfl hv a1, va_Nw.same rfl hv a2, va_Nw.same rfl hv a3, va_Nw.same rfl hv a4, va_Nw.same rfl hv a5, va_Nw.same rfl hv a6, va_Nw.same rfl hv a7, va_Nw.same rfl hv a8, va_Nw.same rfl hv a9, va_Nw.same rfl hv a10⟩, ⟨va_AO.moved hA b1, va_AO.moved hA b2⟩, c1.moved hA, c2.moved hA, c3.moved hA⟩
theorem GW.kept {A : Nat → Prop} {U : State} {H H1 : Heap} (h : GW A U H) (hq : ∀ a : Nat, a < H.size → ¬ A a → H1[a]? = H[a]?) : GW A U H1 := ⟨h.1, h.2.1, h.2.2.1.kept hq, h.2.2.2.1.kept hq, h.2.2.2.2.kept hq⟩
theorem GW.narrow {A B : Nat → Prop} {U : State} {H : Heap} (h : GW A U H) (hAB : ∀ q, B q → A q) : GW B U H := ⟨h.1, h.2.1, h.2.2.1.narrow hAB, h.2.2.2.1.narrow hAB, h.2.2.2.2.narrow hAB⟩
-- contracts over them
def Cg (D : va_G) (T : Nat → ClassId) (av : List Value) (wc : va_W) (sz : Nat) : Array Value → State → Prop := va_Pc av (fun U => (U.heap.size = sz ∧ va_K D vwCl (wtys T) U ∧ va_P D vwCl wc U.heap ∧ va_D (fun _ => True) wc) ∧ GW (va_A wc sz) U U.heap)
theorem blindG {D : va_G} {T : Nat → ClassId} {wc : va_W} (av : List Value) (sz : Nat) : FrameBlind (Cg D T av wc sz) := fun a U g mk q => ⟨q.1, ⟨q.2.1.1, va_K.moved (u := U) (U := U.calling g mk a) (Vm.Alike.refl U.vm) q.2.1.2.1, q.2.1.2.2.1, q.2.1.2.2.2⟩, GW.same (s := U) (U := U.calling g mk a) rfl q.2.2⟩
def KIg {S : Type} (l : Launch) (D : va_G) (T : Nat → ClassId) (y : MethodName) (cy : ByteArray) (mL : Nat) (ret : Option FieldType) (lev : Nat) (av : List Value) (wc : va_W) (post : Int32 → S → Prop) (w1 : S → va_W) : Prop :=
  ∀ sz : Nat, Met l y (.code y cy mL ret :: gtbl) (gR lev 0 0) (Cg D T av wc sz) (va_Qi post (Bp D T w1 (va_A wc sz)) (va_A wc sz)) 0 0 (va_A wc sz)
def KC {S : Type} (l : Launch) (D : va_G) (T : Nat → ClassId) (y : MethodName) (cy : ByteArray) (mL : Nat) (lev mc ms : Nat) (av : List Value) (wc : va_W) (post : S → Prop) (w1 : S → va_W) : Prop :=
  ∀ sz : Nat, Met l y (.code y cy mL none :: gtbl) (gR lev mc ms) (Cg D T av wc sz) (va_Qv post (Bp D T w1 (va_A wc sz)) (va_A wc sz)) mc ms (va_A wc sz)
theorem KIg.of {S : Type} {l : Launch} {D : va_G} {T : Nat → ClassId} {y : MethodName} {cy : ByteArray} {mL : Nat} {ret : Option FieldType} {lev : Nat} {av : List Value} {wc : va_W} {post : Int32 → S → Prop} {w1 : S → va_W} (hy : plainName y.cls = true) (hlen : (lg_sl av).length ≤ mL)
    (body : ∀ (p : Program) (e : Env) (s : State) (m : MethodId) (below : List Frame) (meth : Method) (c : Code) (A : Nat → Prop), CallFix p m c cy mL s av.toArray gtbl y.cls → meth.sig.returnType = ret → meth.locks = false → GW A s s.heap → Wd D T A s wc s.heap [] → ∀ ls : Array Slot, lv_has ls mL (lv_args 0 av) → W p l e (gR lev 0 0) s m av.toArray below meth c s.heap [] 0 0 (MQ below (va_Qi post (Bp D T w1 A) A) av.toArray s 0 0 A) (F0 m 0 ls [])) : KIg l D T y cy mL ret lev av wc post w1 := by
  intro sz
  refine Met.ofW (cc := cy) (maxL := mL) (ret := ret) hy rfl ?_
  intro p e s m args below meth c s₁ B hml hv
  obtain ⟨rfl, ⟨rfl, hK, hP, hD⟩, hG⟩ := hv
  have hl := lv_entry av (n := mL) hlen
  rw [lg_entry_eq]
  exact body p e s m below meth c _ ⟨B.exec, B.bytes, hml, findClass_of_methodNamed B.named, hts_of B.pre⟩ B.returns B.notSynchronized hG ⟨hK, hP, hD.self, va_S.rf, fun _ h => Or.inr h⟩ _ hl
theorem KC.of {S : Type} {l : Launch} {D : va_G} {T : Nat → ClassId} {y : MethodName} {cy : ByteArray} {mL : Nat} {lev mc ms : Nat} {av : List Value} {wc : va_W} {post : S → Prop} {w1 : S → va_W} (hy : plainName y.cls = true) (hy1 : y.name = "<init>") (hlen : (lg_sl av).length ≤ mL)
    (body : ∀ (p : Program) (e : Env) (s : State) (m : MethodId) (below : List Frame) (meth : Method) (c : Code) (A : Nat → Prop), CallFix p m c cy mL s av.toArray gtbl y.cls → meth.sig.returnType = none → meth.locks = false → meth.name = "<init>" → GW A s s.heap → Wd D T A s wc s.heap [] → ∀ ls : Array Slot, lv_has ls mL (lv_args 0 av) → W p l e (gR lev mc ms) s m av.toArray below meth c s.heap [] 0 0 (MQ below (va_Qv post (Bp D T w1 A) A) av.toArray s mc ms A) (F0 m 0 ls [])) : KC l D T y cy mL lev mc ms av wc post w1 := by
  intro sz
  refine Met.ofW (cc := cy) (maxL := mL) (ret := none) hy rfl ?_
  intro p e s m args below meth c s₁ B hml hv
  obtain ⟨rfl, ⟨rfl, hK, hP, hD⟩, hG⟩ := hv
  have hl := lv_entry av (n := mL) hlen
  rw [lg_entry_eq]
  exact body p e s m below meth c _ ⟨B.exec, B.bytes, hml, findClass_of_methodNamed B.named, hts_of B.pre⟩ B.returns B.notSynchronized ((name_of_methodNamed B.named B.method).1.trans hy1) hG ⟨hK, hP, hD.self, va_S.rf, fun _ h => Or.inr h⟩ _ hl
theorem ra_uniq {s : State} {cA cB : ClassId} {ty : FieldType} (h1 : va_RA s cA ty) (h2 : va_RA s cB ty) : cA = cB := by
  cases ty with
  | object C =>
    obtain ⟨_, _, _, _, _, e1⟩ := h1
    obtain ⟨_, _, _, _, _, e2⟩ := h2
    exact Option.some.inj (e1.symm.trans e2)
  | _ => exact Option.some.inj (Eq.trans (Eq.symm h1) h2)
section NEWC
variable {p : Program} {l : Launch} {e : Env} {R : Room} {s : State} {m : MethodId} {args : Array Value} {below : List Frame} {meth : Method} {c : Code} {H : Heap} {locs : List Loc} {cells slots : Nat} {Q : State → Prop} {cc : ByteArray} {nL : Nat} {own : String} {D : va_G} {T : Nat → ClassId} {A : Nat → Prop} {ws ws' wc wr : va_W} {a b : Nat} {pc : Nat} {ls : Array Slot} {rest st : List Value} {lv : List (Nat × Value)} {mc ms : Nat}
theorem retVc {S : Type} {post : S → Prop} {w1 : S → va_W} (F : CallFix p m c cc nL s args gtbl own) (hr : meth.sig.returnType = none) (hlk : meth.locks = false) (hW : Wd D T A s ws H locs) (hcs : cells ≤ mc ∧ slots ≤ ms) (u : S) (hp : post u) (hw : ws = w1 u) (hdg : decode cc pc = .ok (.return_, 1)) : W p l e R s m args below meth c H locs cells slots (MQ below (va_Qv post (Bp D T w1 A) A) args s mc ms A) (F0 m pc ls []) := by
  subst hw
  refine W.widen hcs.1 hcs.2 ?_
  exact W.vret F.1 F.2.1 hr (fun t ht hWm => ⟨⟨u, rfl, hp, va_K.moved hWm.alike hW.1, by rw [ht]; exact hW.2.1, hW.2.2.1⟩, hW.2.2.2.1.F ht⟩) hW.2.2.2.1.2.2 hdg hlk
theorem wobj (F : CallFix p m c cc nL s args gtbl own) (hl : lv_has ls nL lv) {idx : Nat} (h1 : Cond.methodLink own idx Lib.objectInit ∈ gtbl) (hR : 1 ≤ R.frames ∧ (rest.map fun v => v.category).sum + 12 ≤ R.locals) (hdg : decode cc pc = .ok (.invokespecial idx, 3))
    (kk : W p l e R s m args below meth c H locs cells slots Q (F0 m (pc + 3) ls rest)) : W p l e R s m args below meth c H locs cells slots Q (F0 m pc ls (.ref a :: rest)) := by
  refine W.objInit F.1 F.2.1 F.2.2.2.1 (F.2.2.2.2 _ h1) (F.2.2.2.2 _ m26) (F.2.2.2.2 _ m27) rfl (by rw [F.2.2.1]; exact hl.1) rfl hdg hR.1 ?_ ?_
  · show 2 * 0 + (rest.map fun v => v.category).sum + 12 ≤ R.locals
    have := hR.2
    omega
  · exact W.eq (g2 := F0 m (pc + 3) ls rest) rfl kk
theorem wnew (F : CallFix p m c cc nL s args gtbl own) (hW : Wd D T A s ws H locs) {C : String} {TT : u_T} {N index : Nat} (ci : Nat) {ty : Nat → FieldType} (hin : ∀ w ∈ u_ws C TT N, w ∈ gtbl) (hty : ∀ k, k < N → parseFieldDescriptor (TT k).2.2.1 = some (ty k)) (h1 : Cond.classLink own index C ∈ gtbl) (h2 : Cond.instantiable C N ∈ gtbl) (h3 : Cond.initialized C ∈ gtbl) (hc : vwCl[ci]? = some (C, TT, N)) (fs : List Value) (hfs : ∀ j, j < N → defaultValue (ty j) = vp_V fs j) (hcs : cells + 1 ≤ R.cells ∧ slots + N ≤ R.slots) (hdg : decode cc pc = .ok (.new index, 3))
    (kk : ∀ (q : Nat) (H1 : Heap), Wd D T A s (ws ++ [(q, .inr (ci, fs))]) H1 locs → W p l e R s m args below meth c H1 locs (cells + 1) (slots + N) Q (F0 m (pc + 3) ls (.ref q :: rest))) : W p l e R s m args below meth c H locs cells slots Q (F0 m pc ls rest) :=
  va_new F.1 F.2.1 F.2.2.2.2 hin ty hty F.2.2.2.1 (F.2.2.2.2 _ h1) (F.2.2.2.2 _ h2) (F.2.2.2.2 _ h3) hW.1 hW.2.1 hW.2.2.1 hW.2.2.2.1 hW.2.2.2.2 hc hfs hcs.1 hcs.2 hdg (fun q H1 hP hD hS => kk q H1 ⟨hW.1, hP, hD, hS, hW.2.2.2.2⟩)
theorem wnewa (F : CallFix p m c cc nL s args gtbl own) (hW : Wd D T A s ws H locs) {atype : ArrayType} {ty : FieldType} (t0 : Nat) {cT : ClassId} (ht : (wtys T)[t0]? = some (cT, ty)) (harr : Cond.arrayClass (newarray.typeOf atype) ∈ gtbl) (hty : newarray.typeOf atype = ty) (N : Nat) (hN : N < 2 ^ 31) (ha : ∀ cA : ClassId, vp_cell cA (N, .inl (fun _ => 0)) = arrV cA N (fun _ => defaultValue ty)) (hbytes : N * componentBytes ty ≤ 536870912) (hcs : cells + 1 ≤ R.cells ∧ slots + N ≤ R.slots) (hdg : decode cc pc = .ok (.newarray atype, 2))
    (kk : ∀ (q : Nat) (H1 : Heap), Wd D T A s (ws ++ [(q, .inl (cT, N, .inl (fun _ => 0)))]) H1 locs → W p l e R s m args below meth c H1 locs (cells + 1) (slots + N) Q (F0 m (pc + 2) ls (.ref q :: rest))) : W p l e R s m args below meth c H locs cells slots Q (F0 m pc ls (.int (nI N) :: rest)) := by
  refine va_newa F.1 F.2.1 (F.2.2.2.2 _ harr) hty hW.1 hW.2.1 hW.2.2.1 hW.2.2.2.1 hW.2.2.2.2 ha (nI_pos hN) (nI_clamp hN) hbytes hcs.1 hcs.2 hdg (fun q cA H1 hK hP hD hS => ?_)
  have e1 : cA = cT := ra_uniq (hK.2 5 (cA, ty) rfl).2 (hW.1.2 t0 _ ht).2
  subst e1
  exact kk q H1 ⟨hW.1, hP, hD, hS, hW.2.2.2.2⟩
theorem wnewq (F : CallFix p m c cc nL s args gtbl own) (hW : Wd D T A s ws H locs) {C : String} {index : Nat} (t0 : Nat) {cT : ClassId} (ht : (wtys T)[t0]? = some (cT, .object C)) (hlink : Cond.classLink own index C ∈ gtbl) (hover : va_AO C s) (N : Nat) (hN : N < 2 ^ 31) (hbytes : N * 4 ≤ 536870912) (hcs : cells + 1 ≤ R.cells ∧ slots + N ≤ R.slots) (hdg : decode cc pc = .ok (.anewarray index, 3))
    (kk : ∀ (q : Nat) (H1 : Heap), Wd D T A s (ws ++ [(q, .inl (cT, N, .inr (.inr (.inr (.inr (fun _ => none))))))]) H1 locs → W p l e R s m args below meth c H1 locs (cells + 1) (slots + N) Q (F0 m (pc + 3) ls (.ref q :: rest))) : W p l e R s m args below meth c H locs cells slots Q (F0 m pc ls (.int (nI N) :: rest)) := by
  refine va_newq F.1 F.2.1 F.2.2.2.1 (F.2.2.2.2 _ hlink) hover hW.1 hW.2.1 hW.2.2.1 hW.2.2.2.1 hW.2.2.2.2 (nI_pos hN) (nI_clamp hN) hbytes hcs.1 hcs.2 hdg (fun q cA H1 hK hP hD hS => ?_)
  have e1 : cA = cT := ra_uniq (hK.2 5 (cA, .object C) rfl).2 (hW.1.2 t0 _ ht).2
  subst e1
  exact kk q H1 ⟨hW.1, hP, hD, hS, hW.2.2.2.2⟩
theorem wastq (F : CallFix p m c cc nL s args gtbl own) (hW : Wd D T A s ws H locs) (q0 t0 qk ci : Nat) {cA : ClassId} {r : vw_C} {n v : Nat} {vs : List Value} {f : Nat → Option Nat} (ha : ws[q0]? = some (a, .inl (cA, n, .inr (.inr (.inr (.inr f)))))) (ht : (wtys T)[t0]? = some (cA, .object r.1)) (hv : ws[qk]? = some (v, .inr (ci, vs))) (hc : vwCl[ci]? = some r) (k : Nat) (hk : k < n) (hn : n < 2 ^ 31) (f' : Nat → Option Nat) (hf : va_up f k (some v) = f') (hw : ws.set q0 (a, .inl (cA, n, .inr (.inr (.inr (.inr f'))))) = ws') (hdg : decode cc pc = .ok (.aastore, 1))
    (kk : ∀ (H1 : Heap) (locs1 : List Loc), Wd D T A s ws' H1 locs1 → W p l e R s m args below meth c H1 locs1 cells slots Q (F0 m (pc + 1) ls rest)) : W p l e R s m args below meth c H locs cells slots Q (F0 m pc ls (.ref v :: .int (nI k) :: .ref a :: rest)) := by
  subst hf
  subst hw
  refine va_astq F.1 F.2.1 hW.1 hW.2.1 hW.2.2.1 hW.2.2.2.1 q0 t0 qk ci ha ht hv hc (vp_in_nI hk hn) hdg (fun H1 locs1 hP hD hS => ?_)
  rw [nI_clamp (Nat.lt_trans hk hn)] at hP hD
  exact kk H1 locs1 ⟨hW.1, hP, hD, hS, hW.2.2.2.2⟩
theorem gtbl_code {y : MethodName} {cy : ByteArray} {mL : Nat} {ret : Option FieldType} (h : Cond.code y cy mL ret ∈ gtbl) : GoodIn gtbl (Cond.code y cy mL ret :: gtbl) := by
  have k : ∀ w ∈ Cond.code y cy mL ret :: gtbl, w ∈ gtbl := by
    intro w hw
    rcases List.mem_cons.mp hw with rfl | hw
    · exact h
    · exact hw
  exact fun w hw => ⟨k w hw, good_g w (k w hw)⟩
theorem Wd.gw (hW : Wd D T A s ws H locs) (hG : GW A s s.heap) (is : List Nat) (hC : is.map (fun i => ws[i]?) = wc.map some) : GW (va_A wc H.size) s H :=
  (hG.kept (fun a h1 h2 => hW.2.2.2.1.2.1 a h1 h2)).narrow (va_free (wc := wc) hW.2.2.1 hW.2.2.2.1 hW.2.2.2.2 is hC)
/-- a constructor without arguments, of a nest mate -/
theorem cNN {S : Type} {post : S → Prop} {w1 : S → va_W} {y : MethodName} {cy : ByteArray} {mL idx lev : Nat} {host : String} (F : CallFix p m c cc nL s args gtbl own) (hG : GW A s s.heap) (hW : Wd D T A s ws H locs) (hl : lv_has ls nL lv) (hNw : va_Nw (.methodLinkNest own idx y host) s) (h1 : Cond.instanceMethod y ∈ gtbl) (h2 : Cond.initialized y.cls ∈ gtbl) (h3 : Cond.code y cy mL none ∈ gtbl) (hd : y.name = "<init>" ∧ y.cls ≠ "java/lang/invoke/MethodHandle" ∧ y.cls ≠ "java/lang/invoke/VarHandle" ∧ (parseMethodDescriptor y.desc).map (fun d => d.parameters.length) = some 0) (hM : KC l D T y cy mL lev mc ms [.ref b] wc post w1) (is isR : List Nat) (hn : va_nd is = true) (hC : is.map (fun i => ws[i]?) = wc.map some) (hnR : va_nd isR = true) (hCR : isR.map (fun i => ws[i]?) = wr.map some) (hdis : ∀ i ∈ isR, i ∉ is)
    (hroom : (rest.map fun v => v.category).sum ≤ 8) (hR : lev + 1 ≤ R.frames ∧ 8 + (mL + 11) + 32 * lev ≤ R.locals) (hcs : cells + mc ≤ R.cells ∧ slots + ms ≤ R.slots) (hdg : decode cc pc = .ok (.invokespecial idx, 3))
    (kk : ∀ (u : S) (H1 : Heap) (locs1 : List Loc), post u → Wd D T A s (wr ++ w1 u) H1 locs1 → W p l e R s m args below meth c H1 locs1 (cells + mc) (slots + ms) Q (F0 m (pc + 3) ls rest)) : W p l e R s m args below meth c H locs cells slots Q (F0 m pc ls (.ref b :: rest)) := by
  obtain ⟨hP, hD⟩ := hW.cut is hn hC
  have hFc := va_free (wc := wc) hW.2.2.1 hW.2.2.2.1 hW.2.2.2.2 is hC
  have hG2 := hW.gw hG is hC
  refine va_callv (va_runIN (As := []) (rest := rest) F (hM H.size) ⟨va_cnB 0 F.2.2.2.2 (gtbl_code h3) rfl rfl rfl hNw (F.2.2.2.2 _ h2) hd.2 hR, hd.1, F.2.2.2.2 _ h1⟩ ⟨blindG _ _, fun U hU hWm => ⟨rfl, ⟨by rw [hU], va_K.moved hWm.alike hW.1, by rw [hU]; exact hP, hD⟩, by rw [hU]; exact hG2.warm hWm⟩⟩ rfl rfl hl.1 rfl (lv_room hroom) hdg hcs) hW.2.2.2.1 (fun q _ h => hFc q h) hFc (fun u t H1 locs1 ht hvm hp hB hz hk hS => ?_)
  exact kk u H1 locs1 hp (hW.join is isR hnR hC hCR hdis ht hB hk hS)
theorem cNI {S : Type} {post : S → Prop} {w1 : S → va_W} {y : MethodName} {cy : ByteArray} {mL idx lev : Nat} (F : CallFix p m c cc nL s args gtbl own) (hG : GW A s s.heap) (hW : Wd D T A s ws H locs) (hl : lv_has ls nL lv) (h0 : Cond.methodLink own idx y ∈ gtbl) (h1 : Cond.instanceMethod y ∈ gtbl) (h2 : Cond.initialized y.cls ∈ gtbl) (h3 : Cond.code y cy mL none ∈ gtbl) (hd : y.name = "<init>" ∧ y.cls ≠ "java/lang/invoke/MethodHandle" ∧ y.cls ≠ "java/lang/invoke/VarHandle" ∧ (parseMethodDescriptor y.desc).map (fun d => d.parameters.length) = some 0) (hM : KC l D T y cy mL lev mc ms [.ref b] wc post w1) (is isR : List Nat) (hn : va_nd is = true) (hC : is.map (fun i => ws[i]?) = wc.map some) (hnR : va_nd isR = true) (hCR : isR.map (fun i => ws[i]?) = wr.map some) (hdis : ∀ i ∈ isR, i ∉ is)
    (hroom : (rest.map fun v => v.category).sum ≤ 8) (hR : lev + 1 ≤ R.frames ∧ 8 + (mL + 11) + 32 * lev ≤ R.locals) (hcs : cells + mc ≤ R.cells ∧ slots + ms ≤ R.slots) (hdg : decode cc pc = .ok (.invokespecial idx, 3))
    (kk : ∀ (u : S) (H1 : Heap) (locs1 : List Loc), post u → Wd D T A s (wr ++ w1 u) H1 locs1 → W p l e R s m args below meth c H1 locs1 (cells + mc) (slots + ms) Q (F0 m (pc + 3) ls rest)) : W p l e R s m args below meth c H locs cells slots Q (F0 m pc ls (.ref b :: rest)) := by
  obtain ⟨hP, hD⟩ := hW.cut is hn hC
  have hFc := va_free (wc := wc) hW.2.2.1 hW.2.2.2.1 hW.2.2.2.2 is hC
  have hG2 := hW.gw hG is hC
  refine va_callv (va_runI (As := []) (rest := rest) F (hM H.size) (cwI 0 F.2.2.2.2 (gtbl_code h3) rfl rfl rfl (F.2.2.2.2 _ h2) (F.2.2.2.2 _ h0) (F.2.2.2.2 _ h1) hd.1 hd.2 hR) ⟨blindG _ _, fun U hU hWm => ⟨rfl, ⟨by rw [hU], va_K.moved hWm.alike hW.1, by rw [hU]; exact hP, hD⟩, by rw [hU]; exact hG2.warm hWm⟩⟩ rfl rfl hl.1 rfl (lv_room hroom) hdg hcs) hW.2.2.2.1 (fun q _ h => hFc q h) hFc (fun u t H1 locs1 ht hvm hp hB hz hk hS => ?_)
  exact kk u H1 locs1 hp (hW.join is isR hnR hC hCR hdis ht hB hk hS)
/-- a call of a method that writes in a part of the world and reads the statics -/
theorem cIVg {S : Type} {post : Int32 → S → Prop} {w1 : S → va_W} {C : String} {y : MethodName} {cy : ByteArray} {mL n idx lev : Nat} {ret : Option FieldType} {As : List Value} (F : CallFix p m c cc nL s args gtbl own) (hG : GW A s s.heap) (hW : Wd D T A s ws H locs) (hl : lv_has ls nL lv) (cw : CalV own idx C y cy mL ret n) (hM : KIg l D T y cy mL ret lev (.ref b :: As) wc post w1) (is isR : List Nat) (hn : va_nd is = true) (hC : is.map (fun i => ws[i]?) = wc.map some) (hnR : va_nd isR = true) (hCR : isR.map (fun i => ws[i]?) = wr.map some) (hdis : ∀ i ∈ isR, i ∉ is) (qr ci : Nat) {fs : List Value} {r0 : vw_C} (hrc : wc[qr]? = some (b, .inr (ci, fs))) (hci : vwCl[ci]? = some r0) (hcn : r0.1 = C)
    (hst : st = As.reverse ++ .ref b :: rest) (hlen : As.length = n) (hroom : (rest.map fun v => v.category).sum ≤ 8) (hR : lev + 1 ≤ R.frames ∧ 8 + (mL + 11) + 32 * lev ≤ R.locals) (hcs : cells ≤ R.cells ∧ slots ≤ R.slots) (hdg : decode cc pc = .ok (.invokevirtual idx, 3))
    (kk : ∀ (r : Int32) (u : S) (H1 : Heap) (locs1 : List Loc), post r u → Wd D T A s (wr ++ w1 u) H1 locs1 → W p l e R s m args below meth c H1 locs1 cells slots Q (F0 m (pc + 3) ls (.int r :: rest))) : W p l e R s m args below meth c H locs cells slots Q (F0 m pc ls st) := by
  obtain ⟨hP, hD⟩ := hW.cut is hn hC
  subst hst; subst hcn
  have hFc := va_free (wc := wc) hW.2.2.1 hW.2.2.2.1 hW.2.2.2.2 is hC
  have hG2 := hW.gw hG is hC
  refine va_calli (va_runV (As := As) (rest := rest) F (hM H.size) (cwV n F.2.2.2.2 (goodV cw) rfl rfl rfl cw.2 hR) ⟨blindG _ _, va_recv hW.1 hP hci hrc, fun U hU hWm => ⟨rfl, ⟨by rw [hU], va_K.moved hWm.alike hW.1, by rw [hU]; exact hP, hD⟩, by rw [hU]; exact hG2.warm hWm⟩⟩ rfl hlen hl.1 rfl (lv_room hroom) hdg hcs) hW.2.2.2.1 (fun q _ h => hFc q h) hFc (fun r u t H1 locs1 ht hvm hp hB hz hk hS => ?_)
  exact kk r u H1 locs1 hp (hW.join is isR hnR hC hCR hdis ht hB hk hS)
/-- a call of a private method of a nest mate that writes in a part of the world -/
theorem cIVN {S : Type} {post : Int32 → S → Prop} {w1 : S → va_W} {C host : String} {y : MethodName} {cy : ByteArray} {mL n idx lev : Nat} {ret : Option FieldType} {As : List Value} (F : CallFix p m c cc nL s args gtbl own) (hW : Wd D T A s ws H locs) (hl : lv_has ls nL lv) (hNw : va_Nw (.methodLinkNest own idx y host) s) (h1 : Cond.instanceMethod y ∈ gtbl) (h2 : Cond.initialized y.cls ∈ gtbl) (h3 : Cond.code y cy mL ret ∈ gtbl) (h4 : Cond.selects C y y ∈ gtbl) (hd : y.cls ≠ "java/lang/invoke/MethodHandle" ∧ y.cls ≠ "java/lang/invoke/VarHandle" ∧ (parseMethodDescriptor y.desc).map (fun d => d.parameters.length) = some n) (hM : KI l D T y cy mL ret lev (.ref b :: As) wc post w1) (is isR : List Nat) (hn : va_nd is = true) (hC : is.map (fun i => ws[i]?) = wc.map some) (hnR : va_nd isR = true) (hCR : isR.map (fun i => ws[i]?) = wr.map some) (hdis : ∀ i ∈ isR, i ∉ is) (qr ci : Nat) {fs : List Value} {r0 : vw_C} (hrc : wc[qr]? = some (b, .inr (ci, fs))) (hci : vwCl[ci]? = some r0) (hcn : r0.1 = C)
    (hst : st = As.reverse ++ .ref b :: rest) (hlen : As.length = n) (hroom : (rest.map fun v => v.category).sum ≤ 8) (hR : lev + 1 ≤ R.frames ∧ 8 + (mL + 11) + 32 * lev ≤ R.locals) (hcs : cells ≤ R.cells ∧ slots ≤ R.slots) (hdg : decode cc pc = .ok (.invokevirtual idx, 3))
    (kk : ∀ (r : Int32) (u : S) (H1 : Heap) (locs1 : List Loc), post r u → Wd D T A s (wr ++ w1 u) H1 locs1 → W p l e R s m args below meth c H1 locs1 cells slots Q (F0 m (pc + 3) ls (.int r :: rest))) : W p l e R s m args below meth c H locs cells slots Q (F0 m pc ls st) := by
  obtain ⟨hP, hD⟩ := hW.cut is hn hC
  subst hst; subst hcn
  have hFc := va_free (wc := wc) hW.2.2.1 hW.2.2.2.1 hW.2.2.2.2 is hC
  refine va_calli (va_runVN (As := As) (rest := rest) F (hM H.size) ⟨va_cnB n F.2.2.2.2 (gtbl_code h3) rfl rfl rfl hNw (F.2.2.2.2 _ h2) hd hR, F.2.2.2.2 _ h1, F.2.2.2.2 _ h4⟩ ⟨blindP _ _, va_recv hW.1 hP hci hrc, fun U hU hWm => ⟨rfl, by rw [hU], va_K.moved hWm.alike hW.1, by rw [hU]; exact hP, hD⟩⟩ rfl hlen hl.1 rfl (lv_room hroom) hdg hcs) hW.2.2.2.1 (fun q _ h => hFc q h) hFc (fun r u t H1 locs1 ht hvm hp hB hz hk hS => ?_)
  exact kk r u H1 locs1 hp (hW.join is isR hnR hC hCR hdis ht hB hk hS)
theorem ST.tab {n : String} {f : Nat → Int32} {U : State} {H : Heap} {t : Nat} {cell : Cell} (h2 : H[t]? = some cell) (h3 : U.isArrayOf cell .int) (h4 : cell.vm ≠ .unknown) (h5 : cell.slots.size = 4) (h6 : ∀ j, j < 4 → cell.slots[j]? = some (.int (f j))) (h8 : ¬ A t) : va_T .int t 4 (fun j => .int (f j)) A U H :=
  ⟨cell, h2, h3, h4, by omega, by rw [h5] <;> rfl, h6, h8⟩
theorem arq_congr {cA : ClassId} {n : Nat} {f g : Nat → Option Nat} (h : ∀ j, j < n → f j = g j) : vp_cell cA (n, .inr (.inr (.inr (.inr f)))) = vp_cell cA (n, .inr (.inr (.inr (.inr g)))) := by
  rw [vp_cell_q, vp_cell_q]
  unfold arrV
  congr 1
  apply Array.ext_getElem?
  intro i
  rcases Nat.lt_or_ge i n with hi | hi
  · have h1 := arrV_read cA (fun j => va_rf (f j)) hi
    have h2 := arrV_read cA (fun j => va_rf (g j)) hi
    unfold arrV at h1 h2
    rw [h1, h2, h i hi]
  · rw [Array.getElem?_eq_none (by rw [Array.size_ofFn]; exact hi), Array.getElem?_eq_none (by rw [Array.size_ofFn]; exact hi)]
theorem Wd.arq (h : Wd D T A s ws H locs) (q0 : Nat) {n : Nat} {cA : ClassId} {f : Nat → Option Nat} (g : Nat → Option Nat) (he : ws[q0]? = some (a, .inl (cA, n, .inr (.inr (.inr (.inr f)))))) (hf : ∀ j, j < n → f j = g j) (hw : ws.set q0 (a, .inl (cA, n, .inr (.inr (.inr (.inr g))))) = ws') : Wd D T A s ws' H locs := by
  subst hw
  refine ⟨h.1, h.2.1.set (H1 := H) h.2.2.1 he ?_ (fun _ _ => rfl), h.2.2.1.set he, h.2.2.2⟩
  show H[a]? = some (vp_cell cA (n, .inr (.inr (.inr (.inr g)))))
  rw [← arq_congr hf]
  exact h.2.1 q0 _ he
theorem tint_s : "[" ++ FieldType.int.toString = "[I" := by decide
/-- the clone of a static int array of four -/
theorem wclone (F : CallFix p m c cc nL s args gtbl RX5) (hl : lv_has ls nL lv) (hW : Wd D T A s ws H locs) {t : Nat} {cell : Cell} {f : Nat → Int32} (hcl : va_Nw (.castable "[I" "java/lang/Cloneable") s) (h2 : s.heap[t]? = some cell) (h3 : s.isArrayOf cell .int) (h4 : cell.vm ≠ .unknown) (h5 : cell.slots.size = 4) (h6 : ∀ j, j < 4 → cell.slots[j]? = some (.int (f j))) (h7 : s.vm.findClass "[I" = some cell.cls) (h8 : ¬ A t) (hR : 1 ≤ R.frames ∧ (rest.map fun v => v.category).sum + 14 ≤ R.locals) (hcs : cells + 1 ≤ R.cells ∧ slots + 4 ≤ R.slots) (hdg : decode cc pc = .ok (.invokevirtual 22, 3))
    (kk : ∀ (q : Nat) (H1 : Heap), Wd D T A s (ws ++ [(q, .inl (T 0, 4, .inl f))]) H1 locs → W p l e R s m args below meth c H1 locs (cells + 1) (slots + 4) Q (F0 m (pc + 3) ls (.ref q :: rest))) : W p l e R s m args below meth c H locs cells slots Q (F0 m pc ls (.ref t :: rest)) := by
  have hH : H[t]? = some cell := by rw [hW.2.2.2.1.2.1 t (Array.getElem?_eq_some_iff.mp h2).1 h8]; exact h2
  have hT0 : T 0 = cell.cls := by
    have h9 : s.vm.findClass ("[" ++ FieldType.int.toString) = some (T 0) := (hW.1.2 0 _ rfl).2
    rw [tint_s] at h9
    exact Option.some.inj (h9.symm.trans h7)
  obtain ⟨c0, t0', f1, f2, f3⟩ := Cond.castable_spec (va_Nw.use (A := args) rfl hcl)
  cases h7.symm.trans f1
  have hcellE : ({ cls := cell.cls, slots := cell.slots } : Cell) = vp_cell (T 0) (4, .inl f) := by
    rw [vp_cell_i, hT0]
    unfold arrV
    congr 1
    apply Array.ext_getElem?
    intro i
    rcases Nat.lt_or_ge i 4 with hi | hi
    · have h9 := arrV_read cell.cls (fun j => Value.int (f j)) hi
      unfold arrV at h9
      rw [h9, h6 i hi]
    · rw [Array.getElem?_eq_none (by omega), Array.getElem?_eq_none (by rw [Array.size_ofFn]; exact hi)]
  intro T1 hT X
  have hcellT : T1.heap[t]? = some cell := by rw [hT]; exact hH
  obtain ⟨hob, kA, hkA, comp, hkind⟩ := State.isArrayOf_alike X.warmed.alike h3
  obtain ⟨-, kS, hkS, compS, hkindS⟩ := h3
  obtain ⟨vm', X', st⟩ := X.cloneArray F.1 F.2.2.2.1 (F.2.2.2.2 _ m71) (F.2.2.2.2 _ m72) (F.2.2.2.2 _ m73) (F.2.2.2.2 _ m74) (F.2.2.2.2 _ m75) (a := t) (cell := cell) hcellT hob h4 h7 f2 f3
    (fun i v hv => by
      have hk' : T1.vm.classes[cell.cls]? = some kA := hkA
      have hi : i < 4 := by have := (Array.getElem?_eq_some_iff.mp hv).1; omega
      rw [h6 i hi] at hv
      cases hv
      simp [State.fitsSlot, State.slotType?, hk', hkind, fits])
    (g := F0 m pc ls (.ref t :: rest)) rfl (by rw [F.2.2.1]; exact hl.1) rfl (by rw [F.2.1]; exact hdg) hR.1 (by show 2 * 0 + _ + 14 ≤ _; have := hR.2; omega) hcs.1 (by rw [h5]; exact hcs.2) (hloader := Vm.clonesLoader_of_array hkS hkindS)
  rw [hcellE, h5] at X'
  generalize hH1 : H.push (vp_cell (T 0) (4, .inl f)) = H1
  have z1 : H1.size = H.size + 1 := by rw [← hH1, Array.size_push]
  have e1 : H1[H.size]? = some (vp_cell (T 0) (4, .inl f)) := by rw [← hH1, Array.getElem?_push_size]
  have o1 : ∀ q : Nat, q < H.size → H1[q]? = H[q]? := fun q hq => by rw [← hH1, Array.getElem?_push, if_neg (Nat.ne_of_lt hq)]
  obtain ⟨hK, hP, hD, hS, hA⟩ := hW
  have hk : ∀ (k : Nat) (y : Nat × va_E), ws[k]? = some y → H1[y.1]? = H[y.1]? := fun k y hy => o1 y.1 ((hP k y hy).lt)
  obtain ⟨t2, b1, b2⟩ := kk H.size H1 ⟨hK, (hP.kept hk).app (fun k y hy => by
      have hz : k < 1 := (List.getElem?_eq_some_iff.mp hy).1
      rw [show k = 0 by omega] at hy
      cases hy
      exact e1), hD.push hP rfl (hA _ hS.1), ⟨Nat.le_trans hS.1 (by omega), fun y h1 h2 => (o1 y (Nat.lt_of_lt_of_le h1 hS.1)).trans (hS.2.1 y h1 h2), hS.2.2⟩, hA⟩
    ((T1.setVm vm').pushCell (vp_cell (T 0) (4, .inl f))) (by rw [← hH1, ← hT]; rfl) X'
  refine ⟨t2, st t2 ?_, b2⟩
  rw [hcellE, hT]
  exact b1
end NEWC
