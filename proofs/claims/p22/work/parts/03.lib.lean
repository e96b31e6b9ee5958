-- the ways of walking: a world with its tables in one hypothesis; a contract of three kinds; calls and ends as one row each
def wtys (T : Nat → ClassId) : List (ClassId × FieldType) := [(T 0, .int), (T 1, .char), (T 2, .boolean), (T 3, .object RX3), (T 4, .object RX5)]
def Wd (D : va_G) (T : Nat → ClassId) (A : Nat → Prop) (s : State) (ws : va_W) (H : Heap) (locs : List Loc) : Prop :=
  va_K D vwCl (wtys T) s ∧ va_P D vwCl ws H ∧ va_D A ws ∧ va_S A s.heap H locs ∧ ∀ q, s.heap.size ≤ q → A q
theorem Wd.is {D : va_G} {T : Nat → ClassId} {A : Nat → Prop} {s : State} {ws ws' : va_W} {H : Heap} {locs : List Loc} (h : Wd D T A s ws H locs) (e : ws = ws') : Wd D T A s ws' H locs := e ▸ h
/-- a part of the world, or another order: each place at most once -/
theorem Wd.ord {D : va_G} {T : Nat → ClassId} {A : Nat → Prop} {s : State} {ws ws' : va_W} {H : Heap} {locs : List Loc} (h : Wd D T A s ws H locs) (is : List Nat) (hn : va_nd is = true) (hs : is.map (fun i => ws[i]?) = ws'.map some) : Wd D T A s ws' H locs := by
  refine ⟨h.1, ?_, h.2.2.1.sub is hn hs, h.2.2.2⟩
  refine h.2.1.sub is ?_
  have e : ∀ (l : List Nat) (w : va_W), l.map (fun i => ws[i]?) = w.map some → l.filterMap (fun i => ws[i]?) = w := by
    intro l
    induction l with
    | nil => intro w hw; cases w with | nil => rfl | cons a t => cases hw
    | cons i l ih =>
      intro w hw
      cases w with
      | nil => cases hw
      | cons a t =>
        rw [List.map_cons, List.map_cons, List.cons.injEq] at hw
        rw [List.filterMap_cons, hw.1]
        exact congrArg (a :: ·) (ih t hw.2)
  exact e is ws' hs
theorem cell_congr {cA : ClassId} {n : Nat} {f g : Nat → Int32} (h : ∀ j, j < n → f j = g j) : vp_cell cA (n, .inl f) = vp_cell cA (n, .inl g) := by
  rw [vp_cell_i, vp_cell_i]
  unfold arrV
  congr 1
  apply Array.ext_getElem?
  intro i
  rcases Nat.lt_or_ge i n with hi | hi
  · have h1 := arrV_read cA (fun j => Value.int (f j)) hi
    have h2 := arrV_read cA (fun j => Value.int (g j)) hi
    unfold arrV at h1 h2
    rw [h1, h2, h i hi]
  · rw [Array.getElem?_eq_none (by rw [Array.size_ofFn]; exact hi), Array.getElem?_eq_none (by rw [Array.size_ofFn]; exact hi)]
/-- an array told by another function that agrees in its places -/
theorem Wd.arr {D : va_G} {T : Nat → ClassId} {A : Nat → Prop} {s : State} {ws ws' : va_W} {H : Heap} {locs : List Loc} (h : Wd D T A s ws H locs) (q0 : Nat) {a n : Nat} {cA : ClassId} {f : Nat → Int32} (g : Nat → Int32) (he : ws[q0]? = some (a, .inl (cA, n, .inl f))) (hf : ∀ j, j < n → f j = g j) (hw : ws.set q0 (a, .inl (cA, n, .inl g)) = ws') : Wd D T A s ws' H locs := by
  subst hw
  refine ⟨h.1, h.2.1.set (H1 := H) h.2.2.1 he ?_ (fun _ _ => rfl), h.2.2.1.set he, h.2.2.2⟩
  show H[a]? = some (vp_cell cA (n, .inl g))
  rw [← cell_congr hf]
  exact h.2.1 q0 _ he
section LIB
variable {p : Program} {l : Launch} {e : Env} {R : Room} {s : State} {m : MethodId} {args : Array Value} {below : List Frame} {meth : Method} {c : Code} {H : Heap} {locs : List Loc} {cells slots : Nat} {Q : State → Prop} {cc : ByteArray} {nL : Nat} {own : String} {D : va_G} {T : Nat → ClassId} {A : Nat → Prop} {ws ws' : va_W} {a : Nat} {pc : Nat} {ls : Array Slot} {rest : List Value} {fs : List Value} {v : Value}
theorem ald (F : CallFix p m c cc nL s args gtbl own) (hW : Wd D T A s ws H locs) (q0 : Nat) {n : Nat} {f : Nat → Int32} (he : ws[q0]? = some (a, .inl (T 0, n, .inl f))) {i x : Int32} (k : Nat) (hi : i = nI k) (hk : k < n) (hn : n < 2 ^ 31) (hv : f k = x) (hdg : decode cc pc = .ok (.iaload, 1))
    (kk : W p l e R s m args below meth c H locs cells slots Q (F0 m (pc + 1) ls (.int x :: rest))) : W p l e R s m args below meth c H locs cells slots Q (F0 m pc ls (.int i :: .ref a :: rest)) := by
  subst hi; subst hv
  refine va_iald F.1 F.2.1 hW.1 hW.2.1 q0 0 he rfl (vp_in_nI hk hn) hdg ?_
  rw [nI_clamp (Nat.lt_trans hk hn)]
  exact kk
theorem zald (F : CallFix p m c cc nL s args gtbl own) (hW : Wd D T A s ws H locs) (q0 : Nat) {n : Nat} {f : Nat → Int32} (he : ws[q0]? = some (a, .inl (T 2, n, .inl f))) {i x : Int32} (k : Nat) (hi : i = nI k) (hk : k < n) (hn : n < 2 ^ 31) (hv : f k = x) (hdg : decode cc pc = .ok (.baload, 1))
    (kk : W p l e R s m args below meth c H locs cells slots Q (F0 m (pc + 1) ls (.int x :: rest))) : W p l e R s m args below meth c H locs cells slots Q (F0 m pc ls (.int i :: .ref a :: rest)) := by
  subst hi; subst hv
  refine va_zald F.1 F.2.1 hW.1 hW.2.1 q0 2 he rfl (vp_in_nI hk hn) hdg ?_
  rw [nI_clamp (Nat.lt_trans hk hn)]
  exact kk
theorem cald (F : CallFix p m c cc nL s args gtbl own) (hW : Wd D T A s ws H locs) (q0 : Nat) {n : Nat} {f : Nat → Int32} (he : ws[q0]? = some (a, .inl (T 1, n, .inl f))) {i x : Int32} (k : Nat) (hi : i = nI k) (hk : k < n) (hn : n < 2 ^ 31) (hv : f k = x) (hdg : decode cc pc = .ok (.caload, 1))
    (kk : W p l e R s m args below meth c H locs cells slots Q (F0 m (pc + 1) ls (.int x :: rest))) : W p l e R s m args below meth c H locs cells slots Q (F0 m pc ls (.int i :: .ref a :: rest)) := by
  subst hi; subst hv
  refine va_cald F.1 F.2.1 hW.1 hW.2.1 q0 1 he rfl (vp_in_nI hk hn) hdg ?_
  rw [nI_clamp (Nat.lt_trans hk hn)]
  exact kk
theorem aald (F : CallFix p m c cc nL s args gtbl own) (hW : Wd D T A s ws H locs) (q0 t0 : Nat) {n : Nat} {cA : ClassId} {C : String} {f : Nat → Option Nat} (he : ws[q0]? = some (a, .inl (cA, n, .inr (.inr (.inr (.inr f)))))) (ht : (wtys T)[t0]? = some (cA, .object C)) {i : Int32} {r : Nat} (k : Nat) (hi : i = nI k) (hk : k < n) (hn : n < 2 ^ 31) (hv : f k = some r) (hdg : decode cc pc = .ok (.aaload, 1))
    (kk : W p l e R s m args below meth c H locs cells slots Q (F0 m (pc + 1) ls (.ref r :: rest))) : W p l e R s m args below meth c H locs cells slots Q (F0 m pc ls (.int i :: .ref a :: rest)) := by
  subst hi
  refine va_aldq F.1 F.2.1 hW.1 hW.2.1 q0 t0 he ht (vp_in_nI hk hn) hdg ?_
  rw [nI_clamp (Nat.lt_trans hk hn), hv]
  exact kk
theorem ast (F : CallFix p m c cc nL s args gtbl own) (hW : Wd D T A s ws H locs) (q0 : Nat) {n : Nat} {f : Nat → Int32} (f' : Nat → Int32) (he : ws[q0]? = some (a, .inl (T 0, n, .inl f))) {i x : Int32} (k : Nat) (hi : i = nI k) (hk : k < n) (hn : n < 2 ^ 31) (hf : ∀ j, j < n → upd f k x j = f' j) (hw : ws.set q0 (a, .inl (T 0, n, .inl f')) = ws') (hdg : decode cc pc = .ok (.iastore, 1))
    (kk : ∀ (H1 : Heap) (locs1 : List Loc), Wd D T A s ws' H1 locs1 → W p l e R s m args below meth c H1 locs1 cells slots Q (F0 m (pc + 1) ls rest)) : W p l e R s m args below meth c H locs cells slots Q (F0 m pc ls (.int x :: .int i :: .ref a :: rest)) := by
  subst hi
  refine va_iast F.1 F.2.1 hW.1 hW.2.1 hW.2.2.1 hW.2.2.2.1 q0 0 he rfl (vp_in_nI hk hn) hdg (fun H1 locs1 hP hD hS => ?_)
  rw [nI_clamp (Nat.lt_trans hk hn)] at hP hD
  have hl := (List.getElem?_eq_some_iff.mp he).1
  have h1 : Wd D T A s (ws.set q0 (a, .inl (T 0, n, .inl (upd f k x)))) H1 locs1 := ⟨hW.1, hP, hD, hS, hW.2.2.2.2⟩
  exact kk H1 locs1 (h1.arr q0 f' (List.getElem?_set_self hl) hf (by rw [List.set_set]; exact hw))
theorem zast (F : CallFix p m c cc nL s args gtbl own) (hW : Wd D T A s ws H locs) (q0 : Nat) {n : Nat} {f : Nat → Int32} (f' : Nat → Int32) (he : ws[q0]? = some (a, .inl (T 2, n, .inl f))) {i x : Int32} (k : Nat) (hi : i = nI k) (hk : k < n) (hn : n < 2 ^ 31) (hx : vp_nar .boolean x = x) (hf : ∀ j, j < n → upd f k x j = f' j) (hw : ws.set q0 (a, .inl (T 2, n, .inl f')) = ws') (hdg : decode cc pc = .ok (.bastore, 1))
    (kk : ∀ (H1 : Heap) (locs1 : List Loc), Wd D T A s ws' H1 locs1 → W p l e R s m args below meth c H1 locs1 cells slots Q (F0 m (pc + 1) ls rest)) : W p l e R s m args below meth c H locs cells slots Q (F0 m pc ls (.int x :: .int i :: .ref a :: rest)) := by
  subst hi
  refine va_zast F.1 F.2.1 hW.1 hW.2.1 hW.2.2.1 hW.2.2.2.1 q0 2 he rfl (vp_in_nI hk hn) hdg (fun H1 locs1 hP hD hS => ?_)
  rw [nI_clamp (Nat.lt_trans hk hn), hx] at hP hD
  have hl := (List.getElem?_eq_some_iff.mp he).1
  have h1 : Wd D T A s (ws.set q0 (a, .inl (T 2, n, .inl (upd f k x)))) H1 locs1 := ⟨hW.1, hP, hD, hS, hW.2.2.2.2⟩
  exact kk H1 locs1 (h1.arr q0 f' (List.getElem?_set_self hl) hf (by rw [List.set_set]; exact hw))
theorem cast_ (F : CallFix p m c cc nL s args gtbl own) (hW : Wd D T A s ws H locs) (q0 : Nat) {n : Nat} {f : Nat → Int32} (f' : Nat → Int32) (he : ws[q0]? = some (a, .inl (T 1, n, .inl f))) {i x : Int32} (k : Nat) (hi : i = nI k) (hk : k < n) (hn : n < 2 ^ 31) (hx : vp_nar .char x = x) (hf : ∀ j, j < n → upd f k x j = f' j) (hw : ws.set q0 (a, .inl (T 1, n, .inl f')) = ws') (hdg : decode cc pc = .ok (.castore, 1))
    (kk : ∀ (H1 : Heap) (locs1 : List Loc), Wd D T A s ws' H1 locs1 → W p l e R s m args below meth c H1 locs1 cells slots Q (F0 m (pc + 1) ls rest)) : W p l e R s m args below meth c H locs cells slots Q (F0 m pc ls (.int x :: .int i :: .ref a :: rest)) := by
  subst hi
  refine va_cast F.1 F.2.1 hW.1 hW.2.1 hW.2.2.1 hW.2.2.2.1 q0 1 he rfl (vp_in_nI hk hn) hdg (fun H1 locs1 hP hD hS => ?_)
  rw [nI_clamp (Nat.lt_trans hk hn), hx] at hP hD
  have hl := (List.getElem?_eq_some_iff.mp he).1
  have h1 : Wd D T A s (ws.set q0 (a, .inl (T 1, n, .inl (upd f k x)))) H1 locs1 := ⟨hW.1, hP, hD, hS, hW.2.2.2.2⟩
  exact kk H1 locs1 (h1.arr q0 f' (List.getElem?_set_self hl) hf (by rw [List.set_set]; exact hw))
-- arithmetic with the answer named
theorem iaddE (hexec : p.tables.exec = Jvm.exec) (hb : c.code = cc) {x y z : Int32} (hdg : decode cc pc = .ok (.iadd, 1)) (hz : x + y = z) (kk : W p l e R s m args below meth c H locs cells slots Q (F0 m (pc + 1) ls (.int z :: rest))) : W p l e R s m args below meth c H locs cells slots Q (F0 m pc ls (.int y :: .int x :: rest)) := by
  subst hz; exact lv_iadd hexec hb hdg kk
theorem isubE (hexec : p.tables.exec = Jvm.exec) (hb : c.code = cc) {x y z : Int32} (hdg : decode cc pc = .ok (.isub, 1)) (hz : x - y = z) (kk : W p l e R s m args below meth c H locs cells slots Q (F0 m (pc + 1) ls (.int z :: rest))) : W p l e R s m args below meth c H locs cells slots Q (F0 m pc ls (.int y :: .int x :: rest)) := by
  subst hz; exact lv_isub hexec hb hdg kk
theorem imulE (hexec : p.tables.exec = Jvm.exec) (hb : c.code = cc) {x y z : Int32} (hdg : decode cc pc = .ok (.imul, 1)) (hz : x * y = z) (kk : W p l e R s m args below meth c H locs cells slots Q (F0 m (pc + 1) ls (.int z :: rest))) : W p l e R s m args below meth c H locs cells slots Q (F0 m pc ls (.int y :: .int x :: rest)) := by
  subst hz; exact lv_imul hexec hb hdg kk
end LIB
-- contracts
def gR (lev mc ms : Nat) : Room := { frames := lev, cells := mc, slots := ms, locals := 32 * lev }
def Cr (D : va_G) (T : Nat → ClassId) (av : List Value) (wc : va_W) : Array Value → State → Prop := va_Pc av (fun U => va_K D vwCl (wtys T) U ∧ va_P D vwCl wc U.heap ∧ va_D (fun _ => True) wc)
def Cp (D : va_G) (T : Nat → ClassId) (av : List Value) (wc : va_W) (sz : Nat) : Array Value → State → Prop := va_Pc av (fun U => U.heap.size = sz ∧ va_K D vwCl (wtys T) U ∧ va_P D vwCl wc U.heap ∧ va_D (fun _ => True) wc)
def Bp {S : Type} (D : va_G) (T : Nat → ClassId) (w1 : S → va_W) (A : Nat → Prop) (u : S) (t : State) : Prop := va_K D vwCl (wtys T) t ∧ va_P D vwCl (w1 u) t.heap ∧ va_D A (w1 u)
/-- a method that reads alone, and answers an int (or a boolean, or a char) -/
def KR (l : Launch) (D : va_G) (T : Nat → ClassId) (y : MethodName) (cy : ByteArray) (mL : Nat) (ret : Option FieldType) (lev : Nat) (av : List Value) (wc : va_W) (post : Int32 → Prop) : Prop :=
  Met l y (.code y cy mL ret :: gtbl) (gR lev 0 0) (Cr D T av wc) (vp_Si post) 0 0 (fun _ => False)
/-- a method that writes in its world, and answers an int -/
def KI {S : Type} (l : Launch) (D : va_G) (T : Nat → ClassId) (y : MethodName) (cy : ByteArray) (mL : Nat) (ret : Option FieldType) (lev : Nat) (av : List Value) (wc : va_W) (post : Int32 → S → Prop) (w1 : S → va_W) : Prop :=
  ∀ sz : Nat, Met l y (.code y cy mL ret :: gtbl) (gR lev 0 0) (Cp D T av wc sz) (va_Qi post (Bp D T w1 (va_A wc sz)) (va_A wc sz)) 0 0 (va_A wc sz)
/-- a method that writes in its world, and answers nothing -/
def KV {S : Type} (l : Launch) (D : va_G) (T : Nat → ClassId) (y : MethodName) (cy : ByteArray) (mL : Nat) (lev : Nat) (av : List Value) (wc : va_W) (post : S → Prop) (w1 : S → va_W) : Prop :=
  ∀ sz : Nat, Met l y (.code y cy mL none :: gtbl) (gR lev 0 0) (Cp D T av wc sz) (va_Qv post (Bp D T w1 (va_A wc sz)) (va_A wc sz)) 0 0 (va_A wc sz)
theorem hts_of {y : MethodName} {cy : ByteArray} {mL : Nat} {ret : Option FieldType} {args : Array Value} {s : State} (h : (allAtoms (Cond.code y cy mL ret :: gtbl)).before args s = true) : ∀ w ∈ gtbl, w.before args s = true := fun w hw => atoms_spec h w (List.mem_cons_of_mem _ hw)
theorem KR.of {l : Launch} {D : va_G} {T : Nat → ClassId} {y : MethodName} {cy : ByteArray} {mL : Nat} {ret : Option FieldType} {lev : Nat} {av : List Value} {wc : va_W} {post : Int32 → Prop} (hy : plainName y.cls = true) (hlen : (lg_sl av).length ≤ mL)
    (body : ∀ (p : Program) (e : Env) (s : State) (m : MethodId) (below : List Frame) (meth : Method) (c : Code), CallFix p m c cy mL s av.toArray gtbl y.cls → meth.sig.returnType = ret → meth.locks = false → Wd D T (fun _ => True) s wc s.heap [] → ∀ ls : Array Slot, lv_has ls mL (lv_args 0 av) → W p l e (gR lev 0 0) s m av.toArray below meth c s.heap [] 0 0 (MQ below (vp_Si post) av.toArray s 0 0 (fun _ => False)) (F0 m 0 ls [])) : KR l D T y cy mL ret lev av wc post := by
  refine Met.ofW (cc := cy) (maxL := mL) (ret := ret) hy rfl ?_
  intro p e s m args below meth c s₁ B hml hv
  obtain ⟨rfl, hK, hP, hD⟩ := hv
  have hl := lv_entry av (n := mL) hlen
  rw [lg_entry_eq]
  exact body p e s m below meth c ⟨B.exec, B.bytes, hml, findClass_of_methodNamed B.named, hts_of B.pre⟩ B.returns B.notSynchronized ⟨hK, hP, hD, va_S.rf, fun _ _ => trivial⟩ _ hl
theorem KI.of {S : Type} {l : Launch} {D : va_G} {T : Nat → ClassId} {y : MethodName} {cy : ByteArray} {mL : Nat} {ret : Option FieldType} {lev : Nat} {av : List Value} {wc : va_W} {post : Int32 → S → Prop} {w1 : S → va_W} (hy : plainName y.cls = true) (hlen : (lg_sl av).length ≤ mL)
    (body : ∀ (p : Program) (e : Env) (s : State) (m : MethodId) (below : List Frame) (meth : Method) (c : Code) (A : Nat → Prop), CallFix p m c cy mL s av.toArray gtbl y.cls → meth.sig.returnType = ret → meth.locks = false → Wd D T A s wc s.heap [] → ∀ ls : Array Slot, lv_has ls mL (lv_args 0 av) → W p l e (gR lev 0 0) s m av.toArray below meth c s.heap [] 0 0 (MQ below (va_Qi post (Bp D T w1 A) A) av.toArray s 0 0 A) (F0 m 0 ls [])) : KI l D T y cy mL ret lev av wc post w1 := by
  intro sz
  refine Met.ofW (cc := cy) (maxL := mL) (ret := ret) hy rfl ?_
  intro p e s m args below meth c s₁ B hml hv
  obtain ⟨rfl, rfl, hK, hP, hD⟩ := hv
  have hl := lv_entry av (n := mL) hlen
  rw [lg_entry_eq]
  exact body p e s m below meth c _ ⟨B.exec, B.bytes, hml, findClass_of_methodNamed B.named, hts_of B.pre⟩ B.returns B.notSynchronized ⟨hK, hP, hD.self, va_S.rf, fun _ h => Or.inr h⟩ _ hl
theorem KV.of {S : Type} {l : Launch} {D : va_G} {T : Nat → ClassId} {y : MethodName} {cy : ByteArray} {mL : Nat} {lev : Nat} {av : List Value} {wc : va_W} {post : S → Prop} {w1 : S → va_W} (hy : plainName y.cls = true) (hlen : (lg_sl av).length ≤ mL)
    (body : ∀ (p : Program) (e : Env) (s : State) (m : MethodId) (below : List Frame) (meth : Method) (c : Code) (A : Nat → Prop), CallFix p m c cy mL s av.toArray gtbl y.cls → meth.sig.returnType = none → meth.locks = false → Wd D T A s wc s.heap [] → ∀ ls : Array Slot, lv_has ls mL (lv_args 0 av) → W p l e (gR lev 0 0) s m av.toArray below meth c s.heap [] 0 0 (MQ below (va_Qv post (Bp D T w1 A) A) av.toArray s 0 0 A) (F0 m 0 ls [])) : KV l D T y cy mL lev av wc post w1 := by
  intro sz
  refine Met.ofW (cc := cy) (maxL := mL) (ret := none) hy rfl ?_
  intro p e s m args below meth c s₁ B hml hv
  obtain ⟨rfl, rfl, hK, hP, hD⟩ := hv
  have hl := lv_entry av (n := mL) hlen
  rw [lg_entry_eq]
  exact body p e s m below meth c _ ⟨B.exec, B.bytes, hml, findClass_of_methodNamed B.named, hts_of B.pre⟩ B.returns B.notSynchronized ⟨hK, hP, hD.self, va_S.rf, fun _ h => Or.inr h⟩ _ hl
section RET
variable {p : Program} {l : Launch} {e : Env} {R : Room} {s : State} {m : MethodId} {args : Array Value} {below : List Frame} {meth : Method} {c : Code} {H : Heap} {locs : List Loc} {cells slots : Nat} {Q : State → Prop} {cc : ByteArray} {nL : Nat} {own : String} {D : va_G} {T : Nat → ClassId} {A : Nat → Prop} {ws ws' : va_W} {a : Nat} {pc : Nat} {ls : Array Slot} {rest : List Value} {fs : List Value} {v : Int32}
theorem retR {post : Int32 → Prop} {ty : FieldType} (F : CallFix p m c cc nL s args gtbl own) (hr : meth.sig.returnType = some ty) (hlk : meth.locks = false) (hn : narrow ty (.int v) = .int v) (hp : post v) (hdg : decode cc pc = .ok (.ireturn, 1)) : W p l e R s m args below meth c s.heap [] 0 0 (MQ below (vp_Si post) args s 0 0 (fun _ => False)) (F0 m pc ls [.int v]) :=
  W.zret F.1 F.2.1 hr hn (fun t ht _ => ⟨v, rfl, hp, ht⟩) (fun _ h => by cases h) hdg hlk
theorem retI {S : Type} {post : Int32 → S → Prop} {w1 : S → va_W} {ty : FieldType} (F : CallFix p m c cc nL s args gtbl own) (hr : meth.sig.returnType = some ty) (hlk : meth.locks = false) (hn : narrow ty (.int v) = .int v) (hW : Wd D T A s ws H locs) (u : S) (hp : post v u) (hw : ws = w1 u) (hdg : decode cc pc = .ok (.ireturn, 1)) : W p l e R s m args below meth c H locs 0 0 (MQ below (va_Qi post (Bp D T w1 A) A) args s 0 0 A) (F0 m pc ls [.int v]) := by
  subst hw
  exact W.zret F.1 F.2.1 hr hn (fun t ht hWm => ⟨⟨v, u, rfl, hp, va_K.moved hWm.alike hW.1, by rw [ht]; exact hW.2.1, hW.2.2.1⟩, hW.2.2.2.1.F ht⟩) hW.2.2.2.1.2.2 hdg hlk
theorem retV {S : Type} {post : S → Prop} {w1 : S → va_W} (F : CallFix p m c cc nL s args gtbl own) (hr : meth.sig.returnType = none) (hlk : meth.locks = false) (hW : Wd D T A s ws H locs) (u : S) (hp : post u) (hw : ws = w1 u) (hdg : decode cc pc = .ok (.return_, 1)) : W p l e R s m args below meth c H locs 0 0 (MQ below (va_Qv post (Bp D T w1 A) A) args s 0 0 A) (F0 m pc ls []) := by
  subst hw
  exact W.vret F.1 F.2.1 hr (fun t ht hWm => ⟨⟨u, rfl, hp, va_K.moved hWm.alike hW.1, by rw [ht]; exact hW.2.1, hW.2.2.1⟩, hW.2.2.2.1.F ht⟩) hW.2.2.2.1.2.2 hdg hlk
end RET
-- calls
def CalV (own : String) (idx : Nat) (C : String) (y : MethodName) (cy : ByteArray) (mL : Nat) (ret : Option FieldType) (n : Nat) : Prop :=
  (Cond.methodLink own idx y ∈ gtbl ∧ Cond.instanceMethod y ∈ gtbl ∧ Cond.selects C y y ∈ gtbl ∧ Cond.initialized C ∈ gtbl ∧ Cond.code y cy mL ret ∈ gtbl) ∧ (y.cls = C ∧ y.cls ≠ "java/lang/invoke/MethodHandle" ∧ y.cls ≠ "java/lang/invoke/VarHandle" ∧ (parseMethodDescriptor y.desc).map (fun d => d.parameters.length) = some n)
def CalS (own : String) (idx : Nat) (y : MethodName) (cy : ByteArray) (mL : Nat) (ret : Option FieldType) (n : Nat) : Prop :=
  (Cond.methodLink own idx y ∈ gtbl ∧ Cond.static y ∈ gtbl ∧ Cond.initialized y.cls ∈ gtbl ∧ Cond.code y cy mL ret ∈ gtbl) ∧ (y.cls ≠ "java/lang/invoke/MethodHandle" ∧ y.cls ≠ "java/lang/invoke/VarHandle" ∧ (parseMethodDescriptor y.desc).map (fun d => d.parameters.length) = some n)
theorem good_g : ∀ w ∈ gtbl, (w.onTables && w.keeps) = true ∨ ∃ ty, w = .arrayClass ty := fun _ h => good_of_word (List.mem_filter.mp h).2
theorem goodV {own : String} {idx : Nat} {C : String} {y : MethodName} {cy : ByteArray} {mL n : Nat} {ret : Option FieldType} (h : CalV own idx C y cy mL ret n) : GoodIn gtbl (wsV own idx C y (Cond.code y cy mL ret :: gtbl)) := by
  obtain ⟨⟨h1, h2, h3, h4, h5⟩, -⟩ := h
  have k : ∀ w ∈ wsV own idx C y (Cond.code y cy mL ret :: gtbl), w ∈ gtbl := by
    intro w hw
    simp only [wsV, List.cons_append, List.nil_append, List.mem_cons] at hw
    rcases hw with rfl | rfl | rfl | rfl | rfl | hw
    · exact h1
    · exact h2
    · exact h3
    · exact h4
    · exact h5
    · exact hw
  exact fun w hw => ⟨k w hw, good_g w (k w hw)⟩
theorem goodS {own : String} {idx : Nat} {y : MethodName} {cy : ByteArray} {mL n : Nat} {ret : Option FieldType} (h : CalS own idx y cy mL ret n) : GoodIn gtbl (va_wsS own idx y (Cond.code y cy mL ret :: gtbl)) := by
  obtain ⟨⟨h1, h2, h4, h5⟩, -⟩ := h
  have k : ∀ w ∈ va_wsS own idx y (Cond.code y cy mL ret :: gtbl), w ∈ gtbl := by
    intro w hw
    simp only [va_wsS, List.cons_append, List.nil_append, List.mem_cons] at hw
    rcases hw with rfl | rfl | rfl | rfl | hw
    · exact h1
    · exact h2
    · exact h4
    · exact h5
    · exact hw
  exact fun w hw => ⟨k w hw, good_g w (k w hw)⟩
section CALLS
variable {p : Program} {l : Launch} {e : Env} {R : Room} {s : State} {m : MethodId} {args : Array Value} {below : List Frame} {meth : Method} {c : Code} {H : Heap} {locs : List Loc} {cells slots : Nat} {Q : State → Prop} {cc : ByteArray} {nL : Nat} {own : String} {D : va_G} {T : Nat → ClassId} {A : Nat → Prop} {ws wc wr : va_W} {b : Nat} {pc : Nat} {ls : Array Slot} {As rest st : List Value} {lv : List (Nat × Value)}
  {C : String} {y : MethodName} {cy : ByteArray} {mL n idx lev : Nat} {ret : Option FieldType}
theorem blindR (av : List Value) : FrameBlind (Cr D T av wc) := fun a U g mk q => ⟨q.1, va_K.moved (u := U) (U := U.calling g mk a) (Vm.Alike.refl U.vm) q.2.1, q.2.2.1, q.2.2.2⟩
theorem blindP (av : List Value) (sz : Nat) : FrameBlind (Cp D T av wc sz) := fun a U g mk q => ⟨q.1, q.2.1, va_K.moved (u := U) (U := U.calling g mk a) (Vm.Alike.refl U.vm) q.2.2.1, q.2.2.2.1, q.2.2.2.2⟩
theorem csi {post : Int32 → Prop} {a : Array Value} {st0 : List Value} (hr : va_Run p l e R s m args below meth c H locs cells slots 0 0 (F0 m pc ls st0) rest (vp_Si post a) (fun _ => False))
    (kk : ∀ r : Int32, post r → W p l e R s m args below meth c H locs cells slots Q (F0 m (pc + 3) ls (.int r :: rest))) : W p l e R s m args below meth c H locs cells slots Q (F0 m pc ls st0) := by
  intro T hT X
  obtain ⟨v, st₀, t, T', L, h0, X', hL, e1, e2, ⟨r, hv, hp, hh⟩, st⟩ := hr T hT X
  cases hv
  have hL0 : L = [] := List.eq_nil_iff_forall_not_mem.mpr (fun q h => hL q h)
  subst hL0
  obtain ⟨t2, a1, b1⟩ := kk r hp T' (by rw [e1, hh, h0]) (by simpa using X')
  exact ⟨t2, st t2 a1, b1⟩
theorem Wd.cut (hW : Wd D T A s ws H locs) (is : List Nat) (hn : va_nd is = true) (hC : is.map (fun i => ws[i]?) = wc.map some) : va_P D vwCl wc H ∧ va_D (fun _ => True) wc :=
  ⟨(hW.ord is hn hC).2.1, (hW.ord is hn hC).2.2.1.weaken (fun _ _ _ _ => trivial)⟩
/-- a call of a method that reads alone -/
theorem cRV {post : Int32 → Prop} (F : CallFix p m c cc nL s args gtbl own) (hW : Wd D T A s ws H locs) (hl : lv_has ls nL lv) (cw : CalV own idx C y cy mL ret n) (hM : KR l D T y cy mL ret lev (.ref b :: As) wc post) (is : List Nat) (hn : va_nd is = true) (hC : is.map (fun i => ws[i]?) = wc.map some) (qr ci : Nat) {fs : List Value} {r0 : vw_C} (hrc : wc[qr]? = some (b, .inr (ci, fs))) (hci : vwCl[ci]? = some r0) (hcn : r0.1 = C)
    (hst : st = As.reverse ++ .ref b :: rest) (hlen : As.length = n) (hroom : (rest.map fun v => v.category).sum ≤ 8) (hR : lev + 1 ≤ R.frames ∧ 8 + (mL + 11) + 32 * lev ≤ R.locals) (hcs : cells ≤ R.cells ∧ slots ≤ R.slots) (hdg : decode cc pc = .ok (.invokevirtual idx, 3))
    (kk : ∀ r : Int32, post r → W p l e R s m args below meth c H locs cells slots Q (F0 m (pc + 3) ls (.int r :: rest))) : W p l e R s m args below meth c H locs cells slots Q (F0 m pc ls st) := by
  obtain ⟨hP, hD⟩ := hW.cut is hn hC
  subst hst; subst hcn
  refine csi (va_runV (As := As) (rest := rest) F hM (cwV n F.2.2.2.2 (goodV cw) rfl rfl rfl cw.2 hR) ⟨blindR _, va_recv hW.1 hP hci hrc, fun U hU hWm => ⟨rfl, va_K.moved hWm.alike hW.1, by rw [hU]; exact hP, hD⟩⟩ rfl hlen hl.1 rfl (lv_room hroom) hdg hcs) kk
theorem cRS {post : Int32 → Prop} (F : CallFix p m c cc nL s args gtbl own) (hW : Wd D T A s ws H locs) (hl : lv_has ls nL lv) (cw : CalS own idx y cy mL ret n) (hM : KR l D T y cy mL ret lev As wc post) (is : List Nat) (hn : va_nd is = true) (hC : is.map (fun i => ws[i]?) = wc.map some)
    (hst : st = As.reverse ++ rest) (hlen : As.length = n) (hroom : (rest.map fun v => v.category).sum ≤ 8) (hR : lev + 1 ≤ R.frames ∧ 8 + (mL + 11) + 32 * lev ≤ R.locals) (hcs : cells ≤ R.cells ∧ slots ≤ R.slots) (hdg : decode cc pc = .ok (.invokestatic idx, 3))
    (kk : ∀ r : Int32, post r → W p l e R s m args below meth c H locs cells slots Q (F0 m (pc + 3) ls (.int r :: rest))) : W p l e R s m args below meth c H locs cells slots Q (F0 m pc ls st) := by
  obtain ⟨hP, hD⟩ := hW.cut is hn hC
  subst hst
  refine csi (va_runS (As := As) (rest := rest) F hM (va_cwS n F.2.2.2.2 (goodS cw) rfl rfl rfl cw.2 hR) ⟨blindR _, fun U hU hWm => ⟨rfl, va_K.moved hWm.alike hW.1, by rw [hU]; exact hP, hD⟩⟩ rfl hlen hl.1 rfl (lv_room hroom) hdg hcs) kk
theorem Wd.join {S : Type} {w1 : S → va_W} {u : S} {t : State} {H1 : Heap} {locs1 : List Loc} (hW : Wd D T A s ws H locs) (isC isR : List Nat) (hnd : va_nd isR = true) (hC : isC.map (fun i => ws[i]?) = wc.map some) (hR : isR.map (fun i => ws[i]?) = wr.map some) (hdis : ∀ i ∈ isR, i ∉ isC)
    (ht : t.heap = H1) (hB : Bp D T w1 (va_A wc H.size) u t) (hk : ∀ q : Nat, q < H.size → ¬ va_A wc H.size q → H1[q]? = H[q]?) (hS : va_S A s.heap H1 locs1) : Wd D T A s (wr ++ w1 u) H1 locs1 := by
  obtain ⟨-, hP1, hD1⟩ := hB
  rw [ht] at hP1
  have hF := va_free (wc := wc) hW.2.2.1 hW.2.2.2.1 hW.2.2.2.2 isC hC
  obtain ⟨a1, a2⟩ := va_join hW.2.1 hW.2.2.1 isC isR hC hR hnd hdis hk hF hP1 hD1
  exact ⟨hW.1, a1, a2, hS, hW.2.2.2.2⟩
/-- a call of a method that writes in a part of the world, and answers an int -/
theorem cIV {S : Type} {post : Int32 → S → Prop} {w1 : S → va_W} (F : CallFix p m c cc nL s args gtbl own) (hW : Wd D T A s ws H locs) (hl : lv_has ls nL lv) (cw : CalV own idx C y cy mL ret n) (hM : KI l D T y cy mL ret lev (.ref b :: As) wc post w1) (is isR : List Nat) (hn : va_nd is = true) (hC : is.map (fun i => ws[i]?) = wc.map some) (hnR : va_nd isR = true) (hCR : isR.map (fun i => ws[i]?) = wr.map some) (hdis : ∀ i ∈ isR, i ∉ is) (qr ci : Nat) {fs : List Value} {r0 : vw_C} (hrc : wc[qr]? = some (b, .inr (ci, fs))) (hci : vwCl[ci]? = some r0) (hcn : r0.1 = C)
    (hst : st = As.reverse ++ .ref b :: rest) (hlen : As.length = n) (hroom : (rest.map fun v => v.category).sum ≤ 8) (hR : lev + 1 ≤ R.frames ∧ 8 + (mL + 11) + 32 * lev ≤ R.locals) (hcs : cells ≤ R.cells ∧ slots ≤ R.slots) (hdg : decode cc pc = .ok (.invokevirtual idx, 3))
    (kk : ∀ (r : Int32) (u : S) (H1 : Heap) (locs1 : List Loc), post r u → Wd D T A s (wr ++ w1 u) H1 locs1 → W p l e R s m args below meth c H1 locs1 cells slots Q (F0 m (pc + 3) ls (.int r :: rest))) : W p l e R s m args below meth c H locs cells slots Q (F0 m pc ls st) := by
  obtain ⟨hP, hD⟩ := hW.cut is hn hC
  subst hst; subst hcn
  have hFc := va_free (wc := wc) hW.2.2.1 hW.2.2.2.1 hW.2.2.2.2 is hC
  refine va_calli (va_runV (As := As) (rest := rest) F (hM H.size) (cwV n F.2.2.2.2 (goodV cw) rfl rfl rfl cw.2 hR) ⟨blindP _ _, va_recv hW.1 hP hci hrc, fun U hU hWm => ⟨rfl, by rw [hU], va_K.moved hWm.alike hW.1, by rw [hU]; exact hP, hD⟩⟩ rfl hlen hl.1 rfl (lv_room hroom) hdg hcs) hW.2.2.2.1 (fun q _ h => hFc q h) hFc (fun r u t H1 locs1 ht hvm hp hB hz hk hS => ?_)
  exact kk r u H1 locs1 hp (hW.join is isR hnR hC hCR hdis ht hB hk hS)
theorem cVV {S : Type} {post : S → Prop} {w1 : S → va_W} (F : CallFix p m c cc nL s args gtbl own) (hW : Wd D T A s ws H locs) (hl : lv_has ls nL lv) (cw : CalV own idx C y cy mL none n) (hM : KV l D T y cy mL lev (.ref b :: As) wc post w1) (is isR : List Nat) (hn : va_nd is = true) (hC : is.map (fun i => ws[i]?) = wc.map some) (hnR : va_nd isR = true) (hCR : isR.map (fun i => ws[i]?) = wr.map some) (hdis : ∀ i ∈ isR, i ∉ is) (qr ci : Nat) {fs : List Value} {r0 : vw_C} (hrc : wc[qr]? = some (b, .inr (ci, fs))) (hci : vwCl[ci]? = some r0) (hcn : r0.1 = C)
    (hst : st = As.reverse ++ .ref b :: rest) (hlen : As.length = n) (hroom : (rest.map fun v => v.category).sum ≤ 8) (hR : lev + 1 ≤ R.frames ∧ 8 + (mL + 11) + 32 * lev ≤ R.locals) (hcs : cells ≤ R.cells ∧ slots ≤ R.slots) (hdg : decode cc pc = .ok (.invokevirtual idx, 3))
    (kk : ∀ (u : S) (H1 : Heap) (locs1 : List Loc), post u → Wd D T A s (wr ++ w1 u) H1 locs1 → W p l e R s m args below meth c H1 locs1 cells slots Q (F0 m (pc + 3) ls rest)) : W p l e R s m args below meth c H locs cells slots Q (F0 m pc ls st) := by
  obtain ⟨hP, hD⟩ := hW.cut is hn hC
  subst hst; subst hcn
  have hFc := va_free (wc := wc) hW.2.2.1 hW.2.2.2.1 hW.2.2.2.2 is hC
  refine va_callv (va_runV (As := As) (rest := rest) F (hM H.size) (cwV n F.2.2.2.2 (goodV cw) rfl rfl rfl cw.2 hR) ⟨blindP _ _, va_recv hW.1 hP hci hrc, fun U hU hWm => ⟨rfl, by rw [hU], va_K.moved hWm.alike hW.1, by rw [hU]; exact hP, hD⟩⟩ rfl hlen hl.1 rfl (lv_room hroom) hdg hcs) hW.2.2.2.1 (fun q _ h => hFc q h) hFc (fun u t H1 locs1 ht hvm hp hB hz hk hS => ?_)
  exact kk u H1 locs1 hp (hW.join is isR hnR hC hCR hdis ht hB hk hS)
theorem cIS {S : Type} {post : Int32 → S → Prop} {w1 : S → va_W} (F : CallFix p m c cc nL s args gtbl own) (hW : Wd D T A s ws H locs) (hl : lv_has ls nL lv) (cw : CalS own idx y cy mL ret n) (hM : KI l D T y cy mL ret lev As wc post w1) (is isR : List Nat) (hn : va_nd is = true) (hC : is.map (fun i => ws[i]?) = wc.map some) (hnR : va_nd isR = true) (hCR : isR.map (fun i => ws[i]?) = wr.map some) (hdis : ∀ i ∈ isR, i ∉ is)
    (hst : st = As.reverse ++ rest) (hlen : As.length = n) (hroom : (rest.map fun v => v.category).sum ≤ 8) (hR : lev + 1 ≤ R.frames ∧ 8 + (mL + 11) + 32 * lev ≤ R.locals) (hcs : cells ≤ R.cells ∧ slots ≤ R.slots) (hdg : decode cc pc = .ok (.invokestatic idx, 3))
    (kk : ∀ (r : Int32) (u : S) (H1 : Heap) (locs1 : List Loc), post r u → Wd D T A s (wr ++ w1 u) H1 locs1 → W p l e R s m args below meth c H1 locs1 cells slots Q (F0 m (pc + 3) ls (.int r :: rest))) : W p l e R s m args below meth c H locs cells slots Q (F0 m pc ls st) := by
  obtain ⟨hP, hD⟩ := hW.cut is hn hC
  subst hst
  have hFc := va_free (wc := wc) hW.2.2.1 hW.2.2.2.1 hW.2.2.2.2 is hC
  refine va_calli (va_runS (As := As) (rest := rest) F (hM H.size) (va_cwS n F.2.2.2.2 (goodS cw) rfl rfl rfl cw.2 hR) ⟨blindP _ _, fun U hU hWm => ⟨rfl, by rw [hU], va_K.moved hWm.alike hW.1, by rw [hU]; exact hP, hD⟩⟩ rfl hlen hl.1 rfl (lv_room hroom) hdg hcs) hW.2.2.2.1 (fun q _ h => hFc q h) hFc (fun r u t H1 locs1 ht hvm hp hB hz hk hS => ?_)
  exact kk r u H1 locs1 hp (hW.join is isR hnR hC hCR hdis ht hB hk hS)
theorem cVS {S : Type} {post : S → Prop} {w1 : S → va_W} (F : CallFix p m c cc nL s args gtbl own) (hW : Wd D T A s ws H locs) (hl : lv_has ls nL lv) (cw : CalS own idx y cy mL none n) (hM : KV l D T y cy mL lev As wc post w1) (is isR : List Nat) (hn : va_nd is = true) (hC : is.map (fun i => ws[i]?) = wc.map some) (hnR : va_nd isR = true) (hCR : isR.map (fun i => ws[i]?) = wr.map some) (hdis : ∀ i ∈ isR, i ∉ is)
    (hst : st = As.reverse ++ rest) (hlen : As.length = n) (hroom : (rest.map fun v => v.category).sum ≤ 8) (hR : lev + 1 ≤ R.frames ∧ 8 + (mL + 11) + 32 * lev ≤ R.locals) (hcs : cells ≤ R.cells ∧ slots ≤ R.slots) (hdg : decode cc pc = .ok (.invokestatic idx, 3))
    (kk : ∀ (u : S) (H1 : Heap) (locs1 : List Loc), post u → Wd D T A s (wr ++ w1 u) H1 locs1 → W p l e R s m args below meth c H1 locs1 cells slots Q (F0 m (pc + 3) ls rest)) : W p l e R s m args below meth c H locs cells slots Q (F0 m pc ls st) := by
  obtain ⟨hP, hD⟩ := hW.cut is hn hC
  subst hst
  have hFc := va_free (wc := wc) hW.2.2.1 hW.2.2.2.1 hW.2.2.2.2 is hC
  refine va_callv (va_runS (As := As) (rest := rest) F (hM H.size) (va_cwS n F.2.2.2.2 (goodS cw) rfl rfl rfl cw.2 hR) ⟨blindP _ _, fun U hU hWm => ⟨rfl, by rw [hU], va_K.moved hWm.alike hW.1, by rw [hU]; exact hP, hD⟩⟩ rfl hlen hl.1 rfl (lv_room hroom) hdg hcs) hW.2.2.2.1 (fun q _ h => hFc q h) hFc (fun u t H1 locs1 ht hvm hp hB hz hk hS => ?_)
  exact kk u H1 locs1 hp (hW.join is isR hnR hC hCR hdis ht hB hk hS)
end CALLS
