-- a game as one world; contracts over more of the world; calls in the middle of a world
def rg (b : Nat) : Nat → List Nat
  | 0 => []
  | n + 1 => b :: rg (b + 1) n
theorem rg_in : ∀ (n b i : Nat), i ∈ rg b n → b ≤ i ∧ i < b + n
  | 0, _, _, h => absurd h List.not_mem_nil
  | n + 1, b, i, h => by
    have h : i ∈ b :: rg (b + 1) n := h
    rcases List.mem_cons.mp h with rfl | h2
    · omega
    · have := rg_in n (b + 1) i h2
      omega
theorem rg_nd : ∀ (n b : Nat), va_nd (rg b n) = true
  | 0, _ => rfl
  | n + 1, b => by
    show (decide (b ∉ rg (b + 1) n) && va_nd (rg (b + 1) n)) = true
    rw [rg_nd n (b + 1), Bool.and_true, decide_eq_true_eq]
    intro h
    have := rg_in n (b + 1) b h
    omega
theorem nd_app : ∀ (l1 l2 : List Nat), va_nd l1 = true → va_nd l2 = true → (∀ i ∈ l1, i ∉ l2) → va_nd (l1 ++ l2) = true
  | [], _, _, h, _ => h
  | a :: l1, l2, h1, h2, h3 => by
    have h1 : (decide (a ∉ l1) && va_nd l1) = true := h1
    rw [Bool.and_eq_true, decide_eq_true_eq] at h1
    show (decide (a ∉ l1 ++ l2) && va_nd (l1 ++ l2)) = true
    rw [nd_app l1 l2 h1.2 h2 (fun i hi => h3 i (List.mem_cons_of_mem _ hi)), Bool.and_true, decide_eq_true_eq, List.mem_append]
    exact fun z => z.elim h1.1 (h3 a List.mem_cons_self)
theorem rg_map : ∀ (X pre R : va_W), (rg pre.length X.length).map (fun i => (pre ++ (X ++ R))[i]?) = X.map some
  | [], _, _ => rfl
  | x :: X, pre, R => by
    have ih := rg_map X (pre ++ [x]) R
    rw [List.length_append, List.append_assoc] at ih
    show (pre ++ (x :: X ++ R))[pre.length]? :: (rg (pre.length + 1) X.length).map (fun i => (pre ++ (x :: X ++ R))[i]?) = some x :: X.map some
    rw [List.getElem?_append_right (Nat.le_refl _), Nat.sub_self]
    exact congrArg (some x :: ·) ih
section IX
variable {L X R Z : va_W}
theorem ix_X : (rg L.length X.length).map (fun i => (L ++ (X ++ R))[i]?) = X.map some := rg_map X L R
theorem ix_L : (rg 0 L.length).map (fun i => (L ++ (X ++ R))[i]?) = L.map some := rg_map L [] (X ++ R)
theorem ix_R : (rg (L.length + X.length) R.length).map (fun i => (L ++ (X ++ R))[i]?) = R.map some := by
  have h := rg_map R (L ++ X) []
  rw [List.append_nil, List.length_append, List.append_assoc] at h
  exact h
theorem ix_LR : (rg 0 L.length ++ rg (L.length + X.length) R.length).map (fun i => (L ++ (X ++ R))[i]?) = (L ++ R).map some := by
  rw [List.map_append, List.map_append, ix_L, ix_R]
theorem nd_LR (a b n : Nat) : va_nd (rg 0 a ++ rg (a + b) n) = true := nd_app _ _ (rg_nd _ _) (rg_nd _ _) (fun i h1 h2 => by have h3 := rg_in _ _ _ h1; have h4 := rg_in _ _ _ h2; omega)
theorem dis_LR (a b n : Nat) : ∀ i ∈ rg 0 a ++ rg (a + b) n, i ∉ rg a b := by
  intro i h1 h2
  have h4 := rg_in _ _ _ h2
  rcases List.mem_append.mp h1 with h1 | h1
  · have h3 := rg_in _ _ _ h1; omega
  · have h3 := rg_in _ _ _ h1; omega
theorem ix_all : (rg 0 X.length).map (fun i => X[i]?) = X.map some := by
  have h := rg_map X [] []
  rw [List.append_nil] at h
  exact h
theorem Wd.mid {D : va_G} {T : Nat → ClassId} {A : Nat → Prop} {s : State} {H : Heap} {locs : List Loc} (h : Wd D T A s ((L ++ R) ++ Z) H locs) : Wd D T A s (L ++ (Z ++ R)) H locs := by
  rw [List.append_assoc] at h
  refine h.ord (rg 0 L.length ++ (rg (L.length + R.length) Z.length ++ rg L.length R.length)) ?_ ?_
  · refine nd_app _ _ (rg_nd _ _) (nd_app _ _ (rg_nd _ _) (rg_nd _ _) (fun i a b => ?_)) (fun i a b => ?_)
    · have h1 := rg_in _ _ _ a
      have h2 := rg_in _ _ _ b
      omega
    · have h1 := rg_in _ _ _ a
      rcases List.mem_append.mp b with b | b
      · have h2 := rg_in _ _ _ b; omega
      · have h2 := rg_in _ _ _ b; omega
  · rw [List.map_append, List.map_append, ix_L, ix_R, ix_X, List.map_append, List.map_append]
/-- what was made last stands first -/
theorem Wd.rot {D : va_G} {T : Nat → ClassId} {A : Nat → Prop} {s : State} {H : Heap} {locs : List Loc} (h : Wd D T A s (L ++ R) H locs) : Wd D T A s (R ++ L) H locs := by
  have h2 := Wd.mid (L := []) (R := L) (Z := R) h
  exact h2
/-- a part of the world -/
theorem Wd.fst {D : va_G} {T : Nat → ClassId} {A : Nat → Prop} {s : State} {H : Heap} {locs : List Loc} (h : Wd D T A s (L ++ R) H locs) : Wd D T A s L H locs := h.ord (rg 0 L.length) (rg_nd _ _) (rg_map L [] R)
end IX
section FRAME
variable {S S2 : Type} {l : Launch} {D : va_G} {T : Nat → ClassId} {y : MethodName} {cy : ByteArray} {mL : Nat} {ret : Option FieldType} {lev : Nat} {av : List Value} {ws wc wr : va_W}
theorem A_sub {is : List Nat} (hC : is.map (fun i => ws[i]?) = wc.map some) (hD : va_D (fun _ => True) ws) (H : Heap) : ∀ q, va_A wc H.size q → va_A ws H.size q := va_free (A0 := va_A ws H.size) (H0 := H) (H := H) (locs := []) hD.self va_S.rf (fun _ h => Or.inr h) is hC
theorem fsub {is : List Nat} (hC : is.map (fun i => ws[i]?) = wc.map some) (hn : va_nd is = true) {s : State} (hK : va_K D vwCl (wtys T) s) {H : Heap} (hP : va_P D vwCl ws H) (hD : va_D (fun _ => True) ws) : va_P D vwCl wc H ∧ va_D (fun _ => True) wc := by
  have hP2 : va_P D vwCl wc H := by
    intro k q hq
    have h1 : (is.map (fun i => ws[i]?))[k]? = some (some q) := by rw [hC, List.getElem?_map, hq]; rfl
    rw [List.getElem?_map] at h1
    cases hi : is[k]? with
    | none => rw [hi] at h1; cases h1
    | some i => rw [hi] at h1; exact hP i q (Option.some.inj h1)
  exact ⟨hP2, hD.sub is hn hC⟩
/-- a contract that reads holds in more of the world -/
theorem krF {post : Int32 → Prop} (hM : KR l D T y cy mL ret lev av wc post) (is : List Nat) (hn : va_nd is = true) (hC : is.map (fun i => ws[i]?) = wc.map some) : KR l D T y cy mL ret lev av ws post := by
  intro p e ha hc hk s m args below hf happ hP hK
  obtain ⟨rfl, hKK, hPP, hDD⟩ := hP
  obtain ⟨a1, a2⟩ := fsub hC hn hKK hPP hDD
  exact hM p e ha hc hk s m _ below hf happ ⟨rfl, hKK, a1, a2⟩ hK
/-- a contract that writes holds in more of the world -/
theorem kiF {post : Int32 → S → Prop} {w1 : S → va_W} {post2 : Int32 → S2 → Prop} {w2 : S2 → va_W} (hM : KI l D T y cy mL ret lev av wc post w1) (is isR : List Nat) (hn : va_nd is = true) (hC : is.map (fun i => ws[i]?) = wc.map some) (hnR : va_nd isR = true) (hCR : isR.map (fun i => ws[i]?) = wr.map some) (hdis : ∀ i ∈ isR, i ∉ is)
    (hw : ∀ (t : State) (A : Nat → Prop) (r : Int32) (u : S), post r u → Wd D T A t (wr ++ w1 u) t.heap [] → ∃ u2 : S2, post2 r u2 ∧ Wd D T A t (w2 u2) t.heap []) : KI l D T y cy mL ret lev av ws post2 w2 := by
  intro sz p e ha hc hk s m args below hf happ hP hK
  obtain ⟨rfl, rfl, hKK, hPP, hDD⟩ := hP
  obtain ⟨a1, a2⟩ := fsub hC hn hKK hPP hDD
  have hA := A_sub hC hDD s.heap
  obtain ⟨n, o, h1, h2, h3, ⟨⟨r, u, ho, hp, hB⟩, hz, hkk⟩, LL, hfe, hL⟩ := hM s.heap.size p e ha hc hk s m _ below hf happ ⟨rfl, rfl, hKK, a1, a2⟩ hK
  obtain ⟨b0, b1, b2⟩ := hB
  obtain ⟨c1, c2⟩ := va_join (A0 := va_A ws s.heap.size) hPP hDD.self is isR hC hCR hnR hdis hkk hA b1 b2
  obtain ⟨u2, d1, d2⟩ := hw _ (va_A ws s.heap.size) r u hp ⟨b0, c1, c2, va_S.rf, fun q h => Or.inr (Nat.le_trans hz h)⟩
  exact ⟨n, o, h1, h2, h3, ⟨⟨r, u2, ho, d1, d2.1, d2.2.1, d2.2.2.1⟩, hz, fun q q1 q2 => hkk q q1 (fun z => q2 (hA q z))⟩, LL, hfe, fun q hq => hA _ (hL q hq)⟩
theorem kgF {post : Int32 → S → Prop} {w1 : S → va_W} {post2 : Int32 → S2 → Prop} {w2 : S2 → va_W} (hM : KIg l D T y cy mL ret lev av wc post w1) (is isR : List Nat) (hn : va_nd is = true) (hC : is.map (fun i => ws[i]?) = wc.map some) (hnR : va_nd isR = true) (hCR : isR.map (fun i => ws[i]?) = wr.map some) (hdis : ∀ i ∈ isR, i ∉ is)
    (hw : ∀ (t : State) (A : Nat → Prop) (r : Int32) (u : S), post r u → Wd D T A t (wr ++ w1 u) t.heap [] → ∃ u2 : S2, post2 r u2 ∧ Wd D T A t (w2 u2) t.heap []) : KIg l D T y cy mL ret lev av ws post2 w2 := by
  intro sz p e ha hc hk s m args below hf happ hP hK
  obtain ⟨rfl, ⟨rfl, hKK, hPP, hDD⟩, hG⟩ := hP
  obtain ⟨a1, a2⟩ := fsub hC hn hKK hPP hDD
  have hA := A_sub hC hDD s.heap
  obtain ⟨n, o, h1, h2, h3, ⟨⟨r, u, ho, hp, hB⟩, hz, hkk⟩, LL, hfe, hL⟩ := hM s.heap.size p e ha hc hk s m _ below hf happ ⟨rfl, ⟨rfl, hKK, a1, a2⟩, hG.narrow hA⟩ hK
  obtain ⟨b0, b1, b2⟩ := hB
  obtain ⟨c1, c2⟩ := va_join (A0 := va_A ws s.heap.size) hPP hDD.self is isR hC hCR hnR hdis hkk hA b1 b2
  obtain ⟨u2, d1, d2⟩ := hw _ (va_A ws s.heap.size) r u hp ⟨b0, c1, c2, va_S.rf, fun q h => Or.inr (Nat.le_trans hz h)⟩
  exact ⟨n, o, h1, h2, h3, ⟨⟨r, u2, ho, d1, d2.1, d2.2.1, d2.2.2.1⟩, hz, fun q q1 q2 => hkk q q1 (fun z => q2 (hA q z))⟩, LL, hfe, fun q hq => hA _ (hL q hq)⟩
end FRAME
-- a method that makes cells, and answers an int
def KN {S : Type} (l : Launch) (D : va_G) (T : Nat → ClassId) (y : MethodName) (cy : ByteArray) (mL : Nat) (ret : Option FieldType) (lev mc ms : Nat) (av : List Value) (wc : va_W) (post : Int32 → S → Prop) (w1 : S → va_W) : Prop :=
  ∀ sz : Nat, Met l y (.code y cy mL ret :: gtbl) (gR lev mc ms) (Cp D T av wc sz) (va_Qi post (Bp D T w1 (va_A wc sz)) (va_A wc sz)) mc ms (va_A wc sz)
theorem KN.of {S : Type} {l : Launch} {D : va_G} {T : Nat → ClassId} {y : MethodName} {cy : ByteArray} {mL : Nat} {ret : Option FieldType} {lev mc ms : Nat} {av : List Value} {wc : va_W} {post : Int32 → S → Prop} {w1 : S → va_W} (hy : plainName y.cls = true) (hlen : (lg_sl av).length ≤ mL)
    (body : ∀ (p : Program) (e : Env) (s : State) (m : MethodId) (below : List Frame) (meth : Method) (c : Code) (A : Nat → Prop), CallFix p m c cy mL s av.toArray gtbl y.cls → meth.sig.returnType = ret → meth.locks = false → Wd D T A s wc s.heap [] → ∀ ls : Array Slot, lv_has ls mL (lv_args 0 av) → W p l e (gR lev mc ms) s m av.toArray below meth c s.heap [] 0 0 (MQ below (va_Qi post (Bp D T w1 A) A) av.toArray s mc ms A) (F0 m 0 ls [])) : KN l D T y cy mL ret lev mc ms av wc post w1 := by
  intro sz
  refine Met.ofW (cc := cy) (maxL := mL) (ret := ret) hy rfl ?_
  intro p e s m args below meth c s₁ B hml hv
  obtain ⟨rfl, rfl, hK, hP, hD⟩ := hv
  have hl := lv_entry av (n := mL) hlen
  rw [lg_entry_eq]
  exact body p e s m below meth c _ ⟨B.exec, B.bytes, hml, findClass_of_methodNamed B.named, hts_of B.pre⟩ B.returns B.notSynchronized ⟨hK, hP, hD.self, va_S.rf, fun _ h => Or.inr h⟩ _ hl
section CALLS
variable {p : Program} {l : Launch} {e : Env} {R : Room} {s : State} {m : MethodId} {args : Array Value} {below : List Frame} {meth : Method} {c : Code} {H : Heap} {locs : List Loc} {cells slots : Nat} {Q : State → Prop} {cc : ByteArray} {nL : Nat} {own : String} {D : va_G} {T : Nat → ClassId} {A : Nat → Prop} {ws wr X : va_W} {a b : Nat} {pc : Nat} {ls : Array Slot} {rest st : List Value} {lv : List (Nat × Value)} {mc ms : Nat} {C : String} {y : MethodName} {cy : ByteArray} {mL n idx lev : Nat} {ret : Option FieldType} {As : List Value} {v : Int32}
theorem retN {S : Type} {post : Int32 → S → Prop} {w1 : S → va_W} {ty : FieldType} (F : CallFix p m c cc nL s args gtbl own) (hr : meth.sig.returnType = some ty) (hlk : meth.locks = false) (hn : narrow ty (.int v) = .int v) (hW : Wd D T A s ws H locs) (hcs : cells ≤ mc ∧ slots ≤ ms) (u : S) (hp : post v u) (hw : ws = w1 u) (hdg : decode cc pc = .ok (.ireturn, 1)) : W p l e R s m args below meth c H locs cells slots (MQ below (va_Qi post (Bp D T w1 A) A) args s mc ms A) (F0 m pc ls [.int v]) := by
  subst hw
  refine W.widen hcs.1 hcs.2 ?_
  exact W.zret F.1 F.2.1 hr hn (fun t ht hWm => ⟨⟨v, u, rfl, hp, va_K.moved hWm.alike hW.1, by rw [ht]; exact hW.2.1, hW.2.2.1⟩, hW.2.2.2.1.F ht⟩) hW.2.2.2.1.2.2 hdg hlk
theorem cGI {S : Type} {post : Int32 → S → Prop} {w1 : S → va_W} (F : CallFix p m c cc nL s args gtbl own) (L X Z : va_W) (hW : Wd D T A s (L ++ (X ++ Z)) H locs) (hl : lv_has ls nL lv) (cw : CalV own idx C y cy mL ret n) (hM : KI l D T y cy mL ret lev (.ref b :: As) X post w1) (qr ci : Nat) {fs : List Value} {r0 : vw_C} (hrc : X[qr]? = some (b, .inr (ci, fs))) (hci : vwCl[ci]? = some r0) (hcn : r0.1 = C)
    (hst : st = As.reverse ++ .ref b :: rest) (hlen : As.length = n) (hroom : (rest.map fun v => v.category).sum ≤ 8) (hR : lev + 1 ≤ R.frames ∧ 8 + (mL + 11) + 32 * lev ≤ R.locals) (hcs : cells ≤ R.cells ∧ slots ≤ R.slots) (hdg : decode cc pc = .ok (.invokevirtual idx, 3))
    (kk : ∀ (r : Int32) (u : S) (H1 : Heap) (locs1 : List Loc), post r u → Wd D T A s (L ++ (w1 u ++ Z)) H1 locs1 → W p l e R s m args below meth c H1 locs1 cells slots Q (F0 m (pc + 3) ls (.int r :: rest))) : W p l e R s m args below meth c H locs cells slots Q (F0 m pc ls st) :=
  cIV F hW hl cw hM (rg L.length X.length) (rg 0 L.length ++ rg (L.length + X.length) Z.length) (rg_nd _ _) ix_X (nd_LR _ _ _) ix_LR (dis_LR _ _ _) qr ci hrc hci hcn hst hlen hroom hR hcs hdg (fun r u H1 locs1 hp hW1 => kk r u H1 locs1 hp hW1.mid)
theorem cGG {S : Type} {post : Int32 → S → Prop} {w1 : S → va_W} (F : CallFix p m c cc nL s args gtbl own) (hG : GW A s s.heap) (L X Z : va_W) (hW : Wd D T A s (L ++ (X ++ Z)) H locs) (hl : lv_has ls nL lv) (cw : CalV own idx C y cy mL ret n) (hM : KIg l D T y cy mL ret lev (.ref b :: As) X post w1) (qr ci : Nat) {fs : List Value} {r0 : vw_C} (hrc : X[qr]? = some (b, .inr (ci, fs))) (hci : vwCl[ci]? = some r0) (hcn : r0.1 = C)
    (hst : st = As.reverse ++ .ref b :: rest) (hlen : As.length = n) (hroom : (rest.map fun v => v.category).sum ≤ 8) (hR : lev + 1 ≤ R.frames ∧ 8 + (mL + 11) + 32 * lev ≤ R.locals) (hcs : cells ≤ R.cells ∧ slots ≤ R.slots) (hdg : decode cc pc = .ok (.invokevirtual idx, 3))
    (kk : ∀ (r : Int32) (u : S) (H1 : Heap) (locs1 : List Loc), post r u → Wd D T A s (L ++ (w1 u ++ Z)) H1 locs1 → W p l e R s m args below meth c H1 locs1 cells slots Q (F0 m (pc + 3) ls (.int r :: rest))) : W p l e R s m args below meth c H locs cells slots Q (F0 m pc ls st) :=
  cIVg F hG hW hl cw hM (rg L.length X.length) (rg 0 L.length ++ rg (L.length + X.length) Z.length) (rg_nd _ _) ix_X (nd_LR _ _ _) ix_LR (dis_LR _ _ _) qr ci hrc hci hcn hst hlen hroom hR hcs hdg (fun r u H1 locs1 hp hW1 => kk r u H1 locs1 hp hW1.mid)
theorem cGR {post : Int32 → Prop} (F : CallFix p m c cc nL s args gtbl own) (L X Z : va_W) (hW : Wd D T A s (L ++ (X ++ Z)) H locs) (hl : lv_has ls nL lv) (cw : CalV own idx C y cy mL ret n) (hM : KR l D T y cy mL ret lev (.ref b :: As) X post) (qr ci : Nat) {fs : List Value} {r0 : vw_C} (hrc : X[qr]? = some (b, .inr (ci, fs))) (hci : vwCl[ci]? = some r0) (hcn : r0.1 = C)
    (hst : st = As.reverse ++ .ref b :: rest) (hlen : As.length = n) (hroom : (rest.map fun v => v.category).sum ≤ 8) (hR : lev + 1 ≤ R.frames ∧ 8 + (mL + 11) + 32 * lev ≤ R.locals) (hcs : cells ≤ R.cells ∧ slots ≤ R.slots) (hdg : decode cc pc = .ok (.invokevirtual idx, 3))
    (kk : ∀ r : Int32, post r → W p l e R s m args below meth c H locs cells slots Q (F0 m (pc + 3) ls (.int r :: rest))) : W p l e R s m args below meth c H locs cells slots Q (F0 m pc ls st) :=
  cRV F hW hl cw hM (rg L.length X.length) (rg_nd _ _) ix_X qr ci hrc hci hcn hst hlen hroom hR hcs hdg kk
theorem cGI0 {S : Type} {post : Int32 → S → Prop} {w1 : S → va_W} (F : CallFix p m c cc nL s args gtbl own) (X Z : va_W) (hW : Wd D T A s (X ++ Z) H locs) (hl : lv_has ls nL lv) (cw : CalV own idx C y cy mL ret n) (hM : KI l D T y cy mL ret lev (.ref b :: As) X post w1) (qr ci : Nat) {fs : List Value} {r0 : vw_C} (hrc : X[qr]? = some (b, .inr (ci, fs))) (hci : vwCl[ci]? = some r0) (hcn : r0.1 = C)
    (hst : st = As.reverse ++ .ref b :: rest) (hlen : As.length = n) (hroom : (rest.map fun v => v.category).sum ≤ 8) (hR : lev + 1 ≤ R.frames ∧ 8 + (mL + 11) + 32 * lev ≤ R.locals) (hcs : cells ≤ R.cells ∧ slots ≤ R.slots) (hdg : decode cc pc = .ok (.invokevirtual idx, 3))
    (kk : ∀ (r : Int32) (u : S) (H1 : Heap) (locs1 : List Loc), post r u → Wd D T A s (w1 u ++ Z) H1 locs1 → W p l e R s m args below meth c H1 locs1 cells slots Q (F0 m (pc + 3) ls (.int r :: rest))) : W p l e R s m args below meth c H locs cells slots Q (F0 m pc ls st) :=
  cGI F [] X Z hW hl cw hM qr ci hrc hci hcn hst hlen hroom hR hcs hdg kk
theorem cGG0 {S : Type} {post : Int32 → S → Prop} {w1 : S → va_W} (F : CallFix p m c cc nL s args gtbl own) (hG : GW A s s.heap) (X Z : va_W) (hW : Wd D T A s (X ++ Z) H locs) (hl : lv_has ls nL lv) (cw : CalV own idx C y cy mL ret n) (hM : KIg l D T y cy mL ret lev (.ref b :: As) X post w1) (qr ci : Nat) {fs : List Value} {r0 : vw_C} (hrc : X[qr]? = some (b, .inr (ci, fs))) (hci : vwCl[ci]? = some r0) (hcn : r0.1 = C)
    (hst : st = As.reverse ++ .ref b :: rest) (hlen : As.length = n) (hroom : (rest.map fun v => v.category).sum ≤ 8) (hR : lev + 1 ≤ R.frames ∧ 8 + (mL + 11) + 32 * lev ≤ R.locals) (hcs : cells ≤ R.cells ∧ slots ≤ R.slots) (hdg : decode cc pc = .ok (.invokevirtual idx, 3))
    (kk : ∀ (r : Int32) (u : S) (H1 : Heap) (locs1 : List Loc), post r u → Wd D T A s (w1 u ++ Z) H1 locs1 → W p l e R s m args below meth c H1 locs1 cells slots Q (F0 m (pc + 3) ls (.int r :: rest))) : W p l e R s m args below meth c H locs cells slots Q (F0 m pc ls st) :=
  cGG F hG [] X Z hW hl cw hM qr ci hrc hci hcn hst hlen hroom hR hcs hdg kk
theorem cGR0 {post : Int32 → Prop} (F : CallFix p m c cc nL s args gtbl own) (X Z : va_W) (hW : Wd D T A s (X ++ Z) H locs) (hl : lv_has ls nL lv) (cw : CalV own idx C y cy mL ret n) (hM : KR l D T y cy mL ret lev (.ref b :: As) X post) (qr ci : Nat) {fs : List Value} {r0 : vw_C} (hrc : X[qr]? = some (b, .inr (ci, fs))) (hci : vwCl[ci]? = some r0) (hcn : r0.1 = C)
    (hst : st = As.reverse ++ .ref b :: rest) (hlen : As.length = n) (hroom : (rest.map fun v => v.category).sum ≤ 8) (hR : lev + 1 ≤ R.frames ∧ 8 + (mL + 11) + 32 * lev ≤ R.locals) (hcs : cells ≤ R.cells ∧ slots ≤ R.slots) (hdg : decode cc pc = .ok (.invokevirtual idx, 3))
    (kk : ∀ r : Int32, post r → W p l e R s m args below meth c H locs cells slots Q (F0 m (pc + 3) ls (.int r :: rest))) : W p l e R s m args below meth c H locs cells slots Q (F0 m pc ls st) :=
  cGR F [] X Z hW hl cw hM qr ci hrc hci hcn hst hlen hroom hR hcs hdg kk
theorem cGI2 {S : Type} {post : Int32 → S → Prop} {w1 : S → va_W} (F : CallFix p m c cc nL s args gtbl own) (P L X Z : va_W) (hW : Wd D T A s (P ++ (L ++ (X ++ Z))) H locs) (hl : lv_has ls nL lv) (cw : CalV own idx C y cy mL ret n) (hM : KI l D T y cy mL ret lev (.ref b :: As) X post w1) (qr ci : Nat) {fs : List Value} {r0 : vw_C} (hrc : X[qr]? = some (b, .inr (ci, fs))) (hci : vwCl[ci]? = some r0) (hcn : r0.1 = C)
    (hst : st = As.reverse ++ .ref b :: rest) (hlen : As.length = n) (hroom : (rest.map fun v => v.category).sum ≤ 8) (hR : lev + 1 ≤ R.frames ∧ 8 + (mL + 11) + 32 * lev ≤ R.locals) (hcs : cells ≤ R.cells ∧ slots ≤ R.slots) (hdg : decode cc pc = .ok (.invokevirtual idx, 3))
    (kk : ∀ (r : Int32) (u : S) (H1 : Heap) (locs1 : List Loc), post r u → Wd D T A s (P ++ (L ++ (w1 u ++ Z))) H1 locs1 → W p l e R s m args below meth c H1 locs1 cells slots Q (F0 m (pc + 3) ls (.int r :: rest))) : W p l e R s m args below meth c H locs cells slots Q (F0 m pc ls st) :=
  cGI F (P ++ L) X Z (by rw [List.append_assoc]; exact hW) hl cw hM qr ci hrc hci hcn hst hlen hroom hR hcs hdg (fun r u H1 locs1 hp hW1 => kk r u H1 locs1 hp (by rw [List.append_assoc] at hW1; exact hW1))
/-- static methods with the whole world -/
theorem cSI {S : Type} {post : Int32 → S → Prop} {w1 : S → va_W} (F : CallFix p m c cc nL s args gtbl own) (hW : Wd D T A s X H locs) (hl : lv_has ls nL lv) (cw : CalS own idx y cy mL ret n) (hM : KI l D T y cy mL ret lev As X post w1)
    (hst : st = As.reverse ++ rest) (hlen : As.length = n) (hroom : (rest.map fun v => v.category).sum ≤ 8) (hR : lev + 1 ≤ R.frames ∧ 8 + (mL + 11) + 32 * lev ≤ R.locals) (hcs : cells ≤ R.cells ∧ slots ≤ R.slots) (hdg : decode cc pc = .ok (.invokestatic idx, 3))
    (kk : ∀ (r : Int32) (u : S) (H1 : Heap) (locs1 : List Loc), post r u → Wd D T A s (w1 u) H1 locs1 → W p l e R s m args below meth c H1 locs1 cells slots Q (F0 m (pc + 3) ls (.int r :: rest))) : W p l e R s m args below meth c H locs cells slots Q (F0 m pc ls st) :=
  cIS F hW hl cw hM (rg 0 X.length) [] (wr := []) (rg_nd _ _) ix_all rfl rfl (fun _ h => absurd h List.not_mem_nil) hst hlen hroom hR hcs hdg (fun r u H1 locs1 hp hW1 => kk r u H1 locs1 hp hW1)
theorem cSG {S : Type} {post : Int32 → S → Prop} {w1 : S → va_W} (F : CallFix p m c cc nL s args gtbl own) (hG : GW A s s.heap) (hW : Wd D T A s X H locs) (hl : lv_has ls nL lv) (cw : CalS own idx y cy mL ret n) (hM : KIg l D T y cy mL ret lev As X post w1)
    (hst : st = As.reverse ++ rest) (hlen : As.length = n) (hroom : (rest.map fun v => v.category).sum ≤ 8) (hR : lev + 1 ≤ R.frames ∧ 8 + (mL + 11) + 32 * lev ≤ R.locals) (hcs : cells ≤ R.cells ∧ slots ≤ R.slots) (hdg : decode cc pc = .ok (.invokestatic idx, 3))
    (kk : ∀ (r : Int32) (u : S) (H1 : Heap) (locs1 : List Loc), post r u → Wd D T A s (w1 u) H1 locs1 → W p l e R s m args below meth c H1 locs1 cells slots Q (F0 m (pc + 3) ls (.int r :: rest))) : W p l e R s m args below meth c H locs cells slots Q (F0 m pc ls st) := by
  obtain ⟨hP, hD⟩ := hW.cut (rg 0 X.length) (rg_nd _ _) ix_all
  subst hst
  have hFc := va_free (wc := X) hW.2.2.1 hW.2.2.2.1 hW.2.2.2.2 (rg 0 X.length) ix_all
  have hG2 := hW.gw hG (rg 0 X.length) ix_all
  refine va_calli (va_runS (As := As) (rest := rest) F (hM H.size) (va_cwS n F.2.2.2.2 (goodS cw) rfl rfl rfl cw.2 hR) ⟨blindG _ _, fun U hU hWm => ⟨rfl, ⟨by rw [hU], va_K.moved hWm.alike hW.1, by rw [hU]; exact hP, hD⟩, by rw [hU]; exact hG2.warm hWm⟩⟩ rfl hlen hl.1 rfl (lv_room hroom) hdg hcs) hW.2.2.2.1 (fun q _ h => hFc q h) hFc (fun r u t H1 locs1 ht hvm hp hB hz hk hS => ?_)
  exact kk r u H1 locs1 hp (hW.join (rg 0 X.length) [] (wr := []) rfl ix_all rfl (fun _ h => absurd h List.not_mem_nil) ht hB hk hS)
theorem cSN {S : Type} {post : Int32 → S → Prop} {w1 : S → va_W} (F : CallFix p m c cc nL s args gtbl own) (hW : Wd D T A s X H locs) (hl : lv_has ls nL lv) (cw : CalS own idx y cy mL ret n) (hM : KN l D T y cy mL ret lev mc ms As X post w1)
    (hst : st = As.reverse ++ rest) (hlen : As.length = n) (hroom : (rest.map fun v => v.category).sum ≤ 8) (hR : lev + 1 ≤ R.frames ∧ 8 + (mL + 11) + 32 * lev ≤ R.locals) (hcs : cells + mc ≤ R.cells ∧ slots + ms ≤ R.slots) (hdg : decode cc pc = .ok (.invokestatic idx, 3))
    (kk : ∀ (r : Int32) (u : S) (H1 : Heap) (locs1 : List Loc), post r u → Wd D T A s (w1 u) H1 locs1 → W p l e R s m args below meth c H1 locs1 (cells + mc) (slots + ms) Q (F0 m (pc + 3) ls (.int r :: rest))) : W p l e R s m args below meth c H locs cells slots Q (F0 m pc ls st) := by
  obtain ⟨hP, hD⟩ := hW.cut (rg 0 X.length) (rg_nd _ _) ix_all
  subst hst
  have hFc := va_free (wc := X) hW.2.2.1 hW.2.2.2.1 hW.2.2.2.2 (rg 0 X.length) ix_all
  refine va_calli (va_runS (As := As) (rest := rest) F (hM H.size) (va_cwS n F.2.2.2.2 (goodS cw) rfl rfl rfl cw.2 hR) ⟨blindP _ _, fun U hU hWm => ⟨rfl, by rw [hU], va_K.moved hWm.alike hW.1, by rw [hU]; exact hP, hD⟩⟩ rfl hlen hl.1 rfl (lv_room hroom) hdg hcs) hW.2.2.2.1 (fun q _ h => hFc q h) hFc (fun r u t H1 locs1 ht hvm hp hB hz hk hS => ?_)
  exact kk r u H1 locs1 hp (hW.join (rg 0 X.length) [] (wr := []) rfl ix_all rfl (fun _ h => absurd h List.not_mem_nil) ht hB hk hS)
end CALLS
/-- a game: its cells' places -/
abbrev GA : Type := (Nat → Nat) × (Nat → Nat) × (Nat → Nat → Nat) × (Nat → Nat → Nat) × (Nat → Nat → Nat) × (Nat → Nat)
def XG (T : Nat → ClassId) (g : GA) (Y : YD) (u : UX) : va_W := xwF T g.1 g.2.1 g.2.2.1 g.2.2.2.1 g.2.2.2.2.1 g.2.2.2.2.2 Y u
abbrev slrel (ss : Nat → Nat → Int32) (Y : YD) : Prop := (∀ k, k < 2 → ss k 27 = 0 ∨ ss k 27 = 1) ∧ ∀ k, k < 2 → Y.isv k = 1 → srel (ss k) (fun j => Y.slo (340 * k + j))
def UR (Y : YD) (u : UX) : Prop := nrel Y.all u.1.1 u.1.2.1 ∧ hrel u.1.2.2.1 u.1.2.2.2 Y.H Y.nh ∧ slrel u.2.1 Y
theorem xg_at (T : Nat → ClassId) (g : GA) (Y : YD) (u : UX) : (XG T g Y u)[8]? = some (g.1 0, .inr (6, [.ref (g.2.1 0), .ref (g.1 1), .ref (g.1 2), .ref (g.1 3), .ref (g.1 4), .ref (g.1 5)])) := rfl
