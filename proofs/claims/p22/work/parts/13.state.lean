-- Position: beginning, reading, copying; State
section ACOPY
variable {p : Program} {l : Launch} {e : Env} {R : Room} {s : State} {m : MethodId} {args : Array Value} {below : List Frame} {meth : Method} {c : Code} {H : Heap} {locs : List Loc} {cells slots : Nat} {Q : State → Prop} {cc : ByteArray} {nL : Nat} {own : String} {D : va_G} {T : Nat → ClassId} {A : Nat → Prop} {ws ws' : va_W} {a : Nat} {pc : Nat} {ls : Array Slot} {rest : List Value} {lv : List (Nat × Value)}
theorem acopy (F : CallFix p m c cc nL s args gtbl own) (hW : Wd D T A s ws H locs) (hl : lv_has ls nL lv) (q0 q1 : Nat) {a0 n0 n1 idx : Nat} {f g : Nat → Int32} (ha0 : ws[q0]? = some (a0, .inl (T 0, n0, .inl f))) (ha1 : ws[q1]? = some (a, .inl (T 0, n1, .inl g))) (hlink : Cond.methodLink own idx arraycopyName ∈ gtbl) (n : Nat) (h4 : n ≤ n0) (h5 : n ≤ n1) (hn : n < 2 ^ 31) (g' : Nat → Int32) (hg : ∀ j, j < n1 → va_cpy f g 0 0 n j = g' j) (hw : ws.set q1 (a, .inl (T 0, n1, .inl g')) = ws')
    (hframes : 1 ≤ R.frames) (hlocals : (rest.map fun v => v.category).sum + (nativeFrameWords "java/lang/System" "arraycopy" 5 + 11) ≤ R.locals) (hdg : decode cc pc = .ok (.invokestatic idx, 3))
    (kk : ∀ (H1 : Heap) (locs1 : List Loc), Wd D T A s ws' H1 locs1 → W p l e R s m args below meth c H1 locs1 cells slots Q (F0 m (pc + 3) ls rest)) : W p l e R s m args below meth c H locs cells slots Q (F0 m pc ls (.int (nI n) :: .int (nI 0) :: .ref a :: .int (nI 0) :: .ref a0 :: rest)) := by
  have e0 : (nI 0).toNatClampNeg = 0 := nI_clamp (by decide)
  have en : (nI n).toNatClampNeg = n := nI_clamp hn
  refine va_copyi F.1 F.2.1 (by rw [F.2.2.1]; exact hl.1.symm) F.2.2.2.1 (F.2.2.2.2 _ hlink) (F.2.2.2.2 _ m300) (F.2.2.2.2 _ m299) (F.2.2.2.2 _ m18) hW.1 hW.2.1 hW.2.2.1 hW.2.2.2.1 q0 q1 0 0 ha0 ha1 rfl rfl rfl (nI_pos (by decide)) (nI_pos (by decide)) (nI_pos hn) (by rw [e0, en]; omega) (by rw [e0, en]; omega) (fun i hi => rfl) hframes hlocals hdg (fun H1 locs1 hP hD hS => ?_)
  rw [e0, en] at hP hD
  have hl1 := (List.getElem?_eq_some_iff.mp ha1).1
  have h1 : Wd D T A s (ws.set q1 (a, .inl (T 0, n1, .inl (va_cpy f g 0 0 n)))) H1 locs1 := ⟨hW.1, hP, hD, hS, hW.2.2.2.2⟩
  exact kk H1 locs1 (h1.arr q1 g' (List.getElem?_set_self hl1) hg (by rw [List.set_set]; exact hw))
end ACOPY
/-- the eight cells of a State -/
abbrev blk (T : Nat → ClassId) (a : Nat → Nat) (f : Nat → Int32) : va_W := [(a 0, .inr (5, [.ref (a 1), .ref (a 5), .ref (a 6), .ref (a 7)])), (a 1, .inr (3, [.ref (a 2), .ref (a 3), .ref (a 4), .int (f 26), .int (f 27), .int (f 28)])), (a 2, .inl (T 0, 12, .inl (fun j => f j))), (a 3, .inl (T 0, 12, .inl (fun j => f (12 + j)))), (a 4, .inl (T 0, 2, .inl (fun j => f (24 + j)))), (a 5, .inl (T 0, 4, .inl (fun j => f (34 + j)))), (a 6, .inr (4, [.int (f 29), .int (f 30), .int (f 31), .int (f 32), .int (f 33)])), (a 7, .inl (T 0, 300, .inl (fun j => f (40 + j))))]
set_option maxHeartbeats 4000000 in
set_option maxRecDepth 100000 in
theorem c_startGame (l : Launch) (D : va_G) (T : Nat → ClassId) (q0 q1 q2 q3 : Nat) (pl ov mv : Int32) (vs : Nat → Int32) : KV (S := Unit) l D T yX3_startGame cX3_startGame 2 0 [.ref q0] [(q0, .inr (3, [.ref q1, .ref q2, .ref q3, .int pl, .int ov, .int mv])), (q2, .inl (T 0, 12, .inl vs))] (fun _ => True) (fun u => [(q0, .inr (3, [.ref q1, .ref q2, .ref q3, .int pl, .int 0, .int 0])), (q2, .inl (T 0, 12, .inl (fun _ => 0)))]) := by
  refine KV.of (by decide +kernel) (Nat.le_of_ble_eq_true rfl) (fun p e s m below meth c A F hr hlk hW ls hl => ?_)
  have hx := F.1
  have hb := F.2.1
  have hl : lv_has ls 2 [(0, .ref q0)] := hl
  refine lv_iconst (v := nI 0) hx hb dX3_startGame_0 (by decide) ?_
  refine lv_istore_n (lv' := [(1, .int (nI 0)), (0, .ref q0)]) hx hb dX3_startGame_1 rfl hl (by decide) rfl (fun ls hl => ?_)
  have hW := Wd.arr hW 1 (fun j => if j < 0 then 0 else vs j) rfl (fun j hj => by rw [if_neg (Nat.not_lt_zero j)]) (ws' := [(q0, .inr (3, [.ref q1, .ref q2, .ref q3, .int pl, .int ov, .int mv])), (q2, .inl (T 0, 12, .inl (fun j => if j < 0 then 0 else vs j)))]) rfl
  refine W.loop (fun n H2 locs2 ls2 => ∃ k, k ≤ 12 ∧ n = 12 - k ∧ Wd D T A s [(q0, .inr (3, [.ref q1, .ref q2, .ref q3, .int pl, .int ov, .int mv])), (q2, .inl (T 0, 12, .inl (fun j => if j < k then 0 else vs j)))] H2 locs2 ∧ lv_has ls2 2 [(0, .ref q0), (1, .int (nI k))]) ?_ 12 ⟨0, by omega, rfl, hW, lv_sub hl [1, 0] rfl⟩
  rintro n H locs ls ⟨k, hk, rfl, hW, hl⟩ ih
  refine lv_iload_n hx hb dX3_startGame_2 rfl (lv_at hl 1 rfl) ?_
  refine lv_bipush (v := nI 12) hx hb dX3_startGame_3 (by decide) ?_
  refine lv_icmp_ge (tgt := 21) hx hb dX3_startGame_5 (by decide) (fun h5 => ?_) (fun h5 => ?_)
  · have h6 : k = 12 := by have := n_le h5 (by omega) (by omega); omega
    subst h6
    refine lv_aload_n hx hb dX3_startGame_21 rfl (lv_at hl 0 rfl) ?_
    refine lv_iconst (v := 0) hx hb dX3_startGame_22 (by decide) ?_
    refine pf50 (ws' := [(q0, .inr (3, [.ref q1, .ref q2, .ref q3, .int pl, .int 0, .int mv])), (q2, .inl (T 0, 12, .inl (fun j => if j < 12 then 0 else vs j)))]) F hW 0 rfl rfl rfl rfl rfl dX3_startGame_23 (fun H locs hW => ?_)
    refine lv_aload_n hx hb dX3_startGame_26 rfl (lv_at hl 0 rfl) ?_
    refine lv_iconst (v := 0) hx hb dX3_startGame_27 (by decide) ?_
    refine pf52 (ws' := [(q0, .inr (3, [.ref q1, .ref q2, .ref q3, .int pl, .int 0, .int 0])), (q2, .inl (T 0, 12, .inl (fun j => if j < 12 then 0 else vs j)))]) F hW 0 rfl rfl rfl dX3_startGame_28 (fun H locs hW => ?_)
    have hW := Wd.arr hW 1 (fun _ => 0) rfl (fun j hj => if_pos hj) (ws' := [(q0, .inr (3, [.ref q1, .ref q2, .ref q3, .int pl, .int 0, .int 0])), (q2, .inl (T 0, 12, .inl (fun _ => 0)))]) rfl
    exact retV F hr hlk hW () trivial rfl dX3_startGame_31
  · have h6 : k < 12 := by have := n_nle h5 (by omega) (by omega); omega
    refine lv_aload_n hx hb dX3_startGame_8 rfl (lv_at hl 0 rfl) ?_
    refine gf42 F hW 0 rfl rfl dX3_startGame_9 ?_
    refine lv_iload_n hx hb dX3_startGame_12 rfl (lv_at hl 1 rfl) ?_
    refine lv_iconst (v := 0) hx hb dX3_startGame_13 (by decide) ?_
    refine ast (ws' := [(q0, .inr (3, [.ref q1, .ref q2, .ref q3, .int pl, .int ov, .int mv])), (q2, .inl (T 0, 12, .inl (fun j => if j < k + 1 then 0 else vs j)))]) F hW 1 (fun j => if j < k + 1 then 0 else vs j) rfl k rfl (by omega) (by decide) (fun j hj => by by_cases q : j = k <;> simp [upd, q] <;> (split <;> split <;> first | rfl | omega)) rfl dX3_startGame_14 (fun H locs hW => ?_)
    refine lv_iinc (v := nI (k + 1)) (lv' := [(1, .int (nI (k + 1))), (0, .ref q0)]) hx hb dX3_startGame_15 hl (k := 1) rfl (nI_add _ _) (by decide) rfl (fun ls hl => ?_)
    refine lv_goto (tgt := 2) hx hb dX3_startGame_18 (by decide) ?_
    exact ih (12 - (k + 1)) _ _ _ (by omega) ⟨k + 1, by omega, rfl, hW, lv_sub hl [1, 0] rfl⟩
set_option maxHeartbeats 4000000 in
set_option maxRecDepth 100000 in
theorem c_fill (l : Launch) (D : va_G) (T : Nat → ClassId) (q0 q1 q2 q3 : Nat) (pl ov mv x : Int32) (sd vs so : Nat → Int32) : KV (S := Unit) l D T yX3_fill cX3_fill 3 1 [.ref q0, .int x] [(q0, .inr (3, [.ref q1, .ref q2, .ref q3, .int pl, .int ov, .int mv])), (q1, .inl (T 0, 12, .inl sd)), (q2, .inl (T 0, 12, .inl vs)), (q3, .inl (T 0, 2, .inl so))] (fun _ => True) (fun u => [(q0, .inr (3, [.ref q1, .ref q2, .ref q3, .int 0, .int 0, .int 0])), (q1, .inl (T 0, 12, .inl (fun _ => x))), (q2, .inl (T 0, 12, .inl (fun _ => 0))), (q3, .inl (T 0, 2, .inl (fun _ => 0)))]) := by
  refine KV.of (by decide +kernel) (Nat.le_of_ble_eq_true rfl) (fun p e s m below meth c A F hr hlk hW ls hl => ?_)
  have hx := F.1
  have hb := F.2.1
  have hl : lv_has ls 3 [(0, .ref q0), (1, .int x)] := hl
  refine lv_aload_n hx hb dX3_fill_0 rfl (lv_at hl 0 rfl) ?_
  refine cVV (As := []) (rest := []) (wr := [(q1, .inl (T 0, 12, .inl sd)), (q3, .inl (T 0, 2, .inl so))]) F hW hl cs192 (c_startGame l D T q0 q1 q2 q3 pl ov mv vs) [0, 2] [1, 3] rfl rfl rfl rfl (by decide) 0 3 rfl rfl rfl rfl rfl (Nat.le_of_ble_eq_true rfl) ⟨Nat.le_of_ble_eq_true rfl, Nat.le_of_ble_eq_true rfl⟩ ⟨Nat.zero_le _, Nat.zero_le _⟩ dX3_fill_1 (fun u1 H locs hr1 hW => ?_)
  have hW := Wd.ord hW (ws' := [(q0, .inr (3, [.ref q1, .ref q2, .ref q3, .int pl, .int 0, .int 0])), (q1, .inl (T 0, 12, .inl sd)), (q2, .inl (T 0, 12, .inl (fun _ => 0))), (q3, .inl (T 0, 2, .inl so))]) [2, 0, 3, 1] rfl rfl
  refine lv_iconst (v := nI 0) hx hb dX3_fill_4 (by decide) ?_
  refine lv_istore_n (lv' := [(2, .int (nI 0)), (0, .ref q0), (1, .int x)]) hx hb dX3_fill_5 rfl hl (by decide) rfl (fun ls hl => ?_)
  have hW := Wd.arr hW 1 (fun j => if j < 0 then x else sd j) rfl (fun j hj => by rw [if_neg (Nat.not_lt_zero j)]) (ws' := [(q0, .inr (3, [.ref q1, .ref q2, .ref q3, .int pl, .int 0, .int 0])), (q1, .inl (T 0, 12, .inl (fun j => if j < 0 then x else sd j))), (q2, .inl (T 0, 12, .inl (fun _ => 0))), (q3, .inl (T 0, 2, .inl so))]) rfl
  refine W.loop (fun n H2 locs2 ls2 => ∃ k, k ≤ 12 ∧ n = 12 - k ∧ Wd D T A s [(q0, .inr (3, [.ref q1, .ref q2, .ref q3, .int pl, .int 0, .int 0])), (q1, .inl (T 0, 12, .inl (fun j => if j < k then x else sd j))), (q2, .inl (T 0, 12, .inl (fun _ => 0))), (q3, .inl (T 0, 2, .inl so))] H2 locs2 ∧ lv_has ls2 3 [(0, .ref q0), (1, .int x), (2, .int (nI k))]) ?_ 12 ⟨0, by omega, rfl, hW, lv_sub hl [1, 2, 0] rfl⟩
  rintro n H locs ls ⟨k, hk, rfl, hW, hl⟩ ih
  refine lv_iload_n hx hb dX3_fill_6 rfl (lv_at hl 2 rfl) ?_
  refine lv_bipush (v := nI 12) hx hb dX3_fill_7 (by decide) ?_
  refine lv_icmp_ge (tgt := 25) hx hb dX3_fill_9 (by decide) (fun h9 => ?_) (fun h9 => ?_)
  · have h6 : k = 12 := by have := n_le h9 (by omega) (by omega); omega
    subst h6
    refine lv_aload_n hx hb dX3_fill_25 rfl (lv_at hl 0 rfl) ?_
    refine gf44 F hW 0 rfl rfl dX3_fill_26 ?_
    refine lv_iconst (v := nI 0) hx hb dX3_fill_29 (by decide) ?_
    refine lv_iconst (v := 0) hx hb dX3_fill_30 (by decide) ?_
    refine ast (ws' := [(q0, .inr (3, [.ref q1, .ref q2, .ref q3, .int pl, .int 0, .int 0])), (q1, .inl (T 0, 12, .inl (fun j => if j < 12 then x else sd j))), (q2, .inl (T 0, 12, .inl (fun _ => 0))), (q3, .inl (T 0, 2, .inl (upd so 0 0)))]) F hW 3 (upd so 0 0) rfl 0 rfl (by omega) (by decide) (fun _ _ => rfl) rfl dX3_fill_31 (fun H locs hW => ?_)
    refine lv_aload_n hx hb dX3_fill_32 rfl (lv_at hl 0 rfl) ?_
    refine gf44 F hW 0 rfl rfl dX3_fill_33 ?_
    refine lv_iconst (v := nI 1) hx hb dX3_fill_36 (by decide) ?_
    refine lv_iconst (v := 0) hx hb dX3_fill_37 (by decide) ?_
    refine ast (ws' := [(q0, .inr (3, [.ref q1, .ref q2, .ref q3, .int pl, .int 0, .int 0])), (q1, .inl (T 0, 12, .inl (fun j => if j < 12 then x else sd j))), (q2, .inl (T 0, 12, .inl (fun _ => 0))), (q3, .inl (T 0, 2, .inl (upd (upd so 0 0) 1 0)))]) F hW 3 (upd (upd so 0 0) 1 0) rfl 1 rfl (by omega) (by decide) (fun _ _ => rfl) rfl dX3_fill_38 (fun H locs hW => ?_)
    refine lv_aload_n hx hb dX3_fill_39 rfl (lv_at hl 0 rfl) ?_
    refine lv_iconst (v := 0) hx hb dX3_fill_40 (by decide) ?_
    refine pf46 (ws' := [(q0, .inr (3, [.ref q1, .ref q2, .ref q3, .int 0, .int 0, .int 0])), (q1, .inl (T 0, 12, .inl (fun j => if j < 12 then x else sd j))), (q2, .inl (T 0, 12, .inl (fun _ => 0))), (q3, .inl (T 0, 2, .inl (upd (upd so 0 0) 1 0)))]) F hW 0 rfl rfl rfl dX3_fill_41 (fun H locs hW => ?_)
    have hW := Wd.arr hW 1 (fun _ => x) rfl (fun j hj => if_pos hj) (ws' := [(q0, .inr (3, [.ref q1, .ref q2, .ref q3, .int 0, .int 0, .int 0])), (q1, .inl (T 0, 12, .inl (fun _ => x))), (q2, .inl (T 0, 12, .inl (fun _ => 0))), (q3, .inl (T 0, 2, .inl (upd (upd so 0 0) 1 0)))]) rfl
    have hW := Wd.arr hW 3 (fun _ => 0) rfl (fun j hj => by rcases (show j = 0 ∨ j = 1 by omega) with rfl | rfl <;> rfl) (ws' := [(q0, .inr (3, [.ref q1, .ref q2, .ref q3, .int 0, .int 0, .int 0])), (q1, .inl (T 0, 12, .inl (fun _ => x))), (q2, .inl (T 0, 12, .inl (fun _ => 0))), (q3, .inl (T 0, 2, .inl (fun _ => 0)))]) rfl
    exact retV F hr hlk hW () trivial rfl dX3_fill_44
  · have h6 : k < 12 := by have := n_nle h9 (by omega) (by omega); omega
    refine lv_aload_n hx hb dX3_fill_12 rfl (lv_at hl 0 rfl) ?_
    refine gf40 F hW 0 rfl rfl dX3_fill_13 ?_
    refine lv_iload_n hx hb dX3_fill_16 rfl (lv_at hl 2 rfl) ?_
    refine lv_iload_n hx hb dX3_fill_17 rfl (lv_at hl 1 rfl) ?_
    refine ast (ws' := [(q0, .inr (3, [.ref q1, .ref q2, .ref q3, .int pl, .int 0, .int 0])), (q1, .inl (T 0, 12, .inl (fun j => if j < k + 1 then x else sd j))), (q2, .inl (T 0, 12, .inl (fun _ => 0))), (q3, .inl (T 0, 2, .inl so))]) F hW 1 (fun j => if j < k + 1 then x else sd j) rfl k rfl (by omega) (by decide) (fun j hj => by by_cases q : j = k <;> simp [upd, q] <;> (split <;> split <;> first | rfl | omega)) rfl dX3_fill_18 (fun H locs hW => ?_)
    refine lv_iinc (v := nI (k + 1)) (lv' := [(2, .int (nI (k + 1))), (0, .ref q0), (1, .int x)]) hx hb dX3_fill_19 hl (k := 2) rfl (nI_add _ _) (by decide) rfl (fun ls hl => ?_)
    refine lv_goto (tgt := 6) hx hb dX3_fill_22 (by decide) ?_
    exact ih (12 - (k + 1)) _ _ _ (by omega) ⟨k + 1, by omega, rfl, hW, lv_sub hl [1, 2, 0] rfl⟩
set_option maxHeartbeats 4000000 in
set_option maxRecDepth 100000 in
theorem c_fillFrom (l : Launch) (D : va_G) (T : Nat → ClassId) (q0 q1 q2 q3 q4 : Nat) (pl ov mv : Int32) (sd vs so nf P : Nat → Int32) (hs : ∀ j, j < 12 → nf j = P j) (h12 : nf 12 = P 24) (h13 : nf 13 = P 25) (h27 : P 27 = 0) (h28 : P 28 = 0) {t : Nat} (ht : t < 2) (h14 : nf 14 = nI t) : KV (S := Unit) l D T yX3_fillFrom cX3_fillFrom 3 3 [.ref q0, .ref q4] [(q0, .inr (3, [.ref q1, .ref q2, .ref q3, .int pl, .int ov, .int mv])), (q1, .inl (T 0, 12, .inl sd)), (q2, .inl (T 0, 12, .inl vs)), (q3, .inl (T 0, 2, .inl so)), (q4, .inl (T 0, 15, .inl nf))] (fun _ => True) (fun u => [(q0, .inr (3, [.ref q1, .ref q2, .ref q3, .int ((gtM P t) 26), .int ((gtM P t) 27), .int 0])), (q1, .inl (T 0, 12, .inl (fun j => (gtM P t) j))), (q2, .inl (T 0, 12, .inl (fun _ => 0))), (q3, .inl (T 0, 2, .inl (fun j => (gtM P t) (24 + j)))), (q4, .inl (T 0, 15, .inl nf))]) := by
  refine KV.of (by decide +kernel) (Nat.le_of_ble_eq_true rfl) (fun p e s m below meth c A F hr hlk hW ls hl => ?_)
  have hx := F.1
  have hb := F.2.1
  have hl : lv_has ls 3 [(0, .ref q0), (1, .ref q4)] := hl
  refine lv_aload_n hx hb dX3_fillFrom_0 rfl (lv_at hl 0 rfl) ?_
  refine cVV (As := []) (rest := []) (wr := [(q1, .inl (T 0, 12, .inl sd)), (q3, .inl (T 0, 2, .inl so)), (q4, .inl (T 0, 15, .inl nf))]) F hW hl cs192 (c_startGame l D T q0 q1 q2 q3 pl ov mv vs) [0, 2] [1, 3, 4] rfl rfl rfl rfl (by decide) 0 3 rfl rfl rfl rfl rfl (Nat.le_of_ble_eq_true rfl) ⟨Nat.le_of_ble_eq_true rfl, Nat.le_of_ble_eq_true rfl⟩ ⟨Nat.zero_le _, Nat.zero_le _⟩ dX3_fillFrom_1 (fun u1 H locs hr1 hW => ?_)
  have hW := Wd.ord hW (ws' := [(q0, .inr (3, [.ref q1, .ref q2, .ref q3, .int pl, .int 0, .int 0])), (q1, .inl (T 0, 12, .inl sd)), (q2, .inl (T 0, 12, .inl (fun _ => 0))), (q3, .inl (T 0, 2, .inl so)), (q4, .inl (T 0, 15, .inl nf))]) [3, 0, 4, 1, 2] rfl rfl
  refine lv_iconst (v := nI 0) hx hb dX3_fillFrom_4 (by decide) ?_
  refine lv_istore_n (lv' := [(2, .int (nI 0)), (0, .ref q0), (1, .ref q4)]) hx hb dX3_fillFrom_5 rfl hl (by decide) rfl (fun ls hl => ?_)
  have hW := Wd.arr hW 1 (fun j => if j < 0 then nf j else sd j) rfl (fun j hj => by rw [if_neg (Nat.not_lt_zero j)]) (ws' := [(q0, .inr (3, [.ref q1, .ref q2, .ref q3, .int pl, .int 0, .int 0])), (q1, .inl (T 0, 12, .inl (fun j => if j < 0 then nf j else sd j))), (q2, .inl (T 0, 12, .inl (fun _ => 0))), (q3, .inl (T 0, 2, .inl so)), (q4, .inl (T 0, 15, .inl nf))]) rfl
  refine W.loop (fun n H2 locs2 ls2 => ∃ k, k ≤ 12 ∧ n = 12 - k ∧ Wd D T A s [(q0, .inr (3, [.ref q1, .ref q2, .ref q3, .int pl, .int 0, .int 0])), (q1, .inl (T 0, 12, .inl (fun j => if j < k then nf j else sd j))), (q2, .inl (T 0, 12, .inl (fun _ => 0))), (q3, .inl (T 0, 2, .inl so)), (q4, .inl (T 0, 15, .inl nf))] H2 locs2 ∧ lv_has ls2 3 [(0, .ref q0), (1, .ref q4), (2, .int (nI k))]) ?_ 12 ⟨0, by omega, rfl, hW, lv_sub hl [1, 2, 0] rfl⟩
  rintro n H locs ls ⟨k, hk, rfl, hW, hl⟩ ih
  refine lv_iload_n hx hb dX3_fillFrom_6 rfl (lv_at hl 2 rfl) ?_
  refine lv_bipush (v := nI 12) hx hb dX3_fillFrom_7 (by decide) ?_
  refine lv_icmp_ge (tgt := 27) hx hb dX3_fillFrom_9 (by decide) (fun h9 => ?_) (fun h9 => ?_)
  · have h6 : k = 12 := by have := n_le h9 (by omega) (by omega); omega
    subst h6
    refine lv_aload_n hx hb dX3_fillFrom_27 rfl (lv_at hl 0 rfl) ?_
    refine gf44 F hW 0 rfl rfl dX3_fillFrom_28 ?_
    refine lv_iconst (v := nI 0) hx hb dX3_fillFrom_31 (by decide) ?_
    refine lv_aload_n hx hb dX3_fillFrom_32 rfl (lv_at hl 1 rfl) ?_
    refine lv_bipush (v := nI 12) hx hb dX3_fillFrom_33 (by decide) ?_
    refine ald F hW 4 rfl (x := nf 12) 12 rfl (by omega) (by decide) rfl dX3_fillFrom_35 ?_
    refine ast (ws' := [(q0, .inr (3, [.ref q1, .ref q2, .ref q3, .int pl, .int 0, .int 0])), (q1, .inl (T 0, 12, .inl (fun j => if j < 12 then nf j else sd j))), (q2, .inl (T 0, 12, .inl (fun _ => 0))), (q3, .inl (T 0, 2, .inl (upd so 0 (nf 12)))), (q4, .inl (T 0, 15, .inl nf))]) F hW 3 (upd so 0 (nf 12)) rfl 0 rfl (by omega) (by decide) (fun _ _ => rfl) rfl dX3_fillFrom_36 (fun H locs hW => ?_)
    refine lv_aload_n hx hb dX3_fillFrom_37 rfl (lv_at hl 0 rfl) ?_
    refine gf44 F hW 0 rfl rfl dX3_fillFrom_38 ?_
    refine lv_iconst (v := nI 1) hx hb dX3_fillFrom_41 (by decide) ?_
    refine lv_aload_n hx hb dX3_fillFrom_42 rfl (lv_at hl 1 rfl) ?_
    refine lv_bipush (v := nI 13) hx hb dX3_fillFrom_43 (by decide) ?_
    refine ald F hW 4 rfl (x := nf 13) 13 rfl (by omega) (by decide) rfl dX3_fillFrom_45 ?_
    refine ast (ws' := [(q0, .inr (3, [.ref q1, .ref q2, .ref q3, .int pl, .int 0, .int 0])), (q1, .inl (T 0, 12, .inl (fun j => if j < 12 then nf j else sd j))), (q2, .inl (T 0, 12, .inl (fun _ => 0))), (q3, .inl (T 0, 2, .inl (upd (upd so 0 (nf 12)) 1 (nf 13)))), (q4, .inl (T 0, 15, .inl nf))]) F hW 3 (upd (upd so 0 (nf 12)) 1 (nf 13)) rfl 1 rfl (by omega) (by decide) (fun _ _ => rfl) rfl dX3_fillFrom_46 (fun H locs hW => ?_)
    refine lv_aload_n hx hb dX3_fillFrom_47 rfl (lv_at hl 0 rfl) ?_
    refine lv_aload_n hx hb dX3_fillFrom_48 rfl (lv_at hl 1 rfl) ?_
    refine lv_bipush (v := nI 14) hx hb dX3_fillFrom_49 (by decide) ?_
    refine ald F hW 4 rfl (x := nf 14) 14 rfl (by omega) (by decide) rfl dX3_fillFrom_51 ?_
    have hW := Wd.arr hW 1 (fun j => nf j) rfl (fun j hj => if_pos hj) (ws' := [(q0, .inr (3, [.ref q1, .ref q2, .ref q3, .int pl, .int 0, .int 0])), (q1, .inl (T 0, 12, .inl (fun j => nf j))), (q2, .inl (T 0, 12, .inl (fun _ => 0))), (q3, .inl (T 0, 2, .inl (upd (upd so 0 (nf 12)) 1 (nf 13)))), (q4, .inl (T 0, 15, .inl nf))]) rfl
    have hW := Wd.arr hW 3 (fun j => P (24 + j)) rfl (fun j hj => by rcases (show j = 0 ∨ j = 1 by omega) with rfl | rfl; exact h12; exact h13) (ws' := [(q0, .inr (3, [.ref q1, .ref q2, .ref q3, .int pl, .int 0, .int 0])), (q1, .inl (T 0, 12, .inl (fun j => nf j))), (q2, .inl (T 0, 12, .inl (fun _ => 0))), (q3, .inl (T 0, 2, .inl (fun j => P (24 + j)))), (q4, .inl (T 0, 15, .inl nf))]) rfl
    refine W.fork (X := Unit) 60 (fun _ => [.int (nI t), .ref q0]) (fun _ H2 locs2 ls2 => H2 = H ∧ locs2 = locs ∧ lv_has ls2 3 [(0, .ref q0), (1, .ref q4), (2, .int (nI 12))]) (fun hJ => ?_) ?_
    · refine lv_if_ne (tgt := 59) hx hb dX3_fillFrom_52 (by decide) (fun h52 => ?_) (fun h52 => ?_)
      · refine lv_iconst (v := nI 1) hx hb dX3_fillFrom_59 (by decide) ?_
        have e1 : t = 1 := by have : t ≠ 0 := fun q => h52 (by rw [h14, q]; rfl); omega
        rw [show nI 1 = nI t by rw [e1]]
        exact hJ () _ _ _ ⟨rfl, rfl, hl⟩
      · refine lv_iconst (v := nI 0) hx hb dX3_fillFrom_55 (by decide) ?_
        refine lv_goto (tgt := 60) hx hb dX3_fillFrom_56 (by decide) ?_
        have e1 : t = 0 := n_eq (b := 0) (h14.symm.trans h52) (by omega) (by decide)
        rw [show nI 0 = nI t by rw [e1]]
        exact hJ () _ _ _ ⟨rfl, rfl, hl⟩
    · rintro - H2 locs2 ls ⟨rfl, rfl, hl⟩
      refine cVV (As := [.int (nI t)]) (rest := []) (wr := [(q2, .inl (T 0, 12, .inl (fun _ => 0))), (q4, .inl (T 0, 15, .inl nf))]) F hW hl cs310 (c_giveTurnTo l D T q0 q1 q2 q3 pl 0 0 (fun j => nf j) (fun j => P (24 + j)) P (fun j hj => hs j hj) (fun _ _ => rfl) h27.symm h28.symm (t := t) (by omega)) [0, 1, 3] [2, 4] rfl rfl rfl rfl (by decide) 0 3 rfl rfl rfl rfl rfl (Nat.le_of_ble_eq_true rfl) ⟨Nat.le_of_ble_eq_true rfl, Nat.le_of_ble_eq_true rfl⟩ ⟨Nat.zero_le _, Nat.zero_le _⟩ dX3_fillFrom_60 (fun u60 H locs hr60 hW => ?_)
      have hW := Wd.ord hW (ws' := [(q0, .inr (3, [.ref q1, .ref q2, .ref q3, .int ((gtM P t) 26), .int ((gtM P t) 27), .int 0])), (q1, .inl (T 0, 12, .inl (fun j => (gtM P t) j))), (q2, .inl (T 0, 12, .inl (fun _ => 0))), (q3, .inl (T 0, 2, .inl (fun j => (gtM P t) (24 + j)))), (q4, .inl (T 0, 15, .inl nf))]) [2, 3, 0, 4, 1] rfl rfl
      exact retV F hr hlk hW () trivial rfl dX3_fillFrom_63
  · have h6 : k < 12 := by have := n_nle h9 (by omega) (by omega); omega
    refine lv_aload_n hx hb dX3_fillFrom_12 rfl (lv_at hl 0 rfl) ?_
    refine gf40 F hW 0 rfl rfl dX3_fillFrom_13 ?_
    refine lv_iload_n hx hb dX3_fillFrom_16 rfl (lv_at hl 2 rfl) ?_
    refine lv_aload_n hx hb dX3_fillFrom_17 rfl (lv_at hl 1 rfl) ?_
    refine lv_iload_n hx hb dX3_fillFrom_18 rfl (lv_at hl 2 rfl) ?_
    refine ald F hW 4 rfl (x := nf k) k rfl (by omega) (by decide) rfl dX3_fillFrom_19 ?_
    refine ast (ws' := [(q0, .inr (3, [.ref q1, .ref q2, .ref q3, .int pl, .int 0, .int 0])), (q1, .inl (T 0, 12, .inl (fun j => if j < k + 1 then nf j else sd j))), (q2, .inl (T 0, 12, .inl (fun _ => 0))), (q3, .inl (T 0, 2, .inl so)), (q4, .inl (T 0, 15, .inl nf))]) F hW 1 (fun j => if j < k + 1 then nf j else sd j) rfl k rfl (by omega) (by decide) (fun j hj => by by_cases q : j = k <;> simp [upd, q] <;> (split <;> split <;> first | rfl | omega)) rfl dX3_fillFrom_20 (fun H locs hW => ?_)
    refine lv_iinc (v := nI (k + 1)) (lv' := [(2, .int (nI (k + 1))), (0, .ref q0), (1, .ref q4)]) hx hb dX3_fillFrom_21 hl (k := 2) rfl (nI_add _ _) (by decide) rfl (fun ls hl => ?_)
    refine lv_goto (tgt := 6) hx hb dX3_fillFrom_24 (by decide) ?_
    exact ih (12 - (k + 1)) _ _ _ (by omega) ⟨k + 1, by omega, rfl, hW, lv_sub hl [1, 2, 0] rfl⟩
set_option maxHeartbeats 4000000 in
set_option maxRecDepth 100000 in
theorem c_posCopy (l : Launch) (D : va_G) (T : Nat → ClassId) (q0 q1 q2 q3 r0 r1 r2 r3 : Nat) (pl ov mv pl2 ov2 mv2 : Int32) (sd vs so sd2 vs2 so2 : Nat → Int32) (hbo : ov2 = 0 ∨ ov2 = 1) : KV (S := Unit) l D T yX3_copyFrom cX3_copyFrom 2 1 [.ref q0, .ref r0] [(q0, .inr (3, [.ref q1, .ref q2, .ref q3, .int pl, .int ov, .int mv])), (q1, .inl (T 0, 12, .inl sd)), (q2, .inl (T 0, 12, .inl vs)), (q3, .inl (T 0, 2, .inl so)), (r0, .inr (3, [.ref r1, .ref r2, .ref r3, .int pl2, .int ov2, .int mv2])), (r1, .inl (T 0, 12, .inl sd2)), (r2, .inl (T 0, 12, .inl vs2)), (r3, .inl (T 0, 2, .inl so2))] (fun _ => True) (fun u => [(q0, .inr (3, [.ref q1, .ref q2, .ref q3, .int pl2, .int ov2, .int mv2])), (q1, .inl (T 0, 12, .inl sd2)), (q2, .inl (T 0, 12, .inl vs2)), (q3, .inl (T 0, 2, .inl so2)), (r0, .inr (3, [.ref r1, .ref r2, .ref r3, .int pl2, .int ov2, .int mv2])), (r1, .inl (T 0, 12, .inl sd2)), (r2, .inl (T 0, 12, .inl vs2)), (r3, .inl (T 0, 2, .inl so2))]) := by
  refine KV.of (by decide +kernel) (Nat.le_of_ble_eq_true rfl) (fun p e s m below meth c A F hr hlk hW ls hl => ?_)
  have hx := F.1
  have hb := F.2.1
  have hl : lv_has ls 2 [(0, .ref q0), (1, .ref r0)] := hl
  have hz := z_bool hbo
  refine lv_aload_n hx hb dX3_copyFrom_0 rfl (lv_at hl 1 rfl) ?_
  refine gf40 F hW 4 rfl rfl dX3_copyFrom_1 ?_
  refine lv_iconst (v := nI 0) hx hb dX3_copyFrom_4 (by decide) ?_
  refine lv_aload_n hx hb dX3_copyFrom_5 rfl (lv_at hl 0 rfl) ?_
  refine gf40 F hW 0 rfl rfl dX3_copyFrom_6 ?_
  refine lv_iconst (v := nI 0) hx hb dX3_copyFrom_9 (by decide) ?_
  refine lv_bipush (v := nI 12) hx hb dX3_copyFrom_10 (by decide) ?_
  refine acopy (ws' := [(q0, .inr (3, [.ref q1, .ref q2, .ref q3, .int pl, .int ov, .int mv])), (q1, .inl (T 0, 12, .inl sd2)), (q2, .inl (T 0, 12, .inl vs)), (q3, .inl (T 0, 2, .inl so)), (r0, .inr (3, [.ref r1, .ref r2, .ref r3, .int pl2, .int ov2, .int mv2])), (r1, .inl (T 0, 12, .inl sd2)), (r2, .inl (T 0, 12, .inl vs2)), (r3, .inl (T 0, 2, .inl so2))]) F hW hl 5 1 rfl rfl m298 12 (by decide) (by decide) (by decide) sd2 (fun j hj => by rw [va_cpy, if_pos ⟨Nat.zero_le j, by omega⟩, Nat.sub_zero, Nat.zero_add]) rfl (Nat.le_of_ble_eq_true rfl) (Nat.le_of_ble_eq_true rfl) dX3_copyFrom_12 (fun H locs hW => ?_)
  refine lv_aload_n hx hb dX3_copyFrom_15 rfl (lv_at hl 1 rfl) ?_
  refine gf42 F hW 4 rfl rfl dX3_copyFrom_16 ?_
  refine lv_iconst (v := nI 0) hx hb dX3_copyFrom_19 (by decide) ?_
  refine lv_aload_n hx hb dX3_copyFrom_20 rfl (lv_at hl 0 rfl) ?_
  refine gf42 F hW 0 rfl rfl dX3_copyFrom_21 ?_
  refine lv_iconst (v := nI 0) hx hb dX3_copyFrom_24 (by decide) ?_
  refine lv_bipush (v := nI 12) hx hb dX3_copyFrom_25 (by decide) ?_
  refine acopy (ws' := [(q0, .inr (3, [.ref q1, .ref q2, .ref q3, .int pl, .int ov, .int mv])), (q1, .inl (T 0, 12, .inl sd2)), (q2, .inl (T 0, 12, .inl vs2)), (q3, .inl (T 0, 2, .inl so)), (r0, .inr (3, [.ref r1, .ref r2, .ref r3, .int pl2, .int ov2, .int mv2])), (r1, .inl (T 0, 12, .inl sd2)), (r2, .inl (T 0, 12, .inl vs2)), (r3, .inl (T 0, 2, .inl so2))]) F hW hl 6 2 rfl rfl m298 12 (by decide) (by decide) (by decide) vs2 (fun j hj => by rw [va_cpy, if_pos ⟨Nat.zero_le j, by omega⟩, Nat.sub_zero, Nat.zero_add]) rfl (Nat.le_of_ble_eq_true rfl) (Nat.le_of_ble_eq_true rfl) dX3_copyFrom_27 (fun H locs hW => ?_)
  refine lv_aload_n hx hb dX3_copyFrom_30 rfl (lv_at hl 0 rfl) ?_
  refine gf44 F hW 0 rfl rfl dX3_copyFrom_31 ?_
  refine lv_iconst (v := nI 0) hx hb dX3_copyFrom_34 (by decide) ?_
  refine lv_aload_n hx hb dX3_copyFrom_35 rfl (lv_at hl 1 rfl) ?_
  refine gf44 F hW 4 rfl rfl dX3_copyFrom_36 ?_
  refine lv_iconst (v := nI 0) hx hb dX3_copyFrom_39 (by decide) ?_
  refine ald F hW 7 rfl (x := so2 0) 0 rfl (by omega) (by decide) rfl dX3_copyFrom_40 ?_
  refine ast (ws' := [(q0, .inr (3, [.ref q1, .ref q2, .ref q3, .int pl, .int ov, .int mv])), (q1, .inl (T 0, 12, .inl sd2)), (q2, .inl (T 0, 12, .inl vs2)), (q3, .inl (T 0, 2, .inl (upd so 0 (so2 0)))), (r0, .inr (3, [.ref r1, .ref r2, .ref r3, .int pl2, .int ov2, .int mv2])), (r1, .inl (T 0, 12, .inl sd2)), (r2, .inl (T 0, 12, .inl vs2)), (r3, .inl (T 0, 2, .inl so2))]) F hW 3 (upd so 0 (so2 0)) rfl 0 rfl (by omega) (by decide) (fun _ _ => rfl) rfl dX3_copyFrom_41 (fun H locs hW => ?_)
  refine lv_aload_n hx hb dX3_copyFrom_42 rfl (lv_at hl 0 rfl) ?_
  refine gf44 F hW 0 rfl rfl dX3_copyFrom_43 ?_
  refine lv_iconst (v := nI 1) hx hb dX3_copyFrom_46 (by decide) ?_
  refine lv_aload_n hx hb dX3_copyFrom_47 rfl (lv_at hl 1 rfl) ?_
  refine gf44 F hW 4 rfl rfl dX3_copyFrom_48 ?_
  refine lv_iconst (v := nI 1) hx hb dX3_copyFrom_51 (by decide) ?_
  refine ald F hW 7 rfl (x := so2 1) 1 rfl (by omega) (by decide) rfl dX3_copyFrom_52 ?_
  refine ast (ws' := [(q0, .inr (3, [.ref q1, .ref q2, .ref q3, .int pl, .int ov, .int mv])), (q1, .inl (T 0, 12, .inl sd2)), (q2, .inl (T 0, 12, .inl vs2)), (q3, .inl (T 0, 2, .inl (upd (upd so 0 (so2 0)) 1 (so2 1)))), (r0, .inr (3, [.ref r1, .ref r2, .ref r3, .int pl2, .int ov2, .int mv2])), (r1, .inl (T 0, 12, .inl sd2)), (r2, .inl (T 0, 12, .inl vs2)), (r3, .inl (T 0, 2, .inl so2))]) F hW 3 (upd (upd so 0 (so2 0)) 1 (so2 1)) rfl 1 rfl (by omega) (by decide) (fun _ _ => rfl) rfl dX3_copyFrom_53 (fun H locs hW => ?_)
  refine lv_aload_n hx hb dX3_copyFrom_54 rfl (lv_at hl 0 rfl) ?_
  refine lv_aload_n hx hb dX3_copyFrom_55 rfl (lv_at hl 1 rfl) ?_
  refine gf46 F hW 4 rfl rfl dX3_copyFrom_56 ?_
  refine pf46 (ws' := [(q0, .inr (3, [.ref q1, .ref q2, .ref q3, .int pl2, .int ov, .int mv])), (q1, .inl (T 0, 12, .inl sd2)), (q2, .inl (T 0, 12, .inl vs2)), (q3, .inl (T 0, 2, .inl (upd (upd so 0 (so2 0)) 1 (so2 1)))), (r0, .inr (3, [.ref r1, .ref r2, .ref r3, .int pl2, .int ov2, .int mv2])), (r1, .inl (T 0, 12, .inl sd2)), (r2, .inl (T 0, 12, .inl vs2)), (r3, .inl (T 0, 2, .inl so2))]) F hW 0 rfl rfl rfl dX3_copyFrom_59 (fun H locs hW => ?_)
  refine lv_aload_n hx hb dX3_copyFrom_62 rfl (lv_at hl 0 rfl) ?_
  refine lv_aload_n hx hb dX3_copyFrom_63 rfl (lv_at hl 1 rfl) ?_
  refine gf50 F hW 4 rfl rfl dX3_copyFrom_64 ?_
  refine pf50 (ws' := [(q0, .inr (3, [.ref q1, .ref q2, .ref q3, .int pl2, .int ov2, .int mv])), (q1, .inl (T 0, 12, .inl sd2)), (q2, .inl (T 0, 12, .inl vs2)), (q3, .inl (T 0, 2, .inl (upd (upd so 0 (so2 0)) 1 (so2 1)))), (r0, .inr (3, [.ref r1, .ref r2, .ref r3, .int pl2, .int ov2, .int mv2])), (r1, .inl (T 0, 12, .inl sd2)), (r2, .inl (T 0, 12, .inl vs2)), (r3, .inl (T 0, 2, .inl so2))]) F hW 0 rfl hz.1 hz.2.1 rfl rfl dX3_copyFrom_67 (fun H locs hW => ?_)
  refine lv_aload_n hx hb dX3_copyFrom_70 rfl (lv_at hl 0 rfl) ?_
  refine lv_aload_n hx hb dX3_copyFrom_71 rfl (lv_at hl 1 rfl) ?_
  refine gf52 F hW 4 rfl rfl dX3_copyFrom_72 ?_
  refine pf52 (ws' := [(q0, .inr (3, [.ref q1, .ref q2, .ref q3, .int pl2, .int ov2, .int mv2])), (q1, .inl (T 0, 12, .inl sd2)), (q2, .inl (T 0, 12, .inl vs2)), (q3, .inl (T 0, 2, .inl (upd (upd so 0 (so2 0)) 1 (so2 1)))), (r0, .inr (3, [.ref r1, .ref r2, .ref r3, .int pl2, .int ov2, .int mv2])), (r1, .inl (T 0, 12, .inl sd2)), (r2, .inl (T 0, 12, .inl vs2)), (r3, .inl (T 0, 2, .inl so2))]) F hW 0 rfl rfl rfl dX3_copyFrom_75 (fun H locs hW => ?_)
  have hW := Wd.arr hW 3 so2 rfl (fun j hj => by rcases (show j = 0 ∨ j = 1 by omega) with rfl | rfl <;> rfl) (ws' := [(q0, .inr (3, [.ref q1, .ref q2, .ref q3, .int pl2, .int ov2, .int mv2])), (q1, .inl (T 0, 12, .inl sd2)), (q2, .inl (T 0, 12, .inl vs2)), (q3, .inl (T 0, 2, .inl so2)), (r0, .inr (3, [.ref r1, .ref r2, .ref r3, .int pl2, .int ov2, .int mv2])), (r1, .inl (T 0, 12, .inl sd2)), (r2, .inl (T 0, 12, .inl vs2)), (r3, .inl (T 0, 2, .inl so2))]) rfl
  exact retV F hr hlk hW () trivial rfl dX3_copyFrom_78
set_option maxHeartbeats 4000000 in
set_option maxRecDepth 100000 in
theorem c_stCopy (l : Launch) (D : va_G) (T : Nat → ClassId) (a b : Nat → Nat) (f g : Nat → Int32) (hbo : g 27 = 0 ∨ g 27 = 1) : KV (S := Unit) l D T yX5_copyFrom cX5_copyFrom 2 2 [.ref (a 0), .ref (b 0)] ((blk T a f) ++ ((blk T b g))) (fun _ => True) (fun u => ((blk T a g) ++ ((blk T b g)))) := by
  refine KV.of (by decide +kernel) (Nat.le_of_ble_eq_true rfl) (fun p e s m below meth c A F hr hlk hW ls hl => ?_)
  have hx := F.1
  have hb := F.2.1
  have hl : lv_has ls 2 [(0, .ref (a 0)), (1, .ref (b 0))] := hl
  refine lv_aload_n hx hb dX5_copyFrom_0 rfl (lv_at hl 0 rfl) ?_
  refine gf109 F hW 0 rfl rfl dX5_copyFrom_1 ?_
  refine lv_aload_n hx hb dX5_copyFrom_4 rfl (lv_at hl 1 rfl) ?_
  refine gf109 F hW 8 rfl rfl dX5_copyFrom_5 ?_
  refine cVV (As := [.ref (b 1)]) (rest := []) (wr := [(a 0, .inr (5, [.ref (a 1), .ref (a 5), .ref (a 6), .ref (a 7)])), (a 5, .inl (T 0, 4, .inl (fun j => f (34 + j)))), (a 6, .inr (4, [.int (f 29), .int (f 30), .int (f 31), .int (f 32), .int (f 33)])), (a 7, .inl (T 0, 300, .inl (fun j => f (40 + j)))), (b 0, .inr (5, [.ref (b 1), .ref (b 5), .ref (b 6), .ref (b 7)])), (b 5, .inl (T 0, 4, .inl (fun j => g (34 + j)))), (b 6, .inr (4, [.int (g 29), .int (g 30), .int (g 31), .int (g 32), .int (g 33)])), (b 7, .inl (T 0, 300, .inl (fun j => g (40 + j))))]) F hW hl cs294 (c_posCopy l D T (a 1) (a 2) (a 3) (a 4) (b 1) (b 2) (b 3) (b 4) (f 26) (f 27) (f 28) (g 26) (g 27) (g 28) (fun j => f j) (fun j => f (12 + j)) (fun j => f (24 + j)) (fun j => g j) (fun j => g (12 + j)) (fun j => g (24 + j)) hbo) [1, 2, 3, 4, 9, 10, 11, 12] [0, 5, 6, 7, 8, 13, 14, 15] rfl rfl rfl rfl (by decide) 0 3 rfl rfl rfl rfl rfl (Nat.le_of_ble_eq_true rfl) ⟨Nat.le_of_ble_eq_true rfl, Nat.le_of_ble_eq_true rfl⟩ ⟨Nat.zero_le _, Nat.zero_le _⟩ dX5_copyFrom_8 (fun u8 H locs hr8 hW => ?_)
  have hW := Wd.ord hW (ws' := ([(a 0, .inr (5, [.ref (a 1), .ref (a 5), .ref (a 6), .ref (a 7)])), (a 1, .inr (3, [.ref (a 2), .ref (a 3), .ref (a 4), .int (g 26), .int (g 27), .int (g 28)])), (a 2, .inl (T 0, 12, .inl (fun j => g j))), (a 3, .inl (T 0, 12, .inl (fun j => g (12 + j)))), (a 4, .inl (T 0, 2, .inl (fun j => g (24 + j)))), (a 5, .inl (T 0, 4, .inl (fun j => f (34 + j)))), (a 6, .inr (4, [.int (f 29), .int (f 30), .int (f 31), .int (f 32), .int (f 33)])), (a 7, .inl (T 0, 300, .inl (fun j => f (40 + j))))] ++ ((blk T b g)))) [0, 8, 9, 10, 11, 1, 2, 3, 4, 12, 13, 14, 15, 5, 6, 7] rfl rfl
  refine lv_aload_n hx hb dX5_copyFrom_11 rfl (lv_at hl 1 rfl) ?_
  refine gf111 F hW 8 rfl rfl dX5_copyFrom_12 ?_
  refine lv_iconst (v := nI 0) hx hb dX5_copyFrom_15 (by decide) ?_
  refine lv_aload_n hx hb dX5_copyFrom_16 rfl (lv_at hl 0 rfl) ?_
  refine gf111 F hW 0 rfl rfl dX5_copyFrom_17 ?_
  refine lv_iconst (v := nI 0) hx hb dX5_copyFrom_20 (by decide) ?_
  refine lv_iconst (v := nI 4) hx hb dX5_copyFrom_21 (by decide) ?_
  refine acopy (ws' := ([(a 0, .inr (5, [.ref (a 1), .ref (a 5), .ref (a 6), .ref (a 7)])), (a 1, .inr (3, [.ref (a 2), .ref (a 3), .ref (a 4), .int (g 26), .int (g 27), .int (g 28)])), (a 2, .inl (T 0, 12, .inl (fun j => g j))), (a 3, .inl (T 0, 12, .inl (fun j => g (12 + j)))), (a 4, .inl (T 0, 2, .inl (fun j => g (24 + j)))), (a 5, .inl (T 0, 4, .inl (fun j => g (34 + j)))), (a 6, .inr (4, [.int (f 29), .int (f 30), .int (f 31), .int (f 32), .int (f 33)])), (a 7, .inl (T 0, 300, .inl (fun j => f (40 + j))))] ++ ((blk T b g)))) F hW hl 13 5 rfl rfl m301 4 (by decide) (by decide) (by decide) (fun j => g (34 + j)) (fun j hj => by rw [va_cpy, if_pos ⟨Nat.zero_le j, by omega⟩, Nat.sub_zero, Nat.zero_add]) rfl (Nat.le_of_ble_eq_true rfl) (Nat.le_of_ble_eq_true rfl) dX5_copyFrom_22 (fun H locs hW => ?_)
  refine lv_aload_n hx hb dX5_copyFrom_25 rfl (lv_at hl 0 rfl) ?_
  refine gf113 F hW 0 rfl rfl dX5_copyFrom_26 ?_
  refine lv_aload_n hx hb dX5_copyFrom_29 rfl (lv_at hl 1 rfl) ?_
  refine gf113 F hW 8 rfl rfl dX5_copyFrom_30 ?_
  refine cVV (As := [.ref (b 6)]) (rest := []) (wr := [(a 0, .inr (5, [.ref (a 1), .ref (a 5), .ref (a 6), .ref (a 7)])), (a 1, .inr (3, [.ref (a 2), .ref (a 3), .ref (a 4), .int (g 26), .int (g 27), .int (g 28)])), (a 2, .inl (T 0, 12, .inl (fun j => g j))), (a 3, .inl (T 0, 12, .inl (fun j => g (12 + j)))), (a 4, .inl (T 0, 2, .inl (fun j => g (24 + j)))), (a 5, .inl (T 0, 4, .inl (fun j => g (34 + j)))), (a 7, .inl (T 0, 300, .inl (fun j => f (40 + j)))), (b 0, .inr (5, [.ref (b 1), .ref (b 5), .ref (b 6), .ref (b 7)])), (b 1, .inr (3, [.ref (b 2), .ref (b 3), .ref (b 4), .int (g 26), .int (g 27), .int (g 28)])), (b 2, .inl (T 0, 12, .inl (fun j => g j))), (b 3, .inl (T 0, 12, .inl (fun j => g (12 + j)))), (b 4, .inl (T 0, 2, .inl (fun j => g (24 + j)))), (b 5, .inl (T 0, 4, .inl (fun j => g (34 + j)))), (b 7, .inl (T 0, 300, .inl (fun j => g (40 + j))))]) F hW hl cs302 (c_repCopy l D T (a 6) (b 6) (f 29) (f 30) (f 31) (f 32) (f 33) (g 29) (g 30) (g 31) (g 32) (g 33)) [6, 14] [0, 1, 2, 3, 4, 5, 7, 8, 9, 10, 11, 12, 13, 15] rfl rfl rfl rfl (by decide) 0 4 rfl rfl rfl rfl rfl (Nat.le_of_ble_eq_true rfl) ⟨Nat.le_of_ble_eq_true rfl, Nat.le_of_ble_eq_true rfl⟩ ⟨Nat.zero_le _, Nat.zero_le _⟩ dX5_copyFrom_33 (fun u33 H locs hr33 hW => ?_)
  have hW := Wd.ord hW (ws' := [(a 0, .inr (5, [.ref (a 1), .ref (a 5), .ref (a 6), .ref (a 7)])), (a 1, .inr (3, [.ref (a 2), .ref (a 3), .ref (a 4), .int (g 26), .int (g 27), .int (g 28)])), (a 2, .inl (T 0, 12, .inl (fun j => g j))), (a 3, .inl (T 0, 12, .inl (fun j => g (12 + j)))), (a 4, .inl (T 0, 2, .inl (fun j => g (24 + j)))), (a 5, .inl (T 0, 4, .inl (fun j => g (34 + j)))), (a 6, .inr (4, [.int (g 29), .int (g 30), .int (g 31), .int (g 32), .int (g 33)])), (a 7, .inl (T 0, 300, .inl (fun j => f (40 + j)))), (b 0, .inr (5, [.ref (b 1), .ref (b 5), .ref (b 6), .ref (b 7)])), (b 1, .inr (3, [.ref (b 2), .ref (b 3), .ref (b 4), .int (g 26), .int (g 27), .int (g 28)])), (b 2, .inl (T 0, 12, .inl (fun j => g j))), (b 3, .inl (T 0, 12, .inl (fun j => g (12 + j)))), (b 4, .inl (T 0, 2, .inl (fun j => g (24 + j)))), (b 5, .inl (T 0, 4, .inl (fun j => g (34 + j)))), (b 6, .inr (4, [.int (g 29), .int (g 30), .int (g 31), .int (g 32), .int (g 33)])), (b 7, .inl (T 0, 300, .inl (fun j => g (40 + j))))]) [0, 1, 2, 3, 4, 5, 14, 6, 7, 8, 9, 10, 11, 12, 15, 13] rfl rfl
  refine lv_aload_n hx hb dX5_copyFrom_36 rfl (lv_at hl 1 rfl) ?_
  refine gf115 F hW 8 rfl rfl dX5_copyFrom_37 ?_
  refine lv_iconst (v := nI 0) hx hb dX5_copyFrom_40 (by decide) ?_
  refine lv_aload_n hx hb dX5_copyFrom_41 rfl (lv_at hl 0 rfl) ?_
  refine gf115 F hW 0 rfl rfl dX5_copyFrom_42 ?_
  refine lv_iconst (v := nI 0) hx hb dX5_copyFrom_45 (by decide) ?_
  refine lv_sipush (v := nI 300) hx hb dX5_copyFrom_46 (by decide) ?_
  refine acopy (ws' := [(a 0, .inr (5, [.ref (a 1), .ref (a 5), .ref (a 6), .ref (a 7)])), (a 1, .inr (3, [.ref (a 2), .ref (a 3), .ref (a 4), .int (g 26), .int (g 27), .int (g 28)])), (a 2, .inl (T 0, 12, .inl (fun j => g j))), (a 3, .inl (T 0, 12, .inl (fun j => g (12 + j)))), (a 4, .inl (T 0, 2, .inl (fun j => g (24 + j)))), (a 5, .inl (T 0, 4, .inl (fun j => g (34 + j)))), (a 6, .inr (4, [.int (g 29), .int (g 30), .int (g 31), .int (g 32), .int (g 33)])), (a 7, .inl (T 0, 300, .inl (fun j => g (40 + j)))), (b 0, .inr (5, [.ref (b 1), .ref (b 5), .ref (b 6), .ref (b 7)])), (b 1, .inr (3, [.ref (b 2), .ref (b 3), .ref (b 4), .int (g 26), .int (g 27), .int (g 28)])), (b 2, .inl (T 0, 12, .inl (fun j => g j))), (b 3, .inl (T 0, 12, .inl (fun j => g (12 + j)))), (b 4, .inl (T 0, 2, .inl (fun j => g (24 + j)))), (b 5, .inl (T 0, 4, .inl (fun j => g (34 + j)))), (b 6, .inr (4, [.int (g 29), .int (g 30), .int (g 31), .int (g 32), .int (g 33)])), (b 7, .inl (T 0, 300, .inl (fun j => g (40 + j))))]) F hW hl 15 7 rfl rfl m301 300 (by decide) (by decide) (by decide) (fun j => g (40 + j)) (fun j hj => by rw [va_cpy, if_pos ⟨Nat.zero_le j, by omega⟩, Nat.sub_zero, Nat.zero_add]) rfl (Nat.le_of_ble_eq_true rfl) (Nat.le_of_ble_eq_true rfl) dX5_copyFrom_49 (fun H locs hW => ?_)
  exact retV F hr hlk hW () trivial rfl dX5_copyFrom_52
/-- a State behind a move from fr -/
def mkS (f : Nat → Int32) (fr : Nat) : Nat → Int32 := fun j => if j < 34 then mvM f fr j else if j = 40 + (f 28).toNatClampNeg then nI fr else f j
theorem mkS_lo (f : Nat → Int32) (fr : Nat) {j : Nat} (h : j < 34) : mvM f fr j = mkS f fr j := (if_pos h).symm
set_option maxHeartbeats 4000000 in
set_option maxRecDepth 100000 in
theorem c_stMove (l : Launch) (D : va_G) (T : Nat → ClassId) (a : Nat → Nat) (f : Nat → Int32) {pl : Nat} (hpl : pl < 2) {fr : Nat} (hfr : fr < 12) {S : Int} (hJ : Jv S f 0) (h36 : 0 ≤ (f 36).toInt ∧ (f 36).toInt ≤ 20) (ht : 0 ≤ (f 37).toInt) (h0 : 1 ≤ (f fr).toInt) (h26 : f 26 = nI pl) (h27 : f 27 = 0) {mk : Nat} (h28 : f 28 = nI mk) (hmk : mk < 300) : KV (S := Unit) l D T yX5_makeMove cX5_makeMove 3 4 [.ref (a 0), .int (nI fr)] (blk T a f) (fun _ => True) (fun u => (blk T a (mkS f fr))) := by
  refine KV.of (by decide +kernel) (Nat.le_of_ble_eq_true rfl) (fun p e s m below meth c A F hr hlk hW ls hl => ?_)
  have hx := F.1
  have hb := F.2.1
  have hl : lv_has ls 3 [(0, .ref (a 0)), (1, .int (nI fr))] := hl
  have hW : Wd D T A s [(a 0, .inr (5, [.ref (a 1), .ref (a 5), .ref (a 6), .ref (a 7)])), (a 1, .inr (3, [.ref (a 2), .ref (a 3), .ref (a 4), .int (nI pl), .int (f 27), .int (f 28)])), (a 2, .inl (T 0, 12, .inl (fun j => f j))), (a 3, .inl (T 0, 12, .inl (fun j => f (12 + j)))), (a 4, .inl (T 0, 2, .inl (fun j => f (24 + j)))), (a 5, .inl (T 0, 4, .inl (fun j => f (34 + j)))), (a 6, .inr (4, [.int (f 29), .int (f 30), .int (f 31), .int (f 32), .int (f 33)])), (a 7, .inl (T 0, 300, .inl (fun j => f (40 + j))))] s.heap [] := by rw [← h26]; exact hW
  have em : (f 28).toNatClampNeg = mk := by rw [h28]; exact nI_clamp (by omega)
  refine lv_aload_n hx hb dX5_makeMove_0 rfl (lv_at hl 0 rfl) ?_
  refine gf109 F hW 0 rfl rfl dX5_makeMove_1 ?_
  refine gf53 F hW 1 rfl rfl dX5_makeMove_4 ?_
  refine lv_istore_n (lv' := [(2, .int (f 28)), (0, .ref (a 0)), (1, .int (nI fr))]) hx hb dX5_makeMove_7 rfl hl (by decide) rfl (fun ls hl => ?_)
  refine lv_iload_n hx hb dX5_makeMove_8 rfl (lv_at hl 0 rfl) ?_
  refine lv_sipush (v := nI 300) hx hb dX5_makeMove_9 (by decide) ?_
  refine lv_icmp_ge (tgt := 22) hx hb dX5_makeMove_12 (by decide) (fun h9 => absurd h9 (by rw [h28]; exact nI_ge hmk (by decide))) (fun _ => ?_)
  refine lv_aload_n hx hb dX5_makeMove_15 rfl (lv_at hl 1 rfl) ?_
  refine gf115 F hW 0 rfl rfl dX5_makeMove_16 ?_
  refine lv_iload_n hx hb dX5_makeMove_19 rfl (lv_at hl 0 rfl) ?_
  refine lv_iload_n hx hb dX5_makeMove_20 rfl (lv_at hl 2 rfl) ?_
  refine ast (ws' := [(a 0, .inr (5, [.ref (a 1), .ref (a 5), .ref (a 6), .ref (a 7)])), (a 1, .inr (3, [.ref (a 2), .ref (a 3), .ref (a 4), .int (nI pl), .int (f 27), .int (f 28)])), (a 2, .inl (T 0, 12, .inl (fun j => f j))), (a 3, .inl (T 0, 12, .inl (fun j => f (12 + j)))), (a 4, .inl (T 0, 2, .inl (fun j => f (24 + j)))), (a 5, .inl (T 0, 4, .inl (fun j => f (34 + j)))), (a 6, .inr (4, [.int (f 29), .int (f 30), .int (f 31), .int (f 32), .int (f 33)])), (a 7, .inl (T 0, 300, .inl (fun j => (mkS f fr) (40 + j))))]) F hW 7 (fun j => (mkS f fr) (40 + j)) rfl mk h28 hmk (by decide) (fun j hj => by unfold mkS; rw [if_neg (by omega), em]; by_cases q : j = mk; (rw [q, u_s, if_pos rfl]); (rw [u_n q, if_neg (by omega)])) rfl dX5_makeMove_21 (fun H locs hW => ?_)
  refine lv_aload_n hx hb dX5_makeMove_22 rfl (lv_at hl 1 rfl) ?_
  refine gf109 F hW 0 rfl rfl dX5_makeMove_23 ?_
  refine lv_iload_n hx hb dX5_makeMove_26 rfl (lv_at hl 2 rfl) ?_
  refine lv_aload_n hx hb dX5_makeMove_27 rfl (lv_at hl 1 rfl) ?_
  refine gf111 F hW 0 rfl rfl dX5_makeMove_28 ?_
  refine lv_aload_n hx hb dX5_makeMove_31 rfl (lv_at hl 1 rfl) ?_
  refine gf113 F hW 0 rfl rfl dX5_makeMove_32 ?_
  refine cVV (As := [.int (nI fr), .ref (a 5), .ref (a 6)]) (rest := []) (wr := [(a 0, .inr (5, [.ref (a 1), .ref (a 5), .ref (a 6), .ref (a 7)])), (a 7, .inl (T 0, 300, .inl (fun j => (mkS f fr) (40 + j))))]) F hW hl cs388 (c_makeMove l D T (a 1) (a 2) (a 3) (a 4) (a 5) (a 6) (pl := pl) hpl (f 27) (f 28) (fun j => f j) (fun j => f (12 + j)) (fun j => f (24 + j)) (fun j => f (34 + j)) (f 29) (f 30) (f 31) (f 32) (f 33) f ⟨fun _ _ => rfl, fun _ _ => rfl, fun _ _ => rfl⟩ rfl rfl (fun _ _ => rfl) (fr := fr) hfr hJ h36 ht h0 h26 h27 h28 hmk) [1, 2, 3, 4, 5, 6] [0, 7] rfl rfl rfl rfl (by decide) 0 3 rfl rfl rfl rfl rfl (Nat.le_of_ble_eq_true rfl) ⟨Nat.le_of_ble_eq_true rfl, Nat.le_of_ble_eq_true rfl⟩ ⟨Nat.zero_le _, Nat.zero_le _⟩ dX5_makeMove_35 (fun u35 H locs hr35 hW => ?_)
  have hW := Wd.ord hW (ws' := [(a 0, .inr (5, [.ref (a 1), .ref (a 5), .ref (a 6), .ref (a 7)])), (a 1, .inr (3, [.ref (a 2), .ref (a 3), .ref (a 4), .int ((mvM f fr) 26), .int ((mvM f fr) 27), .int ((mvM f fr) 28)])), (a 2, .inl (T 0, 12, .inl (fun j => (mvM f fr) j))), (a 3, .inl (T 0, 12, .inl (fun j => (mvM f fr) (12 + j)))), (a 4, .inl (T 0, 2, .inl (fun j => (mvM f fr) (24 + j)))), (a 5, .inl (T 0, 4, .inl (fun j => f (34 + j)))), (a 6, .inr (4, [.int ((mvM f fr) 29), .int ((mvM f fr) 30), .int ((mvM f fr) 31), .int ((mvM f fr) 32), .int ((mvM f fr) 33)])), (a 7, .inl (T 0, 300, .inl (fun j => (mkS f fr) (40 + j))))]) [0, 2, 3, 4, 5, 6, 7, 1] rfl rfl
  have hW := Wd.arr hW 2 (fun j => (mkS f fr) j) rfl (fun j hj => mkS_lo f fr (by omega)) (ws' := [(a 0, .inr (5, [.ref (a 1), .ref (a 5), .ref (a 6), .ref (a 7)])), (a 1, .inr (3, [.ref (a 2), .ref (a 3), .ref (a 4), .int ((mvM f fr) 26), .int ((mvM f fr) 27), .int ((mvM f fr) 28)])), (a 2, .inl (T 0, 12, .inl (fun j => (mkS f fr) j))), (a 3, .inl (T 0, 12, .inl (fun j => (mvM f fr) (12 + j)))), (a 4, .inl (T 0, 2, .inl (fun j => (mvM f fr) (24 + j)))), (a 5, .inl (T 0, 4, .inl (fun j => f (34 + j)))), (a 6, .inr (4, [.int ((mvM f fr) 29), .int ((mvM f fr) 30), .int ((mvM f fr) 31), .int ((mvM f fr) 32), .int ((mvM f fr) 33)])), (a 7, .inl (T 0, 300, .inl (fun j => (mkS f fr) (40 + j))))]) rfl
  have hW := Wd.arr hW 3 (fun j => (mkS f fr) (12 + j)) rfl (fun j hj => mkS_lo f fr (by omega)) (ws' := [(a 0, .inr (5, [.ref (a 1), .ref (a 5), .ref (a 6), .ref (a 7)])), (a 1, .inr (3, [.ref (a 2), .ref (a 3), .ref (a 4), .int ((mvM f fr) 26), .int ((mvM f fr) 27), .int ((mvM f fr) 28)])), (a 2, .inl (T 0, 12, .inl (fun j => (mkS f fr) j))), (a 3, .inl (T 0, 12, .inl (fun j => (mkS f fr) (12 + j)))), (a 4, .inl (T 0, 2, .inl (fun j => (mvM f fr) (24 + j)))), (a 5, .inl (T 0, 4, .inl (fun j => f (34 + j)))), (a 6, .inr (4, [.int ((mvM f fr) 29), .int ((mvM f fr) 30), .int ((mvM f fr) 31), .int ((mvM f fr) 32), .int ((mvM f fr) 33)])), (a 7, .inl (T 0, 300, .inl (fun j => (mkS f fr) (40 + j))))]) rfl
  have hW := Wd.arr hW 4 (fun j => (mkS f fr) (24 + j)) rfl (fun j hj => mkS_lo f fr (by omega)) (ws' := [(a 0, .inr (5, [.ref (a 1), .ref (a 5), .ref (a 6), .ref (a 7)])), (a 1, .inr (3, [.ref (a 2), .ref (a 3), .ref (a 4), .int ((mvM f fr) 26), .int ((mvM f fr) 27), .int ((mvM f fr) 28)])), (a 2, .inl (T 0, 12, .inl (fun j => (mkS f fr) j))), (a 3, .inl (T 0, 12, .inl (fun j => (mkS f fr) (12 + j)))), (a 4, .inl (T 0, 2, .inl (fun j => (mkS f fr) (24 + j)))), (a 5, .inl (T 0, 4, .inl (fun j => f (34 + j)))), (a 6, .inr (4, [.int ((mvM f fr) 29), .int ((mvM f fr) 30), .int ((mvM f fr) 31), .int ((mvM f fr) 32), .int ((mvM f fr) 33)])), (a 7, .inl (T 0, 300, .inl (fun j => (mkS f fr) (40 + j))))]) rfl
  have hW := Wd.arr hW 5 (fun j => (mkS f fr) (34 + j)) rfl (fun j hj => by unfold mkS; rw [if_neg (by omega), if_neg (by omega)]) (ws' := [(a 0, .inr (5, [.ref (a 1), .ref (a 5), .ref (a 6), .ref (a 7)])), (a 1, .inr (3, [.ref (a 2), .ref (a 3), .ref (a 4), .int ((mvM f fr) 26), .int ((mvM f fr) 27), .int ((mvM f fr) 28)])), (a 2, .inl (T 0, 12, .inl (fun j => (mkS f fr) j))), (a 3, .inl (T 0, 12, .inl (fun j => (mkS f fr) (12 + j)))), (a 4, .inl (T 0, 2, .inl (fun j => (mkS f fr) (24 + j)))), (a 5, .inl (T 0, 4, .inl (fun j => (mkS f fr) (34 + j)))), (a 6, .inr (4, [.int ((mvM f fr) 29), .int ((mvM f fr) 30), .int ((mvM f fr) 31), .int ((mvM f fr) 32), .int ((mvM f fr) 33)])), (a 7, .inl (T 0, 300, .inl (fun j => (mkS f fr) (40 + j))))]) rfl
  rw [mkS_lo f fr (show 26 < 34 by decide), mkS_lo f fr (show 27 < 34 by decide), mkS_lo f fr (show 28 < 34 by decide), mkS_lo f fr (show 29 < 34 by decide), mkS_lo f fr (show 30 < 34 by decide), mkS_lo f fr (show 31 < 34 by decide), mkS_lo f fr (show 32 < 34 by decide), mkS_lo f fr (show 33 < 34 by decide)] at hW
  exact retV F hr hlk hW () trivial rfl dX5_makeMove_38
