-- joins and loops; ints told by their whole numbers
section FLOW
variable {p : Program} {l : Launch} {e : Env} {R : Room} {s : State} {m : MethodId} {args : Array Value} {below : List Frame} {meth : Method} {c : Code} {H : Heap} {locs : List Loc} {cells slots : Nat} {Q : State → Prop} {cc : ByteArray} {pc : Nat} {ls : Array Slot} {rest st : List Value}
/-- two ways that meet: what holds where they meet, then the way on from there -/
theorem W.fork {X : Type} (pc2 : Nat) (st2 : X → List Value) (φ : X → Heap → List Loc → Array Slot → Prop) {g : JFrame}
    (h1 : (∀ (x : X) (H2 : Heap) (locs2 : List Loc) (ls2 : Array Slot), φ x H2 locs2 ls2 → W p l e R s m args below meth c H2 locs2 cells slots Q (F0 m pc2 ls2 (st2 x))) → W p l e R s m args below meth c H locs cells slots Q g)
    (h2 : ∀ (x : X) (H2 : Heap) (locs2 : List Loc) (ls2 : Array Slot), φ x H2 locs2 ls2 → W p l e R s m args below meth c H2 locs2 cells slots Q (F0 m pc2 ls2 (st2 x))) : W p l e R s m args below meth c H locs cells slots Q g := h1 h2
/-- a loop: what holds at its head, with a measure that falls -/
theorem W.loop (φ : Nat → Heap → List Loc → Array Slot → Prop)
    (step : ∀ (n : Nat) (H2 : Heap) (locs2 : List Loc) (ls2 : Array Slot), φ n H2 locs2 ls2 → (∀ (n3 : Nat) (H3 : Heap) (locs3 : List Loc) (ls3 : Array Slot), n3 < n → φ n3 H3 locs3 ls3 → W p l e R s m args below meth c H3 locs3 cells slots Q (F0 m pc ls3 st)) → W p l e R s m args below meth c H2 locs2 cells slots Q (F0 m pc ls2 st))
    (n : Nat) (h : φ n H locs ls) : W p l e R s m args below meth c H locs cells slots Q (F0 m pc ls st) := by
  have key : ∀ (k n : Nat) (H2 : Heap) (locs2 : List Loc) (ls2 : Array Slot), n < k → φ n H2 locs2 ls2 → W p l e R s m args below meth c H2 locs2 cells slots Q (F0 m pc ls2 st) := by
    intro k
    induction k with
    | zero => exact fun n _ _ _ h => absurd h (Nat.not_lt_zero n)
    | succ k ih => exact fun n H2 locs2 ls2 hn hp => step n H2 locs2 ls2 hp (fun n3 H3 locs3 ls3 h3 hp3 => ih n3 H3 locs3 ls3 (by omega) hp3)
  exact key (n + 1) n H locs ls (Nat.lt_succ_self n) h
theorem iremE (hexec : p.tables.exec = Jvm.exec) (hb : c.code = cc) {x y z : Int32} (hdg : decode cc pc = .ok (.irem, 1)) (hz : ¬ y = 0 ∧ x - x / y * y = z) (kk : W p l e R s m args below meth c H locs cells slots Q (F0 m (pc + 1) ls (.int z :: rest))) : W p l e R s m args below meth c H locs cells slots Q (F0 m pc ls (.int y :: .int x :: rest)) := by
  obtain ⟨h0, hz⟩ := hz
  subst hz; exact lv_irem hexec hb hdg h0 kk
theorem idivE (hexec : p.tables.exec = Jvm.exec) (hb : c.code = cc) {x y z : Int32} (hdg : decode cc pc = .ok (.idiv, 1)) (hz : ¬ y = 0 ∧ x / y = z) (kk : W p l e R s m args below meth c H locs cells slots Q (F0 m (pc + 1) ls (.int z :: rest))) : W p l e R s m args below meth c H locs cells slots Q (F0 m pc ls (.int y :: .int x :: rest)) := by
  obtain ⟨h0, hz⟩ := hz
  subst hz; exact lv_idiv hexec hb hdg h0 kk
end FLOW
theorem i_lt (a b : Int32) : a < b ↔ a.toInt < b.toInt := Int32.lt_iff_toInt_lt
theorem i_le (a b : Int32) : a ≤ b ↔ a.toInt ≤ b.toInt := Int32.le_iff_toInt_le
theorem i_eq (a b : Int32) : a = b ↔ a.toInt = b.toInt := Int32.toInt_inj.symm
theorem i_rng (x : Int32) : -2147483648 ≤ x.toInt ∧ x.toInt < 2147483648 := by
  have h1 := Int32.le_toInt x
  have h2 := Int32.toInt_lt x
  omega
theorem i_bmod {z : Int} (h1 : -2147483648 ≤ z) (h2 : z < 2147483648) : z.bmod (2 ^ 32) = z := by
  rw [Int.bmod_eq_of_le (by omega) (by omega)]
theorem i_add {x y : Int32} (h1 : -2147483648 ≤ x.toInt + y.toInt) (h2 : x.toInt + y.toInt < 2147483648) : (x + y).toInt = x.toInt + y.toInt := by
  rw [Int32.toInt_add, i_bmod h1 h2]
theorem i_sub {x y : Int32} (h1 : -2147483648 ≤ x.toInt - y.toInt) (h2 : x.toInt - y.toInt < 2147483648) : (x - y).toInt = x.toInt - y.toInt := by
  rw [Int32.toInt_sub, i_bmod h1 h2]
theorem i_neg {x : Int32} (h : x.toInt ≠ -2147483648) : (-x).toInt = -x.toInt := by
  have := i_rng x
  rw [Int32.toInt_neg, i_bmod (by omega) (by omega)]
theorem i_0 : (0 : Int32).toInt = 0 := by decide
theorem i_1 : (1 : Int32).toInt = 1 := by decide
theorem i_nat (x : Int32) (h : 0 ≤ x.toInt) : (x.toNatClampNeg : Int) = x.toInt := by
  show ((x.toInt.toNat : Nat) : Int) = x.toInt
  omega
theorem i_natN (x : Int32) (h : 0 ≤ x.toInt) : x = nI x.toNatClampNeg ∧ x.toNatClampNeg < 2 ^ 31 := by
  have h1 := i_nat x h
  have h2 := i_rng x
  have h3 : x.toNatClampNeg < 2 ^ 31 := by omega
  refine ⟨?_, h3⟩
  rw [i_eq, nI_toInt h3, h1]
theorem z_bool {x : Int32} (h : x = 0 ∨ x = 1) : narrow .boolean (.int x) = .int x ∧ fits .boolean (.int x) = true ∧ vp_nar .boolean x = x := by
  rcases h with rfl | rfl <;> exact ⟨rfl, rfl, rfl⟩
theorem n_le {a b : Nat} (h : nI a ≤ nI b) (ha : a < 2 ^ 31) (hb : b < 2 ^ 31) : a ≤ b := (nI_leI ha hb).mp h
theorem n_nle {a b : Nat} (h : ¬ nI a ≤ nI b) (ha : a < 2 ^ 31) (hb : b < 2 ^ 31) : b < a := Nat.not_le.mp (fun q => h ((nI_leI ha hb).mpr q))
theorem n_lt {a b : Nat} (h : nI a < nI b) (ha : a < 2 ^ 31) (hb : b < 2 ^ 31) : a < b := (nI_ltI ha hb).mp h
theorem n_nlt {a b : Nat} (h : ¬ nI a < nI b) (ha : a < 2 ^ 31) (hb : b < 2 ^ 31) : b ≤ a := Nat.not_lt.mp (fun q => h ((nI_ltI ha hb).mpr q))
theorem n_eq {a b : Nat} (h : nI a = nI b) (ha : a < 2 ^ 31) (hb : b < 2 ^ 31) : a = b := (nI_eq ha hb).mp h
theorem n_ne {a b : Nat} (h : ¬ nI a = nI b) : a ≠ b := fun q => h (by rw [q])
