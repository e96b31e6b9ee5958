-- the reference: looking ahead
theorem W.rec {p : Program} {l : Launch} {e : Env} {R : Room} {s : State} {m : MethodId} {args : Array Value} {below : List Frame} {meth : Method} {c : Code} {cells slots : Nat} {Q : State → Prop} {pc : Nat} {st : List Value} {X : Type} (pc2 : Nat) (st2 : List Value) (pre post : Nat → X → Heap → List Loc → Array Slot → Prop)
    (step : ∀ (d : Nat) (x : X) (H2 : Heap) (locs2 : List Loc) (ls2 : Array Slot), pre d x H2 locs2 ls2 → (∀ (H3 : Heap) (locs3 : List Loc) (ls3 : Array Slot), post d x H3 locs3 ls3 → W p l e R s m args below meth c H3 locs3 cells slots Q (F0 m pc2 ls3 st2)) → (∀ (d3 : Nat) (x3 : X) (H3 : Heap) (locs3 : List Loc) (ls3 : Array Slot), d3 < d → pre d3 x3 H3 locs3 ls3 → (∀ (H4 : Heap) (locs4 : List Loc) (ls4 : Array Slot), post d3 x3 H4 locs4 ls4 → W p l e R s m args below meth c H4 locs4 cells slots Q (F0 m pc2 ls4 st2)) → W p l e R s m args below meth c H3 locs3 cells slots Q (F0 m pc ls3 st)) → W p l e R s m args below meth c H2 locs2 cells slots Q (F0 m pc ls2 st))
    (d : Nat) (x : X) {H : Heap} {locs : List Loc} {ls : Array Slot} (h : pre d x H locs ls) (hk : ∀ (H3 : Heap) (locs3 : List Loc) (ls3 : Array Slot), post d x H3 locs3 ls3 → W p l e R s m args below meth c H3 locs3 cells slots Q (F0 m pc2 ls3 st2)) : W p l e R s m args below meth c H locs cells slots Q (F0 m pc ls st) := by
  have key : ∀ (k d : Nat) (x : X) (H2 : Heap) (locs2 : List Loc) (ls2 : Array Slot), d < k → pre d x H2 locs2 ls2 → (∀ (H3 : Heap) (locs3 : List Loc) (ls3 : Array Slot), post d x H3 locs3 ls3 → W p l e R s m args below meth c H3 locs3 cells slots Q (F0 m pc2 ls3 st2)) → W p l e R s m args below meth c H2 locs2 cells slots Q (F0 m pc ls2 st) := by
    intro k
    induction k with
    | zero => exact fun d _ _ _ _ h => absurd h (Nat.not_lt_zero d)
    | succ k ih => exact fun d x H2 locs2 ls2 hd hp hk => step d x H2 locs2 ls2 hp hk (fun d3 x3 H3 locs3 ls3 h3 hp3 hk3 => ih d3 x3 H3 locs3 ls3 (by omega) hp3 hk3)
  exact key (d + 1) d x H locs ls (Nat.lt_succ_self d) h hk
theorem nI_down (n : Nat) : nI (n + 1) + Int32.ofInt (-1) = nI n := by
  rw [← nI_1, Int32.add_assoc, show (1 : Int32) + Int32.ofInt (-1) = 0 by decide, Int32.add_zero]
def putk (f : Nat → Int32) (A : Nat) (P : Nat → Int32) (k : Nat) : Nat → Int32 := fun j => if A ≤ j ∧ j < A + k then P (j - A) else f j
theorem putk_0 (f : Nat → Int32) (A : Nat) (P : Nat → Int32) (j : Nat) : f j = putk f A P 0 j := (if_neg (by omega)).symm
theorem putk_40 (f : Nat → Int32) (A : Nat) (P : Nat → Int32) (j : Nat) : putk f A P 40 j = put f A P j := rfl
theorem putk_s {f P : Nat → Int32} {A k : Nat} (j : Nat) : upd (putk f A P k) (A + k) (P k) j = putk f A P (k + 1) j := by
  unfold putk
  by_cases q : j = A + k
  · rw [q, u_s, if_pos (by omega), show A + k - A = k by omega]
  · rw [u_n q]
    by_cases q2 : A ≤ j ∧ j < A + k
    · rw [if_pos q2, if_pos (by omega)]
    · rw [if_neg q2, if_neg (by omega)]
theorem putk_n {f P : Nat → Int32} {A k j : Nat} (h : ¬ (A ≤ j ∧ j < A + k)) : putk f A P k j = f j := if_neg h
theorem put_n {f P : Nat → Int32} {A j : Nat} (h : ¬ (A ≤ j ∧ j < A + 40)) : put f A P j = f j := if_neg h
theorem put_id {f P : Nat → Int32} {A : Nat} (h : ∀ j, j < 40 → f (A + j) = P j) (j : Nat) : f j = put f A P j := by
  unfold put
  by_cases q : A ≤ j ∧ j < A + 40
  · rw [if_pos q, ← h (j - A) (by omega), show A + (j - A) = j by omega]
  · rw [if_neg q]
def bhM : Nat → (Nat → Int32) → Int32
  | 0, _ => -6
  | d + 1, P => if P 27 = 0 then houM (scanM P (vbM d P) 12) else -6
theorem scan_no {P v : Nat → Int32} {n : Nat} (h : ¬ legM P n) : scanM P v (n + 1) = scanM P v n := by
  rw [scanM]
  cases scanM P v n with
  | none => exact if_neg h
  | some q => exact if_neg (fun z => h z.1)
abbrev betM (q : Option (Nat × Int32)) (x : Int32) (m : Int32) : Prop := houM q = -6 ∨ m < x
theorem scan_b0 {P v : Nat → Int32} : ∀ n, ∀ q, scanM P v n = some q → q.1 < n
  | 0, q, h => by cases h
  | n + 1, q, h => by
    rw [scanM] at h
    cases hs : scanM P v n with
    | none =>
      rw [hs] at h
      dsimp only at h
      by_cases hl : legM P n
      · rw [if_pos hl] at h; cases h; exact Nat.lt_succ_self n
      · rw [if_neg hl] at h; cases h
    | some q2 =>
      rw [hs] at h
      dsimp only at h
      by_cases hl : legM P n ∧ q2.2 < v n
      · rw [if_pos hl] at h; cases h; exact Nat.lt_succ_self n
      · rw [if_neg hl] at h
        have e := Option.some.inj h
        have := scan_b0 n q2 hs
        rw [← e]; omega
theorem hou_some {q : Nat × Int32} (h : q.1 < 12) : ¬ houM (some q) = -6 := by
  obtain ⟨k, x⟩ := q
  show ¬ nI k = -6
  have : k < 12 := h
  intro z
  have := (i_eq _ _).mp z
  rw [nI_toInt (by omega), show (-6 : Int32).toInt = -6 by decide] at this
  omega
theorem bet_y {P v : Nat → Int32} {n : Nat} {m : Int32} (hn : n < 12) (hl : legM P n) (hm : ∀ q, scanM P v n = some q → m = q.2) (hb : betM (scanM P v n) (v n) m) : scanM P v (n + 1) = some (n, v n) := by
  rw [scanM]
  cases hs : scanM P v n with
  | none => exact if_pos hl
  | some q =>
    rw [hs] at hb
    have h1 : q.1 < 12 := by have := scan_b0 n q hs; omega
    refine if_pos ⟨hl, ?_⟩
    rw [← hm q hs]
    exact hb.resolve_left (hou_some h1)
theorem bet_n {P v : Nat → Int32} {n : Nat} {m : Int32} (hm : ∀ q, scanM P v n = some q → m = q.2) (hb : ¬ betM (scanM P v n) (v n) m) : scanM P v (n + 1) = scanM P v n := by
  rw [scanM]
  cases hs : scanM P v n with
  | none => rw [hs] at hb; exact absurd (Or.inl rfl) hb
  | some q =>
    refine if_neg (fun z => hb (Or.inr ?_))
    rw [hm q hs]
    exact z.2