-- Math.max
section VMAX
variable {p : Program} {l : Launch} {e : Env} {R : Room} {s : State} {m : MethodId} {args : Array Value} {below : List Frame} {meth : Method} {c : Code} {H : Heap} {locs : List Loc} {cells slots : Nat} {Q : State → Prop} {cc : ByteArray} {nL : Nat} {own : String} {pc : Nat} {ls : Array Slot} {rest : List Value} {lv : List (Nat × Value)}
theorem vmax (F : CallFix p m c cc nL s args gtbl own) (hl : lv_has ls nL lv) {idx : Nat} (hlink : Cond.methodLink own idx ⟨"java/lang/Math", "max", "(II)I"⟩ ∈ gtbl) (hframes : 1 ≤ R.frames) (hlocals : (rest.map fun v => v.category).sum + 13 ≤ R.locals) (hcs : cells ≤ R.cells ∧ slots ≤ R.slots) {x y z : Int32} (hz : (if x < y then y else x) = z) (hdg : decode cc pc = .ok (.invokestatic idx, 3))
    (kk : W p l e R s m args below meth c H locs cells slots Q (F0 m (pc + 3) ls (.int z :: rest))) : W p l e R s m args below meth c H locs cells slots Q (F0 m pc ls (.int y :: .int x :: rest)) := by
  subst hz
  exact va_mmax F.1 F.2.1 (by rw [F.2.2.1]; exact hl.1.symm) F.2.2.2.1 (F.2.2.2.2 _ hlink) (F.2.2.2.2 _ m302) (F.2.2.2.2 _ m34) (F.2.2.2.2 _ m303) hframes hlocals hcs.1 hcs.2 hdg kk
end VMAX
theorem max_0 {x : Int32} (h : 0 ≤ x.toInt) : (if nI 0 < x then x else nI 0) = x := by
  have e0 : (nI 0).toInt = 0 := nI_toInt (by decide)
  by_cases q : nI 0 < x
  · rw [if_pos q]
  · rw [if_neg q, i_eq, e0]
    have h2 : ¬ (nI 0).toInt < x.toInt := fun z => q ((i_lt _ _).mpr z)
    rw [e0] at h2
    omega
