-- what holds behind begin
theorem anew_lo (g : Nat → Int32) {j : Nat} (hj : j < 12) : anewM g j = g 34 := if_pos hj
theorem anew_s (g : Nat → Int32) {j : Nat} (h1 : 34 ≤ j) (h2 : j < 40) : anewM g j = g j := by
  unfold anewM empM
  rw [if_neg (by omega), if_pos ⟨h1, h2⟩]
theorem gok_anew {g : Nat → Int32} (h : GOK g) : GOK (anewM g) := by
  obtain ⟨⟨S, hI⟩, h34⟩ := h
  have h36 := hI.2.2.2.2.1
  have h37 := hI.2.2.2.2.2.1
  have h34b : 1 ≤ (g 34).toInt ∧ (g 34).toInt ≤ 9 := h34
  obtain ⟨r1, r2⟩ := h34b
  have hs : ∀ n : Nat, n ≤ 12 → si (anewM g) 0 n = n * (g 34).toInt := by
    intro n
    induction n with
    | zero => intro _; show (0 : Int) = ((0 : Nat) : Int) * _; omega
    | succ n ih =>
      intro hn
      rw [si, ih (by omega), Nat.zero_add, anew_lo g (by omega), Int.natCast_add, Int.add_mul]
      omega
  have z24 : anewM g 24 = 0 := rfl
  have z25 : anewM g 25 = 0 := rfl
  have z26 : anewM g 26 = nI 0 := rfl
  have z27 : anewM g 27 = 0 := rfl
  have z28 : anewM g 28 = nI 0 := rfl
  refine ⟨⟨12 * (g 34).toInt, ⟨fun j hj => by rw [anew_lo g hj]; omega, by rw [z24, i_0]; omega, by rw [z25, i_0]; omega, by omega, ?_, by omega⟩, ⟨0, by decide, z26⟩, Or.inl z27, ⟨0, z28, by decide, fun _ => by decide⟩, ?_, ?_, fun _ => ⟨0, by decide, z27, z26.symm, ?_⟩⟩, ?_⟩
  · rw [hs 12 (Nat.le_refl _), z24, z25, i_0]
    omega
  · rw [anew_s g (by decide) (by decide)]; exact h36
  · rw [anew_s g (by decide) (by decide)]; exact h37
  · rw [anew_lo g (by decide), i_lt, i_0]; omega
  · rw [anew_s g (by decide) (by decide)]; exact h34
theorem yok_begin {Y : YD} (h : YOK Y) : YOK (yBegin Y).2 := yok_recd h (gok_anew h.1)
