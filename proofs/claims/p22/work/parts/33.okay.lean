-- what holds of the reference's data holds behind its calls
theorem iv_cg {S : Int} {g g' : Nat → Int32} (h : Iv S g) (he : ∀ j, j < 38 → g' j = g j) : Iv S g' := by
  obtain ⟨hJ, h26, h27, h28, h36, h37, hl⟩ := h
  refine ⟨hJ.o (fun j hj => he j (by omega)) (he 24 (by decide)) (he 25 (by decide)), ?_, ?_, ?_, ?_, ?_, ?_⟩
  · rw [he 26 (by decide)]; exact h26
  · rw [he 27 (by decide)]; exact h27
  · rw [he 28 (by decide), he 27 (by decide)]; exact h28
  · rw [he 36 (by decide)]; exact h36
  · rw [he 37 (by decide)]; exact h37
  · intro hz
    rw [he 27 (by decide)] at hz
    obtain ⟨k, hk, l1, l2, l3⟩ := hl hz
    exact ⟨k, hk, (he 27 (by decide)).trans l1, l2.trans (he 26 (by decide)).symm, by rw [he k (by omega)]; exact l3⟩
theorem gok_cg {g g' : Nat → Int32} (h : GOK g) (he : ∀ j, j < 38 → g' j = g j) : GOK g' := by
  obtain ⟨⟨S, hI⟩, h34⟩ := h
  exact ⟨⟨S, iv_cg hI he⟩, by rw [he 34 (by decide)]; exact h34⟩
theorem yok_recd {Y : YD} {X : Nat → Int32} (h : YOK Y) (hX : GOK X) : YOK (X, (recd Y).2) := by
  obtain ⟨hg, hn, hp, hr, hs⟩ := h
  refine ⟨hX, ?_, hp, fun i hi => ?_, hs⟩
  · show recN Y.nh ≤ 6
    unfold recN
    split <;> omega
  · have hi : i < recN Y.nh := hi
    show GOK (fun j => recH Y.H Y.all Y.nh (340 * i + j))
    unfold recN at hi
    by_cases q : Y.nh = 6
    · rw [if_pos q] at hi
      by_cases q5 : i = 5
      · refine gok_cg hg (fun j hj => ?_)
        show recH Y.H Y.all Y.nh (340 * i + j) = Y.all j
        unfold recH
        rw [if_pos q, if_neg (by omega), q5, show 340 * 5 + j - 1700 = j by omega]
      · refine gok_cg (hr (i + 1) (by omega)) (fun j hj => ?_)
        show recH Y.H Y.all Y.nh (340 * i + j) = Y.H (340 * (i + 1) + j)
        unfold recH
        rw [if_pos q, if_pos (by omega), show 340 * i + j + 340 = 340 * (i + 1) + j by omega]
    · rw [if_neg q] at hi
      by_cases qn : i = Y.nh
      · refine gok_cg hg (fun j hj => ?_)
        show recH Y.H Y.all Y.nh (340 * i + j) = Y.all j
        unfold recH
        rw [if_neg q, if_pos (by omega), qn, show 340 * Y.nh + j - 340 * Y.nh = j by omega]
      · refine gok_cg (hr i (by omega)) (fun j hj => ?_)
        show recH Y.H Y.all Y.nh (340 * i + j) = Y.H (340 * i + j)
        unfold recH
        rw [if_neg q, if_neg (by omega)]
theorem gok_mk {g : Nat → Int32} {k mk : Nat} (h : GOK g) (hk : k < 12) (hl : legM g k) : GOK (mkM g mk k) := by
  obtain ⟨⟨S, hI⟩, h34⟩ := h
  refine ⟨⟨S, iv_cg (hI.mv hk hl).1 (fun j hj => (mkM_p (by omega)).symm)⟩, ?_⟩
  rw [← mkM_p (by decide), mvM_set hI hk hl (by decide)]
  exact h34
theorem yok_move {Y : YD} (h : YOK Y) (x : Int32) : YOK (yMove Y x).2 := by
  unfold yMove
  by_cases q : rng 0 11 x
  · rw [if_pos q]
    obtain ⟨k, kb, kl, ek, ck⟩ := rng_nat q
    rw [ck]
    by_cases q2 : legM Y.all k
    · rw [if_pos q2]
      exact yok_recd h (gok_mk h.1 (by omega) q2)
    · rw [if_neg q2]; exact h
  · rw [if_neg q]; exact h
theorem yok_undo {Y : YD} (h : YOK Y) : YOK (yUndo Y).2 := by
  unfold yUndo
  by_cases q : Y.nh = 0
  · rw [if_pos q]; exact h
  · rw [if_neg q]
    obtain ⟨hg, hn, hp, hr, hs⟩ := h
    exact ⟨hr (Y.nh - 1) (by omega), by show Y.nh - 1 ≤ 6; omega, hp, fun i hi => hr i (by have hi : i < Y.nh - 1 := hi; omega), hs⟩
theorem yok_restore {Y : YD} (h : YOK Y) (x : Int32) : YOK (yRestore Y x).2 := by
  unfold yRestore
  by_cases q : rng 0 1 x
  · rw [if_pos q]
    obtain ⟨k, kb, kl, ek, ck⟩ := rng_nat q
    rw [ck]
    by_cases q2 : Y.isv k = 0
    · rw [if_pos q2]; exact h
    · rw [if_neg q2]
      have hk := h.2.2.2.2 k (by omega)
      exact yok_recd h (hk.2 (hk.1.resolve_left q2))
  · rw [if_neg q]; exact h
