-- what holds behind the calls, further
theorem yok_play {Y : YD} (h : YOK Y) (x : Int32) : YOK (yPlay Y x).2 := by
  unfold yPlay
  by_cases q : rng 1 4 x
  · rw [if_pos q]
    obtain ⟨k, ka, kb, kl, ek, ck⟩ := rng_nat1 q (by decide)
    rw [ck]
    by_cases q2 : Y.all 27 = 1
    · rw [if_pos q2]; exact h
    · rw [if_neg q2]
      obtain ⟨⟨S, hI⟩, h34⟩ := h.1
      obtain ⟨b, hb, hbl, hbe⟩ := bh_hou hI (d := k) (by omega) (hI.2.2.1.resolve_right q2)
      rw [hbe, nI_clamp (by omega)]
      exact yok_recd h (gok_mk h.1 hb hbl)
  · rw [if_neg q]; exact h
theorem yok_wipe {Y : YD} (h : YOK Y) : YOK (yWipe Y).2 := ⟨h.1, h.2.1, Nat.zero_le 60, h.2.2.2⟩
theorem yok_put {Y : YD} (h : YOK Y) (x : Nat) : YOK (yPut Y x).2 := by
  unfold yPut
  by_cases q : chF 8 x 0 = 0
  · rw [if_pos q]; exact h
  · rw [if_neg q]
    by_cases q2 : 60 < Y.pn + chF 8 x 0
    · rw [if_pos q2]; exact h
    · rw [if_neg q2]
      exact ⟨h.1, h.2.1, by show Y.pn + chF 8 x 0 ≤ 60; omega, h.2.2.2⟩
theorem yok_save {Y : YD} (h : YOK Y) (x : Int32) : YOK (ySave Y x).2 := by
  unfold ySave
  by_cases q : rng 0 1 x
  · rw [if_pos q]
    obtain ⟨k, kb, kl, ek, ck⟩ := rng_nat q
    rw [ck]
    obtain ⟨hg, hn, hp, hr, hs⟩ := h
    refine ⟨hg, hn, hp, hr, fun i hi => ?_⟩
    show (upd Y.isv k 1 i = 0 ∨ upd Y.isv k 1 i = 1) ∧ (upd Y.isv k 1 i = 1 → GOK (fun j => lay Y.slo (340 * k) Y.all 340 (340 * i + j)))
    by_cases z : i = k
    · refine ⟨Or.inr (by rw [z, u_s]), fun _ => gok_cg hg (fun j hj => ?_)⟩
      show lay Y.slo (340 * k) Y.all 340 (340 * i + j) = Y.all j
      unfold lay
      rw [if_pos (by omega), z, show 340 * k + j - 340 * k = j by omega]
    · rw [u_n z]
      refine ⟨(hs i hi).1, fun h1 => gok_cg ((hs i hi).2 h1) (fun j hj => ?_)⟩
      show lay Y.slo (340 * k) Y.all 340 (340 * i + j) = Y.slo (340 * i + j)
      unfold lay
      rw [if_neg (by omega)]
  · rw [if_neg q]; exact h
theorem iv_set {S : Int} {g g' : Nat → Int32} (h : Iv S g) (he : ∀ j, j < 29 → g' j = g j) (h36 : 0 ≤ (g' 36).toInt ∧ (g' 36).toInt ≤ 20) (h37 : 0 ≤ (g' 37).toInt) : Iv S g' := by
  obtain ⟨hJ, h26, h27, h28, -, -, hl⟩ := h
  refine ⟨hJ.o (fun j hj => he j (by omega)) (he 24 (by decide)) (he 25 (by decide)), ?_, ?_, ?_, h36, h37, ?_⟩
  · rw [he 26 (by decide)]; exact h26
  · rw [he 27 (by decide)]; exact h27
  · rw [he 28 (by decide), he 27 (by decide)]; exact h28
  · intro hz
    rw [he 27 (by decide)] at hz
    obtain ⟨k, hk, l1, l2, l3⟩ := hl hz
    exact ⟨k, hk, (he 27 (by decide)).trans l1, l2.trans (he 26 (by decide)).symm, by rw [he k (by omega)]; exact l3⟩
theorem yok_set {Y : YD} (h : YOK Y) (t v : Int32) : YOK (ySet Y t v).2 := by
  unfold ySet
  by_cases q : isSet t v
  · rw [if_pos q]
    obtain ⟨⟨S, hI⟩, h34⟩ := h.1
    have h36 := hI.2.2.2.2.1
    have h37 := hI.2.2.2.2.2.1
    refine yok_recd h ⟨⟨S, iv_set hI (fun j hj => u_n (by omega)) ?_ ?_⟩, ?_⟩
    · by_cases z : 36 = 34 + t.toNatClampNeg
      · rw [z, u_s]
        rcases q with y | y | y
        · rcases y.1 with w | w <;> rw [w] at z <;> exact absurd z (by decide)
        · exact y.2
        · rw [y.1] at z; exact absurd z (by decide)
      · rw [u_n z]; exact h36
    · by_cases z : 37 = 34 + t.toNatClampNeg
      · rw [z, u_s]
        rcases q with y | y | y
        · rcases y.1 with w | w <;> rw [w] at z <;> exact absurd z (by decide)
        · rw [y.1] at z; exact absurd z (by decide)
        · exact y.2.1
      · rw [u_n z]; exact h37
    · by_cases z : 34 = 34 + t.toNatClampNeg
      · rw [← z, u_s]
        rcases q with y | y | y
        · exact y.2
        · rw [y.1] at z; exact absurd z (by decide)
        · rw [y.1] at z; exact absurd z (by decide)
      · rw [u_n z]; exact h34
  · rw [if_neg q]; exact h
