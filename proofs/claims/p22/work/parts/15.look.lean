-- looking ahead, as numbers
abbrev legM (P : Nat → Int32) (h : Nat) : Prop := P 27 = 0 ∧ nI (own h) = P 26 ∧ 0 < P h
def leadM (P : Nat → Int32) : Int32 := P (24 + (P 26).toNatClampNeg) - P (24 + (1 - (P 26).toNatClampNeg))
/-- the best house below n, with its worth: of several the first -/
def scanM (P : Nat → Int32) (v : Nat → Int32) : Nat → Option (Nat × Int32)
  | 0 => none
  | n + 1 => match scanM P v n with
    | none => if legM P n then some (n, v n) else none
    | some q => if legM P n ∧ q.2 < v n then some (n, v n) else some q
def gotM (q : Option (Nat × Int32)) : Int32 := match q with
  | none => -10000
  | some q => q.2
def houM (q : Option (Nat × Int32)) : Int32 := match q with
  | none => -6
  | some q => nI q.1
def valM : Nat → (Nat → Int32) → Int32
  | 0, P => leadM P
  | d + 1, P => if P 27 = 0 then gotM (scanM P (fun h => if mvM P h 26 = P 26 then valM d (mvM P h) else -(valM d (mvM P h))) 12) else leadM P
/-- the worth, for who moves, of the position behind a move -/
def vbM (d : Nat) (P : Nat → Int32) (h : Nat) : Int32 := if mvM P h 26 = P 26 then valM d (mvM P h) else -(valM d (mvM P h))
theorem valM_s (d : Nat) (P : Nat → Int32) : valM (d + 1) P = if P 27 = 0 then gotM (scanM P (vbM d P) 12) else leadM P := rfl
def Iv (S : Int) (P : Nat → Int32) : Prop := Jv S P 0 ∧ (∃ k, k < 2 ∧ P 26 = nI k) ∧ (P 27 = 0 ∨ P 27 = 1) ∧ (∃ mk, P 28 = nI mk ∧ mk ≤ 300 ∧ (P 27 = 0 → mk < 300)) ∧ (0 ≤ (P 36).toInt ∧ (P 36).toInt ≤ 20) ∧ 0 ≤ (P 37).toInt ∧ (P 27 = 0 → ∃ h, h < 12 ∧ legM P h)
theorem leg_pos {P : Nat → Int32} {h : Nat} (hl : legM P h) : 1 ≤ (P h).toInt := by
  have := (i_lt _ _).mp hl.2.2
  rw [i_0] at this
  omega
theorem gtM_hi (P : Nat → Int32) (t : Nat) {j : Nat} (hj : 28 ≤ j) : gtM P t j = P j := by
  unfold gtM
  split
  · rw [u_n (by omega)]
    unfold endsM
    rw [if_neg (by omega), if_neg (by omega), if_neg (by omega), if_neg (by omega)]
  · rw [u_n (by omega)]
theorem gtM_26 (P : Nat → Int32) {t : Nat} (ht : t < 2) : ∃ k, k < 2 ∧ gtM P t 26 = nI k := by
  unfold gtM
  split
  · exact ⟨t, ht, u_s _ _ _⟩
  · rw [u_s]
    split
    · exact ⟨1 - t, by omega, rfl⟩
    · exact ⟨t, ht, rfl⟩
theorem sm6 {S : Int} {P : Nat → Int32} (hJ : Jv S P 0) {t : Nat} (ht : t < 2) : (sm 0 P (6 * t) 6).toInt = si P (6 * t) 6 ∧ 0 ≤ si P (6 * t) 6 ∧ si P 0 6 + si P 6 6 + (P 24).toInt + (P 25).toInt = S ∧ S ≤ 2000 := by
  have n1 := si_nn (P := P) (b := 0) (n := 6) (fun j _ b => hJ.1 j (by omega))
  have n2 := si_nn (P := P) (b := 6) (n := 6) (fun j _ b => hJ.1 j (by omega))
  have sp := si_split P 0 6 6
  obtain ⟨a1, a2, a3, a4, a5, a6⟩ := hJ
  rw [show 6 + 6 = 12 from rfl, show 0 + 6 = 6 from rfl] at sp
  rcases (show t = 0 ∨ t = 1 by omega) with rfl | rfl
  · exact ⟨sm_si (fun j _ b => a1 j (by omega)) (by show si P 0 6 ≤ 2000; omega), n1, by omega, a6⟩
  · exact ⟨sm_si (fun j _ b => a1 j (by omega)) (by show si P 6 6 ≤ 2000; omega), n2, by omega, a6⟩
theorem si_pos {P : Nat → Int32} {b : Nat} : ∀ {n : Nat}, (∀ j, b ≤ j → j < b + n → 0 ≤ (P j).toInt) → ¬ si P b n = 0 → ∃ j, b ≤ j ∧ j < b + n ∧ 0 < (P j).toInt
  | 0, _, h => absurd rfl h
  | n + 1, hn, h => by
    by_cases q : si P b n = 0
    · refine ⟨b + n, by omega, by omega, ?_⟩
      have := hn (b + n) (by omega) (by omega)
      rw [si, q] at h
      omega
    · obtain ⟨j, h1, h2, h3⟩ := si_pos (n := n) (fun j a b => hn j a (by omega)) q
      exact ⟨j, h1, by omega, h3⟩
theorem gtM_Jv {S : Int} {P : Nat → Int32} {t : Nat} (hJ : Jv S P 0) : Jv S (gtM P t) 0 := by
  unfold gtM
  split
  · obtain ⟨e0, n0, e2, -⟩ := sm6 hJ (t := 0) (by decide)
    obtain ⟨e1, n1, -, -⟩ := sm6 hJ (t := 1) (by decide)
    rw [show 6 * 0 = 0 from rfl] at e0 n0
    rw [show 6 * 1 = 6 from rfl] at e1 n1
    obtain ⟨a1, a2, a3, a4, a5, a6⟩ := hJ
    have v24 : upd (endsM P) 26 (nI t) 24 = P 24 + sm 0 P 0 6 := by rw [u_n (by decide)]; show sm (P 24) P 0 6 = _; rw [sm_z]
    have v25 : upd (endsM P) 26 (nI t) 25 = P 25 + sm 0 P 6 6 := by rw [u_n (by decide)]; show sm (P 25) P 6 6 = _; rw [sm_z]
    have z24 : (P 24 + sm 0 P 0 6).toInt = (P 24).toInt + si P 0 6 := by rw [i_add (by rw [e0]; omega) (by rw [e0]; omega), e0]
    have z25 : (P 25 + sm 0 P 6 6).toInt = (P 25).toInt + si P 6 6 := by rw [i_add (by rw [e1]; omega) (by rw [e1]; omega), e1]
    have hz : ∀ n, n ≤ 12 → si (upd (endsM P) 26 (nI t)) 0 n = 0 := by
      intro n
      induction n with
      | zero => intro _; rfl
      | succ n ih =>
        intro hn
        rw [si, ih (by omega), ends_lo (by omega), i_0]
        rfl
    refine ⟨fun j hj => by rw [ends_lo hj, i_0]; omega, by rw [v24, z24]; omega, by rw [v25, z25]; omega, by omega, ?_, a6⟩
    rw [hz 12 (Nat.le_refl _), v24, v25, z24, z25]
    omega
  · exact hJ.o (fun j hj => u_n (by omega)) (u_n (by decide)) (u_n (by decide))
theorem gtM_27 {P : Nat → Int32} {t : Nat} (h27 : P 27 = 0) : (decP P → gtM P t 27 = 1) ∧ (¬ decP P → gtM P t 27 = 0) := by
  refine ⟨fun h => by rw [gt_y h, u_n (by decide)]; rfl, fun h => by rw [gt_n h, u_n (by decide), h27]⟩
theorem gtM_leg {S : Int} {P : Nat → Int32} {t : Nat} (hJ : Jv S P 0) (ht : t < 2) (h27 : P 27 = 0) (hd : ¬ decP P) : ∃ h, h < 12 ∧ legM (gtM P t) h := by
  have hn : ¬ sm 0 P 0 6 + sm 0 P 6 6 = 0 := fun q => hd (Or.inl q)
  obtain ⟨e0, n0, e2, -⟩ := sm6 hJ (t := 0) (by decide)
  obtain ⟨e1, n1, -, -⟩ := sm6 hJ (t := 1) (by decide)
  rw [show 6 * 0 = 0 from rfl] at e0 n0
  rw [show 6 * 1 = 6 from rfl] at e1 n1
  have key : ∀ t2, t2 < 2 → ¬ sm 0 P (6 * t2) 6 = 0 → gtM P t 26 = nI t2 → ∃ h, h < 12 ∧ legM (gtM P t) h := by
    intro t2 ht2 hs hg
    obtain ⟨z1, z2, -, -⟩ := sm6 hJ ht2
    obtain ⟨j, j1, j2, j3⟩ := si_pos (P := P) (b := 6 * t2) (n := 6) (fun j a b => hJ.1 j (by omega)) (fun q => hs ((i_eq _ _).mpr (by rw [z1, q, i_0])))
    refine ⟨j, by omega, (gtM_27 h27).2 hd, ?_, ?_⟩
    · rw [hg, show own j = t2 by unfold own; omega]
    · rw [gt_n hd, u_n (by omega), i_lt, i_0]; exact j3
  by_cases q : sm 0 P (6 * t) 6 = 0
  · refine key (1 - t) (by omega) ?_ (by rw [gt_n hd, u_s, if_pos q])
    intro q2
    apply hn
    rcases (show t = 0 ∨ t = 1 by omega) with rfl | rfl
    · rw [show 6 * 0 = 0 from rfl] at q
      rw [show 6 * (1 - 0) = 6 from rfl] at q2
      rw [q, q2]; rfl
    · rw [show 6 * 1 = 6 from rfl] at q
      rw [show 6 * (1 - 1) = 0 from rfl] at q2
      rw [q, q2]; rfl
  · exact key t ht q (by rw [gt_n hd, u_s, if_neg q])
theorem Iv.mv {S : Int} {P : Nat → Int32} (hI : Iv S P) {h : Nat} (hh : h < 12) (hl : legM P h) : Iv S (mvM P h) ∧ ∃ k, k < 2 ∧ P 26 = nI k ∧ mvM P h = gtM (mvB P h k) (1 - k) := by
  obtain ⟨hJ, ⟨k, hk, h26⟩, h27, ⟨mk, h28, hm1, hm2⟩, h36, h37, -⟩ := hI
  have e := mvM_gt hk hh hJ h37 (leg_pos hl) h26 hl.1 h28 (hm2 hl.1)
  have hB := mvB_J hk hh hJ h37 (leg_pos hl)
  have b27 : mvB P h k 27 = 0 := by rw [mvB_o _ (by decide) (by decide) (by decide), mvA_o P hk hh (by decide) (by decide), hl.1]
  have b28 : mvB P h k 28 = nI (mk + 1) := by rw [mvB_28 P hk hh, h28, nI_1]
  have bo : ∀ j, 34 ≤ j → mvB P h k j = P j := fun j hj => by rw [mvB_o _ (by omega) (by omega) (by omega), mvA_o P hk hh (by omega) (Or.inr hj)]
  have hm := hm2 hl.1
  refine ⟨?_, k, hk, h26, e⟩
  rw [e]
  refine ⟨gtM_Jv hB, gtM_26 _ (by omega), ?_, ⟨mk + 1, by rw [gtM_hi _ _ (by decide), b28], by omega, ?_⟩, ?_, ?_, ?_⟩
  · by_cases hd : decP (mvB P h k)
    · exact Or.inr ((gtM_27 b27).1 hd)
    · exact Or.inl ((gtM_27 b27).2 hd)
  · intro hz
    rcases Nat.lt_or_ge (mk + 1) 300 with q | q
    · exact q
    · exfalso
      have hd : decP (mvB P h k) := Or.inr (Or.inl (by rw [b28, show mk + 1 = 300 by omega]; exact Int32.le_refl _))
      rw [(gtM_27 b27).1 hd] at hz
      exact absurd hz (by decide)
  · rw [gtM_hi _ _ (by decide), bo _ (by decide)]; exact h36
  · rw [gtM_hi _ _ (by decide), bo _ (by decide)]; exact h37
  · intro hz
    by_cases hd : decP (mvB P h k)
    · rw [(gtM_27 b27).1 hd] at hz
      exact absurd hz (by decide)
    · exact gtM_leg hB (by omega) b27 hd
theorem mvM_set {S : Int} {P : Nat → Int32} (hI : Iv S P) {h : Nat} (hh : h < 12) (hl : legM P h) {j : Nat} (hj : 34 ≤ j) : mvM P h j = P j := by
  obtain ⟨-, k, hk, h26, e⟩ := hI.mv hh hl
  rw [e, gtM_hi _ _ (by omega), mvB_o _ (by omega) (by omega) (by omega), mvA_o P hk hh (by omega) (Or.inr hj)]
theorem leadM_b {S : Int} {P : Nat → Int32} (hI : Iv S P) : -2000 ≤ (leadM P).toInt ∧ (leadM P).toInt ≤ 2000 := by
  obtain ⟨hJ, ⟨k, hk, h26⟩, -⟩ := hI
  unfold leadM
  rw [h26, nI_clamp (by omega)]
  have h1 := hJ.store hk
  have h2 := hJ.store (show 1 - k < 2 by omega)
  rw [i_sub (by omega) (by omega)]
  omega
theorem scan_b {P v : Nat → Int32} (hv : ∀ h, h < 12 → legM P h → -2000 ≤ (v h).toInt ∧ (v h).toInt ≤ 2000) : ∀ n, n ≤ 12 → ∀ q, scanM P v n = some q → q.1 < n ∧ legM P q.1 ∧ q.2 = v q.1 := by
  intro n
  induction n with
  | zero => intro _ q h; cases h
  | succ n ih =>
    intro hn q h
    rw [scanM] at h
    cases hs : scanM P v n with
    | none =>
      rw [hs] at h
      dsimp only at h
      by_cases hl : legM P n
      · rw [if_pos hl] at h
        cases h
        exact ⟨by omega, hl, rfl⟩
      · rw [if_neg hl] at h
        cases h
    | some q2 =>
      rw [hs] at h
      dsimp only at h
      by_cases hl : legM P n ∧ q2.2 < v n
      · rw [if_pos hl] at h
        cases h
        exact ⟨by omega, hl.1, rfl⟩
      · rw [if_neg hl] at h
        have e := Option.some.inj h
        obtain ⟨a1, a2, a3⟩ := ih (by omega) q2 hs
        rw [← e]
        exact ⟨by omega, a2, a3⟩
theorem scan_some {P v : Nat → Int32} : ∀ n h, h < n → legM P h → ∃ q, scanM P v n = some q
  | 0, h, hh, _ => absurd hh (Nat.not_lt_zero h)
  | n + 1, h, hh, hl => by
    rw [scanM]
    cases hs : scanM P v n with
    | none =>
      dsimp only
      rcases Nat.lt_or_ge h n with q | q
      · obtain ⟨z, hz⟩ := scan_some n h q hl
        rw [hs] at hz
        cases hz
      · rw [show n = h by omega, if_pos hl]
        exact ⟨_, rfl⟩
    | some q2 =>
      dsimp only
      split
      · exact ⟨_, rfl⟩
      · exact ⟨_, rfl⟩
theorem valM_b {S : Int} : ∀ (d : Nat) (P : Nat → Int32), Iv S P → -2000 ≤ (valM d P).toInt ∧ (valM d P).toInt ≤ 2000
  | 0, P, hI => leadM_b hI
  | d + 1, P, hI => by
    rw [valM_s]
    by_cases h27 : P 27 = 0
    · rw [if_pos h27]
      have hv : ∀ h, h < 12 → legM P h → -2000 ≤ (vbM d P h).toInt ∧ (vbM d P h).toInt ≤ 2000 := by
        intro h hh hl
        have hb := valM_b d (mvM P h) (hI.mv hh hl).1
        unfold vbM
        split
        · exact hb
        · rw [i_neg (by omega)]; omega
      obtain ⟨h, hh, hl⟩ := hI.2.2.2.2.2.2 h27
      obtain ⟨q, hq⟩ := scan_some (v := vbM d P) 12 h hh hl
      obtain ⟨b1, b2, b3⟩ := scan_b hv 12 (Nat.le_refl _) q hq
      rw [hq]
      show -2000 ≤ q.2.toInt ∧ q.2.toInt ≤ 2000
      rw [b3]
      exact hv _ b1 b2
    · rw [if_neg h27]
      exact leadM_b hI
theorem vbM_b {S : Int} {P : Nat → Int32} (hI : Iv S P) (d : Nat) {h : Nat} (hh : h < 12) (hl : legM P h) : -2000 ≤ (vbM d P h).toInt ∧ (vbM d P h).toInt ≤ 2000 := by
  have hb := valM_b d (mvM P h) (hI.mv hh hl).1
  unfold vbM
  split
  · exact hb
  · rw [i_neg (by omega)]; omega
theorem i_m10 : (-10000 : Int32).toInt = -10000 := by decide
/-- the class's own way: the greatest so far, from -10000 on -/
theorem got_step {P v : Nat → Int32} {n : Nat} (hn : n < 12) (hv : ∀ h, h < 12 → legM P h → -2000 ≤ (v h).toInt ∧ (v h).toInt ≤ 2000) (hl : legM P n) : (if gotM (scanM P v n) < v n then v n else gotM (scanM P v n)) = gotM (scanM P v (n + 1)) := by
  rw [scanM]
  cases hs : scanM P v n with
  | none =>
    dsimp only
    rw [if_pos hl]
    refine if_pos ?_
    show (-10000 : Int32) < v n
    have := hv n hn hl
    rw [i_lt, i_m10]
    omega
  | some q =>
    dsimp only
    by_cases hq : q.2 < v n
    · have e : (if legM P n ∧ q.2 < v n then some (n, v n) else some q) = some (n, v n) := if_pos ⟨hl, hq⟩
      rw [e]
      exact if_pos hq
    · have e : (if legM P n ∧ q.2 < v n then some (n, v n) else some q) = some q := if_neg (fun z => hq z.2)
      rw [e]
      exact if_neg hq
theorem got_skip {P v : Nat → Int32} {n : Nat} (hl : ¬ legM P n) : scanM P v (n + 1) = scanM P v n := by
  rw [scanM]
  cases hs : scanM P v n with
  | none => dsimp only; rw [if_neg hl]
  | some q => dsimp only; rw [if_neg (fun z => hl z.1)]
theorem best_yes {P v : Nat → Int32} {n : Nat} (hl : legM P n) (h : gotM (scanM P v n) < v n) : scanM P v (n + 1) = some (n, v n) := by
  rw [scanM]
  cases hs : scanM P v n with
  | none => dsimp only; rw [if_pos hl]
  | some q =>
    rw [hs] at h
    exact if_pos ⟨hl, h⟩
theorem best_no {P v : Nat → Int32} {n : Nat} (hn : n < 12) (hv : ∀ h, h < 12 → legM P h → -2000 ≤ (v h).toInt ∧ (v h).toInt ≤ 2000) (hl : legM P n) (h : ¬ gotM (scanM P v n) < v n) : scanM P v (n + 1) = scanM P v n := by
  rw [scanM]
  cases hs : scanM P v n with
  | none =>
    rw [hs] at h
    have := hv n hn hl
    exact absurd (show (-10000 : Int32) < v n by rw [i_lt, i_m10]; omega) h
  | some q =>
    rw [hs] at h
    exact if_neg (fun z => h z.2)
