-- seeds are kept: what a move leaves as it was, in whole numbers
def si (P : Nat → Int32) (b : Nat) : Nat → Int
  | 0 => 0
  | k + 1 => si P b k + (P (b + k)).toInt
theorem si_o {P : Nat → Int32} {b h : Nat} {x : Int32} : ∀ {n : Nat}, (h < b ∨ b + n ≤ h) → si (upd P h x) b n = si P b n
  | 0, _ => rfl
  | n + 1, hh => by rw [si, si, si_o (by omega), u_n (by omega)]
theorem si_u {P : Nat → Int32} {b h : Nat} {x : Int32} : ∀ {n : Nat}, b ≤ h → h < b + n → si (upd P h x) b n = si P b n - (P h).toInt + x.toInt
  | 0, h1, h2 => absurd h2 (by omega)
  | n + 1, h1, h2 => by
    rcases Nat.lt_or_ge h (b + n) with q | q
    · rw [si, si, si_u h1 q, u_n (by omega)]
      omega
    · have e : b + n = h := by omega
      rw [si, si, si_o (by omega), e, u_s]
      omega
theorem si_nn {P : Nat → Int32} {b : Nat} : ∀ {n : Nat}, (∀ j, b ≤ j → j < b + n → 0 ≤ (P j).toInt) → 0 ≤ si P b n
  | 0, _ => Int.le_refl 0
  | n + 1, h => by
    have h1 := si_nn (n := n) (fun j a b => h j a (by omega))
    have h2 := h (b + n) (by omega) (by omega)
    rw [si]
    omega
theorem si_le {P : Nat → Int32} {b j : Nat} : ∀ {n : Nat}, (∀ j, b ≤ j → j < b + n → 0 ≤ (P j).toInt) → b ≤ j → j < b + n → (P j).toInt ≤ si P b n
  | 0, _, h1, h2 => absurd h2 (by omega)
  | n + 1, h, h1, h2 => by
    have a1 := si_nn (n := n) (fun j a b => h j a (by omega))
    have a2 := h (b + n) (by omega) (by omega)
    rw [si]
    rcases Nat.lt_or_ge j (b + n) with q | q
    · have := si_le (n := n) (fun j a b => h j a (by omega)) h1 q
      omega
    · have e : b + n = j := by omega
      rw [e] at a2 ⊢
      omega
theorem si_split (P : Nat → Int32) (b m : Nat) : ∀ n, si P b (m + n) = si P b m + si P (b + m) n
  | 0 => by show si P b m = si P b m + 0; omega
  | n + 1 => by rw [← Nat.add_assoc, si, si, si_split P b m n, Nat.add_assoc]; omega
theorem si_ext {P Q : Nat → Int32} {b : Nat} : ∀ {n : Nat}, (∀ j, b ≤ j → j < b + n → P j = Q j) → si P b n = si Q b n
  | 0, _ => rfl
  | n + 1, h => by rw [si, si, si_ext (fun j a b => h j a (by omega)), h (b + n) (by omega) (by omega)]
/-- S seeds in all, x of them in the hand -/
def Jv (S : Int) (P : Nat → Int32) (x : Int) : Prop := (∀ j, j < 12 → 0 ≤ (P j).toInt) ∧ 0 ≤ (P 24).toInt ∧ 0 ≤ (P 25).toInt ∧ 0 ≤ x ∧ si P 0 12 + (P 24).toInt + (P 25).toInt + x = S ∧ S ≤ 2000
theorem Jv.le {S x : Int} {P : Nat → Int32} (h : Jv S P x) {j : Nat} (hj : j < 12) : (P j).toInt ≤ 2000 := by
  obtain ⟨h1, h2, h3, h4, h5, h6⟩ := h
  have := si_le (b := 0) (n := 12) (fun j _ b => h1 j (by omega)) (Nat.zero_le j) (by omega)
  omega
theorem Jv.nn {S x : Int} {P : Nat → Int32} (h : Jv S P x) : 0 ≤ si P 0 12 := si_nn (fun j _ b => h.1 j (by omega))
theorem Jv.o {S x : Int} {P Q : Nat → Int32} (h : Jv S P x) (hs : ∀ j, j < 12 → Q j = P j) (h4 : Q 24 = P 24) (h5 : Q 25 = P 25) : Jv S Q x := by
  obtain ⟨a1, a2, a3, a4, a5, a6⟩ := h
  refine ⟨fun j hj => by rw [hs j hj]; exact a1 j hj, by rw [h4]; exact a2, by rw [h5]; exact a3, a4, ?_, a6⟩
  rw [h4, h5, si_ext (P := Q) (Q := P) (fun j _ b => hs j (by omega))]
  exact a5
/-- the n-th of the two stores -/
theorem Jv.store {S x : Int} {P : Nat → Int32} (h : Jv S P x) {t : Nat} (ht : t < 2) : 0 ≤ (P (24 + t)).toInt ∧ (P (24 + t)).toInt + x ≤ 2000 := by
  obtain ⟨a1, a2, a3, a4, a5, a6⟩ := h
  have := si_nn (P := P) (b := 0) (n := 12) (fun j _ b => a1 j (by omega))
  rcases (show t = 0 ∨ t = 1 by omega) with rfl | rfl
  · exact ⟨a2, by show (P 24).toInt + x ≤ 2000; omega⟩
  · exact ⟨a3, by show (P 25).toInt + x ≤ 2000; omega⟩
theorem Jv.pay {S : Int} {P : Nat → Int32} {g pl : Nat} {hand : Int32} (h : Jv S P hand.toInt) (hpl : pl < 2) (h0 : 0 < hand) (ht : 0 ≤ (P 37).toInt) : Jv S (payP P g pl hand) (payH P g pl hand).toInt ∧ 0 < (payH P g pl hand).toInt := by
  have hp : 0 < hand.toInt := by have := (i_lt _ _).mp h0; rw [i_0] at this; exact this
  by_cases hc : own g ≠ pl ∧ P 35 ≤ P (12 + g) ∧ P 37 < hand
  · rw [payP_y hc, payH_y hc]
    have h2 := (i_lt _ _).mp hc.2.2
    have hr := i_rng hand
    have hs : (hand - P 37).toInt = hand.toInt - (P 37).toInt := i_sub (by omega) (by omega)
    have hst := h.store (t := 1 - pl) (by omega)
    have e0 : 24 + (1 - pl) = 25 - pl := by omega
    rw [e0] at hst
    have ha : (P (25 - pl) + P 37).toInt = (P (25 - pl)).toInt + (P 37).toInt := i_add (by omega) (by omega)
    obtain ⟨a1, a2, a3, a4, a5, a6⟩ := h
    refine ⟨⟨fun j hj => ?_, ?_, ?_, by rw [hs]; omega, ?_, a6⟩, by rw [hs]; omega⟩
    · rw [u_n (by omega), u_n (by omega)]; exact a1 j hj
    · rw [u_n (by omega)]
      by_cases q : pl = 1
      · rw [show 25 - pl = 24 by omega] at ha ⊢; rw [u_s, ha]; omega
      · rw [u_n (by omega)]; exact a2
    · rw [u_n (by omega)]
      by_cases q : pl = 0
      · rw [show 25 - pl = 25 by omega] at ha ⊢; rw [u_s, ha]; omega
      · rw [u_n (by omega)]; exact a3
    · rw [si_o (by omega), si_o (by omega), u_n (show (24 : Nat) ≠ 33 by decide), u_n (show (25 : Nat) ≠ 33 by decide), hs]
      rcases (show pl = 0 ∨ pl = 1 by omega) with rfl | rfl
      · rw [u_n (show (24 : Nat) ≠ 25 - 0 by decide), show 25 - 0 = 25 from rfl, u_s]
        rw [show 25 - 0 = 25 from rfl] at ha
        rw [ha]; omega
      · rw [u_n (show (25 : Nat) ≠ 25 - 1 by decide), show 25 - 1 = 24 from rfl, u_s]
        rw [show 25 - 1 = 24 from rfl] at ha
        rw [ha]; omega
  · rw [payP_n hc, payH_n hc]
    exact ⟨h, hp⟩
theorem Jv.put {S : Int} {P : Nat → Int32} {g : Nat} {z : Int32} (h : Jv S P z.toInt) (hg : g < 12) (h0 : 0 < z.toInt) : Jv S (putS P g) (z - 1).toInt ∧ 1 ≤ (putS P g g).toInt := by
  have hl := h.le hg
  have hz := i_rng z
  have e1 := i_1
  have hs : (z - 1).toInt = z.toInt - 1 := by rw [i_sub (by omega) (by omega), e1]
  obtain ⟨a1, a2, a3, a4, a5, a6⟩ := h
  have hg0 := a1 g hg
  have ha : (P g + 1).toInt = (P g).toInt + 1 := by rw [i_add (by omega) (by omega), e1]
  unfold putS
  refine ⟨⟨fun j hj => ?_, ?_, ?_, by rw [hs]; omega, ?_, a6⟩, by rw [u_s, ha]; omega⟩
  · by_cases q : j = g
    · rw [q, u_s, ha]; omega
    · rw [u_n q]; exact a1 j hj
  · rw [u_n (by omega)]; exact a2
  · rw [u_n (by omega)]; exact a3
  · rw [si_u (Nat.zero_le g) (by omega), u_n (show 24 ≠ g by omega), u_n (show 25 ≠ g by omega), ha, hs]; omega
theorem sowF_J {S : Int} {fr pl : Nat} (hpl : pl < 2) : ∀ (n : Nat) (P : Nat → Int32) (h : Nat) (hand : Int32), hand.toNatClampNeg ≤ n → Jv S P hand.toInt → 0 ≤ (P 37).toInt → (0 < hand ∨ 1 ≤ (P h).toInt) → Jv S (sowF n P h hand fr pl).1 0 ∧ 1 ≤ ((sowF n P h hand fr pl).1 (sowF n P h hand fr pl).2).toInt := by
  intro n
  induction n with
  | zero =>
    intro P h hand hn hJ ht hc
    have h4 := hJ.2.2.2.1
    have a2 := i_nat hand h4
    have hz : ¬ 0 < hand := by rw [i_lt, i_0]; omega
    have e : hand.toInt = 0 := by omega
    rw [e] at hJ
    exact ⟨hJ, hc.elim (fun q => absurd q hz) id⟩
  | succ n ih =>
    intro P h hand hn hJ ht hc
    by_cases h0 : 0 < hand
    · rw [sowF, if_pos h0]
      have hg := nxt_lt fr h
      obtain ⟨j1, j2⟩ := hJ.pay (g := nxt fr h) hpl h0 ht
      obtain ⟨j3, j4⟩ := j1.put hg j2
      have hd := pay_dec (P := P) (h := nxt fr h) (pl := pl) h0 ht
      refine ih _ _ _ (by omega) j3 ?_ (Or.inr j4)
      rw [putS_o _ (by omega), payP_o _ _ _ _ hpl (by decide) (by decide) (by decide)]
      exact ht
    · rw [sowF_end h0]
      have h4 := hJ.2.2.2.1
      have e : hand.toInt = 0 := by rw [i_lt, i_0] at h0; omega
      rw [e] at hJ
      exact ⟨hJ, hc.elim (fun q => absurd q h0) id⟩
theorem sowM_J {S : Int} {P : Nat → Int32} {fr pl : Nat} (hpl : pl < 2) (hfr : fr < 12) (hJ : Jv S P 0) (ht : 0 ≤ (P 37).toInt) (h0 : 1 ≤ (P fr).toInt) : Jv S (sowM P fr pl).1 0 ∧ 1 ≤ ((sowM P fr pl).1 (sowM P fr pl).2).toInt := by
  unfold sowM
  refine sowF_J hpl _ _ _ _ (Nat.le_refl _) ?_ (by rw [u_n (by omega)]; exact ht) (Or.inl (by rw [i_lt, i_0]; omega))
  obtain ⟨a1, a2, a3, a4, a5, a6⟩ := hJ
  refine ⟨fun j hj => ?_, by rw [u_n (by omega)]; exact a2, by rw [u_n (by omega)]; exact a3, by omega, ?_, a6⟩
  · by_cases q : j = fr
    · rw [q, u_s, i_0]; omega
    · rw [u_n q]; exact a1 j hj
  · rw [si_u (Nat.zero_le fr) (by omega), u_n (show 24 ≠ fr by omega), u_n (show 25 ≠ fr by omega), i_0]; omega
theorem visM_J {S : Int} {P : Nat → Int32} {h : Nat} (hh : h < 12) (hJ : Jv S P 0) : Jv S (visM P h) 0 :=
  hJ.o (fun j hj => visM_o _ (by omega) (by omega)) (visM_o _ (by decide) (by omega)) (visM_o _ (by decide) (by omega))
theorem capM_J {S : Int} {P : Nat → Int32} {h pl : Nat} (hh : h < 12) (hpl : pl < 2) (hJ : Jv S P 0) : Jv S (capM P h pl) 0 := by
  have l1 := hJ.le hh
  have l2 := hJ.le (show 11 - h < 12 by omega)
  have hst := hJ.store hpl
  have n1 := hJ.1 h hh
  have n2 := hJ.1 (11 - h) (by omega)
  have c1 : (P h + P (11 - h)).toInt = (P h).toInt + (P (11 - h)).toInt := i_add (by omega) (by omega)
  have c2 : (P (24 + pl) + (P h + P (11 - h))).toInt = (P (24 + pl)).toInt + ((P h).toInt + (P (11 - h)).toInt) := by rw [i_add (by rw [c1]; omega) (by rw [c1]; omega), c1]
  obtain ⟨a1, a2, a3, a4, a5, a6⟩ := hJ
  have st : ∀ t, t < 2 → capM P h pl (24 + t) = upd P (24 + pl) (P (24 + pl) + (P h + P (11 - h))) (24 + t) := by
    intro t ht
    unfold capM
    rw [u_n (by omega), u_n (by omega), u_n (by omega), u_n (by omega)]
  have e4 := st 0 (by decide)
  have e5 := st 1 (by decide)
  rw [show 24 + 0 = 24 from rfl] at e4
  rw [show 24 + 1 = 25 from rfl] at e5
  refine ⟨fun j hj => ?_, ?_, ?_, a4, ?_, a6⟩
  · have := cap_s (P := P) (sd := P) (h := h) (pl := pl) (z := 0) (fun _ _ => rfl) j hj
    rw [u_n (show j ≠ 32 by omega)] at this
    rw [← this]
    by_cases q : j = 11 - h
    · rw [q, u_s, i_0]; omega
    · rw [u_n q]
      by_cases q2 : j = h
      · rw [q2, u_s, i_0]; omega
      · rw [u_n q2]; exact a1 j hj
  · rw [e4]
    by_cases q : pl = 0
    · rw [q] at c2 hst ⊢; rw [u_s, c2]; omega
    · rw [u_n (by omega)]; exact a2
  · rw [e5]
    by_cases q : pl = 1
    · rw [q] at c2 hst ⊢; rw [u_s, c2]; omega
    · rw [u_n (by omega)]; exact a3
  · have es : si (capM P h pl) 0 12 = si P 0 12 - (P h).toInt - (P (11 - h)).toInt := by
      unfold capM
      rw [si_o (by omega), si_o (by omega), si_u (Nat.zero_le _) (by omega), si_u (Nat.zero_le _) (by omega), si_o (by omega), u_n (show 11 - h ≠ h by omega), u_n (show 11 - h ≠ 24 + pl by omega), u_n (show h ≠ 24 + pl by omega), i_0]
      omega
    rw [es, e4, e5]
    rcases (show pl = 0 ∨ pl = 1 by omega) with rfl | rfl
    · rw [show 24 + 0 = 24 from rfl] at c2 ⊢
      rw [u_s, u_n (by decide), c2]; omega
    · rw [show 24 + 1 = 25 from rfl] at c2 ⊢
      rw [u_s, u_n (by decide), c2]; omega
theorem endM_J {S : Int} {P : Nat → Int32} {h pl : Nat} (hh : h < 12) (hpl : pl < 2) (hJ : Jv S P 0) : Jv S (endM P h pl) 0 := by
  unfold endM
  split
  · exact capM_J hh hpl (visM_J hh hJ)
  · exact visM_J hh hJ
theorem endM_g {P : Nat → Int32} {h pl : Nat} (hg : 1 < P h) : endM P h pl = visM P h := endM_n (fun q => q.1 hg)
theorem lapsF_J {S : Int} {pl : Nat} (hpl : pl < 2) : ∀ (n : Nat) (P : Nat → Int32) (h : Nat), h < 12 → Jv S P 0 → 0 ≤ (P 37).toInt → 1 ≤ (P h).toInt → Jv S (lapsF n P h pl).1 0 ∧ (lapsF n P h pl).2 < 12
  | 0, P, h, hh, hJ, _, _ => ⟨hJ, hh⟩
  | n + 1, P, h, hh, hJ, ht, h0 => by
    obtain ⟨j1, j2⟩ := sowM_J hpl hh hJ ht h0
    have hg := sowM_lt (P := P) (pl := pl) hh
    rw [lapsF]
    split
    · refine lapsF_J hpl n _ _ hg (visM_J hg j1) ?_ ?_
      · rw [visM_o _ (by decide) (by omega), sowM_o hpl hh (by decide) (by decide) (by decide) (by decide)]; exact ht
      · rw [visM_o _ (by omega) (by omega)]; exact j2
    · exact ⟨endM_J hg hpl j1, hg⟩
theorem lapsF_o {pl j : Nat} (hpl : pl < 2) (h1 : 26 ≤ j) (h2 : j ≠ 30) (h3 : j ≠ 32) (h4 : j ≠ 33) : ∀ (n : Nat) (P : Nat → Int32) (h : Nat), h < 12 → (lapsF n P h pl).1 j = P j
  | 0, _, _, _ => rfl
  | n + 1, P, h, hh => by
    have hg := sowM_lt (P := P) (pl := pl) hh
    have e := sowM_o (P := P) (fr := h) (pl := pl) (j := j) hpl hh (by omega) (by omega) (by omega) h4
    rw [lapsF]
    split
    · rw [lapsF_o hpl h1 h2 h3 h4 n _ _ hg, visM_o _ h2 (by omega), e]
    · show endM (sowM P h pl).1 (sowM P h pl).2 pl j = P j
      rw [endM_hi _ hg hpl h1 h3, visM_o _ h2 (by omega), e]
theorem sm_si {P : Nat → Int32} {b : Nat} : ∀ {n : Nat}, (∀ j, b ≤ j → j < b + n → 0 ≤ (P j).toInt) → si P b n ≤ 2000 → (sm 0 P b n).toInt = si P b n
  | 0, _, _ => i_0
  | n + 1, h, hl => by
    have a1 := si_nn (n := n) (fun j a b => h j a (by omega))
    have a2 := h (b + n) (by omega) (by omega)
    rw [si] at hl ⊢
    have ih := sm_si (n := n) (fun j a b => h j a (by omega)) (by omega)
    rw [sm, i_add (by omega) (by omega), ih]
