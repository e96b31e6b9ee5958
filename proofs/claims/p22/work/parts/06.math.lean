-- the game as numbers: a position is a row P of 40 numbers, laid as in the reference (seeds 0, visits 12, stores 24, mover 26, over 27, moves 28, last 29, settings 34)
/-- f b + .. + f (b + k - 1), from z on -/
def sm (z : Int32) (f : Nat → Int32) (b : Nat) : Nat → Int32
  | 0 => z
  | k + 1 => sm z f b k + f (b + k)
theorem sm_congr {z : Int32} {f g : Nat → Int32} {b c : Nat} : ∀ {k : Nat}, (∀ j, j < k → f (b + j) = g (c + j)) → sm z f b k = sm z g c k
  | 0, _ => rfl
  | k + 1, h => by rw [sm, sm, sm_congr (fun j hj => h j (by omega)), h k (by omega)]
def own (h : Nat) : Nat := h / 6
/-- the house behind h, without fr -/
def nxt (fr h : Nat) : Nat := if (h + 1) % 12 = fr then (h + 2) % 12 else (h + 1) % 12
def payP (P : Nat → Int32) (h pl : Nat) (hand : Int32) : Nat → Int32 :=
  if own h ≠ pl ∧ P 35 ≤ P (12 + h) ∧ P 37 < hand then upd (upd P (25 - pl) (P (25 - pl) + P 37)) 33 (P 33 + P 37) else P
def payH (P : Nat → Int32) (h pl : Nat) (hand : Int32) : Int32 :=
  if own h ≠ pl ∧ P 35 ≤ P (12 + h) ∧ P 37 < hand then hand - P 37 else hand
def putS (P : Nat → Int32) (h : Nat) : Nat → Int32 := upd P h (P h + 1)
def sowF : Nat → (Nat → Int32) → Nat → Int32 → Nat → Nat → (Nat → Int32) × Nat
  | 0, P, h, _, _, _ => (P, h)
  | n + 1, P, h, hand, fr, pl => if 0 < hand then sowF n (putS (payP P (nxt fr h) pl hand) (nxt fr h)) (nxt fr h) (payH P (nxt fr h) pl hand - 1) fr pl else (P, h)
def sowM (P : Nat → Int32) (fr pl : Nat) : (Nat → Int32) × Nat := sowF (P fr).toNatClampNeg (upd P fr 0) fr (P fr) fr pl
def capM (P : Nat → Int32) (h pl : Nat) : Nat → Int32 :=
  upd (upd (upd (upd (upd P (24 + pl) (P (24 + pl) + (P h + P (11 - h)))) h 0) (11 - h) 0) (12 + (11 - h)) 0) 32 (P h + P (11 - h))
/-- behind the sowing of a lap: it counts, its last house is visited -/
def visM (P : Nat → Int32) (h : Nat) : Nat → Int32 := upd (upd P 30 (P 30 + 1)) (12 + h) (P (12 + h) + 1)
abbrev goesM (P : Nat → Int32) (h : Nat) : Prop := 1 < P h ∧ ¬ P 35 ≤ P (12 + h)
def endM (P : Nat → Int32) (h pl : Nat) : Nat → Int32 :=
  if ¬ 1 < P h ∧ own h = pl ∧ 0 < P (11 - h) then capM (visM P h) h pl else visM P h
def lapsF : Nat → (Nat → Int32) → Nat → Nat → (Nat → Int32) × Nat
  | 0, P, h, _ => (P, h)
  | n + 1, P, h, pl =>
    if (1 < (sowM P h pl).1 (sowM P h pl).2 ∧ ¬ (sowM P h pl).1 35 ≤ (sowM P h pl).1 (12 + (sowM P h pl).2)) ∧ (sowM P h pl).1 30 + 1 ≤ (sowM P h pl).1 36 then lapsF n (visM (sowM P h pl).1 (sowM P h pl).2) (sowM P h pl).2 pl
    else (endM (sowM P h pl).1 (sowM P h pl).2 pl, (sowM P h pl).2)
def clrL (P : Nat → Int32) : Nat → Int32 := fun j => if 29 ≤ j ∧ j < 34 then 0 else P j
def allM (P : Nat → Int32) : Int32 := sm (P 24 + P 25) P 0 12
abbrev overM (P : Nat → Int32) : Prop := sm 0 P 0 6 + sm 0 P 6 6 = 0 ∨ P 28 = 300 ∨ allM P < 2 * P 24 ∨ allM P < 2 * P 25
def endsM (P : Nat → Int32) : Nat → Int32 := fun j => if j < 12 then 0 else if j = 24 then sm (P 24) P 0 6 else if j = 25 then sm (P 25) P 6 6 else if j = 27 then 1 else P j
/-- whose turn it is behind a move of pl -/
def turnM (P : Nat → Int32) (pl : Nat) : Int32 := if 0 < sm 0 P (6 * (1 - pl)) 6 then nI (1 - pl) else nI pl
def finM (P : Nat → Int32) (pl : Nat) : Nat → Int32 :=
  if overM P then upd (endsM P) 26 (nI (1 - pl)) else upd (upd P 27 0) 26 (turnM P pl)
def mvA (P : Nat → Int32) (fr pl : Nat) : (Nat → Int32) × Nat := lapsF 21 (clrL P) fr pl
def mvB (P : Nat → Int32) (fr pl : Nat) : Nat → Int32 := upd (upd (upd (mvA P fr pl).1 29 (nI fr)) 31 (nI (mvA P fr pl).2)) 28 ((mvA P fr pl).1 28 + 1)
def mvM (P : Nat → Int32) (fr : Nat) : Nat → Int32 := finM (mvB P fr (P 26).toNatClampNeg) (P 26).toNatClampNeg
