-- the law from its entry
set_option maxHeartbeats 4000000 in
set_option maxRecDepth 100000 in
theorem whole_start {p : Program} {e : Env} {s : State} {m : MethodId} {below : List Frame} {meth : Method} {c : Code} (l : Launch) (hflags : l.flags = flags0) {b L : Nat} {xs : Nat → Int32} (hL : L ≤ 1536) (C0 : lw_At p s m meth c b L xs) : W p l e room_1 s m #[Value.ref b] below meth c s.heap [] 0 0 (lw_Z below #[Value.ref b] s) (entryFrame m ([Value.ref b] : List Value).toArray 4) := by
  obtain ⟨hx, hb, hr, hml, hown, hts, hX, hbl, hlocks, hgv⟩ := id C0
  have hg : ∀ w ∈ gtbl, w.before #[Value.ref b] s = true := fun w hw => hts w (List.mem_filter.mp hw).1
  have hG := start_G hts hgv
  obtain ⟨D, T, hK⟩ := start_K hg hG.2.1.2 hG.2.1.1
  have F : CallFix p m c cL_law 4 s #[Value.ref b] gtbl RL := ⟨hx, hb, hml, hown, hg⟩
  have hW : Wd D T (fun q : Nat => s.heap.size ≤ q) s [] s.heap [] := ⟨hK, fun k q h => by simp at h, ⟨fun i j p q h => by simp at h, fun k q h => by simp at h⟩, va_S.rf, fun _ h => h⟩
  have hl := lv_entry ([.ref b]) (n := 4) (Nat.le_of_ble_eq_true rfl)
  rw [lg_entry_eq]
  generalize (lg_sl ([.ref b]) ++ List.replicate (4 - (lg_sl ([.ref b])).length) Slot.unset).toArray = ls at hl ⊢
  have hl : lv_has ls 4 [(0, .ref b)] := hl
  refine wnew F hW 6 gX6 tyX6_ok m35 m36 m25 rfl [.null, .null, .null, .null, .null, .null] (fun j hj => by rcases (show j = 0 ∨ j = 1 ∨ j = 2 ∨ j = 3 ∨ j = 4 ∨ j = 5 by omega) with rfl | rfl | rfl | rfl | rfl | rfl <;> rfl) ⟨Nat.le_of_ble_eq_true rfl, Nat.le_of_ble_eq_true rfl⟩ dL_law_0 (fun n0 H hW => ?_)
  have hW := Wd.is hW (ws' := [(n0, .inr (6, [.null, .null, .null, .null, .null, .null]))]) rfl
  refine lv_dup hx hb dL_law_3 rfl ?_
  refine cNI (rest := [.ref n0]) (wr := []) F hG hW hl m37 m38 m25 m39 (by decide +kernel) (i_Game l D T n0) [0] [] rfl rfl rfl rfl (by decide) (Nat.le_of_ble_eq_true rfl) ⟨Nat.le_of_ble_eq_true rfl, Nat.le_of_ble_eq_true rfl⟩ ⟨Nat.le_of_ble_eq_true rfl, Nat.le_of_ble_eq_true rfl⟩ dL_law_4 (fun u4 H locs hu4 hV => ?_)
  subst hu4
  have hW := Wd.is hV (ws' := (xwF T u4.1 u4.2.1 u4.2.2.1 u4.2.2.2.1 u4.2.2.2.2.1 u4.2.2.2.2.2 Y0 u00)) rfl
  refine lv_astore_n (lv' := [(1, .ref (u4.1 0)), (0, .ref b)]) hx hb dL_law_7 rfl hl (by decide) rfl (fun ls hl => ?_)
  refine wnew F hW 7 gX7 tyX7_ok m468 m469 m32 rfl [.null, .null, .int 0, .null, .null, .null, .null, .null, .null, .null, .int 0, .int 0, .null] (fun j hj => by rcases (show j = 0 ∨ j = 1 ∨ j = 2 ∨ j = 3 ∨ j = 4 ∨ j = 5 ∨ j = 6 ∨ j = 7 ∨ j = 8 ∨ j = 9 ∨ j = 10 ∨ j = 11 ∨ j = 12 by omega) with rfl | rfl | rfl | rfl | rfl | rfl | rfl | rfl | rfl | rfl | rfl | rfl | rfl <;> rfl) ⟨Nat.le_of_ble_eq_true rfl, Nat.le_of_ble_eq_true rfl⟩ dL_law_8 (fun n8 H hW => ?_)
  have hW := Wd.is hW (ws' := ((xwF T u4.1 u4.2.1 u4.2.2.1 u4.2.2.2.1 u4.2.2.2.2.1 u4.2.2.2.2.2 Y0 u00) ++ ([(n8, .inr (7, [.null, .null, .int 0, .null, .null, .null, .null, .null, .null, .null, .int 0, .int 0, .null]))]))) rfl
  refine lv_dup hx hb dL_law_11 rfl ?_
  refine cNI (rest := [.ref n8]) (wr := (xwF T u4.1 u4.2.1 u4.2.2.1 u4.2.2.2.1 u4.2.2.2.2.1 u4.2.2.2.2.2 Y0 u00)) F hG hW hl m470 m471 m32 m472 (by decide +kernel) (i_Model l D T n8) [103] [0, 1, 2, 3, 4, 5, 6, 7, 8, 9, 10, 11, 12, 13, 14, 15, 16, 17, 18, 19, 20, 21, 22, 23, 24, 25, 26, 27, 28, 29, 30, 31, 32, 33, 34, 35, 36, 37, 38, 39, 40, 41, 42, 43, 44, 45, 46, 47, 48, 49, 50, 51, 52, 53, 54, 55, 56, 57, 58, 59, 60, 61, 62, 63, 64, 65, 66, 67, 68, 69, 70, 71, 72, 73, 74, 75, 76, 77, 78, 79, 80, 81, 82, 83, 84, 85, 86, 87, 88, 89, 90, 91, 92, 93, 94, 95, 96, 97, 98, 99, 100, 101, 102] rfl rfl rfl rfl (by decide) (Nat.le_of_ble_eq_true rfl) ⟨Nat.le_of_ble_eq_true rfl, Nat.le_of_ble_eq_true rfl⟩ ⟨Nat.le_of_ble_eq_true rfl, Nat.le_of_ble_eq_true rfl⟩ dL_law_12 (fun u12 H locs hu12 hV => ?_)
  subst hu12
  have hW := Wd.is hV (ws' := ((xwF T u4.1 u4.2.1 u4.2.2.1 u4.2.2.2.1 u4.2.2.2.2.1 u4.2.2.2.2.2 Y0 u00) ++ ((mw T u12 Y0 (z0, z0, z0, z0, z0, 0))))) rfl
  refine lv_astore_n (lv' := [(2, .ref (u12 0)), (1, .ref (u4.1 0)), (0, .ref b)]) hx hb dL_law_15 rfl hl (by decide) rfl (fun ls hl => ?_)
  refine lv_iconst (v := nI 0) hx hb dL_law_16 (by decide) ?_
  refine lv_istore_n (lv' := [(3, .int (nI 0)), (2, .ref (u12 0)), (1, .ref (u4.1 0)), (0, .ref b)]) hx hb dL_law_17 rfl hl (by decide) rfl (fun ls hl => ?_)
  have hW := Wd.is hW (ws' := lwF T u4.1 u4.2.1 u4.2.2.1 u4.2.2.2.1 u4.2.2.2.2.1 u4.2.2.2.2.2 u12 Y0 u00 (z0, z0, z0, z0, z0, 0)) rfl
  refine W.widen (k := 600000) (n := 7302250) (Nat.le_of_ble_eq_true rfl) (Nat.le_of_ble_eq_true rfl) ?_
  exact law_loop hL C0 F hG (n := u4.1) (a := u4.2.1) (hd := u4.2.2.1) (sd := u4.2.2.2.1) (bd := u4.2.2.2.2.1) (ta := u4.2.2.2.2.2) (z := u12) (L + 3) 0 _ _ _ (by omega) (by omega) ⟨Y0, u00, (z0, z0, z0, z0, z0, 0), yok0, ⟨nrel_z rfl, ⟨by decide, fun i _ => Or.inl rfl, fun i hi => absurd hi (Nat.not_lt_zero i)⟩, ⟨fun k _ => Or.inl rfl, fun k _ h => absurd (show (0 : Int32) = 1 from h) (by decide)⟩⟩, hW⟩ (lv_sub hl [3, 2, 1, 0] rfl)
