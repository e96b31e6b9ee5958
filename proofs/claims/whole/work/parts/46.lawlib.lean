-- the law: its world, what holds at its loop's head
def R_law : String := "HostileHousesLaw"
def lw_P (b : Addr) (xs : List Int32) (args : Array Value) (s : State) : Prop := args = #[.ref b] ∧ s.IntsAt b xs ∧ xs.length ≤ 1536 ∧ (Jvm.Cond.and given_1 narrow_1).before args s = true
def lw_Q (_ : Array Value) (s : State) (o : Outcome) (t : State) : Prop := o = .returned (some (.int 1)) ∧ Framed s o t [] 600000 7302250
def lw_Z (below : List Frame) (a : Array Value) (s : State) : State → Prop := fun t => ∃ o, t.status = .running ∧ Ended t below o ∧ lw_Q a s o t
/-- the law's own end, with 1 on the stack, nothing written that was there before, its room as the claim has it -/
theorem lw_ret {p : Program} {l : Launch} {e : Env} {s : State} {m : MethodId} {below : List Frame} {meth : Method} {c : Code} {b : Nat} (hx : p.tables.exec = Jvm.exec) (hb : c.code = code) (hr : meth.sig.returnType = ret) (hlocks : meth.locks = false) {pc : Nat} {H : Heap} {ls : Array Slot} (hdg : decode code pc = .ok (.ireturn, 1)) : W p l e room_1 s m #[Value.ref b] below meth c H [] 600000 7302250 (lw_Z below #[Value.ref b] s) (F0 m pc ls [.int 1]) := by
  intro T hT X
  obtain ⟨fs, hret, hrun, hended, hW, hframe⟩ := X.leave (v := some (.int 1)) (hlocks := hlocks) (fun h => by rw [hr] at h; cases h)
  have hmeth' : T.vm.method? m = some meth := X.method'
  refine ⟨T.setFrames fs, ?_, .returned (some (.int 1)), hrun, hended, rfl, ⟨_, rfl⟩, hW, hframe⟩
  jvm_step X.here [X.here.top, hx, hb, hdg, hmeth', hr, ret, narrow_b1]
  (try refine ⟨rfl, ?_⟩); (try refine ⟨rfl, ?_⟩)
  first | (intro acts; rw [hret _ acts rfl rfl rfl]) | rw [hret _ _ rfl rfl rfl]
  exact Steps.refl _
/-- what holds at the law's entry -/
def lw_At (p : Program) (s : State) (m : MethodId) (meth : Method) (c : Code) (b L : Nat) (xs : Nat → Int32) : Prop :=
  p.tables.exec = Jvm.exec ∧ c.code = code ∧ meth.sig.returnType = ret ∧ c.maxLocals = 4 ∧ s.vm.findClass R_law = some m.cls ∧ (∀ w ∈ lw_tbl, w.before #[Value.ref b] s = true) ∧ va_X b L xs s s.heap ∧ b < s.heap.size ∧ meth.locks = false ∧ (Jvm.Cond.and given_1 narrow_1).before #[Value.ref b] s = true
abbrev lwF (T : Nat → ClassId) (n a : Nat → Nat) (hd sd bd : Nat → Nat → Nat) (ta z : Nat → Nat) (Y : YD) (u : UX) (c0 : SD) : va_W := ((nblk T a Y.all u.1.1 u.1.2.1) ++ ([(n 0, .inr (6, [.ref (a 0), .ref (n 1), .ref (n 2), .ref (n 3), .ref (n 4), .ref (n 5)])), (n 1, .inr (0, [.ref (n 6), .int (nI u.1.2.2.2), .int (nI Y.nh)])), (n 6, .inl (T 4, 6, .inr (.inr (.inr (.inr (fun j => some (hd j 0)))))))] ++ ((blk T (hd 0) (u.1.2.2.1 0)) ++ ((blk T (hd 1) (u.1.2.2.1 1)) ++ ((blk T (hd 2) (u.1.2.2.1 2)) ++ ((blk T (hd 3) (u.1.2.2.1 3)) ++ ((blk T (hd 4) (u.1.2.2.1 4)) ++ ((blk T (hd 5) (u.1.2.2.1 5)) ++ ([(n 2, .inl (T 4, 2, .inr (.inr (.inr (.inr (fun j => some (sd j 0))))))), (n 3, .inl (T 2, 2, .inl Y.isv))] ++ ((blk T (sd 0) (u.2.1 0)) ++ ((blk T (sd 1) (u.2.1 1)) ++ ([(n 4, .inr (2, [.ref (n 7), .ref (n 8), .int (nI Y.pn)])), (n 7, .inl (T 1, 60, .inl Y.pad)), (n 8, .inl (T 0, 15, .inl u.2.2.1)), (n 5, .inr (1, [.ref (ta 0), .ref (n 9), .ref (n 10)])), (n 9, .inr (4, [.int (u.2.2.2.2.1 0), .int (u.2.2.2.2.1 1), .int (u.2.2.2.2.1 2), .int (u.2.2.2.2.1 3), .int (u.2.2.2.2.1 4)])), (n 10, .inl (T 3, 5, .inr (.inr (.inr (.inr (fun j => some (bd j 0)))))))] ++ ((pblk T (bd 1) (u.2.2.2.1 1)) ++ ((pblk T (bd 2) (u.2.2.2.1 2)) ++ ((pblk T (bd 3) (u.2.2.2.1 3)) ++ ((pblk T (bd 4) (u.2.2.2.1 4)) ++ ((pblk T ta u.2.2.2.2.2) ++ ((mw T z Y c0)))))))))))))))))))
def LI (D : va_G) (T : Nat → ClassId) (A : Nat → Prop) (s : State) (n a : Nat → Nat) (hd sd bd : Nat → Nat → Nat) (ta z : Nat → Nat) (H : Heap) (locs : List Loc) : Prop :=
  ∃ (Y : YD) (u : UX) (c0 : SD), YOK Y ∧ (nrel Y.all u.1.1 u.1.2.1 ∧ hrel u.1.2.2.1 u.1.2.2.2 Y.H Y.nh ∧ slrel u.2.1 Y) ∧ Wd D T A s (lwF T n a hd sd bd ta z Y u c0) H locs
section SLD
variable {p : Program} {l : Launch} {e : Env} {R : Room} {s : State} {m : MethodId} {args : Array Value} {below : List Frame} {meth : Method} {c : Code} {H : Heap} {locs : List Loc} {cells slots : Nat} {Q : State → Prop} {cc : ByteArray} {nL : Nat} {own : String} {D : va_G} {T : Nat → ClassId} {A : Nat → Prop} {ws : va_W} {pc : Nat} {ls : Array Slot} {rest : List Value}
theorem sld (F : CallFix p m c cc nL s args gtbl own) {b L : Nat} {xs : Nat → Int32} (hX : va_X b L xs s s.heap) (hbl : b < s.heap.size) (hbA : ¬ A b) (hW : Wd D T A s ws H locs) {k : Nat} (hk : k < L) (hL : L ≤ 1536) (hdg : decode cc pc = .ok (.iaload, 1))
    (kk : W p l e R s m args below meth c H locs cells slots Q (F0 m (pc + 1) ls (.int (xs k) :: rest))) : W p l e R s m args below meth c H locs cells slots Q (F0 m pc ls (.int (nI k) :: .ref b :: rest)) := by
  refine va_sld F.1 F.2.1 hX hbl hbA hW.2.2.2.1 (vp_in_nI hk (by omega)) hdg ?_
  rw [nI_clamp (by omega)]
  exact kk
end SLD
theorem slrel_cg {ss : Nat → Nat → Int32} {Y Y2 : YD} (h : slrel ss Y) (h1 : Y2.slo = Y.slo) (h2 : Y2.isv = Y.isv) : slrel ss Y2 := by
  refine ⟨h.1, fun k hk hv => ?_⟩
  rw [h2] at hv
  rw [h1]
  exact h.2 k hk hv
-- what the calls keep
theorem kp_set (Y : YD) (w v : Int32) : (ySet Y w v).2.slo = Y.slo ∧ (ySet Y w v).2.isv = Y.isv ∧ (ySet Y w v).2.pad = Y.pad ∧ (ySet Y w v).2.pn = Y.pn := by unfold ySet; split <;> exact ⟨rfl, rfl, rfl, rfl⟩
theorem kp_begin (Y : YD) : (yBegin Y).2.slo = Y.slo ∧ (yBegin Y).2.isv = Y.isv ∧ (yBegin Y).2.pad = Y.pad ∧ (yBegin Y).2.pn = Y.pn := ⟨rfl, rfl, rfl, rfl⟩
theorem kp_move (Y : YD) (v : Int32) : (yMove Y v).2.slo = Y.slo ∧ (yMove Y v).2.isv = Y.isv ∧ (yMove Y v).2.pad = Y.pad ∧ (yMove Y v).2.pn = Y.pn := by
  unfold yMove
  repeat' split
  all_goals exact ⟨rfl, rfl, rfl, rfl⟩
theorem kp_play (Y : YD) (v : Int32) : (yPlay Y v).2.slo = Y.slo ∧ (yPlay Y v).2.isv = Y.isv ∧ (yPlay Y v).2.pad = Y.pad ∧ (yPlay Y v).2.pn = Y.pn := by
  unfold yPlay
  repeat' split
  all_goals exact ⟨rfl, rfl, rfl, rfl⟩
theorem kp_undo (Y : YD) : (yUndo Y).2.slo = Y.slo ∧ (yUndo Y).2.isv = Y.isv ∧ (yUndo Y).2.pad = Y.pad ∧ (yUndo Y).2.pn = Y.pn := by
  unfold yUndo
  repeat' split
  all_goals exact ⟨rfl, rfl, rfl, rfl⟩
theorem kp_restore (Y : YD) (v : Int32) : (yRestore Y v).2.slo = Y.slo ∧ (yRestore Y v).2.isv = Y.isv ∧ (yRestore Y v).2.pad = Y.pad ∧ (yRestore Y v).2.pn = Y.pn := by
  unfold yRestore
  repeat' split
  all_goals exact ⟨rfl, rfl, rfl, rfl⟩
theorem kp_read (Y : YD) : (yRead Y).2.slo = Y.slo ∧ (yRead Y).2.isv = Y.isv := by
  unfold yRead
  repeat' split
  all_goals exact ⟨rfl, rfl⟩
theorem kp_put (Y : YD) (v : Nat) : (yPut Y v).2.slo = Y.slo ∧ (yPut Y v).2.isv = Y.isv ∧ (yPut Y v).2.all = Y.all ∧ (yPut Y v).2.H = Y.H ∧ (yPut Y v).2.nh = Y.nh := by
  unfold yPut
  repeat' split
  all_goals exact ⟨rfl, rfl, rfl, rfl, rfl⟩
theorem kp_wipe (Y : YD) : (yWipe Y).2.slo = Y.slo ∧ (yWipe Y).2.isv = Y.isv ∧ (yWipe Y).2.all = Y.all ∧ (yWipe Y).2.H = Y.H ∧ (yWipe Y).2.nh = Y.nh ∧ (yWipe Y).2.pad = Y.pad := ⟨rfl, rfl, rfl, rfl, rfl, rfl⟩
theorem kp_save (Y : YD) (v : Int32) : (ySave Y v).2.all = Y.all ∧ (ySave Y v).2.H = Y.H ∧ (ySave Y v).2.nh = Y.nh ∧ (ySave Y v).2.pad = Y.pad ∧ (ySave Y v).2.pn = Y.pn := by
  unfold ySave
  repeat' split
  all_goals exact ⟨rfl, rfl, rfl, rfl, rfl⟩
theorem sn_house (Y : YD) (v w : Int32) : (yHouse Y v w).2 = Y := by
  unfold yHouse
  repeat' split
  all_goals rfl
theorem sn_count (Y : YD) (v : Int32) : (yCount Y v).2 = Y := by
  unfold yCount
  repeat' split
  all_goals rfl
theorem sn_last (Y : YD) (v : Int32) : (yLast Y v).2 = Y := by
  unfold yLast
  repeat' split
  all_goals rfl
theorem sn_moved (Y : YD) (v : Int32) : (yMoved Y v).2 = Y := by
  unfold yMoved
  repeat' split
  all_goals rfl
theorem sn_ifMove (Y : YD) (v w : Int32) : (yIfMove Y v w).2 = Y := by
  unfold yIfMove
  repeat' split
  all_goals rfl
theorem sn_worth (Y : YD) (v : Int32) : (yWorth Y v).2 = Y := by
  unfold yWorth
  repeat' split
  all_goals rfl
theorem sn_best (Y : YD) (v : Int32) : (yBest Y v).2 = Y := by
  unfold yBest
  repeat' split
  all_goals rfl
theorem sn_movesLeft (Y : YD) (v : Int32) : (yMovesLeft Y v).2 = Y := by
  unfold yMovesLeft
  repeat' split
  all_goals rfl
theorem sn_fault (Y : YD) : (yFault Y).2 = Y := rfl
