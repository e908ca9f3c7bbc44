def fWorth (u : Int32) (q : Int32) : UInt32 := (FP.fmul (FP.i2f u) (FP.i2f q))
set_option maxHeartbeats 4000000 in
set_option maxRecDepth 100000 in
theorem c_X0_worth (l : Launch) (Hp : Heap) (u : Int32) (q : Int32) (hn : vf_n32 (FP.fmul (FP.i2f u) (FP.i2f q))) : Met l yX0_worth wsX0_worth ({ frames := 2, cells := 0, slots := 0, locals := 40 }) (va_Pc [.int u, .int q] (fun U => U.heap = Hp)) (va_Qf (fun (r : UInt32) (_ : Unit) => r = fWorth u q) (fun _ t => t.heap = Hp) (fun _ => False)) 0 0 (fun _ => False) := by
  refine Met.ofW (cc := cX0_worth) (maxL := 2) (ret := some .float) (by decide) rfl ?_
  intro p e s m args below meth c s₁ B hml hv
  obtain ⟨rfl, hH⟩ := hv
  subst hH
  have hx := B.exec
  have hb := B.bytes
  have hr := B.returns
  have hts := atoms_spec (ws := wsX0_worth) B.pre
  have hown : s.vm.findClass RX0 = some m.cls := findClass_of_methodNamed B.named
  have hlocks := B.notSynchronized
  have hS : va_S (fun _ => False) s.heap s.heap [] := va_S.rf
  have hA : ∀ q : Nat, s.heap.size ≤ q → aNew s.heap q := fun q h => h
  have hl := lv_entry ([.int u, .int q]) (n := 2) (Nat.le_of_ble_eq_true rfl)
  rw [lg_entry_eq]
  generalize (lg_sl ([.int u, .int q]) ++ List.replicate (2 - (lg_sl ([.int u, .int q])).length) Slot.unset).toArray = ls at hl ⊢
  have hl : lv_has ls 2 [(0, .int u), (1, .int q)] := hl
  refine lv_iload_n hx hb dX0_worth_0 rfl (lv_at hl 0 rfl) ?_
  refine lv_i2f hx hb dX0_worth_1 ?_
  refine lv_iload_n hx hb dX0_worth_2 rfl (lv_at hl 1 rfl) ?_
  refine lv_i2f hx hb dX0_worth_3 ?_
  refine lv_fmul hx hb dX0_worth_4 hn ?_
  exact W.fret hx hb hr (fun t ht hW => ⟨⟨_, (), rfl, rfl, ht⟩, (va_S.rf (A := fun _ => False)).F ht⟩) (fun q hq => absurd hq List.not_mem_nil) dX0_worth_5
def fWorks (h : Int32) (v : Int32) (re : Int32) (ce : Int32) : Int32 := (if 1000 ≤ v then 0 else (if h < re then 0 else (if h < ce then 0 else 1)))
set_option maxHeartbeats 4000000 in
set_option maxRecDepth 100000 in
theorem c_X0_works (l : Launch) (Hp : Heap) (h : Int32) (v : Int32) (re : Int32) (ce : Int32) : Met l yX0_works wsX0_works ({ frames := 2, cells := 0, slots := 0, locals := 40 }) (va_Pc [.int h, .int v, .int re, .int ce] (fun U => U.heap = Hp)) (va_Qi (fun (r : Int32) (_ : Unit) => r = fWorks h v re ce) (fun _ t => t.heap = Hp) (fun _ => False)) 0 0 (fun _ => False) := by
  refine Met.ofW (cc := cX0_works) (maxL := 4) (ret := some .boolean) (by decide) rfl ?_
  intro p e s m args below meth c s₁ B hml hv
  obtain ⟨rfl, hH⟩ := hv
  subst hH
  have hx := B.exec
  have hb := B.bytes
  have hr := B.returns
  have hts := atoms_spec (ws := wsX0_works) B.pre
  have hown : s.vm.findClass RX0 = some m.cls := findClass_of_methodNamed B.named
  have hlocks := B.notSynchronized
  have hS : va_S (fun _ => False) s.heap s.heap [] := va_S.rf
  have hA : ∀ q : Nat, s.heap.size ≤ q → aNew s.heap q := fun q h => h
  have hl := lv_entry ([.int h, .int v, .int re, .int ce]) (n := 4) (Nat.le_of_ble_eq_true rfl)
  rw [lg_entry_eq]
  generalize (lg_sl ([.int h, .int v, .int re, .int ce]) ++ List.replicate (4 - (lg_sl ([.int h, .int v, .int re, .int ce])).length) Slot.unset).toArray = ls at hl ⊢
  have hl : lv_has ls 4 [(0, .int h), (1, .int v), (2, .int re), (3, .int ce)] := hl
  refine lv_iload_n hx hb dX0_works_0 rfl (lv_at hl 1 rfl) ?_
  refine lv_sipush (v := 1000) hx hb dX0_works_1 (by decide) ?_
  refine lv_icmp_ge (tgt := 21) hx hb dX0_works_4 (by decide) (fun cq1 => ?_) (fun cq1 => ?_)
  · refine lv_iconst (v := 0) hx hb dX0_works_21 (by decide) ?_
    exact W.zret hx hb hr rfl (fun t ht hW => ⟨⟨_, (), rfl, (by unfold fWorks; rw [if_pos cq1]), ht⟩, (va_S.rf (A := fun _ => False)).F ht⟩) (fun q hq => absurd hq List.not_mem_nil) dX0_works_22
  · refine lv_iload_n hx hb dX0_works_7 rfl (lv_at hl 0 rfl) ?_
    refine lv_iload_n hx hb dX0_works_8 rfl (lv_at hl 2 rfl) ?_
    refine lv_icmp_lt (tgt := 21) hx hb dX0_works_9 (by decide) (fun cq2 => ?_) (fun cq2 => ?_)
    · refine lv_iconst (v := 0) hx hb dX0_works_21 (by decide) ?_
      exact W.zret hx hb hr rfl (fun t ht hW => ⟨⟨_, (), rfl, (by unfold fWorks; rw [if_neg cq1, if_pos cq2]), ht⟩, (va_S.rf (A := fun _ => False)).F ht⟩) (fun q hq => absurd hq List.not_mem_nil) dX0_works_22
    · refine lv_iload_n hx hb dX0_works_12 rfl (lv_at hl 0 rfl) ?_
      refine lv_iload_n hx hb dX0_works_13 rfl (lv_at hl 3 rfl) ?_
      refine lv_icmp_lt (tgt := 21) hx hb dX0_works_14 (by decide) (fun cq3 => ?_) (fun cq3 => ?_)
      · refine lv_iconst (v := 0) hx hb dX0_works_21 (by decide) ?_
        exact W.zret hx hb hr rfl (fun t ht hW => ⟨⟨_, (), rfl, (by unfold fWorks; rw [if_neg cq1, if_neg cq2, if_pos cq3]), ht⟩, (va_S.rf (A := fun _ => False)).F ht⟩) (fun q hq => absurd hq List.not_mem_nil) dX0_works_22
      · refine lv_iconst (v := 1) hx hb dX0_works_17 (by decide) ?_
        refine lv_goto (tgt := 22) hx hb dX0_works_18 (by decide) ?_
        exact W.zret hx hb hr rfl (fun t ht hW => ⟨⟨_, (), rfl, (by unfold fWorks; rw [if_neg cq1, if_neg cq2, if_neg cq3]), ht⟩, (va_S.rf (A := fun _ => False)).F ht⟩) (fun q hq => absurd hq List.not_mem_nil) dX0_works_22
def fUnits (hd : Int32) (g : Int32) (v : Int32) : Int32 := (((hd * g) * (1000 - v)) / 8000)
set_option maxHeartbeats 4000000 in
set_option maxRecDepth 100000 in
theorem c_X0_unitsOf (l : Launch) (Hp : Heap) (hd : Int32) (g : Int32) (v : Int32) : Met l yX0_unitsOf wsX0_unitsOf ({ frames := 2, cells := 0, slots := 0, locals := 40 }) (va_Pc [.int hd, .int g, .int v] (fun U => U.heap = Hp)) (va_Qi (fun (r : Int32) (_ : Unit) => r = fUnits hd g v) (fun _ t => t.heap = Hp) (fun _ => False)) 0 0 (fun _ => False) := by
  refine Met.ofW (cc := cX0_unitsOf) (maxL := 3) (ret := some .int) (by decide) rfl ?_
  intro p e s m args below meth c s₁ B hml hv
  obtain ⟨rfl, hH⟩ := hv
  subst hH
  have hx := B.exec
  have hb := B.bytes
  have hr := B.returns
  have hts := atoms_spec (ws := wsX0_unitsOf) B.pre
  have hown : s.vm.findClass RX0 = some m.cls := findClass_of_methodNamed B.named
  have hlocks := B.notSynchronized
  have hS : va_S (fun _ => False) s.heap s.heap [] := va_S.rf
  have hA : ∀ q : Nat, s.heap.size ≤ q → aNew s.heap q := fun q h => h
  have hl := lv_entry ([.int hd, .int g, .int v]) (n := 3) (Nat.le_of_ble_eq_true rfl)
  rw [lg_entry_eq]
  generalize (lg_sl ([.int hd, .int g, .int v]) ++ List.replicate (3 - (lg_sl ([.int hd, .int g, .int v])).length) Slot.unset).toArray = ls at hl ⊢
  have hl : lv_has ls 3 [(0, .int hd), (1, .int g), (2, .int v)] := hl
  refine lv_iload_n hx hb dX0_unitsOf_0 rfl (lv_at hl 0 rfl) ?_
  refine lv_iload_n hx hb dX0_unitsOf_1 rfl (lv_at hl 1 rfl) ?_
  refine lv_imul hx hb dX0_unitsOf_2 ?_
  refine lv_sipush (v := 1000) hx hb dX0_unitsOf_3 (by decide) ?_
  refine lv_iload_n hx hb dX0_unitsOf_6 rfl (lv_at hl 2 rfl) ?_
  refine lv_isub hx hb dX0_unitsOf_7 ?_
  refine lv_imul hx hb dX0_unitsOf_8 ?_
  refine lv_sipush (v := 8000) hx hb dX0_unitsOf_9 (by decide) ?_
  refine lv_idiv hx hb dX0_unitsOf_12 (by decide) ?_
  exact W.iret hx hb hr (fun t ht hW => ⟨⟨_, (), rfl, rfl, ht⟩, (va_S.rf (A := fun _ => False)).F ht⟩) (fun q hq => absurd hq List.not_mem_nil) dX0_unitsOf_13
def fWear (hd : Int32) (g : Int32) (v : Int32) : Int32 := (if g = 0 then v else (if hd ≤ 60 then (if (v + g) < 1000 then (v + g) else 1000) else (if (v + (g + 2)) < 1000 then (v + (g + 2)) else 1000)))
set_option maxHeartbeats 4000000 in
set_option maxRecDepth 100000 in
theorem c_X0_wearAfter (l : Launch) (Hp : Heap) (hd : Int32) (g : Int32) (v : Int32) : Met l yX0_wearAfter wsX0_wearAfter ({ frames := 2, cells := 0, slots := 0, locals := 40 }) (va_Pc [.int hd, .int g, .int v] (fun U => U.heap = Hp)) (va_Qi (fun (r : Int32) (_ : Unit) => r = fWear hd g v) (fun _ t => t.heap = Hp) (fun _ => False)) 0 0 (fun _ => False) := by
  refine Met.ofW (cc := cX0_wearAfter) (maxL := 4) (ret := some .int) (by decide) rfl ?_
  intro p e s m args below meth c s₁ B hml hv
  obtain ⟨rfl, hH⟩ := hv
  subst hH
  have hx := B.exec
  have hb := B.bytes
  have hr := B.returns
  have hts := atoms_spec (ws := wsX0_wearAfter) B.pre
  have hown : s.vm.findClass RX0 = some m.cls := findClass_of_methodNamed B.named
  have hlocks := B.notSynchronized
  have hS : va_S (fun _ => False) s.heap s.heap [] := va_S.rf
  have hA : ∀ q : Nat, s.heap.size ≤ q → aNew s.heap q := fun q h => h
  have hl := lv_entry ([.int hd, .int g, .int v]) (n := 4) (Nat.le_of_ble_eq_true rfl)
  rw [lg_entry_eq]
  generalize (lg_sl ([.int hd, .int g, .int v]) ++ List.replicate (4 - (lg_sl ([.int hd, .int g, .int v])).length) Slot.unset).toArray = ls at hl ⊢
  have hl : lv_has ls 4 [(0, .int hd), (1, .int g), (2, .int v)] := hl
  refine lv_iload_n hx hb dX0_wearAfter_0 rfl (lv_at hl 1 rfl) ?_
  refine lv_if_ne (tgt := 6) hx hb dX0_wearAfter_1 (by decide) (fun cq1 => ?_) (fun cq1 => ?_)
  · refine lv_iload_n hx hb dX0_wearAfter_6 rfl (lv_at hl 0 rfl) ?_
    refine lv_bipush (v := 60) hx hb dX0_wearAfter_7 (by decide) ?_
    refine lv_icmp_le (tgt := 18) hx hb dX0_wearAfter_9 (by decide) (fun cq2 => ?_) (fun cq2 => ?_)
    · refine lv_iload_n hx hb dX0_wearAfter_18 rfl (lv_at hl 1 rfl) ?_
      refine lv_istore_n (lv' := [(3, .int g), (0, .int hd), (1, .int g), (2, .int v)]) hx hb dX0_wearAfter_19 rfl hl (by decide) rfl (fun ls hl => ?_)
      refine lv_sipush (v := 1000) hx hb dX0_wearAfter_20 (by decide) ?_
      refine lv_iload_n hx hb dX0_wearAfter_23 rfl (lv_at hl 3 rfl) ?_
      refine lv_iload_n hx hb dX0_wearAfter_24 rfl (lv_at hl 0 rfl) ?_
      refine lv_iadd hx hb dX0_wearAfter_25 ?_
      refine va_mmin hx hb (hml.trans hl.1.symm) hown (hts (.methodLink RX0 129 Lib.Math.min.name) (by decide +kernel)) (hts (.static Lib.Math.min.name) (by decide +kernel)) (hts (.initialized "java/lang/Math") (by decide +kernel)) (hts (.code Lib.Math.min.name Lib.Math.min.code 2 (some .int)) (by decide +kernel)) (Nat.le_of_ble_eq_true rfl) (Nat.le_of_ble_eq_true rfl) (Nat.le_of_ble_eq_true rfl) (Nat.le_of_ble_eq_true rfl) dX0_wearAfter_26 ?_
      exact W.iret hx hb hr (fun t ht hW => ⟨⟨_, (), rfl, (by unfold fWear; rw [if_neg cq1, if_pos cq2]), ht⟩, (va_S.rf (A := fun _ => False)).F ht⟩) (fun q hq => absurd hq List.not_mem_nil) dX0_wearAfter_29
    · refine lv_iload_n hx hb dX0_wearAfter_12 rfl (lv_at hl 1 rfl) ?_
      refine lv_iconst (v := 2) hx hb dX0_wearAfter_13 (by decide) ?_
      refine lv_iadd hx hb dX0_wearAfter_14 ?_
      refine lv_goto (tgt := 19) hx hb dX0_wearAfter_15 (by decide) ?_
      refine lv_istore_n (lv' := [(3, .int (g + 2)), (0, .int hd), (1, .int g), (2, .int v)]) hx hb dX0_wearAfter_19 rfl hl (by decide) rfl (fun ls hl => ?_)
      refine lv_sipush (v := 1000) hx hb dX0_wearAfter_20 (by decide) ?_
      refine lv_iload_n hx hb dX0_wearAfter_23 rfl (lv_at hl 3 rfl) ?_
      refine lv_iload_n hx hb dX0_wearAfter_24 rfl (lv_at hl 0 rfl) ?_
      refine lv_iadd hx hb dX0_wearAfter_25 ?_
      refine va_mmin hx hb (hml.trans hl.1.symm) hown (hts (.methodLink RX0 129 Lib.Math.min.name) (by decide +kernel)) (hts (.static Lib.Math.min.name) (by decide +kernel)) (hts (.initialized "java/lang/Math") (by decide +kernel)) (hts (.code Lib.Math.min.name Lib.Math.min.code 2 (some .int)) (by decide +kernel)) (Nat.le_of_ble_eq_true rfl) (Nat.le_of_ble_eq_true rfl) (Nat.le_of_ble_eq_true rfl) (Nat.le_of_ble_eq_true rfl) dX0_wearAfter_26 ?_
      exact W.iret hx hb hr (fun t ht hW => ⟨⟨_, (), rfl, (by unfold fWear; rw [if_neg cq1, if_neg cq2]), ht⟩, (va_S.rf (A := fun _ => False)).F ht⟩) (fun q hq => absurd hq List.not_mem_nil) dX0_wearAfter_29
  · refine lv_iload_n hx hb dX0_wearAfter_4 rfl (lv_at hl 2 rfl) ?_
    exact W.iret hx hb hr (fun t ht hW => ⟨⟨_, (), rfl, (by unfold fWear; rw [if_pos cq1]), ht⟩, (va_S.rf (A := fun _ => False)).F ht⟩) (fun q hq => absurd hq List.not_mem_nil) dX0_wearAfter_5
def fHead (n : Int32) : Int32 := (n &&& 127)
set_option maxHeartbeats 4000000 in
set_option maxRecDepth 100000 in
theorem c_X0_notedHead (l : Launch) (Hp : Heap) (n : Int32) : Met l yX0_notedHead wsX0_notedHead ({ frames := 2, cells := 0, slots := 0, locals := 40 }) (va_Pc [.int n] (fun U => U.heap = Hp)) (va_Qi (fun (r : Int32) (_ : Unit) => r = fHead n) (fun _ t => t.heap = Hp) (fun _ => False)) 0 0 (fun _ => False) := by
  refine Met.ofW (cc := cX0_notedHead) (maxL := 1) (ret := some .int) (by decide) rfl ?_
  intro p e s m args below meth c s₁ B hml hv
  obtain ⟨rfl, hH⟩ := hv
  subst hH
  have hx := B.exec
  have hb := B.bytes
  have hr := B.returns
  have hts := atoms_spec (ws := wsX0_notedHead) B.pre
  have hown : s.vm.findClass RX0 = some m.cls := findClass_of_methodNamed B.named
  have hlocks := B.notSynchronized
  have hS : va_S (fun _ => False) s.heap s.heap [] := va_S.rf
  have hA : ∀ q : Nat, s.heap.size ≤ q → aNew s.heap q := fun q h => h
  have hl := lv_entry ([.int n]) (n := 1) (Nat.le_of_ble_eq_true rfl)
  rw [lg_entry_eq]
  generalize (lg_sl ([.int n]) ++ List.replicate (1 - (lg_sl ([.int n])).length) Slot.unset).toArray = ls at hl ⊢
  have hl : lv_has ls 1 [(0, .int n)] := hl
  refine lv_iload_n hx hb dX0_notedHead_0 rfl (lv_at hl 0 rfl) ?_
  refine lv_bipush (v := 127) hx hb dX0_notedHead_1 (by decide) ?_
  refine lv_iand hx hb dX0_notedHead_3 ?_
  exact W.iret hx hb hr (fun t ht hW => ⟨⟨_, (), rfl, rfl, ht⟩, (va_S.rf (A := fun _ => False)).F ht⟩) (fun q hq => absurd hq List.not_mem_nil) dX0_notedHead_4
def fGate (n : Int32) (k : Int32) : Int32 := ((n >>> ((7 + (3 * k)) &&& 31)) &&& 7)
set_option maxHeartbeats 4000000 in
set_option maxRecDepth 100000 in
theorem c_X0_notedGate (l : Launch) (Hp : Heap) (n : Int32) (k : Int32) : Met l yX0_notedGate wsX0_notedGate ({ frames := 2, cells := 0, slots := 0, locals := 40 }) (va_Pc [.int n, .int k] (fun U => U.heap = Hp)) (va_Qi (fun (r : Int32) (_ : Unit) => r = fGate n k) (fun _ t => t.heap = Hp) (fun _ => False)) 0 0 (fun _ => False) := by
  refine Met.ofW (cc := cX0_notedGate) (maxL := 2) (ret := some .int) (by decide) rfl ?_
  intro p e s m args below meth c s₁ B hml hv
  obtain ⟨rfl, hH⟩ := hv
  subst hH
  have hx := B.exec
  have hb := B.bytes
  have hr := B.returns
  have hts := atoms_spec (ws := wsX0_notedGate) B.pre
  have hown : s.vm.findClass RX0 = some m.cls := findClass_of_methodNamed B.named
  have hlocks := B.notSynchronized
  have hS : va_S (fun _ => False) s.heap s.heap [] := va_S.rf
  have hA : ∀ q : Nat, s.heap.size ≤ q → aNew s.heap q := fun q h => h
  have hl := lv_entry ([.int n, .int k]) (n := 2) (Nat.le_of_ble_eq_true rfl)
  rw [lg_entry_eq]
  generalize (lg_sl ([.int n, .int k]) ++ List.replicate (2 - (lg_sl ([.int n, .int k])).length) Slot.unset).toArray = ls at hl ⊢
  have hl : lv_has ls 2 [(0, .int n), (1, .int k)] := hl
  refine lv_iload_n hx hb dX0_notedGate_0 rfl (lv_at hl 0 rfl) ?_
  refine lv_bipush (v := 7) hx hb dX0_notedGate_1 (by decide) ?_
  refine lv_iconst (v := 3) hx hb dX0_notedGate_3 (by decide) ?_
  refine lv_iload_n hx hb dX0_notedGate_4 rfl (lv_at hl 1 rfl) ?_
  refine lv_imul hx hb dX0_notedGate_5 ?_
  refine lv_iadd hx hb dX0_notedGate_6 ?_
  refine lv_ishr hx hb dX0_notedGate_7 ?_
  refine lv_bipush (v := 7) hx hb dX0_notedGate_8 (by decide) ?_
  refine lv_iand hx hb dX0_notedGate_10 ?_
  exact W.iret hx hb hr (fun t ht hW => ⟨⟨_, (), rfl, rfl, ht⟩, (va_S.rf (A := fun _ => False)).F ht⟩) (fun q hq => absurd hq List.not_mem_nil) dX0_notedGate_11
def fRepair (n : Int32) (k : Int32) : Int32 := (if ((n >>> ((19 + k) &&& 31)) &&& 1) = 0 then 0 else 1)
set_option maxHeartbeats 4000000 in
set_option maxRecDepth 100000 in
theorem c_X0_notedRepair (l : Launch) (Hp : Heap) (n : Int32) (k : Int32) : Met l yX0_notedRepair wsX0_notedRepair ({ frames := 2, cells := 0, slots := 0, locals := 40 }) (va_Pc [.int n, .int k] (fun U => U.heap = Hp)) (va_Qi (fun (r : Int32) (_ : Unit) => r = fRepair n k) (fun _ t => t.heap = Hp) (fun _ => False)) 0 0 (fun _ => False) := by
  refine Met.ofW (cc := cX0_notedRepair) (maxL := 2) (ret := some .boolean) (by decide) rfl ?_
  intro p e s m args below meth c s₁ B hml hv
  obtain ⟨rfl, hH⟩ := hv
  subst hH
  have hx := B.exec
  have hb := B.bytes
  have hr := B.returns
  have hts := atoms_spec (ws := wsX0_notedRepair) B.pre
  have hown : s.vm.findClass RX0 = some m.cls := findClass_of_methodNamed B.named
  have hlocks := B.notSynchronized
  have hS : va_S (fun _ => False) s.heap s.heap [] := va_S.rf
  have hA : ∀ q : Nat, s.heap.size ≤ q → aNew s.heap q := fun q h => h
  have hl := lv_entry ([.int n, .int k]) (n := 2) (Nat.le_of_ble_eq_true rfl)
  rw [lg_entry_eq]
  generalize (lg_sl ([.int n, .int k]) ++ List.replicate (2 - (lg_sl ([.int n, .int k])).length) Slot.unset).toArray = ls at hl ⊢
  have hl : lv_has ls 2 [(0, .int n), (1, .int k)] := hl
  refine lv_iload_n hx hb dX0_notedRepair_0 rfl (lv_at hl 0 rfl) ?_
  refine lv_bipush (v := 19) hx hb dX0_notedRepair_1 (by decide) ?_
  refine lv_iload_n hx hb dX0_notedRepair_3 rfl (lv_at hl 1 rfl) ?_
  refine lv_iadd hx hb dX0_notedRepair_4 ?_
  refine lv_ishr hx hb dX0_notedRepair_5 ?_
  refine lv_iconst (v := 1) hx hb dX0_notedRepair_6 (by decide) ?_
  refine lv_iand hx hb dX0_notedRepair_7 ?_
  refine lv_if_eq (tgt := 15) hx hb dX0_notedRepair_8 (by decide) (fun cq1 => ?_) (fun cq1 => ?_)
  · refine lv_iconst (v := 0) hx hb dX0_notedRepair_15 (by decide) ?_
    exact W.zret hx hb hr rfl (fun t ht hW => ⟨⟨_, (), rfl, (by unfold fRepair; rw [if_pos cq1]), ht⟩, (va_S.rf (A := fun _ => False)).F ht⟩) (fun q hq => absurd hq List.not_mem_nil) dX0_notedRepair_16
  · refine lv_iconst (v := 1) hx hb dX0_notedRepair_11 (by decide) ?_
    refine lv_goto (tgt := 16) hx hb dX0_notedRepair_12 (by decide) ?_
    exact W.zret hx hb hr rfl (fun t ht hW => ⟨⟨_, (), rfl, (by unfold fRepair; rw [if_neg cq1]), ht⟩, (va_S.rf (A := fun _ => False)).F ht⟩) (fun q hq => absurd hq List.not_mem_nil) dX0_notedRepair_16
def fRun (n : Int32) : Int32 := (if ((n >>> (23 &&& 31)) &&& 1) = 0 then 0 else 1)
set_option maxHeartbeats 4000000 in
set_option maxRecDepth 100000 in
theorem c_X0_notedRun (l : Launch) (Hp : Heap) (n : Int32) : Met l yX0_notedRun wsX0_notedRun ({ frames := 2, cells := 0, slots := 0, locals := 40 }) (va_Pc [.int n] (fun U => U.heap = Hp)) (va_Qi (fun (r : Int32) (_ : Unit) => r = fRun n) (fun _ t => t.heap = Hp) (fun _ => False)) 0 0 (fun _ => False) := by
  refine Met.ofW (cc := cX0_notedRun) (maxL := 1) (ret := some .boolean) (by decide) rfl ?_
  intro p e s m args below meth c s₁ B hml hv
  obtain ⟨rfl, hH⟩ := hv
  subst hH
  have hx := B.exec
  have hb := B.bytes
  have hr := B.returns
  have hts := atoms_spec (ws := wsX0_notedRun) B.pre
  have hown : s.vm.findClass RX0 = some m.cls := findClass_of_methodNamed B.named
  have hlocks := B.notSynchronized
  have hS : va_S (fun _ => False) s.heap s.heap [] := va_S.rf
  have hA : ∀ q : Nat, s.heap.size ≤ q → aNew s.heap q := fun q h => h
  have hl := lv_entry ([.int n]) (n := 1) (Nat.le_of_ble_eq_true rfl)
  rw [lg_entry_eq]
  generalize (lg_sl ([.int n]) ++ List.replicate (1 - (lg_sl ([.int n])).length) Slot.unset).toArray = ls at hl ⊢
  have hl : lv_has ls 1 [(0, .int n)] := hl
  refine lv_iload_n hx hb dX0_notedRun_0 rfl (lv_at hl 0 rfl) ?_
  refine lv_bipush (v := 23) hx hb dX0_notedRun_1 (by decide) ?_
  refine lv_ishr hx hb dX0_notedRun_3 ?_
  refine lv_iconst (v := 1) hx hb dX0_notedRun_4 (by decide) ?_
  refine lv_iand hx hb dX0_notedRun_5 ?_
  refine lv_if_eq (tgt := 13) hx hb dX0_notedRun_6 (by decide) (fun cq1 => ?_) (fun cq1 => ?_)
  · refine lv_iconst (v := 0) hx hb dX0_notedRun_13 (by decide) ?_
    exact W.zret hx hb hr rfl (fun t ht hW => ⟨⟨_, (), rfl, (by unfold fRun; rw [if_pos cq1]), ht⟩, (va_S.rf (A := fun _ => False)).F ht⟩) (fun q hq => absurd hq List.not_mem_nil) dX0_notedRun_14
  · refine lv_iconst (v := 1) hx hb dX0_notedRun_9 (by decide) ?_
    refine lv_goto (tgt := 14) hx hb dX0_notedRun_10 (by decide) ?_
    exact W.zret hx hb hr rfl (fun t ht hW => ⟨⟨_, (), rfl, (by unfold fRun; rw [if_neg cq1]), ht⟩, (va_S.rf (A := fun _ => False)).F ht⟩) (fun q hq => absurd hq List.not_mem_nil) dX0_notedRun_14
