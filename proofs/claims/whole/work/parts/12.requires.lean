theorem fIsIn_pos {i lo hi : Int32} (g : oI i lo hi) : fIsIn i lo hi = 0 := by
  unfold fIsIn
  by_cases h : i < lo
  · rw [if_pos h]
  · rw [if_neg h, if_pos (g.resolve_left h)]
theorem fIsIn_neg {i lo hi : Int32} (g : ¬ oI i lo hi) : fIsIn i lo hi = 1 := by
  unfold fIsIn
  rw [if_neg (fun h => g (Or.inl h)), if_neg (fun h => g (Or.inr h))]
set_option maxHeartbeats 4000000 in
set_option maxRecDepth 100000 in
theorem c_requireIndex_ok (l : Launch) (Hp : Heap) (i lo hi : Int32) (g : ¬ oI i lo hi) : Met l yX0_requireIndex wsX0_requireIndex ({ frames := 2, cells := 0, slots := 0, locals := 40 }) (va_Pc [.int i, .int lo, .int hi] (fun U => U.heap = Hp)) (va_Qv (fun _ : Unit => True) (fun _ t => t.heap = Hp) (fun _ => False)) 0 0 (fun _ => False) := by
  refine Met.ofW (cc := cX0_requireIndex) (maxL := 3) (ret := none) (by decide) rfl ?_
  intro p e s m args below meth c s₁ B hml hv
  obtain ⟨rfl, hH⟩ := hv
  subst hH
  have hx := B.exec
  have hb := B.bytes
  have hr := B.returns
  have hts := atoms_spec (ws := wsX0_requireIndex) B.pre
  have hown : s.vm.findClass RX0 = some m.cls := findClass_of_methodNamed B.named
  have hlocks := B.notSynchronized
  have hS : va_S (aNew s.heap) s.heap s.heap [] := va_S.rf
  have hl := lv_entry ([.int i, .int lo, .int hi]) (n := 3) (Nat.le_of_ble_eq_true rfl)
  rw [lg_entry_eq]
  generalize (lg_sl ([.int i, .int lo, .int hi]) ++ List.replicate (3 - (lg_sl ([.int i, .int lo, .int hi])).length) Slot.unset).toArray = ls at hl ⊢
  have hl : lv_has ls 3 [(0, .int i), (1, .int lo), (2, .int hi)] := hl
  refine lv_iload_n hx hb dX0_requireIndex_0 rfl (lv_at hl 0 rfl) ?_
  refine lv_iload_n hx hb dX0_requireIndex_1 rfl (lv_at hl 1 rfl) ?_
  refine lv_icmp_lt (tgt := 10) hx hb dX0_requireIndex_2 (by decide) (fun c1 => absurd (Or.inl c1) g) (fun c1 => ?_)
  refine lv_iload_n hx hb dX0_requireIndex_5 rfl (lv_at hl 0 rfl) ?_
  refine lv_iload_n hx hb dX0_requireIndex_6 rfl (lv_at hl 2 rfl) ?_
  refine lv_icmp_le (tgt := 20) hx hb dX0_requireIndex_7 (by decide) (fun c2 => ?_) (fun c2 => absurd (Or.inr (Int32.not_le.mp c2)) g)
  exact W.vret hx hb hr (fun t ht hW => ⟨⟨(), rfl, trivial, ht⟩, (va_S.rf (A := fun _ => False)).F ht⟩) (fun q hq => absurd hq List.not_mem_nil) dX0_requireIndex_20
set_option maxHeartbeats 4000000 in
set_option maxRecDepth 100000 in
theorem c_requireIndex_no (l : Launch) (hl0 : l.stackTraces = false) (a : Nat → Nat) (Hp : Heap) (i lo hi : Int32) (g : oI i lo hi) : vx_Met l yX0_requireIndex wsX0_requireIndex ({ frames := 6, cells := 1, slots := 6, locals := 90 }) (va_Pc [.int i, .int lo, .int hi] (fun U => U.heap = Hp ∧ tgE a (aNew Hp) U Hp)) (va_Qv (fun _ : Unit => False) (fun _ t => t.heap = Hp) (fun _ => False)) (tgX (fun E => E = eI)) 1 6 (aNew Hp) := by
  refine vx_ofW (cc := cX0_requireIndex) (maxL := 3) (ret := none) (by decide) rfl ?_
  intro p e s m args below meth c s₁ B hml ht9 hv
  obtain ⟨rfl, hH, hE⟩ := hv
  subst hH
  have hx := B.exec
  have hb := B.bytes
  have hr := B.returns
  have hts := atoms_spec (ws := wsX0_requireIndex) B.pre
  have hown : s.vm.findClass RX0 = some m.cls := findClass_of_methodNamed B.named
  have hlocks := B.notSynchronized
  have hS : va_S (aNew s.heap) s.heap s.heap [] := va_S.rf
  have hl := lv_entry ([.int i, .int lo, .int hi]) (n := 3) (Nat.le_of_ble_eq_true rfl)
  rw [lg_entry_eq]
  generalize (lg_sl ([.int i, .int lo, .int hi]) ++ List.replicate (3 - (lg_sl ([.int i, .int lo, .int hi])).length) Slot.unset).toArray = ls at hl ⊢
  have hl : lv_has ls 3 [(0, .int i), (1, .int lo), (2, .int hi)] := hl
  have hthrow : W p l e (headSpec wsX0_requireIndex ({ frames := 6, cells := 1, slots := 6, locals := 90 })).room s m (#[.int i, .int lo, .int hi]) below meth c s.heap [] 0 0 (vx_MQ below (va_Qv (fun _ : Unit => False) (fun _ t => t.heap = s.heap) (fun _ => False)) (tgX (fun E => E = eI)) (#[.int i, .int lo, .int hi]) s 1 6 (aNew s.heap)) (F0 m 10 ls []) := by
    exact vx_throwS (ik := 139) (is := 141) (ic := 143) (cls := eI) (text := "no such turbine or hour") (names := eNs) (sa := a 0) (A := aNew s.heap) hx hb hl0 hown (by decide) (by decide) (hts (.classLink RX0 139 eI) (by decide +kernel)) (hts (.initialized eI) (by decide +kernel)) hE.1.1.1 (vx_hat (B := tgB eI) (fun w hw => hts w (List.mem_cons_of_mem _ (List.mem_append_right _ hw))) (by decide +kernel) (hE.1.words _).1) (by decide +kernel) hE.2.1 hE.2.2 hS (hl.1.trans hml.symm) dX0_requireIndex_10 dX0_requireIndex_13 dX0_requireIndex_14 dX0_requireIndex_16 dX0_requireIndex_19 (fun x hx => (ht9 x hx).elim) (Nat.le_of_ble_eq_true rfl) (Nat.le_of_ble_eq_true rfl) (Nat.le_of_ble_eq_true rfl) (Nat.le_of_ble_eq_true rfl) hlocks (fun t hal hz hk => ⟨eI, rfl, rfl, hz, fun q hq _ => hk q hq⟩) hS.2.2 (Nat.le_of_ble_eq_true rfl) (Nat.le_of_ble_eq_true rfl)
  refine lv_iload_n hx hb dX0_requireIndex_0 rfl (lv_at hl 0 rfl) ?_
  refine lv_iload_n hx hb dX0_requireIndex_1 rfl (lv_at hl 1 rfl) ?_
  refine lv_icmp_lt (tgt := 10) hx hb dX0_requireIndex_2 (by decide) (fun _ => hthrow) (fun c1 => ?_)
  refine lv_iload_n hx hb dX0_requireIndex_5 rfl (lv_at hl 0 rfl) ?_
  refine lv_iload_n hx hb dX0_requireIndex_6 rfl (lv_at hl 2 rfl) ?_
  exact lv_icmp_le (tgt := 20) hx hb dX0_requireIndex_7 (by decide) (fun c2 => g.elim (fun h => absurd h c1) (fun h => absurd h (Int32.not_lt.mpr c2))) (fun _ => hthrow)
set_option maxHeartbeats 4000000 in
set_option maxRecDepth 100000 in
theorem c_requireRange_ok (l : Launch) (Hp : Heap) (i lo hi : Int32) (g : ¬ oI i lo hi) : Met l yX0_requireRange wsX0_requireRange ({ frames := 2, cells := 0, slots := 0, locals := 40 }) (va_Pc [.int i, .int lo, .int hi] (fun U => U.heap = Hp)) (va_Qv (fun _ : Unit => True) (fun _ t => t.heap = Hp) (fun _ => False)) 0 0 (fun _ => False) := by
  refine Met.ofW (cc := cX0_requireRange) (maxL := 3) (ret := none) (by decide) rfl ?_
  intro p e s m args below meth c s₁ B hml hv
  obtain ⟨rfl, hH⟩ := hv
  subst hH
  have hx := B.exec
  have hb := B.bytes
  have hr := B.returns
  have hts := atoms_spec (ws := wsX0_requireRange) B.pre
  have hown : s.vm.findClass RX0 = some m.cls := findClass_of_methodNamed B.named
  have hlocks := B.notSynchronized
  have hS : va_S (aNew s.heap) s.heap s.heap [] := va_S.rf
  have hl := lv_entry ([.int i, .int lo, .int hi]) (n := 3) (Nat.le_of_ble_eq_true rfl)
  rw [lg_entry_eq]
  generalize (lg_sl ([.int i, .int lo, .int hi]) ++ List.replicate (3 - (lg_sl ([.int i, .int lo, .int hi])).length) Slot.unset).toArray = ls at hl ⊢
  have hl : lv_has ls 3 [(0, .int i), (1, .int lo), (2, .int hi)] := hl
  refine lv_iload_n hx hb dX0_requireRange_0 rfl (lv_at hl 0 rfl) ?_
  refine lv_iload_n hx hb dX0_requireRange_1 rfl (lv_at hl 1 rfl) ?_
  refine lv_icmp_lt (tgt := 10) hx hb dX0_requireRange_2 (by decide) (fun c1 => absurd (Or.inl c1) g) (fun c1 => ?_)
  refine lv_iload_n hx hb dX0_requireRange_5 rfl (lv_at hl 0 rfl) ?_
  refine lv_iload_n hx hb dX0_requireRange_6 rfl (lv_at hl 2 rfl) ?_
  refine lv_icmp_le (tgt := 20) hx hb dX0_requireRange_7 (by decide) (fun c2 => ?_) (fun c2 => absurd (Or.inr (Int32.not_le.mp c2)) g)
  exact W.vret hx hb hr (fun t ht hW => ⟨⟨(), rfl, trivial, ht⟩, (va_S.rf (A := fun _ => False)).F ht⟩) (fun q hq => absurd hq List.not_mem_nil) dX0_requireRange_20
set_option maxHeartbeats 4000000 in
set_option maxRecDepth 100000 in
theorem c_requireRange_no (l : Launch) (hl0 : l.stackTraces = false) (a : Nat → Nat) (Hp : Heap) (i lo hi : Int32) (g : oI i lo hi) : vx_Met l yX0_requireRange wsX0_requireRange ({ frames := 6, cells := 1, slots := 6, locals := 90 }) (va_Pc [.int i, .int lo, .int hi] (fun U => U.heap = Hp ∧ tgE a (aNew Hp) U Hp)) (va_Qv (fun _ : Unit => False) (fun _ t => t.heap = Hp) (fun _ => False)) (tgX (fun E => E = eA)) 1 6 (aNew Hp) := by
  refine vx_ofW (cc := cX0_requireRange) (maxL := 3) (ret := none) (by decide) rfl ?_
  intro p e s m args below meth c s₁ B hml ht9 hv
  obtain ⟨rfl, hH, hE⟩ := hv
  subst hH
  have hx := B.exec
  have hb := B.bytes
  have hr := B.returns
  have hts := atoms_spec (ws := wsX0_requireRange) B.pre
  have hown : s.vm.findClass RX0 = some m.cls := findClass_of_methodNamed B.named
  have hlocks := B.notSynchronized
  have hS : va_S (aNew s.heap) s.heap s.heap [] := va_S.rf
  have hl := lv_entry ([.int i, .int lo, .int hi]) (n := 3) (Nat.le_of_ble_eq_true rfl)
  rw [lg_entry_eq]
  generalize (lg_sl ([.int i, .int lo, .int hi]) ++ List.replicate (3 - (lg_sl ([.int i, .int lo, .int hi])).length) Slot.unset).toArray = ls at hl ⊢
  have hl : lv_has ls 3 [(0, .int i), (1, .int lo), (2, .int hi)] := hl
  have hthrow : W p l e (headSpec wsX0_requireRange ({ frames := 6, cells := 1, slots := 6, locals := 90 })).room s m (#[.int i, .int lo, .int hi]) below meth c s.heap [] 0 0 (vx_MQ below (va_Qv (fun _ : Unit => False) (fun _ t => t.heap = s.heap) (fun _ => False)) (tgX (fun E => E = eA)) (#[.int i, .int lo, .int hi]) s 1 6 (aNew s.heap)) (F0 m 10 ls []) := by
    exact vx_throwS (ik := 144) (is := 146) (ic := 148) (cls := eA) (text := "an argument is out of its range") (names := eNs) (sa := a 1) (A := aNew s.heap) hx hb hl0 hown (by decide) (by decide) (hts (.classLink RX0 144 eA) (by decide +kernel)) (hts (.initialized eA) (by decide +kernel)) hE.1.1.2.1 (vx_hat (B := tgB eA) (fun w hw => hts w (List.mem_cons_of_mem _ (List.mem_append_right _ hw))) (by decide +kernel) (hE.1.words _).2.1) (by decide +kernel) hE.2.1 hE.2.2 hS (hl.1.trans hml.symm) dX0_requireRange_10 dX0_requireRange_13 dX0_requireRange_14 dX0_requireRange_16 dX0_requireRange_19 (fun x hx => (ht9 x hx).elim) (Nat.le_of_ble_eq_true rfl) (Nat.le_of_ble_eq_true rfl) (Nat.le_of_ble_eq_true rfl) (Nat.le_of_ble_eq_true rfl) hlocks (fun t hal hz hk => ⟨eA, rfl, rfl, hz, fun q hq _ => hk q hq⟩) hS.2.2 (Nat.le_of_ble_eq_true rfl) (Nat.le_of_ble_eq_true rfl)
  refine lv_iload_n hx hb dX0_requireRange_0 rfl (lv_at hl 0 rfl) ?_
  refine lv_iload_n hx hb dX0_requireRange_1 rfl (lv_at hl 1 rfl) ?_
  refine lv_icmp_lt (tgt := 10) hx hb dX0_requireRange_2 (by decide) (fun _ => hthrow) (fun c1 => ?_)
  refine lv_iload_n hx hb dX0_requireRange_5 rfl (lv_at hl 0 rfl) ?_
  refine lv_iload_n hx hb dX0_requireRange_6 rfl (lv_at hl 2 rfl) ?_
  exact lv_icmp_le (tgt := 20) hx hb dX0_requireRange_7 (by decide) (fun c2 => g.elim (fun h => absurd h c1) (fun h => absurd h (Int32.not_lt.mpr c2))) (fun _ => hthrow)
