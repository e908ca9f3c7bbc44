set_option maxHeartbeats 4000000 in
set_option maxRecDepth 100000 in
theorem c_requireIndex_ok (l : Launch) (Hp : Heap) (i lo hi : Int32) (g : ¬ oI i lo hi) : Met l yX0_requireIndex wsX0_requireIndex ({ frames := 2, cells := 0, slots := 0, locals := 40 }) (va_Pc [.int i, .int lo, .int hi] (fun U => U.heap = Hp)) (va_Qv (fun _ : Unit => True) (fun _ t => t.heap = Hp) (fun _ => False)) 0 0 (fun _ => False) := by
  refine Met.ofW (cc := cX0_requireIndex) (maxL := 3) (ret := none) (by decide) rfl ?_
  intro p e s m args below meth c s₁ B hml hv
  obtain ⟨rfl, hH⟩ := hv
  subst hH
  have hx := B.exec
  have hb := B.bytes
  have hr := B.returns
  have hts := atoms_spec (ws := wsX0_requireIndex) B.pre
  have hown : s.vm.findClass RX0 = some m.cls := findClass_of_methodNamed B.named
  have hlocks := B.notSynchronized
  have hS : va_S (aNew s.heap) s.heap s.heap [] := va_S.rf
  have hl := lv_entry ([.int i, .int lo, .int hi]) (n := 3) (Nat.le_of_ble_eq_true rfl)
  rw [lg_entry_eq]
  generalize (lg_sl ([.int i, .int lo, .int hi]) ++ List.replicate (3 - (lg_sl ([.int i, .int lo, .int hi])).length) Slot.unset).toArray = ls at hl ⊢
  have hl : lv_has ls 3 [(0, .int i), (1, .int lo), (2, .int hi)] := hl
  refine lv_iload_n hx hb dX0_requireIndex_0 rfl (lv_at hl 0 rfl) ?_
  refine lv_iload_n hx hb dX0_requireIndex_1 rfl (lv_at hl 1 rfl) ?_
  refine lv_icmp_lt (tgt := 10) hx hb dX0_requireIndex_2 (by decide) (fun c1 => absurd (Or.inl c1) g) (fun c1 => ?_)
  refine lv_iload_n hx hb dX0_requireIndex_5 rfl (lv_at hl 0 rfl) ?_
  refine lv_iload_n hx hb dX0_requireIndex_6 rfl (lv_at hl 2 rfl) ?_
  refine lv_icmp_le (tgt := 20) hx hb dX0_requireIndex_7 (by decide) (fun c2 => ?_) (fun c2 => absurd (Or.inr (Int32.not_le.mp c2)) g)
  exact W.vret hx hb hr (fun t ht hW => ⟨⟨(), rfl, trivial, ht⟩, (va_S.rf (A := fun _ => False)).F ht⟩) (fun q hq => absurd hq List.not_mem_nil) dX0_requireIndex_20
set_option maxHeartbeats 4000000 in
set_option maxRecDepth 100000 in
theorem c_requireRange_ok (l : Launch) (Hp : Heap) (i lo hi : Int32) (g : ¬ oI i lo hi) : Met l yX0_requireRange wsX0_requireRange ({ frames := 2, cells := 0, slots := 0, locals := 40 }) (va_Pc [.int i, .int lo, .int hi] (fun U => U.heap = Hp)) (va_Qv (fun _ : Unit => True) (fun _ t => t.heap = Hp) (fun _ => False)) 0 0 (fun _ => False) := by
  refine Met.ofW (cc := cX0_requireRange) (maxL := 3) (ret := none) (by decide) rfl ?_
  intro p e s m args below meth c s₁ B hml hv
  obtain ⟨rfl, hH⟩ := hv
  subst hH
  have hx := B.exec
  have hb := B.bytes
  have hr := B.returns
  have hts := atoms_spec (ws := wsX0_requireRange) B.pre
  have hown : s.vm.findClass RX0 = some m.cls := findClass_of_methodNamed B.named
  have hlocks := B.notSynchronized
  have hS : va_S (aNew s.heap) s.heap s.heap [] := va_S.rf
  have hl := lv_entry ([.int i, .int lo, .int hi]) (n := 3) (Nat.le_of_ble_eq_true rfl)
  rw [lg_entry_eq]
  generalize (lg_sl ([.int i, .int lo, .int hi]) ++ List.replicate (3 - (lg_sl ([.int i, .int lo, .int hi])).length) Slot.unset).toArray = ls at hl ⊢
  have hl : lv_has ls 3 [(0, .int i), (1, .int lo), (2, .int hi)] := hl
  refine lv_iload_n hx hb dX0_requireRange_0 rfl (lv_at hl 0 rfl) ?_
  refine lv_iload_n hx hb dX0_requireRange_1 rfl (lv_at hl 1 rfl) ?_
  refine lv_icmp_lt (tgt := 10) hx hb dX0_requireRange_2 (by decide) (fun c1 => absurd (Or.inl c1) g) (fun c1 => ?_)
  refine lv_iload_n hx hb dX0_requireRange_5 rfl (lv_at hl 0 rfl) ?_
  refine lv_iload_n hx hb dX0_requireRange_6 rfl (lv_at hl 2 rfl) ?_
  refine lv_icmp_le (tgt := 20) hx hb dX0_requireRange_7 (by decide) (fun c2 => ?_) (fun c2 => absurd (Or.inr (Int32.not_le.mp c2)) g)
  exact W.vret hx hb hr (fun t ht hW => ⟨⟨(), rfl, trivial, ht⟩, (va_S.rf (A := fun _ => False)).F ht⟩) (fun q hq => absurd hq List.not_mem_nil) dX0_requireRange_20
