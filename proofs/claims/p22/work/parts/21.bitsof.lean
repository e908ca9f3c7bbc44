theorem cmp_neg {x y : UInt32} (op : CmpOp) (h : FP.fcmp x y = some .lt) : Op.cmpValue (FP.fcmp x y) op < 0 := by
  rw [h]
  show (-1 : Int32) < 0
  decide
theorem cmp_m1 {x y : UInt32} (op : CmpOp) (h : FP.fcmp x y = some .lt) : Op.cmpValue (FP.fcmp x y) op = -1 := by
  rw [h]
  rfl
theorem cmp_p1 {x y : UInt32} (op : CmpOp) (h : FP.fcmp x y = some .gt) : Op.cmpValue (FP.fcmp x y) op = 1 := by
  rw [h]
  rfl
theorem nn_szf {c : Nat} {q : Int} (h1 : 2 ^ 23 ≤ c) (h2 : c < 2 ^ 24) (h3 : -149 ≤ q) (h4 : q ≤ 104) : vf_n32 (szf c q) := by
  have h : FP.Core.FFin (szf c q) := ⟨_, _, _, val_szf h1 h2 h3 h4⟩
  exact n32_of h.notNaN
theorem nz_pos {b : UInt32} {c : Nat} {q : Int} (h : FP.Core.val32 b = .fin false c q) (hc : 0 < c) : FP.fcmp b FP.fconst0 = some .gt := by
  refine fc_gt h v_c0 ?_
  have := Nat.mul_pos hc (Nat.two_pow_pos (q + 149).toNat)
  show ((0 * _ : Nat) : Int) < ((c * 2 ^ (q + 149).toNat : Nat) : Int)
  rw [Nat.zero_mul]
  omega
theorem nz_neg {b : UInt32} {c : Nat} {q : Int} (h : FP.Core.val32 b = .fin true c q) (hc : 0 < c) : FP.fcmp b FP.fconst0 = some .lt := by
  refine fc_lt h v_c0 ?_
  have := Nat.mul_pos hc (Nat.two_pow_pos (q + 149).toNat)
  show -((c * 2 ^ (q + 149).toNat : Nat) : Int) < ((0 * _ : Nat) : Int)
  rw [Nat.zero_mul]
  omega
theorem fneg_szf {b : UInt32} {c : Nat} {q : Int} (h : FP.Core.val32 b = .fin true c q) : FP.fneg b = szf c q := szf_of (by rw [FP.val32_fneg, h]; rfl)
theorem zero_of {b : UInt32} {q : Int} (h : FP.Core.val32 b = .fin false 0 q) : b = 0 := by
  have hf := FP.Core.val32_fits b
  rw [h] at hf
  have hq := FP.Core.fits_zero_q FP.Core.good_b32 hf
  refine FP.Core.val32_inj (by rw [h]; exact FP.Core.Datum.noConfusion) ?_
  rw [h, hq, FP.Core.val32_zero]
set_option maxHeartbeats 800000 in
set_option maxRecDepth 100000 in
theorem c_bits_z (l : Launch) (Hp : Heap) (b : UInt32) (hz : b = 0) : Met l yX0_bitsOf wsX0_bitsOf ({ frames := 2, cells := 0, slots := 0, locals := 40 }) (va_Pc [.float b] (fun U => U.heap = Hp)) (va_Qi (fun (r : Int32) (_ : Unit) => r = b.toInt32) (fun _ t => t.heap = Hp) (fun _ => False)) 0 0 (fun _ => False) := by
  refine Met.ofW (cc := cX0_bitsOf) (maxL := 5) (ret := some .int) (by decide) rfl ?_
  intro p e s m args below meth c s₁ B hml hv
  obtain ⟨rfl, hH⟩ := hv
  subst hH
  have hx := B.exec
  have hb := B.bytes
  have hr := B.returns
  have hts := atoms_spec (ws := wsX0_bitsOf) B.pre
  have hown : s.vm.findClass RX0 = some m.cls := findClass_of_methodNamed B.named
  have hlocks := B.notSynchronized
  have hS : va_S (fun _ => False) s.heap s.heap [] := va_S.rf
  have hA : ∀ q : Nat, s.heap.size ≤ q → aNew s.heap q := fun q h => h
  have hl := lv_entry ([.float b]) (n := 5) (Nat.le_of_ble_eq_true rfl)
  rw [lg_entry_eq]
  generalize (lg_sl ([.float b]) ++ List.replicate (5 - (lg_sl ([.float b])).length) Slot.unset).toArray = ls at hl ⊢
  have hl : lv_has ls 5 [(0, .float b)] := hl
  have hf0 : ∀ q ∈ ([] : List Loc), (fun _ : Addr => False) q.base := fun q hq => absurd hq List.not_mem_nil
  subst hz
  refine lv_fload_n hx hb dX0_bitsOf_0 rfl (lv_at hl 0 rfl) ?_
  refine lv_fconst0 hx hb dX0_bitsOf_1 ?_
  refine lv_fcmp hx hb dX0_bitsOf_2 ?_
  refine lv_topi (fun v9 e9 => ?_)
  have e9 := e9.trans (by decide +kernel : Op.cmpValue (FP.fcmp 0 FP.fconst0) CmpOp.l = 0)
  subst e9
  refine lv_if_ne (tgt := 8) hx hb dX0_bitsOf_3 (by decide) (fun h9 => absurd (by decide) h9) (fun _ => ?_)
  refine lv_iconst (v := 0) hx hb dX0_bitsOf_6 (by decide) ?_
  exact W.iret hx hb hr (fun t ht hW => ⟨⟨_, (), rfl, rfl, ht⟩, (va_S.rf (A := fun _ => False)).F ht⟩) hf0 dX0_bitsOf_7
set_option maxHeartbeats 800000 in
set_option maxRecDepth 100000 in
theorem c_bits_p (l : Launch) (Hp : Heap) (b : UInt32) {c0 : Nat} {q : Int} (hv : FP.Core.val32 b = .fin false c0 q) (h1 : 2 ^ 23 ≤ c0) (h2 : c0 < 2 ^ 24) (h3 : -24 ≤ q) (h4 : q ≤ 20) : Met l yX0_bitsOf wsX0_bitsOf ({ frames := 2, cells := 0, slots := 0, locals := 40 }) (va_Pc [.float b] (fun U => U.heap = Hp)) (va_Qi (fun (r : Int32) (_ : Unit) => r = b.toInt32) (fun _ t => t.heap = Hp) (fun _ => False)) 0 0 (fun _ => False) := by
  refine Met.ofW (cc := cX0_bitsOf) (maxL := 5) (ret := some .int) (by decide) rfl ?_
  intro p e s m args below meth c s₁ B hml hv
  obtain ⟨rfl, hH⟩ := hv
  subst hH
  have hx := B.exec
  have hb := B.bytes
  have hr := B.returns
  have hts := atoms_spec (ws := wsX0_bitsOf) B.pre
  have hown : s.vm.findClass RX0 = some m.cls := findClass_of_methodNamed B.named
  have hlocks := B.notSynchronized
  have hS : va_S (fun _ => False) s.heap s.heap [] := va_S.rf
  have hA : ∀ q : Nat, s.heap.size ≤ q → aNew s.heap q := fun q h => h
  have hl := lv_entry ([.float b]) (n := 5) (Nat.le_of_ble_eq_true rfl)
  rw [lg_entry_eq]
  generalize (lg_sl ([.float b]) ++ List.replicate (5 - (lg_sl ([.float b])).length) Slot.unset).toArray = ls at hl ⊢
  have hl : lv_has ls 5 [(0, .float b)] := hl
  have hf0 : ∀ q ∈ ([] : List Loc), (fun _ : Addr => False) q.base := fun q hq => absurd hq List.not_mem_nil
  have tail : ∀ (st : Int32) (locs : List Loc) (ls : Array Slot), (∀ q ∈ locs, (fun _ : Addr => False) q.base) → lv_has ls 5 [(0, .float b), (1, .float (szf c0 (-23))), (2, .int (nI (q + 150).toNat)), (3, .int st)] → W p l e (headSpec wsX0_bitsOf ({ frames := 2, cells := 0, slots := 0, locals := 40 })).room s m ([.float b]).toArray below meth c s.heap locs 0 0 (MQ below (va_Qi (fun (r : Int32) (_ : Unit) => r = b.toInt32) (fun _ t => t.heap = s.heap) (fun _ => False)) ([.float b]).toArray s 0 0 (fun _ => False)) (F0 m 79 ls []) := by
    intro st locs ls hf0 hl
    refine lv_fload_n hx hb dX0_bitsOf_79 rfl (lv_at hl 1 rfl) ?_
    refine lv_fconst1 hx hb dX0_bitsOf_80 ?_
    refine lv_fsub hx hb dX0_bitsOf_81 (sz_frac h1 h2).2.1 ?_
    refine lv_ldcf (v := 1258291200) hx hb hown (hts (.constantFloat RX0 149 (1258291200)) (by decide +kernel)) dX0_bitsOf_82 ?_
    refine lv_fmul hx hb dX0_bitsOf_84 (sz_frac h1 h2).2.2 ?_
    refine lv_f2i hx hb dX0_bitsOf_85 ?_
    refine lv_topi (fun v9 e9 => ?_)
    have e9 := e9.trans (sz_frac h1 h2).1
    subst e9
    refine lv_istore_n (lv' := [(3, .int (nI (c0 - 2 ^ 23))), (0, .float b), (1, .float (szf c0 (-23))), (2, .int (nI (q + 150).toNat))]) hx hb dX0_bitsOf_86 rfl hl (by decide) rfl (fun ls hl => ?_)
    refine lv_iload_n hx hb dX0_bitsOf_87 rfl (lv_at hl 3 rfl) ?_
    refine lv_bipush (v := 23) hx hb dX0_bitsOf_88 (by decide) ?_
    refine lv_ishl hx hb dX0_bitsOf_90 ?_
    refine lv_iload_n hx hb dX0_bitsOf_91 rfl (lv_at hl 0 rfl) ?_
    refine lv_ior hx hb dX0_bitsOf_92 ?_
    refine lv_topi (fun v9 e9 => ?_)
    have e9 := e9.trans (bits_make (by omega) (by omega))
    subst e9
    refine lv_istore (lv' := [(4, .int (nI ((q + 150).toNat * 2 ^ 23 + (c0 - 2 ^ 23)))), (3, .int (nI (c0 - 2 ^ 23))), (0, .float b), (1, .float (szf c0 (-23))), (2, .int (nI (q + 150).toNat))]) hx hb dX0_bitsOf_93 hl (by decide) rfl (fun ls hl => ?_)
    refine lv_fload_n hx hb dX0_bitsOf_95 rfl (lv_at hl 2 rfl) ?_
    refine lv_fconst0 hx hb dX0_bitsOf_96 ?_
    refine lv_fcmp hx hb dX0_bitsOf_97 ?_
    refine lv_topi (fun v9 e9 => ?_)
    have e9 := e9.trans (cmp_p1 .g (nz_pos hv (by omega)))
    subst e9
    refine lv_if_ge (tgt := 109) hx hb dX0_bitsOf_98 (by decide) (fun _ => ?_) (fun h9 => absurd (by decide) h9)
    refine lv_iload hx hb dX0_bitsOf_109 (lv_at hl 0 rfl) ?_
    exact W.iret hx hb hr (fun t ht hW => ⟨⟨_, (), rfl, (by rw [bits_of hv h1 h2 (by omega) (by omega)]; exact congrArg nI (by simp)), ht⟩, (va_S.rf (A := fun _ => False)).F ht⟩) hf0 dX0_bitsOf_111
  have loop : -23 ≤ q → ∀ (n i : Nat) (ls : Array Slot), i + n = (q + 23).toNat → lv_has ls 5 [(0, .float b), (1, .float (szf c0 (q - (i : Nat)))), (2, .int (nI (127 + i))), (3, .int (nI i))] → W p l e (headSpec wsX0_bitsOf ({ frames := 2, cells := 0, slots := 0, locals := 40 })).room s m ([.float b]).toArray below meth c s.heap [] 0 0 (MQ below (va_Qi (fun (r : Int32) (_ : Unit) => r = b.toInt32) (fun _ t => t.heap = s.heap) (fun _ => False)) ([.float b]).toArray s 0 0 (fun _ => False)) (F0 m 26 ls []) := by
    intro hq n
    induction n with
    | zero =>
      intro i ls hi hl
      have e9 : q - (i : Nat) = -23 := by omega
      have e8 : 127 + i = (q + 150).toNat := by omega
      have e7 : i < 44 := by omega
      rw [e9, e8] at hl
      refine lv_iload_n hx hb dX0_bitsOf_26 rfl (lv_at hl 3 rfl) ?_
      refine lv_bipush (v := 127) hx hb dX0_bitsOf_27 (by decide) ?_
      refine lv_icmp_ge (tgt := 52) hx hb dX0_bitsOf_29 (by decide) (fun h9 => absurd h9 (nI_ge (b := 127) (by omega) (by omega))) (fun _ => ?_)
      refine lv_fload_n hx hb dX0_bitsOf_32 rfl (lv_at hl 1 rfl) ?_
      refine lv_fconst2 hx hb dX0_bitsOf_33 ?_
      refine lv_fcmp hx hb dX0_bitsOf_34 ?_
      refine lv_if_lt (tgt := 52) hx hb dX0_bitsOf_35 (by decide) (fun _ => ?_) (fun h9 => absurd (cmp_neg .l (sz_lt h1 h2 (by omega) (by omega) v_c2 (by omega))) h9)
      refine lv_iconst (v := 0) hx hb dX0_bitsOf_52 (by decide) ?_
      refine lv_istore_n (lv' := [(3, .int 0), (0, .float b), (1, .float (szf c0 (-23))), (2, .int (nI (q + 150).toNat))]) hx hb dX0_bitsOf_53 rfl hl (by decide) rfl (fun ls hl => ?_)
      refine lv_iload_n hx hb dX0_bitsOf_54 rfl (lv_at hl 0 rfl) ?_
      refine lv_bipush (v := 127) hx hb dX0_bitsOf_55 (by decide) ?_
      refine lv_icmp_ge (tgt := 79) hx hb dX0_bitsOf_57 (by decide) (fun h9 => absurd h9 (by decide)) (fun _ => ?_)
      refine lv_fload_n hx hb dX0_bitsOf_60 rfl (lv_at hl 2 rfl) ?_
      refine lv_fconst1 hx hb dX0_bitsOf_61 ?_
      refine lv_fcmp hx hb dX0_bitsOf_62 ?_
      refine lv_if_ge (tgt := 79) hx hb dX0_bitsOf_63 (by decide) (fun _ => ?_) (fun h9 => absurd (Int32.not_lt.mp (sz_nlt .g h1 h2 (by omega) (by omega) v_c1 (by omega))) h9)
      exact tail _ _ ls hf0 (lv_sub hl [1, 2, 3, 0] rfl)
    | succ n ih =>
      intro i ls hi hl
      have e7 : i < 44 := by omega
      refine lv_iload_n hx hb dX0_bitsOf_26 rfl (lv_at hl 3 rfl) ?_
      refine lv_bipush (v := 127) hx hb dX0_bitsOf_27 (by decide) ?_
      refine lv_icmp_ge (tgt := 52) hx hb dX0_bitsOf_29 (by decide) (fun h9 => absurd h9 (nI_ge (b := 127) (by omega) (by omega))) (fun _ => ?_)
      refine lv_fload_n hx hb dX0_bitsOf_32 rfl (lv_at hl 1 rfl) ?_
      refine lv_fconst2 hx hb dX0_bitsOf_33 ?_
      refine lv_fcmp hx hb dX0_bitsOf_34 ?_
      refine lv_if_lt (tgt := 52) hx hb dX0_bitsOf_35 (by decide) (fun h9 => absurd h9 (sz_nlt .l h1 h2 (by omega) (by omega) v_c2 (by omega))) (fun _ => ?_)
      refine lv_fload_n hx hb dX0_bitsOf_38 rfl (lv_at hl 1 rfl) ?_
      refine lv_ldcf (v := 1056964608) hx hb hown (hts (.constantFloat RX0 128 (1056964608)) (by decide +kernel)) dX0_bitsOf_39 ?_
      refine lv_fmul hx hb dX0_bitsOf_41 (by rw [sz_half h1 h2 (by omega) (by omega)]; exact nn_szf h1 h2 (by omega) (by omega)) ?_
      refine lv_topf (fun v9 e9 => ?_)
      have e9 := e9.trans ((sz_half h1 h2 (by omega) (by omega)).trans (by rw [show q - (i : Nat) - 1 = q - ((i + 1 : Nat) : Int) by omega]))
      subst e9
      refine lv_fstore_n (lv' := [(1, .float (szf c0 (q - ((i + 1 : Nat) : Int)))), (0, .float b), (2, .int (nI (127 + i))), (3, .int (nI i))]) hx hb dX0_bitsOf_42 rfl hl (by decide) rfl (fun ls hl => ?_)
      refine lv_iinc (v := (nI (127 + i + 1))) (lv' := [(2, .int (nI (127 + i + 1))), (1, .float (szf c0 (q - ((i + 1 : Nat) : Int)))), (0, .float b), (3, .int (nI i))]) hx hb dX0_bitsOf_43 hl (k := 2) rfl (nI_1 (127 + i)) (by decide) rfl (fun ls hl => ?_)
      refine lv_iinc (v := (nI (i + 1))) (lv' := [(3, .int (nI (i + 1))), (2, .int (nI (127 + i + 1))), (1, .float (szf c0 (q - ((i + 1 : Nat) : Int)))), (0, .float b)]) hx hb dX0_bitsOf_46 hl (k := 3) rfl (nI_1 i) (by decide) rfl (fun ls hl => ?_)
      refine lv_goto (tgt := 26) hx hb dX0_bitsOf_49 (by decide) ?_
      exact ih (i + 1) ls (by omega) (lv_sub hl [3, 2, 1, 0] rfl)
  refine lv_fload_n hx hb dX0_bitsOf_0 rfl (lv_at hl 0 rfl) ?_
  refine lv_fconst0 hx hb dX0_bitsOf_1 ?_
  refine lv_fcmp hx hb dX0_bitsOf_2 ?_
  refine lv_topi (fun v9 e9 => ?_)
  have e9 := e9.trans (cmp_p1 .l (nz_pos hv (by omega)))
  subst e9
  refine lv_if_ne (tgt := 8) hx hb dX0_bitsOf_3 (by decide) (fun _ => ?_) (fun h9 => absurd h9 (by decide))
  refine lv_fload_n hx hb dX0_bitsOf_8 rfl (lv_at hl 0 rfl) ?_
  refine lv_fconst0 hx hb dX0_bitsOf_9 ?_
  refine lv_fcmp hx hb dX0_bitsOf_10 ?_
  refine lv_topi (fun v9 e9 => ?_)
  have e9 := e9.trans (cmp_p1 .g (nz_pos hv (by omega)))
  subst e9
  refine lv_if_ge (tgt := 19) hx hb dX0_bitsOf_11 (by decide) (fun _ => ?_) (fun h9 => absurd (by decide) h9)
  refine lv_fload_n hx hb dX0_bitsOf_19 rfl (lv_at hl 0 rfl) ?_
  refine lv_topf (fun v9 e9 => ?_)
  have e9 := e9.trans (szf_of hv)
  subst e9
  refine lv_fstore_n (lv' := [(1, .float (szf c0 q)), (0, .float b)]) hx hb dX0_bitsOf_20 rfl hl (by decide) rfl (fun ls hl => ?_)
  refine lv_bipush (v := 127) hx hb dX0_bitsOf_21 (by decide) ?_
  refine lv_istore_n (lv' := [(2, .int 127), (1, .float (szf c0 q)), (0, .float b)]) hx hb dX0_bitsOf_23 rfl hl (by decide) rfl (fun ls hl => ?_)
  refine lv_iconst (v := 0) hx hb dX0_bitsOf_24 (by decide) ?_
  refine lv_istore_n (lv' := [(3, .int 0), (2, .int 127), (1, .float (szf c0 q)), (0, .float b)]) hx hb dX0_bitsOf_25 rfl hl (by decide) rfl (fun ls hl => ?_)
  by_cases hq : -23 ≤ q
  · exact loop hq (q + 23).toNat 0 ls (by omega) (by have e9 : q - ((0 : Nat) : Int) = q := (by omega); rw [e9]; exact lv_sub hl [3, 2, 1, 0] rfl)
  · have hq : q = -24 := by omega
    subst hq
    refine lv_iload_n hx hb dX0_bitsOf_26 rfl (lv_at hl 0 rfl) ?_
    refine lv_bipush (v := 127) hx hb dX0_bitsOf_27 (by decide) ?_
    refine lv_icmp_ge (tgt := 52) hx hb dX0_bitsOf_29 (by decide) (fun h9 => absurd h9 (by decide)) (fun _ => ?_)
    refine lv_fload_n hx hb dX0_bitsOf_32 rfl (lv_at hl 2 rfl) ?_
    refine lv_fconst2 hx hb dX0_bitsOf_33 ?_
    refine lv_fcmp hx hb dX0_bitsOf_34 ?_
    refine lv_if_lt (tgt := 52) hx hb dX0_bitsOf_35 (by decide) (fun _ => ?_) (fun h9 => absurd (cmp_neg .l (sz_lt h1 h2 (by omega) (by omega) v_c2 (by omega))) h9)
    refine lv_iconst (v := 0) hx hb dX0_bitsOf_52 (by decide) ?_
    refine lv_istore_n (lv' := [(3, .int 0), (2, .int 127), (1, .float (szf c0 (-24))), (0, .float b)]) hx hb dX0_bitsOf_53 rfl hl (by decide) rfl (fun ls hl => ?_)
    refine lv_iload_n hx hb dX0_bitsOf_54 rfl (lv_at hl 0 rfl) ?_
    refine lv_bipush (v := 127) hx hb dX0_bitsOf_55 (by decide) ?_
    refine lv_icmp_ge (tgt := 79) hx hb dX0_bitsOf_57 (by decide) (fun h9 => absurd h9 (by decide)) (fun _ => ?_)
    refine lv_fload_n hx hb dX0_bitsOf_60 rfl (lv_at hl 2 rfl) ?_
    refine lv_fconst1 hx hb dX0_bitsOf_61 ?_
    refine lv_fcmp hx hb dX0_bitsOf_62 ?_
    refine lv_if_ge (tgt := 79) hx hb dX0_bitsOf_63 (by decide) (fun h9 => absurd h9 (Int32.not_le.mpr (cmp_neg .g (sz_lt h1 h2 (by omega) (by omega) v_c1 (by omega))))) (fun _ => ?_)
    refine lv_fload_n hx hb dX0_bitsOf_66 rfl (lv_at hl 2 rfl) ?_
    refine lv_fconst2 hx hb dX0_bitsOf_67 ?_
    refine lv_fmul hx hb dX0_bitsOf_68 (by rw [sz_two h1 h2 (by omega) (by omega)]; exact nn_szf h1 h2 (by omega) (by omega)) ?_
    refine lv_topf (fun v9 e9 => ?_)
    have e9 := e9.trans ((sz_two h1 h2 (by omega) (by omega)).trans (congrArg (szf c0) (by decide : (-24 : Int) + 1 = -23)))
    subst e9
    refine lv_fstore_n (lv' := [(1, .float (szf c0 (-23))), (3, .int 0), (2, .int 127), (0, .float b)]) hx hb dX0_bitsOf_69 rfl hl (by decide) rfl (fun ls hl => ?_)
    refine lv_iinc (v := (nI ((-24 : Int) + 150).toNat)) (lv' := [(2, .int (nI ((-24 : Int) + 150).toNat)), (1, .float (szf c0 (-23))), (3, .int 0), (0, .float b)]) hx hb dX0_bitsOf_70 hl (k := 2) rfl (by decide) (by decide) rfl (fun ls hl => ?_)
    refine lv_iinc (v := (0 + 1)) (lv' := [(3, .int (0 + 1)), (2, .int (nI ((-24 : Int) + 150).toNat)), (1, .float (szf c0 (-23))), (0, .float b)]) hx hb dX0_bitsOf_73 hl (k := 2) rfl rfl (by decide) rfl (fun ls hl => ?_)
    refine lv_goto (tgt := 54) hx hb dX0_bitsOf_76 (by decide) ?_
    refine lv_iload_n hx hb dX0_bitsOf_54 rfl (lv_at hl 0 rfl) ?_
    refine lv_bipush (v := 127) hx hb dX0_bitsOf_55 (by decide) ?_
    refine lv_icmp_ge (tgt := 79) hx hb dX0_bitsOf_57 (by decide) (fun h9 => absurd h9 (by decide)) (fun _ => ?_)
    refine lv_fload_n hx hb dX0_bitsOf_60 rfl (lv_at hl 2 rfl) ?_
    refine lv_fconst1 hx hb dX0_bitsOf_61 ?_
    refine lv_fcmp hx hb dX0_bitsOf_62 ?_
    refine lv_if_ge (tgt := 79) hx hb dX0_bitsOf_63 (by decide) (fun _ => ?_) (fun h9 => absurd (Int32.not_lt.mp (sz_nlt .g h1 h2 (by omega) (by omega) v_c1 (by omega))) h9)
    exact tail _ _ ls hf0 (lv_sub hl [3, 2, 1, 0] rfl)
set_option maxHeartbeats 800000 in
set_option maxRecDepth 100000 in
theorem c_bits_n (l : Launch) (Hp : Heap) (b : UInt32) {c0 : Nat} {q : Int} (hv : FP.Core.val32 b = .fin true c0 q) (h1 : 2 ^ 23 ≤ c0) (h2 : c0 < 2 ^ 24) (h3 : -24 ≤ q) (h4 : q ≤ 20) : Met l yX0_bitsOf wsX0_bitsOf ({ frames := 2, cells := 0, slots := 0, locals := 40 }) (va_Pc [.float b] (fun U => U.heap = Hp)) (va_Qi (fun (r : Int32) (_ : Unit) => r = b.toInt32) (fun _ t => t.heap = Hp) (fun _ => False)) 0 0 (fun _ => False) := by
  refine Met.ofW (cc := cX0_bitsOf) (maxL := 5) (ret := some .int) (by decide) rfl ?_
  intro p e s m args below meth c s₁ B hml hv
  obtain ⟨rfl, hH⟩ := hv
  subst hH
  have hx := B.exec
  have hb := B.bytes
  have hr := B.returns
  have hts := atoms_spec (ws := wsX0_bitsOf) B.pre
  have hown : s.vm.findClass RX0 = some m.cls := findClass_of_methodNamed B.named
  have hlocks := B.notSynchronized
  have hS : va_S (fun _ => False) s.heap s.heap [] := va_S.rf
  have hA : ∀ q : Nat, s.heap.size ≤ q → aNew s.heap q := fun q h => h
  have hl := lv_entry ([.float b]) (n := 5) (Nat.le_of_ble_eq_true rfl)
  rw [lg_entry_eq]
  generalize (lg_sl ([.float b]) ++ List.replicate (5 - (lg_sl ([.float b])).length) Slot.unset).toArray = ls at hl ⊢
  have hl : lv_has ls 5 [(0, .float b)] := hl
  have hf0 : ∀ q ∈ ([] : List Loc), (fun _ : Addr => False) q.base := fun q hq => absurd hq List.not_mem_nil
  have tail : ∀ (st : Int32) (locs : List Loc) (ls : Array Slot), (∀ q ∈ locs, (fun _ : Addr => False) q.base) → lv_has ls 5 [(0, .float b), (1, .float (szf c0 (-23))), (2, .int (nI (q + 150).toNat)), (3, .int st)] → W p l e (headSpec wsX0_bitsOf ({ frames := 2, cells := 0, slots := 0, locals := 40 })).room s m ([.float b]).toArray below meth c s.heap locs 0 0 (MQ below (va_Qi (fun (r : Int32) (_ : Unit) => r = b.toInt32) (fun _ t => t.heap = s.heap) (fun _ => False)) ([.float b]).toArray s 0 0 (fun _ => False)) (F0 m 79 ls []) := by
    intro st locs ls hf0 hl
    refine lv_fload_n hx hb dX0_bitsOf_79 rfl (lv_at hl 1 rfl) ?_
    refine lv_fconst1 hx hb dX0_bitsOf_80 ?_
    refine lv_fsub hx hb dX0_bitsOf_81 (sz_frac h1 h2).2.1 ?_
    refine lv_ldcf (v := 1258291200) hx hb hown (hts (.constantFloat RX0 149 (1258291200)) (by decide +kernel)) dX0_bitsOf_82 ?_
    refine lv_fmul hx hb dX0_bitsOf_84 (sz_frac h1 h2).2.2 ?_
    refine lv_f2i hx hb dX0_bitsOf_85 ?_
    refine lv_topi (fun v9 e9 => ?_)
    have e9 := e9.trans (sz_frac h1 h2).1
    subst e9
    refine lv_istore_n (lv' := [(3, .int (nI (c0 - 2 ^ 23))), (0, .float b), (1, .float (szf c0 (-23))), (2, .int (nI (q + 150).toNat))]) hx hb dX0_bitsOf_86 rfl hl (by decide) rfl (fun ls hl => ?_)
    refine lv_iload_n hx hb dX0_bitsOf_87 rfl (lv_at hl 3 rfl) ?_
    refine lv_bipush (v := 23) hx hb dX0_bitsOf_88 (by decide) ?_
    refine lv_ishl hx hb dX0_bitsOf_90 ?_
    refine lv_iload_n hx hb dX0_bitsOf_91 rfl (lv_at hl 0 rfl) ?_
    refine lv_ior hx hb dX0_bitsOf_92 ?_
    refine lv_topi (fun v9 e9 => ?_)
    have e9 := e9.trans (bits_make (by omega) (by omega))
    subst e9
    refine lv_istore (lv' := [(4, .int (nI ((q + 150).toNat * 2 ^ 23 + (c0 - 2 ^ 23)))), (3, .int (nI (c0 - 2 ^ 23))), (0, .float b), (1, .float (szf c0 (-23))), (2, .int (nI (q + 150).toNat))]) hx hb dX0_bitsOf_93 hl (by decide) rfl (fun ls hl => ?_)
    refine lv_fload_n hx hb dX0_bitsOf_95 rfl (lv_at hl 2 rfl) ?_
    refine lv_fconst0 hx hb dX0_bitsOf_96 ?_
    refine lv_fcmp hx hb dX0_bitsOf_97 ?_
    refine lv_topi (fun v9 e9 => ?_)
    have e9 := e9.trans (cmp_m1 .g (nz_neg hv (by omega)))
    subst e9
    refine lv_if_ge (tgt := 109) hx hb dX0_bitsOf_98 (by decide) (fun h9 => absurd h9 (by decide)) (fun _ => ?_)
    refine lv_iload hx hb dX0_bitsOf_101 (lv_at hl 0 rfl) ?_
    refine lv_ldc (v := (-2147483648)) hx hb hown (hts (.constant RX0 150 (-2147483648)) (by decide +kernel)) dX0_bitsOf_103 ?_
    refine lv_ior hx hb dX0_bitsOf_105 ?_
    refine lv_topi (fun v9 e9 => ?_)
    have e9 := e9.trans (top_or (by omega))
    subst e9
    refine lv_goto (tgt := 111) hx hb dX0_bitsOf_106 (by decide) ?_
    exact W.iret hx hb hr (fun t ht hW => ⟨⟨_, (), rfl, (by rw [bits_of hv h1 h2 (by omega) (by omega)]; exact congrArg nI (by simp only [Bool.toNat_true, Nat.one_mul]; omega)), ht⟩, (va_S.rf (A := fun _ => False)).F ht⟩) hf0 dX0_bitsOf_111
  have loop : -23 ≤ q → ∀ (n i : Nat) (ls : Array Slot), i + n = (q + 23).toNat → lv_has ls 5 [(0, .float b), (1, .float (szf c0 (q - (i : Nat)))), (2, .int (nI (127 + i))), (3, .int (nI i))] → W p l e (headSpec wsX0_bitsOf ({ frames := 2, cells := 0, slots := 0, locals := 40 })).room s m ([.float b]).toArray below meth c s.heap [] 0 0 (MQ below (va_Qi (fun (r : Int32) (_ : Unit) => r = b.toInt32) (fun _ t => t.heap = s.heap) (fun _ => False)) ([.float b]).toArray s 0 0 (fun _ => False)) (F0 m 26 ls []) := by
    intro hq n
    induction n with
    | zero =>
      intro i ls hi hl
      have e9 : q - (i : Nat) = -23 := by omega
      have e8 : 127 + i = (q + 150).toNat := by omega
      have e7 : i < 44 := by omega
      rw [e9, e8] at hl
      refine lv_iload_n hx hb dX0_bitsOf_26 rfl (lv_at hl 3 rfl) ?_
      refine lv_bipush (v := 127) hx hb dX0_bitsOf_27 (by decide) ?_
      refine lv_icmp_ge (tgt := 52) hx hb dX0_bitsOf_29 (by decide) (fun h9 => absurd h9 (nI_ge (b := 127) (by omega) (by omega))) (fun _ => ?_)
      refine lv_fload_n hx hb dX0_bitsOf_32 rfl (lv_at hl 1 rfl) ?_
      refine lv_fconst2 hx hb dX0_bitsOf_33 ?_
      refine lv_fcmp hx hb dX0_bitsOf_34 ?_
      refine lv_if_lt (tgt := 52) hx hb dX0_bitsOf_35 (by decide) (fun _ => ?_) (fun h9 => absurd (cmp_neg .l (sz_lt h1 h2 (by omega) (by omega) v_c2 (by omega))) h9)
      refine lv_iconst (v := 0) hx hb dX0_bitsOf_52 (by decide) ?_
      refine lv_istore_n (lv' := [(3, .int 0), (0, .float b), (1, .float (szf c0 (-23))), (2, .int (nI (q + 150).toNat))]) hx hb dX0_bitsOf_53 rfl hl (by decide) rfl (fun ls hl => ?_)
      refine lv_iload_n hx hb dX0_bitsOf_54 rfl (lv_at hl 0 rfl) ?_
      refine lv_bipush (v := 127) hx hb dX0_bitsOf_55 (by decide) ?_
      refine lv_icmp_ge (tgt := 79) hx hb dX0_bitsOf_57 (by decide) (fun h9 => absurd h9 (by decide)) (fun _ => ?_)
      refine lv_fload_n hx hb dX0_bitsOf_60 rfl (lv_at hl 2 rfl) ?_
      refine lv_fconst1 hx hb dX0_bitsOf_61 ?_
      refine lv_fcmp hx hb dX0_bitsOf_62 ?_
      refine lv_if_ge (tgt := 79) hx hb dX0_bitsOf_63 (by decide) (fun _ => ?_) (fun h9 => absurd (Int32.not_lt.mp (sz_nlt .g h1 h2 (by omega) (by omega) v_c1 (by omega))) h9)
      exact tail _ _ ls hf0 (lv_sub hl [1, 2, 3, 0] rfl)
    | succ n ih =>
      intro i ls hi hl
      have e7 : i < 44 := by omega
      refine lv_iload_n hx hb dX0_bitsOf_26 rfl (lv_at hl 3 rfl) ?_
      refine lv_bipush (v := 127) hx hb dX0_bitsOf_27 (by decide) ?_
      refine lv_icmp_ge (tgt := 52) hx hb dX0_bitsOf_29 (by decide) (fun h9 => absurd h9 (nI_ge (b := 127) (by omega) (by omega))) (fun _ => ?_)
      refine lv_fload_n hx hb dX0_bitsOf_32 rfl (lv_at hl 1 rfl) ?_
      refine lv_fconst2 hx hb dX0_bitsOf_33 ?_
      refine lv_fcmp hx hb dX0_bitsOf_34 ?_
      refine lv_if_lt (tgt := 52) hx hb dX0_bitsOf_35 (by decide) (fun h9 => absurd h9 (sz_nlt .l h1 h2 (by omega) (by omega) v_c2 (by omega))) (fun _ => ?_)
      refine lv_fload_n hx hb dX0_bitsOf_38 rfl (lv_at hl 1 rfl) ?_
      refine lv_ldcf (v := 1056964608) hx hb hown (hts (.constantFloat RX0 128 (1056964608)) (by decide +kernel)) dX0_bitsOf_39 ?_
      refine lv_fmul hx hb dX0_bitsOf_41 (by rw [sz_half h1 h2 (by omega) (by omega)]; exact nn_szf h1 h2 (by omega) (by omega)) ?_
      refine lv_topf (fun v9 e9 => ?_)
      have e9 := e9.trans ((sz_half h1 h2 (by omega) (by omega)).trans (by rw [show q - (i : Nat) - 1 = q - ((i + 1 : Nat) : Int) by omega]))
      subst e9
      refine lv_fstore_n (lv' := [(1, .float (szf c0 (q - ((i + 1 : Nat) : Int)))), (0, .float b), (2, .int (nI (127 + i))), (3, .int (nI i))]) hx hb dX0_bitsOf_42 rfl hl (by decide) rfl (fun ls hl => ?_)
      refine lv_iinc (v := (nI (127 + i + 1))) (lv' := [(2, .int (nI (127 + i + 1))), (1, .float (szf c0 (q - ((i + 1 : Nat) : Int)))), (0, .float b), (3, .int (nI i))]) hx hb dX0_bitsOf_43 hl (k := 2) rfl (nI_1 (127 + i)) (by decide) rfl (fun ls hl => ?_)
      refine lv_iinc (v := (nI (i + 1))) (lv' := [(3, .int (nI (i + 1))), (2, .int (nI (127 + i + 1))), (1, .float (szf c0 (q - ((i + 1 : Nat) : Int)))), (0, .float b)]) hx hb dX0_bitsOf_46 hl (k := 3) rfl (nI_1 i) (by decide) rfl (fun ls hl => ?_)
      refine lv_goto (tgt := 26) hx hb dX0_bitsOf_49 (by decide) ?_
      exact ih (i + 1) ls (by omega) (lv_sub hl [3, 2, 1, 0] rfl)
  refine lv_fload_n hx hb dX0_bitsOf_0 rfl (lv_at hl 0 rfl) ?_
  refine lv_fconst0 hx hb dX0_bitsOf_1 ?_
  refine lv_fcmp hx hb dX0_bitsOf_2 ?_
  refine lv_topi (fun v9 e9 => ?_)
  have e9 := e9.trans (cmp_m1 .l (nz_neg hv (by omega)))
  subst e9
  refine lv_if_ne (tgt := 8) hx hb dX0_bitsOf_3 (by decide) (fun _ => ?_) (fun h9 => absurd h9 (by decide))
  refine lv_fload_n hx hb dX0_bitsOf_8 rfl (lv_at hl 0 rfl) ?_
  refine lv_fconst0 hx hb dX0_bitsOf_9 ?_
  refine lv_fcmp hx hb dX0_bitsOf_10 ?_
  refine lv_topi (fun v9 e9 => ?_)
  have e9 := e9.trans (cmp_m1 .g (nz_neg hv (by omega)))
  subst e9
  refine lv_if_ge (tgt := 19) hx hb dX0_bitsOf_11 (by decide) (fun h9 => absurd h9 (by decide)) (fun _ => ?_)
  refine lv_fload_n hx hb dX0_bitsOf_14 rfl (lv_at hl 0 rfl) ?_
  refine lv_fneg hx hb dX0_bitsOf_15 ?_
  refine lv_goto (tgt := 20) hx hb dX0_bitsOf_16 (by decide) ?_
  refine lv_topf (fun v9 e9 => ?_)
  have e9 := e9.trans (fneg_szf hv)
  subst e9
  refine lv_fstore_n (lv' := [(1, .float (szf c0 q)), (0, .float b)]) hx hb dX0_bitsOf_20 rfl hl (by decide) rfl (fun ls hl => ?_)
  refine lv_bipush (v := 127) hx hb dX0_bitsOf_21 (by decide) ?_
  refine lv_istore_n (lv' := [(2, .int 127), (1, .float (szf c0 q)), (0, .float b)]) hx hb dX0_bitsOf_23 rfl hl (by decide) rfl (fun ls hl => ?_)
  refine lv_iconst (v := 0) hx hb dX0_bitsOf_24 (by decide) ?_
  refine lv_istore_n (lv' := [(3, .int 0), (2, .int 127), (1, .float (szf c0 q)), (0, .float b)]) hx hb dX0_bitsOf_25 rfl hl (by decide) rfl (fun ls hl => ?_)
  by_cases hq : -23 ≤ q
  · exact loop hq (q + 23).toNat 0 ls (by omega) (by have e9 : q - ((0 : Nat) : Int) = q := (by omega); rw [e9]; exact lv_sub hl [3, 2, 1, 0] rfl)
  · have hq : q = -24 := by omega
    subst hq
    refine lv_iload_n hx hb dX0_bitsOf_26 rfl (lv_at hl 0 rfl) ?_
    refine lv_bipush (v := 127) hx hb dX0_bitsOf_27 (by decide) ?_
    refine lv_icmp_ge (tgt := 52) hx hb dX0_bitsOf_29 (by decide) (fun h9 => absurd h9 (by decide)) (fun _ => ?_)
    refine lv_fload_n hx hb dX0_bitsOf_32 rfl (lv_at hl 2 rfl) ?_
    refine lv_fconst2 hx hb dX0_bitsOf_33 ?_
    refine lv_fcmp hx hb dX0_bitsOf_34 ?_
    refine lv_if_lt (tgt := 52) hx hb dX0_bitsOf_35 (by decide) (fun _ => ?_) (fun h9 => absurd (cmp_neg .l (sz_lt h1 h2 (by omega) (by omega) v_c2 (by omega))) h9)
    refine lv_iconst (v := 0) hx hb dX0_bitsOf_52 (by decide) ?_
    refine lv_istore_n (lv' := [(3, .int 0), (2, .int 127), (1, .float (szf c0 (-24))), (0, .float b)]) hx hb dX0_bitsOf_53 rfl hl (by decide) rfl (fun ls hl => ?_)
    refine lv_iload_n hx hb dX0_bitsOf_54 rfl (lv_at hl 0 rfl) ?_
    refine lv_bipush (v := 127) hx hb dX0_bitsOf_55 (by decide) ?_
    refine lv_icmp_ge (tgt := 79) hx hb dX0_bitsOf_57 (by decide) (fun h9 => absurd h9 (by decide)) (fun _ => ?_)
    refine lv_fload_n hx hb dX0_bitsOf_60 rfl (lv_at hl 2 rfl) ?_
    refine lv_fconst1 hx hb dX0_bitsOf_61 ?_
    refine lv_fcmp hx hb dX0_bitsOf_62 ?_
    refine lv_if_ge (tgt := 79) hx hb dX0_bitsOf_63 (by decide) (fun h9 => absurd h9 (Int32.not_le.mpr (cmp_neg .g (sz_lt h1 h2 (by omega) (by omega) v_c1 (by omega))))) (fun _ => ?_)
    refine lv_fload_n hx hb dX0_bitsOf_66 rfl (lv_at hl 2 rfl) ?_
    refine lv_fconst2 hx hb dX0_bitsOf_67 ?_
    refine lv_fmul hx hb dX0_bitsOf_68 (by rw [sz_two h1 h2 (by omega) (by omega)]; exact nn_szf h1 h2 (by omega) (by omega)) ?_
    refine lv_topf (fun v9 e9 => ?_)
    have e9 := e9.trans ((sz_two h1 h2 (by omega) (by omega)).trans (congrArg (szf c0) (by decide : (-24 : Int) + 1 = -23)))
    subst e9
    refine lv_fstore_n (lv' := [(1, .float (szf c0 (-23))), (3, .int 0), (2, .int 127), (0, .float b)]) hx hb dX0_bitsOf_69 rfl hl (by decide) rfl (fun ls hl => ?_)
    refine lv_iinc (v := (nI ((-24 : Int) + 150).toNat)) (lv' := [(2, .int (nI ((-24 : Int) + 150).toNat)), (1, .float (szf c0 (-23))), (3, .int 0), (0, .float b)]) hx hb dX0_bitsOf_70 hl (k := 2) rfl (by decide) (by decide) rfl (fun ls hl => ?_)
    refine lv_iinc (v := (0 + 1)) (lv' := [(3, .int (0 + 1)), (2, .int (nI ((-24 : Int) + 150).toNat)), (1, .float (szf c0 (-23))), (0, .float b)]) hx hb dX0_bitsOf_73 hl (k := 2) rfl rfl (by decide) rfl (fun ls hl => ?_)
    refine lv_goto (tgt := 54) hx hb dX0_bitsOf_76 (by decide) ?_
    refine lv_iload_n hx hb dX0_bitsOf_54 rfl (lv_at hl 0 rfl) ?_
    refine lv_bipush (v := 127) hx hb dX0_bitsOf_55 (by decide) ?_
    refine lv_icmp_ge (tgt := 79) hx hb dX0_bitsOf_57 (by decide) (fun h9 => absurd h9 (by decide)) (fun _ => ?_)
    refine lv_fload_n hx hb dX0_bitsOf_60 rfl (lv_at hl 2 rfl) ?_
    refine lv_fconst1 hx hb dX0_bitsOf_61 ?_
    refine lv_fcmp hx hb dX0_bitsOf_62 ?_
    refine lv_if_ge (tgt := 79) hx hb dX0_bitsOf_63 (by decide) (fun _ => ?_) (fun h9 => absurd (Int32.not_lt.mp (sz_nlt .g h1 h2 (by omega) (by omega) v_c1 (by omega))) h9)
    exact tail _ _ ls hf0 (lv_sub hl [3, 2, 1, 0] rfl)
theorem c_X0_bitsOf (l : Launch) (Hp : Heap) (b : UInt32) (hg : gF b) : Met l yX0_bitsOf wsX0_bitsOf ({ frames := 2, cells := 0, slots := 0, locals := 40 }) (va_Pc [.float b] (fun U => U.heap = Hp)) (va_Qi (fun (r : Int32) (_ : Unit) => r = b.toInt32) (fun _ t => t.heap = Hp) (fun _ => False)) 0 0 (fun _ => False) := by
  obtain ⟨s, c, q, hv, -, hs, hn, -⟩ := hg
  rcases hn with hc | ⟨h1, h2, h3, h4⟩
  · rw [hs hc, hc] at hv
    exact c_bits_z l Hp b (zero_of hv)
  · cases s
    · exact c_bits_p l Hp b hv h1 h2 h3 h4
    · exact c_bits_n l Hp b hv h1 h2 h3 h4
