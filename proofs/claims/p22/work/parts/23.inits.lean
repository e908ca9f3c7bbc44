def pF (i : Nat) : Nat → Int32 := fun j => if j < i then 10 else 0
theorem pF_0 : pF 0 = fun _ => 0 := by
  funext j
  unfold pF
  rw [if_neg (by omega)]
theorem pF_upd (i : Nat) : upd (pF i) i 10 = pF (i + 1) := by
  funext j
  unfold upd pF
  by_cases h : j = i
  · rw [if_pos h, if_pos (by omega)]
  · rw [if_neg h]
    by_cases h2 : j < i
    · rw [if_pos h2, if_pos (by omega)]
    · rw [if_neg h2, if_neg (by omega)]
theorem tgSame {dG : va_G} {cl : List vw_C} {tys : List (ClassId × FieldType)} {s : State} (hK : va_K dG cl tys s) {i j : Nat} {c1 c2 : ClassId} (h1 : tys[i]? = some (c1, .int)) (h2 : tys[j]? = some (c2, .int)) : c1 = c2 := by
  have e1 : s.vm.findClass ("[" ++ FieldType.int.toString) = some c1 := (hK.2 i _ h1).2
  have e2 : s.vm.findClass ("[" ++ FieldType.int.toString) = some c2 := (hK.2 j _ h2).2
  exact Option.some.inj (e1.symm.trans e2)
set_option maxHeartbeats 4000000 in
set_option maxRecDepth 100000 in
theorem c_X0_init (l : Launch) (dG : va_G) (h0 : Nat) (Hp : Heap) : Met l yX0_init wsX0_init ({ frames := 2, cells := 8, slots := 1608, locals := 40 }) (va_Pc [.ref h0] (fun U => wPre dG [] ([(h0, .inr (0, [.null, .null, .null, .null, .null, .null, .null, .null, .int 0, .int 0, .int 0, .int 0, .int 0, .int 0, .float 0]))]) Hp U)) (va_Qv (fun u : (Nat → Nat) × ClassId => u.1 0 = h0) (fun u t => wAt dG (tyI u.2) (va_A ([(h0, .inr (0, [.null, .null, .null, .null, .null, .null, .null, .null, .int 0, .int 0, .int 0, .int 0, .int 0, .int 0, .float 0]))]) Hp.size) (xW u.1 u.2 (fun _ => 0) (pF 24) (fun _ => 0) (fun _ => 0) (fun _ => 0) (fun _ => 0) (fun _ => 0) (fun _ => 0) 0 0 0 100 0 0 0) t) (va_A ([(h0, .inr (0, [.null, .null, .null, .null, .null, .null, .null, .null, .int 0, .int 0, .int 0, .int 0, .int 0, .int 0, .float 0]))]) Hp.size)) 8 1608 (va_A ([(h0, .inr (0, [.null, .null, .null, .null, .null, .null, .null, .null, .int 0, .int 0, .int 0, .int 0, .int 0, .int 0, .float 0]))]) Hp.size) := by
  refine Met.ofW (cc := cX0_init) (maxL := 2) (ret := none) (by decide) rfl ?_
  intro p e s m args below meth c s₁ Bd hml hv
  obtain ⟨rfl, hH, hP, hK, hD0⟩ := hv
  subst hH
  have hx := Bd.exec
  have hb := Bd.bytes
  have hr := Bd.returns
  have hts := atoms_spec (ws := wsX0_init) Bd.pre
  have hown : s.vm.findClass RX0 = some m.cls := findClass_of_methodNamed Bd.named
  have hlocks := Bd.notSynchronized
  have hin : meth.name = "<init>" := (name_of_methodNamed Bd.named Bd.method).1
  have hinX : ∀ w ∈ wsX00, w ∈ wsX0_init := by decide +kernel
  have hD := hD0.self (sz := s.heap.size)
  generalize hAe : va_A ([(h0, .inr (0, [.null, .null, .null, .null, .null, .null, .null, .null, .int 0, .int 0, .int 0, .int 0, .int 0, .int 0, .float 0]))]) s.heap.size = F at hD ⊢
  have hA : ∀ q : Nat, s.heap.size ≤ q → F q := fun q h => by rw [← hAe]; exact Or.inr h
  have hS : va_S F s.heap s.heap [] := va_S.rf
  have hP : va_P dG vwCl ([(h0, .inr (0, [.null, .null, .null, .null, .null, .null, .null, .null, .int 0, .int 0, .int 0, .int 0, .int 0, .int 0, .float 0]))]) s.heap := hP
  have hl := lv_entry ([.ref h0]) (n := 2) (Nat.le_of_ble_eq_true rfl)
  rw [lg_entry_eq]
  generalize (lg_sl ([.ref h0]) ++ List.replicate (2 - (lg_sl ([.ref h0])).length) Slot.unset).toArray = ls at hl ⊢
  have hl : lv_has ls 2 [(0, .ref h0)] := hl
  refine lv_aload_n hx hb dX0_init_0 rfl (lv_at hl 0 rfl) ?_
  refine W.objInit hx hb hown (hts (.methodLink RX0 3 objectInit) (by decide +kernel)) (hts (.instanceMethod objectInit) (by decide +kernel)) (hts _ (List.mem_cons_of_mem _ (List.mem_append_left _ (List.mem_of_getElem? (i := 2) rfl)))) rfl (by rw [hml]; exact hl.1) rfl dX0_init_1 (Nat.le_of_ble_eq_true rfl) (Nat.le_of_ble_eq_true rfl) ?_
  refine W.eq (g2 := F0 m 4 ls []) rfl ?_
  refine lv_aload_n hx hb dX0_init_4 rfl (lv_at hl 0 rfl) ?_
  refine lv_bipush (v := 24) hx hb dX0_init_5 (by decide) ?_
  refine va_newa (atype := .int) (ty := .int) (a0 := (24, .inl (fun _ => 0))) hx hb (hts (.arrayClass .int) (by decide +kernel)) rfl hK hP hD hS hA (fun _ => rfl) (by decide) (by decide) (Nat.le_of_ble_eq_true rfl) (Nat.le_of_ble_eq_true rfl) (Nat.le_of_ble_eq_true rfl) dX0_init_7 (fun q1 c1 H hK hP hD hS => ?_)
  obtain ⟨cA, hcA⟩ : ∃ z, z = c1 := ⟨_, rfl⟩
  subst hcA
  have hK : va_K dG vwCl (tyI cA) s := hK.sub [0] rfl
  have hP : va_P dG vwCl ([(h0, .inr (0, [.null, .null, .null, .null, .null, .null, .null, .null, .int 0, .int 0, .int 0, .int 0, .int 0, .int 0, .float 0])), (q1, .inl (cA, 24, .inl (fun _ => 0)))]) H := hP
  have hD : va_D F ([(h0, .inr (0, [.null, .null, .null, .null, .null, .null, .null, .null, .int 0, .int 0, .int 0, .int 0, .int 0, .int 0, .float 0])), (q1, .inl (cA, 24, .inl (fun _ => 0)))]) := hD
  refine va_putF (D := dG) (ci := 0) (v := .ref q1) (ty := .array .int) (C := RX0) (T := TX0) (N := 15) hx hb hts hinX tyX0 tyX0_ok nmX0 hown hK hP hD hS 0 rfl rfl 0 (by decide) (hts (.fieldLink RX0 9 "TidegateBourse" "levels" "[I") (by decide +kernel)) (fun _ h9 => h9) rfl hin rfl (by decide +kernel) rfl rfl (Nat.le_of_ble_eq_true rfl) dX0_init_9 (fun H locs hP hD hS => ?_)
  have hP : va_P dG vwCl ([(h0, .inr (0, [.ref q1, .null, .null, .null, .null, .null, .null, .null, .int 0, .int 0, .int 0, .int 0, .int 0, .int 0, .float 0])), (q1, .inl (cA, 24, .inl (fun _ => 0)))]) H := hP
  have hD : va_D F ([(h0, .inr (0, [.ref q1, .null, .null, .null, .null, .null, .null, .null, .int 0, .int 0, .int 0, .int 0, .int 0, .int 0, .float 0])), (q1, .inl (cA, 24, .inl (fun _ => 0)))]) := hD
  refine lv_aload_n hx hb dX0_init_12 rfl (lv_at hl 0 rfl) ?_
  refine lv_bipush (v := 24) hx hb dX0_init_13 (by decide) ?_
  refine va_newa (atype := .int) (ty := .int) (a0 := (24, .inl (fun _ => 0))) hx hb (hts (.arrayClass .int) (by decide +kernel)) rfl hK hP hD hS hA (fun _ => rfl) (by decide) (by decide) (Nat.le_of_ble_eq_true rfl) (Nat.le_of_ble_eq_true rfl) (Nat.le_of_ble_eq_true rfl) dX0_init_15 (fun q2 c2 H hK hP hD hS => ?_)
  have ec := tgSame hK (i := 0) (j := 1) rfl rfl
  subst ec
  have hK : va_K dG vwCl (tyI cA) s := hK.sub [0] rfl
  have hP : va_P dG vwCl ([(h0, .inr (0, [.ref q1, .null, .null, .null, .null, .null, .null, .null, .int 0, .int 0, .int 0, .int 0, .int 0, .int 0, .float 0])), (q1, .inl (cA, 24, .inl (fun _ => 0))), (q2, .inl (cA, 24, .inl (fun _ => 0)))]) H := hP
  have hD : va_D F ([(h0, .inr (0, [.ref q1, .null, .null, .null, .null, .null, .null, .null, .int 0, .int 0, .int 0, .int 0, .int 0, .int 0, .float 0])), (q1, .inl (cA, 24, .inl (fun _ => 0))), (q2, .inl (cA, 24, .inl (fun _ => 0)))]) := hD
  refine va_putF (D := dG) (ci := 0) (v := .ref q2) (ty := .array .int) (C := RX0) (T := TX0) (N := 15) hx hb hts hinX tyX0 tyX0_ok nmX0 hown hK hP hD hS 0 rfl rfl 1 (by decide) (hts (.fieldLink RX0 13 "TidegateBourse" "prices" "[I") (by decide +kernel)) (fun _ h9 => h9) rfl hin rfl (by decide +kernel) rfl rfl (Nat.le_of_ble_eq_true rfl) dX0_init_17 (fun H locs hP hD hS => ?_)
  have hP : va_P dG vwCl ([(h0, .inr (0, [.ref q1, .ref q2, .null, .null, .null, .null, .null, .null, .int 0, .int 0, .int 0, .int 0, .int 0, .int 0, .float 0])), (q1, .inl (cA, 24, .inl (fun _ => 0))), (q2, .inl (cA, 24, .inl (fun _ => 0)))]) H := hP
  have hD : va_D F ([(h0, .inr (0, [.ref q1, .ref q2, .null, .null, .null, .null, .null, .null, .int 0, .int 0, .int 0, .int 0, .int 0, .int 0, .float 0])), (q1, .inl (cA, 24, .inl (fun _ => 0))), (q2, .inl (cA, 24, .inl (fun _ => 0)))]) := hD
  refine lv_aload_n hx hb dX0_init_20 rfl (lv_at hl 0 rfl) ?_
  refine lv_iconst (v := 4) hx hb dX0_init_21 (by decide) ?_
  refine va_newa (atype := .int) (ty := .int) (a0 := (4, .inl (fun _ => 0))) hx hb (hts (.arrayClass .int) (by decide +kernel)) rfl hK hP hD hS hA (fun _ => rfl) (by decide) (by decide) (Nat.le_of_ble_eq_true rfl) (Nat.le_of_ble_eq_true rfl) (Nat.le_of_ble_eq_true rfl) dX0_init_22 (fun q3 c3 H hK hP hD hS => ?_)
  have ec := tgSame hK (i := 0) (j := 1) rfl rfl
  subst ec
  have hK : va_K dG vwCl (tyI cA) s := hK.sub [0] rfl
  have hP : va_P dG vwCl ([(h0, .inr (0, [.ref q1, .ref q2, .null, .null, .null, .null, .null, .null, .int 0, .int 0, .int 0, .int 0, .int 0, .int 0, .float 0])), (q1, .inl (cA, 24, .inl (fun _ => 0))), (q2, .inl (cA, 24, .inl (fun _ => 0))), (q3, .inl (cA, 4, .inl (fun _ => 0)))]) H := hP
  have hD : va_D F ([(h0, .inr (0, [.ref q1, .ref q2, .null, .null, .null, .null, .null, .null, .int 0, .int 0, .int 0, .int 0, .int 0, .int 0, .float 0])), (q1, .inl (cA, 24, .inl (fun _ => 0))), (q2, .inl (cA, 24, .inl (fun _ => 0))), (q3, .inl (cA, 4, .inl (fun _ => 0)))]) := hD
  refine va_putF (D := dG) (ci := 0) (v := .ref q3) (ty := .array .int) (C := RX0) (T := TX0) (N := 15) hx hb hts hinX tyX0 tyX0_ok nmX0 hown hK hP hD hS 0 rfl rfl 2 (by decide) (hts (.fieldLink RX0 16 "TidegateBourse" "gates" "[I") (by decide +kernel)) (fun _ h9 => h9) rfl hin rfl (by decide +kernel) rfl rfl (Nat.le_of_ble_eq_true rfl) dX0_init_24 (fun H locs hP hD hS => ?_)
  have hP : va_P dG vwCl ([(h0, .inr (0, [.ref q1, .ref q2, .ref q3, .null, .null, .null, .null, .null, .int 0, .int 0, .int 0, .int 0, .int 0, .int 0, .float 0])), (q1, .inl (cA, 24, .inl (fun _ => 0))), (q2, .inl (cA, 24, .inl (fun _ => 0))), (q3, .inl (cA, 4, .inl (fun _ => 0)))]) H := hP
  have hD : va_D F ([(h0, .inr (0, [.ref q1, .ref q2, .ref q3, .null, .null, .null, .null, .null, .int 0, .int 0, .int 0, .int 0, .int 0, .int 0, .float 0])), (q1, .inl (cA, 24, .inl (fun _ => 0))), (q2, .inl (cA, 24, .inl (fun _ => 0))), (q3, .inl (cA, 4, .inl (fun _ => 0)))]) := hD
  refine lv_aload_n hx hb dX0_init_27 rfl (lv_at hl 0 rfl) ?_
  refine lv_iconst (v := 4) hx hb dX0_init_28 (by decide) ?_
  refine va_newa (atype := .int) (ty := .int) (a0 := (4, .inl (fun _ => 0))) hx hb (hts (.arrayClass .int) (by decide +kernel)) rfl hK hP hD hS hA (fun _ => rfl) (by decide) (by decide) (Nat.le_of_ble_eq_true rfl) (Nat.le_of_ble_eq_true rfl) (Nat.le_of_ble_eq_true rfl) dX0_init_29 (fun q4 c4 H hK hP hD hS => ?_)
  have ec := tgSame hK (i := 0) (j := 1) rfl rfl
  subst ec
  have hK : va_K dG vwCl (tyI cA) s := hK.sub [0] rfl
  have hP : va_P dG vwCl ([(h0, .inr (0, [.ref q1, .ref q2, .ref q3, .null, .null, .null, .null, .null, .int 0, .int 0, .int 0, .int 0, .int 0, .int 0, .float 0])), (q1, .inl (cA, 24, .inl (fun _ => 0))), (q2, .inl (cA, 24, .inl (fun _ => 0))), (q3, .inl (cA, 4, .inl (fun _ => 0))), (q4, .inl (cA, 4, .inl (fun _ => 0)))]) H := hP
  have hD : va_D F ([(h0, .inr (0, [.ref q1, .ref q2, .ref q3, .null, .null, .null, .null, .null, .int 0, .int 0, .int 0, .int 0, .int 0, .int 0, .float 0])), (q1, .inl (cA, 24, .inl (fun _ => 0))), (q2, .inl (cA, 24, .inl (fun _ => 0))), (q3, .inl (cA, 4, .inl (fun _ => 0))), (q4, .inl (cA, 4, .inl (fun _ => 0)))]) := hD
  refine va_putF (D := dG) (ci := 0) (v := .ref q4) (ty := .array .int) (C := RX0) (T := TX0) (N := 15) hx hb hts hinX tyX0 tyX0_ok nmX0 hown hK hP hD hS 0 rfl rfl 3 (by decide) (hts (.fieldLink RX0 19 "TidegateBourse" "wears" "[I") (by decide +kernel)) (fun _ h9 => h9) rfl hin rfl (by decide +kernel) rfl rfl (Nat.le_of_ble_eq_true rfl) dX0_init_31 (fun H locs hP hD hS => ?_)
  have hP : va_P dG vwCl ([(h0, .inr (0, [.ref q1, .ref q2, .ref q3, .ref q4, .null, .null, .null, .null, .int 0, .int 0, .int 0, .int 0, .int 0, .int 0, .float 0])), (q1, .inl (cA, 24, .inl (fun _ => 0))), (q2, .inl (cA, 24, .inl (fun _ => 0))), (q3, .inl (cA, 4, .inl (fun _ => 0))), (q4, .inl (cA, 4, .inl (fun _ => 0)))]) H := hP
  have hD : va_D F ([(h0, .inr (0, [.ref q1, .ref q2, .ref q3, .ref q4, .null, .null, .null, .null, .int 0, .int 0, .int 0, .int 0, .int 0, .int 0, .float 0])), (q1, .inl (cA, 24, .inl (fun _ => 0))), (q2, .inl (cA, 24, .inl (fun _ => 0))), (q3, .inl (cA, 4, .inl (fun _ => 0))), (q4, .inl (cA, 4, .inl (fun _ => 0)))]) := hD
  refine lv_aload_n hx hb dX0_init_34 rfl (lv_at hl 0 rfl) ?_
  refine lv_iconst (v := 4) hx hb dX0_init_35 (by decide) ?_
  refine va_newa (atype := .int) (ty := .int) (a0 := (4, .inl (fun _ => 0))) hx hb (hts (.arrayClass .int) (by decide +kernel)) rfl hK hP hD hS hA (fun _ => rfl) (by decide) (by decide) (Nat.le_of_ble_eq_true rfl) (Nat.le_of_ble_eq_true rfl) (Nat.le_of_ble_eq_true rfl) dX0_init_36 (fun q5 c5 H hK hP hD hS => ?_)
  have ec := tgSame hK (i := 0) (j := 1) rfl rfl
  subst ec
  have hK : va_K dG vwCl (tyI cA) s := hK.sub [0] rfl
  have hP : va_P dG vwCl ([(h0, .inr (0, [.ref q1, .ref q2, .ref q3, .ref q4, .null, .null, .null, .null, .int 0, .int 0, .int 0, .int 0, .int 0, .int 0, .float 0])), (q1, .inl (cA, 24, .inl (fun _ => 0))), (q2, .inl (cA, 24, .inl (fun _ => 0))), (q3, .inl (cA, 4, .inl (fun _ => 0))), (q4, .inl (cA, 4, .inl (fun _ => 0))), (q5, .inl (cA, 4, .inl (fun _ => 0)))]) H := hP
  have hD : va_D F ([(h0, .inr (0, [.ref q1, .ref q2, .ref q3, .ref q4, .null, .null, .null, .null, .int 0, .int 0, .int 0, .int 0, .int 0, .int 0, .float 0])), (q1, .inl (cA, 24, .inl (fun _ => 0))), (q2, .inl (cA, 24, .inl (fun _ => 0))), (q3, .inl (cA, 4, .inl (fun _ => 0))), (q4, .inl (cA, 4, .inl (fun _ => 0))), (q5, .inl (cA, 4, .inl (fun _ => 0)))]) := hD
  refine va_putF (D := dG) (ci := 0) (v := .ref q5) (ty := .array .int) (C := RX0) (T := TX0) (N := 15) hx hb hts hinX tyX0 tyX0_ok nmX0 hown hK hP hD hS 0 rfl rfl 4 (by decide) (hts (.fieldLink RX0 22 "TidegateBourse" "repairEnds" "[I") (by decide +kernel)) (fun _ h9 => h9) rfl hin rfl (by decide +kernel) rfl rfl (Nat.le_of_ble_eq_true rfl) dX0_init_38 (fun H locs hP hD hS => ?_)
  have hP : va_P dG vwCl ([(h0, .inr (0, [.ref q1, .ref q2, .ref q3, .ref q4, .ref q5, .null, .null, .null, .int 0, .int 0, .int 0, .int 0, .int 0, .int 0, .float 0])), (q1, .inl (cA, 24, .inl (fun _ => 0))), (q2, .inl (cA, 24, .inl (fun _ => 0))), (q3, .inl (cA, 4, .inl (fun _ => 0))), (q4, .inl (cA, 4, .inl (fun _ => 0))), (q5, .inl (cA, 4, .inl (fun _ => 0)))]) H := hP
  have hD : va_D F ([(h0, .inr (0, [.ref q1, .ref q2, .ref q3, .ref q4, .ref q5, .null, .null, .null, .int 0, .int 0, .int 0, .int 0, .int 0, .int 0, .float 0])), (q1, .inl (cA, 24, .inl (fun _ => 0))), (q2, .inl (cA, 24, .inl (fun _ => 0))), (q3, .inl (cA, 4, .inl (fun _ => 0))), (q4, .inl (cA, 4, .inl (fun _ => 0))), (q5, .inl (cA, 4, .inl (fun _ => 0)))]) := hD
  refine lv_aload_n hx hb dX0_init_41 rfl (lv_at hl 0 rfl) ?_
  refine lv_sipush (v := 500) hx hb dX0_init_42 (by decide) ?_
  refine va_newa (atype := .int) (ty := .int) (a0 := (500, .inl (fun _ => 0))) hx hb (hts (.arrayClass .int) (by decide +kernel)) rfl hK hP hD hS hA (fun _ => rfl) (by decide) (by decide) (Nat.le_of_ble_eq_true rfl) (Nat.le_of_ble_eq_true rfl) (Nat.le_of_ble_eq_true rfl) dX0_init_45 (fun q6 c6 H hK hP hD hS => ?_)
  have ec := tgSame hK (i := 0) (j := 1) rfl rfl
  subst ec
  have hK : va_K dG vwCl (tyI cA) s := hK.sub [0] rfl
  have hP : va_P dG vwCl ([(h0, .inr (0, [.ref q1, .ref q2, .ref q3, .ref q4, .ref q5, .null, .null, .null, .int 0, .int 0, .int 0, .int 0, .int 0, .int 0, .float 0])), (q1, .inl (cA, 24, .inl (fun _ => 0))), (q2, .inl (cA, 24, .inl (fun _ => 0))), (q3, .inl (cA, 4, .inl (fun _ => 0))), (q4, .inl (cA, 4, .inl (fun _ => 0))), (q5, .inl (cA, 4, .inl (fun _ => 0))), (q6, .inl (cA, 500, .inl (fun _ => 0)))]) H := hP
  have hD : va_D F ([(h0, .inr (0, [.ref q1, .ref q2, .ref q3, .ref q4, .ref q5, .null, .null, .null, .int 0, .int 0, .int 0, .int 0, .int 0, .int 0, .float 0])), (q1, .inl (cA, 24, .inl (fun _ => 0))), (q2, .inl (cA, 24, .inl (fun _ => 0))), (q3, .inl (cA, 4, .inl (fun _ => 0))), (q4, .inl (cA, 4, .inl (fun _ => 0))), (q5, .inl (cA, 4, .inl (fun _ => 0))), (q6, .inl (cA, 500, .inl (fun _ => 0)))]) := hD
  refine va_putF (D := dG) (ci := 0) (v := .ref q6) (ty := .array .int) (C := RX0) (T := TX0) (N := 15) hx hb hts hinX tyX0 tyX0_ok nmX0 hown hK hP hD hS 0 rfl rfl 5 (by decide) (hts (.fieldLink RX0 25 "TidegateBourse" "notes" "[I") (by decide +kernel)) (fun _ h9 => h9) rfl hin rfl (by decide +kernel) rfl rfl (Nat.le_of_ble_eq_true rfl) dX0_init_47 (fun H locs hP hD hS => ?_)
  have hP : va_P dG vwCl ([(h0, .inr (0, [.ref q1, .ref q2, .ref q3, .ref q4, .ref q5, .ref q6, .null, .null, .int 0, .int 0, .int 0, .int 0, .int 0, .int 0, .float 0])), (q1, .inl (cA, 24, .inl (fun _ => 0))), (q2, .inl (cA, 24, .inl (fun _ => 0))), (q3, .inl (cA, 4, .inl (fun _ => 0))), (q4, .inl (cA, 4, .inl (fun _ => 0))), (q5, .inl (cA, 4, .inl (fun _ => 0))), (q6, .inl (cA, 500, .inl (fun _ => 0)))]) H := hP
  have hD : va_D F ([(h0, .inr (0, [.ref q1, .ref q2, .ref q3, .ref q4, .ref q5, .ref q6, .null, .null, .int 0, .int 0, .int 0, .int 0, .int 0, .int 0, .float 0])), (q1, .inl (cA, 24, .inl (fun _ => 0))), (q2, .inl (cA, 24, .inl (fun _ => 0))), (q3, .inl (cA, 4, .inl (fun _ => 0))), (q4, .inl (cA, 4, .inl (fun _ => 0))), (q5, .inl (cA, 4, .inl (fun _ => 0))), (q6, .inl (cA, 500, .inl (fun _ => 0)))]) := hD
  refine lv_aload_n hx hb dX0_init_50 rfl (lv_at hl 0 rfl) ?_
  refine lv_sipush (v := 500) hx hb dX0_init_51 (by decide) ?_
  refine va_newa (atype := .int) (ty := .int) (a0 := (500, .inl (fun _ => 0))) hx hb (hts (.arrayClass .int) (by decide +kernel)) rfl hK hP hD hS hA (fun _ => rfl) (by decide) (by decide) (Nat.le_of_ble_eq_true rfl) (Nat.le_of_ble_eq_true rfl) (Nat.le_of_ble_eq_true rfl) dX0_init_54 (fun q7 c7 H hK hP hD hS => ?_)
  have ec := tgSame hK (i := 0) (j := 1) rfl rfl
  subst ec
  have hK : va_K dG vwCl (tyI cA) s := hK.sub [0] rfl
  have hP : va_P dG vwCl ([(h0, .inr (0, [.ref q1, .ref q2, .ref q3, .ref q4, .ref q5, .ref q6, .null, .null, .int 0, .int 0, .int 0, .int 0, .int 0, .int 0, .float 0])), (q1, .inl (cA, 24, .inl (fun _ => 0))), (q2, .inl (cA, 24, .inl (fun _ => 0))), (q3, .inl (cA, 4, .inl (fun _ => 0))), (q4, .inl (cA, 4, .inl (fun _ => 0))), (q5, .inl (cA, 4, .inl (fun _ => 0))), (q6, .inl (cA, 500, .inl (fun _ => 0))), (q7, .inl (cA, 500, .inl (fun _ => 0)))]) H := hP
  have hD : va_D F ([(h0, .inr (0, [.ref q1, .ref q2, .ref q3, .ref q4, .ref q5, .ref q6, .null, .null, .int 0, .int 0, .int 0, .int 0, .int 0, .int 0, .float 0])), (q1, .inl (cA, 24, .inl (fun _ => 0))), (q2, .inl (cA, 24, .inl (fun _ => 0))), (q3, .inl (cA, 4, .inl (fun _ => 0))), (q4, .inl (cA, 4, .inl (fun _ => 0))), (q5, .inl (cA, 4, .inl (fun _ => 0))), (q6, .inl (cA, 500, .inl (fun _ => 0))), (q7, .inl (cA, 500, .inl (fun _ => 0)))]) := hD
  refine va_putF (D := dG) (ci := 0) (v := .ref q7) (ty := .array .int) (C := RX0) (T := TX0) (N := 15) hx hb hts hinX tyX0 tyX0_ok nmX0 hown hK hP hD hS 0 rfl rfl 6 (by decide) (hts (.fieldLink RX0 28 "TidegateBourse" "madeUnits" "[I") (by decide +kernel)) (fun _ h9 => h9) rfl hin rfl (by decide +kernel) rfl rfl (Nat.le_of_ble_eq_true rfl) dX0_init_56 (fun H locs hP hD hS => ?_)
  have hP : va_P dG vwCl ([(h0, .inr (0, [.ref q1, .ref q2, .ref q3, .ref q4, .ref q5, .ref q6, .ref q7, .null, .int 0, .int 0, .int 0, .int 0, .int 0, .int 0, .float 0])), (q1, .inl (cA, 24, .inl (fun _ => 0))), (q2, .inl (cA, 24, .inl (fun _ => 0))), (q3, .inl (cA, 4, .inl (fun _ => 0))), (q4, .inl (cA, 4, .inl (fun _ => 0))), (q5, .inl (cA, 4, .inl (fun _ => 0))), (q6, .inl (cA, 500, .inl (fun _ => 0))), (q7, .inl (cA, 500, .inl (fun _ => 0)))]) H := hP
  have hD : va_D F ([(h0, .inr (0, [.ref q1, .ref q2, .ref q3, .ref q4, .ref q5, .ref q6, .ref q7, .null, .int 0, .int 0, .int 0, .int 0, .int 0, .int 0, .float 0])), (q1, .inl (cA, 24, .inl (fun _ => 0))), (q2, .inl (cA, 24, .inl (fun _ => 0))), (q3, .inl (cA, 4, .inl (fun _ => 0))), (q4, .inl (cA, 4, .inl (fun _ => 0))), (q5, .inl (cA, 4, .inl (fun _ => 0))), (q6, .inl (cA, 500, .inl (fun _ => 0))), (q7, .inl (cA, 500, .inl (fun _ => 0)))]) := hD
  refine lv_aload_n hx hb dX0_init_59 rfl (lv_at hl 0 rfl) ?_
  refine lv_sipush (v := 548) hx hb dX0_init_60 (by decide) ?_
  refine va_newa (atype := .int) (ty := .int) (a0 := (548, .inl (fun _ => 0))) hx hb (hts (.arrayClass .int) (by decide +kernel)) rfl hK hP hD hS hA (fun _ => rfl) (by decide) (by decide) (Nat.le_of_ble_eq_true rfl) (Nat.le_of_ble_eq_true rfl) (Nat.le_of_ble_eq_true rfl) dX0_init_63 (fun q8 c8 H hK hP hD hS => ?_)
  have ec := tgSame hK (i := 0) (j := 1) rfl rfl
  subst ec
  have hK : va_K dG vwCl (tyI cA) s := hK.sub [0] rfl
  have hP : va_P dG vwCl ([(h0, .inr (0, [.ref q1, .ref q2, .ref q3, .ref q4, .ref q5, .ref q6, .ref q7, .null, .int 0, .int 0, .int 0, .int 0, .int 0, .int 0, .float 0])), (q1, .inl (cA, 24, .inl (fun _ => 0))), (q2, .inl (cA, 24, .inl (fun _ => 0))), (q3, .inl (cA, 4, .inl (fun _ => 0))), (q4, .inl (cA, 4, .inl (fun _ => 0))), (q5, .inl (cA, 4, .inl (fun _ => 0))), (q6, .inl (cA, 500, .inl (fun _ => 0))), (q7, .inl (cA, 500, .inl (fun _ => 0))), (q8, .inl (cA, 548, .inl (fun _ => 0)))]) H := hP
  have hD : va_D F ([(h0, .inr (0, [.ref q1, .ref q2, .ref q3, .ref q4, .ref q5, .ref q6, .ref q7, .null, .int 0, .int 0, .int 0, .int 0, .int 0, .int 0, .float 0])), (q1, .inl (cA, 24, .inl (fun _ => 0))), (q2, .inl (cA, 24, .inl (fun _ => 0))), (q3, .inl (cA, 4, .inl (fun _ => 0))), (q4, .inl (cA, 4, .inl (fun _ => 0))), (q5, .inl (cA, 4, .inl (fun _ => 0))), (q6, .inl (cA, 500, .inl (fun _ => 0))), (q7, .inl (cA, 500, .inl (fun _ => 0))), (q8, .inl (cA, 548, .inl (fun _ => 0)))]) := hD
  refine va_putF (D := dG) (ci := 0) (v := .ref q8) (ty := .array .int) (C := RX0) (T := TX0) (N := 15) hx hb hts hinX tyX0 tyX0_ok nmX0 hown hK hP hD hS 0 rfl rfl 7 (by decide) (hts (.fieldLink RX0 31 "TidegateBourse" "soldUnits" "[I") (by decide +kernel)) (fun _ h9 => h9) rfl hin rfl (by decide +kernel) rfl rfl (Nat.le_of_ble_eq_true rfl) dX0_init_65 (fun H locs hP hD hS => ?_)
  have hP : va_P dG vwCl ([(h0, .inr (0, [.ref q1, .ref q2, .ref q3, .ref q4, .ref q5, .ref q6, .ref q7, .ref q8, .int 0, .int 0, .int 0, .int 0, .int 0, .int 0, .float 0])), (q1, .inl (cA, 24, .inl (fun _ => 0))), (q2, .inl (cA, 24, .inl (fun _ => 0))), (q3, .inl (cA, 4, .inl (fun _ => 0))), (q4, .inl (cA, 4, .inl (fun _ => 0))), (q5, .inl (cA, 4, .inl (fun _ => 0))), (q6, .inl (cA, 500, .inl (fun _ => 0))), (q7, .inl (cA, 500, .inl (fun _ => 0))), (q8, .inl (cA, 548, .inl (fun _ => 0)))]) H := hP
  have hD : va_D F ([(h0, .inr (0, [.ref q1, .ref q2, .ref q3, .ref q4, .ref q5, .ref q6, .ref q7, .ref q8, .int 0, .int 0, .int 0, .int 0, .int 0, .int 0, .float 0])), (q1, .inl (cA, 24, .inl (fun _ => 0))), (q2, .inl (cA, 24, .inl (fun _ => 0))), (q3, .inl (cA, 4, .inl (fun _ => 0))), (q4, .inl (cA, 4, .inl (fun _ => 0))), (q5, .inl (cA, 4, .inl (fun _ => 0))), (q6, .inl (cA, 500, .inl (fun _ => 0))), (q7, .inl (cA, 500, .inl (fun _ => 0))), (q8, .inl (cA, 548, .inl (fun _ => 0)))]) := hD
  refine lv_aload_n hx hb dX0_init_68 rfl (lv_at hl 0 rfl) ?_
  refine lv_bipush (v := 100) hx hb dX0_init_69 (by decide) ?_
  refine va_put (D := dG) (ci := 0) (v := .int 100) (ty := .int) (C := RX0) (T := TX0) (N := 15) hx hb hts hinX tyX0 tyX0_ok nmX0 hown hK hP hD hS 0 rfl rfl 11 (by decide) (hts (.fieldLink RX0 34 "TidegateBourse" "fishLimit" "I") (by decide +kernel)) (fun _ h9 => h9) rfl (by decide +kernel) rfl rfl (Nat.le_of_ble_eq_true rfl) dX0_init_71 (fun H locs hP hD hS => ?_)
  have hP : va_P dG vwCl ([(h0, .inr (0, [.ref q1, .ref q2, .ref q3, .ref q4, .ref q5, .ref q6, .ref q7, .ref q8, .int 0, .int 0, .int 0, .int 100, .int 0, .int 0, .float 0])), (q1, .inl (cA, 24, .inl (fun _ => 0))), (q2, .inl (cA, 24, .inl (fun _ => 0))), (q3, .inl (cA, 4, .inl (fun _ => 0))), (q4, .inl (cA, 4, .inl (fun _ => 0))), (q5, .inl (cA, 4, .inl (fun _ => 0))), (q6, .inl (cA, 500, .inl (fun _ => 0))), (q7, .inl (cA, 500, .inl (fun _ => 0))), (q8, .inl (cA, 548, .inl (fun _ => 0)))]) H := hP
  have hD : va_D F ([(h0, .inr (0, [.ref q1, .ref q2, .ref q3, .ref q4, .ref q5, .ref q6, .ref q7, .ref q8, .int 0, .int 0, .int 0, .int 100, .int 0, .int 0, .float 0])), (q1, .inl (cA, 24, .inl (fun _ => 0))), (q2, .inl (cA, 24, .inl (fun _ => 0))), (q3, .inl (cA, 4, .inl (fun _ => 0))), (q4, .inl (cA, 4, .inl (fun _ => 0))), (q5, .inl (cA, 4, .inl (fun _ => 0))), (q6, .inl (cA, 500, .inl (fun _ => 0))), (q7, .inl (cA, 500, .inl (fun _ => 0))), (q8, .inl (cA, 548, .inl (fun _ => 0)))]) := hD
  refine lv_iconst (v := 0) hx hb dX0_init_74 (by decide) ?_
  refine lv_istore_n (lv' := [(1, .int 0), (0, .ref h0)]) hx hb dX0_init_75 rfl hl (by decide) rfl (fun ls hl => ?_)
  have loop : ∀ (n i : Nat) (P1 : Nat → Int32) (H : Heap) (locs : List Loc), i + n = 24 → P1 = pF i → va_P dG vwCl ([(h0, .inr (0, [.ref q1, .ref q2, .ref q3, .ref q4, .ref q5, .ref q6, .ref q7, .ref q8, .int 0, .int 0, .int 0, .int 100, .int 0, .int 0, .float 0])), (q1, .inl (cA, 24, .inl (fun _ => 0))), (q2, .inl (cA, 24, .inl P1)), (q3, .inl (cA, 4, .inl (fun _ => 0))), (q4, .inl (cA, 4, .inl (fun _ => 0))), (q5, .inl (cA, 4, .inl (fun _ => 0))), (q6, .inl (cA, 500, .inl (fun _ => 0))), (q7, .inl (cA, 500, .inl (fun _ => 0))), (q8, .inl (cA, 548, .inl (fun _ => 0)))]) H → va_D F ([(h0, .inr (0, [.ref q1, .ref q2, .ref q3, .ref q4, .ref q5, .ref q6, .ref q7, .ref q8, .int 0, .int 0, .int 0, .int 100, .int 0, .int 0, .float 0])), (q1, .inl (cA, 24, .inl (fun _ => 0))), (q2, .inl (cA, 24, .inl P1)), (q3, .inl (cA, 4, .inl (fun _ => 0))), (q4, .inl (cA, 4, .inl (fun _ => 0))), (q5, .inl (cA, 4, .inl (fun _ => 0))), (q6, .inl (cA, 500, .inl (fun _ => 0))), (q7, .inl (cA, 500, .inl (fun _ => 0))), (q8, .inl (cA, 548, .inl (fun _ => 0)))]) → va_S F s.heap H locs → ∀ ls : Array Slot, lv_has ls 2 [(0, .ref h0), (1, .int (nI i))] → W p l e (headSpec wsX0_init ({ frames := 2, cells := 8, slots := 1608, locals := 40 })).room s m ([.ref h0]).toArray below meth c H locs 8 1608 (MQ below (va_Qv (fun u : (Nat → Nat) × ClassId => u.1 0 = h0) (fun u t => wAt dG (tyI u.2) F (xW u.1 u.2 (fun _ => 0) (pF 24) (fun _ => 0) (fun _ => 0) (fun _ => 0) (fun _ => 0) (fun _ => 0) (fun _ => 0) 0 0 0 100 0 0 0) t) F) ([.ref h0]).toArray s 8 1608 F) (F0 m 76 ls []) := by
    intro n
    induction n with
    | zero =>
      intro i P1 H locs hi hm hP hD hS ls hl
      have hi : 24 = i := by omega
      subst hi
      subst hm
      refine lv_iload_n hx hb dX0_init_76 rfl (lv_at hl 1 rfl) ?_
      refine lv_bipush (v := 24) hx hb dX0_init_77 (by decide) ?_
      refine lv_icmp_ge (tgt := 96) hx hb dX0_init_79 (by decide) (fun _ => ?_) (fun h9 => absurd (nI_le (a := 24) (b := 24) (by omega) (by omega)) h9)
      exact W.vret hx hb hr (fun t ht hW => ⟨⟨((fun i => [h0, q1, q2, q3, q4, q5, q6, q7, q8].getD i 0), cA), rfl, rfl, by rw [ht]; exact hP, va_K.moved hW.alike hK, hD⟩, hS.F ht⟩) hS.2.2 dX0_init_96
    | succ n ih =>
      intro i P1 H locs hi hm hP hD hS ls hl
      refine lv_iload_n hx hb dX0_init_76 rfl (lv_at hl 1 rfl) ?_
      refine lv_bipush (v := 24) hx hb dX0_init_77 (by decide) ?_
      refine lv_icmp_ge (tgt := 96) hx hb dX0_init_79 (by decide) (fun h9 => absurd h9 (nI_ge (b := 24) (by omega) (by omega))) (fun _ => ?_)
      refine lv_aload_n hx hb dX0_init_82 rfl (lv_at hl 0 rfl) ?_
      refine va_get (D := dG) (ci := 0) (v := .ref q2) (C := RX0) (T := TX0) (N := 15) hx hb hts hinX hown hK hP 0 rfl rfl 1 (by decide) (hts (.fieldLink RX0 13 "TidegateBourse" "prices" "[I") (by decide +kernel)) (fun _ h9 => h9) rfl dX0_init_83 ?_
      refine lv_iload_n hx hb dX0_init_86 rfl (lv_at hl 1 rfl) ?_
      refine lv_bipush (v := 10) hx hb dX0_init_87 (by decide) ?_
      refine va_iast hx hb hK hP hD hS 2 0 rfl rfl (vp_in_nI (by omega) (by omega)) dX0_init_89 (fun H locs hP hD hS => ?_)
      rw [nI_clamp (n := i) (by omega)] at hP hD
      have hP : va_P dG vwCl ([(h0, .inr (0, [.ref q1, .ref q2, .ref q3, .ref q4, .ref q5, .ref q6, .ref q7, .ref q8, .int 0, .int 0, .int 0, .int 100, .int 0, .int 0, .float 0])), (q1, .inl (cA, 24, .inl (fun _ => 0))), (q2, .inl (cA, 24, .inl (upd P1 i 10))), (q3, .inl (cA, 4, .inl (fun _ => 0))), (q4, .inl (cA, 4, .inl (fun _ => 0))), (q5, .inl (cA, 4, .inl (fun _ => 0))), (q6, .inl (cA, 500, .inl (fun _ => 0))), (q7, .inl (cA, 500, .inl (fun _ => 0))), (q8, .inl (cA, 548, .inl (fun _ => 0)))]) H := hP
      have hD : va_D F ([(h0, .inr (0, [.ref q1, .ref q2, .ref q3, .ref q4, .ref q5, .ref q6, .ref q7, .ref q8, .int 0, .int 0, .int 0, .int 100, .int 0, .int 0, .float 0])), (q1, .inl (cA, 24, .inl (fun _ => 0))), (q2, .inl (cA, 24, .inl (upd P1 i 10))), (q3, .inl (cA, 4, .inl (fun _ => 0))), (q4, .inl (cA, 4, .inl (fun _ => 0))), (q5, .inl (cA, 4, .inl (fun _ => 0))), (q6, .inl (cA, 500, .inl (fun _ => 0))), (q7, .inl (cA, 500, .inl (fun _ => 0))), (q8, .inl (cA, 548, .inl (fun _ => 0)))]) := hD
      refine lv_iinc (v := (nI (i + 1))) (lv' := [(1, .int (nI (i + 1))), (0, .ref h0)]) hx hb dX0_init_90 hl (k := 1) rfl (nI_1 i) (by decide) rfl (fun ls hl => ?_)
      refine lv_goto (tgt := 76) hx hb dX0_init_93 (by decide) ?_
      exact ih (i + 1) _ _ _ (by omega) (by rw [hm, pF_upd]) hP hD hS ls (lv_sub hl [1, 0] rfl)
  exact loop 24 0 (fun _ => 0) _ _ (by omega) pF_0.symm hP hD hS ls (lv_sub hl [1, 0] rfl)
