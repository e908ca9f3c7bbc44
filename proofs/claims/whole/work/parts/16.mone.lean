theorem kTurb_eq {tb : Int32} (_ : 0 ≤ tb.toInt ∧ tb.toInt ≤ 4) (h : tb = 4) : kTurb tb = 1 := by
  subst h
  rfl
theorem kTurb_ne {tb : Int32} (h0 : 0 ≤ tb.toInt ∧ tb.toInt ≤ 4) (h : ¬ tb = 4) : kTurb tb = 0 := by
  unfold kTurb
  rw [if_pos]
  rw [Int32.lt_iff_toInt_lt]
  have h4 : (4 : Int32).toInt = 4 := by decide
  have : ¬ tb.toInt = 4 := fun e => h (Int32.toInt_inj.mp (by rw [e, h4]))
  omega
set_option maxHeartbeats 4000000 in
set_option maxRecDepth 100000 in
theorem c_X1_isTurbine (l : Launch) (dG : va_G) (B : Nat → Nat) (cA : ClassId) (Hp : Heap) (L P G V R S Y O D : Nat → Int32) (th nw wd tb ft fl cl : Int32) (mo : UInt32) (k : Int32) : Met l yX1_isTurbine wsX1_isTurbine ({ frames := 3, cells := 0, slots := 0, locals := 70 }) (va_Pc [.ref (B 0), .int k] (fun U => wPre dG (tyI cA) (mW B cA L P G V R S Y O D th nw wd tb ft fl cl mo) Hp U)) (va_Qi (fun (r : Int32) (_ : Unit) => r = if oI k 0 (tb - 1) then 0 else 1) (fun _ t => t.heap = Hp) (fun _ => False)) 0 0 (va_A (mW B cA L P G V R S Y O D th nw wd tb ft fl cl mo) Hp.size) := by
  refine Met.ofW (cc := cX1_isTurbine) (maxL := 2) (ret := some .boolean) (by decide) rfl ?_
  intro p e s m args below meth c s₁ Bd hml hv
  obtain ⟨rfl, hH, hP, hK, hD0⟩ := hv
  subst hH
  have hK : va_K dG vwCl (tyI cA) s := hK
  have hx := Bd.exec
  have hb := Bd.bytes
  have hr := Bd.returns
  have hts := atoms_spec (ws := wsX1_isTurbine) Bd.pre
  have hown : s.vm.findClass RX1 = some m.cls := findClass_of_methodNamed Bd.named
  have hlocks := Bd.notSynchronized
  have hinM : ∀ w ∈ wsX10, w ∈ wsX1_isTurbine := by decide +kernel
  have hD := hD0.self (sz := s.heap.size)
  generalize hAe : va_A (mW B cA L P G V R S Y O D th nw wd tb ft fl cl mo) s.heap.size = F at hD ⊢
  have hA : ∀ q : Nat, s.heap.size ≤ q → F q := fun q h => by rw [← hAe]; exact Or.inr h
  have hS : va_S F s.heap s.heap [] := va_S.rf
  have hP : va_P dG vwCl (mW B cA L P G V R S Y O D th nw wd tb ft fl cl mo) s.heap := hP
  have hl := lv_entry ([.ref (B 0), .int k]) (n := 2) (Nat.le_of_ble_eq_true rfl)
  rw [lg_entry_eq]
  generalize (lg_sl ([.ref (B 0), .int k]) ++ List.replicate (2 - (lg_sl ([.ref (B 0), .int k])).length) Slot.unset).toArray = ls at hl ⊢
  have hl : lv_has ls 2 [(0, .ref (B 0)), (1, .int k)] := hl
  refine lv_iload_n hx hb dX1_isTurbine_0 rfl (lv_at hl 1 rfl) ?_
  refine lv_iconst (v := 0) hx hb dX1_isTurbine_1 (by decide) ?_
  refine lv_aload_n hx hb dX1_isTurbine_2 rfl (lv_at hl 0 rfl) ?_
  refine va_get (D := dG) (ci := 1) (v := .int tb) (C := RX1) (T := TX1) (N := 17) hx hb hts hinM hown hK hP 0 rfl rfl 5 (by decide) (hts (.fieldLink RX1 44 "TidegateBourseModel" "turbines" "I") (by decide +kernel)) (fun _ h9 => h9) rfl dX1_isTurbine_3 ?_
  refine lv_iconst (v := 1) hx hb dX1_isTurbine_6 (by decide) ?_
  refine lv_isub hx hb dX1_isTurbine_7 ?_
  refine va_calli (va_runS (As := [.int k, .int 0, .int (tb - 1)]) (rest := []) ⟨hx, hb, hml, hown, hts⟩ (c_X1_isIn l s.heap k 0 (tb - 1)) (va_cwS 3 hts gX1_isTurbine_X1_isIn rfl rfl rfl (by decide +kernel) ⟨Nat.le_of_ble_eq_true rfl, Nat.le_of_ble_eq_true rfl⟩) ⟨fun a U g mk q => q, fun U hU hW => ⟨rfl, hU⟩⟩ rfl rfl hl.1 rfl (lv_room (Nat.le_of_ble_eq_true rfl)) dX1_isTurbine_8 ⟨Nat.le_of_ble_eq_true rfl, Nat.le_of_ble_eq_true rfl⟩) hS (fun q _ h => h.elim) (fun q h => h.elim) (fun r1 u1 t H1 locs ht hvm hw hB hz1 hk1 hS => ?_)
  have e9 := hB.symm.trans ht
  subst e9
  by_cases g1 : oI k 0 (tb - 1)
  · have hw := hw.trans (fIsIn_pos g1)
    subst hw
    exact W.zret hx hb hr rfl (fun t ht hW => ⟨⟨_, (), rfl, (by rw [if_pos g1]), ht⟩, (va_S.rf (A := fun _ => False)).F ht⟩) hS.2.2 dX1_isTurbine_11
  · have hw := hw.trans (fIsIn_neg g1)
    subst hw
    exact W.zret hx hb hr rfl (fun t ht hW => ⟨⟨_, (), rfl, (by rw [if_neg g1]), ht⟩, (va_S.rf (A := fun _ => False)).F ht⟩) hS.2.2 dX1_isTurbine_11
set_option maxHeartbeats 4000000 in
set_option maxRecDepth 100000 in
theorem c_X1_isGone (l : Launch) (dG : va_G) (B : Nat → Nat) (cA : ClassId) (Hp : Heap) (L P G V R S Y O D : Nat → Int32) (th nw wd tb ft fl cl : Int32) (mo : UInt32) (k : Int32) : Met l yX1_isGone wsX1_isGone ({ frames := 3, cells := 0, slots := 0, locals := 70 }) (va_Pc [.ref (B 0), .int k] (fun U => wPre dG (tyI cA) (mW B cA L P G V R S Y O D th nw wd tb ft fl cl mo) Hp U)) (va_Qi (fun (r : Int32) (_ : Unit) => r = if oI k 0 (nw - 1) then 0 else 1) (fun _ t => t.heap = Hp) (fun _ => False)) 0 0 (va_A (mW B cA L P G V R S Y O D th nw wd tb ft fl cl mo) Hp.size) := by
  refine Met.ofW (cc := cX1_isGone) (maxL := 2) (ret := some .boolean) (by decide) rfl ?_
  intro p e s m args below meth c s₁ Bd hml hv
  obtain ⟨rfl, hH, hP, hK, hD0⟩ := hv
  subst hH
  have hK : va_K dG vwCl (tyI cA) s := hK
  have hx := Bd.exec
  have hb := Bd.bytes
  have hr := Bd.returns
  have hts := atoms_spec (ws := wsX1_isGone) Bd.pre
  have hown : s.vm.findClass RX1 = some m.cls := findClass_of_methodNamed Bd.named
  have hlocks := Bd.notSynchronized
  have hinM : ∀ w ∈ wsX10, w ∈ wsX1_isGone := by decide +kernel
  have hD := hD0.self (sz := s.heap.size)
  generalize hAe : va_A (mW B cA L P G V R S Y O D th nw wd tb ft fl cl mo) s.heap.size = F at hD ⊢
  have hA : ∀ q : Nat, s.heap.size ≤ q → F q := fun q h => by rw [← hAe]; exact Or.inr h
  have hS : va_S F s.heap s.heap [] := va_S.rf
  have hP : va_P dG vwCl (mW B cA L P G V R S Y O D th nw wd tb ft fl cl mo) s.heap := hP
  have hl := lv_entry ([.ref (B 0), .int k]) (n := 2) (Nat.le_of_ble_eq_true rfl)
  rw [lg_entry_eq]
  generalize (lg_sl ([.ref (B 0), .int k]) ++ List.replicate (2 - (lg_sl ([.ref (B 0), .int k])).length) Slot.unset).toArray = ls at hl ⊢
  have hl : lv_has ls 2 [(0, .ref (B 0)), (1, .int k)] := hl
  refine lv_iload_n hx hb dX1_isGone_0 rfl (lv_at hl 1 rfl) ?_
  refine lv_iconst (v := 0) hx hb dX1_isGone_1 (by decide) ?_
  refine lv_aload_n hx hb dX1_isGone_2 rfl (lv_at hl 0 rfl) ?_
  refine va_get (D := dG) (ci := 1) (v := .int nw) (C := RX1) (T := TX1) (N := 17) hx hb hts hinM hown hK hP 0 rfl rfl 1 (by decide) (hts (.fieldLink RX1 61 "TidegateBourseModel" "now" "I") (by decide +kernel)) (fun _ h9 => h9) rfl dX1_isGone_3 ?_
  refine lv_iconst (v := 1) hx hb dX1_isGone_6 (by decide) ?_
  refine lv_isub hx hb dX1_isGone_7 ?_
  refine va_calli (va_runS (As := [.int k, .int 0, .int (nw - 1)]) (rest := []) ⟨hx, hb, hml, hown, hts⟩ (c_X1_isIn l s.heap k 0 (nw - 1)) (va_cwS 3 hts gX1_isGone_X1_isIn rfl rfl rfl (by decide +kernel) ⟨Nat.le_of_ble_eq_true rfl, Nat.le_of_ble_eq_true rfl⟩) ⟨fun a U g mk q => q, fun U hU hW => ⟨rfl, hU⟩⟩ rfl rfl hl.1 rfl (lv_room (Nat.le_of_ble_eq_true rfl)) dX1_isGone_8 ⟨Nat.le_of_ble_eq_true rfl, Nat.le_of_ble_eq_true rfl⟩) hS (fun q _ h => h.elim) (fun q h => h.elim) (fun r1 u1 t H1 locs ht hvm hw hB hz1 hk1 hS => ?_)
  have e9 := hB.symm.trans ht
  subst e9
  by_cases g1 : oI k 0 (nw - 1)
  · have hw := hw.trans (fIsIn_pos g1)
    subst hw
    exact W.zret hx hb hr rfl (fun t ht hW => ⟨⟨_, (), rfl, (by rw [if_pos g1]), ht⟩, (va_S.rf (A := fun _ => False)).F ht⟩) hS.2.2 dX1_isGone_11
  · have hw := hw.trans (fIsIn_neg g1)
    subst hw
    exact W.zret hx hb hr rfl (fun t ht hW => ⟨⟨_, (), rfl, (by rw [if_neg g1]), ht⟩, (va_S.rf (A := fun _ => False)).F ht⟩) hS.2.2 dX1_isGone_11
set_option maxHeartbeats 4000000 in
set_option maxRecDepth 100000 in
theorem c_X1_thrown (l : Launch) (dG : va_G) (B : Nat → Nat) (cA : ClassId) (Hp : Heap) (L P G V R S Y O D : Nat → Int32) (th nw wd tb ft fl cl : Int32) (mo : UInt32)  : Met l yX1_thrown wsX1_thrown ({ frames := 4, cells := 0, slots := 0, locals := 100 }) (va_Pc [.ref (B 0)] (fun U => wPre dG (tyI cA) (mW B cA L P G V R S Y O D th nw wd tb ft fl cl mo) Hp U)) (va_Qi (fun (r : Int32) (u : MS) => r = th ∧ u = (L, P, G, V, R, S, Y, O, D, th, nw, wd, tb, ft, fl, cl, mo)) (fun u t => wAt dG (tyI cA) (va_A (mW B cA L P G V R S Y O D th nw wd tb ft fl cl mo) Hp.size) (mU B cA u) t) (va_A (mW B cA L P G V R S Y O D th nw wd tb ft fl cl mo) Hp.size)) 0 0 (va_A (mW B cA L P G V R S Y O D th nw wd tb ft fl cl mo) Hp.size) := by
  refine Met.ofW (cc := cX1_thrown) (maxL := 1) (ret := some .int) (by decide) rfl ?_
  intro p e s m args below meth c s₁ Bd hml hv
  obtain ⟨rfl, hH, hP, hK, hD0⟩ := hv
  subst hH
  have hK : va_K dG vwCl (tyI cA) s := hK
  have hx := Bd.exec
  have hb := Bd.bytes
  have hr := Bd.returns
  have hts := atoms_spec (ws := wsX1_thrown) Bd.pre
  have hown : s.vm.findClass RX1 = some m.cls := findClass_of_methodNamed Bd.named
  have hlocks := Bd.notSynchronized
  have hinM : ∀ w ∈ wsX10, w ∈ wsX1_thrown := by decide +kernel
  have hD := hD0.self (sz := s.heap.size)
  generalize hAe : va_A (mW B cA L P G V R S Y O D th nw wd tb ft fl cl mo) s.heap.size = F at hD ⊢
  have hA : ∀ q : Nat, s.heap.size ≤ q → F q := fun q h => by rw [← hAe]; exact Or.inr h
  have hS : va_S F s.heap s.heap [] := va_S.rf
  have hP : va_P dG vwCl (mW B cA L P G V R S Y O D th nw wd tb ft fl cl mo) s.heap := hP
  have hl := lv_entry ([.ref (B 0)]) (n := 1) (Nat.le_of_ble_eq_true rfl)
  rw [lg_entry_eq]
  generalize (lg_sl ([.ref (B 0)]) ++ List.replicate (1 - (lg_sl ([.ref (B 0)])).length) Slot.unset).toArray = ls at hl ⊢
  have hl : lv_has ls 1 [(0, .ref (B 0))] := hl
  refine lv_aload_n hx hb dX1_thrown_0 rfl (lv_at hl 0 rfl) ?_
  refine va_get (D := dG) (ci := 1) (v := .int th) (C := RX1) (T := TX1) (N := 17) hx hb hts hinM hown hK hP 0 rfl rfl 0 (by decide) (hts (.fieldLink RX1 41 "TidegateBourseModel" "thrown" "I") (by decide +kernel)) (fun _ h9 => h9) rfl dX1_thrown_1 ?_
  exact W.iret hx hb hr (fun t ht hW => ⟨⟨_, (L, P, G, V, R, S, Y, O, D, th, nw, wd, tb, ft, fl, cl, mo), rfl, ⟨rfl, rfl⟩, by rw [ht]; exact hP, va_K.moved hW.alike hK, hD⟩, hS.F ht⟩) hS.2.2 dX1_thrown_4
set_option maxHeartbeats 4000000 in
set_option maxRecDepth 100000 in
theorem c_X1_tide (l : Launch) (dG : va_G) (B : Nat → Nat) (cA : ClassId) (Hp : Heap) (L P G V R S Y O D : Nat → Int32) (th nw wd tb ft fl cl : Int32) (mo : UInt32) (h : Int32) (v : Int32) : Met l yX1_tide wsX1_tide ({ frames := 4, cells := 0, slots := 0, locals := 100 }) (va_Pc [.ref (B 0), .int h, .int v] (fun U => wPre dG (tyI cA) (mW B cA L P G V R S Y O D th nw wd tb ft fl cl mo) Hp U)) (va_Qi (fun (r : Int32) (u : MS) => (kTide h v = 0 → r = L h.toNatClampNeg ∧ u = ((upd L h.toNatClampNeg v), P, G, V, R, S, Y, O, D, 0, nw, wd, tb, ft, fl, cl, mo)) ∧ (¬ kTide h v = 0 → r = 0 ∧ u = (L, P, G, V, R, S, Y, O, D, kTide h v, nw, wd, tb, ft, fl, cl, mo))) (fun u t => wAt dG (tyI cA) (va_A (mW B cA L P G V R S Y O D th nw wd tb ft fl cl mo) Hp.size) (mU B cA u) t) (va_A (mW B cA L P G V R S Y O D th nw wd tb ft fl cl mo) Hp.size)) 0 0 (va_A (mW B cA L P G V R S Y O D th nw wd tb ft fl cl mo) Hp.size) := by
  refine Met.ofW (cc := cX1_tide) (maxL := 4) (ret := some .int) (by decide) rfl ?_
  intro p e s m args below meth c s₁ Bd hml hv
  obtain ⟨rfl, hH, hP, hK, hD0⟩ := hv
  subst hH
  have hK : va_K dG vwCl (tyI cA) s := hK
  have hx := Bd.exec
  have hb := Bd.bytes
  have hr := Bd.returns
  have hts := atoms_spec (ws := wsX1_tide) Bd.pre
  have hown : s.vm.findClass RX1 = some m.cls := findClass_of_methodNamed Bd.named
  have hlocks := Bd.notSynchronized
  have hinM : ∀ w ∈ wsX10, w ∈ wsX1_tide := by decide +kernel
  have hD := hD0.self (sz := s.heap.size)
  generalize hAe : va_A (mW B cA L P G V R S Y O D th nw wd tb ft fl cl mo) s.heap.size = F at hD ⊢
  have hA : ∀ q : Nat, s.heap.size ≤ q → F q := fun q h => by rw [← hAe]; exact Or.inr h
  have hS : va_S F s.heap s.heap [] := va_S.rf
  have hP : va_P dG vwCl (mW B cA L P G V R S Y O D th nw wd tb ft fl cl mo) s.heap := hP
  have hl := lv_entry ([.ref (B 0), .int h, .int v]) (n := 4) (Nat.le_of_ble_eq_true rfl)
  rw [lg_entry_eq]
  generalize (lg_sl ([.ref (B 0), .int h, .int v]) ++ List.replicate (4 - (lg_sl ([.ref (B 0), .int h, .int v])).length) Slot.unset).toArray = ls at hl ⊢
  have hl : lv_has ls 4 [(0, .ref (B 0)), (1, .int h), (2, .int v)] := hl
  refine lv_aload_n hx hb dX1_tide_0 rfl (lv_at hl 0 rfl) ?_
  refine lv_iload_n hx hb dX1_tide_1 rfl (lv_at hl 1 rfl) ?_
  refine lv_iconst (v := 0) hx hb dX1_tide_2 (by decide) ?_
  refine lv_bipush (v := 23) hx hb dX1_tide_3 (by decide) ?_
  refine va_calli (va_runS (As := [.int h, .int 0, .int 23]) (rest := [.ref (B 0)]) ⟨hx, hb, hml, hown, hts⟩ (c_X1_isIn l s.heap h 0 23) (va_cwS 3 hts gX1_tide_X1_isIn rfl rfl rfl (by decide +kernel) ⟨Nat.le_of_ble_eq_true rfl, Nat.le_of_ble_eq_true rfl⟩) ⟨fun a U g mk q => q, fun U hU hW => ⟨rfl, hU⟩⟩ rfl rfl hl.1 rfl (lv_room (Nat.le_of_ble_eq_true rfl)) dX1_tide_5 ⟨Nat.le_of_ble_eq_true rfl, Nat.le_of_ble_eq_true rfl⟩) hS (fun q _ h => h.elim) (fun q h => h.elim) (fun r1 u1 t H1 locs ht hvm hw hB hz1 hk1 hS => ?_)
  have e9 := hB.symm.trans ht
  subst e9
  by_cases g1 : oI h 0 23
  · have hw := hw.trans (fIsIn_pos g1)
    subst hw
    refine lv_if_ne (tgt := 15) hx hb dX1_tide_8 (by decide) (fun h9 => absurd (by decide) h9) (fun _ => ?_)
    refine lv_iconst (v := 1) hx hb dX1_tide_11 (by decide) ?_
    refine lv_goto (tgt := 31) hx hb dX1_tide_12 (by decide) ?_
    refine va_put (D := dG) (ci := 1) (v := .int 1) (ty := .int) (C := RX1) (T := TX1) (N := 17) hx hb hts hinM tyX1 tyX1_ok nmX1 hown hK hP hD hS 0 rfl rfl 0 (by decide) (hts (.fieldLink RX1 41 "TidegateBourseModel" "thrown" "I") (by decide +kernel)) (fun _ h9 => h9) rfl (by decide +kernel) rfl rfl (Nat.le_of_ble_eq_true rfl) dX1_tide_31 (fun H locs hP hD hS => ?_)
    have hP : va_P dG vwCl (mW B cA L P G V R S Y O D 1 nw wd tb ft fl cl mo) H := hP
    have hD : va_D F (mW B cA L P G V R S Y O D 1 nw wd tb ft fl cl mo) := hD
    refine lv_aload_n hx hb dX1_tide_34 rfl (lv_at hl 0 rfl) ?_
    refine va_get (D := dG) (ci := 1) (v := .int 1) (C := RX1) (T := TX1) (N := 17) hx hb hts hinM hown hK hP 0 rfl rfl 0 (by decide) (hts (.fieldLink RX1 41 "TidegateBourseModel" "thrown" "I") (by decide +kernel)) (fun _ h9 => h9) rfl dX1_tide_35 ?_
    refine lv_if_le (tgt := 43) hx hb dX1_tide_38 (by decide) (fun h9 => absurd h9 (by decide)) (fun _ => ?_)
    refine lv_iconst (v := 0) hx hb dX1_tide_41 (by decide) ?_
    exact W.iret hx hb hr (fun t ht hW => ⟨⟨_, (L, P, G, V, R, S, Y, O, D, 1, nw, wd, tb, ft, fl, cl, mo), rfl, ⟨fun h9 => absurd (h9.symm.trans (by unfold kTide; rw [if_pos g1])) (by decide), fun _ => ⟨rfl, congrArg (fun z => (L, P, G, V, R, S, Y, O, D, z, nw, wd, tb, ft, fl, cl, mo)) (Eq.symm (by unfold kTide; rw [if_pos g1]))⟩⟩, by rw [ht]; exact hP, va_K.moved hW.alike hK, hD⟩, hS.F ht⟩) hS.2.2 dX1_tide_42
  · have hw := hw.trans (fIsIn_neg g1)
    subst hw
    refine lv_if_ne (tgt := 15) hx hb dX1_tide_8 (by decide) (fun _ => ?_) (fun h9 => absurd h9 (by decide))
    refine lv_iload_n hx hb dX1_tide_15 rfl (lv_at hl 2 rfl) ?_
    refine lv_bipush (v := (-100)) hx hb dX1_tide_16 (by decide) ?_
    refine lv_bipush (v := 100) hx hb dX1_tide_18 (by decide) ?_
    refine va_calli (va_runS (As := [.int v, .int (-100), .int 100]) (rest := [.ref (B 0)]) ⟨hx, hb, hml, hown, hts⟩ (c_X1_isIn l s.heap v (-100) 100) (va_cwS 3 hts gX1_tide_X1_isIn rfl rfl rfl (by decide +kernel) ⟨Nat.le_of_ble_eq_true rfl, Nat.le_of_ble_eq_true rfl⟩) ⟨fun a U g mk q => q, fun U hU hW => ⟨rfl, hU⟩⟩ rfl rfl hl.1 rfl (lv_room (Nat.le_of_ble_eq_true rfl)) dX1_tide_20 ⟨Nat.le_of_ble_eq_true rfl, Nat.le_of_ble_eq_true rfl⟩) hS (fun q _ h => h.elim) (fun q h => h.elim) (fun r2 u2 t H1 locs ht hvm hw hB hz1 hk1 hS => ?_)
    have e9 := hB.symm.trans ht
    subst e9
    by_cases g2 : oI v (-100) 100
    · have hw := hw.trans (fIsIn_pos g2)
      subst hw
      refine lv_if_ne (tgt := 30) hx hb dX1_tide_23 (by decide) (fun h9 => absurd (by decide) h9) (fun _ => ?_)
      refine lv_iconst (v := 2) hx hb dX1_tide_26 (by decide) ?_
      refine lv_goto (tgt := 31) hx hb dX1_tide_27 (by decide) ?_
      refine va_put (D := dG) (ci := 1) (v := .int 2) (ty := .int) (C := RX1) (T := TX1) (N := 17) hx hb hts hinM tyX1 tyX1_ok nmX1 hown hK hP hD hS 0 rfl rfl 0 (by decide) (hts (.fieldLink RX1 41 "TidegateBourseModel" "thrown" "I") (by decide +kernel)) (fun _ h9 => h9) rfl (by decide +kernel) rfl rfl (Nat.le_of_ble_eq_true rfl) dX1_tide_31 (fun H locs hP hD hS => ?_)
      have hP : va_P dG vwCl (mW B cA L P G V R S Y O D 2 nw wd tb ft fl cl mo) H := hP
      have hD : va_D F (mW B cA L P G V R S Y O D 2 nw wd tb ft fl cl mo) := hD
      refine lv_aload_n hx hb dX1_tide_34 rfl (lv_at hl 0 rfl) ?_
      refine va_get (D := dG) (ci := 1) (v := .int 2) (C := RX1) (T := TX1) (N := 17) hx hb hts hinM hown hK hP 0 rfl rfl 0 (by decide) (hts (.fieldLink RX1 41 "TidegateBourseModel" "thrown" "I") (by decide +kernel)) (fun _ h9 => h9) rfl dX1_tide_35 ?_
      refine lv_if_le (tgt := 43) hx hb dX1_tide_38 (by decide) (fun h9 => absurd h9 (by decide)) (fun _ => ?_)
      refine lv_iconst (v := 0) hx hb dX1_tide_41 (by decide) ?_
      exact W.iret hx hb hr (fun t ht hW => ⟨⟨_, (L, P, G, V, R, S, Y, O, D, 2, nw, wd, tb, ft, fl, cl, mo), rfl, ⟨fun h9 => absurd (h9.symm.trans (by unfold kTide; rw [if_neg g1, if_pos g2])) (by decide), fun _ => ⟨rfl, congrArg (fun z => (L, P, G, V, R, S, Y, O, D, z, nw, wd, tb, ft, fl, cl, mo)) (Eq.symm (by unfold kTide; rw [if_neg g1, if_pos g2]))⟩⟩, by rw [ht]; exact hP, va_K.moved hW.alike hK, hD⟩, hS.F ht⟩) hS.2.2 dX1_tide_42
    · have hw := hw.trans (fIsIn_neg g2)
      subst hw
      refine lv_if_ne (tgt := 30) hx hb dX1_tide_23 (by decide) (fun _ => ?_) (fun h9 => absurd h9 (by decide))
      refine lv_iconst (v := 0) hx hb dX1_tide_30 (by decide) ?_
      refine va_put (D := dG) (ci := 1) (v := .int 0) (ty := .int) (C := RX1) (T := TX1) (N := 17) hx hb hts hinM tyX1 tyX1_ok nmX1 hown hK hP hD hS 0 rfl rfl 0 (by decide) (hts (.fieldLink RX1 41 "TidegateBourseModel" "thrown" "I") (by decide +kernel)) (fun _ h9 => h9) rfl (by decide +kernel) rfl rfl (Nat.le_of_ble_eq_true rfl) dX1_tide_31 (fun H locs hP hD hS => ?_)
      have hP : va_P dG vwCl (mW B cA L P G V R S Y O D 0 nw wd tb ft fl cl mo) H := hP
      have hD : va_D F (mW B cA L P G V R S Y O D 0 nw wd tb ft fl cl mo) := hD
      refine lv_aload_n hx hb dX1_tide_34 rfl (lv_at hl 0 rfl) ?_
      refine va_get (D := dG) (ci := 1) (v := .int 0) (C := RX1) (T := TX1) (N := 17) hx hb hts hinM hown hK hP 0 rfl rfl 0 (by decide) (hts (.fieldLink RX1 41 "TidegateBourseModel" "thrown" "I") (by decide +kernel)) (fun _ h9 => h9) rfl dX1_tide_35 ?_
      refine lv_if_le (tgt := 43) hx hb dX1_tide_38 (by decide) (fun _ => ?_) (fun h9 => absurd (by decide) h9)
      refine lv_aload_n hx hb dX1_tide_43 rfl (lv_at hl 0 rfl) ?_
      refine va_get (D := dG) (ci := 1) (v := .ref (B 1)) (C := RX1) (T := TX1) (N := 17) hx hb hts hinM hown hK hP 0 rfl rfl 2 (by decide) (hts (.fieldLink RX1 7 "TidegateBourseModel" "levels" "[I") (by decide +kernel)) (fun _ h9 => h9) rfl dX1_tide_44 ?_
      refine lv_iload_n hx hb dX1_tide_47 rfl (lv_at hl 1 rfl) ?_
      refine va_iald hx hb hK hP 1 0 rfl rfl (vp_out g1 (by decide)) dX1_tide_48 ?_
      refine lv_istore_n (lv' := [(3, .int (L h.toNatClampNeg)), (0, .ref (B 0)), (1, .int h), (2, .int v)]) hx hb dX1_tide_49 rfl hl (by decide) rfl (fun ls hl => ?_)
      refine lv_aload_n hx hb dX1_tide_50 rfl (lv_at hl 1 rfl) ?_
      refine va_get (D := dG) (ci := 1) (v := .ref (B 1)) (C := RX1) (T := TX1) (N := 17) hx hb hts hinM hown hK hP 0 rfl rfl 2 (by decide) (hts (.fieldLink RX1 7 "TidegateBourseModel" "levels" "[I") (by decide +kernel)) (fun _ h9 => h9) rfl dX1_tide_51 ?_
      refine lv_iload_n hx hb dX1_tide_54 rfl (lv_at hl 2 rfl) ?_
      refine lv_iload_n hx hb dX1_tide_55 rfl (lv_at hl 3 rfl) ?_
      refine va_iast hx hb hK hP hD hS 1 0 rfl rfl (vp_out g1 (by decide)) dX1_tide_56 (fun H locs hP hD hS => ?_)
      have hP : va_P dG vwCl (mW B cA (upd L h.toNatClampNeg v) P G V R S Y O D 0 nw wd tb ft fl cl mo) H := hP
      have hD : va_D F (mW B cA (upd L h.toNatClampNeg v) P G V R S Y O D 0 nw wd tb ft fl cl mo) := hD
      refine lv_iload_n hx hb dX1_tide_57 rfl (lv_at hl 0 rfl) ?_
      exact W.iret hx hb hr (fun t ht hW => ⟨⟨_, ((upd L h.toNatClampNeg v), P, G, V, R, S, Y, O, D, 0, nw, wd, tb, ft, fl, cl, mo), rfl, ⟨fun _ => ⟨rfl, rfl⟩, fun h9 => absurd (by unfold kTide; rw [if_neg g1, if_neg g2]) h9⟩, by rw [ht]; exact hP, va_K.moved hW.alike hK, hD⟩, hS.F ht⟩) hS.2.2 dX1_tide_58
set_option maxHeartbeats 4000000 in
set_option maxRecDepth 100000 in
theorem c_X1_price (l : Launch) (dG : va_G) (B : Nat → Nat) (cA : ClassId) (Hp : Heap) (L P G V R S Y O D : Nat → Int32) (th nw wd tb ft fl cl : Int32) (mo : UInt32) (h : Int32) (v : Int32) : Met l yX1_price wsX1_price ({ frames := 4, cells := 0, slots := 0, locals := 100 }) (va_Pc [.ref (B 0), .int h, .int v] (fun U => wPre dG (tyI cA) (mW B cA L P G V R S Y O D th nw wd tb ft fl cl mo) Hp U)) (va_Qi (fun (r : Int32) (u : MS) => (kPrice h v = 0 → r = P h.toNatClampNeg ∧ u = (L, (upd P h.toNatClampNeg v), G, V, R, S, Y, O, D, 0, nw, wd, tb, ft, fl, cl, mo)) ∧ (¬ kPrice h v = 0 → r = 0 ∧ u = (L, P, G, V, R, S, Y, O, D, kPrice h v, nw, wd, tb, ft, fl, cl, mo))) (fun u t => wAt dG (tyI cA) (va_A (mW B cA L P G V R S Y O D th nw wd tb ft fl cl mo) Hp.size) (mU B cA u) t) (va_A (mW B cA L P G V R S Y O D th nw wd tb ft fl cl mo) Hp.size)) 0 0 (va_A (mW B cA L P G V R S Y O D th nw wd tb ft fl cl mo) Hp.size) := by
  refine Met.ofW (cc := cX1_price) (maxL := 4) (ret := some .int) (by decide) rfl ?_
  intro p e s m args below meth c s₁ Bd hml hv
  obtain ⟨rfl, hH, hP, hK, hD0⟩ := hv
  subst hH
  have hK : va_K dG vwCl (tyI cA) s := hK
  have hx := Bd.exec
  have hb := Bd.bytes
  have hr := Bd.returns
  have hts := atoms_spec (ws := wsX1_price) Bd.pre
  have hown : s.vm.findClass RX1 = some m.cls := findClass_of_methodNamed Bd.named
  have hlocks := Bd.notSynchronized
  have hinM : ∀ w ∈ wsX10, w ∈ wsX1_price := by decide +kernel
  have hD := hD0.self (sz := s.heap.size)
  generalize hAe : va_A (mW B cA L P G V R S Y O D th nw wd tb ft fl cl mo) s.heap.size = F at hD ⊢
  have hA : ∀ q : Nat, s.heap.size ≤ q → F q := fun q h => by rw [← hAe]; exact Or.inr h
  have hS : va_S F s.heap s.heap [] := va_S.rf
  have hP : va_P dG vwCl (mW B cA L P G V R S Y O D th nw wd tb ft fl cl mo) s.heap := hP
  have hl := lv_entry ([.ref (B 0), .int h, .int v]) (n := 4) (Nat.le_of_ble_eq_true rfl)
  rw [lg_entry_eq]
  generalize (lg_sl ([.ref (B 0), .int h, .int v]) ++ List.replicate (4 - (lg_sl ([.ref (B 0), .int h, .int v])).length) Slot.unset).toArray = ls at hl ⊢
  have hl : lv_has ls 4 [(0, .ref (B 0)), (1, .int h), (2, .int v)] := hl
  refine lv_aload_n hx hb dX1_price_0 rfl (lv_at hl 0 rfl) ?_
  refine lv_iload_n hx hb dX1_price_1 rfl (lv_at hl 1 rfl) ?_
  refine lv_iconst (v := 0) hx hb dX1_price_2 (by decide) ?_
  refine lv_bipush (v := 23) hx hb dX1_price_3 (by decide) ?_
  refine va_calli (va_runS (As := [.int h, .int 0, .int 23]) (rest := [.ref (B 0)]) ⟨hx, hb, hml, hown, hts⟩ (c_X1_isIn l s.heap h 0 23) (va_cwS 3 hts gX1_price_X1_isIn rfl rfl rfl (by decide +kernel) ⟨Nat.le_of_ble_eq_true rfl, Nat.le_of_ble_eq_true rfl⟩) ⟨fun a U g mk q => q, fun U hU hW => ⟨rfl, hU⟩⟩ rfl rfl hl.1 rfl (lv_room (Nat.le_of_ble_eq_true rfl)) dX1_price_5 ⟨Nat.le_of_ble_eq_true rfl, Nat.le_of_ble_eq_true rfl⟩) hS (fun q _ h => h.elim) (fun q h => h.elim) (fun r1 u1 t H1 locs ht hvm hw hB hz1 hk1 hS => ?_)
  have e9 := hB.symm.trans ht
  subst e9
  by_cases g1 : oI h 0 23
  · have hw := hw.trans (fIsIn_pos g1)
    subst hw
    refine lv_if_ne (tgt := 15) hx hb dX1_price_8 (by decide) (fun h9 => absurd (by decide) h9) (fun _ => ?_)
    refine lv_iconst (v := 1) hx hb dX1_price_11 (by decide) ?_
    refine lv_goto (tgt := 31) hx hb dX1_price_12 (by decide) ?_
    refine va_put (D := dG) (ci := 1) (v := .int 1) (ty := .int) (C := RX1) (T := TX1) (N := 17) hx hb hts hinM tyX1 tyX1_ok nmX1 hown hK hP hD hS 0 rfl rfl 0 (by decide) (hts (.fieldLink RX1 41 "TidegateBourseModel" "thrown" "I") (by decide +kernel)) (fun _ h9 => h9) rfl (by decide +kernel) rfl rfl (Nat.le_of_ble_eq_true rfl) dX1_price_31 (fun H locs hP hD hS => ?_)
    have hP : va_P dG vwCl (mW B cA L P G V R S Y O D 1 nw wd tb ft fl cl mo) H := hP
    have hD : va_D F (mW B cA L P G V R S Y O D 1 nw wd tb ft fl cl mo) := hD
    refine lv_aload_n hx hb dX1_price_34 rfl (lv_at hl 0 rfl) ?_
    refine va_get (D := dG) (ci := 1) (v := .int 1) (C := RX1) (T := TX1) (N := 17) hx hb hts hinM hown hK hP 0 rfl rfl 0 (by decide) (hts (.fieldLink RX1 41 "TidegateBourseModel" "thrown" "I") (by decide +kernel)) (fun _ h9 => h9) rfl dX1_price_35 ?_
    refine lv_if_le (tgt := 43) hx hb dX1_price_38 (by decide) (fun h9 => absurd h9 (by decide)) (fun _ => ?_)
    refine lv_iconst (v := 0) hx hb dX1_price_41 (by decide) ?_
    exact W.iret hx hb hr (fun t ht hW => ⟨⟨_, (L, P, G, V, R, S, Y, O, D, 1, nw, wd, tb, ft, fl, cl, mo), rfl, ⟨fun h9 => absurd (h9.symm.trans (by unfold kPrice; rw [if_pos g1])) (by decide), fun _ => ⟨rfl, congrArg (fun z => (L, P, G, V, R, S, Y, O, D, z, nw, wd, tb, ft, fl, cl, mo)) (Eq.symm (by unfold kPrice; rw [if_pos g1]))⟩⟩, by rw [ht]; exact hP, va_K.moved hW.alike hK, hD⟩, hS.F ht⟩) hS.2.2 dX1_price_42
  · have hw := hw.trans (fIsIn_neg g1)
    subst hw
    refine lv_if_ne (tgt := 15) hx hb dX1_price_8 (by decide) (fun _ => ?_) (fun h9 => absurd h9 (by decide))
    refine lv_iload_n hx hb dX1_price_15 rfl (lv_at hl 2 rfl) ?_
    refine lv_iconst (v := 1) hx hb dX1_price_16 (by decide) ?_
    refine lv_sipush (v := 200) hx hb dX1_price_17 (by decide) ?_
    refine va_calli (va_runS (As := [.int v, .int 1, .int 200]) (rest := [.ref (B 0)]) ⟨hx, hb, hml, hown, hts⟩ (c_X1_isIn l s.heap v 1 200) (va_cwS 3 hts gX1_price_X1_isIn rfl rfl rfl (by decide +kernel) ⟨Nat.le_of_ble_eq_true rfl, Nat.le_of_ble_eq_true rfl⟩) ⟨fun a U g mk q => q, fun U hU hW => ⟨rfl, hU⟩⟩ rfl rfl hl.1 rfl (lv_room (Nat.le_of_ble_eq_true rfl)) dX1_price_20 ⟨Nat.le_of_ble_eq_true rfl, Nat.le_of_ble_eq_true rfl⟩) hS (fun q _ h => h.elim) (fun q h => h.elim) (fun r2 u2 t H1 locs ht hvm hw hB hz1 hk1 hS => ?_)
    have e9 := hB.symm.trans ht
    subst e9
    by_cases g2 : oI v 1 200
    · have hw := hw.trans (fIsIn_pos g2)
      subst hw
      refine lv_if_ne (tgt := 30) hx hb dX1_price_23 (by decide) (fun h9 => absurd (by decide) h9) (fun _ => ?_)
      refine lv_iconst (v := 2) hx hb dX1_price_26 (by decide) ?_
      refine lv_goto (tgt := 31) hx hb dX1_price_27 (by decide) ?_
      refine va_put (D := dG) (ci := 1) (v := .int 2) (ty := .int) (C := RX1) (T := TX1) (N := 17) hx hb hts hinM tyX1 tyX1_ok nmX1 hown hK hP hD hS 0 rfl rfl 0 (by decide) (hts (.fieldLink RX1 41 "TidegateBourseModel" "thrown" "I") (by decide +kernel)) (fun _ h9 => h9) rfl (by decide +kernel) rfl rfl (Nat.le_of_ble_eq_true rfl) dX1_price_31 (fun H locs hP hD hS => ?_)
      have hP : va_P dG vwCl (mW B cA L P G V R S Y O D 2 nw wd tb ft fl cl mo) H := hP
      have hD : va_D F (mW B cA L P G V R S Y O D 2 nw wd tb ft fl cl mo) := hD
      refine lv_aload_n hx hb dX1_price_34 rfl (lv_at hl 0 rfl) ?_
      refine va_get (D := dG) (ci := 1) (v := .int 2) (C := RX1) (T := TX1) (N := 17) hx hb hts hinM hown hK hP 0 rfl rfl 0 (by decide) (hts (.fieldLink RX1 41 "TidegateBourseModel" "thrown" "I") (by decide +kernel)) (fun _ h9 => h9) rfl dX1_price_35 ?_
      refine lv_if_le (tgt := 43) hx hb dX1_price_38 (by decide) (fun h9 => absurd h9 (by decide)) (fun _ => ?_)
      refine lv_iconst (v := 0) hx hb dX1_price_41 (by decide) ?_
      exact W.iret hx hb hr (fun t ht hW => ⟨⟨_, (L, P, G, V, R, S, Y, O, D, 2, nw, wd, tb, ft, fl, cl, mo), rfl, ⟨fun h9 => absurd (h9.symm.trans (by unfold kPrice; rw [if_neg g1, if_pos g2])) (by decide), fun _ => ⟨rfl, congrArg (fun z => (L, P, G, V, R, S, Y, O, D, z, nw, wd, tb, ft, fl, cl, mo)) (Eq.symm (by unfold kPrice; rw [if_neg g1, if_pos g2]))⟩⟩, by rw [ht]; exact hP, va_K.moved hW.alike hK, hD⟩, hS.F ht⟩) hS.2.2 dX1_price_42
    · have hw := hw.trans (fIsIn_neg g2)
      subst hw
      refine lv_if_ne (tgt := 30) hx hb dX1_price_23 (by decide) (fun _ => ?_) (fun h9 => absurd h9 (by decide))
      refine lv_iconst (v := 0) hx hb dX1_price_30 (by decide) ?_
      refine va_put (D := dG) (ci := 1) (v := .int 0) (ty := .int) (C := RX1) (T := TX1) (N := 17) hx hb hts hinM tyX1 tyX1_ok nmX1 hown hK hP hD hS 0 rfl rfl 0 (by decide) (hts (.fieldLink RX1 41 "TidegateBourseModel" "thrown" "I") (by decide +kernel)) (fun _ h9 => h9) rfl (by decide +kernel) rfl rfl (Nat.le_of_ble_eq_true rfl) dX1_price_31 (fun H locs hP hD hS => ?_)
      have hP : va_P dG vwCl (mW B cA L P G V R S Y O D 0 nw wd tb ft fl cl mo) H := hP
      have hD : va_D F (mW B cA L P G V R S Y O D 0 nw wd tb ft fl cl mo) := hD
      refine lv_aload_n hx hb dX1_price_34 rfl (lv_at hl 0 rfl) ?_
      refine va_get (D := dG) (ci := 1) (v := .int 0) (C := RX1) (T := TX1) (N := 17) hx hb hts hinM hown hK hP 0 rfl rfl 0 (by decide) (hts (.fieldLink RX1 41 "TidegateBourseModel" "thrown" "I") (by decide +kernel)) (fun _ h9 => h9) rfl dX1_price_35 ?_
      refine lv_if_le (tgt := 43) hx hb dX1_price_38 (by decide) (fun _ => ?_) (fun h9 => absurd (by decide) h9)
      refine lv_aload_n hx hb dX1_price_43 rfl (lv_at hl 0 rfl) ?_
      refine va_get (D := dG) (ci := 1) (v := .ref (B 2)) (C := RX1) (T := TX1) (N := 17) hx hb hts hinM hown hK hP 0 rfl rfl 3 (by decide) (hts (.fieldLink RX1 13 "TidegateBourseModel" "prices" "[I") (by decide +kernel)) (fun _ h9 => h9) rfl dX1_price_44 ?_
      refine lv_iload_n hx hb dX1_price_47 rfl (lv_at hl 1 rfl) ?_
      refine va_iald hx hb hK hP 2 0 rfl rfl (vp_out g1 (by decide)) dX1_price_48 ?_
      refine lv_istore_n (lv' := [(3, .int (P h.toNatClampNeg)), (0, .ref (B 0)), (1, .int h), (2, .int v)]) hx hb dX1_price_49 rfl hl (by decide) rfl (fun ls hl => ?_)
      refine lv_aload_n hx hb dX1_price_50 rfl (lv_at hl 1 rfl) ?_
      refine va_get (D := dG) (ci := 1) (v := .ref (B 2)) (C := RX1) (T := TX1) (N := 17) hx hb hts hinM hown hK hP 0 rfl rfl 3 (by decide) (hts (.fieldLink RX1 13 "TidegateBourseModel" "prices" "[I") (by decide +kernel)) (fun _ h9 => h9) rfl dX1_price_51 ?_
      refine lv_iload_n hx hb dX1_price_54 rfl (lv_at hl 2 rfl) ?_
      refine lv_iload_n hx hb dX1_price_55 rfl (lv_at hl 3 rfl) ?_
      refine va_iast hx hb hK hP hD hS 2 0 rfl rfl (vp_out g1 (by decide)) dX1_price_56 (fun H locs hP hD hS => ?_)
      have hP : va_P dG vwCl (mW B cA L (upd P h.toNatClampNeg v) G V R S Y O D 0 nw wd tb ft fl cl mo) H := hP
      have hD : va_D F (mW B cA L (upd P h.toNatClampNeg v) G V R S Y O D 0 nw wd tb ft fl cl mo) := hD
      refine lv_iload_n hx hb dX1_price_57 rfl (lv_at hl 0 rfl) ?_
      exact W.iret hx hb hr (fun t ht hW => ⟨⟨_, (L, (upd P h.toNatClampNeg v), G, V, R, S, Y, O, D, 0, nw, wd, tb, ft, fl, cl, mo), rfl, ⟨fun _ => ⟨rfl, rfl⟩, fun h9 => absurd (by unfold kPrice; rw [if_neg g1, if_neg g2]) h9⟩, by rw [ht]; exact hP, va_K.moved hW.alike hK, hD⟩, hS.F ht⟩) hS.2.2 dX1_price_58
set_option maxHeartbeats 4000000 in
set_option maxRecDepth 100000 in
theorem c_X1_wind (l : Launch) (dG : va_G) (B : Nat → Nat) (cA : ClassId) (Hp : Heap) (L P G V R S Y O D : Nat → Int32) (th nw wd tb ft fl cl : Int32) (mo : UInt32) (w : Int32) : Met l yX1_wind wsX1_wind ({ frames := 4, cells := 0, slots := 0, locals := 100 }) (va_Pc [.ref (B 0), .int w] (fun U => wPre dG (tyI cA) (mW B cA L P G V R S Y O D th nw wd tb ft fl cl mo) Hp U)) (va_Qi (fun (r : Int32) (u : MS) => (kWind w = 0 → r = wd ∧ u = (L, P, G, V, R, S, Y, O, D, 0, nw, w, tb, ft, fl, cl, mo)) ∧ (¬ kWind w = 0 → r = 0 ∧ u = (L, P, G, V, R, S, Y, O, D, kWind w, nw, wd, tb, ft, fl, cl, mo))) (fun u t => wAt dG (tyI cA) (va_A (mW B cA L P G V R S Y O D th nw wd tb ft fl cl mo) Hp.size) (mU B cA u) t) (va_A (mW B cA L P G V R S Y O D th nw wd tb ft fl cl mo) Hp.size)) 0 0 (va_A (mW B cA L P G V R S Y O D th nw wd tb ft fl cl mo) Hp.size) := by
  refine Met.ofW (cc := cX1_wind) (maxL := 3) (ret := some .int) (by decide) rfl ?_
  intro p e s m args below meth c s₁ Bd hml hv
  obtain ⟨rfl, hH, hP, hK, hD0⟩ := hv
  subst hH
  have hK : va_K dG vwCl (tyI cA) s := hK
  have hx := Bd.exec
  have hb := Bd.bytes
  have hr := Bd.returns
  have hts := atoms_spec (ws := wsX1_wind) Bd.pre
  have hown : s.vm.findClass RX1 = some m.cls := findClass_of_methodNamed Bd.named
  have hlocks := Bd.notSynchronized
  have hinM : ∀ w ∈ wsX10, w ∈ wsX1_wind := by decide +kernel
  have hD := hD0.self (sz := s.heap.size)
  generalize hAe : va_A (mW B cA L P G V R S Y O D th nw wd tb ft fl cl mo) s.heap.size = F at hD ⊢
  have hA : ∀ q : Nat, s.heap.size ≤ q → F q := fun q h => by rw [← hAe]; exact Or.inr h
  have hS : va_S F s.heap s.heap [] := va_S.rf
  have hP : va_P dG vwCl (mW B cA L P G V R S Y O D th nw wd tb ft fl cl mo) s.heap := hP
  have hl := lv_entry ([.ref (B 0), .int w]) (n := 3) (Nat.le_of_ble_eq_true rfl)
  rw [lg_entry_eq]
  generalize (lg_sl ([.ref (B 0), .int w]) ++ List.replicate (3 - (lg_sl ([.ref (B 0), .int w])).length) Slot.unset).toArray = ls at hl ⊢
  have hl : lv_has ls 3 [(0, .ref (B 0)), (1, .int w)] := hl
  refine lv_aload_n hx hb dX1_wind_0 rfl (lv_at hl 0 rfl) ?_
  refine lv_iload_n hx hb dX1_wind_1 rfl (lv_at hl 1 rfl) ?_
  refine lv_bipush (v := (-20)) hx hb dX1_wind_2 (by decide) ?_
  refine lv_bipush (v := 20) hx hb dX1_wind_4 (by decide) ?_
  refine va_calli (va_runS (As := [.int w, .int (-20), .int 20]) (rest := [.ref (B 0)]) ⟨hx, hb, hml, hown, hts⟩ (c_X1_isIn l s.heap w (-20) 20) (va_cwS 3 hts gX1_wind_X1_isIn rfl rfl rfl (by decide +kernel) ⟨Nat.le_of_ble_eq_true rfl, Nat.le_of_ble_eq_true rfl⟩) ⟨fun a U g mk q => q, fun U hU hW => ⟨rfl, hU⟩⟩ rfl rfl hl.1 rfl (lv_room (Nat.le_of_ble_eq_true rfl)) dX1_wind_6 ⟨Nat.le_of_ble_eq_true rfl, Nat.le_of_ble_eq_true rfl⟩) hS (fun q _ h => h.elim) (fun q h => h.elim) (fun r1 u1 t H1 locs ht hvm hw hB hz1 hk1 hS => ?_)
  have e9 := hB.symm.trans ht
  subst e9
  by_cases g1 : oI w (-20) 20
  · have hw := hw.trans (fIsIn_pos g1)
    subst hw
    refine lv_if_eq (tgt := 16) hx hb dX1_wind_9 (by decide) (fun _ => ?_) (fun h9 => absurd (by decide) h9)
    refine lv_iconst (v := 1) hx hb dX1_wind_16 (by decide) ?_
    refine va_put (D := dG) (ci := 1) (v := .int 1) (ty := .int) (C := RX1) (T := TX1) (N := 17) hx hb hts hinM tyX1 tyX1_ok nmX1 hown hK hP hD hS 0 rfl rfl 0 (by decide) (hts (.fieldLink RX1 41 "TidegateBourseModel" "thrown" "I") (by decide +kernel)) (fun _ h9 => h9) rfl (by decide +kernel) rfl rfl (Nat.le_of_ble_eq_true rfl) dX1_wind_17 (fun H locs hP hD hS => ?_)
    have hP : va_P dG vwCl (mW B cA L P G V R S Y O D 1 nw wd tb ft fl cl mo) H := hP
    have hD : va_D F (mW B cA L P G V R S Y O D 1 nw wd tb ft fl cl mo) := hD
    refine lv_aload_n hx hb dX1_wind_20 rfl (lv_at hl 0 rfl) ?_
    refine va_get (D := dG) (ci := 1) (v := .int 1) (C := RX1) (T := TX1) (N := 17) hx hb hts hinM hown hK hP 0 rfl rfl 0 (by decide) (hts (.fieldLink RX1 41 "TidegateBourseModel" "thrown" "I") (by decide +kernel)) (fun _ h9 => h9) rfl dX1_wind_21 ?_
    refine lv_if_le (tgt := 29) hx hb dX1_wind_24 (by decide) (fun h9 => absurd h9 (by decide)) (fun _ => ?_)
    refine lv_iconst (v := 0) hx hb dX1_wind_27 (by decide) ?_
    exact W.iret hx hb hr (fun t ht hW => ⟨⟨_, (L, P, G, V, R, S, Y, O, D, 1, nw, wd, tb, ft, fl, cl, mo), rfl, ⟨fun h9 => absurd (h9.symm.trans (by unfold kWind; rw [if_pos g1])) (by decide), fun _ => ⟨rfl, congrArg (fun z => (L, P, G, V, R, S, Y, O, D, z, nw, wd, tb, ft, fl, cl, mo)) (Eq.symm (by unfold kWind; rw [if_pos g1]))⟩⟩, by rw [ht]; exact hP, va_K.moved hW.alike hK, hD⟩, hS.F ht⟩) hS.2.2 dX1_wind_28
  · have hw := hw.trans (fIsIn_neg g1)
    subst hw
    refine lv_if_eq (tgt := 16) hx hb dX1_wind_9 (by decide) (fun h9 => absurd h9 (by decide)) (fun _ => ?_)
    refine lv_iconst (v := 0) hx hb dX1_wind_12 (by decide) ?_
    refine lv_goto (tgt := 17) hx hb dX1_wind_13 (by decide) ?_
    refine va_put (D := dG) (ci := 1) (v := .int 0) (ty := .int) (C := RX1) (T := TX1) (N := 17) hx hb hts hinM tyX1 tyX1_ok nmX1 hown hK hP hD hS 0 rfl rfl 0 (by decide) (hts (.fieldLink RX1 41 "TidegateBourseModel" "thrown" "I") (by decide +kernel)) (fun _ h9 => h9) rfl (by decide +kernel) rfl rfl (Nat.le_of_ble_eq_true rfl) dX1_wind_17 (fun H locs hP hD hS => ?_)
    have hP : va_P dG vwCl (mW B cA L P G V R S Y O D 0 nw wd tb ft fl cl mo) H := hP
    have hD : va_D F (mW B cA L P G V R S Y O D 0 nw wd tb ft fl cl mo) := hD
    refine lv_aload_n hx hb dX1_wind_20 rfl (lv_at hl 0 rfl) ?_
    refine va_get (D := dG) (ci := 1) (v := .int 0) (C := RX1) (T := TX1) (N := 17) hx hb hts hinM hown hK hP 0 rfl rfl 0 (by decide) (hts (.fieldLink RX1 41 "TidegateBourseModel" "thrown" "I") (by decide +kernel)) (fun _ h9 => h9) rfl dX1_wind_21 ?_
    refine lv_if_le (tgt := 29) hx hb dX1_wind_24 (by decide) (fun _ => ?_) (fun h9 => absurd (by decide) h9)
    refine lv_aload_n hx hb dX1_wind_29 rfl (lv_at hl 0 rfl) ?_
    refine va_get (D := dG) (ci := 1) (v := .int wd) (C := RX1) (T := TX1) (N := 17) hx hb hts hinM hown hK hP 0 rfl rfl 4 (by decide) (hts (.fieldLink RX1 51 "TidegateBourseModel" "wind" "I") (by decide +kernel)) (fun _ h9 => h9) rfl dX1_wind_30 ?_
    refine lv_istore_n (lv' := [(2, .int wd), (0, .ref (B 0)), (1, .int w)]) hx hb dX1_wind_33 rfl hl (by decide) rfl (fun ls hl => ?_)
    refine lv_aload_n hx hb dX1_wind_34 rfl (lv_at hl 1 rfl) ?_
    refine lv_iload_n hx hb dX1_wind_35 rfl (lv_at hl 2 rfl) ?_
    refine va_put (D := dG) (ci := 1) (v := .int w) (ty := .int) (C := RX1) (T := TX1) (N := 17) hx hb hts hinM tyX1 tyX1_ok nmX1 hown hK hP hD hS 0 rfl rfl 4 (by decide) (hts (.fieldLink RX1 51 "TidegateBourseModel" "wind" "I") (by decide +kernel)) (fun _ h9 => h9) rfl (by decide +kernel) rfl rfl (Nat.le_of_ble_eq_true rfl) dX1_wind_36 (fun H locs hP hD hS => ?_)
    have hP : va_P dG vwCl (mW B cA L P G V R S Y O D 0 nw w tb ft fl cl mo) H := hP
    have hD : va_D F (mW B cA L P G V R S Y O D 0 nw w tb ft fl cl mo) := hD
    refine lv_iload_n hx hb dX1_wind_39 rfl (lv_at hl 0 rfl) ?_
    exact W.iret hx hb hr (fun t ht hW => ⟨⟨_, (L, P, G, V, R, S, Y, O, D, 0, nw, w, tb, ft, fl, cl, mo), rfl, ⟨fun _ => ⟨rfl, rfl⟩, fun h9 => absurd (by unfold kWind; rw [if_neg g1]) h9⟩, by rw [ht]; exact hP, va_K.moved hW.alike hK, hD⟩, hS.F ht⟩) hS.2.2 dX1_wind_40
set_option maxHeartbeats 4000000 in
set_option maxRecDepth 100000 in
theorem c_X1_turbine (l : Launch) (dG : va_G) (B : Nat → Nat) (cA : ClassId) (Hp : Heap) (L P G V R S Y O D : Nat → Int32) (th nw wd tb ft fl cl : Int32) (mo : UInt32)  (htb : 0 ≤ tb.toInt ∧ tb.toInt ≤ 4) : Met l yX1_turbine wsX1_turbine ({ frames := 4, cells := 0, slots := 0, locals := 100 }) (va_Pc [.ref (B 0)] (fun U => wPre dG (tyI cA) (mW B cA L P G V R S Y O D th nw wd tb ft fl cl mo) Hp U)) (va_Qi (fun (r : Int32) (u : MS) => (kTurb tb = 0 → r = tb + 1 - 1 ∧ u = (L, P, G, V, R, S, Y, O, D, 0, nw, wd, (tb + 1), ft, fl, cl, mo)) ∧ (¬ kTurb tb = 0 → r = 0 ∧ u = (L, P, G, V, R, S, Y, O, D, kTurb tb, nw, wd, tb, ft, fl, cl, mo))) (fun u t => wAt dG (tyI cA) (va_A (mW B cA L P G V R S Y O D th nw wd tb ft fl cl mo) Hp.size) (mU B cA u) t) (va_A (mW B cA L P G V R S Y O D th nw wd tb ft fl cl mo) Hp.size)) 0 0 (va_A (mW B cA L P G V R S Y O D th nw wd tb ft fl cl mo) Hp.size) := by
  refine Met.ofW (cc := cX1_turbine) (maxL := 1) (ret := some .int) (by decide) rfl ?_
  intro p e s m args below meth c s₁ Bd hml hv
  obtain ⟨rfl, hH, hP, hK, hD0⟩ := hv
  subst hH
  have hK : va_K dG vwCl (tyI cA) s := hK
  have hx := Bd.exec
  have hb := Bd.bytes
  have hr := Bd.returns
  have hts := atoms_spec (ws := wsX1_turbine) Bd.pre
  have hown : s.vm.findClass RX1 = some m.cls := findClass_of_methodNamed Bd.named
  have hlocks := Bd.notSynchronized
  have hinM : ∀ w ∈ wsX10, w ∈ wsX1_turbine := by decide +kernel
  have hD := hD0.self (sz := s.heap.size)
  generalize hAe : va_A (mW B cA L P G V R S Y O D th nw wd tb ft fl cl mo) s.heap.size = F at hD ⊢
  have hA : ∀ q : Nat, s.heap.size ≤ q → F q := fun q h => by rw [← hAe]; exact Or.inr h
  have hS : va_S F s.heap s.heap [] := va_S.rf
  have hP : va_P dG vwCl (mW B cA L P G V R S Y O D th nw wd tb ft fl cl mo) s.heap := hP
  have hl := lv_entry ([.ref (B 0)]) (n := 1) (Nat.le_of_ble_eq_true rfl)
  rw [lg_entry_eq]
  generalize (lg_sl ([.ref (B 0)]) ++ List.replicate (1 - (lg_sl ([.ref (B 0)])).length) Slot.unset).toArray = ls at hl ⊢
  have hl : lv_has ls 1 [(0, .ref (B 0))] := hl
  refine lv_aload_n hx hb dX1_turbine_0 rfl (lv_at hl 0 rfl) ?_
  refine lv_aload_n hx hb dX1_turbine_1 rfl (lv_at hl 0 rfl) ?_
  refine va_get (D := dG) (ci := 1) (v := .int tb) (C := RX1) (T := TX1) (N := 17) hx hb hts hinM hown hK hP 0 rfl rfl 5 (by decide) (hts (.fieldLink RX1 44 "TidegateBourseModel" "turbines" "I") (by decide +kernel)) (fun _ h9 => h9) rfl dX1_turbine_2 ?_
  refine lv_iconst (v := 4) hx hb dX1_turbine_5 (by decide) ?_
  refine lv_icmp_ne (tgt := 13) hx hb dX1_turbine_6 (by decide) (fun cq1 => ?_) (fun cq1 => ?_)
  · refine lv_iconst (v := 0) hx hb dX1_turbine_13 (by decide) ?_
    refine va_put (D := dG) (ci := 1) (v := .int 0) (ty := .int) (C := RX1) (T := TX1) (N := 17) hx hb hts hinM tyX1 tyX1_ok nmX1 hown hK hP hD hS 0 rfl rfl 0 (by decide) (hts (.fieldLink RX1 41 "TidegateBourseModel" "thrown" "I") (by decide +kernel)) (fun _ h9 => h9) rfl (by decide +kernel) rfl rfl (Nat.le_of_ble_eq_true rfl) dX1_turbine_14 (fun H locs hP hD hS => ?_)
    have hP : va_P dG vwCl (mW B cA L P G V R S Y O D 0 nw wd tb ft fl cl mo) H := hP
    have hD : va_D F (mW B cA L P G V R S Y O D 0 nw wd tb ft fl cl mo) := hD
    refine lv_aload_n hx hb dX1_turbine_17 rfl (lv_at hl 0 rfl) ?_
    refine va_get (D := dG) (ci := 1) (v := .int 0) (C := RX1) (T := TX1) (N := 17) hx hb hts hinM hown hK hP 0 rfl rfl 0 (by decide) (hts (.fieldLink RX1 41 "TidegateBourseModel" "thrown" "I") (by decide +kernel)) (fun _ h9 => h9) rfl dX1_turbine_18 ?_
    refine lv_if_le (tgt := 26) hx hb dX1_turbine_21 (by decide) (fun _ => ?_) (fun h9 => absurd (by decide) h9)
    refine lv_aload_n hx hb dX1_turbine_26 rfl (lv_at hl 0 rfl) ?_
    refine lv_dup hx hb dX1_turbine_27 rfl ?_
    refine va_get (D := dG) (ci := 1) (v := .int tb) (C := RX1) (T := TX1) (N := 17) hx hb hts hinM hown hK hP 0 rfl rfl 5 (by decide) (hts (.fieldLink RX1 44 "TidegateBourseModel" "turbines" "I") (by decide +kernel)) (fun _ h9 => h9) rfl dX1_turbine_28 ?_
    refine lv_iconst (v := 1) hx hb dX1_turbine_31 (by decide) ?_
    refine lv_iadd hx hb dX1_turbine_32 ?_
    refine va_put (D := dG) (ci := 1) (v := .int (tb + 1)) (ty := .int) (C := RX1) (T := TX1) (N := 17) hx hb hts hinM tyX1 tyX1_ok nmX1 hown hK hP hD hS 0 rfl rfl 5 (by decide) (hts (.fieldLink RX1 44 "TidegateBourseModel" "turbines" "I") (by decide +kernel)) (fun _ h9 => h9) rfl (by decide +kernel) rfl rfl (Nat.le_of_ble_eq_true rfl) dX1_turbine_33 (fun H locs hP hD hS => ?_)
    have hP : va_P dG vwCl (mW B cA L P G V R S Y O D 0 nw wd (tb + 1) ft fl cl mo) H := hP
    have hD : va_D F (mW B cA L P G V R S Y O D 0 nw wd (tb + 1) ft fl cl mo) := hD
    refine lv_aload_n hx hb dX1_turbine_36 rfl (lv_at hl 0 rfl) ?_
    refine va_get (D := dG) (ci := 1) (v := .int (tb + 1)) (C := RX1) (T := TX1) (N := 17) hx hb hts hinM hown hK hP 0 rfl rfl 5 (by decide) (hts (.fieldLink RX1 44 "TidegateBourseModel" "turbines" "I") (by decide +kernel)) (fun _ h9 => h9) rfl dX1_turbine_37 ?_
    refine lv_iconst (v := 1) hx hb dX1_turbine_40 (by decide) ?_
    refine lv_isub hx hb dX1_turbine_41 ?_
    exact W.iret hx hb hr (fun t ht hW => ⟨⟨_, (L, P, G, V, R, S, Y, O, D, 0, nw, wd, (tb + 1), ft, fl, cl, mo), rfl, ⟨fun _ => ⟨rfl, rfl⟩, fun h9 => absurd (kTurb_ne htb cq1) h9⟩, by rw [ht]; exact hP, va_K.moved hW.alike hK, hD⟩, hS.F ht⟩) hS.2.2 dX1_turbine_42
  · refine lv_iconst (v := 1) hx hb dX1_turbine_9 (by decide) ?_
    refine lv_goto (tgt := 14) hx hb dX1_turbine_10 (by decide) ?_
    refine va_put (D := dG) (ci := 1) (v := .int 1) (ty := .int) (C := RX1) (T := TX1) (N := 17) hx hb hts hinM tyX1 tyX1_ok nmX1 hown hK hP hD hS 0 rfl rfl 0 (by decide) (hts (.fieldLink RX1 41 "TidegateBourseModel" "thrown" "I") (by decide +kernel)) (fun _ h9 => h9) rfl (by decide +kernel) rfl rfl (Nat.le_of_ble_eq_true rfl) dX1_turbine_14 (fun H locs hP hD hS => ?_)
    have hP : va_P dG vwCl (mW B cA L P G V R S Y O D 1 nw wd tb ft fl cl mo) H := hP
    have hD : va_D F (mW B cA L P G V R S Y O D 1 nw wd tb ft fl cl mo) := hD
    refine lv_aload_n hx hb dX1_turbine_17 rfl (lv_at hl 0 rfl) ?_
    refine va_get (D := dG) (ci := 1) (v := .int 1) (C := RX1) (T := TX1) (N := 17) hx hb hts hinM hown hK hP 0 rfl rfl 0 (by decide) (hts (.fieldLink RX1 41 "TidegateBourseModel" "thrown" "I") (by decide +kernel)) (fun _ h9 => h9) rfl dX1_turbine_18 ?_
    refine lv_if_le (tgt := 26) hx hb dX1_turbine_21 (by decide) (fun h9 => absurd h9 (by decide)) (fun _ => ?_)
    refine lv_iconst (v := 0) hx hb dX1_turbine_24 (by decide) ?_
    exact W.iret hx hb hr (fun t ht hW => ⟨⟨_, (L, P, G, V, R, S, Y, O, D, 1, nw, wd, tb, ft, fl, cl, mo), rfl, ⟨fun h9 => absurd (h9.symm.trans (kTurb_eq htb cq1)) (by decide), fun _ => ⟨rfl, congrArg (fun z => (L, P, G, V, R, S, Y, O, D, z, nw, wd, tb, ft, fl, cl, mo)) (Eq.symm (kTurb_eq htb cq1))⟩⟩, by rw [ht]; exact hP, va_K.moved hW.alike hK, hD⟩, hS.F ht⟩) hS.2.2 dX1_turbine_25
set_option maxHeartbeats 4000000 in
set_option maxRecDepth 100000 in
theorem c_X1_gate (l : Launch) (dG : va_G) (B : Nat → Nat) (cA : ClassId) (Hp : Heap) (L P G V R S Y O D : Nat → Int32) (th nw wd tb ft fl cl : Int32) (mo : UInt32) (k : Int32) (g : Int32) (htb : 0 ≤ tb.toInt ∧ tb.toInt ≤ 4) : Met l yX1_gate wsX1_gate ({ frames := 4, cells := 0, slots := 0, locals := 100 }) (va_Pc [.ref (B 0), .int k, .int g] (fun U => wPre dG (tyI cA) (mW B cA L P G V R S Y O D th nw wd tb ft fl cl mo) Hp U)) (va_Qi (fun (r : Int32) (u : MS) => (kGate tb k g = 0 → r = G k.toNatClampNeg ∧ u = (L, P, (upd G k.toNatClampNeg g), V, R, S, Y, O, D, 0, nw, wd, tb, ft, fl, cl, mo)) ∧ (¬ kGate tb k g = 0 → r = 0 ∧ u = (L, P, G, V, R, S, Y, O, D, kGate tb k g, nw, wd, tb, ft, fl, cl, mo))) (fun u t => wAt dG (tyI cA) (va_A (mW B cA L P G V R S Y O D th nw wd tb ft fl cl mo) Hp.size) (mU B cA u) t) (va_A (mW B cA L P G V R S Y O D th nw wd tb ft fl cl mo) Hp.size)) 0 0 (va_A (mW B cA L P G V R S Y O D th nw wd tb ft fl cl mo) Hp.size) := by
  refine Met.ofW (cc := cX1_gate) (maxL := 4) (ret := some .int) (by decide) rfl ?_
  intro p e s m args below meth c s₁ Bd hml hv
  obtain ⟨rfl, hH, hP, hK, hD0⟩ := hv
  subst hH
  have hK : va_K dG vwCl (tyI cA) s := hK
  have hx := Bd.exec
  have hb := Bd.bytes
  have hr := Bd.returns
  have hts := atoms_spec (ws := wsX1_gate) Bd.pre
  have hown : s.vm.findClass RX1 = some m.cls := findClass_of_methodNamed Bd.named
  have hlocks := Bd.notSynchronized
  have hinM : ∀ w ∈ wsX10, w ∈ wsX1_gate := by decide +kernel
  have hD := hD0.self (sz := s.heap.size)
  generalize hAe : va_A (mW B cA L P G V R S Y O D th nw wd tb ft fl cl mo) s.heap.size = F at hD ⊢
  have hA : ∀ q : Nat, s.heap.size ≤ q → F q := fun q h => by rw [← hAe]; exact Or.inr h
  have hS : va_S F s.heap s.heap [] := va_S.rf
  have hP : va_P dG vwCl (mW B cA L P G V R S Y O D th nw wd tb ft fl cl mo) s.heap := hP
  have hl := lv_entry ([.ref (B 0), .int k, .int g]) (n := 4) (Nat.le_of_ble_eq_true rfl)
  rw [lg_entry_eq]
  generalize (lg_sl ([.ref (B 0), .int k, .int g]) ++ List.replicate (4 - (lg_sl ([.ref (B 0), .int k, .int g])).length) Slot.unset).toArray = ls at hl ⊢
  have hl : lv_has ls 4 [(0, .ref (B 0)), (1, .int k), (2, .int g)] := hl
  refine lv_aload_n hx hb dX1_gate_0 rfl (lv_at hl 0 rfl) ?_
  refine lv_aload_n hx hb dX1_gate_1 rfl (lv_at hl 0 rfl) ?_
  refine lv_iload_n hx hb dX1_gate_2 rfl (lv_at hl 1 rfl) ?_
  refine va_calli (va_runV (As := [.int k]) (rest := [.ref (B 0)]) ⟨hx, hb, hml, hown, hts⟩ (c_X1_isTurbine l dG B cA s.heap L P G V R S Y O D th nw wd tb ft fl cl mo k) (cwV 1 hts gX1_gate_X1_isTurbine rfl rfl rfl (by decide +kernel) ⟨Nat.le_of_ble_eq_true rfl, Nat.le_of_ble_eq_true rfl⟩) ⟨fun a U g mk q => ⟨q.1, wPre_calling g mk a q.2⟩, va_recv hK hP (ci := 1) (q0 := 0) rfl rfl, fun U hU hW => ⟨rfl, wPre_of hK hP hD hU hW⟩⟩ rfl rfl hl.1 rfl (lv_room (Nat.le_of_ble_eq_true rfl)) dX1_gate_3 ⟨Nat.le_of_ble_eq_true rfl, Nat.le_of_ble_eq_true rfl⟩) hS (fun q _ h => h.elim) (va_free hD hS hA [0, 1, 2, 3, 4, 5, 6, 7, 8, 9] rfl) (fun r1 u1 t H1 locs ht hvm hw hB hz1 hk1 hS => ?_)
  have e9 := hB.symm.trans ht
  subst e9
  by_cases g1 : oI k 0 (tb - 1)
  · have hw := hw.trans (if_pos g1)
    subst hw
    refine lv_if_ne (tgt := 13) hx hb dX1_gate_6 (by decide) (fun h9 => absurd (by decide) h9) (fun _ => ?_)
    refine lv_iconst (v := 1) hx hb dX1_gate_9 (by decide) ?_
    refine lv_goto (tgt := 28) hx hb dX1_gate_10 (by decide) ?_
    refine va_put (D := dG) (ci := 1) (v := .int 1) (ty := .int) (C := RX1) (T := TX1) (N := 17) hx hb hts hinM tyX1 tyX1_ok nmX1 hown hK hP hD hS 0 rfl rfl 0 (by decide) (hts (.fieldLink RX1 41 "TidegateBourseModel" "thrown" "I") (by decide +kernel)) (fun _ h9 => h9) rfl (by decide +kernel) rfl rfl (Nat.le_of_ble_eq_true rfl) dX1_gate_28 (fun H locs hP hD hS => ?_)
    have hP : va_P dG vwCl (mW B cA L P G V R S Y O D 1 nw wd tb ft fl cl mo) H := hP
    have hD : va_D F (mW B cA L P G V R S Y O D 1 nw wd tb ft fl cl mo) := hD
    refine lv_aload_n hx hb dX1_gate_31 rfl (lv_at hl 0 rfl) ?_
    refine va_get (D := dG) (ci := 1) (v := .int 1) (C := RX1) (T := TX1) (N := 17) hx hb hts hinM hown hK hP 0 rfl rfl 0 (by decide) (hts (.fieldLink RX1 41 "TidegateBourseModel" "thrown" "I") (by decide +kernel)) (fun _ h9 => h9) rfl dX1_gate_32 ?_
    refine lv_if_le (tgt := 40) hx hb dX1_gate_35 (by decide) (fun h9 => absurd h9 (by decide)) (fun _ => ?_)
    refine lv_iconst (v := 0) hx hb dX1_gate_38 (by decide) ?_
    exact W.iret hx hb hr (fun t ht hW => ⟨⟨_, (L, P, G, V, R, S, Y, O, D, 1, nw, wd, tb, ft, fl, cl, mo), rfl, ⟨fun h9 => absurd (h9.symm.trans (by unfold kGate; rw [if_pos g1])) (by decide), fun _ => ⟨rfl, congrArg (fun z => (L, P, G, V, R, S, Y, O, D, z, nw, wd, tb, ft, fl, cl, mo)) (Eq.symm (by unfold kGate; rw [if_pos g1]))⟩⟩, by rw [ht]; exact hP, va_K.moved hW.alike hK, hD⟩, hS.F ht⟩) hS.2.2 dX1_gate_39
  · have hw := hw.trans (if_neg g1)
    subst hw
    refine lv_if_ne (tgt := 13) hx hb dX1_gate_6 (by decide) (fun _ => ?_) (fun h9 => absurd h9 (by decide))
    refine lv_iload_n hx hb dX1_gate_13 rfl (lv_at hl 2 rfl) ?_
    refine lv_iconst (v := 0) hx hb dX1_gate_14 (by decide) ?_
    refine lv_bipush (v := 7) hx hb dX1_gate_15 (by decide) ?_
    refine va_calli (va_runS (As := [.int g, .int 0, .int 7]) (rest := [.ref (B 0)]) ⟨hx, hb, hml, hown, hts⟩ (c_X1_isIn l s.heap g 0 7) (va_cwS 3 hts gX1_gate_X1_isIn rfl rfl rfl (by decide +kernel) ⟨Nat.le_of_ble_eq_true rfl, Nat.le_of_ble_eq_true rfl⟩) ⟨fun a U g mk q => q, fun U hU hW => ⟨rfl, hU⟩⟩ rfl rfl hl.1 rfl (lv_room (Nat.le_of_ble_eq_true rfl)) dX1_gate_17 ⟨Nat.le_of_ble_eq_true rfl, Nat.le_of_ble_eq_true rfl⟩) hS (fun q _ h => h.elim) (fun q h => h.elim) (fun r2 u2 t H1 locs ht hvm hw hB hz1 hk1 hS => ?_)
    have e9 := hB.symm.trans ht
    subst e9
    by_cases g2 : oI g 0 7
    · have hw := hw.trans (fIsIn_pos g2)
      subst hw
      refine lv_if_ne (tgt := 27) hx hb dX1_gate_20 (by decide) (fun h9 => absurd (by decide) h9) (fun _ => ?_)
      refine lv_iconst (v := 2) hx hb dX1_gate_23 (by decide) ?_
      refine lv_goto (tgt := 28) hx hb dX1_gate_24 (by decide) ?_
      refine va_put (D := dG) (ci := 1) (v := .int 2) (ty := .int) (C := RX1) (T := TX1) (N := 17) hx hb hts hinM tyX1 tyX1_ok nmX1 hown hK hP hD hS 0 rfl rfl 0 (by decide) (hts (.fieldLink RX1 41 "TidegateBourseModel" "thrown" "I") (by decide +kernel)) (fun _ h9 => h9) rfl (by decide +kernel) rfl rfl (Nat.le_of_ble_eq_true rfl) dX1_gate_28 (fun H locs hP hD hS => ?_)
      have hP : va_P dG vwCl (mW B cA L P G V R S Y O D 2 nw wd tb ft fl cl mo) H := hP
      have hD : va_D F (mW B cA L P G V R S Y O D 2 nw wd tb ft fl cl mo) := hD
      refine lv_aload_n hx hb dX1_gate_31 rfl (lv_at hl 0 rfl) ?_
      refine va_get (D := dG) (ci := 1) (v := .int 2) (C := RX1) (T := TX1) (N := 17) hx hb hts hinM hown hK hP 0 rfl rfl 0 (by decide) (hts (.fieldLink RX1 41 "TidegateBourseModel" "thrown" "I") (by decide +kernel)) (fun _ h9 => h9) rfl dX1_gate_32 ?_
      refine lv_if_le (tgt := 40) hx hb dX1_gate_35 (by decide) (fun h9 => absurd h9 (by decide)) (fun _ => ?_)
      refine lv_iconst (v := 0) hx hb dX1_gate_38 (by decide) ?_
      exact W.iret hx hb hr (fun t ht hW => ⟨⟨_, (L, P, G, V, R, S, Y, O, D, 2, nw, wd, tb, ft, fl, cl, mo), rfl, ⟨fun h9 => absurd (h9.symm.trans (by unfold kGate; rw [if_neg g1, if_pos g2])) (by decide), fun _ => ⟨rfl, congrArg (fun z => (L, P, G, V, R, S, Y, O, D, z, nw, wd, tb, ft, fl, cl, mo)) (Eq.symm (by unfold kGate; rw [if_neg g1, if_pos g2]))⟩⟩, by rw [ht]; exact hP, va_K.moved hW.alike hK, hD⟩, hS.F ht⟩) hS.2.2 dX1_gate_39
    · have hw := hw.trans (fIsIn_neg g2)
      subst hw
      refine lv_if_ne (tgt := 27) hx hb dX1_gate_20 (by decide) (fun _ => ?_) (fun h9 => absurd h9 (by decide))
      refine lv_iconst (v := 0) hx hb dX1_gate_27 (by decide) ?_
      refine va_put (D := dG) (ci := 1) (v := .int 0) (ty := .int) (C := RX1) (T := TX1) (N := 17) hx hb hts hinM tyX1 tyX1_ok nmX1 hown hK hP hD hS 0 rfl rfl 0 (by decide) (hts (.fieldLink RX1 41 "TidegateBourseModel" "thrown" "I") (by decide +kernel)) (fun _ h9 => h9) rfl (by decide +kernel) rfl rfl (Nat.le_of_ble_eq_true rfl) dX1_gate_28 (fun H locs hP hD hS => ?_)
      have hP : va_P dG vwCl (mW B cA L P G V R S Y O D 0 nw wd tb ft fl cl mo) H := hP
      have hD : va_D F (mW B cA L P G V R S Y O D 0 nw wd tb ft fl cl mo) := hD
      refine lv_aload_n hx hb dX1_gate_31 rfl (lv_at hl 0 rfl) ?_
      refine va_get (D := dG) (ci := 1) (v := .int 0) (C := RX1) (T := TX1) (N := 17) hx hb hts hinM hown hK hP 0 rfl rfl 0 (by decide) (hts (.fieldLink RX1 41 "TidegateBourseModel" "thrown" "I") (by decide +kernel)) (fun _ h9 => h9) rfl dX1_gate_32 ?_
      refine lv_if_le (tgt := 40) hx hb dX1_gate_35 (by decide) (fun _ => ?_) (fun h9 => absurd (by decide) h9)
      refine lv_aload_n hx hb dX1_gate_40 rfl (lv_at hl 0 rfl) ?_
      refine va_get (D := dG) (ci := 1) (v := .ref (B 3)) (C := RX1) (T := TX1) (N := 17) hx hb hts hinM hown hK hP 0 rfl rfl 6 (by decide) (hts (.fieldLink RX1 16 "TidegateBourseModel" "gates" "[I") (by decide +kernel)) (fun _ h9 => h9) rfl dX1_gate_41 ?_
      refine lv_iload_n hx hb dX1_gate_44 rfl (lv_at hl 1 rfl) ?_
      refine va_iald hx hb hK hP 3 0 rfl rfl (vp_pred g1 htb.1 htb.2) dX1_gate_45 ?_
      refine lv_istore_n (lv' := [(3, .int (G k.toNatClampNeg)), (0, .ref (B 0)), (1, .int k), (2, .int g)]) hx hb dX1_gate_46 rfl hl (by decide) rfl (fun ls hl => ?_)
      refine lv_aload_n hx hb dX1_gate_47 rfl (lv_at hl 1 rfl) ?_
      refine va_get (D := dG) (ci := 1) (v := .ref (B 3)) (C := RX1) (T := TX1) (N := 17) hx hb hts hinM hown hK hP 0 rfl rfl 6 (by decide) (hts (.fieldLink RX1 16 "TidegateBourseModel" "gates" "[I") (by decide +kernel)) (fun _ h9 => h9) rfl dX1_gate_48 ?_
      refine lv_iload_n hx hb dX1_gate_51 rfl (lv_at hl 2 rfl) ?_
      refine lv_iload_n hx hb dX1_gate_52 rfl (lv_at hl 3 rfl) ?_
      refine va_iast hx hb hK hP hD hS 3 0 rfl rfl (vp_pred g1 htb.1 htb.2) dX1_gate_53 (fun H locs hP hD hS => ?_)
      have hP : va_P dG vwCl (mW B cA L P (upd G k.toNatClampNeg g) V R S Y O D 0 nw wd tb ft fl cl mo) H := hP
      have hD : va_D F (mW B cA L P (upd G k.toNatClampNeg g) V R S Y O D 0 nw wd tb ft fl cl mo) := hD
      refine lv_iload_n hx hb dX1_gate_54 rfl (lv_at hl 0 rfl) ?_
      exact W.iret hx hb hr (fun t ht hW => ⟨⟨_, (L, P, (upd G k.toNatClampNeg g), V, R, S, Y, O, D, 0, nw, wd, tb, ft, fl, cl, mo), rfl, ⟨fun _ => ⟨rfl, rfl⟩, fun h9 => absurd (by unfold kGate; rw [if_neg g1, if_neg g2]) h9⟩, by rw [ht]; exact hP, va_K.moved hW.alike hK, hD⟩, hS.F ht⟩) hS.2.2 dX1_gate_55
set_option maxHeartbeats 4000000 in
set_option maxRecDepth 100000 in
theorem c_X1_repair (l : Launch) (dG : va_G) (B : Nat → Nat) (cA : ClassId) (Hp : Heap) (L P G V R S Y O D : Nat → Int32) (th nw wd tb ft fl cl : Int32) (mo : UInt32) (k : Int32) (htb : 0 ≤ tb.toInt ∧ tb.toInt ≤ 4) : Met l yX1_repair wsX1_repair ({ frames := 4, cells := 0, slots := 0, locals := 100 }) (va_Pc [.ref (B 0), .int k] (fun U => wPre dG (tyI cA) (mW B cA L P G V R S Y O D th nw wd tb ft fl cl mo) Hp U)) (va_Qi (fun (r : Int32) (u : MS) => (kRep tb k = 0 → r = V k.toNatClampNeg ∧ u = (L, P, G, (upd V k.toNatClampNeg 0), (upd R k.toNatClampNeg 5), S, Y, O, D, 0, nw, wd, tb, ft, fl, cl, mo)) ∧ (¬ kRep tb k = 0 → r = 0 ∧ u = (L, P, G, V, R, S, Y, O, D, kRep tb k, nw, wd, tb, ft, fl, cl, mo))) (fun u t => wAt dG (tyI cA) (va_A (mW B cA L P G V R S Y O D th nw wd tb ft fl cl mo) Hp.size) (mU B cA u) t) (va_A (mW B cA L P G V R S Y O D th nw wd tb ft fl cl mo) Hp.size)) 0 0 (va_A (mW B cA L P G V R S Y O D th nw wd tb ft fl cl mo) Hp.size) := by
  refine Met.ofW (cc := cX1_repair) (maxL := 3) (ret := some .int) (by decide) rfl ?_
  intro p e s m args below meth c s₁ Bd hml hv
  obtain ⟨rfl, hH, hP, hK, hD0⟩ := hv
  subst hH
  have hK : va_K dG vwCl (tyI cA) s := hK
  have hx := Bd.exec
  have hb := Bd.bytes
  have hr := Bd.returns
  have hts := atoms_spec (ws := wsX1_repair) Bd.pre
  have hown : s.vm.findClass RX1 = some m.cls := findClass_of_methodNamed Bd.named
  have hlocks := Bd.notSynchronized
  have hinM : ∀ w ∈ wsX10, w ∈ wsX1_repair := by decide +kernel
  have hD := hD0.self (sz := s.heap.size)
  generalize hAe : va_A (mW B cA L P G V R S Y O D th nw wd tb ft fl cl mo) s.heap.size = F at hD ⊢
  have hA : ∀ q : Nat, s.heap.size ≤ q → F q := fun q h => by rw [← hAe]; exact Or.inr h
  have hS : va_S F s.heap s.heap [] := va_S.rf
  have hP : va_P dG vwCl (mW B cA L P G V R S Y O D th nw wd tb ft fl cl mo) s.heap := hP
  have hl := lv_entry ([.ref (B 0), .int k]) (n := 3) (Nat.le_of_ble_eq_true rfl)
  rw [lg_entry_eq]
  generalize (lg_sl ([.ref (B 0), .int k]) ++ List.replicate (3 - (lg_sl ([.ref (B 0), .int k])).length) Slot.unset).toArray = ls at hl ⊢
  have hl : lv_has ls 3 [(0, .ref (B 0)), (1, .int k)] := hl
  refine lv_aload_n hx hb dX1_repair_0 rfl (lv_at hl 0 rfl) ?_
  refine lv_aload_n hx hb dX1_repair_1 rfl (lv_at hl 0 rfl) ?_
  refine lv_iload_n hx hb dX1_repair_2 rfl (lv_at hl 1 rfl) ?_
  refine va_calli (va_runV (As := [.int k]) (rest := [.ref (B 0)]) ⟨hx, hb, hml, hown, hts⟩ (c_X1_isTurbine l dG B cA s.heap L P G V R S Y O D th nw wd tb ft fl cl mo k) (cwV 1 hts gX1_repair_X1_isTurbine rfl rfl rfl (by decide +kernel) ⟨Nat.le_of_ble_eq_true rfl, Nat.le_of_ble_eq_true rfl⟩) ⟨fun a U g mk q => ⟨q.1, wPre_calling g mk a q.2⟩, va_recv hK hP (ci := 1) (q0 := 0) rfl rfl, fun U hU hW => ⟨rfl, wPre_of hK hP hD hU hW⟩⟩ rfl rfl hl.1 rfl (lv_room (Nat.le_of_ble_eq_true rfl)) dX1_repair_3 ⟨Nat.le_of_ble_eq_true rfl, Nat.le_of_ble_eq_true rfl⟩) hS (fun q _ h => h.elim) (va_free hD hS hA [0, 1, 2, 3, 4, 5, 6, 7, 8, 9] rfl) (fun r1 u1 t H1 locs ht hvm hw hB hz1 hk1 hS => ?_)
  have e9 := hB.symm.trans ht
  subst e9
  by_cases g1 : oI k 0 (tb - 1)
  · have hw := hw.trans (if_pos g1)
    subst hw
    refine lv_if_eq (tgt := 13) hx hb dX1_repair_6 (by decide) (fun _ => ?_) (fun h9 => absurd (by decide) h9)
    refine lv_iconst (v := 1) hx hb dX1_repair_13 (by decide) ?_
    refine va_put (D := dG) (ci := 1) (v := .int 1) (ty := .int) (C := RX1) (T := TX1) (N := 17) hx hb hts hinM tyX1 tyX1_ok nmX1 hown hK hP hD hS 0 rfl rfl 0 (by decide) (hts (.fieldLink RX1 41 "TidegateBourseModel" "thrown" "I") (by decide +kernel)) (fun _ h9 => h9) rfl (by decide +kernel) rfl rfl (Nat.le_of_ble_eq_true rfl) dX1_repair_14 (fun H locs hP hD hS => ?_)
    have hP : va_P dG vwCl (mW B cA L P G V R S Y O D 1 nw wd tb ft fl cl mo) H := hP
    have hD : va_D F (mW B cA L P G V R S Y O D 1 nw wd tb ft fl cl mo) := hD
    refine lv_aload_n hx hb dX1_repair_17 rfl (lv_at hl 0 rfl) ?_
    refine va_get (D := dG) (ci := 1) (v := .int 1) (C := RX1) (T := TX1) (N := 17) hx hb hts hinM hown hK hP 0 rfl rfl 0 (by decide) (hts (.fieldLink RX1 41 "TidegateBourseModel" "thrown" "I") (by decide +kernel)) (fun _ h9 => h9) rfl dX1_repair_18 ?_
    refine lv_if_le (tgt := 26) hx hb dX1_repair_21 (by decide) (fun h9 => absurd h9 (by decide)) (fun _ => ?_)
    refine lv_iconst (v := 0) hx hb dX1_repair_24 (by decide) ?_
    exact W.iret hx hb hr (fun t ht hW => ⟨⟨_, (L, P, G, V, R, S, Y, O, D, 1, nw, wd, tb, ft, fl, cl, mo), rfl, ⟨fun h9 => absurd (h9.symm.trans (by unfold kRep; rw [if_pos g1])) (by decide), fun _ => ⟨rfl, congrArg (fun z => (L, P, G, V, R, S, Y, O, D, z, nw, wd, tb, ft, fl, cl, mo)) (Eq.symm (by unfold kRep; rw [if_pos g1]))⟩⟩, by rw [ht]; exact hP, va_K.moved hW.alike hK, hD⟩, hS.F ht⟩) hS.2.2 dX1_repair_25
  · have hw := hw.trans (if_neg g1)
    subst hw
    refine lv_if_eq (tgt := 13) hx hb dX1_repair_6 (by decide) (fun h9 => absurd h9 (by decide)) (fun _ => ?_)
    refine lv_iconst (v := 0) hx hb dX1_repair_9 (by decide) ?_
    refine lv_goto (tgt := 14) hx hb dX1_repair_10 (by decide) ?_
    refine va_put (D := dG) (ci := 1) (v := .int 0) (ty := .int) (C := RX1) (T := TX1) (N := 17) hx hb hts hinM tyX1 tyX1_ok nmX1 hown hK hP hD hS 0 rfl rfl 0 (by decide) (hts (.fieldLink RX1 41 "TidegateBourseModel" "thrown" "I") (by decide +kernel)) (fun _ h9 => h9) rfl (by decide +kernel) rfl rfl (Nat.le_of_ble_eq_true rfl) dX1_repair_14 (fun H locs hP hD hS => ?_)
    have hP : va_P dG vwCl (mW B cA L P G V R S Y O D 0 nw wd tb ft fl cl mo) H := hP
    have hD : va_D F (mW B cA L P G V R S Y O D 0 nw wd tb ft fl cl mo) := hD
    refine lv_aload_n hx hb dX1_repair_17 rfl (lv_at hl 0 rfl) ?_
    refine va_get (D := dG) (ci := 1) (v := .int 0) (C := RX1) (T := TX1) (N := 17) hx hb hts hinM hown hK hP 0 rfl rfl 0 (by decide) (hts (.fieldLink RX1 41 "TidegateBourseModel" "thrown" "I") (by decide +kernel)) (fun _ h9 => h9) rfl dX1_repair_18 ?_
    refine lv_if_le (tgt := 26) hx hb dX1_repair_21 (by decide) (fun _ => ?_) (fun h9 => absurd (by decide) h9)
    refine lv_aload_n hx hb dX1_repair_26 rfl (lv_at hl 0 rfl) ?_
    refine va_get (D := dG) (ci := 1) (v := .ref (B 4)) (C := RX1) (T := TX1) (N := 17) hx hb hts hinM hown hK hP 0 rfl rfl 7 (by decide) (hts (.fieldLink RX1 19 "TidegateBourseModel" "wears" "[I") (by decide +kernel)) (fun _ h9 => h9) rfl dX1_repair_27 ?_
    refine lv_iload_n hx hb dX1_repair_30 rfl (lv_at hl 1 rfl) ?_
    refine va_iald hx hb hK hP 4 0 rfl rfl (vp_pred g1 htb.1 htb.2) dX1_repair_31 ?_
    refine lv_istore_n (lv' := [(2, .int (V k.toNatClampNeg)), (0, .ref (B 0)), (1, .int k)]) hx hb dX1_repair_32 rfl hl (by decide) rfl (fun ls hl => ?_)
    refine lv_aload_n hx hb dX1_repair_33 rfl (lv_at hl 1 rfl) ?_
    refine va_get (D := dG) (ci := 1) (v := .ref (B 4)) (C := RX1) (T := TX1) (N := 17) hx hb hts hinM hown hK hP 0 rfl rfl 7 (by decide) (hts (.fieldLink RX1 19 "TidegateBourseModel" "wears" "[I") (by decide +kernel)) (fun _ h9 => h9) rfl dX1_repair_34 ?_
    refine lv_iload_n hx hb dX1_repair_37 rfl (lv_at hl 2 rfl) ?_
    refine lv_iconst (v := 0) hx hb dX1_repair_38 (by decide) ?_
    refine va_iast hx hb hK hP hD hS 4 0 rfl rfl (vp_pred g1 htb.1 htb.2) dX1_repair_39 (fun H locs hP hD hS => ?_)
    have hP : va_P dG vwCl (mW B cA L P G (upd V k.toNatClampNeg 0) R S Y O D 0 nw wd tb ft fl cl mo) H := hP
    have hD : va_D F (mW B cA L P G (upd V k.toNatClampNeg 0) R S Y O D 0 nw wd tb ft fl cl mo) := hD
    refine lv_aload_n hx hb dX1_repair_40 rfl (lv_at hl 1 rfl) ?_
    refine va_get (D := dG) (ci := 1) (v := .ref (B 5)) (C := RX1) (T := TX1) (N := 17) hx hb hts hinM hown hK hP 0 rfl rfl 8 (by decide) (hts (.fieldLink RX1 22 "TidegateBourseModel" "repairs" "[I") (by decide +kernel)) (fun _ h9 => h9) rfl dX1_repair_41 ?_
    refine lv_iload_n hx hb dX1_repair_44 rfl (lv_at hl 2 rfl) ?_
    refine lv_iconst (v := 5) hx hb dX1_repair_45 (by decide) ?_
    refine va_iast hx hb hK hP hD hS 5 0 rfl rfl (vp_pred g1 htb.1 htb.2) dX1_repair_46 (fun H locs hP hD hS => ?_)
    have hP : va_P dG vwCl (mW B cA L P G (upd V k.toNatClampNeg 0) (upd R k.toNatClampNeg 5) S Y O D 0 nw wd tb ft fl cl mo) H := hP
    have hD : va_D F (mW B cA L P G (upd V k.toNatClampNeg 0) (upd R k.toNatClampNeg 5) S Y O D 0 nw wd tb ft fl cl mo) := hD
    refine lv_iload_n hx hb dX1_repair_47 rfl (lv_at hl 0 rfl) ?_
    exact W.iret hx hb hr (fun t ht hW => ⟨⟨_, (L, P, G, (upd V k.toNatClampNeg 0), (upd R k.toNatClampNeg 5), S, Y, O, D, 0, nw, wd, tb, ft, fl, cl, mo), rfl, ⟨fun _ => ⟨rfl, rfl⟩, fun h9 => absurd (by unfold kRep; rw [if_neg g1]) h9⟩, by rw [ht]; exact hP, va_K.moved hW.alike hK, hD⟩, hS.F ht⟩) hS.2.2 dX1_repair_48
set_option maxHeartbeats 4000000 in
set_option maxRecDepth 100000 in
theorem c_X1_run (l : Launch) (dG : va_G) (B : Nat → Nat) (cA : ClassId) (Hp : Heap) (L P G V R S Y O D : Nat → Int32) (th nw wd tb ft fl cl : Int32) (mo : UInt32) (f : Int32) : Met l yX1_run wsX1_run ({ frames := 4, cells := 0, slots := 0, locals := 100 }) (va_Pc [.ref (B 0), .int f] (fun U => wPre dG (tyI cA) (mW B cA L P G V R S Y O D th nw wd tb ft fl cl mo) Hp U)) (va_Qi (fun (r : Int32) (u : MS) => (kFish f = 0 → r = (if f ≤ fl then 0 else 1) ∧ u = (L, P, G, V, R, S, Y, O, D, 0, nw, wd, tb, f, fl, cl, mo)) ∧ (¬ kFish f = 0 → r = 0 ∧ u = (L, P, G, V, R, S, Y, O, D, kFish f, nw, wd, tb, ft, fl, cl, mo))) (fun u t => wAt dG (tyI cA) (va_A (mW B cA L P G V R S Y O D th nw wd tb ft fl cl mo) Hp.size) (mU B cA u) t) (va_A (mW B cA L P G V R S Y O D th nw wd tb ft fl cl mo) Hp.size)) 0 0 (va_A (mW B cA L P G V R S Y O D th nw wd tb ft fl cl mo) Hp.size) := by
  refine Met.ofW (cc := cX1_run) (maxL := 2) (ret := some .boolean) (by decide) rfl ?_
  intro p e s m args below meth c s₁ Bd hml hv
  obtain ⟨rfl, hH, hP, hK, hD0⟩ := hv
  subst hH
  have hK : va_K dG vwCl (tyI cA) s := hK
  have hx := Bd.exec
  have hb := Bd.bytes
  have hr := Bd.returns
  have hts := atoms_spec (ws := wsX1_run) Bd.pre
  have hown : s.vm.findClass RX1 = some m.cls := findClass_of_methodNamed Bd.named
  have hlocks := Bd.notSynchronized
  have hinM : ∀ w ∈ wsX10, w ∈ wsX1_run := by decide +kernel
  have hD := hD0.self (sz := s.heap.size)
  generalize hAe : va_A (mW B cA L P G V R S Y O D th nw wd tb ft fl cl mo) s.heap.size = F at hD ⊢
  have hA : ∀ q : Nat, s.heap.size ≤ q → F q := fun q h => by rw [← hAe]; exact Or.inr h
  have hS : va_S F s.heap s.heap [] := va_S.rf
  have hP : va_P dG vwCl (mW B cA L P G V R S Y O D th nw wd tb ft fl cl mo) s.heap := hP
  have hl := lv_entry ([.ref (B 0), .int f]) (n := 2) (Nat.le_of_ble_eq_true rfl)
  rw [lg_entry_eq]
  generalize (lg_sl ([.ref (B 0), .int f]) ++ List.replicate (2 - (lg_sl ([.ref (B 0), .int f])).length) Slot.unset).toArray = ls at hl ⊢
  have hl : lv_has ls 2 [(0, .ref (B 0)), (1, .int f)] := hl
  refine lv_aload_n hx hb dX1_run_0 rfl (lv_at hl 0 rfl) ?_
  refine lv_iload_n hx hb dX1_run_1 rfl (lv_at hl 1 rfl) ?_
  refine lv_iconst (v := 0) hx hb dX1_run_2 (by decide) ?_
  refine lv_sipush (v := 1000) hx hb dX1_run_3 (by decide) ?_
  refine va_calli (va_runS (As := [.int f, .int 0, .int 1000]) (rest := [.ref (B 0)]) ⟨hx, hb, hml, hown, hts⟩ (c_X1_isIn l s.heap f 0 1000) (va_cwS 3 hts gX1_run_X1_isIn rfl rfl rfl (by decide +kernel) ⟨Nat.le_of_ble_eq_true rfl, Nat.le_of_ble_eq_true rfl⟩) ⟨fun a U g mk q => q, fun U hU hW => ⟨rfl, hU⟩⟩ rfl rfl hl.1 rfl (lv_room (Nat.le_of_ble_eq_true rfl)) dX1_run_6 ⟨Nat.le_of_ble_eq_true rfl, Nat.le_of_ble_eq_true rfl⟩) hS (fun q _ h => h.elim) (fun q h => h.elim) (fun r1 u1 t H1 locs ht hvm hw hB hz1 hk1 hS => ?_)
  have e9 := hB.symm.trans ht
  subst e9
  by_cases g1 : oI f 0 1000
  · have hw := hw.trans (fIsIn_pos g1)
    subst hw
    refine lv_if_eq (tgt := 16) hx hb dX1_run_9 (by decide) (fun _ => ?_) (fun h9 => absurd (by decide) h9)
    refine lv_iconst (v := 1) hx hb dX1_run_16 (by decide) ?_
    refine va_put (D := dG) (ci := 1) (v := .int 1) (ty := .int) (C := RX1) (T := TX1) (N := 17) hx hb hts hinM tyX1 tyX1_ok nmX1 hown hK hP hD hS 0 rfl rfl 0 (by decide) (hts (.fieldLink RX1 41 "TidegateBourseModel" "thrown" "I") (by decide +kernel)) (fun _ h9 => h9) rfl (by decide +kernel) rfl rfl (Nat.le_of_ble_eq_true rfl) dX1_run_17 (fun H locs hP hD hS => ?_)
    have hP : va_P dG vwCl (mW B cA L P G V R S Y O D 1 nw wd tb ft fl cl mo) H := hP
    have hD : va_D F (mW B cA L P G V R S Y O D 1 nw wd tb ft fl cl mo) := hD
    refine lv_aload_n hx hb dX1_run_20 rfl (lv_at hl 0 rfl) ?_
    refine va_get (D := dG) (ci := 1) (v := .int 1) (C := RX1) (T := TX1) (N := 17) hx hb hts hinM hown hK hP 0 rfl rfl 0 (by decide) (hts (.fieldLink RX1 41 "TidegateBourseModel" "thrown" "I") (by decide +kernel)) (fun _ h9 => h9) rfl dX1_run_21 ?_
    refine lv_if_le (tgt := 29) hx hb dX1_run_24 (by decide) (fun h9 => absurd h9 (by decide)) (fun _ => ?_)
    refine lv_iconst (v := 0) hx hb dX1_run_27 (by decide) ?_
    exact W.zret hx hb hr rfl (fun t ht hW => ⟨⟨_, (L, P, G, V, R, S, Y, O, D, 1, nw, wd, tb, ft, fl, cl, mo), rfl, ⟨fun h9 => absurd (h9.symm.trans (by unfold kFish; rw [if_pos g1])) (by decide), fun _ => ⟨rfl, congrArg (fun z => (L, P, G, V, R, S, Y, O, D, z, nw, wd, tb, ft, fl, cl, mo)) (Eq.symm (by unfold kFish; rw [if_pos g1]))⟩⟩, by rw [ht]; exact hP, va_K.moved hW.alike hK, hD⟩, hS.F ht⟩) hS.2.2 dX1_run_28
  · have hw := hw.trans (fIsIn_neg g1)
    subst hw
    refine lv_if_eq (tgt := 16) hx hb dX1_run_9 (by decide) (fun h9 => absurd h9 (by decide)) (fun _ => ?_)
    refine lv_iconst (v := 0) hx hb dX1_run_12 (by decide) ?_
    refine lv_goto (tgt := 17) hx hb dX1_run_13 (by decide) ?_
    refine va_put (D := dG) (ci := 1) (v := .int 0) (ty := .int) (C := RX1) (T := TX1) (N := 17) hx hb hts hinM tyX1 tyX1_ok nmX1 hown hK hP hD hS 0 rfl rfl 0 (by decide) (hts (.fieldLink RX1 41 "TidegateBourseModel" "thrown" "I") (by decide +kernel)) (fun _ h9 => h9) rfl (by decide +kernel) rfl rfl (Nat.le_of_ble_eq_true rfl) dX1_run_17 (fun H locs hP hD hS => ?_)
    have hP : va_P dG vwCl (mW B cA L P G V R S Y O D 0 nw wd tb ft fl cl mo) H := hP
    have hD : va_D F (mW B cA L P G V R S Y O D 0 nw wd tb ft fl cl mo) := hD
    refine lv_aload_n hx hb dX1_run_20 rfl (lv_at hl 0 rfl) ?_
    refine va_get (D := dG) (ci := 1) (v := .int 0) (C := RX1) (T := TX1) (N := 17) hx hb hts hinM hown hK hP 0 rfl rfl 0 (by decide) (hts (.fieldLink RX1 41 "TidegateBourseModel" "thrown" "I") (by decide +kernel)) (fun _ h9 => h9) rfl dX1_run_21 ?_
    refine lv_if_le (tgt := 29) hx hb dX1_run_24 (by decide) (fun _ => ?_) (fun h9 => absurd (by decide) h9)
    refine lv_aload_n hx hb dX1_run_29 rfl (lv_at hl 0 rfl) ?_
    refine lv_iload_n hx hb dX1_run_30 rfl (lv_at hl 1 rfl) ?_
    refine va_put (D := dG) (ci := 1) (v := .int f) (ty := .int) (C := RX1) (T := TX1) (N := 17) hx hb hts hinM tyX1 tyX1_ok nmX1 hown hK hP hD hS 0 rfl rfl 9 (by decide) (hts (.fieldLink RX1 58 "TidegateBourseModel" "fish" "I") (by decide +kernel)) (fun _ h9 => h9) rfl (by decide +kernel) rfl rfl (Nat.le_of_ble_eq_true rfl) dX1_run_31 (fun H locs hP hD hS => ?_)
    have hP : va_P dG vwCl (mW B cA L P G V R S Y O D 0 nw wd tb f fl cl mo) H := hP
    have hD : va_D F (mW B cA L P G V R S Y O D 0 nw wd tb f fl cl mo) := hD
    refine lv_aload_n hx hb dX1_run_34 rfl (lv_at hl 0 rfl) ?_
    refine va_get (D := dG) (ci := 1) (v := .int f) (C := RX1) (T := TX1) (N := 17) hx hb hts hinM hown hK hP 0 rfl rfl 9 (by decide) (hts (.fieldLink RX1 58 "TidegateBourseModel" "fish" "I") (by decide +kernel)) (fun _ h9 => h9) rfl dX1_run_35 ?_
    refine lv_aload_n hx hb dX1_run_38 rfl (lv_at hl 0 rfl) ?_
    refine va_get (D := dG) (ci := 1) (v := .int fl) (C := RX1) (T := TX1) (N := 17) hx hb hts hinM hown hK hP 0 rfl rfl 10 (by decide) (hts (.fieldLink RX1 25 "TidegateBourseModel" "limit" "I") (by decide +kernel)) (fun _ h9 => h9) rfl dX1_run_39 ?_
    refine lv_icmp_le (tgt := 49) hx hb dX1_run_42 (by decide) (fun cq2 => ?_) (fun cq2 => ?_)
    · refine lv_iconst (v := 0) hx hb dX1_run_49 (by decide) ?_
      exact W.zret hx hb hr rfl (fun t ht hW => ⟨⟨_, (L, P, G, V, R, S, Y, O, D, 0, nw, wd, tb, f, fl, cl, mo), rfl, ⟨fun _ => ⟨(by rw [if_pos cq2]), rfl⟩, fun h9 => absurd (by unfold kFish; rw [if_neg g1]) h9⟩, by rw [ht]; exact hP, va_K.moved hW.alike hK, hD⟩, hS.F ht⟩) hS.2.2 dX1_run_50
    · refine lv_iconst (v := 1) hx hb dX1_run_45 (by decide) ?_
      refine lv_goto (tgt := 50) hx hb dX1_run_46 (by decide) ?_
      exact W.zret hx hb hr rfl (fun t ht hW => ⟨⟨_, (L, P, G, V, R, S, Y, O, D, 0, nw, wd, tb, f, fl, cl, mo), rfl, ⟨fun _ => ⟨(by rw [if_neg cq2]), rfl⟩, fun h9 => absurd (by unfold kFish; rw [if_neg g1]) h9⟩, by rw [ht]; exact hP, va_K.moved hW.alike hK, hD⟩, hS.F ht⟩) hS.2.2 dX1_run_50
set_option maxHeartbeats 4000000 in
set_option maxRecDepth 100000 in
theorem c_X1_limit (l : Launch) (dG : va_G) (B : Nat → Nat) (cA : ClassId) (Hp : Heap) (L P G V R S Y O D : Nat → Int32) (th nw wd tb ft fl cl : Int32) (mo : UInt32) (f : Int32) : Met l yX1_limit wsX1_limit ({ frames := 4, cells := 0, slots := 0, locals := 100 }) (va_Pc [.ref (B 0), .int f] (fun U => wPre dG (tyI cA) (mW B cA L P G V R S Y O D th nw wd tb ft fl cl mo) Hp U)) (va_Qi (fun (r : Int32) (u : MS) => (kFish f = 0 → r = fl ∧ u = (L, P, G, V, R, S, Y, O, D, 0, nw, wd, tb, ft, f, cl, mo)) ∧ (¬ kFish f = 0 → r = 0 ∧ u = (L, P, G, V, R, S, Y, O, D, kFish f, nw, wd, tb, ft, fl, cl, mo))) (fun u t => wAt dG (tyI cA) (va_A (mW B cA L P G V R S Y O D th nw wd tb ft fl cl mo) Hp.size) (mU B cA u) t) (va_A (mW B cA L P G V R S Y O D th nw wd tb ft fl cl mo) Hp.size)) 0 0 (va_A (mW B cA L P G V R S Y O D th nw wd tb ft fl cl mo) Hp.size) := by
  refine Met.ofW (cc := cX1_limit) (maxL := 3) (ret := some .int) (by decide) rfl ?_
  intro p e s m args below meth c s₁ Bd hml hv
  obtain ⟨rfl, hH, hP, hK, hD0⟩ := hv
  subst hH
  have hK : va_K dG vwCl (tyI cA) s := hK
  have hx := Bd.exec
  have hb := Bd.bytes
  have hr := Bd.returns
  have hts := atoms_spec (ws := wsX1_limit) Bd.pre
  have hown : s.vm.findClass RX1 = some m.cls := findClass_of_methodNamed Bd.named
  have hlocks := Bd.notSynchronized
  have hinM : ∀ w ∈ wsX10, w ∈ wsX1_limit := by decide +kernel
  have hD := hD0.self (sz := s.heap.size)
  generalize hAe : va_A (mW B cA L P G V R S Y O D th nw wd tb ft fl cl mo) s.heap.size = F at hD ⊢
  have hA : ∀ q : Nat, s.heap.size ≤ q → F q := fun q h => by rw [← hAe]; exact Or.inr h
  have hS : va_S F s.heap s.heap [] := va_S.rf
  have hP : va_P dG vwCl (mW B cA L P G V R S Y O D th nw wd tb ft fl cl mo) s.heap := hP
  have hl := lv_entry ([.ref (B 0), .int f]) (n := 3) (Nat.le_of_ble_eq_true rfl)
  rw [lg_entry_eq]
  generalize (lg_sl ([.ref (B 0), .int f]) ++ List.replicate (3 - (lg_sl ([.ref (B 0), .int f])).length) Slot.unset).toArray = ls at hl ⊢
  have hl : lv_has ls 3 [(0, .ref (B 0)), (1, .int f)] := hl
  refine lv_aload_n hx hb dX1_limit_0 rfl (lv_at hl 0 rfl) ?_
  refine lv_iload_n hx hb dX1_limit_1 rfl (lv_at hl 1 rfl) ?_
  refine lv_iconst (v := 0) hx hb dX1_limit_2 (by decide) ?_
  refine lv_sipush (v := 1000) hx hb dX1_limit_3 (by decide) ?_
  refine va_calli (va_runS (As := [.int f, .int 0, .int 1000]) (rest := [.ref (B 0)]) ⟨hx, hb, hml, hown, hts⟩ (c_X1_isIn l s.heap f 0 1000) (va_cwS 3 hts gX1_limit_X1_isIn rfl rfl rfl (by decide +kernel) ⟨Nat.le_of_ble_eq_true rfl, Nat.le_of_ble_eq_true rfl⟩) ⟨fun a U g mk q => q, fun U hU hW => ⟨rfl, hU⟩⟩ rfl rfl hl.1 rfl (lv_room (Nat.le_of_ble_eq_true rfl)) dX1_limit_6 ⟨Nat.le_of_ble_eq_true rfl, Nat.le_of_ble_eq_true rfl⟩) hS (fun q _ h => h.elim) (fun q h => h.elim) (fun r1 u1 t H1 locs ht hvm hw hB hz1 hk1 hS => ?_)
  have e9 := hB.symm.trans ht
  subst e9
  by_cases g1 : oI f 0 1000
  · have hw := hw.trans (fIsIn_pos g1)
    subst hw
    refine lv_if_eq (tgt := 16) hx hb dX1_limit_9 (by decide) (fun _ => ?_) (fun h9 => absurd (by decide) h9)
    refine lv_iconst (v := 1) hx hb dX1_limit_16 (by decide) ?_
    refine va_put (D := dG) (ci := 1) (v := .int 1) (ty := .int) (C := RX1) (T := TX1) (N := 17) hx hb hts hinM tyX1 tyX1_ok nmX1 hown hK hP hD hS 0 rfl rfl 0 (by decide) (hts (.fieldLink RX1 41 "TidegateBourseModel" "thrown" "I") (by decide +kernel)) (fun _ h9 => h9) rfl (by decide +kernel) rfl rfl (Nat.le_of_ble_eq_true rfl) dX1_limit_17 (fun H locs hP hD hS => ?_)
    have hP : va_P dG vwCl (mW B cA L P G V R S Y O D 1 nw wd tb ft fl cl mo) H := hP
    have hD : va_D F (mW B cA L P G V R S Y O D 1 nw wd tb ft fl cl mo) := hD
    refine lv_aload_n hx hb dX1_limit_20 rfl (lv_at hl 0 rfl) ?_
    refine va_get (D := dG) (ci := 1) (v := .int 1) (C := RX1) (T := TX1) (N := 17) hx hb hts hinM hown hK hP 0 rfl rfl 0 (by decide) (hts (.fieldLink RX1 41 "TidegateBourseModel" "thrown" "I") (by decide +kernel)) (fun _ h9 => h9) rfl dX1_limit_21 ?_
    refine lv_if_le (tgt := 29) hx hb dX1_limit_24 (by decide) (fun h9 => absurd h9 (by decide)) (fun _ => ?_)
    refine lv_iconst (v := 0) hx hb dX1_limit_27 (by decide) ?_
    exact W.iret hx hb hr (fun t ht hW => ⟨⟨_, (L, P, G, V, R, S, Y, O, D, 1, nw, wd, tb, ft, fl, cl, mo), rfl, ⟨fun h9 => absurd (h9.symm.trans (by unfold kFish; rw [if_pos g1])) (by decide), fun _ => ⟨rfl, congrArg (fun z => (L, P, G, V, R, S, Y, O, D, z, nw, wd, tb, ft, fl, cl, mo)) (Eq.symm (by unfold kFish; rw [if_pos g1]))⟩⟩, by rw [ht]; exact hP, va_K.moved hW.alike hK, hD⟩, hS.F ht⟩) hS.2.2 dX1_limit_28
  · have hw := hw.trans (fIsIn_neg g1)
    subst hw
    refine lv_if_eq (tgt := 16) hx hb dX1_limit_9 (by decide) (fun h9 => absurd h9 (by decide)) (fun _ => ?_)
    refine lv_iconst (v := 0) hx hb dX1_limit_12 (by decide) ?_
    refine lv_goto (tgt := 17) hx hb dX1_limit_13 (by decide) ?_
    refine va_put (D := dG) (ci := 1) (v := .int 0) (ty := .int) (C := RX1) (T := TX1) (N := 17) hx hb hts hinM tyX1 tyX1_ok nmX1 hown hK hP hD hS 0 rfl rfl 0 (by decide) (hts (.fieldLink RX1 41 "TidegateBourseModel" "thrown" "I") (by decide +kernel)) (fun _ h9 => h9) rfl (by decide +kernel) rfl rfl (Nat.le_of_ble_eq_true rfl) dX1_limit_17 (fun H locs hP hD hS => ?_)
    have hP : va_P dG vwCl (mW B cA L P G V R S Y O D 0 nw wd tb ft fl cl mo) H := hP
    have hD : va_D F (mW B cA L P G V R S Y O D 0 nw wd tb ft fl cl mo) := hD
    refine lv_aload_n hx hb dX1_limit_20 rfl (lv_at hl 0 rfl) ?_
    refine va_get (D := dG) (ci := 1) (v := .int 0) (C := RX1) (T := TX1) (N := 17) hx hb hts hinM hown hK hP 0 rfl rfl 0 (by decide) (hts (.fieldLink RX1 41 "TidegateBourseModel" "thrown" "I") (by decide +kernel)) (fun _ h9 => h9) rfl dX1_limit_21 ?_
    refine lv_if_le (tgt := 29) hx hb dX1_limit_24 (by decide) (fun _ => ?_) (fun h9 => absurd (by decide) h9)
    refine lv_aload_n hx hb dX1_limit_29 rfl (lv_at hl 0 rfl) ?_
    refine va_get (D := dG) (ci := 1) (v := .int fl) (C := RX1) (T := TX1) (N := 17) hx hb hts hinM hown hK hP 0 rfl rfl 10 (by decide) (hts (.fieldLink RX1 25 "TidegateBourseModel" "limit" "I") (by decide +kernel)) (fun _ h9 => h9) rfl dX1_limit_30 ?_
    refine lv_istore_n (lv' := [(2, .int fl), (0, .ref (B 0)), (1, .int f)]) hx hb dX1_limit_33 rfl hl (by decide) rfl (fun ls hl => ?_)
    refine lv_aload_n hx hb dX1_limit_34 rfl (lv_at hl 1 rfl) ?_
    refine lv_iload_n hx hb dX1_limit_35 rfl (lv_at hl 2 rfl) ?_
    refine va_put (D := dG) (ci := 1) (v := .int f) (ty := .int) (C := RX1) (T := TX1) (N := 17) hx hb hts hinM tyX1 tyX1_ok nmX1 hown hK hP hD hS 0 rfl rfl 10 (by decide) (hts (.fieldLink RX1 25 "TidegateBourseModel" "limit" "I") (by decide +kernel)) (fun _ h9 => h9) rfl (by decide +kernel) rfl rfl (Nat.le_of_ble_eq_true rfl) dX1_limit_36 (fun H locs hP hD hS => ?_)
    have hP : va_P dG vwCl (mW B cA L P G V R S Y O D 0 nw wd tb ft f cl mo) H := hP
    have hD : va_D F (mW B cA L P G V R S Y O D 0 nw wd tb ft f cl mo) := hD
    refine lv_iload_n hx hb dX1_limit_39 rfl (lv_at hl 0 rfl) ?_
    exact W.iret hx hb hr (fun t ht hW => ⟨⟨_, (L, P, G, V, R, S, Y, O, D, 0, nw, wd, tb, ft, f, cl, mo), rfl, ⟨fun _ => ⟨rfl, rfl⟩, fun h9 => absurd (by unfold kFish; rw [if_neg g1]) h9⟩, by rw [ht]; exact hP, va_K.moved hW.alike hK, hD⟩, hS.F ht⟩) hS.2.2 dX1_limit_40
