set_option maxHeartbeats 4000000 in
set_option maxRecDepth 100000 in
theorem c_X0_tide (l : Launch) (dG : va_G) (a A : Nat → Nat) (cA : ClassId) (Hp : Heap) (L P G V R N Y S : Nat → Int32) (wd tb ft fl ce nh : Int32) (mo : UInt32) (h : Int32) (v : Int32) (q1 : ¬ oI h 0 23) (q2 : ¬ oI v (-100) 100) : Met l yX0_tide wsX0_tide ({ frames := 4, cells := 0, slots := 0, locals := 100 }) (va_Pc [.ref (A 0), .int h, .int v] (fun U => wPre dG (tyI cA) (xW A cA L P G V R N Y S wd tb ft fl ce nh mo) Hp U)) (va_Qi (fun (r : Int32) (u : XS) => r = L (h.toNatClampNeg) ∧ u = ((upd L h.toNatClampNeg v), P, G, V, R, N, Y, S, wd, tb, ft, fl, ce, nh, mo)) (fun u t => wAt dG (tyI cA) (va_A (xW A cA L P G V R N Y S wd tb ft fl ce nh mo) Hp.size) (xU A cA u) t) (va_A (xW A cA L P G V R N Y S wd tb ft fl ce nh mo) Hp.size)) 0 0 (va_A (xW A cA L P G V R N Y S wd tb ft fl ce nh mo) Hp.size) := by
  refine Met.ofW (cc := cX0_tide) (maxL := 4) (ret := some .int) (by decide) rfl ?_
  intro p e s m args below meth c s₁ B hml hv
  obtain ⟨rfl, hH, hP, hK, hD0⟩ := hv
  subst hH
  have hK : va_K dG vwCl (tyI cA) s := hK
  have hx := B.exec
  have hb := B.bytes
  have hr := B.returns
  have hts := atoms_spec (ws := wsX0_tide) B.pre
  have hown : s.vm.findClass RX0 = some m.cls := findClass_of_methodNamed B.named
  have hlocks := B.notSynchronized
  have hinX : ∀ w ∈ wsX00, w ∈ wsX0_tide := by decide +kernel
  have hD := hD0.self (sz := s.heap.size)
  generalize hAe : va_A (xW A cA L P G V R N Y S wd tb ft fl ce nh mo) s.heap.size = F at hD ⊢
  have hA : ∀ q : Nat, s.heap.size ≤ q → F q := fun q h => by rw [← hAe]; exact Or.inr h
  have hS : va_S F s.heap s.heap [] := va_S.rf
  have hP : va_P dG vwCl (xW A cA L P G V R N Y S wd tb ft fl ce nh mo) s.heap := hP
  have hl := lv_entry ([.ref (A 0), .int h, .int v]) (n := 4) (Nat.le_of_ble_eq_true rfl)
  rw [lg_entry_eq]
  generalize (lg_sl ([.ref (A 0), .int h, .int v]) ++ List.replicate (4 - (lg_sl ([.ref (A 0), .int h, .int v])).length) Slot.unset).toArray = ls at hl ⊢
  have hl : lv_has ls 4 [(0, .ref (A 0)), (1, .int h), (2, .int v)] := hl
  refine lv_iload_n hx hb dX0_tide_0 rfl (lv_at hl 1 rfl) ?_
  refine lv_iconst (v := 0) hx hb dX0_tide_1 (by decide) ?_
  refine lv_bipush (v := 23) hx hb dX0_tide_2 (by decide) ?_
  refine va_callv (va_runS (As := [.int h, .int 0, .int 23]) (rest := []) ⟨hx, hb, hml, hown, hts⟩ (c_requireIndex_ok l s.heap h 0 23 q1) (va_cwS 3 hts gX0_tide_X0_requireIndex rfl rfl rfl (by decide +kernel) ⟨Nat.le_of_ble_eq_true rfl, Nat.le_of_ble_eq_true rfl⟩) ⟨fun a U g mk q => q, fun U hU hW => ⟨rfl, hU⟩⟩ rfl rfl hl.1 rfl (lv_room (Nat.le_of_ble_eq_true rfl)) dX0_tide_4 ⟨Nat.le_of_ble_eq_true rfl, Nat.le_of_ble_eq_true rfl⟩) hS (fun q _ h => h.elim) (fun q h => h.elim) (fun u1 t H1 locs ht hvm hw hB hz1 hk1 hS => ?_)
  have e9 := hB.symm.trans ht
  subst e9
  refine lv_iload_n hx hb dX0_tide_7 rfl (lv_at hl 2 rfl) ?_
  refine lv_bipush (v := (-100)) hx hb dX0_tide_8 (by decide) ?_
  refine lv_bipush (v := 100) hx hb dX0_tide_10 (by decide) ?_
  refine va_callv (va_runS (As := [.int v, .int (-100), .int 100]) (rest := []) ⟨hx, hb, hml, hown, hts⟩ (c_requireRange_ok l s.heap v (-100) 100 q2) (va_cwS 3 hts gX0_tide_X0_requireRange rfl rfl rfl (by decide +kernel) ⟨Nat.le_of_ble_eq_true rfl, Nat.le_of_ble_eq_true rfl⟩) ⟨fun a U g mk q => q, fun U hU hW => ⟨rfl, hU⟩⟩ rfl rfl hl.1 rfl (lv_room (Nat.le_of_ble_eq_true rfl)) dX0_tide_12 ⟨Nat.le_of_ble_eq_true rfl, Nat.le_of_ble_eq_true rfl⟩) hS (fun q _ h => h.elim) (fun q h => h.elim) (fun u2 t H1 locs ht hvm hw hB hz1 hk1 hS => ?_)
  have e9 := hB.symm.trans ht
  subst e9
  refine lv_aload_n hx hb dX0_tide_15 rfl (lv_at hl 0 rfl) ?_
  refine va_get (D := dG) (ci := 0) (v := .ref (A 1)) (C := RX0) (T := TX0) (N := 15) hx hb hts hinX hown hK hP 0 rfl rfl 0 (by decide) (hts (.fieldLink RX0 9 "TidegateBourse" "levels" "[I") (by decide +kernel)) (fun _ h9 => h9) rfl dX0_tide_16 ?_
  refine lv_iload_n hx hb dX0_tide_19 rfl (lv_at hl 1 rfl) ?_
  refine va_iald hx hb hK hP 1 0 rfl rfl (vp_out q1 (by decide)) dX0_tide_20 ?_
  refine lv_istore_n (lv' := [(3, .int (L h.toNatClampNeg)), (0, .ref (A 0)), (1, .int h), (2, .int v)]) hx hb dX0_tide_21 rfl hl (by decide) rfl (fun ls hl => ?_)
  refine lv_aload_n hx hb dX0_tide_22 rfl (lv_at hl 1 rfl) ?_
  refine va_get (D := dG) (ci := 0) (v := .ref (A 1)) (C := RX0) (T := TX0) (N := 15) hx hb hts hinX hown hK hP 0 rfl rfl 0 (by decide) (hts (.fieldLink RX0 9 "TidegateBourse" "levels" "[I") (by decide +kernel)) (fun _ h9 => h9) rfl dX0_tide_23 ?_
  refine lv_iload_n hx hb dX0_tide_26 rfl (lv_at hl 2 rfl) ?_
  refine lv_iload_n hx hb dX0_tide_27 rfl (lv_at hl 3 rfl) ?_
  refine va_iast hx hb hK hP hD hS 1 0 rfl rfl (vp_out q1 (by decide)) dX0_tide_28 (fun H locs hP hD hS => ?_)
  have hP : va_P dG vwCl (xW A cA (upd L h.toNatClampNeg v) P G V R N Y S wd tb ft fl ce nh mo) H := hP
  have hD : va_D F (xW A cA (upd L h.toNatClampNeg v) P G V R N Y S wd tb ft fl ce nh mo) := hD
  refine lv_iload_n hx hb dX0_tide_29 rfl (lv_at hl 0 rfl) ?_
  exact W.iret hx hb hr (fun t ht hW => ⟨⟨_, ((upd L h.toNatClampNeg v), P, G, V, R, N, Y, S, wd, tb, ft, fl, ce, nh, mo), rfl, ⟨rfl, rfl⟩, by rw [ht]; exact hP, va_K.moved hW.alike hK, hD⟩, hS.F ht⟩) hS.2.2 dX0_tide_30
set_option maxHeartbeats 4000000 in
set_option maxRecDepth 100000 in
theorem c_X0_price (l : Launch) (dG : va_G) (a A : Nat → Nat) (cA : ClassId) (Hp : Heap) (L P G V R N Y S : Nat → Int32) (wd tb ft fl ce nh : Int32) (mo : UInt32) (h : Int32) (v : Int32) (q1 : ¬ oI h 0 23) (q2 : ¬ oI v 1 200) : Met l yX0_price wsX0_price ({ frames := 4, cells := 0, slots := 0, locals := 100 }) (va_Pc [.ref (A 0), .int h, .int v] (fun U => wPre dG (tyI cA) (xW A cA L P G V R N Y S wd tb ft fl ce nh mo) Hp U)) (va_Qi (fun (r : Int32) (u : XS) => r = P (h.toNatClampNeg) ∧ u = (L, (upd P h.toNatClampNeg v), G, V, R, N, Y, S, wd, tb, ft, fl, ce, nh, mo)) (fun u t => wAt dG (tyI cA) (va_A (xW A cA L P G V R N Y S wd tb ft fl ce nh mo) Hp.size) (xU A cA u) t) (va_A (xW A cA L P G V R N Y S wd tb ft fl ce nh mo) Hp.size)) 0 0 (va_A (xW A cA L P G V R N Y S wd tb ft fl ce nh mo) Hp.size) := by
  refine Met.ofW (cc := cX0_price) (maxL := 4) (ret := some .int) (by decide) rfl ?_
  intro p e s m args below meth c s₁ B hml hv
  obtain ⟨rfl, hH, hP, hK, hD0⟩ := hv
  subst hH
  have hK : va_K dG vwCl (tyI cA) s := hK
  have hx := B.exec
  have hb := B.bytes
  have hr := B.returns
  have hts := atoms_spec (ws := wsX0_price) B.pre
  have hown : s.vm.findClass RX0 = some m.cls := findClass_of_methodNamed B.named
  have hlocks := B.notSynchronized
  have hinX : ∀ w ∈ wsX00, w ∈ wsX0_price := by decide +kernel
  have hD := hD0.self (sz := s.heap.size)
  generalize hAe : va_A (xW A cA L P G V R N Y S wd tb ft fl ce nh mo) s.heap.size = F at hD ⊢
  have hA : ∀ q : Nat, s.heap.size ≤ q → F q := fun q h => by rw [← hAe]; exact Or.inr h
  have hS : va_S F s.heap s.heap [] := va_S.rf
  have hP : va_P dG vwCl (xW A cA L P G V R N Y S wd tb ft fl ce nh mo) s.heap := hP
  have hl := lv_entry ([.ref (A 0), .int h, .int v]) (n := 4) (Nat.le_of_ble_eq_true rfl)
  rw [lg_entry_eq]
  generalize (lg_sl ([.ref (A 0), .int h, .int v]) ++ List.replicate (4 - (lg_sl ([.ref (A 0), .int h, .int v])).length) Slot.unset).toArray = ls at hl ⊢
  have hl : lv_has ls 4 [(0, .ref (A 0)), (1, .int h), (2, .int v)] := hl
  refine lv_iload_n hx hb dX0_price_0 rfl (lv_at hl 1 rfl) ?_
  refine lv_iconst (v := 0) hx hb dX0_price_1 (by decide) ?_
  refine lv_bipush (v := 23) hx hb dX0_price_2 (by decide) ?_
  refine va_callv (va_runS (As := [.int h, .int 0, .int 23]) (rest := []) ⟨hx, hb, hml, hown, hts⟩ (c_requireIndex_ok l s.heap h 0 23 q1) (va_cwS 3 hts gX0_price_X0_requireIndex rfl rfl rfl (by decide +kernel) ⟨Nat.le_of_ble_eq_true rfl, Nat.le_of_ble_eq_true rfl⟩) ⟨fun a U g mk q => q, fun U hU hW => ⟨rfl, hU⟩⟩ rfl rfl hl.1 rfl (lv_room (Nat.le_of_ble_eq_true rfl)) dX0_price_4 ⟨Nat.le_of_ble_eq_true rfl, Nat.le_of_ble_eq_true rfl⟩) hS (fun q _ h => h.elim) (fun q h => h.elim) (fun u1 t H1 locs ht hvm hw hB hz1 hk1 hS => ?_)
  have e9 := hB.symm.trans ht
  subst e9
  refine lv_iload_n hx hb dX0_price_7 rfl (lv_at hl 2 rfl) ?_
  refine lv_iconst (v := 1) hx hb dX0_price_8 (by decide) ?_
  refine lv_sipush (v := 200) hx hb dX0_price_9 (by decide) ?_
  refine va_callv (va_runS (As := [.int v, .int 1, .int 200]) (rest := []) ⟨hx, hb, hml, hown, hts⟩ (c_requireRange_ok l s.heap v 1 200 q2) (va_cwS 3 hts gX0_price_X0_requireRange rfl rfl rfl (by decide +kernel) ⟨Nat.le_of_ble_eq_true rfl, Nat.le_of_ble_eq_true rfl⟩) ⟨fun a U g mk q => q, fun U hU hW => ⟨rfl, hU⟩⟩ rfl rfl hl.1 rfl (lv_room (Nat.le_of_ble_eq_true rfl)) dX0_price_12 ⟨Nat.le_of_ble_eq_true rfl, Nat.le_of_ble_eq_true rfl⟩) hS (fun q _ h => h.elim) (fun q h => h.elim) (fun u2 t H1 locs ht hvm hw hB hz1 hk1 hS => ?_)
  have e9 := hB.symm.trans ht
  subst e9
  refine lv_aload_n hx hb dX0_price_15 rfl (lv_at hl 0 rfl) ?_
  refine va_get (D := dG) (ci := 0) (v := .ref (A 2)) (C := RX0) (T := TX0) (N := 15) hx hb hts hinX hown hK hP 0 rfl rfl 1 (by decide) (hts (.fieldLink RX0 13 "TidegateBourse" "prices" "[I") (by decide +kernel)) (fun _ h9 => h9) rfl dX0_price_16 ?_
  refine lv_iload_n hx hb dX0_price_19 rfl (lv_at hl 1 rfl) ?_
  refine va_iald hx hb hK hP 2 0 rfl rfl (vp_out q1 (by decide)) dX0_price_20 ?_
  refine lv_istore_n (lv' := [(3, .int (P h.toNatClampNeg)), (0, .ref (A 0)), (1, .int h), (2, .int v)]) hx hb dX0_price_21 rfl hl (by decide) rfl (fun ls hl => ?_)
  refine lv_aload_n hx hb dX0_price_22 rfl (lv_at hl 1 rfl) ?_
  refine va_get (D := dG) (ci := 0) (v := .ref (A 2)) (C := RX0) (T := TX0) (N := 15) hx hb hts hinX hown hK hP 0 rfl rfl 1 (by decide) (hts (.fieldLink RX0 13 "TidegateBourse" "prices" "[I") (by decide +kernel)) (fun _ h9 => h9) rfl dX0_price_23 ?_
  refine lv_iload_n hx hb dX0_price_26 rfl (lv_at hl 2 rfl) ?_
  refine lv_iload_n hx hb dX0_price_27 rfl (lv_at hl 3 rfl) ?_
  refine va_iast hx hb hK hP hD hS 2 0 rfl rfl (vp_out q1 (by decide)) dX0_price_28 (fun H locs hP hD hS => ?_)
  have hP : va_P dG vwCl (xW A cA L (upd P h.toNatClampNeg v) G V R N Y S wd tb ft fl ce nh mo) H := hP
  have hD : va_D F (xW A cA L (upd P h.toNatClampNeg v) G V R N Y S wd tb ft fl ce nh mo) := hD
  refine lv_iload_n hx hb dX0_price_29 rfl (lv_at hl 0 rfl) ?_
  exact W.iret hx hb hr (fun t ht hW => ⟨⟨_, (L, (upd P h.toNatClampNeg v), G, V, R, N, Y, S, wd, tb, ft, fl, ce, nh, mo), rfl, ⟨rfl, rfl⟩, by rw [ht]; exact hP, va_K.moved hW.alike hK, hD⟩, hS.F ht⟩) hS.2.2 dX0_price_30
set_option maxHeartbeats 4000000 in
set_option maxRecDepth 100000 in
theorem c_X0_wind (l : Launch) (dG : va_G) (a A : Nat → Nat) (cA : ClassId) (Hp : Heap) (L P G V R N Y S : Nat → Int32) (wd tb ft fl ce nh : Int32) (mo : UInt32) (w : Int32) (q1 : ¬ oI w (-20) 20) : Met l yX0_wind wsX0_wind ({ frames := 4, cells := 0, slots := 0, locals := 100 }) (va_Pc [.ref (A 0), .int w] (fun U => wPre dG (tyI cA) (xW A cA L P G V R N Y S wd tb ft fl ce nh mo) Hp U)) (va_Qi (fun (r : Int32) (u : XS) => r = wd ∧ u = (L, P, G, V, R, N, Y, S, w, tb, ft, fl, ce, nh, mo)) (fun u t => wAt dG (tyI cA) (va_A (xW A cA L P G V R N Y S wd tb ft fl ce nh mo) Hp.size) (xU A cA u) t) (va_A (xW A cA L P G V R N Y S wd tb ft fl ce nh mo) Hp.size)) 0 0 (va_A (xW A cA L P G V R N Y S wd tb ft fl ce nh mo) Hp.size) := by
  refine Met.ofW (cc := cX0_wind) (maxL := 3) (ret := some .int) (by decide) rfl ?_
  intro p e s m args below meth c s₁ B hml hv
  obtain ⟨rfl, hH, hP, hK, hD0⟩ := hv
  subst hH
  have hK : va_K dG vwCl (tyI cA) s := hK
  have hx := B.exec
  have hb := B.bytes
  have hr := B.returns
  have hts := atoms_spec (ws := wsX0_wind) B.pre
  have hown : s.vm.findClass RX0 = some m.cls := findClass_of_methodNamed B.named
  have hlocks := B.notSynchronized
  have hinX : ∀ w ∈ wsX00, w ∈ wsX0_wind := by decide +kernel
  have hD := hD0.self (sz := s.heap.size)
  generalize hAe : va_A (xW A cA L P G V R N Y S wd tb ft fl ce nh mo) s.heap.size = F at hD ⊢
  have hA : ∀ q : Nat, s.heap.size ≤ q → F q := fun q h => by rw [← hAe]; exact Or.inr h
  have hS : va_S F s.heap s.heap [] := va_S.rf
  have hP : va_P dG vwCl (xW A cA L P G V R N Y S wd tb ft fl ce nh mo) s.heap := hP
  have hl := lv_entry ([.ref (A 0), .int w]) (n := 3) (Nat.le_of_ble_eq_true rfl)
  rw [lg_entry_eq]
  generalize (lg_sl ([.ref (A 0), .int w]) ++ List.replicate (3 - (lg_sl ([.ref (A 0), .int w])).length) Slot.unset).toArray = ls at hl ⊢
  have hl : lv_has ls 3 [(0, .ref (A 0)), (1, .int w)] := hl
  refine lv_iload_n hx hb dX0_wind_0 rfl (lv_at hl 1 rfl) ?_
  refine lv_bipush (v := (-20)) hx hb dX0_wind_1 (by decide) ?_
  refine lv_bipush (v := 20) hx hb dX0_wind_3 (by decide) ?_
  refine va_callv (va_runS (As := [.int w, .int (-20), .int 20]) (rest := []) ⟨hx, hb, hml, hown, hts⟩ (c_requireRange_ok l s.heap w (-20) 20 q1) (va_cwS 3 hts gX0_wind_X0_requireRange rfl rfl rfl (by decide +kernel) ⟨Nat.le_of_ble_eq_true rfl, Nat.le_of_ble_eq_true rfl⟩) ⟨fun a U g mk q => q, fun U hU hW => ⟨rfl, hU⟩⟩ rfl rfl hl.1 rfl (lv_room (Nat.le_of_ble_eq_true rfl)) dX0_wind_5 ⟨Nat.le_of_ble_eq_true rfl, Nat.le_of_ble_eq_true rfl⟩) hS (fun q _ h => h.elim) (fun q h => h.elim) (fun u1 t H1 locs ht hvm hw hB hz1 hk1 hS => ?_)
  have e9 := hB.symm.trans ht
  subst e9
  refine lv_aload_n hx hb dX0_wind_8 rfl (lv_at hl 0 rfl) ?_
  refine va_get (D := dG) (ci := 0) (v := .int wd) (C := RX0) (T := TX0) (N := 15) hx hb hts hinX hown hK hP 0 rfl rfl 8 (by decide) (hts (.fieldLink RX0 45 "TidegateBourse" "windNow" "I") (by decide +kernel)) (fun _ h9 => h9) rfl dX0_wind_9 ?_
  refine lv_istore_n (lv' := [(2, .int wd), (0, .ref (A 0)), (1, .int w)]) hx hb dX0_wind_12 rfl hl (by decide) rfl (fun ls hl => ?_)
  refine lv_aload_n hx hb dX0_wind_13 rfl (lv_at hl 1 rfl) ?_
  refine lv_iload_n hx hb dX0_wind_14 rfl (lv_at hl 2 rfl) ?_
  refine va_put (D := dG) (ci := 0) (v := .int w) (ty := .int) (C := RX0) (T := TX0) (N := 15) hx hb hts hinX tyX0 tyX0_ok nmX0 hown hK hP hD hS 0 rfl rfl 8 (by decide) (hts (.fieldLink RX0 45 "TidegateBourse" "windNow" "I") (by decide +kernel)) (fun _ h9 => h9) rfl (by decide +kernel) rfl rfl (Nat.le_of_ble_eq_true rfl) dX0_wind_15 (fun H locs hP hD hS => ?_)
  have hP : va_P dG vwCl (xW A cA L P G V R N Y S w tb ft fl ce nh mo) H := hP
  have hD : va_D F (xW A cA L P G V R N Y S w tb ft fl ce nh mo) := hD
  refine lv_iload_n hx hb dX0_wind_18 rfl (lv_at hl 0 rfl) ?_
  exact W.iret hx hb hr (fun t ht hW => ⟨⟨_, (L, P, G, V, R, N, Y, S, w, tb, ft, fl, ce, nh, mo), rfl, ⟨rfl, rfl⟩, by rw [ht]; exact hP, va_K.moved hW.alike hK, hD⟩, hS.F ht⟩) hS.2.2 dX0_wind_19
set_option maxHeartbeats 4000000 in
set_option maxRecDepth 100000 in
theorem c_X0_turbine (l : Launch) (dG : va_G) (a A : Nat → Nat) (cA : ClassId) (Hp : Heap) (L P G V R N Y S : Nat → Int32) (wd tb ft fl ce nh : Int32) (mo : UInt32)  (hk : tb < 4) : Met l yX0_turbine wsX0_turbine ({ frames := 4, cells := 0, slots := 0, locals := 100 }) (va_Pc [.ref (A 0)] (fun U => wPre dG (tyI cA) (xW A cA L P G V R N Y S wd tb ft fl ce nh mo) Hp U)) (va_Qi (fun (r : Int32) (u : XS) => r = tb + 1 - 1 ∧ u = (L, P, G, V, R, N, Y, S, wd, (tb + 1), ft, fl, ce, nh, mo)) (fun u t => wAt dG (tyI cA) (va_A (xW A cA L P G V R N Y S wd tb ft fl ce nh mo) Hp.size) (xU A cA u) t) (va_A (xW A cA L P G V R N Y S wd tb ft fl ce nh mo) Hp.size)) 0 0 (va_A (xW A cA L P G V R N Y S wd tb ft fl ce nh mo) Hp.size) := by
  refine Met.ofW (cc := cX0_turbine) (maxL := 1) (ret := some .int) (by decide) rfl ?_
  intro p e s m args below meth c s₁ B hml hv
  obtain ⟨rfl, hH, hP, hK, hD0⟩ := hv
  subst hH
  have hK : va_K dG vwCl (tyI cA) s := hK
  have hx := B.exec
  have hb := B.bytes
  have hr := B.returns
  have hts := atoms_spec (ws := wsX0_turbine) B.pre
  have hown : s.vm.findClass RX0 = some m.cls := findClass_of_methodNamed B.named
  have hlocks := B.notSynchronized
  have hinX : ∀ w ∈ wsX00, w ∈ wsX0_turbine := by decide +kernel
  have hD := hD0.self (sz := s.heap.size)
  generalize hAe : va_A (xW A cA L P G V R N Y S wd tb ft fl ce nh mo) s.heap.size = F at hD ⊢
  have hA : ∀ q : Nat, s.heap.size ≤ q → F q := fun q h => by rw [← hAe]; exact Or.inr h
  have hS : va_S F s.heap s.heap [] := va_S.rf
  have hP : va_P dG vwCl (xW A cA L P G V R N Y S wd tb ft fl ce nh mo) s.heap := hP
  have hl := lv_entry ([.ref (A 0)]) (n := 1) (Nat.le_of_ble_eq_true rfl)
  rw [lg_entry_eq]
  generalize (lg_sl ([.ref (A 0)]) ++ List.replicate (1 - (lg_sl ([.ref (A 0)])).length) Slot.unset).toArray = ls at hl ⊢
  have hl : lv_has ls 1 [(0, .ref (A 0))] := hl
  refine lv_aload_n hx hb dX0_turbine_0 rfl (lv_at hl 0 rfl) ?_
  refine va_get (D := dG) (ci := 0) (v := .int tb) (C := RX0) (T := TX0) (N := 15) hx hb hts hinX hown hK hP 0 rfl rfl 9 (by decide) (hts (.fieldLink RX0 48 "TidegateBourse" "turbines" "I") (by decide +kernel)) (fun _ h9 => h9) rfl dX0_turbine_1 ?_
  refine lv_iconst (v := 4) hx hb dX0_turbine_4 (by decide) ?_
  refine lv_icmp_lt (tgt := 18) hx hb dX0_turbine_5 (by decide) (fun _ => ?_) (fun h9 => absurd hk h9)
  refine lv_aload_n hx hb dX0_turbine_18 rfl (lv_at hl 0 rfl) ?_
  refine lv_dup hx hb dX0_turbine_19 rfl ?_
  refine va_get (D := dG) (ci := 0) (v := .int tb) (C := RX0) (T := TX0) (N := 15) hx hb hts hinX hown hK hP 0 rfl rfl 9 (by decide) (hts (.fieldLink RX0 48 "TidegateBourse" "turbines" "I") (by decide +kernel)) (fun _ h9 => h9) rfl dX0_turbine_20 ?_
  refine lv_iconst (v := 1) hx hb dX0_turbine_23 (by decide) ?_
  refine lv_iadd hx hb dX0_turbine_24 ?_
  refine va_put (D := dG) (ci := 0) (v := .int (tb + 1)) (ty := .int) (C := RX0) (T := TX0) (N := 15) hx hb hts hinX tyX0 tyX0_ok nmX0 hown hK hP hD hS 0 rfl rfl 9 (by decide) (hts (.fieldLink RX0 48 "TidegateBourse" "turbines" "I") (by decide +kernel)) (fun _ h9 => h9) rfl (by decide +kernel) rfl rfl (Nat.le_of_ble_eq_true rfl) dX0_turbine_25 (fun H locs hP hD hS => ?_)
  have hP : va_P dG vwCl (xW A cA L P G V R N Y S wd (tb + 1) ft fl ce nh mo) H := hP
  have hD : va_D F (xW A cA L P G V R N Y S wd (tb + 1) ft fl ce nh mo) := hD
  refine lv_aload_n hx hb dX0_turbine_28 rfl (lv_at hl 0 rfl) ?_
  refine va_get (D := dG) (ci := 0) (v := .int (tb + 1)) (C := RX0) (T := TX0) (N := 15) hx hb hts hinX hown hK hP 0 rfl rfl 9 (by decide) (hts (.fieldLink RX0 48 "TidegateBourse" "turbines" "I") (by decide +kernel)) (fun _ h9 => h9) rfl dX0_turbine_29 ?_
  refine lv_iconst (v := 1) hx hb dX0_turbine_32 (by decide) ?_
  refine lv_isub hx hb dX0_turbine_33 ?_
  exact W.iret hx hb hr (fun t ht hW => ⟨⟨_, (L, P, G, V, R, N, Y, S, wd, (tb + 1), ft, fl, ce, nh, mo), rfl, ⟨rfl, rfl⟩, by rw [ht]; exact hP, va_K.moved hW.alike hK, hD⟩, hS.F ht⟩) hS.2.2 dX0_turbine_34
set_option maxHeartbeats 4000000 in
set_option maxRecDepth 100000 in
theorem c_X0_gate (l : Launch) (dG : va_G) (a A : Nat → Nat) (cA : ClassId) (Hp : Heap) (L P G V R N Y S : Nat → Int32) (wd tb ft fl ce nh : Int32) (mo : UInt32) (k : Int32) (g : Int32) (htb : 0 ≤ tb.toInt ∧ tb.toInt ≤ 4) (q1 : ¬ oI k 0 (tb - 1)) (q2 : ¬ oI g 0 7) : Met l yX0_gate wsX0_gate ({ frames := 4, cells := 0, slots := 0, locals := 100 }) (va_Pc [.ref (A 0), .int k, .int g] (fun U => wPre dG (tyI cA) (xW A cA L P G V R N Y S wd tb ft fl ce nh mo) Hp U)) (va_Qi (fun (r : Int32) (u : XS) => r = G (k.toNatClampNeg) ∧ u = (L, P, (upd G k.toNatClampNeg g), V, R, N, Y, S, wd, tb, ft, fl, ce, nh, mo)) (fun u t => wAt dG (tyI cA) (va_A (xW A cA L P G V R N Y S wd tb ft fl ce nh mo) Hp.size) (xU A cA u) t) (va_A (xW A cA L P G V R N Y S wd tb ft fl ce nh mo) Hp.size)) 0 0 (va_A (xW A cA L P G V R N Y S wd tb ft fl ce nh mo) Hp.size) := by
  refine Met.ofW (cc := cX0_gate) (maxL := 4) (ret := some .int) (by decide) rfl ?_
  intro p e s m args below meth c s₁ B hml hv
  obtain ⟨rfl, hH, hP, hK, hD0⟩ := hv
  subst hH
  have hK : va_K dG vwCl (tyI cA) s := hK
  have hx := B.exec
  have hb := B.bytes
  have hr := B.returns
  have hts := atoms_spec (ws := wsX0_gate) B.pre
  have hown : s.vm.findClass RX0 = some m.cls := findClass_of_methodNamed B.named
  have hlocks := B.notSynchronized
  have hinX : ∀ w ∈ wsX00, w ∈ wsX0_gate := by decide +kernel
  have hD := hD0.self (sz := s.heap.size)
  generalize hAe : va_A (xW A cA L P G V R N Y S wd tb ft fl ce nh mo) s.heap.size = F at hD ⊢
  have hA : ∀ q : Nat, s.heap.size ≤ q → F q := fun q h => by rw [← hAe]; exact Or.inr h
  have hS : va_S F s.heap s.heap [] := va_S.rf
  have hP : va_P dG vwCl (xW A cA L P G V R N Y S wd tb ft fl ce nh mo) s.heap := hP
  have hl := lv_entry ([.ref (A 0), .int k, .int g]) (n := 4) (Nat.le_of_ble_eq_true rfl)
  rw [lg_entry_eq]
  generalize (lg_sl ([.ref (A 0), .int k, .int g]) ++ List.replicate (4 - (lg_sl ([.ref (A 0), .int k, .int g])).length) Slot.unset).toArray = ls at hl ⊢
  have hl : lv_has ls 4 [(0, .ref (A 0)), (1, .int k), (2, .int g)] := hl
  refine lv_iload_n hx hb dX0_gate_0 rfl (lv_at hl 1 rfl) ?_
  refine lv_iconst (v := 0) hx hb dX0_gate_1 (by decide) ?_
  refine lv_aload_n hx hb dX0_gate_2 rfl (lv_at hl 0 rfl) ?_
  refine va_get (D := dG) (ci := 0) (v := .int tb) (C := RX0) (T := TX0) (N := 15) hx hb hts hinX hown hK hP 0 rfl rfl 9 (by decide) (hts (.fieldLink RX0 48 "TidegateBourse" "turbines" "I") (by decide +kernel)) (fun _ h9 => h9) rfl dX0_gate_3 ?_
  refine lv_iconst (v := 1) hx hb dX0_gate_6 (by decide) ?_
  refine lv_isub hx hb dX0_gate_7 ?_
  refine va_callv (va_runS (As := [.int k, .int 0, .int (tb - 1)]) (rest := []) ⟨hx, hb, hml, hown, hts⟩ (c_requireIndex_ok l s.heap k 0 (tb - 1) q1) (va_cwS 3 hts gX0_gate_X0_requireIndex rfl rfl rfl (by decide +kernel) ⟨Nat.le_of_ble_eq_true rfl, Nat.le_of_ble_eq_true rfl⟩) ⟨fun a U g mk q => q, fun U hU hW => ⟨rfl, hU⟩⟩ rfl rfl hl.1 rfl (lv_room (Nat.le_of_ble_eq_true rfl)) dX0_gate_8 ⟨Nat.le_of_ble_eq_true rfl, Nat.le_of_ble_eq_true rfl⟩) hS (fun q _ h => h.elim) (fun q h => h.elim) (fun u1 t H1 locs ht hvm hw hB hz1 hk1 hS => ?_)
  have e9 := hB.symm.trans ht
  subst e9
  refine lv_iload_n hx hb dX0_gate_11 rfl (lv_at hl 2 rfl) ?_
  refine lv_iconst (v := 0) hx hb dX0_gate_12 (by decide) ?_
  refine lv_bipush (v := 7) hx hb dX0_gate_13 (by decide) ?_
  refine va_callv (va_runS (As := [.int g, .int 0, .int 7]) (rest := []) ⟨hx, hb, hml, hown, hts⟩ (c_requireRange_ok l s.heap g 0 7 q2) (va_cwS 3 hts gX0_gate_X0_requireRange rfl rfl rfl (by decide +kernel) ⟨Nat.le_of_ble_eq_true rfl, Nat.le_of_ble_eq_true rfl⟩) ⟨fun a U g mk q => q, fun U hU hW => ⟨rfl, hU⟩⟩ rfl rfl hl.1 rfl (lv_room (Nat.le_of_ble_eq_true rfl)) dX0_gate_15 ⟨Nat.le_of_ble_eq_true rfl, Nat.le_of_ble_eq_true rfl⟩) hS (fun q _ h => h.elim) (fun q h => h.elim) (fun u2 t H1 locs ht hvm hw hB hz1 hk1 hS => ?_)
  have e9 := hB.symm.trans ht
  subst e9
  refine lv_aload_n hx hb dX0_gate_18 rfl (lv_at hl 0 rfl) ?_
  refine va_get (D := dG) (ci := 0) (v := .ref (A 3)) (C := RX0) (T := TX0) (N := 15) hx hb hts hinX hown hK hP 0 rfl rfl 2 (by decide) (hts (.fieldLink RX0 16 "TidegateBourse" "gates" "[I") (by decide +kernel)) (fun _ h9 => h9) rfl dX0_gate_19 ?_
  refine lv_iload_n hx hb dX0_gate_22 rfl (lv_at hl 1 rfl) ?_
  refine va_iald hx hb hK hP 3 0 rfl rfl (vp_pred q1 htb.1 htb.2) dX0_gate_23 ?_
  refine lv_istore_n (lv' := [(3, .int (G k.toNatClampNeg)), (0, .ref (A 0)), (1, .int k), (2, .int g)]) hx hb dX0_gate_24 rfl hl (by decide) rfl (fun ls hl => ?_)
  refine lv_aload_n hx hb dX0_gate_25 rfl (lv_at hl 1 rfl) ?_
  refine va_get (D := dG) (ci := 0) (v := .ref (A 3)) (C := RX0) (T := TX0) (N := 15) hx hb hts hinX hown hK hP 0 rfl rfl 2 (by decide) (hts (.fieldLink RX0 16 "TidegateBourse" "gates" "[I") (by decide +kernel)) (fun _ h9 => h9) rfl dX0_gate_26 ?_
  refine lv_iload_n hx hb dX0_gate_29 rfl (lv_at hl 2 rfl) ?_
  refine lv_iload_n hx hb dX0_gate_30 rfl (lv_at hl 3 rfl) ?_
  refine va_iast hx hb hK hP hD hS 3 0 rfl rfl (vp_pred q1 htb.1 htb.2) dX0_gate_31 (fun H locs hP hD hS => ?_)
  have hP : va_P dG vwCl (xW A cA L P (upd G k.toNatClampNeg g) V R N Y S wd tb ft fl ce nh mo) H := hP
  have hD : va_D F (xW A cA L P (upd G k.toNatClampNeg g) V R N Y S wd tb ft fl ce nh mo) := hD
  refine lv_iload_n hx hb dX0_gate_32 rfl (lv_at hl 0 rfl) ?_
  exact W.iret hx hb hr (fun t ht hW => ⟨⟨_, (L, P, (upd G k.toNatClampNeg g), V, R, N, Y, S, wd, tb, ft, fl, ce, nh, mo), rfl, ⟨rfl, rfl⟩, by rw [ht]; exact hP, va_K.moved hW.alike hK, hD⟩, hS.F ht⟩) hS.2.2 dX0_gate_33
set_option maxHeartbeats 4000000 in
set_option maxRecDepth 100000 in
theorem c_X0_repair (l : Launch) (dG : va_G) (a A : Nat → Nat) (cA : ClassId) (Hp : Heap) (L P G V R N Y S : Nat → Int32) (wd tb ft fl ce nh : Int32) (mo : UInt32) (k : Int32) (htb : 0 ≤ tb.toInt ∧ tb.toInt ≤ 4) (q1 : ¬ oI k 0 (tb - 1)) : Met l yX0_repair wsX0_repair ({ frames := 4, cells := 0, slots := 0, locals := 100 }) (va_Pc [.ref (A 0), .int k] (fun U => wPre dG (tyI cA) (xW A cA L P G V R N Y S wd tb ft fl ce nh mo) Hp U)) (va_Qi (fun (r : Int32) (u : XS) => r = V (k.toNatClampNeg) ∧ u = (L, P, G, (upd V k.toNatClampNeg 0), (upd R k.toNatClampNeg (nh + 5)), N, Y, S, wd, tb, ft, fl, ce, nh, mo)) (fun u t => wAt dG (tyI cA) (va_A (xW A cA L P G V R N Y S wd tb ft fl ce nh mo) Hp.size) (xU A cA u) t) (va_A (xW A cA L P G V R N Y S wd tb ft fl ce nh mo) Hp.size)) 0 0 (va_A (xW A cA L P G V R N Y S wd tb ft fl ce nh mo) Hp.size) := by
  refine Met.ofW (cc := cX0_repair) (maxL := 3) (ret := some .int) (by decide) rfl ?_
  intro p e s m args below meth c s₁ B hml hv
  obtain ⟨rfl, hH, hP, hK, hD0⟩ := hv
  subst hH
  have hK : va_K dG vwCl (tyI cA) s := hK
  have hx := B.exec
  have hb := B.bytes
  have hr := B.returns
  have hts := atoms_spec (ws := wsX0_repair) B.pre
  have hown : s.vm.findClass RX0 = some m.cls := findClass_of_methodNamed B.named
  have hlocks := B.notSynchronized
  have hinX : ∀ w ∈ wsX00, w ∈ wsX0_repair := by decide +kernel
  have hD := hD0.self (sz := s.heap.size)
  generalize hAe : va_A (xW A cA L P G V R N Y S wd tb ft fl ce nh mo) s.heap.size = F at hD ⊢
  have hA : ∀ q : Nat, s.heap.size ≤ q → F q := fun q h => by rw [← hAe]; exact Or.inr h
  have hS : va_S F s.heap s.heap [] := va_S.rf
  have hP : va_P dG vwCl (xW A cA L P G V R N Y S wd tb ft fl ce nh mo) s.heap := hP
  have hl := lv_entry ([.ref (A 0), .int k]) (n := 3) (Nat.le_of_ble_eq_true rfl)
  rw [lg_entry_eq]
  generalize (lg_sl ([.ref (A 0), .int k]) ++ List.replicate (3 - (lg_sl ([.ref (A 0), .int k])).length) Slot.unset).toArray = ls at hl ⊢
  have hl : lv_has ls 3 [(0, .ref (A 0)), (1, .int k)] := hl
  refine lv_iload_n hx hb dX0_repair_0 rfl (lv_at hl 1 rfl) ?_
  refine lv_iconst (v := 0) hx hb dX0_repair_1 (by decide) ?_
  refine lv_aload_n hx hb dX0_repair_2 rfl (lv_at hl 0 rfl) ?_
  refine va_get (D := dG) (ci := 0) (v := .int tb) (C := RX0) (T := TX0) (N := 15) hx hb hts hinX hown hK hP 0 rfl rfl 9 (by decide) (hts (.fieldLink RX0 48 "TidegateBourse" "turbines" "I") (by decide +kernel)) (fun _ h9 => h9) rfl dX0_repair_3 ?_
  refine lv_iconst (v := 1) hx hb dX0_repair_6 (by decide) ?_
  refine lv_isub hx hb dX0_repair_7 ?_
  refine va_callv (va_runS (As := [.int k, .int 0, .int (tb - 1)]) (rest := []) ⟨hx, hb, hml, hown, hts⟩ (c_requireIndex_ok l s.heap k 0 (tb - 1) q1) (va_cwS 3 hts gX0_repair_X0_requireIndex rfl rfl rfl (by decide +kernel) ⟨Nat.le_of_ble_eq_true rfl, Nat.le_of_ble_eq_true rfl⟩) ⟨fun a U g mk q => q, fun U hU hW => ⟨rfl, hU⟩⟩ rfl rfl hl.1 rfl (lv_room (Nat.le_of_ble_eq_true rfl)) dX0_repair_8 ⟨Nat.le_of_ble_eq_true rfl, Nat.le_of_ble_eq_true rfl⟩) hS (fun q _ h => h.elim) (fun q h => h.elim) (fun u1 t H1 locs ht hvm hw hB hz1 hk1 hS => ?_)
  have e9 := hB.symm.trans ht
  subst e9
  refine lv_aload_n hx hb dX0_repair_11 rfl (lv_at hl 0 rfl) ?_
  refine va_get (D := dG) (ci := 0) (v := .ref (A 4)) (C := RX0) (T := TX0) (N := 15) hx hb hts hinX hown hK hP 0 rfl rfl 3 (by decide) (hts (.fieldLink RX0 19 "TidegateBourse" "wears" "[I") (by decide +kernel)) (fun _ h9 => h9) rfl dX0_repair_12 ?_
  refine lv_iload_n hx hb dX0_repair_15 rfl (lv_at hl 1 rfl) ?_
  refine va_iald hx hb hK hP 4 0 rfl rfl (vp_pred q1 htb.1 htb.2) dX0_repair_16 ?_
  refine lv_istore_n (lv' := [(2, .int (V k.toNatClampNeg)), (0, .ref (A 0)), (1, .int k)]) hx hb dX0_repair_17 rfl hl (by decide) rfl (fun ls hl => ?_)
  refine lv_aload_n hx hb dX0_repair_18 rfl (lv_at hl 1 rfl) ?_
  refine va_get (D := dG) (ci := 0) (v := .ref (A 4)) (C := RX0) (T := TX0) (N := 15) hx hb hts hinX hown hK hP 0 rfl rfl 3 (by decide) (hts (.fieldLink RX0 19 "TidegateBourse" "wears" "[I") (by decide +kernel)) (fun _ h9 => h9) rfl dX0_repair_19 ?_
  refine lv_iload_n hx hb dX0_repair_22 rfl (lv_at hl 2 rfl) ?_
  refine lv_iconst (v := 0) hx hb dX0_repair_23 (by decide) ?_
  refine va_iast hx hb hK hP hD hS 4 0 rfl rfl (vp_pred q1 htb.1 htb.2) dX0_repair_24 (fun H locs hP hD hS => ?_)
  have hP : va_P dG vwCl (xW A cA L P G (upd V k.toNatClampNeg 0) R N Y S wd tb ft fl ce nh mo) H := hP
  have hD : va_D F (xW A cA L P G (upd V k.toNatClampNeg 0) R N Y S wd tb ft fl ce nh mo) := hD
  refine lv_aload_n hx hb dX0_repair_25 rfl (lv_at hl 1 rfl) ?_
  refine va_get (D := dG) (ci := 0) (v := .ref (A 5)) (C := RX0) (T := TX0) (N := 15) hx hb hts hinX hown hK hP 0 rfl rfl 4 (by decide) (hts (.fieldLink RX0 22 "TidegateBourse" "repairEnds" "[I") (by decide +kernel)) (fun _ h9 => h9) rfl dX0_repair_26 ?_
  refine lv_iload_n hx hb dX0_repair_29 rfl (lv_at hl 2 rfl) ?_
  refine lv_aload_n hx hb dX0_repair_30 rfl (lv_at hl 1 rfl) ?_
  refine va_get (D := dG) (ci := 0) (v := .int nh) (C := RX0) (T := TX0) (N := 15) hx hb hts hinX hown hK hP 0 rfl rfl 13 (by decide) (hts (.fieldLink RX0 58 "TidegateBourse" "nextHour" "I") (by decide +kernel)) (fun _ h9 => h9) rfl dX0_repair_31 ?_
  refine lv_iconst (v := 5) hx hb dX0_repair_34 (by decide) ?_
  refine lv_iadd hx hb dX0_repair_35 ?_
  refine va_iast hx hb hK hP hD hS 5 0 rfl rfl (vp_pred q1 htb.1 htb.2) dX0_repair_36 (fun H locs hP hD hS => ?_)
  have hP : va_P dG vwCl (xW A cA L P G (upd V k.toNatClampNeg 0) (upd R k.toNatClampNeg (nh + 5)) N Y S wd tb ft fl ce nh mo) H := hP
  have hD : va_D F (xW A cA L P G (upd V k.toNatClampNeg 0) (upd R k.toNatClampNeg (nh + 5)) N Y S wd tb ft fl ce nh mo) := hD
  refine lv_iload_n hx hb dX0_repair_37 rfl (lv_at hl 0 rfl) ?_
  exact W.iret hx hb hr (fun t ht hW => ⟨⟨_, (L, P, G, (upd V k.toNatClampNeg 0), (upd R k.toNatClampNeg (nh + 5)), N, Y, S, wd, tb, ft, fl, ce, nh, mo), rfl, ⟨rfl, rfl⟩, by rw [ht]; exact hP, va_K.moved hW.alike hK, hD⟩, hS.F ht⟩) hS.2.2 dX0_repair_38
