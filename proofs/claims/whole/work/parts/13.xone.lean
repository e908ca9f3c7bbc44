set_option maxHeartbeats 4000000 in
set_option maxRecDepth 100000 in
theorem c_X0_tide (l : Launch) (hl0 : l.stackTraces = false) (dG : va_G) (a A : Nat → Nat) (cA : ClassId) (Hp : Heap) (L P G V R N Y S : Nat → Int32) (wd tb ft fl ce nh : Int32) (mo : UInt32) (h : Int32) (v : Int32) : vx_Met l yX0_tide wsX0_tide ({ frames := 7, cells := 1, slots := 6, locals := 130 }) (va_Pc [.ref (A 0), .int h, .int v] (fun U => wPre dG (tyI cA) (xW A cA L P G V R N Y S wd tb ft fl ce nh mo) Hp U ∧ tgE a (va_A (xW A cA L P G V R N Y S wd tb ft fl ce nh mo) Hp.size) U Hp)) (va_Qi (fun (r : Int32) (u : XS) => kTide h v = 0 ∧ r = L (h.toNatClampNeg) ∧ u = ((upd L h.toNatClampNeg v), P, G, V, R, N, Y, S, wd, tb, ft, fl, ce, nh, mo)) (fun u t => wAt dG (tyI cA) (va_A (xW A cA L P G V R N Y S wd tb ft fl ce nh mo) Hp.size) (xU A cA u) t) (va_A (xW A cA L P G V R N Y S wd tb ft fl ce nh mo) Hp.size)) (tgX (fun E => (E = eI ∧ kTide h v = 1) ∨ (E = eA ∧ kTide h v = 2))) 1 6 (va_A (xW A cA L P G V R N Y S wd tb ft fl ce nh mo) Hp.size) := by
  refine vx_ofW (cc := cX0_tide) (maxL := 4) (ret := some .int) (by decide) rfl ?_
  intro p e s m args below meth c s₁ B hml ht9 hv
  obtain ⟨rfl, ⟨hH, hP, hK, hD0⟩, hE⟩ := hv
  subst hH
  have hK : va_K dG vwCl (tyI cA) s := hK
  have hx := B.exec
  have hb := B.bytes
  have hr := B.returns
  have hts := atoms_spec (ws := wsX0_tide) B.pre
  have hown : s.vm.findClass RX0 = some m.cls := findClass_of_methodNamed B.named
  have hlocks := B.notSynchronized
  have hinX : ∀ w ∈ wsX00, w ∈ wsX0_tide := by decide +kernel
  have hD := hD0.self (sz := s.heap.size)
  generalize hAe : va_A (xW A cA L P G V R N Y S wd tb ft fl ce nh mo) s.heap.size = F at hD hE ⊢
  have hA : ∀ q : Nat, s.heap.size ≤ q → F q := fun q h => by rw [← hAe]; exact Or.inr h
  have hS : va_S F s.heap s.heap [] := va_S.rf
  have hP : va_P dG vwCl (xW A cA L P G V R N Y S wd tb ft fl ce nh mo) s.heap := hP
  have hl := lv_entry ([.ref (A 0), .int h, .int v]) (n := 4) (Nat.le_of_ble_eq_true rfl)
  rw [lg_entry_eq]
  generalize (lg_sl ([.ref (A 0), .int h, .int v]) ++ List.replicate (4 - (lg_sl ([.ref (A 0), .int h, .int v])).length) Slot.unset).toArray = ls at hl ⊢
  have hl : lv_has ls 4 [(0, .ref (A 0)), (1, .int h), (2, .int v)] := hl
  refine lv_iload_n hx hb dX0_tide_0 rfl (lv_at hl 1 rfl) ?_
  refine lv_iconst (v := 0) hx hb dX0_tide_1 (by decide) ?_
  refine lv_bipush (v := 23) hx hb dX0_tide_2 (by decide) ?_
  by_cases g1 : oI h 0 23
  · refine vx_callv (vx_runS (As := [.int h, .int 0, .int 23]) (rest := []) ⟨hx, hb, hml, hown, hts⟩ (c_requireIndex_no l hl0 a s.heap h 0 23 g1) (va_cwS 3 hts gX0_tide_X0_requireIndex rfl rfl rfl (by decide +kernel) ⟨Nat.le_of_ble_eq_true rfl, Nat.le_of_ble_eq_true rfl⟩) ⟨fun a U g mk q => ⟨q.1, q.2.1, q.2.2.calling g mk a⟩, fun U hU hW => ⟨rfl, hU, hE.go hW hS (fun q h => hA q (Nat.le_trans hS.1 h))⟩⟩ rfl rfl hl.1 rfl (lv_room (Nat.le_of_ble_eq_true rfl)) dX0_tide_4 ⟨Nat.le_of_ble_eq_true rfl, Nat.le_of_ble_eq_true rfl⟩) hS (fun q _ h => h.elim) (fun q h => hA q (Nat.le_trans hS.1 h)) (fun q _ h => h.elim) (fun E ce q9 u t H1 locs1 ht hvm hp hB hz1 hk1 hS hce hcv hcl => ?_) (fun u t H1 locs1 ht hvm hw hB hz1 hk1 hS => hw.elim)
    exact vx_out (fun x hx => (ht9 x hx).elim) hlocks hce hcv hcl (fun t9 h9 _ => ⟨u, Or.inl ⟨hp, by unfold kTide; rw [if_pos g1]⟩, hB, by rw [h9]; exact hz1, fun q hq _ => by rw [h9]; exact hk1 q hq (fun h => h)⟩) hS.2.2 (by omega) (by omega)
  · refine va_callv (va_runS (As := [.int h, .int 0, .int 23]) (rest := []) ⟨hx, hb, hml, hown, hts⟩ (c_requireIndex_ok l s.heap h 0 23 g1) (va_cwS 3 hts gX0_tide_X0_requireIndex rfl rfl rfl (by decide +kernel) ⟨Nat.le_of_ble_eq_true rfl, Nat.le_of_ble_eq_true rfl⟩) ⟨fun a U g mk q => q, fun U hU hW => ⟨rfl, hU⟩⟩ rfl rfl hl.1 rfl (lv_room (Nat.le_of_ble_eq_true rfl)) dX0_tide_4 ⟨Nat.le_of_ble_eq_true rfl, Nat.le_of_ble_eq_true rfl⟩) hS (fun q _ h => h.elim) (fun q h => h.elim) (fun u1 t H1 locs ht hvm hw hB hz1 hk1 hS => ?_)
    have e9 := hB.symm.trans ht
    subst e9
    refine lv_iload_n hx hb dX0_tide_7 rfl (lv_at hl 2 rfl) ?_
    refine lv_bipush (v := (-100)) hx hb dX0_tide_8 (by decide) ?_
    refine lv_bipush (v := 100) hx hb dX0_tide_10 (by decide) ?_
    by_cases g2 : oI v (-100) 100
    · refine vx_callv (vx_runS (As := [.int v, .int (-100), .int 100]) (rest := []) ⟨hx, hb, hml, hown, hts⟩ (c_requireRange_no l hl0 a s.heap v (-100) 100 g2) (va_cwS 3 hts gX0_tide_X0_requireRange rfl rfl rfl (by decide +kernel) ⟨Nat.le_of_ble_eq_true rfl, Nat.le_of_ble_eq_true rfl⟩) ⟨fun a U g mk q => ⟨q.1, q.2.1, q.2.2.calling g mk a⟩, fun U hU hW => ⟨rfl, hU, hE.go hW hS (fun q h => hA q (Nat.le_trans hS.1 h))⟩⟩ rfl rfl hl.1 rfl (lv_room (Nat.le_of_ble_eq_true rfl)) dX0_tide_12 ⟨Nat.le_of_ble_eq_true rfl, Nat.le_of_ble_eq_true rfl⟩) hS (fun q _ h => h.elim) (fun q h => hA q (Nat.le_trans hS.1 h)) (fun q _ h => h.elim) (fun E ce q9 u t H1 locs1 ht hvm hp hB hz1 hk1 hS hce hcv hcl => ?_) (fun u t H1 locs1 ht hvm hw hB hz1 hk1 hS => hw.elim)
      exact vx_out (fun x hx => (ht9 x hx).elim) hlocks hce hcv hcl (fun t9 h9 _ => ⟨u, Or.inr (⟨hp, by unfold kTide; rw [if_neg g1, if_pos g2]⟩), hB, by rw [h9]; exact hz1, fun q hq _ => by rw [h9]; exact hk1 q hq (fun h => h)⟩) hS.2.2 (by omega) (by omega)
    · refine va_callv (va_runS (As := [.int v, .int (-100), .int 100]) (rest := []) ⟨hx, hb, hml, hown, hts⟩ (c_requireRange_ok l s.heap v (-100) 100 g2) (va_cwS 3 hts gX0_tide_X0_requireRange rfl rfl rfl (by decide +kernel) ⟨Nat.le_of_ble_eq_true rfl, Nat.le_of_ble_eq_true rfl⟩) ⟨fun a U g mk q => q, fun U hU hW => ⟨rfl, hU⟩⟩ rfl rfl hl.1 rfl (lv_room (Nat.le_of_ble_eq_true rfl)) dX0_tide_12 ⟨Nat.le_of_ble_eq_true rfl, Nat.le_of_ble_eq_true rfl⟩) hS (fun q _ h => h.elim) (fun q h => h.elim) (fun u2 t H1 locs ht hvm hw hB hz1 hk1 hS => ?_)
      have e9 := hB.symm.trans ht
      subst e9
      refine lv_aload_n hx hb dX0_tide_15 rfl (lv_at hl 0 rfl) ?_
      refine va_get (D := dG) (ci := 0) (v := .ref (A 1)) (C := RX0) (T := TX0) (N := 15) hx hb hts hinX hown hK hP 0 rfl rfl 0 (by decide) (hts (.fieldLink RX0 9 "TidegateBourse" "levels" "[I") (by decide +kernel)) (fun _ h9 => h9) rfl dX0_tide_16 ?_
      refine lv_iload_n hx hb dX0_tide_19 rfl (lv_at hl 1 rfl) ?_
      refine va_iald hx hb hK hP 1 0 rfl rfl (vp_out g1 (by decide)) dX0_tide_20 ?_
      refine lv_istore_n (lv' := [(3, .int (L h.toNatClampNeg)), (0, .ref (A 0)), (1, .int h), (2, .int v)]) hx hb dX0_tide_21 rfl hl (by decide) rfl (fun ls hl => ?_)
      refine lv_aload_n hx hb dX0_tide_22 rfl (lv_at hl 1 rfl) ?_
      refine va_get (D := dG) (ci := 0) (v := .ref (A 1)) (C := RX0) (T := TX0) (N := 15) hx hb hts hinX hown hK hP 0 rfl rfl 0 (by decide) (hts (.fieldLink RX0 9 "TidegateBourse" "levels" "[I") (by decide +kernel)) (fun _ h9 => h9) rfl dX0_tide_23 ?_
      refine lv_iload_n hx hb dX0_tide_26 rfl (lv_at hl 2 rfl) ?_
      refine lv_iload_n hx hb dX0_tide_27 rfl (lv_at hl 3 rfl) ?_
      refine va_iast hx hb hK hP hD hS 1 0 rfl rfl (vp_out g1 (by decide)) dX0_tide_28 (fun H locs hP hD hS => ?_)
      have hP : va_P dG vwCl (xW A cA (upd L h.toNatClampNeg v) P G V R N Y S wd tb ft fl ce nh mo) H := hP
      have hD : va_D F (xW A cA (upd L h.toNatClampNeg v) P G V R N Y S wd tb ft fl ce nh mo) := hD
      refine lv_iload_n hx hb dX0_tide_29 rfl (lv_at hl 0 rfl) ?_
      refine vx_ret ?_
      refine W.widen (k := 1) (n := 6) (by omega) (by omega) ?_
      exact W.iret hx hb hr (fun t ht hW => ⟨⟨_, ((upd L h.toNatClampNeg v), P, G, V, R, N, Y, S, wd, tb, ft, fl, ce, nh, mo), rfl, ⟨(by unfold kTide; rw [if_neg g1, if_neg g2]), rfl, rfl⟩, by rw [ht]; exact hP, va_K.moved hW.alike hK, hD⟩, hS.F ht⟩) hS.2.2 dX0_tide_30
set_option maxHeartbeats 4000000 in
set_option maxRecDepth 100000 in
theorem c_X0_price (l : Launch) (hl0 : l.stackTraces = false) (dG : va_G) (a A : Nat → Nat) (cA : ClassId) (Hp : Heap) (L P G V R N Y S : Nat → Int32) (wd tb ft fl ce nh : Int32) (mo : UInt32) (h : Int32) (v : Int32) : vx_Met l yX0_price wsX0_price ({ frames := 7, cells := 1, slots := 6, locals := 130 }) (va_Pc [.ref (A 0), .int h, .int v] (fun U => wPre dG (tyI cA) (xW A cA L P G V R N Y S wd tb ft fl ce nh mo) Hp U ∧ tgE a (va_A (xW A cA L P G V R N Y S wd tb ft fl ce nh mo) Hp.size) U Hp)) (va_Qi (fun (r : Int32) (u : XS) => kPrice h v = 0 ∧ r = P (h.toNatClampNeg) ∧ u = (L, (upd P h.toNatClampNeg v), G, V, R, N, Y, S, wd, tb, ft, fl, ce, nh, mo)) (fun u t => wAt dG (tyI cA) (va_A (xW A cA L P G V R N Y S wd tb ft fl ce nh mo) Hp.size) (xU A cA u) t) (va_A (xW A cA L P G V R N Y S wd tb ft fl ce nh mo) Hp.size)) (tgX (fun E => (E = eI ∧ kPrice h v = 1) ∨ (E = eA ∧ kPrice h v = 2))) 1 6 (va_A (xW A cA L P G V R N Y S wd tb ft fl ce nh mo) Hp.size) := by
  refine vx_ofW (cc := cX0_price) (maxL := 4) (ret := some .int) (by decide) rfl ?_
  intro p e s m args below meth c s₁ B hml ht9 hv
  obtain ⟨rfl, ⟨hH, hP, hK, hD0⟩, hE⟩ := hv
  subst hH
  have hK : va_K dG vwCl (tyI cA) s := hK
  have hx := B.exec
  have hb := B.bytes
  have hr := B.returns
  have hts := atoms_spec (ws := wsX0_price) B.pre
  have hown : s.vm.findClass RX0 = some m.cls := findClass_of_methodNamed B.named
  have hlocks := B.notSynchronized
  have hinX : ∀ w ∈ wsX00, w ∈ wsX0_price := by decide +kernel
  have hD := hD0.self (sz := s.heap.size)
  generalize hAe : va_A (xW A cA L P G V R N Y S wd tb ft fl ce nh mo) s.heap.size = F at hD hE ⊢
  have hA : ∀ q : Nat, s.heap.size ≤ q → F q := fun q h => by rw [← hAe]; exact Or.inr h
  have hS : va_S F s.heap s.heap [] := va_S.rf
  have hP : va_P dG vwCl (xW A cA L P G V R N Y S wd tb ft fl ce nh mo) s.heap := hP
  have hl := lv_entry ([.ref (A 0), .int h, .int v]) (n := 4) (Nat.le_of_ble_eq_true rfl)
  rw [lg_entry_eq]
  generalize (lg_sl ([.ref (A 0), .int h, .int v]) ++ List.replicate (4 - (lg_sl ([.ref (A 0), .int h, .int v])).length) Slot.unset).toArray = ls at hl ⊢
  have hl : lv_has ls 4 [(0, .ref (A 0)), (1, .int h), (2, .int v)] := hl
  refine lv_iload_n hx hb dX0_price_0 rfl (lv_at hl 1 rfl) ?_
  refine lv_iconst (v := 0) hx hb dX0_price_1 (by decide) ?_
  refine lv_bipush (v := 23) hx hb dX0_price_2 (by decide) ?_
  by_cases g1 : oI h 0 23
  · refine vx_callv (vx_runS (As := [.int h, .int 0, .int 23]) (rest := []) ⟨hx, hb, hml, hown, hts⟩ (c_requireIndex_no l hl0 a s.heap h 0 23 g1) (va_cwS 3 hts gX0_price_X0_requireIndex rfl rfl rfl (by decide +kernel) ⟨Nat.le_of_ble_eq_true rfl, Nat.le_of_ble_eq_true rfl⟩) ⟨fun a U g mk q => ⟨q.1, q.2.1, q.2.2.calling g mk a⟩, fun U hU hW => ⟨rfl, hU, hE.go hW hS (fun q h => hA q (Nat.le_trans hS.1 h))⟩⟩ rfl rfl hl.1 rfl (lv_room (Nat.le_of_ble_eq_true rfl)) dX0_price_4 ⟨Nat.le_of_ble_eq_true rfl, Nat.le_of_ble_eq_true rfl⟩) hS (fun q _ h => h.elim) (fun q h => hA q (Nat.le_trans hS.1 h)) (fun q _ h => h.elim) (fun E ce q9 u t H1 locs1 ht hvm hp hB hz1 hk1 hS hce hcv hcl => ?_) (fun u t H1 locs1 ht hvm hw hB hz1 hk1 hS => hw.elim)
    exact vx_out (fun x hx => (ht9 x hx).elim) hlocks hce hcv hcl (fun t9 h9 _ => ⟨u, Or.inl ⟨hp, by unfold kPrice; rw [if_pos g1]⟩, hB, by rw [h9]; exact hz1, fun q hq _ => by rw [h9]; exact hk1 q hq (fun h => h)⟩) hS.2.2 (by omega) (by omega)
  · refine va_callv (va_runS (As := [.int h, .int 0, .int 23]) (rest := []) ⟨hx, hb, hml, hown, hts⟩ (c_requireIndex_ok l s.heap h 0 23 g1) (va_cwS 3 hts gX0_price_X0_requireIndex rfl rfl rfl (by decide +kernel) ⟨Nat.le_of_ble_eq_true rfl, Nat.le_of_ble_eq_true rfl⟩) ⟨fun a U g mk q => q, fun U hU hW => ⟨rfl, hU⟩⟩ rfl rfl hl.1 rfl (lv_room (Nat.le_of_ble_eq_true rfl)) dX0_price_4 ⟨Nat.le_of_ble_eq_true rfl, Nat.le_of_ble_eq_true rfl⟩) hS (fun q _ h => h.elim) (fun q h => h.elim) (fun u1 t H1 locs ht hvm hw hB hz1 hk1 hS => ?_)
    have e9 := hB.symm.trans ht
    subst e9
    refine lv_iload_n hx hb dX0_price_7 rfl (lv_at hl 2 rfl) ?_
    refine lv_iconst (v := 1) hx hb dX0_price_8 (by decide) ?_
    refine lv_sipush (v := 200) hx hb dX0_price_9 (by decide) ?_
    by_cases g2 : oI v 1 200
    · refine vx_callv (vx_runS (As := [.int v, .int 1, .int 200]) (rest := []) ⟨hx, hb, hml, hown, hts⟩ (c_requireRange_no l hl0 a s.heap v 1 200 g2) (va_cwS 3 hts gX0_price_X0_requireRange rfl rfl rfl (by decide +kernel) ⟨Nat.le_of_ble_eq_true rfl, Nat.le_of_ble_eq_true rfl⟩) ⟨fun a U g mk q => ⟨q.1, q.2.1, q.2.2.calling g mk a⟩, fun U hU hW => ⟨rfl, hU, hE.go hW hS (fun q h => hA q (Nat.le_trans hS.1 h))⟩⟩ rfl rfl hl.1 rfl (lv_room (Nat.le_of_ble_eq_true rfl)) dX0_price_12 ⟨Nat.le_of_ble_eq_true rfl, Nat.le_of_ble_eq_true rfl⟩) hS (fun q _ h => h.elim) (fun q h => hA q (Nat.le_trans hS.1 h)) (fun q _ h => h.elim) (fun E ce q9 u t H1 locs1 ht hvm hp hB hz1 hk1 hS hce hcv hcl => ?_) (fun u t H1 locs1 ht hvm hw hB hz1 hk1 hS => hw.elim)
      exact vx_out (fun x hx => (ht9 x hx).elim) hlocks hce hcv hcl (fun t9 h9 _ => ⟨u, Or.inr (⟨hp, by unfold kPrice; rw [if_neg g1, if_pos g2]⟩), hB, by rw [h9]; exact hz1, fun q hq _ => by rw [h9]; exact hk1 q hq (fun h => h)⟩) hS.2.2 (by omega) (by omega)
    · refine va_callv (va_runS (As := [.int v, .int 1, .int 200]) (rest := []) ⟨hx, hb, hml, hown, hts⟩ (c_requireRange_ok l s.heap v 1 200 g2) (va_cwS 3 hts gX0_price_X0_requireRange rfl rfl rfl (by decide +kernel) ⟨Nat.le_of_ble_eq_true rfl, Nat.le_of_ble_eq_true rfl⟩) ⟨fun a U g mk q => q, fun U hU hW => ⟨rfl, hU⟩⟩ rfl rfl hl.1 rfl (lv_room (Nat.le_of_ble_eq_true rfl)) dX0_price_12 ⟨Nat.le_of_ble_eq_true rfl, Nat.le_of_ble_eq_true rfl⟩) hS (fun q _ h => h.elim) (fun q h => h.elim) (fun u2 t H1 locs ht hvm hw hB hz1 hk1 hS => ?_)
      have e9 := hB.symm.trans ht
      subst e9
      refine lv_aload_n hx hb dX0_price_15 rfl (lv_at hl 0 rfl) ?_
      refine va_get (D := dG) (ci := 0) (v := .ref (A 2)) (C := RX0) (T := TX0) (N := 15) hx hb hts hinX hown hK hP 0 rfl rfl 1 (by decide) (hts (.fieldLink RX0 13 "TidegateBourse" "prices" "[I") (by decide +kernel)) (fun _ h9 => h9) rfl dX0_price_16 ?_
      refine lv_iload_n hx hb dX0_price_19 rfl (lv_at hl 1 rfl) ?_
      refine va_iald hx hb hK hP 2 0 rfl rfl (vp_out g1 (by decide)) dX0_price_20 ?_
      refine lv_istore_n (lv' := [(3, .int (P h.toNatClampNeg)), (0, .ref (A 0)), (1, .int h), (2, .int v)]) hx hb dX0_price_21 rfl hl (by decide) rfl (fun ls hl => ?_)
      refine lv_aload_n hx hb dX0_price_22 rfl (lv_at hl 1 rfl) ?_
      refine va_get (D := dG) (ci := 0) (v := .ref (A 2)) (C := RX0) (T := TX0) (N := 15) hx hb hts hinX hown hK hP 0 rfl rfl 1 (by decide) (hts (.fieldLink RX0 13 "TidegateBourse" "prices" "[I") (by decide +kernel)) (fun _ h9 => h9) rfl dX0_price_23 ?_
      refine lv_iload_n hx hb dX0_price_26 rfl (lv_at hl 2 rfl) ?_
      refine lv_iload_n hx hb dX0_price_27 rfl (lv_at hl 3 rfl) ?_
      refine va_iast hx hb hK hP hD hS 2 0 rfl rfl (vp_out g1 (by decide)) dX0_price_28 (fun H locs hP hD hS => ?_)
      have hP : va_P dG vwCl (xW A cA L (upd P h.toNatClampNeg v) G V R N Y S wd tb ft fl ce nh mo) H := hP
      have hD : va_D F (xW A cA L (upd P h.toNatClampNeg v) G V R N Y S wd tb ft fl ce nh mo) := hD
      refine lv_iload_n hx hb dX0_price_29 rfl (lv_at hl 0 rfl) ?_
      refine vx_ret ?_
      refine W.widen (k := 1) (n := 6) (by omega) (by omega) ?_
      exact W.iret hx hb hr (fun t ht hW => ⟨⟨_, (L, (upd P h.toNatClampNeg v), G, V, R, N, Y, S, wd, tb, ft, fl, ce, nh, mo), rfl, ⟨(by unfold kPrice; rw [if_neg g1, if_neg g2]), rfl, rfl⟩, by rw [ht]; exact hP, va_K.moved hW.alike hK, hD⟩, hS.F ht⟩) hS.2.2 dX0_price_30
set_option maxHeartbeats 4000000 in
set_option maxRecDepth 100000 in
theorem c_X0_wind (l : Launch) (hl0 : l.stackTraces = false) (dG : va_G) (a A : Nat → Nat) (cA : ClassId) (Hp : Heap) (L P G V R N Y S : Nat → Int32) (wd tb ft fl ce nh : Int32) (mo : UInt32) (w : Int32) : vx_Met l yX0_wind wsX0_wind ({ frames := 7, cells := 1, slots := 6, locals := 130 }) (va_Pc [.ref (A 0), .int w] (fun U => wPre dG (tyI cA) (xW A cA L P G V R N Y S wd tb ft fl ce nh mo) Hp U ∧ tgE a (va_A (xW A cA L P G V R N Y S wd tb ft fl ce nh mo) Hp.size) U Hp)) (va_Qi (fun (r : Int32) (u : XS) => kWind w = 0 ∧ r = wd ∧ u = (L, P, G, V, R, N, Y, S, w, tb, ft, fl, ce, nh, mo)) (fun u t => wAt dG (tyI cA) (va_A (xW A cA L P G V R N Y S wd tb ft fl ce nh mo) Hp.size) (xU A cA u) t) (va_A (xW A cA L P G V R N Y S wd tb ft fl ce nh mo) Hp.size)) (tgX (fun E => (E = eA ∧ kWind w = 1))) 1 6 (va_A (xW A cA L P G V R N Y S wd tb ft fl ce nh mo) Hp.size) := by
  refine vx_ofW (cc := cX0_wind) (maxL := 3) (ret := some .int) (by decide) rfl ?_
  intro p e s m args below meth c s₁ B hml ht9 hv
  obtain ⟨rfl, ⟨hH, hP, hK, hD0⟩, hE⟩ := hv
  subst hH
  have hK : va_K dG vwCl (tyI cA) s := hK
  have hx := B.exec
  have hb := B.bytes
  have hr := B.returns
  have hts := atoms_spec (ws := wsX0_wind) B.pre
  have hown : s.vm.findClass RX0 = some m.cls := findClass_of_methodNamed B.named
  have hlocks := B.notSynchronized
  have hinX : ∀ w ∈ wsX00, w ∈ wsX0_wind := by decide +kernel
  have hD := hD0.self (sz := s.heap.size)
  generalize hAe : va_A (xW A cA L P G V R N Y S wd tb ft fl ce nh mo) s.heap.size = F at hD hE ⊢
  have hA : ∀ q : Nat, s.heap.size ≤ q → F q := fun q h => by rw [← hAe]; exact Or.inr h
  have hS : va_S F s.heap s.heap [] := va_S.rf
  have hP : va_P dG vwCl (xW A cA L P G V R N Y S wd tb ft fl ce nh mo) s.heap := hP
  have hl := lv_entry ([.ref (A 0), .int w]) (n := 3) (Nat.le_of_ble_eq_true rfl)
  rw [lg_entry_eq]
  generalize (lg_sl ([.ref (A 0), .int w]) ++ List.replicate (3 - (lg_sl ([.ref (A 0), .int w])).length) Slot.unset).toArray = ls at hl ⊢
  have hl : lv_has ls 3 [(0, .ref (A 0)), (1, .int w)] := hl
  refine lv_iload_n hx hb dX0_wind_0 rfl (lv_at hl 1 rfl) ?_
  refine lv_bipush (v := (-20)) hx hb dX0_wind_1 (by decide) ?_
  refine lv_bipush (v := 20) hx hb dX0_wind_3 (by decide) ?_
  by_cases g1 : oI w (-20) 20
  · refine vx_callv (vx_runS (As := [.int w, .int (-20), .int 20]) (rest := []) ⟨hx, hb, hml, hown, hts⟩ (c_requireRange_no l hl0 a s.heap w (-20) 20 g1) (va_cwS 3 hts gX0_wind_X0_requireRange rfl rfl rfl (by decide +kernel) ⟨Nat.le_of_ble_eq_true rfl, Nat.le_of_ble_eq_true rfl⟩) ⟨fun a U g mk q => ⟨q.1, q.2.1, q.2.2.calling g mk a⟩, fun U hU hW => ⟨rfl, hU, hE.go hW hS (fun q h => hA q (Nat.le_trans hS.1 h))⟩⟩ rfl rfl hl.1 rfl (lv_room (Nat.le_of_ble_eq_true rfl)) dX0_wind_5 ⟨Nat.le_of_ble_eq_true rfl, Nat.le_of_ble_eq_true rfl⟩) hS (fun q _ h => h.elim) (fun q h => hA q (Nat.le_trans hS.1 h)) (fun q _ h => h.elim) (fun E ce q9 u t H1 locs1 ht hvm hp hB hz1 hk1 hS hce hcv hcl => ?_) (fun u t H1 locs1 ht hvm hw hB hz1 hk1 hS => hw.elim)
    exact vx_out (fun x hx => (ht9 x hx).elim) hlocks hce hcv hcl (fun t9 h9 _ => ⟨u, ⟨hp, by unfold kWind; rw [if_pos g1]⟩, hB, by rw [h9]; exact hz1, fun q hq _ => by rw [h9]; exact hk1 q hq (fun h => h)⟩) hS.2.2 (by omega) (by omega)
  · refine va_callv (va_runS (As := [.int w, .int (-20), .int 20]) (rest := []) ⟨hx, hb, hml, hown, hts⟩ (c_requireRange_ok l s.heap w (-20) 20 g1) (va_cwS 3 hts gX0_wind_X0_requireRange rfl rfl rfl (by decide +kernel) ⟨Nat.le_of_ble_eq_true rfl, Nat.le_of_ble_eq_true rfl⟩) ⟨fun a U g mk q => q, fun U hU hW => ⟨rfl, hU⟩⟩ rfl rfl hl.1 rfl (lv_room (Nat.le_of_ble_eq_true rfl)) dX0_wind_5 ⟨Nat.le_of_ble_eq_true rfl, Nat.le_of_ble_eq_true rfl⟩) hS (fun q _ h => h.elim) (fun q h => h.elim) (fun u1 t H1 locs ht hvm hw hB hz1 hk1 hS => ?_)
    have e9 := hB.symm.trans ht
    subst e9
    refine lv_aload_n hx hb dX0_wind_8 rfl (lv_at hl 0 rfl) ?_
    refine va_get (D := dG) (ci := 0) (v := .int wd) (C := RX0) (T := TX0) (N := 15) hx hb hts hinX hown hK hP 0 rfl rfl 8 (by decide) (hts (.fieldLink RX0 45 "TidegateBourse" "windNow" "I") (by decide +kernel)) (fun _ h9 => h9) rfl dX0_wind_9 ?_
    refine lv_istore_n (lv' := [(2, .int wd), (0, .ref (A 0)), (1, .int w)]) hx hb dX0_wind_12 rfl hl (by decide) rfl (fun ls hl => ?_)
    refine lv_aload_n hx hb dX0_wind_13 rfl (lv_at hl 1 rfl) ?_
    refine lv_iload_n hx hb dX0_wind_14 rfl (lv_at hl 2 rfl) ?_
    refine va_put (D := dG) (ci := 0) (v := .int w) (ty := .int) (C := RX0) (T := TX0) (N := 15) hx hb hts hinX tyX0 tyX0_ok nmX0 hown hK hP hD hS 0 rfl rfl 8 (by decide) (hts (.fieldLink RX0 45 "TidegateBourse" "windNow" "I") (by decide +kernel)) (fun _ h9 => h9) rfl (by decide +kernel) rfl rfl (Nat.le_of_ble_eq_true rfl) dX0_wind_15 (fun H locs hP hD hS => ?_)
    have hP : va_P dG vwCl (xW A cA L P G V R N Y S w tb ft fl ce nh mo) H := hP
    have hD : va_D F (xW A cA L P G V R N Y S w tb ft fl ce nh mo) := hD
    refine lv_iload_n hx hb dX0_wind_18 rfl (lv_at hl 0 rfl) ?_
    refine vx_ret ?_
    refine W.widen (k := 1) (n := 6) (by omega) (by omega) ?_
    exact W.iret hx hb hr (fun t ht hW => ⟨⟨_, (L, P, G, V, R, N, Y, S, w, tb, ft, fl, ce, nh, mo), rfl, ⟨(by unfold kWind; rw [if_neg g1]), rfl, rfl⟩, by rw [ht]; exact hP, va_K.moved hW.alike hK, hD⟩, hS.F ht⟩) hS.2.2 dX0_wind_19
set_option maxHeartbeats 4000000 in
set_option maxRecDepth 100000 in
theorem c_X0_turbine (l : Launch) (hl0 : l.stackTraces = false) (dG : va_G) (a A : Nat → Nat) (cA : ClassId) (Hp : Heap) (L P G V R N Y S : Nat → Int32) (wd tb ft fl ce nh : Int32) (mo : UInt32)  : vx_Met l yX0_turbine wsX0_turbine ({ frames := 7, cells := 1, slots := 6, locals := 130 }) (va_Pc [.ref (A 0)] (fun U => wPre dG (tyI cA) (xW A cA L P G V R N Y S wd tb ft fl ce nh mo) Hp U ∧ tgE a (va_A (xW A cA L P G V R N Y S wd tb ft fl ce nh mo) Hp.size) U Hp)) (va_Qi (fun (r : Int32) (u : XS) => kTurb tb = 0 ∧ r = tb + 1 - 1 ∧ u = (L, P, G, V, R, N, Y, S, wd, (tb + 1), ft, fl, ce, nh, mo)) (fun u t => wAt dG (tyI cA) (va_A (xW A cA L P G V R N Y S wd tb ft fl ce nh mo) Hp.size) (xU A cA u) t) (va_A (xW A cA L P G V R N Y S wd tb ft fl ce nh mo) Hp.size)) (tgX (fun E => (E = eS ∧ kTurb tb = 1))) 1 6 (va_A (xW A cA L P G V R N Y S wd tb ft fl ce nh mo) Hp.size) := by
  refine vx_ofW (cc := cX0_turbine) (maxL := 1) (ret := some .int) (by decide) rfl ?_
  intro p e s m args below meth c s₁ B hml ht9 hv
  obtain ⟨rfl, ⟨hH, hP, hK, hD0⟩, hE⟩ := hv
  subst hH
  have hK : va_K dG vwCl (tyI cA) s := hK
  have hx := B.exec
  have hb := B.bytes
  have hr := B.returns
  have hts := atoms_spec (ws := wsX0_turbine) B.pre
  have hown : s.vm.findClass RX0 = some m.cls := findClass_of_methodNamed B.named
  have hlocks := B.notSynchronized
  have hinX : ∀ w ∈ wsX00, w ∈ wsX0_turbine := by decide +kernel
  have hD := hD0.self (sz := s.heap.size)
  generalize hAe : va_A (xW A cA L P G V R N Y S wd tb ft fl ce nh mo) s.heap.size = F at hD hE ⊢
  have hA : ∀ q : Nat, s.heap.size ≤ q → F q := fun q h => by rw [← hAe]; exact Or.inr h
  have hS : va_S F s.heap s.heap [] := va_S.rf
  have hP : va_P dG vwCl (xW A cA L P G V R N Y S wd tb ft fl ce nh mo) s.heap := hP
  have hl := lv_entry ([.ref (A 0)]) (n := 1) (Nat.le_of_ble_eq_true rfl)
  rw [lg_entry_eq]
  generalize (lg_sl ([.ref (A 0)]) ++ List.replicate (1 - (lg_sl ([.ref (A 0)])).length) Slot.unset).toArray = ls at hl ⊢
  have hl : lv_has ls 1 [(0, .ref (A 0))] := hl
  refine lv_aload_n hx hb dX0_turbine_0 rfl (lv_at hl 0 rfl) ?_
  refine va_get (D := dG) (ci := 0) (v := .int tb) (C := RX0) (T := TX0) (N := 15) hx hb hts hinX hown hK hP 0 rfl rfl 9 (by decide) (hts (.fieldLink RX0 48 "TidegateBourse" "turbines" "I") (by decide +kernel)) (fun _ h9 => h9) rfl dX0_turbine_1 ?_
  refine lv_iconst (v := 4) hx hb dX0_turbine_4 (by decide) ?_
  refine lv_icmp_lt (tgt := 18) hx hb dX0_turbine_5 (by decide) (fun cq1 => ?_) (fun cq1 => ?_)
  · refine lv_aload_n hx hb dX0_turbine_18 rfl (lv_at hl 0 rfl) ?_
    refine lv_dup hx hb dX0_turbine_19 rfl ?_
    refine va_get (D := dG) (ci := 0) (v := .int tb) (C := RX0) (T := TX0) (N := 15) hx hb hts hinX hown hK hP 0 rfl rfl 9 (by decide) (hts (.fieldLink RX0 48 "TidegateBourse" "turbines" "I") (by decide +kernel)) (fun _ h9 => h9) rfl dX0_turbine_20 ?_
    refine lv_iconst (v := 1) hx hb dX0_turbine_23 (by decide) ?_
    refine lv_iadd hx hb dX0_turbine_24 ?_
    refine va_put (D := dG) (ci := 0) (v := .int (tb + 1)) (ty := .int) (C := RX0) (T := TX0) (N := 15) hx hb hts hinX tyX0 tyX0_ok nmX0 hown hK hP hD hS 0 rfl rfl 9 (by decide) (hts (.fieldLink RX0 48 "TidegateBourse" "turbines" "I") (by decide +kernel)) (fun _ h9 => h9) rfl (by decide +kernel) rfl rfl (Nat.le_of_ble_eq_true rfl) dX0_turbine_25 (fun H locs hP hD hS => ?_)
    have hP : va_P dG vwCl (xW A cA L P G V R N Y S wd (tb + 1) ft fl ce nh mo) H := hP
    have hD : va_D F (xW A cA L P G V R N Y S wd (tb + 1) ft fl ce nh mo) := hD
    refine lv_aload_n hx hb dX0_turbine_28 rfl (lv_at hl 0 rfl) ?_
    refine va_get (D := dG) (ci := 0) (v := .int (tb + 1)) (C := RX0) (T := TX0) (N := 15) hx hb hts hinX hown hK hP 0 rfl rfl 9 (by decide) (hts (.fieldLink RX0 48 "TidegateBourse" "turbines" "I") (by decide +kernel)) (fun _ h9 => h9) rfl dX0_turbine_29 ?_
    refine lv_iconst (v := 1) hx hb dX0_turbine_32 (by decide) ?_
    refine lv_isub hx hb dX0_turbine_33 ?_
    refine vx_ret ?_
    refine W.widen (k := 1) (n := 6) (by omega) (by omega) ?_
    exact W.iret hx hb hr (fun t ht hW => ⟨⟨_, (L, P, G, V, R, N, Y, S, wd, (tb + 1), ft, fl, ce, nh, mo), rfl, ⟨(by unfold kTurb; rw [if_pos cq1]), rfl, rfl⟩, by rw [ht]; exact hP, va_K.moved hW.alike hK, hD⟩, hS.F ht⟩) hS.2.2 dX0_turbine_34
  · exact vx_throwS (ik := 51) (is := 53) (ic := 55) (cls := eS) (text := "no room for another turbine") (names := eNs) (sa := a 2) (A := F) hx hb hl0 hown (by decide) (by decide) (hts (.classLink RX0 51 eS) (by decide +kernel)) (hts (.initialized eS) (by decide +kernel)) hE.1.1.2.2.1 (vx_hat (B := tgB eS) (fun w hw => hts w (List.mem_cons_of_mem _ (List.mem_append_right _ hw))) (by decide +kernel) (hE.1.words _).2.2) (by decide +kernel) hE.2.1 hE.2.2 hS (hl.1.trans hml.symm) dX0_turbine_8 dX0_turbine_11 dX0_turbine_12 dX0_turbine_14 dX0_turbine_17 (fun x hx => (ht9 x hx).elim) (Nat.le_of_ble_eq_true rfl) (Nat.le_of_ble_eq_true rfl) (Nat.le_of_ble_eq_true rfl) (Nat.le_of_ble_eq_true rfl) hlocks (fun t hal hz hk => ⟨eS, ⟨rfl, by unfold kTurb; rw [if_neg cq1]⟩, rfl, hz, fun q hq _ => hk q hq⟩) hS.2.2 (Nat.le_of_ble_eq_true rfl) (Nat.le_of_ble_eq_true rfl)
set_option maxHeartbeats 4000000 in
set_option maxRecDepth 100000 in
theorem c_X0_gate (l : Launch) (hl0 : l.stackTraces = false) (dG : va_G) (a A : Nat → Nat) (cA : ClassId) (Hp : Heap) (L P G V R N Y S : Nat → Int32) (wd tb ft fl ce nh : Int32) (mo : UInt32) (k : Int32) (g : Int32) (htb : 0 ≤ tb.toInt ∧ tb.toInt ≤ 4) : vx_Met l yX0_gate wsX0_gate ({ frames := 7, cells := 1, slots := 6, locals := 130 }) (va_Pc [.ref (A 0), .int k, .int g] (fun U => wPre dG (tyI cA) (xW A cA L P G V R N Y S wd tb ft fl ce nh mo) Hp U ∧ tgE a (va_A (xW A cA L P G V R N Y S wd tb ft fl ce nh mo) Hp.size) U Hp)) (va_Qi (fun (r : Int32) (u : XS) => kGate tb k g = 0 ∧ r = G (k.toNatClampNeg) ∧ u = (L, P, (upd G k.toNatClampNeg g), V, R, N, Y, S, wd, tb, ft, fl, ce, nh, mo)) (fun u t => wAt dG (tyI cA) (va_A (xW A cA L P G V R N Y S wd tb ft fl ce nh mo) Hp.size) (xU A cA u) t) (va_A (xW A cA L P G V R N Y S wd tb ft fl ce nh mo) Hp.size)) (tgX (fun E => (E = eI ∧ kGate tb k g = 1) ∨ (E = eA ∧ kGate tb k g = 2))) 1 6 (va_A (xW A cA L P G V R N Y S wd tb ft fl ce nh mo) Hp.size) := by
  refine vx_ofW (cc := cX0_gate) (maxL := 4) (ret := some .int) (by decide) rfl ?_
  intro p e s m args below meth c s₁ B hml ht9 hv
  obtain ⟨rfl, ⟨hH, hP, hK, hD0⟩, hE⟩ := hv
  subst hH
  have hK : va_K dG vwCl (tyI cA) s := hK
  have hx := B.exec
  have hb := B.bytes
  have hr := B.returns
  have hts := atoms_spec (ws := wsX0_gate) B.pre
  have hown : s.vm.findClass RX0 = some m.cls := findClass_of_methodNamed B.named
  have hlocks := B.notSynchronized
  have hinX : ∀ w ∈ wsX00, w ∈ wsX0_gate := by decide +kernel
  have hD := hD0.self (sz := s.heap.size)
  generalize hAe : va_A (xW A cA L P G V R N Y S wd tb ft fl ce nh mo) s.heap.size = F at hD hE ⊢
  have hA : ∀ q : Nat, s.heap.size ≤ q → F q := fun q h => by rw [← hAe]; exact Or.inr h
  have hS : va_S F s.heap s.heap [] := va_S.rf
  have hP : va_P dG vwCl (xW A cA L P G V R N Y S wd tb ft fl ce nh mo) s.heap := hP
  have hl := lv_entry ([.ref (A 0), .int k, .int g]) (n := 4) (Nat.le_of_ble_eq_true rfl)
  rw [lg_entry_eq]
  generalize (lg_sl ([.ref (A 0), .int k, .int g]) ++ List.replicate (4 - (lg_sl ([.ref (A 0), .int k, .int g])).length) Slot.unset).toArray = ls at hl ⊢
  have hl : lv_has ls 4 [(0, .ref (A 0)), (1, .int k), (2, .int g)] := hl
  refine lv_iload_n hx hb dX0_gate_0 rfl (lv_at hl 1 rfl) ?_
  refine lv_iconst (v := 0) hx hb dX0_gate_1 (by decide) ?_
  refine lv_aload_n hx hb dX0_gate_2 rfl (lv_at hl 0 rfl) ?_
  refine va_get (D := dG) (ci := 0) (v := .int tb) (C := RX0) (T := TX0) (N := 15) hx hb hts hinX hown hK hP 0 rfl rfl 9 (by decide) (hts (.fieldLink RX0 48 "TidegateBourse" "turbines" "I") (by decide +kernel)) (fun _ h9 => h9) rfl dX0_gate_3 ?_
  refine lv_iconst (v := 1) hx hb dX0_gate_6 (by decide) ?_
  refine lv_isub hx hb dX0_gate_7 ?_
  by_cases g1 : oI k 0 (tb - 1)
  · refine vx_callv (vx_runS (As := [.int k, .int 0, .int (tb - 1)]) (rest := []) ⟨hx, hb, hml, hown, hts⟩ (c_requireIndex_no l hl0 a s.heap k 0 (tb - 1) g1) (va_cwS 3 hts gX0_gate_X0_requireIndex rfl rfl rfl (by decide +kernel) ⟨Nat.le_of_ble_eq_true rfl, Nat.le_of_ble_eq_true rfl⟩) ⟨fun a U g mk q => ⟨q.1, q.2.1, q.2.2.calling g mk a⟩, fun U hU hW => ⟨rfl, hU, hE.go hW hS (fun q h => hA q (Nat.le_trans hS.1 h))⟩⟩ rfl rfl hl.1 rfl (lv_room (Nat.le_of_ble_eq_true rfl)) dX0_gate_8 ⟨Nat.le_of_ble_eq_true rfl, Nat.le_of_ble_eq_true rfl⟩) hS (fun q _ h => h.elim) (fun q h => hA q (Nat.le_trans hS.1 h)) (fun q _ h => h.elim) (fun E ce q9 u t H1 locs1 ht hvm hp hB hz1 hk1 hS hce hcv hcl => ?_) (fun u t H1 locs1 ht hvm hw hB hz1 hk1 hS => hw.elim)
    exact vx_out (fun x hx => (ht9 x hx).elim) hlocks hce hcv hcl (fun t9 h9 _ => ⟨u, Or.inl ⟨hp, by unfold kGate; rw [if_pos g1]⟩, hB, by rw [h9]; exact hz1, fun q hq _ => by rw [h9]; exact hk1 q hq (fun h => h)⟩) hS.2.2 (by omega) (by omega)
  · refine va_callv (va_runS (As := [.int k, .int 0, .int (tb - 1)]) (rest := []) ⟨hx, hb, hml, hown, hts⟩ (c_requireIndex_ok l s.heap k 0 (tb - 1) g1) (va_cwS 3 hts gX0_gate_X0_requireIndex rfl rfl rfl (by decide +kernel) ⟨Nat.le_of_ble_eq_true rfl, Nat.le_of_ble_eq_true rfl⟩) ⟨fun a U g mk q => q, fun U hU hW => ⟨rfl, hU⟩⟩ rfl rfl hl.1 rfl (lv_room (Nat.le_of_ble_eq_true rfl)) dX0_gate_8 ⟨Nat.le_of_ble_eq_true rfl, Nat.le_of_ble_eq_true rfl⟩) hS (fun q _ h => h.elim) (fun q h => h.elim) (fun u1 t H1 locs ht hvm hw hB hz1 hk1 hS => ?_)
    have e9 := hB.symm.trans ht
    subst e9
    refine lv_iload_n hx hb dX0_gate_11 rfl (lv_at hl 2 rfl) ?_
    refine lv_iconst (v := 0) hx hb dX0_gate_12 (by decide) ?_
    refine lv_bipush (v := 7) hx hb dX0_gate_13 (by decide) ?_
    by_cases g2 : oI g 0 7
    · refine vx_callv (vx_runS (As := [.int g, .int 0, .int 7]) (rest := []) ⟨hx, hb, hml, hown, hts⟩ (c_requireRange_no l hl0 a s.heap g 0 7 g2) (va_cwS 3 hts gX0_gate_X0_requireRange rfl rfl rfl (by decide +kernel) ⟨Nat.le_of_ble_eq_true rfl, Nat.le_of_ble_eq_true rfl⟩) ⟨fun a U g mk q => ⟨q.1, q.2.1, q.2.2.calling g mk a⟩, fun U hU hW => ⟨rfl, hU, hE.go hW hS (fun q h => hA q (Nat.le_trans hS.1 h))⟩⟩ rfl rfl hl.1 rfl (lv_room (Nat.le_of_ble_eq_true rfl)) dX0_gate_15 ⟨Nat.le_of_ble_eq_true rfl, Nat.le_of_ble_eq_true rfl⟩) hS (fun q _ h => h.elim) (fun q h => hA q (Nat.le_trans hS.1 h)) (fun q _ h => h.elim) (fun E ce q9 u t H1 locs1 ht hvm hp hB hz1 hk1 hS hce hcv hcl => ?_) (fun u t H1 locs1 ht hvm hw hB hz1 hk1 hS => hw.elim)
      exact vx_out (fun x hx => (ht9 x hx).elim) hlocks hce hcv hcl (fun t9 h9 _ => ⟨u, Or.inr (⟨hp, by unfold kGate; rw [if_neg g1, if_pos g2]⟩), hB, by rw [h9]; exact hz1, fun q hq _ => by rw [h9]; exact hk1 q hq (fun h => h)⟩) hS.2.2 (by omega) (by omega)
    · refine va_callv (va_runS (As := [.int g, .int 0, .int 7]) (rest := []) ⟨hx, hb, hml, hown, hts⟩ (c_requireRange_ok l s.heap g 0 7 g2) (va_cwS 3 hts gX0_gate_X0_requireRange rfl rfl rfl (by decide +kernel) ⟨Nat.le_of_ble_eq_true rfl, Nat.le_of_ble_eq_true rfl⟩) ⟨fun a U g mk q => q, fun U hU hW => ⟨rfl, hU⟩⟩ rfl rfl hl.1 rfl (lv_room (Nat.le_of_ble_eq_true rfl)) dX0_gate_15 ⟨Nat.le_of_ble_eq_true rfl, Nat.le_of_ble_eq_true rfl⟩) hS (fun q _ h => h.elim) (fun q h => h.elim) (fun u2 t H1 locs ht hvm hw hB hz1 hk1 hS => ?_)
      have e9 := hB.symm.trans ht
      subst e9
      refine lv_aload_n hx hb dX0_gate_18 rfl (lv_at hl 0 rfl) ?_
      refine va_get (D := dG) (ci := 0) (v := .ref (A 3)) (C := RX0) (T := TX0) (N := 15) hx hb hts hinX hown hK hP 0 rfl rfl 2 (by decide) (hts (.fieldLink RX0 16 "TidegateBourse" "gates" "[I") (by decide +kernel)) (fun _ h9 => h9) rfl dX0_gate_19 ?_
      refine lv_iload_n hx hb dX0_gate_22 rfl (lv_at hl 1 rfl) ?_
      refine va_iald hx hb hK hP 3 0 rfl rfl (vp_pred g1 htb.1 htb.2) dX0_gate_23 ?_
      refine lv_istore_n (lv' := [(3, .int (G k.toNatClampNeg)), (0, .ref (A 0)), (1, .int k), (2, .int g)]) hx hb dX0_gate_24 rfl hl (by decide) rfl (fun ls hl => ?_)
      refine lv_aload_n hx hb dX0_gate_25 rfl (lv_at hl 1 rfl) ?_
      refine va_get (D := dG) (ci := 0) (v := .ref (A 3)) (C := RX0) (T := TX0) (N := 15) hx hb hts hinX hown hK hP 0 rfl rfl 2 (by decide) (hts (.fieldLink RX0 16 "TidegateBourse" "gates" "[I") (by decide +kernel)) (fun _ h9 => h9) rfl dX0_gate_26 ?_
      refine lv_iload_n hx hb dX0_gate_29 rfl (lv_at hl 2 rfl) ?_
      refine lv_iload_n hx hb dX0_gate_30 rfl (lv_at hl 3 rfl) ?_
      refine va_iast hx hb hK hP hD hS 3 0 rfl rfl (vp_pred g1 htb.1 htb.2) dX0_gate_31 (fun H locs hP hD hS => ?_)
      have hP : va_P dG vwCl (xW A cA L P (upd G k.toNatClampNeg g) V R N Y S wd tb ft fl ce nh mo) H := hP
      have hD : va_D F (xW A cA L P (upd G k.toNatClampNeg g) V R N Y S wd tb ft fl ce nh mo) := hD
      refine lv_iload_n hx hb dX0_gate_32 rfl (lv_at hl 0 rfl) ?_
      refine vx_ret ?_
      refine W.widen (k := 1) (n := 6) (by omega) (by omega) ?_
      exact W.iret hx hb hr (fun t ht hW => ⟨⟨_, (L, P, (upd G k.toNatClampNeg g), V, R, N, Y, S, wd, tb, ft, fl, ce, nh, mo), rfl, ⟨(by unfold kGate; rw [if_neg g1, if_neg g2]), rfl, rfl⟩, by rw [ht]; exact hP, va_K.moved hW.alike hK, hD⟩, hS.F ht⟩) hS.2.2 dX0_gate_33
set_option maxHeartbeats 4000000 in
set_option maxRecDepth 100000 in
theorem c_X0_repair (l : Launch) (hl0 : l.stackTraces = false) (dG : va_G) (a A : Nat → Nat) (cA : ClassId) (Hp : Heap) (L P G V R N Y S : Nat → Int32) (wd tb ft fl ce nh : Int32) (mo : UInt32) (k : Int32) (htb : 0 ≤ tb.toInt ∧ tb.toInt ≤ 4) : vx_Met l yX0_repair wsX0_repair ({ frames := 7, cells := 1, slots := 6, locals := 130 }) (va_Pc [.ref (A 0), .int k] (fun U => wPre dG (tyI cA) (xW A cA L P G V R N Y S wd tb ft fl ce nh mo) Hp U ∧ tgE a (va_A (xW A cA L P G V R N Y S wd tb ft fl ce nh mo) Hp.size) U Hp)) (va_Qi (fun (r : Int32) (u : XS) => kRep tb k = 0 ∧ r = V (k.toNatClampNeg) ∧ u = (L, P, G, (upd V k.toNatClampNeg 0), (upd R k.toNatClampNeg (nh + 5)), N, Y, S, wd, tb, ft, fl, ce, nh, mo)) (fun u t => wAt dG (tyI cA) (va_A (xW A cA L P G V R N Y S wd tb ft fl ce nh mo) Hp.size) (xU A cA u) t) (va_A (xW A cA L P G V R N Y S wd tb ft fl ce nh mo) Hp.size)) (tgX (fun E => (E = eI ∧ kRep tb k = 1))) 1 6 (va_A (xW A cA L P G V R N Y S wd tb ft fl ce nh mo) Hp.size) := by
  refine vx_ofW (cc := cX0_repair) (maxL := 3) (ret := some .int) (by decide) rfl ?_
  intro p e s m args below meth c s₁ B hml ht9 hv
  obtain ⟨rfl, ⟨hH, hP, hK, hD0⟩, hE⟩ := hv
  subst hH
  have hK : va_K dG vwCl (tyI cA) s := hK
  have hx := B.exec
  have hb := B.bytes
  have hr := B.returns
  have hts := atoms_spec (ws := wsX0_repair) B.pre
  have hown : s.vm.findClass RX0 = some m.cls := findClass_of_methodNamed B.named
  have hlocks := B.notSynchronized
  have hinX : ∀ w ∈ wsX00, w ∈ wsX0_repair := by decide +kernel
  have hD := hD0.self (sz := s.heap.size)
  generalize hAe : va_A (xW A cA L P G V R N Y S wd tb ft fl ce nh mo) s.heap.size = F at hD hE ⊢
  have hA : ∀ q : Nat, s.heap.size ≤ q → F q := fun q h => by rw [← hAe]; exact Or.inr h
  have hS : va_S F s.heap s.heap [] := va_S.rf
  have hP : va_P dG vwCl (xW A cA L P G V R N Y S wd tb ft fl ce nh mo) s.heap := hP
  have hl := lv_entry ([.ref (A 0), .int k]) (n := 3) (Nat.le_of_ble_eq_true rfl)
  rw [lg_entry_eq]
  generalize (lg_sl ([.ref (A 0), .int k]) ++ List.replicate (3 - (lg_sl ([.ref (A 0), .int k])).length) Slot.unset).toArray = ls at hl ⊢
  have hl : lv_has ls 3 [(0, .ref (A 0)), (1, .int k)] := hl
  refine lv_iload_n hx hb dX0_repair_0 rfl (lv_at hl 1 rfl) ?_
  refine lv_iconst (v := 0) hx hb dX0_repair_1 (by decide) ?_
  refine lv_aload_n hx hb dX0_repair_2 rfl (lv_at hl 0 rfl) ?_
  refine va_get (D := dG) (ci := 0) (v := .int tb) (C := RX0) (T := TX0) (N := 15) hx hb hts hinX hown hK hP 0 rfl rfl 9 (by decide) (hts (.fieldLink RX0 48 "TidegateBourse" "turbines" "I") (by decide +kernel)) (fun _ h9 => h9) rfl dX0_repair_3 ?_
  refine lv_iconst (v := 1) hx hb dX0_repair_6 (by decide) ?_
  refine lv_isub hx hb dX0_repair_7 ?_
  by_cases g1 : oI k 0 (tb - 1)
  · refine vx_callv (vx_runS (As := [.int k, .int 0, .int (tb - 1)]) (rest := []) ⟨hx, hb, hml, hown, hts⟩ (c_requireIndex_no l hl0 a s.heap k 0 (tb - 1) g1) (va_cwS 3 hts gX0_repair_X0_requireIndex rfl rfl rfl (by decide +kernel) ⟨Nat.le_of_ble_eq_true rfl, Nat.le_of_ble_eq_true rfl⟩) ⟨fun a U g mk q => ⟨q.1, q.2.1, q.2.2.calling g mk a⟩, fun U hU hW => ⟨rfl, hU, hE.go hW hS (fun q h => hA q (Nat.le_trans hS.1 h))⟩⟩ rfl rfl hl.1 rfl (lv_room (Nat.le_of_ble_eq_true rfl)) dX0_repair_8 ⟨Nat.le_of_ble_eq_true rfl, Nat.le_of_ble_eq_true rfl⟩) hS (fun q _ h => h.elim) (fun q h => hA q (Nat.le_trans hS.1 h)) (fun q _ h => h.elim) (fun E ce q9 u t H1 locs1 ht hvm hp hB hz1 hk1 hS hce hcv hcl => ?_) (fun u t H1 locs1 ht hvm hw hB hz1 hk1 hS => hw.elim)
    exact vx_out (fun x hx => (ht9 x hx).elim) hlocks hce hcv hcl (fun t9 h9 _ => ⟨u, ⟨hp, by unfold kRep; rw [if_pos g1]⟩, hB, by rw [h9]; exact hz1, fun q hq _ => by rw [h9]; exact hk1 q hq (fun h => h)⟩) hS.2.2 (by omega) (by omega)
  · refine va_callv (va_runS (As := [.int k, .int 0, .int (tb - 1)]) (rest := []) ⟨hx, hb, hml, hown, hts⟩ (c_requireIndex_ok l s.heap k 0 (tb - 1) g1) (va_cwS 3 hts gX0_repair_X0_requireIndex rfl rfl rfl (by decide +kernel) ⟨Nat.le_of_ble_eq_true rfl, Nat.le_of_ble_eq_true rfl⟩) ⟨fun a U g mk q => q, fun U hU hW => ⟨rfl, hU⟩⟩ rfl rfl hl.1 rfl (lv_room (Nat.le_of_ble_eq_true rfl)) dX0_repair_8 ⟨Nat.le_of_ble_eq_true rfl, Nat.le_of_ble_eq_true rfl⟩) hS (fun q _ h => h.elim) (fun q h => h.elim) (fun u1 t H1 locs ht hvm hw hB hz1 hk1 hS => ?_)
    have e9 := hB.symm.trans ht
    subst e9
    refine lv_aload_n hx hb dX0_repair_11 rfl (lv_at hl 0 rfl) ?_
    refine va_get (D := dG) (ci := 0) (v := .ref (A 4)) (C := RX0) (T := TX0) (N := 15) hx hb hts hinX hown hK hP 0 rfl rfl 3 (by decide) (hts (.fieldLink RX0 19 "TidegateBourse" "wears" "[I") (by decide +kernel)) (fun _ h9 => h9) rfl dX0_repair_12 ?_
    refine lv_iload_n hx hb dX0_repair_15 rfl (lv_at hl 1 rfl) ?_
    refine va_iald hx hb hK hP 4 0 rfl rfl (vp_pred g1 htb.1 htb.2) dX0_repair_16 ?_
    refine lv_istore_n (lv' := [(2, .int (V k.toNatClampNeg)), (0, .ref (A 0)), (1, .int k)]) hx hb dX0_repair_17 rfl hl (by decide) rfl (fun ls hl => ?_)
    refine lv_aload_n hx hb dX0_repair_18 rfl (lv_at hl 1 rfl) ?_
    refine va_get (D := dG) (ci := 0) (v := .ref (A 4)) (C := RX0) (T := TX0) (N := 15) hx hb hts hinX hown hK hP 0 rfl rfl 3 (by decide) (hts (.fieldLink RX0 19 "TidegateBourse" "wears" "[I") (by decide +kernel)) (fun _ h9 => h9) rfl dX0_repair_19 ?_
    refine lv_iload_n hx hb dX0_repair_22 rfl (lv_at hl 2 rfl) ?_
    refine lv_iconst (v := 0) hx hb dX0_repair_23 (by decide) ?_
    refine va_iast hx hb hK hP hD hS 4 0 rfl rfl (vp_pred g1 htb.1 htb.2) dX0_repair_24 (fun H locs hP hD hS => ?_)
    have hP : va_P dG vwCl (xW A cA L P G (upd V k.toNatClampNeg 0) R N Y S wd tb ft fl ce nh mo) H := hP
    have hD : va_D F (xW A cA L P G (upd V k.toNatClampNeg 0) R N Y S wd tb ft fl ce nh mo) := hD
    refine lv_aload_n hx hb dX0_repair_25 rfl (lv_at hl 1 rfl) ?_
    refine va_get (D := dG) (ci := 0) (v := .ref (A 5)) (C := RX0) (T := TX0) (N := 15) hx hb hts hinX hown hK hP 0 rfl rfl 4 (by decide) (hts (.fieldLink RX0 22 "TidegateBourse" "repairEnds" "[I") (by decide +kernel)) (fun _ h9 => h9) rfl dX0_repair_26 ?_
    refine lv_iload_n hx hb dX0_repair_29 rfl (lv_at hl 2 rfl) ?_
    refine lv_aload_n hx hb dX0_repair_30 rfl (lv_at hl 1 rfl) ?_
    refine va_get (D := dG) (ci := 0) (v := .int nh) (C := RX0) (T := TX0) (N := 15) hx hb hts hinX hown hK hP 0 rfl rfl 13 (by decide) (hts (.fieldLink RX0 58 "TidegateBourse" "nextHour" "I") (by decide +kernel)) (fun _ h9 => h9) rfl dX0_repair_31 ?_
    refine lv_iconst (v := 5) hx hb dX0_repair_34 (by decide) ?_
    refine lv_iadd hx hb dX0_repair_35 ?_
    refine va_iast hx hb hK hP hD hS 5 0 rfl rfl (vp_pred g1 htb.1 htb.2) dX0_repair_36 (fun H locs hP hD hS => ?_)
    have hP : va_P dG vwCl (xW A cA L P G (upd V k.toNatClampNeg 0) (upd R k.toNatClampNeg (nh + 5)) N Y S wd tb ft fl ce nh mo) H := hP
    have hD : va_D F (xW A cA L P G (upd V k.toNatClampNeg 0) (upd R k.toNatClampNeg (nh + 5)) N Y S wd tb ft fl ce nh mo) := hD
    refine lv_iload_n hx hb dX0_repair_37 rfl (lv_at hl 0 rfl) ?_
    refine vx_ret ?_
    refine W.widen (k := 1) (n := 6) (by omega) (by omega) ?_
    exact W.iret hx hb hr (fun t ht hW => ⟨⟨_, (L, P, G, (upd V k.toNatClampNeg 0), (upd R k.toNatClampNeg (nh + 5)), N, Y, S, wd, tb, ft, fl, ce, nh, mo), rfl, ⟨(by unfold kRep; rw [if_neg g1]), rfl, rfl⟩, by rw [ht]; exact hP, va_K.moved hW.alike hK, hD⟩, hS.F ht⟩) hS.2.2 dX0_repair_38
