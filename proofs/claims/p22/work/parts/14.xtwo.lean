set_option maxHeartbeats 4000000 in
set_option maxRecDepth 100000 in
theorem c_X0_run (l : Launch) (dG : va_G) (a A : Nat → Nat) (cA : ClassId) (Hp : Heap) (L P G V R N Y S : Nat → Int32) (wd tb ft fl ce nh : Int32) (mo : UInt32) (f : Int32) (q1 : ¬ oI f 0 1000) : Met l yX0_run wsX0_run ({ frames := 4, cells := 0, slots := 0, locals := 100 }) (va_Pc [.ref (A 0), .int f] (fun U => wPre dG (tyI cA) (xW A cA L P G V R N Y S wd tb ft fl ce nh mo) Hp U)) (va_Qi (fun (r : Int32) (u : XS) => r = (if f ≤ fl then 0 else 1) ∧ u = (L, P, G, V, R, N, Y, S, wd, tb, f, fl, ce, nh, mo)) (fun u t => wAt dG (tyI cA) (va_A (xW A cA L P G V R N Y S wd tb ft fl ce nh mo) Hp.size) (xU A cA u) t) (va_A (xW A cA L P G V R N Y S wd tb ft fl ce nh mo) Hp.size)) 0 0 (va_A (xW A cA L P G V R N Y S wd tb ft fl ce nh mo) Hp.size) := by
  refine Met.ofW (cc := cX0_run) (maxL := 2) (ret := some .boolean) (by decide) rfl ?_
  intro p e s m args below meth c s₁ B hml hv
  obtain ⟨rfl, hH, hP, hK, hD0⟩ := hv
  subst hH
  have hK : va_K dG vwCl (tyI cA) s := hK
  have hx := B.exec
  have hb := B.bytes
  have hr := B.returns
  have hts := atoms_spec (ws := wsX0_run) B.pre
  have hown : s.vm.findClass RX0 = some m.cls := findClass_of_methodNamed B.named
  have hlocks := B.notSynchronized
  have hinX : ∀ w ∈ wsX00, w ∈ wsX0_run := by decide +kernel
  have hD := hD0.self (sz := s.heap.size)
  generalize hAe : va_A (xW A cA L P G V R N Y S wd tb ft fl ce nh mo) s.heap.size = F at hD ⊢
  have hA : ∀ q : Nat, s.heap.size ≤ q → F q := fun q h => by rw [← hAe]; exact Or.inr h
  have hS : va_S F s.heap s.heap [] := va_S.rf
  have hP : va_P dG vwCl (xW A cA L P G V R N Y S wd tb ft fl ce nh mo) s.heap := hP
  have hl := lv_entry ([.ref (A 0), .int f]) (n := 2) (Nat.le_of_ble_eq_true rfl)
  rw [lg_entry_eq]
  generalize (lg_sl ([.ref (A 0), .int f]) ++ List.replicate (2 - (lg_sl ([.ref (A 0), .int f])).length) Slot.unset).toArray = ls at hl ⊢
  have hl : lv_has ls 2 [(0, .ref (A 0)), (1, .int f)] := hl
  refine lv_iload_n hx hb dX0_run_0 rfl (lv_at hl 1 rfl) ?_
  refine lv_iconst (v := 0) hx hb dX0_run_1 (by decide) ?_
  refine lv_sipush (v := 1000) hx hb dX0_run_2 (by decide) ?_
  refine va_callv (va_runS (As := [.int f, .int 0, .int 1000]) (rest := []) ⟨hx, hb, hml, hown, hts⟩ (c_requireRange_ok l s.heap f 0 1000 q1) (va_cwS 3 hts gX0_run_X0_requireRange rfl rfl rfl (by decide +kernel) ⟨Nat.le_of_ble_eq_true rfl, Nat.le_of_ble_eq_true rfl⟩) ⟨fun a U g mk q => q, fun U hU hW => ⟨rfl, hU⟩⟩ rfl rfl hl.1 rfl (lv_room (Nat.le_of_ble_eq_true rfl)) dX0_run_5 ⟨Nat.le_of_ble_eq_true rfl, Nat.le_of_ble_eq_true rfl⟩) hS (fun q _ h => h.elim) (fun q h => h.elim) (fun u1 t H1 locs ht hvm hw hB hz1 hk1 hS => ?_)
  have e9 := hB.symm.trans ht
  subst e9
  refine lv_aload_n hx hb dX0_run_8 rfl (lv_at hl 0 rfl) ?_
  refine lv_iload_n hx hb dX0_run_9 rfl (lv_at hl 1 rfl) ?_
  refine va_put (D := dG) (ci := 0) (v := .int f) (ty := .int) (C := RX0) (T := TX0) (N := 15) hx hb hts hinX tyX0 tyX0_ok nmX0 hown hK hP hD hS 0 rfl rfl 10 (by decide) (hts (.fieldLink RX0 61 "TidegateBourse" "fishTold" "I") (by decide +kernel)) (fun _ h9 => h9) rfl (by decide +kernel) rfl rfl (Nat.le_of_ble_eq_true rfl) dX0_run_10 (fun H locs hP hD hS => ?_)
  have hP : va_P dG vwCl (xW A cA L P G V R N Y S wd tb f fl ce nh mo) H := hP
  have hD : va_D F (xW A cA L P G V R N Y S wd tb f fl ce nh mo) := hD
  refine lv_iload_n hx hb dX0_run_13 rfl (lv_at hl 1 rfl) ?_
  refine lv_aload_n hx hb dX0_run_14 rfl (lv_at hl 0 rfl) ?_
  refine va_get (D := dG) (ci := 0) (v := .int fl) (C := RX0) (T := TX0) (N := 15) hx hb hts hinX hown hK hP 0 rfl rfl 11 (by decide) (hts (.fieldLink RX0 34 "TidegateBourse" "fishLimit" "I") (by decide +kernel)) (fun _ h9 => h9) rfl dX0_run_15 ?_
  refine lv_icmp_le (tgt := 25) hx hb dX0_run_18 (by decide) (fun cq2 => ?_) (fun cq2 => ?_)
  · refine lv_iconst (v := 0) hx hb dX0_run_25 (by decide) ?_
    exact W.zret hx hb hr rfl (fun t ht hW => ⟨⟨_, (L, P, G, V, R, N, Y, S, wd, tb, f, fl, ce, nh, mo), rfl, ⟨(by rw [if_pos cq2]), rfl⟩, by rw [ht]; exact hP, va_K.moved hW.alike hK, hD⟩, hS.F ht⟩) hS.2.2 dX0_run_26
  · refine lv_iconst (v := 1) hx hb dX0_run_21 (by decide) ?_
    refine lv_goto (tgt := 26) hx hb dX0_run_22 (by decide) ?_
    exact W.zret hx hb hr rfl (fun t ht hW => ⟨⟨_, (L, P, G, V, R, N, Y, S, wd, tb, f, fl, ce, nh, mo), rfl, ⟨(by rw [if_neg cq2]), rfl⟩, by rw [ht]; exact hP, va_K.moved hW.alike hK, hD⟩, hS.F ht⟩) hS.2.2 dX0_run_26
set_option maxHeartbeats 4000000 in
set_option maxRecDepth 100000 in
theorem c_X0_limit (l : Launch) (dG : va_G) (a A : Nat → Nat) (cA : ClassId) (Hp : Heap) (L P G V R N Y S : Nat → Int32) (wd tb ft fl ce nh : Int32) (mo : UInt32) (f : Int32) (q1 : ¬ oI f 0 1000) : Met l yX0_limit wsX0_limit ({ frames := 4, cells := 0, slots := 0, locals := 100 }) (va_Pc [.ref (A 0), .int f] (fun U => wPre dG (tyI cA) (xW A cA L P G V R N Y S wd tb ft fl ce nh mo) Hp U)) (va_Qi (fun (r : Int32) (u : XS) => r = fl ∧ u = (L, P, G, V, R, N, Y, S, wd, tb, ft, f, ce, nh, mo)) (fun u t => wAt dG (tyI cA) (va_A (xW A cA L P G V R N Y S wd tb ft fl ce nh mo) Hp.size) (xU A cA u) t) (va_A (xW A cA L P G V R N Y S wd tb ft fl ce nh mo) Hp.size)) 0 0 (va_A (xW A cA L P G V R N Y S wd tb ft fl ce nh mo) Hp.size) := by
  refine Met.ofW (cc := cX0_limit) (maxL := 3) (ret := some .int) (by decide) rfl ?_
  intro p e s m args below meth c s₁ B hml hv
  obtain ⟨rfl, hH, hP, hK, hD0⟩ := hv
  subst hH
  have hK : va_K dG vwCl (tyI cA) s := hK
  have hx := B.exec
  have hb := B.bytes
  have hr := B.returns
  have hts := atoms_spec (ws := wsX0_limit) B.pre
  have hown : s.vm.findClass RX0 = some m.cls := findClass_of_methodNamed B.named
  have hlocks := B.notSynchronized
  have hinX : ∀ w ∈ wsX00, w ∈ wsX0_limit := by decide +kernel
  have hD := hD0.self (sz := s.heap.size)
  generalize hAe : va_A (xW A cA L P G V R N Y S wd tb ft fl ce nh mo) s.heap.size = F at hD ⊢
  have hA : ∀ q : Nat, s.heap.size ≤ q → F q := fun q h => by rw [← hAe]; exact Or.inr h
  have hS : va_S F s.heap s.heap [] := va_S.rf
  have hP : va_P dG vwCl (xW A cA L P G V R N Y S wd tb ft fl ce nh mo) s.heap := hP
  have hl := lv_entry ([.ref (A 0), .int f]) (n := 3) (Nat.le_of_ble_eq_true rfl)
  rw [lg_entry_eq]
  generalize (lg_sl ([.ref (A 0), .int f]) ++ List.replicate (3 - (lg_sl ([.ref (A 0), .int f])).length) Slot.unset).toArray = ls at hl ⊢
  have hl : lv_has ls 3 [(0, .ref (A 0)), (1, .int f)] := hl
  refine lv_iload_n hx hb dX0_limit_0 rfl (lv_at hl 1 rfl) ?_
  refine lv_iconst (v := 0) hx hb dX0_limit_1 (by decide) ?_
  refine lv_sipush (v := 1000) hx hb dX0_limit_2 (by decide) ?_
  refine va_callv (va_runS (As := [.int f, .int 0, .int 1000]) (rest := []) ⟨hx, hb, hml, hown, hts⟩ (c_requireRange_ok l s.heap f 0 1000 q1) (va_cwS 3 hts gX0_limit_X0_requireRange rfl rfl rfl (by decide +kernel) ⟨Nat.le_of_ble_eq_true rfl, Nat.le_of_ble_eq_true rfl⟩) ⟨fun a U g mk q => q, fun U hU hW => ⟨rfl, hU⟩⟩ rfl rfl hl.1 rfl (lv_room (Nat.le_of_ble_eq_true rfl)) dX0_limit_5 ⟨Nat.le_of_ble_eq_true rfl, Nat.le_of_ble_eq_true rfl⟩) hS (fun q _ h => h.elim) (fun q h => h.elim) (fun u1 t H1 locs ht hvm hw hB hz1 hk1 hS => ?_)
  have e9 := hB.symm.trans ht
  subst e9
  refine lv_aload_n hx hb dX0_limit_8 rfl (lv_at hl 0 rfl) ?_
  refine va_get (D := dG) (ci := 0) (v := .int fl) (C := RX0) (T := TX0) (N := 15) hx hb hts hinX hown hK hP 0 rfl rfl 11 (by decide) (hts (.fieldLink RX0 34 "TidegateBourse" "fishLimit" "I") (by decide +kernel)) (fun _ h9 => h9) rfl dX0_limit_9 ?_
  refine lv_istore_n (lv' := [(2, .int fl), (0, .ref (A 0)), (1, .int f)]) hx hb dX0_limit_12 rfl hl (by decide) rfl (fun ls hl => ?_)
  refine lv_aload_n hx hb dX0_limit_13 rfl (lv_at hl 1 rfl) ?_
  refine lv_iload_n hx hb dX0_limit_14 rfl (lv_at hl 2 rfl) ?_
  refine va_put (D := dG) (ci := 0) (v := .int f) (ty := .int) (C := RX0) (T := TX0) (N := 15) hx hb hts hinX tyX0 tyX0_ok nmX0 hown hK hP hD hS 0 rfl rfl 11 (by decide) (hts (.fieldLink RX0 34 "TidegateBourse" "fishLimit" "I") (by decide +kernel)) (fun _ h9 => h9) rfl (by decide +kernel) rfl rfl (Nat.le_of_ble_eq_true rfl) dX0_limit_15 (fun H locs hP hD hS => ?_)
  have hP : va_P dG vwCl (xW A cA L P G V R N Y S wd tb ft f ce nh mo) H := hP
  have hD : va_D F (xW A cA L P G V R N Y S wd tb ft f ce nh mo) := hD
  refine lv_iload_n hx hb dX0_limit_18 rfl (lv_at hl 0 rfl) ?_
  exact W.iret hx hb hr (fun t ht hW => ⟨⟨_, (L, P, G, V, R, N, Y, S, wd, tb, ft, f, ce, nh, mo), rfl, ⟨rfl, rfl⟩, by rw [ht]; exact hP, va_K.moved hW.alike hK, hD⟩, hS.F ht⟩) hS.2.2 dX0_limit_19
set_option maxHeartbeats 4000000 in
set_option maxRecDepth 100000 in
theorem c_X0_sell (l : Launch) (dG : va_G) (a A : Nat → Nat) (cA : ClassId) (Hp : Heap) (L P G V R N Y S : Nat → Int32) (wd tb ft fl ce nh : Int32) (mo : UInt32) (h : Int32) (un : Int32) (q : Int32) (hnh : 0 ≤ nh.toInt ∧ nh.toInt ≤ 500) (q1 : ¬ oI h nh (nh + 47)) (q2 : ¬ oI un 1 500) (q3 : ¬ oI q 1 200) (hs : S h.toNatClampNeg + un ≤ 1000) (hn : vf_n32 (FP.fmul (FP.i2f un) (FP.i2f q))) (hm : vf_n32 (FP.fadd mo (fWorth un q))) : Met l yX0_sell wsX0_sell ({ frames := 4, cells := 0, slots := 0, locals := 100 }) (va_Pc [.ref (A 0), .int h, .int un, .int q] (fun U => wPre dG (tyI cA) (xW A cA L P G V R N Y S wd tb ft fl ce nh mo) Hp U)) (va_Qi (fun (r : Int32) (u : XS) => r = S h.toNatClampNeg + un ∧ u = (L, P, G, V, R, N, Y, (upd S h.toNatClampNeg (S h.toNatClampNeg + un)), wd, tb, ft, fl, ce, nh, (FP.fadd mo (fWorth un q)))) (fun u t => wAt dG (tyI cA) (va_A (xW A cA L P G V R N Y S wd tb ft fl ce nh mo) Hp.size) (xU A cA u) t) (va_A (xW A cA L P G V R N Y S wd tb ft fl ce nh mo) Hp.size)) 0 0 (va_A (xW A cA L P G V R N Y S wd tb ft fl ce nh mo) Hp.size) := by
  refine Met.ofW (cc := cX0_sell) (maxL := 4) (ret := some .int) (by decide) rfl ?_
  intro p e s m args below meth c s₁ B hml hv
  obtain ⟨rfl, hH, hP, hK, hD0⟩ := hv
  subst hH
  have hK : va_K dG vwCl (tyI cA) s := hK
  have hx := B.exec
  have hb := B.bytes
  have hr := B.returns
  have hts := atoms_spec (ws := wsX0_sell) B.pre
  have hown : s.vm.findClass RX0 = some m.cls := findClass_of_methodNamed B.named
  have hlocks := B.notSynchronized
  have hinX : ∀ w ∈ wsX00, w ∈ wsX0_sell := by decide +kernel
  have hD := hD0.self (sz := s.heap.size)
  generalize hAe : va_A (xW A cA L P G V R N Y S wd tb ft fl ce nh mo) s.heap.size = F at hD ⊢
  have hA : ∀ q : Nat, s.heap.size ≤ q → F q := fun q h => by rw [← hAe]; exact Or.inr h
  have hS : va_S F s.heap s.heap [] := va_S.rf
  have hP : va_P dG vwCl (xW A cA L P G V R N Y S wd tb ft fl ce nh mo) s.heap := hP
  have hl := lv_entry ([.ref (A 0), .int h, .int un, .int q]) (n := 4) (Nat.le_of_ble_eq_true rfl)
  rw [lg_entry_eq]
  generalize (lg_sl ([.ref (A 0), .int h, .int un, .int q]) ++ List.replicate (4 - (lg_sl ([.ref (A 0), .int h, .int un, .int q])).length) Slot.unset).toArray = ls at hl ⊢
  have hl : lv_has ls 4 [(0, .ref (A 0)), (1, .int h), (2, .int un), (3, .int q)] := hl
  refine lv_iload_n hx hb dX0_sell_0 rfl (lv_at hl 1 rfl) ?_
  refine lv_aload_n hx hb dX0_sell_1 rfl (lv_at hl 0 rfl) ?_
  refine va_get (D := dG) (ci := 0) (v := .int nh) (C := RX0) (T := TX0) (N := 15) hx hb hts hinX hown hK hP 0 rfl rfl 13 (by decide) (hts (.fieldLink RX0 58 "TidegateBourse" "nextHour" "I") (by decide +kernel)) (fun _ h9 => h9) rfl dX0_sell_2 ?_
  refine lv_aload_n hx hb dX0_sell_5 rfl (lv_at hl 0 rfl) ?_
  refine va_get (D := dG) (ci := 0) (v := .int nh) (C := RX0) (T := TX0) (N := 15) hx hb hts hinX hown hK hP 0 rfl rfl 13 (by decide) (hts (.fieldLink RX0 58 "TidegateBourse" "nextHour" "I") (by decide +kernel)) (fun _ h9 => h9) rfl dX0_sell_6 ?_
  refine lv_bipush (v := 47) hx hb dX0_sell_9 (by decide) ?_
  refine lv_iadd hx hb dX0_sell_11 ?_
  refine va_callv (va_runS (As := [.int h, .int nh, .int (nh + 47)]) (rest := []) ⟨hx, hb, hml, hown, hts⟩ (c_requireIndex_ok l s.heap h nh (nh + 47) q1) (va_cwS 3 hts gX0_sell_X0_requireIndex rfl rfl rfl (by decide +kernel) ⟨Nat.le_of_ble_eq_true rfl, Nat.le_of_ble_eq_true rfl⟩) ⟨fun a U g mk q => q, fun U hU hW => ⟨rfl, hU⟩⟩ rfl rfl hl.1 rfl (lv_room (Nat.le_of_ble_eq_true rfl)) dX0_sell_12 ⟨Nat.le_of_ble_eq_true rfl, Nat.le_of_ble_eq_true rfl⟩) hS (fun q _ h => h.elim) (fun q h => h.elim) (fun u1 t H1 locs ht hvm hw hB hz1 hk1 hS => ?_)
  have e9 := hB.symm.trans ht
  subst e9
  refine lv_iload_n hx hb dX0_sell_15 rfl (lv_at hl 2 rfl) ?_
  refine lv_iconst (v := 1) hx hb dX0_sell_16 (by decide) ?_
  refine lv_sipush (v := 500) hx hb dX0_sell_17 (by decide) ?_
  refine va_callv (va_runS (As := [.int un, .int 1, .int 500]) (rest := []) ⟨hx, hb, hml, hown, hts⟩ (c_requireRange_ok l s.heap un 1 500 q2) (va_cwS 3 hts gX0_sell_X0_requireRange rfl rfl rfl (by decide +kernel) ⟨Nat.le_of_ble_eq_true rfl, Nat.le_of_ble_eq_true rfl⟩) ⟨fun a U g mk q => q, fun U hU hW => ⟨rfl, hU⟩⟩ rfl rfl hl.1 rfl (lv_room (Nat.le_of_ble_eq_true rfl)) dX0_sell_20 ⟨Nat.le_of_ble_eq_true rfl, Nat.le_of_ble_eq_true rfl⟩) hS (fun q _ h => h.elim) (fun q h => h.elim) (fun u2 t H1 locs ht hvm hw hB hz1 hk1 hS => ?_)
  have e9 := hB.symm.trans ht
  subst e9
  refine lv_iload_n hx hb dX0_sell_23 rfl (lv_at hl 3 rfl) ?_
  refine lv_iconst (v := 1) hx hb dX0_sell_24 (by decide) ?_
  refine lv_sipush (v := 200) hx hb dX0_sell_25 (by decide) ?_
  refine va_callv (va_runS (As := [.int q, .int 1, .int 200]) (rest := []) ⟨hx, hb, hml, hown, hts⟩ (c_requireRange_ok l s.heap q 1 200 q3) (va_cwS 3 hts gX0_sell_X0_requireRange rfl rfl rfl (by decide +kernel) ⟨Nat.le_of_ble_eq_true rfl, Nat.le_of_ble_eq_true rfl⟩) ⟨fun a U g mk q => q, fun U hU hW => ⟨rfl, hU⟩⟩ rfl rfl hl.1 rfl (lv_room (Nat.le_of_ble_eq_true rfl)) dX0_sell_28 ⟨Nat.le_of_ble_eq_true rfl, Nat.le_of_ble_eq_true rfl⟩) hS (fun q _ h => h.elim) (fun q h => h.elim) (fun u3 t H1 locs ht hvm hw hB hz1 hk1 hS => ?_)
  have e9 := hB.symm.trans ht
  subst e9
  refine lv_aload_n hx hb dX0_sell_31 rfl (lv_at hl 0 rfl) ?_
  refine va_get (D := dG) (ci := 0) (v := .ref (A 8)) (C := RX0) (T := TX0) (N := 15) hx hb hts hinX hown hK hP 0 rfl rfl 7 (by decide) (hts (.fieldLink RX0 31 "TidegateBourse" "soldUnits" "[I") (by decide +kernel)) (fun _ h9 => h9) rfl dX0_sell_32 ?_
  refine lv_iload_n hx hb dX0_sell_35 rfl (lv_at hl 1 rfl) ?_
  refine va_iald hx hb hK hP 8 0 rfl rfl (vp_47 q1 hnh.1 hnh.1 hnh.2 (by decide)) dX0_sell_36 ?_
  refine lv_iload_n hx hb dX0_sell_37 rfl (lv_at hl 2 rfl) ?_
  refine lv_iadd hx hb dX0_sell_38 ?_
  refine lv_sipush (v := 1000) hx hb dX0_sell_39 (by decide) ?_
  refine lv_icmp_le (tgt := 55) hx hb dX0_sell_42 (by decide) (fun _ => ?_) (fun h9 => absurd hs h9)
  refine lv_aload_n hx hb dX0_sell_55 rfl (lv_at hl 0 rfl) ?_
  refine va_get (D := dG) (ci := 0) (v := .ref (A 8)) (C := RX0) (T := TX0) (N := 15) hx hb hts hinX hown hK hP 0 rfl rfl 7 (by decide) (hts (.fieldLink RX0 31 "TidegateBourse" "soldUnits" "[I") (by decide +kernel)) (fun _ h9 => h9) rfl dX0_sell_56 ?_
  refine lv_iload_n hx hb dX0_sell_59 rfl (lv_at hl 1 rfl) ?_
  refine lv_dup2_11 hx hb dX0_sell_60 rfl rfl ?_
  refine va_iald hx hb hK hP 8 0 rfl rfl (vp_47 q1 hnh.1 hnh.1 hnh.2 (by decide)) dX0_sell_61 ?_
  refine lv_iload_n hx hb dX0_sell_62 rfl (lv_at hl 2 rfl) ?_
  refine lv_iadd hx hb dX0_sell_63 ?_
  refine va_iast hx hb hK hP hD hS 8 0 rfl rfl (vp_47 q1 hnh.1 hnh.1 hnh.2 (by decide)) dX0_sell_64 (fun H locs hP hD hS => ?_)
  have hP : va_P dG vwCl (xW A cA L P G V R N Y (upd S h.toNatClampNeg ((S h.toNatClampNeg) + un)) wd tb ft fl ce nh mo) H := hP
  have hD : va_D F (xW A cA L P G V R N Y (upd S h.toNatClampNeg ((S h.toNatClampNeg) + un)) wd tb ft fl ce nh mo) := hD
  refine lv_aload_n hx hb dX0_sell_65 rfl (lv_at hl 0 rfl) ?_
  refine lv_aload_n hx hb dX0_sell_66 rfl (lv_at hl 0 rfl) ?_
  refine va_get (D := dG) (ci := 0) (v := .float mo) (C := RX0) (T := TX0) (N := 15) hx hb hts hinX hown hK hP 0 rfl rfl 14 (by decide) (hts (.fieldLink RX0 66 "TidegateBourse" "balance" "F") (by decide +kernel)) (fun _ h9 => h9) rfl dX0_sell_67 ?_
  refine lv_iload_n hx hb dX0_sell_70 rfl (lv_at hl 2 rfl) ?_
  refine lv_iload_n hx hb dX0_sell_71 rfl (lv_at hl 3 rfl) ?_
  refine va_callf (va_runS (As := [.int un, .int q]) (rest := [.float mo, .ref (A 0)]) ⟨hx, hb, hml, hown, hts⟩ (c_X0_worth l H un q hn) (va_cwS 2 hts gX0_sell_X0_worth rfl rfl rfl (by decide +kernel) ⟨Nat.le_of_ble_eq_true rfl, Nat.le_of_ble_eq_true rfl⟩) ⟨fun a U g mk q => q, fun U hU hW => ⟨rfl, hU⟩⟩ rfl rfl hl.1 rfl (lv_room (Nat.le_of_ble_eq_true rfl)) dX0_sell_72 ⟨Nat.le_of_ble_eq_true rfl, Nat.le_of_ble_eq_true rfl⟩) hS (fun q _ h => h.elim) (fun q h => h.elim) (fun r4 u4 t H1 locs ht hvm hw hB hz1 hk1 hS => ?_)
  have e9 := hB.symm.trans ht
  subst e9
  subst hw
  refine lv_fadd hx hb dX0_sell_75 hm ?_
  refine va_put (D := dG) (ci := 0) (v := .float (FP.fadd mo (fWorth un q))) (ty := .float) (C := RX0) (T := TX0) (N := 15) hx hb hts hinX tyX0 tyX0_ok nmX0 hown hK hP hD hS 0 rfl rfl 14 (by decide) (hts (.fieldLink RX0 66 "TidegateBourse" "balance" "F") (by decide +kernel)) (fun _ h9 => h9) rfl (by decide +kernel) rfl rfl (Nat.le_of_ble_eq_true rfl) dX0_sell_76 (fun H locs hP hD hS => ?_)
  have hP : va_P dG vwCl (xW A cA L P G V R N Y (upd S h.toNatClampNeg ((S h.toNatClampNeg) + un)) wd tb ft fl ce nh (FP.fadd mo (fWorth un q))) H := hP
  have hD : va_D F (xW A cA L P G V R N Y (upd S h.toNatClampNeg ((S h.toNatClampNeg) + un)) wd tb ft fl ce nh (FP.fadd mo (fWorth un q))) := hD
  refine lv_aload_n hx hb dX0_sell_79 rfl (lv_at hl 0 rfl) ?_
  refine va_get (D := dG) (ci := 0) (v := .ref (A 8)) (C := RX0) (T := TX0) (N := 15) hx hb hts hinX hown hK hP 0 rfl rfl 7 (by decide) (hts (.fieldLink RX0 31 "TidegateBourse" "soldUnits" "[I") (by decide +kernel)) (fun _ h9 => h9) rfl dX0_sell_80 ?_
  refine lv_iload_n hx hb dX0_sell_83 rfl (lv_at hl 1 rfl) ?_
  refine va_iald hx hb hK hP 8 0 rfl rfl (vp_47 q1 hnh.1 hnh.1 hnh.2 (by decide)) dX0_sell_84 ?_
  exact W.iret hx hb hr (fun t ht hW => ⟨⟨_, (L, P, G, V, R, N, Y, (upd S h.toNatClampNeg ((S h.toNatClampNeg) + un)), wd, tb, ft, fl, ce, nh, (FP.fadd mo (fWorth un q))), rfl, ⟨pk_us, rfl⟩, by rw [ht]; exact hP, va_K.moved hW.alike hK, hD⟩, hS.F ht⟩) hS.2.2 dX0_sell_85
set_option maxHeartbeats 4000000 in
set_option maxRecDepth 100000 in
theorem c_X0_now (l : Launch) (dG : va_G) (a A : Nat → Nat) (cA : ClassId) (Hp : Heap) (L P G V R N Y S : Nat → Int32) (wd tb ft fl ce nh : Int32) (mo : UInt32)  : Met l yX0_now wsX0_now ({ frames := 4, cells := 0, slots := 0, locals := 100 }) (va_Pc [.ref (A 0)] (fun U => wPre dG (tyI cA) (xW A cA L P G V R N Y S wd tb ft fl ce nh mo) Hp U)) (va_Qi (fun (r : Int32) (_ : Unit) => r = nh) (fun _ t => t.heap = Hp) (fun _ => False)) 0 0 (va_A (xW A cA L P G V R N Y S wd tb ft fl ce nh mo) Hp.size) := by
  refine Met.ofW (cc := cX0_now) (maxL := 1) (ret := some .int) (by decide) rfl ?_
  intro p e s m args below meth c s₁ B hml hv
  obtain ⟨rfl, hH, hP, hK, hD0⟩ := hv
  subst hH
  have hK : va_K dG vwCl (tyI cA) s := hK
  have hx := B.exec
  have hb := B.bytes
  have hr := B.returns
  have hts := atoms_spec (ws := wsX0_now) B.pre
  have hown : s.vm.findClass RX0 = some m.cls := findClass_of_methodNamed B.named
  have hlocks := B.notSynchronized
  have hinX : ∀ w ∈ wsX00, w ∈ wsX0_now := by decide +kernel
  have hD := hD0.self (sz := s.heap.size)
  generalize hAe : va_A (xW A cA L P G V R N Y S wd tb ft fl ce nh mo) s.heap.size = F at hD ⊢
  have hA : ∀ q : Nat, s.heap.size ≤ q → F q := fun q h => by rw [← hAe]; exact Or.inr h
  have hS : va_S F s.heap s.heap [] := va_S.rf
  have hP : va_P dG vwCl (xW A cA L P G V R N Y S wd tb ft fl ce nh mo) s.heap := hP
  have hl := lv_entry ([.ref (A 0)]) (n := 1) (Nat.le_of_ble_eq_true rfl)
  rw [lg_entry_eq]
  generalize (lg_sl ([.ref (A 0)]) ++ List.replicate (1 - (lg_sl ([.ref (A 0)])).length) Slot.unset).toArray = ls at hl ⊢
  have hl : lv_has ls 1 [(0, .ref (A 0))] := hl
  refine lv_aload_n hx hb dX0_now_0 rfl (lv_at hl 0 rfl) ?_
  refine va_get (D := dG) (ci := 0) (v := .int nh) (C := RX0) (T := TX0) (N := 15) hx hb hts hinX hown hK hP 0 rfl rfl 13 (by decide) (hts (.fieldLink RX0 58 "TidegateBourse" "nextHour" "I") (by decide +kernel)) (fun _ h9 => h9) rfl dX0_now_1 ?_
  exact W.iret hx hb hr (fun t ht hW => ⟨⟨_, (), rfl, rfl, ht⟩, (va_S.rf (A := fun _ => False)).F ht⟩) hS.2.2 dX0_now_4
set_option maxHeartbeats 4000000 in
set_option maxRecDepth 100000 in
theorem c_X0_made (l : Launch) (dG : va_G) (a A : Nat → Nat) (cA : ClassId) (Hp : Heap) (L P G V R N Y S : Nat → Int32) (wd tb ft fl ce nh : Int32) (mo : UInt32) (h : Int32) (hnh : 0 ≤ nh.toInt ∧ nh.toInt ≤ 500) (q1 : ¬ oI h 0 (nh - 1)) : Met l yX0_made wsX0_made ({ frames := 4, cells := 0, slots := 0, locals := 100 }) (va_Pc [.ref (A 0), .int h] (fun U => wPre dG (tyI cA) (xW A cA L P G V R N Y S wd tb ft fl ce nh mo) Hp U)) (va_Qi (fun (r : Int32) (_ : Unit) => r = Y h.toNatClampNeg) (fun _ t => t.heap = Hp) (fun _ => False)) 0 0 (va_A (xW A cA L P G V R N Y S wd tb ft fl ce nh mo) Hp.size) := by
  refine Met.ofW (cc := cX0_made) (maxL := 2) (ret := some .int) (by decide) rfl ?_
  intro p e s m args below meth c s₁ B hml hv
  obtain ⟨rfl, hH, hP, hK, hD0⟩ := hv
  subst hH
  have hK : va_K dG vwCl (tyI cA) s := hK
  have hx := B.exec
  have hb := B.bytes
  have hr := B.returns
  have hts := atoms_spec (ws := wsX0_made) B.pre
  have hown : s.vm.findClass RX0 = some m.cls := findClass_of_methodNamed B.named
  have hlocks := B.notSynchronized
  have hinX : ∀ w ∈ wsX00, w ∈ wsX0_made := by decide +kernel
  have hD := hD0.self (sz := s.heap.size)
  generalize hAe : va_A (xW A cA L P G V R N Y S wd tb ft fl ce nh mo) s.heap.size = F at hD ⊢
  have hA : ∀ q : Nat, s.heap.size ≤ q → F q := fun q h => by rw [← hAe]; exact Or.inr h
  have hS : va_S F s.heap s.heap [] := va_S.rf
  have hP : va_P dG vwCl (xW A cA L P G V R N Y S wd tb ft fl ce nh mo) s.heap := hP
  have hl := lv_entry ([.ref (A 0), .int h]) (n := 2) (Nat.le_of_ble_eq_true rfl)
  rw [lg_entry_eq]
  generalize (lg_sl ([.ref (A 0), .int h]) ++ List.replicate (2 - (lg_sl ([.ref (A 0), .int h])).length) Slot.unset).toArray = ls at hl ⊢
  have hl : lv_has ls 2 [(0, .ref (A 0)), (1, .int h)] := hl
  refine lv_iload_n hx hb dX0_made_0 rfl (lv_at hl 1 rfl) ?_
  refine lv_iconst (v := 0) hx hb dX0_made_1 (by decide) ?_
  refine lv_aload_n hx hb dX0_made_2 rfl (lv_at hl 0 rfl) ?_
  refine va_get (D := dG) (ci := 0) (v := .int nh) (C := RX0) (T := TX0) (N := 15) hx hb hts hinX hown hK hP 0 rfl rfl 13 (by decide) (hts (.fieldLink RX0 58 "TidegateBourse" "nextHour" "I") (by decide +kernel)) (fun _ h9 => h9) rfl dX0_made_3 ?_
  refine lv_iconst (v := 1) hx hb dX0_made_6 (by decide) ?_
  refine lv_isub hx hb dX0_made_7 ?_
  refine va_callv (va_runS (As := [.int h, .int 0, .int (nh - 1)]) (rest := []) ⟨hx, hb, hml, hown, hts⟩ (c_requireIndex_ok l s.heap h 0 (nh - 1) q1) (va_cwS 3 hts gX0_made_X0_requireIndex rfl rfl rfl (by decide +kernel) ⟨Nat.le_of_ble_eq_true rfl, Nat.le_of_ble_eq_true rfl⟩) ⟨fun a U g mk q => q, fun U hU hW => ⟨rfl, hU⟩⟩ rfl rfl hl.1 rfl (lv_room (Nat.le_of_ble_eq_true rfl)) dX0_made_8 ⟨Nat.le_of_ble_eq_true rfl, Nat.le_of_ble_eq_true rfl⟩) hS (fun q _ h => h.elim) (fun q h => h.elim) (fun u1 t H1 locs ht hvm hw hB hz1 hk1 hS => ?_)
  have e9 := hB.symm.trans ht
  subst e9
  refine lv_aload_n hx hb dX0_made_11 rfl (lv_at hl 0 rfl) ?_
  refine va_get (D := dG) (ci := 0) (v := .ref (A 7)) (C := RX0) (T := TX0) (N := 15) hx hb hts hinX hown hK hP 0 rfl rfl 6 (by decide) (hts (.fieldLink RX0 28 "TidegateBourse" "madeUnits" "[I") (by decide +kernel)) (fun _ h9 => h9) rfl dX0_made_12 ?_
  refine lv_iload_n hx hb dX0_made_15 rfl (lv_at hl 1 rfl) ?_
  refine va_iald hx hb hK hP 7 0 rfl rfl (vp_pred q1 hnh.1 hnh.2) dX0_made_16 ?_
  exact W.iret hx hb hr (fun t ht hW => ⟨⟨_, (), rfl, rfl, ht⟩, (va_S.rf (A := fun _ => False)).F ht⟩) hS.2.2 dX0_made_17
set_option maxHeartbeats 4000000 in
set_option maxRecDepth 100000 in
theorem c_X0_sold (l : Launch) (dG : va_G) (a A : Nat → Nat) (cA : ClassId) (Hp : Heap) (L P G V R N Y S : Nat → Int32) (wd tb ft fl ce nh : Int32) (mo : UInt32) (h : Int32) (hnh : 0 ≤ nh.toInt ∧ nh.toInt ≤ 500) (q1 : ¬ oI h 0 (nh + 47)) : Met l yX0_sold wsX0_sold ({ frames := 4, cells := 0, slots := 0, locals := 100 }) (va_Pc [.ref (A 0), .int h] (fun U => wPre dG (tyI cA) (xW A cA L P G V R N Y S wd tb ft fl ce nh mo) Hp U)) (va_Qi (fun (r : Int32) (_ : Unit) => r = S h.toNatClampNeg) (fun _ t => t.heap = Hp) (fun _ => False)) 0 0 (va_A (xW A cA L P G V R N Y S wd tb ft fl ce nh mo) Hp.size) := by
  refine Met.ofW (cc := cX0_sold) (maxL := 2) (ret := some .int) (by decide) rfl ?_
  intro p e s m args below meth c s₁ B hml hv
  obtain ⟨rfl, hH, hP, hK, hD0⟩ := hv
  subst hH
  have hK : va_K dG vwCl (tyI cA) s := hK
  have hx := B.exec
  have hb := B.bytes
  have hr := B.returns
  have hts := atoms_spec (ws := wsX0_sold) B.pre
  have hown : s.vm.findClass RX0 = some m.cls := findClass_of_methodNamed B.named
  have hlocks := B.notSynchronized
  have hinX : ∀ w ∈ wsX00, w ∈ wsX0_sold := by decide +kernel
  have hD := hD0.self (sz := s.heap.size)
  generalize hAe : va_A (xW A cA L P G V R N Y S wd tb ft fl ce nh mo) s.heap.size = F at hD ⊢
  have hA : ∀ q : Nat, s.heap.size ≤ q → F q := fun q h => by rw [← hAe]; exact Or.inr h
  have hS : va_S F s.heap s.heap [] := va_S.rf
  have hP : va_P dG vwCl (xW A cA L P G V R N Y S wd tb ft fl ce nh mo) s.heap := hP
  have hl := lv_entry ([.ref (A 0), .int h]) (n := 2) (Nat.le_of_ble_eq_true rfl)
  rw [lg_entry_eq]
  generalize (lg_sl ([.ref (A 0), .int h]) ++ List.replicate (2 - (lg_sl ([.ref (A 0), .int h])).length) Slot.unset).toArray = ls at hl ⊢
  have hl : lv_has ls 2 [(0, .ref (A 0)), (1, .int h)] := hl
  refine lv_iload_n hx hb dX0_sold_0 rfl (lv_at hl 1 rfl) ?_
  refine lv_iconst (v := 0) hx hb dX0_sold_1 (by decide) ?_
  refine lv_aload_n hx hb dX0_sold_2 rfl (lv_at hl 0 rfl) ?_
  refine va_get (D := dG) (ci := 0) (v := .int nh) (C := RX0) (T := TX0) (N := 15) hx hb hts hinX hown hK hP 0 rfl rfl 13 (by decide) (hts (.fieldLink RX0 58 "TidegateBourse" "nextHour" "I") (by decide +kernel)) (fun _ h9 => h9) rfl dX0_sold_3 ?_
  refine lv_bipush (v := 47) hx hb dX0_sold_6 (by decide) ?_
  refine lv_iadd hx hb dX0_sold_8 ?_
  refine va_callv (va_runS (As := [.int h, .int 0, .int (nh + 47)]) (rest := []) ⟨hx, hb, hml, hown, hts⟩ (c_requireIndex_ok l s.heap h 0 (nh + 47) q1) (va_cwS 3 hts gX0_sold_X0_requireIndex rfl rfl rfl (by decide +kernel) ⟨Nat.le_of_ble_eq_true rfl, Nat.le_of_ble_eq_true rfl⟩) ⟨fun a U g mk q => q, fun U hU hW => ⟨rfl, hU⟩⟩ rfl rfl hl.1 rfl (lv_room (Nat.le_of_ble_eq_true rfl)) dX0_sold_9 ⟨Nat.le_of_ble_eq_true rfl, Nat.le_of_ble_eq_true rfl⟩) hS (fun q _ h => h.elim) (fun q h => h.elim) (fun u1 t H1 locs ht hvm hw hB hz1 hk1 hS => ?_)
  have e9 := hB.symm.trans ht
  subst e9
  refine lv_aload_n hx hb dX0_sold_12 rfl (lv_at hl 0 rfl) ?_
  refine va_get (D := dG) (ci := 0) (v := .ref (A 8)) (C := RX0) (T := TX0) (N := 15) hx hb hts hinX hown hK hP 0 rfl rfl 7 (by decide) (hts (.fieldLink RX0 31 "TidegateBourse" "soldUnits" "[I") (by decide +kernel)) (fun _ h9 => h9) rfl dX0_sold_13 ?_
  refine lv_iload_n hx hb dX0_sold_16 rfl (lv_at hl 1 rfl) ?_
  refine va_iald hx hb hK hP 8 0 rfl rfl (vp_47 q1 (by decide) hnh.1 hnh.2 (by decide)) dX0_sold_17 ?_
  exact W.iret hx hb hr (fun t ht hW => ⟨⟨_, (), rfl, rfl, ht⟩, (va_S.rf (A := fun _ => False)).F ht⟩) hS.2.2 dX0_sold_18
set_option maxHeartbeats 4000000 in
set_option maxRecDepth 100000 in
theorem c_X0_bought (l : Launch) (dG : va_G) (a A : Nat → Nat) (cA : ClassId) (Hp : Heap) (L P G V R N Y S : Nat → Int32) (wd tb ft fl ce nh : Int32) (mo : UInt32) (h : Int32) (hnh : 0 ≤ nh.toInt ∧ nh.toInt ≤ 500) (q1 : ¬ oI h 0 (nh - 1)) : Met l yX0_bought wsX0_bought ({ frames := 4, cells := 0, slots := 0, locals := 100 }) (va_Pc [.ref (A 0), .int h] (fun U => wPre dG (tyI cA) (xW A cA L P G V R N Y S wd tb ft fl ce nh mo) Hp U)) (va_Qi (fun (r : Int32) (_ : Unit) => r = (if 0 < S h.toNatClampNeg - Y h.toNatClampNeg then S h.toNatClampNeg - Y h.toNatClampNeg else 0)) (fun _ t => t.heap = Hp) (fun _ => False)) 0 0 (va_A (xW A cA L P G V R N Y S wd tb ft fl ce nh mo) Hp.size) := by
  refine Met.ofW (cc := cX0_bought) (maxL := 2) (ret := some .int) (by decide) rfl ?_
  intro p e s m args below meth c s₁ B hml hv
  obtain ⟨rfl, hH, hP, hK, hD0⟩ := hv
  subst hH
  have hK : va_K dG vwCl (tyI cA) s := hK
  have hx := B.exec
  have hb := B.bytes
  have hr := B.returns
  have hts := atoms_spec (ws := wsX0_bought) B.pre
  have hown : s.vm.findClass RX0 = some m.cls := findClass_of_methodNamed B.named
  have hlocks := B.notSynchronized
  have hinX : ∀ w ∈ wsX00, w ∈ wsX0_bought := by decide +kernel
  have hD := hD0.self (sz := s.heap.size)
  generalize hAe : va_A (xW A cA L P G V R N Y S wd tb ft fl ce nh mo) s.heap.size = F at hD ⊢
  have hA : ∀ q : Nat, s.heap.size ≤ q → F q := fun q h => by rw [← hAe]; exact Or.inr h
  have hS : va_S F s.heap s.heap [] := va_S.rf
  have hP : va_P dG vwCl (xW A cA L P G V R N Y S wd tb ft fl ce nh mo) s.heap := hP
  have hl := lv_entry ([.ref (A 0), .int h]) (n := 2) (Nat.le_of_ble_eq_true rfl)
  rw [lg_entry_eq]
  generalize (lg_sl ([.ref (A 0), .int h]) ++ List.replicate (2 - (lg_sl ([.ref (A 0), .int h])).length) Slot.unset).toArray = ls at hl ⊢
  have hl : lv_has ls 2 [(0, .ref (A 0)), (1, .int h)] := hl
  refine lv_iload_n hx hb dX0_bought_0 rfl (lv_at hl 1 rfl) ?_
  refine lv_iconst (v := 0) hx hb dX0_bought_1 (by decide) ?_
  refine lv_aload_n hx hb dX0_bought_2 rfl (lv_at hl 0 rfl) ?_
  refine va_get (D := dG) (ci := 0) (v := .int nh) (C := RX0) (T := TX0) (N := 15) hx hb hts hinX hown hK hP 0 rfl rfl 13 (by decide) (hts (.fieldLink RX0 58 "TidegateBourse" "nextHour" "I") (by decide +kernel)) (fun _ h9 => h9) rfl dX0_bought_3 ?_
  refine lv_iconst (v := 1) hx hb dX0_bought_6 (by decide) ?_
  refine lv_isub hx hb dX0_bought_7 ?_
  refine va_callv (va_runS (As := [.int h, .int 0, .int (nh - 1)]) (rest := []) ⟨hx, hb, hml, hown, hts⟩ (c_requireIndex_ok l s.heap h 0 (nh - 1) q1) (va_cwS 3 hts gX0_bought_X0_requireIndex rfl rfl rfl (by decide +kernel) ⟨Nat.le_of_ble_eq_true rfl, Nat.le_of_ble_eq_true rfl⟩) ⟨fun a U g mk q => q, fun U hU hW => ⟨rfl, hU⟩⟩ rfl rfl hl.1 rfl (lv_room (Nat.le_of_ble_eq_true rfl)) dX0_bought_8 ⟨Nat.le_of_ble_eq_true rfl, Nat.le_of_ble_eq_true rfl⟩) hS (fun q _ h => h.elim) (fun q h => h.elim) (fun u1 t H1 locs ht hvm hw hB hz1 hk1 hS => ?_)
  have e9 := hB.symm.trans ht
  subst e9
  refine lv_iconst (v := 0) hx hb dX0_bought_11 (by decide) ?_
  refine lv_aload_n hx hb dX0_bought_12 rfl (lv_at hl 0 rfl) ?_
  refine va_get (D := dG) (ci := 0) (v := .ref (A 8)) (C := RX0) (T := TX0) (N := 15) hx hb hts hinX hown hK hP 0 rfl rfl 7 (by decide) (hts (.fieldLink RX0 31 "TidegateBourse" "soldUnits" "[I") (by decide +kernel)) (fun _ h9 => h9) rfl dX0_bought_13 ?_
  refine lv_iload_n hx hb dX0_bought_16 rfl (lv_at hl 1 rfl) ?_
  refine va_iald hx hb hK hP 8 0 rfl rfl (vp_pred q1 hnh.1 (Int.le_trans hnh.2 (by decide))) dX0_bought_17 ?_
  refine lv_aload_n hx hb dX0_bought_18 rfl (lv_at hl 0 rfl) ?_
  refine va_get (D := dG) (ci := 0) (v := .ref (A 7)) (C := RX0) (T := TX0) (N := 15) hx hb hts hinX hown hK hP 0 rfl rfl 6 (by decide) (hts (.fieldLink RX0 28 "TidegateBourse" "madeUnits" "[I") (by decide +kernel)) (fun _ h9 => h9) rfl dX0_bought_19 ?_
  refine lv_iload_n hx hb dX0_bought_22 rfl (lv_at hl 1 rfl) ?_
  refine va_iald hx hb hK hP 7 0 rfl rfl (vp_pred q1 hnh.1 hnh.2) dX0_bought_23 ?_
  refine lv_isub hx hb dX0_bought_24 ?_
  refine va_mmax hx hb (hml.trans hl.1.symm) hown (hts (.methodLink RX0 84 Lib.Math.max.name) (by decide +kernel)) (hts (.static Lib.Math.max.name) (by decide +kernel)) (hts (.initialized "java/lang/Math") (by decide +kernel)) (hts (.code Lib.Math.max.name Lib.Math.max.code 2 (some .int)) (by decide +kernel)) (Nat.le_of_ble_eq_true rfl) (Nat.le_of_ble_eq_true rfl) (Nat.le_of_ble_eq_true rfl) (Nat.le_of_ble_eq_true rfl) dX0_bought_25 ?_
  exact W.iret hx hb hr (fun t ht hW => ⟨⟨_, (), rfl, rfl, ht⟩, (va_S.rf (A := fun _ => False)).F ht⟩) hS.2.2 dX0_bought_28
set_option maxHeartbeats 4000000 in
set_option maxRecDepth 100000 in
theorem c_X0_head (l : Launch) (dG : va_G) (a A : Nat → Nat) (cA : ClassId) (Hp : Heap) (L P G V R N Y S : Nat → Int32) (wd tb ft fl ce nh : Int32) (mo : UInt32) (h : Int32) (hnh : 0 ≤ nh.toInt ∧ nh.toInt ≤ 500) (q1 : ¬ oI h 0 (nh - 1)) : Met l yX0_head wsX0_head ({ frames := 4, cells := 0, slots := 0, locals := 100 }) (va_Pc [.ref (A 0), .int h] (fun U => wPre dG (tyI cA) (xW A cA L P G V R N Y S wd tb ft fl ce nh mo) Hp U)) (va_Qi (fun (r : Int32) (_ : Unit) => r = fHead (N h.toNatClampNeg)) (fun _ t => t.heap = Hp) (fun _ => False)) 0 0 (va_A (xW A cA L P G V R N Y S wd tb ft fl ce nh mo) Hp.size) := by
  refine Met.ofW (cc := cX0_head) (maxL := 2) (ret := some .int) (by decide) rfl ?_
  intro p e s m args below meth c s₁ B hml hv
  obtain ⟨rfl, hH, hP, hK, hD0⟩ := hv
  subst hH
  have hK : va_K dG vwCl (tyI cA) s := hK
  have hx := B.exec
  have hb := B.bytes
  have hr := B.returns
  have hts := atoms_spec (ws := wsX0_head) B.pre
  have hown : s.vm.findClass RX0 = some m.cls := findClass_of_methodNamed B.named
  have hlocks := B.notSynchronized
  have hinX : ∀ w ∈ wsX00, w ∈ wsX0_head := by decide +kernel
  have hD := hD0.self (sz := s.heap.size)
  generalize hAe : va_A (xW A cA L P G V R N Y S wd tb ft fl ce nh mo) s.heap.size = F at hD ⊢
  have hA : ∀ q : Nat, s.heap.size ≤ q → F q := fun q h => by rw [← hAe]; exact Or.inr h
  have hS : va_S F s.heap s.heap [] := va_S.rf
  have hP : va_P dG vwCl (xW A cA L P G V R N Y S wd tb ft fl ce nh mo) s.heap := hP
  have hl := lv_entry ([.ref (A 0), .int h]) (n := 2) (Nat.le_of_ble_eq_true rfl)
  rw [lg_entry_eq]
  generalize (lg_sl ([.ref (A 0), .int h]) ++ List.replicate (2 - (lg_sl ([.ref (A 0), .int h])).length) Slot.unset).toArray = ls at hl ⊢
  have hl : lv_has ls 2 [(0, .ref (A 0)), (1, .int h)] := hl
  refine lv_iload_n hx hb dX0_head_0 rfl (lv_at hl 1 rfl) ?_
  refine lv_iconst (v := 0) hx hb dX0_head_1 (by decide) ?_
  refine lv_aload_n hx hb dX0_head_2 rfl (lv_at hl 0 rfl) ?_
  refine va_get (D := dG) (ci := 0) (v := .int nh) (C := RX0) (T := TX0) (N := 15) hx hb hts hinX hown hK hP 0 rfl rfl 13 (by decide) (hts (.fieldLink RX0 58 "TidegateBourse" "nextHour" "I") (by decide +kernel)) (fun _ h9 => h9) rfl dX0_head_3 ?_
  refine lv_iconst (v := 1) hx hb dX0_head_6 (by decide) ?_
  refine lv_isub hx hb dX0_head_7 ?_
  refine va_callv (va_runS (As := [.int h, .int 0, .int (nh - 1)]) (rest := []) ⟨hx, hb, hml, hown, hts⟩ (c_requireIndex_ok l s.heap h 0 (nh - 1) q1) (va_cwS 3 hts gX0_head_X0_requireIndex rfl rfl rfl (by decide +kernel) ⟨Nat.le_of_ble_eq_true rfl, Nat.le_of_ble_eq_true rfl⟩) ⟨fun a U g mk q => q, fun U hU hW => ⟨rfl, hU⟩⟩ rfl rfl hl.1 rfl (lv_room (Nat.le_of_ble_eq_true rfl)) dX0_head_8 ⟨Nat.le_of_ble_eq_true rfl, Nat.le_of_ble_eq_true rfl⟩) hS (fun q _ h => h.elim) (fun q h => h.elim) (fun u1 t H1 locs ht hvm hw hB hz1 hk1 hS => ?_)
  have e9 := hB.symm.trans ht
  subst e9
  refine lv_aload_n hx hb dX0_head_11 rfl (lv_at hl 0 rfl) ?_
  refine va_get (D := dG) (ci := 0) (v := .ref (A 6)) (C := RX0) (T := TX0) (N := 15) hx hb hts hinX hown hK hP 0 rfl rfl 5 (by decide) (hts (.fieldLink RX0 25 "TidegateBourse" "notes" "[I") (by decide +kernel)) (fun _ h9 => h9) rfl dX0_head_12 ?_
  refine lv_iload_n hx hb dX0_head_15 rfl (lv_at hl 1 rfl) ?_
  refine va_iald hx hb hK hP 6 0 rfl rfl (vp_pred q1 hnh.1 hnh.2) dX0_head_16 ?_
  refine va_calli (va_runS (As := [.int (N h.toNatClampNeg)]) (rest := []) ⟨hx, hb, hml, hown, hts⟩ (c_X0_notedHead l s.heap (N h.toNatClampNeg)) (va_cwS 1 hts gX0_head_X0_notedHead rfl rfl rfl (by decide +kernel) ⟨Nat.le_of_ble_eq_true rfl, Nat.le_of_ble_eq_true rfl⟩) ⟨fun a U g mk q => q, fun U hU hW => ⟨rfl, hU⟩⟩ rfl rfl hl.1 rfl (lv_room (Nat.le_of_ble_eq_true rfl)) dX0_head_17 ⟨Nat.le_of_ble_eq_true rfl, Nat.le_of_ble_eq_true rfl⟩) hS (fun q _ h => h.elim) (fun q h => h.elim) (fun r2 u2 t H1 locs ht hvm hw hB hz1 hk1 hS => ?_)
  have e9 := hB.symm.trans ht
  subst e9
  subst hw
  exact W.iret hx hb hr (fun t ht hW => ⟨⟨_, (), rfl, rfl, ht⟩, (va_S.rf (A := fun _ => False)).F ht⟩) hS.2.2 dX0_head_20
set_option maxHeartbeats 4000000 in
set_option maxRecDepth 100000 in
theorem c_X0_about (l : Launch) (dG : va_G) (a A : Nat → Nat) (cA : ClassId) (Hp : Heap) (L P G V R N Y S : Nat → Int32) (wd tb ft fl ce nh : Int32) (mo : UInt32) (k : Int32) (w : Int32) (htb : 0 ≤ tb.toInt ∧ tb.toInt ≤ 4) (q1 : ¬ oI k 0 (tb - 1)) (q2 : ¬ oI w 0 2) : Met l yX0_about wsX0_about ({ frames := 4, cells := 0, slots := 0, locals := 100 }) (va_Pc [.ref (A 0), .int k, .int w] (fun U => wPre dG (tyI cA) (xW A cA L P G V R N Y S wd tb ft fl ce nh mo) Hp U)) (va_Qi (fun (r : Int32) (_ : Unit) => r = (if w = 0 then G k.toNatClampNeg else if w = 1 then V k.toNatClampNeg else if 0 < R k.toNatClampNeg - nh then R k.toNatClampNeg - nh else 0)) (fun _ t => t.heap = Hp) (fun _ => False)) 0 0 (va_A (xW A cA L P G V R N Y S wd tb ft fl ce nh mo) Hp.size) := by
  refine Met.ofW (cc := cX0_about) (maxL := 3) (ret := some .int) (by decide) rfl ?_
  intro p e s m args below meth c s₁ B hml hv
  obtain ⟨rfl, hH, hP, hK, hD0⟩ := hv
  subst hH
  have hK : va_K dG vwCl (tyI cA) s := hK
  have hx := B.exec
  have hb := B.bytes
  have hr := B.returns
  have hts := atoms_spec (ws := wsX0_about) B.pre
  have hown : s.vm.findClass RX0 = some m.cls := findClass_of_methodNamed B.named
  have hlocks := B.notSynchronized
  have hinX : ∀ w ∈ wsX00, w ∈ wsX0_about := by decide +kernel
  have hD := hD0.self (sz := s.heap.size)
  generalize hAe : va_A (xW A cA L P G V R N Y S wd tb ft fl ce nh mo) s.heap.size = F at hD ⊢
  have hA : ∀ q : Nat, s.heap.size ≤ q → F q := fun q h => by rw [← hAe]; exact Or.inr h
  have hS : va_S F s.heap s.heap [] := va_S.rf
  have hP : va_P dG vwCl (xW A cA L P G V R N Y S wd tb ft fl ce nh mo) s.heap := hP
  have hl := lv_entry ([.ref (A 0), .int k, .int w]) (n := 3) (Nat.le_of_ble_eq_true rfl)
  rw [lg_entry_eq]
  generalize (lg_sl ([.ref (A 0), .int k, .int w]) ++ List.replicate (3 - (lg_sl ([.ref (A 0), .int k, .int w])).length) Slot.unset).toArray = ls at hl ⊢
  have hl : lv_has ls 3 [(0, .ref (A 0)), (1, .int k), (2, .int w)] := hl
  refine lv_iload_n hx hb dX0_about_0 rfl (lv_at hl 1 rfl) ?_
  refine lv_iconst (v := 0) hx hb dX0_about_1 (by decide) ?_
  refine lv_aload_n hx hb dX0_about_2 rfl (lv_at hl 0 rfl) ?_
  refine va_get (D := dG) (ci := 0) (v := .int tb) (C := RX0) (T := TX0) (N := 15) hx hb hts hinX hown hK hP 0 rfl rfl 9 (by decide) (hts (.fieldLink RX0 48 "TidegateBourse" "turbines" "I") (by decide +kernel)) (fun _ h9 => h9) rfl dX0_about_3 ?_
  refine lv_iconst (v := 1) hx hb dX0_about_6 (by decide) ?_
  refine lv_isub hx hb dX0_about_7 ?_
  refine va_callv (va_runS (As := [.int k, .int 0, .int (tb - 1)]) (rest := []) ⟨hx, hb, hml, hown, hts⟩ (c_requireIndex_ok l s.heap k 0 (tb - 1) q1) (va_cwS 3 hts gX0_about_X0_requireIndex rfl rfl rfl (by decide +kernel) ⟨Nat.le_of_ble_eq_true rfl, Nat.le_of_ble_eq_true rfl⟩) ⟨fun a U g mk q => q, fun U hU hW => ⟨rfl, hU⟩⟩ rfl rfl hl.1 rfl (lv_room (Nat.le_of_ble_eq_true rfl)) dX0_about_8 ⟨Nat.le_of_ble_eq_true rfl, Nat.le_of_ble_eq_true rfl⟩) hS (fun q _ h => h.elim) (fun q h => h.elim) (fun u1 t H1 locs ht hvm hw hB hz1 hk1 hS => ?_)
  have e9 := hB.symm.trans ht
  subst e9
  refine lv_iload_n hx hb dX0_about_11 rfl (lv_at hl 2 rfl) ?_
  refine lv_iconst (v := 0) hx hb dX0_about_12 (by decide) ?_
  refine lv_iconst (v := 2) hx hb dX0_about_13 (by decide) ?_
  refine va_callv (va_runS (As := [.int w, .int 0, .int 2]) (rest := []) ⟨hx, hb, hml, hown, hts⟩ (c_requireRange_ok l s.heap w 0 2 q2) (va_cwS 3 hts gX0_about_X0_requireRange rfl rfl rfl (by decide +kernel) ⟨Nat.le_of_ble_eq_true rfl, Nat.le_of_ble_eq_true rfl⟩) ⟨fun a U g mk q => q, fun U hU hW => ⟨rfl, hU⟩⟩ rfl rfl hl.1 rfl (lv_room (Nat.le_of_ble_eq_true rfl)) dX0_about_14 ⟨Nat.le_of_ble_eq_true rfl, Nat.le_of_ble_eq_true rfl⟩) hS (fun q _ h => h.elim) (fun q h => h.elim) (fun u2 t H1 locs ht hvm hw hB hz1 hk1 hS => ?_)
  have e9 := hB.symm.trans ht
  subst e9
  refine lv_iload_n hx hb dX0_about_17 rfl (lv_at hl 2 rfl) ?_
  refine lv_if_ne (tgt := 28) hx hb dX0_about_18 (by decide) (fun cq3 => ?_) (fun cq3 => ?_)
  · refine lv_iload_n hx hb dX0_about_28 rfl (lv_at hl 2 rfl) ?_
    refine lv_iconst (v := 1) hx hb dX0_about_29 (by decide) ?_
    refine lv_icmp_ne (tgt := 40) hx hb dX0_about_30 (by decide) (fun cq4 => ?_) (fun cq4 => ?_)
    · refine lv_iconst (v := 0) hx hb dX0_about_40 (by decide) ?_
      refine lv_aload_n hx hb dX0_about_41 rfl (lv_at hl 0 rfl) ?_
      refine va_get (D := dG) (ci := 0) (v := .ref (A 5)) (C := RX0) (T := TX0) (N := 15) hx hb hts hinX hown hK hP 0 rfl rfl 4 (by decide) (hts (.fieldLink RX0 22 "TidegateBourse" "repairEnds" "[I") (by decide +kernel)) (fun _ h9 => h9) rfl dX0_about_42 ?_
      refine lv_iload_n hx hb dX0_about_45 rfl (lv_at hl 1 rfl) ?_
      refine va_iald hx hb hK hP 5 0 rfl rfl (vp_pred q1 htb.1 htb.2) dX0_about_46 ?_
      refine lv_aload_n hx hb dX0_about_47 rfl (lv_at hl 0 rfl) ?_
      refine va_get (D := dG) (ci := 0) (v := .int nh) (C := RX0) (T := TX0) (N := 15) hx hb hts hinX hown hK hP 0 rfl rfl 13 (by decide) (hts (.fieldLink RX0 58 "TidegateBourse" "nextHour" "I") (by decide +kernel)) (fun _ h9 => h9) rfl dX0_about_48 ?_
      refine lv_isub hx hb dX0_about_51 ?_
      refine va_mmax hx hb (hml.trans hl.1.symm) hown (hts (.methodLink RX0 84 Lib.Math.max.name) (by decide +kernel)) (hts (.static Lib.Math.max.name) (by decide +kernel)) (hts (.initialized "java/lang/Math") (by decide +kernel)) (hts (.code Lib.Math.max.name Lib.Math.max.code 2 (some .int)) (by decide +kernel)) (Nat.le_of_ble_eq_true rfl) (Nat.le_of_ble_eq_true rfl) (Nat.le_of_ble_eq_true rfl) (Nat.le_of_ble_eq_true rfl) dX0_about_52 ?_
      exact W.iret hx hb hr (fun t ht hW => ⟨⟨_, (), rfl, (by rw [if_neg cq3, if_neg cq4]), ht⟩, (va_S.rf (A := fun _ => False)).F ht⟩) hS.2.2 dX0_about_55
    · refine lv_aload_n hx hb dX0_about_33 rfl (lv_at hl 0 rfl) ?_
      refine va_get (D := dG) (ci := 0) (v := .ref (A 4)) (C := RX0) (T := TX0) (N := 15) hx hb hts hinX hown hK hP 0 rfl rfl 3 (by decide) (hts (.fieldLink RX0 19 "TidegateBourse" "wears" "[I") (by decide +kernel)) (fun _ h9 => h9) rfl dX0_about_34 ?_
      refine lv_iload_n hx hb dX0_about_37 rfl (lv_at hl 1 rfl) ?_
      refine va_iald hx hb hK hP 4 0 rfl rfl (vp_pred q1 htb.1 htb.2) dX0_about_38 ?_
      exact W.iret hx hb hr (fun t ht hW => ⟨⟨_, (), rfl, (by rw [if_neg cq3, if_pos cq4]), ht⟩, (va_S.rf (A := fun _ => False)).F ht⟩) hS.2.2 dX0_about_39
  · refine lv_aload_n hx hb dX0_about_21 rfl (lv_at hl 0 rfl) ?_
    refine va_get (D := dG) (ci := 0) (v := .ref (A 3)) (C := RX0) (T := TX0) (N := 15) hx hb hts hinX hown hK hP 0 rfl rfl 2 (by decide) (hts (.fieldLink RX0 16 "TidegateBourse" "gates" "[I") (by decide +kernel)) (fun _ h9 => h9) rfl dX0_about_22 ?_
    refine lv_iload_n hx hb dX0_about_25 rfl (lv_at hl 1 rfl) ?_
    refine va_iald hx hb hK hP 3 0 rfl rfl (vp_pred q1 htb.1 htb.2) dX0_about_26 ?_
    exact W.iret hx hb hr (fun t ht hW => ⟨⟨_, (), rfl, (by rw [if_pos cq3]), ht⟩, (va_S.rf (A := fun _ => False)).F ht⟩) hS.2.2 dX0_about_27
set_option maxHeartbeats 4000000 in
set_option maxRecDepth 100000 in
theorem c_X0_closed (l : Launch) (dG : va_G) (a A : Nat → Nat) (cA : ClassId) (Hp : Heap) (L P G V R N Y S : Nat → Int32) (wd tb ft fl ce nh : Int32) (mo : UInt32)  : Met l yX0_closed wsX0_closed ({ frames := 4, cells := 0, slots := 0, locals := 100 }) (va_Pc [.ref (A 0)] (fun U => wPre dG (tyI cA) (xW A cA L P G V R N Y S wd tb ft fl ce nh mo) Hp U)) (va_Qi (fun (r : Int32) (_ : Unit) => r = (if 0 < ce - nh then ce - nh else 0)) (fun _ t => t.heap = Hp) (fun _ => False)) 0 0 (va_A (xW A cA L P G V R N Y S wd tb ft fl ce nh mo) Hp.size) := by
  refine Met.ofW (cc := cX0_closed) (maxL := 1) (ret := some .int) (by decide) rfl ?_
  intro p e s m args below meth c s₁ B hml hv
  obtain ⟨rfl, hH, hP, hK, hD0⟩ := hv
  subst hH
  have hK : va_K dG vwCl (tyI cA) s := hK
  have hx := B.exec
  have hb := B.bytes
  have hr := B.returns
  have hts := atoms_spec (ws := wsX0_closed) B.pre
  have hown : s.vm.findClass RX0 = some m.cls := findClass_of_methodNamed B.named
  have hlocks := B.notSynchronized
  have hinX : ∀ w ∈ wsX00, w ∈ wsX0_closed := by decide +kernel
  have hD := hD0.self (sz := s.heap.size)
  generalize hAe : va_A (xW A cA L P G V R N Y S wd tb ft fl ce nh mo) s.heap.size = F at hD ⊢
  have hA : ∀ q : Nat, s.heap.size ≤ q → F q := fun q h => by rw [← hAe]; exact Or.inr h
  have hS : va_S F s.heap s.heap [] := va_S.rf
  have hP : va_P dG vwCl (xW A cA L P G V R N Y S wd tb ft fl ce nh mo) s.heap := hP
  have hl := lv_entry ([.ref (A 0)]) (n := 1) (Nat.le_of_ble_eq_true rfl)
  rw [lg_entry_eq]
  generalize (lg_sl ([.ref (A 0)]) ++ List.replicate (1 - (lg_sl ([.ref (A 0)])).length) Slot.unset).toArray = ls at hl ⊢
  have hl : lv_has ls 1 [(0, .ref (A 0))] := hl
  refine lv_iconst (v := 0) hx hb dX0_closed_0 (by decide) ?_
  refine lv_aload_n hx hb dX0_closed_1 rfl (lv_at hl 0 rfl) ?_
  refine va_get (D := dG) (ci := 0) (v := .int ce) (C := RX0) (T := TX0) (N := 15) hx hb hts hinX hown hK hP 0 rfl rfl 12 (by decide) (hts (.fieldLink RX0 93 "TidegateBourse" "closedEnd" "I") (by decide +kernel)) (fun _ h9 => h9) rfl dX0_closed_2 ?_
  refine lv_aload_n hx hb dX0_closed_5 rfl (lv_at hl 0 rfl) ?_
  refine va_get (D := dG) (ci := 0) (v := .int nh) (C := RX0) (T := TX0) (N := 15) hx hb hts hinX hown hK hP 0 rfl rfl 13 (by decide) (hts (.fieldLink RX0 58 "TidegateBourse" "nextHour" "I") (by decide +kernel)) (fun _ h9 => h9) rfl dX0_closed_6 ?_
  refine lv_isub hx hb dX0_closed_9 ?_
  refine va_mmax hx hb (hml.trans hl.1.symm) hown (hts (.methodLink RX0 84 Lib.Math.max.name) (by decide +kernel)) (hts (.static Lib.Math.max.name) (by decide +kernel)) (hts (.initialized "java/lang/Math") (by decide +kernel)) (hts (.code Lib.Math.max.name Lib.Math.max.code 2 (some .int)) (by decide +kernel)) (Nat.le_of_ble_eq_true rfl) (Nat.le_of_ble_eq_true rfl) (Nat.le_of_ble_eq_true rfl) (Nat.le_of_ble_eq_true rfl) dX0_closed_10 ?_
  exact W.iret hx hb hr (fun t ht hW => ⟨⟨_, (), rfl, rfl, ht⟩, (va_S.rf (A := fun _ => False)).F ht⟩) hS.2.2 dX0_closed_13
