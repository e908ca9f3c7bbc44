set_option maxHeartbeats 4000000 in
set_option maxRecDepth 100000 in
theorem c_X1_sell (l : Launch) (dG : va_G) (B : Nat → Nat) (cA : ClassId) (Hp : Heap) (L P G V R S Y O D : Nat → Int32) (th nw wd tb ft fl cl : Int32) (mo : UInt32) (h : Int32) (un : Int32) (q : Int32) (hnw : 0 ≤ nw.toInt ∧ nw.toInt ≤ 500) (hn : kSell S nw h un q = 0 → vf_n32 (FP.fmul (FP.i2f un) (FP.i2f q))) (hm : kSell S nw h un q = 0 → vf_n32 (FP.fadd mo (fWorth un q))) : Met l yX1_sell wsX1_sell ({ frames := 4, cells := 0, slots := 0, locals := 100 }) (va_Pc [.ref (B 0), .int h, .int un, .int q] (fun U => wPre dG (tyI cA) (mW B cA L P G V R S Y O D th nw wd tb ft fl cl mo) Hp U)) (va_Qi (fun (r : Int32) (u : MS) => (kSell S nw h un q = 0 → r = S h.toNatClampNeg + un ∧ u = (L, P, G, V, R, (upd S h.toNatClampNeg (S h.toNatClampNeg + un)), Y, O, D, 0, nw, wd, tb, ft, fl, cl, (FP.fadd mo (fWorth un q)))) ∧ (¬ kSell S nw h un q = 0 → r = 0 ∧ u = (L, P, G, V, R, S, Y, O, D, kSell S nw h un q, nw, wd, tb, ft, fl, cl, mo))) (fun u t => wAt dG (tyI cA) (va_A (mW B cA L P G V R S Y O D th nw wd tb ft fl cl mo) Hp.size) (mU B cA u) t) (va_A (mW B cA L P G V R S Y O D th nw wd tb ft fl cl mo) Hp.size)) 0 0 (va_A (mW B cA L P G V R S Y O D th nw wd tb ft fl cl mo) Hp.size) := by
  refine Met.ofW (cc := cX1_sell) (maxL := 6) (ret := some .int) (by decide) rfl ?_
  intro p e s m args below meth c s₁ Bd hml hv
  obtain ⟨rfl, hH, hP, hK, hD0⟩ := hv
  subst hH
  have hK : va_K dG vwCl (tyI cA) s := hK
  have hx := Bd.exec
  have hb := Bd.bytes
  have hr := Bd.returns
  have hts := atoms_spec (ws := wsX1_sell) Bd.pre
  have hown : s.vm.findClass RX1 = some m.cls := findClass_of_methodNamed Bd.named
  have hlocks := Bd.notSynchronized
  have hinM : ∀ w ∈ wsX10, w ∈ wsX1_sell := by decide +kernel
  have hD := hD0.self (sz := s.heap.size)
  generalize hAe : va_A (mW B cA L P G V R S Y O D th nw wd tb ft fl cl mo) s.heap.size = F at hD ⊢
  have hA : ∀ q : Nat, s.heap.size ≤ q → F q := fun q h => by rw [← hAe]; exact Or.inr h
  have hS : va_S F s.heap s.heap [] := va_S.rf
  have hP : va_P dG vwCl (mW B cA L P G V R S Y O D th nw wd tb ft fl cl mo) s.heap := hP
  have hl := lv_entry ([.ref (B 0), .int h, .int un, .int q]) (n := 6) (Nat.le_of_ble_eq_true rfl)
  rw [lg_entry_eq]
  generalize (lg_sl ([.ref (B 0), .int h, .int un, .int q]) ++ List.replicate (6 - (lg_sl ([.ref (B 0), .int h, .int un, .int q])).length) Slot.unset).toArray = ls at hl ⊢
  have hl : lv_has ls 6 [(0, .ref (B 0)), (1, .int h), (2, .int un), (3, .int q)] := hl
  refine lv_iload_n hx hb dX1_sell_0 rfl (lv_at hl 1 rfl) ?_
  refine lv_aload_n hx hb dX1_sell_1 rfl (lv_at hl 0 rfl) ?_
  refine va_get (D := dG) (ci := 1) (v := .int nw) (C := RX1) (T := TX1) (N := 17) hx hb hts hinM hown hK hP 0 rfl rfl 1 (by decide) (hts (.fieldLink RX1 61 "TidegateBourseModel" "now" "I") (by decide +kernel)) (fun _ h9 => h9) rfl dX1_sell_2 ?_
  refine lv_aload_n hx hb dX1_sell_5 rfl (lv_at hl 0 rfl) ?_
  refine va_get (D := dG) (ci := 1) (v := .int nw) (C := RX1) (T := TX1) (N := 17) hx hb hts hinM hown hK hP 0 rfl rfl 1 (by decide) (hts (.fieldLink RX1 61 "TidegateBourseModel" "now" "I") (by decide +kernel)) (fun _ h9 => h9) rfl dX1_sell_6 ?_
  refine lv_bipush (v := 47) hx hb dX1_sell_9 (by decide) ?_
  refine lv_iadd hx hb dX1_sell_11 ?_
  refine va_calli (va_runS (As := [.int h, .int nw, .int (nw + 47)]) (rest := []) ⟨hx, hb, hml, hown, hts⟩ (c_X1_isIn l s.heap h nw (nw + 47)) (va_cwS 3 hts gX1_sell_X1_isIn rfl rfl rfl (by decide +kernel) ⟨Nat.le_of_ble_eq_true rfl, Nat.le_of_ble_eq_true rfl⟩) ⟨fun a U g mk q => q, fun U hU hW => ⟨rfl, hU⟩⟩ rfl rfl hl.1 rfl (lv_room (Nat.le_of_ble_eq_true rfl)) dX1_sell_12 ⟨Nat.le_of_ble_eq_true rfl, Nat.le_of_ble_eq_true rfl⟩) hS (fun q _ h => h.elim) (fun q h => h.elim) (fun r1 u1 t H1 locs ht hvm hw hB hz1 hk1 hS => ?_)
  have e9 := hB.symm.trans ht
  subst e9
  by_cases g1 : oI h nw (nw + 47)
  · have hw := hw.trans (fIsIn_pos g1)
    subst hw
    refine lv_istore (lv' := [(4, .int 0), (0, .ref (B 0)), (1, .int h), (2, .int un), (3, .int q)]) hx hb dX1_sell_15 hl (by decide) rfl (fun ls hl => ?_)
    refine lv_iload_n hx hb dX1_sell_17 rfl (lv_at hl 3 rfl) ?_
    refine lv_iconst (v := 1) hx hb dX1_sell_18 (by decide) ?_
    refine lv_sipush (v := 500) hx hb dX1_sell_19 (by decide) ?_
    refine va_calli (va_runS (As := [.int un, .int 1, .int 500]) (rest := []) ⟨hx, hb, hml, hown, hts⟩ (c_X1_isIn l s.heap un 1 500) (va_cwS 3 hts gX1_sell_X1_isIn rfl rfl rfl (by decide +kernel) ⟨Nat.le_of_ble_eq_true rfl, Nat.le_of_ble_eq_true rfl⟩) ⟨fun a U g mk q => q, fun U hU hW => ⟨rfl, hU⟩⟩ rfl rfl hl.1 rfl (lv_room (Nat.le_of_ble_eq_true rfl)) dX1_sell_22 ⟨Nat.le_of_ble_eq_true rfl, Nat.le_of_ble_eq_true rfl⟩) hS (fun q _ h => h.elim) (fun q h => h.elim) (fun r2 u2 t H1 locs ht hvm hw hB hz1 hk1 hS => ?_)
    have e9 := hB.symm.trans ht
    subst e9
    by_cases g2 : oI un 1 500
    · have hw := hw.trans (fIsIn_pos g2)
      subst hw
      refine lv_if_eq (tgt := 43) hx hb dX1_sell_25 (by decide) (fun _ => ?_) (fun h9 => absurd (by decide) h9)
      refine lv_iconst (v := 0) hx hb dX1_sell_43 (by decide) ?_
      refine lv_istore (lv' := [(5, .int 0), (4, .int 0), (0, .ref (B 0)), (1, .int h), (2, .int un), (3, .int q)]) hx hb dX1_sell_44 hl (by decide) rfl (fun ls hl => ?_)
      refine lv_aload_n hx hb dX1_sell_46 rfl (lv_at hl 2 rfl) ?_
      refine lv_iload hx hb dX1_sell_47 (lv_at hl 1 rfl) ?_
      refine lv_if_ne (tgt := 56) hx hb dX1_sell_49 (by decide) (fun h9 => absurd (by decide) h9) (fun _ => ?_)
      refine lv_iconst (v := 1) hx hb dX1_sell_52 (by decide) ?_
      refine lv_goto (tgt := 84) hx hb dX1_sell_53 (by decide) ?_
      refine va_put (D := dG) (ci := 1) (v := .int 1) (ty := .int) (C := RX1) (T := TX1) (N := 17) hx hb hts hinM tyX1 tyX1_ok nmX1 hown hK hP hD hS 0 rfl rfl 0 (by decide) (hts (.fieldLink RX1 41 "TidegateBourseModel" "thrown" "I") (by decide +kernel)) (fun _ h9 => h9) rfl (by decide +kernel) rfl rfl (Nat.le_of_ble_eq_true rfl) dX1_sell_84 (fun H locs hP hD hS => ?_)
      have hP : va_P dG vwCl (mW B cA L P G V R S Y O D 1 nw wd tb ft fl cl mo) H := hP
      have hD : va_D F (mW B cA L P G V R S Y O D 1 nw wd tb ft fl cl mo) := hD
      refine lv_aload_n hx hb dX1_sell_87 rfl (lv_at hl 2 rfl) ?_
      refine va_get (D := dG) (ci := 1) (v := .int 1) (C := RX1) (T := TX1) (N := 17) hx hb hts hinM hown hK hP 0 rfl rfl 0 (by decide) (hts (.fieldLink RX1 41 "TidegateBourseModel" "thrown" "I") (by decide +kernel)) (fun _ h9 => h9) rfl dX1_sell_88 ?_
      refine lv_if_le (tgt := 96) hx hb dX1_sell_91 (by decide) (fun h9 => absurd h9 (by decide)) (fun _ => ?_)
      refine lv_iconst (v := 0) hx hb dX1_sell_94 (by decide) ?_
      exact W.iret hx hb hr (fun t ht hW => ⟨⟨_, (L, P, G, V, R, S, Y, O, D, 1, nw, wd, tb, ft, fl, cl, mo), rfl, ⟨fun h9 => absurd (h9.symm.trans (by unfold kSell; rw [if_pos g1])) (by decide), fun _ => ⟨rfl, congrArg (fun z => (L, P, G, V, R, S, Y, O, D, z, nw, wd, tb, ft, fl, cl, mo)) (Eq.symm (by unfold kSell; rw [if_pos g1]))⟩⟩, by rw [ht]; exact hP, va_K.moved hW.alike hK, hD⟩, hS.F ht⟩) hS.2.2 dX1_sell_95
    · have hw := hw.trans (fIsIn_neg g2)
      subst hw
      refine lv_if_eq (tgt := 43) hx hb dX1_sell_25 (by decide) (fun h9 => absurd h9 (by decide)) (fun _ => ?_)
      refine lv_iload_n hx hb dX1_sell_28 rfl (lv_at hl 4 rfl) ?_
      refine lv_iconst (v := 1) hx hb dX1_sell_29 (by decide) ?_
      refine lv_sipush (v := 200) hx hb dX1_sell_30 (by decide) ?_
      refine va_calli (va_runS (As := [.int q, .int 1, .int 200]) (rest := []) ⟨hx, hb, hml, hown, hts⟩ (c_X1_isIn l s.heap q 1 200) (va_cwS 3 hts gX1_sell_X1_isIn rfl rfl rfl (by decide +kernel) ⟨Nat.le_of_ble_eq_true rfl, Nat.le_of_ble_eq_true rfl⟩) ⟨fun a U g mk q => q, fun U hU hW => ⟨rfl, hU⟩⟩ rfl rfl hl.1 rfl (lv_room (Nat.le_of_ble_eq_true rfl)) dX1_sell_33 ⟨Nat.le_of_ble_eq_true rfl, Nat.le_of_ble_eq_true rfl⟩) hS (fun q _ h => h.elim) (fun q h => h.elim) (fun r3 u3 t H1 locs ht hvm hw hB hz1 hk1 hS => ?_)
      have e9 := hB.symm.trans ht
      subst e9
      by_cases g3 : oI q 1 200
      · have hw := hw.trans (fIsIn_pos g3)
        subst hw
        refine lv_if_eq (tgt := 43) hx hb dX1_sell_36 (by decide) (fun _ => ?_) (fun h9 => absurd (by decide) h9)
        refine lv_iconst (v := 0) hx hb dX1_sell_43 (by decide) ?_
        refine lv_istore (lv' := [(5, .int 0), (4, .int 0), (0, .ref (B 0)), (1, .int h), (2, .int un), (3, .int q)]) hx hb dX1_sell_44 hl (by decide) rfl (fun ls hl => ?_)
        refine lv_aload_n hx hb dX1_sell_46 rfl (lv_at hl 2 rfl) ?_
        refine lv_iload hx hb dX1_sell_47 (lv_at hl 1 rfl) ?_
        refine lv_if_ne (tgt := 56) hx hb dX1_sell_49 (by decide) (fun h9 => absurd (by decide) h9) (fun _ => ?_)
        refine lv_iconst (v := 1) hx hb dX1_sell_52 (by decide) ?_
        refine lv_goto (tgt := 84) hx hb dX1_sell_53 (by decide) ?_
        refine va_put (D := dG) (ci := 1) (v := .int 1) (ty := .int) (C := RX1) (T := TX1) (N := 17) hx hb hts hinM tyX1 tyX1_ok nmX1 hown hK hP hD hS 0 rfl rfl 0 (by decide) (hts (.fieldLink RX1 41 "TidegateBourseModel" "thrown" "I") (by decide +kernel)) (fun _ h9 => h9) rfl (by decide +kernel) rfl rfl (Nat.le_of_ble_eq_true rfl) dX1_sell_84 (fun H locs hP hD hS => ?_)
        have hP : va_P dG vwCl (mW B cA L P G V R S Y O D 1 nw wd tb ft fl cl mo) H := hP
        have hD : va_D F (mW B cA L P G V R S Y O D 1 nw wd tb ft fl cl mo) := hD
        refine lv_aload_n hx hb dX1_sell_87 rfl (lv_at hl 2 rfl) ?_
        refine va_get (D := dG) (ci := 1) (v := .int 1) (C := RX1) (T := TX1) (N := 17) hx hb hts hinM hown hK hP 0 rfl rfl 0 (by decide) (hts (.fieldLink RX1 41 "TidegateBourseModel" "thrown" "I") (by decide +kernel)) (fun _ h9 => h9) rfl dX1_sell_88 ?_
        refine lv_if_le (tgt := 96) hx hb dX1_sell_91 (by decide) (fun h9 => absurd h9 (by decide)) (fun _ => ?_)
        refine lv_iconst (v := 0) hx hb dX1_sell_94 (by decide) ?_
        exact W.iret hx hb hr (fun t ht hW => ⟨⟨_, (L, P, G, V, R, S, Y, O, D, 1, nw, wd, tb, ft, fl, cl, mo), rfl, ⟨fun h9 => absurd (h9.symm.trans (by unfold kSell; rw [if_pos g1])) (by decide), fun _ => ⟨rfl, congrArg (fun z => (L, P, G, V, R, S, Y, O, D, z, nw, wd, tb, ft, fl, cl, mo)) (Eq.symm (by unfold kSell; rw [if_pos g1]))⟩⟩, by rw [ht]; exact hP, va_K.moved hW.alike hK, hD⟩, hS.F ht⟩) hS.2.2 dX1_sell_95
      · have hw := hw.trans (fIsIn_neg g3)
        subst hw
        refine lv_if_eq (tgt := 43) hx hb dX1_sell_36 (by decide) (fun h9 => absurd h9 (by decide)) (fun _ => ?_)
        refine lv_iconst (v := 1) hx hb dX1_sell_39 (by decide) ?_
        refine lv_goto (tgt := 44) hx hb dX1_sell_40 (by decide) ?_
        refine lv_istore (lv' := [(5, .int 1), (4, .int 0), (0, .ref (B 0)), (1, .int h), (2, .int un), (3, .int q)]) hx hb dX1_sell_44 hl (by decide) rfl (fun ls hl => ?_)
        refine lv_aload_n hx hb dX1_sell_46 rfl (lv_at hl 2 rfl) ?_
        refine lv_iload hx hb dX1_sell_47 (lv_at hl 1 rfl) ?_
        refine lv_if_ne (tgt := 56) hx hb dX1_sell_49 (by decide) (fun h9 => absurd (by decide) h9) (fun _ => ?_)
        refine lv_iconst (v := 1) hx hb dX1_sell_52 (by decide) ?_
        refine lv_goto (tgt := 84) hx hb dX1_sell_53 (by decide) ?_
        refine va_put (D := dG) (ci := 1) (v := .int 1) (ty := .int) (C := RX1) (T := TX1) (N := 17) hx hb hts hinM tyX1 tyX1_ok nmX1 hown hK hP hD hS 0 rfl rfl 0 (by decide) (hts (.fieldLink RX1 41 "TidegateBourseModel" "thrown" "I") (by decide +kernel)) (fun _ h9 => h9) rfl (by decide +kernel) rfl rfl (Nat.le_of_ble_eq_true rfl) dX1_sell_84 (fun H locs hP hD hS => ?_)
        have hP : va_P dG vwCl (mW B cA L P G V R S Y O D 1 nw wd tb ft fl cl mo) H := hP
        have hD : va_D F (mW B cA L P G V R S Y O D 1 nw wd tb ft fl cl mo) := hD
        refine lv_aload_n hx hb dX1_sell_87 rfl (lv_at hl 2 rfl) ?_
        refine va_get (D := dG) (ci := 1) (v := .int 1) (C := RX1) (T := TX1) (N := 17) hx hb hts hinM hown hK hP 0 rfl rfl 0 (by decide) (hts (.fieldLink RX1 41 "TidegateBourseModel" "thrown" "I") (by decide +kernel)) (fun _ h9 => h9) rfl dX1_sell_88 ?_
        refine lv_if_le (tgt := 96) hx hb dX1_sell_91 (by decide) (fun h9 => absurd h9 (by decide)) (fun _ => ?_)
        refine lv_iconst (v := 0) hx hb dX1_sell_94 (by decide) ?_
        exact W.iret hx hb hr (fun t ht hW => ⟨⟨_, (L, P, G, V, R, S, Y, O, D, 1, nw, wd, tb, ft, fl, cl, mo), rfl, ⟨fun h9 => absurd (h9.symm.trans (by unfold kSell; rw [if_pos g1])) (by decide), fun _ => ⟨rfl, congrArg (fun z => (L, P, G, V, R, S, Y, O, D, z, nw, wd, tb, ft, fl, cl, mo)) (Eq.symm (by unfold kSell; rw [if_pos g1]))⟩⟩, by rw [ht]; exact hP, va_K.moved hW.alike hK, hD⟩, hS.F ht⟩) hS.2.2 dX1_sell_95
  · have hw := hw.trans (fIsIn_neg g1)
    subst hw
    refine lv_istore (lv' := [(4, .int 1), (0, .ref (B 0)), (1, .int h), (2, .int un), (3, .int q)]) hx hb dX1_sell_15 hl (by decide) rfl (fun ls hl => ?_)
    refine lv_iload_n hx hb dX1_sell_17 rfl (lv_at hl 3 rfl) ?_
    refine lv_iconst (v := 1) hx hb dX1_sell_18 (by decide) ?_
    refine lv_sipush (v := 500) hx hb dX1_sell_19 (by decide) ?_
    refine va_calli (va_runS (As := [.int un, .int 1, .int 500]) (rest := []) ⟨hx, hb, hml, hown, hts⟩ (c_X1_isIn l s.heap un 1 500) (va_cwS 3 hts gX1_sell_X1_isIn rfl rfl rfl (by decide +kernel) ⟨Nat.le_of_ble_eq_true rfl, Nat.le_of_ble_eq_true rfl⟩) ⟨fun a U g mk q => q, fun U hU hW => ⟨rfl, hU⟩⟩ rfl rfl hl.1 rfl (lv_room (Nat.le_of_ble_eq_true rfl)) dX1_sell_22 ⟨Nat.le_of_ble_eq_true rfl, Nat.le_of_ble_eq_true rfl⟩) hS (fun q _ h => h.elim) (fun q h => h.elim) (fun r4 u4 t H1 locs ht hvm hw hB hz1 hk1 hS => ?_)
    have e9 := hB.symm.trans ht
    subst e9
    by_cases g4 : oI un 1 500
    · have hw := hw.trans (fIsIn_pos g4)
      subst hw
      refine lv_if_eq (tgt := 43) hx hb dX1_sell_25 (by decide) (fun _ => ?_) (fun h9 => absurd (by decide) h9)
      refine lv_iconst (v := 0) hx hb dX1_sell_43 (by decide) ?_
      refine lv_istore (lv' := [(5, .int 0), (4, .int 1), (0, .ref (B 0)), (1, .int h), (2, .int un), (3, .int q)]) hx hb dX1_sell_44 hl (by decide) rfl (fun ls hl => ?_)
      refine lv_aload_n hx hb dX1_sell_46 rfl (lv_at hl 2 rfl) ?_
      refine lv_iload hx hb dX1_sell_47 (lv_at hl 1 rfl) ?_
      refine lv_if_ne (tgt := 56) hx hb dX1_sell_49 (by decide) (fun _ => ?_) (fun h9 => absurd h9 (by decide))
      refine lv_iload hx hb dX1_sell_56 (lv_at hl 0 rfl) ?_
      refine lv_if_ne (tgt := 65) hx hb dX1_sell_58 (by decide) (fun h9 => absurd (by decide) h9) (fun _ => ?_)
      refine lv_iconst (v := 2) hx hb dX1_sell_61 (by decide) ?_
      refine lv_goto (tgt := 84) hx hb dX1_sell_62 (by decide) ?_
      refine va_put (D := dG) (ci := 1) (v := .int 2) (ty := .int) (C := RX1) (T := TX1) (N := 17) hx hb hts hinM tyX1 tyX1_ok nmX1 hown hK hP hD hS 0 rfl rfl 0 (by decide) (hts (.fieldLink RX1 41 "TidegateBourseModel" "thrown" "I") (by decide +kernel)) (fun _ h9 => h9) rfl (by decide +kernel) rfl rfl (Nat.le_of_ble_eq_true rfl) dX1_sell_84 (fun H locs hP hD hS => ?_)
      have hP : va_P dG vwCl (mW B cA L P G V R S Y O D 2 nw wd tb ft fl cl mo) H := hP
      have hD : va_D F (mW B cA L P G V R S Y O D 2 nw wd tb ft fl cl mo) := hD
      refine lv_aload_n hx hb dX1_sell_87 rfl (lv_at hl 2 rfl) ?_
      refine va_get (D := dG) (ci := 1) (v := .int 2) (C := RX1) (T := TX1) (N := 17) hx hb hts hinM hown hK hP 0 rfl rfl 0 (by decide) (hts (.fieldLink RX1 41 "TidegateBourseModel" "thrown" "I") (by decide +kernel)) (fun _ h9 => h9) rfl dX1_sell_88 ?_
      refine lv_if_le (tgt := 96) hx hb dX1_sell_91 (by decide) (fun h9 => absurd h9 (by decide)) (fun _ => ?_)
      refine lv_iconst (v := 0) hx hb dX1_sell_94 (by decide) ?_
      exact W.iret hx hb hr (fun t ht hW => ⟨⟨_, (L, P, G, V, R, S, Y, O, D, 2, nw, wd, tb, ft, fl, cl, mo), rfl, ⟨fun h9 => absurd (h9.symm.trans (by unfold kSell; rw [if_neg g1, if_pos g4])) (by decide), fun _ => ⟨rfl, congrArg (fun z => (L, P, G, V, R, S, Y, O, D, z, nw, wd, tb, ft, fl, cl, mo)) (Eq.symm (by unfold kSell; rw [if_neg g1, if_pos g4]))⟩⟩, by rw [ht]; exact hP, va_K.moved hW.alike hK, hD⟩, hS.F ht⟩) hS.2.2 dX1_sell_95
    · have hw := hw.trans (fIsIn_neg g4)
      subst hw
      refine lv_if_eq (tgt := 43) hx hb dX1_sell_25 (by decide) (fun h9 => absurd h9 (by decide)) (fun _ => ?_)
      refine lv_iload_n hx hb dX1_sell_28 rfl (lv_at hl 4 rfl) ?_
      refine lv_iconst (v := 1) hx hb dX1_sell_29 (by decide) ?_
      refine lv_sipush (v := 200) hx hb dX1_sell_30 (by decide) ?_
      refine va_calli (va_runS (As := [.int q, .int 1, .int 200]) (rest := []) ⟨hx, hb, hml, hown, hts⟩ (c_X1_isIn l s.heap q 1 200) (va_cwS 3 hts gX1_sell_X1_isIn rfl rfl rfl (by decide +kernel) ⟨Nat.le_of_ble_eq_true rfl, Nat.le_of_ble_eq_true rfl⟩) ⟨fun a U g mk q => q, fun U hU hW => ⟨rfl, hU⟩⟩ rfl rfl hl.1 rfl (lv_room (Nat.le_of_ble_eq_true rfl)) dX1_sell_33 ⟨Nat.le_of_ble_eq_true rfl, Nat.le_of_ble_eq_true rfl⟩) hS (fun q _ h => h.elim) (fun q h => h.elim) (fun r5 u5 t H1 locs ht hvm hw hB hz1 hk1 hS => ?_)
      have e9 := hB.symm.trans ht
      subst e9
      by_cases g5 : oI q 1 200
      · have hw := hw.trans (fIsIn_pos g5)
        subst hw
        refine lv_if_eq (tgt := 43) hx hb dX1_sell_36 (by decide) (fun _ => ?_) (fun h9 => absurd (by decide) h9)
        refine lv_iconst (v := 0) hx hb dX1_sell_43 (by decide) ?_
        refine lv_istore (lv' := [(5, .int 0), (4, .int 1), (0, .ref (B 0)), (1, .int h), (2, .int un), (3, .int q)]) hx hb dX1_sell_44 hl (by decide) rfl (fun ls hl => ?_)
        refine lv_aload_n hx hb dX1_sell_46 rfl (lv_at hl 2 rfl) ?_
        refine lv_iload hx hb dX1_sell_47 (lv_at hl 1 rfl) ?_
        refine lv_if_ne (tgt := 56) hx hb dX1_sell_49 (by decide) (fun _ => ?_) (fun h9 => absurd h9 (by decide))
        refine lv_iload hx hb dX1_sell_56 (lv_at hl 0 rfl) ?_
        refine lv_if_ne (tgt := 65) hx hb dX1_sell_58 (by decide) (fun h9 => absurd (by decide) h9) (fun _ => ?_)
        refine lv_iconst (v := 2) hx hb dX1_sell_61 (by decide) ?_
        refine lv_goto (tgt := 84) hx hb dX1_sell_62 (by decide) ?_
        refine va_put (D := dG) (ci := 1) (v := .int 2) (ty := .int) (C := RX1) (T := TX1) (N := 17) hx hb hts hinM tyX1 tyX1_ok nmX1 hown hK hP hD hS 0 rfl rfl 0 (by decide) (hts (.fieldLink RX1 41 "TidegateBourseModel" "thrown" "I") (by decide +kernel)) (fun _ h9 => h9) rfl (by decide +kernel) rfl rfl (Nat.le_of_ble_eq_true rfl) dX1_sell_84 (fun H locs hP hD hS => ?_)
        have hP : va_P dG vwCl (mW B cA L P G V R S Y O D 2 nw wd tb ft fl cl mo) H := hP
        have hD : va_D F (mW B cA L P G V R S Y O D 2 nw wd tb ft fl cl mo) := hD
        refine lv_aload_n hx hb dX1_sell_87 rfl (lv_at hl 2 rfl) ?_
        refine va_get (D := dG) (ci := 1) (v := .int 2) (C := RX1) (T := TX1) (N := 17) hx hb hts hinM hown hK hP 0 rfl rfl 0 (by decide) (hts (.fieldLink RX1 41 "TidegateBourseModel" "thrown" "I") (by decide +kernel)) (fun _ h9 => h9) rfl dX1_sell_88 ?_
        refine lv_if_le (tgt := 96) hx hb dX1_sell_91 (by decide) (fun h9 => absurd h9 (by decide)) (fun _ => ?_)
        refine lv_iconst (v := 0) hx hb dX1_sell_94 (by decide) ?_
        exact W.iret hx hb hr (fun t ht hW => ⟨⟨_, (L, P, G, V, R, S, Y, O, D, 2, nw, wd, tb, ft, fl, cl, mo), rfl, ⟨fun h9 => absurd (h9.symm.trans (by unfold kSell; rw [if_neg g1, if_neg g4, if_pos g5])) (by decide), fun _ => ⟨rfl, congrArg (fun z => (L, P, G, V, R, S, Y, O, D, z, nw, wd, tb, ft, fl, cl, mo)) (Eq.symm (by unfold kSell; rw [if_neg g1, if_neg g4, if_pos g5]))⟩⟩, by rw [ht]; exact hP, va_K.moved hW.alike hK, hD⟩, hS.F ht⟩) hS.2.2 dX1_sell_95
      · have hw := hw.trans (fIsIn_neg g5)
        subst hw
        refine lv_if_eq (tgt := 43) hx hb dX1_sell_36 (by decide) (fun h9 => absurd h9 (by decide)) (fun _ => ?_)
        refine lv_iconst (v := 1) hx hb dX1_sell_39 (by decide) ?_
        refine lv_goto (tgt := 44) hx hb dX1_sell_40 (by decide) ?_
        refine lv_istore (lv' := [(5, .int 1), (4, .int 1), (0, .ref (B 0)), (1, .int h), (2, .int un), (3, .int q)]) hx hb dX1_sell_44 hl (by decide) rfl (fun ls hl => ?_)
        refine lv_aload_n hx hb dX1_sell_46 rfl (lv_at hl 2 rfl) ?_
        refine lv_iload hx hb dX1_sell_47 (lv_at hl 1 rfl) ?_
        refine lv_if_ne (tgt := 56) hx hb dX1_sell_49 (by decide) (fun _ => ?_) (fun h9 => absurd h9 (by decide))
        refine lv_iload hx hb dX1_sell_56 (lv_at hl 0 rfl) ?_
        refine lv_if_ne (tgt := 65) hx hb dX1_sell_58 (by decide) (fun _ => ?_) (fun h9 => absurd h9 (by decide))
        refine lv_aload_n hx hb dX1_sell_65 rfl (lv_at hl 2 rfl) ?_
        refine va_get (D := dG) (ci := 1) (v := .ref (B 6)) (C := RX1) (T := TX1) (N := 17) hx hb hts hinM hown hK hP 0 rfl rfl 12 (by decide) (hts (.fieldLink RX1 29 "TidegateBourseModel" "sold" "[I") (by decide +kernel)) (fun _ h9 => h9) rfl dX1_sell_66 ?_
        refine lv_iload_n hx hb dX1_sell_69 rfl (lv_at hl 3 rfl) ?_
        refine va_iald hx hb hK hP 6 0 rfl rfl (vp_47 g1 hnw.1 hnw.1 hnw.2 (by decide)) dX1_sell_70 ?_
        refine lv_iload_n hx hb dX1_sell_71 rfl (lv_at hl 4 rfl) ?_
        refine lv_iadd hx hb dX1_sell_72 ?_
        refine lv_sipush (v := 1000) hx hb dX1_sell_73 (by decide) ?_
        refine lv_icmp_le (tgt := 83) hx hb dX1_sell_76 (by decide) (fun cq6 => ?_) (fun cq6 => ?_)
        · refine lv_iconst (v := 0) hx hb dX1_sell_83 (by decide) ?_
          refine va_put (D := dG) (ci := 1) (v := .int 0) (ty := .int) (C := RX1) (T := TX1) (N := 17) hx hb hts hinM tyX1 tyX1_ok nmX1 hown hK hP hD hS 0 rfl rfl 0 (by decide) (hts (.fieldLink RX1 41 "TidegateBourseModel" "thrown" "I") (by decide +kernel)) (fun _ h9 => h9) rfl (by decide +kernel) rfl rfl (Nat.le_of_ble_eq_true rfl) dX1_sell_84 (fun H locs hP hD hS => ?_)
          have hP : va_P dG vwCl (mW B cA L P G V R S Y O D 0 nw wd tb ft fl cl mo) H := hP
          have hD : va_D F (mW B cA L P G V R S Y O D 0 nw wd tb ft fl cl mo) := hD
          refine lv_aload_n hx hb dX1_sell_87 rfl (lv_at hl 2 rfl) ?_
          refine va_get (D := dG) (ci := 1) (v := .int 0) (C := RX1) (T := TX1) (N := 17) hx hb hts hinM hown hK hP 0 rfl rfl 0 (by decide) (hts (.fieldLink RX1 41 "TidegateBourseModel" "thrown" "I") (by decide +kernel)) (fun _ h9 => h9) rfl dX1_sell_88 ?_
          refine lv_if_le (tgt := 96) hx hb dX1_sell_91 (by decide) (fun _ => ?_) (fun h9 => absurd (by decide) h9)
          refine lv_aload_n hx hb dX1_sell_96 rfl (lv_at hl 2 rfl) ?_
          refine va_get (D := dG) (ci := 1) (v := .ref (B 6)) (C := RX1) (T := TX1) (N := 17) hx hb hts hinM hown hK hP 0 rfl rfl 12 (by decide) (hts (.fieldLink RX1 29 "TidegateBourseModel" "sold" "[I") (by decide +kernel)) (fun _ h9 => h9) rfl dX1_sell_97 ?_
          refine lv_iload_n hx hb dX1_sell_100 rfl (lv_at hl 3 rfl) ?_
          refine lv_dup2_11 hx hb dX1_sell_101 rfl rfl ?_
          refine va_iald hx hb hK hP 6 0 rfl rfl (vp_47 g1 hnw.1 hnw.1 hnw.2 (by decide)) dX1_sell_102 ?_
          refine lv_iload_n hx hb dX1_sell_103 rfl (lv_at hl 4 rfl) ?_
          refine lv_iadd hx hb dX1_sell_104 ?_
          refine va_iast hx hb hK hP hD hS 6 0 rfl rfl (vp_47 g1 hnw.1 hnw.1 hnw.2 (by decide)) dX1_sell_105 (fun H locs hP hD hS => ?_)
          have hP : va_P dG vwCl (mW B cA L P G V R (upd S h.toNatClampNeg ((S h.toNatClampNeg) + un)) Y O D 0 nw wd tb ft fl cl mo) H := hP
          have hD : va_D F (mW B cA L P G V R (upd S h.toNatClampNeg ((S h.toNatClampNeg) + un)) Y O D 0 nw wd tb ft fl cl mo) := hD
          refine lv_aload_n hx hb dX1_sell_106 rfl (lv_at hl 2 rfl) ?_
          refine lv_dup hx hb dX1_sell_107 rfl ?_
          refine va_get (D := dG) (ci := 1) (v := .float mo) (C := RX1) (T := TX1) (N := 17) hx hb hts hinM hown hK hP 0 rfl rfl 16 (by decide) (hts (.fieldLink RX1 64 "TidegateBourseModel" "money" "F") (by decide +kernel)) (fun _ h9 => h9) rfl dX1_sell_108 ?_
          refine lv_iload_n hx hb dX1_sell_111 rfl (lv_at hl 4 rfl) ?_
          refine lv_i2f hx hb dX1_sell_112 ?_
          refine lv_iload_n hx hb dX1_sell_113 rfl (lv_at hl 5 rfl) ?_
          refine lv_i2f hx hb dX1_sell_114 ?_
          refine lv_fmul hx hb dX1_sell_115 (hn (by unfold kSell; rw [if_neg g1, if_neg g4, if_neg g5, if_pos cq6])) ?_
          refine lv_fadd hx hb dX1_sell_116 (hm (by unfold kSell; rw [if_neg g1, if_neg g4, if_neg g5, if_pos cq6])) ?_
          refine va_put (D := dG) (ci := 1) (v := .float (FP.fadd mo (FP.fmul (FP.i2f un) (FP.i2f q)))) (ty := .float) (C := RX1) (T := TX1) (N := 17) hx hb hts hinM tyX1 tyX1_ok nmX1 hown hK hP hD hS 0 rfl rfl 16 (by decide) (hts (.fieldLink RX1 64 "TidegateBourseModel" "money" "F") (by decide +kernel)) (fun _ h9 => h9) rfl (by decide +kernel) rfl rfl (Nat.le_of_ble_eq_true rfl) dX1_sell_117 (fun H locs hP hD hS => ?_)
          have hP : va_P dG vwCl (mW B cA L P G V R (upd S h.toNatClampNeg ((S h.toNatClampNeg) + un)) Y O D 0 nw wd tb ft fl cl (FP.fadd mo (FP.fmul (FP.i2f un) (FP.i2f q)))) H := hP
          have hD : va_D F (mW B cA L P G V R (upd S h.toNatClampNeg ((S h.toNatClampNeg) + un)) Y O D 0 nw wd tb ft fl cl (FP.fadd mo (FP.fmul (FP.i2f un) (FP.i2f q)))) := hD
          refine lv_aload_n hx hb dX1_sell_120 rfl (lv_at hl 2 rfl) ?_
          refine va_get (D := dG) (ci := 1) (v := .ref (B 6)) (C := RX1) (T := TX1) (N := 17) hx hb hts hinM hown hK hP 0 rfl rfl 12 (by decide) (hts (.fieldLink RX1 29 "TidegateBourseModel" "sold" "[I") (by decide +kernel)) (fun _ h9 => h9) rfl dX1_sell_121 ?_
          refine lv_iload_n hx hb dX1_sell_124 rfl (lv_at hl 3 rfl) ?_
          refine va_iald hx hb hK hP 6 0 rfl rfl (vp_47 g1 hnw.1 hnw.1 hnw.2 (by decide)) dX1_sell_125 ?_
          exact W.iret hx hb hr (fun t ht hW => ⟨⟨_, (L, P, G, V, R, (upd S h.toNatClampNeg ((S h.toNatClampNeg) + un)), Y, O, D, 0, nw, wd, tb, ft, fl, cl, (FP.fadd mo (FP.fmul (FP.i2f un) (FP.i2f q)))), rfl, ⟨fun _ => ⟨pk_us, rfl⟩, fun h9 => absurd (by unfold kSell; rw [if_neg g1, if_neg g4, if_neg g5, if_pos cq6]) h9⟩, by rw [ht]; exact hP, va_K.moved hW.alike hK, hD⟩, hS.F ht⟩) hS.2.2 dX1_sell_126
        · refine lv_iconst (v := 3) hx hb dX1_sell_79 (by decide) ?_
          refine lv_goto (tgt := 84) hx hb dX1_sell_80 (by decide) ?_
          refine va_put (D := dG) (ci := 1) (v := .int 3) (ty := .int) (C := RX1) (T := TX1) (N := 17) hx hb hts hinM tyX1 tyX1_ok nmX1 hown hK hP hD hS 0 rfl rfl 0 (by decide) (hts (.fieldLink RX1 41 "TidegateBourseModel" "thrown" "I") (by decide +kernel)) (fun _ h9 => h9) rfl (by decide +kernel) rfl rfl (Nat.le_of_ble_eq_true rfl) dX1_sell_84 (fun H locs hP hD hS => ?_)
          have hP : va_P dG vwCl (mW B cA L P G V R S Y O D 3 nw wd tb ft fl cl mo) H := hP
          have hD : va_D F (mW B cA L P G V R S Y O D 3 nw wd tb ft fl cl mo) := hD
          refine lv_aload_n hx hb dX1_sell_87 rfl (lv_at hl 2 rfl) ?_
          refine va_get (D := dG) (ci := 1) (v := .int 3) (C := RX1) (T := TX1) (N := 17) hx hb hts hinM hown hK hP 0 rfl rfl 0 (by decide) (hts (.fieldLink RX1 41 "TidegateBourseModel" "thrown" "I") (by decide +kernel)) (fun _ h9 => h9) rfl dX1_sell_88 ?_
          refine lv_if_le (tgt := 96) hx hb dX1_sell_91 (by decide) (fun h9 => absurd h9 (by decide)) (fun _ => ?_)
          refine lv_iconst (v := 0) hx hb dX1_sell_94 (by decide) ?_
          exact W.iret hx hb hr (fun t ht hW => ⟨⟨_, (L, P, G, V, R, S, Y, O, D, 3, nw, wd, tb, ft, fl, cl, mo), rfl, ⟨fun h9 => absurd (h9.symm.trans (by unfold kSell; rw [if_neg g1, if_neg g4, if_neg g5, if_neg cq6])) (by decide), fun _ => ⟨rfl, congrArg (fun z => (L, P, G, V, R, S, Y, O, D, z, nw, wd, tb, ft, fl, cl, mo)) (Eq.symm (by unfold kSell; rw [if_neg g1, if_neg g4, if_neg g5, if_neg cq6]))⟩⟩, by rw [ht]; exact hP, va_K.moved hW.alike hK, hD⟩, hS.F ht⟩) hS.2.2 dX1_sell_95
set_option maxHeartbeats 4000000 in
set_option maxRecDepth 100000 in
theorem c_X1_now (l : Launch) (dG : va_G) (B : Nat → Nat) (cA : ClassId) (Hp : Heap) (L P G V R S Y O D : Nat → Int32) (th nw wd tb ft fl cl : Int32) (mo : UInt32)  : Met l yX1_now wsX1_now ({ frames := 4, cells := 0, slots := 0, locals := 100 }) (va_Pc [.ref (B 0)] (fun U => wPre dG (tyI cA) (mW B cA L P G V R S Y O D th nw wd tb ft fl cl mo) Hp U)) (va_Qi (fun (r : Int32) (u : MS) => r = nw ∧ u = (L, P, G, V, R, S, Y, O, D, 0, nw, wd, tb, ft, fl, cl, mo)) (fun u t => wAt dG (tyI cA) (va_A (mW B cA L P G V R S Y O D th nw wd tb ft fl cl mo) Hp.size) (mU B cA u) t) (va_A (mW B cA L P G V R S Y O D th nw wd tb ft fl cl mo) Hp.size)) 0 0 (va_A (mW B cA L P G V R S Y O D th nw wd tb ft fl cl mo) Hp.size) := by
  refine Met.ofW (cc := cX1_now) (maxL := 1) (ret := some .int) (by decide) rfl ?_
  intro p e s m args below meth c s₁ Bd hml hv
  obtain ⟨rfl, hH, hP, hK, hD0⟩ := hv
  subst hH
  have hK : va_K dG vwCl (tyI cA) s := hK
  have hx := Bd.exec
  have hb := Bd.bytes
  have hr := Bd.returns
  have hts := atoms_spec (ws := wsX1_now) Bd.pre
  have hown : s.vm.findClass RX1 = some m.cls := findClass_of_methodNamed Bd.named
  have hlocks := Bd.notSynchronized
  have hinM : ∀ w ∈ wsX10, w ∈ wsX1_now := by decide +kernel
  have hD := hD0.self (sz := s.heap.size)
  generalize hAe : va_A (mW B cA L P G V R S Y O D th nw wd tb ft fl cl mo) s.heap.size = F at hD ⊢
  have hA : ∀ q : Nat, s.heap.size ≤ q → F q := fun q h => by rw [← hAe]; exact Or.inr h
  have hS : va_S F s.heap s.heap [] := va_S.rf
  have hP : va_P dG vwCl (mW B cA L P G V R S Y O D th nw wd tb ft fl cl mo) s.heap := hP
  have hl := lv_entry ([.ref (B 0)]) (n := 1) (Nat.le_of_ble_eq_true rfl)
  rw [lg_entry_eq]
  generalize (lg_sl ([.ref (B 0)]) ++ List.replicate (1 - (lg_sl ([.ref (B 0)])).length) Slot.unset).toArray = ls at hl ⊢
  have hl : lv_has ls 1 [(0, .ref (B 0))] := hl
  refine lv_aload_n hx hb dX1_now_0 rfl (lv_at hl 0 rfl) ?_
  refine lv_iconst (v := 0) hx hb dX1_now_1 (by decide) ?_
  refine va_put (D := dG) (ci := 1) (v := .int 0) (ty := .int) (C := RX1) (T := TX1) (N := 17) hx hb hts hinM tyX1 tyX1_ok nmX1 hown hK hP hD hS 0 rfl rfl 0 (by decide) (hts (.fieldLink RX1 41 "TidegateBourseModel" "thrown" "I") (by decide +kernel)) (fun _ h9 => h9) rfl (by decide +kernel) rfl rfl (Nat.le_of_ble_eq_true rfl) dX1_now_2 (fun H locs hP hD hS => ?_)
  have hP : va_P dG vwCl (mW B cA L P G V R S Y O D 0 nw wd tb ft fl cl mo) H := hP
  have hD : va_D F (mW B cA L P G V R S Y O D 0 nw wd tb ft fl cl mo) := hD
  refine lv_aload_n hx hb dX1_now_5 rfl (lv_at hl 0 rfl) ?_
  refine va_get (D := dG) (ci := 1) (v := .int nw) (C := RX1) (T := TX1) (N := 17) hx hb hts hinM hown hK hP 0 rfl rfl 1 (by decide) (hts (.fieldLink RX1 61 "TidegateBourseModel" "now" "I") (by decide +kernel)) (fun _ h9 => h9) rfl dX1_now_6 ?_
  exact W.iret hx hb hr (fun t ht hW => ⟨⟨_, (L, P, G, V, R, S, Y, O, D, 0, nw, wd, tb, ft, fl, cl, mo), rfl, ⟨rfl, rfl⟩, by rw [ht]; exact hP, va_K.moved hW.alike hK, hD⟩, hS.F ht⟩) hS.2.2 dX1_now_9
set_option maxHeartbeats 4000000 in
set_option maxRecDepth 100000 in
theorem c_X1_made (l : Launch) (dG : va_G) (B : Nat → Nat) (cA : ClassId) (Hp : Heap) (L P G V R S Y O D : Nat → Int32) (th nw wd tb ft fl cl : Int32) (mo : UInt32) (h : Int32) (hnw : 0 ≤ nw.toInt ∧ nw.toInt ≤ 500) : Met l yX1_made wsX1_made ({ frames := 4, cells := 0, slots := 0, locals := 100 }) (va_Pc [.ref (B 0), .int h] (fun U => wPre dG (tyI cA) (mW B cA L P G V R S Y O D th nw wd tb ft fl cl mo) Hp U)) (va_Qi (fun (r : Int32) (u : MS) => (kGone nw h = 0 → r = Y h.toNatClampNeg ∧ u = (L, P, G, V, R, S, Y, O, D, 0, nw, wd, tb, ft, fl, cl, mo)) ∧ (¬ kGone nw h = 0 → r = 0 ∧ u = (L, P, G, V, R, S, Y, O, D, kGone nw h, nw, wd, tb, ft, fl, cl, mo))) (fun u t => wAt dG (tyI cA) (va_A (mW B cA L P G V R S Y O D th nw wd tb ft fl cl mo) Hp.size) (mU B cA u) t) (va_A (mW B cA L P G V R S Y O D th nw wd tb ft fl cl mo) Hp.size)) 0 0 (va_A (mW B cA L P G V R S Y O D th nw wd tb ft fl cl mo) Hp.size) := by
  refine Met.ofW (cc := cX1_made) (maxL := 2) (ret := some .int) (by decide) rfl ?_
  intro p e s m args below meth c s₁ Bd hml hv
  obtain ⟨rfl, hH, hP, hK, hD0⟩ := hv
  subst hH
  have hK : va_K dG vwCl (tyI cA) s := hK
  have hx := Bd.exec
  have hb := Bd.bytes
  have hr := Bd.returns
  have hts := atoms_spec (ws := wsX1_made) Bd.pre
  have hown : s.vm.findClass RX1 = some m.cls := findClass_of_methodNamed Bd.named
  have hlocks := Bd.notSynchronized
  have hinM : ∀ w ∈ wsX10, w ∈ wsX1_made := by decide +kernel
  have hD := hD0.self (sz := s.heap.size)
  generalize hAe : va_A (mW B cA L P G V R S Y O D th nw wd tb ft fl cl mo) s.heap.size = F at hD ⊢
  have hA : ∀ q : Nat, s.heap.size ≤ q → F q := fun q h => by rw [← hAe]; exact Or.inr h
  have hS : va_S F s.heap s.heap [] := va_S.rf
  have hP : va_P dG vwCl (mW B cA L P G V R S Y O D th nw wd tb ft fl cl mo) s.heap := hP
  have hl := lv_entry ([.ref (B 0), .int h]) (n := 2) (Nat.le_of_ble_eq_true rfl)
  rw [lg_entry_eq]
  generalize (lg_sl ([.ref (B 0), .int h]) ++ List.replicate (2 - (lg_sl ([.ref (B 0), .int h])).length) Slot.unset).toArray = ls at hl ⊢
  have hl : lv_has ls 2 [(0, .ref (B 0)), (1, .int h)] := hl
  refine lv_aload_n hx hb dX1_made_0 rfl (lv_at hl 0 rfl) ?_
  refine lv_aload_n hx hb dX1_made_1 rfl (lv_at hl 0 rfl) ?_
  refine lv_iload_n hx hb dX1_made_2 rfl (lv_at hl 1 rfl) ?_
  refine va_calli (va_runV (As := [.int h]) (rest := [.ref (B 0)]) ⟨hx, hb, hml, hown, hts⟩ (c_X1_isGone l dG B cA s.heap L P G V R S Y O D th nw wd tb ft fl cl mo h) (cwV 1 hts gX1_made_X1_isGone rfl rfl rfl (by decide +kernel) ⟨Nat.le_of_ble_eq_true rfl, Nat.le_of_ble_eq_true rfl⟩) ⟨fun a U g mk q => ⟨q.1, wPre_calling g mk a q.2⟩, va_recv hK hP (ci := 1) (q0 := 0) rfl rfl, fun U hU hW => ⟨rfl, wPre_of hK hP hD hU hW⟩⟩ rfl rfl hl.1 rfl (lv_room (Nat.le_of_ble_eq_true rfl)) dX1_made_3 ⟨Nat.le_of_ble_eq_true rfl, Nat.le_of_ble_eq_true rfl⟩) hS (fun q _ h => h.elim) (va_free hD hS hA [0, 1, 2, 3, 4, 5, 6, 7, 8, 9] rfl) (fun r1 u1 t H1 locs ht hvm hw hB hz1 hk1 hS => ?_)
  have e9 := hB.symm.trans ht
  subst e9
  by_cases g1 : oI h 0 (nw - 1)
  · have hw := hw.trans (if_pos g1)
    subst hw
    refine lv_if_eq (tgt := 13) hx hb dX1_made_6 (by decide) (fun _ => ?_) (fun h9 => absurd (by decide) h9)
    refine lv_iconst (v := 1) hx hb dX1_made_13 (by decide) ?_
    refine va_put (D := dG) (ci := 1) (v := .int 1) (ty := .int) (C := RX1) (T := TX1) (N := 17) hx hb hts hinM tyX1 tyX1_ok nmX1 hown hK hP hD hS 0 rfl rfl 0 (by decide) (hts (.fieldLink RX1 41 "TidegateBourseModel" "thrown" "I") (by decide +kernel)) (fun _ h9 => h9) rfl (by decide +kernel) rfl rfl (Nat.le_of_ble_eq_true rfl) dX1_made_14 (fun H locs hP hD hS => ?_)
    have hP : va_P dG vwCl (mW B cA L P G V R S Y O D 1 nw wd tb ft fl cl mo) H := hP
    have hD : va_D F (mW B cA L P G V R S Y O D 1 nw wd tb ft fl cl mo) := hD
    refine lv_aload_n hx hb dX1_made_17 rfl (lv_at hl 0 rfl) ?_
    refine va_get (D := dG) (ci := 1) (v := .int 1) (C := RX1) (T := TX1) (N := 17) hx hb hts hinM hown hK hP 0 rfl rfl 0 (by decide) (hts (.fieldLink RX1 41 "TidegateBourseModel" "thrown" "I") (by decide +kernel)) (fun _ h9 => h9) rfl dX1_made_18 ?_
    refine lv_if_le (tgt := 28) hx hb dX1_made_21 (by decide) (fun h9 => absurd h9 (by decide)) (fun _ => ?_)
    refine lv_iconst (v := 0) hx hb dX1_made_24 (by decide) ?_
    refine lv_goto (tgt := 34) hx hb dX1_made_25 (by decide) ?_
    exact W.iret hx hb hr (fun t ht hW => ⟨⟨_, (L, P, G, V, R, S, Y, O, D, 1, nw, wd, tb, ft, fl, cl, mo), rfl, ⟨fun h9 => absurd (h9.symm.trans (by unfold kGone; rw [if_pos g1])) (by decide), fun _ => ⟨rfl, congrArg (fun z => (L, P, G, V, R, S, Y, O, D, z, nw, wd, tb, ft, fl, cl, mo)) (Eq.symm (by unfold kGone; rw [if_pos g1]))⟩⟩, by rw [ht]; exact hP, va_K.moved hW.alike hK, hD⟩, hS.F ht⟩) hS.2.2 dX1_made_34
  · have hw := hw.trans (if_neg g1)
    subst hw
    refine lv_if_eq (tgt := 13) hx hb dX1_made_6 (by decide) (fun h9 => absurd h9 (by decide)) (fun _ => ?_)
    refine lv_iconst (v := 0) hx hb dX1_made_9 (by decide) ?_
    refine lv_goto (tgt := 14) hx hb dX1_made_10 (by decide) ?_
    refine va_put (D := dG) (ci := 1) (v := .int 0) (ty := .int) (C := RX1) (T := TX1) (N := 17) hx hb hts hinM tyX1 tyX1_ok nmX1 hown hK hP hD hS 0 rfl rfl 0 (by decide) (hts (.fieldLink RX1 41 "TidegateBourseModel" "thrown" "I") (by decide +kernel)) (fun _ h9 => h9) rfl (by decide +kernel) rfl rfl (Nat.le_of_ble_eq_true rfl) dX1_made_14 (fun H locs hP hD hS => ?_)
    have hP : va_P dG vwCl (mW B cA L P G V R S Y O D 0 nw wd tb ft fl cl mo) H := hP
    have hD : va_D F (mW B cA L P G V R S Y O D 0 nw wd tb ft fl cl mo) := hD
    refine lv_aload_n hx hb dX1_made_17 rfl (lv_at hl 0 rfl) ?_
    refine va_get (D := dG) (ci := 1) (v := .int 0) (C := RX1) (T := TX1) (N := 17) hx hb hts hinM hown hK hP 0 rfl rfl 0 (by decide) (hts (.fieldLink RX1 41 "TidegateBourseModel" "thrown" "I") (by decide +kernel)) (fun _ h9 => h9) rfl dX1_made_18 ?_
    refine lv_if_le (tgt := 28) hx hb dX1_made_21 (by decide) (fun _ => ?_) (fun h9 => absurd (by decide) h9)
    refine lv_aload_n hx hb dX1_made_28 rfl (lv_at hl 0 rfl) ?_
    refine va_get (D := dG) (ci := 1) (v := .ref (B 7)) (C := RX1) (T := TX1) (N := 17) hx hb hts hinM hown hK hP 0 rfl rfl 13 (by decide) (hts (.fieldLink RX1 32 "TidegateBourseModel" "made" "[I") (by decide +kernel)) (fun _ h9 => h9) rfl dX1_made_29 ?_
    refine lv_iload_n hx hb dX1_made_32 rfl (lv_at hl 1 rfl) ?_
    refine va_iald hx hb hK hP 7 0 rfl rfl (vp_pred g1 hnw.1 hnw.2) dX1_made_33 ?_
    exact W.iret hx hb hr (fun t ht hW => ⟨⟨_, (L, P, G, V, R, S, Y, O, D, 0, nw, wd, tb, ft, fl, cl, mo), rfl, ⟨fun _ => ⟨rfl, rfl⟩, fun h9 => absurd (by unfold kGone; rw [if_neg g1]) h9⟩, by rw [ht]; exact hP, va_K.moved hW.alike hK, hD⟩, hS.F ht⟩) hS.2.2 dX1_made_34
set_option maxHeartbeats 4000000 in
set_option maxRecDepth 100000 in
theorem c_X1_madeAnew (l : Launch) (dG : va_G) (B : Nat → Nat) (cA : ClassId) (Hp : Heap) (L P G V R S Y O D : Nat → Int32) (th nw wd tb ft fl cl : Int32) (mo : UInt32) (h : Int32) (hnw : 0 ≤ nw.toInt ∧ nw.toInt ≤ 500) : Met l yX1_madeAnew wsX1_madeAnew ({ frames := 4, cells := 0, slots := 0, locals := 100 }) (va_Pc [.ref (B 0), .int h] (fun U => wPre dG (tyI cA) (mW B cA L P G V R S Y O D th nw wd tb ft fl cl mo) Hp U)) (va_Qi (fun (r : Int32) (u : MS) => (kGone nw h = 0 → r = Y h.toNatClampNeg ∧ u = (L, P, G, V, R, S, Y, O, D, 0, nw, wd, tb, ft, fl, cl, mo)) ∧ (¬ kGone nw h = 0 → r = 0 ∧ u = (L, P, G, V, R, S, Y, O, D, kGone nw h, nw, wd, tb, ft, fl, cl, mo))) (fun u t => wAt dG (tyI cA) (va_A (mW B cA L P G V R S Y O D th nw wd tb ft fl cl mo) Hp.size) (mU B cA u) t) (va_A (mW B cA L P G V R S Y O D th nw wd tb ft fl cl mo) Hp.size)) 0 0 (va_A (mW B cA L P G V R S Y O D th nw wd tb ft fl cl mo) Hp.size) := by
  refine Met.ofW (cc := cX1_madeAnew) (maxL := 2) (ret := some .int) (by decide) rfl ?_
  intro p e s m args below meth c s₁ Bd hml hv
  obtain ⟨rfl, hH, hP, hK, hD0⟩ := hv
  subst hH
  have hK : va_K dG vwCl (tyI cA) s := hK
  have hx := Bd.exec
  have hb := Bd.bytes
  have hr := Bd.returns
  have hts := atoms_spec (ws := wsX1_madeAnew) Bd.pre
  have hown : s.vm.findClass RX1 = some m.cls := findClass_of_methodNamed Bd.named
  have hlocks := Bd.notSynchronized
  have hinM : ∀ w ∈ wsX10, w ∈ wsX1_madeAnew := by decide +kernel
  have hD := hD0.self (sz := s.heap.size)
  generalize hAe : va_A (mW B cA L P G V R S Y O D th nw wd tb ft fl cl mo) s.heap.size = F at hD ⊢
  have hA : ∀ q : Nat, s.heap.size ≤ q → F q := fun q h => by rw [← hAe]; exact Or.inr h
  have hS : va_S F s.heap s.heap [] := va_S.rf
  have hP : va_P dG vwCl (mW B cA L P G V R S Y O D th nw wd tb ft fl cl mo) s.heap := hP
  have hl := lv_entry ([.ref (B 0), .int h]) (n := 2) (Nat.le_of_ble_eq_true rfl)
  rw [lg_entry_eq]
  generalize (lg_sl ([.ref (B 0), .int h]) ++ List.replicate (2 - (lg_sl ([.ref (B 0), .int h])).length) Slot.unset).toArray = ls at hl ⊢
  have hl : lv_has ls 2 [(0, .ref (B 0)), (1, .int h)] := hl
  refine lv_aload_n hx hb dX1_madeAnew_0 rfl (lv_at hl 0 rfl) ?_
  refine lv_aload_n hx hb dX1_madeAnew_1 rfl (lv_at hl 0 rfl) ?_
  refine lv_iload_n hx hb dX1_madeAnew_2 rfl (lv_at hl 1 rfl) ?_
  refine va_calli (va_runV (As := [.int h]) (rest := [.ref (B 0)]) ⟨hx, hb, hml, hown, hts⟩ (c_X1_isGone l dG B cA s.heap L P G V R S Y O D th nw wd tb ft fl cl mo h) (cwV 1 hts gX1_madeAnew_X1_isGone rfl rfl rfl (by decide +kernel) ⟨Nat.le_of_ble_eq_true rfl, Nat.le_of_ble_eq_true rfl⟩) ⟨fun a U g mk q => ⟨q.1, wPre_calling g mk a q.2⟩, va_recv hK hP (ci := 1) (q0 := 0) rfl rfl, fun U hU hW => ⟨rfl, wPre_of hK hP hD hU hW⟩⟩ rfl rfl hl.1 rfl (lv_room (Nat.le_of_ble_eq_true rfl)) dX1_madeAnew_3 ⟨Nat.le_of_ble_eq_true rfl, Nat.le_of_ble_eq_true rfl⟩) hS (fun q _ h => h.elim) (va_free hD hS hA [0, 1, 2, 3, 4, 5, 6, 7, 8, 9] rfl) (fun r1 u1 t H1 locs ht hvm hw hB hz1 hk1 hS => ?_)
  have e9 := hB.symm.trans ht
  subst e9
  by_cases g1 : oI h 0 (nw - 1)
  · have hw := hw.trans (if_pos g1)
    subst hw
    refine lv_if_eq (tgt := 13) hx hb dX1_madeAnew_6 (by decide) (fun _ => ?_) (fun h9 => absurd (by decide) h9)
    refine lv_iconst (v := 1) hx hb dX1_madeAnew_13 (by decide) ?_
    refine va_put (D := dG) (ci := 1) (v := .int 1) (ty := .int) (C := RX1) (T := TX1) (N := 17) hx hb hts hinM tyX1 tyX1_ok nmX1 hown hK hP hD hS 0 rfl rfl 0 (by decide) (hts (.fieldLink RX1 41 "TidegateBourseModel" "thrown" "I") (by decide +kernel)) (fun _ h9 => h9) rfl (by decide +kernel) rfl rfl (Nat.le_of_ble_eq_true rfl) dX1_madeAnew_14 (fun H locs hP hD hS => ?_)
    have hP : va_P dG vwCl (mW B cA L P G V R S Y O D 1 nw wd tb ft fl cl mo) H := hP
    have hD : va_D F (mW B cA L P G V R S Y O D 1 nw wd tb ft fl cl mo) := hD
    refine lv_aload_n hx hb dX1_madeAnew_17 rfl (lv_at hl 0 rfl) ?_
    refine va_get (D := dG) (ci := 1) (v := .int 1) (C := RX1) (T := TX1) (N := 17) hx hb hts hinM hown hK hP 0 rfl rfl 0 (by decide) (hts (.fieldLink RX1 41 "TidegateBourseModel" "thrown" "I") (by decide +kernel)) (fun _ h9 => h9) rfl dX1_madeAnew_18 ?_
    refine lv_if_le (tgt := 28) hx hb dX1_madeAnew_21 (by decide) (fun h9 => absurd h9 (by decide)) (fun _ => ?_)
    refine lv_iconst (v := 0) hx hb dX1_madeAnew_24 (by decide) ?_
    refine lv_goto (tgt := 34) hx hb dX1_madeAnew_25 (by decide) ?_
    exact W.iret hx hb hr (fun t ht hW => ⟨⟨_, (L, P, G, V, R, S, Y, O, D, 1, nw, wd, tb, ft, fl, cl, mo), rfl, ⟨fun h9 => absurd (h9.symm.trans (by unfold kGone; rw [if_pos g1])) (by decide), fun _ => ⟨rfl, congrArg (fun z => (L, P, G, V, R, S, Y, O, D, z, nw, wd, tb, ft, fl, cl, mo)) (Eq.symm (by unfold kGone; rw [if_pos g1]))⟩⟩, by rw [ht]; exact hP, va_K.moved hW.alike hK, hD⟩, hS.F ht⟩) hS.2.2 dX1_madeAnew_34
  · have hw := hw.trans (if_neg g1)
    subst hw
    refine lv_if_eq (tgt := 13) hx hb dX1_madeAnew_6 (by decide) (fun h9 => absurd h9 (by decide)) (fun _ => ?_)
    refine lv_iconst (v := 0) hx hb dX1_madeAnew_9 (by decide) ?_
    refine lv_goto (tgt := 14) hx hb dX1_madeAnew_10 (by decide) ?_
    refine va_put (D := dG) (ci := 1) (v := .int 0) (ty := .int) (C := RX1) (T := TX1) (N := 17) hx hb hts hinM tyX1 tyX1_ok nmX1 hown hK hP hD hS 0 rfl rfl 0 (by decide) (hts (.fieldLink RX1 41 "TidegateBourseModel" "thrown" "I") (by decide +kernel)) (fun _ h9 => h9) rfl (by decide +kernel) rfl rfl (Nat.le_of_ble_eq_true rfl) dX1_madeAnew_14 (fun H locs hP hD hS => ?_)
    have hP : va_P dG vwCl (mW B cA L P G V R S Y O D 0 nw wd tb ft fl cl mo) H := hP
    have hD : va_D F (mW B cA L P G V R S Y O D 0 nw wd tb ft fl cl mo) := hD
    refine lv_aload_n hx hb dX1_madeAnew_17 rfl (lv_at hl 0 rfl) ?_
    refine va_get (D := dG) (ci := 1) (v := .int 0) (C := RX1) (T := TX1) (N := 17) hx hb hts hinM hown hK hP 0 rfl rfl 0 (by decide) (hts (.fieldLink RX1 41 "TidegateBourseModel" "thrown" "I") (by decide +kernel)) (fun _ h9 => h9) rfl dX1_madeAnew_18 ?_
    refine lv_if_le (tgt := 28) hx hb dX1_madeAnew_21 (by decide) (fun _ => ?_) (fun h9 => absurd (by decide) h9)
    refine lv_aload_n hx hb dX1_madeAnew_28 rfl (lv_at hl 0 rfl) ?_
    refine va_get (D := dG) (ci := 1) (v := .ref (B 7)) (C := RX1) (T := TX1) (N := 17) hx hb hts hinM hown hK hP 0 rfl rfl 13 (by decide) (hts (.fieldLink RX1 32 "TidegateBourseModel" "made" "[I") (by decide +kernel)) (fun _ h9 => h9) rfl dX1_madeAnew_29 ?_
    refine lv_iload_n hx hb dX1_madeAnew_32 rfl (lv_at hl 1 rfl) ?_
    refine va_iald hx hb hK hP 7 0 rfl rfl (vp_pred g1 hnw.1 hnw.2) dX1_madeAnew_33 ?_
    exact W.iret hx hb hr (fun t ht hW => ⟨⟨_, (L, P, G, V, R, S, Y, O, D, 0, nw, wd, tb, ft, fl, cl, mo), rfl, ⟨fun _ => ⟨rfl, rfl⟩, fun h9 => absurd (by unfold kGone; rw [if_neg g1]) h9⟩, by rw [ht]; exact hP, va_K.moved hW.alike hK, hD⟩, hS.F ht⟩) hS.2.2 dX1_madeAnew_34
set_option maxHeartbeats 4000000 in
set_option maxRecDepth 100000 in
theorem c_X1_sold (l : Launch) (dG : va_G) (B : Nat → Nat) (cA : ClassId) (Hp : Heap) (L P G V R S Y O D : Nat → Int32) (th nw wd tb ft fl cl : Int32) (mo : UInt32) (h : Int32) (hnw : 0 ≤ nw.toInt ∧ nw.toInt ≤ 500) : Met l yX1_sold wsX1_sold ({ frames := 4, cells := 0, slots := 0, locals := 100 }) (va_Pc [.ref (B 0), .int h] (fun U => wPre dG (tyI cA) (mW B cA L P G V R S Y O D th nw wd tb ft fl cl mo) Hp U)) (va_Qi (fun (r : Int32) (u : MS) => (kSold nw h = 0 → r = S h.toNatClampNeg ∧ u = (L, P, G, V, R, S, Y, O, D, 0, nw, wd, tb, ft, fl, cl, mo)) ∧ (¬ kSold nw h = 0 → r = 0 ∧ u = (L, P, G, V, R, S, Y, O, D, kSold nw h, nw, wd, tb, ft, fl, cl, mo))) (fun u t => wAt dG (tyI cA) (va_A (mW B cA L P G V R S Y O D th nw wd tb ft fl cl mo) Hp.size) (mU B cA u) t) (va_A (mW B cA L P G V R S Y O D th nw wd tb ft fl cl mo) Hp.size)) 0 0 (va_A (mW B cA L P G V R S Y O D th nw wd tb ft fl cl mo) Hp.size) := by
  refine Met.ofW (cc := cX1_sold) (maxL := 2) (ret := some .int) (by decide) rfl ?_
  intro p e s m args below meth c s₁ Bd hml hv
  obtain ⟨rfl, hH, hP, hK, hD0⟩ := hv
  subst hH
  have hK : va_K dG vwCl (tyI cA) s := hK
  have hx := Bd.exec
  have hb := Bd.bytes
  have hr := Bd.returns
  have hts := atoms_spec (ws := wsX1_sold) Bd.pre
  have hown : s.vm.findClass RX1 = some m.cls := findClass_of_methodNamed Bd.named
  have hlocks := Bd.notSynchronized
  have hinM : ∀ w ∈ wsX10, w ∈ wsX1_sold := by decide +kernel
  have hD := hD0.self (sz := s.heap.size)
  generalize hAe : va_A (mW B cA L P G V R S Y O D th nw wd tb ft fl cl mo) s.heap.size = F at hD ⊢
  have hA : ∀ q : Nat, s.heap.size ≤ q → F q := fun q h => by rw [← hAe]; exact Or.inr h
  have hS : va_S F s.heap s.heap [] := va_S.rf
  have hP : va_P dG vwCl (mW B cA L P G V R S Y O D th nw wd tb ft fl cl mo) s.heap := hP
  have hl := lv_entry ([.ref (B 0), .int h]) (n := 2) (Nat.le_of_ble_eq_true rfl)
  rw [lg_entry_eq]
  generalize (lg_sl ([.ref (B 0), .int h]) ++ List.replicate (2 - (lg_sl ([.ref (B 0), .int h])).length) Slot.unset).toArray = ls at hl ⊢
  have hl : lv_has ls 2 [(0, .ref (B 0)), (1, .int h)] := hl
  refine lv_aload_n hx hb dX1_sold_0 rfl (lv_at hl 0 rfl) ?_
  refine lv_iload_n hx hb dX1_sold_1 rfl (lv_at hl 1 rfl) ?_
  refine lv_iconst (v := 0) hx hb dX1_sold_2 (by decide) ?_
  refine lv_aload_n hx hb dX1_sold_3 rfl (lv_at hl 0 rfl) ?_
  refine va_get (D := dG) (ci := 1) (v := .int nw) (C := RX1) (T := TX1) (N := 17) hx hb hts hinM hown hK hP 0 rfl rfl 1 (by decide) (hts (.fieldLink RX1 61 "TidegateBourseModel" "now" "I") (by decide +kernel)) (fun _ h9 => h9) rfl dX1_sold_4 ?_
  refine lv_bipush (v := 47) hx hb dX1_sold_7 (by decide) ?_
  refine lv_iadd hx hb dX1_sold_9 ?_
  refine va_calli (va_runS (As := [.int h, .int 0, .int (nw + 47)]) (rest := [.ref (B 0)]) ⟨hx, hb, hml, hown, hts⟩ (c_X1_isIn l s.heap h 0 (nw + 47)) (va_cwS 3 hts gX1_sold_X1_isIn rfl rfl rfl (by decide +kernel) ⟨Nat.le_of_ble_eq_true rfl, Nat.le_of_ble_eq_true rfl⟩) ⟨fun a U g mk q => q, fun U hU hW => ⟨rfl, hU⟩⟩ rfl rfl hl.1 rfl (lv_room (Nat.le_of_ble_eq_true rfl)) dX1_sold_10 ⟨Nat.le_of_ble_eq_true rfl, Nat.le_of_ble_eq_true rfl⟩) hS (fun q _ h => h.elim) (fun q h => h.elim) (fun r1 u1 t H1 locs ht hvm hw hB hz1 hk1 hS => ?_)
  have e9 := hB.symm.trans ht
  subst e9
  by_cases g1 : oI h 0 (nw + 47)
  · have hw := hw.trans (fIsIn_pos g1)
    subst hw
    refine lv_if_eq (tgt := 20) hx hb dX1_sold_13 (by decide) (fun _ => ?_) (fun h9 => absurd (by decide) h9)
    refine lv_iconst (v := 1) hx hb dX1_sold_20 (by decide) ?_
    refine va_put (D := dG) (ci := 1) (v := .int 1) (ty := .int) (C := RX1) (T := TX1) (N := 17) hx hb hts hinM tyX1 tyX1_ok nmX1 hown hK hP hD hS 0 rfl rfl 0 (by decide) (hts (.fieldLink RX1 41 "TidegateBourseModel" "thrown" "I") (by decide +kernel)) (fun _ h9 => h9) rfl (by decide +kernel) rfl rfl (Nat.le_of_ble_eq_true rfl) dX1_sold_21 (fun H locs hP hD hS => ?_)
    have hP : va_P dG vwCl (mW B cA L P G V R S Y O D 1 nw wd tb ft fl cl mo) H := hP
    have hD : va_D F (mW B cA L P G V R S Y O D 1 nw wd tb ft fl cl mo) := hD
    refine lv_aload_n hx hb dX1_sold_24 rfl (lv_at hl 0 rfl) ?_
    refine va_get (D := dG) (ci := 1) (v := .int 1) (C := RX1) (T := TX1) (N := 17) hx hb hts hinM hown hK hP 0 rfl rfl 0 (by decide) (hts (.fieldLink RX1 41 "TidegateBourseModel" "thrown" "I") (by decide +kernel)) (fun _ h9 => h9) rfl dX1_sold_25 ?_
    refine lv_if_le (tgt := 35) hx hb dX1_sold_28 (by decide) (fun h9 => absurd h9 (by decide)) (fun _ => ?_)
    refine lv_iconst (v := 0) hx hb dX1_sold_31 (by decide) ?_
    refine lv_goto (tgt := 41) hx hb dX1_sold_32 (by decide) ?_
    exact W.iret hx hb hr (fun t ht hW => ⟨⟨_, (L, P, G, V, R, S, Y, O, D, 1, nw, wd, tb, ft, fl, cl, mo), rfl, ⟨fun h9 => absurd (h9.symm.trans (by unfold kSold; rw [if_pos g1])) (by decide), fun _ => ⟨rfl, congrArg (fun z => (L, P, G, V, R, S, Y, O, D, z, nw, wd, tb, ft, fl, cl, mo)) (Eq.symm (by unfold kSold; rw [if_pos g1]))⟩⟩, by rw [ht]; exact hP, va_K.moved hW.alike hK, hD⟩, hS.F ht⟩) hS.2.2 dX1_sold_41
  · have hw := hw.trans (fIsIn_neg g1)
    subst hw
    refine lv_if_eq (tgt := 20) hx hb dX1_sold_13 (by decide) (fun h9 => absurd h9 (by decide)) (fun _ => ?_)
    refine lv_iconst (v := 0) hx hb dX1_sold_16 (by decide) ?_
    refine lv_goto (tgt := 21) hx hb dX1_sold_17 (by decide) ?_
    refine va_put (D := dG) (ci := 1) (v := .int 0) (ty := .int) (C := RX1) (T := TX1) (N := 17) hx hb hts hinM tyX1 tyX1_ok nmX1 hown hK hP hD hS 0 rfl rfl 0 (by decide) (hts (.fieldLink RX1 41 "TidegateBourseModel" "thrown" "I") (by decide +kernel)) (fun _ h9 => h9) rfl (by decide +kernel) rfl rfl (Nat.le_of_ble_eq_true rfl) dX1_sold_21 (fun H locs hP hD hS => ?_)
    have hP : va_P dG vwCl (mW B cA L P G V R S Y O D 0 nw wd tb ft fl cl mo) H := hP
    have hD : va_D F (mW B cA L P G V R S Y O D 0 nw wd tb ft fl cl mo) := hD
    refine lv_aload_n hx hb dX1_sold_24 rfl (lv_at hl 0 rfl) ?_
    refine va_get (D := dG) (ci := 1) (v := .int 0) (C := RX1) (T := TX1) (N := 17) hx hb hts hinM hown hK hP 0 rfl rfl 0 (by decide) (hts (.fieldLink RX1 41 "TidegateBourseModel" "thrown" "I") (by decide +kernel)) (fun _ h9 => h9) rfl dX1_sold_25 ?_
    refine lv_if_le (tgt := 35) hx hb dX1_sold_28 (by decide) (fun _ => ?_) (fun h9 => absurd (by decide) h9)
    refine lv_aload_n hx hb dX1_sold_35 rfl (lv_at hl 0 rfl) ?_
    refine va_get (D := dG) (ci := 1) (v := .ref (B 6)) (C := RX1) (T := TX1) (N := 17) hx hb hts hinM hown hK hP 0 rfl rfl 12 (by decide) (hts (.fieldLink RX1 29 "TidegateBourseModel" "sold" "[I") (by decide +kernel)) (fun _ h9 => h9) rfl dX1_sold_36 ?_
    refine lv_iload_n hx hb dX1_sold_39 rfl (lv_at hl 1 rfl) ?_
    refine va_iald hx hb hK hP 6 0 rfl rfl (vp_47 g1 (by decide) hnw.1 hnw.2 (by decide)) dX1_sold_40 ?_
    exact W.iret hx hb hr (fun t ht hW => ⟨⟨_, (L, P, G, V, R, S, Y, O, D, 0, nw, wd, tb, ft, fl, cl, mo), rfl, ⟨fun _ => ⟨rfl, rfl⟩, fun h9 => absurd (by unfold kSold; rw [if_neg g1]) h9⟩, by rw [ht]; exact hP, va_K.moved hW.alike hK, hD⟩, hS.F ht⟩) hS.2.2 dX1_sold_41
set_option maxHeartbeats 4000000 in
set_option maxRecDepth 100000 in
theorem c_X1_bought (l : Launch) (dG : va_G) (B : Nat → Nat) (cA : ClassId) (Hp : Heap) (L P G V R S Y O D : Nat → Int32) (th nw wd tb ft fl cl : Int32) (mo : UInt32) (h : Int32) (hnw : 0 ≤ nw.toInt ∧ nw.toInt ≤ 500) : Met l yX1_bought wsX1_bought ({ frames := 4, cells := 0, slots := 0, locals := 100 }) (va_Pc [.ref (B 0), .int h] (fun U => wPre dG (tyI cA) (mW B cA L P G V R S Y O D th nw wd tb ft fl cl mo) Hp U)) (va_Qi (fun (r : Int32) (u : MS) => (kGone nw h = 0 → r = O h.toNatClampNeg ∧ u = (L, P, G, V, R, S, Y, O, D, 0, nw, wd, tb, ft, fl, cl, mo)) ∧ (¬ kGone nw h = 0 → r = 0 ∧ u = (L, P, G, V, R, S, Y, O, D, kGone nw h, nw, wd, tb, ft, fl, cl, mo))) (fun u t => wAt dG (tyI cA) (va_A (mW B cA L P G V R S Y O D th nw wd tb ft fl cl mo) Hp.size) (mU B cA u) t) (va_A (mW B cA L P G V R S Y O D th nw wd tb ft fl cl mo) Hp.size)) 0 0 (va_A (mW B cA L P G V R S Y O D th nw wd tb ft fl cl mo) Hp.size) := by
  refine Met.ofW (cc := cX1_bought) (maxL := 2) (ret := some .int) (by decide) rfl ?_
  intro p e s m args below meth c s₁ Bd hml hv
  obtain ⟨rfl, hH, hP, hK, hD0⟩ := hv
  subst hH
  have hK : va_K dG vwCl (tyI cA) s := hK
  have hx := Bd.exec
  have hb := Bd.bytes
  have hr := Bd.returns
  have hts := atoms_spec (ws := wsX1_bought) Bd.pre
  have hown : s.vm.findClass RX1 = some m.cls := findClass_of_methodNamed Bd.named
  have hlocks := Bd.notSynchronized
  have hinM : ∀ w ∈ wsX10, w ∈ wsX1_bought := by decide +kernel
  have hD := hD0.self (sz := s.heap.size)
  generalize hAe : va_A (mW B cA L P G V R S Y O D th nw wd tb ft fl cl mo) s.heap.size = F at hD ⊢
  have hA : ∀ q : Nat, s.heap.size ≤ q → F q := fun q h => by rw [← hAe]; exact Or.inr h
  have hS : va_S F s.heap s.heap [] := va_S.rf
  have hP : va_P dG vwCl (mW B cA L P G V R S Y O D th nw wd tb ft fl cl mo) s.heap := hP
  have hl := lv_entry ([.ref (B 0), .int h]) (n := 2) (Nat.le_of_ble_eq_true rfl)
  rw [lg_entry_eq]
  generalize (lg_sl ([.ref (B 0), .int h]) ++ List.replicate (2 - (lg_sl ([.ref (B 0), .int h])).length) Slot.unset).toArray = ls at hl ⊢
  have hl : lv_has ls 2 [(0, .ref (B 0)), (1, .int h)] := hl
  refine lv_aload_n hx hb dX1_bought_0 rfl (lv_at hl 0 rfl) ?_
  refine lv_aload_n hx hb dX1_bought_1 rfl (lv_at hl 0 rfl) ?_
  refine lv_iload_n hx hb dX1_bought_2 rfl (lv_at hl 1 rfl) ?_
  refine va_calli (va_runV (As := [.int h]) (rest := [.ref (B 0)]) ⟨hx, hb, hml, hown, hts⟩ (c_X1_isGone l dG B cA s.heap L P G V R S Y O D th nw wd tb ft fl cl mo h) (cwV 1 hts gX1_bought_X1_isGone rfl rfl rfl (by decide +kernel) ⟨Nat.le_of_ble_eq_true rfl, Nat.le_of_ble_eq_true rfl⟩) ⟨fun a U g mk q => ⟨q.1, wPre_calling g mk a q.2⟩, va_recv hK hP (ci := 1) (q0 := 0) rfl rfl, fun U hU hW => ⟨rfl, wPre_of hK hP hD hU hW⟩⟩ rfl rfl hl.1 rfl (lv_room (Nat.le_of_ble_eq_true rfl)) dX1_bought_3 ⟨Nat.le_of_ble_eq_true rfl, Nat.le_of_ble_eq_true rfl⟩) hS (fun q _ h => h.elim) (va_free hD hS hA [0, 1, 2, 3, 4, 5, 6, 7, 8, 9] rfl) (fun r1 u1 t H1 locs ht hvm hw hB hz1 hk1 hS => ?_)
  have e9 := hB.symm.trans ht
  subst e9
  by_cases g1 : oI h 0 (nw - 1)
  · have hw := hw.trans (if_pos g1)
    subst hw
    refine lv_if_eq (tgt := 13) hx hb dX1_bought_6 (by decide) (fun _ => ?_) (fun h9 => absurd (by decide) h9)
    refine lv_iconst (v := 1) hx hb dX1_bought_13 (by decide) ?_
    refine va_put (D := dG) (ci := 1) (v := .int 1) (ty := .int) (C := RX1) (T := TX1) (N := 17) hx hb hts hinM tyX1 tyX1_ok nmX1 hown hK hP hD hS 0 rfl rfl 0 (by decide) (hts (.fieldLink RX1 41 "TidegateBourseModel" "thrown" "I") (by decide +kernel)) (fun _ h9 => h9) rfl (by decide +kernel) rfl rfl (Nat.le_of_ble_eq_true rfl) dX1_bought_14 (fun H locs hP hD hS => ?_)
    have hP : va_P dG vwCl (mW B cA L P G V R S Y O D 1 nw wd tb ft fl cl mo) H := hP
    have hD : va_D F (mW B cA L P G V R S Y O D 1 nw wd tb ft fl cl mo) := hD
    refine lv_aload_n hx hb dX1_bought_17 rfl (lv_at hl 0 rfl) ?_
    refine va_get (D := dG) (ci := 1) (v := .int 1) (C := RX1) (T := TX1) (N := 17) hx hb hts hinM hown hK hP 0 rfl rfl 0 (by decide) (hts (.fieldLink RX1 41 "TidegateBourseModel" "thrown" "I") (by decide +kernel)) (fun _ h9 => h9) rfl dX1_bought_18 ?_
    refine lv_if_le (tgt := 28) hx hb dX1_bought_21 (by decide) (fun h9 => absurd h9 (by decide)) (fun _ => ?_)
    refine lv_iconst (v := 0) hx hb dX1_bought_24 (by decide) ?_
    refine lv_goto (tgt := 34) hx hb dX1_bought_25 (by decide) ?_
    exact W.iret hx hb hr (fun t ht hW => ⟨⟨_, (L, P, G, V, R, S, Y, O, D, 1, nw, wd, tb, ft, fl, cl, mo), rfl, ⟨fun h9 => absurd (h9.symm.trans (by unfold kGone; rw [if_pos g1])) (by decide), fun _ => ⟨rfl, congrArg (fun z => (L, P, G, V, R, S, Y, O, D, z, nw, wd, tb, ft, fl, cl, mo)) (Eq.symm (by unfold kGone; rw [if_pos g1]))⟩⟩, by rw [ht]; exact hP, va_K.moved hW.alike hK, hD⟩, hS.F ht⟩) hS.2.2 dX1_bought_34
  · have hw := hw.trans (if_neg g1)
    subst hw
    refine lv_if_eq (tgt := 13) hx hb dX1_bought_6 (by decide) (fun h9 => absurd h9 (by decide)) (fun _ => ?_)
    refine lv_iconst (v := 0) hx hb dX1_bought_9 (by decide) ?_
    refine lv_goto (tgt := 14) hx hb dX1_bought_10 (by decide) ?_
    refine va_put (D := dG) (ci := 1) (v := .int 0) (ty := .int) (C := RX1) (T := TX1) (N := 17) hx hb hts hinM tyX1 tyX1_ok nmX1 hown hK hP hD hS 0 rfl rfl 0 (by decide) (hts (.fieldLink RX1 41 "TidegateBourseModel" "thrown" "I") (by decide +kernel)) (fun _ h9 => h9) rfl (by decide +kernel) rfl rfl (Nat.le_of_ble_eq_true rfl) dX1_bought_14 (fun H locs hP hD hS => ?_)
    have hP : va_P dG vwCl (mW B cA L P G V R S Y O D 0 nw wd tb ft fl cl mo) H := hP
    have hD : va_D F (mW B cA L P G V R S Y O D 0 nw wd tb ft fl cl mo) := hD
    refine lv_aload_n hx hb dX1_bought_17 rfl (lv_at hl 0 rfl) ?_
    refine va_get (D := dG) (ci := 1) (v := .int 0) (C := RX1) (T := TX1) (N := 17) hx hb hts hinM hown hK hP 0 rfl rfl 0 (by decide) (hts (.fieldLink RX1 41 "TidegateBourseModel" "thrown" "I") (by decide +kernel)) (fun _ h9 => h9) rfl dX1_bought_18 ?_
    refine lv_if_le (tgt := 28) hx hb dX1_bought_21 (by decide) (fun _ => ?_) (fun h9 => absurd (by decide) h9)
    refine lv_aload_n hx hb dX1_bought_28 rfl (lv_at hl 0 rfl) ?_
    refine va_get (D := dG) (ci := 1) (v := .ref (B 8)) (C := RX1) (T := TX1) (N := 17) hx hb hts hinM hown hK hP 0 rfl rfl 14 (by decide) (hts (.fieldLink RX1 35 "TidegateBourseModel" "bought" "[I") (by decide +kernel)) (fun _ h9 => h9) rfl dX1_bought_29 ?_
    refine lv_iload_n hx hb dX1_bought_32 rfl (lv_at hl 1 rfl) ?_
    refine va_iald hx hb hK hP 8 0 rfl rfl (vp_pred g1 hnw.1 hnw.2) dX1_bought_33 ?_
    exact W.iret hx hb hr (fun t ht hW => ⟨⟨_, (L, P, G, V, R, S, Y, O, D, 0, nw, wd, tb, ft, fl, cl, mo), rfl, ⟨fun _ => ⟨rfl, rfl⟩, fun h9 => absurd (by unfold kGone; rw [if_neg g1]) h9⟩, by rw [ht]; exact hP, va_K.moved hW.alike hK, hD⟩, hS.F ht⟩) hS.2.2 dX1_bought_34
set_option maxHeartbeats 4000000 in
set_option maxRecDepth 100000 in
theorem c_X1_head (l : Launch) (dG : va_G) (B : Nat → Nat) (cA : ClassId) (Hp : Heap) (L P G V R S Y O D : Nat → Int32) (th nw wd tb ft fl cl : Int32) (mo : UInt32) (h : Int32) (hnw : 0 ≤ nw.toInt ∧ nw.toInt ≤ 500) : Met l yX1_head wsX1_head ({ frames := 4, cells := 0, slots := 0, locals := 100 }) (va_Pc [.ref (B 0), .int h] (fun U => wPre dG (tyI cA) (mW B cA L P G V R S Y O D th nw wd tb ft fl cl mo) Hp U)) (va_Qi (fun (r : Int32) (u : MS) => (kGone nw h = 0 → r = D h.toNatClampNeg ∧ u = (L, P, G, V, R, S, Y, O, D, 0, nw, wd, tb, ft, fl, cl, mo)) ∧ (¬ kGone nw h = 0 → r = 0 ∧ u = (L, P, G, V, R, S, Y, O, D, kGone nw h, nw, wd, tb, ft, fl, cl, mo))) (fun u t => wAt dG (tyI cA) (va_A (mW B cA L P G V R S Y O D th nw wd tb ft fl cl mo) Hp.size) (mU B cA u) t) (va_A (mW B cA L P G V R S Y O D th nw wd tb ft fl cl mo) Hp.size)) 0 0 (va_A (mW B cA L P G V R S Y O D th nw wd tb ft fl cl mo) Hp.size) := by
  refine Met.ofW (cc := cX1_head) (maxL := 2) (ret := some .int) (by decide) rfl ?_
  intro p e s m args below meth c s₁ Bd hml hv
  obtain ⟨rfl, hH, hP, hK, hD0⟩ := hv
  subst hH
  have hK : va_K dG vwCl (tyI cA) s := hK
  have hx := Bd.exec
  have hb := Bd.bytes
  have hr := Bd.returns
  have hts := atoms_spec (ws := wsX1_head) Bd.pre
  have hown : s.vm.findClass RX1 = some m.cls := findClass_of_methodNamed Bd.named
  have hlocks := Bd.notSynchronized
  have hinM : ∀ w ∈ wsX10, w ∈ wsX1_head := by decide +kernel
  have hD := hD0.self (sz := s.heap.size)
  generalize hAe : va_A (mW B cA L P G V R S Y O D th nw wd tb ft fl cl mo) s.heap.size = F at hD ⊢
  have hA : ∀ q : Nat, s.heap.size ≤ q → F q := fun q h => by rw [← hAe]; exact Or.inr h
  have hS : va_S F s.heap s.heap [] := va_S.rf
  have hP : va_P dG vwCl (mW B cA L P G V R S Y O D th nw wd tb ft fl cl mo) s.heap := hP
  have hl := lv_entry ([.ref (B 0), .int h]) (n := 2) (Nat.le_of_ble_eq_true rfl)
  rw [lg_entry_eq]
  generalize (lg_sl ([.ref (B 0), .int h]) ++ List.replicate (2 - (lg_sl ([.ref (B 0), .int h])).length) Slot.unset).toArray = ls at hl ⊢
  have hl : lv_has ls 2 [(0, .ref (B 0)), (1, .int h)] := hl
  refine lv_aload_n hx hb dX1_head_0 rfl (lv_at hl 0 rfl) ?_
  refine lv_aload_n hx hb dX1_head_1 rfl (lv_at hl 0 rfl) ?_
  refine lv_iload_n hx hb dX1_head_2 rfl (lv_at hl 1 rfl) ?_
  refine va_calli (va_runV (As := [.int h]) (rest := [.ref (B 0)]) ⟨hx, hb, hml, hown, hts⟩ (c_X1_isGone l dG B cA s.heap L P G V R S Y O D th nw wd tb ft fl cl mo h) (cwV 1 hts gX1_head_X1_isGone rfl rfl rfl (by decide +kernel) ⟨Nat.le_of_ble_eq_true rfl, Nat.le_of_ble_eq_true rfl⟩) ⟨fun a U g mk q => ⟨q.1, wPre_calling g mk a q.2⟩, va_recv hK hP (ci := 1) (q0 := 0) rfl rfl, fun U hU hW => ⟨rfl, wPre_of hK hP hD hU hW⟩⟩ rfl rfl hl.1 rfl (lv_room (Nat.le_of_ble_eq_true rfl)) dX1_head_3 ⟨Nat.le_of_ble_eq_true rfl, Nat.le_of_ble_eq_true rfl⟩) hS (fun q _ h => h.elim) (va_free hD hS hA [0, 1, 2, 3, 4, 5, 6, 7, 8, 9] rfl) (fun r1 u1 t H1 locs ht hvm hw hB hz1 hk1 hS => ?_)
  have e9 := hB.symm.trans ht
  subst e9
  by_cases g1 : oI h 0 (nw - 1)
  · have hw := hw.trans (if_pos g1)
    subst hw
    refine lv_if_eq (tgt := 13) hx hb dX1_head_6 (by decide) (fun _ => ?_) (fun h9 => absurd (by decide) h9)
    refine lv_iconst (v := 1) hx hb dX1_head_13 (by decide) ?_
    refine va_put (D := dG) (ci := 1) (v := .int 1) (ty := .int) (C := RX1) (T := TX1) (N := 17) hx hb hts hinM tyX1 tyX1_ok nmX1 hown hK hP hD hS 0 rfl rfl 0 (by decide) (hts (.fieldLink RX1 41 "TidegateBourseModel" "thrown" "I") (by decide +kernel)) (fun _ h9 => h9) rfl (by decide +kernel) rfl rfl (Nat.le_of_ble_eq_true rfl) dX1_head_14 (fun H locs hP hD hS => ?_)
    have hP : va_P dG vwCl (mW B cA L P G V R S Y O D 1 nw wd tb ft fl cl mo) H := hP
    have hD : va_D F (mW B cA L P G V R S Y O D 1 nw wd tb ft fl cl mo) := hD
    refine lv_aload_n hx hb dX1_head_17 rfl (lv_at hl 0 rfl) ?_
    refine va_get (D := dG) (ci := 1) (v := .int 1) (C := RX1) (T := TX1) (N := 17) hx hb hts hinM hown hK hP 0 rfl rfl 0 (by decide) (hts (.fieldLink RX1 41 "TidegateBourseModel" "thrown" "I") (by decide +kernel)) (fun _ h9 => h9) rfl dX1_head_18 ?_
    refine lv_if_le (tgt := 28) hx hb dX1_head_21 (by decide) (fun h9 => absurd h9 (by decide)) (fun _ => ?_)
    refine lv_iconst (v := 0) hx hb dX1_head_24 (by decide) ?_
    refine lv_goto (tgt := 34) hx hb dX1_head_25 (by decide) ?_
    exact W.iret hx hb hr (fun t ht hW => ⟨⟨_, (L, P, G, V, R, S, Y, O, D, 1, nw, wd, tb, ft, fl, cl, mo), rfl, ⟨fun h9 => absurd (h9.symm.trans (by unfold kGone; rw [if_pos g1])) (by decide), fun _ => ⟨rfl, congrArg (fun z => (L, P, G, V, R, S, Y, O, D, z, nw, wd, tb, ft, fl, cl, mo)) (Eq.symm (by unfold kGone; rw [if_pos g1]))⟩⟩, by rw [ht]; exact hP, va_K.moved hW.alike hK, hD⟩, hS.F ht⟩) hS.2.2 dX1_head_34
  · have hw := hw.trans (if_neg g1)
    subst hw
    refine lv_if_eq (tgt := 13) hx hb dX1_head_6 (by decide) (fun h9 => absurd h9 (by decide)) (fun _ => ?_)
    refine lv_iconst (v := 0) hx hb dX1_head_9 (by decide) ?_
    refine lv_goto (tgt := 14) hx hb dX1_head_10 (by decide) ?_
    refine va_put (D := dG) (ci := 1) (v := .int 0) (ty := .int) (C := RX1) (T := TX1) (N := 17) hx hb hts hinM tyX1 tyX1_ok nmX1 hown hK hP hD hS 0 rfl rfl 0 (by decide) (hts (.fieldLink RX1 41 "TidegateBourseModel" "thrown" "I") (by decide +kernel)) (fun _ h9 => h9) rfl (by decide +kernel) rfl rfl (Nat.le_of_ble_eq_true rfl) dX1_head_14 (fun H locs hP hD hS => ?_)
    have hP : va_P dG vwCl (mW B cA L P G V R S Y O D 0 nw wd tb ft fl cl mo) H := hP
    have hD : va_D F (mW B cA L P G V R S Y O D 0 nw wd tb ft fl cl mo) := hD
    refine lv_aload_n hx hb dX1_head_17 rfl (lv_at hl 0 rfl) ?_
    refine va_get (D := dG) (ci := 1) (v := .int 0) (C := RX1) (T := TX1) (N := 17) hx hb hts hinM hown hK hP 0 rfl rfl 0 (by decide) (hts (.fieldLink RX1 41 "TidegateBourseModel" "thrown" "I") (by decide +kernel)) (fun _ h9 => h9) rfl dX1_head_18 ?_
    refine lv_if_le (tgt := 28) hx hb dX1_head_21 (by decide) (fun _ => ?_) (fun h9 => absurd (by decide) h9)
    refine lv_aload_n hx hb dX1_head_28 rfl (lv_at hl 0 rfl) ?_
    refine va_get (D := dG) (ci := 1) (v := .ref (B 9)) (C := RX1) (T := TX1) (N := 17) hx hb hts hinM hown hK hP 0 rfl rfl 15 (by decide) (hts (.fieldLink RX1 38 "TidegateBourseModel" "heads" "[I") (by decide +kernel)) (fun _ h9 => h9) rfl dX1_head_29 ?_
    refine lv_iload_n hx hb dX1_head_32 rfl (lv_at hl 1 rfl) ?_
    refine va_iald hx hb hK hP 9 0 rfl rfl (vp_pred g1 hnw.1 hnw.2) dX1_head_33 ?_
    exact W.iret hx hb hr (fun t ht hW => ⟨⟨_, (L, P, G, V, R, S, Y, O, D, 0, nw, wd, tb, ft, fl, cl, mo), rfl, ⟨fun _ => ⟨rfl, rfl⟩, fun h9 => absurd (by unfold kGone; rw [if_neg g1]) h9⟩, by rw [ht]; exact hP, va_K.moved hW.alike hK, hD⟩, hS.F ht⟩) hS.2.2 dX1_head_34
set_option maxHeartbeats 4000000 in
set_option maxRecDepth 100000 in
theorem c_X1_about (l : Launch) (dG : va_G) (B : Nat → Nat) (cA : ClassId) (Hp : Heap) (L P G V R S Y O D : Nat → Int32) (th nw wd tb ft fl cl : Int32) (mo : UInt32) (k : Int32) (w : Int32) (htb : 0 ≤ tb.toInt ∧ tb.toInt ≤ 4) : Met l yX1_about wsX1_about ({ frames := 4, cells := 0, slots := 0, locals := 100 }) (va_Pc [.ref (B 0), .int k, .int w] (fun U => wPre dG (tyI cA) (mW B cA L P G V R S Y O D th nw wd tb ft fl cl mo) Hp U)) (va_Qi (fun (r : Int32) (u : MS) => (kAbout tb k w = 0 → r = (if w = 0 then G k.toNatClampNeg else if w = 1 then V k.toNatClampNeg else R k.toNatClampNeg) ∧ u = (L, P, G, V, R, S, Y, O, D, 0, nw, wd, tb, ft, fl, cl, mo)) ∧ (¬ kAbout tb k w = 0 → r = 0 ∧ u = (L, P, G, V, R, S, Y, O, D, kAbout tb k w, nw, wd, tb, ft, fl, cl, mo))) (fun u t => wAt dG (tyI cA) (va_A (mW B cA L P G V R S Y O D th nw wd tb ft fl cl mo) Hp.size) (mU B cA u) t) (va_A (mW B cA L P G V R S Y O D th nw wd tb ft fl cl mo) Hp.size)) 0 0 (va_A (mW B cA L P G V R S Y O D th nw wd tb ft fl cl mo) Hp.size) := by
  refine Met.ofW (cc := cX1_about) (maxL := 3) (ret := some .int) (by decide) rfl ?_
  intro p e s m args below meth c s₁ Bd hml hv
  obtain ⟨rfl, hH, hP, hK, hD0⟩ := hv
  subst hH
  have hK : va_K dG vwCl (tyI cA) s := hK
  have hx := Bd.exec
  have hb := Bd.bytes
  have hr := Bd.returns
  have hts := atoms_spec (ws := wsX1_about) Bd.pre
  have hown : s.vm.findClass RX1 = some m.cls := findClass_of_methodNamed Bd.named
  have hlocks := Bd.notSynchronized
  have hinM : ∀ w ∈ wsX10, w ∈ wsX1_about := by decide +kernel
  have hD := hD0.self (sz := s.heap.size)
  generalize hAe : va_A (mW B cA L P G V R S Y O D th nw wd tb ft fl cl mo) s.heap.size = F at hD ⊢
  have hA : ∀ q : Nat, s.heap.size ≤ q → F q := fun q h => by rw [← hAe]; exact Or.inr h
  have hS : va_S F s.heap s.heap [] := va_S.rf
  have hP : va_P dG vwCl (mW B cA L P G V R S Y O D th nw wd tb ft fl cl mo) s.heap := hP
  have hl := lv_entry ([.ref (B 0), .int k, .int w]) (n := 3) (Nat.le_of_ble_eq_true rfl)
  rw [lg_entry_eq]
  generalize (lg_sl ([.ref (B 0), .int k, .int w]) ++ List.replicate (3 - (lg_sl ([.ref (B 0), .int k, .int w])).length) Slot.unset).toArray = ls at hl ⊢
  have hl : lv_has ls 3 [(0, .ref (B 0)), (1, .int k), (2, .int w)] := hl
  refine lv_aload_n hx hb dX1_about_0 rfl (lv_at hl 0 rfl) ?_
  refine lv_aload_n hx hb dX1_about_1 rfl (lv_at hl 0 rfl) ?_
  refine lv_iload_n hx hb dX1_about_2 rfl (lv_at hl 1 rfl) ?_
  refine va_calli (va_runV (As := [.int k]) (rest := [.ref (B 0)]) ⟨hx, hb, hml, hown, hts⟩ (c_X1_isTurbine l dG B cA s.heap L P G V R S Y O D th nw wd tb ft fl cl mo k) (cwV 1 hts gX1_about_X1_isTurbine rfl rfl rfl (by decide +kernel) ⟨Nat.le_of_ble_eq_true rfl, Nat.le_of_ble_eq_true rfl⟩) ⟨fun a U g mk q => ⟨q.1, wPre_calling g mk a q.2⟩, va_recv hK hP (ci := 1) (q0 := 0) rfl rfl, fun U hU hW => ⟨rfl, wPre_of hK hP hD hU hW⟩⟩ rfl rfl hl.1 rfl (lv_room (Nat.le_of_ble_eq_true rfl)) dX1_about_3 ⟨Nat.le_of_ble_eq_true rfl, Nat.le_of_ble_eq_true rfl⟩) hS (fun q _ h => h.elim) (va_free hD hS hA [0, 1, 2, 3, 4, 5, 6, 7, 8, 9] rfl) (fun r1 u1 t H1 locs ht hvm hw hB hz1 hk1 hS => ?_)
  have e9 := hB.symm.trans ht
  subst e9
  by_cases g1 : oI k 0 (tb - 1)
  · have hw := hw.trans (if_pos g1)
    subst hw
    refine lv_if_ne (tgt := 13) hx hb dX1_about_6 (by decide) (fun h9 => absurd (by decide) h9) (fun _ => ?_)
    refine lv_iconst (v := 1) hx hb dX1_about_9 (by decide) ?_
    refine lv_goto (tgt := 27) hx hb dX1_about_10 (by decide) ?_
    refine va_put (D := dG) (ci := 1) (v := .int 1) (ty := .int) (C := RX1) (T := TX1) (N := 17) hx hb hts hinM tyX1 tyX1_ok nmX1 hown hK hP hD hS 0 rfl rfl 0 (by decide) (hts (.fieldLink RX1 41 "TidegateBourseModel" "thrown" "I") (by decide +kernel)) (fun _ h9 => h9) rfl (by decide +kernel) rfl rfl (Nat.le_of_ble_eq_true rfl) dX1_about_27 (fun H locs hP hD hS => ?_)
    have hP : va_P dG vwCl (mW B cA L P G V R S Y O D 1 nw wd tb ft fl cl mo) H := hP
    have hD : va_D F (mW B cA L P G V R S Y O D 1 nw wd tb ft fl cl mo) := hD
    refine lv_aload_n hx hb dX1_about_30 rfl (lv_at hl 0 rfl) ?_
    refine va_get (D := dG) (ci := 1) (v := .int 1) (C := RX1) (T := TX1) (N := 17) hx hb hts hinM hown hK hP 0 rfl rfl 0 (by decide) (hts (.fieldLink RX1 41 "TidegateBourseModel" "thrown" "I") (by decide +kernel)) (fun _ h9 => h9) rfl dX1_about_31 ?_
    refine lv_if_le (tgt := 41) hx hb dX1_about_34 (by decide) (fun h9 => absurd h9 (by decide)) (fun _ => ?_)
    refine lv_iconst (v := 0) hx hb dX1_about_37 (by decide) ?_
    refine lv_goto (tgt := 74) hx hb dX1_about_38 (by decide) ?_
    exact W.iret hx hb hr (fun t ht hW => ⟨⟨_, (L, P, G, V, R, S, Y, O, D, 1, nw, wd, tb, ft, fl, cl, mo), rfl, ⟨fun h9 => absurd (h9.symm.trans (by unfold kAbout; rw [if_pos g1])) (by decide), fun _ => ⟨rfl, congrArg (fun z => (L, P, G, V, R, S, Y, O, D, z, nw, wd, tb, ft, fl, cl, mo)) (Eq.symm (by unfold kAbout; rw [if_pos g1]))⟩⟩, by rw [ht]; exact hP, va_K.moved hW.alike hK, hD⟩, hS.F ht⟩) hS.2.2 dX1_about_74
  · have hw := hw.trans (if_neg g1)
    subst hw
    refine lv_if_ne (tgt := 13) hx hb dX1_about_6 (by decide) (fun _ => ?_) (fun h9 => absurd h9 (by decide))
    refine lv_iload_n hx hb dX1_about_13 rfl (lv_at hl 2 rfl) ?_
    refine lv_iconst (v := 0) hx hb dX1_about_14 (by decide) ?_
    refine lv_iconst (v := 2) hx hb dX1_about_15 (by decide) ?_
    refine va_calli (va_runS (As := [.int w, .int 0, .int 2]) (rest := [.ref (B 0)]) ⟨hx, hb, hml, hown, hts⟩ (c_X1_isIn l s.heap w 0 2) (va_cwS 3 hts gX1_about_X1_isIn rfl rfl rfl (by decide +kernel) ⟨Nat.le_of_ble_eq_true rfl, Nat.le_of_ble_eq_true rfl⟩) ⟨fun a U g mk q => q, fun U hU hW => ⟨rfl, hU⟩⟩ rfl rfl hl.1 rfl (lv_room (Nat.le_of_ble_eq_true rfl)) dX1_about_16 ⟨Nat.le_of_ble_eq_true rfl, Nat.le_of_ble_eq_true rfl⟩) hS (fun q _ h => h.elim) (fun q h => h.elim) (fun r2 u2 t H1 locs ht hvm hw hB hz1 hk1 hS => ?_)
    have e9 := hB.symm.trans ht
    subst e9
    by_cases g2 : oI w 0 2
    · have hw := hw.trans (fIsIn_pos g2)
      subst hw
      refine lv_if_ne (tgt := 26) hx hb dX1_about_19 (by decide) (fun h9 => absurd (by decide) h9) (fun _ => ?_)
      refine lv_iconst (v := 2) hx hb dX1_about_22 (by decide) ?_
      refine lv_goto (tgt := 27) hx hb dX1_about_23 (by decide) ?_
      refine va_put (D := dG) (ci := 1) (v := .int 2) (ty := .int) (C := RX1) (T := TX1) (N := 17) hx hb hts hinM tyX1 tyX1_ok nmX1 hown hK hP hD hS 0 rfl rfl 0 (by decide) (hts (.fieldLink RX1 41 "TidegateBourseModel" "thrown" "I") (by decide +kernel)) (fun _ h9 => h9) rfl (by decide +kernel) rfl rfl (Nat.le_of_ble_eq_true rfl) dX1_about_27 (fun H locs hP hD hS => ?_)
      have hP : va_P dG vwCl (mW B cA L P G V R S Y O D 2 nw wd tb ft fl cl mo) H := hP
      have hD : va_D F (mW B cA L P G V R S Y O D 2 nw wd tb ft fl cl mo) := hD
      refine lv_aload_n hx hb dX1_about_30 rfl (lv_at hl 0 rfl) ?_
      refine va_get (D := dG) (ci := 1) (v := .int 2) (C := RX1) (T := TX1) (N := 17) hx hb hts hinM hown hK hP 0 rfl rfl 0 (by decide) (hts (.fieldLink RX1 41 "TidegateBourseModel" "thrown" "I") (by decide +kernel)) (fun _ h9 => h9) rfl dX1_about_31 ?_
      refine lv_if_le (tgt := 41) hx hb dX1_about_34 (by decide) (fun h9 => absurd h9 (by decide)) (fun _ => ?_)
      refine lv_iconst (v := 0) hx hb dX1_about_37 (by decide) ?_
      refine lv_goto (tgt := 74) hx hb dX1_about_38 (by decide) ?_
      exact W.iret hx hb hr (fun t ht hW => ⟨⟨_, (L, P, G, V, R, S, Y, O, D, 2, nw, wd, tb, ft, fl, cl, mo), rfl, ⟨fun h9 => absurd (h9.symm.trans (by unfold kAbout; rw [if_neg g1, if_pos g2])) (by decide), fun _ => ⟨rfl, congrArg (fun z => (L, P, G, V, R, S, Y, O, D, z, nw, wd, tb, ft, fl, cl, mo)) (Eq.symm (by unfold kAbout; rw [if_neg g1, if_pos g2]))⟩⟩, by rw [ht]; exact hP, va_K.moved hW.alike hK, hD⟩, hS.F ht⟩) hS.2.2 dX1_about_74
    · have hw := hw.trans (fIsIn_neg g2)
      subst hw
      refine lv_if_ne (tgt := 26) hx hb dX1_about_19 (by decide) (fun _ => ?_) (fun h9 => absurd h9 (by decide))
      refine lv_iconst (v := 0) hx hb dX1_about_26 (by decide) ?_
      refine va_put (D := dG) (ci := 1) (v := .int 0) (ty := .int) (C := RX1) (T := TX1) (N := 17) hx hb hts hinM tyX1 tyX1_ok nmX1 hown hK hP hD hS 0 rfl rfl 0 (by decide) (hts (.fieldLink RX1 41 "TidegateBourseModel" "thrown" "I") (by decide +kernel)) (fun _ h9 => h9) rfl (by decide +kernel) rfl rfl (Nat.le_of_ble_eq_true rfl) dX1_about_27 (fun H locs hP hD hS => ?_)
      have hP : va_P dG vwCl (mW B cA L P G V R S Y O D 0 nw wd tb ft fl cl mo) H := hP
      have hD : va_D F (mW B cA L P G V R S Y O D 0 nw wd tb ft fl cl mo) := hD
      refine lv_aload_n hx hb dX1_about_30 rfl (lv_at hl 0 rfl) ?_
      refine va_get (D := dG) (ci := 1) (v := .int 0) (C := RX1) (T := TX1) (N := 17) hx hb hts hinM hown hK hP 0 rfl rfl 0 (by decide) (hts (.fieldLink RX1 41 "TidegateBourseModel" "thrown" "I") (by decide +kernel)) (fun _ h9 => h9) rfl dX1_about_31 ?_
      refine lv_if_le (tgt := 41) hx hb dX1_about_34 (by decide) (fun _ => ?_) (fun h9 => absurd (by decide) h9)
      refine lv_iload_n hx hb dX1_about_41 rfl (lv_at hl 2 rfl) ?_
      refine lv_if_ne (tgt := 54) hx hb dX1_about_42 (by decide) (fun cq3 => ?_) (fun cq3 => ?_)
      · refine lv_iload_n hx hb dX1_about_54 rfl (lv_at hl 2 rfl) ?_
        refine lv_iconst (v := 1) hx hb dX1_about_55 (by decide) ?_
        refine lv_icmp_ne (tgt := 68) hx hb dX1_about_56 (by decide) (fun cq4 => ?_) (fun cq4 => ?_)
        · refine lv_aload_n hx hb dX1_about_68 rfl (lv_at hl 0 rfl) ?_
          refine va_get (D := dG) (ci := 1) (v := .ref (B 5)) (C := RX1) (T := TX1) (N := 17) hx hb hts hinM hown hK hP 0 rfl rfl 8 (by decide) (hts (.fieldLink RX1 22 "TidegateBourseModel" "repairs" "[I") (by decide +kernel)) (fun _ h9 => h9) rfl dX1_about_69 ?_
          refine lv_iload_n hx hb dX1_about_72 rfl (lv_at hl 1 rfl) ?_
          refine va_iald hx hb hK hP 5 0 rfl rfl (vp_pred g1 htb.1 htb.2) dX1_about_73 ?_
          exact W.iret hx hb hr (fun t ht hW => ⟨⟨_, (L, P, G, V, R, S, Y, O, D, 0, nw, wd, tb, ft, fl, cl, mo), rfl, ⟨fun _ => ⟨(by rw [if_neg cq3, if_neg cq4]), rfl⟩, fun h9 => absurd (by unfold kAbout; rw [if_neg g1, if_neg g2]) h9⟩, by rw [ht]; exact hP, va_K.moved hW.alike hK, hD⟩, hS.F ht⟩) hS.2.2 dX1_about_74
        · refine lv_aload_n hx hb dX1_about_59 rfl (lv_at hl 0 rfl) ?_
          refine va_get (D := dG) (ci := 1) (v := .ref (B 4)) (C := RX1) (T := TX1) (N := 17) hx hb hts hinM hown hK hP 0 rfl rfl 7 (by decide) (hts (.fieldLink RX1 19 "TidegateBourseModel" "wears" "[I") (by decide +kernel)) (fun _ h9 => h9) rfl dX1_about_60 ?_
          refine lv_iload_n hx hb dX1_about_63 rfl (lv_at hl 1 rfl) ?_
          refine va_iald hx hb hK hP 4 0 rfl rfl (vp_pred g1 htb.1 htb.2) dX1_about_64 ?_
          refine lv_goto (tgt := 74) hx hb dX1_about_65 (by decide) ?_
          exact W.iret hx hb hr (fun t ht hW => ⟨⟨_, (L, P, G, V, R, S, Y, O, D, 0, nw, wd, tb, ft, fl, cl, mo), rfl, ⟨fun _ => ⟨(by rw [if_neg cq3, if_pos cq4]), rfl⟩, fun h9 => absurd (by unfold kAbout; rw [if_neg g1, if_neg g2]) h9⟩, by rw [ht]; exact hP, va_K.moved hW.alike hK, hD⟩, hS.F ht⟩) hS.2.2 dX1_about_74
      · refine lv_aload_n hx hb dX1_about_45 rfl (lv_at hl 0 rfl) ?_
        refine va_get (D := dG) (ci := 1) (v := .ref (B 3)) (C := RX1) (T := TX1) (N := 17) hx hb hts hinM hown hK hP 0 rfl rfl 6 (by decide) (hts (.fieldLink RX1 16 "TidegateBourseModel" "gates" "[I") (by decide +kernel)) (fun _ h9 => h9) rfl dX1_about_46 ?_
        refine lv_iload_n hx hb dX1_about_49 rfl (lv_at hl 1 rfl) ?_
        refine va_iald hx hb hK hP 3 0 rfl rfl (vp_pred g1 htb.1 htb.2) dX1_about_50 ?_
        refine lv_goto (tgt := 74) hx hb dX1_about_51 (by decide) ?_
        exact W.iret hx hb hr (fun t ht hW => ⟨⟨_, (L, P, G, V, R, S, Y, O, D, 0, nw, wd, tb, ft, fl, cl, mo), rfl, ⟨fun _ => ⟨(by rw [if_pos cq3]), rfl⟩, fun h9 => absurd (by unfold kAbout; rw [if_neg g1, if_neg g2]) h9⟩, by rw [ht]; exact hP, va_K.moved hW.alike hK, hD⟩, hS.F ht⟩) hS.2.2 dX1_about_74
set_option maxHeartbeats 4000000 in
set_option maxRecDepth 100000 in
theorem c_X1_closed (l : Launch) (dG : va_G) (B : Nat → Nat) (cA : ClassId) (Hp : Heap) (L P G V R S Y O D : Nat → Int32) (th nw wd tb ft fl cl : Int32) (mo : UInt32)  : Met l yX1_closed wsX1_closed ({ frames := 4, cells := 0, slots := 0, locals := 100 }) (va_Pc [.ref (B 0)] (fun U => wPre dG (tyI cA) (mW B cA L P G V R S Y O D th nw wd tb ft fl cl mo) Hp U)) (va_Qi (fun (r : Int32) (u : MS) => r = cl ∧ u = (L, P, G, V, R, S, Y, O, D, 0, nw, wd, tb, ft, fl, cl, mo)) (fun u t => wAt dG (tyI cA) (va_A (mW B cA L P G V R S Y O D th nw wd tb ft fl cl mo) Hp.size) (mU B cA u) t) (va_A (mW B cA L P G V R S Y O D th nw wd tb ft fl cl mo) Hp.size)) 0 0 (va_A (mW B cA L P G V R S Y O D th nw wd tb ft fl cl mo) Hp.size) := by
  refine Met.ofW (cc := cX1_closed) (maxL := 1) (ret := some .int) (by decide) rfl ?_
  intro p e s m args below meth c s₁ Bd hml hv
  obtain ⟨rfl, hH, hP, hK, hD0⟩ := hv
  subst hH
  have hK : va_K dG vwCl (tyI cA) s := hK
  have hx := Bd.exec
  have hb := Bd.bytes
  have hr := Bd.returns
  have hts := atoms_spec (ws := wsX1_closed) Bd.pre
  have hown : s.vm.findClass RX1 = some m.cls := findClass_of_methodNamed Bd.named
  have hlocks := Bd.notSynchronized
  have hinM : ∀ w ∈ wsX10, w ∈ wsX1_closed := by decide +kernel
  have hD := hD0.self (sz := s.heap.size)
  generalize hAe : va_A (mW B cA L P G V R S Y O D th nw wd tb ft fl cl mo) s.heap.size = F at hD ⊢
  have hA : ∀ q : Nat, s.heap.size ≤ q → F q := fun q h => by rw [← hAe]; exact Or.inr h
  have hS : va_S F s.heap s.heap [] := va_S.rf
  have hP : va_P dG vwCl (mW B cA L P G V R S Y O D th nw wd tb ft fl cl mo) s.heap := hP
  have hl := lv_entry ([.ref (B 0)]) (n := 1) (Nat.le_of_ble_eq_true rfl)
  rw [lg_entry_eq]
  generalize (lg_sl ([.ref (B 0)]) ++ List.replicate (1 - (lg_sl ([.ref (B 0)])).length) Slot.unset).toArray = ls at hl ⊢
  have hl : lv_has ls 1 [(0, .ref (B 0))] := hl
  refine lv_aload_n hx hb dX1_closed_0 rfl (lv_at hl 0 rfl) ?_
  refine lv_iconst (v := 0) hx hb dX1_closed_1 (by decide) ?_
  refine va_put (D := dG) (ci := 1) (v := .int 0) (ty := .int) (C := RX1) (T := TX1) (N := 17) hx hb hts hinM tyX1 tyX1_ok nmX1 hown hK hP hD hS 0 rfl rfl 0 (by decide) (hts (.fieldLink RX1 41 "TidegateBourseModel" "thrown" "I") (by decide +kernel)) (fun _ h9 => h9) rfl (by decide +kernel) rfl rfl (Nat.le_of_ble_eq_true rfl) dX1_closed_2 (fun H locs hP hD hS => ?_)
  have hP : va_P dG vwCl (mW B cA L P G V R S Y O D 0 nw wd tb ft fl cl mo) H := hP
  have hD : va_D F (mW B cA L P G V R S Y O D 0 nw wd tb ft fl cl mo) := hD
  refine lv_aload_n hx hb dX1_closed_5 rfl (lv_at hl 0 rfl) ?_
  refine va_get (D := dG) (ci := 1) (v := .int cl) (C := RX1) (T := TX1) (N := 17) hx hb hts hinM hown hK hP 0 rfl rfl 11 (by decide) (hts (.fieldLink RX1 68 "TidegateBourseModel" "closed" "I") (by decide +kernel)) (fun _ h9 => h9) rfl dX1_closed_6 ?_
  exact W.iret hx hb hr (fun t ht hW => ⟨⟨_, (L, P, G, V, R, S, Y, O, D, 0, nw, wd, tb, ft, fl, cl, mo), rfl, ⟨rfl, rfl⟩, by rw [ht]; exact hP, va_K.moved hW.alike hK, hD⟩, hS.F ht⟩) hS.2.2 dX1_closed_9
