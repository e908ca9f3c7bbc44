set_option maxHeartbeats 1000000 in
set_option maxRecDepth 100000 in
theorem case_repair {p : Program} {l : Launch} {e : Env} {s : State} {m : MethodId} {below : List Frame} {meth : Method} {c : Code} {b Ln : Nat} {xs : Nat → Int32} {dG : va_G} {a A B : Nat → Nat} {o : Nat} {cA cL : ClassId} (hl0 : l.stackTraces = false) (C0 : lw_At p s m meth c b Ln xs) (hE : tgE a (aNew s.heap) s s.heap) (hK : va_K dG vwCl (tyL cA cL) s) (hLn : Ln ≤ 2048) {i : Nat} (hi : 4 * i + 4 ≤ Ln) (k : lwAt p l e s m below meth c b dG A B o cA cL 1130 i (20 + i + 1) (3749 + 6 * i + 6)) : lwAt p l e s m below meth c b dG A B o cA cL 432 i (20 + i) (3749 + 6 * i) := by
  obtain ⟨hx, hb, hr, hml, hown, hts0, hX, hbl, hlocks, hgv⟩ := C0
  have hts : ∀ w ∈ wsL_law, w.before #[Value.ref b] s = true := fun w h => hts0 w (wsL_law_in w h)
  have hA : ∀ q : Nat, s.heap.size ≤ q → aNew s.heap q := fun _ h => h
  have hbA : ¬ aNew s.heap b := Nat.not_le.mpr hbl
  intro L P G V R N Y S Rp O D T h wd ft fl ce cl th mo fo H locs ls I hP hD hS hl
  obtain ⟨p0, hp0⟩ : ∃ z, z = xs (nI (4 * i + 1)).toNatClampNeg := ⟨_, rfl⟩
  refine lv_aload_n hx hb dL_law_432 rfl (lv_at hl 1 rfl) ?_
  refine lv_aload_n hx hb dL_law_433 rfl (lv_at hl 0 rfl) ?_
  refine lv_iload hx hb dL_law_434 (lv_at hl 4 rfl) ?_
  refine lv_iconst (v := 1) hx hb dL_law_436 (by decide) ?_
  refine lv_iadd hx hb dL_law_437 ?_
  refine lv_topi (fun v9 e9 => ?_)
  have e9 := e9.trans (nI_add (4 * i) 1)
  subst e9
  refine va_sld hx hb hX hbl hbA hS (vp_in_nI (by omega) (by omega)) dL_law_438 ?_
  refine lv_topi (fun v9 e9 => ?_)
  have e9 := (e9.trans hp0.symm).symm
  subst e9
  refine lv_aload_n hx hb dL_law_439 rfl (lv_at hl 3 rfl) ?_
  by_cases hk : kRep (nI T) p0 = 0
  · have hPc := hP.sub (ws' := (xW A cA L P G V R N Y S wd (nI T) ft fl ce (nI h) mo) ++ ([(o, .inl (cL, 1, .inr (.inl fo)))])) [0, 1, 2, 3, 4, 5, 6, 7, 8, 19] rfl
    have hDc := hD.sub (ws' := (xW A cA L P G V R N Y S wd (nI T) ft fl ce (nI h) mo) ++ ([(o, .inl (cL, 1, .inr (.inl fo)))])) [0, 1, 2, 3, 4, 5, 6, 7, 8, 19] (by decide) rfl
    have hFc := va_free (wc := (xW A cA L P G V R N Y S wd (nI T) ft fl ce (nI h) mo) ++ ([(o, .inl (cL, 1, .inr (.inl fo)))])) hD hS hA [0, 1, 2, 3, 4, 5, 6, 7, 8, 19] rfl
    refine va_calli (vx_runSW (As := [.ref (A 0), .int p0, .ref o]) (rest := []) ⟨hx, hb, hml, hown, hts⟩ (c_L_repair l hl0 dG a A o cA cL H L P G V R N Y S T h wd ft fl ce mo fo p0 I.1.1 I.1.2) (vx_cwSW 3 hts gL_law_L_repair rfl rfl rfl (by decide +kernel) ⟨Nat.le_of_ble_eq_true rfl, Nat.le_of_ble_eq_true rfl⟩) ⟨fun a9 U g mk q => ⟨q.1, wPre_calling g mk a9 q.2.1, q.2.2.calling g mk a9⟩, fun U hU hW => ⟨rfl, wPre_of hK hPc hDc hU hW, hE.go hW hS hFc⟩⟩ rfl rfl hl.1 rfl (lv_room (Nat.le_of_ble_eq_true rfl)) dL_law_440 ⟨(by show _ ≤ 1049; omega), (by show _ ≤ 11971; omega)⟩) hS (fun q _ h => hFc q h) hFc (fun r u t H locs ht hvm hw hB hz1 hk1 hS => ?_)
    obtain ⟨hr1, hu0, hu1⟩ := hw
    have hu := hu0 hk
    subst hu
    have hr1 := (hr1.trans hk).symm
    subst hr1
    obtain ⟨hP1, hK1, hD1⟩ := hB
    rw [ht] at hP1
    obtain ⟨hP, hD⟩ := va_join (wr := (mW B cA L P G V Rp S Y O D th (nI h) wd (nI T) ft fl cl mo)) (w1 := (xW A cA L P G (upd V p0.toNatClampNeg 0) (upd R p0.toNatClampNeg (nI h + 5)) N Y S wd (nI T) ft fl ce (nI h) mo) ++ [(o, .inl (cL, 1, .inr (.inl (vp_updL fo 0 (V p0.toNatClampNeg).toInt64))))]) hP hD [0, 1, 2, 3, 4, 5, 6, 7, 8, 19] [9, 10, 11, 12, 13, 14, 15, 16, 17, 18] rfl rfl (by decide) (by decide) hk1 hFc hP1 hD1
    have hP : va_P dG vwCl ((xW A cA L P G (upd V p0.toNatClampNeg 0) (upd R p0.toNatClampNeg (nI h + 5)) N Y S wd (nI T) ft fl ce (nI h) mo) ++ (mW B cA L P G V Rp S Y O D th (nI h) wd (nI T) ft fl cl mo) ++ [(o, .inl (cL, 1, .inr (.inl (vp_updL fo 0 (V p0.toNatClampNeg).toInt64))))]) H := hP.sub [10, 11, 12, 13, 14, 15, 16, 17, 18, 0, 1, 2, 3, 4, 5, 6, 7, 8, 9, 19] rfl
    have hD : va_D (aNew s.heap) ((xW A cA L P G (upd V p0.toNatClampNeg 0) (upd R p0.toNatClampNeg (nI h + 5)) N Y S wd (nI T) ft fl ce (nI h) mo) ++ (mW B cA L P G V Rp S Y O D th (nI h) wd (nI T) ft fl cl mo) ++ [(o, .inl (cL, 1, .inr (.inl (vp_updL fo 0 (V p0.toNatClampNeg).toInt64))))]) := hD.sub [10, 11, 12, 13, 14, 15, 16, 17, 18, 0, 1, 2, 3, 4, 5, 6, 7, 8, 9, 19] (by decide) rfl
    refine lv_istore (lv' := [(5, .int 0), (0, .ref b), (1, .ref (A 0)), (2, .ref (B 0)), (3, .ref o), (4, .int (nI (4 * i)))]) hx hb dL_law_443 hl (by decide) rfl (fun ls hl => ?_)
    refine lv_aload_n hx hb dL_law_445 rfl (lv_at hl 3 rfl) ?_
    refine lv_aload_n hx hb dL_law_446 rfl (lv_at hl 1 rfl) ?_
    refine lv_iload hx hb dL_law_447 (lv_at hl 5 rfl) ?_
    refine lv_iconst (v := 1) hx hb dL_law_449 (by decide) ?_
    refine lv_iadd hx hb dL_law_450 ?_
    refine lv_topi (fun v9 e9 => ?_)
    have e9 := e9.trans (nI_add (4 * i) 1)
    subst e9
    refine va_sld hx hb hX hbl hbA hS (vp_in_nI (by omega) (by omega)) dL_law_451 ?_
    refine lv_topi (fun v9 e9 => ?_)
    have e9 := (e9.trans hp0.symm).symm
    subst e9
    have hPc := hP.sub (ws' := (mW B cA L P G V Rp S Y O D th (nI h) wd (nI T) ft fl cl mo)) [9, 10, 11, 12, 13, 14, 15, 16, 17, 18] rfl
    have hDc := hD.sub (ws' := (mW B cA L P G V Rp S Y O D th (nI h) wd (nI T) ft fl cl mo)) [9, 10, 11, 12, 13, 14, 15, 16, 17, 18] (by decide) rfl
    have hFc := va_free (wc := mW B cA L P G V Rp S Y O D th (nI h) wd (nI T) ft fl cl mo) hD hS hA [9, 10, 11, 12, 13, 14, 15, 16, 17, 18] rfl
    have hKc := hK.sub (tys' := tyI cA) [0] rfl
    refine va_calli (va_runV (As := [.int p0]) (rest := []) ⟨hx, hb, hml, hown, hts⟩ (c_X1_repair l dG B cA H L P G V Rp S Y O D th (nI h) wd (nI T) ft fl cl mo p0 (nIr (b := 4) I.1.1 (by omega))) (cwV 1 hts gL_law_X1_repair rfl rfl rfl (by decide +kernel) ⟨Nat.le_of_ble_eq_true rfl, Nat.le_of_ble_eq_true rfl⟩) ⟨fun a9 U g mk q => ⟨q.1, wPre_calling g mk a9 q.2⟩, va_recv hKc hPc (ci := 1) (q0 := 0) rfl rfl, fun U hU hW => ⟨rfl, wPre_of hKc hPc hDc hU hW⟩⟩ rfl rfl hl.1 rfl (lv_room (Nat.le_of_ble_eq_true rfl)) dL_law_452 ⟨(by show _ ≤ 1049; omega), (by show _ ≤ 11971; omega)⟩) hS (fun q _ h => hFc q h) hFc (fun r u t H locs ht hvm hw hB hz1 hk1 hS => ?_)
    obtain ⟨hr2, hu2⟩ := hw.1 hk
    subst hu2
    have hr2 := hr2.symm
    subst hr2
    obtain ⟨hP1, hK1, hD1⟩ := hB
    rw [ht] at hP1
    obtain ⟨hP, hD⟩ := va_join (wr := (xW A cA L P G (upd V p0.toNatClampNeg 0) (upd R p0.toNatClampNeg (nI h + 5)) N Y S wd (nI T) ft fl ce (nI h) mo) ++ [(o, .inl (cL, 1, .inr (.inl (vp_updL fo 0 (V p0.toNatClampNeg).toInt64))))]) (w1 := (mW B cA L P G (upd V p0.toNatClampNeg 0) (upd Rp p0.toNatClampNeg 5) S Y O D 0 (nI h) wd (nI T) ft fl cl mo)) hP hD [9, 10, 11, 12, 13, 14, 15, 16, 17, 18] [0, 1, 2, 3, 4, 5, 6, 7, 8, 19] rfl rfl (by decide) (by decide) hk1 hFc hP1 hD1
    have hP : va_P dG vwCl ((xW A cA L P G (upd V p0.toNatClampNeg 0) (upd R p0.toNatClampNeg (nI h + 5)) N Y S wd (nI T) ft fl ce (nI h) mo) ++ (mW B cA L P G (upd V p0.toNatClampNeg 0) (upd Rp p0.toNatClampNeg 5) S Y O D 0 (nI h) wd (nI T) ft fl cl mo) ++ [(o, .inl (cL, 1, .inr (.inl (vp_updL fo 0 (V p0.toNatClampNeg).toInt64))))]) H := hP.sub [0, 1, 2, 3, 4, 5, 6, 7, 8, 10, 11, 12, 13, 14, 15, 16, 17, 18, 19, 9] rfl
    have hD : va_D (aNew s.heap) ((xW A cA L P G (upd V p0.toNatClampNeg 0) (upd R p0.toNatClampNeg (nI h + 5)) N Y S wd (nI T) ft fl ce (nI h) mo) ++ (mW B cA L P G (upd V p0.toNatClampNeg 0) (upd Rp p0.toNatClampNeg 5) S Y O D 0 (nI h) wd (nI T) ft fl cl mo) ++ [(o, .inl (cL, 1, .inr (.inl (vp_updL fo 0 (V p0.toNatClampNeg).toInt64))))]) := hD.sub [0, 1, 2, 3, 4, 5, 6, 7, 8, 10, 11, 12, 13, 14, 15, 16, 17, 18, 19, 9] (by decide) rfl
    refine lv_istore (lv' := [(6, .int (V p0.toNatClampNeg)), (5, .int 0), (0, .ref b), (1, .ref (A 0)), (2, .ref (B 0)), (3, .ref o), (4, .int (nI (4 * i)))]) hx hb dL_law_455 hl (by decide) rfl (fun ls hl => ?_)
    refine lv_aload_n hx hb dL_law_457 rfl (lv_at hl 4 rfl) ?_
    have hPc := hP.sub (ws' := (mW B cA L P G (upd V p0.toNatClampNeg 0) (upd Rp p0.toNatClampNeg 5) S Y O D 0 (nI h) wd (nI T) ft fl cl mo)) [9, 10, 11, 12, 13, 14, 15, 16, 17, 18] rfl
    have hDc := hD.sub (ws' := (mW B cA L P G (upd V p0.toNatClampNeg 0) (upd Rp p0.toNatClampNeg 5) S Y O D 0 (nI h) wd (nI T) ft fl cl mo)) [9, 10, 11, 12, 13, 14, 15, 16, 17, 18] (by decide) rfl
    have hFc := va_free (wc := mW B cA L P G (upd V p0.toNatClampNeg 0) (upd Rp p0.toNatClampNeg 5) S Y O D 0 (nI h) wd (nI T) ft fl cl mo) hD hS hA [9, 10, 11, 12, 13, 14, 15, 16, 17, 18] rfl
    have hKc := hK.sub (tys' := tyI cA) [0] rfl
    refine va_calli (va_runV (As := []) (rest := []) ⟨hx, hb, hml, hown, hts⟩ (c_X1_thrown l dG B cA H L P G (upd V p0.toNatClampNeg 0) (upd Rp p0.toNatClampNeg 5) S Y O D 0 (nI h) wd (nI T) ft fl cl mo) (cwV 0 hts gL_law_X1_thrown rfl rfl rfl (by decide +kernel) ⟨Nat.le_of_ble_eq_true rfl, Nat.le_of_ble_eq_true rfl⟩) ⟨fun a9 U g mk q => ⟨q.1, wPre_calling g mk a9 q.2⟩, va_recv hKc hPc (ci := 1) (q0 := 0) rfl rfl, fun U hU hW => ⟨rfl, wPre_of hKc hPc hDc hU hW⟩⟩ rfl rfl hl.1 rfl (lv_room (Nat.le_of_ble_eq_true rfl)) dL_law_458 ⟨(by show _ ≤ 1049; omega), (by show _ ≤ 11971; omega)⟩) hS (fun q _ h => hFc q h) hFc (fun r u t H locs ht hvm hw hB hz1 hk1 hS => ?_)
    obtain ⟨hr3, hu3⟩ := hw
    subst hu3
    have hr3 := hr3.symm
    subst hr3
    obtain ⟨hP1, hK1, hD1⟩ := hB
    rw [ht] at hP1
    obtain ⟨hP, hD⟩ := va_join (wr := (xW A cA L P G (upd V p0.toNatClampNeg 0) (upd R p0.toNatClampNeg (nI h + 5)) N Y S wd (nI T) ft fl ce (nI h) mo) ++ [(o, .inl (cL, 1, .inr (.inl (vp_updL fo 0 (V p0.toNatClampNeg).toInt64))))]) (w1 := (mW B cA L P G (upd V p0.toNatClampNeg 0) (upd Rp p0.toNatClampNeg 5) S Y O D 0 (nI h) wd (nI T) ft fl cl mo)) hP hD [9, 10, 11, 12, 13, 14, 15, 16, 17, 18] [0, 1, 2, 3, 4, 5, 6, 7, 8, 19] rfl rfl (by decide) (by decide) hk1 hFc hP1 hD1
    have hP : va_P dG vwCl ((xW A cA L P G (upd V p0.toNatClampNeg 0) (upd R p0.toNatClampNeg (nI h + 5)) N Y S wd (nI T) ft fl ce (nI h) mo) ++ (mW B cA L P G (upd V p0.toNatClampNeg 0) (upd Rp p0.toNatClampNeg 5) S Y O D 0 (nI h) wd (nI T) ft fl cl mo) ++ [(o, .inl (cL, 1, .inr (.inl (vp_updL fo 0 (V p0.toNatClampNeg).toInt64))))]) H := hP.sub [0, 1, 2, 3, 4, 5, 6, 7, 8, 10, 11, 12, 13, 14, 15, 16, 17, 18, 19, 9] rfl
    have hD : va_D (aNew s.heap) ((xW A cA L P G (upd V p0.toNatClampNeg 0) (upd R p0.toNatClampNeg (nI h + 5)) N Y S wd (nI T) ft fl ce (nI h) mo) ++ (mW B cA L P G (upd V p0.toNatClampNeg 0) (upd Rp p0.toNatClampNeg 5) S Y O D 0 (nI h) wd (nI T) ft fl cl mo) ++ [(o, .inl (cL, 1, .inr (.inl (vp_updL fo 0 (V p0.toNatClampNeg).toInt64))))]) := hD.sub [0, 1, 2, 3, 4, 5, 6, 7, 8, 10, 11, 12, 13, 14, 15, 16, 17, 18, 19, 9] (by decide) rfl
    refine lv_iload hx hb dL_law_461 (lv_at hl 1 rfl) ?_
    refine lv_icmp_eq (tgt := 468) hx hb dL_law_463 (by decide) (fun _ => ?_) (fun h9 => absurd (by decide) h9)
    refine lv_iload hx hb dL_law_468 (lv_at hl 1 rfl) ?_
    refine lv_if_ne (tgt := 485) hx hb dL_law_470 (by decide) (fun h9 => absurd (by decide) h9) (fun _ => ?_)
    refine lv_aload_n hx hb dL_law_473 rfl (lv_at hl 5 rfl) ?_
    refine lv_iconst (v := 0) hx hb dL_law_474 (by decide) ?_
    refine va_lald hx hb hK hP 19 1 rfl rfl (i := 0) (vp_in_nI (n := 0) (by omega) (by omega)) dL_law_475 ?_
    refine lv_iload hx hb dL_law_476 (lv_at hl 0 rfl) ?_
    refine lv_i2l hx hb dL_law_478 rfl ?_
    refine W.lcmp hx hb dL_law_479 ?_
    refine lv_topi (fun v9 e9 => ?_)
    have e9 := e9.trans (lgc_eq rfl)
    subst e9
    refine lv_if_eq (tgt := 485) hx hb dL_law_480 (by decide) (fun _ => ?_) (fun h9 => absurd (by decide) h9)
    refine lv_goto (tgt := 1130) hx hb dL_law_485 (by decide) ?_
    exact k L P G (upd V p0.toNatClampNeg 0) (upd R p0.toNatClampNeg (nI h + 5)) N Y S (upd Rp p0.toNatClampNeg 5) O D T h wd ft fl ce cl 0 mo (vp_updL fo 0 (V p0.toNatClampNeg).toInt64) H locs ls (Inv_repair I hk) hP hD hS (lv_sub hl [2, 3, 4, 5, 6] rfl)
  · have hPc := hP.sub (ws' := (xW A cA L P G V R N Y S wd (nI T) ft fl ce (nI h) mo) ++ ([(o, .inl (cL, 1, .inr (.inl fo)))])) [0, 1, 2, 3, 4, 5, 6, 7, 8, 19] rfl
    have hDc := hD.sub (ws' := (xW A cA L P G V R N Y S wd (nI T) ft fl ce (nI h) mo) ++ ([(o, .inl (cL, 1, .inr (.inl fo)))])) [0, 1, 2, 3, 4, 5, 6, 7, 8, 19] (by decide) rfl
    have hFc := va_free (wc := (xW A cA L P G V R N Y S wd (nI T) ft fl ce (nI h) mo) ++ ([(o, .inl (cL, 1, .inr (.inl fo)))])) hD hS hA [0, 1, 2, 3, 4, 5, 6, 7, 8, 19] rfl
    refine va_calli (vx_runSW (As := [.ref (A 0), .int p0, .ref o]) (rest := []) ⟨hx, hb, hml, hown, hts⟩ (c_L_repair l hl0 dG a A o cA cL H L P G V R N Y S T h wd ft fl ce mo fo p0 I.1.1 I.1.2) (vx_cwSW 3 hts gL_law_L_repair rfl rfl rfl (by decide +kernel) ⟨Nat.le_of_ble_eq_true rfl, Nat.le_of_ble_eq_true rfl⟩) ⟨fun a9 U g mk q => ⟨q.1, wPre_calling g mk a9 q.2.1, q.2.2.calling g mk a9⟩, fun U hU hW => ⟨rfl, wPre_of hK hPc hDc hU hW, hE.go hW hS hFc⟩⟩ rfl rfl hl.1 rfl (lv_room (Nat.le_of_ble_eq_true rfl)) dL_law_440 ⟨(by show _ ≤ 1049; omega), (by show _ ≤ 11971; omega)⟩) hS (fun q _ h => hFc q h) hFc (fun r u t H locs ht hvm hw hB hz1 hk1 hS => ?_)
    obtain ⟨hr1, hu0, hu1⟩ := hw
    have hu := hu1 hk
    subst hu
    have hr1 := hr1.symm
    subst hr1
    obtain ⟨hP1, hK1, hD1⟩ := hB
    rw [ht] at hP1
    obtain ⟨hP, hD⟩ := va_join (wr := (mW B cA L P G V Rp S Y O D th (nI h) wd (nI T) ft fl cl mo)) (w1 := (xW A cA L P G V R N Y S wd (nI T) ft fl ce (nI h) mo) ++ [(o, .inl (cL, 1, .inr (.inl fo)))]) hP hD [0, 1, 2, 3, 4, 5, 6, 7, 8, 19] [9, 10, 11, 12, 13, 14, 15, 16, 17, 18] rfl rfl (by decide) (by decide) hk1 hFc hP1 hD1
    have hP : va_P dG vwCl ((xW A cA L P G V R N Y S wd (nI T) ft fl ce (nI h) mo) ++ (mW B cA L P G V Rp S Y O D th (nI h) wd (nI T) ft fl cl mo) ++ [(o, .inl (cL, 1, .inr (.inl fo)))]) H := hP.sub [10, 11, 12, 13, 14, 15, 16, 17, 18, 0, 1, 2, 3, 4, 5, 6, 7, 8, 9, 19] rfl
    have hD : va_D (aNew s.heap) ((xW A cA L P G V R N Y S wd (nI T) ft fl ce (nI h) mo) ++ (mW B cA L P G V Rp S Y O D th (nI h) wd (nI T) ft fl cl mo) ++ [(o, .inl (cL, 1, .inr (.inl fo)))]) := hD.sub [10, 11, 12, 13, 14, 15, 16, 17, 18, 0, 1, 2, 3, 4, 5, 6, 7, 8, 9, 19] (by decide) rfl
    refine lv_istore (lv' := [(5, .int (kRep (nI T) p0)), (0, .ref b), (1, .ref (A 0)), (2, .ref (B 0)), (3, .ref o), (4, .int (nI (4 * i)))]) hx hb dL_law_443 hl (by decide) rfl (fun ls hl => ?_)
    refine lv_aload_n hx hb dL_law_445 rfl (lv_at hl 3 rfl) ?_
    refine lv_aload_n hx hb dL_law_446 rfl (lv_at hl 1 rfl) ?_
    refine lv_iload hx hb dL_law_447 (lv_at hl 5 rfl) ?_
    refine lv_iconst (v := 1) hx hb dL_law_449 (by decide) ?_
    refine lv_iadd hx hb dL_law_450 ?_
    refine lv_topi (fun v9 e9 => ?_)
    have e9 := e9.trans (nI_add (4 * i) 1)
    subst e9
    refine va_sld hx hb hX hbl hbA hS (vp_in_nI (by omega) (by omega)) dL_law_451 ?_
    refine lv_topi (fun v9 e9 => ?_)
    have e9 := (e9.trans hp0.symm).symm
    subst e9
    have hPc := hP.sub (ws' := (mW B cA L P G V Rp S Y O D th (nI h) wd (nI T) ft fl cl mo)) [9, 10, 11, 12, 13, 14, 15, 16, 17, 18] rfl
    have hDc := hD.sub (ws' := (mW B cA L P G V Rp S Y O D th (nI h) wd (nI T) ft fl cl mo)) [9, 10, 11, 12, 13, 14, 15, 16, 17, 18] (by decide) rfl
    have hFc := va_free (wc := mW B cA L P G V Rp S Y O D th (nI h) wd (nI T) ft fl cl mo) hD hS hA [9, 10, 11, 12, 13, 14, 15, 16, 17, 18] rfl
    have hKc := hK.sub (tys' := tyI cA) [0] rfl
    refine va_calli (va_runV (As := [.int p0]) (rest := []) ⟨hx, hb, hml, hown, hts⟩ (c_X1_repair l dG B cA H L P G V Rp S Y O D th (nI h) wd (nI T) ft fl cl mo p0 (nIr (b := 4) I.1.1 (by omega))) (cwV 1 hts gL_law_X1_repair rfl rfl rfl (by decide +kernel) ⟨Nat.le_of_ble_eq_true rfl, Nat.le_of_ble_eq_true rfl⟩) ⟨fun a9 U g mk q => ⟨q.1, wPre_calling g mk a9 q.2⟩, va_recv hKc hPc (ci := 1) (q0 := 0) rfl rfl, fun U hU hW => ⟨rfl, wPre_of hKc hPc hDc hU hW⟩⟩ rfl rfl hl.1 rfl (lv_room (Nat.le_of_ble_eq_true rfl)) dL_law_452 ⟨(by show _ ≤ 1049; omega), (by show _ ≤ 11971; omega)⟩) hS (fun q _ h => hFc q h) hFc (fun r u t H locs ht hvm hw hB hz1 hk1 hS => ?_)
    obtain ⟨hr2, hu2⟩ := hw.2 hk
    subst hu2
    have hr2 := hr2.symm
    subst hr2
    obtain ⟨hP1, hK1, hD1⟩ := hB
    rw [ht] at hP1
    obtain ⟨hP, hD⟩ := va_join (wr := (xW A cA L P G V R N Y S wd (nI T) ft fl ce (nI h) mo) ++ [(o, .inl (cL, 1, .inr (.inl fo)))]) (w1 := (mW B cA L P G V Rp S Y O D (kRep (nI T) p0) (nI h) wd (nI T) ft fl cl mo)) hP hD [9, 10, 11, 12, 13, 14, 15, 16, 17, 18] [0, 1, 2, 3, 4, 5, 6, 7, 8, 19] rfl rfl (by decide) (by decide) hk1 hFc hP1 hD1
    have hP : va_P dG vwCl ((xW A cA L P G V R N Y S wd (nI T) ft fl ce (nI h) mo) ++ (mW B cA L P G V Rp S Y O D (kRep (nI T) p0) (nI h) wd (nI T) ft fl cl mo) ++ [(o, .inl (cL, 1, .inr (.inl fo)))]) H := hP.sub [0, 1, 2, 3, 4, 5, 6, 7, 8, 10, 11, 12, 13, 14, 15, 16, 17, 18, 19, 9] rfl
    have hD : va_D (aNew s.heap) ((xW A cA L P G V R N Y S wd (nI T) ft fl ce (nI h) mo) ++ (mW B cA L P G V Rp S Y O D (kRep (nI T) p0) (nI h) wd (nI T) ft fl cl mo) ++ [(o, .inl (cL, 1, .inr (.inl fo)))]) := hD.sub [0, 1, 2, 3, 4, 5, 6, 7, 8, 10, 11, 12, 13, 14, 15, 16, 17, 18, 19, 9] (by decide) rfl
    refine lv_istore (lv' := [(6, .int 0), (5, .int (kRep (nI T) p0)), (0, .ref b), (1, .ref (A 0)), (2, .ref (B 0)), (3, .ref o), (4, .int (nI (4 * i)))]) hx hb dL_law_455 hl (by decide) rfl (fun ls hl => ?_)
    refine lv_aload_n hx hb dL_law_457 rfl (lv_at hl 4 rfl) ?_
    have hPc := hP.sub (ws' := (mW B cA L P G V Rp S Y O D (kRep (nI T) p0) (nI h) wd (nI T) ft fl cl mo)) [9, 10, 11, 12, 13, 14, 15, 16, 17, 18] rfl
    have hDc := hD.sub (ws' := (mW B cA L P G V Rp S Y O D (kRep (nI T) p0) (nI h) wd (nI T) ft fl cl mo)) [9, 10, 11, 12, 13, 14, 15, 16, 17, 18] (by decide) rfl
    have hFc := va_free (wc := mW B cA L P G V Rp S Y O D (kRep (nI T) p0) (nI h) wd (nI T) ft fl cl mo) hD hS hA [9, 10, 11, 12, 13, 14, 15, 16, 17, 18] rfl
    have hKc := hK.sub (tys' := tyI cA) [0] rfl
    refine va_calli (va_runV (As := []) (rest := []) ⟨hx, hb, hml, hown, hts⟩ (c_X1_thrown l dG B cA H L P G V Rp S Y O D (kRep (nI T) p0) (nI h) wd (nI T) ft fl cl mo) (cwV 0 hts gL_law_X1_thrown rfl rfl rfl (by decide +kernel) ⟨Nat.le_of_ble_eq_true rfl, Nat.le_of_ble_eq_true rfl⟩) ⟨fun a9 U g mk q => ⟨q.1, wPre_calling g mk a9 q.2⟩, va_recv hKc hPc (ci := 1) (q0 := 0) rfl rfl, fun U hU hW => ⟨rfl, wPre_of hKc hPc hDc hU hW⟩⟩ rfl rfl hl.1 rfl (lv_room (Nat.le_of_ble_eq_true rfl)) dL_law_458 ⟨(by show _ ≤ 1049; omega), (by show _ ≤ 11971; omega)⟩) hS (fun q _ h => hFc q h) hFc (fun r u t H locs ht hvm hw hB hz1 hk1 hS => ?_)
    obtain ⟨hr3, hu3⟩ := hw
    subst hu3
    have hr3 := hr3.symm
    subst hr3
    obtain ⟨hP1, hK1, hD1⟩ := hB
    rw [ht] at hP1
    obtain ⟨hP, hD⟩ := va_join (wr := (xW A cA L P G V R N Y S wd (nI T) ft fl ce (nI h) mo) ++ [(o, .inl (cL, 1, .inr (.inl fo)))]) (w1 := (mW B cA L P G V Rp S Y O D (kRep (nI T) p0) (nI h) wd (nI T) ft fl cl mo)) hP hD [9, 10, 11, 12, 13, 14, 15, 16, 17, 18] [0, 1, 2, 3, 4, 5, 6, 7, 8, 19] rfl rfl (by decide) (by decide) hk1 hFc hP1 hD1
    have hP : va_P dG vwCl ((xW A cA L P G V R N Y S wd (nI T) ft fl ce (nI h) mo) ++ (mW B cA L P G V Rp S Y O D (kRep (nI T) p0) (nI h) wd (nI T) ft fl cl mo) ++ [(o, .inl (cL, 1, .inr (.inl fo)))]) H := hP.sub [0, 1, 2, 3, 4, 5, 6, 7, 8, 10, 11, 12, 13, 14, 15, 16, 17, 18, 19, 9] rfl
    have hD : va_D (aNew s.heap) ((xW A cA L P G V R N Y S wd (nI T) ft fl ce (nI h) mo) ++ (mW B cA L P G V Rp S Y O D (kRep (nI T) p0) (nI h) wd (nI T) ft fl cl mo) ++ [(o, .inl (cL, 1, .inr (.inl fo)))]) := hD.sub [0, 1, 2, 3, 4, 5, 6, 7, 8, 10, 11, 12, 13, 14, 15, 16, 17, 18, 19, 9] (by decide) rfl
    refine lv_iload hx hb dL_law_461 (lv_at hl 1 rfl) ?_
    refine lv_icmp_eq (tgt := 468) hx hb dL_law_463 (by decide) (fun _ => ?_) (fun h9 => absurd rfl h9)
    refine lv_iload hx hb dL_law_468 (lv_at hl 1 rfl) ?_
    refine lv_if_ne (tgt := 485) hx hb dL_law_470 (by decide) (fun _ => ?_) (fun h9 => absurd h9 hk)
    refine lv_goto (tgt := 1130) hx hb dL_law_485 (by decide) ?_
    exact k L P G V R N Y S Rp O D T h wd ft fl ce cl (kRep (nI T) p0) mo fo H locs ls I hP hD hS (lv_sub hl [2, 3, 4, 5, 6] rfl)
set_option maxHeartbeats 1000000 in
set_option maxRecDepth 100000 in
theorem case_run {p : Program} {l : Launch} {e : Env} {s : State} {m : MethodId} {below : List Frame} {meth : Method} {c : Code} {b Ln : Nat} {xs : Nat → Int32} {dG : va_G} {a A B : Nat → Nat} {o : Nat} {cA cL : ClassId} (hl0 : l.stackTraces = false) (C0 : lw_At p s m meth c b Ln xs) (hE : tgE a (aNew s.heap) s s.heap) (hK : va_K dG vwCl (tyL cA cL) s) (hLn : Ln ≤ 2048) {i : Nat} (hi : 4 * i + 4 ≤ Ln) (k : lwAt p l e s m below meth c b dG A B o cA cL 1130 i (20 + i + 1) (3749 + 6 * i + 6)) : lwAt p l e s m below meth c b dG A B o cA cL 488 i (20 + i) (3749 + 6 * i) := by
  obtain ⟨hx, hb, hr, hml, hown, hts0, hX, hbl, hlocks, hgv⟩ := C0
  have hts : ∀ w ∈ wsL_law, w.before #[Value.ref b] s = true := fun w h => hts0 w (wsL_law_in w h)
  have hA : ∀ q : Nat, s.heap.size ≤ q → aNew s.heap q := fun _ h => h
  have hbA : ¬ aNew s.heap b := Nat.not_le.mpr hbl
  intro L P G V R N Y S Rp O D T h wd ft fl ce cl th mo fo H locs ls I hP hD hS hl
  obtain ⟨p0, hp0⟩ : ∃ z, z = xs (nI (4 * i + 1)).toNatClampNeg := ⟨_, rfl⟩
  refine lv_aload_n hx hb dL_law_488 rfl (lv_at hl 1 rfl) ?_
  refine lv_aload_n hx hb dL_law_489 rfl (lv_at hl 0 rfl) ?_
  refine lv_iload hx hb dL_law_490 (lv_at hl 4 rfl) ?_
  refine lv_iconst (v := 1) hx hb dL_law_492 (by decide) ?_
  refine lv_iadd hx hb dL_law_493 ?_
  refine lv_topi (fun v9 e9 => ?_)
  have e9 := e9.trans (nI_add (4 * i) 1)
  subst e9
  refine va_sld hx hb hX hbl hbA hS (vp_in_nI (by omega) (by omega)) dL_law_494 ?_
  refine lv_topi (fun v9 e9 => ?_)
  have e9 := (e9.trans hp0.symm).symm
  subst e9
  refine lv_aload_n hx hb dL_law_495 rfl (lv_at hl 3 rfl) ?_
  by_cases hk : kFish p0 = 0
  · have hPc := hP.sub (ws' := (xW A cA L P G V R N Y S wd (nI T) ft fl ce (nI h) mo) ++ ([(o, .inl (cL, 1, .inr (.inl fo)))])) [0, 1, 2, 3, 4, 5, 6, 7, 8, 19] rfl
    have hDc := hD.sub (ws' := (xW A cA L P G V R N Y S wd (nI T) ft fl ce (nI h) mo) ++ ([(o, .inl (cL, 1, .inr (.inl fo)))])) [0, 1, 2, 3, 4, 5, 6, 7, 8, 19] (by decide) rfl
    have hFc := va_free (wc := (xW A cA L P G V R N Y S wd (nI T) ft fl ce (nI h) mo) ++ ([(o, .inl (cL, 1, .inr (.inl fo)))])) hD hS hA [0, 1, 2, 3, 4, 5, 6, 7, 8, 19] rfl
    refine va_calli (vx_runSW (As := [.ref (A 0), .int p0, .ref o]) (rest := []) ⟨hx, hb, hml, hown, hts⟩ (c_L_run l hl0 dG a A o cA cL H L P G V R N Y S T h wd ft fl ce mo fo p0 I.1.1 I.1.2) (vx_cwSW 3 hts gL_law_L_run rfl rfl rfl (by decide +kernel) ⟨Nat.le_of_ble_eq_true rfl, Nat.le_of_ble_eq_true rfl⟩) ⟨fun a9 U g mk q => ⟨q.1, wPre_calling g mk a9 q.2.1, q.2.2.calling g mk a9⟩, fun U hU hW => ⟨rfl, wPre_of hK hPc hDc hU hW, hE.go hW hS hFc⟩⟩ rfl rfl hl.1 rfl (lv_room (Nat.le_of_ble_eq_true rfl)) dL_law_496 ⟨(by show _ ≤ 1049; omega), (by show _ ≤ 11971; omega)⟩) hS (fun q _ h => hFc q h) hFc (fun r u t H locs ht hvm hw hB hz1 hk1 hS => ?_)
    obtain ⟨hr1, hu0, hu1⟩ := hw
    have hu := hu0 hk
    subst hu
    have hr1 := (hr1.trans hk).symm
    subst hr1
    obtain ⟨hP1, hK1, hD1⟩ := hB
    rw [ht] at hP1
    obtain ⟨hP, hD⟩ := va_join (wr := (mW B cA L P G V Rp S Y O D th (nI h) wd (nI T) ft fl cl mo)) (w1 := (xW A cA L P G V R N Y S wd (nI T) p0 fl ce (nI h) mo) ++ [(o, .inl (cL, 1, .inr (.inl (vp_updL fo 0 (if p0 ≤ fl then 0 else 1)))))]) hP hD [0, 1, 2, 3, 4, 5, 6, 7, 8, 19] [9, 10, 11, 12, 13, 14, 15, 16, 17, 18] rfl rfl (by decide) (by decide) hk1 hFc hP1 hD1
    have hP : va_P dG vwCl ((xW A cA L P G V R N Y S wd (nI T) p0 fl ce (nI h) mo) ++ (mW B cA L P G V Rp S Y O D th (nI h) wd (nI T) ft fl cl mo) ++ [(o, .inl (cL, 1, .inr (.inl (vp_updL fo 0 (if p0 ≤ fl then 0 else 1)))))]) H := hP.sub [10, 11, 12, 13, 14, 15, 16, 17, 18, 0, 1, 2, 3, 4, 5, 6, 7, 8, 9, 19] rfl
    have hD : va_D (aNew s.heap) ((xW A cA L P G V R N Y S wd (nI T) p0 fl ce (nI h) mo) ++ (mW B cA L P G V Rp S Y O D th (nI h) wd (nI T) ft fl cl mo) ++ [(o, .inl (cL, 1, .inr (.inl (vp_updL fo 0 (if p0 ≤ fl then 0 else 1)))))]) := hD.sub [10, 11, 12, 13, 14, 15, 16, 17, 18, 0, 1, 2, 3, 4, 5, 6, 7, 8, 9, 19] (by decide) rfl
    refine lv_istore (lv' := [(5, .int 0), (0, .ref b), (1, .ref (A 0)), (2, .ref (B 0)), (3, .ref o), (4, .int (nI (4 * i)))]) hx hb dL_law_499 hl (by decide) rfl (fun ls hl => ?_)
    refine lv_aload_n hx hb dL_law_501 rfl (lv_at hl 3 rfl) ?_
    refine lv_aload_n hx hb dL_law_502 rfl (lv_at hl 1 rfl) ?_
    refine lv_iload hx hb dL_law_503 (lv_at hl 5 rfl) ?_
    refine lv_iconst (v := 1) hx hb dL_law_505 (by decide) ?_
    refine lv_iadd hx hb dL_law_506 ?_
    refine lv_topi (fun v9 e9 => ?_)
    have e9 := e9.trans (nI_add (4 * i) 1)
    subst e9
    refine va_sld hx hb hX hbl hbA hS (vp_in_nI (by omega) (by omega)) dL_law_507 ?_
    refine lv_topi (fun v9 e9 => ?_)
    have e9 := (e9.trans hp0.symm).symm
    subst e9
    have hPc := hP.sub (ws' := (mW B cA L P G V Rp S Y O D th (nI h) wd (nI T) ft fl cl mo)) [9, 10, 11, 12, 13, 14, 15, 16, 17, 18] rfl
    have hDc := hD.sub (ws' := (mW B cA L P G V Rp S Y O D th (nI h) wd (nI T) ft fl cl mo)) [9, 10, 11, 12, 13, 14, 15, 16, 17, 18] (by decide) rfl
    have hFc := va_free (wc := mW B cA L P G V Rp S Y O D th (nI h) wd (nI T) ft fl cl mo) hD hS hA [9, 10, 11, 12, 13, 14, 15, 16, 17, 18] rfl
    have hKc := hK.sub (tys' := tyI cA) [0] rfl
    refine va_calli (va_runV (As := [.int p0]) (rest := []) ⟨hx, hb, hml, hown, hts⟩ (c_X1_run l dG B cA H L P G V Rp S Y O D th (nI h) wd (nI T) ft fl cl mo p0 ) (cwV 1 hts gL_law_X1_run rfl rfl rfl (by decide +kernel) ⟨Nat.le_of_ble_eq_true rfl, Nat.le_of_ble_eq_true rfl⟩) ⟨fun a9 U g mk q => ⟨q.1, wPre_calling g mk a9 q.2⟩, va_recv hKc hPc (ci := 1) (q0 := 0) rfl rfl, fun U hU hW => ⟨rfl, wPre_of hKc hPc hDc hU hW⟩⟩ rfl rfl hl.1 rfl (lv_room (Nat.le_of_ble_eq_true rfl)) dL_law_508 ⟨(by show _ ≤ 1049; omega), (by show _ ≤ 11971; omega)⟩) hS (fun q _ h => hFc q h) hFc (fun r u t H locs ht hvm hw hB hz1 hk1 hS => ?_)
    obtain ⟨hr2, hu2⟩ := hw.1 hk
    subst hu2
    have hr2 := hr2.symm
    obtain ⟨hP1, hK1, hD1⟩ := hB
    rw [ht] at hP1
    obtain ⟨hP, hD⟩ := va_join (wr := (xW A cA L P G V R N Y S wd (nI T) p0 fl ce (nI h) mo) ++ [(o, .inl (cL, 1, .inr (.inl (vp_updL fo 0 (if p0 ≤ fl then 0 else 1)))))]) (w1 := (mW B cA L P G V Rp S Y O D 0 (nI h) wd (nI T) p0 fl cl mo)) hP hD [9, 10, 11, 12, 13, 14, 15, 16, 17, 18] [0, 1, 2, 3, 4, 5, 6, 7, 8, 19] rfl rfl (by decide) (by decide) hk1 hFc hP1 hD1
    have hP : va_P dG vwCl ((xW A cA L P G V R N Y S wd (nI T) p0 fl ce (nI h) mo) ++ (mW B cA L P G V Rp S Y O D 0 (nI h) wd (nI T) p0 fl cl mo) ++ [(o, .inl (cL, 1, .inr (.inl (vp_updL fo 0 (if p0 ≤ fl then 0 else 1)))))]) H := hP.sub [0, 1, 2, 3, 4, 5, 6, 7, 8, 10, 11, 12, 13, 14, 15, 16, 17, 18, 19, 9] rfl
    have hD : va_D (aNew s.heap) ((xW A cA L P G V R N Y S wd (nI T) p0 fl ce (nI h) mo) ++ (mW B cA L P G V Rp S Y O D 0 (nI h) wd (nI T) p0 fl cl mo) ++ [(o, .inl (cL, 1, .inr (.inl (vp_updL fo 0 (if p0 ≤ fl then 0 else 1)))))]) := hD.sub [0, 1, 2, 3, 4, 5, 6, 7, 8, 10, 11, 12, 13, 14, 15, 16, 17, 18, 19, 9] (by decide) rfl
    by_cases gf : p0 ≤ fl
    · rw [if_pos gf] at hr2
      subst hr2
      refine lv_istore (lv' := [(6, .int 0), (5, .int 0), (0, .ref b), (1, .ref (A 0)), (2, .ref (B 0)), (3, .ref o), (4, .int (nI (4 * i)))]) hx hb dL_law_511 hl (by decide) rfl (fun ls hl => ?_)
      refine lv_aload_n hx hb dL_law_513 rfl (lv_at hl 4 rfl) ?_
      have hPc := hP.sub (ws' := (mW B cA L P G V Rp S Y O D 0 (nI h) wd (nI T) p0 fl cl mo)) [9, 10, 11, 12, 13, 14, 15, 16, 17, 18] rfl
      have hDc := hD.sub (ws' := (mW B cA L P G V Rp S Y O D 0 (nI h) wd (nI T) p0 fl cl mo)) [9, 10, 11, 12, 13, 14, 15, 16, 17, 18] (by decide) rfl
      have hFc := va_free (wc := mW B cA L P G V Rp S Y O D 0 (nI h) wd (nI T) p0 fl cl mo) hD hS hA [9, 10, 11, 12, 13, 14, 15, 16, 17, 18] rfl
      have hKc := hK.sub (tys' := tyI cA) [0] rfl
      refine va_calli (va_runV (As := []) (rest := []) ⟨hx, hb, hml, hown, hts⟩ (c_X1_thrown l dG B cA H L P G V Rp S Y O D 0 (nI h) wd (nI T) p0 fl cl mo) (cwV 0 hts gL_law_X1_thrown rfl rfl rfl (by decide +kernel) ⟨Nat.le_of_ble_eq_true rfl, Nat.le_of_ble_eq_true rfl⟩) ⟨fun a9 U g mk q => ⟨q.1, wPre_calling g mk a9 q.2⟩, va_recv hKc hPc (ci := 1) (q0 := 0) rfl rfl, fun U hU hW => ⟨rfl, wPre_of hKc hPc hDc hU hW⟩⟩ rfl rfl hl.1 rfl (lv_room (Nat.le_of_ble_eq_true rfl)) dL_law_514 ⟨(by show _ ≤ 1049; omega), (by show _ ≤ 11971; omega)⟩) hS (fun q _ h => hFc q h) hFc (fun r u t H locs ht hvm hw hB hz1 hk1 hS => ?_)
      obtain ⟨hr3, hu3⟩ := hw
      subst hu3
      have hr3 := hr3.symm
      subst hr3
      obtain ⟨hP1, hK1, hD1⟩ := hB
      rw [ht] at hP1
      obtain ⟨hP, hD⟩ := va_join (wr := (xW A cA L P G V R N Y S wd (nI T) p0 fl ce (nI h) mo) ++ [(o, .inl (cL, 1, .inr (.inl (vp_updL fo 0 (if p0 ≤ fl then 0 else 1)))))]) (w1 := (mW B cA L P G V Rp S Y O D 0 (nI h) wd (nI T) p0 fl cl mo)) hP hD [9, 10, 11, 12, 13, 14, 15, 16, 17, 18] [0, 1, 2, 3, 4, 5, 6, 7, 8, 19] rfl rfl (by decide) (by decide) hk1 hFc hP1 hD1
      have hP : va_P dG vwCl ((xW A cA L P G V R N Y S wd (nI T) p0 fl ce (nI h) mo) ++ (mW B cA L P G V Rp S Y O D 0 (nI h) wd (nI T) p0 fl cl mo) ++ [(o, .inl (cL, 1, .inr (.inl (vp_updL fo 0 (if p0 ≤ fl then 0 else 1)))))]) H := hP.sub [0, 1, 2, 3, 4, 5, 6, 7, 8, 10, 11, 12, 13, 14, 15, 16, 17, 18, 19, 9] rfl
      have hD : va_D (aNew s.heap) ((xW A cA L P G V R N Y S wd (nI T) p0 fl ce (nI h) mo) ++ (mW B cA L P G V Rp S Y O D 0 (nI h) wd (nI T) p0 fl cl mo) ++ [(o, .inl (cL, 1, .inr (.inl (vp_updL fo 0 (if p0 ≤ fl then 0 else 1)))))]) := hD.sub [0, 1, 2, 3, 4, 5, 6, 7, 8, 10, 11, 12, 13, 14, 15, 16, 17, 18, 19, 9] (by decide) rfl
      refine lv_iload hx hb dL_law_517 (lv_at hl 1 rfl) ?_
      refine lv_icmp_eq (tgt := 524) hx hb dL_law_519 (by decide) (fun _ => ?_) (fun h9 => absurd (by decide) h9)
      refine lv_iload hx hb dL_law_524 (lv_at hl 1 rfl) ?_
      refine lv_if_ne (tgt := 548) hx hb dL_law_526 (by decide) (fun h9 => absurd (by decide) h9) (fun _ => ?_)
      refine lv_aload_n hx hb dL_law_529 rfl (lv_at hl 5 rfl) ?_
      refine lv_iconst (v := 0) hx hb dL_law_530 (by decide) ?_
      refine va_lald hx hb hK hP 19 1 rfl rfl (i := 0) (vp_in_nI (n := 0) (by omega) (by omega)) dL_law_531 ?_
      refine lv_iload hx hb dL_law_532 (lv_at hl 0 rfl) ?_
      refine lv_if_eq (tgt := 541) hx hb dL_law_534 (by decide) (fun _ => ?_) (fun h9 => absurd (by decide) h9)
      refine lv_lconst (v := 0) hx hb dL_law_541 (by decide) ?_
      refine W.lcmp hx hb dL_law_542 ?_
      refine lv_topi (fun v9 e9 => ?_)
      have e9 := e9.trans (by rw [pk_uLs, if_pos gf]; exact lgc_self _ : (lg_cmp ((vp_updL fo 0 (if p0 ≤ fl then 0 else 1)) 0) 0) = 0)
      subst e9
      refine lv_if_eq (tgt := 548) hx hb dL_law_543 (by decide) (fun _ => ?_) (fun h9 => absurd (by decide) h9)
      refine lv_goto (tgt := 1130) hx hb dL_law_548 (by decide) ?_
      exact k L P G V R N Y S Rp O D T h wd p0 fl ce cl 0 mo (vp_updL fo 0 (if p0 ≤ fl then 0 else 1)) H locs ls I hP hD hS (lv_sub hl [2, 3, 4, 5, 6] rfl)
    · rw [if_neg gf] at hr2
      subst hr2
      refine lv_istore (lv' := [(6, .int 1), (5, .int 0), (0, .ref b), (1, .ref (A 0)), (2, .ref (B 0)), (3, .ref o), (4, .int (nI (4 * i)))]) hx hb dL_law_511 hl (by decide) rfl (fun ls hl => ?_)
      refine lv_aload_n hx hb dL_law_513 rfl (lv_at hl 4 rfl) ?_
      have hPc := hP.sub (ws' := (mW B cA L P G V Rp S Y O D 0 (nI h) wd (nI T) p0 fl cl mo)) [9, 10, 11, 12, 13, 14, 15, 16, 17, 18] rfl
      have hDc := hD.sub (ws' := (mW B cA L P G V Rp S Y O D 0 (nI h) wd (nI T) p0 fl cl mo)) [9, 10, 11, 12, 13, 14, 15, 16, 17, 18] (by decide) rfl
      have hFc := va_free (wc := mW B cA L P G V Rp S Y O D 0 (nI h) wd (nI T) p0 fl cl mo) hD hS hA [9, 10, 11, 12, 13, 14, 15, 16, 17, 18] rfl
      have hKc := hK.sub (tys' := tyI cA) [0] rfl
      refine va_calli (va_runV (As := []) (rest := []) ⟨hx, hb, hml, hown, hts⟩ (c_X1_thrown l dG B cA H L P G V Rp S Y O D 0 (nI h) wd (nI T) p0 fl cl mo) (cwV 0 hts gL_law_X1_thrown rfl rfl rfl (by decide +kernel) ⟨Nat.le_of_ble_eq_true rfl, Nat.le_of_ble_eq_true rfl⟩) ⟨fun a9 U g mk q => ⟨q.1, wPre_calling g mk a9 q.2⟩, va_recv hKc hPc (ci := 1) (q0 := 0) rfl rfl, fun U hU hW => ⟨rfl, wPre_of hKc hPc hDc hU hW⟩⟩ rfl rfl hl.1 rfl (lv_room (Nat.le_of_ble_eq_true rfl)) dL_law_514 ⟨(by show _ ≤ 1049; omega), (by show _ ≤ 11971; omega)⟩) hS (fun q _ h => hFc q h) hFc (fun r u t H locs ht hvm hw hB hz1 hk1 hS => ?_)
      obtain ⟨hr3, hu3⟩ := hw
      subst hu3
      have hr3 := hr3.symm
      subst hr3
      obtain ⟨hP1, hK1, hD1⟩ := hB
      rw [ht] at hP1
      obtain ⟨hP, hD⟩ := va_join (wr := (xW A cA L P G V R N Y S wd (nI T) p0 fl ce (nI h) mo) ++ [(o, .inl (cL, 1, .inr (.inl (vp_updL fo 0 (if p0 ≤ fl then 0 else 1)))))]) (w1 := (mW B cA L P G V Rp S Y O D 0 (nI h) wd (nI T) p0 fl cl mo)) hP hD [9, 10, 11, 12, 13, 14, 15, 16, 17, 18] [0, 1, 2, 3, 4, 5, 6, 7, 8, 19] rfl rfl (by decide) (by decide) hk1 hFc hP1 hD1
      have hP : va_P dG vwCl ((xW A cA L P G V R N Y S wd (nI T) p0 fl ce (nI h) mo) ++ (mW B cA L P G V Rp S Y O D 0 (nI h) wd (nI T) p0 fl cl mo) ++ [(o, .inl (cL, 1, .inr (.inl (vp_updL fo 0 (if p0 ≤ fl then 0 else 1)))))]) H := hP.sub [0, 1, 2, 3, 4, 5, 6, 7, 8, 10, 11, 12, 13, 14, 15, 16, 17, 18, 19, 9] rfl
      have hD : va_D (aNew s.heap) ((xW A cA L P G V R N Y S wd (nI T) p0 fl ce (nI h) mo) ++ (mW B cA L P G V Rp S Y O D 0 (nI h) wd (nI T) p0 fl cl mo) ++ [(o, .inl (cL, 1, .inr (.inl (vp_updL fo 0 (if p0 ≤ fl then 0 else 1)))))]) := hD.sub [0, 1, 2, 3, 4, 5, 6, 7, 8, 10, 11, 12, 13, 14, 15, 16, 17, 18, 19, 9] (by decide) rfl
      refine lv_iload hx hb dL_law_517 (lv_at hl 1 rfl) ?_
      refine lv_icmp_eq (tgt := 524) hx hb dL_law_519 (by decide) (fun _ => ?_) (fun h9 => absurd (by decide) h9)
      refine lv_iload hx hb dL_law_524 (lv_at hl 1 rfl) ?_
      refine lv_if_ne (tgt := 548) hx hb dL_law_526 (by decide) (fun h9 => absurd (by decide) h9) (fun _ => ?_)
      refine lv_aload_n hx hb dL_law_529 rfl (lv_at hl 5 rfl) ?_
      refine lv_iconst (v := 0) hx hb dL_law_530 (by decide) ?_
      refine va_lald hx hb hK hP 19 1 rfl rfl (i := 0) (vp_in_nI (n := 0) (by omega) (by omega)) dL_law_531 ?_
      refine lv_iload hx hb dL_law_532 (lv_at hl 0 rfl) ?_
      refine lv_if_eq (tgt := 541) hx hb dL_law_534 (by decide) (fun h9 => absurd h9 (by decide)) (fun _ => ?_)
      refine lv_lconst (v := 1) hx hb dL_law_537 (by decide) ?_
      refine lv_goto (tgt := 542) hx hb dL_law_538 (by decide) ?_
      refine W.lcmp hx hb dL_law_542 ?_
      refine lv_topi (fun v9 e9 => ?_)
      have e9 := e9.trans (by rw [pk_uLs, if_neg gf]; exact lgc_self _ : (lg_cmp ((vp_updL fo 0 (if p0 ≤ fl then 0 else 1)) 0) 1) = 0)
      subst e9
      refine lv_if_eq (tgt := 548) hx hb dL_law_543 (by decide) (fun _ => ?_) (fun h9 => absurd (by decide) h9)
      refine lv_goto (tgt := 1130) hx hb dL_law_548 (by decide) ?_
      exact k L P G V R N Y S Rp O D T h wd p0 fl ce cl 0 mo (vp_updL fo 0 (if p0 ≤ fl then 0 else 1)) H locs ls I hP hD hS (lv_sub hl [2, 3, 4, 5, 6] rfl)
  · have hPc := hP.sub (ws' := (xW A cA L P G V R N Y S wd (nI T) ft fl ce (nI h) mo) ++ ([(o, .inl (cL, 1, .inr (.inl fo)))])) [0, 1, 2, 3, 4, 5, 6, 7, 8, 19] rfl
    have hDc := hD.sub (ws' := (xW A cA L P G V R N Y S wd (nI T) ft fl ce (nI h) mo) ++ ([(o, .inl (cL, 1, .inr (.inl fo)))])) [0, 1, 2, 3, 4, 5, 6, 7, 8, 19] (by decide) rfl
    have hFc := va_free (wc := (xW A cA L P G V R N Y S wd (nI T) ft fl ce (nI h) mo) ++ ([(o, .inl (cL, 1, .inr (.inl fo)))])) hD hS hA [0, 1, 2, 3, 4, 5, 6, 7, 8, 19] rfl
    refine va_calli (vx_runSW (As := [.ref (A 0), .int p0, .ref o]) (rest := []) ⟨hx, hb, hml, hown, hts⟩ (c_L_run l hl0 dG a A o cA cL H L P G V R N Y S T h wd ft fl ce mo fo p0 I.1.1 I.1.2) (vx_cwSW 3 hts gL_law_L_run rfl rfl rfl (by decide +kernel) ⟨Nat.le_of_ble_eq_true rfl, Nat.le_of_ble_eq_true rfl⟩) ⟨fun a9 U g mk q => ⟨q.1, wPre_calling g mk a9 q.2.1, q.2.2.calling g mk a9⟩, fun U hU hW => ⟨rfl, wPre_of hK hPc hDc hU hW, hE.go hW hS hFc⟩⟩ rfl rfl hl.1 rfl (lv_room (Nat.le_of_ble_eq_true rfl)) dL_law_496 ⟨(by show _ ≤ 1049; omega), (by show _ ≤ 11971; omega)⟩) hS (fun q _ h => hFc q h) hFc (fun r u t H locs ht hvm hw hB hz1 hk1 hS => ?_)
    obtain ⟨hr1, hu0, hu1⟩ := hw
    have hu := hu1 hk
    subst hu
    have hr1 := hr1.symm
    subst hr1
    obtain ⟨hP1, hK1, hD1⟩ := hB
    rw [ht] at hP1
    obtain ⟨hP, hD⟩ := va_join (wr := (mW B cA L P G V Rp S Y O D th (nI h) wd (nI T) ft fl cl mo)) (w1 := (xW A cA L P G V R N Y S wd (nI T) ft fl ce (nI h) mo) ++ [(o, .inl (cL, 1, .inr (.inl fo)))]) hP hD [0, 1, 2, 3, 4, 5, 6, 7, 8, 19] [9, 10, 11, 12, 13, 14, 15, 16, 17, 18] rfl rfl (by decide) (by decide) hk1 hFc hP1 hD1
    have hP : va_P dG vwCl ((xW A cA L P G V R N Y S wd (nI T) ft fl ce (nI h) mo) ++ (mW B cA L P G V Rp S Y O D th (nI h) wd (nI T) ft fl cl mo) ++ [(o, .inl (cL, 1, .inr (.inl fo)))]) H := hP.sub [10, 11, 12, 13, 14, 15, 16, 17, 18, 0, 1, 2, 3, 4, 5, 6, 7, 8, 9, 19] rfl
    have hD : va_D (aNew s.heap) ((xW A cA L P G V R N Y S wd (nI T) ft fl ce (nI h) mo) ++ (mW B cA L P G V Rp S Y O D th (nI h) wd (nI T) ft fl cl mo) ++ [(o, .inl (cL, 1, .inr (.inl fo)))]) := hD.sub [10, 11, 12, 13, 14, 15, 16, 17, 18, 0, 1, 2, 3, 4, 5, 6, 7, 8, 9, 19] (by decide) rfl
    refine lv_istore (lv' := [(5, .int (kFish p0)), (0, .ref b), (1, .ref (A 0)), (2, .ref (B 0)), (3, .ref o), (4, .int (nI (4 * i)))]) hx hb dL_law_499 hl (by decide) rfl (fun ls hl => ?_)
    refine lv_aload_n hx hb dL_law_501 rfl (lv_at hl 3 rfl) ?_
    refine lv_aload_n hx hb dL_law_502 rfl (lv_at hl 1 rfl) ?_
    refine lv_iload hx hb dL_law_503 (lv_at hl 5 rfl) ?_
    refine lv_iconst (v := 1) hx hb dL_law_505 (by decide) ?_
    refine lv_iadd hx hb dL_law_506 ?_
    refine lv_topi (fun v9 e9 => ?_)
    have e9 := e9.trans (nI_add (4 * i) 1)
    subst e9
    refine va_sld hx hb hX hbl hbA hS (vp_in_nI (by omega) (by omega)) dL_law_507 ?_
    refine lv_topi (fun v9 e9 => ?_)
    have e9 := (e9.trans hp0.symm).symm
    subst e9
    have hPc := hP.sub (ws' := (mW B cA L P G V Rp S Y O D th (nI h) wd (nI T) ft fl cl mo)) [9, 10, 11, 12, 13, 14, 15, 16, 17, 18] rfl
    have hDc := hD.sub (ws' := (mW B cA L P G V Rp S Y O D th (nI h) wd (nI T) ft fl cl mo)) [9, 10, 11, 12, 13, 14, 15, 16, 17, 18] (by decide) rfl
    have hFc := va_free (wc := mW B cA L P G V Rp S Y O D th (nI h) wd (nI T) ft fl cl mo) hD hS hA [9, 10, 11, 12, 13, 14, 15, 16, 17, 18] rfl
    have hKc := hK.sub (tys' := tyI cA) [0] rfl
    refine va_calli (va_runV (As := [.int p0]) (rest := []) ⟨hx, hb, hml, hown, hts⟩ (c_X1_run l dG B cA H L P G V Rp S Y O D th (nI h) wd (nI T) ft fl cl mo p0 ) (cwV 1 hts gL_law_X1_run rfl rfl rfl (by decide +kernel) ⟨Nat.le_of_ble_eq_true rfl, Nat.le_of_ble_eq_true rfl⟩) ⟨fun a9 U g mk q => ⟨q.1, wPre_calling g mk a9 q.2⟩, va_recv hKc hPc (ci := 1) (q0 := 0) rfl rfl, fun U hU hW => ⟨rfl, wPre_of hKc hPc hDc hU hW⟩⟩ rfl rfl hl.1 rfl (lv_room (Nat.le_of_ble_eq_true rfl)) dL_law_508 ⟨(by show _ ≤ 1049; omega), (by show _ ≤ 11971; omega)⟩) hS (fun q _ h => hFc q h) hFc (fun r u t H locs ht hvm hw hB hz1 hk1 hS => ?_)
    obtain ⟨hr2, hu2⟩ := hw.2 hk
    subst hu2
    have hr2 := hr2.symm
    subst hr2
    obtain ⟨hP1, hK1, hD1⟩ := hB
    rw [ht] at hP1
    obtain ⟨hP, hD⟩ := va_join (wr := (xW A cA L P G V R N Y S wd (nI T) ft fl ce (nI h) mo) ++ [(o, .inl (cL, 1, .inr (.inl fo)))]) (w1 := (mW B cA L P G V Rp S Y O D (kFish p0) (nI h) wd (nI T) ft fl cl mo)) hP hD [9, 10, 11, 12, 13, 14, 15, 16, 17, 18] [0, 1, 2, 3, 4, 5, 6, 7, 8, 19] rfl rfl (by decide) (by decide) hk1 hFc hP1 hD1
    have hP : va_P dG vwCl ((xW A cA L P G V R N Y S wd (nI T) ft fl ce (nI h) mo) ++ (mW B cA L P G V Rp S Y O D (kFish p0) (nI h) wd (nI T) ft fl cl mo) ++ [(o, .inl (cL, 1, .inr (.inl fo)))]) H := hP.sub [0, 1, 2, 3, 4, 5, 6, 7, 8, 10, 11, 12, 13, 14, 15, 16, 17, 18, 19, 9] rfl
    have hD : va_D (aNew s.heap) ((xW A cA L P G V R N Y S wd (nI T) ft fl ce (nI h) mo) ++ (mW B cA L P G V Rp S Y O D (kFish p0) (nI h) wd (nI T) ft fl cl mo) ++ [(o, .inl (cL, 1, .inr (.inl fo)))]) := hD.sub [0, 1, 2, 3, 4, 5, 6, 7, 8, 10, 11, 12, 13, 14, 15, 16, 17, 18, 19, 9] (by decide) rfl
    refine lv_istore (lv' := [(6, .int 0), (5, .int (kFish p0)), (0, .ref b), (1, .ref (A 0)), (2, .ref (B 0)), (3, .ref o), (4, .int (nI (4 * i)))]) hx hb dL_law_511 hl (by decide) rfl (fun ls hl => ?_)
    refine lv_aload_n hx hb dL_law_513 rfl (lv_at hl 4 rfl) ?_
    have hPc := hP.sub (ws' := (mW B cA L P G V Rp S Y O D (kFish p0) (nI h) wd (nI T) ft fl cl mo)) [9, 10, 11, 12, 13, 14, 15, 16, 17, 18] rfl
    have hDc := hD.sub (ws' := (mW B cA L P G V Rp S Y O D (kFish p0) (nI h) wd (nI T) ft fl cl mo)) [9, 10, 11, 12, 13, 14, 15, 16, 17, 18] (by decide) rfl
    have hFc := va_free (wc := mW B cA L P G V Rp S Y O D (kFish p0) (nI h) wd (nI T) ft fl cl mo) hD hS hA [9, 10, 11, 12, 13, 14, 15, 16, 17, 18] rfl
    have hKc := hK.sub (tys' := tyI cA) [0] rfl
    refine va_calli (va_runV (As := []) (rest := []) ⟨hx, hb, hml, hown, hts⟩ (c_X1_thrown l dG B cA H L P G V Rp S Y O D (kFish p0) (nI h) wd (nI T) ft fl cl mo) (cwV 0 hts gL_law_X1_thrown rfl rfl rfl (by decide +kernel) ⟨Nat.le_of_ble_eq_true rfl, Nat.le_of_ble_eq_true rfl⟩) ⟨fun a9 U g mk q => ⟨q.1, wPre_calling g mk a9 q.2⟩, va_recv hKc hPc (ci := 1) (q0 := 0) rfl rfl, fun U hU hW => ⟨rfl, wPre_of hKc hPc hDc hU hW⟩⟩ rfl rfl hl.1 rfl (lv_room (Nat.le_of_ble_eq_true rfl)) dL_law_514 ⟨(by show _ ≤ 1049; omega), (by show _ ≤ 11971; omega)⟩) hS (fun q _ h => hFc q h) hFc (fun r u t H locs ht hvm hw hB hz1 hk1 hS => ?_)
    obtain ⟨hr3, hu3⟩ := hw
    subst hu3
    have hr3 := hr3.symm
    subst hr3
    obtain ⟨hP1, hK1, hD1⟩ := hB
    rw [ht] at hP1
    obtain ⟨hP, hD⟩ := va_join (wr := (xW A cA L P G V R N Y S wd (nI T) ft fl ce (nI h) mo) ++ [(o, .inl (cL, 1, .inr (.inl fo)))]) (w1 := (mW B cA L P G V Rp S Y O D (kFish p0) (nI h) wd (nI T) ft fl cl mo)) hP hD [9, 10, 11, 12, 13, 14, 15, 16, 17, 18] [0, 1, 2, 3, 4, 5, 6, 7, 8, 19] rfl rfl (by decide) (by decide) hk1 hFc hP1 hD1
    have hP : va_P dG vwCl ((xW A cA L P G V R N Y S wd (nI T) ft fl ce (nI h) mo) ++ (mW B cA L P G V Rp S Y O D (kFish p0) (nI h) wd (nI T) ft fl cl mo) ++ [(o, .inl (cL, 1, .inr (.inl fo)))]) H := hP.sub [0, 1, 2, 3, 4, 5, 6, 7, 8, 10, 11, 12, 13, 14, 15, 16, 17, 18, 19, 9] rfl
    have hD : va_D (aNew s.heap) ((xW A cA L P G V R N Y S wd (nI T) ft fl ce (nI h) mo) ++ (mW B cA L P G V Rp S Y O D (kFish p0) (nI h) wd (nI T) ft fl cl mo) ++ [(o, .inl (cL, 1, .inr (.inl fo)))]) := hD.sub [0, 1, 2, 3, 4, 5, 6, 7, 8, 10, 11, 12, 13, 14, 15, 16, 17, 18, 19, 9] (by decide) rfl
    refine lv_iload hx hb dL_law_517 (lv_at hl 1 rfl) ?_
    refine lv_icmp_eq (tgt := 524) hx hb dL_law_519 (by decide) (fun _ => ?_) (fun h9 => absurd rfl h9)
    refine lv_iload hx hb dL_law_524 (lv_at hl 1 rfl) ?_
    refine lv_if_ne (tgt := 548) hx hb dL_law_526 (by decide) (fun _ => ?_) (fun h9 => absurd h9 hk)
    refine lv_goto (tgt := 1130) hx hb dL_law_548 (by decide) ?_
    exact k L P G V R N Y S Rp O D T h wd ft fl ce cl (kFish p0) mo fo H locs ls I hP hD hS (lv_sub hl [2, 3, 4, 5, 6] rfl)
set_option maxHeartbeats 1000000 in
set_option maxRecDepth 100000 in
theorem case_limit {p : Program} {l : Launch} {e : Env} {s : State} {m : MethodId} {below : List Frame} {meth : Method} {c : Code} {b Ln : Nat} {xs : Nat → Int32} {dG : va_G} {a A B : Nat → Nat} {o : Nat} {cA cL : ClassId} (hl0 : l.stackTraces = false) (C0 : lw_At p s m meth c b Ln xs) (hE : tgE a (aNew s.heap) s s.heap) (hK : va_K dG vwCl (tyL cA cL) s) (hLn : Ln ≤ 2048) {i : Nat} (hi : 4 * i + 4 ≤ Ln) (k : lwAt p l e s m below meth c b dG A B o cA cL 1130 i (20 + i + 1) (3749 + 6 * i + 6)) : lwAt p l e s m below meth c b dG A B o cA cL 551 i (20 + i) (3749 + 6 * i) := by
  obtain ⟨hx, hb, hr, hml, hown, hts0, hX, hbl, hlocks, hgv⟩ := C0
  have hts : ∀ w ∈ wsL_law, w.before #[Value.ref b] s = true := fun w h => hts0 w (wsL_law_in w h)
  have hA : ∀ q : Nat, s.heap.size ≤ q → aNew s.heap q := fun _ h => h
  have hbA : ¬ aNew s.heap b := Nat.not_le.mpr hbl
  intro L P G V R N Y S Rp O D T h wd ft fl ce cl th mo fo H locs ls I hP hD hS hl
  obtain ⟨p0, hp0⟩ : ∃ z, z = xs (nI (4 * i + 1)).toNatClampNeg := ⟨_, rfl⟩
  refine lv_aload_n hx hb dL_law_551 rfl (lv_at hl 1 rfl) ?_
  refine lv_aload_n hx hb dL_law_552 rfl (lv_at hl 0 rfl) ?_
  refine lv_iload hx hb dL_law_553 (lv_at hl 4 rfl) ?_
  refine lv_iconst (v := 1) hx hb dL_law_555 (by decide) ?_
  refine lv_iadd hx hb dL_law_556 ?_
  refine lv_topi (fun v9 e9 => ?_)
  have e9 := e9.trans (nI_add (4 * i) 1)
  subst e9
  refine va_sld hx hb hX hbl hbA hS (vp_in_nI (by omega) (by omega)) dL_law_557 ?_
  refine lv_topi (fun v9 e9 => ?_)
  have e9 := (e9.trans hp0.symm).symm
  subst e9
  refine lv_aload_n hx hb dL_law_558 rfl (lv_at hl 3 rfl) ?_
  by_cases hk : kFish p0 = 0
  · have hPc := hP.sub (ws' := (xW A cA L P G V R N Y S wd (nI T) ft fl ce (nI h) mo) ++ ([(o, .inl (cL, 1, .inr (.inl fo)))])) [0, 1, 2, 3, 4, 5, 6, 7, 8, 19] rfl
    have hDc := hD.sub (ws' := (xW A cA L P G V R N Y S wd (nI T) ft fl ce (nI h) mo) ++ ([(o, .inl (cL, 1, .inr (.inl fo)))])) [0, 1, 2, 3, 4, 5, 6, 7, 8, 19] (by decide) rfl
    have hFc := va_free (wc := (xW A cA L P G V R N Y S wd (nI T) ft fl ce (nI h) mo) ++ ([(o, .inl (cL, 1, .inr (.inl fo)))])) hD hS hA [0, 1, 2, 3, 4, 5, 6, 7, 8, 19] rfl
    refine va_calli (vx_runSW (As := [.ref (A 0), .int p0, .ref o]) (rest := []) ⟨hx, hb, hml, hown, hts⟩ (c_L_limit l hl0 dG a A o cA cL H L P G V R N Y S T h wd ft fl ce mo fo p0 I.1.1 I.1.2) (vx_cwSW 3 hts gL_law_L_limit rfl rfl rfl (by decide +kernel) ⟨Nat.le_of_ble_eq_true rfl, Nat.le_of_ble_eq_true rfl⟩) ⟨fun a9 U g mk q => ⟨q.1, wPre_calling g mk a9 q.2.1, q.2.2.calling g mk a9⟩, fun U hU hW => ⟨rfl, wPre_of hK hPc hDc hU hW, hE.go hW hS hFc⟩⟩ rfl rfl hl.1 rfl (lv_room (Nat.le_of_ble_eq_true rfl)) dL_law_559 ⟨(by show _ ≤ 1049; omega), (by show _ ≤ 11971; omega)⟩) hS (fun q _ h => hFc q h) hFc (fun r u t H locs ht hvm hw hB hz1 hk1 hS => ?_)
    obtain ⟨hr1, hu0, hu1⟩ := hw
    have hu := hu0 hk
    subst hu
    have hr1 := (hr1.trans hk).symm
    subst hr1
    obtain ⟨hP1, hK1, hD1⟩ := hB
    rw [ht] at hP1
    obtain ⟨hP, hD⟩ := va_join (wr := (mW B cA L P G V Rp S Y O D th (nI h) wd (nI T) ft fl cl mo)) (w1 := (xW A cA L P G V R N Y S wd (nI T) ft p0 ce (nI h) mo) ++ [(o, .inl (cL, 1, .inr (.inl (vp_updL fo 0 (fl).toInt64))))]) hP hD [0, 1, 2, 3, 4, 5, 6, 7, 8, 19] [9, 10, 11, 12, 13, 14, 15, 16, 17, 18] rfl rfl (by decide) (by decide) hk1 hFc hP1 hD1
    have hP : va_P dG vwCl ((xW A cA L P G V R N Y S wd (nI T) ft p0 ce (nI h) mo) ++ (mW B cA L P G V Rp S Y O D th (nI h) wd (nI T) ft fl cl mo) ++ [(o, .inl (cL, 1, .inr (.inl (vp_updL fo 0 (fl).toInt64))))]) H := hP.sub [10, 11, 12, 13, 14, 15, 16, 17, 18, 0, 1, 2, 3, 4, 5, 6, 7, 8, 9, 19] rfl
    have hD : va_D (aNew s.heap) ((xW A cA L P G V R N Y S wd (nI T) ft p0 ce (nI h) mo) ++ (mW B cA L P G V Rp S Y O D th (nI h) wd (nI T) ft fl cl mo) ++ [(o, .inl (cL, 1, .inr (.inl (vp_updL fo 0 (fl).toInt64))))]) := hD.sub [10, 11, 12, 13, 14, 15, 16, 17, 18, 0, 1, 2, 3, 4, 5, 6, 7, 8, 9, 19] (by decide) rfl
    refine lv_istore (lv' := [(5, .int 0), (0, .ref b), (1, .ref (A 0)), (2, .ref (B 0)), (3, .ref o), (4, .int (nI (4 * i)))]) hx hb dL_law_562 hl (by decide) rfl (fun ls hl => ?_)
    refine lv_aload_n hx hb dL_law_564 rfl (lv_at hl 3 rfl) ?_
    refine lv_aload_n hx hb dL_law_565 rfl (lv_at hl 1 rfl) ?_
    refine lv_iload hx hb dL_law_566 (lv_at hl 5 rfl) ?_
    refine lv_iconst (v := 1) hx hb dL_law_568 (by decide) ?_
    refine lv_iadd hx hb dL_law_569 ?_
    refine lv_topi (fun v9 e9 => ?_)
    have e9 := e9.trans (nI_add (4 * i) 1)
    subst e9
    refine va_sld hx hb hX hbl hbA hS (vp_in_nI (by omega) (by omega)) dL_law_570 ?_
    refine lv_topi (fun v9 e9 => ?_)
    have e9 := (e9.trans hp0.symm).symm
    subst e9
    have hPc := hP.sub (ws' := (mW B cA L P G V Rp S Y O D th (nI h) wd (nI T) ft fl cl mo)) [9, 10, 11, 12, 13, 14, 15, 16, 17, 18] rfl
    have hDc := hD.sub (ws' := (mW B cA L P G V Rp S Y O D th (nI h) wd (nI T) ft fl cl mo)) [9, 10, 11, 12, 13, 14, 15, 16, 17, 18] (by decide) rfl
    have hFc := va_free (wc := mW B cA L P G V Rp S Y O D th (nI h) wd (nI T) ft fl cl mo) hD hS hA [9, 10, 11, 12, 13, 14, 15, 16, 17, 18] rfl
    have hKc := hK.sub (tys' := tyI cA) [0] rfl
    refine va_calli (va_runV (As := [.int p0]) (rest := []) ⟨hx, hb, hml, hown, hts⟩ (c_X1_limit l dG B cA H L P G V Rp S Y O D th (nI h) wd (nI T) ft fl cl mo p0 ) (cwV 1 hts gL_law_X1_limit rfl rfl rfl (by decide +kernel) ⟨Nat.le_of_ble_eq_true rfl, Nat.le_of_ble_eq_true rfl⟩) ⟨fun a9 U g mk q => ⟨q.1, wPre_calling g mk a9 q.2⟩, va_recv hKc hPc (ci := 1) (q0 := 0) rfl rfl, fun U hU hW => ⟨rfl, wPre_of hKc hPc hDc hU hW⟩⟩ rfl rfl hl.1 rfl (lv_room (Nat.le_of_ble_eq_true rfl)) dL_law_571 ⟨(by show _ ≤ 1049; omega), (by show _ ≤ 11971; omega)⟩) hS (fun q _ h => hFc q h) hFc (fun r u t H locs ht hvm hw hB hz1 hk1 hS => ?_)
    obtain ⟨hr2, hu2⟩ := hw.1 hk
    subst hu2
    have hr2 := hr2.symm
    subst hr2
    obtain ⟨hP1, hK1, hD1⟩ := hB
    rw [ht] at hP1
    obtain ⟨hP, hD⟩ := va_join (wr := (xW A cA L P G V R N Y S wd (nI T) ft p0 ce (nI h) mo) ++ [(o, .inl (cL, 1, .inr (.inl (vp_updL fo 0 (fl).toInt64))))]) (w1 := (mW B cA L P G V Rp S Y O D 0 (nI h) wd (nI T) ft p0 cl mo)) hP hD [9, 10, 11, 12, 13, 14, 15, 16, 17, 18] [0, 1, 2, 3, 4, 5, 6, 7, 8, 19] rfl rfl (by decide) (by decide) hk1 hFc hP1 hD1
    have hP : va_P dG vwCl ((xW A cA L P G V R N Y S wd (nI T) ft p0 ce (nI h) mo) ++ (mW B cA L P G V Rp S Y O D 0 (nI h) wd (nI T) ft p0 cl mo) ++ [(o, .inl (cL, 1, .inr (.inl (vp_updL fo 0 (fl).toInt64))))]) H := hP.sub [0, 1, 2, 3, 4, 5, 6, 7, 8, 10, 11, 12, 13, 14, 15, 16, 17, 18, 19, 9] rfl
    have hD : va_D (aNew s.heap) ((xW A cA L P G V R N Y S wd (nI T) ft p0 ce (nI h) mo) ++ (mW B cA L P G V Rp S Y O D 0 (nI h) wd (nI T) ft p0 cl mo) ++ [(o, .inl (cL, 1, .inr (.inl (vp_updL fo 0 (fl).toInt64))))]) := hD.sub [0, 1, 2, 3, 4, 5, 6, 7, 8, 10, 11, 12, 13, 14, 15, 16, 17, 18, 19, 9] (by decide) rfl
    refine lv_istore (lv' := [(6, .int (fl)), (5, .int 0), (0, .ref b), (1, .ref (A 0)), (2, .ref (B 0)), (3, .ref o), (4, .int (nI (4 * i)))]) hx hb dL_law_574 hl (by decide) rfl (fun ls hl => ?_)
    refine lv_aload_n hx hb dL_law_576 rfl (lv_at hl 4 rfl) ?_
    have hPc := hP.sub (ws' := (mW B cA L P G V Rp S Y O D 0 (nI h) wd (nI T) ft p0 cl mo)) [9, 10, 11, 12, 13, 14, 15, 16, 17, 18] rfl
    have hDc := hD.sub (ws' := (mW B cA L P G V Rp S Y O D 0 (nI h) wd (nI T) ft p0 cl mo)) [9, 10, 11, 12, 13, 14, 15, 16, 17, 18] (by decide) rfl
    have hFc := va_free (wc := mW B cA L P G V Rp S Y O D 0 (nI h) wd (nI T) ft p0 cl mo) hD hS hA [9, 10, 11, 12, 13, 14, 15, 16, 17, 18] rfl
    have hKc := hK.sub (tys' := tyI cA) [0] rfl
    refine va_calli (va_runV (As := []) (rest := []) ⟨hx, hb, hml, hown, hts⟩ (c_X1_thrown l dG B cA H L P G V Rp S Y O D 0 (nI h) wd (nI T) ft p0 cl mo) (cwV 0 hts gL_law_X1_thrown rfl rfl rfl (by decide +kernel) ⟨Nat.le_of_ble_eq_true rfl, Nat.le_of_ble_eq_true rfl⟩) ⟨fun a9 U g mk q => ⟨q.1, wPre_calling g mk a9 q.2⟩, va_recv hKc hPc (ci := 1) (q0 := 0) rfl rfl, fun U hU hW => ⟨rfl, wPre_of hKc hPc hDc hU hW⟩⟩ rfl rfl hl.1 rfl (lv_room (Nat.le_of_ble_eq_true rfl)) dL_law_577 ⟨(by show _ ≤ 1049; omega), (by show _ ≤ 11971; omega)⟩) hS (fun q _ h => hFc q h) hFc (fun r u t H locs ht hvm hw hB hz1 hk1 hS => ?_)
    obtain ⟨hr3, hu3⟩ := hw
    subst hu3
    have hr3 := hr3.symm
    subst hr3
    obtain ⟨hP1, hK1, hD1⟩ := hB
    rw [ht] at hP1
    obtain ⟨hP, hD⟩ := va_join (wr := (xW A cA L P G V R N Y S wd (nI T) ft p0 ce (nI h) mo) ++ [(o, .inl (cL, 1, .inr (.inl (vp_updL fo 0 (fl).toInt64))))]) (w1 := (mW B cA L P G V Rp S Y O D 0 (nI h) wd (nI T) ft p0 cl mo)) hP hD [9, 10, 11, 12, 13, 14, 15, 16, 17, 18] [0, 1, 2, 3, 4, 5, 6, 7, 8, 19] rfl rfl (by decide) (by decide) hk1 hFc hP1 hD1
    have hP : va_P dG vwCl ((xW A cA L P G V R N Y S wd (nI T) ft p0 ce (nI h) mo) ++ (mW B cA L P G V Rp S Y O D 0 (nI h) wd (nI T) ft p0 cl mo) ++ [(o, .inl (cL, 1, .inr (.inl (vp_updL fo 0 (fl).toInt64))))]) H := hP.sub [0, 1, 2, 3, 4, 5, 6, 7, 8, 10, 11, 12, 13, 14, 15, 16, 17, 18, 19, 9] rfl
    have hD : va_D (aNew s.heap) ((xW A cA L P G V R N Y S wd (nI T) ft p0 ce (nI h) mo) ++ (mW B cA L P G V Rp S Y O D 0 (nI h) wd (nI T) ft p0 cl mo) ++ [(o, .inl (cL, 1, .inr (.inl (vp_updL fo 0 (fl).toInt64))))]) := hD.sub [0, 1, 2, 3, 4, 5, 6, 7, 8, 10, 11, 12, 13, 14, 15, 16, 17, 18, 19, 9] (by decide) rfl
    refine lv_iload hx hb dL_law_580 (lv_at hl 1 rfl) ?_
    refine lv_icmp_eq (tgt := 587) hx hb dL_law_582 (by decide) (fun _ => ?_) (fun h9 => absurd (by decide) h9)
    refine lv_iload hx hb dL_law_587 (lv_at hl 1 rfl) ?_
    refine lv_if_ne (tgt := 604) hx hb dL_law_589 (by decide) (fun h9 => absurd (by decide) h9) (fun _ => ?_)
    refine lv_aload_n hx hb dL_law_592 rfl (lv_at hl 5 rfl) ?_
    refine lv_iconst (v := 0) hx hb dL_law_593 (by decide) ?_
    refine va_lald hx hb hK hP 19 1 rfl rfl (i := 0) (vp_in_nI (n := 0) (by omega) (by omega)) dL_law_594 ?_
    refine lv_iload hx hb dL_law_595 (lv_at hl 0 rfl) ?_
    refine lv_i2l hx hb dL_law_597 rfl ?_
    refine W.lcmp hx hb dL_law_598 ?_
    refine lv_topi (fun v9 e9 => ?_)
    have e9 := e9.trans (lgc_eq rfl)
    subst e9
    refine lv_if_eq (tgt := 604) hx hb dL_law_599 (by decide) (fun _ => ?_) (fun h9 => absurd (by decide) h9)
    refine lv_goto (tgt := 1130) hx hb dL_law_604 (by decide) ?_
    exact k L P G V R N Y S Rp O D T h wd ft p0 ce cl 0 mo (vp_updL fo 0 (fl).toInt64) H locs ls I hP hD hS (lv_sub hl [2, 3, 4, 5, 6] rfl)
  · have hPc := hP.sub (ws' := (xW A cA L P G V R N Y S wd (nI T) ft fl ce (nI h) mo) ++ ([(o, .inl (cL, 1, .inr (.inl fo)))])) [0, 1, 2, 3, 4, 5, 6, 7, 8, 19] rfl
    have hDc := hD.sub (ws' := (xW A cA L P G V R N Y S wd (nI T) ft fl ce (nI h) mo) ++ ([(o, .inl (cL, 1, .inr (.inl fo)))])) [0, 1, 2, 3, 4, 5, 6, 7, 8, 19] (by decide) rfl
    have hFc := va_free (wc := (xW A cA L P G V R N Y S wd (nI T) ft fl ce (nI h) mo) ++ ([(o, .inl (cL, 1, .inr (.inl fo)))])) hD hS hA [0, 1, 2, 3, 4, 5, 6, 7, 8, 19] rfl
    refine va_calli (vx_runSW (As := [.ref (A 0), .int p0, .ref o]) (rest := []) ⟨hx, hb, hml, hown, hts⟩ (c_L_limit l hl0 dG a A o cA cL H L P G V R N Y S T h wd ft fl ce mo fo p0 I.1.1 I.1.2) (vx_cwSW 3 hts gL_law_L_limit rfl rfl rfl (by decide +kernel) ⟨Nat.le_of_ble_eq_true rfl, Nat.le_of_ble_eq_true rfl⟩) ⟨fun a9 U g mk q => ⟨q.1, wPre_calling g mk a9 q.2.1, q.2.2.calling g mk a9⟩, fun U hU hW => ⟨rfl, wPre_of hK hPc hDc hU hW, hE.go hW hS hFc⟩⟩ rfl rfl hl.1 rfl (lv_room (Nat.le_of_ble_eq_true rfl)) dL_law_559 ⟨(by show _ ≤ 1049; omega), (by show _ ≤ 11971; omega)⟩) hS (fun q _ h => hFc q h) hFc (fun r u t H locs ht hvm hw hB hz1 hk1 hS => ?_)
    obtain ⟨hr1, hu0, hu1⟩ := hw
    have hu := hu1 hk
    subst hu
    have hr1 := hr1.symm
    subst hr1
    obtain ⟨hP1, hK1, hD1⟩ := hB
    rw [ht] at hP1
    obtain ⟨hP, hD⟩ := va_join (wr := (mW B cA L P G V Rp S Y O D th (nI h) wd (nI T) ft fl cl mo)) (w1 := (xW A cA L P G V R N Y S wd (nI T) ft fl ce (nI h) mo) ++ [(o, .inl (cL, 1, .inr (.inl fo)))]) hP hD [0, 1, 2, 3, 4, 5, 6, 7, 8, 19] [9, 10, 11, 12, 13, 14, 15, 16, 17, 18] rfl rfl (by decide) (by decide) hk1 hFc hP1 hD1
    have hP : va_P dG vwCl ((xW A cA L P G V R N Y S wd (nI T) ft fl ce (nI h) mo) ++ (mW B cA L P G V Rp S Y O D th (nI h) wd (nI T) ft fl cl mo) ++ [(o, .inl (cL, 1, .inr (.inl fo)))]) H := hP.sub [10, 11, 12, 13, 14, 15, 16, 17, 18, 0, 1, 2, 3, 4, 5, 6, 7, 8, 9, 19] rfl
    have hD : va_D (aNew s.heap) ((xW A cA L P G V R N Y S wd (nI T) ft fl ce (nI h) mo) ++ (mW B cA L P G V Rp S Y O D th (nI h) wd (nI T) ft fl cl mo) ++ [(o, .inl (cL, 1, .inr (.inl fo)))]) := hD.sub [10, 11, 12, 13, 14, 15, 16, 17, 18, 0, 1, 2, 3, 4, 5, 6, 7, 8, 9, 19] (by decide) rfl
    refine lv_istore (lv' := [(5, .int (kFish p0)), (0, .ref b), (1, .ref (A 0)), (2, .ref (B 0)), (3, .ref o), (4, .int (nI (4 * i)))]) hx hb dL_law_562 hl (by decide) rfl (fun ls hl => ?_)
    refine lv_aload_n hx hb dL_law_564 rfl (lv_at hl 3 rfl) ?_
    refine lv_aload_n hx hb dL_law_565 rfl (lv_at hl 1 rfl) ?_
    refine lv_iload hx hb dL_law_566 (lv_at hl 5 rfl) ?_
    refine lv_iconst (v := 1) hx hb dL_law_568 (by decide) ?_
    refine lv_iadd hx hb dL_law_569 ?_
    refine lv_topi (fun v9 e9 => ?_)
    have e9 := e9.trans (nI_add (4 * i) 1)
    subst e9
    refine va_sld hx hb hX hbl hbA hS (vp_in_nI (by omega) (by omega)) dL_law_570 ?_
    refine lv_topi (fun v9 e9 => ?_)
    have e9 := (e9.trans hp0.symm).symm
    subst e9
    have hPc := hP.sub (ws' := (mW B cA L P G V Rp S Y O D th (nI h) wd (nI T) ft fl cl mo)) [9, 10, 11, 12, 13, 14, 15, 16, 17, 18] rfl
    have hDc := hD.sub (ws' := (mW B cA L P G V Rp S Y O D th (nI h) wd (nI T) ft fl cl mo)) [9, 10, 11, 12, 13, 14, 15, 16, 17, 18] (by decide) rfl
    have hFc := va_free (wc := mW B cA L P G V Rp S Y O D th (nI h) wd (nI T) ft fl cl mo) hD hS hA [9, 10, 11, 12, 13, 14, 15, 16, 17, 18] rfl
    have hKc := hK.sub (tys' := tyI cA) [0] rfl
    refine va_calli (va_runV (As := [.int p0]) (rest := []) ⟨hx, hb, hml, hown, hts⟩ (c_X1_limit l dG B cA H L P G V Rp S Y O D th (nI h) wd (nI T) ft fl cl mo p0 ) (cwV 1 hts gL_law_X1_limit rfl rfl rfl (by decide +kernel) ⟨Nat.le_of_ble_eq_true rfl, Nat.le_of_ble_eq_true rfl⟩) ⟨fun a9 U g mk q => ⟨q.1, wPre_calling g mk a9 q.2⟩, va_recv hKc hPc (ci := 1) (q0 := 0) rfl rfl, fun U hU hW => ⟨rfl, wPre_of hKc hPc hDc hU hW⟩⟩ rfl rfl hl.1 rfl (lv_room (Nat.le_of_ble_eq_true rfl)) dL_law_571 ⟨(by show _ ≤ 1049; omega), (by show _ ≤ 11971; omega)⟩) hS (fun q _ h => hFc q h) hFc (fun r u t H locs ht hvm hw hB hz1 hk1 hS => ?_)
    obtain ⟨hr2, hu2⟩ := hw.2 hk
    subst hu2
    have hr2 := hr2.symm
    subst hr2
    obtain ⟨hP1, hK1, hD1⟩ := hB
    rw [ht] at hP1
    obtain ⟨hP, hD⟩ := va_join (wr := (xW A cA L P G V R N Y S wd (nI T) ft fl ce (nI h) mo) ++ [(o, .inl (cL, 1, .inr (.inl fo)))]) (w1 := (mW B cA L P G V Rp S Y O D (kFish p0) (nI h) wd (nI T) ft fl cl mo)) hP hD [9, 10, 11, 12, 13, 14, 15, 16, 17, 18] [0, 1, 2, 3, 4, 5, 6, 7, 8, 19] rfl rfl (by decide) (by decide) hk1 hFc hP1 hD1
    have hP : va_P dG vwCl ((xW A cA L P G V R N Y S wd (nI T) ft fl ce (nI h) mo) ++ (mW B cA L P G V Rp S Y O D (kFish p0) (nI h) wd (nI T) ft fl cl mo) ++ [(o, .inl (cL, 1, .inr (.inl fo)))]) H := hP.sub [0, 1, 2, 3, 4, 5, 6, 7, 8, 10, 11, 12, 13, 14, 15, 16, 17, 18, 19, 9] rfl
    have hD : va_D (aNew s.heap) ((xW A cA L P G V R N Y S wd (nI T) ft fl ce (nI h) mo) ++ (mW B cA L P G V Rp S Y O D (kFish p0) (nI h) wd (nI T) ft fl cl mo) ++ [(o, .inl (cL, 1, .inr (.inl fo)))]) := hD.sub [0, 1, 2, 3, 4, 5, 6, 7, 8, 10, 11, 12, 13, 14, 15, 16, 17, 18, 19, 9] (by decide) rfl
    refine lv_istore (lv' := [(6, .int 0), (5, .int (kFish p0)), (0, .ref b), (1, .ref (A 0)), (2, .ref (B 0)), (3, .ref o), (4, .int (nI (4 * i)))]) hx hb dL_law_574 hl (by decide) rfl (fun ls hl => ?_)
    refine lv_aload_n hx hb dL_law_576 rfl (lv_at hl 4 rfl) ?_
    have hPc := hP.sub (ws' := (mW B cA L P G V Rp S Y O D (kFish p0) (nI h) wd (nI T) ft fl cl mo)) [9, 10, 11, 12, 13, 14, 15, 16, 17, 18] rfl
    have hDc := hD.sub (ws' := (mW B cA L P G V Rp S Y O D (kFish p0) (nI h) wd (nI T) ft fl cl mo)) [9, 10, 11, 12, 13, 14, 15, 16, 17, 18] (by decide) rfl
    have hFc := va_free (wc := mW B cA L P G V Rp S Y O D (kFish p0) (nI h) wd (nI T) ft fl cl mo) hD hS hA [9, 10, 11, 12, 13, 14, 15, 16, 17, 18] rfl
    have hKc := hK.sub (tys' := tyI cA) [0] rfl
    refine va_calli (va_runV (As := []) (rest := []) ⟨hx, hb, hml, hown, hts⟩ (c_X1_thrown l dG B cA H L P G V Rp S Y O D (kFish p0) (nI h) wd (nI T) ft fl cl mo) (cwV 0 hts gL_law_X1_thrown rfl rfl rfl (by decide +kernel) ⟨Nat.le_of_ble_eq_true rfl, Nat.le_of_ble_eq_true rfl⟩) ⟨fun a9 U g mk q => ⟨q.1, wPre_calling g mk a9 q.2⟩, va_recv hKc hPc (ci := 1) (q0 := 0) rfl rfl, fun U hU hW => ⟨rfl, wPre_of hKc hPc hDc hU hW⟩⟩ rfl rfl hl.1 rfl (lv_room (Nat.le_of_ble_eq_true rfl)) dL_law_577 ⟨(by show _ ≤ 1049; omega), (by show _ ≤ 11971; omega)⟩) hS (fun q _ h => hFc q h) hFc (fun r u t H locs ht hvm hw hB hz1 hk1 hS => ?_)
    obtain ⟨hr3, hu3⟩ := hw
    subst hu3
    have hr3 := hr3.symm
    subst hr3
    obtain ⟨hP1, hK1, hD1⟩ := hB
    rw [ht] at hP1
    obtain ⟨hP, hD⟩ := va_join (wr := (xW A cA L P G V R N Y S wd (nI T) ft fl ce (nI h) mo) ++ [(o, .inl (cL, 1, .inr (.inl fo)))]) (w1 := (mW B cA L P G V Rp S Y O D (kFish p0) (nI h) wd (nI T) ft fl cl mo)) hP hD [9, 10, 11, 12, 13, 14, 15, 16, 17, 18] [0, 1, 2, 3, 4, 5, 6, 7, 8, 19] rfl rfl (by decide) (by decide) hk1 hFc hP1 hD1
    have hP : va_P dG vwCl ((xW A cA L P G V R N Y S wd (nI T) ft fl ce (nI h) mo) ++ (mW B cA L P G V Rp S Y O D (kFish p0) (nI h) wd (nI T) ft fl cl mo) ++ [(o, .inl (cL, 1, .inr (.inl fo)))]) H := hP.sub [0, 1, 2, 3, 4, 5, 6, 7, 8, 10, 11, 12, 13, 14, 15, 16, 17, 18, 19, 9] rfl
    have hD : va_D (aNew s.heap) ((xW A cA L P G V R N Y S wd (nI T) ft fl ce (nI h) mo) ++ (mW B cA L P G V Rp S Y O D (kFish p0) (nI h) wd (nI T) ft fl cl mo) ++ [(o, .inl (cL, 1, .inr (.inl fo)))]) := hD.sub [0, 1, 2, 3, 4, 5, 6, 7, 8, 10, 11, 12, 13, 14, 15, 16, 17, 18, 19, 9] (by decide) rfl
    refine lv_iload hx hb dL_law_580 (lv_at hl 1 rfl) ?_
    refine lv_icmp_eq (tgt := 587) hx hb dL_law_582 (by decide) (fun _ => ?_) (fun h9 => absurd rfl h9)
    refine lv_iload hx hb dL_law_587 (lv_at hl 1 rfl) ?_
    refine lv_if_ne (tgt := 604) hx hb dL_law_589 (by decide) (fun _ => ?_) (fun h9 => absurd h9 hk)
    refine lv_goto (tgt := 1130) hx hb dL_law_604 (by decide) ?_
    exact k L P G V R N Y S Rp O D T h wd ft fl ce cl (kFish p0) mo fo H locs ls I hP hD hS (lv_sub hl [2, 3, 4, 5, 6] rfl)
set_option maxHeartbeats 1000000 in
set_option maxRecDepth 100000 in
theorem case_sell {p : Program} {l : Launch} {e : Env} {s : State} {m : MethodId} {below : List Frame} {meth : Method} {c : Code} {b Ln : Nat} {xs : Nat → Int32} {dG : va_G} {a A B : Nat → Nat} {o : Nat} {cA cL : ClassId} (hl0 : l.stackTraces = false) (C0 : lw_At p s m meth c b Ln xs) (hE : tgE a (aNew s.heap) s s.heap) (hK : va_K dG vwCl (tyL cA cL) s) (hLn : Ln ≤ 2048) {i : Nat} (hi : 4 * i + 4 ≤ Ln) (k : lwAt p l e s m below meth c b dG A B o cA cL 1130 i (20 + i + 1) (3749 + 6 * i + 6)) : lwAt p l e s m below meth c b dG A B o cA cL 607 i (20 + i) (3749 + 6 * i) := by
  obtain ⟨hx, hb, hr, hml, hown, hts0, hX, hbl, hlocks, hgv⟩ := C0
  have hts : ∀ w ∈ wsL_law, w.before #[Value.ref b] s = true := fun w h => hts0 w (wsL_law_in w h)
  have hA : ∀ q : Nat, s.heap.size ≤ q → aNew s.heap q := fun _ h => h
  have hbA : ¬ aNew s.heap b := Nat.not_le.mpr hbl
  intro L P G V R N Y S Rp O D T h wd ft fl ce cl th mo fo H locs ls I hP hD hS hl
  obtain ⟨p0, hp0⟩ : ∃ z, z = xs (nI (4 * i + 1)).toNatClampNeg := ⟨_, rfl⟩
  obtain ⟨p1, hp1⟩ : ∃ z, z = xs (nI (4 * i + 2)).toNatClampNeg := ⟨_, rfl⟩
  obtain ⟨p2, hp2⟩ : ∃ z, z = xs (nI (4 * i + 3)).toNatClampNeg := ⟨_, rfl⟩
  refine lv_aload_n hx hb dL_law_607 rfl (lv_at hl 1 rfl) ?_
  refine lv_aload_n hx hb dL_law_608 rfl (lv_at hl 0 rfl) ?_
  refine lv_iload hx hb dL_law_609 (lv_at hl 4 rfl) ?_
  refine lv_iconst (v := 1) hx hb dL_law_611 (by decide) ?_
  refine lv_iadd hx hb dL_law_612 ?_
  refine lv_topi (fun v9 e9 => ?_)
  have e9 := e9.trans (nI_add (4 * i) 1)
  subst e9
  refine va_sld hx hb hX hbl hbA hS (vp_in_nI (by omega) (by omega)) dL_law_613 ?_
  refine lv_topi (fun v9 e9 => ?_)
  have e9 := (e9.trans hp0.symm).symm
  subst e9
  refine lv_aload_n hx hb dL_law_614 rfl (lv_at hl 0 rfl) ?_
  refine lv_iload hx hb dL_law_615 (lv_at hl 4 rfl) ?_
  refine lv_iconst (v := 2) hx hb dL_law_617 (by decide) ?_
  refine lv_iadd hx hb dL_law_618 ?_
  refine lv_topi (fun v9 e9 => ?_)
  have e9 := e9.trans (nI_add (4 * i) 2)
  subst e9
  refine va_sld hx hb hX hbl hbA hS (vp_in_nI (by omega) (by omega)) dL_law_619 ?_
  refine lv_topi (fun v9 e9 => ?_)
  have e9 := (e9.trans hp1.symm).symm
  subst e9
  refine lv_aload_n hx hb dL_law_620 rfl (lv_at hl 0 rfl) ?_
  refine lv_iload hx hb dL_law_621 (lv_at hl 4 rfl) ?_
  refine lv_iconst (v := 3) hx hb dL_law_623 (by decide) ?_
  refine lv_iadd hx hb dL_law_624 ?_
  refine lv_topi (fun v9 e9 => ?_)
  have e9 := e9.trans (nI_add (4 * i) 3)
  subst e9
  refine va_sld hx hb hX hbl hbA hS (vp_in_nI (by omega) (by omega)) dL_law_625 ?_
  refine lv_topi (fun v9 e9 => ?_)
  have e9 := (e9.trans hp2.symm).symm
  subst e9
  refine lv_aload_n hx hb dL_law_626 rfl (lv_at hl 3 rfl) ?_
  by_cases hk : kSell S (nI h) p0 p1 p2 = 0
  · have hPc := hP.sub (ws' := (xW A cA L P G V R N Y S wd (nI T) ft fl ce (nI h) mo) ++ ([(o, .inl (cL, 1, .inr (.inl fo)))])) [0, 1, 2, 3, 4, 5, 6, 7, 8, 19] rfl
    have hDc := hD.sub (ws' := (xW A cA L P G V R N Y S wd (nI T) ft fl ce (nI h) mo) ++ ([(o, .inl (cL, 1, .inr (.inl fo)))])) [0, 1, 2, 3, 4, 5, 6, 7, 8, 19] (by decide) rfl
    have hFc := va_free (wc := (xW A cA L P G V R N Y S wd (nI T) ft fl ce (nI h) mo) ++ ([(o, .inl (cL, 1, .inr (.inl fo)))])) hD hS hA [0, 1, 2, 3, 4, 5, 6, 7, 8, 19] rfl
    refine va_calli (vx_runSW (As := [.ref (A 0), .int p0, .int p1, .int p2, .ref o]) (rest := []) ⟨hx, hb, hml, hown, hts⟩ (c_L_sell l hl0 dG a A o cA cL H L P G V R N Y S T h wd ft fl ce mo fo p0 p1 p2 I.1.1 I.1.2 I.2.2.2.2.2.1.fin) (vx_cwSW 5 hts gL_law_L_sell rfl rfl rfl (by decide +kernel) ⟨Nat.le_of_ble_eq_true rfl, Nat.le_of_ble_eq_true rfl⟩) ⟨fun a9 U g mk q => ⟨q.1, wPre_calling g mk a9 q.2.1, q.2.2.calling g mk a9⟩, fun U hU hW => ⟨rfl, wPre_of hK hPc hDc hU hW, hE.go hW hS hFc⟩⟩ rfl rfl hl.1 rfl (lv_room (Nat.le_of_ble_eq_true rfl)) dL_law_627 ⟨(by show _ ≤ 1049; omega), (by show _ ≤ 11971; omega)⟩) hS (fun q _ h => hFc q h) hFc (fun r u t H locs ht hvm hw hB hz1 hk1 hS => ?_)
    obtain ⟨hr1, hu0, hu1⟩ := hw
    have hu := hu0 hk
    subst hu
    have hr1 := (hr1.trans hk).symm
    subst hr1
    obtain ⟨hP1, hK1, hD1⟩ := hB
    rw [ht] at hP1
    obtain ⟨hP, hD⟩ := va_join (wr := (mW B cA L P G V Rp S Y O D th (nI h) wd (nI T) ft fl cl mo)) (w1 := (xW A cA L P G V R N Y (upd S p0.toNatClampNeg (S p0.toNatClampNeg + p1)) wd (nI T) ft fl ce (nI h) (FP.fadd mo (fWorth p1 p2))) ++ [(o, .inl (cL, 1, .inr (.inl (vp_updL fo 0 (S p0.toNatClampNeg + p1).toInt64))))]) hP hD [0, 1, 2, 3, 4, 5, 6, 7, 8, 19] [9, 10, 11, 12, 13, 14, 15, 16, 17, 18] rfl rfl (by decide) (by decide) hk1 hFc hP1 hD1
    have hP : va_P dG vwCl ((xW A cA L P G V R N Y (upd S p0.toNatClampNeg (S p0.toNatClampNeg + p1)) wd (nI T) ft fl ce (nI h) (FP.fadd mo (fWorth p1 p2))) ++ (mW B cA L P G V Rp S Y O D th (nI h) wd (nI T) ft fl cl mo) ++ [(o, .inl (cL, 1, .inr (.inl (vp_updL fo 0 (S p0.toNatClampNeg + p1).toInt64))))]) H := hP.sub [10, 11, 12, 13, 14, 15, 16, 17, 18, 0, 1, 2, 3, 4, 5, 6, 7, 8, 9, 19] rfl
    have hD : va_D (aNew s.heap) ((xW A cA L P G V R N Y (upd S p0.toNatClampNeg (S p0.toNatClampNeg + p1)) wd (nI T) ft fl ce (nI h) (FP.fadd mo (fWorth p1 p2))) ++ (mW B cA L P G V Rp S Y O D th (nI h) wd (nI T) ft fl cl mo) ++ [(o, .inl (cL, 1, .inr (.inl (vp_updL fo 0 (S p0.toNatClampNeg + p1).toInt64))))]) := hD.sub [10, 11, 12, 13, 14, 15, 16, 17, 18, 0, 1, 2, 3, 4, 5, 6, 7, 8, 9, 19] (by decide) rfl
    refine lv_istore (lv' := [(5, .int 0), (0, .ref b), (1, .ref (A 0)), (2, .ref (B 0)), (3, .ref o), (4, .int (nI (4 * i)))]) hx hb dL_law_630 hl (by decide) rfl (fun ls hl => ?_)
    refine lv_aload_n hx hb dL_law_632 rfl (lv_at hl 3 rfl) ?_
    refine lv_aload_n hx hb dL_law_633 rfl (lv_at hl 1 rfl) ?_
    refine lv_iload hx hb dL_law_634 (lv_at hl 5 rfl) ?_
    refine lv_iconst (v := 1) hx hb dL_law_636 (by decide) ?_
    refine lv_iadd hx hb dL_law_637 ?_
    refine lv_topi (fun v9 e9 => ?_)
    have e9 := e9.trans (nI_add (4 * i) 1)
    subst e9
    refine va_sld hx hb hX hbl hbA hS (vp_in_nI (by omega) (by omega)) dL_law_638 ?_
    refine lv_topi (fun v9 e9 => ?_)
    have e9 := (e9.trans hp0.symm).symm
    subst e9
    refine lv_aload_n hx hb dL_law_639 rfl (lv_at hl 1 rfl) ?_
    refine lv_iload hx hb dL_law_640 (lv_at hl 5 rfl) ?_
    refine lv_iconst (v := 2) hx hb dL_law_642 (by decide) ?_
    refine lv_iadd hx hb dL_law_643 ?_
    refine lv_topi (fun v9 e9 => ?_)
    have e9 := e9.trans (nI_add (4 * i) 2)
    subst e9
    refine va_sld hx hb hX hbl hbA hS (vp_in_nI (by omega) (by omega)) dL_law_644 ?_
    refine lv_topi (fun v9 e9 => ?_)
    have e9 := (e9.trans hp1.symm).symm
    subst e9
    refine lv_aload_n hx hb dL_law_645 rfl (lv_at hl 1 rfl) ?_
    refine lv_iload hx hb dL_law_646 (lv_at hl 5 rfl) ?_
    refine lv_iconst (v := 3) hx hb dL_law_648 (by decide) ?_
    refine lv_iadd hx hb dL_law_649 ?_
    refine lv_topi (fun v9 e9 => ?_)
    have e9 := e9.trans (nI_add (4 * i) 3)
    subst e9
    refine va_sld hx hb hX hbl hbA hS (vp_in_nI (by omega) (by omega)) dL_law_650 ?_
    refine lv_topi (fun v9 e9 => ?_)
    have e9 := (e9.trans hp2.symm).symm
    subst e9
    have hPc := hP.sub (ws' := (mW B cA L P G V Rp S Y O D th (nI h) wd (nI T) ft fl cl mo)) [9, 10, 11, 12, 13, 14, 15, 16, 17, 18] rfl
    have hDc := hD.sub (ws' := (mW B cA L P G V Rp S Y O D th (nI h) wd (nI T) ft fl cl mo)) [9, 10, 11, 12, 13, 14, 15, 16, 17, 18] (by decide) rfl
    have hFc := va_free (wc := mW B cA L P G V Rp S Y O D th (nI h) wd (nI T) ft fl cl mo) hD hS hA [9, 10, 11, 12, 13, 14, 15, 16, 17, 18] rfl
    have hKc := hK.sub (tys' := tyI cA) [0] rfl
    refine va_calli (va_runV (As := [.int p0, .int p1, .int p2]) (rest := []) ⟨hx, hb, hml, hown, hts⟩ (c_X1_sell l dG B cA H L P G V Rp S Y O D th (nI h) wd (nI T) ft fl cl mo p0 p1 p2 (nIr (b := 500) I.1.2 (by omega)) (fun _ => nn_mul _ _) (fun _ => nn_add I.2.2.2.2.2.1.fin (mul_fin _ _))) (cwV 3 hts gL_law_X1_sell rfl rfl rfl (by decide +kernel) ⟨Nat.le_of_ble_eq_true rfl, Nat.le_of_ble_eq_true rfl⟩) ⟨fun a9 U g mk q => ⟨q.1, wPre_calling g mk a9 q.2⟩, va_recv hKc hPc (ci := 1) (q0 := 0) rfl rfl, fun U hU hW => ⟨rfl, wPre_of hKc hPc hDc hU hW⟩⟩ rfl rfl hl.1 rfl (lv_room (Nat.le_of_ble_eq_true rfl)) dL_law_651 ⟨(by show _ ≤ 1049; omega), (by show _ ≤ 11971; omega)⟩) hS (fun q _ h => hFc q h) hFc (fun r u t H locs ht hvm hw hB hz1 hk1 hS => ?_)
    obtain ⟨hr2, hu2⟩ := hw.1 hk
    subst hu2
    have hr2 := hr2.symm
    subst hr2
    obtain ⟨hP1, hK1, hD1⟩ := hB
    rw [ht] at hP1
    obtain ⟨hP, hD⟩ := va_join (wr := (xW A cA L P G V R N Y (upd S p0.toNatClampNeg (S p0.toNatClampNeg + p1)) wd (nI T) ft fl ce (nI h) (FP.fadd mo (fWorth p1 p2))) ++ [(o, .inl (cL, 1, .inr (.inl (vp_updL fo 0 (S p0.toNatClampNeg + p1).toInt64))))]) (w1 := (mW B cA L P G V Rp (upd S p0.toNatClampNeg (S p0.toNatClampNeg + p1)) Y O D 0 (nI h) wd (nI T) ft fl cl (FP.fadd mo (fWorth p1 p2)))) hP hD [9, 10, 11, 12, 13, 14, 15, 16, 17, 18] [0, 1, 2, 3, 4, 5, 6, 7, 8, 19] rfl rfl (by decide) (by decide) hk1 hFc hP1 hD1
    have hP : va_P dG vwCl ((xW A cA L P G V R N Y (upd S p0.toNatClampNeg (S p0.toNatClampNeg + p1)) wd (nI T) ft fl ce (nI h) (FP.fadd mo (fWorth p1 p2))) ++ (mW B cA L P G V Rp (upd S p0.toNatClampNeg (S p0.toNatClampNeg + p1)) Y O D 0 (nI h) wd (nI T) ft fl cl (FP.fadd mo (fWorth p1 p2))) ++ [(o, .inl (cL, 1, .inr (.inl (vp_updL fo 0 (S p0.toNatClampNeg + p1).toInt64))))]) H := hP.sub [0, 1, 2, 3, 4, 5, 6, 7, 8, 10, 11, 12, 13, 14, 15, 16, 17, 18, 19, 9] rfl
    have hD : va_D (aNew s.heap) ((xW A cA L P G V R N Y (upd S p0.toNatClampNeg (S p0.toNatClampNeg + p1)) wd (nI T) ft fl ce (nI h) (FP.fadd mo (fWorth p1 p2))) ++ (mW B cA L P G V Rp (upd S p0.toNatClampNeg (S p0.toNatClampNeg + p1)) Y O D 0 (nI h) wd (nI T) ft fl cl (FP.fadd mo (fWorth p1 p2))) ++ [(o, .inl (cL, 1, .inr (.inl (vp_updL fo 0 (S p0.toNatClampNeg + p1).toInt64))))]) := hD.sub [0, 1, 2, 3, 4, 5, 6, 7, 8, 10, 11, 12, 13, 14, 15, 16, 17, 18, 19, 9] (by decide) rfl
    refine lv_istore (lv' := [(6, .int (S p0.toNatClampNeg + p1)), (5, .int 0), (0, .ref b), (1, .ref (A 0)), (2, .ref (B 0)), (3, .ref o), (4, .int (nI (4 * i)))]) hx hb dL_law_654 hl (by decide) rfl (fun ls hl => ?_)
    refine lv_aload_n hx hb dL_law_656 rfl (lv_at hl 4 rfl) ?_
    have hPc := hP.sub (ws' := (mW B cA L P G V Rp (upd S p0.toNatClampNeg (S p0.toNatClampNeg + p1)) Y O D 0 (nI h) wd (nI T) ft fl cl (FP.fadd mo (fWorth p1 p2)))) [9, 10, 11, 12, 13, 14, 15, 16, 17, 18] rfl
    have hDc := hD.sub (ws' := (mW B cA L P G V Rp (upd S p0.toNatClampNeg (S p0.toNatClampNeg + p1)) Y O D 0 (nI h) wd (nI T) ft fl cl (FP.fadd mo (fWorth p1 p2)))) [9, 10, 11, 12, 13, 14, 15, 16, 17, 18] (by decide) rfl
    have hFc := va_free (wc := mW B cA L P G V Rp (upd S p0.toNatClampNeg (S p0.toNatClampNeg + p1)) Y O D 0 (nI h) wd (nI T) ft fl cl (FP.fadd mo (fWorth p1 p2))) hD hS hA [9, 10, 11, 12, 13, 14, 15, 16, 17, 18] rfl
    have hKc := hK.sub (tys' := tyI cA) [0] rfl
    refine va_calli (va_runV (As := []) (rest := []) ⟨hx, hb, hml, hown, hts⟩ (c_X1_thrown l dG B cA H L P G V Rp (upd S p0.toNatClampNeg (S p0.toNatClampNeg + p1)) Y O D 0 (nI h) wd (nI T) ft fl cl (FP.fadd mo (fWorth p1 p2))) (cwV 0 hts gL_law_X1_thrown rfl rfl rfl (by decide +kernel) ⟨Nat.le_of_ble_eq_true rfl, Nat.le_of_ble_eq_true rfl⟩) ⟨fun a9 U g mk q => ⟨q.1, wPre_calling g mk a9 q.2⟩, va_recv hKc hPc (ci := 1) (q0 := 0) rfl rfl, fun U hU hW => ⟨rfl, wPre_of hKc hPc hDc hU hW⟩⟩ rfl rfl hl.1 rfl (lv_room (Nat.le_of_ble_eq_true rfl)) dL_law_657 ⟨(by show _ ≤ 1049; omega), (by show _ ≤ 11971; omega)⟩) hS (fun q _ h => hFc q h) hFc (fun r u t H locs ht hvm hw hB hz1 hk1 hS => ?_)
    obtain ⟨hr3, hu3⟩ := hw
    subst hu3
    have hr3 := hr3.symm
    subst hr3
    obtain ⟨hP1, hK1, hD1⟩ := hB
    rw [ht] at hP1
    obtain ⟨hP, hD⟩ := va_join (wr := (xW A cA L P G V R N Y (upd S p0.toNatClampNeg (S p0.toNatClampNeg + p1)) wd (nI T) ft fl ce (nI h) (FP.fadd mo (fWorth p1 p2))) ++ [(o, .inl (cL, 1, .inr (.inl (vp_updL fo 0 (S p0.toNatClampNeg + p1).toInt64))))]) (w1 := (mW B cA L P G V Rp (upd S p0.toNatClampNeg (S p0.toNatClampNeg + p1)) Y O D 0 (nI h) wd (nI T) ft fl cl (FP.fadd mo (fWorth p1 p2)))) hP hD [9, 10, 11, 12, 13, 14, 15, 16, 17, 18] [0, 1, 2, 3, 4, 5, 6, 7, 8, 19] rfl rfl (by decide) (by decide) hk1 hFc hP1 hD1
    have hP : va_P dG vwCl ((xW A cA L P G V R N Y (upd S p0.toNatClampNeg (S p0.toNatClampNeg + p1)) wd (nI T) ft fl ce (nI h) (FP.fadd mo (fWorth p1 p2))) ++ (mW B cA L P G V Rp (upd S p0.toNatClampNeg (S p0.toNatClampNeg + p1)) Y O D 0 (nI h) wd (nI T) ft fl cl (FP.fadd mo (fWorth p1 p2))) ++ [(o, .inl (cL, 1, .inr (.inl (vp_updL fo 0 (S p0.toNatClampNeg + p1).toInt64))))]) H := hP.sub [0, 1, 2, 3, 4, 5, 6, 7, 8, 10, 11, 12, 13, 14, 15, 16, 17, 18, 19, 9] rfl
    have hD : va_D (aNew s.heap) ((xW A cA L P G V R N Y (upd S p0.toNatClampNeg (S p0.toNatClampNeg + p1)) wd (nI T) ft fl ce (nI h) (FP.fadd mo (fWorth p1 p2))) ++ (mW B cA L P G V Rp (upd S p0.toNatClampNeg (S p0.toNatClampNeg + p1)) Y O D 0 (nI h) wd (nI T) ft fl cl (FP.fadd mo (fWorth p1 p2))) ++ [(o, .inl (cL, 1, .inr (.inl (vp_updL fo 0 (S p0.toNatClampNeg + p1).toInt64))))]) := hD.sub [0, 1, 2, 3, 4, 5, 6, 7, 8, 10, 11, 12, 13, 14, 15, 16, 17, 18, 19, 9] (by decide) rfl
    refine lv_iload hx hb dL_law_660 (lv_at hl 1 rfl) ?_
    refine lv_icmp_eq (tgt := 667) hx hb dL_law_662 (by decide) (fun _ => ?_) (fun h9 => absurd (by decide) h9)
    refine lv_iload hx hb dL_law_667 (lv_at hl 1 rfl) ?_
    refine lv_if_ne (tgt := 684) hx hb dL_law_669 (by decide) (fun h9 => absurd (by decide) h9) (fun _ => ?_)
    refine lv_aload_n hx hb dL_law_672 rfl (lv_at hl 5 rfl) ?_
    refine lv_iconst (v := 0) hx hb dL_law_673 (by decide) ?_
    refine va_lald hx hb hK hP 19 1 rfl rfl (i := 0) (vp_in_nI (n := 0) (by omega) (by omega)) dL_law_674 ?_
    refine lv_iload hx hb dL_law_675 (lv_at hl 0 rfl) ?_
    refine lv_i2l hx hb dL_law_677 rfl ?_
    refine W.lcmp hx hb dL_law_678 ?_
    refine lv_topi (fun v9 e9 => ?_)
    have e9 := e9.trans (lgc_eq rfl)
    subst e9
    refine lv_if_eq (tgt := 684) hx hb dL_law_679 (by decide) (fun _ => ?_) (fun h9 => absurd (by decide) h9)
    refine lv_goto (tgt := 1130) hx hb dL_law_684 (by decide) ?_
    exact k L P G V R N Y (upd S p0.toNatClampNeg (S p0.toNatClampNeg + p1)) Rp O D T h wd ft fl ce cl 0 (FP.fadd mo (fWorth p1 p2)) (vp_updL fo 0 (S p0.toNatClampNeg + p1).toInt64) H locs ls (Inv_sell I hk) hP hD hS (lv_sub hl [2, 3, 4, 5, 6] rfl)
  · have hPc := hP.sub (ws' := (xW A cA L P G V R N Y S wd (nI T) ft fl ce (nI h) mo) ++ ([(o, .inl (cL, 1, .inr (.inl fo)))])) [0, 1, 2, 3, 4, 5, 6, 7, 8, 19] rfl
    have hDc := hD.sub (ws' := (xW A cA L P G V R N Y S wd (nI T) ft fl ce (nI h) mo) ++ ([(o, .inl (cL, 1, .inr (.inl fo)))])) [0, 1, 2, 3, 4, 5, 6, 7, 8, 19] (by decide) rfl
    have hFc := va_free (wc := (xW A cA L P G V R N Y S wd (nI T) ft fl ce (nI h) mo) ++ ([(o, .inl (cL, 1, .inr (.inl fo)))])) hD hS hA [0, 1, 2, 3, 4, 5, 6, 7, 8, 19] rfl
    refine va_calli (vx_runSW (As := [.ref (A 0), .int p0, .int p1, .int p2, .ref o]) (rest := []) ⟨hx, hb, hml, hown, hts⟩ (c_L_sell l hl0 dG a A o cA cL H L P G V R N Y S T h wd ft fl ce mo fo p0 p1 p2 I.1.1 I.1.2 I.2.2.2.2.2.1.fin) (vx_cwSW 5 hts gL_law_L_sell rfl rfl rfl (by decide +kernel) ⟨Nat.le_of_ble_eq_true rfl, Nat.le_of_ble_eq_true rfl⟩) ⟨fun a9 U g mk q => ⟨q.1, wPre_calling g mk a9 q.2.1, q.2.2.calling g mk a9⟩, fun U hU hW => ⟨rfl, wPre_of hK hPc hDc hU hW, hE.go hW hS hFc⟩⟩ rfl rfl hl.1 rfl (lv_room (Nat.le_of_ble_eq_true rfl)) dL_law_627 ⟨(by show _ ≤ 1049; omega), (by show _ ≤ 11971; omega)⟩) hS (fun q _ h => hFc q h) hFc (fun r u t H locs ht hvm hw hB hz1 hk1 hS => ?_)
    obtain ⟨hr1, hu0, hu1⟩ := hw
    have hu := hu1 hk
    subst hu
    have hr1 := hr1.symm
    subst hr1
    obtain ⟨hP1, hK1, hD1⟩ := hB
    rw [ht] at hP1
    obtain ⟨hP, hD⟩ := va_join (wr := (mW B cA L P G V Rp S Y O D th (nI h) wd (nI T) ft fl cl mo)) (w1 := (xW A cA L P G V R N Y S wd (nI T) ft fl ce (nI h) mo) ++ [(o, .inl (cL, 1, .inr (.inl fo)))]) hP hD [0, 1, 2, 3, 4, 5, 6, 7, 8, 19] [9, 10, 11, 12, 13, 14, 15, 16, 17, 18] rfl rfl (by decide) (by decide) hk1 hFc hP1 hD1
    have hP : va_P dG vwCl ((xW A cA L P G V R N Y S wd (nI T) ft fl ce (nI h) mo) ++ (mW B cA L P G V Rp S Y O D th (nI h) wd (nI T) ft fl cl mo) ++ [(o, .inl (cL, 1, .inr (.inl fo)))]) H := hP.sub [10, 11, 12, 13, 14, 15, 16, 17, 18, 0, 1, 2, 3, 4, 5, 6, 7, 8, 9, 19] rfl
    have hD : va_D (aNew s.heap) ((xW A cA L P G V R N Y S wd (nI T) ft fl ce (nI h) mo) ++ (mW B cA L P G V Rp S Y O D th (nI h) wd (nI T) ft fl cl mo) ++ [(o, .inl (cL, 1, .inr (.inl fo)))]) := hD.sub [10, 11, 12, 13, 14, 15, 16, 17, 18, 0, 1, 2, 3, 4, 5, 6, 7, 8, 9, 19] (by decide) rfl
    refine lv_istore (lv' := [(5, .int (kSell S (nI h) p0 p1 p2)), (0, .ref b), (1, .ref (A 0)), (2, .ref (B 0)), (3, .ref o), (4, .int (nI (4 * i)))]) hx hb dL_law_630 hl (by decide) rfl (fun ls hl => ?_)
    refine lv_aload_n hx hb dL_law_632 rfl (lv_at hl 3 rfl) ?_
    refine lv_aload_n hx hb dL_law_633 rfl (lv_at hl 1 rfl) ?_
    refine lv_iload hx hb dL_law_634 (lv_at hl 5 rfl) ?_
    refine lv_iconst (v := 1) hx hb dL_law_636 (by decide) ?_
    refine lv_iadd hx hb dL_law_637 ?_
    refine lv_topi (fun v9 e9 => ?_)
    have e9 := e9.trans (nI_add (4 * i) 1)
    subst e9
    refine va_sld hx hb hX hbl hbA hS (vp_in_nI (by omega) (by omega)) dL_law_638 ?_
    refine lv_topi (fun v9 e9 => ?_)
    have e9 := (e9.trans hp0.symm).symm
    subst e9
    refine lv_aload_n hx hb dL_law_639 rfl (lv_at hl 1 rfl) ?_
    refine lv_iload hx hb dL_law_640 (lv_at hl 5 rfl) ?_
    refine lv_iconst (v := 2) hx hb dL_law_642 (by decide) ?_
    refine lv_iadd hx hb dL_law_643 ?_
    refine lv_topi (fun v9 e9 => ?_)
    have e9 := e9.trans (nI_add (4 * i) 2)
    subst e9
    refine va_sld hx hb hX hbl hbA hS (vp_in_nI (by omega) (by omega)) dL_law_644 ?_
    refine lv_topi (fun v9 e9 => ?_)
    have e9 := (e9.trans hp1.symm).symm
    subst e9
    refine lv_aload_n hx hb dL_law_645 rfl (lv_at hl 1 rfl) ?_
    refine lv_iload hx hb dL_law_646 (lv_at hl 5 rfl) ?_
    refine lv_iconst (v := 3) hx hb dL_law_648 (by decide) ?_
    refine lv_iadd hx hb dL_law_649 ?_
    refine lv_topi (fun v9 e9 => ?_)
    have e9 := e9.trans (nI_add (4 * i) 3)
    subst e9
    refine va_sld hx hb hX hbl hbA hS (vp_in_nI (by omega) (by omega)) dL_law_650 ?_
    refine lv_topi (fun v9 e9 => ?_)
    have e9 := (e9.trans hp2.symm).symm
    subst e9
    have hPc := hP.sub (ws' := (mW B cA L P G V Rp S Y O D th (nI h) wd (nI T) ft fl cl mo)) [9, 10, 11, 12, 13, 14, 15, 16, 17, 18] rfl
    have hDc := hD.sub (ws' := (mW B cA L P G V Rp S Y O D th (nI h) wd (nI T) ft fl cl mo)) [9, 10, 11, 12, 13, 14, 15, 16, 17, 18] (by decide) rfl
    have hFc := va_free (wc := mW B cA L P G V Rp S Y O D th (nI h) wd (nI T) ft fl cl mo) hD hS hA [9, 10, 11, 12, 13, 14, 15, 16, 17, 18] rfl
    have hKc := hK.sub (tys' := tyI cA) [0] rfl
    refine va_calli (va_runV (As := [.int p0, .int p1, .int p2]) (rest := []) ⟨hx, hb, hml, hown, hts⟩ (c_X1_sell l dG B cA H L P G V Rp S Y O D th (nI h) wd (nI T) ft fl cl mo p0 p1 p2 (nIr (b := 500) I.1.2 (by omega)) (fun _ => nn_mul _ _) (fun _ => nn_add I.2.2.2.2.2.1.fin (mul_fin _ _))) (cwV 3 hts gL_law_X1_sell rfl rfl rfl (by decide +kernel) ⟨Nat.le_of_ble_eq_true rfl, Nat.le_of_ble_eq_true rfl⟩) ⟨fun a9 U g mk q => ⟨q.1, wPre_calling g mk a9 q.2⟩, va_recv hKc hPc (ci := 1) (q0 := 0) rfl rfl, fun U hU hW => ⟨rfl, wPre_of hKc hPc hDc hU hW⟩⟩ rfl rfl hl.1 rfl (lv_room (Nat.le_of_ble_eq_true rfl)) dL_law_651 ⟨(by show _ ≤ 1049; omega), (by show _ ≤ 11971; omega)⟩) hS (fun q _ h => hFc q h) hFc (fun r u t H locs ht hvm hw hB hz1 hk1 hS => ?_)
    obtain ⟨hr2, hu2⟩ := hw.2 hk
    subst hu2
    have hr2 := hr2.symm
    subst hr2
    obtain ⟨hP1, hK1, hD1⟩ := hB
    rw [ht] at hP1
    obtain ⟨hP, hD⟩ := va_join (wr := (xW A cA L P G V R N Y S wd (nI T) ft fl ce (nI h) mo) ++ [(o, .inl (cL, 1, .inr (.inl fo)))]) (w1 := (mW B cA L P G V Rp S Y O D (kSell S (nI h) p0 p1 p2) (nI h) wd (nI T) ft fl cl mo)) hP hD [9, 10, 11, 12, 13, 14, 15, 16, 17, 18] [0, 1, 2, 3, 4, 5, 6, 7, 8, 19] rfl rfl (by decide) (by decide) hk1 hFc hP1 hD1
    have hP : va_P dG vwCl ((xW A cA L P G V R N Y S wd (nI T) ft fl ce (nI h) mo) ++ (mW B cA L P G V Rp S Y O D (kSell S (nI h) p0 p1 p2) (nI h) wd (nI T) ft fl cl mo) ++ [(o, .inl (cL, 1, .inr (.inl fo)))]) H := hP.sub [0, 1, 2, 3, 4, 5, 6, 7, 8, 10, 11, 12, 13, 14, 15, 16, 17, 18, 19, 9] rfl
    have hD : va_D (aNew s.heap) ((xW A cA L P G V R N Y S wd (nI T) ft fl ce (nI h) mo) ++ (mW B cA L P G V Rp S Y O D (kSell S (nI h) p0 p1 p2) (nI h) wd (nI T) ft fl cl mo) ++ [(o, .inl (cL, 1, .inr (.inl fo)))]) := hD.sub [0, 1, 2, 3, 4, 5, 6, 7, 8, 10, 11, 12, 13, 14, 15, 16, 17, 18, 19, 9] (by decide) rfl
    refine lv_istore (lv' := [(6, .int 0), (5, .int (kSell S (nI h) p0 p1 p2)), (0, .ref b), (1, .ref (A 0)), (2, .ref (B 0)), (3, .ref o), (4, .int (nI (4 * i)))]) hx hb dL_law_654 hl (by decide) rfl (fun ls hl => ?_)
    refine lv_aload_n hx hb dL_law_656 rfl (lv_at hl 4 rfl) ?_
    have hPc := hP.sub (ws' := (mW B cA L P G V Rp S Y O D (kSell S (nI h) p0 p1 p2) (nI h) wd (nI T) ft fl cl mo)) [9, 10, 11, 12, 13, 14, 15, 16, 17, 18] rfl
    have hDc := hD.sub (ws' := (mW B cA L P G V Rp S Y O D (kSell S (nI h) p0 p1 p2) (nI h) wd (nI T) ft fl cl mo)) [9, 10, 11, 12, 13, 14, 15, 16, 17, 18] (by decide) rfl
    have hFc := va_free (wc := mW B cA L P G V Rp S Y O D (kSell S (nI h) p0 p1 p2) (nI h) wd (nI T) ft fl cl mo) hD hS hA [9, 10, 11, 12, 13, 14, 15, 16, 17, 18] rfl
    have hKc := hK.sub (tys' := tyI cA) [0] rfl
    refine va_calli (va_runV (As := []) (rest := []) ⟨hx, hb, hml, hown, hts⟩ (c_X1_thrown l dG B cA H L P G V Rp S Y O D (kSell S (nI h) p0 p1 p2) (nI h) wd (nI T) ft fl cl mo) (cwV 0 hts gL_law_X1_thrown rfl rfl rfl (by decide +kernel) ⟨Nat.le_of_ble_eq_true rfl, Nat.le_of_ble_eq_true rfl⟩) ⟨fun a9 U g mk q => ⟨q.1, wPre_calling g mk a9 q.2⟩, va_recv hKc hPc (ci := 1) (q0 := 0) rfl rfl, fun U hU hW => ⟨rfl, wPre_of hKc hPc hDc hU hW⟩⟩ rfl rfl hl.1 rfl (lv_room (Nat.le_of_ble_eq_true rfl)) dL_law_657 ⟨(by show _ ≤ 1049; omega), (by show _ ≤ 11971; omega)⟩) hS (fun q _ h => hFc q h) hFc (fun r u t H locs ht hvm hw hB hz1 hk1 hS => ?_)
    obtain ⟨hr3, hu3⟩ := hw
    subst hu3
    have hr3 := hr3.symm
    subst hr3
    obtain ⟨hP1, hK1, hD1⟩ := hB
    rw [ht] at hP1
    obtain ⟨hP, hD⟩ := va_join (wr := (xW A cA L P G V R N Y S wd (nI T) ft fl ce (nI h) mo) ++ [(o, .inl (cL, 1, .inr (.inl fo)))]) (w1 := (mW B cA L P G V Rp S Y O D (kSell S (nI h) p0 p1 p2) (nI h) wd (nI T) ft fl cl mo)) hP hD [9, 10, 11, 12, 13, 14, 15, 16, 17, 18] [0, 1, 2, 3, 4, 5, 6, 7, 8, 19] rfl rfl (by decide) (by decide) hk1 hFc hP1 hD1
    have hP : va_P dG vwCl ((xW A cA L P G V R N Y S wd (nI T) ft fl ce (nI h) mo) ++ (mW B cA L P G V Rp S Y O D (kSell S (nI h) p0 p1 p2) (nI h) wd (nI T) ft fl cl mo) ++ [(o, .inl (cL, 1, .inr (.inl fo)))]) H := hP.sub [0, 1, 2, 3, 4, 5, 6, 7, 8, 10, 11, 12, 13, 14, 15, 16, 17, 18, 19, 9] rfl
    have hD : va_D (aNew s.heap) ((xW A cA L P G V R N Y S wd (nI T) ft fl ce (nI h) mo) ++ (mW B cA L P G V Rp S Y O D (kSell S (nI h) p0 p1 p2) (nI h) wd (nI T) ft fl cl mo) ++ [(o, .inl (cL, 1, .inr (.inl fo)))]) := hD.sub [0, 1, 2, 3, 4, 5, 6, 7, 8, 10, 11, 12, 13, 14, 15, 16, 17, 18, 19, 9] (by decide) rfl
    refine lv_iload hx hb dL_law_660 (lv_at hl 1 rfl) ?_
    refine lv_icmp_eq (tgt := 667) hx hb dL_law_662 (by decide) (fun _ => ?_) (fun h9 => absurd rfl h9)
    refine lv_iload hx hb dL_law_667 (lv_at hl 1 rfl) ?_
    refine lv_if_ne (tgt := 684) hx hb dL_law_669 (by decide) (fun _ => ?_) (fun h9 => absurd h9 hk)
    refine lv_goto (tgt := 1130) hx hb dL_law_684 (by decide) ?_
    exact k L P G V R N Y S Rp O D T h wd ft fl ce cl (kSell S (nI h) p0 p1 p2) mo fo H locs ls I hP hD hS (lv_sub hl [2, 3, 4, 5, 6] rfl)
set_option maxHeartbeats 1000000 in
set_option maxRecDepth 100000 in
theorem case_pass {p : Program} {l : Launch} {e : Env} {s : State} {m : MethodId} {below : List Frame} {meth : Method} {c : Code} {b Ln : Nat} {xs : Nat → Int32} {dG : va_G} {a A B : Nat → Nat} {o : Nat} {cA cL : ClassId} (hl0 : l.stackTraces = false) (C0 : lw_At p s m meth c b Ln xs) (hE : tgE a (aNew s.heap) s s.heap) (hK : va_K dG vwCl (tyL cA cL) s) (hLn : Ln ≤ 2048) {i : Nat} (hi : 4 * i + 4 ≤ Ln) (k : lwAt p l e s m below meth c b dG A B o cA cL 1130 i (20 + i + 1) (3749 + 6 * i + 6)) : lwAt p l e s m below meth c b dG A B o cA cL 687 i (20 + i) (3749 + 6 * i) := by
  obtain ⟨hx, hb, hr, hml, hown, hts0, hX, hbl, hlocks, hgv⟩ := C0
  have hts : ∀ w ∈ wsL_law, w.before #[Value.ref b] s = true := fun w h => hts0 w (wsL_law_in w h)
  have hA : ∀ q : Nat, s.heap.size ≤ q → aNew s.heap q := fun _ h => h
  have hbA : ¬ aNew s.heap b := Nat.not_le.mpr hbl
  intro L P G V R N Y S Rp O D T h wd ft fl ce cl th mo fo H locs ls I hP hD hS hl
  obtain ⟨p0, hp0⟩ : ∃ z, z = xs (nI (4 * i + 1)).toNatClampNeg := ⟨_, rfl⟩
  refine lv_aload_n hx hb dL_law_687 rfl (lv_at hl 1 rfl) ?_
  refine lv_aload_n hx hb dL_law_688 rfl (lv_at hl 0 rfl) ?_
  refine lv_iload hx hb dL_law_689 (lv_at hl 4 rfl) ?_
  refine lv_iconst (v := 1) hx hb dL_law_691 (by decide) ?_
  refine lv_iadd hx hb dL_law_692 ?_
  refine lv_topi (fun v9 e9 => ?_)
  have e9 := e9.trans (nI_add (4 * i) 1)
  subst e9
  refine va_sld hx hb hX hbl hbA hS (vp_in_nI (by omega) (by omega)) dL_law_693 ?_
  refine lv_topi (fun v9 e9 => ?_)
  have e9 := (e9.trans hp0.symm).symm
  subst e9
  refine lv_aload_n hx hb dL_law_694 rfl (lv_at hl 3 rfl) ?_
  by_cases hk : kPass (nI h) p0 = 0
  · obtain ⟨ct, rfl, hc1, hc2, hc3⟩ := kPass_0 I.1.2 hk
    obtain ⟨V', N', Y', Rp', O', D', ft', ce', cl', mo', ex, em, I2⟩ := Inv_pass I ft fl ct hc3
    have hPc := hP.sub (ws' := (xW A cA L P G V R N Y S wd (nI T) ft fl ce (nI h) mo) ++ ([(o, .inl (cL, 1, .inr (.inl fo)))])) [0, 1, 2, 3, 4, 5, 6, 7, 8, 19] rfl
    have hDc := hD.sub (ws' := (xW A cA L P G V R N Y S wd (nI T) ft fl ce (nI h) mo) ++ ([(o, .inl (cL, 1, .inr (.inl fo)))])) [0, 1, 2, 3, 4, 5, 6, 7, 8, 19] (by decide) rfl
    have hFc := va_free (wc := (xW A cA L P G V R N Y S wd (nI T) ft fl ce (nI h) mo) ++ ([(o, .inl (cL, 1, .inr (.inl fo)))])) hD hS hA [0, 1, 2, 3, 4, 5, 6, 7, 8, 19] rfl
    refine va_calli (vx_runSW (As := [.ref (A 0), .int (nI ct), .ref o]) (rest := []) ⟨hx, hb, hml, hown, hts⟩ (c_L_pass_ok l hl0 dG a A o cA cL H L P G V R N Y S T h wd ft fl ce mo fo I.1.1 I.1.2 ct hc1 hc2 hc3 (Inv_passX I ft fl ct hc3)) (vx_cwSW 3 hts gL_law_L_pass rfl rfl rfl (by decide +kernel) ⟨Nat.le_of_ble_eq_true rfl, Nat.le_of_ble_eq_true rfl⟩) ⟨fun a9 U g mk q => ⟨q.1, wPre_calling g mk a9 q.2.1, q.2.2.calling g mk a9⟩, fun U hU hW => ⟨rfl, wPre_of hK hPc hDc hU hW, hE.go hW hS hFc⟩⟩ rfl rfl hl.1 rfl (lv_room (Nat.le_of_ble_eq_true rfl)) dL_law_695 ⟨(by show _ ≤ 1049; omega), (by show _ ≤ 11971; omega)⟩) hS (fun q _ h => hFc q h) hFc (fun r u t H locs ht hvm hw hB hz1 hk1 hS => ?_)
    obtain ⟨hr1, hu⟩ := hw
    rw [ex] at hu
    subst hu
    have hr1 := hr1.symm
    subst hr1
    obtain ⟨hP1, hK1, hD1⟩ := hB
    rw [ht] at hP1
    obtain ⟨hP, hD⟩ := va_join (wr := (mW B cA L P G V Rp S Y O D th (nI h) wd (nI T) ft fl cl mo)) (w1 := (xW A cA L P G V' R N' Y' S wd (nI T) ft' fl ce' (nI (h + ct)) mo') ++ [(o, .inl (cL, 1, .inr (.inl (vp_updL fo 0 (nI (h + ct)).toInt64))))]) hP hD [0, 1, 2, 3, 4, 5, 6, 7, 8, 19] [9, 10, 11, 12, 13, 14, 15, 16, 17, 18] rfl rfl (by decide) (by decide) hk1 hFc hP1 hD1
    have hP : va_P dG vwCl ((xW A cA L P G V' R N' Y' S wd (nI T) ft' fl ce' (nI (h + ct)) mo') ++ (mW B cA L P G V Rp S Y O D th (nI h) wd (nI T) ft fl cl mo) ++ [(o, .inl (cL, 1, .inr (.inl (vp_updL fo 0 (nI (h + ct)).toInt64))))]) H := hP.sub [10, 11, 12, 13, 14, 15, 16, 17, 18, 0, 1, 2, 3, 4, 5, 6, 7, 8, 9, 19] rfl
    have hD : va_D (aNew s.heap) ((xW A cA L P G V' R N' Y' S wd (nI T) ft' fl ce' (nI (h + ct)) mo') ++ (mW B cA L P G V Rp S Y O D th (nI h) wd (nI T) ft fl cl mo) ++ [(o, .inl (cL, 1, .inr (.inl (vp_updL fo 0 (nI (h + ct)).toInt64))))]) := hD.sub [10, 11, 12, 13, 14, 15, 16, 17, 18, 0, 1, 2, 3, 4, 5, 6, 7, 8, 9, 19] (by decide) rfl
    refine lv_istore (lv' := [(5, .int 0), (0, .ref b), (1, .ref (A 0)), (2, .ref (B 0)), (3, .ref o), (4, .int (nI (4 * i)))]) hx hb dL_law_698 hl (by decide) rfl (fun ls hl => ?_)
    refine lv_aload_n hx hb dL_law_700 rfl (lv_at hl 3 rfl) ?_
    refine lv_aload_n hx hb dL_law_701 rfl (lv_at hl 1 rfl) ?_
    refine lv_iload hx hb dL_law_702 (lv_at hl 5 rfl) ?_
    refine lv_iconst (v := 1) hx hb dL_law_704 (by decide) ?_
    refine lv_iadd hx hb dL_law_705 ?_
    refine lv_topi (fun v9 e9 => ?_)
    have e9 := e9.trans (nI_add (4 * i) 1)
    subst e9
    refine va_sld hx hb hX hbl hbA hS (vp_in_nI (by omega) (by omega)) dL_law_706 ?_
    refine lv_topi (fun v9 e9 => ?_)
    have e9 := (e9.trans hp0.symm).symm
    subst e9
    have hPc := hP.sub (ws' := (mW B cA L P G V Rp S Y O D th (nI h) wd (nI T) ft fl cl mo)) [9, 10, 11, 12, 13, 14, 15, 16, 17, 18] rfl
    have hDc := hD.sub (ws' := (mW B cA L P G V Rp S Y O D th (nI h) wd (nI T) ft fl cl mo)) [9, 10, 11, 12, 13, 14, 15, 16, 17, 18] (by decide) rfl
    have hFc := va_free (wc := mW B cA L P G V Rp S Y O D th (nI h) wd (nI T) ft fl cl mo) hD hS hA [9, 10, 11, 12, 13, 14, 15, 16, 17, 18] rfl
    have hKc := hK.sub (tys' := tyI cA) [0] rfl
    refine va_calli (va_runV (As := [.int (nI ct)]) (rest := []) ⟨hx, hb, hml, hown, hts⟩ (c_X1_pass_ok l dG B cA H L P G V Rp S Y O D T h th wd ft fl cl mo ct hc1 hc2 hc3 I.1.1 (Inv_passM I ft fl ct hc3)) (cwV 1 hts gL_law_X1_pass rfl rfl rfl (by decide +kernel) ⟨Nat.le_of_ble_eq_true rfl, Nat.le_of_ble_eq_true rfl⟩) ⟨fun a9 U g mk q => ⟨q.1, wPre_calling g mk a9 q.2⟩, va_recv hKc hPc (ci := 1) (q0 := 0) rfl rfl, fun U hU hW => ⟨rfl, wPre_of hKc hPc hDc hU hW⟩⟩ rfl rfl hl.1 rfl (lv_room (Nat.le_of_ble_eq_true rfl)) dL_law_707 ⟨(by show _ ≤ 1049; omega), (by show _ ≤ 11971; omega)⟩) hS (fun q _ h => hFc q h) hFc (fun r u t H locs ht hvm hw hB hz1 hk1 hS => ?_)
    obtain ⟨hr2, hu2⟩ := hw
    rw [em] at hu2
    subst hu2
    have hr2 := hr2.symm
    subst hr2
    obtain ⟨hP1, hK1, hD1⟩ := hB
    rw [ht] at hP1
    obtain ⟨hP, hD⟩ := va_join (wr := (xW A cA L P G V' R N' Y' S wd (nI T) ft' fl ce' (nI (h + ct)) mo') ++ [(o, .inl (cL, 1, .inr (.inl (vp_updL fo 0 (nI (h + ct)).toInt64))))]) (w1 := (mW B cA L P G V' Rp' S Y' O' D' 0 (nI (h + ct)) wd (nI T) ft' fl cl' mo')) hP hD [9, 10, 11, 12, 13, 14, 15, 16, 17, 18] [0, 1, 2, 3, 4, 5, 6, 7, 8, 19] rfl rfl (by decide) (by decide) hk1 hFc hP1 hD1
    have hP : va_P dG vwCl ((xW A cA L P G V' R N' Y' S wd (nI T) ft' fl ce' (nI (h + ct)) mo') ++ (mW B cA L P G V' Rp' S Y' O' D' 0 (nI (h + ct)) wd (nI T) ft' fl cl' mo') ++ [(o, .inl (cL, 1, .inr (.inl (vp_updL fo 0 (nI (h + ct)).toInt64))))]) H := hP.sub [0, 1, 2, 3, 4, 5, 6, 7, 8, 10, 11, 12, 13, 14, 15, 16, 17, 18, 19, 9] rfl
    have hD : va_D (aNew s.heap) ((xW A cA L P G V' R N' Y' S wd (nI T) ft' fl ce' (nI (h + ct)) mo') ++ (mW B cA L P G V' Rp' S Y' O' D' 0 (nI (h + ct)) wd (nI T) ft' fl cl' mo') ++ [(o, .inl (cL, 1, .inr (.inl (vp_updL fo 0 (nI (h + ct)).toInt64))))]) := hD.sub [0, 1, 2, 3, 4, 5, 6, 7, 8, 10, 11, 12, 13, 14, 15, 16, 17, 18, 19, 9] (by decide) rfl
    refine lv_istore (lv' := [(6, .int (nI (h + ct))), (5, .int 0), (0, .ref b), (1, .ref (A 0)), (2, .ref (B 0)), (3, .ref o), (4, .int (nI (4 * i)))]) hx hb dL_law_710 hl (by decide) rfl (fun ls hl => ?_)
    refine lv_aload_n hx hb dL_law_712 rfl (lv_at hl 4 rfl) ?_
    have hPc := hP.sub (ws' := (mW B cA L P G V' Rp' S Y' O' D' 0 (nI (h + ct)) wd (nI T) ft' fl cl' mo')) [9, 10, 11, 12, 13, 14, 15, 16, 17, 18] rfl
    have hDc := hD.sub (ws' := (mW B cA L P G V' Rp' S Y' O' D' 0 (nI (h + ct)) wd (nI T) ft' fl cl' mo')) [9, 10, 11, 12, 13, 14, 15, 16, 17, 18] (by decide) rfl
    have hFc := va_free (wc := mW B cA L P G V' Rp' S Y' O' D' 0 (nI (h + ct)) wd (nI T) ft' fl cl' mo') hD hS hA [9, 10, 11, 12, 13, 14, 15, 16, 17, 18] rfl
    have hKc := hK.sub (tys' := tyI cA) [0] rfl
    refine va_calli (va_runV (As := []) (rest := []) ⟨hx, hb, hml, hown, hts⟩ (c_X1_thrown l dG B cA H L P G V' Rp' S Y' O' D' 0 (nI (h + ct)) wd (nI T) ft' fl cl' mo') (cwV 0 hts gL_law_X1_thrown rfl rfl rfl (by decide +kernel) ⟨Nat.le_of_ble_eq_true rfl, Nat.le_of_ble_eq_true rfl⟩) ⟨fun a9 U g mk q => ⟨q.1, wPre_calling g mk a9 q.2⟩, va_recv hKc hPc (ci := 1) (q0 := 0) rfl rfl, fun U hU hW => ⟨rfl, wPre_of hKc hPc hDc hU hW⟩⟩ rfl rfl hl.1 rfl (lv_room (Nat.le_of_ble_eq_true rfl)) dL_law_713 ⟨(by show _ ≤ 1049; omega), (by show _ ≤ 11971; omega)⟩) hS (fun q _ h => hFc q h) hFc (fun r u t H locs ht hvm hw hB hz1 hk1 hS => ?_)
    obtain ⟨hr3, hu3⟩ := hw
    subst hu3
    have hr3 := hr3.symm
    subst hr3
    obtain ⟨hP1, hK1, hD1⟩ := hB
    rw [ht] at hP1
    obtain ⟨hP, hD⟩ := va_join (wr := (xW A cA L P G V' R N' Y' S wd (nI T) ft' fl ce' (nI (h + ct)) mo') ++ [(o, .inl (cL, 1, .inr (.inl (vp_updL fo 0 (nI (h + ct)).toInt64))))]) (w1 := (mW B cA L P G V' Rp' S Y' O' D' 0 (nI (h + ct)) wd (nI T) ft' fl cl' mo')) hP hD [9, 10, 11, 12, 13, 14, 15, 16, 17, 18] [0, 1, 2, 3, 4, 5, 6, 7, 8, 19] rfl rfl (by decide) (by decide) hk1 hFc hP1 hD1
    have hP : va_P dG vwCl ((xW A cA L P G V' R N' Y' S wd (nI T) ft' fl ce' (nI (h + ct)) mo') ++ (mW B cA L P G V' Rp' S Y' O' D' 0 (nI (h + ct)) wd (nI T) ft' fl cl' mo') ++ [(o, .inl (cL, 1, .inr (.inl (vp_updL fo 0 (nI (h + ct)).toInt64))))]) H := hP.sub [0, 1, 2, 3, 4, 5, 6, 7, 8, 10, 11, 12, 13, 14, 15, 16, 17, 18, 19, 9] rfl
    have hD : va_D (aNew s.heap) ((xW A cA L P G V' R N' Y' S wd (nI T) ft' fl ce' (nI (h + ct)) mo') ++ (mW B cA L P G V' Rp' S Y' O' D' 0 (nI (h + ct)) wd (nI T) ft' fl cl' mo') ++ [(o, .inl (cL, 1, .inr (.inl (vp_updL fo 0 (nI (h + ct)).toInt64))))]) := hD.sub [0, 1, 2, 3, 4, 5, 6, 7, 8, 10, 11, 12, 13, 14, 15, 16, 17, 18, 19, 9] (by decide) rfl
    refine lv_iload hx hb dL_law_716 (lv_at hl 1 rfl) ?_
    refine lv_icmp_eq (tgt := 723) hx hb dL_law_718 (by decide) (fun _ => ?_) (fun h9 => absurd (by decide) h9)
    refine lv_iload hx hb dL_law_723 (lv_at hl 1 rfl) ?_
    refine lv_if_ne (tgt := 740) hx hb dL_law_725 (by decide) (fun h9 => absurd (by decide) h9) (fun _ => ?_)
    refine lv_aload_n hx hb dL_law_728 rfl (lv_at hl 5 rfl) ?_
    refine lv_iconst (v := 0) hx hb dL_law_729 (by decide) ?_
    refine va_lald hx hb hK hP 19 1 rfl rfl (i := 0) (vp_in_nI (n := 0) (by omega) (by omega)) dL_law_730 ?_
    refine lv_iload hx hb dL_law_731 (lv_at hl 0 rfl) ?_
    refine lv_i2l hx hb dL_law_733 rfl ?_
    refine W.lcmp hx hb dL_law_734 ?_
    refine lv_topi (fun v9 e9 => ?_)
    have e9 := e9.trans (lgc_eq rfl)
    subst e9
    refine lv_if_eq (tgt := 740) hx hb dL_law_735 (by decide) (fun _ => ?_) (fun h9 => absurd (by decide) h9)
    refine lv_goto (tgt := 1130) hx hb dL_law_740 (by decide) ?_
    exact k L P G V' R N' Y' S Rp' O' D' T (h + ct) wd ft' fl ce' cl' 0 mo' (vp_updL fo 0 (nI (h + ct)).toInt64) H locs ls I2 hP hD hS (lv_sub hl [2, 3, 4, 5, 6] rfl)
  · have hPc := hP.sub (ws' := (xW A cA L P G V R N Y S wd (nI T) ft fl ce (nI h) mo) ++ ([(o, .inl (cL, 1, .inr (.inl fo)))])) [0, 1, 2, 3, 4, 5, 6, 7, 8, 19] rfl
    have hDc := hD.sub (ws' := (xW A cA L P G V R N Y S wd (nI T) ft fl ce (nI h) mo) ++ ([(o, .inl (cL, 1, .inr (.inl fo)))])) [0, 1, 2, 3, 4, 5, 6, 7, 8, 19] (by decide) rfl
    have hFc := va_free (wc := (xW A cA L P G V R N Y S wd (nI T) ft fl ce (nI h) mo) ++ ([(o, .inl (cL, 1, .inr (.inl fo)))])) hD hS hA [0, 1, 2, 3, 4, 5, 6, 7, 8, 19] rfl
    refine va_calli (vx_runSW (As := [.ref (A 0), .int p0, .ref o]) (rest := []) ⟨hx, hb, hml, hown, hts⟩ (c_L_pass_no l hl0 dG a A o cA cL H L P G V R N Y S T h wd ft fl ce mo fo p0 I.1.1 I.1.2 hk) (vx_cwSW 3 hts gL_law_L_pass rfl rfl rfl (by decide +kernel) ⟨Nat.le_of_ble_eq_true rfl, Nat.le_of_ble_eq_true rfl⟩) ⟨fun a9 U g mk q => ⟨q.1, wPre_calling g mk a9 q.2.1, q.2.2.calling g mk a9⟩, fun U hU hW => ⟨rfl, wPre_of hK hPc hDc hU hW, hE.go hW hS hFc⟩⟩ rfl rfl hl.1 rfl (lv_room (Nat.le_of_ble_eq_true rfl)) dL_law_695 ⟨(by show _ ≤ 1049; omega), (by show _ ≤ 11971; omega)⟩) hS (fun q _ h => hFc q h) hFc (fun r u t H locs ht hvm hw hB hz1 hk1 hS => ?_)
    obtain ⟨hr1, hu⟩ := hw
    subst hu
    have hr1 := hr1.symm
    subst hr1
    obtain ⟨hP1, hK1, hD1⟩ := hB
    rw [ht] at hP1
    obtain ⟨hP, hD⟩ := va_join (wr := (mW B cA L P G V Rp S Y O D th (nI h) wd (nI T) ft fl cl mo)) (w1 := (xW A cA L P G V R N Y S wd (nI T) ft fl ce (nI h) mo) ++ [(o, .inl (cL, 1, .inr (.inl fo)))]) hP hD [0, 1, 2, 3, 4, 5, 6, 7, 8, 19] [9, 10, 11, 12, 13, 14, 15, 16, 17, 18] rfl rfl (by decide) (by decide) hk1 hFc hP1 hD1
    have hP : va_P dG vwCl ((xW A cA L P G V R N Y S wd (nI T) ft fl ce (nI h) mo) ++ (mW B cA L P G V Rp S Y O D th (nI h) wd (nI T) ft fl cl mo) ++ [(o, .inl (cL, 1, .inr (.inl fo)))]) H := hP.sub [10, 11, 12, 13, 14, 15, 16, 17, 18, 0, 1, 2, 3, 4, 5, 6, 7, 8, 9, 19] rfl
    have hD : va_D (aNew s.heap) ((xW A cA L P G V R N Y S wd (nI T) ft fl ce (nI h) mo) ++ (mW B cA L P G V Rp S Y O D th (nI h) wd (nI T) ft fl cl mo) ++ [(o, .inl (cL, 1, .inr (.inl fo)))]) := hD.sub [10, 11, 12, 13, 14, 15, 16, 17, 18, 0, 1, 2, 3, 4, 5, 6, 7, 8, 9, 19] (by decide) rfl
    refine lv_istore (lv' := [(5, .int (kPass (nI h) p0)), (0, .ref b), (1, .ref (A 0)), (2, .ref (B 0)), (3, .ref o), (4, .int (nI (4 * i)))]) hx hb dL_law_698 hl (by decide) rfl (fun ls hl => ?_)
    refine lv_aload_n hx hb dL_law_700 rfl (lv_at hl 3 rfl) ?_
    refine lv_aload_n hx hb dL_law_701 rfl (lv_at hl 1 rfl) ?_
    refine lv_iload hx hb dL_law_702 (lv_at hl 5 rfl) ?_
    refine lv_iconst (v := 1) hx hb dL_law_704 (by decide) ?_
    refine lv_iadd hx hb dL_law_705 ?_
    refine lv_topi (fun v9 e9 => ?_)
    have e9 := e9.trans (nI_add (4 * i) 1)
    subst e9
    refine va_sld hx hb hX hbl hbA hS (vp_in_nI (by omega) (by omega)) dL_law_706 ?_
    refine lv_topi (fun v9 e9 => ?_)
    have e9 := (e9.trans hp0.symm).symm
    subst e9
    have hPc := hP.sub (ws' := (mW B cA L P G V Rp S Y O D th (nI h) wd (nI T) ft fl cl mo)) [9, 10, 11, 12, 13, 14, 15, 16, 17, 18] rfl
    have hDc := hD.sub (ws' := (mW B cA L P G V Rp S Y O D th (nI h) wd (nI T) ft fl cl mo)) [9, 10, 11, 12, 13, 14, 15, 16, 17, 18] (by decide) rfl
    have hFc := va_free (wc := mW B cA L P G V Rp S Y O D th (nI h) wd (nI T) ft fl cl mo) hD hS hA [9, 10, 11, 12, 13, 14, 15, 16, 17, 18] rfl
    have hKc := hK.sub (tys' := tyI cA) [0] rfl
    refine va_calli (va_runV (As := [.int p0]) (rest := []) ⟨hx, hb, hml, hown, hts⟩ (c_X1_pass_no l dG B cA H L P G V Rp S Y O D T h th wd ft fl cl mo p0 hk) (cwV 1 hts gL_law_X1_pass rfl rfl rfl (by decide +kernel) ⟨Nat.le_of_ble_eq_true rfl, Nat.le_of_ble_eq_true rfl⟩) ⟨fun a9 U g mk q => ⟨q.1, wPre_calling g mk a9 q.2⟩, va_recv hKc hPc (ci := 1) (q0 := 0) rfl rfl, fun U hU hW => ⟨rfl, wPre_of hKc hPc hDc hU hW⟩⟩ rfl rfl hl.1 rfl (lv_room (Nat.le_of_ble_eq_true rfl)) dL_law_707 ⟨(by show _ ≤ 1049; omega), (by show _ ≤ 11971; omega)⟩) hS (fun q _ h => hFc q h) hFc (fun r u t H locs ht hvm hw hB hz1 hk1 hS => ?_)
    obtain ⟨hr2, hu2⟩ := hw
    subst hu2
    have hr2 := hr2.symm
    subst hr2
    obtain ⟨hP1, hK1, hD1⟩ := hB
    rw [ht] at hP1
    obtain ⟨hP, hD⟩ := va_join (wr := (xW A cA L P G V R N Y S wd (nI T) ft fl ce (nI h) mo) ++ [(o, .inl (cL, 1, .inr (.inl fo)))]) (w1 := (mW B cA L P G V Rp S Y O D (kPass (nI h) p0) (nI h) wd (nI T) ft fl cl mo)) hP hD [9, 10, 11, 12, 13, 14, 15, 16, 17, 18] [0, 1, 2, 3, 4, 5, 6, 7, 8, 19] rfl rfl (by decide) (by decide) hk1 hFc hP1 hD1
    have hP : va_P dG vwCl ((xW A cA L P G V R N Y S wd (nI T) ft fl ce (nI h) mo) ++ (mW B cA L P G V Rp S Y O D (kPass (nI h) p0) (nI h) wd (nI T) ft fl cl mo) ++ [(o, .inl (cL, 1, .inr (.inl fo)))]) H := hP.sub [0, 1, 2, 3, 4, 5, 6, 7, 8, 10, 11, 12, 13, 14, 15, 16, 17, 18, 19, 9] rfl
    have hD : va_D (aNew s.heap) ((xW A cA L P G V R N Y S wd (nI T) ft fl ce (nI h) mo) ++ (mW B cA L P G V Rp S Y O D (kPass (nI h) p0) (nI h) wd (nI T) ft fl cl mo) ++ [(o, .inl (cL, 1, .inr (.inl fo)))]) := hD.sub [0, 1, 2, 3, 4, 5, 6, 7, 8, 10, 11, 12, 13, 14, 15, 16, 17, 18, 19, 9] (by decide) rfl
    refine lv_istore (lv' := [(6, .int 0), (5, .int (kPass (nI h) p0)), (0, .ref b), (1, .ref (A 0)), (2, .ref (B 0)), (3, .ref o), (4, .int (nI (4 * i)))]) hx hb dL_law_710 hl (by decide) rfl (fun ls hl => ?_)
    refine lv_aload_n hx hb dL_law_712 rfl (lv_at hl 4 rfl) ?_
    have hPc := hP.sub (ws' := (mW B cA L P G V Rp S Y O D (kPass (nI h) p0) (nI h) wd (nI T) ft fl cl mo)) [9, 10, 11, 12, 13, 14, 15, 16, 17, 18] rfl
    have hDc := hD.sub (ws' := (mW B cA L P G V Rp S Y O D (kPass (nI h) p0) (nI h) wd (nI T) ft fl cl mo)) [9, 10, 11, 12, 13, 14, 15, 16, 17, 18] (by decide) rfl
    have hFc := va_free (wc := mW B cA L P G V Rp S Y O D (kPass (nI h) p0) (nI h) wd (nI T) ft fl cl mo) hD hS hA [9, 10, 11, 12, 13, 14, 15, 16, 17, 18] rfl
    have hKc := hK.sub (tys' := tyI cA) [0] rfl
    refine va_calli (va_runV (As := []) (rest := []) ⟨hx, hb, hml, hown, hts⟩ (c_X1_thrown l dG B cA H L P G V Rp S Y O D (kPass (nI h) p0) (nI h) wd (nI T) ft fl cl mo) (cwV 0 hts gL_law_X1_thrown rfl rfl rfl (by decide +kernel) ⟨Nat.le_of_ble_eq_true rfl, Nat.le_of_ble_eq_true rfl⟩) ⟨fun a9 U g mk q => ⟨q.1, wPre_calling g mk a9 q.2⟩, va_recv hKc hPc (ci := 1) (q0 := 0) rfl rfl, fun U hU hW => ⟨rfl, wPre_of hKc hPc hDc hU hW⟩⟩ rfl rfl hl.1 rfl (lv_room (Nat.le_of_ble_eq_true rfl)) dL_law_713 ⟨(by show _ ≤ 1049; omega), (by show _ ≤ 11971; omega)⟩) hS (fun q _ h => hFc q h) hFc (fun r u t H locs ht hvm hw hB hz1 hk1 hS => ?_)
    obtain ⟨hr3, hu3⟩ := hw
    subst hu3
    have hr3 := hr3.symm
    subst hr3
    obtain ⟨hP1, hK1, hD1⟩ := hB
    rw [ht] at hP1
    obtain ⟨hP, hD⟩ := va_join (wr := (xW A cA L P G V R N Y S wd (nI T) ft fl ce (nI h) mo) ++ [(o, .inl (cL, 1, .inr (.inl fo)))]) (w1 := (mW B cA L P G V Rp S Y O D (kPass (nI h) p0) (nI h) wd (nI T) ft fl cl mo)) hP hD [9, 10, 11, 12, 13, 14, 15, 16, 17, 18] [0, 1, 2, 3, 4, 5, 6, 7, 8, 19] rfl rfl (by decide) (by decide) hk1 hFc hP1 hD1
    have hP : va_P dG vwCl ((xW A cA L P G V R N Y S wd (nI T) ft fl ce (nI h) mo) ++ (mW B cA L P G V Rp S Y O D (kPass (nI h) p0) (nI h) wd (nI T) ft fl cl mo) ++ [(o, .inl (cL, 1, .inr (.inl fo)))]) H := hP.sub [0, 1, 2, 3, 4, 5, 6, 7, 8, 10, 11, 12, 13, 14, 15, 16, 17, 18, 19, 9] rfl
    have hD : va_D (aNew s.heap) ((xW A cA L P G V R N Y S wd (nI T) ft fl ce (nI h) mo) ++ (mW B cA L P G V Rp S Y O D (kPass (nI h) p0) (nI h) wd (nI T) ft fl cl mo) ++ [(o, .inl (cL, 1, .inr (.inl fo)))]) := hD.sub [0, 1, 2, 3, 4, 5, 6, 7, 8, 10, 11, 12, 13, 14, 15, 16, 17, 18, 19, 9] (by decide) rfl
    refine lv_iload hx hb dL_law_716 (lv_at hl 1 rfl) ?_
    refine lv_icmp_eq (tgt := 723) hx hb dL_law_718 (by decide) (fun _ => ?_) (fun h9 => absurd rfl h9)
    refine lv_iload hx hb dL_law_723 (lv_at hl 1 rfl) ?_
    refine lv_if_ne (tgt := 740) hx hb dL_law_725 (by decide) (fun _ => ?_) (fun h9 => absurd h9 hk)
    refine lv_goto (tgt := 1130) hx hb dL_law_740 (by decide) ?_
    exact k L P G V R N Y S Rp O D T h wd ft fl ce cl (kPass (nI h) p0) mo fo H locs ls I hP hD hS (lv_sub hl [2, 3, 4, 5, 6] rfl)
