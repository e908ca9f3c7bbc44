set_option maxHeartbeats 1000000 in
set_option maxRecDepth 100000 in
theorem case_head {p : Program} {l : Launch} {e : Env} {s : State} {m : MethodId} {below : List Frame} {meth : Method} {c : Code} {b Ln : Nat} {xs : Nat → Int32} {dG : va_G} {a A B : Nat → Nat} {o : Nat} {cA cL : ClassId} (hl0 : l.stackTraces = false) (C0 : lw_At p s m meth c b Ln xs) (hE : tgE a (aNew s.heap) s s.heap) (hK : va_K dG vwCl (tyL cA cL) s) (hLn : Ln ≤ 2048) {i : Nat} (hi : 4 * i + 4 ≤ Ln) (k : lwAt p l e s m below meth c b dG A B o cA cL 1130 i (20 + i + 1) (3749 + 6 * i + 6)) : lwAt p l e s m below meth c b dG A B o cA cL 980 i (20 + i) (3749 + 6 * i) := by
  obtain ⟨hx, hb, hr, hml, hown, hts0, hX, hbl, hlocks, hgv⟩ := C0
  have hts : ∀ w ∈ wsL_law, w.before #[Value.ref b] s = true := fun w h => hts0 w (wsL_law_in w h)
  have hA : ∀ q : Nat, s.heap.size ≤ q → aNew s.heap q := fun _ h => h
  have hbA : ¬ aNew s.heap b := Nat.not_le.mpr hbl
  intro L P G V R N Y S Rp O D T h wd ft fl ce cl th mo fo H locs ls I hP hD hS hl
  obtain ⟨p0, hp0⟩ : ∃ z, z = xs (nI (4 * i + 1)).toNatClampNeg := ⟨_, rfl⟩
  refine lv_aload_n hx hb dL_law_980 rfl (lv_at hl 1 rfl) ?_
  refine lv_aload_n hx hb dL_law_981 rfl (lv_at hl 0 rfl) ?_
  refine lv_iload hx hb dL_law_982 (lv_at hl 4 rfl) ?_
  refine lv_iconst (v := 1) hx hb dL_law_984 (by decide) ?_
  refine lv_iadd hx hb dL_law_985 ?_
  refine lv_topi (fun v9 e9 => ?_)
  have e9 := e9.trans (nI_add (4 * i) 1)
  subst e9
  refine va_sld hx hb hX hbl hbA hS (vp_in_nI (by omega) (by omega)) dL_law_986 ?_
  refine lv_topi (fun v9 e9 => ?_)
  have e9 := (e9.trans hp0.symm).symm
  subst e9
  refine lv_aload_n hx hb dL_law_987 rfl (lv_at hl 3 rfl) ?_
  by_cases hk : kGone (nI h) p0 = 0
  · have hPc := hP.sub (ws' := (xW A cA L P G V R N Y S wd (nI T) ft fl ce (nI h) mo) ++ ([(o, .inl (cL, 1, .inr (.inl fo)))])) [0, 1, 2, 3, 4, 5, 6, 7, 8, 19] rfl
    have hDc := hD.sub (ws' := (xW A cA L P G V R N Y S wd (nI T) ft fl ce (nI h) mo) ++ ([(o, .inl (cL, 1, .inr (.inl fo)))])) [0, 1, 2, 3, 4, 5, 6, 7, 8, 19] (by decide) rfl
    have hFc := va_free (wc := (xW A cA L P G V R N Y S wd (nI T) ft fl ce (nI h) mo) ++ ([(o, .inl (cL, 1, .inr (.inl fo)))])) hD hS hA [0, 1, 2, 3, 4, 5, 6, 7, 8, 19] rfl
    refine va_calli (vx_runSW (As := [.ref (A 0), .int p0, .ref o]) (rest := []) ⟨hx, hb, hml, hown, hts⟩ (c_L_head l hl0 dG a A o cA cL H L P G V R N Y S T h wd ft fl ce mo fo p0 I.1.1 I.1.2) (vx_cwSW 3 hts gL_law_L_head rfl rfl rfl (by decide +kernel) ⟨Nat.le_of_ble_eq_true rfl, Nat.le_of_ble_eq_true rfl⟩) ⟨fun a9 U g mk q => ⟨q.1, wPre_calling g mk a9 q.2.1, q.2.2.calling g mk a9⟩, fun U hU hW => ⟨rfl, wPre_of hK hPc hDc hU hW, hE.go hW hS hFc⟩⟩ rfl rfl hl.1 rfl (lv_room (Nat.le_of_ble_eq_true rfl)) dL_law_988 ⟨(by show _ ≤ 1049; omega), (by show _ ≤ 11971; omega)⟩) hS (fun q _ h => hFc q h) hFc (fun r u t H locs ht hvm hw hB hz1 hk1 hS => ?_)
    obtain ⟨hr1, hu0, hu1⟩ := hw
    have hu := hu0 hk
    subst hu
    have hr1 := (hr1.trans hk).symm
    subst hr1
    obtain ⟨hP1, hK1, hD1⟩ := hB
    rw [ht] at hP1
    obtain ⟨hP, hD⟩ := va_join (wr := (mW B cA L P G V Rp S Y O D th (nI h) wd (nI T) ft fl cl mo)) (w1 := (xW A cA L P G V R N Y S wd (nI T) ft fl ce (nI h) mo) ++ [(o, .inl (cL, 1, .inr (.inl (vp_updL fo 0 (fHead (N p0.toNatClampNeg)).toInt64))))]) hP hD [0, 1, 2, 3, 4, 5, 6, 7, 8, 19] [9, 10, 11, 12, 13, 14, 15, 16, 17, 18] rfl rfl (by decide) (by decide) hk1 hFc hP1 hD1
    have hP : va_P dG vwCl ((xW A cA L P G V R N Y S wd (nI T) ft fl ce (nI h) mo) ++ (mW B cA L P G V Rp S Y O D th (nI h) wd (nI T) ft fl cl mo) ++ [(o, .inl (cL, 1, .inr (.inl (vp_updL fo 0 (fHead (N p0.toNatClampNeg)).toInt64))))]) H := hP.sub [10, 11, 12, 13, 14, 15, 16, 17, 18, 0, 1, 2, 3, 4, 5, 6, 7, 8, 9, 19] rfl
    have hD : va_D (aNew s.heap) ((xW A cA L P G V R N Y S wd (nI T) ft fl ce (nI h) mo) ++ (mW B cA L P G V Rp S Y O D th (nI h) wd (nI T) ft fl cl mo) ++ [(o, .inl (cL, 1, .inr (.inl (vp_updL fo 0 (fHead (N p0.toNatClampNeg)).toInt64))))]) := hD.sub [10, 11, 12, 13, 14, 15, 16, 17, 18, 0, 1, 2, 3, 4, 5, 6, 7, 8, 9, 19] (by decide) rfl
    refine lv_istore (lv' := [(5, .int 0), (0, .ref b), (1, .ref (A 0)), (2, .ref (B 0)), (3, .ref o), (4, .int (nI (4 * i)))]) hx hb dL_law_991 hl (by decide) rfl (fun ls hl => ?_)
    refine lv_aload_n hx hb dL_law_993 rfl (lv_at hl 3 rfl) ?_
    refine lv_aload_n hx hb dL_law_994 rfl (lv_at hl 1 rfl) ?_
    refine lv_iload hx hb dL_law_995 (lv_at hl 5 rfl) ?_
    refine lv_iconst (v := 1) hx hb dL_law_997 (by decide) ?_
    refine lv_iadd hx hb dL_law_998 ?_
    refine lv_topi (fun v9 e9 => ?_)
    have e9 := e9.trans (nI_add (4 * i) 1)
    subst e9
    refine va_sld hx hb hX hbl hbA hS (vp_in_nI (by omega) (by omega)) dL_law_999 ?_
    refine lv_topi (fun v9 e9 => ?_)
    have e9 := (e9.trans hp0.symm).symm
    subst e9
    have hPc := hP.sub (ws' := (mW B cA L P G V Rp S Y O D th (nI h) wd (nI T) ft fl cl mo)) [9, 10, 11, 12, 13, 14, 15, 16, 17, 18] rfl
    have hDc := hD.sub (ws' := (mW B cA L P G V Rp S Y O D th (nI h) wd (nI T) ft fl cl mo)) [9, 10, 11, 12, 13, 14, 15, 16, 17, 18] (by decide) rfl
    have hFc := va_free (wc := mW B cA L P G V Rp S Y O D th (nI h) wd (nI T) ft fl cl mo) hD hS hA [9, 10, 11, 12, 13, 14, 15, 16, 17, 18] rfl
    have hKc := hK.sub (tys' := tyI cA) [0] rfl
    refine va_calli (va_runV (As := [.int p0]) (rest := []) ⟨hx, hb, hml, hown, hts⟩ (c_X1_head l dG B cA H L P G V Rp S Y O D th (nI h) wd (nI T) ft fl cl mo p0 (nIr (b := 500) I.1.2 (by omega))) (cwV 1 hts gL_law_X1_head rfl rfl rfl (by decide +kernel) ⟨Nat.le_of_ble_eq_true rfl, Nat.le_of_ble_eq_true rfl⟩) ⟨fun a9 U g mk q => ⟨q.1, wPre_calling g mk a9 q.2⟩, va_recv hKc hPc (ci := 1) (q0 := 0) rfl rfl, fun U hU hW => ⟨rfl, wPre_of hKc hPc hDc hU hW⟩⟩ rfl rfl hl.1 rfl (lv_room (Nat.le_of_ble_eq_true rfl)) dL_law_1000 ⟨(by show _ ≤ 1049; omega), (by show _ ≤ 11971; omega)⟩) hS (fun q _ h => hFc q h) hFc (fun r u t H locs ht hvm hw hB hz1 hk1 hS => ?_)
    obtain ⟨hr2, hu2⟩ := hw.1 hk
    subst hu2
    have hr2 := hr2.symm
    subst hr2
    obtain ⟨hP1, hK1, hD1⟩ := hB
    rw [ht] at hP1
    obtain ⟨hP, hD⟩ := va_join (wr := (xW A cA L P G V R N Y S wd (nI T) ft fl ce (nI h) mo) ++ [(o, .inl (cL, 1, .inr (.inl (vp_updL fo 0 (fHead (N p0.toNatClampNeg)).toInt64))))]) (w1 := (mW B cA L P G V Rp S Y O D 0 (nI h) wd (nI T) ft fl cl mo)) hP hD [9, 10, 11, 12, 13, 14, 15, 16, 17, 18] [0, 1, 2, 3, 4, 5, 6, 7, 8, 19] rfl rfl (by decide) (by decide) hk1 hFc hP1 hD1
    have hP : va_P dG vwCl ((xW A cA L P G V R N Y S wd (nI T) ft fl ce (nI h) mo) ++ (mW B cA L P G V Rp S Y O D 0 (nI h) wd (nI T) ft fl cl mo) ++ [(o, .inl (cL, 1, .inr (.inl (vp_updL fo 0 (fHead (N p0.toNatClampNeg)).toInt64))))]) H := hP.sub [0, 1, 2, 3, 4, 5, 6, 7, 8, 10, 11, 12, 13, 14, 15, 16, 17, 18, 19, 9] rfl
    have hD : va_D (aNew s.heap) ((xW A cA L P G V R N Y S wd (nI T) ft fl ce (nI h) mo) ++ (mW B cA L P G V Rp S Y O D 0 (nI h) wd (nI T) ft fl cl mo) ++ [(o, .inl (cL, 1, .inr (.inl (vp_updL fo 0 (fHead (N p0.toNatClampNeg)).toInt64))))]) := hD.sub [0, 1, 2, 3, 4, 5, 6, 7, 8, 10, 11, 12, 13, 14, 15, 16, 17, 18, 19, 9] (by decide) rfl
    refine lv_istore (lv' := [(6, .int (D p0.toNatClampNeg)), (5, .int 0), (0, .ref b), (1, .ref (A 0)), (2, .ref (B 0)), (3, .ref o), (4, .int (nI (4 * i)))]) hx hb dL_law_1003 hl (by decide) rfl (fun ls hl => ?_)
    refine lv_aload_n hx hb dL_law_1005 rfl (lv_at hl 4 rfl) ?_
    have hPc := hP.sub (ws' := (mW B cA L P G V Rp S Y O D 0 (nI h) wd (nI T) ft fl cl mo)) [9, 10, 11, 12, 13, 14, 15, 16, 17, 18] rfl
    have hDc := hD.sub (ws' := (mW B cA L P G V Rp S Y O D 0 (nI h) wd (nI T) ft fl cl mo)) [9, 10, 11, 12, 13, 14, 15, 16, 17, 18] (by decide) rfl
    have hFc := va_free (wc := mW B cA L P G V Rp S Y O D 0 (nI h) wd (nI T) ft fl cl mo) hD hS hA [9, 10, 11, 12, 13, 14, 15, 16, 17, 18] rfl
    have hKc := hK.sub (tys' := tyI cA) [0] rfl
    refine va_calli (va_runV (As := []) (rest := []) ⟨hx, hb, hml, hown, hts⟩ (c_X1_thrown l dG B cA H L P G V Rp S Y O D 0 (nI h) wd (nI T) ft fl cl mo) (cwV 0 hts gL_law_X1_thrown rfl rfl rfl (by decide +kernel) ⟨Nat.le_of_ble_eq_true rfl, Nat.le_of_ble_eq_true rfl⟩) ⟨fun a9 U g mk q => ⟨q.1, wPre_calling g mk a9 q.2⟩, va_recv hKc hPc (ci := 1) (q0 := 0) rfl rfl, fun U hU hW => ⟨rfl, wPre_of hKc hPc hDc hU hW⟩⟩ rfl rfl hl.1 rfl (lv_room (Nat.le_of_ble_eq_true rfl)) dL_law_1006 ⟨(by show _ ≤ 1049; omega), (by show _ ≤ 11971; omega)⟩) hS (fun q _ h => hFc q h) hFc (fun r u t H locs ht hvm hw hB hz1 hk1 hS => ?_)
    obtain ⟨hr3, hu3⟩ := hw
    subst hu3
    have hr3 := hr3.symm
    subst hr3
    obtain ⟨hP1, hK1, hD1⟩ := hB
    rw [ht] at hP1
    obtain ⟨hP, hD⟩ := va_join (wr := (xW A cA L P G V R N Y S wd (nI T) ft fl ce (nI h) mo) ++ [(o, .inl (cL, 1, .inr (.inl (vp_updL fo 0 (fHead (N p0.toNatClampNeg)).toInt64))))]) (w1 := (mW B cA L P G V Rp S Y O D 0 (nI h) wd (nI T) ft fl cl mo)) hP hD [9, 10, 11, 12, 13, 14, 15, 16, 17, 18] [0, 1, 2, 3, 4, 5, 6, 7, 8, 19] rfl rfl (by decide) (by decide) hk1 hFc hP1 hD1
    have hP : va_P dG vwCl ((xW A cA L P G V R N Y S wd (nI T) ft fl ce (nI h) mo) ++ (mW B cA L P G V Rp S Y O D 0 (nI h) wd (nI T) ft fl cl mo) ++ [(o, .inl (cL, 1, .inr (.inl (vp_updL fo 0 (fHead (N p0.toNatClampNeg)).toInt64))))]) H := hP.sub [0, 1, 2, 3, 4, 5, 6, 7, 8, 10, 11, 12, 13, 14, 15, 16, 17, 18, 19, 9] rfl
    have hD : va_D (aNew s.heap) ((xW A cA L P G V R N Y S wd (nI T) ft fl ce (nI h) mo) ++ (mW B cA L P G V Rp S Y O D 0 (nI h) wd (nI T) ft fl cl mo) ++ [(o, .inl (cL, 1, .inr (.inl (vp_updL fo 0 (fHead (N p0.toNatClampNeg)).toInt64))))]) := hD.sub [0, 1, 2, 3, 4, 5, 6, 7, 8, 10, 11, 12, 13, 14, 15, 16, 17, 18, 19, 9] (by decide) rfl
    refine lv_iload hx hb dL_law_1009 (lv_at hl 1 rfl) ?_
    refine lv_icmp_eq (tgt := 1016) hx hb dL_law_1011 (by decide) (fun _ => ?_) (fun h9 => absurd (by decide) h9)
    refine lv_iload hx hb dL_law_1016 (lv_at hl 1 rfl) ?_
    refine lv_if_ne (tgt := 1033) hx hb dL_law_1018 (by decide) (fun h9 => absurd (by decide) h9) (fun _ => ?_)
    refine lv_aload_n hx hb dL_law_1021 rfl (lv_at hl 5 rfl) ?_
    refine lv_iconst (v := 0) hx hb dL_law_1022 (by decide) ?_
    refine va_lald hx hb hK hP 19 1 rfl rfl (i := 0) (vp_in_nI (n := 0) (by omega) (by omega)) dL_law_1023 ?_
    refine lv_iload hx hb dL_law_1024 (lv_at hl 0 rfl) ?_
    refine lv_i2l hx hb dL_law_1026 rfl ?_
    refine W.lcmp hx hb dL_law_1027 ?_
    refine lv_topi (fun v9 e9 => ?_)
    have e9 := e9.trans (lgc_eq (eq_head I hk))
    subst e9
    refine lv_if_eq (tgt := 1033) hx hb dL_law_1028 (by decide) (fun _ => ?_) (fun h9 => absurd (by decide) h9)
    refine lv_goto (tgt := 1130) hx hb dL_law_1033 (by decide) ?_
    exact k L P G V R N Y S Rp O D T h wd ft fl ce cl 0 mo (vp_updL fo 0 (fHead (N p0.toNatClampNeg)).toInt64) H locs ls I hP hD hS (lv_sub hl [2, 3, 4, 5, 6] rfl)
  · have hPc := hP.sub (ws' := (xW A cA L P G V R N Y S wd (nI T) ft fl ce (nI h) mo) ++ ([(o, .inl (cL, 1, .inr (.inl fo)))])) [0, 1, 2, 3, 4, 5, 6, 7, 8, 19] rfl
    have hDc := hD.sub (ws' := (xW A cA L P G V R N Y S wd (nI T) ft fl ce (nI h) mo) ++ ([(o, .inl (cL, 1, .inr (.inl fo)))])) [0, 1, 2, 3, 4, 5, 6, 7, 8, 19] (by decide) rfl
    have hFc := va_free (wc := (xW A cA L P G V R N Y S wd (nI T) ft fl ce (nI h) mo) ++ ([(o, .inl (cL, 1, .inr (.inl fo)))])) hD hS hA [0, 1, 2, 3, 4, 5, 6, 7, 8, 19] rfl
    refine va_calli (vx_runSW (As := [.ref (A 0), .int p0, .ref o]) (rest := []) ⟨hx, hb, hml, hown, hts⟩ (c_L_head l hl0 dG a A o cA cL H L P G V R N Y S T h wd ft fl ce mo fo p0 I.1.1 I.1.2) (vx_cwSW 3 hts gL_law_L_head rfl rfl rfl (by decide +kernel) ⟨Nat.le_of_ble_eq_true rfl, Nat.le_of_ble_eq_true rfl⟩) ⟨fun a9 U g mk q => ⟨q.1, wPre_calling g mk a9 q.2.1, q.2.2.calling g mk a9⟩, fun U hU hW => ⟨rfl, wPre_of hK hPc hDc hU hW, hE.go hW hS hFc⟩⟩ rfl rfl hl.1 rfl (lv_room (Nat.le_of_ble_eq_true rfl)) dL_law_988 ⟨(by show _ ≤ 1049; omega), (by show _ ≤ 11971; omega)⟩) hS (fun q _ h => hFc q h) hFc (fun r u t H locs ht hvm hw hB hz1 hk1 hS => ?_)
    obtain ⟨hr1, hu0, hu1⟩ := hw
    have hu := hu1 hk
    subst hu
    have hr1 := hr1.symm
    subst hr1
    obtain ⟨hP1, hK1, hD1⟩ := hB
    rw [ht] at hP1
    obtain ⟨hP, hD⟩ := va_join (wr := (mW B cA L P G V Rp S Y O D th (nI h) wd (nI T) ft fl cl mo)) (w1 := (xW A cA L P G V R N Y S wd (nI T) ft fl ce (nI h) mo) ++ [(o, .inl (cL, 1, .inr (.inl fo)))]) hP hD [0, 1, 2, 3, 4, 5, 6, 7, 8, 19] [9, 10, 11, 12, 13, 14, 15, 16, 17, 18] rfl rfl (by decide) (by decide) hk1 hFc hP1 hD1
    have hP : va_P dG vwCl ((xW A cA L P G V R N Y S wd (nI T) ft fl ce (nI h) mo) ++ (mW B cA L P G V Rp S Y O D th (nI h) wd (nI T) ft fl cl mo) ++ [(o, .inl (cL, 1, .inr (.inl fo)))]) H := hP.sub [10, 11, 12, 13, 14, 15, 16, 17, 18, 0, 1, 2, 3, 4, 5, 6, 7, 8, 9, 19] rfl
    have hD : va_D (aNew s.heap) ((xW A cA L P G V R N Y S wd (nI T) ft fl ce (nI h) mo) ++ (mW B cA L P G V Rp S Y O D th (nI h) wd (nI T) ft fl cl mo) ++ [(o, .inl (cL, 1, .inr (.inl fo)))]) := hD.sub [10, 11, 12, 13, 14, 15, 16, 17, 18, 0, 1, 2, 3, 4, 5, 6, 7, 8, 9, 19] (by decide) rfl
    refine lv_istore (lv' := [(5, .int (kGone (nI h) p0)), (0, .ref b), (1, .ref (A 0)), (2, .ref (B 0)), (3, .ref o), (4, .int (nI (4 * i)))]) hx hb dL_law_991 hl (by decide) rfl (fun ls hl => ?_)
    refine lv_aload_n hx hb dL_law_993 rfl (lv_at hl 3 rfl) ?_
    refine lv_aload_n hx hb dL_law_994 rfl (lv_at hl 1 rfl) ?_
    refine lv_iload hx hb dL_law_995 (lv_at hl 5 rfl) ?_
    refine lv_iconst (v := 1) hx hb dL_law_997 (by decide) ?_
    refine lv_iadd hx hb dL_law_998 ?_
    refine lv_topi (fun v9 e9 => ?_)
    have e9 := e9.trans (nI_add (4 * i) 1)
    subst e9
    refine va_sld hx hb hX hbl hbA hS (vp_in_nI (by omega) (by omega)) dL_law_999 ?_
    refine lv_topi (fun v9 e9 => ?_)
    have e9 := (e9.trans hp0.symm).symm
    subst e9
    have hPc := hP.sub (ws' := (mW B cA L P G V Rp S Y O D th (nI h) wd (nI T) ft fl cl mo)) [9, 10, 11, 12, 13, 14, 15, 16, 17, 18] rfl
    have hDc := hD.sub (ws' := (mW B cA L P G V Rp S Y O D th (nI h) wd (nI T) ft fl cl mo)) [9, 10, 11, 12, 13, 14, 15, 16, 17, 18] (by decide) rfl
    have hFc := va_free (wc := mW B cA L P G V Rp S Y O D th (nI h) wd (nI T) ft fl cl mo) hD hS hA [9, 10, 11, 12, 13, 14, 15, 16, 17, 18] rfl
    have hKc := hK.sub (tys' := tyI cA) [0] rfl
    refine va_calli (va_runV (As := [.int p0]) (rest := []) ⟨hx, hb, hml, hown, hts⟩ (c_X1_head l dG B cA H L P G V Rp S Y O D th (nI h) wd (nI T) ft fl cl mo p0 (nIr (b := 500) I.1.2 (by omega))) (cwV 1 hts gL_law_X1_head rfl rfl rfl (by decide +kernel) ⟨Nat.le_of_ble_eq_true rfl, Nat.le_of_ble_eq_true rfl⟩) ⟨fun a9 U g mk q => ⟨q.1, wPre_calling g mk a9 q.2⟩, va_recv hKc hPc (ci := 1) (q0 := 0) rfl rfl, fun U hU hW => ⟨rfl, wPre_of hKc hPc hDc hU hW⟩⟩ rfl rfl hl.1 rfl (lv_room (Nat.le_of_ble_eq_true rfl)) dL_law_1000 ⟨(by show _ ≤ 1049; omega), (by show _ ≤ 11971; omega)⟩) hS (fun q _ h => hFc q h) hFc (fun r u t H locs ht hvm hw hB hz1 hk1 hS => ?_)
    obtain ⟨hr2, hu2⟩ := hw.2 hk
    subst hu2
    have hr2 := hr2.symm
    subst hr2
    obtain ⟨hP1, hK1, hD1⟩ := hB
    rw [ht] at hP1
    obtain ⟨hP, hD⟩ := va_join (wr := (xW A cA L P G V R N Y S wd (nI T) ft fl ce (nI h) mo) ++ [(o, .inl (cL, 1, .inr (.inl fo)))]) (w1 := (mW B cA L P G V Rp S Y O D (kGone (nI h) p0) (nI h) wd (nI T) ft fl cl mo)) hP hD [9, 10, 11, 12, 13, 14, 15, 16, 17, 18] [0, 1, 2, 3, 4, 5, 6, 7, 8, 19] rfl rfl (by decide) (by decide) hk1 hFc hP1 hD1
    have hP : va_P dG vwCl ((xW A cA L P G V R N Y S wd (nI T) ft fl ce (nI h) mo) ++ (mW B cA L P G V Rp S Y O D (kGone (nI h) p0) (nI h) wd (nI T) ft fl cl mo) ++ [(o, .inl (cL, 1, .inr (.inl fo)))]) H := hP.sub [0, 1, 2, 3, 4, 5, 6, 7, 8, 10, 11, 12, 13, 14, 15, 16, 17, 18, 19, 9] rfl
    have hD : va_D (aNew s.heap) ((xW A cA L P G V R N Y S wd (nI T) ft fl ce (nI h) mo) ++ (mW B cA L P G V Rp S Y O D (kGone (nI h) p0) (nI h) wd (nI T) ft fl cl mo) ++ [(o, .inl (cL, 1, .inr (.inl fo)))]) := hD.sub [0, 1, 2, 3, 4, 5, 6, 7, 8, 10, 11, 12, 13, 14, 15, 16, 17, 18, 19, 9] (by decide) rfl
    refine lv_istore (lv' := [(6, .int 0), (5, .int (kGone (nI h) p0)), (0, .ref b), (1, .ref (A 0)), (2, .ref (B 0)), (3, .ref o), (4, .int (nI (4 * i)))]) hx hb dL_law_1003 hl (by decide) rfl (fun ls hl => ?_)
    refine lv_aload_n hx hb dL_law_1005 rfl (lv_at hl 4 rfl) ?_
    have hPc := hP.sub (ws' := (mW B cA L P G V Rp S Y O D (kGone (nI h) p0) (nI h) wd (nI T) ft fl cl mo)) [9, 10, 11, 12, 13, 14, 15, 16, 17, 18] rfl
    have hDc := hD.sub (ws' := (mW B cA L P G V Rp S Y O D (kGone (nI h) p0) (nI h) wd (nI T) ft fl cl mo)) [9, 10, 11, 12, 13, 14, 15, 16, 17, 18] (by decide) rfl
    have hFc := va_free (wc := mW B cA L P G V Rp S Y O D (kGone (nI h) p0) (nI h) wd (nI T) ft fl cl mo) hD hS hA [9, 10, 11, 12, 13, 14, 15, 16, 17, 18] rfl
    have hKc := hK.sub (tys' := tyI cA) [0] rfl
    refine va_calli (va_runV (As := []) (rest := []) ⟨hx, hb, hml, hown, hts⟩ (c_X1_thrown l dG B cA H L P G V Rp S Y O D (kGone (nI h) p0) (nI h) wd (nI T) ft fl cl mo) (cwV 0 hts gL_law_X1_thrown rfl rfl rfl (by decide +kernel) ⟨Nat.le_of_ble_eq_true rfl, Nat.le_of_ble_eq_true rfl⟩) ⟨fun a9 U g mk q => ⟨q.1, wPre_calling g mk a9 q.2⟩, va_recv hKc hPc (ci := 1) (q0 := 0) rfl rfl, fun U hU hW => ⟨rfl, wPre_of hKc hPc hDc hU hW⟩⟩ rfl rfl hl.1 rfl (lv_room (Nat.le_of_ble_eq_true rfl)) dL_law_1006 ⟨(by show _ ≤ 1049; omega), (by show _ ≤ 11971; omega)⟩) hS (fun q _ h => hFc q h) hFc (fun r u t H locs ht hvm hw hB hz1 hk1 hS => ?_)
    obtain ⟨hr3, hu3⟩ := hw
    subst hu3
    have hr3 := hr3.symm
    subst hr3
    obtain ⟨hP1, hK1, hD1⟩ := hB
    rw [ht] at hP1
    obtain ⟨hP, hD⟩ := va_join (wr := (xW A cA L P G V R N Y S wd (nI T) ft fl ce (nI h) mo) ++ [(o, .inl (cL, 1, .inr (.inl fo)))]) (w1 := (mW B cA L P G V Rp S Y O D (kGone (nI h) p0) (nI h) wd (nI T) ft fl cl mo)) hP hD [9, 10, 11, 12, 13, 14, 15, 16, 17, 18] [0, 1, 2, 3, 4, 5, 6, 7, 8, 19] rfl rfl (by decide) (by decide) hk1 hFc hP1 hD1
    have hP : va_P dG vwCl ((xW A cA L P G V R N Y S wd (nI T) ft fl ce (nI h) mo) ++ (mW B cA L P G V Rp S Y O D (kGone (nI h) p0) (nI h) wd (nI T) ft fl cl mo) ++ [(o, .inl (cL, 1, .inr (.inl fo)))]) H := hP.sub [0, 1, 2, 3, 4, 5, 6, 7, 8, 10, 11, 12, 13, 14, 15, 16, 17, 18, 19, 9] rfl
    have hD : va_D (aNew s.heap) ((xW A cA L P G V R N Y S wd (nI T) ft fl ce (nI h) mo) ++ (mW B cA L P G V Rp S Y O D (kGone (nI h) p0) (nI h) wd (nI T) ft fl cl mo) ++ [(o, .inl (cL, 1, .inr (.inl fo)))]) := hD.sub [0, 1, 2, 3, 4, 5, 6, 7, 8, 10, 11, 12, 13, 14, 15, 16, 17, 18, 19, 9] (by decide) rfl
    refine lv_iload hx hb dL_law_1009 (lv_at hl 1 rfl) ?_
    refine lv_icmp_eq (tgt := 1016) hx hb dL_law_1011 (by decide) (fun _ => ?_) (fun h9 => absurd rfl h9)
    refine lv_iload hx hb dL_law_1016 (lv_at hl 1 rfl) ?_
    refine lv_if_ne (tgt := 1033) hx hb dL_law_1018 (by decide) (fun _ => ?_) (fun h9 => absurd h9 hk)
    refine lv_goto (tgt := 1130) hx hb dL_law_1033 (by decide) ?_
    exact k L P G V R N Y S Rp O D T h wd ft fl ce cl (kGone (nI h) p0) mo fo H locs ls I hP hD hS (lv_sub hl [2, 3, 4, 5, 6] rfl)
set_option maxHeartbeats 1000000 in
set_option maxRecDepth 100000 in
theorem case_about {p : Program} {l : Launch} {e : Env} {s : State} {m : MethodId} {below : List Frame} {meth : Method} {c : Code} {b Ln : Nat} {xs : Nat → Int32} {dG : va_G} {a A B : Nat → Nat} {o : Nat} {cA cL : ClassId} (hl0 : l.stackTraces = false) (C0 : lw_At p s m meth c b Ln xs) (hE : tgE a (aNew s.heap) s s.heap) (hK : va_K dG vwCl (tyL cA cL) s) (hLn : Ln ≤ 2048) {i : Nat} (hi : 4 * i + 4 ≤ Ln) (k : lwAt p l e s m below meth c b dG A B o cA cL 1130 i (20 + i + 1) (3749 + 6 * i + 6)) : lwAt p l e s m below meth c b dG A B o cA cL 1036 i (20 + i) (3749 + 6 * i) := by
  obtain ⟨hx, hb, hr, hml, hown, hts0, hX, hbl, hlocks, hgv⟩ := C0
  have hts : ∀ w ∈ wsL_law, w.before #[Value.ref b] s = true := fun w h => hts0 w (wsL_law_in w h)
  have hA : ∀ q : Nat, s.heap.size ≤ q → aNew s.heap q := fun _ h => h
  have hbA : ¬ aNew s.heap b := Nat.not_le.mpr hbl
  intro L P G V R N Y S Rp O D T h wd ft fl ce cl th mo fo H locs ls I hP hD hS hl
  obtain ⟨p0, hp0⟩ : ∃ z, z = xs (nI (4 * i + 1)).toNatClampNeg := ⟨_, rfl⟩
  obtain ⟨p1, hp1⟩ : ∃ z, z = xs (nI (4 * i + 2)).toNatClampNeg := ⟨_, rfl⟩
  refine lv_aload_n hx hb dL_law_1036 rfl (lv_at hl 1 rfl) ?_
  refine lv_aload_n hx hb dL_law_1037 rfl (lv_at hl 0 rfl) ?_
  refine lv_iload hx hb dL_law_1038 (lv_at hl 4 rfl) ?_
  refine lv_iconst (v := 1) hx hb dL_law_1040 (by decide) ?_
  refine lv_iadd hx hb dL_law_1041 ?_
  refine lv_topi (fun v9 e9 => ?_)
  have e9 := e9.trans (nI_add (4 * i) 1)
  subst e9
  refine va_sld hx hb hX hbl hbA hS (vp_in_nI (by omega) (by omega)) dL_law_1042 ?_
  refine lv_topi (fun v9 e9 => ?_)
  have e9 := (e9.trans hp0.symm).symm
  subst e9
  refine lv_aload_n hx hb dL_law_1043 rfl (lv_at hl 0 rfl) ?_
  refine lv_iload hx hb dL_law_1044 (lv_at hl 4 rfl) ?_
  refine lv_iconst (v := 2) hx hb dL_law_1046 (by decide) ?_
  refine lv_iadd hx hb dL_law_1047 ?_
  refine lv_topi (fun v9 e9 => ?_)
  have e9 := e9.trans (nI_add (4 * i) 2)
  subst e9
  refine va_sld hx hb hX hbl hbA hS (vp_in_nI (by omega) (by omega)) dL_law_1048 ?_
  refine lv_topi (fun v9 e9 => ?_)
  have e9 := (e9.trans hp1.symm).symm
  subst e9
  refine lv_aload_n hx hb dL_law_1049 rfl (lv_at hl 3 rfl) ?_
  by_cases hk : kAbout (nI T) p0 p1 = 0
  · have hPc := hP.sub (ws' := (xW A cA L P G V R N Y S wd (nI T) ft fl ce (nI h) mo) ++ ([(o, .inl (cL, 1, .inr (.inl fo)))])) [0, 1, 2, 3, 4, 5, 6, 7, 8, 19] rfl
    have hDc := hD.sub (ws' := (xW A cA L P G V R N Y S wd (nI T) ft fl ce (nI h) mo) ++ ([(o, .inl (cL, 1, .inr (.inl fo)))])) [0, 1, 2, 3, 4, 5, 6, 7, 8, 19] (by decide) rfl
    have hFc := va_free (wc := (xW A cA L P G V R N Y S wd (nI T) ft fl ce (nI h) mo) ++ ([(o, .inl (cL, 1, .inr (.inl fo)))])) hD hS hA [0, 1, 2, 3, 4, 5, 6, 7, 8, 19] rfl
    refine va_calli (vx_runSW (As := [.ref (A 0), .int p0, .int p1, .ref o]) (rest := []) ⟨hx, hb, hml, hown, hts⟩ (c_L_about l hl0 dG a A o cA cL H L P G V R N Y S T h wd ft fl ce mo fo p0 p1 I.1.1 I.1.2) (vx_cwSW 4 hts gL_law_L_about rfl rfl rfl (by decide +kernel) ⟨Nat.le_of_ble_eq_true rfl, Nat.le_of_ble_eq_true rfl⟩) ⟨fun a9 U g mk q => ⟨q.1, wPre_calling g mk a9 q.2.1, q.2.2.calling g mk a9⟩, fun U hU hW => ⟨rfl, wPre_of hK hPc hDc hU hW, hE.go hW hS hFc⟩⟩ rfl rfl hl.1 rfl (lv_room (Nat.le_of_ble_eq_true rfl)) dL_law_1050 ⟨(by show _ ≤ 1049; omega), (by show _ ≤ 11971; omega)⟩) hS (fun q _ h => hFc q h) hFc (fun r u t H locs ht hvm hw hB hz1 hk1 hS => ?_)
    obtain ⟨hr1, hu0, hu1⟩ := hw
    have hu := hu0 hk
    subst hu
    have hr1 := (hr1.trans hk).symm
    subst hr1
    obtain ⟨hP1, hK1, hD1⟩ := hB
    rw [ht] at hP1
    obtain ⟨hP, hD⟩ := va_join (wr := (mW B cA L P G V Rp S Y O D th (nI h) wd (nI T) ft fl cl mo)) (w1 := (xW A cA L P G V R N Y S wd (nI T) ft fl ce (nI h) mo) ++ [(o, .inl (cL, 1, .inr (.inl (vp_updL fo 0 ((if p1 = 0 then G p0.toNatClampNeg else if p1 = 1 then V p0.toNatClampNeg else if 0 < R p0.toNatClampNeg - nI h then R p0.toNatClampNeg - nI h else 0)).toInt64))))]) hP hD [0, 1, 2, 3, 4, 5, 6, 7, 8, 19] [9, 10, 11, 12, 13, 14, 15, 16, 17, 18] rfl rfl (by decide) (by decide) hk1 hFc hP1 hD1
    have hP : va_P dG vwCl ((xW A cA L P G V R N Y S wd (nI T) ft fl ce (nI h) mo) ++ (mW B cA L P G V Rp S Y O D th (nI h) wd (nI T) ft fl cl mo) ++ [(o, .inl (cL, 1, .inr (.inl (vp_updL fo 0 ((if p1 = 0 then G p0.toNatClampNeg else if p1 = 1 then V p0.toNatClampNeg else if 0 < R p0.toNatClampNeg - nI h then R p0.toNatClampNeg - nI h else 0)).toInt64))))]) H := hP.sub [10, 11, 12, 13, 14, 15, 16, 17, 18, 0, 1, 2, 3, 4, 5, 6, 7, 8, 9, 19] rfl
    have hD : va_D (aNew s.heap) ((xW A cA L P G V R N Y S wd (nI T) ft fl ce (nI h) mo) ++ (mW B cA L P G V Rp S Y O D th (nI h) wd (nI T) ft fl cl mo) ++ [(o, .inl (cL, 1, .inr (.inl (vp_updL fo 0 ((if p1 = 0 then G p0.toNatClampNeg else if p1 = 1 then V p0.toNatClampNeg else if 0 < R p0.toNatClampNeg - nI h then R p0.toNatClampNeg - nI h else 0)).toInt64))))]) := hD.sub [10, 11, 12, 13, 14, 15, 16, 17, 18, 0, 1, 2, 3, 4, 5, 6, 7, 8, 9, 19] (by decide) rfl
    refine lv_istore (lv' := [(5, .int 0), (0, .ref b), (1, .ref (A 0)), (2, .ref (B 0)), (3, .ref o), (4, .int (nI (4 * i)))]) hx hb dL_law_1053 hl (by decide) rfl (fun ls hl => ?_)
    refine lv_aload_n hx hb dL_law_1055 rfl (lv_at hl 3 rfl) ?_
    refine lv_aload_n hx hb dL_law_1056 rfl (lv_at hl 1 rfl) ?_
    refine lv_iload hx hb dL_law_1057 (lv_at hl 5 rfl) ?_
    refine lv_iconst (v := 1) hx hb dL_law_1059 (by decide) ?_
    refine lv_iadd hx hb dL_law_1060 ?_
    refine lv_topi (fun v9 e9 => ?_)
    have e9 := e9.trans (nI_add (4 * i) 1)
    subst e9
    refine va_sld hx hb hX hbl hbA hS (vp_in_nI (by omega) (by omega)) dL_law_1061 ?_
    refine lv_topi (fun v9 e9 => ?_)
    have e9 := (e9.trans hp0.symm).symm
    subst e9
    refine lv_aload_n hx hb dL_law_1062 rfl (lv_at hl 1 rfl) ?_
    refine lv_iload hx hb dL_law_1063 (lv_at hl 5 rfl) ?_
    refine lv_iconst (v := 2) hx hb dL_law_1065 (by decide) ?_
    refine lv_iadd hx hb dL_law_1066 ?_
    refine lv_topi (fun v9 e9 => ?_)
    have e9 := e9.trans (nI_add (4 * i) 2)
    subst e9
    refine va_sld hx hb hX hbl hbA hS (vp_in_nI (by omega) (by omega)) dL_law_1067 ?_
    refine lv_topi (fun v9 e9 => ?_)
    have e9 := (e9.trans hp1.symm).symm
    subst e9
    have hPc := hP.sub (ws' := (mW B cA L P G V Rp S Y O D th (nI h) wd (nI T) ft fl cl mo)) [9, 10, 11, 12, 13, 14, 15, 16, 17, 18] rfl
    have hDc := hD.sub (ws' := (mW B cA L P G V Rp S Y O D th (nI h) wd (nI T) ft fl cl mo)) [9, 10, 11, 12, 13, 14, 15, 16, 17, 18] (by decide) rfl
    have hFc := va_free (wc := mW B cA L P G V Rp S Y O D th (nI h) wd (nI T) ft fl cl mo) hD hS hA [9, 10, 11, 12, 13, 14, 15, 16, 17, 18] rfl
    have hKc := hK.sub (tys' := tyI cA) [0] rfl
    refine va_calli (va_runV (As := [.int p0, .int p1]) (rest := []) ⟨hx, hb, hml, hown, hts⟩ (c_X1_about l dG B cA H L P G V Rp S Y O D th (nI h) wd (nI T) ft fl cl mo p0 p1 (nIr (b := 4) I.1.1 (by omega))) (cwV 2 hts gL_law_X1_about rfl rfl rfl (by decide +kernel) ⟨Nat.le_of_ble_eq_true rfl, Nat.le_of_ble_eq_true rfl⟩) ⟨fun a9 U g mk q => ⟨q.1, wPre_calling g mk a9 q.2⟩, va_recv hKc hPc (ci := 1) (q0 := 0) rfl rfl, fun U hU hW => ⟨rfl, wPre_of hKc hPc hDc hU hW⟩⟩ rfl rfl hl.1 rfl (lv_room (Nat.le_of_ble_eq_true rfl)) dL_law_1068 ⟨(by show _ ≤ 1049; omega), (by show _ ≤ 11971; omega)⟩) hS (fun q _ h => hFc q h) hFc (fun r u t H locs ht hvm hw hB hz1 hk1 hS => ?_)
    obtain ⟨hr2, hu2⟩ := hw.1 hk
    subst hu2
    have hr2 := hr2.symm
    subst hr2
    obtain ⟨hP1, hK1, hD1⟩ := hB
    rw [ht] at hP1
    obtain ⟨hP, hD⟩ := va_join (wr := (xW A cA L P G V R N Y S wd (nI T) ft fl ce (nI h) mo) ++ [(o, .inl (cL, 1, .inr (.inl (vp_updL fo 0 ((if p1 = 0 then G p0.toNatClampNeg else if p1 = 1 then V p0.toNatClampNeg else if 0 < R p0.toNatClampNeg - nI h then R p0.toNatClampNeg - nI h else 0)).toInt64))))]) (w1 := (mW B cA L P G V Rp S Y O D 0 (nI h) wd (nI T) ft fl cl mo)) hP hD [9, 10, 11, 12, 13, 14, 15, 16, 17, 18] [0, 1, 2, 3, 4, 5, 6, 7, 8, 19] rfl rfl (by decide) (by decide) hk1 hFc hP1 hD1
    have hP : va_P dG vwCl ((xW A cA L P G V R N Y S wd (nI T) ft fl ce (nI h) mo) ++ (mW B cA L P G V Rp S Y O D 0 (nI h) wd (nI T) ft fl cl mo) ++ [(o, .inl (cL, 1, .inr (.inl (vp_updL fo 0 ((if p1 = 0 then G p0.toNatClampNeg else if p1 = 1 then V p0.toNatClampNeg else if 0 < R p0.toNatClampNeg - nI h then R p0.toNatClampNeg - nI h else 0)).toInt64))))]) H := hP.sub [0, 1, 2, 3, 4, 5, 6, 7, 8, 10, 11, 12, 13, 14, 15, 16, 17, 18, 19, 9] rfl
    have hD : va_D (aNew s.heap) ((xW A cA L P G V R N Y S wd (nI T) ft fl ce (nI h) mo) ++ (mW B cA L P G V Rp S Y O D 0 (nI h) wd (nI T) ft fl cl mo) ++ [(o, .inl (cL, 1, .inr (.inl (vp_updL fo 0 ((if p1 = 0 then G p0.toNatClampNeg else if p1 = 1 then V p0.toNatClampNeg else if 0 < R p0.toNatClampNeg - nI h then R p0.toNatClampNeg - nI h else 0)).toInt64))))]) := hD.sub [0, 1, 2, 3, 4, 5, 6, 7, 8, 10, 11, 12, 13, 14, 15, 16, 17, 18, 19, 9] (by decide) rfl
    refine lv_istore (lv' := [(6, .int (if p1 = 0 then G p0.toNatClampNeg else if p1 = 1 then V p0.toNatClampNeg else Rp p0.toNatClampNeg)), (5, .int 0), (0, .ref b), (1, .ref (A 0)), (2, .ref (B 0)), (3, .ref o), (4, .int (nI (4 * i)))]) hx hb dL_law_1071 hl (by decide) rfl (fun ls hl => ?_)
    refine lv_aload_n hx hb dL_law_1073 rfl (lv_at hl 4 rfl) ?_
    have hPc := hP.sub (ws' := (mW B cA L P G V Rp S Y O D 0 (nI h) wd (nI T) ft fl cl mo)) [9, 10, 11, 12, 13, 14, 15, 16, 17, 18] rfl
    have hDc := hD.sub (ws' := (mW B cA L P G V Rp S Y O D 0 (nI h) wd (nI T) ft fl cl mo)) [9, 10, 11, 12, 13, 14, 15, 16, 17, 18] (by decide) rfl
    have hFc := va_free (wc := mW B cA L P G V Rp S Y O D 0 (nI h) wd (nI T) ft fl cl mo) hD hS hA [9, 10, 11, 12, 13, 14, 15, 16, 17, 18] rfl
    have hKc := hK.sub (tys' := tyI cA) [0] rfl
    refine va_calli (va_runV (As := []) (rest := []) ⟨hx, hb, hml, hown, hts⟩ (c_X1_thrown l dG B cA H L P G V Rp S Y O D 0 (nI h) wd (nI T) ft fl cl mo) (cwV 0 hts gL_law_X1_thrown rfl rfl rfl (by decide +kernel) ⟨Nat.le_of_ble_eq_true rfl, Nat.le_of_ble_eq_true rfl⟩) ⟨fun a9 U g mk q => ⟨q.1, wPre_calling g mk a9 q.2⟩, va_recv hKc hPc (ci := 1) (q0 := 0) rfl rfl, fun U hU hW => ⟨rfl, wPre_of hKc hPc hDc hU hW⟩⟩ rfl rfl hl.1 rfl (lv_room (Nat.le_of_ble_eq_true rfl)) dL_law_1074 ⟨(by show _ ≤ 1049; omega), (by show _ ≤ 11971; omega)⟩) hS (fun q _ h => hFc q h) hFc (fun r u t H locs ht hvm hw hB hz1 hk1 hS => ?_)
    obtain ⟨hr3, hu3⟩ := hw
    subst hu3
    have hr3 := hr3.symm
    subst hr3
    obtain ⟨hP1, hK1, hD1⟩ := hB
    rw [ht] at hP1
    obtain ⟨hP, hD⟩ := va_join (wr := (xW A cA L P G V R N Y S wd (nI T) ft fl ce (nI h) mo) ++ [(o, .inl (cL, 1, .inr (.inl (vp_updL fo 0 ((if p1 = 0 then G p0.toNatClampNeg else if p1 = 1 then V p0.toNatClampNeg else if 0 < R p0.toNatClampNeg - nI h then R p0.toNatClampNeg - nI h else 0)).toInt64))))]) (w1 := (mW B cA L P G V Rp S Y O D 0 (nI h) wd (nI T) ft fl cl mo)) hP hD [9, 10, 11, 12, 13, 14, 15, 16, 17, 18] [0, 1, 2, 3, 4, 5, 6, 7, 8, 19] rfl rfl (by decide) (by decide) hk1 hFc hP1 hD1
    have hP : va_P dG vwCl ((xW A cA L P G V R N Y S wd (nI T) ft fl ce (nI h) mo) ++ (mW B cA L P G V Rp S Y O D 0 (nI h) wd (nI T) ft fl cl mo) ++ [(o, .inl (cL, 1, .inr (.inl (vp_updL fo 0 ((if p1 = 0 then G p0.toNatClampNeg else if p1 = 1 then V p0.toNatClampNeg else if 0 < R p0.toNatClampNeg - nI h then R p0.toNatClampNeg - nI h else 0)).toInt64))))]) H := hP.sub [0, 1, 2, 3, 4, 5, 6, 7, 8, 10, 11, 12, 13, 14, 15, 16, 17, 18, 19, 9] rfl
    have hD : va_D (aNew s.heap) ((xW A cA L P G V R N Y S wd (nI T) ft fl ce (nI h) mo) ++ (mW B cA L P G V Rp S Y O D 0 (nI h) wd (nI T) ft fl cl mo) ++ [(o, .inl (cL, 1, .inr (.inl (vp_updL fo 0 ((if p1 = 0 then G p0.toNatClampNeg else if p1 = 1 then V p0.toNatClampNeg else if 0 < R p0.toNatClampNeg - nI h then R p0.toNatClampNeg - nI h else 0)).toInt64))))]) := hD.sub [0, 1, 2, 3, 4, 5, 6, 7, 8, 10, 11, 12, 13, 14, 15, 16, 17, 18, 19, 9] (by decide) rfl
    refine lv_iload hx hb dL_law_1077 (lv_at hl 1 rfl) ?_
    refine lv_icmp_eq (tgt := 1084) hx hb dL_law_1079 (by decide) (fun _ => ?_) (fun h9 => absurd (by decide) h9)
    refine lv_iload hx hb dL_law_1084 (lv_at hl 1 rfl) ?_
    refine lv_if_ne (tgt := 1101) hx hb dL_law_1086 (by decide) (fun h9 => absurd (by decide) h9) (fun _ => ?_)
    refine lv_aload_n hx hb dL_law_1089 rfl (lv_at hl 5 rfl) ?_
    refine lv_iconst (v := 0) hx hb dL_law_1090 (by decide) ?_
    refine va_lald hx hb hK hP 19 1 rfl rfl (i := 0) (vp_in_nI (n := 0) (by omega) (by omega)) dL_law_1091 ?_
    refine lv_iload hx hb dL_law_1092 (lv_at hl 0 rfl) ?_
    refine lv_i2l hx hb dL_law_1094 rfl ?_
    refine W.lcmp hx hb dL_law_1095 ?_
    refine lv_topi (fun v9 e9 => ?_)
    have e9 := e9.trans (lgc_eq (eq_about I p0 p1))
    subst e9
    refine lv_if_eq (tgt := 1101) hx hb dL_law_1096 (by decide) (fun _ => ?_) (fun h9 => absurd (by decide) h9)
    refine lv_goto (tgt := 1130) hx hb dL_law_1101 (by decide) ?_
    exact k L P G V R N Y S Rp O D T h wd ft fl ce cl 0 mo (vp_updL fo 0 ((if p1 = 0 then G p0.toNatClampNeg else if p1 = 1 then V p0.toNatClampNeg else if 0 < R p0.toNatClampNeg - nI h then R p0.toNatClampNeg - nI h else 0)).toInt64) H locs ls I hP hD hS (lv_sub hl [2, 3, 4, 5, 6] rfl)
  · have hPc := hP.sub (ws' := (xW A cA L P G V R N Y S wd (nI T) ft fl ce (nI h) mo) ++ ([(o, .inl (cL, 1, .inr (.inl fo)))])) [0, 1, 2, 3, 4, 5, 6, 7, 8, 19] rfl
    have hDc := hD.sub (ws' := (xW A cA L P G V R N Y S wd (nI T) ft fl ce (nI h) mo) ++ ([(o, .inl (cL, 1, .inr (.inl fo)))])) [0, 1, 2, 3, 4, 5, 6, 7, 8, 19] (by decide) rfl
    have hFc := va_free (wc := (xW A cA L P G V R N Y S wd (nI T) ft fl ce (nI h) mo) ++ ([(o, .inl (cL, 1, .inr (.inl fo)))])) hD hS hA [0, 1, 2, 3, 4, 5, 6, 7, 8, 19] rfl
    refine va_calli (vx_runSW (As := [.ref (A 0), .int p0, .int p1, .ref o]) (rest := []) ⟨hx, hb, hml, hown, hts⟩ (c_L_about l hl0 dG a A o cA cL H L P G V R N Y S T h wd ft fl ce mo fo p0 p1 I.1.1 I.1.2) (vx_cwSW 4 hts gL_law_L_about rfl rfl rfl (by decide +kernel) ⟨Nat.le_of_ble_eq_true rfl, Nat.le_of_ble_eq_true rfl⟩) ⟨fun a9 U g mk q => ⟨q.1, wPre_calling g mk a9 q.2.1, q.2.2.calling g mk a9⟩, fun U hU hW => ⟨rfl, wPre_of hK hPc hDc hU hW, hE.go hW hS hFc⟩⟩ rfl rfl hl.1 rfl (lv_room (Nat.le_of_ble_eq_true rfl)) dL_law_1050 ⟨(by show _ ≤ 1049; omega), (by show _ ≤ 11971; omega)⟩) hS (fun q _ h => hFc q h) hFc (fun r u t H locs ht hvm hw hB hz1 hk1 hS => ?_)
    obtain ⟨hr1, hu0, hu1⟩ := hw
    have hu := hu1 hk
    subst hu
    have hr1 := hr1.symm
    subst hr1
    obtain ⟨hP1, hK1, hD1⟩ := hB
    rw [ht] at hP1
    obtain ⟨hP, hD⟩ := va_join (wr := (mW B cA L P G V Rp S Y O D th (nI h) wd (nI T) ft fl cl mo)) (w1 := (xW A cA L P G V R N Y S wd (nI T) ft fl ce (nI h) mo) ++ [(o, .inl (cL, 1, .inr (.inl fo)))]) hP hD [0, 1, 2, 3, 4, 5, 6, 7, 8, 19] [9, 10, 11, 12, 13, 14, 15, 16, 17, 18] rfl rfl (by decide) (by decide) hk1 hFc hP1 hD1
    have hP : va_P dG vwCl ((xW A cA L P G V R N Y S wd (nI T) ft fl ce (nI h) mo) ++ (mW B cA L P G V Rp S Y O D th (nI h) wd (nI T) ft fl cl mo) ++ [(o, .inl (cL, 1, .inr (.inl fo)))]) H := hP.sub [10, 11, 12, 13, 14, 15, 16, 17, 18, 0, 1, 2, 3, 4, 5, 6, 7, 8, 9, 19] rfl
    have hD : va_D (aNew s.heap) ((xW A cA L P G V R N Y S wd (nI T) ft fl ce (nI h) mo) ++ (mW B cA L P G V Rp S Y O D th (nI h) wd (nI T) ft fl cl mo) ++ [(o, .inl (cL, 1, .inr (.inl fo)))]) := hD.sub [10, 11, 12, 13, 14, 15, 16, 17, 18, 0, 1, 2, 3, 4, 5, 6, 7, 8, 9, 19] (by decide) rfl
    refine lv_istore (lv' := [(5, .int (kAbout (nI T) p0 p1)), (0, .ref b), (1, .ref (A 0)), (2, .ref (B 0)), (3, .ref o), (4, .int (nI (4 * i)))]) hx hb dL_law_1053 hl (by decide) rfl (fun ls hl => ?_)
    refine lv_aload_n hx hb dL_law_1055 rfl (lv_at hl 3 rfl) ?_
    refine lv_aload_n hx hb dL_law_1056 rfl (lv_at hl 1 rfl) ?_
    refine lv_iload hx hb dL_law_1057 (lv_at hl 5 rfl) ?_
    refine lv_iconst (v := 1) hx hb dL_law_1059 (by decide) ?_
    refine lv_iadd hx hb dL_law_1060 ?_
    refine lv_topi (fun v9 e9 => ?_)
    have e9 := e9.trans (nI_add (4 * i) 1)
    subst e9
    refine va_sld hx hb hX hbl hbA hS (vp_in_nI (by omega) (by omega)) dL_law_1061 ?_
    refine lv_topi (fun v9 e9 => ?_)
    have e9 := (e9.trans hp0.symm).symm
    subst e9
    refine lv_aload_n hx hb dL_law_1062 rfl (lv_at hl 1 rfl) ?_
    refine lv_iload hx hb dL_law_1063 (lv_at hl 5 rfl) ?_
    refine lv_iconst (v := 2) hx hb dL_law_1065 (by decide) ?_
    refine lv_iadd hx hb dL_law_1066 ?_
    refine lv_topi (fun v9 e9 => ?_)
    have e9 := e9.trans (nI_add (4 * i) 2)
    subst e9
    refine va_sld hx hb hX hbl hbA hS (vp_in_nI (by omega) (by omega)) dL_law_1067 ?_
    refine lv_topi (fun v9 e9 => ?_)
    have e9 := (e9.trans hp1.symm).symm
    subst e9
    have hPc := hP.sub (ws' := (mW B cA L P G V Rp S Y O D th (nI h) wd (nI T) ft fl cl mo)) [9, 10, 11, 12, 13, 14, 15, 16, 17, 18] rfl
    have hDc := hD.sub (ws' := (mW B cA L P G V Rp S Y O D th (nI h) wd (nI T) ft fl cl mo)) [9, 10, 11, 12, 13, 14, 15, 16, 17, 18] (by decide) rfl
    have hFc := va_free (wc := mW B cA L P G V Rp S Y O D th (nI h) wd (nI T) ft fl cl mo) hD hS hA [9, 10, 11, 12, 13, 14, 15, 16, 17, 18] rfl
    have hKc := hK.sub (tys' := tyI cA) [0] rfl
    refine va_calli (va_runV (As := [.int p0, .int p1]) (rest := []) ⟨hx, hb, hml, hown, hts⟩ (c_X1_about l dG B cA H L P G V Rp S Y O D th (nI h) wd (nI T) ft fl cl mo p0 p1 (nIr (b := 4) I.1.1 (by omega))) (cwV 2 hts gL_law_X1_about rfl rfl rfl (by decide +kernel) ⟨Nat.le_of_ble_eq_true rfl, Nat.le_of_ble_eq_true rfl⟩) ⟨fun a9 U g mk q => ⟨q.1, wPre_calling g mk a9 q.2⟩, va_recv hKc hPc (ci := 1) (q0 := 0) rfl rfl, fun U hU hW => ⟨rfl, wPre_of hKc hPc hDc hU hW⟩⟩ rfl rfl hl.1 rfl (lv_room (Nat.le_of_ble_eq_true rfl)) dL_law_1068 ⟨(by show _ ≤ 1049; omega), (by show _ ≤ 11971; omega)⟩) hS (fun q _ h => hFc q h) hFc (fun r u t H locs ht hvm hw hB hz1 hk1 hS => ?_)
    obtain ⟨hr2, hu2⟩ := hw.2 hk
    subst hu2
    have hr2 := hr2.symm
    subst hr2
    obtain ⟨hP1, hK1, hD1⟩ := hB
    rw [ht] at hP1
    obtain ⟨hP, hD⟩ := va_join (wr := (xW A cA L P G V R N Y S wd (nI T) ft fl ce (nI h) mo) ++ [(o, .inl (cL, 1, .inr (.inl fo)))]) (w1 := (mW B cA L P G V Rp S Y O D (kAbout (nI T) p0 p1) (nI h) wd (nI T) ft fl cl mo)) hP hD [9, 10, 11, 12, 13, 14, 15, 16, 17, 18] [0, 1, 2, 3, 4, 5, 6, 7, 8, 19] rfl rfl (by decide) (by decide) hk1 hFc hP1 hD1
    have hP : va_P dG vwCl ((xW A cA L P G V R N Y S wd (nI T) ft fl ce (nI h) mo) ++ (mW B cA L P G V Rp S Y O D (kAbout (nI T) p0 p1) (nI h) wd (nI T) ft fl cl mo) ++ [(o, .inl (cL, 1, .inr (.inl fo)))]) H := hP.sub [0, 1, 2, 3, 4, 5, 6, 7, 8, 10, 11, 12, 13, 14, 15, 16, 17, 18, 19, 9] rfl
    have hD : va_D (aNew s.heap) ((xW A cA L P G V R N Y S wd (nI T) ft fl ce (nI h) mo) ++ (mW B cA L P G V Rp S Y O D (kAbout (nI T) p0 p1) (nI h) wd (nI T) ft fl cl mo) ++ [(o, .inl (cL, 1, .inr (.inl fo)))]) := hD.sub [0, 1, 2, 3, 4, 5, 6, 7, 8, 10, 11, 12, 13, 14, 15, 16, 17, 18, 19, 9] (by decide) rfl
    refine lv_istore (lv' := [(6, .int 0), (5, .int (kAbout (nI T) p0 p1)), (0, .ref b), (1, .ref (A 0)), (2, .ref (B 0)), (3, .ref o), (4, .int (nI (4 * i)))]) hx hb dL_law_1071 hl (by decide) rfl (fun ls hl => ?_)
    refine lv_aload_n hx hb dL_law_1073 rfl (lv_at hl 4 rfl) ?_
    have hPc := hP.sub (ws' := (mW B cA L P G V Rp S Y O D (kAbout (nI T) p0 p1) (nI h) wd (nI T) ft fl cl mo)) [9, 10, 11, 12, 13, 14, 15, 16, 17, 18] rfl
    have hDc := hD.sub (ws' := (mW B cA L P G V Rp S Y O D (kAbout (nI T) p0 p1) (nI h) wd (nI T) ft fl cl mo)) [9, 10, 11, 12, 13, 14, 15, 16, 17, 18] (by decide) rfl
    have hFc := va_free (wc := mW B cA L P G V Rp S Y O D (kAbout (nI T) p0 p1) (nI h) wd (nI T) ft fl cl mo) hD hS hA [9, 10, 11, 12, 13, 14, 15, 16, 17, 18] rfl
    have hKc := hK.sub (tys' := tyI cA) [0] rfl
    refine va_calli (va_runV (As := []) (rest := []) ⟨hx, hb, hml, hown, hts⟩ (c_X1_thrown l dG B cA H L P G V Rp S Y O D (kAbout (nI T) p0 p1) (nI h) wd (nI T) ft fl cl mo) (cwV 0 hts gL_law_X1_thrown rfl rfl rfl (by decide +kernel) ⟨Nat.le_of_ble_eq_true rfl, Nat.le_of_ble_eq_true rfl⟩) ⟨fun a9 U g mk q => ⟨q.1, wPre_calling g mk a9 q.2⟩, va_recv hKc hPc (ci := 1) (q0 := 0) rfl rfl, fun U hU hW => ⟨rfl, wPre_of hKc hPc hDc hU hW⟩⟩ rfl rfl hl.1 rfl (lv_room (Nat.le_of_ble_eq_true rfl)) dL_law_1074 ⟨(by show _ ≤ 1049; omega), (by show _ ≤ 11971; omega)⟩) hS (fun q _ h => hFc q h) hFc (fun r u t H locs ht hvm hw hB hz1 hk1 hS => ?_)
    obtain ⟨hr3, hu3⟩ := hw
    subst hu3
    have hr3 := hr3.symm
    subst hr3
    obtain ⟨hP1, hK1, hD1⟩ := hB
    rw [ht] at hP1
    obtain ⟨hP, hD⟩ := va_join (wr := (xW A cA L P G V R N Y S wd (nI T) ft fl ce (nI h) mo) ++ [(o, .inl (cL, 1, .inr (.inl fo)))]) (w1 := (mW B cA L P G V Rp S Y O D (kAbout (nI T) p0 p1) (nI h) wd (nI T) ft fl cl mo)) hP hD [9, 10, 11, 12, 13, 14, 15, 16, 17, 18] [0, 1, 2, 3, 4, 5, 6, 7, 8, 19] rfl rfl (by decide) (by decide) hk1 hFc hP1 hD1
    have hP : va_P dG vwCl ((xW A cA L P G V R N Y S wd (nI T) ft fl ce (nI h) mo) ++ (mW B cA L P G V Rp S Y O D (kAbout (nI T) p0 p1) (nI h) wd (nI T) ft fl cl mo) ++ [(o, .inl (cL, 1, .inr (.inl fo)))]) H := hP.sub [0, 1, 2, 3, 4, 5, 6, 7, 8, 10, 11, 12, 13, 14, 15, 16, 17, 18, 19, 9] rfl
    have hD : va_D (aNew s.heap) ((xW A cA L P G V R N Y S wd (nI T) ft fl ce (nI h) mo) ++ (mW B cA L P G V Rp S Y O D (kAbout (nI T) p0 p1) (nI h) wd (nI T) ft fl cl mo) ++ [(o, .inl (cL, 1, .inr (.inl fo)))]) := hD.sub [0, 1, 2, 3, 4, 5, 6, 7, 8, 10, 11, 12, 13, 14, 15, 16, 17, 18, 19, 9] (by decide) rfl
    refine lv_iload hx hb dL_law_1077 (lv_at hl 1 rfl) ?_
    refine lv_icmp_eq (tgt := 1084) hx hb dL_law_1079 (by decide) (fun _ => ?_) (fun h9 => absurd rfl h9)
    refine lv_iload hx hb dL_law_1084 (lv_at hl 1 rfl) ?_
    refine lv_if_ne (tgt := 1101) hx hb dL_law_1086 (by decide) (fun _ => ?_) (fun h9 => absurd h9 hk)
    refine lv_goto (tgt := 1130) hx hb dL_law_1101 (by decide) ?_
    exact k L P G V R N Y S Rp O D T h wd ft fl ce cl (kAbout (nI T) p0 p1) mo fo H locs ls I hP hD hS (lv_sub hl [2, 3, 4, 5, 6] rfl)
set_option maxHeartbeats 1000000 in
set_option maxRecDepth 100000 in
theorem case_closed {p : Program} {l : Launch} {e : Env} {s : State} {m : MethodId} {below : List Frame} {meth : Method} {c : Code} {b Ln : Nat} {xs : Nat → Int32} {dG : va_G} {a A B : Nat → Nat} {o : Nat} {cA cL : ClassId} (hl0 : l.stackTraces = false) (C0 : lw_At p s m meth c b Ln xs) (hE : tgE a (aNew s.heap) s s.heap) (hK : va_K dG vwCl (tyL cA cL) s) (hLn : Ln ≤ 2048) {i : Nat} (hi : 4 * i + 4 ≤ Ln) (k : lwAt p l e s m below meth c b dG A B o cA cL 1130 i (20 + i + 1) (3749 + 6 * i + 6)) : lwAt p l e s m below meth c b dG A B o cA cL 1104 i (20 + i) (3749 + 6 * i) := by
  obtain ⟨hx, hb, hr, hml, hown, hts0, hX, hbl, hlocks, hgv⟩ := C0
  have hts : ∀ w ∈ wsL_law, w.before #[Value.ref b] s = true := fun w h => hts0 w (wsL_law_in w h)
  have hA : ∀ q : Nat, s.heap.size ≤ q → aNew s.heap q := fun _ h => h
  have hbA : ¬ aNew s.heap b := Nat.not_le.mpr hbl
  intro L P G V R N Y S Rp O D T h wd ft fl ce cl th mo fo H locs ls I hP hD hS hl
  refine lv_aload_n hx hb dL_law_1104 rfl (lv_at hl 1 rfl) ?_
  have hPc := hP.sub (ws' := (xW A cA L P G V R N Y S wd (nI T) ft fl ce (nI h) mo)) [0, 1, 2, 3, 4, 5, 6, 7, 8] rfl
  have hDc := hD.sub (ws' := (xW A cA L P G V R N Y S wd (nI T) ft fl ce (nI h) mo)) [0, 1, 2, 3, 4, 5, 6, 7, 8] (by decide) rfl
  have hFc := va_free (wc := xW A cA L P G V R N Y S wd (nI T) ft fl ce (nI h) mo) hD hS hA [0, 1, 2, 3, 4, 5, 6, 7, 8] rfl
  have hKc := hK.sub (tys' := tyI cA) [0] rfl
  refine va_calli (va_runV (As := []) (rest := []) ⟨hx, hb, hml, hown, hts⟩ (c_X0_closed l dG a A cA H L P G V R N Y S wd (nI T) ft fl ce (nI h) mo) (cwV 0 hts gL_law_X0_closed rfl rfl rfl (by decide +kernel) ⟨Nat.le_of_ble_eq_true rfl, Nat.le_of_ble_eq_true rfl⟩) ⟨fun a9 U g mk q => ⟨q.1, wPre_calling g mk a9 q.2⟩, va_recv hKc hPc (ci := 0) (q0 := 0) rfl rfl, fun U hU hW => ⟨rfl, wPre_of hKc hPc hDc hU hW⟩⟩ rfl rfl hl.1 rfl (lv_room (Nat.le_of_ble_eq_true rfl)) dL_law_1105 ⟨(by show _ ≤ 1049; omega), (by show _ ≤ 11971; omega)⟩) hS (fun q _ h => h.elim) hFc (fun r u t H1 locs ht hvm hw hB hz1 hk1 hS => ?_)
  have e9 := hB.symm.trans ht
  subst e9
  have hw := hw.symm
  subst hw
  refine lv_aload_n hx hb dL_law_1108 rfl (lv_at hl 2 rfl) ?_
  have hPc := hP.sub (ws' := (mW B cA L P G V Rp S Y O D th (nI h) wd (nI T) ft fl cl mo)) [9, 10, 11, 12, 13, 14, 15, 16, 17, 18] rfl
  have hDc := hD.sub (ws' := (mW B cA L P G V Rp S Y O D th (nI h) wd (nI T) ft fl cl mo)) [9, 10, 11, 12, 13, 14, 15, 16, 17, 18] (by decide) rfl
  have hFc := va_free (wc := mW B cA L P G V Rp S Y O D th (nI h) wd (nI T) ft fl cl mo) hD hS hA [9, 10, 11, 12, 13, 14, 15, 16, 17, 18] rfl
  have hKc := hK.sub (tys' := tyI cA) [0] rfl
  refine va_calli (va_runV (As := []) (rest := [.int (if 0 < ce - nI h then ce - nI h else 0)]) ⟨hx, hb, hml, hown, hts⟩ (c_X1_closed l dG B cA H L P G V Rp S Y O D th (nI h) wd (nI T) ft fl cl mo) (cwV 0 hts gL_law_X1_closed rfl rfl rfl (by decide +kernel) ⟨Nat.le_of_ble_eq_true rfl, Nat.le_of_ble_eq_true rfl⟩) ⟨fun a9 U g mk q => ⟨q.1, wPre_calling g mk a9 q.2⟩, va_recv hKc hPc (ci := 1) (q0 := 0) rfl rfl, fun U hU hW => ⟨rfl, wPre_of hKc hPc hDc hU hW⟩⟩ rfl rfl hl.1 rfl (lv_room (Nat.le_of_ble_eq_true rfl)) dL_law_1109 ⟨(by show _ ≤ 1049; omega), (by show _ ≤ 11971; omega)⟩) hS (fun q _ h => hFc q h) hFc (fun r u t H locs ht hvm hw hB hz1 hk1 hS => ?_)
  obtain ⟨hr2, hu2⟩ := hw
  subst hu2
  have hr2 := hr2.symm
  subst hr2
  obtain ⟨hP1, hK1, hD1⟩ := hB
  rw [ht] at hP1
  obtain ⟨hP, hD⟩ := va_join (wr := (xW A cA L P G V R N Y S wd (nI T) ft fl ce (nI h) mo) ++ [(o, .inl (cL, 1, .inr (.inl fo)))]) (w1 := (mW B cA L P G V Rp S Y O D 0 (nI h) wd (nI T) ft fl cl mo)) hP hD [9, 10, 11, 12, 13, 14, 15, 16, 17, 18] [0, 1, 2, 3, 4, 5, 6, 7, 8, 19] rfl rfl (by decide) (by decide) hk1 hFc hP1 hD1
  have hP : va_P dG vwCl ((xW A cA L P G V R N Y S wd (nI T) ft fl ce (nI h) mo) ++ (mW B cA L P G V Rp S Y O D 0 (nI h) wd (nI T) ft fl cl mo) ++ [(o, .inl (cL, 1, .inr (.inl fo)))]) H := hP.sub [0, 1, 2, 3, 4, 5, 6, 7, 8, 10, 11, 12, 13, 14, 15, 16, 17, 18, 19, 9] rfl
  have hD : va_D (aNew s.heap) ((xW A cA L P G V R N Y S wd (nI T) ft fl ce (nI h) mo) ++ (mW B cA L P G V Rp S Y O D 0 (nI h) wd (nI T) ft fl cl mo) ++ [(o, .inl (cL, 1, .inr (.inl fo)))]) := hD.sub [0, 1, 2, 3, 4, 5, 6, 7, 8, 10, 11, 12, 13, 14, 15, 16, 17, 18, 19, 9] (by decide) rfl
  refine lv_icmp_eq (tgt := 1130) hx hb dL_law_1112 (by decide) (fun _ => ?_) (fun h9 => absurd (eq_closed I) h9)
  refine W.widen (k := 20 + i + 1) (n := 3749 + 6 * i + 6) (by omega) (by omega) ?_
  exact k L P G V R N Y S Rp O D T h wd ft fl ce cl 0 mo fo H locs ls I hP hD hS (lv_sub hl [0, 1, 2, 3, 4] rfl)
set_option maxHeartbeats 1000000 in
set_option maxRecDepth 100000 in
theorem case_money {p : Program} {l : Launch} {e : Env} {s : State} {m : MethodId} {below : List Frame} {meth : Method} {c : Code} {b Ln : Nat} {xs : Nat → Int32} {dG : va_G} {a A B : Nat → Nat} {o : Nat} {cA cL : ClassId} (hl0 : l.stackTraces = false) (C0 : lw_At p s m meth c b Ln xs) (hE : tgE a (aNew s.heap) s s.heap) (hK : va_K dG vwCl (tyL cA cL) s) (hLn : Ln ≤ 2048) {i : Nat} (hi : 4 * i + 4 ≤ Ln) (k : lwAt p l e s m below meth c b dG A B o cA cL 1130 i (20 + i + 1) (3749 + 6 * i + 6)) : lwAt p l e s m below meth c b dG A B o cA cL 1117 i (20 + i) (3749 + 6 * i) := by
  obtain ⟨hx, hb, hr, hml, hown, hts0, hX, hbl, hlocks, hgv⟩ := C0
  have hts : ∀ w ∈ wsL_law, w.before #[Value.ref b] s = true := fun w h => hts0 w (wsL_law_in w h)
  have hA : ∀ q : Nat, s.heap.size ≤ q → aNew s.heap q := fun _ h => h
  have hbA : ¬ aNew s.heap b := Nat.not_le.mpr hbl
  intro L P G V R N Y S Rp O D T h wd ft fl ce cl th mo fo H locs ls I hP hD hS hl
  refine lv_aload_n hx hb dL_law_1117 rfl (lv_at hl 1 rfl) ?_
  have hPc := hP.sub (ws' := (xW A cA L P G V R N Y S wd (nI T) ft fl ce (nI h) mo)) [0, 1, 2, 3, 4, 5, 6, 7, 8] rfl
  have hDc := hD.sub (ws' := (xW A cA L P G V R N Y S wd (nI T) ft fl ce (nI h) mo)) [0, 1, 2, 3, 4, 5, 6, 7, 8] (by decide) rfl
  have hFc := va_free (wc := xW A cA L P G V R N Y S wd (nI T) ft fl ce (nI h) mo) hD hS hA [0, 1, 2, 3, 4, 5, 6, 7, 8] rfl
  have hKc := hK.sub (tys' := tyI cA) [0] rfl
  refine va_calli (va_runV (As := []) (rest := []) ⟨hx, hb, hml, hown, hts⟩ (c_X0_money l dG a A cA H L P G V R N Y S wd (nI T) ft fl ce (nI h) mo I.2.2.2.2.2.1) (cwV 0 hts gL_law_X0_money rfl rfl rfl (by decide +kernel) ⟨Nat.le_of_ble_eq_true rfl, Nat.le_of_ble_eq_true rfl⟩) ⟨fun a9 U g mk q => ⟨q.1, wPre_calling g mk a9 q.2⟩, va_recv hKc hPc (ci := 0) (q0 := 0) rfl rfl, fun U hU hW => ⟨rfl, wPre_of hKc hPc hDc hU hW⟩⟩ rfl rfl hl.1 rfl (lv_room (Nat.le_of_ble_eq_true rfl)) dL_law_1118 ⟨(by show _ ≤ 1049; omega), (by show _ ≤ 11971; omega)⟩) hS (fun q _ h => h.elim) hFc (fun r u t H1 locs ht hvm hw hB hz1 hk1 hS => ?_)
  have e9 := hB.symm.trans ht
  subst e9
  have hw := hw.symm
  subst hw
  refine lv_aload_n hx hb dL_law_1121 rfl (lv_at hl 2 rfl) ?_
  have hPc := hP.sub (ws' := (mW B cA L P G V Rp S Y O D th (nI h) wd (nI T) ft fl cl mo)) [9, 10, 11, 12, 13, 14, 15, 16, 17, 18] rfl
  have hDc := hD.sub (ws' := (mW B cA L P G V Rp S Y O D th (nI h) wd (nI T) ft fl cl mo)) [9, 10, 11, 12, 13, 14, 15, 16, 17, 18] (by decide) rfl
  have hFc := va_free (wc := mW B cA L P G V Rp S Y O D th (nI h) wd (nI T) ft fl cl mo) hD hS hA [9, 10, 11, 12, 13, 14, 15, 16, 17, 18] rfl
  have hKc := hK.sub (tys' := tyI cA) [0] rfl
  refine va_calli (va_runV (As := []) (rest := [.int mo.toInt32]) ⟨hx, hb, hml, hown, hts⟩ (c_X1_money l dG B cA H L P G V Rp S Y O D th (nI h) wd (nI T) ft fl cl mo I.2.2.2.2.2.1.fin) (cwV 0 hts gL_law_X1_money rfl rfl rfl (by decide +kernel) ⟨Nat.le_of_ble_eq_true rfl, Nat.le_of_ble_eq_true rfl⟩) ⟨fun a9 U g mk q => ⟨q.1, wPre_calling g mk a9 q.2⟩, va_recv hKc hPc (ci := 1) (q0 := 0) rfl rfl, fun U hU hW => ⟨rfl, wPre_of hKc hPc hDc hU hW⟩⟩ rfl rfl hl.1 rfl (lv_room (Nat.le_of_ble_eq_true rfl)) dL_law_1122 ⟨(by show _ ≤ 1049; omega), (by show _ ≤ 11971; omega)⟩) hS (fun q _ h => hFc q h) hFc (fun r u t H locs ht hvm hw hB hz1 hk1 hS => ?_)
  obtain ⟨hr2, hu2⟩ := hw
  subst hu2
  have hr2 := hr2.symm
  subst hr2
  obtain ⟨hP1, hK1, hD1⟩ := hB
  rw [ht] at hP1
  obtain ⟨hP, hD⟩ := va_join (wr := (xW A cA L P G V R N Y S wd (nI T) ft fl ce (nI h) mo) ++ [(o, .inl (cL, 1, .inr (.inl fo)))]) (w1 := (mW B cA L P G V Rp S Y O D 0 (nI h) wd (nI T) ft fl cl mo)) hP hD [9, 10, 11, 12, 13, 14, 15, 16, 17, 18] [0, 1, 2, 3, 4, 5, 6, 7, 8, 19] rfl rfl (by decide) (by decide) hk1 hFc hP1 hD1
  have hP : va_P dG vwCl ((xW A cA L P G V R N Y S wd (nI T) ft fl ce (nI h) mo) ++ (mW B cA L P G V Rp S Y O D 0 (nI h) wd (nI T) ft fl cl mo) ++ [(o, .inl (cL, 1, .inr (.inl fo)))]) H := hP.sub [0, 1, 2, 3, 4, 5, 6, 7, 8, 10, 11, 12, 13, 14, 15, 16, 17, 18, 19, 9] rfl
  have hD : va_D (aNew s.heap) ((xW A cA L P G V R N Y S wd (nI T) ft fl ce (nI h) mo) ++ (mW B cA L P G V Rp S Y O D 0 (nI h) wd (nI T) ft fl cl mo) ++ [(o, .inl (cL, 1, .inr (.inl fo)))]) := hD.sub [0, 1, 2, 3, 4, 5, 6, 7, 8, 10, 11, 12, 13, 14, 15, 16, 17, 18, 19, 9] (by decide) rfl
  refine lv_icmp_eq (tgt := 1130) hx hb dL_law_1125 (by decide) (fun _ => ?_) (fun h9 => absurd rfl h9)
  refine W.widen (k := 20 + i + 1) (n := 3749 + 6 * i + 6) (by omega) (by omega) ?_
  exact k L P G V R N Y S Rp O D T h wd ft fl ce cl 0 mo fo H locs ls I hP hD hS (lv_sub hl [0, 1, 2, 3, 4] rfl)
