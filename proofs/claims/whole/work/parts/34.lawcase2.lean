set_option maxHeartbeats 1000000 in
set_option maxRecDepth 100000 in
theorem case_now {p : Program} {l : Launch} {e : Env} {s : State} {m : MethodId} {below : List Frame} {meth : Method} {c : Code} {b Ln : Nat} {xs : Nat → Int32} {dG : va_G} {a A B : Nat → Nat} {o : Nat} {cA cL : ClassId} (hl0 : l.stackTraces = false) (C0 : lw_At p s m meth c b Ln xs) (hE : tgE a (aNew s.heap) s s.heap) (hK : va_K dG vwCl (tyL cA cL) s) (hLn : Ln ≤ 2048) {i : Nat} (hi : 4 * i + 4 ≤ Ln) (k : lwAt p l e s m below meth c b dG A B o cA cL 1130 i (20 + i + 1) (3749 + 6 * i + 6)) : lwAt p l e s m below meth c b dG A B o cA cL 743 i (20 + i) (3749 + 6 * i) := by
  obtain ⟨hx, hb, hr, hml, hown, hts0, hX, hbl, hlocks, hgv⟩ := C0
  have hts : ∀ w ∈ wsL_law, w.before #[Value.ref b] s = true := fun w h => hts0 w (wsL_law_in w h)
  have hA : ∀ q : Nat, s.heap.size ≤ q → aNew s.heap q := fun _ h => h
  have hbA : ¬ aNew s.heap b := Nat.not_le.mpr hbl
  intro L P G V R N Y S Rp O D T h wd ft fl ce cl th mo fo H locs ls I hP hD hS hl
  refine lv_aload_n hx hb dL_law_743 rfl (lv_at hl 1 rfl) ?_
  have hPc := hP.sub (ws' := (xW A cA L P G V R N Y S wd (nI T) ft fl ce (nI h) mo)) [0, 1, 2, 3, 4, 5, 6, 7, 8] rfl
  have hDc := hD.sub (ws' := (xW A cA L P G V R N Y S wd (nI T) ft fl ce (nI h) mo)) [0, 1, 2, 3, 4, 5, 6, 7, 8] (by decide) rfl
  have hFc := va_free (wc := xW A cA L P G V R N Y S wd (nI T) ft fl ce (nI h) mo) hD hS hA [0, 1, 2, 3, 4, 5, 6, 7, 8] rfl
  have hKc := hK.sub (tys' := tyI cA) [0] rfl
  refine va_calli (va_runV (As := []) (rest := []) ⟨hx, hb, hml, hown, hts⟩ (c_X0_now l dG a A cA H L P G V R N Y S wd (nI T) ft fl ce (nI h) mo) (cwV 0 hts gL_law_X0_now rfl rfl rfl (by decide +kernel) ⟨Nat.le_of_ble_eq_true rfl, Nat.le_of_ble_eq_true rfl⟩) ⟨fun a9 U g mk q => ⟨q.1, wPre_calling g mk a9 q.2⟩, va_recv hKc hPc (ci := 0) (q0 := 0) rfl rfl, fun U hU hW => ⟨rfl, wPre_of hKc hPc hDc hU hW⟩⟩ rfl rfl hl.1 rfl (lv_room (Nat.le_of_ble_eq_true rfl)) dL_law_744 ⟨(by show _ ≤ 1049; omega), (by show _ ≤ 11971; omega)⟩) hS (fun q _ h => h.elim) hFc (fun r u t H1 locs ht hvm hw hB hz1 hk1 hS => ?_)
  have e9 := hB.symm.trans ht
  subst e9
  have hw := hw.symm
  subst hw
  refine lv_aload_n hx hb dL_law_747 rfl (lv_at hl 2 rfl) ?_
  have hPc := hP.sub (ws' := (mW B cA L P G V Rp S Y O D th (nI h) wd (nI T) ft fl cl mo)) [9, 10, 11, 12, 13, 14, 15, 16, 17, 18] rfl
  have hDc := hD.sub (ws' := (mW B cA L P G V Rp S Y O D th (nI h) wd (nI T) ft fl cl mo)) [9, 10, 11, 12, 13, 14, 15, 16, 17, 18] (by decide) rfl
  have hFc := va_free (wc := mW B cA L P G V Rp S Y O D th (nI h) wd (nI T) ft fl cl mo) hD hS hA [9, 10, 11, 12, 13, 14, 15, 16, 17, 18] rfl
  have hKc := hK.sub (tys' := tyI cA) [0] rfl
  refine va_calli (va_runV (As := []) (rest := [.int (nI h)]) ⟨hx, hb, hml, hown, hts⟩ (c_X1_now l dG B cA H L P G V Rp S Y O D th (nI h) wd (nI T) ft fl cl mo) (cwV 0 hts gL_law_X1_now rfl rfl rfl (by decide +kernel) ⟨Nat.le_of_ble_eq_true rfl, Nat.le_of_ble_eq_true rfl⟩) ⟨fun a9 U g mk q => ⟨q.1, wPre_calling g mk a9 q.2⟩, va_recv hKc hPc (ci := 1) (q0 := 0) rfl rfl, fun U hU hW => ⟨rfl, wPre_of hKc hPc hDc hU hW⟩⟩ rfl rfl hl.1 rfl (lv_room (Nat.le_of_ble_eq_true rfl)) dL_law_748 ⟨(by show _ ≤ 1049; omega), (by show _ ≤ 11971; omega)⟩) hS (fun q _ h => hFc q h) hFc (fun r u t H locs ht hvm hw hB hz1 hk1 hS => ?_)
  obtain ⟨hr2, hu2⟩ := hw
  subst hu2
  have hr2 := hr2.symm
  subst hr2
  obtain ⟨hP1, hK1, hD1⟩ := hB
  rw [ht] at hP1
  obtain ⟨hP, hD⟩ := va_join (wr := (xW A cA L P G V R N Y S wd (nI T) ft fl ce (nI h) mo) ++ [(o, .inl (cL, 1, .inr (.inl fo)))]) (w1 := (mW B cA L P G V Rp S Y O D 0 (nI h) wd (nI T) ft fl cl mo)) hP hD [9, 10, 11, 12, 13, 14, 15, 16, 17, 18] [0, 1, 2, 3, 4, 5, 6, 7, 8, 19] rfl rfl (by decide) (by decide) hk1 hFc hP1 hD1
  have hP : va_P dG vwCl ((xW A cA L P G V R N Y S wd (nI T) ft fl ce (nI h) mo) ++ (mW B cA L P G V Rp S Y O D 0 (nI h) wd (nI T) ft fl cl mo) ++ [(o, .inl (cL, 1, .inr (.inl fo)))]) H := hP.sub [0, 1, 2, 3, 4, 5, 6, 7, 8, 10, 11, 12, 13, 14, 15, 16, 17, 18, 19, 9] rfl
  have hD : va_D (aNew s.heap) ((xW A cA L P G V R N Y S wd (nI T) ft fl ce (nI h) mo) ++ (mW B cA L P G V Rp S Y O D 0 (nI h) wd (nI T) ft fl cl mo) ++ [(o, .inl (cL, 1, .inr (.inl fo)))]) := hD.sub [0, 1, 2, 3, 4, 5, 6, 7, 8, 10, 11, 12, 13, 14, 15, 16, 17, 18, 19, 9] (by decide) rfl
  refine lv_icmp_eq (tgt := 1130) hx hb dL_law_751 (by decide) (fun _ => ?_) (fun h9 => absurd rfl h9)
  refine W.widen (k := 20 + i + 1) (n := 3749 + 6 * i + 6) (by omega) (by omega) ?_
  exact k L P G V R N Y S Rp O D T h wd ft fl ce cl 0 mo fo H locs ls I hP hD hS (lv_sub hl [0, 1, 2, 3, 4] rfl)
set_option maxHeartbeats 1000000 in
set_option maxRecDepth 100000 in
theorem case_made {p : Program} {l : Launch} {e : Env} {s : State} {m : MethodId} {below : List Frame} {meth : Method} {c : Code} {b Ln : Nat} {xs : Nat → Int32} {dG : va_G} {a A B : Nat → Nat} {o : Nat} {cA cL : ClassId} (hl0 : l.stackTraces = false) (C0 : lw_At p s m meth c b Ln xs) (hE : tgE a (aNew s.heap) s s.heap) (hK : va_K dG vwCl (tyL cA cL) s) (hLn : Ln ≤ 2048) {i : Nat} (hi : 4 * i + 4 ≤ Ln) (k : lwAt p l e s m below meth c b dG A B o cA cL 1130 i (20 + i + 1) (3749 + 6 * i + 6)) : lwAt p l e s m below meth c b dG A B o cA cL 756 i (20 + i) (3749 + 6 * i) := by
  obtain ⟨hx, hb, hr, hml, hown, hts0, hX, hbl, hlocks, hgv⟩ := C0
  have hts : ∀ w ∈ wsL_law, w.before #[Value.ref b] s = true := fun w h => hts0 w (wsL_law_in w h)
  have hA : ∀ q : Nat, s.heap.size ≤ q → aNew s.heap q := fun _ h => h
  have hbA : ¬ aNew s.heap b := Nat.not_le.mpr hbl
  intro L P G V R N Y S Rp O D T h wd ft fl ce cl th mo fo H locs ls I hP hD hS hl
  obtain ⟨p0, hp0⟩ : ∃ z, z = xs (nI (4 * i + 1)).toNatClampNeg := ⟨_, rfl⟩
  refine lv_aload_n hx hb dL_law_756 rfl (lv_at hl 1 rfl) ?_
  refine lv_aload_n hx hb dL_law_757 rfl (lv_at hl 0 rfl) ?_
  refine lv_iload hx hb dL_law_758 (lv_at hl 4 rfl) ?_
  refine lv_iconst (v := 1) hx hb dL_law_760 (by decide) ?_
  refine lv_iadd hx hb dL_law_761 ?_
  refine lv_topi (fun v9 e9 => ?_)
  have e9 := e9.trans (nI_add (4 * i) 1)
  subst e9
  refine va_sld hx hb hX hbl hbA hS (vp_in_nI (by omega) (by omega)) dL_law_762 ?_
  refine lv_topi (fun v9 e9 => ?_)
  have e9 := (e9.trans hp0.symm).symm
  subst e9
  refine lv_aload_n hx hb dL_law_763 rfl (lv_at hl 3 rfl) ?_
  by_cases hk : kGone (nI h) p0 = 0
  · have hPc := hP.sub (ws' := (xW A cA L P G V R N Y S wd (nI T) ft fl ce (nI h) mo) ++ ([(o, .inl (cL, 1, .inr (.inl fo)))])) [0, 1, 2, 3, 4, 5, 6, 7, 8, 19] rfl
    have hDc := hD.sub (ws' := (xW A cA L P G V R N Y S wd (nI T) ft fl ce (nI h) mo) ++ ([(o, .inl (cL, 1, .inr (.inl fo)))])) [0, 1, 2, 3, 4, 5, 6, 7, 8, 19] (by decide) rfl
    have hFc := va_free (wc := (xW A cA L P G V R N Y S wd (nI T) ft fl ce (nI h) mo) ++ ([(o, .inl (cL, 1, .inr (.inl fo)))])) hD hS hA [0, 1, 2, 3, 4, 5, 6, 7, 8, 19] rfl
    refine va_calli (vx_runSW (As := [.ref (A 0), .int p0, .ref o]) (rest := []) ⟨hx, hb, hml, hown, hts⟩ (c_L_made l hl0 dG a A o cA cL H L P G V R N Y S T h wd ft fl ce mo fo p0 I.1.1 I.1.2) (vx_cwSW 3 hts gL_law_L_made rfl rfl rfl (by decide +kernel) ⟨Nat.le_of_ble_eq_true rfl, Nat.le_of_ble_eq_true rfl⟩) ⟨fun a9 U g mk q => ⟨q.1, wPre_calling g mk a9 q.2.1, q.2.2.calling g mk a9⟩, fun U hU hW => ⟨rfl, wPre_of hK hPc hDc hU hW, hE.go hW hS hFc⟩⟩ rfl rfl hl.1 rfl (lv_room (Nat.le_of_ble_eq_true rfl)) dL_law_764 ⟨(by show _ ≤ 1049; omega), (by show _ ≤ 11971; omega)⟩) hS (fun q _ h => hFc q h) hFc (fun r u t H locs ht hvm hw hB hz1 hk1 hS => ?_)
    obtain ⟨hr1, hu0, hu1⟩ := hw
    have hu := hu0 hk
    subst hu
    have hr1 := (hr1.trans hk).symm
    subst hr1
    obtain ⟨hP1, hK1, hD1⟩ := hB
    rw [ht] at hP1
    obtain ⟨hP, hD⟩ := va_join (wr := (mW B cA L P G V Rp S Y O D th (nI h) wd (nI T) ft fl cl mo)) (w1 := (xW A cA L P G V R N Y S wd (nI T) ft fl ce (nI h) mo) ++ [(o, .inl (cL, 1, .inr (.inl (vp_updL fo 0 (Y p0.toNatClampNeg).toInt64))))]) hP hD [0, 1, 2, 3, 4, 5, 6, 7, 8, 19] [9, 10, 11, 12, 13, 14, 15, 16, 17, 18] rfl rfl (by decide) (by decide) hk1 hFc hP1 hD1
    have hP : va_P dG vwCl ((xW A cA L P G V R N Y S wd (nI T) ft fl ce (nI h) mo) ++ (mW B cA L P G V Rp S Y O D th (nI h) wd (nI T) ft fl cl mo) ++ [(o, .inl (cL, 1, .inr (.inl (vp_updL fo 0 (Y p0.toNatClampNeg).toInt64))))]) H := hP.sub [10, 11, 12, 13, 14, 15, 16, 17, 18, 0, 1, 2, 3, 4, 5, 6, 7, 8, 9, 19] rfl
    have hD : va_D (aNew s.heap) ((xW A cA L P G V R N Y S wd (nI T) ft fl ce (nI h) mo) ++ (mW B cA L P G V Rp S Y O D th (nI h) wd (nI T) ft fl cl mo) ++ [(o, .inl (cL, 1, .inr (.inl (vp_updL fo 0 (Y p0.toNatClampNeg).toInt64))))]) := hD.sub [10, 11, 12, 13, 14, 15, 16, 17, 18, 0, 1, 2, 3, 4, 5, 6, 7, 8, 9, 19] (by decide) rfl
    refine lv_istore (lv' := [(5, .int 0), (0, .ref b), (1, .ref (A 0)), (2, .ref (B 0)), (3, .ref o), (4, .int (nI (4 * i)))]) hx hb dL_law_767 hl (by decide) rfl (fun ls hl => ?_)
    refine lv_aload_n hx hb dL_law_769 rfl (lv_at hl 3 rfl) ?_
    refine lv_aload_n hx hb dL_law_770 rfl (lv_at hl 1 rfl) ?_
    refine lv_iload hx hb dL_law_771 (lv_at hl 5 rfl) ?_
    refine lv_iconst (v := 1) hx hb dL_law_773 (by decide) ?_
    refine lv_iadd hx hb dL_law_774 ?_
    refine lv_topi (fun v9 e9 => ?_)
    have e9 := e9.trans (nI_add (4 * i) 1)
    subst e9
    refine va_sld hx hb hX hbl hbA hS (vp_in_nI (by omega) (by omega)) dL_law_775 ?_
    refine lv_topi (fun v9 e9 => ?_)
    have e9 := (e9.trans hp0.symm).symm
    subst e9
    have hPc := hP.sub (ws' := (mW B cA L P G V Rp S Y O D th (nI h) wd (nI T) ft fl cl mo)) [9, 10, 11, 12, 13, 14, 15, 16, 17, 18] rfl
    have hDc := hD.sub (ws' := (mW B cA L P G V Rp S Y O D th (nI h) wd (nI T) ft fl cl mo)) [9, 10, 11, 12, 13, 14, 15, 16, 17, 18] (by decide) rfl
    have hFc := va_free (wc := mW B cA L P G V Rp S Y O D th (nI h) wd (nI T) ft fl cl mo) hD hS hA [9, 10, 11, 12, 13, 14, 15, 16, 17, 18] rfl
    have hKc := hK.sub (tys' := tyI cA) [0] rfl
    refine va_calli (va_runV (As := [.int p0]) (rest := []) ⟨hx, hb, hml, hown, hts⟩ (c_X1_made l dG B cA H L P G V Rp S Y O D th (nI h) wd (nI T) ft fl cl mo p0 (nIr (b := 500) I.1.2 (by omega))) (cwV 1 hts gL_law_X1_made rfl rfl rfl (by decide +kernel) ⟨Nat.le_of_ble_eq_true rfl, Nat.le_of_ble_eq_true rfl⟩) ⟨fun a9 U g mk q => ⟨q.1, wPre_calling g mk a9 q.2⟩, va_recv hKc hPc (ci := 1) (q0 := 0) rfl rfl, fun U hU hW => ⟨rfl, wPre_of hKc hPc hDc hU hW⟩⟩ rfl rfl hl.1 rfl (lv_room (Nat.le_of_ble_eq_true rfl)) dL_law_776 ⟨(by show _ ≤ 1049; omega), (by show _ ≤ 11971; omega)⟩) hS (fun q _ h => hFc q h) hFc (fun r u t H locs ht hvm hw hB hz1 hk1 hS => ?_)
    obtain ⟨hr2, hu2⟩ := hw.1 hk
    subst hu2
    have hr2 := hr2.symm
    subst hr2
    obtain ⟨hP1, hK1, hD1⟩ := hB
    rw [ht] at hP1
    obtain ⟨hP, hD⟩ := va_join (wr := (xW A cA L P G V R N Y S wd (nI T) ft fl ce (nI h) mo) ++ [(o, .inl (cL, 1, .inr (.inl (vp_updL fo 0 (Y p0.toNatClampNeg).toInt64))))]) (w1 := (mW B cA L P G V Rp S Y O D 0 (nI h) wd (nI T) ft fl cl mo)) hP hD [9, 10, 11, 12, 13, 14, 15, 16, 17, 18] [0, 1, 2, 3, 4, 5, 6, 7, 8, 19] rfl rfl (by decide) (by decide) hk1 hFc hP1 hD1
    have hP : va_P dG vwCl ((xW A cA L P G V R N Y S wd (nI T) ft fl ce (nI h) mo) ++ (mW B cA L P G V Rp S Y O D 0 (nI h) wd (nI T) ft fl cl mo) ++ [(o, .inl (cL, 1, .inr (.inl (vp_updL fo 0 (Y p0.toNatClampNeg).toInt64))))]) H := hP.sub [0, 1, 2, 3, 4, 5, 6, 7, 8, 10, 11, 12, 13, 14, 15, 16, 17, 18, 19, 9] rfl
    have hD : va_D (aNew s.heap) ((xW A cA L P G V R N Y S wd (nI T) ft fl ce (nI h) mo) ++ (mW B cA L P G V Rp S Y O D 0 (nI h) wd (nI T) ft fl cl mo) ++ [(o, .inl (cL, 1, .inr (.inl (vp_updL fo 0 (Y p0.toNatClampNeg).toInt64))))]) := hD.sub [0, 1, 2, 3, 4, 5, 6, 7, 8, 10, 11, 12, 13, 14, 15, 16, 17, 18, 19, 9] (by decide) rfl
    refine lv_istore (lv' := [(6, .int (Y p0.toNatClampNeg)), (5, .int 0), (0, .ref b), (1, .ref (A 0)), (2, .ref (B 0)), (3, .ref o), (4, .int (nI (4 * i)))]) hx hb dL_law_779 hl (by decide) rfl (fun ls hl => ?_)
    refine lv_aload_n hx hb dL_law_781 rfl (lv_at hl 4 rfl) ?_
    have hPc := hP.sub (ws' := (mW B cA L P G V Rp S Y O D 0 (nI h) wd (nI T) ft fl cl mo)) [9, 10, 11, 12, 13, 14, 15, 16, 17, 18] rfl
    have hDc := hD.sub (ws' := (mW B cA L P G V Rp S Y O D 0 (nI h) wd (nI T) ft fl cl mo)) [9, 10, 11, 12, 13, 14, 15, 16, 17, 18] (by decide) rfl
    have hFc := va_free (wc := mW B cA L P G V Rp S Y O D 0 (nI h) wd (nI T) ft fl cl mo) hD hS hA [9, 10, 11, 12, 13, 14, 15, 16, 17, 18] rfl
    have hKc := hK.sub (tys' := tyI cA) [0] rfl
    refine va_calli (va_runV (As := []) (rest := []) ⟨hx, hb, hml, hown, hts⟩ (c_X1_thrown l dG B cA H L P G V Rp S Y O D 0 (nI h) wd (nI T) ft fl cl mo) (cwV 0 hts gL_law_X1_thrown rfl rfl rfl (by decide +kernel) ⟨Nat.le_of_ble_eq_true rfl, Nat.le_of_ble_eq_true rfl⟩) ⟨fun a9 U g mk q => ⟨q.1, wPre_calling g mk a9 q.2⟩, va_recv hKc hPc (ci := 1) (q0 := 0) rfl rfl, fun U hU hW => ⟨rfl, wPre_of hKc hPc hDc hU hW⟩⟩ rfl rfl hl.1 rfl (lv_room (Nat.le_of_ble_eq_true rfl)) dL_law_782 ⟨(by show _ ≤ 1049; omega), (by show _ ≤ 11971; omega)⟩) hS (fun q _ h => hFc q h) hFc (fun r u t H locs ht hvm hw hB hz1 hk1 hS => ?_)
    obtain ⟨hr3, hu3⟩ := hw
    subst hu3
    have hr3 := hr3.symm
    subst hr3
    obtain ⟨hP1, hK1, hD1⟩ := hB
    rw [ht] at hP1
    obtain ⟨hP, hD⟩ := va_join (wr := (xW A cA L P G V R N Y S wd (nI T) ft fl ce (nI h) mo) ++ [(o, .inl (cL, 1, .inr (.inl (vp_updL fo 0 (Y p0.toNatClampNeg).toInt64))))]) (w1 := (mW B cA L P G V Rp S Y O D 0 (nI h) wd (nI T) ft fl cl mo)) hP hD [9, 10, 11, 12, 13, 14, 15, 16, 17, 18] [0, 1, 2, 3, 4, 5, 6, 7, 8, 19] rfl rfl (by decide) (by decide) hk1 hFc hP1 hD1
    have hP : va_P dG vwCl ((xW A cA L P G V R N Y S wd (nI T) ft fl ce (nI h) mo) ++ (mW B cA L P G V Rp S Y O D 0 (nI h) wd (nI T) ft fl cl mo) ++ [(o, .inl (cL, 1, .inr (.inl (vp_updL fo 0 (Y p0.toNatClampNeg).toInt64))))]) H := hP.sub [0, 1, 2, 3, 4, 5, 6, 7, 8, 10, 11, 12, 13, 14, 15, 16, 17, 18, 19, 9] rfl
    have hD : va_D (aNew s.heap) ((xW A cA L P G V R N Y S wd (nI T) ft fl ce (nI h) mo) ++ (mW B cA L P G V Rp S Y O D 0 (nI h) wd (nI T) ft fl cl mo) ++ [(o, .inl (cL, 1, .inr (.inl (vp_updL fo 0 (Y p0.toNatClampNeg).toInt64))))]) := hD.sub [0, 1, 2, 3, 4, 5, 6, 7, 8, 10, 11, 12, 13, 14, 15, 16, 17, 18, 19, 9] (by decide) rfl
    refine lv_iload hx hb dL_law_785 (lv_at hl 1 rfl) ?_
    refine lv_icmp_eq (tgt := 792) hx hb dL_law_787 (by decide) (fun _ => ?_) (fun h9 => absurd (by decide) h9)
    refine lv_iload hx hb dL_law_792 (lv_at hl 1 rfl) ?_
    refine lv_if_ne (tgt := 809) hx hb dL_law_794 (by decide) (fun h9 => absurd (by decide) h9) (fun _ => ?_)
    refine lv_aload_n hx hb dL_law_797 rfl (lv_at hl 5 rfl) ?_
    refine lv_iconst (v := 0) hx hb dL_law_798 (by decide) ?_
    refine va_lald hx hb hK hP 19 1 rfl rfl (i := 0) (vp_in_nI (n := 0) (by omega) (by omega)) dL_law_799 ?_
    refine lv_iload hx hb dL_law_800 (lv_at hl 0 rfl) ?_
    refine lv_i2l hx hb dL_law_802 rfl ?_
    refine W.lcmp hx hb dL_law_803 ?_
    refine lv_topi (fun v9 e9 => ?_)
    have e9 := e9.trans (lgc_eq rfl)
    subst e9
    refine lv_if_eq (tgt := 809) hx hb dL_law_804 (by decide) (fun _ => ?_) (fun h9 => absurd (by decide) h9)
    refine lv_goto (tgt := 1130) hx hb dL_law_809 (by decide) ?_
    exact k L P G V R N Y S Rp O D T h wd ft fl ce cl 0 mo (vp_updL fo 0 (Y p0.toNatClampNeg).toInt64) H locs ls I hP hD hS (lv_sub hl [2, 3, 4, 5, 6] rfl)
  · have hPc := hP.sub (ws' := (xW A cA L P G V R N Y S wd (nI T) ft fl ce (nI h) mo) ++ ([(o, .inl (cL, 1, .inr (.inl fo)))])) [0, 1, 2, 3, 4, 5, 6, 7, 8, 19] rfl
    have hDc := hD.sub (ws' := (xW A cA L P G V R N Y S wd (nI T) ft fl ce (nI h) mo) ++ ([(o, .inl (cL, 1, .inr (.inl fo)))])) [0, 1, 2, 3, 4, 5, 6, 7, 8, 19] (by decide) rfl
    have hFc := va_free (wc := (xW A cA L P G V R N Y S wd (nI T) ft fl ce (nI h) mo) ++ ([(o, .inl (cL, 1, .inr (.inl fo)))])) hD hS hA [0, 1, 2, 3, 4, 5, 6, 7, 8, 19] rfl
    refine va_calli (vx_runSW (As := [.ref (A 0), .int p0, .ref o]) (rest := []) ⟨hx, hb, hml, hown, hts⟩ (c_L_made l hl0 dG a A o cA cL H L P G V R N Y S T h wd ft fl ce mo fo p0 I.1.1 I.1.2) (vx_cwSW 3 hts gL_law_L_made rfl rfl rfl (by decide +kernel) ⟨Nat.le_of_ble_eq_true rfl, Nat.le_of_ble_eq_true rfl⟩) ⟨fun a9 U g mk q => ⟨q.1, wPre_calling g mk a9 q.2.1, q.2.2.calling g mk a9⟩, fun U hU hW => ⟨rfl, wPre_of hK hPc hDc hU hW, hE.go hW hS hFc⟩⟩ rfl rfl hl.1 rfl (lv_room (Nat.le_of_ble_eq_true rfl)) dL_law_764 ⟨(by show _ ≤ 1049; omega), (by show _ ≤ 11971; omega)⟩) hS (fun q _ h => hFc q h) hFc (fun r u t H locs ht hvm hw hB hz1 hk1 hS => ?_)
    obtain ⟨hr1, hu0, hu1⟩ := hw
    have hu := hu1 hk
    subst hu
    have hr1 := hr1.symm
    subst hr1
    obtain ⟨hP1, hK1, hD1⟩ := hB
    rw [ht] at hP1
    obtain ⟨hP, hD⟩ := va_join (wr := (mW B cA L P G V Rp S Y O D th (nI h) wd (nI T) ft fl cl mo)) (w1 := (xW A cA L P G V R N Y S wd (nI T) ft fl ce (nI h) mo) ++ [(o, .inl (cL, 1, .inr (.inl fo)))]) hP hD [0, 1, 2, 3, 4, 5, 6, 7, 8, 19] [9, 10, 11, 12, 13, 14, 15, 16, 17, 18] rfl rfl (by decide) (by decide) hk1 hFc hP1 hD1
    have hP : va_P dG vwCl ((xW A cA L P G V R N Y S wd (nI T) ft fl ce (nI h) mo) ++ (mW B cA L P G V Rp S Y O D th (nI h) wd (nI T) ft fl cl mo) ++ [(o, .inl (cL, 1, .inr (.inl fo)))]) H := hP.sub [10, 11, 12, 13, 14, 15, 16, 17, 18, 0, 1, 2, 3, 4, 5, 6, 7, 8, 9, 19] rfl
    have hD : va_D (aNew s.heap) ((xW A cA L P G V R N Y S wd (nI T) ft fl ce (nI h) mo) ++ (mW B cA L P G V Rp S Y O D th (nI h) wd (nI T) ft fl cl mo) ++ [(o, .inl (cL, 1, .inr (.inl fo)))]) := hD.sub [10, 11, 12, 13, 14, 15, 16, 17, 18, 0, 1, 2, 3, 4, 5, 6, 7, 8, 9, 19] (by decide) rfl
    refine lv_istore (lv' := [(5, .int (kGone (nI h) p0)), (0, .ref b), (1, .ref (A 0)), (2, .ref (B 0)), (3, .ref o), (4, .int (nI (4 * i)))]) hx hb dL_law_767 hl (by decide) rfl (fun ls hl => ?_)
    refine lv_aload_n hx hb dL_law_769 rfl (lv_at hl 3 rfl) ?_
    refine lv_aload_n hx hb dL_law_770 rfl (lv_at hl 1 rfl) ?_
    refine lv_iload hx hb dL_law_771 (lv_at hl 5 rfl) ?_
    refine lv_iconst (v := 1) hx hb dL_law_773 (by decide) ?_
    refine lv_iadd hx hb dL_law_774 ?_
    refine lv_topi (fun v9 e9 => ?_)
    have e9 := e9.trans (nI_add (4 * i) 1)
    subst e9
    refine va_sld hx hb hX hbl hbA hS (vp_in_nI (by omega) (by omega)) dL_law_775 ?_
    refine lv_topi (fun v9 e9 => ?_)
    have e9 := (e9.trans hp0.symm).symm
    subst e9
    have hPc := hP.sub (ws' := (mW B cA L P G V Rp S Y O D th (nI h) wd (nI T) ft fl cl mo)) [9, 10, 11, 12, 13, 14, 15, 16, 17, 18] rfl
    have hDc := hD.sub (ws' := (mW B cA L P G V Rp S Y O D th (nI h) wd (nI T) ft fl cl mo)) [9, 10, 11, 12, 13, 14, 15, 16, 17, 18] (by decide) rfl
    have hFc := va_free (wc := mW B cA L P G V Rp S Y O D th (nI h) wd (nI T) ft fl cl mo) hD hS hA [9, 10, 11, 12, 13, 14, 15, 16, 17, 18] rfl
    have hKc := hK.sub (tys' := tyI cA) [0] rfl
    refine va_calli (va_runV (As := [.int p0]) (rest := []) ⟨hx, hb, hml, hown, hts⟩ (c_X1_made l dG B cA H L P G V Rp S Y O D th (nI h) wd (nI T) ft fl cl mo p0 (nIr (b := 500) I.1.2 (by omega))) (cwV 1 hts gL_law_X1_made rfl rfl rfl (by decide +kernel) ⟨Nat.le_of_ble_eq_true rfl, Nat.le_of_ble_eq_true rfl⟩) ⟨fun a9 U g mk q => ⟨q.1, wPre_calling g mk a9 q.2⟩, va_recv hKc hPc (ci := 1) (q0 := 0) rfl rfl, fun U hU hW => ⟨rfl, wPre_of hKc hPc hDc hU hW⟩⟩ rfl rfl hl.1 rfl (lv_room (Nat.le_of_ble_eq_true rfl)) dL_law_776 ⟨(by show _ ≤ 1049; omega), (by show _ ≤ 11971; omega)⟩) hS (fun q _ h => hFc q h) hFc (fun r u t H locs ht hvm hw hB hz1 hk1 hS => ?_)
    obtain ⟨hr2, hu2⟩ := hw.2 hk
    subst hu2
    have hr2 := hr2.symm
    subst hr2
    obtain ⟨hP1, hK1, hD1⟩ := hB
    rw [ht] at hP1
    obtain ⟨hP, hD⟩ := va_join (wr := (xW A cA L P G V R N Y S wd (nI T) ft fl ce (nI h) mo) ++ [(o, .inl (cL, 1, .inr (.inl fo)))]) (w1 := (mW B cA L P G V Rp S Y O D (kGone (nI h) p0) (nI h) wd (nI T) ft fl cl mo)) hP hD [9, 10, 11, 12, 13, 14, 15, 16, 17, 18] [0, 1, 2, 3, 4, 5, 6, 7, 8, 19] rfl rfl (by decide) (by decide) hk1 hFc hP1 hD1
    have hP : va_P dG vwCl ((xW A cA L P G V R N Y S wd (nI T) ft fl ce (nI h) mo) ++ (mW B cA L P G V Rp S Y O D (kGone (nI h) p0) (nI h) wd (nI T) ft fl cl mo) ++ [(o, .inl (cL, 1, .inr (.inl fo)))]) H := hP.sub [0, 1, 2, 3, 4, 5, 6, 7, 8, 10, 11, 12, 13, 14, 15, 16, 17, 18, 19, 9] rfl
    have hD : va_D (aNew s.heap) ((xW A cA L P G V R N Y S wd (nI T) ft fl ce (nI h) mo) ++ (mW B cA L P G V Rp S Y O D (kGone (nI h) p0) (nI h) wd (nI T) ft fl cl mo) ++ [(o, .inl (cL, 1, .inr (.inl fo)))]) := hD.sub [0, 1, 2, 3, 4, 5, 6, 7, 8, 10, 11, 12, 13, 14, 15, 16, 17, 18, 19, 9] (by decide) rfl
    refine lv_istore (lv' := [(6, .int 0), (5, .int (kGone (nI h) p0)), (0, .ref b), (1, .ref (A 0)), (2, .ref (B 0)), (3, .ref o), (4, .int (nI (4 * i)))]) hx hb dL_law_779 hl (by decide) rfl (fun ls hl => ?_)
    refine lv_aload_n hx hb dL_law_781 rfl (lv_at hl 4 rfl) ?_
    have hPc := hP.sub (ws' := (mW B cA L P G V Rp S Y O D (kGone (nI h) p0) (nI h) wd (nI T) ft fl cl mo)) [9, 10, 11, 12, 13, 14, 15, 16, 17, 18] rfl
    have hDc := hD.sub (ws' := (mW B cA L P G V Rp S Y O D (kGone (nI h) p0) (nI h) wd (nI T) ft fl cl mo)) [9, 10, 11, 12, 13, 14, 15, 16, 17, 18] (by decide) rfl
    have hFc := va_free (wc := mW B cA L P G V Rp S Y O D (kGone (nI h) p0) (nI h) wd (nI T) ft fl cl mo) hD hS hA [9, 10, 11, 12, 13, 14, 15, 16, 17, 18] rfl
    have hKc := hK.sub (tys' := tyI cA) [0] rfl
    refine va_calli (va_runV (As := []) (rest := []) ⟨hx, hb, hml, hown, hts⟩ (c_X1_thrown l dG B cA H L P G V Rp S Y O D (kGone (nI h) p0) (nI h) wd (nI T) ft fl cl mo) (cwV 0 hts gL_law_X1_thrown rfl rfl rfl (by decide +kernel) ⟨Nat.le_of_ble_eq_true rfl, Nat.le_of_ble_eq_true rfl⟩) ⟨fun a9 U g mk q => ⟨q.1, wPre_calling g mk a9 q.2⟩, va_recv hKc hPc (ci := 1) (q0 := 0) rfl rfl, fun U hU hW => ⟨rfl, wPre_of hKc hPc hDc hU hW⟩⟩ rfl rfl hl.1 rfl (lv_room (Nat.le_of_ble_eq_true rfl)) dL_law_782 ⟨(by show _ ≤ 1049; omega), (by show _ ≤ 11971; omega)⟩) hS (fun q _ h => hFc q h) hFc (fun r u t H locs ht hvm hw hB hz1 hk1 hS => ?_)
    obtain ⟨hr3, hu3⟩ := hw
    subst hu3
    have hr3 := hr3.symm
    subst hr3
    obtain ⟨hP1, hK1, hD1⟩ := hB
    rw [ht] at hP1
    obtain ⟨hP, hD⟩ := va_join (wr := (xW A cA L P G V R N Y S wd (nI T) ft fl ce (nI h) mo) ++ [(o, .inl (cL, 1, .inr (.inl fo)))]) (w1 := (mW B cA L P G V Rp S Y O D (kGone (nI h) p0) (nI h) wd (nI T) ft fl cl mo)) hP hD [9, 10, 11, 12, 13, 14, 15, 16, 17, 18] [0, 1, 2, 3, 4, 5, 6, 7, 8, 19] rfl rfl (by decide) (by decide) hk1 hFc hP1 hD1
    have hP : va_P dG vwCl ((xW A cA L P G V R N Y S wd (nI T) ft fl ce (nI h) mo) ++ (mW B cA L P G V Rp S Y O D (kGone (nI h) p0) (nI h) wd (nI T) ft fl cl mo) ++ [(o, .inl (cL, 1, .inr (.inl fo)))]) H := hP.sub [0, 1, 2, 3, 4, 5, 6, 7, 8, 10, 11, 12, 13, 14, 15, 16, 17, 18, 19, 9] rfl
    have hD : va_D (aNew s.heap) ((xW A cA L P G V R N Y S wd (nI T) ft fl ce (nI h) mo) ++ (mW B cA L P G V Rp S Y O D (kGone (nI h) p0) (nI h) wd (nI T) ft fl cl mo) ++ [(o, .inl (cL, 1, .inr (.inl fo)))]) := hD.sub [0, 1, 2, 3, 4, 5, 6, 7, 8, 10, 11, 12, 13, 14, 15, 16, 17, 18, 19, 9] (by decide) rfl
    refine lv_iload hx hb dL_law_785 (lv_at hl 1 rfl) ?_
    refine lv_icmp_eq (tgt := 792) hx hb dL_law_787 (by decide) (fun _ => ?_) (fun h9 => absurd rfl h9)
    refine lv_iload hx hb dL_law_792 (lv_at hl 1 rfl) ?_
    refine lv_if_ne (tgt := 809) hx hb dL_law_794 (by decide) (fun _ => ?_) (fun h9 => absurd h9 hk)
    refine lv_goto (tgt := 1130) hx hb dL_law_809 (by decide) ?_
    exact k L P G V R N Y S Rp O D T h wd ft fl ce cl (kGone (nI h) p0) mo fo H locs ls I hP hD hS (lv_sub hl [2, 3, 4, 5, 6] rfl)
set_option maxHeartbeats 1000000 in
set_option maxRecDepth 100000 in
theorem case_madeAnew {p : Program} {l : Launch} {e : Env} {s : State} {m : MethodId} {below : List Frame} {meth : Method} {c : Code} {b Ln : Nat} {xs : Nat → Int32} {dG : va_G} {a A B : Nat → Nat} {o : Nat} {cA cL : ClassId} (hl0 : l.stackTraces = false) (C0 : lw_At p s m meth c b Ln xs) (hE : tgE a (aNew s.heap) s s.heap) (hK : va_K dG vwCl (tyL cA cL) s) (hLn : Ln ≤ 2048) {i : Nat} (hi : 4 * i + 4 ≤ Ln) (k : lwAt p l e s m below meth c b dG A B o cA cL 1130 i (20 + i + 1) (3749 + 6 * i + 6)) : lwAt p l e s m below meth c b dG A B o cA cL 812 i (20 + i) (3749 + 6 * i) := by
  obtain ⟨hx, hb, hr, hml, hown, hts0, hX, hbl, hlocks, hgv⟩ := C0
  have hts : ∀ w ∈ wsL_law, w.before #[Value.ref b] s = true := fun w h => hts0 w (wsL_law_in w h)
  have hA : ∀ q : Nat, s.heap.size ≤ q → aNew s.heap q := fun _ h => h
  have hbA : ¬ aNew s.heap b := Nat.not_le.mpr hbl
  intro L P G V R N Y S Rp O D T h wd ft fl ce cl th mo fo H locs ls I hP hD hS hl
  obtain ⟨p0, hp0⟩ : ∃ z, z = xs (nI (4 * i + 1)).toNatClampNeg := ⟨_, rfl⟩
  refine lv_aload_n hx hb dL_law_812 rfl (lv_at hl 1 rfl) ?_
  refine lv_aload_n hx hb dL_law_813 rfl (lv_at hl 0 rfl) ?_
  refine lv_iload hx hb dL_law_814 (lv_at hl 4 rfl) ?_
  refine lv_iconst (v := 1) hx hb dL_law_816 (by decide) ?_
  refine lv_iadd hx hb dL_law_817 ?_
  refine lv_topi (fun v9 e9 => ?_)
  have e9 := e9.trans (nI_add (4 * i) 1)
  subst e9
  refine va_sld hx hb hX hbl hbA hS (vp_in_nI (by omega) (by omega)) dL_law_818 ?_
  refine lv_topi (fun v9 e9 => ?_)
  have e9 := (e9.trans hp0.symm).symm
  subst e9
  refine lv_aload_n hx hb dL_law_819 rfl (lv_at hl 3 rfl) ?_
  by_cases hk : kGone (nI h) p0 = 0
  · obtain ⟨j, rfl, hj⟩ := below_nI (Nat.le_trans I.1.2 (by omega)) (kGone_0 hk)
    have hPc := hP.sub (ws' := (xW A cA L P G V R N Y S wd (nI T) ft fl ce (nI h) mo) ++ ([(o, .inl (cL, 1, .inr (.inl fo)))])) [0, 1, 2, 3, 4, 5, 6, 7, 8, 19] rfl
    have hDc := hD.sub (ws' := (xW A cA L P G V R N Y S wd (nI T) ft fl ce (nI h) mo) ++ ([(o, .inl (cL, 1, .inr (.inl fo)))])) [0, 1, 2, 3, 4, 5, 6, 7, 8, 19] (by decide) rfl
    have hFc := va_free (wc := (xW A cA L P G V R N Y S wd (nI T) ft fl ce (nI h) mo) ++ ([(o, .inl (cL, 1, .inr (.inl fo)))])) hD hS hA [0, 1, 2, 3, 4, 5, 6, 7, 8, 19] rfl
    refine va_calli (vx_runSW (As := [.ref (A 0), .int (nI j), .ref o]) (rest := []) ⟨hx, hb, hml, hown, hts⟩ (c_L_madeAnew_ok l hl0 dG a A o cA cL H L P G V R N Y S T h wd ft fl ce mo fo I.1.1 I.1.2 j hj) (vx_cwSW 3 hts gL_law_L_madeAnew rfl rfl rfl (by decide +kernel) ⟨Nat.le_of_ble_eq_true rfl, Nat.le_of_ble_eq_true rfl⟩) ⟨fun a9 U g mk q => ⟨q.1, wPre_calling g mk a9 q.2.1, q.2.2.calling g mk a9⟩, fun U hU hW => ⟨rfl, wPre_of hK hPc hDc hU hW, hE.go hW hS hFc⟩⟩ rfl rfl hl.1 rfl (lv_room (Nat.le_of_ble_eq_true rfl)) dL_law_820 ⟨(by show _ ≤ 1049; omega), (by show _ ≤ 11971; omega)⟩) hS (fun q _ h => hFc q h) hFc (fun r u t H locs ht hvm hw hB hz1 hk1 hS => ?_)
    obtain ⟨hr1, hu⟩ := hw
    subst hu
    have hr1 := hr1.symm
    subst hr1
    obtain ⟨hP1, hK1, hD1⟩ := hB
    rw [ht] at hP1
    obtain ⟨hP, hD⟩ := va_join (wr := (mW B cA L P G V Rp S Y O D th (nI h) wd (nI T) ft fl cl mo)) (w1 := (xW A cA L P G V R N Y S wd (nI T) ft fl ce (nI h) mo) ++ [(o, .inl (cL, 1, .inr (.inl (vp_updL fo 0 (rpS N j 4).toInt64))))]) hP hD [0, 1, 2, 3, 4, 5, 6, 7, 8, 19] [9, 10, 11, 12, 13, 14, 15, 16, 17, 18] rfl rfl (by decide) (by decide) hk1 hFc hP1 hD1
    have hP : va_P dG vwCl ((xW A cA L P G V R N Y S wd (nI T) ft fl ce (nI h) mo) ++ (mW B cA L P G V Rp S Y O D th (nI h) wd (nI T) ft fl cl mo) ++ [(o, .inl (cL, 1, .inr (.inl (vp_updL fo 0 (rpS N j 4).toInt64))))]) H := hP.sub [10, 11, 12, 13, 14, 15, 16, 17, 18, 0, 1, 2, 3, 4, 5, 6, 7, 8, 9, 19] rfl
    have hD : va_D (aNew s.heap) ((xW A cA L P G V R N Y S wd (nI T) ft fl ce (nI h) mo) ++ (mW B cA L P G V Rp S Y O D th (nI h) wd (nI T) ft fl cl mo) ++ [(o, .inl (cL, 1, .inr (.inl (vp_updL fo 0 (rpS N j 4).toInt64))))]) := hD.sub [10, 11, 12, 13, 14, 15, 16, 17, 18, 0, 1, 2, 3, 4, 5, 6, 7, 8, 9, 19] (by decide) rfl
    refine lv_istore (lv' := [(5, .int 0), (0, .ref b), (1, .ref (A 0)), (2, .ref (B 0)), (3, .ref o), (4, .int (nI (4 * i)))]) hx hb dL_law_823 hl (by decide) rfl (fun ls hl => ?_)
    refine lv_aload_n hx hb dL_law_825 rfl (lv_at hl 3 rfl) ?_
    refine lv_aload_n hx hb dL_law_826 rfl (lv_at hl 1 rfl) ?_
    refine lv_iload hx hb dL_law_827 (lv_at hl 5 rfl) ?_
    refine lv_iconst (v := 1) hx hb dL_law_829 (by decide) ?_
    refine lv_iadd hx hb dL_law_830 ?_
    refine lv_topi (fun v9 e9 => ?_)
    have e9 := e9.trans (nI_add (4 * i) 1)
    subst e9
    refine va_sld hx hb hX hbl hbA hS (vp_in_nI (by omega) (by omega)) dL_law_831 ?_
    refine lv_topi (fun v9 e9 => ?_)
    have e9 := (e9.trans hp0.symm).symm
    subst e9
    have hPc := hP.sub (ws' := (mW B cA L P G V Rp S Y O D th (nI h) wd (nI T) ft fl cl mo)) [9, 10, 11, 12, 13, 14, 15, 16, 17, 18] rfl
    have hDc := hD.sub (ws' := (mW B cA L P G V Rp S Y O D th (nI h) wd (nI T) ft fl cl mo)) [9, 10, 11, 12, 13, 14, 15, 16, 17, 18] (by decide) rfl
    have hFc := va_free (wc := mW B cA L P G V Rp S Y O D th (nI h) wd (nI T) ft fl cl mo) hD hS hA [9, 10, 11, 12, 13, 14, 15, 16, 17, 18] rfl
    have hKc := hK.sub (tys' := tyI cA) [0] rfl
    refine va_calli (va_runV (As := [.int (nI j)]) (rest := []) ⟨hx, hb, hml, hown, hts⟩ (c_X1_madeAnew l dG B cA H L P G V Rp S Y O D th (nI h) wd (nI T) ft fl cl mo (nI j) (nIr (b := 500) I.1.2 (by omega))) (cwV 1 hts gL_law_X1_madeAnew rfl rfl rfl (by decide +kernel) ⟨Nat.le_of_ble_eq_true rfl, Nat.le_of_ble_eq_true rfl⟩) ⟨fun a9 U g mk q => ⟨q.1, wPre_calling g mk a9 q.2⟩, va_recv hKc hPc (ci := 1) (q0 := 0) rfl rfl, fun U hU hW => ⟨rfl, wPre_of hKc hPc hDc hU hW⟩⟩ rfl rfl hl.1 rfl (lv_room (Nat.le_of_ble_eq_true rfl)) dL_law_832 ⟨(by show _ ≤ 1049; omega), (by show _ ≤ 11971; omega)⟩) hS (fun q _ h => hFc q h) hFc (fun r u t H locs ht hvm hw hB hz1 hk1 hS => ?_)
    obtain ⟨hr2, hu2⟩ := hw.1 hk
    subst hu2
    have hr2 := hr2.symm
    subst hr2
    obtain ⟨hP1, hK1, hD1⟩ := hB
    rw [ht] at hP1
    obtain ⟨hP, hD⟩ := va_join (wr := (xW A cA L P G V R N Y S wd (nI T) ft fl ce (nI h) mo) ++ [(o, .inl (cL, 1, .inr (.inl (vp_updL fo 0 (rpS N j 4).toInt64))))]) (w1 := (mW B cA L P G V Rp S Y O D 0 (nI h) wd (nI T) ft fl cl mo)) hP hD [9, 10, 11, 12, 13, 14, 15, 16, 17, 18] [0, 1, 2, 3, 4, 5, 6, 7, 8, 19] rfl rfl (by decide) (by decide) hk1 hFc hP1 hD1
    have hP : va_P dG vwCl ((xW A cA L P G V R N Y S wd (nI T) ft fl ce (nI h) mo) ++ (mW B cA L P G V Rp S Y O D 0 (nI h) wd (nI T) ft fl cl mo) ++ [(o, .inl (cL, 1, .inr (.inl (vp_updL fo 0 (rpS N j 4).toInt64))))]) H := hP.sub [0, 1, 2, 3, 4, 5, 6, 7, 8, 10, 11, 12, 13, 14, 15, 16, 17, 18, 19, 9] rfl
    have hD : va_D (aNew s.heap) ((xW A cA L P G V R N Y S wd (nI T) ft fl ce (nI h) mo) ++ (mW B cA L P G V Rp S Y O D 0 (nI h) wd (nI T) ft fl cl mo) ++ [(o, .inl (cL, 1, .inr (.inl (vp_updL fo 0 (rpS N j 4).toInt64))))]) := hD.sub [0, 1, 2, 3, 4, 5, 6, 7, 8, 10, 11, 12, 13, 14, 15, 16, 17, 18, 19, 9] (by decide) rfl
    refine lv_istore (lv' := [(6, .int (Y (nI j).toNatClampNeg)), (5, .int 0), (0, .ref b), (1, .ref (A 0)), (2, .ref (B 0)), (3, .ref o), (4, .int (nI (4 * i)))]) hx hb dL_law_835 hl (by decide) rfl (fun ls hl => ?_)
    refine lv_aload_n hx hb dL_law_837 rfl (lv_at hl 4 rfl) ?_
    have hPc := hP.sub (ws' := (mW B cA L P G V Rp S Y O D 0 (nI h) wd (nI T) ft fl cl mo)) [9, 10, 11, 12, 13, 14, 15, 16, 17, 18] rfl
    have hDc := hD.sub (ws' := (mW B cA L P G V Rp S Y O D 0 (nI h) wd (nI T) ft fl cl mo)) [9, 10, 11, 12, 13, 14, 15, 16, 17, 18] (by decide) rfl
    have hFc := va_free (wc := mW B cA L P G V Rp S Y O D 0 (nI h) wd (nI T) ft fl cl mo) hD hS hA [9, 10, 11, 12, 13, 14, 15, 16, 17, 18] rfl
    have hKc := hK.sub (tys' := tyI cA) [0] rfl
    refine va_calli (va_runV (As := []) (rest := []) ⟨hx, hb, hml, hown, hts⟩ (c_X1_thrown l dG B cA H L P G V Rp S Y O D 0 (nI h) wd (nI T) ft fl cl mo) (cwV 0 hts gL_law_X1_thrown rfl rfl rfl (by decide +kernel) ⟨Nat.le_of_ble_eq_true rfl, Nat.le_of_ble_eq_true rfl⟩) ⟨fun a9 U g mk q => ⟨q.1, wPre_calling g mk a9 q.2⟩, va_recv hKc hPc (ci := 1) (q0 := 0) rfl rfl, fun U hU hW => ⟨rfl, wPre_of hKc hPc hDc hU hW⟩⟩ rfl rfl hl.1 rfl (lv_room (Nat.le_of_ble_eq_true rfl)) dL_law_838 ⟨(by show _ ≤ 1049; omega), (by show _ ≤ 11971; omega)⟩) hS (fun q _ h => hFc q h) hFc (fun r u t H locs ht hvm hw hB hz1 hk1 hS => ?_)
    obtain ⟨hr3, hu3⟩ := hw
    subst hu3
    have hr3 := hr3.symm
    subst hr3
    obtain ⟨hP1, hK1, hD1⟩ := hB
    rw [ht] at hP1
    obtain ⟨hP, hD⟩ := va_join (wr := (xW A cA L P G V R N Y S wd (nI T) ft fl ce (nI h) mo) ++ [(o, .inl (cL, 1, .inr (.inl (vp_updL fo 0 (rpS N j 4).toInt64))))]) (w1 := (mW B cA L P G V Rp S Y O D 0 (nI h) wd (nI T) ft fl cl mo)) hP hD [9, 10, 11, 12, 13, 14, 15, 16, 17, 18] [0, 1, 2, 3, 4, 5, 6, 7, 8, 19] rfl rfl (by decide) (by decide) hk1 hFc hP1 hD1
    have hP : va_P dG vwCl ((xW A cA L P G V R N Y S wd (nI T) ft fl ce (nI h) mo) ++ (mW B cA L P G V Rp S Y O D 0 (nI h) wd (nI T) ft fl cl mo) ++ [(o, .inl (cL, 1, .inr (.inl (vp_updL fo 0 (rpS N j 4).toInt64))))]) H := hP.sub [0, 1, 2, 3, 4, 5, 6, 7, 8, 10, 11, 12, 13, 14, 15, 16, 17, 18, 19, 9] rfl
    have hD : va_D (aNew s.heap) ((xW A cA L P G V R N Y S wd (nI T) ft fl ce (nI h) mo) ++ (mW B cA L P G V Rp S Y O D 0 (nI h) wd (nI T) ft fl cl mo) ++ [(o, .inl (cL, 1, .inr (.inl (vp_updL fo 0 (rpS N j 4).toInt64))))]) := hD.sub [0, 1, 2, 3, 4, 5, 6, 7, 8, 10, 11, 12, 13, 14, 15, 16, 17, 18, 19, 9] (by decide) rfl
    refine lv_iload hx hb dL_law_841 (lv_at hl 1 rfl) ?_
    refine lv_icmp_eq (tgt := 848) hx hb dL_law_843 (by decide) (fun _ => ?_) (fun h9 => absurd (by decide) h9)
    refine lv_iload hx hb dL_law_848 (lv_at hl 1 rfl) ?_
    refine lv_if_ne (tgt := 865) hx hb dL_law_850 (by decide) (fun h9 => absurd (by decide) h9) (fun _ => ?_)
    refine lv_aload_n hx hb dL_law_853 rfl (lv_at hl 5 rfl) ?_
    refine lv_iconst (v := 0) hx hb dL_law_854 (by decide) ?_
    refine va_lald hx hb hK hP 19 1 rfl rfl (i := 0) (vp_in_nI (n := 0) (by omega) (by omega)) dL_law_855 ?_
    refine lv_iload hx hb dL_law_856 (lv_at hl 0 rfl) ?_
    refine lv_i2l hx hb dL_law_858 rfl ?_
    refine W.lcmp hx hb dL_law_859 ?_
    refine lv_topi (fun v9 e9 => ?_)
    have e9 := e9.trans (lgc_eq (eq_anew I hj))
    subst e9
    refine lv_if_eq (tgt := 865) hx hb dL_law_860 (by decide) (fun _ => ?_) (fun h9 => absurd (by decide) h9)
    refine lv_goto (tgt := 1130) hx hb dL_law_865 (by decide) ?_
    exact k L P G V R N Y S Rp O D T h wd ft fl ce cl 0 mo (vp_updL fo 0 (rpS N j 4).toInt64) H locs ls I hP hD hS (lv_sub hl [2, 3, 4, 5, 6] rfl)
  · have hPc := hP.sub (ws' := (xW A cA L P G V R N Y S wd (nI T) ft fl ce (nI h) mo) ++ ([(o, .inl (cL, 1, .inr (.inl fo)))])) [0, 1, 2, 3, 4, 5, 6, 7, 8, 19] rfl
    have hDc := hD.sub (ws' := (xW A cA L P G V R N Y S wd (nI T) ft fl ce (nI h) mo) ++ ([(o, .inl (cL, 1, .inr (.inl fo)))])) [0, 1, 2, 3, 4, 5, 6, 7, 8, 19] (by decide) rfl
    have hFc := va_free (wc := (xW A cA L P G V R N Y S wd (nI T) ft fl ce (nI h) mo) ++ ([(o, .inl (cL, 1, .inr (.inl fo)))])) hD hS hA [0, 1, 2, 3, 4, 5, 6, 7, 8, 19] rfl
    refine va_calli (vx_runSW (As := [.ref (A 0), .int p0, .ref o]) (rest := []) ⟨hx, hb, hml, hown, hts⟩ (c_L_madeAnew_no l hl0 dG a A o cA cL H L P G V R N Y S T h wd ft fl ce mo fo p0 I.1.1 I.1.2 hk) (vx_cwSW 3 hts gL_law_L_madeAnew rfl rfl rfl (by decide +kernel) ⟨Nat.le_of_ble_eq_true rfl, Nat.le_of_ble_eq_true rfl⟩) ⟨fun a9 U g mk q => ⟨q.1, wPre_calling g mk a9 q.2.1, q.2.2.calling g mk a9⟩, fun U hU hW => ⟨rfl, wPre_of hK hPc hDc hU hW, hE.go hW hS hFc⟩⟩ rfl rfl hl.1 rfl (lv_room (Nat.le_of_ble_eq_true rfl)) dL_law_820 ⟨(by show _ ≤ 1049; omega), (by show _ ≤ 11971; omega)⟩) hS (fun q _ h => hFc q h) hFc (fun r u t H locs ht hvm hw hB hz1 hk1 hS => ?_)
    obtain ⟨hr1, hu⟩ := hw
    subst hu
    have hr1 := hr1.symm
    subst hr1
    obtain ⟨hP1, hK1, hD1⟩ := hB
    rw [ht] at hP1
    obtain ⟨hP, hD⟩ := va_join (wr := (mW B cA L P G V Rp S Y O D th (nI h) wd (nI T) ft fl cl mo)) (w1 := (xW A cA L P G V R N Y S wd (nI T) ft fl ce (nI h) mo) ++ [(o, .inl (cL, 1, .inr (.inl fo)))]) hP hD [0, 1, 2, 3, 4, 5, 6, 7, 8, 19] [9, 10, 11, 12, 13, 14, 15, 16, 17, 18] rfl rfl (by decide) (by decide) hk1 hFc hP1 hD1
    have hP : va_P dG vwCl ((xW A cA L P G V R N Y S wd (nI T) ft fl ce (nI h) mo) ++ (mW B cA L P G V Rp S Y O D th (nI h) wd (nI T) ft fl cl mo) ++ [(o, .inl (cL, 1, .inr (.inl fo)))]) H := hP.sub [10, 11, 12, 13, 14, 15, 16, 17, 18, 0, 1, 2, 3, 4, 5, 6, 7, 8, 9, 19] rfl
    have hD : va_D (aNew s.heap) ((xW A cA L P G V R N Y S wd (nI T) ft fl ce (nI h) mo) ++ (mW B cA L P G V Rp S Y O D th (nI h) wd (nI T) ft fl cl mo) ++ [(o, .inl (cL, 1, .inr (.inl fo)))]) := hD.sub [10, 11, 12, 13, 14, 15, 16, 17, 18, 0, 1, 2, 3, 4, 5, 6, 7, 8, 9, 19] (by decide) rfl
    refine lv_istore (lv' := [(5, .int (kGone (nI h) p0)), (0, .ref b), (1, .ref (A 0)), (2, .ref (B 0)), (3, .ref o), (4, .int (nI (4 * i)))]) hx hb dL_law_823 hl (by decide) rfl (fun ls hl => ?_)
    refine lv_aload_n hx hb dL_law_825 rfl (lv_at hl 3 rfl) ?_
    refine lv_aload_n hx hb dL_law_826 rfl (lv_at hl 1 rfl) ?_
    refine lv_iload hx hb dL_law_827 (lv_at hl 5 rfl) ?_
    refine lv_iconst (v := 1) hx hb dL_law_829 (by decide) ?_
    refine lv_iadd hx hb dL_law_830 ?_
    refine lv_topi (fun v9 e9 => ?_)
    have e9 := e9.trans (nI_add (4 * i) 1)
    subst e9
    refine va_sld hx hb hX hbl hbA hS (vp_in_nI (by omega) (by omega)) dL_law_831 ?_
    refine lv_topi (fun v9 e9 => ?_)
    have e9 := (e9.trans hp0.symm).symm
    subst e9
    have hPc := hP.sub (ws' := (mW B cA L P G V Rp S Y O D th (nI h) wd (nI T) ft fl cl mo)) [9, 10, 11, 12, 13, 14, 15, 16, 17, 18] rfl
    have hDc := hD.sub (ws' := (mW B cA L P G V Rp S Y O D th (nI h) wd (nI T) ft fl cl mo)) [9, 10, 11, 12, 13, 14, 15, 16, 17, 18] (by decide) rfl
    have hFc := va_free (wc := mW B cA L P G V Rp S Y O D th (nI h) wd (nI T) ft fl cl mo) hD hS hA [9, 10, 11, 12, 13, 14, 15, 16, 17, 18] rfl
    have hKc := hK.sub (tys' := tyI cA) [0] rfl
    refine va_calli (va_runV (As := [.int p0]) (rest := []) ⟨hx, hb, hml, hown, hts⟩ (c_X1_madeAnew l dG B cA H L P G V Rp S Y O D th (nI h) wd (nI T) ft fl cl mo p0 (nIr (b := 500) I.1.2 (by omega))) (cwV 1 hts gL_law_X1_madeAnew rfl rfl rfl (by decide +kernel) ⟨Nat.le_of_ble_eq_true rfl, Nat.le_of_ble_eq_true rfl⟩) ⟨fun a9 U g mk q => ⟨q.1, wPre_calling g mk a9 q.2⟩, va_recv hKc hPc (ci := 1) (q0 := 0) rfl rfl, fun U hU hW => ⟨rfl, wPre_of hKc hPc hDc hU hW⟩⟩ rfl rfl hl.1 rfl (lv_room (Nat.le_of_ble_eq_true rfl)) dL_law_832 ⟨(by show _ ≤ 1049; omega), (by show _ ≤ 11971; omega)⟩) hS (fun q _ h => hFc q h) hFc (fun r u t H locs ht hvm hw hB hz1 hk1 hS => ?_)
    obtain ⟨hr2, hu2⟩ := hw.2 hk
    subst hu2
    have hr2 := hr2.symm
    subst hr2
    obtain ⟨hP1, hK1, hD1⟩ := hB
    rw [ht] at hP1
    obtain ⟨hP, hD⟩ := va_join (wr := (xW A cA L P G V R N Y S wd (nI T) ft fl ce (nI h) mo) ++ [(o, .inl (cL, 1, .inr (.inl fo)))]) (w1 := (mW B cA L P G V Rp S Y O D (kGone (nI h) p0) (nI h) wd (nI T) ft fl cl mo)) hP hD [9, 10, 11, 12, 13, 14, 15, 16, 17, 18] [0, 1, 2, 3, 4, 5, 6, 7, 8, 19] rfl rfl (by decide) (by decide) hk1 hFc hP1 hD1
    have hP : va_P dG vwCl ((xW A cA L P G V R N Y S wd (nI T) ft fl ce (nI h) mo) ++ (mW B cA L P G V Rp S Y O D (kGone (nI h) p0) (nI h) wd (nI T) ft fl cl mo) ++ [(o, .inl (cL, 1, .inr (.inl fo)))]) H := hP.sub [0, 1, 2, 3, 4, 5, 6, 7, 8, 10, 11, 12, 13, 14, 15, 16, 17, 18, 19, 9] rfl
    have hD : va_D (aNew s.heap) ((xW A cA L P G V R N Y S wd (nI T) ft fl ce (nI h) mo) ++ (mW B cA L P G V Rp S Y O D (kGone (nI h) p0) (nI h) wd (nI T) ft fl cl mo) ++ [(o, .inl (cL, 1, .inr (.inl fo)))]) := hD.sub [0, 1, 2, 3, 4, 5, 6, 7, 8, 10, 11, 12, 13, 14, 15, 16, 17, 18, 19, 9] (by decide) rfl
    refine lv_istore (lv' := [(6, .int 0), (5, .int (kGone (nI h) p0)), (0, .ref b), (1, .ref (A 0)), (2, .ref (B 0)), (3, .ref o), (4, .int (nI (4 * i)))]) hx hb dL_law_835 hl (by decide) rfl (fun ls hl => ?_)
    refine lv_aload_n hx hb dL_law_837 rfl (lv_at hl 4 rfl) ?_
    have hPc := hP.sub (ws' := (mW B cA L P G V Rp S Y O D (kGone (nI h) p0) (nI h) wd (nI T) ft fl cl mo)) [9, 10, 11, 12, 13, 14, 15, 16, 17, 18] rfl
    have hDc := hD.sub (ws' := (mW B cA L P G V Rp S Y O D (kGone (nI h) p0) (nI h) wd (nI T) ft fl cl mo)) [9, 10, 11, 12, 13, 14, 15, 16, 17, 18] (by decide) rfl
    have hFc := va_free (wc := mW B cA L P G V Rp S Y O D (kGone (nI h) p0) (nI h) wd (nI T) ft fl cl mo) hD hS hA [9, 10, 11, 12, 13, 14, 15, 16, 17, 18] rfl
    have hKc := hK.sub (tys' := tyI cA) [0] rfl
    refine va_calli (va_runV (As := []) (rest := []) ⟨hx, hb, hml, hown, hts⟩ (c_X1_thrown l dG B cA H L P G V Rp S Y O D (kGone (nI h) p0) (nI h) wd (nI T) ft fl cl mo) (cwV 0 hts gL_law_X1_thrown rfl rfl rfl (by decide +kernel) ⟨Nat.le_of_ble_eq_true rfl, Nat.le_of_ble_eq_true rfl⟩) ⟨fun a9 U g mk q => ⟨q.1, wPre_calling g mk a9 q.2⟩, va_recv hKc hPc (ci := 1) (q0 := 0) rfl rfl, fun U hU hW => ⟨rfl, wPre_of hKc hPc hDc hU hW⟩⟩ rfl rfl hl.1 rfl (lv_room (Nat.le_of_ble_eq_true rfl)) dL_law_838 ⟨(by show _ ≤ 1049; omega), (by show _ ≤ 11971; omega)⟩) hS (fun q _ h => hFc q h) hFc (fun r u t H locs ht hvm hw hB hz1 hk1 hS => ?_)
    obtain ⟨hr3, hu3⟩ := hw
    subst hu3
    have hr3 := hr3.symm
    subst hr3
    obtain ⟨hP1, hK1, hD1⟩ := hB
    rw [ht] at hP1
    obtain ⟨hP, hD⟩ := va_join (wr := (xW A cA L P G V R N Y S wd (nI T) ft fl ce (nI h) mo) ++ [(o, .inl (cL, 1, .inr (.inl fo)))]) (w1 := (mW B cA L P G V Rp S Y O D (kGone (nI h) p0) (nI h) wd (nI T) ft fl cl mo)) hP hD [9, 10, 11, 12, 13, 14, 15, 16, 17, 18] [0, 1, 2, 3, 4, 5, 6, 7, 8, 19] rfl rfl (by decide) (by decide) hk1 hFc hP1 hD1
    have hP : va_P dG vwCl ((xW A cA L P G V R N Y S wd (nI T) ft fl ce (nI h) mo) ++ (mW B cA L P G V Rp S Y O D (kGone (nI h) p0) (nI h) wd (nI T) ft fl cl mo) ++ [(o, .inl (cL, 1, .inr (.inl fo)))]) H := hP.sub [0, 1, 2, 3, 4, 5, 6, 7, 8, 10, 11, 12, 13, 14, 15, 16, 17, 18, 19, 9] rfl
    have hD : va_D (aNew s.heap) ((xW A cA L P G V R N Y S wd (nI T) ft fl ce (nI h) mo) ++ (mW B cA L P G V Rp S Y O D (kGone (nI h) p0) (nI h) wd (nI T) ft fl cl mo) ++ [(o, .inl (cL, 1, .inr (.inl fo)))]) := hD.sub [0, 1, 2, 3, 4, 5, 6, 7, 8, 10, 11, 12, 13, 14, 15, 16, 17, 18, 19, 9] (by decide) rfl
    refine lv_iload hx hb dL_law_841 (lv_at hl 1 rfl) ?_
    refine lv_icmp_eq (tgt := 848) hx hb dL_law_843 (by decide) (fun _ => ?_) (fun h9 => absurd rfl h9)
    refine lv_iload hx hb dL_law_848 (lv_at hl 1 rfl) ?_
    refine lv_if_ne (tgt := 865) hx hb dL_law_850 (by decide) (fun _ => ?_) (fun h9 => absurd h9 hk)
    refine lv_goto (tgt := 1130) hx hb dL_law_865 (by decide) ?_
    exact k L P G V R N Y S Rp O D T h wd ft fl ce cl (kGone (nI h) p0) mo fo H locs ls I hP hD hS (lv_sub hl [2, 3, 4, 5, 6] rfl)
set_option maxHeartbeats 1000000 in
set_option maxRecDepth 100000 in
theorem case_sold {p : Program} {l : Launch} {e : Env} {s : State} {m : MethodId} {below : List Frame} {meth : Method} {c : Code} {b Ln : Nat} {xs : Nat → Int32} {dG : va_G} {a A B : Nat → Nat} {o : Nat} {cA cL : ClassId} (hl0 : l.stackTraces = false) (C0 : lw_At p s m meth c b Ln xs) (hE : tgE a (aNew s.heap) s s.heap) (hK : va_K dG vwCl (tyL cA cL) s) (hLn : Ln ≤ 2048) {i : Nat} (hi : 4 * i + 4 ≤ Ln) (k : lwAt p l e s m below meth c b dG A B o cA cL 1130 i (20 + i + 1) (3749 + 6 * i + 6)) : lwAt p l e s m below meth c b dG A B o cA cL 868 i (20 + i) (3749 + 6 * i) := by
  obtain ⟨hx, hb, hr, hml, hown, hts0, hX, hbl, hlocks, hgv⟩ := C0
  have hts : ∀ w ∈ wsL_law, w.before #[Value.ref b] s = true := fun w h => hts0 w (wsL_law_in w h)
  have hA : ∀ q : Nat, s.heap.size ≤ q → aNew s.heap q := fun _ h => h
  have hbA : ¬ aNew s.heap b := Nat.not_le.mpr hbl
  intro L P G V R N Y S Rp O D T h wd ft fl ce cl th mo fo H locs ls I hP hD hS hl
  obtain ⟨p0, hp0⟩ : ∃ z, z = xs (nI (4 * i + 1)).toNatClampNeg := ⟨_, rfl⟩
  refine lv_aload_n hx hb dL_law_868 rfl (lv_at hl 1 rfl) ?_
  refine lv_aload_n hx hb dL_law_869 rfl (lv_at hl 0 rfl) ?_
  refine lv_iload hx hb dL_law_870 (lv_at hl 4 rfl) ?_
  refine lv_iconst (v := 1) hx hb dL_law_872 (by decide) ?_
  refine lv_iadd hx hb dL_law_873 ?_
  refine lv_topi (fun v9 e9 => ?_)
  have e9 := e9.trans (nI_add (4 * i) 1)
  subst e9
  refine va_sld hx hb hX hbl hbA hS (vp_in_nI (by omega) (by omega)) dL_law_874 ?_
  refine lv_topi (fun v9 e9 => ?_)
  have e9 := (e9.trans hp0.symm).symm
  subst e9
  refine lv_aload_n hx hb dL_law_875 rfl (lv_at hl 3 rfl) ?_
  by_cases hk : kSold (nI h) p0 = 0
  · have hPc := hP.sub (ws' := (xW A cA L P G V R N Y S wd (nI T) ft fl ce (nI h) mo) ++ ([(o, .inl (cL, 1, .inr (.inl fo)))])) [0, 1, 2, 3, 4, 5, 6, 7, 8, 19] rfl
    have hDc := hD.sub (ws' := (xW A cA L P G V R N Y S wd (nI T) ft fl ce (nI h) mo) ++ ([(o, .inl (cL, 1, .inr (.inl fo)))])) [0, 1, 2, 3, 4, 5, 6, 7, 8, 19] (by decide) rfl
    have hFc := va_free (wc := (xW A cA L P G V R N Y S wd (nI T) ft fl ce (nI h) mo) ++ ([(o, .inl (cL, 1, .inr (.inl fo)))])) hD hS hA [0, 1, 2, 3, 4, 5, 6, 7, 8, 19] rfl
    refine va_calli (vx_runSW (As := [.ref (A 0), .int p0, .ref o]) (rest := []) ⟨hx, hb, hml, hown, hts⟩ (c_L_sold l hl0 dG a A o cA cL H L P G V R N Y S T h wd ft fl ce mo fo p0 I.1.1 I.1.2) (vx_cwSW 3 hts gL_law_L_sold rfl rfl rfl (by decide +kernel) ⟨Nat.le_of_ble_eq_true rfl, Nat.le_of_ble_eq_true rfl⟩) ⟨fun a9 U g mk q => ⟨q.1, wPre_calling g mk a9 q.2.1, q.2.2.calling g mk a9⟩, fun U hU hW => ⟨rfl, wPre_of hK hPc hDc hU hW, hE.go hW hS hFc⟩⟩ rfl rfl hl.1 rfl (lv_room (Nat.le_of_ble_eq_true rfl)) dL_law_876 ⟨(by show _ ≤ 1049; omega), (by show _ ≤ 11971; omega)⟩) hS (fun q _ h => hFc q h) hFc (fun r u t H locs ht hvm hw hB hz1 hk1 hS => ?_)
    obtain ⟨hr1, hu0, hu1⟩ := hw
    have hu := hu0 hk
    subst hu
    have hr1 := (hr1.trans hk).symm
    subst hr1
    obtain ⟨hP1, hK1, hD1⟩ := hB
    rw [ht] at hP1
    obtain ⟨hP, hD⟩ := va_join (wr := (mW B cA L P G V Rp S Y O D th (nI h) wd (nI T) ft fl cl mo)) (w1 := (xW A cA L P G V R N Y S wd (nI T) ft fl ce (nI h) mo) ++ [(o, .inl (cL, 1, .inr (.inl (vp_updL fo 0 (S p0.toNatClampNeg).toInt64))))]) hP hD [0, 1, 2, 3, 4, 5, 6, 7, 8, 19] [9, 10, 11, 12, 13, 14, 15, 16, 17, 18] rfl rfl (by decide) (by decide) hk1 hFc hP1 hD1
    have hP : va_P dG vwCl ((xW A cA L P G V R N Y S wd (nI T) ft fl ce (nI h) mo) ++ (mW B cA L P G V Rp S Y O D th (nI h) wd (nI T) ft fl cl mo) ++ [(o, .inl (cL, 1, .inr (.inl (vp_updL fo 0 (S p0.toNatClampNeg).toInt64))))]) H := hP.sub [10, 11, 12, 13, 14, 15, 16, 17, 18, 0, 1, 2, 3, 4, 5, 6, 7, 8, 9, 19] rfl
    have hD : va_D (aNew s.heap) ((xW A cA L P G V R N Y S wd (nI T) ft fl ce (nI h) mo) ++ (mW B cA L P G V Rp S Y O D th (nI h) wd (nI T) ft fl cl mo) ++ [(o, .inl (cL, 1, .inr (.inl (vp_updL fo 0 (S p0.toNatClampNeg).toInt64))))]) := hD.sub [10, 11, 12, 13, 14, 15, 16, 17, 18, 0, 1, 2, 3, 4, 5, 6, 7, 8, 9, 19] (by decide) rfl
    refine lv_istore (lv' := [(5, .int 0), (0, .ref b), (1, .ref (A 0)), (2, .ref (B 0)), (3, .ref o), (4, .int (nI (4 * i)))]) hx hb dL_law_879 hl (by decide) rfl (fun ls hl => ?_)
    refine lv_aload_n hx hb dL_law_881 rfl (lv_at hl 3 rfl) ?_
    refine lv_aload_n hx hb dL_law_882 rfl (lv_at hl 1 rfl) ?_
    refine lv_iload hx hb dL_law_883 (lv_at hl 5 rfl) ?_
    refine lv_iconst (v := 1) hx hb dL_law_885 (by decide) ?_
    refine lv_iadd hx hb dL_law_886 ?_
    refine lv_topi (fun v9 e9 => ?_)
    have e9 := e9.trans (nI_add (4 * i) 1)
    subst e9
    refine va_sld hx hb hX hbl hbA hS (vp_in_nI (by omega) (by omega)) dL_law_887 ?_
    refine lv_topi (fun v9 e9 => ?_)
    have e9 := (e9.trans hp0.symm).symm
    subst e9
    have hPc := hP.sub (ws' := (mW B cA L P G V Rp S Y O D th (nI h) wd (nI T) ft fl cl mo)) [9, 10, 11, 12, 13, 14, 15, 16, 17, 18] rfl
    have hDc := hD.sub (ws' := (mW B cA L P G V Rp S Y O D th (nI h) wd (nI T) ft fl cl mo)) [9, 10, 11, 12, 13, 14, 15, 16, 17, 18] (by decide) rfl
    have hFc := va_free (wc := mW B cA L P G V Rp S Y O D th (nI h) wd (nI T) ft fl cl mo) hD hS hA [9, 10, 11, 12, 13, 14, 15, 16, 17, 18] rfl
    have hKc := hK.sub (tys' := tyI cA) [0] rfl
    refine va_calli (va_runV (As := [.int p0]) (rest := []) ⟨hx, hb, hml, hown, hts⟩ (c_X1_sold l dG B cA H L P G V Rp S Y O D th (nI h) wd (nI T) ft fl cl mo p0 (nIr (b := 500) I.1.2 (by omega))) (cwV 1 hts gL_law_X1_sold rfl rfl rfl (by decide +kernel) ⟨Nat.le_of_ble_eq_true rfl, Nat.le_of_ble_eq_true rfl⟩) ⟨fun a9 U g mk q => ⟨q.1, wPre_calling g mk a9 q.2⟩, va_recv hKc hPc (ci := 1) (q0 := 0) rfl rfl, fun U hU hW => ⟨rfl, wPre_of hKc hPc hDc hU hW⟩⟩ rfl rfl hl.1 rfl (lv_room (Nat.le_of_ble_eq_true rfl)) dL_law_888 ⟨(by show _ ≤ 1049; omega), (by show _ ≤ 11971; omega)⟩) hS (fun q _ h => hFc q h) hFc (fun r u t H locs ht hvm hw hB hz1 hk1 hS => ?_)
    obtain ⟨hr2, hu2⟩ := hw.1 hk
    subst hu2
    have hr2 := hr2.symm
    subst hr2
    obtain ⟨hP1, hK1, hD1⟩ := hB
    rw [ht] at hP1
    obtain ⟨hP, hD⟩ := va_join (wr := (xW A cA L P G V R N Y S wd (nI T) ft fl ce (nI h) mo) ++ [(o, .inl (cL, 1, .inr (.inl (vp_updL fo 0 (S p0.toNatClampNeg).toInt64))))]) (w1 := (mW B cA L P G V Rp S Y O D 0 (nI h) wd (nI T) ft fl cl mo)) hP hD [9, 10, 11, 12, 13, 14, 15, 16, 17, 18] [0, 1, 2, 3, 4, 5, 6, 7, 8, 19] rfl rfl (by decide) (by decide) hk1 hFc hP1 hD1
    have hP : va_P dG vwCl ((xW A cA L P G V R N Y S wd (nI T) ft fl ce (nI h) mo) ++ (mW B cA L P G V Rp S Y O D 0 (nI h) wd (nI T) ft fl cl mo) ++ [(o, .inl (cL, 1, .inr (.inl (vp_updL fo 0 (S p0.toNatClampNeg).toInt64))))]) H := hP.sub [0, 1, 2, 3, 4, 5, 6, 7, 8, 10, 11, 12, 13, 14, 15, 16, 17, 18, 19, 9] rfl
    have hD : va_D (aNew s.heap) ((xW A cA L P G V R N Y S wd (nI T) ft fl ce (nI h) mo) ++ (mW B cA L P G V Rp S Y O D 0 (nI h) wd (nI T) ft fl cl mo) ++ [(o, .inl (cL, 1, .inr (.inl (vp_updL fo 0 (S p0.toNatClampNeg).toInt64))))]) := hD.sub [0, 1, 2, 3, 4, 5, 6, 7, 8, 10, 11, 12, 13, 14, 15, 16, 17, 18, 19, 9] (by decide) rfl
    refine lv_istore (lv' := [(6, .int (S p0.toNatClampNeg)), (5, .int 0), (0, .ref b), (1, .ref (A 0)), (2, .ref (B 0)), (3, .ref o), (4, .int (nI (4 * i)))]) hx hb dL_law_891 hl (by decide) rfl (fun ls hl => ?_)
    refine lv_aload_n hx hb dL_law_893 rfl (lv_at hl 4 rfl) ?_
    have hPc := hP.sub (ws' := (mW B cA L P G V Rp S Y O D 0 (nI h) wd (nI T) ft fl cl mo)) [9, 10, 11, 12, 13, 14, 15, 16, 17, 18] rfl
    have hDc := hD.sub (ws' := (mW B cA L P G V Rp S Y O D 0 (nI h) wd (nI T) ft fl cl mo)) [9, 10, 11, 12, 13, 14, 15, 16, 17, 18] (by decide) rfl
    have hFc := va_free (wc := mW B cA L P G V Rp S Y O D 0 (nI h) wd (nI T) ft fl cl mo) hD hS hA [9, 10, 11, 12, 13, 14, 15, 16, 17, 18] rfl
    have hKc := hK.sub (tys' := tyI cA) [0] rfl
    refine va_calli (va_runV (As := []) (rest := []) ⟨hx, hb, hml, hown, hts⟩ (c_X1_thrown l dG B cA H L P G V Rp S Y O D 0 (nI h) wd (nI T) ft fl cl mo) (cwV 0 hts gL_law_X1_thrown rfl rfl rfl (by decide +kernel) ⟨Nat.le_of_ble_eq_true rfl, Nat.le_of_ble_eq_true rfl⟩) ⟨fun a9 U g mk q => ⟨q.1, wPre_calling g mk a9 q.2⟩, va_recv hKc hPc (ci := 1) (q0 := 0) rfl rfl, fun U hU hW => ⟨rfl, wPre_of hKc hPc hDc hU hW⟩⟩ rfl rfl hl.1 rfl (lv_room (Nat.le_of_ble_eq_true rfl)) dL_law_894 ⟨(by show _ ≤ 1049; omega), (by show _ ≤ 11971; omega)⟩) hS (fun q _ h => hFc q h) hFc (fun r u t H locs ht hvm hw hB hz1 hk1 hS => ?_)
    obtain ⟨hr3, hu3⟩ := hw
    subst hu3
    have hr3 := hr3.symm
    subst hr3
    obtain ⟨hP1, hK1, hD1⟩ := hB
    rw [ht] at hP1
    obtain ⟨hP, hD⟩ := va_join (wr := (xW A cA L P G V R N Y S wd (nI T) ft fl ce (nI h) mo) ++ [(o, .inl (cL, 1, .inr (.inl (vp_updL fo 0 (S p0.toNatClampNeg).toInt64))))]) (w1 := (mW B cA L P G V Rp S Y O D 0 (nI h) wd (nI T) ft fl cl mo)) hP hD [9, 10, 11, 12, 13, 14, 15, 16, 17, 18] [0, 1, 2, 3, 4, 5, 6, 7, 8, 19] rfl rfl (by decide) (by decide) hk1 hFc hP1 hD1
    have hP : va_P dG vwCl ((xW A cA L P G V R N Y S wd (nI T) ft fl ce (nI h) mo) ++ (mW B cA L P G V Rp S Y O D 0 (nI h) wd (nI T) ft fl cl mo) ++ [(o, .inl (cL, 1, .inr (.inl (vp_updL fo 0 (S p0.toNatClampNeg).toInt64))))]) H := hP.sub [0, 1, 2, 3, 4, 5, 6, 7, 8, 10, 11, 12, 13, 14, 15, 16, 17, 18, 19, 9] rfl
    have hD : va_D (aNew s.heap) ((xW A cA L P G V R N Y S wd (nI T) ft fl ce (nI h) mo) ++ (mW B cA L P G V Rp S Y O D 0 (nI h) wd (nI T) ft fl cl mo) ++ [(o, .inl (cL, 1, .inr (.inl (vp_updL fo 0 (S p0.toNatClampNeg).toInt64))))]) := hD.sub [0, 1, 2, 3, 4, 5, 6, 7, 8, 10, 11, 12, 13, 14, 15, 16, 17, 18, 19, 9] (by decide) rfl
    refine lv_iload hx hb dL_law_897 (lv_at hl 1 rfl) ?_
    refine lv_icmp_eq (tgt := 904) hx hb dL_law_899 (by decide) (fun _ => ?_) (fun h9 => absurd (by decide) h9)
    refine lv_iload hx hb dL_law_904 (lv_at hl 1 rfl) ?_
    refine lv_if_ne (tgt := 921) hx hb dL_law_906 (by decide) (fun h9 => absurd (by decide) h9) (fun _ => ?_)
    refine lv_aload_n hx hb dL_law_909 rfl (lv_at hl 5 rfl) ?_
    refine lv_iconst (v := 0) hx hb dL_law_910 (by decide) ?_
    refine va_lald hx hb hK hP 19 1 rfl rfl (i := 0) (vp_in_nI (n := 0) (by omega) (by omega)) dL_law_911 ?_
    refine lv_iload hx hb dL_law_912 (lv_at hl 0 rfl) ?_
    refine lv_i2l hx hb dL_law_914 rfl ?_
    refine W.lcmp hx hb dL_law_915 ?_
    refine lv_topi (fun v9 e9 => ?_)
    have e9 := e9.trans (lgc_eq rfl)
    subst e9
    refine lv_if_eq (tgt := 921) hx hb dL_law_916 (by decide) (fun _ => ?_) (fun h9 => absurd (by decide) h9)
    refine lv_goto (tgt := 1130) hx hb dL_law_921 (by decide) ?_
    exact k L P G V R N Y S Rp O D T h wd ft fl ce cl 0 mo (vp_updL fo 0 (S p0.toNatClampNeg).toInt64) H locs ls I hP hD hS (lv_sub hl [2, 3, 4, 5, 6] rfl)
  · have hPc := hP.sub (ws' := (xW A cA L P G V R N Y S wd (nI T) ft fl ce (nI h) mo) ++ ([(o, .inl (cL, 1, .inr (.inl fo)))])) [0, 1, 2, 3, 4, 5, 6, 7, 8, 19] rfl
    have hDc := hD.sub (ws' := (xW A cA L P G V R N Y S wd (nI T) ft fl ce (nI h) mo) ++ ([(o, .inl (cL, 1, .inr (.inl fo)))])) [0, 1, 2, 3, 4, 5, 6, 7, 8, 19] (by decide) rfl
    have hFc := va_free (wc := (xW A cA L P G V R N Y S wd (nI T) ft fl ce (nI h) mo) ++ ([(o, .inl (cL, 1, .inr (.inl fo)))])) hD hS hA [0, 1, 2, 3, 4, 5, 6, 7, 8, 19] rfl
    refine va_calli (vx_runSW (As := [.ref (A 0), .int p0, .ref o]) (rest := []) ⟨hx, hb, hml, hown, hts⟩ (c_L_sold l hl0 dG a A o cA cL H L P G V R N Y S T h wd ft fl ce mo fo p0 I.1.1 I.1.2) (vx_cwSW 3 hts gL_law_L_sold rfl rfl rfl (by decide +kernel) ⟨Nat.le_of_ble_eq_true rfl, Nat.le_of_ble_eq_true rfl⟩) ⟨fun a9 U g mk q => ⟨q.1, wPre_calling g mk a9 q.2.1, q.2.2.calling g mk a9⟩, fun U hU hW => ⟨rfl, wPre_of hK hPc hDc hU hW, hE.go hW hS hFc⟩⟩ rfl rfl hl.1 rfl (lv_room (Nat.le_of_ble_eq_true rfl)) dL_law_876 ⟨(by show _ ≤ 1049; omega), (by show _ ≤ 11971; omega)⟩) hS (fun q _ h => hFc q h) hFc (fun r u t H locs ht hvm hw hB hz1 hk1 hS => ?_)
    obtain ⟨hr1, hu0, hu1⟩ := hw
    have hu := hu1 hk
    subst hu
    have hr1 := hr1.symm
    subst hr1
    obtain ⟨hP1, hK1, hD1⟩ := hB
    rw [ht] at hP1
    obtain ⟨hP, hD⟩ := va_join (wr := (mW B cA L P G V Rp S Y O D th (nI h) wd (nI T) ft fl cl mo)) (w1 := (xW A cA L P G V R N Y S wd (nI T) ft fl ce (nI h) mo) ++ [(o, .inl (cL, 1, .inr (.inl fo)))]) hP hD [0, 1, 2, 3, 4, 5, 6, 7, 8, 19] [9, 10, 11, 12, 13, 14, 15, 16, 17, 18] rfl rfl (by decide) (by decide) hk1 hFc hP1 hD1
    have hP : va_P dG vwCl ((xW A cA L P G V R N Y S wd (nI T) ft fl ce (nI h) mo) ++ (mW B cA L P G V Rp S Y O D th (nI h) wd (nI T) ft fl cl mo) ++ [(o, .inl (cL, 1, .inr (.inl fo)))]) H := hP.sub [10, 11, 12, 13, 14, 15, 16, 17, 18, 0, 1, 2, 3, 4, 5, 6, 7, 8, 9, 19] rfl
    have hD : va_D (aNew s.heap) ((xW A cA L P G V R N Y S wd (nI T) ft fl ce (nI h) mo) ++ (mW B cA L P G V Rp S Y O D th (nI h) wd (nI T) ft fl cl mo) ++ [(o, .inl (cL, 1, .inr (.inl fo)))]) := hD.sub [10, 11, 12, 13, 14, 15, 16, 17, 18, 0, 1, 2, 3, 4, 5, 6, 7, 8, 9, 19] (by decide) rfl
    refine lv_istore (lv' := [(5, .int (kSold (nI h) p0)), (0, .ref b), (1, .ref (A 0)), (2, .ref (B 0)), (3, .ref o), (4, .int (nI (4 * i)))]) hx hb dL_law_879 hl (by decide) rfl (fun ls hl => ?_)
    refine lv_aload_n hx hb dL_law_881 rfl (lv_at hl 3 rfl) ?_
    refine lv_aload_n hx hb dL_law_882 rfl (lv_at hl 1 rfl) ?_
    refine lv_iload hx hb dL_law_883 (lv_at hl 5 rfl) ?_
    refine lv_iconst (v := 1) hx hb dL_law_885 (by decide) ?_
    refine lv_iadd hx hb dL_law_886 ?_
    refine lv_topi (fun v9 e9 => ?_)
    have e9 := e9.trans (nI_add (4 * i) 1)
    subst e9
    refine va_sld hx hb hX hbl hbA hS (vp_in_nI (by omega) (by omega)) dL_law_887 ?_
    refine lv_topi (fun v9 e9 => ?_)
    have e9 := (e9.trans hp0.symm).symm
    subst e9
    have hPc := hP.sub (ws' := (mW B cA L P G V Rp S Y O D th (nI h) wd (nI T) ft fl cl mo)) [9, 10, 11, 12, 13, 14, 15, 16, 17, 18] rfl
    have hDc := hD.sub (ws' := (mW B cA L P G V Rp S Y O D th (nI h) wd (nI T) ft fl cl mo)) [9, 10, 11, 12, 13, 14, 15, 16, 17, 18] (by decide) rfl
    have hFc := va_free (wc := mW B cA L P G V Rp S Y O D th (nI h) wd (nI T) ft fl cl mo) hD hS hA [9, 10, 11, 12, 13, 14, 15, 16, 17, 18] rfl
    have hKc := hK.sub (tys' := tyI cA) [0] rfl
    refine va_calli (va_runV (As := [.int p0]) (rest := []) ⟨hx, hb, hml, hown, hts⟩ (c_X1_sold l dG B cA H L P G V Rp S Y O D th (nI h) wd (nI T) ft fl cl mo p0 (nIr (b := 500) I.1.2 (by omega))) (cwV 1 hts gL_law_X1_sold rfl rfl rfl (by decide +kernel) ⟨Nat.le_of_ble_eq_true rfl, Nat.le_of_ble_eq_true rfl⟩) ⟨fun a9 U g mk q => ⟨q.1, wPre_calling g mk a9 q.2⟩, va_recv hKc hPc (ci := 1) (q0 := 0) rfl rfl, fun U hU hW => ⟨rfl, wPre_of hKc hPc hDc hU hW⟩⟩ rfl rfl hl.1 rfl (lv_room (Nat.le_of_ble_eq_true rfl)) dL_law_888 ⟨(by show _ ≤ 1049; omega), (by show _ ≤ 11971; omega)⟩) hS (fun q _ h => hFc q h) hFc (fun r u t H locs ht hvm hw hB hz1 hk1 hS => ?_)
    obtain ⟨hr2, hu2⟩ := hw.2 hk
    subst hu2
    have hr2 := hr2.symm
    subst hr2
    obtain ⟨hP1, hK1, hD1⟩ := hB
    rw [ht] at hP1
    obtain ⟨hP, hD⟩ := va_join (wr := (xW A cA L P G V R N Y S wd (nI T) ft fl ce (nI h) mo) ++ [(o, .inl (cL, 1, .inr (.inl fo)))]) (w1 := (mW B cA L P G V Rp S Y O D (kSold (nI h) p0) (nI h) wd (nI T) ft fl cl mo)) hP hD [9, 10, 11, 12, 13, 14, 15, 16, 17, 18] [0, 1, 2, 3, 4, 5, 6, 7, 8, 19] rfl rfl (by decide) (by decide) hk1 hFc hP1 hD1
    have hP : va_P dG vwCl ((xW A cA L P G V R N Y S wd (nI T) ft fl ce (nI h) mo) ++ (mW B cA L P G V Rp S Y O D (kSold (nI h) p0) (nI h) wd (nI T) ft fl cl mo) ++ [(o, .inl (cL, 1, .inr (.inl fo)))]) H := hP.sub [0, 1, 2, 3, 4, 5, 6, 7, 8, 10, 11, 12, 13, 14, 15, 16, 17, 18, 19, 9] rfl
    have hD : va_D (aNew s.heap) ((xW A cA L P G V R N Y S wd (nI T) ft fl ce (nI h) mo) ++ (mW B cA L P G V Rp S Y O D (kSold (nI h) p0) (nI h) wd (nI T) ft fl cl mo) ++ [(o, .inl (cL, 1, .inr (.inl fo)))]) := hD.sub [0, 1, 2, 3, 4, 5, 6, 7, 8, 10, 11, 12, 13, 14, 15, 16, 17, 18, 19, 9] (by decide) rfl
    refine lv_istore (lv' := [(6, .int 0), (5, .int (kSold (nI h) p0)), (0, .ref b), (1, .ref (A 0)), (2, .ref (B 0)), (3, .ref o), (4, .int (nI (4 * i)))]) hx hb dL_law_891 hl (by decide) rfl (fun ls hl => ?_)
    refine lv_aload_n hx hb dL_law_893 rfl (lv_at hl 4 rfl) ?_
    have hPc := hP.sub (ws' := (mW B cA L P G V Rp S Y O D (kSold (nI h) p0) (nI h) wd (nI T) ft fl cl mo)) [9, 10, 11, 12, 13, 14, 15, 16, 17, 18] rfl
    have hDc := hD.sub (ws' := (mW B cA L P G V Rp S Y O D (kSold (nI h) p0) (nI h) wd (nI T) ft fl cl mo)) [9, 10, 11, 12, 13, 14, 15, 16, 17, 18] (by decide) rfl
    have hFc := va_free (wc := mW B cA L P G V Rp S Y O D (kSold (nI h) p0) (nI h) wd (nI T) ft fl cl mo) hD hS hA [9, 10, 11, 12, 13, 14, 15, 16, 17, 18] rfl
    have hKc := hK.sub (tys' := tyI cA) [0] rfl
    refine va_calli (va_runV (As := []) (rest := []) ⟨hx, hb, hml, hown, hts⟩ (c_X1_thrown l dG B cA H L P G V Rp S Y O D (kSold (nI h) p0) (nI h) wd (nI T) ft fl cl mo) (cwV 0 hts gL_law_X1_thrown rfl rfl rfl (by decide +kernel) ⟨Nat.le_of_ble_eq_true rfl, Nat.le_of_ble_eq_true rfl⟩) ⟨fun a9 U g mk q => ⟨q.1, wPre_calling g mk a9 q.2⟩, va_recv hKc hPc (ci := 1) (q0 := 0) rfl rfl, fun U hU hW => ⟨rfl, wPre_of hKc hPc hDc hU hW⟩⟩ rfl rfl hl.1 rfl (lv_room (Nat.le_of_ble_eq_true rfl)) dL_law_894 ⟨(by show _ ≤ 1049; omega), (by show _ ≤ 11971; omega)⟩) hS (fun q _ h => hFc q h) hFc (fun r u t H locs ht hvm hw hB hz1 hk1 hS => ?_)
    obtain ⟨hr3, hu3⟩ := hw
    subst hu3
    have hr3 := hr3.symm
    subst hr3
    obtain ⟨hP1, hK1, hD1⟩ := hB
    rw [ht] at hP1
    obtain ⟨hP, hD⟩ := va_join (wr := (xW A cA L P G V R N Y S wd (nI T) ft fl ce (nI h) mo) ++ [(o, .inl (cL, 1, .inr (.inl fo)))]) (w1 := (mW B cA L P G V Rp S Y O D (kSold (nI h) p0) (nI h) wd (nI T) ft fl cl mo)) hP hD [9, 10, 11, 12, 13, 14, 15, 16, 17, 18] [0, 1, 2, 3, 4, 5, 6, 7, 8, 19] rfl rfl (by decide) (by decide) hk1 hFc hP1 hD1
    have hP : va_P dG vwCl ((xW A cA L P G V R N Y S wd (nI T) ft fl ce (nI h) mo) ++ (mW B cA L P G V Rp S Y O D (kSold (nI h) p0) (nI h) wd (nI T) ft fl cl mo) ++ [(o, .inl (cL, 1, .inr (.inl fo)))]) H := hP.sub [0, 1, 2, 3, 4, 5, 6, 7, 8, 10, 11, 12, 13, 14, 15, 16, 17, 18, 19, 9] rfl
    have hD : va_D (aNew s.heap) ((xW A cA L P G V R N Y S wd (nI T) ft fl ce (nI h) mo) ++ (mW B cA L P G V Rp S Y O D (kSold (nI h) p0) (nI h) wd (nI T) ft fl cl mo) ++ [(o, .inl (cL, 1, .inr (.inl fo)))]) := hD.sub [0, 1, 2, 3, 4, 5, 6, 7, 8, 10, 11, 12, 13, 14, 15, 16, 17, 18, 19, 9] (by decide) rfl
    refine lv_iload hx hb dL_law_897 (lv_at hl 1 rfl) ?_
    refine lv_icmp_eq (tgt := 904) hx hb dL_law_899 (by decide) (fun _ => ?_) (fun h9 => absurd rfl h9)
    refine lv_iload hx hb dL_law_904 (lv_at hl 1 rfl) ?_
    refine lv_if_ne (tgt := 921) hx hb dL_law_906 (by decide) (fun _ => ?_) (fun h9 => absurd h9 hk)
    refine lv_goto (tgt := 1130) hx hb dL_law_921 (by decide) ?_
    exact k L P G V R N Y S Rp O D T h wd ft fl ce cl (kSold (nI h) p0) mo fo H locs ls I hP hD hS (lv_sub hl [2, 3, 4, 5, 6] rfl)
set_option maxHeartbeats 1000000 in
set_option maxRecDepth 100000 in
theorem case_bought {p : Program} {l : Launch} {e : Env} {s : State} {m : MethodId} {below : List Frame} {meth : Method} {c : Code} {b Ln : Nat} {xs : Nat → Int32} {dG : va_G} {a A B : Nat → Nat} {o : Nat} {cA cL : ClassId} (hl0 : l.stackTraces = false) (C0 : lw_At p s m meth c b Ln xs) (hE : tgE a (aNew s.heap) s s.heap) (hK : va_K dG vwCl (tyL cA cL) s) (hLn : Ln ≤ 2048) {i : Nat} (hi : 4 * i + 4 ≤ Ln) (k : lwAt p l e s m below meth c b dG A B o cA cL 1130 i (20 + i + 1) (3749 + 6 * i + 6)) : lwAt p l e s m below meth c b dG A B o cA cL 924 i (20 + i) (3749 + 6 * i) := by
  obtain ⟨hx, hb, hr, hml, hown, hts0, hX, hbl, hlocks, hgv⟩ := C0
  have hts : ∀ w ∈ wsL_law, w.before #[Value.ref b] s = true := fun w h => hts0 w (wsL_law_in w h)
  have hA : ∀ q : Nat, s.heap.size ≤ q → aNew s.heap q := fun _ h => h
  have hbA : ¬ aNew s.heap b := Nat.not_le.mpr hbl
  intro L P G V R N Y S Rp O D T h wd ft fl ce cl th mo fo H locs ls I hP hD hS hl
  obtain ⟨p0, hp0⟩ : ∃ z, z = xs (nI (4 * i + 1)).toNatClampNeg := ⟨_, rfl⟩
  refine lv_aload_n hx hb dL_law_924 rfl (lv_at hl 1 rfl) ?_
  refine lv_aload_n hx hb dL_law_925 rfl (lv_at hl 0 rfl) ?_
  refine lv_iload hx hb dL_law_926 (lv_at hl 4 rfl) ?_
  refine lv_iconst (v := 1) hx hb dL_law_928 (by decide) ?_
  refine lv_iadd hx hb dL_law_929 ?_
  refine lv_topi (fun v9 e9 => ?_)
  have e9 := e9.trans (nI_add (4 * i) 1)
  subst e9
  refine va_sld hx hb hX hbl hbA hS (vp_in_nI (by omega) (by omega)) dL_law_930 ?_
  refine lv_topi (fun v9 e9 => ?_)
  have e9 := (e9.trans hp0.symm).symm
  subst e9
  refine lv_aload_n hx hb dL_law_931 rfl (lv_at hl 3 rfl) ?_
  by_cases hk : kGone (nI h) p0 = 0
  · have hPc := hP.sub (ws' := (xW A cA L P G V R N Y S wd (nI T) ft fl ce (nI h) mo) ++ ([(o, .inl (cL, 1, .inr (.inl fo)))])) [0, 1, 2, 3, 4, 5, 6, 7, 8, 19] rfl
    have hDc := hD.sub (ws' := (xW A cA L P G V R N Y S wd (nI T) ft fl ce (nI h) mo) ++ ([(o, .inl (cL, 1, .inr (.inl fo)))])) [0, 1, 2, 3, 4, 5, 6, 7, 8, 19] (by decide) rfl
    have hFc := va_free (wc := (xW A cA L P G V R N Y S wd (nI T) ft fl ce (nI h) mo) ++ ([(o, .inl (cL, 1, .inr (.inl fo)))])) hD hS hA [0, 1, 2, 3, 4, 5, 6, 7, 8, 19] rfl
    refine va_calli (vx_runSW (As := [.ref (A 0), .int p0, .ref o]) (rest := []) ⟨hx, hb, hml, hown, hts⟩ (c_L_bought l hl0 dG a A o cA cL H L P G V R N Y S T h wd ft fl ce mo fo p0 I.1.1 I.1.2) (vx_cwSW 3 hts gL_law_L_bought rfl rfl rfl (by decide +kernel) ⟨Nat.le_of_ble_eq_true rfl, Nat.le_of_ble_eq_true rfl⟩) ⟨fun a9 U g mk q => ⟨q.1, wPre_calling g mk a9 q.2.1, q.2.2.calling g mk a9⟩, fun U hU hW => ⟨rfl, wPre_of hK hPc hDc hU hW, hE.go hW hS hFc⟩⟩ rfl rfl hl.1 rfl (lv_room (Nat.le_of_ble_eq_true rfl)) dL_law_932 ⟨(by show _ ≤ 1049; omega), (by show _ ≤ 11971; omega)⟩) hS (fun q _ h => hFc q h) hFc (fun r u t H locs ht hvm hw hB hz1 hk1 hS => ?_)
    obtain ⟨hr1, hu0, hu1⟩ := hw
    have hu := hu0 hk
    subst hu
    have hr1 := (hr1.trans hk).symm
    subst hr1
    obtain ⟨hP1, hK1, hD1⟩ := hB
    rw [ht] at hP1
    obtain ⟨hP, hD⟩ := va_join (wr := (mW B cA L P G V Rp S Y O D th (nI h) wd (nI T) ft fl cl mo)) (w1 := (xW A cA L P G V R N Y S wd (nI T) ft fl ce (nI h) mo) ++ [(o, .inl (cL, 1, .inr (.inl (vp_updL fo 0 ((if 0 < S p0.toNatClampNeg - Y p0.toNatClampNeg then S p0.toNatClampNeg - Y p0.toNatClampNeg else 0)).toInt64))))]) hP hD [0, 1, 2, 3, 4, 5, 6, 7, 8, 19] [9, 10, 11, 12, 13, 14, 15, 16, 17, 18] rfl rfl (by decide) (by decide) hk1 hFc hP1 hD1
    have hP : va_P dG vwCl ((xW A cA L P G V R N Y S wd (nI T) ft fl ce (nI h) mo) ++ (mW B cA L P G V Rp S Y O D th (nI h) wd (nI T) ft fl cl mo) ++ [(o, .inl (cL, 1, .inr (.inl (vp_updL fo 0 ((if 0 < S p0.toNatClampNeg - Y p0.toNatClampNeg then S p0.toNatClampNeg - Y p0.toNatClampNeg else 0)).toInt64))))]) H := hP.sub [10, 11, 12, 13, 14, 15, 16, 17, 18, 0, 1, 2, 3, 4, 5, 6, 7, 8, 9, 19] rfl
    have hD : va_D (aNew s.heap) ((xW A cA L P G V R N Y S wd (nI T) ft fl ce (nI h) mo) ++ (mW B cA L P G V Rp S Y O D th (nI h) wd (nI T) ft fl cl mo) ++ [(o, .inl (cL, 1, .inr (.inl (vp_updL fo 0 ((if 0 < S p0.toNatClampNeg - Y p0.toNatClampNeg then S p0.toNatClampNeg - Y p0.toNatClampNeg else 0)).toInt64))))]) := hD.sub [10, 11, 12, 13, 14, 15, 16, 17, 18, 0, 1, 2, 3, 4, 5, 6, 7, 8, 9, 19] (by decide) rfl
    refine lv_istore (lv' := [(5, .int 0), (0, .ref b), (1, .ref (A 0)), (2, .ref (B 0)), (3, .ref o), (4, .int (nI (4 * i)))]) hx hb dL_law_935 hl (by decide) rfl (fun ls hl => ?_)
    refine lv_aload_n hx hb dL_law_937 rfl (lv_at hl 3 rfl) ?_
    refine lv_aload_n hx hb dL_law_938 rfl (lv_at hl 1 rfl) ?_
    refine lv_iload hx hb dL_law_939 (lv_at hl 5 rfl) ?_
    refine lv_iconst (v := 1) hx hb dL_law_941 (by decide) ?_
    refine lv_iadd hx hb dL_law_942 ?_
    refine lv_topi (fun v9 e9 => ?_)
    have e9 := e9.trans (nI_add (4 * i) 1)
    subst e9
    refine va_sld hx hb hX hbl hbA hS (vp_in_nI (by omega) (by omega)) dL_law_943 ?_
    refine lv_topi (fun v9 e9 => ?_)
    have e9 := (e9.trans hp0.symm).symm
    subst e9
    have hPc := hP.sub (ws' := (mW B cA L P G V Rp S Y O D th (nI h) wd (nI T) ft fl cl mo)) [9, 10, 11, 12, 13, 14, 15, 16, 17, 18] rfl
    have hDc := hD.sub (ws' := (mW B cA L P G V Rp S Y O D th (nI h) wd (nI T) ft fl cl mo)) [9, 10, 11, 12, 13, 14, 15, 16, 17, 18] (by decide) rfl
    have hFc := va_free (wc := mW B cA L P G V Rp S Y O D th (nI h) wd (nI T) ft fl cl mo) hD hS hA [9, 10, 11, 12, 13, 14, 15, 16, 17, 18] rfl
    have hKc := hK.sub (tys' := tyI cA) [0] rfl
    refine va_calli (va_runV (As := [.int p0]) (rest := []) ⟨hx, hb, hml, hown, hts⟩ (c_X1_bought l dG B cA H L P G V Rp S Y O D th (nI h) wd (nI T) ft fl cl mo p0 (nIr (b := 500) I.1.2 (by omega))) (cwV 1 hts gL_law_X1_bought rfl rfl rfl (by decide +kernel) ⟨Nat.le_of_ble_eq_true rfl, Nat.le_of_ble_eq_true rfl⟩) ⟨fun a9 U g mk q => ⟨q.1, wPre_calling g mk a9 q.2⟩, va_recv hKc hPc (ci := 1) (q0 := 0) rfl rfl, fun U hU hW => ⟨rfl, wPre_of hKc hPc hDc hU hW⟩⟩ rfl rfl hl.1 rfl (lv_room (Nat.le_of_ble_eq_true rfl)) dL_law_944 ⟨(by show _ ≤ 1049; omega), (by show _ ≤ 11971; omega)⟩) hS (fun q _ h => hFc q h) hFc (fun r u t H locs ht hvm hw hB hz1 hk1 hS => ?_)
    obtain ⟨hr2, hu2⟩ := hw.1 hk
    subst hu2
    have hr2 := hr2.symm
    subst hr2
    obtain ⟨hP1, hK1, hD1⟩ := hB
    rw [ht] at hP1
    obtain ⟨hP, hD⟩ := va_join (wr := (xW A cA L P G V R N Y S wd (nI T) ft fl ce (nI h) mo) ++ [(o, .inl (cL, 1, .inr (.inl (vp_updL fo 0 ((if 0 < S p0.toNatClampNeg - Y p0.toNatClampNeg then S p0.toNatClampNeg - Y p0.toNatClampNeg else 0)).toInt64))))]) (w1 := (mW B cA L P G V Rp S Y O D 0 (nI h) wd (nI T) ft fl cl mo)) hP hD [9, 10, 11, 12, 13, 14, 15, 16, 17, 18] [0, 1, 2, 3, 4, 5, 6, 7, 8, 19] rfl rfl (by decide) (by decide) hk1 hFc hP1 hD1
    have hP : va_P dG vwCl ((xW A cA L P G V R N Y S wd (nI T) ft fl ce (nI h) mo) ++ (mW B cA L P G V Rp S Y O D 0 (nI h) wd (nI T) ft fl cl mo) ++ [(o, .inl (cL, 1, .inr (.inl (vp_updL fo 0 ((if 0 < S p0.toNatClampNeg - Y p0.toNatClampNeg then S p0.toNatClampNeg - Y p0.toNatClampNeg else 0)).toInt64))))]) H := hP.sub [0, 1, 2, 3, 4, 5, 6, 7, 8, 10, 11, 12, 13, 14, 15, 16, 17, 18, 19, 9] rfl
    have hD : va_D (aNew s.heap) ((xW A cA L P G V R N Y S wd (nI T) ft fl ce (nI h) mo) ++ (mW B cA L P G V Rp S Y O D 0 (nI h) wd (nI T) ft fl cl mo) ++ [(o, .inl (cL, 1, .inr (.inl (vp_updL fo 0 ((if 0 < S p0.toNatClampNeg - Y p0.toNatClampNeg then S p0.toNatClampNeg - Y p0.toNatClampNeg else 0)).toInt64))))]) := hD.sub [0, 1, 2, 3, 4, 5, 6, 7, 8, 10, 11, 12, 13, 14, 15, 16, 17, 18, 19, 9] (by decide) rfl
    refine lv_istore (lv' := [(6, .int (O p0.toNatClampNeg)), (5, .int 0), (0, .ref b), (1, .ref (A 0)), (2, .ref (B 0)), (3, .ref o), (4, .int (nI (4 * i)))]) hx hb dL_law_947 hl (by decide) rfl (fun ls hl => ?_)
    refine lv_aload_n hx hb dL_law_949 rfl (lv_at hl 4 rfl) ?_
    have hPc := hP.sub (ws' := (mW B cA L P G V Rp S Y O D 0 (nI h) wd (nI T) ft fl cl mo)) [9, 10, 11, 12, 13, 14, 15, 16, 17, 18] rfl
    have hDc := hD.sub (ws' := (mW B cA L P G V Rp S Y O D 0 (nI h) wd (nI T) ft fl cl mo)) [9, 10, 11, 12, 13, 14, 15, 16, 17, 18] (by decide) rfl
    have hFc := va_free (wc := mW B cA L P G V Rp S Y O D 0 (nI h) wd (nI T) ft fl cl mo) hD hS hA [9, 10, 11, 12, 13, 14, 15, 16, 17, 18] rfl
    have hKc := hK.sub (tys' := tyI cA) [0] rfl
    refine va_calli (va_runV (As := []) (rest := []) ⟨hx, hb, hml, hown, hts⟩ (c_X1_thrown l dG B cA H L P G V Rp S Y O D 0 (nI h) wd (nI T) ft fl cl mo) (cwV 0 hts gL_law_X1_thrown rfl rfl rfl (by decide +kernel) ⟨Nat.le_of_ble_eq_true rfl, Nat.le_of_ble_eq_true rfl⟩) ⟨fun a9 U g mk q => ⟨q.1, wPre_calling g mk a9 q.2⟩, va_recv hKc hPc (ci := 1) (q0 := 0) rfl rfl, fun U hU hW => ⟨rfl, wPre_of hKc hPc hDc hU hW⟩⟩ rfl rfl hl.1 rfl (lv_room (Nat.le_of_ble_eq_true rfl)) dL_law_950 ⟨(by show _ ≤ 1049; omega), (by show _ ≤ 11971; omega)⟩) hS (fun q _ h => hFc q h) hFc (fun r u t H locs ht hvm hw hB hz1 hk1 hS => ?_)
    obtain ⟨hr3, hu3⟩ := hw
    subst hu3
    have hr3 := hr3.symm
    subst hr3
    obtain ⟨hP1, hK1, hD1⟩ := hB
    rw [ht] at hP1
    obtain ⟨hP, hD⟩ := va_join (wr := (xW A cA L P G V R N Y S wd (nI T) ft fl ce (nI h) mo) ++ [(o, .inl (cL, 1, .inr (.inl (vp_updL fo 0 ((if 0 < S p0.toNatClampNeg - Y p0.toNatClampNeg then S p0.toNatClampNeg - Y p0.toNatClampNeg else 0)).toInt64))))]) (w1 := (mW B cA L P G V Rp S Y O D 0 (nI h) wd (nI T) ft fl cl mo)) hP hD [9, 10, 11, 12, 13, 14, 15, 16, 17, 18] [0, 1, 2, 3, 4, 5, 6, 7, 8, 19] rfl rfl (by decide) (by decide) hk1 hFc hP1 hD1
    have hP : va_P dG vwCl ((xW A cA L P G V R N Y S wd (nI T) ft fl ce (nI h) mo) ++ (mW B cA L P G V Rp S Y O D 0 (nI h) wd (nI T) ft fl cl mo) ++ [(o, .inl (cL, 1, .inr (.inl (vp_updL fo 0 ((if 0 < S p0.toNatClampNeg - Y p0.toNatClampNeg then S p0.toNatClampNeg - Y p0.toNatClampNeg else 0)).toInt64))))]) H := hP.sub [0, 1, 2, 3, 4, 5, 6, 7, 8, 10, 11, 12, 13, 14, 15, 16, 17, 18, 19, 9] rfl
    have hD : va_D (aNew s.heap) ((xW A cA L P G V R N Y S wd (nI T) ft fl ce (nI h) mo) ++ (mW B cA L P G V Rp S Y O D 0 (nI h) wd (nI T) ft fl cl mo) ++ [(o, .inl (cL, 1, .inr (.inl (vp_updL fo 0 ((if 0 < S p0.toNatClampNeg - Y p0.toNatClampNeg then S p0.toNatClampNeg - Y p0.toNatClampNeg else 0)).toInt64))))]) := hD.sub [0, 1, 2, 3, 4, 5, 6, 7, 8, 10, 11, 12, 13, 14, 15, 16, 17, 18, 19, 9] (by decide) rfl
    refine lv_iload hx hb dL_law_953 (lv_at hl 1 rfl) ?_
    refine lv_icmp_eq (tgt := 960) hx hb dL_law_955 (by decide) (fun _ => ?_) (fun h9 => absurd (by decide) h9)
    refine lv_iload hx hb dL_law_960 (lv_at hl 1 rfl) ?_
    refine lv_if_ne (tgt := 977) hx hb dL_law_962 (by decide) (fun h9 => absurd (by decide) h9) (fun _ => ?_)
    refine lv_aload_n hx hb dL_law_965 rfl (lv_at hl 5 rfl) ?_
    refine lv_iconst (v := 0) hx hb dL_law_966 (by decide) ?_
    refine va_lald hx hb hK hP 19 1 rfl rfl (i := 0) (vp_in_nI (n := 0) (by omega) (by omega)) dL_law_967 ?_
    refine lv_iload hx hb dL_law_968 (lv_at hl 0 rfl) ?_
    refine lv_i2l hx hb dL_law_970 rfl ?_
    refine W.lcmp hx hb dL_law_971 ?_
    refine lv_topi (fun v9 e9 => ?_)
    have e9 := e9.trans (lgc_eq (eq_bought I hk))
    subst e9
    refine lv_if_eq (tgt := 977) hx hb dL_law_972 (by decide) (fun _ => ?_) (fun h9 => absurd (by decide) h9)
    refine lv_goto (tgt := 1130) hx hb dL_law_977 (by decide) ?_
    exact k L P G V R N Y S Rp O D T h wd ft fl ce cl 0 mo (vp_updL fo 0 ((if 0 < S p0.toNatClampNeg - Y p0.toNatClampNeg then S p0.toNatClampNeg - Y p0.toNatClampNeg else 0)).toInt64) H locs ls I hP hD hS (lv_sub hl [2, 3, 4, 5, 6] rfl)
  · have hPc := hP.sub (ws' := (xW A cA L P G V R N Y S wd (nI T) ft fl ce (nI h) mo) ++ ([(o, .inl (cL, 1, .inr (.inl fo)))])) [0, 1, 2, 3, 4, 5, 6, 7, 8, 19] rfl
    have hDc := hD.sub (ws' := (xW A cA L P G V R N Y S wd (nI T) ft fl ce (nI h) mo) ++ ([(o, .inl (cL, 1, .inr (.inl fo)))])) [0, 1, 2, 3, 4, 5, 6, 7, 8, 19] (by decide) rfl
    have hFc := va_free (wc := (xW A cA L P G V R N Y S wd (nI T) ft fl ce (nI h) mo) ++ ([(o, .inl (cL, 1, .inr (.inl fo)))])) hD hS hA [0, 1, 2, 3, 4, 5, 6, 7, 8, 19] rfl
    refine va_calli (vx_runSW (As := [.ref (A 0), .int p0, .ref o]) (rest := []) ⟨hx, hb, hml, hown, hts⟩ (c_L_bought l hl0 dG a A o cA cL H L P G V R N Y S T h wd ft fl ce mo fo p0 I.1.1 I.1.2) (vx_cwSW 3 hts gL_law_L_bought rfl rfl rfl (by decide +kernel) ⟨Nat.le_of_ble_eq_true rfl, Nat.le_of_ble_eq_true rfl⟩) ⟨fun a9 U g mk q => ⟨q.1, wPre_calling g mk a9 q.2.1, q.2.2.calling g mk a9⟩, fun U hU hW => ⟨rfl, wPre_of hK hPc hDc hU hW, hE.go hW hS hFc⟩⟩ rfl rfl hl.1 rfl (lv_room (Nat.le_of_ble_eq_true rfl)) dL_law_932 ⟨(by show _ ≤ 1049; omega), (by show _ ≤ 11971; omega)⟩) hS (fun q _ h => hFc q h) hFc (fun r u t H locs ht hvm hw hB hz1 hk1 hS => ?_)
    obtain ⟨hr1, hu0, hu1⟩ := hw
    have hu := hu1 hk
    subst hu
    have hr1 := hr1.symm
    subst hr1
    obtain ⟨hP1, hK1, hD1⟩ := hB
    rw [ht] at hP1
    obtain ⟨hP, hD⟩ := va_join (wr := (mW B cA L P G V Rp S Y O D th (nI h) wd (nI T) ft fl cl mo)) (w1 := (xW A cA L P G V R N Y S wd (nI T) ft fl ce (nI h) mo) ++ [(o, .inl (cL, 1, .inr (.inl fo)))]) hP hD [0, 1, 2, 3, 4, 5, 6, 7, 8, 19] [9, 10, 11, 12, 13, 14, 15, 16, 17, 18] rfl rfl (by decide) (by decide) hk1 hFc hP1 hD1
    have hP : va_P dG vwCl ((xW A cA L P G V R N Y S wd (nI T) ft fl ce (nI h) mo) ++ (mW B cA L P G V Rp S Y O D th (nI h) wd (nI T) ft fl cl mo) ++ [(o, .inl (cL, 1, .inr (.inl fo)))]) H := hP.sub [10, 11, 12, 13, 14, 15, 16, 17, 18, 0, 1, 2, 3, 4, 5, 6, 7, 8, 9, 19] rfl
    have hD : va_D (aNew s.heap) ((xW A cA L P G V R N Y S wd (nI T) ft fl ce (nI h) mo) ++ (mW B cA L P G V Rp S Y O D th (nI h) wd (nI T) ft fl cl mo) ++ [(o, .inl (cL, 1, .inr (.inl fo)))]) := hD.sub [10, 11, 12, 13, 14, 15, 16, 17, 18, 0, 1, 2, 3, 4, 5, 6, 7, 8, 9, 19] (by decide) rfl
    refine lv_istore (lv' := [(5, .int (kGone (nI h) p0)), (0, .ref b), (1, .ref (A 0)), (2, .ref (B 0)), (3, .ref o), (4, .int (nI (4 * i)))]) hx hb dL_law_935 hl (by decide) rfl (fun ls hl => ?_)
    refine lv_aload_n hx hb dL_law_937 rfl (lv_at hl 3 rfl) ?_
    refine lv_aload_n hx hb dL_law_938 rfl (lv_at hl 1 rfl) ?_
    refine lv_iload hx hb dL_law_939 (lv_at hl 5 rfl) ?_
    refine lv_iconst (v := 1) hx hb dL_law_941 (by decide) ?_
    refine lv_iadd hx hb dL_law_942 ?_
    refine lv_topi (fun v9 e9 => ?_)
    have e9 := e9.trans (nI_add (4 * i) 1)
    subst e9
    refine va_sld hx hb hX hbl hbA hS (vp_in_nI (by omega) (by omega)) dL_law_943 ?_
    refine lv_topi (fun v9 e9 => ?_)
    have e9 := (e9.trans hp0.symm).symm
    subst e9
    have hPc := hP.sub (ws' := (mW B cA L P G V Rp S Y O D th (nI h) wd (nI T) ft fl cl mo)) [9, 10, 11, 12, 13, 14, 15, 16, 17, 18] rfl
    have hDc := hD.sub (ws' := (mW B cA L P G V Rp S Y O D th (nI h) wd (nI T) ft fl cl mo)) [9, 10, 11, 12, 13, 14, 15, 16, 17, 18] (by decide) rfl
    have hFc := va_free (wc := mW B cA L P G V Rp S Y O D th (nI h) wd (nI T) ft fl cl mo) hD hS hA [9, 10, 11, 12, 13, 14, 15, 16, 17, 18] rfl
    have hKc := hK.sub (tys' := tyI cA) [0] rfl
    refine va_calli (va_runV (As := [.int p0]) (rest := []) ⟨hx, hb, hml, hown, hts⟩ (c_X1_bought l dG B cA H L P G V Rp S Y O D th (nI h) wd (nI T) ft fl cl mo p0 (nIr (b := 500) I.1.2 (by omega))) (cwV 1 hts gL_law_X1_bought rfl rfl rfl (by decide +kernel) ⟨Nat.le_of_ble_eq_true rfl, Nat.le_of_ble_eq_true rfl⟩) ⟨fun a9 U g mk q => ⟨q.1, wPre_calling g mk a9 q.2⟩, va_recv hKc hPc (ci := 1) (q0 := 0) rfl rfl, fun U hU hW => ⟨rfl, wPre_of hKc hPc hDc hU hW⟩⟩ rfl rfl hl.1 rfl (lv_room (Nat.le_of_ble_eq_true rfl)) dL_law_944 ⟨(by show _ ≤ 1049; omega), (by show _ ≤ 11971; omega)⟩) hS (fun q _ h => hFc q h) hFc (fun r u t H locs ht hvm hw hB hz1 hk1 hS => ?_)
    obtain ⟨hr2, hu2⟩ := hw.2 hk
    subst hu2
    have hr2 := hr2.symm
    subst hr2
    obtain ⟨hP1, hK1, hD1⟩ := hB
    rw [ht] at hP1
    obtain ⟨hP, hD⟩ := va_join (wr := (xW A cA L P G V R N Y S wd (nI T) ft fl ce (nI h) mo) ++ [(o, .inl (cL, 1, .inr (.inl fo)))]) (w1 := (mW B cA L P G V Rp S Y O D (kGone (nI h) p0) (nI h) wd (nI T) ft fl cl mo)) hP hD [9, 10, 11, 12, 13, 14, 15, 16, 17, 18] [0, 1, 2, 3, 4, 5, 6, 7, 8, 19] rfl rfl (by decide) (by decide) hk1 hFc hP1 hD1
    have hP : va_P dG vwCl ((xW A cA L P G V R N Y S wd (nI T) ft fl ce (nI h) mo) ++ (mW B cA L P G V Rp S Y O D (kGone (nI h) p0) (nI h) wd (nI T) ft fl cl mo) ++ [(o, .inl (cL, 1, .inr (.inl fo)))]) H := hP.sub [0, 1, 2, 3, 4, 5, 6, 7, 8, 10, 11, 12, 13, 14, 15, 16, 17, 18, 19, 9] rfl
    have hD : va_D (aNew s.heap) ((xW A cA L P G V R N Y S wd (nI T) ft fl ce (nI h) mo) ++ (mW B cA L P G V Rp S Y O D (kGone (nI h) p0) (nI h) wd (nI T) ft fl cl mo) ++ [(o, .inl (cL, 1, .inr (.inl fo)))]) := hD.sub [0, 1, 2, 3, 4, 5, 6, 7, 8, 10, 11, 12, 13, 14, 15, 16, 17, 18, 19, 9] (by decide) rfl
    refine lv_istore (lv' := [(6, .int 0), (5, .int (kGone (nI h) p0)), (0, .ref b), (1, .ref (A 0)), (2, .ref (B 0)), (3, .ref o), (4, .int (nI (4 * i)))]) hx hb dL_law_947 hl (by decide) rfl (fun ls hl => ?_)
    refine lv_aload_n hx hb dL_law_949 rfl (lv_at hl 4 rfl) ?_
    have hPc := hP.sub (ws' := (mW B cA L P G V Rp S Y O D (kGone (nI h) p0) (nI h) wd (nI T) ft fl cl mo)) [9, 10, 11, 12, 13, 14, 15, 16, 17, 18] rfl
    have hDc := hD.sub (ws' := (mW B cA L P G V Rp S Y O D (kGone (nI h) p0) (nI h) wd (nI T) ft fl cl mo)) [9, 10, 11, 12, 13, 14, 15, 16, 17, 18] (by decide) rfl
    have hFc := va_free (wc := mW B cA L P G V Rp S Y O D (kGone (nI h) p0) (nI h) wd (nI T) ft fl cl mo) hD hS hA [9, 10, 11, 12, 13, 14, 15, 16, 17, 18] rfl
    have hKc := hK.sub (tys' := tyI cA) [0] rfl
    refine va_calli (va_runV (As := []) (rest := []) ⟨hx, hb, hml, hown, hts⟩ (c_X1_thrown l dG B cA H L P G V Rp S Y O D (kGone (nI h) p0) (nI h) wd (nI T) ft fl cl mo) (cwV 0 hts gL_law_X1_thrown rfl rfl rfl (by decide +kernel) ⟨Nat.le_of_ble_eq_true rfl, Nat.le_of_ble_eq_true rfl⟩) ⟨fun a9 U g mk q => ⟨q.1, wPre_calling g mk a9 q.2⟩, va_recv hKc hPc (ci := 1) (q0 := 0) rfl rfl, fun U hU hW => ⟨rfl, wPre_of hKc hPc hDc hU hW⟩⟩ rfl rfl hl.1 rfl (lv_room (Nat.le_of_ble_eq_true rfl)) dL_law_950 ⟨(by show _ ≤ 1049; omega), (by show _ ≤ 11971; omega)⟩) hS (fun q _ h => hFc q h) hFc (fun r u t H locs ht hvm hw hB hz1 hk1 hS => ?_)
    obtain ⟨hr3, hu3⟩ := hw
    subst hu3
    have hr3 := hr3.symm
    subst hr3
    obtain ⟨hP1, hK1, hD1⟩ := hB
    rw [ht] at hP1
    obtain ⟨hP, hD⟩ := va_join (wr := (xW A cA L P G V R N Y S wd (nI T) ft fl ce (nI h) mo) ++ [(o, .inl (cL, 1, .inr (.inl fo)))]) (w1 := (mW B cA L P G V Rp S Y O D (kGone (nI h) p0) (nI h) wd (nI T) ft fl cl mo)) hP hD [9, 10, 11, 12, 13, 14, 15, 16, 17, 18] [0, 1, 2, 3, 4, 5, 6, 7, 8, 19] rfl rfl (by decide) (by decide) hk1 hFc hP1 hD1
    have hP : va_P dG vwCl ((xW A cA L P G V R N Y S wd (nI T) ft fl ce (nI h) mo) ++ (mW B cA L P G V Rp S Y O D (kGone (nI h) p0) (nI h) wd (nI T) ft fl cl mo) ++ [(o, .inl (cL, 1, .inr (.inl fo)))]) H := hP.sub [0, 1, 2, 3, 4, 5, 6, 7, 8, 10, 11, 12, 13, 14, 15, 16, 17, 18, 19, 9] rfl
    have hD : va_D (aNew s.heap) ((xW A cA L P G V R N Y S wd (nI T) ft fl ce (nI h) mo) ++ (mW B cA L P G V Rp S Y O D (kGone (nI h) p0) (nI h) wd (nI T) ft fl cl mo) ++ [(o, .inl (cL, 1, .inr (.inl fo)))]) := hD.sub [0, 1, 2, 3, 4, 5, 6, 7, 8, 10, 11, 12, 13, 14, 15, 16, 17, 18, 19, 9] (by decide) rfl
    refine lv_iload hx hb dL_law_953 (lv_at hl 1 rfl) ?_
    refine lv_icmp_eq (tgt := 960) hx hb dL_law_955 (by decide) (fun _ => ?_) (fun h9 => absurd rfl h9)
    refine lv_iload hx hb dL_law_960 (lv_at hl 1 rfl) ?_
    refine lv_if_ne (tgt := 977) hx hb dL_law_962 (by decide) (fun _ => ?_) (fun h9 => absurd h9 hk)
    refine lv_goto (tgt := 1130) hx hb dL_law_977 (by decide) ?_
    exact k L P G V R N Y S Rp O D T h wd ft fl ce cl (kGone (nI h) p0) mo fo H locs ls I hP hD hS (lv_sub hl [2, 3, 4, 5, 6] rfl)
