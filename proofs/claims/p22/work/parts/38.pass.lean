set_option maxHeartbeats 1000000 in
set_option maxRecDepth 100000 in
theorem hour_b {p : Program} {l : Launch} {e : Env} {s : State} {m : MethodId} {below : List Frame} {meth : Method} {c : Code} {b Ln : Nat} {xs : Nat → Int32} {dG : va_G} {A B : Nat → Nat} {cA : ClassId} (C0 : lw_At p s m meth c b Ln xs) (hK : va_K dG vwCl (tyI cA) s) {L P G Vf R Nf Yf S : Nat → Int32} {T t hf hh ct i : Nat} {wd ftf fl cef : Int32} {mof : UInt32} {y : Int32} {V2 Rp2 Y1 : Nat → Int32} {hd sm mv : Int32} {cn : Nat} (hcn : cn < 1000) (kk : lwP p l e s m below meth c b dG 933 ((xW A cA L P G Vf R Nf Yf S wd (nI T) ftf fl cef (nI hf) mof) ++ (lW B cA L P G V2 Rp2 S Y1)) (lV A B b wd (nI T) 0 fl (nI (cn - (hh + 1))) (nI hh) mv (nI t) ++ [(18, .int y), (21, .int (nI ct)), (22, .int (nI i)), (23, .int hd), (24, .int sm)])) : lwP p l e s m below meth c b dG 925 ((xW A cA L P G Vf R Nf Yf S wd (nI T) ftf fl cef (nI hf) mof) ++ (lW B cA L P G V2 Rp2 S Y1)) (lV A B b wd (nI T) 0 fl (nI (cn - hh)) (nI hh) mv (nI t) ++ [(18, .int y), (21, .int (nI ct)), (22, .int (nI i)), (23, .int hd), (24, .int sm)]) := by
  obtain ⟨hx, hb, hr, hml, hown0, hts0, hX, hbl, hlocks, hgv⟩ := id C0
  have hown : s.vm.findClass RL = some m.cls := hown0
  have hts : ∀ w ∈ wsL_law, w.before #[Value.ref b] s = true := fun w h => hts0 w (wsL_law_in w h)
  have hA : ∀ q : Nat, s.heap.size ≤ q → aNew s.heap q := fun _ h => h
  have hbA : ¬ aNew s.heap b := Nat.not_le.mpr hbl
  intro H locs ls hP hD hS hl
  have hl : lv_has ls 27 ([(0, .ref b), (1, .ref (A 0)), (2, .ref (B 0)), (3, .ref (B 1)), (4, .ref (B 2)), (5, .ref (B 3)), (6, .ref (B 4)), (7, .ref (B 5)), (8, .ref (B 6)), (9, .int wd), (10, .int (nI T)), (11, .int 0), (12, .int fl), (13, .int (nI (cn - hh))), (14, .int (nI hh)), (15, .int mv), (16, .int (nI t)), (18, .int y), (21, .int (nI ct)), (22, .int (nI i)), (23, .int hd), (24, .int sm)]) := hl
  refine lv_iload hx hb dL_law_925 (lv_at hl 13 rfl) ?_
  refine lv_if_le (tgt := 933) hx hb dL_law_927 (by decide) (fun cq1 => ?_) (fun cq1 => ?_)
  · have e9 : nI (cn - hh) = nI (cn - (hh + 1)) := by rw [← Nat.sub_sub, le0_nI (n := cn - hh) (by omega) cq1]
    exact kk H locs ls hP hD hS (by rw [← e9]; exact lv_sub hl [0, 1, 2, 3, 4, 5, 6, 7, 8, 9, 10, 11, 12, 13, 14, 15, 16, 17, 18, 19, 20, 21] rfl)
  · have h9 := pos_nI cq1
    refine lv_iinc (v := (nI (cn - (hh + 1)))) (lv' := [(13, .int (nI (cn - (hh + 1)))), (0, .ref b), (1, .ref (A 0)), (2, .ref (B 0)), (3, .ref (B 1)), (4, .ref (B 2)), (5, .ref (B 3)), (6, .ref (B 4)), (7, .ref (B 5)), (8, .ref (B 6)), (9, .int wd), (10, .int (nI T)), (11, .int 0), (12, .int fl), (14, .int (nI hh)), (15, .int mv), (16, .int (nI t)), (18, .int y), (21, .int (nI ct)), (22, .int (nI i)), (23, .int hd), (24, .int sm)]) hx hb dL_law_930 hl (k := 13) rfl (by rw [← Nat.sub_sub]; exact decm h9) (by decide) rfl (fun ls hl => ?_)
    exact kk H locs ls hP hD hS (lv_sub hl [1, 2, 3, 4, 5, 6, 7, 8, 9, 10, 11, 12, 13, 0, 14, 15, 16, 17, 18, 19, 20, 21] rfl)
set_option maxHeartbeats 1000000 in
set_option maxRecDepth 100000 in
theorem hour_c {p : Program} {l : Launch} {e : Env} {s : State} {m : MethodId} {below : List Frame} {meth : Method} {c : Code} {b Ln : Nat} {xs : Nat → Int32} {dG : va_G} {A B : Nat → Nat} {cA : ClassId} (C0 : lw_At p s m meth c b Ln xs) (hK : va_K dG vwCl (tyI cA) s) {L P G Vf R Nf Yf S : Nat → Int32} {T t hf hh ct i : Nat} {wd ftf fl cef : Int32} {mof : UInt32} {y : Int32} {V2 Rp2 Y1 : Nat → Int32} {hd sm mv cl2 : Int32} {mo2 : UInt32} {X : Int} (hT4 : T ≤ 4) (hhf : hh < hf) (hf59 : hf ≤ 59) (hY : Yf hh = sm) (hA9 : rpS Nf hh 4 = sm) (hN : fHead (Nf hh) = hd) (hmF : (0 < S hh - sm → mF (mv + (-2 * (S hh - sm)) * P (hh % 24)).toInt mo2 ∧ -(X + 40000) ≤ (mv + (-2 * (S hh - sm)) * P (hh % 24)).toInt ∧ (mv + (-2 * (S hh - sm)) * P (hh % 24)).toInt ≤ X + 40000) ∧ (S hh - sm ≤ 0 → mF (mv + (-(S hh - sm)) * P (hh % 24)).toInt mo2 ∧ -(X + 40000) ≤ (mv + (-(S hh - sm)) * P (hh % 24)).toInt ∧ (mv + (-(S hh - sm)) * P (hh % 24)).toInt ≤ X + 40000)) (kk : ∀ mv2 : Int32, mF mv2.toInt mo2 → -(X + 40000) ≤ mv2.toInt → mv2.toInt ≤ X + 40000 → lwP p l e s m below meth c b dG 723 ((xW A cA L P G Vf R Nf Yf S wd (nI T) ftf fl cef (nI hf) mof) ++ (lW B cA L P G V2 Rp2 S (upd Y1 hh sm))) (lV A B b wd (nI T) 0 fl cl2 (nI (hh + 1)) mv2 (nI t) ++ [(18, .int y), (21, .int (nI ct)), (22, .int (nI (i + 1)))])) : lwP p l e s m below meth c b dG 933 ((xW A cA L P G Vf R Nf Yf S wd (nI T) ftf fl cef (nI hf) mof) ++ (lW B cA L P G V2 Rp2 S Y1)) (lV A B b wd (nI T) 0 fl cl2 (nI hh) mv (nI t) ++ [(18, .int y), (21, .int (nI ct)), (22, .int (nI i)), (23, .int hd), (24, .int sm)]) := by
  obtain ⟨hx, hb, hr, hml, hown0, hts0, hX, hbl, hlocks, hgv⟩ := id C0
  have hown : s.vm.findClass RL = some m.cls := hown0
  have hts : ∀ w ∈ wsL_law, w.before #[Value.ref b] s = true := fun w h => hts0 w (wsL_law_in w h)
  have hA : ∀ q : Nat, s.heap.size ≤ q → aNew s.heap q := fun _ h => h
  have hbA : ¬ aNew s.heap b := Nat.not_le.mpr hbl
  intro H locs ls hP hD hS hl
  have hl : lv_has ls 27 ([(0, .ref b), (1, .ref (A 0)), (2, .ref (B 0)), (3, .ref (B 1)), (4, .ref (B 2)), (5, .ref (B 3)), (6, .ref (B 4)), (7, .ref (B 5)), (8, .ref (B 6)), (9, .int wd), (10, .int (nI T)), (11, .int 0), (12, .int fl), (13, .int cl2), (14, .int (nI hh)), (15, .int mv), (16, .int (nI t)), (18, .int y), (21, .int (nI ct)), (22, .int (nI i)), (23, .int hd), (24, .int sm)]) := hl
  refine lv_aload hx hb dL_law_933 (lv_at hl 7 rfl) ?_
  refine lv_iload hx hb dL_law_935 (lv_at hl 14 rfl) ?_
  refine va_iald hx hb hK hP 14 0 rfl rfl (vp_in_nI (by omega) (by omega)) dL_law_937 ?_
  refine lv_topi (fun v9 e9 => ?_)
  rw [nI_clamp (n := hh) (by omega)] at e9
  subst e9
  refine lv_iload hx hb dL_law_938 (lv_at hl 21 rfl) ?_
  refine lv_isub hx hb dL_law_940 ?_
  refine lv_istore (lv' := [(25, .int ((S hh) - sm)), (0, .ref b), (1, .ref (A 0)), (2, .ref (B 0)), (3, .ref (B 1)), (4, .ref (B 2)), (5, .ref (B 3)), (6, .ref (B 4)), (7, .ref (B 5)), (8, .ref (B 6)), (9, .int wd), (10, .int (nI T)), (11, .int 0), (12, .int fl), (13, .int cl2), (14, .int (nI hh)), (15, .int mv), (16, .int (nI t)), (18, .int y), (21, .int (nI ct)), (22, .int (nI i)), (23, .int hd), (24, .int sm)]) hx hb dL_law_941 hl (by decide) rfl (fun ls hl => ?_)
  refine lv_iload hx hb dL_law_943 (lv_at hl 16 rfl) ?_
  refine lv_iload hx hb dL_law_945 (lv_at hl 0 rfl) ?_
  refine lv_if_le (tgt := 966) hx hb dL_law_947 (by decide) (fun cq1 => ?_) (fun cq1 => ?_)
  · refine lv_iload hx hb dL_law_966 (lv_at hl 0 rfl) ?_
    refine lv_ineg hx hb dL_law_968 ?_
    refine lv_aload_n hx hb dL_law_969 rfl (lv_at hl 4 rfl) ?_
    refine lv_iload hx hb dL_law_970 (lv_at hl 15 rfl) ?_
    refine lv_bipush (v := 24) hx hb dL_law_972 (by decide) ?_
    refine lv_irem hx hb dL_law_974 (by decide) ?_
    refine lv_topi (fun v9 e9 => ?_)
    have e9 := e9.trans (nI_mod24 (n := hh) (by omega))
    subst e9
    refine va_iald hx hb hK hP 10 0 rfl rfl (vp_in_nI (by omega) (by omega)) dL_law_975 ?_
    refine lv_topi (fun v9 e9 => ?_)
    rw [nI_clamp (n := hh % 24) (by omega)] at e9
    subst e9
    refine lv_imul hx hb dL_law_976 ?_
    refine lv_iadd hx hb dL_law_977 ?_
    refine lv_istore (lv' := [(15, .int (mv + ((-((S hh) - sm)) * (P (hh % 24))))), (25, .int ((S hh) - sm)), (0, .ref b), (1, .ref (A 0)), (2, .ref (B 0)), (3, .ref (B 1)), (4, .ref (B 2)), (5, .ref (B 3)), (6, .ref (B 4)), (7, .ref (B 5)), (8, .ref (B 6)), (9, .int wd), (10, .int (nI T)), (11, .int 0), (12, .int fl), (13, .int cl2), (14, .int (nI hh)), (16, .int (nI t)), (18, .int y), (21, .int (nI ct)), (22, .int (nI i)), (23, .int hd), (24, .int sm)]) hx hb dL_law_978 hl (by decide) rfl (fun ls hl => ?_)
    refine lv_aload hx hb dL_law_980 (lv_at hl 10 rfl) ?_
    refine lv_iload hx hb dL_law_982 (lv_at hl 16 rfl) ?_
    refine lv_iload hx hb dL_law_984 (lv_at hl 22 rfl) ?_
    refine va_iast hx hb hK hP hD hS 15 0 rfl rfl (vp_in_nI (by omega) (by omega)) dL_law_986 (fun H locs hP hD hS => ?_)
    rw [nI_clamp (n := hh) (by omega)] at hP hD
    have hP : va_P dG vwCl ((xW A cA L P G Vf R Nf Yf S wd (nI T) ftf fl cef (nI hf) mof) ++ (lW B cA L P G V2 Rp2 S (upd Y1 hh sm))) H := hP
    have hD : va_D (aNew s.heap) ((xW A cA L P G Vf R Nf Yf S wd (nI T) ftf fl cef (nI hf) mof) ++ (lW B cA L P G V2 Rp2 S (upd Y1 hh sm))) := hD
    refine lv_aload_n hx hb dL_law_987 rfl (lv_at hl 3 rfl) ?_
    refine lv_iload hx hb dL_law_988 (lv_at hl 16 rfl) ?_
    have hPc := hP.sub (ws' := (xW A cA L P G Vf R Nf Yf S wd (nI T) ftf fl cef (nI hf) mof)) [0, 1, 2, 3, 4, 5, 6, 7, 8] rfl
    have hDc := hD.sub (ws' := (xW A cA L P G Vf R Nf Yf S wd (nI T) ftf fl cef (nI hf) mof)) [0, 1, 2, 3, 4, 5, 6, 7, 8] (by decide) rfl
    have hFc := va_free (wc := (xW A cA L P G Vf R Nf Yf S wd (nI T) ftf fl cef (nI hf) mof)) hD hS hA [0, 1, 2, 3, 4, 5, 6, 7, 8] rfl
    refine va_calli (va_runV (As := [.int (nI hh)]) (rest := []) ⟨hx, hb, hml, hown, hts⟩ (c_X0_made l dG A A cA H L P G Vf R Nf Yf S wd (nI T) ftf fl cef (nI hf) mof (nI hh) (nIb (by omega) (b := 500) (by omega)) (oI_gone (j := hh) (by omega) (by omega))) (cwV 1 hts gL_law_X0_made rfl rfl rfl (by decide +kernel) ⟨Nat.le_of_ble_eq_true rfl, Nat.le_of_ble_eq_true rfl⟩) ⟨fun a9 U g mk q => ⟨q.1, wPre_calling g mk a9 q.2⟩, va_recv hK hPc (ci := 0) (q0 := 0) rfl rfl, fun U hU hW => ⟨rfl, wPre_of hK hPc hDc hU hW⟩⟩ rfl rfl hl.1 rfl (lv_room (Nat.le_of_ble_eq_true rfl)) dL_law_990 ⟨Nat.le_of_ble_eq_true rfl, Nat.le_of_ble_eq_true rfl⟩) hS (fun q _ h => h.elim) hFc (fun r2 u2 t9 H1 locs ht hvm hw hB hz1 hk1 hS => ?_)
    have e9 := hB.symm.trans ht
    subst e9
    rw [nI_clamp (n := hh) (by omega)] at hw
    have hw := hw.symm
    subst hw
    refine lv_iload hx hb dL_law_993 (lv_at hl 22 rfl) ?_
    refine lv_icmp_ne (tgt := 1040) hx hb dL_law_995 (by decide) (fun h9 => absurd hY h9) (fun _ => ?_)
    refine lv_aload_n hx hb dL_law_998 rfl (lv_at hl 3 rfl) ?_
    refine lv_iload hx hb dL_law_999 (lv_at hl 16 rfl) ?_
    have hPc := hP.sub (ws' := (xW A cA L P G Vf R Nf Yf S wd (nI T) ftf fl cef (nI hf) mof)) [0, 1, 2, 3, 4, 5, 6, 7, 8] rfl
    have hDc := hD.sub (ws' := (xW A cA L P G Vf R Nf Yf S wd (nI T) ftf fl cef (nI hf) mof)) [0, 1, 2, 3, 4, 5, 6, 7, 8] (by decide) rfl
    have hFc := va_free (wc := (xW A cA L P G Vf R Nf Yf S wd (nI T) ftf fl cef (nI hf) mof)) hD hS hA [0, 1, 2, 3, 4, 5, 6, 7, 8] rfl
    refine va_calli (va_runV (As := [.int (nI hh)]) (rest := []) ⟨hx, hb, hml, hown, hts⟩ (c_X0_madeAnew_ok l dG A A cA H L P G Vf R Nf Yf S T hf wd ftf fl cef mof hh (by omega) (by omega)) (cwV 1 hts gL_law_X0_madeAnew rfl rfl rfl (by decide +kernel) ⟨Nat.le_of_ble_eq_true rfl, Nat.le_of_ble_eq_true rfl⟩) ⟨fun a9 U g mk q => ⟨q.1, wPre_calling g mk a9 q.2⟩, va_recv hK hPc (ci := 0) (q0 := 0) rfl rfl, fun U hU hW => ⟨rfl, wPre_of hK hPc hDc hU hW⟩⟩ rfl rfl hl.1 rfl (lv_room (Nat.le_of_ble_eq_true rfl)) dL_law_1001 ⟨Nat.le_of_ble_eq_true rfl, Nat.le_of_ble_eq_true rfl⟩) hS (fun q _ h => h.elim) hFc (fun r3 u3 t9 H1 locs ht hvm hw hB hz1 hk1 hS => ?_)
    have e9 := hB.symm.trans ht
    subst e9
    have hw := hw.symm
    subst hw
    refine lv_iload hx hb dL_law_1004 (lv_at hl 22 rfl) ?_
    refine lv_icmp_ne (tgt := 1040) hx hb dL_law_1006 (by decide) (fun h9 => absurd hA9 h9) (fun _ => ?_)
    refine lv_aload_n hx hb dL_law_1009 rfl (lv_at hl 3 rfl) ?_
    refine lv_iload hx hb dL_law_1010 (lv_at hl 16 rfl) ?_
    have hPc := hP.sub (ws' := (xW A cA L P G Vf R Nf Yf S wd (nI T) ftf fl cef (nI hf) mof)) [0, 1, 2, 3, 4, 5, 6, 7, 8] rfl
    have hDc := hD.sub (ws' := (xW A cA L P G Vf R Nf Yf S wd (nI T) ftf fl cef (nI hf) mof)) [0, 1, 2, 3, 4, 5, 6, 7, 8] (by decide) rfl
    have hFc := va_free (wc := (xW A cA L P G Vf R Nf Yf S wd (nI T) ftf fl cef (nI hf) mof)) hD hS hA [0, 1, 2, 3, 4, 5, 6, 7, 8] rfl
    refine va_calli (va_runV (As := [.int (nI hh)]) (rest := []) ⟨hx, hb, hml, hown, hts⟩ (c_X0_head l dG A A cA H L P G Vf R Nf Yf S wd (nI T) ftf fl cef (nI hf) mof (nI hh) (nIb (by omega) (b := 500) (by omega)) (oI_gone (j := hh) (by omega) (by omega))) (cwV 1 hts gL_law_X0_head rfl rfl rfl (by decide +kernel) ⟨Nat.le_of_ble_eq_true rfl, Nat.le_of_ble_eq_true rfl⟩) ⟨fun a9 U g mk q => ⟨q.1, wPre_calling g mk a9 q.2⟩, va_recv hK hPc (ci := 0) (q0 := 0) rfl rfl, fun U hU hW => ⟨rfl, wPre_of hK hPc hDc hU hW⟩⟩ rfl rfl hl.1 rfl (lv_room (Nat.le_of_ble_eq_true rfl)) dL_law_1012 ⟨Nat.le_of_ble_eq_true rfl, Nat.le_of_ble_eq_true rfl⟩) hS (fun q _ h => h.elim) hFc (fun r4 u4 t9 H1 locs ht hvm hw hB hz1 hk1 hS => ?_)
    have e9 := hB.symm.trans ht
    subst e9
    rw [nI_clamp (n := hh) (by omega)] at hw
    have hw := hw.symm
    subst hw
    refine lv_iload hx hb dL_law_1015 (lv_at hl 21 rfl) ?_
    refine lv_icmp_ne (tgt := 1040) hx hb dL_law_1017 (by decide) (fun h9 => absurd hN h9) (fun _ => ?_)
    refine lv_aload_n hx hb dL_law_1020 rfl (lv_at hl 3 rfl) ?_
    refine lv_iload hx hb dL_law_1021 (lv_at hl 16 rfl) ?_
    have hPc := hP.sub (ws' := (xW A cA L P G Vf R Nf Yf S wd (nI T) ftf fl cef (nI hf) mof)) [0, 1, 2, 3, 4, 5, 6, 7, 8] rfl
    have hDc := hD.sub (ws' := (xW A cA L P G Vf R Nf Yf S wd (nI T) ftf fl cef (nI hf) mof)) [0, 1, 2, 3, 4, 5, 6, 7, 8] (by decide) rfl
    have hFc := va_free (wc := (xW A cA L P G Vf R Nf Yf S wd (nI T) ftf fl cef (nI hf) mof)) hD hS hA [0, 1, 2, 3, 4, 5, 6, 7, 8] rfl
    refine va_calli (va_runV (As := [.int (nI hh)]) (rest := []) ⟨hx, hb, hml, hown, hts⟩ (c_X0_bought l dG A A cA H L P G Vf R Nf Yf S wd (nI T) ftf fl cef (nI hf) mof (nI hh) (nIb (by omega) (b := 500) (by omega)) (oI_gone (j := hh) (by omega) (by omega))) (cwV 1 hts gL_law_X0_bought rfl rfl rfl (by decide +kernel) ⟨Nat.le_of_ble_eq_true rfl, Nat.le_of_ble_eq_true rfl⟩) ⟨fun a9 U g mk q => ⟨q.1, wPre_calling g mk a9 q.2⟩, va_recv hK hPc (ci := 0) (q0 := 0) rfl rfl, fun U hU hW => ⟨rfl, wPre_of hK hPc hDc hU hW⟩⟩ rfl rfl hl.1 rfl (lv_room (Nat.le_of_ble_eq_true rfl)) dL_law_1023 ⟨Nat.le_of_ble_eq_true rfl, Nat.le_of_ble_eq_true rfl⟩) hS (fun q _ h => h.elim) hFc (fun r5 u5 t9 H1 locs ht hvm hw hB hz1 hk1 hS => ?_)
    have e9 := hB.symm.trans ht
    subst e9
    rw [nI_clamp (n := hh) (by omega)] at hw
    have hw := hw.symm
    subst hw
    refine lv_iload hx hb dL_law_1026 (lv_at hl 1 rfl) ?_
    refine lv_if_le (tgt := 1036) hx hb dL_law_1028 (by decide) (fun _ => ?_) (fun h9 => absurd cq1 h9)
    refine lv_iconst (v := 0) hx hb dL_law_1036 (by decide) ?_
    refine lv_icmp_eq (tgt := 1042) hx hb dL_law_1037 (by decide) (fun _ => ?_) (fun h9 => absurd (by rw [hY, if_neg (Int32.not_lt.mpr cq1)]) h9)
    refine lv_iinc (v := (nI (hh + 1))) (lv' := [(14, .int (nI (hh + 1))), (15, .int (mv + ((-((S hh) - sm)) * (P (hh % 24))))), (25, .int ((S hh) - sm)), (0, .ref b), (1, .ref (A 0)), (2, .ref (B 0)), (3, .ref (B 1)), (4, .ref (B 2)), (5, .ref (B 3)), (6, .ref (B 4)), (7, .ref (B 5)), (8, .ref (B 6)), (9, .int wd), (10, .int (nI T)), (11, .int 0), (12, .int fl), (13, .int cl2), (16, .int (nI t)), (18, .int y), (21, .int (nI ct)), (22, .int (nI i)), (23, .int hd), (24, .int sm)]) hx hb dL_law_1042 hl (k := 16) rfl (nI_1 hh) (by decide) rfl (fun ls hl => ?_)
    refine lv_iinc (v := (nI (i + 1))) (lv' := [(22, .int (nI (i + 1))), (14, .int (nI (hh + 1))), (15, .int (mv + ((-((S hh) - sm)) * (P (hh % 24))))), (25, .int ((S hh) - sm)), (0, .ref b), (1, .ref (A 0)), (2, .ref (B 0)), (3, .ref (B 1)), (4, .ref (B 2)), (5, .ref (B 3)), (6, .ref (B 4)), (7, .ref (B 5)), (8, .ref (B 6)), (9, .int wd), (10, .int (nI T)), (11, .int 0), (12, .int fl), (13, .int cl2), (16, .int (nI t)), (18, .int y), (21, .int (nI ct)), (23, .int hd), (24, .int sm)]) hx hb dL_law_1045 hl (k := 20) rfl (nI_1 i) (by decide) rfl (fun ls hl => ?_)
    refine lv_goto (tgt := 723) hx hb dL_law_1048 (by decide) ?_
    exact (kk _ (hmF.2 cq1).1 (hmF.2 cq1).2.1 (hmF.2 cq1).2.2) H locs ls hP hD hS (lv_sub hl [4, 5, 6, 7, 8, 9, 10, 11, 12, 13, 14, 15, 16, 17, 1, 2, 18, 19, 20, 0] rfl)
  · refine lv_bipush (v := (-2)) hx hb dL_law_950 (by decide) ?_
    refine lv_iload hx hb dL_law_952 (lv_at hl 0 rfl) ?_
    refine lv_imul hx hb dL_law_954 ?_
    refine lv_aload_n hx hb dL_law_955 rfl (lv_at hl 4 rfl) ?_
    refine lv_iload hx hb dL_law_956 (lv_at hl 15 rfl) ?_
    refine lv_bipush (v := 24) hx hb dL_law_958 (by decide) ?_
    refine lv_irem hx hb dL_law_960 (by decide) ?_
    refine lv_topi (fun v9 e9 => ?_)
    have e9 := e9.trans (nI_mod24 (n := hh) (by omega))
    subst e9
    refine va_iald hx hb hK hP 10 0 rfl rfl (vp_in_nI (by omega) (by omega)) dL_law_961 ?_
    refine lv_topi (fun v9 e9 => ?_)
    rw [nI_clamp (n := hh % 24) (by omega)] at e9
    subst e9
    refine lv_imul hx hb dL_law_962 ?_
    refine lv_goto (tgt := 977) hx hb dL_law_963 (by decide) ?_
    refine lv_iadd hx hb dL_law_977 ?_
    refine lv_istore (lv' := [(15, .int (mv + ((((-2) : Int32) * ((S hh) - sm)) * (P (hh % 24))))), (25, .int ((S hh) - sm)), (0, .ref b), (1, .ref (A 0)), (2, .ref (B 0)), (3, .ref (B 1)), (4, .ref (B 2)), (5, .ref (B 3)), (6, .ref (B 4)), (7, .ref (B 5)), (8, .ref (B 6)), (9, .int wd), (10, .int (nI T)), (11, .int 0), (12, .int fl), (13, .int cl2), (14, .int (nI hh)), (16, .int (nI t)), (18, .int y), (21, .int (nI ct)), (22, .int (nI i)), (23, .int hd), (24, .int sm)]) hx hb dL_law_978 hl (by decide) rfl (fun ls hl => ?_)
    refine lv_aload hx hb dL_law_980 (lv_at hl 10 rfl) ?_
    refine lv_iload hx hb dL_law_982 (lv_at hl 16 rfl) ?_
    refine lv_iload hx hb dL_law_984 (lv_at hl 22 rfl) ?_
    refine va_iast hx hb hK hP hD hS 15 0 rfl rfl (vp_in_nI (by omega) (by omega)) dL_law_986 (fun H locs hP hD hS => ?_)
    rw [nI_clamp (n := hh) (by omega)] at hP hD
    have hP : va_P dG vwCl ((xW A cA L P G Vf R Nf Yf S wd (nI T) ftf fl cef (nI hf) mof) ++ (lW B cA L P G V2 Rp2 S (upd Y1 hh sm))) H := hP
    have hD : va_D (aNew s.heap) ((xW A cA L P G Vf R Nf Yf S wd (nI T) ftf fl cef (nI hf) mof) ++ (lW B cA L P G V2 Rp2 S (upd Y1 hh sm))) := hD
    refine lv_aload_n hx hb dL_law_987 rfl (lv_at hl 3 rfl) ?_
    refine lv_iload hx hb dL_law_988 (lv_at hl 16 rfl) ?_
    have hPc := hP.sub (ws' := (xW A cA L P G Vf R Nf Yf S wd (nI T) ftf fl cef (nI hf) mof)) [0, 1, 2, 3, 4, 5, 6, 7, 8] rfl
    have hDc := hD.sub (ws' := (xW A cA L P G Vf R Nf Yf S wd (nI T) ftf fl cef (nI hf) mof)) [0, 1, 2, 3, 4, 5, 6, 7, 8] (by decide) rfl
    have hFc := va_free (wc := (xW A cA L P G Vf R Nf Yf S wd (nI T) ftf fl cef (nI hf) mof)) hD hS hA [0, 1, 2, 3, 4, 5, 6, 7, 8] rfl
    refine va_calli (va_runV (As := [.int (nI hh)]) (rest := []) ⟨hx, hb, hml, hown, hts⟩ (c_X0_made l dG A A cA H L P G Vf R Nf Yf S wd (nI T) ftf fl cef (nI hf) mof (nI hh) (nIb (by omega) (b := 500) (by omega)) (oI_gone (j := hh) (by omega) (by omega))) (cwV 1 hts gL_law_X0_made rfl rfl rfl (by decide +kernel) ⟨Nat.le_of_ble_eq_true rfl, Nat.le_of_ble_eq_true rfl⟩) ⟨fun a9 U g mk q => ⟨q.1, wPre_calling g mk a9 q.2⟩, va_recv hK hPc (ci := 0) (q0 := 0) rfl rfl, fun U hU hW => ⟨rfl, wPre_of hK hPc hDc hU hW⟩⟩ rfl rfl hl.1 rfl (lv_room (Nat.le_of_ble_eq_true rfl)) dL_law_990 ⟨Nat.le_of_ble_eq_true rfl, Nat.le_of_ble_eq_true rfl⟩) hS (fun q _ h => h.elim) hFc (fun r6 u6 t9 H1 locs ht hvm hw hB hz1 hk1 hS => ?_)
    have e9 := hB.symm.trans ht
    subst e9
    rw [nI_clamp (n := hh) (by omega)] at hw
    have hw := hw.symm
    subst hw
    refine lv_iload hx hb dL_law_993 (lv_at hl 22 rfl) ?_
    refine lv_icmp_ne (tgt := 1040) hx hb dL_law_995 (by decide) (fun h9 => absurd hY h9) (fun _ => ?_)
    refine lv_aload_n hx hb dL_law_998 rfl (lv_at hl 3 rfl) ?_
    refine lv_iload hx hb dL_law_999 (lv_at hl 16 rfl) ?_
    have hPc := hP.sub (ws' := (xW A cA L P G Vf R Nf Yf S wd (nI T) ftf fl cef (nI hf) mof)) [0, 1, 2, 3, 4, 5, 6, 7, 8] rfl
    have hDc := hD.sub (ws' := (xW A cA L P G Vf R Nf Yf S wd (nI T) ftf fl cef (nI hf) mof)) [0, 1, 2, 3, 4, 5, 6, 7, 8] (by decide) rfl
    have hFc := va_free (wc := (xW A cA L P G Vf R Nf Yf S wd (nI T) ftf fl cef (nI hf) mof)) hD hS hA [0, 1, 2, 3, 4, 5, 6, 7, 8] rfl
    refine va_calli (va_runV (As := [.int (nI hh)]) (rest := []) ⟨hx, hb, hml, hown, hts⟩ (c_X0_madeAnew_ok l dG A A cA H L P G Vf R Nf Yf S T hf wd ftf fl cef mof hh (by omega) (by omega)) (cwV 1 hts gL_law_X0_madeAnew rfl rfl rfl (by decide +kernel) ⟨Nat.le_of_ble_eq_true rfl, Nat.le_of_ble_eq_true rfl⟩) ⟨fun a9 U g mk q => ⟨q.1, wPre_calling g mk a9 q.2⟩, va_recv hK hPc (ci := 0) (q0 := 0) rfl rfl, fun U hU hW => ⟨rfl, wPre_of hK hPc hDc hU hW⟩⟩ rfl rfl hl.1 rfl (lv_room (Nat.le_of_ble_eq_true rfl)) dL_law_1001 ⟨Nat.le_of_ble_eq_true rfl, Nat.le_of_ble_eq_true rfl⟩) hS (fun q _ h => h.elim) hFc (fun r7 u7 t9 H1 locs ht hvm hw hB hz1 hk1 hS => ?_)
    have e9 := hB.symm.trans ht
    subst e9
    have hw := hw.symm
    subst hw
    refine lv_iload hx hb dL_law_1004 (lv_at hl 22 rfl) ?_
    refine lv_icmp_ne (tgt := 1040) hx hb dL_law_1006 (by decide) (fun h9 => absurd hA9 h9) (fun _ => ?_)
    refine lv_aload_n hx hb dL_law_1009 rfl (lv_at hl 3 rfl) ?_
    refine lv_iload hx hb dL_law_1010 (lv_at hl 16 rfl) ?_
    have hPc := hP.sub (ws' := (xW A cA L P G Vf R Nf Yf S wd (nI T) ftf fl cef (nI hf) mof)) [0, 1, 2, 3, 4, 5, 6, 7, 8] rfl
    have hDc := hD.sub (ws' := (xW A cA L P G Vf R Nf Yf S wd (nI T) ftf fl cef (nI hf) mof)) [0, 1, 2, 3, 4, 5, 6, 7, 8] (by decide) rfl
    have hFc := va_free (wc := (xW A cA L P G Vf R Nf Yf S wd (nI T) ftf fl cef (nI hf) mof)) hD hS hA [0, 1, 2, 3, 4, 5, 6, 7, 8] rfl
    refine va_calli (va_runV (As := [.int (nI hh)]) (rest := []) ⟨hx, hb, hml, hown, hts⟩ (c_X0_head l dG A A cA H L P G Vf R Nf Yf S wd (nI T) ftf fl cef (nI hf) mof (nI hh) (nIb (by omega) (b := 500) (by omega)) (oI_gone (j := hh) (by omega) (by omega))) (cwV 1 hts gL_law_X0_head rfl rfl rfl (by decide +kernel) ⟨Nat.le_of_ble_eq_true rfl, Nat.le_of_ble_eq_true rfl⟩) ⟨fun a9 U g mk q => ⟨q.1, wPre_calling g mk a9 q.2⟩, va_recv hK hPc (ci := 0) (q0 := 0) rfl rfl, fun U hU hW => ⟨rfl, wPre_of hK hPc hDc hU hW⟩⟩ rfl rfl hl.1 rfl (lv_room (Nat.le_of_ble_eq_true rfl)) dL_law_1012 ⟨Nat.le_of_ble_eq_true rfl, Nat.le_of_ble_eq_true rfl⟩) hS (fun q _ h => h.elim) hFc (fun r8 u8 t9 H1 locs ht hvm hw hB hz1 hk1 hS => ?_)
    have e9 := hB.symm.trans ht
    subst e9
    rw [nI_clamp (n := hh) (by omega)] at hw
    have hw := hw.symm
    subst hw
    refine lv_iload hx hb dL_law_1015 (lv_at hl 21 rfl) ?_
    refine lv_icmp_ne (tgt := 1040) hx hb dL_law_1017 (by decide) (fun h9 => absurd hN h9) (fun _ => ?_)
    refine lv_aload_n hx hb dL_law_1020 rfl (lv_at hl 3 rfl) ?_
    refine lv_iload hx hb dL_law_1021 (lv_at hl 16 rfl) ?_
    have hPc := hP.sub (ws' := (xW A cA L P G Vf R Nf Yf S wd (nI T) ftf fl cef (nI hf) mof)) [0, 1, 2, 3, 4, 5, 6, 7, 8] rfl
    have hDc := hD.sub (ws' := (xW A cA L P G Vf R Nf Yf S wd (nI T) ftf fl cef (nI hf) mof)) [0, 1, 2, 3, 4, 5, 6, 7, 8] (by decide) rfl
    have hFc := va_free (wc := (xW A cA L P G Vf R Nf Yf S wd (nI T) ftf fl cef (nI hf) mof)) hD hS hA [0, 1, 2, 3, 4, 5, 6, 7, 8] rfl
    refine va_calli (va_runV (As := [.int (nI hh)]) (rest := []) ⟨hx, hb, hml, hown, hts⟩ (c_X0_bought l dG A A cA H L P G Vf R Nf Yf S wd (nI T) ftf fl cef (nI hf) mof (nI hh) (nIb (by omega) (b := 500) (by omega)) (oI_gone (j := hh) (by omega) (by omega))) (cwV 1 hts gL_law_X0_bought rfl rfl rfl (by decide +kernel) ⟨Nat.le_of_ble_eq_true rfl, Nat.le_of_ble_eq_true rfl⟩) ⟨fun a9 U g mk q => ⟨q.1, wPre_calling g mk a9 q.2⟩, va_recv hK hPc (ci := 0) (q0 := 0) rfl rfl, fun U hU hW => ⟨rfl, wPre_of hK hPc hDc hU hW⟩⟩ rfl rfl hl.1 rfl (lv_room (Nat.le_of_ble_eq_true rfl)) dL_law_1023 ⟨Nat.le_of_ble_eq_true rfl, Nat.le_of_ble_eq_true rfl⟩) hS (fun q _ h => h.elim) hFc (fun r9 u9 t9 H1 locs ht hvm hw hB hz1 hk1 hS => ?_)
    have e9 := hB.symm.trans ht
    subst e9
    rw [nI_clamp (n := hh) (by omega)] at hw
    have hw := hw.symm
    subst hw
    refine lv_iload hx hb dL_law_1026 (lv_at hl 1 rfl) ?_
    refine lv_if_le (tgt := 1036) hx hb dL_law_1028 (by decide) (fun h9 => absurd h9 cq1) (fun _ => ?_)
    refine lv_iload hx hb dL_law_1031 (lv_at hl 1 rfl) ?_
    refine lv_goto (tgt := 1037) hx hb dL_law_1033 (by decide) ?_
    refine lv_icmp_eq (tgt := 1042) hx hb dL_law_1037 (by decide) (fun _ => ?_) (fun h9 => absurd (by rw [hY, if_pos (Int32.not_le.mp cq1)]) h9)
    refine lv_iinc (v := (nI (hh + 1))) (lv' := [(14, .int (nI (hh + 1))), (15, .int (mv + ((((-2) : Int32) * ((S hh) - sm)) * (P (hh % 24))))), (25, .int ((S hh) - sm)), (0, .ref b), (1, .ref (A 0)), (2, .ref (B 0)), (3, .ref (B 1)), (4, .ref (B 2)), (5, .ref (B 3)), (6, .ref (B 4)), (7, .ref (B 5)), (8, .ref (B 6)), (9, .int wd), (10, .int (nI T)), (11, .int 0), (12, .int fl), (13, .int cl2), (16, .int (nI t)), (18, .int y), (21, .int (nI ct)), (22, .int (nI i)), (23, .int hd), (24, .int sm)]) hx hb dL_law_1042 hl (k := 16) rfl (nI_1 hh) (by decide) rfl (fun ls hl => ?_)
    refine lv_iinc (v := (nI (i + 1))) (lv' := [(22, .int (nI (i + 1))), (14, .int (nI (hh + 1))), (15, .int (mv + ((((-2) : Int32) * ((S hh) - sm)) * (P (hh % 24))))), (25, .int ((S hh) - sm)), (0, .ref b), (1, .ref (A 0)), (2, .ref (B 0)), (3, .ref (B 1)), (4, .ref (B 2)), (5, .ref (B 3)), (6, .ref (B 4)), (7, .ref (B 5)), (8, .ref (B 6)), (9, .int wd), (10, .int (nI T)), (11, .int 0), (12, .int fl), (13, .int cl2), (16, .int (nI t)), (18, .int y), (21, .int (nI ct)), (23, .int hd), (24, .int sm)]) hx hb dL_law_1045 hl (k := 20) rfl (nI_1 i) (by decide) rfl (fun ls hl => ?_)
    refine lv_goto (tgt := 723) hx hb dL_law_1048 (by decide) ?_
    exact (kk _ (hmF.1 (Int32.not_le.mp cq1)).1 (hmF.1 (Int32.not_le.mp cq1)).2.1 (hmF.1 (Int32.not_le.mp cq1)).2.2) H locs ls hP hD hS (lv_sub hl [4, 5, 6, 7, 8, 9, 10, 11, 12, 13, 14, 15, 16, 17, 1, 2, 18, 19, 20, 0] rfl)
set_option maxHeartbeats 1000000 in
set_option maxRecDepth 100000 in
theorem hour_a {p : Program} {l : Launch} {e : Env} {s : State} {m : MethodId} {below : List Frame} {meth : Method} {c : Code} {b Ln : Nat} {xs : Nat → Int32} {dG : va_G} {A B : Nat → Nat} {cA : ClassId} (C0 : lw_At p s m meth c b Ln xs) (hK : va_K dG vwCl (tyI cA) s) {L P G Vf R Nf Yf S : Nat → Int32} {T t hf hh ct i : Nat} {wd ftf fl cef : Int32} {mof : UInt32} {y : Int32} {V1 Rp1 Y1 : Nat → Int32} {hd mv ft1 cl1 : Int32} (hi : i < ct) (hct : ct < 1000) (hh1 : hh < 500) (hhd : hd = fAbsX (L (hh % 24) + wd)) (kk : lwP p l e s m below meth c b dG 776 ((xW A cA L P G Vf R Nf Yf S wd (nI T) ftf fl cef (nI hf) mof) ++ (lW B cA L P G V1 Rp1 S Y1)) (lV A B b wd (nI T) 0 fl (mClo ft1 fl cl1) (nI hh) mv (nI t) ++ [(18, .int y), (21, .int (nI ct)), (22, .int (nI i)), (23, .int hd), (24, .int 0), (25, .int 0)])) : lwP p l e s m below meth c b dG 723 ((xW A cA L P G Vf R Nf Yf S wd (nI T) ftf fl cef (nI hf) mof) ++ (lW B cA L P G V1 Rp1 S Y1)) (lV A B b wd (nI T) ft1 fl cl1 (nI hh) mv (nI t) ++ [(18, .int y), (21, .int (nI ct)), (22, .int (nI i))]) := by
  obtain ⟨hx, hb, hr, hml, hown0, hts0, hX, hbl, hlocks, hgv⟩ := id C0
  have hown : s.vm.findClass RL = some m.cls := hown0
  have hts : ∀ w ∈ wsL_law, w.before #[Value.ref b] s = true := fun w h => hts0 w (wsL_law_in w h)
  have hA : ∀ q : Nat, s.heap.size ≤ q → aNew s.heap q := fun _ h => h
  have hbA : ¬ aNew s.heap b := Nat.not_le.mpr hbl
  intro H locs ls hP hD hS hl
  have hl : lv_has ls 27 ([(0, .ref b), (1, .ref (A 0)), (2, .ref (B 0)), (3, .ref (B 1)), (4, .ref (B 2)), (5, .ref (B 3)), (6, .ref (B 4)), (7, .ref (B 5)), (8, .ref (B 6)), (9, .int wd), (10, .int (nI T)), (11, .int ft1), (12, .int fl), (13, .int cl1), (14, .int (nI hh)), (15, .int mv), (16, .int (nI t)), (18, .int y), (21, .int (nI ct)), (22, .int (nI i))]) := hl
  refine lv_iload hx hb dL_law_723 (lv_at hl 19 rfl) ?_
  refine lv_iload hx hb dL_law_725 (lv_at hl 18 rfl) ?_
  refine lv_icmp_ge (tgt := 1051) hx hb dL_law_727 (by decide) (fun h9 => absurd h9 (nI_ge hi (by omega))) (fun _ => ?_)
  refine lv_aload_n hx hb dL_law_730 rfl (lv_at hl 2 rfl) ?_
  refine lv_iload hx hb dL_law_731 (lv_at hl 14 rfl) ?_
  refine lv_bipush (v := 24) hx hb dL_law_733 (by decide) ?_
  refine lv_irem hx hb dL_law_735 (by decide) ?_
  refine lv_topi (fun v9 e9 => ?_)
  have e9 := e9.trans (nI_mod24 (n := hh) (by omega))
  subst e9
  refine va_iald hx hb hK hP 9 0 rfl rfl (vp_in_nI (by omega) (by omega)) dL_law_736 ?_
  refine lv_topi (fun v9 e9 => ?_)
  rw [nI_clamp (n := hh % 24) (by omega)] at e9
  subst e9
  refine lv_iload hx hb dL_law_737 (lv_at hl 9 rfl) ?_
  refine lv_iadd hx hb dL_law_739 ?_
  refine lv_istore (lv' := [(23, .int ((L (hh % 24)) + wd)), (0, .ref b), (1, .ref (A 0)), (2, .ref (B 0)), (3, .ref (B 1)), (4, .ref (B 2)), (5, .ref (B 3)), (6, .ref (B 4)), (7, .ref (B 5)), (8, .ref (B 6)), (9, .int wd), (10, .int (nI T)), (11, .int ft1), (12, .int fl), (13, .int cl1), (14, .int (nI hh)), (15, .int mv), (16, .int (nI t)), (18, .int y), (21, .int (nI ct)), (22, .int (nI i))]) hx hb dL_law_740 hl (by decide) rfl (fun ls hl => ?_)
  refine lv_iload hx hb dL_law_742 (lv_at hl 0 rfl) ?_
  refine lv_if_ge (tgt := 753) hx hb dL_law_744 (by decide) (fun cq1 => ?_) (fun cq1 => ?_)
  · refine lv_iload hx hb dL_law_753 (lv_at hl 0 rfl) ?_
    refine lv_istore (lv' := [(23, .int ((L (hh % 24)) + wd)), (0, .ref b), (1, .ref (A 0)), (2, .ref (B 0)), (3, .ref (B 1)), (4, .ref (B 2)), (5, .ref (B 3)), (6, .ref (B 4)), (7, .ref (B 5)), (8, .ref (B 6)), (9, .int wd), (10, .int (nI T)), (11, .int ft1), (12, .int fl), (13, .int cl1), (14, .int (nI hh)), (15, .int mv), (16, .int (nI t)), (18, .int y), (21, .int (nI ct)), (22, .int (nI i))]) hx hb dL_law_755 hl (by decide) rfl (fun ls hl => ?_)
    refine lv_iload hx hb dL_law_757 (lv_at hl 12 rfl) ?_
    refine lv_iload hx hb dL_law_759 (lv_at hl 13 rfl) ?_
    refine lv_icmp_le (tgt := 767) hx hb dL_law_761 (by decide) (fun cq2 => ?_) (fun cq2 => ?_)
    · refine lv_iconst (v := 0) hx hb dL_law_767 (by decide) ?_
      refine lv_istore (lv' := [(11, .int 0), (23, .int ((L (hh % 24)) + wd)), (0, .ref b), (1, .ref (A 0)), (2, .ref (B 0)), (3, .ref (B 1)), (4, .ref (B 2)), (5, .ref (B 3)), (6, .ref (B 4)), (7, .ref (B 5)), (8, .ref (B 6)), (9, .int wd), (10, .int (nI T)), (12, .int fl), (13, .int cl1), (14, .int (nI hh)), (15, .int mv), (16, .int (nI t)), (18, .int y), (21, .int (nI ct)), (22, .int (nI i))]) hx hb dL_law_768 hl (by decide) rfl (fun ls hl => ?_)
      refine lv_iconst (v := 0) hx hb dL_law_770 (by decide) ?_
      refine lv_istore (lv' := [(24, .int 0), (11, .int 0), (23, .int ((L (hh % 24)) + wd)), (0, .ref b), (1, .ref (A 0)), (2, .ref (B 0)), (3, .ref (B 1)), (4, .ref (B 2)), (5, .ref (B 3)), (6, .ref (B 4)), (7, .ref (B 5)), (8, .ref (B 6)), (9, .int wd), (10, .int (nI T)), (12, .int fl), (13, .int cl1), (14, .int (nI hh)), (15, .int mv), (16, .int (nI t)), (18, .int y), (21, .int (nI ct)), (22, .int (nI i))]) hx hb dL_law_771 hl (by decide) rfl (fun ls hl => ?_)
      refine lv_iconst (v := 0) hx hb dL_law_773 (by decide) ?_
      refine lv_istore (lv' := [(25, .int 0), (24, .int 0), (11, .int 0), (23, .int ((L (hh % 24)) + wd)), (0, .ref b), (1, .ref (A 0)), (2, .ref (B 0)), (3, .ref (B 1)), (4, .ref (B 2)), (5, .ref (B 3)), (6, .ref (B 4)), (7, .ref (B 5)), (8, .ref (B 6)), (9, .int wd), (10, .int (nI T)), (12, .int fl), (13, .int cl1), (14, .int (nI hh)), (15, .int mv), (16, .int (nI t)), (18, .int y), (21, .int (nI ct)), (22, .int (nI i))]) hx hb dL_law_774 hl (by decide) rfl (fun ls hl => ?_)
      have e8 : hd = ((L (hh % 24)) + wd) := hhd.trans (if_pos cq1)
      have e9 : mClo ft1 fl cl1 = cl1 := (if_pos cq2)
      exact kk H locs ls hP hD hS (by rw [e8, e9]; exact lv_sub hl [4, 5, 6, 7, 8, 9, 10, 11, 12, 13, 14, 2, 15, 16, 17, 18, 19, 20, 21, 22, 3, 1, 0] rfl)
    · refine lv_iconst (v := 3) hx hb dL_law_764 (by decide) ?_
      refine lv_istore (lv' := [(13, .int 3), (23, .int ((L (hh % 24)) + wd)), (0, .ref b), (1, .ref (A 0)), (2, .ref (B 0)), (3, .ref (B 1)), (4, .ref (B 2)), (5, .ref (B 3)), (6, .ref (B 4)), (7, .ref (B 5)), (8, .ref (B 6)), (9, .int wd), (10, .int (nI T)), (11, .int ft1), (12, .int fl), (14, .int (nI hh)), (15, .int mv), (16, .int (nI t)), (18, .int y), (21, .int (nI ct)), (22, .int (nI i))]) hx hb dL_law_765 hl (by decide) rfl (fun ls hl => ?_)
      refine lv_iconst (v := 0) hx hb dL_law_767 (by decide) ?_
      refine lv_istore (lv' := [(11, .int 0), (13, .int 3), (23, .int ((L (hh % 24)) + wd)), (0, .ref b), (1, .ref (A 0)), (2, .ref (B 0)), (3, .ref (B 1)), (4, .ref (B 2)), (5, .ref (B 3)), (6, .ref (B 4)), (7, .ref (B 5)), (8, .ref (B 6)), (9, .int wd), (10, .int (nI T)), (12, .int fl), (14, .int (nI hh)), (15, .int mv), (16, .int (nI t)), (18, .int y), (21, .int (nI ct)), (22, .int (nI i))]) hx hb dL_law_768 hl (by decide) rfl (fun ls hl => ?_)
      refine lv_iconst (v := 0) hx hb dL_law_770 (by decide) ?_
      refine lv_istore (lv' := [(24, .int 0), (11, .int 0), (13, .int 3), (23, .int ((L (hh % 24)) + wd)), (0, .ref b), (1, .ref (A 0)), (2, .ref (B 0)), (3, .ref (B 1)), (4, .ref (B 2)), (5, .ref (B 3)), (6, .ref (B 4)), (7, .ref (B 5)), (8, .ref (B 6)), (9, .int wd), (10, .int (nI T)), (12, .int fl), (14, .int (nI hh)), (15, .int mv), (16, .int (nI t)), (18, .int y), (21, .int (nI ct)), (22, .int (nI i))]) hx hb dL_law_771 hl (by decide) rfl (fun ls hl => ?_)
      refine lv_iconst (v := 0) hx hb dL_law_773 (by decide) ?_
      refine lv_istore (lv' := [(25, .int 0), (24, .int 0), (11, .int 0), (13, .int 3), (23, .int ((L (hh % 24)) + wd)), (0, .ref b), (1, .ref (A 0)), (2, .ref (B 0)), (3, .ref (B 1)), (4, .ref (B 2)), (5, .ref (B 3)), (6, .ref (B 4)), (7, .ref (B 5)), (8, .ref (B 6)), (9, .int wd), (10, .int (nI T)), (12, .int fl), (14, .int (nI hh)), (15, .int mv), (16, .int (nI t)), (18, .int y), (21, .int (nI ct)), (22, .int (nI i))]) hx hb dL_law_774 hl (by decide) rfl (fun ls hl => ?_)
      have e8 : hd = ((L (hh % 24)) + wd) := hhd.trans (if_pos cq1)
      have e9 : mClo ft1 fl cl1 = 3 := (if_neg cq2)
      exact kk H locs ls hP hD hS (by rw [e8, e9]; exact lv_sub hl [5, 6, 7, 8, 9, 10, 11, 12, 13, 14, 15, 2, 16, 3, 17, 18, 19, 20, 21, 22, 4, 1, 0] rfl)
  · refine lv_iload hx hb dL_law_747 (lv_at hl 0 rfl) ?_
    refine lv_ineg hx hb dL_law_749 ?_
    refine lv_goto (tgt := 755) hx hb dL_law_750 (by decide) ?_
    refine lv_istore (lv' := [(23, .int (-((L (hh % 24)) + wd))), (0, .ref b), (1, .ref (A 0)), (2, .ref (B 0)), (3, .ref (B 1)), (4, .ref (B 2)), (5, .ref (B 3)), (6, .ref (B 4)), (7, .ref (B 5)), (8, .ref (B 6)), (9, .int wd), (10, .int (nI T)), (11, .int ft1), (12, .int fl), (13, .int cl1), (14, .int (nI hh)), (15, .int mv), (16, .int (nI t)), (18, .int y), (21, .int (nI ct)), (22, .int (nI i))]) hx hb dL_law_755 hl (by decide) rfl (fun ls hl => ?_)
    refine lv_iload hx hb dL_law_757 (lv_at hl 12 rfl) ?_
    refine lv_iload hx hb dL_law_759 (lv_at hl 13 rfl) ?_
    refine lv_icmp_le (tgt := 767) hx hb dL_law_761 (by decide) (fun cq3 => ?_) (fun cq3 => ?_)
    · refine lv_iconst (v := 0) hx hb dL_law_767 (by decide) ?_
      refine lv_istore (lv' := [(11, .int 0), (23, .int (-((L (hh % 24)) + wd))), (0, .ref b), (1, .ref (A 0)), (2, .ref (B 0)), (3, .ref (B 1)), (4, .ref (B 2)), (5, .ref (B 3)), (6, .ref (B 4)), (7, .ref (B 5)), (8, .ref (B 6)), (9, .int wd), (10, .int (nI T)), (12, .int fl), (13, .int cl1), (14, .int (nI hh)), (15, .int mv), (16, .int (nI t)), (18, .int y), (21, .int (nI ct)), (22, .int (nI i))]) hx hb dL_law_768 hl (by decide) rfl (fun ls hl => ?_)
      refine lv_iconst (v := 0) hx hb dL_law_770 (by decide) ?_
      refine lv_istore (lv' := [(24, .int 0), (11, .int 0), (23, .int (-((L (hh % 24)) + wd))), (0, .ref b), (1, .ref (A 0)), (2, .ref (B 0)), (3, .ref (B 1)), (4, .ref (B 2)), (5, .ref (B 3)), (6, .ref (B 4)), (7, .ref (B 5)), (8, .ref (B 6)), (9, .int wd), (10, .int (nI T)), (12, .int fl), (13, .int cl1), (14, .int (nI hh)), (15, .int mv), (16, .int (nI t)), (18, .int y), (21, .int (nI ct)), (22, .int (nI i))]) hx hb dL_law_771 hl (by decide) rfl (fun ls hl => ?_)
      refine lv_iconst (v := 0) hx hb dL_law_773 (by decide) ?_
      refine lv_istore (lv' := [(25, .int 0), (24, .int 0), (11, .int 0), (23, .int (-((L (hh % 24)) + wd))), (0, .ref b), (1, .ref (A 0)), (2, .ref (B 0)), (3, .ref (B 1)), (4, .ref (B 2)), (5, .ref (B 3)), (6, .ref (B 4)), (7, .ref (B 5)), (8, .ref (B 6)), (9, .int wd), (10, .int (nI T)), (12, .int fl), (13, .int cl1), (14, .int (nI hh)), (15, .int mv), (16, .int (nI t)), (18, .int y), (21, .int (nI ct)), (22, .int (nI i))]) hx hb dL_law_774 hl (by decide) rfl (fun ls hl => ?_)
      have e8 : hd = (-((L (hh % 24)) + wd)) := hhd.trans ((if_neg cq1).trans (Int32.zero_sub _))
      have e9 : mClo ft1 fl cl1 = cl1 := (if_pos cq3)
      exact kk H locs ls hP hD hS (by rw [e8, e9]; exact lv_sub hl [4, 5, 6, 7, 8, 9, 10, 11, 12, 13, 14, 2, 15, 16, 17, 18, 19, 20, 21, 22, 3, 1, 0] rfl)
    · refine lv_iconst (v := 3) hx hb dL_law_764 (by decide) ?_
      refine lv_istore (lv' := [(13, .int 3), (23, .int (-((L (hh % 24)) + wd))), (0, .ref b), (1, .ref (A 0)), (2, .ref (B 0)), (3, .ref (B 1)), (4, .ref (B 2)), (5, .ref (B 3)), (6, .ref (B 4)), (7, .ref (B 5)), (8, .ref (B 6)), (9, .int wd), (10, .int (nI T)), (11, .int ft1), (12, .int fl), (14, .int (nI hh)), (15, .int mv), (16, .int (nI t)), (18, .int y), (21, .int (nI ct)), (22, .int (nI i))]) hx hb dL_law_765 hl (by decide) rfl (fun ls hl => ?_)
      refine lv_iconst (v := 0) hx hb dL_law_767 (by decide) ?_
      refine lv_istore (lv' := [(11, .int 0), (13, .int 3), (23, .int (-((L (hh % 24)) + wd))), (0, .ref b), (1, .ref (A 0)), (2, .ref (B 0)), (3, .ref (B 1)), (4, .ref (B 2)), (5, .ref (B 3)), (6, .ref (B 4)), (7, .ref (B 5)), (8, .ref (B 6)), (9, .int wd), (10, .int (nI T)), (12, .int fl), (14, .int (nI hh)), (15, .int mv), (16, .int (nI t)), (18, .int y), (21, .int (nI ct)), (22, .int (nI i))]) hx hb dL_law_768 hl (by decide) rfl (fun ls hl => ?_)
      refine lv_iconst (v := 0) hx hb dL_law_770 (by decide) ?_
      refine lv_istore (lv' := [(24, .int 0), (11, .int 0), (13, .int 3), (23, .int (-((L (hh % 24)) + wd))), (0, .ref b), (1, .ref (A 0)), (2, .ref (B 0)), (3, .ref (B 1)), (4, .ref (B 2)), (5, .ref (B 3)), (6, .ref (B 4)), (7, .ref (B 5)), (8, .ref (B 6)), (9, .int wd), (10, .int (nI T)), (12, .int fl), (14, .int (nI hh)), (15, .int mv), (16, .int (nI t)), (18, .int y), (21, .int (nI ct)), (22, .int (nI i))]) hx hb dL_law_771 hl (by decide) rfl (fun ls hl => ?_)
      refine lv_iconst (v := 0) hx hb dL_law_773 (by decide) ?_
      refine lv_istore (lv' := [(25, .int 0), (24, .int 0), (11, .int 0), (13, .int 3), (23, .int (-((L (hh % 24)) + wd))), (0, .ref b), (1, .ref (A 0)), (2, .ref (B 0)), (3, .ref (B 1)), (4, .ref (B 2)), (5, .ref (B 3)), (6, .ref (B 4)), (7, .ref (B 5)), (8, .ref (B 6)), (9, .int wd), (10, .int (nI T)), (12, .int fl), (14, .int (nI hh)), (15, .int mv), (16, .int (nI t)), (18, .int y), (21, .int (nI ct)), (22, .int (nI i))]) hx hb dL_law_774 hl (by decide) rfl (fun ls hl => ?_)
      have e8 : hd = (-((L (hh % 24)) + wd)) := hhd.trans ((if_neg cq1).trans (Int32.zero_sub _))
      have e9 : mClo ft1 fl cl1 = 3 := (if_neg cq3)
      exact kk H locs ls hP hD hS (by rw [e8, e9]; exact lv_sub hl [5, 6, 7, 8, 9, 10, 11, 12, 13, 14, 15, 2, 16, 3, 17, 18, 19, 20, 21, 22, 4, 1, 0] rfl)
set_option maxHeartbeats 1000000 in
set_option maxRecDepth 100000 in
theorem hours {p : Program} {l : Launch} {e : Env} {s : State} {m : MethodId} {below : List Frame} {meth : Method} {c : Code} {b Ln : Nat} {xs : Nat → Int32} {dG : va_G} {A B : Nat → Nat} {cA : ClassId} (C0 : lw_At p s m meth c b Ln xs) (hK : va_K dG vwCl (tyI cA) s) {L P G V R N Y S : Nat → Int32} {T h t ct : Nat} {wd ft fl ce : Int32} {mo : UInt32} {Vf Nf Yf : Nat → Int32} {ftf cef : Int32} {mof : UInt32} (ht0 : t < 60) (hct : h + ct ≤ 59) (eG : xGoN L P G R S wd fl T h ct (V, N, Y, ft, ce, mo) = (Vf, Nf, Yf, ftf, cef, mof)) (hAf : ∀ j, j < h + ct → rpS Nf j 4 = Yf j) {y : Int32} (k : lwHead p l e s m below meth c b dG A B cA 1051 t (t + 1) [(18, .int y)]) : ∀ (r i : Nat) (V1 N1 Y1 Rp1 : Nat → Int32) (ft1 ce1 cl1 mv1 : Int32) (mo1 : UInt32), i + r = ct → xGoN L P G R S wd fl T h i (V, N, Y, ft, ce, mo) = (V1, N1, Y1, ft1, ce1, mo1) → InvL L P G V1 R N1 Y1 S Rp1 T (h + i) t wd ce1 cl1 mv1 mo1 → lwP p l e s m below meth c b dG 723 ((xW A cA L P G Vf R Nf Yf S wd (nI T) ftf fl cef (nI (h + ct)) mof) ++ (lW B cA L P G V1 Rp1 S Y1)) (lV A B b wd (nI T) ft1 fl cl1 (nI (h + i)) mv1 (nI t) ++ [(18, .int y), (21, .int (nI ct)), (22, .int (nI i))]) := by
  obtain ⟨hx, hb, hr, hml, hown0, hts0, hX, hbl, hlocks, hgv⟩ := id C0
  have hown : s.vm.findClass RL = some m.cls := hown0
  have hts : ∀ w ∈ wsL_law, w.before #[Value.ref b] s = true := fun w h => hts0 w (wsL_law_in w h)
  have hA : ∀ q : Nat, s.heap.size ≤ q → aNew s.heap q := fun _ h => h
  have hbA : ¬ aNew s.heap b := Nat.not_le.mpr hbl
  intro r
  induction r with
  | zero =>
    intro i V1 N1 Y1 Rp1 ft1 ce1 cl1 mv1 mo1 hi e1 I
    have hi : i = ct := by omega
    subst hi
    rw [eG] at e1
    simp only [Prod.mk.injEq] at e1
    obtain ⟨rfl, rfl, rfl, rfl, rfl, rfl⟩ := e1
    intro H locs ls hP hD hS hl
    have hl : lv_has ls 27 ([(0, .ref b), (1, .ref (A 0)), (2, .ref (B 0)), (3, .ref (B 1)), (4, .ref (B 2)), (5, .ref (B 3)), (6, .ref (B 4)), (7, .ref (B 5)), (8, .ref (B 6)), (9, .int wd), (10, .int (nI T)), (11, .int ftf), (12, .int fl), (13, .int cl1), (14, .int (nI (h + i))), (15, .int mv1), (16, .int (nI t)), (18, .int y), (21, .int (nI i)), (22, .int (nI i))]) := hl
    refine lv_iload hx hb dL_law_723 (lv_at hl 19 rfl) ?_
    refine lv_iload hx hb dL_law_725 (lv_at hl 18 rfl) ?_
    refine lv_icmp_ge (tgt := 1051) hx hb dL_law_727 (by decide) (fun _ => ?_) (fun h9 => absurd (nI_le (by omega) (by omega)) h9)
    exact k L P G Vf R Nf Yf S Rp1 T (h + i) wd ftf fl cef cl1 mv1 mof (I.mono ht0) H locs ls hP hD hS (lv_sub hl [0, 1, 2, 3, 4, 5, 6, 7, 8, 9, 10, 11, 12, 13, 14, 15, 16, 17] rfl)
  | succ r ih =>
    intro i V1 N1 Y1 Rp1 ft1 ce1 cl1 mv1 mo1 hi e1 I
    have hT4 := I.T4
    obtain ⟨V2, sm, hd, nt, cn, mo2, fx, f1, f2, f3, f4, f5, f6, f7, f8, f9, ⟨g1, g2, g3, g4⟩, g5, g6⟩ := hour_facts I ft1 fl
    have e2 : xGoN L P G R S wd fl T h (i + 1) (V, N, Y, ft, ce, mo) = (V2, upd N1 (h + i) nt, upd Y1 (h + i) sm, 0, nI cn, mo2) := by
      show xGo L P G R S wd fl T (h + i) (xGoN L P G R S wd fl T h i (V, N, Y, ft, ce, mo)) = _
      rw [e1, fx]
    obtain ⟨k1, k2⟩ := step_keep eG e2 (by omega)
    have hA9 : rpS Nf (h + i) 4 = sm := by rw [hAf (h + i) (by omega), k1]
    have hN9 : fHead (Nf (h + i)) = hd := by rw [k2, f2]
    obtain ⟨i1, i2, i3, i4, i5, i6, i7⟩ := id I
    have hmF := mF_hour (X := 4000 * (t : Int) + 40000 * ((h + i : Nat) : Int)) (sm := sm) (sd := S (h + i)) (q := P ((h + i) % 24)) i5 ⟨i6, i7⟩ (by omega) f7 g5 g6
    rw [← f6] at hmF
    have kd : ∀ mv2 : Int32, mF mv2.toInt mo2 → -(4000 * (t : Int) + 40000 * ((h + i : Nat) : Int) + 40000) ≤ mv2.toInt → mv2.toInt ≤ 4000 * (t : Int) + 40000 * ((h + i : Nat) : Int) + 40000 → lwP p l e s m below meth c b dG 723 ((xW A cA L P G Vf R Nf Yf S wd (nI T) ftf fl cef (nI (h + ct)) mof) ++ (lW B cA L P G V2 (allR Rp1 T) S (upd Y1 (h + i) sm))) (lV A B b wd (nI T) 0 fl (nI (cn - (h + i + 1))) (nI (h + i + 1)) mv2 (nI t) ++ [(18, .int y), (21, .int (nI ct)), (22, .int (nI (i + 1)))]) := by
      intro mv2 m1 m2 m3
      exact ih (i + 1) V2 (upd N1 (h + i) nt) (upd Y1 (h + i) sm) (allR Rp1 T) 0 (nI cn) (nI (cn - (h + i + 1))) mv2 mo2 (by omega) e2 ⟨f9, by omega, i3, i4, m1, by omega, by omega⟩
    have kc := hour_c C0 hK (hh := h + i) (hf := h + ct) (ct := ct) (i := i) (t := t) (T := T) hT4 (by omega) (by omega) k1 hA9 hN9 hmF kd
    have kb := hour_b C0 hK (hh := h + i) (cn := cn) (by omega) kc
    rw [f3, f4] at kb
    have kt := turb_loop C0 hK (hh := h + i) (cn := cn) hT4 g1 g2 g3 g4 (by omega) (by omega) kb T 0 V1 Rp1 0 (by omega) (by funext j; unfold allV; rw [if_neg (by omega)]) (by funext j; unfold allR; rw [if_neg (by omega)]) rfl
    rw [← f5] at kt
    exact hour_a C0 hK (by omega) (by omega) (by omega) f1 kt
set_option maxHeartbeats 1000000 in
set_option maxRecDepth 100000 in
theorem case_pass {p : Program} {l : Launch} {e : Env} {s : State} {m : MethodId} {below : List Frame} {meth : Method} {c : Code} {b Ln : Nat} {xs : Nat → Int32} {dG : va_G} {A B : Nat → Nat} {cA : ClassId} (C0 : lw_At p s m meth c b Ln xs) (hK : va_K dG vwCl (tyI cA) s) {L P G V R N Y S Rp : Nat → Int32} {T h t : Nat} {wd ft fl ce cl mv : Int32} {mo : UInt32} (ht0 : t < 60) (I : InvL L P G V R N Y S Rp T h t wd ce cl mv mo) {y : Int32} (k : lwHead p l e s m below meth c b dG A B cA 1051 t (t + 1) [(18, .int y)]) : lwP p l e s m below meth c b dG 687 ((xW A cA L P G V R N Y S wd (nI T) ft fl ce (nI h) mo) ++ (lW B cA L P G V Rp S Y)) (lV A B b wd (nI T) ft fl cl (nI h) mv (nI t) ++ [(18, .int y)]) := by
  obtain ⟨hx, hb, hr, hml, hown0, hts0, hX, hbl, hlocks, hgv⟩ := id C0
  have hown : s.vm.findClass RL = some m.cls := hown0
  have hts : ∀ w ∈ wsL_law, w.before #[Value.ref b] s = true := fun w h => hts0 w (wsL_law_in w h)
  have hA : ∀ q : Nat, s.heap.size ≤ q → aNew s.heap q := fun _ h => h
  have hbA : ¬ aNew s.heap b := Nat.not_le.mpr hbl
  have hT4 := I.T4
  have hh59 := I.h59
  intro H locs ls hP hD hS hl
  have hl : lv_has ls 27 ([(0, .ref b), (1, .ref (A 0)), (2, .ref (B 0)), (3, .ref (B 1)), (4, .ref (B 2)), (5, .ref (B 3)), (6, .ref (B 4)), (7, .ref (B 5)), (8, .ref (B 6)), (9, .int wd), (10, .int (nI T)), (11, .int ft), (12, .int fl), (13, .int cl), (14, .int (nI h)), (15, .int mv), (16, .int (nI t)), (18, .int y)]) := hl
  refine lv_iload hx hb dL_law_687 (lv_at hl 14 rfl) ?_
  refine lv_bipush (v := 56) hx hb dL_law_689 (by decide) ?_
  refine lv_icmp_ge (tgt := 1051) hx hb dL_law_691 (by decide) (fun cq1 => ?_) (fun cq1 => ?_)
  · exact (k L P G V R N Y S Rp T h wd ft fl ce cl mv mo (I.mono ht0)) H locs ls hP hD hS (lv_sub hl [0, 1, 2, 3, 4, 5, 6, 7, 8, 9, 10, 11, 12, 13, 14, 15, 16, 17] rfl)
  · have hn56 : h < 56 := Nat.not_le.mp (fun w9 => cq1 (nI_le (a := 56) w9 (by omega)))
    refine lv_iconst (v := 1) hx hb dL_law_694 (by decide) ?_
    refine lv_iload hx hb dL_law_695 (lv_at hl 17 rfl) ?_
    refine lv_iconst (v := 4) hx hb dL_law_697 (by decide) ?_
    refine va_calli (va_runS (As := [.int y, .int 4]) (rest := [.int 1]) ⟨hx, hb, hml, hown, hts⟩ (c_L_low l H y 4 4 rfl (by omega) (by omega)) (va_cwS 2 hts gL_law_L_low rfl rfl rfl (by decide +kernel) ⟨Nat.le_of_ble_eq_true rfl, Nat.le_of_ble_eq_true rfl⟩) ⟨fun a9 U g mk q => q, fun U hU hW => ⟨rfl, hU⟩⟩ rfl rfl hl.1 rfl (lv_room (Nat.le_of_ble_eq_true rfl)) dL_law_698 ⟨Nat.le_of_ble_eq_true rfl, Nat.le_of_ble_eq_true rfl⟩) hS (fun q _ h => h.elim) (fun q h => h.elim) (fun r2 u2 t9 H1 locs ht hvm hw hB hz1 hk1 hS => ?_)
    have e9 := hB.symm.trans ht
    subst e9
    subst hw
    have hlo2 := lo_lt y (k := 4) (by omega)
    refine lv_iadd hx hb dL_law_701 ?_
    refine lv_topi (fun v9 e9 => ?_)
    have e9 := e9.trans (nI_add 1 _)
    subst e9
    refine lv_istore (lv' := [(21, .int (nI (1 + lo y 4))), (0, .ref b), (1, .ref (A 0)), (2, .ref (B 0)), (3, .ref (B 1)), (4, .ref (B 2)), (5, .ref (B 3)), (6, .ref (B 4)), (7, .ref (B 5)), (8, .ref (B 6)), (9, .int wd), (10, .int (nI T)), (11, .int ft), (12, .int fl), (13, .int cl), (14, .int (nI h)), (15, .int mv), (16, .int (nI t)), (18, .int y)]) hx hb dL_law_702 hl (by decide) rfl (fun ls hl => ?_)
    refine lv_aload_n hx hb dL_law_704 rfl (lv_at hl 2 rfl) ?_
    refine lv_iload hx hb dL_law_705 (lv_at hl 0 rfl) ?_
    have hPc := hP.sub (ws' := (xW A cA L P G V R N Y S wd (nI T) ft fl ce (nI h) mo)) [0, 1, 2, 3, 4, 5, 6, 7, 8] rfl
    have hDc := hD.sub (ws' := (xW A cA L P G V R N Y S wd (nI T) ft fl ce (nI h) mo)) [0, 1, 2, 3, 4, 5, 6, 7, 8] (by decide) rfl
    have hFc := va_free (wc := (xW A cA L P G V R N Y S wd (nI T) ft fl ce (nI h) mo)) hD hS hA [0, 1, 2, 3, 4, 5, 6, 7, 8] rfl
    obtain ⟨ct, hct⟩ : ∃ z, z = 1 + lo y 4 := ⟨_, rfl⟩
    rw [← hct] at hl ⊢
    obtain ⟨Vf, Nf, Yf, Rf, ftf, cef, clf, mof, eG, If⟩ := Inv_at I.1 ft fl ct (by omega)
    refine va_calli (va_runV (As := [.int (nI ct)]) (rest := []) ⟨hx, hb, hml, hown, hts⟩ (c_X0_pass_ok l dG A A cA H L P G V R N Y S T h wd ft fl ce mo ct (by omega) (by omega) (by omega) I.T4 (Inv_atX I.1 ft fl ct (by omega))) (cwV 1 hts gL_law_X0_pass rfl rfl rfl (by decide +kernel) ⟨Nat.le_of_ble_eq_true rfl, Nat.le_of_ble_eq_true rfl⟩) ⟨fun a9 U g mk q => ⟨q.1, wPre_calling g mk a9 q.2⟩, va_recv hK hPc (ci := 0) (q0 := 0) rfl rfl, fun U hU hW => ⟨rfl, wPre_of hK hPc hDc hU hW⟩⟩ rfl rfl hl.1 rfl (lv_room (Nat.le_of_ble_eq_true rfl)) dL_law_707 ⟨Nat.le_of_ble_eq_true rfl, Nat.le_of_ble_eq_true rfl⟩) hS (fun q _ h => hFc q h) hFc (fun r u t9 H locs ht9 hvm hw hB hz1 hk1 hS => ?_)
    rw [eG] at hw
    obtain ⟨hr1, hu⟩ := hw
    subst hu
    have hr1 := hr1.symm
    subst hr1
    have ht := ht9
    obtain ⟨hP1, hK1, hD1⟩ := hB
    rw [ht] at hP1
    obtain ⟨hP, hD⟩ := va_join (wr := (lW B cA L P G V Rp S Y)) (w1 := (xW A cA L P G Vf R Nf Yf S wd (nI T) ftf fl cef (nI (h + ct)) mof)) hP hD [0, 1, 2, 3, 4, 5, 6, 7, 8] [9, 10, 11, 12, 13, 14, 15] rfl rfl (by decide) (by decide) hk1 hFc hP1 hD1
    have hP : va_P dG vwCl ((xW A cA L P G Vf R Nf Yf S wd (nI T) ftf fl cef (nI (h + ct)) mof) ++ (lW B cA L P G V Rp S Y)) H := hP.sub [7, 8, 9, 10, 11, 12, 13, 14, 15, 0, 1, 2, 3, 4, 5, 6] rfl
    have hD : va_D (aNew s.heap) ((xW A cA L P G Vf R Nf Yf S wd (nI T) ftf fl cef (nI (h + ct)) mof) ++ (lW B cA L P G V Rp S Y)) := hD.sub [7, 8, 9, 10, 11, 12, 13, 14, 15, 0, 1, 2, 3, 4, 5, 6] (by decide) rfl
    refine lv_iload hx hb dL_law_710 (lv_at hl 15 rfl) ?_
    refine lv_iload hx hb dL_law_712 (lv_at hl 0 rfl) ?_
    refine lv_iadd hx hb dL_law_714 ?_
    refine lv_topi (fun v9 e9 => ?_)
    have e9 := e9.trans (nI_add h ct)
    subst e9
    refine lv_icmp_eq (tgt := 720) hx hb dL_law_715 (by decide) (fun _ => ?_) (fun h9 => absurd rfl h9)
    refine lv_iconst (v := 0) hx hb dL_law_720 (by decide) ?_
    refine lv_istore (lv' := [(22, .int 0), (21, .int (nI ct)), (0, .ref b), (1, .ref (A 0)), (2, .ref (B 0)), (3, .ref (B 1)), (4, .ref (B 2)), (5, .ref (B 3)), (6, .ref (B 4)), (7, .ref (B 5)), (8, .ref (B 6)), (9, .int wd), (10, .int (nI T)), (11, .int ft), (12, .int fl), (13, .int cl), (14, .int (nI h)), (15, .int mv), (16, .int (nI t)), (18, .int y)]) hx hb dL_law_721 hl (by decide) rfl (fun ls hl => ?_)
    exact (hours C0 hK ht0 (by omega) eG (fun j hj => by obtain ⟨O9, D9, i9⟩ := If; exact (i9.2.2.2.2.2.2.2.2.2.2.1 j hj).symm) k ct 0 V N Y Rp ft ce cl mv mo (by omega) rfl I) H locs ls hP hD hS (lv_sub hl [2, 3, 4, 5, 6, 7, 8, 9, 10, 11, 12, 13, 14, 15, 16, 17, 18, 19, 1, 0] rfl)
