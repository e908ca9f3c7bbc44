theorem le0_nI {n : Nat} (h : n < 2 ^ 31) (w : nI n ≤ 0) : n = 0 := by
  rcases Nat.eq_zero_or_pos n with q | q
  · exact q
  · exact absurd w (nI_nle q h)
theorem pos_nI {n : Nat} (w : ¬ nI n ≤ 0) : 0 < n := by
  rcases Nat.eq_zero_or_pos n with q | q
  · rw [q] at w
    exact absurd (by decide) w
  · exact q
set_option maxHeartbeats 1000000 in
set_option maxRecDepth 100000 in
theorem te_fin {p : Program} {l : Launch} {e : Env} {s : State} {m : MethodId} {below : List Frame} {meth : Method} {c : Code} {b Ln : Nat} {xs : Nat → Int32} {dG : va_G} {A B : Nat → Nat} {cA : ClassId} (C0 : lw_At p s m meth c b Ln xs) (hK : va_K dG vwCl (tyI cA) s) {L P G V R N Y S Rp : Nat → Int32} {T h t : Nat} {wd ft fl ce cl mv : Int32} {mo : UInt32} (ht0 : t < 60) (I : InvL L P G V R N Y S Rp T h (t + 1) wd ce cl mv mo) (k : lwHead p l e s m below meth c b dG A B cA 92 (t + 1) (t + 1) []) (y : Int32) : lwP p l e s m below meth c b dG 1114 ((xW A cA L P G V R N Y S wd (nI T) ft fl ce (nI h) mo) ++ (lW B cA L P G V Rp S Y)) (lV A B b wd (nI T) ft fl cl (nI h) mv (nI t) ++ [(18, .int y)]) := by
  obtain ⟨hx, hb, hr, hml, hown0, hts0, hX, hbl, hlocks, hgv⟩ := id C0
  have hown : s.vm.findClass RL = some m.cls := hown0
  have hts : ∀ w ∈ wsL_law, w.before #[Value.ref b] s = true := fun w h => hts0 w (wsL_law_in w h)
  have hA : ∀ q : Nat, s.heap.size ≤ q → aNew s.heap q := fun _ h => h
  have hbA : ¬ aNew s.heap b := Nat.not_le.mpr hbl
  have hT4 := I.T4
  have hh59 := I.h59
  intro H locs ls hP hD hS hl
  have hl : lv_has ls 27 ([(0, .ref b), (1, .ref (A 0)), (2, .ref (B 0)), (3, .ref (B 1)), (4, .ref (B 2)), (5, .ref (B 3)), (6, .ref (B 4)), (7, .ref (B 5)), (8, .ref (B 6)), (9, .int wd), (10, .int (nI T)), (11, .int ft), (12, .int fl), (13, .int cl), (14, .int (nI h)), (15, .int mv), (16, .int (nI t)), (18, .int y)]) := hl
  refine lv_aload_n hx hb dL_law_1114 rfl (lv_at hl 1 rfl) ?_
  have hPc := hP.sub (ws' := (xW A cA L P G V R N Y S wd (nI T) ft fl ce (nI h) mo)) [0, 1, 2, 3, 4, 5, 6, 7, 8] rfl
  have hDc := hD.sub (ws' := (xW A cA L P G V R N Y S wd (nI T) ft fl ce (nI h) mo)) [0, 1, 2, 3, 4, 5, 6, 7, 8] (by decide) rfl
  have hFc := va_free (wc := (xW A cA L P G V R N Y S wd (nI T) ft fl ce (nI h) mo)) hD hS hA [0, 1, 2, 3, 4, 5, 6, 7, 8] rfl
  refine va_calli (va_runV (As := []) (rest := []) ⟨hx, hb, hml, hown, hts⟩ (c_X0_now l dG A A cA H L P G V R N Y S wd (nI T) ft fl ce (nI h) mo  ) (cwV 0 hts gL_law_X0_now rfl rfl rfl (by decide +kernel) ⟨Nat.le_of_ble_eq_true rfl, Nat.le_of_ble_eq_true rfl⟩) ⟨fun a9 U g mk q => ⟨q.1, wPre_calling g mk a9 q.2⟩, va_recv hK hPc (ci := 0) (q0 := 0) rfl rfl, fun U hU hW => ⟨rfl, wPre_of hK hPc hDc hU hW⟩⟩ rfl rfl hl.1 rfl (lv_room (Nat.le_of_ble_eq_true rfl)) dL_law_1115 ⟨Nat.le_of_ble_eq_true rfl, Nat.le_of_ble_eq_true rfl⟩) hS (fun q _ h => h.elim) hFc (fun r1 u1 t9 H1 locs ht hvm hw hB hz1 hk1 hS => ?_)
  have e9 := hB.symm.trans ht
  subst e9
  have hw := hw.symm
  subst hw
  refine lv_iload hx hb dL_law_1118 (lv_at hl 14 rfl) ?_
  refine lv_icmp_ne (tgt := 1198) hx hb dL_law_1120 (by decide) (fun h9 => absurd rfl h9) (fun _ => ?_)
  refine lv_aload_n hx hb dL_law_1123 rfl (lv_at hl 1 rfl) ?_
  have hPc := hP.sub (ws' := (xW A cA L P G V R N Y S wd (nI T) ft fl ce (nI h) mo)) [0, 1, 2, 3, 4, 5, 6, 7, 8] rfl
  have hDc := hD.sub (ws' := (xW A cA L P G V R N Y S wd (nI T) ft fl ce (nI h) mo)) [0, 1, 2, 3, 4, 5, 6, 7, 8] (by decide) rfl
  have hFc := va_free (wc := (xW A cA L P G V R N Y S wd (nI T) ft fl ce (nI h) mo)) hD hS hA [0, 1, 2, 3, 4, 5, 6, 7, 8] rfl
  refine va_calli (va_runV (As := []) (rest := []) ⟨hx, hb, hml, hown, hts⟩ (c_X0_closed l dG A A cA H L P G V R N Y S wd (nI T) ft fl ce (nI h) mo  ) (cwV 0 hts gL_law_X0_closed rfl rfl rfl (by decide +kernel) ⟨Nat.le_of_ble_eq_true rfl, Nat.le_of_ble_eq_true rfl⟩) ⟨fun a9 U g mk q => ⟨q.1, wPre_calling g mk a9 q.2⟩, va_recv hK hPc (ci := 0) (q0 := 0) rfl rfl, fun U hU hW => ⟨rfl, wPre_of hK hPc hDc hU hW⟩⟩ rfl rfl hl.1 rfl (lv_room (Nat.le_of_ble_eq_true rfl)) dL_law_1124 ⟨Nat.le_of_ble_eq_true rfl, Nat.le_of_ble_eq_true rfl⟩) hS (fun q _ h => h.elim) hFc (fun r2 u2 t9 H1 locs ht hvm hw hB hz1 hk1 hS => ?_)
  have e9 := hB.symm.trans ht
  subst e9
  have hw := hw.symm
  subst hw
  refine lv_iload hx hb dL_law_1127 (lv_at hl 13 rfl) ?_
  refine lv_icmp_ne (tgt := 1198) hx hb dL_law_1129 (by decide) (fun h9 => absurd I.clo h9) (fun _ => ?_)
  refine lv_aload_n hx hb dL_law_1132 rfl (lv_at hl 1 rfl) ?_
  have hPc := hP.sub (ws' := (xW A cA L P G V R N Y S wd (nI T) ft fl ce (nI h) mo)) [0, 1, 2, 3, 4, 5, 6, 7, 8] rfl
  have hDc := hD.sub (ws' := (xW A cA L P G V R N Y S wd (nI T) ft fl ce (nI h) mo)) [0, 1, 2, 3, 4, 5, 6, 7, 8] (by decide) rfl
  have hFc := va_free (wc := (xW A cA L P G V R N Y S wd (nI T) ft fl ce (nI h) mo)) hD hS hA [0, 1, 2, 3, 4, 5, 6, 7, 8] rfl
  refine va_calli (va_runV (As := []) (rest := []) ⟨hx, hb, hml, hown, hts⟩ (c_X0_money l dG A A cA H L P G V R N Y S wd (nI T) ft fl ce (nI h) mo  I.good) (cwV 0 hts gL_law_X0_money rfl rfl rfl (by decide +kernel) ⟨Nat.le_of_ble_eq_true rfl, Nat.le_of_ble_eq_true rfl⟩) ⟨fun a9 U g mk q => ⟨q.1, wPre_calling g mk a9 q.2⟩, va_recv hK hPc (ci := 0) (q0 := 0) rfl rfl, fun U hU hW => ⟨rfl, wPre_of hK hPc hDc hU hW⟩⟩ rfl rfl hl.1 rfl (lv_room (Nat.le_of_ble_eq_true rfl)) dL_law_1133 ⟨Nat.le_of_ble_eq_true rfl, Nat.le_of_ble_eq_true rfl⟩) hS (fun q _ h => h.elim) hFc (fun r3 u3 t9 H1 locs ht hvm hw hB hz1 hk1 hS => ?_)
  have e9 := hB.symm.trans ht
  subst e9
  have hw := hw.symm
  subst hw
  refine lv_iload hx hb dL_law_1136 (lv_at hl 15 rfl) ?_
  refine va_calli (va_runS (As := [.int mv]) (rest := [.int (mo.toInt32)]) ⟨hx, hb, hml, hown, hts⟩ (c_L_bits l H mv mo I.2.2.2.2.1 I.mvb.1 I.mvb.2) (va_cwS 1 hts gL_law_L_bits rfl rfl rfl (by decide +kernel) ⟨Nat.le_of_ble_eq_true rfl, Nat.le_of_ble_eq_true rfl⟩) ⟨fun a9 U g mk q => q, fun U hU hW => ⟨rfl, hU⟩⟩ rfl rfl hl.1 rfl (lv_room (Nat.le_of_ble_eq_true rfl)) dL_law_1138 ⟨Nat.le_of_ble_eq_true rfl, Nat.le_of_ble_eq_true rfl⟩) hS (fun q _ h => h.elim) (fun q h => h.elim) (fun r4 u4 t9 H1 locs ht hvm hw hB hz1 hk1 hS => ?_)
  have e9 := hB.symm.trans ht
  subst e9
  subst hw
  refine lv_icmp_ne (tgt := 1198) hx hb dL_law_1141 (by decide) (fun h9 => absurd rfl h9) (fun _ => ?_)
  refine lv_iload hx hb dL_law_1144 (lv_at hl 14 rfl) ?_
  refine lv_if_le (tgt := 1173) hx hb dL_law_1146 (by decide) (fun cq5 => ?_) (fun cq5 => ?_)
  · have hh0 : h = 0 := le0_nI (by omega) cq5
    refine lv_aload_n hx hb dL_law_1173 rfl (lv_at hl 1 rfl) ?_
    refine lv_iload hx hb dL_law_1174 (lv_at hl 14 rfl) ?_
    have hPc := hP.sub (ws' := (xW A cA L P G V R N Y S wd (nI T) ft fl ce (nI h) mo)) [0, 1, 2, 3, 4, 5, 6, 7, 8] rfl
    have hDc := hD.sub (ws' := (xW A cA L P G V R N Y S wd (nI T) ft fl ce (nI h) mo)) [0, 1, 2, 3, 4, 5, 6, 7, 8] (by decide) rfl
    have hFc := va_free (wc := (xW A cA L P G V R N Y S wd (nI T) ft fl ce (nI h) mo)) hD hS hA [0, 1, 2, 3, 4, 5, 6, 7, 8] rfl
    refine va_calli (va_runV (As := [.int (nI h)]) (rest := []) ⟨hx, hb, hml, hown, hts⟩ (c_X0_sold l dG A A cA H L P G V R N Y S wd (nI T) ft fl ce (nI h) mo (nI h) (nIb (by omega) (b := 500) (by omega)) (oI_047 (by omega) (by omega))) (cwV 1 hts gL_law_X0_sold rfl rfl rfl (by decide +kernel) ⟨Nat.le_of_ble_eq_true rfl, Nat.le_of_ble_eq_true rfl⟩) ⟨fun a9 U g mk q => ⟨q.1, wPre_calling g mk a9 q.2⟩, va_recv hK hPc (ci := 0) (q0 := 0) rfl rfl, fun U hU hW => ⟨rfl, wPre_of hK hPc hDc hU hW⟩⟩ rfl rfl hl.1 rfl (lv_room (Nat.le_of_ble_eq_true rfl)) dL_law_1176 ⟨Nat.le_of_ble_eq_true rfl, Nat.le_of_ble_eq_true rfl⟩) hS (fun q _ h => h.elim) hFc (fun r6 u6 t9 H1 locs ht hvm hw hB hz1 hk1 hS => ?_)
    have e9 := hB.symm.trans ht
    subst e9
    rw [nI_clamp (n := h) (by omega)] at hw
    have hw := hw.symm
    subst hw
    refine lv_iload hx hb dL_law_1179 (lv_at hl 14 rfl) ?_
    refine lv_bipush (v := 60) hx hb dL_law_1181 (by decide) ?_
    refine lv_icmp_ge (tgt := 1194) hx hb dL_law_1183 (by decide) (fun h9 => absurd h9 (nI_ge (a := h) (b := 60) (by omega) (by omega))) (fun _ => ?_)
    refine lv_aload hx hb dL_law_1186 (lv_at hl 7 rfl) ?_
    refine lv_iload hx hb dL_law_1188 (lv_at hl 14 rfl) ?_
    refine va_iald hx hb hK hP 14 0 rfl rfl (vp_in_nI (by omega) (by omega)) dL_law_1190 ?_
    refine lv_topi (fun v9 e9 => ?_)
    rw [nI_clamp (n := h) (by omega)] at e9
    subst e9
    refine lv_goto (tgt := 1195) hx hb dL_law_1191 (by decide) ?_
    refine lv_icmp_eq (tgt := 1200) hx hb dL_law_1195 (by decide) (fun _ => ?_) (fun h9 => absurd rfl h9)
    refine lv_iinc (v := (nI (t + 1))) (lv' := [(16, .int (nI (t + 1))), (0, .ref b), (1, .ref (A 0)), (2, .ref (B 0)), (3, .ref (B 1)), (4, .ref (B 2)), (5, .ref (B 3)), (6, .ref (B 4)), (7, .ref (B 5)), (8, .ref (B 6)), (9, .int wd), (10, .int (nI T)), (11, .int ft), (12, .int fl), (13, .int cl), (14, .int (nI h)), (15, .int mv), (18, .int y)]) hx hb dL_law_1200 hl (k := 16) rfl (nI_1 t) (by decide) rfl (fun ls hl => ?_)
    refine lv_goto (tgt := 92) hx hb dL_law_1203 (by decide) ?_
    exact (k L P G V R N Y S Rp T h wd ft fl ce cl mv mo I) H locs ls hP hD hS (lv_sub hl [1, 2, 3, 4, 5, 6, 7, 8, 9, 10, 11, 12, 13, 14, 15, 16, 0] rfl)
  · have hh0 : 0 < h := pos_nI cq5
    refine lv_aload_n hx hb dL_law_1149 rfl (lv_at hl 1 rfl) ?_
    refine lv_iload hx hb dL_law_1150 (lv_at hl 17 rfl) ?_
    refine lv_iload hx hb dL_law_1152 (lv_at hl 14 rfl) ?_
    refine va_calli (va_runS (As := [.int y, .int (nI h)]) (rest := [.ref (A 0)]) ⟨hx, hb, hml, hown, hts⟩ (c_L_low l H y (nI h) h rfl (by omega) (by omega)) (va_cwS 2 hts gL_law_L_low rfl rfl rfl (by decide +kernel) ⟨Nat.le_of_ble_eq_true rfl, Nat.le_of_ble_eq_true rfl⟩) ⟨fun a9 U g mk q => q, fun U hU hW => ⟨rfl, hU⟩⟩ rfl rfl hl.1 rfl (lv_room (Nat.le_of_ble_eq_true rfl)) dL_law_1154 ⟨Nat.le_of_ble_eq_true rfl, Nat.le_of_ble_eq_true rfl⟩) hS (fun q _ h => h.elim) (fun q h => h.elim) (fun r7 u7 t9 H1 locs ht hvm hw hB hz1 hk1 hS => ?_)
    have e9 := hB.symm.trans ht
    subst e9
    subst hw
    have hlo7 := lo_lt y (k := h) (by omega)
    have hPc := hP.sub (ws' := (xW A cA L P G V R N Y S wd (nI T) ft fl ce (nI h) mo)) [0, 1, 2, 3, 4, 5, 6, 7, 8] rfl
    have hDc := hD.sub (ws' := (xW A cA L P G V R N Y S wd (nI T) ft fl ce (nI h) mo)) [0, 1, 2, 3, 4, 5, 6, 7, 8] (by decide) rfl
    have hFc := va_free (wc := (xW A cA L P G V R N Y S wd (nI T) ft fl ce (nI h) mo)) hD hS hA [0, 1, 2, 3, 4, 5, 6, 7, 8] rfl
    refine va_calli (va_runV (As := [.int (nI (lo y h))]) (rest := []) ⟨hx, hb, hml, hown, hts⟩ (c_X0_made l dG A A cA H L P G V R N Y S wd (nI T) ft fl ce (nI h) mo (nI (lo y h)) (nIb (by omega) (b := 500) (by omega)) (oI_gone (j := lo y h) (by omega) (by omega))) (cwV 1 hts gL_law_X0_made rfl rfl rfl (by decide +kernel) ⟨Nat.le_of_ble_eq_true rfl, Nat.le_of_ble_eq_true rfl⟩) ⟨fun a9 U g mk q => ⟨q.1, wPre_calling g mk a9 q.2⟩, va_recv hK hPc (ci := 0) (q0 := 0) rfl rfl, fun U hU hW => ⟨rfl, wPre_of hK hPc hDc hU hW⟩⟩ rfl rfl hl.1 rfl (lv_room (Nat.le_of_ble_eq_true rfl)) dL_law_1157 ⟨Nat.le_of_ble_eq_true rfl, Nat.le_of_ble_eq_true rfl⟩) hS (fun q _ h => h.elim) hFc (fun r8 u8 t9 H1 locs ht hvm hw hB hz1 hk1 hS => ?_)
    have e9 := hB.symm.trans ht
    subst e9
    rw [nI_clamp (n := lo y h) (by omega)] at hw
    have hw := hw.symm
    subst hw
    refine lv_aload hx hb dL_law_1160 (lv_at hl 8 rfl) ?_
    refine lv_iload hx hb dL_law_1162 (lv_at hl 17 rfl) ?_
    refine lv_iload hx hb dL_law_1164 (lv_at hl 14 rfl) ?_
    refine va_calli (va_runS (As := [.int y, .int (nI h)]) (rest := [.ref (B 6), .int (Y (lo y h))]) ⟨hx, hb, hml, hown, hts⟩ (c_L_low l H y (nI h) h rfl (by omega) (by omega)) (va_cwS 2 hts gL_law_L_low rfl rfl rfl (by decide +kernel) ⟨Nat.le_of_ble_eq_true rfl, Nat.le_of_ble_eq_true rfl⟩) ⟨fun a9 U g mk q => q, fun U hU hW => ⟨rfl, hU⟩⟩ rfl rfl hl.1 rfl (lv_room (Nat.le_of_ble_eq_true rfl)) dL_law_1166 ⟨Nat.le_of_ble_eq_true rfl, Nat.le_of_ble_eq_true rfl⟩) hS (fun q _ h => h.elim) (fun q h => h.elim) (fun r9 u9 t9 H1 locs ht hvm hw hB hz1 hk1 hS => ?_)
    have e9 := hB.symm.trans ht
    subst e9
    subst hw
    have hlo9 := lo_lt y (k := h) (by omega)
    refine va_iald hx hb hK hP 15 0 rfl rfl (vp_in_nI (by omega) (by omega)) dL_law_1169 ?_
    refine lv_topi (fun v9 e9 => ?_)
    rw [nI_clamp (n := lo y h) (by omega)] at e9
    subst e9
    refine lv_icmp_ne (tgt := 1198) hx hb dL_law_1170 (by decide) (fun h9 => absurd rfl h9) (fun _ => ?_)
    refine lv_aload_n hx hb dL_law_1173 rfl (lv_at hl 1 rfl) ?_
    refine lv_iload hx hb dL_law_1174 (lv_at hl 14 rfl) ?_
    have hPc := hP.sub (ws' := (xW A cA L P G V R N Y S wd (nI T) ft fl ce (nI h) mo)) [0, 1, 2, 3, 4, 5, 6, 7, 8] rfl
    have hDc := hD.sub (ws' := (xW A cA L P G V R N Y S wd (nI T) ft fl ce (nI h) mo)) [0, 1, 2, 3, 4, 5, 6, 7, 8] (by decide) rfl
    have hFc := va_free (wc := (xW A cA L P G V R N Y S wd (nI T) ft fl ce (nI h) mo)) hD hS hA [0, 1, 2, 3, 4, 5, 6, 7, 8] rfl
    refine va_calli (va_runV (As := [.int (nI h)]) (rest := []) ⟨hx, hb, hml, hown, hts⟩ (c_X0_sold l dG A A cA H L P G V R N Y S wd (nI T) ft fl ce (nI h) mo (nI h) (nIb (by omega) (b := 500) (by omega)) (oI_047 (by omega) (by omega))) (cwV 1 hts gL_law_X0_sold rfl rfl rfl (by decide +kernel) ⟨Nat.le_of_ble_eq_true rfl, Nat.le_of_ble_eq_true rfl⟩) ⟨fun a9 U g mk q => ⟨q.1, wPre_calling g mk a9 q.2⟩, va_recv hK hPc (ci := 0) (q0 := 0) rfl rfl, fun U hU hW => ⟨rfl, wPre_of hK hPc hDc hU hW⟩⟩ rfl rfl hl.1 rfl (lv_room (Nat.le_of_ble_eq_true rfl)) dL_law_1176 ⟨Nat.le_of_ble_eq_true rfl, Nat.le_of_ble_eq_true rfl⟩) hS (fun q _ h => h.elim) hFc (fun r10 u10 t9 H1 locs ht hvm hw hB hz1 hk1 hS => ?_)
    have e9 := hB.symm.trans ht
    subst e9
    rw [nI_clamp (n := h) (by omega)] at hw
    have hw := hw.symm
    subst hw
    refine lv_iload hx hb dL_law_1179 (lv_at hl 14 rfl) ?_
    refine lv_bipush (v := 60) hx hb dL_law_1181 (by decide) ?_
    refine lv_icmp_ge (tgt := 1194) hx hb dL_law_1183 (by decide) (fun h9 => absurd h9 (nI_ge (a := h) (b := 60) (by omega) (by omega))) (fun _ => ?_)
    refine lv_aload hx hb dL_law_1186 (lv_at hl 7 rfl) ?_
    refine lv_iload hx hb dL_law_1188 (lv_at hl 14 rfl) ?_
    refine va_iald hx hb hK hP 14 0 rfl rfl (vp_in_nI (by omega) (by omega)) dL_law_1190 ?_
    refine lv_topi (fun v9 e9 => ?_)
    rw [nI_clamp (n := h) (by omega)] at e9
    subst e9
    refine lv_goto (tgt := 1195) hx hb dL_law_1191 (by decide) ?_
    refine lv_icmp_eq (tgt := 1200) hx hb dL_law_1195 (by decide) (fun _ => ?_) (fun h9 => absurd rfl h9)
    refine lv_iinc (v := (nI (t + 1))) (lv' := [(16, .int (nI (t + 1))), (0, .ref b), (1, .ref (A 0)), (2, .ref (B 0)), (3, .ref (B 1)), (4, .ref (B 2)), (5, .ref (B 3)), (6, .ref (B 4)), (7, .ref (B 5)), (8, .ref (B 6)), (9, .int wd), (10, .int (nI T)), (11, .int ft), (12, .int fl), (13, .int cl), (14, .int (nI h)), (15, .int mv), (18, .int y)]) hx hb dL_law_1200 hl (k := 16) rfl (nI_1 t) (by decide) rfl (fun ls hl => ?_)
    refine lv_goto (tgt := 92) hx hb dL_law_1203 (by decide) ?_
    exact (k L P G V R N Y S Rp T h wd ft fl ce cl mv mo I) H locs ls hP hD hS (lv_sub hl [1, 2, 3, 4, 5, 6, 7, 8, 9, 10, 11, 12, 13, 14, 15, 16, 0] rfl)
set_option maxHeartbeats 1000000 in
set_option maxRecDepth 100000 in
theorem te_loop {p : Program} {l : Launch} {e : Env} {s : State} {m : MethodId} {below : List Frame} {meth : Method} {c : Code} {b Ln : Nat} {xs : Nat → Int32} {dG : va_G} {A B : Nat → Nat} {cA : ClassId} (C0 : lw_At p s m meth c b Ln xs) (hK : va_K dG vwCl (tyI cA) s) {L P G V R N Y S Rp : Nat → Int32} {T h t : Nat} {wd ft fl ce cl mv : Int32} {mo : UInt32} (ht0 : t < 60) (I : InvL L P G V R N Y S Rp T h (t + 1) wd ce cl mv mo) (y : Int32) (k1 : lwP p l e s m below meth c b dG 1114 ((xW A cA L P G V R N Y S wd (nI T) ft fl ce (nI h) mo) ++ (lW B cA L P G V Rp S Y)) (lV A B b wd (nI T) ft fl cl (nI h) mv (nI t) ++ [(18, .int y)])) : ∀ r i : Nat, i + r = T → lwP p l e s m below meth c b dG 1054 ((xW A cA L P G V R N Y S wd (nI T) ft fl ce (nI h) mo) ++ (lW B cA L P G V Rp S Y)) (lV A B b wd (nI T) ft fl cl (nI h) mv (nI t) ++ [(18, .int y), (21, .int (nI i))]) := by
  obtain ⟨hx, hb, hr, hml, hown0, hts0, hX, hbl, hlocks, hgv⟩ := id C0
  have hown : s.vm.findClass RL = some m.cls := hown0
  have hts : ∀ w ∈ wsL_law, w.before #[Value.ref b] s = true := fun w h => hts0 w (wsL_law_in w h)
  have hA : ∀ q : Nat, s.heap.size ≤ q → aNew s.heap q := fun _ h => h
  have hbA : ¬ aNew s.heap b := Nat.not_le.mpr hbl
  have hT4 := I.T4
  have hh59 := I.h59
  intro r
  induction r with
  | zero =>
    intro i hi
    have hi : i = T := by omega
    subst hi
    intro H locs ls hP hD hS hl
    have hl : lv_has ls 27 ([(0, .ref b), (1, .ref (A 0)), (2, .ref (B 0)), (3, .ref (B 1)), (4, .ref (B 2)), (5, .ref (B 3)), (6, .ref (B 4)), (7, .ref (B 5)), (8, .ref (B 6)), (9, .int wd), (10, .int (nI i)), (11, .int ft), (12, .int fl), (13, .int cl), (14, .int (nI h)), (15, .int mv), (16, .int (nI t)), (18, .int y), (21, .int (nI i))]) := hl
    refine lv_iload hx hb dL_law_1054 (lv_at hl 18 rfl) ?_
    refine lv_iload hx hb dL_law_1056 (lv_at hl 10 rfl) ?_
    refine lv_icmp_ge (tgt := 1114) hx hb dL_law_1058 (by decide) (fun _ => ?_) (fun h9 => absurd (nI_le (by omega) (by omega)) h9)
    exact k1 H locs ls hP hD hS (lv_sub hl [0, 1, 2, 3, 4, 5, 6, 7, 8, 9, 10, 11, 12, 13, 14, 15, 16, 17] rfl)
  | succ r ih =>
    intro i hi
    intro H locs ls hP hD hS hl
    have hl : lv_has ls 27 ([(0, .ref b), (1, .ref (A 0)), (2, .ref (B 0)), (3, .ref (B 1)), (4, .ref (B 2)), (5, .ref (B 3)), (6, .ref (B 4)), (7, .ref (B 5)), (8, .ref (B 6)), (9, .int wd), (10, .int (nI T)), (11, .int ft), (12, .int fl), (13, .int cl), (14, .int (nI h)), (15, .int mv), (16, .int (nI t)), (18, .int y), (21, .int (nI i))]) := hl
    refine lv_iload hx hb dL_law_1054 (lv_at hl 18 rfl) ?_
    refine lv_iload hx hb dL_law_1056 (lv_at hl 10 rfl) ?_
    refine lv_icmp_ge (tgt := 1114) hx hb dL_law_1058 (by decide) (fun h9 => absurd h9 (nI_ge (by omega) (by omega))) (fun _ => ?_)
    refine lv_aload_n hx hb dL_law_1061 rfl (lv_at hl 1 rfl) ?_
    refine lv_iload hx hb dL_law_1062 (lv_at hl 18 rfl) ?_
    refine lv_iconst (v := 0) hx hb dL_law_1064 (by decide) ?_
    have hPc := hP.sub (ws' := (xW A cA L P G V R N Y S wd (nI T) ft fl ce (nI h) mo)) [0, 1, 2, 3, 4, 5, 6, 7, 8] rfl
    have hDc := hD.sub (ws' := (xW A cA L P G V R N Y S wd (nI T) ft fl ce (nI h) mo)) [0, 1, 2, 3, 4, 5, 6, 7, 8] (by decide) rfl
    have hFc := va_free (wc := (xW A cA L P G V R N Y S wd (nI T) ft fl ce (nI h) mo)) hD hS hA [0, 1, 2, 3, 4, 5, 6, 7, 8] rfl
    refine va_calli (va_runV (As := [.int (nI i), .int 0]) (rest := []) ⟨hx, hb, hml, hown, hts⟩ (c_X0_about l dG A A cA H L P G V R N Y S wd (nI T) ft fl ce (nI h) mo (nI i) 0 (nIb (by omega) (b := 4) (by omega)) (oI_gone (j := i) (by omega) (by omega)) (oI_nI (lo := 0) (hi := 2) (c := 0) (by omega) (by omega) (by omega))) (cwV 2 hts gL_law_X0_about rfl rfl rfl (by decide +kernel) ⟨Nat.le_of_ble_eq_true rfl, Nat.le_of_ble_eq_true rfl⟩) ⟨fun a9 U g mk q => ⟨q.1, wPre_calling g mk a9 q.2⟩, va_recv hK hPc (ci := 0) (q0 := 0) rfl rfl, fun U hU hW => ⟨rfl, wPre_of hK hPc hDc hU hW⟩⟩ rfl rfl hl.1 rfl (lv_room (Nat.le_of_ble_eq_true rfl)) dL_law_1065 ⟨Nat.le_of_ble_eq_true rfl, Nat.le_of_ble_eq_true rfl⟩) hS (fun q _ h => h.elim) hFc (fun r1 u1 t9 H1 locs ht hvm hw hB hz1 hk1 hS => ?_)
    have e9 := hB.symm.trans ht
    subst e9
    rw [nI_clamp (n := i) (by omega)] at hw
    have hw := hw.symm
    subst hw
    refine lv_aload hx hb dL_law_1068 (lv_at hl 4 rfl) ?_
    refine lv_iload hx hb dL_law_1070 (lv_at hl 18 rfl) ?_
    refine va_iald hx hb hK hP 11 0 rfl rfl (vp_in_nI (by omega) (by omega)) dL_law_1072 ?_
    refine lv_topi (fun v9 e9 => ?_)
    rw [nI_clamp (n := i) (by omega)] at e9
    subst e9
    refine lv_icmp_ne (tgt := 1106) hx hb dL_law_1073 (by decide) (fun h9 => absurd (by rw [if_pos rfl]) h9) (fun _ => ?_)
    refine lv_aload_n hx hb dL_law_1076 rfl (lv_at hl 1 rfl) ?_
    refine lv_iload hx hb dL_law_1077 (lv_at hl 18 rfl) ?_
    refine lv_iconst (v := 1) hx hb dL_law_1079 (by decide) ?_
    have hPc := hP.sub (ws' := (xW A cA L P G V R N Y S wd (nI T) ft fl ce (nI h) mo)) [0, 1, 2, 3, 4, 5, 6, 7, 8] rfl
    have hDc := hD.sub (ws' := (xW A cA L P G V R N Y S wd (nI T) ft fl ce (nI h) mo)) [0, 1, 2, 3, 4, 5, 6, 7, 8] (by decide) rfl
    have hFc := va_free (wc := (xW A cA L P G V R N Y S wd (nI T) ft fl ce (nI h) mo)) hD hS hA [0, 1, 2, 3, 4, 5, 6, 7, 8] rfl
    refine va_calli (va_runV (As := [.int (nI i), .int 1]) (rest := []) ⟨hx, hb, hml, hown, hts⟩ (c_X0_about l dG A A cA H L P G V R N Y S wd (nI T) ft fl ce (nI h) mo (nI i) 1 (nIb (by omega) (b := 4) (by omega)) (oI_gone (j := i) (by omega) (by omega)) (oI_nI (lo := 0) (hi := 2) (c := 1) (by omega) (by omega) (by omega))) (cwV 2 hts gL_law_X0_about rfl rfl rfl (by decide +kernel) ⟨Nat.le_of_ble_eq_true rfl, Nat.le_of_ble_eq_true rfl⟩) ⟨fun a9 U g mk q => ⟨q.1, wPre_calling g mk a9 q.2⟩, va_recv hK hPc (ci := 0) (q0 := 0) rfl rfl, fun U hU hW => ⟨rfl, wPre_of hK hPc hDc hU hW⟩⟩ rfl rfl hl.1 rfl (lv_room (Nat.le_of_ble_eq_true rfl)) dL_law_1080 ⟨Nat.le_of_ble_eq_true rfl, Nat.le_of_ble_eq_true rfl⟩) hS (fun q _ h => h.elim) hFc (fun r2 u2 t9 H1 locs ht hvm hw hB hz1 hk1 hS => ?_)
    have e9 := hB.symm.trans ht
    subst e9
    rw [nI_clamp (n := i) (by omega)] at hw
    have hw := hw.symm
    subst hw
    refine lv_aload hx hb dL_law_1083 (lv_at hl 5 rfl) ?_
    refine lv_iload hx hb dL_law_1085 (lv_at hl 18 rfl) ?_
    refine va_iald hx hb hK hP 12 0 rfl rfl (vp_in_nI (by omega) (by omega)) dL_law_1087 ?_
    refine lv_topi (fun v9 e9 => ?_)
    rw [nI_clamp (n := i) (by omega)] at e9
    subst e9
    refine lv_icmp_ne (tgt := 1106) hx hb dL_law_1088 (by decide) (fun h9 => absurd (by rw [if_neg (by decide), if_pos rfl]) h9) (fun _ => ?_)
    refine lv_aload_n hx hb dL_law_1091 rfl (lv_at hl 1 rfl) ?_
    refine lv_iload hx hb dL_law_1092 (lv_at hl 18 rfl) ?_
    refine lv_iconst (v := 2) hx hb dL_law_1094 (by decide) ?_
    have hPc := hP.sub (ws' := (xW A cA L P G V R N Y S wd (nI T) ft fl ce (nI h) mo)) [0, 1, 2, 3, 4, 5, 6, 7, 8] rfl
    have hDc := hD.sub (ws' := (xW A cA L P G V R N Y S wd (nI T) ft fl ce (nI h) mo)) [0, 1, 2, 3, 4, 5, 6, 7, 8] (by decide) rfl
    have hFc := va_free (wc := (xW A cA L P G V R N Y S wd (nI T) ft fl ce (nI h) mo)) hD hS hA [0, 1, 2, 3, 4, 5, 6, 7, 8] rfl
    refine va_calli (va_runV (As := [.int (nI i), .int 2]) (rest := []) ⟨hx, hb, hml, hown, hts⟩ (c_X0_about l dG A A cA H L P G V R N Y S wd (nI T) ft fl ce (nI h) mo (nI i) 2 (nIb (by omega) (b := 4) (by omega)) (oI_gone (j := i) (by omega) (by omega)) (oI_nI (lo := 0) (hi := 2) (c := 2) (by omega) (by omega) (by omega))) (cwV 2 hts gL_law_X0_about rfl rfl rfl (by decide +kernel) ⟨Nat.le_of_ble_eq_true rfl, Nat.le_of_ble_eq_true rfl⟩) ⟨fun a9 U g mk q => ⟨q.1, wPre_calling g mk a9 q.2⟩, va_recv hK hPc (ci := 0) (q0 := 0) rfl rfl, fun U hU hW => ⟨rfl, wPre_of hK hPc hDc hU hW⟩⟩ rfl rfl hl.1 rfl (lv_room (Nat.le_of_ble_eq_true rfl)) dL_law_1095 ⟨Nat.le_of_ble_eq_true rfl, Nat.le_of_ble_eq_true rfl⟩) hS (fun q _ h => h.elim) hFc (fun r3 u3 t9 H1 locs ht hvm hw hB hz1 hk1 hS => ?_)
    have e9 := hB.symm.trans ht
    subst e9
    rw [nI_clamp (n := i) (by omega)] at hw
    have hw := hw.symm
    subst hw
    refine lv_aload hx hb dL_law_1098 (lv_at hl 6 rfl) ?_
    refine lv_iload hx hb dL_law_1100 (lv_at hl 18 rfl) ?_
    refine va_iald hx hb hK hP 13 0 rfl rfl (vp_in_nI (by omega) (by omega)) dL_law_1102 ?_
    refine lv_topi (fun v9 e9 => ?_)
    rw [nI_clamp (n := i) (by omega)] at e9
    subst e9
    refine lv_icmp_eq (tgt := 1108) hx hb dL_law_1103 (by decide) (fun _ => ?_) (fun h9 => absurd (by rw [if_neg (by decide), if_neg (by decide)]; exact I.rep i) h9)
    refine lv_iinc (v := (nI (i + 1))) (lv' := [(21, .int (nI (i + 1))), (0, .ref b), (1, .ref (A 0)), (2, .ref (B 0)), (3, .ref (B 1)), (4, .ref (B 2)), (5, .ref (B 3)), (6, .ref (B 4)), (7, .ref (B 5)), (8, .ref (B 6)), (9, .int wd), (10, .int (nI T)), (11, .int ft), (12, .int fl), (13, .int cl), (14, .int (nI h)), (15, .int mv), (16, .int (nI t)), (18, .int y)]) hx hb dL_law_1108 hl (k := 18) rfl (nI_1 i) (by decide) rfl (fun ls hl => ?_)
    refine lv_goto (tgt := 1054) hx hb dL_law_1111 (by decide) ?_
    exact (ih (i + 1) (by omega)) H locs ls hP hD hS (lv_sub hl [1, 2, 3, 4, 5, 6, 7, 8, 9, 10, 11, 12, 13, 14, 15, 16, 17, 18, 0] rfl)
set_option maxHeartbeats 1000000 in
set_option maxRecDepth 100000 in
theorem turn_end {p : Program} {l : Launch} {e : Env} {s : State} {m : MethodId} {below : List Frame} {meth : Method} {c : Code} {b Ln : Nat} {xs : Nat → Int32} {dG : va_G} {A B : Nat → Nat} {cA : ClassId} (C0 : lw_At p s m meth c b Ln xs) (hK : va_K dG vwCl (tyI cA) s) {t : Nat} (ht0 : t < 60) (k : lwHead p l e s m below meth c b dG A B cA 92 (t + 1) (t + 1) []) (y : Int32) : lwHead p l e s m below meth c b dG A B cA 1051 t (t + 1) [(18, .int y)] := by
  obtain ⟨hx, hb, hr, hml, hown0, hts0, hX, hbl, hlocks, hgv⟩ := id C0
  have hown : s.vm.findClass RL = some m.cls := hown0
  have hts : ∀ w ∈ wsL_law, w.before #[Value.ref b] s = true := fun w h => hts0 w (wsL_law_in w h)
  have hA : ∀ q : Nat, s.heap.size ≤ q → aNew s.heap q := fun _ h => h
  have hbA : ¬ aNew s.heap b := Nat.not_le.mpr hbl
  intro L P G V R N Y S Rp T h wd ft fl ce cl mv mo I
  intro H locs ls hP hD hS hl
  have hl : lv_has ls 27 ([(0, .ref b), (1, .ref (A 0)), (2, .ref (B 0)), (3, .ref (B 1)), (4, .ref (B 2)), (5, .ref (B 3)), (6, .ref (B 4)), (7, .ref (B 5)), (8, .ref (B 6)), (9, .int wd), (10, .int (nI T)), (11, .int ft), (12, .int fl), (13, .int cl), (14, .int (nI h)), (15, .int mv), (16, .int (nI t)), (18, .int y)]) := hl
  refine lv_iconst (v := 0) hx hb dL_law_1051 (by decide) ?_
  refine lv_istore (lv' := [(21, .int 0), (0, .ref b), (1, .ref (A 0)), (2, .ref (B 0)), (3, .ref (B 1)), (4, .ref (B 2)), (5, .ref (B 3)), (6, .ref (B 4)), (7, .ref (B 5)), (8, .ref (B 6)), (9, .int wd), (10, .int (nI T)), (11, .int ft), (12, .int fl), (13, .int cl), (14, .int (nI h)), (15, .int mv), (16, .int (nI t)), (18, .int y)]) hx hb dL_law_1052 hl (by decide) rfl (fun ls hl => ?_)
  exact (te_loop C0 hK ht0 I y (te_fin C0 hK ht0 I k y) T 0 (by omega)) H locs ls hP hD hS (lv_sub hl [1, 2, 3, 4, 5, 6, 7, 8, 9, 10, 11, 12, 13, 14, 15, 16, 17, 18, 0] rfl)
