set_option maxHeartbeats 1000000 in
set_option maxRecDepth 100000 in
theorem case_turbine {p : Program} {l : Launch} {e : Env} {s : State} {m : MethodId} {below : List Frame} {meth : Method} {c : Code} {b Ln : Nat} {xs : Nat → Int32} {dG : va_G} {A B : Nat → Nat} {cA : ClassId} (C0 : lw_At p s m meth c b Ln xs) (hK : va_K dG vwCl (tyI cA) s) {L P G V R N Y S Rp : Nat → Int32} {T h t : Nat} {wd ft fl ce cl mv : Int32} {mo : UInt32} (ht0 : t < 60) (I : InvL L P G V R N Y S Rp T h t wd ce cl mv mo) {y : Int32} (k : lwHead p l e s m below meth c b dG A B cA 1051 t (t + 1) [(18, .int y)]) (hT : T < 4) : lwP p l e s m below meth c b dG 166 ((xW A cA L P G V R N Y S wd (nI T) ft fl ce (nI h) mo) ++ (lW B cA L P G V Rp S Y)) (lV A B b wd (nI T) ft fl cl (nI h) mv (nI t) ++ [(18, .int y)]) := by
  obtain ⟨hx, hb, hr, hml, hown0, hts0, hX, hbl, hlocks, hgv⟩ := id C0
  have hown : s.vm.findClass RL = some m.cls := hown0
  have hts : ∀ w ∈ wsL_law, w.before #[Value.ref b] s = true := fun w h => hts0 w (wsL_law_in w h)
  have hA : ∀ q : Nat, s.heap.size ≤ q → aNew s.heap q := fun _ h => h
  have hbA : ¬ aNew s.heap b := Nat.not_le.mpr hbl
  have hT4 := I.T4
  have hh59 := I.h59
  intro H locs ls hP hD hS hl
  have hl : lv_has ls 27 ([(0, .ref b), (1, .ref (A 0)), (2, .ref (B 0)), (3, .ref (B 1)), (4, .ref (B 2)), (5, .ref (B 3)), (6, .ref (B 4)), (7, .ref (B 5)), (8, .ref (B 6)), (9, .int wd), (10, .int (nI T)), (11, .int ft), (12, .int fl), (13, .int cl), (14, .int (nI h)), (15, .int mv), (16, .int (nI t)), (18, .int y)]) := hl
  refine lv_aload_n hx hb dL_law_166 rfl (lv_at hl 1 rfl) ?_
  have hPc := hP.sub (ws' := (xW A cA L P G V R N Y S wd (nI T) ft fl ce (nI h) mo)) [0, 1, 2, 3, 4, 5, 6, 7, 8] rfl
  have hDc := hD.sub (ws' := (xW A cA L P G V R N Y S wd (nI T) ft fl ce (nI h) mo)) [0, 1, 2, 3, 4, 5, 6, 7, 8] (by decide) rfl
  have hFc := va_free (wc := (xW A cA L P G V R N Y S wd (nI T) ft fl ce (nI h) mo)) hD hS hA [0, 1, 2, 3, 4, 5, 6, 7, 8] rfl
  refine va_calli (va_runV (As := []) (rest := []) ⟨hx, hb, hml, hown, hts⟩ (c_X0_turbine l dG A A cA H L P G V R N Y S wd (nI T) ft fl ce (nI h) mo  (nI_lt (b := 4) (by omega) (by omega))) (cwV 0 hts gL_law_X0_turbine rfl rfl rfl (by decide +kernel) ⟨Nat.le_of_ble_eq_true rfl, Nat.le_of_ble_eq_true rfl⟩) ⟨fun a9 U g mk q => ⟨q.1, wPre_calling g mk a9 q.2⟩, va_recv hK hPc (ci := 0) (q0 := 0) rfl rfl, fun U hU hW => ⟨rfl, wPre_of hK hPc hDc hU hW⟩⟩ rfl rfl hl.1 rfl (lv_room (Nat.le_of_ble_eq_true rfl)) dL_law_167 ⟨Nat.le_of_ble_eq_true rfl, Nat.le_of_ble_eq_true rfl⟩) hS (fun q _ h => hFc q h) hFc (fun r1 u1 t9 H locs ht hvm hw hB hz1 hk1 hS => ?_)
  obtain ⟨hr1, hu⟩ := hw
  subst hu
  have hr1 := hr1.symm
  subst hr1
  obtain ⟨hP1, hK1, hD1⟩ := hB
  rw [ht] at hP1
  obtain ⟨hP, hD⟩ := va_join (wr := (lW B cA L P G V Rp S Y)) (w1 := (xW A cA L P G V R N Y S wd ((nI T) + 1) ft fl ce (nI h) mo)) hP hD [0, 1, 2, 3, 4, 5, 6, 7, 8] [9, 10, 11, 12, 13, 14, 15] rfl rfl (by decide) (by decide) hk1 hFc hP1 hD1
  have hP : va_P dG vwCl ((xW A cA L P G V R N Y S wd ((nI T) + 1) ft fl ce (nI h) mo) ++ (lW B cA L P G V Rp S Y)) H := hP.sub [7, 8, 9, 10, 11, 12, 13, 14, 15, 0, 1, 2, 3, 4, 5, 6] rfl
  have hD : va_D (aNew s.heap) ((xW A cA L P G V R N Y S wd ((nI T) + 1) ft fl ce (nI h) mo) ++ (lW B cA L P G V Rp S Y)) := hD.sub [7, 8, 9, 10, 11, 12, 13, 14, 15, 0, 1, 2, 3, 4, 5, 6] (by decide) rfl
  refine lv_iload hx hb dL_law_170 (lv_at hl 10 rfl) ?_
  refine lv_icmp_eq (tgt := 177) hx hb dL_law_172 (by decide) (fun _ => ?_) (fun h9 => absurd (by rw [nI_1 T]; exact nI_pred T) h9)
  refine lv_iinc (v := (nI (T + 1))) (lv' := [(10, .int (nI (T + 1))), (0, .ref b), (1, .ref (A 0)), (2, .ref (B 0)), (3, .ref (B 1)), (4, .ref (B 2)), (5, .ref (B 3)), (6, .ref (B 4)), (7, .ref (B 5)), (8, .ref (B 6)), (9, .int wd), (11, .int ft), (12, .int fl), (13, .int cl), (14, .int (nI h)), (15, .int mv), (16, .int (nI t)), (18, .int y)]) hx hb dL_law_177 hl (k := 10) rfl (nI_1 T) (by decide) rfl (fun ls hl => ?_)
  refine lv_goto (tgt := 1051) hx hb dL_law_180 (by decide) ?_
  have eT : nI T + 1 = nI (T + 1) := nI_1 T
  rw [eT] at hP hD
  exact (k L P G V R N Y S Rp (T + 1) h wd ft fl ce cl mv mo ((InvL_turbine I hT).mono ht0)) H locs ls hP hD hS (lv_sub hl [1, 2, 3, 4, 5, 6, 7, 8, 9, 10, 0, 11, 12, 13, 14, 15, 16, 17] rfl)
set_option maxHeartbeats 1000000 in
set_option maxRecDepth 100000 in
theorem case_tide {p : Program} {l : Launch} {e : Env} {s : State} {m : MethodId} {below : List Frame} {meth : Method} {c : Code} {b Ln : Nat} {xs : Nat → Int32} {dG : va_G} {A B : Nat → Nat} {cA : ClassId} (C0 : lw_At p s m meth c b Ln xs) (hK : va_K dG vwCl (tyI cA) s) {L P G V R N Y S Rp : Nat → Int32} {T h t : Nat} {wd ft fl ce cl mv : Int32} {mo : UInt32} (ht0 : t < 60) (I : InvL L P G V R N Y S Rp T h t wd ce cl mv mo) {y : Int32} (k : lwHead p l e s m below meth c b dG A B cA 1051 t (t + 1) [(18, .int y)]) {k0 : Nat} (hk0 : k0 < T) : lwP p l e s m below meth c b dG 189 ((xW A cA L P G V R N Y S wd (nI T) ft fl ce (nI h) mo) ++ (lW B cA L P G V Rp S Y)) (lV A B b wd (nI T) ft fl cl (nI h) mv (nI t) ++ [(18, .int y), (20, .int (nI k0))]) := by
  obtain ⟨hx, hb, hr, hml, hown0, hts0, hX, hbl, hlocks, hgv⟩ := id C0
  have hown : s.vm.findClass RL = some m.cls := hown0
  have hts : ∀ w ∈ wsL_law, w.before #[Value.ref b] s = true := fun w h => hts0 w (wsL_law_in w h)
  have hA : ∀ q : Nat, s.heap.size ≤ q → aNew s.heap q := fun _ h => h
  have hbA : ¬ aNew s.heap b := Nat.not_le.mpr hbl
  have hT4 := I.T4
  have hh59 := I.h59
  intro H locs ls hP hD hS hl
  have hl : lv_has ls 27 ([(0, .ref b), (1, .ref (A 0)), (2, .ref (B 0)), (3, .ref (B 1)), (4, .ref (B 2)), (5, .ref (B 3)), (6, .ref (B 4)), (7, .ref (B 5)), (8, .ref (B 6)), (9, .int wd), (10, .int (nI T)), (11, .int ft), (12, .int fl), (13, .int cl), (14, .int (nI h)), (15, .int mv), (16, .int (nI t)), (18, .int y), (20, .int (nI k0))]) := hl
  refine lv_iload hx hb dL_law_189 (lv_at hl 17 rfl) ?_
  refine lv_bipush (v := 24) hx hb dL_law_191 (by decide) ?_
  refine va_calli (va_runS (As := [.int y, .int 24]) (rest := []) ⟨hx, hb, hml, hown, hts⟩ (c_L_low l H y 24 24 rfl (by omega) (by omega)) (va_cwS 2 hts gL_law_L_low rfl rfl rfl (by decide +kernel) ⟨Nat.le_of_ble_eq_true rfl, Nat.le_of_ble_eq_true rfl⟩) ⟨fun a9 U g mk q => q, fun U hU hW => ⟨rfl, hU⟩⟩ rfl rfl hl.1 rfl (lv_room (Nat.le_of_ble_eq_true rfl)) dL_law_193 ⟨Nat.le_of_ble_eq_true rfl, Nat.le_of_ble_eq_true rfl⟩) hS (fun q _ h => h.elim) (fun q h => h.elim) (fun r1 u1 t9 H1 locs ht hvm hw hB hz1 hk1 hS => ?_)
  have e9 := hB.symm.trans ht
  subst e9
  subst hw
  have hlo1 := lo_lt y (k := 24) (by omega)
  refine lv_istore (lv' := [(21, .int (nI (lo y 24))), (0, .ref b), (1, .ref (A 0)), (2, .ref (B 0)), (3, .ref (B 1)), (4, .ref (B 2)), (5, .ref (B 3)), (6, .ref (B 4)), (7, .ref (B 5)), (8, .ref (B 6)), (9, .int wd), (10, .int (nI T)), (11, .int ft), (12, .int fl), (13, .int cl), (14, .int (nI h)), (15, .int mv), (16, .int (nI t)), (18, .int y), (20, .int (nI k0))]) hx hb dL_law_196 hl (by decide) rfl (fun ls hl => ?_)
  refine lv_iload hx hb dL_law_198 (lv_at hl 18 rfl) ?_
  refine lv_iconst (v := 5) hx hb dL_law_200 (by decide) ?_
  refine lv_ishr hx hb dL_law_201 ?_
  refine lv_sipush (v := 201) hx hb dL_law_202 (by decide) ?_
  refine va_calli (va_runS (As := [.int (y >>> (5 &&& 31)), .int 201]) (rest := []) ⟨hx, hb, hml, hown, hts⟩ (c_L_low l H (y >>> (5 &&& 31)) 201 201 rfl (by omega) (by omega)) (va_cwS 2 hts gL_law_L_low rfl rfl rfl (by decide +kernel) ⟨Nat.le_of_ble_eq_true rfl, Nat.le_of_ble_eq_true rfl⟩) ⟨fun a9 U g mk q => q, fun U hU hW => ⟨rfl, hU⟩⟩ rfl rfl hl.1 rfl (lv_room (Nat.le_of_ble_eq_true rfl)) dL_law_205 ⟨Nat.le_of_ble_eq_true rfl, Nat.le_of_ble_eq_true rfl⟩) hS (fun q _ h => h.elim) (fun q h => h.elim) (fun r2 u2 t9 H1 locs ht hvm hw hB hz1 hk1 hS => ?_)
  have e9 := hB.symm.trans ht
  subst e9
  subst hw
  have hlo2 := lo_lt (y >>> (5 &&& 31)) (k := 201) (by omega)
  refine lv_bipush (v := 100) hx hb dL_law_208 (by decide) ?_
  refine lv_isub hx hb dL_law_210 ?_
  refine lv_istore (lv' := [(22, .int ((nI (lo (y >>> (5 &&& 31)) 201)) - 100)), (21, .int (nI (lo y 24))), (0, .ref b), (1, .ref (A 0)), (2, .ref (B 0)), (3, .ref (B 1)), (4, .ref (B 2)), (5, .ref (B 3)), (6, .ref (B 4)), (7, .ref (B 5)), (8, .ref (B 6)), (9, .int wd), (10, .int (nI T)), (11, .int ft), (12, .int fl), (13, .int cl), (14, .int (nI h)), (15, .int mv), (16, .int (nI t)), (18, .int y), (20, .int (nI k0))]) hx hb dL_law_211 hl (by decide) rfl (fun ls hl => ?_)
  refine lv_aload_n hx hb dL_law_213 rfl (lv_at hl 3 rfl) ?_
  refine lv_iload hx hb dL_law_214 (lv_at hl 1 rfl) ?_
  refine lv_iload hx hb dL_law_216 (lv_at hl 0 rfl) ?_
  have hPc := hP.sub (ws' := (xW A cA L P G V R N Y S wd (nI T) ft fl ce (nI h) mo)) [0, 1, 2, 3, 4, 5, 6, 7, 8] rfl
  have hDc := hD.sub (ws' := (xW A cA L P G V R N Y S wd (nI T) ft fl ce (nI h) mo)) [0, 1, 2, 3, 4, 5, 6, 7, 8] (by decide) rfl
  have hFc := va_free (wc := (xW A cA L P G V R N Y S wd (nI T) ft fl ce (nI h) mo)) hD hS hA [0, 1, 2, 3, 4, 5, 6, 7, 8] rfl
  refine va_calli (va_runV (As := [.int (nI (lo y 24)), .int ((nI (lo (y >>> (5 &&& 31)) 201)) - 100)]) (rest := []) ⟨hx, hb, hml, hown, hts⟩ (c_X0_tide l dG A A cA H L P G V R N Y S wd (nI T) ft fl ce (nI h) mo (nI (lo y 24)) ((nI (lo (y >>> (5 &&& 31)) 201)) - 100) (oI_nI (lo := 0) (hi := 23) (by omega) (by omega) (by omega)) (oI_m100 (by omega))) (cwV 2 hts gL_law_X0_tide rfl rfl rfl (by decide +kernel) ⟨Nat.le_of_ble_eq_true rfl, Nat.le_of_ble_eq_true rfl⟩) ⟨fun a9 U g mk q => ⟨q.1, wPre_calling g mk a9 q.2⟩, va_recv hK hPc (ci := 0) (q0 := 0) rfl rfl, fun U hU hW => ⟨rfl, wPre_of hK hPc hDc hU hW⟩⟩ rfl rfl hl.1 rfl (lv_room (Nat.le_of_ble_eq_true rfl)) dL_law_218 ⟨Nat.le_of_ble_eq_true rfl, Nat.le_of_ble_eq_true rfl⟩) hS (fun q _ h => hFc q h) hFc (fun r3 u3 t9 H locs ht hvm hw hB hz1 hk1 hS => ?_)
  rw [nI_clamp (n := lo y 24) (by omega)] at hw
  obtain ⟨hr1, hu⟩ := hw
  subst hu
  have hr1 := hr1.symm
  subst hr1
  obtain ⟨hP1, hK1, hD1⟩ := hB
  rw [ht] at hP1
  obtain ⟨hP, hD⟩ := va_join (wr := (lW B cA L P G V Rp S Y)) (w1 := (xW A cA (upd L (lo y 24) ((nI (lo (y >>> (5 &&& 31)) 201)) - 100)) P G V R N Y S wd (nI T) ft fl ce (nI h) mo)) hP hD [0, 1, 2, 3, 4, 5, 6, 7, 8] [9, 10, 11, 12, 13, 14, 15] rfl rfl (by decide) (by decide) hk1 hFc hP1 hD1
  have hP : va_P dG vwCl ((xW A cA (upd L (lo y 24) ((nI (lo (y >>> (5 &&& 31)) 201)) - 100)) P G V R N Y S wd (nI T) ft fl ce (nI h) mo) ++ (lW B cA L P G V Rp S Y)) H := hP.sub [7, 8, 9, 10, 11, 12, 13, 14, 15, 0, 1, 2, 3, 4, 5, 6] rfl
  have hD : va_D (aNew s.heap) ((xW A cA (upd L (lo y 24) ((nI (lo (y >>> (5 &&& 31)) 201)) - 100)) P G V R N Y S wd (nI T) ft fl ce (nI h) mo) ++ (lW B cA L P G V Rp S Y)) := hD.sub [7, 8, 9, 10, 11, 12, 13, 14, 15, 0, 1, 2, 3, 4, 5, 6] (by decide) rfl
  refine lv_aload_n hx hb dL_law_221 rfl (lv_at hl 4 rfl) ?_
  refine lv_iload hx hb dL_law_222 (lv_at hl 1 rfl) ?_
  refine va_iald hx hb hK hP 9 0 rfl rfl (vp_in_nI (by omega) (by omega)) dL_law_224 ?_
  refine lv_topi (fun v9 e9 => ?_)
  rw [nI_clamp (n := lo y 24) (by omega)] at e9
  subst e9
  refine lv_icmp_eq (tgt := 230) hx hb dL_law_225 (by decide) (fun _ => ?_) (fun h9 => absurd rfl h9)
  refine lv_aload_n hx hb dL_law_230 rfl (lv_at hl 4 rfl) ?_
  refine lv_iload hx hb dL_law_231 (lv_at hl 1 rfl) ?_
  refine lv_iload hx hb dL_law_233 (lv_at hl 0 rfl) ?_
  refine va_iast hx hb hK hP hD hS 9 0 rfl rfl (vp_in_nI (by omega) (by omega)) dL_law_235 (fun H locs hP hD hS => ?_)
  rw [nI_clamp (n := lo y 24) (by omega)] at hP hD
  have hP : va_P dG vwCl ((xW A cA (upd L (lo y 24) ((nI (lo (y >>> (5 &&& 31)) 201)) - 100)) P G V R N Y S wd (nI T) ft fl ce (nI h) mo) ++ (lW B cA (upd L (lo y 24) ((nI (lo (y >>> (5 &&& 31)) 201)) - 100)) P G V Rp S Y)) H := hP
  have hD : va_D (aNew s.heap) ((xW A cA (upd L (lo y 24) ((nI (lo (y >>> (5 &&& 31)) 201)) - 100)) P G V R N Y S wd (nI T) ft fl ce (nI h) mo) ++ (lW B cA (upd L (lo y 24) ((nI (lo (y >>> (5 &&& 31)) 201)) - 100)) P G V Rp S Y)) := hD
  refine lv_iconst (v := 1) hx hb dL_law_236 (by decide) ?_
  refine lv_iload hx hb dL_law_237 (lv_at hl 19 rfl) ?_
  refine lv_bipush (v := 13) hx hb dL_law_239 (by decide) ?_
  refine lv_ishr hx hb dL_law_241 ?_
  refine lv_bipush (v := 20) hx hb dL_law_242 (by decide) ?_
  refine va_calli (va_runS (As := [.int (y >>> (13 &&& 31)), .int 20]) (rest := [.int 1]) ⟨hx, hb, hml, hown, hts⟩ (c_L_low l H (y >>> (13 &&& 31)) 20 20 rfl (by omega) (by omega)) (va_cwS 2 hts gL_law_L_low rfl rfl rfl (by decide +kernel) ⟨Nat.le_of_ble_eq_true rfl, Nat.le_of_ble_eq_true rfl⟩) ⟨fun a9 U g mk q => q, fun U hU hW => ⟨rfl, hU⟩⟩ rfl rfl hl.1 rfl (lv_room (Nat.le_of_ble_eq_true rfl)) dL_law_244 ⟨Nat.le_of_ble_eq_true rfl, Nat.le_of_ble_eq_true rfl⟩) hS (fun q _ h => h.elim) (fun q h => h.elim) (fun r4 u4 t9 H1 locs ht hvm hw hB hz1 hk1 hS => ?_)
  have e9 := hB.symm.trans ht
  subst e9
  subst hw
  have hlo4 := lo_lt (y >>> (13 &&& 31)) (k := 20) (by omega)
  refine lv_iadd hx hb dL_law_247 ?_
  refine lv_topi (fun v9 e9 => ?_)
  have e9 := e9.trans (nI_add 1 _)
  subst e9
  refine lv_istore (lv' := [(23, .int (nI (1 + lo (y >>> (13 &&& 31)) 20))), (22, .int ((nI (lo (y >>> (5 &&& 31)) 201)) - 100)), (21, .int (nI (lo y 24))), (0, .ref b), (1, .ref (A 0)), (2, .ref (B 0)), (3, .ref (B 1)), (4, .ref (B 2)), (5, .ref (B 3)), (6, .ref (B 4)), (7, .ref (B 5)), (8, .ref (B 6)), (9, .int wd), (10, .int (nI T)), (11, .int ft), (12, .int fl), (13, .int cl), (14, .int (nI h)), (15, .int mv), (16, .int (nI t)), (18, .int y), (20, .int (nI k0))]) hx hb dL_law_248 hl (by decide) rfl (fun ls hl => ?_)
  refine lv_aload_n hx hb dL_law_250 rfl (lv_at hl 4 rfl) ?_
  refine lv_iload hx hb dL_law_251 (lv_at hl 2 rfl) ?_
  refine lv_iload hx hb dL_law_253 (lv_at hl 0 rfl) ?_
  have hPc := hP.sub (ws' := (xW A cA (upd L (lo y 24) ((nI (lo (y >>> (5 &&& 31)) 201)) - 100)) P G V R N Y S wd (nI T) ft fl ce (nI h) mo)) [0, 1, 2, 3, 4, 5, 6, 7, 8] rfl
  have hDc := hD.sub (ws' := (xW A cA (upd L (lo y 24) ((nI (lo (y >>> (5 &&& 31)) 201)) - 100)) P G V R N Y S wd (nI T) ft fl ce (nI h) mo)) [0, 1, 2, 3, 4, 5, 6, 7, 8] (by decide) rfl
  have hFc := va_free (wc := (xW A cA (upd L (lo y 24) ((nI (lo (y >>> (5 &&& 31)) 201)) - 100)) P G V R N Y S wd (nI T) ft fl ce (nI h) mo)) hD hS hA [0, 1, 2, 3, 4, 5, 6, 7, 8] rfl
  refine va_calli (va_runV (As := [.int (nI (lo y 24)), .int (nI (1 + lo (y >>> (13 &&& 31)) 20))]) (rest := []) ⟨hx, hb, hml, hown, hts⟩ (c_X0_price l dG A A cA H (upd L (lo y 24) ((nI (lo (y >>> (5 &&& 31)) 201)) - 100)) P G V R N Y S wd (nI T) ft fl ce (nI h) mo (nI (lo y 24)) (nI (1 + lo (y >>> (13 &&& 31)) 20)) (oI_nI (lo := 0) (hi := 23) (by omega) (by omega) (by omega)) (oI_nI (lo := 1) (hi := 200) (by omega) (by omega) (by omega))) (cwV 2 hts gL_law_X0_price rfl rfl rfl (by decide +kernel) ⟨Nat.le_of_ble_eq_true rfl, Nat.le_of_ble_eq_true rfl⟩) ⟨fun a9 U g mk q => ⟨q.1, wPre_calling g mk a9 q.2⟩, va_recv hK hPc (ci := 0) (q0 := 0) rfl rfl, fun U hU hW => ⟨rfl, wPre_of hK hPc hDc hU hW⟩⟩ rfl rfl hl.1 rfl (lv_room (Nat.le_of_ble_eq_true rfl)) dL_law_255 ⟨Nat.le_of_ble_eq_true rfl, Nat.le_of_ble_eq_true rfl⟩) hS (fun q _ h => hFc q h) hFc (fun r5 u5 t9 H locs ht hvm hw hB hz1 hk1 hS => ?_)
  rw [nI_clamp (n := lo y 24) (by omega)] at hw
  obtain ⟨hr1, hu⟩ := hw
  subst hu
  have hr1 := hr1.symm
  subst hr1
  obtain ⟨hP1, hK1, hD1⟩ := hB
  rw [ht] at hP1
  obtain ⟨hP, hD⟩ := va_join (wr := (lW B cA (upd L (lo y 24) ((nI (lo (y >>> (5 &&& 31)) 201)) - 100)) P G V Rp S Y)) (w1 := (xW A cA (upd L (lo y 24) ((nI (lo (y >>> (5 &&& 31)) 201)) - 100)) (upd P (lo y 24) (nI (1 + lo (y >>> (13 &&& 31)) 20))) G V R N Y S wd (nI T) ft fl ce (nI h) mo)) hP hD [0, 1, 2, 3, 4, 5, 6, 7, 8] [9, 10, 11, 12, 13, 14, 15] rfl rfl (by decide) (by decide) hk1 hFc hP1 hD1
  have hP : va_P dG vwCl ((xW A cA (upd L (lo y 24) ((nI (lo (y >>> (5 &&& 31)) 201)) - 100)) (upd P (lo y 24) (nI (1 + lo (y >>> (13 &&& 31)) 20))) G V R N Y S wd (nI T) ft fl ce (nI h) mo) ++ (lW B cA (upd L (lo y 24) ((nI (lo (y >>> (5 &&& 31)) 201)) - 100)) P G V Rp S Y)) H := hP.sub [7, 8, 9, 10, 11, 12, 13, 14, 15, 0, 1, 2, 3, 4, 5, 6] rfl
  have hD : va_D (aNew s.heap) ((xW A cA (upd L (lo y 24) ((nI (lo (y >>> (5 &&& 31)) 201)) - 100)) (upd P (lo y 24) (nI (1 + lo (y >>> (13 &&& 31)) 20))) G V R N Y S wd (nI T) ft fl ce (nI h) mo) ++ (lW B cA (upd L (lo y 24) ((nI (lo (y >>> (5 &&& 31)) 201)) - 100)) P G V Rp S Y)) := hD.sub [7, 8, 9, 10, 11, 12, 13, 14, 15, 0, 1, 2, 3, 4, 5, 6] (by decide) rfl
  refine lv_aload_n hx hb dL_law_258 rfl (lv_at hl 6 rfl) ?_
  refine lv_iload hx hb dL_law_259 (lv_at hl 2 rfl) ?_
  refine va_iald hx hb hK hP 10 0 rfl rfl (vp_in_nI (by omega) (by omega)) dL_law_261 ?_
  refine lv_topi (fun v9 e9 => ?_)
  rw [nI_clamp (n := lo y 24) (by omega)] at e9
  subst e9
  refine lv_icmp_eq (tgt := 267) hx hb dL_law_262 (by decide) (fun _ => ?_) (fun h9 => absurd rfl h9)
  refine lv_aload_n hx hb dL_law_267 rfl (lv_at hl 6 rfl) ?_
  refine lv_iload hx hb dL_law_268 (lv_at hl 2 rfl) ?_
  refine lv_iload hx hb dL_law_270 (lv_at hl 0 rfl) ?_
  refine va_iast hx hb hK hP hD hS 10 0 rfl rfl (vp_in_nI (by omega) (by omega)) dL_law_272 (fun H locs hP hD hS => ?_)
  rw [nI_clamp (n := lo y 24) (by omega)] at hP hD
  have hP : va_P dG vwCl ((xW A cA (upd L (lo y 24) ((nI (lo (y >>> (5 &&& 31)) 201)) - 100)) (upd P (lo y 24) (nI (1 + lo (y >>> (13 &&& 31)) 20))) G V R N Y S wd (nI T) ft fl ce (nI h) mo) ++ (lW B cA (upd L (lo y 24) ((nI (lo (y >>> (5 &&& 31)) 201)) - 100)) (upd P (lo y 24) (nI (1 + lo (y >>> (13 &&& 31)) 20))) G V Rp S Y)) H := hP
  have hD : va_D (aNew s.heap) ((xW A cA (upd L (lo y 24) ((nI (lo (y >>> (5 &&& 31)) 201)) - 100)) (upd P (lo y 24) (nI (1 + lo (y >>> (13 &&& 31)) 20))) G V R N Y S wd (nI T) ft fl ce (nI h) mo) ++ (lW B cA (upd L (lo y 24) ((nI (lo (y >>> (5 &&& 31)) 201)) - 100)) (upd P (lo y 24) (nI (1 + lo (y >>> (13 &&& 31)) 20))) G V Rp S Y)) := hD
  refine lv_goto (tgt := 1051) hx hb dL_law_273 (by decide) ?_
  exact (k (upd L (lo y 24) ((nI (lo (y >>> (5 &&& 31)) 201)) - 100)) (upd P (lo y 24) (nI (1 + lo (y >>> (13 &&& 31)) 20))) G V R N Y S Rp T h wd ft fl ce cl mv mo ((InvL_price (InvL_tide I (n := lo y 24) (by omega) (oI_nI (lo := 0) (hi := 23) (by omega) (by omega) (by omega)) (oI_m100 (by omega))) (n := lo y 24) (by omega) (oI_nI (lo := 0) (hi := 23) (by omega) (by omega) (by omega)) (oI_nI (lo := 1) (hi := 200) (by omega) (by omega) (by omega)) (by rw [nI_toInt (by omega)]; omega)).mono ht0)) H locs ls hP hD hS (lv_sub hl [3, 4, 5, 6, 7, 8, 9, 10, 11, 12, 13, 14, 15, 16, 17, 18, 19, 20] rfl)
set_option maxHeartbeats 1000000 in
set_option maxRecDepth 100000 in
theorem wind_loop {p : Program} {l : Launch} {e : Env} {s : State} {m : MethodId} {below : List Frame} {meth : Method} {c : Code} {b Ln : Nat} {xs : Nat → Int32} {dG : va_G} {A B : Nat → Nat} {cA : ClassId} (C0 : lw_At p s m meth c b Ln xs) (hK : va_K dG vwCl (tyI cA) s) {P G V R N Y S Rp : Nat → Int32} {T h t : Nat} {wd ft fl ce cl mv : Int32} {mo : UInt32} (ht0 : t < 60) {y : Int32} (k : lwHead p l e s m below meth c b dG A B cA 1051 t (t + 1) [(18, .int y)]) : ∀ (r i : Nat) {L : Nat → Int32}, i + r = 4 → InvL L P G V R N Y S Rp T h t wd ce cl mv mo → lwP p l e s m below meth c b dG 314 ((xW A cA L P G V R N Y S wd (nI T) ft fl ce (nI h) mo) ++ (lW B cA L P G V Rp S Y)) (lV A B b wd (nI T) ft fl cl (nI h) mv (nI t) ++ [(18, .int y), (22, .int (nI i))]) := by
  obtain ⟨hx, hb, hr, hml, hown0, hts0, hX, hbl, hlocks, hgv⟩ := id C0
  have hown : s.vm.findClass RL = some m.cls := hown0
  have hts : ∀ w ∈ wsL_law, w.before #[Value.ref b] s = true := fun w h => hts0 w (wsL_law_in w h)
  have hA : ∀ q : Nat, s.heap.size ≤ q → aNew s.heap q := fun _ h => h
  have hbA : ¬ aNew s.heap b := Nat.not_le.mpr hbl
  intro r
  induction r with
  | zero =>
    intro i L hi I
    have hi : 4 = i := by omega
    subst hi
    have hT4 := I.T4
    have hh59 := I.h59
    intro H locs ls hP hD hS hl
    have hl : lv_has ls 27 ([(0, .ref b), (1, .ref (A 0)), (2, .ref (B 0)), (3, .ref (B 1)), (4, .ref (B 2)), (5, .ref (B 3)), (6, .ref (B 4)), (7, .ref (B 5)), (8, .ref (B 6)), (9, .int wd), (10, .int (nI T)), (11, .int ft), (12, .int fl), (13, .int cl), (14, .int (nI h)), (15, .int mv), (16, .int (nI t)), (18, .int y), (22, .int (nI 4))]) := hl
    refine lv_iload hx hb dL_law_314 (lv_at hl 18 rfl) ?_
    refine lv_iconst (v := 4) hx hb dL_law_316 (by decide) ?_
    refine lv_icmp_ge (tgt := 378) hx hb dL_law_317 (by decide) (fun _ => ?_) (fun h9 => absurd (nI_le (a := 4) (b := 4) (by omega) (by omega)) h9)
    refine lv_goto (tgt := 1051) hx hb dL_law_378 (by decide) ?_
    exact (k L P G V R N Y S Rp T h wd ft fl ce cl mv mo (I.mono ht0)) H locs ls hP hD hS (lv_sub hl [0, 1, 2, 3, 4, 5, 6, 7, 8, 9, 10, 11, 12, 13, 14, 15, 16, 17] rfl)
  | succ r ih =>
    intro i L hi I
    have hT4 := I.T4
    have hh59 := I.h59
    intro H locs ls hP hD hS hl
    have hl : lv_has ls 27 ([(0, .ref b), (1, .ref (A 0)), (2, .ref (B 0)), (3, .ref (B 1)), (4, .ref (B 2)), (5, .ref (B 3)), (6, .ref (B 4)), (7, .ref (B 5)), (8, .ref (B 6)), (9, .int wd), (10, .int (nI T)), (11, .int ft), (12, .int fl), (13, .int cl), (14, .int (nI h)), (15, .int mv), (16, .int (nI t)), (18, .int y), (22, .int (nI i))]) := hl
    refine lv_iload hx hb dL_law_314 (lv_at hl 18 rfl) ?_
    refine lv_iconst (v := 4) hx hb dL_law_316 (by decide) ?_
    refine lv_icmp_ge (tgt := 378) hx hb dL_law_317 (by decide) (fun h9 => absurd h9 (nI_ge (b := 4) (by omega) (by omega))) (fun _ => ?_)
    refine lv_iload hx hb dL_law_320 (lv_at hl 14 rfl) ?_
    refine lv_iload hx hb dL_law_322 (lv_at hl 18 rfl) ?_
    refine lv_iadd hx hb dL_law_324 ?_
    refine lv_topi (fun v9 e9 => ?_)
    have e9 := e9.trans (nI_add h i)
    subst e9
    refine lv_bipush (v := 24) hx hb dL_law_325 (by decide) ?_
    refine lv_irem hx hb dL_law_327 (by decide) ?_
    refine lv_topi (fun v9 e9 => ?_)
    have e9 := e9.trans (nI_mod24 (n := h + i) (by omega))
    subst e9
    refine lv_istore (lv' := [(23, .int (nI ((h + i) % 24))), (0, .ref b), (1, .ref (A 0)), (2, .ref (B 0)), (3, .ref (B 1)), (4, .ref (B 2)), (5, .ref (B 3)), (6, .ref (B 4)), (7, .ref (B 5)), (8, .ref (B 6)), (9, .int wd), (10, .int (nI T)), (11, .int ft), (12, .int fl), (13, .int cl), (14, .int (nI h)), (15, .int mv), (16, .int (nI t)), (18, .int y), (22, .int (nI i))]) hx hb dL_law_328 hl (by decide) rfl (fun ls hl => ?_)
    refine lv_iload hx hb dL_law_330 (lv_at hl 18 rfl) ?_
    refine lv_bipush (v := 6) hx hb dL_law_332 (by decide) ?_
    refine lv_iload hx hb dL_law_334 (lv_at hl 19 rfl) ?_
    refine lv_iadd hx hb dL_law_336 ?_
    refine lv_ishr hx hb dL_law_337 ?_
    refine lv_sipush (v := 201) hx hb dL_law_338 (by decide) ?_
    refine va_calli (va_runS (As := [.int (y >>> ((6 + (nI i)) &&& 31)), .int 201]) (rest := []) ⟨hx, hb, hml, hown, hts⟩ (c_L_low l H (y >>> ((6 + (nI i)) &&& 31)) 201 201 rfl (by omega) (by omega)) (va_cwS 2 hts gL_law_L_low rfl rfl rfl (by decide +kernel) ⟨Nat.le_of_ble_eq_true rfl, Nat.le_of_ble_eq_true rfl⟩) ⟨fun a9 U g mk q => q, fun U hU hW => ⟨rfl, hU⟩⟩ rfl rfl hl.1 rfl (lv_room (Nat.le_of_ble_eq_true rfl)) dL_law_341 ⟨Nat.le_of_ble_eq_true rfl, Nat.le_of_ble_eq_true rfl⟩) hS (fun q _ h => h.elim) (fun q h => h.elim) (fun r1 u1 t9 H1 locs ht hvm hw hB hz1 hk1 hS => ?_)
    have e9 := hB.symm.trans ht
    subst e9
    subst hw
    have hlo1 := lo_lt (y >>> ((6 + (nI i)) &&& 31)) (k := 201) (by omega)
    refine lv_bipush (v := 100) hx hb dL_law_344 (by decide) ?_
    refine lv_isub hx hb dL_law_346 ?_
    refine lv_istore (lv' := [(24, .int ((nI (lo (y >>> ((6 + (nI i)) &&& 31)) 201)) - 100)), (23, .int (nI ((h + i) % 24))), (0, .ref b), (1, .ref (A 0)), (2, .ref (B 0)), (3, .ref (B 1)), (4, .ref (B 2)), (5, .ref (B 3)), (6, .ref (B 4)), (7, .ref (B 5)), (8, .ref (B 6)), (9, .int wd), (10, .int (nI T)), (11, .int ft), (12, .int fl), (13, .int cl), (14, .int (nI h)), (15, .int mv), (16, .int (nI t)), (18, .int y), (22, .int (nI i))]) hx hb dL_law_347 hl (by decide) rfl (fun ls hl => ?_)
    refine lv_aload_n hx hb dL_law_349 rfl (lv_at hl 3 rfl) ?_
    refine lv_iload hx hb dL_law_350 (lv_at hl 1 rfl) ?_
    refine lv_iload hx hb dL_law_352 (lv_at hl 0 rfl) ?_
    have hPc := hP.sub (ws' := (xW A cA L P G V R N Y S wd (nI T) ft fl ce (nI h) mo)) [0, 1, 2, 3, 4, 5, 6, 7, 8] rfl
    have hDc := hD.sub (ws' := (xW A cA L P G V R N Y S wd (nI T) ft fl ce (nI h) mo)) [0, 1, 2, 3, 4, 5, 6, 7, 8] (by decide) rfl
    have hFc := va_free (wc := (xW A cA L P G V R N Y S wd (nI T) ft fl ce (nI h) mo)) hD hS hA [0, 1, 2, 3, 4, 5, 6, 7, 8] rfl
    refine va_calli (va_runV (As := [.int (nI ((h + i) % 24)), .int ((nI (lo (y >>> ((6 + (nI i)) &&& 31)) 201)) - 100)]) (rest := []) ⟨hx, hb, hml, hown, hts⟩ (c_X0_tide l dG A A cA H L P G V R N Y S wd (nI T) ft fl ce (nI h) mo (nI ((h + i) % 24)) ((nI (lo (y >>> ((6 + (nI i)) &&& 31)) 201)) - 100) (oI_nI (lo := 0) (hi := 23) (by omega) (by omega) (by omega)) (oI_m100 (by omega))) (cwV 2 hts gL_law_X0_tide rfl rfl rfl (by decide +kernel) ⟨Nat.le_of_ble_eq_true rfl, Nat.le_of_ble_eq_true rfl⟩) ⟨fun a9 U g mk q => ⟨q.1, wPre_calling g mk a9 q.2⟩, va_recv hK hPc (ci := 0) (q0 := 0) rfl rfl, fun U hU hW => ⟨rfl, wPre_of hK hPc hDc hU hW⟩⟩ rfl rfl hl.1 rfl (lv_room (Nat.le_of_ble_eq_true rfl)) dL_law_354 ⟨Nat.le_of_ble_eq_true rfl, Nat.le_of_ble_eq_true rfl⟩) hS (fun q _ h => hFc q h) hFc (fun r2 u2 t9 H locs ht hvm hw hB hz1 hk1 hS => ?_)
    rw [nI_clamp (n := (h + i) % 24) (by omega)] at hw
    obtain ⟨hr1, hu⟩ := hw
    subst hu
    have hr1 := hr1.symm
    subst hr1
    obtain ⟨hP1, hK1, hD1⟩ := hB
    rw [ht] at hP1
    obtain ⟨hP, hD⟩ := va_join (wr := (lW B cA L P G V Rp S Y)) (w1 := (xW A cA (upd L ((h + i) % 24) ((nI (lo (y >>> ((6 + (nI i)) &&& 31)) 201)) - 100)) P G V R N Y S wd (nI T) ft fl ce (nI h) mo)) hP hD [0, 1, 2, 3, 4, 5, 6, 7, 8] [9, 10, 11, 12, 13, 14, 15] rfl rfl (by decide) (by decide) hk1 hFc hP1 hD1
    have hP : va_P dG vwCl ((xW A cA (upd L ((h + i) % 24) ((nI (lo (y >>> ((6 + (nI i)) &&& 31)) 201)) - 100)) P G V R N Y S wd (nI T) ft fl ce (nI h) mo) ++ (lW B cA L P G V Rp S Y)) H := hP.sub [7, 8, 9, 10, 11, 12, 13, 14, 15, 0, 1, 2, 3, 4, 5, 6] rfl
    have hD : va_D (aNew s.heap) ((xW A cA (upd L ((h + i) % 24) ((nI (lo (y >>> ((6 + (nI i)) &&& 31)) 201)) - 100)) P G V R N Y S wd (nI T) ft fl ce (nI h) mo) ++ (lW B cA L P G V Rp S Y)) := hD.sub [7, 8, 9, 10, 11, 12, 13, 14, 15, 0, 1, 2, 3, 4, 5, 6] (by decide) rfl
    refine lv_aload_n hx hb dL_law_357 rfl (lv_at hl 4 rfl) ?_
    refine lv_iload hx hb dL_law_358 (lv_at hl 1 rfl) ?_
    refine va_iald hx hb hK hP 9 0 rfl rfl (vp_in_nI (by omega) (by omega)) dL_law_360 ?_
    refine lv_topi (fun v9 e9 => ?_)
    rw [nI_clamp (n := (h + i) % 24) (by omega)] at e9
    subst e9
    refine lv_icmp_eq (tgt := 366) hx hb dL_law_361 (by decide) (fun _ => ?_) (fun h9 => absurd rfl h9)
    refine lv_aload_n hx hb dL_law_366 rfl (lv_at hl 4 rfl) ?_
    refine lv_iload hx hb dL_law_367 (lv_at hl 1 rfl) ?_
    refine lv_iload hx hb dL_law_369 (lv_at hl 0 rfl) ?_
    refine va_iast hx hb hK hP hD hS 9 0 rfl rfl (vp_in_nI (by omega) (by omega)) dL_law_371 (fun H locs hP hD hS => ?_)
    rw [nI_clamp (n := (h + i) % 24) (by omega)] at hP hD
    have hP : va_P dG vwCl ((xW A cA (upd L ((h + i) % 24) ((nI (lo (y >>> ((6 + (nI i)) &&& 31)) 201)) - 100)) P G V R N Y S wd (nI T) ft fl ce (nI h) mo) ++ (lW B cA (upd L ((h + i) % 24) ((nI (lo (y >>> ((6 + (nI i)) &&& 31)) 201)) - 100)) P G V Rp S Y)) H := hP
    have hD : va_D (aNew s.heap) ((xW A cA (upd L ((h + i) % 24) ((nI (lo (y >>> ((6 + (nI i)) &&& 31)) 201)) - 100)) P G V R N Y S wd (nI T) ft fl ce (nI h) mo) ++ (lW B cA (upd L ((h + i) % 24) ((nI (lo (y >>> ((6 + (nI i)) &&& 31)) 201)) - 100)) P G V Rp S Y)) := hD
    refine lv_iinc (v := (nI (i + 1))) (lv' := [(22, .int (nI (i + 1))), (24, .int ((nI (lo (y >>> ((6 + (nI i)) &&& 31)) 201)) - 100)), (23, .int (nI ((h + i) % 24))), (0, .ref b), (1, .ref (A 0)), (2, .ref (B 0)), (3, .ref (B 1)), (4, .ref (B 2)), (5, .ref (B 3)), (6, .ref (B 4)), (7, .ref (B 5)), (8, .ref (B 6)), (9, .int wd), (10, .int (nI T)), (11, .int ft), (12, .int fl), (13, .int cl), (14, .int (nI h)), (15, .int mv), (16, .int (nI t)), (18, .int y)]) hx hb dL_law_372 hl (k := 20) rfl (nI_1 i) (by decide) rfl (fun ls hl => ?_)
    refine lv_goto (tgt := 314) hx hb dL_law_375 (by decide) ?_
    exact (ih (i + 1) (by omega) (InvL_tide I (n := (h + i) % 24) (by omega) (oI_nI (lo := 0) (hi := 23) (by omega) (by omega) (by omega)) (oI_m100 (by omega)))) H locs ls hP hD hS (lv_sub hl [3, 4, 5, 6, 7, 8, 9, 10, 11, 12, 13, 14, 15, 16, 17, 18, 19, 20, 0] rfl)
set_option maxHeartbeats 1000000 in
set_option maxRecDepth 100000 in
theorem case_wind {p : Program} {l : Launch} {e : Env} {s : State} {m : MethodId} {below : List Frame} {meth : Method} {c : Code} {b Ln : Nat} {xs : Nat → Int32} {dG : va_G} {A B : Nat → Nat} {cA : ClassId} (C0 : lw_At p s m meth c b Ln xs) (hK : va_K dG vwCl (tyI cA) s) {L P G V R N Y S Rp : Nat → Int32} {T h t : Nat} {wd ft fl ce cl mv : Int32} {mo : UInt32} (ht0 : t < 60) (I : InvL L P G V R N Y S Rp T h t wd ce cl mv mo) {y : Int32} (k : lwHead p l e s m below meth c b dG A B cA 1051 t (t + 1) [(18, .int y)]) : lwP p l e s m below meth c b dG 282 ((xW A cA L P G V R N Y S wd (nI T) ft fl ce (nI h) mo) ++ (lW B cA L P G V Rp S Y)) (lV A B b wd (nI T) ft fl cl (nI h) mv (nI t) ++ [(18, .int y)]) := by
  obtain ⟨hx, hb, hr, hml, hown0, hts0, hX, hbl, hlocks, hgv⟩ := id C0
  have hown : s.vm.findClass RL = some m.cls := hown0
  have hts : ∀ w ∈ wsL_law, w.before #[Value.ref b] s = true := fun w h => hts0 w (wsL_law_in w h)
  have hA : ∀ q : Nat, s.heap.size ≤ q → aNew s.heap q := fun _ h => h
  have hbA : ¬ aNew s.heap b := Nat.not_le.mpr hbl
  have hT4 := I.T4
  have hh59 := I.h59
  intro H locs ls hP hD hS hl
  have hl : lv_has ls 27 ([(0, .ref b), (1, .ref (A 0)), (2, .ref (B 0)), (3, .ref (B 1)), (4, .ref (B 2)), (5, .ref (B 3)), (6, .ref (B 4)), (7, .ref (B 5)), (8, .ref (B 6)), (9, .int wd), (10, .int (nI T)), (11, .int ft), (12, .int fl), (13, .int cl), (14, .int (nI h)), (15, .int mv), (16, .int (nI t)), (18, .int y)]) := hl
  refine lv_iload hx hb dL_law_282 (lv_at hl 17 rfl) ?_
  refine lv_bipush (v := 41) hx hb dL_law_284 (by decide) ?_
  refine va_calli (va_runS (As := [.int y, .int 41]) (rest := []) ⟨hx, hb, hml, hown, hts⟩ (c_L_low l H y 41 41 rfl (by omega) (by omega)) (va_cwS 2 hts gL_law_L_low rfl rfl rfl (by decide +kernel) ⟨Nat.le_of_ble_eq_true rfl, Nat.le_of_ble_eq_true rfl⟩) ⟨fun a9 U g mk q => q, fun U hU hW => ⟨rfl, hU⟩⟩ rfl rfl hl.1 rfl (lv_room (Nat.le_of_ble_eq_true rfl)) dL_law_286 ⟨Nat.le_of_ble_eq_true rfl, Nat.le_of_ble_eq_true rfl⟩) hS (fun q _ h => h.elim) (fun q h => h.elim) (fun r1 u1 t9 H1 locs ht hvm hw hB hz1 hk1 hS => ?_)
  have e9 := hB.symm.trans ht
  subst e9
  subst hw
  have hlo1 := lo_lt y (k := 41) (by omega)
  refine lv_bipush (v := 20) hx hb dL_law_289 (by decide) ?_
  refine lv_isub hx hb dL_law_291 ?_
  refine lv_istore (lv' := [(21, .int ((nI (lo y 41)) - 20)), (0, .ref b), (1, .ref (A 0)), (2, .ref (B 0)), (3, .ref (B 1)), (4, .ref (B 2)), (5, .ref (B 3)), (6, .ref (B 4)), (7, .ref (B 5)), (8, .ref (B 6)), (9, .int wd), (10, .int (nI T)), (11, .int ft), (12, .int fl), (13, .int cl), (14, .int (nI h)), (15, .int mv), (16, .int (nI t)), (18, .int y)]) hx hb dL_law_292 hl (by decide) rfl (fun ls hl => ?_)
  refine lv_aload_n hx hb dL_law_294 rfl (lv_at hl 2 rfl) ?_
  refine lv_iload hx hb dL_law_295 (lv_at hl 0 rfl) ?_
  have hPc := hP.sub (ws' := (xW A cA L P G V R N Y S wd (nI T) ft fl ce (nI h) mo)) [0, 1, 2, 3, 4, 5, 6, 7, 8] rfl
  have hDc := hD.sub (ws' := (xW A cA L P G V R N Y S wd (nI T) ft fl ce (nI h) mo)) [0, 1, 2, 3, 4, 5, 6, 7, 8] (by decide) rfl
  have hFc := va_free (wc := (xW A cA L P G V R N Y S wd (nI T) ft fl ce (nI h) mo)) hD hS hA [0, 1, 2, 3, 4, 5, 6, 7, 8] rfl
  refine va_calli (va_runV (As := [.int ((nI (lo y 41)) - 20)]) (rest := []) ⟨hx, hb, hml, hown, hts⟩ (c_X0_wind l dG A A cA H L P G V R N Y S wd (nI T) ft fl ce (nI h) mo ((nI (lo y 41)) - 20) (oI_m20 (by omega))) (cwV 1 hts gL_law_X0_wind rfl rfl rfl (by decide +kernel) ⟨Nat.le_of_ble_eq_true rfl, Nat.le_of_ble_eq_true rfl⟩) ⟨fun a9 U g mk q => ⟨q.1, wPre_calling g mk a9 q.2⟩, va_recv hK hPc (ci := 0) (q0 := 0) rfl rfl, fun U hU hW => ⟨rfl, wPre_of hK hPc hDc hU hW⟩⟩ rfl rfl hl.1 rfl (lv_room (Nat.le_of_ble_eq_true rfl)) dL_law_297 ⟨Nat.le_of_ble_eq_true rfl, Nat.le_of_ble_eq_true rfl⟩) hS (fun q _ h => hFc q h) hFc (fun r2 u2 t9 H locs ht hvm hw hB hz1 hk1 hS => ?_)
  obtain ⟨hr1, hu⟩ := hw
  subst hu
  have hr1 := hr1.symm
  subst hr1
  obtain ⟨hP1, hK1, hD1⟩ := hB
  rw [ht] at hP1
  obtain ⟨hP, hD⟩ := va_join (wr := (lW B cA L P G V Rp S Y)) (w1 := (xW A cA L P G V R N Y S ((nI (lo y 41)) - 20) (nI T) ft fl ce (nI h) mo)) hP hD [0, 1, 2, 3, 4, 5, 6, 7, 8] [9, 10, 11, 12, 13, 14, 15] rfl rfl (by decide) (by decide) hk1 hFc hP1 hD1
  have hP : va_P dG vwCl ((xW A cA L P G V R N Y S ((nI (lo y 41)) - 20) (nI T) ft fl ce (nI h) mo) ++ (lW B cA L P G V Rp S Y)) H := hP.sub [7, 8, 9, 10, 11, 12, 13, 14, 15, 0, 1, 2, 3, 4, 5, 6] rfl
  have hD : va_D (aNew s.heap) ((xW A cA L P G V R N Y S ((nI (lo y 41)) - 20) (nI T) ft fl ce (nI h) mo) ++ (lW B cA L P G V Rp S Y)) := hD.sub [7, 8, 9, 10, 11, 12, 13, 14, 15, 0, 1, 2, 3, 4, 5, 6] (by decide) rfl
  refine lv_iload hx hb dL_law_300 (lv_at hl 10 rfl) ?_
  refine lv_icmp_eq (tgt := 307) hx hb dL_law_302 (by decide) (fun _ => ?_) (fun h9 => absurd rfl h9)
  refine lv_iload hx hb dL_law_307 (lv_at hl 0 rfl) ?_
  refine lv_istore (lv' := [(9, .int ((nI (lo y 41)) - 20)), (21, .int ((nI (lo y 41)) - 20)), (0, .ref b), (1, .ref (A 0)), (2, .ref (B 0)), (3, .ref (B 1)), (4, .ref (B 2)), (5, .ref (B 3)), (6, .ref (B 4)), (7, .ref (B 5)), (8, .ref (B 6)), (10, .int (nI T)), (11, .int ft), (12, .int fl), (13, .int cl), (14, .int (nI h)), (15, .int mv), (16, .int (nI t)), (18, .int y)]) hx hb dL_law_309 hl (by decide) rfl (fun ls hl => ?_)
  refine lv_iconst (v := 0) hx hb dL_law_311 (by decide) ?_
  refine lv_istore (lv' := [(22, .int 0), (9, .int ((nI (lo y 41)) - 20)), (21, .int ((nI (lo y 41)) - 20)), (0, .ref b), (1, .ref (A 0)), (2, .ref (B 0)), (3, .ref (B 1)), (4, .ref (B 2)), (5, .ref (B 3)), (6, .ref (B 4)), (7, .ref (B 5)), (8, .ref (B 6)), (10, .int (nI T)), (11, .int ft), (12, .int fl), (13, .int cl), (14, .int (nI h)), (15, .int mv), (16, .int (nI t)), (18, .int y)]) hx hb dL_law_312 hl (by decide) rfl (fun ls hl => ?_)
  exact (wind_loop C0 hK ht0 k 4 0 (by omega) (InvL_wind I (oI_m20 (by omega)))) H locs ls hP hD hS (lv_sub hl [3, 4, 5, 6, 7, 8, 9, 10, 11, 1, 12, 13, 14, 15, 16, 17, 18, 19, 0] rfl)
set_option maxHeartbeats 1000000 in
set_option maxRecDepth 100000 in
theorem case_gate {p : Program} {l : Launch} {e : Env} {s : State} {m : MethodId} {below : List Frame} {meth : Method} {c : Code} {b Ln : Nat} {xs : Nat → Int32} {dG : va_G} {A B : Nat → Nat} {cA : ClassId} (C0 : lw_At p s m meth c b Ln xs) (hK : va_K dG vwCl (tyI cA) s) {L P G V R N Y S Rp : Nat → Int32} {T h t : Nat} {wd ft fl ce cl mv : Int32} {mo : UInt32} (ht0 : t < 60) (I : InvL L P G V R N Y S Rp T h t wd ce cl mv mo) {y : Int32} (k : lwHead p l e s m below meth c b dG A B cA 1051 t (t + 1) [(18, .int y)]) {k0 : Nat} (hk0 : k0 < T) : lwP p l e s m below meth c b dG 387 ((xW A cA L P G V R N Y S wd (nI T) ft fl ce (nI h) mo) ++ (lW B cA L P G V Rp S Y)) (lV A B b wd (nI T) ft fl cl (nI h) mv (nI t) ++ [(18, .int y), (20, .int (nI k0))]) := by
  obtain ⟨hx, hb, hr, hml, hown0, hts0, hX, hbl, hlocks, hgv⟩ := id C0
  have hown : s.vm.findClass RL = some m.cls := hown0
  have hts : ∀ w ∈ wsL_law, w.before #[Value.ref b] s = true := fun w h => hts0 w (wsL_law_in w h)
  have hA : ∀ q : Nat, s.heap.size ≤ q → aNew s.heap q := fun _ h => h
  have hbA : ¬ aNew s.heap b := Nat.not_le.mpr hbl
  have hT4 := I.T4
  have hh59 := I.h59
  intro H locs ls hP hD hS hl
  have hl : lv_has ls 27 ([(0, .ref b), (1, .ref (A 0)), (2, .ref (B 0)), (3, .ref (B 1)), (4, .ref (B 2)), (5, .ref (B 3)), (6, .ref (B 4)), (7, .ref (B 5)), (8, .ref (B 6)), (9, .int wd), (10, .int (nI T)), (11, .int ft), (12, .int fl), (13, .int cl), (14, .int (nI h)), (15, .int mv), (16, .int (nI t)), (18, .int y), (20, .int (nI k0))]) := hl
  refine lv_iload hx hb dL_law_387 (lv_at hl 17 rfl) ?_
  refine lv_bipush (v := 8) hx hb dL_law_389 (by decide) ?_
  refine va_calli (va_runS (As := [.int y, .int 8]) (rest := []) ⟨hx, hb, hml, hown, hts⟩ (c_L_low l H y 8 8 rfl (by omega) (by omega)) (va_cwS 2 hts gL_law_L_low rfl rfl rfl (by decide +kernel) ⟨Nat.le_of_ble_eq_true rfl, Nat.le_of_ble_eq_true rfl⟩) ⟨fun a9 U g mk q => q, fun U hU hW => ⟨rfl, hU⟩⟩ rfl rfl hl.1 rfl (lv_room (Nat.le_of_ble_eq_true rfl)) dL_law_391 ⟨Nat.le_of_ble_eq_true rfl, Nat.le_of_ble_eq_true rfl⟩) hS (fun q _ h => h.elim) (fun q h => h.elim) (fun r1 u1 t9 H1 locs ht hvm hw hB hz1 hk1 hS => ?_)
  have e9 := hB.symm.trans ht
  subst e9
  subst hw
  have hlo1 := lo_lt y (k := 8) (by omega)
  refine lv_istore (lv' := [(21, .int (nI (lo y 8))), (0, .ref b), (1, .ref (A 0)), (2, .ref (B 0)), (3, .ref (B 1)), (4, .ref (B 2)), (5, .ref (B 3)), (6, .ref (B 4)), (7, .ref (B 5)), (8, .ref (B 6)), (9, .int wd), (10, .int (nI T)), (11, .int ft), (12, .int fl), (13, .int cl), (14, .int (nI h)), (15, .int mv), (16, .int (nI t)), (18, .int y), (20, .int (nI k0))]) hx hb dL_law_394 hl (by decide) rfl (fun ls hl => ?_)
  refine lv_aload_n hx hb dL_law_396 rfl (lv_at hl 2 rfl) ?_
  refine lv_iload hx hb dL_law_397 (lv_at hl 19 rfl) ?_
  refine lv_iload hx hb dL_law_399 (lv_at hl 0 rfl) ?_
  have hPc := hP.sub (ws' := (xW A cA L P G V R N Y S wd (nI T) ft fl ce (nI h) mo)) [0, 1, 2, 3, 4, 5, 6, 7, 8] rfl
  have hDc := hD.sub (ws' := (xW A cA L P G V R N Y S wd (nI T) ft fl ce (nI h) mo)) [0, 1, 2, 3, 4, 5, 6, 7, 8] (by decide) rfl
  have hFc := va_free (wc := (xW A cA L P G V R N Y S wd (nI T) ft fl ce (nI h) mo)) hD hS hA [0, 1, 2, 3, 4, 5, 6, 7, 8] rfl
  refine va_calli (va_runV (As := [.int (nI k0), .int (nI (lo y 8))]) (rest := []) ⟨hx, hb, hml, hown, hts⟩ (c_X0_gate l dG A A cA H L P G V R N Y S wd (nI T) ft fl ce (nI h) mo (nI k0) (nI (lo y 8)) (nIb (by omega) (b := 4) (by omega)) (oI_gone (j := k0) (by omega) (by omega)) (oI_nI (lo := 0) (hi := 7) (by omega) (by omega) (by omega))) (cwV 2 hts gL_law_X0_gate rfl rfl rfl (by decide +kernel) ⟨Nat.le_of_ble_eq_true rfl, Nat.le_of_ble_eq_true rfl⟩) ⟨fun a9 U g mk q => ⟨q.1, wPre_calling g mk a9 q.2⟩, va_recv hK hPc (ci := 0) (q0 := 0) rfl rfl, fun U hU hW => ⟨rfl, wPre_of hK hPc hDc hU hW⟩⟩ rfl rfl hl.1 rfl (lv_room (Nat.le_of_ble_eq_true rfl)) dL_law_401 ⟨Nat.le_of_ble_eq_true rfl, Nat.le_of_ble_eq_true rfl⟩) hS (fun q _ h => hFc q h) hFc (fun r2 u2 t9 H locs ht hvm hw hB hz1 hk1 hS => ?_)
  rw [nI_clamp (n := k0) (by omega)] at hw
  obtain ⟨hr1, hu⟩ := hw
  subst hu
  have hr1 := hr1.symm
  subst hr1
  obtain ⟨hP1, hK1, hD1⟩ := hB
  rw [ht] at hP1
  obtain ⟨hP, hD⟩ := va_join (wr := (lW B cA L P G V Rp S Y)) (w1 := (xW A cA L P (upd G k0 (nI (lo y 8))) V R N Y S wd (nI T) ft fl ce (nI h) mo)) hP hD [0, 1, 2, 3, 4, 5, 6, 7, 8] [9, 10, 11, 12, 13, 14, 15] rfl rfl (by decide) (by decide) hk1 hFc hP1 hD1
  have hP : va_P dG vwCl ((xW A cA L P (upd G k0 (nI (lo y 8))) V R N Y S wd (nI T) ft fl ce (nI h) mo) ++ (lW B cA L P G V Rp S Y)) H := hP.sub [7, 8, 9, 10, 11, 12, 13, 14, 15, 0, 1, 2, 3, 4, 5, 6] rfl
  have hD : va_D (aNew s.heap) ((xW A cA L P (upd G k0 (nI (lo y 8))) V R N Y S wd (nI T) ft fl ce (nI h) mo) ++ (lW B cA L P G V Rp S Y)) := hD.sub [7, 8, 9, 10, 11, 12, 13, 14, 15, 0, 1, 2, 3, 4, 5, 6] (by decide) rfl
  refine lv_aload hx hb dL_law_404 (lv_at hl 5 rfl) ?_
  refine lv_iload hx hb dL_law_406 (lv_at hl 19 rfl) ?_
  refine va_iald hx hb hK hP 11 0 rfl rfl (vp_in_nI (by omega) (by omega)) dL_law_408 ?_
  refine lv_topi (fun v9 e9 => ?_)
  rw [nI_clamp (n := k0) (by omega)] at e9
  subst e9
  refine lv_icmp_eq (tgt := 414) hx hb dL_law_409 (by decide) (fun _ => ?_) (fun h9 => absurd rfl h9)
  refine lv_aload hx hb dL_law_414 (lv_at hl 5 rfl) ?_
  refine lv_iload hx hb dL_law_416 (lv_at hl 19 rfl) ?_
  refine lv_iload hx hb dL_law_418 (lv_at hl 0 rfl) ?_
  refine va_iast hx hb hK hP hD hS 11 0 rfl rfl (vp_in_nI (by omega) (by omega)) dL_law_420 (fun H locs hP hD hS => ?_)
  rw [nI_clamp (n := k0) (by omega)] at hP hD
  have hP : va_P dG vwCl ((xW A cA L P (upd G k0 (nI (lo y 8))) V R N Y S wd (nI T) ft fl ce (nI h) mo) ++ (lW B cA L P (upd G k0 (nI (lo y 8))) V Rp S Y)) H := hP
  have hD : va_D (aNew s.heap) ((xW A cA L P (upd G k0 (nI (lo y 8))) V R N Y S wd (nI T) ft fl ce (nI h) mo) ++ (lW B cA L P (upd G k0 (nI (lo y 8))) V Rp S Y)) := hD
  refine lv_goto (tgt := 1051) hx hb dL_law_421 (by decide) ?_
  exact (k L P (upd G k0 (nI (lo y 8))) V R N Y S Rp T h wd ft fl ce cl mv mo ((InvL_gate I hk0 (oI_nI (lo := 0) (hi := 7) (c := lo y 8) (by omega) (by omega) (by omega))).mono ht0)) H locs ls hP hD hS (lv_sub hl [1, 2, 3, 4, 5, 6, 7, 8, 9, 10, 11, 12, 13, 14, 15, 16, 17, 18] rfl)
set_option maxHeartbeats 1000000 in
set_option maxRecDepth 100000 in
theorem case_repair {p : Program} {l : Launch} {e : Env} {s : State} {m : MethodId} {below : List Frame} {meth : Method} {c : Code} {b Ln : Nat} {xs : Nat → Int32} {dG : va_G} {A B : Nat → Nat} {cA : ClassId} (C0 : lw_At p s m meth c b Ln xs) (hK : va_K dG vwCl (tyI cA) s) {L P G V R N Y S Rp : Nat → Int32} {T h t : Nat} {wd ft fl ce cl mv : Int32} {mo : UInt32} (ht0 : t < 60) (I : InvL L P G V R N Y S Rp T h t wd ce cl mv mo) {y : Int32} (k : lwHead p l e s m below meth c b dG A B cA 1051 t (t + 1) [(18, .int y)]) {k0 : Nat} (hk0 : k0 < T) : lwP p l e s m below meth c b dG 430 ((xW A cA L P G V R N Y S wd (nI T) ft fl ce (nI h) mo) ++ (lW B cA L P G V Rp S Y)) (lV A B b wd (nI T) ft fl cl (nI h) mv (nI t) ++ [(18, .int y), (20, .int (nI k0))]) := by
  obtain ⟨hx, hb, hr, hml, hown0, hts0, hX, hbl, hlocks, hgv⟩ := id C0
  have hown : s.vm.findClass RL = some m.cls := hown0
  have hts : ∀ w ∈ wsL_law, w.before #[Value.ref b] s = true := fun w h => hts0 w (wsL_law_in w h)
  have hA : ∀ q : Nat, s.heap.size ≤ q → aNew s.heap q := fun _ h => h
  have hbA : ¬ aNew s.heap b := Nat.not_le.mpr hbl
  have hT4 := I.T4
  have hh59 := I.h59
  intro H locs ls hP hD hS hl
  have hl : lv_has ls 27 ([(0, .ref b), (1, .ref (A 0)), (2, .ref (B 0)), (3, .ref (B 1)), (4, .ref (B 2)), (5, .ref (B 3)), (6, .ref (B 4)), (7, .ref (B 5)), (8, .ref (B 6)), (9, .int wd), (10, .int (nI T)), (11, .int ft), (12, .int fl), (13, .int cl), (14, .int (nI h)), (15, .int mv), (16, .int (nI t)), (18, .int y), (20, .int (nI k0))]) := hl
  refine lv_aload_n hx hb dL_law_430 rfl (lv_at hl 1 rfl) ?_
  refine lv_iload hx hb dL_law_431 (lv_at hl 18 rfl) ?_
  have hPc := hP.sub (ws' := (xW A cA L P G V R N Y S wd (nI T) ft fl ce (nI h) mo)) [0, 1, 2, 3, 4, 5, 6, 7, 8] rfl
  have hDc := hD.sub (ws' := (xW A cA L P G V R N Y S wd (nI T) ft fl ce (nI h) mo)) [0, 1, 2, 3, 4, 5, 6, 7, 8] (by decide) rfl
  have hFc := va_free (wc := (xW A cA L P G V R N Y S wd (nI T) ft fl ce (nI h) mo)) hD hS hA [0, 1, 2, 3, 4, 5, 6, 7, 8] rfl
  refine va_calli (va_runV (As := [.int (nI k0)]) (rest := []) ⟨hx, hb, hml, hown, hts⟩ (c_X0_repair l dG A A cA H L P G V R N Y S wd (nI T) ft fl ce (nI h) mo (nI k0) (nIb (by omega) (b := 4) (by omega)) (oI_gone (j := k0) (by omega) (by omega))) (cwV 1 hts gL_law_X0_repair rfl rfl rfl (by decide +kernel) ⟨Nat.le_of_ble_eq_true rfl, Nat.le_of_ble_eq_true rfl⟩) ⟨fun a9 U g mk q => ⟨q.1, wPre_calling g mk a9 q.2⟩, va_recv hK hPc (ci := 0) (q0 := 0) rfl rfl, fun U hU hW => ⟨rfl, wPre_of hK hPc hDc hU hW⟩⟩ rfl rfl hl.1 rfl (lv_room (Nat.le_of_ble_eq_true rfl)) dL_law_433 ⟨Nat.le_of_ble_eq_true rfl, Nat.le_of_ble_eq_true rfl⟩) hS (fun q _ h => hFc q h) hFc (fun r1 u1 t9 H locs ht hvm hw hB hz1 hk1 hS => ?_)
  rw [nI_clamp (n := k0) (by omega)] at hw
  obtain ⟨hr1, hu⟩ := hw
  subst hu
  have hr1 := hr1.symm
  subst hr1
  obtain ⟨hP1, hK1, hD1⟩ := hB
  rw [ht] at hP1
  obtain ⟨hP, hD⟩ := va_join (wr := (lW B cA L P G V Rp S Y)) (w1 := (xW A cA L P G (upd V k0 0) (upd R k0 ((nI h) + 5)) N Y S wd (nI T) ft fl ce (nI h) mo)) hP hD [0, 1, 2, 3, 4, 5, 6, 7, 8] [9, 10, 11, 12, 13, 14, 15] rfl rfl (by decide) (by decide) hk1 hFc hP1 hD1
  have hP : va_P dG vwCl ((xW A cA L P G (upd V k0 0) (upd R k0 ((nI h) + 5)) N Y S wd (nI T) ft fl ce (nI h) mo) ++ (lW B cA L P G V Rp S Y)) H := hP.sub [7, 8, 9, 10, 11, 12, 13, 14, 15, 0, 1, 2, 3, 4, 5, 6] rfl
  have hD : va_D (aNew s.heap) ((xW A cA L P G (upd V k0 0) (upd R k0 ((nI h) + 5)) N Y S wd (nI T) ft fl ce (nI h) mo) ++ (lW B cA L P G V Rp S Y)) := hD.sub [7, 8, 9, 10, 11, 12, 13, 14, 15, 0, 1, 2, 3, 4, 5, 6] (by decide) rfl
  refine lv_aload hx hb dL_law_436 (lv_at hl 5 rfl) ?_
  refine lv_iload hx hb dL_law_438 (lv_at hl 18 rfl) ?_
  refine va_iald hx hb hK hP 12 0 rfl rfl (vp_in_nI (by omega) (by omega)) dL_law_440 ?_
  refine lv_topi (fun v9 e9 => ?_)
  rw [nI_clamp (n := k0) (by omega)] at e9
  subst e9
  refine lv_icmp_eq (tgt := 446) hx hb dL_law_441 (by decide) (fun _ => ?_) (fun h9 => absurd rfl h9)
  refine lv_aload hx hb dL_law_446 (lv_at hl 5 rfl) ?_
  refine lv_iload hx hb dL_law_448 (lv_at hl 18 rfl) ?_
  refine lv_iconst (v := 0) hx hb dL_law_450 (by decide) ?_
  refine va_iast hx hb hK hP hD hS 12 0 rfl rfl (vp_in_nI (by omega) (by omega)) dL_law_451 (fun H locs hP hD hS => ?_)
  rw [nI_clamp (n := k0) (by omega)] at hP hD
  have hP : va_P dG vwCl ((xW A cA L P G (upd V k0 0) (upd R k0 ((nI h) + 5)) N Y S wd (nI T) ft fl ce (nI h) mo) ++ (lW B cA L P G (upd V k0 0) Rp S Y)) H := hP
  have hD : va_D (aNew s.heap) ((xW A cA L P G (upd V k0 0) (upd R k0 ((nI h) + 5)) N Y S wd (nI T) ft fl ce (nI h) mo) ++ (lW B cA L P G (upd V k0 0) Rp S Y)) := hD
  refine lv_aload hx hb dL_law_452 (lv_at hl 6 rfl) ?_
  refine lv_iload hx hb dL_law_454 (lv_at hl 18 rfl) ?_
  refine lv_iconst (v := 5) hx hb dL_law_456 (by decide) ?_
  refine va_iast hx hb hK hP hD hS 13 0 rfl rfl (vp_in_nI (by omega) (by omega)) dL_law_457 (fun H locs hP hD hS => ?_)
  rw [nI_clamp (n := k0) (by omega)] at hP hD
  have hP : va_P dG vwCl ((xW A cA L P G (upd V k0 0) (upd R k0 ((nI h) + 5)) N Y S wd (nI T) ft fl ce (nI h) mo) ++ (lW B cA L P G (upd V k0 0) (upd Rp k0 5) S Y)) H := hP
  have hD : va_D (aNew s.heap) ((xW A cA L P G (upd V k0 0) (upd R k0 ((nI h) + 5)) N Y S wd (nI T) ft fl ce (nI h) mo) ++ (lW B cA L P G (upd V k0 0) (upd Rp k0 5) S Y)) := hD
  refine lv_goto (tgt := 1051) hx hb dL_law_458 (by decide) ?_
  exact (k L P G (upd V k0 0) (upd R k0 ((nI h) + 5)) N Y S (upd Rp k0 5) T h wd ft fl ce cl mv mo ((InvL_repair I hk0).mono ht0)) H locs ls hP hD hS (lv_sub hl [0, 1, 2, 3, 4, 5, 6, 7, 8, 9, 10, 11, 12, 13, 14, 15, 16, 17] rfl)
set_option maxHeartbeats 1000000 in
set_option maxRecDepth 100000 in
theorem case_fish {p : Program} {l : Launch} {e : Env} {s : State} {m : MethodId} {below : List Frame} {meth : Method} {c : Code} {b Ln : Nat} {xs : Nat → Int32} {dG : va_G} {A B : Nat → Nat} {cA : ClassId} (C0 : lw_At p s m meth c b Ln xs) (hK : va_K dG vwCl (tyI cA) s) {L P G V R N Y S Rp : Nat → Int32} {T h t : Nat} {wd ft fl ce cl mv : Int32} {mo : UInt32} (ht0 : t < 60) (I : InvL L P G V R N Y S Rp T h t wd ce cl mv mo) {y : Int32} (k : lwHead p l e s m below meth c b dG A B cA 1051 t (t + 1) [(18, .int y)])  : lwP p l e s m below meth c b dG 468 ((xW A cA L P G V R N Y S wd (nI T) ft fl ce (nI h) mo) ++ (lW B cA L P G V Rp S Y)) (lV A B b wd (nI T) ft fl cl (nI h) mv (nI t) ++ [(18, .int y)]) := by
  obtain ⟨hx, hb, hr, hml, hown0, hts0, hX, hbl, hlocks, hgv⟩ := id C0
  have hown : s.vm.findClass RL = some m.cls := hown0
  have hts : ∀ w ∈ wsL_law, w.before #[Value.ref b] s = true := fun w h => hts0 w (wsL_law_in w h)
  have hA : ∀ q : Nat, s.heap.size ≤ q → aNew s.heap q := fun _ h => h
  have hbA : ¬ aNew s.heap b := Nat.not_le.mpr hbl
  have hT4 := I.T4
  have hh59 := I.h59
  intro H locs ls hP hD hS hl
  have hl : lv_has ls 27 ([(0, .ref b), (1, .ref (A 0)), (2, .ref (B 0)), (3, .ref (B 1)), (4, .ref (B 2)), (5, .ref (B 3)), (6, .ref (B 4)), (7, .ref (B 5)), (8, .ref (B 6)), (9, .int wd), (10, .int (nI T)), (11, .int ft), (12, .int fl), (13, .int cl), (14, .int (nI h)), (15, .int mv), (16, .int (nI t)), (18, .int y)]) := hl
  refine lv_iload hx hb dL_law_468 (lv_at hl 17 rfl) ?_
  refine lv_iconst (v := 3) hx hb dL_law_470 (by decide) ?_
  refine va_calli (va_runS (As := [.int y, .int 3]) (rest := []) ⟨hx, hb, hml, hown, hts⟩ (c_L_low l H y 3 3 rfl (by omega) (by omega)) (va_cwS 2 hts gL_law_L_low rfl rfl rfl (by decide +kernel) ⟨Nat.le_of_ble_eq_true rfl, Nat.le_of_ble_eq_true rfl⟩) ⟨fun a9 U g mk q => q, fun U hU hW => ⟨rfl, hU⟩⟩ rfl rfl hl.1 rfl (lv_room (Nat.le_of_ble_eq_true rfl)) dL_law_471 ⟨Nat.le_of_ble_eq_true rfl, Nat.le_of_ble_eq_true rfl⟩) hS (fun q _ h => h.elim) (fun q h => h.elim) (fun r1 u1 t9 H1 locs ht hvm hw hB hz1 hk1 hS => ?_)
  have e9 := hB.symm.trans ht
  subst e9
  subst hw
  have hlo1 := lo_lt y (k := 3) (by omega)
  refine lv_if_ne (tgt := 506) hx hb dL_law_474 (by decide) (fun cq2 => ?_) (fun cq2 => ?_)
  · refine lv_iload hx hb dL_law_506 (lv_at hl 17 rfl) ?_
    refine lv_bipush (v := 12) hx hb dL_law_508 (by decide) ?_
    refine lv_ishr hx hb dL_law_510 ?_
    refine lv_sipush (v := 400) hx hb dL_law_511 (by decide) ?_
    refine va_calli (va_runS (As := [.int (y >>> (12 &&& 31)), .int 400]) (rest := []) ⟨hx, hb, hml, hown, hts⟩ (c_L_low l H (y >>> (12 &&& 31)) 400 400 rfl (by omega) (by omega)) (va_cwS 2 hts gL_law_L_low rfl rfl rfl (by decide +kernel) ⟨Nat.le_of_ble_eq_true rfl, Nat.le_of_ble_eq_true rfl⟩) ⟨fun a9 U g mk q => q, fun U hU hW => ⟨rfl, hU⟩⟩ rfl rfl hl.1 rfl (lv_room (Nat.le_of_ble_eq_true rfl)) dL_law_514 ⟨Nat.le_of_ble_eq_true rfl, Nat.le_of_ble_eq_true rfl⟩) hS (fun q _ h => h.elim) (fun q h => h.elim) (fun r3 u3 t9 H1 locs ht hvm hw hB hz1 hk1 hS => ?_)
    have e9 := hB.symm.trans ht
    subst e9
    subst hw
    have hlo3 := lo_lt (y >>> (12 &&& 31)) (k := 400) (by omega)
    refine lv_istore (lv' := [(21, .int (nI (lo (y >>> (12 &&& 31)) 400))), (0, .ref b), (1, .ref (A 0)), (2, .ref (B 0)), (3, .ref (B 1)), (4, .ref (B 2)), (5, .ref (B 3)), (6, .ref (B 4)), (7, .ref (B 5)), (8, .ref (B 6)), (9, .int wd), (10, .int (nI T)), (11, .int ft), (12, .int fl), (13, .int cl), (14, .int (nI h)), (15, .int mv), (16, .int (nI t)), (18, .int y)]) hx hb dL_law_517 hl (by decide) rfl (fun ls hl => ?_)
    refine lv_aload_n hx hb dL_law_519 rfl (lv_at hl 2 rfl) ?_
    refine lv_iload hx hb dL_law_520 (lv_at hl 0 rfl) ?_
    have hPc := hP.sub (ws' := (xW A cA L P G V R N Y S wd (nI T) ft fl ce (nI h) mo)) [0, 1, 2, 3, 4, 5, 6, 7, 8] rfl
    have hDc := hD.sub (ws' := (xW A cA L P G V R N Y S wd (nI T) ft fl ce (nI h) mo)) [0, 1, 2, 3, 4, 5, 6, 7, 8] (by decide) rfl
    have hFc := va_free (wc := (xW A cA L P G V R N Y S wd (nI T) ft fl ce (nI h) mo)) hD hS hA [0, 1, 2, 3, 4, 5, 6, 7, 8] rfl
    refine va_calli (va_runV (As := [.int (nI (lo (y >>> (12 &&& 31)) 400))]) (rest := []) ⟨hx, hb, hml, hown, hts⟩ (c_X0_run l dG A A cA H L P G V R N Y S wd (nI T) ft fl ce (nI h) mo (nI (lo (y >>> (12 &&& 31)) 400)) (oI_nI (lo := 0) (hi := 1000) (by omega) (by omega) (by omega))) (cwV 1 hts gL_law_X0_run rfl rfl rfl (by decide +kernel) ⟨Nat.le_of_ble_eq_true rfl, Nat.le_of_ble_eq_true rfl⟩) ⟨fun a9 U g mk q => ⟨q.1, wPre_calling g mk a9 q.2⟩, va_recv hK hPc (ci := 0) (q0 := 0) rfl rfl, fun U hU hW => ⟨rfl, wPre_of hK hPc hDc hU hW⟩⟩ rfl rfl hl.1 rfl (lv_room (Nat.le_of_ble_eq_true rfl)) dL_law_522 ⟨Nat.le_of_ble_eq_true rfl, Nat.le_of_ble_eq_true rfl⟩) hS (fun q _ h => hFc q h) hFc (fun r4 u4 t9 H locs ht hvm hw hB hz1 hk1 hS => ?_)
    obtain ⟨hr1, hu⟩ := hw
    subst hu
    have hr1 := hr1.symm
    subst hr1
    obtain ⟨hP1, hK1, hD1⟩ := hB
    rw [ht] at hP1
    obtain ⟨hP, hD⟩ := va_join (wr := (lW B cA L P G V Rp S Y)) (w1 := (xW A cA L P G V R N Y S wd (nI T) (nI (lo (y >>> (12 &&& 31)) 400)) fl ce (nI h) mo)) hP hD [0, 1, 2, 3, 4, 5, 6, 7, 8] [9, 10, 11, 12, 13, 14, 15] rfl rfl (by decide) (by decide) hk1 hFc hP1 hD1
    have hP : va_P dG vwCl ((xW A cA L P G V R N Y S wd (nI T) (nI (lo (y >>> (12 &&& 31)) 400)) fl ce (nI h) mo) ++ (lW B cA L P G V Rp S Y)) H := hP.sub [7, 8, 9, 10, 11, 12, 13, 14, 15, 0, 1, 2, 3, 4, 5, 6] rfl
    have hD : va_D (aNew s.heap) ((xW A cA L P G V R N Y S wd (nI T) (nI (lo (y >>> (12 &&& 31)) 400)) fl ce (nI h) mo) ++ (lW B cA L P G V Rp S Y)) := hD.sub [7, 8, 9, 10, 11, 12, 13, 14, 15, 0, 1, 2, 3, 4, 5, 6] (by decide) rfl
    refine lv_iload hx hb dL_law_525 (lv_at hl 0 rfl) ?_
    refine lv_iload hx hb dL_law_527 (lv_at hl 13 rfl) ?_
    refine lv_icmp_le (tgt := 536) hx hb dL_law_529 (by decide) (fun cq5 => ?_) (fun cq5 => ?_)
    · refine lv_iconst (v := 0) hx hb dL_law_536 (by decide) ?_
      refine lv_icmp_eq (tgt := 542) hx hb dL_law_537 (by decide) (fun _ => ?_) (fun h9 => absurd (if_pos cq5) h9)
      refine lv_iload hx hb dL_law_542 (lv_at hl 0 rfl) ?_
      refine lv_istore (lv' := [(11, .int (nI (lo (y >>> (12 &&& 31)) 400))), (21, .int (nI (lo (y >>> (12 &&& 31)) 400))), (0, .ref b), (1, .ref (A 0)), (2, .ref (B 0)), (3, .ref (B 1)), (4, .ref (B 2)), (5, .ref (B 3)), (6, .ref (B 4)), (7, .ref (B 5)), (8, .ref (B 6)), (9, .int wd), (10, .int (nI T)), (12, .int fl), (13, .int cl), (14, .int (nI h)), (15, .int mv), (16, .int (nI t)), (18, .int y)]) hx hb dL_law_544 hl (by decide) rfl (fun ls hl => ?_)
      refine lv_goto (tgt := 1051) hx hb dL_law_546 (by decide) ?_
      exact (k L P G V R N Y S Rp T h wd (nI (lo (y >>> (12 &&& 31)) 400)) fl ce cl mv mo (I.mono ht0)) H locs ls hP hD hS (lv_sub hl [2, 3, 4, 5, 6, 7, 8, 9, 10, 11, 12, 0, 13, 14, 15, 16, 17, 18] rfl)
    · refine lv_iconst (v := 1) hx hb dL_law_532 (by decide) ?_
      refine lv_goto (tgt := 537) hx hb dL_law_533 (by decide) ?_
      refine lv_icmp_eq (tgt := 542) hx hb dL_law_537 (by decide) (fun _ => ?_) (fun h9 => absurd (if_neg cq5) h9)
      refine lv_iload hx hb dL_law_542 (lv_at hl 0 rfl) ?_
      refine lv_istore (lv' := [(11, .int (nI (lo (y >>> (12 &&& 31)) 400))), (21, .int (nI (lo (y >>> (12 &&& 31)) 400))), (0, .ref b), (1, .ref (A 0)), (2, .ref (B 0)), (3, .ref (B 1)), (4, .ref (B 2)), (5, .ref (B 3)), (6, .ref (B 4)), (7, .ref (B 5)), (8, .ref (B 6)), (9, .int wd), (10, .int (nI T)), (12, .int fl), (13, .int cl), (14, .int (nI h)), (15, .int mv), (16, .int (nI t)), (18, .int y)]) hx hb dL_law_544 hl (by decide) rfl (fun ls hl => ?_)
      refine lv_goto (tgt := 1051) hx hb dL_law_546 (by decide) ?_
      exact (k L P G V R N Y S Rp T h wd (nI (lo (y >>> (12 &&& 31)) 400)) fl ce cl mv mo (I.mono ht0)) H locs ls hP hD hS (lv_sub hl [2, 3, 4, 5, 6, 7, 8, 9, 10, 11, 12, 0, 13, 14, 15, 16, 17, 18] rfl)
  · refine lv_iload hx hb dL_law_477 (lv_at hl 17 rfl) ?_
    refine lv_iconst (v := 2) hx hb dL_law_479 (by decide) ?_
    refine lv_ishr hx hb dL_law_480 ?_
    refine lv_sipush (v := 300) hx hb dL_law_481 (by decide) ?_
    refine va_calli (va_runS (As := [.int (y >>> (2 &&& 31)), .int 300]) (rest := []) ⟨hx, hb, hml, hown, hts⟩ (c_L_low l H (y >>> (2 &&& 31)) 300 300 rfl (by omega) (by omega)) (va_cwS 2 hts gL_law_L_low rfl rfl rfl (by decide +kernel) ⟨Nat.le_of_ble_eq_true rfl, Nat.le_of_ble_eq_true rfl⟩) ⟨fun a9 U g mk q => q, fun U hU hW => ⟨rfl, hU⟩⟩ rfl rfl hl.1 rfl (lv_room (Nat.le_of_ble_eq_true rfl)) dL_law_484 ⟨Nat.le_of_ble_eq_true rfl, Nat.le_of_ble_eq_true rfl⟩) hS (fun q _ h => h.elim) (fun q h => h.elim) (fun r6 u6 t9 H1 locs ht hvm hw hB hz1 hk1 hS => ?_)
    have e9 := hB.symm.trans ht
    subst e9
    subst hw
    have hlo6 := lo_lt (y >>> (2 &&& 31)) (k := 300) (by omega)
    refine lv_istore (lv' := [(21, .int (nI (lo (y >>> (2 &&& 31)) 300))), (0, .ref b), (1, .ref (A 0)), (2, .ref (B 0)), (3, .ref (B 1)), (4, .ref (B 2)), (5, .ref (B 3)), (6, .ref (B 4)), (7, .ref (B 5)), (8, .ref (B 6)), (9, .int wd), (10, .int (nI T)), (11, .int ft), (12, .int fl), (13, .int cl), (14, .int (nI h)), (15, .int mv), (16, .int (nI t)), (18, .int y)]) hx hb dL_law_487 hl (by decide) rfl (fun ls hl => ?_)
    refine lv_aload_n hx hb dL_law_489 rfl (lv_at hl 2 rfl) ?_
    refine lv_iload hx hb dL_law_490 (lv_at hl 0 rfl) ?_
    have hPc := hP.sub (ws' := (xW A cA L P G V R N Y S wd (nI T) ft fl ce (nI h) mo)) [0, 1, 2, 3, 4, 5, 6, 7, 8] rfl
    have hDc := hD.sub (ws' := (xW A cA L P G V R N Y S wd (nI T) ft fl ce (nI h) mo)) [0, 1, 2, 3, 4, 5, 6, 7, 8] (by decide) rfl
    have hFc := va_free (wc := (xW A cA L P G V R N Y S wd (nI T) ft fl ce (nI h) mo)) hD hS hA [0, 1, 2, 3, 4, 5, 6, 7, 8] rfl
    refine va_calli (va_runV (As := [.int (nI (lo (y >>> (2 &&& 31)) 300))]) (rest := []) ⟨hx, hb, hml, hown, hts⟩ (c_X0_limit l dG A A cA H L P G V R N Y S wd (nI T) ft fl ce (nI h) mo (nI (lo (y >>> (2 &&& 31)) 300)) (oI_nI (lo := 0) (hi := 1000) (by omega) (by omega) (by omega))) (cwV 1 hts gL_law_X0_limit rfl rfl rfl (by decide +kernel) ⟨Nat.le_of_ble_eq_true rfl, Nat.le_of_ble_eq_true rfl⟩) ⟨fun a9 U g mk q => ⟨q.1, wPre_calling g mk a9 q.2⟩, va_recv hK hPc (ci := 0) (q0 := 0) rfl rfl, fun U hU hW => ⟨rfl, wPre_of hK hPc hDc hU hW⟩⟩ rfl rfl hl.1 rfl (lv_room (Nat.le_of_ble_eq_true rfl)) dL_law_492 ⟨Nat.le_of_ble_eq_true rfl, Nat.le_of_ble_eq_true rfl⟩) hS (fun q _ h => hFc q h) hFc (fun r7 u7 t9 H locs ht hvm hw hB hz1 hk1 hS => ?_)
    obtain ⟨hr1, hu⟩ := hw
    subst hu
    have hr1 := hr1.symm
    subst hr1
    obtain ⟨hP1, hK1, hD1⟩ := hB
    rw [ht] at hP1
    obtain ⟨hP, hD⟩ := va_join (wr := (lW B cA L P G V Rp S Y)) (w1 := (xW A cA L P G V R N Y S wd (nI T) ft (nI (lo (y >>> (2 &&& 31)) 300)) ce (nI h) mo)) hP hD [0, 1, 2, 3, 4, 5, 6, 7, 8] [9, 10, 11, 12, 13, 14, 15] rfl rfl (by decide) (by decide) hk1 hFc hP1 hD1
    have hP : va_P dG vwCl ((xW A cA L P G V R N Y S wd (nI T) ft (nI (lo (y >>> (2 &&& 31)) 300)) ce (nI h) mo) ++ (lW B cA L P G V Rp S Y)) H := hP.sub [7, 8, 9, 10, 11, 12, 13, 14, 15, 0, 1, 2, 3, 4, 5, 6] rfl
    have hD : va_D (aNew s.heap) ((xW A cA L P G V R N Y S wd (nI T) ft (nI (lo (y >>> (2 &&& 31)) 300)) ce (nI h) mo) ++ (lW B cA L P G V Rp S Y)) := hD.sub [7, 8, 9, 10, 11, 12, 13, 14, 15, 0, 1, 2, 3, 4, 5, 6] (by decide) rfl
    refine lv_iload hx hb dL_law_495 (lv_at hl 13 rfl) ?_
    refine lv_icmp_eq (tgt := 502) hx hb dL_law_497 (by decide) (fun _ => ?_) (fun h9 => absurd rfl h9)
    refine lv_iload hx hb dL_law_502 (lv_at hl 0 rfl) ?_
    refine lv_istore (lv' := [(12, .int (nI (lo (y >>> (2 &&& 31)) 300))), (21, .int (nI (lo (y >>> (2 &&& 31)) 300))), (0, .ref b), (1, .ref (A 0)), (2, .ref (B 0)), (3, .ref (B 1)), (4, .ref (B 2)), (5, .ref (B 3)), (6, .ref (B 4)), (7, .ref (B 5)), (8, .ref (B 6)), (9, .int wd), (10, .int (nI T)), (11, .int ft), (13, .int cl), (14, .int (nI h)), (15, .int mv), (16, .int (nI t)), (18, .int y)]) hx hb dL_law_504 hl (by decide) rfl (fun ls hl => ?_)
    refine lv_iload hx hb dL_law_506 (lv_at hl 18 rfl) ?_
    refine lv_bipush (v := 12) hx hb dL_law_508 (by decide) ?_
    refine lv_ishr hx hb dL_law_510 ?_
    refine lv_sipush (v := 400) hx hb dL_law_511 (by decide) ?_
    refine va_calli (va_runS (As := [.int (y >>> (12 &&& 31)), .int 400]) (rest := []) ⟨hx, hb, hml, hown, hts⟩ (c_L_low l H (y >>> (12 &&& 31)) 400 400 rfl (by omega) (by omega)) (va_cwS 2 hts gL_law_L_low rfl rfl rfl (by decide +kernel) ⟨Nat.le_of_ble_eq_true rfl, Nat.le_of_ble_eq_true rfl⟩) ⟨fun a9 U g mk q => q, fun U hU hW => ⟨rfl, hU⟩⟩ rfl rfl hl.1 rfl (lv_room (Nat.le_of_ble_eq_true rfl)) dL_law_514 ⟨Nat.le_of_ble_eq_true rfl, Nat.le_of_ble_eq_true rfl⟩) hS (fun q _ h => h.elim) (fun q h => h.elim) (fun r8 u8 t9 H1 locs ht hvm hw hB hz1 hk1 hS => ?_)
    have e9 := hB.symm.trans ht
    subst e9
    subst hw
    have hlo8 := lo_lt (y >>> (12 &&& 31)) (k := 400) (by omega)
    refine lv_istore (lv' := [(21, .int (nI (lo (y >>> (12 &&& 31)) 400))), (12, .int (nI (lo (y >>> (2 &&& 31)) 300))), (0, .ref b), (1, .ref (A 0)), (2, .ref (B 0)), (3, .ref (B 1)), (4, .ref (B 2)), (5, .ref (B 3)), (6, .ref (B 4)), (7, .ref (B 5)), (8, .ref (B 6)), (9, .int wd), (10, .int (nI T)), (11, .int ft), (13, .int cl), (14, .int (nI h)), (15, .int mv), (16, .int (nI t)), (18, .int y)]) hx hb dL_law_517 hl (by decide) rfl (fun ls hl => ?_)
    refine lv_aload_n hx hb dL_law_519 rfl (lv_at hl 3 rfl) ?_
    refine lv_iload hx hb dL_law_520 (lv_at hl 0 rfl) ?_
    have hPc := hP.sub (ws' := (xW A cA L P G V R N Y S wd (nI T) ft (nI (lo (y >>> (2 &&& 31)) 300)) ce (nI h) mo)) [0, 1, 2, 3, 4, 5, 6, 7, 8] rfl
    have hDc := hD.sub (ws' := (xW A cA L P G V R N Y S wd (nI T) ft (nI (lo (y >>> (2 &&& 31)) 300)) ce (nI h) mo)) [0, 1, 2, 3, 4, 5, 6, 7, 8] (by decide) rfl
    have hFc := va_free (wc := (xW A cA L P G V R N Y S wd (nI T) ft (nI (lo (y >>> (2 &&& 31)) 300)) ce (nI h) mo)) hD hS hA [0, 1, 2, 3, 4, 5, 6, 7, 8] rfl
    refine va_calli (va_runV (As := [.int (nI (lo (y >>> (12 &&& 31)) 400))]) (rest := []) ⟨hx, hb, hml, hown, hts⟩ (c_X0_run l dG A A cA H L P G V R N Y S wd (nI T) ft (nI (lo (y >>> (2 &&& 31)) 300)) ce (nI h) mo (nI (lo (y >>> (12 &&& 31)) 400)) (oI_nI (lo := 0) (hi := 1000) (by omega) (by omega) (by omega))) (cwV 1 hts gL_law_X0_run rfl rfl rfl (by decide +kernel) ⟨Nat.le_of_ble_eq_true rfl, Nat.le_of_ble_eq_true rfl⟩) ⟨fun a9 U g mk q => ⟨q.1, wPre_calling g mk a9 q.2⟩, va_recv hK hPc (ci := 0) (q0 := 0) rfl rfl, fun U hU hW => ⟨rfl, wPre_of hK hPc hDc hU hW⟩⟩ rfl rfl hl.1 rfl (lv_room (Nat.le_of_ble_eq_true rfl)) dL_law_522 ⟨Nat.le_of_ble_eq_true rfl, Nat.le_of_ble_eq_true rfl⟩) hS (fun q _ h => hFc q h) hFc (fun r9 u9 t9 H locs ht hvm hw hB hz1 hk1 hS => ?_)
    obtain ⟨hr1, hu⟩ := hw
    subst hu
    have hr1 := hr1.symm
    subst hr1
    obtain ⟨hP1, hK1, hD1⟩ := hB
    rw [ht] at hP1
    obtain ⟨hP, hD⟩ := va_join (wr := (lW B cA L P G V Rp S Y)) (w1 := (xW A cA L P G V R N Y S wd (nI T) (nI (lo (y >>> (12 &&& 31)) 400)) (nI (lo (y >>> (2 &&& 31)) 300)) ce (nI h) mo)) hP hD [0, 1, 2, 3, 4, 5, 6, 7, 8] [9, 10, 11, 12, 13, 14, 15] rfl rfl (by decide) (by decide) hk1 hFc hP1 hD1
    have hP : va_P dG vwCl ((xW A cA L P G V R N Y S wd (nI T) (nI (lo (y >>> (12 &&& 31)) 400)) (nI (lo (y >>> (2 &&& 31)) 300)) ce (nI h) mo) ++ (lW B cA L P G V Rp S Y)) H := hP.sub [7, 8, 9, 10, 11, 12, 13, 14, 15, 0, 1, 2, 3, 4, 5, 6] rfl
    have hD : va_D (aNew s.heap) ((xW A cA L P G V R N Y S wd (nI T) (nI (lo (y >>> (12 &&& 31)) 400)) (nI (lo (y >>> (2 &&& 31)) 300)) ce (nI h) mo) ++ (lW B cA L P G V Rp S Y)) := hD.sub [7, 8, 9, 10, 11, 12, 13, 14, 15, 0, 1, 2, 3, 4, 5, 6] (by decide) rfl
    refine lv_iload hx hb dL_law_525 (lv_at hl 0 rfl) ?_
    refine lv_iload hx hb dL_law_527 (lv_at hl 1 rfl) ?_
    refine lv_icmp_le (tgt := 536) hx hb dL_law_529 (by decide) (fun cq10 => ?_) (fun cq10 => ?_)
    · refine lv_iconst (v := 0) hx hb dL_law_536 (by decide) ?_
      refine lv_icmp_eq (tgt := 542) hx hb dL_law_537 (by decide) (fun _ => ?_) (fun h9 => absurd (if_pos cq10) h9)
      refine lv_iload hx hb dL_law_542 (lv_at hl 0 rfl) ?_
      refine lv_istore (lv' := [(11, .int (nI (lo (y >>> (12 &&& 31)) 400))), (21, .int (nI (lo (y >>> (12 &&& 31)) 400))), (12, .int (nI (lo (y >>> (2 &&& 31)) 300))), (0, .ref b), (1, .ref (A 0)), (2, .ref (B 0)), (3, .ref (B 1)), (4, .ref (B 2)), (5, .ref (B 3)), (6, .ref (B 4)), (7, .ref (B 5)), (8, .ref (B 6)), (9, .int wd), (10, .int (nI T)), (13, .int cl), (14, .int (nI h)), (15, .int mv), (16, .int (nI t)), (18, .int y)]) hx hb dL_law_544 hl (by decide) rfl (fun ls hl => ?_)
      refine lv_goto (tgt := 1051) hx hb dL_law_546 (by decide) ?_
      exact (k L P G V R N Y S Rp T h wd (nI (lo (y >>> (12 &&& 31)) 400)) (nI (lo (y >>> (2 &&& 31)) 300)) ce cl mv mo (I.mono ht0)) H locs ls hP hD hS (lv_sub hl [3, 4, 5, 6, 7, 8, 9, 10, 11, 12, 13, 0, 2, 14, 15, 16, 17, 18] rfl)
    · refine lv_iconst (v := 1) hx hb dL_law_532 (by decide) ?_
      refine lv_goto (tgt := 537) hx hb dL_law_533 (by decide) ?_
      refine lv_icmp_eq (tgt := 542) hx hb dL_law_537 (by decide) (fun _ => ?_) (fun h9 => absurd (if_neg cq10) h9)
      refine lv_iload hx hb dL_law_542 (lv_at hl 0 rfl) ?_
      refine lv_istore (lv' := [(11, .int (nI (lo (y >>> (12 &&& 31)) 400))), (21, .int (nI (lo (y >>> (12 &&& 31)) 400))), (12, .int (nI (lo (y >>> (2 &&& 31)) 300))), (0, .ref b), (1, .ref (A 0)), (2, .ref (B 0)), (3, .ref (B 1)), (4, .ref (B 2)), (5, .ref (B 3)), (6, .ref (B 4)), (7, .ref (B 5)), (8, .ref (B 6)), (9, .int wd), (10, .int (nI T)), (13, .int cl), (14, .int (nI h)), (15, .int mv), (16, .int (nI t)), (18, .int y)]) hx hb dL_law_544 hl (by decide) rfl (fun ls hl => ?_)
      refine lv_goto (tgt := 1051) hx hb dL_law_546 (by decide) ?_
      exact (k L P G V R N Y S Rp T h wd (nI (lo (y >>> (12 &&& 31)) 400)) (nI (lo (y >>> (2 &&& 31)) 300)) ce cl mv mo (I.mono ht0)) H locs ls hP hD hS (lv_sub hl [3, 4, 5, 6, 7, 8, 9, 10, 11, 12, 13, 0, 2, 14, 15, 16, 17, 18] rfl)
set_option maxHeartbeats 1000000 in
set_option maxRecDepth 100000 in
theorem case_sell {p : Program} {l : Launch} {e : Env} {s : State} {m : MethodId} {below : List Frame} {meth : Method} {c : Code} {b Ln : Nat} {xs : Nat → Int32} {dG : va_G} {A B : Nat → Nat} {cA : ClassId} (C0 : lw_At p s m meth c b Ln xs) (hK : va_K dG vwCl (tyI cA) s) {L P G V R N Y S Rp : Nat → Int32} {T h t : Nat} {wd ft fl ce cl mv : Int32} {mo : UInt32} (ht0 : t < 60) (I : InvL L P G V R N Y S Rp T h t wd ce cl mv mo) {y : Int32} (k : lwHead p l e s m below meth c b dG A B cA 1051 t (t + 1) [(18, .int y)])  : lwP p l e s m below meth c b dG 563 ((xW A cA L P G V R N Y S wd (nI T) ft fl ce (nI h) mo) ++ (lW B cA L P G V Rp S Y)) (lV A B b wd (nI T) ft fl cl (nI h) mv (nI t) ++ [(18, .int y)]) := by
  obtain ⟨hx, hb, hr, hml, hown0, hts0, hX, hbl, hlocks, hgv⟩ := id C0
  have hown : s.vm.findClass RL = some m.cls := hown0
  have hts : ∀ w ∈ wsL_law, w.before #[Value.ref b] s = true := fun w h => hts0 w (wsL_law_in w h)
  have hA : ∀ q : Nat, s.heap.size ≤ q → aNew s.heap q := fun _ h => h
  have hbA : ¬ aNew s.heap b := Nat.not_le.mpr hbl
  have hT4 := I.T4
  have hh59 := I.h59
  intro H locs ls hP hD hS hl
  have hl : lv_has ls 27 ([(0, .ref b), (1, .ref (A 0)), (2, .ref (B 0)), (3, .ref (B 1)), (4, .ref (B 2)), (5, .ref (B 3)), (6, .ref (B 4)), (7, .ref (B 5)), (8, .ref (B 6)), (9, .int wd), (10, .int (nI T)), (11, .int ft), (12, .int fl), (13, .int cl), (14, .int (nI h)), (15, .int mv), (16, .int (nI t)), (18, .int y)]) := hl
  refine lv_iload hx hb dL_law_563 (lv_at hl 14 rfl) ?_
  refine lv_iload hx hb dL_law_565 (lv_at hl 17 rfl) ?_
  refine lv_bipush (v := 60) hx hb dL_law_567 (by decide) ?_
  refine lv_iload hx hb dL_law_569 (lv_at hl 14 rfl) ?_
  refine lv_isub hx hb dL_law_571 ?_
  refine lv_topi (fun v9 e9 => ?_)
  have e9 := e9.trans (nI_subN (a := 60) (b := h) (by omega))
  subst e9
  refine va_calli (va_runS (As := [.int y, .int (nI (60 - h))]) (rest := [.int (nI h)]) ⟨hx, hb, hml, hown, hts⟩ (c_L_low l H y (nI (60 - h)) (60 - h) rfl (by omega) (by omega)) (va_cwS 2 hts gL_law_L_low rfl rfl rfl (by decide +kernel) ⟨Nat.le_of_ble_eq_true rfl, Nat.le_of_ble_eq_true rfl⟩) ⟨fun a9 U g mk q => q, fun U hU hW => ⟨rfl, hU⟩⟩ rfl rfl hl.1 rfl (lv_room (Nat.le_of_ble_eq_true rfl)) dL_law_572 ⟨Nat.le_of_ble_eq_true rfl, Nat.le_of_ble_eq_true rfl⟩) hS (fun q _ h => h.elim) (fun q h => h.elim) (fun r1 u1 t9 H1 locs ht hvm hw hB hz1 hk1 hS => ?_)
  have e9 := hB.symm.trans ht
  subst e9
  subst hw
  have hlo1 := lo_lt y (k := 60 - h) (by omega)
  refine lv_iadd hx hb dL_law_575 ?_
  refine lv_topi (fun v9 e9 => ?_)
  have e9 := e9.trans (nI_add h (lo y (60 - h)))
  subst e9
  refine lv_istore (lv' := [(21, .int (nI (h + lo y (60 - h)))), (0, .ref b), (1, .ref (A 0)), (2, .ref (B 0)), (3, .ref (B 1)), (4, .ref (B 2)), (5, .ref (B 3)), (6, .ref (B 4)), (7, .ref (B 5)), (8, .ref (B 6)), (9, .int wd), (10, .int (nI T)), (11, .int ft), (12, .int fl), (13, .int cl), (14, .int (nI h)), (15, .int mv), (16, .int (nI t)), (18, .int y)]) hx hb dL_law_576 hl (by decide) rfl (fun ls hl => ?_)
  refine lv_iload hx hb dL_law_578 (lv_at hl 0 rfl) ?_
  refine lv_iload hx hb dL_law_580 (lv_at hl 15 rfl) ?_
  refine lv_bipush (v := 47) hx hb dL_law_582 (by decide) ?_
  refine lv_iadd hx hb dL_law_584 ?_
  refine lv_topi (fun v9 e9 => ?_)
  have e9 := e9.trans (nI_add h 47)
  subst e9
  refine lv_icmp_le (tgt := 596) hx hb dL_law_585 (by decide) (fun cq2 => ?_) (fun cq2 => ?_)
  · have hle := (nI_leI (by omega) (by omega)).mp cq2
    refine lv_iload hx hb dL_law_596 (lv_at hl 0 rfl) ?_
    refine lv_istore (lv' := [(21, .int (nI (h + lo y (60 - h)))), (0, .ref b), (1, .ref (A 0)), (2, .ref (B 0)), (3, .ref (B 1)), (4, .ref (B 2)), (5, .ref (B 3)), (6, .ref (B 4)), (7, .ref (B 5)), (8, .ref (B 6)), (9, .int wd), (10, .int (nI T)), (11, .int ft), (12, .int fl), (13, .int cl), (14, .int (nI h)), (15, .int mv), (16, .int (nI t)), (18, .int y)]) hx hb dL_law_598 hl (by decide) rfl (fun ls hl => ?_)
    refine lv_iconst (v := 1) hx hb dL_law_600 (by decide) ?_
    refine lv_iload hx hb dL_law_601 (lv_at hl 18 rfl) ?_
    refine lv_bipush (v := 6) hx hb dL_law_603 (by decide) ?_
    refine lv_ishr hx hb dL_law_605 ?_
    refine lv_bipush (v := 100) hx hb dL_law_606 (by decide) ?_
    refine va_calli (va_runS (As := [.int (y >>> (6 &&& 31)), .int 100]) (rest := [.int 1]) ⟨hx, hb, hml, hown, hts⟩ (c_L_low l H (y >>> (6 &&& 31)) 100 100 rfl (by omega) (by omega)) (va_cwS 2 hts gL_law_L_low rfl rfl rfl (by decide +kernel) ⟨Nat.le_of_ble_eq_true rfl, Nat.le_of_ble_eq_true rfl⟩) ⟨fun a9 U g mk q => q, fun U hU hW => ⟨rfl, hU⟩⟩ rfl rfl hl.1 rfl (lv_room (Nat.le_of_ble_eq_true rfl)) dL_law_608 ⟨Nat.le_of_ble_eq_true rfl, Nat.le_of_ble_eq_true rfl⟩) hS (fun q _ h => h.elim) (fun q h => h.elim) (fun r3 u3 t9 H1 locs ht hvm hw hB hz1 hk1 hS => ?_)
    have e9 := hB.symm.trans ht
    subst e9
    subst hw
    have hlo3 := lo_lt (y >>> (6 &&& 31)) (k := 100) (by omega)
    refine lv_iadd hx hb dL_law_611 ?_
    refine lv_topi (fun v9 e9 => ?_)
    have e9 := e9.trans (nI_add 1 _)
    subst e9
    refine lv_istore (lv' := [(22, .int (nI (1 + lo (y >>> (6 &&& 31)) 100))), (21, .int (nI (h + lo y (60 - h)))), (0, .ref b), (1, .ref (A 0)), (2, .ref (B 0)), (3, .ref (B 1)), (4, .ref (B 2)), (5, .ref (B 3)), (6, .ref (B 4)), (7, .ref (B 5)), (8, .ref (B 6)), (9, .int wd), (10, .int (nI T)), (11, .int ft), (12, .int fl), (13, .int cl), (14, .int (nI h)), (15, .int mv), (16, .int (nI t)), (18, .int y)]) hx hb dL_law_612 hl (by decide) rfl (fun ls hl => ?_)
    refine lv_iconst (v := 1) hx hb dL_law_614 (by decide) ?_
    refine lv_iload hx hb dL_law_615 (lv_at hl 19 rfl) ?_
    refine lv_bipush (v := 14) hx hb dL_law_617 (by decide) ?_
    refine lv_ishr hx hb dL_law_619 ?_
    refine lv_bipush (v := 20) hx hb dL_law_620 (by decide) ?_
    refine va_calli (va_runS (As := [.int (y >>> (14 &&& 31)), .int 20]) (rest := [.int 1]) ⟨hx, hb, hml, hown, hts⟩ (c_L_low l H (y >>> (14 &&& 31)) 20 20 rfl (by omega) (by omega)) (va_cwS 2 hts gL_law_L_low rfl rfl rfl (by decide +kernel) ⟨Nat.le_of_ble_eq_true rfl, Nat.le_of_ble_eq_true rfl⟩) ⟨fun a9 U g mk q => q, fun U hU hW => ⟨rfl, hU⟩⟩ rfl rfl hl.1 rfl (lv_room (Nat.le_of_ble_eq_true rfl)) dL_law_622 ⟨Nat.le_of_ble_eq_true rfl, Nat.le_of_ble_eq_true rfl⟩) hS (fun q _ h => h.elim) (fun q h => h.elim) (fun r4 u4 t9 H1 locs ht hvm hw hB hz1 hk1 hS => ?_)
    have e9 := hB.symm.trans ht
    subst e9
    subst hw
    have hlo4 := lo_lt (y >>> (14 &&& 31)) (k := 20) (by omega)
    refine lv_iadd hx hb dL_law_625 ?_
    refine lv_topi (fun v9 e9 => ?_)
    have e9 := e9.trans (nI_add 1 _)
    subst e9
    refine lv_istore (lv' := [(23, .int (nI (1 + lo (y >>> (14 &&& 31)) 20))), (22, .int (nI (1 + lo (y >>> (6 &&& 31)) 100))), (21, .int (nI (h + lo y (60 - h)))), (0, .ref b), (1, .ref (A 0)), (2, .ref (B 0)), (3, .ref (B 1)), (4, .ref (B 2)), (5, .ref (B 3)), (6, .ref (B 4)), (7, .ref (B 5)), (8, .ref (B 6)), (9, .int wd), (10, .int (nI T)), (11, .int ft), (12, .int fl), (13, .int cl), (14, .int (nI h)), (15, .int mv), (16, .int (nI t)), (18, .int y)]) hx hb dL_law_626 hl (by decide) rfl (fun ls hl => ?_)
    refine lv_aload hx hb dL_law_628 (lv_at hl 10 rfl) ?_
    refine lv_iload hx hb dL_law_630 (lv_at hl 2 rfl) ?_
    refine va_iald hx hb hK hP 14 0 rfl rfl (vp_in_nI (by omega) (by omega)) dL_law_632 ?_
    refine lv_topi (fun v9 e9 => ?_)
    rw [nI_clamp (n := h + lo y (60 - h)) (by omega)] at e9
    subst e9
    refine lv_iload hx hb dL_law_633 (lv_at hl 1 rfl) ?_
    refine lv_iadd hx hb dL_law_635 ?_
    refine lv_sipush (v := 1000) hx hb dL_law_636 (by decide) ?_
    refine lv_icmp_gt (tgt := 684) hx hb dL_law_639 (by decide) (fun cq5 => ?_) (fun cq5 => ?_)
    · refine lv_goto (tgt := 1051) hx hb dL_law_684 (by decide) ?_
      exact (k L P G V R N Y S Rp T h wd ft fl ce cl mv mo (I.mono ht0)) H locs ls hP hD hS (lv_sub hl [3, 4, 5, 6, 7, 8, 9, 10, 11, 12, 13, 14, 15, 16, 17, 18, 19, 20] rfl)
    · refine lv_aload hx hb dL_law_642 (lv_at hl 10 rfl) ?_
      refine lv_iload hx hb dL_law_644 (lv_at hl 2 rfl) ?_
      refine lv_dup2_11 hx hb dL_law_646 rfl rfl ?_
      refine va_iald hx hb hK hP 14 0 rfl rfl (vp_in_nI (by omega) (by omega)) dL_law_647 ?_
      refine lv_topi (fun v9 e9 => ?_)
      rw [nI_clamp (n := h + lo y (60 - h)) (by omega)] at e9
      subst e9
      refine lv_iload hx hb dL_law_648 (lv_at hl 1 rfl) ?_
      refine lv_iadd hx hb dL_law_650 ?_
      refine va_iast hx hb hK hP hD hS 14 0 rfl rfl (vp_in_nI (by omega) (by omega)) dL_law_651 (fun H locs hP hD hS => ?_)
      rw [nI_clamp (n := h + lo y (60 - h)) (by omega)] at hP hD
      have hP : va_P dG vwCl ((xW A cA L P G V R N Y S wd (nI T) ft fl ce (nI h) mo) ++ (lW B cA L P G V Rp (upd S (h + lo y (60 - h)) ((S (h + lo y (60 - h))) + (nI (1 + lo (y >>> (6 &&& 31)) 100)))) Y)) H := hP
      have hD : va_D (aNew s.heap) ((xW A cA L P G V R N Y S wd (nI T) ft fl ce (nI h) mo) ++ (lW B cA L P G V Rp (upd S (h + lo y (60 - h)) ((S (h + lo y (60 - h))) + (nI (1 + lo (y >>> (6 &&& 31)) 100)))) Y)) := hD
      refine lv_aload_n hx hb dL_law_652 rfl (lv_at hl 4 rfl) ?_
      refine lv_iload hx hb dL_law_653 (lv_at hl 2 rfl) ?_
      refine lv_iload hx hb dL_law_655 (lv_at hl 1 rfl) ?_
      refine lv_iload hx hb dL_law_657 (lv_at hl 0 rfl) ?_
      have hPc := hP.sub (ws' := (xW A cA L P G V R N Y S wd (nI T) ft fl ce (nI h) mo)) [0, 1, 2, 3, 4, 5, 6, 7, 8] rfl
      have hDc := hD.sub (ws' := (xW A cA L P G V R N Y S wd (nI T) ft fl ce (nI h) mo)) [0, 1, 2, 3, 4, 5, 6, 7, 8] (by decide) rfl
      have hFc := va_free (wc := (xW A cA L P G V R N Y S wd (nI T) ft fl ce (nI h) mo)) hD hS hA [0, 1, 2, 3, 4, 5, 6, 7, 8] rfl
      refine va_calli (va_runV (As := [.int (nI (h + lo y (60 - h))), .int (nI (1 + lo (y >>> (6 &&& 31)) 100)), .int (nI (1 + lo (y >>> (14 &&& 31)) 20))]) (rest := []) ⟨hx, hb, hml, hown, hts⟩ (c_X0_sell l dG A A cA H L P G V R N Y S wd (nI T) ft fl ce (nI h) mo (nI (h + lo y (60 - h))) (nI (1 + lo (y >>> (6 &&& 31)) 100)) (nI (1 + lo (y >>> (14 &&& 31)) 20)) (nIb (by omega) (b := 500) (by omega)) (oI_47 (by omega) (by omega) (by omega)) (oI_nI (lo := 1) (hi := 500) (by omega) (by omega) (by omega)) (oI_nI (lo := 1) (hi := 200) (by omega) (by omega) (by omega)) (by rw [nI_clamp (by omega)]; exact (Int32.not_lt.mp cq5)) (nn_mul _ _) (nn_add I.fin (mul_fin _ _))) (cwV 3 hts gL_law_X0_sell rfl rfl rfl (by decide +kernel) ⟨Nat.le_of_ble_eq_true rfl, Nat.le_of_ble_eq_true rfl⟩) ⟨fun a9 U g mk q => ⟨q.1, wPre_calling g mk a9 q.2⟩, va_recv hK hPc (ci := 0) (q0 := 0) rfl rfl, fun U hU hW => ⟨rfl, wPre_of hK hPc hDc hU hW⟩⟩ rfl rfl hl.1 rfl (lv_room (Nat.le_of_ble_eq_true rfl)) dL_law_659 ⟨Nat.le_of_ble_eq_true rfl, Nat.le_of_ble_eq_true rfl⟩) hS (fun q _ h => hFc q h) hFc (fun r6 u6 t9 H locs ht hvm hw hB hz1 hk1 hS => ?_)
      rw [nI_clamp (n := h + lo y (60 - h)) (by omega)] at hw
      obtain ⟨hr1, hu⟩ := hw
      subst hu
      have hr1 := hr1.symm
      subst hr1
      obtain ⟨hP1, hK1, hD1⟩ := hB
      rw [ht] at hP1
      obtain ⟨hP, hD⟩ := va_join (wr := (lW B cA L P G V Rp (upd S (h + lo y (60 - h)) ((S (h + lo y (60 - h))) + (nI (1 + lo (y >>> (6 &&& 31)) 100)))) Y)) (w1 := (xW A cA L P G V R N Y (upd S (h + lo y (60 - h)) (S (h + lo y (60 - h)) + (nI (1 + lo (y >>> (6 &&& 31)) 100)))) wd (nI T) ft fl ce (nI h) (FP.fadd mo (fWorth (nI (1 + lo (y >>> (6 &&& 31)) 100)) (nI (1 + lo (y >>> (14 &&& 31)) 20)))))) hP hD [0, 1, 2, 3, 4, 5, 6, 7, 8] [9, 10, 11, 12, 13, 14, 15] rfl rfl (by decide) (by decide) hk1 hFc hP1 hD1
      have hP : va_P dG vwCl ((xW A cA L P G V R N Y (upd S (h + lo y (60 - h)) (S (h + lo y (60 - h)) + (nI (1 + lo (y >>> (6 &&& 31)) 100)))) wd (nI T) ft fl ce (nI h) (FP.fadd mo (fWorth (nI (1 + lo (y >>> (6 &&& 31)) 100)) (nI (1 + lo (y >>> (14 &&& 31)) 20))))) ++ (lW B cA L P G V Rp (upd S (h + lo y (60 - h)) ((S (h + lo y (60 - h))) + (nI (1 + lo (y >>> (6 &&& 31)) 100)))) Y)) H := hP.sub [7, 8, 9, 10, 11, 12, 13, 14, 15, 0, 1, 2, 3, 4, 5, 6] rfl
      have hD : va_D (aNew s.heap) ((xW A cA L P G V R N Y (upd S (h + lo y (60 - h)) (S (h + lo y (60 - h)) + (nI (1 + lo (y >>> (6 &&& 31)) 100)))) wd (nI T) ft fl ce (nI h) (FP.fadd mo (fWorth (nI (1 + lo (y >>> (6 &&& 31)) 100)) (nI (1 + lo (y >>> (14 &&& 31)) 20))))) ++ (lW B cA L P G V Rp (upd S (h + lo y (60 - h)) ((S (h + lo y (60 - h))) + (nI (1 + lo (y >>> (6 &&& 31)) 100)))) Y)) := hD.sub [7, 8, 9, 10, 11, 12, 13, 14, 15, 0, 1, 2, 3, 4, 5, 6] (by decide) rfl
      refine lv_aload hx hb dL_law_662 (lv_at hl 10 rfl) ?_
      refine lv_iload hx hb dL_law_664 (lv_at hl 2 rfl) ?_
      refine va_iald hx hb hK hP 14 0 rfl rfl (vp_in_nI (by omega) (by omega)) dL_law_666 ?_
      refine lv_topi (fun v9 e9 => ?_)
      rw [nI_clamp (n := h + lo y (60 - h)) (by omega)] at e9
      subst e9
      refine lv_icmp_eq (tgt := 672) hx hb dL_law_667 (by decide) (fun _ => ?_) (fun h9 => absurd (by rw [upd_at, if_pos rfl]) h9)
      refine lv_iload hx hb dL_law_672 (lv_at hl 18 rfl) ?_
      refine lv_iconst (v := 2) hx hb dL_law_674 (by decide) ?_
      refine lv_iload hx hb dL_law_675 (lv_at hl 1 rfl) ?_
      refine lv_imul hx hb dL_law_677 ?_
      refine lv_iload hx hb dL_law_678 (lv_at hl 0 rfl) ?_
      refine lv_imul hx hb dL_law_680 ?_
      refine lv_iadd hx hb dL_law_681 ?_
      refine lv_istore (lv' := [(15, .int (mv + (((2 : Int32) * (nI (1 + lo (y >>> (6 &&& 31)) 100))) * (nI (1 + lo (y >>> (14 &&& 31)) 20))))), (23, .int (nI (1 + lo (y >>> (14 &&& 31)) 20))), (22, .int (nI (1 + lo (y >>> (6 &&& 31)) 100))), (21, .int (nI (h + lo y (60 - h)))), (0, .ref b), (1, .ref (A 0)), (2, .ref (B 0)), (3, .ref (B 1)), (4, .ref (B 2)), (5, .ref (B 3)), (6, .ref (B 4)), (7, .ref (B 5)), (8, .ref (B 6)), (9, .int wd), (10, .int (nI T)), (11, .int ft), (12, .int fl), (13, .int cl), (14, .int (nI h)), (16, .int (nI t)), (18, .int y)]) hx hb dL_law_682 hl (by decide) rfl (fun ls hl => ?_)
      refine lv_goto (tgt := 1051) hx hb dL_law_684 (by decide) ?_
      exact (k L P G V R N Y (upd S (h + lo y (60 - h)) (S (h + lo y (60 - h)) + (nI (1 + lo (y >>> (6 &&& 31)) 100)))) Rp T h wd ft fl ce cl (mv + (((2 : Int32) * (nI (1 + lo (y >>> (6 &&& 31)) 100))) * (nI (1 + lo (y >>> (14 &&& 31)) 20)))) (FP.fadd mo (fWorth (nI (1 + lo (y >>> (6 &&& 31)) 100)) (nI (1 + lo (y >>> (14 &&& 31)) 20)))) (InvL_sell I ht0 (n := h + lo y (60 - h)) (u := 1 + lo (y >>> (6 &&& 31)) 100) (q := 1 + lo (y >>> (14 &&& 31)) 20) (oI_47 (by omega) (by omega) (by omega)) (by omega) (by omega) (by omega) (Int32.not_lt.mp cq5))) H locs ls hP hD hS (lv_sub hl [4, 5, 6, 7, 8, 9, 10, 11, 12, 13, 14, 15, 16, 17, 18, 0, 19, 20] rfl)
  · have hgt := Nat.not_le.mp (fun w9 => cq2 (nI_le w9 (by omega)))
    refine lv_iload hx hb dL_law_588 (lv_at hl 15 rfl) ?_
    refine lv_bipush (v := 47) hx hb dL_law_590 (by decide) ?_
    refine lv_iadd hx hb dL_law_592 ?_
    refine lv_topi (fun v9 e9 => ?_)
    have e9 := e9.trans (nI_add h 47)
    subst e9
    refine lv_goto (tgt := 598) hx hb dL_law_593 (by decide) ?_
    refine lv_istore (lv' := [(21, .int (nI (h + 47))), (0, .ref b), (1, .ref (A 0)), (2, .ref (B 0)), (3, .ref (B 1)), (4, .ref (B 2)), (5, .ref (B 3)), (6, .ref (B 4)), (7, .ref (B 5)), (8, .ref (B 6)), (9, .int wd), (10, .int (nI T)), (11, .int ft), (12, .int fl), (13, .int cl), (14, .int (nI h)), (15, .int mv), (16, .int (nI t)), (18, .int y)]) hx hb dL_law_598 hl (by decide) rfl (fun ls hl => ?_)
    refine lv_iconst (v := 1) hx hb dL_law_600 (by decide) ?_
    refine lv_iload hx hb dL_law_601 (lv_at hl 18 rfl) ?_
    refine lv_bipush (v := 6) hx hb dL_law_603 (by decide) ?_
    refine lv_ishr hx hb dL_law_605 ?_
    refine lv_bipush (v := 100) hx hb dL_law_606 (by decide) ?_
    refine va_calli (va_runS (As := [.int (y >>> (6 &&& 31)), .int 100]) (rest := [.int 1]) ⟨hx, hb, hml, hown, hts⟩ (c_L_low l H (y >>> (6 &&& 31)) 100 100 rfl (by omega) (by omega)) (va_cwS 2 hts gL_law_L_low rfl rfl rfl (by decide +kernel) ⟨Nat.le_of_ble_eq_true rfl, Nat.le_of_ble_eq_true rfl⟩) ⟨fun a9 U g mk q => q, fun U hU hW => ⟨rfl, hU⟩⟩ rfl rfl hl.1 rfl (lv_room (Nat.le_of_ble_eq_true rfl)) dL_law_608 ⟨Nat.le_of_ble_eq_true rfl, Nat.le_of_ble_eq_true rfl⟩) hS (fun q _ h => h.elim) (fun q h => h.elim) (fun r7 u7 t9 H1 locs ht hvm hw hB hz1 hk1 hS => ?_)
    have e9 := hB.symm.trans ht
    subst e9
    subst hw
    have hlo7 := lo_lt (y >>> (6 &&& 31)) (k := 100) (by omega)
    refine lv_iadd hx hb dL_law_611 ?_
    refine lv_topi (fun v9 e9 => ?_)
    have e9 := e9.trans (nI_add 1 _)
    subst e9
    refine lv_istore (lv' := [(22, .int (nI (1 + lo (y >>> (6 &&& 31)) 100))), (21, .int (nI (h + 47))), (0, .ref b), (1, .ref (A 0)), (2, .ref (B 0)), (3, .ref (B 1)), (4, .ref (B 2)), (5, .ref (B 3)), (6, .ref (B 4)), (7, .ref (B 5)), (8, .ref (B 6)), (9, .int wd), (10, .int (nI T)), (11, .int ft), (12, .int fl), (13, .int cl), (14, .int (nI h)), (15, .int mv), (16, .int (nI t)), (18, .int y)]) hx hb dL_law_612 hl (by decide) rfl (fun ls hl => ?_)
    refine lv_iconst (v := 1) hx hb dL_law_614 (by decide) ?_
    refine lv_iload hx hb dL_law_615 (lv_at hl 19 rfl) ?_
    refine lv_bipush (v := 14) hx hb dL_law_617 (by decide) ?_
    refine lv_ishr hx hb dL_law_619 ?_
    refine lv_bipush (v := 20) hx hb dL_law_620 (by decide) ?_
    refine va_calli (va_runS (As := [.int (y >>> (14 &&& 31)), .int 20]) (rest := [.int 1]) ⟨hx, hb, hml, hown, hts⟩ (c_L_low l H (y >>> (14 &&& 31)) 20 20 rfl (by omega) (by omega)) (va_cwS 2 hts gL_law_L_low rfl rfl rfl (by decide +kernel) ⟨Nat.le_of_ble_eq_true rfl, Nat.le_of_ble_eq_true rfl⟩) ⟨fun a9 U g mk q => q, fun U hU hW => ⟨rfl, hU⟩⟩ rfl rfl hl.1 rfl (lv_room (Nat.le_of_ble_eq_true rfl)) dL_law_622 ⟨Nat.le_of_ble_eq_true rfl, Nat.le_of_ble_eq_true rfl⟩) hS (fun q _ h => h.elim) (fun q h => h.elim) (fun r8 u8 t9 H1 locs ht hvm hw hB hz1 hk1 hS => ?_)
    have e9 := hB.symm.trans ht
    subst e9
    subst hw
    have hlo8 := lo_lt (y >>> (14 &&& 31)) (k := 20) (by omega)
    refine lv_iadd hx hb dL_law_625 ?_
    refine lv_topi (fun v9 e9 => ?_)
    have e9 := e9.trans (nI_add 1 _)
    subst e9
    refine lv_istore (lv' := [(23, .int (nI (1 + lo (y >>> (14 &&& 31)) 20))), (22, .int (nI (1 + lo (y >>> (6 &&& 31)) 100))), (21, .int (nI (h + 47))), (0, .ref b), (1, .ref (A 0)), (2, .ref (B 0)), (3, .ref (B 1)), (4, .ref (B 2)), (5, .ref (B 3)), (6, .ref (B 4)), (7, .ref (B 5)), (8, .ref (B 6)), (9, .int wd), (10, .int (nI T)), (11, .int ft), (12, .int fl), (13, .int cl), (14, .int (nI h)), (15, .int mv), (16, .int (nI t)), (18, .int y)]) hx hb dL_law_626 hl (by decide) rfl (fun ls hl => ?_)
    refine lv_aload hx hb dL_law_628 (lv_at hl 10 rfl) ?_
    refine lv_iload hx hb dL_law_630 (lv_at hl 2 rfl) ?_
    refine va_iald hx hb hK hP 14 0 rfl rfl (vp_in_nI (by omega) (by omega)) dL_law_632 ?_
    refine lv_topi (fun v9 e9 => ?_)
    rw [nI_clamp (n := h + 47) (by omega)] at e9
    subst e9
    refine lv_iload hx hb dL_law_633 (lv_at hl 1 rfl) ?_
    refine lv_iadd hx hb dL_law_635 ?_
    refine lv_sipush (v := 1000) hx hb dL_law_636 (by decide) ?_
    refine lv_icmp_gt (tgt := 684) hx hb dL_law_639 (by decide) (fun cq9 => ?_) (fun cq9 => ?_)
    · refine lv_goto (tgt := 1051) hx hb dL_law_684 (by decide) ?_
      exact (k L P G V R N Y S Rp T h wd ft fl ce cl mv mo (I.mono ht0)) H locs ls hP hD hS (lv_sub hl [3, 4, 5, 6, 7, 8, 9, 10, 11, 12, 13, 14, 15, 16, 17, 18, 19, 20] rfl)
    · refine lv_aload hx hb dL_law_642 (lv_at hl 10 rfl) ?_
      refine lv_iload hx hb dL_law_644 (lv_at hl 2 rfl) ?_
      refine lv_dup2_11 hx hb dL_law_646 rfl rfl ?_
      refine va_iald hx hb hK hP 14 0 rfl rfl (vp_in_nI (by omega) (by omega)) dL_law_647 ?_
      refine lv_topi (fun v9 e9 => ?_)
      rw [nI_clamp (n := h + 47) (by omega)] at e9
      subst e9
      refine lv_iload hx hb dL_law_648 (lv_at hl 1 rfl) ?_
      refine lv_iadd hx hb dL_law_650 ?_
      refine va_iast hx hb hK hP hD hS 14 0 rfl rfl (vp_in_nI (by omega) (by omega)) dL_law_651 (fun H locs hP hD hS => ?_)
      rw [nI_clamp (n := h + 47) (by omega)] at hP hD
      have hP : va_P dG vwCl ((xW A cA L P G V R N Y S wd (nI T) ft fl ce (nI h) mo) ++ (lW B cA L P G V Rp (upd S (h + 47) ((S (h + 47)) + (nI (1 + lo (y >>> (6 &&& 31)) 100)))) Y)) H := hP
      have hD : va_D (aNew s.heap) ((xW A cA L P G V R N Y S wd (nI T) ft fl ce (nI h) mo) ++ (lW B cA L P G V Rp (upd S (h + 47) ((S (h + 47)) + (nI (1 + lo (y >>> (6 &&& 31)) 100)))) Y)) := hD
      refine lv_aload_n hx hb dL_law_652 rfl (lv_at hl 4 rfl) ?_
      refine lv_iload hx hb dL_law_653 (lv_at hl 2 rfl) ?_
      refine lv_iload hx hb dL_law_655 (lv_at hl 1 rfl) ?_
      refine lv_iload hx hb dL_law_657 (lv_at hl 0 rfl) ?_
      have hPc := hP.sub (ws' := (xW A cA L P G V R N Y S wd (nI T) ft fl ce (nI h) mo)) [0, 1, 2, 3, 4, 5, 6, 7, 8] rfl
      have hDc := hD.sub (ws' := (xW A cA L P G V R N Y S wd (nI T) ft fl ce (nI h) mo)) [0, 1, 2, 3, 4, 5, 6, 7, 8] (by decide) rfl
      have hFc := va_free (wc := (xW A cA L P G V R N Y S wd (nI T) ft fl ce (nI h) mo)) hD hS hA [0, 1, 2, 3, 4, 5, 6, 7, 8] rfl
      refine va_calli (va_runV (As := [.int (nI (h + 47)), .int (nI (1 + lo (y >>> (6 &&& 31)) 100)), .int (nI (1 + lo (y >>> (14 &&& 31)) 20))]) (rest := []) ⟨hx, hb, hml, hown, hts⟩ (c_X0_sell l dG A A cA H L P G V R N Y S wd (nI T) ft fl ce (nI h) mo (nI (h + 47)) (nI (1 + lo (y >>> (6 &&& 31)) 100)) (nI (1 + lo (y >>> (14 &&& 31)) 20)) (nIb (by omega) (b := 500) (by omega)) (oI_47 (by omega) (by omega) (by omega)) (oI_nI (lo := 1) (hi := 500) (by omega) (by omega) (by omega)) (oI_nI (lo := 1) (hi := 200) (by omega) (by omega) (by omega)) (by rw [nI_clamp (by omega)]; exact (Int32.not_lt.mp cq9)) (nn_mul _ _) (nn_add I.fin (mul_fin _ _))) (cwV 3 hts gL_law_X0_sell rfl rfl rfl (by decide +kernel) ⟨Nat.le_of_ble_eq_true rfl, Nat.le_of_ble_eq_true rfl⟩) ⟨fun a9 U g mk q => ⟨q.1, wPre_calling g mk a9 q.2⟩, va_recv hK hPc (ci := 0) (q0 := 0) rfl rfl, fun U hU hW => ⟨rfl, wPre_of hK hPc hDc hU hW⟩⟩ rfl rfl hl.1 rfl (lv_room (Nat.le_of_ble_eq_true rfl)) dL_law_659 ⟨Nat.le_of_ble_eq_true rfl, Nat.le_of_ble_eq_true rfl⟩) hS (fun q _ h => hFc q h) hFc (fun r10 u10 t9 H locs ht hvm hw hB hz1 hk1 hS => ?_)
      rw [nI_clamp (n := h + 47) (by omega)] at hw
      obtain ⟨hr1, hu⟩ := hw
      subst hu
      have hr1 := hr1.symm
      subst hr1
      obtain ⟨hP1, hK1, hD1⟩ := hB
      rw [ht] at hP1
      obtain ⟨hP, hD⟩ := va_join (wr := (lW B cA L P G V Rp (upd S (h + 47) ((S (h + 47)) + (nI (1 + lo (y >>> (6 &&& 31)) 100)))) Y)) (w1 := (xW A cA L P G V R N Y (upd S (h + 47) (S (h + 47) + (nI (1 + lo (y >>> (6 &&& 31)) 100)))) wd (nI T) ft fl ce (nI h) (FP.fadd mo (fWorth (nI (1 + lo (y >>> (6 &&& 31)) 100)) (nI (1 + lo (y >>> (14 &&& 31)) 20)))))) hP hD [0, 1, 2, 3, 4, 5, 6, 7, 8] [9, 10, 11, 12, 13, 14, 15] rfl rfl (by decide) (by decide) hk1 hFc hP1 hD1
      have hP : va_P dG vwCl ((xW A cA L P G V R N Y (upd S (h + 47) (S (h + 47) + (nI (1 + lo (y >>> (6 &&& 31)) 100)))) wd (nI T) ft fl ce (nI h) (FP.fadd mo (fWorth (nI (1 + lo (y >>> (6 &&& 31)) 100)) (nI (1 + lo (y >>> (14 &&& 31)) 20))))) ++ (lW B cA L P G V Rp (upd S (h + 47) ((S (h + 47)) + (nI (1 + lo (y >>> (6 &&& 31)) 100)))) Y)) H := hP.sub [7, 8, 9, 10, 11, 12, 13, 14, 15, 0, 1, 2, 3, 4, 5, 6] rfl
      have hD : va_D (aNew s.heap) ((xW A cA L P G V R N Y (upd S (h + 47) (S (h + 47) + (nI (1 + lo (y >>> (6 &&& 31)) 100)))) wd (nI T) ft fl ce (nI h) (FP.fadd mo (fWorth (nI (1 + lo (y >>> (6 &&& 31)) 100)) (nI (1 + lo (y >>> (14 &&& 31)) 20))))) ++ (lW B cA L P G V Rp (upd S (h + 47) ((S (h + 47)) + (nI (1 + lo (y >>> (6 &&& 31)) 100)))) Y)) := hD.sub [7, 8, 9, 10, 11, 12, 13, 14, 15, 0, 1, 2, 3, 4, 5, 6] (by decide) rfl
      refine lv_aload hx hb dL_law_662 (lv_at hl 10 rfl) ?_
      refine lv_iload hx hb dL_law_664 (lv_at hl 2 rfl) ?_
      refine va_iald hx hb hK hP 14 0 rfl rfl (vp_in_nI (by omega) (by omega)) dL_law_666 ?_
      refine lv_topi (fun v9 e9 => ?_)
      rw [nI_clamp (n := h + 47) (by omega)] at e9
      subst e9
      refine lv_icmp_eq (tgt := 672) hx hb dL_law_667 (by decide) (fun _ => ?_) (fun h9 => absurd (by rw [upd_at, if_pos rfl]) h9)
      refine lv_iload hx hb dL_law_672 (lv_at hl 18 rfl) ?_
      refine lv_iconst (v := 2) hx hb dL_law_674 (by decide) ?_
      refine lv_iload hx hb dL_law_675 (lv_at hl 1 rfl) ?_
      refine lv_imul hx hb dL_law_677 ?_
      refine lv_iload hx hb dL_law_678 (lv_at hl 0 rfl) ?_
      refine lv_imul hx hb dL_law_680 ?_
      refine lv_iadd hx hb dL_law_681 ?_
      refine lv_istore (lv' := [(15, .int (mv + (((2 : Int32) * (nI (1 + lo (y >>> (6 &&& 31)) 100))) * (nI (1 + lo (y >>> (14 &&& 31)) 20))))), (23, .int (nI (1 + lo (y >>> (14 &&& 31)) 20))), (22, .int (nI (1 + lo (y >>> (6 &&& 31)) 100))), (21, .int (nI (h + 47))), (0, .ref b), (1, .ref (A 0)), (2, .ref (B 0)), (3, .ref (B 1)), (4, .ref (B 2)), (5, .ref (B 3)), (6, .ref (B 4)), (7, .ref (B 5)), (8, .ref (B 6)), (9, .int wd), (10, .int (nI T)), (11, .int ft), (12, .int fl), (13, .int cl), (14, .int (nI h)), (16, .int (nI t)), (18, .int y)]) hx hb dL_law_682 hl (by decide) rfl (fun ls hl => ?_)
      refine lv_goto (tgt := 1051) hx hb dL_law_684 (by decide) ?_
      exact (k L P G V R N Y (upd S (h + 47) (S (h + 47) + (nI (1 + lo (y >>> (6 &&& 31)) 100)))) Rp T h wd ft fl ce cl (mv + (((2 : Int32) * (nI (1 + lo (y >>> (6 &&& 31)) 100))) * (nI (1 + lo (y >>> (14 &&& 31)) 20)))) (FP.fadd mo (fWorth (nI (1 + lo (y >>> (6 &&& 31)) 100)) (nI (1 + lo (y >>> (14 &&& 31)) 20)))) (InvL_sell I ht0 (n := h + 47) (u := 1 + lo (y >>> (6 &&& 31)) 100) (q := 1 + lo (y >>> (14 &&& 31)) 20) (oI_47 (by omega) (by omega) (by omega)) (by omega) (by omega) (by omega) (Int32.not_lt.mp cq9))) H locs ls hP hD hS (lv_sub hl [4, 5, 6, 7, 8, 9, 10, 11, 12, 13, 14, 15, 16, 17, 18, 0, 19, 20] rfl)
