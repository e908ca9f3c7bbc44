set_option maxHeartbeats 1000000 in
set_option maxRecDepth 100000 in
theorem chain {p : Program} {l : Launch} {e : Env} {s : State} {m : MethodId} {below : List Frame} {meth : Method} {c : Code} {b Ln : Nat} {xs : Nat → Int32} {dG : va_G} {A B : Nat → Nat} {cA : ClassId} (C0 : lw_At p s m meth c b Ln xs) (hK : va_K dG vwCl (tyI cA) s) {L P G V R N Y S Rp : Nat → Int32} {T h t : Nat} {wd ft fl ce cl mv : Int32} {mo : UInt32} (ht0 : t < 60) (I : InvL L P G V R N Y S Rp T h t wd ce cl mv mo) {y : Int32} (k : lwHead p l e s m below meth c b dG A B cA 1051 t (t + 1) [(18, .int y)]) {x : Int32} {kd k0 : Nat} (hk0 : k0 < T) : lwP p l e s m below meth c b dG 183 ((xW A cA L P G V R N Y S wd (nI T) ft fl ce (nI h) mo) ++ (lW B cA L P G V Rp S Y)) (lV A B b wd (nI T) ft fl cl (nI h) mv (nI t) ++ [(17, .int x), (18, .int y), (19, .int (nI kd)), (20, .int (nI k0))]) := by
  obtain ⟨hx, hb, hr, hml, hown0, hts0, hX, hbl, hlocks, hgv⟩ := id C0
  have hown : s.vm.findClass RL = some m.cls := hown0
  have hts : ∀ w ∈ wsL_law, w.before #[Value.ref b] s = true := fun w h => hts0 w (wsL_law_in w h)
  have hA : ∀ q : Nat, s.heap.size ≤ q → aNew s.heap q := fun _ h => h
  have hbA : ¬ aNew s.heap b := Nat.not_le.mpr hbl
  have hT4 := I.T4
  have hh59 := I.h59
  intro H locs ls hP hD hS hl
  have hl : lv_has ls 27 ([(0, .ref b), (1, .ref (A 0)), (2, .ref (B 0)), (3, .ref (B 1)), (4, .ref (B 2)), (5, .ref (B 3)), (6, .ref (B 4)), (7, .ref (B 5)), (8, .ref (B 6)), (9, .int wd), (10, .int (nI T)), (11, .int ft), (12, .int fl), (13, .int cl), (14, .int (nI h)), (15, .int mv), (16, .int (nI t)), (17, .int x), (18, .int y), (19, .int (nI kd)), (20, .int (nI k0))]) := hl
  refine lv_iload hx hb dL_law_183 (lv_at hl 19 rfl) ?_
  refine lv_iconst (v := 1) hx hb dL_law_185 (by decide) ?_
  refine lv_icmp_ne (tgt := 276) hx hb dL_law_186 (by decide) (fun cq1 => ?_) (fun cq1 => ?_)
  · refine lv_iload hx hb dL_law_276 (lv_at hl 19 rfl) ?_
    refine lv_iconst (v := 2) hx hb dL_law_278 (by decide) ?_
    refine lv_icmp_ne (tgt := 381) hx hb dL_law_279 (by decide) (fun cq2 => ?_) (fun cq2 => ?_)
    · refine lv_iload hx hb dL_law_381 (lv_at hl 19 rfl) ?_
      refine lv_iconst (v := 5) hx hb dL_law_383 (by decide) ?_
      refine lv_icmp_ge (tgt := 424) hx hb dL_law_384 (by decide) (fun cq3 => ?_) (fun cq3 => ?_)
      · refine lv_iload hx hb dL_law_424 (lv_at hl 19 rfl) ?_
        refine lv_iconst (v := 5) hx hb dL_law_426 (by decide) ?_
        refine lv_icmp_ne (tgt := 461) hx hb dL_law_427 (by decide) (fun cq4 => ?_) (fun cq4 => ?_)
        · refine lv_iload hx hb dL_law_461 (lv_at hl 19 rfl) ?_
          refine lv_bipush (v := 6) hx hb dL_law_463 (by decide) ?_
          refine lv_icmp_ne (tgt := 549) hx hb dL_law_465 (by decide) (fun cq5 => ?_) (fun cq5 => ?_)
          · refine lv_iload hx hb dL_law_549 (lv_at hl 19 rfl) ?_
            refine lv_bipush (v := 9) hx hb dL_law_551 (by decide) ?_
            refine lv_icmp_ge (tgt := 687) hx hb dL_law_553 (by decide) (fun cq6 => ?_) (fun cq6 => ?_)
            · exact (case_pass C0 hK ht0 I k) H locs ls hP hD hS (lv_sub hl [0, 1, 2, 3, 4, 5, 6, 7, 8, 9, 10, 11, 12, 13, 14, 15, 16, 18] rfl)
            · refine lv_iload hx hb dL_law_556 (lv_at hl 14 rfl) ?_
              refine lv_bipush (v := 60) hx hb dL_law_558 (by decide) ?_
              refine lv_icmp_ge (tgt := 687) hx hb dL_law_560 (by decide) (fun h9 => absurd h9 (nI_ge (a := h) (b := 60) (by omega) (by omega))) (fun _ => ?_)
              exact (case_sell C0 hK ht0 I k) H locs ls hP hD hS (lv_sub hl [0, 1, 2, 3, 4, 5, 6, 7, 8, 9, 10, 11, 12, 13, 14, 15, 16, 18] rfl)
          · exact (case_fish C0 hK ht0 I k) H locs ls hP hD hS (lv_sub hl [0, 1, 2, 3, 4, 5, 6, 7, 8, 9, 10, 11, 12, 13, 14, 15, 16, 18] rfl)
        · exact (case_repair C0 hK ht0 I k hk0) H locs ls hP hD hS (lv_sub hl [0, 1, 2, 3, 4, 5, 6, 7, 8, 9, 10, 11, 12, 13, 14, 15, 16, 18, 20] rfl)
      · exact (case_gate C0 hK ht0 I k hk0) H locs ls hP hD hS (lv_sub hl [0, 1, 2, 3, 4, 5, 6, 7, 8, 9, 10, 11, 12, 13, 14, 15, 16, 18, 20] rfl)
    · exact (case_wind C0 hK ht0 I k) H locs ls hP hD hS (lv_sub hl [0, 1, 2, 3, 4, 5, 6, 7, 8, 9, 10, 11, 12, 13, 14, 15, 16, 18] rfl)
  · exact (case_tide C0 hK ht0 I k hk0) H locs ls hP hD hS (lv_sub hl [0, 1, 2, 3, 4, 5, 6, 7, 8, 9, 10, 11, 12, 13, 14, 15, 16, 18, 20] rfl)
set_option maxHeartbeats 1000000 in
set_option maxRecDepth 100000 in
theorem turn_body {p : Program} {l : Launch} {e : Env} {s : State} {m : MethodId} {below : List Frame} {meth : Method} {c : Code} {b Ln : Nat} {xs : Nat → Int32} {dG : va_G} {A B : Nat → Nat} {cA : ClassId} (C0 : lw_At p s m meth c b Ln xs) (hK : va_K dG vwCl (tyI cA) s) {t : Nat} (ht0 : t < 60) (hLn : Ln ≤ 260) (k : ∀ y : Int32, lwHead p l e s m below meth c b dG A B cA 1051 t (t + 1) [(18, .int y)]) : lwHead p l e s m below meth c b dG A B cA 92 t t [] := by
  obtain ⟨hx, hb, hr, hml, hown0, hts0, hX, hbl, hlocks, hgv⟩ := id C0
  have hown : s.vm.findClass RL = some m.cls := hown0
  have hts : ∀ w ∈ wsL_law, w.before #[Value.ref b] s = true := fun w h => hts0 w (wsL_law_in w h)
  have hA : ∀ q : Nat, s.heap.size ≤ q → aNew s.heap q := fun _ h => h
  have hbA : ¬ aNew s.heap b := Nat.not_le.mpr hbl
  intro L P G V R N Y S Rp T h wd ft fl ce cl mv mo I
  have hT4 := I.T4
  have hh59 := I.h59
  intro H locs ls hP hD hS hl
  have hl : lv_has ls 27 ([(0, .ref b), (1, .ref (A 0)), (2, .ref (B 0)), (3, .ref (B 1)), (4, .ref (B 2)), (5, .ref (B 3)), (6, .ref (B 4)), (7, .ref (B 5)), (8, .ref (B 6)), (9, .int wd), (10, .int (nI T)), (11, .int ft), (12, .int fl), (13, .int cl), (14, .int (nI h)), (15, .int mv), (16, .int (nI t))]) := hl
  refine lv_iload hx hb dL_law_92 (lv_at hl 16 rfl) ?_
  refine lv_bipush (v := 60) hx hb dL_law_94 (by decide) ?_
  refine lv_icmp_ge (tgt := 1206) hx hb dL_law_96 (by decide) (fun h9 => absurd h9 (nI_ge (a := t) (b := 60) (by omega) (by omega))) (fun _ => ?_)
  refine lv_aload_n hx hb dL_law_99 rfl (lv_at hl 0 rfl) ?_
  refine lv_iconst (v := 2) hx hb dL_law_100 (by decide) ?_
  refine lv_iload hx hb dL_law_101 (lv_at hl 16 rfl) ?_
  refine lv_imul hx hb dL_law_103 ?_
  refine lv_topi (fun v9 e9 => ?_)
  have e9 := e9.trans (nI_mulN 2 t)
  subst e9
  refine va_calli (va_runS (As := [.ref b, .int (nI (2 * t))]) (rest := []) ⟨hx, hb, hml, hown, hts⟩ (c_L_cell l H b Ln xs (2 * t) (by omega) hLn) (va_cwS 2 hts gL_law_L_cell rfl rfl rfl (by decide +kernel) ⟨Nat.le_of_ble_eq_true rfl, Nat.le_of_ble_eq_true rfl⟩) ⟨fun a9 U g mk q => ⟨q.1, q.2.1, va_X.moved (u := U) (U := U.calling g mk a9) (Vm.Alike.refl U.vm) q.2.2.1, q.2.2.2⟩, fun U hU hW => ⟨rfl, hU, va_X.moved hW.alike ((hX.kept (hS.2.1 b hbl hbA)).kept (by rw [hU])), by rw [hU]; exact Nat.lt_of_lt_of_le hbl hS.1⟩⟩ rfl rfl hl.1 rfl (lv_room (Nat.le_of_ble_eq_true rfl)) dL_law_104 ⟨Nat.le_of_ble_eq_true rfl, Nat.le_of_ble_eq_true rfl⟩) hS (fun q _ h => h.elim) (fun q h => h.elim) (fun x u1 t9 H1 locs ht hvm hw hB hz1 hk1 hS => ?_)
  have e9 := hB.symm.trans ht
  subst e9
  refine lv_istore (lv' := [(17, .int x), (0, .ref b), (1, .ref (A 0)), (2, .ref (B 0)), (3, .ref (B 1)), (4, .ref (B 2)), (5, .ref (B 3)), (6, .ref (B 4)), (7, .ref (B 5)), (8, .ref (B 6)), (9, .int wd), (10, .int (nI T)), (11, .int ft), (12, .int fl), (13, .int cl), (14, .int (nI h)), (15, .int mv), (16, .int (nI t))]) hx hb dL_law_107 hl (by decide) rfl (fun ls hl => ?_)
  refine lv_aload_n hx hb dL_law_109 rfl (lv_at hl 1 rfl) ?_
  refine lv_iconst (v := 2) hx hb dL_law_110 (by decide) ?_
  refine lv_iload hx hb dL_law_111 (lv_at hl 17 rfl) ?_
  refine lv_imul hx hb dL_law_113 ?_
  refine lv_topi (fun v9 e9 => ?_)
  have e9 := e9.trans (nI_mulN 2 t)
  subst e9
  refine lv_iconst (v := 1) hx hb dL_law_114 (by decide) ?_
  refine lv_iadd hx hb dL_law_115 ?_
  refine lv_topi (fun v9 e9 => ?_)
  have e9 := e9.trans (nI_add (2 * t) 1)
  subst e9
  refine va_calli (va_runS (As := [.ref b, .int (nI (2 * t + 1))]) (rest := []) ⟨hx, hb, hml, hown, hts⟩ (c_L_cell l H b Ln xs (2 * t + 1) (by omega) hLn) (va_cwS 2 hts gL_law_L_cell rfl rfl rfl (by decide +kernel) ⟨Nat.le_of_ble_eq_true rfl, Nat.le_of_ble_eq_true rfl⟩) ⟨fun a9 U g mk q => ⟨q.1, q.2.1, va_X.moved (u := U) (U := U.calling g mk a9) (Vm.Alike.refl U.vm) q.2.2.1, q.2.2.2⟩, fun U hU hW => ⟨rfl, hU, va_X.moved hW.alike ((hX.kept (hS.2.1 b hbl hbA)).kept (by rw [hU])), by rw [hU]; exact Nat.lt_of_lt_of_le hbl hS.1⟩⟩ rfl rfl hl.1 rfl (lv_room (Nat.le_of_ble_eq_true rfl)) dL_law_116 ⟨Nat.le_of_ble_eq_true rfl, Nat.le_of_ble_eq_true rfl⟩) hS (fun q _ h => h.elim) (fun q h => h.elim) (fun y u2 t9 H1 locs ht hvm hw hB hz1 hk1 hS => ?_)
  have e9 := hB.symm.trans ht
  subst e9
  refine lv_istore (lv' := [(18, .int y), (17, .int x), (0, .ref b), (1, .ref (A 0)), (2, .ref (B 0)), (3, .ref (B 1)), (4, .ref (B 2)), (5, .ref (B 3)), (6, .ref (B 4)), (7, .ref (B 5)), (8, .ref (B 6)), (9, .int wd), (10, .int (nI T)), (11, .int ft), (12, .int fl), (13, .int cl), (14, .int (nI h)), (15, .int mv), (16, .int (nI t))]) hx hb dL_law_119 hl (by decide) rfl (fun ls hl => ?_)
  refine lv_iload hx hb dL_law_121 (lv_at hl 1 rfl) ?_
  refine lv_bipush (v := 12) hx hb dL_law_123 (by decide) ?_
  refine va_calli (va_runS (As := [.int x, .int 12]) (rest := []) ⟨hx, hb, hml, hown, hts⟩ (c_L_low l H x 12 12 rfl (by omega) (by omega)) (va_cwS 2 hts gL_law_L_low rfl rfl rfl (by decide +kernel) ⟨Nat.le_of_ble_eq_true rfl, Nat.le_of_ble_eq_true rfl⟩) ⟨fun a9 U g mk q => q, fun U hU hW => ⟨rfl, hU⟩⟩ rfl rfl hl.1 rfl (lv_room (Nat.le_of_ble_eq_true rfl)) dL_law_125 ⟨Nat.le_of_ble_eq_true rfl, Nat.le_of_ble_eq_true rfl⟩) hS (fun q _ h => h.elim) (fun q h => h.elim) (fun r3 u3 t9 H1 locs ht hvm hw hB hz1 hk1 hS => ?_)
  have e9 := hB.symm.trans ht
  subst e9
  subst hw
  have hlo3 := lo_lt x (k := 12) (by omega)
  refine lv_istore (lv' := [(19, .int (nI (lo x 12))), (18, .int y), (17, .int x), (0, .ref b), (1, .ref (A 0)), (2, .ref (B 0)), (3, .ref (B 1)), (4, .ref (B 2)), (5, .ref (B 3)), (6, .ref (B 4)), (7, .ref (B 5)), (8, .ref (B 6)), (9, .int wd), (10, .int (nI T)), (11, .int ft), (12, .int fl), (13, .int cl), (14, .int (nI h)), (15, .int mv), (16, .int (nI t))]) hx hb dL_law_128 hl (by decide) rfl (fun ls hl => ?_)
  refine lv_iload hx hb dL_law_130 (lv_at hl 13 rfl) ?_
  refine lv_if_ne (tgt := 139) hx hb dL_law_132 (by decide) (fun cq4 => ?_) (fun cq4 => ?_)
  · have hTp : 0 < T := Nat.pos_of_ne_zero (fun w9 => cq4 (by rw [w9]; rfl))
    refine lv_iload hx hb dL_law_139 (lv_at hl 2 rfl) ?_
    refine lv_iconst (v := 4) hx hb dL_law_141 (by decide) ?_
    refine lv_ishr hx hb dL_law_142 ?_
    refine lv_iload hx hb dL_law_143 (lv_at hl 13 rfl) ?_
    refine va_calli (va_runS (As := [.int (x >>> (4 &&& 31)), .int (nI T)]) (rest := []) ⟨hx, hb, hml, hown, hts⟩ (c_L_low l H (x >>> (4 &&& 31)) (nI T) T rfl (by omega) (by omega)) (va_cwS 2 hts gL_law_L_low rfl rfl rfl (by decide +kernel) ⟨Nat.le_of_ble_eq_true rfl, Nat.le_of_ble_eq_true rfl⟩) ⟨fun a9 U g mk q => q, fun U hU hW => ⟨rfl, hU⟩⟩ rfl rfl hl.1 rfl (lv_room (Nat.le_of_ble_eq_true rfl)) dL_law_145 ⟨Nat.le_of_ble_eq_true rfl, Nat.le_of_ble_eq_true rfl⟩) hS (fun q _ h => h.elim) (fun q h => h.elim) (fun r5 u5 t9 H1 locs ht hvm hw hB hz1 hk1 hS => ?_)
    have e9 := hB.symm.trans ht
    subst e9
    subst hw
    have hlo5 := lo_lt (x >>> (4 &&& 31)) (k := T) (by omega)
    refine lv_istore (lv' := [(20, .int (nI (lo (x >>> (4 &&& 31)) T))), (19, .int (nI (lo x 12))), (18, .int y), (17, .int x), (0, .ref b), (1, .ref (A 0)), (2, .ref (B 0)), (3, .ref (B 1)), (4, .ref (B 2)), (5, .ref (B 3)), (6, .ref (B 4)), (7, .ref (B 5)), (8, .ref (B 6)), (9, .int wd), (10, .int (nI T)), (11, .int ft), (12, .int fl), (13, .int cl), (14, .int (nI h)), (15, .int mv), (16, .int (nI t))]) hx hb dL_law_148 hl (by decide) rfl (fun ls hl => ?_)
    refine lv_iload hx hb dL_law_150 (lv_at hl 1 rfl) ?_
    refine lv_if_ne (tgt := 161) hx hb dL_law_152 (by decide) (fun cq6 => ?_) (fun cq6 => ?_)
    · refine lv_iload hx hb dL_law_161 (lv_at hl 14 rfl) ?_
      refine lv_if_ne (tgt := 183) hx hb dL_law_163 (by decide) (fun _ => ?_) (fun h9 => absurd h9 (nI_ne0 hTp (by omega)))
      exact (chain C0 hK ht0 I (k y) (x := x) (kd := lo x 12) (k0 := lo (x >>> (4 &&& 31)) T) (by omega)) H locs ls hP hD hS (lv_sub hl [4, 5, 6, 7, 8, 9, 10, 11, 12, 13, 14, 15, 16, 17, 18, 19, 20, 3, 2, 1, 0] rfl)
    · refine lv_iload hx hb dL_law_155 (lv_at hl 14 rfl) ?_
      refine lv_iconst (v := 4) hx hb dL_law_157 (by decide) ?_
      refine lv_icmp_lt (tgt := 166) hx hb dL_law_158 (by decide) (fun cq7 => ?_) (fun cq7 => ?_)
      · have hT9 : T < 4 := (nI_ltI (b := 4) (by omega) (by omega)).mp cq7
        exact (case_turbine C0 hK ht0 I (k y) (by omega)) H locs ls hP hD hS (lv_sub hl [4, 5, 6, 7, 8, 9, 10, 11, 12, 13, 14, 15, 16, 17, 18, 19, 20, 2] rfl)
      · refine lv_iload hx hb dL_law_161 (lv_at hl 14 rfl) ?_
        refine lv_if_ne (tgt := 183) hx hb dL_law_163 (by decide) (fun _ => ?_) (fun h9 => absurd h9 (nI_ne0 hTp (by omega)))
        exact (chain C0 hK ht0 I (k y) (x := x) (kd := lo x 12) (k0 := lo (x >>> (4 &&& 31)) T) (by omega)) H locs ls hP hD hS (lv_sub hl [4, 5, 6, 7, 8, 9, 10, 11, 12, 13, 14, 15, 16, 17, 18, 19, 20, 3, 2, 1, 0] rfl)
  · have hT0 : T = 0 := (Nat.eq_zero_or_pos T).elim (fun w9 => w9) (fun w9 => absurd cq4 (nI_ne0 w9 (by omega)))
    refine lv_iconst (v := 0) hx hb dL_law_135 (by decide) ?_
    refine lv_goto (tgt := 148) hx hb dL_law_136 (by decide) ?_
    refine lv_istore (lv' := [(20, .int 0), (19, .int (nI (lo x 12))), (18, .int y), (17, .int x), (0, .ref b), (1, .ref (A 0)), (2, .ref (B 0)), (3, .ref (B 1)), (4, .ref (B 2)), (5, .ref (B 3)), (6, .ref (B 4)), (7, .ref (B 5)), (8, .ref (B 6)), (9, .int wd), (10, .int (nI T)), (11, .int ft), (12, .int fl), (13, .int cl), (14, .int (nI h)), (15, .int mv), (16, .int (nI t))]) hx hb dL_law_148 hl (by decide) rfl (fun ls hl => ?_)
    refine lv_iload hx hb dL_law_150 (lv_at hl 1 rfl) ?_
    refine lv_if_ne (tgt := 161) hx hb dL_law_152 (by decide) (fun cq8 => ?_) (fun cq8 => ?_)
    · refine lv_iload hx hb dL_law_161 (lv_at hl 14 rfl) ?_
      refine lv_if_ne (tgt := 183) hx hb dL_law_163 (by decide) (fun h9 => absurd (by rw [hT0]; rfl) h9) (fun _ => ?_)
      exact (case_turbine C0 hK ht0 I (k y) (by omega)) H locs ls hP hD hS (lv_sub hl [4, 5, 6, 7, 8, 9, 10, 11, 12, 13, 14, 15, 16, 17, 18, 19, 20, 2] rfl)
    · refine lv_iload hx hb dL_law_155 (lv_at hl 14 rfl) ?_
      refine lv_iconst (v := 4) hx hb dL_law_157 (by decide) ?_
      refine lv_icmp_lt (tgt := 166) hx hb dL_law_158 (by decide) (fun cq9 => ?_) (fun cq9 => ?_)
      · have hT9 : T < 4 := (nI_ltI (b := 4) (by omega) (by omega)).mp cq9
        exact (case_turbine C0 hK ht0 I (k y) (by omega)) H locs ls hP hD hS (lv_sub hl [4, 5, 6, 7, 8, 9, 10, 11, 12, 13, 14, 15, 16, 17, 18, 19, 20, 2] rfl)
      · refine lv_iload hx hb dL_law_161 (lv_at hl 14 rfl) ?_
        refine lv_if_ne (tgt := 183) hx hb dL_law_163 (by decide) (fun h9 => absurd (by rw [hT0]; rfl) h9) (fun _ => ?_)
        exact (case_turbine C0 hK ht0 I (k y) (by omega)) H locs ls hP hD hS (lv_sub hl [4, 5, 6, 7, 8, 9, 10, 11, 12, 13, 14, 15, 16, 17, 18, 19, 20, 2] rfl)
set_option maxHeartbeats 1000000 in
set_option maxRecDepth 100000 in
theorem law_end {p : Program} {l : Launch} {e : Env} {s : State} {m : MethodId} {below : List Frame} {meth : Method} {c : Code} {b Ln : Nat} {xs : Nat → Int32} {dG : va_G} {A B : Nat → Nat} {cA : ClassId} (C0 : lw_At p s m meth c b Ln xs) (hK : va_K dG vwCl (tyI cA) s) : lwHead p l e s m below meth c b dG A B cA 92 60 60 [] := by
  obtain ⟨hx, hb, hr, hml, hown0, hts0, hX, hbl, hlocks, hgv⟩ := id C0
  have hown : s.vm.findClass RL = some m.cls := hown0
  have hts : ∀ w ∈ wsL_law, w.before #[Value.ref b] s = true := fun w h => hts0 w (wsL_law_in w h)
  have hA : ∀ q : Nat, s.heap.size ≤ q → aNew s.heap q := fun _ h => h
  have hbA : ¬ aNew s.heap b := Nat.not_le.mpr hbl
  intro L P G V R N Y S Rp T h wd ft fl ce cl mv mo I
  intro H locs ls hP hD hS hl
  have hl : lv_has ls 27 ([(0, .ref b), (1, .ref (A 0)), (2, .ref (B 0)), (3, .ref (B 1)), (4, .ref (B 2)), (5, .ref (B 3)), (6, .ref (B 4)), (7, .ref (B 5)), (8, .ref (B 6)), (9, .int wd), (10, .int (nI T)), (11, .int ft), (12, .int fl), (13, .int cl), (14, .int (nI h)), (15, .int mv), (16, .int (nI 60))]) := hl
  refine lv_iload hx hb dL_law_92 (lv_at hl 16 rfl) ?_
  refine lv_bipush (v := 60) hx hb dL_law_94 (by decide) ?_
  refine lv_icmp_ge (tgt := 1206) hx hb dL_law_96 (by decide) (fun _ => ?_) (fun h9 => absurd (nI_le (a := 60) (b := 60) (by omega) (by omega)) h9)
  refine lv_iconst (v := 1) hx hb dL_law_1206 (by decide) ?_
  refine va_forget (fun q hq => hS.2.2 q hq) ?_
  refine W.widen (k := 151) (n := 2881) (Nat.le_of_ble_eq_true rfl) (Nat.le_of_ble_eq_true rfl) ?_
  exact lw_ret (Drawn.sameBut.refl s.drawn lw_cs) hx hb hr hlocks dL_law_1207
/-- sixty turns -/
theorem law_loop {p : Program} {l : Launch} {e : Env} {s : State} {m : MethodId} {below : List Frame} {meth : Method} {c : Code} {b Ln : Nat} {xs : Nat → Int32} {dG : va_G} {A B : Nat → Nat} {cA : ClassId} (C0 : lw_At p s m meth c b Ln xs) (hK : va_K dG vwCl (tyI cA) s) (hLn : Ln ≤ 260) : ∀ r t : Nat, t + r = 60 → lwHead p l e s m below meth c b dG A B cA 92 t t [] := by
  intro r
  induction r with
  | zero =>
    intro t ht
    have ht : 60 = t := by omega
    subst ht
    exact law_end C0 hK
  | succ r ih =>
    intro t ht
    exact turn_body C0 hK (by omega) hLn (fun y => turn_end C0 hK (by omega) (ih (t + 1) (by omega)) y)
