set_option maxHeartbeats 1000000 in
set_option maxRecDepth 100000 in
theorem case_tide {p : Program} {l : Launch} {e : Env} {s : State} {m : MethodId} {below : List Frame} {meth : Method} {c : Code} {b Ln : Nat} {xs : Nat → Int32} {dG : va_G} {a A B : Nat → Nat} {o : Nat} {cA cL : ClassId} (hl0 : l.stackTraces = false) (C0 : lw_At p s m meth c b Ln xs) (hE : tgE a (aNew s.heap) s s.heap) (hK : va_K dG vwCl (tyL cA cL) s) (hLn : Ln ≤ 2048) {i : Nat} (hi : 4 * i + 4 ≤ Ln) (k : lwAt p l e s m below meth c b dG A B o cA cL 1130 i (20 + i + 1) (3749 + 6 * i + 6)) : lwAt p l e s m below meth c b dG A B o cA cL 128 i (20 + i) (3749 + 6 * i) := by
  obtain ⟨hx, hb, hr, hml, hown, hts0, hX, hbl, hlocks, hgv⟩ := C0
  have hts : ∀ w ∈ wsL_law, w.before #[Value.ref b] s = true := fun w h => hts0 w (wsL_law_in w h)
  have hA : ∀ q : Nat, s.heap.size ≤ q → aNew s.heap q := fun _ h => h
  have hbA : ¬ aNew s.heap b := Nat.not_le.mpr hbl
  intro L P G V R N Y S Rp O D T h wd ft fl ce cl th mo fo H locs ls I hP hD hS hl
  obtain ⟨p0, hp0⟩ : ∃ z, z = xs (nI (4 * i + 1)).toNatClampNeg := ⟨_, rfl⟩
  obtain ⟨p1, hp1⟩ : ∃ z, z = xs (nI (4 * i + 2)).toNatClampNeg := ⟨_, rfl⟩
  refine lv_aload_n hx hb dL_law_128 rfl (lv_at hl 1 rfl) ?_
  refine lv_aload_n hx hb dL_law_129 rfl (lv_at hl 0 rfl) ?_
  refine lv_iload hx hb dL_law_130 (lv_at hl 4 rfl) ?_
  refine lv_iconst (v := 1) hx hb dL_law_132 (by decide) ?_
  refine lv_iadd hx hb dL_law_133 ?_
  refine lv_topi (fun v9 e9 => ?_)
  have e9 := e9.trans (nI_add (4 * i) 1)
  subst e9
  refine va_sld hx hb hX hbl hbA hS (vp_in_nI (by omega) (by omega)) dL_law_134 ?_
  refine lv_topi (fun v9 e9 => ?_)
  have e9 := (e9.trans hp0.symm).symm
  subst e9
  refine lv_aload_n hx hb dL_law_135 rfl (lv_at hl 0 rfl) ?_
  refine lv_iload hx hb dL_law_136 (lv_at hl 4 rfl) ?_
  refine lv_iconst (v := 2) hx hb dL_law_138 (by decide) ?_
  refine lv_iadd hx hb dL_law_139 ?_
  refine lv_topi (fun v9 e9 => ?_)
  have e9 := e9.trans (nI_add (4 * i) 2)
  subst e9
  refine va_sld hx hb hX hbl hbA hS (vp_in_nI (by omega) (by omega)) dL_law_140 ?_
  refine lv_topi (fun v9 e9 => ?_)
  have e9 := (e9.trans hp1.symm).symm
  subst e9
  refine lv_aload_n hx hb dL_law_141 rfl (lv_at hl 3 rfl) ?_
  by_cases hk : kTide p0 p1 = 0
  · have hPc := hP.sub (ws' := (xW A cA L P G V R N Y S wd (nI T) ft fl ce (nI h) mo) ++ ([(o, .inl (cL, 1, .inr (.inl fo)))])) [0, 1, 2, 3, 4, 5, 6, 7, 8, 19] rfl
    have hDc := hD.sub (ws' := (xW A cA L P G V R N Y S wd (nI T) ft fl ce (nI h) mo) ++ ([(o, .inl (cL, 1, .inr (.inl fo)))])) [0, 1, 2, 3, 4, 5, 6, 7, 8, 19] (by decide) rfl
    have hFc := va_free (wc := (xW A cA L P G V R N Y S wd (nI T) ft fl ce (nI h) mo) ++ ([(o, .inl (cL, 1, .inr (.inl fo)))])) hD hS hA [0, 1, 2, 3, 4, 5, 6, 7, 8, 19] rfl
    refine va_calli (vx_runSW (As := [.ref (A 0), .int p0, .int p1, .ref o]) (rest := []) ⟨hx, hb, hml, hown, hts⟩ (c_L_tide l hl0 dG a A o cA cL H L P G V R N Y S T h wd ft fl ce mo fo p0 p1 I.1.1 I.1.2) (vx_cwSW 4 hts gL_law_L_tide rfl rfl rfl (by decide +kernel) ⟨Nat.le_of_ble_eq_true rfl, Nat.le_of_ble_eq_true rfl⟩) ⟨fun a9 U g mk q => ⟨q.1, wPre_calling g mk a9 q.2.1, q.2.2.calling g mk a9⟩, fun U hU hW => ⟨rfl, wPre_of hK hPc hDc hU hW, hE.go hW hS hFc⟩⟩ rfl rfl hl.1 rfl (lv_room (Nat.le_of_ble_eq_true rfl)) dL_law_142 ⟨(by show _ ≤ 1049; omega), (by show _ ≤ 11971; omega)⟩) hS (fun q _ h => hFc q h) hFc (fun r u t H locs ht hvm hw hB hz1 hk1 hS => ?_)
    obtain ⟨hr1, hu0, hu1⟩ := hw
    have hu := hu0 hk
    subst hu
    have hr1 := (hr1.trans hk).symm
    subst hr1
    obtain ⟨hP1, hK1, hD1⟩ := hB
    rw [ht] at hP1
    obtain ⟨hP, hD⟩ := va_join (wr := (mW B cA L P G V Rp S Y O D th (nI h) wd (nI T) ft fl cl mo)) (w1 := (xW A cA (upd L p0.toNatClampNeg p1) P G V R N Y S wd (nI T) ft fl ce (nI h) mo) ++ [(o, .inl (cL, 1, .inr (.inl (vp_updL fo 0 (L p0.toNatClampNeg).toInt64))))]) hP hD [0, 1, 2, 3, 4, 5, 6, 7, 8, 19] [9, 10, 11, 12, 13, 14, 15, 16, 17, 18] rfl rfl (by decide) (by decide) hk1 hFc hP1 hD1
    have hP : va_P dG vwCl ((xW A cA (upd L p0.toNatClampNeg p1) P G V R N Y S wd (nI T) ft fl ce (nI h) mo) ++ (mW B cA L P G V Rp S Y O D th (nI h) wd (nI T) ft fl cl mo) ++ [(o, .inl (cL, 1, .inr (.inl (vp_updL fo 0 (L p0.toNatClampNeg).toInt64))))]) H := hP.sub [10, 11, 12, 13, 14, 15, 16, 17, 18, 0, 1, 2, 3, 4, 5, 6, 7, 8, 9, 19] rfl
    have hD : va_D (aNew s.heap) ((xW A cA (upd L p0.toNatClampNeg p1) P G V R N Y S wd (nI T) ft fl ce (nI h) mo) ++ (mW B cA L P G V Rp S Y O D th (nI h) wd (nI T) ft fl cl mo) ++ [(o, .inl (cL, 1, .inr (.inl (vp_updL fo 0 (L p0.toNatClampNeg).toInt64))))]) := hD.sub [10, 11, 12, 13, 14, 15, 16, 17, 18, 0, 1, 2, 3, 4, 5, 6, 7, 8, 9, 19] (by decide) rfl
    refine lv_istore (lv' := [(5, .int 0), (0, .ref b), (1, .ref (A 0)), (2, .ref (B 0)), (3, .ref o), (4, .int (nI (4 * i)))]) hx hb dL_law_145 hl (by decide) rfl (fun ls hl => ?_)
    refine lv_aload_n hx hb dL_law_147 rfl (lv_at hl 3 rfl) ?_
    refine lv_aload_n hx hb dL_law_148 rfl (lv_at hl 1 rfl) ?_
    refine lv_iload hx hb dL_law_149 (lv_at hl 5 rfl) ?_
    refine lv_iconst (v := 1) hx hb dL_law_151 (by decide) ?_
    refine lv_iadd hx hb dL_law_152 ?_
    refine lv_topi (fun v9 e9 => ?_)
    have e9 := e9.trans (nI_add (4 * i) 1)
    subst e9
    refine va_sld hx hb hX hbl hbA hS (vp_in_nI (by omega) (by omega)) dL_law_153 ?_
    refine lv_topi (fun v9 e9 => ?_)
    have e9 := (e9.trans hp0.symm).symm
    subst e9
    refine lv_aload_n hx hb dL_law_154 rfl (lv_at hl 1 rfl) ?_
    refine lv_iload hx hb dL_law_155 (lv_at hl 5 rfl) ?_
    refine lv_iconst (v := 2) hx hb dL_law_157 (by decide) ?_
    refine lv_iadd hx hb dL_law_158 ?_
    refine lv_topi (fun v9 e9 => ?_)
    have e9 := e9.trans (nI_add (4 * i) 2)
    subst e9
    refine va_sld hx hb hX hbl hbA hS (vp_in_nI (by omega) (by omega)) dL_law_159 ?_
    refine lv_topi (fun v9 e9 => ?_)
    have e9 := (e9.trans hp1.symm).symm
    subst e9
    have hPc := hP.sub (ws' := (mW B cA L P G V Rp S Y O D th (nI h) wd (nI T) ft fl cl mo)) [9, 10, 11, 12, 13, 14, 15, 16, 17, 18] rfl
    have hDc := hD.sub (ws' := (mW B cA L P G V Rp S Y O D th (nI h) wd (nI T) ft fl cl mo)) [9, 10, 11, 12, 13, 14, 15, 16, 17, 18] (by decide) rfl
    have hFc := va_free (wc := mW B cA L P G V Rp S Y O D th (nI h) wd (nI T) ft fl cl mo) hD hS hA [9, 10, 11, 12, 13, 14, 15, 16, 17, 18] rfl
    have hKc := hK.sub (tys' := tyI cA) [0] rfl
    refine va_calli (va_runV (As := [.int p0, .int p1]) (rest := []) ⟨hx, hb, hml, hown, hts⟩ (c_X1_tide l dG B cA H L P G V Rp S Y O D th (nI h) wd (nI T) ft fl cl mo p0 p1 ) (cwV 2 hts gL_law_X1_tide rfl rfl rfl (by decide +kernel) ⟨Nat.le_of_ble_eq_true rfl, Nat.le_of_ble_eq_true rfl⟩) ⟨fun a9 U g mk q => ⟨q.1, wPre_calling g mk a9 q.2⟩, va_recv hKc hPc (ci := 1) (q0 := 0) rfl rfl, fun U hU hW => ⟨rfl, wPre_of hKc hPc hDc hU hW⟩⟩ rfl rfl hl.1 rfl (lv_room (Nat.le_of_ble_eq_true rfl)) dL_law_160 ⟨(by show _ ≤ 1049; omega), (by show _ ≤ 11971; omega)⟩) hS (fun q _ h => hFc q h) hFc (fun r u t H locs ht hvm hw hB hz1 hk1 hS => ?_)
    obtain ⟨hr2, hu2⟩ := hw.1 hk
    subst hu2
    have hr2 := hr2.symm
    subst hr2
    obtain ⟨hP1, hK1, hD1⟩ := hB
    rw [ht] at hP1
    obtain ⟨hP, hD⟩ := va_join (wr := (xW A cA (upd L p0.toNatClampNeg p1) P G V R N Y S wd (nI T) ft fl ce (nI h) mo) ++ [(o, .inl (cL, 1, .inr (.inl (vp_updL fo 0 (L p0.toNatClampNeg).toInt64))))]) (w1 := (mW B cA (upd L p0.toNatClampNeg p1) P G V Rp S Y O D 0 (nI h) wd (nI T) ft fl cl mo)) hP hD [9, 10, 11, 12, 13, 14, 15, 16, 17, 18] [0, 1, 2, 3, 4, 5, 6, 7, 8, 19] rfl rfl (by decide) (by decide) hk1 hFc hP1 hD1
    have hP : va_P dG vwCl ((xW A cA (upd L p0.toNatClampNeg p1) P G V R N Y S wd (nI T) ft fl ce (nI h) mo) ++ (mW B cA (upd L p0.toNatClampNeg p1) P G V Rp S Y O D 0 (nI h) wd (nI T) ft fl cl mo) ++ [(o, .inl (cL, 1, .inr (.inl (vp_updL fo 0 (L p0.toNatClampNeg).toInt64))))]) H := hP.sub [0, 1, 2, 3, 4, 5, 6, 7, 8, 10, 11, 12, 13, 14, 15, 16, 17, 18, 19, 9] rfl
    have hD : va_D (aNew s.heap) ((xW A cA (upd L p0.toNatClampNeg p1) P G V R N Y S wd (nI T) ft fl ce (nI h) mo) ++ (mW B cA (upd L p0.toNatClampNeg p1) P G V Rp S Y O D 0 (nI h) wd (nI T) ft fl cl mo) ++ [(o, .inl (cL, 1, .inr (.inl (vp_updL fo 0 (L p0.toNatClampNeg).toInt64))))]) := hD.sub [0, 1, 2, 3, 4, 5, 6, 7, 8, 10, 11, 12, 13, 14, 15, 16, 17, 18, 19, 9] (by decide) rfl
    refine lv_istore (lv' := [(6, .int (L p0.toNatClampNeg)), (5, .int 0), (0, .ref b), (1, .ref (A 0)), (2, .ref (B 0)), (3, .ref o), (4, .int (nI (4 * i)))]) hx hb dL_law_163 hl (by decide) rfl (fun ls hl => ?_)
    refine lv_aload_n hx hb dL_law_165 rfl (lv_at hl 4 rfl) ?_
    have hPc := hP.sub (ws' := (mW B cA (upd L p0.toNatClampNeg p1) P G V Rp S Y O D 0 (nI h) wd (nI T) ft fl cl mo)) [9, 10, 11, 12, 13, 14, 15, 16, 17, 18] rfl
    have hDc := hD.sub (ws' := (mW B cA (upd L p0.toNatClampNeg p1) P G V Rp S Y O D 0 (nI h) wd (nI T) ft fl cl mo)) [9, 10, 11, 12, 13, 14, 15, 16, 17, 18] (by decide) rfl
    have hFc := va_free (wc := mW B cA (upd L p0.toNatClampNeg p1) P G V Rp S Y O D 0 (nI h) wd (nI T) ft fl cl mo) hD hS hA [9, 10, 11, 12, 13, 14, 15, 16, 17, 18] rfl
    have hKc := hK.sub (tys' := tyI cA) [0] rfl
    refine va_calli (va_runV (As := []) (rest := []) ⟨hx, hb, hml, hown, hts⟩ (c_X1_thrown l dG B cA H (upd L p0.toNatClampNeg p1) P G V Rp S Y O D 0 (nI h) wd (nI T) ft fl cl mo) (cwV 0 hts gL_law_X1_thrown rfl rfl rfl (by decide +kernel) ⟨Nat.le_of_ble_eq_true rfl, Nat.le_of_ble_eq_true rfl⟩) ⟨fun a9 U g mk q => ⟨q.1, wPre_calling g mk a9 q.2⟩, va_recv hKc hPc (ci := 1) (q0 := 0) rfl rfl, fun U hU hW => ⟨rfl, wPre_of hKc hPc hDc hU hW⟩⟩ rfl rfl hl.1 rfl (lv_room (Nat.le_of_ble_eq_true rfl)) dL_law_166 ⟨(by show _ ≤ 1049; omega), (by show _ ≤ 11971; omega)⟩) hS (fun q _ h => hFc q h) hFc (fun r u t H locs ht hvm hw hB hz1 hk1 hS => ?_)
    obtain ⟨hr3, hu3⟩ := hw
    subst hu3
    have hr3 := hr3.symm
    subst hr3
    obtain ⟨hP1, hK1, hD1⟩ := hB
    rw [ht] at hP1
    obtain ⟨hP, hD⟩ := va_join (wr := (xW A cA (upd L p0.toNatClampNeg p1) P G V R N Y S wd (nI T) ft fl ce (nI h) mo) ++ [(o, .inl (cL, 1, .inr (.inl (vp_updL fo 0 (L p0.toNatClampNeg).toInt64))))]) (w1 := (mW B cA (upd L p0.toNatClampNeg p1) P G V Rp S Y O D 0 (nI h) wd (nI T) ft fl cl mo)) hP hD [9, 10, 11, 12, 13, 14, 15, 16, 17, 18] [0, 1, 2, 3, 4, 5, 6, 7, 8, 19] rfl rfl (by decide) (by decide) hk1 hFc hP1 hD1
    have hP : va_P dG vwCl ((xW A cA (upd L p0.toNatClampNeg p1) P G V R N Y S wd (nI T) ft fl ce (nI h) mo) ++ (mW B cA (upd L p0.toNatClampNeg p1) P G V Rp S Y O D 0 (nI h) wd (nI T) ft fl cl mo) ++ [(o, .inl (cL, 1, .inr (.inl (vp_updL fo 0 (L p0.toNatClampNeg).toInt64))))]) H := hP.sub [0, 1, 2, 3, 4, 5, 6, 7, 8, 10, 11, 12, 13, 14, 15, 16, 17, 18, 19, 9] rfl
    have hD : va_D (aNew s.heap) ((xW A cA (upd L p0.toNatClampNeg p1) P G V R N Y S wd (nI T) ft fl ce (nI h) mo) ++ (mW B cA (upd L p0.toNatClampNeg p1) P G V Rp S Y O D 0 (nI h) wd (nI T) ft fl cl mo) ++ [(o, .inl (cL, 1, .inr (.inl (vp_updL fo 0 (L p0.toNatClampNeg).toInt64))))]) := hD.sub [0, 1, 2, 3, 4, 5, 6, 7, 8, 10, 11, 12, 13, 14, 15, 16, 17, 18, 19, 9] (by decide) rfl
    refine lv_iload hx hb dL_law_169 (lv_at hl 1 rfl) ?_
    refine lv_icmp_eq (tgt := 176) hx hb dL_law_171 (by decide) (fun _ => ?_) (fun h9 => absurd (by decide) h9)
    refine lv_iload hx hb dL_law_176 (lv_at hl 1 rfl) ?_
    refine lv_if_ne (tgt := 193) hx hb dL_law_178 (by decide) (fun h9 => absurd (by decide) h9) (fun _ => ?_)
    refine lv_aload_n hx hb dL_law_181 rfl (lv_at hl 5 rfl) ?_
    refine lv_iconst (v := 0) hx hb dL_law_182 (by decide) ?_
    refine va_lald hx hb hK hP 19 1 rfl rfl (i := 0) (vp_in_nI (n := 0) (by omega) (by omega)) dL_law_183 ?_
    refine lv_iload hx hb dL_law_184 (lv_at hl 0 rfl) ?_
    refine lv_i2l hx hb dL_law_186 rfl ?_
    refine W.lcmp hx hb dL_law_187 ?_
    refine lv_topi (fun v9 e9 => ?_)
    have e9 := e9.trans (lgc_eq rfl)
    subst e9
    refine lv_if_eq (tgt := 193) hx hb dL_law_188 (by decide) (fun _ => ?_) (fun h9 => absurd (by decide) h9)
    refine lv_goto (tgt := 1130) hx hb dL_law_193 (by decide) ?_
    exact k (upd L p0.toNatClampNeg p1) P G V R N Y S Rp O D T h wd ft fl ce cl 0 mo (vp_updL fo 0 (L p0.toNatClampNeg).toInt64) H locs ls (Inv_tide I hk) hP hD hS (lv_sub hl [2, 3, 4, 5, 6] rfl)
  · have hPc := hP.sub (ws' := (xW A cA L P G V R N Y S wd (nI T) ft fl ce (nI h) mo) ++ ([(o, .inl (cL, 1, .inr (.inl fo)))])) [0, 1, 2, 3, 4, 5, 6, 7, 8, 19] rfl
    have hDc := hD.sub (ws' := (xW A cA L P G V R N Y S wd (nI T) ft fl ce (nI h) mo) ++ ([(o, .inl (cL, 1, .inr (.inl fo)))])) [0, 1, 2, 3, 4, 5, 6, 7, 8, 19] (by decide) rfl
    have hFc := va_free (wc := (xW A cA L P G V R N Y S wd (nI T) ft fl ce (nI h) mo) ++ ([(o, .inl (cL, 1, .inr (.inl fo)))])) hD hS hA [0, 1, 2, 3, 4, 5, 6, 7, 8, 19] rfl
    refine va_calli (vx_runSW (As := [.ref (A 0), .int p0, .int p1, .ref o]) (rest := []) ⟨hx, hb, hml, hown, hts⟩ (c_L_tide l hl0 dG a A o cA cL H L P G V R N Y S T h wd ft fl ce mo fo p0 p1 I.1.1 I.1.2) (vx_cwSW 4 hts gL_law_L_tide rfl rfl rfl (by decide +kernel) ⟨Nat.le_of_ble_eq_true rfl, Nat.le_of_ble_eq_true rfl⟩) ⟨fun a9 U g mk q => ⟨q.1, wPre_calling g mk a9 q.2.1, q.2.2.calling g mk a9⟩, fun U hU hW => ⟨rfl, wPre_of hK hPc hDc hU hW, hE.go hW hS hFc⟩⟩ rfl rfl hl.1 rfl (lv_room (Nat.le_of_ble_eq_true rfl)) dL_law_142 ⟨(by show _ ≤ 1049; omega), (by show _ ≤ 11971; omega)⟩) hS (fun q _ h => hFc q h) hFc (fun r u t H locs ht hvm hw hB hz1 hk1 hS => ?_)
    obtain ⟨hr1, hu0, hu1⟩ := hw
    have hu := hu1 hk
    subst hu
    have hr1 := hr1.symm
    subst hr1
    obtain ⟨hP1, hK1, hD1⟩ := hB
    rw [ht] at hP1
    obtain ⟨hP, hD⟩ := va_join (wr := (mW B cA L P G V Rp S Y O D th (nI h) wd (nI T) ft fl cl mo)) (w1 := (xW A cA L P G V R N Y S wd (nI T) ft fl ce (nI h) mo) ++ [(o, .inl (cL, 1, .inr (.inl fo)))]) hP hD [0, 1, 2, 3, 4, 5, 6, 7, 8, 19] [9, 10, 11, 12, 13, 14, 15, 16, 17, 18] rfl rfl (by decide) (by decide) hk1 hFc hP1 hD1
    have hP : va_P dG vwCl ((xW A cA L P G V R N Y S wd (nI T) ft fl ce (nI h) mo) ++ (mW B cA L P G V Rp S Y O D th (nI h) wd (nI T) ft fl cl mo) ++ [(o, .inl (cL, 1, .inr (.inl fo)))]) H := hP.sub [10, 11, 12, 13, 14, 15, 16, 17, 18, 0, 1, 2, 3, 4, 5, 6, 7, 8, 9, 19] rfl
    have hD : va_D (aNew s.heap) ((xW A cA L P G V R N Y S wd (nI T) ft fl ce (nI h) mo) ++ (mW B cA L P G V Rp S Y O D th (nI h) wd (nI T) ft fl cl mo) ++ [(o, .inl (cL, 1, .inr (.inl fo)))]) := hD.sub [10, 11, 12, 13, 14, 15, 16, 17, 18, 0, 1, 2, 3, 4, 5, 6, 7, 8, 9, 19] (by decide) rfl
    refine lv_istore (lv' := [(5, .int (kTide p0 p1)), (0, .ref b), (1, .ref (A 0)), (2, .ref (B 0)), (3, .ref o), (4, .int (nI (4 * i)))]) hx hb dL_law_145 hl (by decide) rfl (fun ls hl => ?_)
    refine lv_aload_n hx hb dL_law_147 rfl (lv_at hl 3 rfl) ?_
    refine lv_aload_n hx hb dL_law_148 rfl (lv_at hl 1 rfl) ?_
    refine lv_iload hx hb dL_law_149 (lv_at hl 5 rfl) ?_
    refine lv_iconst (v := 1) hx hb dL_law_151 (by decide) ?_
    refine lv_iadd hx hb dL_law_152 ?_
    refine lv_topi (fun v9 e9 => ?_)
    have e9 := e9.trans (nI_add (4 * i) 1)
    subst e9
    refine va_sld hx hb hX hbl hbA hS (vp_in_nI (by omega) (by omega)) dL_law_153 ?_
    refine lv_topi (fun v9 e9 => ?_)
    have e9 := (e9.trans hp0.symm).symm
    subst e9
    refine lv_aload_n hx hb dL_law_154 rfl (lv_at hl 1 rfl) ?_
    refine lv_iload hx hb dL_law_155 (lv_at hl 5 rfl) ?_
    refine lv_iconst (v := 2) hx hb dL_law_157 (by decide) ?_
    refine lv_iadd hx hb dL_law_158 ?_
    refine lv_topi (fun v9 e9 => ?_)
    have e9 := e9.trans (nI_add (4 * i) 2)
    subst e9
    refine va_sld hx hb hX hbl hbA hS (vp_in_nI (by omega) (by omega)) dL_law_159 ?_
    refine lv_topi (fun v9 e9 => ?_)
    have e9 := (e9.trans hp1.symm).symm
    subst e9
    have hPc := hP.sub (ws' := (mW B cA L P G V Rp S Y O D th (nI h) wd (nI T) ft fl cl mo)) [9, 10, 11, 12, 13, 14, 15, 16, 17, 18] rfl
    have hDc := hD.sub (ws' := (mW B cA L P G V Rp S Y O D th (nI h) wd (nI T) ft fl cl mo)) [9, 10, 11, 12, 13, 14, 15, 16, 17, 18] (by decide) rfl
    have hFc := va_free (wc := mW B cA L P G V Rp S Y O D th (nI h) wd (nI T) ft fl cl mo) hD hS hA [9, 10, 11, 12, 13, 14, 15, 16, 17, 18] rfl
    have hKc := hK.sub (tys' := tyI cA) [0] rfl
    refine va_calli (va_runV (As := [.int p0, .int p1]) (rest := []) ⟨hx, hb, hml, hown, hts⟩ (c_X1_tide l dG B cA H L P G V Rp S Y O D th (nI h) wd (nI T) ft fl cl mo p0 p1 ) (cwV 2 hts gL_law_X1_tide rfl rfl rfl (by decide +kernel) ⟨Nat.le_of_ble_eq_true rfl, Nat.le_of_ble_eq_true rfl⟩) ⟨fun a9 U g mk q => ⟨q.1, wPre_calling g mk a9 q.2⟩, va_recv hKc hPc (ci := 1) (q0 := 0) rfl rfl, fun U hU hW => ⟨rfl, wPre_of hKc hPc hDc hU hW⟩⟩ rfl rfl hl.1 rfl (lv_room (Nat.le_of_ble_eq_true rfl)) dL_law_160 ⟨(by show _ ≤ 1049; omega), (by show _ ≤ 11971; omega)⟩) hS (fun q _ h => hFc q h) hFc (fun r u t H locs ht hvm hw hB hz1 hk1 hS => ?_)
    obtain ⟨hr2, hu2⟩ := hw.2 hk
    subst hu2
    have hr2 := hr2.symm
    subst hr2
    obtain ⟨hP1, hK1, hD1⟩ := hB
    rw [ht] at hP1
    obtain ⟨hP, hD⟩ := va_join (wr := (xW A cA L P G V R N Y S wd (nI T) ft fl ce (nI h) mo) ++ [(o, .inl (cL, 1, .inr (.inl fo)))]) (w1 := (mW B cA L P G V Rp S Y O D (kTide p0 p1) (nI h) wd (nI T) ft fl cl mo)) hP hD [9, 10, 11, 12, 13, 14, 15, 16, 17, 18] [0, 1, 2, 3, 4, 5, 6, 7, 8, 19] rfl rfl (by decide) (by decide) hk1 hFc hP1 hD1
    have hP : va_P dG vwCl ((xW A cA L P G V R N Y S wd (nI T) ft fl ce (nI h) mo) ++ (mW B cA L P G V Rp S Y O D (kTide p0 p1) (nI h) wd (nI T) ft fl cl mo) ++ [(o, .inl (cL, 1, .inr (.inl fo)))]) H := hP.sub [0, 1, 2, 3, 4, 5, 6, 7, 8, 10, 11, 12, 13, 14, 15, 16, 17, 18, 19, 9] rfl
    have hD : va_D (aNew s.heap) ((xW A cA L P G V R N Y S wd (nI T) ft fl ce (nI h) mo) ++ (mW B cA L P G V Rp S Y O D (kTide p0 p1) (nI h) wd (nI T) ft fl cl mo) ++ [(o, .inl (cL, 1, .inr (.inl fo)))]) := hD.sub [0, 1, 2, 3, 4, 5, 6, 7, 8, 10, 11, 12, 13, 14, 15, 16, 17, 18, 19, 9] (by decide) rfl
    refine lv_istore (lv' := [(6, .int 0), (5, .int (kTide p0 p1)), (0, .ref b), (1, .ref (A 0)), (2, .ref (B 0)), (3, .ref o), (4, .int (nI (4 * i)))]) hx hb dL_law_163 hl (by decide) rfl (fun ls hl => ?_)
    refine lv_aload_n hx hb dL_law_165 rfl (lv_at hl 4 rfl) ?_
    have hPc := hP.sub (ws' := (mW B cA L P G V Rp S Y O D (kTide p0 p1) (nI h) wd (nI T) ft fl cl mo)) [9, 10, 11, 12, 13, 14, 15, 16, 17, 18] rfl
    have hDc := hD.sub (ws' := (mW B cA L P G V Rp S Y O D (kTide p0 p1) (nI h) wd (nI T) ft fl cl mo)) [9, 10, 11, 12, 13, 14, 15, 16, 17, 18] (by decide) rfl
    have hFc := va_free (wc := mW B cA L P G V Rp S Y O D (kTide p0 p1) (nI h) wd (nI T) ft fl cl mo) hD hS hA [9, 10, 11, 12, 13, 14, 15, 16, 17, 18] rfl
    have hKc := hK.sub (tys' := tyI cA) [0] rfl
    refine va_calli (va_runV (As := []) (rest := []) ⟨hx, hb, hml, hown, hts⟩ (c_X1_thrown l dG B cA H L P G V Rp S Y O D (kTide p0 p1) (nI h) wd (nI T) ft fl cl mo) (cwV 0 hts gL_law_X1_thrown rfl rfl rfl (by decide +kernel) ⟨Nat.le_of_ble_eq_true rfl, Nat.le_of_ble_eq_true rfl⟩) ⟨fun a9 U g mk q => ⟨q.1, wPre_calling g mk a9 q.2⟩, va_recv hKc hPc (ci := 1) (q0 := 0) rfl rfl, fun U hU hW => ⟨rfl, wPre_of hKc hPc hDc hU hW⟩⟩ rfl rfl hl.1 rfl (lv_room (Nat.le_of_ble_eq_true rfl)) dL_law_166 ⟨(by show _ ≤ 1049; omega), (by show _ ≤ 11971; omega)⟩) hS (fun q _ h => hFc q h) hFc (fun r u t H locs ht hvm hw hB hz1 hk1 hS => ?_)
    obtain ⟨hr3, hu3⟩ := hw
    subst hu3
    have hr3 := hr3.symm
    subst hr3
    obtain ⟨hP1, hK1, hD1⟩ := hB
    rw [ht] at hP1
    obtain ⟨hP, hD⟩ := va_join (wr := (xW A cA L P G V R N Y S wd (nI T) ft fl ce (nI h) mo) ++ [(o, .inl (cL, 1, .inr (.inl fo)))]) (w1 := (mW B cA L P G V Rp S Y O D (kTide p0 p1) (nI h) wd (nI T) ft fl cl mo)) hP hD [9, 10, 11, 12, 13, 14, 15, 16, 17, 18] [0, 1, 2, 3, 4, 5, 6, 7, 8, 19] rfl rfl (by decide) (by decide) hk1 hFc hP1 hD1
    have hP : va_P dG vwCl ((xW A cA L P G V R N Y S wd (nI T) ft fl ce (nI h) mo) ++ (mW B cA L P G V Rp S Y O D (kTide p0 p1) (nI h) wd (nI T) ft fl cl mo) ++ [(o, .inl (cL, 1, .inr (.inl fo)))]) H := hP.sub [0, 1, 2, 3, 4, 5, 6, 7, 8, 10, 11, 12, 13, 14, 15, 16, 17, 18, 19, 9] rfl
    have hD : va_D (aNew s.heap) ((xW A cA L P G V R N Y S wd (nI T) ft fl ce (nI h) mo) ++ (mW B cA L P G V Rp S Y O D (kTide p0 p1) (nI h) wd (nI T) ft fl cl mo) ++ [(o, .inl (cL, 1, .inr (.inl fo)))]) := hD.sub [0, 1, 2, 3, 4, 5, 6, 7, 8, 10, 11, 12, 13, 14, 15, 16, 17, 18, 19, 9] (by decide) rfl
    refine lv_iload hx hb dL_law_169 (lv_at hl 1 rfl) ?_
    refine lv_icmp_eq (tgt := 176) hx hb dL_law_171 (by decide) (fun _ => ?_) (fun h9 => absurd rfl h9)
    refine lv_iload hx hb dL_law_176 (lv_at hl 1 rfl) ?_
    refine lv_if_ne (tgt := 193) hx hb dL_law_178 (by decide) (fun _ => ?_) (fun h9 => absurd h9 hk)
    refine lv_goto (tgt := 1130) hx hb dL_law_193 (by decide) ?_
    exact k L P G V R N Y S Rp O D T h wd ft fl ce cl (kTide p0 p1) mo fo H locs ls I hP hD hS (lv_sub hl [2, 3, 4, 5, 6] rfl)
set_option maxHeartbeats 1000000 in
set_option maxRecDepth 100000 in
theorem case_price {p : Program} {l : Launch} {e : Env} {s : State} {m : MethodId} {below : List Frame} {meth : Method} {c : Code} {b Ln : Nat} {xs : Nat → Int32} {dG : va_G} {a A B : Nat → Nat} {o : Nat} {cA cL : ClassId} (hl0 : l.stackTraces = false) (C0 : lw_At p s m meth c b Ln xs) (hE : tgE a (aNew s.heap) s s.heap) (hK : va_K dG vwCl (tyL cA cL) s) (hLn : Ln ≤ 2048) {i : Nat} (hi : 4 * i + 4 ≤ Ln) (k : lwAt p l e s m below meth c b dG A B o cA cL 1130 i (20 + i + 1) (3749 + 6 * i + 6)) : lwAt p l e s m below meth c b dG A B o cA cL 196 i (20 + i) (3749 + 6 * i) := by
  obtain ⟨hx, hb, hr, hml, hown, hts0, hX, hbl, hlocks, hgv⟩ := C0
  have hts : ∀ w ∈ wsL_law, w.before #[Value.ref b] s = true := fun w h => hts0 w (wsL_law_in w h)
  have hA : ∀ q : Nat, s.heap.size ≤ q → aNew s.heap q := fun _ h => h
  have hbA : ¬ aNew s.heap b := Nat.not_le.mpr hbl
  intro L P G V R N Y S Rp O D T h wd ft fl ce cl th mo fo H locs ls I hP hD hS hl
  obtain ⟨p0, hp0⟩ : ∃ z, z = xs (nI (4 * i + 1)).toNatClampNeg := ⟨_, rfl⟩
  obtain ⟨p1, hp1⟩ : ∃ z, z = xs (nI (4 * i + 2)).toNatClampNeg := ⟨_, rfl⟩
  refine lv_aload_n hx hb dL_law_196 rfl (lv_at hl 1 rfl) ?_
  refine lv_aload_n hx hb dL_law_197 rfl (lv_at hl 0 rfl) ?_
  refine lv_iload hx hb dL_law_198 (lv_at hl 4 rfl) ?_
  refine lv_iconst (v := 1) hx hb dL_law_200 (by decide) ?_
  refine lv_iadd hx hb dL_law_201 ?_
  refine lv_topi (fun v9 e9 => ?_)
  have e9 := e9.trans (nI_add (4 * i) 1)
  subst e9
  refine va_sld hx hb hX hbl hbA hS (vp_in_nI (by omega) (by omega)) dL_law_202 ?_
  refine lv_topi (fun v9 e9 => ?_)
  have e9 := (e9.trans hp0.symm).symm
  subst e9
  refine lv_aload_n hx hb dL_law_203 rfl (lv_at hl 0 rfl) ?_
  refine lv_iload hx hb dL_law_204 (lv_at hl 4 rfl) ?_
  refine lv_iconst (v := 2) hx hb dL_law_206 (by decide) ?_
  refine lv_iadd hx hb dL_law_207 ?_
  refine lv_topi (fun v9 e9 => ?_)
  have e9 := e9.trans (nI_add (4 * i) 2)
  subst e9
  refine va_sld hx hb hX hbl hbA hS (vp_in_nI (by omega) (by omega)) dL_law_208 ?_
  refine lv_topi (fun v9 e9 => ?_)
  have e9 := (e9.trans hp1.symm).symm
  subst e9
  refine lv_aload_n hx hb dL_law_209 rfl (lv_at hl 3 rfl) ?_
  by_cases hk : kPrice p0 p1 = 0
  · have hPc := hP.sub (ws' := (xW A cA L P G V R N Y S wd (nI T) ft fl ce (nI h) mo) ++ ([(o, .inl (cL, 1, .inr (.inl fo)))])) [0, 1, 2, 3, 4, 5, 6, 7, 8, 19] rfl
    have hDc := hD.sub (ws' := (xW A cA L P G V R N Y S wd (nI T) ft fl ce (nI h) mo) ++ ([(o, .inl (cL, 1, .inr (.inl fo)))])) [0, 1, 2, 3, 4, 5, 6, 7, 8, 19] (by decide) rfl
    have hFc := va_free (wc := (xW A cA L P G V R N Y S wd (nI T) ft fl ce (nI h) mo) ++ ([(o, .inl (cL, 1, .inr (.inl fo)))])) hD hS hA [0, 1, 2, 3, 4, 5, 6, 7, 8, 19] rfl
    refine va_calli (vx_runSW (As := [.ref (A 0), .int p0, .int p1, .ref o]) (rest := []) ⟨hx, hb, hml, hown, hts⟩ (c_L_price l hl0 dG a A o cA cL H L P G V R N Y S T h wd ft fl ce mo fo p0 p1 I.1.1 I.1.2) (vx_cwSW 4 hts gL_law_L_price rfl rfl rfl (by decide +kernel) ⟨Nat.le_of_ble_eq_true rfl, Nat.le_of_ble_eq_true rfl⟩) ⟨fun a9 U g mk q => ⟨q.1, wPre_calling g mk a9 q.2.1, q.2.2.calling g mk a9⟩, fun U hU hW => ⟨rfl, wPre_of hK hPc hDc hU hW, hE.go hW hS hFc⟩⟩ rfl rfl hl.1 rfl (lv_room (Nat.le_of_ble_eq_true rfl)) dL_law_210 ⟨(by show _ ≤ 1049; omega), (by show _ ≤ 11971; omega)⟩) hS (fun q _ h => hFc q h) hFc (fun r u t H locs ht hvm hw hB hz1 hk1 hS => ?_)
    obtain ⟨hr1, hu0, hu1⟩ := hw
    have hu := hu0 hk
    subst hu
    have hr1 := (hr1.trans hk).symm
    subst hr1
    obtain ⟨hP1, hK1, hD1⟩ := hB
    rw [ht] at hP1
    obtain ⟨hP, hD⟩ := va_join (wr := (mW B cA L P G V Rp S Y O D th (nI h) wd (nI T) ft fl cl mo)) (w1 := (xW A cA L (upd P p0.toNatClampNeg p1) G V R N Y S wd (nI T) ft fl ce (nI h) mo) ++ [(o, .inl (cL, 1, .inr (.inl (vp_updL fo 0 (P p0.toNatClampNeg).toInt64))))]) hP hD [0, 1, 2, 3, 4, 5, 6, 7, 8, 19] [9, 10, 11, 12, 13, 14, 15, 16, 17, 18] rfl rfl (by decide) (by decide) hk1 hFc hP1 hD1
    have hP : va_P dG vwCl ((xW A cA L (upd P p0.toNatClampNeg p1) G V R N Y S wd (nI T) ft fl ce (nI h) mo) ++ (mW B cA L P G V Rp S Y O D th (nI h) wd (nI T) ft fl cl mo) ++ [(o, .inl (cL, 1, .inr (.inl (vp_updL fo 0 (P p0.toNatClampNeg).toInt64))))]) H := hP.sub [10, 11, 12, 13, 14, 15, 16, 17, 18, 0, 1, 2, 3, 4, 5, 6, 7, 8, 9, 19] rfl
    have hD : va_D (aNew s.heap) ((xW A cA L (upd P p0.toNatClampNeg p1) G V R N Y S wd (nI T) ft fl ce (nI h) mo) ++ (mW B cA L P G V Rp S Y O D th (nI h) wd (nI T) ft fl cl mo) ++ [(o, .inl (cL, 1, .inr (.inl (vp_updL fo 0 (P p0.toNatClampNeg).toInt64))))]) := hD.sub [10, 11, 12, 13, 14, 15, 16, 17, 18, 0, 1, 2, 3, 4, 5, 6, 7, 8, 9, 19] (by decide) rfl
    refine lv_istore (lv' := [(5, .int 0), (0, .ref b), (1, .ref (A 0)), (2, .ref (B 0)), (3, .ref o), (4, .int (nI (4 * i)))]) hx hb dL_law_213 hl (by decide) rfl (fun ls hl => ?_)
    refine lv_aload_n hx hb dL_law_215 rfl (lv_at hl 3 rfl) ?_
    refine lv_aload_n hx hb dL_law_216 rfl (lv_at hl 1 rfl) ?_
    refine lv_iload hx hb dL_law_217 (lv_at hl 5 rfl) ?_
    refine lv_iconst (v := 1) hx hb dL_law_219 (by decide) ?_
    refine lv_iadd hx hb dL_law_220 ?_
    refine lv_topi (fun v9 e9 => ?_)
    have e9 := e9.trans (nI_add (4 * i) 1)
    subst e9
    refine va_sld hx hb hX hbl hbA hS (vp_in_nI (by omega) (by omega)) dL_law_221 ?_
    refine lv_topi (fun v9 e9 => ?_)
    have e9 := (e9.trans hp0.symm).symm
    subst e9
    refine lv_aload_n hx hb dL_law_222 rfl (lv_at hl 1 rfl) ?_
    refine lv_iload hx hb dL_law_223 (lv_at hl 5 rfl) ?_
    refine lv_iconst (v := 2) hx hb dL_law_225 (by decide) ?_
    refine lv_iadd hx hb dL_law_226 ?_
    refine lv_topi (fun v9 e9 => ?_)
    have e9 := e9.trans (nI_add (4 * i) 2)
    subst e9
    refine va_sld hx hb hX hbl hbA hS (vp_in_nI (by omega) (by omega)) dL_law_227 ?_
    refine lv_topi (fun v9 e9 => ?_)
    have e9 := (e9.trans hp1.symm).symm
    subst e9
    have hPc := hP.sub (ws' := (mW B cA L P G V Rp S Y O D th (nI h) wd (nI T) ft fl cl mo)) [9, 10, 11, 12, 13, 14, 15, 16, 17, 18] rfl
    have hDc := hD.sub (ws' := (mW B cA L P G V Rp S Y O D th (nI h) wd (nI T) ft fl cl mo)) [9, 10, 11, 12, 13, 14, 15, 16, 17, 18] (by decide) rfl
    have hFc := va_free (wc := mW B cA L P G V Rp S Y O D th (nI h) wd (nI T) ft fl cl mo) hD hS hA [9, 10, 11, 12, 13, 14, 15, 16, 17, 18] rfl
    have hKc := hK.sub (tys' := tyI cA) [0] rfl
    refine va_calli (va_runV (As := [.int p0, .int p1]) (rest := []) ⟨hx, hb, hml, hown, hts⟩ (c_X1_price l dG B cA H L P G V Rp S Y O D th (nI h) wd (nI T) ft fl cl mo p0 p1 ) (cwV 2 hts gL_law_X1_price rfl rfl rfl (by decide +kernel) ⟨Nat.le_of_ble_eq_true rfl, Nat.le_of_ble_eq_true rfl⟩) ⟨fun a9 U g mk q => ⟨q.1, wPre_calling g mk a9 q.2⟩, va_recv hKc hPc (ci := 1) (q0 := 0) rfl rfl, fun U hU hW => ⟨rfl, wPre_of hKc hPc hDc hU hW⟩⟩ rfl rfl hl.1 rfl (lv_room (Nat.le_of_ble_eq_true rfl)) dL_law_228 ⟨(by show _ ≤ 1049; omega), (by show _ ≤ 11971; omega)⟩) hS (fun q _ h => hFc q h) hFc (fun r u t H locs ht hvm hw hB hz1 hk1 hS => ?_)
    obtain ⟨hr2, hu2⟩ := hw.1 hk
    subst hu2
    have hr2 := hr2.symm
    subst hr2
    obtain ⟨hP1, hK1, hD1⟩ := hB
    rw [ht] at hP1
    obtain ⟨hP, hD⟩ := va_join (wr := (xW A cA L (upd P p0.toNatClampNeg p1) G V R N Y S wd (nI T) ft fl ce (nI h) mo) ++ [(o, .inl (cL, 1, .inr (.inl (vp_updL fo 0 (P p0.toNatClampNeg).toInt64))))]) (w1 := (mW B cA L (upd P p0.toNatClampNeg p1) G V Rp S Y O D 0 (nI h) wd (nI T) ft fl cl mo)) hP hD [9, 10, 11, 12, 13, 14, 15, 16, 17, 18] [0, 1, 2, 3, 4, 5, 6, 7, 8, 19] rfl rfl (by decide) (by decide) hk1 hFc hP1 hD1
    have hP : va_P dG vwCl ((xW A cA L (upd P p0.toNatClampNeg p1) G V R N Y S wd (nI T) ft fl ce (nI h) mo) ++ (mW B cA L (upd P p0.toNatClampNeg p1) G V Rp S Y O D 0 (nI h) wd (nI T) ft fl cl mo) ++ [(o, .inl (cL, 1, .inr (.inl (vp_updL fo 0 (P p0.toNatClampNeg).toInt64))))]) H := hP.sub [0, 1, 2, 3, 4, 5, 6, 7, 8, 10, 11, 12, 13, 14, 15, 16, 17, 18, 19, 9] rfl
    have hD : va_D (aNew s.heap) ((xW A cA L (upd P p0.toNatClampNeg p1) G V R N Y S wd (nI T) ft fl ce (nI h) mo) ++ (mW B cA L (upd P p0.toNatClampNeg p1) G V Rp S Y O D 0 (nI h) wd (nI T) ft fl cl mo) ++ [(o, .inl (cL, 1, .inr (.inl (vp_updL fo 0 (P p0.toNatClampNeg).toInt64))))]) := hD.sub [0, 1, 2, 3, 4, 5, 6, 7, 8, 10, 11, 12, 13, 14, 15, 16, 17, 18, 19, 9] (by decide) rfl
    refine lv_istore (lv' := [(6, .int (P p0.toNatClampNeg)), (5, .int 0), (0, .ref b), (1, .ref (A 0)), (2, .ref (B 0)), (3, .ref o), (4, .int (nI (4 * i)))]) hx hb dL_law_231 hl (by decide) rfl (fun ls hl => ?_)
    refine lv_aload_n hx hb dL_law_233 rfl (lv_at hl 4 rfl) ?_
    have hPc := hP.sub (ws' := (mW B cA L (upd P p0.toNatClampNeg p1) G V Rp S Y O D 0 (nI h) wd (nI T) ft fl cl mo)) [9, 10, 11, 12, 13, 14, 15, 16, 17, 18] rfl
    have hDc := hD.sub (ws' := (mW B cA L (upd P p0.toNatClampNeg p1) G V Rp S Y O D 0 (nI h) wd (nI T) ft fl cl mo)) [9, 10, 11, 12, 13, 14, 15, 16, 17, 18] (by decide) rfl
    have hFc := va_free (wc := mW B cA L (upd P p0.toNatClampNeg p1) G V Rp S Y O D 0 (nI h) wd (nI T) ft fl cl mo) hD hS hA [9, 10, 11, 12, 13, 14, 15, 16, 17, 18] rfl
    have hKc := hK.sub (tys' := tyI cA) [0] rfl
    refine va_calli (va_runV (As := []) (rest := []) ⟨hx, hb, hml, hown, hts⟩ (c_X1_thrown l dG B cA H L (upd P p0.toNatClampNeg p1) G V Rp S Y O D 0 (nI h) wd (nI T) ft fl cl mo) (cwV 0 hts gL_law_X1_thrown rfl rfl rfl (by decide +kernel) ⟨Nat.le_of_ble_eq_true rfl, Nat.le_of_ble_eq_true rfl⟩) ⟨fun a9 U g mk q => ⟨q.1, wPre_calling g mk a9 q.2⟩, va_recv hKc hPc (ci := 1) (q0 := 0) rfl rfl, fun U hU hW => ⟨rfl, wPre_of hKc hPc hDc hU hW⟩⟩ rfl rfl hl.1 rfl (lv_room (Nat.le_of_ble_eq_true rfl)) dL_law_234 ⟨(by show _ ≤ 1049; omega), (by show _ ≤ 11971; omega)⟩) hS (fun q _ h => hFc q h) hFc (fun r u t H locs ht hvm hw hB hz1 hk1 hS => ?_)
    obtain ⟨hr3, hu3⟩ := hw
    subst hu3
    have hr3 := hr3.symm
    subst hr3
    obtain ⟨hP1, hK1, hD1⟩ := hB
    rw [ht] at hP1
    obtain ⟨hP, hD⟩ := va_join (wr := (xW A cA L (upd P p0.toNatClampNeg p1) G V R N Y S wd (nI T) ft fl ce (nI h) mo) ++ [(o, .inl (cL, 1, .inr (.inl (vp_updL fo 0 (P p0.toNatClampNeg).toInt64))))]) (w1 := (mW B cA L (upd P p0.toNatClampNeg p1) G V Rp S Y O D 0 (nI h) wd (nI T) ft fl cl mo)) hP hD [9, 10, 11, 12, 13, 14, 15, 16, 17, 18] [0, 1, 2, 3, 4, 5, 6, 7, 8, 19] rfl rfl (by decide) (by decide) hk1 hFc hP1 hD1
    have hP : va_P dG vwCl ((xW A cA L (upd P p0.toNatClampNeg p1) G V R N Y S wd (nI T) ft fl ce (nI h) mo) ++ (mW B cA L (upd P p0.toNatClampNeg p1) G V Rp S Y O D 0 (nI h) wd (nI T) ft fl cl mo) ++ [(o, .inl (cL, 1, .inr (.inl (vp_updL fo 0 (P p0.toNatClampNeg).toInt64))))]) H := hP.sub [0, 1, 2, 3, 4, 5, 6, 7, 8, 10, 11, 12, 13, 14, 15, 16, 17, 18, 19, 9] rfl
    have hD : va_D (aNew s.heap) ((xW A cA L (upd P p0.toNatClampNeg p1) G V R N Y S wd (nI T) ft fl ce (nI h) mo) ++ (mW B cA L (upd P p0.toNatClampNeg p1) G V Rp S Y O D 0 (nI h) wd (nI T) ft fl cl mo) ++ [(o, .inl (cL, 1, .inr (.inl (vp_updL fo 0 (P p0.toNatClampNeg).toInt64))))]) := hD.sub [0, 1, 2, 3, 4, 5, 6, 7, 8, 10, 11, 12, 13, 14, 15, 16, 17, 18, 19, 9] (by decide) rfl
    refine lv_iload hx hb dL_law_237 (lv_at hl 1 rfl) ?_
    refine lv_icmp_eq (tgt := 244) hx hb dL_law_239 (by decide) (fun _ => ?_) (fun h9 => absurd (by decide) h9)
    refine lv_iload hx hb dL_law_244 (lv_at hl 1 rfl) ?_
    refine lv_if_ne (tgt := 261) hx hb dL_law_246 (by decide) (fun h9 => absurd (by decide) h9) (fun _ => ?_)
    refine lv_aload_n hx hb dL_law_249 rfl (lv_at hl 5 rfl) ?_
    refine lv_iconst (v := 0) hx hb dL_law_250 (by decide) ?_
    refine va_lald hx hb hK hP 19 1 rfl rfl (i := 0) (vp_in_nI (n := 0) (by omega) (by omega)) dL_law_251 ?_
    refine lv_iload hx hb dL_law_252 (lv_at hl 0 rfl) ?_
    refine lv_i2l hx hb dL_law_254 rfl ?_
    refine W.lcmp hx hb dL_law_255 ?_
    refine lv_topi (fun v9 e9 => ?_)
    have e9 := e9.trans (lgc_eq rfl)
    subst e9
    refine lv_if_eq (tgt := 261) hx hb dL_law_256 (by decide) (fun _ => ?_) (fun h9 => absurd (by decide) h9)
    refine lv_goto (tgt := 1130) hx hb dL_law_261 (by decide) ?_
    exact k L (upd P p0.toNatClampNeg p1) G V R N Y S Rp O D T h wd ft fl ce cl 0 mo (vp_updL fo 0 (P p0.toNatClampNeg).toInt64) H locs ls (Inv_price I hk) hP hD hS (lv_sub hl [2, 3, 4, 5, 6] rfl)
  · have hPc := hP.sub (ws' := (xW A cA L P G V R N Y S wd (nI T) ft fl ce (nI h) mo) ++ ([(o, .inl (cL, 1, .inr (.inl fo)))])) [0, 1, 2, 3, 4, 5, 6, 7, 8, 19] rfl
    have hDc := hD.sub (ws' := (xW A cA L P G V R N Y S wd (nI T) ft fl ce (nI h) mo) ++ ([(o, .inl (cL, 1, .inr (.inl fo)))])) [0, 1, 2, 3, 4, 5, 6, 7, 8, 19] (by decide) rfl
    have hFc := va_free (wc := (xW A cA L P G V R N Y S wd (nI T) ft fl ce (nI h) mo) ++ ([(o, .inl (cL, 1, .inr (.inl fo)))])) hD hS hA [0, 1, 2, 3, 4, 5, 6, 7, 8, 19] rfl
    refine va_calli (vx_runSW (As := [.ref (A 0), .int p0, .int p1, .ref o]) (rest := []) ⟨hx, hb, hml, hown, hts⟩ (c_L_price l hl0 dG a A o cA cL H L P G V R N Y S T h wd ft fl ce mo fo p0 p1 I.1.1 I.1.2) (vx_cwSW 4 hts gL_law_L_price rfl rfl rfl (by decide +kernel) ⟨Nat.le_of_ble_eq_true rfl, Nat.le_of_ble_eq_true rfl⟩) ⟨fun a9 U g mk q => ⟨q.1, wPre_calling g mk a9 q.2.1, q.2.2.calling g mk a9⟩, fun U hU hW => ⟨rfl, wPre_of hK hPc hDc hU hW, hE.go hW hS hFc⟩⟩ rfl rfl hl.1 rfl (lv_room (Nat.le_of_ble_eq_true rfl)) dL_law_210 ⟨(by show _ ≤ 1049; omega), (by show _ ≤ 11971; omega)⟩) hS (fun q _ h => hFc q h) hFc (fun r u t H locs ht hvm hw hB hz1 hk1 hS => ?_)
    obtain ⟨hr1, hu0, hu1⟩ := hw
    have hu := hu1 hk
    subst hu
    have hr1 := hr1.symm
    subst hr1
    obtain ⟨hP1, hK1, hD1⟩ := hB
    rw [ht] at hP1
    obtain ⟨hP, hD⟩ := va_join (wr := (mW B cA L P G V Rp S Y O D th (nI h) wd (nI T) ft fl cl mo)) (w1 := (xW A cA L P G V R N Y S wd (nI T) ft fl ce (nI h) mo) ++ [(o, .inl (cL, 1, .inr (.inl fo)))]) hP hD [0, 1, 2, 3, 4, 5, 6, 7, 8, 19] [9, 10, 11, 12, 13, 14, 15, 16, 17, 18] rfl rfl (by decide) (by decide) hk1 hFc hP1 hD1
    have hP : va_P dG vwCl ((xW A cA L P G V R N Y S wd (nI T) ft fl ce (nI h) mo) ++ (mW B cA L P G V Rp S Y O D th (nI h) wd (nI T) ft fl cl mo) ++ [(o, .inl (cL, 1, .inr (.inl fo)))]) H := hP.sub [10, 11, 12, 13, 14, 15, 16, 17, 18, 0, 1, 2, 3, 4, 5, 6, 7, 8, 9, 19] rfl
    have hD : va_D (aNew s.heap) ((xW A cA L P G V R N Y S wd (nI T) ft fl ce (nI h) mo) ++ (mW B cA L P G V Rp S Y O D th (nI h) wd (nI T) ft fl cl mo) ++ [(o, .inl (cL, 1, .inr (.inl fo)))]) := hD.sub [10, 11, 12, 13, 14, 15, 16, 17, 18, 0, 1, 2, 3, 4, 5, 6, 7, 8, 9, 19] (by decide) rfl
    refine lv_istore (lv' := [(5, .int (kPrice p0 p1)), (0, .ref b), (1, .ref (A 0)), (2, .ref (B 0)), (3, .ref o), (4, .int (nI (4 * i)))]) hx hb dL_law_213 hl (by decide) rfl (fun ls hl => ?_)
    refine lv_aload_n hx hb dL_law_215 rfl (lv_at hl 3 rfl) ?_
    refine lv_aload_n hx hb dL_law_216 rfl (lv_at hl 1 rfl) ?_
    refine lv_iload hx hb dL_law_217 (lv_at hl 5 rfl) ?_
    refine lv_iconst (v := 1) hx hb dL_law_219 (by decide) ?_
    refine lv_iadd hx hb dL_law_220 ?_
    refine lv_topi (fun v9 e9 => ?_)
    have e9 := e9.trans (nI_add (4 * i) 1)
    subst e9
    refine va_sld hx hb hX hbl hbA hS (vp_in_nI (by omega) (by omega)) dL_law_221 ?_
    refine lv_topi (fun v9 e9 => ?_)
    have e9 := (e9.trans hp0.symm).symm
    subst e9
    refine lv_aload_n hx hb dL_law_222 rfl (lv_at hl 1 rfl) ?_
    refine lv_iload hx hb dL_law_223 (lv_at hl 5 rfl) ?_
    refine lv_iconst (v := 2) hx hb dL_law_225 (by decide) ?_
    refine lv_iadd hx hb dL_law_226 ?_
    refine lv_topi (fun v9 e9 => ?_)
    have e9 := e9.trans (nI_add (4 * i) 2)
    subst e9
    refine va_sld hx hb hX hbl hbA hS (vp_in_nI (by omega) (by omega)) dL_law_227 ?_
    refine lv_topi (fun v9 e9 => ?_)
    have e9 := (e9.trans hp1.symm).symm
    subst e9
    have hPc := hP.sub (ws' := (mW B cA L P G V Rp S Y O D th (nI h) wd (nI T) ft fl cl mo)) [9, 10, 11, 12, 13, 14, 15, 16, 17, 18] rfl
    have hDc := hD.sub (ws' := (mW B cA L P G V Rp S Y O D th (nI h) wd (nI T) ft fl cl mo)) [9, 10, 11, 12, 13, 14, 15, 16, 17, 18] (by decide) rfl
    have hFc := va_free (wc := mW B cA L P G V Rp S Y O D th (nI h) wd (nI T) ft fl cl mo) hD hS hA [9, 10, 11, 12, 13, 14, 15, 16, 17, 18] rfl
    have hKc := hK.sub (tys' := tyI cA) [0] rfl
    refine va_calli (va_runV (As := [.int p0, .int p1]) (rest := []) ⟨hx, hb, hml, hown, hts⟩ (c_X1_price l dG B cA H L P G V Rp S Y O D th (nI h) wd (nI T) ft fl cl mo p0 p1 ) (cwV 2 hts gL_law_X1_price rfl rfl rfl (by decide +kernel) ⟨Nat.le_of_ble_eq_true rfl, Nat.le_of_ble_eq_true rfl⟩) ⟨fun a9 U g mk q => ⟨q.1, wPre_calling g mk a9 q.2⟩, va_recv hKc hPc (ci := 1) (q0 := 0) rfl rfl, fun U hU hW => ⟨rfl, wPre_of hKc hPc hDc hU hW⟩⟩ rfl rfl hl.1 rfl (lv_room (Nat.le_of_ble_eq_true rfl)) dL_law_228 ⟨(by show _ ≤ 1049; omega), (by show _ ≤ 11971; omega)⟩) hS (fun q _ h => hFc q h) hFc (fun r u t H locs ht hvm hw hB hz1 hk1 hS => ?_)
    obtain ⟨hr2, hu2⟩ := hw.2 hk
    subst hu2
    have hr2 := hr2.symm
    subst hr2
    obtain ⟨hP1, hK1, hD1⟩ := hB
    rw [ht] at hP1
    obtain ⟨hP, hD⟩ := va_join (wr := (xW A cA L P G V R N Y S wd (nI T) ft fl ce (nI h) mo) ++ [(o, .inl (cL, 1, .inr (.inl fo)))]) (w1 := (mW B cA L P G V Rp S Y O D (kPrice p0 p1) (nI h) wd (nI T) ft fl cl mo)) hP hD [9, 10, 11, 12, 13, 14, 15, 16, 17, 18] [0, 1, 2, 3, 4, 5, 6, 7, 8, 19] rfl rfl (by decide) (by decide) hk1 hFc hP1 hD1
    have hP : va_P dG vwCl ((xW A cA L P G V R N Y S wd (nI T) ft fl ce (nI h) mo) ++ (mW B cA L P G V Rp S Y O D (kPrice p0 p1) (nI h) wd (nI T) ft fl cl mo) ++ [(o, .inl (cL, 1, .inr (.inl fo)))]) H := hP.sub [0, 1, 2, 3, 4, 5, 6, 7, 8, 10, 11, 12, 13, 14, 15, 16, 17, 18, 19, 9] rfl
    have hD : va_D (aNew s.heap) ((xW A cA L P G V R N Y S wd (nI T) ft fl ce (nI h) mo) ++ (mW B cA L P G V Rp S Y O D (kPrice p0 p1) (nI h) wd (nI T) ft fl cl mo) ++ [(o, .inl (cL, 1, .inr (.inl fo)))]) := hD.sub [0, 1, 2, 3, 4, 5, 6, 7, 8, 10, 11, 12, 13, 14, 15, 16, 17, 18, 19, 9] (by decide) rfl
    refine lv_istore (lv' := [(6, .int 0), (5, .int (kPrice p0 p1)), (0, .ref b), (1, .ref (A 0)), (2, .ref (B 0)), (3, .ref o), (4, .int (nI (4 * i)))]) hx hb dL_law_231 hl (by decide) rfl (fun ls hl => ?_)
    refine lv_aload_n hx hb dL_law_233 rfl (lv_at hl 4 rfl) ?_
    have hPc := hP.sub (ws' := (mW B cA L P G V Rp S Y O D (kPrice p0 p1) (nI h) wd (nI T) ft fl cl mo)) [9, 10, 11, 12, 13, 14, 15, 16, 17, 18] rfl
    have hDc := hD.sub (ws' := (mW B cA L P G V Rp S Y O D (kPrice p0 p1) (nI h) wd (nI T) ft fl cl mo)) [9, 10, 11, 12, 13, 14, 15, 16, 17, 18] (by decide) rfl
    have hFc := va_free (wc := mW B cA L P G V Rp S Y O D (kPrice p0 p1) (nI h) wd (nI T) ft fl cl mo) hD hS hA [9, 10, 11, 12, 13, 14, 15, 16, 17, 18] rfl
    have hKc := hK.sub (tys' := tyI cA) [0] rfl
    refine va_calli (va_runV (As := []) (rest := []) ⟨hx, hb, hml, hown, hts⟩ (c_X1_thrown l dG B cA H L P G V Rp S Y O D (kPrice p0 p1) (nI h) wd (nI T) ft fl cl mo) (cwV 0 hts gL_law_X1_thrown rfl rfl rfl (by decide +kernel) ⟨Nat.le_of_ble_eq_true rfl, Nat.le_of_ble_eq_true rfl⟩) ⟨fun a9 U g mk q => ⟨q.1, wPre_calling g mk a9 q.2⟩, va_recv hKc hPc (ci := 1) (q0 := 0) rfl rfl, fun U hU hW => ⟨rfl, wPre_of hKc hPc hDc hU hW⟩⟩ rfl rfl hl.1 rfl (lv_room (Nat.le_of_ble_eq_true rfl)) dL_law_234 ⟨(by show _ ≤ 1049; omega), (by show _ ≤ 11971; omega)⟩) hS (fun q _ h => hFc q h) hFc (fun r u t H locs ht hvm hw hB hz1 hk1 hS => ?_)
    obtain ⟨hr3, hu3⟩ := hw
    subst hu3
    have hr3 := hr3.symm
    subst hr3
    obtain ⟨hP1, hK1, hD1⟩ := hB
    rw [ht] at hP1
    obtain ⟨hP, hD⟩ := va_join (wr := (xW A cA L P G V R N Y S wd (nI T) ft fl ce (nI h) mo) ++ [(o, .inl (cL, 1, .inr (.inl fo)))]) (w1 := (mW B cA L P G V Rp S Y O D (kPrice p0 p1) (nI h) wd (nI T) ft fl cl mo)) hP hD [9, 10, 11, 12, 13, 14, 15, 16, 17, 18] [0, 1, 2, 3, 4, 5, 6, 7, 8, 19] rfl rfl (by decide) (by decide) hk1 hFc hP1 hD1
    have hP : va_P dG vwCl ((xW A cA L P G V R N Y S wd (nI T) ft fl ce (nI h) mo) ++ (mW B cA L P G V Rp S Y O D (kPrice p0 p1) (nI h) wd (nI T) ft fl cl mo) ++ [(o, .inl (cL, 1, .inr (.inl fo)))]) H := hP.sub [0, 1, 2, 3, 4, 5, 6, 7, 8, 10, 11, 12, 13, 14, 15, 16, 17, 18, 19, 9] rfl
    have hD : va_D (aNew s.heap) ((xW A cA L P G V R N Y S wd (nI T) ft fl ce (nI h) mo) ++ (mW B cA L P G V Rp S Y O D (kPrice p0 p1) (nI h) wd (nI T) ft fl cl mo) ++ [(o, .inl (cL, 1, .inr (.inl fo)))]) := hD.sub [0, 1, 2, 3, 4, 5, 6, 7, 8, 10, 11, 12, 13, 14, 15, 16, 17, 18, 19, 9] (by decide) rfl
    refine lv_iload hx hb dL_law_237 (lv_at hl 1 rfl) ?_
    refine lv_icmp_eq (tgt := 244) hx hb dL_law_239 (by decide) (fun _ => ?_) (fun h9 => absurd rfl h9)
    refine lv_iload hx hb dL_law_244 (lv_at hl 1 rfl) ?_
    refine lv_if_ne (tgt := 261) hx hb dL_law_246 (by decide) (fun _ => ?_) (fun h9 => absurd h9 hk)
    refine lv_goto (tgt := 1130) hx hb dL_law_261 (by decide) ?_
    exact k L P G V R N Y S Rp O D T h wd ft fl ce cl (kPrice p0 p1) mo fo H locs ls I hP hD hS (lv_sub hl [2, 3, 4, 5, 6] rfl)
set_option maxHeartbeats 1000000 in
set_option maxRecDepth 100000 in
theorem case_wind {p : Program} {l : Launch} {e : Env} {s : State} {m : MethodId} {below : List Frame} {meth : Method} {c : Code} {b Ln : Nat} {xs : Nat → Int32} {dG : va_G} {a A B : Nat → Nat} {o : Nat} {cA cL : ClassId} (hl0 : l.stackTraces = false) (C0 : lw_At p s m meth c b Ln xs) (hE : tgE a (aNew s.heap) s s.heap) (hK : va_K dG vwCl (tyL cA cL) s) (hLn : Ln ≤ 2048) {i : Nat} (hi : 4 * i + 4 ≤ Ln) (k : lwAt p l e s m below meth c b dG A B o cA cL 1130 i (20 + i + 1) (3749 + 6 * i + 6)) : lwAt p l e s m below meth c b dG A B o cA cL 264 i (20 + i) (3749 + 6 * i) := by
  obtain ⟨hx, hb, hr, hml, hown, hts0, hX, hbl, hlocks, hgv⟩ := C0
  have hts : ∀ w ∈ wsL_law, w.before #[Value.ref b] s = true := fun w h => hts0 w (wsL_law_in w h)
  have hA : ∀ q : Nat, s.heap.size ≤ q → aNew s.heap q := fun _ h => h
  have hbA : ¬ aNew s.heap b := Nat.not_le.mpr hbl
  intro L P G V R N Y S Rp O D T h wd ft fl ce cl th mo fo H locs ls I hP hD hS hl
  obtain ⟨p0, hp0⟩ : ∃ z, z = xs (nI (4 * i + 1)).toNatClampNeg := ⟨_, rfl⟩
  refine lv_aload_n hx hb dL_law_264 rfl (lv_at hl 1 rfl) ?_
  refine lv_aload_n hx hb dL_law_265 rfl (lv_at hl 0 rfl) ?_
  refine lv_iload hx hb dL_law_266 (lv_at hl 4 rfl) ?_
  refine lv_iconst (v := 1) hx hb dL_law_268 (by decide) ?_
  refine lv_iadd hx hb dL_law_269 ?_
  refine lv_topi (fun v9 e9 => ?_)
  have e9 := e9.trans (nI_add (4 * i) 1)
  subst e9
  refine va_sld hx hb hX hbl hbA hS (vp_in_nI (by omega) (by omega)) dL_law_270 ?_
  refine lv_topi (fun v9 e9 => ?_)
  have e9 := (e9.trans hp0.symm).symm
  subst e9
  refine lv_aload_n hx hb dL_law_271 rfl (lv_at hl 3 rfl) ?_
  by_cases hk : kWind p0 = 0
  · have hPc := hP.sub (ws' := (xW A cA L P G V R N Y S wd (nI T) ft fl ce (nI h) mo) ++ ([(o, .inl (cL, 1, .inr (.inl fo)))])) [0, 1, 2, 3, 4, 5, 6, 7, 8, 19] rfl
    have hDc := hD.sub (ws' := (xW A cA L P G V R N Y S wd (nI T) ft fl ce (nI h) mo) ++ ([(o, .inl (cL, 1, .inr (.inl fo)))])) [0, 1, 2, 3, 4, 5, 6, 7, 8, 19] (by decide) rfl
    have hFc := va_free (wc := (xW A cA L P G V R N Y S wd (nI T) ft fl ce (nI h) mo) ++ ([(o, .inl (cL, 1, .inr (.inl fo)))])) hD hS hA [0, 1, 2, 3, 4, 5, 6, 7, 8, 19] rfl
    refine va_calli (vx_runSW (As := [.ref (A 0), .int p0, .ref o]) (rest := []) ⟨hx, hb, hml, hown, hts⟩ (c_L_wind l hl0 dG a A o cA cL H L P G V R N Y S T h wd ft fl ce mo fo p0 I.1.1 I.1.2) (vx_cwSW 3 hts gL_law_L_wind rfl rfl rfl (by decide +kernel) ⟨Nat.le_of_ble_eq_true rfl, Nat.le_of_ble_eq_true rfl⟩) ⟨fun a9 U g mk q => ⟨q.1, wPre_calling g mk a9 q.2.1, q.2.2.calling g mk a9⟩, fun U hU hW => ⟨rfl, wPre_of hK hPc hDc hU hW, hE.go hW hS hFc⟩⟩ rfl rfl hl.1 rfl (lv_room (Nat.le_of_ble_eq_true rfl)) dL_law_272 ⟨(by show _ ≤ 1049; omega), (by show _ ≤ 11971; omega)⟩) hS (fun q _ h => hFc q h) hFc (fun r u t H locs ht hvm hw hB hz1 hk1 hS => ?_)
    obtain ⟨hr1, hu0, hu1⟩ := hw
    have hu := hu0 hk
    subst hu
    have hr1 := (hr1.trans hk).symm
    subst hr1
    obtain ⟨hP1, hK1, hD1⟩ := hB
    rw [ht] at hP1
    obtain ⟨hP, hD⟩ := va_join (wr := (mW B cA L P G V Rp S Y O D th (nI h) wd (nI T) ft fl cl mo)) (w1 := (xW A cA L P G V R N Y S p0 (nI T) ft fl ce (nI h) mo) ++ [(o, .inl (cL, 1, .inr (.inl (vp_updL fo 0 (wd).toInt64))))]) hP hD [0, 1, 2, 3, 4, 5, 6, 7, 8, 19] [9, 10, 11, 12, 13, 14, 15, 16, 17, 18] rfl rfl (by decide) (by decide) hk1 hFc hP1 hD1
    have hP : va_P dG vwCl ((xW A cA L P G V R N Y S p0 (nI T) ft fl ce (nI h) mo) ++ (mW B cA L P G V Rp S Y O D th (nI h) wd (nI T) ft fl cl mo) ++ [(o, .inl (cL, 1, .inr (.inl (vp_updL fo 0 (wd).toInt64))))]) H := hP.sub [10, 11, 12, 13, 14, 15, 16, 17, 18, 0, 1, 2, 3, 4, 5, 6, 7, 8, 9, 19] rfl
    have hD : va_D (aNew s.heap) ((xW A cA L P G V R N Y S p0 (nI T) ft fl ce (nI h) mo) ++ (mW B cA L P G V Rp S Y O D th (nI h) wd (nI T) ft fl cl mo) ++ [(o, .inl (cL, 1, .inr (.inl (vp_updL fo 0 (wd).toInt64))))]) := hD.sub [10, 11, 12, 13, 14, 15, 16, 17, 18, 0, 1, 2, 3, 4, 5, 6, 7, 8, 9, 19] (by decide) rfl
    refine lv_istore (lv' := [(5, .int 0), (0, .ref b), (1, .ref (A 0)), (2, .ref (B 0)), (3, .ref o), (4, .int (nI (4 * i)))]) hx hb dL_law_275 hl (by decide) rfl (fun ls hl => ?_)
    refine lv_aload_n hx hb dL_law_277 rfl (lv_at hl 3 rfl) ?_
    refine lv_aload_n hx hb dL_law_278 rfl (lv_at hl 1 rfl) ?_
    refine lv_iload hx hb dL_law_279 (lv_at hl 5 rfl) ?_
    refine lv_iconst (v := 1) hx hb dL_law_281 (by decide) ?_
    refine lv_iadd hx hb dL_law_282 ?_
    refine lv_topi (fun v9 e9 => ?_)
    have e9 := e9.trans (nI_add (4 * i) 1)
    subst e9
    refine va_sld hx hb hX hbl hbA hS (vp_in_nI (by omega) (by omega)) dL_law_283 ?_
    refine lv_topi (fun v9 e9 => ?_)
    have e9 := (e9.trans hp0.symm).symm
    subst e9
    have hPc := hP.sub (ws' := (mW B cA L P G V Rp S Y O D th (nI h) wd (nI T) ft fl cl mo)) [9, 10, 11, 12, 13, 14, 15, 16, 17, 18] rfl
    have hDc := hD.sub (ws' := (mW B cA L P G V Rp S Y O D th (nI h) wd (nI T) ft fl cl mo)) [9, 10, 11, 12, 13, 14, 15, 16, 17, 18] (by decide) rfl
    have hFc := va_free (wc := mW B cA L P G V Rp S Y O D th (nI h) wd (nI T) ft fl cl mo) hD hS hA [9, 10, 11, 12, 13, 14, 15, 16, 17, 18] rfl
    have hKc := hK.sub (tys' := tyI cA) [0] rfl
    refine va_calli (va_runV (As := [.int p0]) (rest := []) ⟨hx, hb, hml, hown, hts⟩ (c_X1_wind l dG B cA H L P G V Rp S Y O D th (nI h) wd (nI T) ft fl cl mo p0 ) (cwV 1 hts gL_law_X1_wind rfl rfl rfl (by decide +kernel) ⟨Nat.le_of_ble_eq_true rfl, Nat.le_of_ble_eq_true rfl⟩) ⟨fun a9 U g mk q => ⟨q.1, wPre_calling g mk a9 q.2⟩, va_recv hKc hPc (ci := 1) (q0 := 0) rfl rfl, fun U hU hW => ⟨rfl, wPre_of hKc hPc hDc hU hW⟩⟩ rfl rfl hl.1 rfl (lv_room (Nat.le_of_ble_eq_true rfl)) dL_law_284 ⟨(by show _ ≤ 1049; omega), (by show _ ≤ 11971; omega)⟩) hS (fun q _ h => hFc q h) hFc (fun r u t H locs ht hvm hw hB hz1 hk1 hS => ?_)
    obtain ⟨hr2, hu2⟩ := hw.1 hk
    subst hu2
    have hr2 := hr2.symm
    subst hr2
    obtain ⟨hP1, hK1, hD1⟩ := hB
    rw [ht] at hP1
    obtain ⟨hP, hD⟩ := va_join (wr := (xW A cA L P G V R N Y S p0 (nI T) ft fl ce (nI h) mo) ++ [(o, .inl (cL, 1, .inr (.inl (vp_updL fo 0 (wd).toInt64))))]) (w1 := (mW B cA L P G V Rp S Y O D 0 (nI h) p0 (nI T) ft fl cl mo)) hP hD [9, 10, 11, 12, 13, 14, 15, 16, 17, 18] [0, 1, 2, 3, 4, 5, 6, 7, 8, 19] rfl rfl (by decide) (by decide) hk1 hFc hP1 hD1
    have hP : va_P dG vwCl ((xW A cA L P G V R N Y S p0 (nI T) ft fl ce (nI h) mo) ++ (mW B cA L P G V Rp S Y O D 0 (nI h) p0 (nI T) ft fl cl mo) ++ [(o, .inl (cL, 1, .inr (.inl (vp_updL fo 0 (wd).toInt64))))]) H := hP.sub [0, 1, 2, 3, 4, 5, 6, 7, 8, 10, 11, 12, 13, 14, 15, 16, 17, 18, 19, 9] rfl
    have hD : va_D (aNew s.heap) ((xW A cA L P G V R N Y S p0 (nI T) ft fl ce (nI h) mo) ++ (mW B cA L P G V Rp S Y O D 0 (nI h) p0 (nI T) ft fl cl mo) ++ [(o, .inl (cL, 1, .inr (.inl (vp_updL fo 0 (wd).toInt64))))]) := hD.sub [0, 1, 2, 3, 4, 5, 6, 7, 8, 10, 11, 12, 13, 14, 15, 16, 17, 18, 19, 9] (by decide) rfl
    refine lv_istore (lv' := [(6, .int (wd)), (5, .int 0), (0, .ref b), (1, .ref (A 0)), (2, .ref (B 0)), (3, .ref o), (4, .int (nI (4 * i)))]) hx hb dL_law_287 hl (by decide) rfl (fun ls hl => ?_)
    refine lv_aload_n hx hb dL_law_289 rfl (lv_at hl 4 rfl) ?_
    have hPc := hP.sub (ws' := (mW B cA L P G V Rp S Y O D 0 (nI h) p0 (nI T) ft fl cl mo)) [9, 10, 11, 12, 13, 14, 15, 16, 17, 18] rfl
    have hDc := hD.sub (ws' := (mW B cA L P G V Rp S Y O D 0 (nI h) p0 (nI T) ft fl cl mo)) [9, 10, 11, 12, 13, 14, 15, 16, 17, 18] (by decide) rfl
    have hFc := va_free (wc := mW B cA L P G V Rp S Y O D 0 (nI h) p0 (nI T) ft fl cl mo) hD hS hA [9, 10, 11, 12, 13, 14, 15, 16, 17, 18] rfl
    have hKc := hK.sub (tys' := tyI cA) [0] rfl
    refine va_calli (va_runV (As := []) (rest := []) ⟨hx, hb, hml, hown, hts⟩ (c_X1_thrown l dG B cA H L P G V Rp S Y O D 0 (nI h) p0 (nI T) ft fl cl mo) (cwV 0 hts gL_law_X1_thrown rfl rfl rfl (by decide +kernel) ⟨Nat.le_of_ble_eq_true rfl, Nat.le_of_ble_eq_true rfl⟩) ⟨fun a9 U g mk q => ⟨q.1, wPre_calling g mk a9 q.2⟩, va_recv hKc hPc (ci := 1) (q0 := 0) rfl rfl, fun U hU hW => ⟨rfl, wPre_of hKc hPc hDc hU hW⟩⟩ rfl rfl hl.1 rfl (lv_room (Nat.le_of_ble_eq_true rfl)) dL_law_290 ⟨(by show _ ≤ 1049; omega), (by show _ ≤ 11971; omega)⟩) hS (fun q _ h => hFc q h) hFc (fun r u t H locs ht hvm hw hB hz1 hk1 hS => ?_)
    obtain ⟨hr3, hu3⟩ := hw
    subst hu3
    have hr3 := hr3.symm
    subst hr3
    obtain ⟨hP1, hK1, hD1⟩ := hB
    rw [ht] at hP1
    obtain ⟨hP, hD⟩ := va_join (wr := (xW A cA L P G V R N Y S p0 (nI T) ft fl ce (nI h) mo) ++ [(o, .inl (cL, 1, .inr (.inl (vp_updL fo 0 (wd).toInt64))))]) (w1 := (mW B cA L P G V Rp S Y O D 0 (nI h) p0 (nI T) ft fl cl mo)) hP hD [9, 10, 11, 12, 13, 14, 15, 16, 17, 18] [0, 1, 2, 3, 4, 5, 6, 7, 8, 19] rfl rfl (by decide) (by decide) hk1 hFc hP1 hD1
    have hP : va_P dG vwCl ((xW A cA L P G V R N Y S p0 (nI T) ft fl ce (nI h) mo) ++ (mW B cA L P G V Rp S Y O D 0 (nI h) p0 (nI T) ft fl cl mo) ++ [(o, .inl (cL, 1, .inr (.inl (vp_updL fo 0 (wd).toInt64))))]) H := hP.sub [0, 1, 2, 3, 4, 5, 6, 7, 8, 10, 11, 12, 13, 14, 15, 16, 17, 18, 19, 9] rfl
    have hD : va_D (aNew s.heap) ((xW A cA L P G V R N Y S p0 (nI T) ft fl ce (nI h) mo) ++ (mW B cA L P G V Rp S Y O D 0 (nI h) p0 (nI T) ft fl cl mo) ++ [(o, .inl (cL, 1, .inr (.inl (vp_updL fo 0 (wd).toInt64))))]) := hD.sub [0, 1, 2, 3, 4, 5, 6, 7, 8, 10, 11, 12, 13, 14, 15, 16, 17, 18, 19, 9] (by decide) rfl
    refine lv_iload hx hb dL_law_293 (lv_at hl 1 rfl) ?_
    refine lv_icmp_eq (tgt := 300) hx hb dL_law_295 (by decide) (fun _ => ?_) (fun h9 => absurd (by decide) h9)
    refine lv_iload hx hb dL_law_300 (lv_at hl 1 rfl) ?_
    refine lv_if_ne (tgt := 317) hx hb dL_law_302 (by decide) (fun h9 => absurd (by decide) h9) (fun _ => ?_)
    refine lv_aload_n hx hb dL_law_305 rfl (lv_at hl 5 rfl) ?_
    refine lv_iconst (v := 0) hx hb dL_law_306 (by decide) ?_
    refine va_lald hx hb hK hP 19 1 rfl rfl (i := 0) (vp_in_nI (n := 0) (by omega) (by omega)) dL_law_307 ?_
    refine lv_iload hx hb dL_law_308 (lv_at hl 0 rfl) ?_
    refine lv_i2l hx hb dL_law_310 rfl ?_
    refine W.lcmp hx hb dL_law_311 ?_
    refine lv_topi (fun v9 e9 => ?_)
    have e9 := e9.trans (lgc_eq rfl)
    subst e9
    refine lv_if_eq (tgt := 317) hx hb dL_law_312 (by decide) (fun _ => ?_) (fun h9 => absurd (by decide) h9)
    refine lv_goto (tgt := 1130) hx hb dL_law_317 (by decide) ?_
    exact k L P G V R N Y S Rp O D T h p0 ft fl ce cl 0 mo (vp_updL fo 0 (wd).toInt64) H locs ls (Inv_wind I hk) hP hD hS (lv_sub hl [2, 3, 4, 5, 6] rfl)
  · have hPc := hP.sub (ws' := (xW A cA L P G V R N Y S wd (nI T) ft fl ce (nI h) mo) ++ ([(o, .inl (cL, 1, .inr (.inl fo)))])) [0, 1, 2, 3, 4, 5, 6, 7, 8, 19] rfl
    have hDc := hD.sub (ws' := (xW A cA L P G V R N Y S wd (nI T) ft fl ce (nI h) mo) ++ ([(o, .inl (cL, 1, .inr (.inl fo)))])) [0, 1, 2, 3, 4, 5, 6, 7, 8, 19] (by decide) rfl
    have hFc := va_free (wc := (xW A cA L P G V R N Y S wd (nI T) ft fl ce (nI h) mo) ++ ([(o, .inl (cL, 1, .inr (.inl fo)))])) hD hS hA [0, 1, 2, 3, 4, 5, 6, 7, 8, 19] rfl
    refine va_calli (vx_runSW (As := [.ref (A 0), .int p0, .ref o]) (rest := []) ⟨hx, hb, hml, hown, hts⟩ (c_L_wind l hl0 dG a A o cA cL H L P G V R N Y S T h wd ft fl ce mo fo p0 I.1.1 I.1.2) (vx_cwSW 3 hts gL_law_L_wind rfl rfl rfl (by decide +kernel) ⟨Nat.le_of_ble_eq_true rfl, Nat.le_of_ble_eq_true rfl⟩) ⟨fun a9 U g mk q => ⟨q.1, wPre_calling g mk a9 q.2.1, q.2.2.calling g mk a9⟩, fun U hU hW => ⟨rfl, wPre_of hK hPc hDc hU hW, hE.go hW hS hFc⟩⟩ rfl rfl hl.1 rfl (lv_room (Nat.le_of_ble_eq_true rfl)) dL_law_272 ⟨(by show _ ≤ 1049; omega), (by show _ ≤ 11971; omega)⟩) hS (fun q _ h => hFc q h) hFc (fun r u t H locs ht hvm hw hB hz1 hk1 hS => ?_)
    obtain ⟨hr1, hu0, hu1⟩ := hw
    have hu := hu1 hk
    subst hu
    have hr1 := hr1.symm
    subst hr1
    obtain ⟨hP1, hK1, hD1⟩ := hB
    rw [ht] at hP1
    obtain ⟨hP, hD⟩ := va_join (wr := (mW B cA L P G V Rp S Y O D th (nI h) wd (nI T) ft fl cl mo)) (w1 := (xW A cA L P G V R N Y S wd (nI T) ft fl ce (nI h) mo) ++ [(o, .inl (cL, 1, .inr (.inl fo)))]) hP hD [0, 1, 2, 3, 4, 5, 6, 7, 8, 19] [9, 10, 11, 12, 13, 14, 15, 16, 17, 18] rfl rfl (by decide) (by decide) hk1 hFc hP1 hD1
    have hP : va_P dG vwCl ((xW A cA L P G V R N Y S wd (nI T) ft fl ce (nI h) mo) ++ (mW B cA L P G V Rp S Y O D th (nI h) wd (nI T) ft fl cl mo) ++ [(o, .inl (cL, 1, .inr (.inl fo)))]) H := hP.sub [10, 11, 12, 13, 14, 15, 16, 17, 18, 0, 1, 2, 3, 4, 5, 6, 7, 8, 9, 19] rfl
    have hD : va_D (aNew s.heap) ((xW A cA L P G V R N Y S wd (nI T) ft fl ce (nI h) mo) ++ (mW B cA L P G V Rp S Y O D th (nI h) wd (nI T) ft fl cl mo) ++ [(o, .inl (cL, 1, .inr (.inl fo)))]) := hD.sub [10, 11, 12, 13, 14, 15, 16, 17, 18, 0, 1, 2, 3, 4, 5, 6, 7, 8, 9, 19] (by decide) rfl
    refine lv_istore (lv' := [(5, .int (kWind p0)), (0, .ref b), (1, .ref (A 0)), (2, .ref (B 0)), (3, .ref o), (4, .int (nI (4 * i)))]) hx hb dL_law_275 hl (by decide) rfl (fun ls hl => ?_)
    refine lv_aload_n hx hb dL_law_277 rfl (lv_at hl 3 rfl) ?_
    refine lv_aload_n hx hb dL_law_278 rfl (lv_at hl 1 rfl) ?_
    refine lv_iload hx hb dL_law_279 (lv_at hl 5 rfl) ?_
    refine lv_iconst (v := 1) hx hb dL_law_281 (by decide) ?_
    refine lv_iadd hx hb dL_law_282 ?_
    refine lv_topi (fun v9 e9 => ?_)
    have e9 := e9.trans (nI_add (4 * i) 1)
    subst e9
    refine va_sld hx hb hX hbl hbA hS (vp_in_nI (by omega) (by omega)) dL_law_283 ?_
    refine lv_topi (fun v9 e9 => ?_)
    have e9 := (e9.trans hp0.symm).symm
    subst e9
    have hPc := hP.sub (ws' := (mW B cA L P G V Rp S Y O D th (nI h) wd (nI T) ft fl cl mo)) [9, 10, 11, 12, 13, 14, 15, 16, 17, 18] rfl
    have hDc := hD.sub (ws' := (mW B cA L P G V Rp S Y O D th (nI h) wd (nI T) ft fl cl mo)) [9, 10, 11, 12, 13, 14, 15, 16, 17, 18] (by decide) rfl
    have hFc := va_free (wc := mW B cA L P G V Rp S Y O D th (nI h) wd (nI T) ft fl cl mo) hD hS hA [9, 10, 11, 12, 13, 14, 15, 16, 17, 18] rfl
    have hKc := hK.sub (tys' := tyI cA) [0] rfl
    refine va_calli (va_runV (As := [.int p0]) (rest := []) ⟨hx, hb, hml, hown, hts⟩ (c_X1_wind l dG B cA H L P G V Rp S Y O D th (nI h) wd (nI T) ft fl cl mo p0 ) (cwV 1 hts gL_law_X1_wind rfl rfl rfl (by decide +kernel) ⟨Nat.le_of_ble_eq_true rfl, Nat.le_of_ble_eq_true rfl⟩) ⟨fun a9 U g mk q => ⟨q.1, wPre_calling g mk a9 q.2⟩, va_recv hKc hPc (ci := 1) (q0 := 0) rfl rfl, fun U hU hW => ⟨rfl, wPre_of hKc hPc hDc hU hW⟩⟩ rfl rfl hl.1 rfl (lv_room (Nat.le_of_ble_eq_true rfl)) dL_law_284 ⟨(by show _ ≤ 1049; omega), (by show _ ≤ 11971; omega)⟩) hS (fun q _ h => hFc q h) hFc (fun r u t H locs ht hvm hw hB hz1 hk1 hS => ?_)
    obtain ⟨hr2, hu2⟩ := hw.2 hk
    subst hu2
    have hr2 := hr2.symm
    subst hr2
    obtain ⟨hP1, hK1, hD1⟩ := hB
    rw [ht] at hP1
    obtain ⟨hP, hD⟩ := va_join (wr := (xW A cA L P G V R N Y S wd (nI T) ft fl ce (nI h) mo) ++ [(o, .inl (cL, 1, .inr (.inl fo)))]) (w1 := (mW B cA L P G V Rp S Y O D (kWind p0) (nI h) wd (nI T) ft fl cl mo)) hP hD [9, 10, 11, 12, 13, 14, 15, 16, 17, 18] [0, 1, 2, 3, 4, 5, 6, 7, 8, 19] rfl rfl (by decide) (by decide) hk1 hFc hP1 hD1
    have hP : va_P dG vwCl ((xW A cA L P G V R N Y S wd (nI T) ft fl ce (nI h) mo) ++ (mW B cA L P G V Rp S Y O D (kWind p0) (nI h) wd (nI T) ft fl cl mo) ++ [(o, .inl (cL, 1, .inr (.inl fo)))]) H := hP.sub [0, 1, 2, 3, 4, 5, 6, 7, 8, 10, 11, 12, 13, 14, 15, 16, 17, 18, 19, 9] rfl
    have hD : va_D (aNew s.heap) ((xW A cA L P G V R N Y S wd (nI T) ft fl ce (nI h) mo) ++ (mW B cA L P G V Rp S Y O D (kWind p0) (nI h) wd (nI T) ft fl cl mo) ++ [(o, .inl (cL, 1, .inr (.inl fo)))]) := hD.sub [0, 1, 2, 3, 4, 5, 6, 7, 8, 10, 11, 12, 13, 14, 15, 16, 17, 18, 19, 9] (by decide) rfl
    refine lv_istore (lv' := [(6, .int 0), (5, .int (kWind p0)), (0, .ref b), (1, .ref (A 0)), (2, .ref (B 0)), (3, .ref o), (4, .int (nI (4 * i)))]) hx hb dL_law_287 hl (by decide) rfl (fun ls hl => ?_)
    refine lv_aload_n hx hb dL_law_289 rfl (lv_at hl 4 rfl) ?_
    have hPc := hP.sub (ws' := (mW B cA L P G V Rp S Y O D (kWind p0) (nI h) wd (nI T) ft fl cl mo)) [9, 10, 11, 12, 13, 14, 15, 16, 17, 18] rfl
    have hDc := hD.sub (ws' := (mW B cA L P G V Rp S Y O D (kWind p0) (nI h) wd (nI T) ft fl cl mo)) [9, 10, 11, 12, 13, 14, 15, 16, 17, 18] (by decide) rfl
    have hFc := va_free (wc := mW B cA L P G V Rp S Y O D (kWind p0) (nI h) wd (nI T) ft fl cl mo) hD hS hA [9, 10, 11, 12, 13, 14, 15, 16, 17, 18] rfl
    have hKc := hK.sub (tys' := tyI cA) [0] rfl
    refine va_calli (va_runV (As := []) (rest := []) ⟨hx, hb, hml, hown, hts⟩ (c_X1_thrown l dG B cA H L P G V Rp S Y O D (kWind p0) (nI h) wd (nI T) ft fl cl mo) (cwV 0 hts gL_law_X1_thrown rfl rfl rfl (by decide +kernel) ⟨Nat.le_of_ble_eq_true rfl, Nat.le_of_ble_eq_true rfl⟩) ⟨fun a9 U g mk q => ⟨q.1, wPre_calling g mk a9 q.2⟩, va_recv hKc hPc (ci := 1) (q0 := 0) rfl rfl, fun U hU hW => ⟨rfl, wPre_of hKc hPc hDc hU hW⟩⟩ rfl rfl hl.1 rfl (lv_room (Nat.le_of_ble_eq_true rfl)) dL_law_290 ⟨(by show _ ≤ 1049; omega), (by show _ ≤ 11971; omega)⟩) hS (fun q _ h => hFc q h) hFc (fun r u t H locs ht hvm hw hB hz1 hk1 hS => ?_)
    obtain ⟨hr3, hu3⟩ := hw
    subst hu3
    have hr3 := hr3.symm
    subst hr3
    obtain ⟨hP1, hK1, hD1⟩ := hB
    rw [ht] at hP1
    obtain ⟨hP, hD⟩ := va_join (wr := (xW A cA L P G V R N Y S wd (nI T) ft fl ce (nI h) mo) ++ [(o, .inl (cL, 1, .inr (.inl fo)))]) (w1 := (mW B cA L P G V Rp S Y O D (kWind p0) (nI h) wd (nI T) ft fl cl mo)) hP hD [9, 10, 11, 12, 13, 14, 15, 16, 17, 18] [0, 1, 2, 3, 4, 5, 6, 7, 8, 19] rfl rfl (by decide) (by decide) hk1 hFc hP1 hD1
    have hP : va_P dG vwCl ((xW A cA L P G V R N Y S wd (nI T) ft fl ce (nI h) mo) ++ (mW B cA L P G V Rp S Y O D (kWind p0) (nI h) wd (nI T) ft fl cl mo) ++ [(o, .inl (cL, 1, .inr (.inl fo)))]) H := hP.sub [0, 1, 2, 3, 4, 5, 6, 7, 8, 10, 11, 12, 13, 14, 15, 16, 17, 18, 19, 9] rfl
    have hD : va_D (aNew s.heap) ((xW A cA L P G V R N Y S wd (nI T) ft fl ce (nI h) mo) ++ (mW B cA L P G V Rp S Y O D (kWind p0) (nI h) wd (nI T) ft fl cl mo) ++ [(o, .inl (cL, 1, .inr (.inl fo)))]) := hD.sub [0, 1, 2, 3, 4, 5, 6, 7, 8, 10, 11, 12, 13, 14, 15, 16, 17, 18, 19, 9] (by decide) rfl
    refine lv_iload hx hb dL_law_293 (lv_at hl 1 rfl) ?_
    refine lv_icmp_eq (tgt := 300) hx hb dL_law_295 (by decide) (fun _ => ?_) (fun h9 => absurd rfl h9)
    refine lv_iload hx hb dL_law_300 (lv_at hl 1 rfl) ?_
    refine lv_if_ne (tgt := 317) hx hb dL_law_302 (by decide) (fun _ => ?_) (fun h9 => absurd h9 hk)
    refine lv_goto (tgt := 1130) hx hb dL_law_317 (by decide) ?_
    exact k L P G V R N Y S Rp O D T h wd ft fl ce cl (kWind p0) mo fo H locs ls I hP hD hS (lv_sub hl [2, 3, 4, 5, 6] rfl)
set_option maxHeartbeats 1000000 in
set_option maxRecDepth 100000 in
theorem case_turbine {p : Program} {l : Launch} {e : Env} {s : State} {m : MethodId} {below : List Frame} {meth : Method} {c : Code} {b Ln : Nat} {xs : Nat → Int32} {dG : va_G} {a A B : Nat → Nat} {o : Nat} {cA cL : ClassId} (hl0 : l.stackTraces = false) (C0 : lw_At p s m meth c b Ln xs) (hE : tgE a (aNew s.heap) s s.heap) (hK : va_K dG vwCl (tyL cA cL) s) (hLn : Ln ≤ 2048) {i : Nat} (hi : 4 * i + 4 ≤ Ln) (k : lwAt p l e s m below meth c b dG A B o cA cL 1130 i (20 + i + 1) (3749 + 6 * i + 6)) : lwAt p l e s m below meth c b dG A B o cA cL 320 i (20 + i) (3749 + 6 * i) := by
  obtain ⟨hx, hb, hr, hml, hown, hts0, hX, hbl, hlocks, hgv⟩ := C0
  have hts : ∀ w ∈ wsL_law, w.before #[Value.ref b] s = true := fun w h => hts0 w (wsL_law_in w h)
  have hA : ∀ q : Nat, s.heap.size ≤ q → aNew s.heap q := fun _ h => h
  have hbA : ¬ aNew s.heap b := Nat.not_le.mpr hbl
  intro L P G V R N Y S Rp O D T h wd ft fl ce cl th mo fo H locs ls I hP hD hS hl
  refine lv_aload_n hx hb dL_law_320 rfl (lv_at hl 1 rfl) ?_
  refine lv_aload_n hx hb dL_law_321 rfl (lv_at hl 3 rfl) ?_
  by_cases hk : kTurb (nI T) = 0
  · have hPc := hP.sub (ws' := (xW A cA L P G V R N Y S wd (nI T) ft fl ce (nI h) mo) ++ ([(o, .inl (cL, 1, .inr (.inl fo)))])) [0, 1, 2, 3, 4, 5, 6, 7, 8, 19] rfl
    have hDc := hD.sub (ws' := (xW A cA L P G V R N Y S wd (nI T) ft fl ce (nI h) mo) ++ ([(o, .inl (cL, 1, .inr (.inl fo)))])) [0, 1, 2, 3, 4, 5, 6, 7, 8, 19] (by decide) rfl
    have hFc := va_free (wc := (xW A cA L P G V R N Y S wd (nI T) ft fl ce (nI h) mo) ++ ([(o, .inl (cL, 1, .inr (.inl fo)))])) hD hS hA [0, 1, 2, 3, 4, 5, 6, 7, 8, 19] rfl
    refine va_calli (vx_runSW (As := [.ref (A 0), .ref o]) (rest := []) ⟨hx, hb, hml, hown, hts⟩ (c_L_turbine l hl0 dG a A o cA cL H L P G V R N Y S T h wd ft fl ce mo fo  I.1.1 I.1.2) (vx_cwSW 2 hts gL_law_L_turbine rfl rfl rfl (by decide +kernel) ⟨Nat.le_of_ble_eq_true rfl, Nat.le_of_ble_eq_true rfl⟩) ⟨fun a9 U g mk q => ⟨q.1, wPre_calling g mk a9 q.2.1, q.2.2.calling g mk a9⟩, fun U hU hW => ⟨rfl, wPre_of hK hPc hDc hU hW, hE.go hW hS hFc⟩⟩ rfl rfl hl.1 rfl (lv_room (Nat.le_of_ble_eq_true rfl)) dL_law_322 ⟨(by show _ ≤ 1049; omega), (by show _ ≤ 11971; omega)⟩) hS (fun q _ h => hFc q h) hFc (fun r u t H locs ht hvm hw hB hz1 hk1 hS => ?_)
    obtain ⟨hr1, hu0, hu1⟩ := hw
    have hu := hu0 hk
    subst hu
    have hr1 := (hr1.trans hk).symm
    subst hr1
    obtain ⟨hP1, hK1, hD1⟩ := hB
    rw [ht] at hP1
    obtain ⟨hP, hD⟩ := va_join (wr := (mW B cA L P G V Rp S Y O D th (nI h) wd (nI T) ft fl cl mo)) (w1 := (xW A cA L P G V R N Y S wd (nI T + 1) ft fl ce (nI h) mo) ++ [(o, .inl (cL, 1, .inr (.inl (vp_updL fo 0 (nI T + 1 - 1).toInt64))))]) hP hD [0, 1, 2, 3, 4, 5, 6, 7, 8, 19] [9, 10, 11, 12, 13, 14, 15, 16, 17, 18] rfl rfl (by decide) (by decide) hk1 hFc hP1 hD1
    have hP : va_P dG vwCl ((xW A cA L P G V R N Y S wd (nI T + 1) ft fl ce (nI h) mo) ++ (mW B cA L P G V Rp S Y O D th (nI h) wd (nI T) ft fl cl mo) ++ [(o, .inl (cL, 1, .inr (.inl (vp_updL fo 0 (nI T + 1 - 1).toInt64))))]) H := hP.sub [10, 11, 12, 13, 14, 15, 16, 17, 18, 0, 1, 2, 3, 4, 5, 6, 7, 8, 9, 19] rfl
    have hD : va_D (aNew s.heap) ((xW A cA L P G V R N Y S wd (nI T + 1) ft fl ce (nI h) mo) ++ (mW B cA L P G V Rp S Y O D th (nI h) wd (nI T) ft fl cl mo) ++ [(o, .inl (cL, 1, .inr (.inl (vp_updL fo 0 (nI T + 1 - 1).toInt64))))]) := hD.sub [10, 11, 12, 13, 14, 15, 16, 17, 18, 0, 1, 2, 3, 4, 5, 6, 7, 8, 9, 19] (by decide) rfl
    refine lv_istore (lv' := [(5, .int 0), (0, .ref b), (1, .ref (A 0)), (2, .ref (B 0)), (3, .ref o), (4, .int (nI (4 * i)))]) hx hb dL_law_325 hl (by decide) rfl (fun ls hl => ?_)
    refine lv_aload_n hx hb dL_law_327 rfl (lv_at hl 3 rfl) ?_
    have hPc := hP.sub (ws' := (mW B cA L P G V Rp S Y O D th (nI h) wd (nI T) ft fl cl mo)) [9, 10, 11, 12, 13, 14, 15, 16, 17, 18] rfl
    have hDc := hD.sub (ws' := (mW B cA L P G V Rp S Y O D th (nI h) wd (nI T) ft fl cl mo)) [9, 10, 11, 12, 13, 14, 15, 16, 17, 18] (by decide) rfl
    have hFc := va_free (wc := mW B cA L P G V Rp S Y O D th (nI h) wd (nI T) ft fl cl mo) hD hS hA [9, 10, 11, 12, 13, 14, 15, 16, 17, 18] rfl
    have hKc := hK.sub (tys' := tyI cA) [0] rfl
    refine va_calli (va_runV (As := []) (rest := []) ⟨hx, hb, hml, hown, hts⟩ (c_X1_turbine l dG B cA H L P G V Rp S Y O D th (nI h) wd (nI T) ft fl cl mo  (nIr (b := 4) I.1.1 (by omega))) (cwV 0 hts gL_law_X1_turbine rfl rfl rfl (by decide +kernel) ⟨Nat.le_of_ble_eq_true rfl, Nat.le_of_ble_eq_true rfl⟩) ⟨fun a9 U g mk q => ⟨q.1, wPre_calling g mk a9 q.2⟩, va_recv hKc hPc (ci := 1) (q0 := 0) rfl rfl, fun U hU hW => ⟨rfl, wPre_of hKc hPc hDc hU hW⟩⟩ rfl rfl hl.1 rfl (lv_room (Nat.le_of_ble_eq_true rfl)) dL_law_328 ⟨(by show _ ≤ 1049; omega), (by show _ ≤ 11971; omega)⟩) hS (fun q _ h => hFc q h) hFc (fun r u t H locs ht hvm hw hB hz1 hk1 hS => ?_)
    obtain ⟨hr2, hu2⟩ := hw.1 hk
    subst hu2
    have hr2 := hr2.symm
    subst hr2
    obtain ⟨hP1, hK1, hD1⟩ := hB
    rw [ht] at hP1
    obtain ⟨hP, hD⟩ := va_join (wr := (xW A cA L P G V R N Y S wd (nI T + 1) ft fl ce (nI h) mo) ++ [(o, .inl (cL, 1, .inr (.inl (vp_updL fo 0 (nI T + 1 - 1).toInt64))))]) (w1 := (mW B cA L P G V Rp S Y O D 0 (nI h) wd (nI T + 1) ft fl cl mo)) hP hD [9, 10, 11, 12, 13, 14, 15, 16, 17, 18] [0, 1, 2, 3, 4, 5, 6, 7, 8, 19] rfl rfl (by decide) (by decide) hk1 hFc hP1 hD1
    have hP : va_P dG vwCl ((xW A cA L P G V R N Y S wd (nI T + 1) ft fl ce (nI h) mo) ++ (mW B cA L P G V Rp S Y O D 0 (nI h) wd (nI T + 1) ft fl cl mo) ++ [(o, .inl (cL, 1, .inr (.inl (vp_updL fo 0 (nI T + 1 - 1).toInt64))))]) H := hP.sub [0, 1, 2, 3, 4, 5, 6, 7, 8, 10, 11, 12, 13, 14, 15, 16, 17, 18, 19, 9] rfl
    have hD : va_D (aNew s.heap) ((xW A cA L P G V R N Y S wd (nI T + 1) ft fl ce (nI h) mo) ++ (mW B cA L P G V Rp S Y O D 0 (nI h) wd (nI T + 1) ft fl cl mo) ++ [(o, .inl (cL, 1, .inr (.inl (vp_updL fo 0 (nI T + 1 - 1).toInt64))))]) := hD.sub [0, 1, 2, 3, 4, 5, 6, 7, 8, 10, 11, 12, 13, 14, 15, 16, 17, 18, 19, 9] (by decide) rfl
    refine lv_istore (lv' := [(6, .int (nI T + 1 - 1)), (5, .int 0), (0, .ref b), (1, .ref (A 0)), (2, .ref (B 0)), (3, .ref o), (4, .int (nI (4 * i)))]) hx hb dL_law_331 hl (by decide) rfl (fun ls hl => ?_)
    refine lv_aload_n hx hb dL_law_333 rfl (lv_at hl 4 rfl) ?_
    have hPc := hP.sub (ws' := (mW B cA L P G V Rp S Y O D 0 (nI h) wd (nI T + 1) ft fl cl mo)) [9, 10, 11, 12, 13, 14, 15, 16, 17, 18] rfl
    have hDc := hD.sub (ws' := (mW B cA L P G V Rp S Y O D 0 (nI h) wd (nI T + 1) ft fl cl mo)) [9, 10, 11, 12, 13, 14, 15, 16, 17, 18] (by decide) rfl
    have hFc := va_free (wc := mW B cA L P G V Rp S Y O D 0 (nI h) wd (nI T + 1) ft fl cl mo) hD hS hA [9, 10, 11, 12, 13, 14, 15, 16, 17, 18] rfl
    have hKc := hK.sub (tys' := tyI cA) [0] rfl
    refine va_calli (va_runV (As := []) (rest := []) ⟨hx, hb, hml, hown, hts⟩ (c_X1_thrown l dG B cA H L P G V Rp S Y O D 0 (nI h) wd (nI T + 1) ft fl cl mo) (cwV 0 hts gL_law_X1_thrown rfl rfl rfl (by decide +kernel) ⟨Nat.le_of_ble_eq_true rfl, Nat.le_of_ble_eq_true rfl⟩) ⟨fun a9 U g mk q => ⟨q.1, wPre_calling g mk a9 q.2⟩, va_recv hKc hPc (ci := 1) (q0 := 0) rfl rfl, fun U hU hW => ⟨rfl, wPre_of hKc hPc hDc hU hW⟩⟩ rfl rfl hl.1 rfl (lv_room (Nat.le_of_ble_eq_true rfl)) dL_law_334 ⟨(by show _ ≤ 1049; omega), (by show _ ≤ 11971; omega)⟩) hS (fun q _ h => hFc q h) hFc (fun r u t H locs ht hvm hw hB hz1 hk1 hS => ?_)
    obtain ⟨hr3, hu3⟩ := hw
    subst hu3
    have hr3 := hr3.symm
    subst hr3
    obtain ⟨hP1, hK1, hD1⟩ := hB
    rw [ht] at hP1
    obtain ⟨hP, hD⟩ := va_join (wr := (xW A cA L P G V R N Y S wd (nI T + 1) ft fl ce (nI h) mo) ++ [(o, .inl (cL, 1, .inr (.inl (vp_updL fo 0 (nI T + 1 - 1).toInt64))))]) (w1 := (mW B cA L P G V Rp S Y O D 0 (nI h) wd (nI T + 1) ft fl cl mo)) hP hD [9, 10, 11, 12, 13, 14, 15, 16, 17, 18] [0, 1, 2, 3, 4, 5, 6, 7, 8, 19] rfl rfl (by decide) (by decide) hk1 hFc hP1 hD1
    have hP : va_P dG vwCl ((xW A cA L P G V R N Y S wd (nI T + 1) ft fl ce (nI h) mo) ++ (mW B cA L P G V Rp S Y O D 0 (nI h) wd (nI T + 1) ft fl cl mo) ++ [(o, .inl (cL, 1, .inr (.inl (vp_updL fo 0 (nI T + 1 - 1).toInt64))))]) H := hP.sub [0, 1, 2, 3, 4, 5, 6, 7, 8, 10, 11, 12, 13, 14, 15, 16, 17, 18, 19, 9] rfl
    have hD : va_D (aNew s.heap) ((xW A cA L P G V R N Y S wd (nI T + 1) ft fl ce (nI h) mo) ++ (mW B cA L P G V Rp S Y O D 0 (nI h) wd (nI T + 1) ft fl cl mo) ++ [(o, .inl (cL, 1, .inr (.inl (vp_updL fo 0 (nI T + 1 - 1).toInt64))))]) := hD.sub [0, 1, 2, 3, 4, 5, 6, 7, 8, 10, 11, 12, 13, 14, 15, 16, 17, 18, 19, 9] (by decide) rfl
    refine lv_iload hx hb dL_law_337 (lv_at hl 1 rfl) ?_
    refine lv_icmp_eq (tgt := 344) hx hb dL_law_339 (by decide) (fun _ => ?_) (fun h9 => absurd (by decide) h9)
    refine lv_iload hx hb dL_law_344 (lv_at hl 1 rfl) ?_
    refine lv_if_ne (tgt := 361) hx hb dL_law_346 (by decide) (fun h9 => absurd (by decide) h9) (fun _ => ?_)
    refine lv_aload_n hx hb dL_law_349 rfl (lv_at hl 5 rfl) ?_
    refine lv_iconst (v := 0) hx hb dL_law_350 (by decide) ?_
    refine va_lald hx hb hK hP 19 1 rfl rfl (i := 0) (vp_in_nI (n := 0) (by omega) (by omega)) dL_law_351 ?_
    refine lv_iload hx hb dL_law_352 (lv_at hl 0 rfl) ?_
    refine lv_i2l hx hb dL_law_354 rfl ?_
    refine W.lcmp hx hb dL_law_355 ?_
    refine lv_topi (fun v9 e9 => ?_)
    have e9 := e9.trans (lgc_eq rfl)
    subst e9
    refine lv_if_eq (tgt := 361) hx hb dL_law_356 (by decide) (fun _ => ?_) (fun h9 => absurd (by decide) h9)
    refine lv_goto (tgt := 1130) hx hb dL_law_361 (by decide) ?_
    have eT : nI T + 1 = nI (T + 1) := nI_1 T
    rw [eT] at hP hD
    exact k L P G V R N Y S Rp O D (T + 1) h wd ft fl ce cl 0 mo (vp_updL fo 0 (nI (T + 1) - 1).toInt64) H locs ls (Inv_turbine I hk) hP hD hS (lv_sub hl [2, 3, 4, 5, 6] rfl)
  · have hPc := hP.sub (ws' := (xW A cA L P G V R N Y S wd (nI T) ft fl ce (nI h) mo) ++ ([(o, .inl (cL, 1, .inr (.inl fo)))])) [0, 1, 2, 3, 4, 5, 6, 7, 8, 19] rfl
    have hDc := hD.sub (ws' := (xW A cA L P G V R N Y S wd (nI T) ft fl ce (nI h) mo) ++ ([(o, .inl (cL, 1, .inr (.inl fo)))])) [0, 1, 2, 3, 4, 5, 6, 7, 8, 19] (by decide) rfl
    have hFc := va_free (wc := (xW A cA L P G V R N Y S wd (nI T) ft fl ce (nI h) mo) ++ ([(o, .inl (cL, 1, .inr (.inl fo)))])) hD hS hA [0, 1, 2, 3, 4, 5, 6, 7, 8, 19] rfl
    refine va_calli (vx_runSW (As := [.ref (A 0), .ref o]) (rest := []) ⟨hx, hb, hml, hown, hts⟩ (c_L_turbine l hl0 dG a A o cA cL H L P G V R N Y S T h wd ft fl ce mo fo  I.1.1 I.1.2) (vx_cwSW 2 hts gL_law_L_turbine rfl rfl rfl (by decide +kernel) ⟨Nat.le_of_ble_eq_true rfl, Nat.le_of_ble_eq_true rfl⟩) ⟨fun a9 U g mk q => ⟨q.1, wPre_calling g mk a9 q.2.1, q.2.2.calling g mk a9⟩, fun U hU hW => ⟨rfl, wPre_of hK hPc hDc hU hW, hE.go hW hS hFc⟩⟩ rfl rfl hl.1 rfl (lv_room (Nat.le_of_ble_eq_true rfl)) dL_law_322 ⟨(by show _ ≤ 1049; omega), (by show _ ≤ 11971; omega)⟩) hS (fun q _ h => hFc q h) hFc (fun r u t H locs ht hvm hw hB hz1 hk1 hS => ?_)
    obtain ⟨hr1, hu0, hu1⟩ := hw
    have hu := hu1 hk
    subst hu
    have hr1 := hr1.symm
    subst hr1
    obtain ⟨hP1, hK1, hD1⟩ := hB
    rw [ht] at hP1
    obtain ⟨hP, hD⟩ := va_join (wr := (mW B cA L P G V Rp S Y O D th (nI h) wd (nI T) ft fl cl mo)) (w1 := (xW A cA L P G V R N Y S wd (nI T) ft fl ce (nI h) mo) ++ [(o, .inl (cL, 1, .inr (.inl fo)))]) hP hD [0, 1, 2, 3, 4, 5, 6, 7, 8, 19] [9, 10, 11, 12, 13, 14, 15, 16, 17, 18] rfl rfl (by decide) (by decide) hk1 hFc hP1 hD1
    have hP : va_P dG vwCl ((xW A cA L P G V R N Y S wd (nI T) ft fl ce (nI h) mo) ++ (mW B cA L P G V Rp S Y O D th (nI h) wd (nI T) ft fl cl mo) ++ [(o, .inl (cL, 1, .inr (.inl fo)))]) H := hP.sub [10, 11, 12, 13, 14, 15, 16, 17, 18, 0, 1, 2, 3, 4, 5, 6, 7, 8, 9, 19] rfl
    have hD : va_D (aNew s.heap) ((xW A cA L P G V R N Y S wd (nI T) ft fl ce (nI h) mo) ++ (mW B cA L P G V Rp S Y O D th (nI h) wd (nI T) ft fl cl mo) ++ [(o, .inl (cL, 1, .inr (.inl fo)))]) := hD.sub [10, 11, 12, 13, 14, 15, 16, 17, 18, 0, 1, 2, 3, 4, 5, 6, 7, 8, 9, 19] (by decide) rfl
    refine lv_istore (lv' := [(5, .int (kTurb (nI T))), (0, .ref b), (1, .ref (A 0)), (2, .ref (B 0)), (3, .ref o), (4, .int (nI (4 * i)))]) hx hb dL_law_325 hl (by decide) rfl (fun ls hl => ?_)
    refine lv_aload_n hx hb dL_law_327 rfl (lv_at hl 3 rfl) ?_
    have hPc := hP.sub (ws' := (mW B cA L P G V Rp S Y O D th (nI h) wd (nI T) ft fl cl mo)) [9, 10, 11, 12, 13, 14, 15, 16, 17, 18] rfl
    have hDc := hD.sub (ws' := (mW B cA L P G V Rp S Y O D th (nI h) wd (nI T) ft fl cl mo)) [9, 10, 11, 12, 13, 14, 15, 16, 17, 18] (by decide) rfl
    have hFc := va_free (wc := mW B cA L P G V Rp S Y O D th (nI h) wd (nI T) ft fl cl mo) hD hS hA [9, 10, 11, 12, 13, 14, 15, 16, 17, 18] rfl
    have hKc := hK.sub (tys' := tyI cA) [0] rfl
    refine va_calli (va_runV (As := []) (rest := []) ⟨hx, hb, hml, hown, hts⟩ (c_X1_turbine l dG B cA H L P G V Rp S Y O D th (nI h) wd (nI T) ft fl cl mo  (nIr (b := 4) I.1.1 (by omega))) (cwV 0 hts gL_law_X1_turbine rfl rfl rfl (by decide +kernel) ⟨Nat.le_of_ble_eq_true rfl, Nat.le_of_ble_eq_true rfl⟩) ⟨fun a9 U g mk q => ⟨q.1, wPre_calling g mk a9 q.2⟩, va_recv hKc hPc (ci := 1) (q0 := 0) rfl rfl, fun U hU hW => ⟨rfl, wPre_of hKc hPc hDc hU hW⟩⟩ rfl rfl hl.1 rfl (lv_room (Nat.le_of_ble_eq_true rfl)) dL_law_328 ⟨(by show _ ≤ 1049; omega), (by show _ ≤ 11971; omega)⟩) hS (fun q _ h => hFc q h) hFc (fun r u t H locs ht hvm hw hB hz1 hk1 hS => ?_)
    obtain ⟨hr2, hu2⟩ := hw.2 hk
    subst hu2
    have hr2 := hr2.symm
    subst hr2
    obtain ⟨hP1, hK1, hD1⟩ := hB
    rw [ht] at hP1
    obtain ⟨hP, hD⟩ := va_join (wr := (xW A cA L P G V R N Y S wd (nI T) ft fl ce (nI h) mo) ++ [(o, .inl (cL, 1, .inr (.inl fo)))]) (w1 := (mW B cA L P G V Rp S Y O D (kTurb (nI T)) (nI h) wd (nI T) ft fl cl mo)) hP hD [9, 10, 11, 12, 13, 14, 15, 16, 17, 18] [0, 1, 2, 3, 4, 5, 6, 7, 8, 19] rfl rfl (by decide) (by decide) hk1 hFc hP1 hD1
    have hP : va_P dG vwCl ((xW A cA L P G V R N Y S wd (nI T) ft fl ce (nI h) mo) ++ (mW B cA L P G V Rp S Y O D (kTurb (nI T)) (nI h) wd (nI T) ft fl cl mo) ++ [(o, .inl (cL, 1, .inr (.inl fo)))]) H := hP.sub [0, 1, 2, 3, 4, 5, 6, 7, 8, 10, 11, 12, 13, 14, 15, 16, 17, 18, 19, 9] rfl
    have hD : va_D (aNew s.heap) ((xW A cA L P G V R N Y S wd (nI T) ft fl ce (nI h) mo) ++ (mW B cA L P G V Rp S Y O D (kTurb (nI T)) (nI h) wd (nI T) ft fl cl mo) ++ [(o, .inl (cL, 1, .inr (.inl fo)))]) := hD.sub [0, 1, 2, 3, 4, 5, 6, 7, 8, 10, 11, 12, 13, 14, 15, 16, 17, 18, 19, 9] (by decide) rfl
    refine lv_istore (lv' := [(6, .int 0), (5, .int (kTurb (nI T))), (0, .ref b), (1, .ref (A 0)), (2, .ref (B 0)), (3, .ref o), (4, .int (nI (4 * i)))]) hx hb dL_law_331 hl (by decide) rfl (fun ls hl => ?_)
    refine lv_aload_n hx hb dL_law_333 rfl (lv_at hl 4 rfl) ?_
    have hPc := hP.sub (ws' := (mW B cA L P G V Rp S Y O D (kTurb (nI T)) (nI h) wd (nI T) ft fl cl mo)) [9, 10, 11, 12, 13, 14, 15, 16, 17, 18] rfl
    have hDc := hD.sub (ws' := (mW B cA L P G V Rp S Y O D (kTurb (nI T)) (nI h) wd (nI T) ft fl cl mo)) [9, 10, 11, 12, 13, 14, 15, 16, 17, 18] (by decide) rfl
    have hFc := va_free (wc := mW B cA L P G V Rp S Y O D (kTurb (nI T)) (nI h) wd (nI T) ft fl cl mo) hD hS hA [9, 10, 11, 12, 13, 14, 15, 16, 17, 18] rfl
    have hKc := hK.sub (tys' := tyI cA) [0] rfl
    refine va_calli (va_runV (As := []) (rest := []) ⟨hx, hb, hml, hown, hts⟩ (c_X1_thrown l dG B cA H L P G V Rp S Y O D (kTurb (nI T)) (nI h) wd (nI T) ft fl cl mo) (cwV 0 hts gL_law_X1_thrown rfl rfl rfl (by decide +kernel) ⟨Nat.le_of_ble_eq_true rfl, Nat.le_of_ble_eq_true rfl⟩) ⟨fun a9 U g mk q => ⟨q.1, wPre_calling g mk a9 q.2⟩, va_recv hKc hPc (ci := 1) (q0 := 0) rfl rfl, fun U hU hW => ⟨rfl, wPre_of hKc hPc hDc hU hW⟩⟩ rfl rfl hl.1 rfl (lv_room (Nat.le_of_ble_eq_true rfl)) dL_law_334 ⟨(by show _ ≤ 1049; omega), (by show _ ≤ 11971; omega)⟩) hS (fun q _ h => hFc q h) hFc (fun r u t H locs ht hvm hw hB hz1 hk1 hS => ?_)
    obtain ⟨hr3, hu3⟩ := hw
    subst hu3
    have hr3 := hr3.symm
    subst hr3
    obtain ⟨hP1, hK1, hD1⟩ := hB
    rw [ht] at hP1
    obtain ⟨hP, hD⟩ := va_join (wr := (xW A cA L P G V R N Y S wd (nI T) ft fl ce (nI h) mo) ++ [(o, .inl (cL, 1, .inr (.inl fo)))]) (w1 := (mW B cA L P G V Rp S Y O D (kTurb (nI T)) (nI h) wd (nI T) ft fl cl mo)) hP hD [9, 10, 11, 12, 13, 14, 15, 16, 17, 18] [0, 1, 2, 3, 4, 5, 6, 7, 8, 19] rfl rfl (by decide) (by decide) hk1 hFc hP1 hD1
    have hP : va_P dG vwCl ((xW A cA L P G V R N Y S wd (nI T) ft fl ce (nI h) mo) ++ (mW B cA L P G V Rp S Y O D (kTurb (nI T)) (nI h) wd (nI T) ft fl cl mo) ++ [(o, .inl (cL, 1, .inr (.inl fo)))]) H := hP.sub [0, 1, 2, 3, 4, 5, 6, 7, 8, 10, 11, 12, 13, 14, 15, 16, 17, 18, 19, 9] rfl
    have hD : va_D (aNew s.heap) ((xW A cA L P G V R N Y S wd (nI T) ft fl ce (nI h) mo) ++ (mW B cA L P G V Rp S Y O D (kTurb (nI T)) (nI h) wd (nI T) ft fl cl mo) ++ [(o, .inl (cL, 1, .inr (.inl fo)))]) := hD.sub [0, 1, 2, 3, 4, 5, 6, 7, 8, 10, 11, 12, 13, 14, 15, 16, 17, 18, 19, 9] (by decide) rfl
    refine lv_iload hx hb dL_law_337 (lv_at hl 1 rfl) ?_
    refine lv_icmp_eq (tgt := 344) hx hb dL_law_339 (by decide) (fun _ => ?_) (fun h9 => absurd rfl h9)
    refine lv_iload hx hb dL_law_344 (lv_at hl 1 rfl) ?_
    refine lv_if_ne (tgt := 361) hx hb dL_law_346 (by decide) (fun _ => ?_) (fun h9 => absurd h9 hk)
    refine lv_goto (tgt := 1130) hx hb dL_law_361 (by decide) ?_
    exact k L P G V R N Y S Rp O D T h wd ft fl ce cl (kTurb (nI T)) mo fo H locs ls I hP hD hS (lv_sub hl [2, 3, 4, 5, 6] rfl)
set_option maxHeartbeats 1000000 in
set_option maxRecDepth 100000 in
theorem case_gate {p : Program} {l : Launch} {e : Env} {s : State} {m : MethodId} {below : List Frame} {meth : Method} {c : Code} {b Ln : Nat} {xs : Nat → Int32} {dG : va_G} {a A B : Nat → Nat} {o : Nat} {cA cL : ClassId} (hl0 : l.stackTraces = false) (C0 : lw_At p s m meth c b Ln xs) (hE : tgE a (aNew s.heap) s s.heap) (hK : va_K dG vwCl (tyL cA cL) s) (hLn : Ln ≤ 2048) {i : Nat} (hi : 4 * i + 4 ≤ Ln) (k : lwAt p l e s m below meth c b dG A B o cA cL 1130 i (20 + i + 1) (3749 + 6 * i + 6)) : lwAt p l e s m below meth c b dG A B o cA cL 364 i (20 + i) (3749 + 6 * i) := by
  obtain ⟨hx, hb, hr, hml, hown, hts0, hX, hbl, hlocks, hgv⟩ := C0
  have hts : ∀ w ∈ wsL_law, w.before #[Value.ref b] s = true := fun w h => hts0 w (wsL_law_in w h)
  have hA : ∀ q : Nat, s.heap.size ≤ q → aNew s.heap q := fun _ h => h
  have hbA : ¬ aNew s.heap b := Nat.not_le.mpr hbl
  intro L P G V R N Y S Rp O D T h wd ft fl ce cl th mo fo H locs ls I hP hD hS hl
  obtain ⟨p0, hp0⟩ : ∃ z, z = xs (nI (4 * i + 1)).toNatClampNeg := ⟨_, rfl⟩
  obtain ⟨p1, hp1⟩ : ∃ z, z = xs (nI (4 * i + 2)).toNatClampNeg := ⟨_, rfl⟩
  refine lv_aload_n hx hb dL_law_364 rfl (lv_at hl 1 rfl) ?_
  refine lv_aload_n hx hb dL_law_365 rfl (lv_at hl 0 rfl) ?_
  refine lv_iload hx hb dL_law_366 (lv_at hl 4 rfl) ?_
  refine lv_iconst (v := 1) hx hb dL_law_368 (by decide) ?_
  refine lv_iadd hx hb dL_law_369 ?_
  refine lv_topi (fun v9 e9 => ?_)
  have e9 := e9.trans (nI_add (4 * i) 1)
  subst e9
  refine va_sld hx hb hX hbl hbA hS (vp_in_nI (by omega) (by omega)) dL_law_370 ?_
  refine lv_topi (fun v9 e9 => ?_)
  have e9 := (e9.trans hp0.symm).symm
  subst e9
  refine lv_aload_n hx hb dL_law_371 rfl (lv_at hl 0 rfl) ?_
  refine lv_iload hx hb dL_law_372 (lv_at hl 4 rfl) ?_
  refine lv_iconst (v := 2) hx hb dL_law_374 (by decide) ?_
  refine lv_iadd hx hb dL_law_375 ?_
  refine lv_topi (fun v9 e9 => ?_)
  have e9 := e9.trans (nI_add (4 * i) 2)
  subst e9
  refine va_sld hx hb hX hbl hbA hS (vp_in_nI (by omega) (by omega)) dL_law_376 ?_
  refine lv_topi (fun v9 e9 => ?_)
  have e9 := (e9.trans hp1.symm).symm
  subst e9
  refine lv_aload_n hx hb dL_law_377 rfl (lv_at hl 3 rfl) ?_
  by_cases hk : kGate (nI T) p0 p1 = 0
  · have hPc := hP.sub (ws' := (xW A cA L P G V R N Y S wd (nI T) ft fl ce (nI h) mo) ++ ([(o, .inl (cL, 1, .inr (.inl fo)))])) [0, 1, 2, 3, 4, 5, 6, 7, 8, 19] rfl
    have hDc := hD.sub (ws' := (xW A cA L P G V R N Y S wd (nI T) ft fl ce (nI h) mo) ++ ([(o, .inl (cL, 1, .inr (.inl fo)))])) [0, 1, 2, 3, 4, 5, 6, 7, 8, 19] (by decide) rfl
    have hFc := va_free (wc := (xW A cA L P G V R N Y S wd (nI T) ft fl ce (nI h) mo) ++ ([(o, .inl (cL, 1, .inr (.inl fo)))])) hD hS hA [0, 1, 2, 3, 4, 5, 6, 7, 8, 19] rfl
    refine va_calli (vx_runSW (As := [.ref (A 0), .int p0, .int p1, .ref o]) (rest := []) ⟨hx, hb, hml, hown, hts⟩ (c_L_gate l hl0 dG a A o cA cL H L P G V R N Y S T h wd ft fl ce mo fo p0 p1 I.1.1 I.1.2) (vx_cwSW 4 hts gL_law_L_gate rfl rfl rfl (by decide +kernel) ⟨Nat.le_of_ble_eq_true rfl, Nat.le_of_ble_eq_true rfl⟩) ⟨fun a9 U g mk q => ⟨q.1, wPre_calling g mk a9 q.2.1, q.2.2.calling g mk a9⟩, fun U hU hW => ⟨rfl, wPre_of hK hPc hDc hU hW, hE.go hW hS hFc⟩⟩ rfl rfl hl.1 rfl (lv_room (Nat.le_of_ble_eq_true rfl)) dL_law_378 ⟨(by show _ ≤ 1049; omega), (by show _ ≤ 11971; omega)⟩) hS (fun q _ h => hFc q h) hFc (fun r u t H locs ht hvm hw hB hz1 hk1 hS => ?_)
    obtain ⟨hr1, hu0, hu1⟩ := hw
    have hu := hu0 hk
    subst hu
    have hr1 := (hr1.trans hk).symm
    subst hr1
    obtain ⟨hP1, hK1, hD1⟩ := hB
    rw [ht] at hP1
    obtain ⟨hP, hD⟩ := va_join (wr := (mW B cA L P G V Rp S Y O D th (nI h) wd (nI T) ft fl cl mo)) (w1 := (xW A cA L P (upd G p0.toNatClampNeg p1) V R N Y S wd (nI T) ft fl ce (nI h) mo) ++ [(o, .inl (cL, 1, .inr (.inl (vp_updL fo 0 (G p0.toNatClampNeg).toInt64))))]) hP hD [0, 1, 2, 3, 4, 5, 6, 7, 8, 19] [9, 10, 11, 12, 13, 14, 15, 16, 17, 18] rfl rfl (by decide) (by decide) hk1 hFc hP1 hD1
    have hP : va_P dG vwCl ((xW A cA L P (upd G p0.toNatClampNeg p1) V R N Y S wd (nI T) ft fl ce (nI h) mo) ++ (mW B cA L P G V Rp S Y O D th (nI h) wd (nI T) ft fl cl mo) ++ [(o, .inl (cL, 1, .inr (.inl (vp_updL fo 0 (G p0.toNatClampNeg).toInt64))))]) H := hP.sub [10, 11, 12, 13, 14, 15, 16, 17, 18, 0, 1, 2, 3, 4, 5, 6, 7, 8, 9, 19] rfl
    have hD : va_D (aNew s.heap) ((xW A cA L P (upd G p0.toNatClampNeg p1) V R N Y S wd (nI T) ft fl ce (nI h) mo) ++ (mW B cA L P G V Rp S Y O D th (nI h) wd (nI T) ft fl cl mo) ++ [(o, .inl (cL, 1, .inr (.inl (vp_updL fo 0 (G p0.toNatClampNeg).toInt64))))]) := hD.sub [10, 11, 12, 13, 14, 15, 16, 17, 18, 0, 1, 2, 3, 4, 5, 6, 7, 8, 9, 19] (by decide) rfl
    refine lv_istore (lv' := [(5, .int 0), (0, .ref b), (1, .ref (A 0)), (2, .ref (B 0)), (3, .ref o), (4, .int (nI (4 * i)))]) hx hb dL_law_381 hl (by decide) rfl (fun ls hl => ?_)
    refine lv_aload_n hx hb dL_law_383 rfl (lv_at hl 3 rfl) ?_
    refine lv_aload_n hx hb dL_law_384 rfl (lv_at hl 1 rfl) ?_
    refine lv_iload hx hb dL_law_385 (lv_at hl 5 rfl) ?_
    refine lv_iconst (v := 1) hx hb dL_law_387 (by decide) ?_
    refine lv_iadd hx hb dL_law_388 ?_
    refine lv_topi (fun v9 e9 => ?_)
    have e9 := e9.trans (nI_add (4 * i) 1)
    subst e9
    refine va_sld hx hb hX hbl hbA hS (vp_in_nI (by omega) (by omega)) dL_law_389 ?_
    refine lv_topi (fun v9 e9 => ?_)
    have e9 := (e9.trans hp0.symm).symm
    subst e9
    refine lv_aload_n hx hb dL_law_390 rfl (lv_at hl 1 rfl) ?_
    refine lv_iload hx hb dL_law_391 (lv_at hl 5 rfl) ?_
    refine lv_iconst (v := 2) hx hb dL_law_393 (by decide) ?_
    refine lv_iadd hx hb dL_law_394 ?_
    refine lv_topi (fun v9 e9 => ?_)
    have e9 := e9.trans (nI_add (4 * i) 2)
    subst e9
    refine va_sld hx hb hX hbl hbA hS (vp_in_nI (by omega) (by omega)) dL_law_395 ?_
    refine lv_topi (fun v9 e9 => ?_)
    have e9 := (e9.trans hp1.symm).symm
    subst e9
    have hPc := hP.sub (ws' := (mW B cA L P G V Rp S Y O D th (nI h) wd (nI T) ft fl cl mo)) [9, 10, 11, 12, 13, 14, 15, 16, 17, 18] rfl
    have hDc := hD.sub (ws' := (mW B cA L P G V Rp S Y O D th (nI h) wd (nI T) ft fl cl mo)) [9, 10, 11, 12, 13, 14, 15, 16, 17, 18] (by decide) rfl
    have hFc := va_free (wc := mW B cA L P G V Rp S Y O D th (nI h) wd (nI T) ft fl cl mo) hD hS hA [9, 10, 11, 12, 13, 14, 15, 16, 17, 18] rfl
    have hKc := hK.sub (tys' := tyI cA) [0] rfl
    refine va_calli (va_runV (As := [.int p0, .int p1]) (rest := []) ⟨hx, hb, hml, hown, hts⟩ (c_X1_gate l dG B cA H L P G V Rp S Y O D th (nI h) wd (nI T) ft fl cl mo p0 p1 (nIr (b := 4) I.1.1 (by omega))) (cwV 2 hts gL_law_X1_gate rfl rfl rfl (by decide +kernel) ⟨Nat.le_of_ble_eq_true rfl, Nat.le_of_ble_eq_true rfl⟩) ⟨fun a9 U g mk q => ⟨q.1, wPre_calling g mk a9 q.2⟩, va_recv hKc hPc (ci := 1) (q0 := 0) rfl rfl, fun U hU hW => ⟨rfl, wPre_of hKc hPc hDc hU hW⟩⟩ rfl rfl hl.1 rfl (lv_room (Nat.le_of_ble_eq_true rfl)) dL_law_396 ⟨(by show _ ≤ 1049; omega), (by show _ ≤ 11971; omega)⟩) hS (fun q _ h => hFc q h) hFc (fun r u t H locs ht hvm hw hB hz1 hk1 hS => ?_)
    obtain ⟨hr2, hu2⟩ := hw.1 hk
    subst hu2
    have hr2 := hr2.symm
    subst hr2
    obtain ⟨hP1, hK1, hD1⟩ := hB
    rw [ht] at hP1
    obtain ⟨hP, hD⟩ := va_join (wr := (xW A cA L P (upd G p0.toNatClampNeg p1) V R N Y S wd (nI T) ft fl ce (nI h) mo) ++ [(o, .inl (cL, 1, .inr (.inl (vp_updL fo 0 (G p0.toNatClampNeg).toInt64))))]) (w1 := (mW B cA L P (upd G p0.toNatClampNeg p1) V Rp S Y O D 0 (nI h) wd (nI T) ft fl cl mo)) hP hD [9, 10, 11, 12, 13, 14, 15, 16, 17, 18] [0, 1, 2, 3, 4, 5, 6, 7, 8, 19] rfl rfl (by decide) (by decide) hk1 hFc hP1 hD1
    have hP : va_P dG vwCl ((xW A cA L P (upd G p0.toNatClampNeg p1) V R N Y S wd (nI T) ft fl ce (nI h) mo) ++ (mW B cA L P (upd G p0.toNatClampNeg p1) V Rp S Y O D 0 (nI h) wd (nI T) ft fl cl mo) ++ [(o, .inl (cL, 1, .inr (.inl (vp_updL fo 0 (G p0.toNatClampNeg).toInt64))))]) H := hP.sub [0, 1, 2, 3, 4, 5, 6, 7, 8, 10, 11, 12, 13, 14, 15, 16, 17, 18, 19, 9] rfl
    have hD : va_D (aNew s.heap) ((xW A cA L P (upd G p0.toNatClampNeg p1) V R N Y S wd (nI T) ft fl ce (nI h) mo) ++ (mW B cA L P (upd G p0.toNatClampNeg p1) V Rp S Y O D 0 (nI h) wd (nI T) ft fl cl mo) ++ [(o, .inl (cL, 1, .inr (.inl (vp_updL fo 0 (G p0.toNatClampNeg).toInt64))))]) := hD.sub [0, 1, 2, 3, 4, 5, 6, 7, 8, 10, 11, 12, 13, 14, 15, 16, 17, 18, 19, 9] (by decide) rfl
    refine lv_istore (lv' := [(6, .int (G p0.toNatClampNeg)), (5, .int 0), (0, .ref b), (1, .ref (A 0)), (2, .ref (B 0)), (3, .ref o), (4, .int (nI (4 * i)))]) hx hb dL_law_399 hl (by decide) rfl (fun ls hl => ?_)
    refine lv_aload_n hx hb dL_law_401 rfl (lv_at hl 4 rfl) ?_
    have hPc := hP.sub (ws' := (mW B cA L P (upd G p0.toNatClampNeg p1) V Rp S Y O D 0 (nI h) wd (nI T) ft fl cl mo)) [9, 10, 11, 12, 13, 14, 15, 16, 17, 18] rfl
    have hDc := hD.sub (ws' := (mW B cA L P (upd G p0.toNatClampNeg p1) V Rp S Y O D 0 (nI h) wd (nI T) ft fl cl mo)) [9, 10, 11, 12, 13, 14, 15, 16, 17, 18] (by decide) rfl
    have hFc := va_free (wc := mW B cA L P (upd G p0.toNatClampNeg p1) V Rp S Y O D 0 (nI h) wd (nI T) ft fl cl mo) hD hS hA [9, 10, 11, 12, 13, 14, 15, 16, 17, 18] rfl
    have hKc := hK.sub (tys' := tyI cA) [0] rfl
    refine va_calli (va_runV (As := []) (rest := []) ⟨hx, hb, hml, hown, hts⟩ (c_X1_thrown l dG B cA H L P (upd G p0.toNatClampNeg p1) V Rp S Y O D 0 (nI h) wd (nI T) ft fl cl mo) (cwV 0 hts gL_law_X1_thrown rfl rfl rfl (by decide +kernel) ⟨Nat.le_of_ble_eq_true rfl, Nat.le_of_ble_eq_true rfl⟩) ⟨fun a9 U g mk q => ⟨q.1, wPre_calling g mk a9 q.2⟩, va_recv hKc hPc (ci := 1) (q0 := 0) rfl rfl, fun U hU hW => ⟨rfl, wPre_of hKc hPc hDc hU hW⟩⟩ rfl rfl hl.1 rfl (lv_room (Nat.le_of_ble_eq_true rfl)) dL_law_402 ⟨(by show _ ≤ 1049; omega), (by show _ ≤ 11971; omega)⟩) hS (fun q _ h => hFc q h) hFc (fun r u t H locs ht hvm hw hB hz1 hk1 hS => ?_)
    obtain ⟨hr3, hu3⟩ := hw
    subst hu3
    have hr3 := hr3.symm
    subst hr3
    obtain ⟨hP1, hK1, hD1⟩ := hB
    rw [ht] at hP1
    obtain ⟨hP, hD⟩ := va_join (wr := (xW A cA L P (upd G p0.toNatClampNeg p1) V R N Y S wd (nI T) ft fl ce (nI h) mo) ++ [(o, .inl (cL, 1, .inr (.inl (vp_updL fo 0 (G p0.toNatClampNeg).toInt64))))]) (w1 := (mW B cA L P (upd G p0.toNatClampNeg p1) V Rp S Y O D 0 (nI h) wd (nI T) ft fl cl mo)) hP hD [9, 10, 11, 12, 13, 14, 15, 16, 17, 18] [0, 1, 2, 3, 4, 5, 6, 7, 8, 19] rfl rfl (by decide) (by decide) hk1 hFc hP1 hD1
    have hP : va_P dG vwCl ((xW A cA L P (upd G p0.toNatClampNeg p1) V R N Y S wd (nI T) ft fl ce (nI h) mo) ++ (mW B cA L P (upd G p0.toNatClampNeg p1) V Rp S Y O D 0 (nI h) wd (nI T) ft fl cl mo) ++ [(o, .inl (cL, 1, .inr (.inl (vp_updL fo 0 (G p0.toNatClampNeg).toInt64))))]) H := hP.sub [0, 1, 2, 3, 4, 5, 6, 7, 8, 10, 11, 12, 13, 14, 15, 16, 17, 18, 19, 9] rfl
    have hD : va_D (aNew s.heap) ((xW A cA L P (upd G p0.toNatClampNeg p1) V R N Y S wd (nI T) ft fl ce (nI h) mo) ++ (mW B cA L P (upd G p0.toNatClampNeg p1) V Rp S Y O D 0 (nI h) wd (nI T) ft fl cl mo) ++ [(o, .inl (cL, 1, .inr (.inl (vp_updL fo 0 (G p0.toNatClampNeg).toInt64))))]) := hD.sub [0, 1, 2, 3, 4, 5, 6, 7, 8, 10, 11, 12, 13, 14, 15, 16, 17, 18, 19, 9] (by decide) rfl
    refine lv_iload hx hb dL_law_405 (lv_at hl 1 rfl) ?_
    refine lv_icmp_eq (tgt := 412) hx hb dL_law_407 (by decide) (fun _ => ?_) (fun h9 => absurd (by decide) h9)
    refine lv_iload hx hb dL_law_412 (lv_at hl 1 rfl) ?_
    refine lv_if_ne (tgt := 429) hx hb dL_law_414 (by decide) (fun h9 => absurd (by decide) h9) (fun _ => ?_)
    refine lv_aload_n hx hb dL_law_417 rfl (lv_at hl 5 rfl) ?_
    refine lv_iconst (v := 0) hx hb dL_law_418 (by decide) ?_
    refine va_lald hx hb hK hP 19 1 rfl rfl (i := 0) (vp_in_nI (n := 0) (by omega) (by omega)) dL_law_419 ?_
    refine lv_iload hx hb dL_law_420 (lv_at hl 0 rfl) ?_
    refine lv_i2l hx hb dL_law_422 rfl ?_
    refine W.lcmp hx hb dL_law_423 ?_
    refine lv_topi (fun v9 e9 => ?_)
    have e9 := e9.trans (lgc_eq rfl)
    subst e9
    refine lv_if_eq (tgt := 429) hx hb dL_law_424 (by decide) (fun _ => ?_) (fun h9 => absurd (by decide) h9)
    refine lv_goto (tgt := 1130) hx hb dL_law_429 (by decide) ?_
    exact k L P (upd G p0.toNatClampNeg p1) V R N Y S Rp O D T h wd ft fl ce cl 0 mo (vp_updL fo 0 (G p0.toNatClampNeg).toInt64) H locs ls (Inv_gate I hk) hP hD hS (lv_sub hl [2, 3, 4, 5, 6] rfl)
  · have hPc := hP.sub (ws' := (xW A cA L P G V R N Y S wd (nI T) ft fl ce (nI h) mo) ++ ([(o, .inl (cL, 1, .inr (.inl fo)))])) [0, 1, 2, 3, 4, 5, 6, 7, 8, 19] rfl
    have hDc := hD.sub (ws' := (xW A cA L P G V R N Y S wd (nI T) ft fl ce (nI h) mo) ++ ([(o, .inl (cL, 1, .inr (.inl fo)))])) [0, 1, 2, 3, 4, 5, 6, 7, 8, 19] (by decide) rfl
    have hFc := va_free (wc := (xW A cA L P G V R N Y S wd (nI T) ft fl ce (nI h) mo) ++ ([(o, .inl (cL, 1, .inr (.inl fo)))])) hD hS hA [0, 1, 2, 3, 4, 5, 6, 7, 8, 19] rfl
    refine va_calli (vx_runSW (As := [.ref (A 0), .int p0, .int p1, .ref o]) (rest := []) ⟨hx, hb, hml, hown, hts⟩ (c_L_gate l hl0 dG a A o cA cL H L P G V R N Y S T h wd ft fl ce mo fo p0 p1 I.1.1 I.1.2) (vx_cwSW 4 hts gL_law_L_gate rfl rfl rfl (by decide +kernel) ⟨Nat.le_of_ble_eq_true rfl, Nat.le_of_ble_eq_true rfl⟩) ⟨fun a9 U g mk q => ⟨q.1, wPre_calling g mk a9 q.2.1, q.2.2.calling g mk a9⟩, fun U hU hW => ⟨rfl, wPre_of hK hPc hDc hU hW, hE.go hW hS hFc⟩⟩ rfl rfl hl.1 rfl (lv_room (Nat.le_of_ble_eq_true rfl)) dL_law_378 ⟨(by show _ ≤ 1049; omega), (by show _ ≤ 11971; omega)⟩) hS (fun q _ h => hFc q h) hFc (fun r u t H locs ht hvm hw hB hz1 hk1 hS => ?_)
    obtain ⟨hr1, hu0, hu1⟩ := hw
    have hu := hu1 hk
    subst hu
    have hr1 := hr1.symm
    subst hr1
    obtain ⟨hP1, hK1, hD1⟩ := hB
    rw [ht] at hP1
    obtain ⟨hP, hD⟩ := va_join (wr := (mW B cA L P G V Rp S Y O D th (nI h) wd (nI T) ft fl cl mo)) (w1 := (xW A cA L P G V R N Y S wd (nI T) ft fl ce (nI h) mo) ++ [(o, .inl (cL, 1, .inr (.inl fo)))]) hP hD [0, 1, 2, 3, 4, 5, 6, 7, 8, 19] [9, 10, 11, 12, 13, 14, 15, 16, 17, 18] rfl rfl (by decide) (by decide) hk1 hFc hP1 hD1
    have hP : va_P dG vwCl ((xW A cA L P G V R N Y S wd (nI T) ft fl ce (nI h) mo) ++ (mW B cA L P G V Rp S Y O D th (nI h) wd (nI T) ft fl cl mo) ++ [(o, .inl (cL, 1, .inr (.inl fo)))]) H := hP.sub [10, 11, 12, 13, 14, 15, 16, 17, 18, 0, 1, 2, 3, 4, 5, 6, 7, 8, 9, 19] rfl
    have hD : va_D (aNew s.heap) ((xW A cA L P G V R N Y S wd (nI T) ft fl ce (nI h) mo) ++ (mW B cA L P G V Rp S Y O D th (nI h) wd (nI T) ft fl cl mo) ++ [(o, .inl (cL, 1, .inr (.inl fo)))]) := hD.sub [10, 11, 12, 13, 14, 15, 16, 17, 18, 0, 1, 2, 3, 4, 5, 6, 7, 8, 9, 19] (by decide) rfl
    refine lv_istore (lv' := [(5, .int (kGate (nI T) p0 p1)), (0, .ref b), (1, .ref (A 0)), (2, .ref (B 0)), (3, .ref o), (4, .int (nI (4 * i)))]) hx hb dL_law_381 hl (by decide) rfl (fun ls hl => ?_)
    refine lv_aload_n hx hb dL_law_383 rfl (lv_at hl 3 rfl) ?_
    refine lv_aload_n hx hb dL_law_384 rfl (lv_at hl 1 rfl) ?_
    refine lv_iload hx hb dL_law_385 (lv_at hl 5 rfl) ?_
    refine lv_iconst (v := 1) hx hb dL_law_387 (by decide) ?_
    refine lv_iadd hx hb dL_law_388 ?_
    refine lv_topi (fun v9 e9 => ?_)
    have e9 := e9.trans (nI_add (4 * i) 1)
    subst e9
    refine va_sld hx hb hX hbl hbA hS (vp_in_nI (by omega) (by omega)) dL_law_389 ?_
    refine lv_topi (fun v9 e9 => ?_)
    have e9 := (e9.trans hp0.symm).symm
    subst e9
    refine lv_aload_n hx hb dL_law_390 rfl (lv_at hl 1 rfl) ?_
    refine lv_iload hx hb dL_law_391 (lv_at hl 5 rfl) ?_
    refine lv_iconst (v := 2) hx hb dL_law_393 (by decide) ?_
    refine lv_iadd hx hb dL_law_394 ?_
    refine lv_topi (fun v9 e9 => ?_)
    have e9 := e9.trans (nI_add (4 * i) 2)
    subst e9
    refine va_sld hx hb hX hbl hbA hS (vp_in_nI (by omega) (by omega)) dL_law_395 ?_
    refine lv_topi (fun v9 e9 => ?_)
    have e9 := (e9.trans hp1.symm).symm
    subst e9
    have hPc := hP.sub (ws' := (mW B cA L P G V Rp S Y O D th (nI h) wd (nI T) ft fl cl mo)) [9, 10, 11, 12, 13, 14, 15, 16, 17, 18] rfl
    have hDc := hD.sub (ws' := (mW B cA L P G V Rp S Y O D th (nI h) wd (nI T) ft fl cl mo)) [9, 10, 11, 12, 13, 14, 15, 16, 17, 18] (by decide) rfl
    have hFc := va_free (wc := mW B cA L P G V Rp S Y O D th (nI h) wd (nI T) ft fl cl mo) hD hS hA [9, 10, 11, 12, 13, 14, 15, 16, 17, 18] rfl
    have hKc := hK.sub (tys' := tyI cA) [0] rfl
    refine va_calli (va_runV (As := [.int p0, .int p1]) (rest := []) ⟨hx, hb, hml, hown, hts⟩ (c_X1_gate l dG B cA H L P G V Rp S Y O D th (nI h) wd (nI T) ft fl cl mo p0 p1 (nIr (b := 4) I.1.1 (by omega))) (cwV 2 hts gL_law_X1_gate rfl rfl rfl (by decide +kernel) ⟨Nat.le_of_ble_eq_true rfl, Nat.le_of_ble_eq_true rfl⟩) ⟨fun a9 U g mk q => ⟨q.1, wPre_calling g mk a9 q.2⟩, va_recv hKc hPc (ci := 1) (q0 := 0) rfl rfl, fun U hU hW => ⟨rfl, wPre_of hKc hPc hDc hU hW⟩⟩ rfl rfl hl.1 rfl (lv_room (Nat.le_of_ble_eq_true rfl)) dL_law_396 ⟨(by show _ ≤ 1049; omega), (by show _ ≤ 11971; omega)⟩) hS (fun q _ h => hFc q h) hFc (fun r u t H locs ht hvm hw hB hz1 hk1 hS => ?_)
    obtain ⟨hr2, hu2⟩ := hw.2 hk
    subst hu2
    have hr2 := hr2.symm
    subst hr2
    obtain ⟨hP1, hK1, hD1⟩ := hB
    rw [ht] at hP1
    obtain ⟨hP, hD⟩ := va_join (wr := (xW A cA L P G V R N Y S wd (nI T) ft fl ce (nI h) mo) ++ [(o, .inl (cL, 1, .inr (.inl fo)))]) (w1 := (mW B cA L P G V Rp S Y O D (kGate (nI T) p0 p1) (nI h) wd (nI T) ft fl cl mo)) hP hD [9, 10, 11, 12, 13, 14, 15, 16, 17, 18] [0, 1, 2, 3, 4, 5, 6, 7, 8, 19] rfl rfl (by decide) (by decide) hk1 hFc hP1 hD1
    have hP : va_P dG vwCl ((xW A cA L P G V R N Y S wd (nI T) ft fl ce (nI h) mo) ++ (mW B cA L P G V Rp S Y O D (kGate (nI T) p0 p1) (nI h) wd (nI T) ft fl cl mo) ++ [(o, .inl (cL, 1, .inr (.inl fo)))]) H := hP.sub [0, 1, 2, 3, 4, 5, 6, 7, 8, 10, 11, 12, 13, 14, 15, 16, 17, 18, 19, 9] rfl
    have hD : va_D (aNew s.heap) ((xW A cA L P G V R N Y S wd (nI T) ft fl ce (nI h) mo) ++ (mW B cA L P G V Rp S Y O D (kGate (nI T) p0 p1) (nI h) wd (nI T) ft fl cl mo) ++ [(o, .inl (cL, 1, .inr (.inl fo)))]) := hD.sub [0, 1, 2, 3, 4, 5, 6, 7, 8, 10, 11, 12, 13, 14, 15, 16, 17, 18, 19, 9] (by decide) rfl
    refine lv_istore (lv' := [(6, .int 0), (5, .int (kGate (nI T) p0 p1)), (0, .ref b), (1, .ref (A 0)), (2, .ref (B 0)), (3, .ref o), (4, .int (nI (4 * i)))]) hx hb dL_law_399 hl (by decide) rfl (fun ls hl => ?_)
    refine lv_aload_n hx hb dL_law_401 rfl (lv_at hl 4 rfl) ?_
    have hPc := hP.sub (ws' := (mW B cA L P G V Rp S Y O D (kGate (nI T) p0 p1) (nI h) wd (nI T) ft fl cl mo)) [9, 10, 11, 12, 13, 14, 15, 16, 17, 18] rfl
    have hDc := hD.sub (ws' := (mW B cA L P G V Rp S Y O D (kGate (nI T) p0 p1) (nI h) wd (nI T) ft fl cl mo)) [9, 10, 11, 12, 13, 14, 15, 16, 17, 18] (by decide) rfl
    have hFc := va_free (wc := mW B cA L P G V Rp S Y O D (kGate (nI T) p0 p1) (nI h) wd (nI T) ft fl cl mo) hD hS hA [9, 10, 11, 12, 13, 14, 15, 16, 17, 18] rfl
    have hKc := hK.sub (tys' := tyI cA) [0] rfl
    refine va_calli (va_runV (As := []) (rest := []) ⟨hx, hb, hml, hown, hts⟩ (c_X1_thrown l dG B cA H L P G V Rp S Y O D (kGate (nI T) p0 p1) (nI h) wd (nI T) ft fl cl mo) (cwV 0 hts gL_law_X1_thrown rfl rfl rfl (by decide +kernel) ⟨Nat.le_of_ble_eq_true rfl, Nat.le_of_ble_eq_true rfl⟩) ⟨fun a9 U g mk q => ⟨q.1, wPre_calling g mk a9 q.2⟩, va_recv hKc hPc (ci := 1) (q0 := 0) rfl rfl, fun U hU hW => ⟨rfl, wPre_of hKc hPc hDc hU hW⟩⟩ rfl rfl hl.1 rfl (lv_room (Nat.le_of_ble_eq_true rfl)) dL_law_402 ⟨(by show _ ≤ 1049; omega), (by show _ ≤ 11971; omega)⟩) hS (fun q _ h => hFc q h) hFc (fun r u t H locs ht hvm hw hB hz1 hk1 hS => ?_)
    obtain ⟨hr3, hu3⟩ := hw
    subst hu3
    have hr3 := hr3.symm
    subst hr3
    obtain ⟨hP1, hK1, hD1⟩ := hB
    rw [ht] at hP1
    obtain ⟨hP, hD⟩ := va_join (wr := (xW A cA L P G V R N Y S wd (nI T) ft fl ce (nI h) mo) ++ [(o, .inl (cL, 1, .inr (.inl fo)))]) (w1 := (mW B cA L P G V Rp S Y O D (kGate (nI T) p0 p1) (nI h) wd (nI T) ft fl cl mo)) hP hD [9, 10, 11, 12, 13, 14, 15, 16, 17, 18] [0, 1, 2, 3, 4, 5, 6, 7, 8, 19] rfl rfl (by decide) (by decide) hk1 hFc hP1 hD1
    have hP : va_P dG vwCl ((xW A cA L P G V R N Y S wd (nI T) ft fl ce (nI h) mo) ++ (mW B cA L P G V Rp S Y O D (kGate (nI T) p0 p1) (nI h) wd (nI T) ft fl cl mo) ++ [(o, .inl (cL, 1, .inr (.inl fo)))]) H := hP.sub [0, 1, 2, 3, 4, 5, 6, 7, 8, 10, 11, 12, 13, 14, 15, 16, 17, 18, 19, 9] rfl
    have hD : va_D (aNew s.heap) ((xW A cA L P G V R N Y S wd (nI T) ft fl ce (nI h) mo) ++ (mW B cA L P G V Rp S Y O D (kGate (nI T) p0 p1) (nI h) wd (nI T) ft fl cl mo) ++ [(o, .inl (cL, 1, .inr (.inl fo)))]) := hD.sub [0, 1, 2, 3, 4, 5, 6, 7, 8, 10, 11, 12, 13, 14, 15, 16, 17, 18, 19, 9] (by decide) rfl
    refine lv_iload hx hb dL_law_405 (lv_at hl 1 rfl) ?_
    refine lv_icmp_eq (tgt := 412) hx hb dL_law_407 (by decide) (fun _ => ?_) (fun h9 => absurd rfl h9)
    refine lv_iload hx hb dL_law_412 (lv_at hl 1 rfl) ?_
    refine lv_if_ne (tgt := 429) hx hb dL_law_414 (by decide) (fun _ => ?_) (fun h9 => absurd h9 hk)
    refine lv_goto (tgt := 1130) hx hb dL_law_429 (by decide) ?_
    exact k L P G V R N Y S Rp O D T h wd ft fl ce cl (kGate (nI T) p0 p1) mo fo H locs ls I hP hD hS (lv_sub hl [2, 3, 4, 5, 6] rfl)
