set_option maxHeartbeats 4000000 in
set_option maxRecDepth 100000 in
theorem c_L_sell (l : Launch) (hl0 : l.stackTraces = false) (dG : va_G) (a A : Nat → Nat) (o : Nat) (cA cL : ClassId) (Hp : Heap) (L P G V R N Y S : Nat → Int32) (T h : Nat) (wd ft fl ce : Int32) (mo : UInt32) (fo : Nat → Int64) (p0 : Int32) (p1 : Int32) (p2 : Int32) (hT : T ≤ 4) (hh : h ≤ 500) (hmo : FP.Core.FFin mo) : Met l yL_sell wsL_sell ({ frames := 8, cells := 1, slots := 6, locals := 170 }) (va_Pc [.ref (A 0), .int p0, .int p1, .int p2, .ref o] (fun U => wPre dG (tyL cA cL) (xW A cA L P G V R N Y S wd (nI T) ft fl ce (nI h) mo ++ [(o, .inl (cL, 1, .inr (.inl fo)))]) Hp U ∧ tgE a (va_A (xW A cA L P G V R N Y S wd (nI T) ft fl ce (nI h) mo ++ [(o, .inl (cL, 1, .inr (.inl fo)))]) Hp.size) U Hp)) (va_Qi (fun (r : Int32) (u : XS × (Nat → Int64)) => r = kSell S (nI h) p0 p1 p2 ∧ (kSell S (nI h) p0 p1 p2 = 0 → u = ((L, P, G, V, R, N, Y, (upd S p0.toNatClampNeg (S p0.toNatClampNeg + p1)), wd, (nI T), ft, fl, ce, (nI h), (FP.fadd mo (fWorth p1 p2))), vp_updL fo 0 ((S p0.toNatClampNeg + p1).toInt64))) ∧ (¬ kSell S (nI h) p0 p1 p2 = 0 → u = ((L, P, G, V, R, N, Y, S, wd, (nI T), ft, fl, ce, (nI h), mo), fo))) (fun u t => wAt dG (tyL cA cL) (va_A (xW A cA L P G V R N Y S wd (nI T) ft fl ce (nI h) mo ++ [(o, .inl (cL, 1, .inr (.inl fo)))]) Hp.size) (xU A cA u.1 ++ [(o, .inl (cL, 1, .inr (.inl u.2)))]) t) (va_A (xW A cA L P G V R N Y S wd (nI T) ft fl ce (nI h) mo ++ [(o, .inl (cL, 1, .inr (.inl fo)))]) Hp.size)) 1 6 (va_A (xW A cA L P G V R N Y S wd (nI T) ft fl ce (nI h) mo ++ [(o, .inl (cL, 1, .inr (.inl fo)))]) Hp.size) := by
  refine Met.ofWH (cc := cL_sell) (maxL := 6) (ret := some .int) (by decide) rfl ?_
  intro p e s m args below meth c s₁ Bd hml hv
  obtain ⟨rfl, ⟨hH, hP, hK, hD0⟩, hE⟩ := hv
  subst hH
  have hx := Bd.exec
  have hb := Bd.bytes
  have hr := Bd.returns
  have hts := atoms_spec (ws := wsL_sell) Bd.pre
  have hown : s.vm.findClass RL = some m.cls := findClass_of_methodNamed Bd.named
  have hlocks := Bd.notSynchronized
  have htab := vx_table (x := yL_sell) Bd (hts _ List.mem_cons_self)
  have hD := hD0.self (sz := s.heap.size)
  generalize hAe : va_A (xW A cA L P G V R N Y S wd (nI T) ft fl ce (nI h) mo ++ [(o, .inl (cL, 1, .inr (.inl fo)))]) s.heap.size = F at hD hE ⊢
  have hA : ∀ q : Nat, s.heap.size ≤ q → F q := fun q h => by rw [← hAe]; exact Or.inr h
  have hS : va_S F s.heap s.heap [] := va_S.rf
  have hP : va_P dG vwCl (xW A cA L P G V R N Y S wd (nI T) ft fl ce (nI h) mo ++ [(o, .inl (cL, 1, .inr (.inl fo)))]) s.heap := hP
  have hl := lv_entry ([.ref (A 0), .int p0, .int p1, .int p2, .ref o]) (n := 6) (Nat.le_of_ble_eq_true rfl)
  rw [lg_entry_eq]
  generalize (lg_sl ([.ref (A 0), .int p0, .int p1, .int p2, .ref o]) ++ List.replicate (6 - (lg_sl ([.ref (A 0), .int p0, .int p1, .int p2, .ref o])).length) Slot.unset).toArray = ls at hl ⊢
  have hl : lv_has ls 6 [(0, .ref (A 0)), (1, .int p0), (2, .int p1), (3, .int p2), (4, .ref o)] := hl
  refine lv_aload hx hb dL_sell_0 (lv_at hl 4 rfl) ?_
  refine lv_iconst (v := 0) hx hb dL_sell_2 (by decide) ?_
  refine lv_aload_n hx hb dL_sell_3 rfl (lv_at hl 0 rfl) ?_
  refine lv_iload_n hx hb dL_sell_4 rfl (lv_at hl 1 rfl) ?_
  refine lv_iload_n hx hb dL_sell_5 rfl (lv_at hl 2 rfl) ?_
  refine lv_iload_n hx hb dL_sell_6 rfl (lv_at hl 3 rfl) ?_
  have hPc := hP.sub (ws' := (xW A cA L P G V R N Y S wd (nI T) ft fl ce (nI h) mo)) [0, 1, 2, 3, 4, 5, 6, 7, 8] rfl
  have hDc := hD.sub (ws' := (xW A cA L P G V R N Y S wd (nI T) ft fl ce (nI h) mo)) [0, 1, 2, 3, 4, 5, 6, 7, 8] (by decide) rfl
  have hKc := hK.sub (tys' := tyI cA) [0] rfl
  have hFc := va_free (wc := (xW A cA L P G V R N Y S wd (nI T) ft fl ce (nI h) mo)) hD hS hA [0, 1, 2, 3, 4, 5, 6, 7, 8] rfl
  refine vx_calli (vx_runV (As := [.int p0, .int p1, .int p2]) (rest := [.int 0, .ref o]) ⟨hx, hb, hml, hown, hts⟩ (c_X0_sell l hl0 dG a A cA s.heap L P G V R N Y S wd (nI T) ft fl ce (nI h) mo p0 p1 p2 (nIr (b := 500) hh (by omega)) (fun _ => nn_mul _ _) (fun _ => nn_add hmo (mul_fin _ _))) (cwV 3 hts gL_sell_X0_sell rfl rfl rfl (by decide +kernel) ⟨Nat.le_of_ble_eq_true rfl, Nat.le_of_ble_eq_true rfl⟩) ⟨fun a9 U g mk q => ⟨q.1, wPre_calling g mk a9 q.2.1, q.2.2.calling g mk a9⟩, va_recv hKc hPc (ci := 0) (q0 := 0) rfl rfl, fun U hU hW => ⟨rfl, wPre_of hKc hPc hDc hU hW, hE.go hW hS hFc⟩⟩ rfl rfl hl.1 rfl (lv_room (Nat.le_of_ble_eq_true rfl)) dL_sell_7 ⟨Nat.le_of_ble_eq_true rfl, Nat.le_of_ble_eq_true rfl⟩) hS (fun q _ h => hFc q h) hFc (fun q _ h => h.elim) (fun E c9 q9 u t H locs ht hvm hp hB hz1 hk1 hS hce hcv hcl => ?_) (fun r u t H locs ht hvm hw hB hz1 hk1 hS => ?_)
  · subst hB
    have hP : va_P dG vwCl (xW A cA L P G V R N Y S wd (nI T) ft fl ce (nI h) mo ++ [(o, .inl (cL, 1, .inr (.inl fo)))]) H := hP.kept (fun k x hx => hk1 x.1 (hP k x hx).lt (fun h => h))
    rcases hp with ⟨rfl, hk⟩ | ⟨rfl, hk⟩ | ⟨rfl, hk⟩
    · refine vx_catch hown [] ⟨0, 12, 15, 13⟩ [⟨0, 12, 19, 15⟩, ⟨0, 12, 23, 28⟩] (htab.trans rfl) (fun z hz => absurd hz List.not_mem_nil) (by decide) (by decide) (hts (.classLink RL 13 eI) (by decide +kernel)) (va_Nw.use rfl hE.1.2.1.1) hce hcv hcl ?_
      refine lv_astore (lv' := [(5, .ref q9), (0, .ref (A 0)), (1, .int p0), (2, .int p1), (3, .int p2), (4, .ref o)]) hx hb dL_sell_15 hl (by decide) rfl (fun ls hl => ?_)
      refine lv_iconst (v := 1) hx hb dL_sell_17 (by decide) ?_
      exact W.iret hx hb hr (fun t ht hW => ⟨⟨_, ((L, P, G, V, R, N, Y, S, wd, (nI T), ft, fl, ce, (nI h), mo), fo), rfl, ⟨hk.symm, fun h9 => absurd (h9.symm.trans hk) (by decide), fun _ => rfl⟩, by rw [ht]; exact hP, va_K.moved hW.alike hK, hD⟩, hS.F ht⟩) hS.2.2 dL_sell_18
    · refine vx_catch hown [⟨0, 12, 15, 13⟩] ⟨0, 12, 19, 15⟩ [⟨0, 12, 23, 28⟩] (htab.trans rfl) (fun z hz => by rw [List.mem_singleton.mp hz]; exact Or.inr ⟨by decide, eI, hts (.classLink RL 13 eI) (by decide +kernel), hE.1.2.2.1.1⟩) (by decide) (by decide) (hts (.classLink RL 15 eA) (by decide +kernel)) (va_Nw.use rfl hE.1.2.1.2.1) hce hcv hcl ?_
      refine lv_astore (lv' := [(5, .ref q9), (0, .ref (A 0)), (1, .int p0), (2, .int p1), (3, .int p2), (4, .ref o)]) hx hb dL_sell_19 hl (by decide) rfl (fun ls hl => ?_)
      refine lv_iconst (v := 2) hx hb dL_sell_21 (by decide) ?_
      exact W.iret hx hb hr (fun t ht hW => ⟨⟨_, ((L, P, G, V, R, N, Y, S, wd, (nI T), ft, fl, ce, (nI h), mo), fo), rfl, ⟨hk.symm, fun h9 => absurd (h9.symm.trans hk) (by decide), fun _ => rfl⟩, by rw [ht]; exact hP, va_K.moved hW.alike hK, hD⟩, hS.F ht⟩) hS.2.2 dL_sell_22
    · refine vx_catch hown [⟨0, 12, 15, 13⟩, ⟨0, 12, 19, 15⟩] ⟨0, 12, 23, 28⟩ [] (htab.trans rfl) (fun z hz => (List.mem_cons.mp hz).elim (fun e => by rw [e]; exact Or.inr ⟨by decide, eI, hts (.classLink RL 13 eI) (by decide +kernel), hE.1.2.2.1.2.1⟩) (fun hz => by rw [List.mem_singleton.mp hz]; exact Or.inr ⟨by decide, eA, hts (.classLink RL 15 eA) (by decide +kernel), hE.1.2.2.1.2.2⟩)) (by decide) (by decide) (hts (.classLink RL 28 eS) (by decide +kernel)) (va_Nw.use rfl hE.1.2.1.2.2) hce hcv hcl ?_
      refine lv_astore (lv' := [(5, .ref q9), (0, .ref (A 0)), (1, .int p0), (2, .int p1), (3, .int p2), (4, .ref o)]) hx hb dL_sell_23 hl (by decide) rfl (fun ls hl => ?_)
      refine lv_iconst (v := 3) hx hb dL_sell_25 (by decide) ?_
      exact W.iret hx hb hr (fun t ht hW => ⟨⟨_, ((L, P, G, V, R, N, Y, S, wd, (nI T), ft, fl, ce, (nI h), mo), fo), rfl, ⟨hk.symm, fun h9 => absurd (h9.symm.trans hk) (by decide), fun _ => rfl⟩, by rw [ht]; exact hP, va_K.moved hW.alike hK, hD⟩, hS.F ht⟩) hS.2.2 dL_sell_26
  · obtain ⟨hk, hw1, hw2⟩ := hw
    have hw1 := hw1.symm
    subst hw1
    subst hw2
    obtain ⟨hP1, hK1, hD1⟩ := hB
    rw [ht] at hP1
    obtain ⟨hP, hD⟩ := va_join (wr := [(o, .inl (cL, 1, .inr (.inl fo)))]) (w1 := (xW A cA L P G V R N Y (upd S p0.toNatClampNeg (S p0.toNatClampNeg + p1)) wd (nI T) ft fl ce (nI h) (FP.fadd mo (fWorth p1 p2)))) hP hD [0, 1, 2, 3, 4, 5, 6, 7, 8] [9] rfl rfl (by decide) (by decide) hk1 hFc hP1 hD1
    have hP : va_P dG vwCl (xW A cA L P G V R N Y (upd S p0.toNatClampNeg (S p0.toNatClampNeg + p1)) wd (nI T) ft fl ce (nI h) (FP.fadd mo (fWorth p1 p2)) ++ [(o, .inl (cL, 1, .inr (.inl fo)))]) H := hP.sub [1, 2, 3, 4, 5, 6, 7, 8, 9, 0] rfl
    have hD : va_D F (xW A cA L P G V R N Y (upd S p0.toNatClampNeg (S p0.toNatClampNeg + p1)) wd (nI T) ft fl ce (nI h) (FP.fadd mo (fWorth p1 p2)) ++ [(o, .inl (cL, 1, .inr (.inl fo)))]) := hD.sub [1, 2, 3, 4, 5, 6, 7, 8, 9, 0] (by decide) rfl
    refine lv_i2l hx hb dL_sell_10 rfl ?_
    refine va_last hx hb hK hP hD hS 9 1 rfl rfl (i := 0) (vp_in_nI (n := 0) (by omega) (by omega)) dL_sell_11 (fun H locs hP hD hS => ?_)
    have hP : va_P dG vwCl (xW A cA L P G V R N Y (upd S p0.toNatClampNeg (S p0.toNatClampNeg + p1)) wd (nI T) ft fl ce (nI h) (FP.fadd mo (fWorth p1 p2)) ++ [(o, .inl (cL, 1, .inr (.inl (vp_updL fo 0 ((S p0.toNatClampNeg + p1).toInt64)))))]) H := hP
    have hD : va_D F (xW A cA L P G V R N Y (upd S p0.toNatClampNeg (S p0.toNatClampNeg + p1)) wd (nI T) ft fl ce (nI h) (FP.fadd mo (fWorth p1 p2)) ++ [(o, .inl (cL, 1, .inr (.inl (vp_updL fo 0 ((S p0.toNatClampNeg + p1).toInt64)))))]) := hD
    refine lv_goto (tgt := 27) hx hb dL_sell_12 (by decide) ?_
    refine lv_iconst (v := 0) hx hb dL_sell_27 (by decide) ?_
    exact W.iret hx hb hr (fun t ht hW => ⟨⟨_, ((L, P, G, V, R, N, Y, (upd S p0.toNatClampNeg (S p0.toNatClampNeg + p1)), wd, (nI T), ft, fl, ce, (nI h), (FP.fadd mo (fWorth p1 p2))), (vp_updL fo 0 ((S p0.toNatClampNeg + p1).toInt64))), rfl, ⟨hk.symm, fun _ => rfl, fun h9 => absurd hk h9⟩, by rw [ht]; exact hP, va_K.moved hW.alike hK, hD⟩, hS.F ht⟩) hS.2.2 dL_sell_28
set_option maxHeartbeats 4000000 in
set_option maxRecDepth 100000 in
theorem c_L_made (l : Launch) (hl0 : l.stackTraces = false) (dG : va_G) (a A : Nat → Nat) (o : Nat) (cA cL : ClassId) (Hp : Heap) (L P G V R N Y S : Nat → Int32) (T h : Nat) (wd ft fl ce : Int32) (mo : UInt32) (fo : Nat → Int64) (p0 : Int32) (hT : T ≤ 4) (hh : h ≤ 500) : Met l yL_made wsL_made ({ frames := 8, cells := 1, slots := 6, locals := 170 }) (va_Pc [.ref (A 0), .int p0, .ref o] (fun U => wPre dG (tyL cA cL) (xW A cA L P G V R N Y S wd (nI T) ft fl ce (nI h) mo ++ [(o, .inl (cL, 1, .inr (.inl fo)))]) Hp U ∧ tgE a (va_A (xW A cA L P G V R N Y S wd (nI T) ft fl ce (nI h) mo ++ [(o, .inl (cL, 1, .inr (.inl fo)))]) Hp.size) U Hp)) (va_Qi (fun (r : Int32) (u : XS × (Nat → Int64)) => r = kGone (nI h) p0 ∧ (kGone (nI h) p0 = 0 → u = ((L, P, G, V, R, N, Y, S, wd, (nI T), ft, fl, ce, (nI h), mo), vp_updL fo 0 ((Y p0.toNatClampNeg).toInt64))) ∧ (¬ kGone (nI h) p0 = 0 → u = ((L, P, G, V, R, N, Y, S, wd, (nI T), ft, fl, ce, (nI h), mo), fo))) (fun u t => wAt dG (tyL cA cL) (va_A (xW A cA L P G V R N Y S wd (nI T) ft fl ce (nI h) mo ++ [(o, .inl (cL, 1, .inr (.inl fo)))]) Hp.size) (xU A cA u.1 ++ [(o, .inl (cL, 1, .inr (.inl u.2)))]) t) (va_A (xW A cA L P G V R N Y S wd (nI T) ft fl ce (nI h) mo ++ [(o, .inl (cL, 1, .inr (.inl fo)))]) Hp.size)) 1 6 (va_A (xW A cA L P G V R N Y S wd (nI T) ft fl ce (nI h) mo ++ [(o, .inl (cL, 1, .inr (.inl fo)))]) Hp.size) := by
  refine Met.ofWH (cc := cL_made) (maxL := 4) (ret := some .int) (by decide) rfl ?_
  intro p e s m args below meth c s₁ Bd hml hv
  obtain ⟨rfl, ⟨hH, hP, hK, hD0⟩, hE⟩ := hv
  subst hH
  have hx := Bd.exec
  have hb := Bd.bytes
  have hr := Bd.returns
  have hts := atoms_spec (ws := wsL_made) Bd.pre
  have hown : s.vm.findClass RL = some m.cls := findClass_of_methodNamed Bd.named
  have hlocks := Bd.notSynchronized
  have htab := vx_table (x := yL_made) Bd (hts _ List.mem_cons_self)
  have hD := hD0.self (sz := s.heap.size)
  generalize hAe : va_A (xW A cA L P G V R N Y S wd (nI T) ft fl ce (nI h) mo ++ [(o, .inl (cL, 1, .inr (.inl fo)))]) s.heap.size = F at hD hE ⊢
  have hA : ∀ q : Nat, s.heap.size ≤ q → F q := fun q h => by rw [← hAe]; exact Or.inr h
  have hS : va_S F s.heap s.heap [] := va_S.rf
  have hP : va_P dG vwCl (xW A cA L P G V R N Y S wd (nI T) ft fl ce (nI h) mo ++ [(o, .inl (cL, 1, .inr (.inl fo)))]) s.heap := hP
  have hl := lv_entry ([.ref (A 0), .int p0, .ref o]) (n := 4) (Nat.le_of_ble_eq_true rfl)
  rw [lg_entry_eq]
  generalize (lg_sl ([.ref (A 0), .int p0, .ref o]) ++ List.replicate (4 - (lg_sl ([.ref (A 0), .int p0, .ref o])).length) Slot.unset).toArray = ls at hl ⊢
  have hl : lv_has ls 4 [(0, .ref (A 0)), (1, .int p0), (2, .ref o)] := hl
  refine lv_aload_n hx hb dL_made_0 rfl (lv_at hl 2 rfl) ?_
  refine lv_iconst (v := 0) hx hb dL_made_1 (by decide) ?_
  refine lv_aload_n hx hb dL_made_2 rfl (lv_at hl 0 rfl) ?_
  refine lv_iload_n hx hb dL_made_3 rfl (lv_at hl 1 rfl) ?_
  have hPc := hP.sub (ws' := (xW A cA L P G V R N Y S wd (nI T) ft fl ce (nI h) mo)) [0, 1, 2, 3, 4, 5, 6, 7, 8] rfl
  have hDc := hD.sub (ws' := (xW A cA L P G V R N Y S wd (nI T) ft fl ce (nI h) mo)) [0, 1, 2, 3, 4, 5, 6, 7, 8] (by decide) rfl
  have hKc := hK.sub (tys' := tyI cA) [0] rfl
  have hFc := va_free (wc := (xW A cA L P G V R N Y S wd (nI T) ft fl ce (nI h) mo)) hD hS hA [0, 1, 2, 3, 4, 5, 6, 7, 8] rfl
  refine vx_calli (vx_runV (As := [.int p0]) (rest := [.int 0, .ref o]) ⟨hx, hb, hml, hown, hts⟩ (c_X0_made l hl0 dG a A cA s.heap L P G V R N Y S wd (nI T) ft fl ce (nI h) mo p0 (nIr (b := 500) hh (by omega))) (cwV 1 hts gL_made_X0_made rfl rfl rfl (by decide +kernel) ⟨Nat.le_of_ble_eq_true rfl, Nat.le_of_ble_eq_true rfl⟩) ⟨fun a9 U g mk q => ⟨q.1, wPre_calling g mk a9 q.2.1, q.2.2.calling g mk a9⟩, va_recv hKc hPc (ci := 0) (q0 := 0) rfl rfl, fun U hU hW => ⟨rfl, wPre_of hKc hPc hDc hU hW, hE.go hW hS hFc⟩⟩ rfl rfl hl.1 rfl (lv_room (Nat.le_of_ble_eq_true rfl)) dL_made_4 ⟨Nat.le_of_ble_eq_true rfl, Nat.le_of_ble_eq_true rfl⟩) hS (fun q _ h => h.elim) hFc (fun q _ h => h.elim) (fun E c9 q9 u t H locs ht hvm hp hB hz1 hk1 hS hce hcv hcl => ?_) (fun r u t H1 locs ht hvm hw hB hz1 hk1 hS => ?_)
  · subst hB
    have hP : va_P dG vwCl (xW A cA L P G V R N Y S wd (nI T) ft fl ce (nI h) mo ++ [(o, .inl (cL, 1, .inr (.inl fo)))]) H := hP.kept (fun k x hx => hk1 x.1 (hP k x hx).lt (fun h => h))
    obtain ⟨rfl, hk⟩ := hp
    refine vx_catch hown [] ⟨0, 9, 12, 13⟩ [] (htab.trans rfl) (fun z hz => absurd hz List.not_mem_nil) (by decide) (by decide) (hts (.classLink RL 13 eI) (by decide +kernel)) (va_Nw.use rfl hE.1.2.1.1) hce hcv hcl ?_
    refine lv_astore_n (lv' := [(3, .ref q9), (0, .ref (A 0)), (1, .int p0), (2, .ref o)]) hx hb dL_made_12 rfl hl (by decide) rfl (fun ls hl => ?_)
    refine lv_iconst (v := 1) hx hb dL_made_13 (by decide) ?_
    exact W.iret hx hb hr (fun t ht hW => ⟨⟨_, ((L, P, G, V, R, N, Y, S, wd, (nI T), ft, fl, ce, (nI h), mo), fo), rfl, ⟨hk.symm, fun h9 => absurd (h9.symm.trans hk) (by decide), fun _ => rfl⟩, by rw [ht]; exact hP, va_K.moved hW.alike hK, hD⟩, hS.F ht⟩) hS.2.2 dL_made_14
  · have e9 := hB.symm.trans ht
    subst e9
    obtain ⟨hk, hw1⟩ := hw
    have hw1 := hw1.symm
    subst hw1
    refine lv_i2l hx hb dL_made_7 rfl ?_
    refine va_last hx hb hK hP hD hS 9 1 rfl rfl (i := 0) (vp_in_nI (n := 0) (by omega) (by omega)) dL_made_8 (fun H locs hP hD hS => ?_)
    have hP : va_P dG vwCl (xW A cA L P G V R N Y S wd (nI T) ft fl ce (nI h) mo ++ [(o, .inl (cL, 1, .inr (.inl (vp_updL fo 0 ((Y p0.toNatClampNeg).toInt64)))))]) H := hP
    have hD : va_D F (xW A cA L P G V R N Y S wd (nI T) ft fl ce (nI h) mo ++ [(o, .inl (cL, 1, .inr (.inl (vp_updL fo 0 ((Y p0.toNatClampNeg).toInt64)))))]) := hD
    refine lv_goto (tgt := 15) hx hb dL_made_9 (by decide) ?_
    refine lv_iconst (v := 0) hx hb dL_made_15 (by decide) ?_
    exact W.iret hx hb hr (fun t ht hW => ⟨⟨_, ((L, P, G, V, R, N, Y, S, wd, (nI T), ft, fl, ce, (nI h), mo), (vp_updL fo 0 ((Y p0.toNatClampNeg).toInt64))), rfl, ⟨hk.symm, fun _ => rfl, fun h9 => absurd hk h9⟩, by rw [ht]; exact hP, va_K.moved hW.alike hK, hD⟩, hS.F ht⟩) hS.2.2 dL_made_16
set_option maxHeartbeats 4000000 in
set_option maxRecDepth 100000 in
theorem c_L_sold (l : Launch) (hl0 : l.stackTraces = false) (dG : va_G) (a A : Nat → Nat) (o : Nat) (cA cL : ClassId) (Hp : Heap) (L P G V R N Y S : Nat → Int32) (T h : Nat) (wd ft fl ce : Int32) (mo : UInt32) (fo : Nat → Int64) (p0 : Int32) (hT : T ≤ 4) (hh : h ≤ 500) : Met l yL_sold wsL_sold ({ frames := 8, cells := 1, slots := 6, locals := 170 }) (va_Pc [.ref (A 0), .int p0, .ref o] (fun U => wPre dG (tyL cA cL) (xW A cA L P G V R N Y S wd (nI T) ft fl ce (nI h) mo ++ [(o, .inl (cL, 1, .inr (.inl fo)))]) Hp U ∧ tgE a (va_A (xW A cA L P G V R N Y S wd (nI T) ft fl ce (nI h) mo ++ [(o, .inl (cL, 1, .inr (.inl fo)))]) Hp.size) U Hp)) (va_Qi (fun (r : Int32) (u : XS × (Nat → Int64)) => r = kSold (nI h) p0 ∧ (kSold (nI h) p0 = 0 → u = ((L, P, G, V, R, N, Y, S, wd, (nI T), ft, fl, ce, (nI h), mo), vp_updL fo 0 ((S p0.toNatClampNeg).toInt64))) ∧ (¬ kSold (nI h) p0 = 0 → u = ((L, P, G, V, R, N, Y, S, wd, (nI T), ft, fl, ce, (nI h), mo), fo))) (fun u t => wAt dG (tyL cA cL) (va_A (xW A cA L P G V R N Y S wd (nI T) ft fl ce (nI h) mo ++ [(o, .inl (cL, 1, .inr (.inl fo)))]) Hp.size) (xU A cA u.1 ++ [(o, .inl (cL, 1, .inr (.inl u.2)))]) t) (va_A (xW A cA L P G V R N Y S wd (nI T) ft fl ce (nI h) mo ++ [(o, .inl (cL, 1, .inr (.inl fo)))]) Hp.size)) 1 6 (va_A (xW A cA L P G V R N Y S wd (nI T) ft fl ce (nI h) mo ++ [(o, .inl (cL, 1, .inr (.inl fo)))]) Hp.size) := by
  refine Met.ofWH (cc := cL_sold) (maxL := 4) (ret := some .int) (by decide) rfl ?_
  intro p e s m args below meth c s₁ Bd hml hv
  obtain ⟨rfl, ⟨hH, hP, hK, hD0⟩, hE⟩ := hv
  subst hH
  have hx := Bd.exec
  have hb := Bd.bytes
  have hr := Bd.returns
  have hts := atoms_spec (ws := wsL_sold) Bd.pre
  have hown : s.vm.findClass RL = some m.cls := findClass_of_methodNamed Bd.named
  have hlocks := Bd.notSynchronized
  have htab := vx_table (x := yL_sold) Bd (hts _ List.mem_cons_self)
  have hD := hD0.self (sz := s.heap.size)
  generalize hAe : va_A (xW A cA L P G V R N Y S wd (nI T) ft fl ce (nI h) mo ++ [(o, .inl (cL, 1, .inr (.inl fo)))]) s.heap.size = F at hD hE ⊢
  have hA : ∀ q : Nat, s.heap.size ≤ q → F q := fun q h => by rw [← hAe]; exact Or.inr h
  have hS : va_S F s.heap s.heap [] := va_S.rf
  have hP : va_P dG vwCl (xW A cA L P G V R N Y S wd (nI T) ft fl ce (nI h) mo ++ [(o, .inl (cL, 1, .inr (.inl fo)))]) s.heap := hP
  have hl := lv_entry ([.ref (A 0), .int p0, .ref o]) (n := 4) (Nat.le_of_ble_eq_true rfl)
  rw [lg_entry_eq]
  generalize (lg_sl ([.ref (A 0), .int p0, .ref o]) ++ List.replicate (4 - (lg_sl ([.ref (A 0), .int p0, .ref o])).length) Slot.unset).toArray = ls at hl ⊢
  have hl : lv_has ls 4 [(0, .ref (A 0)), (1, .int p0), (2, .ref o)] := hl
  refine lv_aload_n hx hb dL_sold_0 rfl (lv_at hl 2 rfl) ?_
  refine lv_iconst (v := 0) hx hb dL_sold_1 (by decide) ?_
  refine lv_aload_n hx hb dL_sold_2 rfl (lv_at hl 0 rfl) ?_
  refine lv_iload_n hx hb dL_sold_3 rfl (lv_at hl 1 rfl) ?_
  have hPc := hP.sub (ws' := (xW A cA L P G V R N Y S wd (nI T) ft fl ce (nI h) mo)) [0, 1, 2, 3, 4, 5, 6, 7, 8] rfl
  have hDc := hD.sub (ws' := (xW A cA L P G V R N Y S wd (nI T) ft fl ce (nI h) mo)) [0, 1, 2, 3, 4, 5, 6, 7, 8] (by decide) rfl
  have hKc := hK.sub (tys' := tyI cA) [0] rfl
  have hFc := va_free (wc := (xW A cA L P G V R N Y S wd (nI T) ft fl ce (nI h) mo)) hD hS hA [0, 1, 2, 3, 4, 5, 6, 7, 8] rfl
  refine vx_calli (vx_runV (As := [.int p0]) (rest := [.int 0, .ref o]) ⟨hx, hb, hml, hown, hts⟩ (c_X0_sold l hl0 dG a A cA s.heap L P G V R N Y S wd (nI T) ft fl ce (nI h) mo p0 (nIr (b := 500) hh (by omega))) (cwV 1 hts gL_sold_X0_sold rfl rfl rfl (by decide +kernel) ⟨Nat.le_of_ble_eq_true rfl, Nat.le_of_ble_eq_true rfl⟩) ⟨fun a9 U g mk q => ⟨q.1, wPre_calling g mk a9 q.2.1, q.2.2.calling g mk a9⟩, va_recv hKc hPc (ci := 0) (q0 := 0) rfl rfl, fun U hU hW => ⟨rfl, wPre_of hKc hPc hDc hU hW, hE.go hW hS hFc⟩⟩ rfl rfl hl.1 rfl (lv_room (Nat.le_of_ble_eq_true rfl)) dL_sold_4 ⟨Nat.le_of_ble_eq_true rfl, Nat.le_of_ble_eq_true rfl⟩) hS (fun q _ h => h.elim) hFc (fun q _ h => h.elim) (fun E c9 q9 u t H locs ht hvm hp hB hz1 hk1 hS hce hcv hcl => ?_) (fun r u t H1 locs ht hvm hw hB hz1 hk1 hS => ?_)
  · subst hB
    have hP : va_P dG vwCl (xW A cA L P G V R N Y S wd (nI T) ft fl ce (nI h) mo ++ [(o, .inl (cL, 1, .inr (.inl fo)))]) H := hP.kept (fun k x hx => hk1 x.1 (hP k x hx).lt (fun h => h))
    obtain ⟨rfl, hk⟩ := hp
    refine vx_catch hown [] ⟨0, 9, 12, 13⟩ [] (htab.trans rfl) (fun z hz => absurd hz List.not_mem_nil) (by decide) (by decide) (hts (.classLink RL 13 eI) (by decide +kernel)) (va_Nw.use rfl hE.1.2.1.1) hce hcv hcl ?_
    refine lv_astore_n (lv' := [(3, .ref q9), (0, .ref (A 0)), (1, .int p0), (2, .ref o)]) hx hb dL_sold_12 rfl hl (by decide) rfl (fun ls hl => ?_)
    refine lv_iconst (v := 1) hx hb dL_sold_13 (by decide) ?_
    exact W.iret hx hb hr (fun t ht hW => ⟨⟨_, ((L, P, G, V, R, N, Y, S, wd, (nI T), ft, fl, ce, (nI h), mo), fo), rfl, ⟨hk.symm, fun h9 => absurd (h9.symm.trans hk) (by decide), fun _ => rfl⟩, by rw [ht]; exact hP, va_K.moved hW.alike hK, hD⟩, hS.F ht⟩) hS.2.2 dL_sold_14
  · have e9 := hB.symm.trans ht
    subst e9
    obtain ⟨hk, hw1⟩ := hw
    have hw1 := hw1.symm
    subst hw1
    refine lv_i2l hx hb dL_sold_7 rfl ?_
    refine va_last hx hb hK hP hD hS 9 1 rfl rfl (i := 0) (vp_in_nI (n := 0) (by omega) (by omega)) dL_sold_8 (fun H locs hP hD hS => ?_)
    have hP : va_P dG vwCl (xW A cA L P G V R N Y S wd (nI T) ft fl ce (nI h) mo ++ [(o, .inl (cL, 1, .inr (.inl (vp_updL fo 0 ((S p0.toNatClampNeg).toInt64)))))]) H := hP
    have hD : va_D F (xW A cA L P G V R N Y S wd (nI T) ft fl ce (nI h) mo ++ [(o, .inl (cL, 1, .inr (.inl (vp_updL fo 0 ((S p0.toNatClampNeg).toInt64)))))]) := hD
    refine lv_goto (tgt := 15) hx hb dL_sold_9 (by decide) ?_
    refine lv_iconst (v := 0) hx hb dL_sold_15 (by decide) ?_
    exact W.iret hx hb hr (fun t ht hW => ⟨⟨_, ((L, P, G, V, R, N, Y, S, wd, (nI T), ft, fl, ce, (nI h), mo), (vp_updL fo 0 ((S p0.toNatClampNeg).toInt64))), rfl, ⟨hk.symm, fun _ => rfl, fun h9 => absurd hk h9⟩, by rw [ht]; exact hP, va_K.moved hW.alike hK, hD⟩, hS.F ht⟩) hS.2.2 dL_sold_16
set_option maxHeartbeats 4000000 in
set_option maxRecDepth 100000 in
theorem c_L_bought (l : Launch) (hl0 : l.stackTraces = false) (dG : va_G) (a A : Nat → Nat) (o : Nat) (cA cL : ClassId) (Hp : Heap) (L P G V R N Y S : Nat → Int32) (T h : Nat) (wd ft fl ce : Int32) (mo : UInt32) (fo : Nat → Int64) (p0 : Int32) (hT : T ≤ 4) (hh : h ≤ 500) : Met l yL_bought wsL_bought ({ frames := 8, cells := 1, slots := 6, locals := 170 }) (va_Pc [.ref (A 0), .int p0, .ref o] (fun U => wPre dG (tyL cA cL) (xW A cA L P G V R N Y S wd (nI T) ft fl ce (nI h) mo ++ [(o, .inl (cL, 1, .inr (.inl fo)))]) Hp U ∧ tgE a (va_A (xW A cA L P G V R N Y S wd (nI T) ft fl ce (nI h) mo ++ [(o, .inl (cL, 1, .inr (.inl fo)))]) Hp.size) U Hp)) (va_Qi (fun (r : Int32) (u : XS × (Nat → Int64)) => r = kGone (nI h) p0 ∧ (kGone (nI h) p0 = 0 → u = ((L, P, G, V, R, N, Y, S, wd, (nI T), ft, fl, ce, (nI h), mo), vp_updL fo 0 (((if 0 < S p0.toNatClampNeg - Y p0.toNatClampNeg then S p0.toNatClampNeg - Y p0.toNatClampNeg else 0)).toInt64))) ∧ (¬ kGone (nI h) p0 = 0 → u = ((L, P, G, V, R, N, Y, S, wd, (nI T), ft, fl, ce, (nI h), mo), fo))) (fun u t => wAt dG (tyL cA cL) (va_A (xW A cA L P G V R N Y S wd (nI T) ft fl ce (nI h) mo ++ [(o, .inl (cL, 1, .inr (.inl fo)))]) Hp.size) (xU A cA u.1 ++ [(o, .inl (cL, 1, .inr (.inl u.2)))]) t) (va_A (xW A cA L P G V R N Y S wd (nI T) ft fl ce (nI h) mo ++ [(o, .inl (cL, 1, .inr (.inl fo)))]) Hp.size)) 1 6 (va_A (xW A cA L P G V R N Y S wd (nI T) ft fl ce (nI h) mo ++ [(o, .inl (cL, 1, .inr (.inl fo)))]) Hp.size) := by
  refine Met.ofWH (cc := cL_bought) (maxL := 4) (ret := some .int) (by decide) rfl ?_
  intro p e s m args below meth c s₁ Bd hml hv
  obtain ⟨rfl, ⟨hH, hP, hK, hD0⟩, hE⟩ := hv
  subst hH
  have hx := Bd.exec
  have hb := Bd.bytes
  have hr := Bd.returns
  have hts := atoms_spec (ws := wsL_bought) Bd.pre
  have hown : s.vm.findClass RL = some m.cls := findClass_of_methodNamed Bd.named
  have hlocks := Bd.notSynchronized
  have htab := vx_table (x := yL_bought) Bd (hts _ List.mem_cons_self)
  have hD := hD0.self (sz := s.heap.size)
  generalize hAe : va_A (xW A cA L P G V R N Y S wd (nI T) ft fl ce (nI h) mo ++ [(o, .inl (cL, 1, .inr (.inl fo)))]) s.heap.size = F at hD hE ⊢
  have hA : ∀ q : Nat, s.heap.size ≤ q → F q := fun q h => by rw [← hAe]; exact Or.inr h
  have hS : va_S F s.heap s.heap [] := va_S.rf
  have hP : va_P dG vwCl (xW A cA L P G V R N Y S wd (nI T) ft fl ce (nI h) mo ++ [(o, .inl (cL, 1, .inr (.inl fo)))]) s.heap := hP
  have hl := lv_entry ([.ref (A 0), .int p0, .ref o]) (n := 4) (Nat.le_of_ble_eq_true rfl)
  rw [lg_entry_eq]
  generalize (lg_sl ([.ref (A 0), .int p0, .ref o]) ++ List.replicate (4 - (lg_sl ([.ref (A 0), .int p0, .ref o])).length) Slot.unset).toArray = ls at hl ⊢
  have hl : lv_has ls 4 [(0, .ref (A 0)), (1, .int p0), (2, .ref o)] := hl
  refine lv_aload_n hx hb dL_bought_0 rfl (lv_at hl 2 rfl) ?_
  refine lv_iconst (v := 0) hx hb dL_bought_1 (by decide) ?_
  refine lv_aload_n hx hb dL_bought_2 rfl (lv_at hl 0 rfl) ?_
  refine lv_iload_n hx hb dL_bought_3 rfl (lv_at hl 1 rfl) ?_
  have hPc := hP.sub (ws' := (xW A cA L P G V R N Y S wd (nI T) ft fl ce (nI h) mo)) [0, 1, 2, 3, 4, 5, 6, 7, 8] rfl
  have hDc := hD.sub (ws' := (xW A cA L P G V R N Y S wd (nI T) ft fl ce (nI h) mo)) [0, 1, 2, 3, 4, 5, 6, 7, 8] (by decide) rfl
  have hKc := hK.sub (tys' := tyI cA) [0] rfl
  have hFc := va_free (wc := (xW A cA L P G V R N Y S wd (nI T) ft fl ce (nI h) mo)) hD hS hA [0, 1, 2, 3, 4, 5, 6, 7, 8] rfl
  refine vx_calli (vx_runV (As := [.int p0]) (rest := [.int 0, .ref o]) ⟨hx, hb, hml, hown, hts⟩ (c_X0_bought l hl0 dG a A cA s.heap L P G V R N Y S wd (nI T) ft fl ce (nI h) mo p0 (nIr (b := 500) hh (by omega))) (cwV 1 hts gL_bought_X0_bought rfl rfl rfl (by decide +kernel) ⟨Nat.le_of_ble_eq_true rfl, Nat.le_of_ble_eq_true rfl⟩) ⟨fun a9 U g mk q => ⟨q.1, wPre_calling g mk a9 q.2.1, q.2.2.calling g mk a9⟩, va_recv hKc hPc (ci := 0) (q0 := 0) rfl rfl, fun U hU hW => ⟨rfl, wPre_of hKc hPc hDc hU hW, hE.go hW hS hFc⟩⟩ rfl rfl hl.1 rfl (lv_room (Nat.le_of_ble_eq_true rfl)) dL_bought_4 ⟨Nat.le_of_ble_eq_true rfl, Nat.le_of_ble_eq_true rfl⟩) hS (fun q _ h => h.elim) hFc (fun q _ h => h.elim) (fun E c9 q9 u t H locs ht hvm hp hB hz1 hk1 hS hce hcv hcl => ?_) (fun r u t H1 locs ht hvm hw hB hz1 hk1 hS => ?_)
  · subst hB
    have hP : va_P dG vwCl (xW A cA L P G V R N Y S wd (nI T) ft fl ce (nI h) mo ++ [(o, .inl (cL, 1, .inr (.inl fo)))]) H := hP.kept (fun k x hx => hk1 x.1 (hP k x hx).lt (fun h => h))
    obtain ⟨rfl, hk⟩ := hp
    refine vx_catch hown [] ⟨0, 9, 12, 13⟩ [] (htab.trans rfl) (fun z hz => absurd hz List.not_mem_nil) (by decide) (by decide) (hts (.classLink RL 13 eI) (by decide +kernel)) (va_Nw.use rfl hE.1.2.1.1) hce hcv hcl ?_
    refine lv_astore_n (lv' := [(3, .ref q9), (0, .ref (A 0)), (1, .int p0), (2, .ref o)]) hx hb dL_bought_12 rfl hl (by decide) rfl (fun ls hl => ?_)
    refine lv_iconst (v := 1) hx hb dL_bought_13 (by decide) ?_
    exact W.iret hx hb hr (fun t ht hW => ⟨⟨_, ((L, P, G, V, R, N, Y, S, wd, (nI T), ft, fl, ce, (nI h), mo), fo), rfl, ⟨hk.symm, fun h9 => absurd (h9.symm.trans hk) (by decide), fun _ => rfl⟩, by rw [ht]; exact hP, va_K.moved hW.alike hK, hD⟩, hS.F ht⟩) hS.2.2 dL_bought_14
  · have e9 := hB.symm.trans ht
    subst e9
    obtain ⟨hk, hw1⟩ := hw
    have hw1 := hw1.symm
    subst hw1
    refine lv_i2l hx hb dL_bought_7 rfl ?_
    refine va_last hx hb hK hP hD hS 9 1 rfl rfl (i := 0) (vp_in_nI (n := 0) (by omega) (by omega)) dL_bought_8 (fun H locs hP hD hS => ?_)
    have hP : va_P dG vwCl (xW A cA L P G V R N Y S wd (nI T) ft fl ce (nI h) mo ++ [(o, .inl (cL, 1, .inr (.inl (vp_updL fo 0 ((if 0 < S p0.toNatClampNeg - Y p0.toNatClampNeg then S p0.toNatClampNeg - Y p0.toNatClampNeg else 0).toInt64)))))]) H := hP
    have hD : va_D F (xW A cA L P G V R N Y S wd (nI T) ft fl ce (nI h) mo ++ [(o, .inl (cL, 1, .inr (.inl (vp_updL fo 0 ((if 0 < S p0.toNatClampNeg - Y p0.toNatClampNeg then S p0.toNatClampNeg - Y p0.toNatClampNeg else 0).toInt64)))))]) := hD
    refine lv_goto (tgt := 15) hx hb dL_bought_9 (by decide) ?_
    refine lv_iconst (v := 0) hx hb dL_bought_15 (by decide) ?_
    exact W.iret hx hb hr (fun t ht hW => ⟨⟨_, ((L, P, G, V, R, N, Y, S, wd, (nI T), ft, fl, ce, (nI h), mo), (vp_updL fo 0 ((if 0 < S p0.toNatClampNeg - Y p0.toNatClampNeg then S p0.toNatClampNeg - Y p0.toNatClampNeg else 0).toInt64))), rfl, ⟨hk.symm, fun _ => rfl, fun h9 => absurd hk h9⟩, by rw [ht]; exact hP, va_K.moved hW.alike hK, hD⟩, hS.F ht⟩) hS.2.2 dL_bought_16
set_option maxHeartbeats 4000000 in
set_option maxRecDepth 100000 in
theorem c_L_head (l : Launch) (hl0 : l.stackTraces = false) (dG : va_G) (a A : Nat → Nat) (o : Nat) (cA cL : ClassId) (Hp : Heap) (L P G V R N Y S : Nat → Int32) (T h : Nat) (wd ft fl ce : Int32) (mo : UInt32) (fo : Nat → Int64) (p0 : Int32) (hT : T ≤ 4) (hh : h ≤ 500) : Met l yL_head wsL_head ({ frames := 8, cells := 1, slots := 6, locals := 170 }) (va_Pc [.ref (A 0), .int p0, .ref o] (fun U => wPre dG (tyL cA cL) (xW A cA L P G V R N Y S wd (nI T) ft fl ce (nI h) mo ++ [(o, .inl (cL, 1, .inr (.inl fo)))]) Hp U ∧ tgE a (va_A (xW A cA L P G V R N Y S wd (nI T) ft fl ce (nI h) mo ++ [(o, .inl (cL, 1, .inr (.inl fo)))]) Hp.size) U Hp)) (va_Qi (fun (r : Int32) (u : XS × (Nat → Int64)) => r = kGone (nI h) p0 ∧ (kGone (nI h) p0 = 0 → u = ((L, P, G, V, R, N, Y, S, wd, (nI T), ft, fl, ce, (nI h), mo), vp_updL fo 0 ((fHead (N p0.toNatClampNeg)).toInt64))) ∧ (¬ kGone (nI h) p0 = 0 → u = ((L, P, G, V, R, N, Y, S, wd, (nI T), ft, fl, ce, (nI h), mo), fo))) (fun u t => wAt dG (tyL cA cL) (va_A (xW A cA L P G V R N Y S wd (nI T) ft fl ce (nI h) mo ++ [(o, .inl (cL, 1, .inr (.inl fo)))]) Hp.size) (xU A cA u.1 ++ [(o, .inl (cL, 1, .inr (.inl u.2)))]) t) (va_A (xW A cA L P G V R N Y S wd (nI T) ft fl ce (nI h) mo ++ [(o, .inl (cL, 1, .inr (.inl fo)))]) Hp.size)) 1 6 (va_A (xW A cA L P G V R N Y S wd (nI T) ft fl ce (nI h) mo ++ [(o, .inl (cL, 1, .inr (.inl fo)))]) Hp.size) := by
  refine Met.ofWH (cc := cL_head) (maxL := 4) (ret := some .int) (by decide) rfl ?_
  intro p e s m args below meth c s₁ Bd hml hv
  obtain ⟨rfl, ⟨hH, hP, hK, hD0⟩, hE⟩ := hv
  subst hH
  have hx := Bd.exec
  have hb := Bd.bytes
  have hr := Bd.returns
  have hts := atoms_spec (ws := wsL_head) Bd.pre
  have hown : s.vm.findClass RL = some m.cls := findClass_of_methodNamed Bd.named
  have hlocks := Bd.notSynchronized
  have htab := vx_table (x := yL_head) Bd (hts _ List.mem_cons_self)
  have hD := hD0.self (sz := s.heap.size)
  generalize hAe : va_A (xW A cA L P G V R N Y S wd (nI T) ft fl ce (nI h) mo ++ [(o, .inl (cL, 1, .inr (.inl fo)))]) s.heap.size = F at hD hE ⊢
  have hA : ∀ q : Nat, s.heap.size ≤ q → F q := fun q h => by rw [← hAe]; exact Or.inr h
  have hS : va_S F s.heap s.heap [] := va_S.rf
  have hP : va_P dG vwCl (xW A cA L P G V R N Y S wd (nI T) ft fl ce (nI h) mo ++ [(o, .inl (cL, 1, .inr (.inl fo)))]) s.heap := hP
  have hl := lv_entry ([.ref (A 0), .int p0, .ref o]) (n := 4) (Nat.le_of_ble_eq_true rfl)
  rw [lg_entry_eq]
  generalize (lg_sl ([.ref (A 0), .int p0, .ref o]) ++ List.replicate (4 - (lg_sl ([.ref (A 0), .int p0, .ref o])).length) Slot.unset).toArray = ls at hl ⊢
  have hl : lv_has ls 4 [(0, .ref (A 0)), (1, .int p0), (2, .ref o)] := hl
  refine lv_aload_n hx hb dL_head_0 rfl (lv_at hl 2 rfl) ?_
  refine lv_iconst (v := 0) hx hb dL_head_1 (by decide) ?_
  refine lv_aload_n hx hb dL_head_2 rfl (lv_at hl 0 rfl) ?_
  refine lv_iload_n hx hb dL_head_3 rfl (lv_at hl 1 rfl) ?_
  have hPc := hP.sub (ws' := (xW A cA L P G V R N Y S wd (nI T) ft fl ce (nI h) mo)) [0, 1, 2, 3, 4, 5, 6, 7, 8] rfl
  have hDc := hD.sub (ws' := (xW A cA L P G V R N Y S wd (nI T) ft fl ce (nI h) mo)) [0, 1, 2, 3, 4, 5, 6, 7, 8] (by decide) rfl
  have hKc := hK.sub (tys' := tyI cA) [0] rfl
  have hFc := va_free (wc := (xW A cA L P G V R N Y S wd (nI T) ft fl ce (nI h) mo)) hD hS hA [0, 1, 2, 3, 4, 5, 6, 7, 8] rfl
  refine vx_calli (vx_runV (As := [.int p0]) (rest := [.int 0, .ref o]) ⟨hx, hb, hml, hown, hts⟩ (c_X0_head l hl0 dG a A cA s.heap L P G V R N Y S wd (nI T) ft fl ce (nI h) mo p0 (nIr (b := 500) hh (by omega))) (cwV 1 hts gL_head_X0_head rfl rfl rfl (by decide +kernel) ⟨Nat.le_of_ble_eq_true rfl, Nat.le_of_ble_eq_true rfl⟩) ⟨fun a9 U g mk q => ⟨q.1, wPre_calling g mk a9 q.2.1, q.2.2.calling g mk a9⟩, va_recv hKc hPc (ci := 0) (q0 := 0) rfl rfl, fun U hU hW => ⟨rfl, wPre_of hKc hPc hDc hU hW, hE.go hW hS hFc⟩⟩ rfl rfl hl.1 rfl (lv_room (Nat.le_of_ble_eq_true rfl)) dL_head_4 ⟨Nat.le_of_ble_eq_true rfl, Nat.le_of_ble_eq_true rfl⟩) hS (fun q _ h => h.elim) hFc (fun q _ h => h.elim) (fun E c9 q9 u t H locs ht hvm hp hB hz1 hk1 hS hce hcv hcl => ?_) (fun r u t H1 locs ht hvm hw hB hz1 hk1 hS => ?_)
  · subst hB
    have hP : va_P dG vwCl (xW A cA L P G V R N Y S wd (nI T) ft fl ce (nI h) mo ++ [(o, .inl (cL, 1, .inr (.inl fo)))]) H := hP.kept (fun k x hx => hk1 x.1 (hP k x hx).lt (fun h => h))
    obtain ⟨rfl, hk⟩ := hp
    refine vx_catch hown [] ⟨0, 9, 12, 13⟩ [] (htab.trans rfl) (fun z hz => absurd hz List.not_mem_nil) (by decide) (by decide) (hts (.classLink RL 13 eI) (by decide +kernel)) (va_Nw.use rfl hE.1.2.1.1) hce hcv hcl ?_
    refine lv_astore_n (lv' := [(3, .ref q9), (0, .ref (A 0)), (1, .int p0), (2, .ref o)]) hx hb dL_head_12 rfl hl (by decide) rfl (fun ls hl => ?_)
    refine lv_iconst (v := 1) hx hb dL_head_13 (by decide) ?_
    exact W.iret hx hb hr (fun t ht hW => ⟨⟨_, ((L, P, G, V, R, N, Y, S, wd, (nI T), ft, fl, ce, (nI h), mo), fo), rfl, ⟨hk.symm, fun h9 => absurd (h9.symm.trans hk) (by decide), fun _ => rfl⟩, by rw [ht]; exact hP, va_K.moved hW.alike hK, hD⟩, hS.F ht⟩) hS.2.2 dL_head_14
  · have e9 := hB.symm.trans ht
    subst e9
    obtain ⟨hk, hw1⟩ := hw
    have hw1 := hw1.symm
    subst hw1
    refine lv_i2l hx hb dL_head_7 rfl ?_
    refine va_last hx hb hK hP hD hS 9 1 rfl rfl (i := 0) (vp_in_nI (n := 0) (by omega) (by omega)) dL_head_8 (fun H locs hP hD hS => ?_)
    have hP : va_P dG vwCl (xW A cA L P G V R N Y S wd (nI T) ft fl ce (nI h) mo ++ [(o, .inl (cL, 1, .inr (.inl (vp_updL fo 0 ((fHead (N p0.toNatClampNeg)).toInt64)))))]) H := hP
    have hD : va_D F (xW A cA L P G V R N Y S wd (nI T) ft fl ce (nI h) mo ++ [(o, .inl (cL, 1, .inr (.inl (vp_updL fo 0 ((fHead (N p0.toNatClampNeg)).toInt64)))))]) := hD
    refine lv_goto (tgt := 15) hx hb dL_head_9 (by decide) ?_
    refine lv_iconst (v := 0) hx hb dL_head_15 (by decide) ?_
    exact W.iret hx hb hr (fun t ht hW => ⟨⟨_, ((L, P, G, V, R, N, Y, S, wd, (nI T), ft, fl, ce, (nI h), mo), (vp_updL fo 0 ((fHead (N p0.toNatClampNeg)).toInt64))), rfl, ⟨hk.symm, fun _ => rfl, fun h9 => absurd hk h9⟩, by rw [ht]; exact hP, va_K.moved hW.alike hK, hD⟩, hS.F ht⟩) hS.2.2 dL_head_16
set_option maxHeartbeats 4000000 in
set_option maxRecDepth 100000 in
theorem c_L_about (l : Launch) (hl0 : l.stackTraces = false) (dG : va_G) (a A : Nat → Nat) (o : Nat) (cA cL : ClassId) (Hp : Heap) (L P G V R N Y S : Nat → Int32) (T h : Nat) (wd ft fl ce : Int32) (mo : UInt32) (fo : Nat → Int64) (p0 : Int32) (p1 : Int32) (hT : T ≤ 4) (hh : h ≤ 500) : Met l yL_about wsL_about ({ frames := 8, cells := 1, slots := 6, locals := 170 }) (va_Pc [.ref (A 0), .int p0, .int p1, .ref o] (fun U => wPre dG (tyL cA cL) (xW A cA L P G V R N Y S wd (nI T) ft fl ce (nI h) mo ++ [(o, .inl (cL, 1, .inr (.inl fo)))]) Hp U ∧ tgE a (va_A (xW A cA L P G V R N Y S wd (nI T) ft fl ce (nI h) mo ++ [(o, .inl (cL, 1, .inr (.inl fo)))]) Hp.size) U Hp)) (va_Qi (fun (r : Int32) (u : XS × (Nat → Int64)) => r = kAbout (nI T) p0 p1 ∧ (kAbout (nI T) p0 p1 = 0 → u = ((L, P, G, V, R, N, Y, S, wd, (nI T), ft, fl, ce, (nI h), mo), vp_updL fo 0 (((if p1 = 0 then G p0.toNatClampNeg else if p1 = 1 then V p0.toNatClampNeg else if 0 < R p0.toNatClampNeg - nI h then R p0.toNatClampNeg - nI h else 0)).toInt64))) ∧ (¬ kAbout (nI T) p0 p1 = 0 → u = ((L, P, G, V, R, N, Y, S, wd, (nI T), ft, fl, ce, (nI h), mo), fo))) (fun u t => wAt dG (tyL cA cL) (va_A (xW A cA L P G V R N Y S wd (nI T) ft fl ce (nI h) mo ++ [(o, .inl (cL, 1, .inr (.inl fo)))]) Hp.size) (xU A cA u.1 ++ [(o, .inl (cL, 1, .inr (.inl u.2)))]) t) (va_A (xW A cA L P G V R N Y S wd (nI T) ft fl ce (nI h) mo ++ [(o, .inl (cL, 1, .inr (.inl fo)))]) Hp.size)) 1 6 (va_A (xW A cA L P G V R N Y S wd (nI T) ft fl ce (nI h) mo ++ [(o, .inl (cL, 1, .inr (.inl fo)))]) Hp.size) := by
  refine Met.ofWH (cc := cL_about) (maxL := 5) (ret := some .int) (by decide) rfl ?_
  intro p e s m args below meth c s₁ Bd hml hv
  obtain ⟨rfl, ⟨hH, hP, hK, hD0⟩, hE⟩ := hv
  subst hH
  have hx := Bd.exec
  have hb := Bd.bytes
  have hr := Bd.returns
  have hts := atoms_spec (ws := wsL_about) Bd.pre
  have hown : s.vm.findClass RL = some m.cls := findClass_of_methodNamed Bd.named
  have hlocks := Bd.notSynchronized
  have htab := vx_table (x := yL_about) Bd (hts _ List.mem_cons_self)
  have hD := hD0.self (sz := s.heap.size)
  generalize hAe : va_A (xW A cA L P G V R N Y S wd (nI T) ft fl ce (nI h) mo ++ [(o, .inl (cL, 1, .inr (.inl fo)))]) s.heap.size = F at hD hE ⊢
  have hA : ∀ q : Nat, s.heap.size ≤ q → F q := fun q h => by rw [← hAe]; exact Or.inr h
  have hS : va_S F s.heap s.heap [] := va_S.rf
  have hP : va_P dG vwCl (xW A cA L P G V R N Y S wd (nI T) ft fl ce (nI h) mo ++ [(o, .inl (cL, 1, .inr (.inl fo)))]) s.heap := hP
  have hl := lv_entry ([.ref (A 0), .int p0, .int p1, .ref o]) (n := 5) (Nat.le_of_ble_eq_true rfl)
  rw [lg_entry_eq]
  generalize (lg_sl ([.ref (A 0), .int p0, .int p1, .ref o]) ++ List.replicate (5 - (lg_sl ([.ref (A 0), .int p0, .int p1, .ref o])).length) Slot.unset).toArray = ls at hl ⊢
  have hl : lv_has ls 5 [(0, .ref (A 0)), (1, .int p0), (2, .int p1), (3, .ref o)] := hl
  refine lv_aload_n hx hb dL_about_0 rfl (lv_at hl 3 rfl) ?_
  refine lv_iconst (v := 0) hx hb dL_about_1 (by decide) ?_
  refine lv_aload_n hx hb dL_about_2 rfl (lv_at hl 0 rfl) ?_
  refine lv_iload_n hx hb dL_about_3 rfl (lv_at hl 1 rfl) ?_
  refine lv_iload_n hx hb dL_about_4 rfl (lv_at hl 2 rfl) ?_
  have hPc := hP.sub (ws' := (xW A cA L P G V R N Y S wd (nI T) ft fl ce (nI h) mo)) [0, 1, 2, 3, 4, 5, 6, 7, 8] rfl
  have hDc := hD.sub (ws' := (xW A cA L P G V R N Y S wd (nI T) ft fl ce (nI h) mo)) [0, 1, 2, 3, 4, 5, 6, 7, 8] (by decide) rfl
  have hKc := hK.sub (tys' := tyI cA) [0] rfl
  have hFc := va_free (wc := (xW A cA L P G V R N Y S wd (nI T) ft fl ce (nI h) mo)) hD hS hA [0, 1, 2, 3, 4, 5, 6, 7, 8] rfl
  refine vx_calli (vx_runV (As := [.int p0, .int p1]) (rest := [.int 0, .ref o]) ⟨hx, hb, hml, hown, hts⟩ (c_X0_about l hl0 dG a A cA s.heap L P G V R N Y S wd (nI T) ft fl ce (nI h) mo p0 p1 (nIr (b := 4) hT (by omega))) (cwV 2 hts gL_about_X0_about rfl rfl rfl (by decide +kernel) ⟨Nat.le_of_ble_eq_true rfl, Nat.le_of_ble_eq_true rfl⟩) ⟨fun a9 U g mk q => ⟨q.1, wPre_calling g mk a9 q.2.1, q.2.2.calling g mk a9⟩, va_recv hKc hPc (ci := 0) (q0 := 0) rfl rfl, fun U hU hW => ⟨rfl, wPre_of hKc hPc hDc hU hW, hE.go hW hS hFc⟩⟩ rfl rfl hl.1 rfl (lv_room (Nat.le_of_ble_eq_true rfl)) dL_about_5 ⟨Nat.le_of_ble_eq_true rfl, Nat.le_of_ble_eq_true rfl⟩) hS (fun q _ h => h.elim) hFc (fun q _ h => h.elim) (fun E c9 q9 u t H locs ht hvm hp hB hz1 hk1 hS hce hcv hcl => ?_) (fun r u t H1 locs ht hvm hw hB hz1 hk1 hS => ?_)
  · subst hB
    have hP : va_P dG vwCl (xW A cA L P G V R N Y S wd (nI T) ft fl ce (nI h) mo ++ [(o, .inl (cL, 1, .inr (.inl fo)))]) H := hP.kept (fun k x hx => hk1 x.1 (hP k x hx).lt (fun h => h))
    rcases hp with ⟨rfl, hk⟩ | ⟨rfl, hk⟩
    · refine vx_catch hown [] ⟨0, 10, 13, 13⟩ [⟨0, 10, 17, 15⟩] (htab.trans rfl) (fun z hz => absurd hz List.not_mem_nil) (by decide) (by decide) (hts (.classLink RL 13 eI) (by decide +kernel)) (va_Nw.use rfl hE.1.2.1.1) hce hcv hcl ?_
      refine lv_astore (lv' := [(4, .ref q9), (0, .ref (A 0)), (1, .int p0), (2, .int p1), (3, .ref o)]) hx hb dL_about_13 hl (by decide) rfl (fun ls hl => ?_)
      refine lv_iconst (v := 1) hx hb dL_about_15 (by decide) ?_
      exact W.iret hx hb hr (fun t ht hW => ⟨⟨_, ((L, P, G, V, R, N, Y, S, wd, (nI T), ft, fl, ce, (nI h), mo), fo), rfl, ⟨hk.symm, fun h9 => absurd (h9.symm.trans hk) (by decide), fun _ => rfl⟩, by rw [ht]; exact hP, va_K.moved hW.alike hK, hD⟩, hS.F ht⟩) hS.2.2 dL_about_16
    · refine vx_catch hown [⟨0, 10, 13, 13⟩] ⟨0, 10, 17, 15⟩ [] (htab.trans rfl) (fun z hz => by rw [List.mem_singleton.mp hz]; exact Or.inr ⟨by decide, eI, hts (.classLink RL 13 eI) (by decide +kernel), hE.1.2.2.1.1⟩) (by decide) (by decide) (hts (.classLink RL 15 eA) (by decide +kernel)) (va_Nw.use rfl hE.1.2.1.2.1) hce hcv hcl ?_
      refine lv_astore (lv' := [(4, .ref q9), (0, .ref (A 0)), (1, .int p0), (2, .int p1), (3, .ref o)]) hx hb dL_about_17 hl (by decide) rfl (fun ls hl => ?_)
      refine lv_iconst (v := 2) hx hb dL_about_19 (by decide) ?_
      exact W.iret hx hb hr (fun t ht hW => ⟨⟨_, ((L, P, G, V, R, N, Y, S, wd, (nI T), ft, fl, ce, (nI h), mo), fo), rfl, ⟨hk.symm, fun h9 => absurd (h9.symm.trans hk) (by decide), fun _ => rfl⟩, by rw [ht]; exact hP, va_K.moved hW.alike hK, hD⟩, hS.F ht⟩) hS.2.2 dL_about_20
  · have e9 := hB.symm.trans ht
    subst e9
    obtain ⟨hk, hw1⟩ := hw
    have hw1 := hw1.symm
    subst hw1
    refine lv_i2l hx hb dL_about_8 rfl ?_
    refine va_last hx hb hK hP hD hS 9 1 rfl rfl (i := 0) (vp_in_nI (n := 0) (by omega) (by omega)) dL_about_9 (fun H locs hP hD hS => ?_)
    have hP : va_P dG vwCl (xW A cA L P G V R N Y S wd (nI T) ft fl ce (nI h) mo ++ [(o, .inl (cL, 1, .inr (.inl (vp_updL fo 0 ((if p1 = 0 then G p0.toNatClampNeg else if p1 = 1 then V p0.toNatClampNeg else if 0 < R p0.toNatClampNeg - nI h then R p0.toNatClampNeg - nI h else 0).toInt64)))))]) H := hP
    have hD : va_D F (xW A cA L P G V R N Y S wd (nI T) ft fl ce (nI h) mo ++ [(o, .inl (cL, 1, .inr (.inl (vp_updL fo 0 ((if p1 = 0 then G p0.toNatClampNeg else if p1 = 1 then V p0.toNatClampNeg else if 0 < R p0.toNatClampNeg - nI h then R p0.toNatClampNeg - nI h else 0).toInt64)))))]) := hD
    refine lv_goto (tgt := 21) hx hb dL_about_10 (by decide) ?_
    refine lv_iconst (v := 0) hx hb dL_about_21 (by decide) ?_
    exact W.iret hx hb hr (fun t ht hW => ⟨⟨_, ((L, P, G, V, R, N, Y, S, wd, (nI T), ft, fl, ce, (nI h), mo), (vp_updL fo 0 ((if p1 = 0 then G p0.toNatClampNeg else if p1 = 1 then V p0.toNatClampNeg else if 0 < R p0.toNatClampNeg - nI h then R p0.toNatClampNeg - nI h else 0).toInt64))), rfl, ⟨hk.symm, fun _ => rfl, fun h9 => absurd hk h9⟩, by rw [ht]; exact hP, va_K.moved hW.alike hK, hD⟩, hS.F ht⟩) hS.2.2 dL_about_22
set_option maxHeartbeats 4000000 in
set_option maxRecDepth 100000 in
theorem c_L_pass_ok (l : Launch) (hl0 : l.stackTraces = false) (dG : va_G) (a A : Nat → Nat) (o : Nat) (cA cL : ClassId) (Hp : Heap) (L P G V R N Y S : Nat → Int32) (T h : Nat) (wd ft fl ce : Int32) (mo : UInt32) (fo : Nat → Int64)  (hT : T ≤ 4) (hh : h ≤ 500) (ct : Nat) (hc1 : 1 ≤ ct) (hc2 : ct ≤ 48) (hc3 : h + ct ≤ 500) (hmo : ∀ j : Nat, j < ct → FP.Core.FFin (xGoN L P G R S wd fl T h j (V, N, Y, ft, ce, mo)).2.2.2.2.2) : Met l yL_pass wsL_pass ({ frames := 8, cells := 1, slots := 6, locals := 170 }) (va_Pc [.ref (A 0), .int (nI ct), .ref o] (fun U => wPre dG (tyL cA cL) (xW A cA L P G V R N Y S wd (nI T) ft fl ce (nI h) mo ++ [(o, .inl (cL, 1, .inr (.inl fo)))]) Hp U ∧ tgE a (va_A (xW A cA L P G V R N Y S wd (nI T) ft fl ce (nI h) mo ++ [(o, .inl (cL, 1, .inr (.inl fo)))]) Hp.size) U Hp)) (va_Qi (fun (r : Int32) (u : XS × (Nat → Int64)) => r = 0 ∧ u = (xTup L P G R S wd fl T (h + ct) (xGoN L P G R S wd fl T h ct (V, N, Y, ft, ce, mo)), vp_updL fo 0 ((nI (h + ct)).toInt64))) (fun u t => wAt dG (tyL cA cL) (va_A (xW A cA L P G V R N Y S wd (nI T) ft fl ce (nI h) mo ++ [(o, .inl (cL, 1, .inr (.inl fo)))]) Hp.size) (xU A cA u.1 ++ [(o, .inl (cL, 1, .inr (.inl u.2)))]) t) (va_A (xW A cA L P G V R N Y S wd (nI T) ft fl ce (nI h) mo ++ [(o, .inl (cL, 1, .inr (.inl fo)))]) Hp.size)) 1 6 (va_A (xW A cA L P G V R N Y S wd (nI T) ft fl ce (nI h) mo ++ [(o, .inl (cL, 1, .inr (.inl fo)))]) Hp.size) := by
  refine Met.ofWH (cc := cL_pass) (maxL := 4) (ret := some .int) (by decide) rfl ?_
  intro p e s m args below meth c s₁ Bd hml hv
  obtain ⟨rfl, ⟨hH, hP, hK, hD0⟩, hE⟩ := hv
  subst hH
  have hx := Bd.exec
  have hb := Bd.bytes
  have hr := Bd.returns
  have hts := atoms_spec (ws := wsL_pass) Bd.pre
  have hown : s.vm.findClass RL = some m.cls := findClass_of_methodNamed Bd.named
  have hlocks := Bd.notSynchronized
  have htab := vx_table (x := yL_pass) Bd (hts _ List.mem_cons_self)
  have hD := hD0.self (sz := s.heap.size)
  generalize hAe : va_A (xW A cA L P G V R N Y S wd (nI T) ft fl ce (nI h) mo ++ [(o, .inl (cL, 1, .inr (.inl fo)))]) s.heap.size = F at hD hE ⊢
  have hA : ∀ q : Nat, s.heap.size ≤ q → F q := fun q h => by rw [← hAe]; exact Or.inr h
  have hS : va_S F s.heap s.heap [] := va_S.rf
  have hP : va_P dG vwCl (xW A cA L P G V R N Y S wd (nI T) ft fl ce (nI h) mo ++ [(o, .inl (cL, 1, .inr (.inl fo)))]) s.heap := hP
  have hl := lv_entry ([.ref (A 0), .int (nI ct), .ref o]) (n := 4) (Nat.le_of_ble_eq_true rfl)
  rw [lg_entry_eq]
  generalize (lg_sl ([.ref (A 0), .int (nI ct), .ref o]) ++ List.replicate (4 - (lg_sl ([.ref (A 0), .int (nI ct), .ref o])).length) Slot.unset).toArray = ls at hl ⊢
  have hl : lv_has ls 4 [(0, .ref (A 0)), (1, .int (nI ct)), (2, .ref o)] := hl
  refine lv_aload_n hx hb dL_pass_0 rfl (lv_at hl 2 rfl) ?_
  refine lv_iconst (v := 0) hx hb dL_pass_1 (by decide) ?_
  refine lv_aload_n hx hb dL_pass_2 rfl (lv_at hl 0 rfl) ?_
  refine lv_iload_n hx hb dL_pass_3 rfl (lv_at hl 1 rfl) ?_
  have hPc := hP.sub (ws' := (xW A cA L P G V R N Y S wd (nI T) ft fl ce (nI h) mo)) [0, 1, 2, 3, 4, 5, 6, 7, 8] rfl
  have hDc := hD.sub (ws' := (xW A cA L P G V R N Y S wd (nI T) ft fl ce (nI h) mo)) [0, 1, 2, 3, 4, 5, 6, 7, 8] (by decide) rfl
  have hKc := hK.sub (tys' := tyI cA) [0] rfl
  have hFc := va_free (wc := (xW A cA L P G V R N Y S wd (nI T) ft fl ce (nI h) mo)) hD hS hA [0, 1, 2, 3, 4, 5, 6, 7, 8] rfl
  refine va_calli (va_runV (As := [.int (nI ct)]) (rest := [.int 0, .ref o]) ⟨hx, hb, hml, hown, hts⟩ (c_X0_pass_ok l dG a A cA s.heap L P G V R N Y S T h wd ft fl ce mo ct hc1 hc2 hc3 hT hmo) (cwV 1 hts gL_pass_X0_pass rfl rfl rfl (by decide +kernel) ⟨Nat.le_of_ble_eq_true rfl, Nat.le_of_ble_eq_true rfl⟩) ⟨fun a9 U g mk q => ⟨q.1, wPre_calling g mk a9 q.2⟩, va_recv hKc hPc (ci := 0) (q0 := 0) rfl rfl, fun U hU hW => ⟨rfl, wPre_of hKc hPc hDc hU hW⟩⟩ rfl rfl hl.1 rfl (lv_room (Nat.le_of_ble_eq_true rfl)) dL_pass_4 ⟨Nat.le_of_ble_eq_true rfl, Nat.le_of_ble_eq_true rfl⟩) hS (fun q _ h => hFc q h) hFc (fun r u t H locs ht hvm hw hB hz1 hk1 hS => ?_)
  obtain ⟨hw1, hw2⟩ := hw
  subst hw1
  subst hw2
  obtain ⟨hP1, hK1, hD1⟩ := hB
  rw [ht] at hP1
  obtain ⟨hP, hD⟩ := va_join (wr := [(o, .inl (cL, 1, .inr (.inl fo)))]) (w1 := (xW A cA L P G ((xGoN L P G R S wd fl T h ct (V, N, Y, ft, ce, mo)).1) R ((xGoN L P G R S wd fl T h ct (V, N, Y, ft, ce, mo)).2.1) ((xGoN L P G R S wd fl T h ct (V, N, Y, ft, ce, mo)).2.2.1) S wd (nI T) ((xGoN L P G R S wd fl T h ct (V, N, Y, ft, ce, mo)).2.2.2.1) fl ((xGoN L P G R S wd fl T h ct (V, N, Y, ft, ce, mo)).2.2.2.2.1) (nI (h + ct)) ((xGoN L P G R S wd fl T h ct (V, N, Y, ft, ce, mo)).2.2.2.2.2))) hP hD [0, 1, 2, 3, 4, 5, 6, 7, 8] [9] rfl rfl (by decide) (by decide) hk1 hFc hP1 hD1
  have hP : va_P dG vwCl (xW A cA L P G ((xGoN L P G R S wd fl T h ct (V, N, Y, ft, ce, mo)).1) R ((xGoN L P G R S wd fl T h ct (V, N, Y, ft, ce, mo)).2.1) ((xGoN L P G R S wd fl T h ct (V, N, Y, ft, ce, mo)).2.2.1) S wd (nI T) ((xGoN L P G R S wd fl T h ct (V, N, Y, ft, ce, mo)).2.2.2.1) fl ((xGoN L P G R S wd fl T h ct (V, N, Y, ft, ce, mo)).2.2.2.2.1) (nI (h + ct)) ((xGoN L P G R S wd fl T h ct (V, N, Y, ft, ce, mo)).2.2.2.2.2) ++ [(o, .inl (cL, 1, .inr (.inl fo)))]) H := hP.sub [1, 2, 3, 4, 5, 6, 7, 8, 9, 0] rfl
  have hD : va_D F (xW A cA L P G ((xGoN L P G R S wd fl T h ct (V, N, Y, ft, ce, mo)).1) R ((xGoN L P G R S wd fl T h ct (V, N, Y, ft, ce, mo)).2.1) ((xGoN L P G R S wd fl T h ct (V, N, Y, ft, ce, mo)).2.2.1) S wd (nI T) ((xGoN L P G R S wd fl T h ct (V, N, Y, ft, ce, mo)).2.2.2.1) fl ((xGoN L P G R S wd fl T h ct (V, N, Y, ft, ce, mo)).2.2.2.2.1) (nI (h + ct)) ((xGoN L P G R S wd fl T h ct (V, N, Y, ft, ce, mo)).2.2.2.2.2) ++ [(o, .inl (cL, 1, .inr (.inl fo)))]) := hD.sub [1, 2, 3, 4, 5, 6, 7, 8, 9, 0] (by decide) rfl
  refine lv_i2l hx hb dL_pass_7 rfl ?_
  refine va_last hx hb hK hP hD hS 9 1 rfl rfl (i := 0) (vp_in_nI (n := 0) (by omega) (by omega)) dL_pass_8 (fun H locs hP hD hS => ?_)
  have hP : va_P dG vwCl (xW A cA L P G ((xGoN L P G R S wd fl T h ct (V, N, Y, ft, ce, mo)).1) R ((xGoN L P G R S wd fl T h ct (V, N, Y, ft, ce, mo)).2.1) ((xGoN L P G R S wd fl T h ct (V, N, Y, ft, ce, mo)).2.2.1) S wd (nI T) ((xGoN L P G R S wd fl T h ct (V, N, Y, ft, ce, mo)).2.2.2.1) fl ((xGoN L P G R S wd fl T h ct (V, N, Y, ft, ce, mo)).2.2.2.2.1) (nI (h + ct)) ((xGoN L P G R S wd fl T h ct (V, N, Y, ft, ce, mo)).2.2.2.2.2) ++ [(o, .inl (cL, 1, .inr (.inl (vp_updL fo 0 ((nI (h + ct)).toInt64)))))]) H := hP
  have hD : va_D F (xW A cA L P G ((xGoN L P G R S wd fl T h ct (V, N, Y, ft, ce, mo)).1) R ((xGoN L P G R S wd fl T h ct (V, N, Y, ft, ce, mo)).2.1) ((xGoN L P G R S wd fl T h ct (V, N, Y, ft, ce, mo)).2.2.1) S wd (nI T) ((xGoN L P G R S wd fl T h ct (V, N, Y, ft, ce, mo)).2.2.2.1) fl ((xGoN L P G R S wd fl T h ct (V, N, Y, ft, ce, mo)).2.2.2.2.1) (nI (h + ct)) ((xGoN L P G R S wd fl T h ct (V, N, Y, ft, ce, mo)).2.2.2.2.2) ++ [(o, .inl (cL, 1, .inr (.inl (vp_updL fo 0 ((nI (h + ct)).toInt64)))))]) := hD
  refine lv_goto (tgt := 18) hx hb dL_pass_9 (by decide) ?_
  refine lv_iconst (v := 0) hx hb dL_pass_18 (by decide) ?_
  refine W.widen (k := 1) (n := 6) (by omega) (by omega) ?_
  exact W.iret hx hb hr (fun t ht hW => ⟨⟨_, (xTup L P G R S wd fl T (h + ct) (xGoN L P G R S wd fl T h ct (V, N, Y, ft, ce, mo)), (vp_updL fo 0 ((nI (h + ct)).toInt64))), rfl, ⟨rfl, rfl⟩, by rw [ht]; exact hP, va_K.moved hW.alike hK, hD⟩, hS.F ht⟩) hS.2.2 dL_pass_19
set_option maxHeartbeats 4000000 in
set_option maxRecDepth 100000 in
theorem c_L_pass_no (l : Launch) (hl0 : l.stackTraces = false) (dG : va_G) (a A : Nat → Nat) (o : Nat) (cA cL : ClassId) (Hp : Heap) (L P G V R N Y S : Nat → Int32) (T h : Nat) (wd ft fl ce : Int32) (mo : UInt32) (fo : Nat → Int64) (p0 : Int32) (hT : T ≤ 4) (hh : h ≤ 500) (hk0 : ¬ kPass (nI h) p0 = 0) : Met l yL_pass wsL_pass ({ frames := 8, cells := 1, slots := 6, locals := 170 }) (va_Pc [.ref (A 0), .int p0, .ref o] (fun U => wPre dG (tyL cA cL) (xW A cA L P G V R N Y S wd (nI T) ft fl ce (nI h) mo ++ [(o, .inl (cL, 1, .inr (.inl fo)))]) Hp U ∧ tgE a (va_A (xW A cA L P G V R N Y S wd (nI T) ft fl ce (nI h) mo ++ [(o, .inl (cL, 1, .inr (.inl fo)))]) Hp.size) U Hp)) (va_Qi (fun (r : Int32) (u : XS × (Nat → Int64)) => r = kPass (nI h) p0 ∧ u = ((L, P, G, V, R, N, Y, S, wd, (nI T), ft, fl, ce, (nI h), mo), fo)) (fun u t => wAt dG (tyL cA cL) (va_A (xW A cA L P G V R N Y S wd (nI T) ft fl ce (nI h) mo ++ [(o, .inl (cL, 1, .inr (.inl fo)))]) Hp.size) (xU A cA u.1 ++ [(o, .inl (cL, 1, .inr (.inl u.2)))]) t) (va_A (xW A cA L P G V R N Y S wd (nI T) ft fl ce (nI h) mo ++ [(o, .inl (cL, 1, .inr (.inl fo)))]) Hp.size)) 1 6 (va_A (xW A cA L P G V R N Y S wd (nI T) ft fl ce (nI h) mo ++ [(o, .inl (cL, 1, .inr (.inl fo)))]) Hp.size) := by
  refine Met.ofWH (cc := cL_pass) (maxL := 4) (ret := some .int) (by decide) rfl ?_
  intro p e s m args below meth c s₁ Bd hml hv
  obtain ⟨rfl, ⟨hH, hP, hK, hD0⟩, hE⟩ := hv
  subst hH
  have hx := Bd.exec
  have hb := Bd.bytes
  have hr := Bd.returns
  have hts := atoms_spec (ws := wsL_pass) Bd.pre
  have hown : s.vm.findClass RL = some m.cls := findClass_of_methodNamed Bd.named
  have hlocks := Bd.notSynchronized
  have htab := vx_table (x := yL_pass) Bd (hts _ List.mem_cons_self)
  have hD := hD0.self (sz := s.heap.size)
  generalize hAe : va_A (xW A cA L P G V R N Y S wd (nI T) ft fl ce (nI h) mo ++ [(o, .inl (cL, 1, .inr (.inl fo)))]) s.heap.size = F at hD hE ⊢
  have hA : ∀ q : Nat, s.heap.size ≤ q → F q := fun q h => by rw [← hAe]; exact Or.inr h
  have hS : va_S F s.heap s.heap [] := va_S.rf
  have hP : va_P dG vwCl (xW A cA L P G V R N Y S wd (nI T) ft fl ce (nI h) mo ++ [(o, .inl (cL, 1, .inr (.inl fo)))]) s.heap := hP
  have hl := lv_entry ([.ref (A 0), .int p0, .ref o]) (n := 4) (Nat.le_of_ble_eq_true rfl)
  rw [lg_entry_eq]
  generalize (lg_sl ([.ref (A 0), .int p0, .ref o]) ++ List.replicate (4 - (lg_sl ([.ref (A 0), .int p0, .ref o])).length) Slot.unset).toArray = ls at hl ⊢
  have hl : lv_has ls 4 [(0, .ref (A 0)), (1, .int p0), (2, .ref o)] := hl
  refine lv_aload_n hx hb dL_pass_0 rfl (lv_at hl 2 rfl) ?_
  refine lv_iconst (v := 0) hx hb dL_pass_1 (by decide) ?_
  refine lv_aload_n hx hb dL_pass_2 rfl (lv_at hl 0 rfl) ?_
  refine lv_iload_n hx hb dL_pass_3 rfl (lv_at hl 1 rfl) ?_
  have hPc := hP.sub (ws' := (xW A cA L P G V R N Y S wd (nI T) ft fl ce (nI h) mo)) [0, 1, 2, 3, 4, 5, 6, 7, 8] rfl
  have hDc := hD.sub (ws' := (xW A cA L P G V R N Y S wd (nI T) ft fl ce (nI h) mo)) [0, 1, 2, 3, 4, 5, 6, 7, 8] (by decide) rfl
  have hKc := hK.sub (tys' := tyI cA) [0] rfl
  have hFc := va_free (wc := (xW A cA L P G V R N Y S wd (nI T) ft fl ce (nI h) mo)) hD hS hA [0, 1, 2, 3, 4, 5, 6, 7, 8] rfl
  refine vx_calli (vx_runV (As := [.int p0]) (rest := [.int 0, .ref o]) ⟨hx, hb, hml, hown, hts⟩ (c_X0_pass_no l hl0 dG a A cA s.heap L P G V R N Y S T h wd ft fl ce mo p0 hk0) (cwV 1 hts gL_pass_X0_pass rfl rfl rfl (by decide +kernel) ⟨Nat.le_of_ble_eq_true rfl, Nat.le_of_ble_eq_true rfl⟩) ⟨fun a9 U g mk q => ⟨q.1, wPre_calling g mk a9 q.2.1, q.2.2.calling g mk a9⟩, va_recv hKc hPc (ci := 0) (q0 := 0) rfl rfl, fun U hU hW => ⟨rfl, wPre_of hKc hPc hDc hU hW, hE.go hW hS hFc⟩⟩ rfl rfl hl.1 rfl (lv_room (Nat.le_of_ble_eq_true rfl)) dL_pass_4 ⟨Nat.le_of_ble_eq_true rfl, Nat.le_of_ble_eq_true rfl⟩) hS (fun q _ h => h.elim) hFc (fun q _ h => h.elim) (fun E c9 q9 u t H locs ht hvm hp hB hz1 hk1 hS hce hcv hcl => ?_) (fun r u t H1 locs ht hvm hw hB hz1 hk1 hS => ?_)
  · subst hB
    have hP : va_P dG vwCl (xW A cA L P G V R N Y S wd (nI T) ft fl ce (nI h) mo ++ [(o, .inl (cL, 1, .inr (.inl fo)))]) H := hP.kept (fun k x hx => hk1 x.1 (hP k x hx).lt (fun h => h))
    rcases hp with ⟨rfl, hk⟩ | ⟨rfl, hk⟩
    · refine vx_catch hown [] ⟨0, 9, 12, 15⟩ [⟨0, 9, 15, 28⟩] (htab.trans rfl) (fun z hz => absurd hz List.not_mem_nil) (by decide) (by decide) (hts (.classLink RL 15 eA) (by decide +kernel)) (va_Nw.use rfl hE.1.2.1.2.1) hce hcv hcl ?_
      refine lv_astore_n (lv' := [(3, .ref q9), (0, .ref (A 0)), (1, .int p0), (2, .ref o)]) hx hb dL_pass_12 rfl hl (by decide) rfl (fun ls hl => ?_)
      refine lv_iconst (v := 1) hx hb dL_pass_13 (by decide) ?_
      exact W.iret hx hb hr (fun t ht hW => ⟨⟨_, ((L, P, G, V, R, N, Y, S, wd, (nI T), ft, fl, ce, (nI h), mo), fo), rfl, ⟨hk.symm, rfl⟩, by rw [ht]; exact hP, va_K.moved hW.alike hK, hD⟩, hS.F ht⟩) hS.2.2 dL_pass_14
    · refine vx_catch hown [⟨0, 9, 12, 15⟩] ⟨0, 9, 15, 28⟩ [] (htab.trans rfl) (fun z hz => by rw [List.mem_singleton.mp hz]; exact Or.inr ⟨by decide, eA, hts (.classLink RL 15 eA) (by decide +kernel), hE.1.2.2.1.2.2⟩) (by decide) (by decide) (hts (.classLink RL 28 eS) (by decide +kernel)) (va_Nw.use rfl hE.1.2.1.2.2) hce hcv hcl ?_
      refine lv_astore_n (lv' := [(3, .ref q9), (0, .ref (A 0)), (1, .int p0), (2, .ref o)]) hx hb dL_pass_15 rfl hl (by decide) rfl (fun ls hl => ?_)
      refine lv_iconst (v := 2) hx hb dL_pass_16 (by decide) ?_
      exact W.iret hx hb hr (fun t ht hW => ⟨⟨_, ((L, P, G, V, R, N, Y, S, wd, (nI T), ft, fl, ce, (nI h), mo), fo), rfl, ⟨hk.symm, rfl⟩, by rw [ht]; exact hP, va_K.moved hW.alike hK, hD⟩, hS.F ht⟩) hS.2.2 dL_pass_17
  · exact hw.elim
set_option maxHeartbeats 4000000 in
set_option maxRecDepth 100000 in
theorem c_L_madeAnew_ok (l : Launch) (hl0 : l.stackTraces = false) (dG : va_G) (a A : Nat → Nat) (o : Nat) (cA cL : ClassId) (Hp : Heap) (L P G V R N Y S : Nat → Int32) (T h : Nat) (wd ft fl ce : Int32) (mo : UInt32) (fo : Nat → Int64)  (hT : T ≤ 4) (hh : h ≤ 500) (j : Nat) (hj : j < h) : Met l yL_madeAnew wsL_madeAnew ({ frames := 8, cells := 1, slots := 6, locals := 170 }) (va_Pc [.ref (A 0), .int (nI j), .ref o] (fun U => wPre dG (tyL cA cL) (xW A cA L P G V R N Y S wd (nI T) ft fl ce (nI h) mo ++ [(o, .inl (cL, 1, .inr (.inl fo)))]) Hp U ∧ tgE a (va_A (xW A cA L P G V R N Y S wd (nI T) ft fl ce (nI h) mo ++ [(o, .inl (cL, 1, .inr (.inl fo)))]) Hp.size) U Hp)) (va_Qi (fun (r : Int32) (u : XS × (Nat → Int64)) => r = 0 ∧ u = ((L, P, G, V, R, N, Y, S, wd, (nI T), ft, fl, ce, (nI h), mo), vp_updL fo 0 ((rpS N j 4).toInt64))) (fun u t => wAt dG (tyL cA cL) (va_A (xW A cA L P G V R N Y S wd (nI T) ft fl ce (nI h) mo ++ [(o, .inl (cL, 1, .inr (.inl fo)))]) Hp.size) (xU A cA u.1 ++ [(o, .inl (cL, 1, .inr (.inl u.2)))]) t) (va_A (xW A cA L P G V R N Y S wd (nI T) ft fl ce (nI h) mo ++ [(o, .inl (cL, 1, .inr (.inl fo)))]) Hp.size)) 1 6 (va_A (xW A cA L P G V R N Y S wd (nI T) ft fl ce (nI h) mo ++ [(o, .inl (cL, 1, .inr (.inl fo)))]) Hp.size) := by
  refine Met.ofWH (cc := cL_madeAnew) (maxL := 4) (ret := some .int) (by decide) rfl ?_
  intro p e s m args below meth c s₁ Bd hml hv
  obtain ⟨rfl, ⟨hH, hP, hK, hD0⟩, hE⟩ := hv
  subst hH
  have hx := Bd.exec
  have hb := Bd.bytes
  have hr := Bd.returns
  have hts := atoms_spec (ws := wsL_madeAnew) Bd.pre
  have hown : s.vm.findClass RL = some m.cls := findClass_of_methodNamed Bd.named
  have hlocks := Bd.notSynchronized
  have htab := vx_table (x := yL_madeAnew) Bd (hts _ List.mem_cons_self)
  have hD := hD0.self (sz := s.heap.size)
  generalize hAe : va_A (xW A cA L P G V R N Y S wd (nI T) ft fl ce (nI h) mo ++ [(o, .inl (cL, 1, .inr (.inl fo)))]) s.heap.size = F at hD hE ⊢
  have hA : ∀ q : Nat, s.heap.size ≤ q → F q := fun q h => by rw [← hAe]; exact Or.inr h
  have hS : va_S F s.heap s.heap [] := va_S.rf
  have hP : va_P dG vwCl (xW A cA L P G V R N Y S wd (nI T) ft fl ce (nI h) mo ++ [(o, .inl (cL, 1, .inr (.inl fo)))]) s.heap := hP
  have hl := lv_entry ([.ref (A 0), .int (nI j), .ref o]) (n := 4) (Nat.le_of_ble_eq_true rfl)
  rw [lg_entry_eq]
  generalize (lg_sl ([.ref (A 0), .int (nI j), .ref o]) ++ List.replicate (4 - (lg_sl ([.ref (A 0), .int (nI j), .ref o])).length) Slot.unset).toArray = ls at hl ⊢
  have hl : lv_has ls 4 [(0, .ref (A 0)), (1, .int (nI j)), (2, .ref o)] := hl
  refine lv_aload_n hx hb dL_madeAnew_0 rfl (lv_at hl 2 rfl) ?_
  refine lv_iconst (v := 0) hx hb dL_madeAnew_1 (by decide) ?_
  refine lv_aload_n hx hb dL_madeAnew_2 rfl (lv_at hl 0 rfl) ?_
  refine lv_iload_n hx hb dL_madeAnew_3 rfl (lv_at hl 1 rfl) ?_
  have hPc := hP.sub (ws' := (xW A cA L P G V R N Y S wd (nI T) ft fl ce (nI h) mo)) [0, 1, 2, 3, 4, 5, 6, 7, 8] rfl
  have hDc := hD.sub (ws' := (xW A cA L P G V R N Y S wd (nI T) ft fl ce (nI h) mo)) [0, 1, 2, 3, 4, 5, 6, 7, 8] (by decide) rfl
  have hKc := hK.sub (tys' := tyI cA) [0] rfl
  have hFc := va_free (wc := (xW A cA L P G V R N Y S wd (nI T) ft fl ce (nI h) mo)) hD hS hA [0, 1, 2, 3, 4, 5, 6, 7, 8] rfl
  refine va_calli (va_runV (As := [.int (nI j)]) (rest := [.int 0, .ref o]) ⟨hx, hb, hml, hown, hts⟩ (c_X0_madeAnew_ok l dG a A cA s.heap L P G V R N Y S T h wd ft fl ce mo j hj hh) (cwV 1 hts gL_madeAnew_X0_madeAnew rfl rfl rfl (by decide +kernel) ⟨Nat.le_of_ble_eq_true rfl, Nat.le_of_ble_eq_true rfl⟩) ⟨fun a9 U g mk q => ⟨q.1, wPre_calling g mk a9 q.2⟩, va_recv hKc hPc (ci := 0) (q0 := 0) rfl rfl, fun U hU hW => ⟨rfl, wPre_of hKc hPc hDc hU hW⟩⟩ rfl rfl hl.1 rfl (lv_room (Nat.le_of_ble_eq_true rfl)) dL_madeAnew_4 ⟨Nat.le_of_ble_eq_true rfl, Nat.le_of_ble_eq_true rfl⟩) hS (fun q _ h => h.elim) hFc (fun r u t H1 locs ht hvm hw hB hz1 hk1 hS => ?_)
  have e9 := hB.symm.trans ht
  subst e9
  subst hw
  refine lv_i2l hx hb dL_madeAnew_7 rfl ?_
  refine va_last hx hb hK hP hD hS 9 1 rfl rfl (i := 0) (vp_in_nI (n := 0) (by omega) (by omega)) dL_madeAnew_8 (fun H locs hP hD hS => ?_)
  have hP : va_P dG vwCl (xW A cA L P G V R N Y S wd (nI T) ft fl ce (nI h) mo ++ [(o, .inl (cL, 1, .inr (.inl (vp_updL fo 0 ((rpS N j 4).toInt64)))))]) H := hP
  have hD : va_D F (xW A cA L P G V R N Y S wd (nI T) ft fl ce (nI h) mo ++ [(o, .inl (cL, 1, .inr (.inl (vp_updL fo 0 ((rpS N j 4).toInt64)))))]) := hD
  refine lv_goto (tgt := 15) hx hb dL_madeAnew_9 (by decide) ?_
  refine lv_iconst (v := 0) hx hb dL_madeAnew_15 (by decide) ?_
  refine W.widen (k := 1) (n := 6) (by omega) (by omega) ?_
  exact W.iret hx hb hr (fun t ht hW => ⟨⟨_, ((L, P, G, V, R, N, Y, S, wd, (nI T), ft, fl, ce, (nI h), mo), (vp_updL fo 0 ((rpS N j 4).toInt64))), rfl, ⟨rfl, rfl⟩, by rw [ht]; exact hP, va_K.moved hW.alike hK, hD⟩, hS.F ht⟩) hS.2.2 dL_madeAnew_16
set_option maxHeartbeats 4000000 in
set_option maxRecDepth 100000 in
theorem c_L_madeAnew_no (l : Launch) (hl0 : l.stackTraces = false) (dG : va_G) (a A : Nat → Nat) (o : Nat) (cA cL : ClassId) (Hp : Heap) (L P G V R N Y S : Nat → Int32) (T h : Nat) (wd ft fl ce : Int32) (mo : UInt32) (fo : Nat → Int64) (p0 : Int32) (hT : T ≤ 4) (hh : h ≤ 500) (hk0 : ¬ kGone (nI h) p0 = 0) : Met l yL_madeAnew wsL_madeAnew ({ frames := 8, cells := 1, slots := 6, locals := 170 }) (va_Pc [.ref (A 0), .int p0, .ref o] (fun U => wPre dG (tyL cA cL) (xW A cA L P G V R N Y S wd (nI T) ft fl ce (nI h) mo ++ [(o, .inl (cL, 1, .inr (.inl fo)))]) Hp U ∧ tgE a (va_A (xW A cA L P G V R N Y S wd (nI T) ft fl ce (nI h) mo ++ [(o, .inl (cL, 1, .inr (.inl fo)))]) Hp.size) U Hp)) (va_Qi (fun (r : Int32) (u : XS × (Nat → Int64)) => r = kGone (nI h) p0 ∧ u = ((L, P, G, V, R, N, Y, S, wd, (nI T), ft, fl, ce, (nI h), mo), fo)) (fun u t => wAt dG (tyL cA cL) (va_A (xW A cA L P G V R N Y S wd (nI T) ft fl ce (nI h) mo ++ [(o, .inl (cL, 1, .inr (.inl fo)))]) Hp.size) (xU A cA u.1 ++ [(o, .inl (cL, 1, .inr (.inl u.2)))]) t) (va_A (xW A cA L P G V R N Y S wd (nI T) ft fl ce (nI h) mo ++ [(o, .inl (cL, 1, .inr (.inl fo)))]) Hp.size)) 1 6 (va_A (xW A cA L P G V R N Y S wd (nI T) ft fl ce (nI h) mo ++ [(o, .inl (cL, 1, .inr (.inl fo)))]) Hp.size) := by
  refine Met.ofWH (cc := cL_madeAnew) (maxL := 4) (ret := some .int) (by decide) rfl ?_
  intro p e s m args below meth c s₁ Bd hml hv
  obtain ⟨rfl, ⟨hH, hP, hK, hD0⟩, hE⟩ := hv
  subst hH
  have hx := Bd.exec
  have hb := Bd.bytes
  have hr := Bd.returns
  have hts := atoms_spec (ws := wsL_madeAnew) Bd.pre
  have hown : s.vm.findClass RL = some m.cls := findClass_of_methodNamed Bd.named
  have hlocks := Bd.notSynchronized
  have htab := vx_table (x := yL_madeAnew) Bd (hts _ List.mem_cons_self)
  have hD := hD0.self (sz := s.heap.size)
  generalize hAe : va_A (xW A cA L P G V R N Y S wd (nI T) ft fl ce (nI h) mo ++ [(o, .inl (cL, 1, .inr (.inl fo)))]) s.heap.size = F at hD hE ⊢
  have hA : ∀ q : Nat, s.heap.size ≤ q → F q := fun q h => by rw [← hAe]; exact Or.inr h
  have hS : va_S F s.heap s.heap [] := va_S.rf
  have hP : va_P dG vwCl (xW A cA L P G V R N Y S wd (nI T) ft fl ce (nI h) mo ++ [(o, .inl (cL, 1, .inr (.inl fo)))]) s.heap := hP
  have hl := lv_entry ([.ref (A 0), .int p0, .ref o]) (n := 4) (Nat.le_of_ble_eq_true rfl)
  rw [lg_entry_eq]
  generalize (lg_sl ([.ref (A 0), .int p0, .ref o]) ++ List.replicate (4 - (lg_sl ([.ref (A 0), .int p0, .ref o])).length) Slot.unset).toArray = ls at hl ⊢
  have hl : lv_has ls 4 [(0, .ref (A 0)), (1, .int p0), (2, .ref o)] := hl
  refine lv_aload_n hx hb dL_madeAnew_0 rfl (lv_at hl 2 rfl) ?_
  refine lv_iconst (v := 0) hx hb dL_madeAnew_1 (by decide) ?_
  refine lv_aload_n hx hb dL_madeAnew_2 rfl (lv_at hl 0 rfl) ?_
  refine lv_iload_n hx hb dL_madeAnew_3 rfl (lv_at hl 1 rfl) ?_
  have hPc := hP.sub (ws' := (xW A cA L P G V R N Y S wd (nI T) ft fl ce (nI h) mo)) [0, 1, 2, 3, 4, 5, 6, 7, 8] rfl
  have hDc := hD.sub (ws' := (xW A cA L P G V R N Y S wd (nI T) ft fl ce (nI h) mo)) [0, 1, 2, 3, 4, 5, 6, 7, 8] (by decide) rfl
  have hKc := hK.sub (tys' := tyI cA) [0] rfl
  have hFc := va_free (wc := (xW A cA L P G V R N Y S wd (nI T) ft fl ce (nI h) mo)) hD hS hA [0, 1, 2, 3, 4, 5, 6, 7, 8] rfl
  refine vx_calli (vx_runV (As := [.int p0]) (rest := [.int 0, .ref o]) ⟨hx, hb, hml, hown, hts⟩ (c_X0_madeAnew_no l hl0 dG a A cA s.heap L P G V R N Y S T h wd ft fl ce mo p0 hk0) (cwV 1 hts gL_madeAnew_X0_madeAnew rfl rfl rfl (by decide +kernel) ⟨Nat.le_of_ble_eq_true rfl, Nat.le_of_ble_eq_true rfl⟩) ⟨fun a9 U g mk q => ⟨q.1, wPre_calling g mk a9 q.2.1, q.2.2.calling g mk a9⟩, va_recv hKc hPc (ci := 0) (q0 := 0) rfl rfl, fun U hU hW => ⟨rfl, wPre_of hKc hPc hDc hU hW, hE.go hW hS hFc⟩⟩ rfl rfl hl.1 rfl (lv_room (Nat.le_of_ble_eq_true rfl)) dL_madeAnew_4 ⟨Nat.le_of_ble_eq_true rfl, Nat.le_of_ble_eq_true rfl⟩) hS (fun q _ h => h.elim) hFc (fun q _ h => h.elim) (fun E c9 q9 u t H locs ht hvm hp hB hz1 hk1 hS hce hcv hcl => ?_) (fun r u t H1 locs ht hvm hw hB hz1 hk1 hS => ?_)
  · subst hB
    have hP : va_P dG vwCl (xW A cA L P G V R N Y S wd (nI T) ft fl ce (nI h) mo ++ [(o, .inl (cL, 1, .inr (.inl fo)))]) H := hP.kept (fun k x hx => hk1 x.1 (hP k x hx).lt (fun h => h))
    obtain ⟨rfl, hk⟩ := hp
    refine vx_catch hown [] ⟨0, 9, 12, 13⟩ [] (htab.trans rfl) (fun z hz => absurd hz List.not_mem_nil) (by decide) (by decide) (hts (.classLink RL 13 eI) (by decide +kernel)) (va_Nw.use rfl hE.1.2.1.1) hce hcv hcl ?_
    refine lv_astore_n (lv' := [(3, .ref q9), (0, .ref (A 0)), (1, .int p0), (2, .ref o)]) hx hb dL_madeAnew_12 rfl hl (by decide) rfl (fun ls hl => ?_)
    refine lv_iconst (v := 1) hx hb dL_madeAnew_13 (by decide) ?_
    exact W.iret hx hb hr (fun t ht hW => ⟨⟨_, ((L, P, G, V, R, N, Y, S, wd, (nI T), ft, fl, ce, (nI h), mo), fo), rfl, ⟨hk.symm, rfl⟩, by rw [ht]; exact hP, va_K.moved hW.alike hK, hD⟩, hS.F ht⟩) hS.2.2 dL_madeAnew_14
  · exact hw.elim
