theorem nIr {n b : Nat} (h : n ≤ b) (hb : b < 2 ^ 31) : 0 ≤ (nI n).toInt ∧ (nI n).toInt ≤ (b : Int) := by
  rw [nI_toInt (by omega)]
  omega
theorem Met.ofWH {l : Launch} {y : MethodName} {ws ws' : List Cond} {rm : Room} {Pc : Array Value → State → Prop} {Qc : Array Value → State → Outcome → State → Prop} {mc ms : Nat} {free : Addr → Prop} {cc : ByteArray} {maxL : Nat} {ret : Option FieldType} {hh : List (Nat × Nat × Nat × Nat)}
    (hy : plainName y.cls = true) (hw : ws = Cond.codeWith y cc maxL ret hh :: ws')
    (body : ∀ p e s m args below meth c s₁, BodyLoose p l y (headSpec ws rm) cc maxL ret e s m args below meth c s₁ → c.maxLocals = maxL → Pc args s →
      W p l e (headSpec ws rm).room s m args below meth c s.heap [] 0 0 (MQ below Qc args s mc ms free) (entryFrame m args maxL)) : Met l y ws rm Pc Qc mc ms free := by
  refine MetFree.of_bodyS (code := cc) (maxLocals := maxL) (ret := ret) hy ?_ ?_
  · intro args s m h hn
    obtain ⟨m9, meth, c, hn9, h1, h2, h3, h4, -, h5, h6, -⟩ := Cond.codeWith_spec (atoms_spec (ws := ws) h _ (by rw [hw]; exact List.mem_cons_self))
    cases hn.symm.trans hn9
    exact ⟨meth, c, h1, h2, h3, h4, h5, h6⟩
  · intro p e s m args below meth c s₁ B hml hP _
    have hh0 : s₁.heap = s.heap := by rw [B.state]; rfl
    obtain ⟨t, a1, o, b1, b2, b3⟩ := body p e s m args below meth c s₁ B hml hP s₁ hh0 (Stand.of_body B)
    exact ⟨t, o, a1, b1, b2, ⟨b3.1, b3.2⟩⟩
set_option maxHeartbeats 4000000 in
set_option maxRecDepth 100000 in
theorem c_L_tide (l : Launch) (hl0 : l.stackTraces = false) (dG : va_G) (a A : Nat → Nat) (o : Nat) (cA cL : ClassId) (Hp : Heap) (L P G V R N Y S : Nat → Int32) (T h : Nat) (wd ft fl ce : Int32) (mo : UInt32) (fo : Nat → Int64) (p0 : Int32) (p1 : Int32) (hT : T ≤ 4) (hh : h ≤ 500) : Met l yL_tide wsL_tide ({ frames := 8, cells := 1, slots := 6, locals := 170 }) (va_Pc [.ref (A 0), .int p0, .int p1, .ref o] (fun U => wPre dG (tyL cA cL) (xW A cA L P G V R N Y S wd (nI T) ft fl ce (nI h) mo ++ [(o, .inl (cL, 1, .inr (.inl fo)))]) Hp U ∧ tgE a (va_A (xW A cA L P G V R N Y S wd (nI T) ft fl ce (nI h) mo ++ [(o, .inl (cL, 1, .inr (.inl fo)))]) Hp.size) U Hp)) (va_Qi (fun (r : Int32) (u : XS × (Nat → Int64)) => r = kTide p0 p1 ∧ (kTide p0 p1 = 0 → u = (((upd L p0.toNatClampNeg p1), P, G, V, R, N, Y, S, wd, (nI T), ft, fl, ce, (nI h), mo), vp_updL fo 0 ((L p0.toNatClampNeg).toInt64))) ∧ (¬ kTide p0 p1 = 0 → u = ((L, P, G, V, R, N, Y, S, wd, (nI T), ft, fl, ce, (nI h), mo), fo))) (fun u t => wAt dG (tyL cA cL) (va_A (xW A cA L P G V R N Y S wd (nI T) ft fl ce (nI h) mo ++ [(o, .inl (cL, 1, .inr (.inl fo)))]) Hp.size) (xU A cA u.1 ++ [(o, .inl (cL, 1, .inr (.inl u.2)))]) t) (va_A (xW A cA L P G V R N Y S wd (nI T) ft fl ce (nI h) mo ++ [(o, .inl (cL, 1, .inr (.inl fo)))]) Hp.size)) 1 6 (va_A (xW A cA L P G V R N Y S wd (nI T) ft fl ce (nI h) mo ++ [(o, .inl (cL, 1, .inr (.inl fo)))]) Hp.size) := by
  refine Met.ofWH (cc := cL_tide) (maxL := 5) (ret := some .int) (by decide) rfl ?_
  intro p e s m args below meth c s₁ Bd hml hv
  obtain ⟨rfl, ⟨hH, hP, hK, hD0⟩, hE⟩ := hv
  subst hH
  have hx := Bd.exec
  have hb := Bd.bytes
  have hr := Bd.returns
  have hts := atoms_spec (ws := wsL_tide) Bd.pre
  have hown : s.vm.findClass RL = some m.cls := findClass_of_methodNamed Bd.named
  have hlocks := Bd.notSynchronized
  have htab := vx_table (x := yL_tide) Bd (hts _ List.mem_cons_self)
  have hD := hD0.self (sz := s.heap.size)
  generalize hAe : va_A (xW A cA L P G V R N Y S wd (nI T) ft fl ce (nI h) mo ++ [(o, .inl (cL, 1, .inr (.inl fo)))]) s.heap.size = F at hD hE ⊢
  have hA : ∀ q : Nat, s.heap.size ≤ q → F q := fun q h => by rw [← hAe]; exact Or.inr h
  have hS : va_S F s.heap s.heap [] := va_S.rf
  have hP : va_P dG vwCl (xW A cA L P G V R N Y S wd (nI T) ft fl ce (nI h) mo ++ [(o, .inl (cL, 1, .inr (.inl fo)))]) s.heap := hP
  have hl := lv_entry ([.ref (A 0), .int p0, .int p1, .ref o]) (n := 5) (Nat.le_of_ble_eq_true rfl)
  rw [lg_entry_eq]
  generalize (lg_sl ([.ref (A 0), .int p0, .int p1, .ref o]) ++ List.replicate (5 - (lg_sl ([.ref (A 0), .int p0, .int p1, .ref o])).length) Slot.unset).toArray = ls at hl ⊢
  have hl : lv_has ls 5 [(0, .ref (A 0)), (1, .int p0), (2, .int p1), (3, .ref o)] := hl
  refine lv_aload_n hx hb dL_tide_0 rfl (lv_at hl 3 rfl) ?_
  refine lv_iconst (v := 0) hx hb dL_tide_1 (by decide) ?_
  refine lv_aload_n hx hb dL_tide_2 rfl (lv_at hl 0 rfl) ?_
  refine lv_iload_n hx hb dL_tide_3 rfl (lv_at hl 1 rfl) ?_
  refine lv_iload_n hx hb dL_tide_4 rfl (lv_at hl 2 rfl) ?_
  have hPc := hP.sub (ws' := (xW A cA L P G V R N Y S wd (nI T) ft fl ce (nI h) mo)) [0, 1, 2, 3, 4, 5, 6, 7, 8] rfl
  have hDc := hD.sub (ws' := (xW A cA L P G V R N Y S wd (nI T) ft fl ce (nI h) mo)) [0, 1, 2, 3, 4, 5, 6, 7, 8] (by decide) rfl
  have hKc := hK.sub (tys' := tyI cA) [0] rfl
  have hFc := va_free (wc := (xW A cA L P G V R N Y S wd (nI T) ft fl ce (nI h) mo)) hD hS hA [0, 1, 2, 3, 4, 5, 6, 7, 8] rfl
  refine vx_calli (vx_runV (As := [.int p0, .int p1]) (rest := [.int 0, .ref o]) ⟨hx, hb, hml, hown, hts⟩ (c_X0_tide l hl0 dG a A cA s.heap L P G V R N Y S wd (nI T) ft fl ce (nI h) mo p0 p1 ) (cwV 2 hts gL_tide_X0_tide rfl rfl rfl (by decide +kernel) ⟨Nat.le_of_ble_eq_true rfl, Nat.le_of_ble_eq_true rfl⟩) ⟨fun a9 U g mk q => ⟨q.1, wPre_calling g mk a9 q.2.1, q.2.2.calling g mk a9⟩, va_recv hKc hPc (ci := 0) (q0 := 0) rfl rfl, fun U hU hW => ⟨rfl, wPre_of hKc hPc hDc hU hW, hE.go hW hS hFc⟩⟩ rfl rfl hl.1 rfl (lv_room (Nat.le_of_ble_eq_true rfl)) dL_tide_5 ⟨Nat.le_of_ble_eq_true rfl, Nat.le_of_ble_eq_true rfl⟩) hS (fun q _ h => hFc q h) hFc (fun q _ h => h.elim) (fun E c9 q9 u t H locs ht hvm hp hB hz1 hk1 hS hce hcv hcl => ?_) (fun r u t H locs ht hvm hw hB hz1 hk1 hS => ?_)
  · subst hB
    have hP : va_P dG vwCl (xW A cA L P G V R N Y S wd (nI T) ft fl ce (nI h) mo ++ [(o, .inl (cL, 1, .inr (.inl fo)))]) H := hP.kept (fun k x hx => hk1 x.1 (hP k x hx).lt (fun h => h))
    rcases hp with ⟨rfl, hk⟩ | ⟨rfl, hk⟩
    · refine vx_catch hown [] ⟨0, 10, 13, 13⟩ [⟨0, 10, 17, 15⟩] (htab.trans rfl) (fun z hz => absurd hz List.not_mem_nil) (by decide) (by decide) (hts (.classLink RL 13 eI) (by decide +kernel)) (va_Nw.use rfl hE.1.2.1.1) hce hcv hcl ?_
      refine lv_astore (lv' := [(4, .ref q9), (0, .ref (A 0)), (1, .int p0), (2, .int p1), (3, .ref o)]) hx hb dL_tide_13 hl (by decide) rfl (fun ls hl => ?_)
      refine lv_iconst (v := 1) hx hb dL_tide_15 (by decide) ?_
      exact W.iret hx hb hr (fun t ht hW => ⟨⟨_, ((L, P, G, V, R, N, Y, S, wd, (nI T), ft, fl, ce, (nI h), mo), fo), rfl, ⟨hk.symm, fun h9 => absurd (h9.symm.trans hk) (by decide), fun _ => rfl⟩, by rw [ht]; exact hP, va_K.moved hW.alike hK, hD⟩, hS.F ht⟩) hS.2.2 dL_tide_16
    · refine vx_catch hown [⟨0, 10, 13, 13⟩] ⟨0, 10, 17, 15⟩ [] (htab.trans rfl) (fun z hz => by rw [List.mem_singleton.mp hz]; exact Or.inr ⟨by decide, eI, hts (.classLink RL 13 eI) (by decide +kernel), hE.1.2.2.1.1⟩) (by decide) (by decide) (hts (.classLink RL 15 eA) (by decide +kernel)) (va_Nw.use rfl hE.1.2.1.2.1) hce hcv hcl ?_
      refine lv_astore (lv' := [(4, .ref q9), (0, .ref (A 0)), (1, .int p0), (2, .int p1), (3, .ref o)]) hx hb dL_tide_17 hl (by decide) rfl (fun ls hl => ?_)
      refine lv_iconst (v := 2) hx hb dL_tide_19 (by decide) ?_
      exact W.iret hx hb hr (fun t ht hW => ⟨⟨_, ((L, P, G, V, R, N, Y, S, wd, (nI T), ft, fl, ce, (nI h), mo), fo), rfl, ⟨hk.symm, fun h9 => absurd (h9.symm.trans hk) (by decide), fun _ => rfl⟩, by rw [ht]; exact hP, va_K.moved hW.alike hK, hD⟩, hS.F ht⟩) hS.2.2 dL_tide_20
  · obtain ⟨hk, hw1, hw2⟩ := hw
    have hw1 := hw1.symm
    subst hw1
    subst hw2
    obtain ⟨hP1, hK1, hD1⟩ := hB
    rw [ht] at hP1
    obtain ⟨hP, hD⟩ := va_join (wr := [(o, .inl (cL, 1, .inr (.inl fo)))]) (w1 := (xW A cA (upd L p0.toNatClampNeg p1) P G V R N Y S wd (nI T) ft fl ce (nI h) mo)) hP hD [0, 1, 2, 3, 4, 5, 6, 7, 8] [9] rfl rfl (by decide) (by decide) hk1 hFc hP1 hD1
    have hP : va_P dG vwCl (xW A cA (upd L p0.toNatClampNeg p1) P G V R N Y S wd (nI T) ft fl ce (nI h) mo ++ [(o, .inl (cL, 1, .inr (.inl fo)))]) H := hP.sub [1, 2, 3, 4, 5, 6, 7, 8, 9, 0] rfl
    have hD : va_D F (xW A cA (upd L p0.toNatClampNeg p1) P G V R N Y S wd (nI T) ft fl ce (nI h) mo ++ [(o, .inl (cL, 1, .inr (.inl fo)))]) := hD.sub [1, 2, 3, 4, 5, 6, 7, 8, 9, 0] (by decide) rfl
    refine lv_i2l hx hb dL_tide_8 rfl ?_
    refine va_last hx hb hK hP hD hS 9 1 rfl rfl (i := 0) (vp_in_nI (n := 0) (by omega) (by omega)) dL_tide_9 (fun H locs hP hD hS => ?_)
    have hP : va_P dG vwCl (xW A cA (upd L p0.toNatClampNeg p1) P G V R N Y S wd (nI T) ft fl ce (nI h) mo ++ [(o, .inl (cL, 1, .inr (.inl (vp_updL fo 0 ((L p0.toNatClampNeg).toInt64)))))]) H := hP
    have hD : va_D F (xW A cA (upd L p0.toNatClampNeg p1) P G V R N Y S wd (nI T) ft fl ce (nI h) mo ++ [(o, .inl (cL, 1, .inr (.inl (vp_updL fo 0 ((L p0.toNatClampNeg).toInt64)))))]) := hD
    refine lv_goto (tgt := 21) hx hb dL_tide_10 (by decide) ?_
    refine lv_iconst (v := 0) hx hb dL_tide_21 (by decide) ?_
    exact W.iret hx hb hr (fun t ht hW => ⟨⟨_, (((upd L p0.toNatClampNeg p1), P, G, V, R, N, Y, S, wd, (nI T), ft, fl, ce, (nI h), mo), (vp_updL fo 0 ((L p0.toNatClampNeg).toInt64))), rfl, ⟨hk.symm, fun _ => rfl, fun h9 => absurd hk h9⟩, by rw [ht]; exact hP, va_K.moved hW.alike hK, hD⟩, hS.F ht⟩) hS.2.2 dL_tide_22
set_option maxHeartbeats 4000000 in
set_option maxRecDepth 100000 in
theorem c_L_price (l : Launch) (hl0 : l.stackTraces = false) (dG : va_G) (a A : Nat → Nat) (o : Nat) (cA cL : ClassId) (Hp : Heap) (L P G V R N Y S : Nat → Int32) (T h : Nat) (wd ft fl ce : Int32) (mo : UInt32) (fo : Nat → Int64) (p0 : Int32) (p1 : Int32) (hT : T ≤ 4) (hh : h ≤ 500) : Met l yL_price wsL_price ({ frames := 8, cells := 1, slots := 6, locals := 170 }) (va_Pc [.ref (A 0), .int p0, .int p1, .ref o] (fun U => wPre dG (tyL cA cL) (xW A cA L P G V R N Y S wd (nI T) ft fl ce (nI h) mo ++ [(o, .inl (cL, 1, .inr (.inl fo)))]) Hp U ∧ tgE a (va_A (xW A cA L P G V R N Y S wd (nI T) ft fl ce (nI h) mo ++ [(o, .inl (cL, 1, .inr (.inl fo)))]) Hp.size) U Hp)) (va_Qi (fun (r : Int32) (u : XS × (Nat → Int64)) => r = kPrice p0 p1 ∧ (kPrice p0 p1 = 0 → u = ((L, (upd P p0.toNatClampNeg p1), G, V, R, N, Y, S, wd, (nI T), ft, fl, ce, (nI h), mo), vp_updL fo 0 ((P p0.toNatClampNeg).toInt64))) ∧ (¬ kPrice p0 p1 = 0 → u = ((L, P, G, V, R, N, Y, S, wd, (nI T), ft, fl, ce, (nI h), mo), fo))) (fun u t => wAt dG (tyL cA cL) (va_A (xW A cA L P G V R N Y S wd (nI T) ft fl ce (nI h) mo ++ [(o, .inl (cL, 1, .inr (.inl fo)))]) Hp.size) (xU A cA u.1 ++ [(o, .inl (cL, 1, .inr (.inl u.2)))]) t) (va_A (xW A cA L P G V R N Y S wd (nI T) ft fl ce (nI h) mo ++ [(o, .inl (cL, 1, .inr (.inl fo)))]) Hp.size)) 1 6 (va_A (xW A cA L P G V R N Y S wd (nI T) ft fl ce (nI h) mo ++ [(o, .inl (cL, 1, .inr (.inl fo)))]) Hp.size) := by
  refine Met.ofWH (cc := cL_price) (maxL := 5) (ret := some .int) (by decide) rfl ?_
  intro p e s m args below meth c s₁ Bd hml hv
  obtain ⟨rfl, ⟨hH, hP, hK, hD0⟩, hE⟩ := hv
  subst hH
  have hx := Bd.exec
  have hb := Bd.bytes
  have hr := Bd.returns
  have hts := atoms_spec (ws := wsL_price) Bd.pre
  have hown : s.vm.findClass RL = some m.cls := findClass_of_methodNamed Bd.named
  have hlocks := Bd.notSynchronized
  have htab := vx_table (x := yL_price) Bd (hts _ List.mem_cons_self)
  have hD := hD0.self (sz := s.heap.size)
  generalize hAe : va_A (xW A cA L P G V R N Y S wd (nI T) ft fl ce (nI h) mo ++ [(o, .inl (cL, 1, .inr (.inl fo)))]) s.heap.size = F at hD hE ⊢
  have hA : ∀ q : Nat, s.heap.size ≤ q → F q := fun q h => by rw [← hAe]; exact Or.inr h
  have hS : va_S F s.heap s.heap [] := va_S.rf
  have hP : va_P dG vwCl (xW A cA L P G V R N Y S wd (nI T) ft fl ce (nI h) mo ++ [(o, .inl (cL, 1, .inr (.inl fo)))]) s.heap := hP
  have hl := lv_entry ([.ref (A 0), .int p0, .int p1, .ref o]) (n := 5) (Nat.le_of_ble_eq_true rfl)
  rw [lg_entry_eq]
  generalize (lg_sl ([.ref (A 0), .int p0, .int p1, .ref o]) ++ List.replicate (5 - (lg_sl ([.ref (A 0), .int p0, .int p1, .ref o])).length) Slot.unset).toArray = ls at hl ⊢
  have hl : lv_has ls 5 [(0, .ref (A 0)), (1, .int p0), (2, .int p1), (3, .ref o)] := hl
  refine lv_aload_n hx hb dL_price_0 rfl (lv_at hl 3 rfl) ?_
  refine lv_iconst (v := 0) hx hb dL_price_1 (by decide) ?_
  refine lv_aload_n hx hb dL_price_2 rfl (lv_at hl 0 rfl) ?_
  refine lv_iload_n hx hb dL_price_3 rfl (lv_at hl 1 rfl) ?_
  refine lv_iload_n hx hb dL_price_4 rfl (lv_at hl 2 rfl) ?_
  have hPc := hP.sub (ws' := (xW A cA L P G V R N Y S wd (nI T) ft fl ce (nI h) mo)) [0, 1, 2, 3, 4, 5, 6, 7, 8] rfl
  have hDc := hD.sub (ws' := (xW A cA L P G V R N Y S wd (nI T) ft fl ce (nI h) mo)) [0, 1, 2, 3, 4, 5, 6, 7, 8] (by decide) rfl
  have hKc := hK.sub (tys' := tyI cA) [0] rfl
  have hFc := va_free (wc := (xW A cA L P G V R N Y S wd (nI T) ft fl ce (nI h) mo)) hD hS hA [0, 1, 2, 3, 4, 5, 6, 7, 8] rfl
  refine vx_calli (vx_runV (As := [.int p0, .int p1]) (rest := [.int 0, .ref o]) ⟨hx, hb, hml, hown, hts⟩ (c_X0_price l hl0 dG a A cA s.heap L P G V R N Y S wd (nI T) ft fl ce (nI h) mo p0 p1 ) (cwV 2 hts gL_price_X0_price rfl rfl rfl (by decide +kernel) ⟨Nat.le_of_ble_eq_true rfl, Nat.le_of_ble_eq_true rfl⟩) ⟨fun a9 U g mk q => ⟨q.1, wPre_calling g mk a9 q.2.1, q.2.2.calling g mk a9⟩, va_recv hKc hPc (ci := 0) (q0 := 0) rfl rfl, fun U hU hW => ⟨rfl, wPre_of hKc hPc hDc hU hW, hE.go hW hS hFc⟩⟩ rfl rfl hl.1 rfl (lv_room (Nat.le_of_ble_eq_true rfl)) dL_price_5 ⟨Nat.le_of_ble_eq_true rfl, Nat.le_of_ble_eq_true rfl⟩) hS (fun q _ h => hFc q h) hFc (fun q _ h => h.elim) (fun E c9 q9 u t H locs ht hvm hp hB hz1 hk1 hS hce hcv hcl => ?_) (fun r u t H locs ht hvm hw hB hz1 hk1 hS => ?_)
  · subst hB
    have hP : va_P dG vwCl (xW A cA L P G V R N Y S wd (nI T) ft fl ce (nI h) mo ++ [(o, .inl (cL, 1, .inr (.inl fo)))]) H := hP.kept (fun k x hx => hk1 x.1 (hP k x hx).lt (fun h => h))
    rcases hp with ⟨rfl, hk⟩ | ⟨rfl, hk⟩
    · refine vx_catch hown [] ⟨0, 10, 13, 13⟩ [⟨0, 10, 17, 15⟩] (htab.trans rfl) (fun z hz => absurd hz List.not_mem_nil) (by decide) (by decide) (hts (.classLink RL 13 eI) (by decide +kernel)) (va_Nw.use rfl hE.1.2.1.1) hce hcv hcl ?_
      refine lv_astore (lv' := [(4, .ref q9), (0, .ref (A 0)), (1, .int p0), (2, .int p1), (3, .ref o)]) hx hb dL_price_13 hl (by decide) rfl (fun ls hl => ?_)
      refine lv_iconst (v := 1) hx hb dL_price_15 (by decide) ?_
      exact W.iret hx hb hr (fun t ht hW => ⟨⟨_, ((L, P, G, V, R, N, Y, S, wd, (nI T), ft, fl, ce, (nI h), mo), fo), rfl, ⟨hk.symm, fun h9 => absurd (h9.symm.trans hk) (by decide), fun _ => rfl⟩, by rw [ht]; exact hP, va_K.moved hW.alike hK, hD⟩, hS.F ht⟩) hS.2.2 dL_price_16
    · refine vx_catch hown [⟨0, 10, 13, 13⟩] ⟨0, 10, 17, 15⟩ [] (htab.trans rfl) (fun z hz => by rw [List.mem_singleton.mp hz]; exact Or.inr ⟨by decide, eI, hts (.classLink RL 13 eI) (by decide +kernel), hE.1.2.2.1.1⟩) (by decide) (by decide) (hts (.classLink RL 15 eA) (by decide +kernel)) (va_Nw.use rfl hE.1.2.1.2.1) hce hcv hcl ?_
      refine lv_astore (lv' := [(4, .ref q9), (0, .ref (A 0)), (1, .int p0), (2, .int p1), (3, .ref o)]) hx hb dL_price_17 hl (by decide) rfl (fun ls hl => ?_)
      refine lv_iconst (v := 2) hx hb dL_price_19 (by decide) ?_
      exact W.iret hx hb hr (fun t ht hW => ⟨⟨_, ((L, P, G, V, R, N, Y, S, wd, (nI T), ft, fl, ce, (nI h), mo), fo), rfl, ⟨hk.symm, fun h9 => absurd (h9.symm.trans hk) (by decide), fun _ => rfl⟩, by rw [ht]; exact hP, va_K.moved hW.alike hK, hD⟩, hS.F ht⟩) hS.2.2 dL_price_20
  · obtain ⟨hk, hw1, hw2⟩ := hw
    have hw1 := hw1.symm
    subst hw1
    subst hw2
    obtain ⟨hP1, hK1, hD1⟩ := hB
    rw [ht] at hP1
    obtain ⟨hP, hD⟩ := va_join (wr := [(o, .inl (cL, 1, .inr (.inl fo)))]) (w1 := (xW A cA L (upd P p0.toNatClampNeg p1) G V R N Y S wd (nI T) ft fl ce (nI h) mo)) hP hD [0, 1, 2, 3, 4, 5, 6, 7, 8] [9] rfl rfl (by decide) (by decide) hk1 hFc hP1 hD1
    have hP : va_P dG vwCl (xW A cA L (upd P p0.toNatClampNeg p1) G V R N Y S wd (nI T) ft fl ce (nI h) mo ++ [(o, .inl (cL, 1, .inr (.inl fo)))]) H := hP.sub [1, 2, 3, 4, 5, 6, 7, 8, 9, 0] rfl
    have hD : va_D F (xW A cA L (upd P p0.toNatClampNeg p1) G V R N Y S wd (nI T) ft fl ce (nI h) mo ++ [(o, .inl (cL, 1, .inr (.inl fo)))]) := hD.sub [1, 2, 3, 4, 5, 6, 7, 8, 9, 0] (by decide) rfl
    refine lv_i2l hx hb dL_price_8 rfl ?_
    refine va_last hx hb hK hP hD hS 9 1 rfl rfl (i := 0) (vp_in_nI (n := 0) (by omega) (by omega)) dL_price_9 (fun H locs hP hD hS => ?_)
    have hP : va_P dG vwCl (xW A cA L (upd P p0.toNatClampNeg p1) G V R N Y S wd (nI T) ft fl ce (nI h) mo ++ [(o, .inl (cL, 1, .inr (.inl (vp_updL fo 0 ((P p0.toNatClampNeg).toInt64)))))]) H := hP
    have hD : va_D F (xW A cA L (upd P p0.toNatClampNeg p1) G V R N Y S wd (nI T) ft fl ce (nI h) mo ++ [(o, .inl (cL, 1, .inr (.inl (vp_updL fo 0 ((P p0.toNatClampNeg).toInt64)))))]) := hD
    refine lv_goto (tgt := 21) hx hb dL_price_10 (by decide) ?_
    refine lv_iconst (v := 0) hx hb dL_price_21 (by decide) ?_
    exact W.iret hx hb hr (fun t ht hW => ⟨⟨_, ((L, (upd P p0.toNatClampNeg p1), G, V, R, N, Y, S, wd, (nI T), ft, fl, ce, (nI h), mo), (vp_updL fo 0 ((P p0.toNatClampNeg).toInt64))), rfl, ⟨hk.symm, fun _ => rfl, fun h9 => absurd hk h9⟩, by rw [ht]; exact hP, va_K.moved hW.alike hK, hD⟩, hS.F ht⟩) hS.2.2 dL_price_22
set_option maxHeartbeats 4000000 in
set_option maxRecDepth 100000 in
theorem c_L_wind (l : Launch) (hl0 : l.stackTraces = false) (dG : va_G) (a A : Nat → Nat) (o : Nat) (cA cL : ClassId) (Hp : Heap) (L P G V R N Y S : Nat → Int32) (T h : Nat) (wd ft fl ce : Int32) (mo : UInt32) (fo : Nat → Int64) (p0 : Int32) (hT : T ≤ 4) (hh : h ≤ 500) : Met l yL_wind wsL_wind ({ frames := 8, cells := 1, slots := 6, locals := 170 }) (va_Pc [.ref (A 0), .int p0, .ref o] (fun U => wPre dG (tyL cA cL) (xW A cA L P G V R N Y S wd (nI T) ft fl ce (nI h) mo ++ [(o, .inl (cL, 1, .inr (.inl fo)))]) Hp U ∧ tgE a (va_A (xW A cA L P G V R N Y S wd (nI T) ft fl ce (nI h) mo ++ [(o, .inl (cL, 1, .inr (.inl fo)))]) Hp.size) U Hp)) (va_Qi (fun (r : Int32) (u : XS × (Nat → Int64)) => r = kWind p0 ∧ (kWind p0 = 0 → u = ((L, P, G, V, R, N, Y, S, p0, (nI T), ft, fl, ce, (nI h), mo), vp_updL fo 0 ((wd).toInt64))) ∧ (¬ kWind p0 = 0 → u = ((L, P, G, V, R, N, Y, S, wd, (nI T), ft, fl, ce, (nI h), mo), fo))) (fun u t => wAt dG (tyL cA cL) (va_A (xW A cA L P G V R N Y S wd (nI T) ft fl ce (nI h) mo ++ [(o, .inl (cL, 1, .inr (.inl fo)))]) Hp.size) (xU A cA u.1 ++ [(o, .inl (cL, 1, .inr (.inl u.2)))]) t) (va_A (xW A cA L P G V R N Y S wd (nI T) ft fl ce (nI h) mo ++ [(o, .inl (cL, 1, .inr (.inl fo)))]) Hp.size)) 1 6 (va_A (xW A cA L P G V R N Y S wd (nI T) ft fl ce (nI h) mo ++ [(o, .inl (cL, 1, .inr (.inl fo)))]) Hp.size) := by
  refine Met.ofWH (cc := cL_wind) (maxL := 4) (ret := some .int) (by decide) rfl ?_
  intro p e s m args below meth c s₁ Bd hml hv
  obtain ⟨rfl, ⟨hH, hP, hK, hD0⟩, hE⟩ := hv
  subst hH
  have hx := Bd.exec
  have hb := Bd.bytes
  have hr := Bd.returns
  have hts := atoms_spec (ws := wsL_wind) Bd.pre
  have hown : s.vm.findClass RL = some m.cls := findClass_of_methodNamed Bd.named
  have hlocks := Bd.notSynchronized
  have htab := vx_table (x := yL_wind) Bd (hts _ List.mem_cons_self)
  have hD := hD0.self (sz := s.heap.size)
  generalize hAe : va_A (xW A cA L P G V R N Y S wd (nI T) ft fl ce (nI h) mo ++ [(o, .inl (cL, 1, .inr (.inl fo)))]) s.heap.size = F at hD hE ⊢
  have hA : ∀ q : Nat, s.heap.size ≤ q → F q := fun q h => by rw [← hAe]; exact Or.inr h
  have hS : va_S F s.heap s.heap [] := va_S.rf
  have hP : va_P dG vwCl (xW A cA L P G V R N Y S wd (nI T) ft fl ce (nI h) mo ++ [(o, .inl (cL, 1, .inr (.inl fo)))]) s.heap := hP
  have hl := lv_entry ([.ref (A 0), .int p0, .ref o]) (n := 4) (Nat.le_of_ble_eq_true rfl)
  rw [lg_entry_eq]
  generalize (lg_sl ([.ref (A 0), .int p0, .ref o]) ++ List.replicate (4 - (lg_sl ([.ref (A 0), .int p0, .ref o])).length) Slot.unset).toArray = ls at hl ⊢
  have hl : lv_has ls 4 [(0, .ref (A 0)), (1, .int p0), (2, .ref o)] := hl
  refine lv_aload_n hx hb dL_wind_0 rfl (lv_at hl 2 rfl) ?_
  refine lv_iconst (v := 0) hx hb dL_wind_1 (by decide) ?_
  refine lv_aload_n hx hb dL_wind_2 rfl (lv_at hl 0 rfl) ?_
  refine lv_iload_n hx hb dL_wind_3 rfl (lv_at hl 1 rfl) ?_
  have hPc := hP.sub (ws' := (xW A cA L P G V R N Y S wd (nI T) ft fl ce (nI h) mo)) [0, 1, 2, 3, 4, 5, 6, 7, 8] rfl
  have hDc := hD.sub (ws' := (xW A cA L P G V R N Y S wd (nI T) ft fl ce (nI h) mo)) [0, 1, 2, 3, 4, 5, 6, 7, 8] (by decide) rfl
  have hKc := hK.sub (tys' := tyI cA) [0] rfl
  have hFc := va_free (wc := (xW A cA L P G V R N Y S wd (nI T) ft fl ce (nI h) mo)) hD hS hA [0, 1, 2, 3, 4, 5, 6, 7, 8] rfl
  refine vx_calli (vx_runV (As := [.int p0]) (rest := [.int 0, .ref o]) ⟨hx, hb, hml, hown, hts⟩ (c_X0_wind l hl0 dG a A cA s.heap L P G V R N Y S wd (nI T) ft fl ce (nI h) mo p0 ) (cwV 1 hts gL_wind_X0_wind rfl rfl rfl (by decide +kernel) ⟨Nat.le_of_ble_eq_true rfl, Nat.le_of_ble_eq_true rfl⟩) ⟨fun a9 U g mk q => ⟨q.1, wPre_calling g mk a9 q.2.1, q.2.2.calling g mk a9⟩, va_recv hKc hPc (ci := 0) (q0 := 0) rfl rfl, fun U hU hW => ⟨rfl, wPre_of hKc hPc hDc hU hW, hE.go hW hS hFc⟩⟩ rfl rfl hl.1 rfl (lv_room (Nat.le_of_ble_eq_true rfl)) dL_wind_4 ⟨Nat.le_of_ble_eq_true rfl, Nat.le_of_ble_eq_true rfl⟩) hS (fun q _ h => hFc q h) hFc (fun q _ h => h.elim) (fun E c9 q9 u t H locs ht hvm hp hB hz1 hk1 hS hce hcv hcl => ?_) (fun r u t H locs ht hvm hw hB hz1 hk1 hS => ?_)
  · subst hB
    have hP : va_P dG vwCl (xW A cA L P G V R N Y S wd (nI T) ft fl ce (nI h) mo ++ [(o, .inl (cL, 1, .inr (.inl fo)))]) H := hP.kept (fun k x hx => hk1 x.1 (hP k x hx).lt (fun h => h))
    obtain ⟨rfl, hk⟩ := hp
    refine vx_catch hown [] ⟨0, 9, 12, 15⟩ [] (htab.trans rfl) (fun z hz => absurd hz List.not_mem_nil) (by decide) (by decide) (hts (.classLink RL 15 eA) (by decide +kernel)) (va_Nw.use rfl hE.1.2.1.2.1) hce hcv hcl ?_
    refine lv_astore_n (lv' := [(3, .ref q9), (0, .ref (A 0)), (1, .int p0), (2, .ref o)]) hx hb dL_wind_12 rfl hl (by decide) rfl (fun ls hl => ?_)
    refine lv_iconst (v := 1) hx hb dL_wind_13 (by decide) ?_
    exact W.iret hx hb hr (fun t ht hW => ⟨⟨_, ((L, P, G, V, R, N, Y, S, wd, (nI T), ft, fl, ce, (nI h), mo), fo), rfl, ⟨hk.symm, fun h9 => absurd (h9.symm.trans hk) (by decide), fun _ => rfl⟩, by rw [ht]; exact hP, va_K.moved hW.alike hK, hD⟩, hS.F ht⟩) hS.2.2 dL_wind_14
  · obtain ⟨hk, hw1, hw2⟩ := hw
    have hw1 := hw1.symm
    subst hw1
    subst hw2
    obtain ⟨hP1, hK1, hD1⟩ := hB
    rw [ht] at hP1
    obtain ⟨hP, hD⟩ := va_join (wr := [(o, .inl (cL, 1, .inr (.inl fo)))]) (w1 := (xW A cA L P G V R N Y S p0 (nI T) ft fl ce (nI h) mo)) hP hD [0, 1, 2, 3, 4, 5, 6, 7, 8] [9] rfl rfl (by decide) (by decide) hk1 hFc hP1 hD1
    have hP : va_P dG vwCl (xW A cA L P G V R N Y S p0 (nI T) ft fl ce (nI h) mo ++ [(o, .inl (cL, 1, .inr (.inl fo)))]) H := hP.sub [1, 2, 3, 4, 5, 6, 7, 8, 9, 0] rfl
    have hD : va_D F (xW A cA L P G V R N Y S p0 (nI T) ft fl ce (nI h) mo ++ [(o, .inl (cL, 1, .inr (.inl fo)))]) := hD.sub [1, 2, 3, 4, 5, 6, 7, 8, 9, 0] (by decide) rfl
    refine lv_i2l hx hb dL_wind_7 rfl ?_
    refine va_last hx hb hK hP hD hS 9 1 rfl rfl (i := 0) (vp_in_nI (n := 0) (by omega) (by omega)) dL_wind_8 (fun H locs hP hD hS => ?_)
    have hP : va_P dG vwCl (xW A cA L P G V R N Y S p0 (nI T) ft fl ce (nI h) mo ++ [(o, .inl (cL, 1, .inr (.inl (vp_updL fo 0 (wd.toInt64)))))]) H := hP
    have hD : va_D F (xW A cA L P G V R N Y S p0 (nI T) ft fl ce (nI h) mo ++ [(o, .inl (cL, 1, .inr (.inl (vp_updL fo 0 (wd.toInt64)))))]) := hD
    refine lv_goto (tgt := 15) hx hb dL_wind_9 (by decide) ?_
    refine lv_iconst (v := 0) hx hb dL_wind_15 (by decide) ?_
    exact W.iret hx hb hr (fun t ht hW => ⟨⟨_, ((L, P, G, V, R, N, Y, S, p0, (nI T), ft, fl, ce, (nI h), mo), (vp_updL fo 0 (wd.toInt64))), rfl, ⟨hk.symm, fun _ => rfl, fun h9 => absurd hk h9⟩, by rw [ht]; exact hP, va_K.moved hW.alike hK, hD⟩, hS.F ht⟩) hS.2.2 dL_wind_16
set_option maxHeartbeats 4000000 in
set_option maxRecDepth 100000 in
theorem c_L_turbine (l : Launch) (hl0 : l.stackTraces = false) (dG : va_G) (a A : Nat → Nat) (o : Nat) (cA cL : ClassId) (Hp : Heap) (L P G V R N Y S : Nat → Int32) (T h : Nat) (wd ft fl ce : Int32) (mo : UInt32) (fo : Nat → Int64)  (hT : T ≤ 4) (hh : h ≤ 500) : Met l yL_turbine wsL_turbine ({ frames := 8, cells := 1, slots := 6, locals := 170 }) (va_Pc [.ref (A 0), .ref o] (fun U => wPre dG (tyL cA cL) (xW A cA L P G V R N Y S wd (nI T) ft fl ce (nI h) mo ++ [(o, .inl (cL, 1, .inr (.inl fo)))]) Hp U ∧ tgE a (va_A (xW A cA L P G V R N Y S wd (nI T) ft fl ce (nI h) mo ++ [(o, .inl (cL, 1, .inr (.inl fo)))]) Hp.size) U Hp)) (va_Qi (fun (r : Int32) (u : XS × (Nat → Int64)) => r = kTurb (nI T) ∧ (kTurb (nI T) = 0 → u = ((L, P, G, V, R, N, Y, S, wd, (nI T + 1), ft, fl, ce, (nI h), mo), vp_updL fo 0 ((nI T + 1 - 1).toInt64))) ∧ (¬ kTurb (nI T) = 0 → u = ((L, P, G, V, R, N, Y, S, wd, (nI T), ft, fl, ce, (nI h), mo), fo))) (fun u t => wAt dG (tyL cA cL) (va_A (xW A cA L P G V R N Y S wd (nI T) ft fl ce (nI h) mo ++ [(o, .inl (cL, 1, .inr (.inl fo)))]) Hp.size) (xU A cA u.1 ++ [(o, .inl (cL, 1, .inr (.inl u.2)))]) t) (va_A (xW A cA L P G V R N Y S wd (nI T) ft fl ce (nI h) mo ++ [(o, .inl (cL, 1, .inr (.inl fo)))]) Hp.size)) 1 6 (va_A (xW A cA L P G V R N Y S wd (nI T) ft fl ce (nI h) mo ++ [(o, .inl (cL, 1, .inr (.inl fo)))]) Hp.size) := by
  refine Met.ofWH (cc := cL_turbine) (maxL := 3) (ret := some .int) (by decide) rfl ?_
  intro p e s m args below meth c s₁ Bd hml hv
  obtain ⟨rfl, ⟨hH, hP, hK, hD0⟩, hE⟩ := hv
  subst hH
  have hx := Bd.exec
  have hb := Bd.bytes
  have hr := Bd.returns
  have hts := atoms_spec (ws := wsL_turbine) Bd.pre
  have hown : s.vm.findClass RL = some m.cls := findClass_of_methodNamed Bd.named
  have hlocks := Bd.notSynchronized
  have htab := vx_table (x := yL_turbine) Bd (hts _ List.mem_cons_self)
  have hD := hD0.self (sz := s.heap.size)
  generalize hAe : va_A (xW A cA L P G V R N Y S wd (nI T) ft fl ce (nI h) mo ++ [(o, .inl (cL, 1, .inr (.inl fo)))]) s.heap.size = F at hD hE ⊢
  have hA : ∀ q : Nat, s.heap.size ≤ q → F q := fun q h => by rw [← hAe]; exact Or.inr h
  have hS : va_S F s.heap s.heap [] := va_S.rf
  have hP : va_P dG vwCl (xW A cA L P G V R N Y S wd (nI T) ft fl ce (nI h) mo ++ [(o, .inl (cL, 1, .inr (.inl fo)))]) s.heap := hP
  have hl := lv_entry ([.ref (A 0), .ref o]) (n := 3) (Nat.le_of_ble_eq_true rfl)
  rw [lg_entry_eq]
  generalize (lg_sl ([.ref (A 0), .ref o]) ++ List.replicate (3 - (lg_sl ([.ref (A 0), .ref o])).length) Slot.unset).toArray = ls at hl ⊢
  have hl : lv_has ls 3 [(0, .ref (A 0)), (1, .ref o)] := hl
  refine lv_aload_n hx hb dL_turbine_0 rfl (lv_at hl 1 rfl) ?_
  refine lv_iconst (v := 0) hx hb dL_turbine_1 (by decide) ?_
  refine lv_aload_n hx hb dL_turbine_2 rfl (lv_at hl 0 rfl) ?_
  have hPc := hP.sub (ws' := (xW A cA L P G V R N Y S wd (nI T) ft fl ce (nI h) mo)) [0, 1, 2, 3, 4, 5, 6, 7, 8] rfl
  have hDc := hD.sub (ws' := (xW A cA L P G V R N Y S wd (nI T) ft fl ce (nI h) mo)) [0, 1, 2, 3, 4, 5, 6, 7, 8] (by decide) rfl
  have hKc := hK.sub (tys' := tyI cA) [0] rfl
  have hFc := va_free (wc := (xW A cA L P G V R N Y S wd (nI T) ft fl ce (nI h) mo)) hD hS hA [0, 1, 2, 3, 4, 5, 6, 7, 8] rfl
  refine vx_calli (vx_runV (As := []) (rest := [.int 0, .ref o]) ⟨hx, hb, hml, hown, hts⟩ (c_X0_turbine l hl0 dG a A cA s.heap L P G V R N Y S wd (nI T) ft fl ce (nI h) mo  ) (cwV 0 hts gL_turbine_X0_turbine rfl rfl rfl (by decide +kernel) ⟨Nat.le_of_ble_eq_true rfl, Nat.le_of_ble_eq_true rfl⟩) ⟨fun a9 U g mk q => ⟨q.1, wPre_calling g mk a9 q.2.1, q.2.2.calling g mk a9⟩, va_recv hKc hPc (ci := 0) (q0 := 0) rfl rfl, fun U hU hW => ⟨rfl, wPre_of hKc hPc hDc hU hW, hE.go hW hS hFc⟩⟩ rfl rfl hl.1 rfl (lv_room (Nat.le_of_ble_eq_true rfl)) dL_turbine_3 ⟨Nat.le_of_ble_eq_true rfl, Nat.le_of_ble_eq_true rfl⟩) hS (fun q _ h => hFc q h) hFc (fun q _ h => h.elim) (fun E c9 q9 u t H locs ht hvm hp hB hz1 hk1 hS hce hcv hcl => ?_) (fun r u t H locs ht hvm hw hB hz1 hk1 hS => ?_)
  · subst hB
    have hP : va_P dG vwCl (xW A cA L P G V R N Y S wd (nI T) ft fl ce (nI h) mo ++ [(o, .inl (cL, 1, .inr (.inl fo)))]) H := hP.kept (fun k x hx => hk1 x.1 (hP k x hx).lt (fun h => h))
    obtain ⟨rfl, hk⟩ := hp
    refine vx_catch hown [] ⟨0, 8, 11, 28⟩ [] (htab.trans rfl) (fun z hz => absurd hz List.not_mem_nil) (by decide) (by decide) (hts (.classLink RL 28 eS) (by decide +kernel)) (va_Nw.use rfl hE.1.2.1.2.2) hce hcv hcl ?_
    refine lv_astore_n (lv' := [(2, .ref q9), (0, .ref (A 0)), (1, .ref o)]) hx hb dL_turbine_11 rfl hl (by decide) rfl (fun ls hl => ?_)
    refine lv_iconst (v := 1) hx hb dL_turbine_12 (by decide) ?_
    exact W.iret hx hb hr (fun t ht hW => ⟨⟨_, ((L, P, G, V, R, N, Y, S, wd, (nI T), ft, fl, ce, (nI h), mo), fo), rfl, ⟨hk.symm, fun h9 => absurd (h9.symm.trans hk) (by decide), fun _ => rfl⟩, by rw [ht]; exact hP, va_K.moved hW.alike hK, hD⟩, hS.F ht⟩) hS.2.2 dL_turbine_13
  · obtain ⟨hk, hw1, hw2⟩ := hw
    have hw1 := hw1.symm
    subst hw1
    subst hw2
    obtain ⟨hP1, hK1, hD1⟩ := hB
    rw [ht] at hP1
    obtain ⟨hP, hD⟩ := va_join (wr := [(o, .inl (cL, 1, .inr (.inl fo)))]) (w1 := (xW A cA L P G V R N Y S wd (nI T + 1) ft fl ce (nI h) mo)) hP hD [0, 1, 2, 3, 4, 5, 6, 7, 8] [9] rfl rfl (by decide) (by decide) hk1 hFc hP1 hD1
    have hP : va_P dG vwCl (xW A cA L P G V R N Y S wd (nI T + 1) ft fl ce (nI h) mo ++ [(o, .inl (cL, 1, .inr (.inl fo)))]) H := hP.sub [1, 2, 3, 4, 5, 6, 7, 8, 9, 0] rfl
    have hD : va_D F (xW A cA L P G V R N Y S wd (nI T + 1) ft fl ce (nI h) mo ++ [(o, .inl (cL, 1, .inr (.inl fo)))]) := hD.sub [1, 2, 3, 4, 5, 6, 7, 8, 9, 0] (by decide) rfl
    refine lv_i2l hx hb dL_turbine_6 rfl ?_
    refine va_last hx hb hK hP hD hS 9 1 rfl rfl (i := 0) (vp_in_nI (n := 0) (by omega) (by omega)) dL_turbine_7 (fun H locs hP hD hS => ?_)
    have hP : va_P dG vwCl (xW A cA L P G V R N Y S wd (nI T + 1) ft fl ce (nI h) mo ++ [(o, .inl (cL, 1, .inr (.inl (vp_updL fo 0 ((nI T + 1 - 1).toInt64)))))]) H := hP
    have hD : va_D F (xW A cA L P G V R N Y S wd (nI T + 1) ft fl ce (nI h) mo ++ [(o, .inl (cL, 1, .inr (.inl (vp_updL fo 0 ((nI T + 1 - 1).toInt64)))))]) := hD
    refine lv_goto (tgt := 14) hx hb dL_turbine_8 (by decide) ?_
    refine lv_iconst (v := 0) hx hb dL_turbine_14 (by decide) ?_
    exact W.iret hx hb hr (fun t ht hW => ⟨⟨_, ((L, P, G, V, R, N, Y, S, wd, (nI T + 1), ft, fl, ce, (nI h), mo), (vp_updL fo 0 ((nI T + 1 - 1).toInt64))), rfl, ⟨hk.symm, fun _ => rfl, fun h9 => absurd hk h9⟩, by rw [ht]; exact hP, va_K.moved hW.alike hK, hD⟩, hS.F ht⟩) hS.2.2 dL_turbine_15
set_option maxHeartbeats 4000000 in
set_option maxRecDepth 100000 in
theorem c_L_gate (l : Launch) (hl0 : l.stackTraces = false) (dG : va_G) (a A : Nat → Nat) (o : Nat) (cA cL : ClassId) (Hp : Heap) (L P G V R N Y S : Nat → Int32) (T h : Nat) (wd ft fl ce : Int32) (mo : UInt32) (fo : Nat → Int64) (p0 : Int32) (p1 : Int32) (hT : T ≤ 4) (hh : h ≤ 500) : Met l yL_gate wsL_gate ({ frames := 8, cells := 1, slots := 6, locals := 170 }) (va_Pc [.ref (A 0), .int p0, .int p1, .ref o] (fun U => wPre dG (tyL cA cL) (xW A cA L P G V R N Y S wd (nI T) ft fl ce (nI h) mo ++ [(o, .inl (cL, 1, .inr (.inl fo)))]) Hp U ∧ tgE a (va_A (xW A cA L P G V R N Y S wd (nI T) ft fl ce (nI h) mo ++ [(o, .inl (cL, 1, .inr (.inl fo)))]) Hp.size) U Hp)) (va_Qi (fun (r : Int32) (u : XS × (Nat → Int64)) => r = kGate (nI T) p0 p1 ∧ (kGate (nI T) p0 p1 = 0 → u = ((L, P, (upd G p0.toNatClampNeg p1), V, R, N, Y, S, wd, (nI T), ft, fl, ce, (nI h), mo), vp_updL fo 0 ((G p0.toNatClampNeg).toInt64))) ∧ (¬ kGate (nI T) p0 p1 = 0 → u = ((L, P, G, V, R, N, Y, S, wd, (nI T), ft, fl, ce, (nI h), mo), fo))) (fun u t => wAt dG (tyL cA cL) (va_A (xW A cA L P G V R N Y S wd (nI T) ft fl ce (nI h) mo ++ [(o, .inl (cL, 1, .inr (.inl fo)))]) Hp.size) (xU A cA u.1 ++ [(o, .inl (cL, 1, .inr (.inl u.2)))]) t) (va_A (xW A cA L P G V R N Y S wd (nI T) ft fl ce (nI h) mo ++ [(o, .inl (cL, 1, .inr (.inl fo)))]) Hp.size)) 1 6 (va_A (xW A cA L P G V R N Y S wd (nI T) ft fl ce (nI h) mo ++ [(o, .inl (cL, 1, .inr (.inl fo)))]) Hp.size) := by
  refine Met.ofWH (cc := cL_gate) (maxL := 5) (ret := some .int) (by decide) rfl ?_
  intro p e s m args below meth c s₁ Bd hml hv
  obtain ⟨rfl, ⟨hH, hP, hK, hD0⟩, hE⟩ := hv
  subst hH
  have hx := Bd.exec
  have hb := Bd.bytes
  have hr := Bd.returns
  have hts := atoms_spec (ws := wsL_gate) Bd.pre
  have hown : s.vm.findClass RL = some m.cls := findClass_of_methodNamed Bd.named
  have hlocks := Bd.notSynchronized
  have htab := vx_table (x := yL_gate) Bd (hts _ List.mem_cons_self)
  have hD := hD0.self (sz := s.heap.size)
  generalize hAe : va_A (xW A cA L P G V R N Y S wd (nI T) ft fl ce (nI h) mo ++ [(o, .inl (cL, 1, .inr (.inl fo)))]) s.heap.size = F at hD hE ⊢
  have hA : ∀ q : Nat, s.heap.size ≤ q → F q := fun q h => by rw [← hAe]; exact Or.inr h
  have hS : va_S F s.heap s.heap [] := va_S.rf
  have hP : va_P dG vwCl (xW A cA L P G V R N Y S wd (nI T) ft fl ce (nI h) mo ++ [(o, .inl (cL, 1, .inr (.inl fo)))]) s.heap := hP
  have hl := lv_entry ([.ref (A 0), .int p0, .int p1, .ref o]) (n := 5) (Nat.le_of_ble_eq_true rfl)
  rw [lg_entry_eq]
  generalize (lg_sl ([.ref (A 0), .int p0, .int p1, .ref o]) ++ List.replicate (5 - (lg_sl ([.ref (A 0), .int p0, .int p1, .ref o])).length) Slot.unset).toArray = ls at hl ⊢
  have hl : lv_has ls 5 [(0, .ref (A 0)), (1, .int p0), (2, .int p1), (3, .ref o)] := hl
  refine lv_aload_n hx hb dL_gate_0 rfl (lv_at hl 3 rfl) ?_
  refine lv_iconst (v := 0) hx hb dL_gate_1 (by decide) ?_
  refine lv_aload_n hx hb dL_gate_2 rfl (lv_at hl 0 rfl) ?_
  refine lv_iload_n hx hb dL_gate_3 rfl (lv_at hl 1 rfl) ?_
  refine lv_iload_n hx hb dL_gate_4 rfl (lv_at hl 2 rfl) ?_
  have hPc := hP.sub (ws' := (xW A cA L P G V R N Y S wd (nI T) ft fl ce (nI h) mo)) [0, 1, 2, 3, 4, 5, 6, 7, 8] rfl
  have hDc := hD.sub (ws' := (xW A cA L P G V R N Y S wd (nI T) ft fl ce (nI h) mo)) [0, 1, 2, 3, 4, 5, 6, 7, 8] (by decide) rfl
  have hKc := hK.sub (tys' := tyI cA) [0] rfl
  have hFc := va_free (wc := (xW A cA L P G V R N Y S wd (nI T) ft fl ce (nI h) mo)) hD hS hA [0, 1, 2, 3, 4, 5, 6, 7, 8] rfl
  refine vx_calli (vx_runV (As := [.int p0, .int p1]) (rest := [.int 0, .ref o]) ⟨hx, hb, hml, hown, hts⟩ (c_X0_gate l hl0 dG a A cA s.heap L P G V R N Y S wd (nI T) ft fl ce (nI h) mo p0 p1 (nIr (b := 4) hT (by omega))) (cwV 2 hts gL_gate_X0_gate rfl rfl rfl (by decide +kernel) ⟨Nat.le_of_ble_eq_true rfl, Nat.le_of_ble_eq_true rfl⟩) ⟨fun a9 U g mk q => ⟨q.1, wPre_calling g mk a9 q.2.1, q.2.2.calling g mk a9⟩, va_recv hKc hPc (ci := 0) (q0 := 0) rfl rfl, fun U hU hW => ⟨rfl, wPre_of hKc hPc hDc hU hW, hE.go hW hS hFc⟩⟩ rfl rfl hl.1 rfl (lv_room (Nat.le_of_ble_eq_true rfl)) dL_gate_5 ⟨Nat.le_of_ble_eq_true rfl, Nat.le_of_ble_eq_true rfl⟩) hS (fun q _ h => hFc q h) hFc (fun q _ h => h.elim) (fun E c9 q9 u t H locs ht hvm hp hB hz1 hk1 hS hce hcv hcl => ?_) (fun r u t H locs ht hvm hw hB hz1 hk1 hS => ?_)
  · subst hB
    have hP : va_P dG vwCl (xW A cA L P G V R N Y S wd (nI T) ft fl ce (nI h) mo ++ [(o, .inl (cL, 1, .inr (.inl fo)))]) H := hP.kept (fun k x hx => hk1 x.1 (hP k x hx).lt (fun h => h))
    rcases hp with ⟨rfl, hk⟩ | ⟨rfl, hk⟩
    · refine vx_catch hown [] ⟨0, 10, 13, 13⟩ [⟨0, 10, 17, 15⟩] (htab.trans rfl) (fun z hz => absurd hz List.not_mem_nil) (by decide) (by decide) (hts (.classLink RL 13 eI) (by decide +kernel)) (va_Nw.use rfl hE.1.2.1.1) hce hcv hcl ?_
      refine lv_astore (lv' := [(4, .ref q9), (0, .ref (A 0)), (1, .int p0), (2, .int p1), (3, .ref o)]) hx hb dL_gate_13 hl (by decide) rfl (fun ls hl => ?_)
      refine lv_iconst (v := 1) hx hb dL_gate_15 (by decide) ?_
      exact W.iret hx hb hr (fun t ht hW => ⟨⟨_, ((L, P, G, V, R, N, Y, S, wd, (nI T), ft, fl, ce, (nI h), mo), fo), rfl, ⟨hk.symm, fun h9 => absurd (h9.symm.trans hk) (by decide), fun _ => rfl⟩, by rw [ht]; exact hP, va_K.moved hW.alike hK, hD⟩, hS.F ht⟩) hS.2.2 dL_gate_16
    · refine vx_catch hown [⟨0, 10, 13, 13⟩] ⟨0, 10, 17, 15⟩ [] (htab.trans rfl) (fun z hz => by rw [List.mem_singleton.mp hz]; exact Or.inr ⟨by decide, eI, hts (.classLink RL 13 eI) (by decide +kernel), hE.1.2.2.1.1⟩) (by decide) (by decide) (hts (.classLink RL 15 eA) (by decide +kernel)) (va_Nw.use rfl hE.1.2.1.2.1) hce hcv hcl ?_
      refine lv_astore (lv' := [(4, .ref q9), (0, .ref (A 0)), (1, .int p0), (2, .int p1), (3, .ref o)]) hx hb dL_gate_17 hl (by decide) rfl (fun ls hl => ?_)
      refine lv_iconst (v := 2) hx hb dL_gate_19 (by decide) ?_
      exact W.iret hx hb hr (fun t ht hW => ⟨⟨_, ((L, P, G, V, R, N, Y, S, wd, (nI T), ft, fl, ce, (nI h), mo), fo), rfl, ⟨hk.symm, fun h9 => absurd (h9.symm.trans hk) (by decide), fun _ => rfl⟩, by rw [ht]; exact hP, va_K.moved hW.alike hK, hD⟩, hS.F ht⟩) hS.2.2 dL_gate_20
  · obtain ⟨hk, hw1, hw2⟩ := hw
    have hw1 := hw1.symm
    subst hw1
    subst hw2
    obtain ⟨hP1, hK1, hD1⟩ := hB
    rw [ht] at hP1
    obtain ⟨hP, hD⟩ := va_join (wr := [(o, .inl (cL, 1, .inr (.inl fo)))]) (w1 := (xW A cA L P (upd G p0.toNatClampNeg p1) V R N Y S wd (nI T) ft fl ce (nI h) mo)) hP hD [0, 1, 2, 3, 4, 5, 6, 7, 8] [9] rfl rfl (by decide) (by decide) hk1 hFc hP1 hD1
    have hP : va_P dG vwCl (xW A cA L P (upd G p0.toNatClampNeg p1) V R N Y S wd (nI T) ft fl ce (nI h) mo ++ [(o, .inl (cL, 1, .inr (.inl fo)))]) H := hP.sub [1, 2, 3, 4, 5, 6, 7, 8, 9, 0] rfl
    have hD : va_D F (xW A cA L P (upd G p0.toNatClampNeg p1) V R N Y S wd (nI T) ft fl ce (nI h) mo ++ [(o, .inl (cL, 1, .inr (.inl fo)))]) := hD.sub [1, 2, 3, 4, 5, 6, 7, 8, 9, 0] (by decide) rfl
    refine lv_i2l hx hb dL_gate_8 rfl ?_
    refine va_last hx hb hK hP hD hS 9 1 rfl rfl (i := 0) (vp_in_nI (n := 0) (by omega) (by omega)) dL_gate_9 (fun H locs hP hD hS => ?_)
    have hP : va_P dG vwCl (xW A cA L P (upd G p0.toNatClampNeg p1) V R N Y S wd (nI T) ft fl ce (nI h) mo ++ [(o, .inl (cL, 1, .inr (.inl (vp_updL fo 0 ((G p0.toNatClampNeg).toInt64)))))]) H := hP
    have hD : va_D F (xW A cA L P (upd G p0.toNatClampNeg p1) V R N Y S wd (nI T) ft fl ce (nI h) mo ++ [(o, .inl (cL, 1, .inr (.inl (vp_updL fo 0 ((G p0.toNatClampNeg).toInt64)))))]) := hD
    refine lv_goto (tgt := 21) hx hb dL_gate_10 (by decide) ?_
    refine lv_iconst (v := 0) hx hb dL_gate_21 (by decide) ?_
    exact W.iret hx hb hr (fun t ht hW => ⟨⟨_, ((L, P, (upd G p0.toNatClampNeg p1), V, R, N, Y, S, wd, (nI T), ft, fl, ce, (nI h), mo), (vp_updL fo 0 ((G p0.toNatClampNeg).toInt64))), rfl, ⟨hk.symm, fun _ => rfl, fun h9 => absurd hk h9⟩, by rw [ht]; exact hP, va_K.moved hW.alike hK, hD⟩, hS.F ht⟩) hS.2.2 dL_gate_22
set_option maxHeartbeats 4000000 in
set_option maxRecDepth 100000 in
theorem c_L_repair (l : Launch) (hl0 : l.stackTraces = false) (dG : va_G) (a A : Nat → Nat) (o : Nat) (cA cL : ClassId) (Hp : Heap) (L P G V R N Y S : Nat → Int32) (T h : Nat) (wd ft fl ce : Int32) (mo : UInt32) (fo : Nat → Int64) (p0 : Int32) (hT : T ≤ 4) (hh : h ≤ 500) : Met l yL_repair wsL_repair ({ frames := 8, cells := 1, slots := 6, locals := 170 }) (va_Pc [.ref (A 0), .int p0, .ref o] (fun U => wPre dG (tyL cA cL) (xW A cA L P G V R N Y S wd (nI T) ft fl ce (nI h) mo ++ [(o, .inl (cL, 1, .inr (.inl fo)))]) Hp U ∧ tgE a (va_A (xW A cA L P G V R N Y S wd (nI T) ft fl ce (nI h) mo ++ [(o, .inl (cL, 1, .inr (.inl fo)))]) Hp.size) U Hp)) (va_Qi (fun (r : Int32) (u : XS × (Nat → Int64)) => r = kRep (nI T) p0 ∧ (kRep (nI T) p0 = 0 → u = ((L, P, G, (upd V p0.toNatClampNeg 0), (upd R p0.toNatClampNeg (nI h + 5)), N, Y, S, wd, (nI T), ft, fl, ce, (nI h), mo), vp_updL fo 0 ((V p0.toNatClampNeg).toInt64))) ∧ (¬ kRep (nI T) p0 = 0 → u = ((L, P, G, V, R, N, Y, S, wd, (nI T), ft, fl, ce, (nI h), mo), fo))) (fun u t => wAt dG (tyL cA cL) (va_A (xW A cA L P G V R N Y S wd (nI T) ft fl ce (nI h) mo ++ [(o, .inl (cL, 1, .inr (.inl fo)))]) Hp.size) (xU A cA u.1 ++ [(o, .inl (cL, 1, .inr (.inl u.2)))]) t) (va_A (xW A cA L P G V R N Y S wd (nI T) ft fl ce (nI h) mo ++ [(o, .inl (cL, 1, .inr (.inl fo)))]) Hp.size)) 1 6 (va_A (xW A cA L P G V R N Y S wd (nI T) ft fl ce (nI h) mo ++ [(o, .inl (cL, 1, .inr (.inl fo)))]) Hp.size) := by
  refine Met.ofWH (cc := cL_repair) (maxL := 4) (ret := some .int) (by decide) rfl ?_
  intro p e s m args below meth c s₁ Bd hml hv
  obtain ⟨rfl, ⟨hH, hP, hK, hD0⟩, hE⟩ := hv
  subst hH
  have hx := Bd.exec
  have hb := Bd.bytes
  have hr := Bd.returns
  have hts := atoms_spec (ws := wsL_repair) Bd.pre
  have hown : s.vm.findClass RL = some m.cls := findClass_of_methodNamed Bd.named
  have hlocks := Bd.notSynchronized
  have htab := vx_table (x := yL_repair) Bd (hts _ List.mem_cons_self)
  have hD := hD0.self (sz := s.heap.size)
  generalize hAe : va_A (xW A cA L P G V R N Y S wd (nI T) ft fl ce (nI h) mo ++ [(o, .inl (cL, 1, .inr (.inl fo)))]) s.heap.size = F at hD hE ⊢
  have hA : ∀ q : Nat, s.heap.size ≤ q → F q := fun q h => by rw [← hAe]; exact Or.inr h
  have hS : va_S F s.heap s.heap [] := va_S.rf
  have hP : va_P dG vwCl (xW A cA L P G V R N Y S wd (nI T) ft fl ce (nI h) mo ++ [(o, .inl (cL, 1, .inr (.inl fo)))]) s.heap := hP
  have hl := lv_entry ([.ref (A 0), .int p0, .ref o]) (n := 4) (Nat.le_of_ble_eq_true rfl)
  rw [lg_entry_eq]
  generalize (lg_sl ([.ref (A 0), .int p0, .ref o]) ++ List.replicate (4 - (lg_sl ([.ref (A 0), .int p0, .ref o])).length) Slot.unset).toArray = ls at hl ⊢
  have hl : lv_has ls 4 [(0, .ref (A 0)), (1, .int p0), (2, .ref o)] := hl
  refine lv_aload_n hx hb dL_repair_0 rfl (lv_at hl 2 rfl) ?_
  refine lv_iconst (v := 0) hx hb dL_repair_1 (by decide) ?_
  refine lv_aload_n hx hb dL_repair_2 rfl (lv_at hl 0 rfl) ?_
  refine lv_iload_n hx hb dL_repair_3 rfl (lv_at hl 1 rfl) ?_
  have hPc := hP.sub (ws' := (xW A cA L P G V R N Y S wd (nI T) ft fl ce (nI h) mo)) [0, 1, 2, 3, 4, 5, 6, 7, 8] rfl
  have hDc := hD.sub (ws' := (xW A cA L P G V R N Y S wd (nI T) ft fl ce (nI h) mo)) [0, 1, 2, 3, 4, 5, 6, 7, 8] (by decide) rfl
  have hKc := hK.sub (tys' := tyI cA) [0] rfl
  have hFc := va_free (wc := (xW A cA L P G V R N Y S wd (nI T) ft fl ce (nI h) mo)) hD hS hA [0, 1, 2, 3, 4, 5, 6, 7, 8] rfl
  refine vx_calli (vx_runV (As := [.int p0]) (rest := [.int 0, .ref o]) ⟨hx, hb, hml, hown, hts⟩ (c_X0_repair l hl0 dG a A cA s.heap L P G V R N Y S wd (nI T) ft fl ce (nI h) mo p0 (nIr (b := 4) hT (by omega))) (cwV 1 hts gL_repair_X0_repair rfl rfl rfl (by decide +kernel) ⟨Nat.le_of_ble_eq_true rfl, Nat.le_of_ble_eq_true rfl⟩) ⟨fun a9 U g mk q => ⟨q.1, wPre_calling g mk a9 q.2.1, q.2.2.calling g mk a9⟩, va_recv hKc hPc (ci := 0) (q0 := 0) rfl rfl, fun U hU hW => ⟨rfl, wPre_of hKc hPc hDc hU hW, hE.go hW hS hFc⟩⟩ rfl rfl hl.1 rfl (lv_room (Nat.le_of_ble_eq_true rfl)) dL_repair_4 ⟨Nat.le_of_ble_eq_true rfl, Nat.le_of_ble_eq_true rfl⟩) hS (fun q _ h => hFc q h) hFc (fun q _ h => h.elim) (fun E c9 q9 u t H locs ht hvm hp hB hz1 hk1 hS hce hcv hcl => ?_) (fun r u t H locs ht hvm hw hB hz1 hk1 hS => ?_)
  · subst hB
    have hP : va_P dG vwCl (xW A cA L P G V R N Y S wd (nI T) ft fl ce (nI h) mo ++ [(o, .inl (cL, 1, .inr (.inl fo)))]) H := hP.kept (fun k x hx => hk1 x.1 (hP k x hx).lt (fun h => h))
    obtain ⟨rfl, hk⟩ := hp
    refine vx_catch hown [] ⟨0, 9, 12, 13⟩ [] (htab.trans rfl) (fun z hz => absurd hz List.not_mem_nil) (by decide) (by decide) (hts (.classLink RL 13 eI) (by decide +kernel)) (va_Nw.use rfl hE.1.2.1.1) hce hcv hcl ?_
    refine lv_astore_n (lv' := [(3, .ref q9), (0, .ref (A 0)), (1, .int p0), (2, .ref o)]) hx hb dL_repair_12 rfl hl (by decide) rfl (fun ls hl => ?_)
    refine lv_iconst (v := 1) hx hb dL_repair_13 (by decide) ?_
    exact W.iret hx hb hr (fun t ht hW => ⟨⟨_, ((L, P, G, V, R, N, Y, S, wd, (nI T), ft, fl, ce, (nI h), mo), fo), rfl, ⟨hk.symm, fun h9 => absurd (h9.symm.trans hk) (by decide), fun _ => rfl⟩, by rw [ht]; exact hP, va_K.moved hW.alike hK, hD⟩, hS.F ht⟩) hS.2.2 dL_repair_14
  · obtain ⟨hk, hw1, hw2⟩ := hw
    have hw1 := hw1.symm
    subst hw1
    subst hw2
    obtain ⟨hP1, hK1, hD1⟩ := hB
    rw [ht] at hP1
    obtain ⟨hP, hD⟩ := va_join (wr := [(o, .inl (cL, 1, .inr (.inl fo)))]) (w1 := (xW A cA L P G (upd V p0.toNatClampNeg 0) (upd R p0.toNatClampNeg (nI h + 5)) N Y S wd (nI T) ft fl ce (nI h) mo)) hP hD [0, 1, 2, 3, 4, 5, 6, 7, 8] [9] rfl rfl (by decide) (by decide) hk1 hFc hP1 hD1
    have hP : va_P dG vwCl (xW A cA L P G (upd V p0.toNatClampNeg 0) (upd R p0.toNatClampNeg (nI h + 5)) N Y S wd (nI T) ft fl ce (nI h) mo ++ [(o, .inl (cL, 1, .inr (.inl fo)))]) H := hP.sub [1, 2, 3, 4, 5, 6, 7, 8, 9, 0] rfl
    have hD : va_D F (xW A cA L P G (upd V p0.toNatClampNeg 0) (upd R p0.toNatClampNeg (nI h + 5)) N Y S wd (nI T) ft fl ce (nI h) mo ++ [(o, .inl (cL, 1, .inr (.inl fo)))]) := hD.sub [1, 2, 3, 4, 5, 6, 7, 8, 9, 0] (by decide) rfl
    refine lv_i2l hx hb dL_repair_7 rfl ?_
    refine va_last hx hb hK hP hD hS 9 1 rfl rfl (i := 0) (vp_in_nI (n := 0) (by omega) (by omega)) dL_repair_8 (fun H locs hP hD hS => ?_)
    have hP : va_P dG vwCl (xW A cA L P G (upd V p0.toNatClampNeg 0) (upd R p0.toNatClampNeg (nI h + 5)) N Y S wd (nI T) ft fl ce (nI h) mo ++ [(o, .inl (cL, 1, .inr (.inl (vp_updL fo 0 ((V p0.toNatClampNeg).toInt64)))))]) H := hP
    have hD : va_D F (xW A cA L P G (upd V p0.toNatClampNeg 0) (upd R p0.toNatClampNeg (nI h + 5)) N Y S wd (nI T) ft fl ce (nI h) mo ++ [(o, .inl (cL, 1, .inr (.inl (vp_updL fo 0 ((V p0.toNatClampNeg).toInt64)))))]) := hD
    refine lv_goto (tgt := 15) hx hb dL_repair_9 (by decide) ?_
    refine lv_iconst (v := 0) hx hb dL_repair_15 (by decide) ?_
    exact W.iret hx hb hr (fun t ht hW => ⟨⟨_, ((L, P, G, (upd V p0.toNatClampNeg 0), (upd R p0.toNatClampNeg (nI h + 5)), N, Y, S, wd, (nI T), ft, fl, ce, (nI h), mo), (vp_updL fo 0 ((V p0.toNatClampNeg).toInt64))), rfl, ⟨hk.symm, fun _ => rfl, fun h9 => absurd hk h9⟩, by rw [ht]; exact hP, va_K.moved hW.alike hK, hD⟩, hS.F ht⟩) hS.2.2 dL_repair_16
set_option maxHeartbeats 4000000 in
set_option maxRecDepth 100000 in
theorem c_L_run (l : Launch) (hl0 : l.stackTraces = false) (dG : va_G) (a A : Nat → Nat) (o : Nat) (cA cL : ClassId) (Hp : Heap) (L P G V R N Y S : Nat → Int32) (T h : Nat) (wd ft fl ce : Int32) (mo : UInt32) (fo : Nat → Int64) (p0 : Int32) (hT : T ≤ 4) (hh : h ≤ 500) : Met l yL_run wsL_run ({ frames := 8, cells := 1, slots := 6, locals := 170 }) (va_Pc [.ref (A 0), .int p0, .ref o] (fun U => wPre dG (tyL cA cL) (xW A cA L P G V R N Y S wd (nI T) ft fl ce (nI h) mo ++ [(o, .inl (cL, 1, .inr (.inl fo)))]) Hp U ∧ tgE a (va_A (xW A cA L P G V R N Y S wd (nI T) ft fl ce (nI h) mo ++ [(o, .inl (cL, 1, .inr (.inl fo)))]) Hp.size) U Hp)) (va_Qi (fun (r : Int32) (u : XS × (Nat → Int64)) => r = kFish p0 ∧ (kFish p0 = 0 → u = ((L, P, G, V, R, N, Y, S, wd, (nI T), p0, fl, ce, (nI h), mo), vp_updL fo 0 (if p0 ≤ fl then 0 else 1))) ∧ (¬ kFish p0 = 0 → u = ((L, P, G, V, R, N, Y, S, wd, (nI T), ft, fl, ce, (nI h), mo), fo))) (fun u t => wAt dG (tyL cA cL) (va_A (xW A cA L P G V R N Y S wd (nI T) ft fl ce (nI h) mo ++ [(o, .inl (cL, 1, .inr (.inl fo)))]) Hp.size) (xU A cA u.1 ++ [(o, .inl (cL, 1, .inr (.inl u.2)))]) t) (va_A (xW A cA L P G V R N Y S wd (nI T) ft fl ce (nI h) mo ++ [(o, .inl (cL, 1, .inr (.inl fo)))]) Hp.size)) 1 6 (va_A (xW A cA L P G V R N Y S wd (nI T) ft fl ce (nI h) mo ++ [(o, .inl (cL, 1, .inr (.inl fo)))]) Hp.size) := by
  refine Met.ofWH (cc := cL_run) (maxL := 4) (ret := some .int) (by decide) rfl ?_
  intro p e s m args below meth c s₁ Bd hml hv
  obtain ⟨rfl, ⟨hH, hP, hK, hD0⟩, hE⟩ := hv
  subst hH
  have hx := Bd.exec
  have hb := Bd.bytes
  have hr := Bd.returns
  have hts := atoms_spec (ws := wsL_run) Bd.pre
  have hown : s.vm.findClass RL = some m.cls := findClass_of_methodNamed Bd.named
  have hlocks := Bd.notSynchronized
  have htab := vx_table (x := yL_run) Bd (hts _ List.mem_cons_self)
  have hD := hD0.self (sz := s.heap.size)
  generalize hAe : va_A (xW A cA L P G V R N Y S wd (nI T) ft fl ce (nI h) mo ++ [(o, .inl (cL, 1, .inr (.inl fo)))]) s.heap.size = F at hD hE ⊢
  have hA : ∀ q : Nat, s.heap.size ≤ q → F q := fun q h => by rw [← hAe]; exact Or.inr h
  have hS : va_S F s.heap s.heap [] := va_S.rf
  have hP : va_P dG vwCl (xW A cA L P G V R N Y S wd (nI T) ft fl ce (nI h) mo ++ [(o, .inl (cL, 1, .inr (.inl fo)))]) s.heap := hP
  have hl := lv_entry ([.ref (A 0), .int p0, .ref o]) (n := 4) (Nat.le_of_ble_eq_true rfl)
  rw [lg_entry_eq]
  generalize (lg_sl ([.ref (A 0), .int p0, .ref o]) ++ List.replicate (4 - (lg_sl ([.ref (A 0), .int p0, .ref o])).length) Slot.unset).toArray = ls at hl ⊢
  have hl : lv_has ls 4 [(0, .ref (A 0)), (1, .int p0), (2, .ref o)] := hl
  refine lv_aload_n hx hb dL_run_0 rfl (lv_at hl 2 rfl) ?_
  refine lv_iconst (v := 0) hx hb dL_run_1 (by decide) ?_
  refine lv_aload_n hx hb dL_run_2 rfl (lv_at hl 0 rfl) ?_
  refine lv_iload_n hx hb dL_run_3 rfl (lv_at hl 1 rfl) ?_
  have hPc := hP.sub (ws' := (xW A cA L P G V R N Y S wd (nI T) ft fl ce (nI h) mo)) [0, 1, 2, 3, 4, 5, 6, 7, 8] rfl
  have hDc := hD.sub (ws' := (xW A cA L P G V R N Y S wd (nI T) ft fl ce (nI h) mo)) [0, 1, 2, 3, 4, 5, 6, 7, 8] (by decide) rfl
  have hKc := hK.sub (tys' := tyI cA) [0] rfl
  have hFc := va_free (wc := (xW A cA L P G V R N Y S wd (nI T) ft fl ce (nI h) mo)) hD hS hA [0, 1, 2, 3, 4, 5, 6, 7, 8] rfl
  refine vx_calli (vx_runV (As := [.int p0]) (rest := [.int 0, .ref o]) ⟨hx, hb, hml, hown, hts⟩ (c_X0_run l hl0 dG a A cA s.heap L P G V R N Y S wd (nI T) ft fl ce (nI h) mo p0 ) (cwV 1 hts gL_run_X0_run rfl rfl rfl (by decide +kernel) ⟨Nat.le_of_ble_eq_true rfl, Nat.le_of_ble_eq_true rfl⟩) ⟨fun a9 U g mk q => ⟨q.1, wPre_calling g mk a9 q.2.1, q.2.2.calling g mk a9⟩, va_recv hKc hPc (ci := 0) (q0 := 0) rfl rfl, fun U hU hW => ⟨rfl, wPre_of hKc hPc hDc hU hW, hE.go hW hS hFc⟩⟩ rfl rfl hl.1 rfl (lv_room (Nat.le_of_ble_eq_true rfl)) dL_run_4 ⟨Nat.le_of_ble_eq_true rfl, Nat.le_of_ble_eq_true rfl⟩) hS (fun q _ h => hFc q h) hFc (fun q _ h => h.elim) (fun E c9 q9 u t H locs ht hvm hp hB hz1 hk1 hS hce hcv hcl => ?_) (fun r u t H locs ht hvm hw hB hz1 hk1 hS => ?_)
  · subst hB
    have hP : va_P dG vwCl (xW A cA L P G V R N Y S wd (nI T) ft fl ce (nI h) mo ++ [(o, .inl (cL, 1, .inr (.inl fo)))]) H := hP.kept (fun k x hx => hk1 x.1 (hP k x hx).lt (fun h => h))
    obtain ⟨rfl, hk⟩ := hp
    refine vx_catch hown [] ⟨0, 16, 19, 15⟩ [] (htab.trans rfl) (fun z hz => absurd hz List.not_mem_nil) (by decide) (by decide) (hts (.classLink RL 15 eA) (by decide +kernel)) (va_Nw.use rfl hE.1.2.1.2.1) hce hcv hcl ?_
    refine lv_astore_n (lv' := [(3, .ref q9), (0, .ref (A 0)), (1, .int p0), (2, .ref o)]) hx hb dL_run_19 rfl hl (by decide) rfl (fun ls hl => ?_)
    refine lv_iconst (v := 1) hx hb dL_run_20 (by decide) ?_
    exact W.iret hx hb hr (fun t ht hW => ⟨⟨_, ((L, P, G, V, R, N, Y, S, wd, (nI T), ft, fl, ce, (nI h), mo), fo), rfl, ⟨hk.symm, fun h9 => absurd (h9.symm.trans hk) (by decide), fun _ => rfl⟩, by rw [ht]; exact hP, va_K.moved hW.alike hK, hD⟩, hS.F ht⟩) hS.2.2 dL_run_21
  · obtain ⟨hk, hw1, hw2⟩ := hw
    have hw1 := hw1.symm
    subst hw1
    subst hw2
    obtain ⟨hP1, hK1, hD1⟩ := hB
    rw [ht] at hP1
    obtain ⟨hP, hD⟩ := va_join (wr := [(o, .inl (cL, 1, .inr (.inl fo)))]) (w1 := (xW A cA L P G V R N Y S wd (nI T) p0 fl ce (nI h) mo)) hP hD [0, 1, 2, 3, 4, 5, 6, 7, 8] [9] rfl rfl (by decide) (by decide) hk1 hFc hP1 hD1
    have hP : va_P dG vwCl (xW A cA L P G V R N Y S wd (nI T) p0 fl ce (nI h) mo ++ [(o, .inl (cL, 1, .inr (.inl fo)))]) H := hP.sub [1, 2, 3, 4, 5, 6, 7, 8, 9, 0] rfl
    have hD : va_D F (xW A cA L P G V R N Y S wd (nI T) p0 fl ce (nI h) mo ++ [(o, .inl (cL, 1, .inr (.inl fo)))]) := hD.sub [1, 2, 3, 4, 5, 6, 7, 8, 9, 0] (by decide) rfl
    by_cases gf : p0 ≤ fl
    · refine lv_topi (fun v9 e9 => ?_)
      rw [if_pos gf] at e9
      subst e9
      refine lv_if_eq (tgt := 14) hx hb dL_run_7 (by decide) (fun _ => ?_) (fun h9 => absurd (by decide) h9)
      refine lv_lconst (v := 0) hx hb dL_run_14 (by decide) ?_
      refine va_last hx hb hK hP hD hS 9 1 rfl rfl (i := 0) (vp_in_nI (n := 0) (by omega) (by omega)) dL_run_15 (fun H locs hP hD hS => ?_)
      have hP : va_P dG vwCl (xW A cA L P G V R N Y S wd (nI T) p0 fl ce (nI h) mo ++ [(o, .inl (cL, 1, .inr (.inl (vp_updL fo 0 0))))]) H := hP
      have hD : va_D F (xW A cA L P G V R N Y S wd (nI T) p0 fl ce (nI h) mo ++ [(o, .inl (cL, 1, .inr (.inl (vp_updL fo 0 0))))]) := hD
      refine lv_goto (tgt := 22) hx hb dL_run_16 (by decide) ?_
      refine lv_iconst (v := 0) hx hb dL_run_22 (by decide) ?_
      exact W.iret hx hb hr (fun t ht hW => ⟨⟨_, ((L, P, G, V, R, N, Y, S, wd, (nI T), p0, fl, ce, (nI h), mo), (vp_updL fo 0 0)), rfl, ⟨hk.symm, fun _ => (by rw [if_pos gf]), fun h9 => absurd hk h9⟩, by rw [ht]; exact hP, va_K.moved hW.alike hK, hD⟩, hS.F ht⟩) hS.2.2 dL_run_23
    · refine lv_topi (fun v9 e9 => ?_)
      rw [if_neg gf] at e9
      subst e9
      refine lv_if_eq (tgt := 14) hx hb dL_run_7 (by decide) (fun h9 => absurd h9 (by decide)) (fun _ => ?_)
      refine lv_lconst (v := 1) hx hb dL_run_10 (by decide) ?_
      refine lv_goto (tgt := 15) hx hb dL_run_11 (by decide) ?_
      refine va_last hx hb hK hP hD hS 9 1 rfl rfl (i := 0) (vp_in_nI (n := 0) (by omega) (by omega)) dL_run_15 (fun H locs hP hD hS => ?_)
      have hP : va_P dG vwCl (xW A cA L P G V R N Y S wd (nI T) p0 fl ce (nI h) mo ++ [(o, .inl (cL, 1, .inr (.inl (vp_updL fo 0 1))))]) H := hP
      have hD : va_D F (xW A cA L P G V R N Y S wd (nI T) p0 fl ce (nI h) mo ++ [(o, .inl (cL, 1, .inr (.inl (vp_updL fo 0 1))))]) := hD
      refine lv_goto (tgt := 22) hx hb dL_run_16 (by decide) ?_
      refine lv_iconst (v := 0) hx hb dL_run_22 (by decide) ?_
      exact W.iret hx hb hr (fun t ht hW => ⟨⟨_, ((L, P, G, V, R, N, Y, S, wd, (nI T), p0, fl, ce, (nI h), mo), (vp_updL fo 0 1)), rfl, ⟨hk.symm, fun _ => (by rw [if_neg gf]), fun h9 => absurd hk h9⟩, by rw [ht]; exact hP, va_K.moved hW.alike hK, hD⟩, hS.F ht⟩) hS.2.2 dL_run_23
set_option maxHeartbeats 4000000 in
set_option maxRecDepth 100000 in
theorem c_L_limit (l : Launch) (hl0 : l.stackTraces = false) (dG : va_G) (a A : Nat → Nat) (o : Nat) (cA cL : ClassId) (Hp : Heap) (L P G V R N Y S : Nat → Int32) (T h : Nat) (wd ft fl ce : Int32) (mo : UInt32) (fo : Nat → Int64) (p0 : Int32) (hT : T ≤ 4) (hh : h ≤ 500) : Met l yL_limit wsL_limit ({ frames := 8, cells := 1, slots := 6, locals := 170 }) (va_Pc [.ref (A 0), .int p0, .ref o] (fun U => wPre dG (tyL cA cL) (xW A cA L P G V R N Y S wd (nI T) ft fl ce (nI h) mo ++ [(o, .inl (cL, 1, .inr (.inl fo)))]) Hp U ∧ tgE a (va_A (xW A cA L P G V R N Y S wd (nI T) ft fl ce (nI h) mo ++ [(o, .inl (cL, 1, .inr (.inl fo)))]) Hp.size) U Hp)) (va_Qi (fun (r : Int32) (u : XS × (Nat → Int64)) => r = kFish p0 ∧ (kFish p0 = 0 → u = ((L, P, G, V, R, N, Y, S, wd, (nI T), ft, p0, ce, (nI h), mo), vp_updL fo 0 ((fl).toInt64))) ∧ (¬ kFish p0 = 0 → u = ((L, P, G, V, R, N, Y, S, wd, (nI T), ft, fl, ce, (nI h), mo), fo))) (fun u t => wAt dG (tyL cA cL) (va_A (xW A cA L P G V R N Y S wd (nI T) ft fl ce (nI h) mo ++ [(o, .inl (cL, 1, .inr (.inl fo)))]) Hp.size) (xU A cA u.1 ++ [(o, .inl (cL, 1, .inr (.inl u.2)))]) t) (va_A (xW A cA L P G V R N Y S wd (nI T) ft fl ce (nI h) mo ++ [(o, .inl (cL, 1, .inr (.inl fo)))]) Hp.size)) 1 6 (va_A (xW A cA L P G V R N Y S wd (nI T) ft fl ce (nI h) mo ++ [(o, .inl (cL, 1, .inr (.inl fo)))]) Hp.size) := by
  refine Met.ofWH (cc := cL_limit) (maxL := 4) (ret := some .int) (by decide) rfl ?_
  intro p e s m args below meth c s₁ Bd hml hv
  obtain ⟨rfl, ⟨hH, hP, hK, hD0⟩, hE⟩ := hv
  subst hH
  have hx := Bd.exec
  have hb := Bd.bytes
  have hr := Bd.returns
  have hts := atoms_spec (ws := wsL_limit) Bd.pre
  have hown : s.vm.findClass RL = some m.cls := findClass_of_methodNamed Bd.named
  have hlocks := Bd.notSynchronized
  have htab := vx_table (x := yL_limit) Bd (hts _ List.mem_cons_self)
  have hD := hD0.self (sz := s.heap.size)
  generalize hAe : va_A (xW A cA L P G V R N Y S wd (nI T) ft fl ce (nI h) mo ++ [(o, .inl (cL, 1, .inr (.inl fo)))]) s.heap.size = F at hD hE ⊢
  have hA : ∀ q : Nat, s.heap.size ≤ q → F q := fun q h => by rw [← hAe]; exact Or.inr h
  have hS : va_S F s.heap s.heap [] := va_S.rf
  have hP : va_P dG vwCl (xW A cA L P G V R N Y S wd (nI T) ft fl ce (nI h) mo ++ [(o, .inl (cL, 1, .inr (.inl fo)))]) s.heap := hP
  have hl := lv_entry ([.ref (A 0), .int p0, .ref o]) (n := 4) (Nat.le_of_ble_eq_true rfl)
  rw [lg_entry_eq]
  generalize (lg_sl ([.ref (A 0), .int p0, .ref o]) ++ List.replicate (4 - (lg_sl ([.ref (A 0), .int p0, .ref o])).length) Slot.unset).toArray = ls at hl ⊢
  have hl : lv_has ls 4 [(0, .ref (A 0)), (1, .int p0), (2, .ref o)] := hl
  refine lv_aload_n hx hb dL_limit_0 rfl (lv_at hl 2 rfl) ?_
  refine lv_iconst (v := 0) hx hb dL_limit_1 (by decide) ?_
  refine lv_aload_n hx hb dL_limit_2 rfl (lv_at hl 0 rfl) ?_
  refine lv_iload_n hx hb dL_limit_3 rfl (lv_at hl 1 rfl) ?_
  have hPc := hP.sub (ws' := (xW A cA L P G V R N Y S wd (nI T) ft fl ce (nI h) mo)) [0, 1, 2, 3, 4, 5, 6, 7, 8] rfl
  have hDc := hD.sub (ws' := (xW A cA L P G V R N Y S wd (nI T) ft fl ce (nI h) mo)) [0, 1, 2, 3, 4, 5, 6, 7, 8] (by decide) rfl
  have hKc := hK.sub (tys' := tyI cA) [0] rfl
  have hFc := va_free (wc := (xW A cA L P G V R N Y S wd (nI T) ft fl ce (nI h) mo)) hD hS hA [0, 1, 2, 3, 4, 5, 6, 7, 8] rfl
  refine vx_calli (vx_runV (As := [.int p0]) (rest := [.int 0, .ref o]) ⟨hx, hb, hml, hown, hts⟩ (c_X0_limit l hl0 dG a A cA s.heap L P G V R N Y S wd (nI T) ft fl ce (nI h) mo p0 ) (cwV 1 hts gL_limit_X0_limit rfl rfl rfl (by decide +kernel) ⟨Nat.le_of_ble_eq_true rfl, Nat.le_of_ble_eq_true rfl⟩) ⟨fun a9 U g mk q => ⟨q.1, wPre_calling g mk a9 q.2.1, q.2.2.calling g mk a9⟩, va_recv hKc hPc (ci := 0) (q0 := 0) rfl rfl, fun U hU hW => ⟨rfl, wPre_of hKc hPc hDc hU hW, hE.go hW hS hFc⟩⟩ rfl rfl hl.1 rfl (lv_room (Nat.le_of_ble_eq_true rfl)) dL_limit_4 ⟨Nat.le_of_ble_eq_true rfl, Nat.le_of_ble_eq_true rfl⟩) hS (fun q _ h => hFc q h) hFc (fun q _ h => h.elim) (fun E c9 q9 u t H locs ht hvm hp hB hz1 hk1 hS hce hcv hcl => ?_) (fun r u t H locs ht hvm hw hB hz1 hk1 hS => ?_)
  · subst hB
    have hP : va_P dG vwCl (xW A cA L P G V R N Y S wd (nI T) ft fl ce (nI h) mo ++ [(o, .inl (cL, 1, .inr (.inl fo)))]) H := hP.kept (fun k x hx => hk1 x.1 (hP k x hx).lt (fun h => h))
    obtain ⟨rfl, hk⟩ := hp
    refine vx_catch hown [] ⟨0, 9, 12, 15⟩ [] (htab.trans rfl) (fun z hz => absurd hz List.not_mem_nil) (by decide) (by decide) (hts (.classLink RL 15 eA) (by decide +kernel)) (va_Nw.use rfl hE.1.2.1.2.1) hce hcv hcl ?_
    refine lv_astore_n (lv' := [(3, .ref q9), (0, .ref (A 0)), (1, .int p0), (2, .ref o)]) hx hb dL_limit_12 rfl hl (by decide) rfl (fun ls hl => ?_)
    refine lv_iconst (v := 1) hx hb dL_limit_13 (by decide) ?_
    exact W.iret hx hb hr (fun t ht hW => ⟨⟨_, ((L, P, G, V, R, N, Y, S, wd, (nI T), ft, fl, ce, (nI h), mo), fo), rfl, ⟨hk.symm, fun h9 => absurd (h9.symm.trans hk) (by decide), fun _ => rfl⟩, by rw [ht]; exact hP, va_K.moved hW.alike hK, hD⟩, hS.F ht⟩) hS.2.2 dL_limit_14
  · obtain ⟨hk, hw1, hw2⟩ := hw
    have hw1 := hw1.symm
    subst hw1
    subst hw2
    obtain ⟨hP1, hK1, hD1⟩ := hB
    rw [ht] at hP1
    obtain ⟨hP, hD⟩ := va_join (wr := [(o, .inl (cL, 1, .inr (.inl fo)))]) (w1 := (xW A cA L P G V R N Y S wd (nI T) ft p0 ce (nI h) mo)) hP hD [0, 1, 2, 3, 4, 5, 6, 7, 8] [9] rfl rfl (by decide) (by decide) hk1 hFc hP1 hD1
    have hP : va_P dG vwCl (xW A cA L P G V R N Y S wd (nI T) ft p0 ce (nI h) mo ++ [(o, .inl (cL, 1, .inr (.inl fo)))]) H := hP.sub [1, 2, 3, 4, 5, 6, 7, 8, 9, 0] rfl
    have hD : va_D F (xW A cA L P G V R N Y S wd (nI T) ft p0 ce (nI h) mo ++ [(o, .inl (cL, 1, .inr (.inl fo)))]) := hD.sub [1, 2, 3, 4, 5, 6, 7, 8, 9, 0] (by decide) rfl
    refine lv_i2l hx hb dL_limit_7 rfl ?_
    refine va_last hx hb hK hP hD hS 9 1 rfl rfl (i := 0) (vp_in_nI (n := 0) (by omega) (by omega)) dL_limit_8 (fun H locs hP hD hS => ?_)
    have hP : va_P dG vwCl (xW A cA L P G V R N Y S wd (nI T) ft p0 ce (nI h) mo ++ [(o, .inl (cL, 1, .inr (.inl (vp_updL fo 0 (fl.toInt64)))))]) H := hP
    have hD : va_D F (xW A cA L P G V R N Y S wd (nI T) ft p0 ce (nI h) mo ++ [(o, .inl (cL, 1, .inr (.inl (vp_updL fo 0 (fl.toInt64)))))]) := hD
    refine lv_goto (tgt := 15) hx hb dL_limit_9 (by decide) ?_
    refine lv_iconst (v := 0) hx hb dL_limit_15 (by decide) ?_
    exact W.iret hx hb hr (fun t ht hW => ⟨⟨_, ((L, P, G, V, R, N, Y, S, wd, (nI T), ft, p0, ce, (nI h), mo), (vp_updL fo 0 (fl.toInt64))), rfl, ⟨hk.symm, fun _ => rfl, fun h9 => absurd hk h9⟩, by rw [ht]; exact hP, va_K.moved hW.alike hK, hD⟩, hS.F ht⟩) hS.2.2 dL_limit_16
