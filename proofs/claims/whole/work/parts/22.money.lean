theorem Met.ofWF {l : Launch} {y : MethodName} {ws ws' : List Cond} {rm : Room} {Pc : Array Value → State → Prop} {Qc : Array Value → State → Outcome → State → Prop} {mc ms : Nat} {free : Addr → Prop} {cc : ByteArray} {maxL : Nat} {ret : Option FieldType}
    (hy : plainFor y = true) (hw : ws = Cond.code y cc maxL ret :: ws')
    (body : ∀ p e s m args below meth c s₁, BodyLoose p l y (headSpec ws rm) cc maxL ret e s m args below meth c s₁ → c.maxLocals = maxL → Pc args s →
      W p l e (headSpec ws rm).room s m args below meth c s.heap [] 0 0 (MQ below Qc args s mc ms free) (entryFrame m args maxL)) : Met l y ws rm Pc Qc mc ms free := by
  refine MetFree.of_bodySF (code := cc) (maxLocals := maxL) (ret := ret) hy ?_ ?_
  · intro args s m h hn
    obtain ⟨meth, c, h1, h2, h3, h4, h5, h6, -, -⟩ := Cond.code_spec hn (atoms_spec (ws := ws) h _ (by rw [hw]; exact List.mem_cons_self))
    exact ⟨meth, c, h1, h2, h3, h4, h5, h6⟩
  · intro p e s m args below meth c s₁ B hml hP _
    have hh0 : s₁.heap = s.heap := by rw [B.state]; rfl
    obtain ⟨t, a1, o, b1, b2, b3⟩ := body p e s m args below meth c s₁ B hml hP s₁ hh0 (Stand.of_body B)
    exact ⟨t, o, a1, b1, b2, ⟨b3.1, b3.2⟩⟩
theorem fltRows : (Jvm.natives.all fun r => r.cls != "java/lang/Float" || (r.name != "floatToIntBits" && r.name != "isNaN")) = true := by decide +kernel
theorem fltPlain {x : MethodName} (hc : x.cls = "java/lang/Float") (hd : x.name = "floatToIntBits" ∨ x.name = "isNaN") : plainFor x = true := by
  unfold plainFor
  rw [Bool.or_eq_true]; right
  rw [Option.isNone_iff_eq_none, NativeRow.find?, List.find?_eq_none]
  intro r hr h
  have := List.all_eq_true.mp fltRows r hr
  simp only [Bool.and_eq_true, beq_iff_eq] at h
  rw [h.1.1, h.1.2, hc] at this
  rcases hd with hd | hd
  · rw [hd] at this
    simp at this
  · rw [hd] at this
    simp at this
theorem cmp_self {b : UInt32} (hf : FP.Core.FFin b) : Op.cmpValue (FP.fcmp b b) CmpOp.l = 0 := by
  rw [show FP.fcmp b b = some .eq from FP.Core.fcmp_refl hf.notNaN]
  rfl
set_option maxHeartbeats 4000000 in
set_option maxRecDepth 100000 in
theorem c_isNaN (l : Launch) (Hp : Heap) (b : UInt32) (hf : FP.Core.FFin b) : Met l yJxf58ca_isNaN_12338 wsJxf58ca_isNaN_12338 ({ frames := 2, cells := 0, slots := 0, locals := 40 }) (va_Pc [.float b] (fun U => U.heap = Hp)) (va_Qi (fun (r : Int32) (_ : Unit) => r = 0) (fun _ t => t.heap = Hp) (fun _ => False)) 0 0 (fun _ => False) := by
  refine Met.ofWF (cc := cJxf58ca_isNaN_12338) (maxL := 1) (ret := some .boolean) (fltPlain rfl (Or.inr rfl)) rfl ?_
  intro p e s m args below meth c s₁ B hml hv
  obtain ⟨rfl, hH⟩ := hv
  subst hH
  have hx := B.exec
  have hb := B.bytes
  have hr := B.returns
  have hts := atoms_spec (ws := wsJxf58ca_isNaN_12338) B.pre
  have hown : s.vm.findClass RJxf58ca = some m.cls := findClass_of_methodNamed B.named
  have hlocks := B.notSynchronized
  have hS : va_S (fun _ => False) s.heap s.heap [] := va_S.rf
  have hA : ∀ q : Nat, s.heap.size ≤ q → aNew s.heap q := fun q h => h
  have hl := lv_entry ([.float b]) (n := 1) (Nat.le_of_ble_eq_true rfl)
  rw [lg_entry_eq]
  generalize (lg_sl ([.float b]) ++ List.replicate (1 - (lg_sl ([.float b])).length) Slot.unset).toArray = ls at hl ⊢
  have hl : lv_has ls 1 [(0, .float b)] := hl
  refine lv_fload_n hx hb dJxf58ca_isNaN_12338_0 rfl (lv_at hl 0 rfl) ?_
  refine lv_fload_n hx hb dJxf58ca_isNaN_12338_1 rfl (lv_at hl 0 rfl) ?_
  refine lv_fcmp hx hb dJxf58ca_isNaN_12338_2 ?_
  refine lv_topi (fun v9 e9 => ?_)
  have e9 := e9.trans (cmp_self hf)
  subst e9
  refine lv_if_eq (tgt := 10) hx hb dJxf58ca_isNaN_12338_3 (by decide) (fun _ => ?_) (fun h9 => absurd (by decide) h9)
  refine lv_iconst (v := 0) hx hb dJxf58ca_isNaN_12338_10 (by decide) ?_
  exact W.zret hx hb hr rfl (fun t ht hW => ⟨⟨_, (), rfl, rfl, ht⟩, (va_S.rf (A := fun _ => False)).F ht⟩) (fun q hq => absurd hq List.not_mem_nil) dJxf58ca_isNaN_12338_11
set_option maxHeartbeats 4000000 in
set_option maxRecDepth 100000 in
theorem c_f2ib (l : Launch) (Hp : Heap) (b : UInt32) (hf : FP.Core.FFin b) : Met l yJxf58ca_floatToIntBits_5c35a wsJxf58ca_floatToIntBits_5c35a ({ frames := 3, cells := 0, slots := 0, locals := 80 }) (va_Pc [.float b] (fun U => U.heap = Hp)) (va_Qi (fun (r : Int32) (_ : Unit) => r = b.toInt32) (fun _ t => t.heap = Hp) (fun _ => False)) 0 0 (fun _ => False) := by
  refine Met.ofWF (cc := cJxf58ca_floatToIntBits_5c35a) (maxL := 1) (ret := some .int) (fltPlain rfl (Or.inl rfl)) rfl ?_
  intro p e s m args below meth c s₁ B hml hv
  obtain ⟨rfl, hH⟩ := hv
  subst hH
  have hx := B.exec
  have hb := B.bytes
  have hr := B.returns
  have hts := atoms_spec (ws := wsJxf58ca_floatToIntBits_5c35a) B.pre
  have hown : s.vm.findClass RJxf58ca = some m.cls := findClass_of_methodNamed B.named
  have hlocks := B.notSynchronized
  have hS : va_S (fun _ => False) s.heap s.heap [] := va_S.rf
  have hA : ∀ q : Nat, s.heap.size ≤ q → aNew s.heap q := fun q h => h
  have hl := lv_entry ([.float b]) (n := 1) (Nat.le_of_ble_eq_true rfl)
  rw [lg_entry_eq]
  generalize (lg_sl ([.float b]) ++ List.replicate (1 - (lg_sl ([.float b])).length) Slot.unset).toArray = ls at hl ⊢
  have hl : lv_has ls 1 [(0, .float b)] := hl
  refine lv_fload_n hx hb dJxf58ca_floatToIntBits_5c35a_0 rfl (lv_at hl 0 rfl) ?_
  refine va_calli (va_runS (As := [.float b]) (rest := []) ⟨hx, hb, hml, hown, hts⟩ (c_isNaN l s.heap b hf) (va_cwS 1 hts gJxf58ca_floatToIntBits_5c35a_Jxf58ca_isNaN_12338 rfl rfl rfl (by decide +kernel) ⟨Nat.le_of_ble_eq_true rfl, Nat.le_of_ble_eq_true rfl⟩) ⟨fun a U g mk q => q, fun U hU hW => ⟨rfl, hU⟩⟩ rfl rfl hl.1 rfl (lv_room (Nat.le_of_ble_eq_true rfl)) dJxf58ca_floatToIntBits_5c35a_1 ⟨Nat.le_of_ble_eq_true rfl, Nat.le_of_ble_eq_true rfl⟩) hS (fun q _ h => h.elim) (fun q h => h.elim) (fun r1 u1 t H1 locs ht hvm hw hB hz1 hk1 hS => ?_)
  have e9 := hB.symm.trans ht
  subst e9
  subst hw
  refine lv_if_ne (tgt := 12) hx hb dJxf58ca_floatToIntBits_5c35a_4 (by decide) (fun h9 => absurd (by decide) h9) (fun _ => ?_)
  refine lv_fload_n hx hb dJxf58ca_floatToIntBits_5c35a_7 rfl (lv_at hl 0 rfl) ?_
  refine vn_f2i hx hb (hml.trans hl.1.symm) hown (hts (.methodLink RJxf58ca 74 ⟨"java/lang/Float", "floatToRawIntBits", "(F)I"⟩) (by decide +kernel)) (hts (.native ⟨"java/lang/Float", "floatToRawIntBits", "(F)I"⟩) (by decide +kernel)) (hts (.static ⟨"java/lang/Float", "floatToRawIntBits", "(F)I"⟩) (by decide +kernel)) (hts (.initialized "java/lang/Float") (by decide +kernel)) (Nat.le_of_ble_eq_true rfl) (Nat.le_of_ble_eq_true rfl) dJxf58ca_floatToIntBits_5c35a_8 ?_
  exact W.iret hx hb hr (fun t ht hW => ⟨⟨_, (), rfl, rfl, ht⟩, (va_S.rf (A := fun _ => False)).F ht⟩) hS.2.2 dJxf58ca_floatToIntBits_5c35a_11
set_option maxHeartbeats 4000000 in
set_option maxRecDepth 100000 in
theorem c_X0_money (l : Launch) (dG : va_G) (a A : Nat → Nat) (cA : ClassId) (Hp : Heap) (L P G V R N Y S : Nat → Int32) (wd tb ft fl ce nh : Int32) (mo : UInt32)  (hg : gF mo) : Met l yX0_money wsX0_money ({ frames := 3, cells := 0, slots := 0, locals := 70 }) (va_Pc [.ref (A 0)] (fun U => wPre dG (tyI cA) (xW A cA L P G V R N Y S wd tb ft fl ce nh mo) Hp U)) (va_Qi (fun (r : Int32) (_ : Unit) => r = mo.toInt32) (fun _ t => t.heap = Hp) (fun _ => False)) 0 0 (va_A (xW A cA L P G V R N Y S wd tb ft fl ce nh mo) Hp.size) := by
  refine Met.ofW (cc := cX0_money) (maxL := 1) (ret := some .int) (by decide) rfl ?_
  intro p e s m args below meth c s₁ B hml hv
  obtain ⟨rfl, hH, hP, hK, hD0⟩ := hv
  subst hH
  have hK : va_K dG vwCl (tyI cA) s := hK
  have hx := B.exec
  have hb := B.bytes
  have hr := B.returns
  have hts := atoms_spec (ws := wsX0_money) B.pre
  have hown : s.vm.findClass RX0 = some m.cls := findClass_of_methodNamed B.named
  have hlocks := B.notSynchronized
  have hinX : ∀ w ∈ wsX00, w ∈ wsX0_money := by decide +kernel
  have hD := hD0.self (sz := s.heap.size)
  generalize hAe : va_A (xW A cA L P G V R N Y S wd tb ft fl ce nh mo) s.heap.size = F at hD ⊢
  have hA : ∀ q : Nat, s.heap.size ≤ q → F q := fun q h => by rw [← hAe]; exact Or.inr h
  have hS : va_S F s.heap s.heap [] := va_S.rf
  have hP : va_P dG vwCl (xW A cA L P G V R N Y S wd tb ft fl ce nh mo) s.heap := hP
  have hl := lv_entry ([.ref (A 0)]) (n := 1) (Nat.le_of_ble_eq_true rfl)
  rw [lg_entry_eq]
  generalize (lg_sl ([.ref (A 0)]) ++ List.replicate (1 - (lg_sl ([.ref (A 0)])).length) Slot.unset).toArray = ls at hl ⊢
  have hl : lv_has ls 1 [(0, .ref (A 0))] := hl
  refine lv_aload_n hx hb dX0_money_0 rfl (lv_at hl 0 rfl) ?_
  refine va_get (D := dG) (ci := 0) (v := .float mo) (C := RX0) (T := TX0) (N := 15) hx hb hts hinX hown hK hP 0 rfl rfl 14 (by decide) (hts (.fieldLink RX0 66 "TidegateBourse" "balance" "F") (by decide +kernel)) (fun _ h9 => h9) rfl dX0_money_1 ?_
  refine va_calli (va_runS (As := [.float mo]) (rest := []) ⟨hx, hb, hml, hown, hts⟩ (c_X0_bitsOf l s.heap mo hg) (va_cwS 1 hts gX0_money_X0_bitsOf rfl rfl rfl (by decide +kernel) ⟨Nat.le_of_ble_eq_true rfl, Nat.le_of_ble_eq_true rfl⟩) ⟨fun a U g mk q => q, fun U hU hW => ⟨rfl, hU⟩⟩ rfl rfl hl.1 rfl (lv_room (Nat.le_of_ble_eq_true rfl)) dX0_money_4 ⟨Nat.le_of_ble_eq_true rfl, Nat.le_of_ble_eq_true rfl⟩) hS (fun q _ h => h.elim) (fun q h => h.elim) (fun r1 u1 t H1 locs ht hvm hw hB hz1 hk1 hS => ?_)
  have e9 := hB.symm.trans ht
  subst e9
  subst hw
  exact W.iret hx hb hr (fun t ht hW => ⟨⟨_, (), rfl, rfl, ht⟩, (va_S.rf (A := fun _ => False)).F ht⟩) hS.2.2 dX0_money_7
set_option maxHeartbeats 4000000 in
set_option maxRecDepth 100000 in
theorem c_X1_money (l : Launch) (dG : va_G) (B : Nat → Nat) (cA : ClassId) (Hp : Heap) (L P G V R S Y O D : Nat → Int32) (th nw wd tb ft fl cl : Int32) (mo : UInt32)  (hf : FP.Core.FFin mo) : Met l yX1_money wsX1_money ({ frames := 4, cells := 0, slots := 0, locals := 120 }) (va_Pc [.ref (B 0)] (fun U => wPre dG (tyI cA) (mW B cA L P G V R S Y O D th nw wd tb ft fl cl mo) Hp U)) (va_Qi (fun (r : Int32) (u : MS) => r = mo.toInt32 ∧ u = (L, P, G, V, R, S, Y, O, D, 0, nw, wd, tb, ft, fl, cl, mo)) (fun u t => wAt dG (tyI cA) (va_A (mW B cA L P G V R S Y O D th nw wd tb ft fl cl mo) Hp.size) (mU B cA u) t) (va_A (mW B cA L P G V R S Y O D th nw wd tb ft fl cl mo) Hp.size)) 0 0 (va_A (mW B cA L P G V R S Y O D th nw wd tb ft fl cl mo) Hp.size) := by
  refine Met.ofW (cc := cX1_money) (maxL := 1) (ret := some .int) (by decide) rfl ?_
  intro p e s m args below meth c s₁ Bd hml hv
  obtain ⟨rfl, hH, hP, hK, hD0⟩ := hv
  subst hH
  have hK : va_K dG vwCl (tyI cA) s := hK
  have hx := Bd.exec
  have hb := Bd.bytes
  have hr := Bd.returns
  have hts := atoms_spec (ws := wsX1_money) Bd.pre
  have hown : s.vm.findClass RX1 = some m.cls := findClass_of_methodNamed Bd.named
  have hlocks := Bd.notSynchronized
  have hinM : ∀ w ∈ wsX10, w ∈ wsX1_money := by decide +kernel
  have hD := hD0.self (sz := s.heap.size)
  generalize hAe : va_A (mW B cA L P G V R S Y O D th nw wd tb ft fl cl mo) s.heap.size = F at hD ⊢
  have hA : ∀ q : Nat, s.heap.size ≤ q → F q := fun q h => by rw [← hAe]; exact Or.inr h
  have hS : va_S F s.heap s.heap [] := va_S.rf
  have hP : va_P dG vwCl (mW B cA L P G V R S Y O D th nw wd tb ft fl cl mo) s.heap := hP
  have hl := lv_entry ([.ref (B 0)]) (n := 1) (Nat.le_of_ble_eq_true rfl)
  rw [lg_entry_eq]
  generalize (lg_sl ([.ref (B 0)]) ++ List.replicate (1 - (lg_sl ([.ref (B 0)])).length) Slot.unset).toArray = ls at hl ⊢
  have hl : lv_has ls 1 [(0, .ref (B 0))] := hl
  refine lv_aload_n hx hb dX1_money_0 rfl (lv_at hl 0 rfl) ?_
  refine lv_iconst (v := 0) hx hb dX1_money_1 (by decide) ?_
  refine va_put (D := dG) (ci := 1) (v := .int 0) (ty := .int) (C := RX1) (T := TX1) (N := 17) hx hb hts hinM tyX1 tyX1_ok nmX1 hown hK hP hD hS 0 rfl rfl 0 (by decide) (hts (.fieldLink RX1 41 "TidegateBourseModel" "thrown" "I") (by decide +kernel)) (fun _ h9 => h9) rfl (by decide +kernel) rfl rfl (Nat.le_of_ble_eq_true rfl) dX1_money_2 (fun H locs hP hD hS => ?_)
  have hP : va_P dG vwCl (mW B cA L P G V R S Y O D 0 nw wd tb ft fl cl mo) H := hP
  have hD : va_D F (mW B cA L P G V R S Y O D 0 nw wd tb ft fl cl mo) := hD
  refine lv_aload_n hx hb dX1_money_5 rfl (lv_at hl 0 rfl) ?_
  refine va_get (D := dG) (ci := 1) (v := .float mo) (C := RX1) (T := TX1) (N := 17) hx hb hts hinM hown hK hP 0 rfl rfl 16 (by decide) (hts (.fieldLink RX1 64 "TidegateBourseModel" "money" "F") (by decide +kernel)) (fun _ h9 => h9) rfl dX1_money_6 ?_
  refine va_calli (va_runS (As := [.float mo]) (rest := []) ⟨hx, hb, hml, hown, hts⟩ (c_f2ib l H mo hf) (va_cwS 1 hts gX1_money_Jxf58ca_floatToIntBits_5c35a rfl rfl rfl (by decide +kernel) ⟨Nat.le_of_ble_eq_true rfl, Nat.le_of_ble_eq_true rfl⟩) ⟨fun a U g mk q => q, fun U hU hW => ⟨rfl, hU⟩⟩ rfl rfl hl.1 rfl (lv_room (Nat.le_of_ble_eq_true rfl)) dX1_money_9 ⟨Nat.le_of_ble_eq_true rfl, Nat.le_of_ble_eq_true rfl⟩) hS (fun q _ h => h.elim) (fun q h => h.elim) (fun r1 u1 t H1 locs ht hvm hw hB hz1 hk1 hS => ?_)
  have e9 := hB.symm.trans ht
  subst e9
  subst hw
  exact W.iret hx hb hr (fun t ht hW => ⟨⟨_, (L, P, G, V, R, S, Y, O, D, 0, nw, wd, tb, ft, fl, cl, mo), rfl, ⟨rfl, rfl⟩, by rw [ht]; exact hP, va_K.moved hW.alike hK, hD⟩, hS.F ht⟩) hS.2.2 dX1_money_12
