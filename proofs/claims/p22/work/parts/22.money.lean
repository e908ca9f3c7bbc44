set_option maxHeartbeats 4000000 in
set_option maxRecDepth 100000 in
theorem c_X0_money (l : Launch) (dG : va_G) (a A : Nat → Nat) (cA : ClassId) (Hp : Heap) (L P G V R N Y S : Nat → Int32) (wd tb ft fl ce nh : Int32) (mo : UInt32)  (hg : gF mo) : Met l yX0_money wsX0_money ({ frames := 3, cells := 0, slots := 0, locals := 70 }) (va_Pc [.ref (A 0)] (fun U => wPre dG (tyI cA) (xW A cA L P G V R N Y S wd tb ft fl ce nh mo) Hp U)) (va_Qi (fun (r : Int32) (_ : Unit) => r = mo.toInt32) (fun _ t => t.heap = Hp) (fun _ => False)) 0 0 (va_A (xW A cA L P G V R N Y S wd tb ft fl ce nh mo) Hp.size) := by
  refine Met.ofW (cc := cX0_money) (maxL := 1) (ret := some .int) (by decide) rfl ?_
  intro p e s m args below meth c s₁ B hml hv
  obtain ⟨rfl, hH, hP, hK, hD0⟩ := hv
  subst hH
  have hK : va_K dG vwCl (tyI cA) s := hK
  have hx := B.exec
  have hb := B.bytes
  have hr := B.returns
  have hts := atoms_spec (ws := wsX0_money) B.pre
  have hown : s.vm.findClass RX0 = some m.cls := findClass_of_methodNamed B.named
  have hlocks := B.notSynchronized
  have hinX : ∀ w ∈ wsX00, w ∈ wsX0_money := by decide +kernel
  have hD := hD0.self (sz := s.heap.size)
  generalize hAe : va_A (xW A cA L P G V R N Y S wd tb ft fl ce nh mo) s.heap.size = F at hD ⊢
  have hA : ∀ q : Nat, s.heap.size ≤ q → F q := fun q h => by rw [← hAe]; exact Or.inr h
  have hS : va_S F s.heap s.heap [] := va_S.rf
  have hP : va_P dG vwCl (xW A cA L P G V R N Y S wd tb ft fl ce nh mo) s.heap := hP
  have hl := lv_entry ([.ref (A 0)]) (n := 1) (Nat.le_of_ble_eq_true rfl)
  rw [lg_entry_eq]
  generalize (lg_sl ([.ref (A 0)]) ++ List.replicate (1 - (lg_sl ([.ref (A 0)])).length) Slot.unset).toArray = ls at hl ⊢
  have hl : lv_has ls 1 [(0, .ref (A 0))] := hl
  refine lv_aload_n hx hb dX0_money_0 rfl (lv_at hl 0 rfl) ?_
  refine va_get (D := dG) (ci := 0) (v := .float mo) (C := RX0) (T := TX0) (N := 15) hx hb hts hinX hown hK hP 0 rfl rfl 14 (by decide) (hts (.fieldLink RX0 66 "TidegateBourse" "balance" "F") (by decide +kernel)) (fun _ h9 => h9) rfl dX0_money_1 ?_
  refine va_calli (va_runS (As := [.float mo]) (rest := []) ⟨hx, hb, hml, hown, hts⟩ (c_X0_bitsOf l s.heap mo hg) (va_cwS 1 hts gX0_money_X0_bitsOf rfl rfl rfl (by decide +kernel) ⟨Nat.le_of_ble_eq_true rfl, Nat.le_of_ble_eq_true rfl⟩) ⟨fun a U g mk q => q, fun U hU hW => ⟨rfl, hU⟩⟩ rfl rfl hl.1 rfl (lv_room (Nat.le_of_ble_eq_true rfl)) dX0_money_4 ⟨Nat.le_of_ble_eq_true rfl, Nat.le_of_ble_eq_true rfl⟩) hS (fun q _ h => h.elim) (fun q h => h.elim) (fun r1 u1 t H1 locs ht hvm hw hB hz1 hk1 hS => ?_)
  have e9 := hB.symm.trans ht
  subst e9
  subst hw
  exact W.iret hx hb hr (fun t ht hW => ⟨⟨_, (), rfl, rfl, ht⟩, (va_S.rf (A := fun _ => False)).F ht⟩) hS.2.2 dX0_money_7
