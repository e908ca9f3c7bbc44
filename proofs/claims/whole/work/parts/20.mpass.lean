def mGoN (L P G S : Nat → Int32) (wd fl : Int32) (T h : Nat) : Nat → MG → MG
  | 0, g => g
  | j + 1, g => mGo L P G S wd fl T (h + j) (mGoN L P G S wd fl T h j g)
theorem kPass_ok {h ct : Nat} (h1 : 1 ≤ ct) (h2 : ct ≤ 48) (h3 : h + ct ≤ 500) : kPass (nI h) (nI ct) = 0 := by
  unfold kPass
  have g : ¬ oI (nI ct) 1 48 := oI_nI (lo := 1) (hi := 48) h1 h2 (by omega)
  have q : nI h + nI ct ≤ 500 := by
    rw [nI_add]
    exact nI_le (b := 500) h3 (by omega)
  rw [if_neg g, if_pos q]
set_option maxHeartbeats 4000000 in
set_option maxRecDepth 100000 in
theorem c_X1_pass_ok (l : Launch) (dG : va_G) (B : Nat → Nat) (cA : ClassId) (Hp : Heap) (L P G V R S Y O D : Nat → Int32) (T h : Nat) (th wd ft fl cl : Int32) (mo : UInt32)  (ct : Nat) (hc1 : 1 ≤ ct) (hc2 : ct ≤ 48) (hc3 : h + ct ≤ 500) (hT : T ≤ 4) (hmo : ∀ j : Nat, j < ct → FP.Core.FFin (mGoN L P G S wd fl T h j (V, R, Y, O, D, ft, cl, mo)).2.2.2.2.2.2.2) : Met l yX1_pass wsX1_pass ({ frames := 5, cells := 0, slots := 0, locals := 130 }) (va_Pc [.ref (B 0), .int (nI ct)] (fun U => wPre dG (tyI cA) (mW B cA L P G V R S Y O D th (nI h) wd (nI T) ft fl cl mo) Hp U)) (va_Qi (fun (r : Int32) (u : MS) => r = nI (h + ct) ∧ u = mTup L P G S 0 wd fl T (h + ct) (mGoN L P G S wd fl T h ct (V, R, Y, O, D, ft, cl, mo))) (fun u t => wAt dG (tyI cA) (va_A (mW B cA L P G V R S Y O D th (nI h) wd (nI T) ft fl cl mo) Hp.size) (mU B cA u) t) (va_A (mW B cA L P G V R S Y O D th (nI h) wd (nI T) ft fl cl mo) Hp.size)) 0 0 (va_A (mW B cA L P G V R S Y O D th (nI h) wd (nI T) ft fl cl mo) Hp.size) := by
  refine Met.ofW (cc := cX1_pass) (maxL := 3) (ret := (some .int)) (by decide) rfl ?_
  intro p e s m args below meth c s₁ Bd hml hv
  obtain ⟨rfl, hH, hP, hK, hD0⟩ := hv
  subst hH
  have hK : va_K dG vwCl (tyI cA) s := hK
  have hx := Bd.exec
  have hb := Bd.bytes
  have hr := Bd.returns
  have hts := atoms_spec (ws := wsX1_pass) Bd.pre
  have hown : s.vm.findClass RX1 = some m.cls := findClass_of_methodNamed Bd.named
  have hlocks := Bd.notSynchronized
  have hinM : ∀ w ∈ wsX10, w ∈ wsX1_pass := by decide +kernel
  have hD := hD0.self (sz := s.heap.size)
  generalize hAe : va_A (mW B cA L P G V R S Y O D th (nI h) wd (nI T) ft fl cl mo) s.heap.size = F at hD ⊢
  have hA : ∀ q : Nat, s.heap.size ≤ q → F q := fun q h => by rw [← hAe]; exact Or.inr h
  have hS : va_S F s.heap s.heap [] := va_S.rf
  have hP : va_P dG vwCl (mW B cA L P G V R S Y O D th (nI h) wd (nI T) ft fl cl mo) s.heap := hP
  have hl := lv_entry ([.ref (B 0), .int (nI ct)]) (n := 3) (Nat.le_of_ble_eq_true rfl)
  rw [lg_entry_eq]
  generalize (lg_sl ([.ref (B 0), .int (nI ct)]) ++ List.replicate (3 - (lg_sl ([.ref (B 0), .int (nI ct)])).length) Slot.unset).toArray = ls at hl ⊢
  have hl : lv_has ls 3 [(0, .ref (B 0)), (1, .int (nI ct))] := hl
  have loop : ∀ (n i : Nat) (g : MG) (H : Heap) (locs : List Loc), i + n = ct → g = mGoN L P G S wd fl T h i (V, R, Y, O, D, ft, cl, mo) → va_P dG vwCl (mW B cA L P G g.1 g.2.1 S g.2.2.1 g.2.2.2.1 g.2.2.2.2.1 0 (nI (h + i)) wd (nI T) g.2.2.2.2.2.1 fl g.2.2.2.2.2.2.1 g.2.2.2.2.2.2.2) H → va_D F (mW B cA L P G g.1 g.2.1 S g.2.2.1 g.2.2.2.1 g.2.2.2.2.1 0 (nI (h + i)) wd (nI T) g.2.2.2.2.2.1 fl g.2.2.2.2.2.2.1 g.2.2.2.2.2.2.2) → va_S F s.heap H locs → ∀ ls : Array Slot, lv_has ls 3 [(0, .ref (B 0)), (1, .int (nI ct)), (2, .int (nI i))] → W p l e (headSpec wsX1_pass ({ frames := 5, cells := 0, slots := 0, locals := 130 })).room s m ([.ref (B 0), .int (nI ct)]).toArray below meth c H locs 0 0 (MQ below (va_Qi (fun (r : Int32) (u : MS) => r = nI (h + ct) ∧ u = mTup L P G S 0 wd fl T (h + ct) (mGoN L P G S wd fl T h ct (V, R, Y, O, D, ft, cl, mo))) (fun u t => wAt dG (tyI cA) F (mU B cA u) t) F) ([.ref (B 0), .int (nI ct)]).toArray s 0 0 F) (F0 m 46 ls []) := by
    intro n
    induction n with
    | zero =>
      intro i g H locs hi hm hP hD hS ls hl
      have hi : ct = i := by omega
      subst hi
      refine lv_iload_n hx hb dX1_pass_46 rfl (lv_at hl 2 rfl) ?_
      refine lv_iload_n hx hb dX1_pass_47 rfl (lv_at hl 1 rfl) ?_
      refine lv_icmp_ge (tgt := 61) hx hb dX1_pass_48 (by decide) (fun _ => ?_) (fun h9 => absurd (nI_le (by omega) (by omega)) h9)
      refine lv_aload_n hx hb dX1_pass_61 rfl (lv_at hl 0 rfl) ?_
      refine va_get (D := dG) (ci := 1) (v := .int (nI (h + ct))) (C := RX1) (T := TX1) (N := 17) hx hb hts hinM hown hK hP 0 rfl rfl 1 (by decide) (hts (.fieldLink RX1 61 "TidegateBourseModel" "now" "I") (by decide +kernel)) (fun _ h9 => h9) rfl dX1_pass_62 ?_
      exact W.iret hx hb hr (fun t ht hW => ⟨⟨_, mTup L P G S 0 wd fl T (h + ct) g, rfl, ⟨rfl, by rw [hm]⟩, by rw [ht]; exact hP, va_K.moved hW.alike hK, hD⟩, hS.F ht⟩) hS.2.2 dX1_pass_65
    | succ n ih =>
      intro i g H locs hi hm hP hD hS ls hl
      refine lv_iload_n hx hb dX1_pass_46 rfl (lv_at hl 2 rfl) ?_
      refine lv_iload_n hx hb dX1_pass_47 rfl (lv_at hl 1 rfl) ?_
      refine lv_icmp_ge (tgt := 61) hx hb dX1_pass_48 (by decide) (fun h9 => absurd h9 (nI_ge (by omega) (by omega))) (fun _ => ?_)
      refine lv_aload_n hx hb dX1_pass_51 rfl (lv_at hl 0 rfl) ?_
      have hFc := va_free (wc := (mW B cA L P G g.1 g.2.1 S g.2.2.1 g.2.2.2.1 g.2.2.2.2.1 0 (nI (h + i)) wd (nI T) g.2.2.2.2.2.1 fl g.2.2.2.2.2.2.1 g.2.2.2.2.2.2.2)) hD hS hA [0, 1, 2, 3, 4, 5, 6, 7, 8, 9] rfl
      refine va_callv (va_runV (As := []) (rest := []) ⟨hx, hb, hml, hown, hts⟩ (c_X1_goes l dG B cA H L P G g.1 g.2.1 S g.2.2.1 g.2.2.2.1 g.2.2.2.2.1 T (h + i) 0 wd g.2.2.2.2.2.1 fl g.2.2.2.2.2.2.1 g.2.2.2.2.2.2.2  hT (by omega) (hm ▸ hmo i (by omega))) (cwV 0 hts gX1_pass_X1_goes rfl rfl rfl (by decide +kernel) ⟨Nat.le_of_ble_eq_true rfl, Nat.le_of_ble_eq_true rfl⟩) ⟨fun a U g mk q => ⟨q.1, wPre_calling g mk a q.2⟩, va_recv hK hP (ci := 1) (q0 := 0) rfl rfl, fun U hU hW => ⟨rfl, wPre_of hK hP hD hU hW⟩⟩ rfl rfl hl.1 rfl (lv_room (Nat.le_of_ble_eq_true rfl)) dX1_pass_52 ⟨Nat.le_of_ble_eq_true rfl, Nat.le_of_ble_eq_true rfl⟩) hS (fun q _ h => hFc q h) hFc (fun u1 t H locs ht hvm hw hB hz1 hk1 hS => ?_)
      obtain ⟨hP1, hK1, hD1⟩ := hB
      rw [ht] at hP1
      subst hw
      obtain ⟨hP, hD⟩ := va_join (wr := []) (w1 := (mW B cA L P G ((mGo L P G S wd fl T (h + i) g).1) ((mGo L P G S wd fl T (h + i) g).2.1) S ((mGo L P G S wd fl T (h + i) g).2.2.1) ((mGo L P G S wd fl T (h + i) g).2.2.2.1) ((mGo L P G S wd fl T (h + i) g).2.2.2.2.1) 0 (nI (h + i + 1)) wd (nI T) ((mGo L P G S wd fl T (h + i) g).2.2.2.2.2.1) fl ((mGo L P G S wd fl T (h + i) g).2.2.2.2.2.2.1) ((mGo L P G S wd fl T (h + i) g).2.2.2.2.2.2.2))) hP hD [0, 1, 2, 3, 4, 5, 6, 7, 8, 9] [] rfl rfl (by decide) (by decide) hk1 hFc hP1 hD1
      have hP : va_P dG vwCl (mW B cA L P G ((mGo L P G S wd fl T (h + i) g).1) ((mGo L P G S wd fl T (h + i) g).2.1) S ((mGo L P G S wd fl T (h + i) g).2.2.1) ((mGo L P G S wd fl T (h + i) g).2.2.2.1) ((mGo L P G S wd fl T (h + i) g).2.2.2.2.1) 0 (nI (h + i + 1)) wd (nI T) ((mGo L P G S wd fl T (h + i) g).2.2.2.2.2.1) fl ((mGo L P G S wd fl T (h + i) g).2.2.2.2.2.2.1) ((mGo L P G S wd fl T (h + i) g).2.2.2.2.2.2.2)) H := hP
      have hD : va_D F (mW B cA L P G ((mGo L P G S wd fl T (h + i) g).1) ((mGo L P G S wd fl T (h + i) g).2.1) S ((mGo L P G S wd fl T (h + i) g).2.2.1) ((mGo L P G S wd fl T (h + i) g).2.2.2.1) ((mGo L P G S wd fl T (h + i) g).2.2.2.2.1) 0 (nI (h + i + 1)) wd (nI T) ((mGo L P G S wd fl T (h + i) g).2.2.2.2.2.1) fl ((mGo L P G S wd fl T (h + i) g).2.2.2.2.2.2.1) ((mGo L P G S wd fl T (h + i) g).2.2.2.2.2.2.2)) := hD
      refine lv_iinc (v := (nI (i + 1))) (lv' := [(2, .int (nI (i + 1))), (0, .ref (B 0)), (1, .int (nI ct))]) hx hb dX1_pass_55 hl (k := 2) rfl (nI_1 i) (by decide) rfl (fun ls hl => ?_)
      refine lv_goto (tgt := 46) hx hb dX1_pass_58 (by decide) ?_
      exact ih (i + 1) _ _ _ (by omega) (by rw [hm]; rfl) hP hD hS ls (lv_sub hl [1, 2, 0] rfl)
  refine lv_aload_n hx hb dX1_pass_0 rfl (lv_at hl 0 rfl) ?_
  refine lv_iload_n hx hb dX1_pass_1 rfl (lv_at hl 1 rfl) ?_
  refine lv_iconst (v := 1) hx hb dX1_pass_2 (by decide) ?_
  refine lv_bipush (v := 48) hx hb dX1_pass_3 (by decide) ?_
  refine va_calli (va_runS (As := [.int (nI ct), .int 1, .int 48]) (rest := [.ref (B 0)]) ⟨hx, hb, hml, hown, hts⟩ (c_X1_isIn l s.heap (nI ct) 1 48) (va_cwS 3 hts gX1_pass_X1_isIn rfl rfl rfl (by decide +kernel) ⟨Nat.le_of_ble_eq_true rfl, Nat.le_of_ble_eq_true rfl⟩) ⟨fun a U g mk q => q, fun U hU hW => ⟨rfl, hU⟩⟩ rfl rfl hl.1 rfl (lv_room (Nat.le_of_ble_eq_true rfl)) dX1_pass_5 ⟨Nat.le_of_ble_eq_true rfl, Nat.le_of_ble_eq_true rfl⟩) hS (fun q _ h => h.elim) (fun q h => h.elim) (fun r1 u1 t H1 locs ht hvm hw hB hz1 hk1 hS => ?_)
  have e9 := hB.symm.trans ht
  subst e9
  by_cases g1 : oI (nI ct) 1 48
  · exact absurd g1 (oI_nI (lo := 1) (hi := 48) hc1 hc2 (by omega))
  · have hw := hw.trans (fIsIn_neg g1)
    subst hw
    refine lv_if_ne (tgt := 15) hx hb dX1_pass_8 (by decide) (fun _ => ?_) (fun h9 => absurd h9 (by decide))
    refine lv_aload_n hx hb dX1_pass_15 rfl (lv_at hl 0 rfl) ?_
    refine va_get (D := dG) (ci := 1) (v := .int (nI h)) (C := RX1) (T := TX1) (N := 17) hx hb hts hinM hown hK hP 0 rfl rfl 1 (by decide) (hts (.fieldLink RX1 61 "TidegateBourseModel" "now" "I") (by decide +kernel)) (fun _ h9 => h9) rfl dX1_pass_16 ?_
    refine lv_iload_n hx hb dX1_pass_19 rfl (lv_at hl 1 rfl) ?_
    refine lv_iadd hx hb dX1_pass_20 ?_
    refine lv_topi (fun v9 e9 => ?_)
    have e9 := e9.trans (nI_add h ct)
    subst e9
    refine lv_sipush (v := 500) hx hb dX1_pass_21 (by decide) ?_
    refine lv_icmp_le (tgt := 31) hx hb dX1_pass_24 (by decide) (fun _ => ?_) (fun h9 => absurd (nI_le (b := 500) (by omega) (by omega)) h9)
    refine lv_iconst (v := 0) hx hb dX1_pass_31 (by decide) ?_
    refine va_put (D := dG) (ci := 1) (v := .int 0) (ty := .int) (C := RX1) (T := TX1) (N := 17) hx hb hts hinM tyX1 tyX1_ok nmX1 hown hK hP hD hS 0 rfl rfl 0 (by decide) (hts (.fieldLink RX1 41 "TidegateBourseModel" "thrown" "I") (by decide +kernel)) (fun _ h9 => h9) rfl (by decide +kernel) rfl rfl (Nat.le_of_ble_eq_true rfl) dX1_pass_32 (fun H locs hP hD hS => ?_)
    have hP : va_P dG vwCl (mW B cA L P G V R S Y O D 0 (nI h) wd (nI T) ft fl cl mo) H := hP
    have hD : va_D F (mW B cA L P G V R S Y O D 0 (nI h) wd (nI T) ft fl cl mo) := hD
    refine lv_aload_n hx hb dX1_pass_35 rfl (lv_at hl 0 rfl) ?_
    refine va_get (D := dG) (ci := 1) (v := .int 0) (C := RX1) (T := TX1) (N := 17) hx hb hts hinM hown hK hP 0 rfl rfl 0 (by decide) (hts (.fieldLink RX1 41 "TidegateBourseModel" "thrown" "I") (by decide +kernel)) (fun _ h9 => h9) rfl dX1_pass_36 ?_
    refine lv_if_le (tgt := 44) hx hb dX1_pass_39 (by decide) (fun _ => ?_) (fun h9 => absurd (by decide) h9)
    refine lv_iconst (v := 0) hx hb dX1_pass_44 (by decide) ?_
    refine lv_istore_n (lv' := [(2, .int 0), (0, .ref (B 0)), (1, .int (nI ct))]) hx hb dX1_pass_45 rfl hl (by decide) rfl (fun ls hl => ?_)
    exact loop ct 0 (V, R, Y, O, D, ft, cl, mo) _ _ (by omega) rfl hP hD hS ls (lv_sub hl [1, 2, 0] rfl)
set_option maxHeartbeats 4000000 in
set_option maxRecDepth 100000 in
theorem c_X1_pass_no (l : Launch) (dG : va_G) (B : Nat → Nat) (cA : ClassId) (Hp : Heap) (L P G V R S Y O D : Nat → Int32) (T h : Nat) (th wd ft fl cl : Int32) (mo : UInt32) (n : Int32) (hk : ¬ kPass (nI h) n = 0) : Met l yX1_pass wsX1_pass ({ frames := 5, cells := 0, slots := 0, locals := 130 }) (va_Pc [.ref (B 0), .int n] (fun U => wPre dG (tyI cA) (mW B cA L P G V R S Y O D th (nI h) wd (nI T) ft fl cl mo) Hp U)) (va_Qi (fun (r : Int32) (u : MS) => r = 0 ∧ u = (L, P, G, V, R, S, Y, O, D, (kPass (nI h) n), (nI h), wd, (nI T), ft, fl, cl, mo)) (fun u t => wAt dG (tyI cA) (va_A (mW B cA L P G V R S Y O D th (nI h) wd (nI T) ft fl cl mo) Hp.size) (mU B cA u) t) (va_A (mW B cA L P G V R S Y O D th (nI h) wd (nI T) ft fl cl mo) Hp.size)) 0 0 (va_A (mW B cA L P G V R S Y O D th (nI h) wd (nI T) ft fl cl mo) Hp.size) := by
  refine Met.ofW (cc := cX1_pass) (maxL := 3) (ret := (some .int)) (by decide) rfl ?_
  intro p e s m args below meth c s₁ Bd hml hv
  obtain ⟨rfl, hH, hP, hK, hD0⟩ := hv
  subst hH
  have hK : va_K dG vwCl (tyI cA) s := hK
  have hx := Bd.exec
  have hb := Bd.bytes
  have hr := Bd.returns
  have hts := atoms_spec (ws := wsX1_pass) Bd.pre
  have hown : s.vm.findClass RX1 = some m.cls := findClass_of_methodNamed Bd.named
  have hlocks := Bd.notSynchronized
  have hinM : ∀ w ∈ wsX10, w ∈ wsX1_pass := by decide +kernel
  have hD := hD0.self (sz := s.heap.size)
  generalize hAe : va_A (mW B cA L P G V R S Y O D th (nI h) wd (nI T) ft fl cl mo) s.heap.size = F at hD ⊢
  have hA : ∀ q : Nat, s.heap.size ≤ q → F q := fun q h => by rw [← hAe]; exact Or.inr h
  have hS : va_S F s.heap s.heap [] := va_S.rf
  have hP : va_P dG vwCl (mW B cA L P G V R S Y O D th (nI h) wd (nI T) ft fl cl mo) s.heap := hP
  have hl := lv_entry ([.ref (B 0), .int n]) (n := 3) (Nat.le_of_ble_eq_true rfl)
  rw [lg_entry_eq]
  generalize (lg_sl ([.ref (B 0), .int n]) ++ List.replicate (3 - (lg_sl ([.ref (B 0), .int n])).length) Slot.unset).toArray = ls at hl ⊢
  have hl : lv_has ls 3 [(0, .ref (B 0)), (1, .int n)] := hl
  refine lv_aload_n hx hb dX1_pass_0 rfl (lv_at hl 0 rfl) ?_
  refine lv_iload_n hx hb dX1_pass_1 rfl (lv_at hl 1 rfl) ?_
  refine lv_iconst (v := 1) hx hb dX1_pass_2 (by decide) ?_
  refine lv_bipush (v := 48) hx hb dX1_pass_3 (by decide) ?_
  refine va_calli (va_runS (As := [.int n, .int 1, .int 48]) (rest := [.ref (B 0)]) ⟨hx, hb, hml, hown, hts⟩ (c_X1_isIn l s.heap n 1 48) (va_cwS 3 hts gX1_pass_X1_isIn rfl rfl rfl (by decide +kernel) ⟨Nat.le_of_ble_eq_true rfl, Nat.le_of_ble_eq_true rfl⟩) ⟨fun a U g mk q => q, fun U hU hW => ⟨rfl, hU⟩⟩ rfl rfl hl.1 rfl (lv_room (Nat.le_of_ble_eq_true rfl)) dX1_pass_5 ⟨Nat.le_of_ble_eq_true rfl, Nat.le_of_ble_eq_true rfl⟩) hS (fun q _ h => h.elim) (fun q h => h.elim) (fun r1 u1 t H1 locs ht hvm hw hB hz1 hk1 hS => ?_)
  have e9 := hB.symm.trans ht
  subst e9
  by_cases g1 : oI n 1 48
  · have hw := hw.trans (fIsIn_pos g1)
    subst hw
    refine lv_if_ne (tgt := 15) hx hb dX1_pass_8 (by decide) (fun h9 => absurd (by decide) h9) (fun _ => ?_)
    refine lv_iconst (v := 1) hx hb dX1_pass_11 (by decide) ?_
    refine lv_goto (tgt := 32) hx hb dX1_pass_12 (by decide) ?_
    refine va_put (D := dG) (ci := 1) (v := .int 1) (ty := .int) (C := RX1) (T := TX1) (N := 17) hx hb hts hinM tyX1 tyX1_ok nmX1 hown hK hP hD hS 0 rfl rfl 0 (by decide) (hts (.fieldLink RX1 41 "TidegateBourseModel" "thrown" "I") (by decide +kernel)) (fun _ h9 => h9) rfl (by decide +kernel) rfl rfl (Nat.le_of_ble_eq_true rfl) dX1_pass_32 (fun H locs hP hD hS => ?_)
    have hP : va_P dG vwCl (mW B cA L P G V R S Y O D 1 (nI h) wd (nI T) ft fl cl mo) H := hP
    have hD : va_D F (mW B cA L P G V R S Y O D 1 (nI h) wd (nI T) ft fl cl mo) := hD
    refine lv_aload_n hx hb dX1_pass_35 rfl (lv_at hl 0 rfl) ?_
    refine va_get (D := dG) (ci := 1) (v := .int 1) (C := RX1) (T := TX1) (N := 17) hx hb hts hinM hown hK hP 0 rfl rfl 0 (by decide) (hts (.fieldLink RX1 41 "TidegateBourseModel" "thrown" "I") (by decide +kernel)) (fun _ h9 => h9) rfl dX1_pass_36 ?_
    refine lv_if_le (tgt := 44) hx hb dX1_pass_39 (by decide) (fun h9 => absurd h9 (by decide)) (fun _ => ?_)
    refine lv_iconst (v := 0) hx hb dX1_pass_42 (by decide) ?_
    exact W.iret hx hb hr (fun t ht hW => ⟨⟨_, (L, P, G, V, R, S, Y, O, D, 1, (nI h), wd, (nI T), ft, fl, cl, mo), rfl, ⟨rfl, congrArg (fun z => (L, P, G, V, R, S, Y, O, D, z, (nI h), wd, (nI T), ft, fl, cl, mo)) (Eq.symm (by unfold kPass; rw [if_pos g1]))⟩, by rw [ht]; exact hP, va_K.moved hW.alike hK, hD⟩, hS.F ht⟩) hS.2.2 dX1_pass_43
  · have hw := hw.trans (fIsIn_neg g1)
    subst hw
    refine lv_if_ne (tgt := 15) hx hb dX1_pass_8 (by decide) (fun _ => ?_) (fun h9 => absurd h9 (by decide))
    refine lv_aload_n hx hb dX1_pass_15 rfl (lv_at hl 0 rfl) ?_
    refine va_get (D := dG) (ci := 1) (v := .int (nI h)) (C := RX1) (T := TX1) (N := 17) hx hb hts hinM hown hK hP 0 rfl rfl 1 (by decide) (hts (.fieldLink RX1 61 "TidegateBourseModel" "now" "I") (by decide +kernel)) (fun _ h9 => h9) rfl dX1_pass_16 ?_
    refine lv_iload_n hx hb dX1_pass_19 rfl (lv_at hl 1 rfl) ?_
    refine lv_iadd hx hb dX1_pass_20 ?_
    refine lv_sipush (v := 500) hx hb dX1_pass_21 (by decide) ?_
    refine lv_icmp_le (tgt := 31) hx hb dX1_pass_24 (by decide) (fun cq2 => ?_) (fun cq2 => ?_)
    · refine lv_iconst (v := 0) hx hb dX1_pass_31 (by decide) ?_
      refine va_put (D := dG) (ci := 1) (v := .int 0) (ty := .int) (C := RX1) (T := TX1) (N := 17) hx hb hts hinM tyX1 tyX1_ok nmX1 hown hK hP hD hS 0 rfl rfl 0 (by decide) (hts (.fieldLink RX1 41 "TidegateBourseModel" "thrown" "I") (by decide +kernel)) (fun _ h9 => h9) rfl (by decide +kernel) rfl rfl (Nat.le_of_ble_eq_true rfl) dX1_pass_32 (fun H locs hP hD hS => ?_)
      have hP : va_P dG vwCl (mW B cA L P G V R S Y O D 0 (nI h) wd (nI T) ft fl cl mo) H := hP
      have hD : va_D F (mW B cA L P G V R S Y O D 0 (nI h) wd (nI T) ft fl cl mo) := hD
      refine lv_aload_n hx hb dX1_pass_35 rfl (lv_at hl 0 rfl) ?_
      refine va_get (D := dG) (ci := 1) (v := .int 0) (C := RX1) (T := TX1) (N := 17) hx hb hts hinM hown hK hP 0 rfl rfl 0 (by decide) (hts (.fieldLink RX1 41 "TidegateBourseModel" "thrown" "I") (by decide +kernel)) (fun _ h9 => h9) rfl dX1_pass_36 ?_
      refine lv_if_le (tgt := 44) hx hb dX1_pass_39 (by decide) (fun _ => ?_) (fun h9 => absurd (by decide) h9)
      exact absurd (by unfold kPass; rw [if_neg g1, if_pos cq2]) hk
    · refine lv_iconst (v := 2) hx hb dX1_pass_27 (by decide) ?_
      refine lv_goto (tgt := 32) hx hb dX1_pass_28 (by decide) ?_
      refine va_put (D := dG) (ci := 1) (v := .int 2) (ty := .int) (C := RX1) (T := TX1) (N := 17) hx hb hts hinM tyX1 tyX1_ok nmX1 hown hK hP hD hS 0 rfl rfl 0 (by decide) (hts (.fieldLink RX1 41 "TidegateBourseModel" "thrown" "I") (by decide +kernel)) (fun _ h9 => h9) rfl (by decide +kernel) rfl rfl (Nat.le_of_ble_eq_true rfl) dX1_pass_32 (fun H locs hP hD hS => ?_)
      have hP : va_P dG vwCl (mW B cA L P G V R S Y O D 2 (nI h) wd (nI T) ft fl cl mo) H := hP
      have hD : va_D F (mW B cA L P G V R S Y O D 2 (nI h) wd (nI T) ft fl cl mo) := hD
      refine lv_aload_n hx hb dX1_pass_35 rfl (lv_at hl 0 rfl) ?_
      refine va_get (D := dG) (ci := 1) (v := .int 2) (C := RX1) (T := TX1) (N := 17) hx hb hts hinM hown hK hP 0 rfl rfl 0 (by decide) (hts (.fieldLink RX1 41 "TidegateBourseModel" "thrown" "I") (by decide +kernel)) (fun _ h9 => h9) rfl dX1_pass_36 ?_
      refine lv_if_le (tgt := 44) hx hb dX1_pass_39 (by decide) (fun h9 => absurd h9 (by decide)) (fun _ => ?_)
      refine lv_iconst (v := 0) hx hb dX1_pass_42 (by decide) ?_
      exact W.iret hx hb hr (fun t ht hW => ⟨⟨_, (L, P, G, V, R, S, Y, O, D, 2, (nI h), wd, (nI T), ft, fl, cl, mo), rfl, ⟨rfl, congrArg (fun z => (L, P, G, V, R, S, Y, O, D, z, (nI h), wd, (nI T), ft, fl, cl, mo)) (Eq.symm (by unfold kPass; rw [if_neg g1, if_neg cq2]))⟩, by rw [ht]; exact hP, va_K.moved hW.alike hK, hD⟩, hS.F ht⟩) hS.2.2 dX1_pass_43
