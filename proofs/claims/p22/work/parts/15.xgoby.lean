def fAbsX (x : Int32) : Int32 := if 0 ≤ x then x else 0 - x
def xNote (G R : Nat → Int32) (h5 n0 : Int32) : Nat → Int32
  | 0 => n0
  | i + 1 => if R i = h5 then ((xNote G R h5 n0 i ||| (G i <<< ((7 + (3 * nI i)) &&& 31))) ||| (1 <<< ((19 + nI i) &&& 31))) else (xNote G R h5 n0 i ||| (G i <<< ((7 + (3 * nI i)) &&& 31)))
def xNoteF (L G R : Nat → Int32) (wd ft fl : Int32) (T h : Nat) : Int32 := if ft ≤ fl then xNote G R (nI (h + 5)) (fAbsX (L (h % 24) + wd)) T else (xNote G R (nI (h + 5)) (fAbsX (L (h % 24) + wd)) T ||| 8388608)
def xMk (G R : Nat → Int32) (ce hh hd : Int32) (V0 : Nat → Int32) : Nat → (Nat → Int32) × Int32
  | 0 => (V0, 0)
  | i + 1 => if fWorks hh ((xMk G R ce hh hd V0 i).1 i) (R i) ce = 0 then xMk G R ce hh hd V0 i else (upd (xMk G R ce hh hd V0 i).1 i (fWear hd (G i) ((xMk G R ce hh hd V0 i).1 i)), (xMk G R ce hh hd V0 i).2 + fUnits hd (G i) ((xMk G R ce hh hd V0 i).1 i))
def xMo (mo : UInt32) (y sd q : Int32) : UInt32 := if 0 ≤ y - sd then (if y - sd ≤ 0 then mo else FP.fadd mo (FP.fmul (fWorth (y - sd) q) 1056964608)) else FP.fsub mo (fWorth (-(y - sd)) q)
set_option maxHeartbeats 4000000 in
set_option maxRecDepth 100000 in
theorem c_X0_noteFor (l : Launch) (dG : va_G) (a A : Nat → Nat) (cA : ClassId) (Hp : Heap) (L P G V R N Y S : Nat → Int32) (T h : Nat) (wd ft fl ce : Int32) (mo : UInt32)  (hT : T ≤ 4) (hh : h < 500) : Met l yX0_noteFor wsX0_noteFor ({ frames := 3, cells := 0, slots := 0, locals := 70 }) (va_Pc [.ref (A 0), .int (nI h)] (fun U => wPre dG (tyI cA) (xW A cA L P G V R N Y S wd (nI T) ft fl ce (nI h) mo) Hp U)) (va_Qi (fun (r : Int32) (u : Unit) => r = xNoteF L G R wd ft fl T h) (fun _ t => t.heap = Hp) (fun _ => False)) 0 0 (va_A (xW A cA L P G V R N Y S wd (nI T) ft fl ce (nI h) mo) Hp.size) := by
  refine Met.ofW (cc := cX0_noteFor) (maxL := 4) (ret := (some .int)) (by decide) rfl ?_
  intro p e s m args below meth c s₁ Bd hml hv
  obtain ⟨rfl, hH, hP, hK, hD0⟩ := hv
  subst hH
  have hK : va_K dG vwCl (tyI cA) s := hK
  have hx := Bd.exec
  have hb := Bd.bytes
  have hr := Bd.returns
  have hts := atoms_spec (ws := wsX0_noteFor) Bd.pre
  have hown : s.vm.findClass RX0 = some m.cls := findClass_of_methodNamed Bd.named
  have hlocks := Bd.notSynchronized
  have hinX : ∀ w ∈ wsX00, w ∈ wsX0_noteFor := by decide +kernel
  have hD := hD0.self (sz := s.heap.size)
  generalize hAe : va_A (xW A cA L P G V R N Y S wd (nI T) ft fl ce (nI h) mo) s.heap.size = F at hD ⊢
  have hA : ∀ q : Nat, s.heap.size ≤ q → F q := fun q h => by rw [← hAe]; exact Or.inr h
  have hS : va_S F s.heap s.heap [] := va_S.rf
  have hP : va_P dG vwCl (xW A cA L P G V R N Y S wd (nI T) ft fl ce (nI h) mo) s.heap := hP
  have hl := lv_entry ([.ref (A 0), .int (nI h)]) (n := 4) (Nat.le_of_ble_eq_true rfl)
  rw [lg_entry_eq]
  generalize (lg_sl ([.ref (A 0), .int (nI h)]) ++ List.replicate (4 - (lg_sl ([.ref (A 0), .int (nI h)])).length) Slot.unset).toArray = ls at hl ⊢
  have hl : lv_has ls 4 [(0, .ref (A 0)), (1, .int (nI h))] := hl
  have loop : ∀ (n i : Nat) (nt : Int32) (locs : List Loc), i + n = T → nt = xNote G R (nI (h + 5)) (fAbsX (L (h % 24) + wd)) i → va_S F s.heap s.heap locs → ∀ ls : Array Slot, lv_has ls 4 [(0, .ref (A 0)), (1, .int (nI h)), (2, .int nt), (3, .int (nI i))] → W p l e (headSpec wsX0_noteFor ({ frames := 3, cells := 0, slots := 0, locals := 70 })).room s m ([.ref (A 0), .int (nI h)]).toArray below meth c s.heap locs 0 0 (MQ below (va_Qi (fun (r : Int32) (u : Unit) => r = xNoteF L G R wd ft fl T h) (fun _ t => t.heap = s.heap) (fun _ => False)) ([.ref (A 0), .int (nI h)]).toArray s 0 0 F) (F0 m 20 ls []) := by
    intro n
    induction n with
    | zero =>
      intro i nt locs hi hm hS ls hl
      have hi : i = T := by omega
      subst hi
      refine lv_iload_n hx hb dX0_noteFor_20 rfl (lv_at hl 3 rfl) ?_
      refine lv_aload_n hx hb dX0_noteFor_21 rfl (lv_at hl 0 rfl) ?_
      refine va_get (D := dG) (ci := 0) (v := .int (nI i)) (C := RX0) (T := TX0) (N := 15) hx hb hts hinX hown hK hP 0 rfl rfl 9 (by decide) (hts (.fieldLink RX0 48 "TidegateBourse" "turbines" "I") (by decide +kernel)) (fun _ h9 => h9) rfl dX0_noteFor_22 ?_
      refine lv_icmp_ge (tgt := 71) hx hb dX0_noteFor_25 (by decide) (fun _ => ?_) (fun h9 => absurd (nI_le (by omega) (by omega)) h9)
      refine lv_aload_n hx hb dX0_noteFor_71 rfl (lv_at hl 0 rfl) ?_
      refine va_get (D := dG) (ci := 0) (v := .int ft) (C := RX0) (T := TX0) (N := 15) hx hb hts hinX hown hK hP 0 rfl rfl 10 (by decide) (hts (.fieldLink RX0 61 "TidegateBourse" "fishTold" "I") (by decide +kernel)) (fun _ h9 => h9) rfl dX0_noteFor_72 ?_
      refine lv_aload_n hx hb dX0_noteFor_75 rfl (lv_at hl 0 rfl) ?_
      refine va_get (D := dG) (ci := 0) (v := .int fl) (C := RX0) (T := TX0) (N := 15) hx hb hts hinX hown hK hP 0 rfl rfl 11 (by decide) (hts (.fieldLink RX0 34 "TidegateBourse" "fishLimit" "I") (by decide +kernel)) (fun _ h9 => h9) rfl dX0_noteFor_76 ?_
      refine lv_icmp_le (tgt := 87) hx hb dX0_noteFor_79 (by decide) (fun cq1 => ?_) (fun cq1 => ?_)
      · refine lv_iload_n hx hb dX0_noteFor_87 rfl (lv_at hl 2 rfl) ?_
        exact W.iret hx hb hr (fun t ht hW => ⟨⟨_, (), rfl, (by unfold xNoteF; rw [if_pos cq1, hm]), ht⟩, (va_S.rf (A := fun _ => False)).F ht⟩) hS.2.2 dX0_noteFor_88
      · refine lv_iload_n hx hb dX0_noteFor_82 rfl (lv_at hl 2 rfl) ?_
        refine lv_ldc (v := 8388608) hx hb hown (hts (.constant RX0 116 (8388608)) (by decide +kernel)) dX0_noteFor_83 ?_
        refine lv_ior hx hb dX0_noteFor_85 ?_
        refine lv_istore_n (lv' := [(2, .int (nt ||| 8388608)), (0, .ref (A 0)), (1, .int (nI h)), (3, .int (nI i))]) hx hb dX0_noteFor_86 rfl hl (by decide) rfl (fun ls hl => ?_)
        refine lv_iload_n hx hb dX0_noteFor_87 rfl (lv_at hl 0 rfl) ?_
        exact W.iret hx hb hr (fun t ht hW => ⟨⟨_, (), rfl, (by unfold xNoteF; rw [if_neg cq1, hm]), ht⟩, (va_S.rf (A := fun _ => False)).F ht⟩) hS.2.2 dX0_noteFor_88
    | succ n ih =>
      intro i nt locs hi hm hS ls hl
      refine lv_iload_n hx hb dX0_noteFor_20 rfl (lv_at hl 3 rfl) ?_
      refine lv_aload_n hx hb dX0_noteFor_21 rfl (lv_at hl 0 rfl) ?_
      refine va_get (D := dG) (ci := 0) (v := .int (nI T)) (C := RX0) (T := TX0) (N := 15) hx hb hts hinX hown hK hP 0 rfl rfl 9 (by decide) (hts (.fieldLink RX0 48 "TidegateBourse" "turbines" "I") (by decide +kernel)) (fun _ h9 => h9) rfl dX0_noteFor_22 ?_
      refine lv_icmp_ge (tgt := 71) hx hb dX0_noteFor_25 (by decide) (fun h9 => absurd h9 (nI_ge (by omega) (by omega))) (fun _ => ?_)
      refine lv_iload_n hx hb dX0_noteFor_28 rfl (lv_at hl 2 rfl) ?_
      refine lv_aload_n hx hb dX0_noteFor_29 rfl (lv_at hl 0 rfl) ?_
      refine va_get (D := dG) (ci := 0) (v := .ref (A 3)) (C := RX0) (T := TX0) (N := 15) hx hb hts hinX hown hK hP 0 rfl rfl 2 (by decide) (hts (.fieldLink RX0 16 "TidegateBourse" "gates" "[I") (by decide +kernel)) (fun _ h9 => h9) rfl dX0_noteFor_30 ?_
      refine lv_iload_n hx hb dX0_noteFor_33 rfl (lv_at hl 3 rfl) ?_
      refine va_iald hx hb hK hP 3 0 rfl rfl (vp_in_nI (by omega) (by omega)) dX0_noteFor_34 ?_
      refine lv_topi (fun v9 e9 => ?_)
      rw [nI_clamp (n := i) (by omega)] at e9
      subst e9
      refine lv_bipush (v := 7) hx hb dX0_noteFor_35 (by decide) ?_
      refine lv_iconst (v := 3) hx hb dX0_noteFor_37 (by decide) ?_
      refine lv_iload_n hx hb dX0_noteFor_38 rfl (lv_at hl 3 rfl) ?_
      refine lv_imul hx hb dX0_noteFor_39 ?_
      refine lv_iadd hx hb dX0_noteFor_40 ?_
      refine lv_ishl hx hb dX0_noteFor_41 ?_
      refine lv_ior hx hb dX0_noteFor_42 ?_
      refine lv_istore_n (lv' := [(2, .int (nt ||| ((G i) <<< ((7 + (3 * (nI i))) &&& 31)))), (0, .ref (A 0)), (1, .int (nI h)), (3, .int (nI i))]) hx hb dX0_noteFor_43 rfl hl (by decide) rfl (fun ls hl => ?_)
      refine lv_aload_n hx hb dX0_noteFor_44 rfl (lv_at hl 1 rfl) ?_
      refine va_get (D := dG) (ci := 0) (v := .ref (A 5)) (C := RX0) (T := TX0) (N := 15) hx hb hts hinX hown hK hP 0 rfl rfl 4 (by decide) (hts (.fieldLink RX0 22 "TidegateBourse" "repairEnds" "[I") (by decide +kernel)) (fun _ h9 => h9) rfl dX0_noteFor_45 ?_
      refine lv_iload_n hx hb dX0_noteFor_48 rfl (lv_at hl 3 rfl) ?_
      refine va_iald hx hb hK hP 5 0 rfl rfl (vp_in_nI (by omega) (by omega)) dX0_noteFor_49 ?_
      refine lv_topi (fun v9 e9 => ?_)
      rw [nI_clamp (n := i) (by omega)] at e9
      subst e9
      refine lv_iload_n hx hb dX0_noteFor_50 rfl (lv_at hl 2 rfl) ?_
      refine lv_iconst (v := 5) hx hb dX0_noteFor_51 (by decide) ?_
      refine lv_iadd hx hb dX0_noteFor_52 ?_
      refine lv_topi (fun v9 e9 => ?_)
      have e9 := e9.trans (nI_add h 5)
      subst e9
      refine lv_icmp_ne (tgt := 65) hx hb dX0_noteFor_53 (by decide) (fun cq1 => ?_) (fun cq1 => ?_)
      · refine lv_iinc (v := (nI (i + 1))) (lv' := [(3, .int (nI (i + 1))), (2, .int (nt ||| ((G i) <<< ((7 + (3 * (nI i))) &&& 31)))), (0, .ref (A 0)), (1, .int (nI h))]) hx hb dX0_noteFor_65 hl (k := 3) rfl (nI_1 i) (by decide) rfl (fun ls hl => ?_)
        refine lv_goto (tgt := 20) hx hb dX0_noteFor_68 (by decide) ?_
        exact ih (i + 1) _ _ (by omega) (by simp only [xNote, ← hm, if_neg cq1]) hS ls (lv_sub hl [2, 3, 1, 0] rfl)
      · refine lv_iload_n hx hb dX0_noteFor_56 rfl (lv_at hl 0 rfl) ?_
        refine lv_iconst (v := 1) hx hb dX0_noteFor_57 (by decide) ?_
        refine lv_bipush (v := 19) hx hb dX0_noteFor_58 (by decide) ?_
        refine lv_iload_n hx hb dX0_noteFor_60 rfl (lv_at hl 3 rfl) ?_
        refine lv_iadd hx hb dX0_noteFor_61 ?_
        refine lv_ishl hx hb dX0_noteFor_62 ?_
        refine lv_ior hx hb dX0_noteFor_63 ?_
        refine lv_istore_n (lv' := [(2, .int ((nt ||| ((G i) <<< ((7 + (3 * (nI i))) &&& 31))) ||| (1 <<< ((19 + (nI i)) &&& 31)))), (0, .ref (A 0)), (1, .int (nI h)), (3, .int (nI i))]) hx hb dX0_noteFor_64 rfl hl (by decide) rfl (fun ls hl => ?_)
        refine lv_iinc (v := (nI (i + 1))) (lv' := [(3, .int (nI (i + 1))), (2, .int ((nt ||| ((G i) <<< ((7 + (3 * (nI i))) &&& 31))) ||| (1 <<< ((19 + (nI i)) &&& 31)))), (0, .ref (A 0)), (1, .int (nI h))]) hx hb dX0_noteFor_65 hl (k := 3) rfl (nI_1 i) (by decide) rfl (fun ls hl => ?_)
        refine lv_goto (tgt := 20) hx hb dX0_noteFor_68 (by decide) ?_
        exact ih (i + 1) _ _ (by omega) (by simp only [xNote, ← hm, if_pos cq1]) hS ls (lv_sub hl [2, 3, 1, 0] rfl)
  refine lv_aload_n hx hb dX0_noteFor_0 rfl (lv_at hl 0 rfl) ?_
  refine va_get (D := dG) (ci := 0) (v := .ref (A 1)) (C := RX0) (T := TX0) (N := 15) hx hb hts hinX hown hK hP 0 rfl rfl 0 (by decide) (hts (.fieldLink RX0 9 "TidegateBourse" "levels" "[I") (by decide +kernel)) (fun _ h9 => h9) rfl dX0_noteFor_1 ?_
  refine lv_iload_n hx hb dX0_noteFor_4 rfl (lv_at hl 1 rfl) ?_
  refine lv_bipush (v := 24) hx hb dX0_noteFor_5 (by decide) ?_
  refine lv_irem hx hb dX0_noteFor_7 (by decide) ?_
  refine lv_topi (fun v9 e9 => ?_)
  have e9 := e9.trans (nI_mod24 (n := h) (by omega))
  subst e9
  refine va_iald hx hb hK hP 1 0 rfl rfl (vp_in_nI (by omega) (by omega)) dX0_noteFor_8 ?_
  refine lv_topi (fun v9 e9 => ?_)
  rw [nI_clamp (n := h % 24) (by omega)] at e9
  subst e9
  refine lv_aload_n hx hb dX0_noteFor_9 rfl (lv_at hl 0 rfl) ?_
  refine va_get (D := dG) (ci := 0) (v := .int wd) (C := RX0) (T := TX0) (N := 15) hx hb hts hinX hown hK hP 0 rfl rfl 8 (by decide) (hts (.fieldLink RX0 45 "TidegateBourse" "windNow" "I") (by decide +kernel)) (fun _ h9 => h9) rfl dX0_noteFor_10 ?_
  refine lv_iadd hx hb dX0_noteFor_13 ?_
  refine va_mabs hx hb (hml.trans hl.1.symm) hown (hts (.methodLink RX0 113 Lib.Math.abs.name) (by decide +kernel)) (hts (.static Lib.Math.abs.name) (by decide +kernel)) (hts (.initialized "java/lang/Math") (by decide +kernel)) (hts (.code Lib.Math.abs.name Lib.Math.abs.code 1 (some .int)) (by decide +kernel)) (Nat.le_of_ble_eq_true rfl) (Nat.le_of_ble_eq_true rfl) (Nat.le_of_ble_eq_true rfl) (Nat.le_of_ble_eq_true rfl) dX0_noteFor_14 ?_
  refine lv_istore_n (lv' := [(2, .int (if 0 ≤ ((L (h % 24)) + wd) then ((L (h % 24)) + wd) else 0 - ((L (h % 24)) + wd))), (0, .ref (A 0)), (1, .int (nI h))]) hx hb dX0_noteFor_17 rfl hl (by decide) rfl (fun ls hl => ?_)
  refine lv_iconst (v := 0) hx hb dX0_noteFor_18 (by decide) ?_
  refine lv_istore_n (lv' := [(3, .int 0), (2, .int (if 0 ≤ ((L (h % 24)) + wd) then ((L (h % 24)) + wd) else 0 - ((L (h % 24)) + wd))), (0, .ref (A 0)), (1, .int (nI h))]) hx hb dX0_noteFor_19 rfl hl (by decide) rfl (fun ls hl => ?_)
  exact loop T 0 _ _ (by omega) rfl hS ls (lv_sub hl [2, 3, 1, 0] rfl)
set_option maxHeartbeats 4000000 in
set_option maxRecDepth 100000 in
theorem c_X0_makeUnits (l : Launch) (dG : va_G) (a A : Nat → Nat) (cA : ClassId) (Hp : Heap) (L P G V R N Y S : Nat → Int32) (T h : Nat) (wd ft fl ce : Int32) (mo : UInt32) (hd : Int32) (hT : T ≤ 4) (hh : h < 500) : Met l yX0_makeUnits wsX0_makeUnits ({ frames := 3, cells := 0, slots := 0, locals := 70 }) (va_Pc [.ref (A 0), .int (nI h), .int hd] (fun U => wPre dG (tyI cA) (xW A cA L P G V R N Y S wd (nI T) ft fl ce (nI h) mo) Hp U)) (va_Qi (fun (r : Int32) (u : XS) => r = (xMk G R ce (nI h) hd V T).2 ∧ u = (L, P, G, (xMk G R ce (nI h) hd V T).1, R, N, Y, S, wd, (nI T), ft, fl, ce, (nI h), mo)) (fun u t => wAt dG (tyI cA) (va_A (xW A cA L P G V R N Y S wd (nI T) ft fl ce (nI h) mo) Hp.size) (xU A cA u) t) (va_A (xW A cA L P G V R N Y S wd (nI T) ft fl ce (nI h) mo) Hp.size)) 0 0 (va_A (xW A cA L P G V R N Y S wd (nI T) ft fl ce (nI h) mo) Hp.size) := by
  refine Met.ofW (cc := cX0_makeUnits) (maxL := 7) (ret := (some .int)) (by decide) rfl ?_
  intro p e s m args below meth c s₁ Bd hml hv
  obtain ⟨rfl, hH, hP, hK, hD0⟩ := hv
  subst hH
  have hK : va_K dG vwCl (tyI cA) s := hK
  have hx := Bd.exec
  have hb := Bd.bytes
  have hr := Bd.returns
  have hts := atoms_spec (ws := wsX0_makeUnits) Bd.pre
  have hown : s.vm.findClass RX0 = some m.cls := findClass_of_methodNamed Bd.named
  have hlocks := Bd.notSynchronized
  have hinX : ∀ w ∈ wsX00, w ∈ wsX0_makeUnits := by decide +kernel
  have hD := hD0.self (sz := s.heap.size)
  generalize hAe : va_A (xW A cA L P G V R N Y S wd (nI T) ft fl ce (nI h) mo) s.heap.size = F at hD ⊢
  have hA : ∀ q : Nat, s.heap.size ≤ q → F q := fun q h => by rw [← hAe]; exact Or.inr h
  have hS : va_S F s.heap s.heap [] := va_S.rf
  have hP : va_P dG vwCl (xW A cA L P G V R N Y S wd (nI T) ft fl ce (nI h) mo) s.heap := hP
  have hl := lv_entry ([.ref (A 0), .int (nI h), .int hd]) (n := 7) (Nat.le_of_ble_eq_true rfl)
  rw [lg_entry_eq]
  generalize (lg_sl ([.ref (A 0), .int (nI h), .int hd]) ++ List.replicate (7 - (lg_sl ([.ref (A 0), .int (nI h), .int hd])).length) Slot.unset).toArray = ls at hl ⊢
  have hl : lv_has ls 7 [(0, .ref (A 0)), (1, .int (nI h)), (2, .int hd)] := hl
  have loop : ∀ (n i : Nat) (V1 : Nat → Int32) (sm : Int32) (H : Heap) (locs : List Loc), i + n = T → (V1, sm) = xMk G R ce (nI h) hd V i → va_P dG vwCl (xW A cA L P G V1 R N Y S wd (nI T) ft fl ce (nI h) mo) H → va_D F (xW A cA L P G V1 R N Y S wd (nI T) ft fl ce (nI h) mo) → va_S F s.heap H locs → ∀ ls : Array Slot, lv_has ls 7 [(0, .ref (A 0)), (1, .int (nI h)), (2, .int hd), (3, .int sm), (4, .int (nI i))] → W p l e (headSpec wsX0_makeUnits ({ frames := 3, cells := 0, slots := 0, locals := 70 })).room s m ([.ref (A 0), .int (nI h), .int hd]).toArray below meth c H locs 0 0 (MQ below (va_Qi (fun (r : Int32) (u : XS) => r = (xMk G R ce (nI h) hd V T).2 ∧ u = (L, P, G, (xMk G R ce (nI h) hd V T).1, R, N, Y, S, wd, (nI T), ft, fl, ce, (nI h), mo)) (fun u t => wAt dG (tyI cA) F (xU A cA u) t) F) ([.ref (A 0), .int (nI h), .int hd]).toArray s 0 0 F) (F0 m 5 ls []) := by
    intro n
    induction n with
    | zero =>
      intro i V1 sm H locs hi hm hP hD hS ls hl
      have hi : i = T := by omega
      subst hi
      refine lv_iload hx hb dX0_makeUnits_5 (lv_at hl 4 rfl) ?_
      refine lv_aload_n hx hb dX0_makeUnits_7 rfl (lv_at hl 0 rfl) ?_
      refine va_get (D := dG) (ci := 0) (v := .int (nI i)) (C := RX0) (T := TX0) (N := 15) hx hb hts hinX hown hK hP 0 rfl rfl 9 (by decide) (hts (.fieldLink RX0 48 "TidegateBourse" "turbines" "I") (by decide +kernel)) (fun _ h9 => h9) rfl dX0_makeUnits_8 ?_
      refine lv_icmp_ge (tgt := 84) hx hb dX0_makeUnits_11 (by decide) (fun _ => ?_) (fun h9 => absurd (nI_le (by omega) (by omega)) h9)
      refine lv_iload_n hx hb dX0_makeUnits_84 rfl (lv_at hl 3 rfl) ?_
      exact W.iret hx hb hr (fun t ht hW => ⟨⟨_, (L, P, G, V1, R, N, Y, S, wd, (nI i), ft, fl, ce, (nI h), mo), rfl, ⟨(congrArg Prod.snd hm), congrArg (fun z => (L, P, G, z, R, N, Y, S, wd, (nI i), ft, fl, ce, (nI h), mo)) (congrArg Prod.fst hm)⟩, by rw [ht]; exact hP, va_K.moved hW.alike hK, hD⟩, hS.F ht⟩) hS.2.2 dX0_makeUnits_85
    | succ n ih =>
      intro i V1 sm H locs hi hm hP hD hS ls hl
      refine lv_iload hx hb dX0_makeUnits_5 (lv_at hl 4 rfl) ?_
      refine lv_aload_n hx hb dX0_makeUnits_7 rfl (lv_at hl 0 rfl) ?_
      refine va_get (D := dG) (ci := 0) (v := .int (nI T)) (C := RX0) (T := TX0) (N := 15) hx hb hts hinX hown hK hP 0 rfl rfl 9 (by decide) (hts (.fieldLink RX0 48 "TidegateBourse" "turbines" "I") (by decide +kernel)) (fun _ h9 => h9) rfl dX0_makeUnits_8 ?_
      refine lv_icmp_ge (tgt := 84) hx hb dX0_makeUnits_11 (by decide) (fun h9 => absurd h9 (nI_ge (by omega) (by omega))) (fun _ => ?_)
      refine lv_aload_n hx hb dX0_makeUnits_14 rfl (lv_at hl 0 rfl) ?_
      refine va_get (D := dG) (ci := 0) (v := .ref (A 3)) (C := RX0) (T := TX0) (N := 15) hx hb hts hinX hown hK hP 0 rfl rfl 2 (by decide) (hts (.fieldLink RX0 16 "TidegateBourse" "gates" "[I") (by decide +kernel)) (fun _ h9 => h9) rfl dX0_makeUnits_15 ?_
      refine lv_iload hx hb dX0_makeUnits_18 (lv_at hl 4 rfl) ?_
      refine va_iald hx hb hK hP 3 0 rfl rfl (vp_in_nI (by omega) (by omega)) dX0_makeUnits_20 ?_
      refine lv_topi (fun v9 e9 => ?_)
      rw [nI_clamp (n := i) (by omega)] at e9
      subst e9
      refine lv_istore (lv' := [(5, .int (G i)), (0, .ref (A 0)), (1, .int (nI h)), (2, .int hd), (3, .int sm), (4, .int (nI i))]) hx hb dX0_makeUnits_21 hl (by decide) rfl (fun ls hl => ?_)
      refine lv_aload_n hx hb dX0_makeUnits_23 rfl (lv_at hl 1 rfl) ?_
      refine va_get (D := dG) (ci := 0) (v := .ref (A 4)) (C := RX0) (T := TX0) (N := 15) hx hb hts hinX hown hK hP 0 rfl rfl 3 (by decide) (hts (.fieldLink RX0 19 "TidegateBourse" "wears" "[I") (by decide +kernel)) (fun _ h9 => h9) rfl dX0_makeUnits_24 ?_
      refine lv_iload hx hb dX0_makeUnits_27 (lv_at hl 5 rfl) ?_
      refine va_iald hx hb hK hP 4 0 rfl rfl (vp_in_nI (by omega) (by omega)) dX0_makeUnits_29 ?_
      refine lv_topi (fun v9 e9 => ?_)
      rw [nI_clamp (n := i) (by omega)] at e9
      subst e9
      refine lv_istore (lv' := [(6, .int (V1 i)), (5, .int (G i)), (0, .ref (A 0)), (1, .int (nI h)), (2, .int hd), (3, .int sm), (4, .int (nI i))]) hx hb dX0_makeUnits_30 hl (by decide) rfl (fun ls hl => ?_)
      refine lv_iload_n hx hb dX0_makeUnits_32 rfl (lv_at hl 3 rfl) ?_
      refine lv_iload hx hb dX0_makeUnits_33 (lv_at hl 0 rfl) ?_
      refine lv_aload_n hx hb dX0_makeUnits_35 rfl (lv_at hl 2 rfl) ?_
      refine va_get (D := dG) (ci := 0) (v := .ref (A 5)) (C := RX0) (T := TX0) (N := 15) hx hb hts hinX hown hK hP 0 rfl rfl 4 (by decide) (hts (.fieldLink RX0 22 "TidegateBourse" "repairEnds" "[I") (by decide +kernel)) (fun _ h9 => h9) rfl dX0_makeUnits_36 ?_
      refine lv_iload hx hb dX0_makeUnits_39 (lv_at hl 6 rfl) ?_
      refine va_iald hx hb hK hP 5 0 rfl rfl (vp_in_nI (by omega) (by omega)) dX0_makeUnits_41 ?_
      refine lv_topi (fun v9 e9 => ?_)
      rw [nI_clamp (n := i) (by omega)] at e9
      subst e9
      refine lv_aload_n hx hb dX0_makeUnits_42 rfl (lv_at hl 2 rfl) ?_
      refine va_get (D := dG) (ci := 0) (v := .int ce) (C := RX0) (T := TX0) (N := 15) hx hb hts hinX hown hK hP 0 rfl rfl 12 (by decide) (hts (.fieldLink RX0 93 "TidegateBourse" "closedEnd" "I") (by decide +kernel)) (fun _ h9 => h9) rfl dX0_makeUnits_43 ?_
      refine va_calli (va_runS (As := [.int (nI h), .int (V1 i), .int (R i), .int ce]) (rest := []) ⟨hx, hb, hml, hown, hts⟩ (c_X0_works l H (nI h) (V1 i) (R i) ce) (va_cwS 4 hts gX0_makeUnits_X0_works rfl rfl rfl (by decide +kernel) ⟨Nat.le_of_ble_eq_true rfl, Nat.le_of_ble_eq_true rfl⟩) ⟨fun a U g mk q => q, fun U hU hW => ⟨rfl, hU⟩⟩ rfl rfl hl.1 rfl (lv_room (Nat.le_of_ble_eq_true rfl)) dX0_makeUnits_46 ⟨Nat.le_of_ble_eq_true rfl, Nat.le_of_ble_eq_true rfl⟩) hS (fun q _ h => h.elim) (fun q h => h.elim) (fun r1 u1 t H1 locs ht hvm hw hB hz1 hk1 hS => ?_)
      have e9 := hB.symm.trans ht
      subst e9
      subst hw
      refine lv_if_eq (tgt := 78) hx hb dX0_makeUnits_49 (by decide) (fun cq2 => ?_) (fun cq2 => ?_)
      · refine lv_iinc (v := (nI (i + 1))) (lv' := [(4, .int (nI (i + 1))), (6, .int (V1 i)), (5, .int (G i)), (0, .ref (A 0)), (1, .int (nI h)), (2, .int hd), (3, .int sm)]) hx hb dX0_makeUnits_78 hl (k := 6) rfl (nI_1 i) (by decide) rfl (fun ls hl => ?_)
        refine lv_goto (tgt := 5) hx hb dX0_makeUnits_81 (by decide) ?_
        exact ih (i + 1) _ _ _ _ (by omega) (by simp only [xMk, ← hm, if_pos cq2]) hP hD hS ls (lv_sub hl [3, 4, 5, 6, 0] rfl)
      · refine lv_iload_n hx hb dX0_makeUnits_52 rfl (lv_at hl 5 rfl) ?_
        refine lv_iload_n hx hb dX0_makeUnits_53 rfl (lv_at hl 4 rfl) ?_
        refine lv_iload hx hb dX0_makeUnits_54 (lv_at hl 1 rfl) ?_
        refine lv_iload hx hb dX0_makeUnits_56 (lv_at hl 0 rfl) ?_
        refine va_calli (va_runS (As := [.int hd, .int (G i), .int (V1 i)]) (rest := [.int sm]) ⟨hx, hb, hml, hown, hts⟩ (c_X0_unitsOf l H hd (G i) (V1 i)) (va_cwS 3 hts gX0_makeUnits_X0_unitsOf rfl rfl rfl (by decide +kernel) ⟨Nat.le_of_ble_eq_true rfl, Nat.le_of_ble_eq_true rfl⟩) ⟨fun a U g mk q => q, fun U hU hW => ⟨rfl, hU⟩⟩ rfl rfl hl.1 rfl (lv_room (Nat.le_of_ble_eq_true rfl)) dX0_makeUnits_58 ⟨Nat.le_of_ble_eq_true rfl, Nat.le_of_ble_eq_true rfl⟩) hS (fun q _ h => h.elim) (fun q h => h.elim) (fun r3 u3 t H1 locs ht hvm hw hB hz1 hk1 hS => ?_)
        have e9 := hB.symm.trans ht
        subst e9
        subst hw
        refine lv_iadd hx hb dX0_makeUnits_61 ?_
        refine lv_istore_n (lv' := [(3, .int (sm + (fUnits hd (G i) (V1 i)))), (6, .int (V1 i)), (5, .int (G i)), (0, .ref (A 0)), (1, .int (nI h)), (2, .int hd), (4, .int (nI i))]) hx hb dX0_makeUnits_62 rfl hl (by decide) rfl (fun ls hl => ?_)
        refine lv_aload_n hx hb dX0_makeUnits_63 rfl (lv_at hl 3 rfl) ?_
        refine va_get (D := dG) (ci := 0) (v := .ref (A 4)) (C := RX0) (T := TX0) (N := 15) hx hb hts hinX hown hK hP 0 rfl rfl 3 (by decide) (hts (.fieldLink RX0 19 "TidegateBourse" "wears" "[I") (by decide +kernel)) (fun _ h9 => h9) rfl dX0_makeUnits_64 ?_
        refine lv_iload hx hb dX0_makeUnits_67 (lv_at hl 6 rfl) ?_
        refine lv_iload_n hx hb dX0_makeUnits_69 rfl (lv_at hl 5 rfl) ?_
        refine lv_iload hx hb dX0_makeUnits_70 (lv_at hl 2 rfl) ?_
        refine lv_iload hx hb dX0_makeUnits_72 (lv_at hl 1 rfl) ?_
        refine va_calli (va_runS (As := [.int hd, .int (G i), .int (V1 i)]) (rest := [.int (nI i), .ref (A 4)]) ⟨hx, hb, hml, hown, hts⟩ (c_X0_wearAfter l H hd (G i) (V1 i)) (va_cwS 3 hts gX0_makeUnits_X0_wearAfter rfl rfl rfl (by decide +kernel) ⟨Nat.le_of_ble_eq_true rfl, Nat.le_of_ble_eq_true rfl⟩) ⟨fun a U g mk q => q, fun U hU hW => ⟨rfl, hU⟩⟩ rfl rfl hl.1 rfl (lv_room (Nat.le_of_ble_eq_true rfl)) dX0_makeUnits_74 ⟨Nat.le_of_ble_eq_true rfl, Nat.le_of_ble_eq_true rfl⟩) hS (fun q _ h => h.elim) (fun q h => h.elim) (fun r4 u4 t H1 locs ht hvm hw hB hz1 hk1 hS => ?_)
        have e9 := hB.symm.trans ht
        subst e9
        subst hw
        refine va_iast hx hb hK hP hD hS 4 0 rfl rfl (vp_in_nI (by omega) (by omega)) dX0_makeUnits_77 (fun H locs hP hD hS => ?_)
        rw [nI_clamp (n := i) (by omega)] at hP hD
        have hP : va_P dG vwCl (xW A cA L P G (upd V1 i (fWear hd (G i) (V1 i))) R N Y S wd (nI T) ft fl ce (nI h) mo) H := hP
        have hD : va_D F (xW A cA L P G (upd V1 i (fWear hd (G i) (V1 i))) R N Y S wd (nI T) ft fl ce (nI h) mo) := hD
        refine lv_iinc (v := (nI (i + 1))) (lv' := [(4, .int (nI (i + 1))), (3, .int (sm + (fUnits hd (G i) (V1 i)))), (6, .int (V1 i)), (5, .int (G i)), (0, .ref (A 0)), (1, .int (nI h)), (2, .int hd)]) hx hb dX0_makeUnits_78 hl (k := 6) rfl (nI_1 i) (by decide) rfl (fun ls hl => ?_)
        refine lv_goto (tgt := 5) hx hb dX0_makeUnits_81 (by decide) ?_
        exact ih (i + 1) _ _ _ _ (by omega) (by simp only [xMk, ← hm, if_neg cq2]) hP hD hS ls (lv_sub hl [4, 5, 6, 1, 0] rfl)
  refine lv_iconst (v := 0) hx hb dX0_makeUnits_0 (by decide) ?_
  refine lv_istore_n (lv' := [(3, .int 0), (0, .ref (A 0)), (1, .int (nI h)), (2, .int hd)]) hx hb dX0_makeUnits_1 rfl hl (by decide) rfl (fun ls hl => ?_)
  refine lv_iconst (v := 0) hx hb dX0_makeUnits_2 (by decide) ?_
  refine lv_istore (lv' := [(4, .int 0), (3, .int 0), (0, .ref (A 0)), (1, .int (nI h)), (2, .int hd)]) hx hb dX0_makeUnits_3 hl (by decide) rfl (fun ls hl => ?_)
  exact loop T 0 V 0 _ _ (by omega) rfl hP hD hS ls (lv_sub hl [2, 3, 4, 1, 0] rfl)
set_option maxHeartbeats 4000000 in
set_option maxRecDepth 100000 in
theorem c_X0_settle (l : Launch) (dG : va_G) (a A : Nat → Nat) (cA : ClassId) (Hp : Heap) (L P G V R N Y S : Nat → Int32) (T h : Nat) (wd ft fl ce : Int32) (mo : UInt32)  (hT : T ≤ 4) (hh : h < 500) (hmo : FP.Core.FFin mo) : Met l yX0_settle wsX0_settle ({ frames := 3, cells := 0, slots := 0, locals := 70 }) (va_Pc [.ref (A 0), .int (nI h)] (fun U => wPre dG (tyI cA) (xW A cA L P G V R N Y S wd (nI T) ft fl ce (nI h) mo) Hp U)) (va_Qv (fun (u : XS) => u = (L, P, G, V, R, N, Y, S, wd, (nI T), ft, fl, ce, (nI h), (xMo mo (Y h) (S h) (P (h % 24))))) (fun u t => wAt dG (tyI cA) (va_A (xW A cA L P G V R N Y S wd (nI T) ft fl ce (nI h) mo) Hp.size) (xU A cA u) t) (va_A (xW A cA L P G V R N Y S wd (nI T) ft fl ce (nI h) mo) Hp.size)) 0 0 (va_A (xW A cA L P G V R N Y S wd (nI T) ft fl ce (nI h) mo) Hp.size) := by
  refine Met.ofW (cc := cX0_settle) (maxL := 4) (ret := none) (by decide) rfl ?_
  intro p e s m args below meth c s₁ Bd hml hv
  obtain ⟨rfl, hH, hP, hK, hD0⟩ := hv
  subst hH
  have hK : va_K dG vwCl (tyI cA) s := hK
  have hx := Bd.exec
  have hb := Bd.bytes
  have hr := Bd.returns
  have hts := atoms_spec (ws := wsX0_settle) Bd.pre
  have hown : s.vm.findClass RX0 = some m.cls := findClass_of_methodNamed Bd.named
  have hlocks := Bd.notSynchronized
  have hinX : ∀ w ∈ wsX00, w ∈ wsX0_settle := by decide +kernel
  have hD := hD0.self (sz := s.heap.size)
  generalize hAe : va_A (xW A cA L P G V R N Y S wd (nI T) ft fl ce (nI h) mo) s.heap.size = F at hD ⊢
  have hA : ∀ q : Nat, s.heap.size ≤ q → F q := fun q h => by rw [← hAe]; exact Or.inr h
  have hS : va_S F s.heap s.heap [] := va_S.rf
  have hP : va_P dG vwCl (xW A cA L P G V R N Y S wd (nI T) ft fl ce (nI h) mo) s.heap := hP
  have hl := lv_entry ([.ref (A 0), .int (nI h)]) (n := 4) (Nat.le_of_ble_eq_true rfl)
  rw [lg_entry_eq]
  generalize (lg_sl ([.ref (A 0), .int (nI h)]) ++ List.replicate (4 - (lg_sl ([.ref (A 0), .int (nI h)])).length) Slot.unset).toArray = ls at hl ⊢
  have hl : lv_has ls 4 [(0, .ref (A 0)), (1, .int (nI h))] := hl
  refine lv_aload_n hx hb dX0_settle_0 rfl (lv_at hl 0 rfl) ?_
  refine va_get (D := dG) (ci := 0) (v := .ref (A 2)) (C := RX0) (T := TX0) (N := 15) hx hb hts hinX hown hK hP 0 rfl rfl 1 (by decide) (hts (.fieldLink RX0 13 "TidegateBourse" "prices" "[I") (by decide +kernel)) (fun _ h9 => h9) rfl dX0_settle_1 ?_
  refine lv_iload_n hx hb dX0_settle_4 rfl (lv_at hl 1 rfl) ?_
  refine lv_bipush (v := 24) hx hb dX0_settle_5 (by decide) ?_
  refine lv_irem hx hb dX0_settle_7 (by decide) ?_
  refine lv_topi (fun v9 e9 => ?_)
  have e9 := e9.trans (nI_mod24 (n := h) (by omega))
  subst e9
  refine va_iald hx hb hK hP 2 0 rfl rfl (vp_in_nI (by omega) (by omega)) dX0_settle_8 ?_
  refine lv_topi (fun v9 e9 => ?_)
  rw [nI_clamp (n := h % 24) (by omega)] at e9
  subst e9
  refine lv_istore_n (lv' := [(2, .int (P (h % 24))), (0, .ref (A 0)), (1, .int (nI h))]) hx hb dX0_settle_9 rfl hl (by decide) rfl (fun ls hl => ?_)
  refine lv_aload_n hx hb dX0_settle_10 rfl (lv_at hl 1 rfl) ?_
  refine va_get (D := dG) (ci := 0) (v := .ref (A 7)) (C := RX0) (T := TX0) (N := 15) hx hb hts hinX hown hK hP 0 rfl rfl 6 (by decide) (hts (.fieldLink RX0 28 "TidegateBourse" "madeUnits" "[I") (by decide +kernel)) (fun _ h9 => h9) rfl dX0_settle_11 ?_
  refine lv_iload_n hx hb dX0_settle_14 rfl (lv_at hl 2 rfl) ?_
  refine va_iald hx hb hK hP 7 0 rfl rfl (vp_in_nI (by omega) (by omega)) dX0_settle_15 ?_
  refine lv_topi (fun v9 e9 => ?_)
  rw [nI_clamp (n := h) (by omega)] at e9
  subst e9
  refine lv_aload_n hx hb dX0_settle_16 rfl (lv_at hl 1 rfl) ?_
  refine va_get (D := dG) (ci := 0) (v := .ref (A 8)) (C := RX0) (T := TX0) (N := 15) hx hb hts hinX hown hK hP 0 rfl rfl 7 (by decide) (hts (.fieldLink RX0 31 "TidegateBourse" "soldUnits" "[I") (by decide +kernel)) (fun _ h9 => h9) rfl dX0_settle_17 ?_
  refine lv_iload_n hx hb dX0_settle_20 rfl (lv_at hl 2 rfl) ?_
  refine va_iald hx hb hK hP 8 0 rfl rfl (vp_in_nI (by omega) (by omega)) dX0_settle_21 ?_
  refine lv_topi (fun v9 e9 => ?_)
  rw [nI_clamp (n := h) (by omega)] at e9
  subst e9
  refine lv_isub hx hb dX0_settle_22 ?_
  refine lv_istore_n (lv' := [(3, .int ((Y h) - (S h))), (2, .int (P (h % 24))), (0, .ref (A 0)), (1, .int (nI h))]) hx hb dX0_settle_23 rfl hl (by decide) rfl (fun ls hl => ?_)
  refine lv_iload_n hx hb dX0_settle_24 rfl (lv_at hl 0 rfl) ?_
  refine lv_if_ge (tgt := 46) hx hb dX0_settle_25 (by decide) (fun cq1 => ?_) (fun cq1 => ?_)
  · refine lv_iload_n hx hb dX0_settle_46 rfl (lv_at hl 0 rfl) ?_
    refine lv_if_le (tgt := 67) hx hb dX0_settle_47 (by decide) (fun cq2 => ?_) (fun cq2 => ?_)
    · exact W.vret hx hb hr (fun t ht hW => ⟨⟨(L, P, G, V, R, N, Y, S, wd, (nI T), ft, fl, ce, (nI h), mo), rfl, congrArg (fun z => (L, P, G, V, R, N, Y, S, wd, (nI T), ft, fl, ce, (nI h), z)) (Eq.symm (by unfold xMo; rw [if_pos cq1, if_pos cq2])), by rw [ht]; exact hP, va_K.moved hW.alike hK, hD⟩, hS.F ht⟩) hS.2.2 dX0_settle_67
    · refine lv_aload_n hx hb dX0_settle_50 rfl (lv_at hl 2 rfl) ?_
      refine lv_aload_n hx hb dX0_settle_51 rfl (lv_at hl 2 rfl) ?_
      refine va_get (D := dG) (ci := 0) (v := .float mo) (C := RX0) (T := TX0) (N := 15) hx hb hts hinX hown hK hP 0 rfl rfl 14 (by decide) (hts (.fieldLink RX0 66 "TidegateBourse" "balance" "F") (by decide +kernel)) (fun _ h9 => h9) rfl dX0_settle_52 ?_
      refine lv_iload_n hx hb dX0_settle_55 rfl (lv_at hl 0 rfl) ?_
      refine lv_iload_n hx hb dX0_settle_56 rfl (lv_at hl 1 rfl) ?_
      refine va_callf (va_runS (As := [.int ((Y h) - (S h)), .int (P (h % 24))]) (rest := [.float mo, .ref (A 0)]) ⟨hx, hb, hml, hown, hts⟩ (c_X0_worth l s.heap ((Y h) - (S h)) (P (h % 24)) (nn_mul _ _)) (va_cwS 2 hts gX0_settle_X0_worth rfl rfl rfl (by decide +kernel) ⟨Nat.le_of_ble_eq_true rfl, Nat.le_of_ble_eq_true rfl⟩) ⟨fun a U g mk q => q, fun U hU hW => ⟨rfl, hU⟩⟩ rfl rfl hl.1 rfl (lv_room (Nat.le_of_ble_eq_true rfl)) dX0_settle_57 ⟨Nat.le_of_ble_eq_true rfl, Nat.le_of_ble_eq_true rfl⟩) hS (fun q _ h => h.elim) (fun q h => h.elim) (fun r3 u3 t H1 locs ht hvm hw hB hz1 hk1 hS => ?_)
      have e9 := hB.symm.trans ht
      subst e9
      subst hw
      refine lv_ldcf (v := 1056964608) hx hb hown (hts (.constantFloat RX0 128 (1056964608)) (by decide +kernel)) dX0_settle_60 ?_
      refine lv_fmul hx hb dX0_settle_62 (nn_half _ _) ?_
      refine lv_fadd hx hb dX0_settle_63 (nn_add hmo (half_fin _ _)) ?_
      refine va_put (D := dG) (ci := 0) (v := .float (FP.fadd mo (FP.fmul (fWorth ((Y h) - (S h)) (P (h % 24))) 1056964608))) (ty := .float) (C := RX0) (T := TX0) (N := 15) hx hb hts hinX tyX0 tyX0_ok nmX0 hown hK hP hD hS 0 rfl rfl 14 (by decide) (hts (.fieldLink RX0 66 "TidegateBourse" "balance" "F") (by decide +kernel)) (fun _ h9 => h9) rfl (by decide +kernel) rfl rfl (Nat.le_of_ble_eq_true rfl) dX0_settle_64 (fun H locs hP hD hS => ?_)
      have hP : va_P dG vwCl (xW A cA L P G V R N Y S wd (nI T) ft fl ce (nI h) (FP.fadd mo (FP.fmul (fWorth ((Y h) - (S h)) (P (h % 24))) 1056964608))) H := hP
      have hD : va_D F (xW A cA L P G V R N Y S wd (nI T) ft fl ce (nI h) (FP.fadd mo (FP.fmul (fWorth ((Y h) - (S h)) (P (h % 24))) 1056964608))) := hD
      exact W.vret hx hb hr (fun t ht hW => ⟨⟨(L, P, G, V, R, N, Y, S, wd, (nI T), ft, fl, ce, (nI h), (FP.fadd mo (FP.fmul (fWorth ((Y h) - (S h)) (P (h % 24))) 1056964608))), rfl, congrArg (fun z => (L, P, G, V, R, N, Y, S, wd, (nI T), ft, fl, ce, (nI h), z)) (Eq.symm (by unfold xMo; rw [if_pos cq1, if_neg cq2])), by rw [ht]; exact hP, va_K.moved hW.alike hK, hD⟩, hS.F ht⟩) hS.2.2 dX0_settle_67
  · refine lv_aload_n hx hb dX0_settle_28 rfl (lv_at hl 2 rfl) ?_
    refine lv_aload_n hx hb dX0_settle_29 rfl (lv_at hl 2 rfl) ?_
    refine va_get (D := dG) (ci := 0) (v := .float mo) (C := RX0) (T := TX0) (N := 15) hx hb hts hinX hown hK hP 0 rfl rfl 14 (by decide) (hts (.fieldLink RX0 66 "TidegateBourse" "balance" "F") (by decide +kernel)) (fun _ h9 => h9) rfl dX0_settle_30 ?_
    refine lv_iload_n hx hb dX0_settle_33 rfl (lv_at hl 0 rfl) ?_
    refine lv_ineg hx hb dX0_settle_34 ?_
    refine lv_iload_n hx hb dX0_settle_35 rfl (lv_at hl 1 rfl) ?_
    refine va_callf (va_runS (As := [.int (-((Y h) - (S h))), .int (P (h % 24))]) (rest := [.float mo, .ref (A 0)]) ⟨hx, hb, hml, hown, hts⟩ (c_X0_worth l s.heap (-((Y h) - (S h))) (P (h % 24)) (nn_mul _ _)) (va_cwS 2 hts gX0_settle_X0_worth rfl rfl rfl (by decide +kernel) ⟨Nat.le_of_ble_eq_true rfl, Nat.le_of_ble_eq_true rfl⟩) ⟨fun a U g mk q => q, fun U hU hW => ⟨rfl, hU⟩⟩ rfl rfl hl.1 rfl (lv_room (Nat.le_of_ble_eq_true rfl)) dX0_settle_36 ⟨Nat.le_of_ble_eq_true rfl, Nat.le_of_ble_eq_true rfl⟩) hS (fun q _ h => h.elim) (fun q h => h.elim) (fun r4 u4 t H1 locs ht hvm hw hB hz1 hk1 hS => ?_)
    have e9 := hB.symm.trans ht
    subst e9
    subst hw
    refine lv_fsub hx hb dX0_settle_39 (nn_sub hmo (mul_fin _ _)) ?_
    refine va_put (D := dG) (ci := 0) (v := .float (FP.fsub mo (fWorth (-((Y h) - (S h))) (P (h % 24))))) (ty := .float) (C := RX0) (T := TX0) (N := 15) hx hb hts hinX tyX0 tyX0_ok nmX0 hown hK hP hD hS 0 rfl rfl 14 (by decide) (hts (.fieldLink RX0 66 "TidegateBourse" "balance" "F") (by decide +kernel)) (fun _ h9 => h9) rfl (by decide +kernel) rfl rfl (Nat.le_of_ble_eq_true rfl) dX0_settle_40 (fun H locs hP hD hS => ?_)
    have hP : va_P dG vwCl (xW A cA L P G V R N Y S wd (nI T) ft fl ce (nI h) (FP.fsub mo (fWorth (-((Y h) - (S h))) (P (h % 24))))) H := hP
    have hD : va_D F (xW A cA L P G V R N Y S wd (nI T) ft fl ce (nI h) (FP.fsub mo (fWorth (-((Y h) - (S h))) (P (h % 24))))) := hD
    refine lv_goto (tgt := 67) hx hb dX0_settle_43 (by decide) ?_
    exact W.vret hx hb hr (fun t ht hW => ⟨⟨(L, P, G, V, R, N, Y, S, wd, (nI T), ft, fl, ce, (nI h), (FP.fsub mo (fWorth (-((Y h) - (S h))) (P (h % 24))))), rfl, congrArg (fun z => (L, P, G, V, R, N, Y, S, wd, (nI T), ft, fl, ce, (nI h), z)) (Eq.symm (by unfold xMo; rw [if_neg cq1])), by rw [ht]; exact hP, va_K.moved hW.alike hK, hD⟩, hS.F ht⟩) hS.2.2 dX0_settle_67
abbrev XG : Type := (Nat → Int32) × (Nat → Int32) × (Nat → Int32) × Int32 × Int32 × UInt32
def xCe (nt : Int32) (h : Nat) (ce : Int32) : Int32 := if fRun nt = 0 then ce else nI (h + 3)
def xGo (L P G R S : Nat → Int32) (wd fl : Int32) (T h : Nat) (g : XG) : XG :=
  ((xMk G R (xCe (xNoteF L G R wd g.2.2.2.1 fl T h) h g.2.2.2.2.1) (nI h) (fHead (xNoteF L G R wd g.2.2.2.1 fl T h)) g.1 T).1,
   upd g.2.1 h (xNoteF L G R wd g.2.2.2.1 fl T h),
   upd g.2.2.1 h (xMk G R (xCe (xNoteF L G R wd g.2.2.2.1 fl T h) h g.2.2.2.2.1) (nI h) (fHead (xNoteF L G R wd g.2.2.2.1 fl T h)) g.1 T).2,
   0, xCe (xNoteF L G R wd g.2.2.2.1 fl T h) h g.2.2.2.2.1,
   xMo g.2.2.2.2.2 (upd g.2.2.1 h (xMk G R (xCe (xNoteF L G R wd g.2.2.2.1 fl T h) h g.2.2.2.2.1) (nI h) (fHead (xNoteF L G R wd g.2.2.2.1 fl T h)) g.1 T).2 h) (S h) (P (h % 24)))
abbrev xTup (L P G R S : Nat → Int32) (wd fl : Int32) (T h : Nat) (g : XG) : XS := (L, P, G, g.1, R, g.2.1, g.2.2.1, S, wd, nI T, g.2.2.2.1, fl, g.2.2.2.2.1, nI h, g.2.2.2.2.2)
set_option maxHeartbeats 4000000 in
set_option maxRecDepth 100000 in
theorem c_X0_goBy (l : Launch) (dG : va_G) (a A : Nat → Nat) (cA : ClassId) (Hp : Heap) (L P G V R N Y S : Nat → Int32) (T h : Nat) (wd ft fl ce : Int32) (mo : UInt32)  (hT : T ≤ 4) (hh : h < 500) (hmo : FP.Core.FFin mo) : Met l yX0_goBy wsX0_goBy ({ frames := 4, cells := 0, slots := 0, locals := 100 }) (va_Pc [.ref (A 0), .int (nI h)] (fun U => wPre dG (tyI cA) (xW A cA L P G V R N Y S wd (nI T) ft fl ce (nI h) mo) Hp U)) (va_Qv (fun (u : XS) => u = xTup L P G R S wd fl T (h + 1) (xGo L P G R S wd fl T h (V, N, Y, ft, ce, mo))) (fun u t => wAt dG (tyI cA) (va_A (xW A cA L P G V R N Y S wd (nI T) ft fl ce (nI h) mo) Hp.size) (xU A cA u) t) (va_A (xW A cA L P G V R N Y S wd (nI T) ft fl ce (nI h) mo) Hp.size)) 0 0 (va_A (xW A cA L P G V R N Y S wd (nI T) ft fl ce (nI h) mo) Hp.size) := by
  refine Met.ofW (cc := cX0_goBy) (maxL := 3) (ret := none) (by decide) rfl ?_
  intro p e s m args below meth c s₁ Bd hml hv
  obtain ⟨rfl, hH, hP, hK, hD0⟩ := hv
  subst hH
  have hK : va_K dG vwCl (tyI cA) s := hK
  have hx := Bd.exec
  have hb := Bd.bytes
  have hr := Bd.returns
  have hts := atoms_spec (ws := wsX0_goBy) Bd.pre
  have hown : s.vm.findClass RX0 = some m.cls := findClass_of_methodNamed Bd.named
  have hlocks := Bd.notSynchronized
  have hinX : ∀ w ∈ wsX00, w ∈ wsX0_goBy := by decide +kernel
  have hD := hD0.self (sz := s.heap.size)
  generalize hAe : va_A (xW A cA L P G V R N Y S wd (nI T) ft fl ce (nI h) mo) s.heap.size = F at hD ⊢
  have hA : ∀ q : Nat, s.heap.size ≤ q → F q := fun q h => by rw [← hAe]; exact Or.inr h
  have hS : va_S F s.heap s.heap [] := va_S.rf
  have hP : va_P dG vwCl (xW A cA L P G V R N Y S wd (nI T) ft fl ce (nI h) mo) s.heap := hP
  have hl := lv_entry ([.ref (A 0), .int (nI h)]) (n := 3) (Nat.le_of_ble_eq_true rfl)
  rw [lg_entry_eq]
  generalize (lg_sl ([.ref (A 0), .int (nI h)]) ++ List.replicate (3 - (lg_sl ([.ref (A 0), .int (nI h)])).length) Slot.unset).toArray = ls at hl ⊢
  have hl : lv_has ls 3 [(0, .ref (A 0)), (1, .int (nI h))] := hl
  refine lv_aload_n hx hb dX0_goBy_0 rfl (lv_at hl 0 rfl) ?_
  refine lv_iload_n hx hb dX0_goBy_1 rfl (lv_at hl 1 rfl) ?_
  have hFc := va_free (wc := (xW A cA L P G V R N Y S wd (nI T) ft fl ce (nI h) mo)) hD hS hA [0, 1, 2, 3, 4, 5, 6, 7, 8] rfl
  refine va_calli (va_runV (As := [.int (nI h)]) (rest := []) ⟨hx, hb, hml, hown, hts⟩ (c_X0_noteFor l dG a A cA s.heap L P G V R N Y S T h wd ft fl ce mo  hT hh) (cwV 1 hts gX0_goBy_X0_noteFor rfl rfl rfl (by decide +kernel) ⟨Nat.le_of_ble_eq_true rfl, Nat.le_of_ble_eq_true rfl⟩) ⟨fun a U g mk q => ⟨q.1, wPre_calling g mk a q.2⟩, va_recv hK hP (ci := 0) (q0 := 0) rfl rfl, fun U hU hW => ⟨rfl, wPre_of hK hP hD hU hW⟩⟩ rfl rfl hl.1 rfl (lv_room (Nat.le_of_ble_eq_true rfl)) dX0_goBy_2 ⟨Nat.le_of_ble_eq_true rfl, Nat.le_of_ble_eq_true rfl⟩) hS (fun q _ h => h.elim) hFc (fun r1 u1 t H1 locs ht hvm hw hB hz1 hk1 hS => ?_)
  have e9 := hB.symm.trans ht
  subst e9
  subst hw
  refine lv_istore_n (lv' := [(2, .int (xNoteF L G R wd ft fl T h)), (0, .ref (A 0)), (1, .int (nI h))]) hx hb dX0_goBy_5 rfl hl (by decide) rfl (fun ls hl => ?_)
  refine lv_iload_n hx hb dX0_goBy_6 rfl (lv_at hl 0 rfl) ?_
  refine va_calli (va_runS (As := [.int (xNoteF L G R wd ft fl T h)]) (rest := []) ⟨hx, hb, hml, hown, hts⟩ (c_X0_notedRun l s.heap (xNoteF L G R wd ft fl T h)) (va_cwS 1 hts gX0_goBy_X0_notedRun rfl rfl rfl (by decide +kernel) ⟨Nat.le_of_ble_eq_true rfl, Nat.le_of_ble_eq_true rfl⟩) ⟨fun a U g mk q => q, fun U hU hW => ⟨rfl, hU⟩⟩ rfl rfl hl.1 rfl (lv_room (Nat.le_of_ble_eq_true rfl)) dX0_goBy_7 ⟨Nat.le_of_ble_eq_true rfl, Nat.le_of_ble_eq_true rfl⟩) hS (fun q _ h => h.elim) (fun q h => h.elim) (fun r2 u2 t H1 locs ht hvm hw hB hz1 hk1 hS => ?_)
  have e9 := hB.symm.trans ht
  subst e9
  subst hw
  refine lv_if_eq (tgt := 20) hx hb dX0_goBy_10 (by decide) (fun cq3 => ?_) (fun cq3 => ?_)
  · refine lv_aload_n hx hb dX0_goBy_20 rfl (lv_at hl 1 rfl) ?_
    refine va_get (D := dG) (ci := 0) (v := .ref (A 6)) (C := RX0) (T := TX0) (N := 15) hx hb hts hinX hown hK hP 0 rfl rfl 5 (by decide) (hts (.fieldLink RX0 25 "TidegateBourse" "notes" "[I") (by decide +kernel)) (fun _ h9 => h9) rfl dX0_goBy_21 ?_
    refine lv_iload_n hx hb dX0_goBy_24 rfl (lv_at hl 2 rfl) ?_
    refine lv_iload_n hx hb dX0_goBy_25 rfl (lv_at hl 0 rfl) ?_
    refine va_iast hx hb hK hP hD hS 6 0 rfl rfl (vp_in_nI (by omega) (by omega)) dX0_goBy_26 (fun H locs hP hD hS => ?_)
    rw [nI_clamp (n := h) (by omega)] at hP hD
    have hP : va_P dG vwCl (xW A cA L P G V R (upd N h (xNoteF L G R wd ft fl T h)) Y S wd (nI T) ft fl ce (nI h) mo) H := hP
    have hD : va_D F (xW A cA L P G V R (upd N h (xNoteF L G R wd ft fl T h)) Y S wd (nI T) ft fl ce (nI h) mo) := hD
    refine lv_aload_n hx hb dX0_goBy_27 rfl (lv_at hl 1 rfl) ?_
    refine va_get (D := dG) (ci := 0) (v := .ref (A 7)) (C := RX0) (T := TX0) (N := 15) hx hb hts hinX hown hK hP 0 rfl rfl 6 (by decide) (hts (.fieldLink RX0 28 "TidegateBourse" "madeUnits" "[I") (by decide +kernel)) (fun _ h9 => h9) rfl dX0_goBy_28 ?_
    refine lv_iload_n hx hb dX0_goBy_31 rfl (lv_at hl 2 rfl) ?_
    refine lv_aload_n hx hb dX0_goBy_32 rfl (lv_at hl 1 rfl) ?_
    refine lv_iload_n hx hb dX0_goBy_33 rfl (lv_at hl 2 rfl) ?_
    refine lv_iload_n hx hb dX0_goBy_34 rfl (lv_at hl 0 rfl) ?_
    refine va_calli (va_runS (As := [.int (xNoteF L G R wd ft fl T h)]) (rest := [.int (nI h), .ref (A 0), .int (nI h), .ref (A 7)]) ⟨hx, hb, hml, hown, hts⟩ (c_X0_notedHead l H (xNoteF L G R wd ft fl T h)) (va_cwS 1 hts gX0_goBy_X0_notedHead rfl rfl rfl (by decide +kernel) ⟨Nat.le_of_ble_eq_true rfl, Nat.le_of_ble_eq_true rfl⟩) ⟨fun a U g mk q => q, fun U hU hW => ⟨rfl, hU⟩⟩ rfl rfl hl.1 rfl (lv_room (Nat.le_of_ble_eq_true rfl)) dX0_goBy_35 ⟨Nat.le_of_ble_eq_true rfl, Nat.le_of_ble_eq_true rfl⟩) hS (fun q _ h => h.elim) (fun q h => h.elim) (fun r4 u4 t H1 locs ht hvm hw hB hz1 hk1 hS => ?_)
    have e9 := hB.symm.trans ht
    subst e9
    subst hw
    have hFc := va_free (wc := (xW A cA L P G V R (upd N h (xNoteF L G R wd ft fl T h)) Y S wd (nI T) ft fl ce (nI h) mo)) hD hS hA [0, 1, 2, 3, 4, 5, 6, 7, 8] rfl
    refine va_calli (va_runV (As := [.int (nI h), .int (fHead (xNoteF L G R wd ft fl T h))]) (rest := [.int (nI h), .ref (A 7)]) ⟨hx, hb, hml, hown, hts⟩ (c_X0_makeUnits l dG a A cA H L P G V R (upd N h (xNoteF L G R wd ft fl T h)) Y S T h wd ft fl ce mo (fHead (xNoteF L G R wd ft fl T h)) hT hh) (cwV 2 hts gX0_goBy_X0_makeUnits rfl rfl rfl (by decide +kernel) ⟨Nat.le_of_ble_eq_true rfl, Nat.le_of_ble_eq_true rfl⟩) ⟨fun a U g mk q => ⟨q.1, wPre_calling g mk a q.2⟩, va_recv hK hP (ci := 0) (q0 := 0) rfl rfl, fun U hU hW => ⟨rfl, wPre_of hK hP hD hU hW⟩⟩ rfl rfl hl.1 rfl (lv_room (Nat.le_of_ble_eq_true rfl)) dX0_goBy_38 ⟨Nat.le_of_ble_eq_true rfl, Nat.le_of_ble_eq_true rfl⟩) hS (fun q _ h => hFc q h) hFc (fun r5 u5 t H locs ht hvm hw hB hz1 hk1 hS => ?_)
    obtain ⟨hP1, hK1, hD1⟩ := hB
    rw [ht] at hP1
    obtain ⟨hw1, hw2⟩ := hw
    subst hw1
    subst hw2
    obtain ⟨hP, hD⟩ := va_join (wr := []) (w1 := (xW A cA L P G ((xMk G R ce (nI h) (fHead (xNoteF L G R wd ft fl T h)) V T).1) R (upd N h (xNoteF L G R wd ft fl T h)) Y S wd (nI T) ft fl ce (nI h) mo)) hP hD [0, 1, 2, 3, 4, 5, 6, 7, 8] [] rfl rfl (by decide) (by decide) hk1 hFc hP1 hD1
    have hP : va_P dG vwCl (xW A cA L P G ((xMk G R ce (nI h) (fHead (xNoteF L G R wd ft fl T h)) V T).1) R (upd N h (xNoteF L G R wd ft fl T h)) Y S wd (nI T) ft fl ce (nI h) mo) H := hP
    have hD : va_D F (xW A cA L P G ((xMk G R ce (nI h) (fHead (xNoteF L G R wd ft fl T h)) V T).1) R (upd N h (xNoteF L G R wd ft fl T h)) Y S wd (nI T) ft fl ce (nI h) mo) := hD
    refine va_iast hx hb hK hP hD hS 7 0 rfl rfl (vp_in_nI (by omega) (by omega)) dX0_goBy_41 (fun H locs hP hD hS => ?_)
    rw [nI_clamp (n := h) (by omega)] at hP hD
    have hP : va_P dG vwCl (xW A cA L P G ((xMk G R ce (nI h) (fHead (xNoteF L G R wd ft fl T h)) V T).1) R (upd N h (xNoteF L G R wd ft fl T h)) (upd Y h ((xMk G R ce (nI h) (fHead (xNoteF L G R wd ft fl T h)) V T).2)) S wd (nI T) ft fl ce (nI h) mo) H := hP
    have hD : va_D F (xW A cA L P G ((xMk G R ce (nI h) (fHead (xNoteF L G R wd ft fl T h)) V T).1) R (upd N h (xNoteF L G R wd ft fl T h)) (upd Y h ((xMk G R ce (nI h) (fHead (xNoteF L G R wd ft fl T h)) V T).2)) S wd (nI T) ft fl ce (nI h) mo) := hD
    refine lv_aload_n hx hb dX0_goBy_42 rfl (lv_at hl 1 rfl) ?_
    refine lv_iload_n hx hb dX0_goBy_43 rfl (lv_at hl 2 rfl) ?_
    have hFc := va_free (wc := (xW A cA L P G ((xMk G R ce (nI h) (fHead (xNoteF L G R wd ft fl T h)) V T).1) R (upd N h (xNoteF L G R wd ft fl T h)) (upd Y h ((xMk G R ce (nI h) (fHead (xNoteF L G R wd ft fl T h)) V T).2)) S wd (nI T) ft fl ce (nI h) mo)) hD hS hA [0, 1, 2, 3, 4, 5, 6, 7, 8] rfl
    refine va_callv (va_runV (As := [.int (nI h)]) (rest := []) ⟨hx, hb, hml, hown, hts⟩ (c_X0_settle l dG a A cA H L P G ((xMk G R ce (nI h) (fHead (xNoteF L G R wd ft fl T h)) V T).1) R (upd N h (xNoteF L G R wd ft fl T h)) (upd Y h ((xMk G R ce (nI h) (fHead (xNoteF L G R wd ft fl T h)) V T).2)) S T h wd ft fl ce mo  hT hh hmo) (cwV 1 hts gX0_goBy_X0_settle rfl rfl rfl (by decide +kernel) ⟨Nat.le_of_ble_eq_true rfl, Nat.le_of_ble_eq_true rfl⟩) ⟨fun a U g mk q => ⟨q.1, wPre_calling g mk a q.2⟩, va_recv hK hP (ci := 0) (q0 := 0) rfl rfl, fun U hU hW => ⟨rfl, wPre_of hK hP hD hU hW⟩⟩ rfl rfl hl.1 rfl (lv_room (Nat.le_of_ble_eq_true rfl)) dX0_goBy_44 ⟨Nat.le_of_ble_eq_true rfl, Nat.le_of_ble_eq_true rfl⟩) hS (fun q _ h => hFc q h) hFc (fun u6 t H locs ht hvm hw hB hz1 hk1 hS => ?_)
    obtain ⟨hP1, hK1, hD1⟩ := hB
    rw [ht] at hP1
    subst hw
    obtain ⟨hP, hD⟩ := va_join (wr := []) (w1 := (xW A cA L P G ((xMk G R ce (nI h) (fHead (xNoteF L G R wd ft fl T h)) V T).1) R (upd N h (xNoteF L G R wd ft fl T h)) (upd Y h ((xMk G R ce (nI h) (fHead (xNoteF L G R wd ft fl T h)) V T).2)) S wd (nI T) ft fl ce (nI h) (xMo mo ((upd Y h ((xMk G R ce (nI h) (fHead (xNoteF L G R wd ft fl T h)) V T).2)) h) (S h) (P (h % 24))))) hP hD [0, 1, 2, 3, 4, 5, 6, 7, 8] [] rfl rfl (by decide) (by decide) hk1 hFc hP1 hD1
    have hP : va_P dG vwCl (xW A cA L P G ((xMk G R ce (nI h) (fHead (xNoteF L G R wd ft fl T h)) V T).1) R (upd N h (xNoteF L G R wd ft fl T h)) (upd Y h ((xMk G R ce (nI h) (fHead (xNoteF L G R wd ft fl T h)) V T).2)) S wd (nI T) ft fl ce (nI h) (xMo mo ((upd Y h ((xMk G R ce (nI h) (fHead (xNoteF L G R wd ft fl T h)) V T).2)) h) (S h) (P (h % 24)))) H := hP
    have hD : va_D F (xW A cA L P G ((xMk G R ce (nI h) (fHead (xNoteF L G R wd ft fl T h)) V T).1) R (upd N h (xNoteF L G R wd ft fl T h)) (upd Y h ((xMk G R ce (nI h) (fHead (xNoteF L G R wd ft fl T h)) V T).2)) S wd (nI T) ft fl ce (nI h) (xMo mo ((upd Y h ((xMk G R ce (nI h) (fHead (xNoteF L G R wd ft fl T h)) V T).2)) h) (S h) (P (h % 24)))) := hD
    refine lv_aload_n hx hb dX0_goBy_47 rfl (lv_at hl 1 rfl) ?_
    refine lv_iconst (v := 0) hx hb dX0_goBy_48 (by decide) ?_
    refine va_put (D := dG) (ci := 0) (v := .int 0) (ty := .int) (C := RX0) (T := TX0) (N := 15) hx hb hts hinX tyX0 tyX0_ok nmX0 hown hK hP hD hS 0 rfl rfl 10 (by decide) (hts (.fieldLink RX0 61 "TidegateBourse" "fishTold" "I") (by decide +kernel)) (fun _ h9 => h9) rfl (by decide +kernel) rfl rfl (Nat.le_of_ble_eq_true rfl) dX0_goBy_49 (fun H locs hP hD hS => ?_)
    have hP : va_P dG vwCl (xW A cA L P G ((xMk G R ce (nI h) (fHead (xNoteF L G R wd ft fl T h)) V T).1) R (upd N h (xNoteF L G R wd ft fl T h)) (upd Y h ((xMk G R ce (nI h) (fHead (xNoteF L G R wd ft fl T h)) V T).2)) S wd (nI T) 0 fl ce (nI h) (xMo mo ((upd Y h ((xMk G R ce (nI h) (fHead (xNoteF L G R wd ft fl T h)) V T).2)) h) (S h) (P (h % 24)))) H := hP
    have hD : va_D F (xW A cA L P G ((xMk G R ce (nI h) (fHead (xNoteF L G R wd ft fl T h)) V T).1) R (upd N h (xNoteF L G R wd ft fl T h)) (upd Y h ((xMk G R ce (nI h) (fHead (xNoteF L G R wd ft fl T h)) V T).2)) S wd (nI T) 0 fl ce (nI h) (xMo mo ((upd Y h ((xMk G R ce (nI h) (fHead (xNoteF L G R wd ft fl T h)) V T).2)) h) (S h) (P (h % 24)))) := hD
    refine lv_aload_n hx hb dX0_goBy_52 rfl (lv_at hl 1 rfl) ?_
    refine lv_iload_n hx hb dX0_goBy_53 rfl (lv_at hl 2 rfl) ?_
    refine lv_iconst (v := 1) hx hb dX0_goBy_54 (by decide) ?_
    refine lv_iadd hx hb dX0_goBy_55 ?_
    refine lv_topi (fun v9 e9 => ?_)
    have e9 := e9.trans (nI_add h 1)
    subst e9
    refine va_put (D := dG) (ci := 0) (v := .int (nI (h + 1))) (ty := .int) (C := RX0) (T := TX0) (N := 15) hx hb hts hinX tyX0 tyX0_ok nmX0 hown hK hP hD hS 0 rfl rfl 13 (by decide) (hts (.fieldLink RX0 58 "TidegateBourse" "nextHour" "I") (by decide +kernel)) (fun _ h9 => h9) rfl (by decide +kernel) rfl rfl (Nat.le_of_ble_eq_true rfl) dX0_goBy_56 (fun H locs hP hD hS => ?_)
    have hP : va_P dG vwCl (xW A cA L P G ((xMk G R ce (nI h) (fHead (xNoteF L G R wd ft fl T h)) V T).1) R (upd N h (xNoteF L G R wd ft fl T h)) (upd Y h ((xMk G R ce (nI h) (fHead (xNoteF L G R wd ft fl T h)) V T).2)) S wd (nI T) 0 fl ce (nI (h + 1)) (xMo mo ((upd Y h ((xMk G R ce (nI h) (fHead (xNoteF L G R wd ft fl T h)) V T).2)) h) (S h) (P (h % 24)))) H := hP
    have hD : va_D F (xW A cA L P G ((xMk G R ce (nI h) (fHead (xNoteF L G R wd ft fl T h)) V T).1) R (upd N h (xNoteF L G R wd ft fl T h)) (upd Y h ((xMk G R ce (nI h) (fHead (xNoteF L G R wd ft fl T h)) V T).2)) S wd (nI T) 0 fl ce (nI (h + 1)) (xMo mo ((upd Y h ((xMk G R ce (nI h) (fHead (xNoteF L G R wd ft fl T h)) V T).2)) h) (S h) (P (h % 24)))) := hD
    exact W.vret hx hb hr (fun t ht hW => ⟨⟨(L, P, G, (xMk G R ce (nI h) (fHead (xNoteF L G R wd ft fl T h)) V T).1, R, (upd N h (xNoteF L G R wd ft fl T h)), (upd Y h ((xMk G R ce (nI h) (fHead (xNoteF L G R wd ft fl T h)) V T).2)), S, wd, (nI T), 0, fl, ce, (nI (h + 1)), (xMo mo ((upd Y h ((xMk G R ce (nI h) (fHead (xNoteF L G R wd ft fl T h)) V T).2)) h) (S h) (P (h % 24)))), rfl, (by simp only [xTup, xGo, xCe, if_pos cq3]), by rw [ht]; exact hP, va_K.moved hW.alike hK, hD⟩, hS.F ht⟩) hS.2.2 dX0_goBy_59
  · refine lv_aload_n hx hb dX0_goBy_13 rfl (lv_at hl 1 rfl) ?_
    refine lv_iload_n hx hb dX0_goBy_14 rfl (lv_at hl 2 rfl) ?_
    refine lv_iconst (v := 3) hx hb dX0_goBy_15 (by decide) ?_
    refine lv_iadd hx hb dX0_goBy_16 ?_
    refine lv_topi (fun v9 e9 => ?_)
    have e9 := e9.trans (nI_add h 3)
    subst e9
    refine va_put (D := dG) (ci := 0) (v := .int (nI (h + 3))) (ty := .int) (C := RX0) (T := TX0) (N := 15) hx hb hts hinX tyX0 tyX0_ok nmX0 hown hK hP hD hS 0 rfl rfl 12 (by decide) (hts (.fieldLink RX0 93 "TidegateBourse" "closedEnd" "I") (by decide +kernel)) (fun _ h9 => h9) rfl (by decide +kernel) rfl rfl (Nat.le_of_ble_eq_true rfl) dX0_goBy_17 (fun H locs hP hD hS => ?_)
    have hP : va_P dG vwCl (xW A cA L P G V R N Y S wd (nI T) ft fl (nI (h + 3)) (nI h) mo) H := hP
    have hD : va_D F (xW A cA L P G V R N Y S wd (nI T) ft fl (nI (h + 3)) (nI h) mo) := hD
    refine lv_aload_n hx hb dX0_goBy_20 rfl (lv_at hl 1 rfl) ?_
    refine va_get (D := dG) (ci := 0) (v := .ref (A 6)) (C := RX0) (T := TX0) (N := 15) hx hb hts hinX hown hK hP 0 rfl rfl 5 (by decide) (hts (.fieldLink RX0 25 "TidegateBourse" "notes" "[I") (by decide +kernel)) (fun _ h9 => h9) rfl dX0_goBy_21 ?_
    refine lv_iload_n hx hb dX0_goBy_24 rfl (lv_at hl 2 rfl) ?_
    refine lv_iload_n hx hb dX0_goBy_25 rfl (lv_at hl 0 rfl) ?_
    refine va_iast hx hb hK hP hD hS 6 0 rfl rfl (vp_in_nI (by omega) (by omega)) dX0_goBy_26 (fun H locs hP hD hS => ?_)
    rw [nI_clamp (n := h) (by omega)] at hP hD
    have hP : va_P dG vwCl (xW A cA L P G V R (upd N h (xNoteF L G R wd ft fl T h)) Y S wd (nI T) ft fl (nI (h + 3)) (nI h) mo) H := hP
    have hD : va_D F (xW A cA L P G V R (upd N h (xNoteF L G R wd ft fl T h)) Y S wd (nI T) ft fl (nI (h + 3)) (nI h) mo) := hD
    refine lv_aload_n hx hb dX0_goBy_27 rfl (lv_at hl 1 rfl) ?_
    refine va_get (D := dG) (ci := 0) (v := .ref (A 7)) (C := RX0) (T := TX0) (N := 15) hx hb hts hinX hown hK hP 0 rfl rfl 6 (by decide) (hts (.fieldLink RX0 28 "TidegateBourse" "madeUnits" "[I") (by decide +kernel)) (fun _ h9 => h9) rfl dX0_goBy_28 ?_
    refine lv_iload_n hx hb dX0_goBy_31 rfl (lv_at hl 2 rfl) ?_
    refine lv_aload_n hx hb dX0_goBy_32 rfl (lv_at hl 1 rfl) ?_
    refine lv_iload_n hx hb dX0_goBy_33 rfl (lv_at hl 2 rfl) ?_
    refine lv_iload_n hx hb dX0_goBy_34 rfl (lv_at hl 0 rfl) ?_
    refine va_calli (va_runS (As := [.int (xNoteF L G R wd ft fl T h)]) (rest := [.int (nI h), .ref (A 0), .int (nI h), .ref (A 7)]) ⟨hx, hb, hml, hown, hts⟩ (c_X0_notedHead l H (xNoteF L G R wd ft fl T h)) (va_cwS 1 hts gX0_goBy_X0_notedHead rfl rfl rfl (by decide +kernel) ⟨Nat.le_of_ble_eq_true rfl, Nat.le_of_ble_eq_true rfl⟩) ⟨fun a U g mk q => q, fun U hU hW => ⟨rfl, hU⟩⟩ rfl rfl hl.1 rfl (lv_room (Nat.le_of_ble_eq_true rfl)) dX0_goBy_35 ⟨Nat.le_of_ble_eq_true rfl, Nat.le_of_ble_eq_true rfl⟩) hS (fun q _ h => h.elim) (fun q h => h.elim) (fun r7 u7 t H1 locs ht hvm hw hB hz1 hk1 hS => ?_)
    have e9 := hB.symm.trans ht
    subst e9
    subst hw
    have hFc := va_free (wc := (xW A cA L P G V R (upd N h (xNoteF L G R wd ft fl T h)) Y S wd (nI T) ft fl (nI (h + 3)) (nI h) mo)) hD hS hA [0, 1, 2, 3, 4, 5, 6, 7, 8] rfl
    refine va_calli (va_runV (As := [.int (nI h), .int (fHead (xNoteF L G R wd ft fl T h))]) (rest := [.int (nI h), .ref (A 7)]) ⟨hx, hb, hml, hown, hts⟩ (c_X0_makeUnits l dG a A cA H L P G V R (upd N h (xNoteF L G R wd ft fl T h)) Y S T h wd ft fl (nI (h + 3)) mo (fHead (xNoteF L G R wd ft fl T h)) hT hh) (cwV 2 hts gX0_goBy_X0_makeUnits rfl rfl rfl (by decide +kernel) ⟨Nat.le_of_ble_eq_true rfl, Nat.le_of_ble_eq_true rfl⟩) ⟨fun a U g mk q => ⟨q.1, wPre_calling g mk a q.2⟩, va_recv hK hP (ci := 0) (q0 := 0) rfl rfl, fun U hU hW => ⟨rfl, wPre_of hK hP hD hU hW⟩⟩ rfl rfl hl.1 rfl (lv_room (Nat.le_of_ble_eq_true rfl)) dX0_goBy_38 ⟨Nat.le_of_ble_eq_true rfl, Nat.le_of_ble_eq_true rfl⟩) hS (fun q _ h => hFc q h) hFc (fun r8 u8 t H locs ht hvm hw hB hz1 hk1 hS => ?_)
    obtain ⟨hP1, hK1, hD1⟩ := hB
    rw [ht] at hP1
    obtain ⟨hw1, hw2⟩ := hw
    subst hw1
    subst hw2
    obtain ⟨hP, hD⟩ := va_join (wr := []) (w1 := (xW A cA L P G ((xMk G R (nI (h + 3)) (nI h) (fHead (xNoteF L G R wd ft fl T h)) V T).1) R (upd N h (xNoteF L G R wd ft fl T h)) Y S wd (nI T) ft fl (nI (h + 3)) (nI h) mo)) hP hD [0, 1, 2, 3, 4, 5, 6, 7, 8] [] rfl rfl (by decide) (by decide) hk1 hFc hP1 hD1
    have hP : va_P dG vwCl (xW A cA L P G ((xMk G R (nI (h + 3)) (nI h) (fHead (xNoteF L G R wd ft fl T h)) V T).1) R (upd N h (xNoteF L G R wd ft fl T h)) Y S wd (nI T) ft fl (nI (h + 3)) (nI h) mo) H := hP
    have hD : va_D F (xW A cA L P G ((xMk G R (nI (h + 3)) (nI h) (fHead (xNoteF L G R wd ft fl T h)) V T).1) R (upd N h (xNoteF L G R wd ft fl T h)) Y S wd (nI T) ft fl (nI (h + 3)) (nI h) mo) := hD
    refine va_iast hx hb hK hP hD hS 7 0 rfl rfl (vp_in_nI (by omega) (by omega)) dX0_goBy_41 (fun H locs hP hD hS => ?_)
    rw [nI_clamp (n := h) (by omega)] at hP hD
    have hP : va_P dG vwCl (xW A cA L P G ((xMk G R (nI (h + 3)) (nI h) (fHead (xNoteF L G R wd ft fl T h)) V T).1) R (upd N h (xNoteF L G R wd ft fl T h)) (upd Y h ((xMk G R (nI (h + 3)) (nI h) (fHead (xNoteF L G R wd ft fl T h)) V T).2)) S wd (nI T) ft fl (nI (h + 3)) (nI h) mo) H := hP
    have hD : va_D F (xW A cA L P G ((xMk G R (nI (h + 3)) (nI h) (fHead (xNoteF L G R wd ft fl T h)) V T).1) R (upd N h (xNoteF L G R wd ft fl T h)) (upd Y h ((xMk G R (nI (h + 3)) (nI h) (fHead (xNoteF L G R wd ft fl T h)) V T).2)) S wd (nI T) ft fl (nI (h + 3)) (nI h) mo) := hD
    refine lv_aload_n hx hb dX0_goBy_42 rfl (lv_at hl 1 rfl) ?_
    refine lv_iload_n hx hb dX0_goBy_43 rfl (lv_at hl 2 rfl) ?_
    have hFc := va_free (wc := (xW A cA L P G ((xMk G R (nI (h + 3)) (nI h) (fHead (xNoteF L G R wd ft fl T h)) V T).1) R (upd N h (xNoteF L G R wd ft fl T h)) (upd Y h ((xMk G R (nI (h + 3)) (nI h) (fHead (xNoteF L G R wd ft fl T h)) V T).2)) S wd (nI T) ft fl (nI (h + 3)) (nI h) mo)) hD hS hA [0, 1, 2, 3, 4, 5, 6, 7, 8] rfl
    refine va_callv (va_runV (As := [.int (nI h)]) (rest := []) ⟨hx, hb, hml, hown, hts⟩ (c_X0_settle l dG a A cA H L P G ((xMk G R (nI (h + 3)) (nI h) (fHead (xNoteF L G R wd ft fl T h)) V T).1) R (upd N h (xNoteF L G R wd ft fl T h)) (upd Y h ((xMk G R (nI (h + 3)) (nI h) (fHead (xNoteF L G R wd ft fl T h)) V T).2)) S T h wd ft fl (nI (h + 3)) mo  hT hh hmo) (cwV 1 hts gX0_goBy_X0_settle rfl rfl rfl (by decide +kernel) ⟨Nat.le_of_ble_eq_true rfl, Nat.le_of_ble_eq_true rfl⟩) ⟨fun a U g mk q => ⟨q.1, wPre_calling g mk a q.2⟩, va_recv hK hP (ci := 0) (q0 := 0) rfl rfl, fun U hU hW => ⟨rfl, wPre_of hK hP hD hU hW⟩⟩ rfl rfl hl.1 rfl (lv_room (Nat.le_of_ble_eq_true rfl)) dX0_goBy_44 ⟨Nat.le_of_ble_eq_true rfl, Nat.le_of_ble_eq_true rfl⟩) hS (fun q _ h => hFc q h) hFc (fun u9 t H locs ht hvm hw hB hz1 hk1 hS => ?_)
    obtain ⟨hP1, hK1, hD1⟩ := hB
    rw [ht] at hP1
    subst hw
    obtain ⟨hP, hD⟩ := va_join (wr := []) (w1 := (xW A cA L P G ((xMk G R (nI (h + 3)) (nI h) (fHead (xNoteF L G R wd ft fl T h)) V T).1) R (upd N h (xNoteF L G R wd ft fl T h)) (upd Y h ((xMk G R (nI (h + 3)) (nI h) (fHead (xNoteF L G R wd ft fl T h)) V T).2)) S wd (nI T) ft fl (nI (h + 3)) (nI h) (xMo mo ((upd Y h ((xMk G R (nI (h + 3)) (nI h) (fHead (xNoteF L G R wd ft fl T h)) V T).2)) h) (S h) (P (h % 24))))) hP hD [0, 1, 2, 3, 4, 5, 6, 7, 8] [] rfl rfl (by decide) (by decide) hk1 hFc hP1 hD1
    have hP : va_P dG vwCl (xW A cA L P G ((xMk G R (nI (h + 3)) (nI h) (fHead (xNoteF L G R wd ft fl T h)) V T).1) R (upd N h (xNoteF L G R wd ft fl T h)) (upd Y h ((xMk G R (nI (h + 3)) (nI h) (fHead (xNoteF L G R wd ft fl T h)) V T).2)) S wd (nI T) ft fl (nI (h + 3)) (nI h) (xMo mo ((upd Y h ((xMk G R (nI (h + 3)) (nI h) (fHead (xNoteF L G R wd ft fl T h)) V T).2)) h) (S h) (P (h % 24)))) H := hP
    have hD : va_D F (xW A cA L P G ((xMk G R (nI (h + 3)) (nI h) (fHead (xNoteF L G R wd ft fl T h)) V T).1) R (upd N h (xNoteF L G R wd ft fl T h)) (upd Y h ((xMk G R (nI (h + 3)) (nI h) (fHead (xNoteF L G R wd ft fl T h)) V T).2)) S wd (nI T) ft fl (nI (h + 3)) (nI h) (xMo mo ((upd Y h ((xMk G R (nI (h + 3)) (nI h) (fHead (xNoteF L G R wd ft fl T h)) V T).2)) h) (S h) (P (h % 24)))) := hD
    refine lv_aload_n hx hb dX0_goBy_47 rfl (lv_at hl 1 rfl) ?_
    refine lv_iconst (v := 0) hx hb dX0_goBy_48 (by decide) ?_
    refine va_put (D := dG) (ci := 0) (v := .int 0) (ty := .int) (C := RX0) (T := TX0) (N := 15) hx hb hts hinX tyX0 tyX0_ok nmX0 hown hK hP hD hS 0 rfl rfl 10 (by decide) (hts (.fieldLink RX0 61 "TidegateBourse" "fishTold" "I") (by decide +kernel)) (fun _ h9 => h9) rfl (by decide +kernel) rfl rfl (Nat.le_of_ble_eq_true rfl) dX0_goBy_49 (fun H locs hP hD hS => ?_)
    have hP : va_P dG vwCl (xW A cA L P G ((xMk G R (nI (h + 3)) (nI h) (fHead (xNoteF L G R wd ft fl T h)) V T).1) R (upd N h (xNoteF L G R wd ft fl T h)) (upd Y h ((xMk G R (nI (h + 3)) (nI h) (fHead (xNoteF L G R wd ft fl T h)) V T).2)) S wd (nI T) 0 fl (nI (h + 3)) (nI h) (xMo mo ((upd Y h ((xMk G R (nI (h + 3)) (nI h) (fHead (xNoteF L G R wd ft fl T h)) V T).2)) h) (S h) (P (h % 24)))) H := hP
    have hD : va_D F (xW A cA L P G ((xMk G R (nI (h + 3)) (nI h) (fHead (xNoteF L G R wd ft fl T h)) V T).1) R (upd N h (xNoteF L G R wd ft fl T h)) (upd Y h ((xMk G R (nI (h + 3)) (nI h) (fHead (xNoteF L G R wd ft fl T h)) V T).2)) S wd (nI T) 0 fl (nI (h + 3)) (nI h) (xMo mo ((upd Y h ((xMk G R (nI (h + 3)) (nI h) (fHead (xNoteF L G R wd ft fl T h)) V T).2)) h) (S h) (P (h % 24)))) := hD
    refine lv_aload_n hx hb dX0_goBy_52 rfl (lv_at hl 1 rfl) ?_
    refine lv_iload_n hx hb dX0_goBy_53 rfl (lv_at hl 2 rfl) ?_
    refine lv_iconst (v := 1) hx hb dX0_goBy_54 (by decide) ?_
    refine lv_iadd hx hb dX0_goBy_55 ?_
    refine lv_topi (fun v9 e9 => ?_)
    have e9 := e9.trans (nI_add h 1)
    subst e9
    refine va_put (D := dG) (ci := 0) (v := .int (nI (h + 1))) (ty := .int) (C := RX0) (T := TX0) (N := 15) hx hb hts hinX tyX0 tyX0_ok nmX0 hown hK hP hD hS 0 rfl rfl 13 (by decide) (hts (.fieldLink RX0 58 "TidegateBourse" "nextHour" "I") (by decide +kernel)) (fun _ h9 => h9) rfl (by decide +kernel) rfl rfl (Nat.le_of_ble_eq_true rfl) dX0_goBy_56 (fun H locs hP hD hS => ?_)
    have hP : va_P dG vwCl (xW A cA L P G ((xMk G R (nI (h + 3)) (nI h) (fHead (xNoteF L G R wd ft fl T h)) V T).1) R (upd N h (xNoteF L G R wd ft fl T h)) (upd Y h ((xMk G R (nI (h + 3)) (nI h) (fHead (xNoteF L G R wd ft fl T h)) V T).2)) S wd (nI T) 0 fl (nI (h + 3)) (nI (h + 1)) (xMo mo ((upd Y h ((xMk G R (nI (h + 3)) (nI h) (fHead (xNoteF L G R wd ft fl T h)) V T).2)) h) (S h) (P (h % 24)))) H := hP
    have hD : va_D F (xW A cA L P G ((xMk G R (nI (h + 3)) (nI h) (fHead (xNoteF L G R wd ft fl T h)) V T).1) R (upd N h (xNoteF L G R wd ft fl T h)) (upd Y h ((xMk G R (nI (h + 3)) (nI h) (fHead (xNoteF L G R wd ft fl T h)) V T).2)) S wd (nI T) 0 fl (nI (h + 3)) (nI (h + 1)) (xMo mo ((upd Y h ((xMk G R (nI (h + 3)) (nI h) (fHead (xNoteF L G R wd ft fl T h)) V T).2)) h) (S h) (P (h % 24)))) := hD
    exact W.vret hx hb hr (fun t ht hW => ⟨⟨(L, P, G, (xMk G R (nI (h + 3)) (nI h) (fHead (xNoteF L G R wd ft fl T h)) V T).1, R, (upd N h (xNoteF L G R wd ft fl T h)), (upd Y h ((xMk G R (nI (h + 3)) (nI h) (fHead (xNoteF L G R wd ft fl T h)) V T).2)), S, wd, (nI T), 0, fl, (nI (h + 3)), (nI (h + 1)), (xMo mo ((upd Y h ((xMk G R (nI (h + 3)) (nI h) (fHead (xNoteF L G R wd ft fl T h)) V T).2)) h) (S h) (P (h % 24)))), rfl, (by simp only [xTup, xGo, xCe, if_neg cq3]), by rw [ht]; exact hP, va_K.moved hW.alike hK, hD⟩, hS.F ht⟩) hS.2.2 dX0_goBy_59
