def fMk (G V R : Nat → Int32) (cl : Int32) (k : Nat) (hd : Int32) : Int32 := (if (V k) = 1000 then 0 else (if 0 < (R k) then 0 else (if 0 < cl then 0 else (if (G k) = 0 then 0 else (if hd ≤ 60 then (if (((V k) + (G k)) + 0) ≤ 1000 then (((hd * (G k)) * (1000 - (V k))) / 8000) else (((hd * (G k)) * (1000 - (V k))) / 8000)) else (if (((V k) + (G k)) + 2) ≤ 1000 then (((hd * (G k)) * (1000 - (V k))) / 8000) else (((hd * (G k)) * (1000 - (V k))) / 8000)))))))
def fMkV (G V R : Nat → Int32) (cl : Int32) (k : Nat) (hd : Int32) : Nat → Int32 := (if (V k) = 1000 then V else (if 0 < (R k) then V else (if 0 < cl then V else (if (G k) = 0 then V else (if hd ≤ 60 then (if (((V k) + (G k)) + 0) ≤ 1000 then (upd V k (((V k) + (G k)) + 0)) else (upd V k 1000)) else (if (((V k) + (G k)) + 2) ≤ 1000 then (upd V k (((V k) + (G k)) + 2)) else (upd V k 1000)))))))
set_option maxHeartbeats 4000000 in
set_option maxRecDepth 100000 in
theorem c_X1_makes (l : Launch) (dG : va_G) (B : Nat → Nat) (cA : ClassId) (Hp : Heap) (L P G V R S Y O D : Nat → Int32) (T h : Nat) (th wd ft fl cl : Int32) (mo : UInt32) (hd : Int32) (k : Nat) (hk : k < 4) : Met l yX1_makes wsX1_makes ({ frames := 3, cells := 0, slots := 0, locals := 70 }) (va_Pc [.ref (B 0), .int (nI k), .int hd] (fun U => wPre dG (tyI cA) (mW B cA L P G V R S Y O D th (nI h) wd (nI T) ft fl cl mo) Hp U)) (va_Qi (fun (r : Int32) (u : MS) => r = fMk G V R cl k hd ∧ u = (L, P, G, (fMkV G V R cl k hd), R, S, Y, O, D, th, (nI h), wd, (nI T), ft, fl, cl, mo)) (fun u t => wAt dG (tyI cA) (va_A (mW B cA L P G V R S Y O D th (nI h) wd (nI T) ft fl cl mo) Hp.size) (mU B cA u) t) (va_A (mW B cA L P G V R S Y O D th (nI h) wd (nI T) ft fl cl mo) Hp.size)) 0 0 (va_A (mW B cA L P G V R S Y O D th (nI h) wd (nI T) ft fl cl mo) Hp.size) := by
  refine Met.ofW (cc := cX1_makes) (maxL := 5) (ret := (some .int)) (by decide) rfl ?_
  intro p e s m args below meth c s₁ Bd hml hv
  obtain ⟨rfl, hH, hP, hK, hD0⟩ := hv
  subst hH
  have hK : va_K dG vwCl (tyI cA) s := hK
  have hx := Bd.exec
  have hb := Bd.bytes
  have hr := Bd.returns
  have hts := atoms_spec (ws := wsX1_makes) Bd.pre
  have hown : s.vm.findClass RX1 = some m.cls := findClass_of_methodNamed Bd.named
  have hlocks := Bd.notSynchronized
  have hinM : ∀ w ∈ wsX10, w ∈ wsX1_makes := by decide +kernel
  have hD := hD0.self (sz := s.heap.size)
  generalize hAe : va_A (mW B cA L P G V R S Y O D th (nI h) wd (nI T) ft fl cl mo) s.heap.size = F at hD ⊢
  have hA : ∀ q : Nat, s.heap.size ≤ q → F q := fun q h => by rw [← hAe]; exact Or.inr h
  have hS : va_S F s.heap s.heap [] := va_S.rf
  have hP : va_P dG vwCl (mW B cA L P G V R S Y O D th (nI h) wd (nI T) ft fl cl mo) s.heap := hP
  have hl := lv_entry ([.ref (B 0), .int (nI k), .int hd]) (n := 5) (Nat.le_of_ble_eq_true rfl)
  rw [lg_entry_eq]
  generalize (lg_sl ([.ref (B 0), .int (nI k), .int hd]) ++ List.replicate (5 - (lg_sl ([.ref (B 0), .int (nI k), .int hd])).length) Slot.unset).toArray = ls at hl ⊢
  have hl : lv_has ls 5 [(0, .ref (B 0)), (1, .int (nI k)), (2, .int hd)] := hl
  refine lv_aload_n hx hb dX1_makes_0 rfl (lv_at hl 0 rfl) ?_
  refine va_get (D := dG) (ci := 1) (v := .ref (B 4)) (C := RX1) (T := TX1) (N := 17) hx hb hts hinM hown hK hP 0 rfl rfl 7 (by decide) (hts (.fieldLink RX1 19 "TidegateBourseModel" "wears" "[I") (by decide +kernel)) (fun _ h9 => h9) rfl dX1_makes_1 ?_
  refine lv_iload_n hx hb dX1_makes_4 rfl (lv_at hl 1 rfl) ?_
  refine va_iald hx hb hK hP 4 0 rfl rfl (vp_in_nI (by omega) (by omega)) dX1_makes_5 ?_
  refine lv_topi (fun v9 e9 => ?_)
  rw [nI_clamp (n := k) (by omega)] at e9
  subst e9
  refine lv_sipush (v := 1000) hx hb dX1_makes_6 (by decide) ?_
  refine lv_icmp_eq (tgt := 37) hx hb dX1_makes_9 (by decide) (fun cq1 => ?_) (fun cq1 => ?_)
  · refine lv_iconst (v := 0) hx hb dX1_makes_37 (by decide) ?_
    exact W.iret hx hb hr (fun t ht hW => ⟨⟨_, (L, P, G, V, R, S, Y, O, D, th, (nI h), wd, (nI T), ft, fl, cl, mo), rfl, ⟨(by unfold fMk; rw [if_pos cq1]), congrArg (fun z => (L, P, G, z, R, S, Y, O, D, th, (nI h), wd, (nI T), ft, fl, cl, mo)) (Eq.symm (by unfold fMkV; rw [if_pos cq1]))⟩, by rw [ht]; exact hP, va_K.moved hW.alike hK, hD⟩, hS.F ht⟩) hS.2.2 dX1_makes_38
  · refine lv_aload_n hx hb dX1_makes_12 rfl (lv_at hl 0 rfl) ?_
    refine va_get (D := dG) (ci := 1) (v := .ref (B 5)) (C := RX1) (T := TX1) (N := 17) hx hb hts hinM hown hK hP 0 rfl rfl 8 (by decide) (hts (.fieldLink RX1 22 "TidegateBourseModel" "repairs" "[I") (by decide +kernel)) (fun _ h9 => h9) rfl dX1_makes_13 ?_
    refine lv_iload_n hx hb dX1_makes_16 rfl (lv_at hl 1 rfl) ?_
    refine va_iald hx hb hK hP 5 0 rfl rfl (vp_in_nI (by omega) (by omega)) dX1_makes_17 ?_
    refine lv_topi (fun v9 e9 => ?_)
    rw [nI_clamp (n := k) (by omega)] at e9
    subst e9
    refine lv_if_gt (tgt := 37) hx hb dX1_makes_18 (by decide) (fun cq2 => ?_) (fun cq2 => ?_)
    · refine lv_iconst (v := 0) hx hb dX1_makes_37 (by decide) ?_
      exact W.iret hx hb hr (fun t ht hW => ⟨⟨_, (L, P, G, V, R, S, Y, O, D, th, (nI h), wd, (nI T), ft, fl, cl, mo), rfl, ⟨(by unfold fMk; rw [if_neg cq1, if_pos cq2]), congrArg (fun z => (L, P, G, z, R, S, Y, O, D, th, (nI h), wd, (nI T), ft, fl, cl, mo)) (Eq.symm (by unfold fMkV; rw [if_neg cq1, if_pos cq2]))⟩, by rw [ht]; exact hP, va_K.moved hW.alike hK, hD⟩, hS.F ht⟩) hS.2.2 dX1_makes_38
    · refine lv_aload_n hx hb dX1_makes_21 rfl (lv_at hl 0 rfl) ?_
      refine va_get (D := dG) (ci := 1) (v := .int cl) (C := RX1) (T := TX1) (N := 17) hx hb hts hinM hown hK hP 0 rfl rfl 11 (by decide) (hts (.fieldLink RX1 68 "TidegateBourseModel" "closed" "I") (by decide +kernel)) (fun _ h9 => h9) rfl dX1_makes_22 ?_
      refine lv_if_gt (tgt := 37) hx hb dX1_makes_25 (by decide) (fun cq3 => ?_) (fun cq3 => ?_)
      · refine lv_iconst (v := 0) hx hb dX1_makes_37 (by decide) ?_
        exact W.iret hx hb hr (fun t ht hW => ⟨⟨_, (L, P, G, V, R, S, Y, O, D, th, (nI h), wd, (nI T), ft, fl, cl, mo), rfl, ⟨(by unfold fMk; rw [if_neg cq1, if_neg cq2, if_pos cq3]), congrArg (fun z => (L, P, G, z, R, S, Y, O, D, th, (nI h), wd, (nI T), ft, fl, cl, mo)) (Eq.symm (by unfold fMkV; rw [if_neg cq1, if_neg cq2, if_pos cq3]))⟩, by rw [ht]; exact hP, va_K.moved hW.alike hK, hD⟩, hS.F ht⟩) hS.2.2 dX1_makes_38
      · refine lv_aload_n hx hb dX1_makes_28 rfl (lv_at hl 0 rfl) ?_
        refine va_get (D := dG) (ci := 1) (v := .ref (B 3)) (C := RX1) (T := TX1) (N := 17) hx hb hts hinM hown hK hP 0 rfl rfl 6 (by decide) (hts (.fieldLink RX1 16 "TidegateBourseModel" "gates" "[I") (by decide +kernel)) (fun _ h9 => h9) rfl dX1_makes_29 ?_
        refine lv_iload_n hx hb dX1_makes_32 rfl (lv_at hl 1 rfl) ?_
        refine va_iald hx hb hK hP 3 0 rfl rfl (vp_in_nI (by omega) (by omega)) dX1_makes_33 ?_
        refine lv_topi (fun v9 e9 => ?_)
        rw [nI_clamp (n := k) (by omega)] at e9
        subst e9
        refine lv_if_ne (tgt := 39) hx hb dX1_makes_34 (by decide) (fun cq4 => ?_) (fun cq4 => ?_)
        · refine lv_iload_n hx hb dX1_makes_39 rfl (lv_at hl 2 rfl) ?_
          refine lv_aload_n hx hb dX1_makes_40 rfl (lv_at hl 0 rfl) ?_
          refine va_get (D := dG) (ci := 1) (v := .ref (B 3)) (C := RX1) (T := TX1) (N := 17) hx hb hts hinM hown hK hP 0 rfl rfl 6 (by decide) (hts (.fieldLink RX1 16 "TidegateBourseModel" "gates" "[I") (by decide +kernel)) (fun _ h9 => h9) rfl dX1_makes_41 ?_
          refine lv_iload_n hx hb dX1_makes_44 rfl (lv_at hl 1 rfl) ?_
          refine va_iald hx hb hK hP 3 0 rfl rfl (vp_in_nI (by omega) (by omega)) dX1_makes_45 ?_
          refine lv_topi (fun v9 e9 => ?_)
          rw [nI_clamp (n := k) (by omega)] at e9
          subst e9
          refine lv_imul hx hb dX1_makes_46 ?_
          refine lv_sipush (v := 1000) hx hb dX1_makes_47 (by decide) ?_
          refine lv_aload_n hx hb dX1_makes_50 rfl (lv_at hl 0 rfl) ?_
          refine va_get (D := dG) (ci := 1) (v := .ref (B 4)) (C := RX1) (T := TX1) (N := 17) hx hb hts hinM hown hK hP 0 rfl rfl 7 (by decide) (hts (.fieldLink RX1 19 "TidegateBourseModel" "wears" "[I") (by decide +kernel)) (fun _ h9 => h9) rfl dX1_makes_51 ?_
          refine lv_iload_n hx hb dX1_makes_54 rfl (lv_at hl 1 rfl) ?_
          refine va_iald hx hb hK hP 4 0 rfl rfl (vp_in_nI (by omega) (by omega)) dX1_makes_55 ?_
          refine lv_topi (fun v9 e9 => ?_)
          rw [nI_clamp (n := k) (by omega)] at e9
          subst e9
          refine lv_isub hx hb dX1_makes_56 ?_
          refine lv_imul hx hb dX1_makes_57 ?_
          refine lv_sipush (v := 8000) hx hb dX1_makes_58 (by decide) ?_
          refine lv_idiv hx hb dX1_makes_61 (by decide) ?_
          refine lv_istore_n (lv' := [(3, .int (((hd * (G k)) * (1000 - (V k))) / 8000)), (0, .ref (B 0)), (1, .int (nI k)), (2, .int hd)]) hx hb dX1_makes_62 rfl hl (by decide) rfl (fun ls hl => ?_)
          refine lv_aload_n hx hb dX1_makes_63 rfl (lv_at hl 1 rfl) ?_
          refine va_get (D := dG) (ci := 1) (v := .ref (B 4)) (C := RX1) (T := TX1) (N := 17) hx hb hts hinM hown hK hP 0 rfl rfl 7 (by decide) (hts (.fieldLink RX1 19 "TidegateBourseModel" "wears" "[I") (by decide +kernel)) (fun _ h9 => h9) rfl dX1_makes_64 ?_
          refine lv_iload_n hx hb dX1_makes_67 rfl (lv_at hl 2 rfl) ?_
          refine va_iald hx hb hK hP 4 0 rfl rfl (vp_in_nI (by omega) (by omega)) dX1_makes_68 ?_
          refine lv_topi (fun v9 e9 => ?_)
          rw [nI_clamp (n := k) (by omega)] at e9
          subst e9
          refine lv_aload_n hx hb dX1_makes_69 rfl (lv_at hl 1 rfl) ?_
          refine va_get (D := dG) (ci := 1) (v := .ref (B 3)) (C := RX1) (T := TX1) (N := 17) hx hb hts hinM hown hK hP 0 rfl rfl 6 (by decide) (hts (.fieldLink RX1 16 "TidegateBourseModel" "gates" "[I") (by decide +kernel)) (fun _ h9 => h9) rfl dX1_makes_70 ?_
          refine lv_iload_n hx hb dX1_makes_73 rfl (lv_at hl 2 rfl) ?_
          refine va_iald hx hb hK hP 3 0 rfl rfl (vp_in_nI (by omega) (by omega)) dX1_makes_74 ?_
          refine lv_topi (fun v9 e9 => ?_)
          rw [nI_clamp (n := k) (by omega)] at e9
          subst e9
          refine lv_iadd hx hb dX1_makes_75 ?_
          refine lv_iload_n hx hb dX1_makes_76 rfl (lv_at hl 3 rfl) ?_
          refine lv_bipush (v := 60) hx hb dX1_makes_77 (by decide) ?_
          refine lv_icmp_le (tgt := 86) hx hb dX1_makes_79 (by decide) (fun cq5 => ?_) (fun cq5 => ?_)
          · refine lv_iconst (v := 0) hx hb dX1_makes_86 (by decide) ?_
            refine lv_iadd hx hb dX1_makes_87 ?_
            refine lv_istore (lv' := [(4, .int (((V k) + (G k)) + 0)), (3, .int (((hd * (G k)) * (1000 - (V k))) / 8000)), (0, .ref (B 0)), (1, .int (nI k)), (2, .int hd)]) hx hb dX1_makes_88 hl (by decide) rfl (fun ls hl => ?_)
            refine lv_aload_n hx hb dX1_makes_90 rfl (lv_at hl 2 rfl) ?_
            refine va_get (D := dG) (ci := 1) (v := .ref (B 4)) (C := RX1) (T := TX1) (N := 17) hx hb hts hinM hown hK hP 0 rfl rfl 7 (by decide) (hts (.fieldLink RX1 19 "TidegateBourseModel" "wears" "[I") (by decide +kernel)) (fun _ h9 => h9) rfl dX1_makes_91 ?_
            refine lv_iload_n hx hb dX1_makes_94 rfl (lv_at hl 3 rfl) ?_
            refine lv_iload hx hb dX1_makes_95 (lv_at hl 0 rfl) ?_
            refine lv_sipush (v := 1000) hx hb dX1_makes_97 (by decide) ?_
            refine lv_icmp_le (tgt := 109) hx hb dX1_makes_100 (by decide) (fun cq6 => ?_) (fun cq6 => ?_)
            · refine lv_iload hx hb dX1_makes_109 (lv_at hl 0 rfl) ?_
              refine va_iast hx hb hK hP hD hS 4 0 rfl rfl (vp_in_nI (by omega) (by omega)) dX1_makes_111 (fun H locs hP hD hS => ?_)
              rw [nI_clamp (n := k) (by omega)] at hP hD
              have hP : va_P dG vwCl (mW B cA L P G (upd V k (((V k) + (G k)) + 0)) R S Y O D th (nI h) wd (nI T) ft fl cl mo) H := hP
              have hD : va_D F (mW B cA L P G (upd V k (((V k) + (G k)) + 0)) R S Y O D th (nI h) wd (nI T) ft fl cl mo) := hD
              refine lv_iload_n hx hb dX1_makes_112 rfl (lv_at hl 1 rfl) ?_
              exact W.iret hx hb hr (fun t ht hW => ⟨⟨_, (L, P, G, (upd V k (((V k) + (G k)) + 0)), R, S, Y, O, D, th, (nI h), wd, (nI T), ft, fl, cl, mo), rfl, ⟨(by unfold fMk; rw [if_neg cq1, if_neg cq2, if_neg cq3, if_neg cq4, if_pos cq5, if_pos cq6]), congrArg (fun z => (L, P, G, z, R, S, Y, O, D, th, (nI h), wd, (nI T), ft, fl, cl, mo)) (Eq.symm (by unfold fMkV; rw [if_neg cq1, if_neg cq2, if_neg cq3, if_neg cq4, if_pos cq5, if_pos cq6]))⟩, by rw [ht]; exact hP, va_K.moved hW.alike hK, hD⟩, hS.F ht⟩) hS.2.2 dX1_makes_113
            · refine lv_sipush (v := 1000) hx hb dX1_makes_103 (by decide) ?_
              refine lv_goto (tgt := 111) hx hb dX1_makes_106 (by decide) ?_
              refine va_iast hx hb hK hP hD hS 4 0 rfl rfl (vp_in_nI (by omega) (by omega)) dX1_makes_111 (fun H locs hP hD hS => ?_)
              rw [nI_clamp (n := k) (by omega)] at hP hD
              have hP : va_P dG vwCl (mW B cA L P G (upd V k 1000) R S Y O D th (nI h) wd (nI T) ft fl cl mo) H := hP
              have hD : va_D F (mW B cA L P G (upd V k 1000) R S Y O D th (nI h) wd (nI T) ft fl cl mo) := hD
              refine lv_iload_n hx hb dX1_makes_112 rfl (lv_at hl 1 rfl) ?_
              exact W.iret hx hb hr (fun t ht hW => ⟨⟨_, (L, P, G, (upd V k 1000), R, S, Y, O, D, th, (nI h), wd, (nI T), ft, fl, cl, mo), rfl, ⟨(by unfold fMk; rw [if_neg cq1, if_neg cq2, if_neg cq3, if_neg cq4, if_pos cq5, if_neg cq6]), congrArg (fun z => (L, P, G, z, R, S, Y, O, D, th, (nI h), wd, (nI T), ft, fl, cl, mo)) (Eq.symm (by unfold fMkV; rw [if_neg cq1, if_neg cq2, if_neg cq3, if_neg cq4, if_pos cq5, if_neg cq6]))⟩, by rw [ht]; exact hP, va_K.moved hW.alike hK, hD⟩, hS.F ht⟩) hS.2.2 dX1_makes_113
          · refine lv_iconst (v := 2) hx hb dX1_makes_82 (by decide) ?_
            refine lv_goto (tgt := 87) hx hb dX1_makes_83 (by decide) ?_
            refine lv_iadd hx hb dX1_makes_87 ?_
            refine lv_istore (lv' := [(4, .int (((V k) + (G k)) + 2)), (3, .int (((hd * (G k)) * (1000 - (V k))) / 8000)), (0, .ref (B 0)), (1, .int (nI k)), (2, .int hd)]) hx hb dX1_makes_88 hl (by decide) rfl (fun ls hl => ?_)
            refine lv_aload_n hx hb dX1_makes_90 rfl (lv_at hl 2 rfl) ?_
            refine va_get (D := dG) (ci := 1) (v := .ref (B 4)) (C := RX1) (T := TX1) (N := 17) hx hb hts hinM hown hK hP 0 rfl rfl 7 (by decide) (hts (.fieldLink RX1 19 "TidegateBourseModel" "wears" "[I") (by decide +kernel)) (fun _ h9 => h9) rfl dX1_makes_91 ?_
            refine lv_iload_n hx hb dX1_makes_94 rfl (lv_at hl 3 rfl) ?_
            refine lv_iload hx hb dX1_makes_95 (lv_at hl 0 rfl) ?_
            refine lv_sipush (v := 1000) hx hb dX1_makes_97 (by decide) ?_
            refine lv_icmp_le (tgt := 109) hx hb dX1_makes_100 (by decide) (fun cq7 => ?_) (fun cq7 => ?_)
            · refine lv_iload hx hb dX1_makes_109 (lv_at hl 0 rfl) ?_
              refine va_iast hx hb hK hP hD hS 4 0 rfl rfl (vp_in_nI (by omega) (by omega)) dX1_makes_111 (fun H locs hP hD hS => ?_)
              rw [nI_clamp (n := k) (by omega)] at hP hD
              have hP : va_P dG vwCl (mW B cA L P G (upd V k (((V k) + (G k)) + 2)) R S Y O D th (nI h) wd (nI T) ft fl cl mo) H := hP
              have hD : va_D F (mW B cA L P G (upd V k (((V k) + (G k)) + 2)) R S Y O D th (nI h) wd (nI T) ft fl cl mo) := hD
              refine lv_iload_n hx hb dX1_makes_112 rfl (lv_at hl 1 rfl) ?_
              exact W.iret hx hb hr (fun t ht hW => ⟨⟨_, (L, P, G, (upd V k (((V k) + (G k)) + 2)), R, S, Y, O, D, th, (nI h), wd, (nI T), ft, fl, cl, mo), rfl, ⟨(by unfold fMk; rw [if_neg cq1, if_neg cq2, if_neg cq3, if_neg cq4, if_neg cq5, if_pos cq7]), congrArg (fun z => (L, P, G, z, R, S, Y, O, D, th, (nI h), wd, (nI T), ft, fl, cl, mo)) (Eq.symm (by unfold fMkV; rw [if_neg cq1, if_neg cq2, if_neg cq3, if_neg cq4, if_neg cq5, if_pos cq7]))⟩, by rw [ht]; exact hP, va_K.moved hW.alike hK, hD⟩, hS.F ht⟩) hS.2.2 dX1_makes_113
            · refine lv_sipush (v := 1000) hx hb dX1_makes_103 (by decide) ?_
              refine lv_goto (tgt := 111) hx hb dX1_makes_106 (by decide) ?_
              refine va_iast hx hb hK hP hD hS 4 0 rfl rfl (vp_in_nI (by omega) (by omega)) dX1_makes_111 (fun H locs hP hD hS => ?_)
              rw [nI_clamp (n := k) (by omega)] at hP hD
              have hP : va_P dG vwCl (mW B cA L P G (upd V k 1000) R S Y O D th (nI h) wd (nI T) ft fl cl mo) H := hP
              have hD : va_D F (mW B cA L P G (upd V k 1000) R S Y O D th (nI h) wd (nI T) ft fl cl mo) := hD
              refine lv_iload_n hx hb dX1_makes_112 rfl (lv_at hl 1 rfl) ?_
              exact W.iret hx hb hr (fun t ht hW => ⟨⟨_, (L, P, G, (upd V k 1000), R, S, Y, O, D, th, (nI h), wd, (nI T), ft, fl, cl, mo), rfl, ⟨(by unfold fMk; rw [if_neg cq1, if_neg cq2, if_neg cq3, if_neg cq4, if_neg cq5, if_neg cq7]), congrArg (fun z => (L, P, G, z, R, S, Y, O, D, th, (nI h), wd, (nI T), ft, fl, cl, mo)) (Eq.symm (by unfold fMkV; rw [if_neg cq1, if_neg cq2, if_neg cq3, if_neg cq4, if_neg cq5, if_neg cq7]))⟩, by rw [ht]; exact hP, va_K.moved hW.alike hK, hD⟩, hS.F ht⟩) hS.2.2 dX1_makes_113
        · refine lv_iconst (v := 0) hx hb dX1_makes_37 (by decide) ?_
          exact W.iret hx hb hr (fun t ht hW => ⟨⟨_, (L, P, G, V, R, S, Y, O, D, th, (nI h), wd, (nI T), ft, fl, cl, mo), rfl, ⟨(by unfold fMk; rw [if_neg cq1, if_neg cq2, if_neg cq3, if_pos cq4]), congrArg (fun z => (L, P, G, z, R, S, Y, O, D, th, (nI h), wd, (nI T), ft, fl, cl, mo)) (Eq.symm (by unfold fMkV; rw [if_neg cq1, if_neg cq2, if_neg cq3, if_pos cq4]))⟩, by rw [ht]; exact hP, va_K.moved hW.alike hK, hD⟩, hS.F ht⟩) hS.2.2 dX1_makes_38
abbrev MG : Type := (Nat → Int32) × (Nat → Int32) × (Nat → Int32) × (Nat → Int32) × (Nat → Int32) × Int32 × Int32 × UInt32
def mMk (G : Nat → Int32) (cl hd : Int32) (V0 R0 : Nat → Int32) : Nat → (Nat → Int32) × (Nat → Int32) × Int32
  | 0 => (V0, R0, 0)
  | i + 1 => (fMkV G (mMk G cl hd V0 R0 i).1 (mMk G cl hd V0 R0 i).2.1 cl i hd, upd (mMk G cl hd V0 R0 i).2.1 i ((mMk G cl hd V0 R0 i).2.1 i - (if (mMk G cl hd V0 R0 i).2.1 i ≤ 0 then 0 else 1)), (mMk G cl hd V0 R0 i).2.2 + fMk G (mMk G cl hd V0 R0 i).1 (mMk G cl hd V0 R0 i).2.1 cl i hd)
def fAbsM (x : Int32) : Int32 := if 0 ≤ x then x else -x
def mClo (ft fl cl : Int32) : Int32 := if ft ≤ fl then cl else 3
def mO (O S : Nat → Int32) (h : Nat) (sm : Int32) : Nat → Int32 := if S h ≤ sm then O else upd O h (S h - sm)
def mMo (mo : UInt32) (S : Nat → Int32) (h : Nat) (sm q : Int32) : UInt32 := if S h ≤ sm then (if sm ≤ S h then mo else FP.fadd mo (FP.fmul (FP.fmul (FP.i2f (sm - S h)) (FP.i2f q)) 1056964608)) else FP.fsub mo (FP.fmul (FP.i2f (S h - sm)) (FP.i2f q))
def mGo (L P G S : Nat → Int32) (wd fl : Int32) (T h : Nat) (g : MG) : MG :=
  ((mMk G (mClo g.2.2.2.2.2.1 fl g.2.2.2.2.2.2.1) (fAbsM (L (h % 24) + wd)) g.1 g.2.1 T).1, (mMk G (mClo g.2.2.2.2.2.1 fl g.2.2.2.2.2.2.1) (fAbsM (L (h % 24) + wd)) g.1 g.2.1 T).2.1,
   upd g.2.2.1 h (mMk G (mClo g.2.2.2.2.2.1 fl g.2.2.2.2.2.2.1) (fAbsM (L (h % 24) + wd)) g.1 g.2.1 T).2.2,
   mO g.2.2.2.1 S h (mMk G (mClo g.2.2.2.2.2.1 fl g.2.2.2.2.2.2.1) (fAbsM (L (h % 24) + wd)) g.1 g.2.1 T).2.2,
   upd g.2.2.2.2.1 h (fAbsM (L (h % 24) + wd)), 0,
   mClo g.2.2.2.2.2.1 fl g.2.2.2.2.2.2.1 - (if mClo g.2.2.2.2.2.1 fl g.2.2.2.2.2.2.1 ≤ 0 then 0 else 1),
   mMo g.2.2.2.2.2.2.2 S h (mMk G (mClo g.2.2.2.2.2.1 fl g.2.2.2.2.2.2.1) (fAbsM (L (h % 24) + wd)) g.1 g.2.1 T).2.2 (P (h % 24)))
abbrev mTup (L P G S : Nat → Int32) (th wd fl : Int32) (T h : Nat) (g : MG) : MS := (L, P, G, g.1, g.2.1, S, g.2.2.1, g.2.2.2.1, g.2.2.2.2.1, th, nI h, wd, nI T, g.2.2.2.2.2.1, fl, g.2.2.2.2.2.2.1, g.2.2.2.2.2.2.2)
set_option maxHeartbeats 4000000 in
set_option maxRecDepth 100000 in
theorem c_X1_goes (l : Launch) (dG : va_G) (B : Nat → Nat) (cA : ClassId) (Hp : Heap) (L P G V R S Y O D : Nat → Int32) (T h : Nat) (th wd ft fl cl : Int32) (mo : UInt32)  (hT : T ≤ 4) (hh : h < 500) (hmo : FP.Core.FFin mo) : Met l yX1_goes wsX1_goes ({ frames := 4, cells := 0, slots := 0, locals := 100 }) (va_Pc [.ref (B 0)] (fun U => wPre dG (tyI cA) (mW B cA L P G V R S Y O D th (nI h) wd (nI T) ft fl cl mo) Hp U)) (va_Qv (fun (u : MS) => u = mTup L P G S th wd fl T (h + 1) (mGo L P G S wd fl T h (V, R, Y, O, D, ft, cl, mo))) (fun u t => wAt dG (tyI cA) (va_A (mW B cA L P G V R S Y O D th (nI h) wd (nI T) ft fl cl mo) Hp.size) (mU B cA u) t) (va_A (mW B cA L P G V R S Y O D th (nI h) wd (nI T) ft fl cl mo) Hp.size)) 0 0 (va_A (mW B cA L P G V R S Y O D th (nI h) wd (nI T) ft fl cl mo) Hp.size) := by
  refine Met.ofW (cc := cX1_goes) (maxL := 5) (ret := none) (by decide) rfl ?_
  intro p e s m args below meth c s₁ Bd hml hv
  obtain ⟨rfl, hH, hP, hK, hD0⟩ := hv
  subst hH
  have hK : va_K dG vwCl (tyI cA) s := hK
  have hx := Bd.exec
  have hb := Bd.bytes
  have hr := Bd.returns
  have hts := atoms_spec (ws := wsX1_goes) Bd.pre
  have hown : s.vm.findClass RX1 = some m.cls := findClass_of_methodNamed Bd.named
  have hlocks := Bd.notSynchronized
  have hinM : ∀ w ∈ wsX10, w ∈ wsX1_goes := by decide +kernel
  have hD := hD0.self (sz := s.heap.size)
  generalize hAe : va_A (mW B cA L P G V R S Y O D th (nI h) wd (nI T) ft fl cl mo) s.heap.size = F at hD ⊢
  have hA : ∀ q : Nat, s.heap.size ≤ q → F q := fun q h => by rw [← hAe]; exact Or.inr h
  have hS : va_S F s.heap s.heap [] := va_S.rf
  have hP : va_P dG vwCl (mW B cA L P G V R S Y O D th (nI h) wd (nI T) ft fl cl mo) s.heap := hP
  have hl := lv_entry ([.ref (B 0)]) (n := 5) (Nat.le_of_ble_eq_true rfl)
  rw [lg_entry_eq]
  generalize (lg_sl ([.ref (B 0)]) ++ List.replicate (5 - (lg_sl ([.ref (B 0)])).length) Slot.unset).toArray = ls at hl ⊢
  have hl : lv_has ls 5 [(0, .ref (B 0))] := hl
  have loop : ∀ (n i : Nat) (hd c1 : Int32) (V1 R1 : Nat → Int32) (sm : Int32) (H : Heap) (locs : List Loc), i + n = T → hd = fAbsM (L (h % 24) + wd) → c1 = mClo ft fl cl → (V1, R1, sm) = mMk G c1 hd V R i → va_P dG vwCl (mW B cA L P G V1 R1 S Y O D th (nI h) wd (nI T) 0 fl c1 mo) H → va_D F (mW B cA L P G V1 R1 S Y O D th (nI h) wd (nI T) 0 fl c1 mo) → va_S F s.heap H locs → ∀ ls : Array Slot, lv_has ls 5 [(0, .ref (B 0)), (2, .int hd), (3, .int sm), (4, .int (nI i))] → W p l e (headSpec wsX1_goes ({ frames := 4, cells := 0, slots := 0, locals := 100 })).room s m ([.ref (B 0)]).toArray below meth c H locs 0 0 (MQ below (va_Qv (fun (u : MS) => u = mTup L P G S th wd fl T (h + 1) (mGo L P G S wd fl T h (V, R, Y, O, D, ft, cl, mo))) (fun u t => wAt dG (tyI cA) F (mU B cA u) t) F) ([.ref (B 0)]).toArray s 0 0 F) (F0 m 62 ls []) := by
    intro n
    induction n with
    | zero =>
      intro i hd c1 V1 R1 sm H locs hi hhd hc1 hm hP hD hS ls hl
      have hi : i = T := by omega
      subst hi
      refine lv_iload hx hb dX1_goes_62 (lv_at hl 3 rfl) ?_
      refine lv_aload_n hx hb dX1_goes_64 rfl (lv_at hl 0 rfl) ?_
      refine va_get (D := dG) (ci := 1) (v := .int (nI i)) (C := RX1) (T := TX1) (N := 17) hx hb hts hinM hown hK hP 0 rfl rfl 5 (by decide) (hts (.fieldLink RX1 44 "TidegateBourseModel" "turbines" "I") (by decide +kernel)) (fun _ h9 => h9) rfl dX1_goes_65 ?_
      refine lv_icmp_ge (tgt := 112) hx hb dX1_goes_68 (by decide) (fun _ => ?_) (fun h9 => absurd (nI_le (by omega) (by omega)) h9)
      refine lv_aload_n hx hb dX1_goes_112 rfl (lv_at hl 0 rfl) ?_
      refine lv_dup hx hb dX1_goes_113 rfl ?_
      refine va_get (D := dG) (ci := 1) (v := .int c1) (C := RX1) (T := TX1) (N := 17) hx hb hts hinM hown hK hP 0 rfl rfl 11 (by decide) (hts (.fieldLink RX1 68 "TidegateBourseModel" "closed" "I") (by decide +kernel)) (fun _ h9 => h9) rfl dX1_goes_114 ?_
      refine lv_aload_n hx hb dX1_goes_117 rfl (lv_at hl 0 rfl) ?_
      refine va_get (D := dG) (ci := 1) (v := .int c1) (C := RX1) (T := TX1) (N := 17) hx hb hts hinM hown hK hP 0 rfl rfl 11 (by decide) (hts (.fieldLink RX1 68 "TidegateBourseModel" "closed" "I") (by decide +kernel)) (fun _ h9 => h9) rfl dX1_goes_118 ?_
      refine lv_if_le (tgt := 128) hx hb dX1_goes_121 (by decide) (fun cq1 => ?_) (fun cq1 => ?_)
      · refine lv_iconst (v := 0) hx hb dX1_goes_128 (by decide) ?_
        refine lv_isub hx hb dX1_goes_129 ?_
        refine va_put (D := dG) (ci := 1) (v := .int (c1 - 0)) (ty := .int) (C := RX1) (T := TX1) (N := 17) hx hb hts hinM tyX1 tyX1_ok nmX1 hown hK hP hD hS 0 rfl rfl 11 (by decide) (hts (.fieldLink RX1 68 "TidegateBourseModel" "closed" "I") (by decide +kernel)) (fun _ h9 => h9) rfl (by decide +kernel) rfl rfl (Nat.le_of_ble_eq_true rfl) dX1_goes_130 (fun H locs hP hD hS => ?_)
        have hP : va_P dG vwCl (mW B cA L P G V1 R1 S Y O D th (nI h) wd (nI i) 0 fl (c1 - 0) mo) H := hP
        have hD : va_D F (mW B cA L P G V1 R1 S Y O D th (nI h) wd (nI i) 0 fl (c1 - 0) mo) := hD
        refine lv_aload_n hx hb dX1_goes_133 rfl (lv_at hl 0 rfl) ?_
        refine va_get (D := dG) (ci := 1) (v := .ref (B 9)) (C := RX1) (T := TX1) (N := 17) hx hb hts hinM hown hK hP 0 rfl rfl 15 (by decide) (hts (.fieldLink RX1 38 "TidegateBourseModel" "heads" "[I") (by decide +kernel)) (fun _ h9 => h9) rfl dX1_goes_134 ?_
        refine lv_aload_n hx hb dX1_goes_137 rfl (lv_at hl 0 rfl) ?_
        refine va_get (D := dG) (ci := 1) (v := .int (nI h)) (C := RX1) (T := TX1) (N := 17) hx hb hts hinM hown hK hP 0 rfl rfl 1 (by decide) (hts (.fieldLink RX1 61 "TidegateBourseModel" "now" "I") (by decide +kernel)) (fun _ h9 => h9) rfl dX1_goes_138 ?_
        refine lv_iload_n hx hb dX1_goes_141 rfl (lv_at hl 1 rfl) ?_
        refine va_iast hx hb hK hP hD hS 9 0 rfl rfl (vp_in_nI (by omega) (by omega)) dX1_goes_142 (fun H locs hP hD hS => ?_)
        rw [nI_clamp (n := h) (by omega)] at hP hD
        have hP : va_P dG vwCl (mW B cA L P G V1 R1 S Y O (upd D h hd) th (nI h) wd (nI i) 0 fl (c1 - 0) mo) H := hP
        have hD : va_D F (mW B cA L P G V1 R1 S Y O (upd D h hd) th (nI h) wd (nI i) 0 fl (c1 - 0) mo) := hD
        refine lv_aload_n hx hb dX1_goes_143 rfl (lv_at hl 0 rfl) ?_
        refine va_get (D := dG) (ci := 1) (v := .ref (B 7)) (C := RX1) (T := TX1) (N := 17) hx hb hts hinM hown hK hP 0 rfl rfl 13 (by decide) (hts (.fieldLink RX1 32 "TidegateBourseModel" "made" "[I") (by decide +kernel)) (fun _ h9 => h9) rfl dX1_goes_144 ?_
        refine lv_aload_n hx hb dX1_goes_147 rfl (lv_at hl 0 rfl) ?_
        refine va_get (D := dG) (ci := 1) (v := .int (nI h)) (C := RX1) (T := TX1) (N := 17) hx hb hts hinM hown hK hP 0 rfl rfl 1 (by decide) (hts (.fieldLink RX1 61 "TidegateBourseModel" "now" "I") (by decide +kernel)) (fun _ h9 => h9) rfl dX1_goes_148 ?_
        refine lv_iload_n hx hb dX1_goes_151 rfl (lv_at hl 2 rfl) ?_
        refine va_iast hx hb hK hP hD hS 7 0 rfl rfl (vp_in_nI (by omega) (by omega)) dX1_goes_152 (fun H locs hP hD hS => ?_)
        rw [nI_clamp (n := h) (by omega)] at hP hD
        have hP : va_P dG vwCl (mW B cA L P G V1 R1 S (upd Y h sm) O (upd D h hd) th (nI h) wd (nI i) 0 fl (c1 - 0) mo) H := hP
        have hD : va_D F (mW B cA L P G V1 R1 S (upd Y h sm) O (upd D h hd) th (nI h) wd (nI i) 0 fl (c1 - 0) mo) := hD
        refine lv_aload_n hx hb dX1_goes_153 rfl (lv_at hl 0 rfl) ?_
        refine va_get (D := dG) (ci := 1) (v := .ref (B 2)) (C := RX1) (T := TX1) (N := 17) hx hb hts hinM hown hK hP 0 rfl rfl 3 (by decide) (hts (.fieldLink RX1 13 "TidegateBourseModel" "prices" "[I") (by decide +kernel)) (fun _ h9 => h9) rfl dX1_goes_154 ?_
        refine lv_aload_n hx hb dX1_goes_157 rfl (lv_at hl 0 rfl) ?_
        refine va_get (D := dG) (ci := 1) (v := .int (nI h)) (C := RX1) (T := TX1) (N := 17) hx hb hts hinM hown hK hP 0 rfl rfl 1 (by decide) (hts (.fieldLink RX1 61 "TidegateBourseModel" "now" "I") (by decide +kernel)) (fun _ h9 => h9) rfl dX1_goes_158 ?_
        refine lv_bipush (v := 24) hx hb dX1_goes_161 (by decide) ?_
        refine lv_irem hx hb dX1_goes_163 (by decide) ?_
        refine lv_topi (fun v9 e9 => ?_)
        have e9 := e9.trans (nI_mod24 (n := h) (by omega))
        subst e9
        refine va_iald hx hb hK hP 2 0 rfl rfl (vp_in_nI (by omega) (by omega)) dX1_goes_164 ?_
        refine lv_topi (fun v9 e9 => ?_)
        rw [nI_clamp (n := h % 24) (by omega)] at e9
        subst e9
        refine lv_istore (lv' := [(4, .int (P (h % 24))), (0, .ref (B 0)), (2, .int hd), (3, .int sm)]) hx hb dX1_goes_165 hl (by decide) rfl (fun ls hl => ?_)
        refine lv_iload_n hx hb dX1_goes_167 rfl (lv_at hl 3 rfl) ?_
        refine lv_aload_n hx hb dX1_goes_168 rfl (lv_at hl 1 rfl) ?_
        refine va_get (D := dG) (ci := 1) (v := .ref (B 6)) (C := RX1) (T := TX1) (N := 17) hx hb hts hinM hown hK hP 0 rfl rfl 12 (by decide) (hts (.fieldLink RX1 29 "TidegateBourseModel" "sold" "[I") (by decide +kernel)) (fun _ h9 => h9) rfl dX1_goes_169 ?_
        refine lv_aload_n hx hb dX1_goes_172 rfl (lv_at hl 1 rfl) ?_
        refine va_get (D := dG) (ci := 1) (v := .int (nI h)) (C := RX1) (T := TX1) (N := 17) hx hb hts hinM hown hK hP 0 rfl rfl 1 (by decide) (hts (.fieldLink RX1 61 "TidegateBourseModel" "now" "I") (by decide +kernel)) (fun _ h9 => h9) rfl dX1_goes_173 ?_
        refine va_iald hx hb hK hP 6 0 rfl rfl (vp_in_nI (by omega) (by omega)) dX1_goes_176 ?_
        refine lv_topi (fun v9 e9 => ?_)
        rw [nI_clamp (n := h) (by omega)] at e9
        subst e9
        refine lv_icmp_ge (tgt := 226) hx hb dX1_goes_177 (by decide) (fun cq2 => ?_) (fun cq2 => ?_)
        · refine lv_iload_n hx hb dX1_goes_226 rfl (lv_at hl 3 rfl) ?_
          refine lv_aload_n hx hb dX1_goes_227 rfl (lv_at hl 1 rfl) ?_
          refine va_get (D := dG) (ci := 1) (v := .ref (B 6)) (C := RX1) (T := TX1) (N := 17) hx hb hts hinM hown hK hP 0 rfl rfl 12 (by decide) (hts (.fieldLink RX1 29 "TidegateBourseModel" "sold" "[I") (by decide +kernel)) (fun _ h9 => h9) rfl dX1_goes_228 ?_
          refine lv_aload_n hx hb dX1_goes_231 rfl (lv_at hl 1 rfl) ?_
          refine va_get (D := dG) (ci := 1) (v := .int (nI h)) (C := RX1) (T := TX1) (N := 17) hx hb hts hinM hown hK hP 0 rfl rfl 1 (by decide) (hts (.fieldLink RX1 61 "TidegateBourseModel" "now" "I") (by decide +kernel)) (fun _ h9 => h9) rfl dX1_goes_232 ?_
          refine va_iald hx hb hK hP 6 0 rfl rfl (vp_in_nI (by omega) (by omega)) dX1_goes_235 ?_
          refine lv_topi (fun v9 e9 => ?_)
          rw [nI_clamp (n := h) (by omega)] at e9
          subst e9
          refine lv_icmp_le (tgt := 267) hx hb dX1_goes_236 (by decide) (fun cq3 => ?_) (fun cq3 => ?_)
          · refine lv_aload_n hx hb dX1_goes_267 rfl (lv_at hl 1 rfl) ?_
            refine lv_dup hx hb dX1_goes_268 rfl ?_
            refine va_get (D := dG) (ci := 1) (v := .int (nI h)) (C := RX1) (T := TX1) (N := 17) hx hb hts hinM hown hK hP 0 rfl rfl 1 (by decide) (hts (.fieldLink RX1 61 "TidegateBourseModel" "now" "I") (by decide +kernel)) (fun _ h9 => h9) rfl dX1_goes_269 ?_
            refine lv_iconst (v := 1) hx hb dX1_goes_272 (by decide) ?_
            refine lv_iadd hx hb dX1_goes_273 ?_
            refine lv_topi (fun v9 e9 => ?_)
            have e9 := e9.trans (nI_add h 1)
            subst e9
            refine va_put (D := dG) (ci := 1) (v := .int (nI (h + 1))) (ty := .int) (C := RX1) (T := TX1) (N := 17) hx hb hts hinM tyX1 tyX1_ok nmX1 hown hK hP hD hS 0 rfl rfl 1 (by decide) (hts (.fieldLink RX1 61 "TidegateBourseModel" "now" "I") (by decide +kernel)) (fun _ h9 => h9) rfl (by decide +kernel) rfl rfl (Nat.le_of_ble_eq_true rfl) dX1_goes_274 (fun H locs hP hD hS => ?_)
            have hP : va_P dG vwCl (mW B cA L P G V1 R1 S (upd Y h sm) O (upd D h hd) th (nI (h + 1)) wd (nI i) 0 fl (c1 - 0) mo) H := hP
            have hD : va_D F (mW B cA L P G V1 R1 S (upd Y h sm) O (upd D h hd) th (nI (h + 1)) wd (nI i) 0 fl (c1 - 0) mo) := hD
            exact W.vret hx hb hr (fun t ht hW => ⟨⟨(L, P, G, V1, R1, S, (upd Y h sm), O, (upd D h hd), th, (nI (h + 1)), wd, (nI i), 0, fl, (c1 - 0), mo), rfl, (by simp only [mTup, mGo, mO, mMo, ← hhd, ← hc1, ← hm, if_pos cq1, if_pos cq2, if_pos cq3]), by rw [ht]; exact hP, va_K.moved hW.alike hK, hD⟩, hS.F ht⟩) hS.2.2 dX1_goes_277
          · refine lv_aload_n hx hb dX1_goes_239 rfl (lv_at hl 1 rfl) ?_
            refine lv_dup hx hb dX1_goes_240 rfl ?_
            refine va_get (D := dG) (ci := 1) (v := .float mo) (C := RX1) (T := TX1) (N := 17) hx hb hts hinM hown hK hP 0 rfl rfl 16 (by decide) (hts (.fieldLink RX1 64 "TidegateBourseModel" "money" "F") (by decide +kernel)) (fun _ h9 => h9) rfl dX1_goes_241 ?_
            refine lv_iload_n hx hb dX1_goes_244 rfl (lv_at hl 3 rfl) ?_
            refine lv_aload_n hx hb dX1_goes_245 rfl (lv_at hl 1 rfl) ?_
            refine va_get (D := dG) (ci := 1) (v := .ref (B 6)) (C := RX1) (T := TX1) (N := 17) hx hb hts hinM hown hK hP 0 rfl rfl 12 (by decide) (hts (.fieldLink RX1 29 "TidegateBourseModel" "sold" "[I") (by decide +kernel)) (fun _ h9 => h9) rfl dX1_goes_246 ?_
            refine lv_aload_n hx hb dX1_goes_249 rfl (lv_at hl 1 rfl) ?_
            refine va_get (D := dG) (ci := 1) (v := .int (nI h)) (C := RX1) (T := TX1) (N := 17) hx hb hts hinM hown hK hP 0 rfl rfl 1 (by decide) (hts (.fieldLink RX1 61 "TidegateBourseModel" "now" "I") (by decide +kernel)) (fun _ h9 => h9) rfl dX1_goes_250 ?_
            refine va_iald hx hb hK hP 6 0 rfl rfl (vp_in_nI (by omega) (by omega)) dX1_goes_253 ?_
            refine lv_topi (fun v9 e9 => ?_)
            rw [nI_clamp (n := h) (by omega)] at e9
            subst e9
            refine lv_isub hx hb dX1_goes_254 ?_
            refine lv_i2f hx hb dX1_goes_255 ?_
            refine lv_iload hx hb dX1_goes_256 (lv_at hl 0 rfl) ?_
            refine lv_i2f hx hb dX1_goes_258 ?_
            refine lv_fmul hx hb dX1_goes_259 (nn_mul _ _) ?_
            refine lv_ldcf (v := 1056964608) hx hb hown (hts (.constantFloat RX1 75 (1056964608)) (by decide +kernel)) dX1_goes_260 ?_
            refine lv_fmul hx hb dX1_goes_262 (nn_half _ _) ?_
            refine lv_fadd hx hb dX1_goes_263 (nn_add hmo (half_fin _ _)) ?_
            refine va_put (D := dG) (ci := 1) (v := .float (FP.fadd mo (FP.fmul (FP.fmul (FP.i2f (sm - (S h))) (FP.i2f (P (h % 24)))) 1056964608))) (ty := .float) (C := RX1) (T := TX1) (N := 17) hx hb hts hinM tyX1 tyX1_ok nmX1 hown hK hP hD hS 0 rfl rfl 16 (by decide) (hts (.fieldLink RX1 64 "TidegateBourseModel" "money" "F") (by decide +kernel)) (fun _ h9 => h9) rfl (by decide +kernel) rfl rfl (Nat.le_of_ble_eq_true rfl) dX1_goes_264 (fun H locs hP hD hS => ?_)
            have hP : va_P dG vwCl (mW B cA L P G V1 R1 S (upd Y h sm) O (upd D h hd) th (nI h) wd (nI i) 0 fl (c1 - 0) (FP.fadd mo (FP.fmul (FP.fmul (FP.i2f (sm - (S h))) (FP.i2f (P (h % 24)))) 1056964608))) H := hP
            have hD : va_D F (mW B cA L P G V1 R1 S (upd Y h sm) O (upd D h hd) th (nI h) wd (nI i) 0 fl (c1 - 0) (FP.fadd mo (FP.fmul (FP.fmul (FP.i2f (sm - (S h))) (FP.i2f (P (h % 24)))) 1056964608))) := hD
            refine lv_aload_n hx hb dX1_goes_267 rfl (lv_at hl 1 rfl) ?_
            refine lv_dup hx hb dX1_goes_268 rfl ?_
            refine va_get (D := dG) (ci := 1) (v := .int (nI h)) (C := RX1) (T := TX1) (N := 17) hx hb hts hinM hown hK hP 0 rfl rfl 1 (by decide) (hts (.fieldLink RX1 61 "TidegateBourseModel" "now" "I") (by decide +kernel)) (fun _ h9 => h9) rfl dX1_goes_269 ?_
            refine lv_iconst (v := 1) hx hb dX1_goes_272 (by decide) ?_
            refine lv_iadd hx hb dX1_goes_273 ?_
            refine lv_topi (fun v9 e9 => ?_)
            have e9 := e9.trans (nI_add h 1)
            subst e9
            refine va_put (D := dG) (ci := 1) (v := .int (nI (h + 1))) (ty := .int) (C := RX1) (T := TX1) (N := 17) hx hb hts hinM tyX1 tyX1_ok nmX1 hown hK hP hD hS 0 rfl rfl 1 (by decide) (hts (.fieldLink RX1 61 "TidegateBourseModel" "now" "I") (by decide +kernel)) (fun _ h9 => h9) rfl (by decide +kernel) rfl rfl (Nat.le_of_ble_eq_true rfl) dX1_goes_274 (fun H locs hP hD hS => ?_)
            have hP : va_P dG vwCl (mW B cA L P G V1 R1 S (upd Y h sm) O (upd D h hd) th (nI (h + 1)) wd (nI i) 0 fl (c1 - 0) (FP.fadd mo (FP.fmul (FP.fmul (FP.i2f (sm - (S h))) (FP.i2f (P (h % 24)))) 1056964608))) H := hP
            have hD : va_D F (mW B cA L P G V1 R1 S (upd Y h sm) O (upd D h hd) th (nI (h + 1)) wd (nI i) 0 fl (c1 - 0) (FP.fadd mo (FP.fmul (FP.fmul (FP.i2f (sm - (S h))) (FP.i2f (P (h % 24)))) 1056964608))) := hD
            exact W.vret hx hb hr (fun t ht hW => ⟨⟨(L, P, G, V1, R1, S, (upd Y h sm), O, (upd D h hd), th, (nI (h + 1)), wd, (nI i), 0, fl, (c1 - 0), (FP.fadd mo (FP.fmul (FP.fmul (FP.i2f (sm - (S h))) (FP.i2f (P (h % 24)))) 1056964608))), rfl, (by simp only [mTup, mGo, mO, mMo, ← hhd, ← hc1, ← hm, if_pos cq1, if_pos cq2, if_neg cq3]), by rw [ht]; exact hP, va_K.moved hW.alike hK, hD⟩, hS.F ht⟩) hS.2.2 dX1_goes_277
        · refine lv_aload_n hx hb dX1_goes_180 rfl (lv_at hl 1 rfl) ?_
          refine va_get (D := dG) (ci := 1) (v := .ref (B 8)) (C := RX1) (T := TX1) (N := 17) hx hb hts hinM hown hK hP 0 rfl rfl 14 (by decide) (hts (.fieldLink RX1 35 "TidegateBourseModel" "bought" "[I") (by decide +kernel)) (fun _ h9 => h9) rfl dX1_goes_181 ?_
          refine lv_aload_n hx hb dX1_goes_184 rfl (lv_at hl 1 rfl) ?_
          refine va_get (D := dG) (ci := 1) (v := .int (nI h)) (C := RX1) (T := TX1) (N := 17) hx hb hts hinM hown hK hP 0 rfl rfl 1 (by decide) (hts (.fieldLink RX1 61 "TidegateBourseModel" "now" "I") (by decide +kernel)) (fun _ h9 => h9) rfl dX1_goes_185 ?_
          refine lv_aload_n hx hb dX1_goes_188 rfl (lv_at hl 1 rfl) ?_
          refine va_get (D := dG) (ci := 1) (v := .ref (B 6)) (C := RX1) (T := TX1) (N := 17) hx hb hts hinM hown hK hP 0 rfl rfl 12 (by decide) (hts (.fieldLink RX1 29 "TidegateBourseModel" "sold" "[I") (by decide +kernel)) (fun _ h9 => h9) rfl dX1_goes_189 ?_
          refine lv_aload_n hx hb dX1_goes_192 rfl (lv_at hl 1 rfl) ?_
          refine va_get (D := dG) (ci := 1) (v := .int (nI h)) (C := RX1) (T := TX1) (N := 17) hx hb hts hinM hown hK hP 0 rfl rfl 1 (by decide) (hts (.fieldLink RX1 61 "TidegateBourseModel" "now" "I") (by decide +kernel)) (fun _ h9 => h9) rfl dX1_goes_193 ?_
          refine va_iald hx hb hK hP 6 0 rfl rfl (vp_in_nI (by omega) (by omega)) dX1_goes_196 ?_
          refine lv_topi (fun v9 e9 => ?_)
          rw [nI_clamp (n := h) (by omega)] at e9
          subst e9
          refine lv_iload_n hx hb dX1_goes_197 rfl (lv_at hl 3 rfl) ?_
          refine lv_isub hx hb dX1_goes_198 ?_
          refine va_iast hx hb hK hP hD hS 8 0 rfl rfl (vp_in_nI (by omega) (by omega)) dX1_goes_199 (fun H locs hP hD hS => ?_)
          rw [nI_clamp (n := h) (by omega)] at hP hD
          have hP : va_P dG vwCl (mW B cA L P G V1 R1 S (upd Y h sm) (upd O h ((S h) - sm)) (upd D h hd) th (nI h) wd (nI i) 0 fl (c1 - 0) mo) H := hP
          have hD : va_D F (mW B cA L P G V1 R1 S (upd Y h sm) (upd O h ((S h) - sm)) (upd D h hd) th (nI h) wd (nI i) 0 fl (c1 - 0) mo) := hD
          refine lv_aload_n hx hb dX1_goes_200 rfl (lv_at hl 1 rfl) ?_
          refine lv_dup hx hb dX1_goes_201 rfl ?_
          refine va_get (D := dG) (ci := 1) (v := .float mo) (C := RX1) (T := TX1) (N := 17) hx hb hts hinM hown hK hP 0 rfl rfl 16 (by decide) (hts (.fieldLink RX1 64 "TidegateBourseModel" "money" "F") (by decide +kernel)) (fun _ h9 => h9) rfl dX1_goes_202 ?_
          refine lv_aload_n hx hb dX1_goes_205 rfl (lv_at hl 1 rfl) ?_
          refine va_get (D := dG) (ci := 1) (v := .ref (B 8)) (C := RX1) (T := TX1) (N := 17) hx hb hts hinM hown hK hP 0 rfl rfl 14 (by decide) (hts (.fieldLink RX1 35 "TidegateBourseModel" "bought" "[I") (by decide +kernel)) (fun _ h9 => h9) rfl dX1_goes_206 ?_
          refine lv_aload_n hx hb dX1_goes_209 rfl (lv_at hl 1 rfl) ?_
          refine va_get (D := dG) (ci := 1) (v := .int (nI h)) (C := RX1) (T := TX1) (N := 17) hx hb hts hinM hown hK hP 0 rfl rfl 1 (by decide) (hts (.fieldLink RX1 61 "TidegateBourseModel" "now" "I") (by decide +kernel)) (fun _ h9 => h9) rfl dX1_goes_210 ?_
          refine va_iald hx hb hK hP 8 0 rfl rfl (vp_in_nI (by omega) (by omega)) dX1_goes_213 ?_
          refine lv_topi (fun v9 e9 => ?_)
          rw [nI_clamp (n := h) (by omega)] at e9
          subst e9
          refine lv_topi (fun v9 e9 => ?_)
          rw [pk_us] at e9
          subst e9
          refine lv_i2f hx hb dX1_goes_214 ?_
          refine lv_iload hx hb dX1_goes_215 (lv_at hl 0 rfl) ?_
          refine lv_i2f hx hb dX1_goes_217 ?_
          refine lv_fmul hx hb dX1_goes_218 (nn_mul _ _) ?_
          refine lv_fsub hx hb dX1_goes_219 (nn_sub hmo (mul_fin _ _)) ?_
          refine va_put (D := dG) (ci := 1) (v := .float (FP.fsub mo (FP.fmul (FP.i2f ((S h) - sm)) (FP.i2f (P (h % 24)))))) (ty := .float) (C := RX1) (T := TX1) (N := 17) hx hb hts hinM tyX1 tyX1_ok nmX1 hown hK hP hD hS 0 rfl rfl 16 (by decide) (hts (.fieldLink RX1 64 "TidegateBourseModel" "money" "F") (by decide +kernel)) (fun _ h9 => h9) rfl (by decide +kernel) rfl rfl (Nat.le_of_ble_eq_true rfl) dX1_goes_220 (fun H locs hP hD hS => ?_)
          have hP : va_P dG vwCl (mW B cA L P G V1 R1 S (upd Y h sm) (upd O h ((S h) - sm)) (upd D h hd) th (nI h) wd (nI i) 0 fl (c1 - 0) (FP.fsub mo (FP.fmul (FP.i2f ((S h) - sm)) (FP.i2f (P (h % 24)))))) H := hP
          have hD : va_D F (mW B cA L P G V1 R1 S (upd Y h sm) (upd O h ((S h) - sm)) (upd D h hd) th (nI h) wd (nI i) 0 fl (c1 - 0) (FP.fsub mo (FP.fmul (FP.i2f ((S h) - sm)) (FP.i2f (P (h % 24)))))) := hD
          refine lv_goto (tgt := 267) hx hb dX1_goes_223 (by decide) ?_
          refine lv_aload_n hx hb dX1_goes_267 rfl (lv_at hl 1 rfl) ?_
          refine lv_dup hx hb dX1_goes_268 rfl ?_
          refine va_get (D := dG) (ci := 1) (v := .int (nI h)) (C := RX1) (T := TX1) (N := 17) hx hb hts hinM hown hK hP 0 rfl rfl 1 (by decide) (hts (.fieldLink RX1 61 "TidegateBourseModel" "now" "I") (by decide +kernel)) (fun _ h9 => h9) rfl dX1_goes_269 ?_
          refine lv_iconst (v := 1) hx hb dX1_goes_272 (by decide) ?_
          refine lv_iadd hx hb dX1_goes_273 ?_
          refine lv_topi (fun v9 e9 => ?_)
          have e9 := e9.trans (nI_add h 1)
          subst e9
          refine va_put (D := dG) (ci := 1) (v := .int (nI (h + 1))) (ty := .int) (C := RX1) (T := TX1) (N := 17) hx hb hts hinM tyX1 tyX1_ok nmX1 hown hK hP hD hS 0 rfl rfl 1 (by decide) (hts (.fieldLink RX1 61 "TidegateBourseModel" "now" "I") (by decide +kernel)) (fun _ h9 => h9) rfl (by decide +kernel) rfl rfl (Nat.le_of_ble_eq_true rfl) dX1_goes_274 (fun H locs hP hD hS => ?_)
          have hP : va_P dG vwCl (mW B cA L P G V1 R1 S (upd Y h sm) (upd O h ((S h) - sm)) (upd D h hd) th (nI (h + 1)) wd (nI i) 0 fl (c1 - 0) (FP.fsub mo (FP.fmul (FP.i2f ((S h) - sm)) (FP.i2f (P (h % 24)))))) H := hP
          have hD : va_D F (mW B cA L P G V1 R1 S (upd Y h sm) (upd O h ((S h) - sm)) (upd D h hd) th (nI (h + 1)) wd (nI i) 0 fl (c1 - 0) (FP.fsub mo (FP.fmul (FP.i2f ((S h) - sm)) (FP.i2f (P (h % 24)))))) := hD
          exact W.vret hx hb hr (fun t ht hW => ⟨⟨(L, P, G, V1, R1, S, (upd Y h sm), (upd O h ((S h) - sm)), (upd D h hd), th, (nI (h + 1)), wd, (nI i), 0, fl, (c1 - 0), (FP.fsub mo (FP.fmul (FP.i2f ((S h) - sm)) (FP.i2f (P (h % 24)))))), rfl, (by simp only [mTup, mGo, mO, mMo, ← hhd, ← hc1, ← hm, if_pos cq1, if_neg cq2]), by rw [ht]; exact hP, va_K.moved hW.alike hK, hD⟩, hS.F ht⟩) hS.2.2 dX1_goes_277
      · refine lv_iconst (v := 1) hx hb dX1_goes_124 (by decide) ?_
        refine lv_goto (tgt := 129) hx hb dX1_goes_125 (by decide) ?_
        refine lv_isub hx hb dX1_goes_129 ?_
        refine va_put (D := dG) (ci := 1) (v := .int (c1 - 1)) (ty := .int) (C := RX1) (T := TX1) (N := 17) hx hb hts hinM tyX1 tyX1_ok nmX1 hown hK hP hD hS 0 rfl rfl 11 (by decide) (hts (.fieldLink RX1 68 "TidegateBourseModel" "closed" "I") (by decide +kernel)) (fun _ h9 => h9) rfl (by decide +kernel) rfl rfl (Nat.le_of_ble_eq_true rfl) dX1_goes_130 (fun H locs hP hD hS => ?_)
        have hP : va_P dG vwCl (mW B cA L P G V1 R1 S Y O D th (nI h) wd (nI i) 0 fl (c1 - 1) mo) H := hP
        have hD : va_D F (mW B cA L P G V1 R1 S Y O D th (nI h) wd (nI i) 0 fl (c1 - 1) mo) := hD
        refine lv_aload_n hx hb dX1_goes_133 rfl (lv_at hl 0 rfl) ?_
        refine va_get (D := dG) (ci := 1) (v := .ref (B 9)) (C := RX1) (T := TX1) (N := 17) hx hb hts hinM hown hK hP 0 rfl rfl 15 (by decide) (hts (.fieldLink RX1 38 "TidegateBourseModel" "heads" "[I") (by decide +kernel)) (fun _ h9 => h9) rfl dX1_goes_134 ?_
        refine lv_aload_n hx hb dX1_goes_137 rfl (lv_at hl 0 rfl) ?_
        refine va_get (D := dG) (ci := 1) (v := .int (nI h)) (C := RX1) (T := TX1) (N := 17) hx hb hts hinM hown hK hP 0 rfl rfl 1 (by decide) (hts (.fieldLink RX1 61 "TidegateBourseModel" "now" "I") (by decide +kernel)) (fun _ h9 => h9) rfl dX1_goes_138 ?_
        refine lv_iload_n hx hb dX1_goes_141 rfl (lv_at hl 1 rfl) ?_
        refine va_iast hx hb hK hP hD hS 9 0 rfl rfl (vp_in_nI (by omega) (by omega)) dX1_goes_142 (fun H locs hP hD hS => ?_)
        rw [nI_clamp (n := h) (by omega)] at hP hD
        have hP : va_P dG vwCl (mW B cA L P G V1 R1 S Y O (upd D h hd) th (nI h) wd (nI i) 0 fl (c1 - 1) mo) H := hP
        have hD : va_D F (mW B cA L P G V1 R1 S Y O (upd D h hd) th (nI h) wd (nI i) 0 fl (c1 - 1) mo) := hD
        refine lv_aload_n hx hb dX1_goes_143 rfl (lv_at hl 0 rfl) ?_
        refine va_get (D := dG) (ci := 1) (v := .ref (B 7)) (C := RX1) (T := TX1) (N := 17) hx hb hts hinM hown hK hP 0 rfl rfl 13 (by decide) (hts (.fieldLink RX1 32 "TidegateBourseModel" "made" "[I") (by decide +kernel)) (fun _ h9 => h9) rfl dX1_goes_144 ?_
        refine lv_aload_n hx hb dX1_goes_147 rfl (lv_at hl 0 rfl) ?_
        refine va_get (D := dG) (ci := 1) (v := .int (nI h)) (C := RX1) (T := TX1) (N := 17) hx hb hts hinM hown hK hP 0 rfl rfl 1 (by decide) (hts (.fieldLink RX1 61 "TidegateBourseModel" "now" "I") (by decide +kernel)) (fun _ h9 => h9) rfl dX1_goes_148 ?_
        refine lv_iload_n hx hb dX1_goes_151 rfl (lv_at hl 2 rfl) ?_
        refine va_iast hx hb hK hP hD hS 7 0 rfl rfl (vp_in_nI (by omega) (by omega)) dX1_goes_152 (fun H locs hP hD hS => ?_)
        rw [nI_clamp (n := h) (by omega)] at hP hD
        have hP : va_P dG vwCl (mW B cA L P G V1 R1 S (upd Y h sm) O (upd D h hd) th (nI h) wd (nI i) 0 fl (c1 - 1) mo) H := hP
        have hD : va_D F (mW B cA L P G V1 R1 S (upd Y h sm) O (upd D h hd) th (nI h) wd (nI i) 0 fl (c1 - 1) mo) := hD
        refine lv_aload_n hx hb dX1_goes_153 rfl (lv_at hl 0 rfl) ?_
        refine va_get (D := dG) (ci := 1) (v := .ref (B 2)) (C := RX1) (T := TX1) (N := 17) hx hb hts hinM hown hK hP 0 rfl rfl 3 (by decide) (hts (.fieldLink RX1 13 "TidegateBourseModel" "prices" "[I") (by decide +kernel)) (fun _ h9 => h9) rfl dX1_goes_154 ?_
        refine lv_aload_n hx hb dX1_goes_157 rfl (lv_at hl 0 rfl) ?_
        refine va_get (D := dG) (ci := 1) (v := .int (nI h)) (C := RX1) (T := TX1) (N := 17) hx hb hts hinM hown hK hP 0 rfl rfl 1 (by decide) (hts (.fieldLink RX1 61 "TidegateBourseModel" "now" "I") (by decide +kernel)) (fun _ h9 => h9) rfl dX1_goes_158 ?_
        refine lv_bipush (v := 24) hx hb dX1_goes_161 (by decide) ?_
        refine lv_irem hx hb dX1_goes_163 (by decide) ?_
        refine lv_topi (fun v9 e9 => ?_)
        have e9 := e9.trans (nI_mod24 (n := h) (by omega))
        subst e9
        refine va_iald hx hb hK hP 2 0 rfl rfl (vp_in_nI (by omega) (by omega)) dX1_goes_164 ?_
        refine lv_topi (fun v9 e9 => ?_)
        rw [nI_clamp (n := h % 24) (by omega)] at e9
        subst e9
        refine lv_istore (lv' := [(4, .int (P (h % 24))), (0, .ref (B 0)), (2, .int hd), (3, .int sm)]) hx hb dX1_goes_165 hl (by decide) rfl (fun ls hl => ?_)
        refine lv_iload_n hx hb dX1_goes_167 rfl (lv_at hl 3 rfl) ?_
        refine lv_aload_n hx hb dX1_goes_168 rfl (lv_at hl 1 rfl) ?_
        refine va_get (D := dG) (ci := 1) (v := .ref (B 6)) (C := RX1) (T := TX1) (N := 17) hx hb hts hinM hown hK hP 0 rfl rfl 12 (by decide) (hts (.fieldLink RX1 29 "TidegateBourseModel" "sold" "[I") (by decide +kernel)) (fun _ h9 => h9) rfl dX1_goes_169 ?_
        refine lv_aload_n hx hb dX1_goes_172 rfl (lv_at hl 1 rfl) ?_
        refine va_get (D := dG) (ci := 1) (v := .int (nI h)) (C := RX1) (T := TX1) (N := 17) hx hb hts hinM hown hK hP 0 rfl rfl 1 (by decide) (hts (.fieldLink RX1 61 "TidegateBourseModel" "now" "I") (by decide +kernel)) (fun _ h9 => h9) rfl dX1_goes_173 ?_
        refine va_iald hx hb hK hP 6 0 rfl rfl (vp_in_nI (by omega) (by omega)) dX1_goes_176 ?_
        refine lv_topi (fun v9 e9 => ?_)
        rw [nI_clamp (n := h) (by omega)] at e9
        subst e9
        refine lv_icmp_ge (tgt := 226) hx hb dX1_goes_177 (by decide) (fun cq4 => ?_) (fun cq4 => ?_)
        · refine lv_iload_n hx hb dX1_goes_226 rfl (lv_at hl 3 rfl) ?_
          refine lv_aload_n hx hb dX1_goes_227 rfl (lv_at hl 1 rfl) ?_
          refine va_get (D := dG) (ci := 1) (v := .ref (B 6)) (C := RX1) (T := TX1) (N := 17) hx hb hts hinM hown hK hP 0 rfl rfl 12 (by decide) (hts (.fieldLink RX1 29 "TidegateBourseModel" "sold" "[I") (by decide +kernel)) (fun _ h9 => h9) rfl dX1_goes_228 ?_
          refine lv_aload_n hx hb dX1_goes_231 rfl (lv_at hl 1 rfl) ?_
          refine va_get (D := dG) (ci := 1) (v := .int (nI h)) (C := RX1) (T := TX1) (N := 17) hx hb hts hinM hown hK hP 0 rfl rfl 1 (by decide) (hts (.fieldLink RX1 61 "TidegateBourseModel" "now" "I") (by decide +kernel)) (fun _ h9 => h9) rfl dX1_goes_232 ?_
          refine va_iald hx hb hK hP 6 0 rfl rfl (vp_in_nI (by omega) (by omega)) dX1_goes_235 ?_
          refine lv_topi (fun v9 e9 => ?_)
          rw [nI_clamp (n := h) (by omega)] at e9
          subst e9
          refine lv_icmp_le (tgt := 267) hx hb dX1_goes_236 (by decide) (fun cq5 => ?_) (fun cq5 => ?_)
          · refine lv_aload_n hx hb dX1_goes_267 rfl (lv_at hl 1 rfl) ?_
            refine lv_dup hx hb dX1_goes_268 rfl ?_
            refine va_get (D := dG) (ci := 1) (v := .int (nI h)) (C := RX1) (T := TX1) (N := 17) hx hb hts hinM hown hK hP 0 rfl rfl 1 (by decide) (hts (.fieldLink RX1 61 "TidegateBourseModel" "now" "I") (by decide +kernel)) (fun _ h9 => h9) rfl dX1_goes_269 ?_
            refine lv_iconst (v := 1) hx hb dX1_goes_272 (by decide) ?_
            refine lv_iadd hx hb dX1_goes_273 ?_
            refine lv_topi (fun v9 e9 => ?_)
            have e9 := e9.trans (nI_add h 1)
            subst e9
            refine va_put (D := dG) (ci := 1) (v := .int (nI (h + 1))) (ty := .int) (C := RX1) (T := TX1) (N := 17) hx hb hts hinM tyX1 tyX1_ok nmX1 hown hK hP hD hS 0 rfl rfl 1 (by decide) (hts (.fieldLink RX1 61 "TidegateBourseModel" "now" "I") (by decide +kernel)) (fun _ h9 => h9) rfl (by decide +kernel) rfl rfl (Nat.le_of_ble_eq_true rfl) dX1_goes_274 (fun H locs hP hD hS => ?_)
            have hP : va_P dG vwCl (mW B cA L P G V1 R1 S (upd Y h sm) O (upd D h hd) th (nI (h + 1)) wd (nI i) 0 fl (c1 - 1) mo) H := hP
            have hD : va_D F (mW B cA L P G V1 R1 S (upd Y h sm) O (upd D h hd) th (nI (h + 1)) wd (nI i) 0 fl (c1 - 1) mo) := hD
            exact W.vret hx hb hr (fun t ht hW => ⟨⟨(L, P, G, V1, R1, S, (upd Y h sm), O, (upd D h hd), th, (nI (h + 1)), wd, (nI i), 0, fl, (c1 - 1), mo), rfl, (by simp only [mTup, mGo, mO, mMo, ← hhd, ← hc1, ← hm, if_neg cq1, if_pos cq4, if_pos cq5]), by rw [ht]; exact hP, va_K.moved hW.alike hK, hD⟩, hS.F ht⟩) hS.2.2 dX1_goes_277
          · refine lv_aload_n hx hb dX1_goes_239 rfl (lv_at hl 1 rfl) ?_
            refine lv_dup hx hb dX1_goes_240 rfl ?_
            refine va_get (D := dG) (ci := 1) (v := .float mo) (C := RX1) (T := TX1) (N := 17) hx hb hts hinM hown hK hP 0 rfl rfl 16 (by decide) (hts (.fieldLink RX1 64 "TidegateBourseModel" "money" "F") (by decide +kernel)) (fun _ h9 => h9) rfl dX1_goes_241 ?_
            refine lv_iload_n hx hb dX1_goes_244 rfl (lv_at hl 3 rfl) ?_
            refine lv_aload_n hx hb dX1_goes_245 rfl (lv_at hl 1 rfl) ?_
            refine va_get (D := dG) (ci := 1) (v := .ref (B 6)) (C := RX1) (T := TX1) (N := 17) hx hb hts hinM hown hK hP 0 rfl rfl 12 (by decide) (hts (.fieldLink RX1 29 "TidegateBourseModel" "sold" "[I") (by decide +kernel)) (fun _ h9 => h9) rfl dX1_goes_246 ?_
            refine lv_aload_n hx hb dX1_goes_249 rfl (lv_at hl 1 rfl) ?_
            refine va_get (D := dG) (ci := 1) (v := .int (nI h)) (C := RX1) (T := TX1) (N := 17) hx hb hts hinM hown hK hP 0 rfl rfl 1 (by decide) (hts (.fieldLink RX1 61 "TidegateBourseModel" "now" "I") (by decide +kernel)) (fun _ h9 => h9) rfl dX1_goes_250 ?_
            refine va_iald hx hb hK hP 6 0 rfl rfl (vp_in_nI (by omega) (by omega)) dX1_goes_253 ?_
            refine lv_topi (fun v9 e9 => ?_)
            rw [nI_clamp (n := h) (by omega)] at e9
            subst e9
            refine lv_isub hx hb dX1_goes_254 ?_
            refine lv_i2f hx hb dX1_goes_255 ?_
            refine lv_iload hx hb dX1_goes_256 (lv_at hl 0 rfl) ?_
            refine lv_i2f hx hb dX1_goes_258 ?_
            refine lv_fmul hx hb dX1_goes_259 (nn_mul _ _) ?_
            refine lv_ldcf (v := 1056964608) hx hb hown (hts (.constantFloat RX1 75 (1056964608)) (by decide +kernel)) dX1_goes_260 ?_
            refine lv_fmul hx hb dX1_goes_262 (nn_half _ _) ?_
            refine lv_fadd hx hb dX1_goes_263 (nn_add hmo (half_fin _ _)) ?_
            refine va_put (D := dG) (ci := 1) (v := .float (FP.fadd mo (FP.fmul (FP.fmul (FP.i2f (sm - (S h))) (FP.i2f (P (h % 24)))) 1056964608))) (ty := .float) (C := RX1) (T := TX1) (N := 17) hx hb hts hinM tyX1 tyX1_ok nmX1 hown hK hP hD hS 0 rfl rfl 16 (by decide) (hts (.fieldLink RX1 64 "TidegateBourseModel" "money" "F") (by decide +kernel)) (fun _ h9 => h9) rfl (by decide +kernel) rfl rfl (Nat.le_of_ble_eq_true rfl) dX1_goes_264 (fun H locs hP hD hS => ?_)
            have hP : va_P dG vwCl (mW B cA L P G V1 R1 S (upd Y h sm) O (upd D h hd) th (nI h) wd (nI i) 0 fl (c1 - 1) (FP.fadd mo (FP.fmul (FP.fmul (FP.i2f (sm - (S h))) (FP.i2f (P (h % 24)))) 1056964608))) H := hP
            have hD : va_D F (mW B cA L P G V1 R1 S (upd Y h sm) O (upd D h hd) th (nI h) wd (nI i) 0 fl (c1 - 1) (FP.fadd mo (FP.fmul (FP.fmul (FP.i2f (sm - (S h))) (FP.i2f (P (h % 24)))) 1056964608))) := hD
            refine lv_aload_n hx hb dX1_goes_267 rfl (lv_at hl 1 rfl) ?_
            refine lv_dup hx hb dX1_goes_268 rfl ?_
            refine va_get (D := dG) (ci := 1) (v := .int (nI h)) (C := RX1) (T := TX1) (N := 17) hx hb hts hinM hown hK hP 0 rfl rfl 1 (by decide) (hts (.fieldLink RX1 61 "TidegateBourseModel" "now" "I") (by decide +kernel)) (fun _ h9 => h9) rfl dX1_goes_269 ?_
            refine lv_iconst (v := 1) hx hb dX1_goes_272 (by decide) ?_
            refine lv_iadd hx hb dX1_goes_273 ?_
            refine lv_topi (fun v9 e9 => ?_)
            have e9 := e9.trans (nI_add h 1)
            subst e9
            refine va_put (D := dG) (ci := 1) (v := .int (nI (h + 1))) (ty := .int) (C := RX1) (T := TX1) (N := 17) hx hb hts hinM tyX1 tyX1_ok nmX1 hown hK hP hD hS 0 rfl rfl 1 (by decide) (hts (.fieldLink RX1 61 "TidegateBourseModel" "now" "I") (by decide +kernel)) (fun _ h9 => h9) rfl (by decide +kernel) rfl rfl (Nat.le_of_ble_eq_true rfl) dX1_goes_274 (fun H locs hP hD hS => ?_)
            have hP : va_P dG vwCl (mW B cA L P G V1 R1 S (upd Y h sm) O (upd D h hd) th (nI (h + 1)) wd (nI i) 0 fl (c1 - 1) (FP.fadd mo (FP.fmul (FP.fmul (FP.i2f (sm - (S h))) (FP.i2f (P (h % 24)))) 1056964608))) H := hP
            have hD : va_D F (mW B cA L P G V1 R1 S (upd Y h sm) O (upd D h hd) th (nI (h + 1)) wd (nI i) 0 fl (c1 - 1) (FP.fadd mo (FP.fmul (FP.fmul (FP.i2f (sm - (S h))) (FP.i2f (P (h % 24)))) 1056964608))) := hD
            exact W.vret hx hb hr (fun t ht hW => ⟨⟨(L, P, G, V1, R1, S, (upd Y h sm), O, (upd D h hd), th, (nI (h + 1)), wd, (nI i), 0, fl, (c1 - 1), (FP.fadd mo (FP.fmul (FP.fmul (FP.i2f (sm - (S h))) (FP.i2f (P (h % 24)))) 1056964608))), rfl, (by simp only [mTup, mGo, mO, mMo, ← hhd, ← hc1, ← hm, if_neg cq1, if_pos cq4, if_neg cq5]), by rw [ht]; exact hP, va_K.moved hW.alike hK, hD⟩, hS.F ht⟩) hS.2.2 dX1_goes_277
        · refine lv_aload_n hx hb dX1_goes_180 rfl (lv_at hl 1 rfl) ?_
          refine va_get (D := dG) (ci := 1) (v := .ref (B 8)) (C := RX1) (T := TX1) (N := 17) hx hb hts hinM hown hK hP 0 rfl rfl 14 (by decide) (hts (.fieldLink RX1 35 "TidegateBourseModel" "bought" "[I") (by decide +kernel)) (fun _ h9 => h9) rfl dX1_goes_181 ?_
          refine lv_aload_n hx hb dX1_goes_184 rfl (lv_at hl 1 rfl) ?_
          refine va_get (D := dG) (ci := 1) (v := .int (nI h)) (C := RX1) (T := TX1) (N := 17) hx hb hts hinM hown hK hP 0 rfl rfl 1 (by decide) (hts (.fieldLink RX1 61 "TidegateBourseModel" "now" "I") (by decide +kernel)) (fun _ h9 => h9) rfl dX1_goes_185 ?_
          refine lv_aload_n hx hb dX1_goes_188 rfl (lv_at hl 1 rfl) ?_
          refine va_get (D := dG) (ci := 1) (v := .ref (B 6)) (C := RX1) (T := TX1) (N := 17) hx hb hts hinM hown hK hP 0 rfl rfl 12 (by decide) (hts (.fieldLink RX1 29 "TidegateBourseModel" "sold" "[I") (by decide +kernel)) (fun _ h9 => h9) rfl dX1_goes_189 ?_
          refine lv_aload_n hx hb dX1_goes_192 rfl (lv_at hl 1 rfl) ?_
          refine va_get (D := dG) (ci := 1) (v := .int (nI h)) (C := RX1) (T := TX1) (N := 17) hx hb hts hinM hown hK hP 0 rfl rfl 1 (by decide) (hts (.fieldLink RX1 61 "TidegateBourseModel" "now" "I") (by decide +kernel)) (fun _ h9 => h9) rfl dX1_goes_193 ?_
          refine va_iald hx hb hK hP 6 0 rfl rfl (vp_in_nI (by omega) (by omega)) dX1_goes_196 ?_
          refine lv_topi (fun v9 e9 => ?_)
          rw [nI_clamp (n := h) (by omega)] at e9
          subst e9
          refine lv_iload_n hx hb dX1_goes_197 rfl (lv_at hl 3 rfl) ?_
          refine lv_isub hx hb dX1_goes_198 ?_
          refine va_iast hx hb hK hP hD hS 8 0 rfl rfl (vp_in_nI (by omega) (by omega)) dX1_goes_199 (fun H locs hP hD hS => ?_)
          rw [nI_clamp (n := h) (by omega)] at hP hD
          have hP : va_P dG vwCl (mW B cA L P G V1 R1 S (upd Y h sm) (upd O h ((S h) - sm)) (upd D h hd) th (nI h) wd (nI i) 0 fl (c1 - 1) mo) H := hP
          have hD : va_D F (mW B cA L P G V1 R1 S (upd Y h sm) (upd O h ((S h) - sm)) (upd D h hd) th (nI h) wd (nI i) 0 fl (c1 - 1) mo) := hD
          refine lv_aload_n hx hb dX1_goes_200 rfl (lv_at hl 1 rfl) ?_
          refine lv_dup hx hb dX1_goes_201 rfl ?_
          refine va_get (D := dG) (ci := 1) (v := .float mo) (C := RX1) (T := TX1) (N := 17) hx hb hts hinM hown hK hP 0 rfl rfl 16 (by decide) (hts (.fieldLink RX1 64 "TidegateBourseModel" "money" "F") (by decide +kernel)) (fun _ h9 => h9) rfl dX1_goes_202 ?_
          refine lv_aload_n hx hb dX1_goes_205 rfl (lv_at hl 1 rfl) ?_
          refine va_get (D := dG) (ci := 1) (v := .ref (B 8)) (C := RX1) (T := TX1) (N := 17) hx hb hts hinM hown hK hP 0 rfl rfl 14 (by decide) (hts (.fieldLink RX1 35 "TidegateBourseModel" "bought" "[I") (by decide +kernel)) (fun _ h9 => h9) rfl dX1_goes_206 ?_
          refine lv_aload_n hx hb dX1_goes_209 rfl (lv_at hl 1 rfl) ?_
          refine va_get (D := dG) (ci := 1) (v := .int (nI h)) (C := RX1) (T := TX1) (N := 17) hx hb hts hinM hown hK hP 0 rfl rfl 1 (by decide) (hts (.fieldLink RX1 61 "TidegateBourseModel" "now" "I") (by decide +kernel)) (fun _ h9 => h9) rfl dX1_goes_210 ?_
          refine va_iald hx hb hK hP 8 0 rfl rfl (vp_in_nI (by omega) (by omega)) dX1_goes_213 ?_
          refine lv_topi (fun v9 e9 => ?_)
          rw [nI_clamp (n := h) (by omega)] at e9
          subst e9
          refine lv_topi (fun v9 e9 => ?_)
          rw [pk_us] at e9
          subst e9
          refine lv_i2f hx hb dX1_goes_214 ?_
          refine lv_iload hx hb dX1_goes_215 (lv_at hl 0 rfl) ?_
          refine lv_i2f hx hb dX1_goes_217 ?_
          refine lv_fmul hx hb dX1_goes_218 (nn_mul _ _) ?_
          refine lv_fsub hx hb dX1_goes_219 (nn_sub hmo (mul_fin _ _)) ?_
          refine va_put (D := dG) (ci := 1) (v := .float (FP.fsub mo (FP.fmul (FP.i2f ((S h) - sm)) (FP.i2f (P (h % 24)))))) (ty := .float) (C := RX1) (T := TX1) (N := 17) hx hb hts hinM tyX1 tyX1_ok nmX1 hown hK hP hD hS 0 rfl rfl 16 (by decide) (hts (.fieldLink RX1 64 "TidegateBourseModel" "money" "F") (by decide +kernel)) (fun _ h9 => h9) rfl (by decide +kernel) rfl rfl (Nat.le_of_ble_eq_true rfl) dX1_goes_220 (fun H locs hP hD hS => ?_)
          have hP : va_P dG vwCl (mW B cA L P G V1 R1 S (upd Y h sm) (upd O h ((S h) - sm)) (upd D h hd) th (nI h) wd (nI i) 0 fl (c1 - 1) (FP.fsub mo (FP.fmul (FP.i2f ((S h) - sm)) (FP.i2f (P (h % 24)))))) H := hP
          have hD : va_D F (mW B cA L P G V1 R1 S (upd Y h sm) (upd O h ((S h) - sm)) (upd D h hd) th (nI h) wd (nI i) 0 fl (c1 - 1) (FP.fsub mo (FP.fmul (FP.i2f ((S h) - sm)) (FP.i2f (P (h % 24)))))) := hD
          refine lv_goto (tgt := 267) hx hb dX1_goes_223 (by decide) ?_
          refine lv_aload_n hx hb dX1_goes_267 rfl (lv_at hl 1 rfl) ?_
          refine lv_dup hx hb dX1_goes_268 rfl ?_
          refine va_get (D := dG) (ci := 1) (v := .int (nI h)) (C := RX1) (T := TX1) (N := 17) hx hb hts hinM hown hK hP 0 rfl rfl 1 (by decide) (hts (.fieldLink RX1 61 "TidegateBourseModel" "now" "I") (by decide +kernel)) (fun _ h9 => h9) rfl dX1_goes_269 ?_
          refine lv_iconst (v := 1) hx hb dX1_goes_272 (by decide) ?_
          refine lv_iadd hx hb dX1_goes_273 ?_
          refine lv_topi (fun v9 e9 => ?_)
          have e9 := e9.trans (nI_add h 1)
          subst e9
          refine va_put (D := dG) (ci := 1) (v := .int (nI (h + 1))) (ty := .int) (C := RX1) (T := TX1) (N := 17) hx hb hts hinM tyX1 tyX1_ok nmX1 hown hK hP hD hS 0 rfl rfl 1 (by decide) (hts (.fieldLink RX1 61 "TidegateBourseModel" "now" "I") (by decide +kernel)) (fun _ h9 => h9) rfl (by decide +kernel) rfl rfl (Nat.le_of_ble_eq_true rfl) dX1_goes_274 (fun H locs hP hD hS => ?_)
          have hP : va_P dG vwCl (mW B cA L P G V1 R1 S (upd Y h sm) (upd O h ((S h) - sm)) (upd D h hd) th (nI (h + 1)) wd (nI i) 0 fl (c1 - 1) (FP.fsub mo (FP.fmul (FP.i2f ((S h) - sm)) (FP.i2f (P (h % 24)))))) H := hP
          have hD : va_D F (mW B cA L P G V1 R1 S (upd Y h sm) (upd O h ((S h) - sm)) (upd D h hd) th (nI (h + 1)) wd (nI i) 0 fl (c1 - 1) (FP.fsub mo (FP.fmul (FP.i2f ((S h) - sm)) (FP.i2f (P (h % 24)))))) := hD
          exact W.vret hx hb hr (fun t ht hW => ⟨⟨(L, P, G, V1, R1, S, (upd Y h sm), (upd O h ((S h) - sm)), (upd D h hd), th, (nI (h + 1)), wd, (nI i), 0, fl, (c1 - 1), (FP.fsub mo (FP.fmul (FP.i2f ((S h) - sm)) (FP.i2f (P (h % 24)))))), rfl, (by simp only [mTup, mGo, mO, mMo, ← hhd, ← hc1, ← hm, if_neg cq1, if_neg cq4]), by rw [ht]; exact hP, va_K.moved hW.alike hK, hD⟩, hS.F ht⟩) hS.2.2 dX1_goes_277
    | succ n ih =>
      intro i hd c1 V1 R1 sm H locs hi hhd hc1 hm hP hD hS ls hl
      refine lv_iload hx hb dX1_goes_62 (lv_at hl 3 rfl) ?_
      refine lv_aload_n hx hb dX1_goes_64 rfl (lv_at hl 0 rfl) ?_
      refine va_get (D := dG) (ci := 1) (v := .int (nI T)) (C := RX1) (T := TX1) (N := 17) hx hb hts hinM hown hK hP 0 rfl rfl 5 (by decide) (hts (.fieldLink RX1 44 "TidegateBourseModel" "turbines" "I") (by decide +kernel)) (fun _ h9 => h9) rfl dX1_goes_65 ?_
      refine lv_icmp_ge (tgt := 112) hx hb dX1_goes_68 (by decide) (fun h9 => absurd h9 (nI_ge (by omega) (by omega))) (fun _ => ?_)
      refine lv_iload_n hx hb dX1_goes_71 rfl (lv_at hl 2 rfl) ?_
      refine lv_aload_n hx hb dX1_goes_72 rfl (lv_at hl 0 rfl) ?_
      refine lv_iload hx hb dX1_goes_73 (lv_at hl 3 rfl) ?_
      refine lv_iload_n hx hb dX1_goes_75 rfl (lv_at hl 1 rfl) ?_
      have hFc := va_free (wc := (mW B cA L P G V1 R1 S Y O D th (nI h) wd (nI T) 0 fl c1 mo)) hD hS hA [0, 1, 2, 3, 4, 5, 6, 7, 8, 9] rfl
      refine va_calli (va_runV (As := [.int (nI i), .int hd]) (rest := [.int sm]) ⟨hx, hb, hml, hown, hts⟩ (c_X1_makes l dG B cA H L P G V1 R1 S Y O D T h th wd 0 fl c1 mo hd i (by omega)) (cwV 2 hts gX1_goes_X1_makes rfl rfl rfl (by decide +kernel) ⟨Nat.le_of_ble_eq_true rfl, Nat.le_of_ble_eq_true rfl⟩) ⟨fun a U g mk q => ⟨q.1, wPre_calling g mk a q.2⟩, va_recv hK hP (ci := 1) (q0 := 0) rfl rfl, fun U hU hW => ⟨rfl, wPre_of hK hP hD hU hW⟩⟩ rfl rfl hl.1 rfl (lv_room (Nat.le_of_ble_eq_true rfl)) dX1_goes_76 ⟨Nat.le_of_ble_eq_true rfl, Nat.le_of_ble_eq_true rfl⟩) hS (fun q _ h => hFc q h) hFc (fun r1 u1 t H locs ht hvm hw hB hz1 hk1 hS => ?_)
      obtain ⟨hP1, hK1, hD1⟩ := hB
      rw [ht] at hP1
      obtain ⟨hw1, hw2⟩ := hw
      subst hw1
      subst hw2
      obtain ⟨hP, hD⟩ := va_join (wr := []) (w1 := (mW B cA L P G (fMkV G V1 R1 c1 i hd) R1 S Y O D th (nI h) wd (nI T) 0 fl c1 mo)) hP hD [0, 1, 2, 3, 4, 5, 6, 7, 8, 9] [] rfl rfl (by decide) (by decide) hk1 hFc hP1 hD1
      have hP : va_P dG vwCl (mW B cA L P G (fMkV G V1 R1 c1 i hd) R1 S Y O D th (nI h) wd (nI T) 0 fl c1 mo) H := hP
      have hD : va_D F (mW B cA L P G (fMkV G V1 R1 c1 i hd) R1 S Y O D th (nI h) wd (nI T) 0 fl c1 mo) := hD
      refine lv_iadd hx hb dX1_goes_79 ?_
      refine lv_istore_n (lv' := [(3, .int (sm + (fMk G V1 R1 c1 i hd))), (0, .ref (B 0)), (2, .int hd), (4, .int (nI i))]) hx hb dX1_goes_80 rfl hl (by decide) rfl (fun ls hl => ?_)
      refine lv_aload_n hx hb dX1_goes_81 rfl (lv_at hl 1 rfl) ?_
      refine va_get (D := dG) (ci := 1) (v := .ref (B 5)) (C := RX1) (T := TX1) (N := 17) hx hb hts hinM hown hK hP 0 rfl rfl 8 (by decide) (hts (.fieldLink RX1 22 "TidegateBourseModel" "repairs" "[I") (by decide +kernel)) (fun _ h9 => h9) rfl dX1_goes_82 ?_
      refine lv_iload hx hb dX1_goes_85 (lv_at hl 3 rfl) ?_
      refine lv_dup2_11 hx hb dX1_goes_87 rfl rfl ?_
      refine va_iald hx hb hK hP 5 0 rfl rfl (vp_in_nI (by omega) (by omega)) dX1_goes_88 ?_
      refine lv_topi (fun v9 e9 => ?_)
      rw [nI_clamp (n := i) (by omega)] at e9
      subst e9
      refine lv_aload_n hx hb dX1_goes_89 rfl (lv_at hl 1 rfl) ?_
      refine va_get (D := dG) (ci := 1) (v := .ref (B 5)) (C := RX1) (T := TX1) (N := 17) hx hb hts hinM hown hK hP 0 rfl rfl 8 (by decide) (hts (.fieldLink RX1 22 "TidegateBourseModel" "repairs" "[I") (by decide +kernel)) (fun _ h9 => h9) rfl dX1_goes_90 ?_
      refine lv_iload hx hb dX1_goes_93 (lv_at hl 3 rfl) ?_
      refine va_iald hx hb hK hP 5 0 rfl rfl (vp_in_nI (by omega) (by omega)) dX1_goes_95 ?_
      refine lv_topi (fun v9 e9 => ?_)
      rw [nI_clamp (n := i) (by omega)] at e9
      subst e9
      refine lv_if_le (tgt := 103) hx hb dX1_goes_96 (by decide) (fun cq2 => ?_) (fun cq2 => ?_)
      · refine lv_iconst (v := 0) hx hb dX1_goes_103 (by decide) ?_
        refine lv_isub hx hb dX1_goes_104 ?_
        refine va_iast hx hb hK hP hD hS 5 0 rfl rfl (vp_in_nI (by omega) (by omega)) dX1_goes_105 (fun H locs hP hD hS => ?_)
        rw [nI_clamp (n := i) (by omega)] at hP hD
        have hP : va_P dG vwCl (mW B cA L P G (fMkV G V1 R1 c1 i hd) (upd R1 i ((R1 i) - 0)) S Y O D th (nI h) wd (nI T) 0 fl c1 mo) H := hP
        have hD : va_D F (mW B cA L P G (fMkV G V1 R1 c1 i hd) (upd R1 i ((R1 i) - 0)) S Y O D th (nI h) wd (nI T) 0 fl c1 mo) := hD
        refine lv_iinc (v := (nI (i + 1))) (lv' := [(4, .int (nI (i + 1))), (3, .int (sm + (fMk G V1 R1 c1 i hd))), (0, .ref (B 0)), (2, .int hd)]) hx hb dX1_goes_106 hl (k := 3) rfl (nI_1 i) (by decide) rfl (fun ls hl => ?_)
        refine lv_goto (tgt := 62) hx hb dX1_goes_109 (by decide) ?_
        exact ih (i + 1) hd c1 _ _ _ _ _ (by omega) hhd hc1 (by simp only [mMk, ← hm, if_pos cq2]) hP hD hS ls (lv_sub hl [2, 3, 1, 0] rfl)
      · refine lv_iconst (v := 1) hx hb dX1_goes_99 (by decide) ?_
        refine lv_goto (tgt := 104) hx hb dX1_goes_100 (by decide) ?_
        refine lv_isub hx hb dX1_goes_104 ?_
        refine va_iast hx hb hK hP hD hS 5 0 rfl rfl (vp_in_nI (by omega) (by omega)) dX1_goes_105 (fun H locs hP hD hS => ?_)
        rw [nI_clamp (n := i) (by omega)] at hP hD
        have hP : va_P dG vwCl (mW B cA L P G (fMkV G V1 R1 c1 i hd) (upd R1 i ((R1 i) - 1)) S Y O D th (nI h) wd (nI T) 0 fl c1 mo) H := hP
        have hD : va_D F (mW B cA L P G (fMkV G V1 R1 c1 i hd) (upd R1 i ((R1 i) - 1)) S Y O D th (nI h) wd (nI T) 0 fl c1 mo) := hD
        refine lv_iinc (v := (nI (i + 1))) (lv' := [(4, .int (nI (i + 1))), (3, .int (sm + (fMk G V1 R1 c1 i hd))), (0, .ref (B 0)), (2, .int hd)]) hx hb dX1_goes_106 hl (k := 3) rfl (nI_1 i) (by decide) rfl (fun ls hl => ?_)
        refine lv_goto (tgt := 62) hx hb dX1_goes_109 (by decide) ?_
        exact ih (i + 1) hd c1 _ _ _ _ _ (by omega) hhd hc1 (by simp only [mMk, ← hm, if_neg cq2]) hP hD hS ls (lv_sub hl [2, 3, 1, 0] rfl)
  refine lv_aload_n hx hb dX1_goes_0 rfl (lv_at hl 0 rfl) ?_
  refine va_get (D := dG) (ci := 1) (v := .ref (B 1)) (C := RX1) (T := TX1) (N := 17) hx hb hts hinM hown hK hP 0 rfl rfl 2 (by decide) (hts (.fieldLink RX1 7 "TidegateBourseModel" "levels" "[I") (by decide +kernel)) (fun _ h9 => h9) rfl dX1_goes_1 ?_
  refine lv_aload_n hx hb dX1_goes_4 rfl (lv_at hl 0 rfl) ?_
  refine va_get (D := dG) (ci := 1) (v := .int (nI h)) (C := RX1) (T := TX1) (N := 17) hx hb hts hinM hown hK hP 0 rfl rfl 1 (by decide) (hts (.fieldLink RX1 61 "TidegateBourseModel" "now" "I") (by decide +kernel)) (fun _ h9 => h9) rfl dX1_goes_5 ?_
  refine lv_bipush (v := 24) hx hb dX1_goes_8 (by decide) ?_
  refine lv_irem hx hb dX1_goes_10 (by decide) ?_
  refine lv_topi (fun v9 e9 => ?_)
  have e9 := e9.trans (nI_mod24 (n := h) (by omega))
  subst e9
  refine va_iald hx hb hK hP 1 0 rfl rfl (vp_in_nI (by omega) (by omega)) dX1_goes_11 ?_
  refine lv_topi (fun v9 e9 => ?_)
  rw [nI_clamp (n := h % 24) (by omega)] at e9
  subst e9
  refine lv_aload_n hx hb dX1_goes_12 rfl (lv_at hl 0 rfl) ?_
  refine va_get (D := dG) (ci := 1) (v := .int wd) (C := RX1) (T := TX1) (N := 17) hx hb hts hinM hown hK hP 0 rfl rfl 4 (by decide) (hts (.fieldLink RX1 51 "TidegateBourseModel" "wind" "I") (by decide +kernel)) (fun _ h9 => h9) rfl dX1_goes_13 ?_
  refine lv_iadd hx hb dX1_goes_16 ?_
  refine lv_istore_n (lv' := [(1, .int ((L (h % 24)) + wd)), (0, .ref (B 0))]) hx hb dX1_goes_17 rfl hl (by decide) rfl (fun ls hl => ?_)
  refine lv_iload_n hx hb dX1_goes_18 rfl (lv_at hl 0 rfl) ?_
  refine lv_if_ge (tgt := 27) hx hb dX1_goes_19 (by decide) (fun cq1 => ?_) (fun cq1 => ?_)
  · refine lv_iload_n hx hb dX1_goes_27 rfl (lv_at hl 0 rfl) ?_
    refine lv_istore_n (lv' := [(2, .int ((L (h % 24)) + wd)), (1, .int ((L (h % 24)) + wd)), (0, .ref (B 0))]) hx hb dX1_goes_28 rfl hl (by decide) rfl (fun ls hl => ?_)
    refine lv_aload_n hx hb dX1_goes_29 rfl (lv_at hl 2 rfl) ?_
    refine lv_aload_n hx hb dX1_goes_30 rfl (lv_at hl 2 rfl) ?_
    refine va_get (D := dG) (ci := 1) (v := .int ft) (C := RX1) (T := TX1) (N := 17) hx hb hts hinM hown hK hP 0 rfl rfl 9 (by decide) (hts (.fieldLink RX1 58 "TidegateBourseModel" "fish" "I") (by decide +kernel)) (fun _ h9 => h9) rfl dX1_goes_31 ?_
    refine lv_aload_n hx hb dX1_goes_34 rfl (lv_at hl 2 rfl) ?_
    refine va_get (D := dG) (ci := 1) (v := .int fl) (C := RX1) (T := TX1) (N := 17) hx hb hts hinM hown hK hP 0 rfl rfl 10 (by decide) (hts (.fieldLink RX1 25 "TidegateBourseModel" "limit" "I") (by decide +kernel)) (fun _ h9 => h9) rfl dX1_goes_35 ?_
    refine lv_icmp_le (tgt := 45) hx hb dX1_goes_38 (by decide) (fun cq2 => ?_) (fun cq2 => ?_)
    · refine lv_aload_n hx hb dX1_goes_45 rfl (lv_at hl 2 rfl) ?_
      refine va_get (D := dG) (ci := 1) (v := .int cl) (C := RX1) (T := TX1) (N := 17) hx hb hts hinM hown hK hP 0 rfl rfl 11 (by decide) (hts (.fieldLink RX1 68 "TidegateBourseModel" "closed" "I") (by decide +kernel)) (fun _ h9 => h9) rfl dX1_goes_46 ?_
      refine va_put (D := dG) (ci := 1) (v := .int cl) (ty := .int) (C := RX1) (T := TX1) (N := 17) hx hb hts hinM tyX1 tyX1_ok nmX1 hown hK hP hD hS 0 rfl rfl 11 (by decide) (hts (.fieldLink RX1 68 "TidegateBourseModel" "closed" "I") (by decide +kernel)) (fun _ h9 => h9) rfl (by decide +kernel) rfl rfl (Nat.le_of_ble_eq_true rfl) dX1_goes_49 (fun H locs hP hD hS => ?_)
      have hP : va_P dG vwCl (mW B cA L P G V R S Y O D th (nI h) wd (nI T) ft fl cl mo) H := hP
      have hD : va_D F (mW B cA L P G V R S Y O D th (nI h) wd (nI T) ft fl cl mo) := hD
      refine lv_aload_n hx hb dX1_goes_52 rfl (lv_at hl 2 rfl) ?_
      refine lv_iconst (v := 0) hx hb dX1_goes_53 (by decide) ?_
      refine va_put (D := dG) (ci := 1) (v := .int 0) (ty := .int) (C := RX1) (T := TX1) (N := 17) hx hb hts hinM tyX1 tyX1_ok nmX1 hown hK hP hD hS 0 rfl rfl 9 (by decide) (hts (.fieldLink RX1 58 "TidegateBourseModel" "fish" "I") (by decide +kernel)) (fun _ h9 => h9) rfl (by decide +kernel) rfl rfl (Nat.le_of_ble_eq_true rfl) dX1_goes_54 (fun H locs hP hD hS => ?_)
      have hP : va_P dG vwCl (mW B cA L P G V R S Y O D th (nI h) wd (nI T) 0 fl cl mo) H := hP
      have hD : va_D F (mW B cA L P G V R S Y O D th (nI h) wd (nI T) 0 fl cl mo) := hD
      refine lv_iconst (v := 0) hx hb dX1_goes_57 (by decide) ?_
      refine lv_istore_n (lv' := [(3, .int 0), (2, .int ((L (h % 24)) + wd)), (1, .int ((L (h % 24)) + wd)), (0, .ref (B 0))]) hx hb dX1_goes_58 rfl hl (by decide) rfl (fun ls hl => ?_)
      refine lv_iconst (v := 0) hx hb dX1_goes_59 (by decide) ?_
      refine lv_istore (lv' := [(4, .int 0), (3, .int 0), (2, .int ((L (h % 24)) + wd)), (1, .int ((L (h % 24)) + wd)), (0, .ref (B 0))]) hx hb dX1_goes_60 hl (by decide) rfl (fun ls hl => ?_)
      exact loop T 0 _ _ V R 0 _ _ (by omega) (by unfold fAbsM; rw [if_pos cq1]) (by unfold mClo; rw [if_pos cq2]) rfl hP hD hS ls (lv_sub hl [4, 2, 1, 0] rfl)
    · refine lv_iconst (v := 3) hx hb dX1_goes_41 (by decide) ?_
      refine lv_goto (tgt := 49) hx hb dX1_goes_42 (by decide) ?_
      refine va_put (D := dG) (ci := 1) (v := .int 3) (ty := .int) (C := RX1) (T := TX1) (N := 17) hx hb hts hinM tyX1 tyX1_ok nmX1 hown hK hP hD hS 0 rfl rfl 11 (by decide) (hts (.fieldLink RX1 68 "TidegateBourseModel" "closed" "I") (by decide +kernel)) (fun _ h9 => h9) rfl (by decide +kernel) rfl rfl (Nat.le_of_ble_eq_true rfl) dX1_goes_49 (fun H locs hP hD hS => ?_)
      have hP : va_P dG vwCl (mW B cA L P G V R S Y O D th (nI h) wd (nI T) ft fl 3 mo) H := hP
      have hD : va_D F (mW B cA L P G V R S Y O D th (nI h) wd (nI T) ft fl 3 mo) := hD
      refine lv_aload_n hx hb dX1_goes_52 rfl (lv_at hl 2 rfl) ?_
      refine lv_iconst (v := 0) hx hb dX1_goes_53 (by decide) ?_
      refine va_put (D := dG) (ci := 1) (v := .int 0) (ty := .int) (C := RX1) (T := TX1) (N := 17) hx hb hts hinM tyX1 tyX1_ok nmX1 hown hK hP hD hS 0 rfl rfl 9 (by decide) (hts (.fieldLink RX1 58 "TidegateBourseModel" "fish" "I") (by decide +kernel)) (fun _ h9 => h9) rfl (by decide +kernel) rfl rfl (Nat.le_of_ble_eq_true rfl) dX1_goes_54 (fun H locs hP hD hS => ?_)
      have hP : va_P dG vwCl (mW B cA L P G V R S Y O D th (nI h) wd (nI T) 0 fl 3 mo) H := hP
      have hD : va_D F (mW B cA L P G V R S Y O D th (nI h) wd (nI T) 0 fl 3 mo) := hD
      refine lv_iconst (v := 0) hx hb dX1_goes_57 (by decide) ?_
      refine lv_istore_n (lv' := [(3, .int 0), (2, .int ((L (h % 24)) + wd)), (1, .int ((L (h % 24)) + wd)), (0, .ref (B 0))]) hx hb dX1_goes_58 rfl hl (by decide) rfl (fun ls hl => ?_)
      refine lv_iconst (v := 0) hx hb dX1_goes_59 (by decide) ?_
      refine lv_istore (lv' := [(4, .int 0), (3, .int 0), (2, .int ((L (h % 24)) + wd)), (1, .int ((L (h % 24)) + wd)), (0, .ref (B 0))]) hx hb dX1_goes_60 hl (by decide) rfl (fun ls hl => ?_)
      exact loop T 0 _ _ V R 0 _ _ (by omega) (by unfold fAbsM; rw [if_pos cq1]) (by unfold mClo; rw [if_neg cq2]) rfl hP hD hS ls (lv_sub hl [4, 2, 1, 0] rfl)
  · refine lv_iload_n hx hb dX1_goes_22 rfl (lv_at hl 0 rfl) ?_
    refine lv_ineg hx hb dX1_goes_23 ?_
    refine lv_goto (tgt := 28) hx hb dX1_goes_24 (by decide) ?_
    refine lv_istore_n (lv' := [(2, .int (-((L (h % 24)) + wd))), (1, .int ((L (h % 24)) + wd)), (0, .ref (B 0))]) hx hb dX1_goes_28 rfl hl (by decide) rfl (fun ls hl => ?_)
    refine lv_aload_n hx hb dX1_goes_29 rfl (lv_at hl 2 rfl) ?_
    refine lv_aload_n hx hb dX1_goes_30 rfl (lv_at hl 2 rfl) ?_
    refine va_get (D := dG) (ci := 1) (v := .int ft) (C := RX1) (T := TX1) (N := 17) hx hb hts hinM hown hK hP 0 rfl rfl 9 (by decide) (hts (.fieldLink RX1 58 "TidegateBourseModel" "fish" "I") (by decide +kernel)) (fun _ h9 => h9) rfl dX1_goes_31 ?_
    refine lv_aload_n hx hb dX1_goes_34 rfl (lv_at hl 2 rfl) ?_
    refine va_get (D := dG) (ci := 1) (v := .int fl) (C := RX1) (T := TX1) (N := 17) hx hb hts hinM hown hK hP 0 rfl rfl 10 (by decide) (hts (.fieldLink RX1 25 "TidegateBourseModel" "limit" "I") (by decide +kernel)) (fun _ h9 => h9) rfl dX1_goes_35 ?_
    refine lv_icmp_le (tgt := 45) hx hb dX1_goes_38 (by decide) (fun cq3 => ?_) (fun cq3 => ?_)
    · refine lv_aload_n hx hb dX1_goes_45 rfl (lv_at hl 2 rfl) ?_
      refine va_get (D := dG) (ci := 1) (v := .int cl) (C := RX1) (T := TX1) (N := 17) hx hb hts hinM hown hK hP 0 rfl rfl 11 (by decide) (hts (.fieldLink RX1 68 "TidegateBourseModel" "closed" "I") (by decide +kernel)) (fun _ h9 => h9) rfl dX1_goes_46 ?_
      refine va_put (D := dG) (ci := 1) (v := .int cl) (ty := .int) (C := RX1) (T := TX1) (N := 17) hx hb hts hinM tyX1 tyX1_ok nmX1 hown hK hP hD hS 0 rfl rfl 11 (by decide) (hts (.fieldLink RX1 68 "TidegateBourseModel" "closed" "I") (by decide +kernel)) (fun _ h9 => h9) rfl (by decide +kernel) rfl rfl (Nat.le_of_ble_eq_true rfl) dX1_goes_49 (fun H locs hP hD hS => ?_)
      have hP : va_P dG vwCl (mW B cA L P G V R S Y O D th (nI h) wd (nI T) ft fl cl mo) H := hP
      have hD : va_D F (mW B cA L P G V R S Y O D th (nI h) wd (nI T) ft fl cl mo) := hD
      refine lv_aload_n hx hb dX1_goes_52 rfl (lv_at hl 2 rfl) ?_
      refine lv_iconst (v := 0) hx hb dX1_goes_53 (by decide) ?_
      refine va_put (D := dG) (ci := 1) (v := .int 0) (ty := .int) (C := RX1) (T := TX1) (N := 17) hx hb hts hinM tyX1 tyX1_ok nmX1 hown hK hP hD hS 0 rfl rfl 9 (by decide) (hts (.fieldLink RX1 58 "TidegateBourseModel" "fish" "I") (by decide +kernel)) (fun _ h9 => h9) rfl (by decide +kernel) rfl rfl (Nat.le_of_ble_eq_true rfl) dX1_goes_54 (fun H locs hP hD hS => ?_)
      have hP : va_P dG vwCl (mW B cA L P G V R S Y O D th (nI h) wd (nI T) 0 fl cl mo) H := hP
      have hD : va_D F (mW B cA L P G V R S Y O D th (nI h) wd (nI T) 0 fl cl mo) := hD
      refine lv_iconst (v := 0) hx hb dX1_goes_57 (by decide) ?_
      refine lv_istore_n (lv' := [(3, .int 0), (2, .int (-((L (h % 24)) + wd))), (1, .int ((L (h % 24)) + wd)), (0, .ref (B 0))]) hx hb dX1_goes_58 rfl hl (by decide) rfl (fun ls hl => ?_)
      refine lv_iconst (v := 0) hx hb dX1_goes_59 (by decide) ?_
      refine lv_istore (lv' := [(4, .int 0), (3, .int 0), (2, .int (-((L (h % 24)) + wd))), (1, .int ((L (h % 24)) + wd)), (0, .ref (B 0))]) hx hb dX1_goes_60 hl (by decide) rfl (fun ls hl => ?_)
      exact loop T 0 _ _ V R 0 _ _ (by omega) (by unfold fAbsM; rw [if_neg cq1]) (by unfold mClo; rw [if_pos cq3]) rfl hP hD hS ls (lv_sub hl [4, 2, 1, 0] rfl)
    · refine lv_iconst (v := 3) hx hb dX1_goes_41 (by decide) ?_
      refine lv_goto (tgt := 49) hx hb dX1_goes_42 (by decide) ?_
      refine va_put (D := dG) (ci := 1) (v := .int 3) (ty := .int) (C := RX1) (T := TX1) (N := 17) hx hb hts hinM tyX1 tyX1_ok nmX1 hown hK hP hD hS 0 rfl rfl 11 (by decide) (hts (.fieldLink RX1 68 "TidegateBourseModel" "closed" "I") (by decide +kernel)) (fun _ h9 => h9) rfl (by decide +kernel) rfl rfl (Nat.le_of_ble_eq_true rfl) dX1_goes_49 (fun H locs hP hD hS => ?_)
      have hP : va_P dG vwCl (mW B cA L P G V R S Y O D th (nI h) wd (nI T) ft fl 3 mo) H := hP
      have hD : va_D F (mW B cA L P G V R S Y O D th (nI h) wd (nI T) ft fl 3 mo) := hD
      refine lv_aload_n hx hb dX1_goes_52 rfl (lv_at hl 2 rfl) ?_
      refine lv_iconst (v := 0) hx hb dX1_goes_53 (by decide) ?_
      refine va_put (D := dG) (ci := 1) (v := .int 0) (ty := .int) (C := RX1) (T := TX1) (N := 17) hx hb hts hinM tyX1 tyX1_ok nmX1 hown hK hP hD hS 0 rfl rfl 9 (by decide) (hts (.fieldLink RX1 58 "TidegateBourseModel" "fish" "I") (by decide +kernel)) (fun _ h9 => h9) rfl (by decide +kernel) rfl rfl (Nat.le_of_ble_eq_true rfl) dX1_goes_54 (fun H locs hP hD hS => ?_)
      have hP : va_P dG vwCl (mW B cA L P G V R S Y O D th (nI h) wd (nI T) 0 fl 3 mo) H := hP
      have hD : va_D F (mW B cA L P G V R S Y O D th (nI h) wd (nI T) 0 fl 3 mo) := hD
      refine lv_iconst (v := 0) hx hb dX1_goes_57 (by decide) ?_
      refine lv_istore_n (lv' := [(3, .int 0), (2, .int (-((L (h % 24)) + wd))), (1, .int ((L (h % 24)) + wd)), (0, .ref (B 0))]) hx hb dX1_goes_58 rfl hl (by decide) rfl (fun ls hl => ?_)
      refine lv_iconst (v := 0) hx hb dX1_goes_59 (by decide) ?_
      refine lv_istore (lv' := [(4, .int 0), (3, .int 0), (2, .int (-((L (h % 24)) + wd))), (1, .int ((L (h % 24)) + wd)), (0, .ref (B 0))]) hx hb dX1_goes_60 hl (by decide) rfl (fun ls hl => ?_)
      exact loop T 0 _ _ V R 0 _ _ (by omega) (by unfold fAbsM; rw [if_neg cq1]) (by unfold mClo; rw [if_neg cq3]) rfl hP hD hS ls (lv_sub hl [4, 2, 1, 0] rfl)
