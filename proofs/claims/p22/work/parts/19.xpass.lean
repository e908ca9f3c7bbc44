theorem oI_nI {c lo hi : Nat} (h1 : lo ≤ c) (h2 : c ≤ hi) (h3 : hi < 2 ^ 31) : ¬ oI (nI c) (nI lo) (nI hi) := fun h => h.elim (fun q => nI_nlt h1 (by omega) q) (fun q => nI_nlt h2 h3 q)
theorem nI_sub1 {h : Nat} (h0 : 0 < h) : nI h - 1 = nI (h - 1) := by
  obtain ⟨k, rfl⟩ : ∃ k, h = k + 1 := ⟨h - 1, by omega⟩
  rw [nI_pred]
  rfl
theorem oI_gone {j h : Nat} (h1 : j < h) (h2 : h ≤ 500) : ¬ oI (nI j) 0 (nI h - 1) := by
  rw [nI_sub1 (by omega)]
  exact oI_nI (lo := 0) (by omega) (by omega) (by omega)
theorem kGone_no {nh x : Int32} (hk : ¬ kGone nh x = 0) : oI x 0 (nh - 1) := by
  by_cases g : oI x 0 (nh - 1)
  · exact g
  · exact absurd (by unfold kGone; rw [if_neg g]) hk
def rpW (n : Int32) (k : Nat) (w : Int32) : Int32 := if fRepair n (nI k) = 0 then w else 0
def rpR (n : Int32) (k i : Nat) (re : Int32) : Int32 := if fRepair n (nI k) = 0 then re else nI (i + 5)
def rpU (n : Int32) (i : Nat) (ru : Int32) : Int32 := if fRun n = 0 then ru else nI (i + 3)
def rpStep (n : Int32) (k i : Nat) (p : Int32 × Int32 × Int32 × Int32) : Int32 × Int32 × Int32 × Int32 :=
  if fWorks (nI i) (rpW n k p.2.1) (rpR n k i p.2.2.1) (rpU n i p.2.2.2) = 0 then (0, rpW n k p.2.1, rpR n k i p.2.2.1, rpU n i p.2.2.2)
  else (fUnits (fHead n) (fGate n (nI k)) (rpW n k p.2.1), fWear (fHead n) (fGate n (nI k)) (rpW n k p.2.1), rpR n k i p.2.2.1, rpU n i p.2.2.2)
def rp (N : Nat → Int32) (k : Nat) : Nat → Int32 × Int32 × Int32 × Int32
  | 0 => (0, 0, 0, 0)
  | i + 1 => rpStep (N i) k i (rp N k i)
def rpS (N : Nat → Int32) (j : Nat) : Nat → Int32
  | 0 => 0
  | i + 1 => rpS N j i + (rp N i (j + 1)).1
def xGoN (L P G R S : Nat → Int32) (wd fl : Int32) (T h : Nat) : Nat → XG → XG
  | 0, g => g
  | j + 1, g => xGo L P G R S wd fl T (h + j) (xGoN L P G R S wd fl T h j g)
set_option maxHeartbeats 4000000 in
set_option maxRecDepth 100000 in
theorem c_X0_pass_ok (l : Launch) (dG : va_G) (a A : Nat → Nat) (cA : ClassId) (Hp : Heap) (L P G V R N Y S : Nat → Int32) (T h : Nat) (wd ft fl ce : Int32) (mo : UInt32)  (ct : Nat) (hc1 : 1 ≤ ct) (hc2 : ct ≤ 48) (hc3 : h + ct ≤ 500) (hT : T ≤ 4) (hmo : ∀ j : Nat, j < ct → FP.Core.FFin (xGoN L P G R S wd fl T h j (V, N, Y, ft, ce, mo)).2.2.2.2.2) : Met l yX0_pass wsX0_pass ({ frames := 7, cells := 0, slots := 0, locals := 130 }) (va_Pc [.ref (A 0), .int (nI ct)] (fun U => wPre dG (tyI cA) (xW A cA L P G V R N Y S wd (nI T) ft fl ce (nI h) mo) Hp U)) (va_Qi (fun (r : Int32) (u : XS) => r = nI (h + ct) ∧ u = xTup L P G R S wd fl T (h + ct) (xGoN L P G R S wd fl T h ct (V, N, Y, ft, ce, mo))) (fun u t => wAt dG (tyI cA) (va_A (xW A cA L P G V R N Y S wd (nI T) ft fl ce (nI h) mo) Hp.size) (xU A cA u) t) (va_A (xW A cA L P G V R N Y S wd (nI T) ft fl ce (nI h) mo) Hp.size)) 0 0 (va_A (xW A cA L P G V R N Y S wd (nI T) ft fl ce (nI h) mo) Hp.size) := by
  refine Met.ofW (cc := cX0_pass) (maxL := 4) (ret := (some .int)) (by decide) rfl ?_
  intro p e s m args below meth c s₁ Bd hml hv
  obtain ⟨rfl, hH, hP, hK, hD0⟩ := hv
  subst hH
  have hK : va_K dG vwCl (tyI cA) s := hK
  have hx := Bd.exec
  have hb := Bd.bytes
  have hr := Bd.returns
  have hts := atoms_spec (ws := wsX0_pass) Bd.pre
  have hown : s.vm.findClass RX0 = some m.cls := findClass_of_methodNamed Bd.named
  have hlocks := Bd.notSynchronized
  have hinX : ∀ w ∈ wsX00, w ∈ wsX0_pass := by decide +kernel
  have hD := hD0.self (sz := s.heap.size)
  generalize hAe : va_A (xW A cA L P G V R N Y S wd (nI T) ft fl ce (nI h) mo) s.heap.size = F at hD ⊢
  have hA : ∀ q : Nat, s.heap.size ≤ q → F q := fun q h => by rw [← hAe]; exact Or.inr h
  have hS : va_S F s.heap s.heap [] := va_S.rf
  have hP : va_P dG vwCl (xW A cA L P G V R N Y S wd (nI T) ft fl ce (nI h) mo) s.heap := hP
  have hl := lv_entry ([.ref (A 0), .int (nI ct)]) (n := 4) (Nat.le_of_ble_eq_true rfl)
  rw [lg_entry_eq]
  generalize (lg_sl ([.ref (A 0), .int (nI ct)]) ++ List.replicate (4 - (lg_sl ([.ref (A 0), .int (nI ct)])).length) Slot.unset).toArray = ls at hl ⊢
  have hl : lv_has ls 4 [(0, .ref (A 0)), (1, .int (nI ct))] := hl
  have loop : ∀ (n i : Nat) (g : XG) (H : Heap) (locs : List Loc), i + n = ct → g = xGoN L P G R S wd fl T h i (V, N, Y, ft, ce, mo) → va_P dG vwCl (xW A cA L P G g.1 R g.2.1 g.2.2.1 S wd (nI T) g.2.2.2.1 fl g.2.2.2.2.1 (nI (h + i)) g.2.2.2.2.2) H → va_D F (xW A cA L P G g.1 R g.2.1 g.2.2.1 S wd (nI T) g.2.2.2.1 fl g.2.2.2.2.1 (nI (h + i)) g.2.2.2.2.2) → va_S F s.heap H locs → ∀ ls : Array Slot, lv_has ls 4 [(0, .ref (A 0)), (2, .int (nI (h + ct))), (3, .int (nI (h + i)))] → W p l e (headSpec wsX0_pass ({ frames := 7, cells := 0, slots := 0, locals := 130 })).room s m ([.ref (A 0), .int (nI ct)]).toArray below meth c H locs 0 0 (MQ below (va_Qi (fun (r : Int32) (u : XS) => r = nI (h + ct) ∧ u = xTup L P G R S wd fl T (h + ct) (xGoN L P G R S wd fl T h ct (V, N, Y, ft, ce, mo))) (fun u t => wAt dG (tyI cA) F (xU A cA u) t) F) ([.ref (A 0), .int (nI ct)]).toArray s 0 0 F) (F0 m 36 ls []) := by
    intro n
    induction n with
    | zero =>
      intro i g H locs hi hm hP hD hS ls hl
      have hi : ct = i := by omega
      subst hi
      refine lv_iload_n hx hb dX0_pass_36 rfl (lv_at hl 2 rfl) ?_
      refine lv_iload_n hx hb dX0_pass_37 rfl (lv_at hl 1 rfl) ?_
      refine lv_icmp_ge (tgt := 52) hx hb dX0_pass_38 (by decide) (fun _ => ?_) (fun h9 => absurd (nI_le (by omega) (by omega)) h9)
      refine lv_aload_n hx hb dX0_pass_52 rfl (lv_at hl 0 rfl) ?_
      refine va_get (D := dG) (ci := 0) (v := .int (nI (h + ct))) (C := RX0) (T := TX0) (N := 15) hx hb hts hinX hown hK hP 0 rfl rfl 13 (by decide) (hts (.fieldLink RX0 58 "TidegateBourse" "nextHour" "I") (by decide +kernel)) (fun _ h9 => h9) rfl dX0_pass_53 ?_
      exact W.iret hx hb hr (fun t ht hW => ⟨⟨_, xTup L P G R S wd fl T (h + ct) g, rfl, ⟨rfl, by rw [hm]⟩, by rw [ht]; exact hP, va_K.moved hW.alike hK, hD⟩, hS.F ht⟩) hS.2.2 dX0_pass_56
    | succ n ih =>
      intro i g H locs hi hm hP hD hS ls hl
      refine lv_iload_n hx hb dX0_pass_36 rfl (lv_at hl 2 rfl) ?_
      refine lv_iload_n hx hb dX0_pass_37 rfl (lv_at hl 1 rfl) ?_
      refine lv_icmp_ge (tgt := 52) hx hb dX0_pass_38 (by decide) (fun h9 => absurd h9 (nI_ge (by omega) (by omega))) (fun _ => ?_)
      refine lv_aload_n hx hb dX0_pass_41 rfl (lv_at hl 0 rfl) ?_
      refine lv_iload_n hx hb dX0_pass_42 rfl (lv_at hl 2 rfl) ?_
      have hFc := va_free (wc := (xW A cA L P G g.1 R g.2.1 g.2.2.1 S wd (nI T) g.2.2.2.1 fl g.2.2.2.2.1 (nI (h + i)) g.2.2.2.2.2)) hD hS hA [0, 1, 2, 3, 4, 5, 6, 7, 8] rfl
      refine va_callv (va_runV (As := [.int (nI (h + i))]) (rest := []) ⟨hx, hb, hml, hown, hts⟩ (c_X0_goBy l dG a A cA H L P G g.1 R g.2.1 g.2.2.1 S T (h + i) wd g.2.2.2.1 fl g.2.2.2.2.1 g.2.2.2.2.2  hT (by omega) (hm ▸ hmo i (by omega))) (cwV 1 hts gX0_pass_X0_goBy rfl rfl rfl (by decide +kernel) ⟨Nat.le_of_ble_eq_true rfl, Nat.le_of_ble_eq_true rfl⟩) ⟨fun a U g mk q => ⟨q.1, wPre_calling g mk a q.2⟩, va_recv hK hP (ci := 0) (q0 := 0) rfl rfl, fun U hU hW => ⟨rfl, wPre_of hK hP hD hU hW⟩⟩ rfl rfl hl.1 rfl (lv_room (Nat.le_of_ble_eq_true rfl)) dX0_pass_43 ⟨Nat.le_of_ble_eq_true rfl, Nat.le_of_ble_eq_true rfl⟩) hS (fun q _ h => hFc q h) hFc (fun u1 t H locs ht hvm hw hB hz1 hk1 hS => ?_)
      obtain ⟨hP1, hK1, hD1⟩ := hB
      rw [ht] at hP1
      subst hw
      obtain ⟨hP, hD⟩ := va_join (wr := []) (w1 := (xW A cA L P G ((xGo L P G R S wd fl T (h + i) g).1) R ((xGo L P G R S wd fl T (h + i) g).2.1) ((xGo L P G R S wd fl T (h + i) g).2.2.1) S wd (nI T) ((xGo L P G R S wd fl T (h + i) g).2.2.2.1) fl ((xGo L P G R S wd fl T (h + i) g).2.2.2.2.1) (nI (h + i + 1)) ((xGo L P G R S wd fl T (h + i) g).2.2.2.2.2))) hP hD [0, 1, 2, 3, 4, 5, 6, 7, 8] [] rfl rfl (by decide) (by decide) hk1 hFc hP1 hD1
      have hP : va_P dG vwCl (xW A cA L P G ((xGo L P G R S wd fl T (h + i) g).1) R ((xGo L P G R S wd fl T (h + i) g).2.1) ((xGo L P G R S wd fl T (h + i) g).2.2.1) S wd (nI T) ((xGo L P G R S wd fl T (h + i) g).2.2.2.1) fl ((xGo L P G R S wd fl T (h + i) g).2.2.2.2.1) (nI (h + i + 1)) ((xGo L P G R S wd fl T (h + i) g).2.2.2.2.2)) H := hP
      have hD : va_D F (xW A cA L P G ((xGo L P G R S wd fl T (h + i) g).1) R ((xGo L P G R S wd fl T (h + i) g).2.1) ((xGo L P G R S wd fl T (h + i) g).2.2.1) S wd (nI T) ((xGo L P G R S wd fl T (h + i) g).2.2.2.1) fl ((xGo L P G R S wd fl T (h + i) g).2.2.2.2.1) (nI (h + i + 1)) ((xGo L P G R S wd fl T (h + i) g).2.2.2.2.2)) := hD
      refine lv_iinc (v := (nI (h + i + 1))) (lv' := [(3, .int (nI (h + i + 1))), (0, .ref (A 0)), (2, .int (nI (h + ct)))]) hx hb dX0_pass_46 hl (k := 2) rfl (nI_1 (h + i)) (by decide) rfl (fun ls hl => ?_)
      refine lv_goto (tgt := 36) hx hb dX0_pass_49 (by decide) ?_
      exact ih (i + 1) _ _ _ (by omega) (by rw [hm]; rfl) hP hD hS ls (lv_sub hl [1, 2, 0] rfl)
  refine lv_iload_n hx hb dX0_pass_0 rfl (lv_at hl 1 rfl) ?_
  refine lv_iconst (v := 1) hx hb dX0_pass_1 (by decide) ?_
  refine lv_bipush (v := 48) hx hb dX0_pass_2 (by decide) ?_
  by_cases g1 : oI (nI ct) 1 48
  · exact absurd g1 (oI_nI (lo := 1) (hi := 48) hc1 hc2 (by omega))
  · refine va_callv (va_runS (As := [.int (nI ct), .int 1, .int 48]) (rest := []) ⟨hx, hb, hml, hown, hts⟩ (c_requireRange_ok l s.heap (nI ct) 1 48 g1) (va_cwS 3 hts gX0_pass_X0_requireRange rfl rfl rfl (by decide +kernel) ⟨Nat.le_of_ble_eq_true rfl, Nat.le_of_ble_eq_true rfl⟩) ⟨fun a U g mk q => q, fun U hU hW => ⟨rfl, hU⟩⟩ rfl rfl hl.1 rfl (lv_room (Nat.le_of_ble_eq_true rfl)) dX0_pass_4 ⟨Nat.le_of_ble_eq_true rfl, Nat.le_of_ble_eq_true rfl⟩) hS (fun q _ h => h.elim) (fun q h => h.elim) (fun u1 t H1 locs ht hvm hw hB hz1 hk1 hS => ?_)
    have e9 := hB.symm.trans ht
    subst e9
    refine lv_aload_n hx hb dX0_pass_7 rfl (lv_at hl 0 rfl) ?_
    refine va_get (D := dG) (ci := 0) (v := .int (nI h)) (C := RX0) (T := TX0) (N := 15) hx hb hts hinX hown hK hP 0 rfl rfl 13 (by decide) (hts (.fieldLink RX0 58 "TidegateBourse" "nextHour" "I") (by decide +kernel)) (fun _ h9 => h9) rfl dX0_pass_8 ?_
    refine lv_iload_n hx hb dX0_pass_11 rfl (lv_at hl 1 rfl) ?_
    refine lv_iadd hx hb dX0_pass_12 ?_
    refine lv_topi (fun v9 e9 => ?_)
    have e9 := e9.trans (nI_add h ct)
    subst e9
    refine lv_istore_n (lv' := [(2, .int (nI (h + ct))), (0, .ref (A 0)), (1, .int (nI ct))]) hx hb dX0_pass_13 rfl hl (by decide) rfl (fun ls hl => ?_)
    refine lv_iload_n hx hb dX0_pass_14 rfl (lv_at hl 0 rfl) ?_
    refine lv_sipush (v := 500) hx hb dX0_pass_15 (by decide) ?_
    refine lv_icmp_le (tgt := 31) hx hb dX0_pass_18 (by decide) (fun _ => ?_) (fun h9 => absurd (nI_le (b := 500) (by omega) (by omega)) h9)
    refine lv_aload_n hx hb dX0_pass_31 rfl (lv_at hl 1 rfl) ?_
    refine va_get (D := dG) (ci := 0) (v := .int (nI h)) (C := RX0) (T := TX0) (N := 15) hx hb hts hinX hown hK hP 0 rfl rfl 13 (by decide) (hts (.fieldLink RX0 58 "TidegateBourse" "nextHour" "I") (by decide +kernel)) (fun _ h9 => h9) rfl dX0_pass_32 ?_
    refine lv_istore_n (lv' := [(3, .int (nI h)), (2, .int (nI (h + ct))), (0, .ref (A 0)), (1, .int (nI ct))]) hx hb dX0_pass_35 rfl hl (by decide) rfl (fun ls hl => ?_)
    exact loop ct 0 (V, N, Y, ft, ce, mo) _ _ (by omega) rfl hP hD hS ls (lv_sub hl [2, 1, 0] rfl)
set_option maxHeartbeats 4000000 in
set_option maxRecDepth 100000 in
theorem c_X0_unitsFromNotes (l : Launch) (dG : va_G) (a A : Nat → Nat) (cA : ClassId) (Hp : Heap) (L P G V R N Y S : Nat → Int32) (T h : Nat) (wd ft fl ce : Int32) (mo : UInt32)  (k : Nat) (hk : k < 4) (j : Nat) (hj : j < 500) : Met l yX0_unitsFromNotes wsX0_unitsFromNotes ({ frames := 3, cells := 0, slots := 0, locals := 70 }) (va_Pc [.ref (A 0), .int (nI k), .int (nI j)] (fun U => wPre dG (tyI cA) (xW A cA L P G V R N Y S wd (nI T) ft fl ce (nI h) mo) Hp U)) (va_Qi (fun (r : Int32) (u : Unit) => r = (rp N k (j + 1)).1) (fun _ t => t.heap = Hp) (fun _ => False)) 0 0 (va_A (xW A cA L P G V R N Y S wd (nI T) ft fl ce (nI h) mo) Hp.size) := by
  refine Met.ofW (cc := cX0_unitsFromNotes) (maxL := 9) (ret := (some .int)) (by decide) rfl ?_
  intro p e s m args below meth c s₁ Bd hml hv
  obtain ⟨rfl, hH, hP, hK, hD0⟩ := hv
  subst hH
  have hK : va_K dG vwCl (tyI cA) s := hK
  have hx := Bd.exec
  have hb := Bd.bytes
  have hr := Bd.returns
  have hts := atoms_spec (ws := wsX0_unitsFromNotes) Bd.pre
  have hown : s.vm.findClass RX0 = some m.cls := findClass_of_methodNamed Bd.named
  have hlocks := Bd.notSynchronized
  have hinX : ∀ w ∈ wsX00, w ∈ wsX0_unitsFromNotes := by decide +kernel
  have hD := hD0.self (sz := s.heap.size)
  generalize hAe : va_A (xW A cA L P G V R N Y S wd (nI T) ft fl ce (nI h) mo) s.heap.size = F at hD ⊢
  have hA : ∀ q : Nat, s.heap.size ≤ q → F q := fun q h => by rw [← hAe]; exact Or.inr h
  have hS : va_S F s.heap s.heap [] := va_S.rf
  have hP : va_P dG vwCl (xW A cA L P G V R N Y S wd (nI T) ft fl ce (nI h) mo) s.heap := hP
  have hl := lv_entry ([.ref (A 0), .int (nI k), .int (nI j)]) (n := 9) (Nat.le_of_ble_eq_true rfl)
  rw [lg_entry_eq]
  generalize (lg_sl ([.ref (A 0), .int (nI k), .int (nI j)]) ++ List.replicate (9 - (lg_sl ([.ref (A 0), .int (nI k), .int (nI j)])).length) Slot.unset).toArray = ls at hl ⊢
  have hl : lv_has ls 9 [(0, .ref (A 0)), (1, .int (nI k)), (2, .int (nI j))] := hl
  have loop : ∀ (n i : Nat) (us : Int32) (we : Int32) (re : Int32) (ru : Int32) (locs : List Loc), i + n = j + 1 → (us, we, re, ru) = rp N k i → va_S F s.heap s.heap locs → ∀ ls : Array Slot, lv_has ls 9 [(0, .ref (A 0)), (1, .int (nI k)), (2, .int (nI j)), (3, .int us), (4, .int we), (5, .int re), (6, .int ru), (7, .int (nI i))] → W p l e (headSpec wsX0_unitsFromNotes ({ frames := 3, cells := 0, slots := 0, locals := 70 })).room s m ([.ref (A 0), .int (nI k), .int (nI j)]).toArray below meth c s.heap locs 0 0 (MQ below (va_Qi (fun (r : Int32) (u : Unit) => r = (rp N k (j + 1)).1) (fun _ t => t.heap = s.heap) (fun _ => False)) ([.ref (A 0), .int (nI k), .int (nI j)]).toArray s 0 0 F) (F0 m 14 ls []) := by
    intro n
    induction n with
    | zero =>
      intro i us we re ru locs hi hm hS ls hl
      have hi : j + 1 = i := by omega
      subst hi
      refine lv_iload hx hb dX0_unitsFromNotes_14 (lv_at hl 7 rfl) ?_
      refine lv_iload_n hx hb dX0_unitsFromNotes_16 rfl (lv_at hl 2 rfl) ?_
      refine lv_icmp_gt (tgt := 118) hx hb dX0_unitsFromNotes_17 (by decide) (fun _ => ?_) (fun h9 => absurd (nI_lt (by omega) (by omega)) h9)
      refine lv_iload_n hx hb dX0_unitsFromNotes_118 rfl (lv_at hl 3 rfl) ?_
      exact W.iret hx hb hr (fun t ht hW => ⟨⟨_, (), rfl, (congrArg Prod.fst hm), ht⟩, (va_S.rf (A := fun _ => False)).F ht⟩) hS.2.2 dX0_unitsFromNotes_119
    | succ n ih =>
      intro i us we re ru locs hi hm hS ls hl
      refine lv_iload hx hb dX0_unitsFromNotes_14 (lv_at hl 7 rfl) ?_
      refine lv_iload_n hx hb dX0_unitsFromNotes_16 rfl (lv_at hl 2 rfl) ?_
      refine lv_icmp_gt (tgt := 118) hx hb dX0_unitsFromNotes_17 (by decide) (fun h9 => absurd h9 (nI_nlt (by omega) (by omega))) (fun _ => ?_)
      refine lv_aload_n hx hb dX0_unitsFromNotes_20 rfl (lv_at hl 0 rfl) ?_
      refine va_get (D := dG) (ci := 0) (v := .ref (A 6)) (C := RX0) (T := TX0) (N := 15) hx hb hts hinX hown hK hP 0 rfl rfl 5 (by decide) (hts (.fieldLink RX0 25 "TidegateBourse" "notes" "[I") (by decide +kernel)) (fun _ h9 => h9) rfl dX0_unitsFromNotes_21 ?_
      refine lv_iload hx hb dX0_unitsFromNotes_24 (lv_at hl 7 rfl) ?_
      refine va_iald hx hb hK hP 6 0 rfl rfl (vp_in_nI (by omega) (by omega)) dX0_unitsFromNotes_26 ?_
      refine lv_topi (fun v9 e9 => ?_)
      rw [nI_clamp (n := i) (by omega)] at e9
      subst e9
      refine lv_istore (lv' := [(8, .int (N i)), (0, .ref (A 0)), (1, .int (nI k)), (2, .int (nI j)), (3, .int us), (4, .int we), (5, .int re), (6, .int ru), (7, .int (nI i))]) hx hb dX0_unitsFromNotes_27 hl (by decide) rfl (fun ls hl => ?_)
      refine lv_iload hx hb dX0_unitsFromNotes_29 (lv_at hl 0 rfl) ?_
      refine lv_iload_n hx hb dX0_unitsFromNotes_31 rfl (lv_at hl 2 rfl) ?_
      refine va_calli (va_runS (As := [.int (N i), .int (nI k)]) (rest := []) ⟨hx, hb, hml, hown, hts⟩ (c_X0_notedRepair l s.heap (N i) (nI k)) (va_cwS 2 hts gX0_unitsFromNotes_X0_notedRepair rfl rfl rfl (by decide +kernel) ⟨Nat.le_of_ble_eq_true rfl, Nat.le_of_ble_eq_true rfl⟩) ⟨fun a U g mk q => q, fun U hU hW => ⟨rfl, hU⟩⟩ rfl rfl hl.1 rfl (lv_room (Nat.le_of_ble_eq_true rfl)) dX0_unitsFromNotes_32 ⟨Nat.le_of_ble_eq_true rfl, Nat.le_of_ble_eq_true rfl⟩) hS (fun q _ h => h.elim) (fun q h => h.elim) (fun r1 u1 t H1 locs ht hvm hw hB hz1 hk1 hS => ?_)
      have e9 := hB.symm.trans ht
      subst e9
      subst hw
      refine lv_if_eq (tgt := 47) hx hb dX0_unitsFromNotes_35 (by decide) (fun cq2 => ?_) (fun cq2 => ?_)
      · refine lv_iload hx hb dX0_unitsFromNotes_47 (lv_at hl 0 rfl) ?_
        refine va_calli (va_runS (As := [.int (N i)]) (rest := []) ⟨hx, hb, hml, hown, hts⟩ (c_X0_notedRun l s.heap (N i)) (va_cwS 1 hts gX0_unitsFromNotes_X0_notedRun rfl rfl rfl (by decide +kernel) ⟨Nat.le_of_ble_eq_true rfl, Nat.le_of_ble_eq_true rfl⟩) ⟨fun a U g mk q => q, fun U hU hW => ⟨rfl, hU⟩⟩ rfl rfl hl.1 rfl (lv_room (Nat.le_of_ble_eq_true rfl)) dX0_unitsFromNotes_49 ⟨Nat.le_of_ble_eq_true rfl, Nat.le_of_ble_eq_true rfl⟩) hS (fun q _ h => h.elim) (fun q h => h.elim) (fun r3 u3 t H1 locs ht hvm hw hB hz1 hk1 hS => ?_)
        have e9 := hB.symm.trans ht
        subst e9
        subst hw
        refine lv_if_eq (tgt := 61) hx hb dX0_unitsFromNotes_52 (by decide) (fun cq4 => ?_) (fun cq4 => ?_)
        · refine lv_iconst (v := 0) hx hb dX0_unitsFromNotes_61 (by decide) ?_
          refine lv_istore_n (lv' := [(3, .int 0), (8, .int (N i)), (0, .ref (A 0)), (1, .int (nI k)), (2, .int (nI j)), (4, .int we), (5, .int re), (6, .int ru), (7, .int (nI i))]) hx hb dX0_unitsFromNotes_62 rfl hl (by decide) rfl (fun ls hl => ?_)
          refine lv_iload hx hb dX0_unitsFromNotes_63 (lv_at hl 8 rfl) ?_
          refine lv_iload hx hb dX0_unitsFromNotes_65 (lv_at hl 5 rfl) ?_
          refine lv_iload hx hb dX0_unitsFromNotes_67 (lv_at hl 6 rfl) ?_
          refine lv_iload hx hb dX0_unitsFromNotes_69 (lv_at hl 7 rfl) ?_
          refine va_calli (va_runS (As := [.int (nI i), .int we, .int re, .int ru]) (rest := []) ⟨hx, hb, hml, hown, hts⟩ (c_X0_works l s.heap (nI i) we re ru) (va_cwS 4 hts gX0_unitsFromNotes_X0_works rfl rfl rfl (by decide +kernel) ⟨Nat.le_of_ble_eq_true rfl, Nat.le_of_ble_eq_true rfl⟩) ⟨fun a U g mk q => q, fun U hU hW => ⟨rfl, hU⟩⟩ rfl rfl hl.1 rfl (lv_room (Nat.le_of_ble_eq_true rfl)) dX0_unitsFromNotes_71 ⟨Nat.le_of_ble_eq_true rfl, Nat.le_of_ble_eq_true rfl⟩) hS (fun q _ h => h.elim) (fun q h => h.elim) (fun r5 u5 t H1 locs ht hvm hw hB hz1 hk1 hS => ?_)
          have e9 := hB.symm.trans ht
          subst e9
          subst hw
          refine lv_if_eq (tgt := 112) hx hb dX0_unitsFromNotes_74 (by decide) (fun cq6 => ?_) (fun cq6 => ?_)
          · refine lv_iinc (v := (nI (i + 1))) (lv' := [(7, .int (nI (i + 1))), (3, .int 0), (8, .int (N i)), (0, .ref (A 0)), (1, .int (nI k)), (2, .int (nI j)), (4, .int we), (5, .int re), (6, .int ru)]) hx hb dX0_unitsFromNotes_112 hl (k := 8) rfl (nI_1 i) (by decide) rfl (fun ls hl => ?_)
            refine lv_goto (tgt := 14) hx hb dX0_unitsFromNotes_115 (by decide) ?_
            exact ih (i + 1) _ _ _ _ _ (by omega) (by simp only [rp, rpStep, rpW, rpR, rpU, ← hm, if_pos cq2, if_pos cq4, if_pos cq6]) hS ls (lv_sub hl [3, 4, 5, 1, 6, 7, 8, 0] rfl)
          · refine lv_iload hx hb dX0_unitsFromNotes_77 (lv_at hl 1 rfl) ?_
            refine va_calli (va_runS (As := [.int (N i)]) (rest := []) ⟨hx, hb, hml, hown, hts⟩ (c_X0_notedHead l s.heap (N i)) (va_cwS 1 hts gX0_unitsFromNotes_X0_notedHead rfl rfl rfl (by decide +kernel) ⟨Nat.le_of_ble_eq_true rfl, Nat.le_of_ble_eq_true rfl⟩) ⟨fun a U g mk q => q, fun U hU hW => ⟨rfl, hU⟩⟩ rfl rfl hl.1 rfl (lv_room (Nat.le_of_ble_eq_true rfl)) dX0_unitsFromNotes_79 ⟨Nat.le_of_ble_eq_true rfl, Nat.le_of_ble_eq_true rfl⟩) hS (fun q _ h => h.elim) (fun q h => h.elim) (fun r7 u7 t H1 locs ht hvm hw hB hz1 hk1 hS => ?_)
            have e9 := hB.symm.trans ht
            subst e9
            subst hw
            refine lv_iload hx hb dX0_unitsFromNotes_82 (lv_at hl 1 rfl) ?_
            refine lv_iload_n hx hb dX0_unitsFromNotes_84 rfl (lv_at hl 3 rfl) ?_
            refine va_calli (va_runS (As := [.int (N i), .int (nI k)]) (rest := [.int (fHead (N i))]) ⟨hx, hb, hml, hown, hts⟩ (c_X0_notedGate l s.heap (N i) (nI k)) (va_cwS 2 hts gX0_unitsFromNotes_X0_notedGate rfl rfl rfl (by decide +kernel) ⟨Nat.le_of_ble_eq_true rfl, Nat.le_of_ble_eq_true rfl⟩) ⟨fun a U g mk q => q, fun U hU hW => ⟨rfl, hU⟩⟩ rfl rfl hl.1 rfl (lv_room (Nat.le_of_ble_eq_true rfl)) dX0_unitsFromNotes_85 ⟨Nat.le_of_ble_eq_true rfl, Nat.le_of_ble_eq_true rfl⟩) hS (fun q _ h => h.elim) (fun q h => h.elim) (fun r8 u8 t H1 locs ht hvm hw hB hz1 hk1 hS => ?_)
            have e9 := hB.symm.trans ht
            subst e9
            subst hw
            refine lv_iload hx hb dX0_unitsFromNotes_88 (lv_at hl 5 rfl) ?_
            refine va_calli (va_runS (As := [.int (fHead (N i)), .int (fGate (N i) (nI k)), .int we]) (rest := []) ⟨hx, hb, hml, hown, hts⟩ (c_X0_unitsOf l s.heap (fHead (N i)) (fGate (N i) (nI k)) we) (va_cwS 3 hts gX0_unitsFromNotes_X0_unitsOf rfl rfl rfl (by decide +kernel) ⟨Nat.le_of_ble_eq_true rfl, Nat.le_of_ble_eq_true rfl⟩) ⟨fun a U g mk q => q, fun U hU hW => ⟨rfl, hU⟩⟩ rfl rfl hl.1 rfl (lv_room (Nat.le_of_ble_eq_true rfl)) dX0_unitsFromNotes_90 ⟨Nat.le_of_ble_eq_true rfl, Nat.le_of_ble_eq_true rfl⟩) hS (fun q _ h => h.elim) (fun q h => h.elim) (fun r9 u9 t H1 locs ht hvm hw hB hz1 hk1 hS => ?_)
            have e9 := hB.symm.trans ht
            subst e9
            subst hw
            refine lv_istore_n (lv' := [(3, .int (fUnits (fHead (N i)) (fGate (N i) (nI k)) we)), (8, .int (N i)), (0, .ref (A 0)), (1, .int (nI k)), (2, .int (nI j)), (4, .int we), (5, .int re), (6, .int ru), (7, .int (nI i))]) hx hb dX0_unitsFromNotes_93 rfl hl (by decide) rfl (fun ls hl => ?_)
            refine lv_iload hx hb dX0_unitsFromNotes_94 (lv_at hl 1 rfl) ?_
            refine va_calli (va_runS (As := [.int (N i)]) (rest := []) ⟨hx, hb, hml, hown, hts⟩ (c_X0_notedHead l s.heap (N i)) (va_cwS 1 hts gX0_unitsFromNotes_X0_notedHead rfl rfl rfl (by decide +kernel) ⟨Nat.le_of_ble_eq_true rfl, Nat.le_of_ble_eq_true rfl⟩) ⟨fun a U g mk q => q, fun U hU hW => ⟨rfl, hU⟩⟩ rfl rfl hl.1 rfl (lv_room (Nat.le_of_ble_eq_true rfl)) dX0_unitsFromNotes_96 ⟨Nat.le_of_ble_eq_true rfl, Nat.le_of_ble_eq_true rfl⟩) hS (fun q _ h => h.elim) (fun q h => h.elim) (fun r10 u10 t H1 locs ht hvm hw hB hz1 hk1 hS => ?_)
            have e9 := hB.symm.trans ht
            subst e9
            subst hw
            refine lv_iload hx hb dX0_unitsFromNotes_99 (lv_at hl 1 rfl) ?_
            refine lv_iload_n hx hb dX0_unitsFromNotes_101 rfl (lv_at hl 3 rfl) ?_
            refine va_calli (va_runS (As := [.int (N i), .int (nI k)]) (rest := [.int (fHead (N i))]) ⟨hx, hb, hml, hown, hts⟩ (c_X0_notedGate l s.heap (N i) (nI k)) (va_cwS 2 hts gX0_unitsFromNotes_X0_notedGate rfl rfl rfl (by decide +kernel) ⟨Nat.le_of_ble_eq_true rfl, Nat.le_of_ble_eq_true rfl⟩) ⟨fun a U g mk q => q, fun U hU hW => ⟨rfl, hU⟩⟩ rfl rfl hl.1 rfl (lv_room (Nat.le_of_ble_eq_true rfl)) dX0_unitsFromNotes_102 ⟨Nat.le_of_ble_eq_true rfl, Nat.le_of_ble_eq_true rfl⟩) hS (fun q _ h => h.elim) (fun q h => h.elim) (fun r11 u11 t H1 locs ht hvm hw hB hz1 hk1 hS => ?_)
            have e9 := hB.symm.trans ht
            subst e9
            subst hw
            refine lv_iload hx hb dX0_unitsFromNotes_105 (lv_at hl 5 rfl) ?_
            refine va_calli (va_runS (As := [.int (fHead (N i)), .int (fGate (N i) (nI k)), .int we]) (rest := []) ⟨hx, hb, hml, hown, hts⟩ (c_X0_wearAfter l s.heap (fHead (N i)) (fGate (N i) (nI k)) we) (va_cwS 3 hts gX0_unitsFromNotes_X0_wearAfter rfl rfl rfl (by decide +kernel) ⟨Nat.le_of_ble_eq_true rfl, Nat.le_of_ble_eq_true rfl⟩) ⟨fun a U g mk q => q, fun U hU hW => ⟨rfl, hU⟩⟩ rfl rfl hl.1 rfl (lv_room (Nat.le_of_ble_eq_true rfl)) dX0_unitsFromNotes_107 ⟨Nat.le_of_ble_eq_true rfl, Nat.le_of_ble_eq_true rfl⟩) hS (fun q _ h => h.elim) (fun q h => h.elim) (fun r12 u12 t H1 locs ht hvm hw hB hz1 hk1 hS => ?_)
            have e9 := hB.symm.trans ht
            subst e9
            subst hw
            refine lv_istore (lv' := [(4, .int (fWear (fHead (N i)) (fGate (N i) (nI k)) we)), (3, .int (fUnits (fHead (N i)) (fGate (N i) (nI k)) we)), (8, .int (N i)), (0, .ref (A 0)), (1, .int (nI k)), (2, .int (nI j)), (5, .int re), (6, .int ru), (7, .int (nI i))]) hx hb dX0_unitsFromNotes_110 hl (by decide) rfl (fun ls hl => ?_)
            refine lv_iinc (v := (nI (i + 1))) (lv' := [(7, .int (nI (i + 1))), (4, .int (fWear (fHead (N i)) (fGate (N i) (nI k)) we)), (3, .int (fUnits (fHead (N i)) (fGate (N i) (nI k)) we)), (8, .int (N i)), (0, .ref (A 0)), (1, .int (nI k)), (2, .int (nI j)), (5, .int re), (6, .int ru)]) hx hb dX0_unitsFromNotes_112 hl (k := 8) rfl (nI_1 i) (by decide) rfl (fun ls hl => ?_)
            refine lv_goto (tgt := 14) hx hb dX0_unitsFromNotes_115 (by decide) ?_
            exact ih (i + 1) _ _ _ _ _ (by omega) (by simp only [rp, rpStep, rpW, rpR, rpU, ← hm, if_pos cq2, if_pos cq4, if_neg cq6]) hS ls (lv_sub hl [4, 5, 6, 2, 1, 7, 8, 0] rfl)
        · refine lv_iload hx hb dX0_unitsFromNotes_55 (lv_at hl 8 rfl) ?_
          refine lv_iconst (v := 3) hx hb dX0_unitsFromNotes_57 (by decide) ?_
          refine lv_iadd hx hb dX0_unitsFromNotes_58 ?_
          refine lv_topi (fun v9 e9 => ?_)
          have e9 := e9.trans (nI_add i 3)
          subst e9
          refine lv_istore (lv' := [(6, .int (nI (i + 3))), (8, .int (N i)), (0, .ref (A 0)), (1, .int (nI k)), (2, .int (nI j)), (3, .int us), (4, .int we), (5, .int re), (7, .int (nI i))]) hx hb dX0_unitsFromNotes_59 hl (by decide) rfl (fun ls hl => ?_)
          refine lv_iconst (v := 0) hx hb dX0_unitsFromNotes_61 (by decide) ?_
          refine lv_istore_n (lv' := [(3, .int 0), (6, .int (nI (i + 3))), (8, .int (N i)), (0, .ref (A 0)), (1, .int (nI k)), (2, .int (nI j)), (4, .int we), (5, .int re), (7, .int (nI i))]) hx hb dX0_unitsFromNotes_62 rfl hl (by decide) rfl (fun ls hl => ?_)
          refine lv_iload hx hb dX0_unitsFromNotes_63 (lv_at hl 8 rfl) ?_
          refine lv_iload hx hb dX0_unitsFromNotes_65 (lv_at hl 6 rfl) ?_
          refine lv_iload hx hb dX0_unitsFromNotes_67 (lv_at hl 7 rfl) ?_
          refine lv_iload hx hb dX0_unitsFromNotes_69 (lv_at hl 1 rfl) ?_
          refine va_calli (va_runS (As := [.int (nI i), .int we, .int re, .int (nI (i + 3))]) (rest := []) ⟨hx, hb, hml, hown, hts⟩ (c_X0_works l s.heap (nI i) we re (nI (i + 3))) (va_cwS 4 hts gX0_unitsFromNotes_X0_works rfl rfl rfl (by decide +kernel) ⟨Nat.le_of_ble_eq_true rfl, Nat.le_of_ble_eq_true rfl⟩) ⟨fun a U g mk q => q, fun U hU hW => ⟨rfl, hU⟩⟩ rfl rfl hl.1 rfl (lv_room (Nat.le_of_ble_eq_true rfl)) dX0_unitsFromNotes_71 ⟨Nat.le_of_ble_eq_true rfl, Nat.le_of_ble_eq_true rfl⟩) hS (fun q _ h => h.elim) (fun q h => h.elim) (fun r13 u13 t H1 locs ht hvm hw hB hz1 hk1 hS => ?_)
          have e9 := hB.symm.trans ht
          subst e9
          subst hw
          refine lv_if_eq (tgt := 112) hx hb dX0_unitsFromNotes_74 (by decide) (fun cq14 => ?_) (fun cq14 => ?_)
          · refine lv_iinc (v := (nI (i + 1))) (lv' := [(7, .int (nI (i + 1))), (3, .int 0), (6, .int (nI (i + 3))), (8, .int (N i)), (0, .ref (A 0)), (1, .int (nI k)), (2, .int (nI j)), (4, .int we), (5, .int re)]) hx hb dX0_unitsFromNotes_112 hl (k := 8) rfl (nI_1 i) (by decide) rfl (fun ls hl => ?_)
            refine lv_goto (tgt := 14) hx hb dX0_unitsFromNotes_115 (by decide) ?_
            exact ih (i + 1) _ _ _ _ _ (by omega) (by simp only [rp, rpStep, rpW, rpR, rpU, ← hm, if_pos cq2, if_neg cq4, if_pos cq14]) hS ls (lv_sub hl [4, 5, 6, 1, 7, 8, 2, 0] rfl)
          · refine lv_iload hx hb dX0_unitsFromNotes_77 (lv_at hl 2 rfl) ?_
            refine va_calli (va_runS (As := [.int (N i)]) (rest := []) ⟨hx, hb, hml, hown, hts⟩ (c_X0_notedHead l s.heap (N i)) (va_cwS 1 hts gX0_unitsFromNotes_X0_notedHead rfl rfl rfl (by decide +kernel) ⟨Nat.le_of_ble_eq_true rfl, Nat.le_of_ble_eq_true rfl⟩) ⟨fun a U g mk q => q, fun U hU hW => ⟨rfl, hU⟩⟩ rfl rfl hl.1 rfl (lv_room (Nat.le_of_ble_eq_true rfl)) dX0_unitsFromNotes_79 ⟨Nat.le_of_ble_eq_true rfl, Nat.le_of_ble_eq_true rfl⟩) hS (fun q _ h => h.elim) (fun q h => h.elim) (fun r15 u15 t H1 locs ht hvm hw hB hz1 hk1 hS => ?_)
            have e9 := hB.symm.trans ht
            subst e9
            subst hw
            refine lv_iload hx hb dX0_unitsFromNotes_82 (lv_at hl 2 rfl) ?_
            refine lv_iload_n hx hb dX0_unitsFromNotes_84 rfl (lv_at hl 4 rfl) ?_
            refine va_calli (va_runS (As := [.int (N i), .int (nI k)]) (rest := [.int (fHead (N i))]) ⟨hx, hb, hml, hown, hts⟩ (c_X0_notedGate l s.heap (N i) (nI k)) (va_cwS 2 hts gX0_unitsFromNotes_X0_notedGate rfl rfl rfl (by decide +kernel) ⟨Nat.le_of_ble_eq_true rfl, Nat.le_of_ble_eq_true rfl⟩) ⟨fun a U g mk q => q, fun U hU hW => ⟨rfl, hU⟩⟩ rfl rfl hl.1 rfl (lv_room (Nat.le_of_ble_eq_true rfl)) dX0_unitsFromNotes_85 ⟨Nat.le_of_ble_eq_true rfl, Nat.le_of_ble_eq_true rfl⟩) hS (fun q _ h => h.elim) (fun q h => h.elim) (fun r16 u16 t H1 locs ht hvm hw hB hz1 hk1 hS => ?_)
            have e9 := hB.symm.trans ht
            subst e9
            subst hw
            refine lv_iload hx hb dX0_unitsFromNotes_88 (lv_at hl 6 rfl) ?_
            refine va_calli (va_runS (As := [.int (fHead (N i)), .int (fGate (N i) (nI k)), .int we]) (rest := []) ⟨hx, hb, hml, hown, hts⟩ (c_X0_unitsOf l s.heap (fHead (N i)) (fGate (N i) (nI k)) we) (va_cwS 3 hts gX0_unitsFromNotes_X0_unitsOf rfl rfl rfl (by decide +kernel) ⟨Nat.le_of_ble_eq_true rfl, Nat.le_of_ble_eq_true rfl⟩) ⟨fun a U g mk q => q, fun U hU hW => ⟨rfl, hU⟩⟩ rfl rfl hl.1 rfl (lv_room (Nat.le_of_ble_eq_true rfl)) dX0_unitsFromNotes_90 ⟨Nat.le_of_ble_eq_true rfl, Nat.le_of_ble_eq_true rfl⟩) hS (fun q _ h => h.elim) (fun q h => h.elim) (fun r17 u17 t H1 locs ht hvm hw hB hz1 hk1 hS => ?_)
            have e9 := hB.symm.trans ht
            subst e9
            subst hw
            refine lv_istore_n (lv' := [(3, .int (fUnits (fHead (N i)) (fGate (N i) (nI k)) we)), (6, .int (nI (i + 3))), (8, .int (N i)), (0, .ref (A 0)), (1, .int (nI k)), (2, .int (nI j)), (4, .int we), (5, .int re), (7, .int (nI i))]) hx hb dX0_unitsFromNotes_93 rfl hl (by decide) rfl (fun ls hl => ?_)
            refine lv_iload hx hb dX0_unitsFromNotes_94 (lv_at hl 2 rfl) ?_
            refine va_calli (va_runS (As := [.int (N i)]) (rest := []) ⟨hx, hb, hml, hown, hts⟩ (c_X0_notedHead l s.heap (N i)) (va_cwS 1 hts gX0_unitsFromNotes_X0_notedHead rfl rfl rfl (by decide +kernel) ⟨Nat.le_of_ble_eq_true rfl, Nat.le_of_ble_eq_true rfl⟩) ⟨fun a U g mk q => q, fun U hU hW => ⟨rfl, hU⟩⟩ rfl rfl hl.1 rfl (lv_room (Nat.le_of_ble_eq_true rfl)) dX0_unitsFromNotes_96 ⟨Nat.le_of_ble_eq_true rfl, Nat.le_of_ble_eq_true rfl⟩) hS (fun q _ h => h.elim) (fun q h => h.elim) (fun r18 u18 t H1 locs ht hvm hw hB hz1 hk1 hS => ?_)
            have e9 := hB.symm.trans ht
            subst e9
            subst hw
            refine lv_iload hx hb dX0_unitsFromNotes_99 (lv_at hl 2 rfl) ?_
            refine lv_iload_n hx hb dX0_unitsFromNotes_101 rfl (lv_at hl 4 rfl) ?_
            refine va_calli (va_runS (As := [.int (N i), .int (nI k)]) (rest := [.int (fHead (N i))]) ⟨hx, hb, hml, hown, hts⟩ (c_X0_notedGate l s.heap (N i) (nI k)) (va_cwS 2 hts gX0_unitsFromNotes_X0_notedGate rfl rfl rfl (by decide +kernel) ⟨Nat.le_of_ble_eq_true rfl, Nat.le_of_ble_eq_true rfl⟩) ⟨fun a U g mk q => q, fun U hU hW => ⟨rfl, hU⟩⟩ rfl rfl hl.1 rfl (lv_room (Nat.le_of_ble_eq_true rfl)) dX0_unitsFromNotes_102 ⟨Nat.le_of_ble_eq_true rfl, Nat.le_of_ble_eq_true rfl⟩) hS (fun q _ h => h.elim) (fun q h => h.elim) (fun r19 u19 t H1 locs ht hvm hw hB hz1 hk1 hS => ?_)
            have e9 := hB.symm.trans ht
            subst e9
            subst hw
            refine lv_iload hx hb dX0_unitsFromNotes_105 (lv_at hl 6 rfl) ?_
            refine va_calli (va_runS (As := [.int (fHead (N i)), .int (fGate (N i) (nI k)), .int we]) (rest := []) ⟨hx, hb, hml, hown, hts⟩ (c_X0_wearAfter l s.heap (fHead (N i)) (fGate (N i) (nI k)) we) (va_cwS 3 hts gX0_unitsFromNotes_X0_wearAfter rfl rfl rfl (by decide +kernel) ⟨Nat.le_of_ble_eq_true rfl, Nat.le_of_ble_eq_true rfl⟩) ⟨fun a U g mk q => q, fun U hU hW => ⟨rfl, hU⟩⟩ rfl rfl hl.1 rfl (lv_room (Nat.le_of_ble_eq_true rfl)) dX0_unitsFromNotes_107 ⟨Nat.le_of_ble_eq_true rfl, Nat.le_of_ble_eq_true rfl⟩) hS (fun q _ h => h.elim) (fun q h => h.elim) (fun r20 u20 t H1 locs ht hvm hw hB hz1 hk1 hS => ?_)
            have e9 := hB.symm.trans ht
            subst e9
            subst hw
            refine lv_istore (lv' := [(4, .int (fWear (fHead (N i)) (fGate (N i) (nI k)) we)), (3, .int (fUnits (fHead (N i)) (fGate (N i) (nI k)) we)), (6, .int (nI (i + 3))), (8, .int (N i)), (0, .ref (A 0)), (1, .int (nI k)), (2, .int (nI j)), (5, .int re), (7, .int (nI i))]) hx hb dX0_unitsFromNotes_110 hl (by decide) rfl (fun ls hl => ?_)
            refine lv_iinc (v := (nI (i + 1))) (lv' := [(7, .int (nI (i + 1))), (4, .int (fWear (fHead (N i)) (fGate (N i) (nI k)) we)), (3, .int (fUnits (fHead (N i)) (fGate (N i) (nI k)) we)), (6, .int (nI (i + 3))), (8, .int (N i)), (0, .ref (A 0)), (1, .int (nI k)), (2, .int (nI j)), (5, .int re)]) hx hb dX0_unitsFromNotes_112 hl (k := 8) rfl (nI_1 i) (by decide) rfl (fun ls hl => ?_)
            refine lv_goto (tgt := 14) hx hb dX0_unitsFromNotes_115 (by decide) ?_
            exact ih (i + 1) _ _ _ _ _ (by omega) (by simp only [rp, rpStep, rpW, rpR, rpU, ← hm, if_pos cq2, if_neg cq4, if_neg cq14]) hS ls (lv_sub hl [5, 6, 7, 2, 1, 8, 3, 0] rfl)
      · refine lv_iconst (v := 0) hx hb dX0_unitsFromNotes_38 (by decide) ?_
        refine lv_istore (lv' := [(4, .int 0), (8, .int (N i)), (0, .ref (A 0)), (1, .int (nI k)), (2, .int (nI j)), (3, .int us), (5, .int re), (6, .int ru), (7, .int (nI i))]) hx hb dX0_unitsFromNotes_39 hl (by decide) rfl (fun ls hl => ?_)
        refine lv_iload hx hb dX0_unitsFromNotes_41 (lv_at hl 8 rfl) ?_
        refine lv_iconst (v := 5) hx hb dX0_unitsFromNotes_43 (by decide) ?_
        refine lv_iadd hx hb dX0_unitsFromNotes_44 ?_
        refine lv_topi (fun v9 e9 => ?_)
        have e9 := e9.trans (nI_add i 5)
        subst e9
        refine lv_istore (lv' := [(5, .int (nI (i + 5))), (4, .int 0), (8, .int (N i)), (0, .ref (A 0)), (1, .int (nI k)), (2, .int (nI j)), (3, .int us), (6, .int ru), (7, .int (nI i))]) hx hb dX0_unitsFromNotes_45 hl (by decide) rfl (fun ls hl => ?_)
        refine lv_iload hx hb dX0_unitsFromNotes_47 (lv_at hl 2 rfl) ?_
        refine va_calli (va_runS (As := [.int (N i)]) (rest := []) ⟨hx, hb, hml, hown, hts⟩ (c_X0_notedRun l s.heap (N i)) (va_cwS 1 hts gX0_unitsFromNotes_X0_notedRun rfl rfl rfl (by decide +kernel) ⟨Nat.le_of_ble_eq_true rfl, Nat.le_of_ble_eq_true rfl⟩) ⟨fun a U g mk q => q, fun U hU hW => ⟨rfl, hU⟩⟩ rfl rfl hl.1 rfl (lv_room (Nat.le_of_ble_eq_true rfl)) dX0_unitsFromNotes_49 ⟨Nat.le_of_ble_eq_true rfl, Nat.le_of_ble_eq_true rfl⟩) hS (fun q _ h => h.elim) (fun q h => h.elim) (fun r21 u21 t H1 locs ht hvm hw hB hz1 hk1 hS => ?_)
        have e9 := hB.symm.trans ht
        subst e9
        subst hw
        refine lv_if_eq (tgt := 61) hx hb dX0_unitsFromNotes_52 (by decide) (fun cq22 => ?_) (fun cq22 => ?_)
        · refine lv_iconst (v := 0) hx hb dX0_unitsFromNotes_61 (by decide) ?_
          refine lv_istore_n (lv' := [(3, .int 0), (5, .int (nI (i + 5))), (4, .int 0), (8, .int (N i)), (0, .ref (A 0)), (1, .int (nI k)), (2, .int (nI j)), (6, .int ru), (7, .int (nI i))]) hx hb dX0_unitsFromNotes_62 rfl hl (by decide) rfl (fun ls hl => ?_)
          refine lv_iload hx hb dX0_unitsFromNotes_63 (lv_at hl 8 rfl) ?_
          refine lv_iload hx hb dX0_unitsFromNotes_65 (lv_at hl 2 rfl) ?_
          refine lv_iload hx hb dX0_unitsFromNotes_67 (lv_at hl 1 rfl) ?_
          refine lv_iload hx hb dX0_unitsFromNotes_69 (lv_at hl 7 rfl) ?_
          refine va_calli (va_runS (As := [.int (nI i), .int 0, .int (nI (i + 5)), .int ru]) (rest := []) ⟨hx, hb, hml, hown, hts⟩ (c_X0_works l s.heap (nI i) 0 (nI (i + 5)) ru) (va_cwS 4 hts gX0_unitsFromNotes_X0_works rfl rfl rfl (by decide +kernel) ⟨Nat.le_of_ble_eq_true rfl, Nat.le_of_ble_eq_true rfl⟩) ⟨fun a U g mk q => q, fun U hU hW => ⟨rfl, hU⟩⟩ rfl rfl hl.1 rfl (lv_room (Nat.le_of_ble_eq_true rfl)) dX0_unitsFromNotes_71 ⟨Nat.le_of_ble_eq_true rfl, Nat.le_of_ble_eq_true rfl⟩) hS (fun q _ h => h.elim) (fun q h => h.elim) (fun r23 u23 t H1 locs ht hvm hw hB hz1 hk1 hS => ?_)
          have e9 := hB.symm.trans ht
          subst e9
          subst hw
          refine lv_if_eq (tgt := 112) hx hb dX0_unitsFromNotes_74 (by decide) (fun cq24 => ?_) (fun cq24 => ?_)
          · refine lv_iinc (v := (nI (i + 1))) (lv' := [(7, .int (nI (i + 1))), (3, .int 0), (5, .int (nI (i + 5))), (4, .int 0), (8, .int (N i)), (0, .ref (A 0)), (1, .int (nI k)), (2, .int (nI j)), (6, .int ru)]) hx hb dX0_unitsFromNotes_112 hl (k := 8) rfl (nI_1 i) (by decide) rfl (fun ls hl => ?_)
            refine lv_goto (tgt := 14) hx hb dX0_unitsFromNotes_115 (by decide) ?_
            exact ih (i + 1) _ _ _ _ _ (by omega) (by simp only [rp, rpStep, rpW, rpR, rpU, ← hm, if_neg cq2, if_pos cq22, if_pos cq24]) hS ls (lv_sub hl [5, 6, 7, 1, 3, 2, 8, 0] rfl)
          · refine lv_iload hx hb dX0_unitsFromNotes_77 (lv_at hl 3 rfl) ?_
            refine va_calli (va_runS (As := [.int (N i)]) (rest := []) ⟨hx, hb, hml, hown, hts⟩ (c_X0_notedHead l s.heap (N i)) (va_cwS 1 hts gX0_unitsFromNotes_X0_notedHead rfl rfl rfl (by decide +kernel) ⟨Nat.le_of_ble_eq_true rfl, Nat.le_of_ble_eq_true rfl⟩) ⟨fun a U g mk q => q, fun U hU hW => ⟨rfl, hU⟩⟩ rfl rfl hl.1 rfl (lv_room (Nat.le_of_ble_eq_true rfl)) dX0_unitsFromNotes_79 ⟨Nat.le_of_ble_eq_true rfl, Nat.le_of_ble_eq_true rfl⟩) hS (fun q _ h => h.elim) (fun q h => h.elim) (fun r25 u25 t H1 locs ht hvm hw hB hz1 hk1 hS => ?_)
            have e9 := hB.symm.trans ht
            subst e9
            subst hw
            refine lv_iload hx hb dX0_unitsFromNotes_82 (lv_at hl 3 rfl) ?_
            refine lv_iload_n hx hb dX0_unitsFromNotes_84 rfl (lv_at hl 5 rfl) ?_
            refine va_calli (va_runS (As := [.int (N i), .int (nI k)]) (rest := [.int (fHead (N i))]) ⟨hx, hb, hml, hown, hts⟩ (c_X0_notedGate l s.heap (N i) (nI k)) (va_cwS 2 hts gX0_unitsFromNotes_X0_notedGate rfl rfl rfl (by decide +kernel) ⟨Nat.le_of_ble_eq_true rfl, Nat.le_of_ble_eq_true rfl⟩) ⟨fun a U g mk q => q, fun U hU hW => ⟨rfl, hU⟩⟩ rfl rfl hl.1 rfl (lv_room (Nat.le_of_ble_eq_true rfl)) dX0_unitsFromNotes_85 ⟨Nat.le_of_ble_eq_true rfl, Nat.le_of_ble_eq_true rfl⟩) hS (fun q _ h => h.elim) (fun q h => h.elim) (fun r26 u26 t H1 locs ht hvm hw hB hz1 hk1 hS => ?_)
            have e9 := hB.symm.trans ht
            subst e9
            subst hw
            refine lv_iload hx hb dX0_unitsFromNotes_88 (lv_at hl 2 rfl) ?_
            refine va_calli (va_runS (As := [.int (fHead (N i)), .int (fGate (N i) (nI k)), .int 0]) (rest := []) ⟨hx, hb, hml, hown, hts⟩ (c_X0_unitsOf l s.heap (fHead (N i)) (fGate (N i) (nI k)) 0) (va_cwS 3 hts gX0_unitsFromNotes_X0_unitsOf rfl rfl rfl (by decide +kernel) ⟨Nat.le_of_ble_eq_true rfl, Nat.le_of_ble_eq_true rfl⟩) ⟨fun a U g mk q => q, fun U hU hW => ⟨rfl, hU⟩⟩ rfl rfl hl.1 rfl (lv_room (Nat.le_of_ble_eq_true rfl)) dX0_unitsFromNotes_90 ⟨Nat.le_of_ble_eq_true rfl, Nat.le_of_ble_eq_true rfl⟩) hS (fun q _ h => h.elim) (fun q h => h.elim) (fun r27 u27 t H1 locs ht hvm hw hB hz1 hk1 hS => ?_)
            have e9 := hB.symm.trans ht
            subst e9
            subst hw
            refine lv_istore_n (lv' := [(3, .int (fUnits (fHead (N i)) (fGate (N i) (nI k)) 0)), (5, .int (nI (i + 5))), (4, .int 0), (8, .int (N i)), (0, .ref (A 0)), (1, .int (nI k)), (2, .int (nI j)), (6, .int ru), (7, .int (nI i))]) hx hb dX0_unitsFromNotes_93 rfl hl (by decide) rfl (fun ls hl => ?_)
            refine lv_iload hx hb dX0_unitsFromNotes_94 (lv_at hl 3 rfl) ?_
            refine va_calli (va_runS (As := [.int (N i)]) (rest := []) ⟨hx, hb, hml, hown, hts⟩ (c_X0_notedHead l s.heap (N i)) (va_cwS 1 hts gX0_unitsFromNotes_X0_notedHead rfl rfl rfl (by decide +kernel) ⟨Nat.le_of_ble_eq_true rfl, Nat.le_of_ble_eq_true rfl⟩) ⟨fun a U g mk q => q, fun U hU hW => ⟨rfl, hU⟩⟩ rfl rfl hl.1 rfl (lv_room (Nat.le_of_ble_eq_true rfl)) dX0_unitsFromNotes_96 ⟨Nat.le_of_ble_eq_true rfl, Nat.le_of_ble_eq_true rfl⟩) hS (fun q _ h => h.elim) (fun q h => h.elim) (fun r28 u28 t H1 locs ht hvm hw hB hz1 hk1 hS => ?_)
            have e9 := hB.symm.trans ht
            subst e9
            subst hw
            refine lv_iload hx hb dX0_unitsFromNotes_99 (lv_at hl 3 rfl) ?_
            refine lv_iload_n hx hb dX0_unitsFromNotes_101 rfl (lv_at hl 5 rfl) ?_
            refine va_calli (va_runS (As := [.int (N i), .int (nI k)]) (rest := [.int (fHead (N i))]) ⟨hx, hb, hml, hown, hts⟩ (c_X0_notedGate l s.heap (N i) (nI k)) (va_cwS 2 hts gX0_unitsFromNotes_X0_notedGate rfl rfl rfl (by decide +kernel) ⟨Nat.le_of_ble_eq_true rfl, Nat.le_of_ble_eq_true rfl⟩) ⟨fun a U g mk q => q, fun U hU hW => ⟨rfl, hU⟩⟩ rfl rfl hl.1 rfl (lv_room (Nat.le_of_ble_eq_true rfl)) dX0_unitsFromNotes_102 ⟨Nat.le_of_ble_eq_true rfl, Nat.le_of_ble_eq_true rfl⟩) hS (fun q _ h => h.elim) (fun q h => h.elim) (fun r29 u29 t H1 locs ht hvm hw hB hz1 hk1 hS => ?_)
            have e9 := hB.symm.trans ht
            subst e9
            subst hw
            refine lv_iload hx hb dX0_unitsFromNotes_105 (lv_at hl 2 rfl) ?_
            refine va_calli (va_runS (As := [.int (fHead (N i)), .int (fGate (N i) (nI k)), .int 0]) (rest := []) ⟨hx, hb, hml, hown, hts⟩ (c_X0_wearAfter l s.heap (fHead (N i)) (fGate (N i) (nI k)) 0) (va_cwS 3 hts gX0_unitsFromNotes_X0_wearAfter rfl rfl rfl (by decide +kernel) ⟨Nat.le_of_ble_eq_true rfl, Nat.le_of_ble_eq_true rfl⟩) ⟨fun a U g mk q => q, fun U hU hW => ⟨rfl, hU⟩⟩ rfl rfl hl.1 rfl (lv_room (Nat.le_of_ble_eq_true rfl)) dX0_unitsFromNotes_107 ⟨Nat.le_of_ble_eq_true rfl, Nat.le_of_ble_eq_true rfl⟩) hS (fun q _ h => h.elim) (fun q h => h.elim) (fun r30 u30 t H1 locs ht hvm hw hB hz1 hk1 hS => ?_)
            have e9 := hB.symm.trans ht
            subst e9
            subst hw
            refine lv_istore (lv' := [(4, .int (fWear (fHead (N i)) (fGate (N i) (nI k)) 0)), (3, .int (fUnits (fHead (N i)) (fGate (N i) (nI k)) 0)), (5, .int (nI (i + 5))), (8, .int (N i)), (0, .ref (A 0)), (1, .int (nI k)), (2, .int (nI j)), (6, .int ru), (7, .int (nI i))]) hx hb dX0_unitsFromNotes_110 hl (by decide) rfl (fun ls hl => ?_)
            refine lv_iinc (v := (nI (i + 1))) (lv' := [(7, .int (nI (i + 1))), (4, .int (fWear (fHead (N i)) (fGate (N i) (nI k)) 0)), (3, .int (fUnits (fHead (N i)) (fGate (N i) (nI k)) 0)), (5, .int (nI (i + 5))), (8, .int (N i)), (0, .ref (A 0)), (1, .int (nI k)), (2, .int (nI j)), (6, .int ru)]) hx hb dX0_unitsFromNotes_112 hl (k := 8) rfl (nI_1 i) (by decide) rfl (fun ls hl => ?_)
            refine lv_goto (tgt := 14) hx hb dX0_unitsFromNotes_115 (by decide) ?_
            exact ih (i + 1) _ _ _ _ _ (by omega) (by simp only [rp, rpStep, rpW, rpR, rpU, ← hm, if_neg cq2, if_pos cq22, if_neg cq24]) hS ls (lv_sub hl [5, 6, 7, 2, 1, 3, 8, 0] rfl)
        · refine lv_iload hx hb dX0_unitsFromNotes_55 (lv_at hl 8 rfl) ?_
          refine lv_iconst (v := 3) hx hb dX0_unitsFromNotes_57 (by decide) ?_
          refine lv_iadd hx hb dX0_unitsFromNotes_58 ?_
          refine lv_topi (fun v9 e9 => ?_)
          have e9 := e9.trans (nI_add i 3)
          subst e9
          refine lv_istore (lv' := [(6, .int (nI (i + 3))), (5, .int (nI (i + 5))), (4, .int 0), (8, .int (N i)), (0, .ref (A 0)), (1, .int (nI k)), (2, .int (nI j)), (3, .int us), (7, .int (nI i))]) hx hb dX0_unitsFromNotes_59 hl (by decide) rfl (fun ls hl => ?_)
          refine lv_iconst (v := 0) hx hb dX0_unitsFromNotes_61 (by decide) ?_
          refine lv_istore_n (lv' := [(3, .int 0), (6, .int (nI (i + 3))), (5, .int (nI (i + 5))), (4, .int 0), (8, .int (N i)), (0, .ref (A 0)), (1, .int (nI k)), (2, .int (nI j)), (7, .int (nI i))]) hx hb dX0_unitsFromNotes_62 rfl hl (by decide) rfl (fun ls hl => ?_)
          refine lv_iload hx hb dX0_unitsFromNotes_63 (lv_at hl 8 rfl) ?_
          refine lv_iload hx hb dX0_unitsFromNotes_65 (lv_at hl 3 rfl) ?_
          refine lv_iload hx hb dX0_unitsFromNotes_67 (lv_at hl 2 rfl) ?_
          refine lv_iload hx hb dX0_unitsFromNotes_69 (lv_at hl 1 rfl) ?_
          refine va_calli (va_runS (As := [.int (nI i), .int 0, .int (nI (i + 5)), .int (nI (i + 3))]) (rest := []) ⟨hx, hb, hml, hown, hts⟩ (c_X0_works l s.heap (nI i) 0 (nI (i + 5)) (nI (i + 3))) (va_cwS 4 hts gX0_unitsFromNotes_X0_works rfl rfl rfl (by decide +kernel) ⟨Nat.le_of_ble_eq_true rfl, Nat.le_of_ble_eq_true rfl⟩) ⟨fun a U g mk q => q, fun U hU hW => ⟨rfl, hU⟩⟩ rfl rfl hl.1 rfl (lv_room (Nat.le_of_ble_eq_true rfl)) dX0_unitsFromNotes_71 ⟨Nat.le_of_ble_eq_true rfl, Nat.le_of_ble_eq_true rfl⟩) hS (fun q _ h => h.elim) (fun q h => h.elim) (fun r31 u31 t H1 locs ht hvm hw hB hz1 hk1 hS => ?_)
          have e9 := hB.symm.trans ht
          subst e9
          subst hw
          refine lv_if_eq (tgt := 112) hx hb dX0_unitsFromNotes_74 (by decide) (fun cq32 => ?_) (fun cq32 => ?_)
          · refine lv_iinc (v := (nI (i + 1))) (lv' := [(7, .int (nI (i + 1))), (3, .int 0), (6, .int (nI (i + 3))), (5, .int (nI (i + 5))), (4, .int 0), (8, .int (N i)), (0, .ref (A 0)), (1, .int (nI k)), (2, .int (nI j))]) hx hb dX0_unitsFromNotes_112 hl (k := 8) rfl (nI_1 i) (by decide) rfl (fun ls hl => ?_)
            refine lv_goto (tgt := 14) hx hb dX0_unitsFromNotes_115 (by decide) ?_
            exact ih (i + 1) _ _ _ _ _ (by omega) (by simp only [rp, rpStep, rpW, rpR, rpU, ← hm, if_neg cq2, if_neg cq22, if_pos cq32]) hS ls (lv_sub hl [6, 7, 8, 1, 4, 3, 2, 0] rfl)
          · refine lv_iload hx hb dX0_unitsFromNotes_77 (lv_at hl 4 rfl) ?_
            refine va_calli (va_runS (As := [.int (N i)]) (rest := []) ⟨hx, hb, hml, hown, hts⟩ (c_X0_notedHead l s.heap (N i)) (va_cwS 1 hts gX0_unitsFromNotes_X0_notedHead rfl rfl rfl (by decide +kernel) ⟨Nat.le_of_ble_eq_true rfl, Nat.le_of_ble_eq_true rfl⟩) ⟨fun a U g mk q => q, fun U hU hW => ⟨rfl, hU⟩⟩ rfl rfl hl.1 rfl (lv_room (Nat.le_of_ble_eq_true rfl)) dX0_unitsFromNotes_79 ⟨Nat.le_of_ble_eq_true rfl, Nat.le_of_ble_eq_true rfl⟩) hS (fun q _ h => h.elim) (fun q h => h.elim) (fun r33 u33 t H1 locs ht hvm hw hB hz1 hk1 hS => ?_)
            have e9 := hB.symm.trans ht
            subst e9
            subst hw
            refine lv_iload hx hb dX0_unitsFromNotes_82 (lv_at hl 4 rfl) ?_
            refine lv_iload_n hx hb dX0_unitsFromNotes_84 rfl (lv_at hl 6 rfl) ?_
            refine va_calli (va_runS (As := [.int (N i), .int (nI k)]) (rest := [.int (fHead (N i))]) ⟨hx, hb, hml, hown, hts⟩ (c_X0_notedGate l s.heap (N i) (nI k)) (va_cwS 2 hts gX0_unitsFromNotes_X0_notedGate rfl rfl rfl (by decide +kernel) ⟨Nat.le_of_ble_eq_true rfl, Nat.le_of_ble_eq_true rfl⟩) ⟨fun a U g mk q => q, fun U hU hW => ⟨rfl, hU⟩⟩ rfl rfl hl.1 rfl (lv_room (Nat.le_of_ble_eq_true rfl)) dX0_unitsFromNotes_85 ⟨Nat.le_of_ble_eq_true rfl, Nat.le_of_ble_eq_true rfl⟩) hS (fun q _ h => h.elim) (fun q h => h.elim) (fun r34 u34 t H1 locs ht hvm hw hB hz1 hk1 hS => ?_)
            have e9 := hB.symm.trans ht
            subst e9
            subst hw
            refine lv_iload hx hb dX0_unitsFromNotes_88 (lv_at hl 3 rfl) ?_
            refine va_calli (va_runS (As := [.int (fHead (N i)), .int (fGate (N i) (nI k)), .int 0]) (rest := []) ⟨hx, hb, hml, hown, hts⟩ (c_X0_unitsOf l s.heap (fHead (N i)) (fGate (N i) (nI k)) 0) (va_cwS 3 hts gX0_unitsFromNotes_X0_unitsOf rfl rfl rfl (by decide +kernel) ⟨Nat.le_of_ble_eq_true rfl, Nat.le_of_ble_eq_true rfl⟩) ⟨fun a U g mk q => q, fun U hU hW => ⟨rfl, hU⟩⟩ rfl rfl hl.1 rfl (lv_room (Nat.le_of_ble_eq_true rfl)) dX0_unitsFromNotes_90 ⟨Nat.le_of_ble_eq_true rfl, Nat.le_of_ble_eq_true rfl⟩) hS (fun q _ h => h.elim) (fun q h => h.elim) (fun r35 u35 t H1 locs ht hvm hw hB hz1 hk1 hS => ?_)
            have e9 := hB.symm.trans ht
            subst e9
            subst hw
            refine lv_istore_n (lv' := [(3, .int (fUnits (fHead (N i)) (fGate (N i) (nI k)) 0)), (6, .int (nI (i + 3))), (5, .int (nI (i + 5))), (4, .int 0), (8, .int (N i)), (0, .ref (A 0)), (1, .int (nI k)), (2, .int (nI j)), (7, .int (nI i))]) hx hb dX0_unitsFromNotes_93 rfl hl (by decide) rfl (fun ls hl => ?_)
            refine lv_iload hx hb dX0_unitsFromNotes_94 (lv_at hl 4 rfl) ?_
            refine va_calli (va_runS (As := [.int (N i)]) (rest := []) ⟨hx, hb, hml, hown, hts⟩ (c_X0_notedHead l s.heap (N i)) (va_cwS 1 hts gX0_unitsFromNotes_X0_notedHead rfl rfl rfl (by decide +kernel) ⟨Nat.le_of_ble_eq_true rfl, Nat.le_of_ble_eq_true rfl⟩) ⟨fun a U g mk q => q, fun U hU hW => ⟨rfl, hU⟩⟩ rfl rfl hl.1 rfl (lv_room (Nat.le_of_ble_eq_true rfl)) dX0_unitsFromNotes_96 ⟨Nat.le_of_ble_eq_true rfl, Nat.le_of_ble_eq_true rfl⟩) hS (fun q _ h => h.elim) (fun q h => h.elim) (fun r36 u36 t H1 locs ht hvm hw hB hz1 hk1 hS => ?_)
            have e9 := hB.symm.trans ht
            subst e9
            subst hw
            refine lv_iload hx hb dX0_unitsFromNotes_99 (lv_at hl 4 rfl) ?_
            refine lv_iload_n hx hb dX0_unitsFromNotes_101 rfl (lv_at hl 6 rfl) ?_
            refine va_calli (va_runS (As := [.int (N i), .int (nI k)]) (rest := [.int (fHead (N i))]) ⟨hx, hb, hml, hown, hts⟩ (c_X0_notedGate l s.heap (N i) (nI k)) (va_cwS 2 hts gX0_unitsFromNotes_X0_notedGate rfl rfl rfl (by decide +kernel) ⟨Nat.le_of_ble_eq_true rfl, Nat.le_of_ble_eq_true rfl⟩) ⟨fun a U g mk q => q, fun U hU hW => ⟨rfl, hU⟩⟩ rfl rfl hl.1 rfl (lv_room (Nat.le_of_ble_eq_true rfl)) dX0_unitsFromNotes_102 ⟨Nat.le_of_ble_eq_true rfl, Nat.le_of_ble_eq_true rfl⟩) hS (fun q _ h => h.elim) (fun q h => h.elim) (fun r37 u37 t H1 locs ht hvm hw hB hz1 hk1 hS => ?_)
            have e9 := hB.symm.trans ht
            subst e9
            subst hw
            refine lv_iload hx hb dX0_unitsFromNotes_105 (lv_at hl 3 rfl) ?_
            refine va_calli (va_runS (As := [.int (fHead (N i)), .int (fGate (N i) (nI k)), .int 0]) (rest := []) ⟨hx, hb, hml, hown, hts⟩ (c_X0_wearAfter l s.heap (fHead (N i)) (fGate (N i) (nI k)) 0) (va_cwS 3 hts gX0_unitsFromNotes_X0_wearAfter rfl rfl rfl (by decide +kernel) ⟨Nat.le_of_ble_eq_true rfl, Nat.le_of_ble_eq_true rfl⟩) ⟨fun a U g mk q => q, fun U hU hW => ⟨rfl, hU⟩⟩ rfl rfl hl.1 rfl (lv_room (Nat.le_of_ble_eq_true rfl)) dX0_unitsFromNotes_107 ⟨Nat.le_of_ble_eq_true rfl, Nat.le_of_ble_eq_true rfl⟩) hS (fun q _ h => h.elim) (fun q h => h.elim) (fun r38 u38 t H1 locs ht hvm hw hB hz1 hk1 hS => ?_)
            have e9 := hB.symm.trans ht
            subst e9
            subst hw
            refine lv_istore (lv' := [(4, .int (fWear (fHead (N i)) (fGate (N i) (nI k)) 0)), (3, .int (fUnits (fHead (N i)) (fGate (N i) (nI k)) 0)), (6, .int (nI (i + 3))), (5, .int (nI (i + 5))), (8, .int (N i)), (0, .ref (A 0)), (1, .int (nI k)), (2, .int (nI j)), (7, .int (nI i))]) hx hb dX0_unitsFromNotes_110 hl (by decide) rfl (fun ls hl => ?_)
            refine lv_iinc (v := (nI (i + 1))) (lv' := [(7, .int (nI (i + 1))), (4, .int (fWear (fHead (N i)) (fGate (N i) (nI k)) 0)), (3, .int (fUnits (fHead (N i)) (fGate (N i) (nI k)) 0)), (6, .int (nI (i + 3))), (5, .int (nI (i + 5))), (8, .int (N i)), (0, .ref (A 0)), (1, .int (nI k)), (2, .int (nI j))]) hx hb dX0_unitsFromNotes_112 hl (k := 8) rfl (nI_1 i) (by decide) rfl (fun ls hl => ?_)
            refine lv_goto (tgt := 14) hx hb dX0_unitsFromNotes_115 (by decide) ?_
            exact ih (i + 1) _ _ _ _ _ (by omega) (by simp only [rp, rpStep, rpW, rpR, rpU, ← hm, if_neg cq2, if_neg cq22, if_neg cq32]) hS ls (lv_sub hl [6, 7, 8, 2, 1, 4, 3, 0] rfl)
  refine lv_iconst (v := 0) hx hb dX0_unitsFromNotes_0 (by decide) ?_
  refine lv_istore_n (lv' := [(3, .int 0), (0, .ref (A 0)), (1, .int (nI k)), (2, .int (nI j))]) hx hb dX0_unitsFromNotes_1 rfl hl (by decide) rfl (fun ls hl => ?_)
  refine lv_iconst (v := 0) hx hb dX0_unitsFromNotes_2 (by decide) ?_
  refine lv_istore (lv' := [(4, .int 0), (3, .int 0), (0, .ref (A 0)), (1, .int (nI k)), (2, .int (nI j))]) hx hb dX0_unitsFromNotes_3 hl (by decide) rfl (fun ls hl => ?_)
  refine lv_iconst (v := 0) hx hb dX0_unitsFromNotes_5 (by decide) ?_
  refine lv_istore (lv' := [(5, .int 0), (4, .int 0), (3, .int 0), (0, .ref (A 0)), (1, .int (nI k)), (2, .int (nI j))]) hx hb dX0_unitsFromNotes_6 hl (by decide) rfl (fun ls hl => ?_)
  refine lv_iconst (v := 0) hx hb dX0_unitsFromNotes_8 (by decide) ?_
  refine lv_istore (lv' := [(6, .int 0), (5, .int 0), (4, .int 0), (3, .int 0), (0, .ref (A 0)), (1, .int (nI k)), (2, .int (nI j))]) hx hb dX0_unitsFromNotes_9 hl (by decide) rfl (fun ls hl => ?_)
  refine lv_iconst (v := 0) hx hb dX0_unitsFromNotes_11 (by decide) ?_
  refine lv_istore (lv' := [(7, .int 0), (6, .int 0), (5, .int 0), (4, .int 0), (3, .int 0), (0, .ref (A 0)), (1, .int (nI k)), (2, .int (nI j))]) hx hb dX0_unitsFromNotes_12 hl (by decide) rfl (fun ls hl => ?_)
  exact loop (j + 1) 0 0 0 0 0 _ (by omega) rfl hS ls (lv_sub hl [5, 6, 7, 4, 3, 2, 1, 0] rfl)
set_option maxHeartbeats 4000000 in
set_option maxRecDepth 100000 in
theorem c_X0_madeAnew_ok (l : Launch) (dG : va_G) (a A : Nat → Nat) (cA : ClassId) (Hp : Heap) (L P G V R N Y S : Nat → Int32) (T h : Nat) (wd ft fl ce : Int32) (mo : UInt32)  (j : Nat) (hj : j < h) (hh : h ≤ 500) : Met l yX0_madeAnew wsX0_madeAnew ({ frames := 7, cells := 0, slots := 0, locals := 130 }) (va_Pc [.ref (A 0), .int (nI j)] (fun U => wPre dG (tyI cA) (xW A cA L P G V R N Y S wd (nI T) ft fl ce (nI h) mo) Hp U)) (va_Qi (fun (r : Int32) (u : Unit) => r = rpS N j 4) (fun _ t => t.heap = Hp) (fun _ => False)) 0 0 (va_A (xW A cA L P G V R N Y S wd (nI T) ft fl ce (nI h) mo) Hp.size) := by
  refine Met.ofW (cc := cX0_madeAnew) (maxL := 4) (ret := (some .int)) (by decide) rfl ?_
  intro p e s m args below meth c s₁ Bd hml hv
  obtain ⟨rfl, hH, hP, hK, hD0⟩ := hv
  subst hH
  have hK : va_K dG vwCl (tyI cA) s := hK
  have hx := Bd.exec
  have hb := Bd.bytes
  have hr := Bd.returns
  have hts := atoms_spec (ws := wsX0_madeAnew) Bd.pre
  have hown : s.vm.findClass RX0 = some m.cls := findClass_of_methodNamed Bd.named
  have hlocks := Bd.notSynchronized
  have hinX : ∀ w ∈ wsX00, w ∈ wsX0_madeAnew := by decide +kernel
  have hD := hD0.self (sz := s.heap.size)
  generalize hAe : va_A (xW A cA L P G V R N Y S wd (nI T) ft fl ce (nI h) mo) s.heap.size = F at hD ⊢
  have hA : ∀ q : Nat, s.heap.size ≤ q → F q := fun q h => by rw [← hAe]; exact Or.inr h
  have hS : va_S F s.heap s.heap [] := va_S.rf
  have hP : va_P dG vwCl (xW A cA L P G V R N Y S wd (nI T) ft fl ce (nI h) mo) s.heap := hP
  have hl := lv_entry ([.ref (A 0), .int (nI j)]) (n := 4) (Nat.le_of_ble_eq_true rfl)
  rw [lg_entry_eq]
  generalize (lg_sl ([.ref (A 0), .int (nI j)]) ++ List.replicate (4 - (lg_sl ([.ref (A 0), .int (nI j)])).length) Slot.unset).toArray = ls at hl ⊢
  have hl : lv_has ls 4 [(0, .ref (A 0)), (1, .int (nI j))] := hl
  have loop : ∀ (n i : Nat) (sm : Int32) (locs : List Loc), i + n = 4 → sm = rpS N j i → va_S F s.heap s.heap locs → ∀ ls : Array Slot, lv_has ls 4 [(0, .ref (A 0)), (1, .int (nI j)), (2, .int sm), (3, .int (nI i))] → W p l e (headSpec wsX0_madeAnew ({ frames := 7, cells := 0, slots := 0, locals := 130 })).room s m ([.ref (A 0), .int (nI j)]).toArray below meth c s.heap locs 0 0 (MQ below (va_Qi (fun (r : Int32) (u : Unit) => r = rpS N j 4) (fun _ t => t.heap = s.heap) (fun _ => False)) ([.ref (A 0), .int (nI j)]).toArray s 0 0 F) (F0 m 15 ls []) := by
    intro n
    induction n with
    | zero =>
      intro i sm locs hi hm hS ls hl
      have hi : 4 = i := by omega
      subst hi
      refine lv_iload_n hx hb dX0_madeAnew_15 rfl (lv_at hl 3 rfl) ?_
      refine lv_iconst (v := 4) hx hb dX0_madeAnew_16 (by decide) ?_
      refine lv_icmp_ge (tgt := 35) hx hb dX0_madeAnew_17 (by decide) (fun _ => ?_) (fun h9 => absurd (nI_le (a := 4) (b := 4) (by omega) (by omega)) h9)
      refine lv_iload_n hx hb dX0_madeAnew_35 rfl (lv_at hl 2 rfl) ?_
      exact W.iret hx hb hr (fun t ht hW => ⟨⟨_, (), rfl, hm, ht⟩, (va_S.rf (A := fun _ => False)).F ht⟩) hS.2.2 dX0_madeAnew_36
    | succ n ih =>
      intro i sm locs hi hm hS ls hl
      refine lv_iload_n hx hb dX0_madeAnew_15 rfl (lv_at hl 3 rfl) ?_
      refine lv_iconst (v := 4) hx hb dX0_madeAnew_16 (by decide) ?_
      refine lv_icmp_ge (tgt := 35) hx hb dX0_madeAnew_17 (by decide) (fun h9 => absurd h9 (nI_ge (b := 4) (by omega) (by omega))) (fun _ => ?_)
      refine lv_iload_n hx hb dX0_madeAnew_20 rfl (lv_at hl 2 rfl) ?_
      refine lv_aload_n hx hb dX0_madeAnew_21 rfl (lv_at hl 0 rfl) ?_
      refine lv_iload_n hx hb dX0_madeAnew_22 rfl (lv_at hl 3 rfl) ?_
      refine lv_iload_n hx hb dX0_madeAnew_23 rfl (lv_at hl 1 rfl) ?_
      have hFc := va_free (wc := (xW A cA L P G V R N Y S wd (nI T) ft fl ce (nI h) mo)) hD hS hA [0, 1, 2, 3, 4, 5, 6, 7, 8] rfl
      refine va_calli (va_runV (As := [.int (nI i), .int (nI j)]) (rest := [.int sm]) ⟨hx, hb, hml, hown, hts⟩ (c_X0_unitsFromNotes l dG a A cA s.heap L P G V R N Y S T h wd ft fl ce mo  i (by omega) j (by omega)) (cwV 2 hts gX0_madeAnew_X0_unitsFromNotes rfl rfl rfl (by decide +kernel) ⟨Nat.le_of_ble_eq_true rfl, Nat.le_of_ble_eq_true rfl⟩) ⟨fun a U g mk q => ⟨q.1, wPre_calling g mk a q.2⟩, va_recv hK hP (ci := 0) (q0 := 0) rfl rfl, fun U hU hW => ⟨rfl, wPre_of hK hP hD hU hW⟩⟩ rfl rfl hl.1 rfl (lv_room (Nat.le_of_ble_eq_true rfl)) dX0_madeAnew_24 ⟨Nat.le_of_ble_eq_true rfl, Nat.le_of_ble_eq_true rfl⟩) hS (fun q _ h => h.elim) hFc (fun r1 u1 t H1 locs ht hvm hw hB hz1 hk1 hS => ?_)
      have e9 := hB.symm.trans ht
      subst e9
      subst hw
      refine lv_iadd hx hb dX0_madeAnew_27 ?_
      refine lv_istore_n (lv' := [(2, .int (sm + (rp N i (j + 1)).1)), (0, .ref (A 0)), (1, .int (nI j)), (3, .int (nI i))]) hx hb dX0_madeAnew_28 rfl hl (by decide) rfl (fun ls hl => ?_)
      refine lv_iinc (v := (nI (i + 1))) (lv' := [(3, .int (nI (i + 1))), (2, .int (sm + (rp N i (j + 1)).1)), (0, .ref (A 0)), (1, .int (nI j))]) hx hb dX0_madeAnew_29 hl (k := 3) rfl (nI_1 i) (by decide) rfl (fun ls hl => ?_)
      refine lv_goto (tgt := 15) hx hb dX0_madeAnew_32 (by decide) ?_
      exact ih (i + 1) _ _ (by omega) (by simp only [rpS, ← hm]) hS ls (lv_sub hl [2, 3, 1, 0] rfl)
  refine lv_iload_n hx hb dX0_madeAnew_0 rfl (lv_at hl 1 rfl) ?_
  refine lv_iconst (v := 0) hx hb dX0_madeAnew_1 (by decide) ?_
  refine lv_aload_n hx hb dX0_madeAnew_2 rfl (lv_at hl 0 rfl) ?_
  refine va_get (D := dG) (ci := 0) (v := .int (nI h)) (C := RX0) (T := TX0) (N := 15) hx hb hts hinX hown hK hP 0 rfl rfl 13 (by decide) (hts (.fieldLink RX0 58 "TidegateBourse" "nextHour" "I") (by decide +kernel)) (fun _ h9 => h9) rfl dX0_madeAnew_3 ?_
  refine lv_iconst (v := 1) hx hb dX0_madeAnew_6 (by decide) ?_
  refine lv_isub hx hb dX0_madeAnew_7 ?_
  by_cases g1 : oI (nI j) 0 ((nI h) - 1)
  · exact absurd g1 (oI_gone hj hh)
  · refine va_callv (va_runS (As := [.int (nI j), .int 0, .int ((nI h) - 1)]) (rest := []) ⟨hx, hb, hml, hown, hts⟩ (c_requireIndex_ok l s.heap (nI j) 0 ((nI h) - 1) g1) (va_cwS 3 hts gX0_madeAnew_X0_requireIndex rfl rfl rfl (by decide +kernel) ⟨Nat.le_of_ble_eq_true rfl, Nat.le_of_ble_eq_true rfl⟩) ⟨fun a U g mk q => q, fun U hU hW => ⟨rfl, hU⟩⟩ rfl rfl hl.1 rfl (lv_room (Nat.le_of_ble_eq_true rfl)) dX0_madeAnew_8 ⟨Nat.le_of_ble_eq_true rfl, Nat.le_of_ble_eq_true rfl⟩) hS (fun q _ h => h.elim) (fun q h => h.elim) (fun u1 t H1 locs ht hvm hw hB hz1 hk1 hS => ?_)
    have e9 := hB.symm.trans ht
    subst e9
    refine lv_iconst (v := 0) hx hb dX0_madeAnew_11 (by decide) ?_
    refine lv_istore_n (lv' := [(2, .int 0), (0, .ref (A 0)), (1, .int (nI j))]) hx hb dX0_madeAnew_12 rfl hl (by decide) rfl (fun ls hl => ?_)
    refine lv_iconst (v := 0) hx hb dX0_madeAnew_13 (by decide) ?_
    refine lv_istore_n (lv' := [(3, .int 0), (2, .int 0), (0, .ref (A 0)), (1, .int (nI j))]) hx hb dX0_madeAnew_14 rfl hl (by decide) rfl (fun ls hl => ?_)
    exact loop 4 0 0 _ (by omega) rfl hS ls (lv_sub hl [2, 3, 1, 0] rfl)
