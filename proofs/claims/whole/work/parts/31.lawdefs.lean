theorem Inv_pass {L P G V R N Y S Rp O D : Nat → Int32} {T h : Nat} {wd ce cl : Int32} {mo : UInt32} (I : Inv L P G V R N Y S T h wd ce mo Rp O D cl) (ft fl : Int32) (ct : Nat) (hc : h + ct ≤ 500) :
    ∃ (V' N' Y' Rp' O' D' : Nat → Int32) (ft' ce' cl' : Int32) (mo' : UInt32), xGoN L P G R S wd fl T h ct (V, N, Y, ft, ce, mo) = (V', N', Y', ft', ce', mo') ∧ mGoN L P G S wd fl T h ct (V, Rp, Y, O, D, ft, cl, mo) = (V', Rp', Y', O', D', ft', cl', mo') ∧ Inv L P G V' R N' Y' S T (h + ct) wd ce' mo' Rp' O' D' cl' := by
  induction ct with
  | zero => exact ⟨V, N, Y, Rp, O, D, ft, ce, cl, mo, rfl, rfl, I⟩
  | succ ct ih =>
    obtain ⟨V', N', Y', Rp', O', D', ft', ce', cl', mo', ex, em, I'⟩ := ih (by omega)
    obtain ⟨V2, O2, sm, c2, hd, nt, mo2, fx, fm, I2⟩ := Inv_hour I' (by omega) ft' fl
    refine ⟨V2, _, _, _, O2, _, 0, c2, _, mo2, ?_, ?_, I2⟩
    · show xGo L P G R S wd fl T (h + ct) (xGoN L P G R S wd fl T h ct (V, N, Y, ft, ce, mo)) = _
      rw [ex, fx]
    · show mGo L P G S wd fl T (h + ct) (mGoN L P G S wd fl T h ct (V, Rp, Y, O, D, ft, cl, mo)) = _
      rw [em, fm]
theorem Inv_passX {L P G V R N Y S Rp O D : Nat → Int32} {T h : Nat} {wd ce cl : Int32} {mo : UInt32} (I : Inv L P G V R N Y S T h wd ce mo Rp O D cl) (ft fl : Int32) (ct : Nat) (hc : h + ct ≤ 500) : ∀ j : Nat, j < ct → FP.Core.FFin (xGoN L P G R S wd fl T h j (V, N, Y, ft, ce, mo)).2.2.2.2.2 := by
  intro j hj
  obtain ⟨V', N', Y', Rp', O', D', ft', ce', cl', mo', ex, em, I'⟩ := Inv_pass I ft fl j (by omega)
  rw [ex]
  exact I'.2.2.2.2.2.1.fin
theorem Inv_passM {L P G V R N Y S Rp O D : Nat → Int32} {T h : Nat} {wd ce cl : Int32} {mo : UInt32} (I : Inv L P G V R N Y S T h wd ce mo Rp O D cl) (ft fl : Int32) (ct : Nat) (hc : h + ct ≤ 500) : ∀ j : Nat, j < ct → FP.Core.FFin (mGoN L P G S wd fl T h j (V, Rp, Y, O, D, ft, cl, mo)).2.2.2.2.2.2.2 := by
  intro j hj
  obtain ⟨V', N', Y', Rp', O', D', ft', ce', cl', mo', ex, em, I'⟩ := Inv_pass I ft fl j (by omega)
  rw [em]
  exact I'.2.2.2.2.2.1.fin
theorem pos_diff {x y : Int32} (hx : 0 ≤ x.toInt ∧ x.toInt ≤ 10000) (hy : 0 ≤ y.toInt ∧ y.toInt ≤ 10000) : (if 0 < x - y then x - y else 0) = nI (x.toNatClampNeg - y.toNatClampNeg) := by
  have e : (x - y).toInt = x.toInt - y.toInt := i32_sub (by omega) (by omega)
  by_cases c : 0 < x - y
  · rw [if_pos c]
    rw [Int32.lt_iff_toInt_lt, e, toI_0] at c
    exact sub_nI hy.1 (by omega)
  · rw [if_neg c]
    rw [Int32.lt_iff_toInt_lt, e, toI_0] at c
    have z : x.toNatClampNeg - y.toNatClampNeg = 0 := by rw [clampN, clampN]; omega
    rw [z]
    rfl
theorem lgc_self (x : Int64) : lg_cmp x x = 0 := (lg_cmp_eq x x).mpr rfl
theorem lgc_eq {x y : Int32} (h : x = y) : lg_cmp x.toInt64 y.toInt64 = 0 := by rw [h]; exact lgc_self _
section EQS
variable {L P G V R N Y S Rp O D : Nat → Int32} {T h : Nat} {wd ce cl : Int32} {mo : UInt32}
theorem eq_rep (I : Inv L P G V R N Y S T h wd ce mo Rp O D cl) (j : Nat) : (if 0 < R j - nI h then R j - nI h else 0) = Rp j := by
  obtain ⟨⟨-, ih⟩, -, -, -, -, -, ⟨iR, iRp⟩, -⟩ := I
  have := iR j
  have t : (nI h).toInt = (h : Int) := nI_toInt (by omega)
  rw [pos_diff (by omega) (by omega), iRp j, nI_clamp (by omega)]
theorem eq_closed (I : Inv L P G V R N Y S T h wd ce mo Rp O D cl) : (if 0 < ce - nI h then ce - nI h else 0) = cl := by
  obtain ⟨⟨-, ih⟩, -, -, -, -, -, -, ⟨ic, icl⟩, -⟩ := I
  have t : (nI h).toInt = (h : Int) := nI_toInt (by omega)
  rw [pos_diff (by omega) (by omega), icl, nI_clamp (by omega)]
theorem eq_bought (I : Inv L P G V R N Y S T h wd ce mo Rp O D cl) {x : Int32} (hk : kGone (nI h) x = 0) : (if 0 < S x.toNatClampNeg - Y x.toNatClampNeg then S x.toNatClampNeg - Y x.toNatClampNeg else 0) = O x.toNatClampNeg := by
  obtain ⟨⟨-, ih⟩, -, -, -, ⟨-, iS, iY⟩, -, -, -, ⟨iO, -⟩, -⟩ := I
  obtain ⟨j, rfl, hj⟩ := below_nI (by omega) (kGone_0 hk)
  have := iS (nI j).toNatClampNeg
  have := iY (nI j).toNatClampNeg
  rw [pos_diff (by omega) (by omega), nI_clamp (by omega), iO j hj]
theorem eq_head (I : Inv L P G V R N Y S T h wd ce mo Rp O D cl) {x : Int32} (hk : kGone (nI h) x = 0) : fHead (N x.toNatClampNeg) = D x.toNatClampNeg := by
  obtain ⟨⟨-, ih⟩, -, -, -, -, -, -, -, -, iD, -⟩ := I
  obtain ⟨j, rfl, hj⟩ := below_nI (by omega) (kGone_0 hk)
  rw [nI_clamp (by omega), iD j hj]
theorem eq_anew (I : Inv L P G V R N Y S T h wd ce mo Rp O D cl) {j : Nat} (hj : j < h) : rpS N j 4 = Y (nI j).toNatClampNeg := by
  obtain ⟨⟨-, ih⟩, -, -, -, -, -, -, -, -, -, iY, -⟩ := I
  rw [nI_clamp (by omega), iY j hj]
theorem eq_about (I : Inv L P G V R N Y S T h wd ce mo Rp O D cl) (x y : Int32) : (if y = 0 then G x.toNatClampNeg else if y = 1 then V x.toNatClampNeg else if 0 < R x.toNatClampNeg - nI h then R x.toNatClampNeg - nI h else 0) = (if y = 0 then G x.toNatClampNeg else if y = 1 then V x.toNatClampNeg else Rp x.toNatClampNeg) := by
  rw [eq_rep I]
end EQS
/-- the law at one of its points, i calls behind it -/
def lwAt (p : Program) (l : Launch) (e : Env) (s : State) (m : MethodId) (below : List Frame) (meth : Method) (c : Code) (b : Nat) (dG : va_G) (A B : Nat → Nat) (o : Nat) (cA cL : ClassId) (pc i cells slots : Nat) : Prop :=
  ∀ (L P G V R N Y S Rp O D : Nat → Int32) (T h : Nat) (wd ft fl ce cl th : Int32) (mo : UInt32) (fo : Nat → Int64) (H : Heap) (locs : List Loc) (ls : Array Slot), Inv L P G V R N Y S T h wd ce mo Rp O D cl → va_P dG vwCl ((xW A cA L P G V R N Y S wd (nI T) ft fl ce (nI h) mo) ++ (mW B cA L P G V Rp S Y O D th (nI h) wd (nI T) ft fl cl mo) ++ [(o, .inl (cL, 1, .inr (.inl fo)))]) H → va_D (aNew s.heap) ((xW A cA L P G V R N Y S wd (nI T) ft fl ce (nI h) mo) ++ (mW B cA L P G V Rp S Y O D th (nI h) wd (nI T) ft fl cl mo) ++ [(o, .inl (cL, 1, .inr (.inl fo)))]) → va_S (aNew s.heap) s.heap H locs → lv_has ls 7 [(0, .ref b), (1, .ref (A 0)), (2, .ref (B 0)), (3, .ref o), (4, .int (nI (4 * i)))] → W p l e room_1 s m #[Value.ref b] below meth c H locs cells slots (lw_Z below #[Value.ref b] s) (F0 m pc ls [])
