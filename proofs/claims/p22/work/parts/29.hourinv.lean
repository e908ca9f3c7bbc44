theorem toI64 (x : Int32) : x.toInt64.toInt = x.toInt := Int32.toInt_toInt64 x
/-- what units are worth: a whole number -/
theorem worth_val {u q : Int32} (h1 : 1 ≤ u.toInt ∧ u.toInt ≤ 1000) (h2 : 1 ≤ q.toInt ∧ q.toInt ≤ 200) : ∃ (c : Nat) (e : Int) (i : Nat), FP.Core.val32 (fWorth u q) = .fin false c e ∧ -148 ≤ e ∧ 2 ^ 23 ≤ c ∧ c < 2 ^ 24 ∧ e ≤ 104 ∧ c * 2 ^ (e + 149).toNat = i * 2 ^ 149 ∧ i < 2 ^ 18 := by
  have p1 : 1 ≤ u.toInt * q.toInt := by
    have := Int.mul_le_mul h1.1 h2.1 (by omega) (by omega)
    omega
  have p2 : u.toInt * q.toInt ≤ 200000 := by
    have := Int.mul_le_mul h1.2 h2.2 (by omega) (by omega)
    omega
  have sa : FP.Core.Small24 u.toInt64 := by unfold FP.Core.Small24; rw [toI64]; omega
  have sb : FP.Core.Small24 q.toInt64 := by unfold FP.Core.Small24; rw [toI64]; omega
  have za : u.toInt64 ≠ 0 := fun e => by
    have h := congrArg Int64.toInt e
    rw [toI64, show (0 : Int64).toInt = 0 by decide] at h
    omega
  have zb : q.toInt64 ≠ 0 := fun e => by
    have h := congrArg Int64.toInt e
    rw [toI64, show (0 : Int64).toInt = 0 by decide] at h
    omega
  have hm : fWorth u q = FP.Core.l2f (u.toInt64 * q.toInt64) := by
    show FP.Core.fmul (FP.Core.i2f u) (FP.Core.i2f q) = _
    rw [FP.Core.i2f_l2f, FP.Core.i2f_l2f]
    exact FP.Core.fmul_l2f sa sb za zb (by rw [toI64, toI64]; omega) (by rw [toI64, toI64]; omega)
  have hi : (u.toInt64 * q.toInt64).toInt = u.toInt * q.toInt := by
    rw [FP.Core.int64_mul (by rw [toI64, toI64]; omega) (by rw [toI64, toI64]; omega), toI64, toI64]
  have sp : FP.Core.Small24 (u.toInt64 * q.toInt64) := by unfold FP.Core.Small24; rw [hi]; omega
  have hw := FP.Core.l2f_whole sp
  obtain ⟨c, e, hv⟩ := FP.Core.l2f_shape (u.toInt64 * q.toInt64)
  rw [hi, decide_eq_false (by omega)] at hv
  have hf := FP.Core.val32_fits (FP.Core.l2f (u.toInt64 * q.toInt64))
  have hz := FP.Core.whole_zval FP.Core.good_b32 hf hw
  rw [hv] at hf hz
  rw [zv_fin, hi, FP.Core.qmin_b32] at hz
  obtain ⟨f1, f2, f3, f4⟩ := hf
  have hqm : FP.Core.b32.qmax = 104 := by decide
  have hp : FP.Core.b32.p = 24 := rfl
  rw [hp] at f1
  rw [FP.Core.qmin_b32] at f2 f4
  rw [hqm] at f3
  rw [FP.Core.tails_b32] at f4
  obtain ⟨i, hi9⟩ : ∃ i : Nat, u.toInt * q.toInt = (i : Int) := ⟨(u.toInt * q.toInt).toNat, by omega⟩
  rw [hi9] at hz p1 p2
  have hz2 : c * 2 ^ (e + 149).toNat = i * 2 ^ 149 := by
    have : ((c * 2 ^ (e + 149).toNat : Nat) : Int) = ((i * 2 ^ 149 : Nat) : Int) := by
      rw [Int.natCast_mul i]
      exact hz
    exact Int.ofNat_inj.mp this
  have he : -148 ≤ e := by
    rcases Int.lt_or_le e (-148) with w | w
    · have e9 : e = -149 := by omega
      subst e9
      rw [show ((-149 : Int) + 149).toNat = 0 by decide, Nat.pow_zero, Nat.mul_one] at hz2
      have b1 : (2 : Nat) ^ 24 < 2 ^ 149 := by decide
      have b2 : 1 * 2 ^ 149 ≤ i * 2 ^ 149 := Nat.mul_le_mul_right _ (by omega)
      omega
    · exact w
  rw [hm]
  refine ⟨c, e, i, hv, he, ?_, f1, f3, hz2, by omega⟩
  rcases f4 with w | w
  · omega
  · exact w
theorem dvd148 (i : Nat) : 2 ^ 148 ∣ i * 2 ^ 149 := ⟨i * 2, by rw [show (2 : Nat) ^ 149 = 2 ^ 148 * 2 by decide, ← Nat.mul_assoc, Nat.mul_comm i, Nat.mul_assoc]⟩
theorem le167 {i : Nat} (h : i < 2 ^ 18) : i * 2 ^ 149 ≤ 2 ^ 167 := by
  calc i * 2 ^ 149 ≤ 2 ^ 18 * 2 ^ 149 := Nat.mul_le_mul_right _ (by omega)
    _ = 2 ^ 167 := by decide
theorem worth_hG {u q : Int32} (h1 : 1 ≤ u.toInt ∧ u.toInt ≤ 1000) (h2 : 1 ≤ q.toInt ∧ q.toInt ≤ 200) : hG (FP.Core.val32 (fWorth u q)) (2 ^ 167) := by
  obtain ⟨c, e, i, hv, he, c1, c2, e2, hz, hi⟩ := worth_val h1 h2
  exact ⟨false, c, e, hv, by omega, by rw [hz]; exact dvd148 i, by rw [hz]; exact le167 hi⟩
theorem half_hG {u q : Int32} (h1 : 1 ≤ u.toInt ∧ u.toInt ≤ 1000) (h2 : 1 ≤ q.toInt ∧ q.toInt ≤ 200) : hG (FP.Core.val32 (FP.fmul (fWorth u q) 1056964608)) (2 ^ 167) := by
  obtain ⟨c, e, i, hv, he, c1, c2, e2, hz, hi⟩ := worth_val h1 h2
  have hm := mul_pow (r := -1) (y := 1056964608) hv c1 c2 (by rw [v_half]; rfl) (by omega) (by omega)
  have hz2 : c * 2 ^ (e + -1 + 149).toNat = i * 2 ^ 148 := by
    have e9 : 2 ^ (e + 149).toNat = 2 ^ (e + -1 + 149).toNat * 2 := by
      rw [show (e + 149).toNat = (e + -1 + 149).toNat + 1 by omega, Nat.pow_succ]
    rw [e9, show (2 : Nat) ^ 149 = 2 ^ 148 * 2 by decide, ← Nat.mul_assoc, ← Nat.mul_assoc] at hz
    omega
  refine ⟨false, c, e + -1, hm, by omega, by rw [hz2]; exact Nat.dvd_mul_left _ _, ?_⟩
  rw [hz2]
  calc i * 2 ^ 148 ≤ 2 ^ 18 * 2 ^ 148 := Nat.mul_le_mul_right _ (by omega)
    _ ≤ 2 ^ 167 := by decide
section SELL
variable {L P G V R N Y S Rp O D : Nat → Int32} {T h : Nat} {wd ce cl : Int32} {mo : UInt32}
theorem Inv_sell {a b c : Int32} (I : Inv L P G V R N Y S T h wd ce mo Rp O D cl) (hk : kSell S (nI h) a b c = 0) : Inv L P G V R N Y (upd S a.toNatClampNeg (S a.toNatClampNeg + b)) T h wd ce (FP.fadd mo (fWorth b c)) Rp O D cl := by
  obtain ⟨i1, i2, i3, i4, ⟨i6, i7, i8⟩, i9, i10, i12, ⟨i13, i13b⟩, i14, i15, i16⟩ := I
  obtain ⟨g1, g2, g3, g4⟩ := kSell_0 hk
  have b1 := nOI g1
  have b2 := nOI g2
  have b3 := nOI g3
  have e1 : (1 : Int32).toInt = 1 := by decide
  have e5 : (500 : Int32).toInt = 500 := by decide
  have e2 : (200 : Int32).toInt = 200 := by decide
  have s0 := i7 a.toNatClampNeg
  have sm : (S a.toNatClampNeg + b).toInt = (S a.toNatClampNeg).toInt + b.toInt := i32_add (by omega) (by omega)
  rw [Int32.le_iff_toInt_le, sm, t1000] at g4
  rw [nI_toInt (by omega)] at b1
  have ha : h ≤ a.toNatClampNeg := by rw [clampN]; omega
  refine ⟨i1, i2, i3, i4, ⟨i6, upd_all (Q := fun x => 0 ≤ x.toInt ∧ x.toInt ≤ 1000) i7 (by omega), i8⟩, gF_add i9 (worth_hG (by omega) (by omega)), i10, i12, ⟨fun j hj => ?_, i13b⟩, i14, i15, i16⟩
  rw [upd_at, if_neg (by omega)]
  exact i13 j hj
end SELL
section HOUR
variable {L P G V R N Y S Rp O D : Nat → Int32} {T h : Nat} {wd ce cl : Int32} {mo : UInt32}
theorem absX_le {x : Int32} (h1 : -120 ≤ x.toInt) (h2 : x.toInt ≤ 120) : 0 ≤ (fAbsX x).toInt ∧ (fAbsX x).toInt ≤ 120 := by
  unfold fAbsX
  by_cases c : 0 ≤ x
  · rw [if_pos c]
    rw [Int32.le_iff_toInt_le, toI_0] at c
    omega
  · rw [if_neg c]
    rw [Int32.le_iff_toInt_le, toI_0] at c
    rw [i32_sub (by rw [toI_0]; omega) (by rw [toI_0]; omega), toI_0]
    omega
/-- replaying depends on the notes before -/
theorem rp_upd (N : Nat → Int32) (k : Nat) {n i : Nat} (x : Int32) (h : n ≤ i) : rp (upd N i x) k n = rp N k n := by
  induction n with
  | zero => rfl
  | succ n ih =>
    show rpStep (upd N i x n) k n (rp (upd N i x) k n) = rpStep (N n) k n (rp N k n)
    rw [ih (by omega), upd_at, if_neg (by omega)]
theorem rpS_upd (N : Nat → Int32) (x : Int32) {j i : Nat} (h : j < i) (n : Nat) : rpS (upd N i x) j n = rpS N j n := by
  induction n with
  | zero => rfl
  | succ n ih =>
    show rpS (upd N i x) j n + (rp (upd N i x) n (j + 1)).1 = rpS N j n + (rp N n (j + 1)).1
    rw [ih, rp_upd N n x (by omega)]
theorem units_le {hd g v : Int32} (a : 0 ≤ hd.toInt ∧ hd.toInt ≤ 120) (b : 0 ≤ g.toInt ∧ g.toInt ≤ 7) (c : 0 ≤ v.toInt ∧ v.toInt ≤ 1000) : 0 ≤ (fUnits hd g v).toInt ∧ (fUnits hd g v).toInt ≤ 105 := by
  have p0 : 0 ≤ hd.toInt * g.toInt := Int.mul_nonneg a.1 b.1
  have p1 : hd.toInt * g.toInt ≤ 840 := by
    have := Int.mul_le_mul a.2 b.2 b.1 (by omega)
    omega
  have m1 : (hd * g).toInt = hd.toInt * g.toInt := i32_mul (by omega) (by omega)
  have s1 : ((1000 : Int32) - v).toInt = 1000 - v.toInt := by rw [i32_sub (by rw [t1000]; omega) (by rw [t1000]; omega), t1000]
  have q0 : 0 ≤ hd.toInt * g.toInt * (1000 - v.toInt) := Int.mul_nonneg p0 (by omega)
  have q1 : hd.toInt * g.toInt * (1000 - v.toInt) ≤ 840000 := by
    have := Int.mul_le_mul p1 (show 1000 - v.toInt ≤ 1000 by omega) (by omega) (by omega)
    omega
  have m2 : ((hd * g) * (1000 - v)).toInt = hd.toInt * g.toInt * (1000 - v.toInt) := by
    rw [i32_mul (by rw [m1, s1]; omega) (by rw [m1, s1]; omega), m1, s1]
  have e8 : (8000 : Int32).toInt = 8000 := by decide
  unfold fUnits
  rw [Int32.toInt_div_of_ne_right _ 8000 (by decide), m2, e8, Int.tdiv_eq_ediv_of_nonneg q0]
  omega
theorem wear_le {hd g v : Int32} (b : 0 ≤ g.toInt ∧ g.toInt ≤ 7) (c : 0 ≤ v.toInt ∧ v.toInt ≤ 1000) : 0 ≤ (fWear hd g v).toInt ∧ (fWear hd g v).toInt ≤ 1000 := by
  have e2 : (2 : Int32).toInt = 2 := by decide
  have a1 : (v + g).toInt = v.toInt + g.toInt := i32_add (by omega) (by omega)
  have a2 : (g + 2).toInt = g.toInt + 2 := by rw [i32_add (by omega) (by omega), e2]
  have a3 : (v + (g + 2)).toInt = v.toInt + g.toInt + 2 := by rw [i32_add (by omega) (by omega), a2]; omega
  unfold fWear
  split
  · exact c
  · split
    · split
      · rename_i w
        rw [Int32.lt_iff_toInt_lt, t1000] at w
        omega
      · rw [t1000]; omega
    · split
      · rename_i w
        rw [Int32.lt_iff_toInt_lt, t1000] at w
        omega
      · rw [t1000]; omega
theorem uK_le {hh : Nat} {hd ce g v r : Int32} (a : 0 ≤ hd.toInt ∧ hd.toInt ≤ 120) (b : 0 ≤ g.toInt ∧ g.toInt ≤ 7) (c : 0 ≤ v.toInt ∧ v.toInt ≤ 1000) : 0 ≤ (uK hh hd ce g v r).toInt ∧ (uK hh hd ce g v r).toInt ≤ 105 := by
  unfold uK
  split
  · rw [toI_0]; omega
  · exact units_le a b c
theorem vK_le {hh : Nat} {hd ce g v r : Int32} (b : 0 ≤ g.toInt ∧ g.toInt ≤ 7) (c : 0 ≤ v.toInt ∧ v.toInt ≤ 1000) : 0 ≤ (vK hh hd ce g v r).toInt ∧ (vK hh hd ce g v r).toInt ≤ 1000 := by
  unfold vK
  split
  · exact c
  · exact wear_le b c
theorem sumU_le {hd : Int32} (a : 0 ≤ hd.toInt ∧ hd.toInt ≤ 120) (b : ∀ j, 0 ≤ (G j).toInt ∧ (G j).toInt ≤ 7) (c : ∀ j, 0 ≤ (V j).toInt ∧ (V j).toInt ≤ 1000) (i : Nat) (hi : i ≤ 4) : 0 ≤ (sumU G V R h hd ce i).toInt ∧ (sumU G V R h hd ce i).toInt ≤ (i : Int) * 105 := by
  induction i with
  | zero =>
    show 0 ≤ (0 : Int32).toInt ∧ _
    rw [toI_0]
    exact ⟨by omega, by show (0 : Int32).toInt ≤ _; rw [toI_0]; omega⟩
  | succ i ih =>
    have u := uK_le (hh := h) (ce := ce) (r := R i) a (b i) (c i)
    have ih := ih (by omega)
    show 0 ≤ (sumU G V R h hd ce i + uK h hd ce (G i) (V i) (R i)).toInt ∧ (sumU G V R h hd ce i + uK h hd ce (G i) (V i) (R i)).toInt ≤ _
    rw [i32_add (by omega) (by omega)]
    omega
/-- beyond the turbines that are built nothing is made -/
theorem sumU_4 (hG : ∀ j, T ≤ j → G j = 0) (hd : Int32) {n : Nat} (hn : T ≤ n) : sumU G V R h hd ce n = sumU G V R h hd ce T := by
  induction n with
  | zero =>
    have : T = 0 := by omega
    rw [this]
  | succ n ih =>
    by_cases e : T = n + 1
    · rw [e]
    · show sumU G V R h hd ce n + uK h hd ce (G n) (V n) (R n) = _
      rw [ih (by omega), hG n (by omega)]
      unfold uK
      rw [units_0, ite_self, Int32.add_zero]
theorem allV_4 (hG : ∀ j, T ≤ j → G j = 0) (hd : Int32) (j : Nat) : allV G V R h hd ce T j = vK h hd ce (G j) (V j) (R j) := by
  unfold allV
  by_cases q : j < T
  · rw [if_pos q]
  · rw [if_neg q, hG j (by omega)]
    unfold vK
    rw [wear_0, ite_self]
end HOUR
