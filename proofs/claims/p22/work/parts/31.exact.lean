-- MONEY IN HALVES: the float holds just so many halves
theorem p148 : ((2 ^ 148 : Nat) : Int) = (2 : Int) ^ 148 := Int.natCast_pow 2 148
theorem a148 : ((2 : Int) ^ 148).natAbs = 2 ^ 148 := by
  rw [← p148]
  exact Int.natAbs_natCast _
theorem q148 : (0 : Int) < 2 ^ 148 := by
  rw [← p148]
  exact Int.ofNat_lt.mpr (Nat.two_pow_pos 148)
def mD (m : Int) (d : FP.Core.Datum) : Prop := ∃ (s : Bool) (c : Nat) (q : Int), d = .fin s c q ∧ -149 ≤ q ∧ (c = 0 → s = false) ∧ (c = 0 ∨ (2 ^ 23 ≤ c ∧ c < 2 ^ 24 ∧ -24 ≤ q ∧ q ≤ 20)) ∧ FP.Core.signed s (c * 2 ^ (q + 149).toNat) = m * 2 ^ 148
def hV (m : Int) (d : FP.Core.Datum) : Prop := ∃ (s : Bool) (c : Nat) (q : Int), d = .fin s c q ∧ -149 ≤ q ∧ FP.Core.signed s (c * 2 ^ (q + 149).toNat) = m * 2 ^ 148
theorem hV.neg {m : Int} {d : FP.Core.Datum} (h : hV m d) : hV (-m) (FP.Core.negate d) := by
  obtain ⟨s, c, q, rfl, h1, h2⟩ := h
  refine ⟨!s, c, q, rfl, h1, ?_⟩
  rw [Int.neg_mul, ← h2]
  cases s
  · simp only [FP.Core.signed, Bool.not_false, if_true, Bool.false_eq_true, if_false]
  · simp only [FP.Core.signed, Bool.not_true, if_true, Bool.false_eq_true, if_false, Int.neg_neg]
theorem round_exact {σ : Bool} {n : Nat} (hn : 0 < n) (h2 : n < 2 ^ 24) :
    ∃ (c d : Nat), FP.Core.round FP.Core.b32 (.fin σ (n * 2 ^ 148) (-149)) = .fin σ c ((d : Int) - 149) ∧ 2 ^ 23 ≤ c ∧ c < 2 ^ 24 ∧ 125 ≤ d ∧ d ≤ 169 ∧ c * 2 ^ d = n * 2 ^ 148 := by
  obtain ⟨U, hU⟩ : ∃ U, U = n * 2 ^ 148 := ⟨_, rfl⟩
  rw [← hU]
  have hUp : 0 < U := by rw [hU]; exact Nat.mul_pos hn (Nat.two_pow_pos _)
  obtain ⟨b1, b2⟩ := log2_pow_le hUp
  obtain ⟨l, hl⟩ : ∃ l, U.log2 = l := ⟨_, rfl⟩
  rw [hl] at b1 b2
  have hUge : 2 ^ 148 ≤ U := by
    rw [hU]
    have := Nat.mul_le_mul_right (2 ^ 148) (show 1 ≤ n by omega)
    omega
  have hUle : U < 2 ^ 172 := by
    rw [hU]
    have := Nat.mul_lt_mul_of_pos_right h2 (Nat.two_pow_pos 148)
    have e : (2 : Nat) ^ 172 = 2 ^ 24 * 2 ^ 148 := by decide
    omega
  have l1 : 148 ≤ l := by
    rcases Nat.lt_or_ge l 148 with q | q
    · have : 2 ^ (l + 1) ≤ 2 ^ 148 := Nat.pow_le_pow_right (by decide) (by omega)
      omega
    · exact q
  have l2 : l ≤ 171 := by
    rcases Nat.lt_or_ge 171 l with q | q
    · have h3 : 2 ^ 172 ≤ 2 ^ l := Nat.pow_le_pow_right (by decide) (by omega)
      omega
    · exact q
  obtain ⟨d, hd⟩ : ∃ d, l = d + 23 := ⟨l - 23, by omega⟩
  subst hd
  have hB : 0 < 2 ^ d := Nat.two_pow_pos d
  have e23 : 2 ^ (d + 23) = 2 ^ 23 * 2 ^ d := by rw [Nat.pow_add, Nat.mul_comm]
  have e24 : 2 ^ (d + 23 + 1) = 2 ^ 24 * 2 ^ d := by rw [Nat.add_assoc, Nat.pow_add, Nat.mul_comm]
  rw [e23] at b1
  rw [e24] at b2
  obtain ⟨k, hk⟩ : ∃ k, U = k * 2 ^ d := by
    refine ⟨n * 2 ^ (148 - d), ?_⟩
    rw [hU, Nat.mul_assoc, ← Nat.pow_add, show 148 - d + d = 148 by omega]
  have hnear : FP.Core.nearest U (2 ^ d) = k := by rw [hk]; exact FP.Core.nearest_exact k hB
  rw [round_units hUp hl rfl (by omega), hnear]
  rw [hk] at b1 b2
  have k1 : 2 ^ 23 ≤ k := Nat.le_of_mul_le_mul_right b1 hB
  have k2 : k < 2 ^ 24 := Nat.lt_of_mul_lt_mul_right b2
  unfold FP.Core.settle FP.Core.bound
  have hp : FP.Core.b32.p = 24 := rfl
  have hqm : FP.Core.b32.qmax = 104 := by decide
  rw [hp, hqm, if_pos k2, if_pos (by omega)]
  exact ⟨k, d, rfl, k1, k2, by omega, by omega, hk.symm⟩
theorem mD_sum {m k : Int} {x y : FP.Core.Datum} (hx : mD m x) (hy : hV k y) (hb : -(2 ^ 24) < m + k ∧ m + k < 2 ^ 24) : mD (m + k) (FP.Core.round FP.Core.b32 (FP.Core.exactSum x y)) := by
  obtain ⟨s, c, q, rfl, hq, hs, -, hc1⟩ := hx
  obtain ⟨t, d, r, rfl, hr, hd1⟩ := hy
  obtain ⟨e, he⟩ : ∃ e, e = min q r := ⟨_, rfl⟩
  obtain ⟨V, hV⟩ : ∃ V, V = FP.Core.sumUnits s c q t d r e := ⟨_, rfl⟩
  have hex : FP.Core.exactSum (.fin s c q) (.fin t d r) = .fin (FP.Core.sumSign s t V) V.natAbs e := by rw [hV, he]; rfl
  rw [hex]
  have e0 : -149 ≤ e := by omega
  rw [← FP.Core.round_inUnits (e := -149) (FP.Core.sumSign s t V) V.natAbs e0]
  obtain ⟨C, hC⟩ : ∃ C, C = c * 2 ^ (q + 149).toNat := ⟨_, rfl⟩
  obtain ⟨D, hD⟩ : ∃ D, D = d * 2 ^ (r + 149).toNat := ⟨_, rfl⟩
  obtain ⟨K, hK⟩ : ∃ K, K = 2 ^ (e + 149).toNat := ⟨_, rfl⟩
  have hKp : 0 < K := by rw [hK]; exact Nat.two_pow_pos _
  have eC : FP.Core.inUnits c q e * K = C := by
    rw [hC, hK]
    unfold FP.Core.inUnits
    rw [Nat.mul_assoc, ← Nat.pow_add, show (q - e).toNat + (e + 149).toNat = (q + 149).toNat by omega]
  have eD : FP.Core.inUnits d r e * K = D := by
    rw [hD, hK]
    unfold FP.Core.inUnits
    rw [Nat.mul_assoc, ← Nat.pow_add, show (r - e).toNat + (e + 149).toNat = (r + 149).toNat by omega]
  have eV : V * (K : Int) = FP.Core.signed s C + FP.Core.signed t D := by
    rw [hV]
    unfold FP.Core.sumUnits
    rw [Int.add_mul, ← FP.Core.signed_mul, ← FP.Core.signed_mul, eC, eD]
  obtain ⟨U, hU⟩ : ∃ U, U = FP.Core.inUnits V.natAbs e (-149) := ⟨_, rfl⟩
  have eVK : (U : Int) = (V * (K : Int)).natAbs := by
    rw [Int.natAbs_mul, hU]
    unfold FP.Core.inUnits
    rw [show (e - -149).toNat = (e + 149).toNat by omega, ← hK]
    simp
  rw [← hU]
  rw [← hC] at hc1
  rw [← hD] at hd1
  obtain ⟨Z, hZ⟩ : ∃ Z : Nat, Z = 2 ^ 148 := ⟨_, rfl⟩
  have hZi : (2 : Int) ^ 148 = ((Z : Nat) : Int) := by rw [hZ]; exact p148.symm
  have hZp : (0 : Int) < ((Z : Nat) : Int) := by rw [← hZi]; exact q148
  rw [hZi] at hc1 hd1
  have eM : V * (K : Int) = (m + k) * (Z : Int) := by rw [eV, hc1, hd1, Int.add_mul]
  have eU : U = (m + k).natAbs * Z := by
    have h : (U : Int) = (((m + k).natAbs * Z : Nat) : Int) := by
      rw [eVK, eM, Int.natAbs_mul, Int.natAbs_natCast]
    exact Int.ofNat_inj.mp h
  by_cases hm0 : m + k = 0
  · have hV0 : V = 0 := by
      have h1 : V * (K : Int) = 0 := by rw [eM, hm0, Int.zero_mul]
      rcases Int.mul_eq_zero.mp h1 with h | h
      · exact h
      · omega
    have hsg : FP.Core.sumSign s t V = false := by
      unfold FP.Core.sumSign
      rw [if_pos hV0]
      by_cases hc0 : c = 0
      · rw [hs hc0]
        rfl
      · have hCp : 0 < C := by rw [hC]; exact Nat.mul_pos (by omega) (Nat.two_pow_pos _)
        rw [hV0] at eV
        clear hc1 hd1 eM eU eVK
        cases s <;> cases t <;> first | rfl | (simp only [FP.Core.signed, if_true, Bool.false_eq_true, if_false] at eV; omega)
    have hU0 : U = 0 := by rw [eU, hm0, Int.natAbs_zero, Nat.zero_mul]
    rw [hU0, hsg]
    refine ⟨false, 0, -149, ?_, by omega, fun _ => rfl, Or.inl rfl, by rw [hm0]; simp [FP.Core.signed]⟩
    show FP.Core.roundRatio FP.Core.b32 false 0 1 (-149) = _
    unfold FP.Core.roundRatio
    rw [if_pos rfl, FP.Core.qmin_b32]
  · have hre := round_exact (σ := FP.Core.sumSign s t V) (n := (m + k).natAbs) (by clear hc1 hd1 eM eU eVK eV eC eD hZ hZi; omega) (by clear hc1 hd1 eM eU eVK eV eC eD hZ hZi; omega)
    rw [← hZ] at hre
    obtain ⟨c', d', h1, h2, h3, h4, h5, h6⟩ := hre
    have e9 : ((d' : Int) - 149 + 149).toNat = d' := by omega
    rw [eU]
    refine ⟨_, c', (d' : Int) - 149, h1, by omega, fun h => absurd h (by omega), Or.inr ⟨h2, h3, by omega, by omega⟩, ?_⟩
    rw [e9, h6, hZi]
    have hV0 : ¬ V = 0 := fun h => hm0 (by
      rw [h, Int.zero_mul] at eM
      rcases Int.mul_eq_zero.mp eM.symm with w | w
      · exact w
      · exact absurd w (Int.ne_of_gt hZp))
    have hsg : FP.Core.sumSign s t V = decide (V < 0) := by
      unfold FP.Core.sumSign
      rw [if_neg hV0]
    have hKi : (0 : Int) < (K : Int) := by omega
    rw [hsg]
    by_cases hneg : m + k < 0
    · have hVn : V < 0 := by
        rcases Int.lt_or_le V 0 with w | w
        · exact w
        · have h7 : 0 ≤ V * (K : Int) := Int.mul_nonneg w (by omega)
          have h8 : (m + k) * (Z : Int) < 0 := Int.mul_neg_of_neg_of_pos hneg hZp
          rw [eM] at h7
          exact absurd h7 (Int.not_le.mpr h8)
      rw [decide_eq_true hVn]
      show -(((m + k).natAbs * Z : Nat) : Int) = _
      rw [Int.natCast_mul, ← Int.neg_mul]
      have h9 : -((m + k).natAbs : Int) = m + k := by omega
      rw [h9]
    · have hVn : ¬ V < 0 := fun w => by
        have h7 : V * (K : Int) < 0 := Int.mul_neg_of_neg_of_pos w hKi
        have h8 : 0 ≤ (m + k) * (Z : Int) := Int.mul_nonneg (Int.not_lt.mp hneg) (Int.le_of_lt hZp)
        rw [eM] at h7
        exact absurd h7 (Int.not_lt.mpr h8)
      rw [decide_eq_false hVn]
      show (((m + k).natAbs * Z : Nat) : Int) = _
      rw [Int.natCast_mul]
      have h9 : ((m + k).natAbs : Int) = m + k := by omega
      rw [h9]
def mF (m : Int) (b : UInt32) : Prop := mD m (FP.Core.val32 b)
theorem mF_zero : mF 0 0 := ⟨false, 0, -149, by rw [FP.Core.val32_zero, FP.Core.qmin_b32], by omega, fun _ => rfl, Or.inl rfl, by simp [FP.Core.signed]⟩
theorem mF_add {m k : Int} {b r : UInt32} (hm : mF m b) (hr : hV k (FP.Core.val32 r)) (hb : -(2 ^ 24) < m + k ∧ m + k < 2 ^ 24) : mF (m + k) (FP.fadd b r) := by
  unfold mF
  rw [show FP.fadd b r = FP.Core.fadd b r from rfl, FP.Core.val32_fadd]
  exact mD_sum hm hr hb
theorem mF_sub {m k : Int} {b r : UInt32} (hm : mF m b) (hr : hV k (FP.Core.val32 r)) (hb : -(2 ^ 24) < m - k ∧ m - k < 2 ^ 24) : mF (m - k) (FP.fsub b r) := by
  unfold mF
  rw [show FP.fsub b r = FP.Core.fsub b r from rfl, FP.Core.val32_fsub]
  exact mD_sum hm hr.neg (by rw [← Int.sub_eq_add_neg]; exact hb)
/-- what units are worth, in halves -/
theorem worth_ex {u q : Int32} (h1 : 1 ≤ u.toInt ∧ u.toInt ≤ 1000) (h2 : 1 ≤ q.toInt ∧ q.toInt ≤ 200) : ∃ (c : Nat) (e : Int) (i : Nat), FP.Core.val32 (fWorth u q) = .fin false c e ∧ -148 ≤ e ∧ 2 ^ 23 ≤ c ∧ c < 2 ^ 24 ∧ e ≤ 104 ∧ c * 2 ^ (e + 149).toNat = i * 2 ^ 149 ∧ u.toInt * q.toInt = (i : Int) := by
  have p1 : 1 ≤ u.toInt * q.toInt := by
    have := Int.mul_le_mul h1.1 h2.1 (by omega) (by omega)
    omega
  have p2 : u.toInt * q.toInt ≤ 200000 := by
    have := Int.mul_le_mul h1.2 h2.2 (by omega) (by omega)
    omega
  have sa : FP.Core.Small24 u.toInt64 := by unfold FP.Core.Small24; rw [toI64]; omega
  have sb : FP.Core.Small24 q.toInt64 := by unfold FP.Core.Small24; rw [toI64]; omega
  have za : u.toInt64 ≠ 0 := fun e => by
    have h := congrArg Int64.toInt e
    rw [toI64, show (0 : Int64).toInt = 0 by decide] at h
    omega
  have zb : q.toInt64 ≠ 0 := fun e => by
    have h := congrArg Int64.toInt e
    rw [toI64, show (0 : Int64).toInt = 0 by decide] at h
    omega
  have hm : fWorth u q = FP.Core.l2f (u.toInt64 * q.toInt64) := by
    show FP.Core.fmul (FP.Core.i2f u) (FP.Core.i2f q) = _
    rw [FP.Core.i2f_l2f, FP.Core.i2f_l2f]
    exact FP.Core.fmul_l2f sa sb za zb (by rw [toI64, toI64]; omega) (by rw [toI64, toI64]; omega)
  have hi : (u.toInt64 * q.toInt64).toInt = u.toInt * q.toInt := by
    rw [FP.Core.int64_mul (by rw [toI64, toI64]; omega) (by rw [toI64, toI64]; omega), toI64, toI64]
  have sp : FP.Core.Small24 (u.toInt64 * q.toInt64) := by unfold FP.Core.Small24; rw [hi]; omega
  have hw := FP.Core.l2f_whole sp
  obtain ⟨c, e, hv⟩ := FP.Core.l2f_shape (u.toInt64 * q.toInt64)
  rw [hi, decide_eq_false (by omega)] at hv
  have hf := FP.Core.val32_fits (FP.Core.l2f (u.toInt64 * q.toInt64))
  have hz := FP.Core.whole_zval FP.Core.good_b32 hf hw
  rw [hv] at hf hz
  rw [zv_fin, hi, FP.Core.qmin_b32] at hz
  obtain ⟨f1, f2, f3, f4⟩ := hf
  have hqm : FP.Core.b32.qmax = 104 := by decide
  have hp : FP.Core.b32.p = 24 := rfl
  rw [hp] at f1
  rw [FP.Core.qmin_b32] at f2 f4
  rw [hqm] at f3
  rw [FP.Core.tails_b32] at f4
  obtain ⟨i, hi9⟩ : ∃ i : Nat, u.toInt * q.toInt = (i : Int) := ⟨(u.toInt * q.toInt).toNat, by omega⟩
  rw [hi9] at hz p1 p2
  have hz2 : c * 2 ^ (e + 149).toNat = i * 2 ^ 149 := by
    have : ((c * 2 ^ (e + 149).toNat : Nat) : Int) = ((i * 2 ^ 149 : Nat) : Int) := by
      rw [Int.natCast_mul i]
      exact hz
    exact Int.ofNat_inj.mp this
  have he : -148 ≤ e := by
    rcases Int.lt_or_le e (-148) with w | w
    · have e9 : e = -149 := by omega
      subst e9
      rw [show ((-149 : Int) + 149).toNat = 0 by decide, Nat.pow_zero, Nat.mul_one] at hz2
      have b1 : (2 : Nat) ^ 24 < 2 ^ 149 := by decide
      have b2 : 1 * 2 ^ 149 ≤ i * 2 ^ 149 := Nat.mul_le_mul_right _ (by omega)
      omega
    · exact w
  rw [hm]
  refine ⟨c, e, i, hv, he, ?_, f1, f3, hz2, hi9⟩
  rcases f4 with w | w
  · omega
  · exact w
theorem worth_hV {u q : Int32} (h1 : 1 ≤ u.toInt ∧ u.toInt ≤ 1000) (h2 : 1 ≤ q.toInt ∧ q.toInt ≤ 200) : hV (2 * u.toInt * q.toInt) (FP.Core.val32 (fWorth u q)) := by
  obtain ⟨c, e, i, hv, he, c1, c2, e2, hz, hi⟩ := worth_ex h1 h2
  refine ⟨false, c, e, hv, by omega, ?_⟩
  show ((c * 2 ^ (e + 149).toNat : Nat) : Int) = _
  rw [hz, Int.mul_assoc 2, hi, show (2 : Nat) ^ 149 = 2 * 2 ^ 148 by decide, Int.natCast_mul, Int.natCast_mul, p148, ← Int.mul_assoc, Int.mul_comm (i : Int)]
  rfl
theorem half_hV {u q : Int32} (h1 : 1 ≤ u.toInt ∧ u.toInt ≤ 1000) (h2 : 1 ≤ q.toInt ∧ q.toInt ≤ 200) : hV (u.toInt * q.toInt) (FP.Core.val32 (FP.fmul (fWorth u q) 1056964608)) := by
  obtain ⟨c, e, i, hv, he, c1, c2, e2, hz, hi⟩ := worth_ex h1 h2
  have hm := mul_pow (r := -1) (y := 1056964608) hv c1 c2 (by rw [v_half]; rfl) (by omega) (by omega)
  have hz2 : c * 2 ^ (e + -1 + 149).toNat = i * 2 ^ 148 := by
    have e9 : 2 ^ (e + 149).toNat = 2 ^ (e + -1 + 149).toNat * 2 := by
      rw [show (e + 149).toNat = (e + -1 + 149).toNat + 1 by omega, Nat.pow_succ]
    rw [e9, show (2 : Nat) ^ 149 = 2 ^ 148 * 2 by decide, ← Nat.mul_assoc, ← Nat.mul_assoc] at hz
    omega
  refine ⟨false, c, e + -1, hm, by omega, ?_⟩
  show ((c * 2 ^ (e + -1 + 149).toNat : Nat) : Int) = _
  rw [hz2, hi, Int.natCast_mul, p148]
theorem mul_le_both {a b A B : Int} (h1 : 0 ≤ a ∧ a ≤ A) (h2 : 0 ≤ b ∧ b ≤ B) : 0 ≤ a * b ∧ a * b ≤ A * B := ⟨Int.mul_nonneg h1.1 h2.1, Int.mul_le_mul h1.2 h2.2 h2.1 (by omega)⟩
/-- an hour's money: what is missing bought, what is too much sold for half -/
theorem mF_hour {mv : Int32} {mo : UInt32} {sm sd q : Int32} {X : Int} (hm : mF mv.toInt mo) (hX : -X ≤ mv.toInt ∧ mv.toInt ≤ X) (hX2 : X ≤ 10000000) (a : 0 ≤ sm.toInt ∧ sm.toInt ≤ 420) (b : 0 ≤ sd.toInt ∧ sd.toInt ≤ 1000) (c : 1 ≤ q.toInt ∧ q.toInt ≤ 20) :
    (0 < sd - sm → mF (mv + (-2 * (sd - sm)) * q).toInt (xMo mo sm sd q) ∧ -(X + 40000) ≤ (mv + (-2 * (sd - sm)) * q).toInt ∧ (mv + (-2 * (sd - sm)) * q).toInt ≤ X + 40000) ∧
    (sd - sm ≤ 0 → mF (mv + (-(sd - sm)) * q).toInt (xMo mo sm sd q) ∧ -(X + 40000) ≤ (mv + (-(sd - sm)) * q).toInt ∧ (mv + (-(sd - sm)) * q).toInt ≤ X + 40000) := by
  have e1 : (sd - sm).toInt = sd.toInt - sm.toInt := i32_sub (by omega) (by omega)
  have e2 : (sm - sd).toInt = sm.toInt - sd.toInt := i32_sub (by omega) (by omega)
  have e3 : (-2 : Int32).toInt = -2 := by decide
  refine ⟨fun w => ?_, fun w => ?_⟩
  · rw [Int32.lt_iff_toInt_lt, e1, toI_0] at w
    have p := mul_le_both (a := sd.toInt - sm.toInt) (b := q.toInt) (A := 1000) (B := 20) (by omega) (by omega)
    have f1 : (-2 * (sd - sm)).toInt = -2 * (sd.toInt - sm.toInt) := by rw [i32_mul (by rw [e3, e1]; omega) (by rw [e3, e1]; omega), e1, e3]
    have f0 : -2 * (sd.toInt - sm.toInt) * q.toInt = -(2 * ((sd.toInt - sm.toInt) * q.toInt)) := by rw [Int.mul_assoc]; omega
    have f2 : (-2 * (sd - sm) * q).toInt = -(2 * ((sd.toInt - sm.toInt) * q.toInt)) := by rw [i32_mul (by rw [f1, f0]; omega) (by rw [f1, f0]; omega), f1, f0]
    have f3 : (mv + -2 * (sd - sm) * q).toInt = mv.toInt - 2 * ((sd.toInt - sm.toInt) * q.toInt) := by rw [i32_add (by omega) (by omega), f2]; omega
    refine ⟨?_, by omega, by omega⟩
    rw [f3]
    have hneg : (-(sm - sd)).toInt = sd.toInt - sm.toInt := by rw [Int32.neg_sub, e1]
    have hw := worth_hV (u := -(sm - sd)) (q := q) (by omega) (by omega)
    rw [hneg, Int.mul_assoc] at hw
    unfold xMo
    rw [if_neg (by rw [Int32.le_iff_toInt_le, e2, toI_0]; omega)]
    exact mF_sub hm hw (by omega)
  · rw [Int32.le_iff_toInt_le, e1, toI_0] at w
    have p := mul_le_both (a := sm.toInt - sd.toInt) (b := q.toInt) (A := 420) (B := 20) (by omega) (by omega)
    have f1 : (-(sd - sm)).toInt = sm.toInt - sd.toInt := by rw [Int32.neg_sub, e2]
    have f2 : (-(sd - sm) * q).toInt = (sm.toInt - sd.toInt) * q.toInt := by rw [i32_mul (by rw [f1]; omega) (by rw [f1]; omega), f1]
    have f3 : (mv + -(sd - sm) * q).toInt = mv.toInt + (sm.toInt - sd.toInt) * q.toInt := by rw [i32_add (by omega) (by omega), f2]
    refine ⟨?_, by omega, by omega⟩
    rw [f3]
    unfold xMo
    rw [if_pos (by rw [Int32.le_iff_toInt_le, e2, toI_0]; omega)]
    by_cases g : sm - sd ≤ 0
    · rw [if_pos g]
      rw [Int32.le_iff_toInt_le, e2, toI_0] at g
      have z : sm.toInt - sd.toInt = 0 := by omega
      rw [z, Int.zero_mul, Int.add_zero]
      exact hm
    · rw [if_neg g]
      rw [Int32.le_iff_toInt_le, e2, toI_0] at g
      have hw := half_hV (u := sm - sd) (q := q) (by omega) (by omega)
      rw [e2] at hw
      exact mF_add hm hw (by omega)
/-- a sale's money -/
theorem mF_sale {mv : Int32} {mo : UInt32} {u q : Int32} {X : Int} (hm : mF mv.toInt mo) (hX : -X ≤ mv.toInt ∧ mv.toInt ≤ X) (hX2 : X ≤ 10000000) (a : 1 ≤ u.toInt ∧ u.toInt ≤ 100) (c : 1 ≤ q.toInt ∧ q.toInt ≤ 20) :
    mF (mv + 2 * u * q).toInt (FP.fadd mo (fWorth u q)) ∧ -(X + 4000) ≤ (mv + 2 * u * q).toInt ∧ (mv + 2 * u * q).toInt ≤ X + 4000 := by
  have e3 : (2 : Int32).toInt = 2 := by decide
  have p := mul_le_both (a := u.toInt) (b := q.toInt) (A := 100) (B := 20) (by omega) (by omega)
  have f1 : (2 * u).toInt = 2 * u.toInt := by rw [i32_mul (by rw [e3]; omega) (by rw [e3]; omega), e3]
  have f0 : 2 * u.toInt * q.toInt = 2 * (u.toInt * q.toInt) := by rw [Int.mul_assoc]
  have f2 : (2 * u * q).toInt = 2 * (u.toInt * q.toInt) := by rw [i32_mul (by rw [f1, f0]; omega) (by rw [f1, f0]; omega), f1, f0]
  have f3 : (mv + 2 * u * q).toInt = mv.toInt + 2 * (u.toInt * q.toInt) := by rw [i32_add (by omega) (by omega), f2]
  refine ⟨?_, by omega, by omega⟩
  rw [f3, ← f0]
  exact mF_add hm (worth_hV (by omega) (by omega)) (by omega)
