-- MONEY AS A FLOAT: a multiple of 1/2, at most 2^43, zero only as +0
theorem log2_pow_le {U : Nat} (h : 0 < U) : 2 ^ U.log2 ≤ U ∧ U < 2 ^ (U.log2 + 1) := ⟨Nat.log2_self_le (by omega), Nat.lt_log2_self⟩
theorem leading_one {U : Nat} (h : 0 < U) : FP.Core.leading U 1 = (U.log2 : Int) := by
  unfold FP.Core.leading
  have h1 : Nat.log2 1 = 0 := by decide
  have h2 := (log2_pow_le h).1
  rw [h1]
  have e1 : ((U.log2 : Int) - ((0 : Nat) : Int)).toNat = U.log2 := by omega
  have e2 : (-((U.log2 : Int) - ((0 : Nat) : Int))).toNat = 0 := by omega
  show (if 1 * 2 ^ ((U.log2 : Int) - ((0 : Nat) : Int)).toNat ≤ U * 2 ^ (-((U.log2 : Int) - ((0 : Nat) : Int))).toNat then (U.log2 : Int) - ((0 : Nat) : Int) else (U.log2 : Int) - ((0 : Nat) : Int) - 1) = (U.log2 : Int)
  rw [e1, e2, if_pos (by omega)]
  omega
theorem round_units {σ : Bool} {U l d : Nat} (hU : 0 < U) (hl : U.log2 = l) (hd : l = d + 23) (h2 : d ≤ 200) :
    FP.Core.round FP.Core.b32 (.fin σ U (-149)) = FP.Core.settle FP.Core.b32 σ (FP.Core.nearest U (2 ^ d)) ((d : Int) - 149) := by
  show FP.Core.roundRatio FP.Core.b32 σ U 1 (-149) = _
  unfold FP.Core.roundRatio
  rw [if_neg (by omega)]
  have hq : FP.Core.quantum FP.Core.b32 U 1 (-149) = (d : Int) - 149 := by
    unfold FP.Core.quantum
    rw [leading_one hU, hl, FP.Core.qmin_b32]
    have hp : (FP.Core.b32.p : Int) = 24 := rfl
    rw [hp]
    omega
  rw [hq]
  unfold FP.Core.roundAt FP.Core.unitsNum FP.Core.unitsDen
  have e1 : ((-149 : Int) - ((d : Int) - 149)).toNat = 0 := by omega
  have e2 : (((d : Int) - 149) - (-149)).toNat = d := by omega
  rw [e1, e2]
  simp
theorem round_good {σ : Bool} {U : Nat} (hU : 0 < U) (h1 : 2 ^ 148 ∣ U) (h2 : U ≤ 2 ^ 192 + 2 ^ 167) :
    ∃ (c d : Nat), FP.Core.round FP.Core.b32 (.fin σ U (-149)) = .fin σ c ((d : Int) - 149) ∧ 2 ^ 23 ≤ c ∧ c < 2 ^ 24 ∧ 125 ≤ d ∧ d ≤ 169 ∧ 2 ^ 148 ∣ c * 2 ^ d ∧ c * 2 ^ d ≤ 2 ^ 192 := by
  obtain ⟨b1, b2⟩ := log2_pow_le hU
  obtain ⟨l, hl⟩ : ∃ l, U.log2 = l := ⟨_, rfl⟩
  rw [hl] at b1 b2
  have hUge : 2 ^ 148 ≤ U := Nat.le_of_dvd hU h1
  have l1 : 148 ≤ l := by
    rcases Nat.lt_or_ge l 148 with q | q
    · have : 2 ^ (l + 1) ≤ 2 ^ 148 := Nat.pow_le_pow_right (by decide) (by omega)
      omega
    · exact q
  have l2 : l ≤ 192 := by
    rcases Nat.lt_or_ge 192 l with q | q
    · have h3 : 2 ^ 193 ≤ 2 ^ l := Nat.pow_le_pow_right (by decide) (by omega)
      have h4 : (2 : Nat) ^ 193 = 2 * 2 ^ 192 := by decide
      have h5 : (2 : Nat) ^ 167 < 2 ^ 192 := by decide
      omega
    · exact q
  obtain ⟨d, hd⟩ : ∃ d, l = d + 23 := ⟨l - 23, by omega⟩
  subst hd
  have hB : 0 < 2 ^ d := Nat.two_pow_pos d
  have e23 : 2 ^ (d + 23) = 2 ^ 23 * 2 ^ d := by rw [Nat.pow_add, Nat.mul_comm]
  have e24 : 2 ^ (d + 23 + 1) = 2 ^ 24 * 2 ^ d := by rw [Nat.add_assoc, Nat.pow_add, Nat.mul_comm]
  rw [e23] at b1
  rw [e24] at b2
  have n1 : 2 ^ 23 ≤ FP.Core.nearest U (2 ^ d) := FP.Core.nearest_ge hB b1
  have n2 : FP.Core.nearest U (2 ^ d) ≤ 2 ^ 24 := FP.Core.nearest_le hB (by omega)
  have hdv : 2 ^ 148 ∣ FP.Core.nearest U (2 ^ d) * 2 ^ d := by
    rcases Nat.lt_or_ge d 148 with q | q
    · obtain ⟨k, hk⟩ := Nat.dvd_trans (Nat.pow_dvd_pow 2 (Nat.le_of_lt q)) h1
      have : FP.Core.nearest U (2 ^ d) = k := by
        rw [hk, Nat.mul_comm (2 ^ d) k]
        exact FP.Core.nearest_exact k hB
      rw [this, Nat.mul_comm, ← hk]
      exact h1
    · exact Nat.dvd_trans (Nat.pow_dvd_pow 2 q) (Nat.dvd_mul_left _ _)
  have hle : FP.Core.nearest U (2 ^ d) * 2 ^ d ≤ 2 ^ 192 := by
    rcases Nat.lt_or_ge d 169 with q | q
    · calc FP.Core.nearest U (2 ^ d) * 2 ^ d ≤ 2 ^ 24 * 2 ^ d := Nat.mul_le_mul_right _ n2
        _ = 2 ^ (24 + d) := (Nat.pow_add 2 24 d).symm
        _ ≤ 2 ^ 192 := Nat.pow_le_pow_right (by decide) (by omega)
    · have hd9 : d = 169 := by omega
      subst hd9
      have e : FP.Core.nearest U (2 ^ 169) = 2 ^ 23 := by
        have p1 : (2 : Nat) ^ 192 = 2 ^ 23 * 2 ^ 169 := by decide
        have p2 : (2 : Nat) ^ 169 = 4 * 2 ^ 167 := by decide
        have p3 : (0 : Nat) < 2 ^ 167 := by decide
        have hdiv : U / 2 ^ 169 = 2 ^ 23 := by
          rw [Nat.div_eq_iff (by omega)]
          omega
        have hmod : U % 2 ^ 169 = U - 2 ^ 23 * 2 ^ 169 := by
          have h := Nat.div_add_mod U (2 ^ 169)
          rw [hdiv] at h
          omega
        unfold FP.Core.nearest
        rw [hmod, hdiv, if_pos (by omega)]
      rw [e]
      decide
  rw [round_units hU hl rfl (by omega)]
  unfold FP.Core.settle FP.Core.bound
  have hp : FP.Core.b32.p = 24 := rfl
  have hqm : FP.Core.b32.qmax = 104 := by decide
  have htl : FP.Core.b32.tails = 2 ^ 23 := FP.Core.tails_b32
  rw [hp, hqm, htl]
  by_cases hc : FP.Core.nearest U (2 ^ d) < 2 ^ 24
  · rw [if_pos hc, if_pos (by omega)]
    exact ⟨_, d, rfl, n1, hc, by omega, by omega, hdv, hle⟩
  · have hc2 : FP.Core.nearest U (2 ^ d) = 2 ^ 24 := by omega
    rw [if_neg hc, if_pos (by omega)]
    have hd1 : d + 1 ≤ 169 := by
      rcases Nat.lt_or_ge d 169 with q | q
      · omega
      · have hd9 : d = 169 := by omega
        subst hd9
        rw [hc2] at hle
        exact absurd hle (by decide)
    refine ⟨2 ^ 23, d + 1, ?_, Nat.le_refl _, by decide, by omega, hd1, ?_, ?_⟩
    · rw [show ((d + 1 : Nat) : Int) - 149 = (d : Int) - 149 + 1 by omega]
    · have e : 2 ^ 23 * 2 ^ (d + 1) = 2 ^ 24 * 2 ^ d := by rw [Nat.pow_succ]; omega
      rw [e, ← hc2]
      exact hdv
    · have e : 2 ^ 23 * 2 ^ (d + 1) = 2 ^ 24 * 2 ^ d := by rw [Nat.pow_succ]; omega
      rw [e, ← hc2]
      exact hle
/-- a datum of whole halves, at most M times 2^-149 -/
def hG (d : FP.Core.Datum) (M : Nat) : Prop := ∃ (s : Bool) (c : Nat) (q : Int), d = .fin s c q ∧ -149 ≤ q ∧ 2 ^ 148 ∣ c * 2 ^ (q + 149).toNat ∧ c * 2 ^ (q + 149).toNat ≤ M
theorem hG.neg {d : FP.Core.Datum} {M : Nat} (h : hG d M) : hG (FP.Core.negate d) M := by
  obtain ⟨s, c, q, rfl, h1, h2, h3⟩ := h
  exact ⟨!s, c, q, rfl, h1, h2, h3⟩
/-- what the money is -/
def gD (d : FP.Core.Datum) : Prop := ∃ (s : Bool) (c : Nat) (q : Int), d = .fin s c q ∧ -149 ≤ q ∧ (c = 0 → s = false) ∧ (c = 0 ∨ (2 ^ 23 ≤ c ∧ c < 2 ^ 24 ∧ -24 ≤ q ∧ q ≤ 20)) ∧ 2 ^ 148 ∣ c * 2 ^ (q + 149).toNat ∧ c * 2 ^ (q + 149).toNat ≤ 2 ^ 192
theorem gD_sum {x y : FP.Core.Datum} (hx : gD x) (hy : hG y (2 ^ 167)) : gD (FP.Core.round FP.Core.b32 (FP.Core.exactSum x y)) := by
  obtain ⟨s, c, q, rfl, hq, hs, -, hc1, hc2⟩ := hx
  obtain ⟨t, d, r, rfl, hr, hd1, hd2⟩ := hy
  obtain ⟨e, he⟩ : ∃ e, e = min q r := ⟨_, rfl⟩
  obtain ⟨V, hV⟩ : ∃ V, V = FP.Core.sumUnits s c q t d r e := ⟨_, rfl⟩
  have hex : FP.Core.exactSum (.fin s c q) (.fin t d r) = .fin (FP.Core.sumSign s t V) V.natAbs e := by rw [hV, he]; rfl
  rw [hex]
  have e0 : -149 ≤ e := by omega
  rw [← FP.Core.round_inUnits (e := -149) (FP.Core.sumSign s t V) V.natAbs e0]
  obtain ⟨C, hC⟩ : ∃ C, C = c * 2 ^ (q + 149).toNat := ⟨_, rfl⟩
  obtain ⟨D, hD⟩ : ∃ D, D = d * 2 ^ (r + 149).toNat := ⟨_, rfl⟩
  obtain ⟨K, hK⟩ : ∃ K, K = 2 ^ (e + 149).toNat := ⟨_, rfl⟩
  have hKp : 0 < K := by rw [hK]; exact Nat.two_pow_pos _
  have eC : FP.Core.inUnits c q e * K = C := by
    rw [hC, hK]
    unfold FP.Core.inUnits
    rw [Nat.mul_assoc, ← Nat.pow_add, show (q - e).toNat + (e + 149).toNat = (q + 149).toNat by omega]
  have eD : FP.Core.inUnits d r e * K = D := by
    rw [hD, hK]
    unfold FP.Core.inUnits
    rw [Nat.mul_assoc, ← Nat.pow_add, show (r - e).toNat + (e + 149).toNat = (r + 149).toNat by omega]
  have eV : V * (K : Int) = FP.Core.signed s C + FP.Core.signed t D := by
    rw [hV]
    unfold FP.Core.sumUnits
    rw [Int.add_mul, ← FP.Core.signed_mul, ← FP.Core.signed_mul, eC, eD]
  obtain ⟨U, hU⟩ : ∃ U, U = FP.Core.inUnits V.natAbs e (-149) := ⟨_, rfl⟩
  have eU : (U : Int) = (FP.Core.signed s C + FP.Core.signed t D).natAbs := by
    rw [← eV, Int.natAbs_mul, hU]
    unfold FP.Core.inUnits
    rw [show (e - -149).toNat = (e + 149).toNat by omega, ← hK]
    simp
  rw [← hU]
  rw [← hC] at hc1 hc2
  rw [← hD] at hd1 hd2
  by_cases hU0 : U = 0
  · have hV0 : V = 0 := by
      have h1 : V * (K : Int) = 0 := by rw [eV]; omega
      rcases Int.mul_eq_zero.mp h1 with h | h
      · exact h
      · omega
    have hsg : FP.Core.sumSign s t V = false := by
      unfold FP.Core.sumSign
      rw [if_pos hV0]
      by_cases hc0 : c = 0
      · rw [hs hc0]
        rfl
      · have hCp : 0 < C := by rw [hC]; exact Nat.mul_pos (by omega) (Nat.two_pow_pos _)
        rw [hV0] at eV
        cases s <;> cases t <;> first | rfl | (simp only [FP.Core.signed, if_true, Bool.false_eq_true, if_false] at eV; omega)
    rw [hU0, hsg]
    refine ⟨false, 0, -149, ?_, by omega, fun _ => rfl, Or.inl rfl, by simp, by simp⟩
    show FP.Core.roundRatio FP.Core.b32 false 0 1 (-149) = _
    unfold FP.Core.roundRatio
    rw [if_pos rfl, FP.Core.qmin_b32]
  · have hdvd : 2 ^ 148 ∣ U := by
      have hU2 : U = C + D ∨ U = C - D ∨ U = D - C := by
        clear hc1 hc2 hd1 hd2
        cases s <;> cases t <;> simp only [FP.Core.signed, if_true, Bool.false_eq_true, if_false] at eU <;> omega
      rcases hU2 with h | h | h
      · rw [h]; exact Nat.dvd_add hc1 hd1
      · rw [h]; exact Nat.dvd_sub hc1 hd1
      · rw [h]; exact Nat.dvd_sub hd1 hc1
    have hle : U ≤ 2 ^ 192 + 2 ^ 167 := by
      cases s <;> cases t <;> simp only [FP.Core.signed, if_true, Bool.false_eq_true, if_false] at eU <;> omega
    obtain ⟨c', d', h1, h2, h3, h4, h5, h6, h7⟩ := round_good (σ := FP.Core.sumSign s t V) (by omega) hdvd hle
    have e9 : ((d' : Int) - 149 + 149).toNat = d' := by omega
    exact ⟨_, c', (d' : Int) - 149, h1, by omega, fun h => absurd h (by omega), Or.inr ⟨h2, h3, by omega, by omega⟩, by rw [e9]; exact h6, by rw [e9]; exact h7⟩
def gF (b : UInt32) : Prop := gD (FP.Core.val32 b)
theorem gF.fin {b : UInt32} (h : gF b) : FP.Core.FFin b := by
  obtain ⟨s, c, q, h1, -⟩ := h
  exact ⟨s, c, q, h1⟩
theorem gF_zero : gF 0 := ⟨false, 0, -149, by rw [FP.Core.val32_zero, FP.Core.qmin_b32], by omega, fun _ => rfl, Or.inl rfl, by simp, by simp⟩
theorem gF_add {m r : UInt32} (hm : gF m) (hr : hG (FP.Core.val32 r) (2 ^ 167)) : gF (FP.fadd m r) := by
  unfold gF
  rw [show FP.fadd m r = FP.Core.fadd m r from rfl, FP.Core.val32_fadd]
  exact gD_sum hm hr
theorem gF_sub {m r : UInt32} (hm : gF m) (hr : hG (FP.Core.val32 r) (2 ^ 167)) : gF (FP.fsub m r) := by
  unfold gF
  rw [show FP.fsub m r = FP.Core.fsub m r from rfl, FP.Core.val32_fsub]
  exact gD_sum hm hr.neg
