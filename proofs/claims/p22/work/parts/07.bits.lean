-- THE BITS OF A GOOD FLOAT
theorem nx_or (a b : Nat) : nI a ||| nI b = nI (a ||| b) := by
  apply Int32.toBitVec_inj.1
  show BitVec.ofNat 32 a ||| BitVec.ofNat 32 b = BitVec.ofNat 32 (a ||| b)
  apply BitVec.eq_of_getLsbD_eq
  intro i hi
  simp [hi]
theorem nx_add {a b k : Nat} (h : b < 2 ^ k) : nI (a * 2 ^ k) ||| nI b = nI (a * 2 ^ k + b) := by
  rw [nx_or, ← Nat.shiftLeft_eq, Nat.shiftLeft_add_eq_or_of_lt h]
theorem sh23 : ∀ n, n < 256 → nI n <<< ((23 : Int32) &&& 31) = nI (n * 2 ^ 23) := by decide +kernel
/-- c * 2^q as a float -/
def szf (c : Nat) (q : Int) : UInt32 := FP.Core.of32 (.fin false c q)
theorem fitc {c : Nat} {q : Int} (s : Bool) (h1 : 2 ^ 23 ≤ c) (h2 : c < 2 ^ 24) (h3 : -149 ≤ q) (h4 : q ≤ 104) : FP.Core.fits FP.Core.b32 (.fin s c q) := by
  have hqm : FP.Core.b32.qmax = 104 := by decide
  refine ⟨h2, by rw [FP.Core.qmin_b32]; exact h3, by rw [hqm]; exact h4, Or.inr (by rw [FP.Core.tails_b32]; exact h1)⟩
theorem val_szf {c : Nat} {q : Int} (h1 : 2 ^ 23 ≤ c) (h2 : c < 2 ^ 24) (h3 : -149 ≤ q) (h4 : q ≤ 104) : FP.Core.val32 (szf c q) = .fin false c q := FP.Core.val32_of32 (fitc false h1 h2 h3 h4)
theorem szf_of {b : UInt32} {c : Nat} {q : Int} (h : FP.Core.val32 b = .fin false c q) : b = szf c q := by
  unfold szf
  rw [← h, FP.Core.of32_val32 (by rw [h]; exact FP.Core.Datum.noConfusion)]
theorem zv_fin (s : Bool) (c : Nat) (q : Int) : FP.Core.zval FP.Core.b32 (.fin s c q) = FP.Core.signed s (c * 2 ^ (q + 149).toNat) := by
  show FP.Core.signed s (c * 2 ^ (q - FP.Core.b32.qmin).toNat) = _
  rw [FP.Core.qmin_b32, show q - -149 = q + 149 by omega]
theorem fc_lt {x y : UInt32} {s t : Bool} {c d : Nat} {q r : Int} (hx : FP.Core.val32 x = .fin s c q) (hy : FP.Core.val32 y = .fin t d r) (h : FP.Core.signed s (c * 2 ^ (q + 149).toNat) < FP.Core.signed t (d * 2 ^ (r + 149).toNat)) : FP.fcmp x y = some .lt := by
  show FP.Core.fcmp x y = some .lt
  rw [FP.Core.fcmp_zval (by rw [hx]; exact FP.Core.Datum.noConfusion) (by rw [hy]; exact FP.Core.Datum.noConfusion), hx, hy, zv_fin, zv_fin, (FP.Core.compare_lt_iff _ _).mpr h]
theorem fc_gt {x y : UInt32} {s t : Bool} {c d : Nat} {q r : Int} (hx : FP.Core.val32 x = .fin s c q) (hy : FP.Core.val32 y = .fin t d r) (h : FP.Core.signed t (d * 2 ^ (r + 149).toNat) < FP.Core.signed s (c * 2 ^ (q + 149).toNat)) : FP.fcmp x y = some .gt := by
  show FP.Core.fcmp x y = some .gt
  rw [FP.Core.fcmp_zval (by rw [hx]; exact FP.Core.Datum.noConfusion) (by rw [hy]; exact FP.Core.Datum.noConfusion), hx, hy, zv_fin, zv_fin, (FP.Core.compare_gt_iff _ _).mpr h]
theorem fc_nlt {x y : UInt32} {s t : Bool} {c d : Nat} {q r : Int} (op : CmpOp) (hx : FP.Core.val32 x = .fin s c q) (hy : FP.Core.val32 y = .fin t d r) (h : FP.Core.signed t (d * 2 ^ (r + 149).toNat) ≤ FP.Core.signed s (c * 2 ^ (q + 149).toNat)) : ¬ Op.cmpValue (FP.fcmp x y) op < 0 := by
  rcases Int.lt_or_eq_of_le h with h | h
  · rw [fc_gt hx hy h]
    show ¬ (1 : Int32) < 0
    decide
  · have e : FP.fcmp x y = some .eq := by
      show FP.Core.fcmp x y = some .eq
      rw [FP.Core.fcmp_zval (by rw [hx]; exact FP.Core.Datum.noConfusion) (by rw [hy]; exact FP.Core.Datum.noConfusion), hx, hy, zv_fin, zv_fin, (FP.Core.compare_eq_iff _ _).mpr h.symm]
    rw [e]
    show ¬ (0 : Int32) < 0
    decide
theorem v_c0 : FP.Core.val32 FP.fconst0 = .fin false 0 (-149) := by decide +kernel
theorem v_c1 : FP.Core.val32 FP.fconst1 = .fin false (2 ^ 23) (-23) := by decide +kernel
theorem v_c2 : FP.Core.val32 FP.fconst2 = .fin false (2 ^ 23) (-22) := by decide +kernel
theorem v_half : FP.Core.val32 1056964608 = .fin false (2 ^ 23) (-24) := by decide +kernel
theorem v_big : FP.Core.val32 1258291200 = .fin false (2 ^ 23) 0 := by decide +kernel
/-- against 2 and against 1: by the exponent -/
theorem sz_lt {c : Nat} {q : Int} {y : UInt32} {r : Int} (h1 : 2 ^ 23 ≤ c) (h2 : c < 2 ^ 24) (h3 : -149 ≤ q) (h4 : q ≤ 104) (hy : FP.Core.val32 y = .fin false (2 ^ 23) r) (hr : q < r) : FP.fcmp (szf c q) y = some .lt := by
  refine fc_lt (val_szf h1 h2 h3 h4) hy ?_
  show ((c * 2 ^ (q + 149).toNat : Nat) : Int) < ((2 ^ 23 * 2 ^ (r + 149).toNat : Nat) : Int)
  have hp : 2 ^ ((q + 149).toNat + 1) ≤ 2 ^ (r + 149).toNat := Nat.pow_le_pow_right (by decide) (by omega)
  have hq := Nat.two_pow_pos (q + 149).toNat
  have a1 : c * 2 ^ (q + 149).toNat < 2 ^ 24 * 2 ^ (q + 149).toNat := Nat.mul_lt_mul_of_pos_right h2 hq
  have a2 : 2 ^ 24 * 2 ^ (q + 149).toNat = 2 ^ 23 * 2 ^ ((q + 149).toNat + 1) := by rw [Nat.pow_succ]; omega
  have a3 : 2 ^ 23 * 2 ^ ((q + 149).toNat + 1) ≤ 2 ^ 23 * 2 ^ (r + 149).toNat := Nat.mul_le_mul_left _ hp
  exact Int.ofNat_lt.mpr (by omega)
theorem sz_nlt {c : Nat} {q : Int} {y : UInt32} {r : Int} (op : CmpOp) (h1 : 2 ^ 23 ≤ c) (h2 : c < 2 ^ 24) (h3 : -149 ≤ q) (h4 : q ≤ 104) (hy : FP.Core.val32 y = .fin false (2 ^ 23) r) (hr : r ≤ q) : ¬ Op.cmpValue (FP.fcmp (szf c q) y) op < 0 := by
  refine fc_nlt op (val_szf h1 h2 h3 h4) hy ?_
  show ((2 ^ 23 * 2 ^ (r + 149).toNat : Nat) : Int) ≤ ((c * 2 ^ (q + 149).toNat : Nat) : Int)
  have hp : 2 ^ (r + 149).toNat ≤ 2 ^ (q + 149).toNat := Nat.pow_le_pow_right (by decide) (by omega)
  exact Int.ofNat_le.mpr (Nat.mul_le_mul h1 hp)
/-- times a power of two -/
theorem mul_pow {x y : UInt32} {s : Bool} {c : Nat} {q r : Int} (hx : FP.Core.val32 x = .fin s c q) (h1 : 2 ^ 23 ≤ c) (h2 : c < 2 ^ 24) (hy : FP.Core.val32 y = .fin false (2 ^ 23) (r - 23)) (h3 : -149 ≤ q + r) (h4 : q + r ≤ 104) : FP.Core.val32 (FP.fmul x y) = .fin s c (q + r) := by
  show FP.Core.val32 (FP.Core.fmul x y) = _
  rw [FP.Core.val32_fmul, hx, hy]
  show FP.Core.roundRatio FP.Core.b32 (s != false) (c * 2 ^ 23) 1 (q + (r - 23)) = _
  rw [show (s != false) = s by cases s <;> rfl]
  refine FP.Core.roundRatio_exact FP.Core.good_b32 (by decide) (fitc s h1 h2 h3 h4) ?_
  rw [show (q + (r - 23) - (q + r)).toNat = 0 by omega, show (q + r - (q + (r - 23))).toNat = 23 by omega]
  omega
theorem sz_half {c : Nat} {q : Int} (h1 : 2 ^ 23 ≤ c) (h2 : c < 2 ^ 24) (h3 : -148 ≤ q) (h4 : q ≤ 104) : FP.fmul (szf c q) 1056964608 = szf c (q - 1) :=
  szf_of (mul_pow (r := -1) (val_szf h1 h2 (by omega) h4) h1 h2 v_half (by omega) (by omega))
theorem sz_two {c : Nat} {q : Int} (h1 : 2 ^ 23 ≤ c) (h2 : c < 2 ^ 24) (h3 : -149 ≤ q) (h4 : q ≤ 103) : FP.fmul (szf c q) FP.fconst2 = szf c (q + 1) :=
  szf_of (mul_pow (r := 1) (val_szf h1 h2 h3 (by omega)) h1 h2 v_c2 (by omega) (by omega))
/-- the fraction -/
theorem sz_frac {c : Nat} (h1 : 2 ^ 23 ≤ c) (h2 : c < 2 ^ 24) : FP.f2i (FP.fmul (FP.fsub (szf c (-23)) FP.fconst1) 1258291200) = nI (c - 2 ^ 23) ∧ vf_n32 (FP.fsub (szf c (-23)) FP.fconst1) ∧ vf_n32 (FP.fmul (FP.fsub (szf c (-23)) FP.fconst1) 1258291200) := by
  obtain ⟨n, hn⟩ : ∃ n, c = 2 ^ 23 + n := ⟨c - 2 ^ 23, by omega⟩
  subst hn
  have hs : FP.Core.val32 (FP.fsub (szf (2 ^ 23 + n) (-23)) FP.fconst1) = FP.Core.round FP.Core.b32 (.fin false n (-23)) := by
    show FP.Core.val32 (FP.Core.fsub _ _) = _
    rw [FP.Core.val32_fsub, val_szf h1 h2 (by omega) (by omega), v_c1]
    have hV : FP.Core.sumUnits false (2 ^ 23 + n) (-23) true (2 ^ 23) (-23) (-23) = (n : Int) := by
      unfold FP.Core.sumUnits FP.Core.inUnits
      simp only [FP.Core.signed, if_true, Bool.false_eq_true, if_false, Int.sub_self, Int.toNat_zero, Nat.pow_zero, Nat.mul_one]
      omega
    show FP.Core.round FP.Core.b32 (.fin (FP.Core.sumSign false true (FP.Core.sumUnits false (2 ^ 23 + n) (-23) true (2 ^ 23) (-23) (-23))) (FP.Core.sumUnits false (2 ^ 23 + n) (-23) true (2 ^ 23) (-23) (-23)).natAbs (-23)) = _
    rw [hV]
    have hsg : FP.Core.sumSign false true (n : Int) = false := by
      unfold FP.Core.sumSign
      by_cases h : (n : Int) = 0
      · rw [if_pos h]; rfl
      · rw [if_neg h]
        exact decide_eq_false (by omega)
    rw [hsg, Int.natAbs_natCast]
  have hfin : ∀ w : UInt32, FP.Core.FFin w → vf_n32 w := fun w h => n32_of h.notNaN
  have key : ∃ (cw : Nat) (qw : Int), FP.Core.val32 (FP.fsub (szf (2 ^ 23 + n) (-23)) FP.fconst1) = .fin false cw qw ∧ ∃ (cp : Nat) (qp : Int), FP.Core.val32 (FP.fmul (FP.fsub (szf (2 ^ 23 + n) (-23)) FP.fconst1) 1258291200) = .fin false cp qp ∧ cp * 2 ^ (qp + 149).toNat = n * 2 ^ 149 := by
    by_cases h0 : n = 0
    · have e : FP.Core.val32 (FP.fsub (szf (2 ^ 23 + n) (-23)) FP.fconst1) = .fin false 0 (-149) := by
        rw [hs, h0]
        show FP.Core.roundRatio FP.Core.b32 false 0 1 (-23) = _
        unfold FP.Core.roundRatio
        rw [if_pos rfl, FP.Core.qmin_b32]
      refine ⟨0, -149, e, 0, -149, ?_, by rw [h0]; simp⟩
      show FP.Core.val32 (FP.Core.fmul _ _) = _
      rw [FP.Core.val32_fmul, v_big]
      rw [show FP.Core.val32 (FP.fsub (szf (2 ^ 23 + n) (-23)) FP.fconst1) = .fin false 0 (-149) from e]
      show FP.Core.roundRatio FP.Core.b32 false (0 * 2 ^ 23) 1 (-149 + 0) = _
      unfold FP.Core.roundRatio
      rw [if_pos (by simp), FP.Core.qmin_b32]
    · obtain ⟨b1, b2⟩ := log2_pow_le (show 0 < n by omega)
      have hl : n.log2 < 23 := by
        rcases Nat.lt_or_ge n.log2 23 with h | h
        · exact h
        · have := Nat.pow_le_pow_right (show 0 < 2 by decide) h
          omega
      obtain ⟨j, hj⟩ : ∃ j, j + n.log2 = 23 := ⟨23 - n.log2, by omega⟩
      have m1 : 2 ^ 23 ≤ n * 2 ^ j := by
        calc 2 ^ 23 = 2 ^ n.log2 * 2 ^ j := by rw [← Nat.pow_add, show n.log2 + j = 23 by omega]
          _ ≤ n * 2 ^ j := Nat.mul_le_mul_right _ b1
      have m2 : n * 2 ^ j < 2 ^ 24 := by
        calc n * 2 ^ j < 2 ^ (n.log2 + 1) * 2 ^ j := Nat.mul_lt_mul_of_pos_right b2 (Nat.two_pow_pos j)
          _ = 2 ^ 24 := by rw [← Nat.pow_add, show n.log2 + 1 + j = 24 by omega]
      have hj1 : j ≤ 23 := by omega
      have e : FP.Core.val32 (FP.fsub (szf (2 ^ 23 + n) (-23)) FP.fconst1) = .fin false (n * 2 ^ j) (-23 - (j : Int)) := by
        rw [hs, ← FP.Core.round_inUnits (e := -23 - (j : Int)) false n (by omega)]
        have hu : FP.Core.inUnits n (-23) (-23 - (j : Int)) = n * 2 ^ j := by
          unfold FP.Core.inUnits
          rw [show (-23 - (-23 - (j : Int))).toNat = j by omega]
        rw [hu]
        exact FP.Core.round_of_fits FP.Core.good_b32 (fitc false m1 m2 (by omega) (by omega))
      have e2 := mul_pow (r := 23) (y := 1258291200) e m1 m2 v_big (by omega) (by omega)
      refine ⟨_, _, e, _, _, e2, ?_⟩
      rw [show (-23 - (j : Int) + 23 + 149).toNat = 149 - j by omega, Nat.mul_assoc, ← Nat.pow_add, show j + (149 - j) = 149 by omega]
  obtain ⟨cw, qw, k1, cp, qp, k2, k3⟩ := key
  refine ⟨?_, hfin _ ⟨_, _, _, k1⟩, hfin _ ⟨_, _, _, k2⟩⟩
  apply Int32.toInt_inj.mp
  show (FP.Core.f2i _).toInt = _
  rw [FP.Core.f2i_val (by rw [k2]; exact FP.Core.Datum.noConfusion), k2]
  have hz : FP.Core.zmag FP.Core.b32 (.fin false cp qp) / FP.Core.one32 = n := by
    show cp * 2 ^ (qp - FP.Core.b32.qmin).toNat / 2 ^ 149 = n
    rw [FP.Core.qmin_b32, show qp - -149 = qp + 149 by omega, k3]
    exact Nat.mul_div_cancel _ (Nat.two_pow_pos 149)
  rw [hz, nI_toInt (by omega)]
  show max (-2 ^ 31) (min (2 ^ 31 - 1) ((n : Nat) : Int)) = _
  omega
theorem toI_nat (b : UInt32) : b.toInt32 = nI b.toNat := by
  apply Int32.toBitVec_inj.1
  show b.toBitVec = BitVec.ofNat 32 b.toNat
  apply BitVec.eq_of_toNat_eq
  rw [BitVec.toNat_ofNat]
  exact (Nat.mod_eq_of_lt b.toNat_lt).symm
theorem bits_of {b : UInt32} {s : Bool} {c : Nat} {q : Int} (h : FP.Core.val32 b = .fin s c q) (h1 : 2 ^ 23 ≤ c) (h2 : c < 2 ^ 24) (h3 : -149 ≤ q) (h4 : q ≤ 104) : b.toInt32 = nI ((s.toNat * 256 + (q + 150).toNat) * 2 ^ 23 + (c - 2 ^ 23)) := by
  rw [toI_nat]
  have e : b = FP.Core.of32 (.fin s c q) := by rw [← h, FP.Core.of32_val32 (by rw [h]; exact FP.Core.Datum.noConfusion)]
  rw [e, FP.Core.toNat_of32 (fitc s h1 h2 h3 h4)]
  refine congrArg nI ?_
  unfold FP.Core.encode
  rw [FP.Core.tails_b32, FP.Core.qmin_b32]
  show (if c < 2 ^ 23 then FP.Core.assemble FP.Core.b32 s 0 c else FP.Core.assemble FP.Core.b32 s ((q - -149).toNat + 1) (c - 2 ^ 23)) = _
  rw [if_neg (by omega)]
  unfold FP.Core.assemble
  have hx : FP.Core.b32.exps = 256 := by decide
  rw [FP.Core.tails_b32, hx, show (q - -149).toNat + 1 = (q + 150).toNat by omega]
theorem top_or {X : Nat} (h : X < 2 ^ 31) : nI X ||| (-2147483648) = nI (2 ^ 31 + X) := by
  have e : (-2147483648 : Int32) = nI (1 * 2 ^ 31) := by decide
  rw [e, Int32.or_comm, nx_add h]
theorem bits_make {E fr : Nat} (hE : E < 256) (hf : fr < 2 ^ 23) : (nI E <<< ((23 : Int32) &&& 31)) ||| nI fr = nI (E * 2 ^ 23 + fr) := by
  rw [sh23 E hE, nx_add hf]
