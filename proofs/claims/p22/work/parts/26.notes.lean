def bt (x : Int32) (i : Nat) : Bool := x.toBitVec.getLsbD i
theorem b_ext {x y : Int32} (h : ∀ i, i < 32 → bt x i = bt y i) : x = y := Int32.toBitVec_inj.mp (BitVec.eq_of_getLsbD_eq (fun i hi => h i hi))
theorem b_or (x y : Int32) (i : Nat) : bt (x ||| y) i = (bt x i || bt y i) := by unfold bt; rw [Int32.toBitVec_or, BitVec.getLsbD_or]
theorem b_and (x y : Int32) (i : Nat) : bt (x &&& y) i = (bt x i && bt y i) := by unfold bt; rw [Int32.toBitVec_and, BitVec.getLsbD_and]
theorem b_big {x : Int32} {i : Nat} (h : 32 ≤ i) : bt x i = false := BitVec.getLsbD_of_ge _ _ h
theorem s_l : ∀ n, n < 32 → ((nI n &&& 31).toBitVec.smod 32).toNat = n := by decide +kernel
theorem b_shl (n : Nat) (hn : n < 32) (x : Int32) {i : Nat} (hi : i < 32) : bt (x <<< (nI n &&& 31)) i = (decide (n ≤ i) && bt x (i - n)) := by
  unfold bt
  rw [Int32.toBitVec_shiftLeft]
  show (x.toBitVec <<< ((nI n &&& 31).toBitVec.smod 32).toNat).getLsbD i = _
  rw [s_l n hn, BitVec.getLsbD_shiftLeft]
  rcases Nat.lt_or_ge i n with h | h
  · simp [h, Nat.not_le.mpr h]
  · simp [hi, h, Nat.not_lt.mpr h]
theorem b_sshr (n : Nat) (hn : n < 32) (x : Int32) {i : Nat} (hi : i < 32) : bt (x >>> (nI n &&& 31)) i = if n + i < 32 then bt x (n + i) else bt x 31 := by
  unfold bt
  rw [Int32.toBitVec_shiftRight]
  show (x.toBitVec.sshiftRight ((nI n &&& 31).toBitVec.smod 32).toNat).getLsbD i = _
  rw [s_l n hn, BitVec.getLsbD_sshiftRight, BitVec.msb_eq_getLsbD_last]
  simp [hi]
-- THE NOTE OF AN HOUR, BY ITS BITS
theorem b_nat (n i : Nat) : bt (nI n) i = (decide (i < 32) && n.testBit i) := by
  unfold bt
  show (BitVec.ofNat 32 n).getLsbD i = _
  rw [BitVec.getLsbD_ofNat]
theorem nI_clampI {x : Int32} (h : 0 ≤ x.toInt) : nI x.toNatClampNeg = x := by
  have h1 : x.toNatClampNeg = x.toInt.toNat := rfl
  apply Int32.toInt_inj.mp
  have := Int32.toInt_lt x
  rw [nI_toInt (by rw [h1]; omega), h1]
  omega
/-- small numbers have no high bits -/
theorem b_high {x : Int32} {k i : Nat} (h0 : 0 ≤ x.toInt) (h1 : x.toInt < (2 ^ k : Nat)) (hi : k ≤ i) : bt x i = false := by
  rw [← nI_clampI h0, b_nat]
  have h2 : x.toNatClampNeg < 2 ^ i := by
    have h3 : x.toNatClampNeg = x.toInt.toNat := rfl
    have h4 : 2 ^ k ≤ 2 ^ i := Nat.pow_le_pow_right (by decide) hi
    omega
  rw [Nat.testBit_lt_two_pow h2, Bool.and_false]
def orN (f : Nat → Bool) : Nat → Bool
  | 0 => false
  | n + 1 => orN f n || f n
theorem orN_false {f : Nat → Bool} {n : Nat} (h : ∀ k, k < n → f k = false) : orN f n = false := by
  induction n with
  | zero => rfl
  | succ n ih =>
    show (orN f n || f n) = false
    rw [ih (fun k hk => h k (by omega)), h n (by omega)]
    rfl
theorem orN_one {f : Nat → Bool} {n j : Nat} (h : ∀ k, k < n → k ≠ j → f k = false) : orN f n = (decide (j < n) && f j) := by
  induction n with
  | zero => rfl
  | succ n ih =>
    show (orN f n || f n) = _
    rw [ih (fun k hk => h k (by omega))]
    by_cases e : n = j
    · subst e
      rw [decide_eq_false (by omega), decide_eq_true (by omega)]
      simp
    · rw [h n (by omega) e, Bool.or_false]
      congr 1
      exact decide_eq_decide.mpr (by omega)
theorem sh7 : ∀ i, i < 4 → (7 : Int32) + (3 * nI i) = nI (7 + 3 * i) := by decide +kernel
theorem sh19 : ∀ i, i < 4 → (19 : Int32) + nI i = nI (19 + i) := by decide +kernel
theorem b_one (i : Nat) : bt 1 i = decide (i = 0) := by
  rcases Nat.lt_or_ge i 32 with h | h
  · exact (by decide +kernel : ∀ i, i < 32 → bt 1 i = decide (i = 0)) i h
  · rw [b_big h, decide_eq_false (by omega)]
theorem b_seven : ∀ i, i < 32 → bt 7 i = decide (i < 3) := by decide +kernel
theorem b_127 : ∀ i, i < 32 → bt 127 i = decide (i < 7) := by decide +kernel
theorem b_run : ∀ i, i < 32 → bt 8388608 i = decide (i = 23) := by decide +kernel
theorem b_zero (i : Nat) : bt 0 i = false := BitVec.getLsbD_zero
theorem bit1 {x : Int32} {s : Nat} (hs : s < 32) : ((x >>> (nI s &&& 31)) &&& 1) = 0 ↔ bt x s = false := by
  constructor
  · intro h
    have h1 : bt ((x >>> (nI s &&& 31)) &&& 1) 0 = bt 0 0 := by rw [h]
    rw [b_and, b_sshr s hs x (by decide), b_one, b_zero, if_pos (by omega)] at h1
    simpa using h1
  · intro h
    refine b_ext (fun i hi => ?_)
    rw [b_and, b_sshr s hs x hi, b_one, b_zero]
    by_cases e : i = 0
    · subst e
      rw [if_pos (by omega), Nat.add_zero, h]
      rfl
    · rw [decide_eq_false e, Bool.and_false]
theorem bt_xNote (G R : Nat → Int32) (h5 n0 : Int32) {n : Nat} (hn : n ≤ 4) {i : Nat} (hi : i < 32) : bt (xNote G R h5 n0 n) i = (bt n0 i || orN (fun k => (decide (7 + 3 * k ≤ i) && bt (G k) (i - (7 + 3 * k))) || (decide (R k = h5) && decide (i = 19 + k))) n) := by
  induction n with
  | zero =>
    show bt n0 i = (bt n0 i || false)
    rw [Bool.or_false]
  | succ n ih =>
    have ih := ih (by omega)
    show bt (if R n = h5 then ((xNote G R h5 n0 n ||| (G n <<< ((7 + (3 * nI n)) &&& 31))) ||| (1 <<< ((19 + nI n) &&& 31))) else (xNote G R h5 n0 n ||| (G n <<< ((7 + (3 * nI n)) &&& 31)))) i = (bt n0 i || (orN (fun k => (decide (7 + 3 * k ≤ i) && bt (G k) (i - (7 + 3 * k))) || (decide (R k = h5) && decide (i = 19 + k))) n || ((decide (7 + 3 * n ≤ i) && bt (G n) (i - (7 + 3 * n))) || (decide (R n = h5) && decide (i = 19 + n)))))
    rw [sh7 n (by omega), sh19 n (by omega)]
    by_cases hR : R n = h5
    · rw [if_pos hR, b_or, b_or, ih, b_shl (7 + 3 * n) (by omega) (G n) hi, b_shl (19 + n) (by omega) 1 hi, b_one, decide_eq_true hR, Bool.true_and]
      have e : (decide (19 + n ≤ i) && decide (i - (19 + n) = 0)) = decide (i = 19 + n) := by
        rw [← Bool.decide_and]
        exact decide_eq_decide.mpr (by omega)
      rw [e, Bool.or_assoc, Bool.or_assoc]
    · rw [if_neg hR, b_or, ih, b_shl (7 + 3 * n) (by omega) (G n) hi, decide_eq_false hR, Bool.false_and, Bool.or_false, Bool.or_assoc]
section NOTES
variable {L G R : Nat → Int32} {wd ft fl : Int32} {T h : Nat}
theorem bt_note (hT : T ≤ 4) {i : Nat} (hi : i < 32) : bt (xNoteF L G R wd ft fl T h) i = ((bt (fAbsX (L (h % 24) + wd)) i || orN (fun k => (decide (7 + 3 * k ≤ i) && bt (G k) (i - (7 + 3 * k))) || (decide (R k = nI (h + 5)) && decide (i = 19 + k))) T) || (!decide (ft ≤ fl) && decide (i = 23))) := by
  unfold xNoteF
  by_cases c : ft ≤ fl
  · rw [if_pos c, bt_xNote G R _ _ hT hi, decide_eq_true c]
    simp
  · rw [if_neg c, b_or, bt_xNote G R _ _ hT hi, b_run i hi, decide_eq_false c]
    simp
theorem note_head (hT : T ≤ 4) (hG : ∀ k, 0 ≤ (G k).toInt ∧ (G k).toInt ≤ 7) (h0 : 0 ≤ (fAbsX (L (h % 24) + wd)).toInt) (h1 : (fAbsX (L (h % 24) + wd)).toInt < 128) : fHead (xNoteF L G R wd ft fl T h) = fAbsX (L (h % 24) + wd) := by
  unfold fHead
  refine b_ext (fun i hi => ?_)
  rw [b_and, bt_note hT hi, b_127 i hi]
  rcases Nat.lt_or_ge i 7 with c | c
  · rw [decide_eq_true c, Bool.and_true, decide_eq_false (show ¬ i = 23 by omega), Bool.and_false, Bool.or_false, orN_false, Bool.or_false]
    intro k hk
    rw [decide_eq_false (show ¬ 7 + 3 * k ≤ i by omega), decide_eq_false (show ¬ i = 19 + k by omega)]
    simp
  · rw [decide_eq_false (show ¬ i < 7 by omega), Bool.and_false, b_high (k := 7) h0 h1 c]
theorem note_gate (hT : T ≤ 4) (hG : ∀ k, 0 ≤ (G k).toInt ∧ (G k).toInt ≤ 7) (hG0 : ∀ k, T ≤ k → G k = 0) (h0 : 0 ≤ (fAbsX (L (h % 24) + wd)).toInt) (h1 : (fAbsX (L (h % 24) + wd)).toInt < 128) {k : Nat} (hk : k < 4) : fGate (xNoteF L G R wd ft fl T h) (nI k) = G k := by
  unfold fGate
  rw [sh7 k hk]
  refine b_ext (fun i hi => ?_)
  rw [b_and, b_sshr (7 + 3 * k) (by omega) _ hi, b_seven i hi]
  rcases Nat.lt_or_ge i 3 with c | c
  · rw [decide_eq_true c, Bool.and_true, if_pos (by omega), bt_note hT (by omega), b_high (k := 7) h0 h1 (by omega), decide_eq_false (show ¬ 7 + 3 * k + i = 23 by omega), Bool.and_false, Bool.or_false, Bool.false_or, orN_one (j := k)]
    · rw [decide_eq_true (show 7 + 3 * k ≤ 7 + 3 * k + i by omega), decide_eq_false (show ¬ 7 + 3 * k + i = 19 + k by omega), Bool.and_false, Bool.or_false, Bool.true_and, show 7 + 3 * k + i - (7 + 3 * k) = i by omega]
      rcases Nat.lt_or_ge k T with q | q
      · rw [decide_eq_true q, Bool.true_and]
      · rw [decide_eq_false (by omega), Bool.false_and, hG0 k q, b_zero]
    · intro k2 hk2 hne
      rw [decide_eq_false (show ¬ 7 + 3 * k + i = 19 + k2 by omega), Bool.and_false, Bool.or_false]
      rcases Nat.lt_or_ge (7 + 3 * k + i) (7 + 3 * k2) with q | q
      · rw [decide_eq_false (by omega), Bool.false_and]
      · have hg := hG k2
        rw [b_high (x := G k2) (k := 3) hg.1 (by omega) (by omega), Bool.and_false]
  · have hg := hG k
    rw [decide_eq_false (show ¬ i < 3 by omega), Bool.and_false, b_high (x := G k) (k := 3) hg.1 (by omega) c]
theorem note_repair (hT : T ≤ 4) (hG : ∀ k, 0 ≤ (G k).toInt ∧ (G k).toInt ≤ 7) (h0 : 0 ≤ (fAbsX (L (h % 24) + wd)).toInt) (h1 : (fAbsX (L (h % 24) + wd)).toInt < 128) {k : Nat} (hk : k < 4) : fRepair (xNoteF L G R wd ft fl T h) (nI k) = 0 ↔ ¬ (k < T ∧ R k = nI (h + 5)) := by
  have hb : bt (xNoteF L G R wd ft fl T h) (19 + k) = (decide (k < T) && decide (R k = nI (h + 5))) := by
    rw [bt_note hT (by omega), b_high (k := 7) h0 h1 (by omega), decide_eq_false (show ¬ 19 + k = 23 by omega), Bool.and_false, Bool.or_false, Bool.false_or, orN_one (j := k)]
    · have hg := hG k
      rw [b_high (x := G k) (k := 3) hg.1 (by omega) (by omega), Bool.and_false, Bool.false_or, decide_eq_true (show 19 + k = 19 + k from rfl), Bool.and_true]
    · intro k2 hk2 hne
      have hg := hG k2
      rw [b_high (x := G k2) (k := 3) hg.1 (by omega) (by omega), Bool.and_false, Bool.false_or, decide_eq_false (show ¬ 19 + k = 19 + k2 by omega), Bool.and_false]
  unfold fRepair
  rw [sh19 k hk]
  have hc := bit1 (x := xNoteF L G R wd ft fl T h) (s := 19 + k) (by omega)
  rw [hb] at hc
  by_cases c : ((xNoteF L G R wd ft fl T h >>> (nI (19 + k) &&& 31)) &&& 1) = 0
  · rw [if_pos c]
    have := hc.mp c
    rw [← Bool.decide_and, decide_eq_false_iff_not] at this
    exact ⟨fun _ => this, fun _ => rfl⟩
  · rw [if_neg c]
    refine ⟨fun h => absurd h (by decide), fun h => absurd (hc.mpr ?_) c⟩
    rw [← Bool.decide_and, decide_eq_false_iff_not]
    exact h
theorem note_run (hT : T ≤ 4) (hG : ∀ k, 0 ≤ (G k).toInt ∧ (G k).toInt ≤ 7) (h0 : 0 ≤ (fAbsX (L (h % 24) + wd)).toInt) (h1 : (fAbsX (L (h % 24) + wd)).toInt < 128) : fRun (xNoteF L G R wd ft fl T h) = 0 ↔ ft ≤ fl := by
  have hb : bt (xNoteF L G R wd ft fl T h) 23 = !decide (ft ≤ fl) := by
    rw [bt_note hT (by omega), b_high (k := 7) h0 h1 (by omega), decide_eq_true (show (23 : Nat) = 23 from rfl), Bool.and_true, orN_false, Bool.false_or, Bool.false_or]
    intro k hk
    have hg := hG k
    rw [b_high (x := G k) (k := 3) hg.1 (by omega) (by omega), Bool.and_false, Bool.false_or, decide_eq_false (show ¬ 23 = 19 + k by omega), Bool.and_false]
  unfold fRun
  have hc := bit1 (x := xNoteF L G R wd ft fl T h) (s := 23) (by omega)
  rw [hb] at hc
  have e23 : (nI 23 : Int32) = 23 := rfl
  rw [e23] at hc
  by_cases c : ((xNoteF L G R wd ft fl T h >>> ((23 : Int32) &&& 31)) &&& 1) = 0
  · rw [if_pos c]
    have := hc.mp c
    exact ⟨fun _ => by simpa using this, fun _ => rfl⟩
  · rw [if_neg c]
    exact ⟨fun h => absurd h (by decide), fun h => absurd (hc.mpr (by simpa using h)) c⟩
end NOTES
