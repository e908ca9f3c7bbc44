-- WHAT BINDS THE CLASS AND THE REFERENCE
def Inv (L P G V R N Y S : Nat → Int32) (T h : Nat) (wd ce : Int32) (mo : UInt32) (Rp O D : Nat → Int32) (cl : Int32) : Prop :=
  (T ≤ 4 ∧ h ≤ 500) ∧
  ((∀ j, -100 ≤ (L j).toInt ∧ (L j).toInt ≤ 100) ∧ (-20 ≤ wd.toInt ∧ wd.toInt ≤ 20)) ∧
  (∀ j, j < 24 → 1 ≤ (P j).toInt ∧ (P j).toInt ≤ 200) ∧
  ((∀ j, 0 ≤ (G j).toInt ∧ (G j).toInt ≤ 7) ∧ (∀ j, T ≤ j → G j = 0 ∧ R j = 0)) ∧
  ((∀ j, 0 ≤ (V j).toInt ∧ (V j).toInt ≤ 1000) ∧ (∀ j, 0 ≤ (S j).toInt ∧ (S j).toInt ≤ 1000) ∧ (∀ j, 0 ≤ (Y j).toInt ∧ (Y j).toInt ≤ 1000)) ∧
  gF mo ∧
  ((∀ j, 0 ≤ (R j).toInt ∧ (R j).toInt ≤ (h : Int) + 5) ∧ (∀ j, Rp j = nI ((R j).toNatClampNeg - h))) ∧
  ((0 ≤ ce.toInt ∧ ce.toInt ≤ (h : Int) + 2) ∧ cl = nI (ce.toNatClampNeg - h)) ∧
  ((∀ j, j < h → O j = nI ((S j).toNatClampNeg - (Y j).toNatClampNeg)) ∧ (∀ j, h ≤ j → O j = 0)) ∧
  (∀ j, j < h → D j = fHead (N j)) ∧
  (∀ j, j < h → Y j = rpS N j 4) ∧
  (∀ k, k < 4 → (rp N k h).2.2.2 = ce ∧ ((R k = nI (h + 5) ∧ V k = 0) ∨ (¬ R k = nI (h + 5) ∧ (rp N k h).2.1 = V k ∧ (rp N k h).2.2.1 = R k)))
theorem nOI {v lo hi : Int32} (g : ¬ oI v lo hi) : lo.toInt ≤ v.toInt ∧ v.toInt ≤ hi.toInt := by
  have h1 : ¬ v < lo := fun h => g (Or.inl h)
  have h2 : ¬ hi < v := fun h => g (Or.inr h)
  rw [Int32.lt_iff_toInt_lt] at h1 h2
  omega
theorem upd_at (f : Nat → Int32) (k j : Nat) (x : Int32) : upd f k x j = if j = k then x else f j := rfl
theorem upd_all {f : Nat → Int32} {k : Nat} {x : Int32} {Q : Int32 → Prop} (h : ∀ j, Q (f j)) (hx : Q x) : ∀ j, Q (upd f k x j) := by
  intro j
  rw [upd_at]
  by_cases e : j = k
  · rw [if_pos e]; exact hx
  · rw [if_neg e]; exact h j
theorem clampN {x : Int32} : x.toNatClampNeg = x.toInt.toNat := rfl
theorem toI_0 : (0 : Int32).toInt = 0 := by decide
section K0
variable {S : Nat → Int32} {a b c d n : Int32}
theorem kTide_0 (h : kTide a b = 0) : ¬ oI a 0 23 ∧ ¬ oI b (-100) 100 := by
  unfold kTide at h
  by_cases g : oI a 0 23
  · rw [if_pos g] at h; exact absurd h (by decide)
  · by_cases g2 : oI b (-100) 100
    · rw [if_neg g, if_pos g2] at h; exact absurd h (by decide)
    · exact ⟨g, g2⟩
theorem kPrice_0 (h : kPrice a b = 0) : ¬ oI a 0 23 ∧ ¬ oI b 1 200 := by
  unfold kPrice at h
  by_cases g : oI a 0 23
  · rw [if_pos g] at h; exact absurd h (by decide)
  · by_cases g2 : oI b 1 200
    · rw [if_neg g, if_pos g2] at h; exact absurd h (by decide)
    · exact ⟨g, g2⟩
theorem kGate_0 (h : kGate a b c = 0) : ¬ oI b 0 (a - 1) ∧ ¬ oI c 0 7 := by
  unfold kGate at h
  by_cases g : oI b 0 (a - 1)
  · rw [if_pos g] at h; exact absurd h (by decide)
  · by_cases g2 : oI c 0 7
    · rw [if_neg g, if_pos g2] at h; exact absurd h (by decide)
    · exact ⟨g, g2⟩
theorem kAbout_0 (h : kAbout a b c = 0) : ¬ oI b 0 (a - 1) ∧ ¬ oI c 0 2 := by
  unfold kAbout at h
  by_cases g : oI b 0 (a - 1)
  · rw [if_pos g] at h; exact absurd h (by decide)
  · by_cases g2 : oI c 0 2
    · rw [if_neg g, if_pos g2] at h; exact absurd h (by decide)
    · exact ⟨g, g2⟩
theorem kWind_0 (h : kWind a = 0) : ¬ oI a (-20) 20 := by
  unfold kWind at h
  by_cases g : oI a (-20) 20
  · rw [if_pos g] at h; exact absurd h (by decide)
  · exact g
theorem kRep_0 (h : kRep a b = 0) : ¬ oI b 0 (a - 1) := by
  unfold kRep at h
  by_cases g : oI b 0 (a - 1)
  · rw [if_pos g] at h; exact absurd h (by decide)
  · exact g
theorem kGone_0 (h : kGone a b = 0) : ¬ oI b 0 (a - 1) := by
  unfold kGone at h
  by_cases g : oI b 0 (a - 1)
  · rw [if_pos g] at h; exact absurd h (by decide)
  · exact g
theorem kSell_0 (h : kSell S n a b c = 0) : ¬ oI a n (n + 47) ∧ ¬ oI b 1 500 ∧ ¬ oI c 1 200 ∧ S a.toNatClampNeg + b ≤ 1000 := by
  unfold kSell at h
  by_cases g : oI a n (n + 47)
  · rw [if_pos g] at h; exact absurd h (by decide)
  · by_cases g2 : oI b 1 500
    · rw [if_neg g, if_pos g2] at h; exact absurd h (by decide)
    · by_cases g3 : oI c 1 200
      · rw [if_neg g, if_neg g2, if_pos g3] at h; exact absurd h (by decide)
      · by_cases g4 : S a.toNatClampNeg + b ≤ 1000
        · exact ⟨g, g2, g3, g4⟩
        · rw [if_neg g, if_neg g2, if_neg g3, if_neg g4] at h; exact absurd h (by decide)
theorem kPass_0 {h : Nat} (hh : h ≤ 500) (hk : kPass (nI h) n = 0) : ∃ ct : Nat, n = nI ct ∧ 1 ≤ ct ∧ ct ≤ 48 ∧ h + ct ≤ 500 := by
  unfold kPass at hk
  by_cases g : oI n 1 48
  · rw [if_pos g] at hk; exact absurd hk (by decide)
  · have g1 := nOI g
    have e1 : (1 : Int32).toInt = 1 := by decide
    have e48 : (48 : Int32).toInt = 48 := by decide
    have e500 : (500 : Int32).toInt = 500 := by decide
    by_cases g2 : nI h + n ≤ 500
    · refine ⟨n.toNatClampNeg, (nI_clampI (by omega)).symm, ?_, ?_, ?_⟩
      · rw [clampN]; omega
      · rw [clampN]; omega
      · rw [Int32.le_iff_toInt_le, i32_add (by rw [nI_toInt (by omega)]; omega) (by rw [nI_toInt (by omega)]; omega), nI_toInt (by omega), e500] at g2
        rw [clampN]; omega
    · rw [if_neg g, if_neg g2] at hk; exact absurd hk (by decide)
/-- an index below a count -/
theorem below_nI {m : Nat} (hm : m ≤ 1000) (g : ¬ oI b 0 (nI m - 1)) : ∃ j : Nat, b = nI j ∧ j < m := by
  have g1 := nOI g
  have e1 : (1 : Int32).toInt = 1 := by decide
  rw [i32_sub (by rw [nI_toInt (by omega), e1]; omega) (by rw [nI_toInt (by omega), e1]; omega), nI_toInt (by omega), e1, toI_0] at g1
  exact ⟨b.toNatClampNeg, (nI_clampI (by omega)).symm, by rw [clampN]; omega⟩
end K0
section OPS
variable {L P G V R N Y S Rp O D : Nat → Int32} {T h : Nat} {wd ce cl : Int32} {mo : UInt32}
theorem Inv_tide {a b : Int32} (I : Inv L P G V R N Y S T h wd ce mo Rp O D cl) (hk : kTide a b = 0) : Inv (upd L a.toNatClampNeg b) P G V R N Y S T h wd ce mo Rp O D cl := by
  obtain ⟨i1, ⟨i2, i3⟩, i4⟩ := I
  have g := nOI (kTide_0 hk).2
  have e1 : (-100 : Int32).toInt = -100 := by decide
  have e2 : (100 : Int32).toInt = 100 := by decide
  exact ⟨i1, ⟨upd_all (Q := fun x => -100 ≤ x.toInt ∧ x.toInt ≤ 100) i2 (by omega), i3⟩, i4⟩
theorem Inv_price {a b : Int32} (I : Inv L P G V R N Y S T h wd ce mo Rp O D cl) (hk : kPrice a b = 0) : Inv L (upd P a.toNatClampNeg b) G V R N Y S T h wd ce mo Rp O D cl := by
  obtain ⟨i1, i2, i3, i4⟩ := I
  have g := nOI (kPrice_0 hk).2
  have e1 : (1 : Int32).toInt = 1 := by decide
  have e2 : (200 : Int32).toInt = 200 := by decide
  refine ⟨i1, i2, fun j hj => ?_, i4⟩
  rw [upd_at]
  by_cases e : j = a.toNatClampNeg
  · rw [if_pos e]; omega
  · rw [if_neg e]; exact i3 j hj
theorem Inv_wind {a : Int32} (I : Inv L P G V R N Y S T h wd ce mo Rp O D cl) (hk : kWind a = 0) : Inv L P G V R N Y S T h a ce mo Rp O D cl := by
  obtain ⟨i1, ⟨i2, i3⟩, i4⟩ := I
  have g := nOI (kWind_0 hk)
  have e1 : (-20 : Int32).toInt = -20 := by decide
  have e2 : (20 : Int32).toInt = 20 := by decide
  exact ⟨i1, ⟨i2, by omega⟩, i4⟩
theorem kTurb_0 (hT : T ≤ 4) (hk : kTurb (nI T) = 0) : T < 4 := by
  rcases Nat.lt_or_ge T 4 with q | q
  · exact q
  · have : T = 4 := by omega
    subst this
    exact absurd hk (by decide)
theorem Inv_turbine (I : Inv L P G V R N Y S T h wd ce mo Rp O D cl) (hk : kTurb (nI T) = 0) : Inv L P G V R N Y S (T + 1) h wd ce mo Rp O D cl := by
  obtain ⟨i1, i2, i3, ⟨i4, i5⟩, i6⟩ := I
  have := kTurb_0 i1.1 hk
  exact ⟨⟨by omega, i1.2⟩, i2, i3, ⟨i4, fun j hj => i5 j (by omega)⟩, i6⟩
theorem Inv_gate {a b : Int32} (I : Inv L P G V R N Y S T h wd ce mo Rp O D cl) (hk : kGate (nI T) a b = 0) : Inv L P (upd G a.toNatClampNeg b) V R N Y S T h wd ce mo Rp O D cl := by
  obtain ⟨i1, i2, i3, ⟨i4, i5⟩, i6⟩ := I
  obtain ⟨g1, g2⟩ := kGate_0 hk
  have g := nOI g2
  have e2 : (7 : Int32).toInt = 7 := by decide
  obtain ⟨j0, rfl, hj0⟩ := below_nI (by omega) g1
  rw [nI_clamp (by omega)]
  refine ⟨i1, i2, i3, ⟨upd_all (Q := fun x => 0 ≤ x.toInt ∧ x.toInt ≤ 7) i4 (by rw [toI_0] at g; omega), fun j hj => ?_⟩, i6⟩
  rw [upd_at, if_neg (by omega)]
  exact i5 j hj
theorem Inv_repair {a : Int32} (I : Inv L P G V R N Y S T h wd ce mo Rp O D cl) (hk : kRep (nI T) a = 0) : Inv L P G (upd V a.toNatClampNeg 0) (upd R a.toNatClampNeg (nI h + 5)) N Y S T h wd ce mo (upd Rp a.toNatClampNeg 5) O D cl := by
  obtain ⟨i1, i2, i3, ⟨i4, i5⟩, ⟨i6, i7, i8⟩, i9, ⟨i10, i11⟩, i12, i13, i14, i15, i16⟩ := I
  obtain ⟨j0, rfl, hj0⟩ := below_nI (by omega) (kRep_0 hk)
  rw [nI_clamp (by omega)]
  have e5 : nI h + 5 = nI (h + 5) := nI_add h 5
  rw [e5]
  have t5 : (nI (h + 5)).toInt = (h : Int) + 5 := by rw [nI_toInt (by omega)]; omega
  refine ⟨i1, i2, i3, ⟨i4, fun j hj => ?_⟩, ⟨upd_all (Q := fun x => 0 ≤ x.toInt ∧ x.toInt ≤ 1000) i6 (by rw [toI_0]; omega), i7, i8⟩, i9, ⟨upd_all (Q := fun x => 0 ≤ x.toInt ∧ x.toInt ≤ (h : Int) + 5) i10 (by omega), fun j => ?_⟩, i12, i13, i14, i15, fun k hk4 => ?_⟩
  · rw [upd_at, if_neg (by omega)]
    exact i5 j hj
  · rw [upd_at, upd_at]
    by_cases e : j = j0
    · rw [if_pos e, if_pos e, nI_clamp (by omega), show h + 5 - h = 5 by omega]
      rfl
    · rw [if_neg e, if_neg e]
      exact i11 j
  · obtain ⟨a1, a2⟩ := i16 k hk4
    refine ⟨a1, ?_⟩
    rw [upd_at, upd_at]
    by_cases e : k = j0
    · rw [if_pos e, if_pos e]
      exact Or.inl ⟨rfl, rfl⟩
    · rw [if_neg e, if_neg e]
      exact a2
end OPS
