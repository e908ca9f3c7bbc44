def mClo (ft fl cl : Int32) : Int32 := if ft ≤ fl then cl else 3
def mO (O S : Nat → Int32) (h : Nat) (sm : Int32) : Nat → Int32 := if S h ≤ sm then O else upd O h (S h - sm)
theorem dec_nI {a : Nat} (ha : a < 2 ^ 31) : nI a - (if nI a ≤ 0 then 0 else 1) = nI (a - 1) := by
  rcases Nat.eq_zero_or_pos a with e | e
  · subst e
    rfl
  · rw [if_neg (nI_nle e ha), nI_sub1 e]
theorem sub_nI {a b : Int32} (h1 : 0 ≤ b.toInt) (h2 : b.toInt ≤ a.toInt) : a - b = nI (a.toNatClampNeg - b.toNatClampNeg) := by
  have := Int32.toInt_lt a
  apply Int32.toInt_inj.mp
  rw [i32_sub (by omega) (by omega), nI_toInt (by rw [clampN, clampN]; omega), clampN, clampN]
  omega
theorem xMo_good {mo : UInt32} {y sd q : Int32} (g : gF mo) (a : 0 ≤ y.toInt ∧ y.toInt ≤ 1000) (b : 0 ≤ sd.toInt ∧ sd.toInt ≤ 1000) (c : 1 ≤ q.toInt ∧ q.toInt ≤ 200) : gF (xMo mo y sd q) := by
  have e : (y - sd).toInt = y.toInt - sd.toInt := i32_sub (by omega) (by omega)
  have e2 : (-(y - sd)).toInt = sd.toInt - y.toInt := by rw [Int32.neg_sub, i32_sub (by omega) (by omega)]
  unfold xMo
  by_cases d1 : 0 ≤ y - sd
  · rw [if_pos d1]
    by_cases d2 : y - sd ≤ 0
    · rw [if_pos d2]; exact g
    · rw [if_neg d2]
      rw [Int32.le_iff_toInt_le, e, toI_0] at d1
      rw [Int32.le_iff_toInt_le, e, toI_0] at d2
      exact gF_add g (half_hG (by omega) c)
  · rw [if_neg d1]
    rw [Int32.le_iff_toInt_le, e, toI_0] at d1
    exact gF_sub g (worth_hG (by omega) c)
section HM
variable {L P G V R N Y S Rp O D : Nat → Int32} {T h : Nat} {wd ce cl : Int32} {mo : UInt32}
set_option maxHeartbeats 1000000 in
theorem Inv_hour (I : Inv L P G V R N Y S T h wd ce mo Rp O D cl) (hh : h < 500) (ft fl : Int32) :
    ∃ (V' O' : Nat → Int32) (sm c' hd nt : Int32) (mo' : UInt32),
      xGo L P G R S wd fl T h (V, N, Y, ft, ce, mo) = (V', upd N h nt, upd Y h sm, 0, c', mo') ∧
      (hd = fAbsX (L (h % 24) + wd) ∧ fHead nt = hd ∧ V' = allV G V R h hd c' T ∧ sm = sumU G V R h hd c' T ∧ mClo ft fl cl = nI (c'.toNatClampNeg - h) ∧ mo' = xMo mo sm (S h) (P (h % 24)) ∧ (0 ≤ hd.toInt ∧ hd.toInt ≤ 120) ∧ (0 ≤ sm.toInt ∧ sm.toInt ≤ 420) ∧ 0 ≤ c'.toInt ∧ c'.toInt ≤ (h : Int) + 3) ∧
      Inv L P G V' R (upd N h nt) (upd Y h sm) S T (h + 1) wd c' mo' (allR Rp T) O' (upd D h hd) (nI (c'.toNatClampNeg - (h + 1))) := by
  obtain ⟨⟨iT, ih⟩, ⟨iL, iwd⟩, iP, ⟨iG, i0⟩, ⟨iV, iS, iY⟩, iM, ⟨iR, iRp⟩, ⟨ice, icl⟩, ⟨iO, iO0⟩, iD, iYr, iRep⟩ := I
  have hG0 : ∀ j, T ≤ j → G j = 0 := fun j hj => (i0 j hj).1
  have lb := iL (h % 24)
  have hx : (L (h % 24) + wd).toInt = (L (h % 24)).toInt + wd.toInt := i32_add (by omega) (by omega)
  have hhd := absX_le (x := L (h % 24) + wd) (by omega) (by omega)
  have n1 := note_head (L := L) (G := G) (R := R) (wd := wd) (ft := ft) (fl := fl) (T := T) (h := h) iT iG hhd.1 (by omega)
  have n2 := fun k hk => note_gate (L := L) (G := G) (R := R) (wd := wd) (ft := ft) (fl := fl) (T := T) (h := h) iT iG hG0 hhd.1 (by omega) (k := k) hk
  have n3 := fun k hk => note_repair (L := L) (G := G) (R := R) (wd := wd) (ft := ft) (fl := fl) (T := T) (h := h) iT iG hhd.1 (by omega) (k := k) hk
  have n4 := note_run (L := L) (G := G) (R := R) (wd := wd) (ft := ft) (fl := fl) (T := T) (h := h) iT iG hhd.1 (by omega)
  obtain ⟨nt, hnt⟩ : ∃ z, z = xNoteF L G R wd ft fl T h := ⟨_, rfl⟩
  obtain ⟨hd, hhd0⟩ : ∃ z, z = fAbsX (L (h % 24) + wd) := ⟨_, rfl⟩
  rw [← hnt] at n1 n4
  rw [← hhd0] at n1 hhd
  have n2 : ∀ k, k < 4 → fGate nt (nI k) = G k := fun k hk => by rw [hnt]; exact n2 k hk
  have n3 : ∀ k, k < 4 → (fRepair nt (nI k) = 0 ↔ ¬ (k < T ∧ R k = nI (h + 5))) := fun k hk => by rw [hnt]; exact n3 k hk
  obtain ⟨c', hc'⟩ : ∃ z, z = xCe nt h ce := ⟨_, rfl⟩
  have e3 : (nI (h + 3)).toInt = (h : Int) + 3 := by rw [nI_toInt (by omega)]; omega
  have hcb : 0 ≤ c'.toInt ∧ c'.toInt ≤ (h : Int) + 3 := by
    rw [hc']
    unfold xCe
    split
    · omega
    · omega
  have hcl : mClo ft fl cl = nI (c'.toNatClampNeg - h) := by
    unfold mClo
    rw [hc']
    unfold xCe
    by_cases w : ft ≤ fl
    · rw [if_pos w, if_pos (n4.mpr w)]
      exact icl
    · rw [if_neg w, if_neg (fun q => w (n4.mp q)), nI_clamp (by omega), show h + 3 - h = 3 by omega]
      rfl
  have hcn : nI c'.toNatClampNeg = c' := nI_clampI hcb.1
  have hxm := xMk_all G V R h hd c' T
  obtain ⟨sm, hsm⟩ : ∃ z, z = sumU G V R h hd c' T := ⟨_, rfl⟩
  obtain ⟨V', hV'⟩ : ∃ z, z = allV G V R h hd c' T := ⟨_, rfl⟩
  have hsl := sumU_le (G := G) (V := V) (R := R) (h := h) (ce := c') hhd iG iV T iT
  rw [← hsm] at hsl
  rw [← hsm, ← hV'] at hxm
  have hVj : ∀ j, V' j = vK h hd c' (G j) (V j) (R j) := fun j => by rw [hV']; exact allV_4 hG0 hd j
  have hsmb : 0 ≤ sm.toInt ∧ sm.toInt ≤ 1000 := by omega
  refine ⟨V', mO O S h sm, sm, c', hd, nt, xMo mo sm (S h) (P (h % 24)), ?_, ?_, ?_⟩
  · simp only [xGo]
    rw [← hnt, n1, ← hc', hxm]
    simp only [upd_at, if_true]
  · exact ⟨hhd0, n1, hV', hsm, hcl, rfl, hhd, ⟨hsl.1, by omega⟩, hcb.1, hcb.2⟩
  · -- one step of the replay
    have hstep : ∀ k, k < 4 → rp (upd N h nt) k (h + 1) = (uK h hd c' (G k) (V k) (R k), vK h hd c' (G k) (V k) (R k), R k, c') := by
      intro k hk
      show rpStep (upd N h nt h) k h (rp (upd N h nt) k h) = _
      rw [rp_upd N k nt (Nat.le_refl h), upd_at, if_pos rfl]
      obtain ⟨a1, a2⟩ := iRep k hk
      have hU : rpU nt h (rp N k h).2.2.2 = c' := by rw [a1, hc']; rfl
      have hWR : rpW nt k (rp N k h).2.1 = V k ∧ rpR nt k h (rp N k h).2.2.1 = R k := by
        unfold rpW rpR
        rcases a2 with ⟨b1, b2⟩ | ⟨b1, b2, b3⟩
        · have hkT : k < T := by
            rcases Nat.lt_or_ge k T with w | w
            · exact w
            · exfalso
              have r0 := (i0 k w).2
              rw [r0] at b1
              have t := congrArg Int32.toInt b1
              rw [toI_0, nI_toInt (by omega)] at t
              omega
          have hf : ¬ fRepair nt (nI k) = 0 := fun w => (n3 k hk).mp w ⟨hkT, b1⟩
          rw [if_neg hf, if_neg hf]
          exact ⟨b2.symm, b1.symm⟩
        · have hf : fRepair nt (nI k) = 0 := (n3 k hk).mpr (fun w => b1 w.2)
          rw [if_pos hf, if_pos hf]
          exact ⟨b2, b3⟩
      unfold rpStep
      rw [hU, hWR.1, hWR.2, n1, n2 k hk]
      unfold uK vK
      by_cases w : fWorks (nI h) (V k) (R k) c' = 0
      · rw [if_pos w, if_pos w, if_pos w]
      · rw [if_neg w, if_neg w, if_neg w]
    have hsumr : ∀ n, n ≤ 4 → rpS (upd N h nt) h n = sumU G V R h hd c' n := by
      intro n
      induction n with
      | zero => intro _; rfl
      | succ n ihn =>
        intro hn
        show rpS (upd N h nt) h n + (rp (upd N h nt) n (h + 1)).1 = sumU G V R h hd c' n + uK h hd c' (G n) (V n) (R n)
        rw [ihn (by omega), hstep n (by omega)]
    refine ⟨⟨iT, by omega⟩, ⟨iL, iwd⟩, iP, ⟨iG, i0⟩, ⟨fun j => by rw [hVj]; exact vK_le (iG j) (iV j), iS, upd_all (Q := fun x => 0 ≤ x.toInt ∧ x.toInt ≤ 1000) iY hsmb⟩, xMo_good iM hsmb (iS h) (iP _ (by omega)), ⟨fun j => by have := iR j; omega, fun j => ?_⟩, ⟨⟨hcb.1, by omega⟩, rfl⟩, ⟨fun j hj => ?_, fun j hj => ?_⟩, fun j hj => ?_, fun j hj => ?_, fun k hk => ?_⟩
    · unfold allR
      have hRb := iR j
      by_cases w : j < T
      · rw [if_pos w, iRp j, dec_nI (by rw [clampN]; omega), Nat.sub_sub]
      · rw [if_neg w, iRp j, (i0 j (by omega)).2]
        have z : (0 : Int32).toNatClampNeg = 0 := by decide
        rw [z, Nat.zero_sub, Nat.zero_sub]
    · unfold mO
      have s0 := iS h
      by_cases w : S h ≤ sm
      · rw [if_pos w]
        by_cases e : j = h
        · rw [e, upd_at, if_pos rfl, iO0 h (Nat.le_refl h)]
          rw [Int32.le_iff_toInt_le] at w
          have z : (S h).toNatClampNeg - sm.toNatClampNeg = 0 := by rw [clampN, clampN]; omega
          rw [z]
          rfl
        · rw [upd_at, if_neg e]
          exact iO j (by omega)
      · rw [if_neg w]
        by_cases e : j = h
        · rw [e, upd_at, upd_at, if_pos rfl, if_pos rfl]
          rw [Int32.le_iff_toInt_le] at w
          exact sub_nI hsmb.1 (by omega)
        · rw [upd_at, upd_at, if_neg e, if_neg e]
          exact iO j (by omega)
    · unfold mO
      split
      · exact iO0 j (by omega)
      · rw [upd_at, if_neg (by omega)]
        exact iO0 j (by omega)
    · rw [upd_at, upd_at]
      by_cases e : j = h
      · rw [if_pos e, if_pos e, n1]
      · rw [if_neg e, if_neg e]
        exact iD j (by omega)
    · rw [upd_at]
      by_cases e : j = h
      · rw [if_pos e, e, hsumr 4 (by omega), hsm]
        exact (sumU_4 hG0 hd iT).symm
      · rw [if_neg e, rpS_upd N nt (by omega)]
        exact iYr j (by omega)
    · rw [hstep k hk]
      refine ⟨rfl, Or.inr ⟨fun w => ?_, (hVj k).symm, rfl⟩⟩
      have t := congrArg Int32.toInt w
      have := iR k
      rw [nI_toInt (by omega)] at t
      omega
end HM
