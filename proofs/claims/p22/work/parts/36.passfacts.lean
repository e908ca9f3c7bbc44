-- AN HOUR, AS THE LAW RECKONS IT
theorem cap_eq (x : Int32) : (if x ≤ 1000 then x else 1000) = (if x < 1000 then x else 1000) := by
  by_cases a : x < 1000
  · rw [if_pos a, if_pos (by rw [Int32.le_iff_toInt_le]; rw [Int32.lt_iff_toInt_lt] at a; omega)]
  · rw [if_neg a]
    by_cases b : x ≤ 1000
    · rw [if_pos b]
      apply Int32.toInt_inj.mp
      rw [Int32.le_iff_toInt_le] at b
      rw [Int32.lt_iff_toInt_lt] at a
      omega
    · rw [if_neg b]
theorem upd_upd (f : Nat → Int32) (k : Nat) (x y : Int32) : upd (upd f k x) k y = upd f k y := by
  funext j
  rw [upd_at, upd_at, upd_at]
  by_cases e : j = k
  · rw [if_pos e, if_pos e]
  · rw [if_neg e, if_neg e, if_neg e]
theorem upd_self (f : Nat → Int32) (k : Nat) : upd f k (f k) = f := by
  funext j
  rw [upd_at]
  by_cases e : j = k
  · rw [if_pos e, e]
  · rw [if_neg e]
section TL
variable {G V R Rp W1 M1 : Nat → Int32} {hh j cn : Nat} {hd sm d : Int32}
theorem tl_at (hW : W1 = allV G V R hh hd (nI cn) j) : W1 j = V j := by
  rw [hW]
  unfold allV
  rw [if_neg (by omega)]
theorem tl_no (w : fWorks (nI hh) (V j) (R j) (nI cn) = 0) (hW : W1 = allV G V R hh hd (nI cn) j) : W1 = allV G V R hh hd (nI cn) (j + 1) := by
  have h0 := tl_at hW
  funext i
  rw [allV_succ, ← hW]
  by_cases e : i = j
  · rw [if_pos e, e, h0]
    unfold vK
    rw [if_pos w]
  · rw [if_neg e]
theorem tl_yes (w : ¬ fWorks (nI hh) (V j) (R j) (nI cn) = 0) (hW : W1 = allV G V R hh hd (nI cn) j) : upd W1 j (fWear hd (G j) (V j)) = allV G V R hh hd (nI cn) (j + 1) := by
  funext i
  rw [allV_succ, ← hW, upd_at]
  by_cases e : i = j
  · rw [if_pos e, if_pos e]
    unfold vK
    rw [if_neg w]
  · rw [if_neg e, if_neg e]
theorem su_no (w : fWorks (nI hh) (V j) (R j) (nI cn) = 0) (hs : sm = sumU G V R hh hd (nI cn) j) : sm = sumU G V R hh hd (nI cn) (j + 1) := by
  show sm = sumU G V R hh hd (nI cn) j + uK hh hd (nI cn) (G j) (V j) (R j)
  unfold uK
  rw [if_pos w, Int32.add_zero, hs]
theorem su_yes (w : ¬ fWorks (nI hh) (V j) (R j) (nI cn) = 0) (hW : W1 = allV G V R hh hd (nI cn) j) (hs : sm = sumU G V R hh hd (nI cn) j) : sm + hd * G j * (1000 - W1 j) / 8000 = sumU G V R hh hd (nI cn) (j + 1) := by
  show _ = sumU G V R hh hd (nI cn) j + uK hh hd (nI cn) (G j) (V j) (R j)
  unfold uK
  rw [if_neg w, ← hs, tl_at hW]
  rfl
theorem mr_at (hM : M1 = allR Rp j) : M1 j = Rp j := by
  rw [hM]
  unfold allR
  rw [if_neg (by omega)]
theorem allR_succ (Rp : Nat → Int32) (j i : Nat) : allR Rp (j + 1) i = if i = j then Rp j - (if Rp j ≤ 0 then 0 else 1) else allR Rp j i := by
  unfold allR
  by_cases e : i = j
  · subst e
    rw [if_pos (by omega), if_pos rfl]
  · rw [if_neg e]
    by_cases q : i < j
    · rw [if_pos q, if_pos (by omega)]
    · rw [if_neg q, if_neg (by omega)]
theorem mr_le (hM : M1 = allR Rp j) (c : M1 j ≤ 0) : M1 = allR Rp (j + 1) := by
  have h0 := mr_at hM
  funext i
  rw [allR_succ, ← hM]
  by_cases e : i = j
  · rw [if_pos e, ← h0, if_pos c, Int32.sub_zero, e]
  · rw [if_neg e]
theorem mr_gt (hM : M1 = allR Rp j) (c : ¬ M1 j ≤ 0) : upd M1 j (M1 j - 1) = allR Rp (j + 1) := by
  have h0 := mr_at hM
  funext i
  rw [allR_succ, ← hM, upd_at]
  by_cases e : i = j
  · rw [if_pos e, if_pos e, ← h0, if_neg c]
  · rw [if_neg e, if_neg e]
theorem wk_no1 (hW : W1 = allV G V R hh hd (nI cn) j) (c : 1000 ≤ W1 j) : fWorks (nI hh) (V j) (R j) (nI cn) = 0 := works_0.mpr (Or.inl (by rw [← tl_at hW]; exact c))
theorem wk_no2 (hM : M1 = allR Rp j) (hR : Rp j = nI ((R j).toNatClampNeg - hh)) (rb : 0 ≤ (R j).toInt ∧ (R j).toInt ≤ 1000) (h1 : hh < 1000) (c : ¬ M1 j = 0) : fWorks (nI hh) (V j) (R j) (nI cn) = 0 := by
  refine works_0.mpr (Or.inr (Or.inl ?_))
  rw [mr_at hM, hR] at c
  rw [← nI_clampI rb.1]
  refine nI_lt ?_ (by rw [clampN]; omega)
  rcases Nat.lt_or_ge hh (R j).toNatClampNeg with q | q
  · exact q
  · exact absurd (by rw [Nat.sub_eq_zero_of_le q]; rfl) c
theorem wk_no3 (hc : cn < 1000) (c : ¬ nI (cn - hh) = 0) : fWorks (nI hh) (V j) (R j) (nI cn) = 0 := by
  refine works_0.mpr (Or.inr (Or.inr ?_))
  refine nI_lt ?_ (by omega)
  rcases Nat.lt_or_ge hh cn with q | q
  · exact q
  · exact absurd (by rw [Nat.sub_eq_zero_of_le q]; rfl) c
theorem wk_yes (hW : W1 = allV G V R hh hd (nI cn) j) (hM : M1 = allR Rp j) (hR : Rp j = nI ((R j).toNatClampNeg - hh)) (rb : 0 ≤ (R j).toInt ∧ (R j).toInt ≤ 1000) (h1 : hh < 1000) (hc : cn < 1000) (c1 : ¬ 1000 ≤ W1 j) (c2 : M1 j = 0) (c3 : nI (cn - hh) = 0) : ¬ fWorks (nI hh) (V j) (R j) (nI cn) = 0 := by
  intro w
  rcases works_0.mp w with q | q | q
  · exact c1 (by rw [tl_at hW]; exact q)
  · rw [mr_at hM, hR] at c2
    rw [← nI_clampI rb.1, nI_ltI (by omega) (by rw [clampN]; omega)] at q
    exact nI_ne0 (n := (R j).toNatClampNeg - hh) (by omega) (by rw [clampN]; omega) c2
  · rw [nI_ltI (by omega) (by omega)] at q
    exact nI_ne0 (n := cn - hh) (by omega) (by omega) c3
theorem v_le (hW : W1 = allV G V R hh hd (nI cn) j) (hv : (V j).toInt ≤ 1000) : W1 j ≤ 1000 := by
  rw [tl_at hW, Int32.le_iff_toInt_le, t1000]
  exact hv
theorem we_0 (w : ¬ fWorks (nI hh) (V j) (R j) (nI cn) = 0) (hW : W1 = allV G V R hh hd (nI cn) j) (g0 : 0 ≤ (G j).toInt) (cg : G j ≤ 0) : W1 = allV G V R hh hd (nI cn) (j + 1) := by
  have hg : G j = 0 := by
    apply Int32.toInt_inj.mp
    rw [Int32.le_iff_toInt_le, toI_0] at cg
    rw [toI_0]
    omega
  rw [← tl_yes w hW, hg, wear_0, ← tl_at hW, upd_self]
theorem wear_law {g v : Int32} (cg : ¬ g ≤ 0) (ch : (hd ≤ 60 ∧ d = 0) ∨ (¬ hd ≤ 60 ∧ d = 2)) : fWear hd g v = if v + (g + d) ≤ 1000 then v + (g + d) else 1000 := by
  have hg : ¬ g = 0 := fun h => cg (by rw [h]; decide)
  unfold fWear
  rw [if_neg hg, cap_eq]
  rcases ch with ⟨c1, c2⟩ | ⟨c1, c2⟩
  · rw [if_pos c1, c2, Int32.add_zero]
  · rw [if_neg c1, c2]
theorem we_le (w : ¬ fWorks (nI hh) (V j) (R j) (nI cn) = 0) (hW : W1 = allV G V R hh hd (nI cn) j) (cg : ¬ G j ≤ 0) (ch : (hd ≤ 60 ∧ d = 0) ∨ (¬ hd ≤ 60 ∧ d = 2)) (c : upd W1 j (W1 j + (G j + d)) j ≤ 1000) : upd W1 j (W1 j + (G j + d)) = allV G V R hh hd (nI cn) (j + 1) := by
  rw [upd_at, if_pos rfl] at c
  rw [← tl_yes w hW, wear_law cg ch, ← tl_at hW, if_pos c]
theorem we_gt (w : ¬ fWorks (nI hh) (V j) (R j) (nI cn) = 0) (hW : W1 = allV G V R hh hd (nI cn) j) (cg : ¬ G j ≤ 0) (ch : (hd ≤ 60 ∧ d = 0) ∨ (¬ hd ≤ 60 ∧ d = 2)) (c : ¬ upd W1 j (W1 j + (G j + d)) j ≤ 1000) : upd (upd W1 j (W1 j + (G j + d))) j 1000 = allV G V R hh hd (nI cn) (j + 1) := by
  rw [upd_at, if_pos rfl] at c
  rw [upd_upd, ← tl_yes w hW, wear_law cg ch, ← tl_at hW, if_neg c]
end TL
section PASS
variable {L P G V R N Y S Rp : Nat → Int32} {T h t : Nat} {wd ce cl mv : Int32} {mo : UInt32}
theorem hour_facts (I : InvL L P G V R N Y S Rp T h t wd ce cl mv mo) (ft fl : Int32) :
    ∃ (V2 : Nat → Int32) (sm hd nt : Int32) (cn : Nat) (mo2 : UInt32),
      xGo L P G R S wd fl T h (V, N, Y, ft, ce, mo) = (V2, upd N h nt, upd Y h sm, 0, nI cn, mo2) ∧ hd = fAbsX (L (h % 24) + wd) ∧ fHead nt = hd ∧ V2 = allV G V R h hd (nI cn) T ∧ sm = sumU G V R h hd (nI cn) T ∧ mClo ft fl cl = nI (cn - h) ∧ mo2 = xMo mo sm (S h) (P (h % 24)) ∧ (0 ≤ sm.toInt ∧ sm.toInt ≤ 420) ∧ cn ≤ h + 3 ∧
      (∃ O D : Nat → Int32, Inv L P G V2 R (upd N h nt) (upd Y h sm) S T (h + 1) wd (nI cn) mo2 (allR Rp T) O D (nI (cn - (h + 1)))) ∧
      ((∀ j, (V j).toInt ≤ 1000) ∧ (∀ j, 0 ≤ (R j).toInt ∧ (R j).toInt ≤ 1000) ∧ (∀ j, Rp j = nI ((R j).toNatClampNeg - h)) ∧ (∀ j, 0 ≤ (G j).toInt)) ∧
      (0 ≤ (S h).toInt ∧ (S h).toInt ≤ 1000) ∧ (1 ≤ (P (h % 24)).toInt ∧ (P (h % 24)).toInt ≤ 20) := by
  obtain ⟨⟨O, D, i⟩, r1, r2, r3, r4⟩ := I
  obtain ⟨V2, O2, sm, c2, hd, nt, mo2, fx, ⟨f1, f2, f3, f4, f5, f6, f7, f8, f9, f10⟩, I2⟩ := Inv_hour i (by omega) ft fl
  obtain ⟨⟨iT, ih⟩, ⟨iL, iwd⟩, iP, ⟨iG, i0⟩, ⟨iV, iS, iY⟩, iM, ⟨iR, iRp⟩, -⟩ := i
  obtain ⟨cn, hcn⟩ : ∃ cn, cn = c2.toNatClampNeg := ⟨_, rfl⟩
  have e2 : nI cn = c2 := by rw [hcn]; exact nI_clampI f9
  rw [← hcn] at f5 I2
  rw [← e2] at f3 f4 fx I2
  have hcl : cn ≤ h + 3 := by rw [hcn, clampN]; omega
  exact ⟨V2, sm, hd, nt, cn, mo2, fx, f1, f2, f3, f4, f5, f6, f8, hcl, ⟨O2, _, I2⟩, ⟨fun j => (iV j).2, fun j => ⟨(iR j).1, by have := (iR j).2; omega⟩, iRp, fun j => (iG j).1⟩, iS h, (iP _ (Nat.mod_lt _ (by decide))).1, r3 _⟩
theorem Inv_at (I : ∃ O D : Nat → Int32, Inv L P G V R N Y S T h wd ce mo Rp O D cl) (ft fl : Int32) (j : Nat) (hj : h + j ≤ 500) : ∃ (V' N' Y' Rp' : Nat → Int32) (ft' ce' cl' : Int32) (mo' : UInt32), xGoN L P G R S wd fl T h j (V, N, Y, ft, ce, mo) = (V', N', Y', ft', ce', mo') ∧ ∃ O D : Nat → Int32, Inv L P G V' R N' Y' S T (h + j) wd ce' mo' Rp' O D cl' := by
  induction j with
  | zero => exact ⟨V, N, Y, Rp, ft, ce, cl, mo, rfl, I⟩
  | succ j ih =>
    obtain ⟨V', N', Y', Rp', ft', ce', cl', mo', e1, O', D', I'⟩ := ih (by omega)
    obtain ⟨V2, O2, sm, c2, hd, nt, mo2, fx, -, I2⟩ := Inv_hour I' (by omega) ft' fl
    refine ⟨V2, upd N' (h + j) nt, upd Y' (h + j) sm, allR Rp' T, 0, c2, nI (c2.toNatClampNeg - (h + j + 1)), mo2, ?_, O2, _, I2⟩
    show xGo L P G R S wd fl T (h + j) (xGoN L P G R S wd fl T h j (V, N, Y, ft, ce, mo)) = _
    rw [e1, fx]
theorem Inv_atX (I : ∃ O D : Nat → Int32, Inv L P G V R N Y S T h wd ce mo Rp O D cl) (ft fl : Int32) (ct : Nat) (hc : h + ct ≤ 500) : ∀ j : Nat, j < ct → FP.Core.FFin (xGoN L P G R S wd fl T h j (V, N, Y, ft, ce, mo)).2.2.2.2.2 := by
  intro j hj
  obtain ⟨V', N', Y', Rp', ft', ce', cl', mo', e1, O', D', I'⟩ := Inv_at I ft fl j (by omega)
  rw [e1]
  exact I'.2.2.2.2.2.1.fin
theorem xGoN_keep {fl : Int32} (g : XG) {i d x : Nat} (hx : x < h + i) : (xGoN L P G R S wd fl T h (i + d) g).2.2.1 x = (xGoN L P G R S wd fl T h i g).2.2.1 x ∧ (xGoN L P G R S wd fl T h (i + d) g).2.1 x = (xGoN L P G R S wd fl T h i g).2.1 x := by
  induction d with
  | zero => exact ⟨rfl, rfl⟩
  | succ d ih =>
    refine ⟨?_, ?_⟩
    · rw [← ih.1]
      show upd (xGoN L P G R S wd fl T h (i + d) g).2.2.1 (h + (i + d)) _ x = _
      rw [upd_at, if_neg (by omega)]
    · rw [← ih.2]
      show upd (xGoN L P G R S wd fl T h (i + d) g).2.1 (h + (i + d)) _ x = _
      rw [upd_at, if_neg (by omega)]
theorem step_keep {fl : Int32} {g : XG} {i ct : Nat} {Vf Nf Yf V2 N1 Y1 : Nat → Int32} {ftf cef f2 c2 nt sm : Int32} {mof mo2 : UInt32} (eG : xGoN L P G R S wd fl T h ct g = (Vf, Nf, Yf, ftf, cef, mof)) (e1 : xGoN L P G R S wd fl T h (i + 1) g = (V2, upd N1 (h + i) nt, upd Y1 (h + i) sm, f2, c2, mo2)) (hi : i + 1 ≤ ct) : Yf (h + i) = sm ∧ Nf (h + i) = nt := by
  obtain ⟨d, rfl⟩ : ∃ d, ct = i + 1 + d := ⟨ct - (i + 1), by omega⟩
  have k := xGoN_keep (L := L) (P := P) (G := G) (R := R) (S := S) (wd := wd) (T := T) (h := h) (fl := fl) g (i := i + 1) (d := d) (x := h + i) (by omega)
  rw [eG, e1] at k
  have k1 : Yf (h + i) = upd Y1 (h + i) sm (h + i) := k.1
  have k2 : Nf (h + i) = upd N1 (h + i) nt (h + i) := k.2
  rw [upd_at, if_pos rfl] at k1 k2
  exact ⟨k1, k2⟩
theorem decm {a : Nat} (h0 : 0 < a) : nI a + (-1) = nI (a - 1) := by
  obtain ⟨k, rfl⟩ : ∃ k, a = k + 1 := ⟨a - 1, by omega⟩
  rw [← nI_1, Int32.add_assoc, show (1 : Int32) + (-1) = 0 from rfl, Int32.add_zero]
  rfl
theorem nI_mulN (a b : Nat) : nI a * nI b = nI (a * b) := (Int32.ofNat_mul a b).symm
end PASS
