-- AN HOUR THAT GOES BY, ON BOTH SIDES
def uK (h : Nat) (hd ce g v r : Int32) : Int32 := if fWorks (nI h) v r ce = 0 then 0 else fUnits hd g v
def vK (h : Nat) (hd ce g v r : Int32) : Int32 := if fWorks (nI h) v r ce = 0 then v else fWear hd g v
theorem t1000 : (1000 : Int32).toInt = 1000 := by decide
theorem works_0 {hh v r ce : Int32} : fWorks hh v r ce = 0 ↔ (1000 ≤ v ∨ hh < r ∨ hh < ce) := by
  unfold fWorks
  by_cases a : 1000 ≤ v
  · rw [if_pos a]; exact ⟨fun _ => Or.inl a, fun _ => rfl⟩
  · rw [if_neg a]
    by_cases b : hh < r
    · rw [if_pos b]; exact ⟨fun _ => Or.inr (Or.inl b), fun _ => rfl⟩
    · rw [if_neg b]
      by_cases c : hh < ce
      · rw [if_pos c]; exact ⟨fun _ => Or.inr (Or.inr c), fun _ => rfl⟩
      · rw [if_neg c]
        exact ⟨fun h => absurd h (by decide), fun h => absurd h (fun q => q.elim a (fun q => q.elim b c))⟩
theorem lt_sub_iff {a h : Nat} (ha : a < 2 ^ 31) (hh : h < 2 ^ 31) : 0 < nI (a - h) ↔ nI h < nI a := by
  rw [← nI_0, nI_ltI (by omega) (by omega), nI_ltI hh ha]
  omega
theorem units_0 (hd v : Int32) : fUnits hd 0 v = 0 := by
  unfold fUnits
  rw [Int32.mul_zero, Int32.zero_mul]
  rfl
theorem wear_0 (hd v : Int32) : fWear hd 0 v = v := by
  unfold fWear
  rw [if_pos rfl]
theorem cap_eq (x : Int32) : (if x ≤ 1000 then x else 1000) = (if x < 1000 then x else 1000) := by
  by_cases a : x < 1000
  · rw [if_pos a, if_pos (by rw [Int32.le_iff_toInt_le]; rw [Int32.lt_iff_toInt_lt] at a; omega)]
  · rw [if_neg a]
    by_cases b : x ≤ 1000
    · rw [if_pos b]
      apply Int32.toInt_inj.mp
      rw [Int32.le_iff_toInt_le] at b
      rw [Int32.lt_iff_toInt_lt] at a
      omega
    · rw [if_neg b]
theorem mk_eq {G Vc Rc : Nat → Int32} {k h rn cn : Nat} {hd : Int32} (hV : (Vc k).toInt ≤ 1000) (hr : Rc k = nI (rn - h)) (hrn : rn < 10000) (hcn : cn < 10000) (hh : h < 1000) :
    fMk G Vc Rc (nI (cn - h)) k hd = uK h hd (nI cn) (G k) (Vc k) (nI rn) ∧ ∀ j, fMkV G Vc Rc (nI (cn - h)) k hd j = if j = k then vK h hd (nI cn) (G k) (Vc k) (nI rn) else Vc j := by
  have self : ∀ j, Vc j = if j = k then Vc k else Vc j := by
    intro j
    by_cases e : j = k
    · rw [if_pos e, e]
    · rw [if_neg e]
  have c1 : Vc k = 1000 ↔ 1000 ≤ Vc k := by
    rw [Int32.le_iff_toInt_le, t1000, ← Int32.toInt_inj, t1000]
    omega
  have c2 : 0 < Rc k ↔ nI h < nI rn := by rw [hr]; exact lt_sub_iff (by omega) (by omega)
  have c3 : 0 < nI (cn - h) ↔ nI h < nI cn := lt_sub_iff (by omega) (by omega)
  have hw := works_0 (hh := nI h) (v := Vc k) (r := nI rn) (ce := nI cn)
  unfold fMk fMkV uK vK
  by_cases a1 : Vc k = 1000
  · have w := hw.mpr (Or.inl (c1.mp a1))
    rw [if_pos a1, if_pos a1, if_pos w, if_pos w]
    exact ⟨rfl, self⟩
  · rw [if_neg a1, if_neg a1]
    by_cases a2 : 0 < Rc k
    · have w := hw.mpr (Or.inr (Or.inl (c2.mp a2)))
      rw [if_pos a2, if_pos a2, if_pos w, if_pos w]
      exact ⟨rfl, self⟩
    · rw [if_neg a2, if_neg a2]
      by_cases a3 : 0 < nI (cn - h)
      · have w := hw.mpr (Or.inr (Or.inr (c3.mp a3)))
        rw [if_pos a3, if_pos a3, if_pos w, if_pos w]
        exact ⟨rfl, self⟩
      · rw [if_neg a3, if_neg a3]
        have w : ¬ fWorks (nI h) (Vc k) (nI rn) (nI cn) = 0 := fun q => (hw.mp q).elim (fun q => a1 (c1.mpr q)) (fun q => q.elim (fun q => a2 (c2.mpr q)) (fun q => a3 (c3.mpr q)))
        rw [if_neg w, if_neg w]
        by_cases a4 : G k = 0
        · rw [if_pos a4, if_pos a4, a4, units_0, wear_0]
          exact ⟨rfl, self⟩
        · rw [if_neg a4, if_neg a4]
          have hu : ∀ x : Int32, (if x ≤ 1000 then (((hd * (G k)) * (1000 - (Vc k))) / 8000) else (((hd * (G k)) * (1000 - (Vc k))) / 8000)) = fUnits hd (G k) (Vc k) := fun x => by
            by_cases q : x ≤ 1000
            · rw [if_pos q]; rfl
            · rw [if_neg q]; rfl
          have hv : ∀ x : Int32, ∀ j, (if x ≤ 1000 then upd Vc k x else upd Vc k 1000) j = if j = k then (if x < 1000 then x else 1000) else Vc j := fun x j => by
            rw [← cap_eq]
            by_cases q : x ≤ 1000
            · rw [if_pos q, if_pos q]; rfl
            · rw [if_neg q, if_neg q]; rfl
          rw [hu, hu]
          refine ⟨by split <;> rfl, fun j => ?_⟩
          unfold fWear
          rw [if_neg a4]
          by_cases q : hd ≤ 60
          · rw [if_pos q, if_pos q, hv, Int32.add_zero]
          · rw [if_neg q, if_neg q, hv, Int32.add_assoc]
def sumU (G V R : Nat → Int32) (h : Nat) (hd ce : Int32) : Nat → Int32
  | 0 => 0
  | i + 1 => sumU G V R h hd ce i + uK h hd ce (G i) (V i) (R i)
def allV (G V R : Nat → Int32) (h : Nat) (hd ce : Int32) (i : Nat) : Nat → Int32 := fun j => if j < i then vK h hd ce (G j) (V j) (R j) else V j
theorem allV_succ (G V R : Nat → Int32) (h : Nat) (hd ce : Int32) (i j : Nat) : allV G V R h hd ce (i + 1) j = if j = i then vK h hd ce (G i) (V i) (R i) else allV G V R h hd ce i j := by
  unfold allV
  by_cases e : j = i
  · subst e
    rw [if_pos (by omega), if_pos rfl]
  · rw [if_neg e]
    by_cases q : j < i
    · rw [if_pos q, if_pos (by omega)]
    · rw [if_neg q, if_neg (by omega)]
theorem xMk_all (G V R : Nat → Int32) (h : Nat) (hd ce : Int32) (i : Nat) : xMk G R ce (nI h) hd V i = (allV G V R h hd ce i, sumU G V R h hd ce i) := by
  induction i with
  | zero =>
    show (V, (0 : Int32)) = _
    refine congrArg (fun z => (z, (0 : Int32))) (funext fun j => ?_)
    unfold allV
    rw [if_neg (by omega)]
  | succ i ih =>
    have hi : allV G V R h hd ce i i = V i := by unfold allV; rw [if_neg (by omega)]
    simp only [xMk, ih, hi]
    by_cases w : fWorks (nI h) (V i) (R i) ce = 0
    · rw [if_pos w]
      refine Prod.ext (funext fun j => ?_) ?_
      · show allV G V R h hd ce i j = allV G V R h hd ce (i + 1) j
        rw [allV_succ]
        by_cases e : j = i
        · rw [if_pos e, e, hi]
          unfold vK
          rw [if_pos w]
        · rw [if_neg e]
      · show sumU G V R h hd ce i = sumU G V R h hd ce i + uK h hd ce (G i) (V i) (R i)
        unfold uK
        rw [if_pos w, Int32.add_zero]
    · rw [if_neg w]
      refine Prod.ext (funext fun j => ?_) ?_
      · show upd (allV G V R h hd ce i) i (fWear hd (G i) (V i)) j = allV G V R h hd ce (i + 1) j
        rw [allV_succ, upd_at]
        unfold vK
        rw [if_neg w]
      · show sumU G V R h hd ce i + fUnits hd (G i) (V i) = sumU G V R h hd ce i + uK h hd ce (G i) (V i) (R i)
        unfold uK
        rw [if_neg w]
def allR (Rp : Nat → Int32) (i : Nat) : Nat → Int32 := fun j => if j < i then Rp j - (if Rp j ≤ 0 then 0 else 1) else Rp j
theorem mMk_all {G V R Rp : Nat → Int32} {h cn : Nat} (hd : Int32) (hV : ∀ j, (V j).toInt ≤ 1000) (hR : ∀ j, 0 ≤ (R j).toInt ∧ (R j).toInt < 10000) (hRp : ∀ j, Rp j = nI ((R j).toNatClampNeg - h)) (hcn : cn < 10000) (hh : h < 1000) (i : Nat) : mMk G (nI (cn - h)) hd V Rp i = (allV G V R h hd (nI cn) i, allR Rp i, sumU G V R h hd (nI cn) i) := by
  induction i with
  | zero =>
    show (V, Rp, (0 : Int32)) = _
    have e1 : allV G V R h hd (nI cn) 0 = V := funext fun j => by unfold allV; rw [if_neg (by omega)]
    have e2 : allR Rp 0 = Rp := funext fun j => by unfold allR; rw [if_neg (by omega)]
    rw [e1, e2]
    rfl
  | succ i ih =>
    have hi : allV G V R h hd (nI cn) i i = V i := by unfold allV; rw [if_neg (by omega)]
    have hri : allR Rp i i = Rp i := by unfold allR; rw [if_neg (by omega)]
    simp only [mMk, ih]
    have hm := mk_eq (G := G) (Vc := allV G V R h hd (nI cn) i) (Rc := allR Rp i) (k := i) (h := h) (rn := (R i).toNatClampNeg) (cn := cn) (hd := hd) (by rw [hi]; exact hV i) (by rw [hri]; exact hRp i) (by have := hR i; rw [clampN]; omega) hcn hh
    rw [hi, nI_clampI (hR i).1] at hm
    refine Prod.ext (funext fun j => ?_) (Prod.ext (funext fun j => ?_) ?_)
    · show fMkV G (allV G V R h hd (nI cn) i) (allR Rp i) (nI (cn - h)) i hd j = allV G V R h hd (nI cn) (i + 1) j
      rw [hm.2 j, allV_succ]
    · show upd (allR Rp i) i (allR Rp i i - if allR Rp i i ≤ 0 then 0 else 1) j = allR Rp (i + 1) j
      rw [upd_at, hri]
      unfold allR
      by_cases e : j = i
      · rw [if_pos e, e, if_pos (show i < i + 1 by omega)]
      · rw [if_neg e]
        by_cases q : j < i
        · rw [if_pos q, if_pos (show j < i + 1 by omega)]
        · rw [if_neg q, if_neg (show ¬ j < i + 1 by omega)]
    · show sumU G V R h hd (nI cn) i + fMk G (allV G V R h hd (nI cn) i) (allR Rp i) (nI (cn - h)) i hd = sumU G V R h hd (nI cn) i + uK h hd (nI cn) (G i) (V i) (R i)
      rw [hm.1]
