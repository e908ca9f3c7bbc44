-- AN HOUR THAT GOES BY, ON BOTH SIDES
def uK (h : Nat) (hd ce g v r : Int32) : Int32 := if fWorks (nI h) v r ce = 0 then 0 else fUnits hd g v
def vK (h : Nat) (hd ce g v r : Int32) : Int32 := if fWorks (nI h) v r ce = 0 then v else fWear hd g v
theorem t1000 : (1000 : Int32).toInt = 1000 := by decide
theorem works_0 {hh v r ce : Int32} : fWorks hh v r ce = 0 ↔ (1000 ≤ v ∨ hh < r ∨ hh < ce) := by
  unfold fWorks
  by_cases a : 1000 ≤ v
  · rw [if_pos a]; exact ⟨fun _ => Or.inl a, fun _ => rfl⟩
  · rw [if_neg a]
    by_cases b : hh < r
    · rw [if_pos b]; exact ⟨fun _ => Or.inr (Or.inl b), fun _ => rfl⟩
    · rw [if_neg b]
      by_cases c : hh < ce
      · rw [if_pos c]; exact ⟨fun _ => Or.inr (Or.inr c), fun _ => rfl⟩
      · rw [if_neg c]
        exact ⟨fun h => absurd h (by decide), fun h => absurd h (fun q => q.elim a (fun q => q.elim b c))⟩
theorem lt_sub_iff {a h : Nat} (ha : a < 2 ^ 31) (hh : h < 2 ^ 31) : 0 < nI (a - h) ↔ nI h < nI a := by
  rw [← nI_0, nI_ltI (by omega) (by omega), nI_ltI hh ha]
  omega
theorem units_0 (hd v : Int32) : fUnits hd 0 v = 0 := by
  unfold fUnits
  rw [Int32.mul_zero, Int32.zero_mul]
  rfl
theorem wear_0 (hd v : Int32) : fWear hd 0 v = v := by
  unfold fWear
  rw [if_pos rfl]
def sumU (G V R : Nat → Int32) (h : Nat) (hd ce : Int32) : Nat → Int32
  | 0 => 0
  | i + 1 => sumU G V R h hd ce i + uK h hd ce (G i) (V i) (R i)
def allV (G V R : Nat → Int32) (h : Nat) (hd ce : Int32) (i : Nat) : Nat → Int32 := fun j => if j < i then vK h hd ce (G j) (V j) (R j) else V j
theorem allV_succ (G V R : Nat → Int32) (h : Nat) (hd ce : Int32) (i j : Nat) : allV G V R h hd ce (i + 1) j = if j = i then vK h hd ce (G i) (V i) (R i) else allV G V R h hd ce i j := by
  unfold allV
  by_cases e : j = i
  · subst e
    rw [if_pos (by omega), if_pos rfl]
  · rw [if_neg e]
    by_cases q : j < i
    · rw [if_pos q, if_pos (by omega)]
    · rw [if_neg q, if_neg (by omega)]
theorem xMk_all (G V R : Nat → Int32) (h : Nat) (hd ce : Int32) (i : Nat) : xMk G R ce (nI h) hd V i = (allV G V R h hd ce i, sumU G V R h hd ce i) := by
  induction i with
  | zero =>
    show (V, (0 : Int32)) = _
    refine congrArg (fun z => (z, (0 : Int32))) (funext fun j => ?_)
    unfold allV
    rw [if_neg (by omega)]
  | succ i ih =>
    have hi : allV G V R h hd ce i i = V i := by unfold allV; rw [if_neg (by omega)]
    simp only [xMk, ih, hi]
    by_cases w : fWorks (nI h) (V i) (R i) ce = 0
    · rw [if_pos w]
      refine Prod.ext (funext fun j => ?_) ?_
      · show allV G V R h hd ce i j = allV G V R h hd ce (i + 1) j
        rw [allV_succ]
        by_cases e : j = i
        · rw [if_pos e, e, hi]
          unfold vK
          rw [if_pos w]
        · rw [if_neg e]
      · show sumU G V R h hd ce i = sumU G V R h hd ce i + uK h hd ce (G i) (V i) (R i)
        unfold uK
        rw [if_pos w, Int32.add_zero]
    · rw [if_neg w]
      refine Prod.ext (funext fun j => ?_) ?_
      · show upd (allV G V R h hd ce i) i (fWear hd (G i) (V i)) j = allV G V R h hd ce (i + 1) j
        rw [allV_succ, upd_at]
        unfold vK
        rw [if_neg w]
      · show sumU G V R h hd ce i + fUnits hd (G i) (V i) = sumU G V R h hd ce i + uK h hd ce (G i) (V i) (R i)
        unfold uK
        rw [if_neg w]
def allR (Rp : Nat → Int32) (i : Nat) : Nat → Int32 := fun j => if j < i then Rp j - (if Rp j ≤ 0 then 0 else 1) else Rp j
