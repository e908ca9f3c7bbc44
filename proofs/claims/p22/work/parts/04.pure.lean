-- WHAT EACH CALL ANSWERS: 0 it returns, else which of its exceptions is due
abbrev oI (i lo hi : Int32) : Prop := i < lo ∨ hi < i
def kTide (h v : Int32) : Int32 := if oI h 0 23 then 1 else if oI v (-100) 100 then 2 else 0
def kPrice (h v : Int32) : Int32 := if oI h 0 23 then 1 else if oI v 1 200 then 2 else 0
def kWind (w : Int32) : Int32 := if oI w (-20) 20 then 1 else 0
def kTurb (tb : Int32) : Int32 := if tb < 4 then 0 else 1
def kGate (tb t g : Int32) : Int32 := if oI t 0 (tb - 1) then 1 else if oI g 0 7 then 2 else 0
def kRep (tb t : Int32) : Int32 := if oI t 0 (tb - 1) then 1 else 0
def kFish (f : Int32) : Int32 := if oI f 0 1000 then 1 else 0
def kSell (S : Nat → Int32) (nh h u q : Int32) : Int32 := if oI h nh (nh + 47) then 1 else if oI u 1 500 then 2 else if oI q 1 200 then 2 else if S h.toNatClampNeg + u ≤ 1000 then 0 else 3
def kPass (nh n : Int32) : Int32 := if oI n 1 48 then 1 else if nh + n ≤ 500 then 0 else 2
def kGone (nh h : Int32) : Int32 := if oI h 0 (nh - 1) then 1 else 0
def kSold (nh h : Int32) : Int32 := if oI h 0 (nh + 47) then 1 else 0
def kAbout (tb t w : Int32) : Int32 := if oI t 0 (tb - 1) then 1 else if oI w 0 2 then 2 else 0
-- NUMBERS
theorem i32_sub {a b : Int32} (h1 : -2147483648 ≤ a.toInt - b.toInt) (h2 : a.toInt - b.toInt < 2147483648) : (a - b).toInt = a.toInt - b.toInt := by
  rw [Int32.toInt_sub]
  exact Int.bmod_eq_of_le (by omega) (by omega)
theorem i32_add {a b : Int32} (h1 : -2147483648 ≤ a.toInt + b.toInt) (h2 : a.toInt + b.toInt < 2147483648) : (a + b).toInt = a.toInt + b.toInt := by
  rw [Int32.toInt_add]
  exact Int.bmod_eq_of_le (by omega) (by omega)
theorem i32_mul {a b : Int32} (h1 : -2147483648 ≤ a.toInt * b.toInt) (h2 : a.toInt * b.toInt < 2147483648) : (a * b).toInt = a.toInt * b.toInt := by
  rw [Int32.toInt_mul]
  exact Int.bmod_eq_of_le (by omega) (by omega)
theorem vp_out {i b : Int32} {n : Nat} (g : ¬ oI i 0 b) (hb : b.toInt < n) : vp_in i n := vp_of (fun h => g (Or.inl h)) (fun h => g (Or.inr h)) hb
theorem vp_pred {i m : Int32} {n : Nat} (g : ¬ oI i 0 (m - 1)) (h0 : 0 ≤ m.toInt) (h1 : m.toInt ≤ n) : vp_in i n := by
  have h9 : (1 : Int32).toInt = 1 := by decide
  refine vp_out g ?_
  rw [i32_sub (by omega) (by have := Int32.toInt_lt m; omega)]
  omega
theorem vp_47 {i m lo : Int32} {n : Nat} (g : ¬ oI i lo (m + 47)) (hlo : 0 ≤ lo.toInt) (h0 : 0 ≤ m.toInt) (h1 : m.toInt ≤ 500) (hn : 547 < n) : vp_in i n := by
  have h9 : (47 : Int32).toInt = 47 := by decide
  have h8 : (0 : Int32).toInt = 0 := by decide
  have e : (m + 47).toInt = m.toInt + 47 := by rw [i32_add (by omega) (by omega), h9]
  refine vp_of (fun h => g (Or.inl ?_)) (fun h => g (Or.inr h)) (by omega)
  rw [Int32.lt_iff_toInt_lt] at h ⊢
  omega
theorem nI_mod24 {n : Nat} (h : n < 1000) : nI n - nI n / 24 * 24 = nI (n % 24) := by
  have h24 : (24 : Int32).toInt = 24 := by decide
  have e1 : (nI n).toInt = (n : Int) := nI_toInt (by omega)
  have e2 : (nI (n % 24)).toInt = ((n % 24 : Nat) : Int) := nI_toInt (by omega)
  have e3 : (nI n / 24).toInt = (n : Int) / 24 := by
    rw [Int32.toInt_div_of_ne_right (nI n) 24 (by decide), e1, h24]
    exact Int.tdiv_eq_ediv_of_nonneg (by omega)
  have e4 : (nI n / 24 * 24).toInt = (n : Int) / 24 * 24 := by
    rw [i32_mul (by rw [e3, h24]; omega) (by rw [e3, h24]; omega), e3, h24]
  apply Int32.toInt_inj.mp
  rw [i32_sub (by rw [e1, e4]; omega) (by rw [e1, e4]; omega), e1, e4, e2]
  omega
