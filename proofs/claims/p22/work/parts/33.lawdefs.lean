-- THE LAW: its world, its invariant
/-- the law's own arrays -/
abbrev lW (B : Nat → Nat) (cA : ClassId) (L P G V M S Y : Nat → Int32) : va_W := [(B 0, .inl (cA, 24, .inl L)), (B 1, .inl (cA, 24, .inl P)), (B 2, .inl (cA, 4, .inl G)), (B 3, .inl (cA, 4, .inl V)), (B 4, .inl (cA, 4, .inl M)), (B 5, .inl (cA, 64, .inl S)), (B 6, .inl (cA, 64, .inl Y))]
/-- from here, over this world and with these locals, the law ends well -/
def lwP (p : Program) (l : Launch) (e : Env) (s : State) (m : MethodId) (below : List Frame) (meth : Method) (c : Code) (b : Nat) (dG : va_G) (pc : Nat) (ws : va_W) (lv : List (Nat × Value)) : Prop :=
  ∀ (H : Heap) (locs : List Loc) (ls : Array Slot), va_P dG vwCl ws H → va_D (aNew s.heap) ws → va_S (aNew s.heap) s.heap H locs → lv_has ls 27 lv → W p l e room_1 s m #[Value.ref b] below meth c H locs 16 1811 (lw_Z below #[Value.ref b] s) (F0 m pc ls [])
def InvL (L P G V R N Y S Rp : Nat → Int32) (T h t : Nat) (wd ce cl mv : Int32) (mo : UInt32) : Prop :=
  (∃ O D : Nat → Int32, Inv L P G V R N Y S T h wd ce mo Rp O D cl) ∧ h ≤ 59 ∧ t ≤ 60 ∧ (∀ j, (P j).toInt ≤ 20) ∧ mF mv.toInt mo ∧ (-(4000 * (t : Int) + 40000 * (h : Int)) ≤ mv.toInt ∧ mv.toInt ≤ 4000 * (t : Int) + 40000 * (h : Int))
abbrev lV (A B : Nat → Nat) (b : Nat) (wd tb ft fl cl nh mv tt : Int32) : List (Nat × Value) := [(0, .ref b), (1, .ref (A 0)), (2, .ref (B 0)), (3, .ref (B 1)), (4, .ref (B 2)), (5, .ref (B 3)), (6, .ref (B 4)), (7, .ref (B 5)), (8, .ref (B 6)), (9, .int wd), (10, .int tb), (11, .int ft), (12, .int fl), (13, .int cl), (14, .int nh), (15, .int mv), (16, .int tt)]
/-- the law at a place, t turns begun: whatever the state is -/
def lwHead (p : Program) (l : Launch) (e : Env) (s : State) (m : MethodId) (below : List Frame) (meth : Method) (c : Code) (b : Nat) (dG : va_G) (A B : Nat → Nat) (cA : ClassId) (pc t τ : Nat) (ex : List (Nat × Value)) : Prop :=
  ∀ (L P G V R N Y S Rp : Nat → Int32) (T h : Nat) (wd ft fl ce cl mv : Int32) (mo : UInt32), InvL L P G V R N Y S Rp T h τ wd ce cl mv mo → lwP p l e s m below meth c b dG pc (xW A cA L P G V R N Y S wd (nI T) ft fl ce (nI h) mo ++ lW B cA L P G V Rp S Y) (lV A B b wd (nI T) ft fl cl (nI h) mv (nI t) ++ ex)
section RANGES
theorem oI_m100 {j : Nat} (h : j < 201) : ¬ oI (nI j - 100) (-100) 100 := by
  have e1 : (100 : Int32).toInt = 100 := by decide
  have e2 : (-100 : Int32).toInt = -100 := by decide
  have e3 : (nI j - 100).toInt = (j : Int) - 100 := by rw [i32_sub (by rw [nI_toInt (by omega), e1]; omega) (by rw [nI_toInt (by omega), e1]; omega), nI_toInt (by omega), e1]
  intro w
  rcases w with w | w
  · rw [Int32.lt_iff_toInt_lt] at w; omega
  · rw [Int32.lt_iff_toInt_lt] at w; omega
theorem oI_m20 {j : Nat} (h : j < 41) : ¬ oI (nI j - 20) (-20) 20 := by
  have e1 : (20 : Int32).toInt = 20 := by decide
  have e2 : (-20 : Int32).toInt = -20 := by decide
  have e3 : (nI j - 20).toInt = (j : Int) - 20 := by rw [i32_sub (by rw [nI_toInt (by omega), e1]; omega) (by rw [nI_toInt (by omega), e1]; omega), nI_toInt (by omega), e1]
  intro w
  rcases w with w | w
  · rw [Int32.lt_iff_toInt_lt] at w; omega
  · rw [Int32.lt_iff_toInt_lt] at w; omega
theorem oI_le {j lo9 hi : Nat} (h1 : lo9 ≤ j) (h2 : j ≤ hi) (h3 : hi < 2 ^ 31) : ¬ oI (nI j) (nI lo9) (nI hi) := oI_nI h1 h2 h3
theorem oI_47 {j h : Nat} (h1 : h ≤ j) (h2 : j ≤ h + 47) (h3 : h < 1000) : ¬ oI (nI j) (nI h) (nI h + 47) := by
  have e : nI h + 47 = nI (h + 47) := nI_add h 47
  rw [e]
  exact oI_nI h1 h2 (by omega)
theorem oI_047 {j h : Nat} (h2 : j ≤ h + 47) (h3 : h < 1000) : ¬ oI (nI j) 0 (nI h + 47) := by
  have e : nI h + 47 = nI (h + 47) := nI_add h 47
  rw [e]
  exact oI_nI (lo := 0) (by omega) h2 (by omega)
theorem nIb {n : Nat} (h : n < 2 ^ 31) {b : Int} (hb : (n : Int) ≤ b) : 0 ≤ (nI n).toInt ∧ (nI n).toInt ≤ b := by
  rw [nI_toInt h]
  omega
end RANGES
section KMK
theorem kTide_mk {a b : Int32} (q1 : ¬ oI a 0 23) (q2 : ¬ oI b (-100) 100) : kTide a b = 0 := by unfold kTide; rw [if_neg q1, if_neg q2]
theorem kPrice_mk {a b : Int32} (q1 : ¬ oI a 0 23) (q2 : ¬ oI b 1 200) : kPrice a b = 0 := by unfold kPrice; rw [if_neg q1, if_neg q2]
theorem kWind_mk {a : Int32} (q1 : ¬ oI a (-20) 20) : kWind a = 0 := by unfold kWind; rw [if_neg q1]
theorem kGate_mk {tb k g : Int32} (q1 : ¬ oI k 0 (tb - 1)) (q2 : ¬ oI g 0 7) : kGate tb k g = 0 := by unfold kGate; rw [if_neg q1, if_neg q2]
theorem kRep_mk {tb k : Int32} (q1 : ¬ oI k 0 (tb - 1)) : kRep tb k = 0 := by unfold kRep; rw [if_neg q1]
theorem kSell_mk {S : Nat → Int32} {nh h u q : Int32} (q1 : ¬ oI h nh (nh + 47)) (q2 : ¬ oI u 1 500) (q3 : ¬ oI q 1 200) (q4 : S h.toNatClampNeg + u ≤ 1000) : kSell S nh h u q = 0 := by unfold kSell; rw [if_neg q1, if_neg q2, if_neg q3, if_pos q4]
end KMK
theorem pos_diff {x y : Int32} (hx : 0 ≤ x.toInt ∧ x.toInt ≤ 10000) (hy : 0 ≤ y.toInt ∧ y.toInt ≤ 10000) : (if 0 < x - y then x - y else 0) = nI (x.toNatClampNeg - y.toNatClampNeg) := by
  have e : (x - y).toInt = x.toInt - y.toInt := i32_sub (by omega) (by omega)
  by_cases c : 0 < x - y
  · rw [if_pos c]
    rw [Int32.lt_iff_toInt_lt, e, toI_0] at c
    exact sub_nI hy.1 (by omega)
  · rw [if_neg c]
    rw [Int32.lt_iff_toInt_lt, e, toI_0] at c
    have z : x.toNatClampNeg - y.toNatClampNeg = 0 := by rw [clampN, clampN]; omega
    rw [z]
    rfl
section STEPS
variable {L P G V R N Y S Rp : Nat → Int32} {T h t : Nat} {wd ce cl mv : Int32} {mo : UInt32}
theorem InvL.mono (I : InvL L P G V R N Y S Rp T h t wd ce cl mv mo) (ht : t < 60) : InvL L P G V R N Y S Rp T h (t + 1) wd ce cl mv mo := by
  obtain ⟨i1, i2, i3, i4, i5, i6, i7⟩ := I
  exact ⟨i1, i2, by omega, i4, i5, by omega, by omega⟩
theorem InvL.T4 (I : InvL L P G V R N Y S Rp T h t wd ce cl mv mo) : T ≤ 4 := by
  obtain ⟨⟨O, D, i⟩, -⟩ := I
  exact i.1.1
theorem InvL.h59 (I : InvL L P G V R N Y S Rp T h t wd ce cl mv mo) : h ≤ 59 := I.2.1
theorem InvL_tide (I : InvL L P G V R N Y S Rp T h t wd ce cl mv mo) {n : Nat} {v : Int32} (hn : n < 2 ^ 31) (q1 : ¬ oI (nI n) 0 23) (q2 : ¬ oI v (-100) 100) : InvL (upd L n v) P G V R N Y S Rp T h t wd ce cl mv mo := by
  obtain ⟨⟨O, D, i⟩, r⟩ := I
  have i2 := Inv_tide i (kTide_mk q1 q2)
  rw [nI_clamp hn] at i2
  exact ⟨⟨O, D, i2⟩, r⟩
theorem InvL_price (I : InvL L P G V R N Y S Rp T h t wd ce cl mv mo) {n : Nat} {v : Int32} (hn : n < 2 ^ 31) (q1 : ¬ oI (nI n) 0 23) (q2 : ¬ oI v 1 200) (h20 : v.toInt ≤ 20) : InvL L (upd P n v) G V R N Y S Rp T h t wd ce cl mv mo := by
  obtain ⟨⟨O, D, i⟩, r1, r2, r3, r4⟩ := I
  have i2 := Inv_price i (kPrice_mk q1 q2)
  rw [nI_clamp hn] at i2
  exact ⟨⟨O, D, i2⟩, r1, r2, upd_all (Q := fun x => x.toInt ≤ 20) r3 h20, r4⟩
theorem InvL_wind (I : InvL L P G V R N Y S Rp T h t wd ce cl mv mo) {v : Int32} (q1 : ¬ oI v (-20) 20) : InvL L P G V R N Y S Rp T h t v ce cl mv mo := by
  obtain ⟨⟨O, D, i⟩, r⟩ := I
  exact ⟨⟨O, D, Inv_wind i (kWind_mk q1)⟩, r⟩
theorem kTurb_mk {T : Nat} (h : T < 4) : kTurb (nI T) = 0 := by
  unfold kTurb
  exact if_pos (nI_lt (b := 4) h (by omega))
theorem InvL_turbine (I : InvL L P G V R N Y S Rp T h t wd ce cl mv mo) (hT : T < 4) : InvL L P G V R N Y S Rp (T + 1) h t wd ce cl mv mo := by
  obtain ⟨⟨O, D, i⟩, r⟩ := I
  exact ⟨⟨O, D, Inv_turbine i (kTurb_mk hT)⟩, r⟩
theorem InvL_gate (I : InvL L P G V R N Y S Rp T h t wd ce cl mv mo) {n : Nat} {v : Int32} (hn : n < T) (q2 : ¬ oI v 0 7) : InvL L P (upd G n v) V R N Y S Rp T h t wd ce cl mv mo := by
  have hT := I.T4
  obtain ⟨⟨O, D, i⟩, r⟩ := I
  have i2 := Inv_gate i (kGate_mk (oI_gone hn (by omega)) q2)
  rw [nI_clamp (by omega)] at i2
  exact ⟨⟨O, D, i2⟩, r⟩
theorem InvL_repair (I : InvL L P G V R N Y S Rp T h t wd ce cl mv mo) {n : Nat} (hn : n < T) : InvL L P G (upd V n 0) (upd R n (nI h + 5)) N Y S (upd Rp n 5) T h t wd ce cl mv mo := by
  have hT := I.T4
  obtain ⟨⟨O, D, i⟩, r⟩ := I
  have i2 := Inv_repair i (kRep_mk (oI_gone hn (by omega)))
  rw [nI_clamp (by omega)] at i2
  exact ⟨⟨O, D, i2⟩, r⟩
theorem InvL_sell (I : InvL L P G V R N Y S Rp T h t wd ce cl mv mo) (ht : t < 60) {n u q : Nat} (q1 : ¬ oI (nI n) (nI h) (nI h + 47)) (hn : n < 2 ^ 31) (hu : 1 ≤ u ∧ u ≤ 100) (hq : 1 ≤ q ∧ q ≤ 20) (hs : S n + nI u ≤ 1000) : InvL L P G V R N Y (upd S n (S n + nI u)) Rp T h (t + 1) wd ce cl (mv + 2 * nI u * nI q) (FP.fadd mo (fWorth (nI u) (nI q))) := by
  obtain ⟨⟨O, D, i⟩, r1, r2, r3, r4, r5, r6⟩ := I
  have q2 : ¬ oI (nI u) 1 500 := oI_nI (lo := 1) (hi := 500) hu.1 (by omega) (by omega)
  have q3 : ¬ oI (nI q) 1 200 := oI_nI (lo := 1) (hi := 200) hq.1 (by omega) (by omega)
  have i2 := Inv_sell i (kSell_mk q1 q2 q3 (by rw [nI_clamp hn]; exact hs))
  rw [nI_clamp hn] at i2
  have tu : (nI u).toInt = (u : Int) := nI_toInt (by omega)
  have tq : (nI q).toInt = (q : Int) := nI_toInt (by omega)
  obtain ⟨m1, m2, m3⟩ := mF_sale (X := 4000 * (t : Int) + 40000 * (h : Int)) r4 ⟨r5, r6⟩ (by omega) (u := nI u) (q := nI q) (by omega) (by omega)
  exact ⟨⟨O, D, i2⟩, r1, by omega, r3, m1, by omega, by omega⟩
theorem InvL.fin (I : InvL L P G V R N Y S Rp T h t wd ce cl mv mo) : FP.Core.FFin mo := by
  obtain ⟨⟨O, D, i⟩, -⟩ := I
  exact i.2.2.2.2.2.1.fin
theorem InvL.good (I : InvL L P G V R N Y S Rp T h t wd ce cl mv mo) : gF mo := by
  obtain ⟨⟨O, D, i⟩, -⟩ := I
  exact i.2.2.2.2.2.1
theorem InvL.rep (I : InvL L P G V R N Y S Rp T h t wd ce cl mv mo) (j : Nat) : (if 0 < R j - nI h then R j - nI h else 0) = Rp j := by
  obtain ⟨⟨O, D, ⟨-, ih⟩, -, -, -, -, -, ⟨iR, iRp⟩, -⟩, -⟩ := I
  have := iR j
  have t : (nI h).toInt = (h : Int) := nI_toInt (by omega)
  rw [pos_diff (by omega) (by omega), iRp j, nI_clamp (by omega)]
theorem InvL.clo (I : InvL L P G V R N Y S Rp T h t wd ce cl mv mo) : (if 0 < ce - nI h then ce - nI h else 0) = cl := by
  obtain ⟨⟨O, D, ⟨-, ih⟩, -, -, -, -, -, -, ⟨ic, icl⟩, -⟩, -⟩ := I
  have t : (nI h).toInt = (h : Int) := nI_toInt (by omega)
  rw [pos_diff (by omega) (by omega), icl, nI_clamp (by omega)]
theorem InvL.anew (I : InvL L P G V R N Y S Rp T h t wd ce cl mv mo) {j : Nat} (hj : j < h) : rpS N j 4 = Y j := by
  obtain ⟨⟨O, D, ⟨-, ih⟩, -, -, -, -, -, -, -, -, -, iY, -⟩, -⟩ := I
  exact (iY j hj).symm
theorem InvL.mvb (I : InvL L P G V R N Y S Rp T h t wd ce cl mv mo) : -(2 ^ 24) < mv.toInt ∧ mv.toInt < 2 ^ 24 := by
  obtain ⟨-, r1, r2, -, -, r5, r6⟩ := I
  omega
end STEPS
