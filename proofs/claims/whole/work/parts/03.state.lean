-- WORLDS AND STATES: what the objects of the class and of the reference hold
abbrev eI : String := "java/lang/IndexOutOfBoundsException"
abbrev eA : String := "java/lang/IllegalArgumentException"
abbrev eS : String := "java/lang/IllegalStateException"
abbrev eNs : List String := ["java/lang/RuntimeException", "java/lang/Exception"]
abbrev XS : Type := (Nat → Int32) × (Nat → Int32) × (Nat → Int32) × (Nat → Int32) × (Nat → Int32) × (Nat → Int32) × (Nat → Int32) × (Nat → Int32) × Int32 × Int32 × Int32 × Int32 × Int32 × Int32 × UInt32
abbrev MS : Type := (Nat → Int32) × (Nat → Int32) × (Nat → Int32) × (Nat → Int32) × (Nat → Int32) × (Nat → Int32) × (Nat → Int32) × (Nat → Int32) × (Nat → Int32) × Int32 × Int32 × Int32 × Int32 × Int32 × Int32 × Int32 × UInt32
/-- the class's cells: the object at A 0, its arrays at A 1 .. A 8 -/
abbrev xW (A : Nat → Nat) (cA : ClassId) (L P G V R N Y S : Nat → Int32) (wd tb ft fl ce nh : Int32) (mo : UInt32) : va_W := [(A 0, .inr (0, [.ref (A 1), .ref (A 2), .ref (A 3), .ref (A 4), .ref (A 5), .ref (A 6), .ref (A 7), .ref (A 8), .int wd, .int tb, .int ft, .int fl, .int ce, .int nh, .float mo])), (A 1, .inl (cA, 24, .inl L)), (A 2, .inl (cA, 24, .inl P)), (A 3, .inl (cA, 4, .inl G)), (A 4, .inl (cA, 4, .inl V)), (A 5, .inl (cA, 4, .inl R)), (A 6, .inl (cA, 500, .inl N)), (A 7, .inl (cA, 500, .inl Y)), (A 8, .inl (cA, 548, .inl S))]
/-- the reference's cells: the object at B 0, its arrays at B 1 .. B 9 -/
abbrev mW (B : Nat → Nat) (cA : ClassId) (L P G V R S Y O D : Nat → Int32) (th nw wd tb ft fl cl : Int32) (mo : UInt32) : va_W := [(B 0, .inr (1, [.int th, .int nw, .ref (B 1), .ref (B 2), .int wd, .int tb, .ref (B 3), .ref (B 4), .ref (B 5), .int ft, .int fl, .int cl, .ref (B 6), .ref (B 7), .ref (B 8), .ref (B 9), .float mo])), (B 1, .inl (cA, 24, .inl L)), (B 2, .inl (cA, 24, .inl P)), (B 3, .inl (cA, 4, .inl G)), (B 4, .inl (cA, 4, .inl V)), (B 5, .inl (cA, 4, .inl R)), (B 6, .inl (cA, 548, .inl S)), (B 7, .inl (cA, 500, .inl Y)), (B 8, .inl (cA, 500, .inl O)), (B 9, .inl (cA, 500, .inl D))]
abbrev xU (A : Nat → Nat) (cA : ClassId) (u : XS) : va_W := xW A cA u.1 u.2.1 u.2.2.1 u.2.2.2.1 u.2.2.2.2.1 u.2.2.2.2.2.1 u.2.2.2.2.2.2.1 u.2.2.2.2.2.2.2.1 u.2.2.2.2.2.2.2.2.1 u.2.2.2.2.2.2.2.2.2.1 u.2.2.2.2.2.2.2.2.2.2.1 u.2.2.2.2.2.2.2.2.2.2.2.1 u.2.2.2.2.2.2.2.2.2.2.2.2.1 u.2.2.2.2.2.2.2.2.2.2.2.2.2.1 u.2.2.2.2.2.2.2.2.2.2.2.2.2.2
abbrev mU (B : Nat → Nat) (cA : ClassId) (u : MS) : va_W := mW B cA u.1 u.2.1 u.2.2.1 u.2.2.2.1 u.2.2.2.2.1 u.2.2.2.2.2.1 u.2.2.2.2.2.2.1 u.2.2.2.2.2.2.2.1 u.2.2.2.2.2.2.2.2.1 u.2.2.2.2.2.2.2.2.2.1 u.2.2.2.2.2.2.2.2.2.2.1 u.2.2.2.2.2.2.2.2.2.2.2.1 u.2.2.2.2.2.2.2.2.2.2.2.2.1 u.2.2.2.2.2.2.2.2.2.2.2.2.2.1 u.2.2.2.2.2.2.2.2.2.2.2.2.2.2.1 u.2.2.2.2.2.2.2.2.2.2.2.2.2.2.2.1 u.2.2.2.2.2.2.2.2.2.2.2.2.2.2.2.2
abbrev tyI (cA : ClassId) : List (ClassId × FieldType) := [(cA, .int)]
abbrev tyL (cA cL : ClassId) : List (ClassId × FieldType) := [(cA, .int), (cL, .long)]
/-- a method's start over a world that it may change -/
abbrev wPre (dG : va_G) (tys : List (ClassId × FieldType)) (ws : va_W) (Hp : Heap) (U : State) : Prop := U.heap = Hp ∧ va_P dG vwCl ws U.heap ∧ va_K dG vwCl tys U ∧ va_D (fun _ => True) ws
/-- a world behind a method -/
abbrev wAt (dG : va_G) (tys : List (ClassId × FieldType)) (A : Nat → Prop) (ws : va_W) (t : State) : Prop := va_P dG vwCl ws t.heap ∧ va_K dG vwCl tys t ∧ va_D A ws
theorem wPre_calling {dG : va_G} {tys : List (ClassId × FieldType)} {ws : va_W} {Hp : Heap} {U : State} (g : JFrame) (mk : MethodId) (a : Array Value) (h : wPre dG tys ws Hp U) : wPre dG tys ws Hp (U.calling g mk a) := ⟨h.1, h.2.1, va_K.moved (u := U) (U := U.calling g mk a) (Vm.Alike.refl U.vm) h.2.2.1, h.2.2.2⟩
theorem wPre_of {dG : va_G} {tys : List (ClassId × FieldType)} {ws : va_W} {H : Heap} {A : Nat → Prop} {s : State} (hK : va_K dG vwCl tys s) (hP : va_P dG vwCl ws H) (hD : va_D A ws) {U : State} (hU : U.heap = H) (hW : s.WarmedH U.vm) : wPre dG tys ws H U := ⟨hU, by rw [hU]; exact hP, va_K.moved hW.alike hK, hD.weaken (fun _ _ _ _ => trivial)⟩
/-- what a throw needs of the tables: the five texts, what the three exceptions are and are not -/
def tgT (a : Nat → Nat) (U : State) : Prop :=
  (vk_R RX0 141 "no such turbine or hour" (a 0) U ∧ vk_R RX0 146 "an argument is out of its range" (a 1) U ∧ vk_R RX0 53 "no room for another turbine" (a 2) U ∧ vk_R RX0 64 "too much would be sold for the hour" (a 3) U ∧ vk_R RX0 74 "the next hour would be above the last" (a 4) U) ∧
  (va_Nw (.castable eI eI) U ∧ va_Nw (.castable eA eA) U ∧ va_Nw (.castable eS eS) U) ∧ (va_Nc eA eI U ∧ va_Nc eS eI U ∧ va_Nc eS eA U) ∧ va_Nw (.declares (Bundle.initS "java/lang/RuntimeException")) U ∧ va_Nw (.declares (Bundle.initS "java/lang/Exception")) U ∧ va_Nw (.declares (Bundle.initS Bundle.tN)) U
theorem tgT.warm {a : Nat → Nat} {s U : State} (hW : s.WarmedH U.vm) (h : tgT a s) : tgT a U := by
  obtain ⟨⟨h1, h2, h3, h4, h5⟩, ⟨c1, c2, c3⟩, ⟨n1, n2, n3⟩, d1, d2, d3⟩ := h
  exact ⟨⟨vk_R.warm hW h1, vk_R.warm hW h2, vk_R.warm hW h3, vk_R.warm hW h4, vk_R.warm hW h5⟩, ⟨va_Nw.warmC hW c1, va_Nw.warmC hW c2, va_Nw.warmC hW c3⟩, ⟨n1.moved hW.alike, n2.moved hW.alike, n3.moved hW.alike⟩, va_Nw.warmD hW d1, va_Nw.warmD hW d2, va_Nw.warmD hW d3⟩
/-- .. and of the heap: Throwable's two statics -/
def tgE (a : Nat → Nat) (A : Nat → Prop) (U : State) (H : Heap) : Prop := tgT a U ∧ vx_Zq Bundle.tN "UNASSIGNED_STACK" Bundle.steD A U H ∧ vx_Zq Bundle.tN "SUPPRESSED_SENTINEL" Bundle.listD A U H
theorem tgE.go {a : Nat → Nat} {A B : Nat → Prop} {s U : State} {H : Heap} {locs : List Loc} (h : tgE a A s s.heap) (hW : s.WarmedH U.vm) (hS : va_S A s.heap H locs) (hAB : ∀ q, B q → A q) : tgE a B U H := by
  obtain ⟨h1, h2, h3⟩ := h
  exact ⟨h1.warm hW, ((h2.moved hW.alike).kept (fun q hq hA => hS.2.1 q hq hA)).narrow hAB, ((h3.moved hW.alike).kept (fun q hq hA => hS.2.1 q hq hA)).narrow hAB⟩
theorem tgE.calling {a : Nat → Nat} {A : Nat → Prop} {U : State} {H : Heap} (g : JFrame) (mk : MethodId) (ar : Array Value) (h : tgE a A U H) : tgE a A (U.calling g mk ar) H := by
  obtain ⟨h1, h2, h3⟩ := h
  have hW : U.WarmedH (U.calling g mk ar).vm := State.WarmedH.refl U
  exact ⟨h1.warm hW, h2.moved hW.alike, h3.moved hW.alike⟩
/-- what has left by a throw: which exception, and that nothing old was written -/
def tgX (px : String → Prop) : String → State → State → Prop := vx_X (S := String) px (fun E u _ => E = u) (fun _ => False)
abbrev aNew (Hp : Heap) : Nat → Prop := fun q => Hp.size ≤ q
theorem vp_of {i b : Int32} {n : Nat} (h1 : ¬ i < 0) (h2 : ¬ b < i) (hb : b.toInt < n) : vp_in i n := by
  rw [vp_in_iff]
  rw [Int32.lt_iff_toInt_lt] at h1 h2
  have : (0 : Int32).toInt = 0 := by decide
  omega
abbrev tgB (E : String) : List Cond := [.castable E E, .declares (Bundle.initS "java/lang/RuntimeException"), .declares (Bundle.initS "java/lang/Exception"), .declares (Bundle.initS Bundle.tN)]
theorem tgT.words {a : Nat → Nat} {U : State} (h : tgT a U) (args : Array Value) : (∀ w ∈ tgB eI, w.before args U = true) ∧ (∀ w ∈ tgB eA, w.before args U = true) ∧ ∀ w ∈ tgB eS, w.before args U = true := by
  obtain ⟨-, ⟨c1, c2, c3⟩, -, d1, d2, d3⟩ := h
  exact ⟨vx_c (va_Nw.use rfl c1) (vx_c (va_Nw.use rfl d1) (vx_c (va_Nw.use rfl d2) (vx_c (va_Nw.use rfl d3) vx_n))), vx_c (va_Nw.use rfl c2) (vx_c (va_Nw.use rfl d1) (vx_c (va_Nw.use rfl d2) (vx_c (va_Nw.use rfl d3) vx_n))), vx_c (va_Nw.use rfl c3) (vx_c (va_Nw.use rfl d1) (vx_c (va_Nw.use rfl d2) (vx_c (va_Nw.use rfl d3) vx_n)))⟩
