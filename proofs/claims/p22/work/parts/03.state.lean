abbrev XS : Type := (Nat → Int32) × (Nat → Int32) × (Nat → Int32) × (Nat → Int32) × (Nat → Int32) × (Nat → Int32) × (Nat → Int32) × (Nat → Int32) × Int32 × Int32 × Int32 × Int32 × Int32 × Int32 × UInt32
/-- the class's cells: the object at A 0, its arrays at A 1 .. A 8 -/
abbrev xW (A : Nat → Nat) (cA : ClassId) (L P G V R N Y S : Nat → Int32) (wd tb ft fl ce nh : Int32) (mo : UInt32) : va_W := [(A 0, .inr (0, [.ref (A 1), .ref (A 2), .ref (A 3), .ref (A 4), .ref (A 5), .ref (A 6), .ref (A 7), .ref (A 8), .int wd, .int tb, .int ft, .int fl, .int ce, .int nh, .float mo])), (A 1, .inl (cA, 24, .inl L)), (A 2, .inl (cA, 24, .inl P)), (A 3, .inl (cA, 4, .inl G)), (A 4, .inl (cA, 4, .inl V)), (A 5, .inl (cA, 4, .inl R)), (A 6, .inl (cA, 500, .inl N)), (A 7, .inl (cA, 500, .inl Y)), (A 8, .inl (cA, 548, .inl S))]
abbrev xU (A : Nat → Nat) (cA : ClassId) (u : XS) : va_W := xW A cA u.1 u.2.1 u.2.2.1 u.2.2.2.1 u.2.2.2.2.1 u.2.2.2.2.2.1 u.2.2.2.2.2.2.1 u.2.2.2.2.2.2.2.1 u.2.2.2.2.2.2.2.2.1 u.2.2.2.2.2.2.2.2.2.1 u.2.2.2.2.2.2.2.2.2.2.1 u.2.2.2.2.2.2.2.2.2.2.2.1 u.2.2.2.2.2.2.2.2.2.2.2.2.1 u.2.2.2.2.2.2.2.2.2.2.2.2.2.1 u.2.2.2.2.2.2.2.2.2.2.2.2.2.2
abbrev tyI (cA : ClassId) : List (ClassId × FieldType) := [(cA, .int)]
/-- a method's start over a world that it may change -/
abbrev wPre (dG : va_G) (tys : List (ClassId × FieldType)) (ws : va_W) (Hp : Heap) (U : State) : Prop := U.heap = Hp ∧ va_P dG vwCl ws U.heap ∧ va_K dG vwCl tys U ∧ va_D (fun _ => True) ws
/-- a world behind a method -/
abbrev wAt (dG : va_G) (tys : List (ClassId × FieldType)) (A : Nat → Prop) (ws : va_W) (t : State) : Prop := va_P dG vwCl ws t.heap ∧ va_K dG vwCl tys t ∧ va_D A ws
theorem wPre_calling {dG : va_G} {tys : List (ClassId × FieldType)} {ws : va_W} {Hp : Heap} {U : State} (g : JFrame) (mk : MethodId) (a : Array Value) (h : wPre dG tys ws Hp U) : wPre dG tys ws Hp (U.calling g mk a) := ⟨h.1, h.2.1, va_K.moved (u := U) (U := U.calling g mk a) (Vm.Alike.refl U.vm) h.2.2.1, h.2.2.2⟩
theorem wPre_of {dG : va_G} {tys : List (ClassId × FieldType)} {ws : va_W} {H : Heap} {A : Nat → Prop} {s : State} (hK : va_K dG vwCl tys s) (hP : va_P dG vwCl ws H) (hD : va_D A ws) {U : State} (hU : U.heap = H) (hW : s.WarmedH U.vm) : wPre dG tys ws H U := ⟨hU, by rw [hU]; exact hP, va_K.moved hW.alike hK, hD.weaken (fun _ _ _ _ => trivial)⟩
abbrev aNew (Hp : Heap) : Nat → Prop := fun q => Hp.size ≤ q
theorem vp_of {i b : Int32} {n : Nat} (h1 : ¬ i < 0) (h2 : ¬ b < i) (hb : b.toInt < n) : vp_in i n := by
  rw [vp_in_iff]
  rw [Int32.lt_iff_toInt_lt] at h1 h2
  have : (0 : Int32).toInt = 0 := by decide
  omega
