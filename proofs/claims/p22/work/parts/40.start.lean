theorem Inv_0 : Inv (fun _ => 0) (pF 24) (fun _ => 0) (fun _ => 0) (fun _ => 0) (fun _ => 0) (fun _ => 0) (fun _ => 0) 0 0 0 0 0 (fun _ => 0) (fun _ => 0) (fun _ => 0) 0 := by
  have z : (0 : Int32).toInt = 0 := by decide
  have n05 : ¬ (0 : Int32) = nI (0 + 5) := by decide
  refine ⟨⟨by omega, by omega⟩, ⟨fun j => ⟨by rw [z]; omega, by rw [z]; omega⟩, by rw [z]; omega, by rw [z]; omega⟩, fun j hj => ?_, ⟨fun j => ⟨by rw [z]; omega, by rw [z]; omega⟩, fun j _ => ⟨rfl, rfl⟩⟩, ⟨fun j => ⟨by rw [z]; omega, by rw [z]; omega⟩, fun j => ⟨by rw [z]; omega, by rw [z]; omega⟩, fun j => ⟨by rw [z]; omega, by rw [z]; omega⟩⟩, gF_zero, ⟨fun j => ⟨by rw [z]; omega, by rw [z]; omega⟩, fun j => rfl⟩, ⟨⟨by rw [z]; omega, by rw [z]; omega⟩, rfl⟩, ⟨fun j hj => absurd hj (Nat.not_lt_zero j), fun j _ => rfl⟩, fun j hj => absurd hj (Nat.not_lt_zero j), fun j hj => absurd hj (Nat.not_lt_zero j), fun k hk => ⟨rfl, Or.inr ⟨n05, rfl, rfl⟩⟩⟩
  have e : pF 24 j = 10 := by unfold pF; rw [if_pos hj]
  rw [e]
  exact ⟨by decide, by decide⟩
theorem InvL_0 : InvL (fun _ => 0) (pF 24) (fun _ => 0) (fun _ => 0) (fun _ => 0) (fun _ => 0) (fun _ => 0) (fun _ => 0) (fun _ => 0) 0 0 0 0 0 0 0 0 := by
  have z : (0 : Int32).toInt = 0 := by decide
  refine ⟨⟨_, _, Inv_0⟩, by omega, by omega, fun j => ?_, by rw [z]; exact mF_zero, by rw [z]; omega, by rw [z]; omega⟩
  unfold pF
  by_cases e : j < 24
  · rw [if_pos e]; decide
  · rw [if_neg e]; decide
set_option maxHeartbeats 1000000 in
set_option maxRecDepth 100000 in
theorem price_loop {p : Program} {l : Launch} {e : Env} {s : State} {m : MethodId} {below : List Frame} {meth : Method} {c : Code} {b Ln : Nat} {xs : Nat → Int32} {dG : va_G} {A B : Nat → Nat} {cA : ClassId} (C0 : lw_At p s m meth c b Ln xs) (hK : va_K dG vwCl (tyI cA) s) (kk : lwP p l e s m below meth c b dG 89 ((xW A cA (fun _ => 0) (pF 24) (fun _ => 0) (fun _ => 0) (fun _ => 0) (fun _ => 0) (fun _ => 0) (fun _ => 0) 0 0 0 100 0 0 0) ++ (lW B cA (fun _ => 0) (pF 24) (fun _ => 0) (fun _ => 0) (fun _ => 0) (fun _ => 0) (fun _ => 0))) (lV A B b 0 0 0 100 0 0 0 (nI 24) ++ [])) : ∀ r i : Nat, i + r = 24 → lwP p l e s m below meth c b dG 70 ((xW A cA (fun _ => 0) (pF 24) (fun _ => 0) (fun _ => 0) (fun _ => 0) (fun _ => 0) (fun _ => 0) (fun _ => 0) 0 0 0 100 0 0 0) ++ (lW B cA (fun _ => 0) (pF i) (fun _ => 0) (fun _ => 0) (fun _ => 0) (fun _ => 0) (fun _ => 0))) (lV A B b 0 0 0 100 0 0 0 (nI i) ++ []) := by
  obtain ⟨hx, hb, hr, hml, hown0, hts0, hX, hbl, hlocks, hgv⟩ := id C0
  have hown : s.vm.findClass RL = some m.cls := hown0
  have hts : ∀ w ∈ wsL_law, w.before #[Value.ref b] s = true := fun w h => hts0 w (wsL_law_in w h)
  have hA : ∀ q : Nat, s.heap.size ≤ q → aNew s.heap q := fun _ h => h
  have hbA : ¬ aNew s.heap b := Nat.not_le.mpr hbl
  intro r
  induction r with
  | zero =>
    intro i hi
    have hi : 24 = i := by omega
    subst hi
    intro H locs ls hP hD hS hl
    have hl : lv_has ls 27 ([(0, .ref b), (1, .ref (A 0)), (2, .ref (B 0)), (3, .ref (B 1)), (4, .ref (B 2)), (5, .ref (B 3)), (6, .ref (B 4)), (7, .ref (B 5)), (8, .ref (B 6)), (9, .int 0), (10, .int 0), (11, .int 0), (12, .int 100), (13, .int 0), (14, .int 0), (15, .int 0), (16, .int (nI 24))]) := hl
    refine lv_iload hx hb dL_law_70 (lv_at hl 16 rfl) ?_
    refine lv_bipush (v := 24) hx hb dL_law_72 (by decide) ?_
    refine lv_icmp_ge (tgt := 89) hx hb dL_law_74 (by decide) (fun _ => ?_) (fun h9 => absurd (nI_le (a := 24) (b := 24) (by omega) (by omega)) h9)
    exact kk H locs ls hP hD hS (lv_sub hl [0, 1, 2, 3, 4, 5, 6, 7, 8, 9, 10, 11, 12, 13, 14, 15, 16] rfl)
  | succ r ih =>
    intro i hi
    intro H locs ls hP hD hS hl
    have hl : lv_has ls 27 ([(0, .ref b), (1, .ref (A 0)), (2, .ref (B 0)), (3, .ref (B 1)), (4, .ref (B 2)), (5, .ref (B 3)), (6, .ref (B 4)), (7, .ref (B 5)), (8, .ref (B 6)), (9, .int 0), (10, .int 0), (11, .int 0), (12, .int 100), (13, .int 0), (14, .int 0), (15, .int 0), (16, .int (nI i))]) := hl
    refine lv_iload hx hb dL_law_70 (lv_at hl 16 rfl) ?_
    refine lv_bipush (v := 24) hx hb dL_law_72 (by decide) ?_
    refine lv_icmp_ge (tgt := 89) hx hb dL_law_74 (by decide) (fun h9 => absurd h9 (nI_ge (b := 24) (by omega) (by omega))) (fun _ => ?_)
    refine lv_aload_n hx hb dL_law_77 rfl (lv_at hl 3 rfl) ?_
    refine lv_iload hx hb dL_law_78 (lv_at hl 16 rfl) ?_
    refine lv_bipush (v := 10) hx hb dL_law_80 (by decide) ?_
    refine va_iast hx hb hK hP hD hS 10 0 rfl rfl (vp_in_nI (by omega) (by omega)) dL_law_82 (fun H locs hP hD hS => ?_)
    rw [nI_clamp (n := i) (by omega)] at hP hD
    have hP : va_P dG vwCl ((xW A cA (fun _ => 0) (pF 24) (fun _ => 0) (fun _ => 0) (fun _ => 0) (fun _ => 0) (fun _ => 0) (fun _ => 0) 0 0 0 100 0 0 0) ++ (lW B cA (fun _ => 0) (upd (pF i) i 10) (fun _ => 0) (fun _ => 0) (fun _ => 0) (fun _ => 0) (fun _ => 0))) H := hP
    have hD : va_D (aNew s.heap) ((xW A cA (fun _ => 0) (pF 24) (fun _ => 0) (fun _ => 0) (fun _ => 0) (fun _ => 0) (fun _ => 0) (fun _ => 0) 0 0 0 100 0 0 0) ++ (lW B cA (fun _ => 0) (upd (pF i) i 10) (fun _ => 0) (fun _ => 0) (fun _ => 0) (fun _ => 0) (fun _ => 0))) := hD
    refine lv_iinc (v := (nI (i + 1))) (lv' := [(16, .int (nI (i + 1))), (0, .ref b), (1, .ref (A 0)), (2, .ref (B 0)), (3, .ref (B 1)), (4, .ref (B 2)), (5, .ref (B 3)), (6, .ref (B 4)), (7, .ref (B 5)), (8, .ref (B 6)), (9, .int 0), (10, .int 0), (11, .int 0), (12, .int 100), (13, .int 0), (14, .int 0), (15, .int 0)]) hx hb dL_law_83 hl (k := 16) rfl (nI_1 i) (by decide) rfl (fun ls hl => ?_)
    refine lv_goto (tgt := 70) hx hb dL_law_86 (by decide) ?_
    rw [pF_upd] at hP hD
    exact (ih (i + 1) (by omega)) H locs ls hP hD hS (lv_sub hl [1, 2, 3, 4, 5, 6, 7, 8, 9, 10, 11, 12, 13, 14, 15, 16, 0] rfl)
set_option maxHeartbeats 1000000 in
set_option maxRecDepth 100000 in
theorem law_89 {p : Program} {l : Launch} {e : Env} {s : State} {m : MethodId} {below : List Frame} {meth : Method} {c : Code} {b Ln : Nat} {xs : Nat → Int32} {dG : va_G} {A B : Nat → Nat} {cA : ClassId} (C0 : lw_At p s m meth c b Ln xs) (hK : va_K dG vwCl (tyI cA) s) (hLn : Ln ≤ 260) : lwP p l e s m below meth c b dG 89 ((xW A cA (fun _ => 0) (pF 24) (fun _ => 0) (fun _ => 0) (fun _ => 0) (fun _ => 0) (fun _ => 0) (fun _ => 0) 0 0 0 100 0 0 0) ++ (lW B cA (fun _ => 0) (pF 24) (fun _ => 0) (fun _ => 0) (fun _ => 0) (fun _ => 0) (fun _ => 0))) (lV A B b 0 0 0 100 0 0 0 (nI 24) ++ []) := by
  obtain ⟨hx, hb, hr, hml, hown0, hts0, hX, hbl, hlocks, hgv⟩ := id C0
  have hown : s.vm.findClass RL = some m.cls := hown0
  have hts : ∀ w ∈ wsL_law, w.before #[Value.ref b] s = true := fun w h => hts0 w (wsL_law_in w h)
  have hA : ∀ q : Nat, s.heap.size ≤ q → aNew s.heap q := fun _ h => h
  have hbA : ¬ aNew s.heap b := Nat.not_le.mpr hbl
  intro H locs ls hP hD hS hl
  have hl : lv_has ls 27 ([(0, .ref b), (1, .ref (A 0)), (2, .ref (B 0)), (3, .ref (B 1)), (4, .ref (B 2)), (5, .ref (B 3)), (6, .ref (B 4)), (7, .ref (B 5)), (8, .ref (B 6)), (9, .int 0), (10, .int 0), (11, .int 0), (12, .int 100), (13, .int 0), (14, .int 0), (15, .int 0), (16, .int (nI 24))]) := hl
  refine lv_iconst (v := 0) hx hb dL_law_89 (by decide) ?_
  refine lv_istore (lv' := [(16, .int 0), (0, .ref b), (1, .ref (A 0)), (2, .ref (B 0)), (3, .ref (B 1)), (4, .ref (B 2)), (5, .ref (B 3)), (6, .ref (B 4)), (7, .ref (B 5)), (8, .ref (B 6)), (9, .int 0), (10, .int 0), (11, .int 0), (12, .int 100), (13, .int 0), (14, .int 0), (15, .int 0)]) hx hb dL_law_90 hl (by decide) rfl (fun ls hl => ?_)
  exact (law_loop C0 hK hLn 60 0 (by omega) (fun _ => 0) (pF 24) (fun _ => 0) (fun _ => 0) (fun _ => 0) (fun _ => 0) (fun _ => 0) (fun _ => 0) (fun _ => 0) 0 0 0 0 100 0 0 0 0 InvL_0) H locs ls hP hD hS (lv_sub hl [1, 2, 3, 4, 5, 6, 7, 8, 9, 10, 11, 12, 13, 14, 15, 16, 0] rfl)
set_option maxHeartbeats 2000000 in
set_option maxRecDepth 100000 in
/-- THE LAW, from its entry -/
theorem whole_start {p : Program} {e : Env} {s : State} {m : MethodId} {below : List Frame} {meth : Method} {c : Code} (l : Launch) (hflags : l.flags = flags0) {b L : Nat} {xs : Nat → Int32} (hL : L ≤ 260) (C0 : lw_At p s m meth c b L xs) : W p l e room_1 s m #[Value.ref b] below meth c s.heap [] 0 0 (lw_Z below #[Value.ref b] s) (entryFrame m ([Value.ref b] : List Value).toArray 27) := by
  obtain ⟨hx, hb, hr, hml, hown0, hts0, hX, hbl, hlocks, hgv⟩ := id C0
  have hown : s.vm.findClass RL = some m.cls := hown0
  have hts : ∀ w ∈ wsL_law, w.before #[Value.ref b] s = true := fun w h => hts0 w (wsL_law_in w h)
  have hA : ∀ q : Nat, s.heap.size ≤ q → aNew s.heap q := fun _ h => h
  obtain ⟨c0, iS0, hKn0⟩ := u_known (C := RX0) (T := TX0) (N := 15) (n := 15) hts0 inX0 (hts0 (.instantiable RX0 15) (by decide +kernel))
  obtain ⟨dG, hKc⟩ : ∃ dG : va_G, ∀ (k : Nat) (q : vw_C), vwCl[k]? = some q → u_Kn s q.1 q.2.1 q.2.2 (dG.1 k) (dG.2 k) := by
    refine ⟨(fun k => c0, fun k => iS0), ?_⟩
    intro k q hq
    match k, hq with
    | 0, hq => cases hq; exact hKn0
    | k + 1, hq => simp [vwCl] at hq
  have hS : va_S (aNew s.heap) s.heap s.heap [] := va_S.rf
  have hK : va_K dG vwCl [] s := ⟨hKc, fun k q h => by simp at h⟩
  have hP : va_P dG vwCl [] s.heap := fun k q h => by simp at h
  have hD : va_D (aNew s.heap) [] := ⟨fun i j p q h => by simp at h, fun k q h => by simp at h⟩
  have hl := lv_entry ([.ref b]) (n := 27) (Nat.le_of_ble_eq_true rfl)
  rw [lg_entry_eq]
  generalize (lg_sl ([.ref b]) ++ List.replicate (27 - (lg_sl ([.ref b])).length) Slot.unset).toArray = ls at hl ⊢
  have hl : lv_has ls 27 [(0, .ref b)] := hl
  refine va_new (ci := 0) (fs := [.null, .null, .null, .null, .null, .null, .null, .null, .int 0, .int 0, .int 0, .int 0, .int 0, .int 0, .float 0]) (C := RX0) (T := TX0) (N := 15) hx hb hts0 inX0 tyX0 tyX0_ok hown (hts0 (.classLink RL 11 RX0) (by decide +kernel)) (hts0 (.instantiable RX0 15) (by decide +kernel)) (hts0 (.initialized RX0) (by decide +kernel)) hK hP hD hS hA rfl (by decide +kernel) (Nat.le_of_ble_eq_true rfl) (Nat.le_of_ble_eq_true rfl) dL_law_0 (fun q0 H hP hD hS => ?_)
  have hP : va_P dG vwCl [(q0, .inr (0, [.null, .null, .null, .null, .null, .null, .null, .null, .int 0, .int 0, .int 0, .int 0, .int 0, .int 0, .float 0]))] H := hP
  have hD : va_D (aNew s.heap) [(q0, .inr (0, [.null, .null, .null, .null, .null, .null, .null, .null, .int 0, .int 0, .int 0, .int 0, .int 0, .int 0, .float 0]))] := hD
  refine lv_dup hx hb dL_law_3 rfl ?_
  have hPc := hP.sub (ws' := [(q0, .inr (0, [.null, .null, .null, .null, .null, .null, .null, .null, .int 0, .int 0, .int 0, .int 0, .int 0, .int 0, .float 0]))]) [0] rfl
  have hDc := hD.sub (ws' := [(q0, .inr (0, [.null, .null, .null, .null, .null, .null, .null, .null, .int 0, .int 0, .int 0, .int 0, .int 0, .int 0, .float 0]))]) [0] (by decide) rfl
  have hKc := hK.sub (tys' := []) [] rfl
  have hFc := va_free (wc := [(q0, .inr (0, [.null, .null, .null, .null, .null, .null, .null, .null, .int 0, .int 0, .int 0, .int 0, .int 0, .int 0, .float 0]))]) hD hS hA [0] rfl
  refine va_callv (va_runI (As := []) (rest := [.ref q0]) ⟨hx, hb, hml, hown, hts⟩ (c_X0_init l dG q0 H) (cwI 0 hts gL_law_X0_init rfl rfl rfl (hts0 (.initialized RX0) (by decide +kernel)) (hts0 (.methodLink RL 13 yX0_init) (by decide +kernel)) (hts0 (.instanceMethod yX0_init) (by decide +kernel)) rfl (by decide +kernel) ⟨Nat.le_of_ble_eq_true rfl, Nat.le_of_ble_eq_true rfl⟩) ⟨fun a9 U g mk q => ⟨q.1, wPre_calling g mk a9 q.2⟩, fun U hU hW => ⟨rfl, wPre_of hKc hPc hDc hU hW⟩⟩ rfl rfl hl.1 rfl (lv_room (Nat.le_of_ble_eq_true rfl)) dL_law_4 ⟨Nat.le_of_ble_eq_true rfl, Nat.le_of_ble_eq_true rfl⟩) hS (fun q _ h => hFc q h) hFc (fun u t H1 locs ht hvm hw hB hz1 hk1 hS => ?_)
  obtain ⟨A, cA⟩ := u
  have hw : A 0 = q0 := hw
  subst hw
  obtain ⟨hP1, hK1, hD1⟩ := hB
  rw [ht] at hP1
  have hK1 := va_K.moved hvm.symm hK1
  obtain ⟨hP, hD⟩ := va_join (wr := []) (w1 := (xW A cA (fun _ => 0) (pF 24) (fun _ => 0) (fun _ => 0) (fun _ => 0) (fun _ => 0) (fun _ => 0) (fun _ => 0) 0 0 0 100 0 0 0)) hP hD [0] [] rfl rfl (by decide) (by decide) hk1 hFc hP1 hD1
  have hK : va_K dG vwCl (tyI cA) s := (hK.sub (tys' := []) [] rfl).app hK1
  generalize H1 = H at hP hS ⊢
  have hP : va_P dG vwCl (xW A cA (fun _ => 0) (pF 24) (fun _ => 0) (fun _ => 0) (fun _ => 0) (fun _ => 0) (fun _ => 0) (fun _ => 0) 0 0 0 100 0 0 0) H := hP
  have hD : va_D (aNew s.heap) (xW A cA (fun _ => 0) (pF 24) (fun _ => 0) (fun _ => 0) (fun _ => 0) (fun _ => 0) (fun _ => 0) (fun _ => 0) 0 0 0 100 0 0 0) := hD
  refine lv_astore_n (lv' := [(1, .ref (A 0)), (0, .ref b)]) hx hb dL_law_7 rfl hl (by decide) rfl (fun ls hl => ?_)
  refine lv_bipush (v := 24) hx hb dL_law_8 (by decide) ?_
  refine va_newa (atype := .int) (ty := .int) (a0 := (24, .inl (fun _ => 0))) hx hb (hts0 (.arrayClass .int) (by decide +kernel)) rfl hK hP hD hS hA (fun _ => rfl) (by decide) (by decide) (Nat.le_of_ble_eq_true rfl) (Nat.le_of_ble_eq_true rfl) (Nat.le_of_ble_eq_true rfl) dL_law_10 (fun q1 c1 H hK hP hD hS => ?_)
  have ec := tgSame hK (i := 0) (j := 1) rfl rfl
  subst ec
  have hK : va_K dG vwCl (tyI cA) s := hK.sub [0] rfl
  have hP : va_P dG vwCl ((xW A cA (fun _ => 0) (pF 24) (fun _ => 0) (fun _ => 0) (fun _ => 0) (fun _ => 0) (fun _ => 0) (fun _ => 0) 0 0 0 100 0 0 0) ++ [(q1, .inl (cA, 24, .inl (fun _ => 0)))]) H := hP
  have hD : va_D (aNew s.heap) ((xW A cA (fun _ => 0) (pF 24) (fun _ => 0) (fun _ => 0) (fun _ => 0) (fun _ => 0) (fun _ => 0) (fun _ => 0) 0 0 0 100 0 0 0) ++ [(q1, .inl (cA, 24, .inl (fun _ => 0)))]) := hD
  refine lv_astore_n (lv' := [(2, .ref q1), (1, .ref (A 0)), (0, .ref b)]) hx hb dL_law_12 rfl hl (by decide) rfl (fun ls hl => ?_)
  refine lv_bipush (v := 24) hx hb dL_law_13 (by decide) ?_
  refine va_newa (atype := .int) (ty := .int) (a0 := (24, .inl (fun _ => 0))) hx hb (hts0 (.arrayClass .int) (by decide +kernel)) rfl hK hP hD hS hA (fun _ => rfl) (by decide) (by decide) (Nat.le_of_ble_eq_true rfl) (Nat.le_of_ble_eq_true rfl) (Nat.le_of_ble_eq_true rfl) dL_law_15 (fun q2 c2 H hK hP hD hS => ?_)
  have ec := tgSame hK (i := 0) (j := 1) rfl rfl
  subst ec
  have hK : va_K dG vwCl (tyI cA) s := hK.sub [0] rfl
  have hP : va_P dG vwCl ((xW A cA (fun _ => 0) (pF 24) (fun _ => 0) (fun _ => 0) (fun _ => 0) (fun _ => 0) (fun _ => 0) (fun _ => 0) 0 0 0 100 0 0 0) ++ [(q1, .inl (cA, 24, .inl (fun _ => 0))), (q2, .inl (cA, 24, .inl (fun _ => 0)))]) H := hP
  have hD : va_D (aNew s.heap) ((xW A cA (fun _ => 0) (pF 24) (fun _ => 0) (fun _ => 0) (fun _ => 0) (fun _ => 0) (fun _ => 0) (fun _ => 0) 0 0 0 100 0 0 0) ++ [(q1, .inl (cA, 24, .inl (fun _ => 0))), (q2, .inl (cA, 24, .inl (fun _ => 0)))]) := hD
  refine lv_astore_n (lv' := [(3, .ref q2), (2, .ref q1), (1, .ref (A 0)), (0, .ref b)]) hx hb dL_law_17 rfl hl (by decide) rfl (fun ls hl => ?_)
  refine lv_iconst (v := 4) hx hb dL_law_18 (by decide) ?_
  refine va_newa (atype := .int) (ty := .int) (a0 := (4, .inl (fun _ => 0))) hx hb (hts0 (.arrayClass .int) (by decide +kernel)) rfl hK hP hD hS hA (fun _ => rfl) (by decide) (by decide) (Nat.le_of_ble_eq_true rfl) (Nat.le_of_ble_eq_true rfl) (Nat.le_of_ble_eq_true rfl) dL_law_19 (fun q3 c3 H hK hP hD hS => ?_)
  have ec := tgSame hK (i := 0) (j := 1) rfl rfl
  subst ec
  have hK : va_K dG vwCl (tyI cA) s := hK.sub [0] rfl
  have hP : va_P dG vwCl ((xW A cA (fun _ => 0) (pF 24) (fun _ => 0) (fun _ => 0) (fun _ => 0) (fun _ => 0) (fun _ => 0) (fun _ => 0) 0 0 0 100 0 0 0) ++ [(q1, .inl (cA, 24, .inl (fun _ => 0))), (q2, .inl (cA, 24, .inl (fun _ => 0))), (q3, .inl (cA, 4, .inl (fun _ => 0)))]) H := hP
  have hD : va_D (aNew s.heap) ((xW A cA (fun _ => 0) (pF 24) (fun _ => 0) (fun _ => 0) (fun _ => 0) (fun _ => 0) (fun _ => 0) (fun _ => 0) 0 0 0 100 0 0 0) ++ [(q1, .inl (cA, 24, .inl (fun _ => 0))), (q2, .inl (cA, 24, .inl (fun _ => 0))), (q3, .inl (cA, 4, .inl (fun _ => 0)))]) := hD
  refine lv_astore (lv' := [(4, .ref q3), (3, .ref q2), (2, .ref q1), (1, .ref (A 0)), (0, .ref b)]) hx hb dL_law_21 hl (by decide) rfl (fun ls hl => ?_)
  refine lv_iconst (v := 4) hx hb dL_law_23 (by decide) ?_
  refine va_newa (atype := .int) (ty := .int) (a0 := (4, .inl (fun _ => 0))) hx hb (hts0 (.arrayClass .int) (by decide +kernel)) rfl hK hP hD hS hA (fun _ => rfl) (by decide) (by decide) (Nat.le_of_ble_eq_true rfl) (Nat.le_of_ble_eq_true rfl) (Nat.le_of_ble_eq_true rfl) dL_law_24 (fun q4 c4 H hK hP hD hS => ?_)
  have ec := tgSame hK (i := 0) (j := 1) rfl rfl
  subst ec
  have hK : va_K dG vwCl (tyI cA) s := hK.sub [0] rfl
  have hP : va_P dG vwCl ((xW A cA (fun _ => 0) (pF 24) (fun _ => 0) (fun _ => 0) (fun _ => 0) (fun _ => 0) (fun _ => 0) (fun _ => 0) 0 0 0 100 0 0 0) ++ [(q1, .inl (cA, 24, .inl (fun _ => 0))), (q2, .inl (cA, 24, .inl (fun _ => 0))), (q3, .inl (cA, 4, .inl (fun _ => 0))), (q4, .inl (cA, 4, .inl (fun _ => 0)))]) H := hP
  have hD : va_D (aNew s.heap) ((xW A cA (fun _ => 0) (pF 24) (fun _ => 0) (fun _ => 0) (fun _ => 0) (fun _ => 0) (fun _ => 0) (fun _ => 0) 0 0 0 100 0 0 0) ++ [(q1, .inl (cA, 24, .inl (fun _ => 0))), (q2, .inl (cA, 24, .inl (fun _ => 0))), (q3, .inl (cA, 4, .inl (fun _ => 0))), (q4, .inl (cA, 4, .inl (fun _ => 0)))]) := hD
  refine lv_astore (lv' := [(5, .ref q4), (4, .ref q3), (3, .ref q2), (2, .ref q1), (1, .ref (A 0)), (0, .ref b)]) hx hb dL_law_26 hl (by decide) rfl (fun ls hl => ?_)
  refine lv_iconst (v := 4) hx hb dL_law_28 (by decide) ?_
  refine va_newa (atype := .int) (ty := .int) (a0 := (4, .inl (fun _ => 0))) hx hb (hts0 (.arrayClass .int) (by decide +kernel)) rfl hK hP hD hS hA (fun _ => rfl) (by decide) (by decide) (Nat.le_of_ble_eq_true rfl) (Nat.le_of_ble_eq_true rfl) (Nat.le_of_ble_eq_true rfl) dL_law_29 (fun q5 c5 H hK hP hD hS => ?_)
  have ec := tgSame hK (i := 0) (j := 1) rfl rfl
  subst ec
  have hK : va_K dG vwCl (tyI cA) s := hK.sub [0] rfl
  have hP : va_P dG vwCl ((xW A cA (fun _ => 0) (pF 24) (fun _ => 0) (fun _ => 0) (fun _ => 0) (fun _ => 0) (fun _ => 0) (fun _ => 0) 0 0 0 100 0 0 0) ++ [(q1, .inl (cA, 24, .inl (fun _ => 0))), (q2, .inl (cA, 24, .inl (fun _ => 0))), (q3, .inl (cA, 4, .inl (fun _ => 0))), (q4, .inl (cA, 4, .inl (fun _ => 0))), (q5, .inl (cA, 4, .inl (fun _ => 0)))]) H := hP
  have hD : va_D (aNew s.heap) ((xW A cA (fun _ => 0) (pF 24) (fun _ => 0) (fun _ => 0) (fun _ => 0) (fun _ => 0) (fun _ => 0) (fun _ => 0) 0 0 0 100 0 0 0) ++ [(q1, .inl (cA, 24, .inl (fun _ => 0))), (q2, .inl (cA, 24, .inl (fun _ => 0))), (q3, .inl (cA, 4, .inl (fun _ => 0))), (q4, .inl (cA, 4, .inl (fun _ => 0))), (q5, .inl (cA, 4, .inl (fun _ => 0)))]) := hD
  refine lv_astore (lv' := [(6, .ref q5), (5, .ref q4), (4, .ref q3), (3, .ref q2), (2, .ref q1), (1, .ref (A 0)), (0, .ref b)]) hx hb dL_law_31 hl (by decide) rfl (fun ls hl => ?_)
  refine lv_bipush (v := 64) hx hb dL_law_33 (by decide) ?_
  refine va_newa (atype := .int) (ty := .int) (a0 := (64, .inl (fun _ => 0))) hx hb (hts0 (.arrayClass .int) (by decide +kernel)) rfl hK hP hD hS hA (fun _ => rfl) (by decide) (by decide) (Nat.le_of_ble_eq_true rfl) (Nat.le_of_ble_eq_true rfl) (Nat.le_of_ble_eq_true rfl) dL_law_35 (fun q6 c6 H hK hP hD hS => ?_)
  have ec := tgSame hK (i := 0) (j := 1) rfl rfl
  subst ec
  have hK : va_K dG vwCl (tyI cA) s := hK.sub [0] rfl
  have hP : va_P dG vwCl ((xW A cA (fun _ => 0) (pF 24) (fun _ => 0) (fun _ => 0) (fun _ => 0) (fun _ => 0) (fun _ => 0) (fun _ => 0) 0 0 0 100 0 0 0) ++ [(q1, .inl (cA, 24, .inl (fun _ => 0))), (q2, .inl (cA, 24, .inl (fun _ => 0))), (q3, .inl (cA, 4, .inl (fun _ => 0))), (q4, .inl (cA, 4, .inl (fun _ => 0))), (q5, .inl (cA, 4, .inl (fun _ => 0))), (q6, .inl (cA, 64, .inl (fun _ => 0)))]) H := hP
  have hD : va_D (aNew s.heap) ((xW A cA (fun _ => 0) (pF 24) (fun _ => 0) (fun _ => 0) (fun _ => 0) (fun _ => 0) (fun _ => 0) (fun _ => 0) 0 0 0 100 0 0 0) ++ [(q1, .inl (cA, 24, .inl (fun _ => 0))), (q2, .inl (cA, 24, .inl (fun _ => 0))), (q3, .inl (cA, 4, .inl (fun _ => 0))), (q4, .inl (cA, 4, .inl (fun _ => 0))), (q5, .inl (cA, 4, .inl (fun _ => 0))), (q6, .inl (cA, 64, .inl (fun _ => 0)))]) := hD
  refine lv_astore (lv' := [(7, .ref q6), (6, .ref q5), (5, .ref q4), (4, .ref q3), (3, .ref q2), (2, .ref q1), (1, .ref (A 0)), (0, .ref b)]) hx hb dL_law_37 hl (by decide) rfl (fun ls hl => ?_)
  refine lv_bipush (v := 64) hx hb dL_law_39 (by decide) ?_
  refine va_newa (atype := .int) (ty := .int) (a0 := (64, .inl (fun _ => 0))) hx hb (hts0 (.arrayClass .int) (by decide +kernel)) rfl hK hP hD hS hA (fun _ => rfl) (by decide) (by decide) (Nat.le_of_ble_eq_true rfl) (Nat.le_of_ble_eq_true rfl) (Nat.le_of_ble_eq_true rfl) dL_law_41 (fun q7 c7 H hK hP hD hS => ?_)
  have ec := tgSame hK (i := 0) (j := 1) rfl rfl
  subst ec
  have hK : va_K dG vwCl (tyI cA) s := hK.sub [0] rfl
  have hP : va_P dG vwCl ((xW A cA (fun _ => 0) (pF 24) (fun _ => 0) (fun _ => 0) (fun _ => 0) (fun _ => 0) (fun _ => 0) (fun _ => 0) 0 0 0 100 0 0 0) ++ [(q1, .inl (cA, 24, .inl (fun _ => 0))), (q2, .inl (cA, 24, .inl (fun _ => 0))), (q3, .inl (cA, 4, .inl (fun _ => 0))), (q4, .inl (cA, 4, .inl (fun _ => 0))), (q5, .inl (cA, 4, .inl (fun _ => 0))), (q6, .inl (cA, 64, .inl (fun _ => 0))), (q7, .inl (cA, 64, .inl (fun _ => 0)))]) H := hP
  have hD : va_D (aNew s.heap) ((xW A cA (fun _ => 0) (pF 24) (fun _ => 0) (fun _ => 0) (fun _ => 0) (fun _ => 0) (fun _ => 0) (fun _ => 0) 0 0 0 100 0 0 0) ++ [(q1, .inl (cA, 24, .inl (fun _ => 0))), (q2, .inl (cA, 24, .inl (fun _ => 0))), (q3, .inl (cA, 4, .inl (fun _ => 0))), (q4, .inl (cA, 4, .inl (fun _ => 0))), (q5, .inl (cA, 4, .inl (fun _ => 0))), (q6, .inl (cA, 64, .inl (fun _ => 0))), (q7, .inl (cA, 64, .inl (fun _ => 0)))]) := hD
  refine lv_astore (lv' := [(8, .ref q7), (7, .ref q6), (6, .ref q5), (5, .ref q4), (4, .ref q3), (3, .ref q2), (2, .ref q1), (1, .ref (A 0)), (0, .ref b)]) hx hb dL_law_43 hl (by decide) rfl (fun ls hl => ?_)
  refine lv_iconst (v := 0) hx hb dL_law_45 (by decide) ?_
  refine lv_istore (lv' := [(9, .int 0), (8, .ref q7), (7, .ref q6), (6, .ref q5), (5, .ref q4), (4, .ref q3), (3, .ref q2), (2, .ref q1), (1, .ref (A 0)), (0, .ref b)]) hx hb dL_law_46 hl (by decide) rfl (fun ls hl => ?_)
  refine lv_iconst (v := 0) hx hb dL_law_48 (by decide) ?_
  refine lv_istore (lv' := [(10, .int 0), (9, .int 0), (8, .ref q7), (7, .ref q6), (6, .ref q5), (5, .ref q4), (4, .ref q3), (3, .ref q2), (2, .ref q1), (1, .ref (A 0)), (0, .ref b)]) hx hb dL_law_49 hl (by decide) rfl (fun ls hl => ?_)
  refine lv_iconst (v := 0) hx hb dL_law_51 (by decide) ?_
  refine lv_istore (lv' := [(11, .int 0), (10, .int 0), (9, .int 0), (8, .ref q7), (7, .ref q6), (6, .ref q5), (5, .ref q4), (4, .ref q3), (3, .ref q2), (2, .ref q1), (1, .ref (A 0)), (0, .ref b)]) hx hb dL_law_52 hl (by decide) rfl (fun ls hl => ?_)
  refine lv_bipush (v := 100) hx hb dL_law_54 (by decide) ?_
  refine lv_istore (lv' := [(12, .int 100), (11, .int 0), (10, .int 0), (9, .int 0), (8, .ref q7), (7, .ref q6), (6, .ref q5), (5, .ref q4), (4, .ref q3), (3, .ref q2), (2, .ref q1), (1, .ref (A 0)), (0, .ref b)]) hx hb dL_law_56 hl (by decide) rfl (fun ls hl => ?_)
  refine lv_iconst (v := 0) hx hb dL_law_58 (by decide) ?_
  refine lv_istore (lv' := [(13, .int 0), (12, .int 100), (11, .int 0), (10, .int 0), (9, .int 0), (8, .ref q7), (7, .ref q6), (6, .ref q5), (5, .ref q4), (4, .ref q3), (3, .ref q2), (2, .ref q1), (1, .ref (A 0)), (0, .ref b)]) hx hb dL_law_59 hl (by decide) rfl (fun ls hl => ?_)
  refine lv_iconst (v := 0) hx hb dL_law_61 (by decide) ?_
  refine lv_istore (lv' := [(14, .int 0), (13, .int 0), (12, .int 100), (11, .int 0), (10, .int 0), (9, .int 0), (8, .ref q7), (7, .ref q6), (6, .ref q5), (5, .ref q4), (4, .ref q3), (3, .ref q2), (2, .ref q1), (1, .ref (A 0)), (0, .ref b)]) hx hb dL_law_62 hl (by decide) rfl (fun ls hl => ?_)
  refine lv_iconst (v := 0) hx hb dL_law_64 (by decide) ?_
  refine lv_istore (lv' := [(15, .int 0), (14, .int 0), (13, .int 0), (12, .int 100), (11, .int 0), (10, .int 0), (9, .int 0), (8, .ref q7), (7, .ref q6), (6, .ref q5), (5, .ref q4), (4, .ref q3), (3, .ref q2), (2, .ref q1), (1, .ref (A 0)), (0, .ref b)]) hx hb dL_law_65 hl (by decide) rfl (fun ls hl => ?_)
  refine lv_iconst (v := 0) hx hb dL_law_67 (by decide) ?_
  refine lv_istore (lv' := [(16, .int 0), (15, .int 0), (14, .int 0), (13, .int 0), (12, .int 100), (11, .int 0), (10, .int 0), (9, .int 0), (8, .ref q7), (7, .ref q6), (6, .ref q5), (5, .ref q4), (4, .ref q3), (3, .ref q2), (2, .ref q1), (1, .ref (A 0)), (0, .ref b)]) hx hb dL_law_68 hl (by decide) rfl (fun ls hl => ?_)
  obtain ⟨B, hB0, hB1, hB2, hB3, hB4, hB5, hB6⟩ : ∃ B : Nat → Nat, B 0 = q1 ∧ B 1 = q2 ∧ B 2 = q3 ∧ B 3 = q4 ∧ B 4 = q5 ∧ B 5 = q6 ∧ B 6 = q7 := ⟨fun i => [q1, q2, q3, q4, q5, q6, q7].getD i 0, rfl, rfl, rfl, rfl, rfl, rfl, rfl⟩
  subst hB0
  subst hB1
  subst hB2
  subst hB3
  subst hB4
  subst hB5
  subst hB6
  refine W.widen (k := 16) (n := 1811) (Nat.le_of_ble_eq_true rfl) (Nat.le_of_ble_eq_true rfl) ?_
  exact price_loop C0 hK (law_89 C0 hK hL) 24 0 (by omega) H _ ls (by rw [pF_0]; exact hP) (by rw [pF_0]; exact hD) hS (lv_sub hl [16, 15, 14, 13, 12, 11, 10, 9, 8, 7, 6, 5, 4, 3, 2, 1, 0] rfl)
