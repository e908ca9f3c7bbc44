theorem Inv_0 : Inv (fun _ => 0) (pF 24) (fun _ => 0) (fun _ => 0) (fun _ => 0) (fun _ => 0) (fun _ => 0) (fun _ => 0) 0 0 0 0 0 (fun _ => 0) (fun _ => 0) (fun _ => 0) 0 := by
  have z : (0 : Int32).toInt = 0 := by decide
  have n05 : ¬ (0 : Int32) = nI (0 + 5) := by decide
  refine ⟨⟨by omega, by omega⟩, ⟨fun j => ⟨by rw [z]; omega, by rw [z]; omega⟩, by rw [z]; omega, by rw [z]; omega⟩, fun j hj => ?_, ⟨fun j => ⟨by rw [z]; omega, by rw [z]; omega⟩, fun j _ => ⟨rfl, rfl⟩⟩, ⟨fun j => ⟨by rw [z]; omega, by rw [z]; omega⟩, fun j => ⟨by rw [z]; omega, by rw [z]; omega⟩, fun j => ⟨by rw [z]; omega, by rw [z]; omega⟩⟩, gF_zero, ⟨fun j => ⟨by rw [z]; omega, by rw [z]; omega⟩, fun j => rfl⟩, ⟨⟨by rw [z]; omega, by rw [z]; omega⟩, rfl⟩, ⟨fun j hj => absurd hj (Nat.not_lt_zero j), fun j _ => rfl⟩, fun j hj => absurd hj (Nat.not_lt_zero j), fun j hj => absurd hj (Nat.not_lt_zero j), fun k hk => ⟨rfl, Or.inr ⟨n05, rfl, rfl⟩⟩⟩
  have e : pF 24 j = 10 := by unfold pF; rw [if_pos hj]
  rw [e]
  exact ⟨by decide, by decide⟩
/-- one call done: on to the next -/
theorem law_next {p : Program} {l : Launch} {e : Env} {s : State} {m : MethodId} {below : List Frame} {meth : Method} {c : Code} {b Ln : Nat} {xs : Nat → Int32} {dG : va_G} {a A B : Nat → Nat} {o : Nat} {cA cL : ClassId} (hl0 : l.stackTraces = false) (C0 : lw_At p s m meth c b Ln xs) (hE : tgE a (aNew s.heap) s s.heap) (hK : va_K dG vwCl (tyL cA cL) s) (hLn : Ln ≤ 2048) {i : Nat} (k : lwAt p l e s m below meth c b dG A B o cA cL 23 (i + 1) (20 + (i + 1)) (3749 + 6 * (i + 1))) : lwAt p l e s m below meth c b dG A B o cA cL 1130 i (20 + i + 1) (3749 + 6 * i + 6) := by
  obtain ⟨hx, hb, hr, hml, hown, hts0, hX, hbl, hlocks, hgv⟩ := C0
  intro L P G V R N Y S Rp O D T h wd ft fl ce cl th mo fo H locs ls I hP hD hS hl
  refine lv_iinc (v := nI (4 * (i + 1))) (lv' := [(4, .int (nI (4 * (i + 1)))), (0, .ref b), (1, .ref (A 0)), (2, .ref (B 0)), (3, .ref o)]) hx hb dL_law_1130 hl (k := 4) rfl (nI_add (4 * i) 4) (by decide) rfl (fun ls hl => ?_)
  refine lv_goto (tgt := 23) hx hb dL_law_1133 (by decide) ?_
  exact k L P G V R N Y S Rp O D T h wd ft fl ce cl th mo fo H locs ls I hP hD hS (lv_sub hl [1, 2, 3, 4, 0] rfl)
set_option maxHeartbeats 1000000 in
set_option maxRecDepth 100000 in
/-- the loop's head -/
theorem law_head {p : Program} {l : Launch} {e : Env} {s : State} {m : MethodId} {below : List Frame} {meth : Method} {c : Code} {b Ln : Nat} {xs : Nat → Int32} {dG : va_G} {a A B : Nat → Nat} {o : Nat} {cA cL : ClassId} (hl0 : l.stackTraces = false) (C0 : lw_At p s m meth c b Ln xs) (hE : tgE a (aNew s.heap) s s.heap) (hK : va_K dG vwCl (tyL cA cL) s) (hLn : Ln ≤ 2048) {i : Nat} (hin : i ≤ 513) (k : 4 * i + 4 ≤ Ln → lwAt p l e s m below meth c b dG A B o cA cL 32 i (20 + i) (3749 + 6 * i)) : lwAt p l e s m below meth c b dG A B o cA cL 23 i (20 + i) (3749 + 6 * i) := by
  obtain ⟨hx, hb, hr, hml, hown, hts0, hX, hbl, hlocks, hgv⟩ := id C0
  have hbA : ¬ aNew s.heap b := Nat.not_le.mpr hbl
  intro L P G V R N Y S Rp O D T h wd ft fl ce cl th mo fo H locs ls I hP hD hS hl
  refine lv_iload hx hb dL_law_23 (lv_at hl 4 rfl) ?_
  refine lv_aload_n hx hb dL_law_25 rfl (lv_at hl 0 rfl) ?_
  refine va_slen hx hb hX hbl hbA hS dL_law_26 ?_
  refine lv_iconst (v := 4) hx hb dL_law_27 (by decide) ?_
  refine lv_isub hx hb dL_law_28 ?_
  have eL : (nI Ln - 4).toInt = (Ln : Int) - 4 := by
    have e1 : (nI Ln).toInt = (Ln : Int) := nI_toInt (by omega)
    have e2 : (4 : Int32).toInt = 4 := by decide
    rw [i32_sub (by rw [e1, e2]; omega) (by rw [e1, e2]; omega), e1, e2]
  have e5 : (nI (4 * i)).toInt = ((4 * i : Nat) : Int) := nI_toInt (by omega)
  refine lv_icmp_gt (tgt := 1136) hx hb dL_law_29 (by decide) (fun hg => ?_) (fun hg => ?_)
  · refine lv_iconst (v := 1) hx hb dL_law_1136 (by decide) ?_
    refine va_forget (fun q hq => hS.2.2 q hq) ?_
    refine W.widen (k := 1049) (n := 11971) (by omega) (by omega) ?_
    exact lw_ret (Drawn.sameBut.refl s.drawn lw_cs) hx hb hr hlocks dL_law_1137
  · have hg : ¬ (nI Ln - 4) < nI (4 * i) := hg
    rw [Int32.lt_iff_toInt_lt, eL, e5] at hg
    exact k (by omega) L P G V R N Y S Rp O D T h wd ft fl ce cl th mo fo H locs ls I hP hD hS hl
set_option maxHeartbeats 1000000 in
set_option maxRecDepth 100000 in
/-- one call of the law -/
theorem law_call {p : Program} {l : Launch} {e : Env} {s : State} {m : MethodId} {below : List Frame} {meth : Method} {c : Code} {b Ln : Nat} {xs : Nat → Int32} {dG : va_G} {a A B : Nat → Nat} {o : Nat} {cA cL : ClassId} (hl0 : l.stackTraces = false) (C0 : lw_At p s m meth c b Ln xs) (hE : tgE a (aNew s.heap) s s.heap) (hK : va_K dG vwCl (tyL cA cL) s) (hLn : Ln ≤ 2048) {i : Nat} (hi : 4 * i + 4 ≤ Ln) (k : lwAt p l e s m below meth c b dG A B o cA cL 1130 i (20 + i + 1) (3749 + 6 * i + 6)) : lwAt p l e s m below meth c b dG A B o cA cL 32 i (20 + i) (3749 + 6 * i) := by
  obtain ⟨hx, hb, hr, hml, hown, hts0, hX, hbl, hlocks, hgv⟩ := id C0
  have hbA : ¬ aNew s.heap b := Nat.not_le.mpr hbl
  intro L P G V R N Y S Rp O D T h wd ft fl ce cl th mo fo H locs ls I hP hD hS hl
  refine lv_aload_n hx hb dL_law_32 rfl (lv_at hl 0 rfl) ?_
  refine lv_iload hx hb dL_law_33 (lv_at hl 4 rfl) ?_
  refine va_sld hx hb hX hbl hbA hS (vp_in_nI (by omega) (by omega)) dL_law_35 ?_
  refine lv_bipush (v := 31) hx hb dL_law_36 (by decide) ?_
  refine lv_iand hx hb dL_law_38 ?_
  refine lv_topi (fun v ev => ?_)
  clear ev
  by_cases ho : v.toInt < 0 ∨ 18 < v.toInt
  · refine lv_tableOut (tgt := 1130) hx hb dL_law_39 ho (by decide) ?_
    refine W.widen (k := 20 + i + 1) (n := 3749 + 6 * i + 6) (by omega) (by omega) ?_
    exact k L P G V R N Y S Rp O D T h wd ft fl ce cl th mo fo H locs ls I hP hD hS hl
  have hd : v.toInt = 0 ∨ v.toInt = 1 ∨ v.toInt = 2 ∨ v.toInt = 3 ∨ v.toInt = 4 ∨ v.toInt = 5 ∨ v.toInt = 6 ∨ v.toInt = 7 ∨ v.toInt = 8 ∨ v.toInt = 9 ∨ v.toInt = 10 ∨ v.toInt = 11 ∨ v.toInt = 12 ∨ v.toInt = 13 ∨ v.toInt = 14 ∨ v.toInt = 15 ∨ v.toInt = 16 ∨ v.toInt = 17 ∨ v.toInt = 18 := by omega
  rcases hd with hv | hv | hv | hv | hv | hv | hv | hv | hv | hv | hv | hv | hv | hv | hv | hv | hv | hv | hv
  · refine lv_tableIn hx hb dL_law_39 (by omega) (by omega) (off := 89) (tgt := 128) (by rw [hv]; rfl) (by decide) ?_
    exact case_tide hl0 C0 hE hK hLn hi k L P G V R N Y S Rp O D T h wd ft fl ce cl th mo fo H locs ls I hP hD hS hl
  · refine lv_tableIn hx hb dL_law_39 (by omega) (by omega) (off := 157) (tgt := 196) (by rw [hv]; rfl) (by decide) ?_
    exact case_price hl0 C0 hE hK hLn hi k L P G V R N Y S Rp O D T h wd ft fl ce cl th mo fo H locs ls I hP hD hS hl
  · refine lv_tableIn hx hb dL_law_39 (by omega) (by omega) (off := 225) (tgt := 264) (by rw [hv]; rfl) (by decide) ?_
    exact case_wind hl0 C0 hE hK hLn hi k L P G V R N Y S Rp O D T h wd ft fl ce cl th mo fo H locs ls I hP hD hS hl
  · refine lv_tableIn hx hb dL_law_39 (by omega) (by omega) (off := 281) (tgt := 320) (by rw [hv]; rfl) (by decide) ?_
    exact case_turbine hl0 C0 hE hK hLn hi k L P G V R N Y S Rp O D T h wd ft fl ce cl th mo fo H locs ls I hP hD hS hl
  · refine lv_tableIn hx hb dL_law_39 (by omega) (by omega) (off := 325) (tgt := 364) (by rw [hv]; rfl) (by decide) ?_
    exact case_gate hl0 C0 hE hK hLn hi k L P G V R N Y S Rp O D T h wd ft fl ce cl th mo fo H locs ls I hP hD hS hl
  · refine lv_tableIn hx hb dL_law_39 (by omega) (by omega) (off := 393) (tgt := 432) (by rw [hv]; rfl) (by decide) ?_
    exact case_repair hl0 C0 hE hK hLn hi k L P G V R N Y S Rp O D T h wd ft fl ce cl th mo fo H locs ls I hP hD hS hl
  · refine lv_tableIn hx hb dL_law_39 (by omega) (by omega) (off := 449) (tgt := 488) (by rw [hv]; rfl) (by decide) ?_
    exact case_run hl0 C0 hE hK hLn hi k L P G V R N Y S Rp O D T h wd ft fl ce cl th mo fo H locs ls I hP hD hS hl
  · refine lv_tableIn hx hb dL_law_39 (by omega) (by omega) (off := 512) (tgt := 551) (by rw [hv]; rfl) (by decide) ?_
    exact case_limit hl0 C0 hE hK hLn hi k L P G V R N Y S Rp O D T h wd ft fl ce cl th mo fo H locs ls I hP hD hS hl
  · refine lv_tableIn hx hb dL_law_39 (by omega) (by omega) (off := 568) (tgt := 607) (by rw [hv]; rfl) (by decide) ?_
    exact case_sell hl0 C0 hE hK hLn hi k L P G V R N Y S Rp O D T h wd ft fl ce cl th mo fo H locs ls I hP hD hS hl
  · refine lv_tableIn hx hb dL_law_39 (by omega) (by omega) (off := 648) (tgt := 687) (by rw [hv]; rfl) (by decide) ?_
    exact case_pass hl0 C0 hE hK hLn hi k L P G V R N Y S Rp O D T h wd ft fl ce cl th mo fo H locs ls I hP hD hS hl
  · refine lv_tableIn hx hb dL_law_39 (by omega) (by omega) (off := 704) (tgt := 743) (by rw [hv]; rfl) (by decide) ?_
    exact case_now hl0 C0 hE hK hLn hi k L P G V R N Y S Rp O D T h wd ft fl ce cl th mo fo H locs ls I hP hD hS hl
  · refine lv_tableIn hx hb dL_law_39 (by omega) (by omega) (off := 717) (tgt := 756) (by rw [hv]; rfl) (by decide) ?_
    exact case_made hl0 C0 hE hK hLn hi k L P G V R N Y S Rp O D T h wd ft fl ce cl th mo fo H locs ls I hP hD hS hl
  · refine lv_tableIn hx hb dL_law_39 (by omega) (by omega) (off := 773) (tgt := 812) (by rw [hv]; rfl) (by decide) ?_
    exact case_madeAnew hl0 C0 hE hK hLn hi k L P G V R N Y S Rp O D T h wd ft fl ce cl th mo fo H locs ls I hP hD hS hl
  · refine lv_tableIn hx hb dL_law_39 (by omega) (by omega) (off := 829) (tgt := 868) (by rw [hv]; rfl) (by decide) ?_
    exact case_sold hl0 C0 hE hK hLn hi k L P G V R N Y S Rp O D T h wd ft fl ce cl th mo fo H locs ls I hP hD hS hl
  · refine lv_tableIn hx hb dL_law_39 (by omega) (by omega) (off := 885) (tgt := 924) (by rw [hv]; rfl) (by decide) ?_
    exact case_bought hl0 C0 hE hK hLn hi k L P G V R N Y S Rp O D T h wd ft fl ce cl th mo fo H locs ls I hP hD hS hl
  · refine lv_tableIn hx hb dL_law_39 (by omega) (by omega) (off := 941) (tgt := 980) (by rw [hv]; rfl) (by decide) ?_
    exact case_head hl0 C0 hE hK hLn hi k L P G V R N Y S Rp O D T h wd ft fl ce cl th mo fo H locs ls I hP hD hS hl
  · refine lv_tableIn hx hb dL_law_39 (by omega) (by omega) (off := 997) (tgt := 1036) (by rw [hv]; rfl) (by decide) ?_
    exact case_about hl0 C0 hE hK hLn hi k L P G V R N Y S Rp O D T h wd ft fl ce cl th mo fo H locs ls I hP hD hS hl
  · refine lv_tableIn hx hb dL_law_39 (by omega) (by omega) (off := 1065) (tgt := 1104) (by rw [hv]; rfl) (by decide) ?_
    exact case_closed hl0 C0 hE hK hLn hi k L P G V R N Y S Rp O D T h wd ft fl ce cl th mo fo H locs ls I hP hD hS hl
  · refine lv_tableIn hx hb dL_law_39 (by omega) (by omega) (off := 1078) (tgt := 1117) (by rw [hv]; rfl) (by decide) ?_
    exact case_money hl0 C0 hE hK hLn hi k L P G V R N Y S Rp O D T h wd ft fl ce cl th mo fo H locs ls I hP hD hS hl
/-- THE LAW'S LOOP: at its head, i calls behind it -/
theorem law_loop {p : Program} {l : Launch} {e : Env} {s : State} {m : MethodId} {below : List Frame} {meth : Method} {c : Code} {b Ln : Nat} {xs : Nat → Int32} {dG : va_G} {a A B : Nat → Nat} {o : Nat} {cA cL : ClassId} (hl0 : l.stackTraces = false) (C0 : lw_At p s m meth c b Ln xs) (hE : tgE a (aNew s.heap) s s.heap) (hK : va_K dG vwCl (tyL cA cL) s) (hLn : Ln ≤ 2048) : ∀ n i : Nat, i + n = 513 → lwAt p l e s m below meth c b dG A B o cA cL 23 i (20 + i) (3749 + 6 * i) := by
  intro n
  induction n with
  | zero =>
    intro i hin
    exact law_head hl0 C0 hE hK hLn (by omega) (fun h => absurd h (by omega))
  | succ n ih =>
    intro i hin
    exact law_head hl0 C0 hE hK hLn (by omega) (fun h => law_call hl0 C0 hE hK hLn h (law_next hl0 C0 hE hK hLn (ih (i + 1) (by omega))))
