set_option maxHeartbeats 1000000 in
set_option maxRecDepth 100000 in
theorem turb_loop {p : Program} {l : Launch} {e : Env} {s : State} {m : MethodId} {below : List Frame} {meth : Method} {c : Code} {b Ln : Nat} {xs : Nat → Int32} {dG : va_G} {A B : Nat → Nat} {cA : ClassId} (C0 : lw_At p s m meth c b Ln xs) (hK : va_K dG vwCl (tyI cA) s) {L P G Vf R Nf Yf S : Nat → Int32} {T t hf hh ct i : Nat} {wd ftf fl cef : Int32} {mof : UInt32} {y : Int32} {V Rp Y1 : Nat → Int32} {hd mv : Int32} {cn : Nat} (hT4 : T ≤ 4) (hV1 : ∀ j, (V j).toInt ≤ 1000) (hR1 : ∀ j, 0 ≤ (R j).toInt ∧ (R j).toInt ≤ 1000) (hRp : ∀ j, Rp j = nI ((R j).toNatClampNeg - hh)) (hG1 : ∀ j, 0 ≤ (G j).toInt) (hh1 : hh < 500) (hcn : cn < 1000) (kk : lwP p l e s m below meth c b dG 925 ((xW A cA L P G Vf R Nf Yf S wd (nI T) ftf fl cef (nI hf) mof) ++ (lW B cA L P G (allV G V R hh hd (nI cn) T) (allR Rp T) S Y1)) (lV A B b wd (nI T) 0 fl (nI (cn - hh)) (nI hh) mv (nI t) ++ [(18, .int y), (21, .int (nI ct)), (22, .int (nI i)), (23, .int hd), (24, .int (sumU G V R hh hd (nI cn) T))])) : ∀ (r j : Nat) (W1 M1 : Nat → Int32) (sm : Int32), j + r = T → W1 = (allV G V R hh hd (nI cn) j) → M1 = allR Rp j → sm = (sumU G V R hh hd (nI cn) j) → lwP p l e s m below meth c b dG 776 ((xW A cA L P G Vf R Nf Yf S wd (nI T) ftf fl cef (nI hf) mof) ++ (lW B cA L P G W1 M1 S Y1)) (lV A B b wd (nI T) 0 fl (nI (cn - hh)) (nI hh) mv (nI t) ++ [(18, .int y), (21, .int (nI ct)), (22, .int (nI i)), (23, .int hd), (24, .int sm), (25, .int (nI j))]) := by
  obtain ⟨hx, hb, hr, hml, hown0, hts0, hX, hbl, hlocks, hgv⟩ := id C0
  have hown : s.vm.findClass RL = some m.cls := hown0
  have hts : ∀ w ∈ wsL_law, w.before #[Value.ref b] s = true := fun w h => hts0 w (wsL_law_in w h)
  have hA : ∀ q : Nat, s.heap.size ≤ q → aNew s.heap q := fun _ h => h
  have hbA : ¬ aNew s.heap b := Nat.not_le.mpr hbl
  intro r
  induction r with
  | zero =>
    intro j W1 M1 sm hj hW hM hs
    have hj : j = T := by omega
    subst hj
    subst hW
    subst hM
    subst hs
    intro H locs ls hP hD hS hl
    have hl : lv_has ls 27 ([(0, .ref b), (1, .ref (A 0)), (2, .ref (B 0)), (3, .ref (B 1)), (4, .ref (B 2)), (5, .ref (B 3)), (6, .ref (B 4)), (7, .ref (B 5)), (8, .ref (B 6)), (9, .int wd), (10, .int (nI j)), (11, .int 0), (12, .int fl), (13, .int (nI (cn - hh))), (14, .int (nI hh)), (15, .int mv), (16, .int (nI t)), (18, .int y), (21, .int (nI ct)), (22, .int (nI i)), (23, .int hd), (24, .int (sumU G V R hh hd (nI cn) j)), (25, .int (nI j))]) := hl
    refine lv_iload hx hb dL_law_776 (lv_at hl 22 rfl) ?_
    refine lv_iload hx hb dL_law_778 (lv_at hl 10 rfl) ?_
    refine lv_icmp_ge (tgt := 925) hx hb dL_law_780 (by decide) (fun _ => ?_) (fun h9 => absurd (nI_le (by omega) (by omega)) h9)
    exact kk H locs ls hP hD hS (lv_sub hl [0, 1, 2, 3, 4, 5, 6, 7, 8, 9, 10, 11, 12, 13, 14, 15, 16, 17, 18, 19, 20, 21] rfl)
  | succ r ih =>
    intro j W1 M1 sm hj hW hM hs
    intro H locs ls hP hD hS hl
    have hl : lv_has ls 27 ([(0, .ref b), (1, .ref (A 0)), (2, .ref (B 0)), (3, .ref (B 1)), (4, .ref (B 2)), (5, .ref (B 3)), (6, .ref (B 4)), (7, .ref (B 5)), (8, .ref (B 6)), (9, .int wd), (10, .int (nI T)), (11, .int 0), (12, .int fl), (13, .int (nI (cn - hh))), (14, .int (nI hh)), (15, .int mv), (16, .int (nI t)), (18, .int y), (21, .int (nI ct)), (22, .int (nI i)), (23, .int hd), (24, .int sm), (25, .int (nI j))]) := hl
    refine lv_iload hx hb dL_law_776 (lv_at hl 22 rfl) ?_
    refine lv_iload hx hb dL_law_778 (lv_at hl 10 rfl) ?_
    refine lv_icmp_ge (tgt := 925) hx hb dL_law_780 (by decide) (fun h9 => absurd h9 (nI_ge (by omega) (by omega))) (fun _ => ?_)
    refine lv_aload hx hb dL_law_783 (lv_at hl 5 rfl) ?_
    refine lv_iload hx hb dL_law_785 (lv_at hl 22 rfl) ?_
    refine va_iald hx hb hK hP 12 0 rfl rfl (vp_in_nI (by omega) (by omega)) dL_law_787 ?_
    refine lv_topi (fun v9 e9 => ?_)
    rw [nI_clamp (n := j) (by omega)] at e9
    subst e9
    refine lv_sipush (v := 1000) hx hb dL_law_788 (by decide) ?_
    refine lv_icmp_ge (tgt := 811) hx hb dL_law_791 (by decide) (fun cq1 => ?_) (fun cq1 => ?_)
    · refine lv_iconst (v := 0) hx hb dL_law_811 (by decide) ?_
      refine lv_istore (lv' := [(26, .int 0), (0, .ref b), (1, .ref (A 0)), (2, .ref (B 0)), (3, .ref (B 1)), (4, .ref (B 2)), (5, .ref (B 3)), (6, .ref (B 4)), (7, .ref (B 5)), (8, .ref (B 6)), (9, .int wd), (10, .int (nI T)), (11, .int 0), (12, .int fl), (13, .int (nI (cn - hh))), (14, .int (nI hh)), (15, .int mv), (16, .int (nI t)), (18, .int y), (21, .int (nI ct)), (22, .int (nI i)), (23, .int hd), (24, .int sm), (25, .int (nI j))]) hx hb dL_law_812 hl (by decide) rfl (fun ls hl => ?_)
      refine lv_aload hx hb dL_law_814 (lv_at hl 7 rfl) ?_
      refine lv_iload hx hb dL_law_816 (lv_at hl 23 rfl) ?_
      refine va_iald hx hb hK hP 13 0 rfl rfl (vp_in_nI (by omega) (by omega)) dL_law_818 ?_
      refine lv_topi (fun v9 e9 => ?_)
      rw [nI_clamp (n := j) (by omega)] at e9
      subst e9
      refine lv_if_le (tgt := 831) hx hb dL_law_819 (by decide) (fun cq2 => ?_) (fun cq2 => ?_)
      · refine lv_iload hx hb dL_law_831 (lv_at hl 0 rfl) ?_
        refine lv_if_ne (tgt := 839) hx hb dL_law_833 (by decide) (fun h9 => absurd (by decide) h9) (fun _ => ?_)
        refine lv_goto (tgt := 919) hx hb dL_law_836 (by decide) ?_
        refine lv_iinc (v := (nI (j + 1))) (lv' := [(25, .int (nI (j + 1))), (26, .int 0), (0, .ref b), (1, .ref (A 0)), (2, .ref (B 0)), (3, .ref (B 1)), (4, .ref (B 2)), (5, .ref (B 3)), (6, .ref (B 4)), (7, .ref (B 5)), (8, .ref (B 6)), (9, .int wd), (10, .int (nI T)), (11, .int 0), (12, .int fl), (13, .int (nI (cn - hh))), (14, .int (nI hh)), (15, .int mv), (16, .int (nI t)), (18, .int y), (21, .int (nI ct)), (22, .int (nI i)), (23, .int hd), (24, .int sm)]) hx hb dL_law_919 hl (k := 23) rfl (nI_1 j) (by decide) rfl (fun ls hl => ?_)
        refine lv_goto (tgt := 776) hx hb dL_law_922 (by decide) ?_
        exact (ih (j + 1) W1 M1 sm (by omega) (tl_no (wk_no1 hW cq1) hW) (mr_le hM cq2) (su_no (wk_no1 hW cq1) hs)) H locs ls hP hD hS (lv_sub hl [2, 3, 4, 5, 6, 7, 8, 9, 10, 11, 12, 13, 14, 15, 16, 17, 18, 19, 20, 21, 22, 23, 0] rfl)
      · refine lv_aload hx hb dL_law_822 (lv_at hl 7 rfl) ?_
        refine lv_iload hx hb dL_law_824 (lv_at hl 23 rfl) ?_
        refine lv_dup2_11 hx hb dL_law_826 rfl rfl ?_
        refine va_iald hx hb hK hP 13 0 rfl rfl (vp_in_nI (by omega) (by omega)) dL_law_827 ?_
        refine lv_topi (fun v9 e9 => ?_)
        rw [nI_clamp (n := j) (by omega)] at e9
        subst e9
        refine lv_iconst (v := 1) hx hb dL_law_828 (by decide) ?_
        refine lv_isub hx hb dL_law_829 ?_
        refine va_iast hx hb hK hP hD hS 13 0 rfl rfl (vp_in_nI (by omega) (by omega)) dL_law_830 (fun H locs hP hD hS => ?_)
        rw [nI_clamp (n := j) (by omega)] at hP hD
        have hP : va_P dG vwCl ((xW A cA L P G Vf R Nf Yf S wd (nI T) ftf fl cef (nI hf) mof) ++ (lW B cA L P G W1 (upd M1 j ((M1 j) - 1)) S Y1)) H := hP
        have hD : va_D (aNew s.heap) ((xW A cA L P G Vf R Nf Yf S wd (nI T) ftf fl cef (nI hf) mof) ++ (lW B cA L P G W1 (upd M1 j ((M1 j) - 1)) S Y1)) := hD
        refine lv_iload hx hb dL_law_831 (lv_at hl 0 rfl) ?_
        refine lv_if_ne (tgt := 839) hx hb dL_law_833 (by decide) (fun h9 => absurd (by decide) h9) (fun _ => ?_)
        refine lv_goto (tgt := 919) hx hb dL_law_836 (by decide) ?_
        refine lv_iinc (v := (nI (j + 1))) (lv' := [(25, .int (nI (j + 1))), (26, .int 0), (0, .ref b), (1, .ref (A 0)), (2, .ref (B 0)), (3, .ref (B 1)), (4, .ref (B 2)), (5, .ref (B 3)), (6, .ref (B 4)), (7, .ref (B 5)), (8, .ref (B 6)), (9, .int wd), (10, .int (nI T)), (11, .int 0), (12, .int fl), (13, .int (nI (cn - hh))), (14, .int (nI hh)), (15, .int mv), (16, .int (nI t)), (18, .int y), (21, .int (nI ct)), (22, .int (nI i)), (23, .int hd), (24, .int sm)]) hx hb dL_law_919 hl (k := 23) rfl (nI_1 j) (by decide) rfl (fun ls hl => ?_)
        refine lv_goto (tgt := 776) hx hb dL_law_922 (by decide) ?_
        exact (ih (j + 1) W1 (upd M1 j ((M1 j) - 1)) sm (by omega) (tl_no (wk_no1 hW cq1) hW) (mr_gt hM cq2) (su_no (wk_no1 hW cq1) hs)) H locs ls hP hD hS (lv_sub hl [2, 3, 4, 5, 6, 7, 8, 9, 10, 11, 12, 13, 14, 15, 16, 17, 18, 19, 20, 21, 22, 23, 0] rfl)
    · refine lv_aload hx hb dL_law_794 (lv_at hl 6 rfl) ?_
      refine lv_iload hx hb dL_law_796 (lv_at hl 22 rfl) ?_
      refine va_iald hx hb hK hP 13 0 rfl rfl (vp_in_nI (by omega) (by omega)) dL_law_798 ?_
      refine lv_topi (fun v9 e9 => ?_)
      rw [nI_clamp (n := j) (by omega)] at e9
      subst e9
      refine lv_if_ne (tgt := 811) hx hb dL_law_799 (by decide) (fun cq3 => ?_) (fun cq3 => ?_)
      · refine lv_iconst (v := 0) hx hb dL_law_811 (by decide) ?_
        refine lv_istore (lv' := [(26, .int 0), (0, .ref b), (1, .ref (A 0)), (2, .ref (B 0)), (3, .ref (B 1)), (4, .ref (B 2)), (5, .ref (B 3)), (6, .ref (B 4)), (7, .ref (B 5)), (8, .ref (B 6)), (9, .int wd), (10, .int (nI T)), (11, .int 0), (12, .int fl), (13, .int (nI (cn - hh))), (14, .int (nI hh)), (15, .int mv), (16, .int (nI t)), (18, .int y), (21, .int (nI ct)), (22, .int (nI i)), (23, .int hd), (24, .int sm), (25, .int (nI j))]) hx hb dL_law_812 hl (by decide) rfl (fun ls hl => ?_)
        refine lv_aload hx hb dL_law_814 (lv_at hl 7 rfl) ?_
        refine lv_iload hx hb dL_law_816 (lv_at hl 23 rfl) ?_
        refine va_iald hx hb hK hP 13 0 rfl rfl (vp_in_nI (by omega) (by omega)) dL_law_818 ?_
        refine lv_topi (fun v9 e9 => ?_)
        rw [nI_clamp (n := j) (by omega)] at e9
        subst e9
        refine lv_if_le (tgt := 831) hx hb dL_law_819 (by decide) (fun cq4 => ?_) (fun cq4 => ?_)
        · refine lv_iload hx hb dL_law_831 (lv_at hl 0 rfl) ?_
          refine lv_if_ne (tgt := 839) hx hb dL_law_833 (by decide) (fun h9 => absurd (by decide) h9) (fun _ => ?_)
          refine lv_goto (tgt := 919) hx hb dL_law_836 (by decide) ?_
          refine lv_iinc (v := (nI (j + 1))) (lv' := [(25, .int (nI (j + 1))), (26, .int 0), (0, .ref b), (1, .ref (A 0)), (2, .ref (B 0)), (3, .ref (B 1)), (4, .ref (B 2)), (5, .ref (B 3)), (6, .ref (B 4)), (7, .ref (B 5)), (8, .ref (B 6)), (9, .int wd), (10, .int (nI T)), (11, .int 0), (12, .int fl), (13, .int (nI (cn - hh))), (14, .int (nI hh)), (15, .int mv), (16, .int (nI t)), (18, .int y), (21, .int (nI ct)), (22, .int (nI i)), (23, .int hd), (24, .int sm)]) hx hb dL_law_919 hl (k := 23) rfl (nI_1 j) (by decide) rfl (fun ls hl => ?_)
          refine lv_goto (tgt := 776) hx hb dL_law_922 (by decide) ?_
          exact (ih (j + 1) W1 M1 sm (by omega) (tl_no (wk_no2 hM (hRp j) (hR1 j) (by omega) cq3) hW) (mr_le hM cq4) (su_no (wk_no2 hM (hRp j) (hR1 j) (by omega) cq3) hs)) H locs ls hP hD hS (lv_sub hl [2, 3, 4, 5, 6, 7, 8, 9, 10, 11, 12, 13, 14, 15, 16, 17, 18, 19, 20, 21, 22, 23, 0] rfl)
        · refine lv_aload hx hb dL_law_822 (lv_at hl 7 rfl) ?_
          refine lv_iload hx hb dL_law_824 (lv_at hl 23 rfl) ?_
          refine lv_dup2_11 hx hb dL_law_826 rfl rfl ?_
          refine va_iald hx hb hK hP 13 0 rfl rfl (vp_in_nI (by omega) (by omega)) dL_law_827 ?_
          refine lv_topi (fun v9 e9 => ?_)
          rw [nI_clamp (n := j) (by omega)] at e9
          subst e9
          refine lv_iconst (v := 1) hx hb dL_law_828 (by decide) ?_
          refine lv_isub hx hb dL_law_829 ?_
          refine va_iast hx hb hK hP hD hS 13 0 rfl rfl (vp_in_nI (by omega) (by omega)) dL_law_830 (fun H locs hP hD hS => ?_)
          rw [nI_clamp (n := j) (by omega)] at hP hD
          have hP : va_P dG vwCl ((xW A cA L P G Vf R Nf Yf S wd (nI T) ftf fl cef (nI hf) mof) ++ (lW B cA L P G W1 (upd M1 j ((M1 j) - 1)) S Y1)) H := hP
          have hD : va_D (aNew s.heap) ((xW A cA L P G Vf R Nf Yf S wd (nI T) ftf fl cef (nI hf) mof) ++ (lW B cA L P G W1 (upd M1 j ((M1 j) - 1)) S Y1)) := hD
          refine lv_iload hx hb dL_law_831 (lv_at hl 0 rfl) ?_
          refine lv_if_ne (tgt := 839) hx hb dL_law_833 (by decide) (fun h9 => absurd (by decide) h9) (fun _ => ?_)
          refine lv_goto (tgt := 919) hx hb dL_law_836 (by decide) ?_
          refine lv_iinc (v := (nI (j + 1))) (lv' := [(25, .int (nI (j + 1))), (26, .int 0), (0, .ref b), (1, .ref (A 0)), (2, .ref (B 0)), (3, .ref (B 1)), (4, .ref (B 2)), (5, .ref (B 3)), (6, .ref (B 4)), (7, .ref (B 5)), (8, .ref (B 6)), (9, .int wd), (10, .int (nI T)), (11, .int 0), (12, .int fl), (13, .int (nI (cn - hh))), (14, .int (nI hh)), (15, .int mv), (16, .int (nI t)), (18, .int y), (21, .int (nI ct)), (22, .int (nI i)), (23, .int hd), (24, .int sm)]) hx hb dL_law_919 hl (k := 23) rfl (nI_1 j) (by decide) rfl (fun ls hl => ?_)
          refine lv_goto (tgt := 776) hx hb dL_law_922 (by decide) ?_
          exact (ih (j + 1) W1 (upd M1 j ((M1 j) - 1)) sm (by omega) (tl_no (wk_no2 hM (hRp j) (hR1 j) (by omega) cq3) hW) (mr_gt hM cq4) (su_no (wk_no2 hM (hRp j) (hR1 j) (by omega) cq3) hs)) H locs ls hP hD hS (lv_sub hl [2, 3, 4, 5, 6, 7, 8, 9, 10, 11, 12, 13, 14, 15, 16, 17, 18, 19, 20, 21, 22, 23, 0] rfl)
      · refine lv_iload hx hb dL_law_802 (lv_at hl 13 rfl) ?_
        refine lv_if_ne (tgt := 811) hx hb dL_law_804 (by decide) (fun cq5 => ?_) (fun cq5 => ?_)
        · refine lv_iconst (v := 0) hx hb dL_law_811 (by decide) ?_
          refine lv_istore (lv' := [(26, .int 0), (0, .ref b), (1, .ref (A 0)), (2, .ref (B 0)), (3, .ref (B 1)), (4, .ref (B 2)), (5, .ref (B 3)), (6, .ref (B 4)), (7, .ref (B 5)), (8, .ref (B 6)), (9, .int wd), (10, .int (nI T)), (11, .int 0), (12, .int fl), (13, .int (nI (cn - hh))), (14, .int (nI hh)), (15, .int mv), (16, .int (nI t)), (18, .int y), (21, .int (nI ct)), (22, .int (nI i)), (23, .int hd), (24, .int sm), (25, .int (nI j))]) hx hb dL_law_812 hl (by decide) rfl (fun ls hl => ?_)
          refine lv_aload hx hb dL_law_814 (lv_at hl 7 rfl) ?_
          refine lv_iload hx hb dL_law_816 (lv_at hl 23 rfl) ?_
          refine va_iald hx hb hK hP 13 0 rfl rfl (vp_in_nI (by omega) (by omega)) dL_law_818 ?_
          refine lv_topi (fun v9 e9 => ?_)
          rw [nI_clamp (n := j) (by omega)] at e9
          subst e9
          refine lv_if_le (tgt := 831) hx hb dL_law_819 (by decide) (fun _ => ?_) (fun h9 => absurd (by rw [cq3]; decide) h9)
          refine lv_iload hx hb dL_law_831 (lv_at hl 0 rfl) ?_
          refine lv_if_ne (tgt := 839) hx hb dL_law_833 (by decide) (fun h9 => absurd (by decide) h9) (fun _ => ?_)
          refine lv_goto (tgt := 919) hx hb dL_law_836 (by decide) ?_
          refine lv_iinc (v := (nI (j + 1))) (lv' := [(25, .int (nI (j + 1))), (26, .int 0), (0, .ref b), (1, .ref (A 0)), (2, .ref (B 0)), (3, .ref (B 1)), (4, .ref (B 2)), (5, .ref (B 3)), (6, .ref (B 4)), (7, .ref (B 5)), (8, .ref (B 6)), (9, .int wd), (10, .int (nI T)), (11, .int 0), (12, .int fl), (13, .int (nI (cn - hh))), (14, .int (nI hh)), (15, .int mv), (16, .int (nI t)), (18, .int y), (21, .int (nI ct)), (22, .int (nI i)), (23, .int hd), (24, .int sm)]) hx hb dL_law_919 hl (k := 23) rfl (nI_1 j) (by decide) rfl (fun ls hl => ?_)
          refine lv_goto (tgt := 776) hx hb dL_law_922 (by decide) ?_
          exact (ih (j + 1) W1 M1 sm (by omega) (tl_no (wk_no3 (by omega) cq5) hW) (mr_le hM (by rw [cq3]; decide)) (su_no (wk_no3 (by omega) cq5) hs)) H locs ls hP hD hS (lv_sub hl [2, 3, 4, 5, 6, 7, 8, 9, 10, 11, 12, 13, 14, 15, 16, 17, 18, 19, 20, 21, 22, 23, 0] rfl)
        · refine lv_iconst (v := 1) hx hb dL_law_807 (by decide) ?_
          refine lv_goto (tgt := 812) hx hb dL_law_808 (by decide) ?_
          refine lv_istore (lv' := [(26, .int 1), (0, .ref b), (1, .ref (A 0)), (2, .ref (B 0)), (3, .ref (B 1)), (4, .ref (B 2)), (5, .ref (B 3)), (6, .ref (B 4)), (7, .ref (B 5)), (8, .ref (B 6)), (9, .int wd), (10, .int (nI T)), (11, .int 0), (12, .int fl), (13, .int (nI (cn - hh))), (14, .int (nI hh)), (15, .int mv), (16, .int (nI t)), (18, .int y), (21, .int (nI ct)), (22, .int (nI i)), (23, .int hd), (24, .int sm), (25, .int (nI j))]) hx hb dL_law_812 hl (by decide) rfl (fun ls hl => ?_)
          refine lv_aload hx hb dL_law_814 (lv_at hl 7 rfl) ?_
          refine lv_iload hx hb dL_law_816 (lv_at hl 23 rfl) ?_
          refine va_iald hx hb hK hP 13 0 rfl rfl (vp_in_nI (by omega) (by omega)) dL_law_818 ?_
          refine lv_topi (fun v9 e9 => ?_)
          rw [nI_clamp (n := j) (by omega)] at e9
          subst e9
          refine lv_if_le (tgt := 831) hx hb dL_law_819 (by decide) (fun _ => ?_) (fun h9 => absurd (by rw [cq3]; decide) h9)
          refine lv_iload hx hb dL_law_831 (lv_at hl 0 rfl) ?_
          refine lv_if_ne (tgt := 839) hx hb dL_law_833 (by decide) (fun _ => ?_) (fun h9 => absurd h9 (by decide))
          refine lv_iload hx hb dL_law_839 (lv_at hl 22 rfl) ?_
          refine lv_iload hx hb dL_law_841 (lv_at hl 21 rfl) ?_
          refine lv_aload hx hb dL_law_843 (lv_at hl 5 rfl) ?_
          refine lv_iload hx hb dL_law_845 (lv_at hl 23 rfl) ?_
          refine va_iald hx hb hK hP 11 0 rfl rfl (vp_in_nI (by omega) (by omega)) dL_law_847 ?_
          refine lv_topi (fun v9 e9 => ?_)
          rw [nI_clamp (n := j) (by omega)] at e9
          subst e9
          refine lv_imul hx hb dL_law_848 ?_
          refine lv_sipush (v := 1000) hx hb dL_law_849 (by decide) ?_
          refine lv_aload hx hb dL_law_852 (lv_at hl 6 rfl) ?_
          refine lv_iload hx hb dL_law_854 (lv_at hl 23 rfl) ?_
          refine va_iald hx hb hK hP 12 0 rfl rfl (vp_in_nI (by omega) (by omega)) dL_law_856 ?_
          refine lv_topi (fun v9 e9 => ?_)
          rw [nI_clamp (n := j) (by omega)] at e9
          subst e9
          refine lv_isub hx hb dL_law_857 ?_
          refine lv_imul hx hb dL_law_858 ?_
          refine lv_sipush (v := 8000) hx hb dL_law_859 (by decide) ?_
          refine lv_idiv hx hb dL_law_862 (by decide) ?_
          refine lv_iadd hx hb dL_law_863 ?_
          refine lv_istore (lv' := [(24, .int (sm + (((hd * (G j)) * (1000 - (W1 j))) / 8000))), (26, .int 1), (0, .ref b), (1, .ref (A 0)), (2, .ref (B 0)), (3, .ref (B 1)), (4, .ref (B 2)), (5, .ref (B 3)), (6, .ref (B 4)), (7, .ref (B 5)), (8, .ref (B 6)), (9, .int wd), (10, .int (nI T)), (11, .int 0), (12, .int fl), (13, .int (nI (cn - hh))), (14, .int (nI hh)), (15, .int mv), (16, .int (nI t)), (18, .int y), (21, .int (nI ct)), (22, .int (nI i)), (23, .int hd), (25, .int (nI j))]) hx hb dL_law_864 hl (by decide) rfl (fun ls hl => ?_)
          refine lv_aload hx hb dL_law_866 (lv_at hl 6 rfl) ?_
          refine lv_iload hx hb dL_law_868 (lv_at hl 23 rfl) ?_
          refine va_iald hx hb hK hP 11 0 rfl rfl (vp_in_nI (by omega) (by omega)) dL_law_870 ?_
          refine lv_topi (fun v9 e9 => ?_)
          rw [nI_clamp (n := j) (by omega)] at e9
          subst e9
          refine lv_if_le (tgt := 900) hx hb dL_law_871 (by decide) (fun cq6 => ?_) (fun cq6 => ?_)
          · refine lv_aload hx hb dL_law_900 (lv_at hl 7 rfl) ?_
            refine lv_iload hx hb dL_law_902 (lv_at hl 23 rfl) ?_
            refine va_iald hx hb hK hP 12 0 rfl rfl (vp_in_nI (by omega) (by omega)) dL_law_904 ?_
            refine lv_topi (fun v9 e9 => ?_)
            rw [nI_clamp (n := j) (by omega)] at e9
            subst e9
            refine lv_sipush (v := 1000) hx hb dL_law_905 (by decide) ?_
            refine lv_icmp_le (tgt := 919) hx hb dL_law_908 (by decide) (fun _ => ?_) (fun h9 => absurd (v_le hW (hV1 j)) h9)
            refine lv_iinc (v := (nI (j + 1))) (lv' := [(25, .int (nI (j + 1))), (24, .int (sm + (((hd * (G j)) * (1000 - (W1 j))) / 8000))), (26, .int 1), (0, .ref b), (1, .ref (A 0)), (2, .ref (B 0)), (3, .ref (B 1)), (4, .ref (B 2)), (5, .ref (B 3)), (6, .ref (B 4)), (7, .ref (B 5)), (8, .ref (B 6)), (9, .int wd), (10, .int (nI T)), (11, .int 0), (12, .int fl), (13, .int (nI (cn - hh))), (14, .int (nI hh)), (15, .int mv), (16, .int (nI t)), (18, .int y), (21, .int (nI ct)), (22, .int (nI i)), (23, .int hd)]) hx hb dL_law_919 hl (k := 23) rfl (nI_1 j) (by decide) rfl (fun ls hl => ?_)
            refine lv_goto (tgt := 776) hx hb dL_law_922 (by decide) ?_
            exact (ih (j + 1) W1 M1 (sm + (((hd * (G j)) * (1000 - (W1 j))) / 8000)) (by omega) (we_0 (wk_yes hW hM (hRp j) (hR1 j) (by omega) (by omega) cq1 cq3 cq5) hW (hG1 j) cq6) (mr_le hM (by rw [cq3]; decide)) (su_yes (wk_yes hW hM (hRp j) (hR1 j) (by omega) (by omega) cq1 cq3 cq5) hW hs)) H locs ls hP hD hS (lv_sub hl [3, 4, 5, 6, 7, 8, 9, 10, 11, 12, 13, 14, 15, 16, 17, 18, 19, 20, 21, 22, 23, 1, 0] rfl)
          · refine lv_aload hx hb dL_law_874 (lv_at hl 7 rfl) ?_
            refine lv_iload hx hb dL_law_876 (lv_at hl 23 rfl) ?_
            refine lv_dup2_11 hx hb dL_law_878 rfl rfl ?_
            refine va_iald hx hb hK hP 12 0 rfl rfl (vp_in_nI (by omega) (by omega)) dL_law_879 ?_
            refine lv_topi (fun v9 e9 => ?_)
            rw [nI_clamp (n := j) (by omega)] at e9
            subst e9
            refine lv_aload hx hb dL_law_880 (lv_at hl 6 rfl) ?_
            refine lv_iload hx hb dL_law_882 (lv_at hl 23 rfl) ?_
            refine va_iald hx hb hK hP 11 0 rfl rfl (vp_in_nI (by omega) (by omega)) dL_law_884 ?_
            refine lv_topi (fun v9 e9 => ?_)
            rw [nI_clamp (n := j) (by omega)] at e9
            subst e9
            refine lv_iload hx hb dL_law_885 (lv_at hl 22 rfl) ?_
            refine lv_bipush (v := 60) hx hb dL_law_887 (by decide) ?_
            refine lv_icmp_le (tgt := 896) hx hb dL_law_889 (by decide) (fun cq7 => ?_) (fun cq7 => ?_)
            · refine lv_iconst (v := 0) hx hb dL_law_896 (by decide) ?_
              refine lv_iadd hx hb dL_law_897 ?_
              refine lv_iadd hx hb dL_law_898 ?_
              refine va_iast hx hb hK hP hD hS 12 0 rfl rfl (vp_in_nI (by omega) (by omega)) dL_law_899 (fun H locs hP hD hS => ?_)
              rw [nI_clamp (n := j) (by omega)] at hP hD
              have hP : va_P dG vwCl ((xW A cA L P G Vf R Nf Yf S wd (nI T) ftf fl cef (nI hf) mof) ++ (lW B cA L P G (upd W1 j ((W1 j) + ((G j) + 0))) M1 S Y1)) H := hP
              have hD : va_D (aNew s.heap) ((xW A cA L P G Vf R Nf Yf S wd (nI T) ftf fl cef (nI hf) mof) ++ (lW B cA L P G (upd W1 j ((W1 j) + ((G j) + 0))) M1 S Y1)) := hD
              refine lv_aload hx hb dL_law_900 (lv_at hl 7 rfl) ?_
              refine lv_iload hx hb dL_law_902 (lv_at hl 23 rfl) ?_
              refine va_iald hx hb hK hP 12 0 rfl rfl (vp_in_nI (by omega) (by omega)) dL_law_904 ?_
              refine lv_topi (fun v9 e9 => ?_)
              rw [nI_clamp (n := j) (by omega)] at e9
              subst e9
              refine lv_sipush (v := 1000) hx hb dL_law_905 (by decide) ?_
              refine lv_icmp_le (tgt := 919) hx hb dL_law_908 (by decide) (fun cq8 => ?_) (fun cq8 => ?_)
              · refine lv_iinc (v := (nI (j + 1))) (lv' := [(25, .int (nI (j + 1))), (24, .int (sm + (((hd * (G j)) * (1000 - (W1 j))) / 8000))), (26, .int 1), (0, .ref b), (1, .ref (A 0)), (2, .ref (B 0)), (3, .ref (B 1)), (4, .ref (B 2)), (5, .ref (B 3)), (6, .ref (B 4)), (7, .ref (B 5)), (8, .ref (B 6)), (9, .int wd), (10, .int (nI T)), (11, .int 0), (12, .int fl), (13, .int (nI (cn - hh))), (14, .int (nI hh)), (15, .int mv), (16, .int (nI t)), (18, .int y), (21, .int (nI ct)), (22, .int (nI i)), (23, .int hd)]) hx hb dL_law_919 hl (k := 23) rfl (nI_1 j) (by decide) rfl (fun ls hl => ?_)
                refine lv_goto (tgt := 776) hx hb dL_law_922 (by decide) ?_
                exact (ih (j + 1) (upd W1 j ((W1 j) + ((G j) + 0))) M1 (sm + (((hd * (G j)) * (1000 - (W1 j))) / 8000)) (by omega) (we_le (wk_yes hW hM (hRp j) (hR1 j) (by omega) (by omega) cq1 cq3 cq5) hW cq6 (Or.inl ⟨cq7, rfl⟩) cq8) (mr_le hM (by rw [cq3]; decide)) (su_yes (wk_yes hW hM (hRp j) (hR1 j) (by omega) (by omega) cq1 cq3 cq5) hW hs)) H locs ls hP hD hS (lv_sub hl [3, 4, 5, 6, 7, 8, 9, 10, 11, 12, 13, 14, 15, 16, 17, 18, 19, 20, 21, 22, 23, 1, 0] rfl)
              · refine lv_aload hx hb dL_law_911 (lv_at hl 7 rfl) ?_
                refine lv_iload hx hb dL_law_913 (lv_at hl 23 rfl) ?_
                refine lv_sipush (v := 1000) hx hb dL_law_915 (by decide) ?_
                refine va_iast hx hb hK hP hD hS 12 0 rfl rfl (vp_in_nI (by omega) (by omega)) dL_law_918 (fun H locs hP hD hS => ?_)
                rw [nI_clamp (n := j) (by omega)] at hP hD
                have hP : va_P dG vwCl ((xW A cA L P G Vf R Nf Yf S wd (nI T) ftf fl cef (nI hf) mof) ++ (lW B cA L P G (upd (upd W1 j ((W1 j) + ((G j) + 0))) j 1000) M1 S Y1)) H := hP
                have hD : va_D (aNew s.heap) ((xW A cA L P G Vf R Nf Yf S wd (nI T) ftf fl cef (nI hf) mof) ++ (lW B cA L P G (upd (upd W1 j ((W1 j) + ((G j) + 0))) j 1000) M1 S Y1)) := hD
                refine lv_iinc (v := (nI (j + 1))) (lv' := [(25, .int (nI (j + 1))), (24, .int (sm + (((hd * (G j)) * (1000 - (W1 j))) / 8000))), (26, .int 1), (0, .ref b), (1, .ref (A 0)), (2, .ref (B 0)), (3, .ref (B 1)), (4, .ref (B 2)), (5, .ref (B 3)), (6, .ref (B 4)), (7, .ref (B 5)), (8, .ref (B 6)), (9, .int wd), (10, .int (nI T)), (11, .int 0), (12, .int fl), (13, .int (nI (cn - hh))), (14, .int (nI hh)), (15, .int mv), (16, .int (nI t)), (18, .int y), (21, .int (nI ct)), (22, .int (nI i)), (23, .int hd)]) hx hb dL_law_919 hl (k := 23) rfl (nI_1 j) (by decide) rfl (fun ls hl => ?_)
                refine lv_goto (tgt := 776) hx hb dL_law_922 (by decide) ?_
                exact (ih (j + 1) (upd (upd W1 j ((W1 j) + ((G j) + 0))) j 1000) M1 (sm + (((hd * (G j)) * (1000 - (W1 j))) / 8000)) (by omega) (we_gt (wk_yes hW hM (hRp j) (hR1 j) (by omega) (by omega) cq1 cq3 cq5) hW cq6 (Or.inl ⟨cq7, rfl⟩) cq8) (mr_le hM (by rw [cq3]; decide)) (su_yes (wk_yes hW hM (hRp j) (hR1 j) (by omega) (by omega) cq1 cq3 cq5) hW hs)) H locs ls hP hD hS (lv_sub hl [3, 4, 5, 6, 7, 8, 9, 10, 11, 12, 13, 14, 15, 16, 17, 18, 19, 20, 21, 22, 23, 1, 0] rfl)
            · refine lv_iconst (v := 2) hx hb dL_law_892 (by decide) ?_
              refine lv_goto (tgt := 897) hx hb dL_law_893 (by decide) ?_
              refine lv_iadd hx hb dL_law_897 ?_
              refine lv_iadd hx hb dL_law_898 ?_
              refine va_iast hx hb hK hP hD hS 12 0 rfl rfl (vp_in_nI (by omega) (by omega)) dL_law_899 (fun H locs hP hD hS => ?_)
              rw [nI_clamp (n := j) (by omega)] at hP hD
              have hP : va_P dG vwCl ((xW A cA L P G Vf R Nf Yf S wd (nI T) ftf fl cef (nI hf) mof) ++ (lW B cA L P G (upd W1 j ((W1 j) + ((G j) + 2))) M1 S Y1)) H := hP
              have hD : va_D (aNew s.heap) ((xW A cA L P G Vf R Nf Yf S wd (nI T) ftf fl cef (nI hf) mof) ++ (lW B cA L P G (upd W1 j ((W1 j) + ((G j) + 2))) M1 S Y1)) := hD
              refine lv_aload hx hb dL_law_900 (lv_at hl 7 rfl) ?_
              refine lv_iload hx hb dL_law_902 (lv_at hl 23 rfl) ?_
              refine va_iald hx hb hK hP 12 0 rfl rfl (vp_in_nI (by omega) (by omega)) dL_law_904 ?_
              refine lv_topi (fun v9 e9 => ?_)
              rw [nI_clamp (n := j) (by omega)] at e9
              subst e9
              refine lv_sipush (v := 1000) hx hb dL_law_905 (by decide) ?_
              refine lv_icmp_le (tgt := 919) hx hb dL_law_908 (by decide) (fun cq9 => ?_) (fun cq9 => ?_)
              · refine lv_iinc (v := (nI (j + 1))) (lv' := [(25, .int (nI (j + 1))), (24, .int (sm + (((hd * (G j)) * (1000 - (W1 j))) / 8000))), (26, .int 1), (0, .ref b), (1, .ref (A 0)), (2, .ref (B 0)), (3, .ref (B 1)), (4, .ref (B 2)), (5, .ref (B 3)), (6, .ref (B 4)), (7, .ref (B 5)), (8, .ref (B 6)), (9, .int wd), (10, .int (nI T)), (11, .int 0), (12, .int fl), (13, .int (nI (cn - hh))), (14, .int (nI hh)), (15, .int mv), (16, .int (nI t)), (18, .int y), (21, .int (nI ct)), (22, .int (nI i)), (23, .int hd)]) hx hb dL_law_919 hl (k := 23) rfl (nI_1 j) (by decide) rfl (fun ls hl => ?_)
                refine lv_goto (tgt := 776) hx hb dL_law_922 (by decide) ?_
                exact (ih (j + 1) (upd W1 j ((W1 j) + ((G j) + 2))) M1 (sm + (((hd * (G j)) * (1000 - (W1 j))) / 8000)) (by omega) (we_le (wk_yes hW hM (hRp j) (hR1 j) (by omega) (by omega) cq1 cq3 cq5) hW cq6 (Or.inr ⟨cq7, rfl⟩) cq9) (mr_le hM (by rw [cq3]; decide)) (su_yes (wk_yes hW hM (hRp j) (hR1 j) (by omega) (by omega) cq1 cq3 cq5) hW hs)) H locs ls hP hD hS (lv_sub hl [3, 4, 5, 6, 7, 8, 9, 10, 11, 12, 13, 14, 15, 16, 17, 18, 19, 20, 21, 22, 23, 1, 0] rfl)
              · refine lv_aload hx hb dL_law_911 (lv_at hl 7 rfl) ?_
                refine lv_iload hx hb dL_law_913 (lv_at hl 23 rfl) ?_
                refine lv_sipush (v := 1000) hx hb dL_law_915 (by decide) ?_
                refine va_iast hx hb hK hP hD hS 12 0 rfl rfl (vp_in_nI (by omega) (by omega)) dL_law_918 (fun H locs hP hD hS => ?_)
                rw [nI_clamp (n := j) (by omega)] at hP hD
                have hP : va_P dG vwCl ((xW A cA L P G Vf R Nf Yf S wd (nI T) ftf fl cef (nI hf) mof) ++ (lW B cA L P G (upd (upd W1 j ((W1 j) + ((G j) + 2))) j 1000) M1 S Y1)) H := hP
                have hD : va_D (aNew s.heap) ((xW A cA L P G Vf R Nf Yf S wd (nI T) ftf fl cef (nI hf) mof) ++ (lW B cA L P G (upd (upd W1 j ((W1 j) + ((G j) + 2))) j 1000) M1 S Y1)) := hD
                refine lv_iinc (v := (nI (j + 1))) (lv' := [(25, .int (nI (j + 1))), (24, .int (sm + (((hd * (G j)) * (1000 - (W1 j))) / 8000))), (26, .int 1), (0, .ref b), (1, .ref (A 0)), (2, .ref (B 0)), (3, .ref (B 1)), (4, .ref (B 2)), (5, .ref (B 3)), (6, .ref (B 4)), (7, .ref (B 5)), (8, .ref (B 6)), (9, .int wd), (10, .int (nI T)), (11, .int 0), (12, .int fl), (13, .int (nI (cn - hh))), (14, .int (nI hh)), (15, .int mv), (16, .int (nI t)), (18, .int y), (21, .int (nI ct)), (22, .int (nI i)), (23, .int hd)]) hx hb dL_law_919 hl (k := 23) rfl (nI_1 j) (by decide) rfl (fun ls hl => ?_)
                refine lv_goto (tgt := 776) hx hb dL_law_922 (by decide) ?_
                exact (ih (j + 1) (upd (upd W1 j ((W1 j) + ((G j) + 2))) j 1000) M1 (sm + (((hd * (G j)) * (1000 - (W1 j))) / 8000)) (by omega) (we_gt (wk_yes hW hM (hRp j) (hR1 j) (by omega) (by omega) cq1 cq3 cq5) hW cq6 (Or.inr ⟨cq7, rfl⟩) cq9) (mr_le hM (by rw [cq3]; decide)) (su_yes (wk_yes hW hM (hRp j) (hR1 j) (by omega) (by omega) cq1 cq3 cq5) hW hs)) H locs ls hP hD hS (lv_sub hl [3, 4, 5, 6, 7, 8, 9, 10, 11, 12, 13, 14, 15, 16, 17, 18, 19, 20, 21, 22, 23, 1, 0] rfl)
